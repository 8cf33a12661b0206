abbrev qX0_sortLine (cI : ClassId) (a : Nat → Nat) (b : zBS) : Option Value → List va_W → Prop := fun vq wq => ∃ (fz : Int → Int), vq = none ∧ wq = [zBoard cI a (bd_lin_ b fz)] ∧ (srt (bd_lin b) fz (fun y => bd_plc b (bd_scn b y)) (bd_sz b))
set_option maxRecDepth 20000 in
theorem iX0_sortLine_X0 : ∀ w ∈ u_ws RX0 TX0 9, w ∈ wsX0_sortLine := by decide +kernel
set_option maxRecDepth 20000 in
theorem mX0_sortLine_1 : (.fieldLink RX0 33 "StoryPanels$Board" "size" "I" : Cond) ∈ wsX0_sortLine := by decide +kernel
set_option maxHeartbeats 4000000 in
set_option maxRecDepth 100000 in
theorem kX0_sortLine (l : Launch) (D : va_G) (cI cB : ClassId) (a : Nat → Nat) (b : zBS) (hBk : BOK b) : zMet l yX0_sortLine wsX0_sortLine 2 44 0 0 D cI cB [.ref (a 0)] [zBoard cI a b] (qX0_sortLine cI a b) := by
  refine zMet.of (cd := cX0_sortLine) (maxL := 3) (ret := none) (by decide) rfl (Nat.le_of_ble_eq_true rfl) ?_
  intro p e s m args below meth c A ls hS hr hlk hnm hK hA hW hl
  have hS : CallFix p m c cX0_sortLine 3 s args wsX0_sortLine RX0 := hS
  have hx := hS.1
  have hb := hS.2.1
  have hown := hS.2.2.2.1
  have hts := hS.2.2.2.2
  have hl : lv_has ls 3 [(0, .ref (a 0))] := hl
  obtain ⟨hzz, hsf, hlin, hnum, hscn, hdur, hcnt, hcod, hplc⟩ := id hBk
  have hbk : ∀ {g : Int → Int}, (lnL g (bd_sz b).toNat).Perm (lnL (bd_lin b) (bd_sz b).toNat) → BOK (bd_lin_ b g) := fun {g} hg => ⟨hzz, hsf, fun k k1 k2 => by
        obtain ⟨j, hj, he⟩ := lnL_mem hzz.1 hg ⟨k1, k2⟩
        show 0 ≤ g k ∧ g k < 10
        rw [he]; exact hlin j hj.1 hj.2, hnum, hscn, hdur, hcnt, hcod, hplc⟩
  refine lv_iconst (v := zI (1)) hx hb dX0_sortLine_0 rfl ?_
  refine lv_istore_n (lv' := [(1, .int (zI 1)), (0, .ref (a 0))]) hx hb dX0_sortLine_1 rfl hl (by decide) rfl (fun ls hl => ?_)
  have L2 : ∀ (fu : Nat) (kn : Int) (hc : Int → Int), (1 ≤ kn ∧ kn ≤ 10) → (∀ i j, 0 ≤ i → i < j → j < kn → j < bd_sz b → bd_plc b (bd_scn b (hc i)) ≤ bd_plc b (bd_scn b (hc j))) → ((lnL hc (bd_sz b).toNat).Perm (lnL (bd_lin b) (bd_sz b).toNat)) → (∀ v : Int, (lnL hc (bd_sz b).toNat).filter (fun x => decide ((fun y => bd_plc b (bd_scn b y)) x = v)) = (lnL (bd_lin b) (bd_sz b).toNat).filter (fun x => decide ((fun y => bd_plc b (bd_scn b y)) x = v))) → (10 - kn) < (fu : Int) → ∀ (H : Heap) (locs : List Loc), zW D A s.heap [zBoard cI a (bd_lin_ b (hc))] H locs → ∀ (ls : Array Slot), lv_has ls 3 [(0, .ref (a 0)), (1, .int (zI kn))] → W p l e { frames := 2, cells := 0, slots := 0, locals := 44 } s m args below meth c H locs 0 0 (MQ below (zQ A D (qX0_sortLine cI a b)) args s 0 0 A) (F0 m 2 ls []) := by
    intro fu
    induction fu with
    | zero => intro kn hc hkn hPf hPm hFl hm; exact absurd hm (by omega)
    | succ fu ih2 =>
      intro kn hc hkn hPf hPm hFl hm H locs hW ls hl
      have hB2 := hbk hPm
      refine lv_iload_n hx hb dX0_sortLine_2 rfl (lv_at hl 1 rfl) ?_
      refine lv_aload_n hx hb dX0_sortLine_3 rfl (lv_at hl 0 rfl) ?_
      refine va_get (D := D) (ci := 0) (v := .int (zI (bd_sz b))) (C := RX0) (T := TX0) (N := 9) hx hb hts iX0_sortLine_X0 hown hK.1 hW.1 0 rfl rfl 7 (by decide) (hts _ mX0_sortLine_1) (fun _ h9 => h9) rfl dX0_sortLine_4 ?_
      refine z_icmp_ge (tgt := 51) hx hb dX0_sortLine_7 (by decide) (by omega) (fun cc_7 => ?_) (fun cc_7 => ?_)
      · exact z_vret hx hb hr hlk hW dX0_sortLine_51 (by
            exact ⟨hc, rfl, rfl, by exact ⟨fun i j i1 i2 i3 => hPf i j i1 i2 (by omega) i3, hPm, hFl⟩⟩)
      · refine lv_iload_n hx hb dX0_sortLine_10 rfl (lv_at hl 1 rfl) ?_
        refine lv_istore_n (lv' := [(2, .int (zI kn)), (0, .ref (a 0)), (1, .int (zI kn))]) hx hb dX0_sortLine_11 rfl hl (by decide) rfl (fun ls hl => ?_)
        have L12 : ∀ (fu : Nat) (kr : Int) (hd : Int → Int), (0 ≤ kr ∧ kr ≤ kn) → (∀ i j, 0 ≤ i → i < j → j ≤ kn → j ≠ kr → bd_plc b (bd_scn b (hd i)) ≤ bd_plc b (bd_scn b (hd j))) → ((lnL hd (bd_sz b).toNat).Perm (lnL (bd_lin b) (bd_sz b).toNat)) → (∀ v : Int, (lnL hd (bd_sz b).toNat).filter (fun x => decide ((fun y => bd_plc b (bd_scn b y)) x = v)) = (lnL (bd_lin b) (bd_sz b).toNat).filter (fun x => decide ((fun y => bd_plc b (bd_scn b y)) x = v))) → (kr) < (fu : Int) → ∀ (H : Heap) (locs : List Loc), zW D A s.heap [zBoard cI a (bd_lin_ b (hd))] H locs → ∀ (ls : Array Slot), lv_has ls 3 [(0, .ref (a 0)), (1, .int (zI kn)), (2, .int (zI kr))] → W p l e { frames := 2, cells := 0, slots := 0, locals := 44 } s m args below meth c H locs 0 0 (MQ below (zQ A D (qX0_sortLine cI a b)) args s 0 0 A) (F0 m 12 ls []) := by
          intro fu
          induction fu with
          | zero => intro kr hd hkr hQf hQm hQl hm; exact absurd hm (by omega)
          | succ fu ih12 =>
            intro kr hd hkr hQf hQm hQl hm H locs hW ls hl
            have hB3 := hbk hQm
            refine lv_iload_n hx hb dX0_sortLine_12 rfl (lv_at hl 2 rfl) ?_
            refine z_if_le (tgt := 45) hx hb dX0_sortLine_13 (by decide) (by omega) (fun cc_13 => ?_) (fun cc_13 => ?_)
            · have hfin : ∀ i j, 0 ≤ i → i < j → j ≤ kn → bd_plc b (bd_scn b (hd i)) ≤ bd_plc b (bd_scn b (hd j)) := fun i j i1 i2 i3 => hQf i j i1 i2 i3 (by omega)
              refine z_iinc (x := kn) (lv' := [(1, .int (zI (kn + 1))), (0, .ref (a 0)), (2, .int (zI kr))]) hx hb dX0_sortLine_45 hl (k := 1) rfl (by decide) rfl (fun ls hl => ?_)
              refine lv_goto (tgt := 2) hx hb dX0_sortLine_48 (by decide) ?_
              exact ih2 (kn + 1) hd (by omega) (by first | exact fun i j i1 i2 i3 i4 => hfin i j i1 i2 (by omega) | exact fun i j i1 i2 i3 i4 => hQf i j i1 i2 (by omega) (by omega)) (by exact hQm) (by exact hQl) (by omega) _ _ hW ls (lv_sub hl [1, 0] rfl)
            · refine lv_aload_n hx hb dX0_sortLine_16 rfl (lv_at hl 0 rfl) ?_
              refine lv_iload_n hx hb dX0_sortLine_17 rfl (lv_at hl 2 rfl) ?_
              refine lv_iconst (v := zI (1)) hx hb dX0_sortLine_18 rfl ?_
              refine z_isub hx hb dX0_sortLine_19 ?_
              refine z_callV (r := (RX0, TX0, 9)) (As := [.int (zI (kr - 1))]) (rest := []) hS hK hA hW hl.1 [0] [] (kX0_scenePlaceAt l D cI cB a ((bd_lin_ b (hd))) (kr - 1) hB3 (by (show 0 ≤ kr - 1 ∧ kr - 1 < bd_sz b; omega))) (cwV 1 hts gX0_sortLine_X0_scenePlaceAt rfl rfl rfl (by decide +kernel) ⟨Nat.le_of_ble_eq_true rfl, Nat.le_of_ble_eq_true rfl⟩) (rfl : vwCl[0]? = some (RX0, TX0, 9)) (q0 := 0) rfl dX0_sortLine_20 rfl rfl rfl rfl rfl (Nat.le_of_ble_eq_true rfl) ⟨Nat.le_of_ble_eq_true rfl, Nat.le_of_ble_eq_true rfl⟩ (fun v9 w9 H locs hq hW => ?_)
              obtain ⟨rr_20, rfl, rfl, hh_20⟩ := hq
              subst rr_20
              have hW : zW D A s.heap [zBoard cI a (bd_lin_ b (hd))] H locs := hW
              refine W.eq (g2 := F0 m 23 ls [.int (zI (bd_plc ((bd_lin_ b (hd))) (bd_scn ((bd_lin_ b (hd))) (bd_lin ((bd_lin_ b (hd))) (kr - 1)))))]) rfl ?_
              rw [show (bd_plc ((bd_lin_ b (hd))) (bd_scn ((bd_lin_ b (hd))) (bd_lin ((bd_lin_ b (hd))) (kr - 1)))) = (bd_plc b (bd_scn b (hd (kr - 1)))) by rfl]
              refine lv_aload_n hx hb dX0_sortLine_23 rfl (lv_at hl 0 rfl) ?_
              refine lv_iload_n hx hb dX0_sortLine_24 rfl (lv_at hl 2 rfl) ?_
              refine z_callV (r := (RX0, TX0, 9)) (As := [.int (zI kr)]) (rest := [.int (zI (bd_plc b (bd_scn b (hd (kr - 1)))))]) hS hK hA hW hl.1 [0] [] (kX0_scenePlaceAt l D cI cB a ((bd_lin_ b (hd))) kr hB3 (by (show 0 ≤ kr ∧ kr < bd_sz b; omega))) (cwV 1 hts gX0_sortLine_X0_scenePlaceAt rfl rfl rfl (by decide +kernel) ⟨Nat.le_of_ble_eq_true rfl, Nat.le_of_ble_eq_true rfl⟩) (rfl : vwCl[0]? = some (RX0, TX0, 9)) (q0 := 0) rfl dX0_sortLine_25 rfl rfl rfl rfl rfl (Nat.le_of_ble_eq_true rfl) ⟨Nat.le_of_ble_eq_true rfl, Nat.le_of_ble_eq_true rfl⟩ (fun v9 w9 H locs hq hW => ?_)
              obtain ⟨rr_25, rfl, rfl, hh_25⟩ := hq
              subst rr_25
              have hW : zW D A s.heap [zBoard cI a (bd_lin_ b (hd))] H locs := hW
              refine W.eq (g2 := F0 m 28 ls [.int (zI (bd_plc ((bd_lin_ b (hd))) (bd_scn ((bd_lin_ b (hd))) (bd_lin ((bd_lin_ b (hd))) kr)))), .int (zI (bd_plc b (bd_scn b (hd (kr - 1)))))]) rfl ?_
              rw [show (bd_plc ((bd_lin_ b (hd))) (bd_scn ((bd_lin_ b (hd))) (bd_lin ((bd_lin_ b (hd))) kr))) = (bd_plc b (bd_scn b (hd kr))) by rfl]
              have hka := key_rg hB3 (k := kr - 1) (by show 0 ≤ kr - 1 ∧ kr - 1 < bd_sz b; omega)
              have hkb := key_rg hB3 (k := kr) (by show 0 ≤ kr ∧ kr < bd_sz b; omega)
              replace hka : 0 ≤ bd_plc b (bd_scn b (hd (kr - 1))) ∧ bd_plc b (bd_scn b (hd (kr - 1))) < 5 := hka
              replace hkb : 0 ≤ bd_plc b (bd_scn b (hd kr)) ∧ bd_plc b (bd_scn b (hd kr)) < 5 := hkb
              refine z_icmp_gt (tgt := 34) hx hb dX0_sortLine_28 (by decide) (by omega) (fun cc_28 => ?_) (fun cc_28 => ?_)
              · refine lv_aload_n hx hb dX0_sortLine_34 rfl (lv_at hl 0 rfl) ?_
                refine lv_iload_n hx hb dX0_sortLine_35 rfl (lv_at hl 2 rfl) ?_
                refine z_callV (r := (RX0, TX0, 9)) (As := [.int (zI kr)]) (rest := []) hS hK hA hW hl.1 [0] [] (kX0_swapWithPrevious l D cI cB a ((bd_lin_ b (hd))) kr hB3 (by (show 1 ≤ kr ∧ kr < bd_sz b; omega))) (cwV 1 hts gX0_sortLine_X0_swapWithPrevious rfl rfl rfl (by decide +kernel) ⟨Nat.le_of_ble_eq_true rfl, Nat.le_of_ble_eq_true rfl⟩) (rfl : vwCl[0]? = some (RX0, TX0, 9)) (q0 := 0) rfl dX0_sortLine_36 rfl rfl rfl rfl rfl (Nat.le_of_ble_eq_true rfl) ⟨Nat.le_of_ble_eq_true rfl, Nat.le_of_ble_eq_true rfl⟩ (fun v9 w9 H locs hq hW => ?_)
                obtain ⟨rfl, rfl, hh_36⟩ := hq
                have hW : zW D A s.heap [zBoard cI a (bd_lin_ ((bd_lin_ b (hd))) (zU (zU (bd_lin ((bd_lin_ b (hd)))) kr (bd_lin ((bd_lin_ b (hd))) (kr - 1))) (kr - 1) (bd_lin ((bd_lin_ b (hd))) kr)))] H locs := hW
                refine W.eq (g2 := F0 m 39 ls []) rfl ?_
                refine z_iinc (x := kr) (lv' := [(2, .int (zI (kr + (-1)))), (0, .ref (a 0)), (1, .int (zI kn))]) hx hb dX0_sortLine_39 hl (k := 2) rfl (by decide) rfl (fun ls hl => ?_)
                refine lv_goto (tgt := 12) hx hb dX0_sortLine_42 (by decide) ?_
                exact ih12 (kr + (-1)) (bd_lin (bd_lin_ ((bd_lin_ b (hd))) (zU (zU (bd_lin ((bd_lin_ b (hd)))) kr (bd_lin ((bd_lin_ b (hd))) (kr - 1))) (kr - 1) (bd_lin ((bd_lin_ b (hd))) kr)))) (by omega) (by exact swF_srt hQf (by omega) cc_28) (by exact (lnL_sw_perm hd (by omega)).trans hQm) (by exact fun v => (lnL_sw_filter hd (by omega) _ (fun q1 q2 => by simp only [decide_eq_true_eq] at q1 q2; omega)).trans (hQl v)) (by omega) _ _ hW ls (lv_sub hl [1, 2, 0] rfl)
              · have hfin : ∀ i j, 0 ≤ i → i < j → j ≤ kn → bd_plc b (bd_scn b (hd i)) ≤ bd_plc b (bd_scn b (hd j)) := swF_end hQf (by omega) cc_28
                refine lv_goto (tgt := 45) hx hb dX0_sortLine_31 (by decide) ?_
                refine z_iinc (x := kn) (lv' := [(1, .int (zI (kn + 1))), (0, .ref (a 0)), (2, .int (zI kr))]) hx hb dX0_sortLine_45 hl (k := 1) rfl (by decide) rfl (fun ls hl => ?_)
                refine lv_goto (tgt := 2) hx hb dX0_sortLine_48 (by decide) ?_
                exact ih2 (kn + 1) hd (by omega) (by first | exact fun i j i1 i2 i3 i4 => hfin i j i1 i2 (by omega) | exact fun i j i1 i2 i3 i4 => hQf i j i1 i2 (by omega) (by omega)) (by exact hQm) (by exact hQl) (by omega) _ _ hW ls (lv_sub hl [1, 0] rfl)
        exact L12 (((kn) : Int).toNat + 1) kn hc (by omega) (by exact fun i j i1 i2 i3 i4 => hPf i j i1 i2 (by omega) (by omega)) (by exact hPm) (by exact hFl) (by omega) _ _ hW ls (lv_sub hl [1, 2, 0] rfl)
  exact L2 (((10 - 1) : Int).toNat + 1) 1 (bd_lin b) (by omega) (by intro i j i1 i2 i3; omega) (by exact List.Perm.refl _) (by exact fun v => rfl) (by omega) _ _ hW ls (lv_sub hl [1, 0] rfl)
