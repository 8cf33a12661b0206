abbrev qX1_findUndrawn (cI : ClassId) (a : Nat → Nat) (cn : zCS) (g : zGs) (lv : List zEv) (num : Int) : Option Value → List va_W → Prop := fun vq wq => ∃ (cz : zCS), vq = none ∧ wq = [zCont cI a (cz)] ∧ (RC cz (g.1, g.2.1, g.2.2 ++ undrW num lv g.1 4))
set_option maxRecDepth 20000 in
theorem iX1_findUndrawn_X1 : ∀ w ∈ u_ws RX1 TX1 6, w ∈ wsX1_findUndrawn := by decide +kernel
set_option maxRecDepth 20000 in
theorem mX1_findUndrawn_1 : (.fieldLink RX1 21 "StoryPanels$Continuity" "seen" "I" : Cond) ∈ wsX1_findUndrawn := by decide +kernel
set_option maxRecDepth 20000 in
theorem mX1_findUndrawn_2 : (.fieldLink RX1 18 "StoryPanels$Continuity" "drawnProps" "[I" : Cond) ∈ wsX1_findUndrawn := by decide +kernel
set_option maxRecDepth 20000 in
theorem mX1_findUndrawn_3 : (.initialized RX4 : Cond) ∈ wsX1_findUndrawn := by decide +kernel
set_option maxRecDepth 20000 in
theorem mX1_findUndrawn_4 : (.static yX4_cell : Cond) ∈ wsX1_findUndrawn := by decide +kernel
set_option maxRecDepth 20000 in
theorem mX1_findUndrawn_5 : (.fieldLink RX1 9 "StoryPanels$Continuity" "holders" "[I" : Cond) ∈ wsX1_findUndrawn := by decide +kernel
set_option maxHeartbeats 4000000 in
set_option maxRecDepth 100000 in
theorem kX1_findUndrawn (l : Launch) (D : va_G) (cI cB : ClassId) (a : Nat → Nat) (cn : zCS) (g : zGs) (lv : List zEv) (num : Int) (hRC : RC cn g) (hgk : gOK g) (hsk : seenOK (ct_seen cn) lv) (hdk : drnOK (ct_drn cn) lv) (hlen : g.2.2.length ≤ 150) : zMet l yX1_findUndrawn wsX1_findUndrawn 1 26 0 0 D cI cB [.ref (a 0), .int (zI num)] [zCont cI a cn] (qX1_findUndrawn cI a cn g lv num) := by
  refine zMet.of (cd := cX1_findUndrawn) (maxL := 5) (ret := none) (by decide) rfl (Nat.le_of_ble_eq_true rfl) ?_
  intro p e s m args below meth c A ls hS hr hlk hnm hK hA hW hl
  have hS : CallFix p m c cX1_findUndrawn 5 s args wsX1_findUndrawn RX1 := hS
  have hx := hS.1
  have hb := hS.2.1
  have hown := hS.2.2.2.1
  have hts := hS.2.2.2.2
  have hl : lv_has ls 5 [(0, .ref (a 0)), (1, .int (zI num))] := hl
  have hsk1 := hsk.1
  refine lv_iconst (v := zI (0)) hx hb dX1_findUndrawn_0 rfl ?_
  refine lv_istore_n (lv' := [(2, .int (zI 0)), (0, .ref (a 0)), (1, .int (zI num))]) hx hb dX1_findUndrawn_1 rfl hl (by decide) rfl (fun ls hl => ?_)
  have L2 : ∀ (fu : Nat) (kw : Int) (c2 : zCS), (0 ≤ kw ∧ kw ≤ 4) → (RC c2 (g.1, g.2.1, g.2.2 ++ undrW num lv g.1 kw.toNat)) → (ct_seen c2 = ct_seen cn) → (ct_drn c2 = ct_drn cn) → (4 - kw) < (fu : Int) → ∀ (H : Heap) (locs : List Loc), zW D A s.heap [zCont cI a c2] H locs → ∀ (ls : Array Slot), lv_has ls 5 [(0, .ref (a 0)), (1, .int (zI num)), (2, .int (zI kw))] → W p l e { frames := 1, cells := 0, slots := 0, locals := 26 } s m args below meth c H locs 0 0 (MQ below (zQ A D (qX1_findUndrawn cI a cn g lv num)) args s 0 0 A) (F0 m 2 ls []) := by
    intro fu
    induction fu with
    | zero => intro kw c2 hkw hRw hse hde hm; exact absurd hm (by omega)
    | succ fu ih2 =>
      intro kw c2 hkw hRw hse hde hm H locs hW ls hl
      have hsg : 0 ≤ ct_seen c2 ∧ ct_seen c2 < 1024 := by rw [hse]; exact hsk1
      refine lv_iload_n hx hb dX1_findUndrawn_2 rfl (lv_at hl 2 rfl) ?_
      refine lv_iconst (v := zI (4)) hx hb dX1_findUndrawn_3 rfl ?_
      refine z_icmp_ge (tgt := 85) hx hb dX1_findUndrawn_4 (by decide) (by omega) (fun cc_4 => ?_) (fun cc_4 => ?_)
      · exact z_vret hx hb hr hlk hW dX1_findUndrawn_85 (by
            exact ⟨c2, rfl, rfl, by (rw [show kw = 4 by omega] at hRw; exact hRw)⟩)
      · refine lv_aload_n hx hb dX1_findUndrawn_7 rfl (lv_at hl 0 rfl) ?_
        refine va_get (D := D) (ci := 1) (v := .int (zI (ct_seen c2))) (C := RX1) (T := TX1) (N := 6) hx hb hts iX1_findUndrawn_X1 hown hK.1 hW.1 0 rfl rfl 3 (by decide) (hts _ mX1_findUndrawn_1) (fun _ h9 => h9) rfl dX1_findUndrawn_8 ?_
        refine lv_iload_n hx hb dX1_findUndrawn_11 rfl (lv_at hl 2 rfl) ?_
        refine z_ishr hx hb dX1_findUndrawn_12 (by omega) ?_
        refine lv_iconst (v := zI (1)) hx hb dX1_findUndrawn_13 rfl ?_
        refine z_iand hx hb dX1_findUndrawn_14 (by (refine ⟨?_, by omega⟩; unfold zshr; exact Int.natCast_nonneg _)) ?_
        refine z_if_ne (tgt := 21) hx hb dX1_findUndrawn_15 (by decide) (by (rw [zbit_and]; split <;> omega)) (fun cc_15 => ?_) (fun cc_15 => ?_)
        · have hzb : zbit (ct_seen c2) kw = true := by rw [zbit_and] at cc_15; split at cc_15; assumption; omega
          refine lv_aload_n hx hb dX1_findUndrawn_21 rfl (lv_at hl 0 rfl) ?_
          refine va_get (D := D) (ci := 1) (v := .ref (a 3)) (C := RX1) (T := TX1) (N := 6) hx hb hts iX1_findUndrawn_X1 hown hK.1 hW.1 0 rfl rfl 2 (by decide) (hts _ mX1_findUndrawn_2) (fun _ h9 => h9) rfl dX1_findUndrawn_22 ?_
          refine lv_iload_n hx hb dX1_findUndrawn_25 rfl (lv_at hl 2 rfl) ?_
          refine z_cell (n := 4) (g := ct_drn c2) (i := kw) (rest := []) hS hK hA hW hl.1 3 rfl (gX1_findUndrawn_X4_cell_n82) nm_25 (mX1_findUndrawn_3) (mX1_findUndrawn_4) ⟨Nat.le_of_ble_eq_true rfl, Nat.le_of_ble_eq_true rfl⟩ dX1_findUndrawn_26 (by omega) (Nat.le_of_ble_eq_true rfl) ⟨Nat.le_of_ble_eq_true rfl, Nat.le_of_ble_eq_true rfl⟩ (fun H locs hW => ?_)
          rw [show ((ct_drn c2) kw) = (ct_drn cn kw) by rw [hde]]
          refine lv_istore_n (lv' := [(3, .int (zI (ct_drn cn kw))), (0, .ref (a 0)), (1, .int (zI num)), (2, .int (zI kw))]) hx hb dX1_findUndrawn_29 rfl hl (by decide) rfl (fun ls hl => ?_)
          refine lv_iconst (v := zI (0)) hx hb dX1_findUndrawn_30 rfl ?_
          refine lv_istore (lv' := [(4, .int (zI 0)), (3, .int (zI (ct_drn cn kw))), (0, .ref (a 0)), (1, .int (zI num)), (2, .int (zI kw))]) hx hb dX1_findUndrawn_31 hl (by decide) rfl (fun ls hl => ?_)
          have L33 : ∀ (fu : Nat) (kp : Int) (c3 : zCS), (0 ≤ kp ∧ kp ≤ 10) → (RC c3 (g.1, g.2.1, g.2.2 ++ (undrW num lv g.1 kw.toNat ++ undrP num lv g.1 kw kp.toNat))) → (ct_seen c3 = ct_seen cn) → (ct_drn c3 = ct_drn cn) → (10 - kp) < (fu : Int) → ∀ (H : Heap) (locs : List Loc), zW D A s.heap [zCont cI a c3] H locs → ∀ (ls : Array Slot), lv_has ls 5 [(0, .ref (a 0)), (1, .int (zI num)), (2, .int (zI kw)), (3, .int (zI (ct_drn cn kw))), (4, .int (zI kp))] → W p l e { frames := 1, cells := 0, slots := 0, locals := 26 } s m args below meth c H locs 0 0 (MQ below (zQ A D (qX1_findUndrawn cI a cn g lv num)) args s 0 0 A) (F0 m 33 ls []) := by
            intro fu
            induction fu with
            | zero => intro kp c3 hkp hRp hse3 hde3 hm; exact absurd hm (by omega)
            | succ fu ih33 =>
              intro kp c3 hkp hRp hse3 hde3 hm H locs hW ls hl
              have hut := undr_le num lv g.1 (w := kw.toNat) (n := kp.toNat) (by omega)
              rw [show ((kw.toNat : Nat) : Int) = kw by omega] at hut
              have hnb := hRp.2.2.1
              have hhg := hgk.1 kp
              refine lv_iload hx hb dX1_findUndrawn_33 (lv_at hl 4 rfl) ?_
              refine lv_bipush (v := zI (10)) hx hb dX1_findUndrawn_35 (by decide +kernel) ?_
              refine z_icmp_ge (tgt := 79) hx hb dX1_findUndrawn_37 (by decide) (by omega) (fun cc_37 => ?_) (fun cc_37 => ?_)
              · refine z_iinc (x := kw) (lv' := [(2, .int (zI (kw + 1))), (0, .ref (a 0)), (1, .int (zI num)), (3, .int (zI (ct_drn cn kw))), (4, .int (zI kp))]) hx hb dX1_findUndrawn_79 hl (k := 2) rfl (by decide) rfl (fun ls hl => ?_)
                refine lv_goto (tgt := 2) hx hb dX1_findUndrawn_82 (by decide) ?_
                exact ih2 (kw + 1) c3 (by omega) (by first | exact RC_eq hRp (by rw [undrW_s _ _ _ hkw.1, show kp = 10 by omega]; rfl) | exact RC_eq hRw (by rw [undrW_s _ _ _ hkw.1, undrP_none _ (by rw [← hsk.2 kw (by omega) (by omega), ← hse]; exact hzb)]; simp)) (by first | exact hse3 | exact hse) (by first | exact hde3 | exact hde) (by omega) _ _ hW ls (lv_sub hl [1, 2, 0] rfl)
              · refine lv_aload_n hx hb dX1_findUndrawn_40 rfl (lv_at hl 0 rfl) ?_
                refine va_get (D := D) (ci := 1) (v := .ref (a 1)) (C := RX1) (T := TX1) (N := 6) hx hb hts iX1_findUndrawn_X1 hown hK.1 hW.1 0 rfl rfl 0 (by decide) (hts _ mX1_findUndrawn_5) (fun _ h9 => h9) rfl dX1_findUndrawn_41 ?_
                refine lv_iload hx hb dX1_findUndrawn_44 (lv_at hl 4 rfl) ?_
                refine z_cell (n := 10) (g := ct_hold c3) (i := kp) (rest := []) hS hK hA hW hl.1 1 rfl (gX1_findUndrawn_X4_cell_n82) nm_25 (mX1_findUndrawn_3) (mX1_findUndrawn_4) ⟨Nat.le_of_ble_eq_true rfl, Nat.le_of_ble_eq_true rfl⟩ dX1_findUndrawn_46 (by omega) (Nat.le_of_ble_eq_true rfl) ⟨Nat.le_of_ble_eq_true rfl, Nat.le_of_ble_eq_true rfl⟩ (fun H locs hW => ?_)
                rw [show ((ct_hold c3) kp) = (g.1 kp) by exact hRp.1 _ (by omega) (by omega)]
                refine lv_iload_n hx hb dX1_findUndrawn_49 rfl (lv_at hl 2 rfl) ?_
                refine z_icmp_ne (tgt := 73) hx hb dX1_findUndrawn_50 (by decide) (by omega) (fun cc_50 => ?_) (fun cc_50 => ?_)
                · have hun : undr lv g.1 kw kp = false := by rw [undr_t hsk hdk (by omega) (by omega)]; simp [cc_50]
                  refine z_iinc (x := kp) (lv' := [(4, .int (zI (kp + 1))), (0, .ref (a 0)), (1, .int (zI num)), (2, .int (zI kw)), (3, .int (zI (ct_drn cn kw)))]) hx hb dX1_findUndrawn_73 hl (k := 4) rfl (by decide) rfl (fun ls hl => ?_)
                  refine lv_goto (tgt := 33) hx hb dX1_findUndrawn_76 (by decide) ?_
                  exact ih33 (kp + 1) c3 (by omega) (by first | exact RC_eq (RC_add hRp _) (by rw [undrP_s _ _ _ _ hkp.1, hun]; simp) | exact RC_eq hRp (by rw [undrP_s _ _ _ _ hkp.1, hun]; simp)) (by exact hse3) (by exact hde3) (by omega) _ _ hW ls (lv_sub hl [1, 2, 3, 4, 0] rfl)
                · refine lv_iload_n hx hb dX1_findUndrawn_53 rfl (lv_at hl 3 rfl) ?_
                  refine lv_iload hx hb dX1_findUndrawn_54 (lv_at hl 4 rfl) ?_
                  refine z_ishr hx hb dX1_findUndrawn_56 (by (have := hdk kw (by omega) (by omega); omega)) ?_
                  refine lv_iconst (v := zI (1)) hx hb dX1_findUndrawn_57 rfl ?_
                  refine z_iand hx hb dX1_findUndrawn_58 (by (refine ⟨?_, by omega⟩; unfold zshr; exact Int.natCast_nonneg _)) ?_
                  refine z_if_ne (tgt := 73) hx hb dX1_findUndrawn_59 (by decide) (by (rw [zbit_and]; split <;> omega)) (fun cc_59 => ?_) (fun cc_59 => ?_)
                  · have hun : undr lv g.1 kw kp = false := by
                      rw [undr_t hsk hdk (by omega) (by omega)]
                      rw [zbit_and] at cc_59
                      split at cc_59
                      · next hzq => simp [hzq]
                      · omega
                    refine z_iinc (x := kp) (lv' := [(4, .int (zI (kp + 1))), (0, .ref (a 0)), (1, .int (zI num)), (2, .int (zI kw)), (3, .int (zI (ct_drn cn kw)))]) hx hb dX1_findUndrawn_73 hl (k := 4) rfl (by decide) rfl (fun ls hl => ?_)
                    refine lv_goto (tgt := 33) hx hb dX1_findUndrawn_76 (by decide) ?_
                    exact ih33 (kp + 1) c3 (by omega) (by first | exact RC_eq (RC_add hRp _) (by rw [undrP_s _ _ _ _ hkp.1, hun]; simp) | exact RC_eq hRp (by rw [undrP_s _ _ _ _ hkp.1, hun]; simp)) (by exact hse3) (by exact hde3) (by omega) _ _ hW ls (lv_sub hl [1, 2, 3, 4, 0] rfl)
                  · have hun : undr lv g.1 kw kp = true := by
                      rw [undr_t hsk hdk (by omega) (by omega), ← hse, hzb]
                      rw [zbit_and] at cc_59
                      split at cc_59
                      · omega
                      · next hzq => simp [hzq, cc_50]
                    have hut2 := undr_le num lv g.1 (w := kw.toNat) (n := (kp + 1).toNat) (by omega)
                    rw [show ((kw.toNat : Nat) : Int) = kw by omega, undrP_s _ _ _ _ hkp.1, hun] at hut2
                    simp at hut2
                    refine lv_aload_n hx hb dX1_findUndrawn_62 rfl (lv_at hl 0 rfl) ?_
                    refine lv_iload_n hx hb dX1_findUndrawn_63 rfl (lv_at hl 1 rfl) ?_
                    refine lv_iconst (v := zI (4)) hx hb dX1_findUndrawn_64 rfl ?_
                    refine lv_iload_n hx hb dX1_findUndrawn_65 rfl (lv_at hl 2 rfl) ?_
                    refine lv_iload hx hb dX1_findUndrawn_66 (lv_at hl 4 rfl) ?_
                    refine lv_bipush (v := zI (-5)) hx hb dX1_findUndrawn_68 (by decide +kernel) ?_
                    refine z_callV (r := (RX1, TX1, 6)) (As := [.int (zI num), .int (zI 4), .int (zI kw), .int (zI kp), .int (zI ((-5)))]) (rest := []) hS hK hA hW hl.1 [0] [] (kX1_addBreak l D cI cB a c3 num 4 kw kp ((-5)) (by (rw [hnb]; simp; omega))) (cwV 5 hts gX1_findUndrawn_X1_addBreak rfl rfl rfl (by decide +kernel) ⟨Nat.le_of_ble_eq_true rfl, Nat.le_of_ble_eq_true rfl⟩) (rfl : vwCl[1]? = some (RX1, TX1, 6)) (q0 := 0) rfl dX1_findUndrawn_70 rfl rfl rfl rfl rfl (Nat.le_of_ble_eq_true rfl) ⟨Nat.le_of_ble_eq_true rfl, Nat.le_of_ble_eq_true rfl⟩ (fun v9 w9 H locs hq hW => ?_)
                    obtain ⟨rfl, rfl, hh_70⟩ := hq
                    have hW : zW D A s.heap [zCont cI a (addBk c3 (num, 4, kw, kp, ((-5))))] H locs := hW
                    refine W.eq (g2 := F0 m 73 ls []) rfl ?_
                    refine z_iinc (x := kp) (lv' := [(4, .int (zI (kp + 1))), (0, .ref (a 0)), (1, .int (zI num)), (2, .int (zI kw)), (3, .int (zI (ct_drn cn kw)))]) hx hb dX1_findUndrawn_73 hl (k := 4) rfl (by decide) rfl (fun ls hl => ?_)
                    refine lv_goto (tgt := 33) hx hb dX1_findUndrawn_76 (by decide) ?_
                    exact ih33 (kp + 1) ((addBk c3 (num, 4, kw, kp, ((-5))))) (by omega) (by first | exact RC_eq (RC_add hRp _) (by rw [undrP_s _ _ _ _ hkp.1, hun]; simp) | exact RC_eq hRp (by rw [undrP_s _ _ _ _ hkp.1, hun]; simp)) (by exact hse3) (by exact hde3) (by omega) _ _ hW ls (lv_sub hl [1, 2, 3, 4, 0] rfl)
          exact L33 (((10 - 0) : Int).toNat + 1) 0 c2 (by omega) (by simpa [undrP] using hRw) (by exact hse) (by exact hde) (by omega) _ _ hW ls (lv_sub hl [2, 3, 4, 1, 0] rfl)
        · have hzb : zbit (ct_seen c2) kw = false := by
            rw [zbit_and] at cc_15
            split at cc_15
            · omega
            · next hzq => simpa using hzq
          refine lv_goto (tgt := 79) hx hb dX1_findUndrawn_18 (by decide) ?_
          refine z_iinc (x := kw) (lv' := [(2, .int (zI (kw + 1))), (0, .ref (a 0)), (1, .int (zI num))]) hx hb dX1_findUndrawn_79 hl (k := 2) rfl (by decide) rfl (fun ls hl => ?_)
          refine lv_goto (tgt := 2) hx hb dX1_findUndrawn_82 (by decide) ?_
          exact ih2 (kw + 1) c2 (by omega) (by first | exact RC_eq hRp (by rw [undrW_s _ _ _ hkw.1, show kp = 10 by omega]; rfl) | exact RC_eq hRw (by rw [undrW_s _ _ _ hkw.1, undrP_none _ (by rw [← hsk.2 kw (by omega) (by omega), ← hse]; exact hzb)]; simp)) (by first | exact hse3 | exact hse) (by first | exact hde3 | exact hde) (by omega) _ _ hW ls (lv_sub hl [1, 2, 0] rfl)
  exact L2 (((4 - 0) : Int).toNat + 1) 0 cn (by omega) (by simpa [undrW] using hRC) (by rfl) (by rfl) (by omega) _ _ hW ls (lv_sub hl [1, 2, 0] rfl)

abbrev qX1_passPanel (cI : ClassId) (a : Nat → Nat) (cn : zCS) (a2 : Nat → Nat) (b : zBS) (g : zGs) (pn : zPn) (x : Int) : Option Value → List va_W → Prop := fun vq wq => ∃ (cz : zCS), vq = none ∧ wq = [zCont cI a (cz), zBoard cI a2 b] ∧ (RC cz (panGo pn g))
set_option maxRecDepth 20000 in
theorem iX1_passPanel_X1 : ∀ w ∈ u_ws RX1 TX1 6, w ∈ wsX1_passPanel := by decide +kernel
set_option maxRecDepth 20000 in
theorem mX1_passPanel_1 : (.fieldLink RX1 18 "StoryPanels$Continuity" "drawnProps" "[I" : Cond) ∈ wsX1_passPanel := by decide +kernel
set_option maxRecDepth 20000 in
theorem mX1_passPanel_2 : (.initialized RX4 : Cond) ∈ wsX1_passPanel := by decide +kernel
set_option maxRecDepth 20000 in
theorem mX1_passPanel_3 : (.static yX4_fillRow : Cond) ∈ wsX1_passPanel := by decide +kernel
set_option maxRecDepth 20000 in
theorem mX1_passPanel_4 : (.fieldLink RX1 21 "StoryPanels$Continuity" "seen" "I" : Cond) ∈ wsX1_passPanel := by decide +kernel
set_option maxRecDepth 20000 in
theorem mX1_passPanel_5 : (.static yX4_characterIn : Cond) ∈ wsX1_passPanel := by decide +kernel
set_option maxRecDepth 20000 in
theorem mX1_passPanel_6 : (.static yX4_kindIn : Cond) ∈ wsX1_passPanel := by decide +kernel
set_option maxRecDepth 20000 in
theorem mX1_passPanel_7 : (.static yX4_takesProp : Cond) ∈ wsX1_passPanel := by decide +kernel
set_option maxHeartbeats 4000000 in
set_option maxRecDepth 100000 in
theorem kX1_passPanel (l : Launch) (D : va_G) (cI cB : ClassId) (a : Nat → Nat) (cn : zCS) (a2 : Nat → Nat) (b : zBS) (g : zGs) (pn : zPn) (x : Int) (hRC : RC cn g) (hgk : gOK g) (hBk : BOK b) (hx1 : 0 ≤ x ∧ x < 10) (hsH : slotHas b x pn) (hpn : pnOK pn) (hlen : g.2.2.length ≤ 144) : zMet l yX1_passPanel wsX1_passPanel 2 53 0 0 D cI cB [.ref (a 0), .ref (a2 0), .int (zI x)] [zCont cI a cn, zBoard cI a2 b] (qX1_passPanel cI a cn a2 b g pn x) := by
  refine zMet.of (cd := cX1_passPanel) (maxL := 7) (ret := none) (by decide) rfl (Nat.le_of_ble_eq_true rfl) ?_
  intro p e s m args below meth c A ls hS hr hlk hnm hK hA hW hl
  have hS : CallFix p m c cX1_passPanel 7 s args wsX1_passPanel RX1 := hS
  have hx := hS.1
  have hb := hS.2.1
  have hown := hS.2.2.2.1
  have hts := hS.2.2.2.2
  have hl : lv_has ls 7 [(0, .ref (a 0)), (1, .ref (a2 0)), (2, .int (zI x))] := hl
  have hcl := hpn.2.2.2.1
  refine lv_aload_n hx hb dX1_passPanel_0 rfl (lv_at hl 1 rfl) ?_
  refine lv_iload_n hx hb dX1_passPanel_1 rfl (lv_at hl 2 rfl) ?_
  refine z_callV (r := (RX0, TX0, 9)) (As := [.int (zI x)]) (rest := []) hS hK hA hW hl.1 [1] [0] (kX0_numberOf l D cI cB a2 b x hBk (by omega)) (cwV 1 hts gX1_passPanel_X0_numberOf rfl rfl rfl (by decide +kernel) ⟨Nat.le_of_ble_eq_true rfl, Nat.le_of_ble_eq_true rfl⟩) (rfl : vwCl[0]? = some (RX0, TX0, 9)) (q0 := 5) rfl dX1_passPanel_2 rfl rfl rfl rfl rfl (Nat.le_of_ble_eq_true rfl) ⟨Nat.le_of_ble_eq_true rfl, Nat.le_of_ble_eq_true rfl⟩ (fun v9 w9 H locs hq hW => ?_)
  obtain ⟨rr_2, rfl, rfl, hh_2⟩ := hq
  subst rr_2
  have hW : zW D A s.heap [zBoard cI a2 b, zCont cI a cn] H locs := hW
  have hW : zW D A s.heap [zCont cI a cn, zBoard cI a2 b] H locs := hW.pick [1, 0] rfl rfl
  refine W.eq (g2 := F0 m 5 ls [.int (zI (bd_num b x))]) rfl ?_
  rw [show (bd_num b x) = pn.1 by exact hsH.1]
  refine lv_istore_n (lv' := [(3, .int (zI pn.1)), (0, .ref (a 0)), (1, .ref (a2 0)), (2, .int (zI x))]) hx hb dX1_passPanel_5 rfl hl (by decide) rfl (fun ls hl => ?_)
  refine lv_aload_n hx hb dX1_passPanel_6 rfl (lv_at hl 2 rfl) ?_
  refine lv_iload_n hx hb dX1_passPanel_7 rfl (lv_at hl 3 rfl) ?_
  refine z_callV (r := (RX0, TX0, 9)) (As := [.int (zI x)]) (rest := []) hS hK hA hW hl.1 [1] [0] (kX0_eventsIn l D cI cB a2 b x hBk (by omega)) (cwV 1 hts gX1_passPanel_X0_eventsIn rfl rfl rfl (by decide +kernel) ⟨Nat.le_of_ble_eq_true rfl, Nat.le_of_ble_eq_true rfl⟩) (rfl : vwCl[0]? = some (RX0, TX0, 9)) (q0 := 5) rfl dX1_passPanel_8 rfl rfl rfl rfl rfl (Nat.le_of_ble_eq_true rfl) ⟨Nat.le_of_ble_eq_true rfl, Nat.le_of_ble_eq_true rfl⟩ (fun v9 w9 H locs hq hW => ?_)
  obtain ⟨rr_8, rfl, rfl, hh_8⟩ := hq
  subst rr_8
  have hW : zW D A s.heap [zBoard cI a2 b, zCont cI a cn] H locs := hW
  have hW : zW D A s.heap [zCont cI a cn, zBoard cI a2 b] H locs := hW.pick [1, 0] rfl rfl
  refine W.eq (g2 := F0 m 11 ls [.int (zI (bd_cnt b x))]) rfl ?_
  rw [show (bd_cnt b x) = ((pn.2.2.2.length : Int)) by exact hsH.2.2.2.1]
  refine lv_istore (lv' := [(4, .int (zI ((pn.2.2.2.length : Int)))), (3, .int (zI pn.1)), (0, .ref (a 0)), (1, .ref (a2 0)), (2, .int (zI x))]) hx hb dX1_passPanel_11 hl (by decide) rfl (fun ls hl => ?_)
  refine lv_aload_n hx hb dX1_passPanel_13 rfl (lv_at hl 2 rfl) ?_
  refine va_get (D := D) (ci := 1) (v := .ref (a 3)) (C := RX1) (T := TX1) (N := 6) hx hb hts iX1_passPanel_X1 hown hK.1 hW.1 0 rfl rfl 2 (by decide) (hts _ mX1_passPanel_1) (fun _ h9 => h9) rfl dX1_passPanel_14 ?_
  refine lv_iconst (v := zI (0)) hx hb dX1_passPanel_17 rfl ?_
  refine z_fillRow (n := 4) (g := ct_drn cn) (v := 0) (rest := []) (bs1 := [zCont cI a (ct_drn_ cn (cpF (fun _ => 0) (ct_drn cn) 4)), zBoard cI a2 b]) hS hK hA hW hl.1 3 rfl (gX1_passPanel_X4_fillRow_n31) nm_20 (mX1_passPanel_2) (mX1_passPanel_3) ⟨Nat.le_of_ble_eq_true rfl, Nat.le_of_ble_eq_true rfl⟩ dX1_passPanel_18 (by omega) rfl (Nat.le_of_ble_eq_true rfl) ⟨Nat.le_of_ble_eq_true rfl, Nat.le_of_ble_eq_true rfl⟩ (fun H locs hW => ?_)
  refine lv_aload_n hx hb dX1_passPanel_21 rfl (lv_at hl 2 rfl) ?_
  refine lv_iconst (v := zI (0)) hx hb dX1_passPanel_22 rfl ?_
  refine va_put (D := D) (ci := 1) (v := .int (zI 0)) (ty := .int) (C := RX1) (T := TX1) (N := 6) hx hb hts iX1_passPanel_X1 tyX1 tyX1_ok nmX1 hown hK.1 hW.1 hW.2.1 hW.2.2 0 rfl rfl 3 (by decide) (hts _ mX1_passPanel_4) (fun _ h9 => h9) rfl (by decide +kernel) rfl rfl (Nat.le_of_ble_eq_true rfl) dX1_passPanel_23 (fun H locs h1 h2 h3 => ?_)
  have hW : zW D A s.heap [zCont cI a (ct_seen_ (ct_drn_ cn (cpF (fun _ => 0) (ct_drn cn) 4)) (0)), zBoard cI a2 b] H locs := ⟨h1, h2, h3⟩
  refine lv_iconst (v := zI (0)) hx hb dX1_passPanel_26 rfl ?_
  refine lv_istore (lv' := [(5, .int (zI 0)), (4, .int (zI ((pn.2.2.2.length : Int)))), (3, .int (zI pn.1)), (0, .ref (a 0)), (1, .ref (a2 0)), (2, .int (zI x))]) hx hb dX1_passPanel_27 hl (by decide) rfl (fun ls hl => ?_)
  have L29 : ∀ (fu : Nat) (ke : Int) (c3 : zCS), (0 ≤ ke ∧ ke ≤ (pn.2.2.2.length : Int)) → (RC c3 (evsGo pn.1 0 (pn.2.2.2.take ke.toNat) g)) → (seenOK (ct_seen c3) (pn.2.2.2.take ke.toNat)) → (drnOK (ct_drn c3) (pn.2.2.2.take ke.toNat)) → ((pn.2.2.2.length : Int) - ke) < (fu : Int) → ∀ (H : Heap) (locs : List Loc), zW D A s.heap [zCont cI a c3, zBoard cI a2 b] H locs → ∀ (ls : Array Slot), lv_has ls 7 [(0, .ref (a 0)), (1, .ref (a2 0)), (2, .int (zI x)), (3, .int (zI pn.1)), (4, .int (zI ((pn.2.2.2.length : Int)))), (5, .int (zI ke))] → W p l e { frames := 2, cells := 0, slots := 0, locals := 53 } s m args below meth c H locs 0 0 (MQ below (zQ A D (qX1_passPanel cI a cn a2 b g pn x)) args s 0 0 A) (F0 m 29 ls []) := by
    intro fu
    induction fu with
    | zero => intro ke c3 hke hR3 hse hde hm; exact absurd hm (by omega)
    | succ fu ih29 =>
      intro ke c3 hke hR3 hse hde hm H locs hW ls hl
      have hse1 := hse.1
      have hgl := evsGo_len pn.1 (pn.2.2.2.take ke.toNat) 0 g
      rw [List.length_take] at hgl
      refine lv_iload hx hb dX1_passPanel_29 (lv_at hl 5 rfl) ?_
      refine lv_iload hx hb dX1_passPanel_31 (lv_at hl 4 rfl) ?_
      refine z_icmp_ge (tgt := 99) hx hb dX1_passPanel_33 (by decide) (by omega) (fun cc_33 => ?_) (fun cc_33 => ?_)
      · refine lv_aload_n hx hb dX1_passPanel_99 rfl (lv_at hl 0 rfl) ?_
        refine lv_iload_n hx hb dX1_passPanel_100 rfl (lv_at hl 3 rfl) ?_
        have htk : pn.2.2.2.take ke.toNat = pn.2.2.2 := List.take_of_length_le (by omega)
        refine z_callV (r := (RX1, TX1, 6)) (As := [.int (zI pn.1)]) (rest := []) hS hK hA hW hl.1 [0] [1] (kX1_findUndrawn l D cI cB a c3 ((evsGo pn.1 0 pn.2.2.2 g)) pn.2.2.2 pn.1 (by exact RC_eq hR3 (by rw [htk])) (by exact evsGo_ok hpn.1 _ 0 g hpn.2.2.2.2 (by omega) (by omega) hgk) (by rw [← htk]; exact hse) (by rw [← htk]; exact hde) (by (have := evsGo_len pn.1 pn.2.2.2 0 g; omega))) (cwV 1 hts gX1_passPanel_X1_findUndrawn rfl rfl rfl (by decide +kernel) ⟨Nat.le_of_ble_eq_true rfl, Nat.le_of_ble_eq_true rfl⟩) (rfl : vwCl[1]? = some (RX1, TX1, 6)) (q0 := 0) rfl dX1_passPanel_101 rfl rfl rfl rfl rfl (Nat.le_of_ble_eq_true rfl) ⟨Nat.le_of_ble_eq_true rfl, Nat.le_of_ble_eq_true rfl⟩ (fun v9 w9 H locs hq hW => ?_)
        obtain ⟨cz_101, rfl, rfl, hh_101⟩ := hq
        have hW : zW D A s.heap [zCont cI a cz_101, zBoard cI a2 b] H locs := hW
        refine W.eq (g2 := F0 m 104 ls []) rfl ?_
        exact z_vret hx hb hr hlk hW dX1_passPanel_104 (by
            exact ⟨cz_101, rfl, rfl, by exact hh_101⟩)
      · obtain ⟨vv, hvv⟩ : ∃ vv, pn.2.2.2[ke.toNat]? = some vv := ⟨_, List.getElem?_eq_getElem (by omega)⟩
        have hvo : evOK vv := hpn.2.2.2.2 vv (List.mem_of_getElem? hvv)
        have hvr := evCode_rg hvo
        have hv1 := hvo.1
        have hv21 := hvo.2.1
        have hG : gOK (evsGo pn.1 0 (pn.2.2.2.take ke.toNat) g) := evsGo_ok hpn.1 _ 0 g (fun v hv => hpn.2.2.2.2 v (List.mem_of_mem_take hv)) (by omega) (by rw [List.length_take]; omega) hgk
        have hsh := zshl1_lt (w := vv.1) (by omega)
        refine lv_aload_n hx hb dX1_passPanel_36 rfl (lv_at hl 1 rfl) ?_
        refine lv_iload_n hx hb dX1_passPanel_37 rfl (lv_at hl 2 rfl) ?_
        refine lv_iload hx hb dX1_passPanel_38 (lv_at hl 5 rfl) ?_
        refine z_callV (r := (RX0, TX0, 9)) (As := [.int (zI x), .int (zI ke)]) (rest := []) hS hK hA hW hl.1 [1] [0] (kX0_eventCode l D cI cB a2 b x ke hBk (by omega) (by omega)) (cwV 2 hts gX1_passPanel_X0_eventCode rfl rfl rfl (by decide +kernel) ⟨Nat.le_of_ble_eq_true rfl, Nat.le_of_ble_eq_true rfl⟩) (rfl : vwCl[0]? = some (RX0, TX0, 9)) (q0 := 5) rfl dX1_passPanel_40 rfl rfl rfl rfl rfl (Nat.le_of_ble_eq_true rfl) ⟨Nat.le_of_ble_eq_true rfl, Nat.le_of_ble_eq_true rfl⟩ (fun v9 w9 H locs hq hW => ?_)
        obtain ⟨rr_40, rfl, rfl, hh_40⟩ := hq
        subst rr_40
        have hW : zW D A s.heap [zBoard cI a2 b, zCont cI a c3] H locs := hW
        have hW : zW D A s.heap [zCont cI a c3, zBoard cI a2 b] H locs := hW.pick [1, 0] rfl rfl
        refine W.eq (g2 := F0 m 43 ls [.int (zI (bd_cod b (x * 6 + ke)))]) rfl ?_
        rw [show (bd_cod b (x * 6 + ke)) = (evCode vv) by exact slotHas_cod hsH hke.1 hvv]
        refine lv_istore (lv' := [(6, .int (zI (evCode vv))), (0, .ref (a 0)), (1, .ref (a2 0)), (2, .int (zI x)), (3, .int (zI pn.1)), (4, .int (zI ((pn.2.2.2.length : Int)))), (5, .int (zI ke))]) hx hb dX1_passPanel_43 hl (by decide) rfl (fun ls hl => ?_)
        refine lv_aload_n hx hb dX1_passPanel_45 rfl (lv_at hl 1 rfl) ?_
        refine lv_dup hx hb dX1_passPanel_46 rfl ?_
        refine va_get (D := D) (ci := 1) (v := .int (zI (ct_seen c3))) (C := RX1) (T := TX1) (N := 6) hx hb hts iX1_passPanel_X1 hown hK.1 hW.1 0 rfl rfl 3 (by decide) (hts _ mX1_passPanel_4) (fun _ h9 => h9) rfl dX1_passPanel_47 ?_
        refine lv_iconst (v := zI (1)) hx hb dX1_passPanel_50 rfl ?_
        refine lv_iload hx hb dX1_passPanel_51 (lv_at hl 0 rfl) ?_
        refine z_callSN (As := [.int (zI (evCode vv))]) (rest := [.int (zI 1), .int (zI (ct_seen c3)), .ref (a 0)]) hS hK hA hW hl.1 [] [0, 1] (kX4_characterIn l D cI cB (evCode vv) (by omega)) ⟨va_cnB 1 hts gX1_passPanel_X4_characterIn_n58 rfl rfl rfl (hK.2 _ nm_21) (hts _ mX1_passPanel_2) (by decide +kernel) ⟨Nat.le_of_ble_eq_true rfl, Nat.le_of_ble_eq_true rfl⟩, hts _ mX1_passPanel_5, trivial⟩ dX1_passPanel_53 rfl rfl rfl rfl rfl (Nat.le_of_ble_eq_true rfl) ⟨Nat.le_of_ble_eq_true rfl, Nat.le_of_ble_eq_true rfl⟩ (fun v9 w9 H locs hq hW => ?_)
        obtain ⟨rr_53, rfl, rfl, hh_53⟩ := hq
        subst rr_53
        have hW : zW D A s.heap [zCont cI a c3, zBoard cI a2 b] H locs := hW
        refine W.eq (g2 := F0 m 56 ls [.int (zI ((evCode vv) / 100)), .int (zI 1), .int (zI (ct_seen c3)), .ref (a 0)]) rfl ?_
        rw [show ((evCode vv) / 100) = vv.1 by exact evCode_ch hvo]
        refine z_ishl hx hb dX1_passPanel_56 (by omega) ?_
        refine z_ior hx hb dX1_passPanel_57 (by omega) ?_
        refine va_put (D := D) (ci := 1) (v := .int (zI (zor (ct_seen c3) (zshl 1 vv.1)))) (ty := .int) (C := RX1) (T := TX1) (N := 6) hx hb hts iX1_passPanel_X1 tyX1 tyX1_ok nmX1 hown hK.1 hW.1 hW.2.1 hW.2.2 0 rfl rfl 3 (by decide) (hts _ mX1_passPanel_4) (fun _ h9 => h9) rfl (by decide +kernel) rfl rfl (Nat.le_of_ble_eq_true rfl) dX1_passPanel_58 (fun H locs h1 h2 h3 => ?_)
        have hW : zW D A s.heap [zCont cI a (ct_seen_ c3 (zor (ct_seen c3) (zshl 1 vv.1))), zBoard cI a2 b] H locs := ⟨h1, h2, h3⟩
        refine lv_iload hx hb dX1_passPanel_61 (lv_at hl 0 rfl) ?_
        refine z_callSN (As := [.int (zI (evCode vv))]) (rest := []) hS hK hA hW hl.1 [] [0, 1] (kX4_kindIn l D cI cB (evCode vv) (by omega)) ⟨va_cnB 1 hts gX1_passPanel_X4_kindIn_n61 rfl rfl rfl (hK.2 _ nm_22) (hts _ mX1_passPanel_2) (by decide +kernel) ⟨Nat.le_of_ble_eq_true rfl, Nat.le_of_ble_eq_true rfl⟩, hts _ mX1_passPanel_6, trivial⟩ dX1_passPanel_63 rfl rfl rfl rfl rfl (Nat.le_of_ble_eq_true rfl) ⟨Nat.le_of_ble_eq_true rfl, Nat.le_of_ble_eq_true rfl⟩ (fun v9 w9 H locs hq hW => ?_)
        obtain ⟨rr_63, rfl, rfl, hh_63⟩ := hq
        subst rr_63
        have hW : zW D A s.heap [zCont cI a (ct_seen_ c3 (zor (ct_seen c3) (zshl 1 vv.1))), zBoard cI a2 b] H locs := hW
        refine W.eq (g2 := F0 m 66 ls [.int (zI ((evCode vv) / 10 % 10))]) rfl ?_
        rw [show ((evCode vv) / 10 % 10) = vv.2.1 by exact evCode_ki hvo]
        refine z_callSN (As := [.int (zI vv.2.1)]) (rest := []) hS hK hA hW hl.1 [] [0, 1] (kX4_takesProp l D cI cB vv.2.1 (by omega)) ⟨va_cnB 1 hts gX1_passPanel_X4_takesProp_n64 rfl rfl rfl (hK.2 _ nm_23) (hts _ mX1_passPanel_2) (by decide +kernel) ⟨Nat.le_of_ble_eq_true rfl, Nat.le_of_ble_eq_true rfl⟩, hts _ mX1_passPanel_7, trivial⟩ dX1_passPanel_66 rfl rfl rfl rfl rfl (Nat.le_of_ble_eq_true rfl) ⟨Nat.le_of_ble_eq_true rfl, Nat.le_of_ble_eq_true rfl⟩ (fun v9 w9 H locs hq hW => ?_)
        obtain ⟨rr_66, rfl, rfl, hh_66⟩ := hq
        have hW : zW D A s.heap [zCont cI a (ct_seen_ c3 (zor (ct_seen c3) (zshl 1 vv.1))), zBoard cI a2 b] H locs := hW
        refine W.eq (g2 := F0 m 69 ls [.int (zI rr_66)]) rfl ?_
        refine z_if_eq (tgt := 84) hx hb dX1_passPanel_69 (by decide) (by omega) (fun cc_69 => ?_) (fun cc_69 => ?_)
        · refine lv_aload_n hx hb dX1_passPanel_84 rfl (lv_at hl 1 rfl) ?_
          refine lv_iload_n hx hb dX1_passPanel_85 rfl (lv_at hl 4 rfl) ?_
          refine lv_iload hx hb dX1_passPanel_86 (lv_at hl 6 rfl) ?_
          refine lv_iload hx hb dX1_passPanel_88 (lv_at hl 0 rfl) ?_
          refine z_callV (r := (RX1, TX1, 6)) (As := [.int (zI pn.1), .int (zI ke), .int (zI (evCode vv))]) (rest := []) hS hK hA hW hl.1 [0] [1] (kX1_passMove l D cI cB a ((ct_seen_ c3 (zor (ct_seen c3) (zshl 1 vv.1)))) ((evsGo pn.1 0 (pn.2.2.2.take ke.toNat) g)) pn.1 ke (evCode vv) vv (RC_seen hR3 _) hG hvo (by omega) (by rfl) (by omega)) (cwV 3 hts gX1_passPanel_X1_passMove rfl rfl rfl (by decide +kernel) ⟨Nat.le_of_ble_eq_true rfl, Nat.le_of_ble_eq_true rfl⟩) (rfl : vwCl[1]? = some (RX1, TX1, 6)) (q0 := 0) rfl dX1_passPanel_90 rfl rfl rfl rfl rfl (Nat.le_of_ble_eq_true rfl) ⟨Nat.le_of_ble_eq_true rfl, Nat.le_of_ble_eq_true rfl⟩ (fun v9 w9 H locs hq hW => ?_)
          obtain ⟨cz_90, rfl, rfl, hh_90⟩ := hq
          have hW : zW D A s.heap [zCont cI a cz_90, zBoard cI a2 b] H locs := hW
          refine W.eq (g2 := F0 m 93 ls []) rfl ?_
          refine z_iinc (x := ke) (lv' := [(5, .int (zI (ke + 1))), (6, .int (zI (evCode vv))), (0, .ref (a 0)), (1, .ref (a2 0)), (2, .int (zI x)), (3, .int (zI pn.1)), (4, .int (zI ((pn.2.2.2.length : Int))))]) hx hb dX1_passPanel_93 hl (k := 6) rfl (by decide) rfl (fun ls hl => ?_)
          refine lv_goto (tgt := 29) hx hb dX1_passPanel_96 (by decide) ?_
          exact ih29 (ke + 1) cz_90 (by omega) (by first | exact RC_eq hh_78.1 (evsGo_takeZ pn.1 g hke.1 hvv).symm | exact RC_eq hh_90.1 (evsGo_takeZ pn.1 g hke.1 hvv).symm) (by rw [takeZ hke.1 hvv]; first | (rw [hh_78.2.1]; exact seenOK_s hse hvo.1) | (rw [hh_90.2.1]; exact seenOK_s hse hvo.1)) (by rw [takeZ hke.1 hvv]; first | (rw [hh_78.2.2]; exact drnOK_p hde hvo.1 (by unfold evOK at hvo; omega)) | (rw [hh_90.2.2]; exact drnOK_m hde (by unfold evOK at hvo; omega))) (by omega) _ _ hW ls (lv_sub hl [2, 3, 4, 5, 6, 0] rfl)
        · refine lv_aload_n hx hb dX1_passPanel_72 rfl (lv_at hl 1 rfl) ?_
          refine lv_iload_n hx hb dX1_passPanel_73 rfl (lv_at hl 4 rfl) ?_
          refine lv_iload hx hb dX1_passPanel_74 (lv_at hl 6 rfl) ?_
          refine lv_iload hx hb dX1_passPanel_76 (lv_at hl 0 rfl) ?_
          refine z_callV (r := (RX1, TX1, 6)) (As := [.int (zI pn.1), .int (zI ke), .int (zI (evCode vv))]) (rest := []) hS hK hA hW hl.1 [0] [1] (kX1_passProp l D cI cB a ((ct_seen_ c3 (zor (ct_seen c3) (zshl 1 vv.1)))) ((evsGo pn.1 0 (pn.2.2.2.take ke.toNat) g)) pn.1 ke (evCode vv) vv (RC_seen hR3 _) hG hvo (by omega) (by rfl) (by omega) (by exact fun w w1 w2 => (hde w w1 w2).1)) (cwV 3 hts gX1_passPanel_X1_passProp rfl rfl rfl (by decide +kernel) ⟨Nat.le_of_ble_eq_true rfl, Nat.le_of_ble_eq_true rfl⟩) (rfl : vwCl[1]? = some (RX1, TX1, 6)) (q0 := 0) rfl dX1_passPanel_78 rfl rfl rfl rfl rfl (Nat.le_of_ble_eq_true rfl) ⟨Nat.le_of_ble_eq_true rfl, Nat.le_of_ble_eq_true rfl⟩ (fun v9 w9 H locs hq hW => ?_)
          obtain ⟨cz_78, rfl, rfl, hh_78⟩ := hq
          have hW : zW D A s.heap [zCont cI a cz_78, zBoard cI a2 b] H locs := hW
          refine W.eq (g2 := F0 m 81 ls []) rfl ?_
          refine lv_goto (tgt := 93) hx hb dX1_passPanel_81 (by decide) ?_
          refine z_iinc (x := ke) (lv' := [(5, .int (zI (ke + 1))), (6, .int (zI (evCode vv))), (0, .ref (a 0)), (1, .ref (a2 0)), (2, .int (zI x)), (3, .int (zI pn.1)), (4, .int (zI ((pn.2.2.2.length : Int))))]) hx hb dX1_passPanel_93 hl (k := 6) rfl (by decide) rfl (fun ls hl => ?_)
          refine lv_goto (tgt := 29) hx hb dX1_passPanel_96 (by decide) ?_
          exact ih29 (ke + 1) cz_78 (by omega) (by first | exact RC_eq hh_78.1 (evsGo_takeZ pn.1 g hke.1 hvv).symm | exact RC_eq hh_90.1 (evsGo_takeZ pn.1 g hke.1 hvv).symm) (by rw [takeZ hke.1 hvv]; first | (rw [hh_78.2.1]; exact seenOK_s hse hvo.1) | (rw [hh_90.2.1]; exact seenOK_s hse hvo.1)) (by rw [takeZ hke.1 hvv]; first | (rw [hh_78.2.2]; exact drnOK_p hde hvo.1 (by unfold evOK at hvo; omega)) | (rw [hh_90.2.2]; exact drnOK_m hde (by unfold evOK at hvo; omega))) (by omega) _ _ hW ls (lv_sub hl [2, 3, 4, 5, 6, 0] rfl)
  exact L29 ((((pn.2.2.2.length : Int) - 0) : Int).toNat + 1) 0 ((ct_seen_ (ct_drn_ cn (cpF (fun _ => 0) (ct_drn cn) 4)) (0))) (by omega) (by exact RC_seen (RC_drn hRC _) _) (by exact seenOK_0) (by exact drnOK_congr drnOK_0 (fun w w1 w2 => by show cpF (fun _ => 0) (ct_drn cn) 4 w = 0; unfold cpF; rw [if_pos (by omega)])) (by omega) _ _ hW ls (lv_sub hl [3, 4, 5, 2, 1, 0] rfl)

abbrev qX1_goThrough (cI : ClassId) (a : Nat → Nat) (cn : zCS) (a2 : Nat → Nat) (b : zBS) (pC : List zPn) (x : Int) : Option Value → List va_W → Prop := fun vq wq => ∃ (cz : zCS), vq = none ∧ wq = [zCont cI a (cz), zBoard cI a2 b] ∧ (RCh cz (goAll (pC.take x.toNat)))
set_option maxRecDepth 20000 in
theorem iX1_goThrough_X1 : ∀ w ∈ u_ws RX1 TX1 6, w ∈ wsX1_goThrough := by decide +kernel
set_option maxRecDepth 20000 in
theorem mX1_goThrough_1 : (.fieldLink RX1 9 "StoryPanels$Continuity" "holders" "[I" : Cond) ∈ wsX1_goThrough := by decide +kernel
set_option maxRecDepth 20000 in
theorem mX1_goThrough_2 : (.initialized RX4 : Cond) ∈ wsX1_goThrough := by decide +kernel
set_option maxRecDepth 20000 in
theorem mX1_goThrough_3 : (.static yX4_fillRow : Cond) ∈ wsX1_goThrough := by decide +kernel
set_option maxRecDepth 20000 in
theorem mX1_goThrough_4 : (.fieldLink RX1 28 "StoryPanels$Continuity" "breaks" "I" : Cond) ∈ wsX1_goThrough := by decide +kernel
set_option maxRecDepth 20000 in
theorem mX1_goThrough_5 : (.fieldLink RX1 15 "StoryPanels$Continuity" "moved" "[I" : Cond) ∈ wsX1_goThrough := by decide +kernel
set_option maxHeartbeats 4000000 in
set_option maxRecDepth 100000 in
theorem kX1_goThrough (l : Launch) (D : va_G) (cI cB : ClassId) (a : Nat → Nat) (cn : zCS) (a2 : Nat → Nat) (b : zBS) (pC : List zPn) (x : Int) (hBk : BOK b) (hRk : ∀ (j : Nat) (p : zPn), pC[j]? = some p → slotHas b (bd_lin b j) p) (hsz : bd_sz b = (pC.length : Int)) (hpC : ∀ p ∈ pC, pnOK p) (hx1 : 0 ≤ x ∧ x ≤ (pC.length : Int)) : zMet l yX1_goThrough wsX1_goThrough 3 79 0 0 D cI cB [.ref (a 0), .ref (a2 0), .int (zI x)] [zCont cI a cn, zBoard cI a2 b] (qX1_goThrough cI a cn a2 b pC x) := by
  refine zMet.of (cd := cX1_goThrough) (maxL := 7) (ret := none) (by decide) rfl (Nat.le_of_ble_eq_true rfl) ?_
  intro p e s m args below meth c A ls hS hr hlk hnm hK hA hW hl
  have hS : CallFix p m c cX1_goThrough 7 s args wsX1_goThrough RX1 := hS
  have hx := hS.1
  have hb := hS.2.1
  have hown := hS.2.2.2.1
  have hts := hS.2.2.2.2
  have hl : lv_has ls 7 [(0, .ref (a 0)), (1, .ref (a2 0)), (2, .int (zI x))] := hl
  have hz1 := hBk.1
  refine lv_aload_n hx hb dX1_goThrough_0 rfl (lv_at hl 0 rfl) ?_
  refine va_get (D := D) (ci := 1) (v := .ref (a 1)) (C := RX1) (T := TX1) (N := 6) hx hb hts iX1_goThrough_X1 hown hK.1 hW.1 0 rfl rfl 0 (by decide) (hts _ mX1_goThrough_1) (fun _ h9 => h9) rfl dX1_goThrough_1 ?_
  refine lv_iconst (v := zI (-1)) hx hb dX1_goThrough_4 rfl ?_
  refine z_fillRow (n := 10) (g := ct_hold cn) (v := (-1)) (rest := []) (bs1 := [zCont cI a (ct_hold_ cn (cpF (fun _ => (-1)) (ct_hold cn) 10)), zBoard cI a2 b]) hS hK hA hW hl.1 1 rfl (gX1_goThrough_X4_fillRow_n31) nm_20 (mX1_goThrough_2) (mX1_goThrough_3) ⟨Nat.le_of_ble_eq_true rfl, Nat.le_of_ble_eq_true rfl⟩ dX1_goThrough_5 (by omega) rfl (Nat.le_of_ble_eq_true rfl) ⟨Nat.le_of_ble_eq_true rfl, Nat.le_of_ble_eq_true rfl⟩ (fun H locs hW => ?_)
  refine lv_aload_n hx hb dX1_goThrough_8 rfl (lv_at hl 0 rfl) ?_
  refine lv_iconst (v := zI (0)) hx hb dX1_goThrough_9 rfl ?_
  refine va_put (D := D) (ci := 1) (v := .int (zI 0)) (ty := .int) (C := RX1) (T := TX1) (N := 6) hx hb hts iX1_goThrough_X1 tyX1 tyX1_ok nmX1 hown hK.1 hW.1 hW.2.1 hW.2.2 0 rfl rfl 5 (by decide) (hts _ mX1_goThrough_4) (fun _ h9 => h9) rfl (by decide +kernel) rfl rfl (Nat.le_of_ble_eq_true rfl) dX1_goThrough_10 (fun H locs h1 h2 h3 => ?_)
  have hW : zW D A s.heap [zCont cI a (ct_nb_ (ct_hold_ cn (cpF (fun _ => (-1)) (ct_hold cn) 10)) (0)), zBoard cI a2 b] H locs := ⟨h1, h2, h3⟩
  refine lv_iconst (v := zI (-1)) hx hb dX1_goThrough_13 rfl ?_
  refine lv_istore_n (lv' := [(3, .int (zI ((-1)))), (0, .ref (a 0)), (1, .ref (a2 0)), (2, .int (zI x))]) hx hb dX1_goThrough_14 rfl hl (by decide) rfl (fun ls hl => ?_)
  refine lv_iconst (v := zI (0)) hx hb dX1_goThrough_15 rfl ?_
  refine lv_istore (lv' := [(4, .int (zI 0)), (3, .int (zI ((-1)))), (0, .ref (a 0)), (1, .ref (a2 0)), (2, .int (zI x))]) hx hb dX1_goThrough_16 hl (by decide) rfl (fun ls hl => ?_)
  have L18 : ∀ (fu : Nat) (lat : Int) (kr : Int) (c3 : zCS), (0 ≤ kr ∧ kr ≤ x) → (RCh c3 (lstGo (-1) (pC.take kr.toNat) g0)) → (lat = lastS (-1) (pC.take kr.toNat)) → (lat = -1 ∨ RC c3 (lstGo (-1) (pC.take kr.toNat) g0)) → (-1 ≤ lat ∧ lat < 5) → (x - kr) < (fu : Int) → ∀ (H : Heap) (locs : List Loc), zW D A s.heap [zCont cI a c3, zBoard cI a2 b] H locs → ∀ (ls : Array Slot), lv_has ls 7 [(0, .ref (a 0)), (1, .ref (a2 0)), (2, .int (zI x)), (3, .int (zI lat)), (4, .int (zI kr))] → W p l e { frames := 3, cells := 0, slots := 0, locals := 79 } s m args below meth c H locs 0 0 (MQ below (zQ A D (qX1_goThrough cI a cn a2 b pC x)) args s 0 0 A) (F0 m 18 ls []) := by
    intro fu
    induction fu with
    | zero => intro lat kr c3 hkr hGh hlat hG2 hla2 hm; exact absurd hm (by omega)
    | succ fu ih18 =>
      intro lat kr c3 hkr hGh hlat hG2 hla2 hm H locs hW ls hl
      refine lv_iload hx hb dX1_goThrough_18 (lv_at hl 4 rfl) ?_
      refine lv_iload_n hx hb dX1_goThrough_20 rfl (lv_at hl 2 rfl) ?_
      refine z_icmp_ge (tgt := 77) hx hb dX1_goThrough_21 (by decide) (by omega) (fun cc_21 => ?_) (fun cc_21 => ?_)
      · exact z_vret hx hb hr hlk hW dX1_goThrough_77 (by
            exact ⟨c3, rfl, rfl, by (rw [show kr = x by omega] at hGh; exact hGh)⟩)
      · obtain ⟨pp, hpp⟩ : ∃ pp, pC[kr.toNat]? = some pp := ⟨_, List.getElem?_eq_getElem (by omega)⟩
        have hpo : pnOK pp := hpC pp (List.mem_of_getElem? hpp)
        have hsl := hRk _ _ hpp
        rw [show ((kr.toNat : Nat) : Int) = kr by omega] at hsl
        have hpl := hBk.2.2.1 kr (by omega) (by omega)
        have hp2 := hpo.2.1
        have hgo : gOK (lstGo (-1) (pC.take kr.toNat) g0) := lstGo_ok _ _ _ (fun p hp => hpC p (List.mem_of_mem_take hp)) g0_ok
        have hgl := lstGo_len (pC.take kr.toNat) (-1) g0 (fun p hp => hpC p (List.mem_of_mem_take hp))
        rw [List.length_take] at hgl
        have hg00 : g0.2.2.length = 0 := rfl
        refine lv_iload hx hb dX1_goThrough_24 (lv_at hl 4 rfl) ?_
        refine lv_bipush (v := zI (10)) hx hb dX1_goThrough_26 (by decide +kernel) ?_
        refine z_icmp_ge (tgt := 77) hx hb dX1_goThrough_28 (by decide) (by omega) (fun cc_28 => ?_) (fun cc_28 => ?_)
        · exact absurd cc_28 (by omega)
        · refine lv_aload_n hx hb dX1_goThrough_31 rfl (lv_at hl 1 rfl) ?_
          refine lv_iload hx hb dX1_goThrough_32 (lv_at hl 4 rfl) ?_
          refine z_callV (r := (RX0, TX0, 9)) (As := [.int (zI kr)]) (rest := []) hS hK hA hW hl.1 [1] [0] (kX0_slotAt l D cI cB a2 b kr hBk (by omega)) (cwV 1 hts gX1_goThrough_X0_slotAt rfl rfl rfl (by decide +kernel) ⟨Nat.le_of_ble_eq_true rfl, Nat.le_of_ble_eq_true rfl⟩) (rfl : vwCl[0]? = some (RX0, TX0, 9)) (q0 := 5) rfl dX1_goThrough_34 rfl rfl rfl rfl rfl (Nat.le_of_ble_eq_true rfl) ⟨Nat.le_of_ble_eq_true rfl, Nat.le_of_ble_eq_true rfl⟩ (fun v9 w9 H locs hq hW => ?_)
          obtain ⟨rr_34, rfl, rfl, hh_34⟩ := hq
          subst rr_34
          have hW : zW D A s.heap [zBoard cI a2 b, zCont cI a c3] H locs := hW
          have hW : zW D A s.heap [zCont cI a c3, zBoard cI a2 b] H locs := hW.pick [1, 0] rfl rfl
          refine W.eq (g2 := F0 m 37 ls [.int (zI (bd_lin b kr))]) rfl ?_
          refine lv_istore (lv' := [(5, .int (zI (bd_lin b kr))), (0, .ref (a 0)), (1, .ref (a2 0)), (2, .int (zI x)), (3, .int (zI lat)), (4, .int (zI kr))]) hx hb dX1_goThrough_37 hl (by decide) rfl (fun ls hl => ?_)
          refine lv_aload_n hx hb dX1_goThrough_39 rfl (lv_at hl 2 rfl) ?_
          refine lv_iload hx hb dX1_goThrough_40 (lv_at hl 0 rfl) ?_
          refine z_callV (r := (RX0, TX0, 9)) (As := [.int (zI (bd_lin b kr))]) (rest := []) hS hK hA hW hl.1 [1] [0] (kX0_sceneOf l D cI cB a2 b (bd_lin b kr) hBk (by omega)) (cwV 1 hts gX1_goThrough_X0_sceneOf rfl rfl rfl (by decide +kernel) ⟨Nat.le_of_ble_eq_true rfl, Nat.le_of_ble_eq_true rfl⟩) (rfl : vwCl[0]? = some (RX0, TX0, 9)) (q0 := 5) rfl dX1_goThrough_42 rfl rfl rfl rfl rfl (Nat.le_of_ble_eq_true rfl) ⟨Nat.le_of_ble_eq_true rfl, Nat.le_of_ble_eq_true rfl⟩ (fun v9 w9 H locs hq hW => ?_)
          obtain ⟨rr_42, rfl, rfl, hh_42⟩ := hq
          subst rr_42
          have hW : zW D A s.heap [zBoard cI a2 b, zCont cI a c3] H locs := hW
          have hW : zW D A s.heap [zCont cI a c3, zBoard cI a2 b] H locs := hW.pick [1, 0] rfl rfl
          refine W.eq (g2 := F0 m 45 ls [.int (zI (bd_scn b (bd_lin b kr)))]) rfl ?_
          rw [show (bd_scn b (bd_lin b kr)) = pp.2.1 by exact hsl.2.1]
          refine lv_istore (lv' := [(6, .int (zI pp.2.1)), (5, .int (zI (bd_lin b kr))), (0, .ref (a 0)), (1, .ref (a2 0)), (2, .int (zI x)), (3, .int (zI lat)), (4, .int (zI kr))]) hx hb dX1_goThrough_45 hl (by decide) rfl (fun ls hl => ?_)
          refine lv_iload hx hb dX1_goThrough_47 (lv_at hl 0 rfl) ?_
          refine lv_iload_n hx hb dX1_goThrough_49 rfl (lv_at hl 5 rfl) ?_
          refine z_icmp_eq (tgt := 64) hx hb dX1_goThrough_50 (by decide) (by omega) (fun cc_50 => ?_) (fun cc_50 => ?_)
          · refine lv_aload_n hx hb dX1_goThrough_64 rfl (lv_at hl 2 rfl) ?_
            refine lv_aload_n hx hb dX1_goThrough_65 rfl (lv_at hl 3 rfl) ?_
            refine lv_iload hx hb dX1_goThrough_66 (lv_at hl 1 rfl) ?_
            refine z_callV (r := (RX1, TX1, 6)) (As := [.ref (a2 0), .int (zI (bd_lin b kr))]) (rest := []) hS hK hA hW hl.1 [0, 1] [] (kX1_passPanel l D cI cB a c3 a2 b (((lstGo (-1) (pC.take kr.toNat) g0).1, (lstGo (-1) (pC.take kr.toNat) g0).2.1, (lstGo (-1) (pC.take kr.toNat) g0).2.2)) pp (bd_lin b kr) (by exact (hG2.resolve_left (by omega))) (by exact ⟨hgo.1, hgo.2.1, hgo.2.2⟩) hBk (by omega) hsl hpo (by (show (lstGo (-1) (pC.take kr.toNat) g0).2.2.length ≤ 144; omega))) (cwV 2 hts gX1_goThrough_X1_passPanel rfl rfl rfl (by decide +kernel) ⟨Nat.le_of_ble_eq_true rfl, Nat.le_of_ble_eq_true rfl⟩) (rfl : vwCl[1]? = some (RX1, TX1, 6)) (q0 := 0) rfl dX1_goThrough_68 rfl rfl rfl rfl rfl (Nat.le_of_ble_eq_true rfl) ⟨Nat.le_of_ble_eq_true rfl, Nat.le_of_ble_eq_true rfl⟩ (fun v9 w9 H locs hq hW => ?_)
            obtain ⟨cz_68, rfl, rfl, hh_68⟩ := hq
            have hW : zW D A s.heap [zCont cI a cz_68, zBoard cI a2 b] H locs := hW
            refine W.eq (g2 := F0 m 71 ls []) rfl ?_
            refine z_iinc (x := kr) (lv' := [(4, .int (zI (kr + 1))), (6, .int (zI pp.2.1)), (5, .int (zI (bd_lin b kr))), (0, .ref (a 0)), (1, .ref (a2 0)), (2, .int (zI x)), (3, .int (zI lat))]) hx hb dX1_goThrough_71 hl (k := 6) rfl (by decide) rfl (fun ls hl => ?_)
            refine lv_goto (tgt := 18) hx hb dX1_goThrough_74 (by decide) ?_
            exact ih18 lat (kr + 1) cz_68 (by omega) (by rw [takeZ hkr.1 hpp, lstGo_snoc]; first | exact (RC_eq hh_68 (by rw [if_pos (by omega)])).h | exact (RC_eq hh_68 (by rw [if_neg (by omega)])).h) (by rw [takeZ hkr.1 hpp, lastS_snoc]; try omega) (by refine Or.inr ?_; rw [takeZ hkr.1 hpp, lstGo_snoc]; first | exact RC_eq hh_68 (by rw [if_pos (by omega)]) | exact RC_eq hh_68 (by rw [if_neg (by omega)])) (by omega) (by omega) _ _ hW ls (lv_sub hl [3, 4, 5, 6, 0] rfl)
          · refine lv_aload_n hx hb dX1_goThrough_53 rfl (lv_at hl 2 rfl) ?_
            refine va_get (D := D) (ci := 1) (v := .ref (a 2)) (C := RX1) (T := TX1) (N := 6) hx hb hts iX1_goThrough_X1 hown hK.1 hW.1 0 rfl rfl 1 (by decide) (hts _ mX1_goThrough_5) (fun _ h9 => h9) rfl dX1_goThrough_54 ?_
            refine lv_iconst (v := zI (-1)) hx hb dX1_goThrough_57 rfl ?_
            refine z_fillRow (n := 4) (g := ct_mov c3) (v := (-1)) (rest := []) (bs1 := [zCont cI a (ct_mov_ c3 (cpF (fun _ => (-1)) (ct_mov c3) 4)), zBoard cI a2 b]) hS hK hA hW hl.1 2 rfl (gX1_goThrough_X4_fillRow_n31) nm_20 (mX1_goThrough_2) (mX1_goThrough_3) ⟨Nat.le_of_ble_eq_true rfl, Nat.le_of_ble_eq_true rfl⟩ dX1_goThrough_58 (by omega) rfl (Nat.le_of_ble_eq_true rfl) ⟨Nat.le_of_ble_eq_true rfl, Nat.le_of_ble_eq_true rfl⟩ (fun H locs hW => ?_)
            refine lv_iload hx hb dX1_goThrough_61 (lv_at hl 0 rfl) ?_
            refine lv_istore_n (lv' := [(3, .int (zI pp.2.1)), (6, .int (zI pp.2.1)), (5, .int (zI (bd_lin b kr))), (0, .ref (a 0)), (1, .ref (a2 0)), (2, .int (zI x)), (4, .int (zI kr))]) hx hb dX1_goThrough_63 rfl hl (by decide) rfl (fun ls hl => ?_)
            refine lv_aload_n hx hb dX1_goThrough_64 rfl (lv_at hl 3 rfl) ?_
            refine lv_aload_n hx hb dX1_goThrough_65 rfl (lv_at hl 4 rfl) ?_
            refine lv_iload hx hb dX1_goThrough_66 (lv_at hl 2 rfl) ?_
            refine z_callV (r := (RX1, TX1, 6)) (As := [.ref (a2 0), .int (zI (bd_lin b kr))]) (rest := []) hS hK hA hW hl.1 [0, 1] [] (kX1_passPanel l D cI cB a ((ct_mov_ c3 (cpF (fun _ => (-1)) (ct_mov c3) 4))) a2 b (((lstGo (-1) (pC.take kr.toNat) g0).1, (fun _ => 0), (lstGo (-1) (pC.take kr.toNat) g0).2.2)) pp (bd_lin b kr) (by exact RCh_reset hGh) (by exact ⟨hgo.1, fun _ => Or.inl rfl, hgo.2.2⟩) hBk (by omega) hsl hpo (by (show (lstGo (-1) (pC.take kr.toNat) g0).2.2.length ≤ 144; omega))) (cwV 2 hts gX1_goThrough_X1_passPanel rfl rfl rfl (by decide +kernel) ⟨Nat.le_of_ble_eq_true rfl, Nat.le_of_ble_eq_true rfl⟩) (rfl : vwCl[1]? = some (RX1, TX1, 6)) (q0 := 0) rfl dX1_goThrough_68 rfl rfl rfl rfl rfl (Nat.le_of_ble_eq_true rfl) ⟨Nat.le_of_ble_eq_true rfl, Nat.le_of_ble_eq_true rfl⟩ (fun v9 w9 H locs hq hW => ?_)
            obtain ⟨cz_68, rfl, rfl, hh_68⟩ := hq
            have hW : zW D A s.heap [zCont cI a cz_68, zBoard cI a2 b] H locs := hW
            refine W.eq (g2 := F0 m 71 ls []) rfl ?_
            refine z_iinc (x := kr) (lv' := [(4, .int (zI (kr + 1))), (3, .int (zI pp.2.1)), (6, .int (zI pp.2.1)), (5, .int (zI (bd_lin b kr))), (0, .ref (a 0)), (1, .ref (a2 0)), (2, .int (zI x))]) hx hb dX1_goThrough_71 hl (k := 6) rfl (by decide) rfl (fun ls hl => ?_)
            refine lv_goto (tgt := 18) hx hb dX1_goThrough_74 (by decide) ?_
            exact ih18 pp.2.1 (kr + 1) cz_68 (by omega) (by rw [takeZ hkr.1 hpp, lstGo_snoc]; first | exact (RC_eq hh_68 (by rw [if_pos (by omega)])).h | exact (RC_eq hh_68 (by rw [if_neg (by omega)])).h) (by rw [takeZ hkr.1 hpp, lastS_snoc]; try omega) (by refine Or.inr ?_; rw [takeZ hkr.1 hpp, lstGo_snoc]; first | exact RC_eq hh_68 (by rw [if_pos (by omega)]) | exact RC_eq hh_68 (by rw [if_neg (by omega)])) (by omega) (by omega) _ _ hW ls (lv_sub hl [4, 5, 6, 1, 0] rfl)
  exact L18 (((x - 0) : Int).toNat + 1) ((-1)) 0 ((ct_nb_ (ct_hold_ cn (cpF (fun _ => (-1)) (ct_hold cn) 10)) (0))) (by omega) (by exact RCh_0 _) (by rfl) (by exact Or.inl rfl) (by omega) (by omega) _ _ hW ls (lv_sub hl [2, 3, 4, 1, 0] rfl)
