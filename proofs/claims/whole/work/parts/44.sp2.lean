abbrev qX4_lowestBestPlace (cI : ClassId) (x : Nat) (axb axn : Nat → Nat) (xk : Int) (xh : Nat) (axt axc : Nat → Nat) (b : zBS) (cn : zCS) (y1 y2 : Int) (pC : List zPn) (pO : List Int) (ev : Int) (j : Nat) (pq : zPn) : Option Value → List va_W → Prop := fun vq wq => ∃ (r : Int) (bz : zBS) (cz : zCS), vq = some (.int (zI r)) ∧ wq = [[(x, .inr (4, [.ref (axb 0), .ref (axn 0), .int (zI xk), .ref xh, .ref (axt 0), .ref (axc 0)]))], zBoard cI axb bz, zCont cI axc cz] ∧ (r = bestC pC pO j pq y2 ∧ RB bz pC pO ev ∧ bd_num bz = bd_num b)
set_option maxRecDepth 20000 in
theorem iX4_lowestBestPlace_X4 : ∀ w ∈ u_ws RX4 TX4 6, w ∈ wsX4_lowestBestPlace := by decide +kernel
set_option maxRecDepth 20000 in
theorem mX4_lowestBestPlace_1 : (.fieldLink RX4 12 "StoryPanels" "board" "LStoryPanels$Board;" : Cond) ∈ wsX4_lowestBestPlace := by decide +kernel
set_option maxHeartbeats 4000000 in
set_option maxRecDepth 100000 in
theorem kX4_lowestBestPlace (l : Launch) (D : va_G) (cI cB : ClassId) (x : Nat) (axb axn : Nat → Nat) (xk : Int) (xh : Nat) (axt axc : Nat → Nat) (b : zBS) (cn : zCS) (y1 y2 : Int) (pC : List zPn) (pO : List Int) (ev : Int) (j : Nat) (pq : zPn) (hR : RB b pC pO ev) (hpq : pC[j]? = some pq) (hsl : y1 = bd_lin b (j : Int)) (hy2 : 0 ≤ y2 ∧ y2 < 5) : zMet l yX4_lowestBestPlace wsX4_lowestBestPlace 5 130 0 0 D cI cB [.ref x, .int (zI y1), .int (zI y2)] [[(x, .inr (4, [.ref (axb 0), .ref (axn 0), .int (zI xk), .ref xh, .ref (axt 0), .ref (axc 0)]))], zBoard cI axb b, zCont cI axc cn] (qX4_lowestBestPlace cI x axb axn xk xh axt axc b cn y1 y2 pC pO ev j pq) := by
  refine zMet.of (cd := cX4_lowestBestPlace) (maxL := 8) (ret := (some .int)) (by decide) rfl (Nat.le_of_ble_eq_true rfl) ?_
  intro p e s m args below meth c A ls hS hr hlk hnm hK hA hW hl
  have hS : CallFix p m c cX4_lowestBestPlace 8 s args wsX4_lowestBestPlace RX4 := hS
  have hx := hS.1
  have hb := hS.2.1
  have hown := hS.2.2.2.1
  have hts := hS.2.2.2.2
  have hl : lv_has ls 8 [(0, .ref x), (1, .int (zI y1)), (2, .int (zI y2))] := hl
  have hRz := hR.1.1
  have hRl := hR.2.1
  have hsl2 := RB_lin hR hpq
  rw [← hsl] at hsl2
  have hin := ahC_inC (pC.eraseIdx j) pO y2
  have hel : (pC.eraseIdx j).length = pC.length - 1 := List.length_eraseIdx_of_lt (List.getElem?_eq_some_iff.mp hpq).1
  have hah := (ahC_le (pC.eraseIdx j) pO y2).1
  refine lv_iconst (v := zI (0)) hx hb dX4_lowestBestPlace_0 rfl ?_
  refine lv_istore_n (lv' := [(3, .int (zI 0)), (0, .ref x), (1, .int (zI y1)), (2, .int (zI y2))]) hx hb dX4_lowestBestPlace_1 rfl hl (by decide) rfl (fun ls hl => ?_)
  refine lv_aload_n hx hb dX4_lowestBestPlace_2 rfl (lv_at hl 1 rfl) ?_
  refine lv_iload_n hx hb dX4_lowestBestPlace_3 rfl (lv_at hl 2 rfl) ?_
  refine lv_iload_n hx hb dX4_lowestBestPlace_4 rfl (lv_at hl 3 rfl) ?_
  refine lv_iconst (v := zI (0)) hx hb dX4_lowestBestPlace_5 rfl ?_
  refine z_callV (r := (RX4, TX4, 6)) (As := [.int (zI y1), .int (zI y2), .int (zI 0)]) (rest := []) hS hK hA hW hl.1 [0, 1, 2] [] (kX4_breaksWith l D cI cB x axb axn xk xh axt axc b cn y1 y2 0 pC pO ev j pq hR hpq hsl hy2 (by omega)) (cwV 3 hts gX4_lowestBestPlace_X4_breaksWith rfl rfl rfl (by decide +kernel) ⟨Nat.le_of_ble_eq_true rfl, Nat.le_of_ble_eq_true rfl⟩) (rfl : vwCl[4]? = some (RX4, TX4, 6)) (q0 := 0) rfl dX4_lowestBestPlace_6 rfl rfl rfl rfl rfl (Nat.le_of_ble_eq_true rfl) ⟨Nat.le_of_ble_eq_true rfl, Nat.le_of_ble_eq_true rfl⟩ (fun v9 w9 H locs hq hW => ?_)
  obtain ⟨rr_6, bz_6, cz_6, rfl, rfl, hh_6⟩ := hq
  have hW : zW D A s.heap [[(x, .inr (4, [.ref (axb 0), .ref (axn 0), .int (zI xk), .ref xh, .ref (axt 0), .ref (axc 0)]))], zBoard cI axb bz_6, zCont cI axc cz_6] H locs := hW
  refine W.eq (g2 := F0 m 9 ls [.int (zI rr_6)]) rfl ?_
  have hn6 := hh_6.2.2
  have hR6 := hh_6.2.1
  have hg6 := nbM_rg hR hpq hy2 ⟨Int.le_refl 0, hin.1⟩
  rw [show rr_6 = (nbM pC pO j pq y2 0) by exact hh_6.1]
  refine lv_istore (lv' := [(4, .int (zI (nbM pC pO j pq y2 0))), (3, .int (zI 0)), (0, .ref x), (1, .int (zI y1)), (2, .int (zI y2))]) hx hb dX4_lowestBestPlace_9 hl (by decide) rfl (fun ls hl => ?_)
  refine lv_aload_n hx hb dX4_lowestBestPlace_11 rfl (lv_at hl 2 rfl) ?_
  refine va_get (D := D) (ci := 4) (v := .ref (axb 0)) (C := RX4) (T := TX4) (N := 6) hx hb hts iX4_lowestBestPlace_X4 hown hK.1 hW.1 0 rfl rfl 0 (by decide) (hts _ mX4_lowestBestPlace_1) (fun _ h9 => h9) rfl dX4_lowestBestPlace_12 ?_
  refine lv_iload_n hx hb dX4_lowestBestPlace_15 rfl (lv_at hl 3 rfl) ?_
  refine lv_iload_n hx hb dX4_lowestBestPlace_16 rfl (lv_at hl 4 rfl) ?_
  refine z_callV (r := (RX0, TX0, 9)) (As := [.int (zI y1), .int (zI y2)]) (rest := []) hS hK hA hW hl.1 [1] [0, 2] (kX0_placesFor l D cI cB axb bz_6 y1 y2 hR6.1 (by omega) (by omega)) (cwV 2 hts gX4_lowestBestPlace_X0_placesFor rfl rfl rfl (by decide +kernel) ⟨Nat.le_of_ble_eq_true rfl, Nat.le_of_ble_eq_true rfl⟩) (rfl : vwCl[0]? = some (RX0, TX0, 9)) (q0 := 1) rfl dX4_lowestBestPlace_17 rfl rfl rfl rfl rfl (Nat.le_of_ble_eq_true rfl) ⟨Nat.le_of_ble_eq_true rfl, Nat.le_of_ble_eq_true rfl⟩ (fun v9 w9 H locs hq hW => ?_)
  obtain ⟨rr_17, rfl, rfl, hh_17⟩ := hq
  subst rr_17
  have hW : zW D A s.heap [zBoard cI axb bz_6, [(x, .inr (4, [.ref (axb 0), .ref (axn 0), .int (zI xk), .ref xh, .ref (axt 0), .ref (axc 0)]))], zCont cI axc cz_6] H locs := hW
  have hW : zW D A s.heap [[(x, .inr (4, [.ref (axb 0), .ref (axn 0), .int (zI xk), .ref xh, .ref (axt 0), .ref (axc 0)]))], zBoard cI axb bz_6, zCont cI axc cz_6] H locs := hW.pick [1, 0, 2] rfl rfl
  refine W.eq (g2 := F0 m 20 ls [.int (zI (zplacesB bz_6 y1 y2))]) rfl ?_
  rw [show (zplacesB bz_6 y1 y2) = (inC (pC.eraseIdx j) y2 + 1) by rw [hsl, ← RB_same hR hR6 hn6 hpq]; exact RB_places hR6 hpq y2]
  refine lv_istore (lv' := [(5, .int (zI (inC (pC.eraseIdx j) y2 + 1))), (4, .int (zI (nbM pC pO j pq y2 0))), (3, .int (zI 0)), (0, .ref x), (1, .int (zI y1)), (2, .int (zI y2))]) hx hb dX4_lowestBestPlace_20 hl (by decide) rfl (fun ls hl => ?_)
  refine lv_iconst (v := zI (1)) hx hb dX4_lowestBestPlace_22 rfl ?_
  refine lv_istore (lv' := [(6, .int (zI 1)), (5, .int (zI (inC (pC.eraseIdx j) y2 + 1))), (4, .int (zI (nbM pC pO j pq y2 0))), (3, .int (zI 0)), (0, .ref x), (1, .int (zI y1)), (2, .int (zI y2))]) hx hb dX4_lowestBestPlace_23 hl (by decide) rfl (fun ls hl => ?_)
  have L25 : ∀ (fu : Nat) (bst : Int) (few : Int) (kp : Int) (b2 : zBS) (c2 : zCS), (1 ≤ kp ∧ kp ≤ inC (pC.eraseIdx j) y2 + 1) → (RB b2 pC pO ev) → (bd_num b2 = bd_num b) → ((bst, few) = bestF (nbM pC pO j pq y2) (kp - 1).toNat) → (0 ≤ few ∧ few ≤ 160) → (inC (pC.eraseIdx j) y2 + 1 - kp) < (fu : Int) → ∀ (H : Heap) (locs : List Loc), zW D A s.heap [[(x, .inr (4, [.ref (axb 0), .ref (axn 0), .int (zI xk), .ref xh, .ref (axt 0), .ref (axc 0)]))], zBoard cI axb b2, zCont cI axc c2] H locs → ∀ (ls : Array Slot), lv_has ls 8 [(0, .ref x), (1, .int (zI y1)), (2, .int (zI y2)), (3, .int (zI bst)), (4, .int (zI few)), (5, .int (zI (inC (pC.eraseIdx j) y2 + 1))), (6, .int (zI kp))] → W p l e { frames := 5, cells := 0, slots := 0, locals := 130 } s m args below meth c H locs 0 0 (MQ below (zQ A D (qX4_lowestBestPlace cI x axb axn xk xh axt axc b cn y1 y2 pC pO ev j pq)) args s 0 0 A) (F0 m 25 ls []) := by
    intro fu
    induction fu with
    | zero => intro bst few kp b2 c2 hkp hR2 hn2 hbf hfw hm; exact absurd hm (by omega)
    | succ fu ih25 =>
      intro bst few kp b2 c2 hkp hR2 hn2 hbf hfw hm H locs hW ls hl
      refine lv_iload hx hb dX4_lowestBestPlace_25 (lv_at hl 6 rfl) ?_
      refine lv_iload hx hb dX4_lowestBestPlace_27 (lv_at hl 5 rfl) ?_
      refine z_icmp_ge (tgt := 62) hx hb dX4_lowestBestPlace_29 (by decide) (by omega) (fun cc_29 => ?_) (fun cc_29 => ?_)
      · refine lv_iload_n hx hb dX4_lowestBestPlace_62 rfl (lv_at hl 3 rfl) ?_
        exact z_iret (v := bst) hx hb hr hlk hW dX4_lowestBestPlace_63 (by
            exact ⟨bst, b2, c2, rfl, rfl, by exact ⟨by unfold bestC; rw [show (inC (pC.eraseIdx j) y2).toNat = (kp - 1).toNat by omega, ← hbf], hR2, hn2⟩⟩)
      · refine lv_aload_n hx hb dX4_lowestBestPlace_32 rfl (lv_at hl 0 rfl) ?_
        refine lv_iload_n hx hb dX4_lowestBestPlace_33 rfl (lv_at hl 1 rfl) ?_
        refine lv_iload_n hx hb dX4_lowestBestPlace_34 rfl (lv_at hl 2 rfl) ?_
        refine lv_iload hx hb dX4_lowestBestPlace_35 (lv_at hl 6 rfl) ?_
        refine z_callV (r := (RX4, TX4, 6)) (As := [.int (zI y1), .int (zI y2), .int (zI kp)]) (rest := []) hS hK hA hW hl.1 [0, 1, 2] [] (kX4_breaksWith l D cI cB x axb axn xk xh axt axc b2 c2 y1 y2 kp pC pO ev j pq hR2 hpq (by exact hsl.trans (RB_same hR2 hR hn2.symm hpq)) hy2 (by omega)) (cwV 3 hts gX4_lowestBestPlace_X4_breaksWith rfl rfl rfl (by decide +kernel) ⟨Nat.le_of_ble_eq_true rfl, Nat.le_of_ble_eq_true rfl⟩) (rfl : vwCl[4]? = some (RX4, TX4, 6)) (q0 := 0) rfl dX4_lowestBestPlace_37 rfl rfl rfl rfl rfl (Nat.le_of_ble_eq_true rfl) ⟨Nat.le_of_ble_eq_true rfl, Nat.le_of_ble_eq_true rfl⟩ (fun v9 w9 H locs hq hW => ?_)
        obtain ⟨rr_37, bz_37, cz_37, rfl, rfl, hh_37⟩ := hq
        have hW : zW D A s.heap [[(x, .inr (4, [.ref (axb 0), .ref (axn 0), .int (zI xk), .ref xh, .ref (axt 0), .ref (axc 0)]))], zBoard cI axb bz_37, zCont cI axc cz_37] H locs := hW
        refine W.eq (g2 := F0 m 40 ls [.int (zI rr_37)]) rfl ?_
        have hg7 := nbM_rg hR hpq hy2 (pl := kp) (by omega)
        rw [show rr_37 = (nbM pC pO j pq y2 kp) by exact hh_37.1]
        refine lv_istore (lv' := [(7, .int (zI (nbM pC pO j pq y2 kp))), (0, .ref x), (1, .int (zI y1)), (2, .int (zI y2)), (3, .int (zI bst)), (4, .int (zI few)), (5, .int (zI (inC (pC.eraseIdx j) y2 + 1))), (6, .int (zI kp))]) hx hb dX4_lowestBestPlace_40 hl (by decide) rfl (fun ls hl => ?_)
        refine lv_iload hx hb dX4_lowestBestPlace_42 (lv_at hl 0 rfl) ?_
        refine lv_iload hx hb dX4_lowestBestPlace_44 (lv_at hl 5 rfl) ?_
        refine z_icmp_ge (tgt := 56) hx hb dX4_lowestBestPlace_46 (by decide) (by omega) (fun cc_46 => ?_) (fun cc_46 => ?_)
        · refine z_iinc (x := kp) (lv' := [(6, .int (zI (kp + 1))), (7, .int (zI (nbM pC pO j pq y2 kp))), (0, .ref x), (1, .int (zI y1)), (2, .int (zI y2)), (3, .int (zI bst)), (4, .int (zI few)), (5, .int (zI (inC (pC.eraseIdx j) y2 + 1)))]) hx hb dX4_lowestBestPlace_56 hl (k := 7) rfl (by decide) rfl (fun ls hl => ?_)
          refine lv_goto (tgt := 25) hx hb dX4_lowestBestPlace_59 (by decide) ?_
          exact ih25 bst few (kp + 1) bz_37 cz_37 (by omega) (by exact hh_37.2.1) (by exact hh_37.2.2.trans hn2) (by rw [bestF_s _ hkp.1, ← hbf]; first | (rw [if_pos (by exact cc_46)]; done) | (rw [if_neg (by exact Int.not_lt.mpr cc_46)]; done)) (by first | exact hg7 | exact hfw) (by omega) _ _ hW ls (lv_sub hl [2, 3, 4, 5, 6, 7, 0] rfl)
        · refine lv_iload hx hb dX4_lowestBestPlace_49 (lv_at hl 0 rfl) ?_
          refine lv_istore (lv' := [(4, .int (zI (nbM pC pO j pq y2 kp))), (7, .int (zI (nbM pC pO j pq y2 kp))), (0, .ref x), (1, .int (zI y1)), (2, .int (zI y2)), (3, .int (zI bst)), (5, .int (zI (inC (pC.eraseIdx j) y2 + 1))), (6, .int (zI kp))]) hx hb dX4_lowestBestPlace_51 hl (by decide) rfl (fun ls hl => ?_)
          refine lv_iload hx hb dX4_lowestBestPlace_53 (lv_at hl 7 rfl) ?_
          refine lv_istore_n (lv' := [(3, .int (zI kp)), (4, .int (zI (nbM pC pO j pq y2 kp))), (7, .int (zI (nbM pC pO j pq y2 kp))), (0, .ref x), (1, .int (zI y1)), (2, .int (zI y2)), (5, .int (zI (inC (pC.eraseIdx j) y2 + 1))), (6, .int (zI kp))]) hx hb dX4_lowestBestPlace_55 rfl hl (by decide) rfl (fun ls hl => ?_)
          refine z_iinc (x := kp) (lv' := [(6, .int (zI (kp + 1))), (3, .int (zI kp)), (4, .int (zI (nbM pC pO j pq y2 kp))), (7, .int (zI (nbM pC pO j pq y2 kp))), (0, .ref x), (1, .int (zI y1)), (2, .int (zI y2)), (5, .int (zI (inC (pC.eraseIdx j) y2 + 1)))]) hx hb dX4_lowestBestPlace_56 hl (k := 7) rfl (by decide) rfl (fun ls hl => ?_)
          refine lv_goto (tgt := 25) hx hb dX4_lowestBestPlace_59 (by decide) ?_
          exact ih25 kp (nbM pC pO j pq y2 kp) (kp + 1) bz_37 cz_37 (by omega) (by exact hh_37.2.1) (by exact hh_37.2.2.trans hn2) (by rw [bestF_s _ hkp.1, ← hbf]; first | (rw [if_pos (by exact cc_46)]; done) | (rw [if_neg (by exact Int.not_lt.mpr cc_46)]; done)) (by first | exact hg7 | exact hfw) (by omega) _ _ hW ls (lv_sub hl [4, 5, 6, 1, 2, 7, 0] rfl)
  exact L25 (((inC (pC.eraseIdx j) y2 + 1 - 1) : Int).toNat + 1) 0 (nbM pC pO j pq y2 0) 1 bz_6 cz_6 (by omega) (by exact hR6) (by exact hn6) (by rfl) (by omega) (by omega) _ _ hW ls (lv_sub hl [4, 5, 6, 3, 2, 1, 0] rfl)

abbrev qX4_lowestToMend (cI : ClassId) (x : Nat) (axb axn : Nat → Nat) (xk : Int) (xh : Nat) (axt axc : Nat → Nat) (b : zBS) (cn : zCS) (y1 : Int) (pC : List zPn) (pO : List Int) (ev : Int) : Option Value → List va_W → Prop := fun vq wq => ∃ (r : Int) (bz : zBS) (cz : zCS), vq = some (.int (zI r)) ∧ wq = [[(x, .inr (4, [.ref (axb 0), .ref (axn 0), .int (zI xk), .ref xh, .ref (axt 0), .ref (axc 0)]))], zBoard cI axb bz, zCont cI axc cz] ∧ (mendR bz pC pO y1 r ∧ RB bz pC pO ev ∧ bd_num bz = bd_num b)
set_option maxRecDepth 20000 in
theorem iX4_lowestToMend_X4 : ∀ w ∈ u_ws RX4 TX4 6, w ∈ wsX4_lowestToMend := by decide +kernel
set_option maxRecDepth 20000 in
theorem mX4_lowestToMend_1 : (.fieldLink RX4 12 "StoryPanels" "board" "LStoryPanels$Board;" : Cond) ∈ wsX4_lowestToMend := by decide +kernel
set_option maxRecDepth 20000 in
theorem iX4_lowestToMend_X0 : ∀ w ∈ u_ws RX0 TX0 9, w ∈ wsX4_lowestToMend := by decide +kernel
set_option maxHeartbeats 4000000 in
set_option maxRecDepth 100000 in
theorem kX4_lowestToMend (l : Launch) (D : va_G) (cI cB : ClassId) (x : Nat) (axb axn : Nat → Nat) (xk : Int) (xh : Nat) (axt axc : Nat → Nat) (b : zBS) (cn : zCS) (y1 : Int) (pC : List zPn) (pO : List Int) (ev : Int) (hR : RB b pC pO ev) (hy1 : 0 ≤ y1 ∧ y1 < 5) : zMet l yX4_lowestToMend wsX4_lowestToMend 5 130 0 0 D cI cB [.ref x, .int (zI y1)] [[(x, .inr (4, [.ref (axb 0), .ref (axn 0), .int (zI xk), .ref xh, .ref (axt 0), .ref (axc 0)]))], zBoard cI axb b, zCont cI axc cn] (qX4_lowestToMend cI x axb axn xk xh axt axc b cn y1 pC pO ev) := by
  refine zMet.of (cd := cX4_lowestToMend) (maxL := 7) (ret := (some .int)) (by decide) rfl (Nat.le_of_ble_eq_true rfl) ?_
  intro p e s m args below meth c A ls hS hr hlk hnm hK hA hW hl
  have hS : CallFix p m c cX4_lowestToMend 7 s args wsX4_lowestToMend RX4 := hS
  have hx := hS.1
  have hb := hS.2.1
  have hown := hS.2.2.2.1
  have hts := hS.2.2.2.2
  have hl : lv_has ls 7 [(0, .ref x), (1, .int (zI y1))] := hl
  have hRz := hR.1.1
  have hRl := hR.2.1
  have hsf1 := hR.1.2.1
  have hsf2 := hR.2.2.1
  have hng := nbC_rg hR
  refine lv_aload_n hx hb dX4_lowestToMend_0 rfl (lv_at hl 0 rfl) ?_
  refine z_callV (r := (RX4, TX4, 6)) (As := []) (rest := []) hS hK hA hW hl.1 [0, 1, 2] [] (kX4_breaksNow l D cI cB x axb axn xk xh axt axc b cn pC pO ev hR) (cwV 0 hts gX4_lowestToMend_X4_breaksNow rfl rfl rfl (by decide +kernel) ⟨Nat.le_of_ble_eq_true rfl, Nat.le_of_ble_eq_true rfl⟩) (rfl : vwCl[4]? = some (RX4, TX4, 6)) (q0 := 0) rfl dX4_lowestToMend_1 rfl rfl rfl rfl rfl (Nat.le_of_ble_eq_true rfl) ⟨Nat.le_of_ble_eq_true rfl, Nat.le_of_ble_eq_true rfl⟩ (fun v9 w9 H locs hq hW => ?_)
  obtain ⟨rr_1, cz_1, rfl, rfl, hh_1⟩ := hq
  have hW : zW D A s.heap [[(x, .inr (4, [.ref (axb 0), .ref (axn 0), .int (zI xk), .ref xh, .ref (axt 0), .ref (axc 0)]))], zBoard cI axb b, zCont cI axc cz_1] H locs := hW
  refine W.eq (g2 := F0 m 4 ls [.int (zI rr_1)]) rfl ?_
  rw [show rr_1 = (nbC pC) by exact hh_1.1]
  refine lv_istore_n (lv' := [(2, .int (zI (nbC pC))), (0, .ref x), (1, .int (zI y1))]) hx hb dX4_lowestToMend_4 rfl hl (by decide) rfl (fun ls hl => ?_)
  refine lv_iload_n hx hb dX4_lowestToMend_5 rfl (lv_at hl 0 rfl) ?_
  refine z_if_ne (tgt := 11) hx hb dX4_lowestToMend_6 (by decide) (by omega) (fun cc_6 => ?_) (fun cc_6 => ?_)
  · refine lv_iconst (v := zI (0)) hx hb dX4_lowestToMend_11 rfl ?_
    refine lv_istore_n (lv' := [(3, .int (zI 0)), (2, .int (zI (nbC pC))), (0, .ref x), (1, .int (zI y1))]) hx hb dX4_lowestToMend_12 rfl hl (by decide) rfl (fun ls hl => ?_)
    have L13 : ∀ (fu : Nat) (kn : Int) (b2 : zBS) (c2 : zCS), (0 ≤ kn ∧ kn ≤ 99) → (RB b2 pC pO ev) → (bd_num b2 = bd_num b) → (thruM pC pO y1 kn) → (99 - kn) < (fu : Int) → ∀ (H : Heap) (locs : List Loc), zW D A s.heap [[(x, .inr (4, [.ref (axb 0), .ref (axn 0), .int (zI xk), .ref xh, .ref (axt 0), .ref (axc 0)]))], zBoard cI axb b2, zCont cI axc c2] H locs → ∀ (ls : Array Slot), lv_has ls 7 [(0, .ref x), (1, .int (zI y1)), (2, .int (zI (nbC pC))), (3, .int (zI kn))] → W p l e { frames := 5, cells := 0, slots := 0, locals := 130 } s m args below meth c H locs 0 0 (MQ below (zQ A D (qX4_lowestToMend cI x axb axn xk xh axt axc b cn y1 pC pO ev)) args s 0 0 A) (F0 m 13 ls []) := by
      intro fu
      induction fu with
      | zero => intro kn b2 c2 hkn hR2 hn2 hth hm; exact absurd hm (by omega)
      | succ fu ih13 =>
        intro kn b2 c2 hkn hR2 hn2 hth hm H locs hW ls hl
        have hs2 := hR2.2.2.1
        refine lv_iload_n hx hb dX4_lowestToMend_13 rfl (lv_at hl 3 rfl) ?_
        refine lv_aload_n hx hb dX4_lowestToMend_14 rfl (lv_at hl 0 rfl) ?_
        refine va_get (D := D) (ci := 4) (v := .ref (axb 0)) (C := RX4) (T := TX4) (N := 6) hx hb hts iX4_lowestToMend_X4 hown hK.1 hW.1 0 rfl rfl 0 (by decide) (hts _ mX4_lowestToMend_1) (fun _ h9 => h9) rfl dX4_lowestToMend_15 ?_
        refine va_getN (D := D) (ci := 0) (v := .int (zI (bd_sf b2))) (C := RX0) (T := TX0) (N := 9) hx hb hts iX4_lowestToMend_X0 hown hK.1 hW.1 1 rfl rfl 8 (by decide) (va_Nw.use rfl (hK.2 _ nm_1)) (fun _ h9 => h9) rfl dX4_lowestToMend_18 ?_
        refine z_icmp_ge (tgt := 112) hx hb dX4_lowestToMend_21 (by decide) (by omega) (fun cc_21 => ?_) (fun cc_21 => ?_)
        · refine lv_iconst (v := zI (-1)) hx hb dX4_lowestToMend_112 rfl ?_
          exact z_iret (v := (-1)) hx hb hr hlk hW dX4_lowestToMend_113 (by
              exact ⟨(-1), b2, c2, rfl, rfl, by exact ⟨Or.inl ⟨rfl, fun i q hq hs => hth i q hq hs (by have hq9 := (hR2.2.2.2.2.2.2.1 q (List.mem_of_getElem? hq)).2; omega)⟩, hR2, hn2⟩⟩)
        · refine lv_iload_n hx hb dX4_lowestToMend_24 rfl (lv_at hl 3 rfl) ?_
          refine lv_bipush (v := zI (99)) hx hb dX4_lowestToMend_25 (by decide +kernel) ?_
          refine z_icmp_ge (tgt := 112) hx hb dX4_lowestToMend_27 (by decide) (by omega) (fun cc_27 => ?_) (fun cc_27 => ?_)
          · refine lv_iconst (v := zI (-1)) hx hb dX4_lowestToMend_112 rfl ?_
            exact z_iret (v := (-1)) hx hb hr hlk hW dX4_lowestToMend_113 (by
                exact ⟨(-1), b2, c2, rfl, rfl, by exact ⟨Or.inl ⟨rfl, fun i q hq hs => hth i q hq hs (by have hq9 := (hR2.2.2.2.2.2.2.1 q (List.mem_of_getElem? hq)).2; omega)⟩, hR2, hn2⟩⟩)
          · refine lv_aload_n hx hb dX4_lowestToMend_30 rfl (lv_at hl 0 rfl) ?_
            refine va_get (D := D) (ci := 4) (v := .ref (axb 0)) (C := RX4) (T := TX4) (N := 6) hx hb hts iX4_lowestToMend_X4 hown hK.1 hW.1 0 rfl rfl 0 (by decide) (hts _ mX4_lowestToMend_1) (fun _ h9 => h9) rfl dX4_lowestToMend_31 ?_
            refine lv_iload_n hx hb dX4_lowestToMend_34 rfl (lv_at hl 3 rfl) ?_
            refine z_callV (r := (RX0, TX0, 9)) (As := [.int (zI kn)]) (rest := []) hS hK hA hW hl.1 [1] [0, 2] (kX0_slotOf l D cI cB axb b2 kn hR2.1 (by omega)) (cwV 1 hts gX4_lowestToMend_X0_slotOf rfl rfl rfl (by decide +kernel) ⟨Nat.le_of_ble_eq_true rfl, Nat.le_of_ble_eq_true rfl⟩) (rfl : vwCl[0]? = some (RX0, TX0, 9)) (q0 := 1) rfl dX4_lowestToMend_35 rfl rfl rfl rfl rfl (Nat.le_of_ble_eq_true rfl) ⟨Nat.le_of_ble_eq_true rfl, Nat.le_of_ble_eq_true rfl⟩ (fun v9 w9 H locs hq hW => ?_)
            obtain ⟨rr_35, rfl, rfl, hh_35⟩ := hq
            have hW : zW D A s.heap [zBoard cI axb b2, [(x, .inr (4, [.ref (axb 0), .ref (axn 0), .int (zI xk), .ref xh, .ref (axt 0), .ref (axc 0)]))], zCont cI axc c2] H locs := hW
            have hW : zW D A s.heap [[(x, .inr (4, [.ref (axb 0), .ref (axn 0), .int (zI xk), .ref xh, .ref (axt 0), .ref (axc 0)]))], zBoard cI axb b2, zCont cI axc c2] H locs := hW.pick [1, 0, 2] rfl rfl
            refine W.eq (g2 := F0 m 38 ls [.int (zI rr_35)]) rfl ?_
            have qq_35 : -1 ≤ rr_35 ∧ rr_35 < 10 := by rcases hh_35 with hq | hq <;> omega
            refine lv_istore (lv' := [(4, .int (zI rr_35)), (0, .ref x), (1, .int (zI y1)), (2, .int (zI (nbC pC))), (3, .int (zI kn))]) hx hb dX4_lowestToMend_38 hl (by decide) rfl (fun ls hl => ?_)
            refine lv_iload hx hb dX4_lowestToMend_40 (lv_at hl 0 rfl) ?_
            refine lv_iconst (v := zI (-1)) hx hb dX4_lowestToMend_42 rfl ?_
            refine z_icmp_eq (tgt := 106) hx hb dX4_lowestToMend_43 (by decide) (by omega) (fun cc_43 => ?_) (fun cc_43 => ?_)
            · refine z_iinc (x := kn) (lv' := [(3, .int (zI (kn + 1))), (4, .int (zI rr_35)), (0, .ref x), (1, .int (zI y1)), (2, .int (zI (nbC pC)))]) hx hb dX4_lowestToMend_106 hl (k := 4) rfl (by decide) rfl (fun ls hl => ?_)
              refine lv_goto (tgt := 13) hx hb dX4_lowestToMend_109 (by decide) ?_
              exact ih13 (kn + 1) b2 c2 (by omega) (by first | exact hR3 | exact hR2) (by first | exact hn3.trans hn2 | exact hn2) (by first | exact thruM_one hR2 hth hjp (hjn.trans h35.2.2.2) (fun _ => not_canM (fun pl p1 p2 => hno pl p1 (by omega))) | exact thruM_one hR2 hth hjp (hjn.trans h35.2.2.2) (fun hsq => absurd hsq cc_56) | exact thruM_none hth (RB_none hR2 (by rcases hh_35 with hq | hq; exact hq.2; omega))) (by omega) _ _ hW ls (lv_sub hl [2, 3, 4, 0] rfl)
            · have h35 : 0 ≤ rr_35 ∧ rr_35 < 10 ∧ 0 ≤ kn ∧ bd_num b2 rr_35 = kn := by rcases hh_35 with hq | hq; omega; exact hq
              obtain ⟨jq, pq, hjp, hjn, hjl⟩ := RB_slot hR2 (x := rr_35) (by omega) (by omega)
              have hpo := (RB_pn hR2 pq (List.mem_of_getElem? hjp)).2.1
              have hin := ahC_inC (pC.eraseIdx jq) pO y1
              have hel : (pC.eraseIdx jq).length = pC.length - 1 := List.length_eraseIdx_of_lt (List.getElem?_eq_some_iff.mp hjp).1
              have hah := (ahC_le (pC.eraseIdx jq) pO y1).1
              refine lv_aload_n hx hb dX4_lowestToMend_46 rfl (lv_at hl 1 rfl) ?_
              refine va_get (D := D) (ci := 4) (v := .ref (axb 0)) (C := RX4) (T := TX4) (N := 6) hx hb hts iX4_lowestToMend_X4 hown hK.1 hW.1 0 rfl rfl 0 (by decide) (hts _ mX4_lowestToMend_1) (fun _ h9 => h9) rfl dX4_lowestToMend_47 ?_
              refine lv_iload hx hb dX4_lowestToMend_50 (lv_at hl 0 rfl) ?_
              refine z_callV (r := (RX0, TX0, 9)) (As := [.int (zI rr_35)]) (rest := []) hS hK hA hW hl.1 [1] [0, 2] (kX0_sceneOf l D cI cB axb b2 rr_35 hR2.1 (by omega)) (cwV 1 hts gX4_lowestToMend_X0_sceneOf rfl rfl rfl (by decide +kernel) ⟨Nat.le_of_ble_eq_true rfl, Nat.le_of_ble_eq_true rfl⟩) (rfl : vwCl[0]? = some (RX0, TX0, 9)) (q0 := 1) rfl dX4_lowestToMend_52 rfl rfl rfl rfl rfl (Nat.le_of_ble_eq_true rfl) ⟨Nat.le_of_ble_eq_true rfl, Nat.le_of_ble_eq_true rfl⟩ (fun v9 w9 H locs hq hW => ?_)
              obtain ⟨rr_52, rfl, rfl, hh_52⟩ := hq
              subst rr_52
              have hW : zW D A s.heap [zBoard cI axb b2, [(x, .inr (4, [.ref (axb 0), .ref (axn 0), .int (zI xk), .ref xh, .ref (axt 0), .ref (axc 0)]))], zCont cI axc c2] H locs := hW
              have hW : zW D A s.heap [[(x, .inr (4, [.ref (axb 0), .ref (axn 0), .int (zI xk), .ref xh, .ref (axt 0), .ref (axc 0)]))], zBoard cI axb b2, zCont cI axc c2] H locs := hW.pick [1, 0, 2] rfl rfl
              refine W.eq (g2 := F0 m 55 ls [.int (zI (bd_scn b2 rr_35))]) rfl ?_
              rw [show (bd_scn b2 rr_35) = pq.2.1 by rw [hjl]; exact (hR2.2.2.2.1 jq pq hjp).2.1]
              refine lv_iload_n hx hb dX4_lowestToMend_55 rfl (lv_at hl 2 rfl) ?_
              refine z_icmp_eq (tgt := 62) hx hb dX4_lowestToMend_56 (by decide) (by omega) (fun cc_56 => ?_) (fun cc_56 => ?_)
              · refine lv_aload_n hx hb dX4_lowestToMend_62 rfl (lv_at hl 1 rfl) ?_
                refine va_get (D := D) (ci := 4) (v := .ref (axb 0)) (C := RX4) (T := TX4) (N := 6) hx hb hts iX4_lowestToMend_X4 hown hK.1 hW.1 0 rfl rfl 0 (by decide) (hts _ mX4_lowestToMend_1) (fun _ h9 => h9) rfl dX4_lowestToMend_63 ?_
                refine lv_iload hx hb dX4_lowestToMend_66 (lv_at hl 0 rfl) ?_
                refine lv_iload_n hx hb dX4_lowestToMend_68 rfl (lv_at hl 2 rfl) ?_
                refine z_callV (r := (RX0, TX0, 9)) (As := [.int (zI rr_35), .int (zI y1)]) (rest := []) hS hK hA hW hl.1 [1] [0, 2] (kX0_placesFor l D cI cB axb b2 rr_35 y1 hR2.1 (by omega) (by omega)) (cwV 2 hts gX4_lowestToMend_X0_placesFor rfl rfl rfl (by decide +kernel) ⟨Nat.le_of_ble_eq_true rfl, Nat.le_of_ble_eq_true rfl⟩) (rfl : vwCl[0]? = some (RX0, TX0, 9)) (q0 := 1) rfl dX4_lowestToMend_69 rfl rfl rfl rfl rfl (Nat.le_of_ble_eq_true rfl) ⟨Nat.le_of_ble_eq_true rfl, Nat.le_of_ble_eq_true rfl⟩ (fun v9 w9 H locs hq hW => ?_)
                obtain ⟨rr_69, rfl, rfl, hh_69⟩ := hq
                subst rr_69
                have hW : zW D A s.heap [zBoard cI axb b2, [(x, .inr (4, [.ref (axb 0), .ref (axn 0), .int (zI xk), .ref xh, .ref (axt 0), .ref (axc 0)]))], zCont cI axc c2] H locs := hW
                have hW : zW D A s.heap [[(x, .inr (4, [.ref (axb 0), .ref (axn 0), .int (zI xk), .ref xh, .ref (axt 0), .ref (axc 0)]))], zBoard cI axb b2, zCont cI axc c2] H locs := hW.pick [1, 0, 2] rfl rfl
                refine W.eq (g2 := F0 m 72 ls [.int (zI (zplacesB b2 rr_35 y1))]) rfl ?_
                rw [show (zplacesB b2 rr_35 y1) = (inC (pC.eraseIdx jq) y1 + 1) by rw [hjl]; exact RB_places hR2 hjp y1]
                refine lv_istore (lv' := [(5, .int (zI (inC (pC.eraseIdx jq) y1 + 1))), (4, .int (zI rr_35)), (0, .ref x), (1, .int (zI y1)), (2, .int (zI (nbC pC))), (3, .int (zI kn))]) hx hb dX4_lowestToMend_72 hl (by decide) rfl (fun ls hl => ?_)
                refine lv_iconst (v := zI (0)) hx hb dX4_lowestToMend_74 rfl ?_
                refine lv_istore (lv' := [(6, .int (zI 0)), (5, .int (zI (inC (pC.eraseIdx jq) y1 + 1))), (4, .int (zI rr_35)), (0, .ref x), (1, .int (zI y1)), (2, .int (zI (nbC pC))), (3, .int (zI kn))]) hx hb dX4_lowestToMend_75 hl (by decide) rfl (fun ls hl => ?_)
                have L77 : ∀ (fu : Nat) (kp : Int) (b3 : zBS) (c3 : zCS), (0 ≤ kp ∧ kp ≤ inC (pC.eraseIdx jq) y1 + 1) → (RB b3 pC pO ev) → (bd_num b3 = bd_num b2) → (∀ pl, 0 ≤ pl → pl < kp → nbC pC ≤ nbM pC pO jq pq y1 pl) → (inC (pC.eraseIdx jq) y1 + 1 - kp) < (fu : Int) → ∀ (H : Heap) (locs : List Loc), zW D A s.heap [[(x, .inr (4, [.ref (axb 0), .ref (axn 0), .int (zI xk), .ref xh, .ref (axt 0), .ref (axc 0)]))], zBoard cI axb b3, zCont cI axc c3] H locs → ∀ (ls : Array Slot), lv_has ls 7 [(0, .ref x), (1, .int (zI y1)), (2, .int (zI (nbC pC))), (3, .int (zI kn)), (4, .int (zI rr_35)), (5, .int (zI (inC (pC.eraseIdx jq) y1 + 1))), (6, .int (zI kp))] → W p l e { frames := 5, cells := 0, slots := 0, locals := 130 } s m args below meth c H locs 0 0 (MQ below (zQ A D (qX4_lowestToMend cI x axb axn xk xh axt axc b cn y1 pC pO ev)) args s 0 0 A) (F0 m 77 ls []) := by
                  intro fu
                  induction fu with
                  | zero => intro kp b3 c3 hkp hR3 hn3 hno hm; exact absurd hm (by omega)
                  | succ fu ih77 =>
                    intro kp b3 c3 hkp hR3 hn3 hno hm H locs hW ls hl
                    refine lv_iload hx hb dX4_lowestToMend_77 (lv_at hl 6 rfl) ?_
                    refine lv_iload hx hb dX4_lowestToMend_79 (lv_at hl 5 rfl) ?_
                    refine z_icmp_ge (tgt := 106) hx hb dX4_lowestToMend_81 (by decide) (by omega) (fun cc_81 => ?_) (fun cc_81 => ?_)
                    · refine z_iinc (x := kn) (lv' := [(3, .int (zI (kn + 1))), (0, .ref x), (1, .int (zI y1)), (2, .int (zI (nbC pC))), (4, .int (zI rr_35)), (5, .int (zI (inC (pC.eraseIdx jq) y1 + 1))), (6, .int (zI kp))]) hx hb dX4_lowestToMend_106 hl (k := 3) rfl (by decide) rfl (fun ls hl => ?_)
                      refine lv_goto (tgt := 13) hx hb dX4_lowestToMend_109 (by decide) ?_
                      exact ih13 (kn + 1) b3 c3 (by omega) (by first | exact hR3 | exact hR2) (by first | exact hn3.trans hn2 | exact hn2) (by first | exact thruM_one hR2 hth hjp (hjn.trans h35.2.2.2) (fun _ => not_canM (fun pl p1 p2 => hno pl p1 (by omega))) | exact thruM_one hR2 hth hjp (hjn.trans h35.2.2.2) (fun hsq => absurd hsq cc_56) | exact thruM_none hth (RB_none hR2 (by rcases hh_35 with hq | hq; exact hq.2; omega))) (by omega) _ _ hW ls (lv_sub hl [1, 2, 3, 0] rfl)
                    · refine lv_aload_n hx hb dX4_lowestToMend_84 rfl (lv_at hl 0 rfl) ?_
                      refine lv_iload hx hb dX4_lowestToMend_85 (lv_at hl 4 rfl) ?_
                      refine lv_iload_n hx hb dX4_lowestToMend_87 rfl (lv_at hl 1 rfl) ?_
                      refine lv_iload hx hb dX4_lowestToMend_88 (lv_at hl 6 rfl) ?_
                      refine z_callV (r := (RX4, TX4, 6)) (As := [.int (zI rr_35), .int (zI y1), .int (zI kp)]) (rest := []) hS hK hA hW hl.1 [0, 1, 2] [] (kX4_breaksWith l D cI cB x axb axn xk xh axt axc b3 c3 rr_35 y1 kp pC pO ev jq pq hR3 hjp (by exact hjl.trans (RB_same hR3 hR2 hn3.symm hjp)) hy1 (by omega)) (cwV 3 hts gX4_lowestToMend_X4_breaksWith rfl rfl rfl (by decide +kernel) ⟨Nat.le_of_ble_eq_true rfl, Nat.le_of_ble_eq_true rfl⟩) (rfl : vwCl[4]? = some (RX4, TX4, 6)) (q0 := 0) rfl dX4_lowestToMend_90 rfl rfl rfl rfl rfl (Nat.le_of_ble_eq_true rfl) ⟨Nat.le_of_ble_eq_true rfl, Nat.le_of_ble_eq_true rfl⟩ (fun v9 w9 H locs hq hW => ?_)
                      obtain ⟨rr_90, bz_90, cz_90, rfl, rfl, hh_90⟩ := hq
                      have hW : zW D A s.heap [[(x, .inr (4, [.ref (axb 0), .ref (axn 0), .int (zI xk), .ref xh, .ref (axt 0), .ref (axc 0)]))], zBoard cI axb bz_90, zCont cI axc cz_90] H locs := hW
                      refine W.eq (g2 := F0 m 93 ls [.int (zI rr_90)]) rfl ?_
                      have hg7 := nbM_rg hR2 hjp hy1 (pl := kp) (by omega)
                      rw [show rr_90 = (nbM pC pO jq pq y1 kp) by exact hh_90.1]
                      refine lv_iload_n hx hb dX4_lowestToMend_93 rfl (lv_at hl 2 rfl) ?_
                      refine z_icmp_ge (tgt := 100) hx hb dX4_lowestToMend_94 (by decide) (by omega) (fun cc_94 => ?_) (fun cc_94 => ?_)
                      · refine z_iinc (x := kp) (lv' := [(6, .int (zI (kp + 1))), (0, .ref x), (1, .int (zI y1)), (2, .int (zI (nbC pC))), (3, .int (zI kn)), (4, .int (zI rr_35)), (5, .int (zI (inC (pC.eraseIdx jq) y1 + 1)))]) hx hb dX4_lowestToMend_100 hl (k := 6) rfl (by decide) rfl (fun ls hl => ?_)
                        refine lv_goto (tgt := 77) hx hb dX4_lowestToMend_103 (by decide) ?_
                        exact ih77 (kp + 1) bz_90 cz_90 (by omega) (by exact hh_90.2.1) (by exact hh_90.2.2.trans hn3) (by intro pl p1 p2; rcases (show pl < kp ∨ pl = kp by omega) with hq | hq; exact hno pl p1 hq; rw [hq]; exact cc_94) (by omega) _ _ hW ls (lv_sub hl [1, 2, 3, 4, 5, 6, 0] rfl)
                      · refine lv_iload hx hb dX4_lowestToMend_97 (lv_at hl 4 rfl) ?_
                        exact z_iret (v := rr_35) hx hb hr hlk hW dX4_lowestToMend_99 (by
                            exact ⟨rr_35, bz_90, cz_90, rfl, rfl, by exact ⟨Or.inr ⟨jq, pq, hjp, cc_56, ⟨kp, by omega, by omega, cc_94⟩, hjl.trans (RB_same hh_90.2.1 hR2 (hn3.symm.trans hh_90.2.2.symm) hjp), by rw [hjn, h35.2.2.2]; exact hth⟩, hh_90.2.1, (hh_90.2.2.trans hn3).trans hn2⟩⟩)
                exact L77 (((inC (pC.eraseIdx jq) y1 + 1 - 0) : Int).toNat + 1) 0 b2 c2 (by omega) (by exact hR2) (by rfl) (by intro pl p1 p2; omega) (by omega) _ _ hW ls (lv_sub hl [3, 4, 5, 6, 2, 1, 0] rfl)
              · refine lv_goto (tgt := 106) hx hb dX4_lowestToMend_59 (by decide) ?_
                refine z_iinc (x := kn) (lv' := [(3, .int (zI (kn + 1))), (4, .int (zI rr_35)), (0, .ref x), (1, .int (zI y1)), (2, .int (zI (nbC pC)))]) hx hb dX4_lowestToMend_106 hl (k := 4) rfl (by decide) rfl (fun ls hl => ?_)
                refine lv_goto (tgt := 13) hx hb dX4_lowestToMend_109 (by decide) ?_
                exact ih13 (kn + 1) b2 c2 (by omega) (by first | exact hR3 | exact hR2) (by first | exact hn3.trans hn2 | exact hn2) (by first | exact thruM_one hR2 hth hjp (hjn.trans h35.2.2.2) (fun _ => not_canM (fun pl p1 p2 => hno pl p1 (by omega))) | exact thruM_one hR2 hth hjp (hjn.trans h35.2.2.2) (fun hsq => absurd hsq cc_56) | exact thruM_none hth (RB_none hR2 (by rcases hh_35 with hq | hq; exact hq.2; omega))) (by omega) _ _ hW ls (lv_sub hl [2, 3, 4, 0] rfl)
    exact L13 (((99 - 0) : Int).toNat + 1) 0 b cz_1 (by omega) (by exact hR) (by rfl) (by exact fun i q hq hs hlt => absurd ((RB_pn hR q (List.mem_of_getElem? hq)).1.1) (by omega)) (by omega) _ _ hW ls (lv_sub hl [2, 3, 1, 0] rfl)
  · refine lv_iconst (v := zI (-1)) hx hb dX4_lowestToMend_9 rfl ?_
    exact z_iret (v := (-1)) hx hb hr hlk hW dX4_lowestToMend_10 (by
        exact ⟨(-1), b, cz_1, rfl, rfl, by exact ⟨Or.inl ⟨rfl, fun i q hq _ => by rintro ⟨pl, p1, p2, p3⟩; have hq9 := nbM_rg hR hq hy1 ⟨p1, p2⟩; omega⟩, hR, rfl⟩⟩)
