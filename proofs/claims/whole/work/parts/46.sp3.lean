abbrev qX4_sceneOfBreak (cI : ClassId) (x : Nat) (axb axn : Nat → Nat) (xk : Int) (xh : Nat) (axt axc : Nat → Nat) (b : zBS) (cn : zCS) (y1 : Int) (pC : List zPn) (pO : List Int) (ev : Int) : Option Value → List va_W → Prop := fun vq wq => ∃ (r : Int), vq = some (.int (zI r)) ∧ wq = [[(x, .inr (4, [.ref (axb 0), .ref (axn 0), .int (zI xk), .ref xh, .ref (axt 0), .ref (axc 0)]))], zBoard cI axb b, zCont cI axc cn] ∧ (r = scN pC (brkAt pC y1).1)
set_option maxRecDepth 20000 in
theorem iX4_sceneOfBreak_X4 : ∀ w ∈ u_ws RX4 TX4 6, w ∈ wsX4_sceneOfBreak := by decide +kernel
set_option maxRecDepth 20000 in
theorem mX4_sceneOfBreak_1 : (.fieldLink RX4 40 "StoryPanels" "continuity" "LStoryPanels$Continuity;" : Cond) ∈ wsX4_sceneOfBreak := by decide +kernel
set_option maxRecDepth 20000 in
theorem mX4_sceneOfBreak_2 : (.fieldLink RX4 12 "StoryPanels" "board" "LStoryPanels$Board;" : Cond) ∈ wsX4_sceneOfBreak := by decide +kernel
set_option maxHeartbeats 4000000 in
set_option maxRecDepth 100000 in
theorem kX4_sceneOfBreak (l : Launch) (D : va_G) (cI cB : ClassId) (x : Nat) (axb axn : Nat → Nat) (xk : Int) (xh : Nat) (axt axc : Nat → Nat) (b : zBS) (cn : zCS) (y1 : Int) (pC : List zPn) (pO : List Int) (ev : Int) (hR : RB b pC pO ev) (hCg : RCh cn (goAll pC)) (hy1 : 0 ≤ y1 ∧ y1 < nbC pC) : zMet l yX4_sceneOfBreak wsX4_sceneOfBreak 2 43 0 0 D cI cB [.ref x, .int (zI y1)] [[(x, .inr (4, [.ref (axb 0), .ref (axn 0), .int (zI xk), .ref xh, .ref (axt 0), .ref (axc 0)]))], zBoard cI axb b, zCont cI axc cn] (qX4_sceneOfBreak cI x axb axn xk xh axt axc b cn y1 pC pO ev) := by
  refine zMet.of (cd := cX4_sceneOfBreak) (maxL := 3) (ret := (some .int)) (by decide) rfl (Nat.le_of_ble_eq_true rfl) ?_
  intro p e s m args below meth c A ls hS hr hlk hnm hK hA hW hl
  have hS : CallFix p m c cX4_sceneOfBreak 3 s args wsX4_sceneOfBreak RX4 := hS
  have hx := hS.1
  have hb := hS.2.1
  have hown := hS.2.2.2.1
  have hts := hS.2.2.2.2
  have hl : lv_has ls 3 [(0, .ref x), (1, .int (zI y1))] := hl
  have hRz := hR.1.1
  have hRl := hR.2.1
  have hnb := nbC_rg hR
  have hbo := brkAt_rg hR hy1
  unfold bkOK at hbo
  have hno : ct_brk cn (y1 * 5 + 0) = (brkAt pC y1).1 := RCh_get hCg hy1 (by omega)
  refine lv_aload_n hx hb dX4_sceneOfBreak_0 rfl (lv_at hl 0 rfl) ?_
  refine va_get (D := D) (ci := 4) (v := .ref (axc 0)) (C := RX4) (T := TX4) (N := 6) hx hb hts iX4_sceneOfBreak_X4 hown hK.1 hW.1 0 rfl rfl 5 (by decide) (hts _ mX4_sceneOfBreak_1) (fun _ h9 => h9) rfl dX4_sceneOfBreak_1 ?_
  refine lv_iload_n hx hb dX4_sceneOfBreak_4 rfl (lv_at hl 1 rfl) ?_
  refine lv_iconst (v := zI (0)) hx hb dX4_sceneOfBreak_5 rfl ?_
  refine z_callV (r := (RX1, TX1, 6)) (As := [.int (zI y1), .int (zI 0)]) (rest := []) hS hK hA hW hl.1 [2] [0, 1] (kX1_numberOfBreak l D cI cB axc cn y1 0 (by omega) (by omega)) (cwV 2 hts gX4_sceneOfBreak_X1_numberOfBreak rfl rfl rfl (by decide +kernel) ⟨Nat.le_of_ble_eq_true rfl, Nat.le_of_ble_eq_true rfl⟩) (rfl : vwCl[1]? = some (RX1, TX1, 6)) (q0 := 9) rfl dX4_sceneOfBreak_6 rfl rfl rfl rfl rfl (Nat.le_of_ble_eq_true rfl) ⟨Nat.le_of_ble_eq_true rfl, Nat.le_of_ble_eq_true rfl⟩ (fun v9 w9 H locs hq hW => ?_)
  obtain ⟨rr_6, rfl, rfl, hh_6⟩ := hq
  subst rr_6
  have hW : zW D A s.heap [zCont cI axc cn, [(x, .inr (4, [.ref (axb 0), .ref (axn 0), .int (zI xk), .ref xh, .ref (axt 0), .ref (axc 0)]))], zBoard cI axb b] H locs := hW
  have hW : zW D A s.heap [[(x, .inr (4, [.ref (axb 0), .ref (axn 0), .int (zI xk), .ref xh, .ref (axt 0), .ref (axc 0)]))], zBoard cI axb b, zCont cI axc cn] H locs := hW.pick [1, 2, 0] rfl rfl
  refine W.eq (g2 := F0 m 9 ls [.int (zI (ct_brk cn (y1 * 5 + 0)))]) rfl ?_
  rw [show (ct_brk cn (y1 * 5 + 0)) = ((brkAt pC y1).1) by exact hno]
  refine lv_istore_n (lv' := [(2, .int (zI ((brkAt pC y1).1))), (0, .ref x), (1, .int (zI y1))]) hx hb dX4_sceneOfBreak_9 rfl hl (by decide) rfl (fun ls hl => ?_)
  refine lv_aload_n hx hb dX4_sceneOfBreak_10 rfl (lv_at hl 1 rfl) ?_
  refine va_get (D := D) (ci := 4) (v := .ref (axb 0)) (C := RX4) (T := TX4) (N := 6) hx hb hts iX4_sceneOfBreak_X4 hown hK.1 hW.1 0 rfl rfl 0 (by decide) (hts _ mX4_sceneOfBreak_2) (fun _ h9 => h9) rfl dX4_sceneOfBreak_11 ?_
  refine lv_aload_n hx hb dX4_sceneOfBreak_14 rfl (lv_at hl 1 rfl) ?_
  refine va_get (D := D) (ci := 4) (v := .ref (axb 0)) (C := RX4) (T := TX4) (N := 6) hx hb hts iX4_sceneOfBreak_X4 hown hK.1 hW.1 0 rfl rfl 0 (by decide) (hts _ mX4_sceneOfBreak_2) (fun _ h9 => h9) rfl dX4_sceneOfBreak_15 ?_
  refine lv_iload_n hx hb dX4_sceneOfBreak_18 rfl (lv_at hl 0 rfl) ?_
  refine z_callV (r := (RX0, TX0, 9)) (As := [.int (zI ((brkAt pC y1).1))]) (rest := [.ref (axb 0)]) hS hK hA hW hl.1 [1] [0, 2] (kX0_slotOf l D cI cB axb b ((brkAt pC y1).1) hR.1 (by omega)) (cwV 1 hts gX4_sceneOfBreak_X0_slotOf rfl rfl rfl (by decide +kernel) ⟨Nat.le_of_ble_eq_true rfl, Nat.le_of_ble_eq_true rfl⟩) (rfl : vwCl[0]? = some (RX0, TX0, 9)) (q0 := 1) rfl dX4_sceneOfBreak_19 rfl rfl rfl rfl rfl (Nat.le_of_ble_eq_true rfl) ⟨Nat.le_of_ble_eq_true rfl, Nat.le_of_ble_eq_true rfl⟩ (fun v9 w9 H locs hq hW => ?_)
  obtain ⟨rr_19, rfl, rfl, hh_19⟩ := hq
  have hW : zW D A s.heap [zBoard cI axb b, [(x, .inr (4, [.ref (axb 0), .ref (axn 0), .int (zI xk), .ref xh, .ref (axt 0), .ref (axc 0)]))], zCont cI axc cn] H locs := hW
  have hW : zW D A s.heap [[(x, .inr (4, [.ref (axb 0), .ref (axn 0), .int (zI xk), .ref xh, .ref (axt 0), .ref (axc 0)]))], zBoard cI axb b, zCont cI axc cn] H locs := hW.pick [1, 0, 2] rfl rfl
  refine W.eq (g2 := F0 m 22 ls [.int (zI rr_19), .ref (axb 0)]) rfl ?_
  have hsl := RB_has hR hh_19 (brkAt_of hy1)
  refine z_callV (r := (RX0, TX0, 9)) (As := [.int (zI rr_19)]) (rest := []) hS hK hA hW hl.1 [1] [0, 2] (kX0_sceneOf l D cI cB axb b rr_19 hR.1 (by omega)) (cwV 1 hts gX4_sceneOfBreak_X0_sceneOf rfl rfl rfl (by decide +kernel) ⟨Nat.le_of_ble_eq_true rfl, Nat.le_of_ble_eq_true rfl⟩) (rfl : vwCl[0]? = some (RX0, TX0, 9)) (q0 := 1) rfl dX4_sceneOfBreak_22 rfl rfl rfl rfl rfl (Nat.le_of_ble_eq_true rfl) ⟨Nat.le_of_ble_eq_true rfl, Nat.le_of_ble_eq_true rfl⟩ (fun v9 w9 H locs hq hW => ?_)
  obtain ⟨rr_22, rfl, rfl, hh_22⟩ := hq
  subst rr_22
  have hW : zW D A s.heap [zBoard cI axb b, [(x, .inr (4, [.ref (axb 0), .ref (axn 0), .int (zI xk), .ref xh, .ref (axt 0), .ref (axc 0)]))], zCont cI axc cn] H locs := hW
  have hW : zW D A s.heap [[(x, .inr (4, [.ref (axb 0), .ref (axn 0), .int (zI xk), .ref xh, .ref (axt 0), .ref (axc 0)]))], zBoard cI axb b, zCont cI axc cn] H locs := hW.pick [1, 0, 2] rfl rfl
  refine W.eq (g2 := F0 m 25 ls [.int (zI (bd_scn b rr_19))]) rfl ?_
  rw [show (bd_scn b rr_19) = (scN pC (brkAt pC y1).1) by rw [← hsl.2.2.2]; exact RB_scn hR (by omega) (by omega)]
  exact z_iret (v := scN pC (brkAt pC y1).1) hx hb hr hlk hW dX4_sceneOfBreak_25 (by
      exact ⟨scN pC (brkAt pC y1).1, rfl, rfl, by rfl⟩)

abbrev qX4_breaksHaving (cI : ClassId) (x : Nat) (axb axn : Nat → Nat) (xk : Int) (xh : Nat) (axt axc : Nat → Nat) (b : zBS) (cn : zCS) (y1 y2 : Int) (pC : List zPn) (pO : List Int) (ev : Int) : Option Value → List va_W → Prop := fun vq wq => ∃ (r : Int) (cz : zCS), vq = some (.int (zI r)) ∧ wq = [[(x, .inr (4, [.ref (axb 0), .ref (axn 0), .int (zI xk), .ref xh, .ref (axt 0), .ref (axc 0)]))], zBoard cI axb b, zCont cI axc cz] ∧ (r = haveB pC y1 y2 ∧ RCh cz (goAll pC))
set_option maxRecDepth 20000 in
theorem iX4_breaksHaving_X4 : ∀ w ∈ u_ws RX4 TX4 6, w ∈ wsX4_breaksHaving := by decide +kernel
set_option maxRecDepth 20000 in
theorem mX4_breaksHaving_1 : (.fieldLink RX4 40 "StoryPanels" "continuity" "LStoryPanels$Continuity;" : Cond) ∈ wsX4_breaksHaving := by decide +kernel
set_option maxHeartbeats 4000000 in
set_option maxRecDepth 100000 in
theorem kX4_breaksHaving (l : Launch) (D : va_G) (cI cB : ClassId) (x : Nat) (axb axn : Nat → Nat) (xk : Int) (xh : Nat) (axt axc : Nat → Nat) (b : zBS) (cn : zCS) (y1 y2 : Int) (pC : List zPn) (pO : List Int) (ev : Int) (hR : RB b pC pO ev) (hy1 : 0 ≤ y1 ∧ y1 < 5) (hy2 : R32 y2) : zMet l yX4_breaksHaving wsX4_breaksHaving 5 125 0 0 D cI cB [.ref x, .int (zI y1), .int (zI y2)] [[(x, .inr (4, [.ref (axb 0), .ref (axn 0), .int (zI xk), .ref xh, .ref (axt 0), .ref (axc 0)]))], zBoard cI axb b, zCont cI axc cn] (qX4_breaksHaving cI x axb axn xk xh axt axc b cn y1 y2 pC pO ev) := by
  refine zMet.of (cd := cX4_breaksHaving) (maxL := 6) (ret := (some .int)) (by decide) rfl (Nat.le_of_ble_eq_true rfl) ?_
  intro p e s m args below meth c A ls hS hr hlk hnm hK hA hW hl
  have hS : CallFix p m c cX4_breaksHaving 6 s args wsX4_breaksHaving RX4 := hS
  have hx := hS.1
  have hb := hS.2.1
  have hown := hS.2.2.2.1
  have hts := hS.2.2.2.2
  have hl : lv_has ls 6 [(0, .ref x), (1, .int (zI y1)), (2, .int (zI y2))] := hl
  have hRz := hR.1.1
  have hRl := hR.2.1
  have hnb := nbC_rg hR
  refine lv_aload_n hx hb dX4_breaksHaving_0 rfl (lv_at hl 0 rfl) ?_
  refine z_callV (r := (RX4, TX4, 6)) (As := []) (rest := []) hS hK hA hW hl.1 [0, 1, 2] [] (kX4_breaksNow l D cI cB x axb axn xk xh axt axc b cn pC pO ev hR) (cwV 0 hts gX4_breaksHaving_X4_breaksNow rfl rfl rfl (by decide +kernel) ⟨Nat.le_of_ble_eq_true rfl, Nat.le_of_ble_eq_true rfl⟩) (rfl : vwCl[4]? = some (RX4, TX4, 6)) (q0 := 0) rfl dX4_breaksHaving_1 rfl rfl rfl rfl rfl (Nat.le_of_ble_eq_true rfl) ⟨Nat.le_of_ble_eq_true rfl, Nat.le_of_ble_eq_true rfl⟩ (fun v9 w9 H locs hq hW => ?_)
  obtain ⟨rr_1, cz_1, rfl, rfl, hh_1⟩ := hq
  have hW : zW D A s.heap [[(x, .inr (4, [.ref (axb 0), .ref (axn 0), .int (zI xk), .ref xh, .ref (axt 0), .ref (axc 0)]))], zBoard cI axb b, zCont cI axc cz_1] H locs := hW
  refine W.eq (g2 := F0 m 4 ls [.int (zI rr_1)]) rfl ?_
  have hgz := hh_1.2
  rw [show rr_1 = (nbC pC) by exact hh_1.1]
  refine lv_istore_n (lv' := [(3, .int (zI (nbC pC))), (0, .ref x), (1, .int (zI y1)), (2, .int (zI y2))]) hx hb dX4_breaksHaving_4 rfl hl (by decide) rfl (fun ls hl => ?_)
  refine lv_iconst (v := zI (0)) hx hb dX4_breaksHaving_5 rfl ?_
  refine lv_istore (lv' := [(4, .int (zI 0)), (3, .int (zI (nbC pC))), (0, .ref x), (1, .int (zI y1)), (2, .int (zI y2))]) hx hb dX4_breaksHaving_6 hl (by decide) rfl (fun ls hl => ?_)
  refine lv_iconst (v := zI (0)) hx hb dX4_breaksHaving_8 rfl ?_
  refine lv_istore (lv' := [(5, .int (zI 0)), (4, .int (zI 0)), (3, .int (zI (nbC pC))), (0, .ref x), (1, .int (zI y1)), (2, .int (zI y2))]) hx hb dX4_breaksHaving_9 hl (by decide) rfl (fun ls hl => ?_)
  have L11 : ∀ (fu : Nat) (fc : Int) (ki : Int), (0 ≤ ki ∧ ki ≤ nbC pC) → (fc = zcnt (fun k => decide (bkGet (brkAt pC k) y1 = y2)) ki) → (nbC pC - ki) < (fu : Int) → ∀ (H : Heap) (locs : List Loc), zW D A s.heap [[(x, .inr (4, [.ref (axb 0), .ref (axn 0), .int (zI xk), .ref xh, .ref (axt 0), .ref (axc 0)]))], zBoard cI axb b, zCont cI axc cz_1] H locs → ∀ (ls : Array Slot), lv_has ls 6 [(0, .ref x), (1, .int (zI y1)), (2, .int (zI y2)), (3, .int (zI (nbC pC))), (4, .int (zI fc)), (5, .int (zI ki))] → W p l e { frames := 5, cells := 0, slots := 0, locals := 125 } s m args below meth c H locs 0 0 (MQ below (zQ A D (qX4_breaksHaving cI x axb axn xk xh axt axc b cn y1 y2 pC pO ev)) args s 0 0 A) (F0 m 11 ls []) := by
    intro fu
    induction fu with
    | zero => intro fc ki hki hfc hm; exact absurd hm (by omega)
    | succ fu ih11 =>
      intro fc ki hki hfc hm H locs hW ls hl
      refine lv_iload hx hb dX4_breaksHaving_11 (lv_at hl 5 rfl) ?_
      refine lv_iload_n hx hb dX4_breaksHaving_13 rfl (lv_at hl 3 rfl) ?_
      refine z_icmp_ge (tgt := 40) hx hb dX4_breaksHaving_14 (by decide) (by omega) (fun cc_14 => ?_) (fun cc_14 => ?_)
      · refine lv_iload hx hb dX4_breaksHaving_40 (lv_at hl 4 rfl) ?_
        exact z_iret (v := fc) hx hb hr hlk hW dX4_breaksHaving_42 (by
            exact ⟨fc, cz_1, rfl, rfl, by exact ⟨by rw [hfc, show ki = nbC pC by omega]; rfl, hgz⟩⟩)
      · have hbg := bkGet_rg (brkAt_rg hR (k := ki) (by omega)) y1
        refine lv_aload_n hx hb dX4_breaksHaving_17 rfl (lv_at hl 0 rfl) ?_
        refine va_get (D := D) (ci := 4) (v := .ref (axc 0)) (C := RX4) (T := TX4) (N := 6) hx hb hts iX4_breaksHaving_X4 hown hK.1 hW.1 0 rfl rfl 5 (by decide) (hts _ mX4_breaksHaving_1) (fun _ h9 => h9) rfl dX4_breaksHaving_18 ?_
        refine lv_iload hx hb dX4_breaksHaving_21 (lv_at hl 5 rfl) ?_
        refine lv_iload_n hx hb dX4_breaksHaving_23 rfl (lv_at hl 1 rfl) ?_
        refine z_callV (r := (RX1, TX1, 6)) (As := [.int (zI ki), .int (zI y1)]) (rest := []) hS hK hA hW hl.1 [2] [0, 1] (kX1_numberOfBreak l D cI cB axc cz_1 ki y1 (by omega) (by omega)) (cwV 2 hts gX4_breaksHaving_X1_numberOfBreak rfl rfl rfl (by decide +kernel) ⟨Nat.le_of_ble_eq_true rfl, Nat.le_of_ble_eq_true rfl⟩) (rfl : vwCl[1]? = some (RX1, TX1, 6)) (q0 := 9) rfl dX4_breaksHaving_24 rfl rfl rfl rfl rfl (Nat.le_of_ble_eq_true rfl) ⟨Nat.le_of_ble_eq_true rfl, Nat.le_of_ble_eq_true rfl⟩ (fun v9 w9 H locs hq hW => ?_)
        obtain ⟨rr_24, rfl, rfl, hh_24⟩ := hq
        subst rr_24
        have hW : zW D A s.heap [zCont cI axc cz_1, [(x, .inr (4, [.ref (axb 0), .ref (axn 0), .int (zI xk), .ref xh, .ref (axt 0), .ref (axc 0)]))], zBoard cI axb b] H locs := hW
        have hW : zW D A s.heap [[(x, .inr (4, [.ref (axb 0), .ref (axn 0), .int (zI xk), .ref xh, .ref (axt 0), .ref (axc 0)]))], zBoard cI axb b, zCont cI axc cz_1] H locs := hW.pick [1, 2, 0] rfl rfl
        refine W.eq (g2 := F0 m 27 ls [.int (zI (ct_brk cz_1 (ki * 5 + y1)))]) rfl ?_
        rw [show (ct_brk cz_1 (ki * 5 + y1)) = (bkGet (brkAt pC ki) y1) by exact RCh_get hgz (by omega) hy1]
        refine lv_iload_n hx hb dX4_breaksHaving_27 rfl (lv_at hl 2 rfl) ?_
        refine z_icmp_ne (tgt := 34) hx hb dX4_breaksHaving_28 (by decide) (by omega) (fun cc_28 => ?_) (fun cc_28 => ?_)
        · refine z_iinc (x := ki) (lv' := [(5, .int (zI (ki + 1))), (0, .ref x), (1, .int (zI y1)), (2, .int (zI y2)), (3, .int (zI (nbC pC))), (4, .int (zI fc))]) hx hb dX4_breaksHaving_34 hl (k := 5) rfl (by decide) rfl (fun ls hl => ?_)
          refine lv_goto (tgt := 11) hx hb dX4_breaksHaving_37 (by decide) ?_
          exact ih11 fc (ki + 1) (by omega) (by rw [zcnt_s _ hki.1, hfc]; simp [cc_28]) (by omega) _ _ hW ls (lv_sub hl [1, 2, 3, 4, 5, 0] rfl)
        · refine z_iinc (x := fc) (lv' := [(4, .int (zI (fc + 1))), (0, .ref x), (1, .int (zI y1)), (2, .int (zI y2)), (3, .int (zI (nbC pC))), (5, .int (zI ki))]) hx hb dX4_breaksHaving_31 hl (k := 4) rfl (by decide) rfl (fun ls hl => ?_)
          refine z_iinc (x := ki) (lv' := [(5, .int (zI (ki + 1))), (4, .int (zI (fc + 1))), (0, .ref x), (1, .int (zI y1)), (2, .int (zI y2)), (3, .int (zI (nbC pC)))]) hx hb dX4_breaksHaving_34 hl (k := 5) rfl (by decide) rfl (fun ls hl => ?_)
          refine lv_goto (tgt := 11) hx hb dX4_breaksHaving_37 (by decide) ?_
          exact ih11 (fc + 1) (ki + 1) (by omega) (by rw [zcnt_s _ hki.1, hfc]; simp [cc_28]) (by omega) _ _ hW ls (lv_sub hl [2, 3, 4, 5, 1, 0] rfl)
  exact L11 (((nbC pC - 0) : Int).toNat + 1) 0 0 (by omega) (by rfl) (by omega) _ _ hW ls (lv_sub hl [3, 4, 5, 2, 1, 0] rfl)

abbrev qX4_breaksOfScene (cI : ClassId) (x : Nat) (axb axn : Nat → Nat) (xk : Int) (xh : Nat) (axt axc : Nat → Nat) (b : zBS) (cn : zCS) (y1 : Int) (pC : List zPn) (pO : List Int) (ev : Int) : Option Value → List va_W → Prop := fun vq wq => ∃ (r : Int) (cz : zCS), vq = some (.int (zI r)) ∧ wq = [[(x, .inr (4, [.ref (axb 0), .ref (axn 0), .int (zI xk), .ref xh, .ref (axt 0), .ref (axc 0)]))], zBoard cI axb b, zCont cI axc cz] ∧ (r = scnB pC y1 ∧ RCh cz (goAll pC))
set_option maxHeartbeats 4000000 in
set_option maxRecDepth 100000 in
theorem kX4_breaksOfScene (l : Launch) (D : va_G) (cI cB : ClassId) (x : Nat) (axb axn : Nat → Nat) (xk : Int) (xh : Nat) (axt axc : Nat → Nat) (b : zBS) (cn : zCS) (y1 : Int) (pC : List zPn) (pO : List Int) (ev : Int) (hR : RB b pC pO ev) (hy1 : R32 y1) : zMet l yX4_breaksOfScene wsX4_breaksOfScene 5 125 0 0 D cI cB [.ref x, .int (zI y1)] [[(x, .inr (4, [.ref (axb 0), .ref (axn 0), .int (zI xk), .ref xh, .ref (axt 0), .ref (axc 0)]))], zBoard cI axb b, zCont cI axc cn] (qX4_breaksOfScene cI x axb axn xk xh axt axc b cn y1 pC pO ev) := by
  refine zMet.of (cd := cX4_breaksOfScene) (maxL := 5) (ret := (some .int)) (by decide) rfl (Nat.le_of_ble_eq_true rfl) ?_
  intro p e s m args below meth c A ls hS hr hlk hnm hK hA hW hl
  have hS : CallFix p m c cX4_breaksOfScene 5 s args wsX4_breaksOfScene RX4 := hS
  have hx := hS.1
  have hb := hS.2.1
  have hown := hS.2.2.2.1
  have hts := hS.2.2.2.2
  have hl : lv_has ls 5 [(0, .ref x), (1, .int (zI y1))] := hl
  have hRz := hR.1.1
  have hRl := hR.2.1
  have hnb := nbC_rg hR
  refine lv_aload_n hx hb dX4_breaksOfScene_0 rfl (lv_at hl 0 rfl) ?_
  refine z_callV (r := (RX4, TX4, 6)) (As := []) (rest := []) hS hK hA hW hl.1 [0, 1, 2] [] (kX4_breaksNow l D cI cB x axb axn xk xh axt axc b cn pC pO ev hR) (cwV 0 hts gX4_breaksOfScene_X4_breaksNow rfl rfl rfl (by decide +kernel) ⟨Nat.le_of_ble_eq_true rfl, Nat.le_of_ble_eq_true rfl⟩) (rfl : vwCl[4]? = some (RX4, TX4, 6)) (q0 := 0) rfl dX4_breaksOfScene_1 rfl rfl rfl rfl rfl (Nat.le_of_ble_eq_true rfl) ⟨Nat.le_of_ble_eq_true rfl, Nat.le_of_ble_eq_true rfl⟩ (fun v9 w9 H locs hq hW => ?_)
  obtain ⟨rr_1, cz_1, rfl, rfl, hh_1⟩ := hq
  have hW : zW D A s.heap [[(x, .inr (4, [.ref (axb 0), .ref (axn 0), .int (zI xk), .ref xh, .ref (axt 0), .ref (axc 0)]))], zBoard cI axb b, zCont cI axc cz_1] H locs := hW
  refine W.eq (g2 := F0 m 4 ls [.int (zI rr_1)]) rfl ?_
  have hgz := hh_1.2
  rw [show rr_1 = (nbC pC) by exact hh_1.1]
  refine lv_istore_n (lv' := [(2, .int (zI (nbC pC))), (0, .ref x), (1, .int (zI y1))]) hx hb dX4_breaksOfScene_4 rfl hl (by decide) rfl (fun ls hl => ?_)
  refine lv_iconst (v := zI (0)) hx hb dX4_breaksOfScene_5 rfl ?_
  refine lv_istore_n (lv' := [(3, .int (zI 0)), (2, .int (zI (nbC pC))), (0, .ref x), (1, .int (zI y1))]) hx hb dX4_breaksOfScene_6 rfl hl (by decide) rfl (fun ls hl => ?_)
  refine lv_iconst (v := zI (0)) hx hb dX4_breaksOfScene_7 rfl ?_
  refine lv_istore (lv' := [(4, .int (zI 0)), (3, .int (zI 0)), (2, .int (zI (nbC pC))), (0, .ref x), (1, .int (zI y1))]) hx hb dX4_breaksOfScene_8 hl (by decide) rfl (fun ls hl => ?_)
  have L10 : ∀ (fu : Nat) (fc : Int) (ki : Int), (0 ≤ ki ∧ ki ≤ nbC pC) → (fc = zcnt (fun k => decide (scN pC (brkAt pC k).1 = y1)) ki) → (nbC pC - ki) < (fu : Int) → ∀ (H : Heap) (locs : List Loc), zW D A s.heap [[(x, .inr (4, [.ref (axb 0), .ref (axn 0), .int (zI xk), .ref xh, .ref (axt 0), .ref (axc 0)]))], zBoard cI axb b, zCont cI axc cz_1] H locs → ∀ (ls : Array Slot), lv_has ls 5 [(0, .ref x), (1, .int (zI y1)), (2, .int (zI (nbC pC))), (3, .int (zI fc)), (4, .int (zI ki))] → W p l e { frames := 5, cells := 0, slots := 0, locals := 125 } s m args below meth c H locs 0 0 (MQ below (zQ A D (qX4_breaksOfScene cI x axb axn xk xh axt axc b cn y1 pC pO ev)) args s 0 0 A) (F0 m 10 ls []) := by
    intro fu
    induction fu with
    | zero => intro fc ki hki hfc hm; exact absurd hm (by omega)
    | succ fu ih10 =>
      intro fc ki hki hfc hm H locs hW ls hl
      refine lv_iload hx hb dX4_breaksOfScene_10 (lv_at hl 4 rfl) ?_
      refine lv_iload_n hx hb dX4_breaksOfScene_12 rfl (lv_at hl 2 rfl) ?_
      refine z_icmp_ge (tgt := 35) hx hb dX4_breaksOfScene_13 (by decide) (by omega) (fun cc_13 => ?_) (fun cc_13 => ?_)
      · refine lv_iload_n hx hb dX4_breaksOfScene_35 rfl (lv_at hl 3 rfl) ?_
        exact z_iret (v := fc) hx hb hr hlk hW dX4_breaksOfScene_36 (by
            exact ⟨fc, cz_1, rfl, rfl, by exact ⟨by rw [hfc, show ki = nbC pC by omega]; rfl, hgz⟩⟩)
      · have hsg := scN_rg (RB_pn hR) (brkAt pC ki).1
        refine lv_aload_n hx hb dX4_breaksOfScene_16 rfl (lv_at hl 0 rfl) ?_
        refine lv_iload hx hb dX4_breaksOfScene_17 (lv_at hl 4 rfl) ?_
        refine z_callV (r := (RX4, TX4, 6)) (As := [.int (zI ki)]) (rest := []) hS hK hA hW hl.1 [0, 1, 2] [] (kX4_sceneOfBreak l D cI cB x axb axn xk xh axt axc b cz_1 ki pC pO ev hR hgz (by omega)) (cwV 1 hts gX4_breaksOfScene_X4_sceneOfBreak rfl rfl rfl (by decide +kernel) ⟨Nat.le_of_ble_eq_true rfl, Nat.le_of_ble_eq_true rfl⟩) (rfl : vwCl[4]? = some (RX4, TX4, 6)) (q0 := 0) rfl dX4_breaksOfScene_19 rfl rfl rfl rfl rfl (Nat.le_of_ble_eq_true rfl) ⟨Nat.le_of_ble_eq_true rfl, Nat.le_of_ble_eq_true rfl⟩ (fun v9 w9 H locs hq hW => ?_)
        obtain ⟨rr_19, rfl, rfl, hh_19⟩ := hq
        subst rr_19
        have hW : zW D A s.heap [[(x, .inr (4, [.ref (axb 0), .ref (axn 0), .int (zI xk), .ref xh, .ref (axt 0), .ref (axc 0)]))], zBoard cI axb b, zCont cI axc cz_1] H locs := hW
        refine W.eq (g2 := F0 m 22 ls [.int (zI (scN pC (brkAt pC ki).1))]) rfl ?_
        refine lv_iload_n hx hb dX4_breaksOfScene_22 rfl (lv_at hl 1 rfl) ?_
        refine z_icmp_ne (tgt := 29) hx hb dX4_breaksOfScene_23 (by decide) (by omega) (fun cc_23 => ?_) (fun cc_23 => ?_)
        · refine z_iinc (x := ki) (lv' := [(4, .int (zI (ki + 1))), (0, .ref x), (1, .int (zI y1)), (2, .int (zI (nbC pC))), (3, .int (zI fc))]) hx hb dX4_breaksOfScene_29 hl (k := 4) rfl (by decide) rfl (fun ls hl => ?_)
          refine lv_goto (tgt := 10) hx hb dX4_breaksOfScene_32 (by decide) ?_
          exact ih10 fc (ki + 1) (by omega) (by rw [zcnt_s _ hki.1, hfc]; simp [cc_23]) (by omega) _ _ hW ls (lv_sub hl [1, 2, 3, 4, 0] rfl)
        · refine z_iinc (x := fc) (lv' := [(3, .int (zI (fc + 1))), (0, .ref x), (1, .int (zI y1)), (2, .int (zI (nbC pC))), (4, .int (zI ki))]) hx hb dX4_breaksOfScene_26 hl (k := 3) rfl (by decide) rfl (fun ls hl => ?_)
          refine z_iinc (x := ki) (lv' := [(4, .int (zI (ki + 1))), (3, .int (zI (fc + 1))), (0, .ref x), (1, .int (zI y1)), (2, .int (zI (nbC pC)))]) hx hb dX4_breaksOfScene_29 hl (k := 4) rfl (by decide) rfl (fun ls hl => ?_)
          refine lv_goto (tgt := 10) hx hb dX4_breaksOfScene_32 (by decide) ?_
          exact ih10 (fc + 1) (ki + 1) (by omega) (by rw [zcnt_s _ hki.1, hfc]; simp [cc_23]) (by omega) _ _ hW ls (lv_sub hl [2, 3, 4, 1, 0] rfl)
  exact L10 (((nbC pC - 0) : Int).toNat + 1) 0 0 (by omega) (by rfl) (by omega) _ _ hW ls (lv_sub hl [3, 4, 2, 1, 0] rfl)

abbrev qX4_rankOfFirstBreak (cI : ClassId) (x : Nat) (axb axn : Nat → Nat) (xk : Int) (xh : Nat) (axt axc : Nat → Nat) (b : zBS) (cn : zCS) (y1 : Int) (pC : List zPn) (pO : List Int) (ev : Int) : Option Value → List va_W → Prop := fun vq wq => ∃ (r : Int) (cz : zCS), vq = some (.int (zI r)) ∧ wq = [[(x, .inr (4, [.ref (axb 0), .ref (axn 0), .int (zI xk), .ref xh, .ref (axt 0), .ref (axc 0)]))], zBoard cI axb b, zCont cI axc cz] ∧ (fstB pC y1 r ∧ RCh cz (goAll pC))
set_option maxHeartbeats 4000000 in
set_option maxRecDepth 100000 in
theorem kX4_rankOfFirstBreak (l : Launch) (D : va_G) (cI cB : ClassId) (x : Nat) (axb axn : Nat → Nat) (xk : Int) (xh : Nat) (axt axc : Nat → Nat) (b : zBS) (cn : zCS) (y1 : Int) (pC : List zPn) (pO : List Int) (ev : Int) (hR : RB b pC pO ev) (hy1 : R32 y1) : zMet l yX4_rankOfFirstBreak wsX4_rankOfFirstBreak 5 125 0 0 D cI cB [.ref x, .int (zI y1)] [[(x, .inr (4, [.ref (axb 0), .ref (axn 0), .int (zI xk), .ref xh, .ref (axt 0), .ref (axc 0)]))], zBoard cI axb b, zCont cI axc cn] (qX4_rankOfFirstBreak cI x axb axn xk xh axt axc b cn y1 pC pO ev) := by
  refine zMet.of (cd := cX4_rankOfFirstBreak) (maxL := 4) (ret := (some .int)) (by decide) rfl (Nat.le_of_ble_eq_true rfl) ?_
  intro p e s m args below meth c A ls hS hr hlk hnm hK hA hW hl
  have hS : CallFix p m c cX4_rankOfFirstBreak 4 s args wsX4_rankOfFirstBreak RX4 := hS
  have hx := hS.1
  have hb := hS.2.1
  have hown := hS.2.2.2.1
  have hts := hS.2.2.2.2
  have hl : lv_has ls 4 [(0, .ref x), (1, .int (zI y1))] := hl
  have hRz := hR.1.1
  have hRl := hR.2.1
  have hnb := nbC_rg hR
  refine lv_aload_n hx hb dX4_rankOfFirstBreak_0 rfl (lv_at hl 0 rfl) ?_
  refine z_callV (r := (RX4, TX4, 6)) (As := []) (rest := []) hS hK hA hW hl.1 [0, 1, 2] [] (kX4_breaksNow l D cI cB x axb axn xk xh axt axc b cn pC pO ev hR) (cwV 0 hts gX4_rankOfFirstBreak_X4_breaksNow rfl rfl rfl (by decide +kernel) ⟨Nat.le_of_ble_eq_true rfl, Nat.le_of_ble_eq_true rfl⟩) (rfl : vwCl[4]? = some (RX4, TX4, 6)) (q0 := 0) rfl dX4_rankOfFirstBreak_1 rfl rfl rfl rfl rfl (Nat.le_of_ble_eq_true rfl) ⟨Nat.le_of_ble_eq_true rfl, Nat.le_of_ble_eq_true rfl⟩ (fun v9 w9 H locs hq hW => ?_)
  obtain ⟨rr_1, cz_1, rfl, rfl, hh_1⟩ := hq
  have hW : zW D A s.heap [[(x, .inr (4, [.ref (axb 0), .ref (axn 0), .int (zI xk), .ref xh, .ref (axt 0), .ref (axc 0)]))], zBoard cI axb b, zCont cI axc cz_1] H locs := hW
  refine W.eq (g2 := F0 m 4 ls [.int (zI rr_1)]) rfl ?_
  have hgz := hh_1.2
  rw [show rr_1 = (nbC pC) by exact hh_1.1]
  refine lv_istore_n (lv' := [(2, .int (zI (nbC pC))), (0, .ref x), (1, .int (zI y1))]) hx hb dX4_rankOfFirstBreak_4 rfl hl (by decide) rfl (fun ls hl => ?_)
  refine lv_iconst (v := zI (0)) hx hb dX4_rankOfFirstBreak_5 rfl ?_
  refine lv_istore_n (lv' := [(3, .int (zI 0)), (2, .int (zI (nbC pC))), (0, .ref x), (1, .int (zI y1))]) hx hb dX4_rankOfFirstBreak_6 rfl hl (by decide) rfl (fun ls hl => ?_)
  have L7 : ∀ (fu : Nat) (ki : Int), (0 ≤ ki ∧ ki ≤ nbC pC) → (∀ k, 0 ≤ k → k < ki → scN pC (brkAt pC k).1 ≠ y1) → (nbC pC - ki) < (fu : Int) → ∀ (H : Heap) (locs : List Loc), zW D A s.heap [[(x, .inr (4, [.ref (axb 0), .ref (axn 0), .int (zI xk), .ref xh, .ref (axt 0), .ref (axc 0)]))], zBoard cI axb b, zCont cI axc cz_1] H locs → ∀ (ls : Array Slot), lv_has ls 4 [(0, .ref x), (1, .int (zI y1)), (2, .int (zI (nbC pC))), (3, .int (zI ki))] → W p l e { frames := 5, cells := 0, slots := 0, locals := 125 } s m args below meth c H locs 0 0 (MQ below (zQ A D (qX4_rankOfFirstBreak cI x axb axn xk xh axt axc b cn y1 pC pO ev)) args s 0 0 A) (F0 m 7 ls []) := by
    intro fu
    induction fu with
    | zero => intro ki hki hno hm; exact absurd hm (by omega)
    | succ fu ih7 =>
      intro ki hki hno hm H locs hW ls hl
      refine lv_iload_n hx hb dX4_rankOfFirstBreak_7 rfl (lv_at hl 3 rfl) ?_
      refine lv_iload_n hx hb dX4_rankOfFirstBreak_8 rfl (lv_at hl 2 rfl) ?_
      refine z_icmp_ge (tgt := 29) hx hb dX4_rankOfFirstBreak_9 (by decide) (by omega) (fun cc_9 => ?_) (fun cc_9 => ?_)
      · refine lv_iconst (v := zI (-1)) hx hb dX4_rankOfFirstBreak_29 rfl ?_
        exact z_iret (v := (-1)) hx hb hr hlk hW dX4_rankOfFirstBreak_30 (by
            exact ⟨(-1), cz_1, rfl, rfl, by exact ⟨Or.inl ⟨rfl, fun k k1 k2 => hno k k1 (by omega)⟩, hgz⟩⟩)
      · have hsg := scN_rg (RB_pn hR) (brkAt pC ki).1
        refine lv_aload_n hx hb dX4_rankOfFirstBreak_12 rfl (lv_at hl 0 rfl) ?_
        refine lv_iload_n hx hb dX4_rankOfFirstBreak_13 rfl (lv_at hl 3 rfl) ?_
        refine z_callV (r := (RX4, TX4, 6)) (As := [.int (zI ki)]) (rest := []) hS hK hA hW hl.1 [0, 1, 2] [] (kX4_sceneOfBreak l D cI cB x axb axn xk xh axt axc b cz_1 ki pC pO ev hR hgz (by omega)) (cwV 1 hts gX4_rankOfFirstBreak_X4_sceneOfBreak rfl rfl rfl (by decide +kernel) ⟨Nat.le_of_ble_eq_true rfl, Nat.le_of_ble_eq_true rfl⟩) (rfl : vwCl[4]? = some (RX4, TX4, 6)) (q0 := 0) rfl dX4_rankOfFirstBreak_14 rfl rfl rfl rfl rfl (Nat.le_of_ble_eq_true rfl) ⟨Nat.le_of_ble_eq_true rfl, Nat.le_of_ble_eq_true rfl⟩ (fun v9 w9 H locs hq hW => ?_)
        obtain ⟨rr_14, rfl, rfl, hh_14⟩ := hq
        subst rr_14
        have hW : zW D A s.heap [[(x, .inr (4, [.ref (axb 0), .ref (axn 0), .int (zI xk), .ref xh, .ref (axt 0), .ref (axc 0)]))], zBoard cI axb b, zCont cI axc cz_1] H locs := hW
        refine W.eq (g2 := F0 m 17 ls [.int (zI (scN pC (brkAt pC ki).1))]) rfl ?_
        refine lv_iload_n hx hb dX4_rankOfFirstBreak_17 rfl (lv_at hl 1 rfl) ?_
        refine z_icmp_ne (tgt := 23) hx hb dX4_rankOfFirstBreak_18 (by decide) (by omega) (fun cc_18 => ?_) (fun cc_18 => ?_)
        · refine z_iinc (x := ki) (lv' := [(3, .int (zI (ki + 1))), (0, .ref x), (1, .int (zI y1)), (2, .int (zI (nbC pC)))]) hx hb dX4_rankOfFirstBreak_23 hl (k := 3) rfl (by decide) rfl (fun ls hl => ?_)
          refine lv_goto (tgt := 7) hx hb dX4_rankOfFirstBreak_26 (by decide) ?_
          exact ih7 (ki + 1) (by omega) (by intro k k1 k2; rcases (show k < ki ∨ k = ki by omega) with hq | hq; exact hno k k1 hq; rw [hq]; exact cc_18) (by omega) _ _ hW ls (lv_sub hl [1, 2, 3, 0] rfl)
        · refine lv_iload_n hx hb dX4_rankOfFirstBreak_21 rfl (lv_at hl 3 rfl) ?_
          exact z_iret (v := ki) hx hb hr hlk hW dX4_rankOfFirstBreak_22 (by
              exact ⟨ki, cz_1, rfl, rfl, by exact ⟨Or.inr ⟨by omega, cc_18, hno⟩, hgz⟩⟩)
  exact L7 (((nbC pC - 0) : Int).toNat + 1) 0 (by omega) (by intro k k1 k2; omega) (by omega) _ _ hW ls (lv_sub hl [2, 3, 1, 0] rfl)

abbrev qX4_propsHeldAtTheEnd (cI : ClassId) (x : Nat) (axb axn : Nat → Nat) (xk : Int) (xh : Nat) (axt axc : Nat → Nat) (b : zBS) (cn : zCS) (pC : List zPn) (pO : List Int) (ev : Int) : Option Value → List va_W → Prop := fun vq wq => ∃ (r : Int) (cz : zCS), vq = some (.int (zI r)) ∧ wq = [[(x, .inr (4, [.ref (axb 0), .ref (axn 0), .int (zI xk), .ref xh, .ref (axt 0), .ref (axc 0)]))], zBoard cI axb b, zCont cI axc cz] ∧ (r = heldC pC ∧ RCh cz (goAll pC))
set_option maxRecDepth 20000 in
theorem iX4_propsHeldAtTheEnd_X4 : ∀ w ∈ u_ws RX4 TX4 6, w ∈ wsX4_propsHeldAtTheEnd := by decide +kernel
set_option maxRecDepth 20000 in
theorem mX4_propsHeldAtTheEnd_1 : (.fieldLink RX4 40 "StoryPanels" "continuity" "LStoryPanels$Continuity;" : Cond) ∈ wsX4_propsHeldAtTheEnd := by decide +kernel
set_option maxRecDepth 20000 in
theorem mX4_propsHeldAtTheEnd_2 : (.fieldLink RX4 12 "StoryPanels" "board" "LStoryPanels$Board;" : Cond) ∈ wsX4_propsHeldAtTheEnd := by decide +kernel
set_option maxRecDepth 20000 in
theorem iX4_propsHeldAtTheEnd_X0 : ∀ w ∈ u_ws RX0 TX0 9, w ∈ wsX4_propsHeldAtTheEnd := by decide +kernel
set_option maxHeartbeats 4000000 in
set_option maxRecDepth 100000 in
theorem kX4_propsHeldAtTheEnd (l : Launch) (D : va_G) (cI cB : ClassId) (x : Nat) (axb axn : Nat → Nat) (xk : Int) (xh : Nat) (axt axc : Nat → Nat) (b : zBS) (cn : zCS) (pC : List zPn) (pO : List Int) (ev : Int) (hR : RB b pC pO ev) : zMet l yX4_propsHeldAtTheEnd wsX4_propsHeldAtTheEnd 4 105 0 0 D cI cB [.ref x] [[(x, .inr (4, [.ref (axb 0), .ref (axn 0), .int (zI xk), .ref xh, .ref (axt 0), .ref (axc 0)]))], zBoard cI axb b, zCont cI axc cn] (qX4_propsHeldAtTheEnd cI x axb axn xk xh axt axc b cn pC pO ev) := by
  refine zMet.of (cd := cX4_propsHeldAtTheEnd) (maxL := 1) (ret := (some .int)) (by decide) rfl (Nat.le_of_ble_eq_true rfl) ?_
  intro p e s m args below meth c A ls hS hr hlk hnm hK hA hW hl
  have hS : CallFix p m c cX4_propsHeldAtTheEnd 1 s args wsX4_propsHeldAtTheEnd RX4 := hS
  have hx := hS.1
  have hb := hS.2.1
  have hown := hS.2.2.2.1
  have hts := hS.2.2.2.2
  have hl : lv_has ls 1 [(0, .ref x)] := hl
  have hRz := hR.1.1
  have hRl := hR.2.1
  have hgo := lstGo_ok pC (-1) g0 (RB_pn hR) g0_ok
  refine lv_aload_n hx hb dX4_propsHeldAtTheEnd_0 rfl (lv_at hl 0 rfl) ?_
  refine va_get (D := D) (ci := 4) (v := .ref (axc 0)) (C := RX4) (T := TX4) (N := 6) hx hb hts iX4_propsHeldAtTheEnd_X4 hown hK.1 hW.1 0 rfl rfl 5 (by decide) (hts _ mX4_propsHeldAtTheEnd_1) (fun _ h9 => h9) rfl dX4_propsHeldAtTheEnd_1 ?_
  refine lv_aload_n hx hb dX4_propsHeldAtTheEnd_4 rfl (lv_at hl 0 rfl) ?_
  refine va_get (D := D) (ci := 4) (v := .ref (axb 0)) (C := RX4) (T := TX4) (N := 6) hx hb hts iX4_propsHeldAtTheEnd_X4 hown hK.1 hW.1 0 rfl rfl 0 (by decide) (hts _ mX4_propsHeldAtTheEnd_2) (fun _ h9 => h9) rfl dX4_propsHeldAtTheEnd_5 ?_
  refine lv_aload_n hx hb dX4_propsHeldAtTheEnd_8 rfl (lv_at hl 0 rfl) ?_
  refine va_get (D := D) (ci := 4) (v := .ref (axb 0)) (C := RX4) (T := TX4) (N := 6) hx hb hts iX4_propsHeldAtTheEnd_X4 hown hK.1 hW.1 0 rfl rfl 0 (by decide) (hts _ mX4_propsHeldAtTheEnd_2) (fun _ h9 => h9) rfl dX4_propsHeldAtTheEnd_9 ?_
  refine va_getN (D := D) (ci := 0) (v := .int (zI (bd_sz b))) (C := RX0) (T := TX0) (N := 9) hx hb hts iX4_propsHeldAtTheEnd_X0 hown hK.1 hW.1 1 rfl rfl 7 (by decide) (va_Nw.use rfl (hK.2 _ nm_0)) (fun _ h9 => h9) rfl dX4_propsHeldAtTheEnd_12 ?_
  refine z_callV (r := (RX1, TX1, 6)) (As := [.ref (axb 0), .int (zI (bd_sz b))]) (rest := []) hS hK hA hW hl.1 [2, 1] [0] (kX1_goThrough l D cI cB axc cn axb b pC (bd_sz b) hR.1 hR.2.2.2.1 hR.2.1 (RB_pn hR) (by omega)) (cwV 2 hts gX4_propsHeldAtTheEnd_X1_goThrough rfl rfl rfl (by decide +kernel) ⟨Nat.le_of_ble_eq_true rfl, Nat.le_of_ble_eq_true rfl⟩) (rfl : vwCl[1]? = some (RX1, TX1, 6)) (q0 := 9) rfl dX4_propsHeldAtTheEnd_15 rfl rfl rfl rfl rfl (Nat.le_of_ble_eq_true rfl) ⟨Nat.le_of_ble_eq_true rfl, Nat.le_of_ble_eq_true rfl⟩ (fun v9 w9 H locs hq hW => ?_)
  obtain ⟨cz_15, rfl, rfl, hh_15⟩ := hq
  have hW : zW D A s.heap [zCont cI axc cz_15, zBoard cI axb b, [(x, .inr (4, [.ref (axb 0), .ref (axn 0), .int (zI xk), .ref xh, .ref (axt 0), .ref (axc 0)]))]] H locs := hW
  have hW : zW D A s.heap [[(x, .inr (4, [.ref (axb 0), .ref (axn 0), .int (zI xk), .ref xh, .ref (axt 0), .ref (axc 0)]))], zBoard cI axb b, zCont cI axc cz_15] H locs := hW.pick [2, 1, 0] rfl rfl
  refine W.eq (g2 := F0 m 18 ls []) rfl ?_
  have hgz : RCh cz_15 (goAll pC) := by have hq9 := hh_15; rw [hRl, Int.toNat_natCast, List.take_length] at hq9; exact hq9
  refine lv_aload_n hx hb dX4_propsHeldAtTheEnd_18 rfl (lv_at hl 0 rfl) ?_
  refine va_get (D := D) (ci := 4) (v := .ref (axc 0)) (C := RX4) (T := TX4) (N := 6) hx hb hts iX4_propsHeldAtTheEnd_X4 hown hK.1 hW.1 0 rfl rfl 5 (by decide) (hts _ mX4_propsHeldAtTheEnd_1) (fun _ h9 => h9) rfl dX4_propsHeldAtTheEnd_19 ?_
  refine z_callV (r := (RX1, TX1, 6)) (As := []) (rest := []) hS hK hA hW hl.1 [2] [0, 1] (kX1_propsHeld l D cI cB axc cz_15 ((fun x x1 x2 => by rw [hgz.1 x x1 x2]; exact hgo.1 x))) (cwV 0 hts gX4_propsHeldAtTheEnd_X1_propsHeld rfl rfl rfl (by decide +kernel) ⟨Nat.le_of_ble_eq_true rfl, Nat.le_of_ble_eq_true rfl⟩) (rfl : vwCl[1]? = some (RX1, TX1, 6)) (q0 := 9) rfl dX4_propsHeldAtTheEnd_22 rfl rfl rfl rfl rfl (Nat.le_of_ble_eq_true rfl) ⟨Nat.le_of_ble_eq_true rfl, Nat.le_of_ble_eq_true rfl⟩ (fun v9 w9 H locs hq hW => ?_)
  obtain ⟨rr_22, rfl, rfl, hh_22⟩ := hq
  subst rr_22
  have hW : zW D A s.heap [zCont cI axc cz_15, [(x, .inr (4, [.ref (axb 0), .ref (axn 0), .int (zI xk), .ref xh, .ref (axt 0), .ref (axc 0)]))], zBoard cI axb b] H locs := hW
  have hW : zW D A s.heap [[(x, .inr (4, [.ref (axb 0), .ref (axn 0), .int (zI xk), .ref xh, .ref (axt 0), .ref (axc 0)]))], zBoard cI axb b, zCont cI axc cz_15] H locs := hW.pick [1, 2, 0] rfl rfl
  refine W.eq (g2 := F0 m 25 ls [.int (zI (zcnt (fun x => decide (ct_hold cz_15 x ≠ -1)) 10))]) rfl ?_
  exact z_iret (v := zcnt (fun x => decide (ct_hold cz_15 x ≠ -1)) 10) hx hb hr hlk hW dX4_propsHeldAtTheEnd_25 (by
      exact ⟨zcnt (fun x => decide (ct_hold cz_15 x ≠ -1)) 10, cz_15, rfl, rfl, by exact ⟨zcnt_congr (fun x x1 x2 => by rw [hgz.1 x x1 x2]), hgz⟩⟩)

abbrev qX4_ticksOfScene (cI : ClassId) (x : Nat) (axb axn : Nat → Nat) (xk : Int) (xh : Nat) (axt axc : Nat → Nat) (b : zBS) (y1 : Int) (pC : List zPn) (pO : List Int) (ev : Int) : Option Value → List va_W → Prop := fun vq wq => ∃ (r : Int), vq = some (.int (zI r)) ∧ wq = [[(x, .inr (4, [.ref (axb 0), .ref (axn 0), .int (zI xk), .ref xh, .ref (axt 0), .ref (axc 0)]))], zBoard cI axb b] ∧ (r = tkC pC (ahC pC pO y1 + inC pC y1) - tkC pC (ahC pC pO y1))
set_option maxRecDepth 20000 in
theorem iX4_ticksOfScene_X4 : ∀ w ∈ u_ws RX4 TX4 6, w ∈ wsX4_ticksOfScene := by decide +kernel
set_option maxRecDepth 20000 in
theorem mX4_ticksOfScene_1 : (.fieldLink RX4 12 "StoryPanels" "board" "LStoryPanels$Board;" : Cond) ∈ wsX4_ticksOfScene := by decide +kernel
set_option maxHeartbeats 4000000 in
set_option maxRecDepth 100000 in
theorem kX4_ticksOfScene (l : Launch) (D : va_G) (cI cB : ClassId) (x : Nat) (axb axn : Nat → Nat) (xk : Int) (xh : Nat) (axt axc : Nat → Nat) (b : zBS) (y1 : Int) (pC : List zPn) (pO : List Int) (ev : Int) (hR : RB b pC pO ev) (hy1 : 0 ≤ y1 ∧ y1 < 5) : zMet l yX4_ticksOfScene wsX4_ticksOfScene 3 65 0 0 D cI cB [.ref x, .int (zI y1)] [[(x, .inr (4, [.ref (axb 0), .ref (axn 0), .int (zI xk), .ref xh, .ref (axt 0), .ref (axc 0)]))], zBoard cI axb b] (qX4_ticksOfScene cI x axb axn xk xh axt axc b y1 pC pO ev) := by
  refine zMet.of (cd := cX4_ticksOfScene) (maxL := 3) (ret := (some .int)) (by decide) rfl (Nat.le_of_ble_eq_true rfl) ?_
  intro p e s m args below meth c A ls hS hr hlk hnm hK hA hW hl
  have hS : CallFix p m c cX4_ticksOfScene 3 s args wsX4_ticksOfScene RX4 := hS
  have hx := hS.1
  have hb := hS.2.1
  have hown := hS.2.2.2.1
  have hts := hS.2.2.2.2
  have hl : lv_has ls 3 [(0, .ref x), (1, .int (zI y1))] := hl
  have hRz := hR.1.1
  have hRl := hR.2.1
  have hai := ahC_inC pC pO y1
  have hah := ahC_le pC pO y1
  refine lv_aload_n hx hb dX4_ticksOfScene_0 rfl (lv_at hl 0 rfl) ?_
  refine va_get (D := D) (ci := 4) (v := .ref (axb 0)) (C := RX4) (T := TX4) (N := 6) hx hb hts iX4_ticksOfScene_X4 hown hK.1 hW.1 0 rfl rfl 0 (by decide) (hts _ mX4_ticksOfScene_1) (fun _ h9 => h9) rfl dX4_ticksOfScene_1 ?_
  refine lv_iload_n hx hb dX4_ticksOfScene_4 rfl (lv_at hl 1 rfl) ?_
  refine z_callV (r := (RX0, TX0, 9)) (As := [.int (zI y1)]) (rest := []) hS hK hA hW hl.1 [1] [0] (kX0_panelsAhead l D cI cB axb b y1 hR.1 (by omega)) (cwV 1 hts gX4_ticksOfScene_X0_panelsAhead rfl rfl rfl (by decide +kernel) ⟨Nat.le_of_ble_eq_true rfl, Nat.le_of_ble_eq_true rfl⟩) (rfl : vwCl[0]? = some (RX0, TX0, 9)) (q0 := 1) rfl dX4_ticksOfScene_5 rfl rfl rfl rfl rfl (Nat.le_of_ble_eq_true rfl) ⟨Nat.le_of_ble_eq_true rfl, Nat.le_of_ble_eq_true rfl⟩ (fun v9 w9 H locs hq hW => ?_)
  obtain ⟨rr_5, rfl, rfl, hh_5⟩ := hq
  subst rr_5
  have hW : zW D A s.heap [zBoard cI axb b, [(x, .inr (4, [.ref (axb 0), .ref (axn 0), .int (zI xk), .ref xh, .ref (axt 0), .ref (axc 0)]))]] H locs := hW
  have hW : zW D A s.heap [[(x, .inr (4, [.ref (axb 0), .ref (axn 0), .int (zI xk), .ref xh, .ref (axt 0), .ref (axc 0)]))], zBoard cI axb b] H locs := hW.pick [1, 0] rfl rfl
  refine W.eq (g2 := F0 m 8 ls [.int (zI (nAhead b y1))]) rfl ?_
  rw [show (nAhead b y1) = (ahC pC pO y1) by exact RB_nAhead hR hy1]
  refine lv_istore_n (lv' := [(2, .int (zI (ahC pC pO y1))), (0, .ref x), (1, .int (zI y1))]) hx hb dX4_ticksOfScene_8 rfl hl (by decide) rfl (fun ls hl => ?_)
  refine lv_aload_n hx hb dX4_ticksOfScene_9 rfl (lv_at hl 1 rfl) ?_
  refine va_get (D := D) (ci := 4) (v := .ref (axb 0)) (C := RX4) (T := TX4) (N := 6) hx hb hts iX4_ticksOfScene_X4 hown hK.1 hW.1 0 rfl rfl 0 (by decide) (hts _ mX4_ticksOfScene_1) (fun _ h9 => h9) rfl dX4_ticksOfScene_10 ?_
  refine lv_iload_n hx hb dX4_ticksOfScene_13 rfl (lv_at hl 0 rfl) ?_
  refine lv_aload_n hx hb dX4_ticksOfScene_14 rfl (lv_at hl 1 rfl) ?_
  refine va_get (D := D) (ci := 4) (v := .ref (axb 0)) (C := RX4) (T := TX4) (N := 6) hx hb hts iX4_ticksOfScene_X4 hown hK.1 hW.1 0 rfl rfl 0 (by decide) (hts _ mX4_ticksOfScene_1) (fun _ h9 => h9) rfl dX4_ticksOfScene_15 ?_
  refine lv_iload_n hx hb dX4_ticksOfScene_18 rfl (lv_at hl 2 rfl) ?_
  refine z_callV (r := (RX0, TX0, 9)) (As := [.int (zI y1)]) (rest := [.int (zI (ahC pC pO y1)), .ref (axb 0)]) hS hK hA hW hl.1 [1] [0] (kX0_panelsIn l D cI cB axb b y1 hR.1 (by omega)) (cwV 1 hts gX4_ticksOfScene_X0_panelsIn rfl rfl rfl (by decide +kernel) ⟨Nat.le_of_ble_eq_true rfl, Nat.le_of_ble_eq_true rfl⟩) (rfl : vwCl[0]? = some (RX0, TX0, 9)) (q0 := 1) rfl dX4_ticksOfScene_19 rfl rfl rfl rfl rfl (Nat.le_of_ble_eq_true rfl) ⟨Nat.le_of_ble_eq_true rfl, Nat.le_of_ble_eq_true rfl⟩ (fun v9 w9 H locs hq hW => ?_)
  obtain ⟨rr_19, rfl, rfl, hh_19⟩ := hq
  subst rr_19
  have hW : zW D A s.heap [zBoard cI axb b, [(x, .inr (4, [.ref (axb 0), .ref (axn 0), .int (zI xk), .ref xh, .ref (axt 0), .ref (axc 0)]))]] H locs := hW
  have hW : zW D A s.heap [[(x, .inr (4, [.ref (axb 0), .ref (axn 0), .int (zI xk), .ref xh, .ref (axt 0), .ref (axc 0)]))], zBoard cI axb b] H locs := hW.pick [1, 0] rfl rfl
  refine W.eq (g2 := F0 m 22 ls [.int (zI (nIn b y1)), .int (zI (ahC pC pO y1)), .ref (axb 0)]) rfl ?_
  rw [show (nIn b y1) = (inC pC y1) by exact RB_nIn hR y1]
  refine z_iadd hx hb dX4_ticksOfScene_22 ?_
  refine z_callV (r := (RX0, TX0, 9)) (As := [.int (zI ((ahC pC pO y1) + (inC pC y1)))]) (rest := []) hS hK hA hW hl.1 [1] [0] (kX0_ticksAhead l D cI cB axb b ((ahC pC pO y1) + (inC pC y1)) hR.1 (by omega)) (cwV 1 hts gX4_ticksOfScene_X0_ticksAhead rfl rfl rfl (by decide +kernel) ⟨Nat.le_of_ble_eq_true rfl, Nat.le_of_ble_eq_true rfl⟩) (rfl : vwCl[0]? = some (RX0, TX0, 9)) (q0 := 1) rfl dX4_ticksOfScene_23 rfl rfl rfl rfl rfl (Nat.le_of_ble_eq_true rfl) ⟨Nat.le_of_ble_eq_true rfl, Nat.le_of_ble_eq_true rfl⟩ (fun v9 w9 H locs hq hW => ?_)
  obtain ⟨rr_23, rfl, rfl, hh_23⟩ := hq
  subst rr_23
  have hW : zW D A s.heap [zBoard cI axb b, [(x, .inr (4, [.ref (axb 0), .ref (axn 0), .int (zI xk), .ref xh, .ref (axt 0), .ref (axc 0)]))]] H locs := hW
  have hW : zW D A s.heap [[(x, .inr (4, [.ref (axb 0), .ref (axn 0), .int (zI xk), .ref xh, .ref (axt 0), .ref (axc 0)]))], zBoard cI axb b] H locs := hW.pick [1, 0] rfl rfl
  refine W.eq (g2 := F0 m 26 ls [.int (zI (ticksB b (if ((ahC pC pO y1) + (inC pC y1)) < bd_sz b then ((ahC pC pO y1) + (inC pC y1)) else bd_sz b)))]) rfl ?_
  rw [show (ticksB b (if ((ahC pC pO y1) + (inC pC y1)) < bd_sz b then ((ahC pC pO y1) + (inC pC y1)) else bd_sz b)) = (tkC pC (ahC pC pO y1 + inC pC y1)) by rw [← RB_ticks hR (by omega)]; congr 1; split <;> omega]
  refine lv_aload_n hx hb dX4_ticksOfScene_26 rfl (lv_at hl 1 rfl) ?_
  refine va_get (D := D) (ci := 4) (v := .ref (axb 0)) (C := RX4) (T := TX4) (N := 6) hx hb hts iX4_ticksOfScene_X4 hown hK.1 hW.1 0 rfl rfl 0 (by decide) (hts _ mX4_ticksOfScene_1) (fun _ h9 => h9) rfl dX4_ticksOfScene_27 ?_
  refine lv_iload_n hx hb dX4_ticksOfScene_30 rfl (lv_at hl 0 rfl) ?_
  refine z_callV (r := (RX0, TX0, 9)) (As := [.int (zI (ahC pC pO y1))]) (rest := [.int (zI (tkC pC (ahC pC pO y1 + inC pC y1)))]) hS hK hA hW hl.1 [1] [0] (kX0_ticksAhead l D cI cB axb b (ahC pC pO y1) hR.1 (by omega)) (cwV 1 hts gX4_ticksOfScene_X0_ticksAhead rfl rfl rfl (by decide +kernel) ⟨Nat.le_of_ble_eq_true rfl, Nat.le_of_ble_eq_true rfl⟩) (rfl : vwCl[0]? = some (RX0, TX0, 9)) (q0 := 1) rfl dX4_ticksOfScene_31 rfl rfl rfl rfl rfl (Nat.le_of_ble_eq_true rfl) ⟨Nat.le_of_ble_eq_true rfl, Nat.le_of_ble_eq_true rfl⟩ (fun v9 w9 H locs hq hW => ?_)
  obtain ⟨rr_31, rfl, rfl, hh_31⟩ := hq
  subst rr_31
  have hW : zW D A s.heap [zBoard cI axb b, [(x, .inr (4, [.ref (axb 0), .ref (axn 0), .int (zI xk), .ref xh, .ref (axt 0), .ref (axc 0)]))]] H locs := hW
  have hW : zW D A s.heap [[(x, .inr (4, [.ref (axb 0), .ref (axn 0), .int (zI xk), .ref xh, .ref (axt 0), .ref (axc 0)]))], zBoard cI axb b] H locs := hW.pick [1, 0] rfl rfl
  refine W.eq (g2 := F0 m 34 ls [.int (zI (ticksB b (if (ahC pC pO y1) < bd_sz b then (ahC pC pO y1) else bd_sz b))), .int (zI (tkC pC (ahC pC pO y1 + inC pC y1)))]) rfl ?_
  rw [show (ticksB b (if (ahC pC pO y1) < bd_sz b then (ahC pC pO y1) else bd_sz b)) = (tkC pC (ahC pC pO y1)) by rw [← RB_ticks hR (by omega)]; congr 1; split <;> omega]
  refine z_isub hx hb dX4_ticksOfScene_34 ?_
  exact z_iret (v := (tkC pC (ahC pC pO y1 + inC pC y1)) - (tkC pC (ahC pC pO y1))) hx hb hr hlk hW dX4_ticksOfScene_35 (by
      exact ⟨(tkC pC (ahC pC pO y1 + inC pC y1)) - (tkC pC (ahC pC pO y1)), rfl, rfl, by rfl⟩)
