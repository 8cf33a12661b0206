abbrev qX4_breaksNow (cI : ClassId) (x : Nat) (axb axn : Nat → Nat) (xk : Int) (xh : Nat) (axt axc : Nat → Nat) (b : zBS) (cn : zCS) (pC : List zPn) (pO : List Int) (ev : Int) : Option Value → List va_W → Prop := fun vq wq => ∃ (r : Int) (cz : zCS), vq = some (.int (zI r)) ∧ wq = [[(x, .inr (4, [.ref (axb 0), .ref (axn 0), .int (zI xk), .ref xh, .ref (axt 0), .ref (axc 0)]))], zBoard cI axb b, zCont cI axc cz] ∧ (r = nbC pC ∧ RCh cz (goAll pC))
set_option maxRecDepth 20000 in
theorem iX4_breaksNow_X4 : ∀ w ∈ u_ws RX4 TX4 6, w ∈ wsX4_breaksNow := by decide +kernel
set_option maxRecDepth 20000 in
theorem mX4_breaksNow_1 : (.fieldLink RX4 40 "StoryPanels" "continuity" "LStoryPanels$Continuity;" : Cond) ∈ wsX4_breaksNow := by decide +kernel
set_option maxRecDepth 20000 in
theorem mX4_breaksNow_2 : (.fieldLink RX4 12 "StoryPanels" "board" "LStoryPanels$Board;" : Cond) ∈ wsX4_breaksNow := by decide +kernel
set_option maxRecDepth 20000 in
theorem iX4_breaksNow_X0 : ∀ w ∈ u_ws RX0 TX0 9, w ∈ wsX4_breaksNow := by decide +kernel
set_option maxRecDepth 20000 in
theorem iX4_breaksNow_X1 : ∀ w ∈ u_ws RX1 TX1 6, w ∈ wsX4_breaksNow := by decide +kernel
set_option maxHeartbeats 4000000 in
set_option maxRecDepth 100000 in
theorem kX4_breaksNow (l : Launch) (D : va_G) (cI cB : ClassId) (x : Nat) (axb axn : Nat → Nat) (xk : Int) (xh : Nat) (axt axc : Nat → Nat) (b : zBS) (cn : zCS) (pC : List zPn) (pO : List Int) (ev : Int) (hR : RB b pC pO ev) : zMet l yX4_breaksNow wsX4_breaksNow 4 105 0 0 D cI cB [.ref x] [[(x, .inr (4, [.ref (axb 0), .ref (axn 0), .int (zI xk), .ref xh, .ref (axt 0), .ref (axc 0)]))], zBoard cI axb b, zCont cI axc cn] (qX4_breaksNow cI x axb axn xk xh axt axc b cn pC pO ev) := by
  refine zMet.of (cd := cX4_breaksNow) (maxL := 1) (ret := (some .int)) (by decide) rfl (Nat.le_of_ble_eq_true rfl) ?_
  intro p e s m args below meth c A ls hS hr hlk hnm hK hA hW hl
  have hS : CallFix p m c cX4_breaksNow 1 s args wsX4_breaksNow RX4 := hS
  have hx := hS.1
  have hb := hS.2.1
  have hown := hS.2.2.2.1
  have hts := hS.2.2.2.2
  have hl : lv_has ls 1 [(0, .ref x)] := hl
  have hRz := hR.1.1
  have hRl := hR.2.1
  refine lv_aload_n hx hb dX4_breaksNow_0 rfl (lv_at hl 0 rfl) ?_
  refine va_get (D := D) (ci := 4) (v := .ref (axc 0)) (C := RX4) (T := TX4) (N := 6) hx hb hts iX4_breaksNow_X4 hown hK.1 hW.1 0 rfl rfl 5 (by decide) (hts _ mX4_breaksNow_1) (fun _ h9 => h9) rfl dX4_breaksNow_1 ?_
  refine lv_aload_n hx hb dX4_breaksNow_4 rfl (lv_at hl 0 rfl) ?_
  refine va_get (D := D) (ci := 4) (v := .ref (axb 0)) (C := RX4) (T := TX4) (N := 6) hx hb hts iX4_breaksNow_X4 hown hK.1 hW.1 0 rfl rfl 0 (by decide) (hts _ mX4_breaksNow_2) (fun _ h9 => h9) rfl dX4_breaksNow_5 ?_
  refine lv_aload_n hx hb dX4_breaksNow_8 rfl (lv_at hl 0 rfl) ?_
  refine va_get (D := D) (ci := 4) (v := .ref (axb 0)) (C := RX4) (T := TX4) (N := 6) hx hb hts iX4_breaksNow_X4 hown hK.1 hW.1 0 rfl rfl 0 (by decide) (hts _ mX4_breaksNow_2) (fun _ h9 => h9) rfl dX4_breaksNow_9 ?_
  refine va_getN (D := D) (ci := 0) (v := .int (zI (bd_sz b))) (C := RX0) (T := TX0) (N := 9) hx hb hts iX4_breaksNow_X0 hown hK.1 hW.1 1 rfl rfl 7 (by decide) (va_Nw.use rfl (hK.2 _ nm_0)) (fun _ h9 => h9) rfl dX4_breaksNow_12 ?_
  refine z_callV (r := (RX1, TX1, 6)) (As := [.ref (axb 0), .int (zI (bd_sz b))]) (rest := []) hS hK hA hW hl.1 [2, 1] [0] (kX1_goThrough l D cI cB axc cn axb b pC (bd_sz b) hR.1 hR.2.2.2.1 hR.2.1 (RB_pn hR) (by omega)) (cwV 2 hts gX4_breaksNow_X1_goThrough rfl rfl rfl (by decide +kernel) ⟨Nat.le_of_ble_eq_true rfl, Nat.le_of_ble_eq_true rfl⟩) (rfl : vwCl[1]? = some (RX1, TX1, 6)) (q0 := 9) rfl dX4_breaksNow_15 rfl rfl rfl rfl rfl (Nat.le_of_ble_eq_true rfl) ⟨Nat.le_of_ble_eq_true rfl, Nat.le_of_ble_eq_true rfl⟩ (fun v9 w9 H locs hq hW => ?_)
  obtain ⟨cz_15, rfl, rfl, hh_15⟩ := hq
  have hW : zW D A s.heap [zCont cI axc cz_15, zBoard cI axb b, [(x, .inr (4, [.ref (axb 0), .ref (axn 0), .int (zI xk), .ref xh, .ref (axt 0), .ref (axc 0)]))]] H locs := hW
  have hW : zW D A s.heap [[(x, .inr (4, [.ref (axb 0), .ref (axn 0), .int (zI xk), .ref xh, .ref (axt 0), .ref (axc 0)]))], zBoard cI axb b, zCont cI axc cz_15] H locs := hW.pick [2, 1, 0] rfl rfl
  refine W.eq (g2 := F0 m 18 ls []) rfl ?_
  have hgz : RCh cz_15 (goAll pC) := by have hq9 := hh_15; rw [hRl, Int.toNat_natCast, List.take_length] at hq9; exact hq9
  refine lv_aload_n hx hb dX4_breaksNow_18 rfl (lv_at hl 0 rfl) ?_
  refine va_get (D := D) (ci := 4) (v := .ref (axc 0)) (C := RX4) (T := TX4) (N := 6) hx hb hts iX4_breaksNow_X4 hown hK.1 hW.1 0 rfl rfl 5 (by decide) (hts _ mX4_breaksNow_1) (fun _ h9 => h9) rfl dX4_breaksNow_19 ?_
  refine va_getN (D := D) (ci := 1) (v := .int (zI (ct_nb cz_15))) (C := RX1) (T := TX1) (N := 6) hx hb hts iX4_breaksNow_X1 hown hK.1 hW.1 9 rfl rfl 5 (by decide) (va_Nw.use rfl (hK.2 _ nm_8)) (fun _ h9 => h9) rfl dX4_breaksNow_22 ?_
  exact z_iret (v := ct_nb cz_15) hx hb hr hlk hW dX4_breaksNow_25 (by
      exact ⟨ct_nb cz_15, cz_15, rfl, rfl, by exact ⟨hgz.2.1, hgz⟩⟩)

abbrev qX4_breaksWith (cI : ClassId) (x : Nat) (axb axn : Nat → Nat) (xk : Int) (xh : Nat) (axt axc : Nat → Nat) (b : zBS) (cn : zCS) (y1 y2 y3 : Int) (pC : List zPn) (pO : List Int) (ev : Int) (j : Nat) (pq : zPn) : Option Value → List va_W → Prop := fun vq wq => ∃ (r : Int) (bz : zBS) (cz : zCS), vq = some (.int (zI r)) ∧ wq = [[(x, .inr (4, [.ref (axb 0), .ref (axn 0), .int (zI xk), .ref xh, .ref (axt 0), .ref (axc 0)]))], zBoard cI axb bz, zCont cI axc cz] ∧ (r = nbC (mvC pC pO j pq y2 y3) ∧ RB bz pC pO ev ∧ bd_num bz = bd_num b)
set_option maxRecDepth 20000 in
theorem iX4_breaksWith_X4 : ∀ w ∈ u_ws RX4 TX4 6, w ∈ wsX4_breaksWith := by decide +kernel
set_option maxRecDepth 20000 in
theorem mX4_breaksWith_1 : (.fieldLink RX4 12 "StoryPanels" "board" "LStoryPanels$Board;" : Cond) ∈ wsX4_breaksWith := by decide +kernel
set_option maxRecDepth 20000 in
theorem mX4_breaksWith_2 : (.fieldLink RX4 40 "StoryPanels" "continuity" "LStoryPanels$Continuity;" : Cond) ∈ wsX4_breaksWith := by decide +kernel
set_option maxRecDepth 20000 in
theorem iX4_breaksWith_X0 : ∀ w ∈ u_ws RX0 TX0 9, w ∈ wsX4_breaksWith := by decide +kernel
set_option maxRecDepth 20000 in
theorem iX4_breaksWith_X1 : ∀ w ∈ u_ws RX1 TX1 6, w ∈ wsX4_breaksWith := by decide +kernel
set_option maxHeartbeats 4000000 in
set_option maxRecDepth 100000 in
theorem kX4_breaksWith (l : Launch) (D : va_G) (cI cB : ClassId) (x : Nat) (axb axn : Nat → Nat) (xk : Int) (xh : Nat) (axt axc : Nat → Nat) (b : zBS) (cn : zCS) (y1 y2 y3 : Int) (pC : List zPn) (pO : List Int) (ev : Int) (j : Nat) (pq : zPn) (hR : RB b pC pO ev) (hpq : pC[j]? = some pq) (hsl : y1 = bd_lin b (j : Int)) (hy2 : 0 ≤ y2 ∧ y2 < 5) (hy3 : 0 ≤ y3 ∧ y3 ≤ inC (pC.eraseIdx j) y2) : zMet l yX4_breaksWith wsX4_breaksWith 4 105 0 0 D cI cB [.ref x, .int (zI y1), .int (zI y2), .int (zI y3)] [[(x, .inr (4, [.ref (axb 0), .ref (axn 0), .int (zI xk), .ref xh, .ref (axt 0), .ref (axc 0)]))], zBoard cI axb b, zCont cI axc cn] (qX4_breaksWith cI x axb axn xk xh axt axc b cn y1 y2 y3 pC pO ev j pq) := by
  refine zMet.of (cd := cX4_breaksWith) (maxL := 6) (ret := (some .int)) (by decide) rfl (Nat.le_of_ble_eq_true rfl) ?_
  intro p e s m args below meth c A ls hS hr hlk hnm hK hA hW hl
  have hS : CallFix p m c cX4_breaksWith 6 s args wsX4_breaksWith RX4 := hS
  have hx := hS.1
  have hb := hS.2.1
  have hown := hS.2.2.2.1
  have hts := hS.2.2.2.2
  have hl : lv_has ls 6 [(0, .ref x), (1, .int (zI y1)), (2, .int (zI y2)), (3, .int (zI y3))] := hl
  have hRz := hR.1.1
  have hRl := hR.2.1
  have hsl2 := RB_lin hR hpq
  have hat := RB_at hR hpq
  rw [← hsl] at hsl2 hat
  have hjl := (List.getElem?_eq_some_iff.mp hpq).1
  have hs0 := hR.2.2.2.1 j pq hpq
  rw [← hsl] at hs0
  have hO := RB_takeOut hR hpq
  rw [← hsl] at hO
  have hpk := (RB_pn hR pq (List.mem_of_getElem? hpq)).2.1
  have hel : (pC.eraseIdx j).length = pC.length - 1 := List.length_eraseIdx_of_lt hjl
  have hai := ahC_inC (pC.eraseIdx j) pO y2
  have hah := ahC_le (pC.eraseIdx j) pO y2
  have hna := RBo_nAhead hO hy2
  have hR2 := RBo_putIn hO (s := y2) (k := ahC (pC.eraseIdx j) pO y2 + y3) hy2 (by omega) (by omega)
  have hKk : 0 ≤ ahC (pC.eraseIdx j) pO y2 + y3 ∧ ahC (pC.eraseIdx j) pO y2 + y3 ≤ ((pC.eraseIdx j).length : Int) := by omega
  have hq2 := insC_at (pC.eraseIdx j) (reS pq y2) hKk
  have hO2 := RB_takeOut hR2 hq2
  have hat2 := RB_at hR2 hq2
  rw [show (((ahC (pC.eraseIdx j) pO y2 + y3).toNat : Nat) : Int) = ahC (pC.eraseIdx j) pO y2 + y3 by omega] at hO2 hat2
  have hx2 : bd_lin (putInB (takeOutB b (j : Int)) y1 y2 (ahC (pC.eraseIdx j) pO y2 + y3)) (ahC (pC.eraseIdx j) pO y2 + y3) = y1 := by show insF _ _ _ _ _ = _; unfold insF; rw [if_pos rfl]
  rw [hx2] at hO2 hat2
  rw [erase_ins _ _ hKk] at hO2
  have hae := ahC_erase pO hpq
  have hah3 := ahC_le pC pO pq.2.1
  have hna2 := RBo_nAhead hO2 hpk
  have hR3 := RBo_putIn hO2 (s := pq.2.1) (k := (j : Int)) hpk (by omega) (by omega)
  rw [show reS (reS pq y2) pq.2.1 = pq from rfl, ins_erase hpq] at hR3
  refine lv_aload_n hx hb dX4_breaksWith_0 rfl (lv_at hl 0 rfl) ?_
  refine va_get (D := D) (ci := 4) (v := .ref (axb 0)) (C := RX4) (T := TX4) (N := 6) hx hb hts iX4_breaksWith_X4 hown hK.1 hW.1 0 rfl rfl 0 (by decide) (hts _ mX4_breaksWith_1) (fun _ h9 => h9) rfl dX4_breaksWith_1 ?_
  refine lv_iload_n hx hb dX4_breaksWith_4 rfl (lv_at hl 1 rfl) ?_
  refine z_callV (r := (RX0, TX0, 9)) (As := [.int (zI y1)]) (rest := []) hS hK hA hW hl.1 [1] [0, 2] (kX0_sceneOf l D cI cB axb b y1 hR.1 (by omega)) (cwV 1 hts gX4_breaksWith_X0_sceneOf rfl rfl rfl (by decide +kernel) ⟨Nat.le_of_ble_eq_true rfl, Nat.le_of_ble_eq_true rfl⟩) (rfl : vwCl[0]? = some (RX0, TX0, 9)) (q0 := 1) rfl dX4_breaksWith_5 rfl rfl rfl rfl rfl (Nat.le_of_ble_eq_true rfl) ⟨Nat.le_of_ble_eq_true rfl, Nat.le_of_ble_eq_true rfl⟩ (fun v9 w9 H locs hq hW => ?_)
  obtain ⟨rr_5, rfl, rfl, hh_5⟩ := hq
  subst rr_5
  have hW : zW D A s.heap [zBoard cI axb b, [(x, .inr (4, [.ref (axb 0), .ref (axn 0), .int (zI xk), .ref xh, .ref (axt 0), .ref (axc 0)]))], zCont cI axc cn] H locs := hW
  have hW : zW D A s.heap [[(x, .inr (4, [.ref (axb 0), .ref (axn 0), .int (zI xk), .ref xh, .ref (axt 0), .ref (axc 0)]))], zBoard cI axb b, zCont cI axc cn] H locs := hW.pick [1, 0, 2] rfl rfl
  refine W.eq (g2 := F0 m 8 ls [.int (zI (bd_scn b y1))]) rfl ?_
  rw [show (bd_scn b y1) = pq.2.1 by exact hs0.2.1]
  refine lv_istore (lv' := [(4, .int (zI pq.2.1)), (0, .ref x), (1, .int (zI y1)), (2, .int (zI y2)), (3, .int (zI y3))]) hx hb dX4_breaksWith_8 hl (by decide) rfl (fun ls hl => ?_)
  refine lv_aload_n hx hb dX4_breaksWith_10 rfl (lv_at hl 1 rfl) ?_
  refine va_get (D := D) (ci := 4) (v := .ref (axb 0)) (C := RX4) (T := TX4) (N := 6) hx hb hts iX4_breaksWith_X4 hown hK.1 hW.1 0 rfl rfl 0 (by decide) (hts _ mX4_breaksWith_1) (fun _ h9 => h9) rfl dX4_breaksWith_11 ?_
  refine lv_iload_n hx hb dX4_breaksWith_14 rfl (lv_at hl 2 rfl) ?_
  refine z_callV (r := (RX0, TX0, 9)) (As := [.int (zI y1)]) (rest := []) hS hK hA hW hl.1 [1] [0, 2] (kX0_placeOf l D cI cB axb b y1 ((j : Int)) hR.1 (by omega) hat) (cwV 1 hts gX4_breaksWith_X0_placeOf rfl rfl rfl (by decide +kernel) ⟨Nat.le_of_ble_eq_true rfl, Nat.le_of_ble_eq_true rfl⟩) (rfl : vwCl[0]? = some (RX0, TX0, 9)) (q0 := 1) rfl dX4_breaksWith_15 rfl rfl rfl rfl rfl (Nat.le_of_ble_eq_true rfl) ⟨Nat.le_of_ble_eq_true rfl, Nat.le_of_ble_eq_true rfl⟩ (fun v9 w9 H locs hq hW => ?_)
  obtain ⟨rr_15, rfl, rfl, hh_15⟩ := hq
  subst rr_15
  have hW : zW D A s.heap [zBoard cI axb b, [(x, .inr (4, [.ref (axb 0), .ref (axn 0), .int (zI xk), .ref xh, .ref (axt 0), .ref (axc 0)]))], zCont cI axc cn] H locs := hW
  have hW : zW D A s.heap [[(x, .inr (4, [.ref (axb 0), .ref (axn 0), .int (zI xk), .ref xh, .ref (axt 0), .ref (axc 0)]))], zBoard cI axb b, zCont cI axc cn] H locs := hW.pick [1, 0, 2] rfl rfl
  refine W.eq (g2 := F0 m 18 ls [.int (zI (((j : Int)) - nAhead b (bd_scn b y1)))]) rfl ?_
  rw [show (((j : Int)) - nAhead b (bd_scn b y1)) = ((j : Int) - ahC pC pO pq.2.1) by rw [hs0.2.1, RB_nAhead hR hpk]]
  refine lv_istore (lv' := [(5, .int (zI ((j : Int) - ahC pC pO pq.2.1))), (4, .int (zI pq.2.1)), (0, .ref x), (1, .int (zI y1)), (2, .int (zI y2)), (3, .int (zI y3))]) hx hb dX4_breaksWith_18 hl (by decide) rfl (fun ls hl => ?_)
  refine lv_aload_n hx hb dX4_breaksWith_20 rfl (lv_at hl 2 rfl) ?_
  refine va_get (D := D) (ci := 4) (v := .ref (axb 0)) (C := RX4) (T := TX4) (N := 6) hx hb hts iX4_breaksWith_X4 hown hK.1 hW.1 0 rfl rfl 0 (by decide) (hts _ mX4_breaksWith_1) (fun _ h9 => h9) rfl dX4_breaksWith_21 ?_
  refine lv_iload_n hx hb dX4_breaksWith_24 rfl (lv_at hl 3 rfl) ?_
  refine z_callV (r := (RX0, TX0, 9)) (As := [.int (zI y1)]) (rest := []) hS hK hA hW hl.1 [1] [0, 2] (kX0_takeOut l D cI cB axb b y1 ((j : Int)) hR.1 (by omega) hat) (cwV 1 hts gX4_breaksWith_X0_takeOut rfl rfl rfl (by decide +kernel) ⟨Nat.le_of_ble_eq_true rfl, Nat.le_of_ble_eq_true rfl⟩) (rfl : vwCl[0]? = some (RX0, TX0, 9)) (q0 := 1) rfl dX4_breaksWith_25 rfl rfl rfl rfl rfl (Nat.le_of_ble_eq_true rfl) ⟨Nat.le_of_ble_eq_true rfl, Nat.le_of_ble_eq_true rfl⟩ (fun v9 w9 H locs hq hW => ?_)
  obtain ⟨rfl, rfl, hh_25⟩ := hq
  have hW : zW D A s.heap [zBoard cI axb (takeOutB b ((j : Int))), [(x, .inr (4, [.ref (axb 0), .ref (axn 0), .int (zI xk), .ref xh, .ref (axt 0), .ref (axc 0)]))], zCont cI axc cn] H locs := hW
  have hW : zW D A s.heap [[(x, .inr (4, [.ref (axb 0), .ref (axn 0), .int (zI xk), .ref xh, .ref (axt 0), .ref (axc 0)]))], zBoard cI axb (takeOutB b ((j : Int))), zCont cI axc cn] H locs := hW.pick [1, 0, 2] rfl rfl
  refine W.eq (g2 := F0 m 28 ls []) rfl ?_
  refine lv_aload_n hx hb dX4_breaksWith_28 rfl (lv_at hl 2 rfl) ?_
  refine va_get (D := D) (ci := 4) (v := .ref (axb 0)) (C := RX4) (T := TX4) (N := 6) hx hb hts iX4_breaksWith_X4 hown hK.1 hW.1 0 rfl rfl 0 (by decide) (hts _ mX4_breaksWith_1) (fun _ h9 => h9) rfl dX4_breaksWith_29 ?_
  refine lv_iload_n hx hb dX4_breaksWith_32 rfl (lv_at hl 3 rfl) ?_
  refine lv_iload_n hx hb dX4_breaksWith_33 rfl (lv_at hl 4 rfl) ?_
  refine lv_iload_n hx hb dX4_breaksWith_34 rfl (lv_at hl 5 rfl) ?_
  refine z_callV (r := (RX0, TX0, 9)) (As := [.int (zI y1), .int (zI y2), .int (zI y3)]) (rest := []) hS hK hA hW hl.1 [1] [0, 2] (kX0_putIn l D cI cB axb ((takeOutB b ((j : Int)))) y1 y2 y3 hO.1 (by omega) (by omega) (by (have := hO.2.1; omega)) (by rw [hna]; have := hO.2.1; omega)) (cwV 3 hts gX4_breaksWith_X0_putIn rfl rfl rfl (by decide +kernel) ⟨Nat.le_of_ble_eq_true rfl, Nat.le_of_ble_eq_true rfl⟩) (rfl : vwCl[0]? = some (RX0, TX0, 9)) (q0 := 1) rfl dX4_breaksWith_35 rfl rfl rfl rfl rfl (Nat.le_of_ble_eq_true rfl) ⟨Nat.le_of_ble_eq_true rfl, Nat.le_of_ble_eq_true rfl⟩ (fun v9 w9 H locs hq hW => ?_)
  obtain ⟨rfl, rfl, hh_35⟩ := hq
  have hW : zW D A s.heap [zBoard cI axb (putInB ((takeOutB b ((j : Int)))) y1 y2 (nAhead (bd_scn_ ((takeOutB b ((j : Int)))) (zU (bd_scn ((takeOutB b ((j : Int))))) y1 y2)) y2 + y3)), [(x, .inr (4, [.ref (axb 0), .ref (axn 0), .int (zI xk), .ref xh, .ref (axt 0), .ref (axc 0)]))], zCont cI axc cn] H locs := hW
  have hW : zW D A s.heap [[(x, .inr (4, [.ref (axb 0), .ref (axn 0), .int (zI xk), .ref xh, .ref (axt 0), .ref (axc 0)]))], zBoard cI axb (putInB ((takeOutB b ((j : Int)))) y1 y2 (nAhead (bd_scn_ ((takeOutB b ((j : Int)))) (zU (bd_scn ((takeOutB b ((j : Int))))) y1 y2)) y2 + y3)), zCont cI axc cn] H locs := hW.pick [1, 0, 2] rfl rfl
  refine W.eq (g2 := F0 m 38 ls []) rfl ?_
  rw [hna] at hW
  have hW : zW D A s.heap [[(x, .inr (4, [.ref (axb 0), .ref (axn 0), .int (zI xk), .ref xh, .ref (axt 0), .ref (axc 0)]))], zBoard cI axb (putInB (takeOutB b (j : Int)) y1 y2 (ahC (pC.eraseIdx j) pO y2 + y3)), zCont cI axc cn] H locs := hW
  refine lv_aload_n hx hb dX4_breaksWith_38 rfl (lv_at hl 2 rfl) ?_
  refine va_get (D := D) (ci := 4) (v := .ref (axc 0)) (C := RX4) (T := TX4) (N := 6) hx hb hts iX4_breaksWith_X4 hown hK.1 hW.1 0 rfl rfl 5 (by decide) (hts _ mX4_breaksWith_2) (fun _ h9 => h9) rfl dX4_breaksWith_39 ?_
  refine lv_aload_n hx hb dX4_breaksWith_42 rfl (lv_at hl 2 rfl) ?_
  refine va_get (D := D) (ci := 4) (v := .ref (axb 0)) (C := RX4) (T := TX4) (N := 6) hx hb hts iX4_breaksWith_X4 hown hK.1 hW.1 0 rfl rfl 0 (by decide) (hts _ mX4_breaksWith_1) (fun _ h9 => h9) rfl dX4_breaksWith_43 ?_
  refine lv_aload_n hx hb dX4_breaksWith_46 rfl (lv_at hl 2 rfl) ?_
  refine va_get (D := D) (ci := 4) (v := .ref (axb 0)) (C := RX4) (T := TX4) (N := 6) hx hb hts iX4_breaksWith_X4 hown hK.1 hW.1 0 rfl rfl 0 (by decide) (hts _ mX4_breaksWith_1) (fun _ h9 => h9) rfl dX4_breaksWith_47 ?_
  refine va_getN (D := D) (ci := 0) (v := .int (zI (bd_sz (putInB (takeOutB b (j : Int)) y1 y2 (ahC (pC.eraseIdx j) pO y2 + y3))))) (C := RX0) (T := TX0) (N := 9) hx hb hts iX4_breaksWith_X0 hown hK.1 hW.1 1 rfl rfl 7 (by decide) (va_Nw.use rfl (hK.2 _ nm_0)) (fun _ h9 => h9) rfl dX4_breaksWith_50 ?_
  refine z_callV (r := (RX1, TX1, 6)) (As := [.ref (axb 0), .int (zI (bd_sz (putInB (takeOutB b (j : Int)) y1 y2 (ahC (pC.eraseIdx j) pO y2 + y3))))]) (rest := []) hS hK hA hW hl.1 [2, 1] [0] (kX1_goThrough l D cI cB axc cn axb ((putInB (takeOutB b (j : Int)) y1 y2 (ahC (pC.eraseIdx j) pO y2 + y3))) ((insC (pC.eraseIdx j) (ahC (pC.eraseIdx j) pO y2 + y3) (reS pq y2))) (bd_sz (putInB (takeOutB b (j : Int)) y1 y2 (ahC (pC.eraseIdx j) pO y2 + y3))) hR2.1 hR2.2.2.2.1 hR2.2.1 (RB_pn hR2) (by (have := hR2.2.1; have := hR2.1.1; omega))) (cwV 2 hts gX4_breaksWith_X1_goThrough rfl rfl rfl (by decide +kernel) ⟨Nat.le_of_ble_eq_true rfl, Nat.le_of_ble_eq_true rfl⟩) (rfl : vwCl[1]? = some (RX1, TX1, 6)) (q0 := 9) rfl dX4_breaksWith_53 rfl rfl rfl rfl rfl (Nat.le_of_ble_eq_true rfl) ⟨Nat.le_of_ble_eq_true rfl, Nat.le_of_ble_eq_true rfl⟩ (fun v9 w9 H locs hq hW => ?_)
  obtain ⟨cz_53, rfl, rfl, hh_53⟩ := hq
  have hW : zW D A s.heap [zCont cI axc cz_53, zBoard cI axb (putInB (takeOutB b (j : Int)) y1 y2 (ahC (pC.eraseIdx j) pO y2 + y3)), [(x, .inr (4, [.ref (axb 0), .ref (axn 0), .int (zI xk), .ref xh, .ref (axt 0), .ref (axc 0)]))]] H locs := hW
  have hW : zW D A s.heap [[(x, .inr (4, [.ref (axb 0), .ref (axn 0), .int (zI xk), .ref xh, .ref (axt 0), .ref (axc 0)]))], zBoard cI axb (putInB (takeOutB b (j : Int)) y1 y2 (ahC (pC.eraseIdx j) pO y2 + y3)), zCont cI axc cz_53] H locs := hW.pick [2, 1, 0] rfl rfl
  refine W.eq (g2 := F0 m 56 ls []) rfl ?_
  have hgz : RCh cz_53 (goAll (insC (pC.eraseIdx j) (ahC (pC.eraseIdx j) pO y2 + y3) (reS pq y2))) := by have hq9 := hh_53; rw [hR2.2.1, Int.toNat_natCast, List.take_length] at hq9; exact hq9
  refine lv_aload_n hx hb dX4_breaksWith_56 rfl (lv_at hl 2 rfl) ?_
  refine va_get (D := D) (ci := 4) (v := .ref (axb 0)) (C := RX4) (T := TX4) (N := 6) hx hb hts iX4_breaksWith_X4 hown hK.1 hW.1 0 rfl rfl 0 (by decide) (hts _ mX4_breaksWith_1) (fun _ h9 => h9) rfl dX4_breaksWith_57 ?_
  refine lv_iload_n hx hb dX4_breaksWith_60 rfl (lv_at hl 3 rfl) ?_
  refine z_callV (r := (RX0, TX0, 9)) (As := [.int (zI y1)]) (rest := []) hS hK hA hW hl.1 [1] [0, 2] (kX0_takeOut l D cI cB axb ((putInB (takeOutB b (j : Int)) y1 y2 (ahC (pC.eraseIdx j) pO y2 + y3))) y1 (ahC (pC.eraseIdx j) pO y2 + y3) hR2.1 (by omega) hat2) (cwV 1 hts gX4_breaksWith_X0_takeOut rfl rfl rfl (by decide +kernel) ⟨Nat.le_of_ble_eq_true rfl, Nat.le_of_ble_eq_true rfl⟩) (rfl : vwCl[0]? = some (RX0, TX0, 9)) (q0 := 1) rfl dX4_breaksWith_61 rfl rfl rfl rfl rfl (Nat.le_of_ble_eq_true rfl) ⟨Nat.le_of_ble_eq_true rfl, Nat.le_of_ble_eq_true rfl⟩ (fun v9 w9 H locs hq hW => ?_)
  obtain ⟨rfl, rfl, hh_61⟩ := hq
  have hW : zW D A s.heap [zBoard cI axb (takeOutB ((putInB (takeOutB b (j : Int)) y1 y2 (ahC (pC.eraseIdx j) pO y2 + y3))) (ahC (pC.eraseIdx j) pO y2 + y3)), [(x, .inr (4, [.ref (axb 0), .ref (axn 0), .int (zI xk), .ref xh, .ref (axt 0), .ref (axc 0)]))], zCont cI axc cz_53] H locs := hW
  have hW : zW D A s.heap [[(x, .inr (4, [.ref (axb 0), .ref (axn 0), .int (zI xk), .ref xh, .ref (axt 0), .ref (axc 0)]))], zBoard cI axb (takeOutB ((putInB (takeOutB b (j : Int)) y1 y2 (ahC (pC.eraseIdx j) pO y2 + y3))) (ahC (pC.eraseIdx j) pO y2 + y3)), zCont cI axc cz_53] H locs := hW.pick [1, 0, 2] rfl rfl
  refine W.eq (g2 := F0 m 64 ls []) rfl ?_
  refine lv_aload_n hx hb dX4_breaksWith_64 rfl (lv_at hl 2 rfl) ?_
  refine va_get (D := D) (ci := 4) (v := .ref (axb 0)) (C := RX4) (T := TX4) (N := 6) hx hb hts iX4_breaksWith_X4 hown hK.1 hW.1 0 rfl rfl 0 (by decide) (hts _ mX4_breaksWith_1) (fun _ h9 => h9) rfl dX4_breaksWith_65 ?_
  refine lv_iload_n hx hb dX4_breaksWith_68 rfl (lv_at hl 3 rfl) ?_
  refine lv_iload hx hb dX4_breaksWith_69 (lv_at hl 1 rfl) ?_
  refine lv_iload hx hb dX4_breaksWith_71 (lv_at hl 0 rfl) ?_
  refine z_callV (r := (RX0, TX0, 9)) (As := [.int (zI y1), .int (zI pq.2.1), .int (zI ((j : Int) - ahC pC pO pq.2.1))]) (rest := []) hS hK hA hW hl.1 [1] [0, 2] (kX0_putIn l D cI cB axb ((takeOutB ((putInB (takeOutB b (j : Int)) y1 y2 (ahC (pC.eraseIdx j) pO y2 + y3))) (ahC (pC.eraseIdx j) pO y2 + y3))) y1 pq.2.1 ((j : Int) - ahC pC pO pq.2.1) hO2.1 (by omega) (by omega) (by (have := hO2.2.1; omega)) (by rw [hna2]; have := hO2.2.1; omega)) (cwV 3 hts gX4_breaksWith_X0_putIn rfl rfl rfl (by decide +kernel) ⟨Nat.le_of_ble_eq_true rfl, Nat.le_of_ble_eq_true rfl⟩) (rfl : vwCl[0]? = some (RX0, TX0, 9)) (q0 := 1) rfl dX4_breaksWith_73 rfl rfl rfl rfl rfl (Nat.le_of_ble_eq_true rfl) ⟨Nat.le_of_ble_eq_true rfl, Nat.le_of_ble_eq_true rfl⟩ (fun v9 w9 H locs hq hW => ?_)
  obtain ⟨rfl, rfl, hh_73⟩ := hq
  have hW : zW D A s.heap [zBoard cI axb (putInB ((takeOutB ((putInB (takeOutB b (j : Int)) y1 y2 (ahC (pC.eraseIdx j) pO y2 + y3))) (ahC (pC.eraseIdx j) pO y2 + y3))) y1 pq.2.1 (nAhead (bd_scn_ ((takeOutB ((putInB (takeOutB b (j : Int)) y1 y2 (ahC (pC.eraseIdx j) pO y2 + y3))) (ahC (pC.eraseIdx j) pO y2 + y3))) (zU (bd_scn ((takeOutB ((putInB (takeOutB b (j : Int)) y1 y2 (ahC (pC.eraseIdx j) pO y2 + y3))) (ahC (pC.eraseIdx j) pO y2 + y3)))) y1 pq.2.1)) pq.2.1 + ((j : Int) - ahC pC pO pq.2.1))), [(x, .inr (4, [.ref (axb 0), .ref (axn 0), .int (zI xk), .ref xh, .ref (axt 0), .ref (axc 0)]))], zCont cI axc cz_53] H locs := hW
  have hW : zW D A s.heap [[(x, .inr (4, [.ref (axb 0), .ref (axn 0), .int (zI xk), .ref xh, .ref (axt 0), .ref (axc 0)]))], zBoard cI axb (putInB ((takeOutB ((putInB (takeOutB b (j : Int)) y1 y2 (ahC (pC.eraseIdx j) pO y2 + y3))) (ahC (pC.eraseIdx j) pO y2 + y3))) y1 pq.2.1 (nAhead (bd_scn_ ((takeOutB ((putInB (takeOutB b (j : Int)) y1 y2 (ahC (pC.eraseIdx j) pO y2 + y3))) (ahC (pC.eraseIdx j) pO y2 + y3))) (zU (bd_scn ((takeOutB ((putInB (takeOutB b (j : Int)) y1 y2 (ahC (pC.eraseIdx j) pO y2 + y3))) (ahC (pC.eraseIdx j) pO y2 + y3)))) y1 pq.2.1)) pq.2.1 + ((j : Int) - ahC pC pO pq.2.1))), zCont cI axc cz_53] H locs := hW.pick [1, 0, 2] rfl rfl
  refine W.eq (g2 := F0 m 76 ls []) rfl ?_
  rw [hna2, show ahC (pC.eraseIdx j) pO pq.2.1 + ((j : Int) - ahC pC pO pq.2.1) = (j : Int) by omega] at hW
  have hW : zW D A s.heap [[(x, .inr (4, [.ref (axb 0), .ref (axn 0), .int (zI xk), .ref xh, .ref (axt 0), .ref (axc 0)]))], zBoard cI axb (putInB (takeOutB (putInB (takeOutB b (j : Int)) y1 y2 (ahC (pC.eraseIdx j) pO y2 + y3)) (ahC (pC.eraseIdx j) pO y2 + y3)) y1 pq.2.1 (j : Int)), zCont cI axc cz_53] H locs := hW
  refine lv_aload_n hx hb dX4_breaksWith_76 rfl (lv_at hl 2 rfl) ?_
  refine va_get (D := D) (ci := 4) (v := .ref (axc 0)) (C := RX4) (T := TX4) (N := 6) hx hb hts iX4_breaksWith_X4 hown hK.1 hW.1 0 rfl rfl 5 (by decide) (hts _ mX4_breaksWith_2) (fun _ h9 => h9) rfl dX4_breaksWith_77 ?_
  refine va_getN (D := D) (ci := 1) (v := .int (zI (ct_nb cz_53))) (C := RX1) (T := TX1) (N := 6) hx hb hts iX4_breaksWith_X1 hown hK.1 hW.1 9 rfl rfl 5 (by decide) (va_Nw.use rfl (hK.2 _ nm_8)) (fun _ h9 => h9) rfl dX4_breaksWith_80 ?_
  exact z_iret (v := ct_nb cz_53) hx hb hr hlk hW dX4_breaksWith_83 (by
      exact ⟨ct_nb cz_53, (putInB (takeOutB (putInB (takeOutB b (j : Int)) y1 y2 (ahC (pC.eraseIdx j) pO y2 + y3)) (ahC (pC.eraseIdx j) pO y2 + y3)) y1 pq.2.1 (j : Int)), cz_53, rfl, rfl, by exact ⟨hgz.2.1, hR3, rfl⟩⟩)
