abbrev qX4_count (cI : ClassId) (x : Nat) (axb axn : Nat → Nat) (xk : Int) (xh : Nat) (axt axc : Nat → Nat) (b : zBS) (t : zTS) (cn : zCS) (xa : Nat) (hn : Int) (y1 : Int) (pC : List zPn) (pO : List Int) (ev : Int) (cB : ClassId) : Option Value → List va_W → Prop := fun vq wq => ∃ (r : Int) (cz : zCS), vq = some (.int (zI r)) ∧ wq = [[(x, .inr (4, [.ref (axb 0), .ref (axn 0), .int (zI xk), .ref xh, .ref (axt 0), .ref (axc 0)]))], zBoard cI axb b, zText cI axt t, zCont cI axc cz, [(xh, .inr (2, [.ref xa, .int (zI hn)]))]] ∧ (r = cntA pC ev hn (tx_len t) y1)
set_option maxRecDepth 20000 in
theorem iX4_count_X4 : ∀ w ∈ u_ws RX4 TX4 6, w ∈ wsX4_count := by decide +kernel
set_option maxRecDepth 20000 in
theorem mX4_count_1 : (.fieldLink RX4 12 "StoryPanels" "board" "LStoryPanels$Board;" : Cond) ∈ wsX4_count := by decide +kernel
set_option maxRecDepth 20000 in
theorem iX4_count_X0 : ∀ w ∈ u_ws RX0 TX0 9, w ∈ wsX4_count := by decide +kernel
set_option maxRecDepth 20000 in
theorem mX4_count_3 : (.fieldLink RX4 26 "StoryPanels" "history" "LStoryPanels$History;" : Cond) ∈ wsX4_count := by decide +kernel
set_option maxRecDepth 20000 in
theorem iX4_count_X2 : ∀ w ∈ u_ws RX2 TX2 2, w ∈ wsX4_count := by decide +kernel
set_option maxRecDepth 20000 in
theorem mX4_count_5 : (.fieldLink RX4 33 "StoryPanels" "text" "LStoryPanels$PanelText;" : Cond) ∈ wsX4_count := by decide +kernel
set_option maxRecDepth 20000 in
theorem iX4_count_X3 : ∀ w ∈ u_ws RX3 TX3 6, w ∈ wsX4_count := by decide +kernel
set_option maxHeartbeats 4000000 in
set_option maxRecDepth 100000 in
theorem kX4_count (l : Launch) (D : va_G) (cI cB : ClassId) (x : Nat) (axb axn : Nat → Nat) (xk : Int) (xh : Nat) (axt axc : Nat → Nat) (b : zBS) (t : zTS) (cn : zCS) (xa : Nat) (hn : Int) (y1 : Int) (pC : List zPn) (pO : List Int) (ev : Int) (hR : RB b pC pO ev) (hTk : TXOK t) (hhn : 0 ≤ hn ∧ hn ≤ 4) (hy1 : R32 y1) : zMet l yX4_count wsX4_count 6 150 0 0 D cI cB [.ref x, .int (zI y1)] [[(x, .inr (4, [.ref (axb 0), .ref (axn 0), .int (zI xk), .ref xh, .ref (axt 0), .ref (axc 0)]))], zBoard cI axb b, zText cI axt t, zCont cI axc cn, [(xh, .inr (2, [.ref xa, .int (zI hn)]))]] (qX4_count cI x axb axn xk xh axt axc b t cn xa hn y1 pC pO ev cB) := by
  refine zMet.of (cd := cX4_count) (maxL := 2) (ret := (some .int)) (by decide) rfl (Nat.le_of_ble_eq_true rfl) ?_
  intro p e s m args below meth c A ls hS hr hlk hnm hK hA hW hl
  have hS : CallFix p m c cX4_count 2 s args wsX4_count RX4 := hS
  have hx := hS.1
  have hb := hS.2.1
  have hown := hS.2.2.2.1
  have hts := hS.2.2.2.2
  have hl : lv_has ls 2 [(0, .ref x), (1, .int (zI y1))] := hl
  have hRz := hR.1.1
  have hRl := hR.2.1
  have hsf := hR.1.2.1
  have htl := hTk.1
  refine lv_iload_n hx hb dX4_count_0 rfl (lv_at hl 1 rfl) ?_
  rcases (show y1 = 0 ∨ y1 = 1 ∨ y1 = 2 ∨ y1 = 3 ∨ y1 = 4 ∨ y1 = 5 ∨ y1 = 6 ∨ y1 = 7 ∨ y1 = 8 ∨ y1 = 9 ∨ y1 = 10 ∨ y1 = 11 ∨ y1 = 12 ∨ (y1 < 0 ∨ 12 < y1) by omega) with ww_1 | ww_1 | ww_1 | ww_1 | ww_1 | ww_1 | ww_1 | ww_1 | ww_1 | ww_1 | ww_1 | ww_1 | ww_1 | ww_1
  · refine z_tableIn (k := 0) (off := 67) (tgt := 68) hx hb dX4_count_1 (ww_1) (by decide) (by decide) (by decide +kernel) (by decide) ?_
    refine lv_aload_n hx hb dX4_count_68 rfl (lv_at hl 0 rfl) ?_
    refine va_get (D := D) (ci := 4) (v := .ref (axb 0)) (C := RX4) (T := TX4) (N := 6) hx hb hts iX4_count_X4 hown hK.1 hW.1 0 rfl rfl 0 (by decide) (hts _ mX4_count_1) (fun _ h9 => h9) rfl dX4_count_69 ?_
    refine va_getN (D := D) (ci := 0) (v := .int (zI (bd_sz b))) (C := RX0) (T := TX0) (N := 9) hx hb hts iX4_count_X0 hown hK.1 hW.1 1 rfl rfl 7 (by decide) (va_Nw.use rfl (hK.2 _ nm_0)) (fun _ h9 => h9) rfl dX4_count_72 ?_
    exact z_iret (v := bd_sz b) hx hb hr hlk hW dX4_count_75 (by
        exact ⟨bd_sz b, cn, rfl, rfl, by rw [ww_1]; exact hRl⟩)
  · refine z_tableIn (k := 1) (off := 75) (tgt := 76) hx hb dX4_count_1 (ww_1) (by decide) (by decide) (by decide +kernel) (by decide) ?_
    refine lv_aload_n hx hb dX4_count_76 rfl (lv_at hl 0 rfl) ?_
    refine va_get (D := D) (ci := 4) (v := .ref (axb 0)) (C := RX4) (T := TX4) (N := 6) hx hb hts iX4_count_X4 hown hK.1 hW.1 0 rfl rfl 0 (by decide) (hts _ mX4_count_1) (fun _ h9 => h9) rfl dX4_count_77 ?_
    refine va_getN (D := D) (ci := 0) (v := .int (zI (bd_sf b))) (C := RX0) (T := TX0) (N := 9) hx hb hts iX4_count_X0 hown hK.1 hW.1 1 rfl rfl 8 (by decide) (va_Nw.use rfl (hK.2 _ nm_1)) (fun _ h9 => h9) rfl dX4_count_80 ?_
    exact z_iret (v := bd_sf b) hx hb hr hlk hW dX4_count_83 (by
        exact ⟨bd_sf b, cn, rfl, rfl, by rw [ww_1]; exact hR.2.2.1⟩)
  · refine z_tableIn (k := 2) (off := 83) (tgt := 84) hx hb dX4_count_1 (ww_1) (by decide) (by decide) (by decide +kernel) (by decide) ?_
    refine lv_aload_n hx hb dX4_count_84 rfl (lv_at hl 0 rfl) ?_
    refine va_get (D := D) (ci := 4) (v := .ref (axb 0)) (C := RX4) (T := TX4) (N := 6) hx hb hts iX4_count_X4 hown hK.1 hW.1 0 rfl rfl 0 (by decide) (hts _ mX4_count_1) (fun _ h9 => h9) rfl dX4_count_85 ?_
    refine lv_aload_n hx hb dX4_count_88 rfl (lv_at hl 0 rfl) ?_
    refine va_get (D := D) (ci := 4) (v := .ref (axb 0)) (C := RX4) (T := TX4) (N := 6) hx hb hts iX4_count_X4 hown hK.1 hW.1 0 rfl rfl 0 (by decide) (hts _ mX4_count_1) (fun _ h9 => h9) rfl dX4_count_89 ?_
    refine va_getN (D := D) (ci := 0) (v := .int (zI (bd_sz b))) (C := RX0) (T := TX0) (N := 9) hx hb hts iX4_count_X0 hown hK.1 hW.1 1 rfl rfl 7 (by decide) (va_Nw.use rfl (hK.2 _ nm_0)) (fun _ h9 => h9) rfl dX4_count_92 ?_
    refine z_callV (r := (RX0, TX0, 9)) (As := [.int (zI (bd_sz b))]) (rest := []) hS hK hA hW hl.1 [1] [0, 2, 3, 4] (kX0_ticksAhead l D cI cB axb b (bd_sz b) hR.1 (by omega)) (cwV 1 hts gX4_count_X0_ticksAhead rfl rfl rfl (by decide +kernel) ⟨Nat.le_of_ble_eq_true rfl, Nat.le_of_ble_eq_true rfl⟩) (rfl : vwCl[0]? = some (RX0, TX0, 9)) (q0 := 1) rfl dX4_count_95 rfl rfl rfl rfl rfl (Nat.le_of_ble_eq_true rfl) ⟨Nat.le_of_ble_eq_true rfl, Nat.le_of_ble_eq_true rfl⟩ (fun v9 w9 H locs hq hW => ?_)
    obtain ⟨rr_95, rfl, rfl, hh_95⟩ := hq
    subst rr_95
    have hW : zW D A s.heap [zBoard cI axb b, [(x, .inr (4, [.ref (axb 0), .ref (axn 0), .int (zI xk), .ref xh, .ref (axt 0), .ref (axc 0)]))], zText cI axt t, zCont cI axc cn, [(xh, .inr (2, [.ref xa, .int (zI hn)]))]] H locs := hW
    have hW : zW D A s.heap [[(x, .inr (4, [.ref (axb 0), .ref (axn 0), .int (zI xk), .ref xh, .ref (axt 0), .ref (axc 0)]))], zBoard cI axb b, zText cI axt t, zCont cI axc cn, [(xh, .inr (2, [.ref xa, .int (zI hn)]))]] H locs := hW.pick [1, 0, 2, 3, 4] rfl rfl
    refine W.eq (g2 := F0 m 98 ls [.int (zI (ticksB b (if (bd_sz b) < bd_sz b then (bd_sz b) else bd_sz b)))]) rfl ?_
    rw [show (ticksB b (if (bd_sz b) < bd_sz b then (bd_sz b) else bd_sz b)) = (tkC pC (pC.length : Int)) by rw [← RB_ticks hR (by omega)]; congr 1; split <;> omega]
    exact z_iret (v := tkC pC (pC.length : Int)) hx hb hr hlk hW dX4_count_98 (by
        exact ⟨tkC pC (pC.length : Int), cn, rfl, rfl, by rw [ww_1]; rfl⟩)
  · refine z_tableIn (k := 3) (off := 98) (tgt := 99) hx hb dX4_count_1 (ww_1) (by decide) (by decide) (by decide +kernel) (by decide) ?_
    refine lv_aload_n hx hb dX4_count_99 rfl (lv_at hl 0 rfl) ?_
    refine z_callV (r := (RX4, TX4, 6)) (As := []) (rest := []) hS hK hA hW hl.1 [0, 1, 3] [2, 4] (kX4_breaksNow l D cI cB x axb axn xk xh axt axc b cn pC pO ev hR) (cwV 0 hts gX4_count_X4_breaksNow rfl rfl rfl (by decide +kernel) ⟨Nat.le_of_ble_eq_true rfl, Nat.le_of_ble_eq_true rfl⟩) (rfl : vwCl[4]? = some (RX4, TX4, 6)) (q0 := 0) rfl dX4_count_100 rfl rfl rfl rfl rfl (Nat.le_of_ble_eq_true rfl) ⟨Nat.le_of_ble_eq_true rfl, Nat.le_of_ble_eq_true rfl⟩ (fun v9 w9 H locs hq hW => ?_)
    obtain ⟨rr_100, cz_100, rfl, rfl, hh_100⟩ := hq
    have hW : zW D A s.heap [[(x, .inr (4, [.ref (axb 0), .ref (axn 0), .int (zI xk), .ref xh, .ref (axt 0), .ref (axc 0)]))], zBoard cI axb b, zCont cI axc cz_100, zText cI axt t, [(xh, .inr (2, [.ref xa, .int (zI hn)]))]] H locs := hW
    have hW : zW D A s.heap [[(x, .inr (4, [.ref (axb 0), .ref (axn 0), .int (zI xk), .ref xh, .ref (axt 0), .ref (axc 0)]))], zBoard cI axb b, zText cI axt t, zCont cI axc cz_100, [(xh, .inr (2, [.ref xa, .int (zI hn)]))]] H locs := hW.pick [0, 1, 3, 2, 4] rfl rfl
    refine W.eq (g2 := F0 m 103 ls [.int (zI rr_100)]) rfl ?_
    rw [show rr_100 = (nbC pC) by exact hh_100.1]
    exact z_iret (v := nbC pC) hx hb hr hlk hW dX4_count_103 (by
        exact ⟨nbC pC, cz_100, rfl, rfl, by rw [ww_1]; rfl⟩)
  · refine z_tableIn (k := 4) (off := 103) (tgt := 104) hx hb dX4_count_1 (ww_1) (by decide) (by decide) (by decide +kernel) (by decide) ?_
    refine lv_aload_n hx hb dX4_count_104 rfl (lv_at hl 0 rfl) ?_
    refine va_get (D := D) (ci := 4) (v := .ref (axb 0)) (C := RX4) (T := TX4) (N := 6) hx hb hts iX4_count_X4 hown hK.1 hW.1 0 rfl rfl 0 (by decide) (hts _ mX4_count_1) (fun _ h9 => h9) rfl dX4_count_105 ?_
    refine z_callV (r := (RX0, TX0, 9)) (As := []) (rest := []) hS hK hA hW hl.1 [1] [0, 2, 3, 4] (kX0_eventsOfAll l D cI cB axb b hR.1) (cwV 0 hts gX4_count_X0_eventsOfAll rfl rfl rfl (by decide +kernel) ⟨Nat.le_of_ble_eq_true rfl, Nat.le_of_ble_eq_true rfl⟩) (rfl : vwCl[0]? = some (RX0, TX0, 9)) (q0 := 1) rfl dX4_count_108 rfl rfl rfl rfl rfl (Nat.le_of_ble_eq_true rfl) ⟨Nat.le_of_ble_eq_true rfl, Nat.le_of_ble_eq_true rfl⟩ (fun v9 w9 H locs hq hW => ?_)
    obtain ⟨rr_108, rfl, rfl, hh_108⟩ := hq
    subst rr_108
    have hW : zW D A s.heap [zBoard cI axb b, [(x, .inr (4, [.ref (axb 0), .ref (axn 0), .int (zI xk), .ref xh, .ref (axt 0), .ref (axc 0)]))], zText cI axt t, zCont cI axc cn, [(xh, .inr (2, [.ref xa, .int (zI hn)]))]] H locs := hW
    have hW : zW D A s.heap [[(x, .inr (4, [.ref (axb 0), .ref (axn 0), .int (zI xk), .ref xh, .ref (axt 0), .ref (axc 0)]))], zBoard cI axb b, zText cI axt t, zCont cI axc cn, [(xh, .inr (2, [.ref xa, .int (zI hn)]))]] H locs := hW.pick [1, 0, 2, 3, 4] rfl rfl
    refine W.eq (g2 := F0 m 111 ls [.int (zI (evsB b))]) rfl ?_
    rw [show (evsB b) = (evsC pC) by exact RB_evs hR]
    exact z_iret (v := evsC pC) hx hb hr hlk hW dX4_count_111 (by
        exact ⟨evsC pC, cn, rfl, rfl, by rw [ww_1]; rfl⟩)
  · refine z_tableIn (k := 5) (off := 111) (tgt := 112) hx hb dX4_count_1 (ww_1) (by decide) (by decide) (by decide +kernel) (by decide) ?_
    refine lv_aload_n hx hb dX4_count_112 rfl (lv_at hl 0 rfl) ?_
    refine z_callV (r := (RX4, TX4, 6)) (As := []) (rest := []) hS hK hA hW hl.1 [0, 1, 3] [2, 4] (kX4_propsHeldAtTheEnd l D cI cB x axb axn xk xh axt axc b cn pC pO ev hR) (cwV 0 hts gX4_count_X4_propsHeldAtTheEnd rfl rfl rfl (by decide +kernel) ⟨Nat.le_of_ble_eq_true rfl, Nat.le_of_ble_eq_true rfl⟩) (rfl : vwCl[4]? = some (RX4, TX4, 6)) (q0 := 0) rfl dX4_count_113 rfl rfl rfl rfl rfl (Nat.le_of_ble_eq_true rfl) ⟨Nat.le_of_ble_eq_true rfl, Nat.le_of_ble_eq_true rfl⟩ (fun v9 w9 H locs hq hW => ?_)
    obtain ⟨rr_113, cz_113, rfl, rfl, hh_113⟩ := hq
    have hW : zW D A s.heap [[(x, .inr (4, [.ref (axb 0), .ref (axn 0), .int (zI xk), .ref xh, .ref (axt 0), .ref (axc 0)]))], zBoard cI axb b, zCont cI axc cz_113, zText cI axt t, [(xh, .inr (2, [.ref xa, .int (zI hn)]))]] H locs := hW
    have hW : zW D A s.heap [[(x, .inr (4, [.ref (axb 0), .ref (axn 0), .int (zI xk), .ref xh, .ref (axt 0), .ref (axc 0)]))], zBoard cI axb b, zText cI axt t, zCont cI axc cz_113, [(xh, .inr (2, [.ref xa, .int (zI hn)]))]] H locs := hW.pick [0, 1, 3, 2, 4] rfl rfl
    refine W.eq (g2 := F0 m 116 ls [.int (zI rr_113)]) rfl ?_
    rw [show rr_113 = (heldC pC) by exact hh_113.1]
    exact z_iret (v := heldC pC) hx hb hr hlk hW dX4_count_116 (by
        exact ⟨heldC pC, cz_113, rfl, rfl, by rw [ww_1]; rfl⟩)
  · refine z_tableIn (k := 6) (off := 116) (tgt := 117) hx hb dX4_count_1 (ww_1) (by decide) (by decide) (by decide +kernel) (by decide) ?_
    refine lv_aload_n hx hb dX4_count_117 rfl (lv_at hl 0 rfl) ?_
    refine lv_iconst (v := zI (1)) hx hb dX4_count_118 rfl ?_
    refine lv_iconst (v := zI (1)) hx hb dX4_count_119 rfl ?_
    refine z_callV (r := (RX4, TX4, 6)) (As := [.int (zI 1), .int (zI 1)]) (rest := []) hS hK hA hW hl.1 [0, 1, 3] [2, 4] (kX4_breaksHaving l D cI cB x axb axn xk xh axt axc b cn 1 1 pC pO ev hR (by omega) (by omega)) (cwV 2 hts gX4_count_X4_breaksHaving rfl rfl rfl (by decide +kernel) ⟨Nat.le_of_ble_eq_true rfl, Nat.le_of_ble_eq_true rfl⟩) (rfl : vwCl[4]? = some (RX4, TX4, 6)) (q0 := 0) rfl dX4_count_120 rfl rfl rfl rfl rfl (Nat.le_of_ble_eq_true rfl) ⟨Nat.le_of_ble_eq_true rfl, Nat.le_of_ble_eq_true rfl⟩ (fun v9 w9 H locs hq hW => ?_)
    obtain ⟨rr_120, cz_120, rfl, rfl, hh_120⟩ := hq
    have hW : zW D A s.heap [[(x, .inr (4, [.ref (axb 0), .ref (axn 0), .int (zI xk), .ref xh, .ref (axt 0), .ref (axc 0)]))], zBoard cI axb b, zCont cI axc cz_120, zText cI axt t, [(xh, .inr (2, [.ref xa, .int (zI hn)]))]] H locs := hW
    have hW : zW D A s.heap [[(x, .inr (4, [.ref (axb 0), .ref (axn 0), .int (zI xk), .ref xh, .ref (axt 0), .ref (axc 0)]))], zBoard cI axb b, zText cI axt t, zCont cI axc cz_120, [(xh, .inr (2, [.ref xa, .int (zI hn)]))]] H locs := hW.pick [0, 1, 3, 2, 4] rfl rfl
    refine W.eq (g2 := F0 m 123 ls [.int (zI rr_120)]) rfl ?_
    rw [show rr_120 = (haveB pC 1 1) by exact hh_120.1]
    exact z_iret (v := haveB pC 1 1) hx hb hr hlk hW dX4_count_123 (by
        exact ⟨haveB pC 1 1, cz_120, rfl, rfl, by rw [ww_1]; rfl⟩)
  · refine z_tableIn (k := 7) (off := 123) (tgt := 124) hx hb dX4_count_1 (ww_1) (by decide) (by decide) (by decide +kernel) (by decide) ?_
    refine lv_aload_n hx hb dX4_count_124 rfl (lv_at hl 0 rfl) ?_
    refine lv_iconst (v := zI (1)) hx hb dX4_count_125 rfl ?_
    refine lv_iconst (v := zI (2)) hx hb dX4_count_126 rfl ?_
    refine z_callV (r := (RX4, TX4, 6)) (As := [.int (zI 1), .int (zI 2)]) (rest := []) hS hK hA hW hl.1 [0, 1, 3] [2, 4] (kX4_breaksHaving l D cI cB x axb axn xk xh axt axc b cn 1 2 pC pO ev hR (by omega) (by omega)) (cwV 2 hts gX4_count_X4_breaksHaving rfl rfl rfl (by decide +kernel) ⟨Nat.le_of_ble_eq_true rfl, Nat.le_of_ble_eq_true rfl⟩) (rfl : vwCl[4]? = some (RX4, TX4, 6)) (q0 := 0) rfl dX4_count_127 rfl rfl rfl rfl rfl (Nat.le_of_ble_eq_true rfl) ⟨Nat.le_of_ble_eq_true rfl, Nat.le_of_ble_eq_true rfl⟩ (fun v9 w9 H locs hq hW => ?_)
    obtain ⟨rr_127, cz_127, rfl, rfl, hh_127⟩ := hq
    have hW : zW D A s.heap [[(x, .inr (4, [.ref (axb 0), .ref (axn 0), .int (zI xk), .ref xh, .ref (axt 0), .ref (axc 0)]))], zBoard cI axb b, zCont cI axc cz_127, zText cI axt t, [(xh, .inr (2, [.ref xa, .int (zI hn)]))]] H locs := hW
    have hW : zW D A s.heap [[(x, .inr (4, [.ref (axb 0), .ref (axn 0), .int (zI xk), .ref xh, .ref (axt 0), .ref (axc 0)]))], zBoard cI axb b, zText cI axt t, zCont cI axc cz_127, [(xh, .inr (2, [.ref xa, .int (zI hn)]))]] H locs := hW.pick [0, 1, 3, 2, 4] rfl rfl
    refine W.eq (g2 := F0 m 130 ls [.int (zI rr_127)]) rfl ?_
    rw [show rr_127 = (haveB pC 1 2) by exact hh_127.1]
    exact z_iret (v := haveB pC 1 2) hx hb hr hlk hW dX4_count_130 (by
        exact ⟨haveB pC 1 2, cz_127, rfl, rfl, by rw [ww_1]; rfl⟩)
  · refine z_tableIn (k := 8) (off := 130) (tgt := 131) hx hb dX4_count_1 (ww_1) (by decide) (by decide) (by decide +kernel) (by decide) ?_
    refine lv_aload_n hx hb dX4_count_131 rfl (lv_at hl 0 rfl) ?_
    refine lv_iconst (v := zI (1)) hx hb dX4_count_132 rfl ?_
    refine lv_iconst (v := zI (3)) hx hb dX4_count_133 rfl ?_
    refine z_callV (r := (RX4, TX4, 6)) (As := [.int (zI 1), .int (zI 3)]) (rest := []) hS hK hA hW hl.1 [0, 1, 3] [2, 4] (kX4_breaksHaving l D cI cB x axb axn xk xh axt axc b cn 1 3 pC pO ev hR (by omega) (by omega)) (cwV 2 hts gX4_count_X4_breaksHaving rfl rfl rfl (by decide +kernel) ⟨Nat.le_of_ble_eq_true rfl, Nat.le_of_ble_eq_true rfl⟩) (rfl : vwCl[4]? = some (RX4, TX4, 6)) (q0 := 0) rfl dX4_count_134 rfl rfl rfl rfl rfl (Nat.le_of_ble_eq_true rfl) ⟨Nat.le_of_ble_eq_true rfl, Nat.le_of_ble_eq_true rfl⟩ (fun v9 w9 H locs hq hW => ?_)
    obtain ⟨rr_134, cz_134, rfl, rfl, hh_134⟩ := hq
    have hW : zW D A s.heap [[(x, .inr (4, [.ref (axb 0), .ref (axn 0), .int (zI xk), .ref xh, .ref (axt 0), .ref (axc 0)]))], zBoard cI axb b, zCont cI axc cz_134, zText cI axt t, [(xh, .inr (2, [.ref xa, .int (zI hn)]))]] H locs := hW
    have hW : zW D A s.heap [[(x, .inr (4, [.ref (axb 0), .ref (axn 0), .int (zI xk), .ref xh, .ref (axt 0), .ref (axc 0)]))], zBoard cI axb b, zText cI axt t, zCont cI axc cz_134, [(xh, .inr (2, [.ref xa, .int (zI hn)]))]] H locs := hW.pick [0, 1, 3, 2, 4] rfl rfl
    refine W.eq (g2 := F0 m 137 ls [.int (zI rr_134)]) rfl ?_
    rw [show rr_134 = (haveB pC 1 3) by exact hh_134.1]
    exact z_iret (v := haveB pC 1 3) hx hb hr hlk hW dX4_count_137 (by
        exact ⟨haveB pC 1 3, cz_134, rfl, rfl, by rw [ww_1]; rfl⟩)
  · refine z_tableIn (k := 9) (off := 137) (tgt := 138) hx hb dX4_count_1 (ww_1) (by decide) (by decide) (by decide +kernel) (by decide) ?_
    refine lv_aload_n hx hb dX4_count_138 rfl (lv_at hl 0 rfl) ?_
    refine lv_iconst (v := zI (1)) hx hb dX4_count_139 rfl ?_
    refine lv_iconst (v := zI (4)) hx hb dX4_count_140 rfl ?_
    refine z_callV (r := (RX4, TX4, 6)) (As := [.int (zI 1), .int (zI 4)]) (rest := []) hS hK hA hW hl.1 [0, 1, 3] [2, 4] (kX4_breaksHaving l D cI cB x axb axn xk xh axt axc b cn 1 4 pC pO ev hR (by omega) (by omega)) (cwV 2 hts gX4_count_X4_breaksHaving rfl rfl rfl (by decide +kernel) ⟨Nat.le_of_ble_eq_true rfl, Nat.le_of_ble_eq_true rfl⟩) (rfl : vwCl[4]? = some (RX4, TX4, 6)) (q0 := 0) rfl dX4_count_141 rfl rfl rfl rfl rfl (Nat.le_of_ble_eq_true rfl) ⟨Nat.le_of_ble_eq_true rfl, Nat.le_of_ble_eq_true rfl⟩ (fun v9 w9 H locs hq hW => ?_)
    obtain ⟨rr_141, cz_141, rfl, rfl, hh_141⟩ := hq
    have hW : zW D A s.heap [[(x, .inr (4, [.ref (axb 0), .ref (axn 0), .int (zI xk), .ref xh, .ref (axt 0), .ref (axc 0)]))], zBoard cI axb b, zCont cI axc cz_141, zText cI axt t, [(xh, .inr (2, [.ref xa, .int (zI hn)]))]] H locs := hW
    have hW : zW D A s.heap [[(x, .inr (4, [.ref (axb 0), .ref (axn 0), .int (zI xk), .ref xh, .ref (axt 0), .ref (axc 0)]))], zBoard cI axb b, zText cI axt t, zCont cI axc cz_141, [(xh, .inr (2, [.ref xa, .int (zI hn)]))]] H locs := hW.pick [0, 1, 3, 2, 4] rfl rfl
    refine W.eq (g2 := F0 m 144 ls [.int (zI rr_141)]) rfl ?_
    rw [show rr_141 = (haveB pC 1 4) by exact hh_141.1]
    exact z_iret (v := haveB pC 1 4) hx hb hr hlk hW dX4_count_144 (by
        exact ⟨haveB pC 1 4, cz_141, rfl, rfl, by rw [ww_1]; rfl⟩)
  · refine z_tableIn (k := 10) (off := 144) (tgt := 145) hx hb dX4_count_1 (ww_1) (by decide) (by decide) (by decide +kernel) (by decide) ?_
    refine lv_aload_n hx hb dX4_count_145 rfl (lv_at hl 0 rfl) ?_
    refine lv_iconst (v := zI (1)) hx hb dX4_count_146 rfl ?_
    refine lv_iconst (v := zI (5)) hx hb dX4_count_147 rfl ?_
    refine z_callV (r := (RX4, TX4, 6)) (As := [.int (zI 1), .int (zI 5)]) (rest := []) hS hK hA hW hl.1 [0, 1, 3] [2, 4] (kX4_breaksHaving l D cI cB x axb axn xk xh axt axc b cn 1 5 pC pO ev hR (by omega) (by omega)) (cwV 2 hts gX4_count_X4_breaksHaving rfl rfl rfl (by decide +kernel) ⟨Nat.le_of_ble_eq_true rfl, Nat.le_of_ble_eq_true rfl⟩) (rfl : vwCl[4]? = some (RX4, TX4, 6)) (q0 := 0) rfl dX4_count_148 rfl rfl rfl rfl rfl (Nat.le_of_ble_eq_true rfl) ⟨Nat.le_of_ble_eq_true rfl, Nat.le_of_ble_eq_true rfl⟩ (fun v9 w9 H locs hq hW => ?_)
    obtain ⟨rr_148, cz_148, rfl, rfl, hh_148⟩ := hq
    have hW : zW D A s.heap [[(x, .inr (4, [.ref (axb 0), .ref (axn 0), .int (zI xk), .ref xh, .ref (axt 0), .ref (axc 0)]))], zBoard cI axb b, zCont cI axc cz_148, zText cI axt t, [(xh, .inr (2, [.ref xa, .int (zI hn)]))]] H locs := hW
    have hW : zW D A s.heap [[(x, .inr (4, [.ref (axb 0), .ref (axn 0), .int (zI xk), .ref xh, .ref (axt 0), .ref (axc 0)]))], zBoard cI axb b, zText cI axt t, zCont cI axc cz_148, [(xh, .inr (2, [.ref xa, .int (zI hn)]))]] H locs := hW.pick [0, 1, 3, 2, 4] rfl rfl
    refine W.eq (g2 := F0 m 151 ls [.int (zI rr_148)]) rfl ?_
    rw [show rr_148 = (haveB pC 1 5) by exact hh_148.1]
    exact z_iret (v := haveB pC 1 5) hx hb hr hlk hW dX4_count_151 (by
        exact ⟨haveB pC 1 5, cz_148, rfl, rfl, by rw [ww_1]; rfl⟩)
  · refine z_tableIn (k := 11) (off := 151) (tgt := 152) hx hb dX4_count_1 (ww_1) (by decide) (by decide) (by decide +kernel) (by decide) ?_
    refine lv_aload_n hx hb dX4_count_152 rfl (lv_at hl 0 rfl) ?_
    refine va_get (D := D) (ci := 4) (v := .ref xh) (C := RX4) (T := TX4) (N := 6) hx hb hts iX4_count_X4 hown hK.1 hW.1 0 rfl rfl 3 (by decide) (hts _ mX4_count_3) (fun _ h9 => h9) rfl dX4_count_153 ?_
    refine va_getN (D := D) (ci := 2) (v := .int (zI hn)) (C := RX2) (T := TX2) (N := 2) hx hb hts iX4_count_X2 hown hK.1 hW.1 17 rfl rfl 1 (by decide) (va_Nw.use rfl (hK.2 _ nm_2)) (fun _ h9 => h9) rfl dX4_count_156 ?_
    exact z_iret (v := hn) hx hb hr hlk hW dX4_count_159 (by
        exact ⟨hn, cn, rfl, rfl, by rw [ww_1]; rfl⟩)
  · refine z_tableIn (k := 12) (off := 159) (tgt := 160) hx hb dX4_count_1 (ww_1) (by decide) (by decide) (by decide +kernel) (by decide) ?_
    refine lv_aload_n hx hb dX4_count_160 rfl (lv_at hl 0 rfl) ?_
    refine va_get (D := D) (ci := 4) (v := .ref (axt 0)) (C := RX4) (T := TX4) (N := 6) hx hb hts iX4_count_X4 hown hK.1 hW.1 0 rfl rfl 4 (by decide) (hts _ mX4_count_5) (fun _ h9 => h9) rfl dX4_count_161 ?_
    refine va_getN (D := D) (ci := 3) (v := .int (zI (tx_len t))) (C := RX3) (T := TX3) (N := 6) hx hb hts iX4_count_X3 hown hK.1 hW.1 9 rfl rfl 1 (by decide) (va_Nw.use rfl (hK.2 _ nm_3)) (fun _ h9 => h9) rfl dX4_count_164 ?_
    exact z_iret (v := tx_len t) hx hb hr hlk hW dX4_count_167 (by
        exact ⟨tx_len t, cn, rfl, rfl, by rw [ww_1]; rfl⟩)
  · refine z_tableOut (tgt := 168) hx hb dX4_count_1 (by omega) ww_1 (by decide) ?_
    refine lv_bipush (v := zI (-2)) hx hb dX4_count_168 (by decide +kernel) ?_
    exact z_iret (v := (-2)) hx hb hr hlk hW dX4_count_170 (by
        exact ⟨(-2), cn, rfl, rfl, by unfold cntA; rw [if_neg (by omega), if_neg (by omega), if_neg (by omega), if_neg (by omega), if_neg (by omega), if_neg (by omega), if_neg (by omega), if_neg (by omega), if_neg (by omega)]⟩)

abbrev qX4_type (cI : ClassId) (x : Nat) (axb axn : Nat → Nat) (xk : Int) (xh : Nat) (axt axc : Nat → Nat) (t : zTS) (y1 : Int) (cB : ClassId) : Option Value → List va_W → Prop := fun vq wq => ∃ (r : Int) (tz : zTS), vq = some (.int (zI r)) ∧ wq = [[(x, .inr (4, [.ref (axb 0), .ref (axn 0), .int (zI xk), .ref xh, .ref (axt 0), .ref (axc 0)]))], zText cI axt tz] ∧ ((60 ≤ tx_len t ∧ r = -3 ∧ tz = t) ∨ (tx_len t < 60 ∧ r = tx_len t + 1 ∧ tz = typT t y1))
set_option maxRecDepth 20000 in
theorem iX4_type_X4 : ∀ w ∈ u_ws RX4 TX4 6, w ∈ wsX4_type := by decide +kernel
set_option maxRecDepth 20000 in
theorem mX4_type_1 : (.fieldLink RX4 33 "StoryPanels" "text" "LStoryPanels$PanelText;" : Cond) ∈ wsX4_type := by decide +kernel
set_option maxRecDepth 20000 in
theorem iX4_type_X3 : ∀ w ∈ u_ws RX3 TX3 6, w ∈ wsX4_type := by decide +kernel
set_option maxHeartbeats 4000000 in
set_option maxRecDepth 100000 in
theorem kX4_type (l : Launch) (D : va_G) (cI cB : ClassId) (x : Nat) (axb axn : Nat → Nat) (xk : Int) (xh : Nat) (axt axc : Nat → Nat) (t : zTS) (y1 : Int) (hTk : TXOK t) (hy1 : 0 ≤ y1 ∧ y1 < 65536) : zMet l yX4_type wsX4_type 2 43 0 0 D cI cB [.ref x, .int (zI y1)] [[(x, .inr (4, [.ref (axb 0), .ref (axn 0), .int (zI xk), .ref xh, .ref (axt 0), .ref (axc 0)]))], zText cI axt t] (qX4_type cI x axb axn xk xh axt axc t y1 cB) := by
  refine zMet.of (cd := cX4_type) (maxL := 2) (ret := (some .int)) (by decide) rfl (Nat.le_of_ble_eq_true rfl) ?_
  intro p e s m args below meth c A ls hS hr hlk hnm hK hA hW hl
  have hS : CallFix p m c cX4_type 2 s args wsX4_type RX4 := hS
  have hx := hS.1
  have hb := hS.2.1
  have hown := hS.2.2.2.1
  have hts := hS.2.2.2.2
  have hl : lv_has ls 2 [(0, .ref x), (1, .int (zI y1))] := hl
  have htl := hTk.1
  refine lv_aload_n hx hb dX4_type_0 rfl (lv_at hl 0 rfl) ?_
  refine va_get (D := D) (ci := 4) (v := .ref (axt 0)) (C := RX4) (T := TX4) (N := 6) hx hb hts iX4_type_X4 hown hK.1 hW.1 0 rfl rfl 4 (by decide) (hts _ mX4_type_1) (fun _ h9 => h9) rfl dX4_type_1 ?_
  refine va_getN (D := D) (ci := 3) (v := .int (zI (tx_len t))) (C := RX3) (T := TX3) (N := 6) hx hb hts iX4_type_X3 hown hK.1 hW.1 1 rfl rfl 1 (by decide) (va_Nw.use rfl (hK.2 _ nm_3)) (fun _ h9 => h9) rfl dX4_type_4 ?_
  refine lv_bipush (v := zI (60)) hx hb dX4_type_7 (by decide +kernel) ?_
  refine z_icmp_lt (tgt := 15) hx hb dX4_type_9 (by decide) (by omega) (fun cc_9 => ?_) (fun cc_9 => ?_)
  · refine lv_aload_n hx hb dX4_type_15 rfl (lv_at hl 0 rfl) ?_
    refine va_get (D := D) (ci := 4) (v := .ref (axt 0)) (C := RX4) (T := TX4) (N := 6) hx hb hts iX4_type_X4 hown hK.1 hW.1 0 rfl rfl 4 (by decide) (hts _ mX4_type_1) (fun _ h9 => h9) rfl dX4_type_16 ?_
    refine lv_iload_n hx hb dX4_type_19 rfl (lv_at hl 1 rfl) ?_
    refine z_callV (r := (RX3, TX3, 6)) (As := [.int (zI y1)]) (rest := []) hS hK hA hW hl.1 [1] [0] (kX3_append l D cI cB axt t y1 hTk (by omega)) (cwV 1 hts gX4_type_X3_append rfl rfl rfl (by decide +kernel) ⟨Nat.le_of_ble_eq_true rfl, Nat.le_of_ble_eq_true rfl⟩) (rfl : vwCl[3]? = some (RX3, TX3, 6)) (q0 := 1) rfl dX4_type_20 rfl rfl rfl rfl rfl (Nat.le_of_ble_eq_true rfl) ⟨Nat.le_of_ble_eq_true rfl, Nat.le_of_ble_eq_true rfl⟩ (fun v9 w9 H locs hq hW => ?_)
    obtain ⟨rfl, rfl, hh_20⟩ := hq
    have hW : zW D A s.heap [zText cI axt (tx_len_ (tx_sig_ t (zU (tx_sig t) (tx_len t) y1)) (tx_len t + 1)), [(x, .inr (4, [.ref (axb 0), .ref (axn 0), .int (zI xk), .ref xh, .ref (axt 0), .ref (axc 0)]))]] H locs := hW
    have hW : zW D A s.heap [[(x, .inr (4, [.ref (axb 0), .ref (axn 0), .int (zI xk), .ref xh, .ref (axt 0), .ref (axc 0)]))], zText cI axt (tx_len_ (tx_sig_ t (zU (tx_sig t) (tx_len t) y1)) (tx_len t + 1))] H locs := hW.pick [1, 0] rfl rfl
    refine W.eq (g2 := F0 m 23 ls []) rfl ?_
    refine lv_aload_n hx hb dX4_type_23 rfl (lv_at hl 0 rfl) ?_
    refine va_get (D := D) (ci := 4) (v := .ref (axt 0)) (C := RX4) (T := TX4) (N := 6) hx hb hts iX4_type_X4 hown hK.1 hW.1 0 rfl rfl 4 (by decide) (hts _ mX4_type_1) (fun _ h9 => h9) rfl dX4_type_24 ?_
    refine va_getN (D := D) (ci := 3) (v := .int (zI (tx_len (tx_len_ (tx_sig_ t (zU (tx_sig t) (tx_len t) y1)) (tx_len t + 1))))) (C := RX3) (T := TX3) (N := 6) hx hb hts iX4_type_X3 hown hK.1 hW.1 1 rfl rfl 1 (by decide) (va_Nw.use rfl (hK.2 _ nm_3)) (fun _ h9 => h9) rfl dX4_type_27 ?_
    exact z_iret (v := tx_len (tx_len_ (tx_sig_ t (zU (tx_sig t) (tx_len t) y1)) (tx_len t + 1))) hx hb hr hlk hW dX4_type_30 (by
        exact ⟨tx_len (tx_len_ (tx_sig_ t (zU (tx_sig t) (tx_len t) y1)) (tx_len t + 1)), (tx_len_ (tx_sig_ t (zU (tx_sig t) (tx_len t) y1)) (tx_len t + 1)), rfl, rfl, by exact Or.inr ⟨by omega, rfl, rfl⟩⟩)
  · refine lv_bipush (v := zI (-3)) hx hb dX4_type_12 (by decide +kernel) ?_
    exact z_iret (v := (-3)) hx hb hr hlk hW dX4_type_14 (by
        exact ⟨(-3), t, rfl, rfl, by exact Or.inl ⟨by omega, rfl, rfl⟩⟩)

abbrev qX4_clearText (cI : ClassId) (x : Nat) (axb axn : Nat → Nat) (xk : Int) (xh : Nat) (axt axc : Nat → Nat) (t : zTS) (cB : ClassId) : Option Value → List va_W → Prop := fun vq wq => ∃ (r : Int) (tz : zTS), vq = some (.int (zI r)) ∧ wq = [[(x, .inr (4, [.ref (axb 0), .ref (axn 0), .int (zI xk), .ref xh, .ref (axt 0), .ref (axc 0)]))], zText cI axt tz] ∧ (r = tx_len t ∧ tz = tx_len_ t 0)
set_option maxRecDepth 20000 in
theorem iX4_clearText_X4 : ∀ w ∈ u_ws RX4 TX4 6, w ∈ wsX4_clearText := by decide +kernel
set_option maxRecDepth 20000 in
theorem mX4_clearText_1 : (.fieldLink RX4 33 "StoryPanels" "text" "LStoryPanels$PanelText;" : Cond) ∈ wsX4_clearText := by decide +kernel
set_option maxRecDepth 20000 in
theorem iX4_clearText_X3 : ∀ w ∈ u_ws RX3 TX3 6, w ∈ wsX4_clearText := by decide +kernel
set_option maxHeartbeats 4000000 in
set_option maxRecDepth 100000 in
theorem kX4_clearText (l : Launch) (D : va_G) (cI cB : ClassId) (x : Nat) (axb axn : Nat → Nat) (xk : Int) (xh : Nat) (axt axc : Nat → Nat) (t : zTS) (hTk : TXOK t) : zMet l yX4_clearText wsX4_clearText 0 0 0 0 D cI cB [.ref x] [[(x, .inr (4, [.ref (axb 0), .ref (axn 0), .int (zI xk), .ref xh, .ref (axt 0), .ref (axc 0)]))], zText cI axt t] (qX4_clearText cI x axb axn xk xh axt axc t cB) := by
  refine zMet.of (cd := cX4_clearText) (maxL := 2) (ret := (some .int)) (by decide) rfl (Nat.le_of_ble_eq_true rfl) ?_
  intro p e s m args below meth c A ls hS hr hlk hnm hK hA hW hl
  have hS : CallFix p m c cX4_clearText 2 s args wsX4_clearText RX4 := hS
  have hx := hS.1
  have hb := hS.2.1
  have hown := hS.2.2.2.1
  have hts := hS.2.2.2.2
  have hl : lv_has ls 2 [(0, .ref x)] := hl
  have htl := hTk.1
  refine lv_aload_n hx hb dX4_clearText_0 rfl (lv_at hl 0 rfl) ?_
  refine va_get (D := D) (ci := 4) (v := .ref (axt 0)) (C := RX4) (T := TX4) (N := 6) hx hb hts iX4_clearText_X4 hown hK.1 hW.1 0 rfl rfl 4 (by decide) (hts _ mX4_clearText_1) (fun _ h9 => h9) rfl dX4_clearText_1 ?_
  refine va_getN (D := D) (ci := 3) (v := .int (zI (tx_len t))) (C := RX3) (T := TX3) (N := 6) hx hb hts iX4_clearText_X3 hown hK.1 hW.1 1 rfl rfl 1 (by decide) (va_Nw.use rfl (hK.2 _ nm_3)) (fun _ h9 => h9) rfl dX4_clearText_4 ?_
  refine lv_istore_n (lv' := [(1, .int (zI (tx_len t))), (0, .ref x)]) hx hb dX4_clearText_7 rfl hl (by decide) rfl (fun ls hl => ?_)
  refine lv_aload_n hx hb dX4_clearText_8 rfl (lv_at hl 1 rfl) ?_
  refine va_get (D := D) (ci := 4) (v := .ref (axt 0)) (C := RX4) (T := TX4) (N := 6) hx hb hts iX4_clearText_X4 hown hK.1 hW.1 0 rfl rfl 4 (by decide) (hts _ mX4_clearText_1) (fun _ h9 => h9) rfl dX4_clearText_9 ?_
  refine lv_iconst (v := zI (0)) hx hb dX4_clearText_12 rfl ?_
  refine va_putN (D := D) (ci := 3) (v := .int (zI 0)) (ty := .int) (C := RX3) (T := TX3) (N := 6) hx hb hts iX4_clearText_X3 tyX3 tyX3_ok nmX3 hown hK.1 hW.1 hW.2.1 hW.2.2 1 rfl rfl 1 (by decide) (va_Nw.use rfl (hK.2 _ nm_3)) (fun _ h9 => h9) rfl (by decide +kernel) rfl rfl (Nat.le_of_ble_eq_true rfl) dX4_clearText_13 (fun H locs h1 h2 h3 => ?_)
  have hW : zW D A s.heap [[(x, .inr (4, [.ref (axb 0), .ref (axn 0), .int (zI xk), .ref xh, .ref (axt 0), .ref (axc 0)]))], zText cI axt (tx_len_ t (0))] H locs := ⟨h1, h2, h3⟩
  refine lv_iload_n hx hb dX4_clearText_16 rfl (lv_at hl 0 rfl) ?_
  exact z_iret (v := tx_len t) hx hb hr hlk hW dX4_clearText_17 (by
      exact ⟨tx_len t, (tx_len_ t (0)), rfl, rfl, by exact ⟨rfl, rfl⟩⟩)
