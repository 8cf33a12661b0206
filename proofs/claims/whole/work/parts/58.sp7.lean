abbrev qX4_putPanel (cI : ClassId) (x : Nat) (axb axn : Nat → Nat) (xk : Int) (xh : Nat) (axt axc : Nat → Nat) (b : zBS) (xa : Nat) (hn : Int) (u0 : Nat → Nat) (u1 : Nat → Nat) (u2 : Nat → Nat) (u3 : Nat → Nat) (d0 : zBS) (d1 : zBS) (d2 : zBS) (d3 : zBS) (t : zTS) (pC : List zPn) (pO : List Int) (ev : Int) (hs : List zSt) (cB : ClassId) : Option Value → List va_W → Prop := fun vq wq => ∃ (r : Int) (bz : zBS) (hnz : Int) (v0 : Nat → Nat) (v1 : Nat → Nat) (v2 : Nat → Nat) (v3 : Nat → Nat) (e0 : zBS) (e1 : zBS) (e2 : zBS) (e3 : zBS) (tz : zTS), vq = some (.int (zI r)) ∧ wq = [[(x, .inr (4, [.ref (axb 0), .ref (axn 0), .int (zI xk), .ref xh, .ref (axt 0), .ref (axc 0)]))], zBoard cI axb bz, [(xh, .inr (2, [.ref xa, .int (zI hnz)]))], [zRefs cB xa (some (v0 0)) (some (v1 0)) (some (v2 0)) (some (v3 0))], zBoard cI v0 e0, zBoard cI v1 e1, zBoard cI v2 e2, zBoard cI v3 e3, zText cI axt tz] ∧ (∃ (S2 : zSt) (hs2 : List zSt), (putR (prs (sgn t) (tx_len t)) pC pO ev hs r S2 hs2) ∧ RBS bz S2 ∧ HB hnz e0 e1 e2 e3 hs2 ∧ (tx_sig tz = tx_sig t ∧ tx_len tz = tx_len t) ∧ TXOK tz)
set_option maxRecDepth 20000 in
theorem iX4_putPanel_X4 : ∀ w ∈ u_ws RX4 TX4 6, w ∈ wsX4_putPanel := by decide +kernel
set_option maxRecDepth 20000 in
theorem mX4_putPanel_1 : (.fieldLink RX4 33 "StoryPanels" "text" "LStoryPanels$PanelText;" : Cond) ∈ wsX4_putPanel := by decide +kernel
set_option maxRecDepth 20000 in
theorem mX4_putPanel_2 : (.fieldLink RX4 12 "StoryPanels" "board" "LStoryPanels$Board;" : Cond) ∈ wsX4_putPanel := by decide +kernel
set_option maxRecDepth 20000 in
theorem mX4_putPanel_3 : (.fieldLink RX4 26 "StoryPanels" "history" "LStoryPanels$History;" : Cond) ∈ wsX4_putPanel := by decide +kernel
set_option maxHeartbeats 4000000 in
set_option maxRecDepth 100000 in
theorem kX4_putPanel (l : Launch) (D : va_G) (cI cB : ClassId) (x : Nat) (axb axn : Nat → Nat) (xk : Int) (xh : Nat) (axt axc : Nat → Nat) (b : zBS) (xa : Nat) (hn : Int) (u0 : Nat → Nat) (u1 : Nat → Nat) (u2 : Nat → Nat) (u3 : Nat → Nat) (d0 : zBS) (d1 : zBS) (d2 : zBS) (d3 : zBS) (t : zTS) (pC : List zPn) (pO : List Int) (ev : Int) (hs : List zSt) (hR : RB b pC pO ev) (hHB : HB hn d0 d1 d2 d3 hs) (hTk : TXOK t) : zMet l yX4_putPanel wsX4_putPanel 5 111 0 0 D cI cB [.ref x] [[(x, .inr (4, [.ref (axb 0), .ref (axn 0), .int (zI xk), .ref xh, .ref (axt 0), .ref (axc 0)]))], zBoard cI axb b, [(xh, .inr (2, [.ref xa, .int (zI hn)]))], [zRefs cB xa (some (u0 0)) (some (u1 0)) (some (u2 0)) (some (u3 0))], zBoard cI u0 d0, zBoard cI u1 d1, zBoard cI u2 d2, zBoard cI u3 d3, zText cI axt t] (qX4_putPanel cI x axb axn xk xh axt axc b xa hn u0 u1 u2 u3 d0 d1 d2 d3 t pC pO ev hs cB) := by
  refine zMet.of (cd := cX4_putPanel) (maxL := 2) (ret := (some .int)) (by decide) rfl (Nat.le_of_ble_eq_true rfl) ?_
  intro p e s m args below meth c A ls hS hr hlk hnm hK hA hW hl
  have hS : CallFix p m c cX4_putPanel 2 s args wsX4_putPanel RX4 := hS
  have hx := hS.1
  have hb := hS.2.1
  have hown := hS.2.2.2.1
  have hts := hS.2.2.2.2
  have hl : lv_has ls 2 [(0, .ref x)] := hl
  have hRz := hR.1.1
  have hRl := hR.2.1
  have hb1 := hHB.1
  have hb2 := hHB.2.1
  refine lv_aload_n hx hb dX4_putPanel_0 rfl (lv_at hl 0 rfl) ?_
  refine va_get (D := D) (ci := 4) (v := .ref (axt 0)) (C := RX4) (T := TX4) (N := 6) hx hb hts iX4_putPanel_X4 hown hK.1 hW.1 0 rfl rfl 4 (by decide) (hts _ mX4_putPanel_1) (fun _ h9 => h9) rfl dX4_putPanel_1 ?_
  refine z_callV (r := (RX3, TX3, 6)) (As := []) (rest := []) hS hK hA hW hl.1 [8] [0, 1, 2, 3, 4, 5, 6, 7] (kX3_findFault l D cI cB axt t hTk) (cwV 0 hts gX4_putPanel_X3_findFault rfl rfl rfl (by decide +kernel) ⟨Nat.le_of_ble_eq_true rfl, Nat.le_of_ble_eq_true rfl⟩) (rfl : vwCl[3]? = some (RX3, TX3, 6)) (q0 := 43) rfl dX4_putPanel_4 rfl rfl rfl rfl rfl (Nat.le_of_ble_eq_true rfl) ⟨Nat.le_of_ble_eq_true rfl, Nat.le_of_ble_eq_true rfl⟩ (fun v9 w9 H locs hq hW => ?_)
  obtain ⟨rr_4, tz_4, rfl, rfl, hh_4⟩ := hq
  have hW : zW D A s.heap [zText cI axt tz_4, [(x, .inr (4, [.ref (axb 0), .ref (axn 0), .int (zI xk), .ref xh, .ref (axt 0), .ref (axc 0)]))], zBoard cI axb b, [(xh, .inr (2, [.ref xa, .int (zI hn)]))], [zRefs cB xa (some (u0 0)) (some (u1 0)) (some (u2 0)) (some (u3 0))], zBoard cI u0 d0, zBoard cI u1 d1, zBoard cI u2 d2, zBoard cI u3 d3] H locs := hW
  have hW : zW D A s.heap [[(x, .inr (4, [.ref (axb 0), .ref (axn 0), .int (zI xk), .ref xh, .ref (axt 0), .ref (axc 0)]))], zBoard cI axb b, [(xh, .inr (2, [.ref xa, .int (zI hn)]))], [zRefs cB xa (some (u0 0)) (some (u1 0)) (some (u2 0)) (some (u3 0))], zBoard cI u0 d0, zBoard cI u1 d1, zBoard cI u2 d2, zBoard cI u3 d3, zText cI axt tz_4] H locs := hW.pick [1, 2, 3, 4, 5, 6, 7, 8, 0] rfl rfl
  refine W.eq (g2 := F0 m 7 ls [.int (zI rr_4)]) rfl ?_
  have hTz := hh_4.2.2.2
  have hpg := prs_rg (s := sgn t) (n := tx_len t) hTk.1.2
  have hpe := hh_4.1
  refine lv_istore_n (lv' := [(1, .int (zI rr_4)), (0, .ref x)]) hx hb dX4_putPanel_7 rfl hl (by decide) rfl (fun ls hl => ?_)
  refine lv_iload_n hx hb dX4_putPanel_8 rfl (lv_at hl 0 rfl) ?_
  refine lv_iconst (v := zI (-1)) hx hb dX4_putPanel_9 rfl ?_
  refine z_icmp_eq (tgt := 18) hx hb dX4_putPanel_10 (by decide) (by omega) (fun cc_10 => ?_) (fun cc_10 => ?_)
  · have hpm := cc_10
    refine lv_aload_n hx hb dX4_putPanel_18 rfl (lv_at hl 1 rfl) ?_
    refine va_get (D := D) (ci := 4) (v := .ref (axb 0)) (C := RX4) (T := TX4) (N := 6) hx hb hts iX4_putPanel_X4 hown hK.1 hW.1 0 rfl rfl 0 (by decide) (hts _ mX4_putPanel_2) (fun _ h9 => h9) rfl dX4_putPanel_19 ?_
    refine z_callV (r := (RX0, TX0, 9)) (As := []) (rest := []) hS hK hA hW hl.1 [1] [0, 2, 3, 4, 5, 6, 7, 8] (kX0_hasRoom l D cI cB axb b hR.1) (cwV 0 hts gX4_putPanel_X0_hasRoom rfl rfl rfl (by decide +kernel) ⟨Nat.le_of_ble_eq_true rfl, Nat.le_of_ble_eq_true rfl⟩) (rfl : vwCl[0]? = some (RX0, TX0, 9)) (q0 := 1) rfl dX4_putPanel_22 rfl rfl rfl rfl rfl (Nat.le_of_ble_eq_true rfl) ⟨Nat.le_of_ble_eq_true rfl, Nat.le_of_ble_eq_true rfl⟩ (fun v9 w9 H locs hq hW => ?_)
    obtain ⟨rr_22, rfl, rfl, hh_22⟩ := hq
    have hW : zW D A s.heap [zBoard cI axb b, [(x, .inr (4, [.ref (axb 0), .ref (axn 0), .int (zI xk), .ref xh, .ref (axt 0), .ref (axc 0)]))], [(xh, .inr (2, [.ref xa, .int (zI hn)]))], [zRefs cB xa (some (u0 0)) (some (u1 0)) (some (u2 0)) (some (u3 0))], zBoard cI u0 d0, zBoard cI u1 d1, zBoard cI u2 d2, zBoard cI u3 d3, zText cI axt tz_4] H locs := hW
    have hW : zW D A s.heap [[(x, .inr (4, [.ref (axb 0), .ref (axn 0), .int (zI xk), .ref xh, .ref (axt 0), .ref (axc 0)]))], zBoard cI axb b, [(xh, .inr (2, [.ref xa, .int (zI hn)]))], [zRefs cB xa (some (u0 0)) (some (u1 0)) (some (u2 0)) (some (u3 0))], zBoard cI u0 d0, zBoard cI u1 d1, zBoard cI u2 d2, zBoard cI u3 d3, zText cI axt tz_4] H locs := hW.pick [1, 0, 2, 3, 4, 5, 6, 7, 8] rfl rfl
    refine W.eq (g2 := F0 m 25 ls [.int (zI rr_22)]) rfl ?_
    refine z_if_ne (tgt := 31) hx hb dX4_putPanel_25 (by decide) (by omega) (fun cc_25 => ?_) (fun cc_25 => ?_)
    · refine lv_aload_n hx hb dX4_putPanel_31 rfl (lv_at hl 1 rfl) ?_
      refine va_get (D := D) (ci := 4) (v := .ref xh) (C := RX4) (T := TX4) (N := 6) hx hb hts iX4_putPanel_X4 hown hK.1 hW.1 0 rfl rfl 3 (by decide) (hts _ mX4_putPanel_3) (fun _ h9 => h9) rfl dX4_putPanel_32 ?_
      refine lv_aload_n hx hb dX4_putPanel_35 rfl (lv_at hl 1 rfl) ?_
      refine va_get (D := D) (ci := 4) (v := .ref (axb 0)) (C := RX4) (T := TX4) (N := 6) hx hb hts iX4_putPanel_X4 hown hK.1 hW.1 0 rfl rfl 0 (by decide) (hts _ mX4_putPanel_2) (fun _ h9 => h9) rfl dX4_putPanel_36 ?_
      refine z_callV (r := (RX2, TX2, 2)) (As := [.ref (axb 0)]) (rest := []) hS hK hA hW hl.1 [2, 3, 4, 5, 6, 7, 1] [0, 8] (kX2_remember l D cI cB xh xa hn u0 u1 u2 u3 d0 d1 d2 d3 axb b hs ((pC, pO, ev)) hHB hR) (cwV 1 hts gX4_putPanel_X2_remember rfl rfl rfl (by decide +kernel) ⟨Nat.le_of_ble_eq_true rfl, Nat.le_of_ble_eq_true rfl⟩) (rfl : vwCl[2]? = some (RX2, TX2, 2)) (q0 := 9) rfl dX4_putPanel_39 rfl rfl rfl rfl rfl (Nat.le_of_ble_eq_true rfl) ⟨Nat.le_of_ble_eq_true rfl, Nat.le_of_ble_eq_true rfl⟩ (fun v9 w9 H locs hq hW => ?_)
      obtain ⟨hnz_39, g0_39, g1_39, g2_39, g3_39, e0_39, e1_39, e2_39, e3_39, rfl, rfl, hh_39⟩ := hq
      have hW : zW D A s.heap [[(xh, .inr (2, [.ref xa, .int (zI hnz_39)]))], [zRefs cB xa (some (g0_39 0)) (some (g1_39 0)) (some (g2_39 0)) (some (g3_39 0))], zBoard cI g0_39 e0_39, zBoard cI g1_39 e1_39, zBoard cI g2_39 e2_39, zBoard cI g3_39 e3_39, zBoard cI axb b, [(x, .inr (4, [.ref (axb 0), .ref (axn 0), .int (zI xk), .ref xh, .ref (axt 0), .ref (axc 0)]))], zText cI axt tz_4] H locs := hW
      have hW : zW D A s.heap [[(x, .inr (4, [.ref (axb 0), .ref (axn 0), .int (zI xk), .ref xh, .ref (axt 0), .ref (axc 0)]))], zBoard cI axb b, [(xh, .inr (2, [.ref xa, .int (zI hnz_39)]))], [zRefs cB xa (some (g0_39 0)) (some (g1_39 0)) (some (g2_39 0)) (some (g3_39 0))], zBoard cI g0_39 e0_39, zBoard cI g1_39 e1_39, zBoard cI g2_39 e2_39, zBoard cI g3_39 e3_39, zText cI axt tz_4] H locs := hW.pick [7, 6, 0, 1, 2, 3, 4, 5, 8] rfl rfl
      refine W.eq (g2 := F0 m 42 ls []) rfl ?_
      refine lv_aload_n hx hb dX4_putPanel_42 rfl (lv_at hl 1 rfl) ?_
      refine va_get (D := D) (ci := 4) (v := .ref (axb 0)) (C := RX4) (T := TX4) (N := 6) hx hb hts iX4_putPanel_X4 hown hK.1 hW.1 0 rfl rfl 0 (by decide) (hts _ mX4_putPanel_2) (fun _ h9 => h9) rfl dX4_putPanel_43 ?_
      refine lv_aload_n hx hb dX4_putPanel_46 rfl (lv_at hl 1 rfl) ?_
      refine va_get (D := D) (ci := 4) (v := .ref (axt 0)) (C := RX4) (T := TX4) (N := 6) hx hb hts iX4_putPanel_X4 hown hK.1 hW.1 0 rfl rfl 4 (by decide) (hts _ mX4_putPanel_1) (fun _ h9 => h9) rfl dX4_putPanel_47 ?_
      have htx := txH_of hpm hh_4.2.1
      have hl10 : bd_sz b < 10 := by omega
      have hev : ev < 99 := by have := hR.2.2.1; omega
      have hok := prs_ok (k := ev) (by omega : (prs (sgn t) (tx_len t)).1 = -1) (by have := hR.2.2.1; have := hR.1.2.1; omega)
      obtain ⟨kf, hk1, hk2⟩ := RB_free hR (by omega)
      have hmA := RB_add hR hk1 hk2.1 hev (by omega) hTz htx hok
      refine z_callV (r := (RX0, TX0, 9)) (As := [.ref (axt 0)]) (rest := []) hS hK hA hW hl.1 [1, 8] [0, 2, 3, 4, 5, 6, 7] (kX0_addPanel l D cI cB axb b axt tz_4 kf hR.1 hk1 hk2 (by (rw [htx.1]; exact hok.2.1)) hmA.1 hl10 hmA.2.1) (cwV 1 hts gX4_putPanel_X0_addPanel rfl rfl rfl (by decide +kernel) ⟨Nat.le_of_ble_eq_true rfl, Nat.le_of_ble_eq_true rfl⟩) (rfl : vwCl[0]? = some (RX0, TX0, 9)) (q0 := 1) rfl dX4_putPanel_50 rfl rfl rfl rfl rfl (Nat.le_of_ble_eq_true rfl) ⟨Nat.le_of_ble_eq_true rfl, Nat.le_of_ble_eq_true rfl⟩ (fun v9 w9 H locs hq hW => ?_)
      obtain ⟨rr_50, rfl, rfl, hh_50⟩ := hq
      subst rr_50
      have hW : zW D A s.heap [zBoard cI axb (putInB (drawB (bd_sf_ (bd_num_ b (zU (bd_num b) kf (bd_sf b))) (bd_sf b + 1)) kf tz_4) kf (tx_scn tz_4) (nAhead (bd_scn_ (drawB (bd_sf_ (bd_num_ b (zU (bd_num b) kf (bd_sf b))) (bd_sf b + 1)) kf tz_4) (zU (bd_scn b) kf (tx_scn tz_4))) (tx_scn tz_4) + nIn (drawB (bd_sf_ (bd_num_ b (zU (bd_num b) kf (bd_sf b))) (bd_sf b + 1)) kf tz_4) (tx_scn tz_4))), zText cI axt tz_4, [(x, .inr (4, [.ref (axb 0), .ref (axn 0), .int (zI xk), .ref xh, .ref (axt 0), .ref (axc 0)]))], [(xh, .inr (2, [.ref xa, .int (zI hnz_39)]))], [zRefs cB xa (some (g0_39 0)) (some (g1_39 0)) (some (g2_39 0)) (some (g3_39 0))], zBoard cI g0_39 e0_39, zBoard cI g1_39 e1_39, zBoard cI g2_39 e2_39, zBoard cI g3_39 e3_39] H locs := hW
      have hW : zW D A s.heap [[(x, .inr (4, [.ref (axb 0), .ref (axn 0), .int (zI xk), .ref xh, .ref (axt 0), .ref (axc 0)]))], zBoard cI axb (putInB (drawB (bd_sf_ (bd_num_ b (zU (bd_num b) kf (bd_sf b))) (bd_sf b + 1)) kf tz_4) kf (tx_scn tz_4) (nAhead (bd_scn_ (drawB (bd_sf_ (bd_num_ b (zU (bd_num b) kf (bd_sf b))) (bd_sf b + 1)) kf tz_4) (zU (bd_scn b) kf (tx_scn tz_4))) (tx_scn tz_4) + nIn (drawB (bd_sf_ (bd_num_ b (zU (bd_num b) kf (bd_sf b))) (bd_sf b + 1)) kf tz_4) (tx_scn tz_4))), [(xh, .inr (2, [.ref xa, .int (zI hnz_39)]))], [zRefs cB xa (some (g0_39 0)) (some (g1_39 0)) (some (g2_39 0)) (some (g3_39 0))], zBoard cI g0_39 e0_39, zBoard cI g1_39 e1_39, zBoard cI g2_39 e2_39, zBoard cI g3_39 e3_39, zText cI axt tz_4] H locs := hW.pick [2, 0, 3, 4, 5, 6, 7, 8, 1] rfl rfl
      refine W.eq (g2 := F0 m 53 ls [.int (zI (bd_sf b))]) rfl ?_
      exact z_iret (v := bd_sf b) hx hb hr hlk hW dX4_putPanel_53 (by
          exact ⟨bd_sf b, (putInB (drawB (bd_sf_ (bd_num_ b (zU (bd_num b) kf (bd_sf b))) (bd_sf b + 1)) kf tz_4) kf (tx_scn tz_4) (nAhead (bd_scn_ (drawB (bd_sf_ (bd_num_ b (zU (bd_num b) kf (bd_sf b))) (bd_sf b + 1)) kf tz_4) (zU (bd_scn b) kf (tx_scn tz_4))) (tx_scn tz_4) + nIn (drawB (bd_sf_ (bd_num_ b (zU (bd_num b) kf (bd_sf b))) (bd_sf b + 1)) kf tz_4) (tx_scn tz_4))), hnz_39, g0_39, g1_39, g2_39, g3_39, e0_39, e1_39, e2_39, e3_39, tz_4, rfl, rfl, by exact ⟨_, _, Or.inr ⟨by omega, Or.inr ⟨by have := hR.2.2.1; omega, by have := hR.2.2.1; omega, rfl, rfl⟩⟩, hmA.2.2, hh_39, hh_4.2.2.1, hTz⟩⟩)
    · refine lv_bipush (v := zI (-3)) hx hb dX4_putPanel_28 (by decide +kernel) ?_
      exact z_iret (v := (-3)) hx hb hr hlk hW dX4_putPanel_30 (by
          exact ⟨(-3), b, hn, u0, u1, u2, u3, d0, d1, d2, d3, tz_4, rfl, rfl, by exact ⟨_, _, Or.inr ⟨by omega, Or.inl ⟨by have := hR.2.2.1; omega, rfl, rfl, rfl⟩⟩, hR, hHB, hh_4.2.2.1, hTz⟩⟩)
  · refine lv_bipush (v := zI (-100)) hx hb dX4_putPanel_13 (by decide +kernel) ?_
    refine lv_iload_n hx hb dX4_putPanel_15 rfl (lv_at hl 0 rfl) ?_
    refine z_isub hx hb dX4_putPanel_16 ?_
    exact z_iret (v := ((-100)) - rr_4) hx hb hr hlk hW dX4_putPanel_17 (by
        exact ⟨((-100)) - rr_4, b, hn, u0, u1, u2, u3, d0, d1, d2, d3, tz_4, rfl, rfl, by exact ⟨_, _, Or.inl ⟨by omega, by omega, rfl, rfl⟩, hR, hHB, hh_4.2.2.1, hTz⟩⟩)

abbrev qX4_redraw (cI : ClassId) (x : Nat) (axb axn : Nat → Nat) (xk : Int) (xh : Nat) (axt axc : Nat → Nat) (b : zBS) (xa : Nat) (hn : Int) (u0 : Nat → Nat) (u1 : Nat → Nat) (u2 : Nat → Nat) (u3 : Nat → Nat) (d0 : zBS) (d1 : zBS) (d2 : zBS) (d3 : zBS) (t : zTS) (y1 : Int) (pC : List zPn) (pO : List Int) (ev : Int) (hs : List zSt) (cB : ClassId) : Option Value → List va_W → Prop := fun vq wq => ∃ (r : Int) (bz : zBS) (hnz : Int) (v0 : Nat → Nat) (v1 : Nat → Nat) (v2 : Nat → Nat) (v3 : Nat → Nat) (e0 : zBS) (e1 : zBS) (e2 : zBS) (e3 : zBS) (tz : zTS), vq = some (.int (zI r)) ∧ wq = [[(x, .inr (4, [.ref (axb 0), .ref (axn 0), .int (zI xk), .ref xh, .ref (axt 0), .ref (axc 0)]))], zBoard cI axb bz, [(xh, .inr (2, [.ref xa, .int (zI hnz)]))], [zRefs cB xa (some (v0 0)) (some (v1 0)) (some (v2 0)) (some (v3 0))], zBoard cI v0 e0, zBoard cI v1 e1, zBoard cI v2 e2, zBoard cI v3 e3, zText cI axt tz] ∧ (∃ (S2 : zSt) (hs2 : List zSt), (redR (prs (sgn t) (tx_len t)) pC pO ev hs y1 r S2 hs2) ∧ RBS bz S2 ∧ HB hnz e0 e1 e2 e3 hs2 ∧ (tx_sig tz = tx_sig t ∧ tx_len tz = tx_len t) ∧ TXOK tz)
set_option maxRecDepth 20000 in
theorem iX4_redraw_X4 : ∀ w ∈ u_ws RX4 TX4 6, w ∈ wsX4_redraw := by decide +kernel
set_option maxRecDepth 20000 in
theorem mX4_redraw_1 : (.fieldLink RX4 12 "StoryPanels" "board" "LStoryPanels$Board;" : Cond) ∈ wsX4_redraw := by decide +kernel
set_option maxRecDepth 20000 in
theorem mX4_redraw_2 : (.fieldLink RX4 33 "StoryPanels" "text" "LStoryPanels$PanelText;" : Cond) ∈ wsX4_redraw := by decide +kernel
set_option maxRecDepth 20000 in
theorem mX4_redraw_3 : (.fieldLink RX4 26 "StoryPanels" "history" "LStoryPanels$History;" : Cond) ∈ wsX4_redraw := by decide +kernel
set_option maxHeartbeats 4000000 in
set_option maxRecDepth 100000 in
theorem kX4_redraw (l : Launch) (D : va_G) (cI cB : ClassId) (x : Nat) (axb axn : Nat → Nat) (xk : Int) (xh : Nat) (axt axc : Nat → Nat) (b : zBS) (xa : Nat) (hn : Int) (u0 : Nat → Nat) (u1 : Nat → Nat) (u2 : Nat → Nat) (u3 : Nat → Nat) (d0 : zBS) (d1 : zBS) (d2 : zBS) (d3 : zBS) (t : zTS) (y1 : Int) (pC : List zPn) (pO : List Int) (ev : Int) (hs : List zSt) (hR : RB b pC pO ev) (hHB : HB hn d0 d1 d2 d3 hs) (hTk : TXOK t) (hy1 : R32 y1) : zMet l yX4_redraw wsX4_redraw 5 111 0 0 D cI cB [.ref x, .int (zI y1)] [[(x, .inr (4, [.ref (axb 0), .ref (axn 0), .int (zI xk), .ref xh, .ref (axt 0), .ref (axc 0)]))], zBoard cI axb b, [(xh, .inr (2, [.ref xa, .int (zI hn)]))], [zRefs cB xa (some (u0 0)) (some (u1 0)) (some (u2 0)) (some (u3 0))], zBoard cI u0 d0, zBoard cI u1 d1, zBoard cI u2 d2, zBoard cI u3 d3, zText cI axt t] (qX4_redraw cI x axb axn xk xh axt axc b xa hn u0 u1 u2 u3 d0 d1 d2 d3 t y1 pC pO ev hs cB) := by
  refine zMet.of (cd := cX4_redraw) (maxL := 4) (ret := (some .int)) (by decide) rfl (Nat.le_of_ble_eq_true rfl) ?_
  intro p e s m args below meth c A ls hS hr hlk hnm hK hA hW hl
  have hS : CallFix p m c cX4_redraw 4 s args wsX4_redraw RX4 := hS
  have hx := hS.1
  have hb := hS.2.1
  have hown := hS.2.2.2.1
  have hts := hS.2.2.2.2
  have hl : lv_has ls 4 [(0, .ref x), (1, .int (zI y1))] := hl
  have hRz := hR.1.1
  have hRl := hR.2.1
  have hb1 := hHB.1
  have hb2 := hHB.2.1
  refine lv_aload_n hx hb dX4_redraw_0 rfl (lv_at hl 0 rfl) ?_
  refine va_get (D := D) (ci := 4) (v := .ref (axb 0)) (C := RX4) (T := TX4) (N := 6) hx hb hts iX4_redraw_X4 hown hK.1 hW.1 0 rfl rfl 0 (by decide) (hts _ mX4_redraw_1) (fun _ h9 => h9) rfl dX4_redraw_1 ?_
  refine lv_iload_n hx hb dX4_redraw_4 rfl (lv_at hl 1 rfl) ?_
  refine z_callV (r := (RX0, TX0, 9)) (As := [.int (zI y1)]) (rest := []) hS hK hA hW hl.1 [1] [0, 2, 3, 4, 5, 6, 7, 8] (kX0_slotOf l D cI cB axb b y1 hR.1 (by omega)) (cwV 1 hts gX4_redraw_X0_slotOf rfl rfl rfl (by decide +kernel) ⟨Nat.le_of_ble_eq_true rfl, Nat.le_of_ble_eq_true rfl⟩) (rfl : vwCl[0]? = some (RX0, TX0, 9)) (q0 := 1) rfl dX4_redraw_5 rfl rfl rfl rfl rfl (Nat.le_of_ble_eq_true rfl) ⟨Nat.le_of_ble_eq_true rfl, Nat.le_of_ble_eq_true rfl⟩ (fun v9 w9 H locs hq hW => ?_)
  obtain ⟨rr_5, rfl, rfl, hh_5⟩ := hq
  have hW : zW D A s.heap [zBoard cI axb b, [(x, .inr (4, [.ref (axb 0), .ref (axn 0), .int (zI xk), .ref xh, .ref (axt 0), .ref (axc 0)]))], [(xh, .inr (2, [.ref xa, .int (zI hn)]))], [zRefs cB xa (some (u0 0)) (some (u1 0)) (some (u2 0)) (some (u3 0))], zBoard cI u0 d0, zBoard cI u1 d1, zBoard cI u2 d2, zBoard cI u3 d3, zText cI axt t] H locs := hW
  have hW : zW D A s.heap [[(x, .inr (4, [.ref (axb 0), .ref (axn 0), .int (zI xk), .ref xh, .ref (axt 0), .ref (axc 0)]))], zBoard cI axb b, [(xh, .inr (2, [.ref xa, .int (zI hn)]))], [zRefs cB xa (some (u0 0)) (some (u1 0)) (some (u2 0)) (some (u3 0))], zBoard cI u0 d0, zBoard cI u1 d1, zBoard cI u2 d2, zBoard cI u3 d3, zText cI axt t] H locs := hW.pick [1, 0, 2, 3, 4, 5, 6, 7, 8] rfl rfl
  refine W.eq (g2 := F0 m 8 ls [.int (zI rr_5)]) rfl ?_
  have hfd := RB_find hR hh_5
  have hfr : -1 ≤ rr_5 ∧ rr_5 < 10 := by rcases hfd with hq | hq <;> omega
  refine lv_istore_n (lv' := [(2, .int (zI rr_5)), (0, .ref x), (1, .int (zI y1))]) hx hb dX4_redraw_8 rfl hl (by decide) rfl (fun ls hl => ?_)
  refine lv_iload_n hx hb dX4_redraw_9 rfl (lv_at hl 0 rfl) ?_
  refine lv_iconst (v := zI (-1)) hx hb dX4_redraw_10 rfl ?_
  refine z_icmp_ne (tgt := 16) hx hb dX4_redraw_11 (by decide) (by omega) (fun cc_11 => ?_) (fun cc_11 => ?_)
  · obtain ⟨hf1, jq, pq, hjp, hjl⟩ := hfd.resolve_left (fun hq => cc_11 hq.1)
    have hjs := hR.2.2.2.1 jq pq hjp.1
    rw [← hjl] at hjs
    have hjt := RB_at hR hjp.1
    rw [← hjl] at hjt
    have hjo := RB_pn hR pq (List.mem_of_getElem? hjp.1)
    have hjb := (List.getElem?_eq_some_iff.mp hjp.1).1
    have hcl := hjo.2.2.2.1
    have hjd := hjo.2.2.1
    have hjk := hjo.2.1
    refine lv_aload_n hx hb dX4_redraw_16 rfl (lv_at hl 1 rfl) ?_
    refine va_get (D := D) (ci := 4) (v := .ref (axt 0)) (C := RX4) (T := TX4) (N := 6) hx hb hts iX4_redraw_X4 hown hK.1 hW.1 0 rfl rfl 4 (by decide) (hts _ mX4_redraw_2) (fun _ h9 => h9) rfl dX4_redraw_17 ?_
    refine z_callV (r := (RX3, TX3, 6)) (As := []) (rest := []) hS hK hA hW hl.1 [8] [0, 1, 2, 3, 4, 5, 6, 7] (kX3_findFault l D cI cB axt t hTk) (cwV 0 hts gX4_redraw_X3_findFault rfl rfl rfl (by decide +kernel) ⟨Nat.le_of_ble_eq_true rfl, Nat.le_of_ble_eq_true rfl⟩) (rfl : vwCl[3]? = some (RX3, TX3, 6)) (q0 := 43) rfl dX4_redraw_20 rfl rfl rfl rfl rfl (Nat.le_of_ble_eq_true rfl) ⟨Nat.le_of_ble_eq_true rfl, Nat.le_of_ble_eq_true rfl⟩ (fun v9 w9 H locs hq hW => ?_)
    obtain ⟨rr_20, tz_20, rfl, rfl, hh_20⟩ := hq
    have hW : zW D A s.heap [zText cI axt tz_20, [(x, .inr (4, [.ref (axb 0), .ref (axn 0), .int (zI xk), .ref xh, .ref (axt 0), .ref (axc 0)]))], zBoard cI axb b, [(xh, .inr (2, [.ref xa, .int (zI hn)]))], [zRefs cB xa (some (u0 0)) (some (u1 0)) (some (u2 0)) (some (u3 0))], zBoard cI u0 d0, zBoard cI u1 d1, zBoard cI u2 d2, zBoard cI u3 d3] H locs := hW
    have hW : zW D A s.heap [[(x, .inr (4, [.ref (axb 0), .ref (axn 0), .int (zI xk), .ref xh, .ref (axt 0), .ref (axc 0)]))], zBoard cI axb b, [(xh, .inr (2, [.ref xa, .int (zI hn)]))], [zRefs cB xa (some (u0 0)) (some (u1 0)) (some (u2 0)) (some (u3 0))], zBoard cI u0 d0, zBoard cI u1 d1, zBoard cI u2 d2, zBoard cI u3 d3, zText cI axt tz_20] H locs := hW.pick [1, 2, 3, 4, 5, 6, 7, 8, 0] rfl rfl
    refine W.eq (g2 := F0 m 23 ls [.int (zI rr_20)]) rfl ?_
    have hTz := hh_20.2.2.2
    have hpg := prs_rg (s := sgn t) (n := tx_len t) hTk.1.2
    have hpe := hh_20.1
    refine lv_istore_n (lv' := [(3, .int (zI rr_20)), (2, .int (zI rr_5)), (0, .ref x), (1, .int (zI y1))]) hx hb dX4_redraw_23 rfl hl (by decide) rfl (fun ls hl => ?_)
    refine lv_iload_n hx hb dX4_redraw_24 rfl (lv_at hl 0 rfl) ?_
    refine lv_iconst (v := zI (-1)) hx hb dX4_redraw_25 rfl ?_
    refine z_icmp_eq (tgt := 34) hx hb dX4_redraw_26 (by decide) (by omega) (fun cc_26 => ?_) (fun cc_26 => ?_)
    · refine lv_aload_n hx hb dX4_redraw_34 rfl (lv_at hl 2 rfl) ?_
      refine va_get (D := D) (ci := 4) (v := .ref xh) (C := RX4) (T := TX4) (N := 6) hx hb hts iX4_redraw_X4 hown hK.1 hW.1 0 rfl rfl 3 (by decide) (hts _ mX4_redraw_3) (fun _ h9 => h9) rfl dX4_redraw_35 ?_
      refine lv_aload_n hx hb dX4_redraw_38 rfl (lv_at hl 2 rfl) ?_
      refine va_get (D := D) (ci := 4) (v := .ref (axb 0)) (C := RX4) (T := TX4) (N := 6) hx hb hts iX4_redraw_X4 hown hK.1 hW.1 0 rfl rfl 0 (by decide) (hts _ mX4_redraw_1) (fun _ h9 => h9) rfl dX4_redraw_39 ?_
      refine z_callV (r := (RX2, TX2, 2)) (As := [.ref (axb 0)]) (rest := []) hS hK hA hW hl.1 [2, 3, 4, 5, 6, 7, 1] [0, 8] (kX2_remember l D cI cB xh xa hn u0 u1 u2 u3 d0 d1 d2 d3 axb b hs ((pC, pO, ev)) hHB hR) (cwV 1 hts gX4_redraw_X2_remember rfl rfl rfl (by decide +kernel) ⟨Nat.le_of_ble_eq_true rfl, Nat.le_of_ble_eq_true rfl⟩) (rfl : vwCl[2]? = some (RX2, TX2, 2)) (q0 := 9) rfl dX4_redraw_42 rfl rfl rfl rfl rfl (Nat.le_of_ble_eq_true rfl) ⟨Nat.le_of_ble_eq_true rfl, Nat.le_of_ble_eq_true rfl⟩ (fun v9 w9 H locs hq hW => ?_)
      obtain ⟨hnz_42, g0_42, g1_42, g2_42, g3_42, e0_42, e1_42, e2_42, e3_42, rfl, rfl, hh_42⟩ := hq
      have hW : zW D A s.heap [[(xh, .inr (2, [.ref xa, .int (zI hnz_42)]))], [zRefs cB xa (some (g0_42 0)) (some (g1_42 0)) (some (g2_42 0)) (some (g3_42 0))], zBoard cI g0_42 e0_42, zBoard cI g1_42 e1_42, zBoard cI g2_42 e2_42, zBoard cI g3_42 e3_42, zBoard cI axb b, [(x, .inr (4, [.ref (axb 0), .ref (axn 0), .int (zI xk), .ref xh, .ref (axt 0), .ref (axc 0)]))], zText cI axt tz_20] H locs := hW
      have hW : zW D A s.heap [[(x, .inr (4, [.ref (axb 0), .ref (axn 0), .int (zI xk), .ref xh, .ref (axt 0), .ref (axc 0)]))], zBoard cI axb b, [(xh, .inr (2, [.ref xa, .int (zI hnz_42)]))], [zRefs cB xa (some (g0_42 0)) (some (g1_42 0)) (some (g2_42 0)) (some (g3_42 0))], zBoard cI g0_42 e0_42, zBoard cI g1_42 e1_42, zBoard cI g2_42 e2_42, zBoard cI g3_42 e3_42, zText cI axt tz_20] H locs := hW.pick [7, 6, 0, 1, 2, 3, 4, 5, 8] rfl rfl
      refine W.eq (g2 := F0 m 45 ls []) rfl ?_
      refine lv_aload_n hx hb dX4_redraw_45 rfl (lv_at hl 2 rfl) ?_
      refine va_get (D := D) (ci := 4) (v := .ref (axb 0)) (C := RX4) (T := TX4) (N := 6) hx hb hts iX4_redraw_X4 hown hK.1 hW.1 0 rfl rfl 0 (by decide) (hts _ mX4_redraw_1) (fun _ h9 => h9) rfl dX4_redraw_46 ?_
      refine lv_iload_n hx hb dX4_redraw_49 rfl (lv_at hl 1 rfl) ?_
      refine lv_aload_n hx hb dX4_redraw_50 rfl (lv_at hl 2 rfl) ?_
      refine va_get (D := D) (ci := 4) (v := .ref (axt 0)) (C := RX4) (T := TX4) (N := 6) hx hb hts iX4_redraw_X4 hown hK.1 hW.1 0 rfl rfl 4 (by decide) (hts _ mX4_redraw_2) (fun _ h9 => h9) rfl dX4_redraw_51 ?_
      have htx := txH_of cc_26 hh_20.2.1
      have hok := prs_ok (k := pq.1) (by omega : (prs (sgn t) (tx_len t)).1 = -1) hjo.1
      have hmA := RB_redraw hR hjp.1 hTz htx hok
      rw [← hjl] at hmA
      refine z_callV (r := (RX0, TX0, 9)) (As := [.int (zI rr_5), .ref (axt 0)]) (rest := []) hS hK hA hW hl.1 [1, 8] [0, 2, 3, 4, 5, 6, 7] (kX0_drawByText l D cI cB axb b axt tz_20 rr_5 ((jq : Int)) hR.1 (by omega) hjt (by (rw [htx.1]; exact hok.2.1)) hmA.1 hmA.2.1 hmA.2.2.1) (cwV 2 hts gX4_redraw_X0_drawByText rfl rfl rfl (by decide +kernel) ⟨Nat.le_of_ble_eq_true rfl, Nat.le_of_ble_eq_true rfl⟩) (rfl : vwCl[0]? = some (RX0, TX0, 9)) (q0 := 1) rfl dX4_redraw_54 rfl rfl rfl rfl rfl (Nat.le_of_ble_eq_true rfl) ⟨Nat.le_of_ble_eq_true rfl, Nat.le_of_ble_eq_true rfl⟩ (fun v9 w9 H locs hq hW => ?_)
      obtain ⟨rfl, rfl, hh_54⟩ := hq
      have hW : zW D A s.heap [zBoard cI axb ((if bd_scn b rr_5 = tx_scn tz_20 then drawB b rr_5 tz_20 else putInB (takeOutB (drawB b rr_5 tz_20) ((jq : Int))) rr_5 (tx_scn tz_20) (nAhead (bd_scn_ (takeOutB (drawB b rr_5 tz_20) ((jq : Int))) (zU (bd_scn b) rr_5 (tx_scn tz_20))) (tx_scn tz_20) + nIn (takeOutB (drawB b rr_5 tz_20) ((jq : Int))) (tx_scn tz_20)))), zText cI axt tz_20, [(x, .inr (4, [.ref (axb 0), .ref (axn 0), .int (zI xk), .ref xh, .ref (axt 0), .ref (axc 0)]))], [(xh, .inr (2, [.ref xa, .int (zI hnz_42)]))], [zRefs cB xa (some (g0_42 0)) (some (g1_42 0)) (some (g2_42 0)) (some (g3_42 0))], zBoard cI g0_42 e0_42, zBoard cI g1_42 e1_42, zBoard cI g2_42 e2_42, zBoard cI g3_42 e3_42] H locs := hW
      have hW : zW D A s.heap [[(x, .inr (4, [.ref (axb 0), .ref (axn 0), .int (zI xk), .ref xh, .ref (axt 0), .ref (axc 0)]))], zBoard cI axb ((if bd_scn b rr_5 = tx_scn tz_20 then drawB b rr_5 tz_20 else putInB (takeOutB (drawB b rr_5 tz_20) ((jq : Int))) rr_5 (tx_scn tz_20) (nAhead (bd_scn_ (takeOutB (drawB b rr_5 tz_20) ((jq : Int))) (zU (bd_scn b) rr_5 (tx_scn tz_20))) (tx_scn tz_20) + nIn (takeOutB (drawB b rr_5 tz_20) ((jq : Int))) (tx_scn tz_20)))), [(xh, .inr (2, [.ref xa, .int (zI hnz_42)]))], [zRefs cB xa (some (g0_42 0)) (some (g1_42 0)) (some (g2_42 0)) (some (g3_42 0))], zBoard cI g0_42 e0_42, zBoard cI g1_42 e1_42, zBoard cI g2_42 e2_42, zBoard cI g3_42 e3_42, zText cI axt tz_20] H locs := hW.pick [2, 0, 3, 4, 5, 6, 7, 8, 1] rfl rfl
      refine W.eq (g2 := F0 m 57 ls []) rfl ?_
      refine lv_aload_n hx hb dX4_redraw_57 rfl (lv_at hl 2 rfl) ?_
      refine va_get (D := D) (ci := 4) (v := .ref (axb 0)) (C := RX4) (T := TX4) (N := 6) hx hb hts iX4_redraw_X4 hown hK.1 hW.1 0 rfl rfl 0 (by decide) (hts _ mX4_redraw_1) (fun _ h9 => h9) rfl dX4_redraw_58 ?_
      refine lv_iload_n hx hb dX4_redraw_61 rfl (lv_at hl 1 rfl) ?_
      refine z_callV (r := (RX0, TX0, 9)) (As := [.int (zI rr_5)]) (rest := []) hS hK hA hW hl.1 [1] [0, 2, 3, 4, 5, 6, 7, 8] (kX0_eventsIn l D cI cB axb (((if bd_scn b rr_5 = tx_scn tz_20 then drawB b rr_5 tz_20 else putInB (takeOutB (drawB b rr_5 tz_20) ((jq : Int))) rr_5 (tx_scn tz_20) (nAhead (bd_scn_ (takeOutB (drawB b rr_5 tz_20) ((jq : Int))) (zU (bd_scn b) rr_5 (tx_scn tz_20))) (tx_scn tz_20) + nIn (takeOutB (drawB b rr_5 tz_20) ((jq : Int))) (tx_scn tz_20))))) rr_5 hmA.2.2.2.1 (by omega)) (cwV 1 hts gX4_redraw_X0_eventsIn rfl rfl rfl (by decide +kernel) ⟨Nat.le_of_ble_eq_true rfl, Nat.le_of_ble_eq_true rfl⟩) (rfl : vwCl[0]? = some (RX0, TX0, 9)) (q0 := 1) rfl dX4_redraw_62 rfl rfl rfl rfl rfl (Nat.le_of_ble_eq_true rfl) ⟨Nat.le_of_ble_eq_true rfl, Nat.le_of_ble_eq_true rfl⟩ (fun v9 w9 H locs hq hW => ?_)
      obtain ⟨rr_62, rfl, rfl, hh_62⟩ := hq
      subst rr_62
      have hW : zW D A s.heap [zBoard cI axb ((if bd_scn b rr_5 = tx_scn tz_20 then drawB b rr_5 tz_20 else putInB (takeOutB (drawB b rr_5 tz_20) ((jq : Int))) rr_5 (tx_scn tz_20) (nAhead (bd_scn_ (takeOutB (drawB b rr_5 tz_20) ((jq : Int))) (zU (bd_scn b) rr_5 (tx_scn tz_20))) (tx_scn tz_20) + nIn (takeOutB (drawB b rr_5 tz_20) ((jq : Int))) (tx_scn tz_20)))), [(x, .inr (4, [.ref (axb 0), .ref (axn 0), .int (zI xk), .ref xh, .ref (axt 0), .ref (axc 0)]))], [(xh, .inr (2, [.ref xa, .int (zI hnz_42)]))], [zRefs cB xa (some (g0_42 0)) (some (g1_42 0)) (some (g2_42 0)) (some (g3_42 0))], zBoard cI g0_42 e0_42, zBoard cI g1_42 e1_42, zBoard cI g2_42 e2_42, zBoard cI g3_42 e3_42, zText cI axt tz_20] H locs := hW
      have hW : zW D A s.heap [[(x, .inr (4, [.ref (axb 0), .ref (axn 0), .int (zI xk), .ref xh, .ref (axt 0), .ref (axc 0)]))], zBoard cI axb ((if bd_scn b rr_5 = tx_scn tz_20 then drawB b rr_5 tz_20 else putInB (takeOutB (drawB b rr_5 tz_20) ((jq : Int))) rr_5 (tx_scn tz_20) (nAhead (bd_scn_ (takeOutB (drawB b rr_5 tz_20) ((jq : Int))) (zU (bd_scn b) rr_5 (tx_scn tz_20))) (tx_scn tz_20) + nIn (takeOutB (drawB b rr_5 tz_20) ((jq : Int))) (tx_scn tz_20)))), [(xh, .inr (2, [.ref xa, .int (zI hnz_42)]))], [zRefs cB xa (some (g0_42 0)) (some (g1_42 0)) (some (g2_42 0)) (some (g3_42 0))], zBoard cI g0_42 e0_42, zBoard cI g1_42 e1_42, zBoard cI g2_42 e2_42, zBoard cI g3_42 e3_42, zText cI axt tz_20] H locs := hW.pick [1, 0, 2, 3, 4, 5, 6, 7, 8] rfl rfl
      refine W.eq (g2 := F0 m 65 ls [.int (zI (bd_cnt (((if bd_scn b rr_5 = tx_scn tz_20 then drawB b rr_5 tz_20 else putInB (takeOutB (drawB b rr_5 tz_20) ((jq : Int))) rr_5 (tx_scn tz_20) (nAhead (bd_scn_ (takeOutB (drawB b rr_5 tz_20) ((jq : Int))) (zU (bd_scn b) rr_5 (tx_scn tz_20))) (tx_scn tz_20) + nIn (takeOutB (drawB b rr_5 tz_20) ((jq : Int))) (tx_scn tz_20))))) rr_5))]) rfl ?_
      rw [show (bd_cnt (((if bd_scn b rr_5 = tx_scn tz_20 then drawB b rr_5 tz_20 else putInB (takeOutB (drawB b rr_5 tz_20) ((jq : Int))) rr_5 (tx_scn tz_20) (nAhead (bd_scn_ (takeOutB (drawB b rr_5 tz_20) ((jq : Int))) (zU (bd_scn b) rr_5 (tx_scn tz_20))) (tx_scn tz_20) + nIn (takeOutB (drawB b rr_5 tz_20) ((jq : Int))) (tx_scn tz_20))))) rr_5) = (((prs (sgn t) (tx_len t)).2.2.2.length : Int)) by split <;> exact (zU_s _ _ _).trans htx.2.2.1]
      exact z_iret (v := ((prs (sgn t) (tx_len t)).2.2.2.length : Int)) hx hb hr hlk hW dX4_redraw_65 (by
          exact ⟨((prs (sgn t) (tx_len t)).2.2.2.length : Int), ((if bd_scn b rr_5 = tx_scn tz_20 then drawB b rr_5 tz_20 else putInB (takeOutB (drawB b rr_5 tz_20) ((jq : Int))) rr_5 (tx_scn tz_20) (nAhead (bd_scn_ (takeOutB (drawB b rr_5 tz_20) ((jq : Int))) (zU (bd_scn b) rr_5 (tx_scn tz_20))) (tx_scn tz_20) + nIn (takeOutB (drawB b rr_5 tz_20) ((jq : Int))) (tx_scn tz_20)))), hnz_42, g0_42, g1_42, g2_42, g3_42, e0_42, e1_42, e2_42, e3_42, tz_20, rfl, rfl, by exact ⟨_, _, Or.inr ⟨jq, pq, hjp, Or.inr ⟨by omega, rfl, rfl, rfl⟩⟩, hmA.2.2.2, hh_42, hh_20.2.2.1, hTz⟩⟩)
    · refine lv_bipush (v := zI (-100)) hx hb dX4_redraw_29 (by decide +kernel) ?_
      refine lv_iload_n hx hb dX4_redraw_31 rfl (lv_at hl 0 rfl) ?_
      refine z_isub hx hb dX4_redraw_32 ?_
      exact z_iret (v := ((-100)) - rr_20) hx hb hr hlk hW dX4_redraw_33 (by
          exact ⟨((-100)) - rr_20, b, hn, u0, u1, u2, u3, d0, d1, d2, d3, tz_20, rfl, rfl, by exact ⟨_, _, Or.inr ⟨jq, pq, hjp, Or.inl ⟨by omega, by omega, rfl, rfl⟩⟩, hR, hHB, hh_20.2.2.1, hTz⟩⟩)
  · refine lv_iconst (v := zI (-1)) hx hb dX4_redraw_14 rfl ?_
    exact z_iret (v := (-1)) hx hb hr hlk hW dX4_redraw_15 (by
        exact ⟨(-1), b, hn, u0, u1, u2, u3, d0, d1, d2, d3, t, rfl, rfl, by exact ⟨_, _, Or.inl ⟨(hfd.resolve_right (by rintro ⟨hq, -⟩; omega)).2, rfl, rfl, rfl⟩, hR, hHB, ⟨rfl, rfl⟩, hTk⟩⟩)

abbrev qX4_takeAway (cI : ClassId) (x : Nat) (axb axn : Nat → Nat) (xk : Int) (xh : Nat) (axt axc : Nat → Nat) (b : zBS) (xa : Nat) (hn : Int) (u0 : Nat → Nat) (u1 : Nat → Nat) (u2 : Nat → Nat) (u3 : Nat → Nat) (d0 : zBS) (d1 : zBS) (d2 : zBS) (d3 : zBS) (y1 : Int) (pC : List zPn) (pO : List Int) (ev : Int) (hs : List zSt) (cB : ClassId) : Option Value → List va_W → Prop := fun vq wq => ∃ (r : Int) (bz : zBS) (hnz : Int) (v0 : Nat → Nat) (v1 : Nat → Nat) (v2 : Nat → Nat) (v3 : Nat → Nat) (e0 : zBS) (e1 : zBS) (e2 : zBS) (e3 : zBS), vq = some (.int (zI r)) ∧ wq = [[(x, .inr (4, [.ref (axb 0), .ref (axn 0), .int (zI xk), .ref xh, .ref (axt 0), .ref (axc 0)]))], zBoard cI axb bz, [(xh, .inr (2, [.ref xa, .int (zI hnz)]))], [zRefs cB xa (some (v0 0)) (some (v1 0)) (some (v2 0)) (some (v3 0))], zBoard cI v0 e0, zBoard cI v1 e1, zBoard cI v2 e2, zBoard cI v3 e3] ∧ (∃ (S2 : zSt) (hs2 : List zSt), (tkaR pC pO ev hs y1 r S2 hs2) ∧ RBS bz S2 ∧ HB hnz e0 e1 e2 e3 hs2)
set_option maxRecDepth 20000 in
theorem iX4_takeAway_X4 : ∀ w ∈ u_ws RX4 TX4 6, w ∈ wsX4_takeAway := by decide +kernel
set_option maxRecDepth 20000 in
theorem mX4_takeAway_1 : (.fieldLink RX4 12 "StoryPanels" "board" "LStoryPanels$Board;" : Cond) ∈ wsX4_takeAway := by decide +kernel
set_option maxRecDepth 20000 in
theorem mX4_takeAway_2 : (.fieldLink RX4 26 "StoryPanels" "history" "LStoryPanels$History;" : Cond) ∈ wsX4_takeAway := by decide +kernel
set_option maxRecDepth 20000 in
theorem iX4_takeAway_X0 : ∀ w ∈ u_ws RX0 TX0 9, w ∈ wsX4_takeAway := by decide +kernel
set_option maxHeartbeats 4000000 in
set_option maxRecDepth 100000 in
theorem kX4_takeAway (l : Launch) (D : va_G) (cI cB : ClassId) (x : Nat) (axb axn : Nat → Nat) (xk : Int) (xh : Nat) (axt axc : Nat → Nat) (b : zBS) (xa : Nat) (hn : Int) (u0 : Nat → Nat) (u1 : Nat → Nat) (u2 : Nat → Nat) (u3 : Nat → Nat) (d0 : zBS) (d1 : zBS) (d2 : zBS) (d3 : zBS) (y1 : Int) (pC : List zPn) (pO : List Int) (ev : Int) (hs : List zSt) (hR : RB b pC pO ev) (hHB : HB hn d0 d1 d2 d3 hs) (hy1 : R32 y1) : zMet l yX4_takeAway wsX4_takeAway 4 87 0 0 D cI cB [.ref x, .int (zI y1)] [[(x, .inr (4, [.ref (axb 0), .ref (axn 0), .int (zI xk), .ref xh, .ref (axt 0), .ref (axc 0)]))], zBoard cI axb b, [(xh, .inr (2, [.ref xa, .int (zI hn)]))], [zRefs cB xa (some (u0 0)) (some (u1 0)) (some (u2 0)) (some (u3 0))], zBoard cI u0 d0, zBoard cI u1 d1, zBoard cI u2 d2, zBoard cI u3 d3] (qX4_takeAway cI x axb axn xk xh axt axc b xa hn u0 u1 u2 u3 d0 d1 d2 d3 y1 pC pO ev hs cB) := by
  refine zMet.of (cd := cX4_takeAway) (maxL := 3) (ret := (some .int)) (by decide) rfl (Nat.le_of_ble_eq_true rfl) ?_
  intro p e s m args below meth c A ls hS hr hlk hnm hK hA hW hl
  have hS : CallFix p m c cX4_takeAway 3 s args wsX4_takeAway RX4 := hS
  have hx := hS.1
  have hb := hS.2.1
  have hown := hS.2.2.2.1
  have hts := hS.2.2.2.2
  have hl : lv_has ls 3 [(0, .ref x), (1, .int (zI y1))] := hl
  have hRz := hR.1.1
  have hRl := hR.2.1
  have hb1 := hHB.1
  have hb2 := hHB.2.1
  refine lv_aload_n hx hb dX4_takeAway_0 rfl (lv_at hl 0 rfl) ?_
  refine va_get (D := D) (ci := 4) (v := .ref (axb 0)) (C := RX4) (T := TX4) (N := 6) hx hb hts iX4_takeAway_X4 hown hK.1 hW.1 0 rfl rfl 0 (by decide) (hts _ mX4_takeAway_1) (fun _ h9 => h9) rfl dX4_takeAway_1 ?_
  refine lv_iload_n hx hb dX4_takeAway_4 rfl (lv_at hl 1 rfl) ?_
  refine z_callV (r := (RX0, TX0, 9)) (As := [.int (zI y1)]) (rest := []) hS hK hA hW hl.1 [1] [0, 2, 3, 4, 5, 6, 7] (kX0_slotOf l D cI cB axb b y1 hR.1 (by omega)) (cwV 1 hts gX4_takeAway_X0_slotOf rfl rfl rfl (by decide +kernel) ⟨Nat.le_of_ble_eq_true rfl, Nat.le_of_ble_eq_true rfl⟩) (rfl : vwCl[0]? = some (RX0, TX0, 9)) (q0 := 1) rfl dX4_takeAway_5 rfl rfl rfl rfl rfl (Nat.le_of_ble_eq_true rfl) ⟨Nat.le_of_ble_eq_true rfl, Nat.le_of_ble_eq_true rfl⟩ (fun v9 w9 H locs hq hW => ?_)
  obtain ⟨rr_5, rfl, rfl, hh_5⟩ := hq
  have hW : zW D A s.heap [zBoard cI axb b, [(x, .inr (4, [.ref (axb 0), .ref (axn 0), .int (zI xk), .ref xh, .ref (axt 0), .ref (axc 0)]))], [(xh, .inr (2, [.ref xa, .int (zI hn)]))], [zRefs cB xa (some (u0 0)) (some (u1 0)) (some (u2 0)) (some (u3 0))], zBoard cI u0 d0, zBoard cI u1 d1, zBoard cI u2 d2, zBoard cI u3 d3] H locs := hW
  have hW : zW D A s.heap [[(x, .inr (4, [.ref (axb 0), .ref (axn 0), .int (zI xk), .ref xh, .ref (axt 0), .ref (axc 0)]))], zBoard cI axb b, [(xh, .inr (2, [.ref xa, .int (zI hn)]))], [zRefs cB xa (some (u0 0)) (some (u1 0)) (some (u2 0)) (some (u3 0))], zBoard cI u0 d0, zBoard cI u1 d1, zBoard cI u2 d2, zBoard cI u3 d3] H locs := hW.pick [1, 0, 2, 3, 4, 5, 6, 7] rfl rfl
  refine W.eq (g2 := F0 m 8 ls [.int (zI rr_5)]) rfl ?_
  have hfd := RB_find hR hh_5
  have hfr : -1 ≤ rr_5 ∧ rr_5 < 10 := by rcases hfd with hq | hq <;> omega
  refine lv_istore_n (lv' := [(2, .int (zI rr_5)), (0, .ref x), (1, .int (zI y1))]) hx hb dX4_takeAway_8 rfl hl (by decide) rfl (fun ls hl => ?_)
  refine lv_iload_n hx hb dX4_takeAway_9 rfl (lv_at hl 0 rfl) ?_
  refine lv_iconst (v := zI (-1)) hx hb dX4_takeAway_10 rfl ?_
  refine z_icmp_ne (tgt := 16) hx hb dX4_takeAway_11 (by decide) (by omega) (fun cc_11 => ?_) (fun cc_11 => ?_)
  · obtain ⟨hf1, jq, pq, hjp, hjl⟩ := hfd.resolve_left (fun hq => cc_11 hq.1)
    have hjs := hR.2.2.2.1 jq pq hjp.1
    rw [← hjl] at hjs
    have hjt := RB_at hR hjp.1
    rw [← hjl] at hjt
    have hjo := RB_pn hR pq (List.mem_of_getElem? hjp.1)
    have hjb := (List.getElem?_eq_some_iff.mp hjp.1).1
    have hcl := hjo.2.2.2.1
    have hjd := hjo.2.2.1
    have hjk := hjo.2.1
    have hmA := RB_drop hR hjp.1
    rw [← hjl] at hmA
    refine lv_aload_n hx hb dX4_takeAway_16 rfl (lv_at hl 1 rfl) ?_
    refine va_get (D := D) (ci := 4) (v := .ref xh) (C := RX4) (T := TX4) (N := 6) hx hb hts iX4_takeAway_X4 hown hK.1 hW.1 0 rfl rfl 3 (by decide) (hts _ mX4_takeAway_2) (fun _ h9 => h9) rfl dX4_takeAway_17 ?_
    refine lv_aload_n hx hb dX4_takeAway_20 rfl (lv_at hl 1 rfl) ?_
    refine va_get (D := D) (ci := 4) (v := .ref (axb 0)) (C := RX4) (T := TX4) (N := 6) hx hb hts iX4_takeAway_X4 hown hK.1 hW.1 0 rfl rfl 0 (by decide) (hts _ mX4_takeAway_1) (fun _ h9 => h9) rfl dX4_takeAway_21 ?_
    refine z_callV (r := (RX2, TX2, 2)) (As := [.ref (axb 0)]) (rest := []) hS hK hA hW hl.1 [2, 3, 4, 5, 6, 7, 1] [0] (kX2_remember l D cI cB xh xa hn u0 u1 u2 u3 d0 d1 d2 d3 axb b hs ((pC, pO, ev)) hHB hR) (cwV 1 hts gX4_takeAway_X2_remember rfl rfl rfl (by decide +kernel) ⟨Nat.le_of_ble_eq_true rfl, Nat.le_of_ble_eq_true rfl⟩) (rfl : vwCl[2]? = some (RX2, TX2, 2)) (q0 := 9) rfl dX4_takeAway_24 rfl rfl rfl rfl rfl (Nat.le_of_ble_eq_true rfl) ⟨Nat.le_of_ble_eq_true rfl, Nat.le_of_ble_eq_true rfl⟩ (fun v9 w9 H locs hq hW => ?_)
    obtain ⟨hnz_24, g0_24, g1_24, g2_24, g3_24, e0_24, e1_24, e2_24, e3_24, rfl, rfl, hh_24⟩ := hq
    have hW : zW D A s.heap [[(xh, .inr (2, [.ref xa, .int (zI hnz_24)]))], [zRefs cB xa (some (g0_24 0)) (some (g1_24 0)) (some (g2_24 0)) (some (g3_24 0))], zBoard cI g0_24 e0_24, zBoard cI g1_24 e1_24, zBoard cI g2_24 e2_24, zBoard cI g3_24 e3_24, zBoard cI axb b, [(x, .inr (4, [.ref (axb 0), .ref (axn 0), .int (zI xk), .ref xh, .ref (axt 0), .ref (axc 0)]))]] H locs := hW
    have hW : zW D A s.heap [[(x, .inr (4, [.ref (axb 0), .ref (axn 0), .int (zI xk), .ref xh, .ref (axt 0), .ref (axc 0)]))], zBoard cI axb b, [(xh, .inr (2, [.ref xa, .int (zI hnz_24)]))], [zRefs cB xa (some (g0_24 0)) (some (g1_24 0)) (some (g2_24 0)) (some (g3_24 0))], zBoard cI g0_24 e0_24, zBoard cI g1_24 e1_24, zBoard cI g2_24 e2_24, zBoard cI g3_24 e3_24] H locs := hW.pick [7, 6, 0, 1, 2, 3, 4, 5] rfl rfl
    refine W.eq (g2 := F0 m 27 ls []) rfl ?_
    refine lv_aload_n hx hb dX4_takeAway_27 rfl (lv_at hl 1 rfl) ?_
    refine va_get (D := D) (ci := 4) (v := .ref (axb 0)) (C := RX4) (T := TX4) (N := 6) hx hb hts iX4_takeAway_X4 hown hK.1 hW.1 0 rfl rfl 0 (by decide) (hts _ mX4_takeAway_1) (fun _ h9 => h9) rfl dX4_takeAway_28 ?_
    refine lv_iload_n hx hb dX4_takeAway_31 rfl (lv_at hl 0 rfl) ?_
    refine z_callV (r := (RX0, TX0, 9)) (As := [.int (zI rr_5)]) (rest := []) hS hK hA hW hl.1 [1] [0, 2, 3, 4, 5, 6, 7] (kX0_removePanel l D cI cB axb b rr_5 ((jq : Int)) hR.1 (by omega) hjt) (cwV 1 hts gX4_takeAway_X0_removePanel rfl rfl rfl (by decide +kernel) ⟨Nat.le_of_ble_eq_true rfl, Nat.le_of_ble_eq_true rfl⟩) (rfl : vwCl[0]? = some (RX0, TX0, 9)) (q0 := 1) rfl dX4_takeAway_32 rfl rfl rfl rfl rfl (Nat.le_of_ble_eq_true rfl) ⟨Nat.le_of_ble_eq_true rfl, Nat.le_of_ble_eq_true rfl⟩ (fun v9 w9 H locs hq hW => ?_)
    obtain ⟨rfl, rfl, hh_32⟩ := hq
    have hW : zW D A s.heap [zBoard cI axb (bd_num_ (takeOutB b ((jq : Int))) (zU (bd_num b) rr_5 (-1))), [(x, .inr (4, [.ref (axb 0), .ref (axn 0), .int (zI xk), .ref xh, .ref (axt 0), .ref (axc 0)]))], [(xh, .inr (2, [.ref xa, .int (zI hnz_24)]))], [zRefs cB xa (some (g0_24 0)) (some (g1_24 0)) (some (g2_24 0)) (some (g3_24 0))], zBoard cI g0_24 e0_24, zBoard cI g1_24 e1_24, zBoard cI g2_24 e2_24, zBoard cI g3_24 e3_24] H locs := hW
    have hW : zW D A s.heap [[(x, .inr (4, [.ref (axb 0), .ref (axn 0), .int (zI xk), .ref xh, .ref (axt 0), .ref (axc 0)]))], zBoard cI axb (bd_num_ (takeOutB b ((jq : Int))) (zU (bd_num b) rr_5 (-1))), [(xh, .inr (2, [.ref xa, .int (zI hnz_24)]))], [zRefs cB xa (some (g0_24 0)) (some (g1_24 0)) (some (g2_24 0)) (some (g3_24 0))], zBoard cI g0_24 e0_24, zBoard cI g1_24 e1_24, zBoard cI g2_24 e2_24, zBoard cI g3_24 e3_24] H locs := hW.pick [1, 0, 2, 3, 4, 5, 6, 7] rfl rfl
    refine W.eq (g2 := F0 m 35 ls []) rfl ?_
    refine lv_aload_n hx hb dX4_takeAway_35 rfl (lv_at hl 1 rfl) ?_
    refine va_get (D := D) (ci := 4) (v := .ref (axb 0)) (C := RX4) (T := TX4) (N := 6) hx hb hts iX4_takeAway_X4 hown hK.1 hW.1 0 rfl rfl 0 (by decide) (hts _ mX4_takeAway_1) (fun _ h9 => h9) rfl dX4_takeAway_36 ?_
    refine va_getN (D := D) (ci := 0) (v := .int (zI (bd_sz (bd_num_ (takeOutB b ((jq : Int))) (zU (bd_num b) rr_5 (-1)))))) (C := RX0) (T := TX0) (N := 9) hx hb hts iX4_takeAway_X0 hown hK.1 hW.1 1 rfl rfl 7 (by decide) (va_Nw.use rfl (hK.2 _ nm_0)) (fun _ h9 => h9) rfl dX4_takeAway_39 ?_
    exact z_iret (v := bd_sz (bd_num_ (takeOutB b ((jq : Int))) (zU (bd_num b) rr_5 (-1)))) hx hb hr hlk hW dX4_takeAway_42 (by
        exact ⟨bd_sz (bd_num_ (takeOutB b ((jq : Int))) (zU (bd_num b) rr_5 (-1))), (bd_num_ (takeOutB b ((jq : Int))) (zU (bd_num b) rr_5 (-1))), hnz_24, g0_24, g1_24, g2_24, g3_24, e0_24, e1_24, e2_24, e3_24, rfl, rfl, by exact ⟨_, _, Or.inr ⟨jq, pq, hjp, (by show bd_sz b - 1 = _; omega), rfl, rfl⟩, hmA, hh_24⟩⟩)
  · refine lv_iconst (v := zI (-1)) hx hb dX4_takeAway_14 rfl ?_
    exact z_iret (v := (-1)) hx hb hr hlk hW dX4_takeAway_15 (by
        exact ⟨(-1), b, hn, u0, u1, u2, u3, d0, d1, d2, d3, rfl, rfl, by exact ⟨_, _, Or.inl ⟨(hfd.resolve_right (by rintro ⟨hq, -⟩; omega)).2, rfl, rfl, rfl⟩, hR, hHB⟩⟩)

abbrev qX4_move (cI : ClassId) (x : Nat) (axb axn : Nat → Nat) (xk : Int) (xh : Nat) (axt axc : Nat → Nat) (b : zBS) (xa : Nat) (hn : Int) (u0 : Nat → Nat) (u1 : Nat → Nat) (u2 : Nat → Nat) (u3 : Nat → Nat) (d0 : zBS) (d1 : zBS) (d2 : zBS) (d3 : zBS) (cn : zCS) (y1 y2 y3 : Int) (pC : List zPn) (pO : List Int) (ev : Int) (hs : List zSt) (cB : ClassId) : Option Value → List va_W → Prop := fun vq wq => ∃ (r : Int) (bz : zBS) (hnz : Int) (v0 : Nat → Nat) (v1 : Nat → Nat) (v2 : Nat → Nat) (v3 : Nat → Nat) (e0 : zBS) (e1 : zBS) (e2 : zBS) (e3 : zBS) (cz : zCS), vq = some (.int (zI r)) ∧ wq = [[(x, .inr (4, [.ref (axb 0), .ref (axn 0), .int (zI xk), .ref xh, .ref (axt 0), .ref (axc 0)]))], zBoard cI axb bz, [(xh, .inr (2, [.ref xa, .int (zI hnz)]))], [zRefs cB xa (some (v0 0)) (some (v1 0)) (some (v2 0)) (some (v3 0))], zBoard cI v0 e0, zBoard cI v1 e1, zBoard cI v2 e2, zBoard cI v3 e3, zCont cI axc cz] ∧ (∃ (S2 : zSt) (hs2 : List zSt), (movR pC pO ev hs y1 y2 y3 r S2 hs2) ∧ RBS bz S2 ∧ HB hnz e0 e1 e2 e3 hs2)
set_option maxRecDepth 20000 in
theorem iX4_move_X4 : ∀ w ∈ u_ws RX4 TX4 6, w ∈ wsX4_move := by decide +kernel
set_option maxRecDepth 20000 in
theorem mX4_move_1 : (.fieldLink RX4 12 "StoryPanels" "board" "LStoryPanels$Board;" : Cond) ∈ wsX4_move := by decide +kernel
set_option maxRecDepth 20000 in
theorem mX4_move_2 : (.fieldLink RX4 26 "StoryPanels" "history" "LStoryPanels$History;" : Cond) ∈ wsX4_move := by decide +kernel
set_option maxHeartbeats 4000000 in
set_option maxRecDepth 100000 in
theorem kX4_move (l : Launch) (D : va_G) (cI cB : ClassId) (x : Nat) (axb axn : Nat → Nat) (xk : Int) (xh : Nat) (axt axc : Nat → Nat) (b : zBS) (xa : Nat) (hn : Int) (u0 : Nat → Nat) (u1 : Nat → Nat) (u2 : Nat → Nat) (u3 : Nat → Nat) (d0 : zBS) (d1 : zBS) (d2 : zBS) (d3 : zBS) (cn : zCS) (y1 y2 y3 : Int) (pC : List zPn) (pO : List Int) (ev : Int) (hs : List zSt) (hR : RB b pC pO ev) (hHB : HB hn d0 d1 d2 d3 hs) (hy1 : R32 y1) (hy2 : R32 y2) (hy3 : R32 y3) : zMet l yX4_move wsX4_move 5 125 0 0 D cI cB [.ref x, .int (zI y1), .int (zI y2), .int (zI y3)] [[(x, .inr (4, [.ref (axb 0), .ref (axn 0), .int (zI xk), .ref xh, .ref (axt 0), .ref (axc 0)]))], zBoard cI axb b, [(xh, .inr (2, [.ref xa, .int (zI hn)]))], [zRefs cB xa (some (u0 0)) (some (u1 0)) (some (u2 0)) (some (u3 0))], zBoard cI u0 d0, zBoard cI u1 d1, zBoard cI u2 d2, zBoard cI u3 d3, zCont cI axc cn] (qX4_move cI x axb axn xk xh axt axc b xa hn u0 u1 u2 u3 d0 d1 d2 d3 cn y1 y2 y3 pC pO ev hs cB) := by
  refine zMet.of (cd := cX4_move) (maxL := 5) (ret := (some .int)) (by decide) rfl (Nat.le_of_ble_eq_true rfl) ?_
  intro p e s m args below meth c A ls hS hr hlk hnm hK hA hW hl
  have hS : CallFix p m c cX4_move 5 s args wsX4_move RX4 := hS
  have hx := hS.1
  have hb := hS.2.1
  have hown := hS.2.2.2.1
  have hts := hS.2.2.2.2
  have hl : lv_has ls 5 [(0, .ref x), (1, .int (zI y1)), (2, .int (zI y2)), (3, .int (zI y3))] := hl
  have hRz := hR.1.1
  have hRl := hR.2.1
  have hb1 := hHB.1
  have hb2 := hHB.2.1
  refine lv_aload_n hx hb dX4_move_0 rfl (lv_at hl 0 rfl) ?_
  refine va_get (D := D) (ci := 4) (v := .ref (axb 0)) (C := RX4) (T := TX4) (N := 6) hx hb hts iX4_move_X4 hown hK.1 hW.1 0 rfl rfl 0 (by decide) (hts _ mX4_move_1) (fun _ h9 => h9) rfl dX4_move_1 ?_
  refine lv_iload_n hx hb dX4_move_4 rfl (lv_at hl 1 rfl) ?_
  refine z_callV (r := (RX0, TX0, 9)) (As := [.int (zI y1)]) (rest := []) hS hK hA hW hl.1 [1] [0, 2, 3, 4, 5, 6, 7, 8] (kX0_slotOf l D cI cB axb b y1 hR.1 (by omega)) (cwV 1 hts gX4_move_X0_slotOf rfl rfl rfl (by decide +kernel) ⟨Nat.le_of_ble_eq_true rfl, Nat.le_of_ble_eq_true rfl⟩) (rfl : vwCl[0]? = some (RX0, TX0, 9)) (q0 := 1) rfl dX4_move_5 rfl rfl rfl rfl rfl (Nat.le_of_ble_eq_true rfl) ⟨Nat.le_of_ble_eq_true rfl, Nat.le_of_ble_eq_true rfl⟩ (fun v9 w9 H locs hq hW => ?_)
  obtain ⟨rr_5, rfl, rfl, hh_5⟩ := hq
  have hW : zW D A s.heap [zBoard cI axb b, [(x, .inr (4, [.ref (axb 0), .ref (axn 0), .int (zI xk), .ref xh, .ref (axt 0), .ref (axc 0)]))], [(xh, .inr (2, [.ref xa, .int (zI hn)]))], [zRefs cB xa (some (u0 0)) (some (u1 0)) (some (u2 0)) (some (u3 0))], zBoard cI u0 d0, zBoard cI u1 d1, zBoard cI u2 d2, zBoard cI u3 d3, zCont cI axc cn] H locs := hW
  have hW : zW D A s.heap [[(x, .inr (4, [.ref (axb 0), .ref (axn 0), .int (zI xk), .ref xh, .ref (axt 0), .ref (axc 0)]))], zBoard cI axb b, [(xh, .inr (2, [.ref xa, .int (zI hn)]))], [zRefs cB xa (some (u0 0)) (some (u1 0)) (some (u2 0)) (some (u3 0))], zBoard cI u0 d0, zBoard cI u1 d1, zBoard cI u2 d2, zBoard cI u3 d3, zCont cI axc cn] H locs := hW.pick [1, 0, 2, 3, 4, 5, 6, 7, 8] rfl rfl
  refine W.eq (g2 := F0 m 8 ls [.int (zI rr_5)]) rfl ?_
  have hfd := RB_find hR hh_5
  have hfr : -1 ≤ rr_5 ∧ rr_5 < 10 := by rcases hfd with hq | hq <;> omega
  refine lv_istore (lv' := [(4, .int (zI rr_5)), (0, .ref x), (1, .int (zI y1)), (2, .int (zI y2)), (3, .int (zI y3))]) hx hb dX4_move_8 hl (by decide) rfl (fun ls hl => ?_)
  refine lv_iload hx hb dX4_move_10 (lv_at hl 0 rfl) ?_
  refine lv_iconst (v := zI (-1)) hx hb dX4_move_12 rfl ?_
  refine z_icmp_eq (tgt := 23) hx hb dX4_move_13 (by decide) (by omega) (fun cc_13 => ?_) (fun cc_13 => ?_)
  · refine lv_iconst (v := zI (-1)) hx hb dX4_move_23 rfl ?_
    exact z_iret (v := (-1)) hx hb hr hlk hW dX4_move_24 (by
        exact ⟨(-1), b, hn, u0, u1, u2, u3, d0, d1, d2, d3, cn, rfl, rfl, by refine ⟨_, _, Or.inl ⟨?_, rfl, rfl, rfl⟩, hR, hHB⟩; first | exact Or.inl (hfd.resolve_right (by rintro ⟨hq, -⟩; omega)).2 | exact Or.inr (by omega)⟩)
  · obtain ⟨hf1, jq, pq, hjp, hjl⟩ := hfd.resolve_left (fun hq => cc_13 hq.1)
    have hjs := hR.2.2.2.1 jq pq hjp.1
    rw [← hjl] at hjs
    have hjt := RB_at hR hjp.1
    rw [← hjl] at hjt
    have hjo := RB_pn hR pq (List.mem_of_getElem? hjp.1)
    have hjb := (List.getElem?_eq_some_iff.mp hjp.1).1
    have hcl := hjo.2.2.2.1
    have hjd := hjo.2.2.1
    have hjk := hjo.2.1
    have hah0 := ahC_le pC pO pq.2.1
    refine lv_iload_n hx hb dX4_move_16 rfl (lv_at hl 3 rfl) ?_
    refine z_callS (As := [.int (zI y2)]) (rest := []) hS hK hA hW hl.1 [] [0, 1, 2, 3, 4, 5, 6, 7, 8] (kX4_isScene l D cI cB y2 (by omega)) (va_cwS 1 hts gX4_move_X4_isScene rfl rfl rfl (by decide +kernel) ⟨Nat.le_of_ble_eq_true rfl, Nat.le_of_ble_eq_true rfl⟩) dX4_move_17 rfl rfl rfl rfl rfl (Nat.le_of_ble_eq_true rfl) ⟨Nat.le_of_ble_eq_true rfl, Nat.le_of_ble_eq_true rfl⟩ (fun v9 w9 H locs hq hW => ?_)
    obtain ⟨rr_17, rfl, rfl, hh_17⟩ := hq
    have hW : zW D A s.heap [[(x, .inr (4, [.ref (axb 0), .ref (axn 0), .int (zI xk), .ref xh, .ref (axt 0), .ref (axc 0)]))], zBoard cI axb b, [(xh, .inr (2, [.ref xa, .int (zI hn)]))], [zRefs cB xa (some (u0 0)) (some (u1 0)) (some (u2 0)) (some (u3 0))], zBoard cI u0 d0, zBoard cI u1 d1, zBoard cI u2 d2, zBoard cI u3 d3, zCont cI axc cn] H locs := hW
    refine W.eq (g2 := F0 m 20 ls [.int (zI rr_17)]) rfl ?_
    refine z_if_ne (tgt := 25) hx hb dX4_move_20 (by decide) (by omega) (fun cc_20 => ?_) (fun cc_20 => ?_)
    · refine lv_aload_n hx hb dX4_move_25 rfl (lv_at hl 1 rfl) ?_
      refine va_get (D := D) (ci := 4) (v := .ref (axb 0)) (C := RX4) (T := TX4) (N := 6) hx hb hts iX4_move_X4 hown hK.1 hW.1 0 rfl rfl 0 (by decide) (hts _ mX4_move_1) (fun _ h9 => h9) rfl dX4_move_26 ?_
      refine lv_iload hx hb dX4_move_29 (lv_at hl 0 rfl) ?_
      refine lv_iload_n hx hb dX4_move_31 rfl (lv_at hl 3 rfl) ?_
      refine lv_iload_n hx hb dX4_move_32 rfl (lv_at hl 4 rfl) ?_
      refine z_callV (r := (RX0, TX0, 9)) (As := [.int (zI rr_5), .int (zI y2), .int (zI y3)]) (rest := []) hS hK hA hW hl.1 [1] [0, 2, 3, 4, 5, 6, 7, 8] (kX0_hasPlaceFor l D cI cB axb b rr_5 y2 y3 hR.1 (by omega) (by omega) (by omega)) (cwV 3 hts gX4_move_X0_hasPlaceFor rfl rfl rfl (by decide +kernel) ⟨Nat.le_of_ble_eq_true rfl, Nat.le_of_ble_eq_true rfl⟩) (rfl : vwCl[0]? = some (RX0, TX0, 9)) (q0 := 1) rfl dX4_move_33 rfl rfl rfl rfl rfl (Nat.le_of_ble_eq_true rfl) ⟨Nat.le_of_ble_eq_true rfl, Nat.le_of_ble_eq_true rfl⟩ (fun v9 w9 H locs hq hW => ?_)
      obtain ⟨rr_33, rfl, rfl, hh_33⟩ := hq
      have hW : zW D A s.heap [zBoard cI axb b, [(x, .inr (4, [.ref (axb 0), .ref (axn 0), .int (zI xk), .ref xh, .ref (axt 0), .ref (axc 0)]))], [(xh, .inr (2, [.ref xa, .int (zI hn)]))], [zRefs cB xa (some (u0 0)) (some (u1 0)) (some (u2 0)) (some (u3 0))], zBoard cI u0 d0, zBoard cI u1 d1, zBoard cI u2 d2, zBoard cI u3 d3, zCont cI axc cn] H locs := hW
      have hW : zW D A s.heap [[(x, .inr (4, [.ref (axb 0), .ref (axn 0), .int (zI xk), .ref xh, .ref (axt 0), .ref (axc 0)]))], zBoard cI axb b, [(xh, .inr (2, [.ref xa, .int (zI hn)]))], [zRefs cB xa (some (u0 0)) (some (u1 0)) (some (u2 0)) (some (u3 0))], zBoard cI u0 d0, zBoard cI u1 d1, zBoard cI u2 d2, zBoard cI u3 d3, zCont cI axc cn] H locs := hW.pick [1, 0, 2, 3, 4, 5, 6, 7, 8] rfl rfl
      refine W.eq (g2 := F0 m 36 ls [.int (zI rr_33)]) rfl ?_
      rw [hjl, RB_places hR hjp.1 y2] at hh_33
      refine z_if_ne (tgt := 42) hx hb dX4_move_36 (by decide) (by omega) (fun cc_36 => ?_) (fun cc_36 => ?_)
      · refine lv_aload_n hx hb dX4_move_42 rfl (lv_at hl 1 rfl) ?_
        refine va_get (D := D) (ci := 4) (v := .ref (axb 0)) (C := RX4) (T := TX4) (N := 6) hx hb hts iX4_move_X4 hown hK.1 hW.1 0 rfl rfl 0 (by decide) (hts _ mX4_move_1) (fun _ h9 => h9) rfl dX4_move_43 ?_
        refine lv_iload hx hb dX4_move_46 (lv_at hl 0 rfl) ?_
        refine z_callV (r := (RX0, TX0, 9)) (As := [.int (zI rr_5)]) (rest := []) hS hK hA hW hl.1 [1] [0, 2, 3, 4, 5, 6, 7, 8] (kX0_sceneOf l D cI cB axb b rr_5 hR.1 (by omega)) (cwV 1 hts gX4_move_X0_sceneOf rfl rfl rfl (by decide +kernel) ⟨Nat.le_of_ble_eq_true rfl, Nat.le_of_ble_eq_true rfl⟩) (rfl : vwCl[0]? = some (RX0, TX0, 9)) (q0 := 1) rfl dX4_move_48 rfl rfl rfl rfl rfl (Nat.le_of_ble_eq_true rfl) ⟨Nat.le_of_ble_eq_true rfl, Nat.le_of_ble_eq_true rfl⟩ (fun v9 w9 H locs hq hW => ?_)
        obtain ⟨rr_48, rfl, rfl, hh_48⟩ := hq
        subst rr_48
        have hW : zW D A s.heap [zBoard cI axb b, [(x, .inr (4, [.ref (axb 0), .ref (axn 0), .int (zI xk), .ref xh, .ref (axt 0), .ref (axc 0)]))], [(xh, .inr (2, [.ref xa, .int (zI hn)]))], [zRefs cB xa (some (u0 0)) (some (u1 0)) (some (u2 0)) (some (u3 0))], zBoard cI u0 d0, zBoard cI u1 d1, zBoard cI u2 d2, zBoard cI u3 d3, zCont cI axc cn] H locs := hW
        have hW : zW D A s.heap [[(x, .inr (4, [.ref (axb 0), .ref (axn 0), .int (zI xk), .ref xh, .ref (axt 0), .ref (axc 0)]))], zBoard cI axb b, [(xh, .inr (2, [.ref xa, .int (zI hn)]))], [zRefs cB xa (some (u0 0)) (some (u1 0)) (some (u2 0)) (some (u3 0))], zBoard cI u0 d0, zBoard cI u1 d1, zBoard cI u2 d2, zBoard cI u3 d3, zCont cI axc cn] H locs := hW.pick [1, 0, 2, 3, 4, 5, 6, 7, 8] rfl rfl
        refine W.eq (g2 := F0 m 51 ls [.int (zI (bd_scn b rr_5))]) rfl ?_
        rw [show (bd_scn b rr_5) = pq.2.1 by exact hjs.2.1]
        refine lv_iload_n hx hb dX4_move_51 rfl (lv_at hl 3 rfl) ?_
        refine z_icmp_ne (tgt := 71) hx hb dX4_move_52 (by decide) (by omega) (fun cc_52 => ?_) (fun cc_52 => ?_)
        · refine lv_aload_n hx hb dX4_move_71 rfl (lv_at hl 1 rfl) ?_
          refine va_get (D := D) (ci := 4) (v := .ref xh) (C := RX4) (T := TX4) (N := 6) hx hb hts iX4_move_X4 hown hK.1 hW.1 0 rfl rfl 3 (by decide) (hts _ mX4_move_2) (fun _ h9 => h9) rfl dX4_move_72 ?_
          refine lv_aload_n hx hb dX4_move_75 rfl (lv_at hl 1 rfl) ?_
          refine va_get (D := D) (ci := 4) (v := .ref (axb 0)) (C := RX4) (T := TX4) (N := 6) hx hb hts iX4_move_X4 hown hK.1 hW.1 0 rfl rfl 0 (by decide) (hts _ mX4_move_1) (fun _ h9 => h9) rfl dX4_move_76 ?_
          refine z_callV (r := (RX2, TX2, 2)) (As := [.ref (axb 0)]) (rest := []) hS hK hA hW hl.1 [2, 3, 4, 5, 6, 7, 1] [0, 8] (kX2_remember l D cI cB xh xa hn u0 u1 u2 u3 d0 d1 d2 d3 axb b hs ((pC, pO, ev)) hHB hR) (cwV 1 hts gX4_move_X2_remember rfl rfl rfl (by decide +kernel) ⟨Nat.le_of_ble_eq_true rfl, Nat.le_of_ble_eq_true rfl⟩) (rfl : vwCl[2]? = some (RX2, TX2, 2)) (q0 := 9) rfl dX4_move_79 rfl rfl rfl rfl rfl (Nat.le_of_ble_eq_true rfl) ⟨Nat.le_of_ble_eq_true rfl, Nat.le_of_ble_eq_true rfl⟩ (fun v9 w9 H locs hq hW => ?_)
          obtain ⟨hnz_79, g0_79, g1_79, g2_79, g3_79, e0_79, e1_79, e2_79, e3_79, rfl, rfl, hh_79⟩ := hq
          have hW : zW D A s.heap [[(xh, .inr (2, [.ref xa, .int (zI hnz_79)]))], [zRefs cB xa (some (g0_79 0)) (some (g1_79 0)) (some (g2_79 0)) (some (g3_79 0))], zBoard cI g0_79 e0_79, zBoard cI g1_79 e1_79, zBoard cI g2_79 e2_79, zBoard cI g3_79 e3_79, zBoard cI axb b, [(x, .inr (4, [.ref (axb 0), .ref (axn 0), .int (zI xk), .ref xh, .ref (axt 0), .ref (axc 0)]))], zCont cI axc cn] H locs := hW
          have hW : zW D A s.heap [[(x, .inr (4, [.ref (axb 0), .ref (axn 0), .int (zI xk), .ref xh, .ref (axt 0), .ref (axc 0)]))], zBoard cI axb b, [(xh, .inr (2, [.ref xa, .int (zI hnz_79)]))], [zRefs cB xa (some (g0_79 0)) (some (g1_79 0)) (some (g2_79 0)) (some (g3_79 0))], zBoard cI g0_79 e0_79, zBoard cI g1_79 e1_79, zBoard cI g2_79 e2_79, zBoard cI g3_79 e3_79, zCont cI axc cn] H locs := hW.pick [7, 6, 0, 1, 2, 3, 4, 5, 8] rfl rfl
          refine W.eq (g2 := F0 m 82 ls []) rfl ?_
          refine lv_aload_n hx hb dX4_move_82 rfl (lv_at hl 1 rfl) ?_
          refine va_get (D := D) (ci := 4) (v := .ref (axb 0)) (C := RX4) (T := TX4) (N := 6) hx hb hts iX4_move_X4 hown hK.1 hW.1 0 rfl rfl 0 (by decide) (hts _ mX4_move_1) (fun _ h9 => h9) rfl dX4_move_83 ?_
          refine lv_iload hx hb dX4_move_86 (lv_at hl 0 rfl) ?_
          have hmA := RB_mv hR hjp.1 (s := y2) (pl := y3) (by omega) (by omega)
          rw [← hjl] at hmA
          refine z_callV (r := (RX0, TX0, 9)) (As := [.int (zI rr_5)]) (rest := []) hS hK hA hW hl.1 [1] [0, 2, 3, 4, 5, 6, 7, 8] (kX0_takeOut l D cI cB axb b rr_5 ((jq : Int)) hR.1 (by omega) hjt) (cwV 1 hts gX4_move_X0_takeOut rfl rfl rfl (by decide +kernel) ⟨Nat.le_of_ble_eq_true rfl, Nat.le_of_ble_eq_true rfl⟩) (rfl : vwCl[0]? = some (RX0, TX0, 9)) (q0 := 1) rfl dX4_move_88 rfl rfl rfl rfl rfl (Nat.le_of_ble_eq_true rfl) ⟨Nat.le_of_ble_eq_true rfl, Nat.le_of_ble_eq_true rfl⟩ (fun v9 w9 H locs hq hW => ?_)
          obtain ⟨rfl, rfl, hh_88⟩ := hq
          have hW : zW D A s.heap [zBoard cI axb (takeOutB b ((jq : Int))), [(x, .inr (4, [.ref (axb 0), .ref (axn 0), .int (zI xk), .ref xh, .ref (axt 0), .ref (axc 0)]))], [(xh, .inr (2, [.ref xa, .int (zI hnz_79)]))], [zRefs cB xa (some (g0_79 0)) (some (g1_79 0)) (some (g2_79 0)) (some (g3_79 0))], zBoard cI g0_79 e0_79, zBoard cI g1_79 e1_79, zBoard cI g2_79 e2_79, zBoard cI g3_79 e3_79, zCont cI axc cn] H locs := hW
          have hW : zW D A s.heap [[(x, .inr (4, [.ref (axb 0), .ref (axn 0), .int (zI xk), .ref xh, .ref (axt 0), .ref (axc 0)]))], zBoard cI axb (takeOutB b ((jq : Int))), [(xh, .inr (2, [.ref xa, .int (zI hnz_79)]))], [zRefs cB xa (some (g0_79 0)) (some (g1_79 0)) (some (g2_79 0)) (some (g3_79 0))], zBoard cI g0_79 e0_79, zBoard cI g1_79 e1_79, zBoard cI g2_79 e2_79, zBoard cI g3_79 e3_79, zCont cI axc cn] H locs := hW.pick [1, 0, 2, 3, 4, 5, 6, 7, 8] rfl rfl
          refine W.eq (g2 := F0 m 91 ls []) rfl ?_
          refine lv_aload_n hx hb dX4_move_91 rfl (lv_at hl 1 rfl) ?_
          refine va_get (D := D) (ci := 4) (v := .ref (axb 0)) (C := RX4) (T := TX4) (N := 6) hx hb hts iX4_move_X4 hown hK.1 hW.1 0 rfl rfl 0 (by decide) (hts _ mX4_move_1) (fun _ h9 => h9) rfl dX4_move_92 ?_
          refine lv_iload hx hb dX4_move_95 (lv_at hl 0 rfl) ?_
          refine lv_iload_n hx hb dX4_move_97 rfl (lv_at hl 3 rfl) ?_
          refine lv_iload_n hx hb dX4_move_98 rfl (lv_at hl 4 rfl) ?_
          refine z_callV (r := (RX0, TX0, 9)) (As := [.int (zI rr_5), .int (zI y2), .int (zI y3)]) (rest := []) hS hK hA hW hl.1 [1] [0, 2, 3, 4, 5, 6, 7, 8] (kX0_putIn l D cI cB axb ((takeOutB b ((jq : Int)))) rr_5 y2 y3 hmA.1 (by omega) (by omega) hmA.2.1 (by rw [hmA.2.2.1]; exact hmA.2.2.2.1)) (cwV 3 hts gX4_move_X0_putIn rfl rfl rfl (by decide +kernel) ⟨Nat.le_of_ble_eq_true rfl, Nat.le_of_ble_eq_true rfl⟩) (rfl : vwCl[0]? = some (RX0, TX0, 9)) (q0 := 1) rfl dX4_move_99 rfl rfl rfl rfl rfl (Nat.le_of_ble_eq_true rfl) ⟨Nat.le_of_ble_eq_true rfl, Nat.le_of_ble_eq_true rfl⟩ (fun v9 w9 H locs hq hW => ?_)
          obtain ⟨rfl, rfl, hh_99⟩ := hq
          have hW : zW D A s.heap [zBoard cI axb (putInB ((takeOutB b ((jq : Int)))) rr_5 y2 (nAhead (bd_scn_ ((takeOutB b ((jq : Int)))) (zU (bd_scn ((takeOutB b ((jq : Int))))) rr_5 y2)) y2 + y3)), [(x, .inr (4, [.ref (axb 0), .ref (axn 0), .int (zI xk), .ref xh, .ref (axt 0), .ref (axc 0)]))], [(xh, .inr (2, [.ref xa, .int (zI hnz_79)]))], [zRefs cB xa (some (g0_79 0)) (some (g1_79 0)) (some (g2_79 0)) (some (g3_79 0))], zBoard cI g0_79 e0_79, zBoard cI g1_79 e1_79, zBoard cI g2_79 e2_79, zBoard cI g3_79 e3_79, zCont cI axc cn] H locs := hW
          have hW : zW D A s.heap [[(x, .inr (4, [.ref (axb 0), .ref (axn 0), .int (zI xk), .ref xh, .ref (axt 0), .ref (axc 0)]))], zBoard cI axb (putInB ((takeOutB b ((jq : Int)))) rr_5 y2 (nAhead (bd_scn_ ((takeOutB b ((jq : Int)))) (zU (bd_scn ((takeOutB b ((jq : Int))))) rr_5 y2)) y2 + y3)), [(xh, .inr (2, [.ref xa, .int (zI hnz_79)]))], [zRefs cB xa (some (g0_79 0)) (some (g1_79 0)) (some (g2_79 0)) (some (g3_79 0))], zBoard cI g0_79 e0_79, zBoard cI g1_79 e1_79, zBoard cI g2_79 e2_79, zBoard cI g3_79 e3_79, zCont cI axc cn] H locs := hW.pick [1, 0, 2, 3, 4, 5, 6, 7, 8] rfl rfl
          refine W.eq (g2 := F0 m 102 ls []) rfl ?_
          rw [hmA.2.2.1] at hW
          have hW : zW D A s.heap [[(x, .inr (4, [.ref (axb 0), .ref (axn 0), .int (zI xk), .ref xh, .ref (axt 0), .ref (axc 0)]))], zBoard cI axb (putInB (takeOutB b (jq : Int)) rr_5 y2 (ahC (pC.eraseIdx jq) pO y2 + y3)), [(xh, .inr (2, [.ref xa, .int (zI hnz_79)]))], [zRefs cB xa (some (g0_79 0)) (some (g1_79 0)) (some (g2_79 0)) (some (g3_79 0))], zBoard cI g0_79 e0_79, zBoard cI g1_79 e1_79, zBoard cI g2_79 e2_79, zBoard cI g3_79 e3_79, zCont cI axc cn] H locs := hW
          refine lv_aload_n hx hb dX4_move_102 rfl (lv_at hl 1 rfl) ?_
          refine z_callV (r := (RX4, TX4, 6)) (As := []) (rest := []) hS hK hA hW hl.1 [0, 1, 8] [2, 3, 4, 5, 6, 7] (kX4_breaksNow l D cI cB x axb axn xk xh axt axc ((putInB (takeOutB b (jq : Int)) rr_5 y2 (ahC (pC.eraseIdx jq) pO y2 + y3))) cn ((mvC pC pO jq pq y2 y3)) pO ev hmA.2.2.2.2) (cwV 0 hts gX4_move_X4_breaksNow rfl rfl rfl (by decide +kernel) ⟨Nat.le_of_ble_eq_true rfl, Nat.le_of_ble_eq_true rfl⟩) (rfl : vwCl[4]? = some (RX4, TX4, 6)) (q0 := 0) rfl dX4_move_103 rfl rfl rfl rfl rfl (Nat.le_of_ble_eq_true rfl) ⟨Nat.le_of_ble_eq_true rfl, Nat.le_of_ble_eq_true rfl⟩ (fun v9 w9 H locs hq hW => ?_)
          obtain ⟨rr_103, cz_103, rfl, rfl, hh_103⟩ := hq
          have hW : zW D A s.heap [[(x, .inr (4, [.ref (axb 0), .ref (axn 0), .int (zI xk), .ref xh, .ref (axt 0), .ref (axc 0)]))], zBoard cI axb (putInB (takeOutB b (jq : Int)) rr_5 y2 (ahC (pC.eraseIdx jq) pO y2 + y3)), zCont cI axc cz_103, [(xh, .inr (2, [.ref xa, .int (zI hnz_79)]))], [zRefs cB xa (some (g0_79 0)) (some (g1_79 0)) (some (g2_79 0)) (some (g3_79 0))], zBoard cI g0_79 e0_79, zBoard cI g1_79 e1_79, zBoard cI g2_79 e2_79, zBoard cI g3_79 e3_79] H locs := hW
          have hW : zW D A s.heap [[(x, .inr (4, [.ref (axb 0), .ref (axn 0), .int (zI xk), .ref xh, .ref (axt 0), .ref (axc 0)]))], zBoard cI axb (putInB (takeOutB b (jq : Int)) rr_5 y2 (ahC (pC.eraseIdx jq) pO y2 + y3)), [(xh, .inr (2, [.ref xa, .int (zI hnz_79)]))], [zRefs cB xa (some (g0_79 0)) (some (g1_79 0)) (some (g2_79 0)) (some (g3_79 0))], zBoard cI g0_79 e0_79, zBoard cI g1_79 e1_79, zBoard cI g2_79 e2_79, zBoard cI g3_79 e3_79, zCont cI axc cz_103] H locs := hW.pick [0, 1, 3, 4, 5, 6, 7, 8, 2] rfl rfl
          refine W.eq (g2 := F0 m 106 ls [.int (zI rr_103)]) rfl ?_
          rw [show rr_103 = (nbM pC pO jq pq y2 y3) by exact hh_103.1]
          exact z_iret (v := nbM pC pO jq pq y2 y3) hx hb hr hlk hW dX4_move_106 (by
              exact ⟨nbM pC pO jq pq y2 y3, (putInB (takeOutB b (jq : Int)) rr_5 y2 (ahC (pC.eraseIdx jq) pO y2 + y3)), hnz_79, g0_79, g1_79, g2_79, g3_79, e0_79, e1_79, e2_79, e3_79, cz_103, rfl, rfl, by exact ⟨_, _, Or.inr ⟨by omega, jq, pq, hjp, Or.inr ⟨by omega, Or.inr ⟨by first | exact fun hq => cc_52 hq.1 | exact fun hq => cc_65 (by rw [cc_52]; exact hq.2), rfl, rfl, rfl⟩⟩⟩, hmA.2.2.2.2, hh_79⟩⟩)
        · refine lv_aload_n hx hb dX4_move_55 rfl (lv_at hl 1 rfl) ?_
          refine va_get (D := D) (ci := 4) (v := .ref (axb 0)) (C := RX4) (T := TX4) (N := 6) hx hb hts iX4_move_X4 hown hK.1 hW.1 0 rfl rfl 0 (by decide) (hts _ mX4_move_1) (fun _ h9 => h9) rfl dX4_move_56 ?_
          refine lv_iload hx hb dX4_move_59 (lv_at hl 0 rfl) ?_
          refine z_callV (r := (RX0, TX0, 9)) (As := [.int (zI rr_5)]) (rest := []) hS hK hA hW hl.1 [1] [0, 2, 3, 4, 5, 6, 7, 8] (kX0_placeOf l D cI cB axb b rr_5 ((jq : Int)) hR.1 (by omega) hjt) (cwV 1 hts gX4_move_X0_placeOf rfl rfl rfl (by decide +kernel) ⟨Nat.le_of_ble_eq_true rfl, Nat.le_of_ble_eq_true rfl⟩) (rfl : vwCl[0]? = some (RX0, TX0, 9)) (q0 := 1) rfl dX4_move_61 rfl rfl rfl rfl rfl (Nat.le_of_ble_eq_true rfl) ⟨Nat.le_of_ble_eq_true rfl, Nat.le_of_ble_eq_true rfl⟩ (fun v9 w9 H locs hq hW => ?_)
          obtain ⟨rr_61, rfl, rfl, hh_61⟩ := hq
          subst rr_61
          have hW : zW D A s.heap [zBoard cI axb b, [(x, .inr (4, [.ref (axb 0), .ref (axn 0), .int (zI xk), .ref xh, .ref (axt 0), .ref (axc 0)]))], [(xh, .inr (2, [.ref xa, .int (zI hn)]))], [zRefs cB xa (some (u0 0)) (some (u1 0)) (some (u2 0)) (some (u3 0))], zBoard cI u0 d0, zBoard cI u1 d1, zBoard cI u2 d2, zBoard cI u3 d3, zCont cI axc cn] H locs := hW
          have hW : zW D A s.heap [[(x, .inr (4, [.ref (axb 0), .ref (axn 0), .int (zI xk), .ref xh, .ref (axt 0), .ref (axc 0)]))], zBoard cI axb b, [(xh, .inr (2, [.ref xa, .int (zI hn)]))], [zRefs cB xa (some (u0 0)) (some (u1 0)) (some (u2 0)) (some (u3 0))], zBoard cI u0 d0, zBoard cI u1 d1, zBoard cI u2 d2, zBoard cI u3 d3, zCont cI axc cn] H locs := hW.pick [1, 0, 2, 3, 4, 5, 6, 7, 8] rfl rfl
          refine W.eq (g2 := F0 m 64 ls [.int (zI (((jq : Int)) - nAhead b (bd_scn b rr_5)))]) rfl ?_
          rw [show (((jq : Int)) - nAhead b (bd_scn b rr_5)) = ((jq : Int) - ahC pC pO pq.2.1) by rw [hjs.2.1, RB_nAhead hR hjo.2.1]]
          refine lv_iload_n hx hb dX4_move_64 rfl (lv_at hl 4 rfl) ?_
          refine z_icmp_ne (tgt := 71) hx hb dX4_move_65 (by decide) (by omega) (fun cc_65 => ?_) (fun cc_65 => ?_)
          · refine lv_aload_n hx hb dX4_move_71 rfl (lv_at hl 1 rfl) ?_
            refine va_get (D := D) (ci := 4) (v := .ref xh) (C := RX4) (T := TX4) (N := 6) hx hb hts iX4_move_X4 hown hK.1 hW.1 0 rfl rfl 3 (by decide) (hts _ mX4_move_2) (fun _ h9 => h9) rfl dX4_move_72 ?_
            refine lv_aload_n hx hb dX4_move_75 rfl (lv_at hl 1 rfl) ?_
            refine va_get (D := D) (ci := 4) (v := .ref (axb 0)) (C := RX4) (T := TX4) (N := 6) hx hb hts iX4_move_X4 hown hK.1 hW.1 0 rfl rfl 0 (by decide) (hts _ mX4_move_1) (fun _ h9 => h9) rfl dX4_move_76 ?_
            refine z_callV (r := (RX2, TX2, 2)) (As := [.ref (axb 0)]) (rest := []) hS hK hA hW hl.1 [2, 3, 4, 5, 6, 7, 1] [0, 8] (kX2_remember l D cI cB xh xa hn u0 u1 u2 u3 d0 d1 d2 d3 axb b hs ((pC, pO, ev)) hHB hR) (cwV 1 hts gX4_move_X2_remember rfl rfl rfl (by decide +kernel) ⟨Nat.le_of_ble_eq_true rfl, Nat.le_of_ble_eq_true rfl⟩) (rfl : vwCl[2]? = some (RX2, TX2, 2)) (q0 := 9) rfl dX4_move_79 rfl rfl rfl rfl rfl (Nat.le_of_ble_eq_true rfl) ⟨Nat.le_of_ble_eq_true rfl, Nat.le_of_ble_eq_true rfl⟩ (fun v9 w9 H locs hq hW => ?_)
            obtain ⟨hnz_79, g0_79, g1_79, g2_79, g3_79, e0_79, e1_79, e2_79, e3_79, rfl, rfl, hh_79⟩ := hq
            have hW : zW D A s.heap [[(xh, .inr (2, [.ref xa, .int (zI hnz_79)]))], [zRefs cB xa (some (g0_79 0)) (some (g1_79 0)) (some (g2_79 0)) (some (g3_79 0))], zBoard cI g0_79 e0_79, zBoard cI g1_79 e1_79, zBoard cI g2_79 e2_79, zBoard cI g3_79 e3_79, zBoard cI axb b, [(x, .inr (4, [.ref (axb 0), .ref (axn 0), .int (zI xk), .ref xh, .ref (axt 0), .ref (axc 0)]))], zCont cI axc cn] H locs := hW
            have hW : zW D A s.heap [[(x, .inr (4, [.ref (axb 0), .ref (axn 0), .int (zI xk), .ref xh, .ref (axt 0), .ref (axc 0)]))], zBoard cI axb b, [(xh, .inr (2, [.ref xa, .int (zI hnz_79)]))], [zRefs cB xa (some (g0_79 0)) (some (g1_79 0)) (some (g2_79 0)) (some (g3_79 0))], zBoard cI g0_79 e0_79, zBoard cI g1_79 e1_79, zBoard cI g2_79 e2_79, zBoard cI g3_79 e3_79, zCont cI axc cn] H locs := hW.pick [7, 6, 0, 1, 2, 3, 4, 5, 8] rfl rfl
            refine W.eq (g2 := F0 m 82 ls []) rfl ?_
            refine lv_aload_n hx hb dX4_move_82 rfl (lv_at hl 1 rfl) ?_
            refine va_get (D := D) (ci := 4) (v := .ref (axb 0)) (C := RX4) (T := TX4) (N := 6) hx hb hts iX4_move_X4 hown hK.1 hW.1 0 rfl rfl 0 (by decide) (hts _ mX4_move_1) (fun _ h9 => h9) rfl dX4_move_83 ?_
            refine lv_iload hx hb dX4_move_86 (lv_at hl 0 rfl) ?_
            have hmA := RB_mv hR hjp.1 (s := y2) (pl := y3) (by omega) (by omega)
            rw [← hjl] at hmA
            refine z_callV (r := (RX0, TX0, 9)) (As := [.int (zI rr_5)]) (rest := []) hS hK hA hW hl.1 [1] [0, 2, 3, 4, 5, 6, 7, 8] (kX0_takeOut l D cI cB axb b rr_5 ((jq : Int)) hR.1 (by omega) hjt) (cwV 1 hts gX4_move_X0_takeOut rfl rfl rfl (by decide +kernel) ⟨Nat.le_of_ble_eq_true rfl, Nat.le_of_ble_eq_true rfl⟩) (rfl : vwCl[0]? = some (RX0, TX0, 9)) (q0 := 1) rfl dX4_move_88 rfl rfl rfl rfl rfl (Nat.le_of_ble_eq_true rfl) ⟨Nat.le_of_ble_eq_true rfl, Nat.le_of_ble_eq_true rfl⟩ (fun v9 w9 H locs hq hW => ?_)
            obtain ⟨rfl, rfl, hh_88⟩ := hq
            have hW : zW D A s.heap [zBoard cI axb (takeOutB b ((jq : Int))), [(x, .inr (4, [.ref (axb 0), .ref (axn 0), .int (zI xk), .ref xh, .ref (axt 0), .ref (axc 0)]))], [(xh, .inr (2, [.ref xa, .int (zI hnz_79)]))], [zRefs cB xa (some (g0_79 0)) (some (g1_79 0)) (some (g2_79 0)) (some (g3_79 0))], zBoard cI g0_79 e0_79, zBoard cI g1_79 e1_79, zBoard cI g2_79 e2_79, zBoard cI g3_79 e3_79, zCont cI axc cn] H locs := hW
            have hW : zW D A s.heap [[(x, .inr (4, [.ref (axb 0), .ref (axn 0), .int (zI xk), .ref xh, .ref (axt 0), .ref (axc 0)]))], zBoard cI axb (takeOutB b ((jq : Int))), [(xh, .inr (2, [.ref xa, .int (zI hnz_79)]))], [zRefs cB xa (some (g0_79 0)) (some (g1_79 0)) (some (g2_79 0)) (some (g3_79 0))], zBoard cI g0_79 e0_79, zBoard cI g1_79 e1_79, zBoard cI g2_79 e2_79, zBoard cI g3_79 e3_79, zCont cI axc cn] H locs := hW.pick [1, 0, 2, 3, 4, 5, 6, 7, 8] rfl rfl
            refine W.eq (g2 := F0 m 91 ls []) rfl ?_
            refine lv_aload_n hx hb dX4_move_91 rfl (lv_at hl 1 rfl) ?_
            refine va_get (D := D) (ci := 4) (v := .ref (axb 0)) (C := RX4) (T := TX4) (N := 6) hx hb hts iX4_move_X4 hown hK.1 hW.1 0 rfl rfl 0 (by decide) (hts _ mX4_move_1) (fun _ h9 => h9) rfl dX4_move_92 ?_
            refine lv_iload hx hb dX4_move_95 (lv_at hl 0 rfl) ?_
            refine lv_iload_n hx hb dX4_move_97 rfl (lv_at hl 3 rfl) ?_
            refine lv_iload_n hx hb dX4_move_98 rfl (lv_at hl 4 rfl) ?_
            refine z_callV (r := (RX0, TX0, 9)) (As := [.int (zI rr_5), .int (zI y2), .int (zI y3)]) (rest := []) hS hK hA hW hl.1 [1] [0, 2, 3, 4, 5, 6, 7, 8] (kX0_putIn l D cI cB axb ((takeOutB b ((jq : Int)))) rr_5 y2 y3 hmA.1 (by omega) (by omega) hmA.2.1 (by rw [hmA.2.2.1]; exact hmA.2.2.2.1)) (cwV 3 hts gX4_move_X0_putIn rfl rfl rfl (by decide +kernel) ⟨Nat.le_of_ble_eq_true rfl, Nat.le_of_ble_eq_true rfl⟩) (rfl : vwCl[0]? = some (RX0, TX0, 9)) (q0 := 1) rfl dX4_move_99 rfl rfl rfl rfl rfl (Nat.le_of_ble_eq_true rfl) ⟨Nat.le_of_ble_eq_true rfl, Nat.le_of_ble_eq_true rfl⟩ (fun v9 w9 H locs hq hW => ?_)
            obtain ⟨rfl, rfl, hh_99⟩ := hq
            have hW : zW D A s.heap [zBoard cI axb (putInB ((takeOutB b ((jq : Int)))) rr_5 y2 (nAhead (bd_scn_ ((takeOutB b ((jq : Int)))) (zU (bd_scn ((takeOutB b ((jq : Int))))) rr_5 y2)) y2 + y3)), [(x, .inr (4, [.ref (axb 0), .ref (axn 0), .int (zI xk), .ref xh, .ref (axt 0), .ref (axc 0)]))], [(xh, .inr (2, [.ref xa, .int (zI hnz_79)]))], [zRefs cB xa (some (g0_79 0)) (some (g1_79 0)) (some (g2_79 0)) (some (g3_79 0))], zBoard cI g0_79 e0_79, zBoard cI g1_79 e1_79, zBoard cI g2_79 e2_79, zBoard cI g3_79 e3_79, zCont cI axc cn] H locs := hW
            have hW : zW D A s.heap [[(x, .inr (4, [.ref (axb 0), .ref (axn 0), .int (zI xk), .ref xh, .ref (axt 0), .ref (axc 0)]))], zBoard cI axb (putInB ((takeOutB b ((jq : Int)))) rr_5 y2 (nAhead (bd_scn_ ((takeOutB b ((jq : Int)))) (zU (bd_scn ((takeOutB b ((jq : Int))))) rr_5 y2)) y2 + y3)), [(xh, .inr (2, [.ref xa, .int (zI hnz_79)]))], [zRefs cB xa (some (g0_79 0)) (some (g1_79 0)) (some (g2_79 0)) (some (g3_79 0))], zBoard cI g0_79 e0_79, zBoard cI g1_79 e1_79, zBoard cI g2_79 e2_79, zBoard cI g3_79 e3_79, zCont cI axc cn] H locs := hW.pick [1, 0, 2, 3, 4, 5, 6, 7, 8] rfl rfl
            refine W.eq (g2 := F0 m 102 ls []) rfl ?_
            rw [hmA.2.2.1] at hW
            have hW : zW D A s.heap [[(x, .inr (4, [.ref (axb 0), .ref (axn 0), .int (zI xk), .ref xh, .ref (axt 0), .ref (axc 0)]))], zBoard cI axb (putInB (takeOutB b (jq : Int)) rr_5 y2 (ahC (pC.eraseIdx jq) pO y2 + y3)), [(xh, .inr (2, [.ref xa, .int (zI hnz_79)]))], [zRefs cB xa (some (g0_79 0)) (some (g1_79 0)) (some (g2_79 0)) (some (g3_79 0))], zBoard cI g0_79 e0_79, zBoard cI g1_79 e1_79, zBoard cI g2_79 e2_79, zBoard cI g3_79 e3_79, zCont cI axc cn] H locs := hW
            refine lv_aload_n hx hb dX4_move_102 rfl (lv_at hl 1 rfl) ?_
            refine z_callV (r := (RX4, TX4, 6)) (As := []) (rest := []) hS hK hA hW hl.1 [0, 1, 8] [2, 3, 4, 5, 6, 7] (kX4_breaksNow l D cI cB x axb axn xk xh axt axc ((putInB (takeOutB b (jq : Int)) rr_5 y2 (ahC (pC.eraseIdx jq) pO y2 + y3))) cn ((mvC pC pO jq pq y2 y3)) pO ev hmA.2.2.2.2) (cwV 0 hts gX4_move_X4_breaksNow rfl rfl rfl (by decide +kernel) ⟨Nat.le_of_ble_eq_true rfl, Nat.le_of_ble_eq_true rfl⟩) (rfl : vwCl[4]? = some (RX4, TX4, 6)) (q0 := 0) rfl dX4_move_103 rfl rfl rfl rfl rfl (Nat.le_of_ble_eq_true rfl) ⟨Nat.le_of_ble_eq_true rfl, Nat.le_of_ble_eq_true rfl⟩ (fun v9 w9 H locs hq hW => ?_)
            obtain ⟨rr_103, cz_103, rfl, rfl, hh_103⟩ := hq
            have hW : zW D A s.heap [[(x, .inr (4, [.ref (axb 0), .ref (axn 0), .int (zI xk), .ref xh, .ref (axt 0), .ref (axc 0)]))], zBoard cI axb (putInB (takeOutB b (jq : Int)) rr_5 y2 (ahC (pC.eraseIdx jq) pO y2 + y3)), zCont cI axc cz_103, [(xh, .inr (2, [.ref xa, .int (zI hnz_79)]))], [zRefs cB xa (some (g0_79 0)) (some (g1_79 0)) (some (g2_79 0)) (some (g3_79 0))], zBoard cI g0_79 e0_79, zBoard cI g1_79 e1_79, zBoard cI g2_79 e2_79, zBoard cI g3_79 e3_79] H locs := hW
            have hW : zW D A s.heap [[(x, .inr (4, [.ref (axb 0), .ref (axn 0), .int (zI xk), .ref xh, .ref (axt 0), .ref (axc 0)]))], zBoard cI axb (putInB (takeOutB b (jq : Int)) rr_5 y2 (ahC (pC.eraseIdx jq) pO y2 + y3)), [(xh, .inr (2, [.ref xa, .int (zI hnz_79)]))], [zRefs cB xa (some (g0_79 0)) (some (g1_79 0)) (some (g2_79 0)) (some (g3_79 0))], zBoard cI g0_79 e0_79, zBoard cI g1_79 e1_79, zBoard cI g2_79 e2_79, zBoard cI g3_79 e3_79, zCont cI axc cz_103] H locs := hW.pick [0, 1, 3, 4, 5, 6, 7, 8, 2] rfl rfl
            refine W.eq (g2 := F0 m 106 ls [.int (zI rr_103)]) rfl ?_
            rw [show rr_103 = (nbM pC pO jq pq y2 y3) by exact hh_103.1]
            exact z_iret (v := nbM pC pO jq pq y2 y3) hx hb hr hlk hW dX4_move_106 (by
                exact ⟨nbM pC pO jq pq y2 y3, (putInB (takeOutB b (jq : Int)) rr_5 y2 (ahC (pC.eraseIdx jq) pO y2 + y3)), hnz_79, g0_79, g1_79, g2_79, g3_79, e0_79, e1_79, e2_79, e3_79, cz_103, rfl, rfl, by exact ⟨_, _, Or.inr ⟨by omega, jq, pq, hjp, Or.inr ⟨by omega, Or.inr ⟨by first | exact fun hq => cc_52 hq.1 | exact fun hq => cc_65 (by rw [cc_52]; exact hq.2), rfl, rfl, rfl⟩⟩⟩, hmA.2.2.2.2, hh_79⟩⟩)
          · refine lv_bipush (v := zI (-5)) hx hb dX4_move_68 (by decide +kernel) ?_
            exact z_iret (v := (-5)) hx hb hr hlk hW dX4_move_70 (by
                exact ⟨(-5), b, hn, u0, u1, u2, u3, d0, d1, d2, d3, cn, rfl, rfl, by exact ⟨_, _, Or.inr ⟨by omega, jq, pq, hjp, Or.inr ⟨by omega, Or.inl ⟨⟨cc_52, by rw [← cc_52]; exact cc_65⟩, rfl, rfl, rfl⟩⟩⟩, hR, hHB⟩⟩)
      · refine lv_bipush (v := zI (-2)) hx hb dX4_move_39 (by decide +kernel) ?_
        exact z_iret (v := (-2)) hx hb hr hlk hW dX4_move_41 (by
            exact ⟨(-2), b, hn, u0, u1, u2, u3, d0, d1, d2, d3, cn, rfl, rfl, by exact ⟨_, _, Or.inr ⟨by omega, jq, pq, hjp, Or.inl ⟨by omega, rfl, rfl, rfl⟩⟩, hR, hHB⟩⟩)
    · refine lv_iconst (v := zI (-1)) hx hb dX4_move_23 rfl ?_
      exact z_iret (v := (-1)) hx hb hr hlk hW dX4_move_24 (by
          exact ⟨(-1), b, hn, u0, u1, u2, u3, d0, d1, d2, d3, cn, rfl, rfl, by refine ⟨_, _, Or.inl ⟨?_, rfl, rfl, rfl⟩, hR, hHB⟩; first | exact Or.inl (hfd.resolve_right (by rintro ⟨hq, -⟩; omega)).2 | exact Or.inr (by omega)⟩)

abbrev qX4_time (cI : ClassId) (x : Nat) (axb axn : Nat → Nat) (xk : Int) (xh : Nat) (axt axc : Nat → Nat) (b : zBS) (xa : Nat) (hn : Int) (u0 : Nat → Nat) (u1 : Nat → Nat) (u2 : Nat → Nat) (u3 : Nat → Nat) (d0 : zBS) (d1 : zBS) (d2 : zBS) (d3 : zBS) (y1 y2 : Int) (pC : List zPn) (pO : List Int) (ev : Int) (hs : List zSt) (cB : ClassId) : Option Value → List va_W → Prop := fun vq wq => ∃ (r : Int) (bz : zBS) (hnz : Int) (v0 : Nat → Nat) (v1 : Nat → Nat) (v2 : Nat → Nat) (v3 : Nat → Nat) (e0 : zBS) (e1 : zBS) (e2 : zBS) (e3 : zBS), vq = some (.int (zI r)) ∧ wq = [[(x, .inr (4, [.ref (axb 0), .ref (axn 0), .int (zI xk), .ref xh, .ref (axt 0), .ref (axc 0)]))], zBoard cI axb bz, [(xh, .inr (2, [.ref xa, .int (zI hnz)]))], [zRefs cB xa (some (v0 0)) (some (v1 0)) (some (v2 0)) (some (v3 0))], zBoard cI v0 e0, zBoard cI v1 e1, zBoard cI v2 e2, zBoard cI v3 e3] ∧ (∃ (S2 : zSt) (hs2 : List zSt), (timR pC pO ev hs y1 y2 r S2 hs2) ∧ RBS bz S2 ∧ HB hnz e0 e1 e2 e3 hs2)
set_option maxRecDepth 20000 in
theorem iX4_time_X4 : ∀ w ∈ u_ws RX4 TX4 6, w ∈ wsX4_time := by decide +kernel
set_option maxRecDepth 20000 in
theorem mX4_time_1 : (.fieldLink RX4 12 "StoryPanels" "board" "LStoryPanels$Board;" : Cond) ∈ wsX4_time := by decide +kernel
set_option maxRecDepth 20000 in
theorem mX4_time_2 : (.fieldLink RX4 26 "StoryPanels" "history" "LStoryPanels$History;" : Cond) ∈ wsX4_time := by decide +kernel
set_option maxHeartbeats 4000000 in
set_option maxRecDepth 100000 in
theorem kX4_time (l : Launch) (D : va_G) (cI cB : ClassId) (x : Nat) (axb axn : Nat → Nat) (xk : Int) (xh : Nat) (axt axc : Nat → Nat) (b : zBS) (xa : Nat) (hn : Int) (u0 : Nat → Nat) (u1 : Nat → Nat) (u2 : Nat → Nat) (u3 : Nat → Nat) (d0 : zBS) (d1 : zBS) (d2 : zBS) (d3 : zBS) (y1 y2 : Int) (pC : List zPn) (pO : List Int) (ev : Int) (hs : List zSt) (hR : RB b pC pO ev) (hHB : HB hn d0 d1 d2 d3 hs) (hy1 : R32 y1) (hy2 : R32 y2) : zMet l yX4_time wsX4_time 3 65 0 0 D cI cB [.ref x, .int (zI y1), .int (zI y2)] [[(x, .inr (4, [.ref (axb 0), .ref (axn 0), .int (zI xk), .ref xh, .ref (axt 0), .ref (axc 0)]))], zBoard cI axb b, [(xh, .inr (2, [.ref xa, .int (zI hn)]))], [zRefs cB xa (some (u0 0)) (some (u1 0)) (some (u2 0)) (some (u3 0))], zBoard cI u0 d0, zBoard cI u1 d1, zBoard cI u2 d2, zBoard cI u3 d3] (qX4_time cI x axb axn xk xh axt axc b xa hn u0 u1 u2 u3 d0 d1 d2 d3 y1 y2 pC pO ev hs cB) := by
  refine zMet.of (cd := cX4_time) (maxL := 5) (ret := (some .int)) (by decide) rfl (Nat.le_of_ble_eq_true rfl) ?_
  intro p e s m args below meth c A ls hS hr hlk hnm hK hA hW hl
  have hS : CallFix p m c cX4_time 5 s args wsX4_time RX4 := hS
  have hx := hS.1
  have hb := hS.2.1
  have hown := hS.2.2.2.1
  have hts := hS.2.2.2.2
  have hl : lv_has ls 5 [(0, .ref x), (1, .int (zI y1)), (2, .int (zI y2))] := hl
  have hRz := hR.1.1
  have hRl := hR.2.1
  have hb1 := hHB.1
  have hb2 := hHB.2.1
  refine lv_aload_n hx hb dX4_time_0 rfl (lv_at hl 0 rfl) ?_
  refine va_get (D := D) (ci := 4) (v := .ref (axb 0)) (C := RX4) (T := TX4) (N := 6) hx hb hts iX4_time_X4 hown hK.1 hW.1 0 rfl rfl 0 (by decide) (hts _ mX4_time_1) (fun _ h9 => h9) rfl dX4_time_1 ?_
  refine lv_iload_n hx hb dX4_time_4 rfl (lv_at hl 1 rfl) ?_
  refine z_callV (r := (RX0, TX0, 9)) (As := [.int (zI y1)]) (rest := []) hS hK hA hW hl.1 [1] [0, 2, 3, 4, 5, 6, 7] (kX0_slotOf l D cI cB axb b y1 hR.1 (by omega)) (cwV 1 hts gX4_time_X0_slotOf rfl rfl rfl (by decide +kernel) ⟨Nat.le_of_ble_eq_true rfl, Nat.le_of_ble_eq_true rfl⟩) (rfl : vwCl[0]? = some (RX0, TX0, 9)) (q0 := 1) rfl dX4_time_5 rfl rfl rfl rfl rfl (Nat.le_of_ble_eq_true rfl) ⟨Nat.le_of_ble_eq_true rfl, Nat.le_of_ble_eq_true rfl⟩ (fun v9 w9 H locs hq hW => ?_)
  obtain ⟨rr_5, rfl, rfl, hh_5⟩ := hq
  have hW : zW D A s.heap [zBoard cI axb b, [(x, .inr (4, [.ref (axb 0), .ref (axn 0), .int (zI xk), .ref xh, .ref (axt 0), .ref (axc 0)]))], [(xh, .inr (2, [.ref xa, .int (zI hn)]))], [zRefs cB xa (some (u0 0)) (some (u1 0)) (some (u2 0)) (some (u3 0))], zBoard cI u0 d0, zBoard cI u1 d1, zBoard cI u2 d2, zBoard cI u3 d3] H locs := hW
  have hW : zW D A s.heap [[(x, .inr (4, [.ref (axb 0), .ref (axn 0), .int (zI xk), .ref xh, .ref (axt 0), .ref (axc 0)]))], zBoard cI axb b, [(xh, .inr (2, [.ref xa, .int (zI hn)]))], [zRefs cB xa (some (u0 0)) (some (u1 0)) (some (u2 0)) (some (u3 0))], zBoard cI u0 d0, zBoard cI u1 d1, zBoard cI u2 d2, zBoard cI u3 d3] H locs := hW.pick [1, 0, 2, 3, 4, 5, 6, 7] rfl rfl
  refine W.eq (g2 := F0 m 8 ls [.int (zI rr_5)]) rfl ?_
  have hfd := RB_find hR hh_5
  have hfr : -1 ≤ rr_5 ∧ rr_5 < 10 := by rcases hfd with hq | hq <;> omega
  refine lv_istore_n (lv' := [(3, .int (zI rr_5)), (0, .ref x), (1, .int (zI y1)), (2, .int (zI y2))]) hx hb dX4_time_8 rfl hl (by decide) rfl (fun ls hl => ?_)
  refine lv_iload_n hx hb dX4_time_9 rfl (lv_at hl 0 rfl) ?_
  refine lv_iconst (v := zI (-1)) hx hb dX4_time_10 rfl ?_
  refine z_icmp_ne (tgt := 16) hx hb dX4_time_11 (by decide) (by omega) (fun cc_11 => ?_) (fun cc_11 => ?_)
  · obtain ⟨hf1, jq, pq, hjp, hjl⟩ := hfd.resolve_left (fun hq => cc_11 hq.1)
    have hjs := hR.2.2.2.1 jq pq hjp.1
    rw [← hjl] at hjs
    have hjt := RB_at hR hjp.1
    rw [← hjl] at hjt
    have hjo := RB_pn hR pq (List.mem_of_getElem? hjp.1)
    have hjb := (List.getElem?_eq_some_iff.mp hjp.1).1
    have hcl := hjo.2.2.2.1
    have hjd := hjo.2.2.1
    have hjk := hjo.2.1
    refine lv_iload_n hx hb dX4_time_16 rfl (lv_at hl 3 rfl) ?_
    refine lv_iconst (v := zI (1)) hx hb dX4_time_17 rfl ?_
    refine z_icmp_lt (tgt := 27) hx hb dX4_time_18 (by decide) (by omega) (fun cc_18 => ?_) (fun cc_18 => ?_)
    · refine lv_bipush (v := zI (-2)) hx hb dX4_time_27 (by decide +kernel) ?_
      exact z_iret (v := (-2)) hx hb hr hlk hW dX4_time_29 (by
          exact ⟨(-2), b, hn, u0, u1, u2, u3, d0, d1, d2, d3, rfl, rfl, by exact ⟨_, _, Or.inr ⟨jq, pq, hjp, Or.inl ⟨by omega, rfl, rfl, rfl⟩⟩, hR, hHB⟩⟩)
    · refine lv_iload_n hx hb dX4_time_21 rfl (lv_at hl 3 rfl) ?_
      refine lv_bipush (v := zI (99)) hx hb dX4_time_22 (by decide +kernel) ?_
      refine z_icmp_le (tgt := 30) hx hb dX4_time_24 (by decide) (by omega) (fun cc_24 => ?_) (fun cc_24 => ?_)
      · refine lv_aload_n hx hb dX4_time_30 rfl (lv_at hl 1 rfl) ?_
        refine va_get (D := D) (ci := 4) (v := .ref (axb 0)) (C := RX4) (T := TX4) (N := 6) hx hb hts iX4_time_X4 hown hK.1 hW.1 0 rfl rfl 0 (by decide) (hts _ mX4_time_1) (fun _ h9 => h9) rfl dX4_time_31 ?_
        refine lv_iload_n hx hb dX4_time_34 rfl (lv_at hl 0 rfl) ?_
        refine z_callV (r := (RX0, TX0, 9)) (As := [.int (zI rr_5)]) (rest := []) hS hK hA hW hl.1 [1] [0, 2, 3, 4, 5, 6, 7] (kX0_durationOf l D cI cB axb b rr_5 hR.1 (by omega)) (cwV 1 hts gX4_time_X0_durationOf rfl rfl rfl (by decide +kernel) ⟨Nat.le_of_ble_eq_true rfl, Nat.le_of_ble_eq_true rfl⟩) (rfl : vwCl[0]? = some (RX0, TX0, 9)) (q0 := 1) rfl dX4_time_35 rfl rfl rfl rfl rfl (Nat.le_of_ble_eq_true rfl) ⟨Nat.le_of_ble_eq_true rfl, Nat.le_of_ble_eq_true rfl⟩ (fun v9 w9 H locs hq hW => ?_)
        obtain ⟨rr_35, rfl, rfl, hh_35⟩ := hq
        subst rr_35
        have hW : zW D A s.heap [zBoard cI axb b, [(x, .inr (4, [.ref (axb 0), .ref (axn 0), .int (zI xk), .ref xh, .ref (axt 0), .ref (axc 0)]))], [(xh, .inr (2, [.ref xa, .int (zI hn)]))], [zRefs cB xa (some (u0 0)) (some (u1 0)) (some (u2 0)) (some (u3 0))], zBoard cI u0 d0, zBoard cI u1 d1, zBoard cI u2 d2, zBoard cI u3 d3] H locs := hW
        have hW : zW D A s.heap [[(x, .inr (4, [.ref (axb 0), .ref (axn 0), .int (zI xk), .ref xh, .ref (axt 0), .ref (axc 0)]))], zBoard cI axb b, [(xh, .inr (2, [.ref xa, .int (zI hn)]))], [zRefs cB xa (some (u0 0)) (some (u1 0)) (some (u2 0)) (some (u3 0))], zBoard cI u0 d0, zBoard cI u1 d1, zBoard cI u2 d2, zBoard cI u3 d3] H locs := hW.pick [1, 0, 2, 3, 4, 5, 6, 7] rfl rfl
        refine W.eq (g2 := F0 m 38 ls [.int (zI (bd_dur b rr_5))]) rfl ?_
        rw [show (bd_dur b rr_5) = pq.2.2.1 by exact hjs.2.2.1]
        refine lv_istore (lv' := [(4, .int (zI pq.2.2.1)), (3, .int (zI rr_5)), (0, .ref x), (1, .int (zI y1)), (2, .int (zI y2))]) hx hb dX4_time_38 hl (by decide) rfl (fun ls hl => ?_)
        refine lv_iload hx hb dX4_time_40 (lv_at hl 0 rfl) ?_
        refine lv_iload_n hx hb dX4_time_42 rfl (lv_at hl 4 rfl) ?_
        refine z_icmp_ne (tgt := 49) hx hb dX4_time_43 (by decide) (by omega) (fun cc_43 => ?_) (fun cc_43 => ?_)
        · refine lv_aload_n hx hb dX4_time_49 rfl (lv_at hl 2 rfl) ?_
          refine va_get (D := D) (ci := 4) (v := .ref xh) (C := RX4) (T := TX4) (N := 6) hx hb hts iX4_time_X4 hown hK.1 hW.1 0 rfl rfl 3 (by decide) (hts _ mX4_time_2) (fun _ h9 => h9) rfl dX4_time_50 ?_
          refine lv_aload_n hx hb dX4_time_53 rfl (lv_at hl 2 rfl) ?_
          refine va_get (D := D) (ci := 4) (v := .ref (axb 0)) (C := RX4) (T := TX4) (N := 6) hx hb hts iX4_time_X4 hown hK.1 hW.1 0 rfl rfl 0 (by decide) (hts _ mX4_time_1) (fun _ h9 => h9) rfl dX4_time_54 ?_
          refine z_callV (r := (RX2, TX2, 2)) (As := [.ref (axb 0)]) (rest := []) hS hK hA hW hl.1 [2, 3, 4, 5, 6, 7, 1] [0] (kX2_remember l D cI cB xh xa hn u0 u1 u2 u3 d0 d1 d2 d3 axb b hs ((pC, pO, ev)) hHB hR) (cwV 1 hts gX4_time_X2_remember rfl rfl rfl (by decide +kernel) ⟨Nat.le_of_ble_eq_true rfl, Nat.le_of_ble_eq_true rfl⟩) (rfl : vwCl[2]? = some (RX2, TX2, 2)) (q0 := 9) rfl dX4_time_57 rfl rfl rfl rfl rfl (Nat.le_of_ble_eq_true rfl) ⟨Nat.le_of_ble_eq_true rfl, Nat.le_of_ble_eq_true rfl⟩ (fun v9 w9 H locs hq hW => ?_)
          obtain ⟨hnz_57, g0_57, g1_57, g2_57, g3_57, e0_57, e1_57, e2_57, e3_57, rfl, rfl, hh_57⟩ := hq
          have hW : zW D A s.heap [[(xh, .inr (2, [.ref xa, .int (zI hnz_57)]))], [zRefs cB xa (some (g0_57 0)) (some (g1_57 0)) (some (g2_57 0)) (some (g3_57 0))], zBoard cI g0_57 e0_57, zBoard cI g1_57 e1_57, zBoard cI g2_57 e2_57, zBoard cI g3_57 e3_57, zBoard cI axb b, [(x, .inr (4, [.ref (axb 0), .ref (axn 0), .int (zI xk), .ref xh, .ref (axt 0), .ref (axc 0)]))]] H locs := hW
          have hW : zW D A s.heap [[(x, .inr (4, [.ref (axb 0), .ref (axn 0), .int (zI xk), .ref xh, .ref (axt 0), .ref (axc 0)]))], zBoard cI axb b, [(xh, .inr (2, [.ref xa, .int (zI hnz_57)]))], [zRefs cB xa (some (g0_57 0)) (some (g1_57 0)) (some (g2_57 0)) (some (g3_57 0))], zBoard cI g0_57 e0_57, zBoard cI g1_57 e1_57, zBoard cI g2_57 e2_57, zBoard cI g3_57 e3_57] H locs := hW.pick [7, 6, 0, 1, 2, 3, 4, 5] rfl rfl
          refine W.eq (g2 := F0 m 60 ls []) rfl ?_
          refine lv_aload_n hx hb dX4_time_60 rfl (lv_at hl 2 rfl) ?_
          refine va_get (D := D) (ci := 4) (v := .ref (axb 0)) (C := RX4) (T := TX4) (N := 6) hx hb hts iX4_time_X4 hown hK.1 hW.1 0 rfl rfl 0 (by decide) (hts _ mX4_time_1) (fun _ h9 => h9) rfl dX4_time_61 ?_
          refine lv_iload_n hx hb dX4_time_64 rfl (lv_at hl 1 rfl) ?_
          refine lv_iload_n hx hb dX4_time_65 rfl (lv_at hl 4 rfl) ?_
          have hmA := RB_dur hR hjp.1 (d := y2) (by omega)
          rw [← hjl] at hmA
          refine z_callV (r := (RX0, TX0, 9)) (As := [.int (zI rr_5), .int (zI y2)]) (rest := []) hS hK hA hW hl.1 [1] [0, 2, 3, 4, 5, 6, 7] (kX0_setDuration l D cI cB axb b rr_5 y2 hR.1 (by omega)) (cwV 2 hts gX4_time_X0_setDuration rfl rfl rfl (by decide +kernel) ⟨Nat.le_of_ble_eq_true rfl, Nat.le_of_ble_eq_true rfl⟩) (rfl : vwCl[0]? = some (RX0, TX0, 9)) (q0 := 1) rfl dX4_time_66 rfl rfl rfl rfl rfl (Nat.le_of_ble_eq_true rfl) ⟨Nat.le_of_ble_eq_true rfl, Nat.le_of_ble_eq_true rfl⟩ (fun v9 w9 H locs hq hW => ?_)
          obtain ⟨rfl, rfl, hh_66⟩ := hq
          have hW : zW D A s.heap [zBoard cI axb (bd_dur_ b (zU (bd_dur b) rr_5 y2)), [(x, .inr (4, [.ref (axb 0), .ref (axn 0), .int (zI xk), .ref xh, .ref (axt 0), .ref (axc 0)]))], [(xh, .inr (2, [.ref xa, .int (zI hnz_57)]))], [zRefs cB xa (some (g0_57 0)) (some (g1_57 0)) (some (g2_57 0)) (some (g3_57 0))], zBoard cI g0_57 e0_57, zBoard cI g1_57 e1_57, zBoard cI g2_57 e2_57, zBoard cI g3_57 e3_57] H locs := hW
          have hW : zW D A s.heap [[(x, .inr (4, [.ref (axb 0), .ref (axn 0), .int (zI xk), .ref xh, .ref (axt 0), .ref (axc 0)]))], zBoard cI axb (bd_dur_ b (zU (bd_dur b) rr_5 y2)), [(xh, .inr (2, [.ref xa, .int (zI hnz_57)]))], [zRefs cB xa (some (g0_57 0)) (some (g1_57 0)) (some (g2_57 0)) (some (g3_57 0))], zBoard cI g0_57 e0_57, zBoard cI g1_57 e1_57, zBoard cI g2_57 e2_57, zBoard cI g3_57 e3_57] H locs := hW.pick [1, 0, 2, 3, 4, 5, 6, 7] rfl rfl
          refine W.eq (g2 := F0 m 69 ls []) rfl ?_
          refine lv_iload hx hb dX4_time_69 (lv_at hl 0 rfl) ?_
          exact z_iret (v := pq.2.2.1) hx hb hr hlk hW dX4_time_71 (by
              exact ⟨pq.2.2.1, (bd_dur_ b (zU (bd_dur b) rr_5 y2)), hnz_57, g0_57, g1_57, g2_57, g3_57, e0_57, e1_57, e2_57, e3_57, rfl, rfl, by exact ⟨_, _, Or.inr ⟨jq, pq, hjp, Or.inr ⟨by omega, Or.inr ⟨by omega, rfl, rfl, rfl⟩⟩⟩, hmA, hh_57⟩⟩)
        · refine lv_bipush (v := zI (-5)) hx hb dX4_time_46 (by decide +kernel) ?_
          exact z_iret (v := (-5)) hx hb hr hlk hW dX4_time_48 (by
              exact ⟨(-5), b, hn, u0, u1, u2, u3, d0, d1, d2, d3, rfl, rfl, by exact ⟨_, _, Or.inr ⟨jq, pq, hjp, Or.inr ⟨by omega, Or.inl ⟨by omega, rfl, rfl, rfl⟩⟩⟩, hR, hHB⟩⟩)
      · refine lv_bipush (v := zI (-2)) hx hb dX4_time_27 (by decide +kernel) ?_
        exact z_iret (v := (-2)) hx hb hr hlk hW dX4_time_29 (by
            exact ⟨(-2), b, hn, u0, u1, u2, u3, d0, d1, d2, d3, rfl, rfl, by exact ⟨_, _, Or.inr ⟨jq, pq, hjp, Or.inl ⟨by omega, rfl, rfl, rfl⟩⟩, hR, hHB⟩⟩)
  · refine lv_iconst (v := zI (-1)) hx hb dX4_time_14 rfl ?_
    exact z_iret (v := (-1)) hx hb hr hlk hW dX4_time_15 (by
        exact ⟨(-1), b, hn, u0, u1, u2, u3, d0, d1, d2, d3, rfl, rfl, by exact ⟨_, _, Or.inl ⟨(hfd.resolve_right (by rintro ⟨hq, -⟩; omega)).2, rfl, rfl, rfl⟩, hR, hHB⟩⟩)

abbrev qX4_undo (cI : ClassId) (x : Nat) (axb axn : Nat → Nat) (xk : Int) (xh : Nat) (axt axc : Nat → Nat) (b : zBS) (xa : Nat) (hn : Int) (u0 : Nat → Nat) (u1 : Nat → Nat) (u2 : Nat → Nat) (u3 : Nat → Nat) (d0 : zBS) (d1 : zBS) (d2 : zBS) (d3 : zBS) (pC : List zPn) (pO : List Int) (ev : Int) (hs : List zSt) (cB : ClassId) : Option Value → List va_W → Prop := fun vq wq => ∃ (r : Int) (bz : zBS) (hnz : Int) (v0 : Nat → Nat) (v1 : Nat → Nat) (v2 : Nat → Nat) (v3 : Nat → Nat) (e0 : zBS) (e1 : zBS) (e2 : zBS) (e3 : zBS), vq = some (.int (zI r)) ∧ wq = [[(x, .inr (4, [.ref (axb 0), .ref (axn 0), .int (zI xk), .ref xh, .ref (axt 0), .ref (axc 0)]))], zBoard cI axb bz, [(xh, .inr (2, [.ref xa, .int (zI hnz)]))], [zRefs cB xa (some (v0 0)) (some (v1 0)) (some (v2 0)) (some (v3 0))], zBoard cI v0 e0, zBoard cI v1 e1, zBoard cI v2 e2, zBoard cI v3 e3] ∧ (∃ (S2 : zSt) (hs2 : List zSt), (undR pC pO ev hs r S2 hs2) ∧ RBS bz S2 ∧ HB hnz e0 e1 e2 e3 hs2)
set_option maxRecDepth 20000 in
theorem iX4_undo_X4 : ∀ w ∈ u_ws RX4 TX4 6, w ∈ wsX4_undo := by decide +kernel
set_option maxRecDepth 20000 in
theorem mX4_undo_1 : (.fieldLink RX4 26 "StoryPanels" "history" "LStoryPanels$History;" : Cond) ∈ wsX4_undo := by decide +kernel
set_option maxRecDepth 20000 in
theorem iX4_undo_X2 : ∀ w ∈ u_ws RX2 TX2 2, w ∈ wsX4_undo := by decide +kernel
set_option maxRecDepth 20000 in
theorem mX4_undo_3 : (.fieldLink RX4 12 "StoryPanels" "board" "LStoryPanels$Board;" : Cond) ∈ wsX4_undo := by decide +kernel
set_option maxHeartbeats 4000000 in
set_option maxRecDepth 100000 in
theorem kX4_undo (l : Launch) (D : va_G) (cI cB : ClassId) (x : Nat) (axb axn : Nat → Nat) (xk : Int) (xh : Nat) (axt axc : Nat → Nat) (b : zBS) (xa : Nat) (hn : Int) (u0 : Nat → Nat) (u1 : Nat → Nat) (u2 : Nat → Nat) (u3 : Nat → Nat) (d0 : zBS) (d1 : zBS) (d2 : zBS) (d3 : zBS) (pC : List zPn) (pO : List Int) (ev : Int) (hs : List zSt) (hR : RB b pC pO ev) (hHB : HB hn d0 d1 d2 d3 hs) : zMet l yX4_undo wsX4_undo 3 65 0 0 D cI cB [.ref x] [[(x, .inr (4, [.ref (axb 0), .ref (axn 0), .int (zI xk), .ref xh, .ref (axt 0), .ref (axc 0)]))], zBoard cI axb b, [(xh, .inr (2, [.ref xa, .int (zI hn)]))], [zRefs cB xa (some (u0 0)) (some (u1 0)) (some (u2 0)) (some (u3 0))], zBoard cI u0 d0, zBoard cI u1 d1, zBoard cI u2 d2, zBoard cI u3 d3] (qX4_undo cI x axb axn xk xh axt axc b xa hn u0 u1 u2 u3 d0 d1 d2 d3 pC pO ev hs cB) := by
  refine zMet.of (cd := cX4_undo) (maxL := 1) (ret := (some .int)) (by decide) rfl (Nat.le_of_ble_eq_true rfl) ?_
  intro p e s m args below meth c A ls hS hr hlk hnm hK hA hW hl
  have hS : CallFix p m c cX4_undo 1 s args wsX4_undo RX4 := hS
  have hx := hS.1
  have hb := hS.2.1
  have hown := hS.2.2.2.1
  have hts := hS.2.2.2.2
  have hl : lv_has ls 1 [(0, .ref x)] := hl
  have hRz := hR.1.1
  have hRl := hR.2.1
  have hb1 := hHB.1
  have hb2 := hHB.2.1
  refine lv_aload_n hx hb dX4_undo_0 rfl (lv_at hl 0 rfl) ?_
  refine va_get (D := D) (ci := 4) (v := .ref xh) (C := RX4) (T := TX4) (N := 6) hx hb hts iX4_undo_X4 hown hK.1 hW.1 0 rfl rfl 3 (by decide) (hts _ mX4_undo_1) (fun _ h9 => h9) rfl dX4_undo_1 ?_
  refine va_getN (D := D) (ci := 2) (v := .int (zI hn)) (C := RX2) (T := TX2) (N := 2) hx hb hts iX4_undo_X2 hown hK.1 hW.1 9 rfl rfl 1 (by decide) (va_Nw.use rfl (hK.2 _ nm_2)) (fun _ h9 => h9) rfl dX4_undo_4 ?_
  refine z_if_ne (tgt := 13) hx hb dX4_undo_7 (by decide) (by omega) (fun cc_7 => ?_) (fun cc_7 => ?_)
  · refine lv_aload_n hx hb dX4_undo_13 rfl (lv_at hl 0 rfl) ?_
    refine va_get (D := D) (ci := 4) (v := .ref xh) (C := RX4) (T := TX4) (N := 6) hx hb hts iX4_undo_X4 hown hK.1 hW.1 0 rfl rfl 3 (by decide) (hts _ mX4_undo_1) (fun _ h9 => h9) rfl dX4_undo_14 ?_
    refine lv_aload_n hx hb dX4_undo_17 rfl (lv_at hl 0 rfl) ?_
    refine va_get (D := D) (ci := 4) (v := .ref (axb 0)) (C := RX4) (T := TX4) (N := 6) hx hb hts iX4_undo_X4 hown hK.1 hW.1 0 rfl rfl 0 (by decide) (hts _ mX4_undo_3) (fun _ h9 => h9) rfl dX4_undo_18 ?_
    refine z_callV (r := (RX2, TX2, 2)) (As := [.ref (axb 0)]) (rest := []) hS hK hA hW hl.1 [2, 3, 4, 5, 6, 7, 1] [0] (kX2_takeBack l D cI cB xh xa hn u0 u1 u2 u3 d0 d1 d2 d3 axb b hs hHB (by omega)) (cwV 1 hts gX4_undo_X2_takeBack rfl rfl rfl (by decide +kernel) ⟨Nat.le_of_ble_eq_true rfl, Nat.le_of_ble_eq_true rfl⟩) (rfl : vwCl[2]? = some (RX2, TX2, 2)) (q0 := 9) rfl dX4_undo_21 rfl rfl rfl rfl rfl (Nat.le_of_ble_eq_true rfl) ⟨Nat.le_of_ble_eq_true rfl, Nat.le_of_ble_eq_true rfl⟩ (fun v9 w9 H locs hq hW => ?_)
    obtain ⟨bz_21, rfl, rfl, hh_21⟩ := hq
    have hW : zW D A s.heap [[(xh, .inr (2, [.ref xa, .int (zI (hn - 1))]))], [zRefs cB xa (some (u0 0)) (some (u1 0)) (some (u2 0)) (some (u3 0))], zBoard cI u0 d0, zBoard cI u1 d1, zBoard cI u2 d2, zBoard cI u3 d3, zBoard cI axb bz_21, [(x, .inr (4, [.ref (axb 0), .ref (axn 0), .int (zI xk), .ref xh, .ref (axt 0), .ref (axc 0)]))]] H locs := hW
    have hW : zW D A s.heap [[(x, .inr (4, [.ref (axb 0), .ref (axn 0), .int (zI xk), .ref xh, .ref (axt 0), .ref (axc 0)]))], zBoard cI axb bz_21, [(xh, .inr (2, [.ref xa, .int (zI (hn - 1))]))], [zRefs cB xa (some (u0 0)) (some (u1 0)) (some (u2 0)) (some (u3 0))], zBoard cI u0 d0, zBoard cI u1 d1, zBoard cI u2 d2, zBoard cI u3 d3] H locs := hW.pick [7, 6, 0, 1, 2, 3, 4, 5] rfl rfl
    refine W.eq (g2 := F0 m 24 ls []) rfl ?_
    obtain ⟨hqa, Sq, hqb, hqc⟩ := hh_21
    refine lv_aload_n hx hb dX4_undo_24 rfl (lv_at hl 0 rfl) ?_
    refine va_get (D := D) (ci := 4) (v := .ref xh) (C := RX4) (T := TX4) (N := 6) hx hb hts iX4_undo_X4 hown hK.1 hW.1 0 rfl rfl 3 (by decide) (hts _ mX4_undo_1) (fun _ h9 => h9) rfl dX4_undo_25 ?_
    refine va_getN (D := D) (ci := 2) (v := .int (zI (hn - 1))) (C := RX2) (T := TX2) (N := 2) hx hb hts iX4_undo_X2 hown hK.1 hW.1 9 rfl rfl 1 (by decide) (va_Nw.use rfl (hK.2 _ nm_2)) (fun _ h9 => h9) rfl dX4_undo_28 ?_
    exact z_iret (v := hn - 1) hx hb hr hlk hW dX4_undo_31 (by
        exact ⟨hn - 1, bz_21, hn - 1, u0, u1, u2, u3, d0, d1, d2, d3, rfl, rfl, by exact ⟨Sq, _, Or.inr ⟨by omega, by omega, hqb, rfl⟩, hqc, hqa⟩⟩)
  · refine lv_bipush (v := zI (-5)) hx hb dX4_undo_10 (by decide +kernel) ?_
    exact z_iret (v := (-5)) hx hb hr hlk hW dX4_undo_12 (by
        exact ⟨(-5), b, hn, u0, u1, u2, u3, d0, d1, d2, d3, rfl, rfl, by exact ⟨_, _, Or.inl ⟨by omega, rfl, rfl, rfl⟩, hR, hHB⟩⟩)

abbrev qX4_keep (cI : ClassId) (x : Nat) (axb axn : Nat → Nat) (xk : Int) (xh : Nat) (axt axc : Nat → Nat) (b : zBS) (bn : zBS) (pC : List zPn) (pO : List Int) (ev : Int) (cB : ClassId) : Option Value → List va_W → Prop := fun vq wq => ∃ (r : Int) (xkz : Int) (bnz : zBS), vq = some (.int (zI r)) ∧ wq = [[(x, .inr (4, [.ref (axb 0), .ref (axn 0), .int (zI xkz), .ref xh, .ref (axt 0), .ref (axc 0)]))], zBoard cI axb b, zBoard cI axn bnz] ∧ (r = (pC.length : Int) ∧ xkz = 1 ∧ RBS bnz (pC, pO, ev))
set_option maxRecDepth 20000 in
theorem iX4_keep_X4 : ∀ w ∈ u_ws RX4 TX4 6, w ∈ wsX4_keep := by decide +kernel
set_option maxRecDepth 20000 in
theorem mX4_keep_1 : (.fieldLink RX4 16 "StoryPanels" "snapshot" "LStoryPanels$Board;" : Cond) ∈ wsX4_keep := by decide +kernel
set_option maxRecDepth 20000 in
theorem mX4_keep_2 : (.fieldLink RX4 12 "StoryPanels" "board" "LStoryPanels$Board;" : Cond) ∈ wsX4_keep := by decide +kernel
set_option maxRecDepth 20000 in
theorem mX4_keep_3 : (.fieldLink RX4 19 "StoryPanels" "snapshotTaken" "Z" : Cond) ∈ wsX4_keep := by decide +kernel
set_option maxRecDepth 20000 in
theorem iX4_keep_X0 : ∀ w ∈ u_ws RX0 TX0 9, w ∈ wsX4_keep := by decide +kernel
set_option maxHeartbeats 4000000 in
set_option maxRecDepth 100000 in
theorem kX4_keep (l : Launch) (D : va_G) (cI cB : ClassId) (x : Nat) (axb axn : Nat → Nat) (xk : Int) (xh : Nat) (axt axc : Nat → Nat) (b : zBS) (bn : zBS) (pC : List zPn) (pO : List Int) (ev : Int) (hR : RB b pC pO ev) : zMet l yX4_keep wsX4_keep 2 43 0 0 D cI cB [.ref x] [[(x, .inr (4, [.ref (axb 0), .ref (axn 0), .int (zI xk), .ref xh, .ref (axt 0), .ref (axc 0)]))], zBoard cI axb b, zBoard cI axn bn] (qX4_keep cI x axb axn xk xh axt axc b bn pC pO ev cB) := by
  refine zMet.of (cd := cX4_keep) (maxL := 1) (ret := (some .int)) (by decide) rfl (Nat.le_of_ble_eq_true rfl) ?_
  intro p e s m args below meth c A ls hS hr hlk hnm hK hA hW hl
  have hS : CallFix p m c cX4_keep 1 s args wsX4_keep RX4 := hS
  have hx := hS.1
  have hb := hS.2.1
  have hown := hS.2.2.2.1
  have hts := hS.2.2.2.2
  have hl : lv_has ls 1 [(0, .ref x)] := hl
  have hRz := hR.1.1
  have hRl := hR.2.1
  refine lv_aload_n hx hb dX4_keep_0 rfl (lv_at hl 0 rfl) ?_
  refine va_get (D := D) (ci := 4) (v := .ref (axn 0)) (C := RX4) (T := TX4) (N := 6) hx hb hts iX4_keep_X4 hown hK.1 hW.1 0 rfl rfl 1 (by decide) (hts _ mX4_keep_1) (fun _ h9 => h9) rfl dX4_keep_1 ?_
  refine lv_aload_n hx hb dX4_keep_4 rfl (lv_at hl 0 rfl) ?_
  refine va_get (D := D) (ci := 4) (v := .ref (axb 0)) (C := RX4) (T := TX4) (N := 6) hx hb hts iX4_keep_X4 hown hK.1 hW.1 0 rfl rfl 0 (by decide) (hts _ mX4_keep_2) (fun _ h9 => h9) rfl dX4_keep_5 ?_
  refine z_callV (r := (RX0, TX0, 9)) (As := [.ref (axb 0)]) (rest := []) hS hK hA hW hl.1 [2, 1] [0] (kX0_copyFrom l D cI cB axn bn axb b) (cwV 1 hts gX4_keep_X0_copyFrom rfl rfl rfl (by decide +kernel) ⟨Nat.le_of_ble_eq_true rfl, Nat.le_of_ble_eq_true rfl⟩) (rfl : vwCl[0]? = some (RX0, TX0, 9)) (q0 := 9) rfl dX4_keep_8 rfl rfl rfl rfl rfl (Nat.le_of_ble_eq_true rfl) ⟨Nat.le_of_ble_eq_true rfl, Nat.le_of_ble_eq_true rfl⟩ (fun v9 w9 H locs hq hW => ?_)
  obtain ⟨rfl, rfl, hh_8⟩ := hq
  have hW : zW D A s.heap [zBoard cI axn (zcpB bn b), zBoard cI axb b, [(x, .inr (4, [.ref (axb 0), .ref (axn 0), .int (zI xk), .ref xh, .ref (axt 0), .ref (axc 0)]))]] H locs := hW
  have hW : zW D A s.heap [[(x, .inr (4, [.ref (axb 0), .ref (axn 0), .int (zI xk), .ref xh, .ref (axt 0), .ref (axc 0)]))], zBoard cI axb b, zBoard cI axn (zcpB bn b)] H locs := hW.pick [2, 1, 0] rfl rfl
  refine W.eq (g2 := F0 m 11 ls []) rfl ?_
  refine lv_aload_n hx hb dX4_keep_11 rfl (lv_at hl 0 rfl) ?_
  refine lv_iconst (v := zI (1)) hx hb dX4_keep_12 rfl ?_
  refine va_put (D := D) (ci := 4) (v := .int (zI 1)) (ty := .boolean) (C := RX4) (T := TX4) (N := 6) hx hb hts iX4_keep_X4 tyX4 tyX4_ok nmX4 hown hK.1 hW.1 hW.2.1 hW.2.2 0 rfl rfl 2 (by decide) (hts _ mX4_keep_3) (fun _ h9 => h9) rfl (by decide +kernel) (by decide +kernel) rfl (Nat.le_of_ble_eq_true rfl) dX4_keep_13 (fun H locs h1 h2 h3 => ?_)
  have hW : zW D A s.heap [[(x, .inr (4, [.ref (axb 0), .ref (axn 0), .int (zI 1), .ref xh, .ref (axt 0), .ref (axc 0)]))], zBoard cI axb b, zBoard cI axn (zcpB bn b)] H locs := ⟨h1, h2, h3⟩
  refine lv_aload_n hx hb dX4_keep_16 rfl (lv_at hl 0 rfl) ?_
  refine va_get (D := D) (ci := 4) (v := .ref (axb 0)) (C := RX4) (T := TX4) (N := 6) hx hb hts iX4_keep_X4 hown hK.1 hW.1 0 rfl rfl 0 (by decide) (hts _ mX4_keep_2) (fun _ h9 => h9) rfl dX4_keep_17 ?_
  refine va_getN (D := D) (ci := 0) (v := .int (zI (bd_sz b))) (C := RX0) (T := TX0) (N := 9) hx hb hts iX4_keep_X0 hown hK.1 hW.1 1 rfl rfl 7 (by decide) (va_Nw.use rfl (hK.2 _ nm_0)) (fun _ h9 => h9) rfl dX4_keep_20 ?_
  exact z_iret (v := bd_sz b) hx hb hr hlk hW dX4_keep_23 (by
      exact ⟨bd_sz b, 1, (zcpB bn b), rfl, rfl, by exact ⟨hRl, rfl, RB_cp hR⟩⟩)

abbrev qX4_restore (cI : ClassId) (x : Nat) (axb axn : Nat → Nat) (xk : Int) (xh : Nat) (axt axc : Nat → Nat) (b : zBS) (bn : zBS) (xa : Nat) (hn : Int) (u0 : Nat → Nat) (u1 : Nat → Nat) (u2 : Nat → Nat) (u3 : Nat → Nat) (d0 : zBS) (d1 : zBS) (d2 : zBS) (d3 : zBS) (pC : List zPn) (pO : List Int) (ev : Int) (hs : List zSt) (Sn : zSt) (cB : ClassId) : Option Value → List va_W → Prop := fun vq wq => ∃ (r : Int) (bz : zBS) (hnz : Int) (v0 : Nat → Nat) (v1 : Nat → Nat) (v2 : Nat → Nat) (v3 : Nat → Nat) (e0 : zBS) (e1 : zBS) (e2 : zBS) (e3 : zBS), vq = some (.int (zI r)) ∧ wq = [[(x, .inr (4, [.ref (axb 0), .ref (axn 0), .int (zI xk), .ref xh, .ref (axt 0), .ref (axc 0)]))], zBoard cI axb bz, zBoard cI axn bn, [(xh, .inr (2, [.ref xa, .int (zI hnz)]))], [zRefs cB xa (some (v0 0)) (some (v1 0)) (some (v2 0)) (some (v3 0))], zBoard cI v0 e0, zBoard cI v1 e1, zBoard cI v2 e2, zBoard cI v3 e3] ∧ (∃ (S2 : zSt) (hs2 : List zSt), (resR pC pO ev hs xk Sn r S2 hs2) ∧ RBS bz S2 ∧ HB hnz e0 e1 e2 e3 hs2)
set_option maxRecDepth 20000 in
theorem iX4_restore_X4 : ∀ w ∈ u_ws RX4 TX4 6, w ∈ wsX4_restore := by decide +kernel
set_option maxRecDepth 20000 in
theorem mX4_restore_1 : (.fieldLink RX4 19 "StoryPanels" "snapshotTaken" "Z" : Cond) ∈ wsX4_restore := by decide +kernel
set_option maxRecDepth 20000 in
theorem mX4_restore_2 : (.fieldLink RX4 26 "StoryPanels" "history" "LStoryPanels$History;" : Cond) ∈ wsX4_restore := by decide +kernel
set_option maxRecDepth 20000 in
theorem mX4_restore_3 : (.fieldLink RX4 12 "StoryPanels" "board" "LStoryPanels$Board;" : Cond) ∈ wsX4_restore := by decide +kernel
set_option maxRecDepth 20000 in
theorem mX4_restore_4 : (.fieldLink RX4 16 "StoryPanels" "snapshot" "LStoryPanels$Board;" : Cond) ∈ wsX4_restore := by decide +kernel
set_option maxRecDepth 20000 in
theorem iX4_restore_X0 : ∀ w ∈ u_ws RX0 TX0 9, w ∈ wsX4_restore := by decide +kernel
set_option maxHeartbeats 4000000 in
set_option maxRecDepth 100000 in
theorem kX4_restore (l : Launch) (D : va_G) (cI cB : ClassId) (x : Nat) (axb axn : Nat → Nat) (xk : Int) (xh : Nat) (axt axc : Nat → Nat) (b : zBS) (bn : zBS) (xa : Nat) (hn : Int) (u0 : Nat → Nat) (u1 : Nat → Nat) (u2 : Nat → Nat) (u3 : Nat → Nat) (d0 : zBS) (d1 : zBS) (d2 : zBS) (d3 : zBS) (pC : List zPn) (pO : List Int) (ev : Int) (hs : List zSt) (Sn : zSt) (hR : RB b pC pO ev) (hHB : HB hn d0 d1 d2 d3 hs) (hRn : RBS bn Sn) (hxk : 0 ≤ xk ∧ xk < 2) : zMet l yX4_restore wsX4_restore 3 65 0 0 D cI cB [.ref x] [[(x, .inr (4, [.ref (axb 0), .ref (axn 0), .int (zI xk), .ref xh, .ref (axt 0), .ref (axc 0)]))], zBoard cI axb b, zBoard cI axn bn, [(xh, .inr (2, [.ref xa, .int (zI hn)]))], [zRefs cB xa (some (u0 0)) (some (u1 0)) (some (u2 0)) (some (u3 0))], zBoard cI u0 d0, zBoard cI u1 d1, zBoard cI u2 d2, zBoard cI u3 d3] (qX4_restore cI x axb axn xk xh axt axc b bn xa hn u0 u1 u2 u3 d0 d1 d2 d3 pC pO ev hs Sn cB) := by
  refine zMet.of (cd := cX4_restore) (maxL := 1) (ret := (some .int)) (by decide) rfl (Nat.le_of_ble_eq_true rfl) ?_
  intro p e s m args below meth c A ls hS hr hlk hnm hK hA hW hl
  have hS : CallFix p m c cX4_restore 1 s args wsX4_restore RX4 := hS
  have hx := hS.1
  have hb := hS.2.1
  have hown := hS.2.2.2.1
  have hts := hS.2.2.2.2
  have hl : lv_has ls 1 [(0, .ref x)] := hl
  have hRz := hR.1.1
  have hRl := hR.2.1
  have hb1 := hHB.1
  have hb2 := hHB.2.1
  refine lv_aload_n hx hb dX4_restore_0 rfl (lv_at hl 0 rfl) ?_
  refine va_get (D := D) (ci := 4) (v := .int (zI xk)) (C := RX4) (T := TX4) (N := 6) hx hb hts iX4_restore_X4 hown hK.1 hW.1 0 rfl rfl 2 (by decide) (hts _ mX4_restore_1) (fun _ h9 => h9) rfl dX4_restore_1 ?_
  refine z_if_ne (tgt := 10) hx hb dX4_restore_4 (by decide) (by omega) (fun cc_4 => ?_) (fun cc_4 => ?_)
  · refine lv_aload_n hx hb dX4_restore_10 rfl (lv_at hl 0 rfl) ?_
    refine va_get (D := D) (ci := 4) (v := .ref xh) (C := RX4) (T := TX4) (N := 6) hx hb hts iX4_restore_X4 hown hK.1 hW.1 0 rfl rfl 3 (by decide) (hts _ mX4_restore_2) (fun _ h9 => h9) rfl dX4_restore_11 ?_
    refine lv_aload_n hx hb dX4_restore_14 rfl (lv_at hl 0 rfl) ?_
    refine va_get (D := D) (ci := 4) (v := .ref (axb 0)) (C := RX4) (T := TX4) (N := 6) hx hb hts iX4_restore_X4 hown hK.1 hW.1 0 rfl rfl 0 (by decide) (hts _ mX4_restore_3) (fun _ h9 => h9) rfl dX4_restore_15 ?_
    refine z_callV (r := (RX2, TX2, 2)) (As := [.ref (axb 0)]) (rest := []) hS hK hA hW hl.1 [3, 4, 5, 6, 7, 8, 1] [0, 2] (kX2_remember l D cI cB xh xa hn u0 u1 u2 u3 d0 d1 d2 d3 axb b hs ((pC, pO, ev)) hHB hR) (cwV 1 hts gX4_restore_X2_remember rfl rfl rfl (by decide +kernel) ⟨Nat.le_of_ble_eq_true rfl, Nat.le_of_ble_eq_true rfl⟩) (rfl : vwCl[2]? = some (RX2, TX2, 2)) (q0 := 17) rfl dX4_restore_18 rfl rfl rfl rfl rfl (Nat.le_of_ble_eq_true rfl) ⟨Nat.le_of_ble_eq_true rfl, Nat.le_of_ble_eq_true rfl⟩ (fun v9 w9 H locs hq hW => ?_)
    obtain ⟨hnz_18, g0_18, g1_18, g2_18, g3_18, e0_18, e1_18, e2_18, e3_18, rfl, rfl, hh_18⟩ := hq
    have hW : zW D A s.heap [[(xh, .inr (2, [.ref xa, .int (zI hnz_18)]))], [zRefs cB xa (some (g0_18 0)) (some (g1_18 0)) (some (g2_18 0)) (some (g3_18 0))], zBoard cI g0_18 e0_18, zBoard cI g1_18 e1_18, zBoard cI g2_18 e2_18, zBoard cI g3_18 e3_18, zBoard cI axb b, [(x, .inr (4, [.ref (axb 0), .ref (axn 0), .int (zI xk), .ref xh, .ref (axt 0), .ref (axc 0)]))], zBoard cI axn bn] H locs := hW
    have hW : zW D A s.heap [[(x, .inr (4, [.ref (axb 0), .ref (axn 0), .int (zI xk), .ref xh, .ref (axt 0), .ref (axc 0)]))], zBoard cI axb b, zBoard cI axn bn, [(xh, .inr (2, [.ref xa, .int (zI hnz_18)]))], [zRefs cB xa (some (g0_18 0)) (some (g1_18 0)) (some (g2_18 0)) (some (g3_18 0))], zBoard cI g0_18 e0_18, zBoard cI g1_18 e1_18, zBoard cI g2_18 e2_18, zBoard cI g3_18 e3_18] H locs := hW.pick [7, 6, 8, 0, 1, 2, 3, 4, 5] rfl rfl
    refine W.eq (g2 := F0 m 21 ls []) rfl ?_
    refine lv_aload_n hx hb dX4_restore_21 rfl (lv_at hl 0 rfl) ?_
    refine va_get (D := D) (ci := 4) (v := .ref (axb 0)) (C := RX4) (T := TX4) (N := 6) hx hb hts iX4_restore_X4 hown hK.1 hW.1 0 rfl rfl 0 (by decide) (hts _ mX4_restore_3) (fun _ h9 => h9) rfl dX4_restore_22 ?_
    refine lv_aload_n hx hb dX4_restore_25 rfl (lv_at hl 0 rfl) ?_
    refine va_get (D := D) (ci := 4) (v := .ref (axn 0)) (C := RX4) (T := TX4) (N := 6) hx hb hts iX4_restore_X4 hown hK.1 hW.1 0 rfl rfl 1 (by decide) (hts _ mX4_restore_4) (fun _ h9 => h9) rfl dX4_restore_26 ?_
    refine z_callV (r := (RX0, TX0, 9)) (As := [.ref (axn 0)]) (rest := []) hS hK hA hW hl.1 [1, 2] [0, 3, 4, 5, 6, 7, 8] (kX0_copyFrom l D cI cB axb b axn bn) (cwV 1 hts gX4_restore_X0_copyFrom rfl rfl rfl (by decide +kernel) ⟨Nat.le_of_ble_eq_true rfl, Nat.le_of_ble_eq_true rfl⟩) (rfl : vwCl[0]? = some (RX0, TX0, 9)) (q0 := 1) rfl dX4_restore_29 rfl rfl rfl rfl rfl (Nat.le_of_ble_eq_true rfl) ⟨Nat.le_of_ble_eq_true rfl, Nat.le_of_ble_eq_true rfl⟩ (fun v9 w9 H locs hq hW => ?_)
    obtain ⟨rfl, rfl, hh_29⟩ := hq
    have hW : zW D A s.heap [zBoard cI axb (zcpB b bn), zBoard cI axn bn, [(x, .inr (4, [.ref (axb 0), .ref (axn 0), .int (zI xk), .ref xh, .ref (axt 0), .ref (axc 0)]))], [(xh, .inr (2, [.ref xa, .int (zI hnz_18)]))], [zRefs cB xa (some (g0_18 0)) (some (g1_18 0)) (some (g2_18 0)) (some (g3_18 0))], zBoard cI g0_18 e0_18, zBoard cI g1_18 e1_18, zBoard cI g2_18 e2_18, zBoard cI g3_18 e3_18] H locs := hW
    have hW : zW D A s.heap [[(x, .inr (4, [.ref (axb 0), .ref (axn 0), .int (zI xk), .ref xh, .ref (axt 0), .ref (axc 0)]))], zBoard cI axb (zcpB b bn), zBoard cI axn bn, [(xh, .inr (2, [.ref xa, .int (zI hnz_18)]))], [zRefs cB xa (some (g0_18 0)) (some (g1_18 0)) (some (g2_18 0)) (some (g3_18 0))], zBoard cI g0_18 e0_18, zBoard cI g1_18 e1_18, zBoard cI g2_18 e2_18, zBoard cI g3_18 e3_18] H locs := hW.pick [2, 0, 1, 3, 4, 5, 6, 7, 8] rfl rfl
    refine W.eq (g2 := F0 m 32 ls []) rfl ?_
    refine lv_aload_n hx hb dX4_restore_32 rfl (lv_at hl 0 rfl) ?_
    refine va_get (D := D) (ci := 4) (v := .ref (axb 0)) (C := RX4) (T := TX4) (N := 6) hx hb hts iX4_restore_X4 hown hK.1 hW.1 0 rfl rfl 0 (by decide) (hts _ mX4_restore_3) (fun _ h9 => h9) rfl dX4_restore_33 ?_
    refine va_getN (D := D) (ci := 0) (v := .int (zI (bd_sz (zcpB b bn)))) (C := RX0) (T := TX0) (N := 9) hx hb hts iX4_restore_X0 hown hK.1 hW.1 1 rfl rfl 7 (by decide) (va_Nw.use rfl (hK.2 _ nm_0)) (fun _ h9 => h9) rfl dX4_restore_36 ?_
    exact z_iret (v := bd_sz (zcpB b bn)) hx hb hr hlk hW dX4_restore_39 (by
        exact ⟨bd_sz (zcpB b bn), (zcpB b bn), hnz_18, g0_18, g1_18, g2_18, g3_18, e0_18, e1_18, e2_18, e3_18, rfl, rfl, by exact ⟨_, _, Or.inr ⟨by omega, hRn.2.1, rfl, rfl⟩, RB_cp hRn, hh_18⟩⟩)
  · refine lv_bipush (v := zI (-5)) hx hb dX4_restore_7 (by decide +kernel) ?_
    exact z_iret (v := (-5)) hx hb hr hlk hW dX4_restore_9 (by
        exact ⟨(-5), b, hn, u0, u1, u2, u3, d0, d1, d2, d3, rfl, rfl, by exact ⟨_, _, Or.inl ⟨by omega, rfl, rfl, rfl⟩, hR, hHB⟩⟩)
