abbrev qX4_moveScene (cI : ClassId) (x : Nat) (axb axn : Nat → Nat) (xk : Int) (xh : Nat) (axt axc : Nat → Nat) (b : zBS) (xa : Nat) (hn : Int) (u0 : Nat → Nat) (u1 : Nat → Nat) (u2 : Nat → Nat) (u3 : Nat → Nat) (d0 : zBS) (d1 : zBS) (d2 : zBS) (d3 : zBS) (cn : zCS) (y1 y2 : Int) (pC : List zPn) (pO : List Int) (ev : Int) (hs : List zSt) (cB : ClassId) : Option Value → List va_W → Prop := fun vq wq => ∃ (r : Int) (bz : zBS) (hnz : Int) (v0 : Nat → Nat) (v1 : Nat → Nat) (v2 : Nat → Nat) (v3 : Nat → Nat) (e0 : zBS) (e1 : zBS) (e2 : zBS) (e3 : zBS) (cz : zCS), vq = some (.int (zI r)) ∧ wq = [[(x, .inr (4, [.ref (axb 0), .ref (axn 0), .int (zI xk), .ref xh, .ref (axt 0), .ref (axc 0)]))], zBoard cI axb bz, [(xh, .inr (2, [.ref xa, .int (zI hnz)]))], [zRefs cB xa (some (v0 0)) (some (v1 0)) (some (v2 0)) (some (v3 0))], zBoard cI v0 e0, zBoard cI v1 e1, zBoard cI v2 e2, zBoard cI v3 e3, zCont cI axc cz] ∧ (∃ (S2 : zSt) (hs2 : List zSt), (sceR pC pO ev hs y1 y2 r S2 hs2) ∧ RBS bz S2 ∧ HB hnz e0 e1 e2 e3 hs2)
set_option maxRecDepth 20000 in
theorem iX4_moveScene_X4 : ∀ w ∈ u_ws RX4 TX4 6, w ∈ wsX4_moveScene := by decide +kernel
set_option maxRecDepth 20000 in
theorem mX4_moveScene_1 : (.fieldLink RX4 12 "StoryPanels" "board" "LStoryPanels$Board;" : Cond) ∈ wsX4_moveScene := by decide +kernel
set_option maxRecDepth 20000 in
theorem mX4_moveScene_2 : (.fieldLink RX4 26 "StoryPanels" "history" "LStoryPanels$History;" : Cond) ∈ wsX4_moveScene := by decide +kernel
set_option maxHeartbeats 4000000 in
set_option maxRecDepth 100000 in
theorem kX4_moveScene (l : Launch) (D : va_G) (cI cB : ClassId) (x : Nat) (axb axn : Nat → Nat) (xk : Int) (xh : Nat) (axt axc : Nat → Nat) (b : zBS) (xa : Nat) (hn : Int) (u0 : Nat → Nat) (u1 : Nat → Nat) (u2 : Nat → Nat) (u3 : Nat → Nat) (d0 : zBS) (d1 : zBS) (d2 : zBS) (d3 : zBS) (cn : zCS) (y1 y2 : Int) (pC : List zPn) (pO : List Int) (ev : Int) (hs : List zSt) (hR : RB b pC pO ev) (hHB : HB hn d0 d1 d2 d3 hs) (hy1 : R32 y1) (hy2 : R32 y2) : zMet l yX4_moveScene wsX4_moveScene 5 125 0 0 D cI cB [.ref x, .int (zI y1), .int (zI y2)] [[(x, .inr (4, [.ref (axb 0), .ref (axn 0), .int (zI xk), .ref xh, .ref (axt 0), .ref (axc 0)]))], zBoard cI axb b, [(xh, .inr (2, [.ref xa, .int (zI hn)]))], [zRefs cB xa (some (u0 0)) (some (u1 0)) (some (u2 0)) (some (u3 0))], zBoard cI u0 d0, zBoard cI u1 d1, zBoard cI u2 d2, zBoard cI u3 d3, zCont cI axc cn] (qX4_moveScene cI x axb axn xk xh axt axc b xa hn u0 u1 u2 u3 d0 d1 d2 d3 cn y1 y2 pC pO ev hs cB) := by
  refine zMet.of (cd := cX4_moveScene) (maxL := 3) (ret := (some .int)) (by decide) rfl (Nat.le_of_ble_eq_true rfl) ?_
  intro p e s m args below meth c A ls hS hr hlk hnm hK hA hW hl
  have hS : CallFix p m c cX4_moveScene 3 s args wsX4_moveScene RX4 := hS
  have hx := hS.1
  have hb := hS.2.1
  have hown := hS.2.2.2.1
  have hts := hS.2.2.2.2
  have hl : lv_has ls 3 [(0, .ref x), (1, .int (zI y1)), (2, .int (zI y2))] := hl
  have hRz := hR.1.1
  have hRl := hR.2.1
  have hb1 := hHB.1
  have hb2 := hHB.2.1
  refine lv_iload_n hx hb dX4_moveScene_0 rfl (lv_at hl 1 rfl) ?_
  refine z_callS (As := [.int (zI y1)]) (rest := []) hS hK hA hW hl.1 [] [0, 1, 2, 3, 4, 5, 6, 7, 8] (kX4_isScene l D cI cB y1 (by omega)) (va_cwS 1 hts gX4_moveScene_X4_isScene rfl rfl rfl (by decide +kernel) ⟨Nat.le_of_ble_eq_true rfl, Nat.le_of_ble_eq_true rfl⟩) dX4_moveScene_1 rfl rfl rfl rfl rfl (Nat.le_of_ble_eq_true rfl) ⟨Nat.le_of_ble_eq_true rfl, Nat.le_of_ble_eq_true rfl⟩ (fun v9 w9 H locs hq hW => ?_)
  obtain ⟨rr_1, rfl, rfl, hh_1⟩ := hq
  have hW : zW D A s.heap [[(x, .inr (4, [.ref (axb 0), .ref (axn 0), .int (zI xk), .ref xh, .ref (axt 0), .ref (axc 0)]))], zBoard cI axb b, [(xh, .inr (2, [.ref xa, .int (zI hn)]))], [zRefs cB xa (some (u0 0)) (some (u1 0)) (some (u2 0)) (some (u3 0))], zBoard cI u0 d0, zBoard cI u1 d1, zBoard cI u2 d2, zBoard cI u3 d3, zCont cI axc cn] H locs := hW
  refine W.eq (g2 := F0 m 4 ls [.int (zI rr_1)]) rfl ?_
  refine z_if_ne (tgt := 9) hx hb dX4_moveScene_4 (by decide) (by omega) (fun cc_4 => ?_) (fun cc_4 => ?_)
  · refine lv_iload_n hx hb dX4_moveScene_9 rfl (lv_at hl 2 rfl) ?_
    refine z_callS (As := [.int (zI y2)]) (rest := []) hS hK hA hW hl.1 [] [0, 1, 2, 3, 4, 5, 6, 7, 8] (kX4_isScenePlace l D cI cB y2 (by omega)) (va_cwS 1 hts gX4_moveScene_X4_isScenePlace rfl rfl rfl (by decide +kernel) ⟨Nat.le_of_ble_eq_true rfl, Nat.le_of_ble_eq_true rfl⟩) dX4_moveScene_10 rfl rfl rfl rfl rfl (Nat.le_of_ble_eq_true rfl) ⟨Nat.le_of_ble_eq_true rfl, Nat.le_of_ble_eq_true rfl⟩ (fun v9 w9 H locs hq hW => ?_)
    obtain ⟨rr_10, rfl, rfl, hh_10⟩ := hq
    have hW : zW D A s.heap [[(x, .inr (4, [.ref (axb 0), .ref (axn 0), .int (zI xk), .ref xh, .ref (axt 0), .ref (axc 0)]))], zBoard cI axb b, [(xh, .inr (2, [.ref xa, .int (zI hn)]))], [zRefs cB xa (some (u0 0)) (some (u1 0)) (some (u2 0)) (some (u3 0))], zBoard cI u0 d0, zBoard cI u1 d1, zBoard cI u2 d2, zBoard cI u3 d3, zCont cI axc cn] H locs := hW
    refine W.eq (g2 := F0 m 13 ls [.int (zI rr_10)]) rfl ?_
    refine z_if_ne (tgt := 19) hx hb dX4_moveScene_13 (by decide) (by omega) (fun cc_13 => ?_) (fun cc_13 => ?_)
    · refine lv_aload_n hx hb dX4_moveScene_19 rfl (lv_at hl 0 rfl) ?_
      refine va_get (D := D) (ci := 4) (v := .ref (axb 0)) (C := RX4) (T := TX4) (N := 6) hx hb hts iX4_moveScene_X4 hown hK.1 hW.1 0 rfl rfl 0 (by decide) (hts _ mX4_moveScene_1) (fun _ h9 => h9) rfl dX4_moveScene_20 ?_
      refine lv_iload_n hx hb dX4_moveScene_23 rfl (lv_at hl 1 rfl) ?_
      refine z_callV (r := (RX0, TX0, 9)) (As := [.int (zI y1)]) (rest := []) hS hK hA hW hl.1 [1] [0, 2, 3, 4, 5, 6, 7, 8] (kX0_placeOfScene l D cI cB axb b y1 hR.1 (by omega)) (cwV 1 hts gX4_moveScene_X0_placeOfScene rfl rfl rfl (by decide +kernel) ⟨Nat.le_of_ble_eq_true rfl, Nat.le_of_ble_eq_true rfl⟩) (rfl : vwCl[0]? = some (RX0, TX0, 9)) (q0 := 1) rfl dX4_moveScene_24 rfl rfl rfl rfl rfl (Nat.le_of_ble_eq_true rfl) ⟨Nat.le_of_ble_eq_true rfl, Nat.le_of_ble_eq_true rfl⟩ (fun v9 w9 H locs hq hW => ?_)
      obtain ⟨rr_24, rfl, rfl, hh_24⟩ := hq
      subst rr_24
      have hW : zW D A s.heap [zBoard cI axb b, [(x, .inr (4, [.ref (axb 0), .ref (axn 0), .int (zI xk), .ref xh, .ref (axt 0), .ref (axc 0)]))], [(xh, .inr (2, [.ref xa, .int (zI hn)]))], [zRefs cB xa (some (u0 0)) (some (u1 0)) (some (u2 0)) (some (u3 0))], zBoard cI u0 d0, zBoard cI u1 d1, zBoard cI u2 d2, zBoard cI u3 d3, zCont cI axc cn] H locs := hW
      have hW : zW D A s.heap [[(x, .inr (4, [.ref (axb 0), .ref (axn 0), .int (zI xk), .ref xh, .ref (axt 0), .ref (axc 0)]))], zBoard cI axb b, [(xh, .inr (2, [.ref xa, .int (zI hn)]))], [zRefs cB xa (some (u0 0)) (some (u1 0)) (some (u2 0)) (some (u3 0))], zBoard cI u0 d0, zBoard cI u1 d1, zBoard cI u2 d2, zBoard cI u3 d3, zCont cI axc cn] H locs := hW.pick [1, 0, 2, 3, 4, 5, 6, 7, 8] rfl rfl
      refine W.eq (g2 := F0 m 27 ls [.int (zI (bd_plc b y1))]) rfl ?_
      have hix := hR.2.2.2.2.2.2.2.2.1 y1 (by omega) (by omega)
      have hix2 := hR.1.2.2.2.2.2.2.2.2 y1 (by omega) (by omega)
      rw [hix] at hix2
      rw [show (bd_plc b y1) = ((pO.idxOf y1 : Int)) by exact hR.2.2.2.2.2.2.2.2.1 _ (by omega) (by omega)]
      refine lv_iload_n hx hb dX4_moveScene_27 rfl (lv_at hl 2 rfl) ?_
      refine z_icmp_ne (tgt := 34) hx hb dX4_moveScene_28 (by decide) (by omega) (fun cc_28 => ?_) (fun cc_28 => ?_)
      · refine lv_aload_n hx hb dX4_moveScene_34 rfl (lv_at hl 0 rfl) ?_
        refine va_get (D := D) (ci := 4) (v := .ref xh) (C := RX4) (T := TX4) (N := 6) hx hb hts iX4_moveScene_X4 hown hK.1 hW.1 0 rfl rfl 3 (by decide) (hts _ mX4_moveScene_2) (fun _ h9 => h9) rfl dX4_moveScene_35 ?_
        refine lv_aload_n hx hb dX4_moveScene_38 rfl (lv_at hl 0 rfl) ?_
        refine va_get (D := D) (ci := 4) (v := .ref (axb 0)) (C := RX4) (T := TX4) (N := 6) hx hb hts iX4_moveScene_X4 hown hK.1 hW.1 0 rfl rfl 0 (by decide) (hts _ mX4_moveScene_1) (fun _ h9 => h9) rfl dX4_moveScene_39 ?_
        refine z_callV (r := (RX2, TX2, 2)) (As := [.ref (axb 0)]) (rest := []) hS hK hA hW hl.1 [2, 3, 4, 5, 6, 7, 1] [0, 8] (kX2_remember l D cI cB xh xa hn u0 u1 u2 u3 d0 d1 d2 d3 axb b hs ((pC, pO, ev)) hHB hR) (cwV 1 hts gX4_moveScene_X2_remember rfl rfl rfl (by decide +kernel) ⟨Nat.le_of_ble_eq_true rfl, Nat.le_of_ble_eq_true rfl⟩) (rfl : vwCl[2]? = some (RX2, TX2, 2)) (q0 := 9) rfl dX4_moveScene_42 rfl rfl rfl rfl rfl (Nat.le_of_ble_eq_true rfl) ⟨Nat.le_of_ble_eq_true rfl, Nat.le_of_ble_eq_true rfl⟩ (fun v9 w9 H locs hq hW => ?_)
        obtain ⟨hnz_42, g0_42, g1_42, g2_42, g3_42, e0_42, e1_42, e2_42, e3_42, rfl, rfl, hh_42⟩ := hq
        have hW : zW D A s.heap [[(xh, .inr (2, [.ref xa, .int (zI hnz_42)]))], [zRefs cB xa (some (g0_42 0)) (some (g1_42 0)) (some (g2_42 0)) (some (g3_42 0))], zBoard cI g0_42 e0_42, zBoard cI g1_42 e1_42, zBoard cI g2_42 e2_42, zBoard cI g3_42 e3_42, zBoard cI axb b, [(x, .inr (4, [.ref (axb 0), .ref (axn 0), .int (zI xk), .ref xh, .ref (axt 0), .ref (axc 0)]))], zCont cI axc cn] H locs := hW
        have hW : zW D A s.heap [[(x, .inr (4, [.ref (axb 0), .ref (axn 0), .int (zI xk), .ref xh, .ref (axt 0), .ref (axc 0)]))], zBoard cI axb b, [(xh, .inr (2, [.ref xa, .int (zI hnz_42)]))], [zRefs cB xa (some (g0_42 0)) (some (g1_42 0)) (some (g2_42 0)) (some (g3_42 0))], zBoard cI g0_42 e0_42, zBoard cI g1_42 e1_42, zBoard cI g2_42 e2_42, zBoard cI g3_42 e3_42, zCont cI axc cn] H locs := hW.pick [7, 6, 0, 1, 2, 3, 4, 5, 8] rfl rfl
        refine W.eq (g2 := F0 m 45 ls []) rfl ?_
        refine lv_aload_n hx hb dX4_moveScene_45 rfl (lv_at hl 0 rfl) ?_
        refine va_get (D := D) (ci := 4) (v := .ref (axb 0)) (C := RX4) (T := TX4) (N := 6) hx hb hts iX4_moveScene_X4 hown hK.1 hW.1 0 rfl rfl 0 (by decide) (hts _ mX4_moveScene_1) (fun _ h9 => h9) rfl dX4_moveScene_46 ?_
        refine lv_iload_n hx hb dX4_moveScene_49 rfl (lv_at hl 1 rfl) ?_
        refine lv_iload_n hx hb dX4_moveScene_50 rfl (lv_at hl 2 rfl) ?_
        refine z_callV (r := (RX0, TX0, 9)) (As := [.int (zI y1), .int (zI y2)]) (rest := []) hS hK hA hW hl.1 [1] [0, 2, 3, 4, 5, 6, 7, 8] (kX0_putSceneAt l D cI cB axb b y1 y2 hR.1 (by omega) (by omega)) (cwV 2 hts gX4_moveScene_X0_putSceneAt rfl rfl rfl (by decide +kernel) ⟨Nat.le_of_ble_eq_true rfl, Nat.le_of_ble_eq_true rfl⟩) (rfl : vwCl[0]? = some (RX0, TX0, 9)) (q0 := 1) rfl dX4_moveScene_51 rfl rfl rfl rfl rfl (Nat.le_of_ble_eq_true rfl) ⟨Nat.le_of_ble_eq_true rfl, Nat.le_of_ble_eq_true rfl⟩ (fun v9 w9 H locs hq hW => ?_)
        obtain ⟨fz_51, rfl, rfl, hh_51⟩ := hq
        have hW : zW D A s.heap [zBoard cI axb (bd_lin_ (bd_plc_ b (plcM b y1 y2)) fz_51), [(x, .inr (4, [.ref (axb 0), .ref (axn 0), .int (zI xk), .ref xh, .ref (axt 0), .ref (axc 0)]))], [(xh, .inr (2, [.ref xa, .int (zI hnz_42)]))], [zRefs cB xa (some (g0_42 0)) (some (g1_42 0)) (some (g2_42 0)) (some (g3_42 0))], zBoard cI g0_42 e0_42, zBoard cI g1_42 e1_42, zBoard cI g2_42 e2_42, zBoard cI g3_42 e3_42, zCont cI axc cn] H locs := hW
        have hW : zW D A s.heap [[(x, .inr (4, [.ref (axb 0), .ref (axn 0), .int (zI xk), .ref xh, .ref (axt 0), .ref (axc 0)]))], zBoard cI axb (bd_lin_ (bd_plc_ b (plcM b y1 y2)) fz_51), [(xh, .inr (2, [.ref xa, .int (zI hnz_42)]))], [zRefs cB xa (some (g0_42 0)) (some (g1_42 0)) (some (g2_42 0)) (some (g3_42 0))], zBoard cI g0_42 e0_42, zBoard cI g1_42 e1_42, zBoard cI g2_42 e2_42, zBoard cI g3_42 e3_42, zCont cI axc cn] H locs := hW.pick [1, 0, 2, 3, 4, 5, 6, 7, 8] rfl rfl
        refine W.eq (g2 := F0 m 54 ls []) rfl ?_
        have hmA := RB_mvO hR (s := y1) (pl := y2) (by omega) (by omega) hh_51
        refine lv_aload_n hx hb dX4_moveScene_54 rfl (lv_at hl 0 rfl) ?_
        refine z_callV (r := (RX4, TX4, 6)) (As := []) (rest := []) hS hK hA hW hl.1 [0, 1, 8] [2, 3, 4, 5, 6, 7] (kX4_breaksNow l D cI cB x axb axn xk xh axt axc ((bd_lin_ (bd_plc_ b (plcM b y1 y2)) fz_51)) cn ((ordC pC (mvO pO y1 y2))) ((mvO pO y1 y2)) ev hmA) (cwV 0 hts gX4_moveScene_X4_breaksNow rfl rfl rfl (by decide +kernel) ⟨Nat.le_of_ble_eq_true rfl, Nat.le_of_ble_eq_true rfl⟩) (rfl : vwCl[4]? = some (RX4, TX4, 6)) (q0 := 0) rfl dX4_moveScene_55 rfl rfl rfl rfl rfl (Nat.le_of_ble_eq_true rfl) ⟨Nat.le_of_ble_eq_true rfl, Nat.le_of_ble_eq_true rfl⟩ (fun v9 w9 H locs hq hW => ?_)
        obtain ⟨rr_55, cz_55, rfl, rfl, hh_55⟩ := hq
        have hW : zW D A s.heap [[(x, .inr (4, [.ref (axb 0), .ref (axn 0), .int (zI xk), .ref xh, .ref (axt 0), .ref (axc 0)]))], zBoard cI axb (bd_lin_ (bd_plc_ b (plcM b y1 y2)) fz_51), zCont cI axc cz_55, [(xh, .inr (2, [.ref xa, .int (zI hnz_42)]))], [zRefs cB xa (some (g0_42 0)) (some (g1_42 0)) (some (g2_42 0)) (some (g3_42 0))], zBoard cI g0_42 e0_42, zBoard cI g1_42 e1_42, zBoard cI g2_42 e2_42, zBoard cI g3_42 e3_42] H locs := hW
        have hW : zW D A s.heap [[(x, .inr (4, [.ref (axb 0), .ref (axn 0), .int (zI xk), .ref xh, .ref (axt 0), .ref (axc 0)]))], zBoard cI axb (bd_lin_ (bd_plc_ b (plcM b y1 y2)) fz_51), [(xh, .inr (2, [.ref xa, .int (zI hnz_42)]))], [zRefs cB xa (some (g0_42 0)) (some (g1_42 0)) (some (g2_42 0)) (some (g3_42 0))], zBoard cI g0_42 e0_42, zBoard cI g1_42 e1_42, zBoard cI g2_42 e2_42, zBoard cI g3_42 e3_42, zCont cI axc cz_55] H locs := hW.pick [0, 1, 3, 4, 5, 6, 7, 8, 2] rfl rfl
        refine W.eq (g2 := F0 m 58 ls [.int (zI rr_55)]) rfl ?_
        rw [show rr_55 = (nbC (ordC pC (mvO pO y1 y2))) by exact hh_55.1]
        exact z_iret (v := nbC (ordC pC (mvO pO y1 y2))) hx hb hr hlk hW dX4_moveScene_58 (by
            exact ⟨nbC (ordC pC (mvO pO y1 y2)), (bd_lin_ (bd_plc_ b (plcM b y1 y2)) fz_51), hnz_42, g0_42, g1_42, g2_42, g3_42, e0_42, e1_42, e2_42, e3_42, cz_55, rfl, rfl, by exact ⟨_, _, Or.inr ⟨by omega, Or.inr ⟨by omega, Or.inr ⟨by omega, rfl, rfl, rfl⟩⟩⟩, hmA, hh_42⟩⟩)
      · refine lv_bipush (v := zI (-5)) hx hb dX4_moveScene_31 (by decide +kernel) ?_
        exact z_iret (v := (-5)) hx hb hr hlk hW dX4_moveScene_33 (by
            exact ⟨(-5), b, hn, u0, u1, u2, u3, d0, d1, d2, d3, cn, rfl, rfl, by exact ⟨_, _, Or.inr ⟨by omega, Or.inr ⟨by omega, Or.inl ⟨by omega, rfl, rfl, rfl⟩⟩⟩, hR, hHB⟩⟩)
    · refine lv_bipush (v := zI (-2)) hx hb dX4_moveScene_16 (by decide +kernel) ?_
      exact z_iret (v := (-2)) hx hb hr hlk hW dX4_moveScene_18 (by
          exact ⟨(-2), b, hn, u0, u1, u2, u3, d0, d1, d2, d3, cn, rfl, rfl, by exact ⟨_, _, Or.inr ⟨by omega, Or.inl ⟨by omega, rfl, rfl, rfl⟩⟩, hR, hHB⟩⟩)
  · refine lv_iconst (v := zI (-1)) hx hb dX4_moveScene_7 rfl ?_
    exact z_iret (v := (-1)) hx hb hr hlk hW dX4_moveScene_8 (by
        exact ⟨(-1), b, hn, u0, u1, u2, u3, d0, d1, d2, d3, cn, rfl, rfl, by exact ⟨_, _, Or.inl ⟨by omega, rfl, rfl, rfl⟩, hR, hHB⟩⟩)

abbrev qX4_mend (cI : ClassId) (x : Nat) (axb axn : Nat → Nat) (xk : Int) (xh : Nat) (axt axc : Nat → Nat) (b : zBS) (xa : Nat) (hn : Int) (u0 : Nat → Nat) (u1 : Nat → Nat) (u2 : Nat → Nat) (u3 : Nat → Nat) (d0 : zBS) (d1 : zBS) (d2 : zBS) (d3 : zBS) (cn : zCS) (y1 : Int) (pC : List zPn) (pO : List Int) (ev : Int) (hs : List zSt) (cB : ClassId) : Option Value → List va_W → Prop := fun vq wq => ∃ (r : Int) (bz : zBS) (hnz : Int) (v0 : Nat → Nat) (v1 : Nat → Nat) (v2 : Nat → Nat) (v3 : Nat → Nat) (e0 : zBS) (e1 : zBS) (e2 : zBS) (e3 : zBS) (cz : zCS), vq = some (.int (zI r)) ∧ wq = [[(x, .inr (4, [.ref (axb 0), .ref (axn 0), .int (zI xk), .ref xh, .ref (axt 0), .ref (axc 0)]))], zBoard cI axb bz, [(xh, .inr (2, [.ref xa, .int (zI hnz)]))], [zRefs cB xa (some (v0 0)) (some (v1 0)) (some (v2 0)) (some (v3 0))], zBoard cI v0 e0, zBoard cI v1 e1, zBoard cI v2 e2, zBoard cI v3 e3, zCont cI axc cz] ∧ (∃ (S2 : zSt) (hs2 : List zSt), (menR pC pO ev hs y1 r S2 hs2) ∧ RBS bz S2 ∧ HB hnz e0 e1 e2 e3 hs2)
set_option maxRecDepth 20000 in
theorem iX4_mend_X4 : ∀ w ∈ u_ws RX4 TX4 6, w ∈ wsX4_mend := by decide +kernel
set_option maxRecDepth 20000 in
theorem mX4_mend_1 : (.fieldLink RX4 26 "StoryPanels" "history" "LStoryPanels$History;" : Cond) ∈ wsX4_mend := by decide +kernel
set_option maxRecDepth 20000 in
theorem mX4_mend_2 : (.fieldLink RX4 12 "StoryPanels" "board" "LStoryPanels$Board;" : Cond) ∈ wsX4_mend := by decide +kernel
set_option maxHeartbeats 4000000 in
set_option maxRecDepth 100000 in
theorem kX4_mend (l : Launch) (D : va_G) (cI cB : ClassId) (x : Nat) (axb axn : Nat → Nat) (xk : Int) (xh : Nat) (axt axc : Nat → Nat) (b : zBS) (xa : Nat) (hn : Int) (u0 : Nat → Nat) (u1 : Nat → Nat) (u2 : Nat → Nat) (u3 : Nat → Nat) (d0 : zBS) (d1 : zBS) (d2 : zBS) (d3 : zBS) (cn : zCS) (y1 : Int) (pC : List zPn) (pO : List Int) (ev : Int) (hs : List zSt) (hR : RB b pC pO ev) (hHB : HB hn d0 d1 d2 d3 hs) (hy1 : R32 y1) : zMet l yX4_mend wsX4_mend 6 157 0 0 D cI cB [.ref x, .int (zI y1)] [[(x, .inr (4, [.ref (axb 0), .ref (axn 0), .int (zI xk), .ref xh, .ref (axt 0), .ref (axc 0)]))], zBoard cI axb b, [(xh, .inr (2, [.ref xa, .int (zI hn)]))], [zRefs cB xa (some (u0 0)) (some (u1 0)) (some (u2 0)) (some (u3 0))], zBoard cI u0 d0, zBoard cI u1 d1, zBoard cI u2 d2, zBoard cI u3 d3, zCont cI axc cn] (qX4_mend cI x axb axn xk xh axt axc b xa hn u0 u1 u2 u3 d0 d1 d2 d3 cn y1 pC pO ev hs cB) := by
  refine zMet.of (cd := cX4_mend) (maxL := 6) (ret := (some .int)) (by decide) rfl (Nat.le_of_ble_eq_true rfl) ?_
  intro p e s m args below meth c A ls hS hr hlk hnm hK hA hW hl
  have hS : CallFix p m c cX4_mend 6 s args wsX4_mend RX4 := hS
  have hx := hS.1
  have hb := hS.2.1
  have hown := hS.2.2.2.1
  have hts := hS.2.2.2.2
  have hl : lv_has ls 6 [(0, .ref x), (1, .int (zI y1))] := hl
  have hRz := hR.1.1
  have hRl := hR.2.1
  have hb1 := hHB.1
  have hb2 := hHB.2.1
  refine lv_iload_n hx hb dX4_mend_0 rfl (lv_at hl 1 rfl) ?_
  refine z_callS (As := [.int (zI y1)]) (rest := []) hS hK hA hW hl.1 [] [0, 1, 2, 3, 4, 5, 6, 7, 8] (kX4_isScene l D cI cB y1 (by omega)) (va_cwS 1 hts gX4_mend_X4_isScene rfl rfl rfl (by decide +kernel) ⟨Nat.le_of_ble_eq_true rfl, Nat.le_of_ble_eq_true rfl⟩) dX4_mend_1 rfl rfl rfl rfl rfl (Nat.le_of_ble_eq_true rfl) ⟨Nat.le_of_ble_eq_true rfl, Nat.le_of_ble_eq_true rfl⟩ (fun v9 w9 H locs hq hW => ?_)
  obtain ⟨rr_1, rfl, rfl, hh_1⟩ := hq
  have hW : zW D A s.heap [[(x, .inr (4, [.ref (axb 0), .ref (axn 0), .int (zI xk), .ref xh, .ref (axt 0), .ref (axc 0)]))], zBoard cI axb b, [(xh, .inr (2, [.ref xa, .int (zI hn)]))], [zRefs cB xa (some (u0 0)) (some (u1 0)) (some (u2 0)) (some (u3 0))], zBoard cI u0 d0, zBoard cI u1 d1, zBoard cI u2 d2, zBoard cI u3 d3, zCont cI axc cn] H locs := hW
  refine W.eq (g2 := F0 m 4 ls [.int (zI rr_1)]) rfl ?_
  refine z_if_ne (tgt := 9) hx hb dX4_mend_4 (by decide) (by omega) (fun cc_4 => ?_) (fun cc_4 => ?_)
  · refine lv_iconst (v := zI (0)) hx hb dX4_mend_9 rfl ?_
    refine lv_istore_n (lv' := [(2, .int (zI 0)), (0, .ref x), (1, .int (zI y1))]) hx hb dX4_mend_10 rfl hl (by decide) rfl (fun ls hl => ?_)
    refine lv_iconst (v := zI (0)) hx hb dX4_mend_11 rfl ?_
    refine lv_istore_n (lv' := [(3, .int (zI 0)), (2, .int (zI 0)), (0, .ref x), (1, .int (zI y1))]) hx hb dX4_mend_12 rfl hl (by decide) rfl (fun ls hl => ?_)
    refine lv_iload_n hx hb dX4_mend_13 rfl (lv_at hl 0 rfl) ?_
    refine lv_iconst (v := zI (2)) hx hb dX4_mend_14 rfl ?_
    refine z_icmp_ge (tgt := 88) hx hb dX4_mend_15 (by decide) (by omega) (fun cc_15 => ?_) (fun cc_15 => ?_)
    · exact absurd cc_15 (by omega)
    · refine lv_aload_n hx hb dX4_mend_18 rfl (lv_at hl 2 rfl) ?_
      refine lv_iload_n hx hb dX4_mend_19 rfl (lv_at hl 3 rfl) ?_
      refine z_callV (r := (RX4, TX4, 6)) (As := [.int (zI y1)]) (rest := []) hS hK hA hW hl.1 [0, 1, 8] [2, 3, 4, 5, 6, 7] (kX4_lowestToMend l D cI cB x axb axn xk xh axt axc b cn y1 pC pO ev hR (by omega)) (cwV 1 hts gX4_mend_X4_lowestToMend rfl rfl rfl (by decide +kernel) ⟨Nat.le_of_ble_eq_true rfl, Nat.le_of_ble_eq_true rfl⟩) (rfl : vwCl[4]? = some (RX4, TX4, 6)) (q0 := 0) rfl dX4_mend_20 rfl rfl rfl rfl rfl (Nat.le_of_ble_eq_true rfl) ⟨Nat.le_of_ble_eq_true rfl, Nat.le_of_ble_eq_true rfl⟩ (fun v9 w9 H locs hq hW => ?_)
      obtain ⟨rr_20, bz_20, cz_20, rfl, rfl, hh_20⟩ := hq
      have hW : zW D A s.heap [[(x, .inr (4, [.ref (axb 0), .ref (axn 0), .int (zI xk), .ref xh, .ref (axt 0), .ref (axc 0)]))], zBoard cI axb bz_20, zCont cI axc cz_20, [(xh, .inr (2, [.ref xa, .int (zI hn)]))], [zRefs cB xa (some (u0 0)) (some (u1 0)) (some (u2 0)) (some (u3 0))], zBoard cI u0 d0, zBoard cI u1 d1, zBoard cI u2 d2, zBoard cI u3 d3] H locs := hW
      have hW : zW D A s.heap [[(x, .inr (4, [.ref (axb 0), .ref (axn 0), .int (zI xk), .ref xh, .ref (axt 0), .ref (axc 0)]))], zBoard cI axb bz_20, [(xh, .inr (2, [.ref xa, .int (zI hn)]))], [zRefs cB xa (some (u0 0)) (some (u1 0)) (some (u2 0)) (some (u3 0))], zBoard cI u0 d0, zBoard cI u1 d1, zBoard cI u2 d2, zBoard cI u3 d3, zCont cI axc cz_20] H locs := hW.pick [0, 1, 3, 4, 5, 6, 7, 8, 2] rfl rfl
      refine W.eq (g2 := F0 m 23 ls [.int (zI rr_20)]) rfl ?_
      have hme := hh_20.1
      have hRm := hh_20.2.1
      have hsr : -1 ≤ rr_20 ∧ rr_20 < 10 := mendR_rg hRm hme
      refine lv_istore (lv' := [(4, .int (zI rr_20)), (3, .int (zI 0)), (2, .int (zI 0)), (0, .ref x), (1, .int (zI y1))]) hx hb dX4_mend_23 hl (by decide) rfl (fun ls hl => ?_)
      refine lv_iload hx hb dX4_mend_25 (lv_at hl 0 rfl) ?_
      refine lv_iconst (v := zI (-1)) hx hb dX4_mend_27 rfl ?_
      refine z_icmp_ne (tgt := 34) hx hb dX4_mend_28 (by decide) (by omega) (fun cc_28 => ?_) (fun cc_28 => ?_)
      · obtain ⟨jq, pq, hjp, hps, hcm, hjl, hth⟩ := hme.resolve_left (fun hq => cc_28 hq.1)
        have hsx := RB_lin hRm hjp
        rw [← hjl] at hsx
        refine lv_aload_n hx hb dX4_mend_34 rfl (lv_at hl 3 rfl) ?_
        refine lv_iload hx hb dX4_mend_35 (lv_at hl 0 rfl) ?_
        refine lv_iload_n hx hb dX4_mend_37 rfl (lv_at hl 4 rfl) ?_
        refine z_callV (r := (RX4, TX4, 6)) (As := [.int (zI rr_20), .int (zI y1)]) (rest := []) hS hK hA hW hl.1 [0, 1, 8] [2, 3, 4, 5, 6, 7] (kX4_lowestBestPlace l D cI cB x axb axn xk xh axt axc bz_20 cz_20 rr_20 y1 pC pO ev jq pq hRm hjp hjl (by omega)) (cwV 2 hts gX4_mend_X4_lowestBestPlace rfl rfl rfl (by decide +kernel) ⟨Nat.le_of_ble_eq_true rfl, Nat.le_of_ble_eq_true rfl⟩) (rfl : vwCl[4]? = some (RX4, TX4, 6)) (q0 := 0) rfl dX4_mend_38 rfl rfl rfl rfl rfl (Nat.le_of_ble_eq_true rfl) ⟨Nat.le_of_ble_eq_true rfl, Nat.le_of_ble_eq_true rfl⟩ (fun v9 w9 H locs hq hW => ?_)
        obtain ⟨rr_38, bz_38, cz_38, rfl, rfl, hh_38⟩ := hq
        have hW : zW D A s.heap [[(x, .inr (4, [.ref (axb 0), .ref (axn 0), .int (zI xk), .ref xh, .ref (axt 0), .ref (axc 0)]))], zBoard cI axb bz_38, zCont cI axc cz_38, [(xh, .inr (2, [.ref xa, .int (zI hn)]))], [zRefs cB xa (some (u0 0)) (some (u1 0)) (some (u2 0)) (some (u3 0))], zBoard cI u0 d0, zBoard cI u1 d1, zBoard cI u2 d2, zBoard cI u3 d3] H locs := hW
        have hW : zW D A s.heap [[(x, .inr (4, [.ref (axb 0), .ref (axn 0), .int (zI xk), .ref xh, .ref (axt 0), .ref (axc 0)]))], zBoard cI axb bz_38, [(xh, .inr (2, [.ref xa, .int (zI hn)]))], [zRefs cB xa (some (u0 0)) (some (u1 0)) (some (u2 0)) (some (u3 0))], zBoard cI u0 d0, zBoard cI u1 d1, zBoard cI u2 d2, zBoard cI u3 d3, zCont cI axc cz_38] H locs := hW.pick [0, 1, 3, 4, 5, 6, 7, 8, 2] rfl rfl
        refine W.eq (g2 := F0 m 41 ls [.int (zI rr_38)]) rfl ?_
        have hbr := bestC_rg (pC := pC) (pO := pO) (j := jq) (p := pq) (s := y1) (ahC_inC (pC.eraseIdx jq) pO y1).1
        have hil := inC_rg hRm (j := jq) y1
        have hRb := hh_38.2.1
        have hln : rr_20 = bd_lin _ (jq : Int) := hjl.trans (RB_same hRb hRm hh_38.2.2.symm hjp)
        have hjt := RB_at hRb hjp
        rw [← hln] at hjt
        have hmA := RB_mv hRb hjp (s := y1) (pl := bestC pC pO jq pq y1) (by omega) (by omega)
        rw [← hln] at hmA
        rw [show rr_38 = (bestC pC pO jq pq y1) by exact hh_38.1]
        refine lv_istore (lv' := [(5, .int (zI (bestC pC pO jq pq y1))), (4, .int (zI rr_20)), (3, .int (zI 0)), (2, .int (zI 0)), (0, .ref x), (1, .int (zI y1))]) hx hb dX4_mend_41 hl (by decide) rfl (fun ls hl => ?_)
        refine lv_iload_n hx hb dX4_mend_43 rfl (lv_at hl 3 rfl) ?_
        refine z_if_ne (tgt := 58) hx hb dX4_mend_44 (by decide) (by omega) (fun cc_44 => ?_) (fun cc_44 => ?_)
        · exact absurd cc_44 (by omega)
        · refine lv_aload_n hx hb dX4_mend_47 rfl (lv_at hl 4 rfl) ?_
          refine va_get (D := D) (ci := 4) (v := .ref xh) (C := RX4) (T := TX4) (N := 6) hx hb hts iX4_mend_X4 hown hK.1 hW.1 0 rfl rfl 3 (by decide) (hts _ mX4_mend_1) (fun _ h9 => h9) rfl dX4_mend_48 ?_
          refine lv_aload_n hx hb dX4_mend_51 rfl (lv_at hl 4 rfl) ?_
          refine va_get (D := D) (ci := 4) (v := .ref (axb 0)) (C := RX4) (T := TX4) (N := 6) hx hb hts iX4_mend_X4 hown hK.1 hW.1 0 rfl rfl 0 (by decide) (hts _ mX4_mend_2) (fun _ h9 => h9) rfl dX4_mend_52 ?_
          refine z_callV (r := (RX2, TX2, 2)) (As := [.ref (axb 0)]) (rest := []) hS hK hA hW hl.1 [2, 3, 4, 5, 6, 7, 1] [0, 8] (kX2_remember l D cI cB xh xa hn u0 u1 u2 u3 d0 d1 d2 d3 axb bz_38 hs ((pC, pO, ev)) hHB hRb) (cwV 1 hts gX4_mend_X2_remember rfl rfl rfl (by decide +kernel) ⟨Nat.le_of_ble_eq_true rfl, Nat.le_of_ble_eq_true rfl⟩) (rfl : vwCl[2]? = some (RX2, TX2, 2)) (q0 := 9) rfl dX4_mend_55 rfl rfl rfl rfl rfl (Nat.le_of_ble_eq_true rfl) ⟨Nat.le_of_ble_eq_true rfl, Nat.le_of_ble_eq_true rfl⟩ (fun v9 w9 H locs hq hW => ?_)
          obtain ⟨hnz_55, g0_55, g1_55, g2_55, g3_55, e0_55, e1_55, e2_55, e3_55, rfl, rfl, hh_55⟩ := hq
          have hW : zW D A s.heap [[(xh, .inr (2, [.ref xa, .int (zI hnz_55)]))], [zRefs cB xa (some (g0_55 0)) (some (g1_55 0)) (some (g2_55 0)) (some (g3_55 0))], zBoard cI g0_55 e0_55, zBoard cI g1_55 e1_55, zBoard cI g2_55 e2_55, zBoard cI g3_55 e3_55, zBoard cI axb bz_38, [(x, .inr (4, [.ref (axb 0), .ref (axn 0), .int (zI xk), .ref xh, .ref (axt 0), .ref (axc 0)]))], zCont cI axc cz_38] H locs := hW
          have hW : zW D A s.heap [[(x, .inr (4, [.ref (axb 0), .ref (axn 0), .int (zI xk), .ref xh, .ref (axt 0), .ref (axc 0)]))], zBoard cI axb bz_38, [(xh, .inr (2, [.ref xa, .int (zI hnz_55)]))], [zRefs cB xa (some (g0_55 0)) (some (g1_55 0)) (some (g2_55 0)) (some (g3_55 0))], zBoard cI g0_55 e0_55, zBoard cI g1_55 e1_55, zBoard cI g2_55 e2_55, zBoard cI g3_55 e3_55, zCont cI axc cz_38] H locs := hW.pick [7, 6, 0, 1, 2, 3, 4, 5, 8] rfl rfl
          refine W.eq (g2 := F0 m 58 ls []) rfl ?_
          have hHB1 := hh_55
          refine lv_aload_n hx hb dX4_mend_58 rfl (lv_at hl 4 rfl) ?_
          refine va_get (D := D) (ci := 4) (v := .ref (axb 0)) (C := RX4) (T := TX4) (N := 6) hx hb hts iX4_mend_X4 hown hK.1 hW.1 0 rfl rfl 0 (by decide) (hts _ mX4_mend_2) (fun _ h9 => h9) rfl dX4_mend_59 ?_
          refine lv_iload hx hb dX4_mend_62 (lv_at hl 1 rfl) ?_
          refine z_callV (r := (RX0, TX0, 9)) (As := [.int (zI rr_20)]) (rest := []) hS hK hA hW hl.1 [1] [0, 2, 3, 4, 5, 6, 7, 8] (kX0_takeOut l D cI cB axb bz_38 rr_20 ((jq : Int)) hRb.1 (by omega) hjt) (cwV 1 hts gX4_mend_X0_takeOut rfl rfl rfl (by decide +kernel) ⟨Nat.le_of_ble_eq_true rfl, Nat.le_of_ble_eq_true rfl⟩) (rfl : vwCl[0]? = some (RX0, TX0, 9)) (q0 := 1) rfl dX4_mend_64 rfl rfl rfl rfl rfl (Nat.le_of_ble_eq_true rfl) ⟨Nat.le_of_ble_eq_true rfl, Nat.le_of_ble_eq_true rfl⟩ (fun v9 w9 H locs hq hW => ?_)
          obtain ⟨rfl, rfl, hh_64⟩ := hq
          have hW : zW D A s.heap [zBoard cI axb (takeOutB bz_38 ((jq : Int))), [(x, .inr (4, [.ref (axb 0), .ref (axn 0), .int (zI xk), .ref xh, .ref (axt 0), .ref (axc 0)]))], [(xh, .inr (2, [.ref xa, .int (zI hnz_55)]))], [zRefs cB xa (some (g0_55 0)) (some (g1_55 0)) (some (g2_55 0)) (some (g3_55 0))], zBoard cI g0_55 e0_55, zBoard cI g1_55 e1_55, zBoard cI g2_55 e2_55, zBoard cI g3_55 e3_55, zCont cI axc cz_38] H locs := hW
          have hW : zW D A s.heap [[(x, .inr (4, [.ref (axb 0), .ref (axn 0), .int (zI xk), .ref xh, .ref (axt 0), .ref (axc 0)]))], zBoard cI axb (takeOutB bz_38 ((jq : Int))), [(xh, .inr (2, [.ref xa, .int (zI hnz_55)]))], [zRefs cB xa (some (g0_55 0)) (some (g1_55 0)) (some (g2_55 0)) (some (g3_55 0))], zBoard cI g0_55 e0_55, zBoard cI g1_55 e1_55, zBoard cI g2_55 e2_55, zBoard cI g3_55 e3_55, zCont cI axc cz_38] H locs := hW.pick [1, 0, 2, 3, 4, 5, 6, 7, 8] rfl rfl
          refine W.eq (g2 := F0 m 67 ls []) rfl ?_
          refine lv_aload_n hx hb dX4_mend_67 rfl (lv_at hl 4 rfl) ?_
          refine va_get (D := D) (ci := 4) (v := .ref (axb 0)) (C := RX4) (T := TX4) (N := 6) hx hb hts iX4_mend_X4 hown hK.1 hW.1 0 rfl rfl 0 (by decide) (hts _ mX4_mend_2) (fun _ h9 => h9) rfl dX4_mend_68 ?_
          refine lv_iload hx hb dX4_mend_71 (lv_at hl 1 rfl) ?_
          refine lv_iload_n hx hb dX4_mend_73 rfl (lv_at hl 5 rfl) ?_
          refine lv_iload hx hb dX4_mend_74 (lv_at hl 0 rfl) ?_
          refine z_callV (r := (RX0, TX0, 9)) (As := [.int (zI rr_20), .int (zI y1), .int (zI (bestC pC pO jq pq y1))]) (rest := []) hS hK hA hW hl.1 [1] [0, 2, 3, 4, 5, 6, 7, 8] (kX0_putIn l D cI cB axb ((takeOutB bz_38 ((jq : Int)))) rr_20 y1 (bestC pC pO jq pq y1) hmA.1 (by omega) (by omega) hmA.2.1 (by rw [hmA.2.2.1]; exact hmA.2.2.2.1)) (cwV 3 hts gX4_mend_X0_putIn rfl rfl rfl (by decide +kernel) ⟨Nat.le_of_ble_eq_true rfl, Nat.le_of_ble_eq_true rfl⟩) (rfl : vwCl[0]? = some (RX0, TX0, 9)) (q0 := 1) rfl dX4_mend_76 rfl rfl rfl rfl rfl (Nat.le_of_ble_eq_true rfl) ⟨Nat.le_of_ble_eq_true rfl, Nat.le_of_ble_eq_true rfl⟩ (fun v9 w9 H locs hq hW => ?_)
          obtain ⟨rfl, rfl, hh_76⟩ := hq
          have hW : zW D A s.heap [zBoard cI axb (putInB ((takeOutB bz_38 ((jq : Int)))) rr_20 y1 (nAhead (bd_scn_ ((takeOutB bz_38 ((jq : Int)))) (zU (bd_scn ((takeOutB bz_38 ((jq : Int))))) rr_20 y1)) y1 + (bestC pC pO jq pq y1))), [(x, .inr (4, [.ref (axb 0), .ref (axn 0), .int (zI xk), .ref xh, .ref (axt 0), .ref (axc 0)]))], [(xh, .inr (2, [.ref xa, .int (zI hnz_55)]))], [zRefs cB xa (some (g0_55 0)) (some (g1_55 0)) (some (g2_55 0)) (some (g3_55 0))], zBoard cI g0_55 e0_55, zBoard cI g1_55 e1_55, zBoard cI g2_55 e2_55, zBoard cI g3_55 e3_55, zCont cI axc cz_38] H locs := hW
          have hW : zW D A s.heap [[(x, .inr (4, [.ref (axb 0), .ref (axn 0), .int (zI xk), .ref xh, .ref (axt 0), .ref (axc 0)]))], zBoard cI axb (putInB ((takeOutB bz_38 ((jq : Int)))) rr_20 y1 (nAhead (bd_scn_ ((takeOutB bz_38 ((jq : Int)))) (zU (bd_scn ((takeOutB bz_38 ((jq : Int))))) rr_20 y1)) y1 + (bestC pC pO jq pq y1))), [(xh, .inr (2, [.ref xa, .int (zI hnz_55)]))], [zRefs cB xa (some (g0_55 0)) (some (g1_55 0)) (some (g2_55 0)) (some (g3_55 0))], zBoard cI g0_55 e0_55, zBoard cI g1_55 e1_55, zBoard cI g2_55 e2_55, zBoard cI g3_55 e3_55, zCont cI axc cz_38] H locs := hW.pick [1, 0, 2, 3, 4, 5, 6, 7, 8] rfl rfl
          refine W.eq (g2 := F0 m 79 ls []) rfl ?_
          rw [hmA.2.2.1] at hW
          have hR1 := hmA.2.2.2.2
          have hone0 : oneM pC pO y1 (mvC pC pO jq pq y1 (bestC pC pO jq pq y1)) := ⟨jq, pq, hjp, hps, hcm, hth, rfl⟩
          generalize mvC pC pO jq pq y1 (bestC pC pO jq pq y1) = C1 at hR1 hone0
          have hW : zW D A s.heap [[(x, .inr (4, [.ref (axb 0), .ref (axn 0), .int (zI xk), .ref xh, .ref (axt 0), .ref (axc 0)]))], zBoard cI axb (putInB (takeOutB bz_38 (jq : Int)) rr_20 y1 (ahC (pC.eraseIdx jq) pO y1 + bestC pC pO jq pq y1)), [(xh, .inr (2, [.ref xa, .int (zI hnz_55)]))], [zRefs cB xa (some (g0_55 0)) (some (g1_55 0)) (some (g2_55 0)) (some (g3_55 0))], zBoard cI g0_55 e0_55, zBoard cI g1_55 e1_55, zBoard cI g2_55 e2_55, zBoard cI g3_55 e3_55, zCont cI axc cz_38] H locs := hW
          refine z_iinc (x := 0) (lv' := [(2, .int (zI (0 + 1))), (5, .int (zI (bestC pC pO jq pq y1))), (4, .int (zI rr_20)), (3, .int (zI 0)), (0, .ref x), (1, .int (zI y1))]) hx hb dX4_mend_79 hl (k := 3) rfl (by decide) rfl (fun ls hl => ?_)
          refine z_iinc (x := 0) (lv' := [(3, .int (zI (0 + 1))), (2, .int (zI (0 + 1))), (5, .int (zI (bestC pC pO jq pq y1))), (4, .int (zI rr_20)), (0, .ref x), (1, .int (zI y1))]) hx hb dX4_mend_82 hl (k := 3) rfl (by decide) rfl (fun ls hl => ?_)
          refine lv_goto (tgt := 13) hx hb dX4_mend_85 (by decide) ?_
          refine lv_iload_n hx hb dX4_mend_13 rfl (lv_at hl 0 rfl) ?_
          refine lv_iconst (v := zI (2)) hx hb dX4_mend_14 rfl ?_
          refine z_icmp_ge (tgt := 88) hx hb dX4_mend_15 (by decide) (by omega) (fun cc_15 => ?_) (fun cc_15 => ?_)
          · exact absurd cc_15 (by omega)
          · refine lv_aload_n hx hb dX4_mend_18 rfl (lv_at hl 4 rfl) ?_
            refine lv_iload_n hx hb dX4_mend_19 rfl (lv_at hl 5 rfl) ?_
            refine z_callV (r := (RX4, TX4, 6)) (As := [.int (zI y1)]) (rest := []) hS hK hA hW hl.1 [0, 1, 8] [2, 3, 4, 5, 6, 7] (kX4_lowestToMend l D cI cB x axb axn xk xh axt axc ((putInB (takeOutB bz_38 (jq : Int)) rr_20 y1 (ahC (pC.eraseIdx jq) pO y1 + bestC pC pO jq pq y1))) cz_38 y1 C1 pO ev hR1 (by omega)) (cwV 1 hts gX4_mend_X4_lowestToMend rfl rfl rfl (by decide +kernel) ⟨Nat.le_of_ble_eq_true rfl, Nat.le_of_ble_eq_true rfl⟩) (rfl : vwCl[4]? = some (RX4, TX4, 6)) (q0 := 0) rfl dX4_mend_20 rfl rfl rfl rfl rfl (Nat.le_of_ble_eq_true rfl) ⟨Nat.le_of_ble_eq_true rfl, Nat.le_of_ble_eq_true rfl⟩ (fun v9 w9 H locs hq hW => ?_)
            obtain ⟨rr_20, bz_20, cz_20, rfl, rfl, hh_20⟩ := hq
            have hW : zW D A s.heap [[(x, .inr (4, [.ref (axb 0), .ref (axn 0), .int (zI xk), .ref xh, .ref (axt 0), .ref (axc 0)]))], zBoard cI axb bz_20, zCont cI axc cz_20, [(xh, .inr (2, [.ref xa, .int (zI hnz_55)]))], [zRefs cB xa (some (g0_55 0)) (some (g1_55 0)) (some (g2_55 0)) (some (g3_55 0))], zBoard cI g0_55 e0_55, zBoard cI g1_55 e1_55, zBoard cI g2_55 e2_55, zBoard cI g3_55 e3_55] H locs := hW
            have hW : zW D A s.heap [[(x, .inr (4, [.ref (axb 0), .ref (axn 0), .int (zI xk), .ref xh, .ref (axt 0), .ref (axc 0)]))], zBoard cI axb bz_20, [(xh, .inr (2, [.ref xa, .int (zI hnz_55)]))], [zRefs cB xa (some (g0_55 0)) (some (g1_55 0)) (some (g2_55 0)) (some (g3_55 0))], zBoard cI g0_55 e0_55, zBoard cI g1_55 e1_55, zBoard cI g2_55 e2_55, zBoard cI g3_55 e3_55, zCont cI axc cz_20] H locs := hW.pick [0, 1, 3, 4, 5, 6, 7, 8, 2] rfl rfl
            refine W.eq (g2 := F0 m 23 ls [.int (zI rr_20)]) rfl ?_
            have hme := hh_20.1
            have hRm := hh_20.2.1
            have hsr : -1 ≤ rr_20 ∧ rr_20 < 10 := mendR_rg hRm hme
            refine lv_istore (lv' := [(4, .int (zI rr_20)), (3, .int (zI (0 + 1))), (2, .int (zI (0 + 1))), (5, .int (zI (bestC pC pO jq pq y1))), (0, .ref x), (1, .int (zI y1))]) hx hb dX4_mend_23 hl (by decide) rfl (fun ls hl => ?_)
            refine lv_iload hx hb dX4_mend_25 (lv_at hl 0 rfl) ?_
            refine lv_iconst (v := zI (-1)) hx hb dX4_mend_27 rfl ?_
            refine z_icmp_ne (tgt := 34) hx hb dX4_mend_28 (by decide) (by omega) (fun cc_28 => ?_) (fun cc_28 => ?_)
            · obtain ⟨jq, pq, hjp, hps, hcm, hjl, hth⟩ := hme.resolve_left (fun hq => cc_28 hq.1)
              have hsx := RB_lin hRm hjp
              rw [← hjl] at hsx
              refine lv_aload_n hx hb dX4_mend_34 rfl (lv_at hl 4 rfl) ?_
              refine lv_iload hx hb dX4_mend_35 (lv_at hl 0 rfl) ?_
              refine lv_iload_n hx hb dX4_mend_37 rfl (lv_at hl 5 rfl) ?_
              refine z_callV (r := (RX4, TX4, 6)) (As := [.int (zI rr_20), .int (zI y1)]) (rest := []) hS hK hA hW hl.1 [0, 1, 8] [2, 3, 4, 5, 6, 7] (kX4_lowestBestPlace l D cI cB x axb axn xk xh axt axc bz_20 cz_20 rr_20 y1 C1 pO ev jq pq hRm hjp hjl (by omega)) (cwV 2 hts gX4_mend_X4_lowestBestPlace rfl rfl rfl (by decide +kernel) ⟨Nat.le_of_ble_eq_true rfl, Nat.le_of_ble_eq_true rfl⟩) (rfl : vwCl[4]? = some (RX4, TX4, 6)) (q0 := 0) rfl dX4_mend_38 rfl rfl rfl rfl rfl (Nat.le_of_ble_eq_true rfl) ⟨Nat.le_of_ble_eq_true rfl, Nat.le_of_ble_eq_true rfl⟩ (fun v9 w9 H locs hq hW => ?_)
              obtain ⟨rr_38, bz_38, cz_38, rfl, rfl, hh_38⟩ := hq
              have hW : zW D A s.heap [[(x, .inr (4, [.ref (axb 0), .ref (axn 0), .int (zI xk), .ref xh, .ref (axt 0), .ref (axc 0)]))], zBoard cI axb bz_38, zCont cI axc cz_38, [(xh, .inr (2, [.ref xa, .int (zI hnz_55)]))], [zRefs cB xa (some (g0_55 0)) (some (g1_55 0)) (some (g2_55 0)) (some (g3_55 0))], zBoard cI g0_55 e0_55, zBoard cI g1_55 e1_55, zBoard cI g2_55 e2_55, zBoard cI g3_55 e3_55] H locs := hW
              have hW : zW D A s.heap [[(x, .inr (4, [.ref (axb 0), .ref (axn 0), .int (zI xk), .ref xh, .ref (axt 0), .ref (axc 0)]))], zBoard cI axb bz_38, [(xh, .inr (2, [.ref xa, .int (zI hnz_55)]))], [zRefs cB xa (some (g0_55 0)) (some (g1_55 0)) (some (g2_55 0)) (some (g3_55 0))], zBoard cI g0_55 e0_55, zBoard cI g1_55 e1_55, zBoard cI g2_55 e2_55, zBoard cI g3_55 e3_55, zCont cI axc cz_38] H locs := hW.pick [0, 1, 3, 4, 5, 6, 7, 8, 2] rfl rfl
              refine W.eq (g2 := F0 m 41 ls [.int (zI rr_38)]) rfl ?_
              have hbr := bestC_rg (pC := C1) (pO := pO) (j := jq) (p := pq) (s := y1) (ahC_inC (C1.eraseIdx jq) pO y1).1
              have hil := inC_rg hRm (j := jq) y1
              have hRb := hh_38.2.1
              have hln : rr_20 = bd_lin _ (jq : Int) := hjl.trans (RB_same hRb hRm hh_38.2.2.symm hjp)
              have hjt := RB_at hRb hjp
              rw [← hln] at hjt
              have hmA := RB_mv hRb hjp (s := y1) (pl := bestC C1 pO jq pq y1) (by omega) (by omega)
              rw [← hln] at hmA
              rw [show rr_38 = (bestC C1 pO jq pq y1) by exact hh_38.1]
              refine lv_istore (lv' := [(5, .int (zI (bestC C1 pO jq pq y1))), (4, .int (zI rr_20)), (3, .int (zI (0 + 1))), (2, .int (zI (0 + 1))), (0, .ref x), (1, .int (zI y1))]) hx hb dX4_mend_41 hl (by decide) rfl (fun ls hl => ?_)
              refine lv_iload_n hx hb dX4_mend_43 rfl (lv_at hl 3 rfl) ?_
              refine z_if_ne (tgt := 58) hx hb dX4_mend_44 (by decide) (by omega) (fun cc_44 => ?_) (fun cc_44 => ?_)
              · refine lv_aload_n hx hb dX4_mend_58 rfl (lv_at hl 4 rfl) ?_
                refine va_get (D := D) (ci := 4) (v := .ref (axb 0)) (C := RX4) (T := TX4) (N := 6) hx hb hts iX4_mend_X4 hown hK.1 hW.1 0 rfl rfl 0 (by decide) (hts _ mX4_mend_2) (fun _ h9 => h9) rfl dX4_mend_59 ?_
                refine lv_iload hx hb dX4_mend_62 (lv_at hl 1 rfl) ?_
                refine z_callV (r := (RX0, TX0, 9)) (As := [.int (zI rr_20)]) (rest := []) hS hK hA hW hl.1 [1] [0, 2, 3, 4, 5, 6, 7, 8] (kX0_takeOut l D cI cB axb bz_38 rr_20 ((jq : Int)) hRb.1 (by omega) hjt) (cwV 1 hts gX4_mend_X0_takeOut rfl rfl rfl (by decide +kernel) ⟨Nat.le_of_ble_eq_true rfl, Nat.le_of_ble_eq_true rfl⟩) (rfl : vwCl[0]? = some (RX0, TX0, 9)) (q0 := 1) rfl dX4_mend_64 rfl rfl rfl rfl rfl (Nat.le_of_ble_eq_true rfl) ⟨Nat.le_of_ble_eq_true rfl, Nat.le_of_ble_eq_true rfl⟩ (fun v9 w9 H locs hq hW => ?_)
                obtain ⟨rfl, rfl, hh_64⟩ := hq
                have hW : zW D A s.heap [zBoard cI axb (takeOutB bz_38 ((jq : Int))), [(x, .inr (4, [.ref (axb 0), .ref (axn 0), .int (zI xk), .ref xh, .ref (axt 0), .ref (axc 0)]))], [(xh, .inr (2, [.ref xa, .int (zI hnz_55)]))], [zRefs cB xa (some (g0_55 0)) (some (g1_55 0)) (some (g2_55 0)) (some (g3_55 0))], zBoard cI g0_55 e0_55, zBoard cI g1_55 e1_55, zBoard cI g2_55 e2_55, zBoard cI g3_55 e3_55, zCont cI axc cz_38] H locs := hW
                have hW : zW D A s.heap [[(x, .inr (4, [.ref (axb 0), .ref (axn 0), .int (zI xk), .ref xh, .ref (axt 0), .ref (axc 0)]))], zBoard cI axb (takeOutB bz_38 ((jq : Int))), [(xh, .inr (2, [.ref xa, .int (zI hnz_55)]))], [zRefs cB xa (some (g0_55 0)) (some (g1_55 0)) (some (g2_55 0)) (some (g3_55 0))], zBoard cI g0_55 e0_55, zBoard cI g1_55 e1_55, zBoard cI g2_55 e2_55, zBoard cI g3_55 e3_55, zCont cI axc cz_38] H locs := hW.pick [1, 0, 2, 3, 4, 5, 6, 7, 8] rfl rfl
                refine W.eq (g2 := F0 m 67 ls []) rfl ?_
                refine lv_aload_n hx hb dX4_mend_67 rfl (lv_at hl 4 rfl) ?_
                refine va_get (D := D) (ci := 4) (v := .ref (axb 0)) (C := RX4) (T := TX4) (N := 6) hx hb hts iX4_mend_X4 hown hK.1 hW.1 0 rfl rfl 0 (by decide) (hts _ mX4_mend_2) (fun _ h9 => h9) rfl dX4_mend_68 ?_
                refine lv_iload hx hb dX4_mend_71 (lv_at hl 1 rfl) ?_
                refine lv_iload_n hx hb dX4_mend_73 rfl (lv_at hl 5 rfl) ?_
                refine lv_iload hx hb dX4_mend_74 (lv_at hl 0 rfl) ?_
                refine z_callV (r := (RX0, TX0, 9)) (As := [.int (zI rr_20), .int (zI y1), .int (zI (bestC C1 pO jq pq y1))]) (rest := []) hS hK hA hW hl.1 [1] [0, 2, 3, 4, 5, 6, 7, 8] (kX0_putIn l D cI cB axb ((takeOutB bz_38 ((jq : Int)))) rr_20 y1 (bestC C1 pO jq pq y1) hmA.1 (by omega) (by omega) hmA.2.1 (by rw [hmA.2.2.1]; exact hmA.2.2.2.1)) (cwV 3 hts gX4_mend_X0_putIn rfl rfl rfl (by decide +kernel) ⟨Nat.le_of_ble_eq_true rfl, Nat.le_of_ble_eq_true rfl⟩) (rfl : vwCl[0]? = some (RX0, TX0, 9)) (q0 := 1) rfl dX4_mend_76 rfl rfl rfl rfl rfl (Nat.le_of_ble_eq_true rfl) ⟨Nat.le_of_ble_eq_true rfl, Nat.le_of_ble_eq_true rfl⟩ (fun v9 w9 H locs hq hW => ?_)
                obtain ⟨rfl, rfl, hh_76⟩ := hq
                have hW : zW D A s.heap [zBoard cI axb (putInB ((takeOutB bz_38 ((jq : Int)))) rr_20 y1 (nAhead (bd_scn_ ((takeOutB bz_38 ((jq : Int)))) (zU (bd_scn ((takeOutB bz_38 ((jq : Int))))) rr_20 y1)) y1 + (bestC C1 pO jq pq y1))), [(x, .inr (4, [.ref (axb 0), .ref (axn 0), .int (zI xk), .ref xh, .ref (axt 0), .ref (axc 0)]))], [(xh, .inr (2, [.ref xa, .int (zI hnz_55)]))], [zRefs cB xa (some (g0_55 0)) (some (g1_55 0)) (some (g2_55 0)) (some (g3_55 0))], zBoard cI g0_55 e0_55, zBoard cI g1_55 e1_55, zBoard cI g2_55 e2_55, zBoard cI g3_55 e3_55, zCont cI axc cz_38] H locs := hW
                have hW : zW D A s.heap [[(x, .inr (4, [.ref (axb 0), .ref (axn 0), .int (zI xk), .ref xh, .ref (axt 0), .ref (axc 0)]))], zBoard cI axb (putInB ((takeOutB bz_38 ((jq : Int)))) rr_20 y1 (nAhead (bd_scn_ ((takeOutB bz_38 ((jq : Int)))) (zU (bd_scn ((takeOutB bz_38 ((jq : Int))))) rr_20 y1)) y1 + (bestC C1 pO jq pq y1))), [(xh, .inr (2, [.ref xa, .int (zI hnz_55)]))], [zRefs cB xa (some (g0_55 0)) (some (g1_55 0)) (some (g2_55 0)) (some (g3_55 0))], zBoard cI g0_55 e0_55, zBoard cI g1_55 e1_55, zBoard cI g2_55 e2_55, zBoard cI g3_55 e3_55, zCont cI axc cz_38] H locs := hW.pick [1, 0, 2, 3, 4, 5, 6, 7, 8] rfl rfl
                refine W.eq (g2 := F0 m 79 ls []) rfl ?_
                rw [hmA.2.2.1] at hW
                have hR2 := hmA.2.2.2.2
                have hone1 : oneM C1 pO y1 (mvC C1 pO jq pq y1 (bestC C1 pO jq pq y1)) := ⟨jq, pq, hjp, hps, hcm, hth, rfl⟩
                generalize mvC C1 pO jq pq y1 (bestC C1 pO jq pq y1) = C2 at hR2 hone1
                have hW : zW D A s.heap [[(x, .inr (4, [.ref (axb 0), .ref (axn 0), .int (zI xk), .ref xh, .ref (axt 0), .ref (axc 0)]))], zBoard cI axb (putInB (takeOutB bz_38 (jq : Int)) rr_20 y1 (ahC (C1.eraseIdx jq) pO y1 + bestC C1 pO jq pq y1)), [(xh, .inr (2, [.ref xa, .int (zI hnz_55)]))], [zRefs cB xa (some (g0_55 0)) (some (g1_55 0)) (some (g2_55 0)) (some (g3_55 0))], zBoard cI g0_55 e0_55, zBoard cI g1_55 e1_55, zBoard cI g2_55 e2_55, zBoard cI g3_55 e3_55, zCont cI axc cz_38] H locs := hW
                refine z_iinc (x := 0 + 1) (lv' := [(2, .int (zI (0 + 1 + 1))), (5, .int (zI (bestC C1 pO jq pq y1))), (4, .int (zI rr_20)), (3, .int (zI (0 + 1))), (0, .ref x), (1, .int (zI y1))]) hx hb dX4_mend_79 hl (k := 3) rfl (by decide) rfl (fun ls hl => ?_)
                refine z_iinc (x := 0 + 1) (lv' := [(3, .int (zI (0 + 1 + 1))), (2, .int (zI (0 + 1 + 1))), (5, .int (zI (bestC C1 pO jq pq y1))), (4, .int (zI rr_20)), (0, .ref x), (1, .int (zI y1))]) hx hb dX4_mend_82 hl (k := 3) rfl (by decide) rfl (fun ls hl => ?_)
                refine lv_goto (tgt := 13) hx hb dX4_mend_85 (by decide) ?_
                refine lv_iload_n hx hb dX4_mend_13 rfl (lv_at hl 0 rfl) ?_
                refine lv_iconst (v := zI (2)) hx hb dX4_mend_14 rfl ?_
                refine z_icmp_ge (tgt := 88) hx hb dX4_mend_15 (by decide) (by omega) (fun cc_15 => ?_) (fun cc_15 => ?_)
                · refine lv_iload_n hx hb dX4_mend_88 rfl (lv_at hl 1 rfl) ?_
                  refine z_if_ne (tgt := 97) hx hb dX4_mend_89 (by decide) (by omega) (fun cc_89 => ?_) (fun cc_89 => ?_)
                  · refine lv_iload_n hx hb dX4_mend_97 rfl (lv_at hl 1 rfl) ?_
                    exact z_iret (v := 0 + 1 + 1) hx hb hr hlk hW dX4_mend_98 (by
                        exact ⟨0 + 1 + 1, (putInB (takeOutB bz_38 (jq : Int)) rr_20 y1 (ahC (C1.eraseIdx jq) pO y1 + bestC C1 pO jq pq y1)), hnz_55, g0_55, g1_55, g2_55, g3_55, e0_55, e1_55, e2_55, e3_55, cz_38, rfl, rfl, by exact ⟨_, _, Or.inr ⟨by omega, Or.inr ⟨C1, hone0, Or.inr ⟨C2, hone1, rfl, rfl, rfl⟩⟩⟩, hR2, hHB1⟩⟩)
                  · exact absurd cc_89 (by omega)
                · exact absurd cc_15 (by omega)
              · exact absurd cc_44 (by omega)
            · refine lv_goto (tgt := 88) hx hb dX4_mend_31 (by decide) ?_
              refine lv_iload_n hx hb dX4_mend_88 rfl (lv_at hl 2 rfl) ?_
              refine z_if_ne (tgt := 97) hx hb dX4_mend_89 (by decide) (by omega) (fun cc_89 => ?_) (fun cc_89 => ?_)
              · refine lv_iload_n hx hb dX4_mend_97 rfl (lv_at hl 2 rfl) ?_
                exact z_iret (v := 0 + 1) hx hb hr hlk hW dX4_mend_98 (by
                    exact ⟨0 + 1, bz_20, hnz_55, g0_55, g1_55, g2_55, g3_55, e0_55, e1_55, e2_55, e3_55, cz_20, rfl, rfl, by exact ⟨_, _, Or.inr ⟨by omega, Or.inr ⟨C1, hone0, Or.inl ⟨(fun i q hq hs9 => (hme.resolve_right (by rintro ⟨jq, pq, hjp, hps, hcm, hjl, hth⟩; have hq9 := RB_lin hRm hjp; omega)).2 i q hq hs9), rfl, rfl, rfl⟩⟩⟩, hRm, hHB1⟩⟩)
              · exact absurd cc_89 (by omega)
      · refine lv_goto (tgt := 88) hx hb dX4_mend_31 (by decide) ?_
        refine lv_iload_n hx hb dX4_mend_88 rfl (lv_at hl 2 rfl) ?_
        refine z_if_ne (tgt := 97) hx hb dX4_mend_89 (by decide) (by omega) (fun cc_89 => ?_) (fun cc_89 => ?_)
        · exact absurd cc_89 (by omega)
        · refine lv_bipush (v := zI (-5)) hx hb dX4_mend_92 (by decide +kernel) ?_
          refine lv_goto (tgt := 98) hx hb dX4_mend_94 (by decide) ?_
          exact z_iret (v := (-5)) hx hb hr hlk hW dX4_mend_98 (by
              exact ⟨(-5), bz_20, hn, u0, u1, u2, u3, d0, d1, d2, d3, cz_20, rfl, rfl, by exact ⟨_, _, Or.inr ⟨by omega, Or.inl ⟨(fun i q hq hs9 => (hme.resolve_right (by rintro ⟨jq, pq, hjp, hps, hcm, hjl, hth⟩; have hq9 := RB_lin hRm hjp; omega)).2 i q hq hs9), rfl, rfl, rfl⟩⟩, hRm, hHB⟩⟩)
  · refine lv_iconst (v := zI (-1)) hx hb dX4_mend_7 rfl ?_
    exact z_iret (v := (-1)) hx hb hr hlk hW dX4_mend_8 (by
        exact ⟨(-1), b, hn, u0, u1, u2, u3, d0, d1, d2, d3, cn, rfl, rfl, by exact ⟨_, _, Or.inl ⟨by omega, rfl, rfl, rfl⟩, hR, hHB⟩⟩)
