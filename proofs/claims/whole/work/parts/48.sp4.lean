abbrev qX4_panel (cI : ClassId) (x : Nat) (axb axn : Nat → Nat) (xk : Int) (xh : Nat) (axt axc : Nat → Nat) (b : zBS) (cn : zCS) (y1 y2 : Int) (pC : List zPn) (pO : List Int) (ev : Int) : Option Value → List va_W → Prop := fun vq wq => ∃ (r : Int) (cz : zCS), vq = some (.int (zI r)) ∧ wq = [[(x, .inr (4, [.ref (axb 0), .ref (axn 0), .int (zI xk), .ref xh, .ref (axt 0), .ref (axc 0)]))], zBoard cI axb b, zCont cI axc cz] ∧ (panR pC pO y1 y2 r)
set_option maxRecDepth 20000 in
theorem iX4_panel_X4 : ∀ w ∈ u_ws RX4 TX4 6, w ∈ wsX4_panel := by decide +kernel
set_option maxRecDepth 20000 in
theorem mX4_panel_1 : (.fieldLink RX4 12 "StoryPanels" "board" "LStoryPanels$Board;" : Cond) ∈ wsX4_panel := by decide +kernel
set_option maxHeartbeats 4000000 in
set_option maxRecDepth 100000 in
theorem kX4_panel (l : Launch) (D : va_G) (cI cB : ClassId) (x : Nat) (axb axn : Nat → Nat) (xk : Int) (xh : Nat) (axt axc : Nat → Nat) (b : zBS) (cn : zCS) (y1 y2 : Int) (pC : List zPn) (pO : List Int) (ev : Int) (hR : RB b pC pO ev) (hy1 : R32 y1) (hy2 : R32 y2) : zMet l yX4_panel wsX4_panel 6 150 0 0 D cI cB [.ref x, .int (zI y1), .int (zI y2)] [[(x, .inr (4, [.ref (axb 0), .ref (axn 0), .int (zI xk), .ref xh, .ref (axt 0), .ref (axc 0)]))], zBoard cI axb b, zCont cI axc cn] (qX4_panel cI x axb axn xk xh axt axc b cn y1 y2 pC pO ev) := by
  refine zMet.of (cd := cX4_panel) (maxL := 4) (ret := (some .int)) (by decide) rfl (Nat.le_of_ble_eq_true rfl) ?_
  intro p e s m args below meth c A ls hS hr hlk hnm hK hA hW hl
  have hS : CallFix p m c cX4_panel 4 s args wsX4_panel RX4 := hS
  have hx := hS.1
  have hb := hS.2.1
  have hown := hS.2.2.2.1
  have hts := hS.2.2.2.2
  have hl : lv_has ls 4 [(0, .ref x), (1, .int (zI y1)), (2, .int (zI y2))] := hl
  have hRz := hR.1.1
  have hRl := hR.2.1
  refine lv_aload_n hx hb dX4_panel_0 rfl (lv_at hl 0 rfl) ?_
  refine va_get (D := D) (ci := 4) (v := .ref (axb 0)) (C := RX4) (T := TX4) (N := 6) hx hb hts iX4_panel_X4 hown hK.1 hW.1 0 rfl rfl 0 (by decide) (hts _ mX4_panel_1) (fun _ h9 => h9) rfl dX4_panel_1 ?_
  refine lv_iload_n hx hb dX4_panel_4 rfl (lv_at hl 1 rfl) ?_
  refine z_callV (r := (RX0, TX0, 9)) (As := [.int (zI y1)]) (rest := []) hS hK hA hW hl.1 [1] [0, 2] (kX0_slotOf l D cI cB axb b y1 hR.1 (by omega)) (cwV 1 hts gX4_panel_X0_slotOf rfl rfl rfl (by decide +kernel) ⟨Nat.le_of_ble_eq_true rfl, Nat.le_of_ble_eq_true rfl⟩) (rfl : vwCl[0]? = some (RX0, TX0, 9)) (q0 := 1) rfl dX4_panel_5 rfl rfl rfl rfl rfl (Nat.le_of_ble_eq_true rfl) ⟨Nat.le_of_ble_eq_true rfl, Nat.le_of_ble_eq_true rfl⟩ (fun v9 w9 H locs hq hW => ?_)
  obtain ⟨rr_5, rfl, rfl, hh_5⟩ := hq
  have hW : zW D A s.heap [zBoard cI axb b, [(x, .inr (4, [.ref (axb 0), .ref (axn 0), .int (zI xk), .ref xh, .ref (axt 0), .ref (axc 0)]))], zCont cI axc cn] H locs := hW
  have hW : zW D A s.heap [[(x, .inr (4, [.ref (axb 0), .ref (axn 0), .int (zI xk), .ref xh, .ref (axt 0), .ref (axc 0)]))], zBoard cI axb b, zCont cI axc cn] H locs := hW.pick [1, 0, 2] rfl rfl
  refine W.eq (g2 := F0 m 8 ls [.int (zI rr_5)]) rfl ?_
  have hfd := RB_find hR hh_5
  have hfr : -1 ≤ rr_5 ∧ rr_5 < 10 := by rcases hfd with hq | hq <;> omega
  refine lv_istore_n (lv' := [(3, .int (zI rr_5)), (0, .ref x), (1, .int (zI y1)), (2, .int (zI y2))]) hx hb dX4_panel_8 rfl hl (by decide) rfl (fun ls hl => ?_)
  refine lv_iload_n hx hb dX4_panel_9 rfl (lv_at hl 0 rfl) ?_
  refine lv_iconst (v := zI (-1)) hx hb dX4_panel_10 rfl ?_
  refine z_icmp_ne (tgt := 16) hx hb dX4_panel_11 (by decide) (by omega) (fun cc_11 => ?_) (fun cc_11 => ?_)
  · obtain ⟨hf1, jq, pq, hjp, hjl⟩ := hfd.resolve_left (fun hq => cc_11 hq.1)
    have hjs := hR.2.2.2.1 jq pq hjp.1
    rw [← hjl] at hjs
    have hjt := RB_at hR hjp.1
    rw [← hjl] at hjt
    have hjo := RB_pn hR pq (List.mem_of_getElem? hjp.1)
    have hjb := (List.getElem?_eq_some_iff.mp hjp.1).1
    refine lv_iload_n hx hb dX4_panel_16 rfl (lv_at hl 3 rfl) ?_
    rcases (show y2 = 0 ∨ y2 = 1 ∨ y2 = 2 ∨ y2 = 3 ∨ y2 = 4 ∨ y2 = 5 ∨ y2 = 6 ∨ (y2 < 0 ∨ 6 < y2) by omega) with ww_17 | ww_17 | ww_17 | ww_17 | ww_17 | ww_17 | ww_17 | ww_17
    · refine z_tableIn (k := 0) (off := 43) (tgt := 60) hx hb dX4_panel_17 (ww_17) (by decide) (by decide) (by decide +kernel) (by decide) ?_
      refine lv_aload_n hx hb dX4_panel_60 rfl (lv_at hl 1 rfl) ?_
      refine va_get (D := D) (ci := 4) (v := .ref (axb 0)) (C := RX4) (T := TX4) (N := 6) hx hb hts iX4_panel_X4 hown hK.1 hW.1 0 rfl rfl 0 (by decide) (hts _ mX4_panel_1) (fun _ h9 => h9) rfl dX4_panel_61 ?_
      refine lv_iload_n hx hb dX4_panel_64 rfl (lv_at hl 0 rfl) ?_
      refine z_callV (r := (RX0, TX0, 9)) (As := [.int (zI rr_5)]) (rest := []) hS hK hA hW hl.1 [1] [0, 2] (kX0_sceneOf l D cI cB axb b rr_5 hR.1 (by omega)) (cwV 1 hts gX4_panel_X0_sceneOf rfl rfl rfl (by decide +kernel) ⟨Nat.le_of_ble_eq_true rfl, Nat.le_of_ble_eq_true rfl⟩) (rfl : vwCl[0]? = some (RX0, TX0, 9)) (q0 := 1) rfl dX4_panel_65 rfl rfl rfl rfl rfl (Nat.le_of_ble_eq_true rfl) ⟨Nat.le_of_ble_eq_true rfl, Nat.le_of_ble_eq_true rfl⟩ (fun v9 w9 H locs hq hW => ?_)
      obtain ⟨rr_65, rfl, rfl, hh_65⟩ := hq
      subst rr_65
      have hW : zW D A s.heap [zBoard cI axb b, [(x, .inr (4, [.ref (axb 0), .ref (axn 0), .int (zI xk), .ref xh, .ref (axt 0), .ref (axc 0)]))], zCont cI axc cn] H locs := hW
      have hW : zW D A s.heap [[(x, .inr (4, [.ref (axb 0), .ref (axn 0), .int (zI xk), .ref xh, .ref (axt 0), .ref (axc 0)]))], zBoard cI axb b, zCont cI axc cn] H locs := hW.pick [1, 0, 2] rfl rfl
      refine W.eq (g2 := F0 m 68 ls [.int (zI (bd_scn b rr_5))]) rfl ?_
      rw [show (bd_scn b rr_5) = pq.2.1 by exact hjs.2.1]
      exact z_iret (v := pq.2.1) hx hb hr hlk hW dX4_panel_68 (by
          exact ⟨pq.2.1, cn, rfl, rfl, by exact Or.inr ⟨jq, pq, hjp, by rw [ww_17]; rfl⟩⟩)
    · refine z_tableIn (k := 1) (off := 52) (tgt := 69) hx hb dX4_panel_17 (ww_17) (by decide) (by decide) (by decide +kernel) (by decide) ?_
      refine lv_aload_n hx hb dX4_panel_69 rfl (lv_at hl 1 rfl) ?_
      refine va_get (D := D) (ci := 4) (v := .ref (axb 0)) (C := RX4) (T := TX4) (N := 6) hx hb hts iX4_panel_X4 hown hK.1 hW.1 0 rfl rfl 0 (by decide) (hts _ mX4_panel_1) (fun _ h9 => h9) rfl dX4_panel_70 ?_
      refine lv_iload_n hx hb dX4_panel_73 rfl (lv_at hl 0 rfl) ?_
      refine z_callV (r := (RX0, TX0, 9)) (As := [.int (zI rr_5)]) (rest := []) hS hK hA hW hl.1 [1] [0, 2] (kX0_durationOf l D cI cB axb b rr_5 hR.1 (by omega)) (cwV 1 hts gX4_panel_X0_durationOf rfl rfl rfl (by decide +kernel) ⟨Nat.le_of_ble_eq_true rfl, Nat.le_of_ble_eq_true rfl⟩) (rfl : vwCl[0]? = some (RX0, TX0, 9)) (q0 := 1) rfl dX4_panel_74 rfl rfl rfl rfl rfl (Nat.le_of_ble_eq_true rfl) ⟨Nat.le_of_ble_eq_true rfl, Nat.le_of_ble_eq_true rfl⟩ (fun v9 w9 H locs hq hW => ?_)
      obtain ⟨rr_74, rfl, rfl, hh_74⟩ := hq
      subst rr_74
      have hW : zW D A s.heap [zBoard cI axb b, [(x, .inr (4, [.ref (axb 0), .ref (axn 0), .int (zI xk), .ref xh, .ref (axt 0), .ref (axc 0)]))], zCont cI axc cn] H locs := hW
      have hW : zW D A s.heap [[(x, .inr (4, [.ref (axb 0), .ref (axn 0), .int (zI xk), .ref xh, .ref (axt 0), .ref (axc 0)]))], zBoard cI axb b, zCont cI axc cn] H locs := hW.pick [1, 0, 2] rfl rfl
      refine W.eq (g2 := F0 m 77 ls [.int (zI (bd_dur b rr_5))]) rfl ?_
      rw [show (bd_dur b rr_5) = pq.2.2.1 by exact hjs.2.2.1]
      exact z_iret (v := pq.2.2.1) hx hb hr hlk hW dX4_panel_77 (by
          exact ⟨pq.2.2.1, cn, rfl, rfl, by exact Or.inr ⟨jq, pq, hjp, by rw [ww_17]; rfl⟩⟩)
    · refine z_tableIn (k := 2) (off := 61) (tgt := 78) hx hb dX4_panel_17 (ww_17) (by decide) (by decide) (by decide +kernel) (by decide) ?_
      refine lv_aload_n hx hb dX4_panel_78 rfl (lv_at hl 1 rfl) ?_
      refine va_get (D := D) (ci := 4) (v := .ref (axb 0)) (C := RX4) (T := TX4) (N := 6) hx hb hts iX4_panel_X4 hown hK.1 hW.1 0 rfl rfl 0 (by decide) (hts _ mX4_panel_1) (fun _ h9 => h9) rfl dX4_panel_79 ?_
      refine lv_iload_n hx hb dX4_panel_82 rfl (lv_at hl 0 rfl) ?_
      refine z_callV (r := (RX0, TX0, 9)) (As := [.int (zI rr_5)]) (rest := []) hS hK hA hW hl.1 [1] [0, 2] (kX0_eventsIn l D cI cB axb b rr_5 hR.1 (by omega)) (cwV 1 hts gX4_panel_X0_eventsIn rfl rfl rfl (by decide +kernel) ⟨Nat.le_of_ble_eq_true rfl, Nat.le_of_ble_eq_true rfl⟩) (rfl : vwCl[0]? = some (RX0, TX0, 9)) (q0 := 1) rfl dX4_panel_83 rfl rfl rfl rfl rfl (Nat.le_of_ble_eq_true rfl) ⟨Nat.le_of_ble_eq_true rfl, Nat.le_of_ble_eq_true rfl⟩ (fun v9 w9 H locs hq hW => ?_)
      obtain ⟨rr_83, rfl, rfl, hh_83⟩ := hq
      subst rr_83
      have hW : zW D A s.heap [zBoard cI axb b, [(x, .inr (4, [.ref (axb 0), .ref (axn 0), .int (zI xk), .ref xh, .ref (axt 0), .ref (axc 0)]))], zCont cI axc cn] H locs := hW
      have hW : zW D A s.heap [[(x, .inr (4, [.ref (axb 0), .ref (axn 0), .int (zI xk), .ref xh, .ref (axt 0), .ref (axc 0)]))], zBoard cI axb b, zCont cI axc cn] H locs := hW.pick [1, 0, 2] rfl rfl
      refine W.eq (g2 := F0 m 86 ls [.int (zI (bd_cnt b rr_5))]) rfl ?_
      rw [show (bd_cnt b rr_5) = ((pq.2.2.2.length : Int)) by exact hjs.2.2.2.1]
      exact z_iret (v := (pq.2.2.2.length : Int)) hx hb hr hlk hW dX4_panel_86 (by
          exact ⟨(pq.2.2.2.length : Int), cn, rfl, rfl, by exact Or.inr ⟨jq, pq, hjp, by rw [ww_17]; rfl⟩⟩)
    · refine z_tableIn (k := 3) (off := 70) (tgt := 87) hx hb dX4_panel_17 (ww_17) (by decide) (by decide) (by decide +kernel) (by decide) ?_
      refine lv_aload_n hx hb dX4_panel_87 rfl (lv_at hl 1 rfl) ?_
      refine va_get (D := D) (ci := 4) (v := .ref (axb 0)) (C := RX4) (T := TX4) (N := 6) hx hb hts iX4_panel_X4 hown hK.1 hW.1 0 rfl rfl 0 (by decide) (hts _ mX4_panel_1) (fun _ h9 => h9) rfl dX4_panel_88 ?_
      refine lv_iload_n hx hb dX4_panel_91 rfl (lv_at hl 0 rfl) ?_
      refine z_callV (r := (RX0, TX0, 9)) (As := [.int (zI rr_5)]) (rest := []) hS hK hA hW hl.1 [1] [0, 2] (kX0_placeOf l D cI cB axb b rr_5 ((jq : Int)) hR.1 (by omega) hjt) (cwV 1 hts gX4_panel_X0_placeOf rfl rfl rfl (by decide +kernel) ⟨Nat.le_of_ble_eq_true rfl, Nat.le_of_ble_eq_true rfl⟩) (rfl : vwCl[0]? = some (RX0, TX0, 9)) (q0 := 1) rfl dX4_panel_92 rfl rfl rfl rfl rfl (Nat.le_of_ble_eq_true rfl) ⟨Nat.le_of_ble_eq_true rfl, Nat.le_of_ble_eq_true rfl⟩ (fun v9 w9 H locs hq hW => ?_)
      obtain ⟨rr_92, rfl, rfl, hh_92⟩ := hq
      subst rr_92
      have hW : zW D A s.heap [zBoard cI axb b, [(x, .inr (4, [.ref (axb 0), .ref (axn 0), .int (zI xk), .ref xh, .ref (axt 0), .ref (axc 0)]))], zCont cI axc cn] H locs := hW
      have hW : zW D A s.heap [[(x, .inr (4, [.ref (axb 0), .ref (axn 0), .int (zI xk), .ref xh, .ref (axt 0), .ref (axc 0)]))], zBoard cI axb b, zCont cI axc cn] H locs := hW.pick [1, 0, 2] rfl rfl
      refine W.eq (g2 := F0 m 95 ls [.int (zI (((jq : Int)) - nAhead b (bd_scn b rr_5)))]) rfl ?_
      rw [show (((jq : Int)) - nAhead b (bd_scn b rr_5)) = ((jq : Int) - ahC pC pO pq.2.1) by rw [hjs.2.1, RB_nAhead hR hjo.2.1]]
      exact z_iret (v := (jq : Int) - ahC pC pO pq.2.1) hx hb hr hlk hW dX4_panel_95 (by
          exact ⟨(jq : Int) - ahC pC pO pq.2.1, cn, rfl, rfl, by exact Or.inr ⟨jq, pq, hjp, by rw [ww_17]; rfl⟩⟩)
    · refine z_tableIn (k := 4) (off := 79) (tgt := 96) hx hb dX4_panel_17 (ww_17) (by decide) (by decide) (by decide +kernel) (by decide) ?_
      refine lv_aload_n hx hb dX4_panel_96 rfl (lv_at hl 1 rfl) ?_
      refine va_get (D := D) (ci := 4) (v := .ref (axb 0)) (C := RX4) (T := TX4) (N := 6) hx hb hts iX4_panel_X4 hown hK.1 hW.1 0 rfl rfl 0 (by decide) (hts _ mX4_panel_1) (fun _ h9 => h9) rfl dX4_panel_97 ?_
      refine lv_aload_n hx hb dX4_panel_100 rfl (lv_at hl 1 rfl) ?_
      refine va_get (D := D) (ci := 4) (v := .ref (axb 0)) (C := RX4) (T := TX4) (N := 6) hx hb hts iX4_panel_X4 hown hK.1 hW.1 0 rfl rfl 0 (by decide) (hts _ mX4_panel_1) (fun _ h9 => h9) rfl dX4_panel_101 ?_
      refine lv_iload_n hx hb dX4_panel_104 rfl (lv_at hl 0 rfl) ?_
      refine z_callV (r := (RX0, TX0, 9)) (As := [.int (zI rr_5)]) (rest := [.ref (axb 0)]) hS hK hA hW hl.1 [1] [0, 2] (kX0_rankOf l D cI cB axb b rr_5 ((jq : Int)) hR.1 (by omega) hjt) (cwV 1 hts gX4_panel_X0_rankOf rfl rfl rfl (by decide +kernel) ⟨Nat.le_of_ble_eq_true rfl, Nat.le_of_ble_eq_true rfl⟩) (rfl : vwCl[0]? = some (RX0, TX0, 9)) (q0 := 1) rfl dX4_panel_105 rfl rfl rfl rfl rfl (Nat.le_of_ble_eq_true rfl) ⟨Nat.le_of_ble_eq_true rfl, Nat.le_of_ble_eq_true rfl⟩ (fun v9 w9 H locs hq hW => ?_)
      obtain ⟨rr_105, rfl, rfl, hh_105⟩ := hq
      subst rr_105
      have hW : zW D A s.heap [zBoard cI axb b, [(x, .inr (4, [.ref (axb 0), .ref (axn 0), .int (zI xk), .ref xh, .ref (axt 0), .ref (axc 0)]))], zCont cI axc cn] H locs := hW
      have hW : zW D A s.heap [[(x, .inr (4, [.ref (axb 0), .ref (axn 0), .int (zI xk), .ref xh, .ref (axt 0), .ref (axc 0)]))], zBoard cI axb b, zCont cI axc cn] H locs := hW.pick [1, 0, 2] rfl rfl
      refine W.eq (g2 := F0 m 108 ls [.int (zI (((jq : Int)))), .ref (axb 0)]) rfl ?_
      refine z_callV (r := (RX0, TX0, 9)) (As := [.int (zI (((jq : Int))))]) (rest := []) hS hK hA hW hl.1 [1] [0, 2] (kX0_ticksAhead l D cI cB axb b (((jq : Int))) hR.1 (by omega)) (cwV 1 hts gX4_panel_X0_ticksAhead rfl rfl rfl (by decide +kernel) ⟨Nat.le_of_ble_eq_true rfl, Nat.le_of_ble_eq_true rfl⟩) (rfl : vwCl[0]? = some (RX0, TX0, 9)) (q0 := 1) rfl dX4_panel_108 rfl rfl rfl rfl rfl (Nat.le_of_ble_eq_true rfl) ⟨Nat.le_of_ble_eq_true rfl, Nat.le_of_ble_eq_true rfl⟩ (fun v9 w9 H locs hq hW => ?_)
      obtain ⟨rr_108, rfl, rfl, hh_108⟩ := hq
      subst rr_108
      have hW : zW D A s.heap [zBoard cI axb b, [(x, .inr (4, [.ref (axb 0), .ref (axn 0), .int (zI xk), .ref xh, .ref (axt 0), .ref (axc 0)]))], zCont cI axc cn] H locs := hW
      have hW : zW D A s.heap [[(x, .inr (4, [.ref (axb 0), .ref (axn 0), .int (zI xk), .ref xh, .ref (axt 0), .ref (axc 0)]))], zBoard cI axb b, zCont cI axc cn] H locs := hW.pick [1, 0, 2] rfl rfl
      refine W.eq (g2 := F0 m 111 ls [.int (zI (ticksB b (if (((jq : Int))) < bd_sz b then (((jq : Int))) else bd_sz b)))]) rfl ?_
      rw [show (ticksB b (if (((jq : Int))) < bd_sz b then (((jq : Int))) else bd_sz b)) = (tkC pC (jq : Int)) by rw [if_pos (by omega)]; exact RB_ticks hR (by omega)]
      exact z_iret (v := tkC pC (jq : Int)) hx hb hr hlk hW dX4_panel_111 (by
          exact ⟨tkC pC (jq : Int), cn, rfl, rfl, by exact Or.inr ⟨jq, pq, hjp, by rw [ww_17]; rfl⟩⟩)
    · refine z_tableIn (k := 5) (off := 95) (tgt := 112) hx hb dX4_panel_17 (ww_17) (by decide) (by decide) (by decide +kernel) (by decide) ?_
      refine lv_aload_n hx hb dX4_panel_112 rfl (lv_at hl 1 rfl) ?_
      refine va_get (D := D) (ci := 4) (v := .ref (axb 0)) (C := RX4) (T := TX4) (N := 6) hx hb hts iX4_panel_X4 hown hK.1 hW.1 0 rfl rfl 0 (by decide) (hts _ mX4_panel_1) (fun _ h9 => h9) rfl dX4_panel_113 ?_
      refine lv_iload_n hx hb dX4_panel_116 rfl (lv_at hl 0 rfl) ?_
      refine z_callV (r := (RX0, TX0, 9)) (As := [.int (zI rr_5)]) (rest := []) hS hK hA hW hl.1 [1] [0, 2] (kX0_rankOf l D cI cB axb b rr_5 ((jq : Int)) hR.1 (by omega) hjt) (cwV 1 hts gX4_panel_X0_rankOf rfl rfl rfl (by decide +kernel) ⟨Nat.le_of_ble_eq_true rfl, Nat.le_of_ble_eq_true rfl⟩) (rfl : vwCl[0]? = some (RX0, TX0, 9)) (q0 := 1) rfl dX4_panel_117 rfl rfl rfl rfl rfl (Nat.le_of_ble_eq_true rfl) ⟨Nat.le_of_ble_eq_true rfl, Nat.le_of_ble_eq_true rfl⟩ (fun v9 w9 H locs hq hW => ?_)
      obtain ⟨rr_117, rfl, rfl, hh_117⟩ := hq
      subst rr_117
      have hW : zW D A s.heap [zBoard cI axb b, [(x, .inr (4, [.ref (axb 0), .ref (axn 0), .int (zI xk), .ref xh, .ref (axt 0), .ref (axc 0)]))], zCont cI axc cn] H locs := hW
      have hW : zW D A s.heap [[(x, .inr (4, [.ref (axb 0), .ref (axn 0), .int (zI xk), .ref xh, .ref (axt 0), .ref (axc 0)]))], zBoard cI axb b, zCont cI axc cn] H locs := hW.pick [1, 0, 2] rfl rfl
      refine W.eq (g2 := F0 m 120 ls [.int (zI (((jq : Int))))]) rfl ?_
      exact z_iret (v := ((jq : Int))) hx hb hr hlk hW dX4_panel_120 (by
          exact ⟨((jq : Int)), cn, rfl, rfl, by exact Or.inr ⟨jq, pq, hjp, by rw [ww_17]; rfl⟩⟩)
    · refine z_tableIn (k := 6) (off := 104) (tgt := 121) hx hb dX4_panel_17 (ww_17) (by decide) (by decide) (by decide +kernel) (by decide) ?_
      refine lv_aload_n hx hb dX4_panel_121 rfl (lv_at hl 1 rfl) ?_
      refine lv_iconst (v := zI (0)) hx hb dX4_panel_122 rfl ?_
      refine lv_iload_n hx hb dX4_panel_123 rfl (lv_at hl 2 rfl) ?_
      refine z_callV (r := (RX4, TX4, 6)) (As := [.int (zI 0), .int (zI y1)]) (rest := []) hS hK hA hW hl.1 [0, 1, 2] [] (kX4_breaksHaving l D cI cB x axb axn xk xh axt axc b cn 0 y1 pC pO ev hR (by omega) (by omega)) (cwV 2 hts gX4_panel_X4_breaksHaving rfl rfl rfl (by decide +kernel) ⟨Nat.le_of_ble_eq_true rfl, Nat.le_of_ble_eq_true rfl⟩) (rfl : vwCl[4]? = some (RX4, TX4, 6)) (q0 := 0) rfl dX4_panel_124 rfl rfl rfl rfl rfl (Nat.le_of_ble_eq_true rfl) ⟨Nat.le_of_ble_eq_true rfl, Nat.le_of_ble_eq_true rfl⟩ (fun v9 w9 H locs hq hW => ?_)
      obtain ⟨rr_124, cz_124, rfl, rfl, hh_124⟩ := hq
      have hW : zW D A s.heap [[(x, .inr (4, [.ref (axb 0), .ref (axn 0), .int (zI xk), .ref xh, .ref (axt 0), .ref (axc 0)]))], zBoard cI axb b, zCont cI axc cz_124] H locs := hW
      refine W.eq (g2 := F0 m 127 ls [.int (zI rr_124)]) rfl ?_
      exact z_iret (v := rr_124) hx hb hr hlk hW dX4_panel_127 (by
          exact ⟨rr_124, cz_124, rfl, rfl, by exact Or.inr ⟨jq, pq, hjp, by rw [ww_17]; show rr_124 = haveB pC 0 pq.1; rw [hjp.2]; exact hh_124.1⟩⟩)
    · refine z_tableOut (tgt := 128) hx hb dX4_panel_17 (by omega) ww_17 (by decide) ?_
      refine lv_bipush (v := zI (-2)) hx hb dX4_panel_128 (by decide +kernel) ?_
      exact z_iret (v := (-2)) hx hb hr hlk hW dX4_panel_130 (by
          exact ⟨(-2), cn, rfl, rfl, by exact Or.inr ⟨jq, pq, hjp, by unfold panA; rw [if_neg (by omega), if_neg (by omega), if_neg (by omega), if_neg (by omega), if_neg (by omega), if_neg (by omega), if_neg (by omega)]⟩⟩)
  · refine lv_iconst (v := zI (-1)) hx hb dX4_panel_14 rfl ?_
    exact z_iret (v := (-1)) hx hb hr hlk hW dX4_panel_15 (by
        exact ⟨(-1), cn, rfl, rfl, by exact Or.inl ⟨(hfd.resolve_right (by rintro ⟨hq, -⟩; omega)).2, rfl⟩⟩)

abbrev qX4_event (cI : ClassId) (x : Nat) (axb axn : Nat → Nat) (xk : Int) (xh : Nat) (axt axc : Nat → Nat) (b : zBS) (cn : zCS) (y1 y2 y3 : Int) (pC : List zPn) (pO : List Int) (ev : Int) : Option Value → List va_W → Prop := fun vq wq => ∃ (r : Int), vq = some (.int (zI r)) ∧ wq = [[(x, .inr (4, [.ref (axb 0), .ref (axn 0), .int (zI xk), .ref xh, .ref (axt 0), .ref (axc 0)]))], zBoard cI axb b, zCont cI axc cn] ∧ (evtR pC y1 y2 y3 r)
set_option maxRecDepth 20000 in
theorem iX4_event_X4 : ∀ w ∈ u_ws RX4 TX4 6, w ∈ wsX4_event := by decide +kernel
set_option maxRecDepth 20000 in
theorem mX4_event_1 : (.fieldLink RX4 12 "StoryPanels" "board" "LStoryPanels$Board;" : Cond) ∈ wsX4_event := by decide +kernel
set_option maxHeartbeats 4000000 in
set_option maxRecDepth 100000 in
theorem kX4_event (l : Launch) (D : va_G) (cI cB : ClassId) (x : Nat) (axb axn : Nat → Nat) (xk : Int) (xh : Nat) (axt axc : Nat → Nat) (b : zBS) (cn : zCS) (y1 y2 y3 : Int) (pC : List zPn) (pO : List Int) (ev : Int) (hR : RB b pC pO ev) (hy1 : R32 y1) (hy2 : R32 y2) (hy3 : R32 y3) : zMet l yX4_event wsX4_event 2 43 0 0 D cI cB [.ref x, .int (zI y1), .int (zI y2), .int (zI y3)] [[(x, .inr (4, [.ref (axb 0), .ref (axn 0), .int (zI xk), .ref xh, .ref (axt 0), .ref (axc 0)]))], zBoard cI axb b, zCont cI axc cn] (qX4_event cI x axb axn xk xh axt axc b cn y1 y2 y3 pC pO ev) := by
  refine zMet.of (cd := cX4_event) (maxL := 6) (ret := (some .int)) (by decide) rfl (Nat.le_of_ble_eq_true rfl) ?_
  intro p e s m args below meth c A ls hS hr hlk hnm hK hA hW hl
  have hS : CallFix p m c cX4_event 6 s args wsX4_event RX4 := hS
  have hx := hS.1
  have hb := hS.2.1
  have hown := hS.2.2.2.1
  have hts := hS.2.2.2.2
  have hl : lv_has ls 6 [(0, .ref x), (1, .int (zI y1)), (2, .int (zI y2)), (3, .int (zI y3))] := hl
  have hRz := hR.1.1
  have hRl := hR.2.1
  refine lv_aload_n hx hb dX4_event_0 rfl (lv_at hl 0 rfl) ?_
  refine va_get (D := D) (ci := 4) (v := .ref (axb 0)) (C := RX4) (T := TX4) (N := 6) hx hb hts iX4_event_X4 hown hK.1 hW.1 0 rfl rfl 0 (by decide) (hts _ mX4_event_1) (fun _ h9 => h9) rfl dX4_event_1 ?_
  refine lv_iload_n hx hb dX4_event_4 rfl (lv_at hl 1 rfl) ?_
  refine z_callV (r := (RX0, TX0, 9)) (As := [.int (zI y1)]) (rest := []) hS hK hA hW hl.1 [1] [0, 2] (kX0_slotOf l D cI cB axb b y1 hR.1 (by omega)) (cwV 1 hts gX4_event_X0_slotOf rfl rfl rfl (by decide +kernel) ⟨Nat.le_of_ble_eq_true rfl, Nat.le_of_ble_eq_true rfl⟩) (rfl : vwCl[0]? = some (RX0, TX0, 9)) (q0 := 1) rfl dX4_event_5 rfl rfl rfl rfl rfl (Nat.le_of_ble_eq_true rfl) ⟨Nat.le_of_ble_eq_true rfl, Nat.le_of_ble_eq_true rfl⟩ (fun v9 w9 H locs hq hW => ?_)
  obtain ⟨rr_5, rfl, rfl, hh_5⟩ := hq
  have hW : zW D A s.heap [zBoard cI axb b, [(x, .inr (4, [.ref (axb 0), .ref (axn 0), .int (zI xk), .ref xh, .ref (axt 0), .ref (axc 0)]))], zCont cI axc cn] H locs := hW
  have hW : zW D A s.heap [[(x, .inr (4, [.ref (axb 0), .ref (axn 0), .int (zI xk), .ref xh, .ref (axt 0), .ref (axc 0)]))], zBoard cI axb b, zCont cI axc cn] H locs := hW.pick [1, 0, 2] rfl rfl
  refine W.eq (g2 := F0 m 8 ls [.int (zI rr_5)]) rfl ?_
  have hfd := RB_find hR hh_5
  have hfr : -1 ≤ rr_5 ∧ rr_5 < 10 := by rcases hfd with hq | hq <;> omega
  refine lv_istore (lv' := [(4, .int (zI rr_5)), (0, .ref x), (1, .int (zI y1)), (2, .int (zI y2)), (3, .int (zI y3))]) hx hb dX4_event_8 hl (by decide) rfl (fun ls hl => ?_)
  refine lv_iload hx hb dX4_event_10 (lv_at hl 0 rfl) ?_
  refine lv_iconst (v := zI (-1)) hx hb dX4_event_12 rfl ?_
  refine z_icmp_eq (tgt := 33) hx hb dX4_event_13 (by decide) (by omega) (fun cc_13 => ?_) (fun cc_13 => ?_)
  · refine lv_iconst (v := zI (-1)) hx hb dX4_event_33 rfl ?_
    exact z_iret (v := (-1)) hx hb hr hlk hW dX4_event_34 (by
        exact ⟨(-1), rfl, rfl, by first | exact Or.inl ⟨(hfd.resolve_right (by rintro ⟨hq, -⟩; omega)).2, rfl⟩ | exact Or.inr ⟨jq, pq, hjp, Or.inl ⟨by omega, rfl⟩⟩⟩)
  · obtain ⟨hf1, jq, pq, hjp, hjl⟩ := hfd.resolve_left (fun hq => cc_13 hq.1)
    have hjs := hR.2.2.2.1 jq pq hjp.1
    rw [← hjl] at hjs
    have hjt := RB_at hR hjp.1
    rw [← hjl] at hjt
    have hjo := RB_pn hR pq (List.mem_of_getElem? hjp.1)
    have hjb := (List.getElem?_eq_some_iff.mp hjp.1).1
    refine lv_iload_n hx hb dX4_event_16 rfl (lv_at hl 3 rfl) ?_
    refine z_if_lt (tgt := 33) hx hb dX4_event_17 (by decide) (by omega) (fun cc_17 => ?_) (fun cc_17 => ?_)
    · refine lv_iconst (v := zI (-1)) hx hb dX4_event_33 rfl ?_
      exact z_iret (v := (-1)) hx hb hr hlk hW dX4_event_34 (by
          exact ⟨(-1), rfl, rfl, by first | exact Or.inl ⟨(hfd.resolve_right (by rintro ⟨hq, -⟩; omega)).2, rfl⟩ | exact Or.inr ⟨jq, pq, hjp, Or.inl ⟨by omega, rfl⟩⟩⟩)
    · have hcl := hjo.2.2.2.1
      refine lv_iload_n hx hb dX4_event_20 rfl (lv_at hl 3 rfl) ?_
      refine lv_aload_n hx hb dX4_event_21 rfl (lv_at hl 1 rfl) ?_
      refine va_get (D := D) (ci := 4) (v := .ref (axb 0)) (C := RX4) (T := TX4) (N := 6) hx hb hts iX4_event_X4 hown hK.1 hW.1 0 rfl rfl 0 (by decide) (hts _ mX4_event_1) (fun _ h9 => h9) rfl dX4_event_22 ?_
      refine lv_iload hx hb dX4_event_25 (lv_at hl 0 rfl) ?_
      refine z_callV (r := (RX0, TX0, 9)) (As := [.int (zI rr_5)]) (rest := [.int (zI y2)]) hS hK hA hW hl.1 [1] [0, 2] (kX0_eventsIn l D cI cB axb b rr_5 hR.1 (by omega)) (cwV 1 hts gX4_event_X0_eventsIn rfl rfl rfl (by decide +kernel) ⟨Nat.le_of_ble_eq_true rfl, Nat.le_of_ble_eq_true rfl⟩) (rfl : vwCl[0]? = some (RX0, TX0, 9)) (q0 := 1) rfl dX4_event_27 rfl rfl rfl rfl rfl (Nat.le_of_ble_eq_true rfl) ⟨Nat.le_of_ble_eq_true rfl, Nat.le_of_ble_eq_true rfl⟩ (fun v9 w9 H locs hq hW => ?_)
      obtain ⟨rr_27, rfl, rfl, hh_27⟩ := hq
      subst rr_27
      have hW : zW D A s.heap [zBoard cI axb b, [(x, .inr (4, [.ref (axb 0), .ref (axn 0), .int (zI xk), .ref xh, .ref (axt 0), .ref (axc 0)]))], zCont cI axc cn] H locs := hW
      have hW : zW D A s.heap [[(x, .inr (4, [.ref (axb 0), .ref (axn 0), .int (zI xk), .ref xh, .ref (axt 0), .ref (axc 0)]))], zBoard cI axb b, zCont cI axc cn] H locs := hW.pick [1, 0, 2] rfl rfl
      refine W.eq (g2 := F0 m 30 ls [.int (zI (bd_cnt b rr_5)), .int (zI y2)]) rfl ?_
      rw [show (bd_cnt b rr_5) = ((pq.2.2.2.length : Int)) by exact hjs.2.2.2.1]
      refine z_icmp_lt (tgt := 35) hx hb dX4_event_30 (by decide) (by omega) (fun cc_30 => ?_) (fun cc_30 => ?_)
      · obtain ⟨vv, hvv⟩ : ∃ vv, pq.2.2.2[y2.toNat]? = some vv := ⟨_, List.getElem?_eq_getElem (by omega)⟩
        have hvo : evOK vv := hjo.2.2.2.2 vv (List.mem_of_getElem? hvv)
        have hvr := evCode_rg hvo
        have hvk := hvo.2.1
        have hv3 := hvo.2.2
        refine lv_aload_n hx hb dX4_event_35 rfl (lv_at hl 1 rfl) ?_
        refine va_get (D := D) (ci := 4) (v := .ref (axb 0)) (C := RX4) (T := TX4) (N := 6) hx hb hts iX4_event_X4 hown hK.1 hW.1 0 rfl rfl 0 (by decide) (hts _ mX4_event_1) (fun _ h9 => h9) rfl dX4_event_36 ?_
        refine lv_iload hx hb dX4_event_39 (lv_at hl 0 rfl) ?_
        refine lv_iload_n hx hb dX4_event_41 rfl (lv_at hl 3 rfl) ?_
        refine z_callV (r := (RX0, TX0, 9)) (As := [.int (zI rr_5), .int (zI y2)]) (rest := []) hS hK hA hW hl.1 [1] [0, 2] (kX0_eventCode l D cI cB axb b rr_5 y2 hR.1 (by omega) (by omega)) (cwV 2 hts gX4_event_X0_eventCode rfl rfl rfl (by decide +kernel) ⟨Nat.le_of_ble_eq_true rfl, Nat.le_of_ble_eq_true rfl⟩) (rfl : vwCl[0]? = some (RX0, TX0, 9)) (q0 := 1) rfl dX4_event_42 rfl rfl rfl rfl rfl (Nat.le_of_ble_eq_true rfl) ⟨Nat.le_of_ble_eq_true rfl, Nat.le_of_ble_eq_true rfl⟩ (fun v9 w9 H locs hq hW => ?_)
        obtain ⟨rr_42, rfl, rfl, hh_42⟩ := hq
        subst rr_42
        have hW : zW D A s.heap [zBoard cI axb b, [(x, .inr (4, [.ref (axb 0), .ref (axn 0), .int (zI xk), .ref xh, .ref (axt 0), .ref (axc 0)]))], zCont cI axc cn] H locs := hW
        have hW : zW D A s.heap [[(x, .inr (4, [.ref (axb 0), .ref (axn 0), .int (zI xk), .ref xh, .ref (axt 0), .ref (axc 0)]))], zBoard cI axb b, zCont cI axc cn] H locs := hW.pick [1, 0, 2] rfl rfl
        refine W.eq (g2 := F0 m 45 ls [.int (zI (bd_cod b (rr_5 * 6 + y2)))]) rfl ?_
        rw [show (bd_cod b (rr_5 * 6 + y2)) = (evCode vv) by exact slotHas_cod hjs (by omega) hvv]
        refine lv_istore (lv' := [(5, .int (zI (evCode vv))), (4, .int (zI rr_5)), (0, .ref x), (1, .int (zI y1)), (2, .int (zI y2)), (3, .int (zI y3))]) hx hb dX4_event_45 hl (by decide) rfl (fun ls hl => ?_)
        refine lv_iload_n hx hb dX4_event_47 rfl (lv_at hl 5 rfl) ?_
        rcases (show y3 = 0 ∨ y3 = 1 ∨ y3 = 2 ∨ (y3 < 0 ∨ 2 < y3) by omega) with ww_48 | ww_48 | ww_48 | ww_48
        · refine z_tableIn (k := 0) (off := 28) (tgt := 76) hx hb dX4_event_48 (ww_48) (by decide) (by decide) (by decide +kernel) (by decide) ?_
          refine lv_iload hx hb dX4_event_76 (lv_at hl 0 rfl) ?_
          refine z_callS (As := [.int (zI (evCode vv))]) (rest := []) hS hK hA hW hl.1 [] [0, 1, 2] (kX4_characterIn l D cI cB (evCode vv) (by omega)) (va_cwS 1 hts gX4_event_X4_characterIn rfl rfl rfl (by decide +kernel) ⟨Nat.le_of_ble_eq_true rfl, Nat.le_of_ble_eq_true rfl⟩) dX4_event_78 rfl rfl rfl rfl rfl (Nat.le_of_ble_eq_true rfl) ⟨Nat.le_of_ble_eq_true rfl, Nat.le_of_ble_eq_true rfl⟩ (fun v9 w9 H locs hq hW => ?_)
          obtain ⟨rr_78, rfl, rfl, hh_78⟩ := hq
          subst rr_78
          have hW : zW D A s.heap [[(x, .inr (4, [.ref (axb 0), .ref (axn 0), .int (zI xk), .ref xh, .ref (axt 0), .ref (axc 0)]))], zBoard cI axb b, zCont cI axc cn] H locs := hW
          refine W.eq (g2 := F0 m 81 ls [.int (zI ((evCode vv) / 100))]) rfl ?_
          rw [show ((evCode vv) / 100) = vv.1 by exact evCode_ch hvo]
          exact z_iret (v := vv.1) hx hb hr hlk hW dX4_event_81 (by
              exact ⟨vv.1, rfl, rfl, by exact Or.inr ⟨jq, pq, hjp, Or.inr ⟨vv, by omega, hvv, by rw [ww_48]; rfl⟩⟩⟩)
        · refine z_tableIn (k := 1) (off := 34) (tgt := 82) hx hb dX4_event_48 (ww_48) (by decide) (by decide) (by decide +kernel) (by decide) ?_
          refine lv_iload hx hb dX4_event_82 (lv_at hl 0 rfl) ?_
          refine z_callS (As := [.int (zI (evCode vv))]) (rest := []) hS hK hA hW hl.1 [] [0, 1, 2] (kX4_kindIn l D cI cB (evCode vv) (by omega)) (va_cwS 1 hts gX4_event_X4_kindIn rfl rfl rfl (by decide +kernel) ⟨Nat.le_of_ble_eq_true rfl, Nat.le_of_ble_eq_true rfl⟩) dX4_event_84 rfl rfl rfl rfl rfl (Nat.le_of_ble_eq_true rfl) ⟨Nat.le_of_ble_eq_true rfl, Nat.le_of_ble_eq_true rfl⟩ (fun v9 w9 H locs hq hW => ?_)
          obtain ⟨rr_84, rfl, rfl, hh_84⟩ := hq
          subst rr_84
          have hW : zW D A s.heap [[(x, .inr (4, [.ref (axb 0), .ref (axn 0), .int (zI xk), .ref xh, .ref (axt 0), .ref (axc 0)]))], zBoard cI axb b, zCont cI axc cn] H locs := hW
          refine W.eq (g2 := F0 m 87 ls [.int (zI ((evCode vv) / 10 % 10))]) rfl ?_
          rw [show ((evCode vv) / 10 % 10) = vv.2.1 by exact evCode_ki hvo]
          exact z_iret (v := vv.2.1) hx hb hr hlk hW dX4_event_87 (by
              exact ⟨vv.2.1, rfl, rfl, by exact Or.inr ⟨jq, pq, hjp, Or.inr ⟨vv, by omega, hvv, by rw [ww_48]; rfl⟩⟩⟩)
        · refine z_tableIn (k := 2) (off := 40) (tgt := 88) hx hb dX4_event_48 (ww_48) (by decide) (by decide) (by decide +kernel) (by decide) ?_
          refine lv_iload hx hb dX4_event_88 (lv_at hl 0 rfl) ?_
          refine z_callS (As := [.int (zI (evCode vv))]) (rest := []) hS hK hA hW hl.1 [] [0, 1, 2] (kX4_kindIn l D cI cB (evCode vv) (by omega)) (va_cwS 1 hts gX4_event_X4_kindIn rfl rfl rfl (by decide +kernel) ⟨Nat.le_of_ble_eq_true rfl, Nat.le_of_ble_eq_true rfl⟩) dX4_event_90 rfl rfl rfl rfl rfl (Nat.le_of_ble_eq_true rfl) ⟨Nat.le_of_ble_eq_true rfl, Nat.le_of_ble_eq_true rfl⟩ (fun v9 w9 H locs hq hW => ?_)
          obtain ⟨rr_90, rfl, rfl, hh_90⟩ := hq
          subst rr_90
          have hW : zW D A s.heap [[(x, .inr (4, [.ref (axb 0), .ref (axn 0), .int (zI xk), .ref xh, .ref (axt 0), .ref (axc 0)]))], zBoard cI axb b, zCont cI axc cn] H locs := hW
          refine W.eq (g2 := F0 m 93 ls [.int (zI ((evCode vv) / 10 % 10))]) rfl ?_
          rw [show ((evCode vv) / 10 % 10) = vv.2.1 by exact evCode_ki hvo]
          refine z_callS (As := [.int (zI vv.2.1)]) (rest := []) hS hK hA hW hl.1 [] [0, 1, 2] (kX4_takesProp l D cI cB vv.2.1 (by omega)) (va_cwS 1 hts gX4_event_X4_takesProp rfl rfl rfl (by decide +kernel) ⟨Nat.le_of_ble_eq_true rfl, Nat.le_of_ble_eq_true rfl⟩) dX4_event_93 rfl rfl rfl rfl rfl (Nat.le_of_ble_eq_true rfl) ⟨Nat.le_of_ble_eq_true rfl, Nat.le_of_ble_eq_true rfl⟩ (fun v9 w9 H locs hq hW => ?_)
          obtain ⟨rr_93, rfl, rfl, hh_93⟩ := hq
          have hW : zW D A s.heap [[(x, .inr (4, [.ref (axb 0), .ref (axn 0), .int (zI xk), .ref xh, .ref (axt 0), .ref (axc 0)]))], zBoard cI axb b, zCont cI axc cn] H locs := hW
          refine W.eq (g2 := F0 m 96 ls [.int (zI rr_93)]) rfl ?_
          refine z_if_eq (tgt := 107) hx hb dX4_event_96 (by decide) (by omega) (fun cc_96 => ?_) (fun cc_96 => ?_)
          · refine lv_bipush (v := zI (-5)) hx hb dX4_event_107 (by decide +kernel) ?_
            exact z_iret (v := (-5)) hx hb hr hlk hW dX4_event_109 (by
                exact ⟨(-5), rfl, rfl, by exact Or.inr ⟨jq, pq, hjp, Or.inr ⟨vv, by omega, hvv, by rw [ww_48]; first | rfl | (show (-5 : Int) = vv.2.2; omega)⟩⟩⟩)
          · refine lv_iload hx hb dX4_event_99 (lv_at hl 0 rfl) ?_
            refine z_callS (As := [.int (zI (evCode vv))]) (rest := []) hS hK hA hW hl.1 [] [0, 1, 2] (kX4_propIn l D cI cB (evCode vv) (by omega)) (va_cwS 1 hts gX4_event_X4_propIn rfl rfl rfl (by decide +kernel) ⟨Nat.le_of_ble_eq_true rfl, Nat.le_of_ble_eq_true rfl⟩) dX4_event_101 rfl rfl rfl rfl rfl (Nat.le_of_ble_eq_true rfl) ⟨Nat.le_of_ble_eq_true rfl, Nat.le_of_ble_eq_true rfl⟩ (fun v9 w9 H locs hq hW => ?_)
            obtain ⟨rr_101, rfl, rfl, hh_101⟩ := hq
            subst rr_101
            have hW : zW D A s.heap [[(x, .inr (4, [.ref (axb 0), .ref (axn 0), .int (zI xk), .ref xh, .ref (axt 0), .ref (axc 0)]))], zBoard cI axb b, zCont cI axc cn] H locs := hW
            refine W.eq (g2 := F0 m 104 ls [.int (zI ((evCode vv) % 10))]) rfl ?_
            rw [show ((evCode vv) % 10) = vv.2.2 by exact evCode_pr hvo (by omega)]
            refine lv_goto (tgt := 109) hx hb dX4_event_104 (by decide) ?_
            exact z_iret (v := vv.2.2) hx hb hr hlk hW dX4_event_109 (by
                exact ⟨vv.2.2, rfl, rfl, by exact Or.inr ⟨jq, pq, hjp, Or.inr ⟨vv, by omega, hvv, by rw [ww_48]; first | rfl | (show (-5 : Int) = vv.2.2; omega)⟩⟩⟩)
        · refine z_tableOut (tgt := 110) hx hb dX4_event_48 (by omega) ww_48 (by decide) ?_
          refine lv_bipush (v := zI (-2)) hx hb dX4_event_110 (by decide +kernel) ?_
          exact z_iret (v := (-2)) hx hb hr hlk hW dX4_event_112 (by
              exact ⟨(-2), rfl, rfl, by exact Or.inr ⟨jq, pq, hjp, Or.inr ⟨vv, by omega, hvv, by unfold evtA; rw [if_neg (by omega), if_neg (by omega), if_neg (by omega)]⟩⟩⟩)
      · refine lv_iconst (v := zI (-1)) hx hb dX4_event_33 rfl ?_
        exact z_iret (v := (-1)) hx hb hr hlk hW dX4_event_34 (by
            exact ⟨(-1), rfl, rfl, by first | exact Or.inl ⟨(hfd.resolve_right (by rintro ⟨hq, -⟩; omega)).2, rfl⟩ | exact Or.inr ⟨jq, pq, hjp, Or.inl ⟨by omega, rfl⟩⟩⟩)

abbrev qX4_at (cI : ClassId) (x : Nat) (axb axn : Nat → Nat) (xk : Int) (xh : Nat) (axt axc : Nat → Nat) (b : zBS) (y1 : Int) (pC : List zPn) (pO : List Int) (ev : Int) : Option Value → List va_W → Prop := fun vq wq => ∃ (r : Int), vq = some (.int (zI r)) ∧ wq = [[(x, .inr (4, [.ref (axb 0), .ref (axn 0), .int (zI xk), .ref xh, .ref (axt 0), .ref (axc 0)]))], zBoard cI axb b] ∧ (atR pC y1 r)
set_option maxRecDepth 20000 in
theorem iX4_at_X4 : ∀ w ∈ u_ws RX4 TX4 6, w ∈ wsX4_at := by decide +kernel
set_option maxRecDepth 20000 in
theorem mX4_at_1 : (.fieldLink RX4 12 "StoryPanels" "board" "LStoryPanels$Board;" : Cond) ∈ wsX4_at := by decide +kernel
set_option maxRecDepth 20000 in
theorem iX4_at_X0 : ∀ w ∈ u_ws RX0 TX0 9, w ∈ wsX4_at := by decide +kernel
set_option maxHeartbeats 4000000 in
set_option maxRecDepth 100000 in
theorem kX4_at (l : Launch) (D : va_G) (cI cB : ClassId) (x : Nat) (axb axn : Nat → Nat) (xk : Int) (xh : Nat) (axt axc : Nat → Nat) (b : zBS) (y1 : Int) (pC : List zPn) (pO : List Int) (ev : Int) (hR : RB b pC pO ev) (hy1 : R32 y1) : zMet l yX4_at wsX4_at 2 42 0 0 D cI cB [.ref x, .int (zI y1)] [[(x, .inr (4, [.ref (axb 0), .ref (axn 0), .int (zI xk), .ref xh, .ref (axt 0), .ref (axc 0)]))], zBoard cI axb b] (qX4_at cI x axb axn xk xh axt axc b y1 pC pO ev) := by
  refine zMet.of (cd := cX4_at) (maxL := 2) (ret := (some .int)) (by decide) rfl (Nat.le_of_ble_eq_true rfl) ?_
  intro p e s m args below meth c A ls hS hr hlk hnm hK hA hW hl
  have hS : CallFix p m c cX4_at 2 s args wsX4_at RX4 := hS
  have hx := hS.1
  have hb := hS.2.1
  have hown := hS.2.2.2.1
  have hts := hS.2.2.2.2
  have hl : lv_has ls 2 [(0, .ref x), (1, .int (zI y1))] := hl
  have hRz := hR.1.1
  have hRl := hR.2.1
  refine lv_iload_n hx hb dX4_at_0 rfl (lv_at hl 1 rfl) ?_
  refine z_if_ge (tgt := 7) hx hb dX4_at_1 (by decide) (by omega) (fun cc_1 => ?_) (fun cc_1 => ?_)
  · refine lv_iload_n hx hb dX4_at_7 rfl (lv_at hl 1 rfl) ?_
    refine lv_aload_n hx hb dX4_at_8 rfl (lv_at hl 0 rfl) ?_
    refine va_get (D := D) (ci := 4) (v := .ref (axb 0)) (C := RX4) (T := TX4) (N := 6) hx hb hts iX4_at_X4 hown hK.1 hW.1 0 rfl rfl 0 (by decide) (hts _ mX4_at_1) (fun _ h9 => h9) rfl dX4_at_9 ?_
    refine va_getN (D := D) (ci := 0) (v := .int (zI (bd_sz b))) (C := RX0) (T := TX0) (N := 9) hx hb hts iX4_at_X0 hown hK.1 hW.1 1 rfl rfl 7 (by decide) (va_Nw.use rfl (hK.2 _ nm_0)) (fun _ h9 => h9) rfl dX4_at_12 ?_
    refine z_icmp_lt (tgt := 21) hx hb dX4_at_15 (by decide) (by omega) (fun cc_15 => ?_) (fun cc_15 => ?_)
    · refine lv_aload_n hx hb dX4_at_21 rfl (lv_at hl 0 rfl) ?_
      refine va_get (D := D) (ci := 4) (v := .ref (axb 0)) (C := RX4) (T := TX4) (N := 6) hx hb hts iX4_at_X4 hown hK.1 hW.1 0 rfl rfl 0 (by decide) (hts _ mX4_at_1) (fun _ h9 => h9) rfl dX4_at_22 ?_
      refine lv_aload_n hx hb dX4_at_25 rfl (lv_at hl 0 rfl) ?_
      refine va_get (D := D) (ci := 4) (v := .ref (axb 0)) (C := RX4) (T := TX4) (N := 6) hx hb hts iX4_at_X4 hown hK.1 hW.1 0 rfl rfl 0 (by decide) (hts _ mX4_at_1) (fun _ h9 => h9) rfl dX4_at_26 ?_
      refine lv_iload_n hx hb dX4_at_29 rfl (lv_at hl 1 rfl) ?_
      refine z_callV (r := (RX0, TX0, 9)) (As := [.int (zI y1)]) (rest := [.ref (axb 0)]) hS hK hA hW hl.1 [1] [0] (kX0_slotAt l D cI cB axb b y1 hR.1 (by omega)) (cwV 1 hts gX4_at_X0_slotAt rfl rfl rfl (by decide +kernel) ⟨Nat.le_of_ble_eq_true rfl, Nat.le_of_ble_eq_true rfl⟩) (rfl : vwCl[0]? = some (RX0, TX0, 9)) (q0 := 1) rfl dX4_at_30 rfl rfl rfl rfl rfl (Nat.le_of_ble_eq_true rfl) ⟨Nat.le_of_ble_eq_true rfl, Nat.le_of_ble_eq_true rfl⟩ (fun v9 w9 H locs hq hW => ?_)
      obtain ⟨rr_30, rfl, rfl, hh_30⟩ := hq
      subst rr_30
      have hW : zW D A s.heap [zBoard cI axb b, [(x, .inr (4, [.ref (axb 0), .ref (axn 0), .int (zI xk), .ref xh, .ref (axt 0), .ref (axc 0)]))]] H locs := hW
      have hW : zW D A s.heap [[(x, .inr (4, [.ref (axb 0), .ref (axn 0), .int (zI xk), .ref xh, .ref (axt 0), .ref (axc 0)]))], zBoard cI axb b] H locs := hW.pick [1, 0] rfl rfl
      refine W.eq (g2 := F0 m 33 ls [.int (zI (bd_lin b y1)), .ref (axb 0)]) rfl ?_
      obtain ⟨pq, hpq⟩ : ∃ pq, pC[y1.toNat]? = some pq := ⟨_, List.getElem?_eq_getElem (by omega)⟩
      have hjs := hR.2.2.2.1 _ _ hpq
      have hjl := RB_lin hR hpq
      rw [show ((y1.toNat : Nat) : Int) = y1 by omega] at hjs hjl
      refine z_callV (r := (RX0, TX0, 9)) (As := [.int (zI (bd_lin b y1))]) (rest := []) hS hK hA hW hl.1 [1] [0] (kX0_numberOf l D cI cB axb b (bd_lin b y1) hR.1 (by omega)) (cwV 1 hts gX4_at_X0_numberOf rfl rfl rfl (by decide +kernel) ⟨Nat.le_of_ble_eq_true rfl, Nat.le_of_ble_eq_true rfl⟩) (rfl : vwCl[0]? = some (RX0, TX0, 9)) (q0 := 1) rfl dX4_at_33 rfl rfl rfl rfl rfl (Nat.le_of_ble_eq_true rfl) ⟨Nat.le_of_ble_eq_true rfl, Nat.le_of_ble_eq_true rfl⟩ (fun v9 w9 H locs hq hW => ?_)
      obtain ⟨rr_33, rfl, rfl, hh_33⟩ := hq
      subst rr_33
      have hW : zW D A s.heap [zBoard cI axb b, [(x, .inr (4, [.ref (axb 0), .ref (axn 0), .int (zI xk), .ref xh, .ref (axt 0), .ref (axc 0)]))]] H locs := hW
      have hW : zW D A s.heap [[(x, .inr (4, [.ref (axb 0), .ref (axn 0), .int (zI xk), .ref xh, .ref (axt 0), .ref (axc 0)]))], zBoard cI axb b] H locs := hW.pick [1, 0] rfl rfl
      refine W.eq (g2 := F0 m 36 ls [.int (zI (bd_num b (bd_lin b y1)))]) rfl ?_
      rw [show (bd_num b (bd_lin b y1)) = pq.1 by exact hjs.1]
      exact z_iret (v := pq.1) hx hb hr hlk hW dX4_at_36 (by
          exact ⟨pq.1, rfl, rfl, by exact Or.inr (Or.inr ⟨pq, by omega, hpq, rfl⟩)⟩)
    · refine lv_bipush (v := zI (-5)) hx hb dX4_at_18 (by decide +kernel) ?_
      exact z_iret (v := (-5)) hx hb hr hlk hW dX4_at_20 (by
          exact ⟨(-5), rfl, rfl, by exact Or.inr (Or.inl ⟨by omega, by omega, rfl⟩)⟩)
  · refine lv_bipush (v := zI (-2)) hx hb dX4_at_4 (by decide +kernel) ?_
    exact z_iret (v := (-2)) hx hb hr hlk hW dX4_at_6 (by
        exact ⟨(-2), rfl, rfl, by exact Or.inl ⟨by omega, rfl⟩⟩)

abbrev qX4_scene (cI : ClassId) (x : Nat) (axb axn : Nat → Nat) (xk : Int) (xh : Nat) (axt axc : Nat → Nat) (b : zBS) (cn : zCS) (y1 y2 : Int) (pC : List zPn) (pO : List Int) (ev : Int) : Option Value → List va_W → Prop := fun vq wq => ∃ (r : Int) (cz : zCS), vq = some (.int (zI r)) ∧ wq = [[(x, .inr (4, [.ref (axb 0), .ref (axn 0), .int (zI xk), .ref xh, .ref (axt 0), .ref (axc 0)]))], zBoard cI axb b, zCont cI axc cz] ∧ (scnR pC pO y1 y2 r)
set_option maxRecDepth 20000 in
theorem iX4_scene_X4 : ∀ w ∈ u_ws RX4 TX4 6, w ∈ wsX4_scene := by decide +kernel
set_option maxRecDepth 20000 in
theorem mX4_scene_1 : (.fieldLink RX4 12 "StoryPanels" "board" "LStoryPanels$Board;" : Cond) ∈ wsX4_scene := by decide +kernel
set_option maxHeartbeats 4000000 in
set_option maxRecDepth 100000 in
theorem kX4_scene (l : Launch) (D : va_G) (cI cB : ClassId) (x : Nat) (axb axn : Nat → Nat) (xk : Int) (xh : Nat) (axt axc : Nat → Nat) (b : zBS) (cn : zCS) (y1 y2 : Int) (pC : List zPn) (pO : List Int) (ev : Int) (hR : RB b pC pO ev) (hy1 : R32 y1) (hy2 : R32 y2) : zMet l yX4_scene wsX4_scene 6 149 0 0 D cI cB [.ref x, .int (zI y1), .int (zI y2)] [[(x, .inr (4, [.ref (axb 0), .ref (axn 0), .int (zI xk), .ref xh, .ref (axt 0), .ref (axc 0)]))], zBoard cI axb b, zCont cI axc cn] (qX4_scene cI x axb axn xk xh axt axc b cn y1 y2 pC pO ev) := by
  refine zMet.of (cd := cX4_scene) (maxL := 3) (ret := (some .int)) (by decide) rfl (Nat.le_of_ble_eq_true rfl) ?_
  intro p e s m args below meth c A ls hS hr hlk hnm hK hA hW hl
  have hS : CallFix p m c cX4_scene 3 s args wsX4_scene RX4 := hS
  have hx := hS.1
  have hb := hS.2.1
  have hown := hS.2.2.2.1
  have hts := hS.2.2.2.2
  have hl : lv_has ls 3 [(0, .ref x), (1, .int (zI y1)), (2, .int (zI y2))] := hl
  have hRz := hR.1.1
  have hRl := hR.2.1
  have hai := ahC_inC pC pO y1
  have hah := ahC_le pC pO y1
  refine lv_iload_n hx hb dX4_scene_0 rfl (lv_at hl 1 rfl) ?_
  refine z_callS (As := [.int (zI y1)]) (rest := []) hS hK hA hW hl.1 [] [0, 1, 2] (kX4_isScene l D cI cB y1 (by omega)) (va_cwS 1 hts gX4_scene_X4_isScene rfl rfl rfl (by decide +kernel) ⟨Nat.le_of_ble_eq_true rfl, Nat.le_of_ble_eq_true rfl⟩) dX4_scene_1 rfl rfl rfl rfl rfl (Nat.le_of_ble_eq_true rfl) ⟨Nat.le_of_ble_eq_true rfl, Nat.le_of_ble_eq_true rfl⟩ (fun v9 w9 H locs hq hW => ?_)
  obtain ⟨rr_1, rfl, rfl, hh_1⟩ := hq
  have hW : zW D A s.heap [[(x, .inr (4, [.ref (axb 0), .ref (axn 0), .int (zI xk), .ref xh, .ref (axt 0), .ref (axc 0)]))], zBoard cI axb b, zCont cI axc cn] H locs := hW
  refine W.eq (g2 := F0 m 4 ls [.int (zI rr_1)]) rfl ?_
  refine z_if_ne (tgt := 9) hx hb dX4_scene_4 (by decide) (by omega) (fun cc_4 => ?_) (fun cc_4 => ?_)
  · refine lv_iload_n hx hb dX4_scene_9 rfl (lv_at hl 2 rfl) ?_
    rcases (show y2 = 0 ∨ y2 = 1 ∨ y2 = 2 ∨ y2 = 3 ∨ y2 = 4 ∨ (y2 < 0 ∨ 4 < y2) by omega) with ww_10 | ww_10 | ww_10 | ww_10 | ww_10 | ww_10
    · refine z_tableIn (k := 0) (off := 34) (tgt := 44) hx hb dX4_scene_10 (ww_10) (by decide) (by decide) (by decide +kernel) (by decide) ?_
      refine lv_aload_n hx hb dX4_scene_44 rfl (lv_at hl 0 rfl) ?_
      refine va_get (D := D) (ci := 4) (v := .ref (axb 0)) (C := RX4) (T := TX4) (N := 6) hx hb hts iX4_scene_X4 hown hK.1 hW.1 0 rfl rfl 0 (by decide) (hts _ mX4_scene_1) (fun _ h9 => h9) rfl dX4_scene_45 ?_
      refine lv_iload_n hx hb dX4_scene_48 rfl (lv_at hl 1 rfl) ?_
      refine z_callV (r := (RX0, TX0, 9)) (As := [.int (zI y1)]) (rest := []) hS hK hA hW hl.1 [1] [0, 2] (kX0_placeOfScene l D cI cB axb b y1 hR.1 (by omega)) (cwV 1 hts gX4_scene_X0_placeOfScene rfl rfl rfl (by decide +kernel) ⟨Nat.le_of_ble_eq_true rfl, Nat.le_of_ble_eq_true rfl⟩) (rfl : vwCl[0]? = some (RX0, TX0, 9)) (q0 := 1) rfl dX4_scene_49 rfl rfl rfl rfl rfl (Nat.le_of_ble_eq_true rfl) ⟨Nat.le_of_ble_eq_true rfl, Nat.le_of_ble_eq_true rfl⟩ (fun v9 w9 H locs hq hW => ?_)
      obtain ⟨rr_49, rfl, rfl, hh_49⟩ := hq
      subst rr_49
      have hW : zW D A s.heap [zBoard cI axb b, [(x, .inr (4, [.ref (axb 0), .ref (axn 0), .int (zI xk), .ref xh, .ref (axt 0), .ref (axc 0)]))], zCont cI axc cn] H locs := hW
      have hW : zW D A s.heap [[(x, .inr (4, [.ref (axb 0), .ref (axn 0), .int (zI xk), .ref xh, .ref (axt 0), .ref (axc 0)]))], zBoard cI axb b, zCont cI axc cn] H locs := hW.pick [1, 0, 2] rfl rfl
      refine W.eq (g2 := F0 m 52 ls [.int (zI (bd_plc b y1))]) rfl ?_
      rw [show (bd_plc b y1) = ((pO.idxOf y1 : Int)) by exact hR.2.2.2.2.2.2.2.2.1 _ (by omega) (by omega)]
      exact z_iret (v := (pO.idxOf y1 : Int)) hx hb hr hlk hW dX4_scene_52 (by
          exact ⟨(pO.idxOf y1 : Int), cn, rfl, rfl, by exact Or.inr ⟨by omega, by rw [ww_10]; rfl⟩⟩)
    · refine z_tableIn (k := 1) (off := 43) (tgt := 53) hx hb dX4_scene_10 (ww_10) (by decide) (by decide) (by decide +kernel) (by decide) ?_
      refine lv_aload_n hx hb dX4_scene_53 rfl (lv_at hl 0 rfl) ?_
      refine va_get (D := D) (ci := 4) (v := .ref (axb 0)) (C := RX4) (T := TX4) (N := 6) hx hb hts iX4_scene_X4 hown hK.1 hW.1 0 rfl rfl 0 (by decide) (hts _ mX4_scene_1) (fun _ h9 => h9) rfl dX4_scene_54 ?_
      refine lv_iload_n hx hb dX4_scene_57 rfl (lv_at hl 1 rfl) ?_
      refine z_callV (r := (RX0, TX0, 9)) (As := [.int (zI y1)]) (rest := []) hS hK hA hW hl.1 [1] [0, 2] (kX0_panelsIn l D cI cB axb b y1 hR.1 (by omega)) (cwV 1 hts gX4_scene_X0_panelsIn rfl rfl rfl (by decide +kernel) ⟨Nat.le_of_ble_eq_true rfl, Nat.le_of_ble_eq_true rfl⟩) (rfl : vwCl[0]? = some (RX0, TX0, 9)) (q0 := 1) rfl dX4_scene_58 rfl rfl rfl rfl rfl (Nat.le_of_ble_eq_true rfl) ⟨Nat.le_of_ble_eq_true rfl, Nat.le_of_ble_eq_true rfl⟩ (fun v9 w9 H locs hq hW => ?_)
      obtain ⟨rr_58, rfl, rfl, hh_58⟩ := hq
      subst rr_58
      have hW : zW D A s.heap [zBoard cI axb b, [(x, .inr (4, [.ref (axb 0), .ref (axn 0), .int (zI xk), .ref xh, .ref (axt 0), .ref (axc 0)]))], zCont cI axc cn] H locs := hW
      have hW : zW D A s.heap [[(x, .inr (4, [.ref (axb 0), .ref (axn 0), .int (zI xk), .ref xh, .ref (axt 0), .ref (axc 0)]))], zBoard cI axb b, zCont cI axc cn] H locs := hW.pick [1, 0, 2] rfl rfl
      refine W.eq (g2 := F0 m 61 ls [.int (zI (nIn b y1))]) rfl ?_
      rw [show (nIn b y1) = (inC pC y1) by exact RB_nIn hR y1]
      exact z_iret (v := inC pC y1) hx hb hr hlk hW dX4_scene_61 (by
          exact ⟨inC pC y1, cn, rfl, rfl, by exact Or.inr ⟨by omega, by rw [ww_10]; rfl⟩⟩)
    · refine z_tableIn (k := 2) (off := 52) (tgt := 62) hx hb dX4_scene_10 (ww_10) (by decide) (by decide) (by decide +kernel) (by decide) ?_
      refine lv_aload_n hx hb dX4_scene_62 rfl (lv_at hl 0 rfl) ?_
      refine lv_iload_n hx hb dX4_scene_63 rfl (lv_at hl 1 rfl) ?_
      refine z_callV (r := (RX4, TX4, 6)) (As := [.int (zI y1)]) (rest := []) hS hK hA hW hl.1 [0, 1] [2] (kX4_ticksOfScene l D cI cB x axb axn xk xh axt axc b y1 pC pO ev hR (by omega)) (cwV 1 hts gX4_scene_X4_ticksOfScene rfl rfl rfl (by decide +kernel) ⟨Nat.le_of_ble_eq_true rfl, Nat.le_of_ble_eq_true rfl⟩) (rfl : vwCl[4]? = some (RX4, TX4, 6)) (q0 := 0) rfl dX4_scene_64 rfl rfl rfl rfl rfl (Nat.le_of_ble_eq_true rfl) ⟨Nat.le_of_ble_eq_true rfl, Nat.le_of_ble_eq_true rfl⟩ (fun v9 w9 H locs hq hW => ?_)
      obtain ⟨rr_64, rfl, rfl, hh_64⟩ := hq
      subst rr_64
      have hW : zW D A s.heap [[(x, .inr (4, [.ref (axb 0), .ref (axn 0), .int (zI xk), .ref xh, .ref (axt 0), .ref (axc 0)]))], zBoard cI axb b, zCont cI axc cn] H locs := hW
      refine W.eq (g2 := F0 m 67 ls [.int (zI (tkC pC (ahC pC pO y1 + inC pC y1) - tkC pC (ahC pC pO y1)))]) rfl ?_
      exact z_iret (v := tkC pC (ahC pC pO y1 + inC pC y1) - tkC pC (ahC pC pO y1)) hx hb hr hlk hW dX4_scene_67 (by
          exact ⟨tkC pC (ahC pC pO y1 + inC pC y1) - tkC pC (ahC pC pO y1), cn, rfl, rfl, by exact Or.inr ⟨by omega, by rw [ww_10]; rfl⟩⟩)
    · refine z_tableIn (k := 3) (off := 58) (tgt := 68) hx hb dX4_scene_10 (ww_10) (by decide) (by decide) (by decide +kernel) (by decide) ?_
      refine lv_aload_n hx hb dX4_scene_68 rfl (lv_at hl 0 rfl) ?_
      refine lv_iload_n hx hb dX4_scene_69 rfl (lv_at hl 1 rfl) ?_
      refine z_callV (r := (RX4, TX4, 6)) (As := [.int (zI y1)]) (rest := []) hS hK hA hW hl.1 [0, 1, 2] [] (kX4_breaksOfScene l D cI cB x axb axn xk xh axt axc b cn y1 pC pO ev hR (by omega)) (cwV 1 hts gX4_scene_X4_breaksOfScene rfl rfl rfl (by decide +kernel) ⟨Nat.le_of_ble_eq_true rfl, Nat.le_of_ble_eq_true rfl⟩) (rfl : vwCl[4]? = some (RX4, TX4, 6)) (q0 := 0) rfl dX4_scene_70 rfl rfl rfl rfl rfl (Nat.le_of_ble_eq_true rfl) ⟨Nat.le_of_ble_eq_true rfl, Nat.le_of_ble_eq_true rfl⟩ (fun v9 w9 H locs hq hW => ?_)
      obtain ⟨rr_70, cz_70, rfl, rfl, hh_70⟩ := hq
      have hW : zW D A s.heap [[(x, .inr (4, [.ref (axb 0), .ref (axn 0), .int (zI xk), .ref xh, .ref (axt 0), .ref (axc 0)]))], zBoard cI axb b, zCont cI axc cz_70] H locs := hW
      refine W.eq (g2 := F0 m 73 ls [.int (zI rr_70)]) rfl ?_
      exact z_iret (v := rr_70) hx hb hr hlk hW dX4_scene_73 (by
          exact ⟨rr_70, cz_70, rfl, rfl, by exact Or.inr ⟨by omega, by rw [ww_10]; exact hh_70.1⟩⟩)
    · refine z_tableIn (k := 4) (off := 64) (tgt := 74) hx hb dX4_scene_10 (ww_10) (by decide) (by decide) (by decide +kernel) (by decide) ?_
      refine lv_aload_n hx hb dX4_scene_74 rfl (lv_at hl 0 rfl) ?_
      refine va_get (D := D) (ci := 4) (v := .ref (axb 0)) (C := RX4) (T := TX4) (N := 6) hx hb hts iX4_scene_X4 hown hK.1 hW.1 0 rfl rfl 0 (by decide) (hts _ mX4_scene_1) (fun _ h9 => h9) rfl dX4_scene_75 ?_
      refine lv_aload_n hx hb dX4_scene_78 rfl (lv_at hl 0 rfl) ?_
      refine va_get (D := D) (ci := 4) (v := .ref (axb 0)) (C := RX4) (T := TX4) (N := 6) hx hb hts iX4_scene_X4 hown hK.1 hW.1 0 rfl rfl 0 (by decide) (hts _ mX4_scene_1) (fun _ h9 => h9) rfl dX4_scene_79 ?_
      refine lv_iload_n hx hb dX4_scene_82 rfl (lv_at hl 1 rfl) ?_
      refine z_callV (r := (RX0, TX0, 9)) (As := [.int (zI y1)]) (rest := [.ref (axb 0)]) hS hK hA hW hl.1 [1] [0, 2] (kX0_panelsAhead l D cI cB axb b y1 hR.1 (by omega)) (cwV 1 hts gX4_scene_X0_panelsAhead rfl rfl rfl (by decide +kernel) ⟨Nat.le_of_ble_eq_true rfl, Nat.le_of_ble_eq_true rfl⟩) (rfl : vwCl[0]? = some (RX0, TX0, 9)) (q0 := 1) rfl dX4_scene_83 rfl rfl rfl rfl rfl (Nat.le_of_ble_eq_true rfl) ⟨Nat.le_of_ble_eq_true rfl, Nat.le_of_ble_eq_true rfl⟩ (fun v9 w9 H locs hq hW => ?_)
      obtain ⟨rr_83, rfl, rfl, hh_83⟩ := hq
      subst rr_83
      have hW : zW D A s.heap [zBoard cI axb b, [(x, .inr (4, [.ref (axb 0), .ref (axn 0), .int (zI xk), .ref xh, .ref (axt 0), .ref (axc 0)]))], zCont cI axc cn] H locs := hW
      have hW : zW D A s.heap [[(x, .inr (4, [.ref (axb 0), .ref (axn 0), .int (zI xk), .ref xh, .ref (axt 0), .ref (axc 0)]))], zBoard cI axb b, zCont cI axc cn] H locs := hW.pick [1, 0, 2] rfl rfl
      refine W.eq (g2 := F0 m 86 ls [.int (zI (nAhead b y1)), .ref (axb 0)]) rfl ?_
      rw [show (nAhead b y1) = (ahC pC pO y1) by exact RB_nAhead hR (by omega)]
      refine z_callV (r := (RX0, TX0, 9)) (As := [.int (zI (ahC pC pO y1))]) (rest := []) hS hK hA hW hl.1 [1] [0, 2] (kX0_ticksAhead l D cI cB axb b (ahC pC pO y1) hR.1 (by omega)) (cwV 1 hts gX4_scene_X0_ticksAhead rfl rfl rfl (by decide +kernel) ⟨Nat.le_of_ble_eq_true rfl, Nat.le_of_ble_eq_true rfl⟩) (rfl : vwCl[0]? = some (RX0, TX0, 9)) (q0 := 1) rfl dX4_scene_86 rfl rfl rfl rfl rfl (Nat.le_of_ble_eq_true rfl) ⟨Nat.le_of_ble_eq_true rfl, Nat.le_of_ble_eq_true rfl⟩ (fun v9 w9 H locs hq hW => ?_)
      obtain ⟨rr_86, rfl, rfl, hh_86⟩ := hq
      subst rr_86
      have hW : zW D A s.heap [zBoard cI axb b, [(x, .inr (4, [.ref (axb 0), .ref (axn 0), .int (zI xk), .ref xh, .ref (axt 0), .ref (axc 0)]))], zCont cI axc cn] H locs := hW
      have hW : zW D A s.heap [[(x, .inr (4, [.ref (axb 0), .ref (axn 0), .int (zI xk), .ref xh, .ref (axt 0), .ref (axc 0)]))], zBoard cI axb b, zCont cI axc cn] H locs := hW.pick [1, 0, 2] rfl rfl
      refine W.eq (g2 := F0 m 89 ls [.int (zI (ticksB b (if (ahC pC pO y1) < bd_sz b then (ahC pC pO y1) else bd_sz b)))]) rfl ?_
      rw [show (ticksB b (if (ahC pC pO y1) < bd_sz b then (ahC pC pO y1) else bd_sz b)) = (tkC pC (ahC pC pO y1)) by rw [← RB_ticks hR (by omega)]; congr 1; split <;> omega]
      exact z_iret (v := tkC pC (ahC pC pO y1)) hx hb hr hlk hW dX4_scene_89 (by
          exact ⟨tkC pC (ahC pC pO y1), cn, rfl, rfl, by exact Or.inr ⟨by omega, by rw [ww_10]; rfl⟩⟩)
    · refine z_tableOut (tgt := 90) hx hb dX4_scene_10 (by omega) ww_10 (by decide) ?_
      refine lv_bipush (v := zI (-2)) hx hb dX4_scene_90 (by decide +kernel) ?_
      exact z_iret (v := (-2)) hx hb hr hlk hW dX4_scene_92 (by
          exact ⟨(-2), cn, rfl, rfl, by exact Or.inr ⟨by omega, by unfold scnA; rw [if_neg (by omega), if_neg (by omega), if_neg (by omega), if_neg (by omega), if_neg (by omega)]⟩⟩)
  · refine lv_iconst (v := zI (-1)) hx hb dX4_scene_7 rfl ?_
    exact z_iret (v := (-1)) hx hb hr hlk hW dX4_scene_8 (by
        exact ⟨(-1), cn, rfl, rfl, by exact Or.inl ⟨by omega, rfl⟩⟩)

abbrev qX4_holder (cI : ClassId) (x : Nat) (axb axn : Nat → Nat) (xk : Int) (xh : Nat) (axt axc : Nat → Nat) (b : zBS) (cn : zCS) (y1 y2 : Int) (pC : List zPn) (pO : List Int) (ev : Int) : Option Value → List va_W → Prop := fun vq wq => ∃ (r : Int) (cz : zCS), vq = some (.int (zI r)) ∧ wq = [[(x, .inr (4, [.ref (axb 0), .ref (axn 0), .int (zI xk), .ref xh, .ref (axt 0), .ref (axc 0)]))], zBoard cI axb b, zCont cI axc cz] ∧ (hldR pC y1 y2 r)
set_option maxRecDepth 20000 in
theorem iX4_holder_X4 : ∀ w ∈ u_ws RX4 TX4 6, w ∈ wsX4_holder := by decide +kernel
set_option maxRecDepth 20000 in
theorem mX4_holder_1 : (.fieldLink RX4 12 "StoryPanels" "board" "LStoryPanels$Board;" : Cond) ∈ wsX4_holder := by decide +kernel
set_option maxRecDepth 20000 in
theorem mX4_holder_2 : (.fieldLink RX4 40 "StoryPanels" "continuity" "LStoryPanels$Continuity;" : Cond) ∈ wsX4_holder := by decide +kernel
set_option maxHeartbeats 4000000 in
set_option maxRecDepth 100000 in
theorem kX4_holder (l : Launch) (D : va_G) (cI cB : ClassId) (x : Nat) (axb axn : Nat → Nat) (xk : Int) (xh : Nat) (axt axc : Nat → Nat) (b : zBS) (cn : zCS) (y1 y2 : Int) (pC : List zPn) (pO : List Int) (ev : Int) (hR : RB b pC pO ev) (hy1 : R32 y1) (hy2 : R32 y2) : zMet l yX4_holder wsX4_holder 4 105 0 0 D cI cB [.ref x, .int (zI y1), .int (zI y2)] [[(x, .inr (4, [.ref (axb 0), .ref (axn 0), .int (zI xk), .ref xh, .ref (axt 0), .ref (axc 0)]))], zBoard cI axb b, zCont cI axc cn] (qX4_holder cI x axb axn xk xh axt axc b cn y1 y2 pC pO ev) := by
  refine zMet.of (cd := cX4_holder) (maxL := 5) (ret := (some .int)) (by decide) rfl (Nat.le_of_ble_eq_true rfl) ?_
  intro p e s m args below meth c A ls hS hr hlk hnm hK hA hW hl
  have hS : CallFix p m c cX4_holder 5 s args wsX4_holder RX4 := hS
  have hx := hS.1
  have hb := hS.2.1
  have hown := hS.2.2.2.1
  have hts := hS.2.2.2.2
  have hl : lv_has ls 5 [(0, .ref x), (1, .int (zI y1)), (2, .int (zI y2))] := hl
  have hRz := hR.1.1
  have hRl := hR.2.1
  refine lv_aload_n hx hb dX4_holder_0 rfl (lv_at hl 0 rfl) ?_
  refine va_get (D := D) (ci := 4) (v := .ref (axb 0)) (C := RX4) (T := TX4) (N := 6) hx hb hts iX4_holder_X4 hown hK.1 hW.1 0 rfl rfl 0 (by decide) (hts _ mX4_holder_1) (fun _ h9 => h9) rfl dX4_holder_1 ?_
  refine lv_iload_n hx hb dX4_holder_4 rfl (lv_at hl 2 rfl) ?_
  refine z_callV (r := (RX0, TX0, 9)) (As := [.int (zI y2)]) (rest := []) hS hK hA hW hl.1 [1] [0, 2] (kX0_slotOf l D cI cB axb b y2 hR.1 (by omega)) (cwV 1 hts gX4_holder_X0_slotOf rfl rfl rfl (by decide +kernel) ⟨Nat.le_of_ble_eq_true rfl, Nat.le_of_ble_eq_true rfl⟩) (rfl : vwCl[0]? = some (RX0, TX0, 9)) (q0 := 1) rfl dX4_holder_5 rfl rfl rfl rfl rfl (Nat.le_of_ble_eq_true rfl) ⟨Nat.le_of_ble_eq_true rfl, Nat.le_of_ble_eq_true rfl⟩ (fun v9 w9 H locs hq hW => ?_)
  obtain ⟨rr_5, rfl, rfl, hh_5⟩ := hq
  have hW : zW D A s.heap [zBoard cI axb b, [(x, .inr (4, [.ref (axb 0), .ref (axn 0), .int (zI xk), .ref xh, .ref (axt 0), .ref (axc 0)]))], zCont cI axc cn] H locs := hW
  have hW : zW D A s.heap [[(x, .inr (4, [.ref (axb 0), .ref (axn 0), .int (zI xk), .ref xh, .ref (axt 0), .ref (axc 0)]))], zBoard cI axb b, zCont cI axc cn] H locs := hW.pick [1, 0, 2] rfl rfl
  refine W.eq (g2 := F0 m 8 ls [.int (zI rr_5)]) rfl ?_
  have hfd := RB_find hR hh_5
  have hfr : -1 ≤ rr_5 ∧ rr_5 < 10 := by rcases hfd with hq | hq <;> omega
  refine lv_istore_n (lv' := [(3, .int (zI rr_5)), (0, .ref x), (1, .int (zI y1)), (2, .int (zI y2))]) hx hb dX4_holder_8 rfl hl (by decide) rfl (fun ls hl => ?_)
  refine lv_iload_n hx hb dX4_holder_9 rfl (lv_at hl 0 rfl) ?_
  refine lv_iconst (v := zI (-1)) hx hb dX4_holder_10 rfl ?_
  refine z_icmp_eq (tgt := 24) hx hb dX4_holder_11 (by decide) (by omega) (fun cc_11 => ?_) (fun cc_11 => ?_)
  · refine lv_iconst (v := zI (-1)) hx hb dX4_holder_24 rfl ?_
    exact z_iret (v := (-1)) hx hb hr hlk hW dX4_holder_25 (by
        exact ⟨(-1), cn, rfl, rfl, by refine Or.inl ⟨?_, rfl⟩; first | exact Or.inr (Or.inr (hfd.resolve_right (by rintro ⟨hq, -⟩; omega)).2) | exact Or.inl (by omega) | exact Or.inr (Or.inl (by omega))⟩)
  · obtain ⟨hf1, jq, pq, hjp, hjl⟩ := hfd.resolve_left (fun hq => cc_11 hq.1)
    have hjs := hR.2.2.2.1 jq pq hjp.1
    rw [← hjl] at hjs
    have hjt := RB_at hR hjp.1
    rw [← hjl] at hjt
    have hjo := RB_pn hR pq (List.mem_of_getElem? hjp.1)
    have hjb := (List.getElem?_eq_some_iff.mp hjp.1).1
    refine lv_iload_n hx hb dX4_holder_14 rfl (lv_at hl 2 rfl) ?_
    refine z_if_lt (tgt := 24) hx hb dX4_holder_15 (by decide) (by omega) (fun cc_15 => ?_) (fun cc_15 => ?_)
    · refine lv_iconst (v := zI (-1)) hx hb dX4_holder_24 rfl ?_
      exact z_iret (v := (-1)) hx hb hr hlk hW dX4_holder_25 (by
          exact ⟨(-1), cn, rfl, rfl, by refine Or.inl ⟨?_, rfl⟩; first | exact Or.inr (Or.inr (hfd.resolve_right (by rintro ⟨hq, -⟩; omega)).2) | exact Or.inl (by omega) | exact Or.inr (Or.inl (by omega))⟩)
    · refine lv_iload_n hx hb dX4_holder_18 rfl (lv_at hl 2 rfl) ?_
      refine lv_bipush (v := zI (10)) hx hb dX4_holder_19 (by decide +kernel) ?_
      refine z_icmp_lt (tgt := 26) hx hb dX4_holder_21 (by decide) (by omega) (fun cc_21 => ?_) (fun cc_21 => ?_)
      · refine lv_aload_n hx hb dX4_holder_26 rfl (lv_at hl 1 rfl) ?_
        refine va_get (D := D) (ci := 4) (v := .ref (axc 0)) (C := RX4) (T := TX4) (N := 6) hx hb hts iX4_holder_X4 hown hK.1 hW.1 0 rfl rfl 5 (by decide) (hts _ mX4_holder_2) (fun _ h9 => h9) rfl dX4_holder_27 ?_
        refine lv_aload_n hx hb dX4_holder_30 rfl (lv_at hl 1 rfl) ?_
        refine va_get (D := D) (ci := 4) (v := .ref (axb 0)) (C := RX4) (T := TX4) (N := 6) hx hb hts iX4_holder_X4 hown hK.1 hW.1 0 rfl rfl 0 (by decide) (hts _ mX4_holder_1) (fun _ h9 => h9) rfl dX4_holder_31 ?_
        refine lv_aload_n hx hb dX4_holder_34 rfl (lv_at hl 1 rfl) ?_
        refine va_get (D := D) (ci := 4) (v := .ref (axb 0)) (C := RX4) (T := TX4) (N := 6) hx hb hts iX4_holder_X4 hown hK.1 hW.1 0 rfl rfl 0 (by decide) (hts _ mX4_holder_1) (fun _ h9 => h9) rfl dX4_holder_35 ?_
        refine lv_iload_n hx hb dX4_holder_38 rfl (lv_at hl 0 rfl) ?_
        refine z_callV (r := (RX0, TX0, 9)) (As := [.int (zI rr_5)]) (rest := [.ref (axb 0), .ref (axc 0)]) hS hK hA hW hl.1 [1] [0, 2] (kX0_rankOf l D cI cB axb b rr_5 ((jq : Int)) hR.1 (by omega) hjt) (cwV 1 hts gX4_holder_X0_rankOf rfl rfl rfl (by decide +kernel) ⟨Nat.le_of_ble_eq_true rfl, Nat.le_of_ble_eq_true rfl⟩) (rfl : vwCl[0]? = some (RX0, TX0, 9)) (q0 := 1) rfl dX4_holder_39 rfl rfl rfl rfl rfl (Nat.le_of_ble_eq_true rfl) ⟨Nat.le_of_ble_eq_true rfl, Nat.le_of_ble_eq_true rfl⟩ (fun v9 w9 H locs hq hW => ?_)
        obtain ⟨rr_39, rfl, rfl, hh_39⟩ := hq
        subst rr_39
        have hW : zW D A s.heap [zBoard cI axb b, [(x, .inr (4, [.ref (axb 0), .ref (axn 0), .int (zI xk), .ref xh, .ref (axt 0), .ref (axc 0)]))], zCont cI axc cn] H locs := hW
        have hW : zW D A s.heap [[(x, .inr (4, [.ref (axb 0), .ref (axn 0), .int (zI xk), .ref xh, .ref (axt 0), .ref (axc 0)]))], zBoard cI axb b, zCont cI axc cn] H locs := hW.pick [1, 0, 2] rfl rfl
        refine W.eq (g2 := F0 m 42 ls [.int (zI (((jq : Int)))), .ref (axb 0), .ref (axc 0)]) rfl ?_
        refine lv_iconst (v := zI (1)) hx hb dX4_holder_42 rfl ?_
        refine z_iadd hx hb dX4_holder_43 ?_
        refine z_callV (r := (RX1, TX1, 6)) (As := [.ref (axb 0), .int (zI ((((jq : Int))) + 1))]) (rest := []) hS hK hA hW hl.1 [2, 1] [0] (kX1_goThrough l D cI cB axc cn axb b pC ((((jq : Int))) + 1) hR.1 hR.2.2.2.1 hR.2.1 (RB_pn hR) (by omega)) (cwV 2 hts gX4_holder_X1_goThrough rfl rfl rfl (by decide +kernel) ⟨Nat.le_of_ble_eq_true rfl, Nat.le_of_ble_eq_true rfl⟩) (rfl : vwCl[1]? = some (RX1, TX1, 6)) (q0 := 9) rfl dX4_holder_44 rfl rfl rfl rfl rfl (Nat.le_of_ble_eq_true rfl) ⟨Nat.le_of_ble_eq_true rfl, Nat.le_of_ble_eq_true rfl⟩ (fun v9 w9 H locs hq hW => ?_)
        obtain ⟨cz_44, rfl, rfl, hh_44⟩ := hq
        have hW : zW D A s.heap [zCont cI axc cz_44, zBoard cI axb b, [(x, .inr (4, [.ref (axb 0), .ref (axn 0), .int (zI xk), .ref xh, .ref (axt 0), .ref (axc 0)]))]] H locs := hW
        have hW : zW D A s.heap [[(x, .inr (4, [.ref (axb 0), .ref (axn 0), .int (zI xk), .ref xh, .ref (axt 0), .ref (axc 0)]))], zBoard cI axb b, zCont cI axc cz_44] H locs := hW.pick [2, 1, 0] rfl rfl
        refine W.eq (g2 := F0 m 47 ls []) rfl ?_
        have hgz : RCh cz_44 (goAll (pC.take (jq + 1))) := by have hq9 := hh_44; rw [show ((jq : Int) + 1).toNat = jq + 1 by omega] at hq9; exact hq9
        have hgo := lstGo_ok (pC.take (jq + 1)) (-1) g0 (fun p hp => RB_pn hR p (List.mem_of_mem_take hp)) g0_ok
        have hgr : -1 ≤ (goAll (pC.take (jq + 1))).1 y1 ∧ (goAll (pC.take (jq + 1))).1 y1 < 4 := hgo.1 y1
        refine lv_aload_n hx hb dX4_holder_47 rfl (lv_at hl 1 rfl) ?_
        refine va_get (D := D) (ci := 4) (v := .ref (axc 0)) (C := RX4) (T := TX4) (N := 6) hx hb hts iX4_holder_X4 hown hK.1 hW.1 0 rfl rfl 5 (by decide) (hts _ mX4_holder_2) (fun _ h9 => h9) rfl dX4_holder_48 ?_
        refine lv_iload_n hx hb dX4_holder_51 rfl (lv_at hl 2 rfl) ?_
        refine z_callV (r := (RX1, TX1, 6)) (As := [.int (zI y1)]) (rest := []) hS hK hA hW hl.1 [2] [0, 1] (kX1_holderOf l D cI cB axc cz_44 y1 (by omega)) (cwV 1 hts gX4_holder_X1_holderOf rfl rfl rfl (by decide +kernel) ⟨Nat.le_of_ble_eq_true rfl, Nat.le_of_ble_eq_true rfl⟩) (rfl : vwCl[1]? = some (RX1, TX1, 6)) (q0 := 9) rfl dX4_holder_52 rfl rfl rfl rfl rfl (Nat.le_of_ble_eq_true rfl) ⟨Nat.le_of_ble_eq_true rfl, Nat.le_of_ble_eq_true rfl⟩ (fun v9 w9 H locs hq hW => ?_)
        obtain ⟨rr_52, rfl, rfl, hh_52⟩ := hq
        subst rr_52
        have hW : zW D A s.heap [zCont cI axc cz_44, [(x, .inr (4, [.ref (axb 0), .ref (axn 0), .int (zI xk), .ref xh, .ref (axt 0), .ref (axc 0)]))], zBoard cI axb b] H locs := hW
        have hW : zW D A s.heap [[(x, .inr (4, [.ref (axb 0), .ref (axn 0), .int (zI xk), .ref xh, .ref (axt 0), .ref (axc 0)]))], zBoard cI axb b, zCont cI axc cz_44] H locs := hW.pick [1, 2, 0] rfl rfl
        refine W.eq (g2 := F0 m 55 ls [.int (zI (ct_hold cz_44 y1))]) rfl ?_
        rw [show (ct_hold cz_44 y1) = ((goAll (pC.take (jq + 1))).1 y1) by exact hgz.1 y1 (by omega) (by omega)]
        refine lv_istore (lv' := [(4, .int (zI ((goAll (pC.take (jq + 1))).1 y1))), (3, .int (zI rr_5)), (0, .ref x), (1, .int (zI y1)), (2, .int (zI y2))]) hx hb dX4_holder_55 hl (by decide) rfl (fun ls hl => ?_)
        refine lv_iload hx hb dX4_holder_57 (lv_at hl 0 rfl) ?_
        refine lv_iconst (v := zI (-1)) hx hb dX4_holder_59 rfl ?_
        refine z_icmp_ne (tgt := 68) hx hb dX4_holder_60 (by decide) (by omega) (fun cc_60 => ?_) (fun cc_60 => ?_)
        · refine lv_iload hx hb dX4_holder_68 (lv_at hl 0 rfl) ?_
          exact z_iret (v := (goAll (pC.take (jq + 1))).1 y1) hx hb hr hlk hW dX4_holder_70 (by
              exact ⟨(goAll (pC.take (jq + 1))).1 y1, cz_44, rfl, rfl, by refine Or.inr ⟨by omega, jq, pq, hjp, ?_⟩; unfold hldA; first | (rw [if_pos (by omega)]; done) | (rw [if_neg (by omega)]; done)⟩)
        · refine lv_bipush (v := zI (-5)) hx hb dX4_holder_63 (by decide +kernel) ?_
          refine lv_goto (tgt := 70) hx hb dX4_holder_65 (by decide) ?_
          exact z_iret (v := (-5)) hx hb hr hlk hW dX4_holder_70 (by
              exact ⟨(-5), cz_44, rfl, rfl, by refine Or.inr ⟨by omega, jq, pq, hjp, ?_⟩; unfold hldA; first | (rw [if_pos (by omega)]; done) | (rw [if_neg (by omega)]; done)⟩)
      · refine lv_iconst (v := zI (-1)) hx hb dX4_holder_24 rfl ?_
        exact z_iret (v := (-1)) hx hb hr hlk hW dX4_holder_25 (by
            exact ⟨(-1), cn, rfl, rfl, by refine Or.inl ⟨?_, rfl⟩; first | exact Or.inr (Or.inr (hfd.resolve_right (by rintro ⟨hq, -⟩; omega)).2) | exact Or.inl (by omega) | exact Or.inr (Or.inl (by omega))⟩)

abbrev qX4_breakOf (cI : ClassId) (x : Nat) (axb axn : Nat → Nat) (xk : Int) (xh : Nat) (axt axc : Nat → Nat) (b : zBS) (cn : zCS) (y1 y2 : Int) (pC : List zPn) (pO : List Int) (ev : Int) : Option Value → List va_W → Prop := fun vq wq => ∃ (r : Int) (cz : zCS), vq = some (.int (zI r)) ∧ wq = [[(x, .inr (4, [.ref (axb 0), .ref (axn 0), .int (zI xk), .ref xh, .ref (axt 0), .ref (axc 0)]))], zBoard cI axb b, zCont cI axc cz] ∧ (brkR pC y1 y2 r)
set_option maxRecDepth 20000 in
theorem iX4_breakOf_X4 : ∀ w ∈ u_ws RX4 TX4 6, w ∈ wsX4_breakOf := by decide +kernel
set_option maxRecDepth 20000 in
theorem mX4_breakOf_1 : (.fieldLink RX4 40 "StoryPanels" "continuity" "LStoryPanels$Continuity;" : Cond) ∈ wsX4_breakOf := by decide +kernel
set_option maxHeartbeats 4000000 in
set_option maxRecDepth 100000 in
theorem kX4_breakOf (l : Launch) (D : va_G) (cI cB : ClassId) (x : Nat) (axb axn : Nat → Nat) (xk : Int) (xh : Nat) (axt axc : Nat → Nat) (b : zBS) (cn : zCS) (y1 y2 : Int) (pC : List zPn) (pO : List Int) (ev : Int) (hR : RB b pC pO ev) (hy1 : R32 y1) (hy2 : R32 y2) : zMet l yX4_breakOf wsX4_breakOf 5 125 0 0 D cI cB [.ref x, .int (zI y1), .int (zI y2)] [[(x, .inr (4, [.ref (axb 0), .ref (axn 0), .int (zI xk), .ref xh, .ref (axt 0), .ref (axc 0)]))], zBoard cI axb b, zCont cI axc cn] (qX4_breakOf cI x axb axn xk xh axt axc b cn y1 y2 pC pO ev) := by
  refine zMet.of (cd := cX4_breakOf) (maxL := 3) (ret := (some .int)) (by decide) rfl (Nat.le_of_ble_eq_true rfl) ?_
  intro p e s m args below meth c A ls hS hr hlk hnm hK hA hW hl
  have hS : CallFix p m c cX4_breakOf 3 s args wsX4_breakOf RX4 := hS
  have hx := hS.1
  have hb := hS.2.1
  have hown := hS.2.2.2.1
  have hts := hS.2.2.2.2
  have hl : lv_has ls 3 [(0, .ref x), (1, .int (zI y1)), (2, .int (zI y2))] := hl
  have hRz := hR.1.1
  have hRl := hR.2.1
  have hnb := nbC_rg hR
  refine lv_iload_n hx hb dX4_breakOf_0 rfl (lv_at hl 1 rfl) ?_
  refine z_if_lt (tgt := 13) hx hb dX4_breakOf_1 (by decide) (by omega) (fun cc_1 => ?_) (fun cc_1 => ?_)
  · refine lv_bipush (v := zI (-2)) hx hb dX4_breakOf_13 (by decide +kernel) ?_
    exact z_iret (v := (-2)) hx hb hr hlk hW dX4_breakOf_15 (by
        exact ⟨(-2), cn, rfl, rfl, by exact Or.inl ⟨by omega, rfl⟩⟩)
  · refine lv_iload_n hx hb dX4_breakOf_4 rfl (lv_at hl 2 rfl) ?_
    refine z_if_lt (tgt := 13) hx hb dX4_breakOf_5 (by decide) (by omega) (fun cc_5 => ?_) (fun cc_5 => ?_)
    · refine lv_bipush (v := zI (-2)) hx hb dX4_breakOf_13 (by decide +kernel) ?_
      exact z_iret (v := (-2)) hx hb hr hlk hW dX4_breakOf_15 (by
          exact ⟨(-2), cn, rfl, rfl, by exact Or.inl ⟨by omega, rfl⟩⟩)
    · refine lv_iload_n hx hb dX4_breakOf_8 rfl (lv_at hl 2 rfl) ?_
      refine lv_iconst (v := zI (5)) hx hb dX4_breakOf_9 rfl ?_
      refine z_icmp_lt (tgt := 16) hx hb dX4_breakOf_10 (by decide) (by omega) (fun cc_10 => ?_) (fun cc_10 => ?_)
      · refine lv_iload_n hx hb dX4_breakOf_16 rfl (lv_at hl 1 rfl) ?_
        refine lv_aload_n hx hb dX4_breakOf_17 rfl (lv_at hl 0 rfl) ?_
        refine z_callV (r := (RX4, TX4, 6)) (As := []) (rest := [.int (zI y1)]) hS hK hA hW hl.1 [0, 1, 2] [] (kX4_breaksNow l D cI cB x axb axn xk xh axt axc b cn pC pO ev hR) (cwV 0 hts gX4_breakOf_X4_breaksNow rfl rfl rfl (by decide +kernel) ⟨Nat.le_of_ble_eq_true rfl, Nat.le_of_ble_eq_true rfl⟩) (rfl : vwCl[4]? = some (RX4, TX4, 6)) (q0 := 0) rfl dX4_breakOf_18 rfl rfl rfl rfl rfl (Nat.le_of_ble_eq_true rfl) ⟨Nat.le_of_ble_eq_true rfl, Nat.le_of_ble_eq_true rfl⟩ (fun v9 w9 H locs hq hW => ?_)
        obtain ⟨rr_18, cz_18, rfl, rfl, hh_18⟩ := hq
        have hW : zW D A s.heap [[(x, .inr (4, [.ref (axb 0), .ref (axn 0), .int (zI xk), .ref xh, .ref (axt 0), .ref (axc 0)]))], zBoard cI axb b, zCont cI axc cz_18] H locs := hW
        refine W.eq (g2 := F0 m 21 ls [.int (zI rr_18), .int (zI y1)]) rfl ?_
        have hgz := hh_18.2
        rw [show rr_18 = (nbC pC) by exact hh_18.1]
        refine z_icmp_lt (tgt := 27) hx hb dX4_breakOf_21 (by decide) (by omega) (fun cc_21 => ?_) (fun cc_21 => ?_)
        · refine lv_aload_n hx hb dX4_breakOf_27 rfl (lv_at hl 0 rfl) ?_
          refine va_get (D := D) (ci := 4) (v := .ref (axc 0)) (C := RX4) (T := TX4) (N := 6) hx hb hts iX4_breakOf_X4 hown hK.1 hW.1 0 rfl rfl 5 (by decide) (hts _ mX4_breakOf_1) (fun _ h9 => h9) rfl dX4_breakOf_28 ?_
          refine lv_iload_n hx hb dX4_breakOf_31 rfl (lv_at hl 1 rfl) ?_
          refine lv_iload_n hx hb dX4_breakOf_32 rfl (lv_at hl 2 rfl) ?_
          refine z_callV (r := (RX1, TX1, 6)) (As := [.int (zI y1), .int (zI y2)]) (rest := []) hS hK hA hW hl.1 [2] [0, 1] (kX1_numberOfBreak l D cI cB axc cz_18 y1 y2 (by omega) (by omega)) (cwV 2 hts gX4_breakOf_X1_numberOfBreak rfl rfl rfl (by decide +kernel) ⟨Nat.le_of_ble_eq_true rfl, Nat.le_of_ble_eq_true rfl⟩) (rfl : vwCl[1]? = some (RX1, TX1, 6)) (q0 := 9) rfl dX4_breakOf_33 rfl rfl rfl rfl rfl (Nat.le_of_ble_eq_true rfl) ⟨Nat.le_of_ble_eq_true rfl, Nat.le_of_ble_eq_true rfl⟩ (fun v9 w9 H locs hq hW => ?_)
          obtain ⟨rr_33, rfl, rfl, hh_33⟩ := hq
          subst rr_33
          have hW : zW D A s.heap [zCont cI axc cz_18, [(x, .inr (4, [.ref (axb 0), .ref (axn 0), .int (zI xk), .ref xh, .ref (axt 0), .ref (axc 0)]))], zBoard cI axb b] H locs := hW
          have hW : zW D A s.heap [[(x, .inr (4, [.ref (axb 0), .ref (axn 0), .int (zI xk), .ref xh, .ref (axt 0), .ref (axc 0)]))], zBoard cI axb b, zCont cI axc cz_18] H locs := hW.pick [1, 2, 0] rfl rfl
          refine W.eq (g2 := F0 m 36 ls [.int (zI (ct_brk cz_18 (y1 * 5 + y2)))]) rfl ?_
          rw [show (ct_brk cz_18 (y1 * 5 + y2)) = (bkGet (brkAt pC y1) y2) by exact RCh_get hgz (by omega) (by omega)]
          exact z_iret (v := bkGet (brkAt pC y1) y2) hx hb hr hlk hW dX4_breakOf_36 (by
              exact ⟨bkGet (brkAt pC y1) y2, cz_18, rfl, rfl, by exact Or.inr ⟨by omega, Or.inr ⟨by omega, rfl⟩⟩⟩)
        · refine lv_bipush (v := zI (-5)) hx hb dX4_breakOf_24 (by decide +kernel) ?_
          exact z_iret (v := (-5)) hx hb hr hlk hW dX4_breakOf_26 (by
              exact ⟨(-5), cz_18, rfl, rfl, by exact Or.inr ⟨by omega, Or.inl ⟨by omega, rfl⟩⟩⟩)
      · refine lv_bipush (v := zI (-2)) hx hb dX4_breakOf_13 (by decide +kernel) ?_
        exact z_iret (v := (-2)) hx hb hr hlk hW dX4_breakOf_15 (by
            exact ⟨(-2), cn, rfl, rfl, by exact Or.inl ⟨by omega, rfl⟩⟩)

abbrev qX4_ifMoved (cI : ClassId) (x : Nat) (axb axn : Nat → Nat) (xk : Int) (xh : Nat) (axt axc : Nat → Nat) (b : zBS) (cn : zCS) (y1 y2 y3 : Int) (pC : List zPn) (pO : List Int) (ev : Int) : Option Value → List va_W → Prop := fun vq wq => ∃ (r : Int) (bz : zBS) (cz : zCS), vq = some (.int (zI r)) ∧ wq = [[(x, .inr (4, [.ref (axb 0), .ref (axn 0), .int (zI xk), .ref xh, .ref (axt 0), .ref (axc 0)]))], zBoard cI axb bz, zCont cI axc cz] ∧ (ifmR pC pO y1 y2 y3 r ∧ RB bz pC pO ev)
set_option maxRecDepth 20000 in
theorem iX4_ifMoved_X4 : ∀ w ∈ u_ws RX4 TX4 6, w ∈ wsX4_ifMoved := by decide +kernel
set_option maxRecDepth 20000 in
theorem mX4_ifMoved_1 : (.fieldLink RX4 12 "StoryPanels" "board" "LStoryPanels$Board;" : Cond) ∈ wsX4_ifMoved := by decide +kernel
set_option maxHeartbeats 4000000 in
set_option maxRecDepth 100000 in
theorem kX4_ifMoved (l : Launch) (D : va_G) (cI cB : ClassId) (x : Nat) (axb axn : Nat → Nat) (xk : Int) (xh : Nat) (axt axc : Nat → Nat) (b : zBS) (cn : zCS) (y1 y2 y3 : Int) (pC : List zPn) (pO : List Int) (ev : Int) (hR : RB b pC pO ev) (hy1 : R32 y1) (hy2 : R32 y2) (hy3 : R32 y3) : zMet l yX4_ifMoved wsX4_ifMoved 5 130 0 0 D cI cB [.ref x, .int (zI y1), .int (zI y2), .int (zI y3)] [[(x, .inr (4, [.ref (axb 0), .ref (axn 0), .int (zI xk), .ref xh, .ref (axt 0), .ref (axc 0)]))], zBoard cI axb b, zCont cI axc cn] (qX4_ifMoved cI x axb axn xk xh axt axc b cn y1 y2 y3 pC pO ev) := by
  refine zMet.of (cd := cX4_ifMoved) (maxL := 5) (ret := (some .int)) (by decide) rfl (Nat.le_of_ble_eq_true rfl) ?_
  intro p e s m args below meth c A ls hS hr hlk hnm hK hA hW hl
  have hS : CallFix p m c cX4_ifMoved 5 s args wsX4_ifMoved RX4 := hS
  have hx := hS.1
  have hb := hS.2.1
  have hown := hS.2.2.2.1
  have hts := hS.2.2.2.2
  have hl : lv_has ls 5 [(0, .ref x), (1, .int (zI y1)), (2, .int (zI y2)), (3, .int (zI y3))] := hl
  have hRz := hR.1.1
  have hRl := hR.2.1
  refine lv_aload_n hx hb dX4_ifMoved_0 rfl (lv_at hl 0 rfl) ?_
  refine va_get (D := D) (ci := 4) (v := .ref (axb 0)) (C := RX4) (T := TX4) (N := 6) hx hb hts iX4_ifMoved_X4 hown hK.1 hW.1 0 rfl rfl 0 (by decide) (hts _ mX4_ifMoved_1) (fun _ h9 => h9) rfl dX4_ifMoved_1 ?_
  refine lv_iload_n hx hb dX4_ifMoved_4 rfl (lv_at hl 1 rfl) ?_
  refine z_callV (r := (RX0, TX0, 9)) (As := [.int (zI y1)]) (rest := []) hS hK hA hW hl.1 [1] [0, 2] (kX0_slotOf l D cI cB axb b y1 hR.1 (by omega)) (cwV 1 hts gX4_ifMoved_X0_slotOf rfl rfl rfl (by decide +kernel) ⟨Nat.le_of_ble_eq_true rfl, Nat.le_of_ble_eq_true rfl⟩) (rfl : vwCl[0]? = some (RX0, TX0, 9)) (q0 := 1) rfl dX4_ifMoved_5 rfl rfl rfl rfl rfl (Nat.le_of_ble_eq_true rfl) ⟨Nat.le_of_ble_eq_true rfl, Nat.le_of_ble_eq_true rfl⟩ (fun v9 w9 H locs hq hW => ?_)
  obtain ⟨rr_5, rfl, rfl, hh_5⟩ := hq
  have hW : zW D A s.heap [zBoard cI axb b, [(x, .inr (4, [.ref (axb 0), .ref (axn 0), .int (zI xk), .ref xh, .ref (axt 0), .ref (axc 0)]))], zCont cI axc cn] H locs := hW
  have hW : zW D A s.heap [[(x, .inr (4, [.ref (axb 0), .ref (axn 0), .int (zI xk), .ref xh, .ref (axt 0), .ref (axc 0)]))], zBoard cI axb b, zCont cI axc cn] H locs := hW.pick [1, 0, 2] rfl rfl
  refine W.eq (g2 := F0 m 8 ls [.int (zI rr_5)]) rfl ?_
  have hfd := RB_find hR hh_5
  have hfr : -1 ≤ rr_5 ∧ rr_5 < 10 := by rcases hfd with hq | hq <;> omega
  refine lv_istore (lv' := [(4, .int (zI rr_5)), (0, .ref x), (1, .int (zI y1)), (2, .int (zI y2)), (3, .int (zI y3))]) hx hb dX4_ifMoved_8 hl (by decide) rfl (fun ls hl => ?_)
  refine lv_iload hx hb dX4_ifMoved_10 (lv_at hl 0 rfl) ?_
  refine lv_iconst (v := zI (-1)) hx hb dX4_ifMoved_12 rfl ?_
  refine z_icmp_eq (tgt := 23) hx hb dX4_ifMoved_13 (by decide) (by omega) (fun cc_13 => ?_) (fun cc_13 => ?_)
  · refine lv_iconst (v := zI (-1)) hx hb dX4_ifMoved_23 rfl ?_
    exact z_iret (v := (-1)) hx hb hr hlk hW dX4_ifMoved_24 (by
        exact ⟨(-1), b, cn, rfl, rfl, by refine ⟨Or.inl ⟨?_, rfl⟩, hR⟩; first | exact Or.inl (hfd.resolve_right (by rintro ⟨hq, -⟩; omega)).2 | exact Or.inr (by omega)⟩)
  · obtain ⟨hf1, jq, pq, hjp, hjl⟩ := hfd.resolve_left (fun hq => cc_13 hq.1)
    have hjs := hR.2.2.2.1 jq pq hjp.1
    rw [← hjl] at hjs
    have hjt := RB_at hR hjp.1
    rw [← hjl] at hjt
    have hjo := RB_pn hR pq (List.mem_of_getElem? hjp.1)
    have hjb := (List.getElem?_eq_some_iff.mp hjp.1).1
    refine lv_iload_n hx hb dX4_ifMoved_16 rfl (lv_at hl 3 rfl) ?_
    refine z_callS (As := [.int (zI y2)]) (rest := []) hS hK hA hW hl.1 [] [0, 1, 2] (kX4_isScene l D cI cB y2 (by omega)) (va_cwS 1 hts gX4_ifMoved_X4_isScene rfl rfl rfl (by decide +kernel) ⟨Nat.le_of_ble_eq_true rfl, Nat.le_of_ble_eq_true rfl⟩) dX4_ifMoved_17 rfl rfl rfl rfl rfl (Nat.le_of_ble_eq_true rfl) ⟨Nat.le_of_ble_eq_true rfl, Nat.le_of_ble_eq_true rfl⟩ (fun v9 w9 H locs hq hW => ?_)
    obtain ⟨rr_17, rfl, rfl, hh_17⟩ := hq
    have hW : zW D A s.heap [[(x, .inr (4, [.ref (axb 0), .ref (axn 0), .int (zI xk), .ref xh, .ref (axt 0), .ref (axc 0)]))], zBoard cI axb b, zCont cI axc cn] H locs := hW
    refine W.eq (g2 := F0 m 20 ls [.int (zI rr_17)]) rfl ?_
    refine z_if_ne (tgt := 25) hx hb dX4_ifMoved_20 (by decide) (by omega) (fun cc_20 => ?_) (fun cc_20 => ?_)
    · refine lv_aload_n hx hb dX4_ifMoved_25 rfl (lv_at hl 1 rfl) ?_
      refine va_get (D := D) (ci := 4) (v := .ref (axb 0)) (C := RX4) (T := TX4) (N := 6) hx hb hts iX4_ifMoved_X4 hown hK.1 hW.1 0 rfl rfl 0 (by decide) (hts _ mX4_ifMoved_1) (fun _ h9 => h9) rfl dX4_ifMoved_26 ?_
      refine lv_iload hx hb dX4_ifMoved_29 (lv_at hl 0 rfl) ?_
      refine lv_iload_n hx hb dX4_ifMoved_31 rfl (lv_at hl 3 rfl) ?_
      refine lv_iload_n hx hb dX4_ifMoved_32 rfl (lv_at hl 4 rfl) ?_
      refine z_callV (r := (RX0, TX0, 9)) (As := [.int (zI rr_5), .int (zI y2), .int (zI y3)]) (rest := []) hS hK hA hW hl.1 [1] [0, 2] (kX0_hasPlaceFor l D cI cB axb b rr_5 y2 y3 hR.1 (by omega) (by omega) (by omega)) (cwV 3 hts gX4_ifMoved_X0_hasPlaceFor rfl rfl rfl (by decide +kernel) ⟨Nat.le_of_ble_eq_true rfl, Nat.le_of_ble_eq_true rfl⟩) (rfl : vwCl[0]? = some (RX0, TX0, 9)) (q0 := 1) rfl dX4_ifMoved_33 rfl rfl rfl rfl rfl (Nat.le_of_ble_eq_true rfl) ⟨Nat.le_of_ble_eq_true rfl, Nat.le_of_ble_eq_true rfl⟩ (fun v9 w9 H locs hq hW => ?_)
      obtain ⟨rr_33, rfl, rfl, hh_33⟩ := hq
      have hW : zW D A s.heap [zBoard cI axb b, [(x, .inr (4, [.ref (axb 0), .ref (axn 0), .int (zI xk), .ref xh, .ref (axt 0), .ref (axc 0)]))], zCont cI axc cn] H locs := hW
      have hW : zW D A s.heap [[(x, .inr (4, [.ref (axb 0), .ref (axn 0), .int (zI xk), .ref xh, .ref (axt 0), .ref (axc 0)]))], zBoard cI axb b, zCont cI axc cn] H locs := hW.pick [1, 0, 2] rfl rfl
      refine W.eq (g2 := F0 m 36 ls [.int (zI rr_33)]) rfl ?_
      rw [hjl, RB_places hR hjp.1 y2] at hh_33
      refine z_if_ne (tgt := 42) hx hb dX4_ifMoved_36 (by decide) (by omega) (fun cc_36 => ?_) (fun cc_36 => ?_)
      · refine lv_aload_n hx hb dX4_ifMoved_42 rfl (lv_at hl 1 rfl) ?_
        refine lv_iload hx hb dX4_ifMoved_43 (lv_at hl 0 rfl) ?_
        refine lv_iload_n hx hb dX4_ifMoved_45 rfl (lv_at hl 3 rfl) ?_
        refine lv_iload_n hx hb dX4_ifMoved_46 rfl (lv_at hl 4 rfl) ?_
        refine z_callV (r := (RX4, TX4, 6)) (As := [.int (zI rr_5), .int (zI y2), .int (zI y3)]) (rest := []) hS hK hA hW hl.1 [0, 1, 2] [] (kX4_breaksWith l D cI cB x axb axn xk xh axt axc b cn rr_5 y2 y3 pC pO ev jq pq hR hjp.1 hjl (by omega) (by omega)) (cwV 3 hts gX4_ifMoved_X4_breaksWith rfl rfl rfl (by decide +kernel) ⟨Nat.le_of_ble_eq_true rfl, Nat.le_of_ble_eq_true rfl⟩) (rfl : vwCl[4]? = some (RX4, TX4, 6)) (q0 := 0) rfl dX4_ifMoved_47 rfl rfl rfl rfl rfl (Nat.le_of_ble_eq_true rfl) ⟨Nat.le_of_ble_eq_true rfl, Nat.le_of_ble_eq_true rfl⟩ (fun v9 w9 H locs hq hW => ?_)
        obtain ⟨rr_47, bz_47, cz_47, rfl, rfl, hh_47⟩ := hq
        have hW : zW D A s.heap [[(x, .inr (4, [.ref (axb 0), .ref (axn 0), .int (zI xk), .ref xh, .ref (axt 0), .ref (axc 0)]))], zBoard cI axb bz_47, zCont cI axc cz_47] H locs := hW
        refine W.eq (g2 := F0 m 50 ls [.int (zI rr_47)]) rfl ?_
        exact z_iret (v := rr_47) hx hb hr hlk hW dX4_ifMoved_50 (by
            exact ⟨rr_47, bz_47, cz_47, rfl, rfl, by exact ⟨Or.inr ⟨by omega, jq, pq, hjp, Or.inr ⟨by omega, hh_47.1⟩⟩, hh_47.2.1⟩⟩)
      · refine lv_bipush (v := zI (-2)) hx hb dX4_ifMoved_39 (by decide +kernel) ?_
        exact z_iret (v := (-2)) hx hb hr hlk hW dX4_ifMoved_41 (by
            exact ⟨(-2), b, cn, rfl, rfl, by exact ⟨Or.inr ⟨by omega, jq, pq, hjp, Or.inl ⟨by omega, rfl⟩⟩, hR⟩⟩)
    · refine lv_iconst (v := zI (-1)) hx hb dX4_ifMoved_23 rfl ?_
      exact z_iret (v := (-1)) hx hb hr hlk hW dX4_ifMoved_24 (by
          exact ⟨(-1), b, cn, rfl, rfl, by refine ⟨Or.inl ⟨?_, rfl⟩, hR⟩; first | exact Or.inl (hfd.resolve_right (by rintro ⟨hq, -⟩; omega)).2 | exact Or.inr (by omega)⟩)

abbrev qX4_bestPlace (cI : ClassId) (x : Nat) (axb axn : Nat → Nat) (xk : Int) (xh : Nat) (axt axc : Nat → Nat) (b : zBS) (cn : zCS) (y1 y2 : Int) (pC : List zPn) (pO : List Int) (ev : Int) : Option Value → List va_W → Prop := fun vq wq => ∃ (r : Int) (bz : zBS) (cz : zCS), vq = some (.int (zI r)) ∧ wq = [[(x, .inr (4, [.ref (axb 0), .ref (axn 0), .int (zI xk), .ref xh, .ref (axt 0), .ref (axc 0)]))], zBoard cI axb bz, zCont cI axc cz] ∧ (bstR pC pO y1 y2 r ∧ RB bz pC pO ev)
set_option maxRecDepth 20000 in
theorem iX4_bestPlace_X4 : ∀ w ∈ u_ws RX4 TX4 6, w ∈ wsX4_bestPlace := by decide +kernel
set_option maxRecDepth 20000 in
theorem mX4_bestPlace_1 : (.fieldLink RX4 12 "StoryPanels" "board" "LStoryPanels$Board;" : Cond) ∈ wsX4_bestPlace := by decide +kernel
set_option maxHeartbeats 4000000 in
set_option maxRecDepth 100000 in
theorem kX4_bestPlace (l : Launch) (D : va_G) (cI cB : ClassId) (x : Nat) (axb axn : Nat → Nat) (xk : Int) (xh : Nat) (axt axc : Nat → Nat) (b : zBS) (cn : zCS) (y1 y2 : Int) (pC : List zPn) (pO : List Int) (ev : Int) (hR : RB b pC pO ev) (hy1 : R32 y1) (hy2 : R32 y2) : zMet l yX4_bestPlace wsX4_bestPlace 6 157 0 0 D cI cB [.ref x, .int (zI y1), .int (zI y2)] [[(x, .inr (4, [.ref (axb 0), .ref (axn 0), .int (zI xk), .ref xh, .ref (axt 0), .ref (axc 0)]))], zBoard cI axb b, zCont cI axc cn] (qX4_bestPlace cI x axb axn xk xh axt axc b cn y1 y2 pC pO ev) := by
  refine zMet.of (cd := cX4_bestPlace) (maxL := 4) (ret := (some .int)) (by decide) rfl (Nat.le_of_ble_eq_true rfl) ?_
  intro p e s m args below meth c A ls hS hr hlk hnm hK hA hW hl
  have hS : CallFix p m c cX4_bestPlace 4 s args wsX4_bestPlace RX4 := hS
  have hx := hS.1
  have hb := hS.2.1
  have hown := hS.2.2.2.1
  have hts := hS.2.2.2.2
  have hl : lv_has ls 4 [(0, .ref x), (1, .int (zI y1)), (2, .int (zI y2))] := hl
  have hRz := hR.1.1
  have hRl := hR.2.1
  refine lv_aload_n hx hb dX4_bestPlace_0 rfl (lv_at hl 0 rfl) ?_
  refine va_get (D := D) (ci := 4) (v := .ref (axb 0)) (C := RX4) (T := TX4) (N := 6) hx hb hts iX4_bestPlace_X4 hown hK.1 hW.1 0 rfl rfl 0 (by decide) (hts _ mX4_bestPlace_1) (fun _ h9 => h9) rfl dX4_bestPlace_1 ?_
  refine lv_iload_n hx hb dX4_bestPlace_4 rfl (lv_at hl 1 rfl) ?_
  refine z_callV (r := (RX0, TX0, 9)) (As := [.int (zI y1)]) (rest := []) hS hK hA hW hl.1 [1] [0, 2] (kX0_slotOf l D cI cB axb b y1 hR.1 (by omega)) (cwV 1 hts gX4_bestPlace_X0_slotOf rfl rfl rfl (by decide +kernel) ⟨Nat.le_of_ble_eq_true rfl, Nat.le_of_ble_eq_true rfl⟩) (rfl : vwCl[0]? = some (RX0, TX0, 9)) (q0 := 1) rfl dX4_bestPlace_5 rfl rfl rfl rfl rfl (Nat.le_of_ble_eq_true rfl) ⟨Nat.le_of_ble_eq_true rfl, Nat.le_of_ble_eq_true rfl⟩ (fun v9 w9 H locs hq hW => ?_)
  obtain ⟨rr_5, rfl, rfl, hh_5⟩ := hq
  have hW : zW D A s.heap [zBoard cI axb b, [(x, .inr (4, [.ref (axb 0), .ref (axn 0), .int (zI xk), .ref xh, .ref (axt 0), .ref (axc 0)]))], zCont cI axc cn] H locs := hW
  have hW : zW D A s.heap [[(x, .inr (4, [.ref (axb 0), .ref (axn 0), .int (zI xk), .ref xh, .ref (axt 0), .ref (axc 0)]))], zBoard cI axb b, zCont cI axc cn] H locs := hW.pick [1, 0, 2] rfl rfl
  refine W.eq (g2 := F0 m 8 ls [.int (zI rr_5)]) rfl ?_
  have hfd := RB_find hR hh_5
  have hfr : -1 ≤ rr_5 ∧ rr_5 < 10 := by rcases hfd with hq | hq <;> omega
  refine lv_istore_n (lv' := [(3, .int (zI rr_5)), (0, .ref x), (1, .int (zI y1)), (2, .int (zI y2))]) hx hb dX4_bestPlace_8 rfl hl (by decide) rfl (fun ls hl => ?_)
  refine lv_iload_n hx hb dX4_bestPlace_9 rfl (lv_at hl 0 rfl) ?_
  refine lv_iconst (v := zI (-1)) hx hb dX4_bestPlace_10 rfl ?_
  refine z_icmp_eq (tgt := 21) hx hb dX4_bestPlace_11 (by decide) (by omega) (fun cc_11 => ?_) (fun cc_11 => ?_)
  · refine lv_iconst (v := zI (-1)) hx hb dX4_bestPlace_21 rfl ?_
    exact z_iret (v := (-1)) hx hb hr hlk hW dX4_bestPlace_22 (by
        exact ⟨(-1), b, cn, rfl, rfl, by refine ⟨Or.inl ⟨?_, rfl⟩, hR⟩; first | exact Or.inl (hfd.resolve_right (by rintro ⟨hq, -⟩; omega)).2 | exact Or.inr (by omega)⟩)
  · obtain ⟨hf1, jq, pq, hjp, hjl⟩ := hfd.resolve_left (fun hq => cc_11 hq.1)
    have hjs := hR.2.2.2.1 jq pq hjp.1
    rw [← hjl] at hjs
    have hjt := RB_at hR hjp.1
    rw [← hjl] at hjt
    have hjo := RB_pn hR pq (List.mem_of_getElem? hjp.1)
    have hjb := (List.getElem?_eq_some_iff.mp hjp.1).1
    refine lv_iload_n hx hb dX4_bestPlace_14 rfl (lv_at hl 3 rfl) ?_
    refine z_callS (As := [.int (zI y2)]) (rest := []) hS hK hA hW hl.1 [] [0, 1, 2] (kX4_isScene l D cI cB y2 (by omega)) (va_cwS 1 hts gX4_bestPlace_X4_isScene rfl rfl rfl (by decide +kernel) ⟨Nat.le_of_ble_eq_true rfl, Nat.le_of_ble_eq_true rfl⟩) dX4_bestPlace_15 rfl rfl rfl rfl rfl (Nat.le_of_ble_eq_true rfl) ⟨Nat.le_of_ble_eq_true rfl, Nat.le_of_ble_eq_true rfl⟩ (fun v9 w9 H locs hq hW => ?_)
    obtain ⟨rr_15, rfl, rfl, hh_15⟩ := hq
    have hW : zW D A s.heap [[(x, .inr (4, [.ref (axb 0), .ref (axn 0), .int (zI xk), .ref xh, .ref (axt 0), .ref (axc 0)]))], zBoard cI axb b, zCont cI axc cn] H locs := hW
    refine W.eq (g2 := F0 m 18 ls [.int (zI rr_15)]) rfl ?_
    refine z_if_ne (tgt := 23) hx hb dX4_bestPlace_18 (by decide) (by omega) (fun cc_18 => ?_) (fun cc_18 => ?_)
    · refine lv_aload_n hx hb dX4_bestPlace_23 rfl (lv_at hl 1 rfl) ?_
      refine lv_iload_n hx hb dX4_bestPlace_24 rfl (lv_at hl 0 rfl) ?_
      refine lv_iload_n hx hb dX4_bestPlace_25 rfl (lv_at hl 3 rfl) ?_
      refine z_callV (r := (RX4, TX4, 6)) (As := [.int (zI rr_5), .int (zI y2)]) (rest := []) hS hK hA hW hl.1 [0, 1, 2] [] (kX4_lowestBestPlace l D cI cB x axb axn xk xh axt axc b cn rr_5 y2 pC pO ev jq pq hR hjp.1 hjl (by omega)) (cwV 2 hts gX4_bestPlace_X4_lowestBestPlace rfl rfl rfl (by decide +kernel) ⟨Nat.le_of_ble_eq_true rfl, Nat.le_of_ble_eq_true rfl⟩) (rfl : vwCl[4]? = some (RX4, TX4, 6)) (q0 := 0) rfl dX4_bestPlace_26 rfl rfl rfl rfl rfl (Nat.le_of_ble_eq_true rfl) ⟨Nat.le_of_ble_eq_true rfl, Nat.le_of_ble_eq_true rfl⟩ (fun v9 w9 H locs hq hW => ?_)
      obtain ⟨rr_26, bz_26, cz_26, rfl, rfl, hh_26⟩ := hq
      have hW : zW D A s.heap [[(x, .inr (4, [.ref (axb 0), .ref (axn 0), .int (zI xk), .ref xh, .ref (axt 0), .ref (axc 0)]))], zBoard cI axb bz_26, zCont cI axc cz_26] H locs := hW
      refine W.eq (g2 := F0 m 29 ls [.int (zI rr_26)]) rfl ?_
      exact z_iret (v := rr_26) hx hb hr hlk hW dX4_bestPlace_29 (by
          exact ⟨rr_26, bz_26, cz_26, rfl, rfl, by exact ⟨Or.inr ⟨by omega, jq, pq, hjp, hh_26.1⟩, hh_26.2.1⟩⟩)
    · refine lv_iconst (v := zI (-1)) hx hb dX4_bestPlace_21 rfl ?_
      exact z_iret (v := (-1)) hx hb hr hlk hW dX4_bestPlace_22 (by
          exact ⟨(-1), b, cn, rfl, rfl, by refine ⟨Or.inl ⟨?_, rfl⟩, hR⟩; first | exact Or.inl (hfd.resolve_right (by rintro ⟨hq, -⟩; omega)).2 | exact Or.inr (by omega)⟩)
