abbrev qX3_signAt (cI : ClassId) (a : Nat → Nat) (t : zTS) (x : Int) : Option Value → List va_W → Prop := fun vq wq => ∃ (r : Int), vq = some (.int (zI r)) ∧ wq = [zText cI a (t)] ∧ (r = sgn t x)
set_option maxRecDepth 20000 in
theorem iX3_signAt_X3 : ∀ w ∈ u_ws RX3 TX3 6, w ∈ wsX3_signAt := by decide +kernel
set_option maxRecDepth 20000 in
theorem mX3_signAt_1 : (.fieldLink RX3 15 "StoryPanels$PanelText" "length" "I" : Cond) ∈ wsX3_signAt := by decide +kernel
set_option maxRecDepth 20000 in
theorem mX3_signAt_2 : (.fieldLink RX3 9 "StoryPanels$PanelText" "signs" "[I" : Cond) ∈ wsX3_signAt := by decide +kernel
set_option maxRecDepth 20000 in
theorem mX3_signAt_3 : (.initialized RX4 : Cond) ∈ wsX3_signAt := by decide +kernel
set_option maxRecDepth 20000 in
theorem mX3_signAt_4 : (.static yX4_cell : Cond) ∈ wsX3_signAt := by decide +kernel
set_option maxHeartbeats 4000000 in
set_option maxRecDepth 100000 in
theorem kX3_signAt (l : Launch) (D : va_G) (cI cB : ClassId) (a : Nat → Nat) (t : zTS) (x : Int) (hTk : TXOK t) (hx1 : 0 ≤ x ∧ x < 1000) : zMet l yX3_signAt wsX3_signAt 1 21 0 0 D cI cB [.ref (a 0), .int (zI x)] [zText cI a t] (qX3_signAt cI a t x) := by
  refine zMet.of (cd := cX3_signAt) (maxL := 2) (ret := (some .int)) (by decide) rfl (Nat.le_of_ble_eq_true rfl) ?_
  intro p e s m args below meth c A ls hS hr hlk hnm hK hA hW hl
  have hS : CallFix p m c cX3_signAt 2 s args wsX3_signAt RX3 := hS
  have hx := hS.1
  have hb := hS.2.1
  have hown := hS.2.2.2.1
  have hts := hS.2.2.2.2
  have hl : lv_has ls 2 [(0, .ref (a 0)), (1, .int (zI x))] := hl
  have htl := hTk.1
  refine lv_iload_n hx hb dX3_signAt_0 rfl (lv_at hl 1 rfl) ?_
  refine lv_aload_n hx hb dX3_signAt_1 rfl (lv_at hl 0 rfl) ?_
  refine va_get (D := D) (ci := 3) (v := .int (zI (tx_len t))) (C := RX3) (T := TX3) (N := 6) hx hb hts iX3_signAt_X3 hown hK.1 hW.1 0 rfl rfl 1 (by decide) (hts _ mX3_signAt_1) (fun _ h9 => h9) rfl dX3_signAt_2 ?_
  refine z_icmp_ge (tgt := 19) hx hb dX3_signAt_5 (by decide) (by omega) (fun cc_5 => ?_) (fun cc_5 => ?_)
  · refine lv_iconst (v := zI (-1)) hx hb dX3_signAt_19 rfl ?_
    exact z_iret (v := (-1)) hx hb hr hlk hW dX3_signAt_20 (by
        exact ⟨(-1), rfl, rfl, by unfold sgn; first | rw [if_pos (by omega)] | rw [if_neg (by omega)]⟩)
  · refine lv_aload_n hx hb dX3_signAt_8 rfl (lv_at hl 0 rfl) ?_
    refine va_get (D := D) (ci := 3) (v := .ref (a 1)) (C := RX3) (T := TX3) (N := 6) hx hb hts iX3_signAt_X3 hown hK.1 hW.1 0 rfl rfl 0 (by decide) (hts _ mX3_signAt_2) (fun _ h9 => h9) rfl dX3_signAt_9 ?_
    refine lv_iload_n hx hb dX3_signAt_12 rfl (lv_at hl 1 rfl) ?_
    refine z_cell (n := 60) (g := tx_sig t) (i := x) (rest := []) hS hK hA hW hl.1 1 rfl (gX3_signAt_X4_cell_n62) nm_13 (mX3_signAt_3) (mX3_signAt_4) ⟨Nat.le_of_ble_eq_true rfl, Nat.le_of_ble_eq_true rfl⟩ dX3_signAt_13 (by omega) (Nat.le_of_ble_eq_true rfl) ⟨Nat.le_of_ble_eq_true rfl, Nat.le_of_ble_eq_true rfl⟩ (fun H locs hW => ?_)
    refine lv_goto (tgt := 20) hx hb dX3_signAt_16 (by decide) ?_
    exact z_iret (v := (tx_sig t) x) hx hb hr hlk hW dX3_signAt_20 (by
        exact ⟨(tx_sig t) x, rfl, rfl, by unfold sgn; first | rw [if_pos (by omega)] | rw [if_neg (by omega)]⟩)

abbrev qX3_digitAt (cI : ClassId) (a : Nat → Nat) (t : zTS) (x : Int) : Option Value → List va_W → Prop := fun vq wq => ∃ (r : Int), vq = some (.int (zI r)) ∧ wq = [zText cI a (t)] ∧ (r = zdg (sgn t x))
set_option maxHeartbeats 4000000 in
set_option maxRecDepth 100000 in
theorem kX3_digitAt (l : Launch) (D : va_G) (cI cB : ClassId) (a : Nat → Nat) (t : zTS) (x : Int) (hTk : TXOK t) (hx1 : 0 ≤ x ∧ x < 1000) : zMet l yX3_digitAt wsX3_digitAt 2 42 0 0 D cI cB [.ref (a 0), .int (zI x)] [zText cI a t] (qX3_digitAt cI a t x) := by
  refine zMet.of (cd := cX3_digitAt) (maxL := 3) (ret := (some .int)) (by decide) rfl (Nat.le_of_ble_eq_true rfl) ?_
  intro p e s m args below meth c A ls hS hr hlk hnm hK hA hW hl
  have hS : CallFix p m c cX3_digitAt 3 s args wsX3_digitAt RX3 := hS
  have hx := hS.1
  have hb := hS.2.1
  have hown := hS.2.2.2.1
  have hts := hS.2.2.2.2
  have hl : lv_has ls 3 [(0, .ref (a 0)), (1, .int (zI x))] := hl
  have htl := hTk.1
  have qq_2 := sgn_rg hTk hx1.1
  refine lv_aload_n hx hb dX3_digitAt_0 rfl (lv_at hl 0 rfl) ?_
  refine lv_iload_n hx hb dX3_digitAt_1 rfl (lv_at hl 1 rfl) ?_
  refine z_callV (r := (RX3, TX3, 6)) (As := [.int (zI x)]) (rest := []) hS hK hA hW hl.1 [0] [] (kX3_signAt l D cI cB a t x (by omega) (by omega)) (cwV 1 hts gX3_digitAt_X3_signAt rfl rfl rfl (by decide +kernel) ⟨Nat.le_of_ble_eq_true rfl, Nat.le_of_ble_eq_true rfl⟩) (rfl : vwCl[3]? = some (RX3, TX3, 6)) (q0 := 0) rfl dX3_digitAt_2 rfl rfl rfl rfl rfl (Nat.le_of_ble_eq_true rfl) ⟨Nat.le_of_ble_eq_true rfl, Nat.le_of_ble_eq_true rfl⟩ (fun v9 w9 H locs hq hW => ?_)
  obtain ⟨rr_2, rfl, rfl, hh_2⟩ := hq
  subst rr_2
  have hW : zW D A s.heap [zText cI a t] H locs := hW
  refine W.eq (g2 := F0 m 5 ls [.int (zI (sgn t x))]) rfl ?_
  refine lv_istore_n (lv' := [(2, .int (zI (sgn t x))), (0, .ref (a 0)), (1, .int (zI x))]) hx hb dX3_digitAt_5 rfl hl (by decide) rfl (fun ls hl => ?_)
  refine lv_iload_n hx hb dX3_digitAt_6 rfl (lv_at hl 0 rfl) ?_
  refine lv_bipush (v := zI (48)) hx hb dX3_digitAt_7 (by decide +kernel) ?_
  refine z_icmp_lt (tgt := 25) hx hb dX3_digitAt_9 (by decide) (by omega) (fun cc_9 => ?_) (fun cc_9 => ?_)
  · refine lv_iconst (v := zI (-1)) hx hb dX3_digitAt_25 rfl ?_
    exact z_iret (v := (-1)) hx hb hr hlk hW dX3_digitAt_26 (by
        exact ⟨(-1), rfl, rfl, by unfold zdg; first | rw [if_pos (by omega)] | rw [if_neg (by omega)]⟩)
  · refine lv_iload_n hx hb dX3_digitAt_12 rfl (lv_at hl 0 rfl) ?_
    refine lv_bipush (v := zI (57)) hx hb dX3_digitAt_13 (by decide +kernel) ?_
    refine z_icmp_gt (tgt := 25) hx hb dX3_digitAt_15 (by decide) (by omega) (fun cc_15 => ?_) (fun cc_15 => ?_)
    · refine lv_iconst (v := zI (-1)) hx hb dX3_digitAt_25 rfl ?_
      exact z_iret (v := (-1)) hx hb hr hlk hW dX3_digitAt_26 (by
          exact ⟨(-1), rfl, rfl, by unfold zdg; first | rw [if_pos (by omega)] | rw [if_neg (by omega)]⟩)
    · refine lv_iload_n hx hb dX3_digitAt_18 rfl (lv_at hl 0 rfl) ?_
      refine lv_bipush (v := zI (48)) hx hb dX3_digitAt_19 (by decide +kernel) ?_
      refine z_isub hx hb dX3_digitAt_21 ?_
      refine lv_goto (tgt := 26) hx hb dX3_digitAt_22 (by decide) ?_
      exact z_iret (v := (sgn t x) - 48) hx hb hr hlk hW dX3_digitAt_26 (by
          exact ⟨(sgn t x) - 48, rfl, rfl, by unfold zdg; first | rw [if_pos (by omega)] | rw [if_neg (by omega)]⟩)

abbrev qX3_characterAt (cI : ClassId) (a : Nat → Nat) (t : zTS) (x : Int) : Option Value → List va_W → Prop := fun vq wq => ∃ (r : Int), vq = some (.int (zI r)) ∧ wq = [zText cI a (t)] ∧ (r = zch (sgn t x))
set_option maxHeartbeats 4000000 in
set_option maxRecDepth 100000 in
theorem kX3_characterAt (l : Launch) (D : va_G) (cI cB : ClassId) (a : Nat → Nat) (t : zTS) (x : Int) (hTk : TXOK t) (hx1 : 0 ≤ x ∧ x < 1000) : zMet l yX3_characterAt wsX3_characterAt 2 42 0 0 D cI cB [.ref (a 0), .int (zI x)] [zText cI a t] (qX3_characterAt cI a t x) := by
  refine zMet.of (cd := cX3_characterAt) (maxL := 3) (ret := (some .int)) (by decide) rfl (Nat.le_of_ble_eq_true rfl) ?_
  intro p e s m args below meth c A ls hS hr hlk hnm hK hA hW hl
  have hS : CallFix p m c cX3_characterAt 3 s args wsX3_characterAt RX3 := hS
  have hx := hS.1
  have hb := hS.2.1
  have hown := hS.2.2.2.1
  have hts := hS.2.2.2.2
  have hl : lv_has ls 3 [(0, .ref (a 0)), (1, .int (zI x))] := hl
  have htl := hTk.1
  have qq_2 := sgn_rg hTk hx1.1
  refine lv_aload_n hx hb dX3_characterAt_0 rfl (lv_at hl 0 rfl) ?_
  refine lv_iload_n hx hb dX3_characterAt_1 rfl (lv_at hl 1 rfl) ?_
  refine z_callV (r := (RX3, TX3, 6)) (As := [.int (zI x)]) (rest := []) hS hK hA hW hl.1 [0] [] (kX3_signAt l D cI cB a t x (by omega) (by omega)) (cwV 1 hts gX3_characterAt_X3_signAt rfl rfl rfl (by decide +kernel) ⟨Nat.le_of_ble_eq_true rfl, Nat.le_of_ble_eq_true rfl⟩) (rfl : vwCl[3]? = some (RX3, TX3, 6)) (q0 := 0) rfl dX3_characterAt_2 rfl rfl rfl rfl rfl (Nat.le_of_ble_eq_true rfl) ⟨Nat.le_of_ble_eq_true rfl, Nat.le_of_ble_eq_true rfl⟩ (fun v9 w9 H locs hq hW => ?_)
  obtain ⟨rr_2, rfl, rfl, hh_2⟩ := hq
  subst rr_2
  have hW : zW D A s.heap [zText cI a t] H locs := hW
  refine W.eq (g2 := F0 m 5 ls [.int (zI (sgn t x))]) rfl ?_
  refine lv_istore_n (lv' := [(2, .int (zI (sgn t x))), (0, .ref (a 0)), (1, .int (zI x))]) hx hb dX3_characterAt_5 rfl hl (by decide) rfl (fun ls hl => ?_)
  refine lv_iload_n hx hb dX3_characterAt_6 rfl (lv_at hl 0 rfl) ?_
  refine lv_bipush (v := zI (65)) hx hb dX3_characterAt_7 (by decide +kernel) ?_
  refine z_icmp_lt (tgt := 25) hx hb dX3_characterAt_9 (by decide) (by omega) (fun cc_9 => ?_) (fun cc_9 => ?_)
  · refine lv_iconst (v := zI (-1)) hx hb dX3_characterAt_25 rfl ?_
    exact z_iret (v := (-1)) hx hb hr hlk hW dX3_characterAt_26 (by
        exact ⟨(-1), rfl, rfl, by unfold zch; first | rw [if_pos (by omega)] | rw [if_neg (by omega)]⟩)
  · refine lv_iload_n hx hb dX3_characterAt_12 rfl (lv_at hl 0 rfl) ?_
    refine lv_bipush (v := zI (69)) hx hb dX3_characterAt_13 (by decide +kernel) ?_
    refine z_icmp_ge (tgt := 25) hx hb dX3_characterAt_15 (by decide) (by omega) (fun cc_15 => ?_) (fun cc_15 => ?_)
    · refine lv_iconst (v := zI (-1)) hx hb dX3_characterAt_25 rfl ?_
      exact z_iret (v := (-1)) hx hb hr hlk hW dX3_characterAt_26 (by
          exact ⟨(-1), rfl, rfl, by unfold zch; first | rw [if_pos (by omega)] | rw [if_neg (by omega)]⟩)
    · refine lv_iload_n hx hb dX3_characterAt_18 rfl (lv_at hl 0 rfl) ?_
      refine lv_bipush (v := zI (65)) hx hb dX3_characterAt_19 (by decide +kernel) ?_
      refine z_isub hx hb dX3_characterAt_21 ?_
      refine lv_goto (tgt := 26) hx hb dX3_characterAt_22 (by decide) ?_
      exact z_iret (v := (sgn t x) - 65) hx hb hr hlk hW dX3_characterAt_26 (by
          exact ⟨(sgn t x) - 65, rfl, rfl, by unfold zch; first | rw [if_pos (by omega)] | rw [if_neg (by omega)]⟩)

abbrev qX3_kindAt (cI : ClassId) (a : Nat → Nat) (t : zTS) (x : Int) : Option Value → List va_W → Prop := fun vq wq => ∃ (r : Int), vq = some (.int (zI r)) ∧ wq = [zText cI a (t)] ∧ (r = zkd (sgn t x))
set_option maxHeartbeats 4000000 in
set_option maxRecDepth 100000 in
theorem kX3_kindAt (l : Launch) (D : va_G) (cI cB : ClassId) (a : Nat → Nat) (t : zTS) (x : Int) (hTk : TXOK t) (hx1 : 0 ≤ x ∧ x < 1000) : zMet l yX3_kindAt wsX3_kindAt 2 42 0 0 D cI cB [.ref (a 0), .int (zI x)] [zText cI a t] (qX3_kindAt cI a t x) := by
  refine zMet.of (cd := cX3_kindAt) (maxL := 2) (ret := (some .int)) (by decide) rfl (Nat.le_of_ble_eq_true rfl) ?_
  intro p e s m args below meth c A ls hS hr hlk hnm hK hA hW hl
  have hS : CallFix p m c cX3_kindAt 2 s args wsX3_kindAt RX3 := hS
  have hx := hS.1
  have hb := hS.2.1
  have hown := hS.2.2.2.1
  have hts := hS.2.2.2.2
  have hl : lv_has ls 2 [(0, .ref (a 0)), (1, .int (zI x))] := hl
  have htl := hTk.1
  have qq_2 := sgn_rg hTk hx1.1
  refine lv_aload_n hx hb dX3_kindAt_0 rfl (lv_at hl 0 rfl) ?_
  refine lv_iload_n hx hb dX3_kindAt_1 rfl (lv_at hl 1 rfl) ?_
  refine z_callV (r := (RX3, TX3, 6)) (As := [.int (zI x)]) (rest := []) hS hK hA hW hl.1 [0] [] (kX3_signAt l D cI cB a t x (by omega) (by omega)) (cwV 1 hts gX3_kindAt_X3_signAt rfl rfl rfl (by decide +kernel) ⟨Nat.le_of_ble_eq_true rfl, Nat.le_of_ble_eq_true rfl⟩) (rfl : vwCl[3]? = some (RX3, TX3, 6)) (q0 := 0) rfl dX3_kindAt_2 rfl rfl rfl rfl rfl (Nat.le_of_ble_eq_true rfl) ⟨Nat.le_of_ble_eq_true rfl, Nat.le_of_ble_eq_true rfl⟩ (fun v9 w9 H locs hq hW => ?_)
  obtain ⟨rr_2, rfl, rfl, hh_2⟩ := hq
  subst rr_2
  have hW : zW D A s.heap [zText cI a t] H locs := hW
  refine W.eq (g2 := F0 m 5 ls [.int (zI (sgn t x))]) rfl ?_
  rcases (show sgn t x = 43 ∨ sgn t x = 44 ∨ sgn t x = 45 ∨ sgn t x = 46 ∨ sgn t x = 47 ∨ sgn t x = 48 ∨ sgn t x = 49 ∨ sgn t x = 50 ∨ sgn t x = 51 ∨ sgn t x = 52 ∨ sgn t x = 53 ∨ sgn t x = 54 ∨ sgn t x = 55 ∨ sgn t x = 56 ∨ sgn t x = 57 ∨ sgn t x = 58 ∨ sgn t x = 59 ∨ sgn t x = 60 ∨ sgn t x = 61 ∨ sgn t x = 62 ∨ ((sgn t x) < 43 ∨ 62 < (sgn t x)) by omega) with ww_5 | ww_5 | ww_5 | ww_5 | ww_5 | ww_5 | ww_5 | ww_5 | ww_5 | ww_5 | ww_5 | ww_5 | ww_5 | ww_5 | ww_5 | ww_5 | ww_5 | ww_5 | ww_5 | ww_5 | ww_5
  · refine z_tableIn (k := 43) (off := 95) (tgt := 100) hx hb dX3_kindAt_5 (ww_5) (by decide) (by decide) (by decide +kernel) (by decide) ?_
    refine lv_iconst (v := zI (0)) hx hb dX3_kindAt_100 rfl ?_
    exact z_iret (v := 0) hx hb hr hlk hW dX3_kindAt_101 (by
        exact ⟨0, rfl, rfl, by first | (rw [ww_5]; rfl) | exact (zkd_out ww_5).symm⟩)
  · refine z_tableIn (k := 44) (off := 107) (tgt := 112) hx hb dX3_kindAt_5 (ww_5) (by decide) (by decide) (by decide +kernel) (by decide) ?_
    refine lv_iconst (v := zI (-1)) hx hb dX3_kindAt_112 rfl ?_
    exact z_iret (v := (-1)) hx hb hr hlk hW dX3_kindAt_113 (by
        exact ⟨(-1), rfl, rfl, by first | (rw [ww_5]; rfl) | exact (zkd_out ww_5).symm⟩)
  · refine z_tableIn (k := 45) (off := 97) (tgt := 102) hx hb dX3_kindAt_5 (ww_5) (by decide) (by decide) (by decide +kernel) (by decide) ?_
    refine lv_iconst (v := zI (1)) hx hb dX3_kindAt_102 rfl ?_
    exact z_iret (v := 1) hx hb hr hlk hW dX3_kindAt_103 (by
        exact ⟨1, rfl, rfl, by first | (rw [ww_5]; rfl) | exact (zkd_out ww_5).symm⟩)
  · refine z_tableIn (k := 46) (off := 105) (tgt := 110) hx hb dX3_kindAt_5 (ww_5) (by decide) (by decide) (by decide +kernel) (by decide) ?_
    refine lv_iconst (v := zI (5)) hx hb dX3_kindAt_110 rfl ?_
    exact z_iret (v := 5) hx hb hr hlk hW dX3_kindAt_111 (by
        exact ⟨5, rfl, rfl, by first | (rw [ww_5]; rfl) | exact (zkd_out ww_5).symm⟩)
  · refine z_tableIn (k := 47) (off := 107) (tgt := 112) hx hb dX3_kindAt_5 (ww_5) (by decide) (by decide) (by decide +kernel) (by decide) ?_
    refine lv_iconst (v := zI (-1)) hx hb dX3_kindAt_112 rfl ?_
    exact z_iret (v := (-1)) hx hb hr hlk hW dX3_kindAt_113 (by
        exact ⟨(-1), rfl, rfl, by first | (rw [ww_5]; rfl) | exact (zkd_out ww_5).symm⟩)
  · refine z_tableIn (k := 48) (off := 107) (tgt := 112) hx hb dX3_kindAt_5 (ww_5) (by decide) (by decide) (by decide +kernel) (by decide) ?_
    refine lv_iconst (v := zI (-1)) hx hb dX3_kindAt_112 rfl ?_
    exact z_iret (v := (-1)) hx hb hr hlk hW dX3_kindAt_113 (by
        exact ⟨(-1), rfl, rfl, by first | (rw [ww_5]; rfl) | exact (zkd_out ww_5).symm⟩)
  · refine z_tableIn (k := 49) (off := 107) (tgt := 112) hx hb dX3_kindAt_5 (ww_5) (by decide) (by decide) (by decide +kernel) (by decide) ?_
    refine lv_iconst (v := zI (-1)) hx hb dX3_kindAt_112 rfl ?_
    exact z_iret (v := (-1)) hx hb hr hlk hW dX3_kindAt_113 (by
        exact ⟨(-1), rfl, rfl, by first | (rw [ww_5]; rfl) | exact (zkd_out ww_5).symm⟩)
  · refine z_tableIn (k := 50) (off := 107) (tgt := 112) hx hb dX3_kindAt_5 (ww_5) (by decide) (by decide) (by decide +kernel) (by decide) ?_
    refine lv_iconst (v := zI (-1)) hx hb dX3_kindAt_112 rfl ?_
    exact z_iret (v := (-1)) hx hb hr hlk hW dX3_kindAt_113 (by
        exact ⟨(-1), rfl, rfl, by first | (rw [ww_5]; rfl) | exact (zkd_out ww_5).symm⟩)
  · refine z_tableIn (k := 51) (off := 107) (tgt := 112) hx hb dX3_kindAt_5 (ww_5) (by decide) (by decide) (by decide +kernel) (by decide) ?_
    refine lv_iconst (v := zI (-1)) hx hb dX3_kindAt_112 rfl ?_
    exact z_iret (v := (-1)) hx hb hr hlk hW dX3_kindAt_113 (by
        exact ⟨(-1), rfl, rfl, by first | (rw [ww_5]; rfl) | exact (zkd_out ww_5).symm⟩)
  · refine z_tableIn (k := 52) (off := 107) (tgt := 112) hx hb dX3_kindAt_5 (ww_5) (by decide) (by decide) (by decide +kernel) (by decide) ?_
    refine lv_iconst (v := zI (-1)) hx hb dX3_kindAt_112 rfl ?_
    exact z_iret (v := (-1)) hx hb hr hlk hW dX3_kindAt_113 (by
        exact ⟨(-1), rfl, rfl, by first | (rw [ww_5]; rfl) | exact (zkd_out ww_5).symm⟩)
  · refine z_tableIn (k := 53) (off := 107) (tgt := 112) hx hb dX3_kindAt_5 (ww_5) (by decide) (by decide) (by decide +kernel) (by decide) ?_
    refine lv_iconst (v := zI (-1)) hx hb dX3_kindAt_112 rfl ?_
    exact z_iret (v := (-1)) hx hb hr hlk hW dX3_kindAt_113 (by
        exact ⟨(-1), rfl, rfl, by first | (rw [ww_5]; rfl) | exact (zkd_out ww_5).symm⟩)
  · refine z_tableIn (k := 54) (off := 107) (tgt := 112) hx hb dX3_kindAt_5 (ww_5) (by decide) (by decide) (by decide +kernel) (by decide) ?_
    refine lv_iconst (v := zI (-1)) hx hb dX3_kindAt_112 rfl ?_
    exact z_iret (v := (-1)) hx hb hr hlk hW dX3_kindAt_113 (by
        exact ⟨(-1), rfl, rfl, by first | (rw [ww_5]; rfl) | exact (zkd_out ww_5).symm⟩)
  · refine z_tableIn (k := 55) (off := 107) (tgt := 112) hx hb dX3_kindAt_5 (ww_5) (by decide) (by decide) (by decide +kernel) (by decide) ?_
    refine lv_iconst (v := zI (-1)) hx hb dX3_kindAt_112 rfl ?_
    exact z_iret (v := (-1)) hx hb hr hlk hW dX3_kindAt_113 (by
        exact ⟨(-1), rfl, rfl, by first | (rw [ww_5]; rfl) | exact (zkd_out ww_5).symm⟩)
  · refine z_tableIn (k := 56) (off := 107) (tgt := 112) hx hb dX3_kindAt_5 (ww_5) (by decide) (by decide) (by decide +kernel) (by decide) ?_
    refine lv_iconst (v := zI (-1)) hx hb dX3_kindAt_112 rfl ?_
    exact z_iret (v := (-1)) hx hb hr hlk hW dX3_kindAt_113 (by
        exact ⟨(-1), rfl, rfl, by first | (rw [ww_5]; rfl) | exact (zkd_out ww_5).symm⟩)
  · refine z_tableIn (k := 57) (off := 107) (tgt := 112) hx hb dX3_kindAt_5 (ww_5) (by decide) (by decide) (by decide +kernel) (by decide) ?_
    refine lv_iconst (v := zI (-1)) hx hb dX3_kindAt_112 rfl ?_
    exact z_iret (v := (-1)) hx hb hr hlk hW dX3_kindAt_113 (by
        exact ⟨(-1), rfl, rfl, by first | (rw [ww_5]; rfl) | exact (zkd_out ww_5).symm⟩)
  · refine z_tableIn (k := 58) (off := 107) (tgt := 112) hx hb dX3_kindAt_5 (ww_5) (by decide) (by decide) (by decide +kernel) (by decide) ?_
    refine lv_iconst (v := zI (-1)) hx hb dX3_kindAt_112 rfl ?_
    exact z_iret (v := (-1)) hx hb hr hlk hW dX3_kindAt_113 (by
        exact ⟨(-1), rfl, rfl, by first | (rw [ww_5]; rfl) | exact (zkd_out ww_5).symm⟩)
  · refine z_tableIn (k := 59) (off := 107) (tgt := 112) hx hb dX3_kindAt_5 (ww_5) (by decide) (by decide) (by decide +kernel) (by decide) ?_
    refine lv_iconst (v := zI (-1)) hx hb dX3_kindAt_112 rfl ?_
    exact z_iret (v := (-1)) hx hb hr hlk hW dX3_kindAt_113 (by
        exact ⟨(-1), rfl, rfl, by first | (rw [ww_5]; rfl) | exact (zkd_out ww_5).symm⟩)
  · refine z_tableIn (k := 60) (off := 103) (tgt := 108) hx hb dX3_kindAt_5 (ww_5) (by decide) (by decide) (by decide +kernel) (by decide) ?_
    refine lv_iconst (v := zI (4)) hx hb dX3_kindAt_108 rfl ?_
    exact z_iret (v := 4) hx hb hr hlk hW dX3_kindAt_109 (by
        exact ⟨4, rfl, rfl, by first | (rw [ww_5]; rfl) | exact (zkd_out ww_5).symm⟩)
  · refine z_tableIn (k := 61) (off := 99) (tgt := 104) hx hb dX3_kindAt_5 (ww_5) (by decide) (by decide) (by decide +kernel) (by decide) ?_
    refine lv_iconst (v := zI (2)) hx hb dX3_kindAt_104 rfl ?_
    exact z_iret (v := 2) hx hb hr hlk hW dX3_kindAt_105 (by
        exact ⟨2, rfl, rfl, by first | (rw [ww_5]; rfl) | exact (zkd_out ww_5).symm⟩)
  · refine z_tableIn (k := 62) (off := 101) (tgt := 106) hx hb dX3_kindAt_5 (ww_5) (by decide) (by decide) (by decide +kernel) (by decide) ?_
    refine lv_iconst (v := zI (3)) hx hb dX3_kindAt_106 rfl ?_
    exact z_iret (v := 3) hx hb hr hlk hW dX3_kindAt_107 (by
        exact ⟨3, rfl, rfl, by first | (rw [ww_5]; rfl) | exact (zkd_out ww_5).symm⟩)
  · refine z_tableOut (tgt := 112) hx hb dX3_kindAt_5 (by omega) ww_5 (by decide) ?_
    refine lv_iconst (v := zI (-1)) hx hb dX3_kindAt_112 rfl ?_
    exact z_iret (v := (-1)) hx hb hr hlk hW dX3_kindAt_113 (by
        exact ⟨(-1), rfl, rfl, by first | (rw [ww_5]; rfl) | exact (zkd_out ww_5).symm⟩)

abbrev qX3_append (cI : ClassId) (a : Nat → Nat) (t : zTS) (x : Int) : Option Value → List va_W → Prop := fun vq wq => vq = none ∧ wq = [zText cI a (tx_len_ (tx_sig_ t (zU (tx_sig t) (tx_len t) x)) (tx_len t + 1))] ∧ (True)
set_option maxRecDepth 20000 in
theorem iX3_append_X3 : ∀ w ∈ u_ws RX3 TX3 6, w ∈ wsX3_append := by decide +kernel
set_option maxRecDepth 20000 in
theorem mX3_append_1 : (.fieldLink RX3 9 "StoryPanels$PanelText" "signs" "[I" : Cond) ∈ wsX3_append := by decide +kernel
set_option maxRecDepth 20000 in
theorem mX3_append_2 : (.fieldLink RX3 15 "StoryPanels$PanelText" "length" "I" : Cond) ∈ wsX3_append := by decide +kernel
set_option maxRecDepth 20000 in
theorem mX3_append_3 : (.initialized RX4 : Cond) ∈ wsX3_append := by decide +kernel
set_option maxRecDepth 20000 in
theorem mX3_append_4 : (.static yX4_setCell : Cond) ∈ wsX3_append := by decide +kernel
set_option maxHeartbeats 4000000 in
set_option maxRecDepth 100000 in
theorem kX3_append (l : Launch) (D : va_G) (cI cB : ClassId) (a : Nat → Nat) (t : zTS) (x : Int) (hTk : TXOK t) (hx2 : tx_len t < 60) : zMet l yX3_append wsX3_append 1 22 0 0 D cI cB [.ref (a 0), .int (zI x)] [zText cI a t] (qX3_append cI a t x) := by
  refine zMet.of (cd := cX3_append) (maxL := 2) (ret := none) (by decide) rfl (Nat.le_of_ble_eq_true rfl) ?_
  intro p e s m args below meth c A ls hS hr hlk hnm hK hA hW hl
  have hS : CallFix p m c cX3_append 2 s args wsX3_append RX3 := hS
  have hx := hS.1
  have hb := hS.2.1
  have hown := hS.2.2.2.1
  have hts := hS.2.2.2.2
  have hl : lv_has ls 2 [(0, .ref (a 0)), (1, .int (zI x))] := hl
  have htl := hTk.1
  refine lv_aload_n hx hb dX3_append_0 rfl (lv_at hl 0 rfl) ?_
  refine va_get (D := D) (ci := 3) (v := .ref (a 1)) (C := RX3) (T := TX3) (N := 6) hx hb hts iX3_append_X3 hown hK.1 hW.1 0 rfl rfl 0 (by decide) (hts _ mX3_append_1) (fun _ h9 => h9) rfl dX3_append_1 ?_
  refine lv_aload_n hx hb dX3_append_4 rfl (lv_at hl 0 rfl) ?_
  refine va_get (D := D) (ci := 3) (v := .int (zI (tx_len t))) (C := RX3) (T := TX3) (N := 6) hx hb hts iX3_append_X3 hown hK.1 hW.1 0 rfl rfl 1 (by decide) (hts _ mX3_append_2) (fun _ h9 => h9) rfl dX3_append_5 ?_
  refine lv_iload_n hx hb dX3_append_8 rfl (lv_at hl 1 rfl) ?_
  refine z_setCell (n := 60) (g := tx_sig t) (i := tx_len t) (v := x) (rest := []) (bs1 := [zText cI a (tx_sig_ t (zU (tx_sig t) (tx_len t) x))]) hS hK hA hW hl.1 1 rfl (gX3_append_X4_setCell_n31) nm_17 (mX3_append_3) (mX3_append_4) ⟨Nat.le_of_ble_eq_true rfl, Nat.le_of_ble_eq_true rfl⟩ dX3_append_9 (by omega) rfl (Nat.le_of_ble_eq_true rfl) ⟨Nat.le_of_ble_eq_true rfl, Nat.le_of_ble_eq_true rfl⟩ (fun H locs hW => ?_)
  refine lv_aload_n hx hb dX3_append_12 rfl (lv_at hl 0 rfl) ?_
  refine lv_dup hx hb dX3_append_13 rfl ?_
  refine va_get (D := D) (ci := 3) (v := .int (zI (tx_len t))) (C := RX3) (T := TX3) (N := 6) hx hb hts iX3_append_X3 hown hK.1 hW.1 0 rfl rfl 1 (by decide) (hts _ mX3_append_2) (fun _ h9 => h9) rfl dX3_append_14 ?_
  refine lv_iconst (v := zI (1)) hx hb dX3_append_17 rfl ?_
  refine z_iadd hx hb dX3_append_18 ?_
  refine va_put (D := D) (ci := 3) (v := .int (zI ((tx_len t) + 1))) (ty := .int) (C := RX3) (T := TX3) (N := 6) hx hb hts iX3_append_X3 tyX3 tyX3_ok nmX3 hown hK.1 hW.1 hW.2.1 hW.2.2 0 rfl rfl 1 (by decide) (hts _ mX3_append_2) (fun _ h9 => h9) rfl (by decide +kernel) rfl rfl (Nat.le_of_ble_eq_true rfl) dX3_append_19 (fun H locs h1 h2 h3 => ?_)
  have hW : zW D A s.heap [zText cI a (tx_len_ (tx_sig_ t (zU (tx_sig t) (tx_len t) x)) ((tx_len t) + 1))] H locs := ⟨h1, h2, h3⟩
  exact z_vret hx hb hr hlk hW dX3_append_22 (by
      exact ⟨rfl, rfl, by trivial⟩)

abbrev qX3_findFaultInEvents (cI : ClassId) (a : Nat → Nat) (t : zTS) (x : Int) : Option Value → List va_W → Prop := fun vq wq => ∃ (r : Int) (tz : zTS), vq = some (.int (zI r)) ∧ wq = [zText cI a (tz)] ∧ (r = (prsE (sgn t) (tx_len t) 6 x []).1 ∧ (tx_sig tz = tx_sig t ∧ tx_len tz = tx_len t ∧ tx_scn tz = tx_scn t ∧ tx_dur tz = tx_dur t) ∧ TXOK tz ∧ tx_evs tz = ((prsE (sgn t) (tx_len t) 6 x []).2.length : Int) ∧ codsOK (tx_cod tz) (prsE (sgn t) (tx_len t) 6 x []).2)
set_option maxRecDepth 20000 in
theorem iX3_findFaultInEvents_X3 : ∀ w ∈ u_ws RX3 TX3 6, w ∈ wsX3_findFaultInEvents := by decide +kernel
set_option maxRecDepth 20000 in
theorem mX3_findFaultInEvents_1 : (.fieldLink RX3 25 "StoryPanels$PanelText" "events" "I" : Cond) ∈ wsX3_findFaultInEvents := by decide +kernel
set_option maxRecDepth 20000 in
theorem mX3_findFaultInEvents_2 : (.fieldLink RX3 15 "StoryPanels$PanelText" "length" "I" : Cond) ∈ wsX3_findFaultInEvents := by decide +kernel
set_option maxRecDepth 20000 in
theorem mX3_findFaultInEvents_3 : (.initialized RX4 : Cond) ∈ wsX3_findFaultInEvents := by decide +kernel
set_option maxRecDepth 20000 in
theorem mX3_findFaultInEvents_4 : (.static yX4_takesProp : Cond) ∈ wsX3_findFaultInEvents := by decide +kernel
set_option maxRecDepth 20000 in
theorem mX3_findFaultInEvents_5 : (.fieldLink RX3 28 "StoryPanels$PanelText" "eventCodes" "[I" : Cond) ∈ wsX3_findFaultInEvents := by decide +kernel
set_option maxRecDepth 20000 in
theorem mX3_findFaultInEvents_6 : (.static yX4_codeOf : Cond) ∈ wsX3_findFaultInEvents := by decide +kernel
set_option maxRecDepth 20000 in
theorem mX3_findFaultInEvents_7 : (.static yX4_setCell : Cond) ∈ wsX3_findFaultInEvents := by decide +kernel
set_option maxHeartbeats 4000000 in
set_option maxRecDepth 100000 in
theorem kX3_findFaultInEvents (l : Launch) (D : va_G) (cI cB : ClassId) (a : Nat → Nat) (t : zTS) (x : Int) (hTk : TXOK t) (hx1 : 0 ≤ x ∧ x ≤ 60) : zMet l yX3_findFaultInEvents wsX3_findFaultInEvents 3 64 0 0 D cI cB [.ref (a 0), .int (zI x)] [zText cI a t] (qX3_findFaultInEvents cI a t x) := by
  refine zMet.of (cd := cX3_findFaultInEvents) (maxL := 7) (ret := (some .int)) (by decide) rfl (Nat.le_of_ble_eq_true rfl) ?_
  intro p e s m args below meth c A ls hS hr hlk hnm hK hA hW hl
  have hS : CallFix p m c cX3_findFaultInEvents 7 s args wsX3_findFaultInEvents RX3 := hS
  have hx := hS.1
  have hb := hS.2.1
  have hown := hS.2.2.2.1
  have hts := hS.2.2.2.2
  have hl : lv_has ls 7 [(0, .ref (a 0)), (1, .int (zI x))] := hl
  have htl := hTk.1
  refine lv_iload_n hx hb dX3_findFaultInEvents_0 rfl (lv_at hl 1 rfl) ?_
  refine lv_istore_n (lv' := [(2, .int (zI x)), (0, .ref (a 0)), (1, .int (zI x))]) hx hb dX3_findFaultInEvents_1 rfl hl (by decide) rfl (fun ls hl => ?_)
  refine lv_aload_n hx hb dX3_findFaultInEvents_2 rfl (lv_at hl 1 rfl) ?_
  refine lv_iconst (v := zI (0)) hx hb dX3_findFaultInEvents_3 rfl ?_
  refine va_put (D := D) (ci := 3) (v := .int (zI 0)) (ty := .int) (C := RX3) (T := TX3) (N := 6) hx hb hts iX3_findFaultInEvents_X3 tyX3 tyX3_ok nmX3 hown hK.1 hW.1 hW.2.1 hW.2.2 0 rfl rfl 4 (by decide) (hts _ mX3_findFaultInEvents_1) (fun _ h9 => h9) rfl (by decide +kernel) rfl rfl (Nat.le_of_ble_eq_true rfl) dX3_findFaultInEvents_4 (fun H locs h1 h2 h3 => ?_)
  have hW : zW D A s.heap [zText cI a (tx_evs_ t (0))] H locs := ⟨h1, h2, h3⟩
  refine lv_iconst (v := zI (0)) hx hb dX3_findFaultInEvents_7 rfl ?_
  refine lv_istore_n (lv' := [(3, .int (zI 0)), (2, .int (zI x)), (0, .ref (a 0)), (1, .int (zI x))]) hx hb dX3_findFaultInEvents_8 rfl hl (by decide) rfl (fun ls hl => ?_)
  have L9 : ∀ (fu : Nat) (nx : Int) (ke : Int) (t2 : zTS) (acc : List zEv), (0 ≤ ke ∧ ke ≤ 6) → (x ≤ nx ∧ nx ≤ x + 4 * ke) → ((acc.length : Int) = ke) → (tx_evs t2 = ke) → (tx_sig t2 = tx_sig t ∧ tx_len t2 = tx_len t ∧ tx_scn t2 = tx_scn t ∧ tx_dur t2 = tx_dur t) → (TXOK t2) → (codsOK (tx_cod t2) acc) → (prsE (sgn t) (tx_len t) (6 - ke).toNat nx acc = prsE (sgn t) (tx_len t) 6 x []) → (6 - ke) < (fu : Int) → ∀ (H : Heap) (locs : List Loc), zW D A s.heap [zText cI a t2] H locs → ∀ (ls : Array Slot), lv_has ls 7 [(0, .ref (a 0)), (1, .int (zI x)), (2, .int (zI nx)), (3, .int (zI ke))] → W p l e { frames := 3, cells := 0, slots := 0, locals := 64 } s m args below meth c H locs 0 0 (MQ below (zQ A D (qX3_findFaultInEvents cI a t x)) args s 0 0 A) (F0 m 9 ls []) := by
    intro fu
    induction fu with
    | zero => intro nx ke t2 acc hke hnx hac hte hSm hTk2 hCo hEq hm; exact absurd hm (by omega)
    | succ fu ih9 =>
      intro nx ke t2 acc hke hnx hac hte hSm hTk2 hCo hEq hm H locs hW ls hl
      have hsg1 := sgn_rg hTk (i := nx) (by omega)
      have hsg2 : ∀ w, sgn t2 w = sgn t w := sgn_congr hSm.1 hSm.2.1
      have hzc := zch_rg (sgn t (nx + 1))
      have hzk := zkd_rg (sgn t (nx + 2))
      have hzd := zdg_rg (sgn t (nx + 3))
      have hln := hSm.2.1
      refine lv_iload_n hx hb dX3_findFaultInEvents_9 rfl (lv_at hl 3 rfl) ?_
      refine lv_bipush (v := zI (6)) hx hb dX3_findFaultInEvents_10 (by decide +kernel) ?_
      refine z_icmp_ge (tgt := 153) hx hb dX3_findFaultInEvents_12 (by decide) (by omega) (fun cc_12 => ?_) (fun cc_12 => ?_)
      · refine lv_iload_n hx hb dX3_findFaultInEvents_153 rfl (lv_at hl 2 rfl) ?_
        refine lv_aload_n hx hb dX3_findFaultInEvents_154 rfl (lv_at hl 0 rfl) ?_
        refine va_get (D := D) (ci := 3) (v := .int (zI (tx_len t2))) (C := RX3) (T := TX3) (N := 6) hx hb hts iX3_findFaultInEvents_X3 hown hK.1 hW.1 0 rfl rfl 1 (by decide) (hts _ mX3_findFaultInEvents_2) (fun _ h9 => h9) rfl dX3_findFaultInEvents_155 ?_
        refine z_icmp_ge (tgt := 165) hx hb dX3_findFaultInEvents_158 (by decide) (by omega) (fun cc_158 => ?_) (fun cc_158 => ?_)
        · refine lv_iconst (v := zI (-1)) hx hb dX3_findFaultInEvents_165 rfl ?_
          exact z_iret (v := (-1)) hx hb hr hlk hW dX3_findFaultInEvents_166 (by
              exact ⟨(-1), t2, rfl, rfl, by first | (rw [prsE_end (s := sgn t) (n := tx_len t) (i := nx) (by omega)] at hEq; rw [← hEq]; exact ⟨rfl, hSm, hTk2, hte.trans hac.symm, hCo⟩) | (rw [show ke = 6 by omega] at hEq; rw [show (6 - (6 : Int)).toNat = 0 by rfl, prsE_0 (s := sgn t) (n := tx_len t) (i := nx) (by omega)] at hEq; rw [← hEq]; exact ⟨rfl, hSm, hTk2, hte.trans hac.symm, hCo⟩)⟩)
        · refine lv_iload_n hx hb dX3_findFaultInEvents_161 rfl (lv_at hl 2 rfl) ?_
          refine lv_goto (tgt := 166) hx hb dX3_findFaultInEvents_162 (by decide) ?_
          exact z_iret (v := nx) hx hb hr hlk hW dX3_findFaultInEvents_166 (by
              exact ⟨nx, t2, rfl, rfl, by first | (rw [prsE_end (s := sgn t) (n := tx_len t) (i := nx) (by omega)] at hEq; rw [← hEq]; exact ⟨rfl, hSm, hTk2, hte.trans hac.symm, hCo⟩) | (rw [show ke = 6 by omega] at hEq; rw [show (6 - (6 : Int)).toNat = 0 by rfl, prsE_0 (s := sgn t) (n := tx_len t) (i := nx) (by omega)] at hEq; rw [← hEq]; exact ⟨rfl, hSm, hTk2, hte.trans hac.symm, hCo⟩)⟩)
      · refine lv_iload_n hx hb dX3_findFaultInEvents_15 rfl (lv_at hl 2 rfl) ?_
        refine lv_aload_n hx hb dX3_findFaultInEvents_16 rfl (lv_at hl 0 rfl) ?_
        refine va_get (D := D) (ci := 3) (v := .int (zI (tx_len t2))) (C := RX3) (T := TX3) (N := 6) hx hb hts iX3_findFaultInEvents_X3 hown hK.1 hW.1 0 rfl rfl 1 (by decide) (hts _ mX3_findFaultInEvents_2) (fun _ h9 => h9) rfl dX3_findFaultInEvents_17 ?_
        refine z_icmp_ge (tgt := 153) hx hb dX3_findFaultInEvents_20 (by decide) (by omega) (fun cc_20 => ?_) (fun cc_20 => ?_)
        · refine lv_iload_n hx hb dX3_findFaultInEvents_153 rfl (lv_at hl 2 rfl) ?_
          refine lv_aload_n hx hb dX3_findFaultInEvents_154 rfl (lv_at hl 0 rfl) ?_
          refine va_get (D := D) (ci := 3) (v := .int (zI (tx_len t2))) (C := RX3) (T := TX3) (N := 6) hx hb hts iX3_findFaultInEvents_X3 hown hK.1 hW.1 0 rfl rfl 1 (by decide) (hts _ mX3_findFaultInEvents_2) (fun _ h9 => h9) rfl dX3_findFaultInEvents_155 ?_
          refine z_icmp_ge (tgt := 165) hx hb dX3_findFaultInEvents_158 (by decide) (by omega) (fun cc_158 => ?_) (fun cc_158 => ?_)
          · refine lv_iconst (v := zI (-1)) hx hb dX3_findFaultInEvents_165 rfl ?_
            exact z_iret (v := (-1)) hx hb hr hlk hW dX3_findFaultInEvents_166 (by
                exact ⟨(-1), t2, rfl, rfl, by first | (rw [prsE_end (s := sgn t) (n := tx_len t) (i := nx) (by omega)] at hEq; rw [← hEq]; exact ⟨rfl, hSm, hTk2, hte.trans hac.symm, hCo⟩) | (rw [show ke = 6 by omega] at hEq; rw [show (6 - (6 : Int)).toNat = 0 by rfl, prsE_0 (s := sgn t) (n := tx_len t) (i := nx) (by omega)] at hEq; rw [← hEq]; exact ⟨rfl, hSm, hTk2, hte.trans hac.symm, hCo⟩)⟩)
          · refine lv_iload_n hx hb dX3_findFaultInEvents_161 rfl (lv_at hl 2 rfl) ?_
            refine lv_goto (tgt := 166) hx hb dX3_findFaultInEvents_162 (by decide) ?_
            exact z_iret (v := nx) hx hb hr hlk hW dX3_findFaultInEvents_166 (by
                exact ⟨nx, t2, rfl, rfl, by first | (rw [prsE_end (s := sgn t) (n := tx_len t) (i := nx) (by omega)] at hEq; rw [← hEq]; exact ⟨rfl, hSm, hTk2, hte.trans hac.symm, hCo⟩) | (rw [show ke = 6 by omega] at hEq; rw [show (6 - (6 : Int)).toNat = 0 by rfl, prsE_0 (s := sgn t) (n := tx_len t) (i := nx) (by omega)] at hEq; rw [← hEq]; exact ⟨rfl, hSm, hTk2, hte.trans hac.symm, hCo⟩)⟩)
        · have hfu : (6 - ke).toNat = (6 - (ke + 1)).toNat + 1 := by omega
          rw [hfu] at hEq
          refine lv_aload_n hx hb dX3_findFaultInEvents_23 rfl (lv_at hl 0 rfl) ?_
          refine lv_iload_n hx hb dX3_findFaultInEvents_24 rfl (lv_at hl 2 rfl) ?_
          refine z_callV (r := (RX3, TX3, 6)) (As := [.int (zI nx)]) (rest := []) hS hK hA hW hl.1 [0] [] (kX3_signAt l D cI cB a t2 nx hTk2 (by omega)) (cwV 1 hts gX3_findFaultInEvents_X3_signAt rfl rfl rfl (by decide +kernel) ⟨Nat.le_of_ble_eq_true rfl, Nat.le_of_ble_eq_true rfl⟩) (rfl : vwCl[3]? = some (RX3, TX3, 6)) (q0 := 0) rfl dX3_findFaultInEvents_25 rfl rfl rfl rfl rfl (Nat.le_of_ble_eq_true rfl) ⟨Nat.le_of_ble_eq_true rfl, Nat.le_of_ble_eq_true rfl⟩ (fun v9 w9 H locs hq hW => ?_)
          obtain ⟨rr_25, rfl, rfl, hh_25⟩ := hq
          subst rr_25
          have hW : zW D A s.heap [zText cI a t2] H locs := hW
          refine W.eq (g2 := F0 m 28 ls [.int (zI (sgn t2 nx))]) rfl ?_
          rw [show (sgn t2 nx) = (sgn t nx) by exact hsg2 _]
          refine lv_bipush (v := zI (44)) hx hb dX3_findFaultInEvents_28 (by decide +kernel) ?_
          refine z_icmp_eq (tgt := 35) hx hb dX3_findFaultInEvents_30 (by decide) (by omega) (fun cc_30 => ?_) (fun cc_30 => ?_)
          · refine lv_aload_n hx hb dX3_findFaultInEvents_35 rfl (lv_at hl 0 rfl) ?_
            refine lv_iload_n hx hb dX3_findFaultInEvents_36 rfl (lv_at hl 2 rfl) ?_
            refine lv_iconst (v := zI (1)) hx hb dX3_findFaultInEvents_37 rfl ?_
            refine z_iadd hx hb dX3_findFaultInEvents_38 ?_
            refine z_callV (r := (RX3, TX3, 6)) (As := [.int (zI (nx + 1))]) (rest := []) hS hK hA hW hl.1 [0] [] (kX3_characterAt l D cI cB a t2 (nx + 1) hTk2 (by omega)) (cwV 1 hts gX3_findFaultInEvents_X3_characterAt rfl rfl rfl (by decide +kernel) ⟨Nat.le_of_ble_eq_true rfl, Nat.le_of_ble_eq_true rfl⟩) (rfl : vwCl[3]? = some (RX3, TX3, 6)) (q0 := 0) rfl dX3_findFaultInEvents_39 rfl rfl rfl rfl rfl (Nat.le_of_ble_eq_true rfl) ⟨Nat.le_of_ble_eq_true rfl, Nat.le_of_ble_eq_true rfl⟩ (fun v9 w9 H locs hq hW => ?_)
            obtain ⟨rr_39, rfl, rfl, hh_39⟩ := hq
            subst rr_39
            have hW : zW D A s.heap [zText cI a t2] H locs := hW
            refine W.eq (g2 := F0 m 42 ls [.int (zI (zch (sgn t2 (nx + 1))))]) rfl ?_
            rw [show (zch (sgn t2 (nx + 1))) = (zch (sgn t (nx + 1))) by rw [hsg2]]
            refine lv_istore (lv' := [(4, .int (zI (zch (sgn t (nx + 1))))), (0, .ref (a 0)), (1, .int (zI x)), (2, .int (zI nx)), (3, .int (zI ke))]) hx hb dX3_findFaultInEvents_42 hl (by decide) rfl (fun ls hl => ?_)
            refine lv_iload hx hb dX3_findFaultInEvents_44 (lv_at hl 0 rfl) ?_
            refine lv_iconst (v := zI (-1)) hx hb dX3_findFaultInEvents_46 rfl ?_
            refine z_icmp_ne (tgt := 54) hx hb dX3_findFaultInEvents_47 (by decide) (by omega) (fun cc_47 => ?_) (fun cc_47 => ?_)
            · refine lv_aload_n hx hb dX3_findFaultInEvents_54 rfl (lv_at hl 1 rfl) ?_
              refine lv_iload_n hx hb dX3_findFaultInEvents_55 rfl (lv_at hl 3 rfl) ?_
              refine lv_iconst (v := zI (2)) hx hb dX3_findFaultInEvents_56 rfl ?_
              refine z_iadd hx hb dX3_findFaultInEvents_57 ?_
              refine z_callV (r := (RX3, TX3, 6)) (As := [.int (zI (nx + 2))]) (rest := []) hS hK hA hW hl.1 [0] [] (kX3_kindAt l D cI cB a t2 (nx + 2) hTk2 (by omega)) (cwV 1 hts gX3_findFaultInEvents_X3_kindAt rfl rfl rfl (by decide +kernel) ⟨Nat.le_of_ble_eq_true rfl, Nat.le_of_ble_eq_true rfl⟩) (rfl : vwCl[3]? = some (RX3, TX3, 6)) (q0 := 0) rfl dX3_findFaultInEvents_58 rfl rfl rfl rfl rfl (Nat.le_of_ble_eq_true rfl) ⟨Nat.le_of_ble_eq_true rfl, Nat.le_of_ble_eq_true rfl⟩ (fun v9 w9 H locs hq hW => ?_)
              obtain ⟨rr_58, rfl, rfl, hh_58⟩ := hq
              subst rr_58
              have hW : zW D A s.heap [zText cI a t2] H locs := hW
              refine W.eq (g2 := F0 m 61 ls [.int (zI (zkd (sgn t2 (nx + 2))))]) rfl ?_
              rw [show (zkd (sgn t2 (nx + 2))) = (zkd (sgn t (nx + 2))) by rw [hsg2]]
              refine lv_istore (lv' := [(5, .int (zI (zkd (sgn t (nx + 2))))), (4, .int (zI (zch (sgn t (nx + 1))))), (0, .ref (a 0)), (1, .int (zI x)), (2, .int (zI nx)), (3, .int (zI ke))]) hx hb dX3_findFaultInEvents_61 hl (by decide) rfl (fun ls hl => ?_)
              refine lv_iload hx hb dX3_findFaultInEvents_63 (lv_at hl 0 rfl) ?_
              refine lv_iconst (v := zI (-1)) hx hb dX3_findFaultInEvents_65 rfl ?_
              refine z_icmp_ne (tgt := 73) hx hb dX3_findFaultInEvents_66 (by decide) (by omega) (fun cc_66 => ?_) (fun cc_66 => ?_)
              · refine lv_iload hx hb dX3_findFaultInEvents_73 (lv_at hl 0 rfl) ?_
                refine z_callSN (As := [.int (zI (zkd (sgn t (nx + 2))))]) (rest := []) hS hK hA hW hl.1 [] [0] (kX4_takesProp l D cI cB (zkd (sgn t (nx + 2))) (by omega)) ⟨va_cnB 1 hts gX3_findFaultInEvents_X4_takesProp_n55 rfl rfl rfl (hK.2 _ nm_15) (hts _ mX3_findFaultInEvents_3) (by decide +kernel) ⟨Nat.le_of_ble_eq_true rfl, Nat.le_of_ble_eq_true rfl⟩, hts _ mX3_findFaultInEvents_4, trivial⟩ dX3_findFaultInEvents_75 rfl rfl rfl rfl rfl (Nat.le_of_ble_eq_true rfl) ⟨Nat.le_of_ble_eq_true rfl, Nat.le_of_ble_eq_true rfl⟩ (fun v9 w9 H locs hq hW => ?_)
                obtain ⟨rr_75, rfl, rfl, hh_75⟩ := hq
                have hW : zW D A s.heap [zText cI a t2] H locs := hW
                refine W.eq (g2 := F0 m 78 ls [.int (zI rr_75)]) rfl ?_
                refine z_if_eq (tgt := 91) hx hb dX3_findFaultInEvents_78 (by decide) (by omega) (fun cc_78 => ?_) (fun cc_78 => ?_)
                · refine lv_iconst (v := zI (0)) hx hb dX3_findFaultInEvents_91 rfl ?_
                  refine lv_istore (lv' := [(6, .int (zI 0)), (5, .int (zI (zkd (sgn t (nx + 2))))), (4, .int (zI (zch (sgn t (nx + 1))))), (0, .ref (a 0)), (1, .int (zI x)), (2, .int (zI nx)), (3, .int (zI ke))]) hx hb dX3_findFaultInEvents_92 hl (by decide) rfl (fun ls hl => ?_)
                  refine lv_iload hx hb dX3_findFaultInEvents_94 (lv_at hl 0 rfl) ?_
                  refine lv_iconst (v := zI (-1)) hx hb dX3_findFaultInEvents_96 rfl ?_
                  refine z_icmp_ne (tgt := 104) hx hb dX3_findFaultInEvents_97 (by decide) (by omega) (fun cc_97 => ?_) (fun cc_97 => ?_)
                  · refine lv_aload_n hx hb dX3_findFaultInEvents_104 rfl (lv_at hl 3 rfl) ?_
                    refine va_get (D := D) (ci := 3) (v := .ref (a 2)) (C := RX3) (T := TX3) (N := 6) hx hb hts iX3_findFaultInEvents_X3 hown hK.1 hW.1 0 rfl rfl 5 (by decide) (hts _ mX3_findFaultInEvents_5) (fun _ h9 => h9) rfl dX3_findFaultInEvents_105 ?_
                    refine lv_iload_n hx hb dX3_findFaultInEvents_108 rfl (lv_at hl 6 rfl) ?_
                    refine lv_iload hx hb dX3_findFaultInEvents_109 (lv_at hl 2 rfl) ?_
                    refine lv_iload hx hb dX3_findFaultInEvents_111 (lv_at hl 1 rfl) ?_
                    refine lv_iload hx hb dX3_findFaultInEvents_113 (lv_at hl 0 rfl) ?_
                    refine z_callSN (As := [.int (zI (zch (sgn t (nx + 1)))), .int (zI (zkd (sgn t (nx + 2)))), .int (zI 0)]) (rest := [.int (zI ke), .ref (a 2)]) hS hK hA hW hl.1 [] [0] (kX4_codeOf l D cI cB (zch (sgn t (nx + 1))) (zkd (sgn t (nx + 2))) 0) ⟨va_cnB 3 hts gX3_findFaultInEvents_X4_codeOf_n58 rfl rfl rfl (hK.2 _ nm_16) (hts _ mX3_findFaultInEvents_3) (by decide +kernel) ⟨Nat.le_of_ble_eq_true rfl, Nat.le_of_ble_eq_true rfl⟩, hts _ mX3_findFaultInEvents_6, trivial⟩ dX3_findFaultInEvents_115 rfl rfl rfl rfl rfl (Nat.le_of_ble_eq_true rfl) ⟨Nat.le_of_ble_eq_true rfl, Nat.le_of_ble_eq_true rfl⟩ (fun v9 w9 H locs hq hW => ?_)
                    obtain ⟨rr_115, rfl, rfl, hh_115⟩ := hq
                    subst rr_115
                    have hW : zW D A s.heap [zText cI a t2] H locs := hW
                    refine W.eq (g2 := F0 m 118 ls [.int (zI ((zch (sgn t (nx + 1))) * 100 + (zkd (sgn t (nx + 2))) * 10 + 0)), .int (zI ke), .ref (a 2)]) rfl ?_
                    have hCd : (zch (sgn t (nx + 1))) * 100 + (zkd (sgn t (nx + 2))) * 10 + 0 = evCode (evAt (sgn t) nx) := by rw [evCode_evAt]; first | (rw [if_pos (by omega)]; done) | (rw [if_neg (by omega)]; done)
                    refine z_setCell (n := 6) (g := tx_cod t2) (i := ke) (v := (zch (sgn t (nx + 1))) * 100 + (zkd (sgn t (nx + 2))) * 10 + 0) (rest := []) (bs1 := [zText cI a (tx_cod_ t2 (zU (tx_cod t2) ke ((zch (sgn t (nx + 1))) * 100 + (zkd (sgn t (nx + 2))) * 10 + 0)))]) hS hK hA hW hl.1 2 rfl (gX3_findFaultInEvents_X4_setCell_n31) nm_17 (mX3_findFaultInEvents_3) (mX3_findFaultInEvents_7) ⟨Nat.le_of_ble_eq_true rfl, Nat.le_of_ble_eq_true rfl⟩ dX3_findFaultInEvents_118 (by omega) rfl (Nat.le_of_ble_eq_true rfl) ⟨Nat.le_of_ble_eq_true rfl, Nat.le_of_ble_eq_true rfl⟩ (fun H locs hW => ?_)
                    refine lv_aload_n hx hb dX3_findFaultInEvents_121 rfl (lv_at hl 3 rfl) ?_
                    refine lv_dup hx hb dX3_findFaultInEvents_122 rfl ?_
                    refine va_get (D := D) (ci := 3) (v := .int (zI (tx_evs t2))) (C := RX3) (T := TX3) (N := 6) hx hb hts iX3_findFaultInEvents_X3 hown hK.1 hW.1 0 rfl rfl 4 (by decide) (hts _ mX3_findFaultInEvents_1) (fun _ h9 => h9) rfl dX3_findFaultInEvents_123 ?_
                    refine lv_iconst (v := zI (1)) hx hb dX3_findFaultInEvents_126 rfl ?_
                    refine z_iadd hx hb dX3_findFaultInEvents_127 ?_
                    refine va_put (D := D) (ci := 3) (v := .int (zI ((tx_evs t2) + 1))) (ty := .int) (C := RX3) (T := TX3) (N := 6) hx hb hts iX3_findFaultInEvents_X3 tyX3 tyX3_ok nmX3 hown hK.1 hW.1 hW.2.1 hW.2.2 0 rfl rfl 4 (by decide) (hts _ mX3_findFaultInEvents_1) (fun _ h9 => h9) rfl (by decide +kernel) rfl rfl (Nat.le_of_ble_eq_true rfl) dX3_findFaultInEvents_128 (fun H locs h1 h2 h3 => ?_)
                    have hW : zW D A s.heap [zText cI a (tx_cod_ (tx_evs_ t2 ((tx_evs t2) + 1)) (zU (tx_cod t2) ke ((zch (sgn t (nx + 1))) * 100 + (zkd (sgn t (nx + 2))) * 10 + 0)))] H locs := ⟨h1, h2, h3⟩
                    refine lv_iload_n hx hb dX3_findFaultInEvents_131 rfl (lv_at hl 5 rfl) ?_
                    refine lv_iload hx hb dX3_findFaultInEvents_132 (lv_at hl 1 rfl) ?_
                    refine z_callSN (As := [.int (zI (zkd (sgn t (nx + 2))))]) (rest := [.int (zI nx)]) hS hK hA hW hl.1 [] [0] (kX4_takesProp l D cI cB (zkd (sgn t (nx + 2))) (by omega)) ⟨va_cnB 1 hts gX3_findFaultInEvents_X4_takesProp_n55 rfl rfl rfl (hK.2 _ nm_15) (hts _ mX3_findFaultInEvents_3) (by decide +kernel) ⟨Nat.le_of_ble_eq_true rfl, Nat.le_of_ble_eq_true rfl⟩, hts _ mX3_findFaultInEvents_4, trivial⟩ dX3_findFaultInEvents_134 rfl rfl rfl rfl rfl (Nat.le_of_ble_eq_true rfl) ⟨Nat.le_of_ble_eq_true rfl, Nat.le_of_ble_eq_true rfl⟩ (fun v9 w9 H locs hq hW => ?_)
                    obtain ⟨rr_134, rfl, rfl, hh_134⟩ := hq
                    have hW : zW D A s.heap [zText cI a (tx_cod_ (tx_evs_ t2 ((tx_evs t2) + 1)) (zU (tx_cod t2) ke ((zch (sgn t (nx + 1))) * 100 + (zkd (sgn t (nx + 2))) * 10 + 0)))] H locs := hW
                    refine W.eq (g2 := F0 m 137 ls [.int (zI rr_134), .int (zI nx)]) rfl ?_
                    refine z_if_eq (tgt := 144) hx hb dX3_findFaultInEvents_137 (by decide) (by omega) (fun cc_137 => ?_) (fun cc_137 => ?_)
                    · refine lv_iconst (v := zI (3)) hx hb dX3_findFaultInEvents_144 rfl ?_
                      refine z_iadd hx hb dX3_findFaultInEvents_145 ?_
                      refine lv_istore_n (lv' := [(2, .int (zI (nx + 3))), (6, .int (zI 0)), (5, .int (zI (zkd (sgn t (nx + 2))))), (4, .int (zI (zch (sgn t (nx + 1))))), (0, .ref (a 0)), (1, .int (zI x)), (3, .int (zI ke))]) hx hb dX3_findFaultInEvents_146 rfl hl (by decide) rfl (fun ls hl => ?_)
                      refine z_iinc (x := ke) (lv' := [(3, .int (zI (ke + 1))), (2, .int (zI (nx + 3))), (6, .int (zI 0)), (5, .int (zI (zkd (sgn t (nx + 2))))), (4, .int (zI (zch (sgn t (nx + 1))))), (0, .ref (a 0)), (1, .int (zI x))]) hx hb dX3_findFaultInEvents_147 hl (k := 6) rfl (by decide) rfl (fun ls hl => ?_)
                      refine lv_goto (tgt := 9) hx hb dX3_findFaultInEvents_150 (by decide) ?_
                      exact ih9 (nx + 3) (ke + 1) ((tx_cod_ (tx_evs_ t2 ((tx_evs t2) + 1)) (zU (tx_cod t2) ke ((zch (sgn t (nx + 1))) * 100 + (zkd (sgn t (nx + 2))) * 10 + 0)))) (acc ++ [evAt (sgn t) nx]) (by omega) (by omega) (by rw [List.length_append]; simp; omega) (by show tx_evs t2 + 1 = ke + 1; omega) (by exact hSm) (by exact TXOK_cod hTk2 _ (by omega)) (by exact codsOK_snoc hCo hac.symm hCd) (by rw [← hEq, prsE_5 (s := sgn t) (n := tx_len t) (i := nx) (by omega) (by omega) (by omega) (by omega) (by omega)]; congr 1; first | (rw [if_pos (by omega)]; done) | (rw [if_neg (by omega)]; done)) (by omega) _ _ hW ls (lv_sub hl [5, 6, 1, 0] rfl)
                    · exfalso; omega
                  · refine lv_iload_n hx hb dX3_findFaultInEvents_100 rfl (lv_at hl 5 rfl) ?_
                    refine lv_iconst (v := zI (3)) hx hb dX3_findFaultInEvents_101 rfl ?_
                    refine z_iadd hx hb dX3_findFaultInEvents_102 ?_
                    exact z_iret (v := nx + 3) hx hb hr hlk hW dX3_findFaultInEvents_103 (by
                        exact ⟨nx + 3, t2, rfl, rfl, by rw [prsE_4 (s := sgn t) (n := tx_len t) (i := nx) (by omega) (by omega) (by omega) (by omega) (by omega)] at hEq; rw [← hEq]; exact ⟨rfl, hSm, hTk2, hte.trans hac.symm, hCo⟩⟩)
                · refine lv_aload_n hx hb dX3_findFaultInEvents_81 rfl (lv_at hl 2 rfl) ?_
                  refine lv_iload_n hx hb dX3_findFaultInEvents_82 rfl (lv_at hl 4 rfl) ?_
                  refine lv_iconst (v := zI (3)) hx hb dX3_findFaultInEvents_83 rfl ?_
                  refine z_iadd hx hb dX3_findFaultInEvents_84 ?_
                  refine z_callV (r := (RX3, TX3, 6)) (As := [.int (zI (nx + 3))]) (rest := []) hS hK hA hW hl.1 [0] [] (kX3_digitAt l D cI cB a t2 (nx + 3) hTk2 (by omega)) (cwV 1 hts gX3_findFaultInEvents_X3_digitAt rfl rfl rfl (by decide +kernel) ⟨Nat.le_of_ble_eq_true rfl, Nat.le_of_ble_eq_true rfl⟩) (rfl : vwCl[3]? = some (RX3, TX3, 6)) (q0 := 0) rfl dX3_findFaultInEvents_85 rfl rfl rfl rfl rfl (Nat.le_of_ble_eq_true rfl) ⟨Nat.le_of_ble_eq_true rfl, Nat.le_of_ble_eq_true rfl⟩ (fun v9 w9 H locs hq hW => ?_)
                  obtain ⟨rr_85, rfl, rfl, hh_85⟩ := hq
                  subst rr_85
                  have hW : zW D A s.heap [zText cI a t2] H locs := hW
                  refine W.eq (g2 := F0 m 88 ls [.int (zI (zdg (sgn t2 (nx + 3))))]) rfl ?_
                  rw [show (zdg (sgn t2 (nx + 3))) = (zdg (sgn t (nx + 3))) by rw [hsg2]]
                  refine lv_goto (tgt := 92) hx hb dX3_findFaultInEvents_88 (by decide) ?_
                  refine lv_istore (lv' := [(6, .int (zI (zdg (sgn t (nx + 3))))), (5, .int (zI (zkd (sgn t (nx + 2))))), (4, .int (zI (zch (sgn t (nx + 1))))), (0, .ref (a 0)), (1, .int (zI x)), (2, .int (zI nx)), (3, .int (zI ke))]) hx hb dX3_findFaultInEvents_92 hl (by decide) rfl (fun ls hl => ?_)
                  refine lv_iload hx hb dX3_findFaultInEvents_94 (lv_at hl 0 rfl) ?_
                  refine lv_iconst (v := zI (-1)) hx hb dX3_findFaultInEvents_96 rfl ?_
                  refine z_icmp_ne (tgt := 104) hx hb dX3_findFaultInEvents_97 (by decide) (by omega) (fun cc_97 => ?_) (fun cc_97 => ?_)
                  · refine lv_aload_n hx hb dX3_findFaultInEvents_104 rfl (lv_at hl 3 rfl) ?_
                    refine va_get (D := D) (ci := 3) (v := .ref (a 2)) (C := RX3) (T := TX3) (N := 6) hx hb hts iX3_findFaultInEvents_X3 hown hK.1 hW.1 0 rfl rfl 5 (by decide) (hts _ mX3_findFaultInEvents_5) (fun _ h9 => h9) rfl dX3_findFaultInEvents_105 ?_
                    refine lv_iload_n hx hb dX3_findFaultInEvents_108 rfl (lv_at hl 6 rfl) ?_
                    refine lv_iload hx hb dX3_findFaultInEvents_109 (lv_at hl 2 rfl) ?_
                    refine lv_iload hx hb dX3_findFaultInEvents_111 (lv_at hl 1 rfl) ?_
                    refine lv_iload hx hb dX3_findFaultInEvents_113 (lv_at hl 0 rfl) ?_
                    refine z_callSN (As := [.int (zI (zch (sgn t (nx + 1)))), .int (zI (zkd (sgn t (nx + 2)))), .int (zI (zdg (sgn t (nx + 3))))]) (rest := [.int (zI ke), .ref (a 2)]) hS hK hA hW hl.1 [] [0] (kX4_codeOf l D cI cB (zch (sgn t (nx + 1))) (zkd (sgn t (nx + 2))) (zdg (sgn t (nx + 3)))) ⟨va_cnB 3 hts gX3_findFaultInEvents_X4_codeOf_n58 rfl rfl rfl (hK.2 _ nm_16) (hts _ mX3_findFaultInEvents_3) (by decide +kernel) ⟨Nat.le_of_ble_eq_true rfl, Nat.le_of_ble_eq_true rfl⟩, hts _ mX3_findFaultInEvents_6, trivial⟩ dX3_findFaultInEvents_115 rfl rfl rfl rfl rfl (Nat.le_of_ble_eq_true rfl) ⟨Nat.le_of_ble_eq_true rfl, Nat.le_of_ble_eq_true rfl⟩ (fun v9 w9 H locs hq hW => ?_)
                    obtain ⟨rr_115, rfl, rfl, hh_115⟩ := hq
                    subst rr_115
                    have hW : zW D A s.heap [zText cI a t2] H locs := hW
                    refine W.eq (g2 := F0 m 118 ls [.int (zI ((zch (sgn t (nx + 1))) * 100 + (zkd (sgn t (nx + 2))) * 10 + (zdg (sgn t (nx + 3))))), .int (zI ke), .ref (a 2)]) rfl ?_
                    have hCd : (zch (sgn t (nx + 1))) * 100 + (zkd (sgn t (nx + 2))) * 10 + (zdg (sgn t (nx + 3))) = evCode (evAt (sgn t) nx) := by rw [evCode_evAt]; first | (rw [if_pos (by omega)]; done) | (rw [if_neg (by omega)]; done)
                    refine z_setCell (n := 6) (g := tx_cod t2) (i := ke) (v := (zch (sgn t (nx + 1))) * 100 + (zkd (sgn t (nx + 2))) * 10 + (zdg (sgn t (nx + 3)))) (rest := []) (bs1 := [zText cI a (tx_cod_ t2 (zU (tx_cod t2) ke ((zch (sgn t (nx + 1))) * 100 + (zkd (sgn t (nx + 2))) * 10 + (zdg (sgn t (nx + 3))))))]) hS hK hA hW hl.1 2 rfl (gX3_findFaultInEvents_X4_setCell_n31) nm_17 (mX3_findFaultInEvents_3) (mX3_findFaultInEvents_7) ⟨Nat.le_of_ble_eq_true rfl, Nat.le_of_ble_eq_true rfl⟩ dX3_findFaultInEvents_118 (by omega) rfl (Nat.le_of_ble_eq_true rfl) ⟨Nat.le_of_ble_eq_true rfl, Nat.le_of_ble_eq_true rfl⟩ (fun H locs hW => ?_)
                    refine lv_aload_n hx hb dX3_findFaultInEvents_121 rfl (lv_at hl 3 rfl) ?_
                    refine lv_dup hx hb dX3_findFaultInEvents_122 rfl ?_
                    refine va_get (D := D) (ci := 3) (v := .int (zI (tx_evs t2))) (C := RX3) (T := TX3) (N := 6) hx hb hts iX3_findFaultInEvents_X3 hown hK.1 hW.1 0 rfl rfl 4 (by decide) (hts _ mX3_findFaultInEvents_1) (fun _ h9 => h9) rfl dX3_findFaultInEvents_123 ?_
                    refine lv_iconst (v := zI (1)) hx hb dX3_findFaultInEvents_126 rfl ?_
                    refine z_iadd hx hb dX3_findFaultInEvents_127 ?_
                    refine va_put (D := D) (ci := 3) (v := .int (zI ((tx_evs t2) + 1))) (ty := .int) (C := RX3) (T := TX3) (N := 6) hx hb hts iX3_findFaultInEvents_X3 tyX3 tyX3_ok nmX3 hown hK.1 hW.1 hW.2.1 hW.2.2 0 rfl rfl 4 (by decide) (hts _ mX3_findFaultInEvents_1) (fun _ h9 => h9) rfl (by decide +kernel) rfl rfl (Nat.le_of_ble_eq_true rfl) dX3_findFaultInEvents_128 (fun H locs h1 h2 h3 => ?_)
                    have hW : zW D A s.heap [zText cI a (tx_cod_ (tx_evs_ t2 ((tx_evs t2) + 1)) (zU (tx_cod t2) ke ((zch (sgn t (nx + 1))) * 100 + (zkd (sgn t (nx + 2))) * 10 + (zdg (sgn t (nx + 3))))))] H locs := ⟨h1, h2, h3⟩
                    refine lv_iload_n hx hb dX3_findFaultInEvents_131 rfl (lv_at hl 5 rfl) ?_
                    refine lv_iload hx hb dX3_findFaultInEvents_132 (lv_at hl 1 rfl) ?_
                    refine z_callSN (As := [.int (zI (zkd (sgn t (nx + 2))))]) (rest := [.int (zI nx)]) hS hK hA hW hl.1 [] [0] (kX4_takesProp l D cI cB (zkd (sgn t (nx + 2))) (by omega)) ⟨va_cnB 1 hts gX3_findFaultInEvents_X4_takesProp_n55 rfl rfl rfl (hK.2 _ nm_15) (hts _ mX3_findFaultInEvents_3) (by decide +kernel) ⟨Nat.le_of_ble_eq_true rfl, Nat.le_of_ble_eq_true rfl⟩, hts _ mX3_findFaultInEvents_4, trivial⟩ dX3_findFaultInEvents_134 rfl rfl rfl rfl rfl (Nat.le_of_ble_eq_true rfl) ⟨Nat.le_of_ble_eq_true rfl, Nat.le_of_ble_eq_true rfl⟩ (fun v9 w9 H locs hq hW => ?_)
                    obtain ⟨rr_134, rfl, rfl, hh_134⟩ := hq
                    have hW : zW D A s.heap [zText cI a (tx_cod_ (tx_evs_ t2 ((tx_evs t2) + 1)) (zU (tx_cod t2) ke ((zch (sgn t (nx + 1))) * 100 + (zkd (sgn t (nx + 2))) * 10 + (zdg (sgn t (nx + 3))))))] H locs := hW
                    refine W.eq (g2 := F0 m 137 ls [.int (zI rr_134), .int (zI nx)]) rfl ?_
                    refine z_if_eq (tgt := 144) hx hb dX3_findFaultInEvents_137 (by decide) (by omega) (fun cc_137 => ?_) (fun cc_137 => ?_)
                    · exfalso; omega
                    · refine lv_iconst (v := zI (4)) hx hb dX3_findFaultInEvents_140 rfl ?_
                      refine lv_goto (tgt := 145) hx hb dX3_findFaultInEvents_141 (by decide) ?_
                      refine z_iadd hx hb dX3_findFaultInEvents_145 ?_
                      refine lv_istore_n (lv' := [(2, .int (zI (nx + 4))), (6, .int (zI (zdg (sgn t (nx + 3))))), (5, .int (zI (zkd (sgn t (nx + 2))))), (4, .int (zI (zch (sgn t (nx + 1))))), (0, .ref (a 0)), (1, .int (zI x)), (3, .int (zI ke))]) hx hb dX3_findFaultInEvents_146 rfl hl (by decide) rfl (fun ls hl => ?_)
                      refine z_iinc (x := ke) (lv' := [(3, .int (zI (ke + 1))), (2, .int (zI (nx + 4))), (6, .int (zI (zdg (sgn t (nx + 3))))), (5, .int (zI (zkd (sgn t (nx + 2))))), (4, .int (zI (zch (sgn t (nx + 1))))), (0, .ref (a 0)), (1, .int (zI x))]) hx hb dX3_findFaultInEvents_147 hl (k := 6) rfl (by decide) rfl (fun ls hl => ?_)
                      refine lv_goto (tgt := 9) hx hb dX3_findFaultInEvents_150 (by decide) ?_
                      exact ih9 (nx + 4) (ke + 1) ((tx_cod_ (tx_evs_ t2 ((tx_evs t2) + 1)) (zU (tx_cod t2) ke ((zch (sgn t (nx + 1))) * 100 + (zkd (sgn t (nx + 2))) * 10 + (zdg (sgn t (nx + 3))))))) (acc ++ [evAt (sgn t) nx]) (by omega) (by omega) (by rw [List.length_append]; simp; omega) (by show tx_evs t2 + 1 = ke + 1; omega) (by exact hSm) (by exact TXOK_cod hTk2 _ (by omega)) (by exact codsOK_snoc hCo hac.symm hCd) (by rw [← hEq, prsE_5 (s := sgn t) (n := tx_len t) (i := nx) (by omega) (by omega) (by omega) (by omega) (by omega)]; congr 1; first | (rw [if_pos (by omega)]; done) | (rw [if_neg (by omega)]; done)) (by omega) _ _ hW ls (lv_sub hl [5, 6, 1, 0] rfl)
                  · refine lv_iload_n hx hb dX3_findFaultInEvents_100 rfl (lv_at hl 5 rfl) ?_
                    refine lv_iconst (v := zI (3)) hx hb dX3_findFaultInEvents_101 rfl ?_
                    refine z_iadd hx hb dX3_findFaultInEvents_102 ?_
                    exact z_iret (v := nx + 3) hx hb hr hlk hW dX3_findFaultInEvents_103 (by
                        exact ⟨nx + 3, t2, rfl, rfl, by rw [prsE_4 (s := sgn t) (n := tx_len t) (i := nx) (by omega) (by omega) (by omega) (by omega) (by omega)] at hEq; rw [← hEq]; exact ⟨rfl, hSm, hTk2, hte.trans hac.symm, hCo⟩⟩)
              · refine lv_iload_n hx hb dX3_findFaultInEvents_69 rfl (lv_at hl 4 rfl) ?_
                refine lv_iconst (v := zI (2)) hx hb dX3_findFaultInEvents_70 rfl ?_
                refine z_iadd hx hb dX3_findFaultInEvents_71 ?_
                exact z_iret (v := nx + 2) hx hb hr hlk hW dX3_findFaultInEvents_72 (by
                    exact ⟨nx + 2, t2, rfl, rfl, by rw [prsE_3 (s := sgn t) (n := tx_len t) (i := nx) (by omega) (by omega) (by omega) (by omega)] at hEq; rw [← hEq]; exact ⟨rfl, hSm, hTk2, hte.trans hac.symm, hCo⟩⟩)
            · refine lv_iload_n hx hb dX3_findFaultInEvents_50 rfl (lv_at hl 3 rfl) ?_
              refine lv_iconst (v := zI (1)) hx hb dX3_findFaultInEvents_51 rfl ?_
              refine z_iadd hx hb dX3_findFaultInEvents_52 ?_
              exact z_iret (v := nx + 1) hx hb hr hlk hW dX3_findFaultInEvents_53 (by
                  exact ⟨nx + 1, t2, rfl, rfl, by rw [prsE_2 (s := sgn t) (n := tx_len t) (i := nx) (by omega) (by omega) (by omega)] at hEq; rw [← hEq]; exact ⟨rfl, hSm, hTk2, hte.trans hac.symm, hCo⟩⟩)
          · refine lv_iload_n hx hb dX3_findFaultInEvents_33 rfl (lv_at hl 2 rfl) ?_
            exact z_iret (v := nx) hx hb hr hlk hW dX3_findFaultInEvents_34 (by
                exact ⟨nx, t2, rfl, rfl, by rw [prsE_1 (s := sgn t) (n := tx_len t) (i := nx) (by omega) (by omega)] at hEq; rw [← hEq]; exact ⟨rfl, hSm, hTk2, hte.trans hac.symm, hCo⟩⟩)
  exact L9 (((6 - 0) : Int).toNat + 1) x 0 ((tx_evs_ t (0))) ([]) (by omega) (by omega) (by rfl) (by rfl) (by exact ⟨rfl, rfl, rfl, rfl⟩) (by exact hTk) (by exact fun j v hv => by cases hv) (by rfl) (by omega) _ _ hW ls (lv_sub hl [2, 3, 1, 0] rfl)

abbrev qX3_findFault (cI : ClassId) (a : Nat → Nat) (t : zTS) : Option Value → List va_W → Prop := fun vq wq => ∃ (r : Int) (tz : zTS), vq = some (.int (zI r)) ∧ wq = [zText cI a (tz)] ∧ (r = (prs (sgn t) (tx_len t)).1 ∧ (r = -1 → (tx_scn tz, tx_dur tz) = ((prs (sgn t) (tx_len t)).2.1, (prs (sgn t) (tx_len t)).2.2.1) ∧ tx_evs tz = ((prs (sgn t) (tx_len t)).2.2.2.length : Int) ∧ codsOK (tx_cod tz) (prs (sgn t) (tx_len t)).2.2.2) ∧ (tx_sig tz = tx_sig t ∧ tx_len tz = tx_len t) ∧ TXOK tz)
set_option maxRecDepth 20000 in
theorem iX3_findFault_X3 : ∀ w ∈ u_ws RX3 TX3 6, w ∈ wsX3_findFault := by decide +kernel
set_option maxRecDepth 20000 in
theorem mX3_findFault_1 : (.fieldLink RX3 19 "StoryPanels$PanelText" "scene" "I" : Cond) ∈ wsX3_findFault := by decide +kernel
set_option maxRecDepth 20000 in
theorem mX3_findFault_2 : (.initialized RX4 : Cond) ∈ wsX3_findFault := by decide +kernel
set_option maxRecDepth 20000 in
theorem mX3_findFault_3 : (.static yX4_isScene : Cond) ∈ wsX3_findFault := by decide +kernel
set_option maxRecDepth 20000 in
theorem mX3_findFault_4 : (.fieldLink RX3 22 "StoryPanels$PanelText" "duration" "I" : Cond) ∈ wsX3_findFault := by decide +kernel
set_option maxHeartbeats 4000000 in
set_option maxRecDepth 100000 in
theorem kX3_findFault (l : Launch) (D : va_G) (cI cB : ClassId) (a : Nat → Nat) (t : zTS) (hTk : TXOK t) : zMet l yX3_findFault wsX3_findFault 4 90 0 0 D cI cB [.ref (a 0)] [zText cI a t] (qX3_findFault cI a t) := by
  refine zMet.of (cd := cX3_findFault) (maxL := 2) (ret := (some .int)) (by decide) rfl (Nat.le_of_ble_eq_true rfl) ?_
  intro p e s m args below meth c A ls hS hr hlk hnm hK hA hW hl
  have hS : CallFix p m c cX3_findFault 2 s args wsX3_findFault RX3 := hS
  have hx := hS.1
  have hb := hS.2.1
  have hown := hS.2.2.2.1
  have hts := hS.2.2.2.2
  have hl : lv_has ls 2 [(0, .ref (a 0))] := hl
  have htl := hTk.1
  have hd0 := zdg_rg (sgn t 0)
  have hs1 := sgn_rg hTk (i := 1) (by omega)
  have hd2 := zdg_rg (sgn t 2)
  have hd3 := zdg_rg (sgn t 3)
  refine lv_aload_n hx hb dX3_findFault_0 rfl (lv_at hl 0 rfl) ?_
  refine lv_aload_n hx hb dX3_findFault_1 rfl (lv_at hl 0 rfl) ?_
  refine lv_iconst (v := zI (0)) hx hb dX3_findFault_2 rfl ?_
  refine z_callV (r := (RX3, TX3, 6)) (As := [.int (zI 0)]) (rest := [.ref (a 0)]) hS hK hA hW hl.1 [0] [] (kX3_digitAt l D cI cB a t 0 hTk (by omega)) (cwV 1 hts gX3_findFault_X3_digitAt rfl rfl rfl (by decide +kernel) ⟨Nat.le_of_ble_eq_true rfl, Nat.le_of_ble_eq_true rfl⟩) (rfl : vwCl[3]? = some (RX3, TX3, 6)) (q0 := 0) rfl dX3_findFault_3 rfl rfl rfl rfl rfl (Nat.le_of_ble_eq_true rfl) ⟨Nat.le_of_ble_eq_true rfl, Nat.le_of_ble_eq_true rfl⟩ (fun v9 w9 H locs hq hW => ?_)
  obtain ⟨rr_3, rfl, rfl, hh_3⟩ := hq
  subst rr_3
  have hW : zW D A s.heap [zText cI a t] H locs := hW
  refine W.eq (g2 := F0 m 6 ls [.int (zI (zdg (sgn t 0))), .ref (a 0)]) rfl ?_
  refine va_put (D := D) (ci := 3) (v := .int (zI (zdg (sgn t 0)))) (ty := .int) (C := RX3) (T := TX3) (N := 6) hx hb hts iX3_findFault_X3 tyX3 tyX3_ok nmX3 hown hK.1 hW.1 hW.2.1 hW.2.2 0 rfl rfl 2 (by decide) (hts _ mX3_findFault_1) (fun _ h9 => h9) rfl (by decide +kernel) rfl rfl (Nat.le_of_ble_eq_true rfl) dX3_findFault_6 (fun H locs h1 h2 h3 => ?_)
  have hW : zW D A s.heap [zText cI a (tx_scn_ t (zdg (sgn t 0)))] H locs := ⟨h1, h2, h3⟩
  refine lv_aload_n hx hb dX3_findFault_9 rfl (lv_at hl 0 rfl) ?_
  refine va_get (D := D) (ci := 3) (v := .int (zI (zdg (sgn t 0)))) (C := RX3) (T := TX3) (N := 6) hx hb hts iX3_findFault_X3 hown hK.1 hW.1 0 rfl rfl 2 (by decide) (hts _ mX3_findFault_1) (fun _ h9 => h9) rfl dX3_findFault_10 ?_
  refine z_callSN (As := [.int (zI (zdg (sgn t 0)))]) (rest := []) hS hK hA hW hl.1 [] [0] (kX4_isScene l D cI cB (zdg (sgn t 0)) (by omega)) ⟨va_cnB 1 hts gX3_findFault_X4_isScene_n39 rfl rfl rfl (hK.2 _ nm_14) (hts _ mX3_findFault_2) (by decide +kernel) ⟨Nat.le_of_ble_eq_true rfl, Nat.le_of_ble_eq_true rfl⟩, hts _ mX3_findFault_3, trivial⟩ dX3_findFault_13 rfl rfl rfl rfl rfl (Nat.le_of_ble_eq_true rfl) ⟨Nat.le_of_ble_eq_true rfl, Nat.le_of_ble_eq_true rfl⟩ (fun v9 w9 H locs hq hW => ?_)
  obtain ⟨rr_13, rfl, rfl, hh_13⟩ := hq
  have hW : zW D A s.heap [zText cI a (tx_scn_ t (zdg (sgn t 0)))] H locs := hW
  refine W.eq (g2 := F0 m 16 ls [.int (zI rr_13)]) rfl ?_
  refine z_if_ne (tgt := 21) hx hb dX3_findFault_16 (by decide) (by omega) (fun cc_16 => ?_) (fun cc_16 => ?_)
  · refine lv_aload_n hx hb dX3_findFault_21 rfl (lv_at hl 0 rfl) ?_
    refine lv_iconst (v := zI (1)) hx hb dX3_findFault_22 rfl ?_
    refine z_callV (r := (RX3, TX3, 6)) (As := [.int (zI 1)]) (rest := []) hS hK hA hW hl.1 [0] [] (kX3_signAt l D cI cB a ((tx_scn_ t (zdg (sgn t 0)))) 1 hTk (by omega)) (cwV 1 hts gX3_findFault_X3_signAt rfl rfl rfl (by decide +kernel) ⟨Nat.le_of_ble_eq_true rfl, Nat.le_of_ble_eq_true rfl⟩) (rfl : vwCl[3]? = some (RX3, TX3, 6)) (q0 := 0) rfl dX3_findFault_23 rfl rfl rfl rfl rfl (Nat.le_of_ble_eq_true rfl) ⟨Nat.le_of_ble_eq_true rfl, Nat.le_of_ble_eq_true rfl⟩ (fun v9 w9 H locs hq hW => ?_)
    obtain ⟨rr_23, rfl, rfl, hh_23⟩ := hq
    subst rr_23
    have hW : zW D A s.heap [zText cI a (tx_scn_ t (zdg (sgn t 0)))] H locs := hW
    refine W.eq (g2 := F0 m 26 ls [.int (zI (sgn ((tx_scn_ t (zdg (sgn t 0)))) 1))]) rfl ?_
    rw [show (sgn ((tx_scn_ t (zdg (sgn t 0)))) 1) = (sgn t 1) by rfl]
    refine lv_bipush (v := zI (47)) hx hb dX3_findFault_26 (by decide +kernel) ?_
    refine z_icmp_eq (tgt := 33) hx hb dX3_findFault_28 (by decide) (by omega) (fun cc_28 => ?_) (fun cc_28 => ?_)
    · refine lv_aload_n hx hb dX3_findFault_33 rfl (lv_at hl 0 rfl) ?_
      refine lv_aload_n hx hb dX3_findFault_34 rfl (lv_at hl 0 rfl) ?_
      refine lv_iconst (v := zI (2)) hx hb dX3_findFault_35 rfl ?_
      refine z_callV (r := (RX3, TX3, 6)) (As := [.int (zI 2)]) (rest := [.ref (a 0)]) hS hK hA hW hl.1 [0] [] (kX3_digitAt l D cI cB a ((tx_scn_ t (zdg (sgn t 0)))) 2 hTk (by omega)) (cwV 1 hts gX3_findFault_X3_digitAt rfl rfl rfl (by decide +kernel) ⟨Nat.le_of_ble_eq_true rfl, Nat.le_of_ble_eq_true rfl⟩) (rfl : vwCl[3]? = some (RX3, TX3, 6)) (q0 := 0) rfl dX3_findFault_36 rfl rfl rfl rfl rfl (Nat.le_of_ble_eq_true rfl) ⟨Nat.le_of_ble_eq_true rfl, Nat.le_of_ble_eq_true rfl⟩ (fun v9 w9 H locs hq hW => ?_)
      obtain ⟨rr_36, rfl, rfl, hh_36⟩ := hq
      subst rr_36
      have hW : zW D A s.heap [zText cI a (tx_scn_ t (zdg (sgn t 0)))] H locs := hW
      refine W.eq (g2 := F0 m 39 ls [.int (zI (zdg (sgn ((tx_scn_ t (zdg (sgn t 0)))) 2))), .ref (a 0)]) rfl ?_
      rw [show (zdg (sgn ((tx_scn_ t (zdg (sgn t 0)))) 2)) = (zdg (sgn t 2)) by rfl]
      refine va_put (D := D) (ci := 3) (v := .int (zI (zdg (sgn t 2)))) (ty := .int) (C := RX3) (T := TX3) (N := 6) hx hb hts iX3_findFault_X3 tyX3 tyX3_ok nmX3 hown hK.1 hW.1 hW.2.1 hW.2.2 0 rfl rfl 3 (by decide) (hts _ mX3_findFault_4) (fun _ h9 => h9) rfl (by decide +kernel) rfl rfl (Nat.le_of_ble_eq_true rfl) dX3_findFault_39 (fun H locs h1 h2 h3 => ?_)
      have hW : zW D A s.heap [zText cI a (tx_dur_ (tx_scn_ t (zdg (sgn t 0))) (zdg (sgn t 2)))] H locs := ⟨h1, h2, h3⟩
      refine lv_aload_n hx hb dX3_findFault_42 rfl (lv_at hl 0 rfl) ?_
      refine va_get (D := D) (ci := 3) (v := .int (zI (zdg (sgn t 2)))) (C := RX3) (T := TX3) (N := 6) hx hb hts iX3_findFault_X3 hown hK.1 hW.1 0 rfl rfl 3 (by decide) (hts _ mX3_findFault_4) (fun _ h9 => h9) rfl dX3_findFault_43 ?_
      refine lv_iconst (v := zI (1)) hx hb dX3_findFault_46 rfl ?_
      refine z_icmp_ge (tgt := 52) hx hb dX3_findFault_47 (by decide) (by omega) (fun cc_47 => ?_) (fun cc_47 => ?_)
      · refine lv_aload_n hx hb dX3_findFault_52 rfl (lv_at hl 0 rfl) ?_
        refine lv_iconst (v := zI (3)) hx hb dX3_findFault_53 rfl ?_
        refine z_callV (r := (RX3, TX3, 6)) (As := [.int (zI 3)]) (rest := []) hS hK hA hW hl.1 [0] [] (kX3_digitAt l D cI cB a ((tx_dur_ (tx_scn_ t (zdg (sgn t 0))) (zdg (sgn t 2)))) 3 hTk (by omega)) (cwV 1 hts gX3_findFault_X3_digitAt rfl rfl rfl (by decide +kernel) ⟨Nat.le_of_ble_eq_true rfl, Nat.le_of_ble_eq_true rfl⟩) (rfl : vwCl[3]? = some (RX3, TX3, 6)) (q0 := 0) rfl dX3_findFault_54 rfl rfl rfl rfl rfl (Nat.le_of_ble_eq_true rfl) ⟨Nat.le_of_ble_eq_true rfl, Nat.le_of_ble_eq_true rfl⟩ (fun v9 w9 H locs hq hW => ?_)
        obtain ⟨rr_54, rfl, rfl, hh_54⟩ := hq
        subst rr_54
        have hW : zW D A s.heap [zText cI a (tx_dur_ (tx_scn_ t (zdg (sgn t 0))) (zdg (sgn t 2)))] H locs := hW
        refine W.eq (g2 := F0 m 57 ls [.int (zI (zdg (sgn ((tx_dur_ (tx_scn_ t (zdg (sgn t 0))) (zdg (sgn t 2)))) 3)))]) rfl ?_
        rw [show (zdg (sgn ((tx_dur_ (tx_scn_ t (zdg (sgn t 0))) (zdg (sgn t 2)))) 3)) = (zdg (sgn t 3)) by rfl]
        refine lv_istore_n (lv' := [(1, .int (zI (zdg (sgn t 3)))), (0, .ref (a 0))]) hx hb dX3_findFault_57 rfl hl (by decide) rfl (fun ls hl => ?_)
        refine lv_iload_n hx hb dX3_findFault_58 rfl (lv_at hl 0 rfl) ?_
        refine lv_iconst (v := zI (-1)) hx hb dX3_findFault_59 rfl ?_
        refine z_icmp_ne (tgt := 69) hx hb dX3_findFault_60 (by decide) (by omega) (fun cc_60 => ?_) (fun cc_60 => ?_)
        · refine lv_aload_n hx hb dX3_findFault_69 rfl (lv_at hl 1 rfl) ?_
          refine lv_aload_n hx hb dX3_findFault_70 rfl (lv_at hl 1 rfl) ?_
          refine va_get (D := D) (ci := 3) (v := .int (zI (zdg (sgn t 2)))) (C := RX3) (T := TX3) (N := 6) hx hb hts iX3_findFault_X3 hown hK.1 hW.1 0 rfl rfl 3 (by decide) (hts _ mX3_findFault_4) (fun _ h9 => h9) rfl dX3_findFault_71 ?_
          refine lv_bipush (v := zI (10)) hx hb dX3_findFault_74 (by decide +kernel) ?_
          refine z_imul hx hb dX3_findFault_76 ?_
          refine lv_iload_n hx hb dX3_findFault_77 rfl (lv_at hl 0 rfl) ?_
          refine z_iadd hx hb dX3_findFault_78 ?_
          refine va_put (D := D) (ci := 3) (v := .int (zI (((zdg (sgn t 2)) * 10) + (zdg (sgn t 3))))) (ty := .int) (C := RX3) (T := TX3) (N := 6) hx hb hts iX3_findFault_X3 tyX3 tyX3_ok nmX3 hown hK.1 hW.1 hW.2.1 hW.2.2 0 rfl rfl 3 (by decide) (hts _ mX3_findFault_4) (fun _ h9 => h9) rfl (by decide +kernel) rfl rfl (Nat.le_of_ble_eq_true rfl) dX3_findFault_79 (fun H locs h1 h2 h3 => ?_)
          have hW : zW D A s.heap [zText cI a (tx_dur_ (tx_scn_ t (zdg (sgn t 0))) (((zdg (sgn t 2)) * 10) + (zdg (sgn t 3))))] H locs := ⟨h1, h2, h3⟩
          refine lv_aload_n hx hb dX3_findFault_82 rfl (lv_at hl 1 rfl) ?_
          refine lv_iconst (v := zI (4)) hx hb dX3_findFault_83 rfl ?_
          refine z_callV (r := (RX3, TX3, 6)) (As := [.int (zI 4)]) (rest := []) hS hK hA hW hl.1 [0] [] (kX3_findFaultInEvents l D cI cB a ((tx_dur_ (tx_scn_ t (zdg (sgn t 0))) (((zdg (sgn t 2)) * 10) + (zdg (sgn t 3))))) 4 hTk (by omega)) (cwV 1 hts gX3_findFault_X3_findFaultInEvents rfl rfl rfl (by decide +kernel) ⟨Nat.le_of_ble_eq_true rfl, Nat.le_of_ble_eq_true rfl⟩) (rfl : vwCl[3]? = some (RX3, TX3, 6)) (q0 := 0) rfl dX3_findFault_84 rfl rfl rfl rfl rfl (Nat.le_of_ble_eq_true rfl) ⟨Nat.le_of_ble_eq_true rfl, Nat.le_of_ble_eq_true rfl⟩ (fun v9 w9 H locs hq hW => ?_)
          obtain ⟨rr_84, tz_84, rfl, rfl, hh_84⟩ := hq
          have hW : zW D A s.heap [zText cI a tz_84] H locs := hW
          refine W.eq (g2 := F0 m 87 ls [.int (zI rr_84)]) rfl ?_
          exact z_iret (v := rr_84) hx hb hr hlk hW dX3_findFault_87 (by
              exact ⟨rr_84, tz_84, rfl, rfl, by have hP : prs (sgn t) (tx_len t) = ((prsE (sgn t) (tx_len t) 6 4 []).1, zdg (sgn t 0), zdg (sgn t 2) * 10 + zdg (sgn t 3), (prsE (sgn t) (tx_len t) 6 4 []).2) := (by unfold prs; rw [if_neg (by omega), if_neg (by omega), if_neg (by omega), if_neg (by omega)]); rw [hP]; exact ⟨hh_84.1, fun _ => ⟨by rw [hh_84.2.1.2.2.1, hh_84.2.1.2.2.2], hh_84.2.2.2.1, hh_84.2.2.2.2⟩, ⟨hh_84.2.1.1, hh_84.2.1.2.1⟩, hh_84.2.2.1⟩⟩)
        · refine lv_aload_n hx hb dX3_findFault_63 rfl (lv_at hl 1 rfl) ?_
          refine lv_iconst (v := zI (3)) hx hb dX3_findFault_64 rfl ?_
          refine z_callV (r := (RX3, TX3, 6)) (As := [.int (zI 3)]) (rest := []) hS hK hA hW hl.1 [0] [] (kX3_findFaultInEvents l D cI cB a ((tx_dur_ (tx_scn_ t (zdg (sgn t 0))) (zdg (sgn t 2)))) 3 hTk (by omega)) (cwV 1 hts gX3_findFault_X3_findFaultInEvents rfl rfl rfl (by decide +kernel) ⟨Nat.le_of_ble_eq_true rfl, Nat.le_of_ble_eq_true rfl⟩) (rfl : vwCl[3]? = some (RX3, TX3, 6)) (q0 := 0) rfl dX3_findFault_65 rfl rfl rfl rfl rfl (Nat.le_of_ble_eq_true rfl) ⟨Nat.le_of_ble_eq_true rfl, Nat.le_of_ble_eq_true rfl⟩ (fun v9 w9 H locs hq hW => ?_)
          obtain ⟨rr_65, tz_65, rfl, rfl, hh_65⟩ := hq
          have hW : zW D A s.heap [zText cI a tz_65] H locs := hW
          refine W.eq (g2 := F0 m 68 ls [.int (zI rr_65)]) rfl ?_
          exact z_iret (v := rr_65) hx hb hr hlk hW dX3_findFault_68 (by
              exact ⟨rr_65, tz_65, rfl, rfl, by have hP : prs (sgn t) (tx_len t) = ((prsE (sgn t) (tx_len t) 6 3 []).1, zdg (sgn t 0), zdg (sgn t 2), (prsE (sgn t) (tx_len t) 6 3 []).2) := (by unfold prs; rw [if_neg (by omega), if_neg (by omega), if_neg (by omega), if_pos (by omega)]); rw [hP]; exact ⟨hh_65.1, fun _ => ⟨by rw [hh_65.2.1.2.2.1, hh_65.2.1.2.2.2], hh_65.2.2.2.1, hh_65.2.2.2.2⟩, ⟨hh_65.2.1.1, hh_65.2.1.2.1⟩, hh_65.2.2.1⟩⟩)
      · refine lv_iconst (v := zI (2)) hx hb dX3_findFault_50 rfl ?_
        exact z_iret (v := 2) hx hb hr hlk hW dX3_findFault_51 (by
            exact ⟨2, (tx_dur_ (tx_scn_ t (zdg (sgn t 0))) (zdg (sgn t 2))), rfl, rfl, by refine ⟨by unfold prs; rw [if_neg (by omega), if_neg (by omega), if_pos (by omega)], fun hcz => absurd hcz (by decide), ⟨rfl, rfl⟩, hTk⟩⟩)
    · refine lv_iconst (v := zI (1)) hx hb dX3_findFault_31 rfl ?_
      exact z_iret (v := 1) hx hb hr hlk hW dX3_findFault_32 (by
          exact ⟨1, (tx_scn_ t (zdg (sgn t 0))), rfl, rfl, by refine ⟨by unfold prs; rw [if_neg (by omega), if_pos (by omega)], fun hcz => absurd hcz (by decide), ⟨rfl, rfl⟩, hTk⟩⟩)
  · refine lv_iconst (v := zI (0)) hx hb dX3_findFault_19 rfl ?_
    exact z_iret (v := 0) hx hb hr hlk hW dX3_findFault_20 (by
        exact ⟨0, (tx_scn_ t (zdg (sgn t 0))), rfl, rfl, by refine ⟨by unfold prs; rw [if_pos (by omega)], fun hcz => absurd hcz (by decide), ⟨rfl, rfl⟩, hTk⟩⟩)
