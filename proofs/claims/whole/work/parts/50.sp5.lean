abbrev qX4_firstBreak (cI : ClassId) (x : Nat) (axb axn : Nat → Nat) (xk : Int) (xh : Nat) (axt axc : Nat → Nat) (b : zBS) (cn : zCS) (y1 y2 : Int) (pC : List zPn) (pO : List Int) (ev : Int) : Option Value → List va_W → Prop := fun vq wq => ∃ (r : Int) (cz : zCS), vq = some (.int (zI r)) ∧ wq = [[(x, .inr (4, [.ref (axb 0), .ref (axn 0), .int (zI xk), .ref xh, .ref (axt 0), .ref (axc 0)]))], zBoard cI axb b, zCont cI axc cz] ∧ (fstR pC y1 y2 r)
set_option maxRecDepth 20000 in
theorem iX4_firstBreak_X4 : ∀ w ∈ u_ws RX4 TX4 6, w ∈ wsX4_firstBreak := by decide +kernel
set_option maxRecDepth 20000 in
theorem mX4_firstBreak_1 : (.fieldLink RX4 40 "StoryPanels" "continuity" "LStoryPanels$Continuity;" : Cond) ∈ wsX4_firstBreak := by decide +kernel
set_option maxHeartbeats 4000000 in
set_option maxRecDepth 100000 in
theorem kX4_firstBreak (l : Launch) (D : va_G) (cI cB : ClassId) (x : Nat) (axb axn : Nat → Nat) (xk : Int) (xh : Nat) (axt axc : Nat → Nat) (b : zBS) (cn : zCS) (y1 y2 : Int) (pC : List zPn) (pO : List Int) (ev : Int) (hR : RB b pC pO ev) (hy1 : R32 y1) (hy2 : R32 y2) : zMet l yX4_firstBreak wsX4_firstBreak 6 148 0 0 D cI cB [.ref x, .int (zI y1), .int (zI y2)] [[(x, .inr (4, [.ref (axb 0), .ref (axn 0), .int (zI xk), .ref xh, .ref (axt 0), .ref (axc 0)]))], zBoard cI axb b, zCont cI axc cn] (qX4_firstBreak cI x axb axn xk xh axt axc b cn y1 y2 pC pO ev) := by
  refine zMet.of (cd := cX4_firstBreak) (maxL := 4) (ret := (some .int)) (by decide) rfl (Nat.le_of_ble_eq_true rfl) ?_
  intro p e s m args below meth c A ls hS hr hlk hnm hK hA hW hl
  have hS : CallFix p m c cX4_firstBreak 4 s args wsX4_firstBreak RX4 := hS
  have hx := hS.1
  have hb := hS.2.1
  have hown := hS.2.2.2.1
  have hts := hS.2.2.2.2
  have hl : lv_has ls 4 [(0, .ref x), (1, .int (zI y1)), (2, .int (zI y2))] := hl
  have hRz := hR.1.1
  have hRl := hR.2.1
  have hnb := nbC_rg hR
  refine lv_iload_n hx hb dX4_firstBreak_0 rfl (lv_at hl 1 rfl) ?_
  refine z_callS (As := [.int (zI y1)]) (rest := []) hS hK hA hW hl.1 [] [0, 1, 2] (kX4_isScene l D cI cB y1 (by omega)) (va_cwS 1 hts gX4_firstBreak_X4_isScene rfl rfl rfl (by decide +kernel) ⟨Nat.le_of_ble_eq_true rfl, Nat.le_of_ble_eq_true rfl⟩) dX4_firstBreak_1 rfl rfl rfl rfl rfl (Nat.le_of_ble_eq_true rfl) ⟨Nat.le_of_ble_eq_true rfl, Nat.le_of_ble_eq_true rfl⟩ (fun v9 w9 H locs hq hW => ?_)
  obtain ⟨rr_1, rfl, rfl, hh_1⟩ := hq
  have hW : zW D A s.heap [[(x, .inr (4, [.ref (axb 0), .ref (axn 0), .int (zI xk), .ref xh, .ref (axt 0), .ref (axc 0)]))], zBoard cI axb b, zCont cI axc cn] H locs := hW
  refine W.eq (g2 := F0 m 4 ls [.int (zI rr_1)]) rfl ?_
  refine z_if_ne (tgt := 9) hx hb dX4_firstBreak_4 (by decide) (by omega) (fun cc_4 => ?_) (fun cc_4 => ?_)
  · refine lv_iload_n hx hb dX4_firstBreak_9 rfl (lv_at hl 2 rfl) ?_
    refine z_if_lt (tgt := 18) hx hb dX4_firstBreak_10 (by decide) (by omega) (fun cc_10 => ?_) (fun cc_10 => ?_)
    · refine lv_bipush (v := zI (-2)) hx hb dX4_firstBreak_18 (by decide +kernel) ?_
      exact z_iret (v := (-2)) hx hb hr hlk hW dX4_firstBreak_20 (by
          exact ⟨(-2), cn, rfl, rfl, by exact Or.inr ⟨by omega, Or.inl ⟨by omega, rfl⟩⟩⟩)
    · refine lv_iload_n hx hb dX4_firstBreak_13 rfl (lv_at hl 2 rfl) ?_
      refine lv_iconst (v := zI (2)) hx hb dX4_firstBreak_14 rfl ?_
      refine z_icmp_le (tgt := 21) hx hb dX4_firstBreak_15 (by decide) (by omega) (fun cc_15 => ?_) (fun cc_15 => ?_)
      · refine lv_aload_n hx hb dX4_firstBreak_21 rfl (lv_at hl 0 rfl) ?_
        refine lv_iload_n hx hb dX4_firstBreak_22 rfl (lv_at hl 1 rfl) ?_
        refine z_callV (r := (RX4, TX4, 6)) (As := [.int (zI y1)]) (rest := []) hS hK hA hW hl.1 [0, 1, 2] [] (kX4_rankOfFirstBreak l D cI cB x axb axn xk xh axt axc b cn y1 pC pO ev hR (by omega)) (cwV 1 hts gX4_firstBreak_X4_rankOfFirstBreak rfl rfl rfl (by decide +kernel) ⟨Nat.le_of_ble_eq_true rfl, Nat.le_of_ble_eq_true rfl⟩) (rfl : vwCl[4]? = some (RX4, TX4, 6)) (q0 := 0) rfl dX4_firstBreak_23 rfl rfl rfl rfl rfl (Nat.le_of_ble_eq_true rfl) ⟨Nat.le_of_ble_eq_true rfl, Nat.le_of_ble_eq_true rfl⟩ (fun v9 w9 H locs hq hW => ?_)
        obtain ⟨rr_23, cz_23, rfl, rfl, hh_23⟩ := hq
        have hW : zW D A s.heap [[(x, .inr (4, [.ref (axb 0), .ref (axn 0), .int (zI xk), .ref xh, .ref (axt 0), .ref (axc 0)]))], zBoard cI axb b, zCont cI axc cz_23] H locs := hW
        refine W.eq (g2 := F0 m 26 ls [.int (zI rr_23)]) rfl ?_
        have hfb := hh_23.1
        have hgz := hh_23.2
        have hfr : -1 ≤ rr_23 ∧ rr_23 < nbC pC := by rcases hfb with ⟨hq, -⟩ | ⟨hq, -⟩ <;> omega
        refine lv_istore_n (lv' := [(3, .int (zI rr_23)), (0, .ref x), (1, .int (zI y1)), (2, .int (zI y2))]) hx hb dX4_firstBreak_26 rfl hl (by decide) rfl (fun ls hl => ?_)
        refine lv_iload_n hx hb dX4_firstBreak_27 rfl (lv_at hl 0 rfl) ?_
        refine lv_iconst (v := zI (-1)) hx hb dX4_firstBreak_28 rfl ?_
        refine z_icmp_ne (tgt := 35) hx hb dX4_firstBreak_29 (by decide) (by omega) (fun cc_29 => ?_) (fun cc_29 => ?_)
        · refine lv_iload_n hx hb dX4_firstBreak_35 rfl (lv_at hl 3 rfl) ?_
          rcases (show y2 = 0 ∨ y2 = 1 ∨ y2 = 2 by omega) with ww_36 | ww_36 | ww_36
          · refine z_lookup (k := 0) (off := 28) (tgt := 64) hx hb dX4_firstBreak_36 ww_36 (by decide) (by decide +kernel) (by decide +kernel) (by decide) ?_
            refine lv_aload_n hx hb dX4_firstBreak_64 rfl (lv_at hl 1 rfl) ?_
            refine va_get (D := D) (ci := 4) (v := .ref (axc 0)) (C := RX4) (T := TX4) (N := 6) hx hb hts iX4_firstBreak_X4 hown hK.1 hW.1 0 rfl rfl 5 (by decide) (hts _ mX4_firstBreak_1) (fun _ h9 => h9) rfl dX4_firstBreak_65 ?_
            refine lv_iload_n hx hb dX4_firstBreak_68 rfl (lv_at hl 0 rfl) ?_
            refine lv_iconst (v := zI (0)) hx hb dX4_firstBreak_69 rfl ?_
            refine z_callV (r := (RX1, TX1, 6)) (As := [.int (zI rr_23), .int (zI 0)]) (rest := []) hS hK hA hW hl.1 [2] [0, 1] (kX1_numberOfBreak l D cI cB axc cz_23 rr_23 0 (by omega) (by omega)) (cwV 2 hts gX4_firstBreak_X1_numberOfBreak rfl rfl rfl (by decide +kernel) ⟨Nat.le_of_ble_eq_true rfl, Nat.le_of_ble_eq_true rfl⟩) (rfl : vwCl[1]? = some (RX1, TX1, 6)) (q0 := 9) rfl dX4_firstBreak_70 rfl rfl rfl rfl rfl (Nat.le_of_ble_eq_true rfl) ⟨Nat.le_of_ble_eq_true rfl, Nat.le_of_ble_eq_true rfl⟩ (fun v9 w9 H locs hq hW => ?_)
            obtain ⟨rr_70, rfl, rfl, hh_70⟩ := hq
            subst rr_70
            have hW : zW D A s.heap [zCont cI axc cz_23, [(x, .inr (4, [.ref (axb 0), .ref (axn 0), .int (zI xk), .ref xh, .ref (axt 0), .ref (axc 0)]))], zBoard cI axb b] H locs := hW
            have hW : zW D A s.heap [[(x, .inr (4, [.ref (axb 0), .ref (axn 0), .int (zI xk), .ref xh, .ref (axt 0), .ref (axc 0)]))], zBoard cI axb b, zCont cI axc cz_23] H locs := hW.pick [1, 2, 0] rfl rfl
            refine W.eq (g2 := F0 m 73 ls [.int (zI (ct_brk cz_23 (rr_23 * 5 + 0)))]) rfl ?_
            rw [show (ct_brk cz_23 (rr_23 * 5 + 0)) = (bkGet (brkAt pC rr_23) 0) by exact RCh_get hgz (by omega) (by omega)]
            exact z_iret (v := bkGet (brkAt pC rr_23) 0) hx hb hr hlk hW dX4_firstBreak_73 (by
                exact ⟨bkGet (brkAt pC rr_23) 0, cz_23, rfl, rfl, by exact Or.inr ⟨by omega, Or.inr ⟨by omega, rr_23, hfb, Or.inr ⟨by omega, by rw [ww_36]; rfl⟩⟩⟩⟩)
          · refine z_lookup (k := 1) (off := 38) (tgt := 74) hx hb dX4_firstBreak_36 ww_36 (by decide) (by decide +kernel) (by decide +kernel) (by decide) ?_
            refine lv_aload_n hx hb dX4_firstBreak_74 rfl (lv_at hl 1 rfl) ?_
            refine va_get (D := D) (ci := 4) (v := .ref (axc 0)) (C := RX4) (T := TX4) (N := 6) hx hb hts iX4_firstBreak_X4 hown hK.1 hW.1 0 rfl rfl 5 (by decide) (hts _ mX4_firstBreak_1) (fun _ h9 => h9) rfl dX4_firstBreak_75 ?_
            refine lv_iload_n hx hb dX4_firstBreak_78 rfl (lv_at hl 0 rfl) ?_
            refine lv_iconst (v := zI (1)) hx hb dX4_firstBreak_79 rfl ?_
            refine z_callV (r := (RX1, TX1, 6)) (As := [.int (zI rr_23), .int (zI 1)]) (rest := []) hS hK hA hW hl.1 [2] [0, 1] (kX1_numberOfBreak l D cI cB axc cz_23 rr_23 1 (by omega) (by omega)) (cwV 2 hts gX4_firstBreak_X1_numberOfBreak rfl rfl rfl (by decide +kernel) ⟨Nat.le_of_ble_eq_true rfl, Nat.le_of_ble_eq_true rfl⟩) (rfl : vwCl[1]? = some (RX1, TX1, 6)) (q0 := 9) rfl dX4_firstBreak_80 rfl rfl rfl rfl rfl (Nat.le_of_ble_eq_true rfl) ⟨Nat.le_of_ble_eq_true rfl, Nat.le_of_ble_eq_true rfl⟩ (fun v9 w9 H locs hq hW => ?_)
            obtain ⟨rr_80, rfl, rfl, hh_80⟩ := hq
            subst rr_80
            have hW : zW D A s.heap [zCont cI axc cz_23, [(x, .inr (4, [.ref (axb 0), .ref (axn 0), .int (zI xk), .ref xh, .ref (axt 0), .ref (axc 0)]))], zBoard cI axb b] H locs := hW
            have hW : zW D A s.heap [[(x, .inr (4, [.ref (axb 0), .ref (axn 0), .int (zI xk), .ref xh, .ref (axt 0), .ref (axc 0)]))], zBoard cI axb b, zCont cI axc cz_23] H locs := hW.pick [1, 2, 0] rfl rfl
            refine W.eq (g2 := F0 m 83 ls [.int (zI (ct_brk cz_23 (rr_23 * 5 + 1)))]) rfl ?_
            rw [show (ct_brk cz_23 (rr_23 * 5 + 1)) = (bkGet (brkAt pC rr_23) 1) by exact RCh_get hgz (by omega) (by omega)]
            exact z_iret (v := bkGet (brkAt pC rr_23) 1) hx hb hr hlk hW dX4_firstBreak_83 (by
                exact ⟨bkGet (brkAt pC rr_23) 1, cz_23, rfl, rfl, by exact Or.inr ⟨by omega, Or.inr ⟨by omega, rr_23, hfb, Or.inr ⟨by omega, by rw [ww_36]; rfl⟩⟩⟩⟩)
          · refine z_lookup (k := 2) (off := 48) (tgt := 84) hx hb dX4_firstBreak_36 ww_36 (by decide) (by decide +kernel) (by decide +kernel) (by decide) ?_
            refine lv_iload_n hx hb dX4_firstBreak_84 rfl (lv_at hl 0 rfl) ?_
            exact z_iret (v := rr_23) hx hb hr hlk hW dX4_firstBreak_85 (by
                exact ⟨rr_23, cz_23, rfl, rfl, by exact Or.inr ⟨by omega, Or.inr ⟨by omega, rr_23, hfb, Or.inr ⟨by omega, by rw [ww_36]; rfl⟩⟩⟩⟩)
        · refine lv_bipush (v := zI (-5)) hx hb dX4_firstBreak_32 (by decide +kernel) ?_
          exact z_iret (v := (-5)) hx hb hr hlk hW dX4_firstBreak_34 (by
              exact ⟨(-5), cz_23, rfl, rfl, by exact Or.inr ⟨by omega, Or.inr ⟨by omega, rr_23, hfb, Or.inl ⟨by omega, rfl⟩⟩⟩⟩)
      · refine lv_bipush (v := zI (-2)) hx hb dX4_firstBreak_18 (by decide +kernel) ?_
        exact z_iret (v := (-2)) hx hb hr hlk hW dX4_firstBreak_20 (by
            exact ⟨(-2), cn, rfl, rfl, by exact Or.inr ⟨by omega, Or.inl ⟨by omega, rfl⟩⟩⟩)
  · refine lv_iconst (v := zI (-1)) hx hb dX4_firstBreak_7 rfl ?_
    exact z_iret (v := (-1)) hx hb hr hlk hW dX4_firstBreak_8 (by
        exact ⟨(-1), cn, rfl, rfl, by exact Or.inl ⟨by omega, rfl⟩⟩)
