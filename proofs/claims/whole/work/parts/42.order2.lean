abbrev qX0_putSceneAt (cI : ClassId) (a : Nat → Nat) (b : zBS) (x y : Int) : Option Value → List va_W → Prop := fun vq wq => ∃ (fz : Int → Int), vq = none ∧ wq = [zBoard cI a (bd_lin_ (bd_plc_ b (plcM b x y)) fz)] ∧ (srt (bd_lin b) fz (fun u => plcM b x y (bd_scn b u)) (bd_sz b))
set_option maxRecDepth 20000 in
theorem iX0_putSceneAt_X0 : ∀ w ∈ u_ws RX0 TX0 9, w ∈ wsX0_putSceneAt := by decide +kernel
set_option maxRecDepth 20000 in
theorem mX0_putSceneAt_1 : (.fieldLink RX0 30 "StoryPanels$Board" "scenePlaces" "[I" : Cond) ∈ wsX0_putSceneAt := by decide +kernel
set_option maxRecDepth 20000 in
theorem mX0_putSceneAt_2 : (.initialized RX4 : Cond) ∈ wsX0_putSceneAt := by decide +kernel
set_option maxRecDepth 20000 in
theorem mX0_putSceneAt_3 : (.static yX4_setCell : Cond) ∈ wsX0_putSceneAt := by decide +kernel
set_option maxHeartbeats 4000000 in
set_option maxRecDepth 100000 in
theorem kX0_putSceneAt (l : Launch) (D : va_G) (cI cB : ClassId) (a : Nat → Nat) (b : zBS) (x y : Int) (hBk : BOK b) (hx1 : 0 ≤ x ∧ x < 5) (hy1 : 0 ≤ y ∧ y < 5) : zMet l yX0_putSceneAt wsX0_putSceneAt 3 66 0 0 D cI cB [.ref (a 0), .int (zI x), .int (zI y)] [zBoard cI a b] (qX0_putSceneAt cI a b x y) := by
  refine zMet.of (cd := cX0_putSceneAt) (maxL := 6) (ret := none) (by decide) rfl (Nat.le_of_ble_eq_true rfl) ?_
  intro p e s m args below meth c A ls hS hr hlk hnm hK hA hW hl
  have hS : CallFix p m c cX0_putSceneAt 6 s args wsX0_putSceneAt RX0 := hS
  have hx := hS.1
  have hb := hS.2.1
  have hown := hS.2.2.2.1
  have hts := hS.2.2.2.2
  have hl : lv_has ls 6 [(0, .ref (a 0)), (1, .int (zI x)), (2, .int (zI y))] := hl
  obtain ⟨hzz, hsf, hlin, hnum, hscn, hdur, hcnt, hcod, hplc⟩ := id hBk
  have qq_x := hplc x (by omega) (by omega)
  have hB9 := BOK_plc hBk (plcM_rg hBk hx1 hy1)
  refine lv_aload_n hx hb dX0_putSceneAt_0 rfl (lv_at hl 0 rfl) ?_
  refine lv_iload_n hx hb dX0_putSceneAt_1 rfl (lv_at hl 1 rfl) ?_
  refine z_callV (r := (RX0, TX0, 9)) (As := [.int (zI x)]) (rest := []) hS hK hA hW hl.1 [0] [] (kX0_placeOfScene l D cI cB a b x hBk (by omega)) (cwV 1 hts gX0_putSceneAt_X0_placeOfScene rfl rfl rfl (by decide +kernel) ⟨Nat.le_of_ble_eq_true rfl, Nat.le_of_ble_eq_true rfl⟩) (rfl : vwCl[0]? = some (RX0, TX0, 9)) (q0 := 0) rfl dX0_putSceneAt_2 rfl rfl rfl rfl rfl (Nat.le_of_ble_eq_true rfl) ⟨Nat.le_of_ble_eq_true rfl, Nat.le_of_ble_eq_true rfl⟩ (fun v9 w9 H locs hq hW => ?_)
  obtain ⟨rr_2, rfl, rfl, hh_2⟩ := hq
  subst rr_2
  have hW : zW D A s.heap [zBoard cI a b] H locs := hW
  refine W.eq (g2 := F0 m 5 ls [.int (zI (bd_plc b x))]) rfl ?_
  refine lv_istore_n (lv' := [(3, .int (zI (bd_plc b x))), (0, .ref (a 0)), (1, .int (zI x)), (2, .int (zI y))]) hx hb dX0_putSceneAt_5 rfl hl (by decide) rfl (fun ls hl => ?_)
  refine lv_iconst (v := zI (0)) hx hb dX0_putSceneAt_6 rfl ?_
  refine lv_istore (lv' := [(4, .int (zI 0)), (3, .int (zI (bd_plc b x))), (0, .ref (a 0)), (1, .int (zI x)), (2, .int (zI y))]) hx hb dX0_putSceneAt_7 hl (by decide) rfl (fun ls hl => ?_)
  have L9 : ∀ (fu : Nat) (ko : Int) (hc : Int → Int), (0 ≤ ko ∧ ko ≤ 5) → (hc = shp (bd_plc b) (bd_plc b x) y ko) → (∀ k, 0 ≤ k → k < 5 → 0 ≤ hc k ∧ hc k < 5) → (5 - ko) < (fu : Int) → ∀ (H : Heap) (locs : List Loc), zW D A s.heap [zBoard cI a (bd_plc_ b (hc))] H locs → ∀ (ls : Array Slot), lv_has ls 6 [(0, .ref (a 0)), (1, .int (zI x)), (2, .int (zI y)), (3, .int (zI (bd_plc b x))), (4, .int (zI ko))] → W p l e { frames := 3, cells := 0, slots := 0, locals := 66 } s m args below meth c H locs 0 0 (MQ below (zQ A D (qX0_putSceneAt cI a b x y)) args s 0 0 A) (F0 m 9 ls []) := by
    intro fu
    induction fu with
    | zero => intro ko hc hko hhc hcr hm; exact absurd hm (by omega)
    | succ fu ih9 =>
      intro ko hc hko hhc hcr hm H locs hW ls hl
      refine lv_iload hx hb dX0_putSceneAt_9 (lv_at hl 4 rfl) ?_
      refine lv_iconst (v := zI (5)) hx hb dX0_putSceneAt_11 rfl ?_
      refine z_icmp_ge (tgt := 82) hx hb dX0_putSceneAt_12 (by decide) (by omega) (fun cc_12 => ?_) (fun cc_12 => ?_)
      · refine lv_aload_n hx hb dX0_putSceneAt_82 rfl (lv_at hl 0 rfl) ?_
        refine va_get (D := D) (ci := 0) (v := .ref (a 7)) (C := RX0) (T := TX0) (N := 9) hx hb hts iX0_putSceneAt_X0 hown hK.1 hW.1 0 rfl rfl 6 (by decide) (hts _ mX0_putSceneAt_1) (fun _ h9 => h9) rfl dX0_putSceneAt_83 ?_
        refine lv_iload_n hx hb dX0_putSceneAt_86 rfl (lv_at hl 1 rfl) ?_
        refine lv_iload_n hx hb dX0_putSceneAt_87 rfl (lv_at hl 2 rfl) ?_
        refine z_setCell (n := 5) (g := hc) (i := x) (v := y) (rest := []) (bs1 := [zBoard cI a (bd_plc_ b (zU hc x y))]) hS hK hA hW hl.1 7 rfl (gX0_putSceneAt_X4_setCell_n44) nm_10 (mX0_putSceneAt_2) (mX0_putSceneAt_3) ⟨Nat.le_of_ble_eq_true rfl, Nat.le_of_ble_eq_true rfl⟩ dX0_putSceneAt_88 (by omega) rfl (Nat.le_of_ble_eq_true rfl) ⟨Nat.le_of_ble_eq_true rfl, Nat.le_of_ble_eq_true rfl⟩ (fun H locs hW => ?_)
        refine lv_aload_n hx hb dX0_putSceneAt_91 rfl (lv_at hl 0 rfl) ?_
        have hW : zW D A s.heap [zBoard cI a (bd_plc_ b (plcM b x y))] H locs := by rw [show ko = 5 by omega] at hhc; rw [hhc] at hW; exact hW
        refine z_callV (r := (RX0, TX0, 9)) (As := []) (rest := []) hS hK hA hW hl.1 [0] [] (kX0_sortLine l D cI cB a ((bd_plc_ b (plcM b x y))) hB9) (cwV 0 hts gX0_putSceneAt_X0_sortLine rfl rfl rfl (by decide +kernel) ⟨Nat.le_of_ble_eq_true rfl, Nat.le_of_ble_eq_true rfl⟩) (rfl : vwCl[0]? = some (RX0, TX0, 9)) (q0 := 0) rfl dX0_putSceneAt_92 rfl rfl rfl rfl rfl (Nat.le_of_ble_eq_true rfl) ⟨Nat.le_of_ble_eq_true rfl, Nat.le_of_ble_eq_true rfl⟩ (fun v9 w9 H locs hq hW => ?_)
        obtain ⟨fz_92, rfl, rfl, hh_92⟩ := hq
        have hW : zW D A s.heap [zBoard cI a (bd_lin_ (bd_plc_ b (plcM b x y)) (fz_92))] H locs := hW
        refine W.eq (g2 := F0 m 95 ls []) rfl ?_
        exact z_vret hx hb hr hlk hW dX0_putSceneAt_95 (by
            exact ⟨fz_92, rfl, rfl, by exact hh_92⟩)
      · refine lv_aload_n hx hb dX0_putSceneAt_15 rfl (lv_at hl 0 rfl) ?_
        refine lv_iload hx hb dX0_putSceneAt_16 (lv_at hl 4 rfl) ?_
        refine z_callV (r := (RX0, TX0, 9)) (As := [.int (zI ko)]) (rest := []) hS hK hA hW hl.1 [0] [] (kX0_placeOfScene l D cI cB a ((bd_plc_ b (hc))) ko (BOK_plc hBk hcr) (by omega)) (cwV 1 hts gX0_putSceneAt_X0_placeOfScene rfl rfl rfl (by decide +kernel) ⟨Nat.le_of_ble_eq_true rfl, Nat.le_of_ble_eq_true rfl⟩) (rfl : vwCl[0]? = some (RX0, TX0, 9)) (q0 := 0) rfl dX0_putSceneAt_18 rfl rfl rfl rfl rfl (Nat.le_of_ble_eq_true rfl) ⟨Nat.le_of_ble_eq_true rfl, Nat.le_of_ble_eq_true rfl⟩ (fun v9 w9 H locs hq hW => ?_)
        obtain ⟨rr_18, rfl, rfl, hh_18⟩ := hq
        subst rr_18
        have hW : zW D A s.heap [zBoard cI a (bd_plc_ b (hc))] H locs := hW
        refine W.eq (g2 := F0 m 21 ls [.int (zI (bd_plc ((bd_plc_ b (hc))) ko))]) rfl ?_
        rw [show (bd_plc ((bd_plc_ b (hc))) ko) = (bd_plc b ko) by (show hc ko = _; rw [hhc]; exact shp_at _)]
        have qq_18 := hplc ko (by omega) (by omega)
        refine lv_istore (lv' := [(5, .int (zI (bd_plc b ko))), (0, .ref (a 0)), (1, .int (zI x)), (2, .int (zI y)), (3, .int (zI (bd_plc b x))), (4, .int (zI ko))]) hx hb dX0_putSceneAt_21 hl (by decide) rfl (fun ls hl => ?_)
        refine lv_iload hx hb dX0_putSceneAt_23 (lv_at hl 0 rfl) ?_
        refine lv_iload_n hx hb dX0_putSceneAt_25 rfl (lv_at hl 4 rfl) ?_
        refine z_icmp_le (tgt := 51) hx hb dX0_putSceneAt_26 (by decide) (by omega) (fun cc_26 => ?_) (fun cc_26 => ?_)
        · refine lv_iload hx hb dX0_putSceneAt_51 (lv_at hl 0 rfl) ?_
          refine lv_iload_n hx hb dX0_putSceneAt_53 rfl (lv_at hl 4 rfl) ?_
          refine z_icmp_ge (tgt := 76) hx hb dX0_putSceneAt_54 (by decide) (by omega) (fun cc_54 => ?_) (fun cc_54 => ?_)
          · refine z_iinc (x := ko) (lv' := [(4, .int (zI (ko + 1))), (5, .int (zI (bd_plc b ko))), (0, .ref (a 0)), (1, .int (zI x)), (2, .int (zI y)), (3, .int (zI (bd_plc b x)))]) hx hb dX0_putSceneAt_76 hl (k := 5) rfl (by decide) rfl (fun ls hl => ?_)
            refine lv_goto (tgt := 9) hx hb dX0_putSceneAt_79 (by decide) ?_
            exact ih9 (ko + 1) hc (by omega) (by rw [hhc]; first | exact shp_s _ hko.1 (mvP_a (by omega)).symm | exact shp_s _ hko.1 (mvP_b (by omega)).symm | exact shp_n _ hko.1 (mvP_n (by omega) (by omega))) (by first | exact hcr | exact zU_5 hcr (by omega)) (by omega) _ _ hW ls (lv_sub hl [2, 3, 4, 5, 0] rfl)
          · refine lv_iload hx hb dX0_putSceneAt_57 (lv_at hl 0 rfl) ?_
            refine lv_iload_n hx hb dX0_putSceneAt_59 rfl (lv_at hl 3 rfl) ?_
            refine z_icmp_lt (tgt := 76) hx hb dX0_putSceneAt_60 (by decide) (by omega) (fun cc_60 => ?_) (fun cc_60 => ?_)
            · refine z_iinc (x := ko) (lv' := [(4, .int (zI (ko + 1))), (5, .int (zI (bd_plc b ko))), (0, .ref (a 0)), (1, .int (zI x)), (2, .int (zI y)), (3, .int (zI (bd_plc b x)))]) hx hb dX0_putSceneAt_76 hl (k := 5) rfl (by decide) rfl (fun ls hl => ?_)
              refine lv_goto (tgt := 9) hx hb dX0_putSceneAt_79 (by decide) ?_
              exact ih9 (ko + 1) hc (by omega) (by rw [hhc]; first | exact shp_s _ hko.1 (mvP_a (by omega)).symm | exact shp_s _ hko.1 (mvP_b (by omega)).symm | exact shp_n _ hko.1 (mvP_n (by omega) (by omega))) (by first | exact hcr | exact zU_5 hcr (by omega)) (by omega) _ _ hW ls (lv_sub hl [2, 3, 4, 5, 0] rfl)
            · refine lv_aload_n hx hb dX0_putSceneAt_63 rfl (lv_at hl 1 rfl) ?_
              refine va_get (D := D) (ci := 0) (v := .ref (a 7)) (C := RX0) (T := TX0) (N := 9) hx hb hts iX0_putSceneAt_X0 hown hK.1 hW.1 0 rfl rfl 6 (by decide) (hts _ mX0_putSceneAt_1) (fun _ h9 => h9) rfl dX0_putSceneAt_64 ?_
              refine lv_iload hx hb dX0_putSceneAt_67 (lv_at hl 5 rfl) ?_
              refine lv_iload hx hb dX0_putSceneAt_69 (lv_at hl 0 rfl) ?_
              refine lv_iconst (v := zI (1)) hx hb dX0_putSceneAt_71 rfl ?_
              refine z_iadd hx hb dX0_putSceneAt_72 ?_
              refine z_setCell (n := 5) (g := hc) (i := ko) (v := (bd_plc b ko) + 1) (rest := []) (bs1 := [zBoard cI a (bd_plc_ b (zU hc ko ((bd_plc b ko) + 1)))]) hS hK hA hW hl.1 7 rfl (gX0_putSceneAt_X4_setCell_n44) nm_10 (mX0_putSceneAt_2) (mX0_putSceneAt_3) ⟨Nat.le_of_ble_eq_true rfl, Nat.le_of_ble_eq_true rfl⟩ dX0_putSceneAt_73 (by omega) rfl (Nat.le_of_ble_eq_true rfl) ⟨Nat.le_of_ble_eq_true rfl, Nat.le_of_ble_eq_true rfl⟩ (fun H locs hW => ?_)
              refine z_iinc (x := ko) (lv' := [(4, .int (zI (ko + 1))), (5, .int (zI (bd_plc b ko))), (0, .ref (a 0)), (1, .int (zI x)), (2, .int (zI y)), (3, .int (zI (bd_plc b x)))]) hx hb dX0_putSceneAt_76 hl (k := 5) rfl (by decide) rfl (fun ls hl => ?_)
              refine lv_goto (tgt := 9) hx hb dX0_putSceneAt_79 (by decide) ?_
              exact ih9 (ko + 1) (zU hc ko ((bd_plc b ko) + 1)) (by omega) (by rw [hhc]; first | exact shp_s _ hko.1 (mvP_a (by omega)).symm | exact shp_s _ hko.1 (mvP_b (by omega)).symm | exact shp_n _ hko.1 (mvP_n (by omega) (by omega))) (by first | exact hcr | exact zU_5 hcr (by omega)) (by omega) _ _ hW ls (lv_sub hl [2, 3, 4, 5, 0] rfl)
        · refine lv_iload hx hb dX0_putSceneAt_29 (lv_at hl 0 rfl) ?_
          refine lv_iload_n hx hb dX0_putSceneAt_31 rfl (lv_at hl 3 rfl) ?_
          refine z_icmp_gt (tgt := 51) hx hb dX0_putSceneAt_32 (by decide) (by omega) (fun cc_32 => ?_) (fun cc_32 => ?_)
          · refine lv_iload hx hb dX0_putSceneAt_51 (lv_at hl 0 rfl) ?_
            refine lv_iload_n hx hb dX0_putSceneAt_53 rfl (lv_at hl 4 rfl) ?_
            refine z_icmp_ge (tgt := 76) hx hb dX0_putSceneAt_54 (by decide) (by omega) (fun cc_54 => ?_) (fun cc_54 => ?_)
            · refine z_iinc (x := ko) (lv' := [(4, .int (zI (ko + 1))), (5, .int (zI (bd_plc b ko))), (0, .ref (a 0)), (1, .int (zI x)), (2, .int (zI y)), (3, .int (zI (bd_plc b x)))]) hx hb dX0_putSceneAt_76 hl (k := 5) rfl (by decide) rfl (fun ls hl => ?_)
              refine lv_goto (tgt := 9) hx hb dX0_putSceneAt_79 (by decide) ?_
              exact ih9 (ko + 1) hc (by omega) (by rw [hhc]; first | exact shp_s _ hko.1 (mvP_a (by omega)).symm | exact shp_s _ hko.1 (mvP_b (by omega)).symm | exact shp_n _ hko.1 (mvP_n (by omega) (by omega))) (by first | exact hcr | exact zU_5 hcr (by omega)) (by omega) _ _ hW ls (lv_sub hl [2, 3, 4, 5, 0] rfl)
            · refine lv_iload hx hb dX0_putSceneAt_57 (lv_at hl 0 rfl) ?_
              refine lv_iload_n hx hb dX0_putSceneAt_59 rfl (lv_at hl 3 rfl) ?_
              refine z_icmp_lt (tgt := 76) hx hb dX0_putSceneAt_60 (by decide) (by omega) (fun cc_60 => ?_) (fun cc_60 => ?_)
              · refine z_iinc (x := ko) (lv' := [(4, .int (zI (ko + 1))), (5, .int (zI (bd_plc b ko))), (0, .ref (a 0)), (1, .int (zI x)), (2, .int (zI y)), (3, .int (zI (bd_plc b x)))]) hx hb dX0_putSceneAt_76 hl (k := 5) rfl (by decide) rfl (fun ls hl => ?_)
                refine lv_goto (tgt := 9) hx hb dX0_putSceneAt_79 (by decide) ?_
                exact ih9 (ko + 1) hc (by omega) (by rw [hhc]; first | exact shp_s _ hko.1 (mvP_a (by omega)).symm | exact shp_s _ hko.1 (mvP_b (by omega)).symm | exact shp_n _ hko.1 (mvP_n (by omega) (by omega))) (by first | exact hcr | exact zU_5 hcr (by omega)) (by omega) _ _ hW ls (lv_sub hl [2, 3, 4, 5, 0] rfl)
              · refine lv_aload_n hx hb dX0_putSceneAt_63 rfl (lv_at hl 1 rfl) ?_
                refine va_get (D := D) (ci := 0) (v := .ref (a 7)) (C := RX0) (T := TX0) (N := 9) hx hb hts iX0_putSceneAt_X0 hown hK.1 hW.1 0 rfl rfl 6 (by decide) (hts _ mX0_putSceneAt_1) (fun _ h9 => h9) rfl dX0_putSceneAt_64 ?_
                refine lv_iload hx hb dX0_putSceneAt_67 (lv_at hl 5 rfl) ?_
                refine lv_iload hx hb dX0_putSceneAt_69 (lv_at hl 0 rfl) ?_
                refine lv_iconst (v := zI (1)) hx hb dX0_putSceneAt_71 rfl ?_
                refine z_iadd hx hb dX0_putSceneAt_72 ?_
                refine z_setCell (n := 5) (g := hc) (i := ko) (v := (bd_plc b ko) + 1) (rest := []) (bs1 := [zBoard cI a (bd_plc_ b (zU hc ko ((bd_plc b ko) + 1)))]) hS hK hA hW hl.1 7 rfl (gX0_putSceneAt_X4_setCell_n44) nm_10 (mX0_putSceneAt_2) (mX0_putSceneAt_3) ⟨Nat.le_of_ble_eq_true rfl, Nat.le_of_ble_eq_true rfl⟩ dX0_putSceneAt_73 (by omega) rfl (Nat.le_of_ble_eq_true rfl) ⟨Nat.le_of_ble_eq_true rfl, Nat.le_of_ble_eq_true rfl⟩ (fun H locs hW => ?_)
                refine z_iinc (x := ko) (lv' := [(4, .int (zI (ko + 1))), (5, .int (zI (bd_plc b ko))), (0, .ref (a 0)), (1, .int (zI x)), (2, .int (zI y)), (3, .int (zI (bd_plc b x)))]) hx hb dX0_putSceneAt_76 hl (k := 5) rfl (by decide) rfl (fun ls hl => ?_)
                refine lv_goto (tgt := 9) hx hb dX0_putSceneAt_79 (by decide) ?_
                exact ih9 (ko + 1) (zU hc ko ((bd_plc b ko) + 1)) (by omega) (by rw [hhc]; first | exact shp_s _ hko.1 (mvP_a (by omega)).symm | exact shp_s _ hko.1 (mvP_b (by omega)).symm | exact shp_n _ hko.1 (mvP_n (by omega) (by omega))) (by first | exact hcr | exact zU_5 hcr (by omega)) (by omega) _ _ hW ls (lv_sub hl [2, 3, 4, 5, 0] rfl)
          · refine lv_aload_n hx hb dX0_putSceneAt_35 rfl (lv_at hl 1 rfl) ?_
            refine va_get (D := D) (ci := 0) (v := .ref (a 7)) (C := RX0) (T := TX0) (N := 9) hx hb hts iX0_putSceneAt_X0 hown hK.1 hW.1 0 rfl rfl 6 (by decide) (hts _ mX0_putSceneAt_1) (fun _ h9 => h9) rfl dX0_putSceneAt_36 ?_
            refine lv_iload hx hb dX0_putSceneAt_39 (lv_at hl 5 rfl) ?_
            refine lv_iload hx hb dX0_putSceneAt_41 (lv_at hl 0 rfl) ?_
            refine lv_iconst (v := zI (1)) hx hb dX0_putSceneAt_43 rfl ?_
            refine z_isub hx hb dX0_putSceneAt_44 ?_
            refine z_setCell (n := 5) (g := hc) (i := ko) (v := (bd_plc b ko) - 1) (rest := []) (bs1 := [zBoard cI a (bd_plc_ b (zU hc ko ((bd_plc b ko) - 1)))]) hS hK hA hW hl.1 7 rfl (gX0_putSceneAt_X4_setCell_n44) nm_10 (mX0_putSceneAt_2) (mX0_putSceneAt_3) ⟨Nat.le_of_ble_eq_true rfl, Nat.le_of_ble_eq_true rfl⟩ dX0_putSceneAt_45 (by omega) rfl (Nat.le_of_ble_eq_true rfl) ⟨Nat.le_of_ble_eq_true rfl, Nat.le_of_ble_eq_true rfl⟩ (fun H locs hW => ?_)
            refine lv_goto (tgt := 76) hx hb dX0_putSceneAt_48 (by decide) ?_
            refine z_iinc (x := ko) (lv' := [(4, .int (zI (ko + 1))), (5, .int (zI (bd_plc b ko))), (0, .ref (a 0)), (1, .int (zI x)), (2, .int (zI y)), (3, .int (zI (bd_plc b x)))]) hx hb dX0_putSceneAt_76 hl (k := 5) rfl (by decide) rfl (fun ls hl => ?_)
            refine lv_goto (tgt := 9) hx hb dX0_putSceneAt_79 (by decide) ?_
            exact ih9 (ko + 1) (zU hc ko ((bd_plc b ko) - 1)) (by omega) (by rw [hhc]; first | exact shp_s _ hko.1 (mvP_a (by omega)).symm | exact shp_s _ hko.1 (mvP_b (by omega)).symm | exact shp_n _ hko.1 (mvP_n (by omega) (by omega))) (by first | exact hcr | exact zU_5 hcr (by omega)) (by omega) _ _ hW ls (lv_sub hl [2, 3, 4, 5, 0] rfl)
  exact L9 (((5 - 0) : Int).toNat + 1) 0 (bd_plc b) (by omega) (by exact (shp_0 _ _ _).symm) (by exact hplc) (by omega) _ _ hW ls (lv_sub hl [2, 3, 4, 1, 0] rfl)
