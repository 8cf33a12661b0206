abbrev qX5_readsEvent (cI : ClassId) (a : Nat → Nat) (b : zM2) (sc : Int) (d : Int) (acc : List zEv) : Option Value → List va_W → Prop := fun vq wq => ∃ (r : Int) (zspot : Int) (zread : Int → Int), vq = some (.int (zI r)) ∧ wq = [zMod2 cI a (mm_read_ (mm_spot_ b zspot) zread)] ∧ ((r = 0 ∧ RE0 (sgM (mm_txt b) (mm_tl b)) (mm_spot b) zspot) ∨ (r = 1 ∧ RE1 (sgM (mm_txt b) (mm_tl b)) (mm_spot b) zspot ∧ zspot ≤ mm_tl b ∧ rowO zread (0, sc, d, acc ++ [evAt (sgM (mm_txt b) (mm_tl b)) (mm_spot b - 1)])))
set_option maxRecDepth 20000 in
theorem iX5_readsEvent_X5 : ∀ w ∈ u_ws RX5 TX5 18, w ∈ wsX5_readsEvent := by decide +kernel
set_option maxRecDepth 20000 in
theorem mX5_readsEvent_1 : (.fieldLink RX5 46 "StoryPanelsModel" "read" "[I" : Cond) ∈ wsX5_readsEvent := by decide +kernel
set_option maxRecDepth 20000 in
theorem mX5_readsEvent_2 : (.fieldLink RX5 43 "StoryPanelsModel" "text" "[I" : Cond) ∈ wsX5_readsEvent := by decide +kernel
set_option maxRecDepth 20000 in
theorem mX5_readsEvent_3 : (.fieldLink RX5 125 "StoryPanelsModel" "spot" "I" : Cond) ∈ wsX5_readsEvent := by decide +kernel
set_option maxRecDepth 20000 in
theorem mX5_readsEvent_4 : (.fieldLink RX5 122 "StoryPanelsModel" "textLong" "I" : Cond) ∈ wsX5_readsEvent := by decide +kernel
set_option maxHeartbeats 4000000 in
set_option maxRecDepth 100000 in
theorem kX5_readsEvent (l : Launch) (D : va_G) (cI cB : ClassId) (a : Nat → Nat) (b : zM2) (sc : Int) (d : Int) (acc : List zEv) (hT : TXM (mm_txt b) (mm_tl b)) (hsp : 0 ≤ mm_spot b ∧ mm_spot b ≤ mm_tl b) (hrd : rowO (mm_read b) (0, sc, d, acc)) (hal : acc.length < 6) : zMet l yX5_readsEvent wsX5_readsEvent 2 47 0 0 D cI cB [.ref (a 0)] [zMod2 cI a b] (qX5_readsEvent cI a b sc d acc) := by
  refine zMet.of (cd := cX5_readsEvent) (maxL := 3) (ret := (some .boolean)) (by decide) rfl (Nat.le_of_ble_eq_true rfl) ?_
  intro p e s m args below meth c A ls hS hr hlk hnm hK hA hW hl
  have hS : CallFix p m c cX5_readsEvent 3 s args wsX5_readsEvent RX5 := hS
  have hx := hS.1
  have hb := hS.2.1
  have hown := hS.2.2.2.1
  have hts := hS.2.2.2.2
  have hl : lv_has ls 3 [(0, .ref (a 0))] := hl
  have hr3 : mm_read b 3 = (acc.length : Int) := hrd.2.2.2.1
  have hT1 := hT.1
  have he2 : mm_spot b + 1 + 1 = mm_spot b + 2 := by omega
  refine lv_iconst (v := zI (4)) hx hb dX5_readsEvent_0 rfl ?_
  refine lv_iconst (v := zI (3)) hx hb dX5_readsEvent_1 rfl ?_
  refine lv_aload_n hx hb dX5_readsEvent_2 rfl (lv_at hl 0 rfl) ?_
  refine va_get (D := D) (ci := 5) (v := .ref (a 13)) (C := RX5) (T := TX5) (N := 18) hx hb hts iX5_readsEvent_X5 hown hK.1 hW.1 0 rfl rfl 17 (by decide) (hts _ mX5_readsEvent_1) (fun _ h9 => h9) rfl dX5_readsEvent_3 ?_
  refine lv_iconst (v := zI (3)) hx hb dX5_readsEvent_6 rfl ?_
  refine z_iald (n := 22) (g := mm_read b) hx hb hK hW 13 rfl dX5_readsEvent_7 (by omega) ?_
  refine z_imul hx hb dX5_readsEvent_8 ?_
  refine z_iadd hx hb dX5_readsEvent_9 ?_
  refine lv_istore_n (lv' := [(1, .int (zI (4 + (3 * ((mm_read b) 3))))), (0, .ref (a 0))]) hx hb dX5_readsEvent_10 rfl hl (by decide) rfl (fun ls hl => ?_)
  refine lv_aload_n hx hb dX5_readsEvent_11 rfl (lv_at hl 1 rfl) ?_
  refine lv_bipush (v := zI (65)) hx hb dX5_readsEvent_12 (by decide +kernel) ?_
  refine lv_bipush (v := zI (68)) hx hb dX5_readsEvent_14 (by decide +kernel) ?_
  refine z_callV (r := (RX5, TX5, 18)) (As := [.int (zI 65), .int (zI 68)]) (rest := []) hS hK hA hW hl.1 [0] [] (kX5_isHere l D cI cB a b 65 68 hT hsp (by omega) (by omega)) (cwV 2 hts gX5_readsEvent_X5_isHere rfl rfl rfl (by decide +kernel) ⟨Nat.le_of_ble_eq_true rfl, Nat.le_of_ble_eq_true rfl⟩) (rfl : vwCl[5]? = some (RX5, TX5, 18)) (q0 := 0) rfl dX5_readsEvent_16 rfl rfl rfl rfl rfl (Nat.le_of_ble_eq_true rfl) ⟨Nat.le_of_ble_eq_true rfl, Nat.le_of_ble_eq_true rfl⟩ (fun v9 w9 H locs hq hW => ?_)
  obtain ⟨rr_16, rfl, rfl, hh_16⟩ := hq
  have hW : zW D A s.heap [zMod2 cI a b] H locs := hW
  refine W.eq (g2 := F0 m 19 ls [.int (zI rr_16)]) rfl ?_
  have h16 : (rr_16 = 1 ∧ mm_spot b < mm_tl b ∧ 65 ≤ sgM (mm_txt b) (mm_tl b) (mm_spot b) ∧ sgM (mm_txt b) (mm_tl b) (mm_spot b) ≤ 68) ∨ (rr_16 = 0 ∧ (sgM (mm_txt b) (mm_tl b) (mm_spot b) < 65 ∨ 68 < sgM (mm_txt b) (mm_tl b) (mm_spot b))) := hh_16
  refine z_if_ne (tgt := 24) hx hb dX5_readsEvent_19 (by decide) (by omega) (fun cc_19 => ?_) (fun cc_19 => ?_)
  · have hs0 := (sgM_rg hT hsp.1).2.1 (by omega)
    have hzc : zch (sgM (mm_txt b) (mm_tl b) (mm_spot b)) = mm_txt b (mm_spot b) - 65 := by rw [zch_y (by omega)]; omega
    refine lv_aload_n hx hb dX5_readsEvent_24 rfl (lv_at hl 1 rfl) ?_
    refine va_get (D := D) (ci := 5) (v := .ref (a 13)) (C := RX5) (T := TX5) (N := 18) hx hb hts iX5_readsEvent_X5 hown hK.1 hW.1 0 rfl rfl 17 (by decide) (hts _ mX5_readsEvent_1) (fun _ h9 => h9) rfl dX5_readsEvent_25 ?_
    refine lv_iload_n hx hb dX5_readsEvent_28 rfl (lv_at hl 0 rfl) ?_
    refine lv_aload_n hx hb dX5_readsEvent_29 rfl (lv_at hl 1 rfl) ?_
    refine va_get (D := D) (ci := 5) (v := .ref (a 12)) (C := RX5) (T := TX5) (N := 18) hx hb hts iX5_readsEvent_X5 hown hK.1 hW.1 0 rfl rfl 14 (by decide) (hts _ mX5_readsEvent_2) (fun _ h9 => h9) rfl dX5_readsEvent_30 ?_
    refine lv_aload_n hx hb dX5_readsEvent_33 rfl (lv_at hl 1 rfl) ?_
    refine va_get (D := D) (ci := 5) (v := .int (zI (mm_spot b))) (C := RX5) (T := TX5) (N := 18) hx hb hts iX5_readsEvent_X5 hown hK.1 hW.1 0 rfl rfl 16 (by decide) (hts _ mX5_readsEvent_3) (fun _ h9 => h9) rfl dX5_readsEvent_34 ?_
    refine z_iald (n := 60) (g := mm_txt b) hx hb hK hW 12 rfl dX5_readsEvent_37 (by omega) ?_
    refine lv_bipush (v := zI (65)) hx hb dX5_readsEvent_38 (by decide +kernel) ?_
    refine z_isub hx hb dX5_readsEvent_40 ?_
    refine z_iast (n := 22) (g := mm_read b) (bs1 := [zMod2 cI a (mm_read_ b (zU (mm_read b) (4 + (3 * ((mm_read b) 3))) (((mm_txt b) (mm_spot b)) - 65)))]) hx hb hK hW 13 rfl dX5_readsEvent_41 (by omega) rfl (fun H locs hW => ?_)
    refine lv_aload_n hx hb dX5_readsEvent_42 rfl (lv_at hl 1 rfl) ?_
    refine lv_dup hx hb dX5_readsEvent_43 rfl ?_
    refine va_get (D := D) (ci := 5) (v := .int (zI (mm_spot b))) (C := RX5) (T := TX5) (N := 18) hx hb hts iX5_readsEvent_X5 hown hK.1 hW.1 0 rfl rfl 16 (by decide) (hts _ mX5_readsEvent_3) (fun _ h9 => h9) rfl dX5_readsEvent_44 ?_
    refine lv_iconst (v := zI (1)) hx hb dX5_readsEvent_47 rfl ?_
    refine z_iadd hx hb dX5_readsEvent_48 ?_
    refine va_put (D := D) (ci := 5) (v := .int (zI ((mm_spot b) + 1))) (ty := .int) (C := RX5) (T := TX5) (N := 18) hx hb hts iX5_readsEvent_X5 tyX5 tyX5_ok nmX5 hown hK.1 hW.1 hW.2.1 hW.2.2 0 rfl rfl 16 (by decide) (hts _ mX5_readsEvent_3) (fun _ h9 => h9) rfl (by decide +kernel) rfl rfl (Nat.le_of_ble_eq_true rfl) dX5_readsEvent_49 (fun H locs h1 h2 h3 => ?_)
    have hW : zW D A s.heap [zMod2 cI a (mm_read_ (mm_spot_ b ((mm_spot b) + 1)) (zU (mm_read b) (4 + (3 * ((mm_read b) 3))) (((mm_txt b) (mm_spot b)) - 65)))] H locs := ⟨h1, h2, h3⟩
    refine lv_aload_n hx hb dX5_readsEvent_52 rfl (lv_at hl 1 rfl) ?_
    refine va_get (D := D) (ci := 5) (v := .int (zI ((mm_spot b) + 1))) (C := RX5) (T := TX5) (N := 18) hx hb hts iX5_readsEvent_X5 hown hK.1 hW.1 0 rfl rfl 16 (by decide) (hts _ mX5_readsEvent_3) (fun _ h9 => h9) rfl dX5_readsEvent_53 ?_
    refine lv_aload_n hx hb dX5_readsEvent_56 rfl (lv_at hl 1 rfl) ?_
    refine va_get (D := D) (ci := 5) (v := .int (zI (mm_tl b))) (C := RX5) (T := TX5) (N := 18) hx hb hts iX5_readsEvent_X5 hown hK.1 hW.1 0 rfl rfl 15 (by decide) (hts _ mX5_readsEvent_4) (fun _ h9 => h9) rfl dX5_readsEvent_57 ?_
    refine z_icmp_ge (tgt := 78) hx hb dX5_readsEvent_60 (by decide) (by omega) (fun cc_60 => ?_) (fun cc_60 => ?_)
    · have hs1 := (sgM_rg hT (i := mm_spot b + 1) (by omega)).2.2 (by omega)
      have hzk : zkd (sgM (mm_txt b) (mm_tl b) (mm_spot b + 1)) = -1 := zkd_out (by omega)
      refine lv_bipush (v := zI (-5)) hx hb dX5_readsEvent_78 (by decide +kernel) ?_
      refine lv_istore_n (lv' := [(2, .int (zI ((-5)))), (1, .int (zI (4 + (3 * ((mm_read b) 3))))), (0, .ref (a 0))]) hx hb dX5_readsEvent_80 rfl hl (by decide) rfl (fun ls hl => ?_)
      refine lv_iload_n hx hb dX5_readsEvent_81 rfl (lv_at hl 0 rfl) ?_
      refine lv_bipush (v := zI (-5)) hx hb dX5_readsEvent_82 (by decide +kernel) ?_
      refine z_icmp_ne (tgt := 89) hx hb dX5_readsEvent_84 (by decide) (by omega) (fun cc_84 => ?_) (fun cc_84 => ?_)
      · exfalso; omega
      · refine lv_iconst (v := zI (0)) hx hb dX5_readsEvent_87 rfl ?_
        exact z_zret (v := 0) hx hb hr hlk hW dX5_readsEvent_88 (by omega) (by
            exact ⟨0, (mm_spot b) + 1, zU (mm_read b) (4 + (3 * ((mm_read b) 3))) (((mm_txt b) (mm_spot b)) - 65), rfl, rfl, by exact Or.inl ⟨rfl, Or.inr (Or.inl ⟨by omega, by omega, rfl⟩)⟩⟩)
    · refine lv_aload_n hx hb dX5_readsEvent_63 rfl (lv_at hl 1 rfl) ?_
      refine va_get (D := D) (ci := 5) (v := .ref (a 12)) (C := RX5) (T := TX5) (N := 18) hx hb hts iX5_readsEvent_X5 hown hK.1 hW.1 0 rfl rfl 14 (by decide) (hts _ mX5_readsEvent_2) (fun _ h9 => h9) rfl dX5_readsEvent_64 ?_
      refine lv_aload_n hx hb dX5_readsEvent_67 rfl (lv_at hl 1 rfl) ?_
      refine va_get (D := D) (ci := 5) (v := .int (zI ((mm_spot b) + 1))) (C := RX5) (T := TX5) (N := 18) hx hb hts iX5_readsEvent_X5 hown hK.1 hW.1 0 rfl rfl 16 (by decide) (hts _ mX5_readsEvent_3) (fun _ h9 => h9) rfl dX5_readsEvent_68 ?_
      refine z_iald (n := 60) (g := mm_txt b) hx hb hK hW 12 rfl dX5_readsEvent_71 (by omega) ?_
      refine z_callS (As := [.int (zI ((mm_txt b) ((mm_spot b) + 1)))]) (rest := []) hS hK hA hW hl.1 [] [0] (kX5_kindOf l D cI cB ((mm_txt b) ((mm_spot b) + 1)) (by (have hq := hT.2 (mm_spot b + 1) (by omega) (by omega); omega))) (va_cwS 1 hts gX5_readsEvent_X5_kindOf rfl rfl rfl (by decide +kernel) ⟨Nat.le_of_ble_eq_true rfl, Nat.le_of_ble_eq_true rfl⟩) dX5_readsEvent_72 rfl rfl rfl rfl rfl (Nat.le_of_ble_eq_true rfl) ⟨Nat.le_of_ble_eq_true rfl, Nat.le_of_ble_eq_true rfl⟩ (fun v9 w9 H locs hq hW => ?_)
      obtain ⟨rr_72, rfl, rfl, hh_72⟩ := hq
      have hW : zW D A s.heap [zMod2 cI a (mm_read_ (mm_spot_ b ((mm_spot b) + 1)) (zU (mm_read b) (4 + (3 * ((mm_read b) 3))) (((mm_txt b) (mm_spot b)) - 65)))] H locs := hW
      refine W.eq (g2 := F0 m 75 ls [.int (zI rr_72)]) rfl ?_
      have hsq : sgM (mm_txt b) (mm_tl b) (mm_spot b + 1) = mm_txt b (mm_spot b + 1) := ((sgM_rg hT (i := mm_spot b + 1) (by omega)).2.1 (by omega)).1
      have h72 : (rr_72 = -5 ∧ zkd (sgM (mm_txt b) (mm_tl b) (mm_spot b + 1)) = -1) ∨ (rr_72 = zkd (sgM (mm_txt b) (mm_tl b) (mm_spot b + 1)) ∧ 0 ≤ rr_72) := by rw [hsq]; exact hh_72
      have hkr := zkd_rg (sgM (mm_txt b) (mm_tl b) (mm_spot b + 1))
      refine lv_goto (tgt := 80) hx hb dX5_readsEvent_75 (by decide) ?_
      refine lv_istore_n (lv' := [(2, .int (zI rr_72)), (1, .int (zI (4 + (3 * ((mm_read b) 3))))), (0, .ref (a 0))]) hx hb dX5_readsEvent_80 rfl hl (by decide) rfl (fun ls hl => ?_)
      refine lv_iload_n hx hb dX5_readsEvent_81 rfl (lv_at hl 0 rfl) ?_
      refine lv_bipush (v := zI (-5)) hx hb dX5_readsEvent_82 (by decide +kernel) ?_
      refine z_icmp_ne (tgt := 89) hx hb dX5_readsEvent_84 (by decide) (by omega) (fun cc_84 => ?_) (fun cc_84 => ?_)
      · refine lv_aload_n hx hb dX5_readsEvent_89 rfl (lv_at hl 2 rfl) ?_
        refine va_get (D := D) (ci := 5) (v := .ref (a 13)) (C := RX5) (T := TX5) (N := 18) hx hb hts iX5_readsEvent_X5 hown hK.1 hW.1 0 rfl rfl 17 (by decide) (hts _ mX5_readsEvent_1) (fun _ h9 => h9) rfl dX5_readsEvent_90 ?_
        refine lv_iload_n hx hb dX5_readsEvent_93 rfl (lv_at hl 1 rfl) ?_
        refine lv_iconst (v := zI (1)) hx hb dX5_readsEvent_94 rfl ?_
        refine z_iadd hx hb dX5_readsEvent_95 ?_
        refine lv_iload_n hx hb dX5_readsEvent_96 rfl (lv_at hl 0 rfl) ?_
        refine z_iast (n := 22) (g := zU (mm_read b) (4 + (3 * ((mm_read b) 3))) (((mm_txt b) (mm_spot b)) - 65)) (bs1 := [zMod2 cI a (mm_read_ (mm_spot_ b ((mm_spot b) + 1)) (zU (zU (mm_read b) (4 + (3 * ((mm_read b) 3))) (((mm_txt b) (mm_spot b)) - 65)) ((4 + (3 * ((mm_read b) 3))) + 1) rr_72))]) hx hb hK hW 13 rfl dX5_readsEvent_97 (by omega) rfl (fun H locs hW => ?_)
        refine lv_aload_n hx hb dX5_readsEvent_98 rfl (lv_at hl 2 rfl) ?_
        refine va_get (D := D) (ci := 5) (v := .ref (a 13)) (C := RX5) (T := TX5) (N := 18) hx hb hts iX5_readsEvent_X5 hown hK.1 hW.1 0 rfl rfl 17 (by decide) (hts _ mX5_readsEvent_1) (fun _ h9 => h9) rfl dX5_readsEvent_99 ?_
        refine lv_iload_n hx hb dX5_readsEvent_102 rfl (lv_at hl 1 rfl) ?_
        refine lv_iconst (v := zI (2)) hx hb dX5_readsEvent_103 rfl ?_
        refine z_iadd hx hb dX5_readsEvent_104 ?_
        refine lv_bipush (v := zI (-5)) hx hb dX5_readsEvent_105 (by decide +kernel) ?_
        refine z_iast (n := 22) (g := zU (zU (mm_read b) (4 + (3 * ((mm_read b) 3))) (((mm_txt b) (mm_spot b)) - 65)) ((4 + (3 * ((mm_read b) 3))) + 1) rr_72) (bs1 := [zMod2 cI a (mm_read_ (mm_spot_ b ((mm_spot b) + 1)) (zU (zU (zU (mm_read b) (4 + (3 * ((mm_read b) 3))) (((mm_txt b) (mm_spot b)) - 65)) ((4 + (3 * ((mm_read b) 3))) + 1) rr_72) ((4 + (3 * ((mm_read b) 3))) + 2) ((-5))))]) hx hb hK hW 13 rfl dX5_readsEvent_107 (by omega) rfl (fun H locs hW => ?_)
        refine lv_aload_n hx hb dX5_readsEvent_108 rfl (lv_at hl 2 rfl) ?_
        refine lv_dup hx hb dX5_readsEvent_109 rfl ?_
        refine va_get (D := D) (ci := 5) (v := .int (zI ((mm_spot b) + 1))) (C := RX5) (T := TX5) (N := 18) hx hb hts iX5_readsEvent_X5 hown hK.1 hW.1 0 rfl rfl 16 (by decide) (hts _ mX5_readsEvent_3) (fun _ h9 => h9) rfl dX5_readsEvent_110 ?_
        refine lv_iconst (v := zI (1)) hx hb dX5_readsEvent_113 rfl ?_
        refine z_iadd hx hb dX5_readsEvent_114 ?_
        refine va_put (D := D) (ci := 5) (v := .int (zI (((mm_spot b) + 1) + 1))) (ty := .int) (C := RX5) (T := TX5) (N := 18) hx hb hts iX5_readsEvent_X5 tyX5 tyX5_ok nmX5 hown hK.1 hW.1 hW.2.1 hW.2.2 0 rfl rfl 16 (by decide) (hts _ mX5_readsEvent_3) (fun _ h9 => h9) rfl (by decide +kernel) rfl rfl (Nat.le_of_ble_eq_true rfl) dX5_readsEvent_115 (fun H locs h1 h2 h3 => ?_)
        have hW : zW D A s.heap [zMod2 cI a (mm_read_ (mm_spot_ b (((mm_spot b) + 1) + 1)) (zU (zU (zU (mm_read b) (4 + (3 * ((mm_read b) 3))) (((mm_txt b) (mm_spot b)) - 65)) ((4 + (3 * ((mm_read b) 3))) + 1) rr_72) ((4 + (3 * ((mm_read b) 3))) + 2) ((-5))))] H locs := ⟨h1, h2, h3⟩
        refine lv_iload_n hx hb dX5_readsEvent_118 rfl (lv_at hl 0 rfl) ?_
        refine lv_iconst (v := zI (2)) hx hb dX5_readsEvent_119 rfl ?_
        refine z_icmp_gt (tgt := 166) hx hb dX5_readsEvent_120 (by decide) (by omega) (fun cc_120 => ?_) (fun cc_120 => ?_)
        · refine lv_aload_n hx hb dX5_readsEvent_166 rfl (lv_at hl 2 rfl) ?_
          refine va_get (D := D) (ci := 5) (v := .ref (a 13)) (C := RX5) (T := TX5) (N := 18) hx hb hts iX5_readsEvent_X5 hown hK.1 hW.1 0 rfl rfl 17 (by decide) (hts _ mX5_readsEvent_1) (fun _ h9 => h9) rfl dX5_readsEvent_167 ?_
          refine lv_iconst (v := zI (3)) hx hb dX5_readsEvent_170 rfl ?_
          refine lv_dup2_11 hx hb dX5_readsEvent_171 rfl rfl ?_
          refine z_iald (n := 22) (g := zU (zU (zU (mm_read b) (4 + (3 * ((mm_read b) 3))) (((mm_txt b) (mm_spot b)) - 65)) ((4 + (3 * ((mm_read b) 3))) + 1) rr_72) ((4 + (3 * ((mm_read b) 3))) + 2) ((-5))) hx hb hK hW 13 rfl dX5_readsEvent_172 (by omega) ?_
          refine lv_iconst (v := zI (1)) hx hb dX5_readsEvent_173 rfl ?_
          refine z_iadd hx hb dX5_readsEvent_174 ?_
          refine z_iast (n := 22) (g := zU (zU (zU (mm_read b) (4 + (3 * ((mm_read b) 3))) (((mm_txt b) (mm_spot b)) - 65)) ((4 + (3 * ((mm_read b) 3))) + 1) rr_72) ((4 + (3 * ((mm_read b) 3))) + 2) ((-5))) (bs1 := [zMod2 cI a (mm_read_ (mm_spot_ b (((mm_spot b) + 1) + 1)) (zU (zU (zU (zU (mm_read b) (4 + (3 * ((mm_read b) 3))) (((mm_txt b) (mm_spot b)) - 65)) ((4 + (3 * ((mm_read b) 3))) + 1) rr_72) ((4 + (3 * ((mm_read b) 3))) + 2) ((-5))) 3 (((zU (zU (zU (mm_read b) (4 + (3 * ((mm_read b) 3))) (((mm_txt b) (mm_spot b)) - 65)) ((4 + (3 * ((mm_read b) 3))) + 1) rr_72) ((4 + (3 * ((mm_read b) 3))) + 2) ((-5))) 3) + 1)))]) hx hb hK hW 13 rfl dX5_readsEvent_175 (by omega) rfl (fun H locs hW => ?_)
          refine lv_iconst (v := zI (1)) hx hb dX5_readsEvent_176 rfl ?_
          exact z_zret (v := 1) hx hb hr hlk hW dX5_readsEvent_177 (by omega) (by
              exact ⟨1, ((mm_spot b) + 1) + 1, zU (zU (zU (zU (mm_read b) (4 + (3 * ((mm_read b) 3))) (((mm_txt b) (mm_spot b)) - 65)) ((4 + (3 * ((mm_read b) 3))) + 1) rr_72) ((4 + (3 * ((mm_read b) 3))) + 2) ((-5))) 3 (((zU (zU (zU (mm_read b) (4 + (3 * ((mm_read b) 3))) (((mm_txt b) (mm_spot b)) - 65)) ((4 + (3 * ((mm_read b) 3))) + 1) rr_72) ((4 + (3 * ((mm_read b) 3))) + 2) ((-5))) 3) + 1), rfl, rfl, by first | exact Or.inr ⟨rfl, ⟨by omega, by omega, by omega, by rw [if_pos (by omega)]; omega⟩, by omega, rd_prop hrd hal (by omega) hzc (by omega) (by omega) hzd (by rw [zU_n _ _ (by omega), zU_n _ _ (by omega), zU_n _ _ (by omega), zU_n _ _ (by omega), hr3])⟩ | exact Or.inr ⟨rfl, ⟨by omega, by omega, by omega, by rw [if_neg (by omega)]; omega⟩, by omega, rd_move hrd hal (by omega) hzc (by omega) (by omega) (by rw [zU_n _ _ (by omega), zU_n _ _ (by omega), zU_n _ _ (by omega), hr3])⟩⟩)
        · refine lv_aload_n hx hb dX5_readsEvent_123 rfl (lv_at hl 2 rfl) ?_
          refine lv_bipush (v := zI (48)) hx hb dX5_readsEvent_124 (by decide +kernel) ?_
          refine lv_bipush (v := zI (57)) hx hb dX5_readsEvent_126 (by decide +kernel) ?_
          refine z_callV (r := (RX5, TX5, 18)) (As := [.int (zI 48), .int (zI 57)]) (rest := []) hS hK hA hW hl.1 [0] [] (kX5_isHere l D cI cB a ((mm_read_ (mm_spot_ b (((mm_spot b) + 1) + 1)) (zU (zU (zU (mm_read b) (4 + (3 * ((mm_read b) 3))) (((mm_txt b) (mm_spot b)) - 65)) ((4 + (3 * ((mm_read b) 3))) + 1) rr_72) ((4 + (3 * ((mm_read b) 3))) + 2) ((-5))))) 48 57 hT (by (show 0 ≤ mm_spot b + 1 + 1 ∧ mm_spot b + 1 + 1 ≤ mm_tl b; omega)) (by omega) (by omega)) (cwV 2 hts gX5_readsEvent_X5_isHere rfl rfl rfl (by decide +kernel) ⟨Nat.le_of_ble_eq_true rfl, Nat.le_of_ble_eq_true rfl⟩) (rfl : vwCl[5]? = some (RX5, TX5, 18)) (q0 := 0) rfl dX5_readsEvent_128 rfl rfl rfl rfl rfl (Nat.le_of_ble_eq_true rfl) ⟨Nat.le_of_ble_eq_true rfl, Nat.le_of_ble_eq_true rfl⟩ (fun v9 w9 H locs hq hW => ?_)
          obtain ⟨rr_128, rfl, rfl, hh_128⟩ := hq
          have hW : zW D A s.heap [zMod2 cI a (mm_read_ (mm_spot_ b (((mm_spot b) + 1) + 1)) (zU (zU (zU (mm_read b) (4 + (3 * ((mm_read b) 3))) (((mm_txt b) (mm_spot b)) - 65)) ((4 + (3 * ((mm_read b) 3))) + 1) rr_72) ((4 + (3 * ((mm_read b) 3))) + 2) ((-5))))] H locs := hW
          refine W.eq (g2 := F0 m 131 ls [.int (zI rr_128)]) rfl ?_
          have h128 : (rr_128 = 1 ∧ mm_spot b + 1 + 1 < mm_tl b ∧ 48 ≤ sgM (mm_txt b) (mm_tl b) (mm_spot b + 1 + 1) ∧ sgM (mm_txt b) (mm_tl b) (mm_spot b + 1 + 1) ≤ 57) ∨ (rr_128 = 0 ∧ (sgM (mm_txt b) (mm_tl b) (mm_spot b + 1 + 1) < 48 ∨ 57 < sgM (mm_txt b) (mm_tl b) (mm_spot b + 1 + 1))) := hh_128
          rw [he2] at h128
          refine z_if_ne (tgt := 136) hx hb dX5_readsEvent_131 (by decide) (by omega) (fun cc_131 => ?_) (fun cc_131 => ?_)
          · have hx22 : mm_txt b (mm_spot b + 1 + 1) = mm_txt b (mm_spot b + 2) := by rw [he2]
            have hs2 := (sgM_rg hT (i := mm_spot b + 2) (by omega)).2.1 (by omega)
            have hzd : zdg (sgM (mm_txt b) (mm_tl b) (mm_spot b + 2)) = mm_txt b (mm_spot b + 1 + 1) - 48 := by rw [zdg_y (by omega), he2]; omega
            refine lv_aload_n hx hb dX5_readsEvent_136 rfl (lv_at hl 2 rfl) ?_
            refine va_get (D := D) (ci := 5) (v := .ref (a 13)) (C := RX5) (T := TX5) (N := 18) hx hb hts iX5_readsEvent_X5 hown hK.1 hW.1 0 rfl rfl 17 (by decide) (hts _ mX5_readsEvent_1) (fun _ h9 => h9) rfl dX5_readsEvent_137 ?_
            refine lv_iload_n hx hb dX5_readsEvent_140 rfl (lv_at hl 1 rfl) ?_
            refine lv_iconst (v := zI (2)) hx hb dX5_readsEvent_141 rfl ?_
            refine z_iadd hx hb dX5_readsEvent_142 ?_
            refine lv_aload_n hx hb dX5_readsEvent_143 rfl (lv_at hl 2 rfl) ?_
            refine va_get (D := D) (ci := 5) (v := .ref (a 12)) (C := RX5) (T := TX5) (N := 18) hx hb hts iX5_readsEvent_X5 hown hK.1 hW.1 0 rfl rfl 14 (by decide) (hts _ mX5_readsEvent_2) (fun _ h9 => h9) rfl dX5_readsEvent_144 ?_
            refine lv_aload_n hx hb dX5_readsEvent_147 rfl (lv_at hl 2 rfl) ?_
            refine va_get (D := D) (ci := 5) (v := .int (zI (((mm_spot b) + 1) + 1))) (C := RX5) (T := TX5) (N := 18) hx hb hts iX5_readsEvent_X5 hown hK.1 hW.1 0 rfl rfl 16 (by decide) (hts _ mX5_readsEvent_3) (fun _ h9 => h9) rfl dX5_readsEvent_148 ?_
            refine z_iald (n := 60) (g := mm_txt b) hx hb hK hW 12 rfl dX5_readsEvent_151 (by omega) ?_
            refine lv_bipush (v := zI (48)) hx hb dX5_readsEvent_152 (by decide +kernel) ?_
            refine z_isub hx hb dX5_readsEvent_154 ?_
            refine z_iast (n := 22) (g := zU (zU (zU (mm_read b) (4 + (3 * ((mm_read b) 3))) (((mm_txt b) (mm_spot b)) - 65)) ((4 + (3 * ((mm_read b) 3))) + 1) rr_72) ((4 + (3 * ((mm_read b) 3))) + 2) ((-5))) (bs1 := [zMod2 cI a (mm_read_ (mm_spot_ b (((mm_spot b) + 1) + 1)) (zU (zU (zU (zU (mm_read b) (4 + (3 * ((mm_read b) 3))) (((mm_txt b) (mm_spot b)) - 65)) ((4 + (3 * ((mm_read b) 3))) + 1) rr_72) ((4 + (3 * ((mm_read b) 3))) + 2) ((-5))) ((4 + (3 * ((mm_read b) 3))) + 2) (((mm_txt b) (((mm_spot b) + 1) + 1)) - 48)))]) hx hb hK hW 13 rfl dX5_readsEvent_155 (by omega) rfl (fun H locs hW => ?_)
            refine lv_aload_n hx hb dX5_readsEvent_156 rfl (lv_at hl 2 rfl) ?_
            refine lv_dup hx hb dX5_readsEvent_157 rfl ?_
            refine va_get (D := D) (ci := 5) (v := .int (zI (((mm_spot b) + 1) + 1))) (C := RX5) (T := TX5) (N := 18) hx hb hts iX5_readsEvent_X5 hown hK.1 hW.1 0 rfl rfl 16 (by decide) (hts _ mX5_readsEvent_3) (fun _ h9 => h9) rfl dX5_readsEvent_158 ?_
            refine lv_iconst (v := zI (1)) hx hb dX5_readsEvent_161 rfl ?_
            refine z_iadd hx hb dX5_readsEvent_162 ?_
            refine va_put (D := D) (ci := 5) (v := .int (zI ((((mm_spot b) + 1) + 1) + 1))) (ty := .int) (C := RX5) (T := TX5) (N := 18) hx hb hts iX5_readsEvent_X5 tyX5 tyX5_ok nmX5 hown hK.1 hW.1 hW.2.1 hW.2.2 0 rfl rfl 16 (by decide) (hts _ mX5_readsEvent_3) (fun _ h9 => h9) rfl (by decide +kernel) rfl rfl (Nat.le_of_ble_eq_true rfl) dX5_readsEvent_163 (fun H locs h1 h2 h3 => ?_)
            have hW : zW D A s.heap [zMod2 cI a (mm_read_ (mm_spot_ b ((((mm_spot b) + 1) + 1) + 1)) (zU (zU (zU (zU (mm_read b) (4 + (3 * ((mm_read b) 3))) (((mm_txt b) (mm_spot b)) - 65)) ((4 + (3 * ((mm_read b) 3))) + 1) rr_72) ((4 + (3 * ((mm_read b) 3))) + 2) ((-5))) ((4 + (3 * ((mm_read b) 3))) + 2) (((mm_txt b) (((mm_spot b) + 1) + 1)) - 48)))] H locs := ⟨h1, h2, h3⟩
            refine lv_aload_n hx hb dX5_readsEvent_166 rfl (lv_at hl 2 rfl) ?_
            refine va_get (D := D) (ci := 5) (v := .ref (a 13)) (C := RX5) (T := TX5) (N := 18) hx hb hts iX5_readsEvent_X5 hown hK.1 hW.1 0 rfl rfl 17 (by decide) (hts _ mX5_readsEvent_1) (fun _ h9 => h9) rfl dX5_readsEvent_167 ?_
            refine lv_iconst (v := zI (3)) hx hb dX5_readsEvent_170 rfl ?_
            refine lv_dup2_11 hx hb dX5_readsEvent_171 rfl rfl ?_
            refine z_iald (n := 22) (g := zU (zU (zU (zU (mm_read b) (4 + (3 * ((mm_read b) 3))) (((mm_txt b) (mm_spot b)) - 65)) ((4 + (3 * ((mm_read b) 3))) + 1) rr_72) ((4 + (3 * ((mm_read b) 3))) + 2) ((-5))) ((4 + (3 * ((mm_read b) 3))) + 2) (((mm_txt b) (((mm_spot b) + 1) + 1)) - 48)) hx hb hK hW 13 rfl dX5_readsEvent_172 (by omega) ?_
            refine lv_iconst (v := zI (1)) hx hb dX5_readsEvent_173 rfl ?_
            refine z_iadd hx hb dX5_readsEvent_174 ?_
            refine z_iast (n := 22) (g := zU (zU (zU (zU (mm_read b) (4 + (3 * ((mm_read b) 3))) (((mm_txt b) (mm_spot b)) - 65)) ((4 + (3 * ((mm_read b) 3))) + 1) rr_72) ((4 + (3 * ((mm_read b) 3))) + 2) ((-5))) ((4 + (3 * ((mm_read b) 3))) + 2) (((mm_txt b) (((mm_spot b) + 1) + 1)) - 48)) (bs1 := [zMod2 cI a (mm_read_ (mm_spot_ b ((((mm_spot b) + 1) + 1) + 1)) (zU (zU (zU (zU (zU (mm_read b) (4 + (3 * ((mm_read b) 3))) (((mm_txt b) (mm_spot b)) - 65)) ((4 + (3 * ((mm_read b) 3))) + 1) rr_72) ((4 + (3 * ((mm_read b) 3))) + 2) ((-5))) ((4 + (3 * ((mm_read b) 3))) + 2) (((mm_txt b) (((mm_spot b) + 1) + 1)) - 48)) 3 (((zU (zU (zU (zU (mm_read b) (4 + (3 * ((mm_read b) 3))) (((mm_txt b) (mm_spot b)) - 65)) ((4 + (3 * ((mm_read b) 3))) + 1) rr_72) ((4 + (3 * ((mm_read b) 3))) + 2) ((-5))) ((4 + (3 * ((mm_read b) 3))) + 2) (((mm_txt b) (((mm_spot b) + 1) + 1)) - 48)) 3) + 1)))]) hx hb hK hW 13 rfl dX5_readsEvent_175 (by omega) rfl (fun H locs hW => ?_)
            refine lv_iconst (v := zI (1)) hx hb dX5_readsEvent_176 rfl ?_
            exact z_zret (v := 1) hx hb hr hlk hW dX5_readsEvent_177 (by omega) (by
                exact ⟨1, (((mm_spot b) + 1) + 1) + 1, zU (zU (zU (zU (zU (mm_read b) (4 + (3 * ((mm_read b) 3))) (((mm_txt b) (mm_spot b)) - 65)) ((4 + (3 * ((mm_read b) 3))) + 1) rr_72) ((4 + (3 * ((mm_read b) 3))) + 2) ((-5))) ((4 + (3 * ((mm_read b) 3))) + 2) (((mm_txt b) (((mm_spot b) + 1) + 1)) - 48)) 3 (((zU (zU (zU (zU (mm_read b) (4 + (3 * ((mm_read b) 3))) (((mm_txt b) (mm_spot b)) - 65)) ((4 + (3 * ((mm_read b) 3))) + 1) rr_72) ((4 + (3 * ((mm_read b) 3))) + 2) ((-5))) ((4 + (3 * ((mm_read b) 3))) + 2) (((mm_txt b) (((mm_spot b) + 1) + 1)) - 48)) 3) + 1), rfl, rfl, by first | exact Or.inr ⟨rfl, ⟨by omega, by omega, by omega, by rw [if_pos (by omega)]; omega⟩, by omega, rd_prop hrd hal (by omega) hzc (by omega) (by omega) hzd (by rw [zU_n _ _ (by omega), zU_n _ _ (by omega), zU_n _ _ (by omega), zU_n _ _ (by omega), hr3])⟩ | exact Or.inr ⟨rfl, ⟨by omega, by omega, by omega, by rw [if_neg (by omega)]; omega⟩, by omega, rd_move hrd hal (by omega) hzc (by omega) (by omega) (by rw [zU_n _ _ (by omega), zU_n _ _ (by omega), zU_n _ _ (by omega), hr3])⟩⟩)
          · have hdn : zdg (sgM (mm_txt b) (mm_tl b) (mm_spot b + 2)) = -1 := zdg_n (by omega)
            refine lv_iconst (v := zI (0)) hx hb dX5_readsEvent_134 rfl ?_
            exact z_zret (v := 0) hx hb hr hlk hW dX5_readsEvent_135 (by omega) (by
                exact ⟨0, ((mm_spot b) + 1) + 1, zU (zU (zU (mm_read b) (4 + (3 * ((mm_read b) 3))) (((mm_txt b) (mm_spot b)) - 65)) ((4 + (3 * ((mm_read b) 3))) + 1) rr_72) ((4 + (3 * ((mm_read b) 3))) + 2) ((-5)), rfl, rfl, by exact Or.inl ⟨rfl, Or.inr (Or.inr ⟨by omega, by omega, ⟨by omega, hdn⟩, by omega⟩)⟩⟩)
      · refine lv_iconst (v := zI (0)) hx hb dX5_readsEvent_87 rfl ?_
        exact z_zret (v := 0) hx hb hr hlk hW dX5_readsEvent_88 (by omega) (by
            exact ⟨0, (mm_spot b) + 1, zU (mm_read b) (4 + (3 * ((mm_read b) 3))) (((mm_txt b) (mm_spot b)) - 65), rfl, rfl, by exact Or.inl ⟨rfl, Or.inr (Or.inl ⟨by omega, by omega, rfl⟩)⟩⟩)
  · refine lv_iconst (v := zI (0)) hx hb dX5_readsEvent_22 rfl ?_
    exact z_zret (v := 0) hx hb hr hlk hW dX5_readsEvent_23 (by omega) (by
        exact ⟨0, mm_spot b, mm_read b, rfl, rfl, by exact Or.inl ⟨rfl, Or.inl ⟨zch_n (by omega), rfl⟩⟩⟩)
