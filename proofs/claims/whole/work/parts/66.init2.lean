abbrev qX2_init (cI : ClassId) (x : Nat) (cB : ClassId) : Option Value → List va_W → Prop := fun vq wq => ∃ (xa : Nat) (v0 : Nat → Nat) (v1 : Nat → Nat) (v2 : Nat → Nat) (v3 : Nat → Nat) (e0 : zBS) (e1 : zBS) (e2 : zBS) (e3 : zBS), vq = none ∧ wq = [[(x, .inr (2, [.ref xa, .int (zI 0)]))], [zRefs cB xa (some (v0 0)) (some (v1 0)) (some (v2 0)) (some (v3 0))], zBoard cI v0 e0, zBoard cI v1 e1, zBoard cI v2 e2, zBoard cI v3 e3] ∧ (HB 0 e0 e1 e2 e3 [])
set_option maxRecDepth 20000 in
theorem mX2_init_0 : (.methodLink RX2 3 objectInit : Cond) ∈ wsX2_init := by decide +kernel
set_option maxRecDepth 20000 in
theorem mX2_init_1 : (.instanceMethod objectInit : Cond) ∈ wsX2_init := by decide +kernel
set_option maxRecDepth 20000 in
theorem mX2_init_2 : (.code objectInit ⟨#[0xb1]⟩ 1 none : Cond) ∈ wsX2_init := by decide +kernel
set_option maxRecDepth 20000 in
theorem mX2_init_3 : (.classLink RX2 9 RX0 : Cond) ∈ wsX2_init := by decide +kernel
set_option maxRecDepth 20000 in
theorem iX2_init_X2 : ∀ w ∈ u_ws RX2 TX2 2, w ∈ wsX2_init := by decide +kernel
set_option maxRecDepth 20000 in
theorem mX2_init_5 : (.fieldLink RX2 11 "StoryPanels$History" "states" "[LStoryPanels$Board;" : Cond) ∈ wsX2_init := by decide +kernel
set_option maxRecDepth 20000 in
theorem mX2_init_6 : (.fieldLink RX2 17 "StoryPanels$History" "size" "I" : Cond) ∈ wsX2_init := by decide +kernel
set_option maxRecDepth 20000 in
theorem iX2_init_X0 : ∀ w ∈ u_ws RX0 TX0 9, w ∈ wsX2_init := by decide +kernel
set_option maxRecDepth 20000 in
theorem mX2_init_8 : (.instantiable RX0 9 : Cond) ∈ wsX2_init := by decide +kernel
set_option maxRecDepth 20000 in
theorem mX2_init_9 : (.initialized RX0 : Cond) ∈ wsX2_init := by decide +kernel
set_option maxRecDepth 20000 in
theorem mX2_init_10 : (.methodLink RX2 21 yX0_init : Cond) ∈ wsX2_init := by decide +kernel
set_option maxRecDepth 20000 in
theorem mX2_init_11 : (.instanceMethod yX0_init : Cond) ∈ wsX2_init := by decide +kernel
set_option maxHeartbeats 4000000 in
set_option maxRecDepth 100000 in
theorem kX2_init (l : Launch) (D : va_G) (cI cB : ClassId) (x : Nat)  : zMet l yX2_init wsX2_init 2 43 33 500 D cI cB [.ref x] [[(x, .inr (2, [.null, .int (zI 0)]))]] (qX2_init cI x cB) := by
  refine zMet.of (cd := cX2_init) (maxL := 2) (ret := none) (by decide) rfl (Nat.le_of_ble_eq_true rfl) ?_
  intro p e s m args below meth c A ls hS hr hlk hnm hK hA hW hl
  have hS : CallFix p m c cX2_init 2 s args wsX2_init RX2 := hS
  have hx := hS.1
  have hb := hS.2.1
  have hown := hS.2.2.2.1
  have hts := hS.2.2.2.2
  have hl : lv_has ls 2 [(0, .ref x)] := hl
  have hao : va_AO RX0 s := hK.2.ao
  refine lv_aload_n hx hb dX2_init_0 rfl (lv_at hl 0 rfl) ?_
  refine W.objInit hx hb hown (hts _ mX2_init_0) (hts _ mX2_init_1) (hts _ mX2_init_2) rfl (by rw [hS.2.2.1]; exact hl.1) rfl dX2_init_1 (Nat.le_of_ble_eq_true rfl) (Nat.le_of_ble_eq_true rfl) ?_
  refine W.eq (g2 := F0 m 4 ls []) rfl ?_
  refine lv_aload_n hx hb dX2_init_4 rfl (lv_at hl 0 rfl) ?_
  refine lv_iconst (v := zI (4)) hx hb dX2_init_5 rfl ?_
  refine z_newR (rest := [.ref x]) hx hb hown (hts _ mX2_init_3) hao hK hA hW (Nat.le_of_ble_eq_true rfl) (Nat.le_of_ble_eq_true rfl) dX2_init_6 (fun q_6 H hW => ?_)
  have hW : zW D A s.heap [[(x, .inr (2, [.null, .int (zI 0)]))], [zRefs cB q_6 none none none none]] H _ := hW
  refine va_putF (D := D) (ci := 2) (v := .ref q_6) (ty := (.array (.object "StoryPanels$Board"))) (C := RX2) (T := TX2) (N := 2) hx hb hts iX2_init_X2 tyX2 tyX2_ok nmX2 hown hK.1 hW.1 hW.2.1 hW.2.2 0 rfl rfl 0 (by decide) (hts _ mX2_init_5) (fun _ h9 => h9) rfl hnm rfl (by decide +kernel) rfl rfl (Nat.le_of_ble_eq_true rfl) dX2_init_9 (fun H locs h1 h2 h3 => ?_)
  have hW : zW D A s.heap [[(x, .inr (2, [.ref q_6, .int (zI 0)]))], [zRefs cB q_6 none none none none]] H locs := ⟨h1, h2, h3⟩
  refine lv_aload_n hx hb dX2_init_12 rfl (lv_at hl 0 rfl) ?_
  refine lv_iconst (v := zI (0)) hx hb dX2_init_13 rfl ?_
  refine va_put (D := D) (ci := 2) (v := .int (zI 0)) (ty := .int) (C := RX2) (T := TX2) (N := 2) hx hb hts iX2_init_X2 tyX2 tyX2_ok nmX2 hown hK.1 hW.1 hW.2.1 hW.2.2 0 rfl rfl 1 (by decide) (hts _ mX2_init_6) (fun _ h9 => h9) rfl (by decide +kernel) rfl rfl (Nat.le_of_ble_eq_true rfl) dX2_init_14 (fun H locs h1 h2 h3 => ?_)
  have hW : zW D A s.heap [[(x, .inr (2, [.ref q_6, .int (zI 0)]))], [zRefs cB q_6 none none none none]] H locs := ⟨h1, h2, h3⟩
  refine lv_iconst (v := zI (0)) hx hb dX2_init_17 rfl ?_
  refine lv_istore_n (lv' := [(1, .int (zI 0)), (0, .ref x)]) hx hb dX2_init_18 rfl hl (by decide) rfl (fun ls hl => ?_)
  refine lv_iload_n hx hb dX2_init_19 rfl (lv_at hl 0 rfl) ?_
  refine lv_aload_n hx hb dX2_init_20 rfl (lv_at hl 1 rfl) ?_
  refine va_get (D := D) (ci := 2) (v := .ref q_6) (C := RX2) (T := TX2) (N := 2) hx hb hts iX2_init_X2 hown hK.1 hW.1 0 rfl rfl 0 (by decide) (hts _ mX2_init_5) (fun _ h9 => h9) rfl dX2_init_21 ?_
  refine z_alenR hx hb hK hW 1 rfl dX2_init_24 ?_
  refine z_icmp_ge (tgt := 47) hx hb dX2_init_25 (by decide) (by omega) (fun cc_25 => ?_) (fun cc_25 => ?_)
  · exact absurd cc_25 (by omega)
  · refine lv_aload_n hx hb dX2_init_28 rfl (lv_at hl 1 rfl) ?_
    refine va_get (D := D) (ci := 2) (v := .ref q_6) (C := RX2) (T := TX2) (N := 2) hx hb hts iX2_init_X2 hown hK.1 hW.1 0 rfl rfl 0 (by decide) (hts _ mX2_init_5) (fun _ h9 => h9) rfl dX2_init_29 ?_
    refine lv_iload_n hx hb dX2_init_32 rfl (lv_at hl 0 rfl) ?_
    refine z_newO (ci := 0) (C := RX0) (T := TX0) (N := 9) (fs := [.null, .null, .null, .null, .null, .null, .null, .int (zI 0), .int (zI 0)]) (rest := [.int (zI 0), .ref q_6]) hx hb hts iX2_init_X0 tyX0 tyX0_ok hown (hts _ mX2_init_3) (hts _ mX2_init_8) (hts _ mX2_init_9) hK hA hW rfl df_X0 (Nat.le_of_ble_eq_true rfl) (Nat.le_of_ble_eq_true rfl) dX2_init_33 (fun q_33_1 H hW => ?_)
    have hW : zW D A s.heap [[(x, .inr (2, [.ref q_6, .int (zI 0)]))], [zRefs cB q_6 none none none none], [(q_33_1, .inr (0, [.null, .null, .null, .null, .null, .null, .null, .int (zI 0), .int (zI 0)]))]] H _ := hW
    refine lv_dup hx hb dX2_init_36 rfl ?_
    refine z_callI (As := []) (rest := [.ref q_33_1, .int (zI 0), .ref q_6]) hS hK hA hW hl.1 [2] [0, 1] (kX0_init l D cI cB q_33_1) (cwI 0 hts gX2_init_X0_init rfl rfl rfl (hts _ mX2_init_9) (hts _ mX2_init_10) (hts _ mX2_init_11) rfl (by decide +kernel) ⟨Nat.le_of_ble_eq_true rfl, Nat.le_of_ble_eq_true rfl⟩) dX2_init_37 rfl rfl rfl rfl rfl (Nat.le_of_ble_eq_true rfl) ⟨Nat.le_of_ble_eq_true rfl, Nat.le_of_ble_eq_true rfl⟩ (fun v9 w9 H locs hq hW => ?_)
    obtain ⟨axwz_37_3, sz9_37_3, rfl, rfl, hh_37_3⟩ := hq
    have hW : zW D A s.heap [zBoard cI axwz_37_3 sz9_37_3, [(x, .inr (2, [.ref q_6, .int (zI 0)]))], [zRefs cB q_6 none none none none]] H locs := hW
    have hW : zW D A s.heap [[(x, .inr (2, [.ref q_6, .int (zI 0)]))], [zRefs cB q_6 none none none none], zBoard cI axwz_37_3 sz9_37_3] H locs := hW.pick [1, 2, 0] rfl rfl
    have hW9 := hW
    obtain ⟨hc_37_3, hh_37_3⟩ := hh_37_3
    subst hc_37_3
    have hW := hW9
    refine W.eq (g2 := F0 m 40 ls [.ref (axwz_37_3 0), .int (zI 0), .ref q_6]) rfl ?_
    refine z_aast (w2 := some (axwz_37_3 0)) (x2 := none) (y2 := none) (z2 := none) (bs1 := [[(x, .inr (2, [.ref q_6, .int (zI 0)]))], [zRefs cB q_6 (some (axwz_37_3 0)) none none none], zBoard cI axwz_37_3 sz9_37_3]) hx hb hK hW 1 2 rfl rfl dX2_init_40 (by omega) (by first | exact (if_pos (by omega)).symm | exact (if_neg (by omega)).symm) (by first | exact (if_pos (by omega)).symm | exact (if_neg (by omega)).symm) (by first | exact (if_pos (by omega)).symm | exact (if_neg (by omega)).symm) (by first | exact (if_pos (by omega)).symm | exact (if_neg (by omega)).symm) rfl (fun H locs hW => ?_)
    refine z_iinc (x := 0) (lv' := [(1, .int (zI (0 + 1))), (0, .ref x)]) hx hb dX2_init_41 hl (k := 0) rfl (by decide) rfl (fun ls hl => ?_)
    refine lv_goto (tgt := 19) hx hb dX2_init_44 (by decide) ?_
    refine lv_iload_n hx hb dX2_init_19 rfl (lv_at hl 0 rfl) ?_
    refine lv_aload_n hx hb dX2_init_20 rfl (lv_at hl 1 rfl) ?_
    refine va_get (D := D) (ci := 2) (v := .ref q_6) (C := RX2) (T := TX2) (N := 2) hx hb hts iX2_init_X2 hown hK.1 hW.1 0 rfl rfl 0 (by decide) (hts _ mX2_init_5) (fun _ h9 => h9) rfl dX2_init_21 ?_
    refine z_alenR hx hb hK hW 1 rfl dX2_init_24 ?_
    refine z_icmp_ge (tgt := 47) hx hb dX2_init_25 (by decide) (by omega) (fun cc_25 => ?_) (fun cc_25 => ?_)
    · exact absurd cc_25 (by omega)
    · refine lv_aload_n hx hb dX2_init_28 rfl (lv_at hl 1 rfl) ?_
      refine va_get (D := D) (ci := 2) (v := .ref q_6) (C := RX2) (T := TX2) (N := 2) hx hb hts iX2_init_X2 hown hK.1 hW.1 0 rfl rfl 0 (by decide) (hts _ mX2_init_5) (fun _ h9 => h9) rfl dX2_init_29 ?_
      refine lv_iload_n hx hb dX2_init_32 rfl (lv_at hl 0 rfl) ?_
      refine z_newO (ci := 0) (C := RX0) (T := TX0) (N := 9) (fs := [.null, .null, .null, .null, .null, .null, .null, .int (zI 0), .int (zI 0)]) (rest := [.int (zI (0 + 1)), .ref q_6]) hx hb hts iX2_init_X0 tyX0 tyX0_ok hown (hts _ mX2_init_3) (hts _ mX2_init_8) (hts _ mX2_init_9) hK hA hW rfl df_X0 (Nat.le_of_ble_eq_true rfl) (Nat.le_of_ble_eq_true rfl) dX2_init_33 (fun q_33_4 H hW => ?_)
      have hW : zW D A s.heap [[(x, .inr (2, [.ref q_6, .int (zI 0)]))], [zRefs cB q_6 (some (axwz_37_3 0)) none none none], zBoard cI axwz_37_3 sz9_37_3, [(q_33_4, .inr (0, [.null, .null, .null, .null, .null, .null, .null, .int (zI 0), .int (zI 0)]))]] H _ := hW
      refine lv_dup hx hb dX2_init_36 rfl ?_
      refine z_callI (As := []) (rest := [.ref q_33_4, .int (zI (0 + 1)), .ref q_6]) hS hK hA hW hl.1 [3] [0, 1, 2] (kX0_init l D cI cB q_33_4) (cwI 0 hts gX2_init_X0_init rfl rfl rfl (hts _ mX2_init_9) (hts _ mX2_init_10) (hts _ mX2_init_11) rfl (by decide +kernel) ⟨Nat.le_of_ble_eq_true rfl, Nat.le_of_ble_eq_true rfl⟩) dX2_init_37 rfl rfl rfl rfl rfl (Nat.le_of_ble_eq_true rfl) ⟨Nat.le_of_ble_eq_true rfl, Nat.le_of_ble_eq_true rfl⟩ (fun v9 w9 H locs hq hW => ?_)
      obtain ⟨axwz_37_6, sz9_37_6, rfl, rfl, hh_37_6⟩ := hq
      have hW : zW D A s.heap [zBoard cI axwz_37_6 sz9_37_6, [(x, .inr (2, [.ref q_6, .int (zI 0)]))], [zRefs cB q_6 (some (axwz_37_3 0)) none none none], zBoard cI axwz_37_3 sz9_37_3] H locs := hW
      have hW : zW D A s.heap [[(x, .inr (2, [.ref q_6, .int (zI 0)]))], [zRefs cB q_6 (some (axwz_37_3 0)) none none none], zBoard cI axwz_37_3 sz9_37_3, zBoard cI axwz_37_6 sz9_37_6] H locs := hW.pick [1, 2, 3, 0] rfl rfl
      have hW9 := hW
      obtain ⟨hc_37_6, hh_37_6⟩ := hh_37_6
      subst hc_37_6
      have hW := hW9
      refine W.eq (g2 := F0 m 40 ls [.ref (axwz_37_6 0), .int (zI (0 + 1)), .ref q_6]) rfl ?_
      refine z_aast (w2 := some (axwz_37_3 0)) (x2 := some (axwz_37_6 0)) (y2 := none) (z2 := none) (bs1 := [[(x, .inr (2, [.ref q_6, .int (zI 0)]))], [zRefs cB q_6 (some (axwz_37_3 0)) (some (axwz_37_6 0)) none none], zBoard cI axwz_37_3 sz9_37_3, zBoard cI axwz_37_6 sz9_37_6]) hx hb hK hW 1 10 rfl rfl dX2_init_40 (by omega) (by first | exact (if_pos (by omega)).symm | exact (if_neg (by omega)).symm) (by first | exact (if_pos (by omega)).symm | exact (if_neg (by omega)).symm) (by first | exact (if_pos (by omega)).symm | exact (if_neg (by omega)).symm) (by first | exact (if_pos (by omega)).symm | exact (if_neg (by omega)).symm) rfl (fun H locs hW => ?_)
      refine z_iinc (x := 0 + 1) (lv' := [(1, .int (zI (0 + 1 + 1))), (0, .ref x)]) hx hb dX2_init_41 hl (k := 0) rfl (by decide) rfl (fun ls hl => ?_)
      refine lv_goto (tgt := 19) hx hb dX2_init_44 (by decide) ?_
      refine lv_iload_n hx hb dX2_init_19 rfl (lv_at hl 0 rfl) ?_
      refine lv_aload_n hx hb dX2_init_20 rfl (lv_at hl 1 rfl) ?_
      refine va_get (D := D) (ci := 2) (v := .ref q_6) (C := RX2) (T := TX2) (N := 2) hx hb hts iX2_init_X2 hown hK.1 hW.1 0 rfl rfl 0 (by decide) (hts _ mX2_init_5) (fun _ h9 => h9) rfl dX2_init_21 ?_
      refine z_alenR hx hb hK hW 1 rfl dX2_init_24 ?_
      refine z_icmp_ge (tgt := 47) hx hb dX2_init_25 (by decide) (by omega) (fun cc_25 => ?_) (fun cc_25 => ?_)
      · exact absurd cc_25 (by omega)
      · refine lv_aload_n hx hb dX2_init_28 rfl (lv_at hl 1 rfl) ?_
        refine va_get (D := D) (ci := 2) (v := .ref q_6) (C := RX2) (T := TX2) (N := 2) hx hb hts iX2_init_X2 hown hK.1 hW.1 0 rfl rfl 0 (by decide) (hts _ mX2_init_5) (fun _ h9 => h9) rfl dX2_init_29 ?_
        refine lv_iload_n hx hb dX2_init_32 rfl (lv_at hl 0 rfl) ?_
        refine z_newO (ci := 0) (C := RX0) (T := TX0) (N := 9) (fs := [.null, .null, .null, .null, .null, .null, .null, .int (zI 0), .int (zI 0)]) (rest := [.int (zI (0 + 1 + 1)), .ref q_6]) hx hb hts iX2_init_X0 tyX0 tyX0_ok hown (hts _ mX2_init_3) (hts _ mX2_init_8) (hts _ mX2_init_9) hK hA hW rfl df_X0 (Nat.le_of_ble_eq_true rfl) (Nat.le_of_ble_eq_true rfl) dX2_init_33 (fun q_33_7 H hW => ?_)
        have hW : zW D A s.heap [[(x, .inr (2, [.ref q_6, .int (zI 0)]))], [zRefs cB q_6 (some (axwz_37_3 0)) (some (axwz_37_6 0)) none none], zBoard cI axwz_37_3 sz9_37_3, zBoard cI axwz_37_6 sz9_37_6, [(q_33_7, .inr (0, [.null, .null, .null, .null, .null, .null, .null, .int (zI 0), .int (zI 0)]))]] H _ := hW
        refine lv_dup hx hb dX2_init_36 rfl ?_
        refine z_callI (As := []) (rest := [.ref q_33_7, .int (zI (0 + 1 + 1)), .ref q_6]) hS hK hA hW hl.1 [4] [0, 1, 2, 3] (kX0_init l D cI cB q_33_7) (cwI 0 hts gX2_init_X0_init rfl rfl rfl (hts _ mX2_init_9) (hts _ mX2_init_10) (hts _ mX2_init_11) rfl (by decide +kernel) ⟨Nat.le_of_ble_eq_true rfl, Nat.le_of_ble_eq_true rfl⟩) dX2_init_37 rfl rfl rfl rfl rfl (Nat.le_of_ble_eq_true rfl) ⟨Nat.le_of_ble_eq_true rfl, Nat.le_of_ble_eq_true rfl⟩ (fun v9 w9 H locs hq hW => ?_)
        obtain ⟨axwz_37_9, sz9_37_9, rfl, rfl, hh_37_9⟩ := hq
        have hW : zW D A s.heap [zBoard cI axwz_37_9 sz9_37_9, [(x, .inr (2, [.ref q_6, .int (zI 0)]))], [zRefs cB q_6 (some (axwz_37_3 0)) (some (axwz_37_6 0)) none none], zBoard cI axwz_37_3 sz9_37_3, zBoard cI axwz_37_6 sz9_37_6] H locs := hW
        have hW : zW D A s.heap [[(x, .inr (2, [.ref q_6, .int (zI 0)]))], [zRefs cB q_6 (some (axwz_37_3 0)) (some (axwz_37_6 0)) none none], zBoard cI axwz_37_3 sz9_37_3, zBoard cI axwz_37_6 sz9_37_6, zBoard cI axwz_37_9 sz9_37_9] H locs := hW.pick [1, 2, 3, 4, 0] rfl rfl
        have hW9 := hW
        obtain ⟨hc_37_9, hh_37_9⟩ := hh_37_9
        subst hc_37_9
        have hW := hW9
        refine W.eq (g2 := F0 m 40 ls [.ref (axwz_37_9 0), .int (zI (0 + 1 + 1)), .ref q_6]) rfl ?_
        refine z_aast (w2 := some (axwz_37_3 0)) (x2 := some (axwz_37_6 0)) (y2 := some (axwz_37_9 0)) (z2 := none) (bs1 := [[(x, .inr (2, [.ref q_6, .int (zI 0)]))], [zRefs cB q_6 (some (axwz_37_3 0)) (some (axwz_37_6 0)) (some (axwz_37_9 0)) none], zBoard cI axwz_37_3 sz9_37_3, zBoard cI axwz_37_6 sz9_37_6, zBoard cI axwz_37_9 sz9_37_9]) hx hb hK hW 1 18 rfl rfl dX2_init_40 (by omega) (by first | exact (if_pos (by omega)).symm | exact (if_neg (by omega)).symm) (by first | exact (if_pos (by omega)).symm | exact (if_neg (by omega)).symm) (by first | exact (if_pos (by omega)).symm | exact (if_neg (by omega)).symm) (by first | exact (if_pos (by omega)).symm | exact (if_neg (by omega)).symm) rfl (fun H locs hW => ?_)
        refine z_iinc (x := 0 + 1 + 1) (lv' := [(1, .int (zI (0 + 1 + 1 + 1))), (0, .ref x)]) hx hb dX2_init_41 hl (k := 0) rfl (by decide) rfl (fun ls hl => ?_)
        refine lv_goto (tgt := 19) hx hb dX2_init_44 (by decide) ?_
        refine lv_iload_n hx hb dX2_init_19 rfl (lv_at hl 0 rfl) ?_
        refine lv_aload_n hx hb dX2_init_20 rfl (lv_at hl 1 rfl) ?_
        refine va_get (D := D) (ci := 2) (v := .ref q_6) (C := RX2) (T := TX2) (N := 2) hx hb hts iX2_init_X2 hown hK.1 hW.1 0 rfl rfl 0 (by decide) (hts _ mX2_init_5) (fun _ h9 => h9) rfl dX2_init_21 ?_
        refine z_alenR hx hb hK hW 1 rfl dX2_init_24 ?_
        refine z_icmp_ge (tgt := 47) hx hb dX2_init_25 (by decide) (by omega) (fun cc_25 => ?_) (fun cc_25 => ?_)
        · exact absurd cc_25 (by omega)
        · refine lv_aload_n hx hb dX2_init_28 rfl (lv_at hl 1 rfl) ?_
          refine va_get (D := D) (ci := 2) (v := .ref q_6) (C := RX2) (T := TX2) (N := 2) hx hb hts iX2_init_X2 hown hK.1 hW.1 0 rfl rfl 0 (by decide) (hts _ mX2_init_5) (fun _ h9 => h9) rfl dX2_init_29 ?_
          refine lv_iload_n hx hb dX2_init_32 rfl (lv_at hl 0 rfl) ?_
          refine z_newO (ci := 0) (C := RX0) (T := TX0) (N := 9) (fs := [.null, .null, .null, .null, .null, .null, .null, .int (zI 0), .int (zI 0)]) (rest := [.int (zI (0 + 1 + 1 + 1)), .ref q_6]) hx hb hts iX2_init_X0 tyX0 tyX0_ok hown (hts _ mX2_init_3) (hts _ mX2_init_8) (hts _ mX2_init_9) hK hA hW rfl df_X0 (Nat.le_of_ble_eq_true rfl) (Nat.le_of_ble_eq_true rfl) dX2_init_33 (fun q_33_10 H hW => ?_)
          have hW : zW D A s.heap [[(x, .inr (2, [.ref q_6, .int (zI 0)]))], [zRefs cB q_6 (some (axwz_37_3 0)) (some (axwz_37_6 0)) (some (axwz_37_9 0)) none], zBoard cI axwz_37_3 sz9_37_3, zBoard cI axwz_37_6 sz9_37_6, zBoard cI axwz_37_9 sz9_37_9, [(q_33_10, .inr (0, [.null, .null, .null, .null, .null, .null, .null, .int (zI 0), .int (zI 0)]))]] H _ := hW
          refine lv_dup hx hb dX2_init_36 rfl ?_
          refine z_callI (As := []) (rest := [.ref q_33_10, .int (zI (0 + 1 + 1 + 1)), .ref q_6]) hS hK hA hW hl.1 [5] [0, 1, 2, 3, 4] (kX0_init l D cI cB q_33_10) (cwI 0 hts gX2_init_X0_init rfl rfl rfl (hts _ mX2_init_9) (hts _ mX2_init_10) (hts _ mX2_init_11) rfl (by decide +kernel) ⟨Nat.le_of_ble_eq_true rfl, Nat.le_of_ble_eq_true rfl⟩) dX2_init_37 rfl rfl rfl rfl rfl (Nat.le_of_ble_eq_true rfl) ⟨Nat.le_of_ble_eq_true rfl, Nat.le_of_ble_eq_true rfl⟩ (fun v9 w9 H locs hq hW => ?_)
          obtain ⟨axwz_37_12, sz9_37_12, rfl, rfl, hh_37_12⟩ := hq
          have hW : zW D A s.heap [zBoard cI axwz_37_12 sz9_37_12, [(x, .inr (2, [.ref q_6, .int (zI 0)]))], [zRefs cB q_6 (some (axwz_37_3 0)) (some (axwz_37_6 0)) (some (axwz_37_9 0)) none], zBoard cI axwz_37_3 sz9_37_3, zBoard cI axwz_37_6 sz9_37_6, zBoard cI axwz_37_9 sz9_37_9] H locs := hW
          have hW : zW D A s.heap [[(x, .inr (2, [.ref q_6, .int (zI 0)]))], [zRefs cB q_6 (some (axwz_37_3 0)) (some (axwz_37_6 0)) (some (axwz_37_9 0)) none], zBoard cI axwz_37_3 sz9_37_3, zBoard cI axwz_37_6 sz9_37_6, zBoard cI axwz_37_9 sz9_37_9, zBoard cI axwz_37_12 sz9_37_12] H locs := hW.pick [1, 2, 3, 4, 5, 0] rfl rfl
          have hW9 := hW
          obtain ⟨hc_37_12, hh_37_12⟩ := hh_37_12
          subst hc_37_12
          have hW := hW9
          refine W.eq (g2 := F0 m 40 ls [.ref (axwz_37_12 0), .int (zI (0 + 1 + 1 + 1)), .ref q_6]) rfl ?_
          refine z_aast (w2 := some (axwz_37_3 0)) (x2 := some (axwz_37_6 0)) (y2 := some (axwz_37_9 0)) (z2 := some (axwz_37_12 0)) (bs1 := [[(x, .inr (2, [.ref q_6, .int (zI 0)]))], [zRefs cB q_6 (some (axwz_37_3 0)) (some (axwz_37_6 0)) (some (axwz_37_9 0)) (some (axwz_37_12 0))], zBoard cI axwz_37_3 sz9_37_3, zBoard cI axwz_37_6 sz9_37_6, zBoard cI axwz_37_9 sz9_37_9, zBoard cI axwz_37_12 sz9_37_12]) hx hb hK hW 1 26 rfl rfl dX2_init_40 (by omega) (by first | exact (if_pos (by omega)).symm | exact (if_neg (by omega)).symm) (by first | exact (if_pos (by omega)).symm | exact (if_neg (by omega)).symm) (by first | exact (if_pos (by omega)).symm | exact (if_neg (by omega)).symm) (by first | exact (if_pos (by omega)).symm | exact (if_neg (by omega)).symm) rfl (fun H locs hW => ?_)
          refine z_iinc (x := 0 + 1 + 1 + 1) (lv' := [(1, .int (zI (0 + 1 + 1 + 1 + 1))), (0, .ref x)]) hx hb dX2_init_41 hl (k := 0) rfl (by decide) rfl (fun ls hl => ?_)
          refine lv_goto (tgt := 19) hx hb dX2_init_44 (by decide) ?_
          refine lv_iload_n hx hb dX2_init_19 rfl (lv_at hl 0 rfl) ?_
          refine lv_aload_n hx hb dX2_init_20 rfl (lv_at hl 1 rfl) ?_
          refine va_get (D := D) (ci := 2) (v := .ref q_6) (C := RX2) (T := TX2) (N := 2) hx hb hts iX2_init_X2 hown hK.1 hW.1 0 rfl rfl 0 (by decide) (hts _ mX2_init_5) (fun _ h9 => h9) rfl dX2_init_21 ?_
          refine z_alenR hx hb hK hW 1 rfl dX2_init_24 ?_
          refine z_icmp_ge (tgt := 47) hx hb dX2_init_25 (by decide) (by omega) (fun cc_25 => ?_) (fun cc_25 => ?_)
          · exact z_vret hx hb hr hlk hW dX2_init_47 (by
                exact ⟨q_6, axwz_37_3, axwz_37_6, axwz_37_9, axwz_37_12, sz9_37_3, sz9_37_6, sz9_37_9, sz9_37_12, rfl, rfl, by exact ⟨rfl, Nat.zero_le _, fun k S hk => by simp at hk⟩⟩)
          · exact absurd cc_25 (by omega)
