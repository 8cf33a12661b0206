abbrev qX4_init (cI : ClassId) (x : Nat) (cB : ClassId) : Option Value → List va_W → Prop := fun vq wq => ∃ (axb : Nat → Nat) (axn : Nat → Nat) (xh : Nat) (axt : Nat → Nat) (axc : Nat → Nat) (b : zBS) (bn : zBS) (xa : Nat) (v0 : Nat → Nat) (v1 : Nat → Nat) (v2 : Nat → Nat) (v3 : Nat → Nat) (e0 : zBS) (e1 : zBS) (e2 : zBS) (e3 : zBS) (t : zTS) (cn : zCS), vq = none ∧ wq = [[(x, .inr (4, [.ref (axb 0), .ref (axn 0), .int (zI 0), .ref xh, .ref (axt 0), .ref (axc 0)]))], zBoard cI axb b, zBoard cI axn bn, [(xh, .inr (2, [.ref xa, .int (zI 0)]))], [zRefs cB xa (some (v0 0)) (some (v1 0)) (some (v2 0)) (some (v3 0))], zBoard cI v0 e0, zBoard cI v1 e1, zBoard cI v2 e2, zBoard cI v3 e3, zText cI axt t, zCont cI axc cn] ∧ (RBS b ([], [0, 1, 2, 3, 4], 0) ∧ RBS bn ([], [0, 1, 2, 3, 4], 0) ∧ HB 0 e0 e1 e2 e3 [] ∧ TXOK t ∧ tx_len t = 0)
set_option maxRecDepth 20000 in
theorem mX4_init_0 : (.methodLink RX4 3 objectInit : Cond) ∈ wsX4_init := by decide +kernel
set_option maxRecDepth 20000 in
theorem mX4_init_1 : (.instanceMethod objectInit : Cond) ∈ wsX4_init := by decide +kernel
set_option maxRecDepth 20000 in
theorem mX4_init_2 : (.code objectInit ⟨#[0xb1]⟩ 1 none : Cond) ∈ wsX4_init := by decide +kernel
set_option maxRecDepth 20000 in
theorem iX4_init_X0 : ∀ w ∈ u_ws RX0 TX0 9, w ∈ wsX4_init := by decide +kernel
set_option maxRecDepth 20000 in
theorem mX4_init_4 : (.classLink RX4 9 RX0 : Cond) ∈ wsX4_init := by decide +kernel
set_option maxRecDepth 20000 in
theorem mX4_init_5 : (.instantiable RX0 9 : Cond) ∈ wsX4_init := by decide +kernel
set_option maxRecDepth 20000 in
theorem mX4_init_6 : (.initialized RX0 : Cond) ∈ wsX4_init := by decide +kernel
set_option maxRecDepth 20000 in
theorem mX4_init_7 : (.methodLink RX4 11 yX0_init : Cond) ∈ wsX4_init := by decide +kernel
set_option maxRecDepth 20000 in
theorem mX4_init_8 : (.instanceMethod yX0_init : Cond) ∈ wsX4_init := by decide +kernel
set_option maxRecDepth 20000 in
theorem iX4_init_X4 : ∀ w ∈ u_ws RX4 TX4 6, w ∈ wsX4_init := by decide +kernel
set_option maxRecDepth 20000 in
theorem mX4_init_10 : (.fieldLink RX4 12 "StoryPanels" "board" "LStoryPanels$Board;" : Cond) ∈ wsX4_init := by decide +kernel
set_option maxRecDepth 20000 in
theorem mX4_init_11 : (.fieldLink RX4 16 "StoryPanels" "snapshot" "LStoryPanels$Board;" : Cond) ∈ wsX4_init := by decide +kernel
set_option maxRecDepth 20000 in
theorem mX4_init_12 : (.fieldLink RX4 19 "StoryPanels" "snapshotTaken" "Z" : Cond) ∈ wsX4_init := by decide +kernel
set_option maxRecDepth 20000 in
theorem iX4_init_X2 : ∀ w ∈ u_ws RX2 TX2 2, w ∈ wsX4_init := by decide +kernel
set_option maxRecDepth 20000 in
theorem mX4_init_14 : (.classLink RX4 23 RX2 : Cond) ∈ wsX4_init := by decide +kernel
set_option maxRecDepth 20000 in
theorem mX4_init_15 : (.instantiable RX2 2 : Cond) ∈ wsX4_init := by decide +kernel
set_option maxRecDepth 20000 in
theorem mX4_init_16 : (.initialized RX2 : Cond) ∈ wsX4_init := by decide +kernel
set_option maxRecDepth 20000 in
theorem mX4_init_17 : (.methodLink RX4 25 yX2_init : Cond) ∈ wsX4_init := by decide +kernel
set_option maxRecDepth 20000 in
theorem mX4_init_18 : (.instanceMethod yX2_init : Cond) ∈ wsX4_init := by decide +kernel
set_option maxRecDepth 20000 in
theorem mX4_init_19 : (.fieldLink RX4 26 "StoryPanels" "history" "LStoryPanels$History;" : Cond) ∈ wsX4_init := by decide +kernel
set_option maxRecDepth 20000 in
theorem iX4_init_X3 : ∀ w ∈ u_ws RX3 TX3 6, w ∈ wsX4_init := by decide +kernel
set_option maxRecDepth 20000 in
theorem mX4_init_21 : (.classLink RX4 30 RX3 : Cond) ∈ wsX4_init := by decide +kernel
set_option maxRecDepth 20000 in
theorem mX4_init_22 : (.instantiable RX3 6 : Cond) ∈ wsX4_init := by decide +kernel
set_option maxRecDepth 20000 in
theorem mX4_init_23 : (.initialized RX3 : Cond) ∈ wsX4_init := by decide +kernel
set_option maxRecDepth 20000 in
theorem mX4_init_24 : (.instanceMethod yX3_init : Cond) ∈ wsX4_init := by decide +kernel
set_option maxRecDepth 20000 in
theorem mX4_init_25 : (.fieldLink RX4 33 "StoryPanels" "text" "LStoryPanels$PanelText;" : Cond) ∈ wsX4_init := by decide +kernel
set_option maxRecDepth 20000 in
theorem iX4_init_X1 : ∀ w ∈ u_ws RX1 TX1 6, w ∈ wsX4_init := by decide +kernel
set_option maxRecDepth 20000 in
theorem mX4_init_27 : (.classLink RX4 37 RX1 : Cond) ∈ wsX4_init := by decide +kernel
set_option maxRecDepth 20000 in
theorem mX4_init_28 : (.instantiable RX1 6 : Cond) ∈ wsX4_init := by decide +kernel
set_option maxRecDepth 20000 in
theorem mX4_init_29 : (.initialized RX1 : Cond) ∈ wsX4_init := by decide +kernel
set_option maxRecDepth 20000 in
theorem mX4_init_30 : (.instanceMethod yX1_init : Cond) ∈ wsX4_init := by decide +kernel
set_option maxRecDepth 20000 in
theorem mX4_init_31 : (.fieldLink RX4 40 "StoryPanels" "continuity" "LStoryPanels$Continuity;" : Cond) ∈ wsX4_init := by decide +kernel
set_option maxHeartbeats 4000000 in
set_option maxRecDepth 100000 in
theorem kX4_init (l : Launch) (D : va_G) (cI cB : ClassId) (x : Nat)  : zMet l yX4_init wsX4_init 3 64 58 1646 D cI cB [.ref x] [[(x, .inr (4, [.null, .null, .int (zI 0), .null, .null, .null]))]] (qX4_init cI x cB) := by
  refine zMet.of (cd := cX4_init) (maxL := 1) (ret := none) (by decide) rfl (Nat.le_of_ble_eq_true rfl) ?_
  intro p e s m args below meth c A ls hS hr hlk hnm hK hA hW hl
  have hS : CallFix p m c cX4_init 1 s args wsX4_init RX4 := hS
  have hx := hS.1
  have hb := hS.2.1
  have hown := hS.2.2.2.1
  have hts := hS.2.2.2.2
  have hl : lv_has ls 1 [(0, .ref x)] := hl
  refine lv_aload_n hx hb dX4_init_0 rfl (lv_at hl 0 rfl) ?_
  refine W.objInit hx hb hown (hts _ mX4_init_0) (hts _ mX4_init_1) (hts _ mX4_init_2) rfl (by rw [hS.2.2.1]; exact hl.1) rfl dX4_init_1 (Nat.le_of_ble_eq_true rfl) (Nat.le_of_ble_eq_true rfl) ?_
  refine W.eq (g2 := F0 m 4 ls []) rfl ?_
  refine lv_aload_n hx hb dX4_init_4 rfl (lv_at hl 0 rfl) ?_
  refine z_newO (ci := 0) (C := RX0) (T := TX0) (N := 9) (fs := [.null, .null, .null, .null, .null, .null, .null, .int (zI 0), .int (zI 0)]) (rest := [.ref x]) hx hb hts iX4_init_X0 tyX0 tyX0_ok hown (hts _ mX4_init_4) (hts _ mX4_init_5) (hts _ mX4_init_6) hK hA hW rfl df_X0 (Nat.le_of_ble_eq_true rfl) (Nat.le_of_ble_eq_true rfl) dX4_init_5 (fun q_5_1 H hW => ?_)
  have hW : zW D A s.heap [[(x, .inr (4, [.null, .null, .int (zI 0), .null, .null, .null]))], [(q_5_1, .inr (0, [.null, .null, .null, .null, .null, .null, .null, .int (zI 0), .int (zI 0)]))]] H _ := hW
  refine lv_dup hx hb dX4_init_8 rfl ?_
  refine z_callI (As := []) (rest := [.ref q_5_1, .ref x]) hS hK hA hW hl.1 [1] [0] (kX0_init l D cI cB q_5_1) (cwI 0 hts gX4_init_X0_init rfl rfl rfl (hts _ mX4_init_6) (hts _ mX4_init_7) (hts _ mX4_init_8) rfl (by decide +kernel) ⟨Nat.le_of_ble_eq_true rfl, Nat.le_of_ble_eq_true rfl⟩) dX4_init_9 rfl rfl rfl rfl rfl (Nat.le_of_ble_eq_true rfl) ⟨Nat.le_of_ble_eq_true rfl, Nat.le_of_ble_eq_true rfl⟩ (fun v9 w9 H locs hq hW => ?_)
  obtain ⟨axwz_9, sz9_9, rfl, rfl, hh_9⟩ := hq
  have hW : zW D A s.heap [zBoard cI axwz_9 sz9_9, [(x, .inr (4, [.null, .null, .int (zI 0), .null, .null, .null]))]] H locs := hW
  have hW : zW D A s.heap [[(x, .inr (4, [.null, .null, .int (zI 0), .null, .null, .null]))], zBoard cI axwz_9 sz9_9] H locs := hW.pick [1, 0] rfl rfl
  have hW9 := hW
  obtain ⟨hc_9, hh_9⟩ := hh_9
  subst hc_9
  have hW := hW9
  refine W.eq (g2 := F0 m 12 ls [.ref (axwz_9 0), .ref x]) rfl ?_
  refine va_putF (D := D) (ci := 4) (v := .ref (axwz_9 0)) (ty := (.object "StoryPanels$Board")) (C := RX4) (T := TX4) (N := 6) hx hb hts iX4_init_X4 tyX4 tyX4_ok nmX4 hown hK.1 hW.1 hW.2.1 hW.2.2 0 rfl rfl 0 (by decide) (hts _ mX4_init_10) (fun _ h9 => h9) rfl hnm rfl (by decide +kernel) rfl rfl (Nat.le_of_ble_eq_true rfl) dX4_init_12 (fun H locs h1 h2 h3 => ?_)
  have hW : zW D A s.heap [[(x, .inr (4, [.ref (axwz_9 0), .null, .int (zI 0), .null, .null, .null]))], zBoard cI axwz_9 sz9_9] H locs := ⟨h1, h2, h3⟩
  refine lv_aload_n hx hb dX4_init_15 rfl (lv_at hl 0 rfl) ?_
  refine z_newO (ci := 0) (C := RX0) (T := TX0) (N := 9) (fs := [.null, .null, .null, .null, .null, .null, .null, .int (zI 0), .int (zI 0)]) (rest := [.ref x]) hx hb hts iX4_init_X0 tyX0 tyX0_ok hown (hts _ mX4_init_4) (hts _ mX4_init_5) (hts _ mX4_init_6) hK hA hW rfl df_X0 (Nat.le_of_ble_eq_true rfl) (Nat.le_of_ble_eq_true rfl) dX4_init_16 (fun q_16_3 H hW => ?_)
  have hW : zW D A s.heap [[(x, .inr (4, [.ref (axwz_9 0), .null, .int (zI 0), .null, .null, .null]))], zBoard cI axwz_9 sz9_9, [(q_16_3, .inr (0, [.null, .null, .null, .null, .null, .null, .null, .int (zI 0), .int (zI 0)]))]] H _ := hW
  refine lv_dup hx hb dX4_init_19 rfl ?_
  refine z_callI (As := []) (rest := [.ref q_16_3, .ref x]) hS hK hA hW hl.1 [2] [0, 1] (kX0_init l D cI cB q_16_3) (cwI 0 hts gX4_init_X0_init rfl rfl rfl (hts _ mX4_init_6) (hts _ mX4_init_7) (hts _ mX4_init_8) rfl (by decide +kernel) ⟨Nat.le_of_ble_eq_true rfl, Nat.le_of_ble_eq_true rfl⟩) dX4_init_20 rfl rfl rfl rfl rfl (Nat.le_of_ble_eq_true rfl) ⟨Nat.le_of_ble_eq_true rfl, Nat.le_of_ble_eq_true rfl⟩ (fun v9 w9 H locs hq hW => ?_)
  obtain ⟨axwz_20, sz9_20, rfl, rfl, hh_20⟩ := hq
  have hW : zW D A s.heap [zBoard cI axwz_20 sz9_20, [(x, .inr (4, [.ref (axwz_9 0), .null, .int (zI 0), .null, .null, .null]))], zBoard cI axwz_9 sz9_9] H locs := hW
  have hW : zW D A s.heap [[(x, .inr (4, [.ref (axwz_9 0), .null, .int (zI 0), .null, .null, .null]))], zBoard cI axwz_9 sz9_9, zBoard cI axwz_20 sz9_20] H locs := hW.pick [1, 2, 0] rfl rfl
  have hW9 := hW
  obtain ⟨hc_20, hh_20⟩ := hh_20
  subst hc_20
  have hW := hW9
  refine W.eq (g2 := F0 m 23 ls [.ref (axwz_20 0), .ref x]) rfl ?_
  refine va_putF (D := D) (ci := 4) (v := .ref (axwz_20 0)) (ty := (.object "StoryPanels$Board")) (C := RX4) (T := TX4) (N := 6) hx hb hts iX4_init_X4 tyX4 tyX4_ok nmX4 hown hK.1 hW.1 hW.2.1 hW.2.2 0 rfl rfl 1 (by decide) (hts _ mX4_init_11) (fun _ h9 => h9) rfl hnm rfl (by decide +kernel) rfl rfl (Nat.le_of_ble_eq_true rfl) dX4_init_23 (fun H locs h1 h2 h3 => ?_)
  have hW : zW D A s.heap [[(x, .inr (4, [.ref (axwz_9 0), .ref (axwz_20 0), .int (zI 0), .null, .null, .null]))], zBoard cI axwz_9 sz9_9, zBoard cI axwz_20 sz9_20] H locs := ⟨h1, h2, h3⟩
  refine lv_aload_n hx hb dX4_init_26 rfl (lv_at hl 0 rfl) ?_
  refine lv_iconst (v := zI (0)) hx hb dX4_init_27 rfl ?_
  refine va_put (D := D) (ci := 4) (v := .int (zI 0)) (ty := .boolean) (C := RX4) (T := TX4) (N := 6) hx hb hts iX4_init_X4 tyX4 tyX4_ok nmX4 hown hK.1 hW.1 hW.2.1 hW.2.2 0 rfl rfl 2 (by decide) (hts _ mX4_init_12) (fun _ h9 => h9) rfl (by decide +kernel) (by decide +kernel) rfl (Nat.le_of_ble_eq_true rfl) dX4_init_28 (fun H locs h1 h2 h3 => ?_)
  have hW : zW D A s.heap [[(x, .inr (4, [.ref (axwz_9 0), .ref (axwz_20 0), .int (zI 0), .null, .null, .null]))], zBoard cI axwz_9 sz9_9, zBoard cI axwz_20 sz9_20] H locs := ⟨h1, h2, h3⟩
  refine lv_aload_n hx hb dX4_init_31 rfl (lv_at hl 0 rfl) ?_
  refine z_newO (ci := 2) (C := RX2) (T := TX2) (N := 2) (fs := [.null, .int (zI 0)]) (rest := [.ref x]) hx hb hts iX4_init_X2 tyX2 tyX2_ok hown (hts _ mX4_init_14) (hts _ mX4_init_15) (hts _ mX4_init_16) hK hA hW rfl df_X2 (Nat.le_of_ble_eq_true rfl) (Nat.le_of_ble_eq_true rfl) dX4_init_32 (fun q_32_5 H hW => ?_)
  have hW : zW D A s.heap [[(x, .inr (4, [.ref (axwz_9 0), .ref (axwz_20 0), .int (zI 0), .null, .null, .null]))], zBoard cI axwz_9 sz9_9, zBoard cI axwz_20 sz9_20, [(q_32_5, .inr (2, [.null, .int (zI 0)]))]] H _ := hW
  refine lv_dup hx hb dX4_init_35 rfl ?_
  refine z_callI (As := []) (rest := [.ref q_32_5, .ref x]) hS hK hA hW hl.1 [3] [0, 1, 2] (kX2_init l D cI cB q_32_5) (cwI 0 hts gX4_init_X2_init rfl rfl rfl (hts _ mX4_init_16) (hts _ mX4_init_17) (hts _ mX4_init_18) rfl (by decide +kernel) ⟨Nat.le_of_ble_eq_true rfl, Nat.le_of_ble_eq_true rfl⟩) dX4_init_36 rfl rfl rfl rfl rfl (Nat.le_of_ble_eq_true rfl) ⟨Nat.le_of_ble_eq_true rfl, Nat.le_of_ble_eq_true rfl⟩ (fun v9 w9 H locs hq hW => ?_)
  obtain ⟨xa_36, v0_36, v1_36, v2_36, v3_36, e0_36, e1_36, e2_36, e3_36, rfl, rfl, hh_36⟩ := hq
  have hW : zW D A s.heap [[(q_32_5, .inr (2, [.ref xa_36, .int (zI 0)]))], [zRefs cB xa_36 (some (v0_36 0)) (some (v1_36 0)) (some (v2_36 0)) (some (v3_36 0))], zBoard cI v0_36 e0_36, zBoard cI v1_36 e1_36, zBoard cI v2_36 e2_36, zBoard cI v3_36 e3_36, [(x, .inr (4, [.ref (axwz_9 0), .ref (axwz_20 0), .int (zI 0), .null, .null, .null]))], zBoard cI axwz_9 sz9_9, zBoard cI axwz_20 sz9_20] H locs := hW
  refine W.eq (g2 := F0 m 39 ls [.ref q_32_5, .ref x]) rfl ?_
  refine va_putF (D := D) (ci := 4) (v := .ref q_32_5) (ty := (.object "StoryPanels$History")) (C := RX4) (T := TX4) (N := 6) hx hb hts iX4_init_X4 tyX4 tyX4_ok nmX4 hown hK.1 hW.1 hW.2.1 hW.2.2 34 rfl rfl 3 (by decide) (hts _ mX4_init_19) (fun _ h9 => h9) rfl hnm rfl (by decide +kernel) rfl rfl (Nat.le_of_ble_eq_true rfl) dX4_init_39 (fun H locs h1 h2 h3 => ?_)
  have hW : zW D A s.heap [[(q_32_5, .inr (2, [.ref xa_36, .int (zI 0)]))], [zRefs cB xa_36 (some (v0_36 0)) (some (v1_36 0)) (some (v2_36 0)) (some (v3_36 0))], zBoard cI v0_36 e0_36, zBoard cI v1_36 e1_36, zBoard cI v2_36 e2_36, zBoard cI v3_36 e3_36, [(x, .inr (4, [.ref (axwz_9 0), .ref (axwz_20 0), .int (zI 0), .ref q_32_5, .null, .null]))], zBoard cI axwz_9 sz9_9, zBoard cI axwz_20 sz9_20] H locs := ⟨h1, h2, h3⟩
  refine lv_aload_n hx hb dX4_init_42 rfl (lv_at hl 0 rfl) ?_
  refine z_newO (ci := 3) (C := RX3) (T := TX3) (N := 6) (fs := [.null, .int (zI 0), .int (zI 0), .int (zI 0), .int (zI 0), .null]) (rest := [.ref x]) hx hb hts iX4_init_X3 tyX3 tyX3_ok hown (hts _ mX4_init_21) (hts _ mX4_init_22) (hts _ mX4_init_23) hK hA hW rfl df_X3 (Nat.le_of_ble_eq_true rfl) (Nat.le_of_ble_eq_true rfl) dX4_init_43 (fun q_43_7 H hW => ?_)
  have hW : zW D A s.heap [[(q_32_5, .inr (2, [.ref xa_36, .int (zI 0)]))], [zRefs cB xa_36 (some (v0_36 0)) (some (v1_36 0)) (some (v2_36 0)) (some (v3_36 0))], zBoard cI v0_36 e0_36, zBoard cI v1_36 e1_36, zBoard cI v2_36 e2_36, zBoard cI v3_36 e3_36, [(x, .inr (4, [.ref (axwz_9 0), .ref (axwz_20 0), .int (zI 0), .ref q_32_5, .null, .null]))], zBoard cI axwz_9 sz9_9, zBoard cI axwz_20 sz9_20, [(q_43_7, .inr (3, [.null, .int (zI 0), .int (zI 0), .int (zI 0), .int (zI 0), .null]))]] H _ := hW
  refine lv_dup hx hb dX4_init_46 rfl ?_
  refine z_callIN (As := []) (rest := [.ref q_43_7, .ref x]) hS hK hA hW hl.1 [9] [0, 1, 2, 3, 4, 5, 6, 7, 8] (kX3_init l D cI cB q_43_7) ⟨va_cnB 0 hts gX4_init_X3_init_n32 rfl rfl rfl (hK.2 _ nm_11) (hts _ mX4_init_23) (by decide +kernel) ⟨Nat.le_of_ble_eq_true rfl, Nat.le_of_ble_eq_true rfl⟩, rfl, hts _ mX4_init_24⟩ dX4_init_47 rfl rfl rfl rfl rfl (Nat.le_of_ble_eq_true rfl) ⟨Nat.le_of_ble_eq_true rfl, Nat.le_of_ble_eq_true rfl⟩ (fun v9 w9 H locs hq hW => ?_)
  obtain ⟨axwz_47, sz9_47, rfl, rfl, hh_47⟩ := hq
  have hW : zW D A s.heap [zText cI axwz_47 sz9_47, [(q_32_5, .inr (2, [.ref xa_36, .int (zI 0)]))], [zRefs cB xa_36 (some (v0_36 0)) (some (v1_36 0)) (some (v2_36 0)) (some (v3_36 0))], zBoard cI v0_36 e0_36, zBoard cI v1_36 e1_36, zBoard cI v2_36 e2_36, zBoard cI v3_36 e3_36, [(x, .inr (4, [.ref (axwz_9 0), .ref (axwz_20 0), .int (zI 0), .ref q_32_5, .null, .null]))], zBoard cI axwz_9 sz9_9, zBoard cI axwz_20 sz9_20] H locs := hW
  have hW : zW D A s.heap [[(q_32_5, .inr (2, [.ref xa_36, .int (zI 0)]))], [zRefs cB xa_36 (some (v0_36 0)) (some (v1_36 0)) (some (v2_36 0)) (some (v3_36 0))], zBoard cI v0_36 e0_36, zBoard cI v1_36 e1_36, zBoard cI v2_36 e2_36, zBoard cI v3_36 e3_36, [(x, .inr (4, [.ref (axwz_9 0), .ref (axwz_20 0), .int (zI 0), .ref q_32_5, .null, .null]))], zBoard cI axwz_9 sz9_9, zBoard cI axwz_20 sz9_20, zText cI axwz_47 sz9_47] H locs := hW.pick [1, 2, 3, 4, 5, 6, 7, 8, 9, 0] rfl rfl
  have hW9 := hW
  obtain ⟨hc_47, hh_47⟩ := hh_47
  subst hc_47
  have hW := hW9
  refine W.eq (g2 := F0 m 50 ls [.ref (axwz_47 0), .ref x]) rfl ?_
  refine va_putF (D := D) (ci := 4) (v := .ref (axwz_47 0)) (ty := (.object "StoryPanels$PanelText")) (C := RX4) (T := TX4) (N := 6) hx hb hts iX4_init_X4 tyX4 tyX4_ok nmX4 hown hK.1 hW.1 hW.2.1 hW.2.2 34 rfl rfl 4 (by decide) (hts _ mX4_init_25) (fun _ h9 => h9) rfl hnm rfl (by decide +kernel) rfl rfl (Nat.le_of_ble_eq_true rfl) dX4_init_50 (fun H locs h1 h2 h3 => ?_)
  have hW : zW D A s.heap [[(q_32_5, .inr (2, [.ref xa_36, .int (zI 0)]))], [zRefs cB xa_36 (some (v0_36 0)) (some (v1_36 0)) (some (v2_36 0)) (some (v3_36 0))], zBoard cI v0_36 e0_36, zBoard cI v1_36 e1_36, zBoard cI v2_36 e2_36, zBoard cI v3_36 e3_36, [(x, .inr (4, [.ref (axwz_9 0), .ref (axwz_20 0), .int (zI 0), .ref q_32_5, .ref (axwz_47 0), .null]))], zBoard cI axwz_9 sz9_9, zBoard cI axwz_20 sz9_20, zText cI axwz_47 sz9_47] H locs := ⟨h1, h2, h3⟩
  refine lv_aload_n hx hb dX4_init_53 rfl (lv_at hl 0 rfl) ?_
  refine z_newO (ci := 1) (C := RX1) (T := TX1) (N := 6) (fs := [.null, .null, .null, .int (zI 0), .null, .int (zI 0)]) (rest := [.ref x]) hx hb hts iX4_init_X1 tyX1 tyX1_ok hown (hts _ mX4_init_27) (hts _ mX4_init_28) (hts _ mX4_init_29) hK hA hW rfl df_X1 (Nat.le_of_ble_eq_true rfl) (Nat.le_of_ble_eq_true rfl) dX4_init_54 (fun q_54_9 H hW => ?_)
  have hW : zW D A s.heap [[(q_32_5, .inr (2, [.ref xa_36, .int (zI 0)]))], [zRefs cB xa_36 (some (v0_36 0)) (some (v1_36 0)) (some (v2_36 0)) (some (v3_36 0))], zBoard cI v0_36 e0_36, zBoard cI v1_36 e1_36, zBoard cI v2_36 e2_36, zBoard cI v3_36 e3_36, [(x, .inr (4, [.ref (axwz_9 0), .ref (axwz_20 0), .int (zI 0), .ref q_32_5, .ref (axwz_47 0), .null]))], zBoard cI axwz_9 sz9_9, zBoard cI axwz_20 sz9_20, zText cI axwz_47 sz9_47, [(q_54_9, .inr (1, [.null, .null, .null, .int (zI 0), .null, .int (zI 0)]))]] H _ := hW
  refine lv_dup hx hb dX4_init_57 rfl ?_
  refine z_callIN (As := []) (rest := [.ref q_54_9, .ref x]) hS hK hA hW hl.1 [10] [0, 1, 2, 3, 4, 5, 6, 7, 8, 9] (kX1_init l D cI cB q_54_9) ⟨va_cnB 0 hts gX4_init_X1_init_n39 rfl rfl rfl (hK.2 _ nm_12) (hts _ mX4_init_29) (by decide +kernel) ⟨Nat.le_of_ble_eq_true rfl, Nat.le_of_ble_eq_true rfl⟩, rfl, hts _ mX4_init_30⟩ dX4_init_58 rfl rfl rfl rfl rfl (Nat.le_of_ble_eq_true rfl) ⟨Nat.le_of_ble_eq_true rfl, Nat.le_of_ble_eq_true rfl⟩ (fun v9 w9 H locs hq hW => ?_)
  obtain ⟨axwz_58, sz9_58, rfl, rfl, hh_58⟩ := hq
  have hW : zW D A s.heap [zCont cI axwz_58 sz9_58, [(q_32_5, .inr (2, [.ref xa_36, .int (zI 0)]))], [zRefs cB xa_36 (some (v0_36 0)) (some (v1_36 0)) (some (v2_36 0)) (some (v3_36 0))], zBoard cI v0_36 e0_36, zBoard cI v1_36 e1_36, zBoard cI v2_36 e2_36, zBoard cI v3_36 e3_36, [(x, .inr (4, [.ref (axwz_9 0), .ref (axwz_20 0), .int (zI 0), .ref q_32_5, .ref (axwz_47 0), .null]))], zBoard cI axwz_9 sz9_9, zBoard cI axwz_20 sz9_20, zText cI axwz_47 sz9_47] H locs := hW
  have hW : zW D A s.heap [[(q_32_5, .inr (2, [.ref xa_36, .int (zI 0)]))], [zRefs cB xa_36 (some (v0_36 0)) (some (v1_36 0)) (some (v2_36 0)) (some (v3_36 0))], zBoard cI v0_36 e0_36, zBoard cI v1_36 e1_36, zBoard cI v2_36 e2_36, zBoard cI v3_36 e3_36, [(x, .inr (4, [.ref (axwz_9 0), .ref (axwz_20 0), .int (zI 0), .ref q_32_5, .ref (axwz_47 0), .null]))], zBoard cI axwz_9 sz9_9, zBoard cI axwz_20 sz9_20, zText cI axwz_47 sz9_47, zCont cI axwz_58 sz9_58] H locs := hW.pick [1, 2, 3, 4, 5, 6, 7, 8, 9, 10, 0] rfl rfl
  have hW9 := hW
  obtain ⟨hc_58, hh_58⟩ := hh_58
  subst hc_58
  have hW := hW9
  refine W.eq (g2 := F0 m 61 ls [.ref (axwz_58 0), .ref x]) rfl ?_
  refine va_putF (D := D) (ci := 4) (v := .ref (axwz_58 0)) (ty := (.object "StoryPanels$Continuity")) (C := RX4) (T := TX4) (N := 6) hx hb hts iX4_init_X4 tyX4 tyX4_ok nmX4 hown hK.1 hW.1 hW.2.1 hW.2.2 34 rfl rfl 5 (by decide) (hts _ mX4_init_31) (fun _ h9 => h9) rfl hnm rfl (by decide +kernel) rfl rfl (Nat.le_of_ble_eq_true rfl) dX4_init_61 (fun H locs h1 h2 h3 => ?_)
  have hW : zW D A s.heap [[(q_32_5, .inr (2, [.ref xa_36, .int (zI 0)]))], [zRefs cB xa_36 (some (v0_36 0)) (some (v1_36 0)) (some (v2_36 0)) (some (v3_36 0))], zBoard cI v0_36 e0_36, zBoard cI v1_36 e1_36, zBoard cI v2_36 e2_36, zBoard cI v3_36 e3_36, [(x, .inr (4, [.ref (axwz_9 0), .ref (axwz_20 0), .int (zI 0), .ref q_32_5, .ref (axwz_47 0), .ref (axwz_58 0)]))], zBoard cI axwz_9 sz9_9, zBoard cI axwz_20 sz9_20, zText cI axwz_47 sz9_47, zCont cI axwz_58 sz9_58] H locs := ⟨h1, h2, h3⟩
  have hW : zW D A s.heap [[(x, .inr (4, [.ref (axwz_9 0), .ref (axwz_20 0), .int (zI 0), .ref q_32_5, .ref (axwz_47 0), .ref (axwz_58 0)]))], zBoard cI axwz_9 sz9_9, zBoard cI axwz_20 sz9_20, [(q_32_5, .inr (2, [.ref xa_36, .int (zI 0)]))], [zRefs cB xa_36 (some (v0_36 0)) (some (v1_36 0)) (some (v2_36 0)) (some (v3_36 0))], zBoard cI v0_36 e0_36, zBoard cI v1_36 e1_36, zBoard cI v2_36 e2_36, zBoard cI v3_36 e3_36, zText cI axwz_47 sz9_47, zCont cI axwz_58 sz9_58] H locs := hW.pick [6, 7, 8, 0, 1, 2, 3, 4, 5, 9, 10] rfl rfl
  exact z_vret hx hb hr hlk hW dX4_init_64 (by
      exact ⟨axwz_9, axwz_20, q_32_5, axwz_47, axwz_58, sz9_9, sz9_20, xa_36, v0_36, v1_36, v2_36, v3_36, e0_36, e1_36, e2_36, e3_36, sz9_47, sz9_58, rfl, rfl, by exact ⟨hh_9, hh_20, hh_36, hh_47.1, hh_47.2⟩⟩)
