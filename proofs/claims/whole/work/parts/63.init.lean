theorem TXOK_0 : TXOK ((fun _ => 0), 0, 0, 0, 0, (fun _ => 0)) := ⟨⟨by show (0 : Int) ≤ 0; omega, by show (0 : Int) ≤ 60; omega⟩, fun k _ _ => ⟨by show (0 : Int) ≤ 0; omega, by show (0 : Int) < 65536; omega⟩, fun k _ _ => ⟨by show (0 : Int) ≤ 0; omega, by show (0 : Int) < 400; omega⟩⟩
abbrev qX3_init (cI : ClassId) (x : Nat) : Option Value → List va_W → Prop := fun vq wq => ∃ (axwz : Nat → Nat) (sz9 : zTS), vq = none ∧ wq = [zText cI axwz sz9] ∧ (axwz 0 = x ∧ (TXOK sz9 ∧ tx_len sz9 = 0))
set_option maxRecDepth 20000 in
theorem mX3_init_0 : (.methodLink RX3 3 objectInit : Cond) ∈ wsX3_init := by decide +kernel
set_option maxRecDepth 20000 in
theorem mX3_init_1 : (.instanceMethod objectInit : Cond) ∈ wsX3_init := by decide +kernel
set_option maxRecDepth 20000 in
theorem mX3_init_2 : (.code objectInit ⟨#[0xb1]⟩ 1 none : Cond) ∈ wsX3_init := by decide +kernel
set_option maxRecDepth 20000 in
theorem mX3_init_3 : (.arrayClass .int : Cond) ∈ wsX3_init := by decide +kernel
set_option maxRecDepth 20000 in
theorem iX3_init_X3 : ∀ w ∈ u_ws RX3 TX3 6, w ∈ wsX3_init := by decide +kernel
set_option maxRecDepth 20000 in
theorem mX3_init_5 : (.fieldLink RX3 9 "StoryPanels$PanelText" "signs" "[I" : Cond) ∈ wsX3_init := by decide +kernel
set_option maxRecDepth 20000 in
theorem mX3_init_6 : (.fieldLink RX3 15 "StoryPanels$PanelText" "length" "I" : Cond) ∈ wsX3_init := by decide +kernel
set_option maxRecDepth 20000 in
theorem mX3_init_7 : (.fieldLink RX3 19 "StoryPanels$PanelText" "scene" "I" : Cond) ∈ wsX3_init := by decide +kernel
set_option maxRecDepth 20000 in
theorem mX3_init_8 : (.fieldLink RX3 22 "StoryPanels$PanelText" "duration" "I" : Cond) ∈ wsX3_init := by decide +kernel
set_option maxRecDepth 20000 in
theorem mX3_init_9 : (.fieldLink RX3 25 "StoryPanels$PanelText" "events" "I" : Cond) ∈ wsX3_init := by decide +kernel
set_option maxRecDepth 20000 in
theorem mX3_init_10 : (.fieldLink RX3 28 "StoryPanels$PanelText" "eventCodes" "[I" : Cond) ∈ wsX3_init := by decide +kernel
set_option maxHeartbeats 4000000 in
set_option maxRecDepth 100000 in
theorem kX3_init (l : Launch) (D : va_G) (cI cB : ClassId) (x : Nat)  : zMet l yX3_init wsX3_init 1 20 2 66 D cI cB [.ref x] [[(x, .inr (3, [.null, .int (zI 0), .int (zI 0), .int (zI 0), .int (zI 0), .null]))]] (qX3_init cI x) := by
  refine zMet.of (cd := cX3_init) (maxL := 1) (ret := none) (by decide) rfl (Nat.le_of_ble_eq_true rfl) ?_
  intro p e s m args below meth c A ls hS hr hlk hnm hK hA hW hl
  have hS : CallFix p m c cX3_init 1 s args wsX3_init RX3 := hS
  have hx := hS.1
  have hb := hS.2.1
  have hown := hS.2.2.2.1
  have hts := hS.2.2.2.2
  have hl : lv_has ls 1 [(0, .ref x)] := hl
  refine lv_aload_n hx hb dX3_init_0 rfl (lv_at hl 0 rfl) ?_
  refine W.objInit hx hb hown (hts _ mX3_init_0) (hts _ mX3_init_1) (hts _ mX3_init_2) rfl (by rw [hS.2.2.1]; exact hl.1) rfl dX3_init_1 (Nat.le_of_ble_eq_true rfl) (Nat.le_of_ble_eq_true rfl) ?_
  refine W.eq (g2 := F0 m 4 ls []) rfl ?_
  refine lv_aload_n hx hb dX3_init_4 rfl (lv_at hl 0 rfl) ?_
  refine lv_bipush (v := zI (60)) hx hb dX3_init_5 (by decide +kernel) ?_
  refine z_newI (rest := [.ref x]) hx hb (hts _ mX3_init_3) hK hA hW 60 rfl (by decide) (Nat.le_of_ble_eq_true rfl) (Nat.le_of_ble_eq_true rfl) dX3_init_7 (fun q_7 H hW => ?_)
  have hW : zW D A s.heap [[(x, .inr (3, [.null, .int (zI 0), .int (zI 0), .int (zI 0), .int (zI 0), .null]))], [zArr cI q_7 60 (fun _ => 0)]] H _ := hW
  refine va_putF (D := D) (ci := 3) (v := .ref q_7) (ty := (.array .int)) (C := RX3) (T := TX3) (N := 6) hx hb hts iX3_init_X3 tyX3 tyX3_ok nmX3 hown hK.1 hW.1 hW.2.1 hW.2.2 0 rfl rfl 0 (by decide) (hts _ mX3_init_5) (fun _ h9 => h9) rfl hnm rfl (by decide +kernel) rfl rfl (Nat.le_of_ble_eq_true rfl) dX3_init_9 (fun H locs h1 h2 h3 => ?_)
  have hW : zW D A s.heap [[(x, .inr (3, [.ref q_7, .int (zI 0), .int (zI 0), .int (zI 0), .int (zI 0), .null]))], [zArr cI q_7 60 (fun _ => 0)]] H locs := ⟨h1, h2, h3⟩
  refine lv_aload_n hx hb dX3_init_12 rfl (lv_at hl 0 rfl) ?_
  refine lv_iconst (v := zI (0)) hx hb dX3_init_13 rfl ?_
  refine va_put (D := D) (ci := 3) (v := .int (zI 0)) (ty := .int) (C := RX3) (T := TX3) (N := 6) hx hb hts iX3_init_X3 tyX3 tyX3_ok nmX3 hown hK.1 hW.1 hW.2.1 hW.2.2 0 rfl rfl 1 (by decide) (hts _ mX3_init_6) (fun _ h9 => h9) rfl (by decide +kernel) rfl rfl (Nat.le_of_ble_eq_true rfl) dX3_init_14 (fun H locs h1 h2 h3 => ?_)
  have hW : zW D A s.heap [[(x, .inr (3, [.ref q_7, .int (zI 0), .int (zI 0), .int (zI 0), .int (zI 0), .null]))], [zArr cI q_7 60 (fun _ => 0)]] H locs := ⟨h1, h2, h3⟩
  refine lv_aload_n hx hb dX3_init_17 rfl (lv_at hl 0 rfl) ?_
  refine lv_iconst (v := zI (0)) hx hb dX3_init_18 rfl ?_
  refine va_put (D := D) (ci := 3) (v := .int (zI 0)) (ty := .int) (C := RX3) (T := TX3) (N := 6) hx hb hts iX3_init_X3 tyX3 tyX3_ok nmX3 hown hK.1 hW.1 hW.2.1 hW.2.2 0 rfl rfl 2 (by decide) (hts _ mX3_init_7) (fun _ h9 => h9) rfl (by decide +kernel) rfl rfl (Nat.le_of_ble_eq_true rfl) dX3_init_19 (fun H locs h1 h2 h3 => ?_)
  have hW : zW D A s.heap [[(x, .inr (3, [.ref q_7, .int (zI 0), .int (zI 0), .int (zI 0), .int (zI 0), .null]))], [zArr cI q_7 60 (fun _ => 0)]] H locs := ⟨h1, h2, h3⟩
  refine lv_aload_n hx hb dX3_init_22 rfl (lv_at hl 0 rfl) ?_
  refine lv_iconst (v := zI (0)) hx hb dX3_init_23 rfl ?_
  refine va_put (D := D) (ci := 3) (v := .int (zI 0)) (ty := .int) (C := RX3) (T := TX3) (N := 6) hx hb hts iX3_init_X3 tyX3 tyX3_ok nmX3 hown hK.1 hW.1 hW.2.1 hW.2.2 0 rfl rfl 3 (by decide) (hts _ mX3_init_8) (fun _ h9 => h9) rfl (by decide +kernel) rfl rfl (Nat.le_of_ble_eq_true rfl) dX3_init_24 (fun H locs h1 h2 h3 => ?_)
  have hW : zW D A s.heap [[(x, .inr (3, [.ref q_7, .int (zI 0), .int (zI 0), .int (zI 0), .int (zI 0), .null]))], [zArr cI q_7 60 (fun _ => 0)]] H locs := ⟨h1, h2, h3⟩
  refine lv_aload_n hx hb dX3_init_27 rfl (lv_at hl 0 rfl) ?_
  refine lv_iconst (v := zI (0)) hx hb dX3_init_28 rfl ?_
  refine va_put (D := D) (ci := 3) (v := .int (zI 0)) (ty := .int) (C := RX3) (T := TX3) (N := 6) hx hb hts iX3_init_X3 tyX3 tyX3_ok nmX3 hown hK.1 hW.1 hW.2.1 hW.2.2 0 rfl rfl 4 (by decide) (hts _ mX3_init_9) (fun _ h9 => h9) rfl (by decide +kernel) rfl rfl (Nat.le_of_ble_eq_true rfl) dX3_init_29 (fun H locs h1 h2 h3 => ?_)
  have hW : zW D A s.heap [[(x, .inr (3, [.ref q_7, .int (zI 0), .int (zI 0), .int (zI 0), .int (zI 0), .null]))], [zArr cI q_7 60 (fun _ => 0)]] H locs := ⟨h1, h2, h3⟩
  refine lv_aload_n hx hb dX3_init_32 rfl (lv_at hl 0 rfl) ?_
  refine lv_bipush (v := zI (6)) hx hb dX3_init_33 (by decide +kernel) ?_
  refine z_newI (rest := [.ref x]) hx hb (hts _ mX3_init_3) hK hA hW 6 rfl (by decide) (Nat.le_of_ble_eq_true rfl) (Nat.le_of_ble_eq_true rfl) dX3_init_35 (fun q_35 H hW => ?_)
  have hW : zW D A s.heap [[(x, .inr (3, [.ref q_7, .int (zI 0), .int (zI 0), .int (zI 0), .int (zI 0), .null]))], [zArr cI q_7 60 (fun _ => 0)], [zArr cI q_35 6 (fun _ => 0)]] H _ := hW
  refine va_putF (D := D) (ci := 3) (v := .ref q_35) (ty := (.array .int)) (C := RX3) (T := TX3) (N := 6) hx hb hts iX3_init_X3 tyX3 tyX3_ok nmX3 hown hK.1 hW.1 hW.2.1 hW.2.2 0 rfl rfl 5 (by decide) (hts _ mX3_init_10) (fun _ h9 => h9) rfl hnm rfl (by decide +kernel) rfl rfl (Nat.le_of_ble_eq_true rfl) dX3_init_37 (fun H locs h1 h2 h3 => ?_)
  have hW : zW D A s.heap [[(x, .inr (3, [.ref q_7, .int (zI 0), .int (zI 0), .int (zI 0), .int (zI 0), .ref q_35]))], [zArr cI q_7 60 (fun _ => 0)], [zArr cI q_35 6 (fun _ => 0)]] H locs := ⟨h1, h2, h3⟩
  obtain ⟨axw, ha_axw, hW9⟩ : ∃ axw : Nat → Nat, axw 0 = x ∧ zW D A s.heap [zText cI axw ((fun _ => 0), 0, 0, 0, 0, (fun _ => 0))] H locs := ⟨adr [x, q_7, q_35], rfl, zW.flat hW rfl⟩
  subst ha_axw
  have hW := hW9
  exact z_vret hx hb hr hlk hW dX3_init_40 (by
      exact ⟨axw, ((fun _ => 0), 0, 0, 0, 0, (fun _ => 0)), rfl, rfl, by exact ⟨rfl, TXOK_0, rfl⟩⟩)

abbrev qX1_init (cI : ClassId) (x : Nat) : Option Value → List va_W → Prop := fun vq wq => ∃ (axwz : Nat → Nat) (sz9 : zCS), vq = none ∧ wq = [zCont cI axwz sz9] ∧ (axwz 0 = x ∧ (True))
set_option maxRecDepth 20000 in
theorem mX1_init_0 : (.methodLink RX1 3 objectInit : Cond) ∈ wsX1_init := by decide +kernel
set_option maxRecDepth 20000 in
theorem mX1_init_1 : (.instanceMethod objectInit : Cond) ∈ wsX1_init := by decide +kernel
set_option maxRecDepth 20000 in
theorem mX1_init_2 : (.code objectInit ⟨#[0xb1]⟩ 1 none : Cond) ∈ wsX1_init := by decide +kernel
set_option maxRecDepth 20000 in
theorem mX1_init_3 : (.arrayClass .int : Cond) ∈ wsX1_init := by decide +kernel
set_option maxRecDepth 20000 in
theorem iX1_init_X1 : ∀ w ∈ u_ws RX1 TX1 6, w ∈ wsX1_init := by decide +kernel
set_option maxRecDepth 20000 in
theorem mX1_init_5 : (.fieldLink RX1 9 "StoryPanels$Continuity" "holders" "[I" : Cond) ∈ wsX1_init := by decide +kernel
set_option maxRecDepth 20000 in
theorem mX1_init_6 : (.fieldLink RX1 15 "StoryPanels$Continuity" "moved" "[I" : Cond) ∈ wsX1_init := by decide +kernel
set_option maxRecDepth 20000 in
theorem mX1_init_7 : (.fieldLink RX1 18 "StoryPanels$Continuity" "drawnProps" "[I" : Cond) ∈ wsX1_init := by decide +kernel
set_option maxRecDepth 20000 in
theorem mX1_init_8 : (.fieldLink RX1 21 "StoryPanels$Continuity" "seen" "I" : Cond) ∈ wsX1_init := by decide +kernel
set_option maxRecDepth 20000 in
theorem mX1_init_9 : (.fieldLink RX1 25 "StoryPanels$Continuity" "breakNumbers" "[I" : Cond) ∈ wsX1_init := by decide +kernel
set_option maxRecDepth 20000 in
theorem mX1_init_10 : (.fieldLink RX1 28 "StoryPanels$Continuity" "breaks" "I" : Cond) ∈ wsX1_init := by decide +kernel
set_option maxHeartbeats 4000000 in
set_option maxRecDepth 100000 in
theorem kX1_init (l : Launch) (D : va_G) (cI cB : ClassId) (x : Nat)  : zMet l yX1_init wsX1_init 1 20 4 818 D cI cB [.ref x] [[(x, .inr (1, [.null, .null, .null, .int (zI 0), .null, .int (zI 0)]))]] (qX1_init cI x) := by
  refine zMet.of (cd := cX1_init) (maxL := 1) (ret := none) (by decide) rfl (Nat.le_of_ble_eq_true rfl) ?_
  intro p e s m args below meth c A ls hS hr hlk hnm hK hA hW hl
  have hS : CallFix p m c cX1_init 1 s args wsX1_init RX1 := hS
  have hx := hS.1
  have hb := hS.2.1
  have hown := hS.2.2.2.1
  have hts := hS.2.2.2.2
  have hl : lv_has ls 1 [(0, .ref x)] := hl
  refine lv_aload_n hx hb dX1_init_0 rfl (lv_at hl 0 rfl) ?_
  refine W.objInit hx hb hown (hts _ mX1_init_0) (hts _ mX1_init_1) (hts _ mX1_init_2) rfl (by rw [hS.2.2.1]; exact hl.1) rfl dX1_init_1 (Nat.le_of_ble_eq_true rfl) (Nat.le_of_ble_eq_true rfl) ?_
  refine W.eq (g2 := F0 m 4 ls []) rfl ?_
  refine lv_aload_n hx hb dX1_init_4 rfl (lv_at hl 0 rfl) ?_
  refine lv_bipush (v := zI (10)) hx hb dX1_init_5 (by decide +kernel) ?_
  refine z_newI (rest := [.ref x]) hx hb (hts _ mX1_init_3) hK hA hW 10 rfl (by decide) (Nat.le_of_ble_eq_true rfl) (Nat.le_of_ble_eq_true rfl) dX1_init_7 (fun q_7 H hW => ?_)
  have hW : zW D A s.heap [[(x, .inr (1, [.null, .null, .null, .int (zI 0), .null, .int (zI 0)]))], [zArr cI q_7 10 (fun _ => 0)]] H _ := hW
  refine va_putF (D := D) (ci := 1) (v := .ref q_7) (ty := (.array .int)) (C := RX1) (T := TX1) (N := 6) hx hb hts iX1_init_X1 tyX1 tyX1_ok nmX1 hown hK.1 hW.1 hW.2.1 hW.2.2 0 rfl rfl 0 (by decide) (hts _ mX1_init_5) (fun _ h9 => h9) rfl hnm rfl (by decide +kernel) rfl rfl (Nat.le_of_ble_eq_true rfl) dX1_init_9 (fun H locs h1 h2 h3 => ?_)
  have hW : zW D A s.heap [[(x, .inr (1, [.ref q_7, .null, .null, .int (zI 0), .null, .int (zI 0)]))], [zArr cI q_7 10 (fun _ => 0)]] H locs := ⟨h1, h2, h3⟩
  refine lv_aload_n hx hb dX1_init_12 rfl (lv_at hl 0 rfl) ?_
  refine lv_iconst (v := zI (4)) hx hb dX1_init_13 rfl ?_
  refine z_newI (rest := [.ref x]) hx hb (hts _ mX1_init_3) hK hA hW 4 rfl (by decide) (Nat.le_of_ble_eq_true rfl) (Nat.le_of_ble_eq_true rfl) dX1_init_14 (fun q_14 H hW => ?_)
  have hW : zW D A s.heap [[(x, .inr (1, [.ref q_7, .null, .null, .int (zI 0), .null, .int (zI 0)]))], [zArr cI q_7 10 (fun _ => 0)], [zArr cI q_14 4 (fun _ => 0)]] H _ := hW
  refine va_putF (D := D) (ci := 1) (v := .ref q_14) (ty := (.array .int)) (C := RX1) (T := TX1) (N := 6) hx hb hts iX1_init_X1 tyX1 tyX1_ok nmX1 hown hK.1 hW.1 hW.2.1 hW.2.2 0 rfl rfl 1 (by decide) (hts _ mX1_init_6) (fun _ h9 => h9) rfl hnm rfl (by decide +kernel) rfl rfl (Nat.le_of_ble_eq_true rfl) dX1_init_16 (fun H locs h1 h2 h3 => ?_)
  have hW : zW D A s.heap [[(x, .inr (1, [.ref q_7, .ref q_14, .null, .int (zI 0), .null, .int (zI 0)]))], [zArr cI q_7 10 (fun _ => 0)], [zArr cI q_14 4 (fun _ => 0)]] H locs := ⟨h1, h2, h3⟩
  refine lv_aload_n hx hb dX1_init_19 rfl (lv_at hl 0 rfl) ?_
  refine lv_iconst (v := zI (4)) hx hb dX1_init_20 rfl ?_
  refine z_newI (rest := [.ref x]) hx hb (hts _ mX1_init_3) hK hA hW 4 rfl (by decide) (Nat.le_of_ble_eq_true rfl) (Nat.le_of_ble_eq_true rfl) dX1_init_21 (fun q_21 H hW => ?_)
  have hW : zW D A s.heap [[(x, .inr (1, [.ref q_7, .ref q_14, .null, .int (zI 0), .null, .int (zI 0)]))], [zArr cI q_7 10 (fun _ => 0)], [zArr cI q_14 4 (fun _ => 0)], [zArr cI q_21 4 (fun _ => 0)]] H _ := hW
  refine va_putF (D := D) (ci := 1) (v := .ref q_21) (ty := (.array .int)) (C := RX1) (T := TX1) (N := 6) hx hb hts iX1_init_X1 tyX1 tyX1_ok nmX1 hown hK.1 hW.1 hW.2.1 hW.2.2 0 rfl rfl 2 (by decide) (hts _ mX1_init_7) (fun _ h9 => h9) rfl hnm rfl (by decide +kernel) rfl rfl (Nat.le_of_ble_eq_true rfl) dX1_init_23 (fun H locs h1 h2 h3 => ?_)
  have hW : zW D A s.heap [[(x, .inr (1, [.ref q_7, .ref q_14, .ref q_21, .int (zI 0), .null, .int (zI 0)]))], [zArr cI q_7 10 (fun _ => 0)], [zArr cI q_14 4 (fun _ => 0)], [zArr cI q_21 4 (fun _ => 0)]] H locs := ⟨h1, h2, h3⟩
  refine lv_aload_n hx hb dX1_init_26 rfl (lv_at hl 0 rfl) ?_
  refine lv_iconst (v := zI (0)) hx hb dX1_init_27 rfl ?_
  refine va_put (D := D) (ci := 1) (v := .int (zI 0)) (ty := .int) (C := RX1) (T := TX1) (N := 6) hx hb hts iX1_init_X1 tyX1 tyX1_ok nmX1 hown hK.1 hW.1 hW.2.1 hW.2.2 0 rfl rfl 3 (by decide) (hts _ mX1_init_8) (fun _ h9 => h9) rfl (by decide +kernel) rfl rfl (Nat.le_of_ble_eq_true rfl) dX1_init_28 (fun H locs h1 h2 h3 => ?_)
  have hW : zW D A s.heap [[(x, .inr (1, [.ref q_7, .ref q_14, .ref q_21, .int (zI 0), .null, .int (zI 0)]))], [zArr cI q_7 10 (fun _ => 0)], [zArr cI q_14 4 (fun _ => 0)], [zArr cI q_21 4 (fun _ => 0)]] H locs := ⟨h1, h2, h3⟩
  refine lv_aload_n hx hb dX1_init_31 rfl (lv_at hl 0 rfl) ?_
  refine lv_sipush (v := zI (800)) hx hb dX1_init_32 (by decide +kernel) ?_
  refine z_newI (rest := [.ref x]) hx hb (hts _ mX1_init_3) hK hA hW 800 rfl (by decide) (Nat.le_of_ble_eq_true rfl) (Nat.le_of_ble_eq_true rfl) dX1_init_35 (fun q_35 H hW => ?_)
  have hW : zW D A s.heap [[(x, .inr (1, [.ref q_7, .ref q_14, .ref q_21, .int (zI 0), .null, .int (zI 0)]))], [zArr cI q_7 10 (fun _ => 0)], [zArr cI q_14 4 (fun _ => 0)], [zArr cI q_21 4 (fun _ => 0)], [zArr cI q_35 800 (fun _ => 0)]] H _ := hW
  refine va_putF (D := D) (ci := 1) (v := .ref q_35) (ty := (.array .int)) (C := RX1) (T := TX1) (N := 6) hx hb hts iX1_init_X1 tyX1 tyX1_ok nmX1 hown hK.1 hW.1 hW.2.1 hW.2.2 0 rfl rfl 4 (by decide) (hts _ mX1_init_9) (fun _ h9 => h9) rfl hnm rfl (by decide +kernel) rfl rfl (Nat.le_of_ble_eq_true rfl) dX1_init_37 (fun H locs h1 h2 h3 => ?_)
  have hW : zW D A s.heap [[(x, .inr (1, [.ref q_7, .ref q_14, .ref q_21, .int (zI 0), .ref q_35, .int (zI 0)]))], [zArr cI q_7 10 (fun _ => 0)], [zArr cI q_14 4 (fun _ => 0)], [zArr cI q_21 4 (fun _ => 0)], [zArr cI q_35 800 (fun _ => 0)]] H locs := ⟨h1, h2, h3⟩
  refine lv_aload_n hx hb dX1_init_40 rfl (lv_at hl 0 rfl) ?_
  refine lv_iconst (v := zI (0)) hx hb dX1_init_41 rfl ?_
  refine va_put (D := D) (ci := 1) (v := .int (zI 0)) (ty := .int) (C := RX1) (T := TX1) (N := 6) hx hb hts iX1_init_X1 tyX1 tyX1_ok nmX1 hown hK.1 hW.1 hW.2.1 hW.2.2 0 rfl rfl 5 (by decide) (hts _ mX1_init_10) (fun _ h9 => h9) rfl (by decide +kernel) rfl rfl (Nat.le_of_ble_eq_true rfl) dX1_init_42 (fun H locs h1 h2 h3 => ?_)
  have hW : zW D A s.heap [[(x, .inr (1, [.ref q_7, .ref q_14, .ref q_21, .int (zI 0), .ref q_35, .int (zI 0)]))], [zArr cI q_7 10 (fun _ => 0)], [zArr cI q_14 4 (fun _ => 0)], [zArr cI q_21 4 (fun _ => 0)], [zArr cI q_35 800 (fun _ => 0)]] H locs := ⟨h1, h2, h3⟩
  obtain ⟨axw, ha_axw, hW9⟩ : ∃ axw : Nat → Nat, axw 0 = x ∧ zW D A s.heap [zCont cI axw ((fun _ => 0), (fun _ => 0), (fun _ => 0), 0, (fun _ => 0), 0)] H locs := ⟨adr [x, q_7, q_14, q_21, q_35], rfl, zW.flat hW rfl⟩
  subst ha_axw
  have hW := hW9
  exact z_vret hx hb hr hlk hW dX1_init_45 (by
      exact ⟨axw, ((fun _ => 0), (fun _ => 0), (fun _ => 0), 0, (fun _ => 0), 0), rfl, rfl, by exact ⟨rfl, trivial⟩⟩)
