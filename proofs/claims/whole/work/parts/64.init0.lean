def idF (n : Int) : Int → Int := fun j => if 0 ≤ j ∧ j < n then j else 0
theorem idF_0 : idF 0 = fun _ => 0 := by
  funext j; unfold idF; rw [if_neg (by omega)]
theorem idF_s {n : Int} (h : 0 ≤ n) : zU (idF n) n n = idF (n + 1) := by
  funext j
  unfold zU idF
  by_cases c : j = n
  · rw [if_pos c, if_pos (by omega), c]
  · rw [if_neg c]
    by_cases c2 : 0 ≤ j ∧ j < n
    · rw [if_pos c2, if_pos (by omega)]
    · rw [if_neg c2, if_neg (by omega)]
theorem RB_0 : RB (cpF (fun _ => -1) (fun _ => 0) 10, fun _ => 0, fun _ => 0, fun _ => 0, fun _ => 0, fun _ => 0, idF 5, 0, 0) [] [0, 1, 2, 3, 4] 0 := by
  refine ⟨⟨⟨by show (0 : Int) ≤ 0; omega, by show (0 : Int) ≤ 10; omega⟩, ⟨by show (0 : Int) ≤ 0; omega, by show (0 : Int) ≤ 99; omega⟩, fun k _ _ => ⟨by show (0 : Int) ≤ 0; omega, by show (0 : Int) < 10; omega⟩, fun k k1 k2 => ?_, fun k _ _ => ⟨by show (0 : Int) ≤ 0; omega, by show (0 : Int) < 5; omega⟩, fun k _ _ => ⟨by show (0 : Int) ≤ 0; omega, by show (0 : Int) ≤ 99; omega⟩, fun k _ _ => ⟨by show (0 : Int) ≤ 0; omega, by show (0 : Int) ≤ 6; omega⟩, fun k _ _ => ⟨by show (0 : Int) ≤ 0; omega, by show (0 : Int) < 400; omega⟩, fun k k1 k2 => ?_⟩, rfl, rfl, fun j p hp => by simp at hp, fun i j i1 i2 j1 j2 he => ?_, fun x x1 x2 hx => ?_, fun p hp => by simp at hp, List.Pairwise.nil, fun s s1 s2 => ?_, List.Perm.refl _⟩
  · show -1 ≤ cpF (fun _ => -1) (fun _ => 0) 10 k ∧ cpF (fun _ => -1) (fun _ => 0) 10 k < 99
    unfold cpF
    rw [if_pos (by omega)]
    show -1 ≤ (-1 : Int) ∧ (-1 : Int) < 99
    omega
  · show 0 ≤ idF 5 k ∧ idF 5 k < 5
    unfold idF
    rw [if_pos (by omega)]
    omega
  · have i3 : i < 0 := i2
    omega
  · show cpF (fun _ => -1) (fun _ => 0) 10 x = -1
    unfold cpF
    rw [if_pos (by omega)]
  · show idF 5 s = _
    unfold idF
    rw [if_pos (by omega)]
    rcases (show s = 0 ∨ s = 1 ∨ s = 2 ∨ s = 3 ∨ s = 4 by omega) with rfl | rfl | rfl | rfl | rfl <;> rfl
abbrev qX0_init (cI : ClassId) (x : Nat) : Option Value → List va_W → Prop := fun vq wq => ∃ (axwz : Nat → Nat) (sz9 : zBS), vq = none ∧ wq = [zBoard cI axwz sz9] ∧ (axwz 0 = x ∧ (RBS sz9 ([], [0, 1, 2, 3, 4], 0)))
set_option maxRecDepth 20000 in
theorem mX0_init_0 : (.methodLink RX0 3 objectInit : Cond) ∈ wsX0_init := by decide +kernel
set_option maxRecDepth 20000 in
theorem mX0_init_1 : (.instanceMethod objectInit : Cond) ∈ wsX0_init := by decide +kernel
set_option maxRecDepth 20000 in
theorem mX0_init_2 : (.code objectInit ⟨#[0xb1]⟩ 1 none : Cond) ∈ wsX0_init := by decide +kernel
set_option maxRecDepth 20000 in
theorem mX0_init_3 : (.arrayClass .int : Cond) ∈ wsX0_init := by decide +kernel
set_option maxRecDepth 20000 in
theorem iX0_init_X0 : ∀ w ∈ u_ws RX0 TX0 9, w ∈ wsX0_init := by decide +kernel
set_option maxRecDepth 20000 in
theorem mX0_init_5 : (.fieldLink RX0 9 "StoryPanels$Board" "numbers" "[I" : Cond) ∈ wsX0_init := by decide +kernel
set_option maxRecDepth 20000 in
theorem mX0_init_6 : (.fieldLink RX0 15 "StoryPanels$Board" "scenes" "[I" : Cond) ∈ wsX0_init := by decide +kernel
set_option maxRecDepth 20000 in
theorem mX0_init_7 : (.fieldLink RX0 18 "StoryPanels$Board" "durations" "[I" : Cond) ∈ wsX0_init := by decide +kernel
set_option maxRecDepth 20000 in
theorem mX0_init_8 : (.fieldLink RX0 21 "StoryPanels$Board" "eventCounts" "[I" : Cond) ∈ wsX0_init := by decide +kernel
set_option maxRecDepth 20000 in
theorem mX0_init_9 : (.fieldLink RX0 24 "StoryPanels$Board" "eventCodes" "[I" : Cond) ∈ wsX0_init := by decide +kernel
set_option maxRecDepth 20000 in
theorem mX0_init_10 : (.fieldLink RX0 27 "StoryPanels$Board" "line" "[I" : Cond) ∈ wsX0_init := by decide +kernel
set_option maxRecDepth 20000 in
theorem mX0_init_11 : (.fieldLink RX0 30 "StoryPanels$Board" "scenePlaces" "[I" : Cond) ∈ wsX0_init := by decide +kernel
set_option maxRecDepth 20000 in
theorem mX0_init_12 : (.fieldLink RX0 33 "StoryPanels$Board" "size" "I" : Cond) ∈ wsX0_init := by decide +kernel
set_option maxRecDepth 20000 in
theorem mX0_init_13 : (.fieldLink RX0 37 "StoryPanels$Board" "soFar" "I" : Cond) ∈ wsX0_init := by decide +kernel
set_option maxRecDepth 20000 in
theorem mX0_init_14 : (.initialized RX4 : Cond) ∈ wsX0_init := by decide +kernel
set_option maxRecDepth 20000 in
theorem mX0_init_15 : (.static yX4_fillRow : Cond) ∈ wsX0_init := by decide +kernel
set_option maxRecDepth 20000 in
theorem mX0_init_16 : (.static yX4_setCell : Cond) ∈ wsX0_init := by decide +kernel
set_option maxHeartbeats 4000000 in
set_option maxRecDepth 100000 in
theorem kX0_init (l : Launch) (D : va_G) (cI cB : ClassId) (x : Nat)  : zMet l yX0_init wsX0_init 1 22 7 115 D cI cB [.ref x] [[(x, .inr (0, [.null, .null, .null, .null, .null, .null, .null, .int (zI 0), .int (zI 0)]))]] (qX0_init cI x) := by
  refine zMet.of (cd := cX0_init) (maxL := 2) (ret := none) (by decide) rfl (Nat.le_of_ble_eq_true rfl) ?_
  intro p e s m args below meth c A ls hS hr hlk hnm hK hA hW hl
  have hS : CallFix p m c cX0_init 2 s args wsX0_init RX0 := hS
  have hx := hS.1
  have hb := hS.2.1
  have hown := hS.2.2.2.1
  have hts := hS.2.2.2.2
  have hl : lv_has ls 2 [(0, .ref x)] := hl
  refine lv_aload_n hx hb dX0_init_0 rfl (lv_at hl 0 rfl) ?_
  refine W.objInit hx hb hown (hts _ mX0_init_0) (hts _ mX0_init_1) (hts _ mX0_init_2) rfl (by rw [hS.2.2.1]; exact hl.1) rfl dX0_init_1 (Nat.le_of_ble_eq_true rfl) (Nat.le_of_ble_eq_true rfl) ?_
  refine W.eq (g2 := F0 m 4 ls []) rfl ?_
  refine lv_aload_n hx hb dX0_init_4 rfl (lv_at hl 0 rfl) ?_
  refine lv_bipush (v := zI (10)) hx hb dX0_init_5 (by decide +kernel) ?_
  refine z_newI (rest := [.ref x]) hx hb (hts _ mX0_init_3) hK hA hW 10 rfl (by decide) (Nat.le_of_ble_eq_true rfl) (Nat.le_of_ble_eq_true rfl) dX0_init_7 (fun q_7 H hW => ?_)
  have hW : zW D A s.heap [[(x, .inr (0, [.null, .null, .null, .null, .null, .null, .null, .int (zI 0), .int (zI 0)]))], [zArr cI q_7 10 (fun _ => 0)]] H _ := hW
  refine va_putF (D := D) (ci := 0) (v := .ref q_7) (ty := (.array .int)) (C := RX0) (T := TX0) (N := 9) hx hb hts iX0_init_X0 tyX0 tyX0_ok nmX0 hown hK.1 hW.1 hW.2.1 hW.2.2 0 rfl rfl 0 (by decide) (hts _ mX0_init_5) (fun _ h9 => h9) rfl hnm rfl (by decide +kernel) rfl rfl (Nat.le_of_ble_eq_true rfl) dX0_init_9 (fun H locs h1 h2 h3 => ?_)
  have hW : zW D A s.heap [[(x, .inr (0, [.ref q_7, .null, .null, .null, .null, .null, .null, .int (zI 0), .int (zI 0)]))], [zArr cI q_7 10 (fun _ => 0)]] H locs := ⟨h1, h2, h3⟩
  refine lv_aload_n hx hb dX0_init_12 rfl (lv_at hl 0 rfl) ?_
  refine lv_bipush (v := zI (10)) hx hb dX0_init_13 (by decide +kernel) ?_
  refine z_newI (rest := [.ref x]) hx hb (hts _ mX0_init_3) hK hA hW 10 rfl (by decide) (Nat.le_of_ble_eq_true rfl) (Nat.le_of_ble_eq_true rfl) dX0_init_15 (fun q_15 H hW => ?_)
  have hW : zW D A s.heap [[(x, .inr (0, [.ref q_7, .null, .null, .null, .null, .null, .null, .int (zI 0), .int (zI 0)]))], [zArr cI q_7 10 (fun _ => 0)], [zArr cI q_15 10 (fun _ => 0)]] H _ := hW
  refine va_putF (D := D) (ci := 0) (v := .ref q_15) (ty := (.array .int)) (C := RX0) (T := TX0) (N := 9) hx hb hts iX0_init_X0 tyX0 tyX0_ok nmX0 hown hK.1 hW.1 hW.2.1 hW.2.2 0 rfl rfl 1 (by decide) (hts _ mX0_init_6) (fun _ h9 => h9) rfl hnm rfl (by decide +kernel) rfl rfl (Nat.le_of_ble_eq_true rfl) dX0_init_17 (fun H locs h1 h2 h3 => ?_)
  have hW : zW D A s.heap [[(x, .inr (0, [.ref q_7, .ref q_15, .null, .null, .null, .null, .null, .int (zI 0), .int (zI 0)]))], [zArr cI q_7 10 (fun _ => 0)], [zArr cI q_15 10 (fun _ => 0)]] H locs := ⟨h1, h2, h3⟩
  refine lv_aload_n hx hb dX0_init_20 rfl (lv_at hl 0 rfl) ?_
  refine lv_bipush (v := zI (10)) hx hb dX0_init_21 (by decide +kernel) ?_
  refine z_newI (rest := [.ref x]) hx hb (hts _ mX0_init_3) hK hA hW 10 rfl (by decide) (Nat.le_of_ble_eq_true rfl) (Nat.le_of_ble_eq_true rfl) dX0_init_23 (fun q_23 H hW => ?_)
  have hW : zW D A s.heap [[(x, .inr (0, [.ref q_7, .ref q_15, .null, .null, .null, .null, .null, .int (zI 0), .int (zI 0)]))], [zArr cI q_7 10 (fun _ => 0)], [zArr cI q_15 10 (fun _ => 0)], [zArr cI q_23 10 (fun _ => 0)]] H _ := hW
  refine va_putF (D := D) (ci := 0) (v := .ref q_23) (ty := (.array .int)) (C := RX0) (T := TX0) (N := 9) hx hb hts iX0_init_X0 tyX0 tyX0_ok nmX0 hown hK.1 hW.1 hW.2.1 hW.2.2 0 rfl rfl 2 (by decide) (hts _ mX0_init_7) (fun _ h9 => h9) rfl hnm rfl (by decide +kernel) rfl rfl (Nat.le_of_ble_eq_true rfl) dX0_init_25 (fun H locs h1 h2 h3 => ?_)
  have hW : zW D A s.heap [[(x, .inr (0, [.ref q_7, .ref q_15, .ref q_23, .null, .null, .null, .null, .int (zI 0), .int (zI 0)]))], [zArr cI q_7 10 (fun _ => 0)], [zArr cI q_15 10 (fun _ => 0)], [zArr cI q_23 10 (fun _ => 0)]] H locs := ⟨h1, h2, h3⟩
  refine lv_aload_n hx hb dX0_init_28 rfl (lv_at hl 0 rfl) ?_
  refine lv_bipush (v := zI (10)) hx hb dX0_init_29 (by decide +kernel) ?_
  refine z_newI (rest := [.ref x]) hx hb (hts _ mX0_init_3) hK hA hW 10 rfl (by decide) (Nat.le_of_ble_eq_true rfl) (Nat.le_of_ble_eq_true rfl) dX0_init_31 (fun q_31 H hW => ?_)
  have hW : zW D A s.heap [[(x, .inr (0, [.ref q_7, .ref q_15, .ref q_23, .null, .null, .null, .null, .int (zI 0), .int (zI 0)]))], [zArr cI q_7 10 (fun _ => 0)], [zArr cI q_15 10 (fun _ => 0)], [zArr cI q_23 10 (fun _ => 0)], [zArr cI q_31 10 (fun _ => 0)]] H _ := hW
  refine va_putF (D := D) (ci := 0) (v := .ref q_31) (ty := (.array .int)) (C := RX0) (T := TX0) (N := 9) hx hb hts iX0_init_X0 tyX0 tyX0_ok nmX0 hown hK.1 hW.1 hW.2.1 hW.2.2 0 rfl rfl 3 (by decide) (hts _ mX0_init_8) (fun _ h9 => h9) rfl hnm rfl (by decide +kernel) rfl rfl (Nat.le_of_ble_eq_true rfl) dX0_init_33 (fun H locs h1 h2 h3 => ?_)
  have hW : zW D A s.heap [[(x, .inr (0, [.ref q_7, .ref q_15, .ref q_23, .ref q_31, .null, .null, .null, .int (zI 0), .int (zI 0)]))], [zArr cI q_7 10 (fun _ => 0)], [zArr cI q_15 10 (fun _ => 0)], [zArr cI q_23 10 (fun _ => 0)], [zArr cI q_31 10 (fun _ => 0)]] H locs := ⟨h1, h2, h3⟩
  refine lv_aload_n hx hb dX0_init_36 rfl (lv_at hl 0 rfl) ?_
  refine lv_bipush (v := zI (60)) hx hb dX0_init_37 (by decide +kernel) ?_
  refine z_newI (rest := [.ref x]) hx hb (hts _ mX0_init_3) hK hA hW 60 rfl (by decide) (Nat.le_of_ble_eq_true rfl) (Nat.le_of_ble_eq_true rfl) dX0_init_39 (fun q_39 H hW => ?_)
  have hW : zW D A s.heap [[(x, .inr (0, [.ref q_7, .ref q_15, .ref q_23, .ref q_31, .null, .null, .null, .int (zI 0), .int (zI 0)]))], [zArr cI q_7 10 (fun _ => 0)], [zArr cI q_15 10 (fun _ => 0)], [zArr cI q_23 10 (fun _ => 0)], [zArr cI q_31 10 (fun _ => 0)], [zArr cI q_39 60 (fun _ => 0)]] H _ := hW
  refine va_putF (D := D) (ci := 0) (v := .ref q_39) (ty := (.array .int)) (C := RX0) (T := TX0) (N := 9) hx hb hts iX0_init_X0 tyX0 tyX0_ok nmX0 hown hK.1 hW.1 hW.2.1 hW.2.2 0 rfl rfl 4 (by decide) (hts _ mX0_init_9) (fun _ h9 => h9) rfl hnm rfl (by decide +kernel) rfl rfl (Nat.le_of_ble_eq_true rfl) dX0_init_41 (fun H locs h1 h2 h3 => ?_)
  have hW : zW D A s.heap [[(x, .inr (0, [.ref q_7, .ref q_15, .ref q_23, .ref q_31, .ref q_39, .null, .null, .int (zI 0), .int (zI 0)]))], [zArr cI q_7 10 (fun _ => 0)], [zArr cI q_15 10 (fun _ => 0)], [zArr cI q_23 10 (fun _ => 0)], [zArr cI q_31 10 (fun _ => 0)], [zArr cI q_39 60 (fun _ => 0)]] H locs := ⟨h1, h2, h3⟩
  refine lv_aload_n hx hb dX0_init_44 rfl (lv_at hl 0 rfl) ?_
  refine lv_bipush (v := zI (10)) hx hb dX0_init_45 (by decide +kernel) ?_
  refine z_newI (rest := [.ref x]) hx hb (hts _ mX0_init_3) hK hA hW 10 rfl (by decide) (Nat.le_of_ble_eq_true rfl) (Nat.le_of_ble_eq_true rfl) dX0_init_47 (fun q_47 H hW => ?_)
  have hW : zW D A s.heap [[(x, .inr (0, [.ref q_7, .ref q_15, .ref q_23, .ref q_31, .ref q_39, .null, .null, .int (zI 0), .int (zI 0)]))], [zArr cI q_7 10 (fun _ => 0)], [zArr cI q_15 10 (fun _ => 0)], [zArr cI q_23 10 (fun _ => 0)], [zArr cI q_31 10 (fun _ => 0)], [zArr cI q_39 60 (fun _ => 0)], [zArr cI q_47 10 (fun _ => 0)]] H _ := hW
  refine va_putF (D := D) (ci := 0) (v := .ref q_47) (ty := (.array .int)) (C := RX0) (T := TX0) (N := 9) hx hb hts iX0_init_X0 tyX0 tyX0_ok nmX0 hown hK.1 hW.1 hW.2.1 hW.2.2 0 rfl rfl 5 (by decide) (hts _ mX0_init_10) (fun _ h9 => h9) rfl hnm rfl (by decide +kernel) rfl rfl (Nat.le_of_ble_eq_true rfl) dX0_init_49 (fun H locs h1 h2 h3 => ?_)
  have hW : zW D A s.heap [[(x, .inr (0, [.ref q_7, .ref q_15, .ref q_23, .ref q_31, .ref q_39, .ref q_47, .null, .int (zI 0), .int (zI 0)]))], [zArr cI q_7 10 (fun _ => 0)], [zArr cI q_15 10 (fun _ => 0)], [zArr cI q_23 10 (fun _ => 0)], [zArr cI q_31 10 (fun _ => 0)], [zArr cI q_39 60 (fun _ => 0)], [zArr cI q_47 10 (fun _ => 0)]] H locs := ⟨h1, h2, h3⟩
  refine lv_aload_n hx hb dX0_init_52 rfl (lv_at hl 0 rfl) ?_
  refine lv_iconst (v := zI (5)) hx hb dX0_init_53 rfl ?_
  refine z_newI (rest := [.ref x]) hx hb (hts _ mX0_init_3) hK hA hW 5 rfl (by decide) (Nat.le_of_ble_eq_true rfl) (Nat.le_of_ble_eq_true rfl) dX0_init_54 (fun q_54 H hW => ?_)
  have hW : zW D A s.heap [[(x, .inr (0, [.ref q_7, .ref q_15, .ref q_23, .ref q_31, .ref q_39, .ref q_47, .null, .int (zI 0), .int (zI 0)]))], [zArr cI q_7 10 (fun _ => 0)], [zArr cI q_15 10 (fun _ => 0)], [zArr cI q_23 10 (fun _ => 0)], [zArr cI q_31 10 (fun _ => 0)], [zArr cI q_39 60 (fun _ => 0)], [zArr cI q_47 10 (fun _ => 0)], [zArr cI q_54 5 (fun _ => 0)]] H _ := hW
  refine va_putF (D := D) (ci := 0) (v := .ref q_54) (ty := (.array .int)) (C := RX0) (T := TX0) (N := 9) hx hb hts iX0_init_X0 tyX0 tyX0_ok nmX0 hown hK.1 hW.1 hW.2.1 hW.2.2 0 rfl rfl 6 (by decide) (hts _ mX0_init_11) (fun _ h9 => h9) rfl hnm rfl (by decide +kernel) rfl rfl (Nat.le_of_ble_eq_true rfl) dX0_init_56 (fun H locs h1 h2 h3 => ?_)
  have hW : zW D A s.heap [[(x, .inr (0, [.ref q_7, .ref q_15, .ref q_23, .ref q_31, .ref q_39, .ref q_47, .ref q_54, .int (zI 0), .int (zI 0)]))], [zArr cI q_7 10 (fun _ => 0)], [zArr cI q_15 10 (fun _ => 0)], [zArr cI q_23 10 (fun _ => 0)], [zArr cI q_31 10 (fun _ => 0)], [zArr cI q_39 60 (fun _ => 0)], [zArr cI q_47 10 (fun _ => 0)], [zArr cI q_54 5 (fun _ => 0)]] H locs := ⟨h1, h2, h3⟩
  refine lv_aload_n hx hb dX0_init_59 rfl (lv_at hl 0 rfl) ?_
  refine lv_iconst (v := zI (0)) hx hb dX0_init_60 rfl ?_
  refine va_put (D := D) (ci := 0) (v := .int (zI 0)) (ty := .int) (C := RX0) (T := TX0) (N := 9) hx hb hts iX0_init_X0 tyX0 tyX0_ok nmX0 hown hK.1 hW.1 hW.2.1 hW.2.2 0 rfl rfl 7 (by decide) (hts _ mX0_init_12) (fun _ h9 => h9) rfl (by decide +kernel) rfl rfl (Nat.le_of_ble_eq_true rfl) dX0_init_61 (fun H locs h1 h2 h3 => ?_)
  have hW : zW D A s.heap [[(x, .inr (0, [.ref q_7, .ref q_15, .ref q_23, .ref q_31, .ref q_39, .ref q_47, .ref q_54, .int (zI 0), .int (zI 0)]))], [zArr cI q_7 10 (fun _ => 0)], [zArr cI q_15 10 (fun _ => 0)], [zArr cI q_23 10 (fun _ => 0)], [zArr cI q_31 10 (fun _ => 0)], [zArr cI q_39 60 (fun _ => 0)], [zArr cI q_47 10 (fun _ => 0)], [zArr cI q_54 5 (fun _ => 0)]] H locs := ⟨h1, h2, h3⟩
  refine lv_aload_n hx hb dX0_init_64 rfl (lv_at hl 0 rfl) ?_
  refine lv_iconst (v := zI (0)) hx hb dX0_init_65 rfl ?_
  refine va_put (D := D) (ci := 0) (v := .int (zI 0)) (ty := .int) (C := RX0) (T := TX0) (N := 9) hx hb hts iX0_init_X0 tyX0 tyX0_ok nmX0 hown hK.1 hW.1 hW.2.1 hW.2.2 0 rfl rfl 8 (by decide) (hts _ mX0_init_13) (fun _ h9 => h9) rfl (by decide +kernel) rfl rfl (Nat.le_of_ble_eq_true rfl) dX0_init_66 (fun H locs h1 h2 h3 => ?_)
  have hW : zW D A s.heap [[(x, .inr (0, [.ref q_7, .ref q_15, .ref q_23, .ref q_31, .ref q_39, .ref q_47, .ref q_54, .int (zI 0), .int (zI 0)]))], [zArr cI q_7 10 (fun _ => 0)], [zArr cI q_15 10 (fun _ => 0)], [zArr cI q_23 10 (fun _ => 0)], [zArr cI q_31 10 (fun _ => 0)], [zArr cI q_39 60 (fun _ => 0)], [zArr cI q_47 10 (fun _ => 0)], [zArr cI q_54 5 (fun _ => 0)]] H locs := ⟨h1, h2, h3⟩
  refine lv_aload_n hx hb dX0_init_69 rfl (lv_at hl 0 rfl) ?_
  refine va_get (D := D) (ci := 0) (v := .ref q_7) (C := RX0) (T := TX0) (N := 9) hx hb hts iX0_init_X0 hown hK.1 hW.1 0 rfl rfl 0 (by decide) (hts _ mX0_init_5) (fun _ h9 => h9) rfl dX0_init_70 ?_
  refine lv_iconst (v := zI (-1)) hx hb dX0_init_73 rfl ?_
  refine z_fillRow (n := 10) (g := fun _ => 0) (v := (-1)) (rest := []) (bs1 := [[(x, .inr (0, [.ref q_7, .ref q_15, .ref q_23, .ref q_31, .ref q_39, .ref q_47, .ref q_54, .int (zI 0), .int (zI 0)]))], [zArr cI q_7 10 (cpF (fun _ => (-1)) (fun _ => 0) 10)], [zArr cI q_15 10 (fun _ => 0)], [zArr cI q_23 10 (fun _ => 0)], [zArr cI q_31 10 (fun _ => 0)], [zArr cI q_39 60 (fun _ => 0)], [zArr cI q_47 10 (fun _ => 0)], [zArr cI q_54 5 (fun _ => 0)]]) hS hK hA hW hl.1 1 rfl (gX0_init_X4_fillRow_n40) nm_9 (mX0_init_14) (mX0_init_15) ⟨Nat.le_of_ble_eq_true rfl, Nat.le_of_ble_eq_true rfl⟩ dX0_init_74 (by omega) rfl (Nat.le_of_ble_eq_true rfl) ⟨Nat.le_of_ble_eq_true rfl, Nat.le_of_ble_eq_true rfl⟩ (fun H locs hW => ?_)
  obtain ⟨axw, ha_axw, hW9⟩ : ∃ axw : Nat → Nat, axw 0 = x ∧ zW D A s.heap [zBoard cI axw ((cpF (fun _ => (-1)) (fun _ => 0) 10), (fun _ => 0), (fun _ => 0), (fun _ => 0), (fun _ => 0), (fun _ => 0), (fun _ => 0), 0, 0)] H locs := ⟨adr [x, q_7, q_15, q_23, q_31, q_39, q_47, q_54], rfl, zW.flat hW rfl⟩
  subst ha_axw
  have hW := hW9
  refine lv_iconst (v := zI (0)) hx hb dX0_init_77 rfl ?_
  refine lv_istore_n (lv' := [(1, .int (zI 0)), (0, .ref (axw 0))]) hx hb dX0_init_78 rfl hl (by decide) rfl (fun ls hl => ?_)
  have L79 : ∀ (fu : Nat) (ki : Int) (hc : Int → Int), (0 ≤ ki ∧ ki ≤ 5) → (hc = idF ki) → (5 - ki) < (fu : Int) → ∀ (H : Heap) (locs : List Loc), zW D A s.heap [zBoard cI axw (bd_plc_ ((cpF (fun _ => (-1)) (fun _ => 0) 10), (fun _ => 0), (fun _ => 0), (fun _ => 0), (fun _ => 0), (fun _ => 0), (fun _ => 0), 0, 0) (hc))] H locs → ∀ (ls : Array Slot), lv_has ls 2 [(0, .ref (axw 0)), (1, .int (zI ki))] → W p l e { frames := 1, cells := 7, slots := 115, locals := 22 } s m args below meth c H locs 7 115 (MQ below (zQ A D (qX0_init cI ((axw 0)))) args s 7 115 A) (F0 m 79 ls []) := by
    intro fu
    induction fu with
    | zero => intro ki hc hki hhc hm; exact absurd hm (by omega)
    | succ fu ih79 =>
      intro ki hc hki hhc hm H locs hW ls hl
      refine lv_iload_n hx hb dX0_init_79 rfl (lv_at hl 1 rfl) ?_
      refine lv_iconst (v := zI (5)) hx hb dX0_init_80 rfl ?_
      refine z_icmp_ge (tgt := 99) hx hb dX0_init_81 (by decide) (by omega) (fun cc_81 => ?_) (fun cc_81 => ?_)
      · exact z_vret hx hb hr hlk hW dX0_init_99 (by
            exact ⟨axw, (bd_plc_ ((cpF (fun _ => (-1)) (fun _ => 0) 10), (fun _ => 0), (fun _ => 0), (fun _ => 0), (fun _ => 0), (fun _ => 0), (fun _ => 0), 0, 0) (hc)), rfl, rfl, by exact ⟨rfl, by rw [hhc, show ki = 5 by omega]; exact RB_0⟩⟩)
      · refine lv_aload_n hx hb dX0_init_84 rfl (lv_at hl 0 rfl) ?_
        refine va_get (D := D) (ci := 0) (v := .ref (axw 7)) (C := RX0) (T := TX0) (N := 9) hx hb hts iX0_init_X0 hown hK.1 hW.1 0 rfl rfl 6 (by decide) (hts _ mX0_init_11) (fun _ h9 => h9) rfl dX0_init_85 ?_
        refine lv_iload_n hx hb dX0_init_88 rfl (lv_at hl 1 rfl) ?_
        refine lv_iload_n hx hb dX0_init_89 rfl (lv_at hl 1 rfl) ?_
        refine z_setCell (n := 5) (g := hc) (i := ki) (v := ki) (rest := []) (bs1 := [zBoard cI axw (bd_plc_ ((cpF (fun _ => (-1)) (fun _ => 0) 10), (fun _ => 0), (fun _ => 0), (fun _ => 0), (fun _ => 0), (fun _ => 0), (fun _ => 0), 0, 0) (zU hc ki ki))]) hS hK hA hW hl.1 7 rfl (gX0_init_X4_setCell_n44) nm_10 (mX0_init_14) (mX0_init_16) ⟨Nat.le_of_ble_eq_true rfl, Nat.le_of_ble_eq_true rfl⟩ dX0_init_90 (by omega) rfl (Nat.le_of_ble_eq_true rfl) ⟨Nat.le_of_ble_eq_true rfl, Nat.le_of_ble_eq_true rfl⟩ (fun H locs hW => ?_)
        refine z_iinc (x := ki) (lv' := [(1, .int (zI (ki + 1))), (0, .ref (axw 0))]) hx hb dX0_init_93 hl (k := 1) rfl (by decide) rfl (fun ls hl => ?_)
        refine lv_goto (tgt := 79) hx hb dX0_init_96 (by decide) ?_
        exact ih79 (ki + 1) (zU hc ki ki) (by omega) (by rw [hhc]; exact idF_s hki.1) (by omega) _ _ hW ls (lv_sub hl [1, 0] rfl)
  exact L79 (((5 - 0) : Int).toNat + 1) 0 (bd_plc ((cpF (fun _ => (-1)) (fun _ => 0) 10), (fun _ => 0), (fun _ => 0), (fun _ => 0), (fun _ => 0), (fun _ => 0), (fun _ => 0), 0, 0)) (by omega) (by exact idF_0.symm) (by omega) _ _ hW ls (lv_sub hl [1, 0] rfl)
