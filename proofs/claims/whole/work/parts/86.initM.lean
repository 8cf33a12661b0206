def ordF (n : Int) : Int → Int := fun j => if 2 ≤ j ∧ j < 2 + n then j - 2 else 0
theorem ordF_0 : ordF 0 = fun _ => 0 := by
  funext j; unfold ordF; rw [if_neg (by omega)]
theorem ordF_s {n : Int} (h : 0 ≤ n) : zU (ordF n) (2 + n) n = ordF (n + 1) := by
  funext j
  unfold zU ordF
  by_cases c : j = 2 + n
  · rw [if_pos c, if_pos (by omega), c]; omega
  · rw [if_neg c]
    by_cases c2 : 2 ≤ j ∧ j < 2 + n
    · rw [if_pos c2, if_pos (by omega)]
    · rw [if_neg c2, if_neg (by omega)]
theorem MR_0 {ki : Int} (hk : ki = 5) : MR (ordF ki) ([], [0, 1, 2, 3, 4], 0) := by
  subst hk
  refine ⟨[], ⟨rfl, rfl, Nat.zero_le _, ⟨by show (0 : Int) ≤ 0; omega, by show (0 : Int) ≤ 99; omega⟩, fun j v hv => ?_, fun k q hq => by simp at hq, fun q hq => by simp at hq, List.Pairwise.nil, List.Perm.refl _⟩, (ordC_nil _).symm⟩
  have hv : ([0, 1, 2, 3, 4] : List Int)[j]? = some v := hv
  have hj := (List.getElem?_eq_some_iff.mp hv).1
  simp only [List.length_cons, List.length_nil] at hj
  unfold ordF
  rw [if_pos (by omega)]
  rcases (show j = 0 ∨ j = 1 ∨ j = 2 ∨ j = 3 ∨ j = 4 by omega) with rfl | rfl | rfl | rfl | rfl <;> (have hv := Option.some.inj hv; omega)
theorem TXM_0 : TXM (fun _ => 0) 0 := ⟨by omega, fun k _ _ => ⟨by show (0 : Int) ≤ 0; omega, by show (0 : Int) < 65536; omega⟩⟩
abbrev qX5_init (cI : ClassId) (x : Nat) : Option Value → List va_W → Prop := fun vq wq => ∃ (amz : Nat → Nat) (sz9 : zM2), vq = none ∧ wq = [zMod2 cI amz sz9] ∧ (amz 0 = x ∧ (MR (mm_all sz9) ([], [0, 1, 2, 3, 4], 0) ∧ MH (mm_hl sz9) (mm_his sz9) [] ∧ mm_tak sz9 = 0 ∧ TXM (mm_txt sz9) (mm_tl sz9) ∧ mm_tl sz9 = 0))
set_option maxRecDepth 20000 in
theorem mX5_init_0 : (.methodLink RX5 1 objectInit : Cond) ∈ wsX5_init := by decide +kernel
set_option maxRecDepth 20000 in
theorem mX5_init_1 : (.instanceMethod objectInit : Cond) ∈ wsX5_init := by decide +kernel
set_option maxRecDepth 20000 in
theorem mX5_init_2 : (.code objectInit ⟨#[0xb1]⟩ 1 none : Cond) ∈ wsX5_init := by decide +kernel
set_option maxRecDepth 20000 in
theorem mX5_init_3 : (.arrayClass .int : Cond) ∈ wsX5_init := by decide +kernel
set_option maxRecDepth 20000 in
theorem iX5_init_X5 : ∀ w ∈ u_ws RX5 TX5 18, w ∈ wsX5_init := by decide +kernel
set_option maxRecDepth 20000 in
theorem mX5_init_5 : (.fieldLink RX5 7 "StoryPanelsModel" "all" "[I" : Cond) ∈ wsX5_init := by decide +kernel
set_option maxRecDepth 20000 in
theorem mX5_init_6 : (.fieldLink RX5 13 "StoryPanelsModel" "kept" "[I" : Cond) ∈ wsX5_init := by decide +kernel
set_option maxRecDepth 20000 in
theorem mX5_init_7 : (.fieldLink RX5 16 "StoryPanelsModel" "tried" "[I" : Cond) ∈ wsX5_init := by decide +kernel
set_option maxRecDepth 20000 in
theorem mX5_init_8 : (.fieldLink RX5 19 "StoryPanelsModel" "history" "[I" : Cond) ∈ wsX5_init := by decide +kernel
set_option maxRecDepth 20000 in
theorem mX5_init_9 : (.fieldLink RX5 22 "StoryPanelsModel" "snapshot" "[I" : Cond) ∈ wsX5_init := by decide +kernel
set_option maxRecDepth 20000 in
theorem mX5_init_10 : (.fieldLink RX5 25 "StoryPanelsModel" "out" "[I" : Cond) ∈ wsX5_init := by decide +kernel
set_option maxRecDepth 20000 in
theorem mX5_init_11 : (.fieldLink RX5 28 "StoryPanelsModel" "row" "[I" : Cond) ∈ wsX5_init := by decide +kernel
set_option maxRecDepth 20000 in
theorem mX5_init_12 : (.fieldLink RX5 31 "StoryPanelsModel" "broken" "[I" : Cond) ∈ wsX5_init := by decide +kernel
set_option maxRecDepth 20000 in
theorem mX5_init_13 : (.fieldLink RX5 34 "StoryPanelsModel" "holders" "[I" : Cond) ∈ wsX5_init := by decide +kernel
set_option maxRecDepth 20000 in
theorem mX5_init_14 : (.fieldLink RX5 37 "StoryPanelsModel" "moved" "[I" : Cond) ∈ wsX5_init := by decide +kernel
set_option maxRecDepth 20000 in
theorem mX5_init_15 : (.fieldLink RX5 40 "StoryPanelsModel" "holdersBehind" "[I" : Cond) ∈ wsX5_init := by decide +kernel
set_option maxRecDepth 20000 in
theorem mX5_init_16 : (.fieldLink RX5 43 "StoryPanelsModel" "text" "[I" : Cond) ∈ wsX5_init := by decide +kernel
set_option maxRecDepth 20000 in
theorem mX5_init_17 : (.fieldLink RX5 46 "StoryPanelsModel" "read" "[I" : Cond) ∈ wsX5_init := by decide +kernel
set_option maxHeartbeats 4000000 in
set_option maxRecDepth 100000 in
theorem kX5_init (l : Launch) (D : va_G) (cI cB : ClassId) (x : Nat)  : zMet l yX5_init wsX5_init 1 20 13 2894 D cI cB [.ref x] [[(x, .inr (5, [.null, .null, .null, .null, .int (zI 0), .null, .int (zI 0), .null, .null, .null, .int (zI 0), .null, .null, .null, .null, .int (zI 0), .int (zI 0), .null]))]] (qX5_init cI x) := by
  refine zMet.of (cd := cX5_init) (maxL := 2) (ret := none) (by decide) rfl (Nat.le_of_ble_eq_true rfl) ?_
  intro p e s m args below meth c A ls hS hr hlk hnm hK hA hW hl
  have hS : CallFix p m c cX5_init 2 s args wsX5_init RX5 := hS
  have hx := hS.1
  have hb := hS.2.1
  have hown := hS.2.2.2.1
  have hts := hS.2.2.2.2
  have hl : lv_has ls 2 [(0, .ref x)] := hl
  refine lv_aload_n hx hb dX5_init_0 rfl (lv_at hl 0 rfl) ?_
  refine W.objInit hx hb hown (hts _ mX5_init_0) (hts _ mX5_init_1) (hts _ mX5_init_2) rfl (by rw [hS.2.2.1]; exact hl.1) rfl dX5_init_1 (Nat.le_of_ble_eq_true rfl) (Nat.le_of_ble_eq_true rfl) ?_
  refine W.eq (g2 := F0 m 4 ls []) rfl ?_
  refine lv_aload_n hx hb dX5_init_4 rfl (lv_at hl 0 rfl) ?_
  refine lv_sipush (v := zI (227)) hx hb dX5_init_5 (by decide +kernel) ?_
  refine z_newI (rest := [.ref x]) hx hb (hts _ mX5_init_3) hK hA hW 227 rfl (by decide) (Nat.le_of_ble_eq_true rfl) (Nat.le_of_ble_eq_true rfl) dX5_init_8 (fun q_8 H hW => ?_)
  have hW : zW D A s.heap [[(x, .inr (5, [.null, .null, .null, .null, .int (zI 0), .null, .int (zI 0), .null, .null, .null, .int (zI 0), .null, .null, .null, .null, .int (zI 0), .int (zI 0), .null]))], [zArr cI q_8 227 (fun _ => 0)]] H _ := hW
  refine va_putF (D := D) (ci := 5) (v := .ref q_8) (ty := (.array .int)) (C := RX5) (T := TX5) (N := 18) hx hb hts iX5_init_X5 tyX5 tyX5_ok nmX5 hown hK.1 hW.1 hW.2.1 hW.2.2 0 rfl rfl 0 (by decide) (hts _ mX5_init_5) (fun _ h9 => h9) rfl hnm rfl (by decide +kernel) rfl rfl (Nat.le_of_ble_eq_true rfl) dX5_init_10 (fun H locs h1 h2 h3 => ?_)
  have hW : zW D A s.heap [[(x, .inr (5, [.ref q_8, .null, .null, .null, .int (zI 0), .null, .int (zI 0), .null, .null, .null, .int (zI 0), .null, .null, .null, .null, .int (zI 0), .int (zI 0), .null]))], [zArr cI q_8 227 (fun _ => 0)]] H locs := ⟨h1, h2, h3⟩
  refine lv_aload_n hx hb dX5_init_13 rfl (lv_at hl 0 rfl) ?_
  refine lv_sipush (v := zI (227)) hx hb dX5_init_14 (by decide +kernel) ?_
  refine z_newI (rest := [.ref x]) hx hb (hts _ mX5_init_3) hK hA hW 227 rfl (by decide) (Nat.le_of_ble_eq_true rfl) (Nat.le_of_ble_eq_true rfl) dX5_init_17 (fun q_17 H hW => ?_)
  have hW : zW D A s.heap [[(x, .inr (5, [.ref q_8, .null, .null, .null, .int (zI 0), .null, .int (zI 0), .null, .null, .null, .int (zI 0), .null, .null, .null, .null, .int (zI 0), .int (zI 0), .null]))], [zArr cI q_8 227 (fun _ => 0)], [zArr cI q_17 227 (fun _ => 0)]] H _ := hW
  refine va_putF (D := D) (ci := 5) (v := .ref q_17) (ty := (.array .int)) (C := RX5) (T := TX5) (N := 18) hx hb hts iX5_init_X5 tyX5 tyX5_ok nmX5 hown hK.1 hW.1 hW.2.1 hW.2.2 0 rfl rfl 1 (by decide) (hts _ mX5_init_6) (fun _ h9 => h9) rfl hnm rfl (by decide +kernel) rfl rfl (Nat.le_of_ble_eq_true rfl) dX5_init_19 (fun H locs h1 h2 h3 => ?_)
  have hW : zW D A s.heap [[(x, .inr (5, [.ref q_8, .ref q_17, .null, .null, .int (zI 0), .null, .int (zI 0), .null, .null, .null, .int (zI 0), .null, .null, .null, .null, .int (zI 0), .int (zI 0), .null]))], [zArr cI q_8 227 (fun _ => 0)], [zArr cI q_17 227 (fun _ => 0)]] H locs := ⟨h1, h2, h3⟩
  refine lv_aload_n hx hb dX5_init_22 rfl (lv_at hl 0 rfl) ?_
  refine lv_sipush (v := zI (227)) hx hb dX5_init_23 (by decide +kernel) ?_
  refine z_newI (rest := [.ref x]) hx hb (hts _ mX5_init_3) hK hA hW 227 rfl (by decide) (Nat.le_of_ble_eq_true rfl) (Nat.le_of_ble_eq_true rfl) dX5_init_26 (fun q_26 H hW => ?_)
  have hW : zW D A s.heap [[(x, .inr (5, [.ref q_8, .ref q_17, .null, .null, .int (zI 0), .null, .int (zI 0), .null, .null, .null, .int (zI 0), .null, .null, .null, .null, .int (zI 0), .int (zI 0), .null]))], [zArr cI q_8 227 (fun _ => 0)], [zArr cI q_17 227 (fun _ => 0)], [zArr cI q_26 227 (fun _ => 0)]] H _ := hW
  refine va_putF (D := D) (ci := 5) (v := .ref q_26) (ty := (.array .int)) (C := RX5) (T := TX5) (N := 18) hx hb hts iX5_init_X5 tyX5 tyX5_ok nmX5 hown hK.1 hW.1 hW.2.1 hW.2.2 0 rfl rfl 2 (by decide) (hts _ mX5_init_7) (fun _ h9 => h9) rfl hnm rfl (by decide +kernel) rfl rfl (Nat.le_of_ble_eq_true rfl) dX5_init_28 (fun H locs h1 h2 h3 => ?_)
  have hW : zW D A s.heap [[(x, .inr (5, [.ref q_8, .ref q_17, .ref q_26, .null, .int (zI 0), .null, .int (zI 0), .null, .null, .null, .int (zI 0), .null, .null, .null, .null, .int (zI 0), .int (zI 0), .null]))], [zArr cI q_8 227 (fun _ => 0)], [zArr cI q_17 227 (fun _ => 0)], [zArr cI q_26 227 (fun _ => 0)]] H locs := ⟨h1, h2, h3⟩
  refine lv_aload_n hx hb dX5_init_31 rfl (lv_at hl 0 rfl) ?_
  refine lv_sipush (v := zI (908)) hx hb dX5_init_32 (by decide +kernel) ?_
  refine z_newI (rest := [.ref x]) hx hb (hts _ mX5_init_3) hK hA hW 908 rfl (by decide) (Nat.le_of_ble_eq_true rfl) (Nat.le_of_ble_eq_true rfl) dX5_init_35 (fun q_35 H hW => ?_)
  have hW : zW D A s.heap [[(x, .inr (5, [.ref q_8, .ref q_17, .ref q_26, .null, .int (zI 0), .null, .int (zI 0), .null, .null, .null, .int (zI 0), .null, .null, .null, .null, .int (zI 0), .int (zI 0), .null]))], [zArr cI q_8 227 (fun _ => 0)], [zArr cI q_17 227 (fun _ => 0)], [zArr cI q_26 227 (fun _ => 0)], [zArr cI q_35 908 (fun _ => 0)]] H _ := hW
  refine va_putF (D := D) (ci := 5) (v := .ref q_35) (ty := (.array .int)) (C := RX5) (T := TX5) (N := 18) hx hb hts iX5_init_X5 tyX5 tyX5_ok nmX5 hown hK.1 hW.1 hW.2.1 hW.2.2 0 rfl rfl 3 (by decide) (hts _ mX5_init_8) (fun _ h9 => h9) rfl hnm rfl (by decide +kernel) rfl rfl (Nat.le_of_ble_eq_true rfl) dX5_init_37 (fun H locs h1 h2 h3 => ?_)
  have hW : zW D A s.heap [[(x, .inr (5, [.ref q_8, .ref q_17, .ref q_26, .ref q_35, .int (zI 0), .null, .int (zI 0), .null, .null, .null, .int (zI 0), .null, .null, .null, .null, .int (zI 0), .int (zI 0), .null]))], [zArr cI q_8 227 (fun _ => 0)], [zArr cI q_17 227 (fun _ => 0)], [zArr cI q_26 227 (fun _ => 0)], [zArr cI q_35 908 (fun _ => 0)]] H locs := ⟨h1, h2, h3⟩
  refine lv_aload_n hx hb dX5_init_40 rfl (lv_at hl 0 rfl) ?_
  refine lv_sipush (v := zI (227)) hx hb dX5_init_41 (by decide +kernel) ?_
  refine z_newI (rest := [.ref x]) hx hb (hts _ mX5_init_3) hK hA hW 227 rfl (by decide) (Nat.le_of_ble_eq_true rfl) (Nat.le_of_ble_eq_true rfl) dX5_init_44 (fun q_44 H hW => ?_)
  have hW : zW D A s.heap [[(x, .inr (5, [.ref q_8, .ref q_17, .ref q_26, .ref q_35, .int (zI 0), .null, .int (zI 0), .null, .null, .null, .int (zI 0), .null, .null, .null, .null, .int (zI 0), .int (zI 0), .null]))], [zArr cI q_8 227 (fun _ => 0)], [zArr cI q_17 227 (fun _ => 0)], [zArr cI q_26 227 (fun _ => 0)], [zArr cI q_35 908 (fun _ => 0)], [zArr cI q_44 227 (fun _ => 0)]] H _ := hW
  refine va_putF (D := D) (ci := 5) (v := .ref q_44) (ty := (.array .int)) (C := RX5) (T := TX5) (N := 18) hx hb hts iX5_init_X5 tyX5 tyX5_ok nmX5 hown hK.1 hW.1 hW.2.1 hW.2.2 0 rfl rfl 5 (by decide) (hts _ mX5_init_9) (fun _ h9 => h9) rfl hnm rfl (by decide +kernel) rfl rfl (Nat.le_of_ble_eq_true rfl) dX5_init_46 (fun H locs h1 h2 h3 => ?_)
  have hW : zW D A s.heap [[(x, .inr (5, [.ref q_8, .ref q_17, .ref q_26, .ref q_35, .int (zI 0), .ref q_44, .int (zI 0), .null, .null, .null, .int (zI 0), .null, .null, .null, .null, .int (zI 0), .int (zI 0), .null]))], [zArr cI q_8 227 (fun _ => 0)], [zArr cI q_17 227 (fun _ => 0)], [zArr cI q_26 227 (fun _ => 0)], [zArr cI q_35 908 (fun _ => 0)], [zArr cI q_44 227 (fun _ => 0)]] H locs := ⟨h1, h2, h3⟩
  refine lv_aload_n hx hb dX5_init_49 rfl (lv_at hl 0 rfl) ?_
  refine lv_bipush (v := zI (22)) hx hb dX5_init_50 (by decide +kernel) ?_
  refine z_newI (rest := [.ref x]) hx hb (hts _ mX5_init_3) hK hA hW 22 rfl (by decide) (Nat.le_of_ble_eq_true rfl) (Nat.le_of_ble_eq_true rfl) dX5_init_52 (fun q_52 H hW => ?_)
  have hW : zW D A s.heap [[(x, .inr (5, [.ref q_8, .ref q_17, .ref q_26, .ref q_35, .int (zI 0), .ref q_44, .int (zI 0), .null, .null, .null, .int (zI 0), .null, .null, .null, .null, .int (zI 0), .int (zI 0), .null]))], [zArr cI q_8 227 (fun _ => 0)], [zArr cI q_17 227 (fun _ => 0)], [zArr cI q_26 227 (fun _ => 0)], [zArr cI q_35 908 (fun _ => 0)], [zArr cI q_44 227 (fun _ => 0)], [zArr cI q_52 22 (fun _ => 0)]] H _ := hW
  refine va_putF (D := D) (ci := 5) (v := .ref q_52) (ty := (.array .int)) (C := RX5) (T := TX5) (N := 18) hx hb hts iX5_init_X5 tyX5 tyX5_ok nmX5 hown hK.1 hW.1 hW.2.1 hW.2.2 0 rfl rfl 7 (by decide) (hts _ mX5_init_10) (fun _ h9 => h9) rfl hnm rfl (by decide +kernel) rfl rfl (Nat.le_of_ble_eq_true rfl) dX5_init_54 (fun H locs h1 h2 h3 => ?_)
  have hW : zW D A s.heap [[(x, .inr (5, [.ref q_8, .ref q_17, .ref q_26, .ref q_35, .int (zI 0), .ref q_44, .int (zI 0), .ref q_52, .null, .null, .int (zI 0), .null, .null, .null, .null, .int (zI 0), .int (zI 0), .null]))], [zArr cI q_8 227 (fun _ => 0)], [zArr cI q_17 227 (fun _ => 0)], [zArr cI q_26 227 (fun _ => 0)], [zArr cI q_35 908 (fun _ => 0)], [zArr cI q_44 227 (fun _ => 0)], [zArr cI q_52 22 (fun _ => 0)]] H locs := ⟨h1, h2, h3⟩
  refine lv_aload_n hx hb dX5_init_57 rfl (lv_at hl 0 rfl) ?_
  refine lv_bipush (v := zI (10)) hx hb dX5_init_58 (by decide +kernel) ?_
  refine z_newI (rest := [.ref x]) hx hb (hts _ mX5_init_3) hK hA hW 10 rfl (by decide) (Nat.le_of_ble_eq_true rfl) (Nat.le_of_ble_eq_true rfl) dX5_init_60 (fun q_60 H hW => ?_)
  have hW : zW D A s.heap [[(x, .inr (5, [.ref q_8, .ref q_17, .ref q_26, .ref q_35, .int (zI 0), .ref q_44, .int (zI 0), .ref q_52, .null, .null, .int (zI 0), .null, .null, .null, .null, .int (zI 0), .int (zI 0), .null]))], [zArr cI q_8 227 (fun _ => 0)], [zArr cI q_17 227 (fun _ => 0)], [zArr cI q_26 227 (fun _ => 0)], [zArr cI q_35 908 (fun _ => 0)], [zArr cI q_44 227 (fun _ => 0)], [zArr cI q_52 22 (fun _ => 0)], [zArr cI q_60 10 (fun _ => 0)]] H _ := hW
  refine va_putF (D := D) (ci := 5) (v := .ref q_60) (ty := (.array .int)) (C := RX5) (T := TX5) (N := 18) hx hb hts iX5_init_X5 tyX5 tyX5_ok nmX5 hown hK.1 hW.1 hW.2.1 hW.2.2 0 rfl rfl 8 (by decide) (hts _ mX5_init_11) (fun _ h9 => h9) rfl hnm rfl (by decide +kernel) rfl rfl (Nat.le_of_ble_eq_true rfl) dX5_init_62 (fun H locs h1 h2 h3 => ?_)
  have hW : zW D A s.heap [[(x, .inr (5, [.ref q_8, .ref q_17, .ref q_26, .ref q_35, .int (zI 0), .ref q_44, .int (zI 0), .ref q_52, .ref q_60, .null, .int (zI 0), .null, .null, .null, .null, .int (zI 0), .int (zI 0), .null]))], [zArr cI q_8 227 (fun _ => 0)], [zArr cI q_17 227 (fun _ => 0)], [zArr cI q_26 227 (fun _ => 0)], [zArr cI q_35 908 (fun _ => 0)], [zArr cI q_44 227 (fun _ => 0)], [zArr cI q_52 22 (fun _ => 0)], [zArr cI q_60 10 (fun _ => 0)]] H locs := ⟨h1, h2, h3⟩
  refine lv_aload_n hx hb dX5_init_65 rfl (lv_at hl 0 rfl) ?_
  refine lv_sipush (v := zI (850)) hx hb dX5_init_66 (by decide +kernel) ?_
  refine z_newI (rest := [.ref x]) hx hb (hts _ mX5_init_3) hK hA hW 850 rfl (by decide) (Nat.le_of_ble_eq_true rfl) (Nat.le_of_ble_eq_true rfl) dX5_init_69 (fun q_69 H hW => ?_)
  have hW : zW D A s.heap [[(x, .inr (5, [.ref q_8, .ref q_17, .ref q_26, .ref q_35, .int (zI 0), .ref q_44, .int (zI 0), .ref q_52, .ref q_60, .null, .int (zI 0), .null, .null, .null, .null, .int (zI 0), .int (zI 0), .null]))], [zArr cI q_8 227 (fun _ => 0)], [zArr cI q_17 227 (fun _ => 0)], [zArr cI q_26 227 (fun _ => 0)], [zArr cI q_35 908 (fun _ => 0)], [zArr cI q_44 227 (fun _ => 0)], [zArr cI q_52 22 (fun _ => 0)], [zArr cI q_60 10 (fun _ => 0)], [zArr cI q_69 850 (fun _ => 0)]] H _ := hW
  refine va_putF (D := D) (ci := 5) (v := .ref q_69) (ty := (.array .int)) (C := RX5) (T := TX5) (N := 18) hx hb hts iX5_init_X5 tyX5 tyX5_ok nmX5 hown hK.1 hW.1 hW.2.1 hW.2.2 0 rfl rfl 9 (by decide) (hts _ mX5_init_12) (fun _ h9 => h9) rfl hnm rfl (by decide +kernel) rfl rfl (Nat.le_of_ble_eq_true rfl) dX5_init_71 (fun H locs h1 h2 h3 => ?_)
  have hW : zW D A s.heap [[(x, .inr (5, [.ref q_8, .ref q_17, .ref q_26, .ref q_35, .int (zI 0), .ref q_44, .int (zI 0), .ref q_52, .ref q_60, .ref q_69, .int (zI 0), .null, .null, .null, .null, .int (zI 0), .int (zI 0), .null]))], [zArr cI q_8 227 (fun _ => 0)], [zArr cI q_17 227 (fun _ => 0)], [zArr cI q_26 227 (fun _ => 0)], [zArr cI q_35 908 (fun _ => 0)], [zArr cI q_44 227 (fun _ => 0)], [zArr cI q_52 22 (fun _ => 0)], [zArr cI q_60 10 (fun _ => 0)], [zArr cI q_69 850 (fun _ => 0)]] H locs := ⟨h1, h2, h3⟩
  refine lv_aload_n hx hb dX5_init_74 rfl (lv_at hl 0 rfl) ?_
  refine lv_bipush (v := zI (10)) hx hb dX5_init_75 (by decide +kernel) ?_
  refine z_newI (rest := [.ref x]) hx hb (hts _ mX5_init_3) hK hA hW 10 rfl (by decide) (Nat.le_of_ble_eq_true rfl) (Nat.le_of_ble_eq_true rfl) dX5_init_77 (fun q_77 H hW => ?_)
  have hW : zW D A s.heap [[(x, .inr (5, [.ref q_8, .ref q_17, .ref q_26, .ref q_35, .int (zI 0), .ref q_44, .int (zI 0), .ref q_52, .ref q_60, .ref q_69, .int (zI 0), .null, .null, .null, .null, .int (zI 0), .int (zI 0), .null]))], [zArr cI q_8 227 (fun _ => 0)], [zArr cI q_17 227 (fun _ => 0)], [zArr cI q_26 227 (fun _ => 0)], [zArr cI q_35 908 (fun _ => 0)], [zArr cI q_44 227 (fun _ => 0)], [zArr cI q_52 22 (fun _ => 0)], [zArr cI q_60 10 (fun _ => 0)], [zArr cI q_69 850 (fun _ => 0)], [zArr cI q_77 10 (fun _ => 0)]] H _ := hW
  refine va_putF (D := D) (ci := 5) (v := .ref q_77) (ty := (.array .int)) (C := RX5) (T := TX5) (N := 18) hx hb hts iX5_init_X5 tyX5 tyX5_ok nmX5 hown hK.1 hW.1 hW.2.1 hW.2.2 0 rfl rfl 11 (by decide) (hts _ mX5_init_13) (fun _ h9 => h9) rfl hnm rfl (by decide +kernel) rfl rfl (Nat.le_of_ble_eq_true rfl) dX5_init_79 (fun H locs h1 h2 h3 => ?_)
  have hW : zW D A s.heap [[(x, .inr (5, [.ref q_8, .ref q_17, .ref q_26, .ref q_35, .int (zI 0), .ref q_44, .int (zI 0), .ref q_52, .ref q_60, .ref q_69, .int (zI 0), .ref q_77, .null, .null, .null, .int (zI 0), .int (zI 0), .null]))], [zArr cI q_8 227 (fun _ => 0)], [zArr cI q_17 227 (fun _ => 0)], [zArr cI q_26 227 (fun _ => 0)], [zArr cI q_35 908 (fun _ => 0)], [zArr cI q_44 227 (fun _ => 0)], [zArr cI q_52 22 (fun _ => 0)], [zArr cI q_60 10 (fun _ => 0)], [zArr cI q_69 850 (fun _ => 0)], [zArr cI q_77 10 (fun _ => 0)]] H locs := ⟨h1, h2, h3⟩
  refine lv_aload_n hx hb dX5_init_82 rfl (lv_at hl 0 rfl) ?_
  refine lv_iconst (v := zI (4)) hx hb dX5_init_83 rfl ?_
  refine z_newI (rest := [.ref x]) hx hb (hts _ mX5_init_3) hK hA hW 4 rfl (by decide) (Nat.le_of_ble_eq_true rfl) (Nat.le_of_ble_eq_true rfl) dX5_init_84 (fun q_84 H hW => ?_)
  have hW : zW D A s.heap [[(x, .inr (5, [.ref q_8, .ref q_17, .ref q_26, .ref q_35, .int (zI 0), .ref q_44, .int (zI 0), .ref q_52, .ref q_60, .ref q_69, .int (zI 0), .ref q_77, .null, .null, .null, .int (zI 0), .int (zI 0), .null]))], [zArr cI q_8 227 (fun _ => 0)], [zArr cI q_17 227 (fun _ => 0)], [zArr cI q_26 227 (fun _ => 0)], [zArr cI q_35 908 (fun _ => 0)], [zArr cI q_44 227 (fun _ => 0)], [zArr cI q_52 22 (fun _ => 0)], [zArr cI q_60 10 (fun _ => 0)], [zArr cI q_69 850 (fun _ => 0)], [zArr cI q_77 10 (fun _ => 0)], [zArr cI q_84 4 (fun _ => 0)]] H _ := hW
  refine va_putF (D := D) (ci := 5) (v := .ref q_84) (ty := (.array .int)) (C := RX5) (T := TX5) (N := 18) hx hb hts iX5_init_X5 tyX5 tyX5_ok nmX5 hown hK.1 hW.1 hW.2.1 hW.2.2 0 rfl rfl 12 (by decide) (hts _ mX5_init_14) (fun _ h9 => h9) rfl hnm rfl (by decide +kernel) rfl rfl (Nat.le_of_ble_eq_true rfl) dX5_init_86 (fun H locs h1 h2 h3 => ?_)
  have hW : zW D A s.heap [[(x, .inr (5, [.ref q_8, .ref q_17, .ref q_26, .ref q_35, .int (zI 0), .ref q_44, .int (zI 0), .ref q_52, .ref q_60, .ref q_69, .int (zI 0), .ref q_77, .ref q_84, .null, .null, .int (zI 0), .int (zI 0), .null]))], [zArr cI q_8 227 (fun _ => 0)], [zArr cI q_17 227 (fun _ => 0)], [zArr cI q_26 227 (fun _ => 0)], [zArr cI q_35 908 (fun _ => 0)], [zArr cI q_44 227 (fun _ => 0)], [zArr cI q_52 22 (fun _ => 0)], [zArr cI q_60 10 (fun _ => 0)], [zArr cI q_69 850 (fun _ => 0)], [zArr cI q_77 10 (fun _ => 0)], [zArr cI q_84 4 (fun _ => 0)]] H locs := ⟨h1, h2, h3⟩
  refine lv_aload_n hx hb dX5_init_89 rfl (lv_at hl 0 rfl) ?_
  refine lv_bipush (v := zI (100)) hx hb dX5_init_90 (by decide +kernel) ?_
  refine z_newI (rest := [.ref x]) hx hb (hts _ mX5_init_3) hK hA hW 100 rfl (by decide) (Nat.le_of_ble_eq_true rfl) (Nat.le_of_ble_eq_true rfl) dX5_init_92 (fun q_92 H hW => ?_)
  have hW : zW D A s.heap [[(x, .inr (5, [.ref q_8, .ref q_17, .ref q_26, .ref q_35, .int (zI 0), .ref q_44, .int (zI 0), .ref q_52, .ref q_60, .ref q_69, .int (zI 0), .ref q_77, .ref q_84, .null, .null, .int (zI 0), .int (zI 0), .null]))], [zArr cI q_8 227 (fun _ => 0)], [zArr cI q_17 227 (fun _ => 0)], [zArr cI q_26 227 (fun _ => 0)], [zArr cI q_35 908 (fun _ => 0)], [zArr cI q_44 227 (fun _ => 0)], [zArr cI q_52 22 (fun _ => 0)], [zArr cI q_60 10 (fun _ => 0)], [zArr cI q_69 850 (fun _ => 0)], [zArr cI q_77 10 (fun _ => 0)], [zArr cI q_84 4 (fun _ => 0)], [zArr cI q_92 100 (fun _ => 0)]] H _ := hW
  refine va_putF (D := D) (ci := 5) (v := .ref q_92) (ty := (.array .int)) (C := RX5) (T := TX5) (N := 18) hx hb hts iX5_init_X5 tyX5 tyX5_ok nmX5 hown hK.1 hW.1 hW.2.1 hW.2.2 0 rfl rfl 13 (by decide) (hts _ mX5_init_15) (fun _ h9 => h9) rfl hnm rfl (by decide +kernel) rfl rfl (Nat.le_of_ble_eq_true rfl) dX5_init_94 (fun H locs h1 h2 h3 => ?_)
  have hW : zW D A s.heap [[(x, .inr (5, [.ref q_8, .ref q_17, .ref q_26, .ref q_35, .int (zI 0), .ref q_44, .int (zI 0), .ref q_52, .ref q_60, .ref q_69, .int (zI 0), .ref q_77, .ref q_84, .ref q_92, .null, .int (zI 0), .int (zI 0), .null]))], [zArr cI q_8 227 (fun _ => 0)], [zArr cI q_17 227 (fun _ => 0)], [zArr cI q_26 227 (fun _ => 0)], [zArr cI q_35 908 (fun _ => 0)], [zArr cI q_44 227 (fun _ => 0)], [zArr cI q_52 22 (fun _ => 0)], [zArr cI q_60 10 (fun _ => 0)], [zArr cI q_69 850 (fun _ => 0)], [zArr cI q_77 10 (fun _ => 0)], [zArr cI q_84 4 (fun _ => 0)], [zArr cI q_92 100 (fun _ => 0)]] H locs := ⟨h1, h2, h3⟩
  refine lv_aload_n hx hb dX5_init_97 rfl (lv_at hl 0 rfl) ?_
  refine lv_bipush (v := zI (60)) hx hb dX5_init_98 (by decide +kernel) ?_
  refine z_newI (rest := [.ref x]) hx hb (hts _ mX5_init_3) hK hA hW 60 rfl (by decide) (Nat.le_of_ble_eq_true rfl) (Nat.le_of_ble_eq_true rfl) dX5_init_100 (fun q_100 H hW => ?_)
  have hW : zW D A s.heap [[(x, .inr (5, [.ref q_8, .ref q_17, .ref q_26, .ref q_35, .int (zI 0), .ref q_44, .int (zI 0), .ref q_52, .ref q_60, .ref q_69, .int (zI 0), .ref q_77, .ref q_84, .ref q_92, .null, .int (zI 0), .int (zI 0), .null]))], [zArr cI q_8 227 (fun _ => 0)], [zArr cI q_17 227 (fun _ => 0)], [zArr cI q_26 227 (fun _ => 0)], [zArr cI q_35 908 (fun _ => 0)], [zArr cI q_44 227 (fun _ => 0)], [zArr cI q_52 22 (fun _ => 0)], [zArr cI q_60 10 (fun _ => 0)], [zArr cI q_69 850 (fun _ => 0)], [zArr cI q_77 10 (fun _ => 0)], [zArr cI q_84 4 (fun _ => 0)], [zArr cI q_92 100 (fun _ => 0)], [zArr cI q_100 60 (fun _ => 0)]] H _ := hW
  refine va_putF (D := D) (ci := 5) (v := .ref q_100) (ty := (.array .int)) (C := RX5) (T := TX5) (N := 18) hx hb hts iX5_init_X5 tyX5 tyX5_ok nmX5 hown hK.1 hW.1 hW.2.1 hW.2.2 0 rfl rfl 14 (by decide) (hts _ mX5_init_16) (fun _ h9 => h9) rfl hnm rfl (by decide +kernel) rfl rfl (Nat.le_of_ble_eq_true rfl) dX5_init_102 (fun H locs h1 h2 h3 => ?_)
  have hW : zW D A s.heap [[(x, .inr (5, [.ref q_8, .ref q_17, .ref q_26, .ref q_35, .int (zI 0), .ref q_44, .int (zI 0), .ref q_52, .ref q_60, .ref q_69, .int (zI 0), .ref q_77, .ref q_84, .ref q_92, .ref q_100, .int (zI 0), .int (zI 0), .null]))], [zArr cI q_8 227 (fun _ => 0)], [zArr cI q_17 227 (fun _ => 0)], [zArr cI q_26 227 (fun _ => 0)], [zArr cI q_35 908 (fun _ => 0)], [zArr cI q_44 227 (fun _ => 0)], [zArr cI q_52 22 (fun _ => 0)], [zArr cI q_60 10 (fun _ => 0)], [zArr cI q_69 850 (fun _ => 0)], [zArr cI q_77 10 (fun _ => 0)], [zArr cI q_84 4 (fun _ => 0)], [zArr cI q_92 100 (fun _ => 0)], [zArr cI q_100 60 (fun _ => 0)]] H locs := ⟨h1, h2, h3⟩
  refine lv_aload_n hx hb dX5_init_105 rfl (lv_at hl 0 rfl) ?_
  refine lv_bipush (v := zI (22)) hx hb dX5_init_106 (by decide +kernel) ?_
  refine z_newI (rest := [.ref x]) hx hb (hts _ mX5_init_3) hK hA hW 22 rfl (by decide) (Nat.le_of_ble_eq_true rfl) (Nat.le_of_ble_eq_true rfl) dX5_init_108 (fun q_108 H hW => ?_)
  have hW : zW D A s.heap [[(x, .inr (5, [.ref q_8, .ref q_17, .ref q_26, .ref q_35, .int (zI 0), .ref q_44, .int (zI 0), .ref q_52, .ref q_60, .ref q_69, .int (zI 0), .ref q_77, .ref q_84, .ref q_92, .ref q_100, .int (zI 0), .int (zI 0), .null]))], [zArr cI q_8 227 (fun _ => 0)], [zArr cI q_17 227 (fun _ => 0)], [zArr cI q_26 227 (fun _ => 0)], [zArr cI q_35 908 (fun _ => 0)], [zArr cI q_44 227 (fun _ => 0)], [zArr cI q_52 22 (fun _ => 0)], [zArr cI q_60 10 (fun _ => 0)], [zArr cI q_69 850 (fun _ => 0)], [zArr cI q_77 10 (fun _ => 0)], [zArr cI q_84 4 (fun _ => 0)], [zArr cI q_92 100 (fun _ => 0)], [zArr cI q_100 60 (fun _ => 0)], [zArr cI q_108 22 (fun _ => 0)]] H _ := hW
  refine va_putF (D := D) (ci := 5) (v := .ref q_108) (ty := (.array .int)) (C := RX5) (T := TX5) (N := 18) hx hb hts iX5_init_X5 tyX5 tyX5_ok nmX5 hown hK.1 hW.1 hW.2.1 hW.2.2 0 rfl rfl 17 (by decide) (hts _ mX5_init_17) (fun _ h9 => h9) rfl hnm rfl (by decide +kernel) rfl rfl (Nat.le_of_ble_eq_true rfl) dX5_init_110 (fun H locs h1 h2 h3 => ?_)
  have hW : zW D A s.heap [[(x, .inr (5, [.ref q_8, .ref q_17, .ref q_26, .ref q_35, .int (zI 0), .ref q_44, .int (zI 0), .ref q_52, .ref q_60, .ref q_69, .int (zI 0), .ref q_77, .ref q_84, .ref q_92, .ref q_100, .int (zI 0), .int (zI 0), .ref q_108]))], [zArr cI q_8 227 (fun _ => 0)], [zArr cI q_17 227 (fun _ => 0)], [zArr cI q_26 227 (fun _ => 0)], [zArr cI q_35 908 (fun _ => 0)], [zArr cI q_44 227 (fun _ => 0)], [zArr cI q_52 22 (fun _ => 0)], [zArr cI q_60 10 (fun _ => 0)], [zArr cI q_69 850 (fun _ => 0)], [zArr cI q_77 10 (fun _ => 0)], [zArr cI q_84 4 (fun _ => 0)], [zArr cI q_92 100 (fun _ => 0)], [zArr cI q_100 60 (fun _ => 0)], [zArr cI q_108 22 (fun _ => 0)]] H locs := ⟨h1, h2, h3⟩
  obtain ⟨am, ha_am, hW9⟩ : ∃ am : Nat → Nat, am 0 = x ∧ zW D A s.heap [zMod2 cI am (((fun _ => 0), (fun _ => 0), (fun _ => 0), (fun _ => 0), 0), ((fun _ => 0), 0, (fun _ => 0), (fun _ => 0), (fun _ => 0)), (0, (fun _ => 0), (fun _ => 0), (fun _ => 0)), ((fun _ => 0), 0, 0, (fun _ => 0)))] H locs := ⟨adr [x, q_8, q_17, q_26, q_35, q_44, q_52, q_60, q_69, q_77, q_84, q_92, q_100, q_108], rfl, zW.flat hW rfl⟩
  subst ha_am
  have hW := hW9
  refine lv_iconst (v := zI (0)) hx hb dX5_init_113 rfl ?_
  refine lv_istore_n (lv' := [(1, .int (zI 0)), (0, .ref (am 0))]) hx hb dX5_init_114 rfl hl (by decide) rfl (fun ls hl => ?_)
  have L115 : ∀ (fu : Nat) (ki : Int) (hc : Int → Int), (0 ≤ ki ∧ ki ≤ 5) → (hc = ordF ki) → (5 - ki) < (fu : Int) → ∀ (H : Heap) (locs : List Loc), zW D A s.heap [zMod2 cI am (mm_all_ (((fun _ => 0), (fun _ => 0), (fun _ => 0), (fun _ => 0), 0), ((fun _ => 0), 0, (fun _ => 0), (fun _ => 0), (fun _ => 0)), (0, (fun _ => 0), (fun _ => 0), (fun _ => 0)), ((fun _ => 0), 0, 0, (fun _ => 0))) (hc))] H locs → ∀ (ls : Array Slot), lv_has ls 2 [(0, .ref (am 0)), (1, .int (zI ki))] → W p l e { frames := 1, cells := 13, slots := 2894, locals := 20 } s m args below meth c H locs 13 2894 (MQ below (zQ A D (qX5_init cI ((am 0)))) args s 13 2894 A) (F0 m 115 ls []) := by
    intro fu
    induction fu with
    | zero => intro ki hc hki hhc hm; exact absurd hm (by omega)
    | succ fu ih115 =>
      intro ki hc hki hhc hm H locs hW ls hl
      refine lv_iload_n hx hb dX5_init_115 rfl (lv_at hl 1 rfl) ?_
      refine lv_iconst (v := zI (5)) hx hb dX5_init_116 rfl ?_
      refine z_icmp_ge (tgt := 135) hx hb dX5_init_117 (by decide) (by omega) (fun cc_117 => ?_) (fun cc_117 => ?_)
      · exact z_vret hx hb hr hlk hW dX5_init_135 (by
            exact ⟨am, (mm_all_ (((fun _ => 0), (fun _ => 0), (fun _ => 0), (fun _ => 0), 0), ((fun _ => 0), 0, (fun _ => 0), (fun _ => 0), (fun _ => 0)), (0, (fun _ => 0), (fun _ => 0), (fun _ => 0)), ((fun _ => 0), 0, 0, (fun _ => 0))) (hc)), rfl, rfl, by exact ⟨rfl, by rw [hhc]; exact MR_0 (by omega), ⟨rfl, Nat.zero_le _, fun k S hk => by simp at hk⟩, rfl, TXM_0, rfl⟩⟩)
      · refine lv_aload_n hx hb dX5_init_120 rfl (lv_at hl 0 rfl) ?_
        refine va_get (D := D) (ci := 5) (v := .ref (am 1)) (C := RX5) (T := TX5) (N := 18) hx hb hts iX5_init_X5 hown hK.1 hW.1 0 rfl rfl 0 (by decide) (hts _ mX5_init_5) (fun _ h9 => h9) rfl dX5_init_121 ?_
        refine lv_iconst (v := zI (2)) hx hb dX5_init_124 rfl ?_
        refine lv_iload_n hx hb dX5_init_125 rfl (lv_at hl 1 rfl) ?_
        refine z_iadd hx hb dX5_init_126 ?_
        refine lv_iload_n hx hb dX5_init_127 rfl (lv_at hl 1 rfl) ?_
        refine z_iast (n := 227) (g := hc) (bs1 := [zMod2 cI am (mm_all_ (((fun _ => 0), (fun _ => 0), (fun _ => 0), (fun _ => 0), 0), ((fun _ => 0), 0, (fun _ => 0), (fun _ => 0), (fun _ => 0)), (0, (fun _ => 0), (fun _ => 0), (fun _ => 0)), ((fun _ => 0), 0, 0, (fun _ => 0))) (zU hc (2 + ki) ki))]) hx hb hK hW 1 rfl dX5_init_128 (by omega) rfl (fun H locs hW => ?_)
        refine z_iinc (x := ki) (lv' := [(1, .int (zI (ki + 1))), (0, .ref (am 0))]) hx hb dX5_init_129 hl (k := 1) rfl (by decide) rfl (fun ls hl => ?_)
        refine lv_goto (tgt := 115) hx hb dX5_init_132 (by decide) ?_
        exact ih115 (ki + 1) (zU hc (2 + ki) ki) (by omega) (by rw [hhc]; exact ordF_s hki.1) (by omega) _ _ hW ls (lv_sub hl [1, 0] rfl)
  exact L115 (((5 - 0) : Int).toNat + 1) 0 (mm_all (((fun _ => 0), (fun _ => 0), (fun _ => 0), (fun _ => 0), 0), ((fun _ => 0), 0, (fun _ => 0), (fun _ => 0), (fun _ => 0)), (0, (fun _ => 0), (fun _ => 0), (fun _ => 0)), ((fun _ => 0), 0, 0, (fun _ => 0)))) (by omega) (by exact ordF_0.symm) (by omega) _ _ hW ls (lv_sub hl [1, 0] rfl)
