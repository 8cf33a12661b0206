abbrev qX5_type (cI : ClassId) (a : Nat → Nat) (b : zM2) (y1 : Int) : Option Value → List va_W → Prop := fun vq wq => ∃ (r : Int) (ztxt : Int → Int) (ztl : Int), vq = some (.int (zI r)) ∧ wq = [zMod2 cI a (mm_tl_ (mm_txt_ b ztxt) ztl)] ∧ ((60 ≤ mm_tl b ∧ r = -3 ∧ ztxt = mm_txt b ∧ ztl = mm_tl b) ∨ (mm_tl b < 60 ∧ r = mm_tl b + 1 ∧ ztxt = zU (mm_txt b) (mm_tl b) y1 ∧ ztl = mm_tl b + 1))
set_option maxRecDepth 20000 in
theorem iX5_type_X5 : ∀ w ∈ u_ws RX5 TX5 18, w ∈ wsX5_type := by decide +kernel
set_option maxRecDepth 20000 in
theorem mX5_type_1 : (.fieldLink RX5 122 "StoryPanelsModel" "textLong" "I" : Cond) ∈ wsX5_type := by decide +kernel
set_option maxRecDepth 20000 in
theorem mX5_type_2 : (.fieldLink RX5 43 "StoryPanelsModel" "text" "[I" : Cond) ∈ wsX5_type := by decide +kernel
set_option maxHeartbeats 4000000 in
set_option maxRecDepth 100000 in
theorem kX5_type (l : Launch) (D : va_G) (cI cB : ClassId) (a : Nat → Nat) (b : zM2) (y1 : Int) (hT : TXM (mm_txt b) (mm_tl b)) (hy1 : 0 ≤ y1 ∧ y1 < 65536) : zMet l yX5_type wsX5_type 0 0 0 0 D cI cB [.ref (a 0), .int (zI y1)] [zMod2 cI a b] (qX5_type cI a b y1) := by
  refine zMet.of (cd := cX5_type) (maxL := 2) (ret := (some .int)) (by decide) rfl (Nat.le_of_ble_eq_true rfl) ?_
  intro p e s m args below meth c A ls hS hr hlk hnm hK hA hW hl
  have hS : CallFix p m c cX5_type 2 s args wsX5_type RX5 := hS
  have hx := hS.1
  have hb := hS.2.1
  have hown := hS.2.2.2.1
  have hts := hS.2.2.2.2
  have hl : lv_has ls 2 [(0, .ref (a 0)), (1, .int (zI y1))] := hl
  have hT1 := hT.1
  refine lv_aload_n hx hb dX5_type_0 rfl (lv_at hl 0 rfl) ?_
  refine va_get (D := D) (ci := 5) (v := .int (zI (mm_tl b))) (C := RX5) (T := TX5) (N := 18) hx hb hts iX5_type_X5 hown hK.1 hW.1 0 rfl rfl 15 (by decide) (hts _ mX5_type_1) (fun _ h9 => h9) rfl dX5_type_1 ?_
  refine lv_bipush (v := zI (60)) hx hb dX5_type_4 (by decide +kernel) ?_
  refine z_icmp_ne (tgt := 12) hx hb dX5_type_6 (by decide) (by omega) (fun cc_6 => ?_) (fun cc_6 => ?_)
  · refine lv_aload_n hx hb dX5_type_12 rfl (lv_at hl 0 rfl) ?_
    refine va_get (D := D) (ci := 5) (v := .ref (a 12)) (C := RX5) (T := TX5) (N := 18) hx hb hts iX5_type_X5 hown hK.1 hW.1 0 rfl rfl 14 (by decide) (hts _ mX5_type_2) (fun _ h9 => h9) rfl dX5_type_13 ?_
    refine lv_aload_n hx hb dX5_type_16 rfl (lv_at hl 0 rfl) ?_
    refine va_get (D := D) (ci := 5) (v := .int (zI (mm_tl b))) (C := RX5) (T := TX5) (N := 18) hx hb hts iX5_type_X5 hown hK.1 hW.1 0 rfl rfl 15 (by decide) (hts _ mX5_type_1) (fun _ h9 => h9) rfl dX5_type_17 ?_
    refine lv_iload_n hx hb dX5_type_20 rfl (lv_at hl 1 rfl) ?_
    refine z_iast (n := 60) (g := mm_txt b) (bs1 := [zMod2 cI a (mm_txt_ b (zU (mm_txt b) (mm_tl b) y1))]) hx hb hK hW 12 rfl dX5_type_21 (by omega) rfl (fun H locs hW => ?_)
    refine lv_aload_n hx hb dX5_type_22 rfl (lv_at hl 0 rfl) ?_
    refine lv_dup hx hb dX5_type_23 rfl ?_
    refine va_get (D := D) (ci := 5) (v := .int (zI (mm_tl b))) (C := RX5) (T := TX5) (N := 18) hx hb hts iX5_type_X5 hown hK.1 hW.1 0 rfl rfl 15 (by decide) (hts _ mX5_type_1) (fun _ h9 => h9) rfl dX5_type_24 ?_
    refine lv_iconst (v := zI (1)) hx hb dX5_type_27 rfl ?_
    refine z_iadd hx hb dX5_type_28 ?_
    refine va_put (D := D) (ci := 5) (v := .int (zI ((mm_tl b) + 1))) (ty := .int) (C := RX5) (T := TX5) (N := 18) hx hb hts iX5_type_X5 tyX5 tyX5_ok nmX5 hown hK.1 hW.1 hW.2.1 hW.2.2 0 rfl rfl 15 (by decide) (hts _ mX5_type_1) (fun _ h9 => h9) rfl (by decide +kernel) rfl rfl (Nat.le_of_ble_eq_true rfl) dX5_type_29 (fun H locs h1 h2 h3 => ?_)
    have hW : zW D A s.heap [zMod2 cI a (mm_tl_ (mm_txt_ b (zU (mm_txt b) (mm_tl b) y1)) ((mm_tl b) + 1))] H locs := ⟨h1, h2, h3⟩
    refine lv_aload_n hx hb dX5_type_32 rfl (lv_at hl 0 rfl) ?_
    refine va_get (D := D) (ci := 5) (v := .int (zI ((mm_tl b) + 1))) (C := RX5) (T := TX5) (N := 18) hx hb hts iX5_type_X5 hown hK.1 hW.1 0 rfl rfl 15 (by decide) (hts _ mX5_type_1) (fun _ h9 => h9) rfl dX5_type_33 ?_
    exact z_iret (v := (mm_tl b) + 1) hx hb hr hlk hW dX5_type_36 (by
        exact ⟨(mm_tl b) + 1, zU (mm_txt b) (mm_tl b) y1, (mm_tl b) + 1, rfl, rfl, by first | exact Or.inl ⟨by omega, rfl, rfl, rfl⟩ | exact Or.inr ⟨by omega, rfl, rfl, rfl⟩⟩)
  · refine lv_bipush (v := zI (-3)) hx hb dX5_type_9 (by decide +kernel) ?_
    exact z_iret (v := (-3)) hx hb hr hlk hW dX5_type_11 (by
        exact ⟨(-3), mm_txt b, mm_tl b, rfl, rfl, by first | exact Or.inl ⟨by omega, rfl, rfl, rfl⟩ | exact Or.inr ⟨by omega, rfl, rfl, rfl⟩⟩)

abbrev qX5_clearText (cI : ClassId) (a : Nat → Nat) (b : zM2) : Option Value → List va_W → Prop := fun vq wq => ∃ (r : Int) (ztl : Int), vq = some (.int (zI r)) ∧ wq = [zMod2 cI a (mm_tl_ b ztl)] ∧ (r = mm_tl b ∧ ztl = 0)
set_option maxRecDepth 20000 in
theorem iX5_clearText_X5 : ∀ w ∈ u_ws RX5 TX5 18, w ∈ wsX5_clearText := by decide +kernel
set_option maxRecDepth 20000 in
theorem mX5_clearText_1 : (.fieldLink RX5 122 "StoryPanelsModel" "textLong" "I" : Cond) ∈ wsX5_clearText := by decide +kernel
set_option maxHeartbeats 4000000 in
set_option maxRecDepth 100000 in
theorem kX5_clearText (l : Launch) (D : va_G) (cI cB : ClassId) (a : Nat → Nat) (b : zM2)  : zMet l yX5_clearText wsX5_clearText 0 0 0 0 D cI cB [.ref (a 0)] [zMod2 cI a b] (qX5_clearText cI a b) := by
  refine zMet.of (cd := cX5_clearText) (maxL := 2) (ret := (some .int)) (by decide) rfl (Nat.le_of_ble_eq_true rfl) ?_
  intro p e s m args below meth c A ls hS hr hlk hnm hK hA hW hl
  have hS : CallFix p m c cX5_clearText 2 s args wsX5_clearText RX5 := hS
  have hx := hS.1
  have hb := hS.2.1
  have hown := hS.2.2.2.1
  have hts := hS.2.2.2.2
  have hl : lv_has ls 2 [(0, .ref (a 0))] := hl
  refine lv_aload_n hx hb dX5_clearText_0 rfl (lv_at hl 0 rfl) ?_
  refine va_get (D := D) (ci := 5) (v := .int (zI (mm_tl b))) (C := RX5) (T := TX5) (N := 18) hx hb hts iX5_clearText_X5 hown hK.1 hW.1 0 rfl rfl 15 (by decide) (hts _ mX5_clearText_1) (fun _ h9 => h9) rfl dX5_clearText_1 ?_
  refine lv_istore_n (lv' := [(1, .int (zI (mm_tl b))), (0, .ref (a 0))]) hx hb dX5_clearText_4 rfl hl (by decide) rfl (fun ls hl => ?_)
  refine lv_aload_n hx hb dX5_clearText_5 rfl (lv_at hl 1 rfl) ?_
  refine lv_iconst (v := zI (0)) hx hb dX5_clearText_6 rfl ?_
  refine va_put (D := D) (ci := 5) (v := .int (zI 0)) (ty := .int) (C := RX5) (T := TX5) (N := 18) hx hb hts iX5_clearText_X5 tyX5 tyX5_ok nmX5 hown hK.1 hW.1 hW.2.1 hW.2.2 0 rfl rfl 15 (by decide) (hts _ mX5_clearText_1) (fun _ h9 => h9) rfl (by decide +kernel) rfl rfl (Nat.le_of_ble_eq_true rfl) dX5_clearText_7 (fun H locs h1 h2 h3 => ?_)
  have hW : zW D A s.heap [zMod2 cI a (mm_tl_ b (0))] H locs := ⟨h1, h2, h3⟩
  refine lv_iload_n hx hb dX5_clearText_10 rfl (lv_at hl 0 rfl) ?_
  exact z_iret (v := mm_tl b) hx hb hr hlk hW dX5_clearText_11 (by
      exact ⟨mm_tl b, 0, rfl, rfl, by exact ⟨rfl, rfl⟩⟩)

abbrev qX5_kindOf (cI : ClassId) (x : Int) : Option Value → List va_W → Prop := fun vq wq => ∃ (r : Int), vq = some (.int (zI r)) ∧ wq = [] ∧ ((r = -5 ∧ zkd x = -1) ∨ (r = zkd x ∧ 0 ≤ r))
set_option maxHeartbeats 4000000 in
set_option maxRecDepth 100000 in
theorem kX5_kindOf (l : Launch) (D : va_G) (cI cB : ClassId) (x : Int) (hx1 : R32 x) : zMet l yX5_kindOf wsX5_kindOf 0 0 0 0 D cI cB [.int (zI x)] [] (qX5_kindOf cI x) := by
  refine zMet.of (cd := cX5_kindOf) (maxL := 1) (ret := (some .int)) (by decide) rfl (Nat.le_of_ble_eq_true rfl) ?_
  intro p e s m args below meth c A ls hS hr hlk hnm hK hA hW hl
  have hS : CallFix p m c cX5_kindOf 1 s args wsX5_kindOf RX5 := hS
  have hx := hS.1
  have hb := hS.2.1
  have hown := hS.2.2.2.1
  have hts := hS.2.2.2.2
  have hl : lv_has ls 1 [(0, .int (zI x))] := hl
  refine lv_iload_n hx hb dX5_kindOf_0 rfl (lv_at hl 0 rfl) ?_
  refine lv_bipush (v := zI (43)) hx hb dX5_kindOf_1 (by decide +kernel) ?_
  refine z_icmp_ne (tgt := 10) hx hb dX5_kindOf_3 (by decide) (by omega) (fun cc_3 => ?_) (fun cc_3 => ?_)
  · refine lv_iload_n hx hb dX5_kindOf_10 rfl (lv_at hl 0 rfl) ?_
    refine lv_bipush (v := zI (45)) hx hb dX5_kindOf_11 (by decide +kernel) ?_
    refine z_icmp_ne (tgt := 20) hx hb dX5_kindOf_13 (by decide) (by omega) (fun cc_13 => ?_) (fun cc_13 => ?_)
    · refine lv_iload_n hx hb dX5_kindOf_20 rfl (lv_at hl 0 rfl) ?_
      refine lv_bipush (v := zI (61)) hx hb dX5_kindOf_21 (by decide +kernel) ?_
      refine z_icmp_ne (tgt := 30) hx hb dX5_kindOf_23 (by decide) (by omega) (fun cc_23 => ?_) (fun cc_23 => ?_)
      · refine lv_iload_n hx hb dX5_kindOf_30 rfl (lv_at hl 0 rfl) ?_
        refine lv_bipush (v := zI (62)) hx hb dX5_kindOf_31 (by decide +kernel) ?_
        refine z_icmp_ne (tgt := 40) hx hb dX5_kindOf_33 (by decide) (by omega) (fun cc_33 => ?_) (fun cc_33 => ?_)
        · refine lv_iload_n hx hb dX5_kindOf_40 rfl (lv_at hl 0 rfl) ?_
          refine lv_bipush (v := zI (60)) hx hb dX5_kindOf_41 (by decide +kernel) ?_
          refine z_icmp_ne (tgt := 50) hx hb dX5_kindOf_43 (by decide) (by omega) (fun cc_43 => ?_) (fun cc_43 => ?_)
          · refine lv_iload_n hx hb dX5_kindOf_50 rfl (lv_at hl 0 rfl) ?_
            refine lv_bipush (v := zI (46)) hx hb dX5_kindOf_51 (by decide +kernel) ?_
            refine z_icmp_ne (tgt := 60) hx hb dX5_kindOf_53 (by decide) (by omega) (fun cc_53 => ?_) (fun cc_53 => ?_)
            · refine lv_bipush (v := zI (-5)) hx hb dX5_kindOf_60 (by decide +kernel) ?_
              exact z_iret (v := (-5)) hx hb hr hlk hW dX5_kindOf_62 (by
                  exact ⟨(-5), rfl, rfl, by (unfold zkd; repeat (first | rw [if_pos (by omega)] | rw [if_neg (by omega)])); omega⟩)
            · refine lv_iconst (v := zI (5)) hx hb dX5_kindOf_56 rfl ?_
              refine lv_goto (tgt := 62) hx hb dX5_kindOf_57 (by decide) ?_
              exact z_iret (v := 5) hx hb hr hlk hW dX5_kindOf_62 (by
                  exact ⟨5, rfl, rfl, by (unfold zkd; repeat (first | rw [if_pos (by omega)] | rw [if_neg (by omega)])); omega⟩)
          · refine lv_iconst (v := zI (4)) hx hb dX5_kindOf_46 rfl ?_
            refine lv_goto (tgt := 62) hx hb dX5_kindOf_47 (by decide) ?_
            exact z_iret (v := 4) hx hb hr hlk hW dX5_kindOf_62 (by
                exact ⟨4, rfl, rfl, by (unfold zkd; repeat (first | rw [if_pos (by omega)] | rw [if_neg (by omega)])); omega⟩)
        · refine lv_iconst (v := zI (3)) hx hb dX5_kindOf_36 rfl ?_
          refine lv_goto (tgt := 62) hx hb dX5_kindOf_37 (by decide) ?_
          exact z_iret (v := 3) hx hb hr hlk hW dX5_kindOf_62 (by
              exact ⟨3, rfl, rfl, by (unfold zkd; repeat (first | rw [if_pos (by omega)] | rw [if_neg (by omega)])); omega⟩)
      · refine lv_iconst (v := zI (2)) hx hb dX5_kindOf_26 rfl ?_
        refine lv_goto (tgt := 62) hx hb dX5_kindOf_27 (by decide) ?_
        exact z_iret (v := 2) hx hb hr hlk hW dX5_kindOf_62 (by
            exact ⟨2, rfl, rfl, by (unfold zkd; repeat (first | rw [if_pos (by omega)] | rw [if_neg (by omega)])); omega⟩)
    · refine lv_iconst (v := zI (1)) hx hb dX5_kindOf_16 rfl ?_
      refine lv_goto (tgt := 62) hx hb dX5_kindOf_17 (by decide) ?_
      exact z_iret (v := 1) hx hb hr hlk hW dX5_kindOf_62 (by
          exact ⟨1, rfl, rfl, by (unfold zkd; repeat (first | rw [if_pos (by omega)] | rw [if_neg (by omega)])); omega⟩)
  · refine lv_iconst (v := zI (0)) hx hb dX5_kindOf_6 rfl ?_
    refine lv_goto (tgt := 62) hx hb dX5_kindOf_7 (by decide) ?_
    exact z_iret (v := 0) hx hb hr hlk hW dX5_kindOf_62 (by
        exact ⟨0, rfl, rfl, by (unfold zkd; repeat (first | rw [if_pos (by omega)] | rw [if_neg (by omega)])); omega⟩)

abbrev qX5_isHere (cI : ClassId) (a : Nat → Nat) (b : zM2) (y1 y2 : Int) : Option Value → List va_W → Prop := fun vq wq => ∃ (r : Int), vq = some (.int (zI r)) ∧ wq = [zMod2 cI a b] ∧ ((r = 1 ∧ mm_spot b < mm_tl b ∧ y1 ≤ sgM (mm_txt b) (mm_tl b) (mm_spot b) ∧ sgM (mm_txt b) (mm_tl b) (mm_spot b) ≤ y2) ∨ (r = 0 ∧ (sgM (mm_txt b) (mm_tl b) (mm_spot b) < y1 ∨ y2 < sgM (mm_txt b) (mm_tl b) (mm_spot b))))
set_option maxRecDepth 20000 in
theorem iX5_isHere_X5 : ∀ w ∈ u_ws RX5 TX5 18, w ∈ wsX5_isHere := by decide +kernel
set_option maxRecDepth 20000 in
theorem mX5_isHere_1 : (.fieldLink RX5 125 "StoryPanelsModel" "spot" "I" : Cond) ∈ wsX5_isHere := by decide +kernel
set_option maxRecDepth 20000 in
theorem mX5_isHere_2 : (.fieldLink RX5 122 "StoryPanelsModel" "textLong" "I" : Cond) ∈ wsX5_isHere := by decide +kernel
set_option maxRecDepth 20000 in
theorem mX5_isHere_3 : (.fieldLink RX5 43 "StoryPanelsModel" "text" "[I" : Cond) ∈ wsX5_isHere := by decide +kernel
set_option maxHeartbeats 4000000 in
set_option maxRecDepth 100000 in
theorem kX5_isHere (l : Launch) (D : va_G) (cI cB : ClassId) (a : Nat → Nat) (b : zM2) (y1 y2 : Int) (hT : TXM (mm_txt b) (mm_tl b)) (hsp : 0 ≤ mm_spot b ∧ mm_spot b ≤ mm_tl b) (hy1 : 0 ≤ y1 ∧ y1 < 65536) (hy2 : 0 ≤ y2 ∧ y2 < 65536) : zMet l yX5_isHere wsX5_isHere 1 25 0 0 D cI cB [.ref (a 0), .int (zI y1), .int (zI y2)] [zMod2 cI a b] (qX5_isHere cI a b y1 y2) := by
  refine zMet.of (cd := cX5_isHere) (maxL := 3) (ret := (some .boolean)) (by decide) rfl (Nat.le_of_ble_eq_true rfl) ?_
  intro p e s m args below meth c A ls hS hr hlk hnm hK hA hW hl
  have hS : CallFix p m c cX5_isHere 3 s args wsX5_isHere RX5 := hS
  have hx := hS.1
  have hb := hS.2.1
  have hown := hS.2.2.2.1
  have hts := hS.2.2.2.2
  have hl : lv_has ls 3 [(0, .ref (a 0)), (1, .int (zI y1)), (2, .int (zI y2))] := hl
  have hT1 := hT.1
  have hsg := sgM_rg hT hsp.1
  refine lv_aload_n hx hb dX5_isHere_0 rfl (lv_at hl 0 rfl) ?_
  refine va_get (D := D) (ci := 5) (v := .int (zI (mm_spot b))) (C := RX5) (T := TX5) (N := 18) hx hb hts iX5_isHere_X5 hown hK.1 hW.1 0 rfl rfl 16 (by decide) (hts _ mX5_isHere_1) (fun _ h9 => h9) rfl dX5_isHere_1 ?_
  refine lv_aload_n hx hb dX5_isHere_4 rfl (lv_at hl 0 rfl) ?_
  refine va_get (D := D) (ci := 5) (v := .int (zI (mm_tl b))) (C := RX5) (T := TX5) (N := 18) hx hb hts iX5_isHere_X5 hown hK.1 hW.1 0 rfl rfl 15 (by decide) (hts _ mX5_isHere_2) (fun _ h9 => h9) rfl dX5_isHere_5 ?_
  refine z_icmp_ge (tgt := 35) hx hb dX5_isHere_8 (by decide) (by omega) (fun cc_8 => ?_) (fun cc_8 => ?_)
  · refine lv_iconst (v := zI (0)) hx hb dX5_isHere_35 rfl ?_
    exact z_zret (v := 0) hx hb hr hlk hW dX5_isHere_36 (by omega) (by
        exact ⟨0, rfl, rfl, by omega⟩)
  · have hx9 := hT.2 (mm_spot b) (by omega) (by omega)
    refine lv_aload_n hx hb dX5_isHere_11 rfl (lv_at hl 0 rfl) ?_
    refine va_get (D := D) (ci := 5) (v := .ref (a 12)) (C := RX5) (T := TX5) (N := 18) hx hb hts iX5_isHere_X5 hown hK.1 hW.1 0 rfl rfl 14 (by decide) (hts _ mX5_isHere_3) (fun _ h9 => h9) rfl dX5_isHere_12 ?_
    refine lv_aload_n hx hb dX5_isHere_15 rfl (lv_at hl 0 rfl) ?_
    refine va_get (D := D) (ci := 5) (v := .int (zI (mm_spot b))) (C := RX5) (T := TX5) (N := 18) hx hb hts iX5_isHere_X5 hown hK.1 hW.1 0 rfl rfl 16 (by decide) (hts _ mX5_isHere_1) (fun _ h9 => h9) rfl dX5_isHere_16 ?_
    refine z_iald (n := 60) (g := mm_txt b) hx hb hK hW 12 rfl dX5_isHere_19 (by omega) ?_
    refine z_i2l hx hb dX5_isHere_20 (by omega) ?_
    refine lv_iload_n hx hb dX5_isHere_21 rfl (lv_at hl 1 rfl) ?_
    refine z_i2l hx hb dX5_isHere_22 (by omega) ?_
    refine lv_iload_n hx hb dX5_isHere_23 rfl (lv_at hl 2 rfl) ?_
    refine z_i2l hx hb dX5_isHere_24 (by omega) ?_
    refine z_callS (As := [.long (zL ((mm_txt b) (mm_spot b))), .long (zL y1), .long (zL y2)]) (rest := []) hS hK hA hW hl.1 [] [0] (kX5_in l D cI cB ((mm_txt b) (mm_spot b)) y1 y2 (by omega) (by omega) (by omega)) (va_cwS 3 hts gX5_isHere_X5_in rfl rfl rfl (by decide +kernel) ⟨Nat.le_of_ble_eq_true rfl, Nat.le_of_ble_eq_true rfl⟩) dX5_isHere_25 rfl rfl rfl rfl rfl (Nat.le_of_ble_eq_true rfl) ⟨Nat.le_of_ble_eq_true rfl, Nat.le_of_ble_eq_true rfl⟩ (fun v9 w9 H locs hq hW => ?_)
    obtain ⟨rr_25, rfl, rfl, hh_25⟩ := hq
    have hW : zW D A s.heap [zMod2 cI a b] H locs := hW
    refine W.eq (g2 := F0 m 28 ls [.int (zI rr_25)]) rfl ?_
    refine z_if_eq (tgt := 35) hx hb dX5_isHere_28 (by decide) (by omega) (fun cc_28 => ?_) (fun cc_28 => ?_)
    · refine lv_iconst (v := zI (0)) hx hb dX5_isHere_35 rfl ?_
      exact z_zret (v := 0) hx hb hr hlk hW dX5_isHere_36 (by omega) (by
          exact ⟨0, rfl, rfl, by omega⟩)
    · refine lv_iconst (v := zI (1)) hx hb dX5_isHere_31 rfl ?_
      refine lv_goto (tgt := 36) hx hb dX5_isHere_32 (by decide) ?_
      exact z_zret (v := 1) hx hb hr hlk hW dX5_isHere_36 (by omega) (by
          exact ⟨1, rfl, rfl, by omega⟩)

abbrev qX5_takes (cI : ClassId) (a : Nat → Nat) (b : zM2) (y1 : Int) : Option Value → List va_W → Prop := fun vq wq => ∃ (r : Int) (zspot : Int), vq = some (.int (zI r)) ∧ wq = [zMod2 cI a (mm_spot_ b zspot)] ∧ ((r = 1 ∧ mm_spot b < mm_tl b ∧ sgM (mm_txt b) (mm_tl b) (mm_spot b) = y1 ∧ zspot = mm_spot b + 1) ∨ (r = 0 ∧ sgM (mm_txt b) (mm_tl b) (mm_spot b) ≠ y1 ∧ zspot = mm_spot b))
set_option maxRecDepth 20000 in
theorem iX5_takes_X5 : ∀ w ∈ u_ws RX5 TX5 18, w ∈ wsX5_takes := by decide +kernel
set_option maxRecDepth 20000 in
theorem mX5_takes_1 : (.fieldLink RX5 125 "StoryPanelsModel" "spot" "I" : Cond) ∈ wsX5_takes := by decide +kernel
set_option maxHeartbeats 4000000 in
set_option maxRecDepth 100000 in
theorem kX5_takes (l : Launch) (D : va_G) (cI cB : ClassId) (a : Nat → Nat) (b : zM2) (y1 : Int) (hT : TXM (mm_txt b) (mm_tl b)) (hsp : 0 ≤ mm_spot b ∧ mm_spot b ≤ mm_tl b) (hy1 : 0 ≤ y1 ∧ y1 < 65536) : zMet l yX5_takes wsX5_takes 2 47 0 0 D cI cB [.ref (a 0), .int (zI y1)] [zMod2 cI a b] (qX5_takes cI a b y1) := by
  refine zMet.of (cd := cX5_takes) (maxL := 3) (ret := (some .boolean)) (by decide) rfl (Nat.le_of_ble_eq_true rfl) ?_
  intro p e s m args below meth c A ls hS hr hlk hnm hK hA hW hl
  have hS : CallFix p m c cX5_takes 3 s args wsX5_takes RX5 := hS
  have hx := hS.1
  have hb := hS.2.1
  have hown := hS.2.2.2.1
  have hts := hS.2.2.2.2
  have hl : lv_has ls 3 [(0, .ref (a 0)), (1, .int (zI y1))] := hl
  refine lv_aload_n hx hb dX5_takes_0 rfl (lv_at hl 0 rfl) ?_
  refine lv_iload_n hx hb dX5_takes_1 rfl (lv_at hl 1 rfl) ?_
  refine lv_iload_n hx hb dX5_takes_2 rfl (lv_at hl 1 rfl) ?_
  refine z_callV (r := (RX5, TX5, 18)) (As := [.int (zI y1), .int (zI y1)]) (rest := []) hS hK hA hW hl.1 [0] [] (kX5_isHere l D cI cB a b y1 y1 hT hsp hy1 hy1) (cwV 2 hts gX5_takes_X5_isHere rfl rfl rfl (by decide +kernel) ⟨Nat.le_of_ble_eq_true rfl, Nat.le_of_ble_eq_true rfl⟩) (rfl : vwCl[5]? = some (RX5, TX5, 18)) (q0 := 0) rfl dX5_takes_3 rfl rfl rfl rfl rfl (Nat.le_of_ble_eq_true rfl) ⟨Nat.le_of_ble_eq_true rfl, Nat.le_of_ble_eq_true rfl⟩ (fun v9 w9 H locs hq hW => ?_)
  obtain ⟨rr_3, rfl, rfl, hh_3⟩ := hq
  have hW : zW D A s.heap [zMod2 cI a b] H locs := hW
  refine W.eq (g2 := F0 m 6 ls [.int (zI rr_3)]) rfl ?_
  refine lv_istore_n (lv' := [(2, .int (zI rr_3)), (0, .ref (a 0)), (1, .int (zI y1))]) hx hb dX5_takes_6 rfl hl (by decide) rfl (fun ls hl => ?_)
  refine lv_aload_n hx hb dX5_takes_7 rfl (lv_at hl 1 rfl) ?_
  refine lv_dup hx hb dX5_takes_8 rfl ?_
  refine va_get (D := D) (ci := 5) (v := .int (zI (mm_spot b))) (C := RX5) (T := TX5) (N := 18) hx hb hts iX5_takes_X5 hown hK.1 hW.1 0 rfl rfl 16 (by decide) (hts _ mX5_takes_1) (fun _ h9 => h9) rfl dX5_takes_9 ?_
  refine lv_iload_n hx hb dX5_takes_12 rfl (lv_at hl 0 rfl) ?_
  refine z_if_eq (tgt := 20) hx hb dX5_takes_13 (by decide) (by omega) (fun cc_13 => ?_) (fun cc_13 => ?_)
  · refine lv_iconst (v := zI (0)) hx hb dX5_takes_20 rfl ?_
    refine z_iadd hx hb dX5_takes_21 ?_
    refine va_put (D := D) (ci := 5) (v := .int (zI ((mm_spot b) + 0))) (ty := .int) (C := RX5) (T := TX5) (N := 18) hx hb hts iX5_takes_X5 tyX5 tyX5_ok nmX5 hown hK.1 hW.1 hW.2.1 hW.2.2 0 rfl rfl 16 (by decide) (hts _ mX5_takes_1) (fun _ h9 => h9) rfl (by decide +kernel) rfl rfl (Nat.le_of_ble_eq_true rfl) dX5_takes_22 (fun H locs h1 h2 h3 => ?_)
    have hW : zW D A s.heap [zMod2 cI a (mm_spot_ b ((mm_spot b) + 0))] H locs := ⟨h1, h2, h3⟩
    refine lv_iload_n hx hb dX5_takes_25 rfl (lv_at hl 0 rfl) ?_
    exact z_zret (v := rr_3) hx hb hr hlk hW dX5_takes_26 (by omega) (by
        exact ⟨rr_3, (mm_spot b) + 0, rfl, rfl, by omega⟩)
  · refine lv_iconst (v := zI (1)) hx hb dX5_takes_16 rfl ?_
    refine lv_goto (tgt := 21) hx hb dX5_takes_17 (by decide) ?_
    refine z_iadd hx hb dX5_takes_21 ?_
    refine va_put (D := D) (ci := 5) (v := .int (zI ((mm_spot b) + 1))) (ty := .int) (C := RX5) (T := TX5) (N := 18) hx hb hts iX5_takes_X5 tyX5 tyX5_ok nmX5 hown hK.1 hW.1 hW.2.1 hW.2.2 0 rfl rfl 16 (by decide) (hts _ mX5_takes_1) (fun _ h9 => h9) rfl (by decide +kernel) rfl rfl (Nat.le_of_ble_eq_true rfl) dX5_takes_22 (fun H locs h1 h2 h3 => ?_)
    have hW : zW D A s.heap [zMod2 cI a (mm_spot_ b ((mm_spot b) + 1))] H locs := ⟨h1, h2, h3⟩
    refine lv_iload_n hx hb dX5_takes_25 rfl (lv_at hl 0 rfl) ?_
    exact z_zret (v := rr_3) hx hb hr hlk hW dX5_takes_26 (by omega) (by
        exact ⟨rr_3, (mm_spot b) + 1, rfl, rfl, by omega⟩)
