abbrev qX1_numberOfBreak (cI : ClassId) (a : Nat → Nat) (cn : zCS) (x y : Int) : Option Value → List va_W → Prop := fun vq wq => ∃ (r : Int), vq = some (.int (zI r)) ∧ wq = [zCont cI a (cn)] ∧ (r = ct_brk cn (x * 5 + y))
set_option maxRecDepth 20000 in
theorem iX1_numberOfBreak_X1 : ∀ w ∈ u_ws RX1 TX1 6, w ∈ wsX1_numberOfBreak := by decide +kernel
set_option maxRecDepth 20000 in
theorem mX1_numberOfBreak_1 : (.fieldLink RX1 25 "StoryPanels$Continuity" "breakNumbers" "[I" : Cond) ∈ wsX1_numberOfBreak := by decide +kernel
set_option maxRecDepth 20000 in
theorem mX1_numberOfBreak_2 : (.initialized RX4 : Cond) ∈ wsX1_numberOfBreak := by decide +kernel
set_option maxRecDepth 20000 in
theorem mX1_numberOfBreak_3 : (.static yX4_cell : Cond) ∈ wsX1_numberOfBreak := by decide +kernel
set_option maxHeartbeats 4000000 in
set_option maxRecDepth 100000 in
theorem kX1_numberOfBreak (l : Launch) (D : va_G) (cI cB : ClassId) (a : Nat → Nat) (cn : zCS) (x y : Int) (hx1 : 0 ≤ x ∧ x < 160) (hy1 : 0 ≤ y ∧ y < 5) : zMet l yX1_numberOfBreak wsX1_numberOfBreak 1 21 0 0 D cI cB [.ref (a 0), .int (zI x), .int (zI y)] [zCont cI a cn] (qX1_numberOfBreak cI a cn x y) := by
  refine zMet.of (cd := cX1_numberOfBreak) (maxL := 3) (ret := (some .int)) (by decide) rfl (Nat.le_of_ble_eq_true rfl) ?_
  intro p e s m args below meth c A ls hS hr hlk hnm hK hA hW hl
  have hS : CallFix p m c cX1_numberOfBreak 3 s args wsX1_numberOfBreak RX1 := hS
  have hx := hS.1
  have hb := hS.2.1
  have hown := hS.2.2.2.1
  have hts := hS.2.2.2.2
  have hl : lv_has ls 3 [(0, .ref (a 0)), (1, .int (zI x)), (2, .int (zI y))] := hl
  refine lv_aload_n hx hb dX1_numberOfBreak_0 rfl (lv_at hl 0 rfl) ?_
  refine va_get (D := D) (ci := 1) (v := .ref (a 4)) (C := RX1) (T := TX1) (N := 6) hx hb hts iX1_numberOfBreak_X1 hown hK.1 hW.1 0 rfl rfl 4 (by decide) (hts _ mX1_numberOfBreak_1) (fun _ h9 => h9) rfl dX1_numberOfBreak_1 ?_
  refine lv_iload_n hx hb dX1_numberOfBreak_4 rfl (lv_at hl 1 rfl) ?_
  refine lv_iconst (v := zI (5)) hx hb dX1_numberOfBreak_5 rfl ?_
  refine z_imul hx hb dX1_numberOfBreak_6 ?_
  refine lv_iload_n hx hb dX1_numberOfBreak_7 rfl (lv_at hl 2 rfl) ?_
  refine z_iadd hx hb dX1_numberOfBreak_8 ?_
  refine z_cell (n := 800) (g := ct_brk cn) (i := (x * 5) + y) (rest := []) hS hK hA hW hl.1 4 rfl (gX1_numberOfBreak_X4_cell_n82) nm_25 (mX1_numberOfBreak_2) (mX1_numberOfBreak_3) ⟨Nat.le_of_ble_eq_true rfl, Nat.le_of_ble_eq_true rfl⟩ dX1_numberOfBreak_9 (by omega) (Nat.le_of_ble_eq_true rfl) ⟨Nat.le_of_ble_eq_true rfl, Nat.le_of_ble_eq_true rfl⟩ (fun H locs hW => ?_)
  exact z_iret (v := (ct_brk cn) ((x * 5) + y)) hx hb hr hlk hW dX1_numberOfBreak_12 (by
      exact ⟨(ct_brk cn) ((x * 5) + y), rfl, rfl, by rfl⟩)

abbrev qX1_holderOf (cI : ClassId) (a : Nat → Nat) (cn : zCS) (x : Int) : Option Value → List va_W → Prop := fun vq wq => ∃ (r : Int), vq = some (.int (zI r)) ∧ wq = [zCont cI a (cn)] ∧ (r = ct_hold cn x)
set_option maxRecDepth 20000 in
theorem iX1_holderOf_X1 : ∀ w ∈ u_ws RX1 TX1 6, w ∈ wsX1_holderOf := by decide +kernel
set_option maxRecDepth 20000 in
theorem mX1_holderOf_1 : (.fieldLink RX1 9 "StoryPanels$Continuity" "holders" "[I" : Cond) ∈ wsX1_holderOf := by decide +kernel
set_option maxRecDepth 20000 in
theorem mX1_holderOf_2 : (.initialized RX4 : Cond) ∈ wsX1_holderOf := by decide +kernel
set_option maxRecDepth 20000 in
theorem mX1_holderOf_3 : (.static yX4_cell : Cond) ∈ wsX1_holderOf := by decide +kernel
set_option maxHeartbeats 4000000 in
set_option maxRecDepth 100000 in
theorem kX1_holderOf (l : Launch) (D : va_G) (cI cB : ClassId) (a : Nat → Nat) (cn : zCS) (x : Int) (hx1 : 0 ≤ x ∧ x < 10) : zMet l yX1_holderOf wsX1_holderOf 1 21 0 0 D cI cB [.ref (a 0), .int (zI x)] [zCont cI a cn] (qX1_holderOf cI a cn x) := by
  refine zMet.of (cd := cX1_holderOf) (maxL := 2) (ret := (some .int)) (by decide) rfl (Nat.le_of_ble_eq_true rfl) ?_
  intro p e s m args below meth c A ls hS hr hlk hnm hK hA hW hl
  have hS : CallFix p m c cX1_holderOf 2 s args wsX1_holderOf RX1 := hS
  have hx := hS.1
  have hb := hS.2.1
  have hown := hS.2.2.2.1
  have hts := hS.2.2.2.2
  have hl : lv_has ls 2 [(0, .ref (a 0)), (1, .int (zI x))] := hl
  refine lv_aload_n hx hb dX1_holderOf_0 rfl (lv_at hl 0 rfl) ?_
  refine va_get (D := D) (ci := 1) (v := .ref (a 1)) (C := RX1) (T := TX1) (N := 6) hx hb hts iX1_holderOf_X1 hown hK.1 hW.1 0 rfl rfl 0 (by decide) (hts _ mX1_holderOf_1) (fun _ h9 => h9) rfl dX1_holderOf_1 ?_
  refine lv_iload_n hx hb dX1_holderOf_4 rfl (lv_at hl 1 rfl) ?_
  refine z_cell (n := 10) (g := ct_hold cn) (i := x) (rest := []) hS hK hA hW hl.1 1 rfl (gX1_holderOf_X4_cell_n82) nm_25 (mX1_holderOf_2) (mX1_holderOf_3) ⟨Nat.le_of_ble_eq_true rfl, Nat.le_of_ble_eq_true rfl⟩ dX1_holderOf_5 (by omega) (Nat.le_of_ble_eq_true rfl) ⟨Nat.le_of_ble_eq_true rfl, Nat.le_of_ble_eq_true rfl⟩ (fun H locs hW => ?_)
  exact z_iret (v := (ct_hold cn) x) hx hb hr hlk hW dX1_holderOf_8 (by
      exact ⟨(ct_hold cn) x, rfl, rfl, by rfl⟩)

abbrev qX1_propsHeld (cI : ClassId) (a : Nat → Nat) (cn : zCS) : Option Value → List va_W → Prop := fun vq wq => ∃ (r : Int), vq = some (.int (zI r)) ∧ wq = [zCont cI a (cn)] ∧ (r = zcnt (fun x => decide (ct_hold cn x ≠ -1)) 10)
set_option maxRecDepth 20000 in
theorem iX1_propsHeld_X1 : ∀ w ∈ u_ws RX1 TX1 6, w ∈ wsX1_propsHeld := by decide +kernel
set_option maxRecDepth 20000 in
theorem mX1_propsHeld_1 : (.fieldLink RX1 9 "StoryPanels$Continuity" "holders" "[I" : Cond) ∈ wsX1_propsHeld := by decide +kernel
set_option maxRecDepth 20000 in
theorem mX1_propsHeld_2 : (.initialized RX4 : Cond) ∈ wsX1_propsHeld := by decide +kernel
set_option maxRecDepth 20000 in
theorem mX1_propsHeld_3 : (.static yX4_cell : Cond) ∈ wsX1_propsHeld := by decide +kernel
set_option maxHeartbeats 4000000 in
set_option maxRecDepth 100000 in
theorem kX1_propsHeld (l : Launch) (D : va_G) (cI cB : ClassId) (a : Nat → Nat) (cn : zCS) (hrg : ∀ x, 0 ≤ x → x < 10 → -1 ≤ ct_hold cn x ∧ ct_hold cn x < 4)  : zMet l yX1_propsHeld wsX1_propsHeld 1 21 0 0 D cI cB [.ref (a 0)] [zCont cI a cn] (qX1_propsHeld cI a cn) := by
  refine zMet.of (cd := cX1_propsHeld) (maxL := 3) (ret := (some .int)) (by decide) rfl (Nat.le_of_ble_eq_true rfl) ?_
  intro p e s m args below meth c A ls hS hr hlk hnm hK hA hW hl
  have hS : CallFix p m c cX1_propsHeld 3 s args wsX1_propsHeld RX1 := hS
  have hx := hS.1
  have hb := hS.2.1
  have hown := hS.2.2.2.1
  have hts := hS.2.2.2.2
  have hl : lv_has ls 3 [(0, .ref (a 0))] := hl
  refine lv_iconst (v := zI (0)) hx hb dX1_propsHeld_0 rfl ?_
  refine lv_istore_n (lv' := [(1, .int (zI 0)), (0, .ref (a 0))]) hx hb dX1_propsHeld_1 rfl hl (by decide) rfl (fun ls hl => ?_)
  refine lv_iconst (v := zI (0)) hx hb dX1_propsHeld_2 rfl ?_
  refine lv_istore_n (lv' := [(2, .int (zI 0)), (1, .int (zI 0)), (0, .ref (a 0))]) hx hb dX1_propsHeld_3 rfl hl (by decide) rfl (fun ls hl => ?_)
  have L4 : ∀ (fu : Nat) (fc : Int) (ki : Int), (0 ≤ ki ∧ ki ≤ 10) → (fc = zcnt (fun x => decide (ct_hold cn x ≠ -1)) ki) → (10 - ki) < (fu : Int) → ∀ (H : Heap) (locs : List Loc), zW D A s.heap [zCont cI a cn] H locs → ∀ (ls : Array Slot), lv_has ls 3 [(0, .ref (a 0)), (1, .int (zI fc)), (2, .int (zI ki))] → W p l e { frames := 1, cells := 0, slots := 0, locals := 21 } s m args below meth c H locs 0 0 (MQ below (zQ A D (qX1_propsHeld cI a cn)) args s 0 0 A) (F0 m 4 ls []) := by
    intro fu
    induction fu with
    | zero => intro fc ki hki hfc hm; exact absurd hm (by omega)
    | succ fu ih4 =>
      intro fc ki hki hfc hm H locs hW ls hl
      refine lv_iload_n hx hb dX1_propsHeld_4 rfl (lv_at hl 2 rfl) ?_
      refine lv_bipush (v := zI (10)) hx hb dX1_propsHeld_5 (by decide +kernel) ?_
      refine z_icmp_ge (tgt := 31) hx hb dX1_propsHeld_7 (by decide) (by omega) (fun cc_7 => ?_) (fun cc_7 => ?_)
      · refine lv_iload_n hx hb dX1_propsHeld_31 rfl (lv_at hl 1 rfl) ?_
        exact z_iret (v := fc) hx hb hr hlk hW dX1_propsHeld_32 (by
            exact ⟨fc, rfl, rfl, by rw [hfc, show ki = 10 by omega]⟩)
      · refine lv_aload_n hx hb dX1_propsHeld_10 rfl (lv_at hl 0 rfl) ?_
        refine va_get (D := D) (ci := 1) (v := .ref (a 1)) (C := RX1) (T := TX1) (N := 6) hx hb hts iX1_propsHeld_X1 hown hK.1 hW.1 0 rfl rfl 0 (by decide) (hts _ mX1_propsHeld_1) (fun _ h9 => h9) rfl dX1_propsHeld_11 ?_
        refine lv_iload_n hx hb dX1_propsHeld_14 rfl (lv_at hl 2 rfl) ?_
        refine z_cell (n := 10) (g := ct_hold cn) (i := ki) (rest := []) hS hK hA hW hl.1 1 rfl (gX1_propsHeld_X4_cell_n82) nm_25 (mX1_propsHeld_2) (mX1_propsHeld_3) ⟨Nat.le_of_ble_eq_true rfl, Nat.le_of_ble_eq_true rfl⟩ dX1_propsHeld_15 (by omega) (Nat.le_of_ble_eq_true rfl) ⟨Nat.le_of_ble_eq_true rfl, Nat.le_of_ble_eq_true rfl⟩ (fun H locs hW => ?_)
        have qq_15 := hrg ki (by omega) (by omega)
        refine lv_iconst (v := zI (-1)) hx hb dX1_propsHeld_18 rfl ?_
        refine z_icmp_eq (tgt := 25) hx hb dX1_propsHeld_19 (by decide) (by omega) (fun cc_19 => ?_) (fun cc_19 => ?_)
        · refine z_iinc (x := ki) (lv' := [(2, .int (zI (ki + 1))), (0, .ref (a 0)), (1, .int (zI fc))]) hx hb dX1_propsHeld_25 hl (k := 2) rfl (by decide) rfl (fun ls hl => ?_)
          refine lv_goto (tgt := 4) hx hb dX1_propsHeld_28 (by decide) ?_
          exact ih4 fc (ki + 1) (by omega) (by rw [zcnt_s _ hki.1, hfc]; simp [cc_19]) (by omega) _ _ hW ls (lv_sub hl [1, 2, 0] rfl)
        · refine z_iinc (x := fc) (lv' := [(1, .int (zI (fc + 1))), (0, .ref (a 0)), (2, .int (zI ki))]) hx hb dX1_propsHeld_22 hl (k := 1) rfl (by decide) rfl (fun ls hl => ?_)
          refine z_iinc (x := ki) (lv' := [(2, .int (zI (ki + 1))), (1, .int (zI (fc + 1))), (0, .ref (a 0))]) hx hb dX1_propsHeld_25 hl (k := 2) rfl (by decide) rfl (fun ls hl => ?_)
          refine lv_goto (tgt := 4) hx hb dX1_propsHeld_28 (by decide) ?_
          exact ih4 (fc + 1) (ki + 1) (by omega) (by rw [zcnt_s _ hki.1, hfc]; simp [cc_19]) (by omega) _ _ hW ls (lv_sub hl [2, 1, 0] rfl)
  exact L4 (((10 - 0) : Int).toNat + 1) 0 0 (by omega) (by rfl) (by omega) _ _ hW ls (lv_sub hl [2, 1, 0] rfl)

abbrev qX1_addBreak (cI : ClassId) (a : Nat → Nat) (cn : zCS) (x1 x2 x3 x4 x5 : Int) : Option Value → List va_W → Prop := fun vq wq => vq = none ∧ wq = [zCont cI a (addBk cn (x1, x2, x3, x4, x5))] ∧ (True)
set_option maxRecDepth 20000 in
theorem iX1_addBreak_X1 : ∀ w ∈ u_ws RX1 TX1 6, w ∈ wsX1_addBreak := by decide +kernel
set_option maxRecDepth 20000 in
theorem mX1_addBreak_1 : (.fieldLink RX1 28 "StoryPanels$Continuity" "breaks" "I" : Cond) ∈ wsX1_addBreak := by decide +kernel
set_option maxRecDepth 20000 in
theorem mX1_addBreak_2 : (.fieldLink RX1 25 "StoryPanels$Continuity" "breakNumbers" "[I" : Cond) ∈ wsX1_addBreak := by decide +kernel
set_option maxHeartbeats 4000000 in
set_option maxRecDepth 100000 in
theorem kX1_addBreak (l : Launch) (D : va_G) (cI cB : ClassId) (a : Nat → Nat) (cn : zCS) (x1 x2 x3 x4 x5 : Int) (hx1 : 0 ≤ ct_nb cn ∧ ct_nb cn < 160) : zMet l yX1_addBreak wsX1_addBreak 0 0 0 0 D cI cB [.ref (a 0), .int (zI x1), .int (zI x2), .int (zI x3), .int (zI x4), .int (zI x5)] [zCont cI a cn] (qX1_addBreak cI a cn x1 x2 x3 x4 x5) := by
  refine zMet.of (cd := cX1_addBreak) (maxL := 7) (ret := none) (by decide) rfl (Nat.le_of_ble_eq_true rfl) ?_
  intro p e s m args below meth c A ls hS hr hlk hnm hK hA hW hl
  have hS : CallFix p m c cX1_addBreak 7 s args wsX1_addBreak RX1 := hS
  have hx := hS.1
  have hb := hS.2.1
  have hown := hS.2.2.2.1
  have hts := hS.2.2.2.2
  have hl : lv_has ls 7 [(0, .ref (a 0)), (1, .int (zI x1)), (2, .int (zI x2)), (3, .int (zI x3)), (4, .int (zI x4)), (5, .int (zI x5))] := hl
  refine lv_aload_n hx hb dX1_addBreak_0 rfl (lv_at hl 0 rfl) ?_
  refine va_get (D := D) (ci := 1) (v := .int (zI (ct_nb cn))) (C := RX1) (T := TX1) (N := 6) hx hb hts iX1_addBreak_X1 hown hK.1 hW.1 0 rfl rfl 5 (by decide) (hts _ mX1_addBreak_1) (fun _ h9 => h9) rfl dX1_addBreak_1 ?_
  refine lv_iconst (v := zI (5)) hx hb dX1_addBreak_4 rfl ?_
  refine z_imul hx hb dX1_addBreak_5 ?_
  refine lv_istore (lv' := [(6, .int (zI ((ct_nb cn) * 5))), (0, .ref (a 0)), (1, .int (zI x1)), (2, .int (zI x2)), (3, .int (zI x3)), (4, .int (zI x4)), (5, .int (zI x5))]) hx hb dX1_addBreak_6 hl (by decide) rfl (fun ls hl => ?_)
  refine lv_iload hx hb dX1_addBreak_8 (lv_at hl 0 rfl) ?_
  refine z_if_lt (tgt := 25) hx hb dX1_addBreak_10 (by decide) (by omega) (fun cc_10 => ?_) (fun cc_10 => ?_)
  · exact absurd cc_10 (by omega)
  · refine lv_iload hx hb dX1_addBreak_13 (lv_at hl 0 rfl) ?_
    refine lv_iconst (v := zI (5)) hx hb dX1_addBreak_15 rfl ?_
    refine z_iadd hx hb dX1_addBreak_16 ?_
    refine lv_aload_n hx hb dX1_addBreak_17 rfl (lv_at hl 1 rfl) ?_
    refine va_get (D := D) (ci := 1) (v := .ref (a 4)) (C := RX1) (T := TX1) (N := 6) hx hb hts iX1_addBreak_X1 hown hK.1 hW.1 0 rfl rfl 4 (by decide) (hts _ mX1_addBreak_2) (fun _ h9 => h9) rfl dX1_addBreak_18 ?_
    refine z_alen (n := 800) (g := ct_brk cn) hx hb hK hW 4 rfl dX1_addBreak_21 ?_
    refine z_icmp_le (tgt := 26) hx hb dX1_addBreak_22 (by decide) (by omega) (fun cc_22 => ?_) (fun cc_22 => ?_)
    · refine lv_aload_n hx hb dX1_addBreak_26 rfl (lv_at hl 1 rfl) ?_
      refine va_get (D := D) (ci := 1) (v := .ref (a 4)) (C := RX1) (T := TX1) (N := 6) hx hb hts iX1_addBreak_X1 hown hK.1 hW.1 0 rfl rfl 4 (by decide) (hts _ mX1_addBreak_2) (fun _ h9 => h9) rfl dX1_addBreak_27 ?_
      refine lv_iload hx hb dX1_addBreak_30 (lv_at hl 0 rfl) ?_
      refine lv_iconst (v := zI (0)) hx hb dX1_addBreak_32 rfl ?_
      refine z_iadd hx hb dX1_addBreak_33 ?_
      refine lv_iload_n hx hb dX1_addBreak_34 rfl (lv_at hl 2 rfl) ?_
      refine z_iast (n := 800) (g := ct_brk cn) (bs1 := [zCont cI a (ct_brk_ cn (zU (ct_brk cn) (((ct_nb cn) * 5) + 0) x1))]) hx hb hK hW 4 rfl dX1_addBreak_35 (by omega) rfl (fun H locs hW => ?_)
      refine lv_aload_n hx hb dX1_addBreak_36 rfl (lv_at hl 1 rfl) ?_
      refine va_get (D := D) (ci := 1) (v := .ref (a 4)) (C := RX1) (T := TX1) (N := 6) hx hb hts iX1_addBreak_X1 hown hK.1 hW.1 0 rfl rfl 4 (by decide) (hts _ mX1_addBreak_2) (fun _ h9 => h9) rfl dX1_addBreak_37 ?_
      refine lv_iload hx hb dX1_addBreak_40 (lv_at hl 0 rfl) ?_
      refine lv_iconst (v := zI (1)) hx hb dX1_addBreak_42 rfl ?_
      refine z_iadd hx hb dX1_addBreak_43 ?_
      refine lv_iload_n hx hb dX1_addBreak_44 rfl (lv_at hl 3 rfl) ?_
      refine z_iast (n := 800) (g := zU (ct_brk cn) (((ct_nb cn) * 5) + 0) x1) (bs1 := [zCont cI a (ct_brk_ cn (zU (zU (ct_brk cn) (((ct_nb cn) * 5) + 0) x1) (((ct_nb cn) * 5) + 1) x2))]) hx hb hK hW 4 rfl dX1_addBreak_45 (by omega) rfl (fun H locs hW => ?_)
      refine lv_aload_n hx hb dX1_addBreak_46 rfl (lv_at hl 1 rfl) ?_
      refine va_get (D := D) (ci := 1) (v := .ref (a 4)) (C := RX1) (T := TX1) (N := 6) hx hb hts iX1_addBreak_X1 hown hK.1 hW.1 0 rfl rfl 4 (by decide) (hts _ mX1_addBreak_2) (fun _ h9 => h9) rfl dX1_addBreak_47 ?_
      refine lv_iload hx hb dX1_addBreak_50 (lv_at hl 0 rfl) ?_
      refine lv_iconst (v := zI (2)) hx hb dX1_addBreak_52 rfl ?_
      refine z_iadd hx hb dX1_addBreak_53 ?_
      refine lv_iload_n hx hb dX1_addBreak_54 rfl (lv_at hl 4 rfl) ?_
      refine z_iast (n := 800) (g := zU (zU (ct_brk cn) (((ct_nb cn) * 5) + 0) x1) (((ct_nb cn) * 5) + 1) x2) (bs1 := [zCont cI a (ct_brk_ cn (zU (zU (zU (ct_brk cn) (((ct_nb cn) * 5) + 0) x1) (((ct_nb cn) * 5) + 1) x2) (((ct_nb cn) * 5) + 2) x3))]) hx hb hK hW 4 rfl dX1_addBreak_55 (by omega) rfl (fun H locs hW => ?_)
      refine lv_aload_n hx hb dX1_addBreak_56 rfl (lv_at hl 1 rfl) ?_
      refine va_get (D := D) (ci := 1) (v := .ref (a 4)) (C := RX1) (T := TX1) (N := 6) hx hb hts iX1_addBreak_X1 hown hK.1 hW.1 0 rfl rfl 4 (by decide) (hts _ mX1_addBreak_2) (fun _ h9 => h9) rfl dX1_addBreak_57 ?_
      refine lv_iload hx hb dX1_addBreak_60 (lv_at hl 0 rfl) ?_
      refine lv_iconst (v := zI (3)) hx hb dX1_addBreak_62 rfl ?_
      refine z_iadd hx hb dX1_addBreak_63 ?_
      refine lv_iload hx hb dX1_addBreak_64 (lv_at hl 5 rfl) ?_
      refine z_iast (n := 800) (g := zU (zU (zU (ct_brk cn) (((ct_nb cn) * 5) + 0) x1) (((ct_nb cn) * 5) + 1) x2) (((ct_nb cn) * 5) + 2) x3) (bs1 := [zCont cI a (ct_brk_ cn (zU (zU (zU (zU (ct_brk cn) (((ct_nb cn) * 5) + 0) x1) (((ct_nb cn) * 5) + 1) x2) (((ct_nb cn) * 5) + 2) x3) (((ct_nb cn) * 5) + 3) x4))]) hx hb hK hW 4 rfl dX1_addBreak_66 (by omega) rfl (fun H locs hW => ?_)
      refine lv_aload_n hx hb dX1_addBreak_67 rfl (lv_at hl 1 rfl) ?_
      refine va_get (D := D) (ci := 1) (v := .ref (a 4)) (C := RX1) (T := TX1) (N := 6) hx hb hts iX1_addBreak_X1 hown hK.1 hW.1 0 rfl rfl 4 (by decide) (hts _ mX1_addBreak_2) (fun _ h9 => h9) rfl dX1_addBreak_68 ?_
      refine lv_iload hx hb dX1_addBreak_71 (lv_at hl 0 rfl) ?_
      refine lv_iconst (v := zI (4)) hx hb dX1_addBreak_73 rfl ?_
      refine z_iadd hx hb dX1_addBreak_74 ?_
      refine lv_iload hx hb dX1_addBreak_75 (lv_at hl 6 rfl) ?_
      refine z_iast (n := 800) (g := zU (zU (zU (zU (ct_brk cn) (((ct_nb cn) * 5) + 0) x1) (((ct_nb cn) * 5) + 1) x2) (((ct_nb cn) * 5) + 2) x3) (((ct_nb cn) * 5) + 3) x4) (bs1 := [zCont cI a (ct_brk_ cn (zU (zU (zU (zU (zU (ct_brk cn) (((ct_nb cn) * 5) + 0) x1) (((ct_nb cn) * 5) + 1) x2) (((ct_nb cn) * 5) + 2) x3) (((ct_nb cn) * 5) + 3) x4) (((ct_nb cn) * 5) + 4) x5))]) hx hb hK hW 4 rfl dX1_addBreak_77 (by omega) rfl (fun H locs hW => ?_)
      refine lv_aload_n hx hb dX1_addBreak_78 rfl (lv_at hl 1 rfl) ?_
      refine lv_dup hx hb dX1_addBreak_79 rfl ?_
      refine va_get (D := D) (ci := 1) (v := .int (zI (ct_nb cn))) (C := RX1) (T := TX1) (N := 6) hx hb hts iX1_addBreak_X1 hown hK.1 hW.1 0 rfl rfl 5 (by decide) (hts _ mX1_addBreak_1) (fun _ h9 => h9) rfl dX1_addBreak_80 ?_
      refine lv_iconst (v := zI (1)) hx hb dX1_addBreak_83 rfl ?_
      refine z_iadd hx hb dX1_addBreak_84 ?_
      refine va_put (D := D) (ci := 1) (v := .int (zI ((ct_nb cn) + 1))) (ty := .int) (C := RX1) (T := TX1) (N := 6) hx hb hts iX1_addBreak_X1 tyX1 tyX1_ok nmX1 hown hK.1 hW.1 hW.2.1 hW.2.2 0 rfl rfl 5 (by decide) (hts _ mX1_addBreak_1) (fun _ h9 => h9) rfl (by decide +kernel) rfl rfl (Nat.le_of_ble_eq_true rfl) dX1_addBreak_85 (fun H locs h1 h2 h3 => ?_)
      have hW : zW D A s.heap [zCont cI a (ct_nb_ (ct_brk_ cn (zU (zU (zU (zU (zU (ct_brk cn) (((ct_nb cn) * 5) + 0) x1) (((ct_nb cn) * 5) + 1) x2) (((ct_nb cn) * 5) + 2) x3) (((ct_nb cn) * 5) + 3) x4) (((ct_nb cn) * 5) + 4) x5)) ((ct_nb cn) + 1))] H locs := ⟨h1, h2, h3⟩
      exact z_vret hx hb hr hlk hW dX1_addBreak_88 (by
          exact ⟨rfl, rfl, by trivial⟩)
    · exact absurd cc_22 (by omega)

abbrev qX1_passProp (cI : ClassId) (a : Nat → Nat) (cn : zCS) (g : zGs) (num en cod : Int) (v : zEv) : Option Value → List va_W → Prop := fun vq wq => ∃ (cz : zCS), vq = none ∧ wq = [zCont cI a (cz)] ∧ (RC cz (evStep num en v g) ∧ ct_seen cz = ct_seen cn ∧ ct_drn cz = zU (ct_drn cn) v.1 (zor (ct_drn cn v.1) (zshl 1 v.2.2)))
set_option maxRecDepth 20000 in
theorem mX1_passProp_0 : (.initialized RX4 : Cond) ∈ wsX1_passProp := by decide +kernel
set_option maxRecDepth 20000 in
theorem mX1_passProp_1 : (.static yX4_characterIn : Cond) ∈ wsX1_passProp := by decide +kernel
set_option maxRecDepth 20000 in
theorem mX1_passProp_2 : (.static yX4_kindIn : Cond) ∈ wsX1_passProp := by decide +kernel
set_option maxRecDepth 20000 in
theorem mX1_passProp_3 : (.static yX4_propIn : Cond) ∈ wsX1_passProp := by decide +kernel
set_option maxRecDepth 20000 in
theorem iX1_passProp_X1 : ∀ w ∈ u_ws RX1 TX1 6, w ∈ wsX1_passProp := by decide +kernel
set_option maxRecDepth 20000 in
theorem mX1_passProp_5 : (.fieldLink RX1 9 "StoryPanels$Continuity" "holders" "[I" : Cond) ∈ wsX1_passProp := by decide +kernel
set_option maxRecDepth 20000 in
theorem mX1_passProp_6 : (.static yX4_cell : Cond) ∈ wsX1_passProp := by decide +kernel
set_option maxRecDepth 20000 in
theorem mX1_passProp_7 : (.static yX4_setCell : Cond) ∈ wsX1_passProp := by decide +kernel
set_option maxRecDepth 20000 in
theorem mX1_passProp_8 : (.fieldLink RX1 18 "StoryPanels$Continuity" "drawnProps" "[I" : Cond) ∈ wsX1_passProp := by decide +kernel
set_option maxHeartbeats 4000000 in
set_option maxRecDepth 100000 in
theorem kX1_passProp (l : Launch) (D : va_G) (cI cB : ClassId) (a : Nat → Nat) (cn : zCS) (g : zGs) (num en cod : Int) (v : zEv) (hRC : RC cn g) (hgk : gOK g) (hvk : evOK v) (hlen : g.2.2.length < 160) (hcode : cod = evCode v) (hv2 : v.2.1 ≤ 2) (hdrn : ∀ w, 0 ≤ w → w < 4 → 0 ≤ ct_drn cn w ∧ ct_drn cn w < 1024) : zMet l yX1_passProp wsX1_passProp 1 26 0 0 D cI cB [.ref (a 0), .int (zI num), .int (zI en), .int (zI cod)] [zCont cI a cn] (qX1_passProp cI a cn g num en cod v) := by
  refine zMet.of (cd := cX1_passProp) (maxL := 8) (ret := none) (by decide) rfl (Nat.le_of_ble_eq_true rfl) ?_
  intro p e s m args below meth c A ls hS hr hlk hnm hK hA hW hl
  have hS : CallFix p m c cX1_passProp 8 s args wsX1_passProp RX1 := hS
  have hx := hS.1
  have hb := hS.2.1
  have hown := hS.2.2.2.1
  have hts := hS.2.2.2.2
  have hl : lv_has ls 8 [(0, .ref (a 0)), (1, .int (zI num)), (2, .int (zI en)), (3, .int (zI cod))] := hl
  have hcd : cod = v.1 * 100 + v.2.1 * 10 + v.2.2 := by rw [hcode, evCode_p hv2]
  have hev : (0 ≤ v.1 ∧ v.1 < 4) ∧ (0 ≤ v.2.1 ∧ v.2.1 ≤ 5) ∧ 0 ≤ v.2.2 ∧ v.2.2 < 10 := by unfold evOK at hvk; omega
  have hnb := hRC.2.2.1
  have hho := hgk.1 v.2.2
  have hdr : 0 ≤ ct_drn cn v.1 ∧ ct_drn cn v.1 < 1024 := hdrn v.1 hev.1.1 hev.1.2
  have hsh := zshl1_lt (w := v.2.2) (by omega)
  refine lv_iload_n hx hb dX1_passProp_0 rfl (lv_at hl 3 rfl) ?_
  refine z_callSN (As := [.int (zI cod)]) (rest := []) hS hK hA hW hl.1 [] [0] (kX4_characterIn l D cI cB cod (by omega)) ⟨va_cnB 1 hts gX1_passProp_X4_characterIn_n58 rfl rfl rfl (hK.2 _ nm_21) (hts _ mX1_passProp_0) (by decide +kernel) ⟨Nat.le_of_ble_eq_true rfl, Nat.le_of_ble_eq_true rfl⟩, hts _ mX1_passProp_1, trivial⟩ dX1_passProp_1 rfl rfl rfl rfl rfl (Nat.le_of_ble_eq_true rfl) ⟨Nat.le_of_ble_eq_true rfl, Nat.le_of_ble_eq_true rfl⟩ (fun v9 w9 H locs hq hW => ?_)
  obtain ⟨rr_1, rfl, rfl, hh_1⟩ := hq
  subst rr_1
  have hW : zW D A s.heap [zCont cI a cn] H locs := hW
  refine W.eq (g2 := F0 m 4 ls [.int (zI (cod / 100))]) rfl ?_
  rw [show (cod / 100) = v.1 by omega]
  refine lv_istore (lv' := [(4, .int (zI v.1)), (0, .ref (a 0)), (1, .int (zI num)), (2, .int (zI en)), (3, .int (zI cod))]) hx hb dX1_passProp_4 hl (by decide) rfl (fun ls hl => ?_)
  refine lv_iload_n hx hb dX1_passProp_6 rfl (lv_at hl 4 rfl) ?_
  refine z_callSN (As := [.int (zI cod)]) (rest := []) hS hK hA hW hl.1 [] [0] (kX4_kindIn l D cI cB cod (by omega)) ⟨va_cnB 1 hts gX1_passProp_X4_kindIn_n61 rfl rfl rfl (hK.2 _ nm_22) (hts _ mX1_passProp_0) (by decide +kernel) ⟨Nat.le_of_ble_eq_true rfl, Nat.le_of_ble_eq_true rfl⟩, hts _ mX1_passProp_2, trivial⟩ dX1_passProp_7 rfl rfl rfl rfl rfl (Nat.le_of_ble_eq_true rfl) ⟨Nat.le_of_ble_eq_true rfl, Nat.le_of_ble_eq_true rfl⟩ (fun v9 w9 H locs hq hW => ?_)
  obtain ⟨rr_7, rfl, rfl, hh_7⟩ := hq
  subst rr_7
  have hW : zW D A s.heap [zCont cI a cn] H locs := hW
  refine W.eq (g2 := F0 m 10 ls [.int (zI (cod / 10 % 10))]) rfl ?_
  rw [show (cod / 10 % 10) = v.2.1 by omega]
  refine lv_istore (lv' := [(5, .int (zI v.2.1)), (4, .int (zI v.1)), (0, .ref (a 0)), (1, .int (zI num)), (2, .int (zI en)), (3, .int (zI cod))]) hx hb dX1_passProp_10 hl (by decide) rfl (fun ls hl => ?_)
  refine lv_iload_n hx hb dX1_passProp_12 rfl (lv_at hl 5 rfl) ?_
  refine z_callSN (As := [.int (zI cod)]) (rest := []) hS hK hA hW hl.1 [] [0] (kX4_propIn l D cI cB cod (by omega)) ⟨va_cnB 1 hts gX1_passProp_X4_propIn_n79 rfl rfl rfl (hK.2 _ nm_24) (hts _ mX1_passProp_0) (by decide +kernel) ⟨Nat.le_of_ble_eq_true rfl, Nat.le_of_ble_eq_true rfl⟩, hts _ mX1_passProp_3, trivial⟩ dX1_passProp_13 rfl rfl rfl rfl rfl (Nat.le_of_ble_eq_true rfl) ⟨Nat.le_of_ble_eq_true rfl, Nat.le_of_ble_eq_true rfl⟩ (fun v9 w9 H locs hq hW => ?_)
  obtain ⟨rr_13, rfl, rfl, hh_13⟩ := hq
  subst rr_13
  have hW : zW D A s.heap [zCont cI a cn] H locs := hW
  refine W.eq (g2 := F0 m 16 ls [.int (zI (cod % 10))]) rfl ?_
  rw [show (cod % 10) = v.2.2 by omega]
  refine lv_istore (lv' := [(6, .int (zI v.2.2)), (5, .int (zI v.2.1)), (4, .int (zI v.1)), (0, .ref (a 0)), (1, .int (zI num)), (2, .int (zI en)), (3, .int (zI cod))]) hx hb dX1_passProp_16 hl (by decide) rfl (fun ls hl => ?_)
  refine lv_aload_n hx hb dX1_passProp_18 rfl (lv_at hl 3 rfl) ?_
  refine va_get (D := D) (ci := 1) (v := .ref (a 1)) (C := RX1) (T := TX1) (N := 6) hx hb hts iX1_passProp_X1 hown hK.1 hW.1 0 rfl rfl 0 (by decide) (hts _ mX1_passProp_5) (fun _ h9 => h9) rfl dX1_passProp_19 ?_
  refine lv_iload hx hb dX1_passProp_22 (lv_at hl 0 rfl) ?_
  refine z_cell (n := 10) (g := ct_hold cn) (i := v.2.2) (rest := []) hS hK hA hW hl.1 1 rfl (gX1_passProp_X4_cell_n82) nm_25 (mX1_passProp_0) (mX1_passProp_6) ⟨Nat.le_of_ble_eq_true rfl, Nat.le_of_ble_eq_true rfl⟩ dX1_passProp_24 (by omega) (Nat.le_of_ble_eq_true rfl) ⟨Nat.le_of_ble_eq_true rfl, Nat.le_of_ble_eq_true rfl⟩ (fun H locs hW => ?_)
  rw [show ((ct_hold cn) v.2.2) = (g.1 v.2.2) by exact hRC.1 _ (by omega) (by omega)]
  refine lv_istore (lv' := [(7, .int (zI (g.1 v.2.2))), (6, .int (zI v.2.2)), (5, .int (zI v.2.1)), (4, .int (zI v.1)), (0, .ref (a 0)), (1, .int (zI num)), (2, .int (zI en)), (3, .int (zI cod))]) hx hb dX1_passProp_27 hl (by decide) rfl (fun ls hl => ?_)
  refine lv_iload hx hb dX1_passProp_29 (lv_at hl 2 rfl) ?_
  refine z_if_ne (tgt := 51) hx hb dX1_passProp_31 (by decide) (by omega) (fun cc_31 => ?_) (fun cc_31 => ?_)
  · refine lv_iload hx hb dX1_passProp_51 (lv_at hl 2 rfl) ?_
    refine lv_iconst (v := zI (1)) hx hb dX1_passProp_53 rfl ?_
    refine z_icmp_ne (tgt := 75) hx hb dX1_passProp_54 (by decide) (by omega) (fun cc_54 => ?_) (fun cc_54 => ?_)
    · refine lv_iload hx hb dX1_passProp_75 (lv_at hl 2 rfl) ?_
      refine lv_iconst (v := zI (2)) hx hb dX1_passProp_77 rfl ?_
      refine z_icmp_ne (tgt := 99) hx hb dX1_passProp_78 (by decide) (by omega) (fun cc_78 => ?_) (fun cc_78 => ?_)
      · exfalso; omega
      · refine lv_iload hx hb dX1_passProp_81 (lv_at hl 0 rfl) ?_
        refine lv_iload hx hb dX1_passProp_83 (lv_at hl 3 rfl) ?_
        refine z_icmp_eq (tgt := 99) hx hb dX1_passProp_85 (by decide) (by omega) (fun cc_85 => ?_) (fun cc_85 => ?_)
        · refine lv_aload_n hx hb dX1_passProp_99 rfl (lv_at hl 4 rfl) ?_
          refine va_get (D := D) (ci := 1) (v := .ref (a 1)) (C := RX1) (T := TX1) (N := 6) hx hb hts iX1_passProp_X1 hown hK.1 hW.1 0 rfl rfl 0 (by decide) (hts _ mX1_passProp_5) (fun _ h9 => h9) rfl dX1_passProp_100 ?_
          refine lv_iload hx hb dX1_passProp_103 (lv_at hl 1 rfl) ?_
          refine lv_iload hx hb dX1_passProp_105 (lv_at hl 2 rfl) ?_
          refine lv_iconst (v := zI (1)) hx hb dX1_passProp_107 rfl ?_
          refine z_icmp_ne (tgt := 115) hx hb dX1_passProp_108 (by decide) (by omega) (fun cc_108 => ?_) (fun cc_108 => ?_)
          · refine lv_iload hx hb dX1_passProp_115 (lv_at hl 3 rfl) ?_
            refine z_setCell (n := 10) (g := ct_hold cn) (i := v.2.2) (v := v.1) (rest := []) (bs1 := [zCont cI a (ct_hold_ cn (zU (ct_hold cn) v.2.2 v.1))]) hS hK hA hW hl.1 1 rfl (gX1_passProp_X4_setCell_n90) nm_26 (mX1_passProp_0) (mX1_passProp_7) ⟨Nat.le_of_ble_eq_true rfl, Nat.le_of_ble_eq_true rfl⟩ dX1_passProp_117 (by omega) rfl (Nat.le_of_ble_eq_true rfl) ⟨Nat.le_of_ble_eq_true rfl, Nat.le_of_ble_eq_true rfl⟩ (fun H locs hW => ?_)
            refine lv_aload_n hx hb dX1_passProp_120 rfl (lv_at hl 4 rfl) ?_
            refine va_get (D := D) (ci := 1) (v := .ref (a 3)) (C := RX1) (T := TX1) (N := 6) hx hb hts iX1_passProp_X1 hown hK.1 hW.1 0 rfl rfl 2 (by decide) (hts _ mX1_passProp_8) (fun _ h9 => h9) rfl dX1_passProp_121 ?_
            refine lv_iload hx hb dX1_passProp_124 (lv_at hl 3 rfl) ?_
            refine lv_aload_n hx hb dX1_passProp_126 rfl (lv_at hl 4 rfl) ?_
            refine va_get (D := D) (ci := 1) (v := .ref (a 3)) (C := RX1) (T := TX1) (N := 6) hx hb hts iX1_passProp_X1 hown hK.1 hW.1 0 rfl rfl 2 (by decide) (hts _ mX1_passProp_8) (fun _ h9 => h9) rfl dX1_passProp_127 ?_
            refine lv_iload hx hb dX1_passProp_130 (lv_at hl 3 rfl) ?_
            refine z_cell (n := 4) (g := ct_drn cn) (i := v.1) (rest := [.int (zI v.1), .ref (a 3)]) hS hK hA hW hl.1 3 rfl (gX1_passProp_X4_cell_n82) nm_25 (mX1_passProp_0) (mX1_passProp_6) ⟨Nat.le_of_ble_eq_true rfl, Nat.le_of_ble_eq_true rfl⟩ dX1_passProp_132 (by omega) (Nat.le_of_ble_eq_true rfl) ⟨Nat.le_of_ble_eq_true rfl, Nat.le_of_ble_eq_true rfl⟩ (fun H locs hW => ?_)
            rw [show ((ct_drn cn) v.1) = (ct_drn cn v.1) by rfl]
            refine lv_iconst (v := zI (1)) hx hb dX1_passProp_135 rfl ?_
            refine lv_iload hx hb dX1_passProp_136 (lv_at hl 1 rfl) ?_
            refine z_ishl hx hb dX1_passProp_138 (by (refine ⟨by omega, ?_⟩; omega)) ?_
            refine z_ior hx hb dX1_passProp_139 (by omega) ?_
            refine z_setCell (n := 4) (g := ct_drn cn) (i := v.1) (v := zor (ct_drn cn v.1) (zshl 1 v.2.2)) (rest := []) (bs1 := [zCont cI a (ct_drn_ (ct_hold_ cn (zU (ct_hold cn) v.2.2 v.1)) (zU (ct_drn cn) v.1 (zor (ct_drn cn v.1) (zshl 1 v.2.2))))]) hS hK hA hW hl.1 3 rfl (gX1_passProp_X4_setCell_n90) nm_26 (mX1_passProp_0) (mX1_passProp_7) ⟨Nat.le_of_ble_eq_true rfl, Nat.le_of_ble_eq_true rfl⟩ dX1_passProp_140 (by omega) rfl (Nat.le_of_ble_eq_true rfl) ⟨Nat.le_of_ble_eq_true rfl, Nat.le_of_ble_eq_true rfl⟩ (fun H locs hW => ?_)
            exact z_vret hx hb hr hlk hW dX1_passProp_143 (by
                exact ⟨(ct_drn_ (ct_hold_ cn (zU (ct_hold cn) v.2.2 v.1)) (zU (ct_drn cn) v.1 (zor (ct_drn cn v.1) (zshl 1 v.2.2)))), rfl, rfl, by refine ⟨?_, rfl, rfl⟩; rw [evStep_2 (by omega), if_neg (by omega)]; exact RC_up hRC _ _ _⟩)
          · exfalso; omega
        · refine lv_aload_n hx hb dX1_passProp_88 rfl (lv_at hl 4 rfl) ?_
          refine lv_iload_n hx hb dX1_passProp_89 rfl (lv_at hl 5 rfl) ?_
          refine lv_iconst (v := zI (3)) hx hb dX1_passProp_90 rfl ?_
          refine lv_iload hx hb dX1_passProp_91 (lv_at hl 3 rfl) ?_
          refine lv_iload hx hb dX1_passProp_93 (lv_at hl 1 rfl) ?_
          refine lv_iload_n hx hb dX1_passProp_95 rfl (lv_at hl 6 rfl) ?_
          refine z_callV (r := (RX1, TX1, 6)) (As := [.int (zI num), .int (zI 3), .int (zI v.1), .int (zI v.2.2), .int (zI en)]) (rest := []) hS hK hA hW hl.1 [0] [] (kX1_addBreak l D cI cB a cn num 3 v.1 v.2.2 en (by omega)) (cwV 5 hts gX1_passProp_X1_addBreak rfl rfl rfl (by decide +kernel) ⟨Nat.le_of_ble_eq_true rfl, Nat.le_of_ble_eq_true rfl⟩) (rfl : vwCl[1]? = some (RX1, TX1, 6)) (q0 := 0) rfl dX1_passProp_96 rfl rfl rfl rfl rfl (Nat.le_of_ble_eq_true rfl) ⟨Nat.le_of_ble_eq_true rfl, Nat.le_of_ble_eq_true rfl⟩ (fun v9 w9 H locs hq hW => ?_)
          obtain ⟨rfl, rfl, hh_96⟩ := hq
          have hW : zW D A s.heap [zCont cI a (addBk cn (num, 3, v.1, v.2.2, en))] H locs := hW
          refine W.eq (g2 := F0 m 99 ls []) rfl ?_
          refine lv_aload_n hx hb dX1_passProp_99 rfl (lv_at hl 4 rfl) ?_
          refine va_get (D := D) (ci := 1) (v := .ref (a 1)) (C := RX1) (T := TX1) (N := 6) hx hb hts iX1_passProp_X1 hown hK.1 hW.1 0 rfl rfl 0 (by decide) (hts _ mX1_passProp_5) (fun _ h9 => h9) rfl dX1_passProp_100 ?_
          refine lv_iload hx hb dX1_passProp_103 (lv_at hl 1 rfl) ?_
          refine lv_iload hx hb dX1_passProp_105 (lv_at hl 2 rfl) ?_
          refine lv_iconst (v := zI (1)) hx hb dX1_passProp_107 rfl ?_
          refine z_icmp_ne (tgt := 115) hx hb dX1_passProp_108 (by decide) (by omega) (fun cc_108 => ?_) (fun cc_108 => ?_)
          · refine lv_iload hx hb dX1_passProp_115 (lv_at hl 3 rfl) ?_
            refine z_setCell (n := 10) (g := ct_hold (addBk cn (num, 3, v.1, v.2.2, en))) (i := v.2.2) (v := v.1) (rest := []) (bs1 := [zCont cI a (ct_hold_ (addBk cn (num, 3, v.1, v.2.2, en)) (zU (ct_hold (addBk cn (num, 3, v.1, v.2.2, en))) v.2.2 v.1))]) hS hK hA hW hl.1 1 rfl (gX1_passProp_X4_setCell_n90) nm_26 (mX1_passProp_0) (mX1_passProp_7) ⟨Nat.le_of_ble_eq_true rfl, Nat.le_of_ble_eq_true rfl⟩ dX1_passProp_117 (by omega) rfl (Nat.le_of_ble_eq_true rfl) ⟨Nat.le_of_ble_eq_true rfl, Nat.le_of_ble_eq_true rfl⟩ (fun H locs hW => ?_)
            refine lv_aload_n hx hb dX1_passProp_120 rfl (lv_at hl 4 rfl) ?_
            refine va_get (D := D) (ci := 1) (v := .ref (a 3)) (C := RX1) (T := TX1) (N := 6) hx hb hts iX1_passProp_X1 hown hK.1 hW.1 0 rfl rfl 2 (by decide) (hts _ mX1_passProp_8) (fun _ h9 => h9) rfl dX1_passProp_121 ?_
            refine lv_iload hx hb dX1_passProp_124 (lv_at hl 3 rfl) ?_
            refine lv_aload_n hx hb dX1_passProp_126 rfl (lv_at hl 4 rfl) ?_
            refine va_get (D := D) (ci := 1) (v := .ref (a 3)) (C := RX1) (T := TX1) (N := 6) hx hb hts iX1_passProp_X1 hown hK.1 hW.1 0 rfl rfl 2 (by decide) (hts _ mX1_passProp_8) (fun _ h9 => h9) rfl dX1_passProp_127 ?_
            refine lv_iload hx hb dX1_passProp_130 (lv_at hl 3 rfl) ?_
            refine z_cell (n := 4) (g := ct_drn (addBk cn (num, 3, v.1, v.2.2, en))) (i := v.1) (rest := [.int (zI v.1), .ref (a 3)]) hS hK hA hW hl.1 3 rfl (gX1_passProp_X4_cell_n82) nm_25 (mX1_passProp_0) (mX1_passProp_6) ⟨Nat.le_of_ble_eq_true rfl, Nat.le_of_ble_eq_true rfl⟩ dX1_passProp_132 (by omega) (Nat.le_of_ble_eq_true rfl) ⟨Nat.le_of_ble_eq_true rfl, Nat.le_of_ble_eq_true rfl⟩ (fun H locs hW => ?_)
            rw [show ((ct_drn (addBk cn (num, 3, v.1, v.2.2, en))) v.1) = (ct_drn cn v.1) by rfl]
            refine lv_iconst (v := zI (1)) hx hb dX1_passProp_135 rfl ?_
            refine lv_iload hx hb dX1_passProp_136 (lv_at hl 1 rfl) ?_
            refine z_ishl hx hb dX1_passProp_138 (by (refine ⟨by omega, ?_⟩; omega)) ?_
            refine z_ior hx hb dX1_passProp_139 (by omega) ?_
            refine z_setCell (n := 4) (g := ct_drn (addBk cn (num, 3, v.1, v.2.2, en))) (i := v.1) (v := zor (ct_drn cn v.1) (zshl 1 v.2.2)) (rest := []) (bs1 := [zCont cI a (ct_drn_ (ct_hold_ (addBk cn (num, 3, v.1, v.2.2, en)) (zU (ct_hold (addBk cn (num, 3, v.1, v.2.2, en))) v.2.2 v.1)) (zU (ct_drn (addBk cn (num, 3, v.1, v.2.2, en))) v.1 (zor (ct_drn cn v.1) (zshl 1 v.2.2))))]) hS hK hA hW hl.1 3 rfl (gX1_passProp_X4_setCell_n90) nm_26 (mX1_passProp_0) (mX1_passProp_7) ⟨Nat.le_of_ble_eq_true rfl, Nat.le_of_ble_eq_true rfl⟩ dX1_passProp_140 (by omega) rfl (Nat.le_of_ble_eq_true rfl) ⟨Nat.le_of_ble_eq_true rfl, Nat.le_of_ble_eq_true rfl⟩ (fun H locs hW => ?_)
            exact z_vret hx hb hr hlk hW dX1_passProp_143 (by
                exact ⟨(ct_drn_ (ct_hold_ (addBk cn (num, 3, v.1, v.2.2, en)) (zU (ct_hold (addBk cn (num, 3, v.1, v.2.2, en))) v.2.2 v.1)) (zU (ct_drn (addBk cn (num, 3, v.1, v.2.2, en))) v.1 (zor (ct_drn cn v.1) (zshl 1 v.2.2)))), rfl, rfl, by refine ⟨?_, rfl, rfl⟩; rw [evStep_2 (by omega), if_pos (by omega)]; exact RC_up (RC_add hRC _) _ _ _⟩)
          · exfalso; omega
    · refine lv_iload hx hb dX1_passProp_57 (lv_at hl 0 rfl) ?_
      refine lv_iload hx hb dX1_passProp_59 (lv_at hl 3 rfl) ?_
      refine z_icmp_eq (tgt := 75) hx hb dX1_passProp_61 (by decide) (by omega) (fun cc_61 => ?_) (fun cc_61 => ?_)
      · refine lv_iload hx hb dX1_passProp_75 (lv_at hl 2 rfl) ?_
        refine lv_iconst (v := zI (2)) hx hb dX1_passProp_77 rfl ?_
        refine z_icmp_ne (tgt := 99) hx hb dX1_passProp_78 (by decide) (by omega) (fun cc_78 => ?_) (fun cc_78 => ?_)
        · refine lv_aload_n hx hb dX1_passProp_99 rfl (lv_at hl 4 rfl) ?_
          refine va_get (D := D) (ci := 1) (v := .ref (a 1)) (C := RX1) (T := TX1) (N := 6) hx hb hts iX1_passProp_X1 hown hK.1 hW.1 0 rfl rfl 0 (by decide) (hts _ mX1_passProp_5) (fun _ h9 => h9) rfl dX1_passProp_100 ?_
          refine lv_iload hx hb dX1_passProp_103 (lv_at hl 1 rfl) ?_
          refine lv_iload hx hb dX1_passProp_105 (lv_at hl 2 rfl) ?_
          refine lv_iconst (v := zI (1)) hx hb dX1_passProp_107 rfl ?_
          refine z_icmp_ne (tgt := 115) hx hb dX1_passProp_108 (by decide) (by omega) (fun cc_108 => ?_) (fun cc_108 => ?_)
          · exfalso; omega
          · refine lv_iconst (v := zI (-1)) hx hb dX1_passProp_111 rfl ?_
            refine lv_goto (tgt := 117) hx hb dX1_passProp_112 (by decide) ?_
            refine z_setCell (n := 10) (g := ct_hold cn) (i := v.2.2) (v := (-1)) (rest := []) (bs1 := [zCont cI a (ct_hold_ cn (zU (ct_hold cn) v.2.2 ((-1))))]) hS hK hA hW hl.1 1 rfl (gX1_passProp_X4_setCell_n90) nm_26 (mX1_passProp_0) (mX1_passProp_7) ⟨Nat.le_of_ble_eq_true rfl, Nat.le_of_ble_eq_true rfl⟩ dX1_passProp_117 (by omega) rfl (Nat.le_of_ble_eq_true rfl) ⟨Nat.le_of_ble_eq_true rfl, Nat.le_of_ble_eq_true rfl⟩ (fun H locs hW => ?_)
            refine lv_aload_n hx hb dX1_passProp_120 rfl (lv_at hl 4 rfl) ?_
            refine va_get (D := D) (ci := 1) (v := .ref (a 3)) (C := RX1) (T := TX1) (N := 6) hx hb hts iX1_passProp_X1 hown hK.1 hW.1 0 rfl rfl 2 (by decide) (hts _ mX1_passProp_8) (fun _ h9 => h9) rfl dX1_passProp_121 ?_
            refine lv_iload hx hb dX1_passProp_124 (lv_at hl 3 rfl) ?_
            refine lv_aload_n hx hb dX1_passProp_126 rfl (lv_at hl 4 rfl) ?_
            refine va_get (D := D) (ci := 1) (v := .ref (a 3)) (C := RX1) (T := TX1) (N := 6) hx hb hts iX1_passProp_X1 hown hK.1 hW.1 0 rfl rfl 2 (by decide) (hts _ mX1_passProp_8) (fun _ h9 => h9) rfl dX1_passProp_127 ?_
            refine lv_iload hx hb dX1_passProp_130 (lv_at hl 3 rfl) ?_
            refine z_cell (n := 4) (g := ct_drn cn) (i := v.1) (rest := [.int (zI v.1), .ref (a 3)]) hS hK hA hW hl.1 3 rfl (gX1_passProp_X4_cell_n82) nm_25 (mX1_passProp_0) (mX1_passProp_6) ⟨Nat.le_of_ble_eq_true rfl, Nat.le_of_ble_eq_true rfl⟩ dX1_passProp_132 (by omega) (Nat.le_of_ble_eq_true rfl) ⟨Nat.le_of_ble_eq_true rfl, Nat.le_of_ble_eq_true rfl⟩ (fun H locs hW => ?_)
            rw [show ((ct_drn cn) v.1) = (ct_drn cn v.1) by rfl]
            refine lv_iconst (v := zI (1)) hx hb dX1_passProp_135 rfl ?_
            refine lv_iload hx hb dX1_passProp_136 (lv_at hl 1 rfl) ?_
            refine z_ishl hx hb dX1_passProp_138 (by (refine ⟨by omega, ?_⟩; omega)) ?_
            refine z_ior hx hb dX1_passProp_139 (by omega) ?_
            refine z_setCell (n := 4) (g := ct_drn cn) (i := v.1) (v := zor (ct_drn cn v.1) (zshl 1 v.2.2)) (rest := []) (bs1 := [zCont cI a (ct_drn_ (ct_hold_ cn (zU (ct_hold cn) v.2.2 ((-1)))) (zU (ct_drn cn) v.1 (zor (ct_drn cn v.1) (zshl 1 v.2.2))))]) hS hK hA hW hl.1 3 rfl (gX1_passProp_X4_setCell_n90) nm_26 (mX1_passProp_0) (mX1_passProp_7) ⟨Nat.le_of_ble_eq_true rfl, Nat.le_of_ble_eq_true rfl⟩ dX1_passProp_140 (by omega) rfl (Nat.le_of_ble_eq_true rfl) ⟨Nat.le_of_ble_eq_true rfl, Nat.le_of_ble_eq_true rfl⟩ (fun H locs hW => ?_)
            exact z_vret hx hb hr hlk hW dX1_passProp_143 (by
                exact ⟨(ct_drn_ (ct_hold_ cn (zU (ct_hold cn) v.2.2 ((-1)))) (zU (ct_drn cn) v.1 (zor (ct_drn cn v.1) (zshl 1 v.2.2)))), rfl, rfl, by refine ⟨?_, rfl, rfl⟩; rw [evStep_1 (by omega), if_neg (by omega)]; exact RC_up hRC _ _ _⟩)
        · exfalso; omega
      · refine lv_aload_n hx hb dX1_passProp_64 rfl (lv_at hl 4 rfl) ?_
        refine lv_iload_n hx hb dX1_passProp_65 rfl (lv_at hl 5 rfl) ?_
        refine lv_iconst (v := zI (2)) hx hb dX1_passProp_66 rfl ?_
        refine lv_iload hx hb dX1_passProp_67 (lv_at hl 3 rfl) ?_
        refine lv_iload hx hb dX1_passProp_69 (lv_at hl 1 rfl) ?_
        refine lv_iload_n hx hb dX1_passProp_71 rfl (lv_at hl 6 rfl) ?_
        refine z_callV (r := (RX1, TX1, 6)) (As := [.int (zI num), .int (zI 2), .int (zI v.1), .int (zI v.2.2), .int (zI en)]) (rest := []) hS hK hA hW hl.1 [0] [] (kX1_addBreak l D cI cB a cn num 2 v.1 v.2.2 en (by omega)) (cwV 5 hts gX1_passProp_X1_addBreak rfl rfl rfl (by decide +kernel) ⟨Nat.le_of_ble_eq_true rfl, Nat.le_of_ble_eq_true rfl⟩) (rfl : vwCl[1]? = some (RX1, TX1, 6)) (q0 := 0) rfl dX1_passProp_72 rfl rfl rfl rfl rfl (Nat.le_of_ble_eq_true rfl) ⟨Nat.le_of_ble_eq_true rfl, Nat.le_of_ble_eq_true rfl⟩ (fun v9 w9 H locs hq hW => ?_)
        obtain ⟨rfl, rfl, hh_72⟩ := hq
        have hW : zW D A s.heap [zCont cI a (addBk cn (num, 2, v.1, v.2.2, en))] H locs := hW
        refine W.eq (g2 := F0 m 75 ls []) rfl ?_
        refine lv_iload hx hb dX1_passProp_75 (lv_at hl 2 rfl) ?_
        refine lv_iconst (v := zI (2)) hx hb dX1_passProp_77 rfl ?_
        refine z_icmp_ne (tgt := 99) hx hb dX1_passProp_78 (by decide) (by omega) (fun cc_78 => ?_) (fun cc_78 => ?_)
        · refine lv_aload_n hx hb dX1_passProp_99 rfl (lv_at hl 4 rfl) ?_
          refine va_get (D := D) (ci := 1) (v := .ref (a 1)) (C := RX1) (T := TX1) (N := 6) hx hb hts iX1_passProp_X1 hown hK.1 hW.1 0 rfl rfl 0 (by decide) (hts _ mX1_passProp_5) (fun _ h9 => h9) rfl dX1_passProp_100 ?_
          refine lv_iload hx hb dX1_passProp_103 (lv_at hl 1 rfl) ?_
          refine lv_iload hx hb dX1_passProp_105 (lv_at hl 2 rfl) ?_
          refine lv_iconst (v := zI (1)) hx hb dX1_passProp_107 rfl ?_
          refine z_icmp_ne (tgt := 115) hx hb dX1_passProp_108 (by decide) (by omega) (fun cc_108 => ?_) (fun cc_108 => ?_)
          · exfalso; omega
          · refine lv_iconst (v := zI (-1)) hx hb dX1_passProp_111 rfl ?_
            refine lv_goto (tgt := 117) hx hb dX1_passProp_112 (by decide) ?_
            refine z_setCell (n := 10) (g := ct_hold (addBk cn (num, 2, v.1, v.2.2, en))) (i := v.2.2) (v := (-1)) (rest := []) (bs1 := [zCont cI a (ct_hold_ (addBk cn (num, 2, v.1, v.2.2, en)) (zU (ct_hold (addBk cn (num, 2, v.1, v.2.2, en))) v.2.2 ((-1))))]) hS hK hA hW hl.1 1 rfl (gX1_passProp_X4_setCell_n90) nm_26 (mX1_passProp_0) (mX1_passProp_7) ⟨Nat.le_of_ble_eq_true rfl, Nat.le_of_ble_eq_true rfl⟩ dX1_passProp_117 (by omega) rfl (Nat.le_of_ble_eq_true rfl) ⟨Nat.le_of_ble_eq_true rfl, Nat.le_of_ble_eq_true rfl⟩ (fun H locs hW => ?_)
            refine lv_aload_n hx hb dX1_passProp_120 rfl (lv_at hl 4 rfl) ?_
            refine va_get (D := D) (ci := 1) (v := .ref (a 3)) (C := RX1) (T := TX1) (N := 6) hx hb hts iX1_passProp_X1 hown hK.1 hW.1 0 rfl rfl 2 (by decide) (hts _ mX1_passProp_8) (fun _ h9 => h9) rfl dX1_passProp_121 ?_
            refine lv_iload hx hb dX1_passProp_124 (lv_at hl 3 rfl) ?_
            refine lv_aload_n hx hb dX1_passProp_126 rfl (lv_at hl 4 rfl) ?_
            refine va_get (D := D) (ci := 1) (v := .ref (a 3)) (C := RX1) (T := TX1) (N := 6) hx hb hts iX1_passProp_X1 hown hK.1 hW.1 0 rfl rfl 2 (by decide) (hts _ mX1_passProp_8) (fun _ h9 => h9) rfl dX1_passProp_127 ?_
            refine lv_iload hx hb dX1_passProp_130 (lv_at hl 3 rfl) ?_
            refine z_cell (n := 4) (g := ct_drn (addBk cn (num, 2, v.1, v.2.2, en))) (i := v.1) (rest := [.int (zI v.1), .ref (a 3)]) hS hK hA hW hl.1 3 rfl (gX1_passProp_X4_cell_n82) nm_25 (mX1_passProp_0) (mX1_passProp_6) ⟨Nat.le_of_ble_eq_true rfl, Nat.le_of_ble_eq_true rfl⟩ dX1_passProp_132 (by omega) (Nat.le_of_ble_eq_true rfl) ⟨Nat.le_of_ble_eq_true rfl, Nat.le_of_ble_eq_true rfl⟩ (fun H locs hW => ?_)
            rw [show ((ct_drn (addBk cn (num, 2, v.1, v.2.2, en))) v.1) = (ct_drn cn v.1) by rfl]
            refine lv_iconst (v := zI (1)) hx hb dX1_passProp_135 rfl ?_
            refine lv_iload hx hb dX1_passProp_136 (lv_at hl 1 rfl) ?_
            refine z_ishl hx hb dX1_passProp_138 (by (refine ⟨by omega, ?_⟩; omega)) ?_
            refine z_ior hx hb dX1_passProp_139 (by omega) ?_
            refine z_setCell (n := 4) (g := ct_drn (addBk cn (num, 2, v.1, v.2.2, en))) (i := v.1) (v := zor (ct_drn cn v.1) (zshl 1 v.2.2)) (rest := []) (bs1 := [zCont cI a (ct_drn_ (ct_hold_ (addBk cn (num, 2, v.1, v.2.2, en)) (zU (ct_hold (addBk cn (num, 2, v.1, v.2.2, en))) v.2.2 ((-1)))) (zU (ct_drn (addBk cn (num, 2, v.1, v.2.2, en))) v.1 (zor (ct_drn cn v.1) (zshl 1 v.2.2))))]) hS hK hA hW hl.1 3 rfl (gX1_passProp_X4_setCell_n90) nm_26 (mX1_passProp_0) (mX1_passProp_7) ⟨Nat.le_of_ble_eq_true rfl, Nat.le_of_ble_eq_true rfl⟩ dX1_passProp_140 (by omega) rfl (Nat.le_of_ble_eq_true rfl) ⟨Nat.le_of_ble_eq_true rfl, Nat.le_of_ble_eq_true rfl⟩ (fun H locs hW => ?_)
            exact z_vret hx hb hr hlk hW dX1_passProp_143 (by
                exact ⟨(ct_drn_ (ct_hold_ (addBk cn (num, 2, v.1, v.2.2, en)) (zU (ct_hold (addBk cn (num, 2, v.1, v.2.2, en))) v.2.2 ((-1)))) (zU (ct_drn (addBk cn (num, 2, v.1, v.2.2, en))) v.1 (zor (ct_drn cn v.1) (zshl 1 v.2.2)))), rfl, rfl, by refine ⟨?_, rfl, rfl⟩; rw [evStep_1 (by omega), if_pos (by omega)]; exact RC_up (RC_add hRC _) _ _ _⟩)
        · exfalso; omega
  · refine lv_iload hx hb dX1_passProp_34 (lv_at hl 0 rfl) ?_
    refine lv_iconst (v := zI (-1)) hx hb dX1_passProp_36 rfl ?_
    refine z_icmp_eq (tgt := 51) hx hb dX1_passProp_37 (by decide) (by omega) (fun cc_37 => ?_) (fun cc_37 => ?_)
    · refine lv_iload hx hb dX1_passProp_51 (lv_at hl 2 rfl) ?_
      refine lv_iconst (v := zI (1)) hx hb dX1_passProp_53 rfl ?_
      refine z_icmp_ne (tgt := 75) hx hb dX1_passProp_54 (by decide) (by omega) (fun cc_54 => ?_) (fun cc_54 => ?_)
      · refine lv_iload hx hb dX1_passProp_75 (lv_at hl 2 rfl) ?_
        refine lv_iconst (v := zI (2)) hx hb dX1_passProp_77 rfl ?_
        refine z_icmp_ne (tgt := 99) hx hb dX1_passProp_78 (by decide) (by omega) (fun cc_78 => ?_) (fun cc_78 => ?_)
        · refine lv_aload_n hx hb dX1_passProp_99 rfl (lv_at hl 4 rfl) ?_
          refine va_get (D := D) (ci := 1) (v := .ref (a 1)) (C := RX1) (T := TX1) (N := 6) hx hb hts iX1_passProp_X1 hown hK.1 hW.1 0 rfl rfl 0 (by decide) (hts _ mX1_passProp_5) (fun _ h9 => h9) rfl dX1_passProp_100 ?_
          refine lv_iload hx hb dX1_passProp_103 (lv_at hl 1 rfl) ?_
          refine lv_iload hx hb dX1_passProp_105 (lv_at hl 2 rfl) ?_
          refine lv_iconst (v := zI (1)) hx hb dX1_passProp_107 rfl ?_
          refine z_icmp_ne (tgt := 115) hx hb dX1_passProp_108 (by decide) (by omega) (fun cc_108 => ?_) (fun cc_108 => ?_)
          · refine lv_iload hx hb dX1_passProp_115 (lv_at hl 3 rfl) ?_
            refine z_setCell (n := 10) (g := ct_hold cn) (i := v.2.2) (v := v.1) (rest := []) (bs1 := [zCont cI a (ct_hold_ cn (zU (ct_hold cn) v.2.2 v.1))]) hS hK hA hW hl.1 1 rfl (gX1_passProp_X4_setCell_n90) nm_26 (mX1_passProp_0) (mX1_passProp_7) ⟨Nat.le_of_ble_eq_true rfl, Nat.le_of_ble_eq_true rfl⟩ dX1_passProp_117 (by omega) rfl (Nat.le_of_ble_eq_true rfl) ⟨Nat.le_of_ble_eq_true rfl, Nat.le_of_ble_eq_true rfl⟩ (fun H locs hW => ?_)
            refine lv_aload_n hx hb dX1_passProp_120 rfl (lv_at hl 4 rfl) ?_
            refine va_get (D := D) (ci := 1) (v := .ref (a 3)) (C := RX1) (T := TX1) (N := 6) hx hb hts iX1_passProp_X1 hown hK.1 hW.1 0 rfl rfl 2 (by decide) (hts _ mX1_passProp_8) (fun _ h9 => h9) rfl dX1_passProp_121 ?_
            refine lv_iload hx hb dX1_passProp_124 (lv_at hl 3 rfl) ?_
            refine lv_aload_n hx hb dX1_passProp_126 rfl (lv_at hl 4 rfl) ?_
            refine va_get (D := D) (ci := 1) (v := .ref (a 3)) (C := RX1) (T := TX1) (N := 6) hx hb hts iX1_passProp_X1 hown hK.1 hW.1 0 rfl rfl 2 (by decide) (hts _ mX1_passProp_8) (fun _ h9 => h9) rfl dX1_passProp_127 ?_
            refine lv_iload hx hb dX1_passProp_130 (lv_at hl 3 rfl) ?_
            refine z_cell (n := 4) (g := ct_drn cn) (i := v.1) (rest := [.int (zI v.1), .ref (a 3)]) hS hK hA hW hl.1 3 rfl (gX1_passProp_X4_cell_n82) nm_25 (mX1_passProp_0) (mX1_passProp_6) ⟨Nat.le_of_ble_eq_true rfl, Nat.le_of_ble_eq_true rfl⟩ dX1_passProp_132 (by omega) (Nat.le_of_ble_eq_true rfl) ⟨Nat.le_of_ble_eq_true rfl, Nat.le_of_ble_eq_true rfl⟩ (fun H locs hW => ?_)
            rw [show ((ct_drn cn) v.1) = (ct_drn cn v.1) by rfl]
            refine lv_iconst (v := zI (1)) hx hb dX1_passProp_135 rfl ?_
            refine lv_iload hx hb dX1_passProp_136 (lv_at hl 1 rfl) ?_
            refine z_ishl hx hb dX1_passProp_138 (by (refine ⟨by omega, ?_⟩; omega)) ?_
            refine z_ior hx hb dX1_passProp_139 (by omega) ?_
            refine z_setCell (n := 4) (g := ct_drn cn) (i := v.1) (v := zor (ct_drn cn v.1) (zshl 1 v.2.2)) (rest := []) (bs1 := [zCont cI a (ct_drn_ (ct_hold_ cn (zU (ct_hold cn) v.2.2 v.1)) (zU (ct_drn cn) v.1 (zor (ct_drn cn v.1) (zshl 1 v.2.2))))]) hS hK hA hW hl.1 3 rfl (gX1_passProp_X4_setCell_n90) nm_26 (mX1_passProp_0) (mX1_passProp_7) ⟨Nat.le_of_ble_eq_true rfl, Nat.le_of_ble_eq_true rfl⟩ dX1_passProp_140 (by omega) rfl (Nat.le_of_ble_eq_true rfl) ⟨Nat.le_of_ble_eq_true rfl, Nat.le_of_ble_eq_true rfl⟩ (fun H locs hW => ?_)
            exact z_vret hx hb hr hlk hW dX1_passProp_143 (by
                exact ⟨(ct_drn_ (ct_hold_ cn (zU (ct_hold cn) v.2.2 v.1)) (zU (ct_drn cn) v.1 (zor (ct_drn cn v.1) (zshl 1 v.2.2)))), rfl, rfl, by refine ⟨?_, rfl, rfl⟩; rw [evStep_0 (by omega), if_neg (by omega)]; exact RC_up hRC _ _ _⟩)
          · exfalso; omega
        · exfalso; omega
      · exfalso; omega
    · refine lv_aload_n hx hb dX1_passProp_40 rfl (lv_at hl 4 rfl) ?_
      refine lv_iload_n hx hb dX1_passProp_41 rfl (lv_at hl 5 rfl) ?_
      refine lv_iconst (v := zI (1)) hx hb dX1_passProp_42 rfl ?_
      refine lv_iload hx hb dX1_passProp_43 (lv_at hl 3 rfl) ?_
      refine lv_iload hx hb dX1_passProp_45 (lv_at hl 1 rfl) ?_
      refine lv_iload_n hx hb dX1_passProp_47 rfl (lv_at hl 6 rfl) ?_
      refine z_callV (r := (RX1, TX1, 6)) (As := [.int (zI num), .int (zI 1), .int (zI v.1), .int (zI v.2.2), .int (zI en)]) (rest := []) hS hK hA hW hl.1 [0] [] (kX1_addBreak l D cI cB a cn num 1 v.1 v.2.2 en (by omega)) (cwV 5 hts gX1_passProp_X1_addBreak rfl rfl rfl (by decide +kernel) ⟨Nat.le_of_ble_eq_true rfl, Nat.le_of_ble_eq_true rfl⟩) (rfl : vwCl[1]? = some (RX1, TX1, 6)) (q0 := 0) rfl dX1_passProp_48 rfl rfl rfl rfl rfl (Nat.le_of_ble_eq_true rfl) ⟨Nat.le_of_ble_eq_true rfl, Nat.le_of_ble_eq_true rfl⟩ (fun v9 w9 H locs hq hW => ?_)
      obtain ⟨rfl, rfl, hh_48⟩ := hq
      have hW : zW D A s.heap [zCont cI a (addBk cn (num, 1, v.1, v.2.2, en))] H locs := hW
      refine W.eq (g2 := F0 m 51 ls []) rfl ?_
      refine lv_iload hx hb dX1_passProp_51 (lv_at hl 2 rfl) ?_
      refine lv_iconst (v := zI (1)) hx hb dX1_passProp_53 rfl ?_
      refine z_icmp_ne (tgt := 75) hx hb dX1_passProp_54 (by decide) (by omega) (fun cc_54 => ?_) (fun cc_54 => ?_)
      · refine lv_iload hx hb dX1_passProp_75 (lv_at hl 2 rfl) ?_
        refine lv_iconst (v := zI (2)) hx hb dX1_passProp_77 rfl ?_
        refine z_icmp_ne (tgt := 99) hx hb dX1_passProp_78 (by decide) (by omega) (fun cc_78 => ?_) (fun cc_78 => ?_)
        · refine lv_aload_n hx hb dX1_passProp_99 rfl (lv_at hl 4 rfl) ?_
          refine va_get (D := D) (ci := 1) (v := .ref (a 1)) (C := RX1) (T := TX1) (N := 6) hx hb hts iX1_passProp_X1 hown hK.1 hW.1 0 rfl rfl 0 (by decide) (hts _ mX1_passProp_5) (fun _ h9 => h9) rfl dX1_passProp_100 ?_
          refine lv_iload hx hb dX1_passProp_103 (lv_at hl 1 rfl) ?_
          refine lv_iload hx hb dX1_passProp_105 (lv_at hl 2 rfl) ?_
          refine lv_iconst (v := zI (1)) hx hb dX1_passProp_107 rfl ?_
          refine z_icmp_ne (tgt := 115) hx hb dX1_passProp_108 (by decide) (by omega) (fun cc_108 => ?_) (fun cc_108 => ?_)
          · refine lv_iload hx hb dX1_passProp_115 (lv_at hl 3 rfl) ?_
            refine z_setCell (n := 10) (g := ct_hold (addBk cn (num, 1, v.1, v.2.2, en))) (i := v.2.2) (v := v.1) (rest := []) (bs1 := [zCont cI a (ct_hold_ (addBk cn (num, 1, v.1, v.2.2, en)) (zU (ct_hold (addBk cn (num, 1, v.1, v.2.2, en))) v.2.2 v.1))]) hS hK hA hW hl.1 1 rfl (gX1_passProp_X4_setCell_n90) nm_26 (mX1_passProp_0) (mX1_passProp_7) ⟨Nat.le_of_ble_eq_true rfl, Nat.le_of_ble_eq_true rfl⟩ dX1_passProp_117 (by omega) rfl (Nat.le_of_ble_eq_true rfl) ⟨Nat.le_of_ble_eq_true rfl, Nat.le_of_ble_eq_true rfl⟩ (fun H locs hW => ?_)
            refine lv_aload_n hx hb dX1_passProp_120 rfl (lv_at hl 4 rfl) ?_
            refine va_get (D := D) (ci := 1) (v := .ref (a 3)) (C := RX1) (T := TX1) (N := 6) hx hb hts iX1_passProp_X1 hown hK.1 hW.1 0 rfl rfl 2 (by decide) (hts _ mX1_passProp_8) (fun _ h9 => h9) rfl dX1_passProp_121 ?_
            refine lv_iload hx hb dX1_passProp_124 (lv_at hl 3 rfl) ?_
            refine lv_aload_n hx hb dX1_passProp_126 rfl (lv_at hl 4 rfl) ?_
            refine va_get (D := D) (ci := 1) (v := .ref (a 3)) (C := RX1) (T := TX1) (N := 6) hx hb hts iX1_passProp_X1 hown hK.1 hW.1 0 rfl rfl 2 (by decide) (hts _ mX1_passProp_8) (fun _ h9 => h9) rfl dX1_passProp_127 ?_
            refine lv_iload hx hb dX1_passProp_130 (lv_at hl 3 rfl) ?_
            refine z_cell (n := 4) (g := ct_drn (addBk cn (num, 1, v.1, v.2.2, en))) (i := v.1) (rest := [.int (zI v.1), .ref (a 3)]) hS hK hA hW hl.1 3 rfl (gX1_passProp_X4_cell_n82) nm_25 (mX1_passProp_0) (mX1_passProp_6) ⟨Nat.le_of_ble_eq_true rfl, Nat.le_of_ble_eq_true rfl⟩ dX1_passProp_132 (by omega) (Nat.le_of_ble_eq_true rfl) ⟨Nat.le_of_ble_eq_true rfl, Nat.le_of_ble_eq_true rfl⟩ (fun H locs hW => ?_)
            rw [show ((ct_drn (addBk cn (num, 1, v.1, v.2.2, en))) v.1) = (ct_drn cn v.1) by rfl]
            refine lv_iconst (v := zI (1)) hx hb dX1_passProp_135 rfl ?_
            refine lv_iload hx hb dX1_passProp_136 (lv_at hl 1 rfl) ?_
            refine z_ishl hx hb dX1_passProp_138 (by (refine ⟨by omega, ?_⟩; omega)) ?_
            refine z_ior hx hb dX1_passProp_139 (by omega) ?_
            refine z_setCell (n := 4) (g := ct_drn (addBk cn (num, 1, v.1, v.2.2, en))) (i := v.1) (v := zor (ct_drn cn v.1) (zshl 1 v.2.2)) (rest := []) (bs1 := [zCont cI a (ct_drn_ (ct_hold_ (addBk cn (num, 1, v.1, v.2.2, en)) (zU (ct_hold (addBk cn (num, 1, v.1, v.2.2, en))) v.2.2 v.1)) (zU (ct_drn (addBk cn (num, 1, v.1, v.2.2, en))) v.1 (zor (ct_drn cn v.1) (zshl 1 v.2.2))))]) hS hK hA hW hl.1 3 rfl (gX1_passProp_X4_setCell_n90) nm_26 (mX1_passProp_0) (mX1_passProp_7) ⟨Nat.le_of_ble_eq_true rfl, Nat.le_of_ble_eq_true rfl⟩ dX1_passProp_140 (by omega) rfl (Nat.le_of_ble_eq_true rfl) ⟨Nat.le_of_ble_eq_true rfl, Nat.le_of_ble_eq_true rfl⟩ (fun H locs hW => ?_)
            exact z_vret hx hb hr hlk hW dX1_passProp_143 (by
                exact ⟨(ct_drn_ (ct_hold_ (addBk cn (num, 1, v.1, v.2.2, en)) (zU (ct_hold (addBk cn (num, 1, v.1, v.2.2, en))) v.2.2 v.1)) (zU (ct_drn (addBk cn (num, 1, v.1, v.2.2, en))) v.1 (zor (ct_drn cn v.1) (zshl 1 v.2.2)))), rfl, rfl, by refine ⟨?_, rfl, rfl⟩; rw [evStep_0 (by omega), if_pos (by omega)]; exact RC_up (RC_add hRC _) _ _ _⟩)
          · exfalso; omega
        · exfalso; omega
      · exfalso; omega

abbrev qX1_passMove (cI : ClassId) (a : Nat → Nat) (cn : zCS) (g : zGs) (num en cod : Int) (v : zEv) : Option Value → List va_W → Prop := fun vq wq => ∃ (cz : zCS), vq = none ∧ wq = [zCont cI a (cz)] ∧ (RC cz (evStep num en v g) ∧ ct_seen cz = ct_seen cn ∧ ct_drn cz = ct_drn cn)
set_option maxRecDepth 20000 in
theorem mX1_passMove_0 : (.initialized RX4 : Cond) ∈ wsX1_passMove := by decide +kernel
set_option maxRecDepth 20000 in
theorem mX1_passMove_1 : (.static yX4_characterIn : Cond) ∈ wsX1_passMove := by decide +kernel
set_option maxRecDepth 20000 in
theorem mX1_passMove_2 : (.static yX4_kindIn : Cond) ∈ wsX1_passMove := by decide +kernel
set_option maxRecDepth 20000 in
theorem iX1_passMove_X1 : ∀ w ∈ u_ws RX1 TX1 6, w ∈ wsX1_passMove := by decide +kernel
set_option maxRecDepth 20000 in
theorem mX1_passMove_4 : (.fieldLink RX1 15 "StoryPanels$Continuity" "moved" "[I" : Cond) ∈ wsX1_passMove := by decide +kernel
set_option maxRecDepth 20000 in
theorem mX1_passMove_5 : (.static yX4_cell : Cond) ∈ wsX1_passMove := by decide +kernel
set_option maxRecDepth 20000 in
theorem mX1_passMove_6 : (.static yX4_setCell : Cond) ∈ wsX1_passMove := by decide +kernel
set_option maxHeartbeats 4000000 in
set_option maxRecDepth 100000 in
theorem kX1_passMove (l : Launch) (D : va_G) (cI cB : ClassId) (a : Nat → Nat) (cn : zCS) (g : zGs) (num en cod : Int) (v : zEv) (hRC : RC cn g) (hgk : gOK g) (hvk : evOK v) (hlen : g.2.2.length < 160) (hcode : cod = evCode v) (hv2 : ¬ v.2.1 ≤ 2) : zMet l yX1_passMove wsX1_passMove 1 26 0 0 D cI cB [.ref (a 0), .int (zI num), .int (zI en), .int (zI cod)] [zCont cI a cn] (qX1_passMove cI a cn g num en cod v) := by
  refine zMet.of (cd := cX1_passMove) (maxL := 7) (ret := none) (by decide) rfl (Nat.le_of_ble_eq_true rfl) ?_
  intro p e s m args below meth c A ls hS hr hlk hnm hK hA hW hl
  have hS : CallFix p m c cX1_passMove 7 s args wsX1_passMove RX1 := hS
  have hx := hS.1
  have hb := hS.2.1
  have hown := hS.2.2.2.1
  have hts := hS.2.2.2.2
  have hl : lv_has ls 7 [(0, .ref (a 0)), (1, .int (zI num)), (2, .int (zI en)), (3, .int (zI cod))] := hl
  have hcd : cod = v.1 * 100 + v.2.1 * 10 + 0 := by rw [hcode, evCode_m hv2]
  have hev : (0 ≤ v.1 ∧ v.1 < 4) ∧ (0 ≤ v.2.1 ∧ v.2.1 ≤ 5) := by unfold evOK at hvk; omega
  have hnb := hRC.2.2.1
  have hmo := hgk.2.1 v.1
  have hmv : (ct_mov cn v.1 = -1 ∧ g.2.1 v.1 = 0) ∨ (ct_mov cn v.1 = g.2.1 v.1 ∧ g.2.1 v.1 ≠ 0) := by
    have hmq := hRC.2.1 v.1 (by omega) (by omega)
    split at hmq <;> omega
  refine lv_iload_n hx hb dX1_passMove_0 rfl (lv_at hl 3 rfl) ?_
  refine z_callSN (As := [.int (zI cod)]) (rest := []) hS hK hA hW hl.1 [] [0] (kX4_characterIn l D cI cB cod (by omega)) ⟨va_cnB 1 hts gX1_passMove_X4_characterIn_n58 rfl rfl rfl (hK.2 _ nm_21) (hts _ mX1_passMove_0) (by decide +kernel) ⟨Nat.le_of_ble_eq_true rfl, Nat.le_of_ble_eq_true rfl⟩, hts _ mX1_passMove_1, trivial⟩ dX1_passMove_1 rfl rfl rfl rfl rfl (Nat.le_of_ble_eq_true rfl) ⟨Nat.le_of_ble_eq_true rfl, Nat.le_of_ble_eq_true rfl⟩ (fun v9 w9 H locs hq hW => ?_)
  obtain ⟨rr_1, rfl, rfl, hh_1⟩ := hq
  subst rr_1
  have hW : zW D A s.heap [zCont cI a cn] H locs := hW
  refine W.eq (g2 := F0 m 4 ls [.int (zI (cod / 100))]) rfl ?_
  rw [show (cod / 100) = v.1 by omega]
  refine lv_istore (lv' := [(4, .int (zI v.1)), (0, .ref (a 0)), (1, .int (zI num)), (2, .int (zI en)), (3, .int (zI cod))]) hx hb dX1_passMove_4 hl (by decide) rfl (fun ls hl => ?_)
  refine lv_iload_n hx hb dX1_passMove_6 rfl (lv_at hl 4 rfl) ?_
  refine z_callSN (As := [.int (zI cod)]) (rest := []) hS hK hA hW hl.1 [] [0] (kX4_kindIn l D cI cB cod (by omega)) ⟨va_cnB 1 hts gX1_passMove_X4_kindIn_n61 rfl rfl rfl (hK.2 _ nm_22) (hts _ mX1_passMove_0) (by decide +kernel) ⟨Nat.le_of_ble_eq_true rfl, Nat.le_of_ble_eq_true rfl⟩, hts _ mX1_passMove_2, trivial⟩ dX1_passMove_7 rfl rfl rfl rfl rfl (Nat.le_of_ble_eq_true rfl) ⟨Nat.le_of_ble_eq_true rfl, Nat.le_of_ble_eq_true rfl⟩ (fun v9 w9 H locs hq hW => ?_)
  obtain ⟨rr_7, rfl, rfl, hh_7⟩ := hq
  subst rr_7
  have hW : zW D A s.heap [zCont cI a cn] H locs := hW
  refine W.eq (g2 := F0 m 10 ls [.int (zI (cod / 10 % 10))]) rfl ?_
  rw [show (cod / 10 % 10) = v.2.1 by omega]
  refine lv_istore (lv' := [(5, .int (zI v.2.1)), (4, .int (zI v.1)), (0, .ref (a 0)), (1, .int (zI num)), (2, .int (zI en)), (3, .int (zI cod))]) hx hb dX1_passMove_10 hl (by decide) rfl (fun ls hl => ?_)
  refine lv_iload hx hb dX1_passMove_12 (lv_at hl 0 rfl) ?_
  refine lv_iconst (v := zI (5)) hx hb dX1_passMove_14 rfl ?_
  refine z_icmp_ne (tgt := 29) hx hb dX1_passMove_15 (by decide) (by omega) (fun cc_15 => ?_) (fun cc_15 => ?_)
  · refine lv_aload_n hx hb dX1_passMove_29 rfl (lv_at hl 2 rfl) ?_
    refine va_get (D := D) (ci := 1) (v := .ref (a 2)) (C := RX1) (T := TX1) (N := 6) hx hb hts iX1_passMove_X1 hown hK.1 hW.1 0 rfl rfl 1 (by decide) (hts _ mX1_passMove_4) (fun _ h9 => h9) rfl dX1_passMove_30 ?_
    refine lv_iload hx hb dX1_passMove_33 (lv_at hl 1 rfl) ?_
    refine z_cell (n := 4) (g := ct_mov cn) (i := v.1) (rest := []) hS hK hA hW hl.1 2 rfl (gX1_passMove_X4_cell_n82) nm_25 (mX1_passMove_0) (mX1_passMove_5) ⟨Nat.le_of_ble_eq_true rfl, Nat.le_of_ble_eq_true rfl⟩ dX1_passMove_35 (by omega) (Nat.le_of_ble_eq_true rfl) ⟨Nat.le_of_ble_eq_true rfl, Nat.le_of_ble_eq_true rfl⟩ (fun H locs hW => ?_)
    refine lv_istore (lv' := [(6, .int (zI ((ct_mov cn) v.1))), (5, .int (zI v.2.1)), (4, .int (zI v.1)), (0, .ref (a 0)), (1, .int (zI num)), (2, .int (zI en)), (3, .int (zI cod))]) hx hb dX1_passMove_38 hl (by decide) rfl (fun ls hl => ?_)
    refine lv_iload hx hb dX1_passMove_40 (lv_at hl 0 rfl) ?_
    refine lv_iconst (v := zI (-1)) hx hb dX1_passMove_42 rfl ?_
    refine z_icmp_eq (tgt := 64) hx hb dX1_passMove_43 (by decide) (by omega) (fun cc_43 => ?_) (fun cc_43 => ?_)
    · refine lv_aload_n hx hb dX1_passMove_64 rfl (lv_at hl 3 rfl) ?_
      refine va_get (D := D) (ci := 1) (v := .ref (a 2)) (C := RX1) (T := TX1) (N := 6) hx hb hts iX1_passMove_X1 hown hK.1 hW.1 0 rfl rfl 1 (by decide) (hts _ mX1_passMove_4) (fun _ h9 => h9) rfl dX1_passMove_65 ?_
      refine lv_iload hx hb dX1_passMove_68 (lv_at hl 2 rfl) ?_
      refine lv_iload hx hb dX1_passMove_70 (lv_at hl 1 rfl) ?_
      refine z_setCell (n := 4) (g := ct_mov cn) (i := v.1) (v := v.2.1) (rest := []) (bs1 := [zCont cI a (ct_mov_ cn (zU (ct_mov cn) v.1 v.2.1))]) hS hK hA hW hl.1 2 rfl (gX1_passMove_X4_setCell_n90) nm_26 (mX1_passMove_0) (mX1_passMove_6) ⟨Nat.le_of_ble_eq_true rfl, Nat.le_of_ble_eq_true rfl⟩ dX1_passMove_72 (by omega) rfl (Nat.le_of_ble_eq_true rfl) ⟨Nat.le_of_ble_eq_true rfl, Nat.le_of_ble_eq_true rfl⟩ (fun H locs hW => ?_)
      exact z_vret hx hb hr hlk hW dX1_passMove_75 (by
          exact ⟨(ct_mov_ cn (zU (ct_mov cn) v.1 v.2.1)), rfl, rfl, by refine ⟨?_, rfl, rfl⟩; rw [evStep_m (by omega), if_neg (by omega)]; exact RC_mov hRC _ _ _ (by rw [if_neg (by omega)])⟩)
    · refine lv_iload hx hb dX1_passMove_46 (lv_at hl 0 rfl) ?_
      refine lv_iload hx hb dX1_passMove_48 (lv_at hl 1 rfl) ?_
      refine z_icmp_eq (tgt := 64) hx hb dX1_passMove_50 (by decide) (by omega) (fun cc_50 => ?_) (fun cc_50 => ?_)
      · refine lv_aload_n hx hb dX1_passMove_64 rfl (lv_at hl 3 rfl) ?_
        refine va_get (D := D) (ci := 1) (v := .ref (a 2)) (C := RX1) (T := TX1) (N := 6) hx hb hts iX1_passMove_X1 hown hK.1 hW.1 0 rfl rfl 1 (by decide) (hts _ mX1_passMove_4) (fun _ h9 => h9) rfl dX1_passMove_65 ?_
        refine lv_iload hx hb dX1_passMove_68 (lv_at hl 2 rfl) ?_
        refine lv_iload hx hb dX1_passMove_70 (lv_at hl 1 rfl) ?_
        refine z_setCell (n := 4) (g := ct_mov cn) (i := v.1) (v := v.2.1) (rest := []) (bs1 := [zCont cI a (ct_mov_ cn (zU (ct_mov cn) v.1 v.2.1))]) hS hK hA hW hl.1 2 rfl (gX1_passMove_X4_setCell_n90) nm_26 (mX1_passMove_0) (mX1_passMove_6) ⟨Nat.le_of_ble_eq_true rfl, Nat.le_of_ble_eq_true rfl⟩ dX1_passMove_72 (by omega) rfl (Nat.le_of_ble_eq_true rfl) ⟨Nat.le_of_ble_eq_true rfl, Nat.le_of_ble_eq_true rfl⟩ (fun H locs hW => ?_)
        exact z_vret hx hb hr hlk hW dX1_passMove_75 (by
            exact ⟨(ct_mov_ cn (zU (ct_mov cn) v.1 v.2.1)), rfl, rfl, by refine ⟨?_, rfl, rfl⟩; rw [evStep_m (by omega), if_neg (by omega)]; exact RC_mov hRC _ _ _ (by rw [if_neg (by omega)])⟩)
      · refine lv_aload_n hx hb dX1_passMove_53 rfl (lv_at hl 3 rfl) ?_
        refine lv_iload_n hx hb dX1_passMove_54 rfl (lv_at hl 4 rfl) ?_
        refine lv_iconst (v := zI (5)) hx hb dX1_passMove_55 rfl ?_
        refine lv_iload hx hb dX1_passMove_56 (lv_at hl 2 rfl) ?_
        refine lv_bipush (v := zI (-5)) hx hb dX1_passMove_58 (by decide +kernel) ?_
        refine lv_iload_n hx hb dX1_passMove_60 rfl (lv_at hl 5 rfl) ?_
        refine z_callV (r := (RX1, TX1, 6)) (As := [.int (zI num), .int (zI 5), .int (zI v.1), .int (zI ((-5))), .int (zI en)]) (rest := []) hS hK hA hW hl.1 [0] [] (kX1_addBreak l D cI cB a cn num 5 v.1 ((-5)) en (by omega)) (cwV 5 hts gX1_passMove_X1_addBreak rfl rfl rfl (by decide +kernel) ⟨Nat.le_of_ble_eq_true rfl, Nat.le_of_ble_eq_true rfl⟩) (rfl : vwCl[1]? = some (RX1, TX1, 6)) (q0 := 0) rfl dX1_passMove_61 rfl rfl rfl rfl rfl (Nat.le_of_ble_eq_true rfl) ⟨Nat.le_of_ble_eq_true rfl, Nat.le_of_ble_eq_true rfl⟩ (fun v9 w9 H locs hq hW => ?_)
        obtain ⟨rfl, rfl, hh_61⟩ := hq
        have hW : zW D A s.heap [zCont cI a (addBk cn (num, 5, v.1, ((-5)), en))] H locs := hW
        refine W.eq (g2 := F0 m 64 ls []) rfl ?_
        refine lv_aload_n hx hb dX1_passMove_64 rfl (lv_at hl 3 rfl) ?_
        refine va_get (D := D) (ci := 1) (v := .ref (a 2)) (C := RX1) (T := TX1) (N := 6) hx hb hts iX1_passMove_X1 hown hK.1 hW.1 0 rfl rfl 1 (by decide) (hts _ mX1_passMove_4) (fun _ h9 => h9) rfl dX1_passMove_65 ?_
        refine lv_iload hx hb dX1_passMove_68 (lv_at hl 2 rfl) ?_
        refine lv_iload hx hb dX1_passMove_70 (lv_at hl 1 rfl) ?_
        refine z_setCell (n := 4) (g := ct_mov (addBk cn (num, 5, v.1, ((-5)), en))) (i := v.1) (v := v.2.1) (rest := []) (bs1 := [zCont cI a (ct_mov_ (addBk cn (num, 5, v.1, ((-5)), en)) (zU (ct_mov (addBk cn (num, 5, v.1, ((-5)), en))) v.1 v.2.1))]) hS hK hA hW hl.1 2 rfl (gX1_passMove_X4_setCell_n90) nm_26 (mX1_passMove_0) (mX1_passMove_6) ⟨Nat.le_of_ble_eq_true rfl, Nat.le_of_ble_eq_true rfl⟩ dX1_passMove_72 (by omega) rfl (Nat.le_of_ble_eq_true rfl) ⟨Nat.le_of_ble_eq_true rfl, Nat.le_of_ble_eq_true rfl⟩ (fun H locs hW => ?_)
        exact z_vret hx hb hr hlk hW dX1_passMove_75 (by
            exact ⟨(ct_mov_ (addBk cn (num, 5, v.1, ((-5)), en)) (zU (ct_mov (addBk cn (num, 5, v.1, ((-5)), en))) v.1 v.2.1)), rfl, rfl, by refine ⟨?_, rfl, rfl⟩; rw [evStep_m (by omega), if_pos (by omega)]; exact RC_mov (RC_add hRC _) _ _ _ (by rw [if_neg (by omega)])⟩)
  · refine lv_aload_n hx hb dX1_passMove_18 rfl (lv_at hl 2 rfl) ?_
    refine va_get (D := D) (ci := 1) (v := .ref (a 2)) (C := RX1) (T := TX1) (N := 6) hx hb hts iX1_passMove_X1 hown hK.1 hW.1 0 rfl rfl 1 (by decide) (hts _ mX1_passMove_4) (fun _ h9 => h9) rfl dX1_passMove_19 ?_
    refine lv_iload hx hb dX1_passMove_22 (lv_at hl 1 rfl) ?_
    refine lv_iconst (v := zI (-1)) hx hb dX1_passMove_24 rfl ?_
    refine z_setCell (n := 4) (g := ct_mov cn) (i := v.1) (v := (-1)) (rest := []) (bs1 := [zCont cI a (ct_mov_ cn (zU (ct_mov cn) v.1 ((-1))))]) hS hK hA hW hl.1 2 rfl (gX1_passMove_X4_setCell_n90) nm_26 (mX1_passMove_0) (mX1_passMove_6) ⟨Nat.le_of_ble_eq_true rfl, Nat.le_of_ble_eq_true rfl⟩ dX1_passMove_25 (by omega) rfl (Nat.le_of_ble_eq_true rfl) ⟨Nat.le_of_ble_eq_true rfl, Nat.le_of_ble_eq_true rfl⟩ (fun H locs hW => ?_)
    exact z_vret hx hb hr hlk hW dX1_passMove_28 (by
        exact ⟨(ct_mov_ cn (zU (ct_mov cn) v.1 ((-1)))), rfl, rfl, by refine ⟨?_, rfl, rfl⟩; rw [evStep_5 (by omega)]; exact RC_mov hRC _ _ _ (by decide)⟩)
