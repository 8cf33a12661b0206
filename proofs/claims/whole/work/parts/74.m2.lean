abbrev qX5_of (cI : ClassId) (a : Nat → Nat) (b : zM2) (y1 y2 : Int) : Option Value → List va_W → Prop := fun vq wq => ∃ (r : Int), vq = some (.int (zI r)) ∧ wq = [zMod2 cI a b] ∧ (r = fL (mm_all b) y1 y2)
set_option maxRecDepth 20000 in
theorem iX5_of_X5 : ∀ w ∈ u_ws RX5 TX5 18, w ∈ wsX5_of := by decide +kernel
set_option maxRecDepth 20000 in
theorem mX5_of_1 : (.fieldLink RX5 7 "StoryPanelsModel" "all" "[I" : Cond) ∈ wsX5_of := by decide +kernel
set_option maxHeartbeats 4000000 in
set_option maxRecDepth 100000 in
theorem kX5_of (l : Launch) (D : va_G) (cI cB : ClassId) (a : Nat → Nat) (b : zM2) (y1 y2 : Int) (hy1 : 0 ≤ y1 ∧ y1 < 10) (hy2 : 0 ≤ y2 ∧ y2 < 22) : zMet l yX5_of wsX5_of 0 0 0 0 D cI cB [.ref (a 0), .int (zI y1), .int (zI y2)] [zMod2 cI a b] (qX5_of cI a b y1 y2) := by
  refine zMet.of (cd := cX5_of) (maxL := 3) (ret := (some .int)) (by decide) rfl (Nat.le_of_ble_eq_true rfl) ?_
  intro p e s m args below meth c A ls hS hr hlk hnm hK hA hW hl
  have hS : CallFix p m c cX5_of 3 s args wsX5_of RX5 := hS
  have hx := hS.1
  have hb := hS.2.1
  have hown := hS.2.2.2.1
  have hts := hS.2.2.2.2
  have hl : lv_has ls 3 [(0, .ref (a 0)), (1, .int (zI y1)), (2, .int (zI y2))] := hl
  refine lv_aload_n hx hb dX5_of_0 rfl (lv_at hl 0 rfl) ?_
  refine va_get (D := D) (ci := 5) (v := .ref (a 1)) (C := RX5) (T := TX5) (N := 18) hx hb hts iX5_of_X5 hown hK.1 hW.1 0 rfl rfl 0 (by decide) (hts _ mX5_of_1) (fun _ h9 => h9) rfl dX5_of_1 ?_
  refine lv_bipush (v := zI (7)) hx hb dX5_of_4 (by decide +kernel) ?_
  refine lv_bipush (v := zI (22)) hx hb dX5_of_6 (by decide +kernel) ?_
  refine lv_iload_n hx hb dX5_of_8 rfl (lv_at hl 1 rfl) ?_
  refine z_imul hx hb dX5_of_9 ?_
  refine z_iadd hx hb dX5_of_10 ?_
  refine lv_iload_n hx hb dX5_of_11 rfl (lv_at hl 2 rfl) ?_
  refine z_iadd hx hb dX5_of_12 ?_
  refine z_iald (n := 227) (g := mm_all b) hx hb hK hW 1 rfl dX5_of_13 (by omega) ?_
  exact z_iret (v := (mm_all b) ((7 + (22 * y1)) + y2)) hx hb hr hlk hW dX5_of_14 (by
      exact ⟨(mm_all b) ((7 + (22 * y1)) + y2), rfl, rfl, by rfl⟩)

abbrev qX5_eventOf (cI : ClassId) (a : Nat → Nat) (b : zM2) (y1 y2 y3 : Int) : Option Value → List va_W → Prop := fun vq wq => ∃ (r : Int), vq = some (.int (zI r)) ∧ wq = [zMod2 cI a b] ∧ (r = mm_all b (7 + 22 * y1 + (4 + 3 * y2 + y3)))
set_option maxHeartbeats 4000000 in
set_option maxRecDepth 100000 in
theorem kX5_eventOf (l : Launch) (D : va_G) (cI cB : ClassId) (a : Nat → Nat) (b : zM2) (y1 y2 y3 : Int) (hy1 : 0 ≤ y1 ∧ y1 < 10) (hy2 : 0 ≤ y2 ∧ y2 < 6) (hy3 : 0 ≤ y3 ∧ y3 < 3) : zMet l yX5_eventOf wsX5_eventOf 1 22 0 0 D cI cB [.ref (a 0), .int (zI y1), .int (zI y2), .int (zI y3)] [zMod2 cI a b] (qX5_eventOf cI a b y1 y2 y3) := by
  refine zMet.of (cd := cX5_eventOf) (maxL := 4) (ret := (some .int)) (by decide) rfl (Nat.le_of_ble_eq_true rfl) ?_
  intro p e s m args below meth c A ls hS hr hlk hnm hK hA hW hl
  have hS : CallFix p m c cX5_eventOf 4 s args wsX5_eventOf RX5 := hS
  have hx := hS.1
  have hb := hS.2.1
  have hown := hS.2.2.2.1
  have hts := hS.2.2.2.2
  have hl : lv_has ls 4 [(0, .ref (a 0)), (1, .int (zI y1)), (2, .int (zI y2)), (3, .int (zI y3))] := hl
  refine lv_aload_n hx hb dX5_eventOf_0 rfl (lv_at hl 0 rfl) ?_
  refine lv_iload_n hx hb dX5_eventOf_1 rfl (lv_at hl 1 rfl) ?_
  refine lv_iconst (v := zI (4)) hx hb dX5_eventOf_2 rfl ?_
  refine lv_iconst (v := zI (3)) hx hb dX5_eventOf_3 rfl ?_
  refine lv_iload_n hx hb dX5_eventOf_4 rfl (lv_at hl 2 rfl) ?_
  refine z_imul hx hb dX5_eventOf_5 ?_
  refine z_iadd hx hb dX5_eventOf_6 ?_
  refine lv_iload_n hx hb dX5_eventOf_7 rfl (lv_at hl 3 rfl) ?_
  refine z_iadd hx hb dX5_eventOf_8 ?_
  refine z_callV (r := (RX5, TX5, 18)) (As := [.int (zI y1), .int (zI ((4 + (3 * y2)) + y3))]) (rest := []) hS hK hA hW hl.1 [0] [] (kX5_of l D cI cB a b y1 ((4 + (3 * y2)) + y3) (by omega) (by omega)) (cwV 2 hts gX5_eventOf_X5_of rfl rfl rfl (by decide +kernel) ⟨Nat.le_of_ble_eq_true rfl, Nat.le_of_ble_eq_true rfl⟩) (rfl : vwCl[5]? = some (RX5, TX5, 18)) (q0 := 0) rfl dX5_eventOf_9 rfl rfl rfl rfl rfl (Nat.le_of_ble_eq_true rfl) ⟨Nat.le_of_ble_eq_true rfl, Nat.le_of_ble_eq_true rfl⟩ (fun v9 w9 H locs hq hW => ?_)
  obtain ⟨rr_9, rfl, rfl, hh_9⟩ := hq
  subst rr_9
  have hW : zW D A s.heap [zMod2 cI a b] H locs := hW
  refine W.eq (g2 := F0 m 12 ls [.int (zI (fL (mm_all b) y1 ((4 + (3 * y2)) + y3)))]) rfl ?_
  exact z_iret (v := fL (mm_all b) y1 ((4 + (3 * y2)) + y3)) hx hb hr hlk hW dX5_eventOf_12 (by
      exact ⟨fL (mm_all b) y1 ((4 + (3 * y2)) + y3), rfl, rfl, by rfl⟩)

abbrev qX5_lieOf (cI : ClassId) (a : Nat → Nat) (b : zM2) (y1 : Int) (L : List zPn) (O : List Int) (ev : Int) (n : Int) : Option Value → List va_W → Prop := fun vq wq => ∃ (r : Int), vq = some (.int (zI r)) ∧ wq = [zMod2 cI a b] ∧ ((r = -5 ∧ noP L y1) ∨ ∃ (k : Nat) (p : zPn), isP L k p y1 ∧ r = (k : Int))
set_option maxRecDepth 20000 in
theorem iX5_lieOf_X5 : ∀ w ∈ u_ws RX5 TX5 18, w ∈ wsX5_lieOf := by decide +kernel
set_option maxRecDepth 20000 in
theorem mX5_lieOf_1 : (.fieldLink RX5 7 "StoryPanelsModel" "all" "[I" : Cond) ∈ wsX5_lieOf := by decide +kernel
set_option maxHeartbeats 4000000 in
set_option maxRecDepth 100000 in
theorem kX5_lieOf (l : Launch) (D : va_G) (cI cB : ClassId) (a : Nat → Nat) (b : zM2) (y1 : Int) (L : List zPn) (O : List Int) (ev : Int) (n : Int) (hM : RMb (mm_all b) L O ev n) (hy1 : R32 y1) : zMet l yX5_lieOf wsX5_lieOf 1 22 0 0 D cI cB [.ref (a 0), .int (zI y1)] [zMod2 cI a b] (qX5_lieOf cI a b y1 L O ev n) := by
  refine zMet.of (cd := cX5_lieOf) (maxL := 3) (ret := (some .int)) (by decide) rfl (Nat.le_of_ble_eq_true rfl) ?_
  intro p e s m args below meth c A ls hS hr hlk hnm hK hA hW hl
  have hS : CallFix p m c cX5_lieOf 3 s args wsX5_lieOf RX5 := hS
  have hx := hS.1
  have hb := hS.2.1
  have hown := hS.2.2.2.1
  have hts := hS.2.2.2.2
  have hl : lv_has ls 3 [(0, .ref (a 0)), (1, .int (zI y1))] := hl
  have hM1 := hM.2.1
  have hM3 := hM.2.2.1
  refine lv_iconst (v := zI (0)) hx hb dX5_lieOf_0 rfl ?_
  refine lv_istore_n (lv' := [(2, .int (zI 0)), (0, .ref (a 0)), (1, .int (zI y1))]) hx hb dX5_lieOf_1 rfl hl (by decide) rfl (fun ls hl => ?_)
  have L2 : ∀ (fu : Nat) (ki : Int), (0 ≤ ki ∧ ki ≤ (L.length : Int)) → (noLt L y1 ki) → ((L.length : Int) - ki) < (fu : Int) → ∀ (H : Heap) (locs : List Loc), zW D A s.heap [zMod2 cI a b] H locs → ∀ (ls : Array Slot), lv_has ls 3 [(0, .ref (a 0)), (1, .int (zI y1)), (2, .int (zI ki))] → W p l e { frames := 1, cells := 0, slots := 0, locals := 22 } s m args below meth c H locs 0 0 (MQ below (zQ A D (qX5_lieOf cI a b y1 L O ev n)) args s 0 0 A) (F0 m 2 ls []) := by
    intro fu
    induction fu with
    | zero => intro ki hki hno hm; exact absurd hm (by omega)
    | succ fu ih2 =>
      intro ki hki hno hm H locs hW ls hl
      refine lv_iload_n hx hb dX5_lieOf_2 rfl (lv_at hl 2 rfl) ?_
      refine lv_aload_n hx hb dX5_lieOf_3 rfl (lv_at hl 0 rfl) ?_
      refine va_get (D := D) (ci := 5) (v := .ref (a 1)) (C := RX5) (T := TX5) (N := 18) hx hb hts iX5_lieOf_X5 hown hK.1 hW.1 0 rfl rfl 0 (by decide) (hts _ mX5_lieOf_1) (fun _ h9 => h9) rfl dX5_lieOf_4 ?_
      refine lv_iconst (v := zI (1)) hx hb dX5_lieOf_7 rfl ?_
      refine z_iald (n := 227) (g := mm_all b) hx hb hK hW 1 rfl dX5_lieOf_8 (by omega) ?_
      refine z_icmp_ge (tgt := 30) hx hb dX5_lieOf_9 (by decide) (by omega) (fun cc_9 => ?_) (fun cc_9 => ?_)
      · refine lv_bipush (v := zI (-5)) hx hb dX5_lieOf_30 (by decide +kernel) ?_
        exact z_iret (v := (-5)) hx hb hr hlk hW dX5_lieOf_32 (by
            exact ⟨(-5), rfl, rfl, by exact Or.inl ⟨rfl, noLt_all hno (by omega)⟩⟩)
      · obtain ⟨pk, hpk, hrk, hok, -⟩ := RM_k hM (k := ki) (by omega)
        have hok1 := hok.1
        have hok2 := hok.2.1
        have hok3 := hok.2.2.1
        have hok4 := hok.2.2.2.1
        refine lv_aload_n hx hb dX5_lieOf_12 rfl (lv_at hl 0 rfl) ?_
        refine lv_iload_n hx hb dX5_lieOf_13 rfl (lv_at hl 2 rfl) ?_
        refine lv_iconst (v := zI (0)) hx hb dX5_lieOf_14 rfl ?_
        refine z_callV (r := (RX5, TX5, 18)) (As := [.int (zI ki), .int (zI 0)]) (rest := []) hS hK hA hW hl.1 [0] [] (kX5_of l D cI cB a b ki 0 (by omega) (by omega)) (cwV 2 hts gX5_lieOf_X5_of rfl rfl rfl (by decide +kernel) ⟨Nat.le_of_ble_eq_true rfl, Nat.le_of_ble_eq_true rfl⟩) (rfl : vwCl[5]? = some (RX5, TX5, 18)) (q0 := 0) rfl dX5_lieOf_15 rfl rfl rfl rfl rfl (Nat.le_of_ble_eq_true rfl) ⟨Nat.le_of_ble_eq_true rfl, Nat.le_of_ble_eq_true rfl⟩ (fun v9 w9 H locs hq hW => ?_)
        obtain ⟨rr_15, rfl, rfl, hh_15⟩ := hq
        subst rr_15
        have hW : zW D A s.heap [zMod2 cI a b] H locs := hW
        refine W.eq (g2 := F0 m 18 ls [.int (zI (fL (mm_all b) ki 0))]) rfl ?_
        rw [show (fL (mm_all b) ki 0) = pk.1 by exact hrk.1]
        refine lv_iload_n hx hb dX5_lieOf_18 rfl (lv_at hl 1 rfl) ?_
        refine z_icmp_ne (tgt := 24) hx hb dX5_lieOf_19 (by decide) (by omega) (fun cc_19 => ?_) (fun cc_19 => ?_)
        · refine z_iinc (x := ki) (lv' := [(2, .int (zI (ki + 1))), (0, .ref (a 0)), (1, .int (zI y1))]) hx hb dX5_lieOf_24 hl (k := 2) rfl (by decide) rfl (fun ls hl => ?_)
          refine lv_goto (tgt := 2) hx hb dX5_lieOf_27 (by decide) ?_
          exact ih2 (ki + 1) (by omega) (by exact noLt_s hno hki.1 hpk (by omega)) (by omega) _ _ hW ls (lv_sub hl [1, 2, 0] rfl)
        · refine lv_iload_n hx hb dX5_lieOf_22 rfl (lv_at hl 2 rfl) ?_
          exact z_iret (v := ki) hx hb hr hlk hW dX5_lieOf_23 (by
              exact ⟨ki, rfl, rfl, by exact Or.inr ⟨ki.toNat, pk, ⟨hpk, by omega⟩, by omega⟩⟩)
  exact L2 ((((L.length : Int) - 0) : Int).toNat + 1) 0 (by omega) (by exact noLt_0 L y1) (by omega) _ _ hW ls (lv_sub hl [1, 2, 0] rfl)

abbrev qX5_panelsOf (cI : ClassId) (a : Nat → Nat) (b : zM2) (y1 : Int) (L : List zPn) (O : List Int) (ev : Int) (n : Int) : Option Value → List va_W → Prop := fun vq wq => ∃ (r : Int), vq = some (.int (zI r)) ∧ wq = [zMod2 cI a b] ∧ (r = inC L y1)
set_option maxRecDepth 20000 in
theorem iX5_panelsOf_X5 : ∀ w ∈ u_ws RX5 TX5 18, w ∈ wsX5_panelsOf := by decide +kernel
set_option maxRecDepth 20000 in
theorem mX5_panelsOf_1 : (.fieldLink RX5 7 "StoryPanelsModel" "all" "[I" : Cond) ∈ wsX5_panelsOf := by decide +kernel
set_option maxHeartbeats 4000000 in
set_option maxRecDepth 100000 in
theorem kX5_panelsOf (l : Launch) (D : va_G) (cI cB : ClassId) (a : Nat → Nat) (b : zM2) (y1 : Int) (L : List zPn) (O : List Int) (ev : Int) (n : Int) (hM : RMb (mm_all b) L O ev n) (hy1 : R32 y1) : zMet l yX5_panelsOf wsX5_panelsOf 1 22 0 0 D cI cB [.ref (a 0), .int (zI y1)] [zMod2 cI a b] (qX5_panelsOf cI a b y1 L O ev n) := by
  refine zMet.of (cd := cX5_panelsOf) (maxL := 4) (ret := (some .int)) (by decide) rfl (Nat.le_of_ble_eq_true rfl) ?_
  intro p e s m args below meth c A ls hS hr hlk hnm hK hA hW hl
  have hS : CallFix p m c cX5_panelsOf 4 s args wsX5_panelsOf RX5 := hS
  have hx := hS.1
  have hb := hS.2.1
  have hown := hS.2.2.2.1
  have hts := hS.2.2.2.2
  have hl : lv_has ls 4 [(0, .ref (a 0)), (1, .int (zI y1))] := hl
  have hM1 := hM.2.1
  have hM3 := hM.2.2.1
  refine lv_iconst (v := zI (0)) hx hb dX5_panelsOf_0 rfl ?_
  refine lv_istore_n (lv' := [(2, .int (zI 0)), (0, .ref (a 0)), (1, .int (zI y1))]) hx hb dX5_panelsOf_1 rfl hl (by decide) rfl (fun ls hl => ?_)
  refine lv_iconst (v := zI (0)) hx hb dX5_panelsOf_2 rfl ?_
  refine lv_istore_n (lv' := [(3, .int (zI 0)), (2, .int (zI 0)), (0, .ref (a 0)), (1, .int (zI y1))]) hx hb dX5_panelsOf_3 rfl hl (by decide) rfl (fun ls hl => ?_)
  have L4 : ∀ (fu : Nat) (fc : Int) (ki : Int), (0 ≤ ki ∧ ki ≤ (L.length : Int)) → (fc = inC (L.take ki.toNat) y1) → ((L.length : Int) - ki) < (fu : Int) → ∀ (H : Heap) (locs : List Loc), zW D A s.heap [zMod2 cI a b] H locs → ∀ (ls : Array Slot), lv_has ls 4 [(0, .ref (a 0)), (1, .int (zI y1)), (2, .int (zI fc)), (3, .int (zI ki))] → W p l e { frames := 1, cells := 0, slots := 0, locals := 22 } s m args below meth c H locs 0 0 (MQ below (zQ A D (qX5_panelsOf cI a b y1 L O ev n)) args s 0 0 A) (F0 m 4 ls []) := by
    intro fu
    induction fu with
    | zero => intro fc ki hki hfc hm; exact absurd hm (by omega)
    | succ fu ih4 =>
      intro fc ki hki hfc hm H locs hW ls hl
      refine lv_iload_n hx hb dX5_panelsOf_4 rfl (lv_at hl 3 rfl) ?_
      refine lv_aload_n hx hb dX5_panelsOf_5 rfl (lv_at hl 0 rfl) ?_
      refine va_get (D := D) (ci := 5) (v := .ref (a 1)) (C := RX5) (T := TX5) (N := 18) hx hb hts iX5_panelsOf_X5 hown hK.1 hW.1 0 rfl rfl 0 (by decide) (hts _ mX5_panelsOf_1) (fun _ h9 => h9) rfl dX5_panelsOf_6 ?_
      refine lv_iconst (v := zI (1)) hx hb dX5_panelsOf_9 rfl ?_
      refine z_iald (n := 227) (g := mm_all b) hx hb hK hW 1 rfl dX5_panelsOf_10 (by omega) ?_
      refine z_icmp_ge (tgt := 38) hx hb dX5_panelsOf_11 (by decide) (by omega) (fun cc_11 => ?_) (fun cc_11 => ?_)
      · refine lv_iload_n hx hb dX5_panelsOf_38 rfl (lv_at hl 2 rfl) ?_
        exact z_iret (v := fc) hx hb hr hlk hW dX5_panelsOf_39 (by
            exact ⟨fc, rfl, rfl, by rw [hfc, List.take_of_length_le (by omega)]⟩)
      · obtain ⟨pk, hpk, hrk, hok, -⟩ := RM_k hM (k := ki) (by omega)
        have hok1 := hok.1
        have hok2 := hok.2.1
        have hok3 := hok.2.2.1
        have hok4 := hok.2.2.2.1
        refine lv_iload_n hx hb dX5_panelsOf_14 rfl (lv_at hl 2 rfl) ?_
        refine lv_aload_n hx hb dX5_panelsOf_15 rfl (lv_at hl 0 rfl) ?_
        refine lv_iload_n hx hb dX5_panelsOf_16 rfl (lv_at hl 3 rfl) ?_
        refine lv_iconst (v := zI (1)) hx hb dX5_panelsOf_17 rfl ?_
        refine z_callV (r := (RX5, TX5, 18)) (As := [.int (zI ki), .int (zI 1)]) (rest := [.int (zI fc)]) hS hK hA hW hl.1 [0] [] (kX5_of l D cI cB a b ki 1 (by omega) (by omega)) (cwV 2 hts gX5_panelsOf_X5_of rfl rfl rfl (by decide +kernel) ⟨Nat.le_of_ble_eq_true rfl, Nat.le_of_ble_eq_true rfl⟩) (rfl : vwCl[5]? = some (RX5, TX5, 18)) (q0 := 0) rfl dX5_panelsOf_18 rfl rfl rfl rfl rfl (Nat.le_of_ble_eq_true rfl) ⟨Nat.le_of_ble_eq_true rfl, Nat.le_of_ble_eq_true rfl⟩ (fun v9 w9 H locs hq hW => ?_)
        obtain ⟨rr_18, rfl, rfl, hh_18⟩ := hq
        subst rr_18
        have hW : zW D A s.heap [zMod2 cI a b] H locs := hW
        refine W.eq (g2 := F0 m 21 ls [.int (zI (fL (mm_all b) ki 1)), .int (zI fc)]) rfl ?_
        rw [show (fL (mm_all b) ki 1) = pk.2.1 by exact hrk.2.1]
        refine lv_iload_n hx hb dX5_panelsOf_21 rfl (lv_at hl 1 rfl) ?_
        refine z_icmp_ne (tgt := 29) hx hb dX5_panelsOf_22 (by decide) (by omega) (fun cc_22 => ?_) (fun cc_22 => ?_)
        · refine lv_iconst (v := zI (0)) hx hb dX5_panelsOf_29 rfl ?_
          refine z_iadd hx hb dX5_panelsOf_30 ?_
          refine lv_istore_n (lv' := [(2, .int (zI (fc + 0))), (0, .ref (a 0)), (1, .int (zI y1)), (3, .int (zI ki))]) hx hb dX5_panelsOf_31 rfl hl (by decide) rfl (fun ls hl => ?_)
          refine z_iinc (x := ki) (lv' := [(3, .int (zI (ki + 1))), (2, .int (zI (fc + 0))), (0, .ref (a 0)), (1, .int (zI y1))]) hx hb dX5_panelsOf_32 hl (k := 3) rfl (by decide) rfl (fun ls hl => ?_)
          refine lv_goto (tgt := 4) hx hb dX5_panelsOf_35 (by decide) ?_
          exact ih4 (fc + 0) (ki + 1) (by omega) (by first | (rw [inC_take hki.1 hpk, if_pos (by omega), hfc]; done) | (rw [inC_take hki.1 hpk, if_neg (by omega), hfc]; done)) (by omega) _ _ hW ls (lv_sub hl [2, 3, 1, 0] rfl)
        · refine lv_iconst (v := zI (1)) hx hb dX5_panelsOf_25 rfl ?_
          refine lv_goto (tgt := 30) hx hb dX5_panelsOf_26 (by decide) ?_
          refine z_iadd hx hb dX5_panelsOf_30 ?_
          refine lv_istore_n (lv' := [(2, .int (zI (fc + 1))), (0, .ref (a 0)), (1, .int (zI y1)), (3, .int (zI ki))]) hx hb dX5_panelsOf_31 rfl hl (by decide) rfl (fun ls hl => ?_)
          refine z_iinc (x := ki) (lv' := [(3, .int (zI (ki + 1))), (2, .int (zI (fc + 1))), (0, .ref (a 0)), (1, .int (zI y1))]) hx hb dX5_panelsOf_32 hl (k := 3) rfl (by decide) rfl (fun ls hl => ?_)
          refine lv_goto (tgt := 4) hx hb dX5_panelsOf_35 (by decide) ?_
          exact ih4 (fc + 1) (ki + 1) (by omega) (by first | (rw [inC_take hki.1 hpk, if_pos (by omega), hfc]; done) | (rw [inC_take hki.1 hpk, if_neg (by omega), hfc]; done)) (by omega) _ _ hW ls (lv_sub hl [2, 3, 1, 0] rfl)
  exact L4 ((((L.length : Int) - 0) : Int).toNat + 1) 0 0 (by omega) (by rfl) (by omega) _ _ hW ls (lv_sub hl [2, 3, 1, 0] rfl)

abbrev qX5_placeOf (cI : ClassId) (a : Nat → Nat) (b : zM2) (y1 : Int) (L : List zPn) (O : List Int) (ev : Int) (n : Int) (k : Nat) (pq : zPn) : Option Value → List va_W → Prop := fun vq wq => ∃ (r : Int), vq = some (.int (zI r)) ∧ wq = [zMod2 cI a b] ∧ (r = inC (L.take k) pq.2.1)
set_option maxHeartbeats 4000000 in
set_option maxRecDepth 100000 in
theorem kX5_placeOf (l : Launch) (D : va_G) (cI cB : ClassId) (a : Nat → Nat) (b : zM2) (y1 : Int) (L : List zPn) (O : List Int) (ev : Int) (n : Int) (k : Nat) (pq : zPn) (hM : RMb (mm_all b) L O ev n) (hpq : L[k]? = some pq) (hy1 : y1 = (k : Int)) : zMet l yX5_placeOf wsX5_placeOf 1 22 0 0 D cI cB [.ref (a 0), .int (zI y1)] [zMod2 cI a b] (qX5_placeOf cI a b y1 L O ev n k pq) := by
  refine zMet.of (cd := cX5_placeOf) (maxL := 4) (ret := (some .int)) (by decide) rfl (Nat.le_of_ble_eq_true rfl) ?_
  intro p e s m args below meth c A ls hS hr hlk hnm hK hA hW hl
  have hS : CallFix p m c cX5_placeOf 4 s args wsX5_placeOf RX5 := hS
  have hx := hS.1
  have hb := hS.2.1
  have hown := hS.2.2.2.1
  have hts := hS.2.2.2.2
  have hl : lv_has ls 4 [(0, .ref (a 0)), (1, .int (zI y1))] := hl
  have hM1 := hM.2.1
  have hM3 := hM.2.2.1
  have hkl := (List.getElem?_eq_some_iff.mp hpq).1
  have hrq := hM.2.2.2.2.2.1 k pq hpq
  have hoq := (hM.2.2.2.2.2.2.1 pq (List.mem_of_getElem? hpq)).1.2.1
  refine lv_iconst (v := zI (0)) hx hb dX5_placeOf_0 rfl ?_
  refine lv_istore_n (lv' := [(2, .int (zI 0)), (0, .ref (a 0)), (1, .int (zI y1))]) hx hb dX5_placeOf_1 rfl hl (by decide) rfl (fun ls hl => ?_)
  refine lv_iconst (v := zI (0)) hx hb dX5_placeOf_2 rfl ?_
  refine lv_istore_n (lv' := [(3, .int (zI 0)), (2, .int (zI 0)), (0, .ref (a 0)), (1, .int (zI y1))]) hx hb dX5_placeOf_3 rfl hl (by decide) rfl (fun ls hl => ?_)
  have L4 : ∀ (fu : Nat) (fc : Int) (ki : Int), (0 ≤ ki ∧ ki ≤ (k : Int)) → (fc = inC (L.take ki.toNat) pq.2.1) → ((k : Int) - ki) < (fu : Int) → ∀ (H : Heap) (locs : List Loc), zW D A s.heap [zMod2 cI a b] H locs → ∀ (ls : Array Slot), lv_has ls 4 [(0, .ref (a 0)), (1, .int (zI y1)), (2, .int (zI fc)), (3, .int (zI ki))] → W p l e { frames := 1, cells := 0, slots := 0, locals := 22 } s m args below meth c H locs 0 0 (MQ below (zQ A D (qX5_placeOf cI a b y1 L O ev n k pq)) args s 0 0 A) (F0 m 4 ls []) := by
    intro fu
    induction fu with
    | zero => intro fc ki hki hfc hm; exact absurd hm (by omega)
    | succ fu ih4 =>
      intro fc ki hki hfc hm H locs hW ls hl
      refine lv_iload_n hx hb dX5_placeOf_4 rfl (lv_at hl 3 rfl) ?_
      refine lv_iload_n hx hb dX5_placeOf_5 rfl (lv_at hl 1 rfl) ?_
      refine z_icmp_ge (tgt := 38) hx hb dX5_placeOf_6 (by decide) (by omega) (fun cc_6 => ?_) (fun cc_6 => ?_)
      · refine lv_iload_n hx hb dX5_placeOf_38 rfl (lv_at hl 2 rfl) ?_
        exact z_iret (v := fc) hx hb hr hlk hW dX5_placeOf_39 (by
            exact ⟨fc, rfl, rfl, by rw [hfc, show ki.toNat = k by omega]⟩)
      · obtain ⟨pk, hpk, hrk, hok, -⟩ := RM_k hM (k := ki) (by omega)
        have hok1 := hok.1
        have hok2 := hok.2.1
        have hok3 := hok.2.2.1
        have hok4 := hok.2.2.2.1
        refine lv_iload_n hx hb dX5_placeOf_9 rfl (lv_at hl 2 rfl) ?_
        refine lv_aload_n hx hb dX5_placeOf_10 rfl (lv_at hl 0 rfl) ?_
        refine lv_iload_n hx hb dX5_placeOf_11 rfl (lv_at hl 3 rfl) ?_
        refine lv_iconst (v := zI (1)) hx hb dX5_placeOf_12 rfl ?_
        refine z_callV (r := (RX5, TX5, 18)) (As := [.int (zI ki), .int (zI 1)]) (rest := [.int (zI fc)]) hS hK hA hW hl.1 [0] [] (kX5_of l D cI cB a b ki 1 (by omega) (by omega)) (cwV 2 hts gX5_placeOf_X5_of rfl rfl rfl (by decide +kernel) ⟨Nat.le_of_ble_eq_true rfl, Nat.le_of_ble_eq_true rfl⟩) (rfl : vwCl[5]? = some (RX5, TX5, 18)) (q0 := 0) rfl dX5_placeOf_13 rfl rfl rfl rfl rfl (Nat.le_of_ble_eq_true rfl) ⟨Nat.le_of_ble_eq_true rfl, Nat.le_of_ble_eq_true rfl⟩ (fun v9 w9 H locs hq hW => ?_)
        obtain ⟨rr_13, rfl, rfl, hh_13⟩ := hq
        subst rr_13
        have hW : zW D A s.heap [zMod2 cI a b] H locs := hW
        refine W.eq (g2 := F0 m 16 ls [.int (zI (fL (mm_all b) ki 1)), .int (zI fc)]) rfl ?_
        rw [show (fL (mm_all b) ki 1) = pk.2.1 by exact hrk.2.1]
        refine lv_aload_n hx hb dX5_placeOf_16 rfl (lv_at hl 0 rfl) ?_
        refine lv_iload_n hx hb dX5_placeOf_17 rfl (lv_at hl 1 rfl) ?_
        refine lv_iconst (v := zI (1)) hx hb dX5_placeOf_18 rfl ?_
        refine z_callV (r := (RX5, TX5, 18)) (As := [.int (zI y1), .int (zI 1)]) (rest := [.int (zI pk.2.1), .int (zI fc)]) hS hK hA hW hl.1 [0] [] (kX5_of l D cI cB a b y1 1 (by omega) (by omega)) (cwV 2 hts gX5_placeOf_X5_of rfl rfl rfl (by decide +kernel) ⟨Nat.le_of_ble_eq_true rfl, Nat.le_of_ble_eq_true rfl⟩) (rfl : vwCl[5]? = some (RX5, TX5, 18)) (q0 := 0) rfl dX5_placeOf_19 rfl rfl rfl rfl rfl (Nat.le_of_ble_eq_true rfl) ⟨Nat.le_of_ble_eq_true rfl, Nat.le_of_ble_eq_true rfl⟩ (fun v9 w9 H locs hq hW => ?_)
        obtain ⟨rr_19, rfl, rfl, hh_19⟩ := hq
        subst rr_19
        have hW : zW D A s.heap [zMod2 cI a b] H locs := hW
        refine W.eq (g2 := F0 m 22 ls [.int (zI (fL (mm_all b) y1 1)), .int (zI pk.2.1), .int (zI fc)]) rfl ?_
        rw [show (fL (mm_all b) y1 1) = pq.2.1 by exact (by rw [hy1]; exact hrq.2.1)]
        refine z_icmp_ne (tgt := 29) hx hb dX5_placeOf_22 (by decide) (by omega) (fun cc_22 => ?_) (fun cc_22 => ?_)
        · refine lv_iconst (v := zI (0)) hx hb dX5_placeOf_29 rfl ?_
          refine z_iadd hx hb dX5_placeOf_30 ?_
          refine lv_istore_n (lv' := [(2, .int (zI (fc + 0))), (0, .ref (a 0)), (1, .int (zI y1)), (3, .int (zI ki))]) hx hb dX5_placeOf_31 rfl hl (by decide) rfl (fun ls hl => ?_)
          refine z_iinc (x := ki) (lv' := [(3, .int (zI (ki + 1))), (2, .int (zI (fc + 0))), (0, .ref (a 0)), (1, .int (zI y1))]) hx hb dX5_placeOf_32 hl (k := 3) rfl (by decide) rfl (fun ls hl => ?_)
          refine lv_goto (tgt := 4) hx hb dX5_placeOf_35 (by decide) ?_
          exact ih4 (fc + 0) (ki + 1) (by omega) (by first | (rw [inC_take hki.1 hpk, if_pos (by omega), hfc]; done) | (rw [inC_take hki.1 hpk, if_neg (by omega), hfc]; done)) (by omega) _ _ hW ls (lv_sub hl [2, 3, 1, 0] rfl)
        · refine lv_iconst (v := zI (1)) hx hb dX5_placeOf_25 rfl ?_
          refine lv_goto (tgt := 30) hx hb dX5_placeOf_26 (by decide) ?_
          refine z_iadd hx hb dX5_placeOf_30 ?_
          refine lv_istore_n (lv' := [(2, .int (zI (fc + 1))), (0, .ref (a 0)), (1, .int (zI y1)), (3, .int (zI ki))]) hx hb dX5_placeOf_31 rfl hl (by decide) rfl (fun ls hl => ?_)
          refine z_iinc (x := ki) (lv' := [(3, .int (zI (ki + 1))), (2, .int (zI (fc + 1))), (0, .ref (a 0)), (1, .int (zI y1))]) hx hb dX5_placeOf_32 hl (k := 3) rfl (by decide) rfl (fun ls hl => ?_)
          refine lv_goto (tgt := 4) hx hb dX5_placeOf_35 (by decide) ?_
          exact ih4 (fc + 1) (ki + 1) (by omega) (by first | (rw [inC_take hki.1 hpk, if_pos (by omega), hfc]; done) | (rw [inC_take hki.1 hpk, if_neg (by omega), hfc]; done)) (by omega) _ _ hW ls (lv_sub hl [2, 3, 1, 0] rfl)
  exact L4 ((((k : Int) - 0) : Int).toNat + 1) 0 0 (by omega) (by rfl) (by omega) _ _ hW ls (lv_sub hl [2, 3, 1, 0] rfl)

abbrev qX5_placeOfScene (cI : ClassId) (a : Nat → Nat) (b : zM2) (y1 : Int) (L : List zPn) (O : List Int) (ev : Int) (n : Int) : Option Value → List va_W → Prop := fun vq wq => ∃ (r : Int), vq = some (.int (zI r)) ∧ wq = [zMod2 cI a b] ∧ (r = (O.idxOf y1 : Int))
set_option maxRecDepth 20000 in
theorem iX5_placeOfScene_X5 : ∀ w ∈ u_ws RX5 TX5 18, w ∈ wsX5_placeOfScene := by decide +kernel
set_option maxRecDepth 20000 in
theorem mX5_placeOfScene_1 : (.fieldLink RX5 7 "StoryPanelsModel" "all" "[I" : Cond) ∈ wsX5_placeOfScene := by decide +kernel
set_option maxHeartbeats 4000000 in
set_option maxRecDepth 100000 in
theorem kX5_placeOfScene (l : Launch) (D : va_G) (cI cB : ClassId) (a : Nat → Nat) (b : zM2) (y1 : Int) (L : List zPn) (O : List Int) (ev : Int) (n : Int) (hM : RMb (mm_all b) L O ev n) (hy1 : 0 ≤ y1 ∧ y1 < 5) : zMet l yX5_placeOfScene wsX5_placeOfScene 0 0 0 0 D cI cB [.ref (a 0), .int (zI y1)] [zMod2 cI a b] (qX5_placeOfScene cI a b y1 L O ev n) := by
  refine zMet.of (cd := cX5_placeOfScene) (maxL := 3) (ret := (some .int)) (by decide) rfl (Nat.le_of_ble_eq_true rfl) ?_
  intro p e s m args below meth c A ls hS hr hlk hnm hK hA hW hl
  have hS : CallFix p m c cX5_placeOfScene 3 s args wsX5_placeOfScene RX5 := hS
  have hx := hS.1
  have hb := hS.2.1
  have hown := hS.2.2.2.1
  have hts := hS.2.2.2.2
  have hl : lv_has ls 3 [(0, .ref (a 0)), (1, .int (zI y1))] := hl
  have hI := RM_idx hM hy1
  refine lv_iconst (v := zI (0)) hx hb dX5_placeOfScene_0 rfl ?_
  refine lv_istore_n (lv' := [(2, .int (zI 0)), (0, .ref (a 0)), (1, .int (zI y1))]) hx hb dX5_placeOfScene_1 rfl hl (by decide) rfl (fun ls hl => ?_)
  have L2 : ∀ (fu : Nat) (ki : Int), (0 ≤ ki ∧ ki ≤ (O.idxOf y1 : Int)) → ((O.idxOf y1 : Int) - ki) < (fu : Int) → ∀ (H : Heap) (locs : List Loc), zW D A s.heap [zMod2 cI a b] H locs → ∀ (ls : Array Slot), lv_has ls 3 [(0, .ref (a 0)), (1, .int (zI y1)), (2, .int (zI ki))] → W p l e { frames := 0, cells := 0, slots := 0, locals := 0 } s m args below meth c H locs 0 0 (MQ below (zQ A D (qX5_placeOfScene cI a b y1 L O ev n)) args s 0 0 A) (F0 m 2 ls []) := by
    intro fu
    induction fu with
    | zero => intro ki hki hm; exact absurd hm (by omega)
    | succ fu ih2 =>
      intro ki hki hm H locs hW ls hl
      obtain ⟨sq, hs1, hs2, hs3, hs4⟩ := RM_Ok hM (k := ki) (by omega)
      refine lv_aload_n hx hb dX5_placeOfScene_2 rfl (lv_at hl 0 rfl) ?_
      refine va_get (D := D) (ci := 5) (v := .ref (a 1)) (C := RX5) (T := TX5) (N := 18) hx hb hts iX5_placeOfScene_X5 hown hK.1 hW.1 0 rfl rfl 0 (by decide) (hts _ mX5_placeOfScene_1) (fun _ h9 => h9) rfl dX5_placeOfScene_3 ?_
      refine lv_iconst (v := zI (2)) hx hb dX5_placeOfScene_6 rfl ?_
      refine lv_iload_n hx hb dX5_placeOfScene_7 rfl (lv_at hl 2 rfl) ?_
      refine z_iadd hx hb dX5_placeOfScene_8 ?_
      refine z_iald (n := 227) (g := mm_all b) hx hb hK hW 1 rfl dX5_placeOfScene_9 (by omega) ?_
      refine lv_iload_n hx hb dX5_placeOfScene_10 rfl (lv_at hl 1 rfl) ?_
      refine z_icmp_eq (tgt := 20) hx hb dX5_placeOfScene_11 (by decide) (by omega) (fun cc_11 => ?_) (fun cc_11 => ?_)
      · refine lv_iload_n hx hb dX5_placeOfScene_20 rfl (lv_at hl 2 rfl) ?_
        exact z_iret (v := ki) hx hb hr hlk hW dX5_placeOfScene_21 (by
            exact ⟨ki, rfl, rfl, by rw [← show sq = y1 by omega]; exact hs4.symm⟩)
      · refine z_iinc (x := ki) (lv' := [(2, .int (zI (ki + 1))), (0, .ref (a 0)), (1, .int (zI y1))]) hx hb dX5_placeOfScene_14 hl (k := 2) rfl (by decide) rfl (fun ls hl => ?_)
        refine lv_goto (tgt := 2) hx hb dX5_placeOfScene_17 (by decide) ?_
        exact ih2 (ki + 1) (by (rcases (show ki < (O.idxOf y1 : Int) ∨ ki = (O.idxOf y1 : Int) by omega) with hq | hq; omega; exact absurd (by rw [hq]; exact hI.2.2) cc_11)) (by omega) _ _ hW ls (lv_sub hl [1, 2, 0] rfl)
  exact L2 ((((O.idxOf y1 : Int) - 0) : Int).toNat + 1) 0 (by omega) (by omega) _ _ hW ls (lv_sub hl [1, 2, 0] rfl)

abbrev qX5_remember (cI : ClassId) (a : Nat → Nat) (b : zM2) (L : List zPn) (O : List Int) (ev : Int) : Option Value → List va_W → Prop := fun vq wq => ∃ (zkept : Int → Int), vq = none ∧ wq = [zMod2 cI a (mm_kept_ b zkept)] ∧ (MR zkept (ordC L O, O, ev))
set_option maxRecDepth 20000 in
theorem iX5_remember_X5 : ∀ w ∈ u_ws RX5 TX5 18, w ∈ wsX5_remember := by decide +kernel
set_option maxRecDepth 20000 in
theorem mX5_remember_1 : (.fieldLink RX5 7 "StoryPanelsModel" "all" "[I" : Cond) ∈ wsX5_remember := by decide +kernel
set_option maxRecDepth 20000 in
theorem mX5_remember_2 : (.fieldLink RX5 13 "StoryPanelsModel" "kept" "[I" : Cond) ∈ wsX5_remember := by decide +kernel
set_option maxHeartbeats 4000000 in
set_option maxRecDepth 100000 in
theorem kX5_remember (l : Launch) (D : va_G) (cI cB : ClassId) (a : Nat → Nat) (b : zM2) (L : List zPn) (O : List Int) (ev : Int) (hM : RM (mm_all b) L O ev) : zMet l yX5_remember wsX5_remember 1 22 0 0 D cI cB [.ref (a 0)] [zMod2 cI a b] (qX5_remember cI a b L O ev) := by
  refine zMet.of (cd := cX5_remember) (maxL := 1) (ret := none) (by decide) rfl (Nat.le_of_ble_eq_true rfl) ?_
  intro p e s m args below meth c A ls hS hr hlk hnm hK hA hW hl
  have hS : CallFix p m c cX5_remember 1 s args wsX5_remember RX5 := hS
  have hx := hS.1
  have hb := hS.2.1
  have hown := hS.2.2.2.1
  have hts := hS.2.2.2.2
  have hl : lv_has ls 1 [(0, .ref (a 0))] := hl
  refine lv_aload_n hx hb dX5_remember_0 rfl (lv_at hl 0 rfl) ?_
  refine va_get (D := D) (ci := 5) (v := .ref (a 1)) (C := RX5) (T := TX5) (N := 18) hx hb hts iX5_remember_X5 hown hK.1 hW.1 0 rfl rfl 0 (by decide) (hts _ mX5_remember_1) (fun _ h9 => h9) rfl dX5_remember_1 ?_
  refine lv_aload_n hx hb dX5_remember_4 rfl (lv_at hl 0 rfl) ?_
  refine va_get (D := D) (ci := 5) (v := .ref (a 2)) (C := RX5) (T := TX5) (N := 18) hx hb hts iX5_remember_X5 hown hK.1 hW.1 0 rfl rfl 1 (by decide) (hts _ mX5_remember_2) (fun _ h9 => h9) rfl dX5_remember_5 ?_
  refine z_mcopy (g := mm_all b) (g2 := mm_kept b) (rest := []) (bs1 := [zMod2 cI a (mm_kept_ b (cpF (mm_all b) (mm_kept b) 227))]) hS hK hA hW hl.1 1 2 (by decide) rfl rfl (gX5_remember_X5_copy) ⟨Nat.le_of_ble_eq_true rfl, Nat.le_of_ble_eq_true rfl⟩ dX5_remember_8 rfl (Nat.le_of_ble_eq_true rfl) ⟨Nat.le_of_ble_eq_true rfl, Nat.le_of_ble_eq_true rfl⟩ (fun H locs hW => ?_)
  exact z_vret hx hb hr hlk hW dX5_remember_11 (by
      exact ⟨cpF (mm_all b) (mm_kept b) 227, rfl, rfl, by exact MR_cg (RM_MR hM) (fun j j1 j2 => if_pos ⟨j1, j2⟩)⟩)

abbrev qX5_acted (cI : ClassId) (a : Nat → Nat) (b : zM2) (y1 : Int) (hs : List zSt) (S : zSt) : Option Value → List va_W → Prop := fun vq wq => ∃ (r : Int) (zhis : Int → Int) (zhl : Int), vq = some (.int (zI r)) ∧ wq = [zMod2 cI a (mm_hl_ (mm_his_ b zhis) zhl)] ∧ (r = y1 ∧ MH zhl zhis (pushH hs S))
set_option maxRecDepth 20000 in
theorem iX5_acted_X5 : ∀ w ∈ u_ws RX5 TX5 18, w ∈ wsX5_acted := by decide +kernel
set_option maxRecDepth 20000 in
theorem mX5_acted_1 : (.fieldLink RX5 53 "StoryPanelsModel" "historyLong" "I" : Cond) ∈ wsX5_acted := by decide +kernel
set_option maxRecDepth 20000 in
theorem mX5_acted_2 : (.fieldLink RX5 19 "StoryPanelsModel" "history" "[I" : Cond) ∈ wsX5_acted := by decide +kernel
set_option maxRecDepth 20000 in
theorem mX5_acted_3 : (.fieldLink RX5 13 "StoryPanelsModel" "kept" "[I" : Cond) ∈ wsX5_acted := by decide +kernel
set_option maxHeartbeats 4000000 in
set_option maxRecDepth 100000 in
theorem kX5_acted (l : Launch) (D : va_G) (cI cB : ClassId) (a : Nat → Nat) (b : zM2) (y1 : Int) (hs : List zSt) (S : zSt) (hH : MH (mm_hl b) (mm_his b) hs) (hkp : MR (mm_kept b) S) (hy1 : R32 y1) : zMet l yX5_acted wsX5_acted 0 0 0 0 D cI cB [.ref (a 0), .int (zI y1)] [zMod2 cI a b] (qX5_acted cI a b y1 hs S) := by
  refine zMet.of (cd := cX5_acted) (maxL := 3) (ret := (some .int)) (by decide) rfl (Nat.le_of_ble_eq_true rfl) ?_
  intro p e s m args below meth c A ls hS hr hlk hnm hK hA hW hl
  have hS : CallFix p m c cX5_acted 3 s args wsX5_acted RX5 := hS
  have hx := hS.1
  have hb := hS.2.1
  have hown := hS.2.2.2.1
  have hts := hS.2.2.2.2
  have hl : lv_has ls 3 [(0, .ref (a 0)), (1, .int (zI y1))] := hl
  have hH1 := hH.1
  have hH2 := hH.2.1
  have L49 : ∀ (hn : Int) (hg : Int → Int), ((mm_hl b < 4 ∧ hn = mm_hl b ∧ hg = mm_his b) ∨ (mm_hl b = 4 ∧ hn = 3 ∧ hg = shH (mm_his b) 681)) → ∀ (H : Heap) (locs : List Loc), zW D A s.heap [zMod2 cI a (mm_hl_ (mm_his_ b (hg)) (hn))] H locs → ∀ (ls : Array Slot), lv_has ls 3 [(0, .ref (a 0)), (1, .int (zI y1))] → W p l e { frames := 0, cells := 0, slots := 0, locals := 0 } s m args below meth c H locs 0 0 (MQ below (zQ A D (qX5_acted cI a b y1 hs S)) args s 0 0 A) (F0 m 49 ls []) := by
    intro hn hg hj H locs hW ls hl
    have hn1 : 0 ≤ hn ∧ hn < 4 := by omega
    refine lv_iconst (v := zI (0)) hx hb dX5_acted_49 rfl ?_
    refine lv_istore_n (lv' := [(2, .int (zI 0)), (0, .ref (a 0)), (1, .int (zI y1))]) hx hb dX5_acted_50 rfl hl (by decide) rfl (fun ls hl => ?_)
    have L51 : ∀ (fu : Nat) (ki : Int) (hc : Int → Int), (0 ≤ ki ∧ ki ≤ 227) → (hc = plF hg (227 * hn) (mm_kept b) ki) → (227 - ki) < (fu : Int) → ∀ (H : Heap) (locs : List Loc), zW D A s.heap [zMod2 cI a (mm_hl_ (mm_his_ b (hc)) (hn))] H locs → ∀ (ls : Array Slot), lv_has ls 3 [(0, .ref (a 0)), (1, .int (zI y1)), (2, .int (zI ki))] → W p l e { frames := 0, cells := 0, slots := 0, locals := 0 } s m args below meth c H locs 0 0 (MQ below (zQ A D (qX5_acted cI a b y1 hs S)) args s 0 0 A) (F0 m 51 ls []) := by
      intro fu
      induction fu with
      | zero => intro ki hc hki hhc hm; exact absurd hm (by omega)
      | succ fu ih51 =>
        intro ki hc hki hhc hm H locs hW ls hl
        refine lv_iload_n hx hb dX5_acted_51 rfl (lv_at hl 2 rfl) ?_
        refine lv_sipush (v := zI (227)) hx hb dX5_acted_52 (by decide +kernel) ?_
        refine z_icmp_ge (tgt := 85) hx hb dX5_acted_55 (by decide) (by omega) (fun cc_55 => ?_) (fun cc_55 => ?_)
        · refine lv_aload_n hx hb dX5_acted_85 rfl (lv_at hl 0 rfl) ?_
          refine lv_dup hx hb dX5_acted_86 rfl ?_
          refine va_get (D := D) (ci := 5) (v := .int (zI hn)) (C := RX5) (T := TX5) (N := 18) hx hb hts iX5_acted_X5 hown hK.1 hW.1 0 rfl rfl 4 (by decide) (hts _ mX5_acted_1) (fun _ h9 => h9) rfl dX5_acted_87 ?_
          refine lv_iconst (v := zI (1)) hx hb dX5_acted_90 rfl ?_
          refine z_iadd hx hb dX5_acted_91 ?_
          refine va_put (D := D) (ci := 5) (v := .int (zI (hn + 1))) (ty := .int) (C := RX5) (T := TX5) (N := 18) hx hb hts iX5_acted_X5 tyX5 tyX5_ok nmX5 hown hK.1 hW.1 hW.2.1 hW.2.2 0 rfl rfl 4 (by decide) (hts _ mX5_acted_1) (fun _ h9 => h9) rfl (by decide +kernel) rfl rfl (Nat.le_of_ble_eq_true rfl) dX5_acted_92 (fun H locs h1 h2 h3 => ?_)
          have hW : zW D A s.heap [zMod2 cI a (mm_hl_ (mm_his_ b (hc)) (hn + 1))] H locs := ⟨h1, h2, h3⟩
          refine lv_iload_n hx hb dX5_acted_95 rfl (lv_at hl 1 rfl) ?_
          exact z_iret (v := y1) hx hb hr hlk hW dX5_acted_96 (by
              exact ⟨y1, hc, hn + 1, rfl, rfl, by exact ⟨rfl, acted_MH hH hkp hj hhc (by omega)⟩⟩)
        · refine lv_aload_n hx hb dX5_acted_58 rfl (lv_at hl 0 rfl) ?_
          refine va_get (D := D) (ci := 5) (v := .ref (a 4)) (C := RX5) (T := TX5) (N := 18) hx hb hts iX5_acted_X5 hown hK.1 hW.1 0 rfl rfl 3 (by decide) (hts _ mX5_acted_2) (fun _ h9 => h9) rfl dX5_acted_59 ?_
          refine lv_sipush (v := zI (227)) hx hb dX5_acted_62 (by decide +kernel) ?_
          refine lv_aload_n hx hb dX5_acted_65 rfl (lv_at hl 0 rfl) ?_
          refine va_get (D := D) (ci := 5) (v := .int (zI hn)) (C := RX5) (T := TX5) (N := 18) hx hb hts iX5_acted_X5 hown hK.1 hW.1 0 rfl rfl 4 (by decide) (hts _ mX5_acted_1) (fun _ h9 => h9) rfl dX5_acted_66 ?_
          refine z_imul hx hb dX5_acted_69 ?_
          refine lv_iload_n hx hb dX5_acted_70 rfl (lv_at hl 2 rfl) ?_
          refine z_iadd hx hb dX5_acted_71 ?_
          refine lv_aload_n hx hb dX5_acted_72 rfl (lv_at hl 0 rfl) ?_
          refine va_get (D := D) (ci := 5) (v := .ref (a 2)) (C := RX5) (T := TX5) (N := 18) hx hb hts iX5_acted_X5 hown hK.1 hW.1 0 rfl rfl 1 (by decide) (hts _ mX5_acted_3) (fun _ h9 => h9) rfl dX5_acted_73 ?_
          refine lv_iload_n hx hb dX5_acted_76 rfl (lv_at hl 2 rfl) ?_
          refine z_iald (n := 227) (g := mm_kept b) hx hb hK hW 2 rfl dX5_acted_77 (by omega) ?_
          refine z_iast (n := 908) (g := hc) (bs1 := [zMod2 cI a (mm_hl_ (mm_his_ b (zU hc ((227 * hn) + ki) ((mm_kept b) ki))) (hn))]) hx hb hK hW 4 rfl dX5_acted_78 (by omega) rfl (fun H locs hW => ?_)
          refine z_iinc (x := ki) (lv' := [(2, .int (zI (ki + 1))), (0, .ref (a 0)), (1, .int (zI y1))]) hx hb dX5_acted_79 hl (k := 2) rfl (by decide) rfl (fun ls hl => ?_)
          refine lv_goto (tgt := 51) hx hb dX5_acted_82 (by decide) ?_
          exact ih51 (ki + 1) (zU hc ((227 * hn) + ki) ((mm_kept b) ki)) (by omega) (by rw [hhc]; exact plF_s _ _ _ hki.1) (by omega) _ _ hW ls (lv_sub hl [1, 2, 0] rfl)
    exact L51 (((227 - 0) : Int).toNat + 1) 0 hg (by omega) (by exact (plF_0 _ _ _).symm) (by omega) _ _ hW ls (lv_sub hl [1, 2, 0] rfl)
  refine lv_aload_n hx hb dX5_acted_0 rfl (lv_at hl 0 rfl) ?_
  refine va_get (D := D) (ci := 5) (v := .int (zI (mm_hl b))) (C := RX5) (T := TX5) (N := 18) hx hb hts iX5_acted_X5 hown hK.1 hW.1 0 rfl rfl 4 (by decide) (hts _ mX5_acted_1) (fun _ h9 => h9) rfl dX5_acted_1 ?_
  refine lv_iconst (v := zI (4)) hx hb dX5_acted_4 rfl ?_
  refine z_icmp_ne (tgt := 49) hx hb dX5_acted_5 (by decide) (by omega) (fun cc_5 => ?_) (fun cc_5 => ?_)
  · exact L49 (mm_hl b) (mm_his b) (by (first | exact Or.inl ⟨by omega, rfl, rfl⟩ | exact Or.inr ⟨by omega, by omega, by rw [hhc, show ki = 681 by omega]⟩))  _ _ hW ls (lv_sub hl [0, 1] rfl)
  · refine lv_iconst (v := zI (0)) hx hb dX5_acted_8 rfl ?_
    refine lv_istore_n (lv' := [(2, .int (zI 0)), (0, .ref (a 0)), (1, .int (zI y1))]) hx hb dX5_acted_9 rfl hl (by decide) rfl (fun ls hl => ?_)
    have L10 : ∀ (fu : Nat) (ki : Int) (hc : Int → Int), (0 ≤ ki ∧ ki ≤ 681) → (hc = shH (mm_his b) ki) → (681 - ki) < (fu : Int) → ∀ (H : Heap) (locs : List Loc), zW D A s.heap [zMod2 cI a (mm_his_ b (hc))] H locs → ∀ (ls : Array Slot), lv_has ls 3 [(0, .ref (a 0)), (1, .int (zI y1)), (2, .int (zI ki))] → W p l e { frames := 0, cells := 0, slots := 0, locals := 0 } s m args below meth c H locs 0 0 (MQ below (zQ A D (qX5_acted cI a b y1 hs S)) args s 0 0 A) (F0 m 10 ls []) := by
      intro fu
      induction fu with
      | zero => intro ki hc hki hhc hm; exact absurd hm (by omega)
      | succ fu ih10 =>
        intro ki hc hki hhc hm H locs hW ls hl
        refine lv_iload_n hx hb dX5_acted_10 rfl (lv_at hl 2 rfl) ?_
        refine lv_sipush (v := zI (681)) hx hb dX5_acted_11 (by decide +kernel) ?_
        refine z_icmp_ge (tgt := 39) hx hb dX5_acted_14 (by decide) (by omega) (fun cc_14 => ?_) (fun cc_14 => ?_)
        · refine lv_aload_n hx hb dX5_acted_39 rfl (lv_at hl 0 rfl) ?_
          refine lv_dup hx hb dX5_acted_40 rfl ?_
          refine va_get (D := D) (ci := 5) (v := .int (zI (mm_hl b))) (C := RX5) (T := TX5) (N := 18) hx hb hts iX5_acted_X5 hown hK.1 hW.1 0 rfl rfl 4 (by decide) (hts _ mX5_acted_1) (fun _ h9 => h9) rfl dX5_acted_41 ?_
          refine lv_iconst (v := zI (1)) hx hb dX5_acted_44 rfl ?_
          refine z_isub hx hb dX5_acted_45 ?_
          refine va_put (D := D) (ci := 5) (v := .int (zI ((mm_hl b) - 1))) (ty := .int) (C := RX5) (T := TX5) (N := 18) hx hb hts iX5_acted_X5 tyX5 tyX5_ok nmX5 hown hK.1 hW.1 hW.2.1 hW.2.2 0 rfl rfl 4 (by decide) (hts _ mX5_acted_1) (fun _ h9 => h9) rfl (by decide +kernel) rfl rfl (Nat.le_of_ble_eq_true rfl) dX5_acted_46 (fun H locs h1 h2 h3 => ?_)
          have hW : zW D A s.heap [zMod2 cI a (mm_hl_ (mm_his_ b (hc)) ((mm_hl b) - 1))] H locs := ⟨h1, h2, h3⟩
          exact L49 ((mm_hl b) - 1) hc (by (first | exact Or.inl ⟨by omega, rfl, rfl⟩ | exact Or.inr ⟨by omega, by omega, by rw [hhc, show ki = 681 by omega]⟩))  _ _ hW ls (lv_sub hl [0, 1] rfl)
        · refine lv_aload_n hx hb dX5_acted_17 rfl (lv_at hl 0 rfl) ?_
          refine va_get (D := D) (ci := 5) (v := .ref (a 4)) (C := RX5) (T := TX5) (N := 18) hx hb hts iX5_acted_X5 hown hK.1 hW.1 0 rfl rfl 3 (by decide) (hts _ mX5_acted_2) (fun _ h9 => h9) rfl dX5_acted_18 ?_
          refine lv_iload_n hx hb dX5_acted_21 rfl (lv_at hl 2 rfl) ?_
          refine lv_aload_n hx hb dX5_acted_22 rfl (lv_at hl 0 rfl) ?_
          refine va_get (D := D) (ci := 5) (v := .ref (a 4)) (C := RX5) (T := TX5) (N := 18) hx hb hts iX5_acted_X5 hown hK.1 hW.1 0 rfl rfl 3 (by decide) (hts _ mX5_acted_2) (fun _ h9 => h9) rfl dX5_acted_23 ?_
          refine lv_iload_n hx hb dX5_acted_26 rfl (lv_at hl 2 rfl) ?_
          refine lv_sipush (v := zI (227)) hx hb dX5_acted_27 (by decide +kernel) ?_
          refine z_iadd hx hb dX5_acted_30 ?_
          refine z_iald (n := 908) (g := hc) hx hb hK hW 4 rfl dX5_acted_31 (by omega) ?_
          refine z_iast (n := 908) (g := hc) (bs1 := [zMod2 cI a (mm_his_ b (zU hc ki (hc (ki + 227))))]) hx hb hK hW 4 rfl dX5_acted_32 (by omega) rfl (fun H locs hW => ?_)
          refine z_iinc (x := ki) (lv' := [(2, .int (zI (ki + 1))), (0, .ref (a 0)), (1, .int (zI y1))]) hx hb dX5_acted_33 hl (k := 2) rfl (by decide) rfl (fun ls hl => ?_)
          refine lv_goto (tgt := 10) hx hb dX5_acted_36 (by decide) ?_
          exact ih10 (ki + 1) (zU hc ki (hc (ki + 227))) (by omega) (by rw [hhc]; exact shH_s _ hki.1) (by omega) _ _ hW ls (lv_sub hl [1, 2, 0] rfl)
    exact L10 (((681 - 0) : Int).toNat + 1) 0 (mm_his b) (by omega) (by exact (shH_0 _).symm) (by omega) _ _ hW ls (lv_sub hl [1, 2, 0] rfl)

abbrev qX5_takesOut (cI : ClassId) (a : Nat → Nat) (b : zM2) (y1 : Int) (L : List zPn) (O : List Int) (ev : Int) (n : Int) (k : Nat) (pq : zPn) : Option Value → List va_W → Prop := fun vq wq => ∃ (zall : Int → Int) (zout : Int → Int), vq = none ∧ wq = [zMod2 cI a (mm_out_ (mm_all_ b zall) zout)] ∧ (RMb zall (L.eraseIdx k) O ev n ∧ rowO zout pq)
set_option maxRecDepth 20000 in
theorem iX5_takesOut_X5 : ∀ w ∈ u_ws RX5 TX5 18, w ∈ wsX5_takesOut := by decide +kernel
set_option maxRecDepth 20000 in
theorem mX5_takesOut_1 : (.fieldLink RX5 7 "StoryPanelsModel" "all" "[I" : Cond) ∈ wsX5_takesOut := by decide +kernel
set_option maxRecDepth 20000 in
theorem mX5_takesOut_2 : (.fieldLink RX5 25 "StoryPanelsModel" "out" "[I" : Cond) ∈ wsX5_takesOut := by decide +kernel
set_option maxHeartbeats 4000000 in
set_option maxRecDepth 100000 in
theorem kX5_takesOut (l : Launch) (D : va_G) (cI cB : ClassId) (a : Nat → Nat) (b : zM2) (y1 : Int) (L : List zPn) (O : List Int) (ev : Int) (n : Int) (k : Nat) (pq : zPn) (hM : RMb (mm_all b) L O ev n) (hpq : L[k]? = some pq) (hy1 : y1 = (k : Int)) : zMet l yX5_takesOut wsX5_takesOut 1 22 0 0 D cI cB [.ref (a 0), .int (zI y1)] [zMod2 cI a b] (qX5_takesOut cI a b y1 L O ev n k pq) := by
  refine zMet.of (cd := cX5_takesOut) (maxL := 3) (ret := none) (by decide) rfl (Nat.le_of_ble_eq_true rfl) ?_
  intro p e s m args below meth c A ls hS hr hlk hnm hK hA hW hl
  have hS : CallFix p m c cX5_takesOut 3 s args wsX5_takesOut RX5 := hS
  have hx := hS.1
  have hb := hS.2.1
  have hown := hS.2.2.2.1
  have hts := hS.2.2.2.2
  have hl : lv_has ls 3 [(0, .ref (a 0)), (1, .int (zI y1))] := hl
  have hM1 := hM.2.1
  have hM3 := hM.2.2.1
  have hkl := (List.getElem?_eq_some_iff.mp hpq).1
  have hrq := hM.2.2.2.2.2.1 k pq hpq
  have hoq := (hM.2.2.2.2.2.2.1 pq (List.mem_of_getElem? hpq)).1.2.2.2.1
  refine lv_iconst (v := zI (0)) hx hb dX5_takesOut_0 rfl ?_
  refine lv_istore_n (lv' := [(2, .int (zI 0)), (0, .ref (a 0)), (1, .int (zI y1))]) hx hb dX5_takesOut_1 rfl hl (by decide) rfl (fun ls hl => ?_)
  have L2 : ∀ (fu : Nat) (ki : Int) (ho : Int → Int), (0 ≤ ki ∧ ki ≤ 22) → (ho = cpF (fun w => fL (mm_all b) y1 w) (mm_out b) ki) → (22 - ki) < (fu : Int) → ∀ (H : Heap) (locs : List Loc), zW D A s.heap [zMod2 cI a (mm_out_ b (ho))] H locs → ∀ (ls : Array Slot), lv_has ls 3 [(0, .ref (a 0)), (1, .int (zI y1)), (2, .int (zI ki))] → W p l e { frames := 1, cells := 0, slots := 0, locals := 22 } s m args below meth c H locs 0 0 (MQ below (zQ A D (qX5_takesOut cI a b y1 L O ev n k pq)) args s 0 0 A) (F0 m 2 ls []) := by
    intro fu
    induction fu with
    | zero => intro ki ho hki hho hm; exact absurd hm (by omega)
    | succ fu ih2 =>
      intro ki ho hki hho hm H locs hW ls hl
      refine lv_iload_n hx hb dX5_takesOut_2 rfl (lv_at hl 2 rfl) ?_
      refine lv_bipush (v := zI (22)) hx hb dX5_takesOut_3 (by decide +kernel) ?_
      refine z_icmp_ge (tgt := 26) hx hb dX5_takesOut_5 (by decide) (by omega) (fun cc_5 => ?_) (fun cc_5 => ?_)
      · refine lv_aload_n hx hb dX5_takesOut_26 rfl (lv_at hl 0 rfl) ?_
        refine va_get (D := D) (ci := 5) (v := .ref (a 1)) (C := RX5) (T := TX5) (N := 18) hx hb hts iX5_takesOut_X5 hown hK.1 hW.1 0 rfl rfl 0 (by decide) (hts _ mX5_takesOut_1) (fun _ h9 => h9) rfl dX5_takesOut_27 ?_
        refine lv_iconst (v := zI (1)) hx hb dX5_takesOut_30 rfl ?_
        refine lv_dup2_11 hx hb dX5_takesOut_31 rfl rfl ?_
        refine z_iald (n := 227) (g := mm_all b) hx hb hK hW 1 rfl dX5_takesOut_32 (by omega) ?_
        refine lv_iconst (v := zI (1)) hx hb dX5_takesOut_33 rfl ?_
        refine z_isub hx hb dX5_takesOut_34 ?_
        refine z_iast (n := 227) (g := mm_all b) (bs1 := [zMod2 cI a (mm_out_ (mm_all_ b (zU (mm_all b) 1 (((mm_all b) 1) - 1))) (ho))]) hx hb hK hW 1 rfl dX5_takesOut_35 (by omega) rfl (fun H locs hW => ?_)
        refine lv_bipush (v := zI (7)) hx hb dX5_takesOut_36 (by decide +kernel) ?_
        refine lv_bipush (v := zI (22)) hx hb dX5_takesOut_38 (by decide +kernel) ?_
        refine lv_iload_n hx hb dX5_takesOut_40 rfl (lv_at hl 1 rfl) ?_
        refine z_imul hx hb dX5_takesOut_41 ?_
        refine z_iadd hx hb dX5_takesOut_42 ?_
        refine lv_istore_n (lv' := [(2, .int (zI (7 + (22 * y1)))), (0, .ref (a 0)), (1, .int (zI y1))]) hx hb dX5_takesOut_43 rfl hl (by decide) rfl (fun ls hl => ?_)
        have L44 : ∀ (fu : Nat) (kj : Int) (hc : Int → Int), (7 + 22 * y1 ≤ kj ∧ kj ≤ 7 + 22 * ((L.length : Int) - 1)) → (hc = shD (zU (mm_all b) 1 (mm_all b 1 - 1)) (7 + 22 * y1) kj) → (7 + 22 * ((L.length : Int) - 1) - kj) < (fu : Int) → ∀ (H : Heap) (locs : List Loc), zW D A s.heap [zMod2 cI a (mm_out_ (mm_all_ b (hc)) (ho))] H locs → ∀ (ls : Array Slot), lv_has ls 3 [(0, .ref (a 0)), (1, .int (zI y1)), (2, .int (zI kj))] → W p l e { frames := 1, cells := 0, slots := 0, locals := 22 } s m args below meth c H locs 0 0 (MQ below (zQ A D (qX5_takesOut cI a b y1 L O ev n k pq)) args s 0 0 A) (F0 m 44 ls []) := by
          intro fu
          induction fu with
          | zero => intro kj hc hkj hhc hm; exact absurd hm (by omega)
          | succ fu ih44 =>
            intro kj hc hkj hhc hm H locs hW ls hl
            have hc1 : hc 1 = (L.length : Int) - 1 := by rw [hhc]; unfold shD; rw [if_neg (by omega), zU_s, hM1]
            refine lv_iload_n hx hb dX5_takesOut_44 rfl (lv_at hl 2 rfl) ?_
            refine lv_bipush (v := zI (7)) hx hb dX5_takesOut_45 (by decide +kernel) ?_
            refine lv_bipush (v := zI (22)) hx hb dX5_takesOut_47 (by decide +kernel) ?_
            refine lv_aload_n hx hb dX5_takesOut_49 rfl (lv_at hl 0 rfl) ?_
            refine va_get (D := D) (ci := 5) (v := .ref (a 1)) (C := RX5) (T := TX5) (N := 18) hx hb hts iX5_takesOut_X5 hown hK.1 hW.1 0 rfl rfl 0 (by decide) (hts _ mX5_takesOut_1) (fun _ h9 => h9) rfl dX5_takesOut_50 ?_
            refine lv_iconst (v := zI (1)) hx hb dX5_takesOut_53 rfl ?_
            refine z_iald (n := 227) (g := hc) hx hb hK hW 1 rfl dX5_takesOut_54 (by omega) ?_
            refine z_imul hx hb dX5_takesOut_55 ?_
            refine z_iadd hx hb dX5_takesOut_56 ?_
            refine z_icmp_ge (tgt := 81) hx hb dX5_takesOut_57 (by decide) (by omega) (fun cc_57 => ?_) (fun cc_57 => ?_)
            · exact z_vret hx hb hr hlk hW dX5_takesOut_81 (by
                  exact ⟨hc, ho, rfl, rfl, by exact ⟨RM_outF hM hpq hhc (by omega) (by omega) (by omega), rowO_cg hoq hrq (fun w w1 w2 => by rw [hho, show ki = 22 by omega, hy1]; exact if_pos ⟨w1, w2⟩)⟩⟩)
            · refine lv_aload_n hx hb dX5_takesOut_60 rfl (lv_at hl 0 rfl) ?_
              refine va_get (D := D) (ci := 5) (v := .ref (a 1)) (C := RX5) (T := TX5) (N := 18) hx hb hts iX5_takesOut_X5 hown hK.1 hW.1 0 rfl rfl 0 (by decide) (hts _ mX5_takesOut_1) (fun _ h9 => h9) rfl dX5_takesOut_61 ?_
              refine lv_iload_n hx hb dX5_takesOut_64 rfl (lv_at hl 2 rfl) ?_
              refine lv_aload_n hx hb dX5_takesOut_65 rfl (lv_at hl 0 rfl) ?_
              refine va_get (D := D) (ci := 5) (v := .ref (a 1)) (C := RX5) (T := TX5) (N := 18) hx hb hts iX5_takesOut_X5 hown hK.1 hW.1 0 rfl rfl 0 (by decide) (hts _ mX5_takesOut_1) (fun _ h9 => h9) rfl dX5_takesOut_66 ?_
              refine lv_iload_n hx hb dX5_takesOut_69 rfl (lv_at hl 2 rfl) ?_
              refine lv_bipush (v := zI (22)) hx hb dX5_takesOut_70 (by decide +kernel) ?_
              refine z_iadd hx hb dX5_takesOut_72 ?_
              refine z_iald (n := 227) (g := hc) hx hb hK hW 1 rfl dX5_takesOut_73 (by omega) ?_
              refine z_iast (n := 227) (g := hc) (bs1 := [zMod2 cI a (mm_out_ (mm_all_ b (zU hc kj (hc (kj + 22)))) (ho))]) hx hb hK hW 1 rfl dX5_takesOut_74 (by omega) rfl (fun H locs hW => ?_)
              refine z_iinc (x := kj) (lv' := [(2, .int (zI (kj + 1))), (0, .ref (a 0)), (1, .int (zI y1))]) hx hb dX5_takesOut_75 hl (k := 2) rfl (by decide) rfl (fun ls hl => ?_)
              refine lv_goto (tgt := 44) hx hb dX5_takesOut_78 (by decide) ?_
              exact ih44 (kj + 1) (zU hc kj (hc (kj + 22))) (by omega) (by rw [hhc]; exact shD_s _ hkj.1) (by omega) _ _ hW ls (lv_sub hl [1, 2, 0] rfl)
        exact L44 (((7 + 22 * ((L.length : Int) - 1) - (7 + (22 * y1))) : Int).toNat + 1) (7 + (22 * y1)) (zU (mm_all b) 1 (((mm_all b) 1) - 1)) (by omega) (by exact (shD_0 _ _).symm) (by omega) _ _ hW ls (lv_sub hl [1, 2, 0] rfl)
      · refine lv_aload_n hx hb dX5_takesOut_8 rfl (lv_at hl 0 rfl) ?_
        refine va_get (D := D) (ci := 5) (v := .ref (a 6)) (C := RX5) (T := TX5) (N := 18) hx hb hts iX5_takesOut_X5 hown hK.1 hW.1 0 rfl rfl 7 (by decide) (hts _ mX5_takesOut_2) (fun _ h9 => h9) rfl dX5_takesOut_9 ?_
        refine lv_iload_n hx hb dX5_takesOut_12 rfl (lv_at hl 2 rfl) ?_
        refine lv_aload_n hx hb dX5_takesOut_13 rfl (lv_at hl 0 rfl) ?_
        refine lv_iload_n hx hb dX5_takesOut_14 rfl (lv_at hl 1 rfl) ?_
        refine lv_iload_n hx hb dX5_takesOut_15 rfl (lv_at hl 2 rfl) ?_
        refine z_callV (r := (RX5, TX5, 18)) (As := [.int (zI y1), .int (zI ki)]) (rest := [.int (zI ki), .ref (a 6)]) hS hK hA hW hl.1 [0] [] (kX5_of l D cI cB a ((mm_out_ b (ho))) y1 ki (by omega) (by omega)) (cwV 2 hts gX5_takesOut_X5_of rfl rfl rfl (by decide +kernel) ⟨Nat.le_of_ble_eq_true rfl, Nat.le_of_ble_eq_true rfl⟩) (rfl : vwCl[5]? = some (RX5, TX5, 18)) (q0 := 0) rfl dX5_takesOut_16 rfl rfl rfl rfl rfl (Nat.le_of_ble_eq_true rfl) ⟨Nat.le_of_ble_eq_true rfl, Nat.le_of_ble_eq_true rfl⟩ (fun v9 w9 H locs hq hW => ?_)
        obtain ⟨rr_16, rfl, rfl, hh_16⟩ := hq
        subst rr_16
        have hW : zW D A s.heap [zMod2 cI a (mm_out_ b (ho))] H locs := hW
        refine W.eq (g2 := F0 m 19 ls [.int (zI (fL (mm_all ((mm_out_ b (ho)))) y1 ki)), .int (zI ki), .ref (a 6)]) rfl ?_
        refine z_iast (n := 22) (g := ho) (bs1 := [zMod2 cI a (mm_out_ b (zU ho ki (fL (mm_all ((mm_out_ b (ho)))) y1 ki)))]) hx hb hK hW 6 rfl dX5_takesOut_19 (by omega) rfl (fun H locs hW => ?_)
        refine z_iinc (x := ki) (lv' := [(2, .int (zI (ki + 1))), (0, .ref (a 0)), (1, .int (zI y1))]) hx hb dX5_takesOut_20 hl (k := 2) rfl (by decide) rfl (fun ls hl => ?_)
        refine lv_goto (tgt := 2) hx hb dX5_takesOut_23 (by decide) ?_
        exact ih2 (ki + 1) (zU ho ki (fL (mm_all ((mm_out_ b (ho)))) y1 ki)) (by omega) (by rw [hho]; exact cpF_s (fun w => fL (mm_all b) y1 w) _ hki.1) (by omega) _ _ hW ls (lv_sub hl [1, 2, 0] rfl)
  exact L2 (((22 - 0) : Int).toNat + 1) 0 (mm_out b) (by omega) (by exact (cpF_0 _ _).symm) (by omega) _ _ hW ls (lv_sub hl [1, 2, 0] rfl)

abbrev qX5_putsIn (cI : ClassId) (a : Nat → Nat) (b : zM2) (y1 : Int) (L : List zPn) (O : List Int) (ev : Int) (n : Int) (pq : zPn) : Option Value → List va_W → Prop := fun vq wq => ∃ (zall : Int → Int), vq = none ∧ wq = [zMod2 cI a (mm_all_ b zall)] ∧ (∃ L2 : List zPn, RMb zall L2 O ev n ∧ ordC L2 O = insC (ordC L O) (ahC (ordC L O) O pq.2.1 + y1) pq)
set_option maxRecDepth 20000 in
theorem iX5_putsIn_X5 : ∀ w ∈ u_ws RX5 TX5 18, w ∈ wsX5_putsIn := by decide +kernel
set_option maxRecDepth 20000 in
theorem mX5_putsIn_1 : (.fieldLink RX5 7 "StoryPanelsModel" "all" "[I" : Cond) ∈ wsX5_putsIn := by decide +kernel
set_option maxRecDepth 20000 in
theorem mX5_putsIn_2 : (.fieldLink RX5 25 "StoryPanelsModel" "out" "[I" : Cond) ∈ wsX5_putsIn := by decide +kernel
set_option maxHeartbeats 4000000 in
set_option maxRecDepth 100000 in
theorem kX5_putsIn (l : Launch) (D : va_G) (cI cB : ClassId) (a : Nat → Nat) (b : zM2) (y1 : Int) (L : List zPn) (O : List Int) (ev : Int) (n : Int) (pq : zPn) (hM : RMb (mm_all b) L O ev n) (hlen : L.length < 10) (ho : rowO (mm_out b) pq) (hok9 : pnOK pq ∧ pq.1 < n) (hnew : ∀ q ∈ L, q.1 ≠ pq.1) (hy1 : 0 ≤ y1 ∧ y1 ≤ inC L pq.2.1) : zMet l yX5_putsIn wsX5_putsIn 1 22 0 0 D cI cB [.ref (a 0), .int (zI y1)] [zMod2 cI a b] (qX5_putsIn cI a b y1 L O ev n pq) := by
  refine zMet.of (cd := cX5_putsIn) (maxL := 5) (ret := none) (by decide) rfl (Nat.le_of_ble_eq_true rfl) ?_
  intro p e s m args below meth c A ls hS hr hlk hnm hK hA hW hl
  have hS : CallFix p m c cX5_putsIn 5 s args wsX5_putsIn RX5 := hS
  have hx := hS.1
  have hb := hS.2.1
  have hown := hS.2.2.2.1
  have hts := hS.2.2.2.2
  have hl : lv_has ls 5 [(0, .ref (a 0)), (1, .int (zI y1))] := hl
  have hM1 := hM.2.1
  have hM3 := hM.2.2.1
  have ho1 := ho.2.1
  have hoq := hok9.1.2.1
  have hic := (inC_tk L 0 pq.2.1).2.2.2
  refine lv_iconst (v := zI (0)) hx hb dX5_putsIn_0 rfl ?_
  refine lv_istore_n (lv' := [(2, .int (zI 0)), (0, .ref (a 0)), (1, .int (zI y1))]) hx hb dX5_putsIn_1 rfl hl (by decide) rfl (fun ls hl => ?_)
  refine lv_iconst (v := zI (0)) hx hb dX5_putsIn_2 rfl ?_
  refine lv_istore_n (lv' := [(3, .int (zI 0)), (2, .int (zI 0)), (0, .ref (a 0)), (1, .int (zI y1))]) hx hb dX5_putsIn_3 rfl hl (by decide) rfl (fun ls hl => ?_)
  have L63 : ∀ (kx : Int), (0 ≤ kx ∧ kx ≤ (L.length : Int)) → (inC (L.take kx.toNat) pq.2.1 = y1) → ∀ (H : Heap) (locs : List Loc), zW D A s.heap [zMod2 cI a b] H locs → ∀ (ls : Array Slot), lv_has ls 5 [(0, .ref (a 0)), (1, .int (zI y1)), (2, .int (zI kx))] → W p l e { frames := 1, cells := 0, slots := 0, locals := 22 } s m args below meth c H locs 0 0 (MQ below (zQ A D (qX5_putsIn cI a b y1 L O ev n pq)) args s 0 0 A) (F0 m 63 ls []) := by
    intro kx hkx hax H locs hW ls hl
    refine lv_bipush (v := zI (7)) hx hb dX5_putsIn_63 (by decide +kernel) ?_
    refine lv_bipush (v := zI (22)) hx hb dX5_putsIn_65 (by decide +kernel) ?_
    refine lv_aload_n hx hb dX5_putsIn_67 rfl (lv_at hl 0 rfl) ?_
    refine va_get (D := D) (ci := 5) (v := .ref (a 1)) (C := RX5) (T := TX5) (N := 18) hx hb hts iX5_putsIn_X5 hown hK.1 hW.1 0 rfl rfl 0 (by decide) (hts _ mX5_putsIn_1) (fun _ h9 => h9) rfl dX5_putsIn_68 ?_
    refine lv_iconst (v := zI (1)) hx hb dX5_putsIn_71 rfl ?_
    refine z_iald (n := 227) (g := mm_all b) hx hb hK hW 1 rfl dX5_putsIn_72 (by omega) ?_
    refine z_imul hx hb dX5_putsIn_73 ?_
    refine z_iadd hx hb dX5_putsIn_74 ?_
    refine lv_iconst (v := zI (1)) hx hb dX5_putsIn_75 rfl ?_
    refine z_isub hx hb dX5_putsIn_76 ?_
    refine lv_istore (lv' := [(4, .int (zI ((7 + (22 * ((mm_all b) 1))) - 1))), (0, .ref (a 0)), (1, .int (zI y1)), (2, .int (zI kx))]) hx hb dX5_putsIn_77 hl (by decide) rfl (fun ls hl => ?_)
    have L79 : ∀ (fu : Nat) (ki : Int) (hc : Int → Int), (7 + 22 * kx - 1 ≤ ki ∧ ki ≤ 7 + 22 * (L.length : Int) - 1) → (hc = shU (mm_all b) ki (7 + 22 * (L.length : Int))) → (ki - (7 + 22 * kx - 2)) < (fu : Int) → ∀ (H : Heap) (locs : List Loc), zW D A s.heap [zMod2 cI a (mm_all_ b (hc))] H locs → ∀ (ls : Array Slot), lv_has ls 5 [(0, .ref (a 0)), (1, .int (zI y1)), (2, .int (zI kx)), (4, .int (zI ki))] → W p l e { frames := 1, cells := 0, slots := 0, locals := 22 } s m args below meth c H locs 0 0 (MQ below (zQ A D (qX5_putsIn cI a b y1 L O ev n pq)) args s 0 0 A) (F0 m 79 ls []) := by
      intro fu
      induction fu with
      | zero => intro ki hc hki hhc hm; exact absurd hm (by omega)
      | succ fu ih79 =>
        intro ki hc hki hhc hm H locs hW ls hl
        have hc1 : hc 1 = (L.length : Int) := by rw [hhc]; unfold shU; rw [if_neg (by omega), hM1]
        refine lv_iload hx hb dX5_putsIn_79 (lv_at hl 3 rfl) ?_
        refine lv_bipush (v := zI (7)) hx hb dX5_putsIn_81 (by decide +kernel) ?_
        refine lv_bipush (v := zI (22)) hx hb dX5_putsIn_83 (by decide +kernel) ?_
        refine lv_iload_n hx hb dX5_putsIn_85 rfl (lv_at hl 2 rfl) ?_
        refine z_imul hx hb dX5_putsIn_86 ?_
        refine z_iadd hx hb dX5_putsIn_87 ?_
        refine z_icmp_lt (tgt := 114) hx hb dX5_putsIn_88 (by decide) (by omega) (fun cc_88 => ?_) (fun cc_88 => ?_)
        · refine lv_aload_n hx hb dX5_putsIn_114 rfl (lv_at hl 0 rfl) ?_
          refine va_get (D := D) (ci := 5) (v := .ref (a 1)) (C := RX5) (T := TX5) (N := 18) hx hb hts iX5_putsIn_X5 hown hK.1 hW.1 0 rfl rfl 0 (by decide) (hts _ mX5_putsIn_1) (fun _ h9 => h9) rfl dX5_putsIn_115 ?_
          refine lv_iconst (v := zI (1)) hx hb dX5_putsIn_118 rfl ?_
          refine lv_dup2_11 hx hb dX5_putsIn_119 rfl rfl ?_
          refine z_iald (n := 227) (g := hc) hx hb hK hW 1 rfl dX5_putsIn_120 (by omega) ?_
          refine lv_iconst (v := zI (1)) hx hb dX5_putsIn_121 rfl ?_
          refine z_iadd hx hb dX5_putsIn_122 ?_
          refine z_iast (n := 227) (g := hc) (bs1 := [zMod2 cI a (mm_all_ b (zU hc 1 ((hc 1) + 1)))]) hx hb hK hW 1 rfl dX5_putsIn_123 (by omega) rfl (fun H locs hW => ?_)
          refine lv_iconst (v := zI (0)) hx hb dX5_putsIn_124 rfl ?_
          refine lv_istore (lv' := [(4, .int (zI 0)), (0, .ref (a 0)), (1, .int (zI y1)), (2, .int (zI kx))]) hx hb dX5_putsIn_125 hl (by decide) rfl (fun ls hl => ?_)
          have L127 : ∀ (fu : Nat) (kj : Int) (hc2 : Int → Int), (0 ≤ kj ∧ kj ≤ 22) → (hc2 = plF (zU hc 1 (hc 1 + 1)) (7 + 22 * kx) (mm_out b) kj) → (22 - kj) < (fu : Int) → ∀ (H : Heap) (locs : List Loc), zW D A s.heap [zMod2 cI a (mm_all_ b (hc2))] H locs → ∀ (ls : Array Slot), lv_has ls 5 [(0, .ref (a 0)), (1, .int (zI y1)), (2, .int (zI kx)), (4, .int (zI kj))] → W p l e { frames := 1, cells := 0, slots := 0, locals := 22 } s m args below meth c H locs 0 0 (MQ below (zQ A D (qX5_putsIn cI a b y1 L O ev n pq)) args s 0 0 A) (F0 m 127 ls []) := by
            intro fu
            induction fu with
            | zero => intro kj hc2 hkj hhc2 hm; exact absurd hm (by omega)
            | succ fu ih127 =>
              intro kj hc2 hkj hhc2 hm H locs hW ls hl
              refine lv_iload hx hb dX5_putsIn_127 (lv_at hl 3 rfl) ?_
              refine lv_bipush (v := zI (22)) hx hb dX5_putsIn_129 (by decide +kernel) ?_
              refine z_icmp_ge (tgt := 162) hx hb dX5_putsIn_131 (by decide) (by omega) (fun cc_131 => ?_) (fun cc_131 => ?_)
              · exact z_vret hx hb hr hlk hW dX5_putsIn_162 (by
                    exact ⟨hc2, rfl, rfl, by exact RM_inF hM hkx hlen ho hok9 hnew hhc (by omega) rfl (by rw [hhc2, show kj = 22 by omega]) (by omega) hax⟩)
              · refine lv_aload_n hx hb dX5_putsIn_134 rfl (lv_at hl 0 rfl) ?_
                refine va_get (D := D) (ci := 5) (v := .ref (a 1)) (C := RX5) (T := TX5) (N := 18) hx hb hts iX5_putsIn_X5 hown hK.1 hW.1 0 rfl rfl 0 (by decide) (hts _ mX5_putsIn_1) (fun _ h9 => h9) rfl dX5_putsIn_135 ?_
                refine lv_bipush (v := zI (7)) hx hb dX5_putsIn_138 (by decide +kernel) ?_
                refine lv_bipush (v := zI (22)) hx hb dX5_putsIn_140 (by decide +kernel) ?_
                refine lv_iload_n hx hb dX5_putsIn_142 rfl (lv_at hl 2 rfl) ?_
                refine z_imul hx hb dX5_putsIn_143 ?_
                refine z_iadd hx hb dX5_putsIn_144 ?_
                refine lv_iload hx hb dX5_putsIn_145 (lv_at hl 3 rfl) ?_
                refine z_iadd hx hb dX5_putsIn_147 ?_
                refine lv_aload_n hx hb dX5_putsIn_148 rfl (lv_at hl 0 rfl) ?_
                refine va_get (D := D) (ci := 5) (v := .ref (a 6)) (C := RX5) (T := TX5) (N := 18) hx hb hts iX5_putsIn_X5 hown hK.1 hW.1 0 rfl rfl 7 (by decide) (hts _ mX5_putsIn_2) (fun _ h9 => h9) rfl dX5_putsIn_149 ?_
                refine lv_iload hx hb dX5_putsIn_152 (lv_at hl 3 rfl) ?_
                refine z_iald (n := 22) (g := mm_out b) hx hb hK hW 6 rfl dX5_putsIn_154 (by omega) ?_
                refine z_iast (n := 227) (g := hc2) (bs1 := [zMod2 cI a (mm_all_ b (zU hc2 ((7 + (22 * kx)) + kj) ((mm_out b) kj)))]) hx hb hK hW 1 rfl dX5_putsIn_155 (by omega) rfl (fun H locs hW => ?_)
                refine z_iinc (x := kj) (lv' := [(4, .int (zI (kj + 1))), (0, .ref (a 0)), (1, .int (zI y1)), (2, .int (zI kx))]) hx hb dX5_putsIn_156 hl (k := 3) rfl (by decide) rfl (fun ls hl => ?_)
                refine lv_goto (tgt := 127) hx hb dX5_putsIn_159 (by decide) ?_
                exact ih127 (kj + 1) (zU hc2 ((7 + (22 * kx)) + kj) ((mm_out b) kj)) (by omega) (by rw [hhc2]; exact plF_s _ _ _ hkj.1) (by omega) _ _ hW ls (lv_sub hl [1, 2, 3, 0] rfl)
          exact L127 (((22 - 0) : Int).toNat + 1) 0 (zU hc 1 ((hc 1) + 1)) (by omega) (by exact (plF_0 _ _ _).symm) (by omega) _ _ hW ls (lv_sub hl [1, 2, 3, 0] rfl)
        · refine lv_aload_n hx hb dX5_putsIn_91 rfl (lv_at hl 0 rfl) ?_
          refine va_get (D := D) (ci := 5) (v := .ref (a 1)) (C := RX5) (T := TX5) (N := 18) hx hb hts iX5_putsIn_X5 hown hK.1 hW.1 0 rfl rfl 0 (by decide) (hts _ mX5_putsIn_1) (fun _ h9 => h9) rfl dX5_putsIn_92 ?_
          refine lv_iload hx hb dX5_putsIn_95 (lv_at hl 3 rfl) ?_
          refine lv_bipush (v := zI (22)) hx hb dX5_putsIn_97 (by decide +kernel) ?_
          refine z_iadd hx hb dX5_putsIn_99 ?_
          refine lv_aload_n hx hb dX5_putsIn_100 rfl (lv_at hl 0 rfl) ?_
          refine va_get (D := D) (ci := 5) (v := .ref (a 1)) (C := RX5) (T := TX5) (N := 18) hx hb hts iX5_putsIn_X5 hown hK.1 hW.1 0 rfl rfl 0 (by decide) (hts _ mX5_putsIn_1) (fun _ h9 => h9) rfl dX5_putsIn_101 ?_
          refine lv_iload hx hb dX5_putsIn_104 (lv_at hl 3 rfl) ?_
          refine z_iald (n := 227) (g := hc) hx hb hK hW 1 rfl dX5_putsIn_106 (by omega) ?_
          refine z_iast (n := 227) (g := hc) (bs1 := [zMod2 cI a (mm_all_ b (zU hc (ki + 22) (hc ki)))]) hx hb hK hW 1 rfl dX5_putsIn_107 (by omega) rfl (fun H locs hW => ?_)
          refine z_iinc (x := ki) (lv' := [(4, .int (zI (ki + (-1)))), (0, .ref (a 0)), (1, .int (zI y1)), (2, .int (zI kx))]) hx hb dX5_putsIn_108 hl (k := 3) rfl (by decide) rfl (fun ls hl => ?_)
          refine lv_goto (tgt := 79) hx hb dX5_putsIn_111 (by decide) ?_
          exact ih79 (ki + (-1)) (zU hc (ki + 22) (hc ki)) (by omega) (by rw [hhc]; exact shU_s _ (by omega)) (by omega) _ _ hW ls (lv_sub hl [1, 2, 3, 0] rfl)
    exact L79 (((((7 + (22 * ((mm_all b) 1))) - 1) - (7 + 22 * kx - 2)) : Int).toNat + 1) ((7 + (22 * ((mm_all b) 1))) - 1) (mm_all b) (by omega) (by exact (shU_0 _ (by omega)).symm) (by omega) _ _ hW ls (lv_sub hl [1, 2, 3, 0] rfl)
  have L4 : ∀ (fu : Nat) (kx : Int) (ax : Int), (0 ≤ kx ∧ kx ≤ (L.length : Int)) → (ax = inC (L.take kx.toNat) pq.2.1) → (0 ≤ ax ∧ ax ≤ y1) → ((L.length : Int) - kx) < (fu : Int) → ∀ (H : Heap) (locs : List Loc), zW D A s.heap [zMod2 cI a b] H locs → ∀ (ls : Array Slot), lv_has ls 5 [(0, .ref (a 0)), (1, .int (zI y1)), (2, .int (zI kx)), (3, .int (zI ax))] → W p l e { frames := 1, cells := 0, slots := 0, locals := 22 } s m args below meth c H locs 0 0 (MQ below (zQ A D (qX5_putsIn cI a b y1 L O ev n pq)) args s 0 0 A) (F0 m 4 ls []) := by
    intro fu
    induction fu with
    | zero => intro kx ax hkx hax hle hm; exact absurd hm (by omega)
    | succ fu ih4 =>
      intro kx ax hkx hax hle hm H locs hW ls hl
      refine lv_iload_n hx hb dX5_putsIn_4 rfl (lv_at hl 2 rfl) ?_
      refine lv_aload_n hx hb dX5_putsIn_5 rfl (lv_at hl 0 rfl) ?_
      refine va_get (D := D) (ci := 5) (v := .ref (a 1)) (C := RX5) (T := TX5) (N := 18) hx hb hts iX5_putsIn_X5 hown hK.1 hW.1 0 rfl rfl 0 (by decide) (hts _ mX5_putsIn_1) (fun _ h9 => h9) rfl dX5_putsIn_6 ?_
      refine lv_iconst (v := zI (1)) hx hb dX5_putsIn_9 rfl ?_
      refine z_iald (n := 227) (g := mm_all b) hx hb hK hW 1 rfl dX5_putsIn_10 (by omega) ?_
      refine z_icmp_ge (tgt := 63) hx hb dX5_putsIn_11 (by decide) (by omega) (fun cc_11 => ?_) (fun cc_11 => ?_)
      · exact L63 kx (by omega) (by (first | omega | (rw [List.take_of_length_le (by omega)] at hax; rw [List.take_of_length_le (by omega)]; omega)))  _ _ hW ls (lv_sub hl [0, 1, 2] rfl)
      · obtain ⟨pk, hpk, hrk, hok, -⟩ := RM_k hM (k := kx) (by omega)
        have hok1 := hok.1
        have hok2 := hok.2.1
        have hok3 := hok.2.2.1
        have hok4 := hok.2.2.2.1
        refine lv_iload_n hx hb dX5_putsIn_14 rfl (lv_at hl 3 rfl) ?_
        refine lv_iload_n hx hb dX5_putsIn_15 rfl (lv_at hl 1 rfl) ?_
        refine z_icmp_lt (tgt := 34) hx hb dX5_putsIn_16 (by decide) (by omega) (fun cc_16 => ?_) (fun cc_16 => ?_)
        · refine lv_iload_n hx hb dX5_putsIn_34 rfl (lv_at hl 3 rfl) ?_
          refine lv_aload_n hx hb dX5_putsIn_35 rfl (lv_at hl 0 rfl) ?_
          refine lv_iload_n hx hb dX5_putsIn_36 rfl (lv_at hl 2 rfl) ?_
          refine lv_iconst (v := zI (1)) hx hb dX5_putsIn_37 rfl ?_
          refine z_callV (r := (RX5, TX5, 18)) (As := [.int (zI kx), .int (zI 1)]) (rest := [.int (zI ax)]) hS hK hA hW hl.1 [0] [] (kX5_of l D cI cB a b kx 1 (by omega) (by omega)) (cwV 2 hts gX5_putsIn_X5_of rfl rfl rfl (by decide +kernel) ⟨Nat.le_of_ble_eq_true rfl, Nat.le_of_ble_eq_true rfl⟩) (rfl : vwCl[5]? = some (RX5, TX5, 18)) (q0 := 0) rfl dX5_putsIn_38 rfl rfl rfl rfl rfl (Nat.le_of_ble_eq_true rfl) ⟨Nat.le_of_ble_eq_true rfl, Nat.le_of_ble_eq_true rfl⟩ (fun v9 w9 H locs hq hW => ?_)
          obtain ⟨rr_38, rfl, rfl, hh_38⟩ := hq
          subst rr_38
          have hW : zW D A s.heap [zMod2 cI a b] H locs := hW
          refine W.eq (g2 := F0 m 41 ls [.int (zI (fL (mm_all b) kx 1)), .int (zI ax)]) rfl ?_
          rw [show (fL (mm_all b) kx 1) = pk.2.1 by exact hrk.2.1]
          refine lv_aload_n hx hb dX5_putsIn_41 rfl (lv_at hl 0 rfl) ?_
          refine va_get (D := D) (ci := 5) (v := .ref (a 6)) (C := RX5) (T := TX5) (N := 18) hx hb hts iX5_putsIn_X5 hown hK.1 hW.1 0 rfl rfl 7 (by decide) (hts _ mX5_putsIn_2) (fun _ h9 => h9) rfl dX5_putsIn_42 ?_
          refine lv_iconst (v := zI (1)) hx hb dX5_putsIn_45 rfl ?_
          refine z_iald (n := 22) (g := mm_out b) hx hb hK hW 6 rfl dX5_putsIn_46 (by omega) ?_
          refine z_icmp_ne (tgt := 54) hx hb dX5_putsIn_47 (by decide) (by omega) (fun cc_47 => ?_) (fun cc_47 => ?_)
          · refine lv_iconst (v := zI (0)) hx hb dX5_putsIn_54 rfl ?_
            refine z_iadd hx hb dX5_putsIn_55 ?_
            refine lv_istore_n (lv' := [(3, .int (zI (ax + 0))), (0, .ref (a 0)), (1, .int (zI y1)), (2, .int (zI kx))]) hx hb dX5_putsIn_56 rfl hl (by decide) rfl (fun ls hl => ?_)
            refine z_iinc (x := kx) (lv' := [(2, .int (zI (kx + 1))), (3, .int (zI (ax + 0))), (0, .ref (a 0)), (1, .int (zI y1))]) hx hb dX5_putsIn_57 hl (k := 3) rfl (by decide) rfl (fun ls hl => ?_)
            refine lv_goto (tgt := 4) hx hb dX5_putsIn_60 (by decide) ?_
            exact ih4 (kx + 1) (ax + 0) (by omega) (by first | (rw [inC_take hkx.1 hpk, if_pos (by omega), hax]; done) | (rw [inC_take hkx.1 hpk, if_neg (by omega), hax]; done)) (by omega) (by omega) _ _ hW ls (lv_sub hl [2, 3, 0, 1] rfl)
          · refine lv_iconst (v := zI (1)) hx hb dX5_putsIn_50 rfl ?_
            refine lv_goto (tgt := 55) hx hb dX5_putsIn_51 (by decide) ?_
            refine z_iadd hx hb dX5_putsIn_55 ?_
            refine lv_istore_n (lv' := [(3, .int (zI (ax + 1))), (0, .ref (a 0)), (1, .int (zI y1)), (2, .int (zI kx))]) hx hb dX5_putsIn_56 rfl hl (by decide) rfl (fun ls hl => ?_)
            refine z_iinc (x := kx) (lv' := [(2, .int (zI (kx + 1))), (3, .int (zI (ax + 1))), (0, .ref (a 0)), (1, .int (zI y1))]) hx hb dX5_putsIn_57 hl (k := 3) rfl (by decide) rfl (fun ls hl => ?_)
            refine lv_goto (tgt := 4) hx hb dX5_putsIn_60 (by decide) ?_
            exact ih4 (kx + 1) (ax + 1) (by omega) (by first | (rw [inC_take hkx.1 hpk, if_pos (by omega), hax]; done) | (rw [inC_take hkx.1 hpk, if_neg (by omega), hax]; done)) (by omega) (by omega) _ _ hW ls (lv_sub hl [2, 3, 0, 1] rfl)
        · refine lv_aload_n hx hb dX5_putsIn_19 rfl (lv_at hl 0 rfl) ?_
          refine lv_iload_n hx hb dX5_putsIn_20 rfl (lv_at hl 2 rfl) ?_
          refine lv_iconst (v := zI (1)) hx hb dX5_putsIn_21 rfl ?_
          refine z_callV (r := (RX5, TX5, 18)) (As := [.int (zI kx), .int (zI 1)]) (rest := []) hS hK hA hW hl.1 [0] [] (kX5_of l D cI cB a b kx 1 (by omega) (by omega)) (cwV 2 hts gX5_putsIn_X5_of rfl rfl rfl (by decide +kernel) ⟨Nat.le_of_ble_eq_true rfl, Nat.le_of_ble_eq_true rfl⟩) (rfl : vwCl[5]? = some (RX5, TX5, 18)) (q0 := 0) rfl dX5_putsIn_22 rfl rfl rfl rfl rfl (Nat.le_of_ble_eq_true rfl) ⟨Nat.le_of_ble_eq_true rfl, Nat.le_of_ble_eq_true rfl⟩ (fun v9 w9 H locs hq hW => ?_)
          obtain ⟨rr_22, rfl, rfl, hh_22⟩ := hq
          subst rr_22
          have hW : zW D A s.heap [zMod2 cI a b] H locs := hW
          refine W.eq (g2 := F0 m 25 ls [.int (zI (fL (mm_all b) kx 1))]) rfl ?_
          rw [show (fL (mm_all b) kx 1) = pk.2.1 by exact hrk.2.1]
          refine lv_aload_n hx hb dX5_putsIn_25 rfl (lv_at hl 0 rfl) ?_
          refine va_get (D := D) (ci := 5) (v := .ref (a 6)) (C := RX5) (T := TX5) (N := 18) hx hb hts iX5_putsIn_X5 hown hK.1 hW.1 0 rfl rfl 7 (by decide) (hts _ mX5_putsIn_2) (fun _ h9 => h9) rfl dX5_putsIn_26 ?_
          refine lv_iconst (v := zI (1)) hx hb dX5_putsIn_29 rfl ?_
          refine z_iald (n := 22) (g := mm_out b) hx hb hK hW 6 rfl dX5_putsIn_30 (by omega) ?_
          refine z_icmp_eq (tgt := 63) hx hb dX5_putsIn_31 (by decide) (by omega) (fun cc_31 => ?_) (fun cc_31 => ?_)
          · exact L63 kx (by omega) (by (first | omega | (rw [List.take_of_length_le (by omega)] at hax; rw [List.take_of_length_le (by omega)]; omega)))  _ _ hW ls (lv_sub hl [0, 1, 2] rfl)
          · refine lv_iload_n hx hb dX5_putsIn_34 rfl (lv_at hl 3 rfl) ?_
            refine lv_aload_n hx hb dX5_putsIn_35 rfl (lv_at hl 0 rfl) ?_
            refine lv_iload_n hx hb dX5_putsIn_36 rfl (lv_at hl 2 rfl) ?_
            refine lv_iconst (v := zI (1)) hx hb dX5_putsIn_37 rfl ?_
            refine z_callV (r := (RX5, TX5, 18)) (As := [.int (zI kx), .int (zI 1)]) (rest := [.int (zI ax)]) hS hK hA hW hl.1 [0] [] (kX5_of l D cI cB a b kx 1 (by omega) (by omega)) (cwV 2 hts gX5_putsIn_X5_of rfl rfl rfl (by decide +kernel) ⟨Nat.le_of_ble_eq_true rfl, Nat.le_of_ble_eq_true rfl⟩) (rfl : vwCl[5]? = some (RX5, TX5, 18)) (q0 := 0) rfl dX5_putsIn_38 rfl rfl rfl rfl rfl (Nat.le_of_ble_eq_true rfl) ⟨Nat.le_of_ble_eq_true rfl, Nat.le_of_ble_eq_true rfl⟩ (fun v9 w9 H locs hq hW => ?_)
            obtain ⟨rr_38, rfl, rfl, hh_38⟩ := hq
            subst rr_38
            have hW : zW D A s.heap [zMod2 cI a b] H locs := hW
            refine W.eq (g2 := F0 m 41 ls [.int (zI (fL (mm_all b) kx 1)), .int (zI ax)]) rfl ?_
            rw [show (fL (mm_all b) kx 1) = pk.2.1 by exact hrk.2.1]
            refine lv_aload_n hx hb dX5_putsIn_41 rfl (lv_at hl 0 rfl) ?_
            refine va_get (D := D) (ci := 5) (v := .ref (a 6)) (C := RX5) (T := TX5) (N := 18) hx hb hts iX5_putsIn_X5 hown hK.1 hW.1 0 rfl rfl 7 (by decide) (hts _ mX5_putsIn_2) (fun _ h9 => h9) rfl dX5_putsIn_42 ?_
            refine lv_iconst (v := zI (1)) hx hb dX5_putsIn_45 rfl ?_
            refine z_iald (n := 22) (g := mm_out b) hx hb hK hW 6 rfl dX5_putsIn_46 (by omega) ?_
            refine z_icmp_ne (tgt := 54) hx hb dX5_putsIn_47 (by decide) (by omega) (fun cc_47 => ?_) (fun cc_47 => ?_)
            · refine lv_iconst (v := zI (0)) hx hb dX5_putsIn_54 rfl ?_
              refine z_iadd hx hb dX5_putsIn_55 ?_
              refine lv_istore_n (lv' := [(3, .int (zI (ax + 0))), (0, .ref (a 0)), (1, .int (zI y1)), (2, .int (zI kx))]) hx hb dX5_putsIn_56 rfl hl (by decide) rfl (fun ls hl => ?_)
              refine z_iinc (x := kx) (lv' := [(2, .int (zI (kx + 1))), (3, .int (zI (ax + 0))), (0, .ref (a 0)), (1, .int (zI y1))]) hx hb dX5_putsIn_57 hl (k := 3) rfl (by decide) rfl (fun ls hl => ?_)
              refine lv_goto (tgt := 4) hx hb dX5_putsIn_60 (by decide) ?_
              exact ih4 (kx + 1) (ax + 0) (by omega) (by first | (rw [inC_take hkx.1 hpk, if_pos (by omega), hax]; done) | (rw [inC_take hkx.1 hpk, if_neg (by omega), hax]; done)) (by omega) (by omega) _ _ hW ls (lv_sub hl [2, 3, 0, 1] rfl)
            · refine lv_iconst (v := zI (1)) hx hb dX5_putsIn_50 rfl ?_
              refine lv_goto (tgt := 55) hx hb dX5_putsIn_51 (by decide) ?_
              refine z_iadd hx hb dX5_putsIn_55 ?_
              refine lv_istore_n (lv' := [(3, .int (zI (ax + 1))), (0, .ref (a 0)), (1, .int (zI y1)), (2, .int (zI kx))]) hx hb dX5_putsIn_56 rfl hl (by decide) rfl (fun ls hl => ?_)
              refine z_iinc (x := kx) (lv' := [(2, .int (zI (kx + 1))), (3, .int (zI (ax + 1))), (0, .ref (a 0)), (1, .int (zI y1))]) hx hb dX5_putsIn_57 hl (k := 3) rfl (by decide) rfl (fun ls hl => ?_)
              refine lv_goto (tgt := 4) hx hb dX5_putsIn_60 (by decide) ?_
              exact ih4 (kx + 1) (ax + 1) (by omega) (by first | (rw [inC_take hkx.1 hpk, if_pos (by omega), hax]; done) | (rw [inC_take hkx.1 hpk, if_neg (by omega), hax]; done)) (by omega) (by omega) _ _ hW ls (lv_sub hl [2, 3, 0, 1] rfl)
  exact L4 ((((L.length : Int) - 0) : Int).toNat + 1) 0 0 (by omega) (by rfl) (by omega) (by omega) _ _ hW ls (lv_sub hl [2, 3, 1, 0] rfl)

abbrev qX5_moves (cI : ClassId) (a : Nat → Nat) (b : zM2) (y1 y2 y3 : Int) (L : List zPn) (O : List Int) (ev : Int) (j : Nat) (pq : zPn) : Option Value → List va_W → Prop := fun vq wq => ∃ (zall : Int → Int) (zout : Int → Int), vq = none ∧ wq = [zMod2 cI a (mm_out_ (mm_all_ b zall) zout)] ∧ (∃ L2 : List zPn, RM zall L2 O ev ∧ ordC L2 O = mvC (ordC L O) O j pq y2 y3)
set_option maxRecDepth 20000 in
theorem iX5_moves_X5 : ∀ w ∈ u_ws RX5 TX5 18, w ∈ wsX5_moves := by decide +kernel
set_option maxRecDepth 20000 in
theorem mX5_moves_1 : (.fieldLink RX5 25 "StoryPanelsModel" "out" "[I" : Cond) ∈ wsX5_moves := by decide +kernel
set_option maxHeartbeats 4000000 in
set_option maxRecDepth 100000 in
theorem kX5_moves (l : Launch) (D : va_G) (cI cB : ClassId) (a : Nat → Nat) (b : zM2) (y1 y2 y3 : Int) (L : List zPn) (O : List Int) (ev : Int) (j : Nat) (pq : zPn) (hM : RM (mm_all b) L O ev) (hj : isP (ordC L O) j pq y1) (hy1 : R32 y1) (hy2 : 0 ≤ y2 ∧ y2 < 5) (hy3 : 0 ≤ y3 ∧ y3 ≤ inC ((ordC L O).eraseIdx j) y2) : zMet l yX5_moves wsX5_moves 2 46 0 0 D cI cB [.ref (a 0), .int (zI y1), .int (zI y2), .int (zI y3)] [zMod2 cI a b] (qX5_moves cI a b y1 y2 y3 L O ev j pq) := by
  refine zMet.of (cd := cX5_moves) (maxL := 4) (ret := none) (by decide) rfl (Nat.le_of_ble_eq_true rfl) ?_
  intro p e s m args below meth c A ls hS hr hlk hnm hK hA hW hl
  have hS : CallFix p m c cX5_moves 4 s args wsX5_moves RX5 := hS
  have hx := hS.1
  have hb := hS.2.1
  have hown := hS.2.2.2.1
  have hts := hS.2.2.2.2
  have hl : lv_has ls 4 [(0, .ref (a 0)), (1, .int (zI y1)), (2, .int (zI y2)), (3, .int (zI y3))] := hl
  have hM1 := hM.2.1
  have hM3 := hM.2.2.1
  refine lv_aload_n hx hb dX5_moves_0 rfl (lv_at hl 0 rfl) ?_
  refine lv_aload_n hx hb dX5_moves_1 rfl (lv_at hl 0 rfl) ?_
  refine lv_iload_n hx hb dX5_moves_2 rfl (lv_at hl 1 rfl) ?_
  refine z_callV (r := (RX5, TX5, 18)) (As := [.int (zI y1)]) (rest := [.ref (a 0)]) hS hK hA hW hl.1 [0] [] (kX5_lieOf l D cI cB a b y1 L O ev ev hM hy1) (cwV 1 hts gX5_moves_X5_lieOf rfl rfl rfl (by decide +kernel) ⟨Nat.le_of_ble_eq_true rfl, Nat.le_of_ble_eq_true rfl⟩) (rfl : vwCl[5]? = some (RX5, TX5, 18)) (q0 := 0) rfl dX5_moves_3 rfl rfl rfl rfl rfl (Nat.le_of_ble_eq_true rfl) ⟨Nat.le_of_ble_eq_true rfl, Nat.le_of_ble_eq_true rfl⟩ (fun v9 w9 H locs hq hW => ?_)
  obtain ⟨rr_3, rfl, rfl, hh_3⟩ := hq
  have hW : zW D A s.heap [zMod2 cI a b] H locs := hW
  refine W.eq (g2 := F0 m 6 ls [.int (zI rr_3), .ref (a 0)]) rfl ?_
  obtain ⟨kq, hkq, hrq, -⟩ := lie_j hM hh_3 hj
  have hkl := (List.getElem?_eq_some_iff.mp hkq.1).1
  have hpo := hM.2.2.2.2.2.2.1 pq (List.mem_of_getElem? hkq.1)
  have hel : (L.eraseIdx kq).length = L.length - 1 := List.length_eraseIdx_of_lt hkl
  have hin := inC_er hM hkq y2
  refine z_callV (r := (RX5, TX5, 18)) (As := [.int (zI rr_3)]) (rest := []) hS hK hA hW hl.1 [0] [] (kX5_takesOut l D cI cB a b rr_3 L O ev ev kq pq hM hkq.1 hrq) (cwV 1 hts gX5_moves_X5_takesOut rfl rfl rfl (by decide +kernel) ⟨Nat.le_of_ble_eq_true rfl, Nat.le_of_ble_eq_true rfl⟩) (rfl : vwCl[5]? = some (RX5, TX5, 18)) (q0 := 0) rfl dX5_moves_6 rfl rfl rfl rfl rfl (Nat.le_of_ble_eq_true rfl) ⟨Nat.le_of_ble_eq_true rfl, Nat.le_of_ble_eq_true rfl⟩ (fun v9 w9 H locs hq hW => ?_)
  obtain ⟨zall_6, zout_6, rfl, rfl, hh_6⟩ := hq
  have hW : zW D A s.heap [zMod2 cI a (mm_out_ (mm_all_ b (zall_6)) (zout_6))] H locs := hW
  refine W.eq (g2 := F0 m 9 ls []) rfl ?_
  refine lv_aload_n hx hb dX5_moves_9 rfl (lv_at hl 0 rfl) ?_
  refine va_get (D := D) (ci := 5) (v := .ref (a 6)) (C := RX5) (T := TX5) (N := 18) hx hb hts iX5_moves_X5 hown hK.1 hW.1 0 rfl rfl 7 (by decide) (hts _ mX5_moves_1) (fun _ h9 => h9) rfl dX5_moves_10 ?_
  refine lv_iconst (v := zI (1)) hx hb dX5_moves_13 rfl ?_
  refine lv_iload_n hx hb dX5_moves_14 rfl (lv_at hl 2 rfl) ?_
  refine z_iast (n := 22) (g := zout_6) (bs1 := [zMod2 cI a (mm_out_ (mm_all_ b (zall_6)) (zU zout_6 1 y2))]) hx hb hK hW 6 rfl dX5_moves_15 (by omega) rfl (fun H locs hW => ?_)
  refine lv_aload_n hx hb dX5_moves_16 rfl (lv_at hl 0 rfl) ?_
  refine lv_iload_n hx hb dX5_moves_17 rfl (lv_at hl 3 rfl) ?_
  refine z_callV (r := (RX5, TX5, 18)) (As := [.int (zI y3)]) (rest := []) hS hK hA hW hl.1 [0] [] (kX5_putsIn l D cI cB a ((mm_out_ (mm_all_ b (zall_6)) (zU zout_6 1 y2))) y3 ((L.eraseIdx kq)) O ev ev ((reS pq y2)) hh_6.1 (by omega) (rowO_re hh_6.2) (⟨⟨hpo.1.1, hy2, hpo.1.2.2⟩, hpo.2⟩) (by exact (erase_new hM.2.2.2.2.2.2.2.1 hkq.1 : ∀ q ∈ L.eraseIdx kq, q.1 ≠ pq.1)) (by exact ⟨hy3.1, by rw [show (reS pq y2).2.1 = y2 from rfl, hin]; exact hy3.2⟩)) (cwV 1 hts gX5_moves_X5_putsIn rfl rfl rfl (by decide +kernel) ⟨Nat.le_of_ble_eq_true rfl, Nat.le_of_ble_eq_true rfl⟩) (rfl : vwCl[5]? = some (RX5, TX5, 18)) (q0 := 0) rfl dX5_moves_18 rfl rfl rfl rfl rfl (Nat.le_of_ble_eq_true rfl) ⟨Nat.le_of_ble_eq_true rfl, Nat.le_of_ble_eq_true rfl⟩ (fun v9 w9 H locs hq hW => ?_)
  obtain ⟨zall_18, rfl, rfl, hh_18⟩ := hq
  have hW : zW D A s.heap [zMod2 cI a (mm_out_ (mm_all_ b (zall_18)) (zU zout_6 1 y2))] H locs := hW
  refine W.eq (g2 := F0 m 21 ls []) rfl ?_
  exact z_vret hx hb hr hlk hW dX5_moves_21 (by
      exact ⟨zall_18, zU zout_6 1 y2, rfl, rfl, by exact ⟨hh_18.choose, hh_18.choose_spec.1, mv_L2 hM hkq hh_18.choose_spec.2⟩⟩)

abbrev qX5_findsOrder (cI : ClassId) (a : Nat → Nat) (b : zM2) (L : List zPn) (O : List Int) (ev : Int) (n : Int) : Option Value → List va_W → Prop := fun vq wq => ∃ (zrow : Int → Int), vq = none ∧ wq = [zMod2 cI a (mm_row_ b zrow)] ∧ (FOr zrow (mm_all b) (ordC L O) (L.length : Int))
set_option maxRecDepth 20000 in
theorem iX5_findsOrder_X5 : ∀ w ∈ u_ws RX5 TX5 18, w ∈ wsX5_findsOrder := by decide +kernel
set_option maxRecDepth 20000 in
theorem mX5_findsOrder_1 : (.fieldLink RX5 7 "StoryPanelsModel" "all" "[I" : Cond) ∈ wsX5_findsOrder := by decide +kernel
set_option maxRecDepth 20000 in
theorem mX5_findsOrder_2 : (.fieldLink RX5 28 "StoryPanelsModel" "row" "[I" : Cond) ∈ wsX5_findsOrder := by decide +kernel
set_option maxHeartbeats 4000000 in
set_option maxRecDepth 100000 in
theorem kX5_findsOrder (l : Launch) (D : va_G) (cI cB : ClassId) (a : Nat → Nat) (b : zM2) (L : List zPn) (O : List Int) (ev : Int) (n : Int) (hM : RMb (mm_all b) L O ev n) : zMet l yX5_findsOrder wsX5_findsOrder 1 22 0 0 D cI cB [.ref (a 0)] [zMod2 cI a b] (qX5_findsOrder cI a b L O ev n) := by
  refine zMet.of (cd := cX5_findsOrder) (maxL := 4) (ret := none) (by decide) rfl (Nat.le_of_ble_eq_true rfl) ?_
  intro p e s m args below meth c A ls hS hr hlk hnm hK hA hW hl
  have hS : CallFix p m c cX5_findsOrder 4 s args wsX5_findsOrder RX5 := hS
  have hx := hS.1
  have hb := hS.2.1
  have hown := hS.2.2.2.1
  have hts := hS.2.2.2.2
  have hl : lv_has ls 4 [(0, .ref (a 0))] := hl
  have hM1 := hM.2.1
  have hM3 := hM.2.2.1
  have hOl := RM_Ol hM
  refine lv_iconst (v := zI (0)) hx hb dX5_findsOrder_0 rfl ?_
  refine lv_istore_n (lv' := [(1, .int (zI 0)), (0, .ref (a 0))]) hx hb dX5_findsOrder_1 rfl hl (by decide) rfl (fun ls hl => ?_)
  refine lv_iconst (v := zI (0)) hx hb dX5_findsOrder_2 rfl ?_
  refine lv_istore_n (lv' := [(2, .int (zI 0)), (1, .int (zI 0)), (0, .ref (a 0))]) hx hb dX5_findsOrder_3 rfl hl (by decide) rfl (fun ls hl => ?_)
  have L4 : ∀ (fu : Nat) (sx : Int) (nn : Int) (hr9 : Int → Int), (0 ≤ sx ∧ sx ≤ 5) → (FOn hr9 (mm_all b) (ordC L (O.take sx.toNat)) (L.length : Int) nn) → (5 - sx) < (fu : Int) → ∀ (H : Heap) (locs : List Loc), zW D A s.heap [zMod2 cI a (mm_row_ b (hr9))] H locs → ∀ (ls : Array Slot), lv_has ls 4 [(0, .ref (a 0)), (1, .int (zI nn)), (2, .int (zI sx))] → W p l e { frames := 1, cells := 0, slots := 0, locals := 22 } s m args below meth c H locs 0 0 (MQ below (zQ A D (qX5_findsOrder cI a b L O ev n)) args s 0 0 A) (F0 m 4 ls []) := by
    intro fu
    induction fu with
    | zero => intro sx nn hr9 hsx hfo hm; exact absurd hm (by omega)
    | succ fu ih4 =>
      intro sx nn hr9 hsx hfo hm H locs hW ls hl
      refine lv_iload_n hx hb dX5_findsOrder_4 rfl (lv_at hl 2 rfl) ?_
      refine lv_iconst (v := zI (5)) hx hb dX5_findsOrder_5 rfl ?_
      refine z_icmp_ge (tgt := 60) hx hb dX5_findsOrder_6 (by decide) (by omega) (fun cc_6 => ?_) (fun cc_6 => ?_)
      · exact z_vret hx hb hr hlk hW dX5_findsOrder_60 (by
            exact ⟨hr9, rfl, rfl, by have hq := hfo.2; rw [List.take_of_length_le (show O.length ≤ sx.toNat by omega)] at hq; exact hq⟩)
      · obtain ⟨sq, hs1, hs2, hs3, hs4⟩ := RM_Ok hM (k := sx) (by omega)
        refine lv_iconst (v := zI (0)) hx hb dX5_findsOrder_9 rfl ?_
        refine lv_istore_n (lv' := [(3, .int (zI 0)), (0, .ref (a 0)), (1, .int (zI nn)), (2, .int (zI sx))]) hx hb dX5_findsOrder_10 rfl hl (by decide) rfl (fun ls hl => ?_)
        have L11 : ∀ (fu : Nat) (ki : Int) (n2 : Int) (hr2 : Int → Int), (0 ≤ ki ∧ ki ≤ (L.length : Int)) → (FOn hr2 (mm_all b) (ordC L (O.take sx.toNat) ++ (L.take ki.toNat).filter (scC sq)) (L.length : Int) n2) → ((L.length : Int) - ki) < (fu : Int) → ∀ (H : Heap) (locs : List Loc), zW D A s.heap [zMod2 cI a (mm_row_ b (hr2))] H locs → ∀ (ls : Array Slot), lv_has ls 4 [(0, .ref (a 0)), (1, .int (zI n2)), (2, .int (zI sx)), (3, .int (zI ki))] → W p l e { frames := 1, cells := 0, slots := 0, locals := 22 } s m args below meth c H locs 0 0 (MQ below (zQ A D (qX5_findsOrder cI a b L O ev n)) args s 0 0 A) (F0 m 11 ls []) := by
          intro fu
          induction fu with
          | zero => intro ki n2 hr2 hki hfo2 hm; exact absurd hm (by omega)
          | succ fu ih11 =>
            intro ki n2 hr2 hki hfo2 hm H locs hW ls hl
            refine lv_iload_n hx hb dX5_findsOrder_11 rfl (lv_at hl 3 rfl) ?_
            refine lv_aload_n hx hb dX5_findsOrder_12 rfl (lv_at hl 0 rfl) ?_
            refine va_get (D := D) (ci := 5) (v := .ref (a 1)) (C := RX5) (T := TX5) (N := 18) hx hb hts iX5_findsOrder_X5 hown hK.1 hW.1 0 rfl rfl 0 (by decide) (hts _ mX5_findsOrder_1) (fun _ h9 => h9) rfl dX5_findsOrder_13 ?_
            refine lv_iconst (v := zI (1)) hx hb dX5_findsOrder_16 rfl ?_
            refine z_iald (n := 227) (g := mm_all b) hx hb hK hW 1 rfl dX5_findsOrder_17 (by omega) ?_
            refine z_icmp_ge (tgt := 54) hx hb dX5_findsOrder_18 (by decide) (by omega) (fun cc_18 => ?_) (fun cc_18 => ?_)
            · refine z_iinc (x := sx) (lv' := [(2, .int (zI (sx + 1))), (0, .ref (a 0)), (1, .int (zI n2)), (3, .int (zI ki))]) hx hb dX5_findsOrder_54 hl (k := 2) rfl (by decide) rfl (fun ls hl => ?_)
              refine lv_goto (tgt := 4) hx hb dX5_findsOrder_57 (by decide) ?_
              exact ih4 (sx + 1) n2 hr2 (by omega) (by exact FO_out hfo2 (by omega) hsx.1 hs1) (by omega) _ _ hW ls (lv_sub hl [1, 2, 0] rfl)
            · obtain ⟨pk, hpk, hrk, hok, -⟩ := RM_k hM (k := ki) (by omega)
              have hok1 := hok.1
              have hok2 := hok.2.1
              have hok3 := hok.2.2.1
              have hok4 := hok.2.2.2.1
              refine lv_aload_n hx hb dX5_findsOrder_21 rfl (lv_at hl 0 rfl) ?_
              refine lv_iload_n hx hb dX5_findsOrder_22 rfl (lv_at hl 3 rfl) ?_
              refine lv_iconst (v := zI (1)) hx hb dX5_findsOrder_23 rfl ?_
              refine z_callV (r := (RX5, TX5, 18)) (As := [.int (zI ki), .int (zI 1)]) (rest := []) hS hK hA hW hl.1 [0] [] (kX5_of l D cI cB a ((mm_row_ b (hr2))) ki 1 (by omega) (by omega)) (cwV 2 hts gX5_findsOrder_X5_of rfl rfl rfl (by decide +kernel) ⟨Nat.le_of_ble_eq_true rfl, Nat.le_of_ble_eq_true rfl⟩) (rfl : vwCl[5]? = some (RX5, TX5, 18)) (q0 := 0) rfl dX5_findsOrder_24 rfl rfl rfl rfl rfl (Nat.le_of_ble_eq_true rfl) ⟨Nat.le_of_ble_eq_true rfl, Nat.le_of_ble_eq_true rfl⟩ (fun v9 w9 H locs hq hW => ?_)
              obtain ⟨rr_24, rfl, rfl, hh_24⟩ := hq
              subst rr_24
              have hW : zW D A s.heap [zMod2 cI a (mm_row_ b (hr2))] H locs := hW
              refine W.eq (g2 := F0 m 27 ls [.int (zI (fL (mm_all ((mm_row_ b (hr2)))) ki 1))]) rfl ?_
              rw [show (fL (mm_all ((mm_row_ b (hr2)))) ki 1) = pk.2.1 by exact hrk.2.1]
              refine lv_aload_n hx hb dX5_findsOrder_27 rfl (lv_at hl 0 rfl) ?_
              refine va_get (D := D) (ci := 5) (v := .ref (a 1)) (C := RX5) (T := TX5) (N := 18) hx hb hts iX5_findsOrder_X5 hown hK.1 hW.1 0 rfl rfl 0 (by decide) (hts _ mX5_findsOrder_1) (fun _ h9 => h9) rfl dX5_findsOrder_28 ?_
              refine lv_iconst (v := zI (2)) hx hb dX5_findsOrder_31 rfl ?_
              refine lv_iload_n hx hb dX5_findsOrder_32 rfl (lv_at hl 2 rfl) ?_
              refine z_iadd hx hb dX5_findsOrder_33 ?_
              refine z_iald (n := 227) (g := mm_all b) hx hb hK hW 1 rfl dX5_findsOrder_34 (by omega) ?_
              refine z_icmp_ne (tgt := 48) hx hb dX5_findsOrder_35 (by decide) (by omega) (fun cc_35 => ?_) (fun cc_35 => ?_)
              · refine z_iinc (x := ki) (lv' := [(3, .int (zI (ki + 1))), (0, .ref (a 0)), (1, .int (zI n2)), (2, .int (zI sx))]) hx hb dX5_findsOrder_48 hl (k := 3) rfl (by decide) rfl (fun ls hl => ?_)
                refine lv_goto (tgt := 11) hx hb dX5_findsOrder_51 (by decide) ?_
                exact ih11 (ki + 1) n2 hr2 (by omega) (by first | exact FO_st hfo2 (by omega) hpk hrk (by omega) | exact FO_sk hfo2 hki.1 hpk (by omega)) (by omega) _ _ hW ls (lv_sub hl [1, 2, 3, 0] rfl)
              · have hbn := FO_bnd hM hsx.1 hs1 hki.1 hpk (by omega)
                have hnn := hfo2.1
                refine lv_aload_n hx hb dX5_findsOrder_38 rfl (lv_at hl 0 rfl) ?_
                refine va_get (D := D) (ci := 5) (v := .ref (a 7)) (C := RX5) (T := TX5) (N := 18) hx hb hts iX5_findsOrder_X5 hown hK.1 hW.1 0 rfl rfl 8 (by decide) (hts _ mX5_findsOrder_2) (fun _ h9 => h9) rfl dX5_findsOrder_39 ?_
                refine lv_iload_n hx hb dX5_findsOrder_42 rfl (lv_at hl 1 rfl) ?_
                refine lv_iload_n hx hb dX5_findsOrder_43 rfl (lv_at hl 3 rfl) ?_
                refine z_iast (n := 10) (g := hr2) (bs1 := [zMod2 cI a (mm_row_ b (zU hr2 n2 ki))]) hx hb hK hW 7 rfl dX5_findsOrder_44 (by omega) rfl (fun H locs hW => ?_)
                refine z_iinc (x := n2) (lv' := [(1, .int (zI (n2 + 1))), (0, .ref (a 0)), (2, .int (zI sx)), (3, .int (zI ki))]) hx hb dX5_findsOrder_45 hl (k := 1) rfl (by decide) rfl (fun ls hl => ?_)
                refine z_iinc (x := ki) (lv' := [(3, .int (zI (ki + 1))), (1, .int (zI (n2 + 1))), (0, .ref (a 0)), (2, .int (zI sx))]) hx hb dX5_findsOrder_48 hl (k := 3) rfl (by decide) rfl (fun ls hl => ?_)
                refine lv_goto (tgt := 11) hx hb dX5_findsOrder_51 (by decide) ?_
                exact ih11 (ki + 1) (n2 + 1) (zU hr2 n2 ki) (by omega) (by first | exact FO_st hfo2 (by omega) hpk hrk (by omega) | exact FO_sk hfo2 hki.1 hpk (by omega)) (by omega) _ _ hW ls (lv_sub hl [2, 1, 3, 0] rfl)
        exact L11 ((((L.length : Int) - 0) : Int).toNat + 1) 0 nn hr9 (by omega) (by exact FO_in hfo) (by omega) _ _ hW ls (lv_sub hl [1, 2, 3, 0] rfl)
  exact L4 (((5 - 0) : Int).toNat + 1) 0 0 (mm_row b) (by omega) (by exact FOn_0 _ _ _) (by omega) _ _ hW ls (lv_sub hl [2, 1, 0] rfl)
