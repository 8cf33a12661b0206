abbrev qX4_cell (cI : ClassId) (a n : Nat) (g : Int → Int) (ki : Int) : Option Value → List va_W → Prop := fun vq wq => ∃ (r : Int), vq = some (.int (zI r)) ∧ wq = [[zArr cI a n g]] ∧ (r = cellF g n ki)
set_option maxHeartbeats 4000000 in
set_option maxRecDepth 100000 in
theorem kX4_cell (l : Launch) (D : va_G) (cI cB : ClassId) (a n : Nat) (g : Int → Int) (ki : Int) (hnn : (n : Int) < 2147483648) (hki : R32 ki) : zMet l yX4_cell wsX4_cell 0 0 0 0 D cI cB [.ref a, .int (zI ki)] [[zArr cI a n (g)]] (qX4_cell cI a n g ki) := by
  refine zMet.of (cd := cX4_cell) (maxL := 2) (ret := (some .int)) (by decide) rfl (Nat.le_of_ble_eq_true rfl) ?_
  intro p e s m args below meth c A ls hS hr hlk hnm hK hA hW hl
  have hS : CallFix p m c cX4_cell 2 s args wsX4_cell RX4 := hS
  have hx := hS.1
  have hb := hS.2.1
  have hown := hS.2.2.2.1
  have hts := hS.2.2.2.2
  have hl : lv_has ls 2 [(0, .ref a), (1, .int (zI ki))] := hl
  refine lv_iload_n hx hb dX4_cell_0 rfl (lv_at hl 1 rfl) ?_
  refine z_if_lt (tgt := 16) hx hb dX4_cell_1 (by decide) (by omega) (fun cc_1 => ?_) (fun cc_1 => ?_)
  · refine lv_iconst (v := zI (-1)) hx hb dX4_cell_16 rfl ?_
    exact z_iret (v := (-1)) hx hb hr hlk hW dX4_cell_17 (by
        exact ⟨(-1), rfl, rfl, by unfold cellF; split <;> omega⟩)
  · refine lv_iload_n hx hb dX4_cell_4 rfl (lv_at hl 1 rfl) ?_
    refine lv_aload_n hx hb dX4_cell_5 rfl (lv_at hl 0 rfl) ?_
    refine z_alen (n := n) (g := g) hx hb hK hW 0 rfl dX4_cell_6 ?_
    refine z_icmp_ge (tgt := 16) hx hb dX4_cell_7 (by decide) (by omega) (fun cc_7 => ?_) (fun cc_7 => ?_)
    · refine lv_iconst (v := zI (-1)) hx hb dX4_cell_16 rfl ?_
      exact z_iret (v := (-1)) hx hb hr hlk hW dX4_cell_17 (by
          exact ⟨(-1), rfl, rfl, by unfold cellF; split <;> omega⟩)
    · refine lv_aload_n hx hb dX4_cell_10 rfl (lv_at hl 0 rfl) ?_
      refine lv_iload_n hx hb dX4_cell_11 rfl (lv_at hl 1 rfl) ?_
      refine z_iald (n := n) (g := g) hx hb hK hW 0 rfl dX4_cell_12 (by omega) ?_
      refine lv_goto (tgt := 17) hx hb dX4_cell_13 (by decide) ?_
      exact z_iret (v := g ki) hx hb hr hlk hW dX4_cell_17 (by
          exact ⟨g ki, rfl, rfl, by unfold cellF; split <;> omega⟩)

abbrev qX4_setCell (cI : ClassId) (a n : Nat) (g : Int → Int) (ki x : Int) : Option Value → List va_W → Prop := fun vq wq => ∃ (g1 : Int → Int), vq = none ∧ wq = [[zArr cI a n g1]] ∧ (g1 = setF g n ki x)
set_option maxHeartbeats 4000000 in
set_option maxRecDepth 100000 in
theorem kX4_setCell (l : Launch) (D : va_G) (cI cB : ClassId) (a n : Nat) (g : Int → Int) (ki v : Int) (hnn : (n : Int) < 2147483648) (hki : R32 ki) : zMet l yX4_setCell wsX4_setCell 0 0 0 0 D cI cB [.ref a, .int (zI ki), .int (zI v)] [[zArr cI a n (g)]] (qX4_setCell cI a n g ki v) := by
  refine zMet.of (cd := cX4_setCell) (maxL := 3) (ret := none) (by decide) rfl (Nat.le_of_ble_eq_true rfl) ?_
  intro p e s m args below meth c A ls hS hr hlk hnm hK hA hW hl
  have hS : CallFix p m c cX4_setCell 3 s args wsX4_setCell RX4 := hS
  have hx := hS.1
  have hb := hS.2.1
  have hown := hS.2.2.2.1
  have hts := hS.2.2.2.2
  have hl : lv_has ls 3 [(0, .ref a), (1, .int (zI ki)), (2, .int (zI v))] := hl
  refine lv_iload_n hx hb dX4_setCell_0 rfl (lv_at hl 1 rfl) ?_
  refine z_if_lt (tgt := 14) hx hb dX4_setCell_1 (by decide) (by omega) (fun cc_1 => ?_) (fun cc_1 => ?_)
  · exact z_vret hx hb hr hlk hW dX4_setCell_14 (by
        exact ⟨g, rfl, rfl, by unfold setF; first | rw [if_pos (by omega)] | rw [if_neg (by omega)]⟩)
  · refine lv_iload_n hx hb dX4_setCell_4 rfl (lv_at hl 1 rfl) ?_
    refine lv_aload_n hx hb dX4_setCell_5 rfl (lv_at hl 0 rfl) ?_
    refine z_alen (n := n) (g := g) hx hb hK hW 0 rfl dX4_setCell_6 ?_
    refine z_icmp_ge (tgt := 14) hx hb dX4_setCell_7 (by decide) (by omega) (fun cc_7 => ?_) (fun cc_7 => ?_)
    · exact z_vret hx hb hr hlk hW dX4_setCell_14 (by
          exact ⟨g, rfl, rfl, by unfold setF; first | rw [if_pos (by omega)] | rw [if_neg (by omega)]⟩)
    · refine lv_aload_n hx hb dX4_setCell_10 rfl (lv_at hl 0 rfl) ?_
      refine lv_iload_n hx hb dX4_setCell_11 rfl (lv_at hl 1 rfl) ?_
      refine lv_iload_n hx hb dX4_setCell_12 rfl (lv_at hl 2 rfl) ?_
      refine z_iast (n := n) (g := g) (bs1 := [[zArr cI a n (zU g ki v)]]) hx hb hK hW 0 rfl dX4_setCell_13 (by omega) rfl (fun H locs hW => ?_)
      exact z_vret hx hb hr hlk hW dX4_setCell_14 (by
          exact ⟨zU g ki v, rfl, rfl, by unfold setF; first | rw [if_pos (by omega)] | rw [if_neg (by omega)]⟩)

abbrev qX4_copyRow (cI : ClassId) (a n : Nat) (g : Int → Int) (a2 : Nat) (g2 : Int → Int) : Option Value → List va_W → Prop := fun vq wq => vq = none ∧ wq = [[zArr cI a n g], [zArr cI a2 n (cpF g g2 n)]] ∧ (True)
set_option maxHeartbeats 4000000 in
set_option maxRecDepth 100000 in
theorem kX4_copyRow (l : Launch) (D : va_G) (cI cB : ClassId) (a n : Nat) (g : Int → Int) (a2 : Nat) (g2 : Int → Int) (hnn : (n : Int) < 2147483648) : zMet l yX4_copyRow wsX4_copyRow 0 0 0 0 D cI cB [.ref a, .ref a2] [[zArr cI a n (g)], [zArr cI a2 n (g2)]] (qX4_copyRow cI a n g a2 g2) := by
  refine zMet.of (cd := cX4_copyRow) (maxL := 3) (ret := none) (by decide) rfl (Nat.le_of_ble_eq_true rfl) ?_
  intro p e s m args below meth c A ls hS hr hlk hnm hK hA hW hl
  have hS : CallFix p m c cX4_copyRow 3 s args wsX4_copyRow RX4 := hS
  have hx := hS.1
  have hb := hS.2.1
  have hown := hS.2.2.2.1
  have hts := hS.2.2.2.2
  have hl : lv_has ls 3 [(0, .ref a), (1, .ref a2)] := hl
  refine lv_iconst (v := zI (0)) hx hb dX4_copyRow_0 rfl ?_
  refine lv_istore_n (lv' := [(2, .int (zI 0)), (0, .ref a), (1, .ref a2)]) hx hb dX4_copyRow_1 rfl hl (by decide) rfl (fun ls hl => ?_)
  have L2 : ∀ (fu : Nat) (ki : Int) (hc : Int → Int), (0 ≤ ki ∧ ki ≤ n) → (hc = cpF g g2 ki) → ((n : Int) - ki) < (fu : Int) → ∀ (H : Heap) (locs : List Loc), zW D A s.heap [[zArr cI a n (g)], [zArr cI a2 n (hc)]] H locs → ∀ (ls : Array Slot), lv_has ls 3 [(0, .ref a), (1, .ref a2), (2, .int (zI ki))] → W p l e { frames := 0, cells := 0, slots := 0, locals := 0 } s m args below meth c H locs 0 0 (MQ below (zQ A D (qX4_copyRow cI a n g a2 g2)) args s 0 0 A) (F0 m 2 ls []) := by
    intro fu
    induction fu with
    | zero => intro ki hc hki hhc hm; exact absurd hm (by omega)
    | succ fu ih2 =>
      intro ki hc hki hhc hm H locs hW ls hl
      refine lv_iload_n hx hb dX4_copyRow_2 rfl (lv_at hl 2 rfl) ?_
      refine lv_aload_n hx hb dX4_copyRow_3 rfl (lv_at hl 0 rfl) ?_
      refine z_alen (n := n) (g := g) hx hb hK hW 0 rfl dX4_copyRow_4 ?_
      refine z_icmp_ge (tgt := 26) hx hb dX4_copyRow_5 (by decide) (by omega) (fun cc_5 => ?_) (fun cc_5 => ?_)
      · exact z_vret hx hb hr hlk hW dX4_copyRow_26 (by
            exact ⟨rfl, by (rw [show ki = (n : Int) by omega] at hhc; rw [hhc]), by trivial⟩)
      · refine lv_iload_n hx hb dX4_copyRow_8 rfl (lv_at hl 2 rfl) ?_
        refine lv_aload_n hx hb dX4_copyRow_9 rfl (lv_at hl 1 rfl) ?_
        refine z_alen (n := n) (g := hc) hx hb hK hW 1 rfl dX4_copyRow_10 ?_
        refine z_icmp_ge (tgt := 26) hx hb dX4_copyRow_11 (by decide) (by omega) (fun cc_11 => ?_) (fun cc_11 => ?_)
        · exact z_vret hx hb hr hlk hW dX4_copyRow_26 (by
              exact ⟨rfl, by (rw [show ki = (n : Int) by omega] at hhc; rw [hhc]), by trivial⟩)
        · refine lv_aload_n hx hb dX4_copyRow_14 rfl (lv_at hl 1 rfl) ?_
          refine lv_iload_n hx hb dX4_copyRow_15 rfl (lv_at hl 2 rfl) ?_
          refine lv_aload_n hx hb dX4_copyRow_16 rfl (lv_at hl 0 rfl) ?_
          refine lv_iload_n hx hb dX4_copyRow_17 rfl (lv_at hl 2 rfl) ?_
          refine z_iald (n := n) (g := g) hx hb hK hW 0 rfl dX4_copyRow_18 (by omega) ?_
          refine z_iast (n := n) (g := hc) (bs1 := [[zArr cI a n (g)], [zArr cI a2 n (zU hc ki (g ki))]]) hx hb hK hW 1 rfl dX4_copyRow_19 (by omega) rfl (fun H locs hW => ?_)
          refine z_iinc (x := ki) (lv' := [(2, .int (zI (ki + 1))), (0, .ref a), (1, .ref a2)]) hx hb dX4_copyRow_20 hl (k := 2) rfl (by decide) rfl (fun ls hl => ?_)
          refine lv_goto (tgt := 2) hx hb dX4_copyRow_23 (by decide) ?_
          exact ih2 (ki + 1) (zU hc ki (g ki)) (by omega) (by rw [hhc]; exact cpF_s _ _ (by omega)) (by omega) _ _ hW ls (lv_sub hl [1, 2, 0] rfl)
  exact L2 ((((n : Int) - 0) : Int).toNat + 1) 0 g2 (by omega) (by exact (cpF_0 _ _).symm) (by omega) _ _ hW ls (lv_sub hl [1, 2, 0] rfl)

abbrev qX4_fillRow (cI : ClassId) (a n : Nat) (g : Int → Int) (x : Int) : Option Value → List va_W → Prop := fun vq wq => vq = none ∧ wq = [[zArr cI a n (cpF (fun _ => x) g n)]] ∧ (True)
set_option maxHeartbeats 4000000 in
set_option maxRecDepth 100000 in
theorem kX4_fillRow (l : Launch) (D : va_G) (cI cB : ClassId) (a n : Nat) (g : Int → Int) (v : Int) (hnn : (n : Int) < 2147483648) : zMet l yX4_fillRow wsX4_fillRow 0 0 0 0 D cI cB [.ref a, .int (zI v)] [[zArr cI a n (g)]] (qX4_fillRow cI a n g v) := by
  refine zMet.of (cd := cX4_fillRow) (maxL := 3) (ret := none) (by decide) rfl (Nat.le_of_ble_eq_true rfl) ?_
  intro p e s m args below meth c A ls hS hr hlk hnm hK hA hW hl
  have hS : CallFix p m c cX4_fillRow 3 s args wsX4_fillRow RX4 := hS
  have hx := hS.1
  have hb := hS.2.1
  have hown := hS.2.2.2.1
  have hts := hS.2.2.2.2
  have hl : lv_has ls 3 [(0, .ref a), (1, .int (zI v))] := hl
  refine lv_iconst (v := zI (0)) hx hb dX4_fillRow_0 rfl ?_
  refine lv_istore_n (lv' := [(2, .int (zI 0)), (0, .ref a), (1, .int (zI v))]) hx hb dX4_fillRow_1 rfl hl (by decide) rfl (fun ls hl => ?_)
  have L2 : ∀ (fu : Nat) (ki : Int) (hc : Int → Int), (0 ≤ ki ∧ ki ≤ n) → (hc = cpF (fun _ => v) g ki) → ((n : Int) - ki) < (fu : Int) → ∀ (H : Heap) (locs : List Loc), zW D A s.heap [[zArr cI a n (hc)]] H locs → ∀ (ls : Array Slot), lv_has ls 3 [(0, .ref a), (1, .int (zI v)), (2, .int (zI ki))] → W p l e { frames := 0, cells := 0, slots := 0, locals := 0 } s m args below meth c H locs 0 0 (MQ below (zQ A D (qX4_fillRow cI a n g v)) args s 0 0 A) (F0 m 2 ls []) := by
    intro fu
    induction fu with
    | zero => intro ki hc hki hhc hm; exact absurd hm (by omega)
    | succ fu ih2 =>
      intro ki hc hki hhc hm H locs hW ls hl
      refine lv_iload_n hx hb dX4_fillRow_2 rfl (lv_at hl 2 rfl) ?_
      refine lv_aload_n hx hb dX4_fillRow_3 rfl (lv_at hl 0 rfl) ?_
      refine z_alen (n := n) (g := hc) hx hb hK hW 0 rfl dX4_fillRow_4 ?_
      refine z_icmp_ge (tgt := 18) hx hb dX4_fillRow_5 (by decide) (by omega) (fun cc_5 => ?_) (fun cc_5 => ?_)
      · exact z_vret hx hb hr hlk hW dX4_fillRow_18 (by
            exact ⟨rfl, by (rw [show ki = (n : Int) by omega] at hhc; rw [hhc]), by trivial⟩)
      · refine lv_aload_n hx hb dX4_fillRow_8 rfl (lv_at hl 0 rfl) ?_
        refine lv_iload_n hx hb dX4_fillRow_9 rfl (lv_at hl 2 rfl) ?_
        refine lv_iload_n hx hb dX4_fillRow_10 rfl (lv_at hl 1 rfl) ?_
        refine z_iast (n := n) (g := hc) (bs1 := [[zArr cI a n (zU hc ki v)]]) hx hb hK hW 0 rfl dX4_fillRow_11 (by omega) rfl (fun H locs hW => ?_)
        refine z_iinc (x := ki) (lv' := [(2, .int (zI (ki + 1))), (0, .ref a), (1, .int (zI v))]) hx hb dX4_fillRow_12 hl (k := 2) rfl (by decide) rfl (fun ls hl => ?_)
        refine lv_goto (tgt := 2) hx hb dX4_fillRow_15 (by decide) ?_
        exact ih2 (ki + 1) (zU hc ki v) (by omega) (by rw [hhc]; exact cpF_s (fun _ => v) _ (by omega)) (by omega) _ _ hW ls (lv_sub hl [1, 2, 0] rfl)
  exact L2 ((((n : Int) - 0) : Int).toNat + 1) 0 g (by omega) (by exact (cpF_0 _ _).symm) (by omega) _ _ hW ls (lv_sub hl [1, 2, 0] rfl)

abbrev qX4_isScene (cI : ClassId) (x : Int) : Option Value → List va_W → Prop := fun vq wq => ∃ (r : Int), vq = some (.int (zI r)) ∧ wq = [] ∧ ((r = 1 ∧ 0 ≤ x ∧ x < 5) ∨ (r = 0 ∧ (x < 0 ∨ 5 ≤ x)))
set_option maxHeartbeats 4000000 in
set_option maxRecDepth 100000 in
theorem kX4_isScene (l : Launch) (D : va_G) (cI cB : ClassId) (x : Int) (hx1 : R32 x) : zMet l yX4_isScene wsX4_isScene 0 0 0 0 D cI cB [.int (zI x)] [] (qX4_isScene cI x) := by
  refine zMet.of (cd := cX4_isScene) (maxL := 1) (ret := (some .boolean)) (by decide) rfl (Nat.le_of_ble_eq_true rfl) ?_
  intro p e s m args below meth c A ls hS hr hlk hnm hK hA hW hl
  have hS : CallFix p m c cX4_isScene 1 s args wsX4_isScene RX4 := hS
  have hx := hS.1
  have hb := hS.2.1
  have hown := hS.2.2.2.1
  have hts := hS.2.2.2.2
  have hl : lv_has ls 1 [(0, .int (zI x))] := hl
  refine lv_iload_n hx hb dX4_isScene_0 rfl (lv_at hl 0 rfl) ?_
  refine z_if_lt (tgt := 13) hx hb dX4_isScene_1 (by decide) (by omega) (fun cc_1 => ?_) (fun cc_1 => ?_)
  · refine lv_iconst (v := zI (0)) hx hb dX4_isScene_13 rfl ?_
    exact z_zret (v := 0) hx hb hr hlk hW dX4_isScene_14 (by omega) (by
        exact ⟨0, rfl, rfl, by omega⟩)
  · refine lv_iload_n hx hb dX4_isScene_4 rfl (lv_at hl 0 rfl) ?_
    refine lv_iconst (v := zI (5)) hx hb dX4_isScene_5 rfl ?_
    refine z_icmp_ge (tgt := 13) hx hb dX4_isScene_6 (by decide) (by omega) (fun cc_6 => ?_) (fun cc_6 => ?_)
    · refine lv_iconst (v := zI (0)) hx hb dX4_isScene_13 rfl ?_
      exact z_zret (v := 0) hx hb hr hlk hW dX4_isScene_14 (by omega) (by
          exact ⟨0, rfl, rfl, by omega⟩)
    · refine lv_iconst (v := zI (1)) hx hb dX4_isScene_9 rfl ?_
      refine lv_goto (tgt := 14) hx hb dX4_isScene_10 (by decide) ?_
      exact z_zret (v := 1) hx hb hr hlk hW dX4_isScene_14 (by omega) (by
          exact ⟨1, rfl, rfl, by omega⟩)

abbrev qX4_isScenePlace (cI : ClassId) (x : Int) : Option Value → List va_W → Prop := fun vq wq => ∃ (r : Int), vq = some (.int (zI r)) ∧ wq = [] ∧ ((r = 1 ∧ 0 ≤ x ∧ x < 5) ∨ (r = 0 ∧ (x < 0 ∨ 5 ≤ x)))
set_option maxHeartbeats 4000000 in
set_option maxRecDepth 100000 in
theorem kX4_isScenePlace (l : Launch) (D : va_G) (cI cB : ClassId) (x : Int) (hx1 : R32 x) : zMet l yX4_isScenePlace wsX4_isScenePlace 0 0 0 0 D cI cB [.int (zI x)] [] (qX4_isScenePlace cI x) := by
  refine zMet.of (cd := cX4_isScenePlace) (maxL := 1) (ret := (some .boolean)) (by decide) rfl (Nat.le_of_ble_eq_true rfl) ?_
  intro p e s m args below meth c A ls hS hr hlk hnm hK hA hW hl
  have hS : CallFix p m c cX4_isScenePlace 1 s args wsX4_isScenePlace RX4 := hS
  have hx := hS.1
  have hb := hS.2.1
  have hown := hS.2.2.2.1
  have hts := hS.2.2.2.2
  have hl : lv_has ls 1 [(0, .int (zI x))] := hl
  refine lv_iload_n hx hb dX4_isScenePlace_0 rfl (lv_at hl 0 rfl) ?_
  refine z_if_lt (tgt := 13) hx hb dX4_isScenePlace_1 (by decide) (by omega) (fun cc_1 => ?_) (fun cc_1 => ?_)
  · refine lv_iconst (v := zI (0)) hx hb dX4_isScenePlace_13 rfl ?_
    exact z_zret (v := 0) hx hb hr hlk hW dX4_isScenePlace_14 (by omega) (by
        exact ⟨0, rfl, rfl, by omega⟩)
  · refine lv_iload_n hx hb dX4_isScenePlace_4 rfl (lv_at hl 0 rfl) ?_
    refine lv_iconst (v := zI (5)) hx hb dX4_isScenePlace_5 rfl ?_
    refine z_icmp_ge (tgt := 13) hx hb dX4_isScenePlace_6 (by decide) (by omega) (fun cc_6 => ?_) (fun cc_6 => ?_)
    · refine lv_iconst (v := zI (0)) hx hb dX4_isScenePlace_13 rfl ?_
      exact z_zret (v := 0) hx hb hr hlk hW dX4_isScenePlace_14 (by omega) (by
          exact ⟨0, rfl, rfl, by omega⟩)
    · refine lv_iconst (v := zI (1)) hx hb dX4_isScenePlace_9 rfl ?_
      refine lv_goto (tgt := 14) hx hb dX4_isScenePlace_10 (by decide) ?_
      exact z_zret (v := 1) hx hb hr hlk hW dX4_isScenePlace_14 (by omega) (by
          exact ⟨1, rfl, rfl, by omega⟩)

abbrev qX4_takesProp (cI : ClassId) (x : Int) : Option Value → List va_W → Prop := fun vq wq => ∃ (r : Int), vq = some (.int (zI r)) ∧ wq = [] ∧ ((r = 1 ∧ (x = 0 ∨ x = 1 ∨ x = 2)) ∨ (r = 0 ∧ x ≠ 0 ∧ x ≠ 1 ∧ x ≠ 2))
set_option maxHeartbeats 4000000 in
set_option maxRecDepth 100000 in
theorem kX4_takesProp (l : Launch) (D : va_G) (cI cB : ClassId) (x : Int) (hx1 : R32 x) : zMet l yX4_takesProp wsX4_takesProp 0 0 0 0 D cI cB [.int (zI x)] [] (qX4_takesProp cI x) := by
  refine zMet.of (cd := cX4_takesProp) (maxL := 1) (ret := (some .boolean)) (by decide) rfl (Nat.le_of_ble_eq_true rfl) ?_
  intro p e s m args below meth c A ls hS hr hlk hnm hK hA hW hl
  have hS : CallFix p m c cX4_takesProp 1 s args wsX4_takesProp RX4 := hS
  have hx := hS.1
  have hb := hS.2.1
  have hown := hS.2.2.2.1
  have hts := hS.2.2.2.2
  have hl : lv_has ls 1 [(0, .int (zI x))] := hl
  refine lv_iload_n hx hb dX4_takesProp_0 rfl (lv_at hl 0 rfl) ?_
  refine z_if_eq (tgt := 14) hx hb dX4_takesProp_1 (by decide) (by omega) (fun cc_1 => ?_) (fun cc_1 => ?_)
  · refine lv_iconst (v := zI (1)) hx hb dX4_takesProp_14 rfl ?_
    refine lv_goto (tgt := 19) hx hb dX4_takesProp_15 (by decide) ?_
    exact z_zret (v := 1) hx hb hr hlk hW dX4_takesProp_19 (by omega) (by
        exact ⟨1, rfl, rfl, by omega⟩)
  · refine lv_iload_n hx hb dX4_takesProp_4 rfl (lv_at hl 0 rfl) ?_
    refine lv_iconst (v := zI (1)) hx hb dX4_takesProp_5 rfl ?_
    refine z_icmp_eq (tgt := 14) hx hb dX4_takesProp_6 (by decide) (by omega) (fun cc_6 => ?_) (fun cc_6 => ?_)
    · refine lv_iconst (v := zI (1)) hx hb dX4_takesProp_14 rfl ?_
      refine lv_goto (tgt := 19) hx hb dX4_takesProp_15 (by decide) ?_
      exact z_zret (v := 1) hx hb hr hlk hW dX4_takesProp_19 (by omega) (by
          exact ⟨1, rfl, rfl, by omega⟩)
    · refine lv_iload_n hx hb dX4_takesProp_9 rfl (lv_at hl 0 rfl) ?_
      refine lv_iconst (v := zI (2)) hx hb dX4_takesProp_10 rfl ?_
      refine z_icmp_ne (tgt := 18) hx hb dX4_takesProp_11 (by decide) (by omega) (fun cc_11 => ?_) (fun cc_11 => ?_)
      · refine lv_iconst (v := zI (0)) hx hb dX4_takesProp_18 rfl ?_
        exact z_zret (v := 0) hx hb hr hlk hW dX4_takesProp_19 (by omega) (by
            exact ⟨0, rfl, rfl, by omega⟩)
      · refine lv_iconst (v := zI (1)) hx hb dX4_takesProp_14 rfl ?_
        refine lv_goto (tgt := 19) hx hb dX4_takesProp_15 (by decide) ?_
        exact z_zret (v := 1) hx hb hr hlk hW dX4_takesProp_19 (by omega) (by
            exact ⟨1, rfl, rfl, by omega⟩)

abbrev qX4_codeOf (cI : ClassId) (x y z : Int) : Option Value → List va_W → Prop := fun vq wq => ∃ (r : Int), vq = some (.int (zI r)) ∧ wq = [] ∧ (r = x * 100 + y * 10 + z)
set_option maxHeartbeats 4000000 in
set_option maxRecDepth 100000 in
theorem kX4_codeOf (l : Launch) (D : va_G) (cI cB : ClassId) (x y z : Int)  : zMet l yX4_codeOf wsX4_codeOf 0 0 0 0 D cI cB [.int (zI x), .int (zI y), .int (zI z)] [] (qX4_codeOf cI x y z) := by
  refine zMet.of (cd := cX4_codeOf) (maxL := 3) (ret := (some .int)) (by decide) rfl (Nat.le_of_ble_eq_true rfl) ?_
  intro p e s m args below meth c A ls hS hr hlk hnm hK hA hW hl
  have hS : CallFix p m c cX4_codeOf 3 s args wsX4_codeOf RX4 := hS
  have hx := hS.1
  have hb := hS.2.1
  have hown := hS.2.2.2.1
  have hts := hS.2.2.2.2
  have hl : lv_has ls 3 [(0, .int (zI x)), (1, .int (zI y)), (2, .int (zI z))] := hl
  refine lv_iload_n hx hb dX4_codeOf_0 rfl (lv_at hl 0 rfl) ?_
  refine lv_bipush (v := zI (100)) hx hb dX4_codeOf_1 (by decide +kernel) ?_
  refine z_imul hx hb dX4_codeOf_3 ?_
  refine lv_iload_n hx hb dX4_codeOf_4 rfl (lv_at hl 1 rfl) ?_
  refine lv_bipush (v := zI (10)) hx hb dX4_codeOf_5 (by decide +kernel) ?_
  refine z_imul hx hb dX4_codeOf_7 ?_
  refine z_iadd hx hb dX4_codeOf_8 ?_
  refine lv_iload_n hx hb dX4_codeOf_9 rfl (lv_at hl 2 rfl) ?_
  refine z_iadd hx hb dX4_codeOf_10 ?_
  exact z_iret (v := ((x * 100) + (y * 10)) + z) hx hb hr hlk hW dX4_codeOf_11 (by
      exact ⟨((x * 100) + (y * 10)) + z, rfl, rfl, by rfl⟩)

abbrev qX4_characterIn (cI : ClassId) (x : Int) : Option Value → List va_W → Prop := fun vq wq => ∃ (r : Int), vq = some (.int (zI r)) ∧ wq = [] ∧ (r = x / 100)
set_option maxHeartbeats 4000000 in
set_option maxRecDepth 100000 in
theorem kX4_characterIn (l : Launch) (D : va_G) (cI cB : ClassId) (x : Int) (hx1 : 0 ≤ x ∧ x < 2147483648) : zMet l yX4_characterIn wsX4_characterIn 0 0 0 0 D cI cB [.int (zI x)] [] (qX4_characterIn cI x) := by
  refine zMet.of (cd := cX4_characterIn) (maxL := 1) (ret := (some .int)) (by decide) rfl (Nat.le_of_ble_eq_true rfl) ?_
  intro p e s m args below meth c A ls hS hr hlk hnm hK hA hW hl
  have hS : CallFix p m c cX4_characterIn 1 s args wsX4_characterIn RX4 := hS
  have hx := hS.1
  have hb := hS.2.1
  have hown := hS.2.2.2.1
  have hts := hS.2.2.2.2
  have hl : lv_has ls 1 [(0, .int (zI x))] := hl
  refine lv_iload_n hx hb dX4_characterIn_0 rfl (lv_at hl 0 rfl) ?_
  refine lv_bipush (v := zI (100)) hx hb dX4_characterIn_1 (by decide +kernel) ?_
  refine z_idiv hx hb dX4_characterIn_3 (by omega) ?_
  exact z_iret (v := x / 100) hx hb hr hlk hW dX4_characterIn_4 (by
      exact ⟨x / 100, rfl, rfl, by rfl⟩)

abbrev qX4_kindIn (cI : ClassId) (x : Int) : Option Value → List va_W → Prop := fun vq wq => ∃ (r : Int), vq = some (.int (zI r)) ∧ wq = [] ∧ (r = x / 10 % 10)
set_option maxHeartbeats 4000000 in
set_option maxRecDepth 100000 in
theorem kX4_kindIn (l : Launch) (D : va_G) (cI cB : ClassId) (x : Int) (hx1 : 0 ≤ x ∧ x < 2147483648) : zMet l yX4_kindIn wsX4_kindIn 0 0 0 0 D cI cB [.int (zI x)] [] (qX4_kindIn cI x) := by
  refine zMet.of (cd := cX4_kindIn) (maxL := 1) (ret := (some .int)) (by decide) rfl (Nat.le_of_ble_eq_true rfl) ?_
  intro p e s m args below meth c A ls hS hr hlk hnm hK hA hW hl
  have hS : CallFix p m c cX4_kindIn 1 s args wsX4_kindIn RX4 := hS
  have hx := hS.1
  have hb := hS.2.1
  have hown := hS.2.2.2.1
  have hts := hS.2.2.2.2
  have hl : lv_has ls 1 [(0, .int (zI x))] := hl
  refine lv_iload_n hx hb dX4_kindIn_0 rfl (lv_at hl 0 rfl) ?_
  refine lv_bipush (v := zI (10)) hx hb dX4_kindIn_1 (by decide +kernel) ?_
  refine z_idiv hx hb dX4_kindIn_3 (by omega) ?_
  refine lv_bipush (v := zI (10)) hx hb dX4_kindIn_4 (by decide +kernel) ?_
  refine z_irem hx hb dX4_kindIn_6 (by omega) ?_
  exact z_iret (v := (x / 10) % 10) hx hb hr hlk hW dX4_kindIn_7 (by
      exact ⟨(x / 10) % 10, rfl, rfl, by rfl⟩)

abbrev qX4_propIn (cI : ClassId) (x : Int) : Option Value → List va_W → Prop := fun vq wq => ∃ (r : Int), vq = some (.int (zI r)) ∧ wq = [] ∧ (r = x % 10)
set_option maxHeartbeats 4000000 in
set_option maxRecDepth 100000 in
theorem kX4_propIn (l : Launch) (D : va_G) (cI cB : ClassId) (x : Int) (hx1 : 0 ≤ x ∧ x < 2147483648) : zMet l yX4_propIn wsX4_propIn 0 0 0 0 D cI cB [.int (zI x)] [] (qX4_propIn cI x) := by
  refine zMet.of (cd := cX4_propIn) (maxL := 1) (ret := (some .int)) (by decide) rfl (Nat.le_of_ble_eq_true rfl) ?_
  intro p e s m args below meth c A ls hS hr hlk hnm hK hA hW hl
  have hS : CallFix p m c cX4_propIn 1 s args wsX4_propIn RX4 := hS
  have hx := hS.1
  have hb := hS.2.1
  have hown := hS.2.2.2.1
  have hts := hS.2.2.2.2
  have hl : lv_has ls 1 [(0, .int (zI x))] := hl
  refine lv_iload_n hx hb dX4_propIn_0 rfl (lv_at hl 0 rfl) ?_
  refine lv_bipush (v := zI (10)) hx hb dX4_propIn_1 (by decide +kernel) ?_
  refine z_irem hx hb dX4_propIn_3 (by omega) ?_
  exact z_iret (v := x % 10) hx hb hr hlk hW dX4_propIn_4 (by
      exact ⟨x % 10, rfl, rfl, by rfl⟩)
