abbrev qX5_in (cI : ClassId) (x y z : Int) : Option Value → List va_W → Prop := fun vq wq => ∃ (r : Int), vq = some (.int (zI r)) ∧ wq = [] ∧ ((r = 1 ∧ y ≤ x ∧ x ≤ z) ∨ (r = 0 ∧ (x < y ∨ z < x)))
set_option maxHeartbeats 4000000 in
set_option maxRecDepth 100000 in
theorem kX5_in (l : Launch) (D : va_G) (cI cB : ClassId) (x y z : Int) (hx1 : R64 x) (hy1 : R64 y) (hz1 : R64 z) : zMet l yX5_in wsX5_in 0 0 0 0 D cI cB [.long (zL x), .long (zL y), .long (zL z)] [] (qX5_in cI x y z) := by
  refine zMet.of (cd := cX5_in) (maxL := 6) (ret := (some .boolean)) (by decide) rfl (Nat.le_of_ble_eq_true rfl) ?_
  intro p e s m args below meth c A ls hS hr hlk hnm hK hA hW hl
  have hS : CallFix p m c cX5_in 6 s args wsX5_in RX5 := hS
  have hx := hS.1
  have hb := hS.2.1
  have hown := hS.2.2.2.1
  have hts := hS.2.2.2.2
  have hl : lv_has ls 6 [(0, .long (zL x)), (2, .long (zL y)), (4, .long (zL z))] := hl
  refine z_lload_n hx hb dX5_in_0 rfl (lv_at hl 0 rfl) ?_
  refine z_lload_n hx hb dX5_in_1 rfl (lv_at hl 1 rfl) ?_
  refine z_lcmp hx hb dX5_in_2 (by omega) ?_
  have zc_2 := zcmp_rg x y
  refine z_if_lt (tgt := 17) hx hb dX5_in_3 (by decide) (by omega) (fun cc_3 => ?_) (fun cc_3 => ?_)
  · refine lv_iconst (v := zI (0)) hx hb dX5_in_17 rfl ?_
    exact z_zret (v := 0) hx hb hr hlk hW dX5_in_18 (by omega) (by
        exact ⟨0, rfl, rfl, by omega⟩)
  · refine z_lload_n hx hb dX5_in_6 rfl (lv_at hl 0 rfl) ?_
    refine z_lload hx hb dX5_in_7 (lv_at hl 2 rfl) ?_
    refine z_lcmp hx hb dX5_in_9 (by omega) ?_
    have zc_9 := zcmp_rg x z
    refine z_if_gt (tgt := 17) hx hb dX5_in_10 (by decide) (by omega) (fun cc_10 => ?_) (fun cc_10 => ?_)
    · refine lv_iconst (v := zI (0)) hx hb dX5_in_17 rfl ?_
      exact z_zret (v := 0) hx hb hr hlk hW dX5_in_18 (by omega) (by
          exact ⟨0, rfl, rfl, by omega⟩)
    · refine lv_iconst (v := zI (1)) hx hb dX5_in_13 rfl ?_
      refine lv_goto (tgt := 18) hx hb dX5_in_14 (by decide) ?_
      exact z_zret (v := 1) hx hb hr hlk hW dX5_in_18 (by omega) (by
          exact ⟨1, rfl, rfl, by omega⟩)

abbrev qX5_isScene (cI : ClassId) (x : Int) : Option Value → List va_W → Prop := fun vq wq => ∃ (r : Int), vq = some (.int (zI r)) ∧ wq = [] ∧ ((r = 1 ∧ 0 ≤ x ∧ x < 5) ∨ (r = 0 ∧ (x < 0 ∨ 5 ≤ x)))
set_option maxRecDepth 20000 in
theorem mX5_isScene_0 : (.constantLong RX5 57 (4) : Cond) ∈ wsX5_isScene := by decide +kernel
set_option maxHeartbeats 4000000 in
set_option maxRecDepth 100000 in
theorem kX5_isScene (l : Launch) (D : va_G) (cI cB : ClassId) (x : Int) (hx1 : R32 x) : zMet l yX5_isScene wsX5_isScene 1 25 0 0 D cI cB [.int (zI x)] [] (qX5_isScene cI x) := by
  refine zMet.of (cd := cX5_isScene) (maxL := 1) (ret := (some .boolean)) (by decide) rfl (Nat.le_of_ble_eq_true rfl) ?_
  intro p e s m args below meth c A ls hS hr hlk hnm hK hA hW hl
  have hS : CallFix p m c cX5_isScene 1 s args wsX5_isScene RX5 := hS
  have hx := hS.1
  have hb := hS.2.1
  have hown := hS.2.2.2.1
  have hts := hS.2.2.2.2
  have hl : lv_has ls 1 [(0, .int (zI x))] := hl
  refine lv_iload_n hx hb dX5_isScene_0 rfl (lv_at hl 0 rfl) ?_
  refine z_i2l hx hb dX5_isScene_1 (by omega) ?_
  refine z_lconst hx hb dX5_isScene_2 ?_
  refine z_ldc2 (n := 4) hx hb hown (hts _ mX5_isScene_0) (by decide) dX5_isScene_3 ?_
  refine z_callS (As := [.long (zL x), .long (zL 0), .long (zL 4)]) (rest := []) hS hK hA hW hl.1 [] [] (kX5_in l D cI cB x 0 4 (by omega) (by omega) (by omega)) (va_cwS 3 hts gX5_isScene_X5_in rfl rfl rfl (by decide +kernel) ⟨Nat.le_of_ble_eq_true rfl, Nat.le_of_ble_eq_true rfl⟩) dX5_isScene_6 rfl rfl rfl rfl rfl (Nat.le_of_ble_eq_true rfl) ⟨Nat.le_of_ble_eq_true rfl, Nat.le_of_ble_eq_true rfl⟩ (fun v9 w9 H locs hq hW => ?_)
  obtain ⟨rr_6, rfl, rfl, hh_6⟩ := hq
  have hW : zW D A s.heap [] H locs := hW
  refine W.eq (g2 := F0 m 9 ls [.int (zI rr_6)]) rfl ?_
  exact z_zret (v := rr_6) hx hb hr hlk hW dX5_isScene_9 (by omega) (by
      exact ⟨rr_6, rfl, rfl, by omega⟩)

abbrev qX5_copy (cI : ClassId) (a : Nat) (g : Int → Int) (a2 : Nat) (g2 : Int → Int) : Option Value → List va_W → Prop := fun vq wq => vq = none ∧ wq = [[zArr cI a 227 g], [zArr cI a2 227 (cpF g g2 227)]] ∧ (True)
set_option maxHeartbeats 4000000 in
set_option maxRecDepth 100000 in
theorem kX5_copy (l : Launch) (D : va_G) (cI cB : ClassId) (a : Nat) (g : Int → Int) (a2 : Nat) (g2 : Int → Int)  : zMet l yX5_copy wsX5_copy 0 0 0 0 D cI cB [.ref a, .ref a2] [[zArr cI a 227 (g)], [zArr cI a2 227 (g2)]] (qX5_copy cI a g a2 g2) := by
  refine zMet.of (cd := cX5_copy) (maxL := 3) (ret := none) (by decide) rfl (Nat.le_of_ble_eq_true rfl) ?_
  intro p e s m args below meth c A ls hS hr hlk hnm hK hA hW hl
  have hS : CallFix p m c cX5_copy 3 s args wsX5_copy RX5 := hS
  have hx := hS.1
  have hb := hS.2.1
  have hown := hS.2.2.2.1
  have hts := hS.2.2.2.2
  have hl : lv_has ls 3 [(0, .ref a), (1, .ref a2)] := hl
  refine lv_iconst (v := zI (0)) hx hb dX5_copy_0 rfl ?_
  refine lv_istore_n (lv' := [(2, .int (zI 0)), (0, .ref a), (1, .ref a2)]) hx hb dX5_copy_1 rfl hl (by decide) rfl (fun ls hl => ?_)
  have L2 : ∀ (fu : Nat) (ki : Int) (hc : Int → Int), (0 ≤ ki ∧ ki ≤ 227) → (hc = cpF g g2 ki) → (227 - ki) < (fu : Int) → ∀ (H : Heap) (locs : List Loc), zW D A s.heap [[zArr cI a 227 (g)], [zArr cI a2 227 (hc)]] H locs → ∀ (ls : Array Slot), lv_has ls 3 [(0, .ref a), (1, .ref a2), (2, .int (zI ki))] → W p l e { frames := 0, cells := 0, slots := 0, locals := 0 } s m args below meth c H locs 0 0 (MQ below (zQ A D (qX5_copy cI a g a2 g2)) args s 0 0 A) (F0 m 2 ls []) := by
    intro fu
    induction fu with
    | zero => intro ki hc hki hhc hm; exact absurd hm (by omega)
    | succ fu ih2 =>
      intro ki hc hki hhc hm H locs hW ls hl
      refine lv_iload_n hx hb dX5_copy_2 rfl (lv_at hl 2 rfl) ?_
      refine lv_sipush (v := zI (227)) hx hb dX5_copy_3 (by decide +kernel) ?_
      refine z_icmp_ge (tgt := 21) hx hb dX5_copy_6 (by decide) (by omega) (fun cc_6 => ?_) (fun cc_6 => ?_)
      · exact z_vret hx hb hr hlk hW dX5_copy_21 (by
            exact ⟨rfl, by (rw [show ki = 227 by omega] at hhc; rw [hhc]), by trivial⟩)
      · refine lv_aload_n hx hb dX5_copy_9 rfl (lv_at hl 1 rfl) ?_
        refine lv_iload_n hx hb dX5_copy_10 rfl (lv_at hl 2 rfl) ?_
        refine lv_aload_n hx hb dX5_copy_11 rfl (lv_at hl 0 rfl) ?_
        refine lv_iload_n hx hb dX5_copy_12 rfl (lv_at hl 2 rfl) ?_
        refine z_iald (n := 227) (g := g) hx hb hK hW 0 rfl dX5_copy_13 (by omega) ?_
        refine z_iast (n := 227) (g := hc) (bs1 := [[zArr cI a 227 (g)], [zArr cI a2 227 (zU hc ki (g ki))]]) hx hb hK hW 1 rfl dX5_copy_14 (by omega) rfl (fun H locs hW => ?_)
        refine z_iinc (x := ki) (lv' := [(2, .int (zI (ki + 1))), (0, .ref a), (1, .ref a2)]) hx hb dX5_copy_15 hl (k := 2) rfl (by decide) rfl (fun ls hl => ?_)
        refine lv_goto (tgt := 2) hx hb dX5_copy_18 (by decide) ?_
        exact ih2 (ki + 1) (zU hc ki (g ki)) (by omega) (by rw [hhc]; exact cpF_s _ _ (by omega)) (by omega) _ _ hW ls (lv_sub hl [1, 2, 0] rfl)
  exact L2 (((227 - 0) : Int).toNat + 1) 0 g2 (by omega) (by exact (cpF_0 _ _).symm) (by omega) _ _ hW ls (lv_sub hl [1, 2, 0] rfl)
