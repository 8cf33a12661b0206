/-! numbers: every int of the machine is zI of a whole number -/
def zI (x : Int) : Int32 := Int32.ofInt x
abbrev R32 (x : Int) : Prop := -2147483648 ≤ x ∧ x < 2147483648
theorem zI_toInt {x : Int} (h : R32 x) : (zI x).toInt = x := Int32.toInt_ofInt_of_le (by omega) (by omega)
theorem zI_of (x : Int32) : zI x.toInt = x := Int32.ofInt_toInt x
theorem zR (x : Int32) : R32 x.toInt := ⟨by have := Int32.le_toInt x; omega, by have := Int32.toInt_lt x; omega⟩
theorem zI_ex (x : Int32) : ∃ y : Int, R32 y ∧ x = zI y := ⟨x.toInt, zR x, (zI_of x).symm⟩
theorem zI_add (x y : Int) : zI x + zI y = zI (x + y) := (Int32.ofInt_add x y).symm
theorem zI_sub (x y : Int) : zI x - zI y = zI (x - y) := (Int32.ofInt_sub x y).symm
theorem zI_mul (x y : Int) : zI x * zI y = zI (x * y) := (Int32.ofInt_mul x y).symm
theorem zI_inj {x y : Int} (hx : R32 x) (hy : R32 y) : zI x = zI y ↔ x = y := by
  rw [← Int32.toInt_inj, zI_toInt hx, zI_toInt hy]
theorem zI_lt {x y : Int} (hx : R32 x) (hy : R32 y) : zI x < zI y ↔ x < y := by
  rw [Int32.lt_iff_toInt_lt, zI_toInt hx, zI_toInt hy]
theorem zI_le {x y : Int} (hx : R32 x) (hy : R32 y) : zI x ≤ zI y ↔ x ≤ y := by
  rw [Int32.le_iff_toInt_le, zI_toInt hx, zI_toInt hy]
theorem zI_0 : (0 : Int32) = zI 0 := by decide
theorem zI_nat (n : Nat) : Int32.ofNat n = zI (n : Int) := (Int32.ofInt_eq_ofNat).symm
theorem zI_clamp {x : Int} (h : 0 ≤ x ∧ x < 2147483648) : (zI x).toNatClampNeg = x.toNat := by
  show ((zI x).toInt).toNat = x.toNat
  rw [zI_toInt (by omega)]
theorem zI_in {i : Int} {n : Nat} (h : 0 ≤ i ∧ i < n) (hn : (n : Int) < 2147483648) : vp_in (zI i) n := by
  rw [vp_in_iff, zI_toInt (by omega)]; exact h
theorem zI_div {x y : Int} (hx : 0 ≤ x ∧ x < 2147483648) (hy : 0 < y ∧ y < 2147483648) : zI x / zI y = zI (x / y) := by
  have h1 : Int32.minValue.toInt = -2147483648 := by decide
  have h2 : Int32.maxValue.toInt = 2147483647 := by decide
  have h := Int32.ofInt_tdiv (a := x) (b := y) (by omega) (by omega) (by omega) (by omega)
  rw [show x / y = x.tdiv y from (Int.tdiv_eq_ediv_of_nonneg hx.1).symm]
  exact h.symm
theorem zI_rem {x y : Int} (hx : 0 ≤ x ∧ x < 2147483648) (hy : 0 < y ∧ y < 2147483648) : zI x - zI x / zI y * zI y = zI (x % y) := by
  rw [zI_div hx hy, zI_mul, zI_sub]
  congr 1
  have := Int.emod_add_mul_ediv x y
  rw [Int.mul_comm] at this
  omega
/-! int arrays: contents over whole numbers -/
def zA (g : Int → Int) : Nat → Int32 := fun j => zI (g j)
def zU (g : Int → Int) (i v : Int) : Int → Int := fun j => if j = i then v else g j
theorem zU_s (g : Int → Int) (i v : Int) : zU g i v i = v := if_pos rfl
theorem zU_n (g : Int → Int) {i j : Int} (v : Int) (h : j ≠ i) : zU g i v j = g j := if_neg h
theorem zA_upd (g : Int → Int) {i : Int} (v : Int) (h : 0 ≤ i ∧ i < 2147483648) : upd (zA g) (zI i).toNatClampNeg (zI v) = zA (zU g i v) := by
  rw [zI_clamp h]
  funext j
  unfold upd zA zU
  by_cases hj : j = i.toNat
  · rw [if_pos hj, if_pos (by omega)]
  · rw [if_neg hj, if_neg (by omega)]
theorem zA_at (g : Int → Int) {i : Int} (h : 0 ≤ i ∧ i < 2147483648) : zA g (zI i).toNatClampNeg = zI (g i) := by
  rw [zI_clamp h]
  unfold zA
  rw [show ((i.toNat : Nat) : Int) = i by omega]
theorem zA_const (v : Int) : zA (fun _ => v) = fun _ => zI v := rfl
def zArr (cI : ClassId) (a n : Nat) (g : Int → Int) : Nat × va_E := (a, .inl (cI, n, .inl (zA g)))
/-! the words of nest mates -/
def nestM : List Cond := [.fieldLinkNest RX4 75 RX0 "size" "I" RX4, .fieldLinkNest RX4 198 RX0 "soFar" "I" RX4, .fieldLinkNest RX4 132 RX2 "size" "I" RX4, .fieldLinkNest RX4 126 RX3 "length" "I" RX4, .fieldLinkNest RX0 87 RX3 "scene" "I" RX4, .fieldLinkNest RX0 100 RX3 "duration" "I" RX4, .fieldLinkNest RX0 103 RX3 "events" "I" RX4, .fieldLinkNest RX0 106 RX3 "eventCodes" "[I" RX4, .fieldLinkNest RX4 207 RX1 "breaks" "I" RX4, .methodLinkNest RX0 40 yX4_fillRow RX4, .methodLinkNest RX0 44 yX4_setCell RX4, .methodLinkNest RX4 32 yX3_init RX4, .methodLinkNest RX4 39 yX1_init RX4, .methodLinkNest RX3 62 yX4_cell RX4, .methodLinkNest RX3 39 yX4_isScene RX4, .methodLinkNest RX3 55 yX4_takesProp RX4, .methodLinkNest RX3 58 yX4_codeOf RX4, .methodLinkNest RX3 31 yX4_setCell RX4, .methodLinkNest RX0 48 yX4_copyRow RX4, .methodLinkNest RX0 52 yX4_cell RX4, .methodLinkNest RX1 31 yX4_fillRow RX4, .methodLinkNest RX1 58 yX4_characterIn RX4, .methodLinkNest RX1 61 yX4_kindIn RX4, .methodLinkNest RX1 64 yX4_takesProp RX4, .methodLinkNest RX1 79 yX4_propIn RX4, .methodLinkNest RX1 82 yX4_cell RX4, .methodLinkNest RX1 90 yX4_setCell RX4]
def ZM (U : State) : Prop := ∀ w ∈ nestM, va_Nw w U
theorem ZM.warm {s U : State} (hW : s.WarmedH U.vm) (h : ZM s) : ZM U := by
  unfold ZM nestM at *
  simp only [List.mem_cons, List.not_mem_nil, or_false, forall_eq_or_imp, forall_eq] at *
  obtain ⟨h1, h2, h3, h4, h5, h6, h7, h8, h9, h10, h11, h12, h13, h14, h15, h16, h17, h18, h19, h20, h21, h22, h23, h24, h25, h26, h27⟩ := h
  exact ⟨h1.warmF hW, h2.warmF hW, h3.warmF hW, h4.warmF hW, h5.warmF hW, h6.warmF hW, h7.warmF hW, h8.warmF hW, h9.warmF hW, h10.warmM hW, h11.warmM hW, h12.warmM hW, h13.warmM hW, h14.warmM hW, h15.warmM hW, h16.warmM hW, h17.warmM hW, h18.warmM hW, h19.warmM hW, h20.warmM hW, h21.warmM hW, h22.warmM hW, h23.warmM hW, h24.warmM hW, h25.warmM hW, h26.warmM hW, h27.warmM hW⟩
theorem nestM_on : ∀ w ∈ nestM, w.onTables = true := by decide +kernel
theorem ZM.calling {U : State} {g : JFrame} {mk : MethodId} {a : Array Value} (h : ZM U) : ZM (U.calling g mk a) := fun w hw => va_Nw.same (u := U) (nestM_on w hw) rfl (h w hw)
/-- these, and the array of boards -/
def nestL : List Cond := nestM ++ [.arrayOver (.object RX0)]
theorem nestL_tbl : ∀ w ∈ nestL, w ∈ lw_tbl := by decide +kernel
def ZN (U : State) : Prop := ∀ w ∈ nestL, va_Nw w U
theorem ZN.of {U : State} (h : ZM U) (h2 : va_AO RX0 U) : ZN U := fun w hw => by
  rcases List.mem_append.mp hw with hw | hw
  · exact h w hw
  · rw [List.mem_singleton.mp hw]; exact h2
theorem ZN.left {U : State} (h : ZN U) : ZM U := fun w hw => h w (List.mem_append_left _ hw)
theorem ZN.ao {U : State} (h : ZN U) : va_AO RX0 U := h _ (List.mem_append_right _ (List.mem_singleton.mpr rfl))
theorem ZN.warm {s U : State} (hW : s.WarmedH U.vm) (h : ZN s) : ZN U := ZN.of (h.left.warm hW) (va_AO.moved hW.alike h.ao)
theorem ZN.calling {U : State} {g : JFrame} {mk : MethodId} {a : Array Value} (h : ZN U) : ZN (U.calling g mk a) := ZN.of h.left.calling (va_AO.moved (u := U) (U := U.calling g mk a) (Vm.Alike.refl U.vm) h.ao)
/-! the classes and the words, fixed -/
abbrev vwCl : List vw_C := [(RX0, TX0, 9), (RX1, TX1, 6), (RX2, TX2, 2), (RX3, TX3, 6), (RX4, TX4, 6), (RX5, TX5, 18)]
def ZK (D : va_G) (cI cB : ClassId) (U : State) : Prop := va_K D vwCl [(cI, .int), (cB, .object RX0)] U ∧ ZN U
theorem ZK.warm {D : va_G} {cI cB : ClassId} {s U : State} (hW : s.WarmedH U.vm) (h : ZK D cI cB s) : ZK D cI cB U := ⟨va_K.moved hW.alike h.1, h.2.warm hW⟩
theorem ZK.calling {D : va_G} {cI cB : ClassId} {U : State} {g : JFrame} {mk : MethodId} {a : Array Value} (h : ZK D cI cB U) : ZK D cI cB (U.calling g mk a) := ⟨va_K.moved (u := U) (U := U.calling g mk a) (Vm.Alike.refl U.vm) h.1, h.2.calling⟩
/-! worlds: a list of blocks, each a list of cells -/
def zW (D : va_G) (A : Nat → Prop) (H0 : Heap) (bs : List va_W) (H : Heap) (locs : List Loc) : Prop := va_P D vwCl bs.flatten H ∧ va_D A bs.flatten ∧ va_S A H0 H locs
theorem va_P_iff {D : va_G} {cl : List vw_C} {ws : va_W} {H : Heap} : va_P D cl ws H ↔ ∀ q ∈ ws, va_at D cl q H := by
  constructor
  · intro h q hq
    obtain ⟨k, hk⟩ := List.getElem?_of_mem hq
    exact h k q hk
  · intro h k q hk
    exact h q (List.mem_of_getElem? hk)
theorem va_D_iff {A : Nat → Prop} {ws : va_W} : va_D A ws ↔ (ws.map Prod.fst).Nodup ∧ ∀ q ∈ ws, A q.1 := by
  constructor
  · intro h
    refine ⟨?_, fun q hq => ?_⟩
    · rw [List.nodup_iff_pairwise_ne, List.pairwise_iff_getElem]
      intro i j hi hj hij hne
      simp only [List.length_map] at hi hj
      simp only [List.getElem_map] at hne
      have := h.1 i j _ _ (List.getElem?_eq_getElem hi) (List.getElem?_eq_getElem hj) hne
      omega
    · obtain ⟨k, hk⟩ := List.getElem?_of_mem hq
      exact h.2 k q hk
  · intro h
    refine ⟨fun i j x y hi hj hxy => ?_, fun k q hk => h.2 q (List.mem_of_getElem? hk)⟩
    have hn := h.1
    rw [List.nodup_iff_pairwise_ne, List.pairwise_iff_getElem] at hn
    obtain ⟨li, ei⟩ := List.getElem?_eq_some_iff.mp hi
    obtain ⟨lj, ej⟩ := List.getElem?_eq_some_iff.mp hj
    rcases Nat.lt_trichotomy i j with c | c | c
    · exact ((hn i j (by simpa using li) (by simpa using lj) c) (by simp [ei, ej, hxy])).elim
    · exact c
    · exact ((hn j i (by simpa using lj) (by simpa using li) c) (by simp [ei, ej, hxy])).elim
def zpick (bs : List va_W) (is : List Nat) : List va_W := is.filterMap (fun i => bs[i]?)
theorem zrange {α : Type} (bs : List α) : (List.range bs.length).filterMap (fun i => bs[i]?) = bs := by
  induction bs with
  | nil => rfl
  | cons b bs ih =>
    rw [List.length_cons, List.range_succ_eq_map, List.filterMap_cons, List.filterMap_map]
    simp only [List.getElem?_cons_zero]
    congr 1
theorem zpick_perm {bs : List va_W} {is ir : List Nat} (h : (is ++ ir).isPerm (List.range bs.length) = true) : (zpick bs is ++ zpick bs ir).Perm bs := by
  have h1 := (List.isPerm_iff.mp h).filterMap (fun i => bs[i]?)
  rw [List.filterMap_append, zrange] at h1
  exact h1
theorem zW.perm {D : va_G} {A : Nat → Prop} {H0 H : Heap} {bs bs' : List va_W} {locs : List Loc} (h : zW D A H0 bs H locs) (hp : bs'.Perm bs) : zW D A H0 bs' H locs := by
  have hf := hp.flatten
  refine ⟨va_P_iff.mpr fun q hq => va_P_iff.mp h.1 q (hf.mem_iff.mp hq), va_D_iff.mpr ⟨?_, fun q hq => (va_D_iff.mp h.2.1).2 q (hf.mem_iff.mp hq)⟩, h.2.2⟩
  exact ((hf.map Prod.fst).nodup_iff).mpr (va_D_iff.mp h.2.1).1
theorem zW.pick {D : va_G} {A : Nat → Prop} {H0 H : Heap} {bs bs' : List va_W} {locs : List Loc} (h : zW D A H0 bs H locs) (is : List Nat) (hc : zpick bs is = bs') (hp : is.isPerm (List.range bs.length) = true) : zW D A H0 bs' H locs := by
  refine h.perm ?_
  have h1 := zpick_perm (bs := bs) (is := is) (ir := []) (by rw [List.append_nil]; exact hp)
  rw [← hc]
  simpa [zpick] using h1
/-- behind a call: the callee's blocks made new, the rest as it was -/
theorem zW.join {D : va_G} {A0 : Nat → Prop} {H0 H H1 : Heap} {bs wc wr w1 : List va_W} {locs locs1 : List Loc} (h : zW D A0 H0 bs H locs) (hp : (wc ++ wr).Perm bs) (hA : ∀ q, H0.size ≤ q → A0 q)
    (hk : ∀ q : Nat, q < H.size → ¬ va_A wc.flatten H.size q → H1[q]? = H[q]?) (hz : H.size ≤ H1.size) (hl : ∀ q ∈ locs1, va_A wc.flatten H.size q.base) (hP1 : va_P D vwCl w1.flatten H1) (hD1 : va_D (va_A wc.flatten H.size) w1.flatten) : zW D A0 H0 (w1 ++ wr) H1 (locs ++ locs1) := by
  have h' := h.perm hp
  rw [zW, List.flatten_append] at h'
  obtain ⟨hP, hD, hS⟩ := h'
  have hP' := va_P_iff.mp hP
  have hD' := va_D_iff.mp hD
  have hF : ∀ q, va_A wc.flatten H.size q → A0 q := by
    intro q hq
    rcases hq with ⟨k, e, hk2⟩ | hq
    · exact hD'.2 (q, e) (List.mem_append_left _ (List.mem_of_getElem? hk2))
    · exact hA q (Nat.le_trans hS.1 hq)
  have hnd := hD'.1
  rw [List.map_append, List.nodup_append] at hnd
  have hap : ∀ q ∈ wr.flatten, q.1 < H.size ∧ ¬ va_A wc.flatten H.size q.1 := by
    intro q hq
    have hlt := (hP' q (List.mem_append_right _ hq)).lt
    refine ⟨hlt, fun hc => ?_⟩
    rcases hc with ⟨k, e, hk2⟩ | hc
    · exact hnd.2.2 q.1 (List.mem_map.mpr ⟨(q.1, e), List.mem_of_getElem? hk2, rfl⟩) q.1 (List.mem_map.mpr ⟨q, hq, rfl⟩) rfl
    · omega
  refine ⟨?_, ?_, ?_, ?_, ?_⟩
  · rw [List.flatten_append]
    refine va_P_iff.mpr fun q hq => ?_
    rcases List.mem_append.mp hq with hq | hq
    · exact va_P_iff.mp hP1 q hq
    · obtain ⟨g1, g2⟩ := hap q hq
      exact (hP' q (List.mem_append_right _ hq)).kept (hk q.1 g1 g2)
  · rw [List.flatten_append]
    have hD1' := va_D_iff.mp hD1
    refine va_D_iff.mpr ⟨?_, fun q hq => ?_⟩
    · rw [List.map_append, List.nodup_append]
      refine ⟨hD1'.1, hnd.2.1, fun a ha b hb hab => ?_⟩
      obtain ⟨x, hx, rfl⟩ := List.mem_map.mp ha
      obtain ⟨y, hy, rfl⟩ := List.mem_map.mp hb
      exact (hap y hy).2 (by rw [← hab]; exact hD1'.2 x hx)
    · rcases List.mem_append.mp hq with hq | hq
      · exact hF _ (hD1'.2 q hq)
      · exact hD'.2 q (List.mem_append_right _ hq)
  · exact Nat.le_trans hS.1 hz
  · intro q h1 h2
    rw [hk q (Nat.lt_of_lt_of_le h1 hS.1) (fun z => h2 (hF q z))]
    exact hS.2.1 q h1 h2
  · intro q hq
    rcases List.mem_append.mp hq with hq | hq
    · exact hS.2.2 q hq
    · exact hF _ (hl q hq)
/-! contracts -/
def zP (av : List Value) (sz : Nat) (D : va_G) (cI cB : ClassId) (wc : List va_W) : Array Value → State → Prop := va_Pc av (fun U => U.heap.size = sz ∧ va_P D vwCl wc.flatten U.heap ∧ ZK D cI cB U ∧ va_D (fun _ => True) wc.flatten)
def zQ (A : Nat → Prop) (D : va_G) (Q : Option Value → List va_W → Prop) : Array Value → State → Outcome → State → Prop := fun _ st oc t => (∃ (v : Option Value) (w1 : List va_W), oc = .returned v ∧ Q v w1 ∧ va_P D vwCl w1.flatten t.heap ∧ va_D A w1.flatten) ∧ va_F A st t
def zMet (l : Launch) (y : MethodName) (ws : List Cond) (fr lo mc ms : Nat) (D : va_G) (cI cB : ClassId) (av : List Value) (wc : List va_W) (Q : Option Value → List va_W → Prop) : Prop := ∀ sz : Nat, Met l y ws { frames := fr, cells := mc, slots := ms, locals := lo } (zP av sz D cI cB wc) (zQ (va_A wc.flatten sz) D Q) mc ms (va_A wc.flatten sz)
theorem zP_blind {av : List Value} {sz : Nat} {D : va_G} {cI cB : ClassId} {wc : List va_W} : FrameBlind (zP av sz D cI cB wc) := fun _ _ _ _ q => ⟨q.1, q.2.1, q.2.2.1, q.2.2.2.1.calling, q.2.2.2.2⟩
