/-! the panels in a new order of the scenes -/
def upK : Int → Nat → List Int
  | _, 0 => []
  | v, k + 1 => v :: upK (v + 1) k
theorem upK_ge : ∀ (k : Nat) (v : Int), ∀ w ∈ upK v k, v ≤ w
  | 0, v, w, h => by cases h
  | k + 1, v, w, h => by
    rw [upK] at h
    rcases List.mem_cons.mp h with h | h
    · omega
    · have := upK_ge k (v + 1) w h; omega
theorem flat_cg {α β : Type} {f g : α → List β} : ∀ W : List α, (∀ w ∈ W, f w = g w) → W.flatMap f = W.flatMap g
  | [], _ => rfl
  | w :: W, h => by rw [List.flatMap_cons, List.flatMap_cons, h w (List.mem_cons_self ..), flat_cg W (fun u hu => h u (List.mem_cons_of_mem _ hu))]
theorem flt_split (key : Int → Int) (v : Int) : ∀ L : List Int, (∀ x ∈ L, v ≤ key x) → L.Pairwise (fun x y => key x ≤ key y) → L = L.filter (fun x => decide (key x = v)) ++ L.filter (fun x => decide (key x ≠ v))
  | [], _, _ => rfl
  | x :: L, h, hs => by
    obtain ⟨hs1, hs2⟩ := List.pairwise_cons.mp hs
    by_cases c : key x = v
    · rw [List.filter_cons_of_pos (by simp [c]), List.filter_cons_of_neg (by simp [c]), List.cons_append, ← flt_split key v L (fun y hy => h y (List.mem_cons_of_mem _ hy)) hs2]
    · have hx := h x (List.mem_cons_self ..)
      have hall : ∀ y ∈ x :: L, key y ≠ v := fun y hy => by
        rcases List.mem_cons.mp hy with hy | hy
        · rw [hy]; exact c
        · have := hs1 y hy; omega
      rw [List.filter_eq_nil_iff.mpr (fun y hy => by simp [hall y hy]), List.filter_eq_self.mpr (fun y hy => by simp [hall y hy])]
      rfl
theorem flat_srt (key : Int → Int) : ∀ (k : Nat) (v : Int) (L : List Int), (∀ x ∈ L, v ≤ key x ∧ key x < v + k) → L.Pairwise (fun x y => key x ≤ key y) → L = (upK v k).flatMap (fun w => L.filter (fun x => decide (key x = w)))
  | 0, v, L, h, hs => by
    cases L with
    | nil => rfl
    | cons x L => have := h x (List.mem_cons_self ..); omega
  | k + 1, v, L, h, hs => by
    have h1 := flt_split key v L (fun x hx => (h x hx).1) hs
    have h2 := flat_srt key k (v + 1) (L.filter (fun x => decide (key x ≠ v))) (fun x hx => by
      obtain ⟨a1, a2⟩ := List.mem_filter.mp hx
      have := h x a1
      simp at a2
      omega) (List.Pairwise.filter _ hs)
    rw [upK, List.flatMap_cons]
    have h3 : (upK (v + 1) k).flatMap (fun w => L.filter (fun x => decide (key x = w))) = L.filter (fun x => decide (key x ≠ v)) := by
      refine Eq.trans (flat_cg _ (fun w hw => ?_)) h2.symm
      have := upK_ge k (v + 1) w hw
      rw [List.filter_filter]
      refine List.filter_congr (fun x hx => ?_)
      by_cases c : key x = w
      · have : key x ≠ v := by omega
        simp [c]; omega
      · simp [c]
    rw [h3]
    exact h1
theorem lnL_in {f : Int → Int} {n : Nat} {x : Int} (h : x ∈ lnL f n) : ∃ j : Nat, j < n ∧ x = f (j : Int) := by
  obtain ⟨j, hj⟩ := List.getElem?_of_mem h
  have hjl := (List.getElem?_eq_some_iff.mp hj).1
  rw [lnL_len] at hjl
  rw [lnL_get f n j hjl] at hj
  exact ⟨j, hjl, (Option.some.inj hj).symm⟩
theorem lnL_pw (P : Int → Int → Prop) (f : Int → Int) : ∀ n : Nat, (∀ i j : Int, 0 ≤ i → i < j → j < n → P (f i) (f j)) → (lnL f n).Pairwise P
  | 0, _ => List.Pairwise.nil
  | n + 1, h => by
    rw [lnL, List.pairwise_append]
    refine ⟨lnL_pw P f n (fun i j i1 i2 i3 => h i j i1 i2 (by omega)), List.pairwise_singleton _ _, fun x hx y hy => ?_⟩
    obtain ⟨i, hi, rfl⟩ := lnL_in hx
    rw [List.mem_singleton.mp hy]
    exact h i n (by omega) (by omega) (by omega)
def ordC (pC : List zPn) (O : List Int) : List zPn := O.flatMap (fun v => pC.filter (scC v))
theorem flt_idx {pC : List zPn} {O : List Int} (hn : O.Nodup) {k : Nat} {v : Int} (hk : O[k]? = some v) {g : Int → Int} (hg : ∀ p ∈ pC, p.2.1 ∈ O ∧ g p.2.1 = (O.idxOf p.2.1 : Int)) : pC.filter (fun p => decide (g p.2.1 = (k : Int))) = pC.filter (scC v) := by
  refine List.filter_congr (fun p hp => ?_)
  obtain ⟨h1, h2⟩ := hg p hp
  unfold scC
  rw [h2]
  by_cases c : p.2.1 = v
  · rw [c, idx_of hn hk]; simp
  · have : ¬ ((O.idxOf p.2.1 : Int) = (k : Int)) := fun he => c (by
      have h3 := idx_get h1
      rw [show O.idxOf p.2.1 = k by omega, hk] at h3
      exact (Option.some.inj h3).symm)
    simp [c, this]
theorem ordC_idx {pC : List zPn} {O : List Int} (hO : O.Perm [0, 1, 2, 3, 4]) {g : Int → Int} (hg : ∀ p ∈ pC, p.2.1 ∈ O ∧ g p.2.1 = (O.idxOf p.2.1 : Int)) : (upK 0 5).flatMap (fun w => pC.filter (fun p => decide (g p.2.1 = w))) = ordC pC O := by
  have hn : O.Nodup := hO.nodup_iff.mpr (by decide)
  have hl : O.length = 5 := hO.length_eq
  match O, hl with
  | [v0, v1, v2, v3, v4], _ =>
    unfold ordC
    simp only [upK, List.flatMap_cons, List.flatMap_nil]
    have k0 := flt_idx (k := 0) hn rfl hg
    have k1 := flt_idx (k := 1) hn rfl hg
    have k2 := flt_idx (k := 2) hn rfl hg
    have k3 := flt_idx (k := 3) hn rfl hg
    have k4 := flt_idx (k := 4) hn rfl hg
    rw [← k0, ← k1, ← k2, ← k3, ← k4]
    rfl
def slF (L : List Int) (pC : List zPn) (x : Int) : zPn := pC.getD (L.idxOf x) (0, 0, 0, [])
theorem RB_ord {b : zBS} {pC : List zPn} {pO : List Int} {ev : Int} (h : RB b pC pO ev) {g : Int → Int} {O : List Int} (hO : O.Perm [0, 1, 2, 3, 4]) (hg : ∀ s : Int, 0 ≤ s → s < 5 → g s = (O.idxOf s : Int)) {f : Int → Int} (hs : srt (bd_lin b) f (fun y => g (bd_scn b y)) (bd_sz b)) : RB (bd_lin_ (bd_plc_ b g) f) (ordC pC O) O ev := by
  have hlin := fun {i : Nat} {w : zPn} (hw : pC[i]? = some w) => RB_lin h hw
  have hpn := RB_pn h
  obtain ⟨h1, h2, h3, h4, h5, h6, h7, h8, h9, h10⟩ := h
  obtain ⟨hs1, hs2, hs3⟩ := hs
  have hnn : (bd_sz b).toNat = pC.length := by omega
  rw [hnn] at hs2 hs3
  have hn0 : (lnL (bd_lin b) pC.length).Nodup := List.nodup_iff_pairwise_ne.mpr (lnL_pw _ _ _ (fun i j i1 i2 i3 he => by
    have := h5 i j i1 (by omega) (by omega) (by omega) he
    omega))
  have hn1 : (lnL f pC.length).Nodup := hs2.nodup_iff.mpr hn0
  have hF : ∀ (j : Nat) (p : zPn), pC[j]? = some p → slF (lnL (bd_lin b) pC.length) pC (bd_lin b (j : Int)) = p := fun j p hp => by
    have hjl := (List.getElem?_eq_some_iff.mp hp).1
    unfold slF
    rw [idx_of hn0 (lnL_get (bd_lin b) pC.length j hjl), List.getD_eq_getElem?_getD, hp]
    rfl
  have hsl : ∀ x ∈ lnL (bd_lin b) pC.length, slotHas b x (slF (lnL (bd_lin b) pC.length) pC x) := fun x hx => by
    obtain ⟨j, hj, rfl⟩ := lnL_in hx
    rw [hF j _ (List.getElem?_eq_getElem hj)]
    exact h4 j _ (List.getElem?_eq_getElem hj)
  have hmap : (lnL (bd_lin b) pC.length).map (slF (lnL (bd_lin b) pC.length) pC) = pC := by
    refine List.ext_getElem? (fun j => ?_)
    by_cases c : j < pC.length
    · rw [List.getElem?_map, lnL_get _ _ _ c, List.getElem?_eq_getElem c]
      exact congrArg some (hF j _ (List.getElem?_eq_getElem c))
    · rw [List.getElem?_eq_none (by rw [List.length_map, lnL_len]; omega), List.getElem?_eq_none (by omega)]
  have hin : ∀ p ∈ pC, p.2.1 ∈ O ∧ g p.2.1 = (O.idxOf p.2.1 : Int) := fun p hp => by
    have h11 := (hpn p hp).2.1
    refine ⟨hO.mem_iff.mpr ?_, hg _ h11.1 h11.2⟩
    simp only [List.mem_cons, List.mem_nil_iff, or_false]
    omega
  have hC : (lnL f pC.length).map (slF (lnL (bd_lin b) pC.length) pC) = ordC pC O := by
    have hx1 : ∀ x ∈ lnL f pC.length, (0 : Int) ≤ g (bd_scn b x) ∧ g (bd_scn b x) < 0 + ((5 : Nat) : Int) := fun x hx => by
      have hx0 := hs2.mem_iff.mp hx
      obtain ⟨j, hj, rfl⟩ := lnL_in hx0
      have h11 := h1.2.2.2.2.1 _ (hlin (List.getElem?_eq_getElem hj)).1 (hlin (List.getElem?_eq_getElem hj)).2
      rw [hg _ h11.1 h11.2]
      have : O.idxOf (bd_scn b (bd_lin b (j : Int))) < O.length := List.idxOf_lt_length_of_mem (hO.mem_iff.mpr (by simp only [List.mem_cons, List.mem_nil_iff, or_false]; omega))
      rw [hO.length_eq] at this
      simp only [List.length_cons, List.length_nil] at this
      omega
    have e1 := flat_srt (fun x => g (bd_scn b x)) 5 0 (lnL f pC.length) hx1 (lnL_pw _ _ _ (fun i j i1 i2 i3 => hs1 i j i1 i2 (by omega)))
    rw [e1, List.map_flatMap, ← ordC_idx hO hin]
    refine flat_cg _ (fun w hw => ?_)
    dsimp only at hs3 ⊢
    rw [hs3 w]
    have e2 : pC.filter (fun p => decide (g p.2.1 = w)) = ((lnL (bd_lin b) pC.length).map (slF (lnL (bd_lin b) pC.length) pC)).filter (fun p => decide (g p.2.1 = w)) := by rw [hmap]
    rw [e2, List.filter_map]
    congr 1
    refine List.filter_congr (fun x hx => ?_)
    show decide (g (bd_scn b x) = w) = decide (g (slF (lnL (bd_lin b) pC.length) pC x).2.1 = w)
    rw [(hsl x hx).2.1]
  have hPm : (ordC pC O).Perm pC := by
    rw [← hC]
    have := hs2.map (slF (lnL (bd_lin b) pC.length) pC)
    rw [hmap] at this
    exact this
  have hfr : ∀ k : Int, 0 ≤ k → k < bd_sz b → 0 ≤ f k ∧ f k < 10 := fun k k1 k2 => by
    have h11 := lnL_get f pC.length k.toNat (by omega)
    rw [show ((k.toNat : Nat) : Int) = k by omega] at h11
    obtain ⟨j, hj, he⟩ := lnL_in (hs2.mem_iff.mp (List.mem_of_getElem? h11))
    rw [he]
    exact hlin (List.getElem?_eq_getElem hj)
  refine ⟨⟨h1.1, h1.2.1, hfr, h1.2.2.2.1, h1.2.2.2.2.1, h1.2.2.2.2.2.1, h1.2.2.2.2.2.2.1, h1.2.2.2.2.2.2.2.1, fun k k1 k2 => ?_⟩, by rw [hPm.length_eq]; exact h2, h3, fun j p hp => ?_, fun i j i1 i2 j1 j2 he => ?_, fun x x1 x2 hx => h6 x x1 x2 (fun j j1 j2 he => ?_), fun p hp => h7 p (hPm.mem_iff.mp hp), (hPm.map Prod.fst).nodup_iff.mpr h8, hg, hO⟩
  · show 0 ≤ g k ∧ g k < 5
    rw [hg k k1 k2]
    have : O.idxOf k < O.length := List.idxOf_lt_length_of_mem (hO.mem_iff.mpr (by simp only [List.mem_cons, List.mem_nil_iff, or_false]; omega))
    rw [hO.length_eq] at this
    simp only [List.length_cons, List.length_nil] at this
    omega
  · rw [← hC] at hp
    have hjl : j < pC.length := by
      have := (List.getElem?_eq_some_iff.mp hp).1
      rw [List.length_map, lnL_len] at this
      exact this
    rw [List.getElem?_map, lnL_get _ _ _ hjl] at hp
    have hp2 := Option.some.inj hp
    rw [← hp2]
    exact hsl _ (hs2.mem_iff.mp (List.mem_of_getElem? (lnL_get f pC.length j hjl)))
  · have i3 : i < bd_sz b := i2
    have j3 : j < bd_sz b := j2
    have e1 := lnL_get f pC.length i.toNat (by omega)
    have e2 := lnL_get f pC.length j.toNat (by omega)
    rw [show ((i.toNat : Nat) : Int) = i by omega] at e1
    rw [show ((j.toNat : Nat) : Int) = j by omega] at e2
    have he2 : f i = f j := he
    have a1 := idx_of hn1 e1
    have a2 := idx_of hn1 e2
    rw [he2] at a1
    omega
  · have e1 := lnL_get (bd_lin b) pC.length j.toNat (by omega)
    rw [show ((j.toNat : Nat) : Int) = j by omega, he] at e1
    obtain ⟨i, hi, hie⟩ := lnL_in (hs2.mem_iff.mpr (List.mem_of_getElem? e1))
    exact hx i (by omega) (by show (i : Int) < bd_sz b; omega) hie.symm
theorem RB_mvO {b : zBS} {pC : List zPn} {pO : List Int} {ev : Int} (h : RB b pC pO ev) {s pl : Int} (hs : 0 ≤ s ∧ s < 5) (hp : 0 ≤ pl ∧ pl < 5) {f : Int → Int} (hf : srt (bd_lin b) f (fun y => plcM b s pl (bd_scn b y)) (bd_sz b)) : RB (bd_lin_ (bd_plc_ b (plcM b s pl)) f) (ordC pC (mvO pO s pl)) (mvO pO s pl) ev := by
  have hO := h.2.2.2.2.2.2.2.2.2
  have hm : s ∈ pO := hO.mem_iff.mpr (by simp only [List.mem_cons, List.mem_nil_iff, or_false]; omega)
  refine RB_ord h ((mvO_perm hm pl).trans hO) (fun t t1 t2 => ?_) hf
  have e := h.2.2.2.2.2.2.2.2.1
  rw [mvO_idx hO hs hp ⟨t1, t2⟩]
  unfold plcM zU shp
  split
  · rfl
  · rw [if_pos (by omega), e t t1 t2, e s hs.1 hs.2]
def sceR (pC : List zPn) (pO : List Int) (ev : Int) (hs : List zSt) (s pl r : Int) (S : zSt) (hs2 : List zSt) : Prop :=
  ((s < 0 ∨ 5 ≤ s) ∧ r = -1 ∧ sameS pC pO ev hs S hs2) ∨ ((0 ≤ s ∧ s < 5) ∧ (((pl < 0 ∨ 5 ≤ pl) ∧ r = -2 ∧ sameS pC pO ev hs S hs2) ∨ ((0 ≤ pl ∧ pl < 5) ∧
    (((pO.idxOf s : Int) = pl ∧ r = -5 ∧ sameS pC pO ev hs S hs2) ∨ ((pO.idxOf s : Int) ≠ pl ∧ r = nbC (ordC pC (mvO pO s pl)) ∧ pushS pC pO ev hs (ordC pC (mvO pO s pl)) (mvO pO s pl) ev S hs2)))))
/-- one mending move, or none -/
def noM (pC : List zPn) (pO : List Int) (s : Int) : Prop := ∀ (i : Nat) (q : zPn), pC[i]? = some q → q.2.1 = s → ¬ canM pC pO i q s
def oneM (pC : List zPn) (pO : List Int) (s : Int) (C2 : List zPn) : Prop := ∃ (j : Nat) (p : zPn), pC[j]? = some p ∧ p.2.1 = s ∧ canM pC pO j p s ∧ thruM pC pO s p.1 ∧ C2 = mvC pC pO j p s (bestC pC pO j p s)
def menR (pC : List zPn) (pO : List Int) (ev : Int) (hs : List zSt) (s r : Int) (S : zSt) (hs2 : List zSt) : Prop :=
  ((s < 0 ∨ 5 ≤ s) ∧ r = -1 ∧ sameS pC pO ev hs S hs2) ∨ ((0 ≤ s ∧ s < 5) ∧ ((noM pC pO s ∧ r = -5 ∧ sameS pC pO ev hs S hs2) ∨ ∃ C1, oneM pC pO s C1 ∧
    ((noM C1 pO s ∧ r = 1 ∧ pushS pC pO ev hs C1 pO ev S hs2) ∨ ∃ C2, oneM C1 pO s C2 ∧ r = 2 ∧ pushS pC pO ev hs C2 pO ev S hs2)))
theorem bestC_rg {pC : List zPn} {pO : List Int} {j : Nat} {p : zPn} {s : Int} (h : 0 ≤ inC (pC.eraseIdx j) s) : 0 ≤ bestC pC pO j p s ∧ bestC pC pO j p s ≤ inC (pC.eraseIdx j) s := by
  have := (bestF_rg (nbM pC pO j p s) (inC (pC.eraseIdx j) s).toNat).1
  unfold bestC
  omega
theorem mendR_rg {b : zBS} {pC : List zPn} {pO : List Int} {ev : Int} (h : RB b pC pO ev) {s r : Int} (hm : mendR b pC pO s r) : -1 ≤ r ∧ r < 10 := by
  rcases hm with ⟨h1, -⟩ | ⟨j, p, hp, -, -, h2, -⟩
  · omega
  · have := RB_lin h hp
    omega
theorem inC_rg {b : zBS} {pC : List zPn} {pO : List Int} {ev : Int} (h : RB b pC pO ev) {j : Nat} (s : Int) : 0 ≤ inC (pC.eraseIdx j) s ∧ inC (pC.eraseIdx j) s ≤ 10 := by
  have h1 := ahC_inC (pC.eraseIdx j) pO s
  have h2 := ahC_le (pC.eraseIdx j) pO s
  have h3 : (pC.eraseIdx j).length ≤ pC.length := List.length_eraseIdx_le ..
  have h4 := h.2.1
  have h5 := h.1.1
  omega
