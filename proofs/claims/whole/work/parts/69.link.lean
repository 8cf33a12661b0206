/-! the model's rows and the order of the board -/
theorem scC_iff {s : Int} {p : zPn} : scC s p = true ↔ p.2.1 = s := decide_eq_true_iff
theorem ordC_app (L : List zPn) (A B : List Int) : ordC L (A ++ B) = ordC L A ++ ordC L B := List.flatMap_append
theorem ordC_cons (L : List zPn) (s : Int) (B : List Int) : ordC L (s :: B) = L.filter (scC s) ++ ordC L B := List.flatMap_cons
theorem ordC_out {T D : List zPn} {p : zPn} {A : List Int} (h : p.2.1 ∉ A) : ordC (T ++ p :: D) A = ordC (T ++ D) A := by
  unfold ordC
  refine flat_cg A fun w hw => ?_
  have hf : scC w p = false := by
    cases hc : scC w p
    · rfl
    · exact absurd (scC_iff.mp hc ▸ hw) h
  rw [List.filter_append, List.filter_append, List.filter_cons_of_neg (by rw [hf]; decide)]
theorem ordC_split {O : List Int} (hO : O.Nodup) {s : Int} (hs : s ∈ O) : O = O.take (O.idxOf s) ++ s :: O.drop (O.idxOf s + 1) ∧ s ∉ O.take (O.idxOf s) ∧ s ∉ O.drop (O.idxOf s + 1) := by
  have hi := List.idxOf_lt_length_iff.mpr hs
  have he : O = O.take (O.idxOf s) ++ s :: O.drop (O.idxOf s + 1) := by
    conv => lhs; rw [← List.take_append_drop (O.idxOf s) O]
    rw [List.drop_eq_getElem_cons hi, List.getElem_idxOf hi]
  refine ⟨he, ?_, ?_⟩
  · intro h
    rw [he] at hO
    exact (List.nodup_append.mp hO).2.2 s h s (List.mem_cons_self ..) rfl
  · intro h
    rw [he] at hO
    exact (List.nodup_cons.mp (List.nodup_append.mp hO).2.1).1 h
def ordX (T D : List zPn) (O : List Int) (s : Int) : List zPn := ordC (T ++ D) (O.take (O.idxOf s)) ++ T.filter (scC s)
def ordY (T D : List zPn) (O : List Int) (s : Int) : List zPn := D.filter (scC s) ++ ordC (T ++ D) (O.drop (O.idxOf s + 1))
theorem ordC_mid {T D : List zPn} {p : zPn} {O : List Int} (hO : O.Nodup) (hs : p.2.1 ∈ O) : ordC (T ++ p :: D) O = ordX T D O p.2.1 ++ p :: ordY T D O p.2.1 := by
  obtain ⟨h1, h2, h3⟩ := ordC_split hO hs
  conv => lhs; rw [h1, ordC_app, ordC_cons, ordC_out h2, ordC_out h3, List.filter_append, List.filter_cons_of_pos (scC_iff.mpr rfl)]
  unfold ordX ordY
  simp only [List.append_assoc, List.cons_append]
theorem ordC_rem {T D : List zPn} {s : Int} {O : List Int} (hO : O.Nodup) (hs : s ∈ O) : ordC (T ++ D) O = ordX T D O s ++ ordY T D O s := by
  obtain ⟨h1, h2, h3⟩ := ordC_split hO hs
  conv => lhs; rw [h1, ordC_app, ordC_cons, List.filter_append]
  unfold ordX ordY
  simp only [List.append_assoc]
theorem ordC_nil (O : List Int) : ordC [] O = [] := by
  unfold ordC
  induction O with
  | nil => rfl
  | cons s O ih => rw [List.flatMap_cons, ih]; rfl
theorem ordC_perm {O : List Int} (hO : O.Nodup) : ∀ {L : List zPn}, (∀ p ∈ L, p.2.1 ∈ O) → (ordC L O).Perm L
  | [], _ => by rw [ordC_nil]
  | p :: L, h => by
    have h1 := ordC_mid (T := []) (D := L) hO (h p (List.mem_cons_self ..))
    have h2 := ordC_rem (T := []) (D := L) hO (h p (List.mem_cons_self ..))
    rw [List.nil_append] at h1 h2
    rw [h1]
    exact List.perm_middle.trans (List.Perm.cons p (h2 ▸ ordC_perm hO (fun q hq => h q (List.mem_cons_of_mem _ hq))))
theorem ordC_len {O : List Int} (hO : O.Nodup) : ∀ (L : List zPn) (A : List Int), A.Nodup → (ordC L A).length = L.countP (fun p => decide (p.2.1 ∈ A))
  | [], A, _ => by rw [ordC_nil]; rfl
  | p :: L, A, hA => by
    rw [List.countP_cons]
    by_cases h : p.2.1 ∈ A
    · have h1 := ordC_mid (T := []) (D := L) hA h
      have h2 := ordC_rem (T := []) (D := L) hA h
      have h3 := ordC_len hO L A hA
      rw [List.nil_append] at h1 h2
      rw [h2] at h3
      rw [h1, if_pos (decide_eq_true h), ← h3]
      simp only [List.length_append, List.length_cons]
      omega
    · have h1 := ordC_out (T := []) (D := L) h
      rw [List.nil_append, List.nil_append] at h1
      rw [h1, ordC_len hO L A hA, if_neg (by rw [decide_eq_false h]; decide)]
      rfl
theorem ahC_perm {L M : List zPn} (h : L.Perm M) (O : List Int) (s : Int) : ahC L O s = ahC M O s := by unfold ahC; rw [h.countP_eq]
theorem inC_perm {L M : List zPn} (h : L.Perm M) (s : Int) : inC L s = inC M s := by unfold inC; rw [h.countP_eq]
theorem ahC_split {O : List Int} (hO : O.Nodup) {s : Int} (hs : s ∈ O) {L : List zPn} (_h : ∀ p ∈ L, p.2.1 ∈ O) : ahC L O s = ((ordC L (O.take (O.idxOf s))).length : Int) := by
  obtain ⟨h1, h2, h3⟩ := ordC_split hO hs
  have hA : (O.take (O.idxOf s)).Nodup := by
    have := hO; rw [h1] at this; exact (List.nodup_append.mp this).1
  rw [ordC_len hO L _ hA]
  unfold ahC
  congr 1
  refine List.countP_congr fun p hp => ?_
  rw [decide_eq_true_iff, decide_eq_true_iff]
  have hl : (O.take (O.idxOf s)).length = O.idxOf s := by rw [List.length_take]; have := List.idxOf_lt_length_iff.mpr hs; omega
  have e : O.idxOf p.2.1 = if p.2.1 ∈ O.take (O.idxOf s) then (O.take (O.idxOf s)).idxOf p.2.1 else (s :: O.drop (O.idxOf s + 1)).idxOf p.2.1 + (O.take (O.idxOf s)).length := by
    conv => lhs; rw [h1]
    exact List.idxOf_append
  rw [e]
  split
  · rename_i h4
    have := List.idxOf_lt_length_iff.mpr h4
    exact ⟨fun _ => h4, fun _ => by omega⟩
  · rename_i h4
    exact ⟨fun h5 => by omega, fun h5 => absurd h5 h4⟩
theorem ordX_len {T D : List zPn} {O : List Int} (hO : O.Nodup) {s : Int} (hs : s ∈ O) (h : ∀ p ∈ T ++ D, p.2.1 ∈ O) : ((ordX T D O s).length : Int) = ahC (T ++ D) O s + inC T s := by
  unfold ordX
  rw [List.length_append, ahC_split hO hs h]
  unfold inC
  rw [List.countP_eq_length_filter]
  omega
theorem ahC_mid {T D : List zPn} {p : zPn} {O : List Int} : ahC (T ++ p :: D) O p.2.1 = ahC (T ++ D) O p.2.1 := by
  unfold ahC
  rw [List.countP_append, List.countP_append, List.countP_cons, if_neg (by rw [decide_eq_true_iff]; omega)]
  simp
/-- the panel at k among the rows, in the order of the board -/
theorem ordC_pos {L : List zPn} {O : List Int} (hO : O.Nodup) (hm : ∀ p ∈ L, p.2.1 ∈ O) {k : Nat} {p : zPn} (hp : L[k]? = some p) :
    ∃ j : Nat, (ordC L O)[j]? = some p ∧ (j : Int) = ahC (ordC L O) O p.2.1 + inC (L.take k) p.2.1 ∧ ordC (L.eraseIdx k) O = (ordC L O).eraseIdx j ∧ ∀ q : zPn, q.2.1 = p.2.1 → ordC (L.set k q) O = (ordC L O).set j q := by
  obtain ⟨hk, he⟩ := List.getElem?_eq_some_iff.mp hp
  have h1 : L = L.take k ++ p :: L.drop (k + 1) := by
    conv => lhs; rw [← List.take_append_drop k L]
    rw [List.drop_eq_getElem_cons hk, he]
  have hs := hm p (List.mem_of_getElem? hp)
  have hpm := ordC_perm hO hm
  generalize hT : L.take k = T at *
  generalize hD : L.drop (k + 1) = D at *
  have hTl : T.length = k := by rw [← hT, List.length_take]; omega
  have hmm : ∀ q ∈ T ++ D, q.2.1 ∈ O := by
    intro q hq
    apply hm; rw [h1]
    rcases List.mem_append.mp hq with hq | hq
    · exact List.mem_append_left _ hq
    · exact List.mem_append_right _ (List.mem_cons_of_mem _ hq)
  have e1 : ordC L O = ordX T D O p.2.1 ++ p :: ordY T D O p.2.1 := by rw [h1]; exact ordC_mid hO hs
  refine ⟨(ordX T D O p.2.1).length, ?_, ?_, ?_, ?_⟩
  · rw [e1, List.getElem?_append_right (Nat.le_refl _), Nat.sub_self]; rfl
  · rw [ahC_perm hpm O, h1, ahC_mid, ordX_len hO hs hmm]
  · have e2 : L.eraseIdx k = T ++ D := by rw [h1, List.eraseIdx_append_of_length_le (by omega), hTl, Nat.sub_self]; rfl
    rw [e2, ordC_rem hO hs, e1, List.eraseIdx_append_of_length_le (Nat.le_refl _), Nat.sub_self]; rfl
  · intro q hq
    have e2 : L.set k q = T ++ q :: D := by rw [h1, List.set_append_right _ _ (by omega), hTl, Nat.sub_self]; rfl
    rw [e2, ordC_mid hO (by rw [hq]; exact hs), e1, List.set_append_right _ _ (Nat.le_refl _), Nat.sub_self, hq]; rfl
theorem ordC_ins {L : List zPn} {O : List Int} (hO : O.Nodup) (hm : ∀ p ∈ L, p.2.1 ∈ O) {x : Int} (_hx : 0 ≤ x ∧ x ≤ (L.length : Int)) {p : zPn} (hs : p.2.1 ∈ O) : ordC (insC L x p) O = insC (ordC L O) (ahC (ordC L O) O p.2.1 + inC (L.take x.toNat) p.2.1) p := by
  have h1 := List.take_append_drop x.toNat L
  have hpm := ordC_perm hO hm
  have hl := ordX_len (T := L.take x.toNat) (D := L.drop x.toNat) hO hs (by rw [h1]; exact hm)
  rw [h1] at hl
  rw [ahC_perm hpm O, ← hl]
  unfold insC
  rw [ordC_mid hO hs]
  have h2 := ordC_rem (T := L.take x.toNat) (D := L.drop x.toNat) hO hs
  rw [h1] at h2
  rw [h2, Int.toNat_natCast, List.take_left, List.drop_left]
theorem ordC_flt {L : List zPn} {O : List Int} (hO : O.Nodup) {v : Int} (hv : v ∈ O) : (ordC L O).filter (scC v) = L.filter (scC v) := by
  have hn : ∀ A : List Int, v ∉ A → (ordC L A).filter (scC v) = [] := by
    intro A h
    rw [List.filter_eq_nil_iff]
    intro q hq hc
    obtain ⟨w, hw, hq⟩ := List.mem_flatMap.mp hq
    have h1 := scC_iff.mp (List.mem_filter.mp hq).2
    have h2 := scC_iff.mp hc
    exact h (by rw [← h2, h1]; exact hw)
  obtain ⟨h1, h2, h3⟩ := ordC_split hO hv
  conv => lhs; rw [h1]
  rw [ordC_app, ordC_cons, List.filter_append, List.filter_append, hn _ h2, hn _ h3, List.filter_filter]
  simp
theorem ordC_ordC {L : List zPn} {O P : List Int} (hO : O.Nodup) (hP : ∀ v ∈ P, v ∈ O) : ordC (ordC L O) P = ordC L P := by
  unfold ordC
  exact flat_cg P fun w hw => ordC_flt hO (hP w hw)
/-! sums -/
theorem zsum_app (l m : List Int) : (l ++ m).sum = l.sum + m.sum := List.sum_append_int
theorem zsum_perm {l m : List Int} (h : l.Perm m) : l.sum = m.sum := by
  induction h with
  | nil => rfl
  | cons x _ ih => rw [List.sum_cons, List.sum_cons, ih]
  | swap x y l => simp only [List.sum_cons]; omega
  | trans _ _ ih1 ih2 => rw [ih1, ih2]
def durS (L : List zPn) (s : Int) : Int := ((L.filter (scC s)).map (fun p => p.2.2.1)).sum
def bgS (L : List zPn) (O : List Int) (k : Int) : Int := ((O.take k.toNat).map (durS L)).sum
theorem durs_ord (L : List zPn) : ∀ A : List Int, ((ordC L A).map (fun p => p.2.2.1)).sum = (A.map (durS L)).sum
  | [] => rfl
  | s :: A => by rw [ordC_cons, List.map_append, zsum_app, durs_ord L A, List.map_cons, List.sum_cons]; rfl
theorem tkC_ah {L : List zPn} {O : List Int} (hO : O.Nodup) (hm : ∀ p ∈ L, p.2.1 ∈ O) {s : Int} (hs : s ∈ O) : tkC (ordC L O) (ahC (ordC L O) O s) = bgS L O (O.idxOf s : Int) ∧ tkC (ordC L O) (ahC (ordC L O) O s + inC (ordC L O) s) = bgS L O (O.idxOf s : Int) + durS L s := by
  have hpm := ordC_perm hO hm
  obtain ⟨h1, h2, h3⟩ := ordC_split hO hs
  have e1 : ordC L O = ordC L (O.take (O.idxOf s)) ++ (L.filter (scC s) ++ ordC L (O.drop (O.idxOf s + 1))) := by
    conv => lhs; rw [h1, ordC_app, ordC_cons]
  have ei : inC L s = ((L.filter (scC s)).length : Int) := by unfold inC; rw [List.countP_eq_length_filter]
  rw [ahC_perm hpm O, inC_perm hpm, ahC_split hO hs hm, ei]
  unfold tkC bgS
  rw [e1]
  constructor
  · rw [Int.toNat_natCast, List.take_left, durs_ord, Int.toNat_natCast]
  · rw [← List.append_assoc, List.take_left' (by rw [List.length_append]; omega), List.map_append, zsum_app, durs_ord, Int.toNat_natCast]
    rfl
theorem bgS_s (L : List zPn) {O : List Int} {k : Int} {v : Int} (hk : 0 ≤ k) (hv : O[k.toNat]? = some v) : bgS L O (k + 1) = bgS L O k + durS L v := by
  unfold bgS
  rw [takeZ hk hv, List.map_append, zsum_app]
  simp
theorem tkC_all {L : List zPn} {O : List Int} (hO : O.Nodup) (hm : ∀ p ∈ L, p.2.1 ∈ O) : tkC (ordC L O) (ordC L O).length = (L.map (fun p => p.2.2.1)).sum := by
  unfold tkC
  rw [Int.toNat_natCast, List.take_length]
  exact zsum_perm ((ordC_perm hO hm).map _)
theorem evsC_ord {L : List zPn} {O : List Int} (hO : O.Nodup) (hm : ∀ p ∈ L, p.2.1 ∈ O) : evsC (ordC L O) = evsC L := zsum_perm ((ordC_perm hO hm).map _)
