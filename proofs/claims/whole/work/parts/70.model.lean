/-! the model's rows -/
theorem zcmp_rg (x y : Int) : (-1 ≤ zcmp x y ∧ zcmp x y ≤ 1) ∧ (zcmp x y < 0 ↔ x < y) ∧ (0 < zcmp x y ↔ y < x) := by
  unfold zcmp
  split
  · omega
  · split <;> omega
abbrev fL (al : Int → Int) (k w : Int) : Int := al (7 + 22 * k + w)
def rowH (al : Int → Int) (k : Int) (p : zPn) : Prop := fL al k 0 = p.1 ∧ fL al k 1 = p.2.1 ∧ fL al k 2 = p.2.2.1 ∧ fL al k 3 = (p.2.2.2.length : Int) ∧ ∀ (j : Nat) (v : zEv), p.2.2.2[j]? = some v → fL al k (4 + 3 * (j : Int) + 0) = v.1 ∧ fL al k (4 + 3 * (j : Int) + 1) = v.2.1 ∧ fL al k (4 + 3 * (j : Int) + 2) = v.2.2
def RM (al : Int → Int) (L : List zPn) (O : List Int) (ev : Int) : Prop := al 0 = ev ∧ al 1 = (L.length : Int) ∧ L.length ≤ 10 ∧ (0 ≤ ev ∧ ev ≤ 99) ∧ (∀ (j : Nat) (s : Int), O[j]? = some s → al (2 + (j : Int)) = s) ∧ (∀ (k : Nat) (p : zPn), L[k]? = some p → rowH al (k : Int) p) ∧ (∀ p ∈ L, pnOK p ∧ p.1 < ev) ∧ (L.map Prod.fst).Nodup ∧ O.Perm [0, 1, 2, 3, 4]
theorem rowH_cg {al al2 : Int → Int} {k k2 : Int} {p : zPn} (hl : p.2.2.2.length ≤ 6) (h : rowH al k p) (he : ∀ w, 0 ≤ w → w < 22 → fL al2 k2 w = fL al k w) : rowH al2 k2 p := by
  refine ⟨(he 0 (by omega) (by omega)).trans h.1, (he 1 (by omega) (by omega)).trans h.2.1, (he 2 (by omega) (by omega)).trans h.2.2.1, (he 3 (by omega) (by omega)).trans h.2.2.2.1, fun j v hv => ?_⟩
  have hj := (List.getElem?_eq_some_iff.mp hv).1
  have h5 := h.2.2.2.2 j v hv
  exact ⟨(he _ (by omega) (by omega)).trans h5.1, (he _ (by omega) (by omega)).trans h5.2.1, (he _ (by omega) (by omega)).trans h5.2.2⟩
theorem RM_cg {al al2 : Int → Int} {L : List zPn} {O : List Int} {ev : Int} (h : RM al L O ev) (he : ∀ j, 0 ≤ j → j < 227 → al2 j = al j) : RM al2 L O ev := by
  obtain ⟨h1, h2, h3, h4, h5, h6, h7, h8, h9⟩ := h
  refine ⟨(he 0 (by omega) (by omega)).trans h1, (he 1 (by omega) (by omega)).trans h2, h3, h4, fun j s hs => ?_, fun k p hp => ?_, h7, h8, h9⟩
  · have hj := (List.getElem?_eq_some_iff.mp hs).1
    have := h9.length_eq
    simp only [List.length_cons, List.length_nil] at this
    exact (he _ (by omega) (by omega)).trans (h5 j s hs)
  · have hk := (List.getElem?_eq_some_iff.mp hp).1
    exact rowH_cg (h7 p (List.mem_of_getElem? hp)).1.2.2.2.1 (h6 k p hp) (fun w w1 w2 => he _ (by omega) (by omega))
theorem RM_cp {al x : Int → Int} {L : List zPn} {O : List Int} {ev : Int} (h : RM al L O ev) : RM (cpF al x 227) L O ev := RM_cg h (fun j j1 j2 => if_pos ⟨j1, j2⟩)
