/-! the best place; a panel that can mend -/
def bestF (f : Int → Int) : Nat → Int × Int
  | 0 => (0, f 0)
  | k + 1 => if f ((k + 1 : Nat) : Int) < (bestF f k).2 then (((k + 1 : Nat) : Int), f ((k + 1 : Nat) : Int)) else bestF f k
theorem bestF_s (f : Int → Int) {k : Int} (hk : 1 ≤ k) : bestF f (k + 1 - 1).toNat = if f k < (bestF f (k - 1).toNat).2 then (k, f k) else bestF f (k - 1).toNat := by
  rw [show (k + 1 - 1).toNat = (k - 1).toNat + 1 by omega, bestF, show (((k - 1).toNat + 1 : Nat) : Int) = k by omega]
theorem bestF_rg (f : Int → Int) : ∀ k : Nat, (0 ≤ (bestF f k).1 ∧ (bestF f k).1 ≤ k) ∧ (bestF f k).2 = f (bestF f k).1 ∧ ∀ i : Int, 0 ≤ i → i ≤ k → (bestF f k).2 ≤ f i
  | 0 => ⟨by simp [bestF], rfl, fun i h1 h2 => by rw [show i = 0 by omega]; exact Int.le_refl _⟩
  | k + 1 => by
    obtain ⟨h1, h2, h3⟩ := bestF_rg f k
    rw [bestF]
    split
    · refine ⟨by dsimp only; omega, rfl, fun i i1 i2 => ?_⟩
      dsimp only
      by_cases c : i = ((k + 1 : Nat) : Int)
      · rw [c]; exact Int.le_refl _
      · have := h3 i i1 (by omega); omega
    · refine ⟨by omega, h2, fun i i1 i2 => ?_⟩
      by_cases c : i = ((k + 1 : Nat) : Int)
      · rw [c]; omega
      · exact h3 i i1 (by omega)
/-- how many breaks with the panel at each place of a scene -/
def nbM (pC : List zPn) (pO : List Int) (j : Nat) (p : zPn) (s pl : Int) : Int := nbC (mvC pC pO j p s pl)
def bestC (pC : List zPn) (pO : List Int) (j : Nat) (p : zPn) (s : Int) : Int := (bestF (nbM pC pO j p s) (inC (pC.eraseIdx j) s).toNat).1
def canM (pC : List zPn) (pO : List Int) (j : Nat) (p : zPn) (s : Int) : Prop := ∃ pl, 0 ≤ pl ∧ pl ≤ inC (pC.eraseIdx j) s ∧ nbM pC pO j p s pl < nbC pC
theorem nbM_rg {b : zBS} {pC : List zPn} {pO : List Int} {ev : Int} (h : RB b pC pO ev) {j : Nat} {p : zPn} (hp : pC[j]? = some p) {s pl : Int} (hs : 0 ≤ s ∧ s < 5) (hpl : 0 ≤ pl ∧ pl ≤ inC (pC.eraseIdx j) s) : 0 ≤ nbM pC pO j p s pl ∧ nbM pC pO j p s pl ≤ 160 := by
  have hO := RB_takeOut h hp
  have hl := (List.getElem?_eq_some_iff.mp hp).1
  have hel : (pC.eraseIdx j).length = pC.length - 1 := List.length_eraseIdx_of_lt hl
  have hai := ahC_inC (pC.eraseIdx j) pO s
  have hah := ahC_le (pC.eraseIdx j) pO s
  have h1 := h.1.1
  have h2 := h.2.1
  have hR2 := RBo_putIn hO (s := s) (k := ahC (pC.eraseIdx j) pO s + pl) hs (by omega) (by omega)
  exact nbC_rg hR2
theorem RB_uniq {b : zBS} {pC : List zPn} {pO : List Int} {ev : Int} (h : RB b pC pO ev) {i j : Nat} {p q : zPn} (hp : pC[i]? = some p) (hq : pC[j]? = some q) (he : p.1 = q.1) : i = j ∧ p = q := by
  have hnd := h.2.2.2.2.2.2.2.1
  rw [List.nodup_iff_pairwise_ne, List.pairwise_iff_getElem] at hnd
  obtain ⟨l1, e1⟩ := List.getElem?_eq_some_iff.mp hp
  obtain ⟨l2, e2⟩ := List.getElem?_eq_some_iff.mp hq
  rcases Nat.lt_trichotomy i j with c | c | c
  · have := hnd i j (by simpa using l1) (by simpa using l2) c
    simp only [List.getElem_map, e1, e2] at this
    exact absurd he this
  · subst c
    exact ⟨rfl, by rw [hp] at hq; exact Option.some.inj hq⟩
  · have := hnd j i (by simpa using l2) (by simpa using l1) c
    simp only [List.getElem_map, e1, e2] at this
    exact absurd he.symm this
/-- numbers below n are through: none of the scene can mend -/
def thruM (pC : List zPn) (pO : List Int) (s n : Int) : Prop := ∀ (i : Nat) (q : zPn), pC[i]? = some q → q.2.1 = s → q.1 < n → ¬ canM pC pO i q s
theorem thruM_none {pC : List zPn} {pO : List Int} {s n : Int} (h : thruM pC pO s n) (hn : ∀ p ∈ pC, p.1 ≠ n) : thruM pC pO s (n + 1) := fun i q hq hs hlt => h i q hq hs (by have := hn q (List.mem_of_getElem? hq); omega)
theorem thruM_one {b : zBS} {pC : List zPn} {pO : List Int} {ev s n : Int} (hR : RB b pC pO ev) (h : thruM pC pO s n) {j : Nat} {p : zPn} (hp : pC[j]? = some p) (hpn : p.1 = n) (hno : p.2.1 = s → ¬ canM pC pO j p s) : thruM pC pO s (n + 1) := by
  intro i q hq hs hlt
  by_cases c : q.1 = n
  · obtain ⟨rfl, rfl⟩ := RB_uniq hR hq hp (by rw [c, hpn])
    exact hno hs
  · exact h i q hq hs (by omega)
/-- what lowestToMend answers -/
def mendR (b : zBS) (pC : List zPn) (pO : List Int) (s r : Int) : Prop := (r = -1 ∧ ∀ (i : Nat) (q : zPn), pC[i]? = some q → q.2.1 = s → ¬ canM pC pO i q s) ∨ ∃ (j : Nat) (p : zPn), pC[j]? = some p ∧ p.2.1 = s ∧ canM pC pO j p s ∧ r = bd_lin b (j : Int) ∧ thruM pC pO s p.1
theorem not_canM {pC : List zPn} {pO : List Int} {j : Nat} {p : zPn} {s : Int} (h : ∀ pl, 0 ≤ pl → pl < inC (pC.eraseIdx j) s + 1 → nbC pC ≤ nbM pC pO j p s pl) : ¬ canM pC pO j p s := by
  rintro ⟨pl, h1, h2, h3⟩
  have := h pl h1 (by omega)
  omega
