/-! a line as a list; neighbours changed -/
def lnL (f : Int → Int) : Nat → List Int
  | 0 => []
  | n + 1 => lnL f n ++ [f n]
theorem lnL_len (f : Int → Int) : ∀ n, (lnL f n).length = n
  | 0 => rfl
  | n + 1 => by rw [lnL, List.length_append, lnL_len f n]; rfl
theorem lnL_congr {f g : Int → Int} : ∀ n : Nat, (∀ j : Int, 0 ≤ j → j < n → f j = g j) → lnL f n = lnL g n
  | 0, _ => rfl
  | n + 1, h => by rw [lnL, lnL, lnL_congr n (fun j h1 h2 => h j h1 (by omega)), h n (by omega) (by omega)]
theorem lnL_get (f : Int → Int) : ∀ (n j : Nat), j < n → (lnL f n)[j]? = some (f j)
  | 0, j, h => by omega
  | n + 1, j, h => by
    rw [lnL]
    by_cases c : j < n
    · rw [List.getElem?_append_left (by rw [lnL_len]; exact c)]; exact lnL_get f n j c
    · rw [List.getElem?_append_right (by rw [lnL_len]; omega), lnL_len, show j - n = 0 by omega, show j = n by omega]; rfl
def swF (f : Int → Int) (x : Int) : Int → Int := zU (zU f x (f (x - 1))) (x - 1) (f x)
theorem swF_a (f : Int → Int) (x : Int) : swF f x x = f (x - 1) := by
  unfold swF; rw [zU_n _ _ (by omega), zU_s]
theorem swF_b (f : Int → Int) (x : Int) : swF f x (x - 1) = f x := by unfold swF; rw [zU_s]
theorem swF_n (f : Int → Int) {x j : Int} (h1 : j ≠ x) (h2 : j ≠ x - 1) : swF f x j = f j := by
  unfold swF; rw [zU_n _ _ h2, zU_n _ _ h1]
/-- two neighbours changed: the lists -/
theorem lnL_sw (f : Int → Int) {x : Nat} (hx : 1 ≤ x) : ∀ k : Nat, ∃ tl : List Int, lnL f (x + 1 + k) = lnL f (x - 1) ++ ([f ((x : Int) - 1), f x] ++ tl) ∧ lnL (swF f x) (x + 1 + k) = lnL f (x - 1) ++ ([f x, f ((x : Int) - 1)] ++ tl)
  | 0 => by
    obtain ⟨y, rfl⟩ : ∃ y, x = y + 1 := ⟨x - 1, by omega⟩
    refine ⟨[], ?_, ?_⟩
    · show lnL f (y + 1 + 1) = _
      rw [lnL, lnL, Nat.add_sub_cancel, show ((y + 1 : Nat) : Int) - 1 = (y : Int) by omega]
      simp
    · show lnL (swF f ((y + 1 : Nat) : Int)) (y + 1 + 1) = _
      rw [lnL, lnL, Nat.add_sub_cancel, lnL_congr y (fun j h1 h2 => swF_n f (by omega) (by omega)), swF_a]
      rw [show ((y + 1 : Nat) : Int) - 1 = (y : Int) by omega]
      have e := swF_b f ((y + 1 : Nat) : Int)
      rw [show ((y + 1 : Nat) : Int) - 1 = (y : Int) by omega] at e
      rw [e]
      simp
  | k + 1 => by
    obtain ⟨tl, h1, h2⟩ := lnL_sw f hx k
    refine ⟨tl ++ [f ((x + 1 + k : Nat) : Int)], ?_, ?_⟩
    · rw [show x + 1 + (k + 1) = (x + 1 + k) + 1 by omega, lnL, h1]; simp
    · rw [show x + 1 + (k + 1) = (x + 1 + k) + 1 by omega, lnL, h2, swF_n f (by omega) (by omega)]; simp
theorem lnL_sw_perm (f : Int → Int) {x n : Int} (hx : 1 ≤ x ∧ x < n) : (lnL (swF f x) n.toNat).Perm (lnL f n.toNat) := by
  obtain ⟨tl, h1, h2⟩ := lnL_sw f (x := x.toNat) (by omega) (n.toNat - (x.toNat + 1))
  rw [show ((x.toNat : Nat) : Int) = x by omega, show x.toNat + 1 + (n.toNat - (x.toNat + 1)) = n.toNat by omega] at h1 h2
  rw [h1, h2]
  exact List.Perm.append_left _ (List.Perm.append_right _ (List.Perm.swap _ _ _))
theorem lnL_sw_filter (f : Int → Int) {x n : Int} (hx : 1 ≤ x ∧ x < n) (Q : Int → Bool) (hQ : Q (f (x - 1)) = true → Q (f x) = true → False) : (lnL (swF f x) n.toNat).filter Q = (lnL f n.toNat).filter Q := by
  obtain ⟨tl, h1, h2⟩ := lnL_sw f (x := x.toNat) (by omega) (n.toNat - (x.toNat + 1))
  rw [show ((x.toNat : Nat) : Int) = x by omega, show x.toNat + 1 + (n.toNat - (x.toNat + 1)) = n.toNat by omega] at h1 h2
  rw [h1, h2, List.filter_append, List.filter_append, List.filter_append, List.filter_append]
  congr 2
  by_cases a : Q (f (x - 1)) = true
  · by_cases d : Q (f x) = true
    · exact (hQ a d).elim
    · simp [a, d]
  · by_cases d : Q (f x) = true <;> simp [a, d]
/-! what a sorted line is: by a key; what had one key stays as it was -/
def srt (f0 f key : Int → Int) (n : Int) : Prop := (∀ i j, 0 ≤ i → i < j → j < n → key (f i) ≤ key (f j)) ∧ (lnL f n.toNat).Perm (lnL f0 n.toNat) ∧ ∀ v : Int, (lnL f n.toNat).filter (fun x => decide (key x = v)) = (lnL f0 n.toNat).filter (fun x => decide (key x = v))
/-- the slots of a line are those of the other -/
theorem lnL_mem {f g : Int → Int} {n : Int} (hn : 0 ≤ n) (h : (lnL g n.toNat).Perm (lnL f n.toNat)) {k : Int} (hk : 0 ≤ k ∧ k < n) : ∃ j, (0 ≤ j ∧ j < n) ∧ g k = f j := by
  have h1 := lnL_get g n.toNat k.toNat (by omega)
  rw [show ((k.toNat : Nat) : Int) = k by omega] at h1
  have h2 := h.mem_iff.mp (List.mem_of_getElem? h1)
  obtain ⟨j, hj⟩ := List.getElem?_of_mem h2
  have hjl := (List.getElem?_eq_some_iff.mp hj).1
  rw [lnL_len] at hjl
  rw [lnL_get f n.toNat j hjl] at hj
  exact ⟨j, by omega, (Option.some.inj hj).symm⟩
theorem key_rg {b : zBS} (hB : BOK b) {k : Int} (hk : 0 ≤ k ∧ k < bd_sz b) : 0 ≤ bd_plc b (bd_scn b (bd_lin b k)) ∧ bd_plc b (bd_scn b (bd_lin b k)) < 5 := by
  obtain ⟨h1, h2, h3, h4, h5, h6, h7, h8, h9⟩ := hB
  have a1 := h3 k hk.1 hk.2
  have a2 := h5 _ a1.1 a1.2
  exact h9 _ a2.1 a2.2
theorem swF_srt {pk sc f : Int → Int} {n x : Int} (h : ∀ i j, 0 ≤ i → i < j → j ≤ n → j ≠ x → pk (sc (f i)) ≤ pk (sc (f j))) (hx : 1 ≤ x ∧ x ≤ n) (hk : pk (sc (f x)) < pk (sc (f (x - 1)))) : ∀ i j, 0 ≤ i → i < j → j ≤ n → j ≠ x + -1 → pk (sc (swF f x i)) ≤ pk (sc (swF f x j)) := by
  intro i j h1 h2 h3 h4
  by_cases c1 : j = x
  · rw [c1, swF_a]
    by_cases c2 : i = x - 1
    · rw [c2, swF_b]; omega
    · rw [swF_n f (by omega) c2]
      exact h i (x - 1) h1 (by omega) (by omega) (by omega)
  · rw [swF_n f c1 (by omega)]
    by_cases c2 : i = x
    · rw [c2, swF_a]; exact h (x - 1) j (by omega) (by omega) h3 c1
    · by_cases c3 : i = x - 1
      · rw [c3, swF_b]; exact h x j (by omega) (by omega) h3 c1
      · rw [swF_n f c2 c3]; exact h i j h1 h2 h3 c1
theorem swF_end {pk sc f : Int → Int} {n x : Int} (h : ∀ i j, 0 ≤ i → i < j → j ≤ n → j ≠ x → pk (sc (f i)) ≤ pk (sc (f j))) (hx : 1 ≤ x ∧ x ≤ n) (hk : pk (sc (f (x - 1))) ≤ pk (sc (f x))) : ∀ i j, 0 ≤ i → i < j → j ≤ n → pk (sc (f i)) ≤ pk (sc (f j)) := by
  intro i j h1 h2 h3
  by_cases c1 : j = x
  · rw [c1]
    by_cases c2 : i = x - 1
    · rw [c2]; exact hk
    · have := h i (x - 1) h1 (by omega) (by omega) (by omega)
      omega
  · exact h i j h1 h2 h3 c1
