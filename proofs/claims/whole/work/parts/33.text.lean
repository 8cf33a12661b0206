/-! texts: signs over places (-1 behind the end) -/
def sgn (t : zTS) (i : Int) : Int := if i < tx_len t then tx_sig t i else -1
def TXOK (t : zTS) : Prop := (0 ≤ tx_len t ∧ tx_len t ≤ 60) ∧ (∀ k, 0 ≤ k → k < 60 → 0 ≤ tx_sig t k ∧ tx_sig t k < 65536) ∧ (∀ k, 0 ≤ k → k < 6 → 0 ≤ tx_cod t k ∧ tx_cod t k < 400)
theorem sgn_rg {t : zTS} (h : TXOK t) {i : Int} (hi : 0 ≤ i) : -1 ≤ sgn t i ∧ sgn t i < 65536 := by
  unfold sgn
  split
  · have := h.2.1 i hi (by have := h.1; omega); omega
  · omega
theorem sgn_congr {t t2 : zTS} (h1 : tx_sig t2 = tx_sig t) (h2 : tx_len t2 = tx_len t) (i : Int) : sgn t2 i = sgn t i := by
  unfold sgn; rw [h1, h2]
def zdg (s : Int) : Int := if 48 ≤ s ∧ s ≤ 57 then s - 48 else -1
def zch (s : Int) : Int := if 65 ≤ s ∧ s < 69 then s - 65 else -1
def zkd (s : Int) : Int := if s = 43 then 0 else if s = 45 then 1 else if s = 61 then 2 else if s = 62 then 3 else if s = 60 then 4 else if s = 46 then 5 else -1
theorem zdg_rg (s : Int) : -1 ≤ zdg s ∧ zdg s ≤ 9 := by unfold zdg; split <;> omega
theorem zch_rg (s : Int) : -1 ≤ zch s ∧ zch s ≤ 3 := by unfold zch; split <;> omega
theorem zkd_rg (s : Int) : -1 ≤ zkd s ∧ zkd s ≤ 5 := by
  unfold zkd
  repeat' split
  all_goals omega
theorem zkd_out {s : Int} (h : s < 43 ∨ 62 < s) : zkd s = -1 := by
  unfold zkd
  rw [if_neg (by omega), if_neg (by omega), if_neg (by omega), if_neg (by omega), if_neg (by omega), if_neg (by omega)]
/-- the event at the comma at i -/
def evAt (s : Int → Int) (i : Int) : zEv := (zch (s (i + 1)), zkd (s (i + 2)), if zkd (s (i + 2)) ≤ 2 then zdg (s (i + 3)) else -5)
/-- events from i on, at most k more, behind those of acc: the fault (-1: none), the events -/
def prsE (s : Int → Int) (n : Int) : Nat → Int → List zEv → Int × List zEv
  | 0, i, acc => (if i < n then i else -1, acc)
  | k + 1, i, acc =>
    if ¬ i < n then (-1, acc)
    else if s i ≠ 44 then (i, acc)
    else if zch (s (i + 1)) = -1 then (i + 1, acc)
    else if zkd (s (i + 2)) = -1 then (i + 2, acc)
    else if zkd (s (i + 2)) ≤ 2 ∧ zdg (s (i + 3)) = -1 then (i + 3, acc)
    else prsE s n k (if zkd (s (i + 2)) ≤ 2 then i + 4 else i + 3) (acc ++ [evAt s i])
theorem prsE_end {s : Int → Int} {n : Int} {k : Nat} {i : Int} {acc : List zEv} (h : ¬ i < n) : prsE s n k i acc = (-1, acc) := by
  cases k with
  | zero => rw [prsE, if_neg h]
  | succ k => rw [prsE, if_pos h]
theorem prsE_0 {s : Int → Int} {n : Int} {i : Int} {acc : List zEv} (h : i < n) : prsE s n 0 i acc = (i, acc) := by rw [prsE, if_pos h]
theorem prsE_1 {s : Int → Int} {n : Int} {k : Nat} {i : Int} {acc : List zEv} (h : i < n) (h1 : s i ≠ 44) : prsE s n (k + 1) i acc = (i, acc) := by
  rw [prsE, if_neg (by omega), if_pos h1]
theorem prsE_2 {s : Int → Int} {n : Int} {k : Nat} {i : Int} {acc : List zEv} (h : i < n) (h1 : s i = 44) (h2 : zch (s (i + 1)) = -1) : prsE s n (k + 1) i acc = (i + 1, acc) := by
  rw [prsE, if_neg (by omega), if_neg (by omega), if_pos h2]
theorem prsE_3 {s : Int → Int} {n : Int} {k : Nat} {i : Int} {acc : List zEv} (h : i < n) (h1 : s i = 44) (h2 : zch (s (i + 1)) ≠ -1) (h3 : zkd (s (i + 2)) = -1) : prsE s n (k + 1) i acc = (i + 2, acc) := by
  rw [prsE, if_neg (by omega), if_neg (by omega), if_neg h2, if_pos h3]
theorem prsE_4 {s : Int → Int} {n : Int} {k : Nat} {i : Int} {acc : List zEv} (h : i < n) (h1 : s i = 44) (h2 : zch (s (i + 1)) ≠ -1) (h3 : zkd (s (i + 2)) ≠ -1) (h4 : zkd (s (i + 2)) ≤ 2 ∧ zdg (s (i + 3)) = -1) : prsE s n (k + 1) i acc = (i + 3, acc) := by
  rw [prsE, if_neg (by omega), if_neg (by omega), if_neg h2, if_neg h3, if_pos h4]
theorem prsE_5 {s : Int → Int} {n : Int} {k : Nat} {i : Int} {acc : List zEv} (h : i < n) (h1 : s i = 44) (h2 : zch (s (i + 1)) ≠ -1) (h3 : zkd (s (i + 2)) ≠ -1) (h4 : ¬ (zkd (s (i + 2)) ≤ 2 ∧ zdg (s (i + 3)) = -1)) : prsE s n (k + 1) i acc = prsE s n k (if zkd (s (i + 2)) ≤ 2 then i + 4 else i + 3) (acc ++ [evAt s i]) := by
  rw [prsE, if_neg (by omega), if_neg (by omega), if_neg h2, if_neg h3, if_neg h4]
theorem evAt_ok {s : Int → Int} {i : Int} (h2 : zch (s (i + 1)) ≠ -1) (h3 : zkd (s (i + 2)) ≠ -1) (h4 : ¬ (zkd (s (i + 2)) ≤ 2 ∧ zdg (s (i + 3)) = -1)) : evOK (evAt s i) := by
  have a := zch_rg (s (i + 1)); have b := zkd_rg (s (i + 2)); have d := zdg_rg (s (i + 3))
  unfold evOK evAt
  dsimp only
  refine ⟨by omega, by omega, ?_⟩
  by_cases q : zkd (s (i + 2)) ≤ 2
  · rw [if_pos q]; left; omega
  · rw [if_neg q]; right; omega
theorem prsE_ok {s : Int → Int} {n : Int} : ∀ (k : Nat) (i : Int) (acc : List zEv), (∀ v ∈ acc, evOK v) → (∀ v ∈ (prsE s n k i acc).2, evOK v) ∧ (prsE s n k i acc).2.length ≤ acc.length + k
  | 0, i, acc, h => ⟨h, by simp [prsE]⟩
  | k + 1, i, acc, h => by
    rw [prsE]
    split
    · exact ⟨h, by simp⟩
    · split
      · exact ⟨h, by simp⟩
      · split
        · exact ⟨h, by simp⟩
        · split
          · exact ⟨h, by simp⟩
          · split
            · exact ⟨h, by simp⟩
            · rename_i c2 c3 c4
              have h1 := prsE_ok (s := s) (n := n) k (if zkd (s (i + 2)) ≤ 2 then i + 4 else i + 3) (acc ++ [evAt s i]) (fun v hv => by
                rcases List.mem_append.mp hv with hv | hv
                · exact h v hv
                · rw [List.mem_singleton.mp hv]; exact evAt_ok c2 c3 c4)
              refine ⟨h1.1, ?_⟩
              have h2 := h1.2
              rw [List.length_append] at h2
              simp at h2
              omega
/-- a text read: its fault (-1: none), scene, duration, events -/
def prs (s : Int → Int) (n : Int) : Int × Int × Int × List zEv :=
  if zdg (s 0) < 0 ∨ 4 < zdg (s 0) then (0, 0, 0, [])
  else if s 1 ≠ 47 then (1, 0, 0, [])
  else if zdg (s 2) < 1 then (2, 0, 0, [])
  else if zdg (s 3) = -1 then ((prsE s n 6 3 []).1, zdg (s 0), zdg (s 2), (prsE s n 6 3 []).2)
  else ((prsE s n 6 4 []).1, zdg (s 0), zdg (s 2) * 10 + zdg (s 3), (prsE s n 6 4 []).2)
theorem prs_ok {s : Int → Int} {n : Int} (h : (prs s n).1 = -1) {k : Int} (hk : 0 ≤ k ∧ k < 99) : pnOK (k, (prs s n).2) := by
  have d2 := zdg_rg (s 2); have d3 := zdg_rg (s 3)
  have e1 := prsE_ok (s := s) (n := n) 6 3 [] (fun v hv => by cases hv)
  have e2 := prsE_ok (s := s) (n := n) 6 4 [] (fun v hv => by cases hv)
  unfold prs at h ⊢
  split at h
  · exact absurd h (by decide)
  · split at h
    · exact absurd h (by decide)
    · split at h
      · exact absurd h (by decide)
      · rename_i c0 c1 c2
        rw [if_neg c0, if_neg c1, if_neg c2]
        split
        · exact ⟨hk, by dsimp only; omega, by dsimp only; omega, by simpa using e1.2, e1.1⟩
        · exact ⟨hk, by dsimp only; omega, by dsimp only; omega, by simpa using e2.2, e2.1⟩
/-- the rows of events hold these -/
def codsOK (f : Int → Int) (l : List zEv) : Prop := ∀ (j : Nat) (v : zEv), l[j]? = some v → f (j : Int) = evCode v
theorem codsOK_snoc {f : Int → Int} {l : List zEv} {v : zEv} {x w : Int} (h : codsOK f l) (hx : x = (l.length : Int)) (hw : w = evCode v) : codsOK (zU f x w) (l ++ [v]) := by
  intro j u hu
  subst hx
  unfold zU
  by_cases c : j < l.length
  · rw [if_neg (by omega)]
    rw [List.getElem?_append_left c] at hu
    exact h j u hu
  · rw [List.getElem?_append_right (by omega)] at hu
    have h1 : j - l.length < 1 := (List.getElem?_eq_some_iff.mp hu).1
    rw [show j - l.length = 0 by omega] at hu
    cases hu
    rw [if_pos (by omega)]; exact hw
theorem evCode_evAt {s : Int → Int} {i : Int} : evCode (evAt s i) = zch (s (i + 1)) * 100 + zkd (s (i + 2)) * 10 + (if zkd (s (i + 2)) ≤ 2 then zdg (s (i + 3)) else 0) := by
  unfold evCode evAt
  dsimp only
  split
  · rfl
  · rfl
