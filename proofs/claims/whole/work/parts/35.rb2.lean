/-! a panel out of the list and back -/
theorem zerase_perm {α : Type} {l : List α} {j : Nat} {p : α} (h : l[j]? = some p) : (p :: l.eraseIdx j).Perm l := by
  obtain ⟨hl, hx⟩ := List.getElem?_eq_some_iff.mp h
  have h2 : l = l.take j ++ p :: l.drop (j + 1) := by
    rw [← hx, List.getElem_cons_drop hl, List.take_append_drop]
  rw [List.eraseIdx_eq_take_drop_succ]
  conv => rhs; rw [h2]
  exact (List.perm_middle (a := p)).symm
theorem countP_erase {pC : List zPn} {j : Nat} {p : zPn} (Q : zPn → Bool) (h : pC[j]? = some p) : (pC.countP Q : Int) = ((pC.eraseIdx j).countP Q : Int) + (if Q p = true then 1 else 0) := by
  rw [← (zerase_perm h).countP_eq Q, List.countP_cons]
  split <;> simp
theorem ahC_erase {pC : List zPn} {j : Nat} {p : zPn} (pO : List Int) (h : pC[j]? = some p) : ahC (pC.eraseIdx j) pO p.2.1 = ahC pC pO p.2.1 := by
  unfold ahC
  rw [countP_erase _ h, if_neg (by simp)]
  omega
theorem inC_erase {pC : List zPn} {j : Nat} {p : zPn} (s : Int) (h : pC[j]? = some p) : inC pC s = inC (pC.eraseIdx j) s + (if p.2.1 = s then 1 else 0) := by
  unfold inC
  rw [countP_erase _ h]
  unfold scC
  by_cases c : p.2.1 = s <;> simp [c]
theorem ahC_le (pC : List zPn) (pO : List Int) (s : Int) : 0 ≤ ahC pC pO s ∧ ahC pC pO s ≤ (pC.length : Int) := by
  have := List.countP_le_length (p := fun p : zPn => decide (pO.idxOf p.2.1 < pO.idxOf s)) (l := pC)
  unfold ahC; omega
/-- those ahead of a scene and those in it -/
theorem ahC_inC (pC : List zPn) (pO : List Int) (s : Int) : 0 ≤ inC pC s ∧ ahC pC pO s + inC pC s ≤ (pC.length : Int) := by
  unfold ahC inC
  refine ⟨by omega, ?_⟩
  induction pC with
  | nil => simp
  | cons p pC ih =>
    rw [List.countP_cons, List.countP_cons, List.length_cons]
    by_cases c : p.2.1 = s
    · have h1 : ¬ pO.idxOf p.2.1 < pO.idxOf s := by rw [c]; omega
      simp only [h1, scC, c, decide_true, decide_false]
      simp; omega
    · simp only [scC, c, decide_false]
      split <;> simp <;> omega
theorem insC_at (pC : List zPn) {k : Int} (q : zPn) (hk : 0 ≤ k ∧ k ≤ (pC.length : Int)) : (insC pC k q)[k.toNat]? = some q := by
  rw [insC_get pC q hk, if_neg (by omega), if_pos (by omega)]
theorem erase_ins (pC : List zPn) {k : Int} (q : zPn) (hk : 0 ≤ k ∧ k ≤ (pC.length : Int)) : (insC pC k q).eraseIdx k.toNat = pC := by
  apply List.ext_getElem?
  intro j
  rw [List.getElem?_eraseIdx]
  split
  · rw [insC_get pC q hk, if_pos (by omega)]
  · rw [insC_get pC q hk, if_neg (by omega), if_neg (by omega), Nat.add_sub_cancel]
theorem ins_erase {pC : List zPn} {j : Nat} {p : zPn} (h : pC[j]? = some p) : insC (pC.eraseIdx j) (j : Int) p = pC := by
  have hl := (List.getElem?_eq_some_iff.mp h).1
  have h3 : (pC.eraseIdx j).length = pC.length - 1 := List.length_eraseIdx_of_lt hl
  apply List.ext_getElem?
  intro i
  rw [insC_get _ _ (by omega)]
  rcases Nat.lt_trichotomy i j with c | c | c
  · rw [if_pos (by omega), List.getElem?_eraseIdx, if_pos c]
  · rw [if_neg (by omega), if_pos (by omega), c, h]
  · rw [if_neg (by omega), if_neg (by omega), List.getElem?_eraseIdx, if_neg (by omega), show i - 1 + 1 = i by omega]
theorem RBo_nAhead {b : zBS} {pC : List zPn} {pO : List Int} {ev x : Int} {p : zPn} (h : RBo b pC pO ev x p) {s : Int} (hs : 0 ≤ s ∧ s < 5) : nAhead (bd_scn_ b (zU (bd_scn b) x s)) s = ahC pC pO s := by
  obtain ⟨h1, h2, h3, h4, h5, ⟨hx, hxp, hxl⟩, h6, h7, h8, h8', h9, h10⟩ := h
  show zcnt (fun r => decide (bd_plc b (zU (bd_scn b) x s (bd_lin b r)) < bd_plc b s)) (bd_sz b) = _
  unfold ahC
  rw [h2]
  refine zcnt_C (fun j q hq => ?_)
  have hl := (List.getElem?_eq_some_iff.mp hq).1
  have hsc := (h7 q (List.mem_of_getElem? hq)).1.2.1
  have e1 : zU (bd_scn b) x s (bd_lin b (j : Int)) = q.2.1 := by
    rw [zU_n _ _ (hxl j (by omega) (by omega)), (h4 j q hq).2.1]
  rw [e1, h9 _ hsc.1 hsc.2, h9 _ hs.1 hs.2]
  simp
theorem RB_places {b : zBS} {pC : List zPn} {pO : List Int} {ev : Int} (h : RB b pC pO ev) {j : Nat} {p : zPn} (hp : pC[j]? = some p) (s : Int) : zplacesB b (bd_lin b (j : Int)) s = inC (pC.eraseIdx j) s + 1 := by
  unfold zplacesB
  rw [RB_nIn h, (h.2.2.2.1 j p hp).2.1, inC_erase s hp]
  split <;> omega
/-- the same list over the same numbers: the same slots in the line -/
theorem RB_same {b b2 : zBS} {pC : List zPn} {pO : List Int} {ev : Int} (h : RB b pC pO ev) (h2 : RB b2 pC pO ev) (hn : bd_num b2 = bd_num b) {j : Nat} {p : zPn} (hp : pC[j]? = some p) : bd_lin b2 (j : Int) = bd_lin b (j : Int) := by
  have hx := RB_lin h hp
  have h3 := (h.2.2.2.1 j p hp).1
  have h4 := (h.2.2.2.2.2.2.1 p (List.mem_of_getElem? hp)).1.1
  obtain ⟨i, q, hq, hq1, hq2⟩ := RB_slot h2 hx (by rw [hn]; omega)
  rw [hn, h3] at hq1
  have hnd := h.2.2.2.2.2.2.2.1
  rw [List.nodup_iff_pairwise_ne, List.pairwise_iff_getElem] at hnd
  obtain ⟨l1, e1⟩ := List.getElem?_eq_some_iff.mp hp
  obtain ⟨l2, e2⟩ := List.getElem?_eq_some_iff.mp hq
  rcases Nat.lt_trichotomy i j with c | c | c
  · have := hnd i j (by simpa using l2) (by simpa using l1) c
    simp only [List.getElem_map, e1, e2] at this
    exact absurd hq1 this
  · rw [hq2, c]
  · have := hnd j i (by simpa using l1) (by simpa using l2) c
    simp only [List.getElem_map, e1, e2] at this
    exact absurd hq1.symm this
def nbC (pC : List zPn) : Int := ((goAll pC).2.2.length : Int)
/-- the list with a panel at another place -/
def mvC (pC : List zPn) (pO : List Int) (j : Nat) (p : zPn) (s pl : Int) : List zPn := insC (pC.eraseIdx j) (ahC (pC.eraseIdx j) pO s + pl) (reS p s)
theorem nbC_rg {b : zBS} {pC : List zPn} {pO : List Int} {ev : Int} (h : RB b pC pO ev) : 0 ≤ nbC pC ∧ nbC pC ≤ 160 := by
  have h1 := lstGo_len pC (-1) g0 (fun p hp => (h.2.2.2.2.2.2.1 p hp).1)
  have h2 := h.1.1
  have h3 := h.2.1
  have h4 : g0.2.2.length = 0 := rfl
  unfold nbC goAll
  omega
theorem RB_pn {b : zBS} {pC : List zPn} {pO : List Int} {ev : Int} (h : RB b pC pO ev) : ∀ p ∈ pC, pnOK p := fun p hp => (h.2.2.2.2.2.2.1 p hp).1
