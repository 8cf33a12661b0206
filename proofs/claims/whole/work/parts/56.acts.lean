/-! what the acts do to the panels and to the kept states -/
theorem prsE_rg {s : Int → Int} {n : Int} (hn : n ≤ 60) : ∀ (k : Nat) (i : Int) (acc : List zEv), 0 ≤ i → -1 ≤ (prsE s n k i acc).1 ∧ (prsE s n k i acc).1 ≤ 100
  | 0, i, acc, h => by rw [prsE]; dsimp only; split <;> omega
  | k + 1, i, acc, h => by
    rw [prsE]
    split
    · dsimp only; omega
    · split
      · dsimp only; omega
      · split
        · dsimp only; omega
        · split
          · dsimp only; omega
          · split
            · dsimp only; omega
            · exact prsE_rg hn k _ _ (by split <;> omega)
theorem prs_rg {s : Int → Int} {n : Int} (hn : n ≤ 60) : -1 ≤ (prs s n).1 ∧ (prs s n).1 ≤ 100 := by
  unfold prs
  split
  · dsimp only; omega
  · split
    · dsimp only; omega
    · split
      · dsimp only; omega
      · split
        · exact prsE_rg hn _ _ _ (by omega)
        · exact prsE_rg hn _ _ _ (by omega)
theorem txH_of {t : zTS} {r : Int} {P : Int × Int × Int × List zEv} (hr : r = -1) (h : r = -1 → (tx_scn t, tx_dur t) = (P.2.1, P.2.2.1) ∧ tx_evs t = (P.2.2.2.length : Int) ∧ codsOK (tx_cod t) P.2.2.2) : txH t P.2.1 P.2.2.1 P.2.2.2 := by
  obtain ⟨h1, h2, h3⟩ := h hr
  exact ⟨congrArg Prod.fst h1, congrArg Prod.snd h1, h2, h3⟩
theorem pig_list : ∀ (L l : List Int), L.Nodup → (∀ x ∈ L, x ∈ l) → L.length ≤ l.length
  | [], l, _, _ => Nat.zero_le _
  | x :: L, l, hn, h => by
    have hx := h x (List.mem_cons_self ..)
    have h1 := pig_list L (l.erase x) (List.nodup_cons.mp hn).2 (fun y hy => (List.mem_erase_of_ne (show y ≠ x from fun hyx => (List.nodup_cons.mp hn).1 (by rw [← hyx]; exact hy))).mpr (h y (List.mem_cons_of_mem _ hy)))
    rw [List.length_erase_of_mem hx] at h1
    have := List.length_pos_of_mem hx
    rw [List.length_cons]
    omega
theorem first_of (f : Int → Prop) : ∀ n : Nat, (∀ j : Int, 0 ≤ j → j < n → ¬ f j) ∨ ∃ k : Int, (0 ≤ k ∧ k < n) ∧ f k ∧ ∀ j : Int, 0 ≤ j → j < k → ¬ f j
  | 0 => Or.inl (fun j j1 j2 => by omega)
  | n + 1 => by
    rcases first_of f n with h | ⟨k, h1, h2, h3⟩
    · by_cases hf : f (n : Int)
      · exact Or.inr ⟨n, by omega, hf, h⟩
      · refine Or.inl (fun j j1 j2 => ?_)
        rcases (show j < n ∨ j = n by omega) with c | c
        · exact h j j1 c
        · rw [c]; exact hf
    · exact Or.inr ⟨k, by omega, h2, h3⟩
theorem RB_free {b : zBS} {pC : List zPn} {pO : List Int} {ev : Int} (h : RB b pC pO ev) (hl : pC.length < 10) : ∃ k : Int, (0 ≤ k ∧ k < 10) ∧ bd_num b k = -1 ∧ ∀ j : Int, 0 ≤ j → j < k → bd_num b j ≠ -1 := by
  rcases first_of (fun x => bd_num b x = -1) 10 with hno | ⟨k, h1, h2, h3⟩
  · exfalso
    have hsz := h.2.1
    have := pig_list [0, 1, 2, 3, 4, 5, 6, 7, 8, 9] (lnL (bd_lin b) pC.length) (by decide) (fun x hx => ?_)
    · rw [lnL_len] at this
      simp at this
      omega
    · have hx2 : 0 ≤ x ∧ x < 10 := by
        simp only [List.mem_cons, List.mem_nil_iff, or_false] at hx
        omega
      refine Classical.byContradiction fun hnm => hno x hx2.1 (by omega) ?_
      refine h.2.2.2.2.2.1 x hx2.1 hx2.2 (fun j j1 j2 hj => hnm ?_)
      have h5 := lnL_get (bd_lin b) pC.length j.toNat (by omega)
      rw [show ((j.toNat : Nat) : Int) = j by omega, hj] at h5
      exact List.mem_of_getElem? h5
  · exact ⟨k, h1, h2, h3⟩
def sameS (pC : List zPn) (pO : List Int) (ev : Int) (hs : List zSt) (S : zSt) (hs2 : List zSt) : Prop := S = (pC, pO, ev) ∧ hs2 = hs
def pushS (pC : List zPn) (pO : List Int) (ev : Int) (hs : List zSt) (C2 : List zPn) (O2 : List Int) (ev2 : Int) (S : zSt) (hs2 : List zSt) : Prop := S = (C2, O2, ev2) ∧ hs2 = pushH hs (pC, pO, ev)
def putR (P : Int × Int × Int × List zEv) (pC : List zPn) (pO : List Int) (ev : Int) (hs : List zSt) (r : Int) (S : zSt) (hs2 : List zSt) : Prop :=
  (P.1 ≠ -1 ∧ r = -100 - P.1 ∧ sameS pC pO ev hs S hs2) ∨ (P.1 = -1 ∧ (((10 ≤ pC.length ∨ 99 ≤ ev) ∧ r = -3 ∧ sameS pC pO ev hs S hs2) ∨ ((pC.length < 10 ∧ ev < 99) ∧ r = ev ∧ pushS pC pO ev hs (insC pC (ahC pC pO P.2.1 + inC pC P.2.1) (ev, P.2)) pO (ev + 1) S hs2)))
def redR (P : Int × Int × Int × List zEv) (pC : List zPn) (pO : List Int) (ev : Int) (hs : List zSt) (x r : Int) (S : zSt) (hs2 : List zSt) : Prop :=
  (noP pC x ∧ r = -1 ∧ sameS pC pO ev hs S hs2) ∨ ∃ (j : Nat) (p : zPn), isP pC j p x ∧ ((P.1 ≠ -1 ∧ r = -100 - P.1 ∧ sameS pC pO ev hs S hs2) ∨ (P.1 = -1 ∧ r = (P.2.2.2.length : Int) ∧ pushS pC pO ev hs (redC pC pO j p P.2.1 P.2.2.1 P.2.2.2) pO ev S hs2))
def tkaR (pC : List zPn) (pO : List Int) (ev : Int) (hs : List zSt) (x r : Int) (S : zSt) (hs2 : List zSt) : Prop :=
  (noP pC x ∧ r = -1 ∧ sameS pC pO ev hs S hs2) ∨ ∃ (j : Nat) (p : zPn), isP pC j p x ∧ r = (pC.length : Int) - 1 ∧ pushS pC pO ev hs (pC.eraseIdx j) pO ev S hs2
def movR (pC : List zPn) (pO : List Int) (ev : Int) (hs : List zSt) (x s pl r : Int) (S : zSt) (hs2 : List zSt) : Prop :=
  ((noP pC x ∨ s < 0 ∨ 5 ≤ s) ∧ r = -1 ∧ sameS pC pO ev hs S hs2) ∨ ((0 ≤ s ∧ s < 5) ∧ ∃ (j : Nat) (p : zPn), isP pC j p x ∧
    (((pl < 0 ∨ inC (pC.eraseIdx j) s < pl) ∧ r = -2 ∧ sameS pC pO ev hs S hs2) ∨ ((0 ≤ pl ∧ pl ≤ inC (pC.eraseIdx j) s) ∧
      (((p.2.1 = s ∧ (j : Int) - ahC pC pO s = pl) ∧ r = -5 ∧ sameS pC pO ev hs S hs2) ∨ (¬ (p.2.1 = s ∧ (j : Int) - ahC pC pO s = pl) ∧ r = nbM pC pO j p s pl ∧ pushS pC pO ev hs (mvC pC pO j p s pl) pO ev S hs2)))))
def timR (pC : List zPn) (pO : List Int) (ev : Int) (hs : List zSt) (x d r : Int) (S : zSt) (hs2 : List zSt) : Prop :=
  (noP pC x ∧ r = -1 ∧ sameS pC pO ev hs S hs2) ∨ ∃ (j : Nat) (p : zPn), isP pC j p x ∧ (((d < 1 ∨ 99 < d) ∧ r = -2 ∧ sameS pC pO ev hs S hs2) ∨ ((1 ≤ d ∧ d ≤ 99) ∧
    ((p.2.2.1 = d ∧ r = -5 ∧ sameS pC pO ev hs S hs2) ∨ (p.2.2.1 ≠ d ∧ r = p.2.2.1 ∧ pushS pC pO ev hs (pC.set j (p.1, p.2.1, d, p.2.2.2)) pO ev S hs2))))
def undR (pC : List zPn) (pO : List Int) (ev : Int) (hs : List zSt) (r : Int) (S : zSt) (hs2 : List zSt) : Prop :=
  (hs.length = 0 ∧ r = -5 ∧ sameS pC pO ev hs S hs2) ∨ (0 < hs.length ∧ r = (hs.length : Int) - 1 ∧ hs.getLast? = some S ∧ hs2 = hs.dropLast)
def resR (pC : List zPn) (pO : List Int) (ev : Int) (hs : List zSt) (k : Int) (Sn : zSt) (r : Int) (S : zSt) (hs2 : List zSt) : Prop :=
  (k = 0 ∧ r = -5 ∧ sameS pC pO ev hs S hs2) ∨ (k ≠ 0 ∧ r = (Sn.1.length : Int) ∧ pushS pC pO ev hs Sn.1 Sn.2.1 Sn.2.2 S hs2)
/-- one panel moved: what is read on the way -/
theorem RB_mv {b : zBS} {pC : List zPn} {pO : List Int} {ev : Int} (h : RB b pC pO ev) {j : Nat} {p : zPn} (hp : pC[j]? = some p) {s pl : Int} (hs : 0 ≤ s ∧ s < 5) (hpl : 0 ≤ pl ∧ pl ≤ inC (pC.eraseIdx j) s) :
    BOK (takeOutB b (j : Int)) ∧ bd_sz (takeOutB b (j : Int)) < 10 ∧ nAhead (bd_scn_ (takeOutB b (j : Int)) (zU (bd_scn (takeOutB b (j : Int))) (bd_lin b (j : Int)) s)) s = ahC (pC.eraseIdx j) pO s ∧ (0 ≤ ahC (pC.eraseIdx j) pO s + pl ∧ ahC (pC.eraseIdx j) pO s + pl ≤ bd_sz (takeOutB b (j : Int))) ∧ RB (putInB (takeOutB b (j : Int)) (bd_lin b (j : Int)) s (ahC (pC.eraseIdx j) pO s + pl)) (mvC pC pO j p s pl) pO ev := by
  have hl := (List.getElem?_eq_some_iff.mp hp).1
  have hO := RB_takeOut h hp
  have hsz := hO.2.1
  have h2 := h.2.1
  have h10 := h.1.1
  have hel : (pC.eraseIdx j).length = pC.length - 1 := List.length_eraseIdx_of_lt hl
  have hai := ahC_inC (pC.eraseIdx j) pO s
  have hah := ahC_le (pC.eraseIdx j) pO s
  exact ⟨hO.1, by omega, RBo_nAhead hO hs, by omega, RBo_putIn hO hs (by omega) (by omega)⟩
