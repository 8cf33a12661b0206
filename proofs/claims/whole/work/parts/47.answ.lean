/-! the answers, over the panels in the order of the board -/
def noP (pC : List zPn) (x : Int) : Prop := ∀ p ∈ pC, p.1 ≠ x
def isP (pC : List zPn) (j : Nat) (p : zPn) (x : Int) : Prop := pC[j]? = some p ∧ p.1 = x
theorem RB_find {b : zBS} {pC : List zPn} {pO : List Int} {ev : Int} (h : RB b pC pO ev) {x r : Int} (hs : (r = -1 ∧ (x < 0 ∨ ∀ j, 0 ≤ j → j < 10 → bd_num b j ≠ x)) ∨ (0 ≤ r ∧ r < 10 ∧ 0 ≤ x ∧ bd_num b r = x)) : (r = -1 ∧ noP pC x) ∨ ((0 ≤ r ∧ r < 10) ∧ ∃ (j : Nat) (p : zPn), isP pC j p x ∧ r = bd_lin b (j : Int)) := by
  rcases hs with ⟨h1, h2⟩ | ⟨h1, h2, h3, h4⟩
  · exact Or.inl ⟨h1, RB_none h h2⟩
  · obtain ⟨j, p, a1, a2, a3⟩ := RB_slot h ⟨h1, h2⟩ (by omega)
    exact Or.inr ⟨⟨h1, h2⟩, j, p, ⟨a1, by rw [a2, h4]⟩, a3⟩
def panA (pC : List zPn) (pO : List Int) (j : Nat) (p : zPn) (w : Int) : Int :=
  if w = 0 then p.2.1 else if w = 1 then p.2.2.1 else if w = 2 then (p.2.2.2.length : Int) else if w = 3 then (j : Int) - ahC pC pO p.2.1
  else if w = 4 then tkC pC j else if w = 5 then (j : Int) else if w = 6 then haveB pC 0 p.1 else -2
def panR (pC : List zPn) (pO : List Int) (x w r : Int) : Prop := (noP pC x ∧ r = -1) ∨ ∃ (j : Nat) (p : zPn), isP pC j p x ∧ r = panA pC pO j p w
def evtA (v : zEv) (w : Int) : Int := if w = 0 then v.1 else if w = 1 then v.2.1 else if w = 2 then v.2.2 else -2
def evtR (pC : List zPn) (x e w r : Int) : Prop := (noP pC x ∧ r = -1) ∨ ∃ (j : Nat) (p : zPn), isP pC j p x ∧ (((e < 0 ∨ (p.2.2.2.length : Int) ≤ e) ∧ r = -1) ∨ ∃ v, 0 ≤ e ∧ p.2.2.2[e.toNat]? = some v ∧ r = evtA v w)
def atR (pC : List zPn) (x r : Int) : Prop := (x < 0 ∧ r = -2) ∨ ((pC.length : Int) ≤ x ∧ 0 ≤ x ∧ r = -5) ∨ ∃ p, 0 ≤ x ∧ pC[x.toNat]? = some p ∧ r = p.1
def scnA (pC : List zPn) (pO : List Int) (s w : Int) : Int :=
  if w = 0 then (pO.idxOf s : Int) else if w = 1 then inC pC s else if w = 2 then tkC pC (ahC pC pO s + inC pC s) - tkC pC (ahC pC pO s)
  else if w = 3 then scnB pC s else if w = 4 then tkC pC (ahC pC pO s) else -2
def scnR (pC : List zPn) (pO : List Int) (s w r : Int) : Prop := ((s < 0 ∨ 5 ≤ s) ∧ r = -1) ∨ ((0 ≤ s ∧ s < 5) ∧ r = scnA pC pO s w)
def hldA (pC : List zPn) (j : Nat) (x : Int) : Int := if (goAll (pC.take (j + 1))).1 x = -1 then -5 else (goAll (pC.take (j + 1))).1 x
def hldR (pC : List zPn) (x n r : Int) : Prop := ((x < 0 ∨ 10 ≤ x ∨ noP pC n) ∧ r = -1) ∨ ((0 ≤ x ∧ x < 10) ∧ ∃ (j : Nat) (p : zPn), isP pC j p n ∧ r = hldA pC j x)
def brkR (pC : List zPn) (k w r : Int) : Prop := ((k < 0 ∨ w < 0 ∨ 5 ≤ w) ∧ r = -2) ∨ ((0 ≤ k ∧ 0 ≤ w ∧ w < 5) ∧ ((nbC pC ≤ k ∧ r = -5) ∨ (k < nbC pC ∧ r = bkGet (brkAt pC k) w)))
def fstA (pC : List zPn) (k w : Int) : Int := if w = 2 then k else bkGet (brkAt pC k) w
def fstR (pC : List zPn) (s w r : Int) : Prop := ((s < 0 ∨ 5 ≤ s) ∧ r = -1) ∨ ((0 ≤ s ∧ s < 5) ∧ (((w < 0 ∨ 2 < w) ∧ r = -2) ∨ ((0 ≤ w ∧ w ≤ 2) ∧ ∃ k, fstB pC s k ∧ ((k = -1 ∧ r = -5) ∨ (0 ≤ k ∧ r = fstA pC k w)))))
def ifmR (pC : List zPn) (pO : List Int) (x s pl r : Int) : Prop := ((noP pC x ∨ s < 0 ∨ 5 ≤ s) ∧ r = -1) ∨ ((0 ≤ s ∧ s < 5) ∧ ∃ (j : Nat) (p : zPn), isP pC j p x ∧ (((pl < 0 ∨ inC (pC.eraseIdx j) s < pl) ∧ r = -2) ∨ ((0 ≤ pl ∧ pl ≤ inC (pC.eraseIdx j) s) ∧ r = nbM pC pO j p s pl)))
def bstR (pC : List zPn) (pO : List Int) (x s r : Int) : Prop := ((noP pC x ∨ s < 0 ∨ 5 ≤ s) ∧ r = -1) ∨ ((0 ≤ s ∧ s < 5) ∧ ∃ (j : Nat) (p : zPn), isP pC j p x ∧ r = bestC pC pO j p s)
def evsC (pC : List zPn) : Int := (pC.map (fun p => (p.2.2.2.length : Int))).sum
def cntA (pC : List zPn) (ev hn tl w : Int) : Int :=
  if w = 0 then (pC.length : Int) else if w = 1 then ev else if w = 2 then tkC pC pC.length else if w = 3 then nbC pC else if w = 4 then evsC pC else if w = 5 then heldC pC
  else if 6 ≤ w ∧ w ≤ 10 then haveB pC 1 (w - 5) else if w = 11 then hn else if w = 12 then tl else -2
theorem evCode_pr {v : zEv} (h : evOK v) (h2 : v.2.1 ≤ 2) : evCode v % 10 = v.2.2 := by
  unfold evOK at h; unfold evCode; rw [if_pos h2]; omega
