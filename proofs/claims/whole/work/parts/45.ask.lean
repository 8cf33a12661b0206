/-! what is told of breaks -/
def bkGet (v : zBk) (w : Int) : Int := if w = 0 then v.1 else if w = 1 then v.2.1 else if w = 2 then v.2.2.1 else if w = 3 then v.2.2.2.1 else v.2.2.2.2
def brkAt (pC : List zPn) (k : Int) : zBk := (goAll pC).2.2.getD k.toNat (0, 0, 0, 0, 0)
theorem brkAt_get {pC : List zPn} {k : Int} (hk : 0 ≤ k ∧ k < nbC pC) : (goAll pC).2.2[k.toNat]? = some (brkAt pC k) := by
  unfold nbC at hk
  unfold brkAt
  rw [List.getD_eq_getElem?_getD, List.getElem?_eq_getElem (by omega)]
  rfl
theorem RCh_get {c : zCS} {pC : List zPn} (h : RCh c (goAll pC)) {k w : Int} (hk : 0 ≤ k ∧ k < nbC pC) (hw : 0 ≤ w ∧ w < 5) : ct_brk c (k * 5 + w) = bkGet (brkAt pC k) w := by
  have h1 := h.2.2 _ _ (brkAt_get hk)
  rw [show ((k.toNat : Nat) : Int) = k by omega] at h1
  unfold bkGet
  rcases (show w = 0 ∨ w = 1 ∨ w = 2 ∨ w = 3 ∨ w = 4 by omega) with rfl | rfl | rfl | rfl | rfl
  · rw [if_pos rfl]; exact h1.1
  · rw [if_neg (by omega), if_pos rfl]; exact h1.2.1
  · rw [if_neg (by omega), if_neg (by omega), if_pos rfl]; exact h1.2.2.1
  · rw [if_neg (by omega), if_neg (by omega), if_neg (by omega), if_pos rfl]; exact h1.2.2.2.1
  · rw [if_neg (by omega), if_neg (by omega), if_neg (by omega), if_neg (by omega)]; exact h1.2.2.2.2
/-- the scene of the panel with a number -/
def scN (pC : List zPn) (n : Int) : Int := match pC.find? (fun p => decide (p.1 = n)) with
  | some p => p.2.1
  | none => -1
/-- all breaks are of panels that were gone through -/
theorem evStep_of {num e : Int} {v : zEv} {g : zGs} {P : Int → Prop} (hn : P num) (h : ∀ u ∈ g.2.2, P u.1) : ∀ u ∈ (evStep num e v g).2.2, P u.1 := by
  have hb : ∀ {q : Prop} [Decidable q] {b : zBk}, b.1 = num → ∀ u ∈ (if q then g.2.2 ++ [b] else g.2.2), P u.1 := by
    intro q _ b hb u hu
    split at hu
    · rcases List.mem_append.mp hu with hu | hu
      · exact h u hu
      · rw [List.mem_singleton.mp hu, hb]; exact hn
    · exact h u hu
  unfold evStep
  split
  · exact hb rfl
  · split
    · exact hb rfl
    · split
      · exact hb rfl
      · split
        · exact h
        · exact hb rfl
theorem evsGo_of {num : Int} {P : Int → Prop} (hn : P num) : ∀ (l : List zEv) (e : Int) (g : zGs), (∀ u ∈ g.2.2, P u.1) → ∀ u ∈ (evsGo num e l g).2.2, P u.1
  | [], _, _, h => h
  | v :: l, e, g, h => evsGo_of hn l (e + 1) _ (evStep_of hn h)
theorem undrP_of {num : Int} (l : List zEv) (h : Int → Int) (w : Int) : ∀ n : Nat, ∀ u ∈ undrP num l h w n, u.1 = num
  | 0, u, hu => by cases hu
  | n + 1, u, hu => by
    rw [undrP] at hu
    rcases List.mem_append.mp hu with hu | hu
    · exact undrP_of l h w n u hu
    · split at hu
      · rw [List.mem_singleton.mp hu]
      · cases hu
theorem undrW_of {num : Int} (l : List zEv) (h : Int → Int) : ∀ n : Nat, ∀ u ∈ undrW num l h n, u.1 = num
  | 0, u, hu => by cases hu
  | n + 1, u, hu => by
    rw [undrW] at hu
    rcases List.mem_append.mp hu with hu | hu
    · exact undrW_of l h n u hu
    · exact undrP_of l h n 10 u hu
theorem lstGo_of {P : Int → Prop} : ∀ (l : List zPn) (lat : Int) (g : zGs), (∀ p ∈ l, P p.1) → (∀ u ∈ g.2.2, P u.1) → ∀ u ∈ (lstGo lat l g).2.2, P u.1
  | [], _, _, _, h => h
  | p :: l, lat, g, hp, h => by
    refine lstGo_of l _ _ (fun q hq => hp q (List.mem_cons_of_mem _ hq)) ?_
    intro u hu
    unfold panGo at hu
    rcases List.mem_append.mp hu with hu | hu
    · exact evsGo_of (hp p List.mem_cons_self) _ _ _ (by exact h) u hu
    · rw [undrW_of _ _ _ u hu]; exact hp p List.mem_cons_self
theorem brk_of {pC : List zPn} {v : zBk} (h : v ∈ (goAll pC).2.2) : ∃ p ∈ pC, p.1 = v.1 :=
  lstGo_of (P := fun n => ∃ p ∈ pC, p.1 = n) pC (-1) g0 (fun p hp => ⟨p, hp, rfl⟩) (fun u hu => by cases hu) v h
theorem brkAt_of {pC : List zPn} {k : Int} (hk : 0 ≤ k ∧ k < nbC pC) : ∃ p ∈ pC, p.1 = (brkAt pC k).1 := brk_of (List.mem_of_getElem? (brkAt_get hk))
theorem scN_of {pC : List zPn} (hn : (pC.map Prod.fst).Nodup) {p : zPn} (hp : p ∈ pC) : scN pC p.1 = p.2.1 := by
  unfold scN
  induction pC with
  | nil => cases hp
  | cons q l ih =>
    rw [List.map_cons, List.nodup_cons] at hn
    rw [List.find?_cons]
    by_cases c : q.1 = p.1
    · have hqp : p = q := by
        rcases List.mem_cons.mp hp with h | h
        · exact h
        · exact absurd (List.mem_map.mpr ⟨p, h, c.symm⟩) hn.1
      simp [c, hqp]
    · rcases List.mem_cons.mp hp with h | h
      · exact absurd (by rw [h]) c
      · simp only [c, decide_false]
        exact ih hn.2 h
/-- a slot for a number that a panel has -/
theorem RB_has {b : zBS} {pC : List zPn} {pO : List Int} {ev : Int} (h : RB b pC pO ev) {x r : Int} (hs : (r = -1 ∧ (x < 0 ∨ ∀ j, 0 ≤ j → j < 10 → bd_num b j ≠ x)) ∨ (0 ≤ r ∧ r < 10 ∧ 0 ≤ x ∧ bd_num b r = x)) (hp : ∃ p ∈ pC, p.1 = x) : 0 ≤ r ∧ r < 10 ∧ 0 ≤ x ∧ bd_num b r = x := by
  rcases hs with hs | hs
  · obtain ⟨p, hp1, hp2⟩ := hp
    exact absurd hp2 (RB_none h hs.2 p hp1)
  · exact hs
theorem RB_scn {b : zBS} {pC : List zPn} {pO : List Int} {ev : Int} (h : RB b pC pO ev) {r : Int} (hr : 0 ≤ r ∧ r < 10) (hn : 0 ≤ bd_num b r) : bd_scn b r = scN pC (bd_num b r) := by
  obtain ⟨j, p, hj, hp1, hp2⟩ := RB_slot h hr hn
  have h1 := h.2.2.2.1 j p hj
  rw [← hp2] at h1
  rw [← hp1, scN_of h.2.2.2.2.2.2.2.1 (List.mem_of_getElem? hj), h1.2.1]
theorem brkAt_rg {b : zBS} {pC : List zPn} {pO : List Int} {ev : Int} (h : RB b pC pO ev) {k : Int} (hk : 0 ≤ k ∧ k < nbC pC) : bkOK (brkAt pC k) := (lstGo_ok pC (-1) g0 (RB_pn h) g0_ok).2.2 _ (List.mem_of_getElem? (brkAt_get hk))
theorem bkGet_rg {v : zBk} (h : bkOK v) (w : Int) : -5 ≤ bkGet v w ∧ bkGet v w < 99 := by
  unfold bkOK at h
  unfold bkGet
  repeat' split
  all_goals omega
def haveB (pC : List zPn) (w x : Int) : Int := zcnt (fun k => decide (bkGet (brkAt pC k) w = x)) (nbC pC)
def scnB (pC : List zPn) (s : Int) : Int := zcnt (fun k => decide (scN pC (brkAt pC k).1 = s)) (nbC pC)
def heldC (pC : List zPn) : Int := zcnt (fun x => decide ((goAll pC).1 x ≠ -1)) 10
def fstB (pC : List zPn) (s r : Int) : Prop := (r = -1 ∧ ∀ k, 0 ≤ k → k < nbC pC → scN pC (brkAt pC k).1 ≠ s) ∨ ((0 ≤ r ∧ r < nbC pC) ∧ scN pC (brkAt pC r).1 = s ∧ ∀ k, 0 ≤ k → k < r → scN pC (brkAt pC k).1 ≠ s)
theorem scN_rg {pC : List zPn} (h : ∀ p ∈ pC, pnOK p) (n : Int) : -1 ≤ scN pC n ∧ scN pC n < 5 := by
  unfold scN
  split
  · rename_i p hp
    have := (h p (List.mem_of_find?_eq_some hp)).2.1
    omega
  · omega
theorem haveB_rg {b : zBS} {pC : List zPn} {pO : List Int} {ev : Int} (h : RB b pC pO ev) (w x : Int) : 0 ≤ haveB pC w x ∧ haveB pC w x ≤ 160 := by
  have h1 := nbC_rg h
  have h2 := zcnt_le (fun k => decide (bkGet (brkAt pC k) w = x)) h1.1
  unfold haveB; omega
