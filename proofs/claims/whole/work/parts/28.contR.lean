/-! what the rows of the continuity hold -/
def RC (c : zCS) (g : zGs) : Prop := (∀ x, 0 ≤ x → x < 10 → ct_hold c x = g.1 x) ∧ (∀ x, 0 ≤ x → x < 4 → ct_mov c x = if g.2.1 x = 0 then -1 else g.2.1 x) ∧ ct_nb c = (g.2.2.length : Int) ∧ ∀ (k : Nat) (v : zBk), g.2.2[k]? = some v → ct_brk c ((k : Int) * 5 + 0) = v.1 ∧ ct_brk c ((k : Int) * 5 + 1) = v.2.1 ∧ ct_brk c ((k : Int) * 5 + 2) = v.2.2.1 ∧ ct_brk c ((k : Int) * 5 + 3) = v.2.2.2.1 ∧ ct_brk c ((k : Int) * 5 + 4) = v.2.2.2.2
def put5 (f : Int → Int) (s : Int) (v : zBk) : Int → Int := zU (zU (zU (zU (zU f (s + 0) v.1) (s + 1) v.2.1) (s + 2) v.2.2.1) (s + 3) v.2.2.2.1) (s + 4) v.2.2.2.2
theorem put5_ne (f : Int → Int) {s j : Int} (v : zBk) (h : j < s ∨ s + 5 ≤ j) : put5 f s v j = f j := by
  unfold put5
  rw [zU_n _ _ (by omega), zU_n _ _ (by omega), zU_n _ _ (by omega), zU_n _ _ (by omega), zU_n _ _ (by omega)]
theorem put5_at (f : Int → Int) (s : Int) (v : zBk) : put5 f s v (s + 0) = v.1 ∧ put5 f s v (s + 1) = v.2.1 ∧ put5 f s v (s + 2) = v.2.2.1 ∧ put5 f s v (s + 3) = v.2.2.2.1 ∧ put5 f s v (s + 4) = v.2.2.2.2 := by
  unfold put5
  refine ⟨?_, ?_, ?_, ?_, ?_⟩
  · rw [zU_n _ _ (by omega), zU_n _ _ (by omega), zU_n _ _ (by omega), zU_n _ _ (by omega), zU_s]
  · rw [zU_n _ _ (by omega), zU_n _ _ (by omega), zU_n _ _ (by omega), zU_s]
  · rw [zU_n _ _ (by omega), zU_n _ _ (by omega), zU_s]
  · rw [zU_n _ _ (by omega), zU_s]
  · rw [zU_s]
def addBk (c : zCS) (v : zBk) : zCS := ct_nb_ (ct_brk_ c (put5 (ct_brk c) (ct_nb c * 5) v)) (ct_nb c + 1)
theorem RC_add {c : zCS} {g : zGs} (h : RC c g) (v : zBk) : RC (addBk c v) (g.1, g.2.1, g.2.2 ++ [v]) := by
  obtain ⟨h1, h2, h3, h4⟩ := h
  refine ⟨h1, h2, ?_, fun k w hk => ?_⟩
  · show ct_nb c + 1 = ((g.2.2 ++ [v]).length : Int)
    rw [List.length_append, h3]; simp
  · show put5 (ct_brk c) (ct_nb c * 5) v ((k : Int) * 5 + 0) = w.1 ∧ put5 (ct_brk c) (ct_nb c * 5) v ((k : Int) * 5 + 1) = w.2.1 ∧ put5 (ct_brk c) (ct_nb c * 5) v ((k : Int) * 5 + 2) = w.2.2.1 ∧ put5 (ct_brk c) (ct_nb c * 5) v ((k : Int) * 5 + 3) = w.2.2.2.1 ∧ put5 (ct_brk c) (ct_nb c * 5) v ((k : Int) * 5 + 4) = w.2.2.2.2
    replace hk : (g.2.2 ++ [v])[k]? = some w := hk
    by_cases hlt : k < g.2.2.length
    · rw [List.getElem?_append_left hlt] at hk
      have h5 := h4 k w hk
      rw [put5_ne _ _ (by omega), put5_ne _ _ (by omega), put5_ne _ _ (by omega), put5_ne _ _ (by omega), put5_ne _ _ (by omega)]
      exact h5
    · rw [List.getElem?_append_right (by omega)] at hk
      have hk0 : k - g.2.2.length < 1 := (List.getElem?_eq_some_iff.mp hk).1
      have hke : (k : Int) = ct_nb c := by omega
      rw [show k - g.2.2.length = 0 by omega] at hk
      cases hk
      rw [hke]
      exact put5_at _ _ _
theorem RC_up {c : zCS} {g : zGs} (h : RC c g) (x v : Int) (d : Int → Int) : RC (ct_drn_ (ct_hold_ c (zU (ct_hold c) x v)) d) (zU g.1 x v, g.2.1, g.2.2) := by
  obtain ⟨h1, h2, h3, h4⟩ := h
  refine ⟨fun y y1 y2 => ?_, h2, h3, h4⟩
  show zU (ct_hold c) x v y = zU g.1 x v y
  unfold zU
  split
  · rfl
  · exact h1 y y1 y2
theorem RC_mov {c : zCS} {g : zGs} (h : RC c g) (x v w : Int) (hv : v = if w = 0 then -1 else w) : RC (ct_mov_ c (zU (ct_mov c) x v)) (g.1, zU g.2.1 x w, g.2.2) := by
  obtain ⟨h1, h2, h3, h4⟩ := h
  refine ⟨h1, fun y y1 y2 => ?_, h3, h4⟩
  show zU (ct_mov c) x v y = if zU g.2.1 x w y = 0 then -1 else zU g.2.1 x w y
  unfold zU
  split
  · exact hv
  · exact h2 y y1 y2
theorem RC_seen {c : zCS} {g : zGs} (h : RC c g) (v : Int) : RC (ct_seen_ c v) g := h
theorem RC_drn {c : zCS} {g : zGs} (h : RC c g) (d : Int → Int) : RC (ct_drn_ c d) g := h
theorem RC_reset {c : zCS} {g : zGs} (h : RC c g) : RC (ct_mov_ c (cpF (fun _ => -1) (ct_mov c) 4)) (g.1, fun _ => 0, g.2.2) := by
  obtain ⟨h1, h2, h3, h4⟩ := h
  refine ⟨h1, fun y y1 y2 => ?_, h3, h4⟩
  show cpF (fun _ => -1) (ct_mov c) 4 y = if (0 : Int) = 0 then -1 else 0
  unfold cpF
  rw [if_pos (by omega), if_pos rfl]
/-- but for how the characters moved: behind the beginning of a way -/
def RCh (c : zCS) (g : zGs) : Prop := (∀ x, 0 ≤ x → x < 10 → ct_hold c x = g.1 x) ∧ ct_nb c = (g.2.2.length : Int) ∧ ∀ (k : Nat) (v : zBk), g.2.2[k]? = some v → ct_brk c ((k : Int) * 5 + 0) = v.1 ∧ ct_brk c ((k : Int) * 5 + 1) = v.2.1 ∧ ct_brk c ((k : Int) * 5 + 2) = v.2.2.1 ∧ ct_brk c ((k : Int) * 5 + 3) = v.2.2.2.1 ∧ ct_brk c ((k : Int) * 5 + 4) = v.2.2.2.2
theorem RCh_reset {c : zCS} {g : zGs} (h : RCh c g) : RC (ct_mov_ c (cpF (fun _ => -1) (ct_mov c) 4)) (g.1, fun _ => 0, g.2.2) := by
  obtain ⟨h1, h3, h4⟩ := h
  refine ⟨h1, fun y y1 y2 => ?_, h3, h4⟩
  show cpF (fun _ => -1) (ct_mov c) 4 y = if (0 : Int) = 0 then -1 else 0
  unfold cpF
  rw [if_pos (by omega), if_pos rfl]
theorem RCh_0 (c : zCS) : RCh (ct_nb_ (ct_hold_ c (cpF (fun _ => -1) (ct_hold c) 10)) 0) g0 := by
  refine ⟨fun x x1 x2 => ?_, rfl, fun k v hk => by cases hk⟩
  show cpF (fun _ => -1) (ct_hold c) 10 x = -1
  unfold cpF
  rw [if_pos (by omega)]
theorem RC.h {c : zCS} {g : zGs} (h : RC c g) : RCh c g := ⟨h.1, h.2.2.1, h.2.2.2⟩
/-! a step, by its cases -/
theorem evStep_0 {num e : Int} {v : zEv} {g : zGs} (h : v.2.1 = 0) : evStep num e v g = (zU g.1 v.2.2 v.1, g.2.1, if g.1 v.2.2 ≠ -1 then g.2.2 ++ [(num, 1, v.1, v.2.2, e)] else g.2.2) := by
  unfold evStep; rw [if_pos h]
theorem evStep_1 {num e : Int} {v : zEv} {g : zGs} (h : v.2.1 = 1) : evStep num e v g = (zU g.1 v.2.2 (-1), g.2.1, if g.1 v.2.2 ≠ v.1 then g.2.2 ++ [(num, 2, v.1, v.2.2, e)] else g.2.2) := by
  unfold evStep; rw [if_neg (by omega), if_pos h]
theorem evStep_2 {num e : Int} {v : zEv} {g : zGs} (h : v.2.1 = 2) : evStep num e v g = (zU g.1 v.2.2 v.1, g.2.1, if g.1 v.2.2 ≠ v.1 then g.2.2 ++ [(num, 3, v.1, v.2.2, e)] else g.2.2) := by
  unfold evStep; rw [if_neg (by omega), if_neg (by omega), if_pos h]
theorem evStep_5 {num e : Int} {v : zEv} {g : zGs} (h : v.2.1 = 5) : evStep num e v g = (g.1, zU g.2.1 v.1 0, g.2.2) := by
  unfold evStep; rw [if_neg (by omega), if_neg (by omega), if_neg (by omega), if_pos h]
theorem evStep_m {num e : Int} {v : zEv} {g : zGs} (h : v.2.1 = 3 ∨ v.2.1 = 4) : evStep num e v g = (g.1, zU g.2.1 v.1 v.2.1, if g.2.1 v.1 = 7 - v.2.1 then g.2.2 ++ [(num, 5, v.1, -5, e)] else g.2.2) := by
  unfold evStep; rw [if_neg (by omega), if_neg (by omega), if_neg (by omega), if_neg (by omega)]
theorem evCode_p {v : zEv} (h : v.2.1 ≤ 2) : evCode v = v.1 * 100 + v.2.1 * 10 + v.2.2 := by unfold evCode; rw [if_pos h]
theorem evCode_m {v : zEv} (h : ¬ v.2.1 ≤ 2) : evCode v = v.1 * 100 + v.2.1 * 10 + 0 := by unfold evCode; rw [if_neg h]
