/-! the model's text -/
def sgM (tx : Int → Int) (tl i : Int) : Int := if i < tl then tx i else -1
def TXM (tx : Int → Int) (tl : Int) : Prop := (0 ≤ tl ∧ tl ≤ 60) ∧ ∀ k, 0 ≤ k → k < 60 → 0 ≤ tx k ∧ tx k < 65536
theorem sgM_rg {tx : Int → Int} {tl i : Int} (h : TXM tx tl) (hi : 0 ≤ i) : (-1 ≤ sgM tx tl i ∧ sgM tx tl i < 65536) ∧ (i < tl → sgM tx tl i = tx i ∧ 0 ≤ tx i) ∧ (tl ≤ i → sgM tx tl i = -1) := by
  have h1 := h.1
  unfold sgM
  split
  · have := h.2 i hi (by omega); omega
  · omega
theorem zdg_y {s : Int} (h : 48 ≤ s ∧ s ≤ 57) : zdg s = s - 48 := if_pos h
theorem zdg_n {s : Int} (h : s < 48 ∨ 57 < s) : zdg s = -1 := if_neg (by omega)
theorem zch_y {s : Int} (h : 65 ≤ s ∧ s ≤ 68) : zch s = s - 65 := if_pos (by omega)
theorem zch_n {s : Int} (h : s < 65 ∨ 68 < s) : zch s = -1 := if_neg (by omega)
theorem prs_a {s : Int → Int} {n : Int} (h : s 0 < 48 ∨ 52 < s 0) : prs s n = (0, 0, 0, []) := by
  unfold prs
  rw [if_pos]
  by_cases h2 : s 0 ≤ 57
  · by_cases h3 : 48 ≤ s 0
    · rw [zdg_y ⟨h3, h2⟩]; omega
    · rw [zdg_n (by omega)]; omega
  · rw [zdg_n (by omega)]; omega
theorem prs_b {s : Int → Int} {n : Int} (h : 48 ≤ s 0 ∧ s 0 ≤ 52) (h1 : s 1 ≠ 47) : prs s n = (1, 0, 0, []) := by
  unfold prs
  rw [if_neg (by rw [zdg_y (by omega)]; omega), if_pos h1]
theorem prs_c {s : Int → Int} {n : Int} (h : 48 ≤ s 0 ∧ s 0 ≤ 52) (h1 : s 1 = 47) (h2 : s 2 < 49 ∨ 57 < s 2) : prs s n = (2, 0, 0, []) := by
  unfold prs
  rw [if_neg (by rw [zdg_y (by omega)]; omega), if_neg (by omega), if_pos]
  by_cases h3 : s 2 = 48
  · rw [h3]; decide
  · rw [zdg_n (by omega)]; decide
theorem prs_d {s : Int → Int} {n : Int} (h : 48 ≤ s 0 ∧ s 0 ≤ 52) (h1 : s 1 = 47) (h2 : 49 ≤ s 2 ∧ s 2 ≤ 57) (h3 : s 3 < 48 ∨ 57 < s 3) : prs s n = ((prsE s n 6 3 []).1, s 0 - 48, s 2 - 48, (prsE s n 6 3 []).2) := by
  unfold prs
  rw [if_neg (by rw [zdg_y (by omega)]; omega), if_neg (by omega), if_neg (by rw [zdg_y (by omega)]; omega), if_pos (zdg_n h3), zdg_y (by omega), zdg_y (by omega)]
theorem prs_e {s : Int → Int} {n : Int} (h : 48 ≤ s 0 ∧ s 0 ≤ 52) (h1 : s 1 = 47) (h2 : 49 ≤ s 2 ∧ s 2 ≤ 57) (h3 : 48 ≤ s 3 ∧ s 3 ≤ 57) : prs s n = ((prsE s n 6 4 []).1, s 0 - 48, 10 * (s 2 - 48) + s 3 - 48, (prsE s n 6 4 []).2) := by
  unfold prs
  rw [if_neg (by rw [zdg_y (by omega)]; omega), if_neg (by omega), if_neg (by rw [zdg_y (by omega)]; omega), if_neg (by rw [zdg_y (by omega)]; omega), zdg_y (by omega), zdg_y (by omega), zdg_y (by omega)]
  congr 3; omega
/-- what reading one event says; sp: behind the comma -/
def RE0 (s : Int → Int) (sp z : Int) : Prop := (zch (s sp) = -1 ∧ z = sp) ∨ (zch (s sp) ≠ -1 ∧ zkd (s (sp + 1)) = -1 ∧ z = sp + 1) ∨ (zch (s sp) ≠ -1 ∧ zkd (s (sp + 1)) ≠ -1 ∧ (zkd (s (sp + 1)) ≤ 2 ∧ zdg (s (sp + 2)) = -1) ∧ z = sp + 2)
def RE1 (s : Int → Int) (sp z : Int) : Prop := zch (s sp) ≠ -1 ∧ zkd (s (sp + 1)) ≠ -1 ∧ ¬ (zkd (s (sp + 1)) ≤ 2 ∧ zdg (s (sp + 2)) = -1) ∧ z = (if zkd (s (sp + 1)) ≤ 2 then sp + 3 else sp + 2)
theorem rowO_snoc {rd rd2 : Int → Int} {sc d : Int} {acc : List zEv} {v : zEv} {x : Int} (h : rowO rd (0, sc, d, acc)) (hx : x = 4 + 3 * (acc.length : Int)) (e0 : ∀ j, 0 ≤ j → j < x → j ≠ 3 → rd2 j = rd j) (e3 : rd2 3 = (acc.length : Int) + 1) (ea : rd2 x = v.1) (eb : rd2 (x + 1) = v.2.1) (ec : rd2 (x + 2) = v.2.2) : rowO rd2 (0, sc, d, acc ++ [v]) := by
  refine ⟨(e0 0 (by omega) (by omega) (by omega)).trans h.1, (e0 1 (by omega) (by omega) (by omega)).trans h.2.1, (e0 2 (by omega) (by omega) (by omega)).trans h.2.2.1, ?_, fun j w hw => ?_⟩
  · show rd2 3 = ((acc ++ [v]).length : Int)
    rw [e3, List.length_append, List.length_singleton]; omega
  · have hw : (acc ++ [v])[j]? = some w := hw
    by_cases hc : j < acc.length
    · rw [List.getElem?_append_left hc] at hw
      have h5 := h.2.2.2.2 j w hw
      exact ⟨(e0 _ (by omega) (by omega) (by omega)).trans h5.1, (e0 _ (by omega) (by omega) (by omega)).trans h5.2.1, (e0 _ (by omega) (by omega) (by omega)).trans h5.2.2⟩
    · have hj := (List.getElem?_eq_some_iff.mp hw).1
      rw [List.length_append, List.length_singleton] at hj
      rw [List.getElem?_append_right (by omega), show j - acc.length = 0 by omega] at hw
      have he := Option.some.inj hw
      subst he
      rw [show 4 + 3 * (j : Int) + 0 = x by omega, show 4 + 3 * (j : Int) + 1 = x + 1 by omega, show 4 + 3 * (j : Int) + 2 = x + 2 by omega]
      exact ⟨ea, eb, ec⟩
/-- the row behind one event read: with a prop, without -/
theorem rd_prop {rd : Int → Int} {sc d x a1 a2 a3 v9 : Int} {acc : List zEv} {s : Int → Int} {sp : Int} (h : rowO rd (0, sc, d, acc)) (hl : acc.length < 6) (hx : x = 4 + 3 * (acc.length : Int)) (ha : zch (s sp) = a1) (hb : zkd (s (sp + 1)) = a2) (hc : a2 ≤ 2) (hd : zdg (s (sp + 2)) = a3) (h9 : v9 = (acc.length : Int) + 1) : rowO (zU (zU (zU (zU (zU rd x a1) (x + 1) a2) (x + 2) (-5)) (x + 2) a3) 3 v9) (0, sc, d, acc ++ [evAt s (sp - 1)]) := by
  have e1 : evAt s (sp - 1) = (a1, a2, a3) := by
    unfold evAt
    rw [show sp - 1 + 1 = sp by omega, show sp - 1 + 2 = sp + 1 by omega, show sp - 1 + 3 = sp + 2 by omega, ha, hb, hd, if_pos hc]
  rw [e1]
  refine rowO_snoc h hx (fun j j1 j2 j3 => ?_) ?_ ?_ ?_ ?_
  · rw [zU_n _ _ j3, zU_n _ _ (by omega), zU_n _ _ (by omega), zU_n _ _ (by omega), zU_n _ _ (by omega)]
  · rw [zU_s]; exact h9
  · rw [zU_n _ _ (by omega), zU_n _ _ (by omega), zU_n _ _ (by omega), zU_n _ _ (by omega), zU_s]
  · rw [zU_n _ _ (by omega), zU_n _ _ (by omega), zU_n _ _ (by omega), zU_s]
  · rw [zU_n _ _ (by omega), zU_s]
theorem rd_move {rd : Int → Int} {sc d x a1 a2 v9 : Int} {acc : List zEv} {s : Int → Int} {sp : Int} (h : rowO rd (0, sc, d, acc)) (hl : acc.length < 6) (hx : x = 4 + 3 * (acc.length : Int)) (ha : zch (s sp) = a1) (hb : zkd (s (sp + 1)) = a2) (hc : 2 < a2) (h9 : v9 = (acc.length : Int) + 1) : rowO (zU (zU (zU (zU rd x a1) (x + 1) a2) (x + 2) (-5)) 3 v9) (0, sc, d, acc ++ [evAt s (sp - 1)]) := by
  have e1 : evAt s (sp - 1) = (a1, a2, -5) := by
    unfold evAt
    rw [show sp - 1 + 1 = sp by omega, show sp - 1 + 2 = sp + 1 by omega, ha, hb, if_neg (by omega)]
  rw [e1]
  refine rowO_snoc h hx (fun j j1 j2 j3 => ?_) ?_ ?_ ?_ ?_
  · rw [zU_n _ _ j3, zU_n _ _ (by omega), zU_n _ _ (by omega), zU_n _ _ (by omega)]
  · rw [zU_s]; exact h9
  · rw [zU_n _ _ (by omega), zU_n _ _ (by omega), zU_n _ _ (by omega), zU_s]
  · rw [zU_n _ _ (by omega), zU_n _ _ (by omega), zU_s]
  · rw [zU_n _ _ (by omega), zU_s]
/-- the loop over the events -/
def prL (s : Int → Int) (n sp : Int) (rd : Int → Int) (acc : List zEv) : Prop := acc.length ≤ 6 ∧ rowO rd (0, rd 1, rd 2, acc) ∧ prs s n = ((prsE s n (6 - acc.length) sp acc).1, rd 1, rd 2, (prsE s n (6 - acc.length) sp acc).2)
theorem rowO_0 {h9 rd : Int → Int} {ki sc d : Int} (e : h9 = cpF (fun _ => 0) rd ki) (hk : ki = 22) : rowO (zU (zU h9 1 sc) 2 d) (0, sc, d, []) := by
  subst hk
  refine ⟨?_, ?_, zU_s _ _ _, ?_, fun j v hv => by simp at hv⟩
  · rw [zU_n _ _ (by omega), zU_n _ _ (by omega), e]; rfl
  · rw [zU_n _ _ (by omega), zU_s]
  · rw [zU_n _ _ (by omega), zU_n _ _ (by omega), e]; rfl
theorem rowO_d {rd : Int → Int} {sc d d2 : Int} {acc : List zEv} (h : rowO rd (0, sc, d, acc)) : rowO (zU rd 2 d2) (0, sc, d2, acc) := ⟨(zU_n _ _ (by omega)).trans h.1, (zU_n _ _ (by omega)).trans h.2.1, zU_s _ _ _, (zU_n _ _ (by omega)).trans h.2.2.2.1, fun j v hv => by
  have h5 := h.2.2.2.2 j v hv
  exact ⟨(zU_n _ _ (by omega)).trans h5.1, (zU_n _ _ (by omega)).trans h5.2.1, (zU_n _ _ (by omega)).trans h5.2.2⟩⟩
theorem prL_of {s : Int → Int} {n sp i0 sc d : Int} {rd : Int → Int} (h : rowO rd (0, sc, d, [])) (hi : sp = i0) (hp : prs s n = ((prsE s n 6 i0 []).1, sc, d, (prsE s n 6 i0 []).2)) : prL s n sp rd [] := by
  subst hi
  have h1 : rd 1 = sc := h.2.1
  have h2 : rd 2 = d := h.2.2.1
  refine ⟨by simp, by rw [h1, h2]; exact h, ?_⟩
  rw [h1, h2]; exact hp
theorem prL_s {s : Int → Int} {n sp z : Int} {rd rd2 : Int → Int} {acc : List zEv} {sc d : Int} (h : prL s n sp rd acc) (hn : sp < n) (hl : acc.length < 6) (h44 : s sp = 44) (h1 : RE1 s (sp + 1) z) (hr : rowO rd2 (0, sc, d, acc ++ [evAt s sp])) (hsc : sc = rd 1) (hd : d = rd 2) : prL s n z rd2 (acc ++ [evAt s sp]) := by
  subst hsc; subst hd
  obtain ⟨q1, q2, q3, q4⟩ := h1
  rw [show sp + 1 + 1 = sp + 2 by omega] at q2 q3 q4
  rw [show sp + 1 + 2 = sp + 3 by omega] at q3
  have e := prsE_5 (k := 6 - acc.length - 1) (acc := acc) hn h44 q1 q2 q3
  rw [show 6 - acc.length - 1 + 1 = 6 - acc.length by omega] at e
  have h5 : rd2 1 = rd 1 := hr.2.1
  have h6 : rd2 2 = rd 2 := hr.2.2.1
  refine ⟨by rw [List.length_append, List.length_singleton]; omega, by rw [h5, h6]; exact hr, ?_⟩
  rw [h.2.2, e, h5, h6, List.length_append, List.length_singleton, show 6 - (acc.length + 1) = 6 - acc.length - 1 by omega, q4]
  split
  · rw [show sp + 1 + 3 = sp + 4 by omega]
  · rw [show sp + 1 + 2 = sp + 3 by omega]
def fltV (f : Int) : Int := if f = -1 then -5 else f
theorem prL_bad {s : Int → Int} {n sp z : Int} {rd : Int → Int} {acc : List zEv} (h : prL s n sp rd acc) (hsp : 0 ≤ sp) (hn : sp < n) (hl : acc.length < 6) (h44 : s sp = 44) (h1 : RE0 s (sp + 1) z) : (prs s n).1 = z ∧ z ≠ -1 := by
  rw [h.2.2]
  have hk : 6 - acc.length = 6 - acc.length - 1 + 1 := by omega
  rw [hk]
  rcases h1 with ⟨q1, q2⟩ | ⟨q1, q2, q3⟩ | ⟨q1, q2, q3, q4⟩
  · rw [prsE_2 hn h44 q1]; exact ⟨q2.symm, by omega⟩
  · rw [show sp + 1 + 1 = sp + 2 by omega] at q2
    rw [prsE_3 hn h44 q1 q2]; exact ⟨by show sp + 2 = z; omega, by omega⟩
  · rw [show sp + 1 + 1 = sp + 2 by omega] at q2 q3
    rw [show sp + 1 + 2 = sp + 3 by omega] at q3
    rw [prsE_4 hn h44 q1 q2 q3]; exact ⟨by show sp + 3 = z; omega, by omega⟩
theorem prL_end {s : Int → Int} {n sp : Int} {rd : Int → Int} {acc : List zEv} (h : prL s n sp rd acc) (hsp : 0 ≤ sp ∧ sp ≤ n) (hl : acc.length = 6 ∨ s sp ≠ 44) : (sp = n → (prs s n).1 = -1 ∧ rowO rd (0, (prs s n).2)) ∧ (sp ≠ n → (prs s n).1 = sp) := by
  have e : prsE s n (6 - acc.length) sp acc = (if sp < n then sp else -1, acc) := by
    by_cases hc : sp < n
    · rw [if_pos hc]
      by_cases h6 : acc.length = 6
      · rw [h6]; exact prsE_0 hc
      · rw [show 6 - acc.length = (6 - acc.length - 1) + 1 by have := h.1; omega]
        exact prsE_1 hc (hl.resolve_left h6)
    · rw [if_neg hc]; exact prsE_end hc
  rw [h.2.2, e]
  refine ⟨fun hs => ⟨if_neg (by omega), h.2.1⟩, fun hs => if_pos (by omega)⟩
theorem rowO_num {rd o : Int → Int} {x sc d : Int} {l : List zEv} (hl : l.length ≤ 6) (h : rowO rd (0, sc, d, l)) (e : o = zU (cpF rd o 22) 0 x ∨ ∀ w, 1 ≤ w → w < 22 → o w = rd w) (e0 : o 0 = x) : rowO o (x, sc, d, l) := by
  have e2 : ∀ w, 1 ≤ w → w < 22 → o w = rd w := by
    rcases e with e | e
    · intro w w1 w2
      have : o w = zU (cpF rd o 22) 0 x w := by rw [← e]
      rw [this, zU_n _ _ (by omega)]; unfold cpF; rw [if_pos (by omega)]
    · exact e
  refine ⟨e0, (e2 1 (by omega) (by omega)).trans h.2.1, (e2 2 (by omega) (by omega)).trans h.2.2.1, (e2 3 (by omega) (by omega)).trans h.2.2.2.1, fun j v hv => ?_⟩
  have hj := (List.getElem?_eq_some_iff.mp hv).1
  have hj : j < l.length := hj
  have h5 := h.2.2.2.2 j v hv
  exact ⟨(e2 _ (by omega) (by omega)).trans h5.1, (e2 _ (by omega) (by omega)).trans h5.2.1, (e2 _ (by omega) (by omega)).trans h5.2.2⟩
theorem TXM_typ {tx : Int → Int} {tl : Int} (h : TXM tx tl) (hl : tl < 60) {v : Int} (hv : 0 ≤ v ∧ v < 65536) : TXM (zU tx tl v) (tl + 1) := by
  refine ⟨by have := h.1; omega, fun k k1 k2 => ?_⟩
  by_cases hc : k = tl
  · rw [hc, zU_s]; exact hv
  · rw [zU_n _ _ hc]; exact h.2 k k1 k2
theorem TXM_clr {tx : Int → Int} {tl : Int} (h : TXM tx tl) : TXM tx 0 := ⟨by omega, h.2⟩
/-- reading looks at no place ahead of the text -/
theorem prsE_cg {s t : Int → Int} {n : Int} (h : ∀ i, 0 ≤ i → s i = t i) : ∀ (k : Nat) (i : Int) (acc : List zEv), 0 ≤ i → prsE s n k i acc = prsE t n k i acc
  | 0, i, acc, _ => by unfold prsE; rfl
  | k + 1, i, acc, hi => by
    unfold prsE
    rw [h i hi, h (i + 1) (by omega), h (i + 2) (by omega), h (i + 3) (by omega), prsE_cg h k _ _ (by split <;> omega)]
    unfold evAt
    rw [h (i + 1) (by omega), h (i + 2) (by omega), h (i + 3) (by omega)]
theorem prs_cg {s t : Int → Int} {n : Int} (h : ∀ i, 0 ≤ i → s i = t i) : prs s n = prs t n := by
  unfold prs
  rw [h 0 (by omega), h 1 (by omega), h 2 (by omega), h 3 (by omega), prsE_cg h 6 3 [] (by omega), prsE_cg h 6 4 [] (by omega)]
theorem flt_bad {f z : Int} {P : Prop} (h : f = z) (hz : z ≠ -1) : z = fltV f ∧ (f = -1 → P) := ⟨by rw [h]; exact (if_neg hz).symm, fun h2 => absurd (h.symm.trans h2) hz⟩
theorem flt_ok {f : Int} {P : Prop} (h : f = -1 ∧ P) : (-5 : Int) = fltV f ∧ (f = -1 → P) := ⟨by rw [h.1]; rfl, fun _ => h.2⟩
theorem RE1_ge {s : Int → Int} {sp z : Int} (h : RE1 s sp z) : sp ≤ z := by
  have := h.2.2.2
  split at this <;> omega
theorem prL_in1 {s hc rd : Int → Int} {n ki a0 a2 sp : Int} (e : hc = cpF (fun _ => 0) rd ki) (hk : ki = 22) (h0 : 48 ≤ s 0 ∧ s 0 ≤ 52) (x0 : a0 = s 0) (h1 : s 1 = 47) (h2 : 49 ≤ s 2 ∧ s 2 ≤ 57) (x2 : a2 = s 2) (h3 : s 3 < 48 ∨ 57 < s 3) (hsp : sp = 3) : prL s n sp (zU (zU hc 1 (a0 - 48)) 2 (a2 - 48)) [] := by
  subst x0; subst x2
  exact prL_of (rowO_0 e hk) hsp (prs_d h0 h1 h2 h3)
theorem prL_in2 {s hc rd : Int → Int} {n ki a0 a2 a3 sp : Int} (e : hc = cpF (fun _ => 0) rd ki) (hk : ki = 22) (h0 : 48 ≤ s 0 ∧ s 0 ≤ 52) (x0 : a0 = s 0) (h1 : s 1 = 47) (h2 : 49 ≤ s 2 ∧ s 2 ≤ 57) (x2 : a2 = s 2) (h3 : 48 ≤ s 3 ∧ s 3 ≤ 57) (x3 : a3 = s 3) (hsp : sp = 4) : prL s n sp (zU (zU (zU hc 1 (a0 - 48)) 2 (a2 - 48)) 2 (10 * zU (zU hc 1 (a0 - 48)) 2 (a2 - 48) 2 + a3 - 48)) [] := by
  subst x0; subst x2; subst x3
  rw [zU_s]
  exact prL_of (rowO_d (rowO_0 e hk)) hsp (prs_e h0 h1 h2 h3)
