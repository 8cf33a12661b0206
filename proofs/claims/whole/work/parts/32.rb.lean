/-! a board's rows and the list of its panels -/
def scC (s : Int) (p : zPn) : Bool := decide (p.2.1 = s)
def RB (b : zBS) (pC : List zPn) (pO : List Int) (ev : Int) : Prop := BOK b ∧ bd_sz b = (pC.length : Int) ∧ bd_sf b = ev ∧ (∀ (j : Nat) (p : zPn), pC[j]? = some p → slotHas b (bd_lin b (j : Int)) p) ∧ (∀ i j : Int, 0 ≤ i → i < bd_sz b → 0 ≤ j → j < bd_sz b → bd_lin b i = bd_lin b j → i = j) ∧ (∀ x : Int, 0 ≤ x → x < 10 → (∀ j : Int, 0 ≤ j → j < bd_sz b → bd_lin b j ≠ x) → bd_num b x = -1) ∧ (∀ p ∈ pC, pnOK p ∧ p.1 < ev) ∧ (pC.map Prod.fst).Nodup ∧ (∀ s : Int, 0 ≤ s → s < 5 → bd_plc b s = (pO.idxOf s : Int)) ∧ pO.Perm [0, 1, 2, 3, 4]
theorem zcnt_list {P : Int → Bool} {Q : zPn → Bool} {pC : List zPn} (h : ∀ (j : Nat) (p : zPn), pC[j]? = some p → P (j : Int) = Q p) : ∀ n : Nat, n ≤ pC.length → zcntN P n = ((pC.take n).countP Q : Int)
  | 0, _ => by simp [zcntN]
  | n + 1, hn => by
    have hlt : n < pC.length := by omega
    rw [zcntN, zcnt_list h n (by omega), List.take_succ_eq_append_getElem hlt, List.countP_append, h n _ (List.getElem?_eq_getElem hlt)]
    simp only [List.countP_cons, List.countP_nil]
    split <;> simp
theorem zcnt_C {P : Int → Bool} {Q : zPn → Bool} {pC : List zPn} (h : ∀ (j : Nat) (p : zPn), pC[j]? = some p → P (j : Int) = Q p) : zcnt P (pC.length : Int) = (pC.countP Q : Int) := by
  unfold zcnt
  rw [Int.toNat_natCast, zcnt_list h _ (Nat.le_refl _), List.take_length]
theorem zsum_list {f : Int → Int} {q : zPn → Int} {pC : List zPn} (h : ∀ (j : Nat) (p : zPn), pC[j]? = some p → f (j : Int) = q p) : ∀ n : Nat, n ≤ pC.length → zsumN f n = ((pC.take n).map q).sum
  | 0, _ => by simp [zsumN]
  | n + 1, hn => by
    have hlt : n < pC.length := by omega
    rw [zsumN, zsum_list h n (by omega), List.take_succ_eq_append_getElem hlt, List.map_append, List.sum_append, h n _ (List.getElem?_eq_getElem hlt)]
    simp
def inC (pC : List zPn) (s : Int) : Int := (pC.countP (scC s) : Int)
def ahC (pC : List zPn) (pO : List Int) (s : Int) : Int := (pC.countP (fun p => decide (pO.idxOf p.2.1 < pO.idxOf s)) : Int)
def tkC (pC : List zPn) (k : Int) : Int := ((pC.take k.toNat).map (fun p => p.2.2.1)).sum
theorem RB_nIn {b : zBS} {pC : List zPn} {pO : List Int} {ev : Int} (h : RB b pC pO ev) (s : Int) : nIn b s = inC pC s := by
  unfold nIn inC
  rw [h.2.1]
  refine zcnt_C (fun j p hp => ?_)
  rw [(h.2.2.2.1 j p hp).2.1]
  rfl
theorem RB_nAhead {b : zBS} {pC : List zPn} {pO : List Int} {ev : Int} (h : RB b pC pO ev) {s : Int} (hs : 0 ≤ s ∧ s < 5) : nAhead b s = ahC pC pO s := by
  unfold nAhead ahC
  rw [h.2.1]
  refine zcnt_C (fun j p hp => ?_)
  have h1 := (h.2.2.2.2.2.2.1 p (List.mem_of_getElem? hp)).1.2.1
  have h2 := h.2.2.2.2.2.2.2.2.1
  rw [(h.2.2.2.1 j p hp).2.1, h2 _ h1.1 h1.2, h2 _ hs.1 hs.2]
  simp
theorem RB_ticks {b : zBS} {pC : List zPn} {pO : List Int} {ev : Int} (h : RB b pC pO ev) {k : Int} (hk : 0 ≤ k ∧ k ≤ (pC.length : Int)) : ticksB b k = tkC pC k := by
  unfold ticksB tkC zsum
  rw [zsum_list (q := fun p => p.2.2.1) (fun j p hp => (h.2.2.2.1 j p hp).2.2.1) k.toNat (by omega)]
theorem RB_evs {b : zBS} {pC : List zPn} {pO : List Int} {ev : Int} (h : RB b pC pO ev) : evsB b = (pC.map (fun p => (p.2.2.2.length : Int))).sum := by
  unfold evsB zsum
  rw [h.2.1, zsum_list (q := fun p => (p.2.2.2.length : Int)) (fun j p hp => (h.2.2.2.1 j p hp).2.2.2.1) _ (by omega), Int.toNat_natCast, List.take_length]
theorem RB_lin {b : zBS} {pC : List zPn} {pO : List Int} {ev : Int} (h : RB b pC pO ev) {j : Nat} {p : zPn} (hp : pC[j]? = some p) : 0 ≤ bd_lin b (j : Int) ∧ bd_lin b (j : Int) < 10 := by
  have hl := (List.getElem?_eq_some_iff.mp hp).1
  have h2 := h.2.1
  exact h.1.2.2.1 j (by omega) (by omega)
theorem RB_at {b : zBS} {pC : List zPn} {pO : List Int} {ev : Int} (h : RB b pC pO ev) {j : Nat} {p : zPn} (hp : pC[j]? = some p) : atRank b (bd_lin b (j : Int)) j := by
  have hl := (List.getElem?_eq_some_iff.mp hp).1
  have h2 := h.2.1
  exact ⟨by omega, rfl, fun i i1 i2 hi => h.2.2.2.2.1 i j i1 i2 (by omega) (by omega) hi⟩
/-- a slot with a number stands for a panel -/
theorem RB_slot {b : zBS} {pC : List zPn} {pO : List Int} {ev : Int} (h : RB b pC pO ev) {x : Int} (hx : 0 ≤ x ∧ x < 10) (hn : 0 ≤ bd_num b x) : ∃ (j : Nat) (p : zPn), pC[j]? = some p ∧ p.1 = bd_num b x ∧ x = bd_lin b (j : Int) := by
  have h2 := h.2.1
  refine Classical.byContradiction fun hno => ?_
  have := h.2.2.2.2.2.1 x hx.1 hx.2 (fun j j1 j2 hj => hno ?_)
  · omega
  · have hl : j.toNat < pC.length := by omega
    have hp := List.getElem?_eq_getElem hl
    have h3 := h.2.2.2.1 _ _ hp
    rw [show ((j.toNat : Nat) : Int) = j by omega, hj] at h3
    exact ⟨j.toNat, _, hp, h3.1.symm, by rw [show ((j.toNat : Nat) : Int) = j by omega, hj]⟩
/-- a number that no slot has is no panel's -/
theorem RB_none {b : zBS} {pC : List zPn} {pO : List Int} {ev : Int} (h : RB b pC pO ev) {x : Int} (hn : x < 0 ∨ ∀ j, 0 ≤ j → j < 10 → bd_num b j ≠ x) : ∀ p ∈ pC, p.1 ≠ x := by
  intro p hp hx
  obtain ⟨j, hj⟩ := List.getElem?_of_mem hp
  have h1 := h.2.2.2.1 j p hj
  have h2 := RB_lin h hj
  have h3 := (h.2.2.2.2.2.2.1 p hp).1.1
  rcases hn with hn | hn
  · omega
  · exact hn _ h2.1 h2.2 (by rw [h1.1, hx])
/-- one slot is out of the line, and holds p -/
def RBo (b : zBS) (pC : List zPn) (pO : List Int) (ev x : Int) (p : zPn) : Prop := BOK b ∧ bd_sz b = (pC.length : Int) ∧ bd_sf b = ev ∧ (∀ (j : Nat) (q : zPn), pC[j]? = some q → slotHas b (bd_lin b (j : Int)) q) ∧ (∀ i j : Int, 0 ≤ i → i < bd_sz b → 0 ≤ j → j < bd_sz b → bd_lin b i = bd_lin b j → i = j) ∧ ((0 ≤ x ∧ x < 10) ∧ slotHas b x p ∧ ∀ j : Int, 0 ≤ j → j < bd_sz b → bd_lin b j ≠ x) ∧ (∀ y : Int, 0 ≤ y → y < 10 → y ≠ x → (∀ j : Int, 0 ≤ j → j < bd_sz b → bd_lin b j ≠ y) → bd_num b y = -1) ∧ (∀ q ∈ pC, pnOK q ∧ q.1 < ev) ∧ (pC.map Prod.fst).Nodup ∧ (pnOK p ∧ p.1 < ev ∧ ∀ q ∈ pC, q.1 ≠ p.1) ∧ (∀ s : Int, 0 ≤ s → s < 5 → bd_plc b s = (pO.idxOf s : Int)) ∧ pO.Perm [0, 1, 2, 3, 4]
theorem RB_takeOut {b : zBS} {pC : List zPn} {pO : List Int} {ev : Int} (h : RB b pC pO ev) {j : Nat} {p : zPn} (hp : pC[j]? = some p) : RBo (takeOutB b (j : Int)) (pC.eraseIdx j) pO ev (bd_lin b (j : Int)) p := by
  obtain ⟨hl, hpe⟩ := List.getElem?_eq_some_iff.mp hp
  have hlin := RB_lin h hp
  obtain ⟨⟨k1, k2, k3, k4⟩, h2, h3, h4, h5, h6, h7, h8, h9, h10⟩ := h
  have hsz : bd_sz (takeOutB b (j : Int)) = bd_sz b - 1 := rfl
  have hln : ∀ i, bd_lin (takeOutB b (j : Int)) i = if (j : Int) ≤ i ∧ i + 1 < bd_sz b then bd_lin b (i + 1) else bd_lin b i := fun i => rfl
  have hlen : (pC.eraseIdx j).length = pC.length - 1 := List.length_eraseIdx_of_lt hl
  have hln2 : ∀ i, 0 ≤ i → i < bd_sz b - 1 → bd_lin (takeOutB b (j : Int)) i = if i < (j : Int) then bd_lin b i else bd_lin b (i + 1) := by
    intro i i1 i2
    rw [hln]
    by_cases c : i < (j : Int)
    · rw [if_pos c, if_neg (by omega)]
    · rw [if_neg c, if_pos (by omega)]
  refine ⟨⟨by omega, k2, fun k a1 a2 => ?_, k4⟩, by omega, h3, fun i q hq => ?_, fun i i' a1 a2 a3 a4 he => ?_, ⟨hlin, h4 j p hp, fun i a1 a2 => ?_⟩, fun y y1 y2 y3 y4 => ?_, fun q hq => h7 q (List.mem_of_mem_eraseIdx hq), ?_, ⟨(h7 p (List.mem_of_getElem? hp)).1, (h7 p (List.mem_of_getElem? hp)).2, ?_⟩, h9, h10⟩
  · rw [hln2 k a1 (by omega)]
    split
    · exact k3 k a1 (by omega)
    · exact k3 (k + 1) (by omega) (by omega)
  · rw [List.getElem?_eraseIdx] at hq
    have hi : i < (pC.eraseIdx j).length := by
      rw [hlen]
      split at hq
      · omega
      · have := (List.getElem?_eq_some_iff.mp hq).1; omega
    rw [hln2 i (by omega) (by omega)]
    split at hq
    · rw [if_pos (by omega)]; exact h4 i q hq
    · rw [if_neg (by omega)]
      have h11 := h4 (i + 1) q hq
      rw [show ((i + 1 : Nat) : Int) = (i : Int) + 1 by omega] at h11
      exact h11
  · rw [hln2 i a1 (by omega), hln2 i' a3 (by omega)] at he
    split at he <;> split at he
    · exact h5 i i' (by omega) (by omega) (by omega) (by omega) he
    · have := h5 i (i' + 1) (by omega) (by omega) (by omega) (by omega) he; omega
    · have := h5 (i + 1) i' (by omega) (by omega) (by omega) (by omega) he; omega
    · have := h5 (i + 1) (i' + 1) (by omega) (by omega) (by omega) (by omega) he; omega
  · rw [hln2 i a1 (by omega)]
    split
    · intro hc
      have := h5 i j (by omega) (by omega) (by omega) (by omega) hc; omega
    · intro hc
      have := h5 (i + 1) j (by omega) (by omega) (by omega) (by omega) hc; omega
  · refine h6 y y1 y2 (fun i i1 i2 hc => ?_)
    rcases Int.lt_trichotomy i (j : Int) with c | c | c
    · exact y4 i i1 (by omega) (by rw [hln2 i i1 (by omega), if_pos c]; exact hc)
    · exact y3 (by rw [← hc, c])
    · refine y4 (i - 1) (by omega) (by omega) ?_
      rw [hln2 (i - 1) (by omega) (by omega), if_neg (by omega), show i - 1 + 1 = i by omega]
      exact hc
  · exact ((List.eraseIdx_sublist pC j).map Prod.fst).nodup h8
  · intro q hq hqe
    rw [List.nodup_iff_pairwise_ne, List.pairwise_iff_getElem] at h8
    obtain ⟨i, hi, hiq⟩ := List.getElem_of_mem hq
    have hi2 : (pC.eraseIdx j)[i]? = some q := by rw [List.getElem?_eq_getElem hi, hiq]
    rw [List.getElem?_eraseIdx] at hi2
    split at hi2
    · obtain ⟨b1, b2⟩ := List.getElem?_eq_some_iff.mp hi2
      have := h8 i j (by simpa using b1) (by simpa using hl) (by assumption)
      simp only [List.getElem_map, b2, hpe] at this
      exact this hqe
    · obtain ⟨b1, b2⟩ := List.getElem?_eq_some_iff.mp hi2
      have := h8 j (i + 1) (by simpa using hl) (by simpa using b1) (by omega)
      simp only [List.getElem_map, b2, hpe] at this
      exact this hqe.symm
def insC (pC : List zPn) (k : Int) (q : zPn) : List zPn := pC.take k.toNat ++ q :: pC.drop k.toNat
theorem insC_get (pC : List zPn) {k : Int} (q : zPn) (hk : 0 ≤ k ∧ k ≤ (pC.length : Int)) (j : Nat) : (insC pC k q)[j]? = if (j : Int) < k then pC[j]? else if (j : Int) = k then some q else pC[j - 1]? := by
  unfold insC
  by_cases c : (j : Int) < k
  · rw [if_pos c, List.getElem?_append_left (by rw [List.length_take]; omega), List.getElem?_take, if_pos (by omega)]
  · rw [if_neg c, List.getElem?_append_right (by rw [List.length_take]; omega), List.length_take]
    by_cases d : (j : Int) = k
    · rw [if_pos d, show j - min k.toNat pC.length = 0 by omega]; rfl
    · rw [if_neg d]
      obtain ⟨t, ht⟩ : ∃ t, j - min k.toNat pC.length = t + 1 := ⟨j - min k.toNat pC.length - 1, by omega⟩
      rw [ht, List.getElem?_cons_succ, List.getElem?_drop]
      congr 1; omega
theorem insC_len (pC : List zPn) {k : Int} (q : zPn) (hk : 0 ≤ k ∧ k ≤ (pC.length : Int)) : (insC pC k q).length = pC.length + 1 := by
  unfold insC
  rw [List.length_append, List.length_cons, List.length_take, List.length_drop]; omega
theorem insC_perm (pC : List zPn) (k : Int) (q : zPn) : (insC pC k q).Perm (q :: pC) := by
  unfold insC
  refine List.perm_middle.trans ?_
  rw [List.take_append_drop]
def reS (p : zPn) (s : Int) : zPn := (p.1, s, p.2.2)
theorem RBo_putIn {b : zBS} {pC : List zPn} {pO : List Int} {ev x : Int} {p : zPn} (h : RBo b pC pO ev x p) {s k : Int} (hs : 0 ≤ s ∧ s < 5) (hk : 0 ≤ k ∧ k ≤ (pC.length : Int)) (hl : pC.length < 10) : RB (putInB b x s k) (insC pC k (reS p s)) pO ev := by
  obtain ⟨⟨k1, k2, k3, k4, k5, k6⟩, h2, h3, h4, h5, ⟨hx, hxp, hxl⟩, h6, h7, h8, ⟨hp1, hp2, hp3⟩, h9, h10⟩ := h
  have hsz : bd_sz (putInB b x s k) = bd_sz b + 1 := rfl
  have hln : ∀ i, bd_lin (putInB b x s k) i = if i = k then x else if k < i ∧ i ≤ bd_sz b then bd_lin b (i - 1) else bd_lin b i := fun i => rfl
  have hscn : ∀ i, bd_scn (putInB b x s k) i = if i = x then s else bd_scn b i := fun i => rfl
  have hln2 : ∀ i, 0 ≤ i → i < bd_sz b + 1 → bd_lin (putInB b x s k) i = if i < k then bd_lin b i else if i = k then x else bd_lin b (i - 1) := by
    intro i i1 i2
    rw [hln]
    rcases Int.lt_trichotomy i k with c | c | c
    · rw [if_neg (by omega), if_neg (by omega), if_pos c]
    · rw [if_pos c, if_neg (by omega), if_pos c]
    · rw [if_neg (by omega), if_pos (by omega), if_neg (by omega), if_neg (by omega)]
  have hsl : ∀ {y : Int} {q : zPn}, y ≠ x → slotHas b y q → slotHas (putInB b x s k) y q := by
    intro y q hy hq
    refine ⟨hq.1, ?_, hq.2.2.1, hq.2.2.2.1, hq.2.2.2.2⟩
    rw [hscn, if_neg hy]; exact hq.2.1
  refine ⟨⟨by omega, k2, fun i a1 a2 => ?_, k4, fun i a1 a2 => ?_, k6⟩, ?_, h3, fun j q hq => ?_, fun i i' a1 a2 a3 a4 he => ?_, fun y y1 y2 y3 => ?_, fun q hq => ?_, ?_, h9, h10⟩
  · rw [hln2 i a1 (by omega)]
    split
    · exact k3 i a1 (by omega)
    · split
      · exact hx
      · exact k3 (i - 1) (by omega) (by omega)
  · rw [hscn]
    split
    · exact hs
    · exact k5 i a1 a2
  · rw [insC_len pC _ hk]; omega
  · rw [insC_get pC _ hk] at hq
    have hj : (j : Int) < bd_sz b + 1 := by
      split at hq
      · have := (List.getElem?_eq_some_iff.mp hq).1; omega
      · split at hq
        · omega
        · have := (List.getElem?_eq_some_iff.mp hq).1; omega
    rw [hln2 j (by omega) hj]
    split at hq
    · rename_i c
      rw [if_pos c]
      have hjl := (List.getElem?_eq_some_iff.mp hq).1
      exact hsl (hxl j (by omega) (by omega)) (h4 j q hq)
    · rename_i c
      rw [if_neg c]
      split at hq
      · rename_i d
        rw [if_pos d]
        cases hq
        refine ⟨hxp.1, ?_, hxp.2.2.1, hxp.2.2.2.1, hxp.2.2.2.2⟩
        rw [hscn, if_pos rfl]; rfl
      · rename_i d
        rw [if_neg d]
        have hjl := (List.getElem?_eq_some_iff.mp hq).1
        have h11 := h4 (j - 1) q hq
        rw [show ((j - 1 : Nat) : Int) = (j : Int) - 1 by omega] at h11
        exact hsl (hxl _ (by omega) (by omega)) h11
  · rw [hln2 i a1 (by omega), hln2 i' a3 (by omega)] at he
    have e1 : ∀ t, 0 ≤ t → t < bd_sz b → bd_lin b t ≠ x := hxl
    split at he
    · split at he
      · exact h5 i i' (by omega) (by omega) (by omega) (by omega) he
      · split at he
        · exact absurd he (e1 i (by omega) (by omega))
        · have := h5 i (i' - 1) (by omega) (by omega) (by omega) (by omega) he; omega
    · split at he
      · split at he
        · exact absurd he.symm (e1 i' (by omega) (by omega))
        · split at he
          · omega
          · exact absurd he.symm (e1 (i' - 1) (by omega) (by omega))
      · split at he
        · have := h5 (i - 1) i' (by omega) (by omega) (by omega) (by omega) he; omega
        · split at he
          · exact absurd he (e1 (i - 1) (by omega) (by omega))
          · have := h5 (i - 1) (i' - 1) (by omega) (by omega) (by omega) (by omega) he; omega
  · have hyx : y ≠ x := fun hc => y3 k hk.1 (by omega) (by rw [hln2 k hk.1 (by omega), if_neg (by omega), if_pos rfl, hc])
    refine h6 y y1 y2 hyx (fun j j1 j2 hc => ?_)
    by_cases c : j < k
    · exact y3 j j1 (by omega) (by rw [hln2 j j1 (by omega), if_pos c]; exact hc)
    · refine y3 (j + 1) (by omega) (by omega) ?_
      rw [hln2 (j + 1) (by omega) (by omega), if_neg (by omega), if_neg (by omega), show j + 1 - 1 = j by omega]
      exact hc
  · rcases List.mem_cons.mp ((insC_perm pC k (reS p s)).mem_iff.mp hq) with hq | hq
    · rw [hq]; exact ⟨⟨hp1.1, hs, hp1.2.2⟩, hp2⟩
    · exact h7 q hq
  · refine (((insC_perm pC k (reS p s)).map Prod.fst).nodup_iff).mpr ?_
    rw [List.map_cons, List.nodup_cons]
    refine ⟨fun hc => ?_, h8⟩
    obtain ⟨q, hq, hqe⟩ := List.mem_map.mp hc
    exact hp3 q hq hqe
