/-! the model's rows -/
theorem zcmp_rg (x y : Int) : (-1 ≤ zcmp x y ∧ zcmp x y ≤ 1) ∧ (zcmp x y < 0 ↔ x < y) ∧ (0 < zcmp x y ↔ y < x) := by
  unfold zcmp
  split
  · omega
  · split <;> omega
abbrev fL (al : Int → Int) (k w : Int) : Int := al (7 + 22 * k + w)
def rowO (o : Int → Int) (p : zPn) : Prop := o 0 = p.1 ∧ o 1 = p.2.1 ∧ o 2 = p.2.2.1 ∧ o 3 = (p.2.2.2.length : Int) ∧ ∀ (j : Nat) (v : zEv), p.2.2.2[j]? = some v → o (4 + 3 * (j : Int) + 0) = v.1 ∧ o (4 + 3 * (j : Int) + 1) = v.2.1 ∧ o (4 + 3 * (j : Int) + 2) = v.2.2
def rowH (al : Int → Int) (k : Int) (p : zPn) : Prop := rowO (fun w => fL al k w) p
def RMb (al : Int → Int) (L : List zPn) (O : List Int) (ev n : Int) : Prop := al 0 = ev ∧ al 1 = (L.length : Int) ∧ L.length ≤ 10 ∧ (0 ≤ ev ∧ ev ≤ 99) ∧ (∀ (j : Nat) (s : Int), O[j]? = some s → al (2 + (j : Int)) = s) ∧ (∀ (k : Nat) (p : zPn), L[k]? = some p → rowH al (k : Int) p) ∧ (∀ p ∈ L, pnOK p ∧ p.1 < n) ∧ (L.map Prod.fst).Nodup ∧ O.Perm [0, 1, 2, 3, 4]
abbrev RM (al : Int → Int) (L : List zPn) (O : List Int) (ev : Int) : Prop := RMb al L O ev ev
theorem rowO_cg {o o2 : Int → Int} {p : zPn} (hl : p.2.2.2.length ≤ 6) (h : rowO o p) (he : ∀ w, 0 ≤ w → w < 22 → o2 w = o w) : rowO o2 p := by
  refine ⟨(he 0 (by omega) (by omega)).trans h.1, (he 1 (by omega) (by omega)).trans h.2.1, (he 2 (by omega) (by omega)).trans h.2.2.1, (he 3 (by omega) (by omega)).trans h.2.2.2.1, fun j v hv => ?_⟩
  have hj := (List.getElem?_eq_some_iff.mp hv).1
  have h5 := h.2.2.2.2 j v hv
  exact ⟨(he _ (by omega) (by omega)).trans h5.1, (he _ (by omega) (by omega)).trans h5.2.1, (he _ (by omega) (by omega)).trans h5.2.2⟩
theorem rowH_cg {al al2 : Int → Int} {k k2 : Int} {p : zPn} (hl : p.2.2.2.length ≤ 6) (h : rowH al k p) (he : ∀ w, 0 ≤ w → w < 22 → fL al2 k2 w = fL al k w) : rowH al2 k2 p := rowO_cg hl h he
theorem RM_cg {al al2 : Int → Int} {L : List zPn} {O : List Int} {ev n : Int} (h : RMb al L O ev n) (he : ∀ j, 0 ≤ j → j < 227 → al2 j = al j) : RMb al2 L O ev n := by
  obtain ⟨h1, h2, h3, h4, h5, h6, h7, h8, h9⟩ := h
  refine ⟨(he 0 (by omega) (by omega)).trans h1, (he 1 (by omega) (by omega)).trans h2, h3, h4, fun j s hs => ?_, fun k p hp => ?_, h7, h8, h9⟩
  · have hj := (List.getElem?_eq_some_iff.mp hs).1
    have := h9.length_eq
    simp only [List.length_cons, List.length_nil] at this
    exact (he _ (by omega) (by omega)).trans (h5 j s hs)
  · have hk := (List.getElem?_eq_some_iff.mp hp).1
    exact rowH_cg (h7 p (List.mem_of_getElem? hp)).1.2.2.2.1 (h6 k p hp) (fun w w1 w2 => he _ (by omega) (by omega))
theorem RM_cp {al x : Int → Int} {L : List zPn} {O : List Int} {ev : Int} (h : RM al L O ev) : RM (cpF al x 227) L O ev := RM_cg h (fun j j1 j2 => if_pos ⟨j1, j2⟩)
theorem RM_k {al : Int → Int} {L : List zPn} {O : List Int} {ev n : Int} (h : RMb al L O ev n) {k : Int} (hk : 0 ≤ k ∧ k < (L.length : Int)) : ∃ p : zPn, L[k.toNat]? = some p ∧ rowH al k p ∧ pnOK p ∧ p.1 < n := by
  have hl : k.toNat < L.length := by omega
  refine ⟨L[k.toNat], List.getElem?_eq_getElem hl, ?_, h.2.2.2.2.2.2.1 _ (List.getElem_mem hl)⟩
  have := h.2.2.2.2.2.1 k.toNat _ (List.getElem?_eq_getElem hl)
  rw [show ((k.toNat : Nat) : Int) = k by omega] at this
  exact this
theorem RM_nd {al : Int → Int} {L : List zPn} {O : List Int} {ev n : Int} (h : RMb al L O ev n) : O.Nodup := h.2.2.2.2.2.2.2.2.nodup_iff.mpr (by decide)
theorem RM_inO {al : Int → Int} {L : List zPn} {O : List Int} {ev n : Int} (h : RMb al L O ev n) {s : Int} : s ∈ O ↔ 0 ≤ s ∧ s < 5 := by
  rw [h.2.2.2.2.2.2.2.2.mem_iff]
  simp only [List.mem_cons, List.not_mem_nil, or_false]
  omega
theorem RM_mem {al : Int → Int} {L : List zPn} {O : List Int} {ev n : Int} (h : RMb al L O ev n) : ∀ p ∈ L, p.2.1 ∈ O := fun p hp => (RM_inO h).mpr (h.2.2.2.2.2.2.1 p hp).1.2.1
theorem RM_Ol {al : Int → Int} {L : List zPn} {O : List Int} {ev n : Int} (h : RMb al L O ev n) : O.length = 5 := h.2.2.2.2.2.2.2.2.length_eq
theorem RM_idx {al : Int → Int} {L : List zPn} {O : List Int} {ev n : Int} (h : RMb al L O ev n) {s : Int} (hs : 0 ≤ s ∧ s < 5) : (O.idxOf s : Int) < 5 ∧ O[O.idxOf s]? = some s ∧ al (2 + (O.idxOf s : Int)) = s := by
  have hm := (RM_inO h).mpr hs
  have h1 := List.idxOf_lt_length_iff.mpr hm
  have h2 := idx_get hm
  rw [RM_Ol h] at h1
  exact ⟨by omega, h2, h.2.2.2.2.1 _ _ h2⟩
theorem RM_Ok {al : Int → Int} {L : List zPn} {O : List Int} {ev n : Int} (h : RMb al L O ev n) {k : Int} (hk : 0 ≤ k ∧ k < 5) : ∃ s : Int, O[k.toNat]? = some s ∧ al (2 + k) = s ∧ (0 ≤ s ∧ s < 5) ∧ (O.idxOf s : Int) = k := by
  have hl : k.toNat < O.length := by rw [RM_Ol h]; omega
  have h1 := List.getElem?_eq_getElem hl
  have h2 := h.2.2.2.2.1 _ _ h1
  have h3 := idx_of (RM_nd h) h1
  refine ⟨O[k.toNat], h1, ?_, (RM_inO h).mp (List.getElem_mem hl), by omega⟩
  rw [show ((k.toNat : Nat) : Int) = k by omega] at h2
  exact h2
/-! the state of the model: its rows in some order -/
def MR (al : Int → Int) (S : zSt) : Prop := ∃ L : List zPn, RM al L S.2.1 S.2.2 ∧ S.1 = ordC L S.2.1
theorem MR_cg {al al2 : Int → Int} {S : zSt} (h : MR al S) (he : ∀ j, 0 ≤ j → j < 227 → al2 j = al j) : MR al2 S := by
  obtain ⟨L, h1, h2⟩ := h
  exact ⟨L, RM_cg h1 he, h2⟩
theorem RM_MR {al : Int → Int} {L : List zPn} {O : List Int} {ev : Int} (h : RM al L O ev) : MR al (ordC L O, O, ev) := ⟨L, h, rfl⟩
def MH (hl : Int) (his : Int → Int) (hs : List zSt) : Prop := hl = (hs.length : Int) ∧ hs.length ≤ 4 ∧ ∀ (k : Nat) (S : zSt), hs[k]? = some S → MR (fun j => his (227 * (k : Int) + j)) S
theorem rowH_ev {al : Int → Int} {k e : Int} {p : zPn} {v : zEv} (h : rowH al k p) (he : 0 ≤ e) (hv : p.2.2.2[e.toNat]? = some v) : al (7 + 22 * k + (4 + 3 * e + 0)) = v.1 ∧ al (7 + 22 * k + (4 + 3 * e + 1)) = v.2.1 ∧ al (7 + 22 * k + (4 + 3 * e + 2)) = v.2.2 := by
  have := h.2.2.2.2 e.toNat v hv
  rw [show ((e.toNat : Nat) : Int) = e by omega] at this
  exact this
theorem evK {p : zPn} {e : Int} (h : 0 ≤ e ∧ e < (p.2.2.2.length : Int)) (hp : pnOK p) : ∃ v : zEv, p.2.2.2[e.toNat]? = some v ∧ evOK v := by
  have hl : e.toNat < p.2.2.2.length := by omega
  exact ⟨_, List.getElem?_eq_getElem hl, hp.2.2.2.2 _ (List.getElem_mem hl)⟩
/-! one row taken out, one put in -/
def shD (f : Int → Int) (lo i : Int) : Int → Int := fun j => if lo ≤ j ∧ j < i then f (j + 22) else f j
theorem shD_0 (f : Int → Int) (lo : Int) : shD f lo lo = f := by
  funext j
  unfold shD
  rw [if_neg (by omega)]
theorem shD_s (f : Int → Int) {lo i : Int} (h : lo ≤ i) : zU (shD f lo i) i (shD f lo i (i + 22)) = shD f lo (i + 1) := by
  funext j
  unfold zU shD
  by_cases hj : j = i
  · rw [if_pos hj, if_neg (by omega), if_pos (by omega), hj]
  · rw [if_neg hj]
    by_cases h2 : lo ≤ j ∧ j < i
    · rw [if_pos h2, if_pos (by omega)]
    · rw [if_neg h2, if_neg (by omega)]
theorem RM_out {al al2 : Int → Int} {L : List zPn} {O : List Int} {ev n : Int} (h : RMb al L O ev n) {k : Nat} {p : zPn} (hp : L[k]? = some p) (e0 : al2 1 = (L.length : Int) - 1) (e1 : ∀ j, 0 ≤ j → j < 7 → j ≠ 1 → al2 j = al j) (e2 : ∀ j, 7 ≤ j → j < 7 + 22 * (k : Int) → al2 j = al j) (e3 : ∀ j, 7 + 22 * (k : Int) ≤ j → j < 7 + 22 * ((L.length : Int) - 1) → al2 j = al (j + 22)) : RMb al2 (L.eraseIdx k) O ev n := by
  have hk := (List.getElem?_eq_some_iff.mp hp).1
  have hO := RM_Ol h
  obtain ⟨h1, h2, h3, h4, h5, h6, h7, h8, h9⟩ := h
  have hl : (L.eraseIdx k).length = L.length - 1 := List.length_eraseIdx_of_lt hk
  refine ⟨(e1 0 (by omega) (by omega) (by omega)).trans h1, by rw [e0, hl]; omega, by omega, h4, fun j s hs => ?_, fun i q hq => ?_, fun q hq => h7 q (List.mem_of_mem_eraseIdx hq), ?_, h9⟩
  · have hj := (List.getElem?_eq_some_iff.mp hs).1
    exact (e1 _ (by omega) (by omega) (by omega)).trans (h5 j s hs)
  · have hi := (List.getElem?_eq_some_iff.mp hq).1
    have hqo := (h7 q (List.mem_of_mem_eraseIdx (List.mem_of_getElem? hq))).1.2.2.2.1
    rw [List.getElem?_eraseIdx] at hq
    split at hq
    · exact rowH_cg hqo (h6 i q hq) (fun w w1 w2 => e2 _ (by omega) (by omega))
    · refine rowH_cg hqo (h6 (i + 1) q hq) (fun w w1 w2 => (e3 _ (by omega) (by omega)).trans ?_)
      congr 1; omega
  · exact h8.sublist ((List.eraseIdx_sublist L k).map _)
def shU (f : Int → Int) (i h : Int) : Int → Int := fun j => if i + 22 < j ∧ j < h + 22 then f (j - 22) else f j
theorem shU_0 (f : Int → Int) {i h : Int} (he : h = i + 1) : shU f i h = f := by
  funext j
  unfold shU
  rw [if_neg (by omega)]
theorem shU_s (f : Int → Int) {i h : Int} (hi : i < h) : zU (shU f i h) (i + 22) (shU f i h i) = shU f (i + (-1)) h := by
  funext j
  unfold zU shU
  by_cases hj : j = i + 22
  · rw [if_pos hj, if_neg (by omega), if_pos (by omega), hj]; congr 1; omega
  · rw [if_neg hj]
    by_cases h2 : i + 22 < j ∧ j < h + 22
    · rw [if_pos h2, if_pos (by omega)]
    · rw [if_neg h2, if_neg (by omega)]
def plF (f : Int → Int) (lo : Int) (o : Int → Int) (i : Int) : Int → Int := fun j => if lo ≤ j ∧ j < lo + i then o (j - lo) else f j
theorem plF_0 (f : Int → Int) (lo : Int) (o : Int → Int) : plF f lo o 0 = f := by
  funext j
  unfold plF
  rw [if_neg (by omega)]
theorem plF_s (f : Int → Int) (lo : Int) (o : Int → Int) {i : Int} (hi : 0 ≤ i) : zU (plF f lo o i) (lo + i) (o i) = plF f lo o (i + 1) := by
  funext j
  unfold zU plF
  by_cases hj : j = lo + i
  · rw [if_pos hj, if_pos (by omega), hj]; congr 1; omega
  · rw [if_neg hj]
    by_cases h2 : lo ≤ j ∧ j < lo + i
    · rw [if_pos h2, if_pos (by omega)]
    · rw [if_neg h2, if_neg (by omega)]
theorem RM_in {al al2 : Int → Int} {L : List zPn} {O : List Int} {ev n x : Int} {p : zPn} {o : Int → Int} (h : RMb al L O ev n) (hx : 0 ≤ x ∧ x ≤ (L.length : Int)) (hlen : L.length < 10) (ho : rowO o p) (hok : pnOK p ∧ p.1 < n) (hnew : ∀ q ∈ L, q.1 ≠ p.1) (e0 : al2 1 = (L.length : Int) + 1) (e1 : ∀ j, 0 ≤ j → j < 7 → j ≠ 1 → al2 j = al j) (e2 : ∀ j, 7 ≤ j → j < 7 + 22 * x → al2 j = al j) (e3 : ∀ w, 0 ≤ w → w < 22 → al2 (7 + 22 * x + w) = o w) (e4 : ∀ j, 7 + 22 * x ≤ j → j < 7 + 22 * (L.length : Int) → al2 (j + 22) = al j) : RMb al2 (insC L x p) O ev n := by
  have hO := RM_Ol h
  obtain ⟨h1, h2, h3, h4, h5, h6, h7, h8, h9⟩ := h
  have hl := insC_len L p hx
  have hpm := insC_perm L x p
  refine ⟨(e1 0 (by omega) (by omega) (by omega)).trans h1, by rw [e0, hl]; omega, by omega, h4, fun j s hs => ?_, fun i q hq => ?_, fun q hq => ?_, ?_, h9⟩
  · have hj := (List.getElem?_eq_some_iff.mp hs).1
    exact (e1 _ (by omega) (by omega) (by omega)).trans (h5 j s hs)
  · have hi := (List.getElem?_eq_some_iff.mp hq).1
    rw [insC_get L p hx] at hq
    split at hq
    · have hqo := (h7 q (List.mem_of_getElem? hq)).1.2.2.2.1
      exact rowH_cg hqo (h6 i q hq) (fun w w1 w2 => e2 _ (by omega) (by omega))
    · split at hq
      · rename_i hi2
        have hqp : p = q := Option.some.inj hq
        rw [← hqp, hi2]
        exact rowO_cg hok.1.2.2.2.1 ho e3
      · have hqo := (h7 q (List.mem_of_getElem? hq)).1.2.2.2.1
        have hi3 := (List.getElem?_eq_some_iff.mp hq).1
        refine rowH_cg hqo (h6 (i - 1) q hq) (fun w w1 w2 => ?_)
        show al2 _ = al _
        rw [show 7 + 22 * (i : Int) + w = (7 + 22 * ((i - 1 : Nat) : Int) + w) + 22 by omega]
        exact e4 _ (by omega) (by omega)
  · rcases List.mem_cons.mp (hpm.mem_iff.mp hq) with hq | hq
    · rw [hq]; exact hok
    · exact h7 q hq
  · rw [(hpm.map Prod.fst).nodup_iff, List.map_cons, List.nodup_cons]
    refine ⟨fun hc => ?_, h8⟩
    obtain ⟨q, hq, hqe⟩ := List.mem_map.mp hc
    exact hnew q hq hqe
theorem RM_set {al al2 : Int → Int} {L : List zPn} {O : List Int} {ev n d : Int} {k : Nat} {p : zPn} (h : RMb al L O ev n) (hp : L[k]? = some p) (hd : 1 ≤ d ∧ d ≤ 99) (e : al2 = zU al (7 + 22 * (k : Int) + 2) d) : RMb al2 (L.set k (p.1, p.2.1, d, p.2.2.2)) O ev n := by
  have hO := RM_Ol h
  obtain ⟨h1, h2, h3, h4, h5, h6, h7, h8, h9⟩ := h
  have hk := (List.getElem?_eq_some_iff.mp hp).1
  have hpo := h7 p (List.mem_of_getElem? hp)
  subst e
  refine ⟨(zU_n _ _ (by omega)).trans h1, by rw [zU_n _ _ (by omega), h2, List.length_set], by rw [List.length_set]; exact h3, h4, fun j s hs => ?_, fun i q hq => ?_, fun q hq => ?_, ?_, h9⟩
  · have hj := (List.getElem?_eq_some_iff.mp hs).1
    exact (zU_n _ _ (by omega)).trans (h5 j s hs)
  · rw [List.getElem?_set] at hq
    split at hq
    · rename_i hki
      have hq := (Option.some.inj hq).symm
      subst hq; subst hki
      have h10 := h6 k p hp
      refine ⟨(zU_n _ _ (by omega)).trans h10.1, (zU_n _ _ (by omega)).trans h10.2.1, zU_s _ _ _, (zU_n _ _ (by omega)).trans h10.2.2.2.1, fun j v hv => ?_⟩
      have h11 := h10.2.2.2.2 j v hv
      exact ⟨(zU_n _ _ (by omega)).trans h11.1, (zU_n _ _ (by omega)).trans h11.2.1, (zU_n _ _ (by omega)).trans h11.2.2⟩
    · have hqo := (h7 q (List.mem_of_getElem? hq)).1.2.2.2.1
      exact rowH_cg hqo (h6 i q hq) (fun w w1 w2 => zU_n _ _ (by omega))
  · rcases List.mem_or_eq_of_mem_set hq with hq | hq
    · exact h7 q hq
    · rw [hq]; exact ⟨⟨hpo.1.1, hpo.1.2.1, hd, hpo.1.2.2.2⟩, hpo.2⟩
  · rw [List.map_set]
    have e2 : (L.map Prod.fst).set k p.1 = L.map Prod.fst := by
      have h10 : (L.map Prod.fst)[k]? = some p.1 := by rw [List.getElem?_map, hp]; rfl
      obtain ⟨h11, h12⟩ := List.getElem?_eq_some_iff.mp h10
      conv => lhs; rw [← h12]
      exact List.set_getElem_self h11
    rw [e2]; exact h8
theorem RM_ev {al : Int → Int} {L : List zPn} {O : List Int} {ev n : Int} (h : RMb al L O ev n) (hn : 0 ≤ n ∧ n ≤ 99) : RM (zU al 0 n) L O n := by
  obtain ⟨h1, h2, h3, h4, h5, h6, h7, h8, h9⟩ := h
  refine ⟨zU_s _ _ _, (zU_n _ _ (by omega)).trans h2, h3, hn, fun j s hs => (zU_n _ _ (by omega)).trans (h5 j s hs), fun k p hp => ?_, h7, h8, h9⟩
  exact rowH_cg (h7 p (List.mem_of_getElem? hp)).1.2.2.2.1 (h6 k p hp) (fun w w1 w2 => zU_n _ _ (by omega))
theorem RM_up {al : Int → Int} {L : List zPn} {O : List Int} {ev n n2 : Int} (h : RMb al L O ev n) (hn : n ≤ n2) : RMb al L O ev n2 := by
  obtain ⟨h1, h2, h3, h4, h5, h6, h7, h8, h9⟩ := h
  exact ⟨h1, h2, h3, h4, h5, h6, fun p hp => ⟨(h7 p hp).1, by have := (h7 p hp).2; omega⟩, h8, h9⟩
/-! the history -/
theorem MH_push {hl : Int} {his his2 kept : Int → Int} {hs : List zSt} {S : zSt} (h : MH hl his hs) (hk : MR kept S) (h4 : hl < 4) (e : ∀ j, 0 ≤ j → j < 227 * hl → his2 j = his j) (e2 : ∀ j, 0 ≤ j → j < 227 → his2 (227 * hl + j) = kept j) : MH (hl + 1) his2 (pushH hs S) := by
  obtain ⟨h1, h2, h3⟩ := h
  unfold pushH
  rw [if_neg (by omega)]
  refine ⟨by rw [List.length_append, List.length_singleton]; omega, by rw [List.length_append, List.length_singleton]; omega, fun k T hT => ?_⟩
  by_cases hc : k < hs.length
  · rw [List.getElem?_append_left hc] at hT
    exact MR_cg (h3 k T hT) (fun j j1 j2 => e _ (by omega) (by omega))
  · have hk2 := (List.getElem?_eq_some_iff.mp hT).1
    rw [List.length_append, List.length_singleton] at hk2
    rw [List.getElem?_append_right (by omega), show k - hs.length = 0 by omega] at hT
    have hq := (Option.some.inj hT).symm
    subst hq
    refine MR_cg hk (fun j j1 j2 => ?_)
    show his2 (227 * (k : Int) + j) = _
    rw [show (k : Int) = hl by omega]
    exact e2 j j1 j2
theorem MH_full {his his2 kept : Int → Int} {hs : List zSt} {S : zSt} (h : MH 4 his hs) (hk : MR kept S) (e : ∀ j, 0 ≤ j → j < 681 → his2 j = his (j + 227)) (e2 : ∀ j, 0 ≤ j → j < 227 → his2 (681 + j) = kept j) : MH 4 his2 (pushH hs S) := by
  obtain ⟨h1, h2, h3⟩ := h
  unfold pushH
  rw [if_pos (by omega)]
  refine ⟨by rw [List.length_append, List.length_tail, List.length_singleton]; omega, by rw [List.length_append, List.length_tail, List.length_singleton]; omega, fun k T hT => ?_⟩
  by_cases hc : k < hs.tail.length
  · rw [List.getElem?_append_left hc, List.getElem?_tail] at hT
    rw [List.length_tail] at hc
    refine MR_cg (h3 (k + 1) T hT) (fun j j1 j2 => ?_)
    show his2 (227 * (k : Int) + j) = his _
    rw [e _ (by omega) (by omega)]
    congr 1; omega
  · have hk2 := (List.getElem?_eq_some_iff.mp hT).1
    rw [List.length_append, List.length_singleton] at hk2
    rw [List.length_tail] at hk2 hc
    rw [List.getElem?_append_right (by rw [List.length_tail]; omega), List.length_tail, show k - (hs.length - 1) = 0 by omega] at hT
    have hq := (Option.some.inj hT).symm
    subst hq
    refine MR_cg hk (fun j j1 j2 => ?_)
    show his2 (227 * (k : Int) + j) = _
    rw [show 227 * (k : Int) = 681 by omega]
    exact e2 j j1 j2
theorem MH_pop {hl : Int} {his : Int → Int} {hs : List zSt} (h : MH hl his hs) (h0 : 0 < hl) : MH (hl - 1) his hs.dropLast ∧ ∃ S, hs.getLast? = some S ∧ MR (fun j => his (227 * (hl - 1) + j)) S := by
  obtain ⟨h1, h2, h3⟩ := h
  refine ⟨⟨by rw [List.length_dropLast]; omega, by rw [List.length_dropLast]; omega, fun k T hT => ?_⟩, ?_⟩
  · have hk := (List.getElem?_eq_some_iff.mp hT).1
    rw [List.length_dropLast] at hk
    rw [List.getElem?_dropLast, if_pos hk] at hT
    exact h3 k T hT
  · have hl2 : hs.length - 1 < hs.length := by omega
    refine ⟨hs[hs.length - 1], ?_, ?_⟩
    · rw [List.getLast?_eq_getElem?, List.getElem?_eq_getElem hl2]
    · have := h3 (hs.length - 1) _ (List.getElem?_eq_getElem hl2)
      rw [show ((hs.length - 1 : Nat) : Int) = hl - 1 by omega] at this
      exact this
def shH (f : Int → Int) (i : Int) : Int → Int := fun j => if 0 ≤ j ∧ j < i then f (j + 227) else f j
theorem shH_0 (f : Int → Int) : shH f 0 = f := by
  funext j
  unfold shH
  rw [if_neg (by omega)]
theorem shH_s (f : Int → Int) {i : Int} (h : 0 ≤ i) : zU (shH f i) i (shH f i (i + 227)) = shH f (i + 1) := by
  funext j
  unfold zU shH
  by_cases hj : j = i
  · rw [if_pos hj, if_neg (by omega), if_pos (by omega), hj]
  · rw [if_neg hj]
    by_cases h2 : 0 ≤ j ∧ j < i
    · rw [if_pos h2, if_pos (by omega)]
    · rw [if_neg h2, if_neg (by omega)]
theorem inC_take {L : List zPn} {k s : Int} {p : zPn} (hk : 0 ≤ k) (h : L[k.toNat]? = some p) : inC (L.take (k + 1).toNat) s = inC (L.take k.toNat) s + (if p.2.1 = s then 1 else 0) := by
  rw [takeZ hk h]
  unfold inC
  rw [List.countP_append, List.countP_singleton]
  by_cases hc : p.2.1 = s
  · rw [if_pos (scC_iff.mpr hc), if_pos hc]; omega
  · rw [if_neg (fun h => hc (scC_iff.mp h)), if_neg hc]; omega
theorem inC_tk (L : List zPn) (k : Nat) (s : Int) : 0 ≤ inC (L.take k) s ∧ inC (L.take k) s ≤ inC L s ∧ inC (L.take k) s ≤ (k : Int) ∧ inC L s ≤ (L.length : Int) := by
  have h1 : (L.take k).countP (scC s) ≤ L.countP (scC s) := (List.take_sublist k L).countP_le
  have h2 : (L.take k).countP (scC s) ≤ (L.take k).length := List.countP_le_length
  have h3 : L.countP (scC s) ≤ L.length := List.countP_le_length
  rw [List.length_take] at h2
  unfold inC
  omega
