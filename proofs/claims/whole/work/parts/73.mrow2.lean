/-! finding, taking out, putting in -/
def noLt (L : List zPn) (x k : Int) : Prop := ∀ (j : Nat) (q : zPn), L[j]? = some q → (j : Int) < k → q.1 ≠ x
theorem noLt_0 (L : List zPn) (x : Int) : noLt L x 0 := fun j q hq hj => absurd hj (by omega)
theorem noLt_s {L : List zPn} {x k : Int} {q : zPn} (h : noLt L x k) (hk : 0 ≤ k) (hq : L[k.toNat]? = some q) (hn : q.1 ≠ x) : noLt L x (k + 1) := by
  intro i w hw hi
  rcases (show (i : Int) < k ∨ (i : Int) = k by omega) with hc | hc
  · exact h i w hw hc
  · rw [show k.toNat = i by omega, hw] at hq
    rw [Option.some.inj hq]; exact hn
theorem noLt_all {L : List zPn} {x k : Int} (h : noLt L x k) (hk : (L.length : Int) ≤ k) : noP L x := by
  intro q hq
  obtain ⟨i, hi, he⟩ := List.getElem_of_mem hq
  exact h i q (by rw [List.getElem?_eq_getElem hi, he]) (by omega)
theorem noP_ord {al : Int → Int} {L : List zPn} {O : List Int} {ev n : Int} (h : RMb al L O ev n) {x : Int} : noP (ordC L O) x ↔ noP L x := by
  have hp := ordC_perm (RM_nd h) (RM_mem h)
  exact ⟨fun g q hq => g q (hp.mem_iff.mpr hq), fun g q hq => g q (hp.mem_iff.mp hq)⟩
theorem uniqP {L : List zPn} (hn : (L.map Prod.fst).Nodup) {i j : Nat} {p q : zPn} (hp : L[i]? = some p) (hq : L[j]? = some q) (he : p.1 = q.1) : i = j ∧ p = q := by
  have h1 : (L.map Prod.fst)[i]? = some p.1 := by rw [List.getElem?_map, hp]; rfl
  have h2 : (L.map Prod.fst)[j]? = some p.1 := by rw [List.getElem?_map, hq, he]; rfl
  have hij : i = j := by
    obtain ⟨a1, a2⟩ := List.getElem?_eq_some_iff.mp h1
    obtain ⟨b1, b2⟩ := List.getElem?_eq_some_iff.mp h2
    rcases Nat.lt_trichotomy i j with c | c | c
    · exact absurd (a2.trans b2.symm) (List.pairwise_iff_getElem.mp hn i j a1 b1 c)
    · exact c
    · exact absurd (b2.trans a2.symm) (List.pairwise_iff_getElem.mp hn j i b1 a1 c)
  refine ⟨hij, ?_⟩
  rw [hij, hq] at hp
  exact (Option.some.inj hp).symm
theorem ordC_nd {al : Int → Int} {L : List zPn} {O : List Int} {ev n : Int} (h : RMb al L O ev n) : ((ordC L O).map Prod.fst).Nodup := (((ordC_perm (RM_nd h) (RM_mem h)).map Prod.fst).nodup_iff).mpr h.2.2.2.2.2.2.2.1
theorem ordC_ln {al : Int → Int} {L : List zPn} {O : List Int} {ev n : Int} (h : RMb al L O ev n) : (ordC L O).length = L.length := (ordC_perm (RM_nd h) (RM_mem h)).length_eq
/-- what the place among the rows says of the place on the board -/
def lkP (L : List zPn) (O : List Int) (k j : Nat) (p : zPn) : Prop := L[k]? = some p ∧ (ordC L O)[j]? = some p ∧ (j : Int) = ahC (ordC L O) O p.2.1 + inC (L.take k) p.2.1 ∧ ordC (L.eraseIdx k) O = (ordC L O).eraseIdx j ∧ ∀ q : zPn, q.2.1 = p.2.1 → ordC (L.set k q) O = (ordC L O).set j q
theorem lkP_of {al : Int → Int} {L : List zPn} {O : List Int} {ev n : Int} (h : RMb al L O ev n) {k : Nat} {p : zPn} (hp : L[k]? = some p) : ∃ j : Nat, lkP L O k j p := by
  obtain ⟨j, h1, h2, h3, h4⟩ := ordC_pos (RM_nd h) (RM_mem h) hp
  exact ⟨j, hp, h1, h2, h3, h4⟩
theorem lie_j {al : Int → Int} {L : List zPn} {O : List Int} {ev n x r : Int} (h : RMb al L O ev n) (hr : (r = -5 ∧ noP L x) ∨ ∃ (k : Nat) (p : zPn), isP L k p x ∧ r = (k : Int)) {j : Nat} {p : zPn} (hj : isP (ordC L O) j p x) : ∃ k : Nat, lkP L O k j p ∧ r = (k : Int) ∧ p.1 = x := by
  rcases hr with ⟨-, hn⟩ | ⟨k, q, hk, hr⟩
  · exact absurd hj.2 ((noP_ord h).mpr hn p (List.mem_of_getElem? hj.1))
  · obtain ⟨j2, hl⟩ := lkP_of h hk.1
    obtain ⟨rfl, rfl⟩ := uniqP (ordC_nd h) hj.1 hl.2.1 (hj.2.trans hk.2.symm)
    exact ⟨k, hl, hr, hj.2⟩
theorem lie_c {al : Int → Int} {L : List zPn} {O : List Int} {ev n x r : Int} (h : RMb al L O ev n) (hr : (r = -5 ∧ noP L x) ∨ ∃ (k : Nat) (p : zPn), isP L k p x ∧ r = (k : Int)) : (r = -5 ∧ noP (ordC L O) x) ∨ ∃ (k j : Nat) (p : zPn), (lkP L O k j p ∧ p.1 = x) ∧ (k < L.length ∧ r = (k : Int)) ∧ isP (ordC L O) j p x ∧ (pnOK p ∧ p.1 < n) ∧ rowH al (k : Int) p := by
  rcases hr with ⟨h1, hn⟩ | ⟨k, q, hk, hr⟩
  · exact Or.inl ⟨h1, (noP_ord h).mpr hn⟩
  · obtain ⟨j, hl⟩ := lkP_of h hk.1
    exact Or.inr ⟨k, j, q, ⟨hl, hk.2⟩, ⟨(List.getElem?_eq_some_iff.mp hk.1).1, hr⟩, ⟨hl.2.1, hk.2⟩, h.2.2.2.2.2.2.1 q (List.mem_of_getElem? hk.1), h.2.2.2.2.2.1 k q hk.1⟩
theorem RM_outF {al hc : Int → Int} {L : List zPn} {O : List Int} {ev n u lo v : Int} (h : RMb al L O ev n) {k : Nat} {p : zPn} (hp : L[k]? = some p) (e : hc = shD (zU al 1 v) lo u) (hv : v = (L.length : Int) - 1) (hlo : lo = 7 + 22 * (k : Int)) (hu : u = 7 + 22 * ((L.length : Int) - 1)) : RMb hc (L.eraseIdx k) O ev n := by
  subst e
  refine RM_out h hp ?_ (fun j j1 j2 j3 => ?_) (fun j j1 j2 => ?_) (fun j j1 j2 => ?_)
  · unfold shD; rw [if_neg (by omega), zU_s, hv]
  · unfold shD; rw [if_neg (by omega), zU_n _ _ j3]
  · unfold shD; rw [if_neg (by omega), zU_n _ _ (by omega)]
  · unfold shD; rw [if_pos (by omega), zU_n _ _ (by omega)]
theorem RM_inF {al hc hc2 : Int → Int} {L : List zPn} {O : List Int} {ev n x i h9 v y : Int} {p : zPn} {o : Int → Int} (h : RMb al L O ev n) (hx : 0 ≤ x ∧ x ≤ (L.length : Int)) (hlen : L.length < 10) (ho : rowO o p) (hok : pnOK p ∧ p.1 < n) (hnew : ∀ q ∈ L, q.1 ≠ p.1) (e : hc = shU al i h9) (hi : i = 7 + 22 * x - 1) (hh : h9 = 7 + 22 * (L.length : Int)) (e2 : hc2 = plF (zU hc 1 v) (7 + 22 * x) o 22) (hv : v = (L.length : Int) + 1) (hy : inC (L.take x.toNat) p.2.1 = y) : ∃ L2 : List zPn, RMb hc2 L2 O ev n ∧ ordC L2 O = insC (ordC L O) (ahC (ordC L O) O p.2.1 + y) p := by
  subst e; subst e2
  refine ⟨insC L x p, RM_in h hx hlen ho hok hnew ?_ (fun j j1 j2 j3 => ?_) (fun j j1 j2 => ?_) (fun w w1 w2 => ?_) (fun j j1 j2 => ?_), ?_⟩
  · unfold plF; rw [if_neg (by omega), zU_s, hv]
  · unfold plF; rw [if_neg (by omega), zU_n _ _ j3]; unfold shU; rw [if_neg (by omega)]
  · unfold plF; rw [if_neg (by omega), zU_n _ _ (by omega)]; unfold shU; rw [if_neg (by omega)]
  · unfold plF; rw [if_pos (by omega)]; congr 1; omega
  · unfold plF; rw [if_neg (by omega), zU_n _ _ (by omega)]; unfold shU; rw [if_pos (by omega)]; congr 1; omega
  · rw [ordC_ins (RM_nd h) (RM_mem h) hx ((RM_inO h).mpr hok.1.2.1), hy]
theorem rowO_re {o : Int → Int} {p : zPn} {s : Int} (h : rowO o p) : rowO (zU o 1 s) (reS p s) := ⟨(zU_n _ _ (by omega)).trans h.1, zU_s _ _ _, (zU_n _ _ (by omega)).trans h.2.2.1, (zU_n _ _ (by omega)).trans h.2.2.2.1, fun j v hv => by
  have h5 := h.2.2.2.2 j v hv
  exact ⟨(zU_n _ _ (by omega)).trans h5.1, (zU_n _ _ (by omega)).trans h5.2.1, (zU_n _ _ (by omega)).trans h5.2.2⟩⟩
theorem erase_new {L : List zPn} (hn : (L.map Prod.fst).Nodup) {k : Nat} {p : zPn} (hp : L[k]? = some p) : ∀ q ∈ L.eraseIdx k, q.1 ≠ p.1 := by
  intro q hq he
  obtain ⟨i, hi⟩ := List.getElem?_of_mem hq
  rw [List.getElem?_eraseIdx] at hi
  split at hi
  · have := (uniqP hn hi hp he).1; omega
  · have := (uniqP hn hi hp he).1; omega
theorem mv_L2 {al : Int → Int} {L L2 : List zPn} {O : List Int} {ev n s pl : Int} {k j : Nat} {p : zPn} (_h : RMb al L O ev n) (hl : lkP L O k j p) (he : ordC L2 O = insC (ordC (L.eraseIdx k) O) (ahC (ordC (L.eraseIdx k) O) O (reS p s).2.1 + pl) (reS p s)) : ordC L2 O = mvC (ordC L O) O j p s pl := by
  rw [he, hl.2.2.2.1]; rfl
theorem inC_er {al : Int → Int} {L : List zPn} {O : List Int} {ev n : Int} {k j : Nat} {p : zPn} (h : RMb al L O ev n) (hl : lkP L O k j p) (s : Int) : inC (L.eraseIdx k) s = inC ((ordC L O).eraseIdx j) s := by
  have hm : ∀ q ∈ L.eraseIdx k, q.2.1 ∈ O := fun q hq => RM_mem h q (List.mem_of_mem_eraseIdx hq)
  rw [← hl.2.2.2.1, inC_perm (ordC_perm (RM_nd h) hm)]
theorem inC_Or {al : Int → Int} {L : List zPn} {O : List Int} {ev n : Int} (h : RMb al L O ev n) (s : Int) : inC (ordC L O) s = inC L s := inC_perm (ordC_perm (RM_nd h) (RM_mem h)) s
/-! acted -/
theorem acted_MH {hl hn ki : Int} {his hg kept hc : Int → Int} {hs : List zSt} {S : zSt} (h : MH hl his hs) (hk : MR kept S) (hj : (hl < 4 ∧ hn = hl ∧ hg = his) ∨ (hl = 4 ∧ hn = 3 ∧ hg = shH his 681)) (e : hc = plF hg (227 * hn) kept ki) (h3 : ki = 227) : MH (hn + 1) hc (pushH hs S) := by
  have h0 := h.1
  subst h3
  rcases hj with ⟨h4, rfl, rfl⟩ | ⟨rfl, rfl, rfl⟩
  · refine MH_push h hk h4 (fun j j1 j2 => ?_) (fun j j1 j2 => ?_)
    · rw [e]; unfold plF; rw [if_neg (by omega)]
    · rw [e]; unfold plF; rw [if_pos (by omega)]; congr 1; omega
  · refine MH_full h hk (fun j j1 j2 => ?_) (fun j j1 j2 => ?_)
    · rw [e]; unfold plF; rw [if_neg (by omega)]; unfold shH; rw [if_pos (by omega)]
    · rw [e]; unfold plF; rw [if_pos (by omega)]; congr 1; omega
/-! the order, found -/
def FOr (row al : Int → Int) (M : List zPn) (z : Int) : Prop := ∀ (j : Nat) (p : zPn), M[j]? = some p → (0 ≤ row (j : Int) ∧ row (j : Int) < z) ∧ rowH al (row (j : Int)) p
def FOn (row al : Int → Int) (M : List zPn) (z n : Int) : Prop := n = (M.length : Int) ∧ FOr row al M z
theorem FOn_0 (row al : Int → Int) (z : Int) : FOn row al [] z 0 := ⟨rfl, fun j q hq => by simp at hq⟩
theorem FOn_s {row al : Int → Int} {M : List zPn} {z n k : Int} {q : zPn} (h : FOn row al M z n) (hq : rowH al k q) (hk : 0 ≤ k ∧ k < z) : FOn (zU row n k) al (M ++ [q]) z (n + 1) := by
  obtain ⟨h1, h2⟩ := h
  refine ⟨by rw [List.length_append, List.length_singleton]; omega, fun j w hw => ?_⟩
  by_cases hc : j < M.length
  · rw [List.getElem?_append_left hc] at hw
    rw [zU_n _ _ (by omega)]
    exact h2 j w hw
  · have hj := (List.getElem?_eq_some_iff.mp hw).1
    rw [List.length_append, List.length_singleton] at hj
    rw [List.getElem?_append_right (by omega), show j - M.length = 0 by omega] at hw
    have he := Option.some.inj hw
    subst he
    rw [show (j : Int) = n by omega, zU_s]
    exact ⟨hk, hq⟩
theorem flt_take {L : List zPn} {Q : zPn → Bool} {k : Int} {q : zPn} (hk : 0 ≤ k) (hq : L[k.toNat]? = some q) : (L.take (k + 1).toNat).filter Q = (L.take k.toNat).filter Q ++ (if Q q = true then [q] else []) := by
  rw [takeZ hk hq, List.filter_append]
  congr 1
  by_cases hc : Q q = true
  · rw [if_pos hc, List.filter_cons_of_pos hc]; rfl
  · rw [if_neg hc, List.filter_cons_of_neg hc]; rfl
theorem FO_bnd {al : Int → Int} {L : List zPn} {O : List Int} {ev n : Int} (h : RMb al L O ev n) {s k v : Int} {q : zPn} (hs : 0 ≤ s) (hv : O[s.toNat]? = some v) (hk : 0 ≤ k) (hq : L[k.toNat]? = some q) (hc : q.2.1 = v) : (ordC L (O.take s.toNat) ++ (L.take k.toNat).filter (scC v)).length < 10 := by
  obtain ⟨hv1, hv2⟩ := List.getElem?_eq_some_iff.mp hv
  have e1 : O = O.take s.toNat ++ v :: O.drop (s.toNat + 1) := by
    conv => lhs; rw [← List.take_append_drop s.toNat O]
    rw [List.drop_eq_getElem_cons hv1, hv2]
  have hl := ordC_ln h
  rw [e1, ordC_app, ordC_cons] at hl
  have h2 : ((L.take (k + 1).toNat).filter (scC v)).length ≤ (L.filter (scC v)).length := ((List.take_sublist _ _).filter _).length_le
  rw [flt_take hk hq, if_pos (scC_iff.mpr hc)] at h2
  have h3 := h.2.2.1
  simp only [List.length_append, List.length_singleton] at hl h2 ⊢
  omega
theorem ordC_takeS {L : List zPn} {O : List Int} {s v : Int} (hs : 0 ≤ s) (hv : O[s.toNat]? = some v) : ordC L (O.take (s + 1).toNat) = ordC L (O.take s.toNat) ++ L.filter (scC v) := by
  rw [takeZ hs hv, ordC_app]
  congr 1
  rw [ordC_cons]
  show L.filter (scC v) ++ [] = _
  rw [List.append_nil]
theorem FO_in {row al : Int → Int} {L : List zPn} {O : List Int} {z s nn v : Int} (h : FOn row al (ordC L (O.take s.toNat)) z nn) : FOn row al (ordC L (O.take s.toNat) ++ (L.take (0 : Int).toNat).filter (scC v)) z nn := by
  simpa using h
theorem FO_st {row al : Int → Int} {L : List zPn} {O : List Int} {z s nn v k : Int} {q : zPn} (h : FOn row al (ordC L (O.take s.toNat) ++ (L.take k.toNat).filter (scC v)) z nn) (hk : 0 ≤ k ∧ k < z) (hq : L[k.toNat]? = some q) (hr : rowH al k q) (hc : q.2.1 = v) : FOn (zU row nn k) al (ordC L (O.take s.toNat) ++ (L.take (k + 1).toNat).filter (scC v)) z (nn + 1) := by
  rw [flt_take hk.1 hq, if_pos (scC_iff.mpr hc), ← List.append_assoc]
  exact FOn_s h hr hk
theorem FO_sk {row al : Int → Int} {L : List zPn} {O : List Int} {z s nn v k : Int} {q : zPn} (h : FOn row al (ordC L (O.take s.toNat) ++ (L.take k.toNat).filter (scC v)) z nn) (hk : 0 ≤ k) (hq : L[k.toNat]? = some q) (hc : q.2.1 ≠ v) : FOn row al (ordC L (O.take s.toNat) ++ (L.take (k + 1).toNat).filter (scC v)) z nn := by
  rw [flt_take hk hq, if_neg (fun h => hc (scC_iff.mp h)), List.append_nil]
  exact h
theorem FO_out {row al : Int → Int} {L : List zPn} {O : List Int} {z s nn v k : Int} (h : FOn row al (ordC L (O.take s.toNat) ++ (L.take k.toNat).filter (scC v)) z nn) (hk : (L.length : Int) ≤ k) (hs : 0 ≤ s) (hv : O[s.toNat]? = some v) : FOn row al (ordC L (O.take (s + 1).toNat)) z nn := by
  rw [ordC_takeS hs hv]
  rw [List.take_of_length_le (show L.length ≤ k.toNat by omega)] at h
  exact h
