/-! the model's acts -/
theorem fltV_rg {f : Int} (h : -1 ≤ f ∧ f ≤ 100) : (-5 ≤ fltV f ∧ fltV f ≤ 100) ∧ (fltV f = -5 ↔ f = -1) ∧ (f ≠ -1 → fltV f = f) := by
  unfold fltV
  split <;> omega
def lieC (L : List zPn) (O : List Int) (al : Int → Int) (n x r : Int) : Prop := (r = -5 ∧ noP (ordC L O) x) ∨ ∃ (k j : Nat) (p : zPn), (lkP L O k j p ∧ p.1 = x) ∧ (k < L.length ∧ r = (k : Int)) ∧ isP (ordC L O) j p x ∧ (pnOK p ∧ p.1 < n) ∧ rowH al (k : Int) p
theorem lieC_rg {L : List zPn} {O : List Int} {al : Int → Int} {n x r : Int} (h : lieC L O al n x r) (hl : L.length ≤ 10) : -5 ≤ r ∧ r < 10 := by
  rcases h with h | ⟨k, j, q, -, h, -⟩ <;> omega
theorem lieC_no {L : List zPn} {O : List Int} {al : Int → Int} {n x r : Int} (h : lieC L O al n x r) (hr : r = -5) : noP (ordC L O) x := by
  rcases h with h | ⟨k, j, q, -, h, -⟩
  · exact h.2
  · omega
theorem lieC_yes {L : List zPn} {O : List Int} {al : Int → Int} {n x r : Int} (h : lieC L O al n x r) (hr : r ≠ -5) : ∃ (k j : Nat) (p : zPn), (lkP L O k j p ∧ p.1 = x) ∧ (k < L.length ∧ r = (k : Int)) ∧ isP (ordC L O) j p x ∧ (pnOK p ∧ p.1 < n) ∧ rowH al (k : Int) p := h.resolve_left (fun h2 => hr h2.1)
theorem insC_set (l : List zPn) {j : Nat} (q : zPn) (hj : j < l.length) : insC (l.eraseIdx j) (j : Int) q = l.set j q := by
  apply List.ext_getElem?
  intro i
  have hl : (l.eraseIdx j).length = l.length - 1 := List.length_eraseIdx_of_lt hj
  rw [insC_get _ _ (by omega), List.getElem?_set, List.getElem?_eraseIdx, List.getElem?_eraseIdx]
  by_cases h1 : i < j
  · rw [if_pos (by omega), if_pos h1, if_neg (by omega)]
  · by_cases h2 : i = j
    · rw [if_neg (by omega), if_pos (by omega), if_pos h2.symm, if_pos (by omega)]
    · rw [if_neg (by omega), if_neg (by omega), if_neg (by omega), if_neg (by omega), show i - 1 + 1 = i by omega]
theorem inC_tke {L : List zPn} {k : Nat} (s : Int) (_hk : k < L.length) : inC (L.take k) s ≤ inC (L.eraseIdx k) s := by
  have e : (L.eraseIdx k).take k = L.take k := by
    apply List.ext_getElem?
    intro i
    rw [List.getElem?_take, List.getElem?_take, List.getElem?_eraseIdx]
    by_cases h1 : i < k
    · rw [if_pos h1, if_pos h1, if_pos h1]
    · rw [if_neg h1, if_neg h1]
  rw [← e]
  exact (inC_tk (L.eraseIdx k) k s).2.1
theorem red_old {al : Int → Int} {L L2 : List zPn} {O : List Int} {ev n x d : Int} {l : List zEv} {k j : Nat} {p : zPn} (_h : RMb al L O ev n) (hl : lkP L O k j p) (hx : p.1 = x) (he : ordC L2 O = insC (ordC (L.eraseIdx k) O) (ahC (ordC (L.eraseIdx k) O) O p.2.1 + inC (L.take k) p.2.1) (x, p.2.1, d, l)) : ordC L2 O = redC (ordC L O) O j p p.2.1 d l := by
  have hj := (List.getElem?_eq_some_iff.mp hl.2.1).1
  unfold redC
  rw [if_pos rfl, he, hl.2.2.2.1, ahC_erase O hl.2.1, ← hl.2.2.1, insC_set _ _ hj, hx]
theorem red_old2 {al : Int → Int} {L L2 : List zPn} {O : List Int} {ev n x : Int} {P : Int × Int × List zEv} {k j : Nat} {p : zPn} (h : RMb al L O ev n) (hl : lkP L O k j p) (hx : p.1 = x) (hs : p.2.1 = P.1) (he : ordC L2 O = insC (ordC (L.eraseIdx k) O) (ahC (ordC (L.eraseIdx k) O) O P.1 + inC (L.take k) p.2.1) (x, P)) : ordC L2 O = redC (ordC L O) O j p P.1 P.2.1 P.2.2 := by
  obtain ⟨sc, d, l⟩ := P
  have hs : p.2.1 = sc := hs
  subst hs
  exact red_old h hl hx he
theorem red_new {al : Int → Int} {L L2 : List zPn} {O : List Int} {ev n x sc d : Int} {l : List zEv} {k j : Nat} {p : zPn} (h : RMb al L O ev n) (hl : lkP L O k j p) (hx : p.1 = x) (hs : p.2.1 ≠ sc) (he : ordC L2 O = insC (ordC (L.eraseIdx k) O) (ahC (ordC (L.eraseIdx k) O) O sc + inC (L.eraseIdx k) sc) (x, sc, d, l)) : ordC L2 O = redC (ordC L O) O j p sc d l := by
  unfold redC
  rw [if_neg hs, he, inC_er h hl, hl.2.2.2.1, hx]
/-! a scene moved -/
def mvSF (f : Int → Int) (fr kx : Int) : Int → Int := fun j => if 2 + fr ≤ j ∧ j < 2 + kx then f (j + 1) else if 2 + kx < j ∧ j ≤ 2 + fr then f (j - 1) else f j
theorem mvSF_0 (f : Int → Int) (fr : Int) : mvSF f fr fr = f := by
  funext j
  unfold mvSF
  rw [if_neg (by omega), if_neg (by omega)]
theorem mvSF_u (f : Int → Int) {fr kx st : Int} (h : fr ≤ kx) (hs : st = 1) : zU (mvSF f fr kx) (2 + kx) (mvSF f fr kx (2 + kx + st)) = mvSF f fr (kx + st) := by
  subst hs
  funext j
  unfold zU mvSF
  by_cases hj : j = 2 + kx
  · rw [if_pos hj, if_neg (by omega), if_neg (by omega), if_pos (by omega), hj]
  · rw [if_neg hj]
    by_cases h2 : 2 + fr ≤ j ∧ j < 2 + kx
    · rw [if_pos h2, if_pos (by omega)]
    · rw [if_neg h2, if_neg (by omega), if_neg (by omega), if_neg (by omega)]
theorem mvSF_d (f : Int → Int) {fr kx st : Int} (h : kx ≤ fr) (hs : st = -1) : zU (mvSF f fr kx) (2 + kx) (mvSF f fr kx (2 + kx + st)) = mvSF f fr (kx + st) := by
  subst hs
  funext j
  unfold zU mvSF
  by_cases hj : j = 2 + kx
  · rw [if_pos hj, if_neg (by omega), if_neg (by omega), if_neg (by omega), if_pos (by omega), hj]; congr 1
  · rw [if_neg hj]
    by_cases h2 : 2 + kx < j ∧ j ≤ 2 + fr
    · rw [if_neg (by omega), if_pos h2, if_neg (by omega), if_pos (by omega)]
    · rw [if_neg (by omega), if_neg h2, if_neg (by omega), if_neg (by omega)]
theorem RM_mvO {al hc : Int → Int} {L : List zPn} {O : List Int} {ev n s pl kx : Int} (h : RMb al L O ev n) (hs : 0 ≤ s ∧ s < 5) (hp : 0 ≤ pl ∧ pl < 5) (e : hc = mvSF al (O.idxOf s : Int) kx) (hk : kx = pl) : RMb (zU hc (2 + pl) s) L (mvO O s pl) ev n := by
  subst hk; subst e
  have hm := (RM_inO h).mpr hs
  have hI := RM_idx h hs
  have hOl := RM_Ol h
  have hper := mvO_perm hm kx
  obtain ⟨h1, h2, h3, h4, h5, h6, h7, h8, h9⟩ := h
  have oth : ∀ j, 0 ≤ j → (j < 2 ∨ 7 ≤ j) → zU (mvSF al (O.idxOf s : Int) kx) (2 + kx) s j = al j := by
    intro j j1 j2
    rw [zU_n _ _ (by omega)]
    unfold mvSF
    rw [if_neg (by omega), if_neg (by omega)]
  refine ⟨(oth 0 (by omega) (by omega)).trans h1, (oth 1 (by omega) (by omega)).trans h2, h3, h4, fun j t ht => ?_, fun k p hp2 => ?_, h7, h8, hper.trans h9⟩
  · have hj := (List.getElem?_eq_some_iff.mp ht).1
    rw [hper.length_eq] at hj
    have hel : (O.eraseIdx (O.idxOf s)).length = O.length - 1 := List.length_eraseIdx_of_lt (List.idxOf_lt_length_iff.mpr hm)
    unfold mvO at ht
    rw [mvO_get _ _ (by omega), List.getElem?_eraseIdx, List.getElem?_eraseIdx] at ht
    unfold zU mvSF
    by_cases c1 : j < kx.toNat
    · rw [if_pos c1] at ht
      rw [if_neg (by omega)]
      by_cases c2 : j < O.idxOf s
      · rw [if_pos c2] at ht
        rw [if_neg (by omega), if_neg (by omega)]
        exact h5 j t ht
      · rw [if_neg c2] at ht
        rw [if_pos (by omega), show 2 + (j : Int) + 1 = 2 + ((j + 1 : Nat) : Int) by omega]
        exact h5 (j + 1) t ht
    · rw [if_neg c1] at ht
      by_cases c3 : j = kx.toNat
      · rw [if_pos c3] at ht
        rw [if_pos (by omega)]
        exact Option.some.inj ht
      · rw [if_neg c3] at ht
        rw [if_neg (by omega)]
        by_cases c2 : j - 1 < O.idxOf s
        · rw [if_pos c2] at ht
          rw [if_neg (by omega), if_pos (by omega), show 2 + (j : Int) - 1 = 2 + ((j - 1 : Nat) : Int) by omega]
          exact h5 (j - 1) t ht
        · rw [if_neg c2, show j - 1 + 1 = j by omega] at ht
          rw [if_neg (by omega), if_neg (by omega)]
          exact h5 j t ht
  · exact rowH_cg (h7 p (List.mem_of_getElem? hp2)).1.2.2.2.1 (h6 k p hp2) (fun w w1 w2 => oth _ (by omega) (by omega))
theorem ord_mvO {al : Int → Int} {L : List zPn} {O : List Int} {ev n s : Int} (h : RMb al L O ev n) (hs : 0 ≤ s ∧ s < 5) (pl : Int) : ordC (ordC L O) (mvO O s pl) = ordC L (mvO O s pl) := ordC_ordC (RM_nd h) (fun _ hv => (mvO_perm ((RM_inO h).mpr hs) pl).mem_iff.mp hv)
/-! mending -/
theorem bestC_no {M : List zPn} {O : List Int} {j : Nat} {p : zPn} {s : Int} (h : nbC M ≤ nbM M O j p s (bestC M O j p s)) : ¬ canM M O j p s := by
  rintro ⟨pl, p1, p2, p3⟩
  have h2 := bestF_rg (nbM M O j p s) (inC (M.eraseIdx j) s).toNat
  have h3 := h2.2.2 pl p1 (by omega)
  rw [h2.2.1] at h3
  unfold bestC at h
  omega
theorem bestC_can {M : List zPn} {O : List Int} {j : Nat} {p : zPn} {s : Int} (h : nbM M O j p s (bestC M O j p s) < nbC M) (hi : 0 ≤ inC (M.eraseIdx j) s) : canM M O j p s := ⟨bestC M O j p s, (bestC_rg hi).1, (bestC_rg hi).2, h⟩
theorem thru_one {M : List zPn} {O : List Int} {s n : Int} (hn : (M.map Prod.fst).Nodup) (h : thruM M O s n) {j : Nat} {p : zPn} (hp : isP M j p n) (hno : p.2.1 = s → ¬ canM M O j p s) : thruM M O s (n + 1) := by
  intro i q hq hs hlt
  rcases (show q.1 < n ∨ q.1 = n by omega) with hc | hc
  · exact h i q hq hs hc
  · obtain ⟨rfl, rfl⟩ := uniqP hn hq hp.1 (hc.trans hp.2.symm)
    exact hno hs
theorem thru_all {al : Int → Int} {L : List zPn} {O : List Int} {ev n s k : Int} (h : RMb al L O ev n) (hk : n ≤ k) (ht : thruM (ordC L O) O s k) : noM (ordC L O) O s := fun i q hq hs => ht i q hq hs (by
  have := (h.2.2.2.2.2.2.1 q ((ordC_perm (RM_nd h) (RM_mem h)).mem_iff.mp (List.mem_of_getElem? hq))).2
  omega)
theorem thru_0 {al : Int → Int} {L : List zPn} {O : List Int} {ev n s : Int} (h : RMb al L O ev n) : thruM (ordC L O) O s 0 := fun i q hq _ hlt => absurd ((ordC_pn h) q (List.mem_of_getElem? hq)).1.1 (by omega)
theorem inC_er0 (M : List zPn) (j : Nat) (s : Int) : 0 ≤ inC (M.eraseIdx j) s := by have := inC_tk (M.eraseIdx j) 0 s; omega
theorem RM_ev2 {al : Int → Int} {L : List zPn} {O : List Int} {ev n v : Int} (h : RMb al L O ev n) (hv : v = n) (hn : 0 ≤ n ∧ n ≤ 99) : RM (zU al 0 v) L O n := by subst hv; exact RM_ev h hn
theorem hnew_ev {al : Int → Int} {L : List zPn} {O : List Int} {ev : Int} (h : RM al L O ev) : ∀ q ∈ L, q.1 ≠ ev := fun q hq => by have := (h.2.2.2.2.2.2.1 q hq).2; omega
theorem und_MR {his al : Int → Int} {S : zSt} {v ki : Int} {hc : Int → Int} (h : MR (fun j => his (227 * v + j)) S) (e : hc = cpF (fun j => his (227 * v + j)) al ki) (hk : ki = 227) : MR hc S := MR_cg h (fun j j1 j2 => by rw [e, hk]; exact if_pos ⟨j1, j2⟩)
