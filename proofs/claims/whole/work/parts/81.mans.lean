/-! the model's answers -/
theorem RCg_get {ho br : Int → Int} {nb : Int} {M : List zPn} (h : RCg ho nb br (goAll M)) {k : Int} (hk : 0 ≤ k ∧ k < nbC M) : br (5 * k) = bkGet (brkAt M k) 0 ∧ br (5 * k + 1) = bkGet (brkAt M k) 1 ∧ br (5 * k + 2) = bkGet (brkAt M k) 2 ∧ br (5 * k + 3) = bkGet (brkAt M k) 3 ∧ br (5 * k + 4) = bkGet (brkAt M k) 4 := by
  have h3 := h.2.2 k.toNat _ (brkAt_get hk)
  rw [show ((k.toNat : Nat) : Int) = k by omega] at h3
  exact h3
theorem RCg_w {ho br : Int → Int} {nb : Int} {M : List zPn} (h : RCg ho nb br (goAll M)) {k w : Int} (hk : 0 ≤ k ∧ k < nbC M) (hw : 0 ≤ w ∧ w < 5) : br (5 * k + w) = bkGet (brkAt M k) w := by
  have h2 := RCg_get h hk
  rcases (show w = 0 ∨ w = 1 ∨ w = 2 ∨ w = 3 ∨ w = 4 by omega) with rfl | rfl | rfl | rfl | rfl
  · rw [Int.add_zero]; exact h2.1
  · exact h2.2.1
  · exact h2.2.2.1
  · exact h2.2.2.2.1
  · exact h2.2.2.2.2
theorem brk_rgM {al : Int → Int} {L : List zPn} {O : List Int} {ev n : Int} (h : RMb al L O ev n) {k : Int} (hk : 0 ≤ k ∧ k < nbC (ordC L O)) : bkOK (brkAt (ordC L O) k) := (lstGo_ok (ordC L O) (-1) g0 (ordC_pn h) g0_ok).2.2 _ (List.mem_of_getElem? (brkAt_get hk))
theorem FO_rk {row al : Int → Int} {L : List zPn} {O : List Int} {ev n : Int} (hM : RMb al L O ev n) (h : FOr row al (ordC L O) (L.length : Int)) {k j : Nat} {p : zPn} (hl : lkP L O k j p) {x : Int} (hx : 0 ≤ x ∧ x < (L.length : Int)) : row x = (k : Int) ↔ x = (j : Int) := by
  obtain ⟨q, h1, h2, h3⟩ := FO_at h (k := x) (by rw [ordC_ln hM]; exact hx)
  constructor
  · intro hr
    have h4 := (hM.2.2.2.2.2.1 k p hl.1).1
    rw [hr] at h3
    have := (uniqP (ordC_nd hM) h1 hl.2.1 (h3.1.symm.trans h4)).1
    omega
  · intro hr
    rw [show x.toNat = j by omega, hl.2.1] at h1
    have hpq := Option.some.inj h1
    obtain ⟨q2, h5, h6, -⟩ := RM_k hM (k := row x) h2
    have := (uniqP hM.2.2.2.2.2.2.2.1 h5 hl.1 ((h6.1.symm.trans h3.1).trans (by rw [hpq]))).1
    omega
theorem lkP_lt {al : Int → Int} {L : List zPn} {O : List Int} {ev n : Int} (hM : RMb al L O ev n) {k j : Nat} {p : zPn} (hl : lkP L O k j p) : k < L.length ∧ j < L.length := by
  have h1 := (List.getElem?_eq_some_iff.mp hl.1).1
  have h2 := (List.getElem?_eq_some_iff.mp hl.2.1).1
  rw [ordC_ln hM] at h2
  exact ⟨h1, h2⟩
theorem tkC_s (M : List zPn) {k : Int} {p : zPn} (hk : 0 ≤ k) (hp : M[k.toNat]? = some p) : tkC M (k + 1) = tkC M k + p.2.2.1 := by
  unfold tkC
  rw [takeZ hk hp, List.map_append, zsum_app]
  simp
theorem durS_s {L : List zPn} {k s : Int} {p : zPn} (hk : 0 ≤ k) (hp : L[k.toNat]? = some p) : durS (L.take (k + 1).toNat) s = durS (L.take k.toNat) s + (if p.2.1 = s then p.2.2.1 else 0) := by
  unfold durS
  rw [flt_take hk hp, List.map_append, zsum_app]
  by_cases hc : p.2.1 = s
  · rw [if_pos (scC_iff.mpr hc), if_pos hc]; simp
  · rw [if_neg (fun h => hc (scC_iff.mp h)), if_neg hc]; simp
theorem evsC_s (M : List zPn) {k : Int} {p : zPn} (hk : 0 ≤ k) (hp : M[k.toNat]? = some p) : evsC (M.take (k + 1).toNat) = evsC (M.take k.toNat) + (p.2.2.2.length : Int) := by
  unfold evsC
  rw [takeZ hk hp, List.map_append, zsum_app]
  simp
theorem tkC_end {al : Int → Int} {L : List zPn} {O : List Int} {ev n : Int} (h : RMb al L O ev n) {k : Int} (hk : k = (L.length : Int)) : tkC L k = tkC (ordC L O) (ordC L O).length := by
  rw [tkC_all (RM_nd h) (RM_mem h), hk]
  unfold tkC
  rw [Int.toNat_natCast, List.take_length]
theorem evsC_end {al : Int → Int} {L : List zPn} {O : List Int} {ev n : Int} (h : RMb al L O ev n) : evsC L = evsC (ordC L O) := (evsC_ord (RM_nd h) (RM_mem h)).symm
theorem scN_in {al : Int → Int} {L : List zPn} {O : List Int} {ev n x r : Int} (h : RMb al L O ev n) (hl : lieC L O al n x r) (hx : ∃ p ∈ ordC L O, p.1 = x) : ∃ (k j : Nat) (p : zPn), (k < L.length ∧ r = (k : Int)) ∧ rowH al (k : Int) p ∧ p.2.1 = scN (ordC L O) x ∧ pnOK p := by
  obtain ⟨q, hq, hqx⟩ := hx
  rcases hl with ⟨-, hn⟩ | ⟨k, j, p, h1, h2, h3, h4, h5⟩
  · exact absurd hqx (hn q hq)
  · refine ⟨k, j, p, h2, h5, ?_, h4.1⟩
    rw [← h1.2, scN_of (ordC_nd h) (List.mem_of_getElem? h3.1)]
theorem scnA_2 {al : Int → Int} {L : List zPn} {O : List Int} {ev n s : Int} (h : RMb al L O ev n) (hs : 0 ≤ s ∧ s < 5) : durS L s = tkC (ordC L O) (ahC (ordC L O) O s + inC (ordC L O) s) - tkC (ordC L O) (ahC (ordC L O) O s) ∧ bgS L O (O.idxOf s : Int) = tkC (ordC L O) (ahC (ordC L O) O s) := by
  have h1 := tkC_ah (RM_nd h) (RM_mem h) ((RM_inO h).mpr hs)
  rw [h1.1, h1.2]
  omega
theorem BEH_at {al be : Int → Int} {L : List zPn} {O : List Int} {ev n x : Int} (h : RMb al L O ev n) (hb : BEH be (ordC L O)) {k j : Nat} {p : zPn} (hl : lkP L O k j p) (hx : 0 ≤ x ∧ x < 10) : be (10 * (j : Int) + x) = hldA (ordC L O) j x := by
  have h1 := lkP_lt h hl
  rw [hb j x (by omega) (by rw [ordC_ln h]; omega) hx.1 hx.2]
  unfold hdV hldA
  rw [show ((j : Int) + 1).toNat = j + 1 by omega]
theorem go1_rg {al : Int → Int} {L : List zPn} {O : List Int} {ev n : Int} (h : RMb al L O ev n) (x : Int) : -1 ≤ (goAll (ordC L O)).1 x ∧ (goAll (ordC L O)).1 x < 4 := (lstGo_ok (ordC L O) (-1) g0 (ordC_pn h) g0_ok).1 x
theorem bk_sc {al : Int → Int} {L : List zPn} {O : List Int} {ev n : Int} (h : RMb al L O ev n) (x : Int) : -1 ≤ scN (ordC L O) x ∧ scN (ordC L O) x < 5 := scN_rg (ordC_pn h) x
