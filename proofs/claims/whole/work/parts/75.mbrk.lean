/-! the model's breaks -/
def hdV (z : Int) : Int := if z = -1 then -5 else z
theorem hdV_rg {z : Int} (h : -1 ≤ z ∧ z < 4) : (-5 ≤ hdV z ∧ hdV z < 4) ∧ (hdV z = -5 ↔ z = -1) ∧ (0 ≤ hdV z → hdV z = z) ∧ (0 ≤ z → hdV z = z) := by
  unfold hdV
  split <;> omega
def RCg (ho : Int → Int) (nb : Int) (br : Int → Int) (g : zGs) : Prop := (∀ x, 0 ≤ x → x < 10 → ho x = hdV (g.1 x)) ∧ nb = (g.2.2.length : Int) ∧ ∀ (k : Nat) (v : zBk), g.2.2[k]? = some v → br (5 * (k : Int)) = v.1 ∧ br (5 * (k : Int) + 1) = v.2.1 ∧ br (5 * (k : Int) + 2) = v.2.2.1 ∧ br (5 * (k : Int) + 3) = v.2.2.2.1 ∧ br (5 * (k : Int) + 4) = v.2.2.2.2
def RCm (ho mo : Int → Int) (nb : Int) (br : Int → Int) (g : zGs) : Prop := RCg ho nb br g ∧ ∀ x, 0 ≤ x → x < 4 → mo x = g.2.1 x
theorem RCm_eq {ho mo br : Int → Int} {nb : Int} {g g2 : zGs} (h : RCm ho mo nb br g) (he : g = g2) : RCm ho mo nb br g2 := he ▸ h
def put5m (f : Int → Int) (s : Int) (v : zBk) : Int → Int := zU (zU (zU (zU (zU f s v.1) (s + 1) v.2.1) (s + 2) v.2.2.1) (s + 3) v.2.2.2.1) (s + 4) v.2.2.2.2
theorem put5m_ne (f : Int → Int) {s j : Int} (v : zBk) (h : j < s ∨ s + 5 ≤ j) : put5m f s v j = f j := by
  unfold put5m
  rw [zU_n _ _ (by omega), zU_n _ _ (by omega), zU_n _ _ (by omega), zU_n _ _ (by omega), zU_n _ _ (by omega)]
theorem put5m_at (f : Int → Int) (s : Int) (v : zBk) : put5m f s v s = v.1 ∧ put5m f s v (s + 1) = v.2.1 ∧ put5m f s v (s + 2) = v.2.2.1 ∧ put5m f s v (s + 3) = v.2.2.2.1 ∧ put5m f s v (s + 4) = v.2.2.2.2 := by
  unfold put5m
  refine ⟨?_, ?_, ?_, ?_, zU_s _ _ _⟩
  · rw [zU_n _ _ (by omega), zU_n _ _ (by omega), zU_n _ _ (by omega), zU_n _ _ (by omega), zU_s]
  · rw [zU_n _ _ (by omega), zU_n _ _ (by omega), zU_n _ _ (by omega), zU_s]
  · rw [zU_n _ _ (by omega), zU_n _ _ (by omega), zU_s]
  · rw [zU_n _ _ (by omega), zU_s]
theorem RCg_add {ho br : Int → Int} {nb : Int} {g : zGs} (h : RCg ho nb br g) (v : zBk) : RCg ho (nb + 1) (put5m br (5 * nb) v) (g.1, g.2.1, g.2.2 ++ [v]) := by
  obtain ⟨h1, h2, h3⟩ := h
  refine ⟨h1, by show _ = ((g.2.2 ++ [v]).length : Int); rw [List.length_append, List.length_singleton]; omega, fun k w hw => ?_⟩
  have hw : (g.2.2 ++ [v])[k]? = some w := hw
  by_cases hc : k < g.2.2.length
  · rw [List.getElem?_append_left hc] at hw
    rw [put5m_ne _ v (by omega), put5m_ne _ v (by omega), put5m_ne _ v (by omega), put5m_ne _ v (by omega), put5m_ne _ v (by omega)]
    exact h3 k w hw
  · have hk := (List.getElem?_eq_some_iff.mp hw).1
    rw [List.length_append, List.length_singleton] at hk
    rw [List.getElem?_append_right (by omega), show k - g.2.2.length = 0 by omega] at hw
    have he := Option.some.inj hw
    subst he
    rw [show 5 * (k : Int) = 5 * nb by omega]
    exact put5m_at br (5 * nb) v
theorem RCm_add {ho mo br : Int → Int} {nb : Int} {g : zGs} (h : RCm ho mo nb br g) (v : zBk) : RCm ho mo (nb + 1) (put5m br (5 * nb) v) (g.1, g.2.1, g.2.2 ++ [v]) := ⟨RCg_add h.1 v, h.2⟩
theorem RCm_up {ho mo br : Int → Int} {nb : Int} {g : zGs} (h : RCm ho mo nb br g) {x v w : Int} (hv : v = hdV w) : RCm (zU ho x v) mo nb br (zU g.1 x w, g.2.1, g.2.2) := by
  refine ⟨⟨fun y y1 y2 => ?_, h.1.2⟩, h.2⟩
  show zU ho x v y = hdV (zU g.1 x w y)
  by_cases hc : y = x
  · subst hc; rw [zU_s, zU_s]; exact hv
  · rw [zU_n _ _ hc, zU_n _ _ hc]; exact h.1.1 y y1 y2
theorem RCm_mv {ho mo br : Int → Int} {nb : Int} {g : zGs} (h : RCm ho mo nb br g) (x w : Int) : RCm ho (zU mo x w) nb br (g.1, zU g.2.1 x w, g.2.2) := by
  refine ⟨h.1, fun y y1 y2 => ?_⟩
  show zU mo x w y = zU g.2.1 x w y
  by_cases hc : y = x
  · subst hc; rw [zU_s, zU_s]
  · rw [zU_n _ _ hc, zU_n _ _ hc]; exact h.2 y y1 y2
theorem hasEv_t {l : List zEv} {v : zEv} {w p : Int} (h : hasEv l w p = true ∨ (v.1 = w ∧ (p = -5 ∨ v.2.2 = p))) : hasEv (l ++ [v]) w p = true := by
  rw [hasEv_snoc]
  rcases h with h | ⟨h1, h2⟩
  · rw [h]; rfl
  · rw [decide_eq_true h1]
    rcases h2 with h2 | h2 <;> simp [h2]
theorem hasEv_f {l : List zEv} {v : zEv} {w p : Int} (h : hasEv l w p = false) (h2 : v.1 ≠ w ∨ (p ≠ -5 ∧ v.2.2 ≠ p)) : hasEv (l ++ [v]) w p = false := by
  rw [hasEv_snoc, h]
  rcases h2 with h2 | ⟨h2, h3⟩
  · simp [h2]
  · simp [h2, h3]
theorem undr_y {l : List zEv} {h : Int → Int} {w p : Int} (h1 : hasEv l w (-5) = true) (h2 : h p = w) (h3 : hasEv l w p = false) : undr l h w p = true := by unfold undr; rw [h1, h3]; simp [h2]
theorem undr_n {l : List zEv} {h : Int → Int} {w p : Int} (h1 : hasEv l w (-5) = false ∨ h p ≠ w ∨ hasEv l w p = true) : undr l h w p = false := by
  unfold undr
  rcases h1 with h1 | h1 | h1
  · rw [h1]; rfl
  · simp [h1]
  · rw [h1]; simp
def gsOf (M : List zPn) (kr : Int) (p : zPn) : zGs := ((lstGo (-1) (M.take kr.toNat) g0).1, (if p.2.1 = lastS (-1) (M.take kr.toNat) then (lstGo (-1) (M.take kr.toNat) g0).2.1 else fun _ => 0), (lstGo (-1) (M.take kr.toNat) g0).2.2)
def GI (ho mo br be : Int → Int) (nb kr : Int) (M : List zPn) : Prop := RCg ho nb br (lstGo (-1) (M.take kr.toNat) g0) ∧ (kr = 0 ∨ ∀ x, 0 ≤ x → x < 4 → mo x = (lstGo (-1) (M.take kr.toNat) g0).2.1 x) ∧ ∀ j x : Int, 0 ≤ j → j < kr → 0 ≤ x → x < 10 → be (10 * j + x) = hdV ((goAll (M.take (j + 1).toNat)).1 x)
theorem GI_0 {ho mo br be : Int → Int} {M : List zPn} {ki : Int} (hk : ki = 10) : GI (cpF (fun _ => -5) ho ki) mo br be 0 0 M := by
  subst hk
  refine ⟨⟨fun x x1 x2 => ?_, rfl, fun k v hv => ?_⟩, Or.inl rfl, fun j x j1 j2 => absurd j2 (by omega)⟩
  · unfold cpF; rw [if_pos ⟨x1, x2⟩]; rfl
  · have hv : ([] : List zBk)[k]? = some v := hv
    simp at hv
theorem lastS_at {M : List zPn} {kr : Int} {p : zPn} (h : 0 < kr) (hp : M[(kr - 1).toNat]? = some p) : lastS (-1) (M.take kr.toNat) = p.2.1 := by
  have := takeZ (k := kr - 1) (by omega) hp
  rw [show kr - 1 + 1 = kr by omega] at this
  rw [this, lastS_snoc]
theorem gs_new {ho mo br be : Int → Int} {nb kr ki : Int} {M : List zPn} {p : zPn} (h : GI ho mo br be nb kr M) (hl : p.2.1 ≠ lastS (-1) (M.take kr.toNat)) (hk : ki = 4) : RCm ho (cpF (fun _ => 0) mo ki) nb br (gsOf M kr p) := by
  subst hk
  unfold gsOf
  rw [if_neg hl]
  refine ⟨h.1, fun x x1 x2 => ?_⟩
  unfold cpF; rw [if_pos ⟨x1, x2⟩]
theorem gs_old {ho mo br be : Int → Int} {nb kr : Int} {M : List zPn} {p : zPn} (h : GI ho mo br be nb kr M) (hk : kr ≠ 0) (hl : p.2.1 = lastS (-1) (M.take kr.toNat)) : RCm ho mo nb br (gsOf M kr p) := by
  unfold gsOf
  rw [if_pos hl]
  exact ⟨h.1, h.2.1.resolve_left hk⟩
theorem gs_ok {M : List zPn} (hM : ∀ p ∈ M, pnOK p) (kr : Int) (p : zPn) : gOK (gsOf M kr p) := by
  have h := lstGo_ok (M.take kr.toNat) (-1) g0 (fun p hp => hM p (List.mem_of_mem_take hp)) g0_ok
  unfold gsOf
  refine ⟨h.1, ?_, h.2.2⟩
  show ∀ x, (if p.2.1 = lastS (-1) (M.take kr.toNat) then (lstGo (-1) (M.take kr.toNat) g0).2.1 else fun _ => 0) x = 0 ∨ _ ∨ _
  split
  · exact h.2.1
  · exact fun _ => Or.inl rfl
theorem gs_len {M : List zPn} (hM : ∀ p ∈ M, pnOK p) {kr : Int} (p : zPn) (hk : 0 ≤ kr ∧ kr < (M.length : Int)) (hl : M.length ≤ 10) : (gsOf M kr p).2.2.length ≤ 144 := by
  have h := lstGo_len (M.take kr.toNat) (-1) g0 (fun p hp => hM p (List.mem_of_mem_take hp))
  rw [List.length_take] at h
  have h0 : g0.2.2.length = 0 := rfl
  show (lstGo (-1) (M.take kr.toNat) g0).2.2.length ≤ 144
  omega
theorem evs_ok {p : zPn} (hp : pnOK p) {g : zGs} (hg : gOK g) (k : Nat) : gOK (evsGo p.1 0 (p.2.2.2.take k) g) := evsGo_ok hp.1 _ 0 g (fun v hv => hp.2.2.2.2 v (List.mem_of_mem_take hv)) (by omega) (by have := hp.2.2.2.1; rw [List.length_take]; omega) hg
theorem evs_len {p : zPn} (hp : pnOK p) {g : zGs} (hg : g.2.2.length ≤ 144) (k : Nat) : (evsGo p.1 0 (p.2.2.2.take k) g).2.2.length ≤ 150 := by
  have h := evsGo_len p.1 (p.2.2.2.take k) 0 g
  have := hp.2.2.2.1
  rw [List.length_take] at h
  omega
theorem GI_s {ho mo br be be2 : Int → Int} {nb kr ki : Int} {M : List zPn} {p : zPn} (hkr : 0 ≤ kr) (hp : M[kr.toNat]? = some p) (h : RCm ho mo nb br (panGo p (gsOf M kr p))) (hb : ∀ j x : Int, 0 ≤ j → j < kr → 0 ≤ x → x < 10 → be (10 * j + x) = hdV ((goAll (M.take (j + 1).toNat)).1 x)) (e : be2 = plF be (10 * kr) ho ki) (hki : ki = 10) : GI ho mo br be2 nb (kr + 1) M := by
  have e1 : lstGo (-1) (M.take (kr + 1).toNat) g0 = panGo p (gsOf M kr p) := by rw [takeZ hkr hp, lstGo_snoc]; rfl
  subst hki
  refine ⟨by rw [e1]; exact h.1, Or.inr (by rw [e1]; exact h.2), fun j x j1 j2 x1 x2 => ?_⟩
  rw [e]
  rcases (show j < kr ∨ j = kr by omega) with hc | hc
  · unfold plF; rw [if_neg (by omega)]; exact hb j x j1 hc x1 x2
  · subst hc
    unfold plF; rw [if_pos (by omega), show 10 * j + x - 10 * j = x by omega]
    unfold goAll
    rw [e1]
    exact h.1.1 x x1 x2
def BEH (be : Int → Int) (M : List zPn) : Prop := ∀ j x : Int, 0 ≤ j → j < (M.length : Int) → 0 ≤ x → x < 10 → be (10 * j + x) = hdV ((goAll (M.take (j + 1).toNat)).1 x)
theorem GI_end {ho mo br be : Int → Int} {nb kr : Int} {M : List zPn} (h : GI ho mo br be nb kr M) (hk : kr = (M.length : Int)) : RCg ho nb br (goAll M) ∧ BEH be M := by
  subst hk
  have h1 := h.1
  rw [Int.toNat_natCast, List.take_length] at h1
  exact ⟨h1, h.2.2⟩
theorem ordC_pn {al : Int → Int} {L : List zPn} {O : List Int} {ev n : Int} (h : RMb al L O ev n) : ∀ p ∈ ordC L O, pnOK p := fun p hp => (h.2.2.2.2.2.2.1 p ((ordC_perm (RM_nd h) (RM_mem h)).mem_iff.mp hp)).1
theorem FO_at {row al : Int → Int} {M : List zPn} {z : Int} (h : FOr row al M z) {k : Int} (hk : 0 ≤ k ∧ k < (M.length : Int)) : ∃ p : zPn, M[k.toNat]? = some p ∧ (0 ≤ row k ∧ row k < z) ∧ rowH al (row k) p := by
  have hl : k.toNat < M.length := by omega
  refine ⟨M[k.toNat], List.getElem?_eq_getElem hl, ?_⟩
  have := h k.toNat _ (List.getElem?_eq_getElem hl)
  rw [show ((k.toNat : Nat) : Int) = k by omega] at this
  exact this
theorem nbM_rgM {al : Int → Int} {L L2 : List zPn} {O : List Int} {ev n : Int} (h : RMb al L2 O ev n) {j : Nat} {p : zPn} {s pl : Int} (he : ordC L2 O = mvC (ordC L O) O j p s pl) : 0 ≤ nbM (ordC L O) O j p s pl ∧ nbM (ordC L O) O j p s pl ≤ 160 := by
  unfold nbM
  rw [← he]
  have h1 := lstGo_len (ordC L2 O) (-1) g0 (ordC_pn h)
  have h2 := ordC_ln h
  have h3 := h.2.2.1
  have h0 : g0.2.2.length = 0 := rfl
  unfold nbC goAll
  omega
theorem nbC_rgM {al : Int → Int} {L : List zPn} {O : List Int} {ev n : Int} (h : RMb al L O ev n) : 0 ≤ nbC (ordC L O) ∧ nbC (ordC L O) ≤ 160 := by
  have h1 := lstGo_len (ordC L O) (-1) g0 (ordC_pn h)
  have h2 := ordC_ln h
  have h3 := h.2.2.1
  have h0 : g0.2.2.length = 0 := rfl
  unfold nbC goAll
  omega
theorem RM_cp2 {al x y : Int → Int} {L : List zPn} {O : List Int} {ev n : Int} (h : RMb al L O ev n) : RMb (cpF (cpF al x 227) y 227) L O ev n := RM_cg h (fun j j1 j2 => by unfold cpF; rw [if_pos ⟨j1, j2⟩, if_pos ⟨j1, j2⟩])
theorem inC_erM {L : List zPn} {k : Nat} {p : zPn} (h : L[k]? = some p) (s : Int) : inC L s - (if p.2.1 = s then 1 else 0) = inC (L.eraseIdx k) s := by have := inC_erase s h; omega
