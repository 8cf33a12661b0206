/-! the order of the scenes, one of them moved -/
def mvP (v bf pl : Int) : Int := if bf < v ∧ v ≤ pl then v - 1 else if v < bf ∧ pl ≤ v then v + 1 else v
def shp (g : Int → Int) (bf pl n : Int) : Int → Int := fun j => if 0 ≤ j ∧ j < n then mvP (g j) bf pl else g j
theorem shp_0 (g : Int → Int) (bf pl : Int) : shp g bf pl 0 = g := by
  funext j; unfold shp; rw [if_neg (by omega)]
theorem shp_s (g : Int → Int) {bf pl k v : Int} (hk : 0 ≤ k) (hv : v = mvP (g k) bf pl) : zU (shp g bf pl k) k v = shp g bf pl (k + 1) := by
  funext j
  unfold zU shp
  by_cases c : j = k
  · rw [if_pos c, if_pos (by omega), c]; exact hv
  · rw [if_neg c]
    by_cases d : 0 ≤ j ∧ j < k
    · rw [if_pos d, if_pos (by omega)]
    · rw [if_neg d, if_neg (by omega)]
theorem shp_n (g : Int → Int) {bf pl k : Int} (hk : 0 ≤ k) (hv : mvP (g k) bf pl = g k) : shp g bf pl k = shp g bf pl (k + 1) := by
  funext j
  unfold shp
  by_cases c : j = k
  · rw [if_neg (by omega), if_pos (by omega), c]; exact hv.symm
  · by_cases d : 0 ≤ j ∧ j < k
    · rw [if_pos d, if_pos (by omega)]
    · rw [if_neg d, if_neg (by omega)]
theorem shp_at (g : Int → Int) {bf pl k : Int} : shp g bf pl k k = g k := by
  unfold shp; rw [if_neg (by omega)]
theorem mvP_a {v bf pl : Int} (h : bf < v ∧ v ≤ pl) : mvP v bf pl = v - 1 := by unfold mvP; rw [if_pos h]
theorem mvP_b {v bf pl : Int} (h : v < bf ∧ pl ≤ v) : mvP v bf pl = v + 1 := by unfold mvP; rw [if_neg (by omega), if_pos h]
theorem mvP_n {v bf pl : Int} (h : ¬ (bf < v ∧ v ≤ pl)) (h2 : ¬ (v < bf ∧ pl ≤ v)) : mvP v bf pl = v := by unfold mvP; rw [if_neg h, if_neg h2]
theorem BOK_plc {b : zBS} (hB : BOK b) {g : Int → Int} (h : ∀ k, 0 ≤ k → k < 5 → 0 ≤ g k ∧ g k < 5) : BOK (bd_plc_ b g) := by
  obtain ⟨h1, h2, h3, h4, h5, h6, h7, h8, h9⟩ := hB
  exact ⟨h1, h2, h3, h4, h5, h6, h7, h8, h⟩
def plcM (b : zBS) (s pl : Int) : Int → Int := zU (shp (bd_plc b) (bd_plc b s) pl 5) s pl
theorem plcM_rg {b : zBS} (hB : BOK b) {s pl : Int} (hs : 0 ≤ s ∧ s < 5) (hp : 0 ≤ pl ∧ pl < 5) : ∀ k, 0 ≤ k → k < 5 → 0 ≤ plcM b s pl k ∧ plcM b s pl k < 5 := by
  intro k k1 k2
  have h1 := hB.2.2.2.2.2.2.2.2 k k1 k2
  have h2 := hB.2.2.2.2.2.2.2.2 s hs.1 hs.2
  unfold plcM zU shp mvP
  split
  · exact hp
  · rw [if_pos (by omega)]
    split
    · omega
    · split <;> omega
theorem idx_of {l : List Int} (hn : l.Nodup) : ∀ {k : Nat} {s : Int}, l[k]? = some s → l.idxOf s = k := by
  induction l with
  | nil => intro k s h; simp at h
  | cons a l ih =>
    intro k s h
    rw [List.nodup_cons] at hn
    cases k with
    | zero =>
      rw [List.getElem?_cons_zero] at h
      cases h
      rw [List.idxOf_cons]; simp
    | succ k =>
      rw [List.getElem?_cons_succ] at h
      have hne : a ≠ s := fun c => hn.1 (by rw [c]; exact List.mem_of_getElem? h)
      rw [List.idxOf_cons, ih hn.2 h, show (a == s) = false from beq_false_of_ne hne]
      rfl
/-- the scenes, s at the place pl -/
def mvO (pO : List Int) (s pl : Int) : List Int := ((pO.eraseIdx (pO.idxOf s)).take pl.toNat) ++ s :: ((pO.eraseIdx (pO.idxOf s)).drop pl.toNat)
theorem idx_get {l : List Int} {s : Int} (h : s ∈ l) : l[l.idxOf s]? = some s := by
  rw [List.getElem?_eq_getElem (List.idxOf_lt_length_of_mem h)]
  exact congrArg some (List.getElem_idxOf _)
theorem mvO_perm {pO : List Int} {s : Int} (h : s ∈ pO) (pl : Int) : (mvO pO s pl).Perm pO := by
  unfold mvO
  refine (List.perm_middle.trans ?_).trans (zerase_perm (idx_get h))
  rw [List.take_append_drop]
theorem mvO_get (l : List Int) {k : Nat} (q : Int) (hk : k ≤ l.length) (j : Nat) : (l.take k ++ q :: l.drop k)[j]? = if j < k then l[j]? else if j = k then some q else l[j - 1]? := by
  by_cases c : j < k
  · rw [if_pos c, List.getElem?_append_left (by rw [List.length_take]; omega), List.getElem?_take, if_pos c]
  · rw [if_neg c, List.getElem?_append_right (by rw [List.length_take]; omega), List.length_take]
    by_cases d : j = k
    · rw [if_pos d, show j - min k l.length = 0 by omega]; rfl
    · rw [if_neg d]
      obtain ⟨t, ht⟩ : ∃ t, j - min k l.length = t + 1 := ⟨j - min k l.length - 1, by omega⟩
      rw [ht, List.getElem?_cons_succ, List.getElem?_drop]
      congr 1; omega
theorem mvO_idx {pO : List Int} (hO : pO.Perm [0, 1, 2, 3, 4]) {s pl t : Int} (hs : 0 ≤ s ∧ s < 5) (hp : 0 ≤ pl ∧ pl < 5) (ht : 0 ≤ t ∧ t < 5) : ((mvO pO s pl).idxOf t : Int) = if t = s then pl else mvP (pO.idxOf t : Int) (pO.idxOf s : Int) pl := by
  have hmem : ∀ u : Int, 0 ≤ u → u < 5 → u ∈ pO := fun u h1 h2 => by
    refine hO.mem_iff.mpr ?_
    simp only [List.mem_cons, List.not_mem_nil, or_false]
    omega
  have hnd : pO.Nodup := hO.nodup_iff.mpr (by decide)
  have hlen : pO.length = 5 := hO.length_eq
  have hsm := hmem s hs.1 hs.2
  have htm := hmem t ht.1 ht.2
  have hsl : pO.idxOf s < pO.length := List.idxOf_lt_length_of_mem hsm
  have htl : pO.idxOf t < pO.length := List.idxOf_lt_length_of_mem htm
  have hel : (pO.eraseIdx (pO.idxOf s)).length = 4 := by rw [List.length_eraseIdx_of_lt hsl]; omega
  have hnd2 : (mvO pO s pl).Nodup := (mvO_perm hsm pl).nodup_iff.mpr hnd
  have hsg := idx_get hsm
  have htg := idx_get htm
  by_cases c : t = s
  · rw [if_pos c, c]
    have h1 : (mvO pO s pl)[pl.toNat]? = some s := by
      unfold mvO
      rw [mvO_get _ _ (by omega), if_neg (by omega), if_pos rfl]
    rw [idx_of hnd2 h1]; omega
  · rw [if_neg c]
    have hne : pO.idxOf t ≠ pO.idxOf s := fun h => c (by rw [h, hsg] at htg; exact (Option.some.inj htg).symm)
    have key : ∀ k : Nat, (mvO pO s pl)[k]? = some t → (k : Int) = mvP (pO.idxOf t : Int) (pO.idxOf s : Int) pl → ((mvO pO s pl).idxOf t : Int) = mvP (pO.idxOf t : Int) (pO.idxOf s : Int) pl := by
      intro k hk he
      rw [idx_of hnd2 hk]; exact he
    by_cases a : pO.idxOf t < pO.idxOf s
    · by_cases d : (pO.idxOf t : Int) < pl
      · refine key (pO.idxOf t) ?_ (by rw [mvP_n (by omega) (by omega)])
        unfold mvO
        rw [mvO_get _ _ (by omega), if_pos (by omega), List.getElem?_eraseIdx, if_pos a]; exact htg
      · refine key (pO.idxOf t + 1) ?_ (by rw [mvP_b (by omega)]; omega)
        unfold mvO
        rw [mvO_get _ _ (by omega), if_neg (by omega), if_neg (by omega), Nat.add_sub_cancel, List.getElem?_eraseIdx, if_pos a]; exact htg
    · by_cases d : (pO.idxOf t : Int) - 1 < pl
      · refine key (pO.idxOf t - 1) ?_ (by rw [mvP_a (by omega)]; omega)
        unfold mvO
        rw [mvO_get _ _ (by omega), if_pos (by omega), List.getElem?_eraseIdx, if_neg (by omega), show pO.idxOf t - 1 + 1 = pO.idxOf t by omega]; exact htg
      · refine key (pO.idxOf t) ?_ (by rw [mvP_n (by omega) (by omega)])
        unfold mvO
        rw [mvO_get _ _ (by omega), if_neg (by omega), if_neg (by omega), List.getElem?_eraseIdx, if_neg (by omega), show pO.idxOf t - 1 + 1 = pO.idxOf t by omega]; exact htg
theorem zU_5 {g : Int → Int} {k v : Int} (h : ∀ j, 0 ≤ j → j < 5 → 0 ≤ g j ∧ g j < 5) (hv : 0 ≤ v ∧ v < 5) : ∀ j, 0 ≤ j → j < 5 → 0 ≤ zU g k v j ∧ zU g k v j < 5 := by
  intro j h1 h2
  unfold zU
  split
  · exact hv
  · exact h j h1 h2
