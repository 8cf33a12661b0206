/-! what a panel's events leave in the bits -/
def seenOK (s : Int) (l : List zEv) : Prop := (0 ≤ s ∧ s < 1024) ∧ ∀ w, 0 ≤ w → w < 4 → zbit s w = hasEv l w (-5)
def drnOK (d : Int → Int) (l : List zEv) : Prop := ∀ w, 0 ≤ w → w < 4 → (0 ≤ d w ∧ d w < 1024) ∧ ∀ p, 0 ≤ p → p < 10 → zbit (d w) p = hasEv l w p
theorem hasEv_snoc (l : List zEv) (v : zEv) (w p : Int) : hasEv (l ++ [v]) w p = (hasEv l w p || (decide (v.1 = w) && (decide (p = -5) || decide (v.2.2 = p)))) := by
  unfold hasEv
  rw [List.any_append]
  simp
theorem seenOK_0 : seenOK 0 [] := ⟨by omega, fun w _ _ => by rw [zbit_0]; rfl⟩
theorem drnOK_0 : drnOK (fun _ => 0) [] := fun w _ _ => ⟨by show (0 : Int) ≤ 0 ∧ (0 : Int) < 1024; omega, fun p _ _ => by rw [zbit_0]; rfl⟩
theorem drnOK_congr {d d2 : Int → Int} {l : List zEv} (h : drnOK d l) (he : ∀ w, 0 ≤ w → w < 4 → d2 w = d w) : drnOK d2 l := fun w w1 w2 => by rw [he w w1 w2]; exact h w w1 w2
theorem seenOK_s {s : Int} {l : List zEv} {v : zEv} (h : seenOK s l) (hv : 0 ≤ v.1 ∧ v.1 < 4) : seenOK (zor s (zshl 1 v.1)) (l ++ [v]) := by
  have h1 := zshl1_lt (w := v.1) (by omega)
  refine ⟨zor_lt h.1 h1, fun w w1 w2 => ?_⟩
  rw [zbit_or h.1.1 hv.1 w1, hasEv_snoc, h.2 w w1 w2]
  simp
theorem drnOK_p {d : Int → Int} {l : List zEv} {v : zEv} (h : drnOK d l) (hv : 0 ≤ v.1 ∧ v.1 < 4) (hp : 0 ≤ v.2.2 ∧ v.2.2 < 10) : drnOK (zU d v.1 (zor (d v.1) (zshl 1 v.2.2))) (l ++ [v]) := by
  intro w w1 w2
  have h1 := zshl1_lt (w := v.2.2) (by omega)
  unfold zU
  by_cases hw : w = v.1
  · rw [if_pos hw]
    have h2 := h v.1 hv.1 hv.2
    refine ⟨zor_lt h2.1 h1, fun p p1 p2 => ?_⟩
    rw [zbit_or h2.1.1 hp.1 p1, hasEv_snoc, h2.2 p p1 p2, hw]
    have : p ≠ -5 := by omega
    simp [this]
  · rw [if_neg hw]
    have h2 := h w w1 w2
    refine ⟨h2.1, fun p p1 p2 => ?_⟩
    rw [hasEv_snoc, h2.2 p p1 p2]
    have : ¬ v.1 = w := fun z => hw z.symm
    simp [this]
theorem drnOK_m {d : Int → Int} {l : List zEv} {v : zEv} (h : drnOK d l) (hp : v.2.2 = -5) : drnOK d (l ++ [v]) := by
  intro w w1 w2
  have h2 := h w w1 w2
  refine ⟨h2.1, fun p p1 p2 => ?_⟩
  rw [hasEv_snoc, h2.2 p p1 p2, hp]
  have h3 : p ≠ -5 := by omega
  have h4 : ¬ (-5 : Int) = p := by omega
  simp [h3, h4]
theorem undr_t {s : Int} {d : Int → Int} {l : List zEv} {h : Int → Int} {w p : Int} (hs : seenOK s l) (hd : drnOK d l) (hw : 0 ≤ w ∧ w < 4) (hp : 0 ≤ p ∧ p < 10) : undr l h w p = (zbit s w && decide (h p = w) && !zbit (d w) p) := by
  unfold undr
  rw [hs.2 w hw.1 hw.2, (hd w hw.1 hw.2).2 p hp.1 hp.2]
theorem undrP_s (num : Int) (l : List zEv) (h : Int → Int) (who : Int) {p : Int} (hp : 0 ≤ p) : undrP num l h who (p + 1).toNat = undrP num l h who p.toNat ++ (if undr l h who p then [(num, 4, who, p, -5)] else []) := by
  rw [show (p + 1).toNat = p.toNat + 1 by omega, undrP, show ((p.toNat : Nat) : Int) = p by omega]
theorem undrW_s (num : Int) (l : List zEv) (h : Int → Int) {w : Int} (hw : 0 ≤ w) : undrW num l h (w + 1).toNat = undrW num l h w.toNat ++ undrP num l h w 10 := by
  rw [show (w + 1).toNat = w.toNat + 1 by omega, undrW, show ((w.toNat : Nat) : Int) = w by omega]
/-- one that isn't there has none undrawn -/
theorem undrP_none (num : Int) {l : List zEv} {h : Int → Int} {who : Int} (hn : hasEv l who (-5) = false) : ∀ n : Nat, undrP num l h who n = []
  | 0 => rfl
  | n + 1 => by
    rw [undrP, undrP_none num hn n]
    unfold undr
    simp [hn]
theorem RC_eq {c : zCS} {g g2 : zGs} (h : RC c g) (he : g = g2) : RC c g2 := he ▸ h
/-! a slot that holds a panel -/
def slotHas (b : zBS) (x : Int) (p : zPn) : Prop := bd_num b x = p.1 ∧ bd_scn b x = p.2.1 ∧ bd_dur b x = p.2.2.1 ∧ bd_cnt b x = (p.2.2.2.length : Int) ∧ ∀ (j : Nat) (v : zEv), p.2.2.2[j]? = some v → bd_cod b (x * 6 + (j : Int)) = evCode v
theorem slotHas_cod {b : zBS} {x e : Int} {p : zPn} {v : zEv} (h : slotHas b x p) (he : 0 ≤ e) (hv : p.2.2.2[e.toNat]? = some v) : bd_cod b (x * 6 + e) = evCode v := by
  have h1 := h.2.2.2.2 _ _ hv
  rw [show ((e.toNat : Nat) : Int) = e by omega] at h1
  exact h1
theorem evCode_rg {v : zEv} (h : evOK v) : 0 ≤ evCode v ∧ evCode v < 400 := by
  unfold evOK at h; unfold evCode; split <;> omega
theorem evCode_ch {v : zEv} (h : evOK v) : evCode v / 100 = v.1 := by
  unfold evOK at h; unfold evCode; split <;> omega
theorem evCode_ki {v : zEv} (h : evOK v) : evCode v / 10 % 10 = v.2.1 := by
  unfold evOK at h; unfold evCode; split <;> omega
theorem takeZ {α : Type} {l : List α} {k : Int} {v : α} (hk : 0 ≤ k) (h : l[k.toNat]? = some v) : l.take (k + 1).toNat = l.take k.toNat ++ [v] := by
  obtain ⟨h1, h2⟩ := List.getElem?_eq_some_iff.mp h
  rw [show (k + 1).toNat = k.toNat + 1 by omega, List.take_succ_eq_append_getElem h1, h2]
theorem evsGo_takeZ (num : Int) {l : List zEv} (g : zGs) {k : Int} {v : zEv} (hk : 0 ≤ k) (h : l[k.toNat]? = some v) : evsGo num 0 (l.take (k + 1).toNat) g = evStep num k v (evsGo num 0 (l.take k.toNat) g) := by
  rw [takeZ hk h, evsGo_snoc, List.length_take]
  have h1 := (List.getElem?_eq_some_iff.mp h).1
  congr 1; omega
def lastS : Int → List zPn → Int
  | lat, [] => lat
  | _, p :: l => lastS p.2.1 l
theorem lastS_snoc : ∀ (l : List zPn) (lat : Int) (p : zPn), lastS lat (l ++ [p]) = p.2.1
  | [], _, _ => rfl
  | q :: l, _, p => lastS_snoc l q.2.1 p
theorem lstGo_snoc : ∀ (l : List zPn) (lat : Int) (p : zPn) (g : zGs), lstGo lat (l ++ [p]) g = panGo p ((lstGo lat l g).1, (if p.2.1 = lastS lat l then (lstGo lat l g).2.1 else fun _ => 0), (lstGo lat l g).2.2)
  | [], _, _, _ => rfl
  | q :: l, lat, p, g => lstGo_snoc l q.2.1 p _
