/-! continuity: events, panels, breaks -/
abbrev zEv : Type := Int × Int × Int
abbrev zBk : Type := Int × Int × Int × Int × Int
/-- number, scene, duration, events -/
abbrev zPn : Type := Int × Int × Int × List zEv
/-- who holds each prop (-1 nobody), how each character moved the latest (0 not), the breaks -/
abbrev zGs : Type := (Int → Int) × (Int → Int) × List zBk
def evCode (v : zEv) : Int := v.1 * 100 + v.2.1 * 10 + (if v.2.1 ≤ 2 then v.2.2 else 0)
def evOK (v : zEv) : Prop := (0 ≤ v.1 ∧ v.1 < 4) ∧ (0 ≤ v.2.1 ∧ v.2.1 ≤ 5) ∧ ((v.2.1 ≤ 2 ∧ 0 ≤ v.2.2 ∧ v.2.2 < 10) ∨ (3 ≤ v.2.1 ∧ v.2.2 = -5))
def evStep (num e : Int) (v : zEv) (g : zGs) : zGs :=
  if v.2.1 = 0 then (zU g.1 v.2.2 v.1, g.2.1, if g.1 v.2.2 ≠ -1 then g.2.2 ++ [(num, 1, v.1, v.2.2, e)] else g.2.2)
  else if v.2.1 = 1 then (zU g.1 v.2.2 (-1), g.2.1, if g.1 v.2.2 ≠ v.1 then g.2.2 ++ [(num, 2, v.1, v.2.2, e)] else g.2.2)
  else if v.2.1 = 2 then (zU g.1 v.2.2 v.1, g.2.1, if g.1 v.2.2 ≠ v.1 then g.2.2 ++ [(num, 3, v.1, v.2.2, e)] else g.2.2)
  else if v.2.1 = 5 then (g.1, zU g.2.1 v.1 0, g.2.2)
  else (g.1, zU g.2.1 v.1 v.2.1, if g.2.1 v.1 = 7 - v.2.1 then g.2.2 ++ [(num, 5, v.1, -5, e)] else g.2.2)
def evsGo (num : Int) : Int → List zEv → zGs → zGs
  | _, [], g => g
  | e, v :: l, g => evsGo num (e + 1) l (evStep num e v g)
theorem evsGo_snoc (num : Int) : ∀ (l : List zEv) (e : Int) (v : zEv) (g : zGs), evsGo num e (l ++ [v]) g = evStep num (e + l.length) v (evsGo num e l g)
  | [], e, v, g => by simp [evsGo]
  | w :: l, e, v, g => by
    show evsGo num (e + 1) (l ++ [v]) (evStep num e w g) = _
    rw [evsGo_snoc num l (e + 1) v]
    show evStep num (e + 1 + (l.length : Int)) v _ = evStep num (e + ((l.length + 1 : Nat) : Int)) v _
    congr 1; omega
theorem evsGo_take (num : Int) (l : List zEv) (g : zGs) {k : Nat} (h : k < l.length) : evsGo num 0 (l.take (k + 1)) g = evStep num k l[k] (evsGo num 0 (l.take k) g) := by
  rw [List.take_succ_eq_append_getElem h, evsGo_snoc]
  congr 1
  rw [List.length_take]; omega
/-- an event of the character, with the prop (-5: any) -/
def hasEv (l : List zEv) (who prop : Int) : Bool := l.any (fun v => decide (v.1 = who) && (decide (prop = -5) || decide (v.2.2 = prop)))
def undr (l : List zEv) (h : Int → Int) (who prop : Int) : Bool := hasEv l who (-5) && decide (h prop = who) && !hasEv l who prop
/-- the undrawn ones of a character among the first n props -/
def undrP (num : Int) (l : List zEv) (h : Int → Int) (who : Int) : Nat → List zBk
  | 0 => []
  | n + 1 => undrP num l h who n ++ (if undr l h who n then [(num, 4, who, (n : Int), -5)] else [])
def undrW (num : Int) (l : List zEv) (h : Int → Int) : Nat → List zBk
  | 0 => []
  | n + 1 => undrW num l h n ++ undrP num l h n 10
def panGo (p : zPn) (g : zGs) : zGs :=
  let g1 := evsGo p.1 0 p.2.2.2 g
  (g1.1, g1.2.1, g1.2.2 ++ undrW p.1 p.2.2.2 g1.1 4)
/-- the panels in their order; lat: the scene of the one ahead -/
def lstGo : Int → List zPn → zGs → zGs
  | _, [], g => g
  | lat, p :: l, g => lstGo p.2.1 l (panGo p (g.1, (if p.2.1 = lat then g.2.1 else fun _ => 0), g.2.2))
def g0 : zGs := (fun _ => -1, fun _ => 0, [])
def goAll (l : List zPn) : zGs := lstGo (-1) l g0
/-! at most ten undrawn ones -/
theorem undrP_le (num : Int) (l : List zEv) (h : Int → Int) (who : Int) : ∀ n : Nat, ((undrP num l h who n).length : Int) ≤ zcntN (fun p => decide (h p = who)) n
  | 0 => by simp [undrP, zcntN]
  | n + 1 => by
    have := undrP_le num l h who n
    rw [undrP, zcntN, List.length_append]
    by_cases h1 : h n = who
    · by_cases h2 : undr l h who n
      · simp [h1, h2]; omega
      · simp [h1, h2]; omega
    · have h2 : undr l h who n = false := by unfold undr; simp [h1]
      simp [h1, h2]; omega
theorem zcnt_split (h : Int → Int) (w : Int) : ∀ n : Nat, zcntN (fun p => decide (0 ≤ h p ∧ h p < w)) n + (if 0 ≤ w then zcntN (fun p => decide (h p = w)) n else 0) ≤ (if 0 ≤ w then zcntN (fun p => decide (0 ≤ h p ∧ h p < w + 1)) n else zcntN (fun p => decide (0 ≤ h p ∧ h p < w)) n)
  | 0 => by simp [zcntN]
  | n + 1 => by
    have := zcnt_split h w n
    by_cases hw : 0 ≤ w
    · simp only [zcntN, decide_eq_true_eq, if_pos hw] at this ⊢
      split <;> split <;> split <;> omega
    · simp only [zcntN, decide_eq_true_eq, if_neg hw] at this ⊢
      omega
theorem undrW_le (num : Int) (l : List zEv) (h : Int → Int) : ∀ n : Nat, ((undrW num l h n).length : Int) ≤ zcntN (fun p => decide (0 ≤ h p ∧ h p < (n : Int))) 10
  | 0 => by
    rw [undrW]
    have := (zcntN_le (fun p => decide (0 ≤ h p ∧ h p < ((0 : Nat) : Int))) 10).1
    simpa using this
  | n + 1 => by
    have h1 := undrW_le num l h n
    have h2 := undrP_le num l h n 10
    have h3 := zcnt_split h n 10
    rw [if_pos (by omega), if_pos (by omega)] at h3
    rw [undrW, List.length_append]
    have e : ((n + 1 : Nat) : Int) = (n : Int) + 1 := by omega
    rw [e]
    omega
theorem undrP_mono (num : Int) (l : List zEv) (h : Int → Int) (who : Int) : ∀ (n k : Nat), (undrP num l h who n).length ≤ (undrP num l h who (n + k)).length
  | n, 0 => Nat.le_refl _
  | n, k + 1 => by
    have := undrP_mono num l h who n k
    rw [show n + (k + 1) = (n + k) + 1 by omega, undrP, List.length_append]
    omega
/-- while props of a character are gone through, there are at most ten in all -/
theorem undr_le (num : Int) (l : List zEv) (h : Int → Int) {w n : Nat} (hn : n ≤ 10) : (undrW num l h w).length + (undrP num l h w n).length ≤ 10 := by
  have h1 := undrW_le num l h (w + 1)
  have h2 := (zcntN_le (fun p => decide (0 ≤ h p ∧ h p < ((w + 1 : Nat) : Int))) 10).2
  rw [undrW, List.length_append] at h1
  have h3 := undrP_mono num l h w n (10 - n)
  rw [show n + (10 - n) = 10 by omega] at h3
  omega
theorem undrW_len (num : Int) (l : List zEv) (h : Int → Int) (w : Nat) : (undrW num l h w).length ≤ 10 := by
  have h1 := undr_le num l h (w := w) (n := 0) (by omega)
  omega
theorem evStep_len (num e : Int) (v : zEv) (g : zGs) : (evStep num e v g).2.2.length ≤ g.2.2.length + 1 := by
  unfold evStep
  repeat' split
  all_goals simp
theorem evsGo_len (num : Int) : ∀ (l : List zEv) (e : Int) (g : zGs), (evsGo num e l g).2.2.length ≤ g.2.2.length + l.length
  | [], _, _ => by simp [evsGo]
  | v :: l, e, g => by
    have h1 := evsGo_len num l (e + 1) (evStep num e v g)
    have h2 := evStep_len num e v g
    rw [evsGo, List.length_cons]; omega
theorem panGo_len (p : zPn) (g : zGs) : (panGo p g).2.2.length ≤ g.2.2.length + p.2.2.2.length + 10 := by
  have h1 := evsGo_len p.1 p.2.2.2 0 g
  have h2 := undrW_len p.1 p.2.2.2 (evsGo p.1 0 p.2.2.2 g).1 4
  unfold panGo
  rw [List.length_append]; omega
/-! the ranges of a state -/
def bkOK (v : zBk) : Prop := (0 ≤ v.1 ∧ v.1 < 99) ∧ (1 ≤ v.2.1 ∧ v.2.1 ≤ 5) ∧ (0 ≤ v.2.2.1 ∧ v.2.2.1 < 4) ∧ (-5 ≤ v.2.2.2.1 ∧ v.2.2.2.1 < 10) ∧ -5 ≤ v.2.2.2.2 ∧ v.2.2.2.2 < 6
def gOK (g : zGs) : Prop := (∀ x, -1 ≤ g.1 x ∧ g.1 x < 4) ∧ (∀ x, g.2.1 x = 0 ∨ g.2.1 x = 3 ∨ g.2.1 x = 4) ∧ ∀ v ∈ g.2.2, bkOK v
theorem g0_ok : gOK g0 := ⟨fun _ => by show (-1 : Int) ≤ -1 ∧ (-1 : Int) < 4; decide, fun _ => Or.inl rfl, fun v h => by cases h⟩
theorem zU_all {P : Int → Prop} {f : Int → Int} {i v : Int} (h : ∀ x, P (f x)) (hv : P v) : ∀ x, P (zU f i v x) := by
  intro x; unfold zU; split
  · exact hv
  · exact h x
theorem evStep_ok {num e : Int} {v : zEv} {g : zGs} (hv : evOK v) (hn : 0 ≤ num ∧ num < 99) (he : 0 ≤ e ∧ e < 6) (h : gOK g) : gOK (evStep num e v g) := by
  obtain ⟨h1, h2, h3⟩ := h
  obtain ⟨v1, v2, v3⟩ := hv
  have hb : ∀ {c : Prop} [Decidable c] {b : zBk}, bkOK b → ∀ u ∈ (if c then g.2.2 ++ [b] else g.2.2), bkOK u := by
    intro c _ b hb u hu
    split at hu
    · rcases List.mem_append.mp hu with hu | hu
      · exact h3 u hu
      · rw [List.mem_singleton.mp hu]; exact hb
    · exact h3 u hu
  unfold evStep
  split
  · exact ⟨zU_all (P := fun z => -1 ≤ z ∧ z < 4) h1 (by omega), h2, hb (by unfold bkOK; dsimp only; omega)⟩
  · split
    · exact ⟨zU_all (P := fun z => -1 ≤ z ∧ z < 4) h1 (by omega), h2, hb (by unfold bkOK; dsimp only; omega)⟩
    · split
      · exact ⟨zU_all (P := fun z => -1 ≤ z ∧ z < 4) h1 (by omega), h2, hb (by unfold bkOK; dsimp only; omega)⟩
      · split
        · exact ⟨h1, zU_all (P := fun z => z = 0 ∨ z = 3 ∨ z = 4) h2 (by omega), h3⟩
        · exact ⟨h1, zU_all (P := fun z => z = 0 ∨ z = 3 ∨ z = 4) h2 (by omega), hb (by unfold bkOK; dsimp only; omega)⟩
theorem evsGo_ok {num : Int} (hn : 0 ≤ num ∧ num < 99) : ∀ (l : List zEv) (e : Int) (g : zGs), (∀ v ∈ l, evOK v) → 0 ≤ e → e + l.length ≤ 6 → gOK g → gOK (evsGo num e l g)
  | [], _, _, _, _, _, h => h
  | v :: l, e, g, hv, he, hl, h => by
    rw [List.length_cons] at hl
    exact evsGo_ok hn l (e + 1) _ (fun w hw => hv w (List.mem_cons_of_mem _ hw)) (by omega) (by omega) (evStep_ok (hv v List.mem_cons_self) hn (by omega) h)
def pnOK (p : zPn) : Prop := (0 ≤ p.1 ∧ p.1 < 99) ∧ (0 ≤ p.2.1 ∧ p.2.1 < 5) ∧ (1 ≤ p.2.2.1 ∧ p.2.2.1 ≤ 99) ∧ p.2.2.2.length ≤ 6 ∧ ∀ v ∈ p.2.2.2, evOK v
theorem undrP_ok {num : Int} (hn : 0 ≤ num ∧ num < 99) (l : List zEv) (h : Int → Int) {w : Int} (hw : 0 ≤ w ∧ w < 4) : ∀ n : Nat, n ≤ 10 → ∀ v ∈ undrP num l h w n, bkOK v
  | 0, _, v, hv => by cases hv
  | n + 1, hn2, v, hv => by
    rw [undrP] at hv
    rcases List.mem_append.mp hv with hv | hv
    · exact undrP_ok hn l h hw n (by omega) v hv
    · split at hv
      · rw [List.mem_singleton.mp hv]; unfold bkOK; dsimp only; omega
      · cases hv
theorem undrW_ok {num : Int} (hn : 0 ≤ num ∧ num < 99) (l : List zEv) (h : Int → Int) : ∀ n : Nat, n ≤ 4 → ∀ v ∈ undrW num l h n, bkOK v
  | 0, _, v, hv => by cases hv
  | n + 1, hn2, v, hv => by
    rw [undrW] at hv
    rcases List.mem_append.mp hv with hv | hv
    · exact undrW_ok hn l h n (by omega) v hv
    · exact undrP_ok hn l h (by omega) 10 (by omega) v hv
theorem panGo_ok {p : zPn} {g : zGs} (hp : pnOK p) (h : gOK g) : gOK (panGo p g) := by
  have h1 := evsGo_ok hp.1 p.2.2.2 0 g hp.2.2.2.2 (by omega) (by have := hp.2.2.2.1; omega) h
  refine ⟨h1.1, h1.2.1, fun v hv => ?_⟩
  unfold panGo at hv
  rcases List.mem_append.mp hv with hv | hv
  · exact h1.2.2 v hv
  · exact undrW_ok hp.1 _ _ 4 (by omega) v hv
theorem lstGo_ok : ∀ (l : List zPn) (lat : Int) (g : zGs), (∀ p ∈ l, pnOK p) → gOK g → gOK (lstGo lat l g)
  | [], _, _, _, h => h
  | p :: l, lat, g, hp, h => by
    refine lstGo_ok l _ _ (fun q hq => hp q (List.mem_cons_of_mem _ hq)) (panGo_ok (hp p List.mem_cons_self) ⟨h.1, ?_, h.2.2⟩)
    intro x
    show (if p.2.1 = lat then g.2.1 else fun _ => 0) x = 0 ∨ _
    split
    · exact h.2.1 x
    · exact Or.inl rfl
theorem lstGo_len : ∀ (l : List zPn) (lat : Int) (g : zGs), (∀ p ∈ l, pnOK p) → (lstGo lat l g).2.2.length ≤ g.2.2.length + 16 * l.length
  | [], _, _, _ => by simp [lstGo]
  | p :: l, lat, g, hp => by
    have h1 := lstGo_len l p.2.1 (panGo p (g.1, (if p.2.1 = lat then g.2.1 else fun _ => 0), g.2.2)) (fun q hq => hp q (List.mem_cons_of_mem _ hq))
    have h2 := panGo_len p (g.1, (if p.2.1 = lat then g.2.1 else fun _ => 0), g.2.2)
    have h3 := (hp p List.mem_cons_self).2.2.2.1
    rw [lstGo, List.length_cons]
    simp only at h1 h2 ⊢
    omega
