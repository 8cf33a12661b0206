theorem zplacesB_le {b : zBS} (hB : BOK b) (x y : Int) : 0 ≤ zplacesB b x y ∧ zplacesB b x y ≤ 11 := by
  have := nIn_le hB y
  unfold zplacesB; split <;> omega
theorem remF_0 (g : Int → Int) (k : Int) : remF g k (k + 1) = g := by
  funext j; unfold remF; rw [if_neg (by omega)]
theorem remF_s (g : Int → Int) {k i : Int} (h : k + 1 ≤ i) : zU (remF g k i) (i - 1) (remF g k i i) = remF g k (i + 1) := by
  funext j
  unfold zU
  by_cases h1 : j = i - 1
  · rw [if_pos h1]
    unfold remF
    rw [if_neg (by omega), if_pos (by omega), h1]
    congr 1; omega
  · rw [if_neg h1]
    unfold remF
    by_cases h2 : k ≤ j ∧ j + 1 < i
    · rw [if_pos h2, if_pos (by omega)]
    · rw [if_neg h2, if_neg (by omega)]
def shF (g : Int → Int) (i n : Int) : Int → Int := fun j => if i < j ∧ j ≤ n then g (j - 1) else g j
theorem shF_0 (g : Int → Int) (n : Int) : shF g n n = g := by
  funext j; unfold shF; rw [if_neg (by omega)]
theorem shF_s (g : Int → Int) {i n : Int} (h : i ≤ n) : zU (shF g i n) i (shF g i n (i - 1)) = shF g (i + (-1)) n := by
  funext j
  unfold zU
  by_cases h1 : j = i
  · rw [if_pos h1]
    unfold shF
    rw [if_neg (by omega), if_pos (by omega), h1]
  · rw [if_neg h1]
    unfold shF
    by_cases h2 : i < j ∧ j ≤ n
    · rw [if_pos h2, if_pos (by omega)]
    · rw [if_neg h2, if_neg (by omega)]
theorem insF_s (g : Int → Int) {k n x : Int} (h : k ≤ n) : zU (shF g k n) k x = insF g k n x := by
  funext j
  unfold zU insF shF
  rfl
theorem BOK_scn {b : zBS} (hB : BOK b) {x y : Int} (_hx : 0 ≤ x ∧ x < 10) (hy : 0 ≤ y ∧ y < 5) : BOK (bd_scn_ b (zU (bd_scn b) x y)) := by
  obtain ⟨h1, h2, h3, h4, h5, h6⟩ := hB
  refine ⟨h1, h2, h3, h4, fun k k1 k2 => ?_, h6⟩
  show 0 ≤ zU (bd_scn b) x y k ∧ zU (bd_scn b) x y k < 5
  unfold zU
  split
  · exact hy
  · exact h5 k k1 k2
def drwF (g : Int → Int) (x : Int) (h : Int → Int) (i : Int) : Int → Int := fun j => if x * 6 ≤ j ∧ j < x * 6 + i then h (j - x * 6) else g j
theorem drwF_0 (g : Int → Int) (x : Int) (h : Int → Int) : drwF g x h 0 = g := by
  funext j; unfold drwF; rw [if_neg (by omega)]
theorem drwF_s (g : Int → Int) {x : Int} (h : Int → Int) {i : Int} (hi : 0 ≤ i) : zU (drwF g x h i) (x * 6 + i) (h i) = drwF g x h (i + 1) := by
  funext j
  unfold zU
  by_cases h1 : j = x * 6 + i
  · rw [if_pos h1]
    unfold drwF
    rw [if_pos (by omega), h1]
    congr 1; omega
  · rw [if_neg h1]
    unfold drwF
    by_cases h2 : x * 6 ≤ j ∧ j < x * 6 + i
    · rw [if_pos h2, if_pos (by omega)]
    · rw [if_neg h2, if_neg (by omega)]
def drawB (b : zBS) (x : Int) (t : zTS) : zBS := bd_cod_ (bd_cnt_ (bd_dur_ b (zU (bd_dur b) x (tx_dur t))) (zU (bd_cnt b) x (tx_evs t))) (drwF (bd_cod b) x (tx_cod t) 6)
