/-! counts and sums over places -/
def zcntN (P : Int → Bool) : Nat → Int
  | 0 => 0
  | n + 1 => zcntN P n + (if P n then 1 else 0)
def zcnt (P : Int → Bool) (k : Int) : Int := zcntN P k.toNat
theorem zcnt_0 (P : Int → Bool) : zcnt P 0 = 0 := rfl
theorem zcnt_s (P : Int → Bool) {k : Int} (h : 0 ≤ k) : zcnt P (k + 1) = zcnt P k + (if P k then 1 else 0) := by
  unfold zcnt
  rw [show (k + 1).toNat = k.toNat + 1 by omega, zcntN, show ((k.toNat : Nat) : Int) = k by omega]
theorem zcntN_le (P : Int → Bool) : ∀ n, 0 ≤ zcntN P n ∧ zcntN P n ≤ n
  | 0 => by simp [zcntN]
  | n + 1 => by
    have := zcntN_le P n
    rw [zcntN]
    split <;> omega
theorem zcnt_le (P : Int → Bool) {k : Int} (h : 0 ≤ k) : 0 ≤ zcnt P k ∧ zcnt P k ≤ k := by
  have := zcntN_le P k.toNat
  unfold zcnt; omega
theorem zcntN_congr {P Q : Int → Bool} : ∀ n : Nat, (∀ j : Int, 0 ≤ j → j < n → P j = Q j) → zcntN P n = zcntN Q n
  | 0, _ => rfl
  | n + 1, h => by
    rw [zcntN, zcntN, zcntN_congr n (fun j h1 h2 => h j h1 (by omega)), h n (by omega) (by omega)]
theorem zcnt_congr {P Q : Int → Bool} {k : Int} (h : ∀ j : Int, 0 ≤ j → j < k → P j = Q j) : zcnt P k = zcnt Q k := by
  unfold zcnt
  exact zcntN_congr _ (fun j h1 h2 => h j h1 (by omega))
def zsumN (f : Int → Int) : Nat → Int
  | 0 => 0
  | n + 1 => zsumN f n + f n
def zsum (f : Int → Int) (k : Int) : Int := zsumN f k.toNat
theorem zsum_0 (f : Int → Int) : zsum f 0 = 0 := rfl
theorem zsum_s (f : Int → Int) {k : Int} (h : 0 ≤ k) : zsum f (k + 1) = zsum f k + f k := by
  unfold zsum
  rw [show (k + 1).toNat = k.toNat + 1 by omega, zsumN, show ((k.toNat : Nat) : Int) = k by omega]
theorem zsumN_le {f : Int → Int} {M : Int} : ∀ n : Nat, (∀ j : Int, 0 ≤ j → j < n → 0 ≤ f j ∧ f j ≤ M) → 0 ≤ zsumN f n ∧ zsumN f n ≤ M * n
  | 0, _ => by simp [zsumN]
  | n + 1, h => by
    have h1 := zsumN_le n (fun j a b => h j a (by omega))
    have h2 := h n (by omega) (by omega)
    rw [zsumN]
    have h3 : M * ((n + 1 : Nat) : Int) = M * n + M := by rw [Int.natCast_add, Int.mul_add]; simp
    omega
theorem zsum_le {f : Int → Int} {M k : Int} (hk : 0 ≤ k) (h : ∀ j : Int, 0 ≤ j → j < k → 0 ≤ f j ∧ f j ≤ M) : 0 ≤ zsum f k ∧ zsum f k ≤ M * k := by
  have h1 := zsumN_le (f := f) (M := M) k.toNat (fun j a b => h j a (by omega))
  rw [show ((k.toNat : Nat) : Int) = k by omega] at h1
  exact h1
/-! the board's rows -/
def BOK (b : zBS) : Prop := (0 ≤ bd_sz b ∧ bd_sz b ≤ 10) ∧ (0 ≤ bd_sf b ∧ bd_sf b ≤ 99) ∧ (∀ k, 0 ≤ k → k < bd_sz b → 0 ≤ bd_lin b k ∧ bd_lin b k < 10) ∧ (∀ k, 0 ≤ k → k < 10 → -1 ≤ bd_num b k ∧ bd_num b k < 99) ∧ (∀ k, 0 ≤ k → k < 10 → 0 ≤ bd_scn b k ∧ bd_scn b k < 5) ∧ (∀ k, 0 ≤ k → k < 10 → 0 ≤ bd_dur b k ∧ bd_dur b k ≤ 99) ∧ (∀ k, 0 ≤ k → k < 10 → 0 ≤ bd_cnt b k ∧ bd_cnt b k ≤ 6) ∧ (∀ k, 0 ≤ k → k < 60 → 0 ≤ bd_cod b k ∧ bd_cod b k < 400) ∧ (∀ k, 0 ≤ k → k < 5 → 0 ≤ bd_plc b k ∧ bd_plc b k < 5)
def nIn (b : zBS) (sc : Int) : Int := zcnt (fun r => decide (bd_scn b (bd_lin b r) = sc)) (bd_sz b)
def nAhead (b : zBS) (sc : Int) : Int := zcnt (fun r => decide (bd_plc b (bd_scn b (bd_lin b r)) < bd_plc b sc)) (bd_sz b)
def ticksB (b : zBS) (k : Int) : Int := zsum (fun r => bd_dur b (bd_lin b r)) k
def evsB (b : zBS) : Int := zsum (fun r => bd_cnt b (bd_lin b r)) (bd_sz b)
def zplacesB (b : zBS) (slot sc : Int) : Int := nIn b sc + (if bd_scn b slot = sc then 0 else 1)
theorem nIn_le {b : zBS} (hB : BOK b) (sc : Int) : 0 ≤ nIn b sc ∧ nIn b sc ≤ 10 := by
  have h := zcnt_le (fun r => decide (bd_scn b (bd_lin b r) = sc)) hB.1.1
  have := hB.1
  unfold nIn; omega
theorem nAhead_le {b : zBS} (hB : BOK b) (sc : Int) : 0 ≤ nAhead b sc ∧ nAhead b sc ≤ bd_sz b := by
  have h := zcnt_le (fun r => decide (bd_plc b (bd_scn b (bd_lin b r)) < bd_plc b sc)) hB.1.1
  unfold nAhead; omega
/-- the slot x stands at the rank k, and nowhere else -/
def atRank (b : zBS) (x k : Int) : Prop := (0 ≤ k ∧ k < bd_sz b) ∧ bd_lin b k = x ∧ ∀ j, 0 ≤ j → j < bd_sz b → bd_lin b j = x → j = k
def remF (g : Int → Int) (k n : Int) : Int → Int := fun j => if k ≤ j ∧ j + 1 < n then g (j + 1) else g j
def insF (g : Int → Int) (k n x : Int) : Int → Int := fun j => if j = k then x else if k < j ∧ j ≤ n then g (j - 1) else g j
def takeOutB (b : zBS) (k : Int) : zBS := bd_sz_ (bd_lin_ b (remF (bd_lin b) k (bd_sz b))) (bd_sz b - 1)
def putInB (b : zBS) (slot sc k : Int) : zBS := bd_sz_ (bd_lin_ (bd_scn_ b (zU (bd_scn b) slot sc)) (insF (bd_lin b) k (bd_sz b) slot)) (bd_sz b + 1)
def zcpB (b b2 : zBS) : zBS := (cpF (bd_num b2) (bd_num b) 10, cpF (bd_scn b2) (bd_scn b) 10, cpF (bd_dur b2) (bd_dur b) 10, cpF (bd_cnt b2) (bd_cnt b) 10, cpF (bd_cod b2) (bd_cod b) 60, cpF (bd_lin b2) (bd_lin b) 10, cpF (bd_plc b2) (bd_plc b) 5, bd_sz b2, bd_sf b2)
