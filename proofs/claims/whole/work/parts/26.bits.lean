/-! bits -/
def zshl (x y : Int) : Int := ((x.toNat * 2 ^ y.toNat : Nat) : Int)
def zshr (x y : Int) : Int := ((x.toNat / 2 ^ y.toNat : Nat) : Int)
def zand (x y : Int) : Int := ((x.toNat &&& y.toNat : Nat) : Int)
def zor (x y : Int) : Int := ((x.toNat ||| y.toNat : Nat) : Int)
theorem zI_nat2 {x : Int} (h : 0 ≤ x) : zI x = nI x.toNat := by
  show _ = Int32.ofNat _
  rw [zI_nat]; congr 1; omega
theorem zI_bv {x : Int} (h : 0 ≤ x) : (zI x).toBitVec = BitVec.ofNat 32 x.toNat := by
  show BitVec.ofInt 32 x = _
  rw [show x = ((x.toNat : Nat) : Int) by omega, BitVec.ofInt_natCast]; rfl
theorem zI_or {x y : Int} (hx : 0 ≤ x) (hy : 0 ≤ y) : zI x ||| zI y = zI (zor x y) := by
  apply Int32.toBitVec_inj.1
  rw [Int32.toBitVec_or, zI_bv hx, zI_bv hy, zI_bv (by unfold zor; exact Int.natCast_nonneg _), ← BitVec.ofNat_or]
  rfl
theorem zI_and {x y : Int} (hx : 0 ≤ x) (hy : 0 ≤ y) : zI x &&& zI y = zI (zand x y) := by
  apply Int32.toBitVec_inj.1
  rw [Int32.toBitVec_and, zI_bv hx, zI_bv hy, zI_bv (by unfold zand; exact Int.natCast_nonneg _), ← BitVec.ofNat_and]
  rfl
theorem zsh31 : ∀ n : Nat, n < 32 → (((nI n) &&& 31).toBitVec.smod 32).toNat = n := by decide +kernel
theorem zI_shl {x y : Int} (hx : 0 ≤ x) (hy : 0 ≤ y ∧ y < 32) (hz : zshl x y < 2147483648) : zI x <<< (zI y &&& 31) = zI (zshl x y) := by
  rw [zI_nat2 hx, zI_nat2 hy.1, zI_nat2 (x := zshl x y) (by unfold zshl; exact Int.natCast_nonneg _)]
  rw [pk_shlN _ y.toNat (zsh31 _ (by omega)) (by unfold zshl at hz; omega)]
  rfl
theorem zI_shr {x y : Int} (hx : 0 ≤ x ∧ x < 2147483648) (hy : 0 ≤ y ∧ y < 32) : zI x >>> (zI y &&& 31) = zI (zshr x y) := by
  rw [zI_nat2 hx.1, zI_nat2 hy.1, zI_nat2 (x := zshr x y) (by unfold zshr; exact Int.natCast_nonneg _)]
  rw [pk_shrN (by omega) _ y.toNat (zsh31 _ (by omega))]
  rfl
def zbit (s w : Int) : Bool := s.toNat.testBit w.toNat
theorem zbit_and (s w : Int) : zand (zshr s w) 1 = (if zbit s w then 1 else 0) := by
  unfold zand zshr zbit
  rw [Nat.testBit_eq_decide_div_mod_eq]
  show ((_ &&& 1 : Nat) : Int) = _
  rw [Nat.and_one_is_mod]
  have h : ((s.toNat / 2 ^ w.toNat : Nat) : Int).toNat = s.toNat / 2 ^ w.toNat := Int.toNat_natCast _
  rw [h]
  by_cases h1 : s.toNat / 2 ^ w.toNat % 2 = 1
  · simp [h1]
  · rw [show s.toNat / 2 ^ w.toNat % 2 = 0 by omega]; simp
theorem zbit_or {s w j : Int} (hs : 0 ≤ s) (hw : 0 ≤ w) (hj : 0 ≤ j) : zbit (zor s (zshl 1 w)) j = (zbit s j || decide (w = j)) := by
  unfold zbit zor zshl
  rw [Int.toNat_natCast, Nat.testBit_or]
  congr 1
  show Nat.testBit ((1 * 2 ^ w.toNat : Nat) : Int).toNat j.toNat = _
  rw [Int.toNat_natCast, Nat.one_mul, Nat.testBit_two_pow]
  by_cases h : w = j
  · subst h; simp
  · have : w.toNat ≠ j.toNat := by omega
    simp [h, this]
theorem zshl1_lt {w : Int} (hw : 0 ≤ w ∧ w < 10) : 0 ≤ zshl 1 w ∧ zshl 1 w < 1024 := by
  have h : ∀ n : Nat, n < 10 → 1 * 2 ^ n < 1024 := by decide
  have := h w.toNat (by omega)
  unfold zshl
  show 0 ≤ ((1 * 2 ^ w.toNat : Nat) : Int) ∧ ((1 * 2 ^ w.toNat : Nat) : Int) < 1024
  omega
theorem zor_lt {x y : Int} (hx : 0 ≤ x ∧ x < 1024) (hy : 0 ≤ y ∧ y < 1024) : 0 ≤ zor x y ∧ zor x y < 1024 := by
  have := Nat.or_lt_two_pow (x := x.toNat) (y := y.toNat) (n := 10) (by omega) (by omega)
  unfold zor; omega
theorem zbit_0 (w : Int) : zbit 0 w = false := by unfold zbit; simp
section ZR4
variable {p : Program} {l : Launch} {e : Env} {R : Room} {s : State} {m : MethodId} {args : Array Value} {below : List Frame} {meth : Method} {c : Code} {H : Heap} {locs : List Loc} {cells slots : Nat} {Q : State → Prop}
variable {cc : ByteArray} {pc : Nat} {ls : Array Slot} {rest : List Value}
theorem z_ior (hexec : p.tables.exec = Jvm.exec) (hb : c.code = cc) {x y : Int} (hdg : decode cc pc = .ok (.ior, 1)) (h : 0 ≤ x ∧ 0 ≤ y) (k : W p l e R s m args below meth c H locs cells slots Q (F0 m (pc + 1) ls (.int (zI (zor x y)) :: rest))) : W p l e R s m args below meth c H locs cells slots Q (F0 m pc ls (.int (zI y) :: .int (zI x) :: rest)) :=
  lv_ior hexec hb hdg (by rw [zI_or h.1 h.2]; exact k)
theorem z_iand (hexec : p.tables.exec = Jvm.exec) (hb : c.code = cc) {x y : Int} (hdg : decode cc pc = .ok (.iand, 1)) (h : 0 ≤ x ∧ 0 ≤ y) (k : W p l e R s m args below meth c H locs cells slots Q (F0 m (pc + 1) ls (.int (zI (zand x y)) :: rest))) : W p l e R s m args below meth c H locs cells slots Q (F0 m pc ls (.int (zI y) :: .int (zI x) :: rest)) :=
  lv_iand hexec hb hdg (by rw [zI_and h.1 h.2]; exact k)
theorem z_ishl (hexec : p.tables.exec = Jvm.exec) (hb : c.code = cc) {x y : Int} (hdg : decode cc pc = .ok (.ishl, 1)) (h : (0 ≤ x ∧ 0 ≤ y ∧ y < 32) ∧ zshl x y < 2147483648) (k : W p l e R s m args below meth c H locs cells slots Q (F0 m (pc + 1) ls (.int (zI (zshl x y)) :: rest))) : W p l e R s m args below meth c H locs cells slots Q (F0 m pc ls (.int (zI y) :: .int (zI x) :: rest)) :=
  lv_ishl hexec hb hdg (by rw [zI_shl h.1.1 h.1.2 h.2]; exact k)
theorem z_ishr (hexec : p.tables.exec = Jvm.exec) (hb : c.code = cc) {x y : Int} (hdg : decode cc pc = .ok (.ishr, 1)) (h : (0 ≤ x ∧ x < 2147483648) ∧ 0 ≤ y ∧ y < 32) (k : W p l e R s m args below meth c H locs cells slots Q (F0 m (pc + 1) ls (.int (zI (zshr x y)) :: rest))) : W p l e R s m args below meth c H locs cells slots Q (F0 m pc ls (.int (zI y) :: .int (zI x) :: rest)) :=
  lv_ishr hexec hb hdg (by rw [zI_shr h.1 h.2]; exact k)
end ZR4
