/-! more rows of numbers; functions of the leaf methods -/
def cellF (g : Int → Int) (n : Nat) (i : Int) : Int := if 0 ≤ i ∧ i < (n : Int) then g i else -1
def setF (g : Int → Int) (n : Nat) (i v : Int) : Int → Int := if 0 ≤ i ∧ i < (n : Int) then zU g i v else g
/-- the first i places from g, the rest from h -/
def cpF (g h : Int → Int) (i : Int) : Int → Int := fun j => if 0 ≤ j ∧ j < i then g j else h j
theorem cpF_0 (g h : Int → Int) : cpF g h 0 = h := by funext j; unfold cpF; rw [if_neg (by omega)]
theorem cpF_s (g h : Int → Int) {i : Int} (hi : 0 ≤ i) : zU (cpF g h i) i (g i) = cpF g h (i + 1) := by
  funext j; unfold cpF zU
  by_cases h1 : j = i
  · subst h1; rw [if_pos rfl, if_pos (by omega)]
  · rw [if_neg h1]
    by_cases h2 : 0 ≤ j ∧ j < i
    · rw [if_pos (by omega : 0 ≤ j ∧ j < i + 1)]; exact if_pos h2
    · rw [if_neg (by omega : ¬ (0 ≤ j ∧ j < i + 1))]; exact if_neg h2
def zL (x : Int) : Int64 := Int64.ofInt x
abbrev R64 (x : Int) : Prop := -9223372036854775808 ≤ x ∧ x < 9223372036854775808
theorem zL_toInt {x : Int} (h : R64 x) : (zL x).toInt = x := Int64.toInt_ofInt_of_le (by omega) (by omega)
def zcmp (x y : Int) : Int := if x < y then -1 else if x = y then 0 else 1
def zchar (x : Int) : Int := x % 65536
theorem nm_0 : (.fieldLinkNest RX4 75 RX0 "size" "I" RX4 : Cond) ∈ nestL := List.mem_of_getElem? (i := 0) rfl
theorem nm_1 : (.fieldLinkNest RX4 198 RX0 "soFar" "I" RX4 : Cond) ∈ nestL := List.mem_of_getElem? (i := 1) rfl
theorem nm_2 : (.fieldLinkNest RX4 132 RX2 "size" "I" RX4 : Cond) ∈ nestL := List.mem_of_getElem? (i := 2) rfl
theorem nm_3 : (.fieldLinkNest RX4 126 RX3 "length" "I" RX4 : Cond) ∈ nestL := List.mem_of_getElem? (i := 3) rfl
theorem nm_4 : (.fieldLinkNest RX0 87 RX3 "scene" "I" RX4 : Cond) ∈ nestL := List.mem_of_getElem? (i := 4) rfl
theorem nm_5 : (.fieldLinkNest RX0 100 RX3 "duration" "I" RX4 : Cond) ∈ nestL := List.mem_of_getElem? (i := 5) rfl
theorem nm_6 : (.fieldLinkNest RX0 103 RX3 "events" "I" RX4 : Cond) ∈ nestL := List.mem_of_getElem? (i := 6) rfl
theorem nm_7 : (.fieldLinkNest RX0 106 RX3 "eventCodes" "[I" RX4 : Cond) ∈ nestL := List.mem_of_getElem? (i := 7) rfl
theorem nm_8 : (.fieldLinkNest RX4 207 RX1 "breaks" "I" RX4 : Cond) ∈ nestL := List.mem_of_getElem? (i := 8) rfl
theorem nm_9 : (.methodLinkNest RX0 40 yX4_fillRow RX4 : Cond) ∈ nestL := List.mem_of_getElem? (i := 9) rfl
theorem nm_10 : (.methodLinkNest RX0 44 yX4_setCell RX4 : Cond) ∈ nestL := List.mem_of_getElem? (i := 10) rfl
theorem nm_11 : (.methodLinkNest RX4 32 yX3_init RX4 : Cond) ∈ nestL := List.mem_of_getElem? (i := 11) rfl
theorem nm_12 : (.methodLinkNest RX4 39 yX1_init RX4 : Cond) ∈ nestL := List.mem_of_getElem? (i := 12) rfl
theorem nm_13 : (.methodLinkNest RX3 62 yX4_cell RX4 : Cond) ∈ nestL := List.mem_of_getElem? (i := 13) rfl
theorem nm_14 : (.methodLinkNest RX3 39 yX4_isScene RX4 : Cond) ∈ nestL := List.mem_of_getElem? (i := 14) rfl
theorem nm_15 : (.methodLinkNest RX3 55 yX4_takesProp RX4 : Cond) ∈ nestL := List.mem_of_getElem? (i := 15) rfl
theorem nm_16 : (.methodLinkNest RX3 58 yX4_codeOf RX4 : Cond) ∈ nestL := List.mem_of_getElem? (i := 16) rfl
theorem nm_17 : (.methodLinkNest RX3 31 yX4_setCell RX4 : Cond) ∈ nestL := List.mem_of_getElem? (i := 17) rfl
theorem nm_18 : (.methodLinkNest RX0 48 yX4_copyRow RX4 : Cond) ∈ nestL := List.mem_of_getElem? (i := 18) rfl
theorem nm_19 : (.methodLinkNest RX0 52 yX4_cell RX4 : Cond) ∈ nestL := List.mem_of_getElem? (i := 19) rfl
theorem nm_20 : (.methodLinkNest RX1 31 yX4_fillRow RX4 : Cond) ∈ nestL := List.mem_of_getElem? (i := 20) rfl
theorem nm_21 : (.methodLinkNest RX1 58 yX4_characterIn RX4 : Cond) ∈ nestL := List.mem_of_getElem? (i := 21) rfl
theorem nm_22 : (.methodLinkNest RX1 61 yX4_kindIn RX4 : Cond) ∈ nestL := List.mem_of_getElem? (i := 22) rfl
theorem nm_23 : (.methodLinkNest RX1 64 yX4_takesProp RX4 : Cond) ∈ nestL := List.mem_of_getElem? (i := 23) rfl
theorem nm_24 : (.methodLinkNest RX1 79 yX4_propIn RX4 : Cond) ∈ nestL := List.mem_of_getElem? (i := 24) rfl
theorem nm_25 : (.methodLinkNest RX1 82 yX4_cell RX4 : Cond) ∈ nestL := List.mem_of_getElem? (i := 25) rfl
theorem nm_26 : (.methodLinkNest RX1 90 yX4_setCell RX4 : Cond) ∈ nestL := List.mem_of_getElem? (i := 26) rfl
section ZR2
variable {p : Program} {l : Launch} {e : Env} {R : Room} {s : State} {m : MethodId} {args : Array Value} {below : List Frame} {meth : Method} {c : Code} {H : Heap} {locs : List Loc} {cells slots : Nat} {Q : State → Prop}
variable {cc : ByteArray} {pc : Nat} {ls : Array Slot} {rest : List Value}
theorem z_iload2 : True := trivial
theorem z_lload_n (hexec : p.tables.exec = Jvm.exec) (hb : c.code = cc) {k : Fin 4} {i : Nat} {x : Int} (hdg : decode cc pc = .ok (.lload_n k, 1)) (hi : (k : Nat) = i) (hl : ls[i]? = some (.val (.long (zL x))))
    (k : W p l e R s m args below meth c H locs cells slots Q (F0 m (pc + 1) ls (.long (zL x) :: rest))) : W p l e R s m args below meth c H locs cells slots Q (F0 m pc ls rest) := lv_lload_n hexec hb hdg hi hl k
theorem z_lload (hexec : p.tables.exec = Jvm.exec) (hb : c.code = cc) {i : Nat} {x : Int} (hdg : decode cc pc = .ok (.lload i, 2)) (hl : ls[i]? = some (.val (.long (zL x))))
    (k : W p l e R s m args below meth c H locs cells slots Q (F0 m (pc + 2) ls (.long (zL x) :: rest))) : W p l e R s m args below meth c H locs cells slots Q (F0 m pc ls rest) := lv_lload hexec hb hdg hl k
theorem z_lconst (hexec : p.tables.exec = Jvm.exec) (hb : c.code = cc) {n : Fin 2} (hdg : decode cc pc = .ok (.lconst n, 1)) (k : W p l e R s m args below meth c H locs cells slots Q (F0 m (pc + 1) ls (.long (zL ((n : Nat) : Int)) :: rest))) : W p l e R s m args below meth c H locs cells slots Q (F0 m pc ls rest) :=
  lv_lconst (v := zL ((n : Nat) : Int)) hexec hb hdg (Int64.ofInt_eq_ofNat).symm k
theorem z_ldc2 {own : String} {index : Nat} {n : Int} {v : Int64} (hexec : p.tables.exec = Jvm.exec) (hb : c.code = cc) (hown : s.vm.findClass own = some m.cls) (hconst : (Jvm.Cond.constantLong own index v).before args s = true) (hv : v = zL n) (hdg : decode cc pc = .ok (.ldc2_w index, 3)) (k : W p l e R s m args below meth c H locs cells slots Q (F0 m (pc + 3) ls (.long (zL n) :: rest))) : W p l e R s m args below meth c H locs cells slots Q (F0 m pc ls rest) := by
  subst hv; exact lv_ldc2 hexec hb hown hconst hdg k
theorem z_lsub (hexec : p.tables.exec = Jvm.exec) (hb : c.code = cc) {x y : Int} (hdg : decode cc pc = .ok (.lsub, 1)) (k : W p l e R s m args below meth c H locs cells slots Q (F0 m (pc + 1) ls (.long (zL (x - y)) :: rest))) : W p l e R s m args below meth c H locs cells slots Q (F0 m pc ls (.long (zL y) :: .long (zL x) :: rest)) :=
  lv_lsub hexec hb hdg (by rw [show zL x - zL y = zL (x - y) from (Int64.ofInt_sub x y).symm]; exact k)
theorem z_i2l (hexec : p.tables.exec = Jvm.exec) (hb : c.code = cc) {x : Int} (hdg : decode cc pc = .ok (.i2l, 1)) (hr : R32 x) (k : W p l e R s m args below meth c H locs cells slots Q (F0 m (pc + 1) ls (.long (zL x) :: rest))) : W p l e R s m args below meth c H locs cells slots Q (F0 m pc ls (.int (zI x) :: rest)) :=
  lv_i2l (v := zL x) hexec hb hdg (by
    have h1 : Int32.minValue.toInt = -2147483648 := by decide
    have h2 : Int32.maxValue.toInt = 2147483647 := by decide
    exact Int32.toInt64_ofInt (by omega) (by omega)) k
theorem z_i2c (hexec : p.tables.exec = Jvm.exec) (hb : c.code = cc) {x : Int} (hdg : decode cc pc = .ok (.i2c, 1)) (k : W p l e R s m args below meth c H locs cells slots Q (F0 m (pc + 1) ls (.int (zI (zchar x)) :: rest))) : W p l e R s m args below meth c H locs cells slots Q (F0 m pc ls (.int (zI x) :: rest)) :=
  lv_i2c (v := zI (zchar x)) hexec hb hdg (by
    rw [pk_char]
    have h : (zI x).toBitVec.toNat = (x % 4294967296).toNat := by
      show (BitVec.ofInt 32 x).toNat = _
      rw [BitVec.toNat_ofInt]; rfl
    rw [h]
    show Int32.ofNat _ = _
    rw [zI_nat]
    congr 1
    unfold zchar
    omega) k
theorem z_lcmp (hexec : p.tables.exec = Jvm.exec) (hb : c.code = cc) {x y : Int} (hdg : decode cc pc = .ok (.lcmp, 1)) (hr : R64 x ∧ R64 y) (k : W p l e R s m args below meth c H locs cells slots Q (F0 m (pc + 1) ls (.int (zI (zcmp x y)) :: rest))) : W p l e R s m args below meth c H locs cells slots Q (F0 m pc ls (.long (zL y) :: .long (zL x) :: rest)) :=
  W.lcmp hexec hb hdg (by
    have h : lg_cmp (zL x) (zL y) = zI (zcmp x y) := by
      unfold lg_cmp zcmp
      simp only [Int64.lt_iff_toInt_lt, ← Int64.toInt_inj, zL_toInt hr.1, zL_toInt hr.2]
      rcases Int.lt_trichotomy x y with h1 | h1 | h1
      · rw [if_neg (by omega), if_neg (by omega), if_pos h1]; decide
      · rw [if_neg (by omega), if_pos h1, if_neg (by omega), if_pos h1]; decide
      · rw [if_pos h1, if_neg (by omega), if_neg (by omega)]; decide
    rw [h]; exact k)
theorem z_tableIn (hexec : p.tables.exec = Jvm.exec) (hb : c.code = cc) {dflt lo hi : Int} {offs : Array Int} {len : Nat} {x k : Int} {off : Int} {tgt : Nat} (hdg : decode cc pc = .ok (.tableswitch dflt lo hi offs, len)) (hk : x = k) (h12 : lo ≤ k ∧ k ≤ hi) (hr : R32 k) (ho : offs[(k - lo).toNat]? = some off) (ht : (pc : Int) + off = (tgt : Int))
    (kk : W p l e R s m args below meth c H locs cells slots Q (F0 m tgt ls rest)) : W p l e R s m args below meth c H locs cells slots Q (F0 m pc ls (.int (zI x) :: rest)) := by
  subst hk
  exact lv_tableIn hexec hb hdg (by rw [zI_toInt hr]; omega) (by rw [zI_toInt hr]; omega) (by rw [zI_toInt hr]; exact ho) ht kk
theorem z_tableOut (hexec : p.tables.exec = Jvm.exec) (hb : c.code = cc) {dflt lo hi : Int} {offs : Array Int} {len : Nat} {x : Int} {tgt : Nat} (hdg : decode cc pc = .ok (.tableswitch dflt lo hi offs, len)) (hr : R32 x) (h : x < lo ∨ hi < x) (ht : (pc : Int) + dflt = (tgt : Int))
    (kk : W p l e R s m args below meth c H locs cells slots Q (F0 m tgt ls rest)) : W p l e R s m args below meth c H locs cells slots Q (F0 m pc ls (.int (zI x) :: rest)) :=
  lv_tableOut hexec hb hdg (by rw [zI_toInt hr]; exact h) ht kk
theorem z_aret {A : Nat → Prop} {D : va_G} {Qz : Option Value → List va_W → Prop} {w1 : List va_W} {v : Value} {rt : FieldType} (hexec : p.tables.exec = Jvm.exec) (hb : c.code = cc) (hr : meth.sig.returnType = some rt) (hlocks : meth.locks = false) (hW : zW D A s.heap w1 H locs) (hdg : decode cc pc = .ok (.areturn, 1)) (hrt : (∃ n, rt = .object n) ∨ ∃ t, rt = .array t) (hv : v = .null ∨ ∃ a, v = .ref a) (hq : Qz (some v) w1) :
    W p l e R s m args below meth c H locs cells slots (MQ below (zQ A D Qz) args s cells slots A) (F0 m pc ls [v]) :=
  W.aret (v := v) hexec hb hr hrt hv (fun t ht _ => ⟨⟨_, w1, rfl, hq, by rw [ht]; exact hW.1, hW.2.1⟩, hW.2.2.F ht⟩) hW.2.2.2.2 hdg hlocks
end ZR2
abbrev zBS : Type := (Int → Int) × (Int → Int) × (Int → Int) × (Int → Int) × (Int → Int) × (Int → Int) × (Int → Int) × Int × Int
abbrev bd_num (b : zBS) : Int → Int := b.1
abbrev bd_scn (b : zBS) : Int → Int := b.2.1
abbrev bd_dur (b : zBS) : Int → Int := b.2.2.1
abbrev bd_cnt (b : zBS) : Int → Int := b.2.2.2.1
abbrev bd_cod (b : zBS) : Int → Int := b.2.2.2.2.1
abbrev bd_lin (b : zBS) : Int → Int := b.2.2.2.2.2.1
abbrev bd_plc (b : zBS) : Int → Int := b.2.2.2.2.2.2.1
abbrev bd_sz (b : zBS) : Int := b.2.2.2.2.2.2.2.1
abbrev bd_sf (b : zBS) : Int := b.2.2.2.2.2.2.2.2
abbrev bd_num_ (b : zBS) (v : Int → Int) : zBS := (v, b.2.1, b.2.2.1, b.2.2.2.1, b.2.2.2.2.1, b.2.2.2.2.2.1, b.2.2.2.2.2.2.1, b.2.2.2.2.2.2.2.1, b.2.2.2.2.2.2.2.2)
abbrev bd_scn_ (b : zBS) (v : Int → Int) : zBS := (b.1, v, b.2.2.1, b.2.2.2.1, b.2.2.2.2.1, b.2.2.2.2.2.1, b.2.2.2.2.2.2.1, b.2.2.2.2.2.2.2.1, b.2.2.2.2.2.2.2.2)
abbrev bd_dur_ (b : zBS) (v : Int → Int) : zBS := (b.1, b.2.1, v, b.2.2.2.1, b.2.2.2.2.1, b.2.2.2.2.2.1, b.2.2.2.2.2.2.1, b.2.2.2.2.2.2.2.1, b.2.2.2.2.2.2.2.2)
abbrev bd_cnt_ (b : zBS) (v : Int → Int) : zBS := (b.1, b.2.1, b.2.2.1, v, b.2.2.2.2.1, b.2.2.2.2.2.1, b.2.2.2.2.2.2.1, b.2.2.2.2.2.2.2.1, b.2.2.2.2.2.2.2.2)
abbrev bd_cod_ (b : zBS) (v : Int → Int) : zBS := (b.1, b.2.1, b.2.2.1, b.2.2.2.1, v, b.2.2.2.2.2.1, b.2.2.2.2.2.2.1, b.2.2.2.2.2.2.2.1, b.2.2.2.2.2.2.2.2)
abbrev bd_lin_ (b : zBS) (v : Int → Int) : zBS := (b.1, b.2.1, b.2.2.1, b.2.2.2.1, b.2.2.2.2.1, v, b.2.2.2.2.2.2.1, b.2.2.2.2.2.2.2.1, b.2.2.2.2.2.2.2.2)
abbrev bd_plc_ (b : zBS) (v : Int → Int) : zBS := (b.1, b.2.1, b.2.2.1, b.2.2.2.1, b.2.2.2.2.1, b.2.2.2.2.2.1, v, b.2.2.2.2.2.2.2.1, b.2.2.2.2.2.2.2.2)
abbrev bd_sz_ (b : zBS) (v : Int) : zBS := (b.1, b.2.1, b.2.2.1, b.2.2.2.1, b.2.2.2.2.1, b.2.2.2.2.2.1, b.2.2.2.2.2.2.1, v, b.2.2.2.2.2.2.2.2)
abbrev bd_sf_ (b : zBS) (v : Int) : zBS := (b.1, b.2.1, b.2.2.1, b.2.2.2.1, b.2.2.2.2.1, b.2.2.2.2.2.1, b.2.2.2.2.2.2.1, b.2.2.2.2.2.2.2.1, v)
def zBoard (cI : ClassId) (a : Nat → Nat) (b : zBS) : va_W := [(a 0, .inr (0, [.ref (a 1), .ref (a 2), .ref (a 3), .ref (a 4), .ref (a 5), .ref (a 6), .ref (a 7), .int (zI (bd_sz b)), .int (zI (bd_sf b))])), zArr cI (a 1) 10 (bd_num b), zArr cI (a 2) 10 (bd_scn b), zArr cI (a 3) 10 (bd_dur b), zArr cI (a 4) 10 (bd_cnt b), zArr cI (a 5) 60 (bd_cod b), zArr cI (a 6) 10 (bd_lin b), zArr cI (a 7) 5 (bd_plc b)]
abbrev zCS : Type := (Int → Int) × (Int → Int) × (Int → Int) × Int × (Int → Int) × Int
abbrev ct_hold (b : zCS) : Int → Int := b.1
abbrev ct_mov (b : zCS) : Int → Int := b.2.1
abbrev ct_drn (b : zCS) : Int → Int := b.2.2.1
abbrev ct_seen (b : zCS) : Int := b.2.2.2.1
abbrev ct_brk (b : zCS) : Int → Int := b.2.2.2.2.1
abbrev ct_nb (b : zCS) : Int := b.2.2.2.2.2
abbrev ct_hold_ (b : zCS) (v : Int → Int) : zCS := (v, b.2.1, b.2.2.1, b.2.2.2.1, b.2.2.2.2.1, b.2.2.2.2.2)
abbrev ct_mov_ (b : zCS) (v : Int → Int) : zCS := (b.1, v, b.2.2.1, b.2.2.2.1, b.2.2.2.2.1, b.2.2.2.2.2)
abbrev ct_drn_ (b : zCS) (v : Int → Int) : zCS := (b.1, b.2.1, v, b.2.2.2.1, b.2.2.2.2.1, b.2.2.2.2.2)
abbrev ct_seen_ (b : zCS) (v : Int) : zCS := (b.1, b.2.1, b.2.2.1, v, b.2.2.2.2.1, b.2.2.2.2.2)
abbrev ct_brk_ (b : zCS) (v : Int → Int) : zCS := (b.1, b.2.1, b.2.2.1, b.2.2.2.1, v, b.2.2.2.2.2)
abbrev ct_nb_ (b : zCS) (v : Int) : zCS := (b.1, b.2.1, b.2.2.1, b.2.2.2.1, b.2.2.2.2.1, v)
def zCont (cI : ClassId) (a : Nat → Nat) (b : zCS) : va_W := [(a 0, .inr (1, [.ref (a 1), .ref (a 2), .ref (a 3), .int (zI (ct_seen b)), .ref (a 4), .int (zI (ct_nb b))])), zArr cI (a 1) 10 (ct_hold b), zArr cI (a 2) 4 (ct_mov b), zArr cI (a 3) 4 (ct_drn b), zArr cI (a 4) 800 (ct_brk b)]
abbrev zTS : Type := (Int → Int) × Int × Int × Int × Int × (Int → Int)
abbrev tx_sig (b : zTS) : Int → Int := b.1
abbrev tx_len (b : zTS) : Int := b.2.1
abbrev tx_scn (b : zTS) : Int := b.2.2.1
abbrev tx_dur (b : zTS) : Int := b.2.2.2.1
abbrev tx_evs (b : zTS) : Int := b.2.2.2.2.1
abbrev tx_cod (b : zTS) : Int → Int := b.2.2.2.2.2
abbrev tx_sig_ (b : zTS) (v : Int → Int) : zTS := (v, b.2.1, b.2.2.1, b.2.2.2.1, b.2.2.2.2.1, b.2.2.2.2.2)
abbrev tx_len_ (b : zTS) (v : Int) : zTS := (b.1, v, b.2.2.1, b.2.2.2.1, b.2.2.2.2.1, b.2.2.2.2.2)
abbrev tx_scn_ (b : zTS) (v : Int) : zTS := (b.1, b.2.1, v, b.2.2.2.1, b.2.2.2.2.1, b.2.2.2.2.2)
abbrev tx_dur_ (b : zTS) (v : Int) : zTS := (b.1, b.2.1, b.2.2.1, v, b.2.2.2.2.1, b.2.2.2.2.2)
abbrev tx_evs_ (b : zTS) (v : Int) : zTS := (b.1, b.2.1, b.2.2.1, b.2.2.2.1, v, b.2.2.2.2.2)
abbrev tx_cod_ (b : zTS) (v : Int → Int) : zTS := (b.1, b.2.1, b.2.2.1, b.2.2.2.1, b.2.2.2.2.1, v)
def zText (cI : ClassId) (a : Nat → Nat) (b : zTS) : va_W := [(a 0, .inr (3, [.ref (a 1), .int (zI (tx_len b)), .int (zI (tx_scn b)), .int (zI (tx_dur b)), .int (zI (tx_evs b)), .ref (a 2)])), zArr cI (a 1) 60 (tx_sig b), zArr cI (a 2) 6 (tx_cod b)]
abbrev zMS : Type := (Int → Int) × (Int → Int) × (Int → Int) × (Int → Int) × Int × (Int → Int) × Int × (Int → Int) × (Int → Int) × (Int → Int) × Int × (Int → Int) × (Int → Int) × (Int → Int) × (Int → Int) × Int × Int × (Int → Int)
abbrev md_all (b : zMS) : Int → Int := b.1
abbrev md_kept (b : zMS) : Int → Int := b.2.1
abbrev md_tri (b : zMS) : Int → Int := b.2.2.1
abbrev md_his (b : zMS) : Int → Int := b.2.2.2.1
abbrev md_hl (b : zMS) : Int := b.2.2.2.2.1
abbrev md_snap (b : zMS) : Int → Int := b.2.2.2.2.2.1
abbrev md_tak (b : zMS) : Int := b.2.2.2.2.2.2.1
abbrev md_out (b : zMS) : Int → Int := b.2.2.2.2.2.2.2.1
abbrev md_row (b : zMS) : Int → Int := b.2.2.2.2.2.2.2.2.1
abbrev md_brk (b : zMS) : Int → Int := b.2.2.2.2.2.2.2.2.2.1
abbrev md_nb (b : zMS) : Int := b.2.2.2.2.2.2.2.2.2.2.1
abbrev md_hold (b : zMS) : Int → Int := b.2.2.2.2.2.2.2.2.2.2.2.1
abbrev md_mov (b : zMS) : Int → Int := b.2.2.2.2.2.2.2.2.2.2.2.2.1
abbrev md_beh (b : zMS) : Int → Int := b.2.2.2.2.2.2.2.2.2.2.2.2.2.1
abbrev md_txt (b : zMS) : Int → Int := b.2.2.2.2.2.2.2.2.2.2.2.2.2.2.1
abbrev md_tl (b : zMS) : Int := b.2.2.2.2.2.2.2.2.2.2.2.2.2.2.2.1
abbrev md_spot (b : zMS) : Int := b.2.2.2.2.2.2.2.2.2.2.2.2.2.2.2.2.1
abbrev md_read (b : zMS) : Int → Int := b.2.2.2.2.2.2.2.2.2.2.2.2.2.2.2.2.2
abbrev md_all_ (b : zMS) (v : Int → Int) : zMS := (v, b.2.1, b.2.2.1, b.2.2.2.1, b.2.2.2.2.1, b.2.2.2.2.2.1, b.2.2.2.2.2.2.1, b.2.2.2.2.2.2.2.1, b.2.2.2.2.2.2.2.2.1, b.2.2.2.2.2.2.2.2.2.1, b.2.2.2.2.2.2.2.2.2.2.1, b.2.2.2.2.2.2.2.2.2.2.2.1, b.2.2.2.2.2.2.2.2.2.2.2.2.1, b.2.2.2.2.2.2.2.2.2.2.2.2.2.1, b.2.2.2.2.2.2.2.2.2.2.2.2.2.2.1, b.2.2.2.2.2.2.2.2.2.2.2.2.2.2.2.1, b.2.2.2.2.2.2.2.2.2.2.2.2.2.2.2.2.1, b.2.2.2.2.2.2.2.2.2.2.2.2.2.2.2.2.2)
abbrev md_kept_ (b : zMS) (v : Int → Int) : zMS := (b.1, v, b.2.2.1, b.2.2.2.1, b.2.2.2.2.1, b.2.2.2.2.2.1, b.2.2.2.2.2.2.1, b.2.2.2.2.2.2.2.1, b.2.2.2.2.2.2.2.2.1, b.2.2.2.2.2.2.2.2.2.1, b.2.2.2.2.2.2.2.2.2.2.1, b.2.2.2.2.2.2.2.2.2.2.2.1, b.2.2.2.2.2.2.2.2.2.2.2.2.1, b.2.2.2.2.2.2.2.2.2.2.2.2.2.1, b.2.2.2.2.2.2.2.2.2.2.2.2.2.2.1, b.2.2.2.2.2.2.2.2.2.2.2.2.2.2.2.1, b.2.2.2.2.2.2.2.2.2.2.2.2.2.2.2.2.1, b.2.2.2.2.2.2.2.2.2.2.2.2.2.2.2.2.2)
abbrev md_tri_ (b : zMS) (v : Int → Int) : zMS := (b.1, b.2.1, v, b.2.2.2.1, b.2.2.2.2.1, b.2.2.2.2.2.1, b.2.2.2.2.2.2.1, b.2.2.2.2.2.2.2.1, b.2.2.2.2.2.2.2.2.1, b.2.2.2.2.2.2.2.2.2.1, b.2.2.2.2.2.2.2.2.2.2.1, b.2.2.2.2.2.2.2.2.2.2.2.1, b.2.2.2.2.2.2.2.2.2.2.2.2.1, b.2.2.2.2.2.2.2.2.2.2.2.2.2.1, b.2.2.2.2.2.2.2.2.2.2.2.2.2.2.1, b.2.2.2.2.2.2.2.2.2.2.2.2.2.2.2.1, b.2.2.2.2.2.2.2.2.2.2.2.2.2.2.2.2.1, b.2.2.2.2.2.2.2.2.2.2.2.2.2.2.2.2.2)
abbrev md_his_ (b : zMS) (v : Int → Int) : zMS := (b.1, b.2.1, b.2.2.1, v, b.2.2.2.2.1, b.2.2.2.2.2.1, b.2.2.2.2.2.2.1, b.2.2.2.2.2.2.2.1, b.2.2.2.2.2.2.2.2.1, b.2.2.2.2.2.2.2.2.2.1, b.2.2.2.2.2.2.2.2.2.2.1, b.2.2.2.2.2.2.2.2.2.2.2.1, b.2.2.2.2.2.2.2.2.2.2.2.2.1, b.2.2.2.2.2.2.2.2.2.2.2.2.2.1, b.2.2.2.2.2.2.2.2.2.2.2.2.2.2.1, b.2.2.2.2.2.2.2.2.2.2.2.2.2.2.2.1, b.2.2.2.2.2.2.2.2.2.2.2.2.2.2.2.2.1, b.2.2.2.2.2.2.2.2.2.2.2.2.2.2.2.2.2)
abbrev md_hl_ (b : zMS) (v : Int) : zMS := (b.1, b.2.1, b.2.2.1, b.2.2.2.1, v, b.2.2.2.2.2.1, b.2.2.2.2.2.2.1, b.2.2.2.2.2.2.2.1, b.2.2.2.2.2.2.2.2.1, b.2.2.2.2.2.2.2.2.2.1, b.2.2.2.2.2.2.2.2.2.2.1, b.2.2.2.2.2.2.2.2.2.2.2.1, b.2.2.2.2.2.2.2.2.2.2.2.2.1, b.2.2.2.2.2.2.2.2.2.2.2.2.2.1, b.2.2.2.2.2.2.2.2.2.2.2.2.2.2.1, b.2.2.2.2.2.2.2.2.2.2.2.2.2.2.2.1, b.2.2.2.2.2.2.2.2.2.2.2.2.2.2.2.2.1, b.2.2.2.2.2.2.2.2.2.2.2.2.2.2.2.2.2)
abbrev md_snap_ (b : zMS) (v : Int → Int) : zMS := (b.1, b.2.1, b.2.2.1, b.2.2.2.1, b.2.2.2.2.1, v, b.2.2.2.2.2.2.1, b.2.2.2.2.2.2.2.1, b.2.2.2.2.2.2.2.2.1, b.2.2.2.2.2.2.2.2.2.1, b.2.2.2.2.2.2.2.2.2.2.1, b.2.2.2.2.2.2.2.2.2.2.2.1, b.2.2.2.2.2.2.2.2.2.2.2.2.1, b.2.2.2.2.2.2.2.2.2.2.2.2.2.1, b.2.2.2.2.2.2.2.2.2.2.2.2.2.2.1, b.2.2.2.2.2.2.2.2.2.2.2.2.2.2.2.1, b.2.2.2.2.2.2.2.2.2.2.2.2.2.2.2.2.1, b.2.2.2.2.2.2.2.2.2.2.2.2.2.2.2.2.2)
abbrev md_tak_ (b : zMS) (v : Int) : zMS := (b.1, b.2.1, b.2.2.1, b.2.2.2.1, b.2.2.2.2.1, b.2.2.2.2.2.1, v, b.2.2.2.2.2.2.2.1, b.2.2.2.2.2.2.2.2.1, b.2.2.2.2.2.2.2.2.2.1, b.2.2.2.2.2.2.2.2.2.2.1, b.2.2.2.2.2.2.2.2.2.2.2.1, b.2.2.2.2.2.2.2.2.2.2.2.2.1, b.2.2.2.2.2.2.2.2.2.2.2.2.2.1, b.2.2.2.2.2.2.2.2.2.2.2.2.2.2.1, b.2.2.2.2.2.2.2.2.2.2.2.2.2.2.2.1, b.2.2.2.2.2.2.2.2.2.2.2.2.2.2.2.2.1, b.2.2.2.2.2.2.2.2.2.2.2.2.2.2.2.2.2)
abbrev md_out_ (b : zMS) (v : Int → Int) : zMS := (b.1, b.2.1, b.2.2.1, b.2.2.2.1, b.2.2.2.2.1, b.2.2.2.2.2.1, b.2.2.2.2.2.2.1, v, b.2.2.2.2.2.2.2.2.1, b.2.2.2.2.2.2.2.2.2.1, b.2.2.2.2.2.2.2.2.2.2.1, b.2.2.2.2.2.2.2.2.2.2.2.1, b.2.2.2.2.2.2.2.2.2.2.2.2.1, b.2.2.2.2.2.2.2.2.2.2.2.2.2.1, b.2.2.2.2.2.2.2.2.2.2.2.2.2.2.1, b.2.2.2.2.2.2.2.2.2.2.2.2.2.2.2.1, b.2.2.2.2.2.2.2.2.2.2.2.2.2.2.2.2.1, b.2.2.2.2.2.2.2.2.2.2.2.2.2.2.2.2.2)
abbrev md_row_ (b : zMS) (v : Int → Int) : zMS := (b.1, b.2.1, b.2.2.1, b.2.2.2.1, b.2.2.2.2.1, b.2.2.2.2.2.1, b.2.2.2.2.2.2.1, b.2.2.2.2.2.2.2.1, v, b.2.2.2.2.2.2.2.2.2.1, b.2.2.2.2.2.2.2.2.2.2.1, b.2.2.2.2.2.2.2.2.2.2.2.1, b.2.2.2.2.2.2.2.2.2.2.2.2.1, b.2.2.2.2.2.2.2.2.2.2.2.2.2.1, b.2.2.2.2.2.2.2.2.2.2.2.2.2.2.1, b.2.2.2.2.2.2.2.2.2.2.2.2.2.2.2.1, b.2.2.2.2.2.2.2.2.2.2.2.2.2.2.2.2.1, b.2.2.2.2.2.2.2.2.2.2.2.2.2.2.2.2.2)
abbrev md_brk_ (b : zMS) (v : Int → Int) : zMS := (b.1, b.2.1, b.2.2.1, b.2.2.2.1, b.2.2.2.2.1, b.2.2.2.2.2.1, b.2.2.2.2.2.2.1, b.2.2.2.2.2.2.2.1, b.2.2.2.2.2.2.2.2.1, v, b.2.2.2.2.2.2.2.2.2.2.1, b.2.2.2.2.2.2.2.2.2.2.2.1, b.2.2.2.2.2.2.2.2.2.2.2.2.1, b.2.2.2.2.2.2.2.2.2.2.2.2.2.1, b.2.2.2.2.2.2.2.2.2.2.2.2.2.2.1, b.2.2.2.2.2.2.2.2.2.2.2.2.2.2.2.1, b.2.2.2.2.2.2.2.2.2.2.2.2.2.2.2.2.1, b.2.2.2.2.2.2.2.2.2.2.2.2.2.2.2.2.2)
abbrev md_nb_ (b : zMS) (v : Int) : zMS := (b.1, b.2.1, b.2.2.1, b.2.2.2.1, b.2.2.2.2.1, b.2.2.2.2.2.1, b.2.2.2.2.2.2.1, b.2.2.2.2.2.2.2.1, b.2.2.2.2.2.2.2.2.1, b.2.2.2.2.2.2.2.2.2.1, v, b.2.2.2.2.2.2.2.2.2.2.2.1, b.2.2.2.2.2.2.2.2.2.2.2.2.1, b.2.2.2.2.2.2.2.2.2.2.2.2.2.1, b.2.2.2.2.2.2.2.2.2.2.2.2.2.2.1, b.2.2.2.2.2.2.2.2.2.2.2.2.2.2.2.1, b.2.2.2.2.2.2.2.2.2.2.2.2.2.2.2.2.1, b.2.2.2.2.2.2.2.2.2.2.2.2.2.2.2.2.2)
abbrev md_hold_ (b : zMS) (v : Int → Int) : zMS := (b.1, b.2.1, b.2.2.1, b.2.2.2.1, b.2.2.2.2.1, b.2.2.2.2.2.1, b.2.2.2.2.2.2.1, b.2.2.2.2.2.2.2.1, b.2.2.2.2.2.2.2.2.1, b.2.2.2.2.2.2.2.2.2.1, b.2.2.2.2.2.2.2.2.2.2.1, v, b.2.2.2.2.2.2.2.2.2.2.2.2.1, b.2.2.2.2.2.2.2.2.2.2.2.2.2.1, b.2.2.2.2.2.2.2.2.2.2.2.2.2.2.1, b.2.2.2.2.2.2.2.2.2.2.2.2.2.2.2.1, b.2.2.2.2.2.2.2.2.2.2.2.2.2.2.2.2.1, b.2.2.2.2.2.2.2.2.2.2.2.2.2.2.2.2.2)
abbrev md_mov_ (b : zMS) (v : Int → Int) : zMS := (b.1, b.2.1, b.2.2.1, b.2.2.2.1, b.2.2.2.2.1, b.2.2.2.2.2.1, b.2.2.2.2.2.2.1, b.2.2.2.2.2.2.2.1, b.2.2.2.2.2.2.2.2.1, b.2.2.2.2.2.2.2.2.2.1, b.2.2.2.2.2.2.2.2.2.2.1, b.2.2.2.2.2.2.2.2.2.2.2.1, v, b.2.2.2.2.2.2.2.2.2.2.2.2.2.1, b.2.2.2.2.2.2.2.2.2.2.2.2.2.2.1, b.2.2.2.2.2.2.2.2.2.2.2.2.2.2.2.1, b.2.2.2.2.2.2.2.2.2.2.2.2.2.2.2.2.1, b.2.2.2.2.2.2.2.2.2.2.2.2.2.2.2.2.2)
abbrev md_beh_ (b : zMS) (v : Int → Int) : zMS := (b.1, b.2.1, b.2.2.1, b.2.2.2.1, b.2.2.2.2.1, b.2.2.2.2.2.1, b.2.2.2.2.2.2.1, b.2.2.2.2.2.2.2.1, b.2.2.2.2.2.2.2.2.1, b.2.2.2.2.2.2.2.2.2.1, b.2.2.2.2.2.2.2.2.2.2.1, b.2.2.2.2.2.2.2.2.2.2.2.1, b.2.2.2.2.2.2.2.2.2.2.2.2.1, v, b.2.2.2.2.2.2.2.2.2.2.2.2.2.2.1, b.2.2.2.2.2.2.2.2.2.2.2.2.2.2.2.1, b.2.2.2.2.2.2.2.2.2.2.2.2.2.2.2.2.1, b.2.2.2.2.2.2.2.2.2.2.2.2.2.2.2.2.2)
abbrev md_txt_ (b : zMS) (v : Int → Int) : zMS := (b.1, b.2.1, b.2.2.1, b.2.2.2.1, b.2.2.2.2.1, b.2.2.2.2.2.1, b.2.2.2.2.2.2.1, b.2.2.2.2.2.2.2.1, b.2.2.2.2.2.2.2.2.1, b.2.2.2.2.2.2.2.2.2.1, b.2.2.2.2.2.2.2.2.2.2.1, b.2.2.2.2.2.2.2.2.2.2.2.1, b.2.2.2.2.2.2.2.2.2.2.2.2.1, b.2.2.2.2.2.2.2.2.2.2.2.2.2.1, v, b.2.2.2.2.2.2.2.2.2.2.2.2.2.2.2.1, b.2.2.2.2.2.2.2.2.2.2.2.2.2.2.2.2.1, b.2.2.2.2.2.2.2.2.2.2.2.2.2.2.2.2.2)
abbrev md_tl_ (b : zMS) (v : Int) : zMS := (b.1, b.2.1, b.2.2.1, b.2.2.2.1, b.2.2.2.2.1, b.2.2.2.2.2.1, b.2.2.2.2.2.2.1, b.2.2.2.2.2.2.2.1, b.2.2.2.2.2.2.2.2.1, b.2.2.2.2.2.2.2.2.2.1, b.2.2.2.2.2.2.2.2.2.2.1, b.2.2.2.2.2.2.2.2.2.2.2.1, b.2.2.2.2.2.2.2.2.2.2.2.2.1, b.2.2.2.2.2.2.2.2.2.2.2.2.2.1, b.2.2.2.2.2.2.2.2.2.2.2.2.2.2.1, v, b.2.2.2.2.2.2.2.2.2.2.2.2.2.2.2.2.1, b.2.2.2.2.2.2.2.2.2.2.2.2.2.2.2.2.2)
abbrev md_spot_ (b : zMS) (v : Int) : zMS := (b.1, b.2.1, b.2.2.1, b.2.2.2.1, b.2.2.2.2.1, b.2.2.2.2.2.1, b.2.2.2.2.2.2.1, b.2.2.2.2.2.2.2.1, b.2.2.2.2.2.2.2.2.1, b.2.2.2.2.2.2.2.2.2.1, b.2.2.2.2.2.2.2.2.2.2.1, b.2.2.2.2.2.2.2.2.2.2.2.1, b.2.2.2.2.2.2.2.2.2.2.2.2.1, b.2.2.2.2.2.2.2.2.2.2.2.2.2.1, b.2.2.2.2.2.2.2.2.2.2.2.2.2.2.1, b.2.2.2.2.2.2.2.2.2.2.2.2.2.2.2.1, v, b.2.2.2.2.2.2.2.2.2.2.2.2.2.2.2.2.2)
abbrev md_read_ (b : zMS) (v : Int → Int) : zMS := (b.1, b.2.1, b.2.2.1, b.2.2.2.1, b.2.2.2.2.1, b.2.2.2.2.2.1, b.2.2.2.2.2.2.1, b.2.2.2.2.2.2.2.1, b.2.2.2.2.2.2.2.2.1, b.2.2.2.2.2.2.2.2.2.1, b.2.2.2.2.2.2.2.2.2.2.1, b.2.2.2.2.2.2.2.2.2.2.2.1, b.2.2.2.2.2.2.2.2.2.2.2.2.1, b.2.2.2.2.2.2.2.2.2.2.2.2.2.1, b.2.2.2.2.2.2.2.2.2.2.2.2.2.2.1, b.2.2.2.2.2.2.2.2.2.2.2.2.2.2.2.1, b.2.2.2.2.2.2.2.2.2.2.2.2.2.2.2.2.1, v)
def zModel (cI : ClassId) (a : Nat → Nat) (b : zMS) : va_W := [(a 0, .inr (5, [.ref (a 1), .ref (a 2), .ref (a 3), .ref (a 4), .int (zI (md_hl b)), .ref (a 5), .int (zI (md_tak b)), .ref (a 6), .ref (a 7), .ref (a 8), .int (zI (md_nb b)), .ref (a 9), .ref (a 10), .ref (a 11), .ref (a 12), .int (zI (md_tl b)), .int (zI (md_spot b)), .ref (a 13)])), zArr cI (a 1) 227 (md_all b), zArr cI (a 2) 227 (md_kept b), zArr cI (a 3) 227 (md_tri b), zArr cI (a 4) 908 (md_his b), zArr cI (a 5) 227 (md_snap b), zArr cI (a 6) 22 (md_out b), zArr cI (a 7) 10 (md_row b), zArr cI (a 8) 850 (md_brk b), zArr cI (a 9) 10 (md_hold b), zArr cI (a 10) 4 (md_mov b), zArr cI (a 11) 100 (md_beh b), zArr cI (a 12) 60 (md_txt b), zArr cI (a 13) 22 (md_read b)]
