section ZR3
variable {p : Program} {l : Launch} {e : Env} {R : Room} {s : State} {m : MethodId} {args : Array Value} {below : List Frame} {meth : Method} {c : Code} {H : Heap} {locs : List Loc} {cells slots : Nat} {Q : State → Prop}
variable {cc : ByteArray} {pc : Nat} {ls : Array Slot} {rest : List Value}
theorem zperm_cell {w : va_W} {q0 : Nat} {x : Nat × va_E} (h : w[q0]? = some x) : ([[x]] ++ [w.eraseIdx q0] : List va_W).flatten.Perm w := by
  have hl := (List.getElem?_eq_some_iff.mp h).1
  have hx := (List.getElem?_eq_some_iff.mp h).2
  have h2 : w = w.take q0 ++ x :: w.drop (q0 + 1) := by
    rw [← hx, List.getElem_cons_drop hl, List.take_append_drop]
  simp only [List.flatten_append, List.flatten_cons, List.flatten_nil, List.append_nil]
  rw [List.eraseIdx_eq_take_drop_succ]
  show (x :: (w.take q0 ++ w.drop (q0 + 1))).Perm w
  conv => rhs; rw [h2]
  exact (List.perm_middle (a := x)).symm
theorem zperm_set {w : va_W} {q0 : Nat} {x y : Nat × va_E} (h : w[q0]? = some x) : ([[y]] ++ [w.eraseIdx q0] : List va_W).flatten.Perm (w.set q0 y) := by
  have hl := (List.getElem?_eq_some_iff.mp h).1
  have h3 : (w.set q0 y)[q0]? = some y := by rw [List.getElem?_set_self hl]
  have h4 := zperm_cell h3
  have h5 : (w.set q0 y).eraseIdx q0 = w.eraseIdx q0 := by
    rw [List.eraseIdx_eq_take_drop_succ, List.eraseIdx_eq_take_drop_succ, List.take_set_of_le (Nat.le_refl _), List.drop_set_of_lt (by omega)]
  rw [h5] at h4
  exact h4
theorem zW.permF {D : va_G} {A : Nat → Prop} {H0 H : Heap} {bs bs' : List va_W} {locs : List Loc} (h : zW D A H0 bs H locs) (hf : bs'.flatten.Perm bs.flatten) : zW D A H0 bs' H locs := by
  refine ⟨va_P_iff.mpr fun q hq => va_P_iff.mp h.1 q (hf.mem_iff.mp hq), va_D_iff.mpr ⟨?_, fun q hq => (va_D_iff.mp h.2.1).2 q (hf.mem_iff.mp hq)⟩, h.2.2⟩
  exact ((hf.map Prod.fst).nodup_iff).mpr (va_D_iff.mp h.2.1).1
theorem z_cellA {A : Nat → Prop} {D : va_G} {cI cB : ClassId} {bs : List va_W} {nL index : Nat} {Ts : List Cond} {own : String} {a n : Nat} {g : Int → Int} {i : Int}
    (S : CallFix p m c cc nL s args Ts own) (hK : ZK D cI cB s) (hA : ∀ q, s.heap.size ≤ q → A q) (hW : zW D A s.heap bs H locs) (hls : ls.size = nL) (q0 : Nat) (ha : bs.flatten[q0]? = some (zArr cI a n g)) (hG : GoodIn Ts wsX4_cell) (hnest : Cond.methodLinkNest own index yX4_cell RX4 ∈ nestL) (hi1 : Cond.initialized RX4 ∈ Ts) (hi2 : Cond.static yX4_cell ∈ Ts) (hR : 0 + 1 ≤ R.frames ∧ 8 + (2 + 11) + 0 ≤ R.locals)
    (hdg : decode cc pc = .ok (.invokestatic index, 3)) (hi : R32 i ∧ (n : Int) < 2147483648) (hroom : (rest.map fun v => v.category).sum ≤ 8) (hf : cells + 0 ≤ R.cells ∧ slots + 0 ≤ R.slots)
    (k : ∀ (H1 : Heap) (locs1 : List Loc), zW D A s.heap bs H1 locs1 → W p l e R s m args below meth c H1 locs1 cells slots Q (F0 m (pc + 3) ls (.int (zI (cellF g n i)) :: rest))) : W p l e R s m args below meth c H locs cells slots Q (F0 m pc ls (.int (zI i) :: .ref a :: rest)) := by
  have hp := zperm_cell ha
  refine z_callSN (As := [.ref a, .int (zI i)]) (rest := rest) (bs := [[zArr cI a n g], bs.flatten.eraseIdx q0]) S hK hA (hW.permF hp) hls [0] [1] (kX4_cell l D cI cB a n g i hi.2 hi.1) ⟨va_cnB 2 S.2.2.2.2 hG rfl rfl rfl (hK.2 _ hnest) (S.2.2.2.2 _ hi1) (by decide +kernel) hR, S.2.2.2.2 _ hi2, trivial⟩ hdg rfl rfl rfl rfl rfl hroom hf (fun v9 w9 H1 locs1 hq hW1 => ?_)
  obtain ⟨r, rfl, rfl, rfl⟩ := hq
  exact k H1 locs1 (hW1.permF hp.symm)
theorem z_cell {A : Nat → Prop} {D : va_G} {cI cB : ClassId} {bs : List va_W} {nL index : Nat} {Ts : List Cond} {own : String} {a n : Nat} {g : Int → Int} {i : Int}
    (S : CallFix p m c cc nL s args Ts own) (hK : ZK D cI cB s) (hA : ∀ q, s.heap.size ≤ q → A q) (hW : zW D A s.heap bs H locs) (hls : ls.size = nL) (q0 : Nat) (ha : bs.flatten[q0]? = some (zArr cI a n g)) (hG : GoodIn Ts wsX4_cell) (hnest : Cond.methodLinkNest own index yX4_cell RX4 ∈ nestL) (hi1 : Cond.initialized RX4 ∈ Ts) (hi2 : Cond.static yX4_cell ∈ Ts) (hR : 0 + 1 ≤ R.frames ∧ 8 + (2 + 11) + 0 ≤ R.locals)
    (hdg : decode cc pc = .ok (.invokestatic index, 3)) (hi : (0 ≤ i ∧ i < (n : Int)) ∧ (n : Int) < 2147483648) (hroom : (rest.map fun v => v.category).sum ≤ 8) (hf : cells + 0 ≤ R.cells ∧ slots + 0 ≤ R.slots)
    (k : ∀ (H1 : Heap) (locs1 : List Loc), zW D A s.heap bs H1 locs1 → W p l e R s m args below meth c H1 locs1 cells slots Q (F0 m (pc + 3) ls (.int (zI (g i)) :: rest))) : W p l e R s m args below meth c H locs cells slots Q (F0 m pc ls (.int (zI i) :: .ref a :: rest)) :=
  z_cellA S hK hA hW hls q0 ha hG hnest hi1 hi2 hR hdg ⟨by omega, hi.2⟩ hroom hf (fun H1 locs1 hW1 => by
    rw [show cellF g n i = g i from if_pos hi.1]; exact k H1 locs1 hW1)
theorem z_setCellA {A : Nat → Prop} {D : va_G} {cI cB : ClassId} {bs : List va_W} {nL index : Nat} {Ts : List Cond} {own : String} {a n : Nat} {g : Int → Int} {i v : Int} {bs1 : List va_W}
    (S : CallFix p m c cc nL s args Ts own) (hK : ZK D cI cB s) (hA : ∀ q, s.heap.size ≤ q → A q) (hW : zW D A s.heap bs H locs) (hls : ls.size = nL) (q0 : Nat) (ha : bs.flatten[q0]? = some (zArr cI a n g)) (hG : GoodIn Ts wsX4_setCell) (hnest : Cond.methodLinkNest own index yX4_setCell RX4 ∈ nestL) (hi1 : Cond.initialized RX4 ∈ Ts) (hi2 : Cond.static yX4_setCell ∈ Ts) (hR : 0 + 1 ≤ R.frames ∧ 8 + (3 + 11) + 0 ≤ R.locals)
    (hdg : decode cc pc = .ok (.invokestatic index, 3)) (hi : R32 i ∧ (n : Int) < 2147483648) (he : bs.flatten.set q0 (zArr cI a n (setF g n i v)) = bs1.flatten) (hroom : (rest.map fun v => v.category).sum ≤ 8) (hf : cells + 0 ≤ R.cells ∧ slots + 0 ≤ R.slots)
    (k : ∀ (H1 : Heap) (locs1 : List Loc), zW D A s.heap bs1 H1 locs1 → W p l e R s m args below meth c H1 locs1 cells slots Q (F0 m (pc + 3) ls (rest))) : W p l e R s m args below meth c H locs cells slots Q (F0 m pc ls (.int (zI v) :: .int (zI i) :: .ref a :: rest)) := by
  have hp := zperm_cell ha
  refine z_callSN (As := [.ref a, .int (zI i), .int (zI v)]) (rest := rest) (bs := [[zArr cI a n g], bs.flatten.eraseIdx q0]) S hK hA (hW.permF hp) hls [0] [1] (kX4_setCell l D cI cB a n g i v hi.2 hi.1) ⟨va_cnB 3 S.2.2.2.2 hG rfl rfl rfl (hK.2 _ hnest) (S.2.2.2.2 _ hi1) (by decide +kernel) hR, S.2.2.2.2 _ hi2, trivial⟩ hdg rfl rfl rfl rfl rfl hroom hf (fun v9 w9 H1 locs1 hq hW1 => ?_)
  obtain ⟨g1, rfl, rfl, rfl⟩ := hq
  refine k H1 locs1 (hW1.permF ?_)
  rw [← he]
  exact (zperm_set ha).symm
theorem z_setCell {A : Nat → Prop} {D : va_G} {cI cB : ClassId} {bs : List va_W} {nL index : Nat} {Ts : List Cond} {own : String} {a n : Nat} {g : Int → Int} {i v : Int} {bs1 : List va_W}
    (S : CallFix p m c cc nL s args Ts own) (hK : ZK D cI cB s) (hA : ∀ q, s.heap.size ≤ q → A q) (hW : zW D A s.heap bs H locs) (hls : ls.size = nL) (q0 : Nat) (ha : bs.flatten[q0]? = some (zArr cI a n g)) (hG : GoodIn Ts wsX4_setCell) (hnest : Cond.methodLinkNest own index yX4_setCell RX4 ∈ nestL) (hi1 : Cond.initialized RX4 ∈ Ts) (hi2 : Cond.static yX4_setCell ∈ Ts) (hR : 0 + 1 ≤ R.frames ∧ 8 + (3 + 11) + 0 ≤ R.locals)
    (hdg : decode cc pc = .ok (.invokestatic index, 3)) (hi : (0 ≤ i ∧ i < (n : Int)) ∧ (n : Int) < 2147483648) (he : bs.flatten.set q0 (zArr cI a n (zU g i v)) = bs1.flatten) (hroom : (rest.map fun v => v.category).sum ≤ 8) (hf : cells + 0 ≤ R.cells ∧ slots + 0 ≤ R.slots)
    (k : ∀ (H1 : Heap) (locs1 : List Loc), zW D A s.heap bs1 H1 locs1 → W p l e R s m args below meth c H1 locs1 cells slots Q (F0 m (pc + 3) ls (rest))) : W p l e R s m args below meth c H locs cells slots Q (F0 m pc ls (.int (zI v) :: .int (zI i) :: .ref a :: rest)) :=
  z_setCellA S hK hA hW hls q0 ha hG hnest hi1 hi2 hR hdg ⟨by omega, hi.2⟩ (by rw [show setF g n i v = zU g i v from if_pos hi.1]; exact he) hroom hf k
end ZR3
def zsing (bs : List va_W) : List va_W := bs.flatten.map (fun c => [c])
theorem zsing_flat (w : va_W) : (w.map (fun c => [c])).flatten = w := by
  induction w with
  | nil => rfl
  | cons a w ih => simp only [List.map_cons, List.flatten_cons, ih]; rfl
theorem zW.sing {D : va_G} {A : Nat → Prop} {H0 H : Heap} {bs : List va_W} {locs : List Loc} (h : zW D A H0 bs H locs) : zW D A H0 (zsing bs) H locs := by
  unfold zW zsing at *
  rw [zsing_flat]; exact h
theorem zW.unsing {D : va_G} {A : Nat → Prop} {H0 H : Heap} {bs : List va_W} {locs : List Loc} (h : zW D A H0 (zsing bs) H locs) : zW D A H0 bs H locs := by
  unfold zW zsing at *
  rw [zsing_flat] at h; exact h
