/-! new objects, arrays of references -/
section ZN10
variable {p : Program} {l : Launch} {e : Env} {R : Room} {s : State} {m : MethodId} {args : Array Value} {below : List Frame} {meth : Method} {c : Code} {H : Heap} {locs : List Loc} {cells slots : Nat} {Q : State → Prop}
variable {cc : ByteArray} {pc : Nat} {ls : Array Slot} {rest : List Value}
theorem z_newR {A : Nat → Prop} {D : va_G} {cI cB : ClassId} {bs : List va_W} (hexec : p.tables.exec = Jvm.exec) (hb : c.code = cc) {own : String} {index : Nat} (hown : s.vm.findClass own = some m.cls) (hlk : (Cond.classLink own index RX0).before args s = true) (hao : va_AO RX0 s) (hK : ZK D cI cB s) (hA : ∀ q, s.heap.size ≤ q → A q) (hW : zW D A s.heap bs H locs) (hcells : cells + 1 ≤ R.cells) (hslots : slots + 4 ≤ R.slots) (hdg : decode cc pc = .ok (.anewarray index, 3))
    (k : ∀ (q : Nat) (H1 : Heap), zW D A s.heap (bs ++ [[zRefs cB q none none none none]]) H1 locs → W p l e R s m args below meth c H1 locs (cells + 1) (slots + 4) Q (F0 m (pc + 3) ls (.ref q :: rest))) : W p l e R s m args below meth c H locs cells slots Q (F0 m pc ls (.int (zI 4) :: rest)) := by
  refine va_newq (N' := 4) hexec hb hown hlk hao hK.1 hW.1 hW.2.1 hW.2.2 hA (by decide) (by decide) (by decide) hcells hslots hdg (fun q cA H1 g0 g1 g2 g3 => ?_)
  obtain ⟨kA, comp, e1, e2, e3, e4⟩ := (g0.2 1 _ rfl).2
  obtain ⟨kA2, comp2, f1, f2, f3, f4⟩ := (g0.2 2 _ rfl).2
  have e5 : cB = cA := Option.some.inj (e4.symm.trans f4)
  subst e5
  have hnone : (fun _ => none : Nat → Option Nat) = ad4 none none none none := by
    funext j
    unfold ad4
    split
    · rfl
    · split
      · rfl
      · split
        · rfl
        · split <;> rfl
  rw [hnone] at g1 g2
  refine k q H1 ⟨?_, ?_, g3⟩
  · rw [List.flatten_append]; exact g1
  · rw [List.flatten_append]; exact g2
theorem z_newO {A : Nat → Prop} {D : va_G} {cI cB : ClassId} {bs : List va_W} {C : String} {T : u_T} {N ci index : Nat} {Ts : List Cond} (hexec : p.tables.exec = Jvm.exec) (hb : c.code = cc) {own : String} (hts : ∀ w ∈ Ts, w.before args s = true) (hin : ∀ w ∈ u_ws C T N, w ∈ Ts) (ty : Nat → FieldType) (hty : ∀ k, k < N → parseFieldDescriptor (T k).2.2.1 = some (ty k)) (hown : s.vm.findClass own = some m.cls) (hcl : (Cond.classLink own index C).before args s = true) (hinst : (Cond.instantiable C N).before args s = true) (hini : (Cond.initialized C).before args s = true)
    (hK : ZK D cI cB s) (hA : ∀ q, s.heap.size ≤ q → A q) (hW : zW D A s.heap bs H locs) (hc : vwCl[ci]? = some (C, T, N)) {fs : List Value} (hfs : ∀ j, j < N → defaultValue (ty j) = vp_V fs j) (hcells : cells + 1 ≤ R.cells) (hslots : slots + N ≤ R.slots) (hdg : decode cc pc = .ok (.new index, 3))
    (k : ∀ (q : Nat) (H1 : Heap), zW D A s.heap (bs ++ [[(q, .inr (ci, fs))]]) H1 locs → W p l e R s m args below meth c H1 locs (cells + 1) (slots + N) Q (F0 m (pc + 3) ls (.ref q :: rest))) : W p l e R s m args below meth c H locs cells slots Q (F0 m pc ls rest) := by
  refine va_new hexec hb hts hin ty hty hown hcl hinst hini hK.1 hW.1 hW.2.1 hW.2.2 hA hc hfs hcells hslots hdg (fun q H1 g1 g2 g3 => ?_)
  refine k q H1 ⟨?_, ?_, g3⟩
  · rw [List.flatten_append]; exact g1
  · rw [List.flatten_append]; exact g2
theorem df_X0 : ∀ j, j < 9 → defaultValue (tyX0 j) = vp_V [.null, .null, .null, .null, .null, .null, .null, .int (zI 0), .int (zI 0)] j := by
  intro j hj
  rcases (show j = 0 ∨ j = 1 ∨ j = 2 ∨ j = 3 ∨ j = 4 ∨ j = 5 ∨ j = 6 ∨ j = 7 ∨ j = 8 by omega) with rfl | rfl | rfl | rfl | rfl | rfl | rfl | rfl | rfl <;> rfl
theorem df_X1 : ∀ j, j < 6 → defaultValue (tyX1 j) = vp_V [.null, .null, .null, .int (zI 0), .null, .int (zI 0)] j := by
  intro j hj
  rcases (show j = 0 ∨ j = 1 ∨ j = 2 ∨ j = 3 ∨ j = 4 ∨ j = 5 by omega) with rfl | rfl | rfl | rfl | rfl | rfl <;> rfl
theorem df_X2 : ∀ j, j < 2 → defaultValue (tyX2 j) = vp_V [.null, .int (zI 0)] j := by
  intro j hj
  rcases (show j = 0 ∨ j = 1 by omega) with rfl | rfl <;> rfl
theorem df_X3 : ∀ j, j < 6 → defaultValue (tyX3 j) = vp_V [.null, .int (zI 0), .int (zI 0), .int (zI 0), .int (zI 0), .null] j := by
  intro j hj
  rcases (show j = 0 ∨ j = 1 ∨ j = 2 ∨ j = 3 ∨ j = 4 ∨ j = 5 by omega) with rfl | rfl | rfl | rfl | rfl | rfl <;> rfl
end ZN10
