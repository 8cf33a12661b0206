/-! new arrays -/
section ZN9
variable {p : Program} {l : Launch} {e : Env} {R : Room} {s : State} {m : MethodId} {args : Array Value} {below : List Frame} {meth : Method} {c : Code} {H : Heap} {locs : List Loc} {cells slots : Nat} {Q : State → Prop}
variable {cc : ByteArray} {pc : Nat} {ls : Array Slot} {rest : List Value}
theorem z_newI {A : Nat → Prop} {D : va_G} {cI cB : ClassId} {bs : List va_W} (hexec : p.tables.exec = Jvm.exec) (hb : c.code = cc) (harr : (Cond.arrayClass .int).before args s = true) (hK : ZK D cI cB s) (hA : ∀ q, s.heap.size ≤ q → A q) (hW : zW D A s.heap bs H locs) (N : Nat) {n : Int} (hn : n = (N : Int)) (hN : N < 1000) (hcells : cells + 1 ≤ R.cells) (hslots : slots + N ≤ R.slots) (hdg : decode cc pc = .ok (.newarray .int, 2))
    (k : ∀ (q : Nat) (H1 : Heap), zW D A s.heap (bs ++ [[zArr cI q N (fun _ => 0)]]) H1 locs → W p l e R s m args below meth c H1 locs (cells + 1) (slots + N) Q (F0 m (pc + 2) ls (.ref q :: rest))) : W p l e R s m args below meth c H locs cells slots Q (F0 m pc ls (.int (zI n) :: rest)) := by
  subst hn
  refine va_newa (atype := .int) (N' := N) (a0 := (N, .inl (zA (fun _ => 0)))) (ty := .int) hexec hb harr rfl hK.1 hW.1 hW.2.1 hW.2.2 hA (fun cA => rfl) ?_ ?_ ?_ hcells hslots hdg (fun q cA H1 g0 g1 g2 g3 => ?_)
  · rw [zI_0, zI_lt (by omega) (by omega)]; omega
  · rw [zI_clamp (by omega)]; rfl
  · show N * 4 ≤ _; omega
  · have e1 := (g0.2 0 _ rfl).2
    have e2 := (g0.2 2 _ rfl).2
    have e3 : cI = cA := Option.some.inj (e1.symm.trans e2)
    subst e3
    refine k q H1 ⟨?_, ?_, g3⟩
    · rw [List.flatten_append]; exact g1
    · rw [List.flatten_append]; exact g2
end ZN9
def adr (L : List Nat) (k : Nat) : Nat := L.getD k 0
theorem zW.flat {D : va_G} {A : Nat → Prop} {H0 H : Heap} {bs bs2 : List va_W} {locs : List Loc} (h : zW D A H0 bs H locs) (he : bs.flatten = bs2.flatten) : zW D A H0 bs2 H locs := by
  unfold zW at h ⊢
  rw [← he]
  exact h
