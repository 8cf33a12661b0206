section ZR5
variable {p : Program} {l : Launch} {e : Env} {R : Room} {s : State} {m : MethodId} {args : Array Value} {below : List Frame} {meth : Method} {c : Code} {H : Heap} {locs : List Loc} {cells slots : Nat} {Q : State → Prop}
variable {cc : ByteArray} {pc : Nat} {ls : Array Slot} {rest : List Value}
theorem z_fillRow {A : Nat → Prop} {D : va_G} {cI cB : ClassId} {bs : List va_W} {nL index : Nat} {Ts : List Cond} {own : String} {a n : Nat} {g : Int → Int} {v : Int} {bs1 : List va_W}
    (S : CallFix p m c cc nL s args Ts own) (hK : ZK D cI cB s) (hA : ∀ q, s.heap.size ≤ q → A q) (hW : zW D A s.heap bs H locs) (hls : ls.size = nL) (q0 : Nat) (ha : bs.flatten[q0]? = some (zArr cI a n g)) (hG : GoodIn Ts wsX4_fillRow) (hnest : Cond.methodLinkNest own index yX4_fillRow RX4 ∈ nestL) (hi1 : Cond.initialized RX4 ∈ Ts) (hi2 : Cond.static yX4_fillRow ∈ Ts) (hR : 0 + 1 ≤ R.frames ∧ 8 + (3 + 11) + 0 ≤ R.locals)
    (hdg : decode cc pc = .ok (.invokestatic index, 3)) (hn : (n : Int) < 2147483648) (he : bs.flatten.set q0 (zArr cI a n (cpF (fun _ => v) g n)) = bs1.flatten) (hroom : (rest.map fun v => v.category).sum ≤ 8) (hf : cells + 0 ≤ R.cells ∧ slots + 0 ≤ R.slots)
    (k : ∀ (H1 : Heap) (locs1 : List Loc), zW D A s.heap bs1 H1 locs1 → W p l e R s m args below meth c H1 locs1 cells slots Q (F0 m (pc + 3) ls rest)) : W p l e R s m args below meth c H locs cells slots Q (F0 m pc ls (.int (zI v) :: .ref a :: rest)) := by
  have hp := zperm_cell ha
  refine z_callSN (As := [.ref a, .int (zI v)]) (rest := rest) (bs := [[zArr cI a n g], bs.flatten.eraseIdx q0]) S hK hA (hW.permF hp) hls [0] [1] (kX4_fillRow l D cI cB a n g v hn) ⟨va_cnB 2 S.2.2.2.2 hG rfl rfl rfl (hK.2 _ hnest) (S.2.2.2.2 _ hi1) (by decide +kernel) hR, S.2.2.2.2 _ hi2, trivial⟩ hdg rfl rfl rfl rfl rfl hroom hf (fun v9 w9 H1 locs1 hq hW1 => ?_)
  obtain ⟨rfl, rfl, -⟩ := hq
  refine k H1 locs1 (hW1.permF ?_)
  rw [← he]
  exact (zperm_set ha).symm
end ZR5
