section ZR6m
variable {p : Program} {l : Launch} {e : Env} {R : Room} {s : State} {m : MethodId} {args : Array Value} {below : List Frame} {meth : Method} {c : Code} {H : Heap} {locs : List Loc} {cells slots : Nat} {Q : State → Prop}
variable {cc : ByteArray} {pc : Nat} {ls : Array Slot} {rest : List Value}
theorem z_mcopy {A : Nat → Prop} {D : va_G} {cI cB : ClassId} {bs : List va_W} {nL : Nat} {Ts : List Cond} {a a2 : Nat} {g g2 : Int → Int} {bs1 : List va_W}
    (S : CallFix p m c cc nL s args Ts RX5) (hK : ZK D cI cB s) (hA : ∀ q, s.heap.size ≤ q → A q) (hW : zW D A s.heap bs H locs) (hls : ls.size = nL) (q1 q2 : Nat) (hne : q1 ≠ q2) (ha : bs.flatten[q1]? = some (zArr cI a 227 g)) (ha2 : bs.flatten[q2]? = some (zArr cI a2 227 g2)) (hG : GoodIn Ts (va_wsS RX5 49 yX5_copy wsX5_copy)) (hR : 0 + 1 ≤ R.frames ∧ 8 + (3 + 11) + 0 ≤ R.locals)
    (hdg : decode cc pc = .ok (.invokestatic 49, 3)) (he : bs.flatten.set q2 (zArr cI a2 227 (cpF g g2 227)) = bs1.flatten) (hroom : (rest.map fun v => v.category).sum ≤ 8) (hf : cells + 0 ≤ R.cells ∧ slots + 0 ≤ R.slots)
    (k : ∀ (H1 : Heap) (locs1 : List Loc), zW D A s.heap bs1 H1 locs1 → W p l e R s m args below meth c H1 locs1 cells slots Q (F0 m (pc + 3) ls rest)) : W p l e R s m args below meth c H locs cells slots Q (F0 m pc ls (.ref a2 :: .ref a :: rest)) := by
  have hp := zperm_cell2 ha ha2 hne
  refine z_callS (As := [.ref a, .ref a2]) (rest := rest) (bs := [[zArr cI a 227 g], [zArr cI a2 227 g2], (bs.flatten.eraseIdx q1).eraseIdx (if q2 < q1 then q2 else q2 - 1)]) S hK hA (hW.permF hp) hls [0, 1] [2] (kX5_copy l D cI cB a g a2 g2) (va_cwS 2 S.2.2.2.2 hG rfl rfl rfl (by decide +kernel) hR) hdg rfl rfl rfl rfl rfl hroom hf (fun v9 w9 H1 locs1 hq hW1 => ?_)
  obtain ⟨rfl, rfl, -⟩ := hq
  refine k H1 locs1 (hW1.permF ?_)
  rw [← he]
  exact (zperm_set2 ha ha2 hne).symm
end ZR6m
