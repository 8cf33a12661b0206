theorem zperm_cell2 {w : va_W} {q1 q2 : Nat} {x y : Nat × va_E} (h1 : w[q1]? = some x) (h2 : w[q2]? = some y) (hne : q1 ≠ q2) : ([[x], [y]] ++ [(w.eraseIdx q1).eraseIdx (if q2 < q1 then q2 else q2 - 1)] : List va_W).flatten.Perm w := by
  have h3 : (w.eraseIdx q1)[if q2 < q1 then q2 else q2 - 1]? = some y := by
    rw [List.getElem?_eraseIdx]
    by_cases c : q2 < q1
    · rw [if_pos c, if_pos c]; exact h2
    · rw [if_neg c, if_neg (by omega), show q2 - 1 + 1 = q2 by omega]; exact h2
  have e1 := zperm_cell h1
  have e2 := zperm_cell h3
  simp only [List.flatten_append, List.flatten_cons, List.flatten_nil, List.append_nil, List.singleton_append, List.cons_append, List.nil_append] at e1 e2 ⊢
  exact (e2.cons x).trans e1
theorem zrest_set {w : va_W} {q1 q2 : Nat} {y : Nat × va_E} (hne : q1 ≠ q2) : ((w.set q2 y).eraseIdx q1).eraseIdx (if q2 < q1 then q2 else q2 - 1) = (w.eraseIdx q1).eraseIdx (if q2 < q1 then q2 else q2 - 1) := by
  apply List.ext_getElem?
  intro i
  simp only [List.getElem?_eraseIdx, List.getElem?_set]
  repeat' split
  all_goals first | rfl | (exfalso; omega)
theorem zperm_set2 {w : va_W} {q1 q2 : Nat} {x y z : Nat × va_E} (h1 : w[q1]? = some x) (h2 : w[q2]? = some y) (hne : q1 ≠ q2) : ([[x], [z]] ++ [(w.eraseIdx q1).eraseIdx (if q2 < q1 then q2 else q2 - 1)] : List va_W).flatten.Perm (w.set q2 z) := by
  have hl := (List.getElem?_eq_some_iff.mp h2).1
  have h3 := zperm_cell2 (w := w.set q2 z) (q1 := q1) (q2 := q2) (x := x) (y := z) (by rw [List.getElem?_set_ne (Ne.symm hne)]; exact h1) (by rw [List.getElem?_set_self hl]) hne
  rw [zrest_set hne] at h3
  exact h3
section ZR6
variable {p : Program} {l : Launch} {e : Env} {R : Room} {s : State} {m : MethodId} {args : Array Value} {below : List Frame} {meth : Method} {c : Code} {H : Heap} {locs : List Loc} {cells slots : Nat} {Q : State → Prop}
variable {cc : ByteArray} {pc : Nat} {ls : Array Slot} {rest : List Value}
theorem z_copyRow {A : Nat → Prop} {D : va_G} {cI cB : ClassId} {bs : List va_W} {nL index : Nat} {Ts : List Cond} {own : String} {a a2 n : Nat} {g g2 : Int → Int} {bs1 : List va_W}
    (S : CallFix p m c cc nL s args Ts own) (hK : ZK D cI cB s) (hA : ∀ q, s.heap.size ≤ q → A q) (hW : zW D A s.heap bs H locs) (hls : ls.size = nL) (q1 q2 : Nat) (hne : q1 ≠ q2) (ha : bs.flatten[q1]? = some (zArr cI a n g)) (ha2 : bs.flatten[q2]? = some (zArr cI a2 n g2)) (hG : GoodIn Ts wsX4_copyRow) (hnest : Cond.methodLinkNest own index yX4_copyRow RX4 ∈ nestL) (hi1 : Cond.initialized RX4 ∈ Ts) (hi2 : Cond.static yX4_copyRow ∈ Ts) (hR : 0 + 1 ≤ R.frames ∧ 8 + (3 + 11) + 0 ≤ R.locals)
    (hdg : decode cc pc = .ok (.invokestatic index, 3)) (hn : (n : Int) < 2147483648) (he : bs.flatten.set q2 (zArr cI a2 n (cpF g g2 n)) = bs1.flatten) (hroom : (rest.map fun v => v.category).sum ≤ 8) (hf : cells + 0 ≤ R.cells ∧ slots + 0 ≤ R.slots)
    (k : ∀ (H1 : Heap) (locs1 : List Loc), zW D A s.heap bs1 H1 locs1 → W p l e R s m args below meth c H1 locs1 cells slots Q (F0 m (pc + 3) ls rest)) : W p l e R s m args below meth c H locs cells slots Q (F0 m pc ls (.ref a2 :: .ref a :: rest)) := by
  have hp := zperm_cell2 ha ha2 hne
  refine z_callSN (As := [.ref a, .ref a2]) (rest := rest) (bs := [[zArr cI a n g], [zArr cI a2 n g2], (bs.flatten.eraseIdx q1).eraseIdx (if q2 < q1 then q2 else q2 - 1)]) S hK hA (hW.permF hp) hls [0, 1] [2] (kX4_copyRow l D cI cB a n g a2 g2 hn) ⟨va_cnB 2 S.2.2.2.2 hG rfl rfl rfl (hK.2 _ hnest) (S.2.2.2.2 _ hi1) (by decide +kernel) hR, S.2.2.2.2 _ hi2, trivial⟩ hdg rfl rfl rfl rfl rfl hroom hf (fun v9 w9 H1 locs1 hq hW1 => ?_)
  obtain ⟨rfl, rfl, -⟩ := hq
  refine k H1 locs1 (hW1.permF ?_)
  rw [← he]
  exact (zperm_set2 ha ha2 hne).symm
end ZR6
theorem zfree_eq {b : zBS} {r k : Int} (h : (r = -1 ∧ ∀ j, 0 ≤ j → j < 10 → bd_num b j ≠ -1) ∨ (0 ≤ r ∧ r < 10 ∧ bd_num b r = -1 ∧ ∀ j, 0 ≤ j → j < r → bd_num b j ≠ -1)) (hk : 0 ≤ k ∧ k < 10) (hf : bd_num b k = -1 ∧ ∀ j, 0 ≤ j → j < k → bd_num b j ≠ -1) : r = k := by
  rcases h with ⟨h1, h2⟩ | ⟨h1, h2, h3, h4⟩
  · exact absurd hf.1 (h2 k hk.1 hk.2)
  · rcases Int.lt_trichotomy r k with c | c | c
    · exact absurd h3 (hf.2 _ h1 c)
    · exact c
    · exact absurd hf.1 (h4 k hk.1 c)
