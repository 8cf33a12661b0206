/-! four references to boards -/
def ad4 (w x y z : Option Nat) : Nat → Option Nat := fun j => if j = 0 then w else if j = 1 then x else if j = 2 then y else if j = 3 then z else none
def zRefs (cB : ClassId) (a : Nat) (w x y z : Option Nat) : Nat × va_E := (a, .inl (cB, 4, .inr (.inr (.inr (.inr (ad4 w x y z))))))
def ad4v (w x y z : Nat) (i : Int) : Nat := if i = 0 then w else if i = 1 then x else if i = 2 then y else z
theorem ad4_at {w x y z : Nat} {i : Int} (h : 0 ≤ i ∧ i < 4) : ad4 (some w) (some x) (some y) (some z) i.toNat = some (ad4v w x y z i) := by
  rcases (show i = 0 ∨ i = 1 ∨ i = 2 ∨ i = 3 by omega) with rfl | rfl | rfl | rfl <;> rfl
theorem ad4_up {w x y z w2 x2 y2 z2 : Option Nat} {v : Nat} {i : Int} (h : 0 ≤ i ∧ i < 4) (h0 : w2 = if i = 0 then some v else w) (h1 : x2 = if i = 1 then some v else x) (h2 : y2 = if i = 2 then some v else y) (h3 : z2 = if i = 3 then some v else z) : va_up (ad4 w x y z) i.toNat (some v) = ad4 w2 x2 y2 z2 := by
  funext j
  subst h0 h1 h2 h3
  by_cases j0 : j = 0
  · subst j0
    rcases (show i = 0 ∨ i = 1 ∨ i = 2 ∨ i = 3 by omega) with rfl | rfl | rfl | rfl <;> rfl
  · by_cases j1 : j = 1
    · subst j1
      rcases (show i = 0 ∨ i = 1 ∨ i = 2 ∨ i = 3 by omega) with rfl | rfl | rfl | rfl <;> rfl
    · by_cases j2 : j = 2
      · subst j2
        rcases (show i = 0 ∨ i = 1 ∨ i = 2 ∨ i = 3 by omega) with rfl | rfl | rfl | rfl <;> rfl
      · by_cases j3 : j = 3
        · subst j3
          rcases (show i = 0 ∨ i = 1 ∨ i = 2 ∨ i = 3 by omega) with rfl | rfl | rfl | rfl <;> rfl
        · unfold va_up ad4
          rw [if_neg (by omega), if_neg j0, if_neg j1, if_neg j2, if_neg j3, if_neg j0, if_neg j1, if_neg j2, if_neg j3]
section ZR8
variable {p : Program} {l : Launch} {e : Env} {R : Room} {s : State} {m : MethodId} {args : Array Value} {below : List Frame} {meth : Method} {c : Code} {H : Heap} {locs : List Loc} {cells slots : Nat} {Q : State → Prop}
variable {cc : ByteArray} {pc : Nat} {ls : Array Slot} {rest : List Value}
theorem z_aald {A : Nat → Prop} {D : va_G} {cI cB : ClassId} {bs : List va_W} (hexec : p.tables.exec = Jvm.exec) (hb : c.code = cc) (hK : ZK D cI cB s) (hW : zW D A s.heap bs H locs) (q0 : Nat) {a r : Nat} {w x y z : Option Nat} {i : Int} (ha : bs.flatten[q0]? = some (zRefs cB a w x y z)) (hdg : decode cc pc = .ok (.aaload, 1)) (hi : 0 ≤ i ∧ i < 4) (hf : ad4 w x y z i.toNat = some r)
    (k : W p l e R s m args below meth c H locs cells slots Q (F0 m (pc + 1) ls (.ref r :: rest))) : W p l e R s m args below meth c H locs cells slots Q (F0 m pc ls (.int (zI i) :: .ref a :: rest)) :=
  va_aldq hexec hb hK.1 hW.1 q0 1 ha rfl (zI_in (n := 4) hi (by omega)) hdg (by rw [zI_clamp (by omega), hf]; exact k)
theorem z_aast {A : Nat → Prop} {D : va_G} {cI cB : ClassId} {bs bs1 : List va_W} (hexec : p.tables.exec = Jvm.exec) (hb : c.code = cc) (hK : ZK D cI cB s) (hW : zW D A s.heap bs H locs) (q0 qk : Nat) {a v : Nat} {vs : List Value} {w x y z w2 x2 y2 z2 : Option Nat} {i : Int} (ha : bs.flatten[q0]? = some (zRefs cB a w x y z)) (hv : bs.flatten[qk]? = some (v, .inr (0, vs))) (hdg : decode cc pc = .ok (.aastore, 1)) (hi : 0 ≤ i ∧ i < 4) (h0 : w2 = if i = 0 then some v else w) (h1 : x2 = if i = 1 then some v else x) (h2 : y2 = if i = 2 then some v else y) (h3 : z2 = if i = 3 then some v else z) (he : bs.flatten.set q0 (zRefs cB a w2 x2 y2 z2) = bs1.flatten)
    (k : ∀ (H1 : Heap) (locs1 : List Loc), zW D A s.heap bs1 H1 locs1 → W p l e R s m args below meth c H1 locs1 cells slots Q (F0 m (pc + 1) ls rest)) : W p l e R s m args below meth c H locs cells slots Q (F0 m pc ls (.ref v :: .int (zI i) :: .ref a :: rest)) :=
  va_astq (r := (RX0, TX0, 9)) hexec hb hK.1 hW.1 hW.2.1 hW.2.2 q0 1 qk 0 ha rfl hv rfl (zI_in (n := 4) hi (by omega)) hdg (fun H1 locs1 g1 g2 g3 => k H1 locs1 (by
    rw [zI_clamp (by omega), ad4_up hi h0 h1 h2 h3] at g1 g2
    change va_P D vwCl (bs.flatten.set q0 (zRefs cB a w2 x2 y2 z2)) H1 at g1
    change va_D A (bs.flatten.set q0 (zRefs cB a w2 x2 y2 z2)) at g2
    rw [he] at g1 g2
    exact ⟨g1, g2, g3⟩))
theorem z_alenR {A : Nat → Prop} {D : va_G} {cI cB : ClassId} {bs : List va_W} (hexec : p.tables.exec = Jvm.exec) (hb : c.code = cc) (hK : ZK D cI cB s) (hW : zW D A s.heap bs H locs) (q0 : Nat) {a : Nat} {w x y z : Option Nat} (ha : bs.flatten[q0]? = some (zRefs cB a w x y z)) (hdg : decode cc pc = .ok (.arraylength, 1))
    (k : W p l e R s m args below meth c H locs cells slots Q (F0 m (pc + 1) ls (.int (zI 4) :: rest))) : W p l e R s m args below meth c H locs cells slots Q (F0 m pc ls (.ref a :: rest)) :=
  va_alen hexec hb hK.1 hW.1 q0 1 ha rfl (zI_nat 4) hdg k
end ZR8
/-! the states of a history -/
abbrev zSt : Type := List zPn × List Int × Int
def RBS (b : zBS) (S : zSt) : Prop := RB b S.1 S.2.1 S.2.2
def dsel (d0 d1 d2 d3 : zBS) (k : Nat) : zBS := if k = 0 then d0 else if k = 1 then d1 else if k = 2 then d2 else d3
def HB (hn : Int) (d0 d1 d2 d3 : zBS) (hs : List zSt) : Prop := hn = (hs.length : Int) ∧ hs.length ≤ 4 ∧ ∀ (k : Nat) (S : zSt), hs[k]? = some S → RBS (dsel d0 d1 d2 d3 k) S
def pushH (hs : List zSt) (S : zSt) : List zSt := (if hs.length = 4 then hs.tail else hs) ++ [S]
theorem slotHas_cp {b b2 : zBS} {x : Int} {p : zPn} (hx : 0 ≤ x ∧ x < 10) (hl : p.2.2.2.length ≤ 6) (h : slotHas b2 x p) : slotHas (zcpB b b2) x p := by
  have e : ∀ {f g : Int → Int}, cpF f g 10 x = f x := fun {f g} => if_pos hx
  refine ⟨?_, ?_, ?_, ?_, fun j v hv => ?_⟩
  · show cpF _ _ 10 x = _; rw [e]; exact h.1
  · show cpF _ _ 10 x = _; rw [e]; exact h.2.1
  · show cpF _ _ 10 x = _; rw [e]; exact h.2.2.1
  · show cpF _ _ 10 x = _; rw [e]; exact h.2.2.2.1
  · have hj := (List.getElem?_eq_some_iff.mp hv).1
    show cpF (bd_cod b2) (bd_cod b) 60 (x * 6 + (j : Int)) = _
    unfold cpF
    rw [if_pos (by omega)]
    exact h.2.2.2.2 j v hv
theorem RB_cp {b b2 : zBS} {pC : List zPn} {pO : List Int} {ev : Int} (h : RB b2 pC pO ev) : RB (zcpB b b2) pC pO ev := by
  have hlin := fun {j : Nat} {p : zPn} (hp : pC[j]? = some p) => RB_lin h hp
  obtain ⟨⟨k1, k2, k3, k4, k5, k6, k7, k8, k9⟩, h2, h3, h4, h5, h6, h7, h8, h9, h10⟩ := h
  have e10 : ∀ {f g : Int → Int} {x : Int}, 0 ≤ x → x < 10 → cpF f g 10 x = f x := fun {f g x} a1 a2 => if_pos ⟨a1, a2⟩
  have e5 : ∀ {f g : Int → Int} {x : Int}, 0 ≤ x → x < 5 → cpF f g 5 x = f x := fun {f g x} a1 a2 => if_pos ⟨a1, a2⟩
  have e60 : ∀ {f g : Int → Int} {x : Int}, 0 ≤ x → x < 60 → cpF f g 60 x = f x := fun {f g x} a1 a2 => if_pos ⟨a1, a2⟩
  have hl : ∀ {i : Int}, 0 ≤ i → i < bd_sz b2 → bd_lin (zcpB b b2) i = bd_lin b2 i := fun {i} a1 a2 => e10 a1 (by omega)
  refine ⟨⟨k1, k2, fun i a1 a2 => ?_, fun i a1 a2 => ?_, fun i a1 a2 => ?_, fun i a1 a2 => ?_, fun i a1 a2 => ?_, fun i a1 a2 => ?_, fun i a1 a2 => ?_⟩, h2, h3, fun j p hp => ?_, fun i j a1 a2 a3 a4 he => ?_, fun x a1 a2 hx => ?_, h7, h8, fun s a1 a2 => ?_, h10⟩
  · rw [hl a1 a2]; exact k3 i a1 a2
  · show -1 ≤ cpF _ _ 10 i ∧ cpF _ _ 10 i < 99; rw [e10 a1 a2]; exact k4 i a1 a2
  · show 0 ≤ cpF _ _ 10 i ∧ cpF _ _ 10 i < 5; rw [e10 a1 a2]; exact k5 i a1 a2
  · show 0 ≤ cpF _ _ 10 i ∧ cpF _ _ 10 i ≤ 99; rw [e10 a1 a2]; exact k6 i a1 a2
  · show 0 ≤ cpF _ _ 10 i ∧ cpF _ _ 10 i ≤ 6; rw [e10 a1 a2]; exact k7 i a1 a2
  · show 0 ≤ cpF _ _ 60 i ∧ cpF _ _ 60 i < 400; rw [e60 a1 a2]; exact k8 i a1 a2
  · show 0 ≤ cpF _ _ 5 i ∧ cpF _ _ 5 i < 5; rw [e5 a1 a2]; exact k9 i a1 a2
  · have hj := (List.getElem?_eq_some_iff.mp hp).1
    rw [hl (by omega) (by omega)]
    exact slotHas_cp (hlin hp) (h7 p (List.mem_of_getElem? hp)).1.2.2.2.1 (h4 j p hp)
  · rw [hl a1 a2, hl a3 a4] at he
    exact h5 i j a1 a2 a3 a4 he
  · show cpF _ _ 10 x = -1
    rw [e10 a1 a2]
    exact h6 x a1 a2 (fun j j1 j2 => by have := hx j j1 j2; rw [hl j1 j2] at this; exact this)
  · show cpF _ _ 5 s = _
    rw [e5 a1 a2]; exact h9 s a1 a2
theorem HB_push {hn : Int} {d0 d1 d2 d3 e0 e1 e2 e3 b : zBS} {hs : List zSt} {S : zSt} (h : HB hn d0 d1 d2 d3 hs) (hb : RBS b S) {n : Nat} (hl : hn = (n : Int)) (hn4 : n < 4) (he : ∀ k : Nat, k ≤ n → dsel e0 e1 e2 e3 k = if k = n then zcpB (dsel d0 d1 d2 d3 n) b else dsel d0 d1 d2 d3 k) : HB (hn + 1) e0 e1 e2 e3 (pushH hs S) := by
  obtain ⟨h1, h2, h3⟩ := h
  have hlen : hs.length = n := by omega
  unfold pushH
  rw [if_neg (by omega)]
  refine ⟨by rw [List.length_append]; simp; omega, by rw [List.length_append]; simp; omega, fun k T hk => ?_⟩
  by_cases c : k < hs.length
  · rw [List.getElem?_append_left c] at hk
    rw [he k (by omega), if_neg (by omega)]
    exact h3 k T hk
  · rw [List.getElem?_append_right (by omega)] at hk
    have := (List.getElem?_eq_some_iff.mp hk).1
    simp at this
    rw [show k - hs.length = 0 by omega] at hk
    cases hk
    rw [he k (by omega), if_pos (by omega)]
    exact RB_cp hb
theorem HB_full {d0 d1 d2 d3 e0 e1 e2 e3 b : zBS} {hs : List zSt} {S : zSt} (h : HB 4 d0 d1 d2 d3 hs) (hb : RBS b S) (h0 : e0 = d1) (h1' : e1 = d2) (h2' : e2 = d3) (h3' : e3 = zcpB d0 b) : HB 4 e0 e1 e2 e3 (pushH hs S) := by
  obtain ⟨h1, h2, h3⟩ := h
  have hlen : hs.length = 4 := by omega
  subst h0 h1' h2' h3'
  unfold pushH
  rw [if_pos hlen]
  have htl : hs.tail.length = 3 := by rw [List.length_tail]; omega
  refine ⟨by rw [List.length_append, htl]; rfl, by rw [List.length_append, htl]; exact Nat.le_refl 4, fun k T hk => ?_⟩
  by_cases c : k < 3
  · rw [List.getElem?_append_left (by omega), List.getElem?_tail] at hk
    have h4 := h3 (k + 1) T hk
    rcases (show k = 0 ∨ k = 1 ∨ k = 2 by omega) with rfl | rfl | rfl
    · exact h4
    · exact h4
    · exact h4
  · rw [List.getElem?_append_right (by omega)] at hk
    have := (List.getElem?_eq_some_iff.mp hk).1
    simp at this
    rw [show k - hs.tail.length = 0 by omega] at hk
    cases hk
    rw [show k = 3 by omega]
    exact RB_cp hb
theorem HB_pop {hn : Int} {d0 d1 d2 d3 : zBS} {hs : List zSt} (h : HB hn d0 d1 d2 d3 hs) (h0 : 0 < hn) : HB (hn - 1) d0 d1 d2 d3 hs.dropLast ∧ ∃ S, hs.getLast? = some S ∧ RBS (dsel d0 d1 d2 d3 (hn - 1).toNat) S := by
  obtain ⟨h1, h2, h3⟩ := h
  have hl : hs.length - 1 < hs.length := by omega
  have hg : hs.getLast? = some (hs[hs.length - 1]) := by
    rw [List.getLast?_eq_getElem?, List.getElem?_eq_getElem hl]
  refine ⟨⟨by rw [List.length_dropLast]; omega, by rw [List.length_dropLast]; omega, fun k T hk => ?_⟩, _, hg, ?_⟩
  · rw [List.getElem?_dropLast] at hk
    split at hk
    · exact h3 k T hk
    · cases hk
  · have := h3 (hs.length - 1) _ (List.getElem?_eq_getElem hl)
    rw [show (hn - 1).toNat = hs.length - 1 by omega]
    exact this
