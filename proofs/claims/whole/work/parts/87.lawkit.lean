/-! the law's own instructions -/
section ZLW
variable {p : Program} {l : Launch} {e : Env} {R : Room} {s : State} {m : MethodId} {args : Array Value} {below : List Frame} {meth : Method} {c : Code} {H : Heap} {locs : List Loc} {cells slots : Nat} {Q : State → Prop}
variable {cc : ByteArray} {pc : Nat} {ls : Array Slot} {rest : List Value}
theorem z_same (hexec : p.tables.exec = Jvm.exec) (hb : c.code = cc) {x y : Int} {off : Int} {tgt : Nat} (hdg : decode cc pc = .ok (.if_icmp .eq off, 3)) (ht : (pc : Int) + off = (tgt : Int)) (he : x = y) (kt : W p l e R s m args below meth c H locs cells slots Q (F0 m tgt ls rest)) : W p l e R s m args below meth c H locs cells slots Q (F0 m pc ls (.int (zI y) :: .int (zI x) :: rest)) := by
  subst he
  exact lv_icmp_eq hexec hb hdg ht (fun _ => kt) (fun h => absurd rfl h)
theorem z_sld {A : Nat → Prop} {D : va_G} {bs : List va_W} (hexec : p.tables.exec = Jvm.exec) (hb : c.code = cc) {b L : Nat} {ys : Nat → Int} (hX : va_X b L (fun j => zI (ys j)) s s.heap) (hbl : b < s.heap.size) (hbA : ¬ A b) (hW : zW D A s.heap bs H locs) (hL : L ≤ 2048) {i : Int} (hi : 0 ≤ i ∧ i < (L : Int)) (hdg : decode cc pc = .ok (.iaload, 1)) (k : W p l e R s m args below meth c H locs cells slots Q (F0 m (pc + 1) ls (.int (zI (ys i.toNat)) :: rest))) : W p l e R s m args below meth c H locs cells slots Q (F0 m pc ls (.int (zI i) :: .ref b :: rest)) := by
  refine va_sld hexec hb hX hbl hbA hW.2.2 (zI_in hi (by omega)) hdg ?_
  rw [zI_clamp (by omega)]
  exact k
theorem z_slen {A : Nat → Prop} {D : va_G} {bs : List va_W} (hexec : p.tables.exec = Jvm.exec) (hb : c.code = cc) {b L : Nat} {ys : Nat → Int} (hX : va_X b L (fun j => zI (ys j)) s s.heap) (hbl : b < s.heap.size) (hbA : ¬ A b) (hW : zW D A s.heap bs H locs) (hdg : decode cc pc = .ok (.arraylength, 1)) (k : W p l e R s m args below meth c H locs cells slots Q (F0 m (pc + 1) ls (.int (zI (L : Int)) :: rest))) : W p l e R s m args below meth c H locs cells slots Q (F0 m pc ls (.ref b :: rest)) := by
  refine va_slen hexec hb hX hbl hbA hW.2.2 hdg ?_
  rw [zI_nat]
  exact k
theorem z_iandA (hexec : p.tables.exec = Jvm.exec) (hb : c.code = cc) {x y : Int} (hdg : decode cc pc = .ok (.iand, 1)) (k : ∀ w : Int, R32 w → W p l e R s m args below meth c H locs cells slots Q (F0 m (pc + 1) ls (.int (zI w) :: rest))) : W p l e R s m args below meth c H locs cells slots Q (F0 m pc ls (.int (zI y) :: .int (zI x) :: rest)) := by
  obtain ⟨w, hw, he⟩ := zI_ex (zI x &&& zI y)
  refine lv_iand hexec hb hdg ?_
  rw [he]
  exact k w hw
end ZLW
theorem df_X4 : ∀ j, j < 6 → defaultValue (tyX4 j) = vp_V [.null, .null, .int (zI 0), .null, .null, .null] j := by
  intro j hj
  rcases (show j = 0 ∨ j = 1 ∨ j = 2 ∨ j = 3 ∨ j = 4 ∨ j = 5 by omega) with rfl | rfl | rfl | rfl | rfl | rfl <;> rfl
theorem df_X5 : ∀ j, j < 18 → defaultValue (tyX5 j) = vp_V [.null, .null, .null, .null, .int (zI 0), .null, .int (zI 0), .null, .null, .null, .int (zI 0), .null, .null, .null, .null, .int (zI 0), .int (zI 0), .null] j := by
  intro j hj
  rcases (show j = 0 ∨ j = 1 ∨ j = 2 ∨ j = 3 ∨ j = 4 ∨ j = 5 ∨ j = 6 ∨ j = 7 ∨ j = 8 ∨ j = 9 ∨ j = 10 ∨ j = 11 ∨ j = 12 ∨ j = 13 ∨ j = 14 ∨ j = 15 ∨ j = 16 ∨ j = 17 by omega) with rfl | rfl | rfl | rfl | rfl | rfl | rfl | rfl | rfl | rfl | rfl | rfl | rfl | rfl | rfl | rfl | rfl | rfl <;> rfl
set_option maxRecDepth 20000 in
theorem lwu_X0 : ∀ w ∈ u_ws RX0 TX0 9, w ∈ lw_tbl := by decide +kernel
set_option maxRecDepth 20000 in
theorem lwi_X0 : (Cond.instantiable RX0 9) ∈ lw_tbl := by decide +kernel
set_option maxRecDepth 20000 in
theorem lwu_X1 : ∀ w ∈ u_ws RX1 TX1 6, w ∈ lw_tbl := by decide +kernel
set_option maxRecDepth 20000 in
theorem lwi_X1 : (Cond.instantiable RX1 6) ∈ lw_tbl := by decide +kernel
set_option maxRecDepth 20000 in
theorem lwu_X2 : ∀ w ∈ u_ws RX2 TX2 2, w ∈ lw_tbl := by decide +kernel
set_option maxRecDepth 20000 in
theorem lwi_X2 : (Cond.instantiable RX2 2) ∈ lw_tbl := by decide +kernel
set_option maxRecDepth 20000 in
theorem lwu_X3 : ∀ w ∈ u_ws RX3 TX3 6, w ∈ lw_tbl := by decide +kernel
set_option maxRecDepth 20000 in
theorem lwi_X3 : (Cond.instantiable RX3 6) ∈ lw_tbl := by decide +kernel
set_option maxRecDepth 20000 in
theorem lwu_X4 : ∀ w ∈ u_ws RX4 TX4 6, w ∈ lw_tbl := by decide +kernel
set_option maxRecDepth 20000 in
theorem lwi_X4 : (Cond.instantiable RX4 6) ∈ lw_tbl := by decide +kernel
set_option maxRecDepth 20000 in
theorem lwu_X5 : ∀ w ∈ u_ws RX5 TX5 18, w ∈ lw_tbl := by decide +kernel
set_option maxRecDepth 20000 in
theorem lwi_X5 : (Cond.instantiable RX5 18) ∈ lw_tbl := by decide +kernel
set_option maxRecDepth 20000 in
theorem lwa_I : (Cond.arrayClass .int) ∈ lw_tbl := by decide +kernel
theorem zKlaw {args : Array Value} {s : State} (hts : ∀ w ∈ lw_tbl, w.before args s = true) : ∃ (D : va_G) (cI cB : ClassId), ZK D cI cB s := by
  have hN : ZN s := ZN.of (fun w hw => va_Nw.of (nestM_on w hw) (hts w (nestL_tbl w (List.mem_append_left _ hw)))) (va_AO.of (hts _ (nestL_tbl _ (List.mem_append_right _ (List.mem_singleton.mpr rfl)))))
  obtain ⟨cA, kA, comp, h1, h2, h3⟩ := Cond.arrayClass_spec (hts _ lwa_I)
  obtain ⟨comp2, cB, kB, g1, g2, g3, g4, g5⟩ := Cond.arrayOver_spec (va_AO.use (A := args) hN.ao)
  obtain ⟨c0, i0, q0⟩ := u_known (C := RX0) (T := TX0) (N := 9) (n := 9) hts lwu_X0 (hts _ lwi_X0)
  obtain ⟨c1, i1, q1⟩ := u_known (C := RX1) (T := TX1) (N := 6) (n := 6) hts lwu_X1 (hts _ lwi_X1)
  obtain ⟨c2, i2, q2⟩ := u_known (C := RX2) (T := TX2) (N := 2) (n := 2) hts lwu_X2 (hts _ lwi_X2)
  obtain ⟨c3, i3, q3⟩ := u_known (C := RX3) (T := TX3) (N := 6) (n := 6) hts lwu_X3 (hts _ lwi_X3)
  obtain ⟨c4, i4, q4⟩ := u_known (C := RX4) (T := TX4) (N := 6) (n := 6) hts lwu_X4 (hts _ lwi_X4)
  obtain ⟨c5, i5, q5⟩ := u_known (C := RX5) (T := TX5) (N := 18) (n := 18) hts lwu_X5 (hts _ lwi_X5)
  refine ⟨(fun k => if k = 0 then c0 else if k = 1 then c1 else if k = 2 then c2 else if k = 3 then c3 else if k = 4 then c4 else c5, fun k => if k = 0 then i0 else if k = 1 then i1 else if k = 2 then i2 else if k = 3 then i3 else if k = 4 then i4 else i5), cA, cB, ⟨fun k q hq => ?_, fun k q hq => ?_⟩, hN⟩
  · match k, hq with
    | 0, hq => cases hq; exact q0
    | 1, hq => cases hq; exact q1
    | 2, hq => cases hq; exact q2
    | 3, hq => cases hq; exact q3
    | 4, hq => cases hq; exact q4
    | 5, hq => cases hq; exact q5
    | k + 6, hq => simp [vwCl] at hq
  · match k, hq with
    | 0, hq => cases hq; exact ⟨fun n z => ⟨fun k h => (by cases h), kA, h2, comp, h3⟩, h1⟩
    | 1, hq => cases hq; exact ⟨fun n z => ⟨fun k h => (by cases h), kB, g3, comp2, g4⟩, kB, comp2, g3, g4, g1, g5⟩
    | k + 2, hq => simp at hq
theorem typ_same {t tz : zTS} {tx txz : Int → Int} {tl tlz v r r3 : Int} (hTk : TXOK t) (hTm : TXM tx tl) (htl : tx_len t = tl) (htx : ∀ i, 0 ≤ i → i < tx_len t → tx_sig t i = tx i) (hv : 0 ≤ v ∧ v < 65536) (h : (60 ≤ tx_len t ∧ r = -3 ∧ tz = t) ∨ (tx_len t < 60 ∧ r = tx_len t + 1 ∧ tz = typT t v)) (h' : (60 ≤ tl ∧ r3 = -3 ∧ txz = tx ∧ tlz = tl) ∨ (tl < 60 ∧ r3 = tl + 1 ∧ txz = zU tx tl v ∧ tlz = tl + 1)) : r = r3 ∧ TXOK tz ∧ TXM txz tlz ∧ tx_len tz = tlz ∧ ∀ i, 0 ≤ i → i < tx_len tz → tx_sig tz i = txz i := by
  rcases h with ⟨a1, a2, a3⟩ | ⟨a1, a2, a3⟩
  · rcases h' with ⟨b1, b2, b3, b4⟩ | ⟨b1, b2, b3, b4⟩
    · subst a3; subst b3; subst b4
      exact ⟨a2.trans b2.symm, hTk, hTm, htl, htx⟩
    · omega
  · rcases h' with ⟨b1, b2, b3, b4⟩ | ⟨b1, b2, b3, b4⟩
    · omega
    · subst a3; subst b3; subst b4
      refine ⟨by omega, TXOK_typ hTk a1 hv, TXM_typ hTm b1 hv, by show tx_len t + 1 = tl + 1; omega, fun i i1 i2 => ?_⟩
      show zU (tx_sig t) (tx_len t) v i = zU tx tl v i
      have i2 : i < tx_len t + 1 := i2
      by_cases hc : i = tl
      · rw [hc, zU_s, ← htl, zU_s]
      · rw [zU_n _ _ hc, zU_n _ _ (by omega)]
        exact htx i i1 (by omega)
theorem clr_same {t tz : zTS} {tx : Int → Int} {tl tlz r r3 : Int} (hTk : TXOK t) (hTm : TXM tx tl) (htl : tx_len t = tl) (h : r = tx_len t ∧ tz = tx_len_ t 0) (h' : r3 = tl ∧ tlz = 0) : r = r3 ∧ TXOK tz ∧ TXM tx tlz ∧ tx_len tz = tlz ∧ ∀ i, 0 ≤ i → i < tx_len tz → tx_sig tz i = tx i := by
  obtain ⟨a1, a2⟩ := h
  obtain ⟨b1, b2⟩ := h'
  subst a2; subst b2
  refine ⟨by omega, TXOK_clr hTk, TXM_clr hTm, rfl, fun i i1 i2 => ?_⟩
  have i2 : i < 0 := i2
  omega
