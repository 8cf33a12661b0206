set_option maxHeartbeats 8000000 in
set_option maxRecDepth 100000 in
theorem lwc_602 {p : Program} {l : Launch} {e : Env} {s : State} {m : MethodId} {below : List Frame} {meth : Method} {c : Code} {Q : State → Prop} {D : va_G} {cI cB : ClassId} {A : Nat → Prop} {sb L : Nat} {ys : Nat → Int} {x : Nat} {axb axn : Nat → Nat} {xh : Nat} {axt axc : Nat → Nat} {xa : Nat} {am : Nat → Nat} (hS : CallFix p m c cL_law 4 s #[Value.ref sb] wsL_law RL) (hK : ZK D cI cB s) (hA : ∀ q, s.heap.size ≤ q → A q) (hL : L ≤ 2048) (hX : va_X sb L (fun j => zI (ys j)) s s.heap) (hbl : sb < s.heap.size) (hbA : ¬ A sb) (hys : ∀ j, R32 (ys j)) {i : Int} (hi : 0 ≤ i ∧ i + 4 ≤ (L : Int)) (KK : ∀ (xk hn : Int) (b bn : zBS) (u0 u1 u2 u3 : Nat → Nat) (d0 d1 d2 d3 : zBS) (t : zTS) (cn : zCS) (bm : zM2) (S : zSt) (hs : List zSt) (Sn : zSt), lwR xk hn b bn t d0 d1 d2 d3 bm S hs Sn → ∀ (H : Heap) (locs : List Loc), zW D A s.heap [[(x, .inr (4, [.ref (axb 0), .ref (axn 0), .int (zI xk), .ref xh, .ref (axt 0), .ref (axc 0)]))], zBoard cI axb b, zBoard cI axn bn, [(xh, .inr (2, [.ref xa, .int (zI hn)]))], [zRefs cB xa (some (u0 0)) (some (u1 0)) (some (u2 0)) (some (u3 0))], zBoard cI u0 d0, zBoard cI u1 d1, zBoard cI u2 d2, zBoard cI u3 d3, zText cI axt t, zCont cI axc cn, zMod2 cI am bm] H locs → ∀ (ls : Array Slot), lv_has ls 4 [(0, .ref sb), (1, .ref x), (2, .ref (am 0)), (3, .int (zI i))] → W p l e room_1 s m #[Value.ref sb] below meth c H locs 73 4564 Q (F0 m 734 ls [])) {xk hn : Int} {b bn : zBS} {u0 u1 u2 u3 : Nat → Nat} {d0 d1 d2 d3 : zBS} {t : zTS} {cn : zCS} {bm : zM2} {S : zSt} {hs : List zSt} {Sn : zSt} : lwR xk hn b bn t d0 d1 d2 d3 bm S hs Sn → ∀ (H : Heap) (locs : List Loc), zW D A s.heap [[(x, .inr (4, [.ref (axb 0), .ref (axn 0), .int (zI xk), .ref xh, .ref (axt 0), .ref (axc 0)]))], zBoard cI axb b, zBoard cI axn bn, [(xh, .inr (2, [.ref xa, .int (zI hn)]))], [zRefs cB xa (some (u0 0)) (some (u1 0)) (some (u2 0)) (some (u3 0))], zBoard cI u0 d0, zBoard cI u1 d1, zBoard cI u2 d2, zBoard cI u3 d3, zText cI axt t, zCont cI axc cn, zMod2 cI am bm] H locs → ∀ (ls : Array Slot), lv_has ls 4 [(0, .ref sb), (1, .ref x), (2, .ref (am 0)), (3, .int (zI i))] → W p l e room_1 s m #[Value.ref sb] below meth c H locs 73 4564 Q (F0 m 602 ls []) := by
  have hx := hS.1
  have hb := hS.2.1
  have hown := hS.2.2.2.1
  have hts := hS.2.2.2.2
  intro hR H locs hW ls hl
  obtain ⟨⟨hBb, hHB, hBn, hTk⟩, ⟨hMr, hMh⟩, htk, hsn, hTm, htl, htx⟩ := id hR
  obtain ⟨L9, hL1, hL2⟩ := id hMr
  have hnd := RBS_nd hBb
  have hy1 := hys (i + 1).toNat
  have hy2 := hys (i + 2).toNat
  have hy3 := hys (i + 3).toNat
  refine lv_aload_n hx hb dL_law_602 rfl (lv_at hl 1 rfl) ?_
  refine lv_aload_n hx hb dL_law_603 rfl (lv_at hl 0 rfl) ?_
  refine lv_iload_n hx hb dL_law_604 rfl (lv_at hl 3 rfl) ?_
  refine lv_iconst (v := zI (1)) hx hb dL_law_605 rfl ?_
  refine z_iadd hx hb dL_law_606 ?_
  refine z_sld hx hb hX hbl hbA hW hL (i := i + 1) (by omega) dL_law_607 ?_
  refine lv_aload_n hx hb dL_law_608 rfl (lv_at hl 0 rfl) ?_
  refine lv_iload_n hx hb dL_law_609 rfl (lv_at hl 3 rfl) ?_
  refine lv_iconst (v := zI (2)) hx hb dL_law_610 rfl ?_
  refine z_iadd hx hb dL_law_611 ?_
  refine z_sld hx hb hX hbl hbA hW hL (i := i + 2) (by omega) dL_law_612 ?_
  refine z_callV (r := (RX4, TX4, 6)) (As := [.int (zI (ys (i + 1).toNat)), .int (zI (ys (i + 2).toNat))]) (rest := []) hS hK hA hW hl.1 [0, 1, 10] [2, 3, 4, 5, 6, 7, 8, 9, 11] (kX4_firstBreak l D cI cB x axb axn xk xh axt axc b cn (ys (i + 1).toNat) (ys (i + 2).toNat) S.1 S.2.1 S.2.2 hBb hy1 hy2) (cwV 2 hts gL_law_X4_firstBreak rfl rfl rfl (by decide +kernel) ⟨Nat.le_of_ble_eq_true rfl, Nat.le_of_ble_eq_true rfl⟩) (rfl : vwCl[4]? = some (RX4, TX4, 6)) (q0 := 0) rfl dL_law_613 rfl rfl rfl (show ([0, 1, 10] ++ [2, 3, 4, 5, 6, 7, 8, 9, 11] : List Nat).isPerm (List.range 12) = true by decide +kernel) rfl (Nat.le_of_ble_eq_true rfl) ⟨Nat.le_of_ble_eq_true rfl, Nat.le_of_ble_eq_true rfl⟩ (fun v9 w9 H locs hq hW => ?_)
  obtain ⟨rr_613, cz_613, rfl, rfl, hh_613⟩ := hq
  have hW : zW D A s.heap [[(x, .inr (4, [.ref (axb 0), .ref (axn 0), .int (zI xk), .ref xh, .ref (axt 0), .ref (axc 0)]))], zBoard cI axb b, zCont cI axc cz_613, zBoard cI axn bn, [(xh, .inr (2, [.ref xa, .int (zI hn)]))], [zRefs cB xa (some (u0 0)) (some (u1 0)) (some (u2 0)) (some (u3 0))], zBoard cI u0 d0, zBoard cI u1 d1, zBoard cI u2 d2, zBoard cI u3 d3, zText cI axt t, zMod2 cI am bm] H locs := hW
  have hW : zW D A s.heap [[(x, .inr (4, [.ref (axb 0), .ref (axn 0), .int (zI xk), .ref xh, .ref (axt 0), .ref (axc 0)]))], zBoard cI axb b, zBoard cI axn bn, [(xh, .inr (2, [.ref xa, .int (zI hn)]))], [zRefs cB xa (some (u0 0)) (some (u1 0)) (some (u2 0)) (some (u3 0))], zBoard cI u0 d0, zBoard cI u1 d1, zBoard cI u2 d2, zBoard cI u3 d3, zText cI axt t, zCont cI axc cz_613, zMod2 cI am bm] H locs := hW.pick [0, 1, 3, 4, 5, 6, 7, 8, 9, 10, 2, 11] rfl (show ([0, 1, 3, 4, 5, 6, 7, 8, 9, 10, 2, 11] : List Nat).isPerm (List.range 12) = true by decide +kernel)
  refine W.eq (g2 := F0 m 616 ls [.int (zI rr_613)]) rfl ?_
  refine lv_aload_n hx hb dL_law_616 rfl (lv_at hl 2 rfl) ?_
  refine lv_aload_n hx hb dL_law_617 rfl (lv_at hl 0 rfl) ?_
  refine lv_iload_n hx hb dL_law_618 rfl (lv_at hl 3 rfl) ?_
  refine lv_iconst (v := zI (1)) hx hb dL_law_619 rfl ?_
  refine z_iadd hx hb dL_law_620 ?_
  refine z_sld hx hb hX hbl hbA hW hL (i := i + 1) (by omega) dL_law_621 ?_
  refine lv_aload_n hx hb dL_law_622 rfl (lv_at hl 0 rfl) ?_
  refine lv_iload_n hx hb dL_law_623 rfl (lv_at hl 3 rfl) ?_
  refine lv_iconst (v := zI (2)) hx hb dL_law_624 rfl ?_
  refine z_iadd hx hb dL_law_625 ?_
  refine z_sld hx hb hX hbl hbA hW hL (i := i + 2) (by omega) dL_law_626 ?_
  refine z_callV (r := (RX5, TX5, 18)) (As := [.int (zI (ys (i + 1).toNat)), .int (zI (ys (i + 2).toNat))]) (rest := [.int (zI rr_613)]) hS hK hA hW hl.1 [11] [0, 1, 2, 3, 4, 5, 6, 7, 8, 9, 10] (kX5_firstBreak l D cI cB am bm (ys (i + 1).toNat) (ys (i + 2).toNat) L9 S.2.1 S.2.2 hL1 hy1 hy2) (cwV 2 hts gL_law_X5_firstBreak rfl rfl rfl (by decide +kernel) ⟨Nat.le_of_ble_eq_true rfl, Nat.le_of_ble_eq_true rfl⟩) (rfl : vwCl[5]? = some (RX5, TX5, 18)) (q0 := 59) rfl dL_law_627 rfl rfl rfl (show ([11] ++ [0, 1, 2, 3, 4, 5, 6, 7, 8, 9, 10] : List Nat).isPerm (List.range 12) = true by decide +kernel) rfl (Nat.le_of_ble_eq_true rfl) ⟨Nat.le_of_ble_eq_true rfl, Nat.le_of_ble_eq_true rfl⟩ (fun v9 w9 H locs hq hW => ?_)
  obtain ⟨rr_627, zrow_627, zbrk_627, znb_627, zhold_627, zmov_627, zbeh_627, rfl, rfl, hh_627⟩ := hq
  have hW : zW D A s.heap [zMod2 cI am (mm_beh_ (mm_mov_ (mm_hold_ (mm_nb_ (mm_brk_ (mm_row_ bm (zrow_627)) (zbrk_627)) (znb_627)) (zhold_627)) (zmov_627)) (zbeh_627)), [(x, .inr (4, [.ref (axb 0), .ref (axn 0), .int (zI xk), .ref xh, .ref (axt 0), .ref (axc 0)]))], zBoard cI axb b, zBoard cI axn bn, [(xh, .inr (2, [.ref xa, .int (zI hn)]))], [zRefs cB xa (some (u0 0)) (some (u1 0)) (some (u2 0)) (some (u3 0))], zBoard cI u0 d0, zBoard cI u1 d1, zBoard cI u2 d2, zBoard cI u3 d3, zText cI axt t, zCont cI axc cz_613] H locs := hW
  have hW : zW D A s.heap [[(x, .inr (4, [.ref (axb 0), .ref (axn 0), .int (zI xk), .ref xh, .ref (axt 0), .ref (axc 0)]))], zBoard cI axb b, zBoard cI axn bn, [(xh, .inr (2, [.ref xa, .int (zI hn)]))], [zRefs cB xa (some (u0 0)) (some (u1 0)) (some (u2 0)) (some (u3 0))], zBoard cI u0 d0, zBoard cI u1 d1, zBoard cI u2 d2, zBoard cI u3 d3, zText cI axt t, zCont cI axc cz_613, zMod2 cI am (mm_beh_ (mm_mov_ (mm_hold_ (mm_nb_ (mm_brk_ (mm_row_ bm (zrow_627)) (zbrk_627)) (znb_627)) (zhold_627)) (zmov_627)) (zbeh_627))] H locs := hW.pick [1, 2, 3, 4, 5, 6, 7, 8, 9, 10, 11, 0] rfl (show ([1, 2, 3, 4, 5, 6, 7, 8, 9, 10, 11, 0] : List Nat).isPerm (List.range 12) = true by decide +kernel)
  refine W.eq (g2 := F0 m 630 ls [.int (zI rr_627), .int (zI rr_613)]) rfl ?_
  have hq1 := hh_627
  rw [← hL2] at hq1
  have hre := fstR_det hh_613 hq1
  refine z_same (tgt := 734) hx hb dL_law_630 (by decide) (by exact hre) ?_
  exact KK xk hn b bn u0 u1 u2 u3 d0 d1 d2 d3 t cz_613 ((mm_beh_ (mm_mov_ (mm_hold_ (mm_nb_ (mm_brk_ (mm_row_ bm (zrow_627)) (zbrk_627)) (znb_627)) (zhold_627)) (zmov_627)) (zbeh_627))) S hs Sn (⟨⟨hBb, hHB, hBn, hTk⟩, ⟨hMr, hMh⟩, htk, hsn, hTm, htl, htx⟩) _ _ hW ls hl

set_option maxHeartbeats 8000000 in
set_option maxRecDepth 100000 in
theorem lwc_635 {p : Program} {l : Launch} {e : Env} {s : State} {m : MethodId} {below : List Frame} {meth : Method} {c : Code} {Q : State → Prop} {D : va_G} {cI cB : ClassId} {A : Nat → Prop} {sb L : Nat} {ys : Nat → Int} {x : Nat} {axb axn : Nat → Nat} {xh : Nat} {axt axc : Nat → Nat} {xa : Nat} {am : Nat → Nat} (hS : CallFix p m c cL_law 4 s #[Value.ref sb] wsL_law RL) (hK : ZK D cI cB s) (hA : ∀ q, s.heap.size ≤ q → A q) (hL : L ≤ 2048) (hX : va_X sb L (fun j => zI (ys j)) s s.heap) (hbl : sb < s.heap.size) (hbA : ¬ A sb) (hys : ∀ j, R32 (ys j)) {i : Int} (hi : 0 ≤ i ∧ i + 4 ≤ (L : Int)) (KK : ∀ (xk hn : Int) (b bn : zBS) (u0 u1 u2 u3 : Nat → Nat) (d0 d1 d2 d3 : zBS) (t : zTS) (cn : zCS) (bm : zM2) (S : zSt) (hs : List zSt) (Sn : zSt), lwR xk hn b bn t d0 d1 d2 d3 bm S hs Sn → ∀ (H : Heap) (locs : List Loc), zW D A s.heap [[(x, .inr (4, [.ref (axb 0), .ref (axn 0), .int (zI xk), .ref xh, .ref (axt 0), .ref (axc 0)]))], zBoard cI axb b, zBoard cI axn bn, [(xh, .inr (2, [.ref xa, .int (zI hn)]))], [zRefs cB xa (some (u0 0)) (some (u1 0)) (some (u2 0)) (some (u3 0))], zBoard cI u0 d0, zBoard cI u1 d1, zBoard cI u2 d2, zBoard cI u3 d3, zText cI axt t, zCont cI axc cn, zMod2 cI am bm] H locs → ∀ (ls : Array Slot), lv_has ls 4 [(0, .ref sb), (1, .ref x), (2, .ref (am 0)), (3, .int (zI i))] → W p l e room_1 s m #[Value.ref sb] below meth c H locs 73 4564 Q (F0 m 734 ls [])) {xk hn : Int} {b bn : zBS} {u0 u1 u2 u3 : Nat → Nat} {d0 d1 d2 d3 : zBS} {t : zTS} {cn : zCS} {bm : zM2} {S : zSt} {hs : List zSt} {Sn : zSt} : lwR xk hn b bn t d0 d1 d2 d3 bm S hs Sn → ∀ (H : Heap) (locs : List Loc), zW D A s.heap [[(x, .inr (4, [.ref (axb 0), .ref (axn 0), .int (zI xk), .ref xh, .ref (axt 0), .ref (axc 0)]))], zBoard cI axb b, zBoard cI axn bn, [(xh, .inr (2, [.ref xa, .int (zI hn)]))], [zRefs cB xa (some (u0 0)) (some (u1 0)) (some (u2 0)) (some (u3 0))], zBoard cI u0 d0, zBoard cI u1 d1, zBoard cI u2 d2, zBoard cI u3 d3, zText cI axt t, zCont cI axc cn, zMod2 cI am bm] H locs → ∀ (ls : Array Slot), lv_has ls 4 [(0, .ref sb), (1, .ref x), (2, .ref (am 0)), (3, .int (zI i))] → W p l e room_1 s m #[Value.ref sb] below meth c H locs 73 4564 Q (F0 m 635 ls []) := by
  have hx := hS.1
  have hb := hS.2.1
  have hown := hS.2.2.2.1
  have hts := hS.2.2.2.2
  intro hR H locs hW ls hl
  obtain ⟨⟨hBb, hHB, hBn, hTk⟩, ⟨hMr, hMh⟩, htk, hsn, hTm, htl, htx⟩ := id hR
  obtain ⟨L9, hL1, hL2⟩ := id hMr
  have hnd := RBS_nd hBb
  have hy1 := hys (i + 1).toNat
  have hy2 := hys (i + 2).toNat
  have hy3 := hys (i + 3).toNat
  refine lv_aload_n hx hb dL_law_635 rfl (lv_at hl 1 rfl) ?_
  refine lv_aload_n hx hb dL_law_636 rfl (lv_at hl 0 rfl) ?_
  refine lv_iload_n hx hb dL_law_637 rfl (lv_at hl 3 rfl) ?_
  refine lv_iconst (v := zI (1)) hx hb dL_law_638 rfl ?_
  refine z_iadd hx hb dL_law_639 ?_
  refine z_sld hx hb hX hbl hbA hW hL (i := i + 1) (by omega) dL_law_640 ?_
  refine lv_aload_n hx hb dL_law_641 rfl (lv_at hl 0 rfl) ?_
  refine lv_iload_n hx hb dL_law_642 rfl (lv_at hl 3 rfl) ?_
  refine lv_iconst (v := zI (2)) hx hb dL_law_643 rfl ?_
  refine z_iadd hx hb dL_law_644 ?_
  refine z_sld hx hb hX hbl hbA hW hL (i := i + 2) (by omega) dL_law_645 ?_
  refine lv_aload_n hx hb dL_law_646 rfl (lv_at hl 0 rfl) ?_
  refine lv_iload_n hx hb dL_law_647 rfl (lv_at hl 3 rfl) ?_
  refine lv_iconst (v := zI (3)) hx hb dL_law_648 rfl ?_
  refine z_iadd hx hb dL_law_649 ?_
  refine z_sld hx hb hX hbl hbA hW hL (i := i + 3) (by omega) dL_law_650 ?_
  refine z_callV (r := (RX4, TX4, 6)) (As := [.int (zI (ys (i + 1).toNat)), .int (zI (ys (i + 2).toNat)), .int (zI (ys (i + 3).toNat))]) (rest := []) hS hK hA hW hl.1 [0, 1, 10] [2, 3, 4, 5, 6, 7, 8, 9, 11] (kX4_ifMoved l D cI cB x axb axn xk xh axt axc b cn (ys (i + 1).toNat) (ys (i + 2).toNat) (ys (i + 3).toNat) S.1 S.2.1 S.2.2 hBb hy1 hy2 hy3) (cwV 3 hts gL_law_X4_ifMoved rfl rfl rfl (by decide +kernel) ⟨Nat.le_of_ble_eq_true rfl, Nat.le_of_ble_eq_true rfl⟩) (rfl : vwCl[4]? = some (RX4, TX4, 6)) (q0 := 0) rfl dL_law_651 rfl rfl rfl (show ([0, 1, 10] ++ [2, 3, 4, 5, 6, 7, 8, 9, 11] : List Nat).isPerm (List.range 12) = true by decide +kernel) rfl (Nat.le_of_ble_eq_true rfl) ⟨Nat.le_of_ble_eq_true rfl, Nat.le_of_ble_eq_true rfl⟩ (fun v9 w9 H locs hq hW => ?_)
  obtain ⟨rr_651, bz_651, cz_651, rfl, rfl, hh_651⟩ := hq
  have hW : zW D A s.heap [[(x, .inr (4, [.ref (axb 0), .ref (axn 0), .int (zI xk), .ref xh, .ref (axt 0), .ref (axc 0)]))], zBoard cI axb bz_651, zCont cI axc cz_651, zBoard cI axn bn, [(xh, .inr (2, [.ref xa, .int (zI hn)]))], [zRefs cB xa (some (u0 0)) (some (u1 0)) (some (u2 0)) (some (u3 0))], zBoard cI u0 d0, zBoard cI u1 d1, zBoard cI u2 d2, zBoard cI u3 d3, zText cI axt t, zMod2 cI am bm] H locs := hW
  have hW : zW D A s.heap [[(x, .inr (4, [.ref (axb 0), .ref (axn 0), .int (zI xk), .ref xh, .ref (axt 0), .ref (axc 0)]))], zBoard cI axb bz_651, zBoard cI axn bn, [(xh, .inr (2, [.ref xa, .int (zI hn)]))], [zRefs cB xa (some (u0 0)) (some (u1 0)) (some (u2 0)) (some (u3 0))], zBoard cI u0 d0, zBoard cI u1 d1, zBoard cI u2 d2, zBoard cI u3 d3, zText cI axt t, zCont cI axc cz_651, zMod2 cI am bm] H locs := hW.pick [0, 1, 3, 4, 5, 6, 7, 8, 9, 10, 2, 11] rfl (show ([0, 1, 3, 4, 5, 6, 7, 8, 9, 10, 2, 11] : List Nat).isPerm (List.range 12) = true by decide +kernel)
  refine W.eq (g2 := F0 m 654 ls [.int (zI rr_651)]) rfl ?_
  refine lv_aload_n hx hb dL_law_654 rfl (lv_at hl 2 rfl) ?_
  refine lv_aload_n hx hb dL_law_655 rfl (lv_at hl 0 rfl) ?_
  refine lv_iload_n hx hb dL_law_656 rfl (lv_at hl 3 rfl) ?_
  refine lv_iconst (v := zI (1)) hx hb dL_law_657 rfl ?_
  refine z_iadd hx hb dL_law_658 ?_
  refine z_sld hx hb hX hbl hbA hW hL (i := i + 1) (by omega) dL_law_659 ?_
  refine lv_aload_n hx hb dL_law_660 rfl (lv_at hl 0 rfl) ?_
  refine lv_iload_n hx hb dL_law_661 rfl (lv_at hl 3 rfl) ?_
  refine lv_iconst (v := zI (2)) hx hb dL_law_662 rfl ?_
  refine z_iadd hx hb dL_law_663 ?_
  refine z_sld hx hb hX hbl hbA hW hL (i := i + 2) (by omega) dL_law_664 ?_
  refine lv_aload_n hx hb dL_law_665 rfl (lv_at hl 0 rfl) ?_
  refine lv_iload_n hx hb dL_law_666 rfl (lv_at hl 3 rfl) ?_
  refine lv_iconst (v := zI (3)) hx hb dL_law_667 rfl ?_
  refine z_iadd hx hb dL_law_668 ?_
  refine z_sld hx hb hX hbl hbA hW hL (i := i + 3) (by omega) dL_law_669 ?_
  refine z_callV (r := (RX5, TX5, 18)) (As := [.int (zI (ys (i + 1).toNat)), .int (zI (ys (i + 2).toNat)), .int (zI (ys (i + 3).toNat))]) (rest := [.int (zI rr_651)]) hS hK hA hW hl.1 [11] [0, 1, 2, 3, 4, 5, 6, 7, 8, 9, 10] (kX5_ifMoved l D cI cB am bm (ys (i + 1).toNat) (ys (i + 2).toNat) (ys (i + 3).toNat) L9 S.2.1 S.2.2 hL1 hy1 hy2 hy3) (cwV 3 hts gL_law_X5_ifMoved rfl rfl rfl (by decide +kernel) ⟨Nat.le_of_ble_eq_true rfl, Nat.le_of_ble_eq_true rfl⟩) (rfl : vwCl[5]? = some (RX5, TX5, 18)) (q0 := 59) rfl dL_law_670 rfl rfl rfl (show ([11] ++ [0, 1, 2, 3, 4, 5, 6, 7, 8, 9, 10] : List Nat).isPerm (List.range 12) = true by decide +kernel) rfl (Nat.le_of_ble_eq_true rfl) ⟨Nat.le_of_ble_eq_true rfl, Nat.le_of_ble_eq_true rfl⟩ (fun v9 w9 H locs hq hW => ?_)
  obtain ⟨rr_670, zall_670, ztri_670, zout_670, zrow_670, zbrk_670, znb_670, zhold_670, zmov_670, zbeh_670, rfl, rfl, hh_670⟩ := hq
  have hW : zW D A s.heap [zMod2 cI am (mm_beh_ (mm_mov_ (mm_hold_ (mm_nb_ (mm_brk_ (mm_row_ (mm_out_ (mm_tri_ (mm_all_ bm (zall_670)) (ztri_670)) (zout_670)) (zrow_670)) (zbrk_670)) (znb_670)) (zhold_670)) (zmov_670)) (zbeh_670)), [(x, .inr (4, [.ref (axb 0), .ref (axn 0), .int (zI xk), .ref xh, .ref (axt 0), .ref (axc 0)]))], zBoard cI axb bz_651, zBoard cI axn bn, [(xh, .inr (2, [.ref xa, .int (zI hn)]))], [zRefs cB xa (some (u0 0)) (some (u1 0)) (some (u2 0)) (some (u3 0))], zBoard cI u0 d0, zBoard cI u1 d1, zBoard cI u2 d2, zBoard cI u3 d3, zText cI axt t, zCont cI axc cz_651] H locs := hW
  have hW : zW D A s.heap [[(x, .inr (4, [.ref (axb 0), .ref (axn 0), .int (zI xk), .ref xh, .ref (axt 0), .ref (axc 0)]))], zBoard cI axb bz_651, zBoard cI axn bn, [(xh, .inr (2, [.ref xa, .int (zI hn)]))], [zRefs cB xa (some (u0 0)) (some (u1 0)) (some (u2 0)) (some (u3 0))], zBoard cI u0 d0, zBoard cI u1 d1, zBoard cI u2 d2, zBoard cI u3 d3, zText cI axt t, zCont cI axc cz_651, zMod2 cI am (mm_beh_ (mm_mov_ (mm_hold_ (mm_nb_ (mm_brk_ (mm_row_ (mm_out_ (mm_tri_ (mm_all_ bm (zall_670)) (ztri_670)) (zout_670)) (zrow_670)) (zbrk_670)) (znb_670)) (zhold_670)) (zmov_670)) (zbeh_670))] H locs := hW.pick [1, 2, 3, 4, 5, 6, 7, 8, 9, 10, 11, 0] rfl (show ([1, 2, 3, 4, 5, 6, 7, 8, 9, 10, 11, 0] : List Nat).isPerm (List.range 12) = true by decide +kernel)
  refine W.eq (g2 := F0 m 673 ls [.int (zI rr_670), .int (zI rr_651)]) rfl ?_
  have hq1 := hh_670
  rw [← hL2] at hq1
  have hre := ifmR_det hnd hh_651.1 hq1.1
  refine z_same (tgt := 734) hx hb dL_law_673 (by decide) (by exact hre) ?_
  exact KK xk hn bz_651 bn u0 u1 u2 u3 d0 d1 d2 d3 t cz_651 ((mm_beh_ (mm_mov_ (mm_hold_ (mm_nb_ (mm_brk_ (mm_row_ (mm_out_ (mm_tri_ (mm_all_ bm (zall_670)) (ztri_670)) (zout_670)) (zrow_670)) (zbrk_670)) (znb_670)) (zhold_670)) (zmov_670)) (zbeh_670))) S hs Sn (⟨⟨hh_651.2, hHB, hBn, hTk⟩, ⟨⟨L9, hh_670.2, hL2⟩, hMh⟩, htk, hsn, hTm, htl, htx⟩) _ _ hW ls hl

set_option maxHeartbeats 8000000 in
set_option maxRecDepth 100000 in
theorem lwc_678 {p : Program} {l : Launch} {e : Env} {s : State} {m : MethodId} {below : List Frame} {meth : Method} {c : Code} {Q : State → Prop} {D : va_G} {cI cB : ClassId} {A : Nat → Prop} {sb L : Nat} {ys : Nat → Int} {x : Nat} {axb axn : Nat → Nat} {xh : Nat} {axt axc : Nat → Nat} {xa : Nat} {am : Nat → Nat} (hS : CallFix p m c cL_law 4 s #[Value.ref sb] wsL_law RL) (hK : ZK D cI cB s) (hA : ∀ q, s.heap.size ≤ q → A q) (hL : L ≤ 2048) (hX : va_X sb L (fun j => zI (ys j)) s s.heap) (hbl : sb < s.heap.size) (hbA : ¬ A sb) (hys : ∀ j, R32 (ys j)) {i : Int} (hi : 0 ≤ i ∧ i + 4 ≤ (L : Int)) (KK : ∀ (xk hn : Int) (b bn : zBS) (u0 u1 u2 u3 : Nat → Nat) (d0 d1 d2 d3 : zBS) (t : zTS) (cn : zCS) (bm : zM2) (S : zSt) (hs : List zSt) (Sn : zSt), lwR xk hn b bn t d0 d1 d2 d3 bm S hs Sn → ∀ (H : Heap) (locs : List Loc), zW D A s.heap [[(x, .inr (4, [.ref (axb 0), .ref (axn 0), .int (zI xk), .ref xh, .ref (axt 0), .ref (axc 0)]))], zBoard cI axb b, zBoard cI axn bn, [(xh, .inr (2, [.ref xa, .int (zI hn)]))], [zRefs cB xa (some (u0 0)) (some (u1 0)) (some (u2 0)) (some (u3 0))], zBoard cI u0 d0, zBoard cI u1 d1, zBoard cI u2 d2, zBoard cI u3 d3, zText cI axt t, zCont cI axc cn, zMod2 cI am bm] H locs → ∀ (ls : Array Slot), lv_has ls 4 [(0, .ref sb), (1, .ref x), (2, .ref (am 0)), (3, .int (zI i))] → W p l e room_1 s m #[Value.ref sb] below meth c H locs 73 4564 Q (F0 m 734 ls [])) {xk hn : Int} {b bn : zBS} {u0 u1 u2 u3 : Nat → Nat} {d0 d1 d2 d3 : zBS} {t : zTS} {cn : zCS} {bm : zM2} {S : zSt} {hs : List zSt} {Sn : zSt} : lwR xk hn b bn t d0 d1 d2 d3 bm S hs Sn → ∀ (H : Heap) (locs : List Loc), zW D A s.heap [[(x, .inr (4, [.ref (axb 0), .ref (axn 0), .int (zI xk), .ref xh, .ref (axt 0), .ref (axc 0)]))], zBoard cI axb b, zBoard cI axn bn, [(xh, .inr (2, [.ref xa, .int (zI hn)]))], [zRefs cB xa (some (u0 0)) (some (u1 0)) (some (u2 0)) (some (u3 0))], zBoard cI u0 d0, zBoard cI u1 d1, zBoard cI u2 d2, zBoard cI u3 d3, zText cI axt t, zCont cI axc cn, zMod2 cI am bm] H locs → ∀ (ls : Array Slot), lv_has ls 4 [(0, .ref sb), (1, .ref x), (2, .ref (am 0)), (3, .int (zI i))] → W p l e room_1 s m #[Value.ref sb] below meth c H locs 73 4564 Q (F0 m 678 ls []) := by
  have hx := hS.1
  have hb := hS.2.1
  have hown := hS.2.2.2.1
  have hts := hS.2.2.2.2
  intro hR H locs hW ls hl
  obtain ⟨⟨hBb, hHB, hBn, hTk⟩, ⟨hMr, hMh⟩, htk, hsn, hTm, htl, htx⟩ := id hR
  obtain ⟨L9, hL1, hL2⟩ := id hMr
  have hnd := RBS_nd hBb
  have hy1 := hys (i + 1).toNat
  have hy2 := hys (i + 2).toNat
  have hy3 := hys (i + 3).toNat
  refine lv_aload_n hx hb dL_law_678 rfl (lv_at hl 1 rfl) ?_
  refine lv_aload_n hx hb dL_law_679 rfl (lv_at hl 0 rfl) ?_
  refine lv_iload_n hx hb dL_law_680 rfl (lv_at hl 3 rfl) ?_
  refine lv_iconst (v := zI (1)) hx hb dL_law_681 rfl ?_
  refine z_iadd hx hb dL_law_682 ?_
  refine z_sld hx hb hX hbl hbA hW hL (i := i + 1) (by omega) dL_law_683 ?_
  refine lv_aload_n hx hb dL_law_684 rfl (lv_at hl 0 rfl) ?_
  refine lv_iload_n hx hb dL_law_685 rfl (lv_at hl 3 rfl) ?_
  refine lv_iconst (v := zI (2)) hx hb dL_law_686 rfl ?_
  refine z_iadd hx hb dL_law_687 ?_
  refine z_sld hx hb hX hbl hbA hW hL (i := i + 2) (by omega) dL_law_688 ?_
  refine z_callV (r := (RX4, TX4, 6)) (As := [.int (zI (ys (i + 1).toNat)), .int (zI (ys (i + 2).toNat))]) (rest := []) hS hK hA hW hl.1 [0, 1, 10] [2, 3, 4, 5, 6, 7, 8, 9, 11] (kX4_bestPlace l D cI cB x axb axn xk xh axt axc b cn (ys (i + 1).toNat) (ys (i + 2).toNat) S.1 S.2.1 S.2.2 hBb hy1 hy2) (cwV 2 hts gL_law_X4_bestPlace rfl rfl rfl (by decide +kernel) ⟨Nat.le_of_ble_eq_true rfl, Nat.le_of_ble_eq_true rfl⟩) (rfl : vwCl[4]? = some (RX4, TX4, 6)) (q0 := 0) rfl dL_law_689 rfl rfl rfl (show ([0, 1, 10] ++ [2, 3, 4, 5, 6, 7, 8, 9, 11] : List Nat).isPerm (List.range 12) = true by decide +kernel) rfl (Nat.le_of_ble_eq_true rfl) ⟨Nat.le_of_ble_eq_true rfl, Nat.le_of_ble_eq_true rfl⟩ (fun v9 w9 H locs hq hW => ?_)
  obtain ⟨rr_689, bz_689, cz_689, rfl, rfl, hh_689⟩ := hq
  have hW : zW D A s.heap [[(x, .inr (4, [.ref (axb 0), .ref (axn 0), .int (zI xk), .ref xh, .ref (axt 0), .ref (axc 0)]))], zBoard cI axb bz_689, zCont cI axc cz_689, zBoard cI axn bn, [(xh, .inr (2, [.ref xa, .int (zI hn)]))], [zRefs cB xa (some (u0 0)) (some (u1 0)) (some (u2 0)) (some (u3 0))], zBoard cI u0 d0, zBoard cI u1 d1, zBoard cI u2 d2, zBoard cI u3 d3, zText cI axt t, zMod2 cI am bm] H locs := hW
  have hW : zW D A s.heap [[(x, .inr (4, [.ref (axb 0), .ref (axn 0), .int (zI xk), .ref xh, .ref (axt 0), .ref (axc 0)]))], zBoard cI axb bz_689, zBoard cI axn bn, [(xh, .inr (2, [.ref xa, .int (zI hn)]))], [zRefs cB xa (some (u0 0)) (some (u1 0)) (some (u2 0)) (some (u3 0))], zBoard cI u0 d0, zBoard cI u1 d1, zBoard cI u2 d2, zBoard cI u3 d3, zText cI axt t, zCont cI axc cz_689, zMod2 cI am bm] H locs := hW.pick [0, 1, 3, 4, 5, 6, 7, 8, 9, 10, 2, 11] rfl (show ([0, 1, 3, 4, 5, 6, 7, 8, 9, 10, 2, 11] : List Nat).isPerm (List.range 12) = true by decide +kernel)
  refine W.eq (g2 := F0 m 692 ls [.int (zI rr_689)]) rfl ?_
  refine lv_aload_n hx hb dL_law_692 rfl (lv_at hl 2 rfl) ?_
  refine lv_aload_n hx hb dL_law_693 rfl (lv_at hl 0 rfl) ?_
  refine lv_iload_n hx hb dL_law_694 rfl (lv_at hl 3 rfl) ?_
  refine lv_iconst (v := zI (1)) hx hb dL_law_695 rfl ?_
  refine z_iadd hx hb dL_law_696 ?_
  refine z_sld hx hb hX hbl hbA hW hL (i := i + 1) (by omega) dL_law_697 ?_
  refine lv_aload_n hx hb dL_law_698 rfl (lv_at hl 0 rfl) ?_
  refine lv_iload_n hx hb dL_law_699 rfl (lv_at hl 3 rfl) ?_
  refine lv_iconst (v := zI (2)) hx hb dL_law_700 rfl ?_
  refine z_iadd hx hb dL_law_701 ?_
  refine z_sld hx hb hX hbl hbA hW hL (i := i + 2) (by omega) dL_law_702 ?_
  refine z_callV (r := (RX5, TX5, 18)) (As := [.int (zI (ys (i + 1).toNat)), .int (zI (ys (i + 2).toNat))]) (rest := [.int (zI rr_689)]) hS hK hA hW hl.1 [11] [0, 1, 2, 3, 4, 5, 6, 7, 8, 9, 10] (kX5_bestPlace l D cI cB am bm (ys (i + 1).toNat) (ys (i + 2).toNat) L9 S.2.1 S.2.2 hL1 hy1 hy2) (cwV 2 hts gL_law_X5_bestPlace rfl rfl rfl (by decide +kernel) ⟨Nat.le_of_ble_eq_true rfl, Nat.le_of_ble_eq_true rfl⟩) (rfl : vwCl[5]? = some (RX5, TX5, 18)) (q0 := 59) rfl dL_law_703 rfl rfl rfl (show ([11] ++ [0, 1, 2, 3, 4, 5, 6, 7, 8, 9, 10] : List Nat).isPerm (List.range 12) = true by decide +kernel) rfl (Nat.le_of_ble_eq_true rfl) ⟨Nat.le_of_ble_eq_true rfl, Nat.le_of_ble_eq_true rfl⟩ (fun v9 w9 H locs hq hW => ?_)
  obtain ⟨rr_703, zall_703, ztri_703, zout_703, zrow_703, zbrk_703, znb_703, zhold_703, zmov_703, zbeh_703, rfl, rfl, hh_703⟩ := hq
  have hW : zW D A s.heap [zMod2 cI am (mm_beh_ (mm_mov_ (mm_hold_ (mm_nb_ (mm_brk_ (mm_row_ (mm_out_ (mm_tri_ (mm_all_ bm (zall_703)) (ztri_703)) (zout_703)) (zrow_703)) (zbrk_703)) (znb_703)) (zhold_703)) (zmov_703)) (zbeh_703)), [(x, .inr (4, [.ref (axb 0), .ref (axn 0), .int (zI xk), .ref xh, .ref (axt 0), .ref (axc 0)]))], zBoard cI axb bz_689, zBoard cI axn bn, [(xh, .inr (2, [.ref xa, .int (zI hn)]))], [zRefs cB xa (some (u0 0)) (some (u1 0)) (some (u2 0)) (some (u3 0))], zBoard cI u0 d0, zBoard cI u1 d1, zBoard cI u2 d2, zBoard cI u3 d3, zText cI axt t, zCont cI axc cz_689] H locs := hW
  have hW : zW D A s.heap [[(x, .inr (4, [.ref (axb 0), .ref (axn 0), .int (zI xk), .ref xh, .ref (axt 0), .ref (axc 0)]))], zBoard cI axb bz_689, zBoard cI axn bn, [(xh, .inr (2, [.ref xa, .int (zI hn)]))], [zRefs cB xa (some (u0 0)) (some (u1 0)) (some (u2 0)) (some (u3 0))], zBoard cI u0 d0, zBoard cI u1 d1, zBoard cI u2 d2, zBoard cI u3 d3, zText cI axt t, zCont cI axc cz_689, zMod2 cI am (mm_beh_ (mm_mov_ (mm_hold_ (mm_nb_ (mm_brk_ (mm_row_ (mm_out_ (mm_tri_ (mm_all_ bm (zall_703)) (ztri_703)) (zout_703)) (zrow_703)) (zbrk_703)) (znb_703)) (zhold_703)) (zmov_703)) (zbeh_703))] H locs := hW.pick [1, 2, 3, 4, 5, 6, 7, 8, 9, 10, 11, 0] rfl (show ([1, 2, 3, 4, 5, 6, 7, 8, 9, 10, 11, 0] : List Nat).isPerm (List.range 12) = true by decide +kernel)
  refine W.eq (g2 := F0 m 706 ls [.int (zI rr_703), .int (zI rr_689)]) rfl ?_
  have hq1 := hh_703
  rw [← hL2] at hq1
  have hre := bstR_det hnd hh_689.1 hq1.1
  refine z_same (tgt := 734) hx hb dL_law_706 (by decide) (by exact hre) ?_
  exact KK xk hn bz_689 bn u0 u1 u2 u3 d0 d1 d2 d3 t cz_689 ((mm_beh_ (mm_mov_ (mm_hold_ (mm_nb_ (mm_brk_ (mm_row_ (mm_out_ (mm_tri_ (mm_all_ bm (zall_703)) (ztri_703)) (zout_703)) (zrow_703)) (zbrk_703)) (znb_703)) (zhold_703)) (zmov_703)) (zbeh_703))) S hs Sn (⟨⟨hh_689.2, hHB, hBn, hTk⟩, ⟨⟨L9, hh_703.2, hL2⟩, hMh⟩, htk, hsn, hTm, htl, htx⟩) _ _ hW ls hl

set_option maxHeartbeats 8000000 in
set_option maxRecDepth 100000 in
theorem lwc_711 {p : Program} {l : Launch} {e : Env} {s : State} {m : MethodId} {below : List Frame} {meth : Method} {c : Code} {Q : State → Prop} {D : va_G} {cI cB : ClassId} {A : Nat → Prop} {sb L : Nat} {ys : Nat → Int} {x : Nat} {axb axn : Nat → Nat} {xh : Nat} {axt axc : Nat → Nat} {xa : Nat} {am : Nat → Nat} (hS : CallFix p m c cL_law 4 s #[Value.ref sb] wsL_law RL) (hK : ZK D cI cB s) (hA : ∀ q, s.heap.size ≤ q → A q) (hL : L ≤ 2048) (hX : va_X sb L (fun j => zI (ys j)) s s.heap) (hbl : sb < s.heap.size) (hbA : ¬ A sb) (hys : ∀ j, R32 (ys j)) {i : Int} (hi : 0 ≤ i ∧ i + 4 ≤ (L : Int)) (KK : ∀ (xk hn : Int) (b bn : zBS) (u0 u1 u2 u3 : Nat → Nat) (d0 d1 d2 d3 : zBS) (t : zTS) (cn : zCS) (bm : zM2) (S : zSt) (hs : List zSt) (Sn : zSt), lwR xk hn b bn t d0 d1 d2 d3 bm S hs Sn → ∀ (H : Heap) (locs : List Loc), zW D A s.heap [[(x, .inr (4, [.ref (axb 0), .ref (axn 0), .int (zI xk), .ref xh, .ref (axt 0), .ref (axc 0)]))], zBoard cI axb b, zBoard cI axn bn, [(xh, .inr (2, [.ref xa, .int (zI hn)]))], [zRefs cB xa (some (u0 0)) (some (u1 0)) (some (u2 0)) (some (u3 0))], zBoard cI u0 d0, zBoard cI u1 d1, zBoard cI u2 d2, zBoard cI u3 d3, zText cI axt t, zCont cI axc cn, zMod2 cI am bm] H locs → ∀ (ls : Array Slot), lv_has ls 4 [(0, .ref sb), (1, .ref x), (2, .ref (am 0)), (3, .int (zI i))] → W p l e room_1 s m #[Value.ref sb] below meth c H locs 73 4564 Q (F0 m 734 ls [])) {xk hn : Int} {b bn : zBS} {u0 u1 u2 u3 : Nat → Nat} {d0 d1 d2 d3 : zBS} {t : zTS} {cn : zCS} {bm : zM2} {S : zSt} {hs : List zSt} {Sn : zSt} : lwR xk hn b bn t d0 d1 d2 d3 bm S hs Sn → ∀ (H : Heap) (locs : List Loc), zW D A s.heap [[(x, .inr (4, [.ref (axb 0), .ref (axn 0), .int (zI xk), .ref xh, .ref (axt 0), .ref (axc 0)]))], zBoard cI axb b, zBoard cI axn bn, [(xh, .inr (2, [.ref xa, .int (zI hn)]))], [zRefs cB xa (some (u0 0)) (some (u1 0)) (some (u2 0)) (some (u3 0))], zBoard cI u0 d0, zBoard cI u1 d1, zBoard cI u2 d2, zBoard cI u3 d3, zText cI axt t, zCont cI axc cn, zMod2 cI am bm] H locs → ∀ (ls : Array Slot), lv_has ls 4 [(0, .ref sb), (1, .ref x), (2, .ref (am 0)), (3, .int (zI i))] → W p l e room_1 s m #[Value.ref sb] below meth c H locs 73 4564 Q (F0 m 711 ls []) := by
  have hx := hS.1
  have hb := hS.2.1
  have hown := hS.2.2.2.1
  have hts := hS.2.2.2.2
  intro hR H locs hW ls hl
  obtain ⟨⟨hBb, hHB, hBn, hTk⟩, ⟨hMr, hMh⟩, htk, hsn, hTm, htl, htx⟩ := id hR
  obtain ⟨L9, hL1, hL2⟩ := id hMr
  have hnd := RBS_nd hBb
  have hy1 := hys (i + 1).toNat
  have hy2 := hys (i + 2).toNat
  have hy3 := hys (i + 3).toNat
  refine lv_aload_n hx hb dL_law_711 rfl (lv_at hl 1 rfl) ?_
  refine lv_aload_n hx hb dL_law_712 rfl (lv_at hl 0 rfl) ?_
  refine lv_iload_n hx hb dL_law_713 rfl (lv_at hl 3 rfl) ?_
  refine lv_iconst (v := zI (1)) hx hb dL_law_714 rfl ?_
  refine z_iadd hx hb dL_law_715 ?_
  refine z_sld hx hb hX hbl hbA hW hL (i := i + 1) (by omega) dL_law_716 ?_
  refine z_callV (r := (RX4, TX4, 6)) (As := [.int (zI (ys (i + 1).toNat))]) (rest := []) hS hK hA hW hl.1 [0, 1, 9, 10, 3] [2, 4, 5, 6, 7, 8, 11] (kX4_count l D cI cB x axb axn xk xh axt axc b t cn xa hn (ys (i + 1).toNat) S.1 S.2.1 S.2.2 hBb hTk (by (have hq := hHB.1; have hq2 := hHB.2.1; omega)) hy1) (cwV 1 hts gL_law_X4_count rfl rfl rfl (by decide +kernel) ⟨Nat.le_of_ble_eq_true rfl, Nat.le_of_ble_eq_true rfl⟩) (rfl : vwCl[4]? = some (RX4, TX4, 6)) (q0 := 0) rfl dL_law_717 rfl rfl rfl (show ([0, 1, 9, 10, 3] ++ [2, 4, 5, 6, 7, 8, 11] : List Nat).isPerm (List.range 12) = true by decide +kernel) rfl (Nat.le_of_ble_eq_true rfl) ⟨Nat.le_of_ble_eq_true rfl, Nat.le_of_ble_eq_true rfl⟩ (fun v9 w9 H locs hq hW => ?_)
  obtain ⟨rr_717, cz_717, rfl, rfl, hh_717⟩ := hq
  have hW : zW D A s.heap [[(x, .inr (4, [.ref (axb 0), .ref (axn 0), .int (zI xk), .ref xh, .ref (axt 0), .ref (axc 0)]))], zBoard cI axb b, zText cI axt t, zCont cI axc cz_717, [(xh, .inr (2, [.ref xa, .int (zI hn)]))], zBoard cI axn bn, [zRefs cB xa (some (u0 0)) (some (u1 0)) (some (u2 0)) (some (u3 0))], zBoard cI u0 d0, zBoard cI u1 d1, zBoard cI u2 d2, zBoard cI u3 d3, zMod2 cI am bm] H locs := hW
  have hW : zW D A s.heap [[(x, .inr (4, [.ref (axb 0), .ref (axn 0), .int (zI xk), .ref xh, .ref (axt 0), .ref (axc 0)]))], zBoard cI axb b, zBoard cI axn bn, [(xh, .inr (2, [.ref xa, .int (zI hn)]))], [zRefs cB xa (some (u0 0)) (some (u1 0)) (some (u2 0)) (some (u3 0))], zBoard cI u0 d0, zBoard cI u1 d1, zBoard cI u2 d2, zBoard cI u3 d3, zText cI axt t, zCont cI axc cz_717, zMod2 cI am bm] H locs := hW.pick [0, 1, 5, 4, 6, 7, 8, 9, 10, 2, 3, 11] rfl (show ([0, 1, 5, 4, 6, 7, 8, 9, 10, 2, 3, 11] : List Nat).isPerm (List.range 12) = true by decide +kernel)
  refine W.eq (g2 := F0 m 720 ls [.int (zI rr_717)]) rfl ?_
  refine lv_aload_n hx hb dL_law_720 rfl (lv_at hl 2 rfl) ?_
  refine lv_aload_n hx hb dL_law_721 rfl (lv_at hl 0 rfl) ?_
  refine lv_iload_n hx hb dL_law_722 rfl (lv_at hl 3 rfl) ?_
  refine lv_iconst (v := zI (1)) hx hb dL_law_723 rfl ?_
  refine z_iadd hx hb dL_law_724 ?_
  refine z_sld hx hb hX hbl hbA hW hL (i := i + 1) (by omega) dL_law_725 ?_
  refine z_callV (r := (RX5, TX5, 18)) (As := [.int (zI (ys (i + 1).toNat))]) (rest := [.int (zI rr_717)]) hS hK hA hW hl.1 [11] [0, 1, 2, 3, 4, 5, 6, 7, 8, 9, 10] (kX5_count l D cI cB am bm (ys (i + 1).toNat) L9 S.2.1 S.2.2 hL1 hy1) (cwV 1 hts gL_law_X5_count rfl rfl rfl (by decide +kernel) ⟨Nat.le_of_ble_eq_true rfl, Nat.le_of_ble_eq_true rfl⟩) (rfl : vwCl[5]? = some (RX5, TX5, 18)) (q0 := 59) rfl dL_law_726 rfl rfl rfl (show ([11] ++ [0, 1, 2, 3, 4, 5, 6, 7, 8, 9, 10] : List Nat).isPerm (List.range 12) = true by decide +kernel) rfl (Nat.le_of_ble_eq_true rfl) ⟨Nat.le_of_ble_eq_true rfl, Nat.le_of_ble_eq_true rfl⟩ (fun v9 w9 H locs hq hW => ?_)
  obtain ⟨rr_726, zrow_726, zbrk_726, znb_726, zhold_726, zmov_726, zbeh_726, rfl, rfl, hh_726⟩ := hq
  have hW : zW D A s.heap [zMod2 cI am (mm_beh_ (mm_mov_ (mm_hold_ (mm_nb_ (mm_brk_ (mm_row_ bm (zrow_726)) (zbrk_726)) (znb_726)) (zhold_726)) (zmov_726)) (zbeh_726)), [(x, .inr (4, [.ref (axb 0), .ref (axn 0), .int (zI xk), .ref xh, .ref (axt 0), .ref (axc 0)]))], zBoard cI axb b, zBoard cI axn bn, [(xh, .inr (2, [.ref xa, .int (zI hn)]))], [zRefs cB xa (some (u0 0)) (some (u1 0)) (some (u2 0)) (some (u3 0))], zBoard cI u0 d0, zBoard cI u1 d1, zBoard cI u2 d2, zBoard cI u3 d3, zText cI axt t, zCont cI axc cz_717] H locs := hW
  have hW : zW D A s.heap [[(x, .inr (4, [.ref (axb 0), .ref (axn 0), .int (zI xk), .ref xh, .ref (axt 0), .ref (axc 0)]))], zBoard cI axb b, zBoard cI axn bn, [(xh, .inr (2, [.ref xa, .int (zI hn)]))], [zRefs cB xa (some (u0 0)) (some (u1 0)) (some (u2 0)) (some (u3 0))], zBoard cI u0 d0, zBoard cI u1 d1, zBoard cI u2 d2, zBoard cI u3 d3, zText cI axt t, zCont cI axc cz_717, zMod2 cI am (mm_beh_ (mm_mov_ (mm_hold_ (mm_nb_ (mm_brk_ (mm_row_ bm (zrow_726)) (zbrk_726)) (znb_726)) (zhold_726)) (zmov_726)) (zbeh_726))] H locs := hW.pick [1, 2, 3, 4, 5, 6, 7, 8, 9, 10, 11, 0] rfl (show ([1, 2, 3, 4, 5, 6, 7, 8, 9, 10, 11, 0] : List Nat).isPerm (List.range 12) = true by decide +kernel)
  refine W.eq (g2 := F0 m 729 ls [.int (zI rr_726), .int (zI rr_717)]) rfl ?_
  have hre : rr_717 = rr_726 := by rw [hh_717, hh_726, ← hL2, htl, hHB.1, hMh.1]
  refine z_same (tgt := 734) hx hb dL_law_729 (by decide) (by exact hre) ?_
  exact KK xk hn b bn u0 u1 u2 u3 d0 d1 d2 d3 t cz_717 ((mm_beh_ (mm_mov_ (mm_hold_ (mm_nb_ (mm_brk_ (mm_row_ bm (zrow_726)) (zbrk_726)) (znb_726)) (zhold_726)) (zmov_726)) (zbeh_726))) S hs Sn (⟨⟨hBb, hHB, hBn, hTk⟩, ⟨hMr, hMh⟩, htk, hsn, hTm, htl, htx⟩) _ _ hW ls hl
