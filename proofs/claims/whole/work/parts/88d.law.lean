set_option maxHeartbeats 8000000 in
set_option maxRecDepth 100000 in
theorem lwc_437 {p : Program} {l : Launch} {e : Env} {s : State} {m : MethodId} {below : List Frame} {meth : Method} {c : Code} {Q : State → Prop} {D : va_G} {cI cB : ClassId} {A : Nat → Prop} {sb L : Nat} {ys : Nat → Int} {x : Nat} {axb axn : Nat → Nat} {xh : Nat} {axt axc : Nat → Nat} {xa : Nat} {am : Nat → Nat} (hS : CallFix p m c cL_law 4 s #[Value.ref sb] wsL_law RL) (hK : ZK D cI cB s) (hA : ∀ q, s.heap.size ≤ q → A q) (hL : L ≤ 2048) (hX : va_X sb L (fun j => zI (ys j)) s s.heap) (hbl : sb < s.heap.size) (hbA : ¬ A sb) (hys : ∀ j, R32 (ys j)) {i : Int} (hi : 0 ≤ i ∧ i + 4 ≤ (L : Int)) (KK : ∀ (xk hn : Int) (b bn : zBS) (u0 u1 u2 u3 : Nat → Nat) (d0 d1 d2 d3 : zBS) (t : zTS) (cn : zCS) (bm : zM2) (S : zSt) (hs : List zSt) (Sn : zSt), lwR xk hn b bn t d0 d1 d2 d3 bm S hs Sn → ∀ (H : Heap) (locs : List Loc), zW D A s.heap [[(x, .inr (4, [.ref (axb 0), .ref (axn 0), .int (zI xk), .ref xh, .ref (axt 0), .ref (axc 0)]))], zBoard cI axb b, zBoard cI axn bn, [(xh, .inr (2, [.ref xa, .int (zI hn)]))], [zRefs cB xa (some (u0 0)) (some (u1 0)) (some (u2 0)) (some (u3 0))], zBoard cI u0 d0, zBoard cI u1 d1, zBoard cI u2 d2, zBoard cI u3 d3, zText cI axt t, zCont cI axc cn, zMod2 cI am bm] H locs → ∀ (ls : Array Slot), lv_has ls 4 [(0, .ref sb), (1, .ref x), (2, .ref (am 0)), (3, .int (zI i))] → W p l e room_1 s m #[Value.ref sb] below meth c H locs 73 4564 Q (F0 m 734 ls [])) {xk hn : Int} {b bn : zBS} {u0 u1 u2 u3 : Nat → Nat} {d0 d1 d2 d3 : zBS} {t : zTS} {cn : zCS} {bm : zM2} {S : zSt} {hs : List zSt} {Sn : zSt} : lwR xk hn b bn t d0 d1 d2 d3 bm S hs Sn → ∀ (H : Heap) (locs : List Loc), zW D A s.heap [[(x, .inr (4, [.ref (axb 0), .ref (axn 0), .int (zI xk), .ref xh, .ref (axt 0), .ref (axc 0)]))], zBoard cI axb b, zBoard cI axn bn, [(xh, .inr (2, [.ref xa, .int (zI hn)]))], [zRefs cB xa (some (u0 0)) (some (u1 0)) (some (u2 0)) (some (u3 0))], zBoard cI u0 d0, zBoard cI u1 d1, zBoard cI u2 d2, zBoard cI u3 d3, zText cI axt t, zCont cI axc cn, zMod2 cI am bm] H locs → ∀ (ls : Array Slot), lv_has ls 4 [(0, .ref sb), (1, .ref x), (2, .ref (am 0)), (3, .int (zI i))] → W p l e room_1 s m #[Value.ref sb] below meth c H locs 73 4564 Q (F0 m 437 ls []) := by
  have hx := hS.1
  have hb := hS.2.1
  have hown := hS.2.2.2.1
  have hts := hS.2.2.2.2
  intro hR H locs hW ls hl
  obtain ⟨⟨hBb, hHB, hBn, hTk⟩, ⟨hMr, hMh⟩, htk, hsn, hTm, htl, htx⟩ := id hR
  obtain ⟨L9, hL1, hL2⟩ := id hMr
  have hnd := RBS_nd hBb
  have hy1 := hys (i + 1).toNat
  have hy2 := hys (i + 2).toNat
  have hy3 := hys (i + 3).toNat
  refine lv_aload_n hx hb dL_law_437 rfl (lv_at hl 1 rfl) ?_
  refine lv_aload_n hx hb dL_law_438 rfl (lv_at hl 0 rfl) ?_
  refine lv_iload_n hx hb dL_law_439 rfl (lv_at hl 3 rfl) ?_
  refine lv_iconst (v := zI (1)) hx hb dL_law_440 rfl ?_
  refine z_iadd hx hb dL_law_441 ?_
  refine z_sld hx hb hX hbl hbA hW hL (i := i + 1) (by omega) dL_law_442 ?_
  refine lv_aload_n hx hb dL_law_443 rfl (lv_at hl 0 rfl) ?_
  refine lv_iload_n hx hb dL_law_444 rfl (lv_at hl 3 rfl) ?_
  refine lv_iconst (v := zI (2)) hx hb dL_law_445 rfl ?_
  refine z_iadd hx hb dL_law_446 ?_
  refine z_sld hx hb hX hbl hbA hW hL (i := i + 2) (by omega) dL_law_447 ?_
  refine lv_aload_n hx hb dL_law_448 rfl (lv_at hl 0 rfl) ?_
  refine lv_iload_n hx hb dL_law_449 rfl (lv_at hl 3 rfl) ?_
  refine lv_iconst (v := zI (3)) hx hb dL_law_450 rfl ?_
  refine z_iadd hx hb dL_law_451 ?_
  refine z_sld hx hb hX hbl hbA hW hL (i := i + 3) (by omega) dL_law_452 ?_
  refine z_callV (r := (RX4, TX4, 6)) (As := [.int (zI (ys (i + 1).toNat)), .int (zI (ys (i + 2).toNat)), .int (zI (ys (i + 3).toNat))]) (rest := []) hS hK hA hW hl.1 [0, 1, 10] [2, 3, 4, 5, 6, 7, 8, 9, 11] (kX4_event l D cI cB x axb axn xk xh axt axc b cn (ys (i + 1).toNat) (ys (i + 2).toNat) (ys (i + 3).toNat) S.1 S.2.1 S.2.2 hBb hy1 hy2 hy3) (cwV 3 hts gL_law_X4_event rfl rfl rfl (by decide +kernel) ⟨Nat.le_of_ble_eq_true rfl, Nat.le_of_ble_eq_true rfl⟩) (rfl : vwCl[4]? = some (RX4, TX4, 6)) (q0 := 0) rfl dL_law_453 rfl rfl rfl (show ([0, 1, 10] ++ [2, 3, 4, 5, 6, 7, 8, 9, 11] : List Nat).isPerm (List.range 12) = true by decide +kernel) rfl (Nat.le_of_ble_eq_true rfl) ⟨Nat.le_of_ble_eq_true rfl, Nat.le_of_ble_eq_true rfl⟩ (fun v9 w9 H locs hq hW => ?_)
  obtain ⟨rr_453, rfl, rfl, hh_453⟩ := hq
  have hW : zW D A s.heap [[(x, .inr (4, [.ref (axb 0), .ref (axn 0), .int (zI xk), .ref xh, .ref (axt 0), .ref (axc 0)]))], zBoard cI axb b, zCont cI axc cn, zBoard cI axn bn, [(xh, .inr (2, [.ref xa, .int (zI hn)]))], [zRefs cB xa (some (u0 0)) (some (u1 0)) (some (u2 0)) (some (u3 0))], zBoard cI u0 d0, zBoard cI u1 d1, zBoard cI u2 d2, zBoard cI u3 d3, zText cI axt t, zMod2 cI am bm] H locs := hW
  have hW : zW D A s.heap [[(x, .inr (4, [.ref (axb 0), .ref (axn 0), .int (zI xk), .ref xh, .ref (axt 0), .ref (axc 0)]))], zBoard cI axb b, zBoard cI axn bn, [(xh, .inr (2, [.ref xa, .int (zI hn)]))], [zRefs cB xa (some (u0 0)) (some (u1 0)) (some (u2 0)) (some (u3 0))], zBoard cI u0 d0, zBoard cI u1 d1, zBoard cI u2 d2, zBoard cI u3 d3, zText cI axt t, zCont cI axc cn, zMod2 cI am bm] H locs := hW.pick [0, 1, 3, 4, 5, 6, 7, 8, 9, 10, 2, 11] rfl (show ([0, 1, 3, 4, 5, 6, 7, 8, 9, 10, 2, 11] : List Nat).isPerm (List.range 12) = true by decide +kernel)
  refine W.eq (g2 := F0 m 456 ls [.int (zI rr_453)]) rfl ?_
  refine lv_aload_n hx hb dL_law_456 rfl (lv_at hl 2 rfl) ?_
  refine lv_aload_n hx hb dL_law_457 rfl (lv_at hl 0 rfl) ?_
  refine lv_iload_n hx hb dL_law_458 rfl (lv_at hl 3 rfl) ?_
  refine lv_iconst (v := zI (1)) hx hb dL_law_459 rfl ?_
  refine z_iadd hx hb dL_law_460 ?_
  refine z_sld hx hb hX hbl hbA hW hL (i := i + 1) (by omega) dL_law_461 ?_
  refine lv_aload_n hx hb dL_law_462 rfl (lv_at hl 0 rfl) ?_
  refine lv_iload_n hx hb dL_law_463 rfl (lv_at hl 3 rfl) ?_
  refine lv_iconst (v := zI (2)) hx hb dL_law_464 rfl ?_
  refine z_iadd hx hb dL_law_465 ?_
  refine z_sld hx hb hX hbl hbA hW hL (i := i + 2) (by omega) dL_law_466 ?_
  refine lv_aload_n hx hb dL_law_467 rfl (lv_at hl 0 rfl) ?_
  refine lv_iload_n hx hb dL_law_468 rfl (lv_at hl 3 rfl) ?_
  refine lv_iconst (v := zI (3)) hx hb dL_law_469 rfl ?_
  refine z_iadd hx hb dL_law_470 ?_
  refine z_sld hx hb hX hbl hbA hW hL (i := i + 3) (by omega) dL_law_471 ?_
  refine z_callV (r := (RX5, TX5, 18)) (As := [.int (zI (ys (i + 1).toNat)), .int (zI (ys (i + 2).toNat)), .int (zI (ys (i + 3).toNat))]) (rest := [.int (zI rr_453)]) hS hK hA hW hl.1 [11] [0, 1, 2, 3, 4, 5, 6, 7, 8, 9, 10] (kX5_event l D cI cB am bm (ys (i + 1).toNat) (ys (i + 2).toNat) (ys (i + 3).toNat) L9 S.2.1 S.2.2 hL1 hy1 hy2 hy3) (cwV 3 hts gL_law_X5_event rfl rfl rfl (by decide +kernel) ⟨Nat.le_of_ble_eq_true rfl, Nat.le_of_ble_eq_true rfl⟩) (rfl : vwCl[5]? = some (RX5, TX5, 18)) (q0 := 59) rfl dL_law_472 rfl rfl rfl (show ([11] ++ [0, 1, 2, 3, 4, 5, 6, 7, 8, 9, 10] : List Nat).isPerm (List.range 12) = true by decide +kernel) rfl (Nat.le_of_ble_eq_true rfl) ⟨Nat.le_of_ble_eq_true rfl, Nat.le_of_ble_eq_true rfl⟩ (fun v9 w9 H locs hq hW => ?_)
  obtain ⟨rr_472, rfl, rfl, hh_472⟩ := hq
  have hW : zW D A s.heap [zMod2 cI am bm, [(x, .inr (4, [.ref (axb 0), .ref (axn 0), .int (zI xk), .ref xh, .ref (axt 0), .ref (axc 0)]))], zBoard cI axb b, zBoard cI axn bn, [(xh, .inr (2, [.ref xa, .int (zI hn)]))], [zRefs cB xa (some (u0 0)) (some (u1 0)) (some (u2 0)) (some (u3 0))], zBoard cI u0 d0, zBoard cI u1 d1, zBoard cI u2 d2, zBoard cI u3 d3, zText cI axt t, zCont cI axc cn] H locs := hW
  have hW : zW D A s.heap [[(x, .inr (4, [.ref (axb 0), .ref (axn 0), .int (zI xk), .ref xh, .ref (axt 0), .ref (axc 0)]))], zBoard cI axb b, zBoard cI axn bn, [(xh, .inr (2, [.ref xa, .int (zI hn)]))], [zRefs cB xa (some (u0 0)) (some (u1 0)) (some (u2 0)) (some (u3 0))], zBoard cI u0 d0, zBoard cI u1 d1, zBoard cI u2 d2, zBoard cI u3 d3, zText cI axt t, zCont cI axc cn, zMod2 cI am bm] H locs := hW.pick [1, 2, 3, 4, 5, 6, 7, 8, 9, 10, 11, 0] rfl (show ([1, 2, 3, 4, 5, 6, 7, 8, 9, 10, 11, 0] : List Nat).isPerm (List.range 12) = true by decide +kernel)
  refine W.eq (g2 := F0 m 475 ls [.int (zI rr_472), .int (zI rr_453)]) rfl ?_
  have hq1 := hh_472
  rw [← hL2] at hq1
  have hre := evtR_det hnd hh_453 hq1
  refine z_same (tgt := 734) hx hb dL_law_475 (by decide) (by exact hre) ?_
  exact KK xk hn b bn u0 u1 u2 u3 d0 d1 d2 d3 t cn bm S hs Sn (⟨⟨hBb, hHB, hBn, hTk⟩, ⟨hMr, hMh⟩, htk, hsn, hTm, htl, htx⟩) _ _ hW ls hl

set_option maxHeartbeats 8000000 in
set_option maxRecDepth 100000 in
theorem lwc_480 {p : Program} {l : Launch} {e : Env} {s : State} {m : MethodId} {below : List Frame} {meth : Method} {c : Code} {Q : State → Prop} {D : va_G} {cI cB : ClassId} {A : Nat → Prop} {sb L : Nat} {ys : Nat → Int} {x : Nat} {axb axn : Nat → Nat} {xh : Nat} {axt axc : Nat → Nat} {xa : Nat} {am : Nat → Nat} (hS : CallFix p m c cL_law 4 s #[Value.ref sb] wsL_law RL) (hK : ZK D cI cB s) (hA : ∀ q, s.heap.size ≤ q → A q) (hL : L ≤ 2048) (hX : va_X sb L (fun j => zI (ys j)) s s.heap) (hbl : sb < s.heap.size) (hbA : ¬ A sb) (hys : ∀ j, R32 (ys j)) {i : Int} (hi : 0 ≤ i ∧ i + 4 ≤ (L : Int)) (KK : ∀ (xk hn : Int) (b bn : zBS) (u0 u1 u2 u3 : Nat → Nat) (d0 d1 d2 d3 : zBS) (t : zTS) (cn : zCS) (bm : zM2) (S : zSt) (hs : List zSt) (Sn : zSt), lwR xk hn b bn t d0 d1 d2 d3 bm S hs Sn → ∀ (H : Heap) (locs : List Loc), zW D A s.heap [[(x, .inr (4, [.ref (axb 0), .ref (axn 0), .int (zI xk), .ref xh, .ref (axt 0), .ref (axc 0)]))], zBoard cI axb b, zBoard cI axn bn, [(xh, .inr (2, [.ref xa, .int (zI hn)]))], [zRefs cB xa (some (u0 0)) (some (u1 0)) (some (u2 0)) (some (u3 0))], zBoard cI u0 d0, zBoard cI u1 d1, zBoard cI u2 d2, zBoard cI u3 d3, zText cI axt t, zCont cI axc cn, zMod2 cI am bm] H locs → ∀ (ls : Array Slot), lv_has ls 4 [(0, .ref sb), (1, .ref x), (2, .ref (am 0)), (3, .int (zI i))] → W p l e room_1 s m #[Value.ref sb] below meth c H locs 73 4564 Q (F0 m 734 ls [])) {xk hn : Int} {b bn : zBS} {u0 u1 u2 u3 : Nat → Nat} {d0 d1 d2 d3 : zBS} {t : zTS} {cn : zCS} {bm : zM2} {S : zSt} {hs : List zSt} {Sn : zSt} : lwR xk hn b bn t d0 d1 d2 d3 bm S hs Sn → ∀ (H : Heap) (locs : List Loc), zW D A s.heap [[(x, .inr (4, [.ref (axb 0), .ref (axn 0), .int (zI xk), .ref xh, .ref (axt 0), .ref (axc 0)]))], zBoard cI axb b, zBoard cI axn bn, [(xh, .inr (2, [.ref xa, .int (zI hn)]))], [zRefs cB xa (some (u0 0)) (some (u1 0)) (some (u2 0)) (some (u3 0))], zBoard cI u0 d0, zBoard cI u1 d1, zBoard cI u2 d2, zBoard cI u3 d3, zText cI axt t, zCont cI axc cn, zMod2 cI am bm] H locs → ∀ (ls : Array Slot), lv_has ls 4 [(0, .ref sb), (1, .ref x), (2, .ref (am 0)), (3, .int (zI i))] → W p l e room_1 s m #[Value.ref sb] below meth c H locs 73 4564 Q (F0 m 480 ls []) := by
  have hx := hS.1
  have hb := hS.2.1
  have hown := hS.2.2.2.1
  have hts := hS.2.2.2.2
  intro hR H locs hW ls hl
  obtain ⟨⟨hBb, hHB, hBn, hTk⟩, ⟨hMr, hMh⟩, htk, hsn, hTm, htl, htx⟩ := id hR
  obtain ⟨L9, hL1, hL2⟩ := id hMr
  have hnd := RBS_nd hBb
  have hy1 := hys (i + 1).toNat
  have hy2 := hys (i + 2).toNat
  have hy3 := hys (i + 3).toNat
  refine lv_aload_n hx hb dL_law_480 rfl (lv_at hl 1 rfl) ?_
  refine lv_aload_n hx hb dL_law_481 rfl (lv_at hl 0 rfl) ?_
  refine lv_iload_n hx hb dL_law_482 rfl (lv_at hl 3 rfl) ?_
  refine lv_iconst (v := zI (1)) hx hb dL_law_483 rfl ?_
  refine z_iadd hx hb dL_law_484 ?_
  refine z_sld hx hb hX hbl hbA hW hL (i := i + 1) (by omega) dL_law_485 ?_
  refine z_callV (r := (RX4, TX4, 6)) (As := [.int (zI (ys (i + 1).toNat))]) (rest := []) hS hK hA hW hl.1 [0, 1] [2, 3, 4, 5, 6, 7, 8, 9, 10, 11] (kX4_at l D cI cB x axb axn xk xh axt axc b (ys (i + 1).toNat) S.1 S.2.1 S.2.2 hBb hy1) (cwV 1 hts gL_law_X4_at rfl rfl rfl (by decide +kernel) ⟨Nat.le_of_ble_eq_true rfl, Nat.le_of_ble_eq_true rfl⟩) (rfl : vwCl[4]? = some (RX4, TX4, 6)) (q0 := 0) rfl dL_law_486 rfl rfl rfl (show ([0, 1] ++ [2, 3, 4, 5, 6, 7, 8, 9, 10, 11] : List Nat).isPerm (List.range 12) = true by decide +kernel) rfl (Nat.le_of_ble_eq_true rfl) ⟨Nat.le_of_ble_eq_true rfl, Nat.le_of_ble_eq_true rfl⟩ (fun v9 w9 H locs hq hW => ?_)
  obtain ⟨rr_486, rfl, rfl, hh_486⟩ := hq
  have hW : zW D A s.heap [[(x, .inr (4, [.ref (axb 0), .ref (axn 0), .int (zI xk), .ref xh, .ref (axt 0), .ref (axc 0)]))], zBoard cI axb b, zBoard cI axn bn, [(xh, .inr (2, [.ref xa, .int (zI hn)]))], [zRefs cB xa (some (u0 0)) (some (u1 0)) (some (u2 0)) (some (u3 0))], zBoard cI u0 d0, zBoard cI u1 d1, zBoard cI u2 d2, zBoard cI u3 d3, zText cI axt t, zCont cI axc cn, zMod2 cI am bm] H locs := hW
  refine W.eq (g2 := F0 m 489 ls [.int (zI rr_486)]) rfl ?_
  refine lv_aload_n hx hb dL_law_489 rfl (lv_at hl 2 rfl) ?_
  refine lv_aload_n hx hb dL_law_490 rfl (lv_at hl 0 rfl) ?_
  refine lv_iload_n hx hb dL_law_491 rfl (lv_at hl 3 rfl) ?_
  refine lv_iconst (v := zI (1)) hx hb dL_law_492 rfl ?_
  refine z_iadd hx hb dL_law_493 ?_
  refine z_sld hx hb hX hbl hbA hW hL (i := i + 1) (by omega) dL_law_494 ?_
  refine z_callV (r := (RX5, TX5, 18)) (As := [.int (zI (ys (i + 1).toNat))]) (rest := [.int (zI rr_486)]) hS hK hA hW hl.1 [11] [0, 1, 2, 3, 4, 5, 6, 7, 8, 9, 10] (kX5_at l D cI cB am bm (ys (i + 1).toNat) L9 S.2.1 S.2.2 hL1 hy1) (cwV 1 hts gL_law_X5_at rfl rfl rfl (by decide +kernel) ⟨Nat.le_of_ble_eq_true rfl, Nat.le_of_ble_eq_true rfl⟩) (rfl : vwCl[5]? = some (RX5, TX5, 18)) (q0 := 59) rfl dL_law_495 rfl rfl rfl (show ([11] ++ [0, 1, 2, 3, 4, 5, 6, 7, 8, 9, 10] : List Nat).isPerm (List.range 12) = true by decide +kernel) rfl (Nat.le_of_ble_eq_true rfl) ⟨Nat.le_of_ble_eq_true rfl, Nat.le_of_ble_eq_true rfl⟩ (fun v9 w9 H locs hq hW => ?_)
  obtain ⟨rr_495, zrow_495, rfl, rfl, hh_495⟩ := hq
  have hW : zW D A s.heap [zMod2 cI am (mm_row_ bm (zrow_495)), [(x, .inr (4, [.ref (axb 0), .ref (axn 0), .int (zI xk), .ref xh, .ref (axt 0), .ref (axc 0)]))], zBoard cI axb b, zBoard cI axn bn, [(xh, .inr (2, [.ref xa, .int (zI hn)]))], [zRefs cB xa (some (u0 0)) (some (u1 0)) (some (u2 0)) (some (u3 0))], zBoard cI u0 d0, zBoard cI u1 d1, zBoard cI u2 d2, zBoard cI u3 d3, zText cI axt t, zCont cI axc cn] H locs := hW
  have hW : zW D A s.heap [[(x, .inr (4, [.ref (axb 0), .ref (axn 0), .int (zI xk), .ref xh, .ref (axt 0), .ref (axc 0)]))], zBoard cI axb b, zBoard cI axn bn, [(xh, .inr (2, [.ref xa, .int (zI hn)]))], [zRefs cB xa (some (u0 0)) (some (u1 0)) (some (u2 0)) (some (u3 0))], zBoard cI u0 d0, zBoard cI u1 d1, zBoard cI u2 d2, zBoard cI u3 d3, zText cI axt t, zCont cI axc cn, zMod2 cI am (mm_row_ bm (zrow_495))] H locs := hW.pick [1, 2, 3, 4, 5, 6, 7, 8, 9, 10, 11, 0] rfl (show ([1, 2, 3, 4, 5, 6, 7, 8, 9, 10, 11, 0] : List Nat).isPerm (List.range 12) = true by decide +kernel)
  refine W.eq (g2 := F0 m 498 ls [.int (zI rr_495), .int (zI rr_486)]) rfl ?_
  have hq1 := hh_495
  rw [← hL2] at hq1
  have hre := atR_det hh_486 hq1
  refine z_same (tgt := 734) hx hb dL_law_498 (by decide) (by exact hre) ?_
  exact KK xk hn b bn u0 u1 u2 u3 d0 d1 d2 d3 t cn ((mm_row_ bm (zrow_495))) S hs Sn (⟨⟨hBb, hHB, hBn, hTk⟩, ⟨hMr, hMh⟩, htk, hsn, hTm, htl, htx⟩) _ _ hW ls hl

set_option maxHeartbeats 8000000 in
set_option maxRecDepth 100000 in
theorem lwc_503 {p : Program} {l : Launch} {e : Env} {s : State} {m : MethodId} {below : List Frame} {meth : Method} {c : Code} {Q : State → Prop} {D : va_G} {cI cB : ClassId} {A : Nat → Prop} {sb L : Nat} {ys : Nat → Int} {x : Nat} {axb axn : Nat → Nat} {xh : Nat} {axt axc : Nat → Nat} {xa : Nat} {am : Nat → Nat} (hS : CallFix p m c cL_law 4 s #[Value.ref sb] wsL_law RL) (hK : ZK D cI cB s) (hA : ∀ q, s.heap.size ≤ q → A q) (hL : L ≤ 2048) (hX : va_X sb L (fun j => zI (ys j)) s s.heap) (hbl : sb < s.heap.size) (hbA : ¬ A sb) (hys : ∀ j, R32 (ys j)) {i : Int} (hi : 0 ≤ i ∧ i + 4 ≤ (L : Int)) (KK : ∀ (xk hn : Int) (b bn : zBS) (u0 u1 u2 u3 : Nat → Nat) (d0 d1 d2 d3 : zBS) (t : zTS) (cn : zCS) (bm : zM2) (S : zSt) (hs : List zSt) (Sn : zSt), lwR xk hn b bn t d0 d1 d2 d3 bm S hs Sn → ∀ (H : Heap) (locs : List Loc), zW D A s.heap [[(x, .inr (4, [.ref (axb 0), .ref (axn 0), .int (zI xk), .ref xh, .ref (axt 0), .ref (axc 0)]))], zBoard cI axb b, zBoard cI axn bn, [(xh, .inr (2, [.ref xa, .int (zI hn)]))], [zRefs cB xa (some (u0 0)) (some (u1 0)) (some (u2 0)) (some (u3 0))], zBoard cI u0 d0, zBoard cI u1 d1, zBoard cI u2 d2, zBoard cI u3 d3, zText cI axt t, zCont cI axc cn, zMod2 cI am bm] H locs → ∀ (ls : Array Slot), lv_has ls 4 [(0, .ref sb), (1, .ref x), (2, .ref (am 0)), (3, .int (zI i))] → W p l e room_1 s m #[Value.ref sb] below meth c H locs 73 4564 Q (F0 m 734 ls [])) {xk hn : Int} {b bn : zBS} {u0 u1 u2 u3 : Nat → Nat} {d0 d1 d2 d3 : zBS} {t : zTS} {cn : zCS} {bm : zM2} {S : zSt} {hs : List zSt} {Sn : zSt} : lwR xk hn b bn t d0 d1 d2 d3 bm S hs Sn → ∀ (H : Heap) (locs : List Loc), zW D A s.heap [[(x, .inr (4, [.ref (axb 0), .ref (axn 0), .int (zI xk), .ref xh, .ref (axt 0), .ref (axc 0)]))], zBoard cI axb b, zBoard cI axn bn, [(xh, .inr (2, [.ref xa, .int (zI hn)]))], [zRefs cB xa (some (u0 0)) (some (u1 0)) (some (u2 0)) (some (u3 0))], zBoard cI u0 d0, zBoard cI u1 d1, zBoard cI u2 d2, zBoard cI u3 d3, zText cI axt t, zCont cI axc cn, zMod2 cI am bm] H locs → ∀ (ls : Array Slot), lv_has ls 4 [(0, .ref sb), (1, .ref x), (2, .ref (am 0)), (3, .int (zI i))] → W p l e room_1 s m #[Value.ref sb] below meth c H locs 73 4564 Q (F0 m 503 ls []) := by
  have hx := hS.1
  have hb := hS.2.1
  have hown := hS.2.2.2.1
  have hts := hS.2.2.2.2
  intro hR H locs hW ls hl
  obtain ⟨⟨hBb, hHB, hBn, hTk⟩, ⟨hMr, hMh⟩, htk, hsn, hTm, htl, htx⟩ := id hR
  obtain ⟨L9, hL1, hL2⟩ := id hMr
  have hnd := RBS_nd hBb
  have hy1 := hys (i + 1).toNat
  have hy2 := hys (i + 2).toNat
  have hy3 := hys (i + 3).toNat
  refine lv_aload_n hx hb dL_law_503 rfl (lv_at hl 1 rfl) ?_
  refine lv_aload_n hx hb dL_law_504 rfl (lv_at hl 0 rfl) ?_
  refine lv_iload_n hx hb dL_law_505 rfl (lv_at hl 3 rfl) ?_
  refine lv_iconst (v := zI (1)) hx hb dL_law_506 rfl ?_
  refine z_iadd hx hb dL_law_507 ?_
  refine z_sld hx hb hX hbl hbA hW hL (i := i + 1) (by omega) dL_law_508 ?_
  refine lv_aload_n hx hb dL_law_509 rfl (lv_at hl 0 rfl) ?_
  refine lv_iload_n hx hb dL_law_510 rfl (lv_at hl 3 rfl) ?_
  refine lv_iconst (v := zI (2)) hx hb dL_law_511 rfl ?_
  refine z_iadd hx hb dL_law_512 ?_
  refine z_sld hx hb hX hbl hbA hW hL (i := i + 2) (by omega) dL_law_513 ?_
  refine z_callV (r := (RX4, TX4, 6)) (As := [.int (zI (ys (i + 1).toNat)), .int (zI (ys (i + 2).toNat))]) (rest := []) hS hK hA hW hl.1 [0, 1, 10] [2, 3, 4, 5, 6, 7, 8, 9, 11] (kX4_scene l D cI cB x axb axn xk xh axt axc b cn (ys (i + 1).toNat) (ys (i + 2).toNat) S.1 S.2.1 S.2.2 hBb hy1 hy2) (cwV 2 hts gL_law_X4_scene rfl rfl rfl (by decide +kernel) ⟨Nat.le_of_ble_eq_true rfl, Nat.le_of_ble_eq_true rfl⟩) (rfl : vwCl[4]? = some (RX4, TX4, 6)) (q0 := 0) rfl dL_law_514 rfl rfl rfl (show ([0, 1, 10] ++ [2, 3, 4, 5, 6, 7, 8, 9, 11] : List Nat).isPerm (List.range 12) = true by decide +kernel) rfl (Nat.le_of_ble_eq_true rfl) ⟨Nat.le_of_ble_eq_true rfl, Nat.le_of_ble_eq_true rfl⟩ (fun v9 w9 H locs hq hW => ?_)
  obtain ⟨rr_514, cz_514, rfl, rfl, hh_514⟩ := hq
  have hW : zW D A s.heap [[(x, .inr (4, [.ref (axb 0), .ref (axn 0), .int (zI xk), .ref xh, .ref (axt 0), .ref (axc 0)]))], zBoard cI axb b, zCont cI axc cz_514, zBoard cI axn bn, [(xh, .inr (2, [.ref xa, .int (zI hn)]))], [zRefs cB xa (some (u0 0)) (some (u1 0)) (some (u2 0)) (some (u3 0))], zBoard cI u0 d0, zBoard cI u1 d1, zBoard cI u2 d2, zBoard cI u3 d3, zText cI axt t, zMod2 cI am bm] H locs := hW
  have hW : zW D A s.heap [[(x, .inr (4, [.ref (axb 0), .ref (axn 0), .int (zI xk), .ref xh, .ref (axt 0), .ref (axc 0)]))], zBoard cI axb b, zBoard cI axn bn, [(xh, .inr (2, [.ref xa, .int (zI hn)]))], [zRefs cB xa (some (u0 0)) (some (u1 0)) (some (u2 0)) (some (u3 0))], zBoard cI u0 d0, zBoard cI u1 d1, zBoard cI u2 d2, zBoard cI u3 d3, zText cI axt t, zCont cI axc cz_514, zMod2 cI am bm] H locs := hW.pick [0, 1, 3, 4, 5, 6, 7, 8, 9, 10, 2, 11] rfl (show ([0, 1, 3, 4, 5, 6, 7, 8, 9, 10, 2, 11] : List Nat).isPerm (List.range 12) = true by decide +kernel)
  refine W.eq (g2 := F0 m 517 ls [.int (zI rr_514)]) rfl ?_
  refine lv_aload_n hx hb dL_law_517 rfl (lv_at hl 2 rfl) ?_
  refine lv_aload_n hx hb dL_law_518 rfl (lv_at hl 0 rfl) ?_
  refine lv_iload_n hx hb dL_law_519 rfl (lv_at hl 3 rfl) ?_
  refine lv_iconst (v := zI (1)) hx hb dL_law_520 rfl ?_
  refine z_iadd hx hb dL_law_521 ?_
  refine z_sld hx hb hX hbl hbA hW hL (i := i + 1) (by omega) dL_law_522 ?_
  refine lv_aload_n hx hb dL_law_523 rfl (lv_at hl 0 rfl) ?_
  refine lv_iload_n hx hb dL_law_524 rfl (lv_at hl 3 rfl) ?_
  refine lv_iconst (v := zI (2)) hx hb dL_law_525 rfl ?_
  refine z_iadd hx hb dL_law_526 ?_
  refine z_sld hx hb hX hbl hbA hW hL (i := i + 2) (by omega) dL_law_527 ?_
  refine z_callV (r := (RX5, TX5, 18)) (As := [.int (zI (ys (i + 1).toNat)), .int (zI (ys (i + 2).toNat))]) (rest := [.int (zI rr_514)]) hS hK hA hW hl.1 [11] [0, 1, 2, 3, 4, 5, 6, 7, 8, 9, 10] (kX5_scene l D cI cB am bm (ys (i + 1).toNat) (ys (i + 2).toNat) L9 S.2.1 S.2.2 hL1 hy1 hy2) (cwV 2 hts gL_law_X5_scene rfl rfl rfl (by decide +kernel) ⟨Nat.le_of_ble_eq_true rfl, Nat.le_of_ble_eq_true rfl⟩) (rfl : vwCl[5]? = some (RX5, TX5, 18)) (q0 := 59) rfl dL_law_528 rfl rfl rfl (show ([11] ++ [0, 1, 2, 3, 4, 5, 6, 7, 8, 9, 10] : List Nat).isPerm (List.range 12) = true by decide +kernel) rfl (Nat.le_of_ble_eq_true rfl) ⟨Nat.le_of_ble_eq_true rfl, Nat.le_of_ble_eq_true rfl⟩ (fun v9 w9 H locs hq hW => ?_)
  obtain ⟨rr_528, zrow_528, zbrk_528, znb_528, zhold_528, zmov_528, zbeh_528, rfl, rfl, hh_528⟩ := hq
  have hW : zW D A s.heap [zMod2 cI am (mm_beh_ (mm_mov_ (mm_hold_ (mm_nb_ (mm_brk_ (mm_row_ bm (zrow_528)) (zbrk_528)) (znb_528)) (zhold_528)) (zmov_528)) (zbeh_528)), [(x, .inr (4, [.ref (axb 0), .ref (axn 0), .int (zI xk), .ref xh, .ref (axt 0), .ref (axc 0)]))], zBoard cI axb b, zBoard cI axn bn, [(xh, .inr (2, [.ref xa, .int (zI hn)]))], [zRefs cB xa (some (u0 0)) (some (u1 0)) (some (u2 0)) (some (u3 0))], zBoard cI u0 d0, zBoard cI u1 d1, zBoard cI u2 d2, zBoard cI u3 d3, zText cI axt t, zCont cI axc cz_514] H locs := hW
  have hW : zW D A s.heap [[(x, .inr (4, [.ref (axb 0), .ref (axn 0), .int (zI xk), .ref xh, .ref (axt 0), .ref (axc 0)]))], zBoard cI axb b, zBoard cI axn bn, [(xh, .inr (2, [.ref xa, .int (zI hn)]))], [zRefs cB xa (some (u0 0)) (some (u1 0)) (some (u2 0)) (some (u3 0))], zBoard cI u0 d0, zBoard cI u1 d1, zBoard cI u2 d2, zBoard cI u3 d3, zText cI axt t, zCont cI axc cz_514, zMod2 cI am (mm_beh_ (mm_mov_ (mm_hold_ (mm_nb_ (mm_brk_ (mm_row_ bm (zrow_528)) (zbrk_528)) (znb_528)) (zhold_528)) (zmov_528)) (zbeh_528))] H locs := hW.pick [1, 2, 3, 4, 5, 6, 7, 8, 9, 10, 11, 0] rfl (show ([1, 2, 3, 4, 5, 6, 7, 8, 9, 10, 11, 0] : List Nat).isPerm (List.range 12) = true by decide +kernel)
  refine W.eq (g2 := F0 m 531 ls [.int (zI rr_528), .int (zI rr_514)]) rfl ?_
  have hq1 := hh_528
  rw [← hL2] at hq1
  have hre := scnR_det hh_514 hq1
  refine z_same (tgt := 734) hx hb dL_law_531 (by decide) (by exact hre) ?_
  exact KK xk hn b bn u0 u1 u2 u3 d0 d1 d2 d3 t cz_514 ((mm_beh_ (mm_mov_ (mm_hold_ (mm_nb_ (mm_brk_ (mm_row_ bm (zrow_528)) (zbrk_528)) (znb_528)) (zhold_528)) (zmov_528)) (zbeh_528))) S hs Sn (⟨⟨hBb, hHB, hBn, hTk⟩, ⟨hMr, hMh⟩, htk, hsn, hTm, htl, htx⟩) _ _ hW ls hl

set_option maxHeartbeats 8000000 in
set_option maxRecDepth 100000 in
theorem lwc_536 {p : Program} {l : Launch} {e : Env} {s : State} {m : MethodId} {below : List Frame} {meth : Method} {c : Code} {Q : State → Prop} {D : va_G} {cI cB : ClassId} {A : Nat → Prop} {sb L : Nat} {ys : Nat → Int} {x : Nat} {axb axn : Nat → Nat} {xh : Nat} {axt axc : Nat → Nat} {xa : Nat} {am : Nat → Nat} (hS : CallFix p m c cL_law 4 s #[Value.ref sb] wsL_law RL) (hK : ZK D cI cB s) (hA : ∀ q, s.heap.size ≤ q → A q) (hL : L ≤ 2048) (hX : va_X sb L (fun j => zI (ys j)) s s.heap) (hbl : sb < s.heap.size) (hbA : ¬ A sb) (hys : ∀ j, R32 (ys j)) {i : Int} (hi : 0 ≤ i ∧ i + 4 ≤ (L : Int)) (KK : ∀ (xk hn : Int) (b bn : zBS) (u0 u1 u2 u3 : Nat → Nat) (d0 d1 d2 d3 : zBS) (t : zTS) (cn : zCS) (bm : zM2) (S : zSt) (hs : List zSt) (Sn : zSt), lwR xk hn b bn t d0 d1 d2 d3 bm S hs Sn → ∀ (H : Heap) (locs : List Loc), zW D A s.heap [[(x, .inr (4, [.ref (axb 0), .ref (axn 0), .int (zI xk), .ref xh, .ref (axt 0), .ref (axc 0)]))], zBoard cI axb b, zBoard cI axn bn, [(xh, .inr (2, [.ref xa, .int (zI hn)]))], [zRefs cB xa (some (u0 0)) (some (u1 0)) (some (u2 0)) (some (u3 0))], zBoard cI u0 d0, zBoard cI u1 d1, zBoard cI u2 d2, zBoard cI u3 d3, zText cI axt t, zCont cI axc cn, zMod2 cI am bm] H locs → ∀ (ls : Array Slot), lv_has ls 4 [(0, .ref sb), (1, .ref x), (2, .ref (am 0)), (3, .int (zI i))] → W p l e room_1 s m #[Value.ref sb] below meth c H locs 73 4564 Q (F0 m 734 ls [])) {xk hn : Int} {b bn : zBS} {u0 u1 u2 u3 : Nat → Nat} {d0 d1 d2 d3 : zBS} {t : zTS} {cn : zCS} {bm : zM2} {S : zSt} {hs : List zSt} {Sn : zSt} : lwR xk hn b bn t d0 d1 d2 d3 bm S hs Sn → ∀ (H : Heap) (locs : List Loc), zW D A s.heap [[(x, .inr (4, [.ref (axb 0), .ref (axn 0), .int (zI xk), .ref xh, .ref (axt 0), .ref (axc 0)]))], zBoard cI axb b, zBoard cI axn bn, [(xh, .inr (2, [.ref xa, .int (zI hn)]))], [zRefs cB xa (some (u0 0)) (some (u1 0)) (some (u2 0)) (some (u3 0))], zBoard cI u0 d0, zBoard cI u1 d1, zBoard cI u2 d2, zBoard cI u3 d3, zText cI axt t, zCont cI axc cn, zMod2 cI am bm] H locs → ∀ (ls : Array Slot), lv_has ls 4 [(0, .ref sb), (1, .ref x), (2, .ref (am 0)), (3, .int (zI i))] → W p l e room_1 s m #[Value.ref sb] below meth c H locs 73 4564 Q (F0 m 536 ls []) := by
  have hx := hS.1
  have hb := hS.2.1
  have hown := hS.2.2.2.1
  have hts := hS.2.2.2.2
  intro hR H locs hW ls hl
  obtain ⟨⟨hBb, hHB, hBn, hTk⟩, ⟨hMr, hMh⟩, htk, hsn, hTm, htl, htx⟩ := id hR
  obtain ⟨L9, hL1, hL2⟩ := id hMr
  have hnd := RBS_nd hBb
  have hy1 := hys (i + 1).toNat
  have hy2 := hys (i + 2).toNat
  have hy3 := hys (i + 3).toNat
  refine lv_aload_n hx hb dL_law_536 rfl (lv_at hl 1 rfl) ?_
  refine lv_aload_n hx hb dL_law_537 rfl (lv_at hl 0 rfl) ?_
  refine lv_iload_n hx hb dL_law_538 rfl (lv_at hl 3 rfl) ?_
  refine lv_iconst (v := zI (1)) hx hb dL_law_539 rfl ?_
  refine z_iadd hx hb dL_law_540 ?_
  refine z_sld hx hb hX hbl hbA hW hL (i := i + 1) (by omega) dL_law_541 ?_
  refine lv_aload_n hx hb dL_law_542 rfl (lv_at hl 0 rfl) ?_
  refine lv_iload_n hx hb dL_law_543 rfl (lv_at hl 3 rfl) ?_
  refine lv_iconst (v := zI (2)) hx hb dL_law_544 rfl ?_
  refine z_iadd hx hb dL_law_545 ?_
  refine z_sld hx hb hX hbl hbA hW hL (i := i + 2) (by omega) dL_law_546 ?_
  refine z_callV (r := (RX4, TX4, 6)) (As := [.int (zI (ys (i + 1).toNat)), .int (zI (ys (i + 2).toNat))]) (rest := []) hS hK hA hW hl.1 [0, 1, 10] [2, 3, 4, 5, 6, 7, 8, 9, 11] (kX4_holder l D cI cB x axb axn xk xh axt axc b cn (ys (i + 1).toNat) (ys (i + 2).toNat) S.1 S.2.1 S.2.2 hBb hy1 hy2) (cwV 2 hts gL_law_X4_holder rfl rfl rfl (by decide +kernel) ⟨Nat.le_of_ble_eq_true rfl, Nat.le_of_ble_eq_true rfl⟩) (rfl : vwCl[4]? = some (RX4, TX4, 6)) (q0 := 0) rfl dL_law_547 rfl rfl rfl (show ([0, 1, 10] ++ [2, 3, 4, 5, 6, 7, 8, 9, 11] : List Nat).isPerm (List.range 12) = true by decide +kernel) rfl (Nat.le_of_ble_eq_true rfl) ⟨Nat.le_of_ble_eq_true rfl, Nat.le_of_ble_eq_true rfl⟩ (fun v9 w9 H locs hq hW => ?_)
  obtain ⟨rr_547, cz_547, rfl, rfl, hh_547⟩ := hq
  have hW : zW D A s.heap [[(x, .inr (4, [.ref (axb 0), .ref (axn 0), .int (zI xk), .ref xh, .ref (axt 0), .ref (axc 0)]))], zBoard cI axb b, zCont cI axc cz_547, zBoard cI axn bn, [(xh, .inr (2, [.ref xa, .int (zI hn)]))], [zRefs cB xa (some (u0 0)) (some (u1 0)) (some (u2 0)) (some (u3 0))], zBoard cI u0 d0, zBoard cI u1 d1, zBoard cI u2 d2, zBoard cI u3 d3, zText cI axt t, zMod2 cI am bm] H locs := hW
  have hW : zW D A s.heap [[(x, .inr (4, [.ref (axb 0), .ref (axn 0), .int (zI xk), .ref xh, .ref (axt 0), .ref (axc 0)]))], zBoard cI axb b, zBoard cI axn bn, [(xh, .inr (2, [.ref xa, .int (zI hn)]))], [zRefs cB xa (some (u0 0)) (some (u1 0)) (some (u2 0)) (some (u3 0))], zBoard cI u0 d0, zBoard cI u1 d1, zBoard cI u2 d2, zBoard cI u3 d3, zText cI axt t, zCont cI axc cz_547, zMod2 cI am bm] H locs := hW.pick [0, 1, 3, 4, 5, 6, 7, 8, 9, 10, 2, 11] rfl (show ([0, 1, 3, 4, 5, 6, 7, 8, 9, 10, 2, 11] : List Nat).isPerm (List.range 12) = true by decide +kernel)
  refine W.eq (g2 := F0 m 550 ls [.int (zI rr_547)]) rfl ?_
  refine lv_aload_n hx hb dL_law_550 rfl (lv_at hl 2 rfl) ?_
  refine lv_aload_n hx hb dL_law_551 rfl (lv_at hl 0 rfl) ?_
  refine lv_iload_n hx hb dL_law_552 rfl (lv_at hl 3 rfl) ?_
  refine lv_iconst (v := zI (1)) hx hb dL_law_553 rfl ?_
  refine z_iadd hx hb dL_law_554 ?_
  refine z_sld hx hb hX hbl hbA hW hL (i := i + 1) (by omega) dL_law_555 ?_
  refine lv_aload_n hx hb dL_law_556 rfl (lv_at hl 0 rfl) ?_
  refine lv_iload_n hx hb dL_law_557 rfl (lv_at hl 3 rfl) ?_
  refine lv_iconst (v := zI (2)) hx hb dL_law_558 rfl ?_
  refine z_iadd hx hb dL_law_559 ?_
  refine z_sld hx hb hX hbl hbA hW hL (i := i + 2) (by omega) dL_law_560 ?_
  refine z_callV (r := (RX5, TX5, 18)) (As := [.int (zI (ys (i + 1).toNat)), .int (zI (ys (i + 2).toNat))]) (rest := [.int (zI rr_547)]) hS hK hA hW hl.1 [11] [0, 1, 2, 3, 4, 5, 6, 7, 8, 9, 10] (kX5_holder l D cI cB am bm (ys (i + 1).toNat) (ys (i + 2).toNat) L9 S.2.1 S.2.2 hL1 hy1 hy2) (cwV 2 hts gL_law_X5_holder rfl rfl rfl (by decide +kernel) ⟨Nat.le_of_ble_eq_true rfl, Nat.le_of_ble_eq_true rfl⟩) (rfl : vwCl[5]? = some (RX5, TX5, 18)) (q0 := 59) rfl dL_law_561 rfl rfl rfl (show ([11] ++ [0, 1, 2, 3, 4, 5, 6, 7, 8, 9, 10] : List Nat).isPerm (List.range 12) = true by decide +kernel) rfl (Nat.le_of_ble_eq_true rfl) ⟨Nat.le_of_ble_eq_true rfl, Nat.le_of_ble_eq_true rfl⟩ (fun v9 w9 H locs hq hW => ?_)
  obtain ⟨rr_561, zrow_561, zbrk_561, znb_561, zhold_561, zmov_561, zbeh_561, rfl, rfl, hh_561⟩ := hq
  have hW : zW D A s.heap [zMod2 cI am (mm_beh_ (mm_mov_ (mm_hold_ (mm_nb_ (mm_brk_ (mm_row_ bm (zrow_561)) (zbrk_561)) (znb_561)) (zhold_561)) (zmov_561)) (zbeh_561)), [(x, .inr (4, [.ref (axb 0), .ref (axn 0), .int (zI xk), .ref xh, .ref (axt 0), .ref (axc 0)]))], zBoard cI axb b, zBoard cI axn bn, [(xh, .inr (2, [.ref xa, .int (zI hn)]))], [zRefs cB xa (some (u0 0)) (some (u1 0)) (some (u2 0)) (some (u3 0))], zBoard cI u0 d0, zBoard cI u1 d1, zBoard cI u2 d2, zBoard cI u3 d3, zText cI axt t, zCont cI axc cz_547] H locs := hW
  have hW : zW D A s.heap [[(x, .inr (4, [.ref (axb 0), .ref (axn 0), .int (zI xk), .ref xh, .ref (axt 0), .ref (axc 0)]))], zBoard cI axb b, zBoard cI axn bn, [(xh, .inr (2, [.ref xa, .int (zI hn)]))], [zRefs cB xa (some (u0 0)) (some (u1 0)) (some (u2 0)) (some (u3 0))], zBoard cI u0 d0, zBoard cI u1 d1, zBoard cI u2 d2, zBoard cI u3 d3, zText cI axt t, zCont cI axc cz_547, zMod2 cI am (mm_beh_ (mm_mov_ (mm_hold_ (mm_nb_ (mm_brk_ (mm_row_ bm (zrow_561)) (zbrk_561)) (znb_561)) (zhold_561)) (zmov_561)) (zbeh_561))] H locs := hW.pick [1, 2, 3, 4, 5, 6, 7, 8, 9, 10, 11, 0] rfl (show ([1, 2, 3, 4, 5, 6, 7, 8, 9, 10, 11, 0] : List Nat).isPerm (List.range 12) = true by decide +kernel)
  refine W.eq (g2 := F0 m 564 ls [.int (zI rr_561), .int (zI rr_547)]) rfl ?_
  have hq1 := hh_561
  rw [← hL2] at hq1
  have hre := hldR_det hnd hh_547 hq1
  refine z_same (tgt := 734) hx hb dL_law_564 (by decide) (by exact hre) ?_
  exact KK xk hn b bn u0 u1 u2 u3 d0 d1 d2 d3 t cz_547 ((mm_beh_ (mm_mov_ (mm_hold_ (mm_nb_ (mm_brk_ (mm_row_ bm (zrow_561)) (zbrk_561)) (znb_561)) (zhold_561)) (zmov_561)) (zbeh_561))) S hs Sn (⟨⟨hBb, hHB, hBn, hTk⟩, ⟨hMr, hMh⟩, htk, hsn, hTm, htl, htx⟩) _ _ hW ls hl

set_option maxHeartbeats 8000000 in
set_option maxRecDepth 100000 in
theorem lwc_569 {p : Program} {l : Launch} {e : Env} {s : State} {m : MethodId} {below : List Frame} {meth : Method} {c : Code} {Q : State → Prop} {D : va_G} {cI cB : ClassId} {A : Nat → Prop} {sb L : Nat} {ys : Nat → Int} {x : Nat} {axb axn : Nat → Nat} {xh : Nat} {axt axc : Nat → Nat} {xa : Nat} {am : Nat → Nat} (hS : CallFix p m c cL_law 4 s #[Value.ref sb] wsL_law RL) (hK : ZK D cI cB s) (hA : ∀ q, s.heap.size ≤ q → A q) (hL : L ≤ 2048) (hX : va_X sb L (fun j => zI (ys j)) s s.heap) (hbl : sb < s.heap.size) (hbA : ¬ A sb) (hys : ∀ j, R32 (ys j)) {i : Int} (hi : 0 ≤ i ∧ i + 4 ≤ (L : Int)) (KK : ∀ (xk hn : Int) (b bn : zBS) (u0 u1 u2 u3 : Nat → Nat) (d0 d1 d2 d3 : zBS) (t : zTS) (cn : zCS) (bm : zM2) (S : zSt) (hs : List zSt) (Sn : zSt), lwR xk hn b bn t d0 d1 d2 d3 bm S hs Sn → ∀ (H : Heap) (locs : List Loc), zW D A s.heap [[(x, .inr (4, [.ref (axb 0), .ref (axn 0), .int (zI xk), .ref xh, .ref (axt 0), .ref (axc 0)]))], zBoard cI axb b, zBoard cI axn bn, [(xh, .inr (2, [.ref xa, .int (zI hn)]))], [zRefs cB xa (some (u0 0)) (some (u1 0)) (some (u2 0)) (some (u3 0))], zBoard cI u0 d0, zBoard cI u1 d1, zBoard cI u2 d2, zBoard cI u3 d3, zText cI axt t, zCont cI axc cn, zMod2 cI am bm] H locs → ∀ (ls : Array Slot), lv_has ls 4 [(0, .ref sb), (1, .ref x), (2, .ref (am 0)), (3, .int (zI i))] → W p l e room_1 s m #[Value.ref sb] below meth c H locs 73 4564 Q (F0 m 734 ls [])) {xk hn : Int} {b bn : zBS} {u0 u1 u2 u3 : Nat → Nat} {d0 d1 d2 d3 : zBS} {t : zTS} {cn : zCS} {bm : zM2} {S : zSt} {hs : List zSt} {Sn : zSt} : lwR xk hn b bn t d0 d1 d2 d3 bm S hs Sn → ∀ (H : Heap) (locs : List Loc), zW D A s.heap [[(x, .inr (4, [.ref (axb 0), .ref (axn 0), .int (zI xk), .ref xh, .ref (axt 0), .ref (axc 0)]))], zBoard cI axb b, zBoard cI axn bn, [(xh, .inr (2, [.ref xa, .int (zI hn)]))], [zRefs cB xa (some (u0 0)) (some (u1 0)) (some (u2 0)) (some (u3 0))], zBoard cI u0 d0, zBoard cI u1 d1, zBoard cI u2 d2, zBoard cI u3 d3, zText cI axt t, zCont cI axc cn, zMod2 cI am bm] H locs → ∀ (ls : Array Slot), lv_has ls 4 [(0, .ref sb), (1, .ref x), (2, .ref (am 0)), (3, .int (zI i))] → W p l e room_1 s m #[Value.ref sb] below meth c H locs 73 4564 Q (F0 m 569 ls []) := by
  have hx := hS.1
  have hb := hS.2.1
  have hown := hS.2.2.2.1
  have hts := hS.2.2.2.2
  intro hR H locs hW ls hl
  obtain ⟨⟨hBb, hHB, hBn, hTk⟩, ⟨hMr, hMh⟩, htk, hsn, hTm, htl, htx⟩ := id hR
  obtain ⟨L9, hL1, hL2⟩ := id hMr
  have hnd := RBS_nd hBb
  have hy1 := hys (i + 1).toNat
  have hy2 := hys (i + 2).toNat
  have hy3 := hys (i + 3).toNat
  refine lv_aload_n hx hb dL_law_569 rfl (lv_at hl 1 rfl) ?_
  refine lv_aload_n hx hb dL_law_570 rfl (lv_at hl 0 rfl) ?_
  refine lv_iload_n hx hb dL_law_571 rfl (lv_at hl 3 rfl) ?_
  refine lv_iconst (v := zI (1)) hx hb dL_law_572 rfl ?_
  refine z_iadd hx hb dL_law_573 ?_
  refine z_sld hx hb hX hbl hbA hW hL (i := i + 1) (by omega) dL_law_574 ?_
  refine lv_aload_n hx hb dL_law_575 rfl (lv_at hl 0 rfl) ?_
  refine lv_iload_n hx hb dL_law_576 rfl (lv_at hl 3 rfl) ?_
  refine lv_iconst (v := zI (2)) hx hb dL_law_577 rfl ?_
  refine z_iadd hx hb dL_law_578 ?_
  refine z_sld hx hb hX hbl hbA hW hL (i := i + 2) (by omega) dL_law_579 ?_
  refine z_callV (r := (RX4, TX4, 6)) (As := [.int (zI (ys (i + 1).toNat)), .int (zI (ys (i + 2).toNat))]) (rest := []) hS hK hA hW hl.1 [0, 1, 10] [2, 3, 4, 5, 6, 7, 8, 9, 11] (kX4_breakOf l D cI cB x axb axn xk xh axt axc b cn (ys (i + 1).toNat) (ys (i + 2).toNat) S.1 S.2.1 S.2.2 hBb hy1 hy2) (cwV 2 hts gL_law_X4_breakOf rfl rfl rfl (by decide +kernel) ⟨Nat.le_of_ble_eq_true rfl, Nat.le_of_ble_eq_true rfl⟩) (rfl : vwCl[4]? = some (RX4, TX4, 6)) (q0 := 0) rfl dL_law_580 rfl rfl rfl (show ([0, 1, 10] ++ [2, 3, 4, 5, 6, 7, 8, 9, 11] : List Nat).isPerm (List.range 12) = true by decide +kernel) rfl (Nat.le_of_ble_eq_true rfl) ⟨Nat.le_of_ble_eq_true rfl, Nat.le_of_ble_eq_true rfl⟩ (fun v9 w9 H locs hq hW => ?_)
  obtain ⟨rr_580, cz_580, rfl, rfl, hh_580⟩ := hq
  have hW : zW D A s.heap [[(x, .inr (4, [.ref (axb 0), .ref (axn 0), .int (zI xk), .ref xh, .ref (axt 0), .ref (axc 0)]))], zBoard cI axb b, zCont cI axc cz_580, zBoard cI axn bn, [(xh, .inr (2, [.ref xa, .int (zI hn)]))], [zRefs cB xa (some (u0 0)) (some (u1 0)) (some (u2 0)) (some (u3 0))], zBoard cI u0 d0, zBoard cI u1 d1, zBoard cI u2 d2, zBoard cI u3 d3, zText cI axt t, zMod2 cI am bm] H locs := hW
  have hW : zW D A s.heap [[(x, .inr (4, [.ref (axb 0), .ref (axn 0), .int (zI xk), .ref xh, .ref (axt 0), .ref (axc 0)]))], zBoard cI axb b, zBoard cI axn bn, [(xh, .inr (2, [.ref xa, .int (zI hn)]))], [zRefs cB xa (some (u0 0)) (some (u1 0)) (some (u2 0)) (some (u3 0))], zBoard cI u0 d0, zBoard cI u1 d1, zBoard cI u2 d2, zBoard cI u3 d3, zText cI axt t, zCont cI axc cz_580, zMod2 cI am bm] H locs := hW.pick [0, 1, 3, 4, 5, 6, 7, 8, 9, 10, 2, 11] rfl (show ([0, 1, 3, 4, 5, 6, 7, 8, 9, 10, 2, 11] : List Nat).isPerm (List.range 12) = true by decide +kernel)
  refine W.eq (g2 := F0 m 583 ls [.int (zI rr_580)]) rfl ?_
  refine lv_aload_n hx hb dL_law_583 rfl (lv_at hl 2 rfl) ?_
  refine lv_aload_n hx hb dL_law_584 rfl (lv_at hl 0 rfl) ?_
  refine lv_iload_n hx hb dL_law_585 rfl (lv_at hl 3 rfl) ?_
  refine lv_iconst (v := zI (1)) hx hb dL_law_586 rfl ?_
  refine z_iadd hx hb dL_law_587 ?_
  refine z_sld hx hb hX hbl hbA hW hL (i := i + 1) (by omega) dL_law_588 ?_
  refine lv_aload_n hx hb dL_law_589 rfl (lv_at hl 0 rfl) ?_
  refine lv_iload_n hx hb dL_law_590 rfl (lv_at hl 3 rfl) ?_
  refine lv_iconst (v := zI (2)) hx hb dL_law_591 rfl ?_
  refine z_iadd hx hb dL_law_592 ?_
  refine z_sld hx hb hX hbl hbA hW hL (i := i + 2) (by omega) dL_law_593 ?_
  refine z_callV (r := (RX5, TX5, 18)) (As := [.int (zI (ys (i + 1).toNat)), .int (zI (ys (i + 2).toNat))]) (rest := [.int (zI rr_580)]) hS hK hA hW hl.1 [11] [0, 1, 2, 3, 4, 5, 6, 7, 8, 9, 10] (kX5_breakOf l D cI cB am bm (ys (i + 1).toNat) (ys (i + 2).toNat) L9 S.2.1 S.2.2 hL1 hy1 hy2) (cwV 2 hts gL_law_X5_breakOf rfl rfl rfl (by decide +kernel) ⟨Nat.le_of_ble_eq_true rfl, Nat.le_of_ble_eq_true rfl⟩) (rfl : vwCl[5]? = some (RX5, TX5, 18)) (q0 := 59) rfl dL_law_594 rfl rfl rfl (show ([11] ++ [0, 1, 2, 3, 4, 5, 6, 7, 8, 9, 10] : List Nat).isPerm (List.range 12) = true by decide +kernel) rfl (Nat.le_of_ble_eq_true rfl) ⟨Nat.le_of_ble_eq_true rfl, Nat.le_of_ble_eq_true rfl⟩ (fun v9 w9 H locs hq hW => ?_)
  obtain ⟨rr_594, zrow_594, zbrk_594, znb_594, zhold_594, zmov_594, zbeh_594, rfl, rfl, hh_594⟩ := hq
  have hW : zW D A s.heap [zMod2 cI am (mm_beh_ (mm_mov_ (mm_hold_ (mm_nb_ (mm_brk_ (mm_row_ bm (zrow_594)) (zbrk_594)) (znb_594)) (zhold_594)) (zmov_594)) (zbeh_594)), [(x, .inr (4, [.ref (axb 0), .ref (axn 0), .int (zI xk), .ref xh, .ref (axt 0), .ref (axc 0)]))], zBoard cI axb b, zBoard cI axn bn, [(xh, .inr (2, [.ref xa, .int (zI hn)]))], [zRefs cB xa (some (u0 0)) (some (u1 0)) (some (u2 0)) (some (u3 0))], zBoard cI u0 d0, zBoard cI u1 d1, zBoard cI u2 d2, zBoard cI u3 d3, zText cI axt t, zCont cI axc cz_580] H locs := hW
  have hW : zW D A s.heap [[(x, .inr (4, [.ref (axb 0), .ref (axn 0), .int (zI xk), .ref xh, .ref (axt 0), .ref (axc 0)]))], zBoard cI axb b, zBoard cI axn bn, [(xh, .inr (2, [.ref xa, .int (zI hn)]))], [zRefs cB xa (some (u0 0)) (some (u1 0)) (some (u2 0)) (some (u3 0))], zBoard cI u0 d0, zBoard cI u1 d1, zBoard cI u2 d2, zBoard cI u3 d3, zText cI axt t, zCont cI axc cz_580, zMod2 cI am (mm_beh_ (mm_mov_ (mm_hold_ (mm_nb_ (mm_brk_ (mm_row_ bm (zrow_594)) (zbrk_594)) (znb_594)) (zhold_594)) (zmov_594)) (zbeh_594))] H locs := hW.pick [1, 2, 3, 4, 5, 6, 7, 8, 9, 10, 11, 0] rfl (show ([1, 2, 3, 4, 5, 6, 7, 8, 9, 10, 11, 0] : List Nat).isPerm (List.range 12) = true by decide +kernel)
  refine W.eq (g2 := F0 m 597 ls [.int (zI rr_594), .int (zI rr_580)]) rfl ?_
  have hq1 := hh_594
  rw [← hL2] at hq1
  have hre := brkR_det hh_580 hq1
  refine z_same (tgt := 734) hx hb dL_law_597 (by decide) (by exact hre) ?_
  exact KK xk hn b bn u0 u1 u2 u3 d0 d1 d2 d3 t cz_580 ((mm_beh_ (mm_mov_ (mm_hold_ (mm_nb_ (mm_brk_ (mm_row_ bm (zrow_594)) (zbrk_594)) (znb_594)) (zhold_594)) (zmov_594)) (zbeh_594))) S hs Sn (⟨⟨hBb, hHB, hBn, hTk⟩, ⟨hMr, hMh⟩, htk, hsn, hTm, htl, htx⟩) _ _ hW ls hl
