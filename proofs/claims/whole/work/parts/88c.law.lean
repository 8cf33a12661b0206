set_option maxHeartbeats 8000000 in
set_option maxRecDepth 100000 in
theorem lwc_352 {p : Program} {l : Launch} {e : Env} {s : State} {m : MethodId} {below : List Frame} {meth : Method} {c : Code} {Q : State → Prop} {D : va_G} {cI cB : ClassId} {A : Nat → Prop} {sb L : Nat} {ys : Nat → Int} {x : Nat} {axb axn : Nat → Nat} {xh : Nat} {axt axc : Nat → Nat} {xa : Nat} {am : Nat → Nat} (hS : CallFix p m c cL_law 4 s #[Value.ref sb] wsL_law RL) (hK : ZK D cI cB s) (hA : ∀ q, s.heap.size ≤ q → A q) (hL : L ≤ 2048) (hX : va_X sb L (fun j => zI (ys j)) s s.heap) (hbl : sb < s.heap.size) (hbA : ¬ A sb) (hys : ∀ j, R32 (ys j)) {i : Int} (hi : 0 ≤ i ∧ i + 4 ≤ (L : Int)) (KK : ∀ (xk hn : Int) (b bn : zBS) (u0 u1 u2 u3 : Nat → Nat) (d0 d1 d2 d3 : zBS) (t : zTS) (cn : zCS) (bm : zM2) (S : zSt) (hs : List zSt) (Sn : zSt), lwR xk hn b bn t d0 d1 d2 d3 bm S hs Sn → ∀ (H : Heap) (locs : List Loc), zW D A s.heap [[(x, .inr (4, [.ref (axb 0), .ref (axn 0), .int (zI xk), .ref xh, .ref (axt 0), .ref (axc 0)]))], zBoard cI axb b, zBoard cI axn bn, [(xh, .inr (2, [.ref xa, .int (zI hn)]))], [zRefs cB xa (some (u0 0)) (some (u1 0)) (some (u2 0)) (some (u3 0))], zBoard cI u0 d0, zBoard cI u1 d1, zBoard cI u2 d2, zBoard cI u3 d3, zText cI axt t, zCont cI axc cn, zMod2 cI am bm] H locs → ∀ (ls : Array Slot), lv_has ls 4 [(0, .ref sb), (1, .ref x), (2, .ref (am 0)), (3, .int (zI i))] → W p l e room_1 s m #[Value.ref sb] below meth c H locs 73 4564 Q (F0 m 734 ls [])) {xk hn : Int} {b bn : zBS} {u0 u1 u2 u3 : Nat → Nat} {d0 d1 d2 d3 : zBS} {t : zTS} {cn : zCS} {bm : zM2} {S : zSt} {hs : List zSt} {Sn : zSt} : lwR xk hn b bn t d0 d1 d2 d3 bm S hs Sn → ∀ (H : Heap) (locs : List Loc), zW D A s.heap [[(x, .inr (4, [.ref (axb 0), .ref (axn 0), .int (zI xk), .ref xh, .ref (axt 0), .ref (axc 0)]))], zBoard cI axb b, zBoard cI axn bn, [(xh, .inr (2, [.ref xa, .int (zI hn)]))], [zRefs cB xa (some (u0 0)) (some (u1 0)) (some (u2 0)) (some (u3 0))], zBoard cI u0 d0, zBoard cI u1 d1, zBoard cI u2 d2, zBoard cI u3 d3, zText cI axt t, zCont cI axc cn, zMod2 cI am bm] H locs → ∀ (ls : Array Slot), lv_has ls 4 [(0, .ref sb), (1, .ref x), (2, .ref (am 0)), (3, .int (zI i))] → W p l e room_1 s m #[Value.ref sb] below meth c H locs 73 4564 Q (F0 m 352 ls []) := by
  have hx := hS.1
  have hb := hS.2.1
  have hown := hS.2.2.2.1
  have hts := hS.2.2.2.2
  intro hR H locs hW ls hl
  obtain ⟨⟨hBb, hHB, hBn, hTk⟩, ⟨hMr, hMh⟩, htk, hsn, hTm, htl, htx⟩ := id hR
  obtain ⟨L9, hL1, hL2⟩ := id hMr
  have hnd := RBS_nd hBb
  have hy1 := hys (i + 1).toNat
  have hy2 := hys (i + 2).toNat
  have hy3 := hys (i + 3).toNat
  refine lv_aload_n hx hb dL_law_352 rfl (lv_at hl 1 rfl) ?_
  refine z_callV (r := (RX4, TX4, 6)) (As := []) (rest := []) hS hK hA hW hl.1 [0, 9] [1, 2, 3, 4, 5, 6, 7, 8, 10, 11] (kX4_clearText l D cI cB x axb axn xk xh axt axc t hTk) (cwV 0 hts gL_law_X4_clearText rfl rfl rfl (by decide +kernel) ⟨Nat.le_of_ble_eq_true rfl, Nat.le_of_ble_eq_true rfl⟩) (rfl : vwCl[4]? = some (RX4, TX4, 6)) (q0 := 0) rfl dL_law_353 rfl rfl rfl (show ([0, 9] ++ [1, 2, 3, 4, 5, 6, 7, 8, 10, 11] : List Nat).isPerm (List.range 12) = true by decide +kernel) rfl (Nat.le_of_ble_eq_true rfl) ⟨Nat.le_of_ble_eq_true rfl, Nat.le_of_ble_eq_true rfl⟩ (fun v9 w9 H locs hq hW => ?_)
  obtain ⟨rr_353, tz_353, rfl, rfl, hh_353⟩ := hq
  have hW : zW D A s.heap [[(x, .inr (4, [.ref (axb 0), .ref (axn 0), .int (zI xk), .ref xh, .ref (axt 0), .ref (axc 0)]))], zText cI axt tz_353, zBoard cI axb b, zBoard cI axn bn, [(xh, .inr (2, [.ref xa, .int (zI hn)]))], [zRefs cB xa (some (u0 0)) (some (u1 0)) (some (u2 0)) (some (u3 0))], zBoard cI u0 d0, zBoard cI u1 d1, zBoard cI u2 d2, zBoard cI u3 d3, zCont cI axc cn, zMod2 cI am bm] H locs := hW
  have hW : zW D A s.heap [[(x, .inr (4, [.ref (axb 0), .ref (axn 0), .int (zI xk), .ref xh, .ref (axt 0), .ref (axc 0)]))], zBoard cI axb b, zBoard cI axn bn, [(xh, .inr (2, [.ref xa, .int (zI hn)]))], [zRefs cB xa (some (u0 0)) (some (u1 0)) (some (u2 0)) (some (u3 0))], zBoard cI u0 d0, zBoard cI u1 d1, zBoard cI u2 d2, zBoard cI u3 d3, zText cI axt tz_353, zCont cI axc cn, zMod2 cI am bm] H locs := hW.pick [0, 2, 3, 4, 5, 6, 7, 8, 9, 1, 10, 11] rfl (show ([0, 2, 3, 4, 5, 6, 7, 8, 9, 1, 10, 11] : List Nat).isPerm (List.range 12) = true by decide +kernel)
  refine W.eq (g2 := F0 m 356 ls [.int (zI rr_353)]) rfl ?_
  refine lv_aload_n hx hb dL_law_356 rfl (lv_at hl 2 rfl) ?_
  refine z_callV (r := (RX5, TX5, 18)) (As := []) (rest := [.int (zI rr_353)]) hS hK hA hW hl.1 [11] [0, 1, 2, 3, 4, 5, 6, 7, 8, 9, 10] (kX5_clearText l D cI cB am bm) (cwV 0 hts gL_law_X5_clearText rfl rfl rfl (by decide +kernel) ⟨Nat.le_of_ble_eq_true rfl, Nat.le_of_ble_eq_true rfl⟩) (rfl : vwCl[5]? = some (RX5, TX5, 18)) (q0 := 59) rfl dL_law_357 rfl rfl rfl (show ([11] ++ [0, 1, 2, 3, 4, 5, 6, 7, 8, 9, 10] : List Nat).isPerm (List.range 12) = true by decide +kernel) rfl (Nat.le_of_ble_eq_true rfl) ⟨Nat.le_of_ble_eq_true rfl, Nat.le_of_ble_eq_true rfl⟩ (fun v9 w9 H locs hq hW => ?_)
  obtain ⟨rr_357, ztl_357, rfl, rfl, hh_357⟩ := hq
  have hW : zW D A s.heap [zMod2 cI am (mm_tl_ bm (ztl_357)), [(x, .inr (4, [.ref (axb 0), .ref (axn 0), .int (zI xk), .ref xh, .ref (axt 0), .ref (axc 0)]))], zBoard cI axb b, zBoard cI axn bn, [(xh, .inr (2, [.ref xa, .int (zI hn)]))], [zRefs cB xa (some (u0 0)) (some (u1 0)) (some (u2 0)) (some (u3 0))], zBoard cI u0 d0, zBoard cI u1 d1, zBoard cI u2 d2, zBoard cI u3 d3, zText cI axt tz_353, zCont cI axc cn] H locs := hW
  have hW : zW D A s.heap [[(x, .inr (4, [.ref (axb 0), .ref (axn 0), .int (zI xk), .ref xh, .ref (axt 0), .ref (axc 0)]))], zBoard cI axb b, zBoard cI axn bn, [(xh, .inr (2, [.ref xa, .int (zI hn)]))], [zRefs cB xa (some (u0 0)) (some (u1 0)) (some (u2 0)) (some (u3 0))], zBoard cI u0 d0, zBoard cI u1 d1, zBoard cI u2 d2, zBoard cI u3 d3, zText cI axt tz_353, zCont cI axc cn, zMod2 cI am (mm_tl_ bm (ztl_357))] H locs := hW.pick [1, 2, 3, 4, 5, 6, 7, 8, 9, 10, 11, 0] rfl (show ([1, 2, 3, 4, 5, 6, 7, 8, 9, 10, 11, 0] : List Nat).isPerm (List.range 12) = true by decide +kernel)
  refine W.eq (g2 := F0 m 360 ls [.int (zI rr_357), .int (zI rr_353)]) rfl ?_
  obtain ⟨hre, hT2, hM2, hl2, hx2⟩ := clr_same hTk hTm htl hh_353 hh_357
  refine z_same (tgt := 734) hx hb dL_law_360 (by decide) (by exact hre) ?_
  exact KK xk hn b bn u0 u1 u2 u3 d0 d1 d2 d3 tz_353 cn ((mm_tl_ bm (ztl_357))) S hs Sn (⟨⟨hBb, hHB, hBn, hT2⟩, ⟨hMr, hMh⟩, htk, hsn, hM2, hl2, hx2⟩) _ _ hW ls hl

set_option maxHeartbeats 8000000 in
set_option maxRecDepth 100000 in
theorem lwc_365 {p : Program} {l : Launch} {e : Env} {s : State} {m : MethodId} {below : List Frame} {meth : Method} {c : Code} {Q : State → Prop} {D : va_G} {cI cB : ClassId} {A : Nat → Prop} {sb L : Nat} {ys : Nat → Int} {x : Nat} {axb axn : Nat → Nat} {xh : Nat} {axt axc : Nat → Nat} {xa : Nat} {am : Nat → Nat} (hS : CallFix p m c cL_law 4 s #[Value.ref sb] wsL_law RL) (hK : ZK D cI cB s) (hA : ∀ q, s.heap.size ≤ q → A q) (hL : L ≤ 2048) (hX : va_X sb L (fun j => zI (ys j)) s s.heap) (hbl : sb < s.heap.size) (hbA : ¬ A sb) (hys : ∀ j, R32 (ys j)) {i : Int} (hi : 0 ≤ i ∧ i + 4 ≤ (L : Int)) (KK : ∀ (xk hn : Int) (b bn : zBS) (u0 u1 u2 u3 : Nat → Nat) (d0 d1 d2 d3 : zBS) (t : zTS) (cn : zCS) (bm : zM2) (S : zSt) (hs : List zSt) (Sn : zSt), lwR xk hn b bn t d0 d1 d2 d3 bm S hs Sn → ∀ (H : Heap) (locs : List Loc), zW D A s.heap [[(x, .inr (4, [.ref (axb 0), .ref (axn 0), .int (zI xk), .ref xh, .ref (axt 0), .ref (axc 0)]))], zBoard cI axb b, zBoard cI axn bn, [(xh, .inr (2, [.ref xa, .int (zI hn)]))], [zRefs cB xa (some (u0 0)) (some (u1 0)) (some (u2 0)) (some (u3 0))], zBoard cI u0 d0, zBoard cI u1 d1, zBoard cI u2 d2, zBoard cI u3 d3, zText cI axt t, zCont cI axc cn, zMod2 cI am bm] H locs → ∀ (ls : Array Slot), lv_has ls 4 [(0, .ref sb), (1, .ref x), (2, .ref (am 0)), (3, .int (zI i))] → W p l e room_1 s m #[Value.ref sb] below meth c H locs 73 4564 Q (F0 m 734 ls [])) {xk hn : Int} {b bn : zBS} {u0 u1 u2 u3 : Nat → Nat} {d0 d1 d2 d3 : zBS} {t : zTS} {cn : zCS} {bm : zM2} {S : zSt} {hs : List zSt} {Sn : zSt} : lwR xk hn b bn t d0 d1 d2 d3 bm S hs Sn → ∀ (H : Heap) (locs : List Loc), zW D A s.heap [[(x, .inr (4, [.ref (axb 0), .ref (axn 0), .int (zI xk), .ref xh, .ref (axt 0), .ref (axc 0)]))], zBoard cI axb b, zBoard cI axn bn, [(xh, .inr (2, [.ref xa, .int (zI hn)]))], [zRefs cB xa (some (u0 0)) (some (u1 0)) (some (u2 0)) (some (u3 0))], zBoard cI u0 d0, zBoard cI u1 d1, zBoard cI u2 d2, zBoard cI u3 d3, zText cI axt t, zCont cI axc cn, zMod2 cI am bm] H locs → ∀ (ls : Array Slot), lv_has ls 4 [(0, .ref sb), (1, .ref x), (2, .ref (am 0)), (3, .int (zI i))] → W p l e room_1 s m #[Value.ref sb] below meth c H locs 73 4564 Q (F0 m 365 ls []) := by
  have hx := hS.1
  have hb := hS.2.1
  have hown := hS.2.2.2.1
  have hts := hS.2.2.2.2
  intro hR H locs hW ls hl
  obtain ⟨⟨hBb, hHB, hBn, hTk⟩, ⟨hMr, hMh⟩, htk, hsn, hTm, htl, htx⟩ := id hR
  obtain ⟨L9, hL1, hL2⟩ := id hMr
  have hnd := RBS_nd hBb
  have hy1 := hys (i + 1).toNat
  have hy2 := hys (i + 2).toNat
  have hy3 := hys (i + 3).toNat
  refine lv_aload_n hx hb dL_law_365 rfl (lv_at hl 1 rfl) ?_
  refine z_callV (r := (RX4, TX4, 6)) (As := []) (rest := []) hS hK hA hW hl.1 [0, 1, 3, 4, 5, 6, 7, 8] [2, 9, 10, 11] (kX4_undo l D cI cB x axb axn xk xh axt axc b xa hn u0 u1 u2 u3 d0 d1 d2 d3 S.1 S.2.1 S.2.2 hs hBb hHB) (cwV 0 hts gL_law_X4_undo rfl rfl rfl (by decide +kernel) ⟨Nat.le_of_ble_eq_true rfl, Nat.le_of_ble_eq_true rfl⟩) (rfl : vwCl[4]? = some (RX4, TX4, 6)) (q0 := 0) rfl dL_law_366 rfl rfl rfl (show ([0, 1, 3, 4, 5, 6, 7, 8] ++ [2, 9, 10, 11] : List Nat).isPerm (List.range 12) = true by decide +kernel) rfl (Nat.le_of_ble_eq_true rfl) ⟨Nat.le_of_ble_eq_true rfl, Nat.le_of_ble_eq_true rfl⟩ (fun v9 w9 H locs hq hW => ?_)
  obtain ⟨rr_366, bz_366, hnz_366, v0_366, v1_366, v2_366, v3_366, e0_366, e1_366, e2_366, e3_366, rfl, rfl, hh_366⟩ := hq
  have hW : zW D A s.heap [[(x, .inr (4, [.ref (axb 0), .ref (axn 0), .int (zI xk), .ref xh, .ref (axt 0), .ref (axc 0)]))], zBoard cI axb bz_366, [(xh, .inr (2, [.ref xa, .int (zI hnz_366)]))], [zRefs cB xa (some (v0_366 0)) (some (v1_366 0)) (some (v2_366 0)) (some (v3_366 0))], zBoard cI v0_366 e0_366, zBoard cI v1_366 e1_366, zBoard cI v2_366 e2_366, zBoard cI v3_366 e3_366, zBoard cI axn bn, zText cI axt t, zCont cI axc cn, zMod2 cI am bm] H locs := hW
  have hW : zW D A s.heap [[(x, .inr (4, [.ref (axb 0), .ref (axn 0), .int (zI xk), .ref xh, .ref (axt 0), .ref (axc 0)]))], zBoard cI axb bz_366, zBoard cI axn bn, [(xh, .inr (2, [.ref xa, .int (zI hnz_366)]))], [zRefs cB xa (some (v0_366 0)) (some (v1_366 0)) (some (v2_366 0)) (some (v3_366 0))], zBoard cI v0_366 e0_366, zBoard cI v1_366 e1_366, zBoard cI v2_366 e2_366, zBoard cI v3_366 e3_366, zText cI axt t, zCont cI axc cn, zMod2 cI am bm] H locs := hW.pick [0, 1, 8, 2, 3, 4, 5, 6, 7, 9, 10, 11] rfl (show ([0, 1, 8, 2, 3, 4, 5, 6, 7, 9, 10, 11] : List Nat).isPerm (List.range 12) = true by decide +kernel)
  refine W.eq (g2 := F0 m 369 ls [.int (zI rr_366)]) rfl ?_
  obtain ⟨S2, hs2, hp1, hp2, hp3⟩ := hh_366
  refine lv_aload_n hx hb dL_law_369 rfl (lv_at hl 2 rfl) ?_
  refine z_callV (r := (RX5, TX5, 18)) (As := []) (rest := [.int (zI rr_366)]) hS hK hA hW hl.1 [11] [0, 1, 2, 3, 4, 5, 6, 7, 8, 9, 10] (kX5_undo l D cI cB am bm L9 S.2.1 S.2.2 hs hL1 hMh) (cwV 0 hts gL_law_X5_undo rfl rfl rfl (by decide +kernel) ⟨Nat.le_of_ble_eq_true rfl, Nat.le_of_ble_eq_true rfl⟩) (rfl : vwCl[5]? = some (RX5, TX5, 18)) (q0 := 59) rfl dL_law_370 rfl rfl rfl (show ([11] ++ [0, 1, 2, 3, 4, 5, 6, 7, 8, 9, 10] : List Nat).isPerm (List.range 12) = true by decide +kernel) rfl (Nat.le_of_ble_eq_true rfl) ⟨Nat.le_of_ble_eq_true rfl, Nat.le_of_ble_eq_true rfl⟩ (fun v9 w9 H locs hq hW => ?_)
  obtain ⟨rr_370, zall_370, zhl_370, rfl, rfl, hh_370⟩ := hq
  have hW : zW D A s.heap [zMod2 cI am (mm_hl_ (mm_all_ bm (zall_370)) (zhl_370)), [(x, .inr (4, [.ref (axb 0), .ref (axn 0), .int (zI xk), .ref xh, .ref (axt 0), .ref (axc 0)]))], zBoard cI axb bz_366, zBoard cI axn bn, [(xh, .inr (2, [.ref xa, .int (zI hnz_366)]))], [zRefs cB xa (some (v0_366 0)) (some (v1_366 0)) (some (v2_366 0)) (some (v3_366 0))], zBoard cI v0_366 e0_366, zBoard cI v1_366 e1_366, zBoard cI v2_366 e2_366, zBoard cI v3_366 e3_366, zText cI axt t, zCont cI axc cn] H locs := hW
  have hW : zW D A s.heap [[(x, .inr (4, [.ref (axb 0), .ref (axn 0), .int (zI xk), .ref xh, .ref (axt 0), .ref (axc 0)]))], zBoard cI axb bz_366, zBoard cI axn bn, [(xh, .inr (2, [.ref xa, .int (zI hnz_366)]))], [zRefs cB xa (some (v0_366 0)) (some (v1_366 0)) (some (v2_366 0)) (some (v3_366 0))], zBoard cI v0_366 e0_366, zBoard cI v1_366 e1_366, zBoard cI v2_366 e2_366, zBoard cI v3_366 e3_366, zText cI axt t, zCont cI axc cn, zMod2 cI am (mm_hl_ (mm_all_ bm (zall_370)) (zhl_370))] H locs := hW.pick [1, 2, 3, 4, 5, 6, 7, 8, 9, 10, 11, 0] rfl (show ([1, 2, 3, 4, 5, 6, 7, 8, 9, 10, 11, 0] : List Nat).isPerm (List.range 12) = true by decide +kernel)
  refine W.eq (g2 := F0 m 373 ls [.int (zI rr_370), .int (zI rr_366)]) rfl ?_
  obtain ⟨S3, hs3, hq1, hq2, hq3⟩ := hh_370
  rw [← hL2] at hq1
  obtain ⟨hre, hSe, hhe⟩ := undR_det hp1 hq1
  subst hSe
  subst hhe
  refine z_same (tgt := 734) hx hb dL_law_373 (by decide) (by exact hre) ?_
  exact KK xk hnz_366 bz_366 bn v0_366 v1_366 v2_366 v3_366 e0_366 e1_366 e2_366 e3_366 t cn ((mm_hl_ (mm_all_ bm (zall_370)) (zhl_370))) S2 hs2 Sn (⟨⟨hp2, hp3, hBn, hTk⟩, ⟨hq2, hq3⟩, htk, hsn, hTm, htl, htx⟩) _ _ hW ls hl

set_option maxHeartbeats 8000000 in
set_option maxRecDepth 100000 in
theorem lwc_378 {p : Program} {l : Launch} {e : Env} {s : State} {m : MethodId} {below : List Frame} {meth : Method} {c : Code} {Q : State → Prop} {D : va_G} {cI cB : ClassId} {A : Nat → Prop} {sb L : Nat} {ys : Nat → Int} {x : Nat} {axb axn : Nat → Nat} {xh : Nat} {axt axc : Nat → Nat} {xa : Nat} {am : Nat → Nat} (hS : CallFix p m c cL_law 4 s #[Value.ref sb] wsL_law RL) (hK : ZK D cI cB s) (hA : ∀ q, s.heap.size ≤ q → A q) (hL : L ≤ 2048) (hX : va_X sb L (fun j => zI (ys j)) s s.heap) (hbl : sb < s.heap.size) (hbA : ¬ A sb) (hys : ∀ j, R32 (ys j)) {i : Int} (hi : 0 ≤ i ∧ i + 4 ≤ (L : Int)) (KK : ∀ (xk hn : Int) (b bn : zBS) (u0 u1 u2 u3 : Nat → Nat) (d0 d1 d2 d3 : zBS) (t : zTS) (cn : zCS) (bm : zM2) (S : zSt) (hs : List zSt) (Sn : zSt), lwR xk hn b bn t d0 d1 d2 d3 bm S hs Sn → ∀ (H : Heap) (locs : List Loc), zW D A s.heap [[(x, .inr (4, [.ref (axb 0), .ref (axn 0), .int (zI xk), .ref xh, .ref (axt 0), .ref (axc 0)]))], zBoard cI axb b, zBoard cI axn bn, [(xh, .inr (2, [.ref xa, .int (zI hn)]))], [zRefs cB xa (some (u0 0)) (some (u1 0)) (some (u2 0)) (some (u3 0))], zBoard cI u0 d0, zBoard cI u1 d1, zBoard cI u2 d2, zBoard cI u3 d3, zText cI axt t, zCont cI axc cn, zMod2 cI am bm] H locs → ∀ (ls : Array Slot), lv_has ls 4 [(0, .ref sb), (1, .ref x), (2, .ref (am 0)), (3, .int (zI i))] → W p l e room_1 s m #[Value.ref sb] below meth c H locs 73 4564 Q (F0 m 734 ls [])) {xk hn : Int} {b bn : zBS} {u0 u1 u2 u3 : Nat → Nat} {d0 d1 d2 d3 : zBS} {t : zTS} {cn : zCS} {bm : zM2} {S : zSt} {hs : List zSt} {Sn : zSt} : lwR xk hn b bn t d0 d1 d2 d3 bm S hs Sn → ∀ (H : Heap) (locs : List Loc), zW D A s.heap [[(x, .inr (4, [.ref (axb 0), .ref (axn 0), .int (zI xk), .ref xh, .ref (axt 0), .ref (axc 0)]))], zBoard cI axb b, zBoard cI axn bn, [(xh, .inr (2, [.ref xa, .int (zI hn)]))], [zRefs cB xa (some (u0 0)) (some (u1 0)) (some (u2 0)) (some (u3 0))], zBoard cI u0 d0, zBoard cI u1 d1, zBoard cI u2 d2, zBoard cI u3 d3, zText cI axt t, zCont cI axc cn, zMod2 cI am bm] H locs → ∀ (ls : Array Slot), lv_has ls 4 [(0, .ref sb), (1, .ref x), (2, .ref (am 0)), (3, .int (zI i))] → W p l e room_1 s m #[Value.ref sb] below meth c H locs 73 4564 Q (F0 m 378 ls []) := by
  have hx := hS.1
  have hb := hS.2.1
  have hown := hS.2.2.2.1
  have hts := hS.2.2.2.2
  intro hR H locs hW ls hl
  obtain ⟨⟨hBb, hHB, hBn, hTk⟩, ⟨hMr, hMh⟩, htk, hsn, hTm, htl, htx⟩ := id hR
  obtain ⟨L9, hL1, hL2⟩ := id hMr
  have hnd := RBS_nd hBb
  have hy1 := hys (i + 1).toNat
  have hy2 := hys (i + 2).toNat
  have hy3 := hys (i + 3).toNat
  refine lv_aload_n hx hb dL_law_378 rfl (lv_at hl 1 rfl) ?_
  refine z_callV (r := (RX4, TX4, 6)) (As := []) (rest := []) hS hK hA hW hl.1 [0, 1, 2] [3, 4, 5, 6, 7, 8, 9, 10, 11] (kX4_keep l D cI cB x axb axn xk xh axt axc b bn S.1 S.2.1 S.2.2 hBb) (cwV 0 hts gL_law_X4_keep rfl rfl rfl (by decide +kernel) ⟨Nat.le_of_ble_eq_true rfl, Nat.le_of_ble_eq_true rfl⟩) (rfl : vwCl[4]? = some (RX4, TX4, 6)) (q0 := 0) rfl dL_law_379 rfl rfl rfl (show ([0, 1, 2] ++ [3, 4, 5, 6, 7, 8, 9, 10, 11] : List Nat).isPerm (List.range 12) = true by decide +kernel) rfl (Nat.le_of_ble_eq_true rfl) ⟨Nat.le_of_ble_eq_true rfl, Nat.le_of_ble_eq_true rfl⟩ (fun v9 w9 H locs hq hW => ?_)
  obtain ⟨rr_379, xkz_379, bnz_379, rfl, rfl, hh_379⟩ := hq
  have hW : zW D A s.heap [[(x, .inr (4, [.ref (axb 0), .ref (axn 0), .int (zI xkz_379), .ref xh, .ref (axt 0), .ref (axc 0)]))], zBoard cI axb b, zBoard cI axn bnz_379, [(xh, .inr (2, [.ref xa, .int (zI hn)]))], [zRefs cB xa (some (u0 0)) (some (u1 0)) (some (u2 0)) (some (u3 0))], zBoard cI u0 d0, zBoard cI u1 d1, zBoard cI u2 d2, zBoard cI u3 d3, zText cI axt t, zCont cI axc cn, zMod2 cI am bm] H locs := hW
  refine W.eq (g2 := F0 m 382 ls [.int (zI rr_379)]) rfl ?_
  refine lv_aload_n hx hb dL_law_382 rfl (lv_at hl 2 rfl) ?_
  refine z_callV (r := (RX5, TX5, 18)) (As := []) (rest := [.int (zI rr_379)]) hS hK hA hW hl.1 [11] [0, 1, 2, 3, 4, 5, 6, 7, 8, 9, 10] (kX5_keep l D cI cB am bm L9 S.2.1 S.2.2 hL1) (cwV 0 hts gL_law_X5_keep rfl rfl rfl (by decide +kernel) ⟨Nat.le_of_ble_eq_true rfl, Nat.le_of_ble_eq_true rfl⟩) (rfl : vwCl[5]? = some (RX5, TX5, 18)) (q0 := 59) rfl dL_law_383 rfl rfl rfl (show ([11] ++ [0, 1, 2, 3, 4, 5, 6, 7, 8, 9, 10] : List Nat).isPerm (List.range 12) = true by decide +kernel) rfl (Nat.le_of_ble_eq_true rfl) ⟨Nat.le_of_ble_eq_true rfl, Nat.le_of_ble_eq_true rfl⟩ (fun v9 w9 H locs hq hW => ?_)
  obtain ⟨rr_383, zsnap_383, ztak_383, rfl, rfl, hh_383⟩ := hq
  have hW : zW D A s.heap [zMod2 cI am (mm_tak_ (mm_snap_ bm (zsnap_383)) (ztak_383)), [(x, .inr (4, [.ref (axb 0), .ref (axn 0), .int (zI xkz_379), .ref xh, .ref (axt 0), .ref (axc 0)]))], zBoard cI axb b, zBoard cI axn bnz_379, [(xh, .inr (2, [.ref xa, .int (zI hn)]))], [zRefs cB xa (some (u0 0)) (some (u1 0)) (some (u2 0)) (some (u3 0))], zBoard cI u0 d0, zBoard cI u1 d1, zBoard cI u2 d2, zBoard cI u3 d3, zText cI axt t, zCont cI axc cn] H locs := hW
  have hW : zW D A s.heap [[(x, .inr (4, [.ref (axb 0), .ref (axn 0), .int (zI xkz_379), .ref xh, .ref (axt 0), .ref (axc 0)]))], zBoard cI axb b, zBoard cI axn bnz_379, [(xh, .inr (2, [.ref xa, .int (zI hn)]))], [zRefs cB xa (some (u0 0)) (some (u1 0)) (some (u2 0)) (some (u3 0))], zBoard cI u0 d0, zBoard cI u1 d1, zBoard cI u2 d2, zBoard cI u3 d3, zText cI axt t, zCont cI axc cn, zMod2 cI am (mm_tak_ (mm_snap_ bm (zsnap_383)) (ztak_383))] H locs := hW.pick [1, 2, 3, 4, 5, 6, 7, 8, 9, 10, 11, 0] rfl (show ([1, 2, 3, 4, 5, 6, 7, 8, 9, 10, 11, 0] : List Nat).isPerm (List.range 12) = true by decide +kernel)
  refine W.eq (g2 := F0 m 386 ls [.int (zI rr_383), .int (zI rr_379)]) rfl ?_
  have hre : rr_379 = rr_383 := by rw [hh_379.1, hh_383.1, ← hL2]
  have hsz : MR zsnap_383 S := by have hq := hh_383.2.2; rw [← hL2] at hq; exact hq
  refine z_same (tgt := 734) hx hb dL_law_386 (by decide) (by exact hre) ?_
  exact KK xkz_379 hn b bnz_379 u0 u1 u2 u3 d0 d1 d2 d3 t cn ((mm_tak_ (mm_snap_ bm (zsnap_383)) (ztak_383))) S hs S (⟨⟨hBb, hHB, hh_379.2.2, hTk⟩, ⟨hMr, hMh⟩, ⟨hh_383.2.1.trans hh_379.2.1.symm, by rw [hh_379.2.1]; omega⟩, fun _ => hsz, hTm, htl, htx⟩) _ _ hW ls hl

set_option maxHeartbeats 8000000 in
set_option maxRecDepth 100000 in
theorem lwc_391 {p : Program} {l : Launch} {e : Env} {s : State} {m : MethodId} {below : List Frame} {meth : Method} {c : Code} {Q : State → Prop} {D : va_G} {cI cB : ClassId} {A : Nat → Prop} {sb L : Nat} {ys : Nat → Int} {x : Nat} {axb axn : Nat → Nat} {xh : Nat} {axt axc : Nat → Nat} {xa : Nat} {am : Nat → Nat} (hS : CallFix p m c cL_law 4 s #[Value.ref sb] wsL_law RL) (hK : ZK D cI cB s) (hA : ∀ q, s.heap.size ≤ q → A q) (hL : L ≤ 2048) (hX : va_X sb L (fun j => zI (ys j)) s s.heap) (hbl : sb < s.heap.size) (hbA : ¬ A sb) (hys : ∀ j, R32 (ys j)) {i : Int} (hi : 0 ≤ i ∧ i + 4 ≤ (L : Int)) (KK : ∀ (xk hn : Int) (b bn : zBS) (u0 u1 u2 u3 : Nat → Nat) (d0 d1 d2 d3 : zBS) (t : zTS) (cn : zCS) (bm : zM2) (S : zSt) (hs : List zSt) (Sn : zSt), lwR xk hn b bn t d0 d1 d2 d3 bm S hs Sn → ∀ (H : Heap) (locs : List Loc), zW D A s.heap [[(x, .inr (4, [.ref (axb 0), .ref (axn 0), .int (zI xk), .ref xh, .ref (axt 0), .ref (axc 0)]))], zBoard cI axb b, zBoard cI axn bn, [(xh, .inr (2, [.ref xa, .int (zI hn)]))], [zRefs cB xa (some (u0 0)) (some (u1 0)) (some (u2 0)) (some (u3 0))], zBoard cI u0 d0, zBoard cI u1 d1, zBoard cI u2 d2, zBoard cI u3 d3, zText cI axt t, zCont cI axc cn, zMod2 cI am bm] H locs → ∀ (ls : Array Slot), lv_has ls 4 [(0, .ref sb), (1, .ref x), (2, .ref (am 0)), (3, .int (zI i))] → W p l e room_1 s m #[Value.ref sb] below meth c H locs 73 4564 Q (F0 m 734 ls [])) {xk hn : Int} {b bn : zBS} {u0 u1 u2 u3 : Nat → Nat} {d0 d1 d2 d3 : zBS} {t : zTS} {cn : zCS} {bm : zM2} {S : zSt} {hs : List zSt} {Sn : zSt} : lwR xk hn b bn t d0 d1 d2 d3 bm S hs Sn → ∀ (H : Heap) (locs : List Loc), zW D A s.heap [[(x, .inr (4, [.ref (axb 0), .ref (axn 0), .int (zI xk), .ref xh, .ref (axt 0), .ref (axc 0)]))], zBoard cI axb b, zBoard cI axn bn, [(xh, .inr (2, [.ref xa, .int (zI hn)]))], [zRefs cB xa (some (u0 0)) (some (u1 0)) (some (u2 0)) (some (u3 0))], zBoard cI u0 d0, zBoard cI u1 d1, zBoard cI u2 d2, zBoard cI u3 d3, zText cI axt t, zCont cI axc cn, zMod2 cI am bm] H locs → ∀ (ls : Array Slot), lv_has ls 4 [(0, .ref sb), (1, .ref x), (2, .ref (am 0)), (3, .int (zI i))] → W p l e room_1 s m #[Value.ref sb] below meth c H locs 73 4564 Q (F0 m 391 ls []) := by
  have hx := hS.1
  have hb := hS.2.1
  have hown := hS.2.2.2.1
  have hts := hS.2.2.2.2
  intro hR H locs hW ls hl
  obtain ⟨⟨hBb, hHB, hBn, hTk⟩, ⟨hMr, hMh⟩, htk, hsn, hTm, htl, htx⟩ := id hR
  obtain ⟨L9, hL1, hL2⟩ := id hMr
  have hnd := RBS_nd hBb
  have hy1 := hys (i + 1).toNat
  have hy2 := hys (i + 2).toNat
  have hy3 := hys (i + 3).toNat
  refine lv_aload_n hx hb dL_law_391 rfl (lv_at hl 1 rfl) ?_
  refine z_callV (r := (RX4, TX4, 6)) (As := []) (rest := []) hS hK hA hW hl.1 [0, 1, 2, 3, 4, 5, 6, 7, 8] [9, 10, 11] (kX4_restore l D cI cB x axb axn xk xh axt axc b bn xa hn u0 u1 u2 u3 d0 d1 d2 d3 S.1 S.2.1 S.2.2 hs Sn hBb hHB hBn htk.2) (cwV 0 hts gL_law_X4_restore rfl rfl rfl (by decide +kernel) ⟨Nat.le_of_ble_eq_true rfl, Nat.le_of_ble_eq_true rfl⟩) (rfl : vwCl[4]? = some (RX4, TX4, 6)) (q0 := 0) rfl dL_law_392 rfl rfl rfl (show ([0, 1, 2, 3, 4, 5, 6, 7, 8] ++ [9, 10, 11] : List Nat).isPerm (List.range 12) = true by decide +kernel) rfl (Nat.le_of_ble_eq_true rfl) ⟨Nat.le_of_ble_eq_true rfl, Nat.le_of_ble_eq_true rfl⟩ (fun v9 w9 H locs hq hW => ?_)
  obtain ⟨rr_392, bz_392, hnz_392, v0_392, v1_392, v2_392, v3_392, e0_392, e1_392, e2_392, e3_392, rfl, rfl, hh_392⟩ := hq
  have hW : zW D A s.heap [[(x, .inr (4, [.ref (axb 0), .ref (axn 0), .int (zI xk), .ref xh, .ref (axt 0), .ref (axc 0)]))], zBoard cI axb bz_392, zBoard cI axn bn, [(xh, .inr (2, [.ref xa, .int (zI hnz_392)]))], [zRefs cB xa (some (v0_392 0)) (some (v1_392 0)) (some (v2_392 0)) (some (v3_392 0))], zBoard cI v0_392 e0_392, zBoard cI v1_392 e1_392, zBoard cI v2_392 e2_392, zBoard cI v3_392 e3_392, zText cI axt t, zCont cI axc cn, zMod2 cI am bm] H locs := hW
  refine W.eq (g2 := F0 m 395 ls [.int (zI rr_392)]) rfl ?_
  obtain ⟨S2, hs2, hp1, hp2, hp3⟩ := hh_392
  refine lv_aload_n hx hb dL_law_395 rfl (lv_at hl 2 rfl) ?_
  refine z_callV (r := (RX5, TX5, 18)) (As := []) (rest := [.int (zI rr_392)]) hS hK hA hW hl.1 [11] [0, 1, 2, 3, 4, 5, 6, 7, 8, 9, 10] (kX5_restore l D cI cB am bm L9 S.2.1 S.2.2 hs Sn hL1 hMh ((fun h => hsn (by rw [← htk.1]; exact h))) (by (rw [htk.1]; omega))) (cwV 0 hts gL_law_X5_restore rfl rfl rfl (by decide +kernel) ⟨Nat.le_of_ble_eq_true rfl, Nat.le_of_ble_eq_true rfl⟩) (rfl : vwCl[5]? = some (RX5, TX5, 18)) (q0 := 59) rfl dL_law_396 rfl rfl rfl (show ([11] ++ [0, 1, 2, 3, 4, 5, 6, 7, 8, 9, 10] : List Nat).isPerm (List.range 12) = true by decide +kernel) rfl (Nat.le_of_ble_eq_true rfl) ⟨Nat.le_of_ble_eq_true rfl, Nat.le_of_ble_eq_true rfl⟩ (fun v9 w9 H locs hq hW => ?_)
  obtain ⟨rr_396, zall_396, zkept_396, zhis_396, zhl_396, rfl, rfl, hh_396⟩ := hq
  have hW : zW D A s.heap [zMod2 cI am (mm_hl_ (mm_his_ (mm_kept_ (mm_all_ bm (zall_396)) (zkept_396)) (zhis_396)) (zhl_396)), [(x, .inr (4, [.ref (axb 0), .ref (axn 0), .int (zI xk), .ref xh, .ref (axt 0), .ref (axc 0)]))], zBoard cI axb bz_392, zBoard cI axn bn, [(xh, .inr (2, [.ref xa, .int (zI hnz_392)]))], [zRefs cB xa (some (v0_392 0)) (some (v1_392 0)) (some (v2_392 0)) (some (v3_392 0))], zBoard cI v0_392 e0_392, zBoard cI v1_392 e1_392, zBoard cI v2_392 e2_392, zBoard cI v3_392 e3_392, zText cI axt t, zCont cI axc cn] H locs := hW
  have hW : zW D A s.heap [[(x, .inr (4, [.ref (axb 0), .ref (axn 0), .int (zI xk), .ref xh, .ref (axt 0), .ref (axc 0)]))], zBoard cI axb bz_392, zBoard cI axn bn, [(xh, .inr (2, [.ref xa, .int (zI hnz_392)]))], [zRefs cB xa (some (v0_392 0)) (some (v1_392 0)) (some (v2_392 0)) (some (v3_392 0))], zBoard cI v0_392 e0_392, zBoard cI v1_392 e1_392, zBoard cI v2_392 e2_392, zBoard cI v3_392 e3_392, zText cI axt t, zCont cI axc cn, zMod2 cI am (mm_hl_ (mm_his_ (mm_kept_ (mm_all_ bm (zall_396)) (zkept_396)) (zhis_396)) (zhl_396))] H locs := hW.pick [1, 2, 3, 4, 5, 6, 7, 8, 9, 10, 11, 0] rfl (show ([1, 2, 3, 4, 5, 6, 7, 8, 9, 10, 11, 0] : List Nat).isPerm (List.range 12) = true by decide +kernel)
  refine W.eq (g2 := F0 m 399 ls [.int (zI rr_396), .int (zI rr_392)]) rfl ?_
  obtain ⟨S3, hs3, hq1, hq2, hq3⟩ := hh_396
  rw [← hL2] at hq1
  rw [htk.1] at hq1
  obtain ⟨hre, hSe, hhe⟩ := resR_det hp1 hq1
  subst hSe
  subst hhe
  refine z_same (tgt := 734) hx hb dL_law_399 (by decide) (by exact hre) ?_
  exact KK xk hnz_392 bz_392 bn v0_392 v1_392 v2_392 v3_392 e0_392 e1_392 e2_392 e3_392 t cn ((mm_hl_ (mm_his_ (mm_kept_ (mm_all_ bm (zall_396)) (zkept_396)) (zhis_396)) (zhl_396))) S2 hs2 Sn (⟨⟨hp2, hp3, hBn, hTk⟩, ⟨hq2, hq3⟩, htk, hsn, hTm, htl, htx⟩) _ _ hW ls hl

set_option maxHeartbeats 8000000 in
set_option maxRecDepth 100000 in
theorem lwc_404 {p : Program} {l : Launch} {e : Env} {s : State} {m : MethodId} {below : List Frame} {meth : Method} {c : Code} {Q : State → Prop} {D : va_G} {cI cB : ClassId} {A : Nat → Prop} {sb L : Nat} {ys : Nat → Int} {x : Nat} {axb axn : Nat → Nat} {xh : Nat} {axt axc : Nat → Nat} {xa : Nat} {am : Nat → Nat} (hS : CallFix p m c cL_law 4 s #[Value.ref sb] wsL_law RL) (hK : ZK D cI cB s) (hA : ∀ q, s.heap.size ≤ q → A q) (hL : L ≤ 2048) (hX : va_X sb L (fun j => zI (ys j)) s s.heap) (hbl : sb < s.heap.size) (hbA : ¬ A sb) (hys : ∀ j, R32 (ys j)) {i : Int} (hi : 0 ≤ i ∧ i + 4 ≤ (L : Int)) (KK : ∀ (xk hn : Int) (b bn : zBS) (u0 u1 u2 u3 : Nat → Nat) (d0 d1 d2 d3 : zBS) (t : zTS) (cn : zCS) (bm : zM2) (S : zSt) (hs : List zSt) (Sn : zSt), lwR xk hn b bn t d0 d1 d2 d3 bm S hs Sn → ∀ (H : Heap) (locs : List Loc), zW D A s.heap [[(x, .inr (4, [.ref (axb 0), .ref (axn 0), .int (zI xk), .ref xh, .ref (axt 0), .ref (axc 0)]))], zBoard cI axb b, zBoard cI axn bn, [(xh, .inr (2, [.ref xa, .int (zI hn)]))], [zRefs cB xa (some (u0 0)) (some (u1 0)) (some (u2 0)) (some (u3 0))], zBoard cI u0 d0, zBoard cI u1 d1, zBoard cI u2 d2, zBoard cI u3 d3, zText cI axt t, zCont cI axc cn, zMod2 cI am bm] H locs → ∀ (ls : Array Slot), lv_has ls 4 [(0, .ref sb), (1, .ref x), (2, .ref (am 0)), (3, .int (zI i))] → W p l e room_1 s m #[Value.ref sb] below meth c H locs 73 4564 Q (F0 m 734 ls [])) {xk hn : Int} {b bn : zBS} {u0 u1 u2 u3 : Nat → Nat} {d0 d1 d2 d3 : zBS} {t : zTS} {cn : zCS} {bm : zM2} {S : zSt} {hs : List zSt} {Sn : zSt} : lwR xk hn b bn t d0 d1 d2 d3 bm S hs Sn → ∀ (H : Heap) (locs : List Loc), zW D A s.heap [[(x, .inr (4, [.ref (axb 0), .ref (axn 0), .int (zI xk), .ref xh, .ref (axt 0), .ref (axc 0)]))], zBoard cI axb b, zBoard cI axn bn, [(xh, .inr (2, [.ref xa, .int (zI hn)]))], [zRefs cB xa (some (u0 0)) (some (u1 0)) (some (u2 0)) (some (u3 0))], zBoard cI u0 d0, zBoard cI u1 d1, zBoard cI u2 d2, zBoard cI u3 d3, zText cI axt t, zCont cI axc cn, zMod2 cI am bm] H locs → ∀ (ls : Array Slot), lv_has ls 4 [(0, .ref sb), (1, .ref x), (2, .ref (am 0)), (3, .int (zI i))] → W p l e room_1 s m #[Value.ref sb] below meth c H locs 73 4564 Q (F0 m 404 ls []) := by
  have hx := hS.1
  have hb := hS.2.1
  have hown := hS.2.2.2.1
  have hts := hS.2.2.2.2
  intro hR H locs hW ls hl
  obtain ⟨⟨hBb, hHB, hBn, hTk⟩, ⟨hMr, hMh⟩, htk, hsn, hTm, htl, htx⟩ := id hR
  obtain ⟨L9, hL1, hL2⟩ := id hMr
  have hnd := RBS_nd hBb
  have hy1 := hys (i + 1).toNat
  have hy2 := hys (i + 2).toNat
  have hy3 := hys (i + 3).toNat
  refine lv_aload_n hx hb dL_law_404 rfl (lv_at hl 1 rfl) ?_
  refine lv_aload_n hx hb dL_law_405 rfl (lv_at hl 0 rfl) ?_
  refine lv_iload_n hx hb dL_law_406 rfl (lv_at hl 3 rfl) ?_
  refine lv_iconst (v := zI (1)) hx hb dL_law_407 rfl ?_
  refine z_iadd hx hb dL_law_408 ?_
  refine z_sld hx hb hX hbl hbA hW hL (i := i + 1) (by omega) dL_law_409 ?_
  refine lv_aload_n hx hb dL_law_410 rfl (lv_at hl 0 rfl) ?_
  refine lv_iload_n hx hb dL_law_411 rfl (lv_at hl 3 rfl) ?_
  refine lv_iconst (v := zI (2)) hx hb dL_law_412 rfl ?_
  refine z_iadd hx hb dL_law_413 ?_
  refine z_sld hx hb hX hbl hbA hW hL (i := i + 2) (by omega) dL_law_414 ?_
  refine z_callV (r := (RX4, TX4, 6)) (As := [.int (zI (ys (i + 1).toNat)), .int (zI (ys (i + 2).toNat))]) (rest := []) hS hK hA hW hl.1 [0, 1, 10] [2, 3, 4, 5, 6, 7, 8, 9, 11] (kX4_panel l D cI cB x axb axn xk xh axt axc b cn (ys (i + 1).toNat) (ys (i + 2).toNat) S.1 S.2.1 S.2.2 hBb hy1 hy2) (cwV 2 hts gL_law_X4_panel rfl rfl rfl (by decide +kernel) ⟨Nat.le_of_ble_eq_true rfl, Nat.le_of_ble_eq_true rfl⟩) (rfl : vwCl[4]? = some (RX4, TX4, 6)) (q0 := 0) rfl dL_law_415 rfl rfl rfl (show ([0, 1, 10] ++ [2, 3, 4, 5, 6, 7, 8, 9, 11] : List Nat).isPerm (List.range 12) = true by decide +kernel) rfl (Nat.le_of_ble_eq_true rfl) ⟨Nat.le_of_ble_eq_true rfl, Nat.le_of_ble_eq_true rfl⟩ (fun v9 w9 H locs hq hW => ?_)
  obtain ⟨rr_415, cz_415, rfl, rfl, hh_415⟩ := hq
  have hW : zW D A s.heap [[(x, .inr (4, [.ref (axb 0), .ref (axn 0), .int (zI xk), .ref xh, .ref (axt 0), .ref (axc 0)]))], zBoard cI axb b, zCont cI axc cz_415, zBoard cI axn bn, [(xh, .inr (2, [.ref xa, .int (zI hn)]))], [zRefs cB xa (some (u0 0)) (some (u1 0)) (some (u2 0)) (some (u3 0))], zBoard cI u0 d0, zBoard cI u1 d1, zBoard cI u2 d2, zBoard cI u3 d3, zText cI axt t, zMod2 cI am bm] H locs := hW
  have hW : zW D A s.heap [[(x, .inr (4, [.ref (axb 0), .ref (axn 0), .int (zI xk), .ref xh, .ref (axt 0), .ref (axc 0)]))], zBoard cI axb b, zBoard cI axn bn, [(xh, .inr (2, [.ref xa, .int (zI hn)]))], [zRefs cB xa (some (u0 0)) (some (u1 0)) (some (u2 0)) (some (u3 0))], zBoard cI u0 d0, zBoard cI u1 d1, zBoard cI u2 d2, zBoard cI u3 d3, zText cI axt t, zCont cI axc cz_415, zMod2 cI am bm] H locs := hW.pick [0, 1, 3, 4, 5, 6, 7, 8, 9, 10, 2, 11] rfl (show ([0, 1, 3, 4, 5, 6, 7, 8, 9, 10, 2, 11] : List Nat).isPerm (List.range 12) = true by decide +kernel)
  refine W.eq (g2 := F0 m 418 ls [.int (zI rr_415)]) rfl ?_
  refine lv_aload_n hx hb dL_law_418 rfl (lv_at hl 2 rfl) ?_
  refine lv_aload_n hx hb dL_law_419 rfl (lv_at hl 0 rfl) ?_
  refine lv_iload_n hx hb dL_law_420 rfl (lv_at hl 3 rfl) ?_
  refine lv_iconst (v := zI (1)) hx hb dL_law_421 rfl ?_
  refine z_iadd hx hb dL_law_422 ?_
  refine z_sld hx hb hX hbl hbA hW hL (i := i + 1) (by omega) dL_law_423 ?_
  refine lv_aload_n hx hb dL_law_424 rfl (lv_at hl 0 rfl) ?_
  refine lv_iload_n hx hb dL_law_425 rfl (lv_at hl 3 rfl) ?_
  refine lv_iconst (v := zI (2)) hx hb dL_law_426 rfl ?_
  refine z_iadd hx hb dL_law_427 ?_
  refine z_sld hx hb hX hbl hbA hW hL (i := i + 2) (by omega) dL_law_428 ?_
  refine z_callV (r := (RX5, TX5, 18)) (As := [.int (zI (ys (i + 1).toNat)), .int (zI (ys (i + 2).toNat))]) (rest := [.int (zI rr_415)]) hS hK hA hW hl.1 [11] [0, 1, 2, 3, 4, 5, 6, 7, 8, 9, 10] (kX5_panel l D cI cB am bm (ys (i + 1).toNat) (ys (i + 2).toNat) L9 S.2.1 S.2.2 hL1 hy1 hy2) (cwV 2 hts gL_law_X5_panel rfl rfl rfl (by decide +kernel) ⟨Nat.le_of_ble_eq_true rfl, Nat.le_of_ble_eq_true rfl⟩) (rfl : vwCl[5]? = some (RX5, TX5, 18)) (q0 := 59) rfl dL_law_429 rfl rfl rfl (show ([11] ++ [0, 1, 2, 3, 4, 5, 6, 7, 8, 9, 10] : List Nat).isPerm (List.range 12) = true by decide +kernel) rfl (Nat.le_of_ble_eq_true rfl) ⟨Nat.le_of_ble_eq_true rfl, Nat.le_of_ble_eq_true rfl⟩ (fun v9 w9 H locs hq hW => ?_)
  obtain ⟨rr_429, zrow_429, zbrk_429, znb_429, zhold_429, zmov_429, zbeh_429, rfl, rfl, hh_429⟩ := hq
  have hW : zW D A s.heap [zMod2 cI am (mm_beh_ (mm_mov_ (mm_hold_ (mm_nb_ (mm_brk_ (mm_row_ bm (zrow_429)) (zbrk_429)) (znb_429)) (zhold_429)) (zmov_429)) (zbeh_429)), [(x, .inr (4, [.ref (axb 0), .ref (axn 0), .int (zI xk), .ref xh, .ref (axt 0), .ref (axc 0)]))], zBoard cI axb b, zBoard cI axn bn, [(xh, .inr (2, [.ref xa, .int (zI hn)]))], [zRefs cB xa (some (u0 0)) (some (u1 0)) (some (u2 0)) (some (u3 0))], zBoard cI u0 d0, zBoard cI u1 d1, zBoard cI u2 d2, zBoard cI u3 d3, zText cI axt t, zCont cI axc cz_415] H locs := hW
  have hW : zW D A s.heap [[(x, .inr (4, [.ref (axb 0), .ref (axn 0), .int (zI xk), .ref xh, .ref (axt 0), .ref (axc 0)]))], zBoard cI axb b, zBoard cI axn bn, [(xh, .inr (2, [.ref xa, .int (zI hn)]))], [zRefs cB xa (some (u0 0)) (some (u1 0)) (some (u2 0)) (some (u3 0))], zBoard cI u0 d0, zBoard cI u1 d1, zBoard cI u2 d2, zBoard cI u3 d3, zText cI axt t, zCont cI axc cz_415, zMod2 cI am (mm_beh_ (mm_mov_ (mm_hold_ (mm_nb_ (mm_brk_ (mm_row_ bm (zrow_429)) (zbrk_429)) (znb_429)) (zhold_429)) (zmov_429)) (zbeh_429))] H locs := hW.pick [1, 2, 3, 4, 5, 6, 7, 8, 9, 10, 11, 0] rfl (show ([1, 2, 3, 4, 5, 6, 7, 8, 9, 10, 11, 0] : List Nat).isPerm (List.range 12) = true by decide +kernel)
  refine W.eq (g2 := F0 m 432 ls [.int (zI rr_429), .int (zI rr_415)]) rfl ?_
  have hq1 := hh_429
  rw [← hL2] at hq1
  have hre := panR_det hnd hh_415 hq1
  refine z_same (tgt := 734) hx hb dL_law_432 (by decide) (by exact hre) ?_
  exact KK xk hn b bn u0 u1 u2 u3 d0 d1 d2 d3 t cz_415 ((mm_beh_ (mm_mov_ (mm_hold_ (mm_nb_ (mm_brk_ (mm_row_ bm (zrow_429)) (zbrk_429)) (znb_429)) (zhold_429)) (zmov_429)) (zbeh_429))) S hs Sn (⟨⟨hBb, hHB, hBn, hTk⟩, ⟨hMr, hMh⟩, htk, hsn, hTm, htl, htx⟩) _ _ hW ls hl
