set_option maxHeartbeats 8000000 in
set_option maxRecDepth 100000 in
theorem lwc_238 {p : Program} {l : Launch} {e : Env} {s : State} {m : MethodId} {below : List Frame} {meth : Method} {c : Code} {Q : State → Prop} {D : va_G} {cI cB : ClassId} {A : Nat → Prop} {sb L : Nat} {ys : Nat → Int} {x : Nat} {axb axn : Nat → Nat} {xh : Nat} {axt axc : Nat → Nat} {xa : Nat} {am : Nat → Nat} (hS : CallFix p m c cL_law 4 s #[Value.ref sb] wsL_law RL) (hK : ZK D cI cB s) (hA : ∀ q, s.heap.size ≤ q → A q) (hL : L ≤ 2048) (hX : va_X sb L (fun j => zI (ys j)) s s.heap) (hbl : sb < s.heap.size) (hbA : ¬ A sb) (hys : ∀ j, R32 (ys j)) {i : Int} (hi : 0 ≤ i ∧ i + 4 ≤ (L : Int)) (KK : ∀ (xk hn : Int) (b bn : zBS) (u0 u1 u2 u3 : Nat → Nat) (d0 d1 d2 d3 : zBS) (t : zTS) (cn : zCS) (bm : zM2) (S : zSt) (hs : List zSt) (Sn : zSt), lwR xk hn b bn t d0 d1 d2 d3 bm S hs Sn → ∀ (H : Heap) (locs : List Loc), zW D A s.heap [[(x, .inr (4, [.ref (axb 0), .ref (axn 0), .int (zI xk), .ref xh, .ref (axt 0), .ref (axc 0)]))], zBoard cI axb b, zBoard cI axn bn, [(xh, .inr (2, [.ref xa, .int (zI hn)]))], [zRefs cB xa (some (u0 0)) (some (u1 0)) (some (u2 0)) (some (u3 0))], zBoard cI u0 d0, zBoard cI u1 d1, zBoard cI u2 d2, zBoard cI u3 d3, zText cI axt t, zCont cI axc cn, zMod2 cI am bm] H locs → ∀ (ls : Array Slot), lv_has ls 4 [(0, .ref sb), (1, .ref x), (2, .ref (am 0)), (3, .int (zI i))] → W p l e room_1 s m #[Value.ref sb] below meth c H locs 73 4564 Q (F0 m 734 ls [])) {xk hn : Int} {b bn : zBS} {u0 u1 u2 u3 : Nat → Nat} {d0 d1 d2 d3 : zBS} {t : zTS} {cn : zCS} {bm : zM2} {S : zSt} {hs : List zSt} {Sn : zSt} : lwR xk hn b bn t d0 d1 d2 d3 bm S hs Sn → ∀ (H : Heap) (locs : List Loc), zW D A s.heap [[(x, .inr (4, [.ref (axb 0), .ref (axn 0), .int (zI xk), .ref xh, .ref (axt 0), .ref (axc 0)]))], zBoard cI axb b, zBoard cI axn bn, [(xh, .inr (2, [.ref xa, .int (zI hn)]))], [zRefs cB xa (some (u0 0)) (some (u1 0)) (some (u2 0)) (some (u3 0))], zBoard cI u0 d0, zBoard cI u1 d1, zBoard cI u2 d2, zBoard cI u3 d3, zText cI axt t, zCont cI axc cn, zMod2 cI am bm] H locs → ∀ (ls : Array Slot), lv_has ls 4 [(0, .ref sb), (1, .ref x), (2, .ref (am 0)), (3, .int (zI i))] → W p l e room_1 s m #[Value.ref sb] below meth c H locs 73 4564 Q (F0 m 238 ls []) := by
  have hx := hS.1
  have hb := hS.2.1
  have hown := hS.2.2.2.1
  have hts := hS.2.2.2.2
  intro hR H locs hW ls hl
  obtain ⟨⟨hBb, hHB, hBn, hTk⟩, ⟨hMr, hMh⟩, htk, hsn, hTm, htl, htx⟩ := id hR
  obtain ⟨L9, hL1, hL2⟩ := id hMr
  have hnd := RBS_nd hBb
  have hy1 := hys (i + 1).toNat
  have hy2 := hys (i + 2).toNat
  have hy3 := hys (i + 3).toNat
  refine lv_aload_n hx hb dL_law_238 rfl (lv_at hl 1 rfl) ?_
  refine lv_aload_n hx hb dL_law_239 rfl (lv_at hl 0 rfl) ?_
  refine lv_iload_n hx hb dL_law_240 rfl (lv_at hl 3 rfl) ?_
  refine lv_iconst (v := zI (1)) hx hb dL_law_241 rfl ?_
  refine z_iadd hx hb dL_law_242 ?_
  refine z_sld hx hb hX hbl hbA hW hL (i := i + 1) (by omega) dL_law_243 ?_
  refine lv_aload_n hx hb dL_law_244 rfl (lv_at hl 0 rfl) ?_
  refine lv_iload_n hx hb dL_law_245 rfl (lv_at hl 3 rfl) ?_
  refine lv_iconst (v := zI (2)) hx hb dL_law_246 rfl ?_
  refine z_iadd hx hb dL_law_247 ?_
  refine z_sld hx hb hX hbl hbA hW hL (i := i + 2) (by omega) dL_law_248 ?_
  refine z_callV (r := (RX4, TX4, 6)) (As := [.int (zI (ys (i + 1).toNat)), .int (zI (ys (i + 2).toNat))]) (rest := []) hS hK hA hW hl.1 [0, 1, 3, 4, 5, 6, 7, 8, 10] [2, 9, 11] (kX4_moveScene l D cI cB x axb axn xk xh axt axc b xa hn u0 u1 u2 u3 d0 d1 d2 d3 cn (ys (i + 1).toNat) (ys (i + 2).toNat) S.1 S.2.1 S.2.2 hs hBb hHB hy1 hy2) (cwV 2 hts gL_law_X4_moveScene rfl rfl rfl (by decide +kernel) ⟨Nat.le_of_ble_eq_true rfl, Nat.le_of_ble_eq_true rfl⟩) (rfl : vwCl[4]? = some (RX4, TX4, 6)) (q0 := 0) rfl dL_law_249 rfl rfl rfl (show ([0, 1, 3, 4, 5, 6, 7, 8, 10] ++ [2, 9, 11] : List Nat).isPerm (List.range 12) = true by decide +kernel) rfl (Nat.le_of_ble_eq_true rfl) ⟨Nat.le_of_ble_eq_true rfl, Nat.le_of_ble_eq_true rfl⟩ (fun v9 w9 H locs hq hW => ?_)
  obtain ⟨rr_249, bz_249, hnz_249, v0_249, v1_249, v2_249, v3_249, e0_249, e1_249, e2_249, e3_249, cz_249, rfl, rfl, hh_249⟩ := hq
  have hW : zW D A s.heap [[(x, .inr (4, [.ref (axb 0), .ref (axn 0), .int (zI xk), .ref xh, .ref (axt 0), .ref (axc 0)]))], zBoard cI axb bz_249, [(xh, .inr (2, [.ref xa, .int (zI hnz_249)]))], [zRefs cB xa (some (v0_249 0)) (some (v1_249 0)) (some (v2_249 0)) (some (v3_249 0))], zBoard cI v0_249 e0_249, zBoard cI v1_249 e1_249, zBoard cI v2_249 e2_249, zBoard cI v3_249 e3_249, zCont cI axc cz_249, zBoard cI axn bn, zText cI axt t, zMod2 cI am bm] H locs := hW
  have hW : zW D A s.heap [[(x, .inr (4, [.ref (axb 0), .ref (axn 0), .int (zI xk), .ref xh, .ref (axt 0), .ref (axc 0)]))], zBoard cI axb bz_249, zBoard cI axn bn, [(xh, .inr (2, [.ref xa, .int (zI hnz_249)]))], [zRefs cB xa (some (v0_249 0)) (some (v1_249 0)) (some (v2_249 0)) (some (v3_249 0))], zBoard cI v0_249 e0_249, zBoard cI v1_249 e1_249, zBoard cI v2_249 e2_249, zBoard cI v3_249 e3_249, zText cI axt t, zCont cI axc cz_249, zMod2 cI am bm] H locs := hW.pick [0, 1, 9, 2, 3, 4, 5, 6, 7, 10, 8, 11] rfl (show ([0, 1, 9, 2, 3, 4, 5, 6, 7, 10, 8, 11] : List Nat).isPerm (List.range 12) = true by decide +kernel)
  refine W.eq (g2 := F0 m 252 ls [.int (zI rr_249)]) rfl ?_
  obtain ⟨S2, hs2, hp1, hp2, hp3⟩ := hh_249
  refine lv_aload_n hx hb dL_law_252 rfl (lv_at hl 2 rfl) ?_
  refine lv_aload_n hx hb dL_law_253 rfl (lv_at hl 0 rfl) ?_
  refine lv_iload_n hx hb dL_law_254 rfl (lv_at hl 3 rfl) ?_
  refine lv_iconst (v := zI (1)) hx hb dL_law_255 rfl ?_
  refine z_iadd hx hb dL_law_256 ?_
  refine z_sld hx hb hX hbl hbA hW hL (i := i + 1) (by omega) dL_law_257 ?_
  refine lv_aload_n hx hb dL_law_258 rfl (lv_at hl 0 rfl) ?_
  refine lv_iload_n hx hb dL_law_259 rfl (lv_at hl 3 rfl) ?_
  refine lv_iconst (v := zI (2)) hx hb dL_law_260 rfl ?_
  refine z_iadd hx hb dL_law_261 ?_
  refine z_sld hx hb hX hbl hbA hW hL (i := i + 2) (by omega) dL_law_262 ?_
  refine z_callV (r := (RX5, TX5, 18)) (As := [.int (zI (ys (i + 1).toNat)), .int (zI (ys (i + 2).toNat))]) (rest := [.int (zI rr_249)]) hS hK hA hW hl.1 [11] [0, 1, 2, 3, 4, 5, 6, 7, 8, 9, 10] (kX5_moveScene l D cI cB am bm (ys (i + 1).toNat) (ys (i + 2).toNat) L9 S.2.1 S.2.2 hs hL1 hMh hy1 hy2) (cwV 2 hts gL_law_X5_moveScene rfl rfl rfl (by decide +kernel) ⟨Nat.le_of_ble_eq_true rfl, Nat.le_of_ble_eq_true rfl⟩) (rfl : vwCl[5]? = some (RX5, TX5, 18)) (q0 := 59) rfl dL_law_263 rfl rfl rfl (show ([11] ++ [0, 1, 2, 3, 4, 5, 6, 7, 8, 9, 10] : List Nat).isPerm (List.range 12) = true by decide +kernel) rfl (Nat.le_of_ble_eq_true rfl) ⟨Nat.le_of_ble_eq_true rfl, Nat.le_of_ble_eq_true rfl⟩ (fun v9 w9 H locs hq hW => ?_)
  obtain ⟨rr_263, zall_263, zkept_263, zhis_263, zhl_263, zrow_263, zbrk_263, znb_263, zhold_263, zmov_263, zbeh_263, rfl, rfl, hh_263⟩ := hq
  have hW : zW D A s.heap [zMod2 cI am (mm_beh_ (mm_mov_ (mm_hold_ (mm_nb_ (mm_brk_ (mm_row_ (mm_hl_ (mm_his_ (mm_kept_ (mm_all_ bm (zall_263)) (zkept_263)) (zhis_263)) (zhl_263)) (zrow_263)) (zbrk_263)) (znb_263)) (zhold_263)) (zmov_263)) (zbeh_263)), [(x, .inr (4, [.ref (axb 0), .ref (axn 0), .int (zI xk), .ref xh, .ref (axt 0), .ref (axc 0)]))], zBoard cI axb bz_249, zBoard cI axn bn, [(xh, .inr (2, [.ref xa, .int (zI hnz_249)]))], [zRefs cB xa (some (v0_249 0)) (some (v1_249 0)) (some (v2_249 0)) (some (v3_249 0))], zBoard cI v0_249 e0_249, zBoard cI v1_249 e1_249, zBoard cI v2_249 e2_249, zBoard cI v3_249 e3_249, zText cI axt t, zCont cI axc cz_249] H locs := hW
  have hW : zW D A s.heap [[(x, .inr (4, [.ref (axb 0), .ref (axn 0), .int (zI xk), .ref xh, .ref (axt 0), .ref (axc 0)]))], zBoard cI axb bz_249, zBoard cI axn bn, [(xh, .inr (2, [.ref xa, .int (zI hnz_249)]))], [zRefs cB xa (some (v0_249 0)) (some (v1_249 0)) (some (v2_249 0)) (some (v3_249 0))], zBoard cI v0_249 e0_249, zBoard cI v1_249 e1_249, zBoard cI v2_249 e2_249, zBoard cI v3_249 e3_249, zText cI axt t, zCont cI axc cz_249, zMod2 cI am (mm_beh_ (mm_mov_ (mm_hold_ (mm_nb_ (mm_brk_ (mm_row_ (mm_hl_ (mm_his_ (mm_kept_ (mm_all_ bm (zall_263)) (zkept_263)) (zhis_263)) (zhl_263)) (zrow_263)) (zbrk_263)) (znb_263)) (zhold_263)) (zmov_263)) (zbeh_263))] H locs := hW.pick [1, 2, 3, 4, 5, 6, 7, 8, 9, 10, 11, 0] rfl (show ([1, 2, 3, 4, 5, 6, 7, 8, 9, 10, 11, 0] : List Nat).isPerm (List.range 12) = true by decide +kernel)
  refine W.eq (g2 := F0 m 266 ls [.int (zI rr_263), .int (zI rr_249)]) rfl ?_
  obtain ⟨S3, hs3, hq1, hq2, hq3⟩ := hh_263
  rw [← hL2] at hq1
  obtain ⟨hre, hSe, hhe⟩ := sceR_det hp1 hq1
  subst hSe
  subst hhe
  refine z_same (tgt := 734) hx hb dL_law_266 (by decide) (by exact hre) ?_
  exact KK xk hnz_249 bz_249 bn v0_249 v1_249 v2_249 v3_249 e0_249 e1_249 e2_249 e3_249 t cz_249 ((mm_beh_ (mm_mov_ (mm_hold_ (mm_nb_ (mm_brk_ (mm_row_ (mm_hl_ (mm_his_ (mm_kept_ (mm_all_ bm (zall_263)) (zkept_263)) (zhis_263)) (zhl_263)) (zrow_263)) (zbrk_263)) (znb_263)) (zhold_263)) (zmov_263)) (zbeh_263))) S2 hs2 Sn (⟨⟨hp2, hp3, hBn, hTk⟩, ⟨hq2, hq3⟩, htk, hsn, hTm, htl, htx⟩) _ _ hW ls hl

set_option maxHeartbeats 8000000 in
set_option maxRecDepth 100000 in
theorem lwc_271 {p : Program} {l : Launch} {e : Env} {s : State} {m : MethodId} {below : List Frame} {meth : Method} {c : Code} {Q : State → Prop} {D : va_G} {cI cB : ClassId} {A : Nat → Prop} {sb L : Nat} {ys : Nat → Int} {x : Nat} {axb axn : Nat → Nat} {xh : Nat} {axt axc : Nat → Nat} {xa : Nat} {am : Nat → Nat} (hS : CallFix p m c cL_law 4 s #[Value.ref sb] wsL_law RL) (hK : ZK D cI cB s) (hA : ∀ q, s.heap.size ≤ q → A q) (hL : L ≤ 2048) (hX : va_X sb L (fun j => zI (ys j)) s s.heap) (hbl : sb < s.heap.size) (hbA : ¬ A sb) (hys : ∀ j, R32 (ys j)) {i : Int} (hi : 0 ≤ i ∧ i + 4 ≤ (L : Int)) (KK : ∀ (xk hn : Int) (b bn : zBS) (u0 u1 u2 u3 : Nat → Nat) (d0 d1 d2 d3 : zBS) (t : zTS) (cn : zCS) (bm : zM2) (S : zSt) (hs : List zSt) (Sn : zSt), lwR xk hn b bn t d0 d1 d2 d3 bm S hs Sn → ∀ (H : Heap) (locs : List Loc), zW D A s.heap [[(x, .inr (4, [.ref (axb 0), .ref (axn 0), .int (zI xk), .ref xh, .ref (axt 0), .ref (axc 0)]))], zBoard cI axb b, zBoard cI axn bn, [(xh, .inr (2, [.ref xa, .int (zI hn)]))], [zRefs cB xa (some (u0 0)) (some (u1 0)) (some (u2 0)) (some (u3 0))], zBoard cI u0 d0, zBoard cI u1 d1, zBoard cI u2 d2, zBoard cI u3 d3, zText cI axt t, zCont cI axc cn, zMod2 cI am bm] H locs → ∀ (ls : Array Slot), lv_has ls 4 [(0, .ref sb), (1, .ref x), (2, .ref (am 0)), (3, .int (zI i))] → W p l e room_1 s m #[Value.ref sb] below meth c H locs 73 4564 Q (F0 m 734 ls [])) {xk hn : Int} {b bn : zBS} {u0 u1 u2 u3 : Nat → Nat} {d0 d1 d2 d3 : zBS} {t : zTS} {cn : zCS} {bm : zM2} {S : zSt} {hs : List zSt} {Sn : zSt} : lwR xk hn b bn t d0 d1 d2 d3 bm S hs Sn → ∀ (H : Heap) (locs : List Loc), zW D A s.heap [[(x, .inr (4, [.ref (axb 0), .ref (axn 0), .int (zI xk), .ref xh, .ref (axt 0), .ref (axc 0)]))], zBoard cI axb b, zBoard cI axn bn, [(xh, .inr (2, [.ref xa, .int (zI hn)]))], [zRefs cB xa (some (u0 0)) (some (u1 0)) (some (u2 0)) (some (u3 0))], zBoard cI u0 d0, zBoard cI u1 d1, zBoard cI u2 d2, zBoard cI u3 d3, zText cI axt t, zCont cI axc cn, zMod2 cI am bm] H locs → ∀ (ls : Array Slot), lv_has ls 4 [(0, .ref sb), (1, .ref x), (2, .ref (am 0)), (3, .int (zI i))] → W p l e room_1 s m #[Value.ref sb] below meth c H locs 73 4564 Q (F0 m 271 ls []) := by
  have hx := hS.1
  have hb := hS.2.1
  have hown := hS.2.2.2.1
  have hts := hS.2.2.2.2
  intro hR H locs hW ls hl
  obtain ⟨⟨hBb, hHB, hBn, hTk⟩, ⟨hMr, hMh⟩, htk, hsn, hTm, htl, htx⟩ := id hR
  obtain ⟨L9, hL1, hL2⟩ := id hMr
  have hnd := RBS_nd hBb
  have hy1 := hys (i + 1).toNat
  have hy2 := hys (i + 2).toNat
  have hy3 := hys (i + 3).toNat
  refine lv_aload_n hx hb dL_law_271 rfl (lv_at hl 1 rfl) ?_
  refine lv_aload_n hx hb dL_law_272 rfl (lv_at hl 0 rfl) ?_
  refine lv_iload_n hx hb dL_law_273 rfl (lv_at hl 3 rfl) ?_
  refine lv_iconst (v := zI (1)) hx hb dL_law_274 rfl ?_
  refine z_iadd hx hb dL_law_275 ?_
  refine z_sld hx hb hX hbl hbA hW hL (i := i + 1) (by omega) dL_law_276 ?_
  refine lv_aload_n hx hb dL_law_277 rfl (lv_at hl 0 rfl) ?_
  refine lv_iload_n hx hb dL_law_278 rfl (lv_at hl 3 rfl) ?_
  refine lv_iconst (v := zI (2)) hx hb dL_law_279 rfl ?_
  refine z_iadd hx hb dL_law_280 ?_
  refine z_sld hx hb hX hbl hbA hW hL (i := i + 2) (by omega) dL_law_281 ?_
  refine z_callV (r := (RX4, TX4, 6)) (As := [.int (zI (ys (i + 1).toNat)), .int (zI (ys (i + 2).toNat))]) (rest := []) hS hK hA hW hl.1 [0, 1, 3, 4, 5, 6, 7, 8] [2, 9, 10, 11] (kX4_time l D cI cB x axb axn xk xh axt axc b xa hn u0 u1 u2 u3 d0 d1 d2 d3 (ys (i + 1).toNat) (ys (i + 2).toNat) S.1 S.2.1 S.2.2 hs hBb hHB hy1 hy2) (cwV 2 hts gL_law_X4_time rfl rfl rfl (by decide +kernel) ⟨Nat.le_of_ble_eq_true rfl, Nat.le_of_ble_eq_true rfl⟩) (rfl : vwCl[4]? = some (RX4, TX4, 6)) (q0 := 0) rfl dL_law_282 rfl rfl rfl (show ([0, 1, 3, 4, 5, 6, 7, 8] ++ [2, 9, 10, 11] : List Nat).isPerm (List.range 12) = true by decide +kernel) rfl (Nat.le_of_ble_eq_true rfl) ⟨Nat.le_of_ble_eq_true rfl, Nat.le_of_ble_eq_true rfl⟩ (fun v9 w9 H locs hq hW => ?_)
  obtain ⟨rr_282, bz_282, hnz_282, v0_282, v1_282, v2_282, v3_282, e0_282, e1_282, e2_282, e3_282, rfl, rfl, hh_282⟩ := hq
  have hW : zW D A s.heap [[(x, .inr (4, [.ref (axb 0), .ref (axn 0), .int (zI xk), .ref xh, .ref (axt 0), .ref (axc 0)]))], zBoard cI axb bz_282, [(xh, .inr (2, [.ref xa, .int (zI hnz_282)]))], [zRefs cB xa (some (v0_282 0)) (some (v1_282 0)) (some (v2_282 0)) (some (v3_282 0))], zBoard cI v0_282 e0_282, zBoard cI v1_282 e1_282, zBoard cI v2_282 e2_282, zBoard cI v3_282 e3_282, zBoard cI axn bn, zText cI axt t, zCont cI axc cn, zMod2 cI am bm] H locs := hW
  have hW : zW D A s.heap [[(x, .inr (4, [.ref (axb 0), .ref (axn 0), .int (zI xk), .ref xh, .ref (axt 0), .ref (axc 0)]))], zBoard cI axb bz_282, zBoard cI axn bn, [(xh, .inr (2, [.ref xa, .int (zI hnz_282)]))], [zRefs cB xa (some (v0_282 0)) (some (v1_282 0)) (some (v2_282 0)) (some (v3_282 0))], zBoard cI v0_282 e0_282, zBoard cI v1_282 e1_282, zBoard cI v2_282 e2_282, zBoard cI v3_282 e3_282, zText cI axt t, zCont cI axc cn, zMod2 cI am bm] H locs := hW.pick [0, 1, 8, 2, 3, 4, 5, 6, 7, 9, 10, 11] rfl (show ([0, 1, 8, 2, 3, 4, 5, 6, 7, 9, 10, 11] : List Nat).isPerm (List.range 12) = true by decide +kernel)
  refine W.eq (g2 := F0 m 285 ls [.int (zI rr_282)]) rfl ?_
  obtain ⟨S2, hs2, hp1, hp2, hp3⟩ := hh_282
  refine lv_aload_n hx hb dL_law_285 rfl (lv_at hl 2 rfl) ?_
  refine lv_aload_n hx hb dL_law_286 rfl (lv_at hl 0 rfl) ?_
  refine lv_iload_n hx hb dL_law_287 rfl (lv_at hl 3 rfl) ?_
  refine lv_iconst (v := zI (1)) hx hb dL_law_288 rfl ?_
  refine z_iadd hx hb dL_law_289 ?_
  refine z_sld hx hb hX hbl hbA hW hL (i := i + 1) (by omega) dL_law_290 ?_
  refine lv_aload_n hx hb dL_law_291 rfl (lv_at hl 0 rfl) ?_
  refine lv_iload_n hx hb dL_law_292 rfl (lv_at hl 3 rfl) ?_
  refine lv_iconst (v := zI (2)) hx hb dL_law_293 rfl ?_
  refine z_iadd hx hb dL_law_294 ?_
  refine z_sld hx hb hX hbl hbA hW hL (i := i + 2) (by omega) dL_law_295 ?_
  refine z_callV (r := (RX5, TX5, 18)) (As := [.int (zI (ys (i + 1).toNat)), .int (zI (ys (i + 2).toNat))]) (rest := [.int (zI rr_282)]) hS hK hA hW hl.1 [11] [0, 1, 2, 3, 4, 5, 6, 7, 8, 9, 10] (kX5_time l D cI cB am bm (ys (i + 1).toNat) (ys (i + 2).toNat) L9 S.2.1 S.2.2 hs hL1 hMh hy1 hy2) (cwV 2 hts gL_law_X5_time rfl rfl rfl (by decide +kernel) ⟨Nat.le_of_ble_eq_true rfl, Nat.le_of_ble_eq_true rfl⟩) (rfl : vwCl[5]? = some (RX5, TX5, 18)) (q0 := 59) rfl dL_law_296 rfl rfl rfl (show ([11] ++ [0, 1, 2, 3, 4, 5, 6, 7, 8, 9, 10] : List Nat).isPerm (List.range 12) = true by decide +kernel) rfl (Nat.le_of_ble_eq_true rfl) ⟨Nat.le_of_ble_eq_true rfl, Nat.le_of_ble_eq_true rfl⟩ (fun v9 w9 H locs hq hW => ?_)
  obtain ⟨rr_296, zall_296, zkept_296, zhis_296, zhl_296, rfl, rfl, hh_296⟩ := hq
  have hW : zW D A s.heap [zMod2 cI am (mm_hl_ (mm_his_ (mm_kept_ (mm_all_ bm (zall_296)) (zkept_296)) (zhis_296)) (zhl_296)), [(x, .inr (4, [.ref (axb 0), .ref (axn 0), .int (zI xk), .ref xh, .ref (axt 0), .ref (axc 0)]))], zBoard cI axb bz_282, zBoard cI axn bn, [(xh, .inr (2, [.ref xa, .int (zI hnz_282)]))], [zRefs cB xa (some (v0_282 0)) (some (v1_282 0)) (some (v2_282 0)) (some (v3_282 0))], zBoard cI v0_282 e0_282, zBoard cI v1_282 e1_282, zBoard cI v2_282 e2_282, zBoard cI v3_282 e3_282, zText cI axt t, zCont cI axc cn] H locs := hW
  have hW : zW D A s.heap [[(x, .inr (4, [.ref (axb 0), .ref (axn 0), .int (zI xk), .ref xh, .ref (axt 0), .ref (axc 0)]))], zBoard cI axb bz_282, zBoard cI axn bn, [(xh, .inr (2, [.ref xa, .int (zI hnz_282)]))], [zRefs cB xa (some (v0_282 0)) (some (v1_282 0)) (some (v2_282 0)) (some (v3_282 0))], zBoard cI v0_282 e0_282, zBoard cI v1_282 e1_282, zBoard cI v2_282 e2_282, zBoard cI v3_282 e3_282, zText cI axt t, zCont cI axc cn, zMod2 cI am (mm_hl_ (mm_his_ (mm_kept_ (mm_all_ bm (zall_296)) (zkept_296)) (zhis_296)) (zhl_296))] H locs := hW.pick [1, 2, 3, 4, 5, 6, 7, 8, 9, 10, 11, 0] rfl (show ([1, 2, 3, 4, 5, 6, 7, 8, 9, 10, 11, 0] : List Nat).isPerm (List.range 12) = true by decide +kernel)
  refine W.eq (g2 := F0 m 299 ls [.int (zI rr_296), .int (zI rr_282)]) rfl ?_
  obtain ⟨S3, hs3, hq1, hq2, hq3⟩ := hh_296
  rw [← hL2] at hq1
  obtain ⟨hre, hSe, hhe⟩ := timR_det hnd hp1 hq1
  subst hSe
  subst hhe
  refine z_same (tgt := 734) hx hb dL_law_299 (by decide) (by exact hre) ?_
  exact KK xk hnz_282 bz_282 bn v0_282 v1_282 v2_282 v3_282 e0_282 e1_282 e2_282 e3_282 t cn ((mm_hl_ (mm_his_ (mm_kept_ (mm_all_ bm (zall_296)) (zkept_296)) (zhis_296)) (zhl_296))) S2 hs2 Sn (⟨⟨hp2, hp3, hBn, hTk⟩, ⟨hq2, hq3⟩, htk, hsn, hTm, htl, htx⟩) _ _ hW ls hl

set_option maxHeartbeats 8000000 in
set_option maxRecDepth 100000 in
theorem lwc_304 {p : Program} {l : Launch} {e : Env} {s : State} {m : MethodId} {below : List Frame} {meth : Method} {c : Code} {Q : State → Prop} {D : va_G} {cI cB : ClassId} {A : Nat → Prop} {sb L : Nat} {ys : Nat → Int} {x : Nat} {axb axn : Nat → Nat} {xh : Nat} {axt axc : Nat → Nat} {xa : Nat} {am : Nat → Nat} (hS : CallFix p m c cL_law 4 s #[Value.ref sb] wsL_law RL) (hK : ZK D cI cB s) (hA : ∀ q, s.heap.size ≤ q → A q) (hL : L ≤ 2048) (hX : va_X sb L (fun j => zI (ys j)) s s.heap) (hbl : sb < s.heap.size) (hbA : ¬ A sb) (hys : ∀ j, R32 (ys j)) {i : Int} (hi : 0 ≤ i ∧ i + 4 ≤ (L : Int)) (KK : ∀ (xk hn : Int) (b bn : zBS) (u0 u1 u2 u3 : Nat → Nat) (d0 d1 d2 d3 : zBS) (t : zTS) (cn : zCS) (bm : zM2) (S : zSt) (hs : List zSt) (Sn : zSt), lwR xk hn b bn t d0 d1 d2 d3 bm S hs Sn → ∀ (H : Heap) (locs : List Loc), zW D A s.heap [[(x, .inr (4, [.ref (axb 0), .ref (axn 0), .int (zI xk), .ref xh, .ref (axt 0), .ref (axc 0)]))], zBoard cI axb b, zBoard cI axn bn, [(xh, .inr (2, [.ref xa, .int (zI hn)]))], [zRefs cB xa (some (u0 0)) (some (u1 0)) (some (u2 0)) (some (u3 0))], zBoard cI u0 d0, zBoard cI u1 d1, zBoard cI u2 d2, zBoard cI u3 d3, zText cI axt t, zCont cI axc cn, zMod2 cI am bm] H locs → ∀ (ls : Array Slot), lv_has ls 4 [(0, .ref sb), (1, .ref x), (2, .ref (am 0)), (3, .int (zI i))] → W p l e room_1 s m #[Value.ref sb] below meth c H locs 73 4564 Q (F0 m 734 ls [])) {xk hn : Int} {b bn : zBS} {u0 u1 u2 u3 : Nat → Nat} {d0 d1 d2 d3 : zBS} {t : zTS} {cn : zCS} {bm : zM2} {S : zSt} {hs : List zSt} {Sn : zSt} : lwR xk hn b bn t d0 d1 d2 d3 bm S hs Sn → ∀ (H : Heap) (locs : List Loc), zW D A s.heap [[(x, .inr (4, [.ref (axb 0), .ref (axn 0), .int (zI xk), .ref xh, .ref (axt 0), .ref (axc 0)]))], zBoard cI axb b, zBoard cI axn bn, [(xh, .inr (2, [.ref xa, .int (zI hn)]))], [zRefs cB xa (some (u0 0)) (some (u1 0)) (some (u2 0)) (some (u3 0))], zBoard cI u0 d0, zBoard cI u1 d1, zBoard cI u2 d2, zBoard cI u3 d3, zText cI axt t, zCont cI axc cn, zMod2 cI am bm] H locs → ∀ (ls : Array Slot), lv_has ls 4 [(0, .ref sb), (1, .ref x), (2, .ref (am 0)), (3, .int (zI i))] → W p l e room_1 s m #[Value.ref sb] below meth c H locs 73 4564 Q (F0 m 304 ls []) := by
  have hx := hS.1
  have hb := hS.2.1
  have hown := hS.2.2.2.1
  have hts := hS.2.2.2.2
  intro hR H locs hW ls hl
  obtain ⟨⟨hBb, hHB, hBn, hTk⟩, ⟨hMr, hMh⟩, htk, hsn, hTm, htl, htx⟩ := id hR
  obtain ⟨L9, hL1, hL2⟩ := id hMr
  have hnd := RBS_nd hBb
  have hy1 := hys (i + 1).toNat
  have hy2 := hys (i + 2).toNat
  have hy3 := hys (i + 3).toNat
  refine lv_aload_n hx hb dL_law_304 rfl (lv_at hl 1 rfl) ?_
  refine lv_aload_n hx hb dL_law_305 rfl (lv_at hl 0 rfl) ?_
  refine lv_iload_n hx hb dL_law_306 rfl (lv_at hl 3 rfl) ?_
  refine lv_iconst (v := zI (1)) hx hb dL_law_307 rfl ?_
  refine z_iadd hx hb dL_law_308 ?_
  refine z_sld hx hb hX hbl hbA hW hL (i := i + 1) (by omega) dL_law_309 ?_
  refine z_callV (r := (RX4, TX4, 6)) (As := [.int (zI (ys (i + 1).toNat))]) (rest := []) hS hK hA hW hl.1 [0, 1, 3, 4, 5, 6, 7, 8, 10] [2, 9, 11] (kX4_mend l D cI cB x axb axn xk xh axt axc b xa hn u0 u1 u2 u3 d0 d1 d2 d3 cn (ys (i + 1).toNat) S.1 S.2.1 S.2.2 hs hBb hHB hy1) (cwV 1 hts gL_law_X4_mend rfl rfl rfl (by decide +kernel) ⟨Nat.le_of_ble_eq_true rfl, Nat.le_of_ble_eq_true rfl⟩) (rfl : vwCl[4]? = some (RX4, TX4, 6)) (q0 := 0) rfl dL_law_310 rfl rfl rfl (show ([0, 1, 3, 4, 5, 6, 7, 8, 10] ++ [2, 9, 11] : List Nat).isPerm (List.range 12) = true by decide +kernel) rfl (Nat.le_of_ble_eq_true rfl) ⟨Nat.le_of_ble_eq_true rfl, Nat.le_of_ble_eq_true rfl⟩ (fun v9 w9 H locs hq hW => ?_)
  obtain ⟨rr_310, bz_310, hnz_310, v0_310, v1_310, v2_310, v3_310, e0_310, e1_310, e2_310, e3_310, cz_310, rfl, rfl, hh_310⟩ := hq
  have hW : zW D A s.heap [[(x, .inr (4, [.ref (axb 0), .ref (axn 0), .int (zI xk), .ref xh, .ref (axt 0), .ref (axc 0)]))], zBoard cI axb bz_310, [(xh, .inr (2, [.ref xa, .int (zI hnz_310)]))], [zRefs cB xa (some (v0_310 0)) (some (v1_310 0)) (some (v2_310 0)) (some (v3_310 0))], zBoard cI v0_310 e0_310, zBoard cI v1_310 e1_310, zBoard cI v2_310 e2_310, zBoard cI v3_310 e3_310, zCont cI axc cz_310, zBoard cI axn bn, zText cI axt t, zMod2 cI am bm] H locs := hW
  have hW : zW D A s.heap [[(x, .inr (4, [.ref (axb 0), .ref (axn 0), .int (zI xk), .ref xh, .ref (axt 0), .ref (axc 0)]))], zBoard cI axb bz_310, zBoard cI axn bn, [(xh, .inr (2, [.ref xa, .int (zI hnz_310)]))], [zRefs cB xa (some (v0_310 0)) (some (v1_310 0)) (some (v2_310 0)) (some (v3_310 0))], zBoard cI v0_310 e0_310, zBoard cI v1_310 e1_310, zBoard cI v2_310 e2_310, zBoard cI v3_310 e3_310, zText cI axt t, zCont cI axc cz_310, zMod2 cI am bm] H locs := hW.pick [0, 1, 9, 2, 3, 4, 5, 6, 7, 10, 8, 11] rfl (show ([0, 1, 9, 2, 3, 4, 5, 6, 7, 10, 8, 11] : List Nat).isPerm (List.range 12) = true by decide +kernel)
  refine W.eq (g2 := F0 m 313 ls [.int (zI rr_310)]) rfl ?_
  obtain ⟨S2, hs2, hp1, hp2, hp3⟩ := hh_310
  refine lv_aload_n hx hb dL_law_313 rfl (lv_at hl 2 rfl) ?_
  refine lv_aload_n hx hb dL_law_314 rfl (lv_at hl 0 rfl) ?_
  refine lv_iload_n hx hb dL_law_315 rfl (lv_at hl 3 rfl) ?_
  refine lv_iconst (v := zI (1)) hx hb dL_law_316 rfl ?_
  refine z_iadd hx hb dL_law_317 ?_
  refine z_sld hx hb hX hbl hbA hW hL (i := i + 1) (by omega) dL_law_318 ?_
  refine z_callV (r := (RX5, TX5, 18)) (As := [.int (zI (ys (i + 1).toNat))]) (rest := [.int (zI rr_310)]) hS hK hA hW hl.1 [11] [0, 1, 2, 3, 4, 5, 6, 7, 8, 9, 10] (kX5_mend l D cI cB am bm (ys (i + 1).toNat) L9 S.2.1 S.2.2 hs hL1 hMh hy1) (cwV 1 hts gL_law_X5_mend rfl rfl rfl (by decide +kernel) ⟨Nat.le_of_ble_eq_true rfl, Nat.le_of_ble_eq_true rfl⟩) (rfl : vwCl[5]? = some (RX5, TX5, 18)) (q0 := 59) rfl dL_law_319 rfl rfl rfl (show ([11] ++ [0, 1, 2, 3, 4, 5, 6, 7, 8, 9, 10] : List Nat).isPerm (List.range 12) = true by decide +kernel) rfl (Nat.le_of_ble_eq_true rfl) ⟨Nat.le_of_ble_eq_true rfl, Nat.le_of_ble_eq_true rfl⟩ (fun v9 w9 H locs hq hW => ?_)
  obtain ⟨rr_319, zall_319, zkept_319, ztri_319, zhis_319, zhl_319, zout_319, zrow_319, zbrk_319, znb_319, zhold_319, zmov_319, zbeh_319, rfl, rfl, hh_319⟩ := hq
  have hW : zW D A s.heap [zMod2 cI am (mm_beh_ (mm_mov_ (mm_hold_ (mm_nb_ (mm_brk_ (mm_row_ (mm_out_ (mm_hl_ (mm_his_ (mm_tri_ (mm_kept_ (mm_all_ bm (zall_319)) (zkept_319)) (ztri_319)) (zhis_319)) (zhl_319)) (zout_319)) (zrow_319)) (zbrk_319)) (znb_319)) (zhold_319)) (zmov_319)) (zbeh_319)), [(x, .inr (4, [.ref (axb 0), .ref (axn 0), .int (zI xk), .ref xh, .ref (axt 0), .ref (axc 0)]))], zBoard cI axb bz_310, zBoard cI axn bn, [(xh, .inr (2, [.ref xa, .int (zI hnz_310)]))], [zRefs cB xa (some (v0_310 0)) (some (v1_310 0)) (some (v2_310 0)) (some (v3_310 0))], zBoard cI v0_310 e0_310, zBoard cI v1_310 e1_310, zBoard cI v2_310 e2_310, zBoard cI v3_310 e3_310, zText cI axt t, zCont cI axc cz_310] H locs := hW
  have hW : zW D A s.heap [[(x, .inr (4, [.ref (axb 0), .ref (axn 0), .int (zI xk), .ref xh, .ref (axt 0), .ref (axc 0)]))], zBoard cI axb bz_310, zBoard cI axn bn, [(xh, .inr (2, [.ref xa, .int (zI hnz_310)]))], [zRefs cB xa (some (v0_310 0)) (some (v1_310 0)) (some (v2_310 0)) (some (v3_310 0))], zBoard cI v0_310 e0_310, zBoard cI v1_310 e1_310, zBoard cI v2_310 e2_310, zBoard cI v3_310 e3_310, zText cI axt t, zCont cI axc cz_310, zMod2 cI am (mm_beh_ (mm_mov_ (mm_hold_ (mm_nb_ (mm_brk_ (mm_row_ (mm_out_ (mm_hl_ (mm_his_ (mm_tri_ (mm_kept_ (mm_all_ bm (zall_319)) (zkept_319)) (ztri_319)) (zhis_319)) (zhl_319)) (zout_319)) (zrow_319)) (zbrk_319)) (znb_319)) (zhold_319)) (zmov_319)) (zbeh_319))] H locs := hW.pick [1, 2, 3, 4, 5, 6, 7, 8, 9, 10, 11, 0] rfl (show ([1, 2, 3, 4, 5, 6, 7, 8, 9, 10, 11, 0] : List Nat).isPerm (List.range 12) = true by decide +kernel)
  refine W.eq (g2 := F0 m 322 ls [.int (zI rr_319), .int (zI rr_310)]) rfl ?_
  obtain ⟨S3, hs3, hq1, hq2, hq3⟩ := hh_319
  rw [← hL2] at hq1
  obtain ⟨hre, hSe, hhe⟩ := menR_det hnd hp1 hq1
  subst hSe
  subst hhe
  refine z_same (tgt := 734) hx hb dL_law_322 (by decide) (by exact hre) ?_
  exact KK xk hnz_310 bz_310 bn v0_310 v1_310 v2_310 v3_310 e0_310 e1_310 e2_310 e3_310 t cz_310 ((mm_beh_ (mm_mov_ (mm_hold_ (mm_nb_ (mm_brk_ (mm_row_ (mm_out_ (mm_hl_ (mm_his_ (mm_tri_ (mm_kept_ (mm_all_ bm (zall_319)) (zkept_319)) (ztri_319)) (zhis_319)) (zhl_319)) (zout_319)) (zrow_319)) (zbrk_319)) (znb_319)) (zhold_319)) (zmov_319)) (zbeh_319))) S2 hs2 Sn (⟨⟨hp2, hp3, hBn, hTk⟩, ⟨hq2, hq3⟩, htk, hsn, hTm, htl, htx⟩) _ _ hW ls hl

set_option maxHeartbeats 8000000 in
set_option maxRecDepth 100000 in
theorem lwc_327 {p : Program} {l : Launch} {e : Env} {s : State} {m : MethodId} {below : List Frame} {meth : Method} {c : Code} {Q : State → Prop} {D : va_G} {cI cB : ClassId} {A : Nat → Prop} {sb L : Nat} {ys : Nat → Int} {x : Nat} {axb axn : Nat → Nat} {xh : Nat} {axt axc : Nat → Nat} {xa : Nat} {am : Nat → Nat} (hS : CallFix p m c cL_law 4 s #[Value.ref sb] wsL_law RL) (hK : ZK D cI cB s) (hA : ∀ q, s.heap.size ≤ q → A q) (hL : L ≤ 2048) (hX : va_X sb L (fun j => zI (ys j)) s s.heap) (hbl : sb < s.heap.size) (hbA : ¬ A sb) (hys : ∀ j, R32 (ys j)) {i : Int} (hi : 0 ≤ i ∧ i + 4 ≤ (L : Int)) (KK : ∀ (xk hn : Int) (b bn : zBS) (u0 u1 u2 u3 : Nat → Nat) (d0 d1 d2 d3 : zBS) (t : zTS) (cn : zCS) (bm : zM2) (S : zSt) (hs : List zSt) (Sn : zSt), lwR xk hn b bn t d0 d1 d2 d3 bm S hs Sn → ∀ (H : Heap) (locs : List Loc), zW D A s.heap [[(x, .inr (4, [.ref (axb 0), .ref (axn 0), .int (zI xk), .ref xh, .ref (axt 0), .ref (axc 0)]))], zBoard cI axb b, zBoard cI axn bn, [(xh, .inr (2, [.ref xa, .int (zI hn)]))], [zRefs cB xa (some (u0 0)) (some (u1 0)) (some (u2 0)) (some (u3 0))], zBoard cI u0 d0, zBoard cI u1 d1, zBoard cI u2 d2, zBoard cI u3 d3, zText cI axt t, zCont cI axc cn, zMod2 cI am bm] H locs → ∀ (ls : Array Slot), lv_has ls 4 [(0, .ref sb), (1, .ref x), (2, .ref (am 0)), (3, .int (zI i))] → W p l e room_1 s m #[Value.ref sb] below meth c H locs 73 4564 Q (F0 m 734 ls [])) {xk hn : Int} {b bn : zBS} {u0 u1 u2 u3 : Nat → Nat} {d0 d1 d2 d3 : zBS} {t : zTS} {cn : zCS} {bm : zM2} {S : zSt} {hs : List zSt} {Sn : zSt} : lwR xk hn b bn t d0 d1 d2 d3 bm S hs Sn → ∀ (H : Heap) (locs : List Loc), zW D A s.heap [[(x, .inr (4, [.ref (axb 0), .ref (axn 0), .int (zI xk), .ref xh, .ref (axt 0), .ref (axc 0)]))], zBoard cI axb b, zBoard cI axn bn, [(xh, .inr (2, [.ref xa, .int (zI hn)]))], [zRefs cB xa (some (u0 0)) (some (u1 0)) (some (u2 0)) (some (u3 0))], zBoard cI u0 d0, zBoard cI u1 d1, zBoard cI u2 d2, zBoard cI u3 d3, zText cI axt t, zCont cI axc cn, zMod2 cI am bm] H locs → ∀ (ls : Array Slot), lv_has ls 4 [(0, .ref sb), (1, .ref x), (2, .ref (am 0)), (3, .int (zI i))] → W p l e room_1 s m #[Value.ref sb] below meth c H locs 73 4564 Q (F0 m 327 ls []) := by
  have hx := hS.1
  have hb := hS.2.1
  have hown := hS.2.2.2.1
  have hts := hS.2.2.2.2
  intro hR H locs hW ls hl
  obtain ⟨⟨hBb, hHB, hBn, hTk⟩, ⟨hMr, hMh⟩, htk, hsn, hTm, htl, htx⟩ := id hR
  obtain ⟨L9, hL1, hL2⟩ := id hMr
  have hnd := RBS_nd hBb
  have hy1 := hys (i + 1).toNat
  have hy2 := hys (i + 2).toNat
  have hy3 := hys (i + 3).toNat
  refine lv_aload_n hx hb dL_law_327 rfl (lv_at hl 1 rfl) ?_
  refine lv_aload_n hx hb dL_law_328 rfl (lv_at hl 0 rfl) ?_
  refine lv_iload_n hx hb dL_law_329 rfl (lv_at hl 3 rfl) ?_
  refine lv_iconst (v := zI (1)) hx hb dL_law_330 rfl ?_
  refine z_iadd hx hb dL_law_331 ?_
  refine z_sld hx hb hX hbl hbA hW hL (i := i + 1) (by omega) dL_law_332 ?_
  refine z_i2c hx hb dL_law_333 ?_
  refine z_callV (r := (RX4, TX4, 6)) (As := [.int (zI (zchar (ys (i + 1).toNat)))]) (rest := []) hS hK hA hW hl.1 [0, 9] [1, 2, 3, 4, 5, 6, 7, 8, 10, 11] (kX4_type l D cI cB x axb axn xk xh axt axc t (zchar (ys (i + 1).toNat)) hTk (zchar_rg (ys (i + 1).toNat))) (cwV 1 hts gL_law_X4_type rfl rfl rfl (by decide +kernel) ⟨Nat.le_of_ble_eq_true rfl, Nat.le_of_ble_eq_true rfl⟩) (rfl : vwCl[4]? = some (RX4, TX4, 6)) (q0 := 0) rfl dL_law_334 rfl rfl rfl (show ([0, 9] ++ [1, 2, 3, 4, 5, 6, 7, 8, 10, 11] : List Nat).isPerm (List.range 12) = true by decide +kernel) rfl (Nat.le_of_ble_eq_true rfl) ⟨Nat.le_of_ble_eq_true rfl, Nat.le_of_ble_eq_true rfl⟩ (fun v9 w9 H locs hq hW => ?_)
  obtain ⟨rr_334, tz_334, rfl, rfl, hh_334⟩ := hq
  have hW : zW D A s.heap [[(x, .inr (4, [.ref (axb 0), .ref (axn 0), .int (zI xk), .ref xh, .ref (axt 0), .ref (axc 0)]))], zText cI axt tz_334, zBoard cI axb b, zBoard cI axn bn, [(xh, .inr (2, [.ref xa, .int (zI hn)]))], [zRefs cB xa (some (u0 0)) (some (u1 0)) (some (u2 0)) (some (u3 0))], zBoard cI u0 d0, zBoard cI u1 d1, zBoard cI u2 d2, zBoard cI u3 d3, zCont cI axc cn, zMod2 cI am bm] H locs := hW
  have hW : zW D A s.heap [[(x, .inr (4, [.ref (axb 0), .ref (axn 0), .int (zI xk), .ref xh, .ref (axt 0), .ref (axc 0)]))], zBoard cI axb b, zBoard cI axn bn, [(xh, .inr (2, [.ref xa, .int (zI hn)]))], [zRefs cB xa (some (u0 0)) (some (u1 0)) (some (u2 0)) (some (u3 0))], zBoard cI u0 d0, zBoard cI u1 d1, zBoard cI u2 d2, zBoard cI u3 d3, zText cI axt tz_334, zCont cI axc cn, zMod2 cI am bm] H locs := hW.pick [0, 2, 3, 4, 5, 6, 7, 8, 9, 1, 10, 11] rfl (show ([0, 2, 3, 4, 5, 6, 7, 8, 9, 1, 10, 11] : List Nat).isPerm (List.range 12) = true by decide +kernel)
  refine W.eq (g2 := F0 m 337 ls [.int (zI rr_334)]) rfl ?_
  refine lv_aload_n hx hb dL_law_337 rfl (lv_at hl 2 rfl) ?_
  refine lv_aload_n hx hb dL_law_338 rfl (lv_at hl 0 rfl) ?_
  refine lv_iload_n hx hb dL_law_339 rfl (lv_at hl 3 rfl) ?_
  refine lv_iconst (v := zI (1)) hx hb dL_law_340 rfl ?_
  refine z_iadd hx hb dL_law_341 ?_
  refine z_sld hx hb hX hbl hbA hW hL (i := i + 1) (by omega) dL_law_342 ?_
  refine z_i2c hx hb dL_law_343 ?_
  refine z_callV (r := (RX5, TX5, 18)) (As := [.int (zI (zchar (ys (i + 1).toNat)))]) (rest := [.int (zI rr_334)]) hS hK hA hW hl.1 [11] [0, 1, 2, 3, 4, 5, 6, 7, 8, 9, 10] (kX5_type l D cI cB am bm (zchar (ys (i + 1).toNat)) hTm (zchar_rg (ys (i + 1).toNat))) (cwV 1 hts gL_law_X5_type rfl rfl rfl (by decide +kernel) ⟨Nat.le_of_ble_eq_true rfl, Nat.le_of_ble_eq_true rfl⟩) (rfl : vwCl[5]? = some (RX5, TX5, 18)) (q0 := 59) rfl dL_law_344 rfl rfl rfl (show ([11] ++ [0, 1, 2, 3, 4, 5, 6, 7, 8, 9, 10] : List Nat).isPerm (List.range 12) = true by decide +kernel) rfl (Nat.le_of_ble_eq_true rfl) ⟨Nat.le_of_ble_eq_true rfl, Nat.le_of_ble_eq_true rfl⟩ (fun v9 w9 H locs hq hW => ?_)
  obtain ⟨rr_344, ztxt_344, ztl_344, rfl, rfl, hh_344⟩ := hq
  have hW : zW D A s.heap [zMod2 cI am (mm_tl_ (mm_txt_ bm (ztxt_344)) (ztl_344)), [(x, .inr (4, [.ref (axb 0), .ref (axn 0), .int (zI xk), .ref xh, .ref (axt 0), .ref (axc 0)]))], zBoard cI axb b, zBoard cI axn bn, [(xh, .inr (2, [.ref xa, .int (zI hn)]))], [zRefs cB xa (some (u0 0)) (some (u1 0)) (some (u2 0)) (some (u3 0))], zBoard cI u0 d0, zBoard cI u1 d1, zBoard cI u2 d2, zBoard cI u3 d3, zText cI axt tz_334, zCont cI axc cn] H locs := hW
  have hW : zW D A s.heap [[(x, .inr (4, [.ref (axb 0), .ref (axn 0), .int (zI xk), .ref xh, .ref (axt 0), .ref (axc 0)]))], zBoard cI axb b, zBoard cI axn bn, [(xh, .inr (2, [.ref xa, .int (zI hn)]))], [zRefs cB xa (some (u0 0)) (some (u1 0)) (some (u2 0)) (some (u3 0))], zBoard cI u0 d0, zBoard cI u1 d1, zBoard cI u2 d2, zBoard cI u3 d3, zText cI axt tz_334, zCont cI axc cn, zMod2 cI am (mm_tl_ (mm_txt_ bm (ztxt_344)) (ztl_344))] H locs := hW.pick [1, 2, 3, 4, 5, 6, 7, 8, 9, 10, 11, 0] rfl (show ([1, 2, 3, 4, 5, 6, 7, 8, 9, 10, 11, 0] : List Nat).isPerm (List.range 12) = true by decide +kernel)
  refine W.eq (g2 := F0 m 347 ls [.int (zI rr_344), .int (zI rr_334)]) rfl ?_
  obtain ⟨hre, hT2, hM2, hl2, hx2⟩ := typ_same hTk hTm htl htx (zchar_rg (ys (i + 1).toNat)) hh_334 hh_344
  refine z_same (tgt := 734) hx hb dL_law_347 (by decide) (by exact hre) ?_
  exact KK xk hn b bn u0 u1 u2 u3 d0 d1 d2 d3 tz_334 cn ((mm_tl_ (mm_txt_ bm (ztxt_344)) (ztl_344))) S hs Sn (⟨⟨hBb, hHB, hBn, hT2⟩, ⟨hMr, hMh⟩, htk, hsn, hM2, hl2, hx2⟩) _ _ hW ls hl
