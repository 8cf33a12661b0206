set_option maxHeartbeats 8000000 in
set_option maxRecDepth 100000 in
theorem lwc_136 {p : Program} {l : Launch} {e : Env} {s : State} {m : MethodId} {below : List Frame} {meth : Method} {c : Code} {Q : State → Prop} {D : va_G} {cI cB : ClassId} {A : Nat → Prop} {sb L : Nat} {ys : Nat → Int} {x : Nat} {axb axn : Nat → Nat} {xh : Nat} {axt axc : Nat → Nat} {xa : Nat} {am : Nat → Nat} (hS : CallFix p m c cL_law 4 s #[Value.ref sb] wsL_law RL) (hK : ZK D cI cB s) (hA : ∀ q, s.heap.size ≤ q → A q) (hL : L ≤ 2048) (hX : va_X sb L (fun j => zI (ys j)) s s.heap) (hbl : sb < s.heap.size) (hbA : ¬ A sb) (hys : ∀ j, R32 (ys j)) {i : Int} (hi : 0 ≤ i ∧ i + 4 ≤ (L : Int)) (KK : ∀ (xk hn : Int) (b bn : zBS) (u0 u1 u2 u3 : Nat → Nat) (d0 d1 d2 d3 : zBS) (t : zTS) (cn : zCS) (bm : zM2) (S : zSt) (hs : List zSt) (Sn : zSt), lwR xk hn b bn t d0 d1 d2 d3 bm S hs Sn → ∀ (H : Heap) (locs : List Loc), zW D A s.heap [[(x, .inr (4, [.ref (axb 0), .ref (axn 0), .int (zI xk), .ref xh, .ref (axt 0), .ref (axc 0)]))], zBoard cI axb b, zBoard cI axn bn, [(xh, .inr (2, [.ref xa, .int (zI hn)]))], [zRefs cB xa (some (u0 0)) (some (u1 0)) (some (u2 0)) (some (u3 0))], zBoard cI u0 d0, zBoard cI u1 d1, zBoard cI u2 d2, zBoard cI u3 d3, zText cI axt t, zCont cI axc cn, zMod2 cI am bm] H locs → ∀ (ls : Array Slot), lv_has ls 4 [(0, .ref sb), (1, .ref x), (2, .ref (am 0)), (3, .int (zI i))] → W p l e room_1 s m #[Value.ref sb] below meth c H locs 73 4564 Q (F0 m 734 ls [])) {xk hn : Int} {b bn : zBS} {u0 u1 u2 u3 : Nat → Nat} {d0 d1 d2 d3 : zBS} {t : zTS} {cn : zCS} {bm : zM2} {S : zSt} {hs : List zSt} {Sn : zSt} : lwR xk hn b bn t d0 d1 d2 d3 bm S hs Sn → ∀ (H : Heap) (locs : List Loc), zW D A s.heap [[(x, .inr (4, [.ref (axb 0), .ref (axn 0), .int (zI xk), .ref xh, .ref (axt 0), .ref (axc 0)]))], zBoard cI axb b, zBoard cI axn bn, [(xh, .inr (2, [.ref xa, .int (zI hn)]))], [zRefs cB xa (some (u0 0)) (some (u1 0)) (some (u2 0)) (some (u3 0))], zBoard cI u0 d0, zBoard cI u1 d1, zBoard cI u2 d2, zBoard cI u3 d3, zText cI axt t, zCont cI axc cn, zMod2 cI am bm] H locs → ∀ (ls : Array Slot), lv_has ls 4 [(0, .ref sb), (1, .ref x), (2, .ref (am 0)), (3, .int (zI i))] → W p l e room_1 s m #[Value.ref sb] below meth c H locs 73 4564 Q (F0 m 136 ls []) := by
  have hx := hS.1
  have hb := hS.2.1
  have hown := hS.2.2.2.1
  have hts := hS.2.2.2.2
  intro hR H locs hW ls hl
  obtain ⟨⟨hBb, hHB, hBn, hTk⟩, ⟨hMr, hMh⟩, htk, hsn, hTm, htl, htx⟩ := id hR
  obtain ⟨L9, hL1, hL2⟩ := id hMr
  have hnd := RBS_nd hBb
  have hy1 := hys (i + 1).toNat
  have hy2 := hys (i + 2).toNat
  have hy3 := hys (i + 3).toNat
  refine lv_aload_n hx hb dL_law_136 rfl (lv_at hl 1 rfl) ?_
  refine z_callV (r := (RX4, TX4, 6)) (As := []) (rest := []) hS hK hA hW hl.1 [0, 1, 3, 4, 5, 6, 7, 8, 9] [2, 10, 11] (kX4_putPanel l D cI cB x axb axn xk xh axt axc b xa hn u0 u1 u2 u3 d0 d1 d2 d3 t S.1 S.2.1 S.2.2 hs hBb hHB hTk) (cwV 0 hts gL_law_X4_putPanel rfl rfl rfl (by decide +kernel) ⟨Nat.le_of_ble_eq_true rfl, Nat.le_of_ble_eq_true rfl⟩) (rfl : vwCl[4]? = some (RX4, TX4, 6)) (q0 := 0) rfl dL_law_137 rfl rfl rfl (show ([0, 1, 3, 4, 5, 6, 7, 8, 9] ++ [2, 10, 11] : List Nat).isPerm (List.range 12) = true by decide +kernel) rfl (Nat.le_of_ble_eq_true rfl) ⟨Nat.le_of_ble_eq_true rfl, Nat.le_of_ble_eq_true rfl⟩ (fun v9 w9 H locs hq hW => ?_)
  obtain ⟨rr_137, bz_137, hnz_137, v0_137, v1_137, v2_137, v3_137, e0_137, e1_137, e2_137, e3_137, tz_137, rfl, rfl, hh_137⟩ := hq
  have hW : zW D A s.heap [[(x, .inr (4, [.ref (axb 0), .ref (axn 0), .int (zI xk), .ref xh, .ref (axt 0), .ref (axc 0)]))], zBoard cI axb bz_137, [(xh, .inr (2, [.ref xa, .int (zI hnz_137)]))], [zRefs cB xa (some (v0_137 0)) (some (v1_137 0)) (some (v2_137 0)) (some (v3_137 0))], zBoard cI v0_137 e0_137, zBoard cI v1_137 e1_137, zBoard cI v2_137 e2_137, zBoard cI v3_137 e3_137, zText cI axt tz_137, zBoard cI axn bn, zCont cI axc cn, zMod2 cI am bm] H locs := hW
  have hW : zW D A s.heap [[(x, .inr (4, [.ref (axb 0), .ref (axn 0), .int (zI xk), .ref xh, .ref (axt 0), .ref (axc 0)]))], zBoard cI axb bz_137, zBoard cI axn bn, [(xh, .inr (2, [.ref xa, .int (zI hnz_137)]))], [zRefs cB xa (some (v0_137 0)) (some (v1_137 0)) (some (v2_137 0)) (some (v3_137 0))], zBoard cI v0_137 e0_137, zBoard cI v1_137 e1_137, zBoard cI v2_137 e2_137, zBoard cI v3_137 e3_137, zText cI axt tz_137, zCont cI axc cn, zMod2 cI am bm] H locs := hW.pick [0, 1, 9, 2, 3, 4, 5, 6, 7, 8, 10, 11] rfl (show ([0, 1, 9, 2, 3, 4, 5, 6, 7, 8, 10, 11] : List Nat).isPerm (List.range 12) = true by decide +kernel)
  refine W.eq (g2 := F0 m 140 ls [.int (zI rr_137)]) rfl ?_
  obtain ⟨S2, hs2, hp1, hp2, hp3, hp4, hp5⟩ := hh_137
  refine lv_aload_n hx hb dL_law_140 rfl (lv_at hl 2 rfl) ?_
  refine z_callV (r := (RX5, TX5, 18)) (As := []) (rest := [.int (zI rr_137)]) hS hK hA hW hl.1 [11] [0, 1, 2, 3, 4, 5, 6, 7, 8, 9, 10] (kX5_putPanel l D cI cB am bm L9 S.2.1 S.2.2 hs hL1 hMh hTm) (cwV 0 hts gL_law_X5_putPanel rfl rfl rfl (by decide +kernel) ⟨Nat.le_of_ble_eq_true rfl, Nat.le_of_ble_eq_true rfl⟩) (rfl : vwCl[5]? = some (RX5, TX5, 18)) (q0 := 59) rfl dL_law_141 rfl rfl rfl (show ([11] ++ [0, 1, 2, 3, 4, 5, 6, 7, 8, 9, 10] : List Nat).isPerm (List.range 12) = true by decide +kernel) rfl (Nat.le_of_ble_eq_true rfl) ⟨Nat.le_of_ble_eq_true rfl, Nat.le_of_ble_eq_true rfl⟩ (fun v9 w9 H locs hq hW => ?_)
  obtain ⟨rr_141, zall_141, zkept_141, zhis_141, zhl_141, zout_141, zspot_141, zread_141, rfl, rfl, hh_141⟩ := hq
  have hW : zW D A s.heap [zMod2 cI am (mm_read_ (mm_spot_ (mm_out_ (mm_hl_ (mm_his_ (mm_kept_ (mm_all_ bm (zall_141)) (zkept_141)) (zhis_141)) (zhl_141)) (zout_141)) (zspot_141)) (zread_141)), [(x, .inr (4, [.ref (axb 0), .ref (axn 0), .int (zI xk), .ref xh, .ref (axt 0), .ref (axc 0)]))], zBoard cI axb bz_137, zBoard cI axn bn, [(xh, .inr (2, [.ref xa, .int (zI hnz_137)]))], [zRefs cB xa (some (v0_137 0)) (some (v1_137 0)) (some (v2_137 0)) (some (v3_137 0))], zBoard cI v0_137 e0_137, zBoard cI v1_137 e1_137, zBoard cI v2_137 e2_137, zBoard cI v3_137 e3_137, zText cI axt tz_137, zCont cI axc cn] H locs := hW
  have hW : zW D A s.heap [[(x, .inr (4, [.ref (axb 0), .ref (axn 0), .int (zI xk), .ref xh, .ref (axt 0), .ref (axc 0)]))], zBoard cI axb bz_137, zBoard cI axn bn, [(xh, .inr (2, [.ref xa, .int (zI hnz_137)]))], [zRefs cB xa (some (v0_137 0)) (some (v1_137 0)) (some (v2_137 0)) (some (v3_137 0))], zBoard cI v0_137 e0_137, zBoard cI v1_137 e1_137, zBoard cI v2_137 e2_137, zBoard cI v3_137 e3_137, zText cI axt tz_137, zCont cI axc cn, zMod2 cI am (mm_read_ (mm_spot_ (mm_out_ (mm_hl_ (mm_his_ (mm_kept_ (mm_all_ bm (zall_141)) (zkept_141)) (zhis_141)) (zhl_141)) (zout_141)) (zspot_141)) (zread_141))] H locs := hW.pick [1, 2, 3, 4, 5, 6, 7, 8, 9, 10, 11, 0] rfl (show ([1, 2, 3, 4, 5, 6, 7, 8, 9, 10, 11, 0] : List Nat).isPerm (List.range 12) = true by decide +kernel)
  refine W.eq (g2 := F0 m 144 ls [.int (zI rr_141), .int (zI rr_137)]) rfl ?_
  obtain ⟨S3, hs3, hq1, hq2, hq3⟩ := hh_141
  rw [← hL2] at hq1
  rw [← prs_same htl htx] at hq1
  obtain ⟨hre, hSe, hhe⟩ := putR_det hp1 hq1
  subst hSe
  subst hhe
  refine z_same (tgt := 734) hx hb dL_law_144 (by decide) (by exact hre) ?_
  exact KK xk hnz_137 bz_137 bn v0_137 v1_137 v2_137 v3_137 e0_137 e1_137 e2_137 e3_137 tz_137 cn ((mm_read_ (mm_spot_ (mm_out_ (mm_hl_ (mm_his_ (mm_kept_ (mm_all_ bm (zall_141)) (zkept_141)) (zhis_141)) (zhl_141)) (zout_141)) (zspot_141)) (zread_141))) S2 hs2 Sn (⟨⟨hp2, hp3, hBn, hp5⟩, ⟨hq2, hq3⟩, htk, hsn, hTm, hp4.2.trans htl, by rw [hp4.1, hp4.2]; exact htx⟩) _ _ hW ls hl

set_option maxHeartbeats 8000000 in
set_option maxRecDepth 100000 in
theorem lwc_149 {p : Program} {l : Launch} {e : Env} {s : State} {m : MethodId} {below : List Frame} {meth : Method} {c : Code} {Q : State → Prop} {D : va_G} {cI cB : ClassId} {A : Nat → Prop} {sb L : Nat} {ys : Nat → Int} {x : Nat} {axb axn : Nat → Nat} {xh : Nat} {axt axc : Nat → Nat} {xa : Nat} {am : Nat → Nat} (hS : CallFix p m c cL_law 4 s #[Value.ref sb] wsL_law RL) (hK : ZK D cI cB s) (hA : ∀ q, s.heap.size ≤ q → A q) (hL : L ≤ 2048) (hX : va_X sb L (fun j => zI (ys j)) s s.heap) (hbl : sb < s.heap.size) (hbA : ¬ A sb) (hys : ∀ j, R32 (ys j)) {i : Int} (hi : 0 ≤ i ∧ i + 4 ≤ (L : Int)) (KK : ∀ (xk hn : Int) (b bn : zBS) (u0 u1 u2 u3 : Nat → Nat) (d0 d1 d2 d3 : zBS) (t : zTS) (cn : zCS) (bm : zM2) (S : zSt) (hs : List zSt) (Sn : zSt), lwR xk hn b bn t d0 d1 d2 d3 bm S hs Sn → ∀ (H : Heap) (locs : List Loc), zW D A s.heap [[(x, .inr (4, [.ref (axb 0), .ref (axn 0), .int (zI xk), .ref xh, .ref (axt 0), .ref (axc 0)]))], zBoard cI axb b, zBoard cI axn bn, [(xh, .inr (2, [.ref xa, .int (zI hn)]))], [zRefs cB xa (some (u0 0)) (some (u1 0)) (some (u2 0)) (some (u3 0))], zBoard cI u0 d0, zBoard cI u1 d1, zBoard cI u2 d2, zBoard cI u3 d3, zText cI axt t, zCont cI axc cn, zMod2 cI am bm] H locs → ∀ (ls : Array Slot), lv_has ls 4 [(0, .ref sb), (1, .ref x), (2, .ref (am 0)), (3, .int (zI i))] → W p l e room_1 s m #[Value.ref sb] below meth c H locs 73 4564 Q (F0 m 734 ls [])) {xk hn : Int} {b bn : zBS} {u0 u1 u2 u3 : Nat → Nat} {d0 d1 d2 d3 : zBS} {t : zTS} {cn : zCS} {bm : zM2} {S : zSt} {hs : List zSt} {Sn : zSt} : lwR xk hn b bn t d0 d1 d2 d3 bm S hs Sn → ∀ (H : Heap) (locs : List Loc), zW D A s.heap [[(x, .inr (4, [.ref (axb 0), .ref (axn 0), .int (zI xk), .ref xh, .ref (axt 0), .ref (axc 0)]))], zBoard cI axb b, zBoard cI axn bn, [(xh, .inr (2, [.ref xa, .int (zI hn)]))], [zRefs cB xa (some (u0 0)) (some (u1 0)) (some (u2 0)) (some (u3 0))], zBoard cI u0 d0, zBoard cI u1 d1, zBoard cI u2 d2, zBoard cI u3 d3, zText cI axt t, zCont cI axc cn, zMod2 cI am bm] H locs → ∀ (ls : Array Slot), lv_has ls 4 [(0, .ref sb), (1, .ref x), (2, .ref (am 0)), (3, .int (zI i))] → W p l e room_1 s m #[Value.ref sb] below meth c H locs 73 4564 Q (F0 m 149 ls []) := by
  have hx := hS.1
  have hb := hS.2.1
  have hown := hS.2.2.2.1
  have hts := hS.2.2.2.2
  intro hR H locs hW ls hl
  obtain ⟨⟨hBb, hHB, hBn, hTk⟩, ⟨hMr, hMh⟩, htk, hsn, hTm, htl, htx⟩ := id hR
  obtain ⟨L9, hL1, hL2⟩ := id hMr
  have hnd := RBS_nd hBb
  have hy1 := hys (i + 1).toNat
  have hy2 := hys (i + 2).toNat
  have hy3 := hys (i + 3).toNat
  refine lv_aload_n hx hb dL_law_149 rfl (lv_at hl 1 rfl) ?_
  refine lv_aload_n hx hb dL_law_150 rfl (lv_at hl 0 rfl) ?_
  refine lv_iload_n hx hb dL_law_151 rfl (lv_at hl 3 rfl) ?_
  refine lv_iconst (v := zI (1)) hx hb dL_law_152 rfl ?_
  refine z_iadd hx hb dL_law_153 ?_
  refine z_sld hx hb hX hbl hbA hW hL (i := i + 1) (by omega) dL_law_154 ?_
  refine z_callV (r := (RX4, TX4, 6)) (As := [.int (zI (ys (i + 1).toNat))]) (rest := []) hS hK hA hW hl.1 [0, 1, 3, 4, 5, 6, 7, 8, 9] [2, 10, 11] (kX4_redraw l D cI cB x axb axn xk xh axt axc b xa hn u0 u1 u2 u3 d0 d1 d2 d3 t (ys (i + 1).toNat) S.1 S.2.1 S.2.2 hs hBb hHB hTk hy1) (cwV 1 hts gL_law_X4_redraw rfl rfl rfl (by decide +kernel) ⟨Nat.le_of_ble_eq_true rfl, Nat.le_of_ble_eq_true rfl⟩) (rfl : vwCl[4]? = some (RX4, TX4, 6)) (q0 := 0) rfl dL_law_155 rfl rfl rfl (show ([0, 1, 3, 4, 5, 6, 7, 8, 9] ++ [2, 10, 11] : List Nat).isPerm (List.range 12) = true by decide +kernel) rfl (Nat.le_of_ble_eq_true rfl) ⟨Nat.le_of_ble_eq_true rfl, Nat.le_of_ble_eq_true rfl⟩ (fun v9 w9 H locs hq hW => ?_)
  obtain ⟨rr_155, bz_155, hnz_155, v0_155, v1_155, v2_155, v3_155, e0_155, e1_155, e2_155, e3_155, tz_155, rfl, rfl, hh_155⟩ := hq
  have hW : zW D A s.heap [[(x, .inr (4, [.ref (axb 0), .ref (axn 0), .int (zI xk), .ref xh, .ref (axt 0), .ref (axc 0)]))], zBoard cI axb bz_155, [(xh, .inr (2, [.ref xa, .int (zI hnz_155)]))], [zRefs cB xa (some (v0_155 0)) (some (v1_155 0)) (some (v2_155 0)) (some (v3_155 0))], zBoard cI v0_155 e0_155, zBoard cI v1_155 e1_155, zBoard cI v2_155 e2_155, zBoard cI v3_155 e3_155, zText cI axt tz_155, zBoard cI axn bn, zCont cI axc cn, zMod2 cI am bm] H locs := hW
  have hW : zW D A s.heap [[(x, .inr (4, [.ref (axb 0), .ref (axn 0), .int (zI xk), .ref xh, .ref (axt 0), .ref (axc 0)]))], zBoard cI axb bz_155, zBoard cI axn bn, [(xh, .inr (2, [.ref xa, .int (zI hnz_155)]))], [zRefs cB xa (some (v0_155 0)) (some (v1_155 0)) (some (v2_155 0)) (some (v3_155 0))], zBoard cI v0_155 e0_155, zBoard cI v1_155 e1_155, zBoard cI v2_155 e2_155, zBoard cI v3_155 e3_155, zText cI axt tz_155, zCont cI axc cn, zMod2 cI am bm] H locs := hW.pick [0, 1, 9, 2, 3, 4, 5, 6, 7, 8, 10, 11] rfl (show ([0, 1, 9, 2, 3, 4, 5, 6, 7, 8, 10, 11] : List Nat).isPerm (List.range 12) = true by decide +kernel)
  refine W.eq (g2 := F0 m 158 ls [.int (zI rr_155)]) rfl ?_
  obtain ⟨S2, hs2, hp1, hp2, hp3, hp4, hp5⟩ := hh_155
  refine lv_aload_n hx hb dL_law_158 rfl (lv_at hl 2 rfl) ?_
  refine lv_aload_n hx hb dL_law_159 rfl (lv_at hl 0 rfl) ?_
  refine lv_iload_n hx hb dL_law_160 rfl (lv_at hl 3 rfl) ?_
  refine lv_iconst (v := zI (1)) hx hb dL_law_161 rfl ?_
  refine z_iadd hx hb dL_law_162 ?_
  refine z_sld hx hb hX hbl hbA hW hL (i := i + 1) (by omega) dL_law_163 ?_
  refine z_callV (r := (RX5, TX5, 18)) (As := [.int (zI (ys (i + 1).toNat))]) (rest := [.int (zI rr_155)]) hS hK hA hW hl.1 [11] [0, 1, 2, 3, 4, 5, 6, 7, 8, 9, 10] (kX5_redraw l D cI cB am bm (ys (i + 1).toNat) L9 S.2.1 S.2.2 hs hL1 hMh hTm hy1) (cwV 1 hts gL_law_X5_redraw rfl rfl rfl (by decide +kernel) ⟨Nat.le_of_ble_eq_true rfl, Nat.le_of_ble_eq_true rfl⟩) (rfl : vwCl[5]? = some (RX5, TX5, 18)) (q0 := 59) rfl dL_law_164 rfl rfl rfl (show ([11] ++ [0, 1, 2, 3, 4, 5, 6, 7, 8, 9, 10] : List Nat).isPerm (List.range 12) = true by decide +kernel) rfl (Nat.le_of_ble_eq_true rfl) ⟨Nat.le_of_ble_eq_true rfl, Nat.le_of_ble_eq_true rfl⟩ (fun v9 w9 H locs hq hW => ?_)
  obtain ⟨rr_164, zall_164, zkept_164, zhis_164, zhl_164, zout_164, zspot_164, zread_164, rfl, rfl, hh_164⟩ := hq
  have hW : zW D A s.heap [zMod2 cI am (mm_read_ (mm_spot_ (mm_out_ (mm_hl_ (mm_his_ (mm_kept_ (mm_all_ bm (zall_164)) (zkept_164)) (zhis_164)) (zhl_164)) (zout_164)) (zspot_164)) (zread_164)), [(x, .inr (4, [.ref (axb 0), .ref (axn 0), .int (zI xk), .ref xh, .ref (axt 0), .ref (axc 0)]))], zBoard cI axb bz_155, zBoard cI axn bn, [(xh, .inr (2, [.ref xa, .int (zI hnz_155)]))], [zRefs cB xa (some (v0_155 0)) (some (v1_155 0)) (some (v2_155 0)) (some (v3_155 0))], zBoard cI v0_155 e0_155, zBoard cI v1_155 e1_155, zBoard cI v2_155 e2_155, zBoard cI v3_155 e3_155, zText cI axt tz_155, zCont cI axc cn] H locs := hW
  have hW : zW D A s.heap [[(x, .inr (4, [.ref (axb 0), .ref (axn 0), .int (zI xk), .ref xh, .ref (axt 0), .ref (axc 0)]))], zBoard cI axb bz_155, zBoard cI axn bn, [(xh, .inr (2, [.ref xa, .int (zI hnz_155)]))], [zRefs cB xa (some (v0_155 0)) (some (v1_155 0)) (some (v2_155 0)) (some (v3_155 0))], zBoard cI v0_155 e0_155, zBoard cI v1_155 e1_155, zBoard cI v2_155 e2_155, zBoard cI v3_155 e3_155, zText cI axt tz_155, zCont cI axc cn, zMod2 cI am (mm_read_ (mm_spot_ (mm_out_ (mm_hl_ (mm_his_ (mm_kept_ (mm_all_ bm (zall_164)) (zkept_164)) (zhis_164)) (zhl_164)) (zout_164)) (zspot_164)) (zread_164))] H locs := hW.pick [1, 2, 3, 4, 5, 6, 7, 8, 9, 10, 11, 0] rfl (show ([1, 2, 3, 4, 5, 6, 7, 8, 9, 10, 11, 0] : List Nat).isPerm (List.range 12) = true by decide +kernel)
  refine W.eq (g2 := F0 m 167 ls [.int (zI rr_164), .int (zI rr_155)]) rfl ?_
  obtain ⟨S3, hs3, hq1, hq2, hq3⟩ := hh_164
  rw [← hL2] at hq1
  rw [← prs_same htl htx] at hq1
  obtain ⟨hre, hSe, hhe⟩ := redR_det hnd hp1 hq1
  subst hSe
  subst hhe
  refine z_same (tgt := 734) hx hb dL_law_167 (by decide) (by exact hre) ?_
  exact KK xk hnz_155 bz_155 bn v0_155 v1_155 v2_155 v3_155 e0_155 e1_155 e2_155 e3_155 tz_155 cn ((mm_read_ (mm_spot_ (mm_out_ (mm_hl_ (mm_his_ (mm_kept_ (mm_all_ bm (zall_164)) (zkept_164)) (zhis_164)) (zhl_164)) (zout_164)) (zspot_164)) (zread_164))) S2 hs2 Sn (⟨⟨hp2, hp3, hBn, hp5⟩, ⟨hq2, hq3⟩, htk, hsn, hTm, hp4.2.trans htl, by rw [hp4.1, hp4.2]; exact htx⟩) _ _ hW ls hl

set_option maxHeartbeats 8000000 in
set_option maxRecDepth 100000 in
theorem lwc_172 {p : Program} {l : Launch} {e : Env} {s : State} {m : MethodId} {below : List Frame} {meth : Method} {c : Code} {Q : State → Prop} {D : va_G} {cI cB : ClassId} {A : Nat → Prop} {sb L : Nat} {ys : Nat → Int} {x : Nat} {axb axn : Nat → Nat} {xh : Nat} {axt axc : Nat → Nat} {xa : Nat} {am : Nat → Nat} (hS : CallFix p m c cL_law 4 s #[Value.ref sb] wsL_law RL) (hK : ZK D cI cB s) (hA : ∀ q, s.heap.size ≤ q → A q) (hL : L ≤ 2048) (hX : va_X sb L (fun j => zI (ys j)) s s.heap) (hbl : sb < s.heap.size) (hbA : ¬ A sb) (hys : ∀ j, R32 (ys j)) {i : Int} (hi : 0 ≤ i ∧ i + 4 ≤ (L : Int)) (KK : ∀ (xk hn : Int) (b bn : zBS) (u0 u1 u2 u3 : Nat → Nat) (d0 d1 d2 d3 : zBS) (t : zTS) (cn : zCS) (bm : zM2) (S : zSt) (hs : List zSt) (Sn : zSt), lwR xk hn b bn t d0 d1 d2 d3 bm S hs Sn → ∀ (H : Heap) (locs : List Loc), zW D A s.heap [[(x, .inr (4, [.ref (axb 0), .ref (axn 0), .int (zI xk), .ref xh, .ref (axt 0), .ref (axc 0)]))], zBoard cI axb b, zBoard cI axn bn, [(xh, .inr (2, [.ref xa, .int (zI hn)]))], [zRefs cB xa (some (u0 0)) (some (u1 0)) (some (u2 0)) (some (u3 0))], zBoard cI u0 d0, zBoard cI u1 d1, zBoard cI u2 d2, zBoard cI u3 d3, zText cI axt t, zCont cI axc cn, zMod2 cI am bm] H locs → ∀ (ls : Array Slot), lv_has ls 4 [(0, .ref sb), (1, .ref x), (2, .ref (am 0)), (3, .int (zI i))] → W p l e room_1 s m #[Value.ref sb] below meth c H locs 73 4564 Q (F0 m 734 ls [])) {xk hn : Int} {b bn : zBS} {u0 u1 u2 u3 : Nat → Nat} {d0 d1 d2 d3 : zBS} {t : zTS} {cn : zCS} {bm : zM2} {S : zSt} {hs : List zSt} {Sn : zSt} : lwR xk hn b bn t d0 d1 d2 d3 bm S hs Sn → ∀ (H : Heap) (locs : List Loc), zW D A s.heap [[(x, .inr (4, [.ref (axb 0), .ref (axn 0), .int (zI xk), .ref xh, .ref (axt 0), .ref (axc 0)]))], zBoard cI axb b, zBoard cI axn bn, [(xh, .inr (2, [.ref xa, .int (zI hn)]))], [zRefs cB xa (some (u0 0)) (some (u1 0)) (some (u2 0)) (some (u3 0))], zBoard cI u0 d0, zBoard cI u1 d1, zBoard cI u2 d2, zBoard cI u3 d3, zText cI axt t, zCont cI axc cn, zMod2 cI am bm] H locs → ∀ (ls : Array Slot), lv_has ls 4 [(0, .ref sb), (1, .ref x), (2, .ref (am 0)), (3, .int (zI i))] → W p l e room_1 s m #[Value.ref sb] below meth c H locs 73 4564 Q (F0 m 172 ls []) := by
  have hx := hS.1
  have hb := hS.2.1
  have hown := hS.2.2.2.1
  have hts := hS.2.2.2.2
  intro hR H locs hW ls hl
  obtain ⟨⟨hBb, hHB, hBn, hTk⟩, ⟨hMr, hMh⟩, htk, hsn, hTm, htl, htx⟩ := id hR
  obtain ⟨L9, hL1, hL2⟩ := id hMr
  have hnd := RBS_nd hBb
  have hy1 := hys (i + 1).toNat
  have hy2 := hys (i + 2).toNat
  have hy3 := hys (i + 3).toNat
  refine lv_aload_n hx hb dL_law_172 rfl (lv_at hl 1 rfl) ?_
  refine lv_aload_n hx hb dL_law_173 rfl (lv_at hl 0 rfl) ?_
  refine lv_iload_n hx hb dL_law_174 rfl (lv_at hl 3 rfl) ?_
  refine lv_iconst (v := zI (1)) hx hb dL_law_175 rfl ?_
  refine z_iadd hx hb dL_law_176 ?_
  refine z_sld hx hb hX hbl hbA hW hL (i := i + 1) (by omega) dL_law_177 ?_
  refine z_callV (r := (RX4, TX4, 6)) (As := [.int (zI (ys (i + 1).toNat))]) (rest := []) hS hK hA hW hl.1 [0, 1, 3, 4, 5, 6, 7, 8] [2, 9, 10, 11] (kX4_takeAway l D cI cB x axb axn xk xh axt axc b xa hn u0 u1 u2 u3 d0 d1 d2 d3 (ys (i + 1).toNat) S.1 S.2.1 S.2.2 hs hBb hHB hy1) (cwV 1 hts gL_law_X4_takeAway rfl rfl rfl (by decide +kernel) ⟨Nat.le_of_ble_eq_true rfl, Nat.le_of_ble_eq_true rfl⟩) (rfl : vwCl[4]? = some (RX4, TX4, 6)) (q0 := 0) rfl dL_law_178 rfl rfl rfl (show ([0, 1, 3, 4, 5, 6, 7, 8] ++ [2, 9, 10, 11] : List Nat).isPerm (List.range 12) = true by decide +kernel) rfl (Nat.le_of_ble_eq_true rfl) ⟨Nat.le_of_ble_eq_true rfl, Nat.le_of_ble_eq_true rfl⟩ (fun v9 w9 H locs hq hW => ?_)
  obtain ⟨rr_178, bz_178, hnz_178, v0_178, v1_178, v2_178, v3_178, e0_178, e1_178, e2_178, e3_178, rfl, rfl, hh_178⟩ := hq
  have hW : zW D A s.heap [[(x, .inr (4, [.ref (axb 0), .ref (axn 0), .int (zI xk), .ref xh, .ref (axt 0), .ref (axc 0)]))], zBoard cI axb bz_178, [(xh, .inr (2, [.ref xa, .int (zI hnz_178)]))], [zRefs cB xa (some (v0_178 0)) (some (v1_178 0)) (some (v2_178 0)) (some (v3_178 0))], zBoard cI v0_178 e0_178, zBoard cI v1_178 e1_178, zBoard cI v2_178 e2_178, zBoard cI v3_178 e3_178, zBoard cI axn bn, zText cI axt t, zCont cI axc cn, zMod2 cI am bm] H locs := hW
  have hW : zW D A s.heap [[(x, .inr (4, [.ref (axb 0), .ref (axn 0), .int (zI xk), .ref xh, .ref (axt 0), .ref (axc 0)]))], zBoard cI axb bz_178, zBoard cI axn bn, [(xh, .inr (2, [.ref xa, .int (zI hnz_178)]))], [zRefs cB xa (some (v0_178 0)) (some (v1_178 0)) (some (v2_178 0)) (some (v3_178 0))], zBoard cI v0_178 e0_178, zBoard cI v1_178 e1_178, zBoard cI v2_178 e2_178, zBoard cI v3_178 e3_178, zText cI axt t, zCont cI axc cn, zMod2 cI am bm] H locs := hW.pick [0, 1, 8, 2, 3, 4, 5, 6, 7, 9, 10, 11] rfl (show ([0, 1, 8, 2, 3, 4, 5, 6, 7, 9, 10, 11] : List Nat).isPerm (List.range 12) = true by decide +kernel)
  refine W.eq (g2 := F0 m 181 ls [.int (zI rr_178)]) rfl ?_
  obtain ⟨S2, hs2, hp1, hp2, hp3⟩ := hh_178
  refine lv_aload_n hx hb dL_law_181 rfl (lv_at hl 2 rfl) ?_
  refine lv_aload_n hx hb dL_law_182 rfl (lv_at hl 0 rfl) ?_
  refine lv_iload_n hx hb dL_law_183 rfl (lv_at hl 3 rfl) ?_
  refine lv_iconst (v := zI (1)) hx hb dL_law_184 rfl ?_
  refine z_iadd hx hb dL_law_185 ?_
  refine z_sld hx hb hX hbl hbA hW hL (i := i + 1) (by omega) dL_law_186 ?_
  refine z_callV (r := (RX5, TX5, 18)) (As := [.int (zI (ys (i + 1).toNat))]) (rest := [.int (zI rr_178)]) hS hK hA hW hl.1 [11] [0, 1, 2, 3, 4, 5, 6, 7, 8, 9, 10] (kX5_takeAway l D cI cB am bm (ys (i + 1).toNat) L9 S.2.1 S.2.2 hs hL1 hMh hy1) (cwV 1 hts gL_law_X5_takeAway rfl rfl rfl (by decide +kernel) ⟨Nat.le_of_ble_eq_true rfl, Nat.le_of_ble_eq_true rfl⟩) (rfl : vwCl[5]? = some (RX5, TX5, 18)) (q0 := 59) rfl dL_law_187 rfl rfl rfl (show ([11] ++ [0, 1, 2, 3, 4, 5, 6, 7, 8, 9, 10] : List Nat).isPerm (List.range 12) = true by decide +kernel) rfl (Nat.le_of_ble_eq_true rfl) ⟨Nat.le_of_ble_eq_true rfl, Nat.le_of_ble_eq_true rfl⟩ (fun v9 w9 H locs hq hW => ?_)
  obtain ⟨rr_187, zall_187, zkept_187, zhis_187, zhl_187, zout_187, rfl, rfl, hh_187⟩ := hq
  have hW : zW D A s.heap [zMod2 cI am (mm_out_ (mm_hl_ (mm_his_ (mm_kept_ (mm_all_ bm (zall_187)) (zkept_187)) (zhis_187)) (zhl_187)) (zout_187)), [(x, .inr (4, [.ref (axb 0), .ref (axn 0), .int (zI xk), .ref xh, .ref (axt 0), .ref (axc 0)]))], zBoard cI axb bz_178, zBoard cI axn bn, [(xh, .inr (2, [.ref xa, .int (zI hnz_178)]))], [zRefs cB xa (some (v0_178 0)) (some (v1_178 0)) (some (v2_178 0)) (some (v3_178 0))], zBoard cI v0_178 e0_178, zBoard cI v1_178 e1_178, zBoard cI v2_178 e2_178, zBoard cI v3_178 e3_178, zText cI axt t, zCont cI axc cn] H locs := hW
  have hW : zW D A s.heap [[(x, .inr (4, [.ref (axb 0), .ref (axn 0), .int (zI xk), .ref xh, .ref (axt 0), .ref (axc 0)]))], zBoard cI axb bz_178, zBoard cI axn bn, [(xh, .inr (2, [.ref xa, .int (zI hnz_178)]))], [zRefs cB xa (some (v0_178 0)) (some (v1_178 0)) (some (v2_178 0)) (some (v3_178 0))], zBoard cI v0_178 e0_178, zBoard cI v1_178 e1_178, zBoard cI v2_178 e2_178, zBoard cI v3_178 e3_178, zText cI axt t, zCont cI axc cn, zMod2 cI am (mm_out_ (mm_hl_ (mm_his_ (mm_kept_ (mm_all_ bm (zall_187)) (zkept_187)) (zhis_187)) (zhl_187)) (zout_187))] H locs := hW.pick [1, 2, 3, 4, 5, 6, 7, 8, 9, 10, 11, 0] rfl (show ([1, 2, 3, 4, 5, 6, 7, 8, 9, 10, 11, 0] : List Nat).isPerm (List.range 12) = true by decide +kernel)
  refine W.eq (g2 := F0 m 190 ls [.int (zI rr_187), .int (zI rr_178)]) rfl ?_
  obtain ⟨S3, hs3, hq1, hq2, hq3⟩ := hh_187
  rw [← hL2] at hq1
  obtain ⟨hre, hSe, hhe⟩ := tkaR_det hnd hp1 hq1
  subst hSe
  subst hhe
  refine z_same (tgt := 734) hx hb dL_law_190 (by decide) (by exact hre) ?_
  exact KK xk hnz_178 bz_178 bn v0_178 v1_178 v2_178 v3_178 e0_178 e1_178 e2_178 e3_178 t cn ((mm_out_ (mm_hl_ (mm_his_ (mm_kept_ (mm_all_ bm (zall_187)) (zkept_187)) (zhis_187)) (zhl_187)) (zout_187))) S2 hs2 Sn (⟨⟨hp2, hp3, hBn, hTk⟩, ⟨hq2, hq3⟩, htk, hsn, hTm, htl, htx⟩) _ _ hW ls hl

set_option maxHeartbeats 8000000 in
set_option maxRecDepth 100000 in
theorem lwc_195 {p : Program} {l : Launch} {e : Env} {s : State} {m : MethodId} {below : List Frame} {meth : Method} {c : Code} {Q : State → Prop} {D : va_G} {cI cB : ClassId} {A : Nat → Prop} {sb L : Nat} {ys : Nat → Int} {x : Nat} {axb axn : Nat → Nat} {xh : Nat} {axt axc : Nat → Nat} {xa : Nat} {am : Nat → Nat} (hS : CallFix p m c cL_law 4 s #[Value.ref sb] wsL_law RL) (hK : ZK D cI cB s) (hA : ∀ q, s.heap.size ≤ q → A q) (hL : L ≤ 2048) (hX : va_X sb L (fun j => zI (ys j)) s s.heap) (hbl : sb < s.heap.size) (hbA : ¬ A sb) (hys : ∀ j, R32 (ys j)) {i : Int} (hi : 0 ≤ i ∧ i + 4 ≤ (L : Int)) (KK : ∀ (xk hn : Int) (b bn : zBS) (u0 u1 u2 u3 : Nat → Nat) (d0 d1 d2 d3 : zBS) (t : zTS) (cn : zCS) (bm : zM2) (S : zSt) (hs : List zSt) (Sn : zSt), lwR xk hn b bn t d0 d1 d2 d3 bm S hs Sn → ∀ (H : Heap) (locs : List Loc), zW D A s.heap [[(x, .inr (4, [.ref (axb 0), .ref (axn 0), .int (zI xk), .ref xh, .ref (axt 0), .ref (axc 0)]))], zBoard cI axb b, zBoard cI axn bn, [(xh, .inr (2, [.ref xa, .int (zI hn)]))], [zRefs cB xa (some (u0 0)) (some (u1 0)) (some (u2 0)) (some (u3 0))], zBoard cI u0 d0, zBoard cI u1 d1, zBoard cI u2 d2, zBoard cI u3 d3, zText cI axt t, zCont cI axc cn, zMod2 cI am bm] H locs → ∀ (ls : Array Slot), lv_has ls 4 [(0, .ref sb), (1, .ref x), (2, .ref (am 0)), (3, .int (zI i))] → W p l e room_1 s m #[Value.ref sb] below meth c H locs 73 4564 Q (F0 m 734 ls [])) {xk hn : Int} {b bn : zBS} {u0 u1 u2 u3 : Nat → Nat} {d0 d1 d2 d3 : zBS} {t : zTS} {cn : zCS} {bm : zM2} {S : zSt} {hs : List zSt} {Sn : zSt} : lwR xk hn b bn t d0 d1 d2 d3 bm S hs Sn → ∀ (H : Heap) (locs : List Loc), zW D A s.heap [[(x, .inr (4, [.ref (axb 0), .ref (axn 0), .int (zI xk), .ref xh, .ref (axt 0), .ref (axc 0)]))], zBoard cI axb b, zBoard cI axn bn, [(xh, .inr (2, [.ref xa, .int (zI hn)]))], [zRefs cB xa (some (u0 0)) (some (u1 0)) (some (u2 0)) (some (u3 0))], zBoard cI u0 d0, zBoard cI u1 d1, zBoard cI u2 d2, zBoard cI u3 d3, zText cI axt t, zCont cI axc cn, zMod2 cI am bm] H locs → ∀ (ls : Array Slot), lv_has ls 4 [(0, .ref sb), (1, .ref x), (2, .ref (am 0)), (3, .int (zI i))] → W p l e room_1 s m #[Value.ref sb] below meth c H locs 73 4564 Q (F0 m 195 ls []) := by
  have hx := hS.1
  have hb := hS.2.1
  have hown := hS.2.2.2.1
  have hts := hS.2.2.2.2
  intro hR H locs hW ls hl
  obtain ⟨⟨hBb, hHB, hBn, hTk⟩, ⟨hMr, hMh⟩, htk, hsn, hTm, htl, htx⟩ := id hR
  obtain ⟨L9, hL1, hL2⟩ := id hMr
  have hnd := RBS_nd hBb
  have hy1 := hys (i + 1).toNat
  have hy2 := hys (i + 2).toNat
  have hy3 := hys (i + 3).toNat
  refine lv_aload_n hx hb dL_law_195 rfl (lv_at hl 1 rfl) ?_
  refine lv_aload_n hx hb dL_law_196 rfl (lv_at hl 0 rfl) ?_
  refine lv_iload_n hx hb dL_law_197 rfl (lv_at hl 3 rfl) ?_
  refine lv_iconst (v := zI (1)) hx hb dL_law_198 rfl ?_
  refine z_iadd hx hb dL_law_199 ?_
  refine z_sld hx hb hX hbl hbA hW hL (i := i + 1) (by omega) dL_law_200 ?_
  refine lv_aload_n hx hb dL_law_201 rfl (lv_at hl 0 rfl) ?_
  refine lv_iload_n hx hb dL_law_202 rfl (lv_at hl 3 rfl) ?_
  refine lv_iconst (v := zI (2)) hx hb dL_law_203 rfl ?_
  refine z_iadd hx hb dL_law_204 ?_
  refine z_sld hx hb hX hbl hbA hW hL (i := i + 2) (by omega) dL_law_205 ?_
  refine lv_aload_n hx hb dL_law_206 rfl (lv_at hl 0 rfl) ?_
  refine lv_iload_n hx hb dL_law_207 rfl (lv_at hl 3 rfl) ?_
  refine lv_iconst (v := zI (3)) hx hb dL_law_208 rfl ?_
  refine z_iadd hx hb dL_law_209 ?_
  refine z_sld hx hb hX hbl hbA hW hL (i := i + 3) (by omega) dL_law_210 ?_
  refine z_callV (r := (RX4, TX4, 6)) (As := [.int (zI (ys (i + 1).toNat)), .int (zI (ys (i + 2).toNat)), .int (zI (ys (i + 3).toNat))]) (rest := []) hS hK hA hW hl.1 [0, 1, 3, 4, 5, 6, 7, 8, 10] [2, 9, 11] (kX4_move l D cI cB x axb axn xk xh axt axc b xa hn u0 u1 u2 u3 d0 d1 d2 d3 cn (ys (i + 1).toNat) (ys (i + 2).toNat) (ys (i + 3).toNat) S.1 S.2.1 S.2.2 hs hBb hHB hy1 hy2 hy3) (cwV 3 hts gL_law_X4_move rfl rfl rfl (by decide +kernel) ⟨Nat.le_of_ble_eq_true rfl, Nat.le_of_ble_eq_true rfl⟩) (rfl : vwCl[4]? = some (RX4, TX4, 6)) (q0 := 0) rfl dL_law_211 rfl rfl rfl (show ([0, 1, 3, 4, 5, 6, 7, 8, 10] ++ [2, 9, 11] : List Nat).isPerm (List.range 12) = true by decide +kernel) rfl (Nat.le_of_ble_eq_true rfl) ⟨Nat.le_of_ble_eq_true rfl, Nat.le_of_ble_eq_true rfl⟩ (fun v9 w9 H locs hq hW => ?_)
  obtain ⟨rr_211, bz_211, hnz_211, v0_211, v1_211, v2_211, v3_211, e0_211, e1_211, e2_211, e3_211, cz_211, rfl, rfl, hh_211⟩ := hq
  have hW : zW D A s.heap [[(x, .inr (4, [.ref (axb 0), .ref (axn 0), .int (zI xk), .ref xh, .ref (axt 0), .ref (axc 0)]))], zBoard cI axb bz_211, [(xh, .inr (2, [.ref xa, .int (zI hnz_211)]))], [zRefs cB xa (some (v0_211 0)) (some (v1_211 0)) (some (v2_211 0)) (some (v3_211 0))], zBoard cI v0_211 e0_211, zBoard cI v1_211 e1_211, zBoard cI v2_211 e2_211, zBoard cI v3_211 e3_211, zCont cI axc cz_211, zBoard cI axn bn, zText cI axt t, zMod2 cI am bm] H locs := hW
  have hW : zW D A s.heap [[(x, .inr (4, [.ref (axb 0), .ref (axn 0), .int (zI xk), .ref xh, .ref (axt 0), .ref (axc 0)]))], zBoard cI axb bz_211, zBoard cI axn bn, [(xh, .inr (2, [.ref xa, .int (zI hnz_211)]))], [zRefs cB xa (some (v0_211 0)) (some (v1_211 0)) (some (v2_211 0)) (some (v3_211 0))], zBoard cI v0_211 e0_211, zBoard cI v1_211 e1_211, zBoard cI v2_211 e2_211, zBoard cI v3_211 e3_211, zText cI axt t, zCont cI axc cz_211, zMod2 cI am bm] H locs := hW.pick [0, 1, 9, 2, 3, 4, 5, 6, 7, 10, 8, 11] rfl (show ([0, 1, 9, 2, 3, 4, 5, 6, 7, 10, 8, 11] : List Nat).isPerm (List.range 12) = true by decide +kernel)
  refine W.eq (g2 := F0 m 214 ls [.int (zI rr_211)]) rfl ?_
  obtain ⟨S2, hs2, hp1, hp2, hp3⟩ := hh_211
  refine lv_aload_n hx hb dL_law_214 rfl (lv_at hl 2 rfl) ?_
  refine lv_aload_n hx hb dL_law_215 rfl (lv_at hl 0 rfl) ?_
  refine lv_iload_n hx hb dL_law_216 rfl (lv_at hl 3 rfl) ?_
  refine lv_iconst (v := zI (1)) hx hb dL_law_217 rfl ?_
  refine z_iadd hx hb dL_law_218 ?_
  refine z_sld hx hb hX hbl hbA hW hL (i := i + 1) (by omega) dL_law_219 ?_
  refine lv_aload_n hx hb dL_law_220 rfl (lv_at hl 0 rfl) ?_
  refine lv_iload_n hx hb dL_law_221 rfl (lv_at hl 3 rfl) ?_
  refine lv_iconst (v := zI (2)) hx hb dL_law_222 rfl ?_
  refine z_iadd hx hb dL_law_223 ?_
  refine z_sld hx hb hX hbl hbA hW hL (i := i + 2) (by omega) dL_law_224 ?_
  refine lv_aload_n hx hb dL_law_225 rfl (lv_at hl 0 rfl) ?_
  refine lv_iload_n hx hb dL_law_226 rfl (lv_at hl 3 rfl) ?_
  refine lv_iconst (v := zI (3)) hx hb dL_law_227 rfl ?_
  refine z_iadd hx hb dL_law_228 ?_
  refine z_sld hx hb hX hbl hbA hW hL (i := i + 3) (by omega) dL_law_229 ?_
  refine z_callV (r := (RX5, TX5, 18)) (As := [.int (zI (ys (i + 1).toNat)), .int (zI (ys (i + 2).toNat)), .int (zI (ys (i + 3).toNat))]) (rest := [.int (zI rr_211)]) hS hK hA hW hl.1 [11] [0, 1, 2, 3, 4, 5, 6, 7, 8, 9, 10] (kX5_move l D cI cB am bm (ys (i + 1).toNat) (ys (i + 2).toNat) (ys (i + 3).toNat) L9 S.2.1 S.2.2 hs hL1 hMh hy1 hy2 hy3) (cwV 3 hts gL_law_X5_move rfl rfl rfl (by decide +kernel) ⟨Nat.le_of_ble_eq_true rfl, Nat.le_of_ble_eq_true rfl⟩) (rfl : vwCl[5]? = some (RX5, TX5, 18)) (q0 := 59) rfl dL_law_230 rfl rfl rfl (show ([11] ++ [0, 1, 2, 3, 4, 5, 6, 7, 8, 9, 10] : List Nat).isPerm (List.range 12) = true by decide +kernel) rfl (Nat.le_of_ble_eq_true rfl) ⟨Nat.le_of_ble_eq_true rfl, Nat.le_of_ble_eq_true rfl⟩ (fun v9 w9 H locs hq hW => ?_)
  obtain ⟨rr_230, zall_230, zkept_230, zhis_230, zhl_230, zout_230, zrow_230, zbrk_230, znb_230, zhold_230, zmov_230, zbeh_230, rfl, rfl, hh_230⟩ := hq
  have hW : zW D A s.heap [zMod2 cI am (mm_beh_ (mm_mov_ (mm_hold_ (mm_nb_ (mm_brk_ (mm_row_ (mm_out_ (mm_hl_ (mm_his_ (mm_kept_ (mm_all_ bm (zall_230)) (zkept_230)) (zhis_230)) (zhl_230)) (zout_230)) (zrow_230)) (zbrk_230)) (znb_230)) (zhold_230)) (zmov_230)) (zbeh_230)), [(x, .inr (4, [.ref (axb 0), .ref (axn 0), .int (zI xk), .ref xh, .ref (axt 0), .ref (axc 0)]))], zBoard cI axb bz_211, zBoard cI axn bn, [(xh, .inr (2, [.ref xa, .int (zI hnz_211)]))], [zRefs cB xa (some (v0_211 0)) (some (v1_211 0)) (some (v2_211 0)) (some (v3_211 0))], zBoard cI v0_211 e0_211, zBoard cI v1_211 e1_211, zBoard cI v2_211 e2_211, zBoard cI v3_211 e3_211, zText cI axt t, zCont cI axc cz_211] H locs := hW
  have hW : zW D A s.heap [[(x, .inr (4, [.ref (axb 0), .ref (axn 0), .int (zI xk), .ref xh, .ref (axt 0), .ref (axc 0)]))], zBoard cI axb bz_211, zBoard cI axn bn, [(xh, .inr (2, [.ref xa, .int (zI hnz_211)]))], [zRefs cB xa (some (v0_211 0)) (some (v1_211 0)) (some (v2_211 0)) (some (v3_211 0))], zBoard cI v0_211 e0_211, zBoard cI v1_211 e1_211, zBoard cI v2_211 e2_211, zBoard cI v3_211 e3_211, zText cI axt t, zCont cI axc cz_211, zMod2 cI am (mm_beh_ (mm_mov_ (mm_hold_ (mm_nb_ (mm_brk_ (mm_row_ (mm_out_ (mm_hl_ (mm_his_ (mm_kept_ (mm_all_ bm (zall_230)) (zkept_230)) (zhis_230)) (zhl_230)) (zout_230)) (zrow_230)) (zbrk_230)) (znb_230)) (zhold_230)) (zmov_230)) (zbeh_230))] H locs := hW.pick [1, 2, 3, 4, 5, 6, 7, 8, 9, 10, 11, 0] rfl (show ([1, 2, 3, 4, 5, 6, 7, 8, 9, 10, 11, 0] : List Nat).isPerm (List.range 12) = true by decide +kernel)
  refine W.eq (g2 := F0 m 233 ls [.int (zI rr_230), .int (zI rr_211)]) rfl ?_
  obtain ⟨S3, hs3, hq1, hq2, hq3⟩ := hh_230
  rw [← hL2] at hq1
  obtain ⟨hre, hSe, hhe⟩ := movR_det hnd hp1 hq1
  subst hSe
  subst hhe
  refine z_same (tgt := 734) hx hb dL_law_233 (by decide) (by exact hre) ?_
  exact KK xk hnz_211 bz_211 bn v0_211 v1_211 v2_211 v3_211 e0_211 e1_211 e2_211 e3_211 t cz_211 ((mm_beh_ (mm_mov_ (mm_hold_ (mm_nb_ (mm_brk_ (mm_row_ (mm_out_ (mm_hl_ (mm_his_ (mm_kept_ (mm_all_ bm (zall_230)) (zkept_230)) (zhis_230)) (zhl_230)) (zout_230)) (zrow_230)) (zbrk_230)) (znb_230)) (zhold_230)) (zmov_230)) (zbeh_230))) S2 hs2 Sn (⟨⟨hp2, hp3, hBn, hTk⟩, ⟨hq2, hq3⟩, htk, hsn, hTm, htl, htx⟩) _ _ hW ls hl
