set_option maxHeartbeats 8000000 in
set_option maxRecDepth 100000 in
theorem lw_loop {p : Program} {l : Launch} {e : Env} {s : State} {m : MethodId} {below : List Frame} {meth : Method} {c : Code} {D : va_G} {cI cB : ClassId} {A : Nat → Prop} {sb L : Nat} {ys : Nat → Int} {x : Nat} {axb axn : Nat → Nat} {xh : Nat} {axt axc : Nat → Nat} {xa : Nat} {am : Nat → Nat} (hS : CallFix p m c cL_law 4 s #[Value.ref sb] wsL_law RL) (hK : ZK D cI cB s) (hA : ∀ q, s.heap.size ≤ q → A q) (hL : L ≤ 2048) (hX : va_X sb L (fun j => zI (ys j)) s s.heap) (hbl : sb < s.heap.size) (hbA : ¬ A sb) (hys : ∀ j, R32 (ys j)) (hr : meth.sig.returnType = ret) (hlocks : meth.locks = false) (hA2 : ∀ q, A q → s.heap.size ≤ q) : ∀ (fu : Nat) (xk hn : Int) (b bn : zBS) (u0 u1 u2 u3 : Nat → Nat) (d0 d1 d2 d3 : zBS) (t : zTS) (cn : zCS) (bm : zM2) (S : zSt) (hs : List zSt) (Sn : zSt) (i : Int), 0 ≤ i ∧ i ≤ (L : Int) → (L : Int) - i < (fu : Int) → lwR xk hn b bn t d0 d1 d2 d3 bm S hs Sn → ∀ (H : Heap) (locs : List Loc), zW D A s.heap [[(x, .inr (4, [.ref (axb 0), .ref (axn 0), .int (zI xk), .ref xh, .ref (axt 0), .ref (axc 0)]))], zBoard cI axb b, zBoard cI axn bn, [(xh, .inr (2, [.ref xa, .int (zI hn)]))], [zRefs cB xa (some (u0 0)) (some (u1 0)) (some (u2 0)) (some (u3 0))], zBoard cI u0 d0, zBoard cI u1 d1, zBoard cI u2 d2, zBoard cI u3 d3, zText cI axt t, zCont cI axc cn, zMod2 cI am bm] H locs → ∀ (ls : Array Slot), lv_has ls 4 [(0, .ref sb), (1, .ref x), (2, .ref (am 0)), (3, .int (zI i))] → W p l e room_1 s m #[Value.ref sb] below meth c H locs 73 4564 (lw_Z below #[Value.ref sb] s) (F0 m 18 ls []) := by
  have hx := hS.1
  have hb := hS.2.1
  have hown := hS.2.2.2.1
  have hts := hS.2.2.2.2
  intro fu
  induction fu with
  | zero => intro xk hn b bn u0 u1 u2 u3 d0 d1 d2 d3 t cn bm S hs Sn i h8 h9; exact absurd h9 (by omega)
  | succ fu ih =>
    intro xk hn b bn u0 u1 u2 u3 d0 d1 d2 d3 t cn bm S hs Sn i h8 h9 hR H locs hW ls hl
    have hy0 := hys i.toNat
    refine lv_iload_n hx hb dL_law_18 rfl (lv_at hl 3 rfl) ?_
    refine lv_aload_n hx hb dL_law_19 rfl (lv_at hl 0 rfl) ?_
    refine z_slen hx hb hX hbl hbA hW dL_law_20 ?_
    refine lv_iconst (v := zI (4)) hx hb dL_law_21 rfl ?_
    refine z_isub hx hb dL_law_22 ?_
    refine z_icmp_gt (tgt := 740) hx hb dL_law_23 (by decide) (by omega) (fun cc_23 => ?_) (fun cc_23 => ?_)
    · refine lv_iconst (v := zI (1)) hx hb dL_law_740 rfl ?_
      refine va_forget (fun q hq => hA2 _ (hW.2.2.2.2 q hq)) ?_
      refine W.widen (k := 600000) (n := 7302250) (Nat.le_of_ble_eq_true rfl) (Nat.le_of_ble_eq_true rfl) ?_
      exact lw_ret hx hb hr hlocks dL_law_741
    · refine lv_aload_n hx hb dL_law_26 rfl (lv_at hl 0 rfl) ?_
      refine lv_iload_n hx hb dL_law_27 rfl (lv_at hl 3 rfl) ?_
      refine z_sld hx hb hX hbl hbA hW hL (i := i) (by omega) dL_law_28 ?_
      refine lv_bipush (v := zI (31)) hx hb dL_law_29 (by decide +kernel) ?_
      refine z_iandA hx hb dL_law_31 (fun wd hwd => ?_)
      have KK : ∀ (xk hn : Int) (b bn : zBS) (u0 u1 u2 u3 : Nat → Nat) (d0 d1 d2 d3 : zBS) (t : zTS) (cn : zCS) (bm : zM2) (S : zSt) (hs : List zSt) (Sn : zSt), lwR xk hn b bn t d0 d1 d2 d3 bm S hs Sn → ∀ (H : Heap) (locs : List Loc), zW D A s.heap [[(x, .inr (4, [.ref (axb 0), .ref (axn 0), .int (zI xk), .ref xh, .ref (axt 0), .ref (axc 0)]))], zBoard cI axb b, zBoard cI axn bn, [(xh, .inr (2, [.ref xa, .int (zI hn)]))], [zRefs cB xa (some (u0 0)) (some (u1 0)) (some (u2 0)) (some (u3 0))], zBoard cI u0 d0, zBoard cI u1 d1, zBoard cI u2 d2, zBoard cI u3 d3, zText cI axt t, zCont cI axc cn, zMod2 cI am bm] H locs → ∀ (ls : Array Slot), lv_has ls 4 [(0, .ref sb), (1, .ref x), (2, .ref (am 0)), (3, .int (zI i))] → W p l e room_1 s m #[Value.ref sb] below meth c H locs 73 4564 (lw_Z below #[Value.ref sb] s) (F0 m 734 ls []) := by
        intro xk hn b bn u0 u1 u2 u3 d0 d1 d2 d3 t cn bm S hs Sn hR H locs hW ls hl
        refine z_iinc (x := i) (lv' := [(3, .int (zI (i + 4))), (0, .ref sb), (1, .ref x), (2, .ref (am 0))]) hx hb dL_law_734 hl (k := 3) rfl (by decide) rfl (fun ls hl => ?_)
        refine lv_goto (tgt := 18) hx hb dL_law_737 (by decide) ?_
        exact ih xk hn b bn u0 u1 u2 u3 d0 d1 d2 d3 t cn bm S hs Sn (i + 4) (by omega) (by omega) hR _ _ hW ls (lv_sub hl [1, 2, 3, 0] rfl)
      rcases (show wd = 0 ∨ wd = 1 ∨ wd = 2 ∨ wd = 3 ∨ wd = 4 ∨ wd = 5 ∨ wd = 6 ∨ wd = 7 ∨ wd = 8 ∨ wd = 9 ∨ wd = 10 ∨ wd = 11 ∨ wd = 12 ∨ wd = 13 ∨ wd = 14 ∨ wd = 15 ∨ wd = 16 ∨ wd = 17 ∨ wd = 18 ∨ wd = 19 ∨ wd = 20 ∨ wd = 21 ∨ (wd < 0 ∨ 21 < wd) by omega) with ww_32 | ww_32 | ww_32 | ww_32 | ww_32 | ww_32 | ww_32 | ww_32 | ww_32 | ww_32 | ww_32 | ww_32 | ww_32 | ww_32 | ww_32 | ww_32 | ww_32 | ww_32 | ww_32 | ww_32 | ww_32 | ww_32 | ww_32
      · refine z_tableIn (k := 0) (off := 104) (tgt := 136) hx hb dL_law_32 (ww_32) (by decide) (by decide) (by decide +kernel) (by decide) ?_
        exact lwc_136 hS hK hA hL hX hbl hbA hys (by omega) KK hR _ _ hW ls hl
      · refine z_tableIn (k := 1) (off := 117) (tgt := 149) hx hb dL_law_32 (ww_32) (by decide) (by decide) (by decide +kernel) (by decide) ?_
        exact lwc_149 hS hK hA hL hX hbl hbA hys (by omega) KK hR _ _ hW ls hl
      · refine z_tableIn (k := 2) (off := 140) (tgt := 172) hx hb dL_law_32 (ww_32) (by decide) (by decide) (by decide +kernel) (by decide) ?_
        exact lwc_172 hS hK hA hL hX hbl hbA hys (by omega) KK hR _ _ hW ls hl
      · refine z_tableIn (k := 3) (off := 163) (tgt := 195) hx hb dL_law_32 (ww_32) (by decide) (by decide) (by decide +kernel) (by decide) ?_
        exact lwc_195 hS hK hA hL hX hbl hbA hys (by omega) KK hR _ _ hW ls hl
      · refine z_tableIn (k := 4) (off := 206) (tgt := 238) hx hb dL_law_32 (ww_32) (by decide) (by decide) (by decide +kernel) (by decide) ?_
        exact lwc_238 hS hK hA hL hX hbl hbA hys (by omega) KK hR _ _ hW ls hl
      · refine z_tableIn (k := 5) (off := 239) (tgt := 271) hx hb dL_law_32 (ww_32) (by decide) (by decide) (by decide +kernel) (by decide) ?_
        exact lwc_271 hS hK hA hL hX hbl hbA hys (by omega) KK hR _ _ hW ls hl
      · refine z_tableIn (k := 6) (off := 272) (tgt := 304) hx hb dL_law_32 (ww_32) (by decide) (by decide) (by decide +kernel) (by decide) ?_
        exact lwc_304 hS hK hA hL hX hbl hbA hys (by omega) KK hR _ _ hW ls hl
      · refine z_tableIn (k := 7) (off := 295) (tgt := 327) hx hb dL_law_32 (ww_32) (by decide) (by decide) (by decide +kernel) (by decide) ?_
        exact lwc_327 hS hK hA hL hX hbl hbA hys (by omega) KK hR _ _ hW ls hl
      · refine z_tableIn (k := 8) (off := 320) (tgt := 352) hx hb dL_law_32 (ww_32) (by decide) (by decide) (by decide +kernel) (by decide) ?_
        exact lwc_352 hS hK hA hL hX hbl hbA hys (by omega) KK hR _ _ hW ls hl
      · refine z_tableIn (k := 9) (off := 333) (tgt := 365) hx hb dL_law_32 (ww_32) (by decide) (by decide) (by decide +kernel) (by decide) ?_
        exact lwc_365 hS hK hA hL hX hbl hbA hys (by omega) KK hR _ _ hW ls hl
      · refine z_tableIn (k := 10) (off := 346) (tgt := 378) hx hb dL_law_32 (ww_32) (by decide) (by decide) (by decide +kernel) (by decide) ?_
        exact lwc_378 hS hK hA hL hX hbl hbA hys (by omega) KK hR _ _ hW ls hl
      · refine z_tableIn (k := 11) (off := 359) (tgt := 391) hx hb dL_law_32 (ww_32) (by decide) (by decide) (by decide +kernel) (by decide) ?_
        exact lwc_391 hS hK hA hL hX hbl hbA hys (by omega) KK hR _ _ hW ls hl
      · refine z_tableIn (k := 12) (off := 372) (tgt := 404) hx hb dL_law_32 (ww_32) (by decide) (by decide) (by decide +kernel) (by decide) ?_
        exact lwc_404 hS hK hA hL hX hbl hbA hys (by omega) KK hR _ _ hW ls hl
      · refine z_tableIn (k := 13) (off := 405) (tgt := 437) hx hb dL_law_32 (ww_32) (by decide) (by decide) (by decide +kernel) (by decide) ?_
        exact lwc_437 hS hK hA hL hX hbl hbA hys (by omega) KK hR _ _ hW ls hl
      · refine z_tableIn (k := 14) (off := 448) (tgt := 480) hx hb dL_law_32 (ww_32) (by decide) (by decide) (by decide +kernel) (by decide) ?_
        exact lwc_480 hS hK hA hL hX hbl hbA hys (by omega) KK hR _ _ hW ls hl
      · refine z_tableIn (k := 15) (off := 471) (tgt := 503) hx hb dL_law_32 (ww_32) (by decide) (by decide) (by decide +kernel) (by decide) ?_
        exact lwc_503 hS hK hA hL hX hbl hbA hys (by omega) KK hR _ _ hW ls hl
      · refine z_tableIn (k := 16) (off := 504) (tgt := 536) hx hb dL_law_32 (ww_32) (by decide) (by decide) (by decide +kernel) (by decide) ?_
        exact lwc_536 hS hK hA hL hX hbl hbA hys (by omega) KK hR _ _ hW ls hl
      · refine z_tableIn (k := 17) (off := 537) (tgt := 569) hx hb dL_law_32 (ww_32) (by decide) (by decide) (by decide +kernel) (by decide) ?_
        exact lwc_569 hS hK hA hL hX hbl hbA hys (by omega) KK hR _ _ hW ls hl
      · refine z_tableIn (k := 18) (off := 570) (tgt := 602) hx hb dL_law_32 (ww_32) (by decide) (by decide) (by decide +kernel) (by decide) ?_
        exact lwc_602 hS hK hA hL hX hbl hbA hys (by omega) KK hR _ _ hW ls hl
      · refine z_tableIn (k := 19) (off := 603) (tgt := 635) hx hb dL_law_32 (ww_32) (by decide) (by decide) (by decide +kernel) (by decide) ?_
        exact lwc_635 hS hK hA hL hX hbl hbA hys (by omega) KK hR _ _ hW ls hl
      · refine z_tableIn (k := 20) (off := 646) (tgt := 678) hx hb dL_law_32 (ww_32) (by decide) (by decide) (by decide +kernel) (by decide) ?_
        exact lwc_678 hS hK hA hL hX hbl hbA hys (by omega) KK hR _ _ hW ls hl
      · refine z_tableIn (k := 21) (off := 679) (tgt := 711) hx hb dL_law_32 (ww_32) (by decide) (by decide) (by decide +kernel) (by decide) ?_
        exact lwc_711 hS hK hA hL hX hbl hbA hys (by omega) KK hR _ _ hW ls hl
      · refine z_tableOut (tgt := 734) hx hb dL_law_32 (by omega) ww_32 (by decide) ?_
        exact KK _ _ _ _ _ _ _ _ _ _ _ _ _ _ _ _ _ _ hR _ _ hW ls hl
set_option maxRecDepth 20000 in
theorem iL_law_X4 : ∀ w ∈ u_ws RX4 TX4 6, w ∈ wsL_law := by decide +kernel
set_option maxRecDepth 20000 in
theorem mL_law_1 : (.classLink RL 7 RX4 : Cond) ∈ wsL_law := by decide +kernel
set_option maxRecDepth 20000 in
theorem mL_law_2 : (.instantiable RX4 6 : Cond) ∈ wsL_law := by decide +kernel
set_option maxRecDepth 20000 in
theorem mL_law_3 : (.initialized RX4 : Cond) ∈ wsL_law := by decide +kernel
set_option maxRecDepth 20000 in
theorem mL_law_4 : (.methodLink RL 9 yX4_init : Cond) ∈ wsL_law := by decide +kernel
set_option maxRecDepth 20000 in
theorem mL_law_5 : (.instanceMethod yX4_init : Cond) ∈ wsL_law := by decide +kernel
set_option maxRecDepth 20000 in
theorem iL_law_X5 : ∀ w ∈ u_ws RX5 TX5 18, w ∈ wsL_law := by decide +kernel
set_option maxRecDepth 20000 in
theorem mL_law_7 : (.classLink RL 10 RX5 : Cond) ∈ wsL_law := by decide +kernel
set_option maxRecDepth 20000 in
theorem mL_law_8 : (.instantiable RX5 18 : Cond) ∈ wsL_law := by decide +kernel
set_option maxRecDepth 20000 in
theorem mL_law_9 : (.initialized RX5 : Cond) ∈ wsL_law := by decide +kernel
set_option maxRecDepth 20000 in
theorem mL_law_10 : (.methodLink RL 12 yX5_init : Cond) ∈ wsL_law := by decide +kernel
set_option maxRecDepth 20000 in
theorem mL_law_11 : (.instanceMethod yX5_init : Cond) ∈ wsL_law := by decide +kernel
set_option maxHeartbeats 8000000 in
set_option maxRecDepth 100000 in
theorem whole_start {p : Program} {e : Env} {s : State} {m : MethodId} {below : List Frame} {meth : Method} {c : Code} (l : Launch) (hflags : l.flags = flags0) {b L : Nat} {xs : Nat → Int32} (hL : L ≤ 2048) (C0 : lw_At p s m meth c b L xs) : W p l e room_1 s m #[Value.ref b] below meth c s.heap [] 0 0 (lw_Z below #[Value.ref b] s) (entryFrame m ([Value.ref b] : List Value).toArray 4) := by
  obtain ⟨hx, hb, hr, hml, hown, hts0, hX, hbl, hlocks, hgv⟩ := id C0
  obtain ⟨D, cI, cB, hK⟩ := zKlaw hts0
  obtain ⟨ys, hys, hxs⟩ : ∃ ys : Nat → Int, (∀ j, R32 (ys j)) ∧ xs = fun j => zI (ys j) := ⟨fun j => (xs j).toInt, fun j => zR (xs j), funext fun j => (zI_of (xs j)).symm⟩
  rw [hxs] at hX
  have hS : CallFix p m c cL_law 4 s #[Value.ref b] wsL_law RL := ⟨hx, hb, hml, hown, fun w h => hts0 w (wsL_law_in w h)⟩
  have hts := hS.2.2.2.2
  have hown := hS.2.2.2.1
  have hb := hS.2.1
  obtain ⟨A, hA, hA2⟩ : ∃ A : Nat → Prop, (∀ q, s.heap.size ≤ q → A q) ∧ ∀ q, A q → s.heap.size ≤ q := ⟨fun q => s.heap.size ≤ q, fun _ h => h, fun _ h => h⟩
  have hbA : ¬ A b := fun h => absurd (hA2 b h) (Nat.not_le.mpr hbl)
  have hW : zW D A s.heap [] s.heap [] := ⟨fun k q h => by simp at h, ⟨fun i j p q h => by simp at h, fun k q h => by simp at h⟩, va_S.rf⟩
  have hl := lv_entry ([.ref b]) (n := 4) (Nat.le_of_ble_eq_true rfl)
  rw [lg_entry_eq]
  generalize (lg_sl ([.ref b]) ++ List.replicate (4 - (lg_sl ([.ref b])).length) Slot.unset).toArray = ls at hl ⊢
  have hl : lv_has ls 4 [(0, .ref b)] := hl
  refine z_newO (ci := 4) (C := RX4) (T := TX4) (N := 6) (fs := [.null, .null, .int (zI 0), .null, .null, .null]) (rest := []) hx hb hts iL_law_X4 tyX4 tyX4_ok hown (hts _ mL_law_1) (hts _ mL_law_2) (hts _ mL_law_3) hK hA hW rfl df_X4 (Nat.le_of_ble_eq_true rfl) (Nat.le_of_ble_eq_true rfl) dL_law_0 (fun q_0_1 H hW => ?_)
  have hW : zW D A s.heap [[(q_0_1, .inr (4, [.null, .null, .int (zI 0), .null, .null, .null]))]] H _ := hW
  refine lv_dup hx hb dL_law_3 rfl ?_
  refine z_callI (As := []) (rest := [.ref q_0_1]) hS hK hA hW hl.1 [0] [] (kX4_init l D cI cB q_0_1) (cwI 0 hts gL_law_X4_init rfl rfl rfl (hts _ mL_law_3) (hts _ mL_law_4) (hts _ mL_law_5) rfl (by decide +kernel) ⟨Nat.le_of_ble_eq_true rfl, Nat.le_of_ble_eq_true rfl⟩) dL_law_4 rfl rfl rfl (show ([0] ++ [] : List Nat).isPerm (List.range 1) = true by decide +kernel) rfl (Nat.le_of_ble_eq_true rfl) ⟨Nat.le_of_ble_eq_true rfl, Nat.le_of_ble_eq_true rfl⟩ (fun v9 w9 H locs hq hW => ?_)
  obtain ⟨axb_4, axn_4, xh_4, axt_4, axc_4, b_4, bn_4, xa_4, v0_4, v1_4, v2_4, v3_4, e0_4, e1_4, e2_4, e3_4, t_4, cn_4, rfl, rfl, hh_4⟩ := hq
  have hW : zW D A s.heap [[(q_0_1, .inr (4, [.ref (axb_4 0), .ref (axn_4 0), .int (zI 0), .ref xh_4, .ref (axt_4 0), .ref (axc_4 0)]))], zBoard cI axb_4 b_4, zBoard cI axn_4 bn_4, [(xh_4, .inr (2, [.ref xa_4, .int (zI 0)]))], [zRefs cB xa_4 (some (v0_4 0)) (some (v1_4 0)) (some (v2_4 0)) (some (v3_4 0))], zBoard cI v0_4 e0_4, zBoard cI v1_4 e1_4, zBoard cI v2_4 e2_4, zBoard cI v3_4 e3_4, zText cI axt_4 t_4, zCont cI axc_4 cn_4] H locs := hW
  refine W.eq (g2 := F0 m 7 ls [.ref q_0_1]) rfl ?_
  refine lv_astore_n (lv' := [(1, .ref q_0_1), (0, .ref b)]) hx hb dL_law_7 rfl hl (by decide) rfl (fun ls hl => ?_)
  refine z_newO (ci := 5) (C := RX5) (T := TX5) (N := 18) (fs := [.null, .null, .null, .null, .int (zI 0), .null, .int (zI 0), .null, .null, .null, .int (zI 0), .null, .null, .null, .null, .int (zI 0), .int (zI 0), .null]) (rest := []) hx hb hts iL_law_X5 tyX5 tyX5_ok hown (hts _ mL_law_7) (hts _ mL_law_8) (hts _ mL_law_9) hK hA hW rfl df_X5 (Nat.le_of_ble_eq_true rfl) (Nat.le_of_ble_eq_true rfl) dL_law_8 (fun q_8_3 H hW => ?_)
  have hW : zW D A s.heap [[(q_0_1, .inr (4, [.ref (axb_4 0), .ref (axn_4 0), .int (zI 0), .ref xh_4, .ref (axt_4 0), .ref (axc_4 0)]))], zBoard cI axb_4 b_4, zBoard cI axn_4 bn_4, [(xh_4, .inr (2, [.ref xa_4, .int (zI 0)]))], [zRefs cB xa_4 (some (v0_4 0)) (some (v1_4 0)) (some (v2_4 0)) (some (v3_4 0))], zBoard cI v0_4 e0_4, zBoard cI v1_4 e1_4, zBoard cI v2_4 e2_4, zBoard cI v3_4 e3_4, zText cI axt_4 t_4, zCont cI axc_4 cn_4, [(q_8_3, .inr (5, [.null, .null, .null, .null, .int (zI 0), .null, .int (zI 0), .null, .null, .null, .int (zI 0), .null, .null, .null, .null, .int (zI 0), .int (zI 0), .null]))]] H _ := hW
  refine lv_dup hx hb dL_law_11 rfl ?_
  refine z_callI (As := []) (rest := [.ref q_8_3]) hS hK hA hW hl.1 [11] [0, 1, 2, 3, 4, 5, 6, 7, 8, 9, 10] (kX5_init l D cI cB q_8_3) (cwI 0 hts gL_law_X5_init rfl rfl rfl (hts _ mL_law_9) (hts _ mL_law_10) (hts _ mL_law_11) rfl (by decide +kernel) ⟨Nat.le_of_ble_eq_true rfl, Nat.le_of_ble_eq_true rfl⟩) dL_law_12 rfl rfl rfl (show ([11] ++ [0, 1, 2, 3, 4, 5, 6, 7, 8, 9, 10] : List Nat).isPerm (List.range 12) = true by decide +kernel) rfl (Nat.le_of_ble_eq_true rfl) ⟨Nat.le_of_ble_eq_true rfl, Nat.le_of_ble_eq_true rfl⟩ (fun v9 w9 H locs hq hW => ?_)
  obtain ⟨amz_12, sz9_12, rfl, rfl, hh_12⟩ := hq
  have hW : zW D A s.heap [zMod2 cI amz_12 sz9_12, [(q_0_1, .inr (4, [.ref (axb_4 0), .ref (axn_4 0), .int (zI 0), .ref xh_4, .ref (axt_4 0), .ref (axc_4 0)]))], zBoard cI axb_4 b_4, zBoard cI axn_4 bn_4, [(xh_4, .inr (2, [.ref xa_4, .int (zI 0)]))], [zRefs cB xa_4 (some (v0_4 0)) (some (v1_4 0)) (some (v2_4 0)) (some (v3_4 0))], zBoard cI v0_4 e0_4, zBoard cI v1_4 e1_4, zBoard cI v2_4 e2_4, zBoard cI v3_4 e3_4, zText cI axt_4 t_4, zCont cI axc_4 cn_4] H locs := hW
  have hW : zW D A s.heap [[(q_0_1, .inr (4, [.ref (axb_4 0), .ref (axn_4 0), .int (zI 0), .ref xh_4, .ref (axt_4 0), .ref (axc_4 0)]))], zBoard cI axb_4 b_4, zBoard cI axn_4 bn_4, [(xh_4, .inr (2, [.ref xa_4, .int (zI 0)]))], [zRefs cB xa_4 (some (v0_4 0)) (some (v1_4 0)) (some (v2_4 0)) (some (v3_4 0))], zBoard cI v0_4 e0_4, zBoard cI v1_4 e1_4, zBoard cI v2_4 e2_4, zBoard cI v3_4 e3_4, zText cI axt_4 t_4, zCont cI axc_4 cn_4, zMod2 cI amz_12 sz9_12] H locs := hW.pick [1, 2, 3, 4, 5, 6, 7, 8, 9, 10, 11, 0] rfl (show ([1, 2, 3, 4, 5, 6, 7, 8, 9, 10, 11, 0] : List Nat).isPerm (List.range 12) = true by decide +kernel)
  have hW9 := hW
  obtain ⟨hc_12, hh_12⟩ := hh_12
  subst hc_12
  have hW := hW9
  refine W.eq (g2 := F0 m 15 ls [.ref (amz_12 0)]) rfl ?_
  refine lv_astore_n (lv' := [(2, .ref (amz_12 0)), (1, .ref q_0_1), (0, .ref b)]) hx hb dL_law_15 rfl hl (by decide) rfl (fun ls hl => ?_)
  refine lv_iconst (v := zI (0)) hx hb dL_law_16 rfl ?_
  refine lv_istore_n (lv' := [(3, .int (zI 0)), (2, .ref (amz_12 0)), (1, .ref q_0_1), (0, .ref b)]) hx hb dL_law_17 rfl hl (by decide) rfl (fun ls hl => ?_)
  have hR0 : lwR 0 0 b_4 bn_4 t_4 e0_4 e1_4 e2_4 e3_4 sz9_12 ([], [0, 1, 2, 3, 4], 0) [] ([], [0, 1, 2, 3, 4], 0) := ⟨⟨hh_4.1, hh_4.2.2.1, hh_4.2.1, hh_4.2.2.2.1⟩, ⟨hh_12.1, hh_12.2.1⟩, ⟨hh_12.2.2.1, by omega, by omega⟩, fun h => absurd rfl h, hh_12.2.2.2.1, hh_4.2.2.2.2.trans hh_12.2.2.2.2.symm, fun i i1 i2 => by rw [hh_4.2.2.2.2] at i2; omega⟩
  exact lw_loop hS hK hA hL hX hbl hbA hys hr hlocks hA2 (L + 1) 0 0 b_4 bn_4 v0_4 v1_4 v2_4 v3_4 e0_4 e1_4 e2_4 e3_4 t_4 cn_4 sz9_12 ([], [0, 1, 2, 3, 4], 0) [] ([], [0, 1, 2, 3, 4], 0) 0 (by omega) (by omega) hR0 _ _ hW ls (lv_sub hl [3, 2, 1, 0] rfl)
