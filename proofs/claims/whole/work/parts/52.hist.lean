abbrev qX2_stateAt (cI : ClassId) (xh xa : Nat) (hn : Int) (u0 u1 u2 u3 : Nat → Nat) (cB : ClassId) (y1 : Int) : Option Value → List va_W → Prop := fun vq wq => vq = some (.ref (ad4v (u0 0) (u1 0) (u2 0) (u3 0) y1)) ∧ wq = [[(xh, .inr (2, [.ref xa, .int (zI hn)]))], [zRefs cB xa (some (u0 0)) (some (u1 0)) (some (u2 0)) (some (u3 0))]] ∧ (True)
set_option maxRecDepth 20000 in
theorem iX2_stateAt_X2 : ∀ w ∈ u_ws RX2 TX2 2, w ∈ wsX2_stateAt := by decide +kernel
set_option maxRecDepth 20000 in
theorem mX2_stateAt_1 : (.fieldLink RX2 11 "StoryPanels$History" "states" "[LStoryPanels$Board;" : Cond) ∈ wsX2_stateAt := by decide +kernel
set_option maxHeartbeats 4000000 in
set_option maxRecDepth 100000 in
theorem kX2_stateAt (l : Launch) (D : va_G) (cI cB : ClassId) (xh xa : Nat) (hn : Int) (u0 u1 u2 u3 : Nat → Nat) (y1 : Int) (hy1 : 0 ≤ y1 ∧ y1 < 4) : zMet l yX2_stateAt wsX2_stateAt 0 0 0 0 D cI cB [.ref xh, .int (zI y1)] [[(xh, .inr (2, [.ref xa, .int (zI hn)]))], [zRefs cB xa (some (u0 0)) (some (u1 0)) (some (u2 0)) (some (u3 0))]] (qX2_stateAt cI xh xa hn u0 u1 u2 u3 cB y1) := by
  refine zMet.of (cd := cX2_stateAt) (maxL := 2) (ret := (some (.object "StoryPanels$Board"))) (by decide) rfl (Nat.le_of_ble_eq_true rfl) ?_
  intro p e s m args below meth c A ls hS hr hlk hnm hK hA hW hl
  have hS : CallFix p m c cX2_stateAt 2 s args wsX2_stateAt RX2 := hS
  have hx := hS.1
  have hb := hS.2.1
  have hown := hS.2.2.2.1
  have hts := hS.2.2.2.2
  have hl : lv_has ls 2 [(0, .ref xh), (1, .int (zI y1))] := hl
  refine lv_iload_n hx hb dX2_stateAt_0 rfl (lv_at hl 1 rfl) ?_
  refine z_if_lt (tgt := 22) hx hb dX2_stateAt_1 (by decide) (by omega) (fun cc_1 => ?_) (fun cc_1 => ?_)
  · exact absurd cc_1 (by omega)
  · refine lv_iload_n hx hb dX2_stateAt_4 rfl (lv_at hl 1 rfl) ?_
    refine lv_aload_n hx hb dX2_stateAt_5 rfl (lv_at hl 0 rfl) ?_
    refine va_get (D := D) (ci := 2) (v := .ref xa) (C := RX2) (T := TX2) (N := 2) hx hb hts iX2_stateAt_X2 hown hK.1 hW.1 0 rfl rfl 0 (by decide) (hts _ mX2_stateAt_1) (fun _ h9 => h9) rfl dX2_stateAt_6 ?_
    refine z_alenR hx hb hK hW 1 rfl dX2_stateAt_9 ?_
    refine z_icmp_ge (tgt := 22) hx hb dX2_stateAt_10 (by decide) (by omega) (fun cc_10 => ?_) (fun cc_10 => ?_)
    · exact absurd cc_10 (by omega)
    · refine lv_aload_n hx hb dX2_stateAt_13 rfl (lv_at hl 0 rfl) ?_
      refine va_get (D := D) (ci := 2) (v := .ref xa) (C := RX2) (T := TX2) (N := 2) hx hb hts iX2_stateAt_X2 hown hK.1 hW.1 0 rfl rfl 0 (by decide) (hts _ mX2_stateAt_1) (fun _ h9 => h9) rfl dX2_stateAt_14 ?_
      refine lv_iload_n hx hb dX2_stateAt_17 rfl (lv_at hl 1 rfl) ?_
      refine z_aald (r := ad4v (u0 0) (u1 0) (u2 0) (u3 0) y1) hx hb hK hW 1 rfl dX2_stateAt_18 (by omega) (ad4_at (by omega)) ?_
      refine lv_goto (tgt := 23) hx hb dX2_stateAt_19 (by decide) ?_
      exact z_aret (v := .ref (ad4v (u0 0) (u1 0) (u2 0) (u3 0) y1)) hx hb hr hlk hW dX2_stateAt_23 (Or.inl ⟨_, rfl⟩) (Or.inr ⟨_, rfl⟩) (by
          exact ⟨rfl, rfl, by trivial⟩)

abbrev qX2_dropOldest (cI : ClassId) (xh xa : Nat) (hn : Int) (u0 u1 u2 u3 : Nat → Nat) (cB : ClassId) (d0 d1 d2 d3 : zBS) : Option Value → List va_W → Prop := fun vq wq => vq = none ∧ wq = [[(xh, .inr (2, [.ref xa, .int (zI (hn - 1))]))], [zRefs cB xa (some (u1 0)) (some (u2 0)) (some (u3 0)) (some (u0 0))], zBoard cI u0 d0, zBoard cI u1 d1, zBoard cI u2 d2, zBoard cI u3 d3] ∧ (True)
set_option maxRecDepth 20000 in
theorem iX2_dropOldest_X2 : ∀ w ∈ u_ws RX2 TX2 2, w ∈ wsX2_dropOldest := by decide +kernel
set_option maxRecDepth 20000 in
theorem mX2_dropOldest_1 : (.fieldLink RX2 11 "StoryPanels$History" "states" "[LStoryPanels$Board;" : Cond) ∈ wsX2_dropOldest := by decide +kernel
set_option maxRecDepth 20000 in
theorem mX2_dropOldest_2 : (.fieldLink RX2 17 "StoryPanels$History" "size" "I" : Cond) ∈ wsX2_dropOldest := by decide +kernel
set_option maxHeartbeats 4000000 in
set_option maxRecDepth 100000 in
theorem kX2_dropOldest (l : Launch) (D : va_G) (cI cB : ClassId) (xh xa : Nat) (hn : Int) (u0 u1 u2 u3 : Nat → Nat) (d0 d1 d2 d3 : zBS)  : zMet l yX2_dropOldest wsX2_dropOldest 1 21 0 0 D cI cB [.ref xh] [[(xh, .inr (2, [.ref xa, .int (zI hn)]))], [zRefs cB xa (some (u0 0)) (some (u1 0)) (some (u2 0)) (some (u3 0))], zBoard cI u0 d0, zBoard cI u1 d1, zBoard cI u2 d2, zBoard cI u3 d3] (qX2_dropOldest cI xh xa hn u0 u1 u2 u3 cB d0 d1 d2 d3) := by
  refine zMet.of (cd := cX2_dropOldest) (maxL := 3) (ret := none) (by decide) rfl (Nat.le_of_ble_eq_true rfl) ?_
  intro p e s m args below meth c A ls hS hr hlk hnm hK hA hW hl
  have hS : CallFix p m c cX2_dropOldest 3 s args wsX2_dropOldest RX2 := hS
  have hx := hS.1
  have hb := hS.2.1
  have hown := hS.2.2.2.1
  have hts := hS.2.2.2.2
  have hl : lv_has ls 3 [(0, .ref xh)] := hl
  refine lv_aload_n hx hb dX2_dropOldest_0 rfl (lv_at hl 0 rfl) ?_
  refine lv_iconst (v := zI (0)) hx hb dX2_dropOldest_1 rfl ?_
  refine z_callV (r := (RX2, TX2, 2)) (As := [.int (zI 0)]) (rest := []) hS hK hA hW hl.1 [0, 1] [2, 3, 4, 5] (kX2_stateAt l D cI cB xh xa hn u0 u1 u2 u3 0 (by omega)) (cwV 1 hts gX2_dropOldest_X2_stateAt rfl rfl rfl (by decide +kernel) ⟨Nat.le_of_ble_eq_true rfl, Nat.le_of_ble_eq_true rfl⟩) (rfl : vwCl[2]? = some (RX2, TX2, 2)) (q0 := 0) rfl dX2_dropOldest_2 rfl rfl rfl rfl rfl (Nat.le_of_ble_eq_true rfl) ⟨Nat.le_of_ble_eq_true rfl, Nat.le_of_ble_eq_true rfl⟩ (fun v9 w9 H locs hq hW => ?_)
  obtain ⟨rfl, rfl, hh_2⟩ := hq
  have hW : zW D A s.heap [[(xh, .inr (2, [.ref xa, .int (zI hn)]))], [zRefs cB xa (some (u0 0)) (some (u1 0)) (some (u2 0)) (some (u3 0))], zBoard cI u0 d0, zBoard cI u1 d1, zBoard cI u2 d2, zBoard cI u3 d3] H locs := hW
  refine W.eq (g2 := F0 m 5 ls [.ref (ad4v (u0 0) (u1 0) (u2 0) (u3 0) 0)]) rfl ?_
  rw [show (ad4v (u0 0) (u1 0) (u2 0) (u3 0) 0) = (u0 0) by rfl]
  refine lv_astore_n (lv' := [(1, .ref (u0 0)), (0, .ref xh)]) hx hb dX2_dropOldest_5 rfl hl (by decide) rfl (fun ls hl => ?_)
  refine lv_iconst (v := zI (1)) hx hb dX2_dropOldest_6 rfl ?_
  refine lv_istore_n (lv' := [(2, .int (zI 1)), (1, .ref (u0 0)), (0, .ref xh)]) hx hb dX2_dropOldest_7 rfl hl (by decide) rfl (fun ls hl => ?_)
  refine lv_iload_n hx hb dX2_dropOldest_8 rfl (lv_at hl 0 rfl) ?_
  refine lv_aload_n hx hb dX2_dropOldest_9 rfl (lv_at hl 2 rfl) ?_
  refine va_get (D := D) (ci := 2) (v := .ref xa) (C := RX2) (T := TX2) (N := 2) hx hb hts iX2_dropOldest_X2 hown hK.1 hW.1 0 rfl rfl 0 (by decide) (hts _ mX2_dropOldest_1) (fun _ h9 => h9) rfl dX2_dropOldest_10 ?_
  refine z_alenR hx hb hK hW 1 rfl dX2_dropOldest_13 ?_
  refine z_icmp_ge (tgt := 37) hx hb dX2_dropOldest_14 (by decide) (by omega) (fun cc_14 => ?_) (fun cc_14 => ?_)
  · exact absurd cc_14 (by omega)
  · refine lv_aload_n hx hb dX2_dropOldest_17 rfl (lv_at hl 2 rfl) ?_
    refine va_get (D := D) (ci := 2) (v := .ref xa) (C := RX2) (T := TX2) (N := 2) hx hb hts iX2_dropOldest_X2 hown hK.1 hW.1 0 rfl rfl 0 (by decide) (hts _ mX2_dropOldest_1) (fun _ h9 => h9) rfl dX2_dropOldest_18 ?_
    refine lv_iload_n hx hb dX2_dropOldest_21 rfl (lv_at hl 0 rfl) ?_
    refine lv_iconst (v := zI (1)) hx hb dX2_dropOldest_22 rfl ?_
    refine z_isub hx hb dX2_dropOldest_23 ?_
    refine lv_aload_n hx hb dX2_dropOldest_24 rfl (lv_at hl 2 rfl) ?_
    refine va_get (D := D) (ci := 2) (v := .ref xa) (C := RX2) (T := TX2) (N := 2) hx hb hts iX2_dropOldest_X2 hown hK.1 hW.1 0 rfl rfl 0 (by decide) (hts _ mX2_dropOldest_1) (fun _ h9 => h9) rfl dX2_dropOldest_25 ?_
    refine lv_iload_n hx hb dX2_dropOldest_28 rfl (lv_at hl 0 rfl) ?_
    refine z_aald (r := u1 0) hx hb hK hW 1 rfl dX2_dropOldest_29 (by omega) rfl ?_
    refine z_aast (w2 := some (u1 0)) (x2 := some (u1 0)) (y2 := some (u2 0)) (z2 := some (u3 0)) (bs1 := [[(xh, .inr (2, [.ref xa, .int (zI hn)]))], [zRefs cB xa (some (u1 0)) (some (u1 0)) (some (u2 0)) (some (u3 0))], zBoard cI u0 d0, zBoard cI u1 d1, zBoard cI u2 d2, zBoard cI u3 d3]) hx hb hK hW 1 10 rfl rfl dX2_dropOldest_30 (by omega) (by first | exact (if_pos (by omega)).symm | exact (if_neg (by omega)).symm) (by first | exact (if_pos (by omega)).symm | exact (if_neg (by omega)).symm) (by first | exact (if_pos (by omega)).symm | exact (if_neg (by omega)).symm) (by first | exact (if_pos (by omega)).symm | exact (if_neg (by omega)).symm) rfl (fun H locs hW => ?_)
    refine z_iinc (x := 1) (lv' := [(2, .int (zI (1 + 1))), (1, .ref (u0 0)), (0, .ref xh)]) hx hb dX2_dropOldest_31 hl (k := 0) rfl (by decide) rfl (fun ls hl => ?_)
    refine lv_goto (tgt := 8) hx hb dX2_dropOldest_34 (by decide) ?_
    refine lv_iload_n hx hb dX2_dropOldest_8 rfl (lv_at hl 0 rfl) ?_
    refine lv_aload_n hx hb dX2_dropOldest_9 rfl (lv_at hl 2 rfl) ?_
    refine va_get (D := D) (ci := 2) (v := .ref xa) (C := RX2) (T := TX2) (N := 2) hx hb hts iX2_dropOldest_X2 hown hK.1 hW.1 0 rfl rfl 0 (by decide) (hts _ mX2_dropOldest_1) (fun _ h9 => h9) rfl dX2_dropOldest_10 ?_
    refine z_alenR hx hb hK hW 1 rfl dX2_dropOldest_13 ?_
    refine z_icmp_ge (tgt := 37) hx hb dX2_dropOldest_14 (by decide) (by omega) (fun cc_14 => ?_) (fun cc_14 => ?_)
    · exact absurd cc_14 (by omega)
    · refine lv_aload_n hx hb dX2_dropOldest_17 rfl (lv_at hl 2 rfl) ?_
      refine va_get (D := D) (ci := 2) (v := .ref xa) (C := RX2) (T := TX2) (N := 2) hx hb hts iX2_dropOldest_X2 hown hK.1 hW.1 0 rfl rfl 0 (by decide) (hts _ mX2_dropOldest_1) (fun _ h9 => h9) rfl dX2_dropOldest_18 ?_
      refine lv_iload_n hx hb dX2_dropOldest_21 rfl (lv_at hl 0 rfl) ?_
      refine lv_iconst (v := zI (1)) hx hb dX2_dropOldest_22 rfl ?_
      refine z_isub hx hb dX2_dropOldest_23 ?_
      refine lv_aload_n hx hb dX2_dropOldest_24 rfl (lv_at hl 2 rfl) ?_
      refine va_get (D := D) (ci := 2) (v := .ref xa) (C := RX2) (T := TX2) (N := 2) hx hb hts iX2_dropOldest_X2 hown hK.1 hW.1 0 rfl rfl 0 (by decide) (hts _ mX2_dropOldest_1) (fun _ h9 => h9) rfl dX2_dropOldest_25 ?_
      refine lv_iload_n hx hb dX2_dropOldest_28 rfl (lv_at hl 0 rfl) ?_
      refine z_aald (r := u2 0) hx hb hK hW 1 rfl dX2_dropOldest_29 (by omega) rfl ?_
      refine z_aast (w2 := some (u1 0)) (x2 := some (u2 0)) (y2 := some (u2 0)) (z2 := some (u3 0)) (bs1 := [[(xh, .inr (2, [.ref xa, .int (zI hn)]))], [zRefs cB xa (some (u1 0)) (some (u2 0)) (some (u2 0)) (some (u3 0))], zBoard cI u0 d0, zBoard cI u1 d1, zBoard cI u2 d2, zBoard cI u3 d3]) hx hb hK hW 1 18 rfl rfl dX2_dropOldest_30 (by omega) (by first | exact (if_pos (by omega)).symm | exact (if_neg (by omega)).symm) (by first | exact (if_pos (by omega)).symm | exact (if_neg (by omega)).symm) (by first | exact (if_pos (by omega)).symm | exact (if_neg (by omega)).symm) (by first | exact (if_pos (by omega)).symm | exact (if_neg (by omega)).symm) rfl (fun H locs hW => ?_)
      refine z_iinc (x := 1 + 1) (lv' := [(2, .int (zI (1 + 1 + 1))), (1, .ref (u0 0)), (0, .ref xh)]) hx hb dX2_dropOldest_31 hl (k := 0) rfl (by decide) rfl (fun ls hl => ?_)
      refine lv_goto (tgt := 8) hx hb dX2_dropOldest_34 (by decide) ?_
      refine lv_iload_n hx hb dX2_dropOldest_8 rfl (lv_at hl 0 rfl) ?_
      refine lv_aload_n hx hb dX2_dropOldest_9 rfl (lv_at hl 2 rfl) ?_
      refine va_get (D := D) (ci := 2) (v := .ref xa) (C := RX2) (T := TX2) (N := 2) hx hb hts iX2_dropOldest_X2 hown hK.1 hW.1 0 rfl rfl 0 (by decide) (hts _ mX2_dropOldest_1) (fun _ h9 => h9) rfl dX2_dropOldest_10 ?_
      refine z_alenR hx hb hK hW 1 rfl dX2_dropOldest_13 ?_
      refine z_icmp_ge (tgt := 37) hx hb dX2_dropOldest_14 (by decide) (by omega) (fun cc_14 => ?_) (fun cc_14 => ?_)
      · exact absurd cc_14 (by omega)
      · refine lv_aload_n hx hb dX2_dropOldest_17 rfl (lv_at hl 2 rfl) ?_
        refine va_get (D := D) (ci := 2) (v := .ref xa) (C := RX2) (T := TX2) (N := 2) hx hb hts iX2_dropOldest_X2 hown hK.1 hW.1 0 rfl rfl 0 (by decide) (hts _ mX2_dropOldest_1) (fun _ h9 => h9) rfl dX2_dropOldest_18 ?_
        refine lv_iload_n hx hb dX2_dropOldest_21 rfl (lv_at hl 0 rfl) ?_
        refine lv_iconst (v := zI (1)) hx hb dX2_dropOldest_22 rfl ?_
        refine z_isub hx hb dX2_dropOldest_23 ?_
        refine lv_aload_n hx hb dX2_dropOldest_24 rfl (lv_at hl 2 rfl) ?_
        refine va_get (D := D) (ci := 2) (v := .ref xa) (C := RX2) (T := TX2) (N := 2) hx hb hts iX2_dropOldest_X2 hown hK.1 hW.1 0 rfl rfl 0 (by decide) (hts _ mX2_dropOldest_1) (fun _ h9 => h9) rfl dX2_dropOldest_25 ?_
        refine lv_iload_n hx hb dX2_dropOldest_28 rfl (lv_at hl 0 rfl) ?_
        refine z_aald (r := u3 0) hx hb hK hW 1 rfl dX2_dropOldest_29 (by omega) rfl ?_
        refine z_aast (w2 := some (u1 0)) (x2 := some (u2 0)) (y2 := some (u3 0)) (z2 := some (u3 0)) (bs1 := [[(xh, .inr (2, [.ref xa, .int (zI hn)]))], [zRefs cB xa (some (u1 0)) (some (u2 0)) (some (u3 0)) (some (u3 0))], zBoard cI u0 d0, zBoard cI u1 d1, zBoard cI u2 d2, zBoard cI u3 d3]) hx hb hK hW 1 26 rfl rfl dX2_dropOldest_30 (by omega) (by first | exact (if_pos (by omega)).symm | exact (if_neg (by omega)).symm) (by first | exact (if_pos (by omega)).symm | exact (if_neg (by omega)).symm) (by first | exact (if_pos (by omega)).symm | exact (if_neg (by omega)).symm) (by first | exact (if_pos (by omega)).symm | exact (if_neg (by omega)).symm) rfl (fun H locs hW => ?_)
        refine z_iinc (x := 1 + 1 + 1) (lv' := [(2, .int (zI (1 + 1 + 1 + 1))), (1, .ref (u0 0)), (0, .ref xh)]) hx hb dX2_dropOldest_31 hl (k := 0) rfl (by decide) rfl (fun ls hl => ?_)
        refine lv_goto (tgt := 8) hx hb dX2_dropOldest_34 (by decide) ?_
        refine lv_iload_n hx hb dX2_dropOldest_8 rfl (lv_at hl 0 rfl) ?_
        refine lv_aload_n hx hb dX2_dropOldest_9 rfl (lv_at hl 2 rfl) ?_
        refine va_get (D := D) (ci := 2) (v := .ref xa) (C := RX2) (T := TX2) (N := 2) hx hb hts iX2_dropOldest_X2 hown hK.1 hW.1 0 rfl rfl 0 (by decide) (hts _ mX2_dropOldest_1) (fun _ h9 => h9) rfl dX2_dropOldest_10 ?_
        refine z_alenR hx hb hK hW 1 rfl dX2_dropOldest_13 ?_
        refine z_icmp_ge (tgt := 37) hx hb dX2_dropOldest_14 (by decide) (by omega) (fun cc_14 => ?_) (fun cc_14 => ?_)
        · refine lv_aload_n hx hb dX2_dropOldest_37 rfl (lv_at hl 2 rfl) ?_
          refine va_get (D := D) (ci := 2) (v := .ref xa) (C := RX2) (T := TX2) (N := 2) hx hb hts iX2_dropOldest_X2 hown hK.1 hW.1 0 rfl rfl 0 (by decide) (hts _ mX2_dropOldest_1) (fun _ h9 => h9) rfl dX2_dropOldest_38 ?_
          refine z_alenR hx hb hK hW 1 rfl dX2_dropOldest_41 ?_
          refine z_if_le (tgt := 58) hx hb dX2_dropOldest_42 (by decide) (by omega) (fun cc_42 => ?_) (fun cc_42 => ?_)
          · exact absurd cc_42 (by omega)
          · refine lv_aload_n hx hb dX2_dropOldest_45 rfl (lv_at hl 2 rfl) ?_
            refine va_get (D := D) (ci := 2) (v := .ref xa) (C := RX2) (T := TX2) (N := 2) hx hb hts iX2_dropOldest_X2 hown hK.1 hW.1 0 rfl rfl 0 (by decide) (hts _ mX2_dropOldest_1) (fun _ h9 => h9) rfl dX2_dropOldest_46 ?_
            refine lv_aload_n hx hb dX2_dropOldest_49 rfl (lv_at hl 2 rfl) ?_
            refine va_get (D := D) (ci := 2) (v := .ref xa) (C := RX2) (T := TX2) (N := 2) hx hb hts iX2_dropOldest_X2 hown hK.1 hW.1 0 rfl rfl 0 (by decide) (hts _ mX2_dropOldest_1) (fun _ h9 => h9) rfl dX2_dropOldest_50 ?_
            refine z_alenR hx hb hK hW 1 rfl dX2_dropOldest_53 ?_
            refine lv_iconst (v := zI (1)) hx hb dX2_dropOldest_54 rfl ?_
            refine z_isub hx hb dX2_dropOldest_55 ?_
            refine lv_aload_n hx hb dX2_dropOldest_56 rfl (lv_at hl 1 rfl) ?_
            refine z_aast (w2 := some (u1 0)) (x2 := some (u2 0)) (y2 := some (u3 0)) (z2 := some (u0 0)) (bs1 := [[(xh, .inr (2, [.ref xa, .int (zI hn)]))], [zRefs cB xa (some (u1 0)) (some (u2 0)) (some (u3 0)) (some (u0 0))], zBoard cI u0 d0, zBoard cI u1 d1, zBoard cI u2 d2, zBoard cI u3 d3]) hx hb hK hW 1 2 rfl rfl dX2_dropOldest_57 (by omega) (by first | exact (if_pos (by omega)).symm | exact (if_neg (by omega)).symm) (by first | exact (if_pos (by omega)).symm | exact (if_neg (by omega)).symm) (by first | exact (if_pos (by omega)).symm | exact (if_neg (by omega)).symm) (by first | exact (if_pos (by omega)).symm | exact (if_neg (by omega)).symm) rfl (fun H locs hW => ?_)
            refine lv_aload_n hx hb dX2_dropOldest_58 rfl (lv_at hl 2 rfl) ?_
            refine lv_dup hx hb dX2_dropOldest_59 rfl ?_
            refine va_get (D := D) (ci := 2) (v := .int (zI hn)) (C := RX2) (T := TX2) (N := 2) hx hb hts iX2_dropOldest_X2 hown hK.1 hW.1 0 rfl rfl 1 (by decide) (hts _ mX2_dropOldest_2) (fun _ h9 => h9) rfl dX2_dropOldest_60 ?_
            refine lv_iconst (v := zI (1)) hx hb dX2_dropOldest_63 rfl ?_
            refine z_isub hx hb dX2_dropOldest_64 ?_
            refine va_put (D := D) (ci := 2) (v := .int (zI (hn - 1))) (ty := .int) (C := RX2) (T := TX2) (N := 2) hx hb hts iX2_dropOldest_X2 tyX2 tyX2_ok nmX2 hown hK.1 hW.1 hW.2.1 hW.2.2 0 rfl rfl 1 (by decide) (hts _ mX2_dropOldest_2) (fun _ h9 => h9) rfl (by decide +kernel) rfl rfl (Nat.le_of_ble_eq_true rfl) dX2_dropOldest_65 (fun H locs h1 h2 h3 => ?_)
            have hW : zW D A s.heap [[(xh, .inr (2, [.ref xa, .int (zI (hn - 1))]))], [zRefs cB xa (some (u1 0)) (some (u2 0)) (some (u3 0)) (some (u0 0))], zBoard cI u0 d0, zBoard cI u1 d1, zBoard cI u2 d2, zBoard cI u3 d3] H locs := ⟨h1, h2, h3⟩
            exact z_vret hx hb hr hlk hW dX2_dropOldest_68 (by
                exact ⟨rfl, rfl, by trivial⟩)
        · exact absurd cc_14 (by omega)

abbrev qX2_remember (cI : ClassId) (xh xa : Nat) (hn : Int) (u0 u1 u2 u3 : Nat → Nat) (cB : ClassId) (d0 d1 d2 d3 : zBS) (axb : Nat → Nat) (b : zBS) (hs : List zSt) (S : zSt) : Option Value → List va_W → Prop := fun vq wq => ∃ (hnz : Int) (g0 : Nat → Nat) (g1 : Nat → Nat) (g2 : Nat → Nat) (g3 : Nat → Nat) (e0 : zBS) (e1 : zBS) (e2 : zBS) (e3 : zBS), vq = none ∧ wq = [[(xh, .inr (2, [.ref xa, .int (zI hnz)]))], [zRefs cB xa (some (g0 0)) (some (g1 0)) (some (g2 0)) (some (g3 0))], zBoard cI g0 e0, zBoard cI g1 e1, zBoard cI g2 e2, zBoard cI g3 e3, zBoard cI axb b] ∧ (HB hnz e0 e1 e2 e3 (pushH hs S))
set_option maxRecDepth 20000 in
theorem iX2_remember_X2 : ∀ w ∈ u_ws RX2 TX2 2, w ∈ wsX2_remember := by decide +kernel
set_option maxRecDepth 20000 in
theorem mX2_remember_1 : (.fieldLink RX2 17 "StoryPanels$History" "size" "I" : Cond) ∈ wsX2_remember := by decide +kernel
set_option maxHeartbeats 4000000 in
set_option maxRecDepth 100000 in
theorem kX2_remember (l : Launch) (D : va_G) (cI cB : ClassId) (xh xa : Nat) (hn : Int) (u0 u1 u2 u3 : Nat → Nat) (d0 d1 d2 d3 : zBS) (axb : Nat → Nat) (b : zBS) (hs : List zSt) (S : zSt) (hHB : HB hn d0 d1 d2 d3 hs) (hRS : RBS b S) : zMet l yX2_remember wsX2_remember 2 43 0 0 D cI cB [.ref xh, .ref (axb 0)] [[(xh, .inr (2, [.ref xa, .int (zI hn)]))], [zRefs cB xa (some (u0 0)) (some (u1 0)) (some (u2 0)) (some (u3 0))], zBoard cI u0 d0, zBoard cI u1 d1, zBoard cI u2 d2, zBoard cI u3 d3, zBoard cI axb b] (qX2_remember cI xh xa hn u0 u1 u2 u3 cB d0 d1 d2 d3 axb b hs S) := by
  refine zMet.of (cd := cX2_remember) (maxL := 3) (ret := none) (by decide) rfl (Nat.le_of_ble_eq_true rfl) ?_
  intro p e s m args below meth c A ls hS hr hlk hnm hK hA hW hl
  have hS : CallFix p m c cX2_remember 3 s args wsX2_remember RX2 := hS
  have hx := hS.1
  have hb := hS.2.1
  have hown := hS.2.2.2.1
  have hts := hS.2.2.2.2
  have hl : lv_has ls 3 [(0, .ref xh), (1, .ref (axb 0))] := hl
  have hb1 := hHB.1
  have hb2 := hHB.2.1
  refine lv_aload_n hx hb dX2_remember_0 rfl (lv_at hl 0 rfl) ?_
  refine va_get (D := D) (ci := 2) (v := .int (zI hn)) (C := RX2) (T := TX2) (N := 2) hx hb hts iX2_remember_X2 hown hK.1 hW.1 0 rfl rfl 1 (by decide) (hts _ mX2_remember_1) (fun _ h9 => h9) rfl dX2_remember_1 ?_
  refine lv_iconst (v := zI (4)) hx hb dX2_remember_4 rfl ?_
  refine z_icmp_lt (tgt := 12) hx hb dX2_remember_5 (by decide) (by omega) (fun cc_5 => ?_) (fun cc_5 => ?_)
  · rcases (show hn = 0 ∨ hn = 1 ∨ hn = 2 ∨ hn = 3 by omega) with rfl | rfl | rfl | rfl
    · refine lv_aload_n hx hb dX2_remember_12 rfl (lv_at hl 0 rfl) ?_
      refine lv_aload_n hx hb dX2_remember_13 rfl (lv_at hl 0 rfl) ?_
      refine va_get (D := D) (ci := 2) (v := .int (zI 0)) (C := RX2) (T := TX2) (N := 2) hx hb hts iX2_remember_X2 hown hK.1 hW.1 0 rfl rfl 1 (by decide) (hts _ mX2_remember_1) (fun _ h9 => h9) rfl dX2_remember_14 ?_
      refine z_callV (r := (RX2, TX2, 2)) (As := [.int (zI 0)]) (rest := []) hS hK hA hW hl.1 [0, 1] [2, 3, 4, 5, 6] (kX2_stateAt l D cI cB xh xa 0 u0 u1 u2 u3 0 (by omega)) (cwV 1 hts gX2_remember_X2_stateAt rfl rfl rfl (by decide +kernel) ⟨Nat.le_of_ble_eq_true rfl, Nat.le_of_ble_eq_true rfl⟩) (rfl : vwCl[2]? = some (RX2, TX2, 2)) (q0 := 0) rfl dX2_remember_17 rfl rfl rfl rfl rfl (Nat.le_of_ble_eq_true rfl) ⟨Nat.le_of_ble_eq_true rfl, Nat.le_of_ble_eq_true rfl⟩ (fun v9 w9 H locs hq hW => ?_)
      obtain ⟨rfl, rfl, hh_17⟩ := hq
      have hW : zW D A s.heap [[(xh, .inr (2, [.ref xa, .int (zI 0)]))], [zRefs cB xa (some (u0 0)) (some (u1 0)) (some (u2 0)) (some (u3 0))], zBoard cI u0 d0, zBoard cI u1 d1, zBoard cI u2 d2, zBoard cI u3 d3, zBoard cI axb b] H locs := hW
      refine W.eq (g2 := F0 m 20 ls [.ref (ad4v (u0 0) (u1 0) (u2 0) (u3 0) 0)]) rfl ?_
      rw [show (ad4v (u0 0) (u1 0) (u2 0) (u3 0) 0) = (u0 0) by rfl]
      refine lv_astore_n (lv' := [(2, .ref (u0 0)), (0, .ref xh), (1, .ref (axb 0))]) hx hb dX2_remember_20 rfl hl (by decide) rfl (fun ls hl => ?_)
      refine lv_aload_n hx hb dX2_remember_21 rfl (lv_at hl 0 rfl) ?_
      refine lv_ifnonnull (tgt := 26) hx hb dX2_remember_22 (by decide) ?_
      refine lv_aload_n hx hb dX2_remember_26 rfl (lv_at hl 0 rfl) ?_
      refine lv_aload_n hx hb dX2_remember_27 rfl (lv_at hl 2 rfl) ?_
      refine z_callV (r := (RX0, TX0, 9)) (As := [.ref (axb 0)]) (rest := []) hS hK hA hW hl.1 [2, 6] [0, 1, 3, 4, 5] (kX0_copyFrom l D cI cB u0 d0 axb b) (cwV 1 hts gX2_remember_X0_copyFrom rfl rfl rfl (by decide +kernel) ⟨Nat.le_of_ble_eq_true rfl, Nat.le_of_ble_eq_true rfl⟩) (rfl : vwCl[0]? = some (RX0, TX0, 9)) (q0 := 2) rfl dX2_remember_28 rfl rfl rfl rfl rfl (Nat.le_of_ble_eq_true rfl) ⟨Nat.le_of_ble_eq_true rfl, Nat.le_of_ble_eq_true rfl⟩ (fun v9 w9 H locs hq hW => ?_)
      obtain ⟨rfl, rfl, hh_28⟩ := hq
      have hW : zW D A s.heap [zBoard cI u0 (zcpB d0 b), zBoard cI axb b, [(xh, .inr (2, [.ref xa, .int (zI 0)]))], [zRefs cB xa (some (u0 0)) (some (u1 0)) (some (u2 0)) (some (u3 0))], zBoard cI u1 d1, zBoard cI u2 d2, zBoard cI u3 d3] H locs := hW
      have hW : zW D A s.heap [[(xh, .inr (2, [.ref xa, .int (zI 0)]))], [zRefs cB xa (some (u0 0)) (some (u1 0)) (some (u2 0)) (some (u3 0))], zBoard cI u0 (zcpB d0 b), zBoard cI u1 d1, zBoard cI u2 d2, zBoard cI u3 d3, zBoard cI axb b] H locs := hW.pick [2, 3, 0, 4, 5, 6, 1] rfl rfl
      refine W.eq (g2 := F0 m 31 ls []) rfl ?_
      refine lv_aload_n hx hb dX2_remember_31 rfl (lv_at hl 1 rfl) ?_
      refine lv_dup hx hb dX2_remember_32 rfl ?_
      refine va_get (D := D) (ci := 2) (v := .int (zI 0)) (C := RX2) (T := TX2) (N := 2) hx hb hts iX2_remember_X2 hown hK.1 hW.1 0 rfl rfl 1 (by decide) (hts _ mX2_remember_1) (fun _ h9 => h9) rfl dX2_remember_33 ?_
      refine lv_iconst (v := zI (1)) hx hb dX2_remember_36 rfl ?_
      refine z_iadd hx hb dX2_remember_37 ?_
      refine va_put (D := D) (ci := 2) (v := .int (zI (0 + 1))) (ty := .int) (C := RX2) (T := TX2) (N := 2) hx hb hts iX2_remember_X2 tyX2 tyX2_ok nmX2 hown hK.1 hW.1 hW.2.1 hW.2.2 0 rfl rfl 1 (by decide) (hts _ mX2_remember_1) (fun _ h9 => h9) rfl (by decide +kernel) rfl rfl (Nat.le_of_ble_eq_true rfl) dX2_remember_38 (fun H locs h1 h2 h3 => ?_)
      have hW : zW D A s.heap [[(xh, .inr (2, [.ref xa, .int (zI (0 + 1))]))], [zRefs cB xa (some (u0 0)) (some (u1 0)) (some (u2 0)) (some (u3 0))], zBoard cI u0 (zcpB d0 b), zBoard cI u1 d1, zBoard cI u2 d2, zBoard cI u3 d3, zBoard cI axb b] H locs := ⟨h1, h2, h3⟩
      exact z_vret hx hb hr hlk hW dX2_remember_41 (by
          exact ⟨0 + 1, u0, u1, u2, u3, zcpB d0 b, d1, d2, d3, rfl, rfl, by exact HB_push hHB hRS (n := 0) rfl (by omega) (fun k hkq => by rcases (show k = 0 by omega) with rfl <;> rfl)⟩)
    · refine lv_aload_n hx hb dX2_remember_12 rfl (lv_at hl 0 rfl) ?_
      refine lv_aload_n hx hb dX2_remember_13 rfl (lv_at hl 0 rfl) ?_
      refine va_get (D := D) (ci := 2) (v := .int (zI 1)) (C := RX2) (T := TX2) (N := 2) hx hb hts iX2_remember_X2 hown hK.1 hW.1 0 rfl rfl 1 (by decide) (hts _ mX2_remember_1) (fun _ h9 => h9) rfl dX2_remember_14 ?_
      refine z_callV (r := (RX2, TX2, 2)) (As := [.int (zI 1)]) (rest := []) hS hK hA hW hl.1 [0, 1] [2, 3, 4, 5, 6] (kX2_stateAt l D cI cB xh xa 1 u0 u1 u2 u3 1 (by omega)) (cwV 1 hts gX2_remember_X2_stateAt rfl rfl rfl (by decide +kernel) ⟨Nat.le_of_ble_eq_true rfl, Nat.le_of_ble_eq_true rfl⟩) (rfl : vwCl[2]? = some (RX2, TX2, 2)) (q0 := 0) rfl dX2_remember_17 rfl rfl rfl rfl rfl (Nat.le_of_ble_eq_true rfl) ⟨Nat.le_of_ble_eq_true rfl, Nat.le_of_ble_eq_true rfl⟩ (fun v9 w9 H locs hq hW => ?_)
      obtain ⟨rfl, rfl, hh_17⟩ := hq
      have hW : zW D A s.heap [[(xh, .inr (2, [.ref xa, .int (zI 1)]))], [zRefs cB xa (some (u0 0)) (some (u1 0)) (some (u2 0)) (some (u3 0))], zBoard cI u0 d0, zBoard cI u1 d1, zBoard cI u2 d2, zBoard cI u3 d3, zBoard cI axb b] H locs := hW
      refine W.eq (g2 := F0 m 20 ls [.ref (ad4v (u0 0) (u1 0) (u2 0) (u3 0) 1)]) rfl ?_
      rw [show (ad4v (u0 0) (u1 0) (u2 0) (u3 0) 1) = (u1 0) by rfl]
      refine lv_astore_n (lv' := [(2, .ref (u1 0)), (0, .ref xh), (1, .ref (axb 0))]) hx hb dX2_remember_20 rfl hl (by decide) rfl (fun ls hl => ?_)
      refine lv_aload_n hx hb dX2_remember_21 rfl (lv_at hl 0 rfl) ?_
      refine lv_ifnonnull (tgt := 26) hx hb dX2_remember_22 (by decide) ?_
      refine lv_aload_n hx hb dX2_remember_26 rfl (lv_at hl 0 rfl) ?_
      refine lv_aload_n hx hb dX2_remember_27 rfl (lv_at hl 2 rfl) ?_
      refine z_callV (r := (RX0, TX0, 9)) (As := [.ref (axb 0)]) (rest := []) hS hK hA hW hl.1 [3, 6] [0, 1, 2, 4, 5] (kX0_copyFrom l D cI cB u1 d1 axb b) (cwV 1 hts gX2_remember_X0_copyFrom rfl rfl rfl (by decide +kernel) ⟨Nat.le_of_ble_eq_true rfl, Nat.le_of_ble_eq_true rfl⟩) (rfl : vwCl[0]? = some (RX0, TX0, 9)) (q0 := 10) rfl dX2_remember_28 rfl rfl rfl rfl rfl (Nat.le_of_ble_eq_true rfl) ⟨Nat.le_of_ble_eq_true rfl, Nat.le_of_ble_eq_true rfl⟩ (fun v9 w9 H locs hq hW => ?_)
      obtain ⟨rfl, rfl, hh_28⟩ := hq
      have hW : zW D A s.heap [zBoard cI u1 (zcpB d1 b), zBoard cI axb b, [(xh, .inr (2, [.ref xa, .int (zI 1)]))], [zRefs cB xa (some (u0 0)) (some (u1 0)) (some (u2 0)) (some (u3 0))], zBoard cI u0 d0, zBoard cI u2 d2, zBoard cI u3 d3] H locs := hW
      have hW : zW D A s.heap [[(xh, .inr (2, [.ref xa, .int (zI 1)]))], [zRefs cB xa (some (u0 0)) (some (u1 0)) (some (u2 0)) (some (u3 0))], zBoard cI u0 d0, zBoard cI u1 (zcpB d1 b), zBoard cI u2 d2, zBoard cI u3 d3, zBoard cI axb b] H locs := hW.pick [2, 3, 4, 0, 5, 6, 1] rfl rfl
      refine W.eq (g2 := F0 m 31 ls []) rfl ?_
      refine lv_aload_n hx hb dX2_remember_31 rfl (lv_at hl 1 rfl) ?_
      refine lv_dup hx hb dX2_remember_32 rfl ?_
      refine va_get (D := D) (ci := 2) (v := .int (zI 1)) (C := RX2) (T := TX2) (N := 2) hx hb hts iX2_remember_X2 hown hK.1 hW.1 0 rfl rfl 1 (by decide) (hts _ mX2_remember_1) (fun _ h9 => h9) rfl dX2_remember_33 ?_
      refine lv_iconst (v := zI (1)) hx hb dX2_remember_36 rfl ?_
      refine z_iadd hx hb dX2_remember_37 ?_
      refine va_put (D := D) (ci := 2) (v := .int (zI (1 + 1))) (ty := .int) (C := RX2) (T := TX2) (N := 2) hx hb hts iX2_remember_X2 tyX2 tyX2_ok nmX2 hown hK.1 hW.1 hW.2.1 hW.2.2 0 rfl rfl 1 (by decide) (hts _ mX2_remember_1) (fun _ h9 => h9) rfl (by decide +kernel) rfl rfl (Nat.le_of_ble_eq_true rfl) dX2_remember_38 (fun H locs h1 h2 h3 => ?_)
      have hW : zW D A s.heap [[(xh, .inr (2, [.ref xa, .int (zI (1 + 1))]))], [zRefs cB xa (some (u0 0)) (some (u1 0)) (some (u2 0)) (some (u3 0))], zBoard cI u0 d0, zBoard cI u1 (zcpB d1 b), zBoard cI u2 d2, zBoard cI u3 d3, zBoard cI axb b] H locs := ⟨h1, h2, h3⟩
      exact z_vret hx hb hr hlk hW dX2_remember_41 (by
          exact ⟨1 + 1, u0, u1, u2, u3, d0, zcpB d1 b, d2, d3, rfl, rfl, by exact HB_push hHB hRS (n := 1) rfl (by omega) (fun k hkq => by rcases (show k = 0 ∨ k = 1 by omega) with rfl | rfl <;> rfl)⟩)
    · refine lv_aload_n hx hb dX2_remember_12 rfl (lv_at hl 0 rfl) ?_
      refine lv_aload_n hx hb dX2_remember_13 rfl (lv_at hl 0 rfl) ?_
      refine va_get (D := D) (ci := 2) (v := .int (zI 2)) (C := RX2) (T := TX2) (N := 2) hx hb hts iX2_remember_X2 hown hK.1 hW.1 0 rfl rfl 1 (by decide) (hts _ mX2_remember_1) (fun _ h9 => h9) rfl dX2_remember_14 ?_
      refine z_callV (r := (RX2, TX2, 2)) (As := [.int (zI 2)]) (rest := []) hS hK hA hW hl.1 [0, 1] [2, 3, 4, 5, 6] (kX2_stateAt l D cI cB xh xa 2 u0 u1 u2 u3 2 (by omega)) (cwV 1 hts gX2_remember_X2_stateAt rfl rfl rfl (by decide +kernel) ⟨Nat.le_of_ble_eq_true rfl, Nat.le_of_ble_eq_true rfl⟩) (rfl : vwCl[2]? = some (RX2, TX2, 2)) (q0 := 0) rfl dX2_remember_17 rfl rfl rfl rfl rfl (Nat.le_of_ble_eq_true rfl) ⟨Nat.le_of_ble_eq_true rfl, Nat.le_of_ble_eq_true rfl⟩ (fun v9 w9 H locs hq hW => ?_)
      obtain ⟨rfl, rfl, hh_17⟩ := hq
      have hW : zW D A s.heap [[(xh, .inr (2, [.ref xa, .int (zI 2)]))], [zRefs cB xa (some (u0 0)) (some (u1 0)) (some (u2 0)) (some (u3 0))], zBoard cI u0 d0, zBoard cI u1 d1, zBoard cI u2 d2, zBoard cI u3 d3, zBoard cI axb b] H locs := hW
      refine W.eq (g2 := F0 m 20 ls [.ref (ad4v (u0 0) (u1 0) (u2 0) (u3 0) 2)]) rfl ?_
      rw [show (ad4v (u0 0) (u1 0) (u2 0) (u3 0) 2) = (u2 0) by rfl]
      refine lv_astore_n (lv' := [(2, .ref (u2 0)), (0, .ref xh), (1, .ref (axb 0))]) hx hb dX2_remember_20 rfl hl (by decide) rfl (fun ls hl => ?_)
      refine lv_aload_n hx hb dX2_remember_21 rfl (lv_at hl 0 rfl) ?_
      refine lv_ifnonnull (tgt := 26) hx hb dX2_remember_22 (by decide) ?_
      refine lv_aload_n hx hb dX2_remember_26 rfl (lv_at hl 0 rfl) ?_
      refine lv_aload_n hx hb dX2_remember_27 rfl (lv_at hl 2 rfl) ?_
      refine z_callV (r := (RX0, TX0, 9)) (As := [.ref (axb 0)]) (rest := []) hS hK hA hW hl.1 [4, 6] [0, 1, 2, 3, 5] (kX0_copyFrom l D cI cB u2 d2 axb b) (cwV 1 hts gX2_remember_X0_copyFrom rfl rfl rfl (by decide +kernel) ⟨Nat.le_of_ble_eq_true rfl, Nat.le_of_ble_eq_true rfl⟩) (rfl : vwCl[0]? = some (RX0, TX0, 9)) (q0 := 18) rfl dX2_remember_28 rfl rfl rfl rfl rfl (Nat.le_of_ble_eq_true rfl) ⟨Nat.le_of_ble_eq_true rfl, Nat.le_of_ble_eq_true rfl⟩ (fun v9 w9 H locs hq hW => ?_)
      obtain ⟨rfl, rfl, hh_28⟩ := hq
      have hW : zW D A s.heap [zBoard cI u2 (zcpB d2 b), zBoard cI axb b, [(xh, .inr (2, [.ref xa, .int (zI 2)]))], [zRefs cB xa (some (u0 0)) (some (u1 0)) (some (u2 0)) (some (u3 0))], zBoard cI u0 d0, zBoard cI u1 d1, zBoard cI u3 d3] H locs := hW
      have hW : zW D A s.heap [[(xh, .inr (2, [.ref xa, .int (zI 2)]))], [zRefs cB xa (some (u0 0)) (some (u1 0)) (some (u2 0)) (some (u3 0))], zBoard cI u0 d0, zBoard cI u1 d1, zBoard cI u2 (zcpB d2 b), zBoard cI u3 d3, zBoard cI axb b] H locs := hW.pick [2, 3, 4, 5, 0, 6, 1] rfl rfl
      refine W.eq (g2 := F0 m 31 ls []) rfl ?_
      refine lv_aload_n hx hb dX2_remember_31 rfl (lv_at hl 1 rfl) ?_
      refine lv_dup hx hb dX2_remember_32 rfl ?_
      refine va_get (D := D) (ci := 2) (v := .int (zI 2)) (C := RX2) (T := TX2) (N := 2) hx hb hts iX2_remember_X2 hown hK.1 hW.1 0 rfl rfl 1 (by decide) (hts _ mX2_remember_1) (fun _ h9 => h9) rfl dX2_remember_33 ?_
      refine lv_iconst (v := zI (1)) hx hb dX2_remember_36 rfl ?_
      refine z_iadd hx hb dX2_remember_37 ?_
      refine va_put (D := D) (ci := 2) (v := .int (zI (2 + 1))) (ty := .int) (C := RX2) (T := TX2) (N := 2) hx hb hts iX2_remember_X2 tyX2 tyX2_ok nmX2 hown hK.1 hW.1 hW.2.1 hW.2.2 0 rfl rfl 1 (by decide) (hts _ mX2_remember_1) (fun _ h9 => h9) rfl (by decide +kernel) rfl rfl (Nat.le_of_ble_eq_true rfl) dX2_remember_38 (fun H locs h1 h2 h3 => ?_)
      have hW : zW D A s.heap [[(xh, .inr (2, [.ref xa, .int (zI (2 + 1))]))], [zRefs cB xa (some (u0 0)) (some (u1 0)) (some (u2 0)) (some (u3 0))], zBoard cI u0 d0, zBoard cI u1 d1, zBoard cI u2 (zcpB d2 b), zBoard cI u3 d3, zBoard cI axb b] H locs := ⟨h1, h2, h3⟩
      exact z_vret hx hb hr hlk hW dX2_remember_41 (by
          exact ⟨2 + 1, u0, u1, u2, u3, d0, d1, zcpB d2 b, d3, rfl, rfl, by exact HB_push hHB hRS (n := 2) rfl (by omega) (fun k hkq => by rcases (show k = 0 ∨ k = 1 ∨ k = 2 by omega) with rfl | rfl | rfl <;> rfl)⟩)
    · refine lv_aload_n hx hb dX2_remember_12 rfl (lv_at hl 0 rfl) ?_
      refine lv_aload_n hx hb dX2_remember_13 rfl (lv_at hl 0 rfl) ?_
      refine va_get (D := D) (ci := 2) (v := .int (zI 3)) (C := RX2) (T := TX2) (N := 2) hx hb hts iX2_remember_X2 hown hK.1 hW.1 0 rfl rfl 1 (by decide) (hts _ mX2_remember_1) (fun _ h9 => h9) rfl dX2_remember_14 ?_
      refine z_callV (r := (RX2, TX2, 2)) (As := [.int (zI 3)]) (rest := []) hS hK hA hW hl.1 [0, 1] [2, 3, 4, 5, 6] (kX2_stateAt l D cI cB xh xa 3 u0 u1 u2 u3 3 (by omega)) (cwV 1 hts gX2_remember_X2_stateAt rfl rfl rfl (by decide +kernel) ⟨Nat.le_of_ble_eq_true rfl, Nat.le_of_ble_eq_true rfl⟩) (rfl : vwCl[2]? = some (RX2, TX2, 2)) (q0 := 0) rfl dX2_remember_17 rfl rfl rfl rfl rfl (Nat.le_of_ble_eq_true rfl) ⟨Nat.le_of_ble_eq_true rfl, Nat.le_of_ble_eq_true rfl⟩ (fun v9 w9 H locs hq hW => ?_)
      obtain ⟨rfl, rfl, hh_17⟩ := hq
      have hW : zW D A s.heap [[(xh, .inr (2, [.ref xa, .int (zI 3)]))], [zRefs cB xa (some (u0 0)) (some (u1 0)) (some (u2 0)) (some (u3 0))], zBoard cI u0 d0, zBoard cI u1 d1, zBoard cI u2 d2, zBoard cI u3 d3, zBoard cI axb b] H locs := hW
      refine W.eq (g2 := F0 m 20 ls [.ref (ad4v (u0 0) (u1 0) (u2 0) (u3 0) 3)]) rfl ?_
      rw [show (ad4v (u0 0) (u1 0) (u2 0) (u3 0) 3) = (u3 0) by rfl]
      refine lv_astore_n (lv' := [(2, .ref (u3 0)), (0, .ref xh), (1, .ref (axb 0))]) hx hb dX2_remember_20 rfl hl (by decide) rfl (fun ls hl => ?_)
      refine lv_aload_n hx hb dX2_remember_21 rfl (lv_at hl 0 rfl) ?_
      refine lv_ifnonnull (tgt := 26) hx hb dX2_remember_22 (by decide) ?_
      refine lv_aload_n hx hb dX2_remember_26 rfl (lv_at hl 0 rfl) ?_
      refine lv_aload_n hx hb dX2_remember_27 rfl (lv_at hl 2 rfl) ?_
      refine z_callV (r := (RX0, TX0, 9)) (As := [.ref (axb 0)]) (rest := []) hS hK hA hW hl.1 [5, 6] [0, 1, 2, 3, 4] (kX0_copyFrom l D cI cB u3 d3 axb b) (cwV 1 hts gX2_remember_X0_copyFrom rfl rfl rfl (by decide +kernel) ⟨Nat.le_of_ble_eq_true rfl, Nat.le_of_ble_eq_true rfl⟩) (rfl : vwCl[0]? = some (RX0, TX0, 9)) (q0 := 26) rfl dX2_remember_28 rfl rfl rfl rfl rfl (Nat.le_of_ble_eq_true rfl) ⟨Nat.le_of_ble_eq_true rfl, Nat.le_of_ble_eq_true rfl⟩ (fun v9 w9 H locs hq hW => ?_)
      obtain ⟨rfl, rfl, hh_28⟩ := hq
      have hW : zW D A s.heap [zBoard cI u3 (zcpB d3 b), zBoard cI axb b, [(xh, .inr (2, [.ref xa, .int (zI 3)]))], [zRefs cB xa (some (u0 0)) (some (u1 0)) (some (u2 0)) (some (u3 0))], zBoard cI u0 d0, zBoard cI u1 d1, zBoard cI u2 d2] H locs := hW
      have hW : zW D A s.heap [[(xh, .inr (2, [.ref xa, .int (zI 3)]))], [zRefs cB xa (some (u0 0)) (some (u1 0)) (some (u2 0)) (some (u3 0))], zBoard cI u0 d0, zBoard cI u1 d1, zBoard cI u2 d2, zBoard cI u3 (zcpB d3 b), zBoard cI axb b] H locs := hW.pick [2, 3, 4, 5, 6, 0, 1] rfl rfl
      refine W.eq (g2 := F0 m 31 ls []) rfl ?_
      refine lv_aload_n hx hb dX2_remember_31 rfl (lv_at hl 1 rfl) ?_
      refine lv_dup hx hb dX2_remember_32 rfl ?_
      refine va_get (D := D) (ci := 2) (v := .int (zI 3)) (C := RX2) (T := TX2) (N := 2) hx hb hts iX2_remember_X2 hown hK.1 hW.1 0 rfl rfl 1 (by decide) (hts _ mX2_remember_1) (fun _ h9 => h9) rfl dX2_remember_33 ?_
      refine lv_iconst (v := zI (1)) hx hb dX2_remember_36 rfl ?_
      refine z_iadd hx hb dX2_remember_37 ?_
      refine va_put (D := D) (ci := 2) (v := .int (zI (3 + 1))) (ty := .int) (C := RX2) (T := TX2) (N := 2) hx hb hts iX2_remember_X2 tyX2 tyX2_ok nmX2 hown hK.1 hW.1 hW.2.1 hW.2.2 0 rfl rfl 1 (by decide) (hts _ mX2_remember_1) (fun _ h9 => h9) rfl (by decide +kernel) rfl rfl (Nat.le_of_ble_eq_true rfl) dX2_remember_38 (fun H locs h1 h2 h3 => ?_)
      have hW : zW D A s.heap [[(xh, .inr (2, [.ref xa, .int (zI (3 + 1))]))], [zRefs cB xa (some (u0 0)) (some (u1 0)) (some (u2 0)) (some (u3 0))], zBoard cI u0 d0, zBoard cI u1 d1, zBoard cI u2 d2, zBoard cI u3 (zcpB d3 b), zBoard cI axb b] H locs := ⟨h1, h2, h3⟩
      exact z_vret hx hb hr hlk hW dX2_remember_41 (by
          exact ⟨3 + 1, u0, u1, u2, u3, d0, d1, d2, zcpB d3 b, rfl, rfl, by exact HB_push hHB hRS (n := 3) rfl (by omega) (fun k hkq => by rcases (show k = 0 ∨ k = 1 ∨ k = 2 ∨ k = 3 by omega) with rfl | rfl | rfl | rfl <;> rfl)⟩)
  · refine lv_aload_n hx hb dX2_remember_8 rfl (lv_at hl 0 rfl) ?_
    refine z_callV (r := (RX2, TX2, 2)) (As := []) (rest := []) hS hK hA hW hl.1 [0, 1, 2, 3, 4, 5] [6] (kX2_dropOldest l D cI cB xh xa hn u0 u1 u2 u3 d0 d1 d2 d3) (cwV 0 hts gX2_remember_X2_dropOldest rfl rfl rfl (by decide +kernel) ⟨Nat.le_of_ble_eq_true rfl, Nat.le_of_ble_eq_true rfl⟩) (rfl : vwCl[2]? = some (RX2, TX2, 2)) (q0 := 0) rfl dX2_remember_9 rfl rfl rfl rfl rfl (Nat.le_of_ble_eq_true rfl) ⟨Nat.le_of_ble_eq_true rfl, Nat.le_of_ble_eq_true rfl⟩ (fun v9 w9 H locs hq hW => ?_)
    obtain ⟨rfl, rfl, hh_9⟩ := hq
    have hW : zW D A s.heap [[(xh, .inr (2, [.ref xa, .int (zI (hn - 1))]))], [zRefs cB xa (some (u1 0)) (some (u2 0)) (some (u3 0)) (some (u0 0))], zBoard cI u0 d0, zBoard cI u1 d1, zBoard cI u2 d2, zBoard cI u3 d3, zBoard cI axb b] H locs := hW
    refine W.eq (g2 := F0 m 12 ls []) rfl ?_
    rcases (show hn = 4 by omega) with rfl
    · refine lv_aload_n hx hb dX2_remember_12 rfl (lv_at hl 0 rfl) ?_
      refine lv_aload_n hx hb dX2_remember_13 rfl (lv_at hl 0 rfl) ?_
      refine va_get (D := D) (ci := 2) (v := .int (zI (4 - 1))) (C := RX2) (T := TX2) (N := 2) hx hb hts iX2_remember_X2 hown hK.1 hW.1 0 rfl rfl 1 (by decide) (hts _ mX2_remember_1) (fun _ h9 => h9) rfl dX2_remember_14 ?_
      refine z_callV (r := (RX2, TX2, 2)) (As := [.int (zI (4 - 1))]) (rest := []) hS hK hA hW hl.1 [0, 1] [2, 3, 4, 5, 6] (kX2_stateAt l D cI cB xh xa (4 - 1) u1 u2 u3 u0 (4 - 1) (by omega)) (cwV 1 hts gX2_remember_X2_stateAt rfl rfl rfl (by decide +kernel) ⟨Nat.le_of_ble_eq_true rfl, Nat.le_of_ble_eq_true rfl⟩) (rfl : vwCl[2]? = some (RX2, TX2, 2)) (q0 := 0) rfl dX2_remember_17 rfl rfl rfl rfl rfl (Nat.le_of_ble_eq_true rfl) ⟨Nat.le_of_ble_eq_true rfl, Nat.le_of_ble_eq_true rfl⟩ (fun v9 w9 H locs hq hW => ?_)
      obtain ⟨rfl, rfl, hh_17⟩ := hq
      have hW : zW D A s.heap [[(xh, .inr (2, [.ref xa, .int (zI (4 - 1))]))], [zRefs cB xa (some (u1 0)) (some (u2 0)) (some (u3 0)) (some (u0 0))], zBoard cI u0 d0, zBoard cI u1 d1, zBoard cI u2 d2, zBoard cI u3 d3, zBoard cI axb b] H locs := hW
      refine W.eq (g2 := F0 m 20 ls [.ref (ad4v (u1 0) (u2 0) (u3 0) (u0 0) (4 - 1))]) rfl ?_
      rw [show (ad4v (u1 0) (u2 0) (u3 0) (u0 0) (4 - 1)) = (u0 0) by rfl]
      refine lv_astore_n (lv' := [(2, .ref (u0 0)), (0, .ref xh), (1, .ref (axb 0))]) hx hb dX2_remember_20 rfl hl (by decide) rfl (fun ls hl => ?_)
      refine lv_aload_n hx hb dX2_remember_21 rfl (lv_at hl 0 rfl) ?_
      refine lv_ifnonnull (tgt := 26) hx hb dX2_remember_22 (by decide) ?_
      refine lv_aload_n hx hb dX2_remember_26 rfl (lv_at hl 0 rfl) ?_
      refine lv_aload_n hx hb dX2_remember_27 rfl (lv_at hl 2 rfl) ?_
      refine z_callV (r := (RX0, TX0, 9)) (As := [.ref (axb 0)]) (rest := []) hS hK hA hW hl.1 [2, 6] [0, 1, 3, 4, 5] (kX0_copyFrom l D cI cB u0 d0 axb b) (cwV 1 hts gX2_remember_X0_copyFrom rfl rfl rfl (by decide +kernel) ⟨Nat.le_of_ble_eq_true rfl, Nat.le_of_ble_eq_true rfl⟩) (rfl : vwCl[0]? = some (RX0, TX0, 9)) (q0 := 2) rfl dX2_remember_28 rfl rfl rfl rfl rfl (Nat.le_of_ble_eq_true rfl) ⟨Nat.le_of_ble_eq_true rfl, Nat.le_of_ble_eq_true rfl⟩ (fun v9 w9 H locs hq hW => ?_)
      obtain ⟨rfl, rfl, hh_28⟩ := hq
      have hW : zW D A s.heap [zBoard cI u0 (zcpB d0 b), zBoard cI axb b, [(xh, .inr (2, [.ref xa, .int (zI (4 - 1))]))], [zRefs cB xa (some (u1 0)) (some (u2 0)) (some (u3 0)) (some (u0 0))], zBoard cI u1 d1, zBoard cI u2 d2, zBoard cI u3 d3] H locs := hW
      have hW : zW D A s.heap [[(xh, .inr (2, [.ref xa, .int (zI (4 - 1))]))], [zRefs cB xa (some (u1 0)) (some (u2 0)) (some (u3 0)) (some (u0 0))], zBoard cI u0 (zcpB d0 b), zBoard cI u1 d1, zBoard cI u2 d2, zBoard cI u3 d3, zBoard cI axb b] H locs := hW.pick [2, 3, 0, 4, 5, 6, 1] rfl rfl
      refine W.eq (g2 := F0 m 31 ls []) rfl ?_
      refine lv_aload_n hx hb dX2_remember_31 rfl (lv_at hl 1 rfl) ?_
      refine lv_dup hx hb dX2_remember_32 rfl ?_
      refine va_get (D := D) (ci := 2) (v := .int (zI (4 - 1))) (C := RX2) (T := TX2) (N := 2) hx hb hts iX2_remember_X2 hown hK.1 hW.1 0 rfl rfl 1 (by decide) (hts _ mX2_remember_1) (fun _ h9 => h9) rfl dX2_remember_33 ?_
      refine lv_iconst (v := zI (1)) hx hb dX2_remember_36 rfl ?_
      refine z_iadd hx hb dX2_remember_37 ?_
      refine va_put (D := D) (ci := 2) (v := .int (zI ((4 - 1) + 1))) (ty := .int) (C := RX2) (T := TX2) (N := 2) hx hb hts iX2_remember_X2 tyX2 tyX2_ok nmX2 hown hK.1 hW.1 hW.2.1 hW.2.2 0 rfl rfl 1 (by decide) (hts _ mX2_remember_1) (fun _ h9 => h9) rfl (by decide +kernel) rfl rfl (Nat.le_of_ble_eq_true rfl) dX2_remember_38 (fun H locs h1 h2 h3 => ?_)
      have hW : zW D A s.heap [[(xh, .inr (2, [.ref xa, .int (zI ((4 - 1) + 1))]))], [zRefs cB xa (some (u1 0)) (some (u2 0)) (some (u3 0)) (some (u0 0))], zBoard cI u0 (zcpB d0 b), zBoard cI u1 d1, zBoard cI u2 d2, zBoard cI u3 d3, zBoard cI axb b] H locs := ⟨h1, h2, h3⟩
      have hW : zW D A s.heap [[(xh, .inr (2, [.ref xa, .int (zI ((4 - 1) + 1))]))], [zRefs cB xa (some (u1 0)) (some (u2 0)) (some (u3 0)) (some (u0 0))], zBoard cI u1 d1, zBoard cI u2 d2, zBoard cI u3 d3, zBoard cI u0 (zcpB d0 b), zBoard cI axb b] H locs := hW.pick [0, 1, 3, 4, 5, 2, 6] rfl rfl
      exact z_vret hx hb hr hlk hW dX2_remember_41 (by
          exact ⟨4 - 1 + 1, u1, u2, u3, u0, d1, d2, d3, zcpB d0 b, rfl, rfl, by exact HB_full hHB hRS rfl rfl rfl rfl⟩)

abbrev qX2_takeBack (cI : ClassId) (xh xa : Nat) (hn : Int) (u0 u1 u2 u3 : Nat → Nat) (cB : ClassId) (d0 d1 d2 d3 : zBS) (axb : Nat → Nat) (b : zBS) (hs : List zSt) : Option Value → List va_W → Prop := fun vq wq => ∃ (bz : zBS), vq = none ∧ wq = [[(xh, .inr (2, [.ref xa, .int (zI (hn - 1))]))], [zRefs cB xa (some (u0 0)) (some (u1 0)) (some (u2 0)) (some (u3 0))], zBoard cI u0 d0, zBoard cI u1 d1, zBoard cI u2 d2, zBoard cI u3 d3, zBoard cI axb bz] ∧ (HB (hn - 1) d0 d1 d2 d3 hs.dropLast ∧ ∃ S, hs.getLast? = some S ∧ RBS bz S)
set_option maxRecDepth 20000 in
theorem iX2_takeBack_X2 : ∀ w ∈ u_ws RX2 TX2 2, w ∈ wsX2_takeBack := by decide +kernel
set_option maxRecDepth 20000 in
theorem mX2_takeBack_1 : (.fieldLink RX2 17 "StoryPanels$History" "size" "I" : Cond) ∈ wsX2_takeBack := by decide +kernel
set_option maxHeartbeats 4000000 in
set_option maxRecDepth 100000 in
theorem kX2_takeBack (l : Launch) (D : va_G) (cI cB : ClassId) (xh xa : Nat) (hn : Int) (u0 u1 u2 u3 : Nat → Nat) (d0 d1 d2 d3 : zBS) (axb : Nat → Nat) (b : zBS) (hs : List zSt) (hHB : HB hn d0 d1 d2 d3 hs) (hn0 : 0 < hn) : zMet l yX2_takeBack wsX2_takeBack 2 43 0 0 D cI cB [.ref xh, .ref (axb 0)] [[(xh, .inr (2, [.ref xa, .int (zI hn)]))], [zRefs cB xa (some (u0 0)) (some (u1 0)) (some (u2 0)) (some (u3 0))], zBoard cI u0 d0, zBoard cI u1 d1, zBoard cI u2 d2, zBoard cI u3 d3, zBoard cI axb b] (qX2_takeBack cI xh xa hn u0 u1 u2 u3 cB d0 d1 d2 d3 axb b hs) := by
  refine zMet.of (cd := cX2_takeBack) (maxL := 3) (ret := none) (by decide) rfl (Nat.le_of_ble_eq_true rfl) ?_
  intro p e s m args below meth c A ls hS hr hlk hnm hK hA hW hl
  have hS : CallFix p m c cX2_takeBack 3 s args wsX2_takeBack RX2 := hS
  have hx := hS.1
  have hb := hS.2.1
  have hown := hS.2.2.2.1
  have hts := hS.2.2.2.2
  have hl : lv_has ls 3 [(0, .ref xh), (1, .ref (axb 0))] := hl
  have hb1 := hHB.1
  have hb2 := hHB.2.1
  obtain ⟨hpA, hpS, hpB, hpC⟩ := HB_pop hHB hn0
  rcases (show hn = 1 ∨ hn = 2 ∨ hn = 3 ∨ hn = 4 by omega) with rfl | rfl | rfl | rfl
  · refine lv_aload_n hx hb dX2_takeBack_0 rfl (lv_at hl 0 rfl) ?_
    refine lv_aload_n hx hb dX2_takeBack_1 rfl (lv_at hl 0 rfl) ?_
    refine va_get (D := D) (ci := 2) (v := .int (zI 1)) (C := RX2) (T := TX2) (N := 2) hx hb hts iX2_takeBack_X2 hown hK.1 hW.1 0 rfl rfl 1 (by decide) (hts _ mX2_takeBack_1) (fun _ h9 => h9) rfl dX2_takeBack_2 ?_
    refine lv_iconst (v := zI (1)) hx hb dX2_takeBack_5 rfl ?_
    refine z_isub hx hb dX2_takeBack_6 ?_
    refine z_callV (r := (RX2, TX2, 2)) (As := [.int (zI (1 - 1))]) (rest := []) hS hK hA hW hl.1 [0, 1] [2, 3, 4, 5, 6] (kX2_stateAt l D cI cB xh xa 1 u0 u1 u2 u3 (1 - 1) (by omega)) (cwV 1 hts gX2_takeBack_X2_stateAt rfl rfl rfl (by decide +kernel) ⟨Nat.le_of_ble_eq_true rfl, Nat.le_of_ble_eq_true rfl⟩) (rfl : vwCl[2]? = some (RX2, TX2, 2)) (q0 := 0) rfl dX2_takeBack_7 rfl rfl rfl rfl rfl (Nat.le_of_ble_eq_true rfl) ⟨Nat.le_of_ble_eq_true rfl, Nat.le_of_ble_eq_true rfl⟩ (fun v9 w9 H locs hq hW => ?_)
    obtain ⟨rfl, rfl, hh_7⟩ := hq
    have hW : zW D A s.heap [[(xh, .inr (2, [.ref xa, .int (zI 1)]))], [zRefs cB xa (some (u0 0)) (some (u1 0)) (some (u2 0)) (some (u3 0))], zBoard cI u0 d0, zBoard cI u1 d1, zBoard cI u2 d2, zBoard cI u3 d3, zBoard cI axb b] H locs := hW
    refine W.eq (g2 := F0 m 10 ls [.ref (ad4v (u0 0) (u1 0) (u2 0) (u3 0) (1 - 1))]) rfl ?_
    rw [show (ad4v (u0 0) (u1 0) (u2 0) (u3 0) (1 - 1)) = (u0 0) by rfl]
    refine lv_astore_n (lv' := [(2, .ref (u0 0)), (0, .ref xh), (1, .ref (axb 0))]) hx hb dX2_takeBack_10 rfl hl (by decide) rfl (fun ls hl => ?_)
    refine lv_aload_n hx hb dX2_takeBack_11 rfl (lv_at hl 0 rfl) ?_
    refine lv_ifnonnull (tgt := 16) hx hb dX2_takeBack_12 (by decide) ?_
    refine lv_aload_n hx hb dX2_takeBack_16 rfl (lv_at hl 2 rfl) ?_
    refine lv_aload_n hx hb dX2_takeBack_17 rfl (lv_at hl 0 rfl) ?_
    refine z_callV (r := (RX0, TX0, 9)) (As := [.ref (u0 0)]) (rest := []) hS hK hA hW hl.1 [6, 2] [0, 1, 3, 4, 5] (kX0_copyFrom l D cI cB axb b u0 d0) (cwV 1 hts gX2_takeBack_X0_copyFrom rfl rfl rfl (by decide +kernel) ⟨Nat.le_of_ble_eq_true rfl, Nat.le_of_ble_eq_true rfl⟩) (rfl : vwCl[0]? = some (RX0, TX0, 9)) (q0 := 34) rfl dX2_takeBack_18 rfl rfl rfl rfl rfl (Nat.le_of_ble_eq_true rfl) ⟨Nat.le_of_ble_eq_true rfl, Nat.le_of_ble_eq_true rfl⟩ (fun v9 w9 H locs hq hW => ?_)
    obtain ⟨rfl, rfl, hh_18⟩ := hq
    have hW : zW D A s.heap [zBoard cI axb (zcpB b d0), zBoard cI u0 d0, [(xh, .inr (2, [.ref xa, .int (zI 1)]))], [zRefs cB xa (some (u0 0)) (some (u1 0)) (some (u2 0)) (some (u3 0))], zBoard cI u1 d1, zBoard cI u2 d2, zBoard cI u3 d3] H locs := hW
    have hW : zW D A s.heap [[(xh, .inr (2, [.ref xa, .int (zI 1)]))], [zRefs cB xa (some (u0 0)) (some (u1 0)) (some (u2 0)) (some (u3 0))], zBoard cI u0 d0, zBoard cI u1 d1, zBoard cI u2 d2, zBoard cI u3 d3, zBoard cI axb (zcpB b d0)] H locs := hW.pick [2, 3, 1, 4, 5, 6, 0] rfl rfl
    refine W.eq (g2 := F0 m 21 ls []) rfl ?_
    refine lv_aload_n hx hb dX2_takeBack_21 rfl (lv_at hl 1 rfl) ?_
    refine lv_dup hx hb dX2_takeBack_22 rfl ?_
    refine va_get (D := D) (ci := 2) (v := .int (zI 1)) (C := RX2) (T := TX2) (N := 2) hx hb hts iX2_takeBack_X2 hown hK.1 hW.1 0 rfl rfl 1 (by decide) (hts _ mX2_takeBack_1) (fun _ h9 => h9) rfl dX2_takeBack_23 ?_
    refine lv_iconst (v := zI (1)) hx hb dX2_takeBack_26 rfl ?_
    refine z_isub hx hb dX2_takeBack_27 ?_
    refine va_put (D := D) (ci := 2) (v := .int (zI (1 - 1))) (ty := .int) (C := RX2) (T := TX2) (N := 2) hx hb hts iX2_takeBack_X2 tyX2 tyX2_ok nmX2 hown hK.1 hW.1 hW.2.1 hW.2.2 0 rfl rfl 1 (by decide) (hts _ mX2_takeBack_1) (fun _ h9 => h9) rfl (by decide +kernel) rfl rfl (Nat.le_of_ble_eq_true rfl) dX2_takeBack_28 (fun H locs h1 h2 h3 => ?_)
    have hW : zW D A s.heap [[(xh, .inr (2, [.ref xa, .int (zI (1 - 1))]))], [zRefs cB xa (some (u0 0)) (some (u1 0)) (some (u2 0)) (some (u3 0))], zBoard cI u0 d0, zBoard cI u1 d1, zBoard cI u2 d2, zBoard cI u3 d3, zBoard cI axb (zcpB b d0)] H locs := ⟨h1, h2, h3⟩
    exact z_vret hx hb hr hlk hW dX2_takeBack_31 (by
        exact ⟨(zcpB b d0), rfl, rfl, by exact ⟨hpA, hpS, hpB, RB_cp hpC⟩⟩)
  · refine lv_aload_n hx hb dX2_takeBack_0 rfl (lv_at hl 0 rfl) ?_
    refine lv_aload_n hx hb dX2_takeBack_1 rfl (lv_at hl 0 rfl) ?_
    refine va_get (D := D) (ci := 2) (v := .int (zI 2)) (C := RX2) (T := TX2) (N := 2) hx hb hts iX2_takeBack_X2 hown hK.1 hW.1 0 rfl rfl 1 (by decide) (hts _ mX2_takeBack_1) (fun _ h9 => h9) rfl dX2_takeBack_2 ?_
    refine lv_iconst (v := zI (1)) hx hb dX2_takeBack_5 rfl ?_
    refine z_isub hx hb dX2_takeBack_6 ?_
    refine z_callV (r := (RX2, TX2, 2)) (As := [.int (zI (2 - 1))]) (rest := []) hS hK hA hW hl.1 [0, 1] [2, 3, 4, 5, 6] (kX2_stateAt l D cI cB xh xa 2 u0 u1 u2 u3 (2 - 1) (by omega)) (cwV 1 hts gX2_takeBack_X2_stateAt rfl rfl rfl (by decide +kernel) ⟨Nat.le_of_ble_eq_true rfl, Nat.le_of_ble_eq_true rfl⟩) (rfl : vwCl[2]? = some (RX2, TX2, 2)) (q0 := 0) rfl dX2_takeBack_7 rfl rfl rfl rfl rfl (Nat.le_of_ble_eq_true rfl) ⟨Nat.le_of_ble_eq_true rfl, Nat.le_of_ble_eq_true rfl⟩ (fun v9 w9 H locs hq hW => ?_)
    obtain ⟨rfl, rfl, hh_7⟩ := hq
    have hW : zW D A s.heap [[(xh, .inr (2, [.ref xa, .int (zI 2)]))], [zRefs cB xa (some (u0 0)) (some (u1 0)) (some (u2 0)) (some (u3 0))], zBoard cI u0 d0, zBoard cI u1 d1, zBoard cI u2 d2, zBoard cI u3 d3, zBoard cI axb b] H locs := hW
    refine W.eq (g2 := F0 m 10 ls [.ref (ad4v (u0 0) (u1 0) (u2 0) (u3 0) (2 - 1))]) rfl ?_
    rw [show (ad4v (u0 0) (u1 0) (u2 0) (u3 0) (2 - 1)) = (u1 0) by rfl]
    refine lv_astore_n (lv' := [(2, .ref (u1 0)), (0, .ref xh), (1, .ref (axb 0))]) hx hb dX2_takeBack_10 rfl hl (by decide) rfl (fun ls hl => ?_)
    refine lv_aload_n hx hb dX2_takeBack_11 rfl (lv_at hl 0 rfl) ?_
    refine lv_ifnonnull (tgt := 16) hx hb dX2_takeBack_12 (by decide) ?_
    refine lv_aload_n hx hb dX2_takeBack_16 rfl (lv_at hl 2 rfl) ?_
    refine lv_aload_n hx hb dX2_takeBack_17 rfl (lv_at hl 0 rfl) ?_
    refine z_callV (r := (RX0, TX0, 9)) (As := [.ref (u1 0)]) (rest := []) hS hK hA hW hl.1 [6, 3] [0, 1, 2, 4, 5] (kX0_copyFrom l D cI cB axb b u1 d1) (cwV 1 hts gX2_takeBack_X0_copyFrom rfl rfl rfl (by decide +kernel) ⟨Nat.le_of_ble_eq_true rfl, Nat.le_of_ble_eq_true rfl⟩) (rfl : vwCl[0]? = some (RX0, TX0, 9)) (q0 := 34) rfl dX2_takeBack_18 rfl rfl rfl rfl rfl (Nat.le_of_ble_eq_true rfl) ⟨Nat.le_of_ble_eq_true rfl, Nat.le_of_ble_eq_true rfl⟩ (fun v9 w9 H locs hq hW => ?_)
    obtain ⟨rfl, rfl, hh_18⟩ := hq
    have hW : zW D A s.heap [zBoard cI axb (zcpB b d1), zBoard cI u1 d1, [(xh, .inr (2, [.ref xa, .int (zI 2)]))], [zRefs cB xa (some (u0 0)) (some (u1 0)) (some (u2 0)) (some (u3 0))], zBoard cI u0 d0, zBoard cI u2 d2, zBoard cI u3 d3] H locs := hW
    have hW : zW D A s.heap [[(xh, .inr (2, [.ref xa, .int (zI 2)]))], [zRefs cB xa (some (u0 0)) (some (u1 0)) (some (u2 0)) (some (u3 0))], zBoard cI u0 d0, zBoard cI u1 d1, zBoard cI u2 d2, zBoard cI u3 d3, zBoard cI axb (zcpB b d1)] H locs := hW.pick [2, 3, 4, 1, 5, 6, 0] rfl rfl
    refine W.eq (g2 := F0 m 21 ls []) rfl ?_
    refine lv_aload_n hx hb dX2_takeBack_21 rfl (lv_at hl 1 rfl) ?_
    refine lv_dup hx hb dX2_takeBack_22 rfl ?_
    refine va_get (D := D) (ci := 2) (v := .int (zI 2)) (C := RX2) (T := TX2) (N := 2) hx hb hts iX2_takeBack_X2 hown hK.1 hW.1 0 rfl rfl 1 (by decide) (hts _ mX2_takeBack_1) (fun _ h9 => h9) rfl dX2_takeBack_23 ?_
    refine lv_iconst (v := zI (1)) hx hb dX2_takeBack_26 rfl ?_
    refine z_isub hx hb dX2_takeBack_27 ?_
    refine va_put (D := D) (ci := 2) (v := .int (zI (2 - 1))) (ty := .int) (C := RX2) (T := TX2) (N := 2) hx hb hts iX2_takeBack_X2 tyX2 tyX2_ok nmX2 hown hK.1 hW.1 hW.2.1 hW.2.2 0 rfl rfl 1 (by decide) (hts _ mX2_takeBack_1) (fun _ h9 => h9) rfl (by decide +kernel) rfl rfl (Nat.le_of_ble_eq_true rfl) dX2_takeBack_28 (fun H locs h1 h2 h3 => ?_)
    have hW : zW D A s.heap [[(xh, .inr (2, [.ref xa, .int (zI (2 - 1))]))], [zRefs cB xa (some (u0 0)) (some (u1 0)) (some (u2 0)) (some (u3 0))], zBoard cI u0 d0, zBoard cI u1 d1, zBoard cI u2 d2, zBoard cI u3 d3, zBoard cI axb (zcpB b d1)] H locs := ⟨h1, h2, h3⟩
    exact z_vret hx hb hr hlk hW dX2_takeBack_31 (by
        exact ⟨(zcpB b d1), rfl, rfl, by exact ⟨hpA, hpS, hpB, RB_cp hpC⟩⟩)
  · refine lv_aload_n hx hb dX2_takeBack_0 rfl (lv_at hl 0 rfl) ?_
    refine lv_aload_n hx hb dX2_takeBack_1 rfl (lv_at hl 0 rfl) ?_
    refine va_get (D := D) (ci := 2) (v := .int (zI 3)) (C := RX2) (T := TX2) (N := 2) hx hb hts iX2_takeBack_X2 hown hK.1 hW.1 0 rfl rfl 1 (by decide) (hts _ mX2_takeBack_1) (fun _ h9 => h9) rfl dX2_takeBack_2 ?_
    refine lv_iconst (v := zI (1)) hx hb dX2_takeBack_5 rfl ?_
    refine z_isub hx hb dX2_takeBack_6 ?_
    refine z_callV (r := (RX2, TX2, 2)) (As := [.int (zI (3 - 1))]) (rest := []) hS hK hA hW hl.1 [0, 1] [2, 3, 4, 5, 6] (kX2_stateAt l D cI cB xh xa 3 u0 u1 u2 u3 (3 - 1) (by omega)) (cwV 1 hts gX2_takeBack_X2_stateAt rfl rfl rfl (by decide +kernel) ⟨Nat.le_of_ble_eq_true rfl, Nat.le_of_ble_eq_true rfl⟩) (rfl : vwCl[2]? = some (RX2, TX2, 2)) (q0 := 0) rfl dX2_takeBack_7 rfl rfl rfl rfl rfl (Nat.le_of_ble_eq_true rfl) ⟨Nat.le_of_ble_eq_true rfl, Nat.le_of_ble_eq_true rfl⟩ (fun v9 w9 H locs hq hW => ?_)
    obtain ⟨rfl, rfl, hh_7⟩ := hq
    have hW : zW D A s.heap [[(xh, .inr (2, [.ref xa, .int (zI 3)]))], [zRefs cB xa (some (u0 0)) (some (u1 0)) (some (u2 0)) (some (u3 0))], zBoard cI u0 d0, zBoard cI u1 d1, zBoard cI u2 d2, zBoard cI u3 d3, zBoard cI axb b] H locs := hW
    refine W.eq (g2 := F0 m 10 ls [.ref (ad4v (u0 0) (u1 0) (u2 0) (u3 0) (3 - 1))]) rfl ?_
    rw [show (ad4v (u0 0) (u1 0) (u2 0) (u3 0) (3 - 1)) = (u2 0) by rfl]
    refine lv_astore_n (lv' := [(2, .ref (u2 0)), (0, .ref xh), (1, .ref (axb 0))]) hx hb dX2_takeBack_10 rfl hl (by decide) rfl (fun ls hl => ?_)
    refine lv_aload_n hx hb dX2_takeBack_11 rfl (lv_at hl 0 rfl) ?_
    refine lv_ifnonnull (tgt := 16) hx hb dX2_takeBack_12 (by decide) ?_
    refine lv_aload_n hx hb dX2_takeBack_16 rfl (lv_at hl 2 rfl) ?_
    refine lv_aload_n hx hb dX2_takeBack_17 rfl (lv_at hl 0 rfl) ?_
    refine z_callV (r := (RX0, TX0, 9)) (As := [.ref (u2 0)]) (rest := []) hS hK hA hW hl.1 [6, 4] [0, 1, 2, 3, 5] (kX0_copyFrom l D cI cB axb b u2 d2) (cwV 1 hts gX2_takeBack_X0_copyFrom rfl rfl rfl (by decide +kernel) ⟨Nat.le_of_ble_eq_true rfl, Nat.le_of_ble_eq_true rfl⟩) (rfl : vwCl[0]? = some (RX0, TX0, 9)) (q0 := 34) rfl dX2_takeBack_18 rfl rfl rfl rfl rfl (Nat.le_of_ble_eq_true rfl) ⟨Nat.le_of_ble_eq_true rfl, Nat.le_of_ble_eq_true rfl⟩ (fun v9 w9 H locs hq hW => ?_)
    obtain ⟨rfl, rfl, hh_18⟩ := hq
    have hW : zW D A s.heap [zBoard cI axb (zcpB b d2), zBoard cI u2 d2, [(xh, .inr (2, [.ref xa, .int (zI 3)]))], [zRefs cB xa (some (u0 0)) (some (u1 0)) (some (u2 0)) (some (u3 0))], zBoard cI u0 d0, zBoard cI u1 d1, zBoard cI u3 d3] H locs := hW
    have hW : zW D A s.heap [[(xh, .inr (2, [.ref xa, .int (zI 3)]))], [zRefs cB xa (some (u0 0)) (some (u1 0)) (some (u2 0)) (some (u3 0))], zBoard cI u0 d0, zBoard cI u1 d1, zBoard cI u2 d2, zBoard cI u3 d3, zBoard cI axb (zcpB b d2)] H locs := hW.pick [2, 3, 4, 5, 1, 6, 0] rfl rfl
    refine W.eq (g2 := F0 m 21 ls []) rfl ?_
    refine lv_aload_n hx hb dX2_takeBack_21 rfl (lv_at hl 1 rfl) ?_
    refine lv_dup hx hb dX2_takeBack_22 rfl ?_
    refine va_get (D := D) (ci := 2) (v := .int (zI 3)) (C := RX2) (T := TX2) (N := 2) hx hb hts iX2_takeBack_X2 hown hK.1 hW.1 0 rfl rfl 1 (by decide) (hts _ mX2_takeBack_1) (fun _ h9 => h9) rfl dX2_takeBack_23 ?_
    refine lv_iconst (v := zI (1)) hx hb dX2_takeBack_26 rfl ?_
    refine z_isub hx hb dX2_takeBack_27 ?_
    refine va_put (D := D) (ci := 2) (v := .int (zI (3 - 1))) (ty := .int) (C := RX2) (T := TX2) (N := 2) hx hb hts iX2_takeBack_X2 tyX2 tyX2_ok nmX2 hown hK.1 hW.1 hW.2.1 hW.2.2 0 rfl rfl 1 (by decide) (hts _ mX2_takeBack_1) (fun _ h9 => h9) rfl (by decide +kernel) rfl rfl (Nat.le_of_ble_eq_true rfl) dX2_takeBack_28 (fun H locs h1 h2 h3 => ?_)
    have hW : zW D A s.heap [[(xh, .inr (2, [.ref xa, .int (zI (3 - 1))]))], [zRefs cB xa (some (u0 0)) (some (u1 0)) (some (u2 0)) (some (u3 0))], zBoard cI u0 d0, zBoard cI u1 d1, zBoard cI u2 d2, zBoard cI u3 d3, zBoard cI axb (zcpB b d2)] H locs := ⟨h1, h2, h3⟩
    exact z_vret hx hb hr hlk hW dX2_takeBack_31 (by
        exact ⟨(zcpB b d2), rfl, rfl, by exact ⟨hpA, hpS, hpB, RB_cp hpC⟩⟩)
  · refine lv_aload_n hx hb dX2_takeBack_0 rfl (lv_at hl 0 rfl) ?_
    refine lv_aload_n hx hb dX2_takeBack_1 rfl (lv_at hl 0 rfl) ?_
    refine va_get (D := D) (ci := 2) (v := .int (zI 4)) (C := RX2) (T := TX2) (N := 2) hx hb hts iX2_takeBack_X2 hown hK.1 hW.1 0 rfl rfl 1 (by decide) (hts _ mX2_takeBack_1) (fun _ h9 => h9) rfl dX2_takeBack_2 ?_
    refine lv_iconst (v := zI (1)) hx hb dX2_takeBack_5 rfl ?_
    refine z_isub hx hb dX2_takeBack_6 ?_
    refine z_callV (r := (RX2, TX2, 2)) (As := [.int (zI (4 - 1))]) (rest := []) hS hK hA hW hl.1 [0, 1] [2, 3, 4, 5, 6] (kX2_stateAt l D cI cB xh xa 4 u0 u1 u2 u3 (4 - 1) (by omega)) (cwV 1 hts gX2_takeBack_X2_stateAt rfl rfl rfl (by decide +kernel) ⟨Nat.le_of_ble_eq_true rfl, Nat.le_of_ble_eq_true rfl⟩) (rfl : vwCl[2]? = some (RX2, TX2, 2)) (q0 := 0) rfl dX2_takeBack_7 rfl rfl rfl rfl rfl (Nat.le_of_ble_eq_true rfl) ⟨Nat.le_of_ble_eq_true rfl, Nat.le_of_ble_eq_true rfl⟩ (fun v9 w9 H locs hq hW => ?_)
    obtain ⟨rfl, rfl, hh_7⟩ := hq
    have hW : zW D A s.heap [[(xh, .inr (2, [.ref xa, .int (zI 4)]))], [zRefs cB xa (some (u0 0)) (some (u1 0)) (some (u2 0)) (some (u3 0))], zBoard cI u0 d0, zBoard cI u1 d1, zBoard cI u2 d2, zBoard cI u3 d3, zBoard cI axb b] H locs := hW
    refine W.eq (g2 := F0 m 10 ls [.ref (ad4v (u0 0) (u1 0) (u2 0) (u3 0) (4 - 1))]) rfl ?_
    rw [show (ad4v (u0 0) (u1 0) (u2 0) (u3 0) (4 - 1)) = (u3 0) by rfl]
    refine lv_astore_n (lv' := [(2, .ref (u3 0)), (0, .ref xh), (1, .ref (axb 0))]) hx hb dX2_takeBack_10 rfl hl (by decide) rfl (fun ls hl => ?_)
    refine lv_aload_n hx hb dX2_takeBack_11 rfl (lv_at hl 0 rfl) ?_
    refine lv_ifnonnull (tgt := 16) hx hb dX2_takeBack_12 (by decide) ?_
    refine lv_aload_n hx hb dX2_takeBack_16 rfl (lv_at hl 2 rfl) ?_
    refine lv_aload_n hx hb dX2_takeBack_17 rfl (lv_at hl 0 rfl) ?_
    refine z_callV (r := (RX0, TX0, 9)) (As := [.ref (u3 0)]) (rest := []) hS hK hA hW hl.1 [6, 5] [0, 1, 2, 3, 4] (kX0_copyFrom l D cI cB axb b u3 d3) (cwV 1 hts gX2_takeBack_X0_copyFrom rfl rfl rfl (by decide +kernel) ⟨Nat.le_of_ble_eq_true rfl, Nat.le_of_ble_eq_true rfl⟩) (rfl : vwCl[0]? = some (RX0, TX0, 9)) (q0 := 34) rfl dX2_takeBack_18 rfl rfl rfl rfl rfl (Nat.le_of_ble_eq_true rfl) ⟨Nat.le_of_ble_eq_true rfl, Nat.le_of_ble_eq_true rfl⟩ (fun v9 w9 H locs hq hW => ?_)
    obtain ⟨rfl, rfl, hh_18⟩ := hq
    have hW : zW D A s.heap [zBoard cI axb (zcpB b d3), zBoard cI u3 d3, [(xh, .inr (2, [.ref xa, .int (zI 4)]))], [zRefs cB xa (some (u0 0)) (some (u1 0)) (some (u2 0)) (some (u3 0))], zBoard cI u0 d0, zBoard cI u1 d1, zBoard cI u2 d2] H locs := hW
    have hW : zW D A s.heap [[(xh, .inr (2, [.ref xa, .int (zI 4)]))], [zRefs cB xa (some (u0 0)) (some (u1 0)) (some (u2 0)) (some (u3 0))], zBoard cI u0 d0, zBoard cI u1 d1, zBoard cI u2 d2, zBoard cI u3 d3, zBoard cI axb (zcpB b d3)] H locs := hW.pick [2, 3, 4, 5, 6, 1, 0] rfl rfl
    refine W.eq (g2 := F0 m 21 ls []) rfl ?_
    refine lv_aload_n hx hb dX2_takeBack_21 rfl (lv_at hl 1 rfl) ?_
    refine lv_dup hx hb dX2_takeBack_22 rfl ?_
    refine va_get (D := D) (ci := 2) (v := .int (zI 4)) (C := RX2) (T := TX2) (N := 2) hx hb hts iX2_takeBack_X2 hown hK.1 hW.1 0 rfl rfl 1 (by decide) (hts _ mX2_takeBack_1) (fun _ h9 => h9) rfl dX2_takeBack_23 ?_
    refine lv_iconst (v := zI (1)) hx hb dX2_takeBack_26 rfl ?_
    refine z_isub hx hb dX2_takeBack_27 ?_
    refine va_put (D := D) (ci := 2) (v := .int (zI (4 - 1))) (ty := .int) (C := RX2) (T := TX2) (N := 2) hx hb hts iX2_takeBack_X2 tyX2 tyX2_ok nmX2 hown hK.1 hW.1 hW.2.1 hW.2.2 0 rfl rfl 1 (by decide) (hts _ mX2_takeBack_1) (fun _ h9 => h9) rfl (by decide +kernel) rfl rfl (Nat.le_of_ble_eq_true rfl) dX2_takeBack_28 (fun H locs h1 h2 h3 => ?_)
    have hW : zW D A s.heap [[(xh, .inr (2, [.ref xa, .int (zI (4 - 1))]))], [zRefs cB xa (some (u0 0)) (some (u1 0)) (some (u2 0)) (some (u3 0))], zBoard cI u0 d0, zBoard cI u1 d1, zBoard cI u2 d2, zBoard cI u3 d3, zBoard cI axb (zcpB b d3)] H locs := ⟨h1, h2, h3⟩
    exact z_vret hx hb hr hlk hW dX2_takeBack_31 (by
        exact ⟨(zcpB b d3), rfl, rfl, by exact ⟨hpA, hpS, hpB, RB_cp hpC⟩⟩)
