abbrev qX0_placeOf (cI : ClassId) (a : Nat → Nat) (b : zBS) (x : Int) (k : Int) : Option Value → List va_W → Prop := fun vq wq => ∃ (r : Int), vq = some (.int (zI r)) ∧ wq = [zBoard cI a (b)] ∧ (r = k - nAhead b (bd_scn b x))
set_option maxHeartbeats 4000000 in
set_option maxRecDepth 100000 in
theorem kX0_placeOf (l : Launch) (D : va_G) (cI cB : ClassId) (a : Nat → Nat) (b : zBS) (x : Int) (k : Int) (hBk : BOK b) (hx1 : 0 ≤ x ∧ x < 10) (hrk : atRank b x k) : zMet l yX0_placeOf wsX0_placeOf 2 45 0 0 D cI cB [.ref (a 0), .int (zI x)] [zBoard cI a b] (qX0_placeOf cI a b x k) := by
  refine zMet.of (cd := cX0_placeOf) (maxL := 2) (ret := (some .int)) (by decide) rfl (Nat.le_of_ble_eq_true rfl) ?_
  intro p e s m args below meth c A ls hS hr hlk hnm hK hA hW hl
  have hS : CallFix p m c cX0_placeOf 2 s args wsX0_placeOf RX0 := hS
  have hx := hS.1
  have hb := hS.2.1
  have hown := hS.2.2.2.1
  have hts := hS.2.2.2.2
  have hl : lv_has ls 2 [(0, .ref (a 0)), (1, .int (zI x))] := hl
  obtain ⟨hzz, hsf, hlin, hnum, hscn, hdur, hcnt, hcod, hplc⟩ := id hBk
  refine lv_aload_n hx hb dX0_placeOf_0 rfl (lv_at hl 0 rfl) ?_
  refine lv_iload_n hx hb dX0_placeOf_1 rfl (lv_at hl 1 rfl) ?_
  refine z_callV (r := (RX0, TX0, 9)) (As := [.int (zI x)]) (rest := []) hS hK hA hW hl.1 [0] [] (kX0_rankOf l D cI cB a b x k hBk (by omega) hrk) (cwV 1 hts gX0_placeOf_X0_rankOf rfl rfl rfl (by decide +kernel) ⟨Nat.le_of_ble_eq_true rfl, Nat.le_of_ble_eq_true rfl⟩) (rfl : vwCl[0]? = some (RX0, TX0, 9)) (q0 := 0) rfl dX0_placeOf_2 rfl rfl rfl rfl rfl (Nat.le_of_ble_eq_true rfl) ⟨Nat.le_of_ble_eq_true rfl, Nat.le_of_ble_eq_true rfl⟩ (fun v9 w9 H locs hq hW => ?_)
  obtain ⟨rr_2, rfl, rfl, hh_2⟩ := hq
  subst rr_2
  have hW : zW D A s.heap [zBoard cI a b] H locs := hW
  refine W.eq (g2 := F0 m 5 ls [.int (zI k)]) rfl ?_
  refine lv_aload_n hx hb dX0_placeOf_5 rfl (lv_at hl 0 rfl) ?_
  refine lv_aload_n hx hb dX0_placeOf_6 rfl (lv_at hl 0 rfl) ?_
  refine lv_iload_n hx hb dX0_placeOf_7 rfl (lv_at hl 1 rfl) ?_
  have qq_8 := hscn x (by omega) (by omega)
  refine z_callV (r := (RX0, TX0, 9)) (As := [.int (zI x)]) (rest := [.ref (a 0), .int (zI k)]) hS hK hA hW hl.1 [0] [] (kX0_sceneOf l D cI cB a b x hBk (by omega)) (cwV 1 hts gX0_placeOf_X0_sceneOf rfl rfl rfl (by decide +kernel) ⟨Nat.le_of_ble_eq_true rfl, Nat.le_of_ble_eq_true rfl⟩) (rfl : vwCl[0]? = some (RX0, TX0, 9)) (q0 := 0) rfl dX0_placeOf_8 rfl rfl rfl rfl rfl (Nat.le_of_ble_eq_true rfl) ⟨Nat.le_of_ble_eq_true rfl, Nat.le_of_ble_eq_true rfl⟩ (fun v9 w9 H locs hq hW => ?_)
  obtain ⟨rr_8, rfl, rfl, hh_8⟩ := hq
  subst rr_8
  have hW : zW D A s.heap [zBoard cI a b] H locs := hW
  refine W.eq (g2 := F0 m 11 ls [.int (zI (bd_scn b x)), .ref (a 0), .int (zI k)]) rfl ?_
  refine z_callV (r := (RX0, TX0, 9)) (As := [.int (zI (bd_scn b x))]) (rest := [.int (zI k)]) hS hK hA hW hl.1 [0] [] (kX0_panelsAhead l D cI cB a b (bd_scn b x) hBk (by omega)) (cwV 1 hts gX0_placeOf_X0_panelsAhead rfl rfl rfl (by decide +kernel) ⟨Nat.le_of_ble_eq_true rfl, Nat.le_of_ble_eq_true rfl⟩) (rfl : vwCl[0]? = some (RX0, TX0, 9)) (q0 := 0) rfl dX0_placeOf_11 rfl rfl rfl rfl rfl (Nat.le_of_ble_eq_true rfl) ⟨Nat.le_of_ble_eq_true rfl, Nat.le_of_ble_eq_true rfl⟩ (fun v9 w9 H locs hq hW => ?_)
  obtain ⟨rr_11, rfl, rfl, hh_11⟩ := hq
  subst rr_11
  have hW : zW D A s.heap [zBoard cI a b] H locs := hW
  refine W.eq (g2 := F0 m 14 ls [.int (zI (nAhead b (bd_scn b x))), .int (zI k)]) rfl ?_
  refine z_isub hx hb dX0_placeOf_14 ?_
  exact z_iret (v := k - (nAhead b (bd_scn b x))) hx hb hr hlk hW dX0_placeOf_15 (by
      exact ⟨k - (nAhead b (bd_scn b x)), rfl, rfl, by rfl⟩)

abbrev qX0_placesFor (cI : ClassId) (a : Nat → Nat) (b : zBS) (x y : Int) : Option Value → List va_W → Prop := fun vq wq => ∃ (r : Int), vq = some (.int (zI r)) ∧ wq = [zBoard cI a (b)] ∧ (r = zplacesB b x y)
set_option maxHeartbeats 4000000 in
set_option maxRecDepth 100000 in
theorem kX0_placesFor (l : Launch) (D : va_G) (cI cB : ClassId) (a : Nat → Nat) (b : zBS) (x y : Int) (hBk : BOK b) (hx1 : 0 ≤ x ∧ x < 10) (hy1 : R32 y) : zMet l yX0_placesFor wsX0_placesFor 2 44 0 0 D cI cB [.ref (a 0), .int (zI x), .int (zI y)] [zBoard cI a b] (qX0_placesFor cI a b x y) := by
  refine zMet.of (cd := cX0_placesFor) (maxL := 4) (ret := (some .int)) (by decide) rfl (Nat.le_of_ble_eq_true rfl) ?_
  intro p e s m args below meth c A ls hS hr hlk hnm hK hA hW hl
  have hS : CallFix p m c cX0_placesFor 4 s args wsX0_placesFor RX0 := hS
  have hx := hS.1
  have hb := hS.2.1
  have hown := hS.2.2.2.1
  have hts := hS.2.2.2.2
  have hl : lv_has ls 4 [(0, .ref (a 0)), (1, .int (zI x)), (2, .int (zI y))] := hl
  obtain ⟨hzz, hsf, hlin, hnum, hscn, hdur, hcnt, hcod, hplc⟩ := id hBk
  refine lv_aload_n hx hb dX0_placesFor_0 rfl (lv_at hl 0 rfl) ?_
  refine lv_iload_n hx hb dX0_placesFor_1 rfl (lv_at hl 2 rfl) ?_
  refine z_callV (r := (RX0, TX0, 9)) (As := [.int (zI y)]) (rest := []) hS hK hA hW hl.1 [0] [] (kX0_panelsIn l D cI cB a b y hBk (by omega)) (cwV 1 hts gX0_placesFor_X0_panelsIn rfl rfl rfl (by decide +kernel) ⟨Nat.le_of_ble_eq_true rfl, Nat.le_of_ble_eq_true rfl⟩) (rfl : vwCl[0]? = some (RX0, TX0, 9)) (q0 := 0) rfl dX0_placesFor_2 rfl rfl rfl rfl rfl (Nat.le_of_ble_eq_true rfl) ⟨Nat.le_of_ble_eq_true rfl, Nat.le_of_ble_eq_true rfl⟩ (fun v9 w9 H locs hq hW => ?_)
  obtain ⟨rr_2, rfl, rfl, hh_2⟩ := hq
  subst rr_2
  have hW : zW D A s.heap [zBoard cI a b] H locs := hW
  refine W.eq (g2 := F0 m 5 ls [.int (zI (nIn b y))]) rfl ?_
  refine lv_istore_n (lv' := [(3, .int (zI (nIn b y))), (0, .ref (a 0)), (1, .int (zI x)), (2, .int (zI y))]) hx hb dX0_placesFor_5 rfl hl (by decide) rfl (fun ls hl => ?_)
  refine lv_aload_n hx hb dX0_placesFor_6 rfl (lv_at hl 1 rfl) ?_
  refine lv_iload_n hx hb dX0_placesFor_7 rfl (lv_at hl 2 rfl) ?_
  have qq_8 := hscn x (by omega) (by omega)
  refine z_callV (r := (RX0, TX0, 9)) (As := [.int (zI x)]) (rest := []) hS hK hA hW hl.1 [0] [] (kX0_sceneOf l D cI cB a b x hBk (by omega)) (cwV 1 hts gX0_placesFor_X0_sceneOf rfl rfl rfl (by decide +kernel) ⟨Nat.le_of_ble_eq_true rfl, Nat.le_of_ble_eq_true rfl⟩) (rfl : vwCl[0]? = some (RX0, TX0, 9)) (q0 := 0) rfl dX0_placesFor_8 rfl rfl rfl rfl rfl (Nat.le_of_ble_eq_true rfl) ⟨Nat.le_of_ble_eq_true rfl, Nat.le_of_ble_eq_true rfl⟩ (fun v9 w9 H locs hq hW => ?_)
  obtain ⟨rr_8, rfl, rfl, hh_8⟩ := hq
  subst rr_8
  have hW : zW D A s.heap [zBoard cI a b] H locs := hW
  refine W.eq (g2 := F0 m 11 ls [.int (zI (bd_scn b x))]) rfl ?_
  refine lv_iload_n hx hb dX0_placesFor_11 rfl (lv_at hl 3 rfl) ?_
  refine z_icmp_ne (tgt := 19) hx hb dX0_placesFor_12 (by decide) (by omega) (fun cc_12 => ?_) (fun cc_12 => ?_)
  · refine lv_iload_n hx hb dX0_placesFor_19 rfl (lv_at hl 0 rfl) ?_
    refine lv_iconst (v := zI (1)) hx hb dX0_placesFor_20 rfl ?_
    refine z_iadd hx hb dX0_placesFor_21 ?_
    exact z_iret (v := (nIn b y) + 1) hx hb hr hlk hW dX0_placesFor_22 (by
        exact ⟨(nIn b y) + 1, rfl, rfl, by unfold zplacesB; first | (rw [if_pos (by omega)]; done) | (rw [if_pos (by omega)]; omega) | (rw [if_neg (by omega)]; done) | (rw [if_neg (by omega)]; omega)⟩)
  · refine lv_iload_n hx hb dX0_placesFor_15 rfl (lv_at hl 0 rfl) ?_
    refine lv_goto (tgt := 22) hx hb dX0_placesFor_16 (by decide) ?_
    exact z_iret (v := nIn b y) hx hb hr hlk hW dX0_placesFor_22 (by
        exact ⟨nIn b y, rfl, rfl, by unfold zplacesB; first | (rw [if_pos (by omega)]; done) | (rw [if_pos (by omega)]; omega) | (rw [if_neg (by omega)]; done) | (rw [if_neg (by omega)]; omega)⟩)

abbrev qX0_hasPlaceFor (cI : ClassId) (a : Nat → Nat) (b : zBS) (x y z : Int) : Option Value → List va_W → Prop := fun vq wq => ∃ (r : Int), vq = some (.int (zI r)) ∧ wq = [zBoard cI a (b)] ∧ ((r = 1 ∧ 0 ≤ z ∧ z < zplacesB b x y) ∨ (r = 0 ∧ (z < 0 ∨ zplacesB b x y ≤ z)))
set_option maxHeartbeats 4000000 in
set_option maxRecDepth 100000 in
theorem kX0_hasPlaceFor (l : Launch) (D : va_G) (cI cB : ClassId) (a : Nat → Nat) (b : zBS) (x y z : Int) (hBk : BOK b) (hx1 : 0 ≤ x ∧ x < 10) (hy1 : R32 y) (hz1 : R32 z) : zMet l yX0_hasPlaceFor wsX0_hasPlaceFor 3 67 0 0 D cI cB [.ref (a 0), .int (zI x), .int (zI y), .int (zI z)] [zBoard cI a b] (qX0_hasPlaceFor cI a b x y z) := by
  refine zMet.of (cd := cX0_hasPlaceFor) (maxL := 4) (ret := (some .boolean)) (by decide) rfl (Nat.le_of_ble_eq_true rfl) ?_
  intro p e s m args below meth c A ls hS hr hlk hnm hK hA hW hl
  have hS : CallFix p m c cX0_hasPlaceFor 4 s args wsX0_hasPlaceFor RX0 := hS
  have hx := hS.1
  have hb := hS.2.1
  have hown := hS.2.2.2.1
  have hts := hS.2.2.2.2
  have hl : lv_has ls 4 [(0, .ref (a 0)), (1, .int (zI x)), (2, .int (zI y)), (3, .int (zI z))] := hl
  obtain ⟨hzz, hsf, hlin, hnum, hscn, hdur, hcnt, hcod, hplc⟩ := id hBk
  refine lv_iload_n hx hb dX0_hasPlaceFor_0 rfl (lv_at hl 3 rfl) ?_
  refine z_if_lt (tgt := 18) hx hb dX0_hasPlaceFor_1 (by decide) (by omega) (fun cc_1 => ?_) (fun cc_1 => ?_)
  · refine lv_iconst (v := zI (0)) hx hb dX0_hasPlaceFor_18 rfl ?_
    exact z_zret (v := 0) hx hb hr hlk hW dX0_hasPlaceFor_19 (by omega) (by
        exact ⟨0, rfl, rfl, by omega⟩)
  · refine lv_iload_n hx hb dX0_hasPlaceFor_4 rfl (lv_at hl 3 rfl) ?_
    refine lv_aload_n hx hb dX0_hasPlaceFor_5 rfl (lv_at hl 0 rfl) ?_
    refine lv_iload_n hx hb dX0_hasPlaceFor_6 rfl (lv_at hl 1 rfl) ?_
    refine lv_iload_n hx hb dX0_hasPlaceFor_7 rfl (lv_at hl 2 rfl) ?_
    refine z_callV (r := (RX0, TX0, 9)) (As := [.int (zI x), .int (zI y)]) (rest := [.int (zI z)]) hS hK hA hW hl.1 [0] [] (kX0_placesFor l D cI cB a b x y hBk (by omega) (by omega)) (cwV 2 hts gX0_hasPlaceFor_X0_placesFor rfl rfl rfl (by decide +kernel) ⟨Nat.le_of_ble_eq_true rfl, Nat.le_of_ble_eq_true rfl⟩) (rfl : vwCl[0]? = some (RX0, TX0, 9)) (q0 := 0) rfl dX0_hasPlaceFor_8 rfl rfl rfl rfl rfl (Nat.le_of_ble_eq_true rfl) ⟨Nat.le_of_ble_eq_true rfl, Nat.le_of_ble_eq_true rfl⟩ (fun v9 w9 H locs hq hW => ?_)
    obtain ⟨rr_8, rfl, rfl, hh_8⟩ := hq
    subst rr_8
    have hW : zW D A s.heap [zBoard cI a b] H locs := hW
    refine W.eq (g2 := F0 m 11 ls [.int (zI (zplacesB b x y)), .int (zI z)]) rfl ?_
    have qq_8 := zplacesB_le hBk x y
    refine z_icmp_ge (tgt := 18) hx hb dX0_hasPlaceFor_11 (by decide) (by omega) (fun cc_11 => ?_) (fun cc_11 => ?_)
    · refine lv_iconst (v := zI (0)) hx hb dX0_hasPlaceFor_18 rfl ?_
      exact z_zret (v := 0) hx hb hr hlk hW dX0_hasPlaceFor_19 (by omega) (by
          exact ⟨0, rfl, rfl, by omega⟩)
    · refine lv_iconst (v := zI (1)) hx hb dX0_hasPlaceFor_14 rfl ?_
      refine lv_goto (tgt := 19) hx hb dX0_hasPlaceFor_15 (by decide) ?_
      exact z_zret (v := 1) hx hb hr hlk hW dX0_hasPlaceFor_19 (by omega) (by
          exact ⟨1, rfl, rfl, by omega⟩)

abbrev qX0_setDuration (cI : ClassId) (a : Nat → Nat) (b : zBS) (x y : Int) : Option Value → List va_W → Prop := fun vq wq => vq = none ∧ wq = [zBoard cI a (bd_dur_ b (zU (bd_dur b) x y))] ∧ (True)
set_option maxRecDepth 20000 in
theorem iX0_setDuration_X0 : ∀ w ∈ u_ws RX0 TX0 9, w ∈ wsX0_setDuration := by decide +kernel
set_option maxRecDepth 20000 in
theorem mX0_setDuration_1 : (.fieldLink RX0 18 "StoryPanels$Board" "durations" "[I" : Cond) ∈ wsX0_setDuration := by decide +kernel
set_option maxRecDepth 20000 in
theorem mX0_setDuration_2 : (.initialized RX4 : Cond) ∈ wsX0_setDuration := by decide +kernel
set_option maxRecDepth 20000 in
theorem mX0_setDuration_3 : (.static yX4_setCell : Cond) ∈ wsX0_setDuration := by decide +kernel
set_option maxHeartbeats 4000000 in
set_option maxRecDepth 100000 in
theorem kX0_setDuration (l : Launch) (D : va_G) (cI cB : ClassId) (a : Nat → Nat) (b : zBS) (x y : Int) (hBk : BOK b) (hx1 : 0 ≤ x ∧ x < 10) : zMet l yX0_setDuration wsX0_setDuration 1 22 0 0 D cI cB [.ref (a 0), .int (zI x), .int (zI y)] [zBoard cI a b] (qX0_setDuration cI a b x y) := by
  refine zMet.of (cd := cX0_setDuration) (maxL := 3) (ret := none) (by decide) rfl (Nat.le_of_ble_eq_true rfl) ?_
  intro p e s m args below meth c A ls hS hr hlk hnm hK hA hW hl
  have hS : CallFix p m c cX0_setDuration 3 s args wsX0_setDuration RX0 := hS
  have hx := hS.1
  have hb := hS.2.1
  have hown := hS.2.2.2.1
  have hts := hS.2.2.2.2
  have hl : lv_has ls 3 [(0, .ref (a 0)), (1, .int (zI x)), (2, .int (zI y))] := hl
  obtain ⟨hzz, hsf, hlin, hnum, hscn, hdur, hcnt, hcod, hplc⟩ := id hBk
  refine lv_aload_n hx hb dX0_setDuration_0 rfl (lv_at hl 0 rfl) ?_
  refine va_get (D := D) (ci := 0) (v := .ref (a 3)) (C := RX0) (T := TX0) (N := 9) hx hb hts iX0_setDuration_X0 hown hK.1 hW.1 0 rfl rfl 2 (by decide) (hts _ mX0_setDuration_1) (fun _ h9 => h9) rfl dX0_setDuration_1 ?_
  refine lv_iload_n hx hb dX0_setDuration_4 rfl (lv_at hl 1 rfl) ?_
  refine lv_iload_n hx hb dX0_setDuration_5 rfl (lv_at hl 2 rfl) ?_
  refine z_setCell (n := 10) (g := bd_dur b) (i := x) (v := y) (rest := []) (bs1 := [zBoard cI a (bd_dur_ b (zU (bd_dur b) x y))]) hS hK hA hW hl.1 3 rfl (gX0_setDuration_X4_setCell_n44) nm_10 (mX0_setDuration_2) (mX0_setDuration_3) ⟨Nat.le_of_ble_eq_true rfl, Nat.le_of_ble_eq_true rfl⟩ dX0_setDuration_6 (by omega) rfl (Nat.le_of_ble_eq_true rfl) ⟨Nat.le_of_ble_eq_true rfl, Nat.le_of_ble_eq_true rfl⟩ (fun H locs hW => ?_)
  exact z_vret hx hb hr hlk hW dX0_setDuration_9 (by
      exact ⟨rfl, rfl, by trivial⟩)

abbrev qX0_takeOut (cI : ClassId) (a : Nat → Nat) (b : zBS) (x : Int) (k : Int) : Option Value → List va_W → Prop := fun vq wq => vq = none ∧ wq = [zBoard cI a (takeOutB b k)] ∧ (True)
set_option maxRecDepth 20000 in
theorem iX0_takeOut_X0 : ∀ w ∈ u_ws RX0 TX0 9, w ∈ wsX0_takeOut := by decide +kernel
set_option maxRecDepth 20000 in
theorem mX0_takeOut_1 : (.fieldLink RX0 33 "StoryPanels$Board" "size" "I" : Cond) ∈ wsX0_takeOut := by decide +kernel
set_option maxRecDepth 20000 in
theorem mX0_takeOut_2 : (.fieldLink RX0 27 "StoryPanels$Board" "line" "[I" : Cond) ∈ wsX0_takeOut := by decide +kernel
set_option maxRecDepth 20000 in
theorem mX0_takeOut_3 : (.initialized RX4 : Cond) ∈ wsX0_takeOut := by decide +kernel
set_option maxRecDepth 20000 in
theorem mX0_takeOut_4 : (.static yX4_cell : Cond) ∈ wsX0_takeOut := by decide +kernel
set_option maxRecDepth 20000 in
theorem mX0_takeOut_5 : (.static yX4_setCell : Cond) ∈ wsX0_takeOut := by decide +kernel
set_option maxHeartbeats 4000000 in
set_option maxRecDepth 100000 in
theorem kX0_takeOut (l : Launch) (D : va_G) (cI cB : ClassId) (a : Nat → Nat) (b : zBS) (x : Int) (k : Int) (hBk : BOK b) (hx1 : 0 ≤ x ∧ x < 10) (hrk : atRank b x k) : zMet l yX0_takeOut wsX0_takeOut 2 43 0 0 D cI cB [.ref (a 0), .int (zI x)] [zBoard cI a b] (qX0_takeOut cI a b x k) := by
  refine zMet.of (cd := cX0_takeOut) (maxL := 4) (ret := none) (by decide) rfl (Nat.le_of_ble_eq_true rfl) ?_
  intro p e s m args below meth c A ls hS hr hlk hnm hK hA hW hl
  have hS : CallFix p m c cX0_takeOut 4 s args wsX0_takeOut RX0 := hS
  have hx := hS.1
  have hb := hS.2.1
  have hown := hS.2.2.2.1
  have hts := hS.2.2.2.2
  have hl : lv_has ls 4 [(0, .ref (a 0)), (1, .int (zI x))] := hl
  obtain ⟨hzz, hsf, hlin, hnum, hscn, hdur, hcnt, hcod, hplc⟩ := id hBk
  refine lv_aload_n hx hb dX0_takeOut_0 rfl (lv_at hl 0 rfl) ?_
  refine lv_iload_n hx hb dX0_takeOut_1 rfl (lv_at hl 1 rfl) ?_
  refine z_callV (r := (RX0, TX0, 9)) (As := [.int (zI x)]) (rest := []) hS hK hA hW hl.1 [0] [] (kX0_rankOf l D cI cB a b x k hBk (by omega) hrk) (cwV 1 hts gX0_takeOut_X0_rankOf rfl rfl rfl (by decide +kernel) ⟨Nat.le_of_ble_eq_true rfl, Nat.le_of_ble_eq_true rfl⟩) (rfl : vwCl[0]? = some (RX0, TX0, 9)) (q0 := 0) rfl dX0_takeOut_2 rfl rfl rfl rfl rfl (Nat.le_of_ble_eq_true rfl) ⟨Nat.le_of_ble_eq_true rfl, Nat.le_of_ble_eq_true rfl⟩ (fun v9 w9 H locs hq hW => ?_)
  obtain ⟨rr_2, rfl, rfl, hh_2⟩ := hq
  subst rr_2
  have hW : zW D A s.heap [zBoard cI a b] H locs := hW
  refine W.eq (g2 := F0 m 5 ls [.int (zI k)]) rfl ?_
  have hrk1 := hrk.1
  refine lv_istore_n (lv' := [(2, .int (zI k)), (0, .ref (a 0)), (1, .int (zI x))]) hx hb dX0_takeOut_5 rfl hl (by decide) rfl (fun ls hl => ?_)
  refine lv_iload_n hx hb dX0_takeOut_6 rfl (lv_at hl 0 rfl) ?_
  refine lv_iconst (v := zI (-1)) hx hb dX0_takeOut_7 rfl ?_
  refine z_icmp_ne (tgt := 12) hx hb dX0_takeOut_8 (by decide) (by omega) (fun cc_8 => ?_) (fun cc_8 => ?_)
  · refine lv_iload_n hx hb dX0_takeOut_12 rfl (lv_at hl 0 rfl) ?_
    refine lv_iconst (v := zI (1)) hx hb dX0_takeOut_13 rfl ?_
    refine z_iadd hx hb dX0_takeOut_14 ?_
    refine lv_istore_n (lv' := [(3, .int (zI (k + 1))), (2, .int (zI k)), (0, .ref (a 0)), (1, .int (zI x))]) hx hb dX0_takeOut_15 rfl hl (by decide) rfl (fun ls hl => ?_)
    have L16 : ∀ (fu : Nat) (ki : Int) (hc : Int → Int), (k + 1 ≤ ki ∧ ki ≤ bd_sz b) → (hc = remF (bd_lin b) k ki) → (bd_sz b - ki) < (fu : Int) → ∀ (H : Heap) (locs : List Loc), zW D A s.heap [zBoard cI a (bd_lin_ b (hc))] H locs → ∀ (ls : Array Slot), lv_has ls 4 [(0, .ref (a 0)), (1, .int (zI x)), (2, .int (zI k)), (3, .int (zI ki))] → W p l e { frames := 2, cells := 0, slots := 0, locals := 43 } s m args below meth c H locs 0 0 (MQ below (zQ A D (qX0_takeOut cI a b x k)) args s 0 0 A) (F0 m 16 ls []) := by
      intro fu
      induction fu with
      | zero => intro ki hc hki hhc hm; exact absurd hm (by omega)
      | succ fu ih16 =>
        intro ki hc hki hhc hm H locs hW ls hl
        refine lv_iload_n hx hb dX0_takeOut_16 rfl (lv_at hl 3 rfl) ?_
        refine lv_aload_n hx hb dX0_takeOut_17 rfl (lv_at hl 0 rfl) ?_
        refine va_get (D := D) (ci := 0) (v := .int (zI (bd_sz b))) (C := RX0) (T := TX0) (N := 9) hx hb hts iX0_takeOut_X0 hown hK.1 hW.1 0 rfl rfl 7 (by decide) (hts _ mX0_takeOut_1) (fun _ h9 => h9) rfl dX0_takeOut_18 ?_
        refine z_icmp_ge (tgt := 48) hx hb dX0_takeOut_21 (by decide) (by omega) (fun cc_21 => ?_) (fun cc_21 => ?_)
        · refine lv_aload_n hx hb dX0_takeOut_48 rfl (lv_at hl 0 rfl) ?_
          refine lv_dup hx hb dX0_takeOut_49 rfl ?_
          refine va_get (D := D) (ci := 0) (v := .int (zI (bd_sz b))) (C := RX0) (T := TX0) (N := 9) hx hb hts iX0_takeOut_X0 hown hK.1 hW.1 0 rfl rfl 7 (by decide) (hts _ mX0_takeOut_1) (fun _ h9 => h9) rfl dX0_takeOut_50 ?_
          refine lv_iconst (v := zI (1)) hx hb dX0_takeOut_53 rfl ?_
          refine z_isub hx hb dX0_takeOut_54 ?_
          refine va_put (D := D) (ci := 0) (v := .int (zI ((bd_sz b) - 1))) (ty := .int) (C := RX0) (T := TX0) (N := 9) hx hb hts iX0_takeOut_X0 tyX0 tyX0_ok nmX0 hown hK.1 hW.1 hW.2.1 hW.2.2 0 rfl rfl 7 (by decide) (hts _ mX0_takeOut_1) (fun _ h9 => h9) rfl (by decide +kernel) rfl rfl (Nat.le_of_ble_eq_true rfl) dX0_takeOut_55 (fun H locs h1 h2 h3 => ?_)
          have hW : zW D A s.heap [zBoard cI a (bd_sz_ (bd_lin_ b (hc)) ((bd_sz b) - 1))] H locs := ⟨h1, h2, h3⟩
          exact z_vret hx hb hr hlk hW dX0_takeOut_58 (by
              exact ⟨rfl, by (first | (rw [show ki = bd_sz b by omega] at hhc; rw [hhc]; rfl) | omega), by trivial⟩)
        · refine lv_aload_n hx hb dX0_takeOut_24 rfl (lv_at hl 0 rfl) ?_
          refine va_get (D := D) (ci := 0) (v := .ref (a 6)) (C := RX0) (T := TX0) (N := 9) hx hb hts iX0_takeOut_X0 hown hK.1 hW.1 0 rfl rfl 5 (by decide) (hts _ mX0_takeOut_2) (fun _ h9 => h9) rfl dX0_takeOut_25 ?_
          refine lv_iload_n hx hb dX0_takeOut_28 rfl (lv_at hl 3 rfl) ?_
          refine lv_iconst (v := zI (1)) hx hb dX0_takeOut_29 rfl ?_
          refine z_isub hx hb dX0_takeOut_30 ?_
          refine lv_aload_n hx hb dX0_takeOut_31 rfl (lv_at hl 0 rfl) ?_
          refine va_get (D := D) (ci := 0) (v := .ref (a 6)) (C := RX0) (T := TX0) (N := 9) hx hb hts iX0_takeOut_X0 hown hK.1 hW.1 0 rfl rfl 5 (by decide) (hts _ mX0_takeOut_2) (fun _ h9 => h9) rfl dX0_takeOut_32 ?_
          refine lv_iload_n hx hb dX0_takeOut_35 rfl (lv_at hl 3 rfl) ?_
          refine z_cell (n := 10) (g := hc) (i := ki) (rest := [.int (zI (ki - 1)), .ref (a 6)]) hS hK hA hW hl.1 6 rfl (gX0_takeOut_X4_cell_n52) nm_19 (mX0_takeOut_3) (mX0_takeOut_4) ⟨Nat.le_of_ble_eq_true rfl, Nat.le_of_ble_eq_true rfl⟩ dX0_takeOut_36 (by omega) (Nat.le_of_ble_eq_true rfl) ⟨Nat.le_of_ble_eq_true rfl, Nat.le_of_ble_eq_true rfl⟩ (fun H locs hW => ?_)
          refine z_setCell (n := 10) (g := hc) (i := ki - 1) (v := hc ki) (rest := []) (bs1 := [zBoard cI a (bd_lin_ b (zU hc (ki - 1) (hc ki)))]) hS hK hA hW hl.1 6 rfl (gX0_takeOut_X4_setCell_n44) nm_10 (mX0_takeOut_3) (mX0_takeOut_5) ⟨Nat.le_of_ble_eq_true rfl, Nat.le_of_ble_eq_true rfl⟩ dX0_takeOut_39 (by omega) rfl (Nat.le_of_ble_eq_true rfl) ⟨Nat.le_of_ble_eq_true rfl, Nat.le_of_ble_eq_true rfl⟩ (fun H locs hW => ?_)
          refine z_iinc (x := ki) (lv' := [(3, .int (zI (ki + 1))), (0, .ref (a 0)), (1, .int (zI x)), (2, .int (zI k))]) hx hb dX0_takeOut_42 hl (k := 3) rfl (by decide) rfl (fun ls hl => ?_)
          refine lv_goto (tgt := 16) hx hb dX0_takeOut_45 (by decide) ?_
          exact ih16 (ki + 1) (zU hc (ki - 1) (hc ki)) (by omega) (by rw [hhc]; exact remF_s _ (by omega)) (by omega) _ _ hW ls (lv_sub hl [1, 2, 3, 0] rfl)
    exact L16 (((bd_sz b - (k + 1)) : Int).toNat + 1) (k + 1) (bd_lin b) (by omega) (by exact (remF_0 _ _).symm) (by omega) _ _ hW ls (lv_sub hl [2, 3, 1, 0] rfl)
  · exact z_vret hx hb hr hlk hW dX0_takeOut_11 (by
        exact ⟨rfl, by (first | (rw [show ki = bd_sz b by omega] at hhc; rw [hhc]; rfl) | omega), by trivial⟩)

abbrev qX0_putIn (cI : ClassId) (a : Nat → Nat) (b : zBS) (x y z : Int) : Option Value → List va_W → Prop := fun vq wq => vq = none ∧ wq = [zBoard cI a (putInB b x y (nAhead (bd_scn_ b (zU (bd_scn b) x y)) y + z))] ∧ (True)
set_option maxRecDepth 20000 in
theorem iX0_putIn_X0 : ∀ w ∈ u_ws RX0 TX0 9, w ∈ wsX0_putIn := by decide +kernel
set_option maxRecDepth 20000 in
theorem mX0_putIn_1 : (.fieldLink RX0 15 "StoryPanels$Board" "scenes" "[I" : Cond) ∈ wsX0_putIn := by decide +kernel
set_option maxRecDepth 20000 in
theorem mX0_putIn_2 : (.initialized RX4 : Cond) ∈ wsX0_putIn := by decide +kernel
set_option maxRecDepth 20000 in
theorem mX0_putIn_3 : (.static yX4_setCell : Cond) ∈ wsX0_putIn := by decide +kernel
set_option maxRecDepth 20000 in
theorem mX0_putIn_4 : (.fieldLink RX0 33 "StoryPanels$Board" "size" "I" : Cond) ∈ wsX0_putIn := by decide +kernel
set_option maxRecDepth 20000 in
theorem mX0_putIn_5 : (.fieldLink RX0 27 "StoryPanels$Board" "line" "[I" : Cond) ∈ wsX0_putIn := by decide +kernel
set_option maxRecDepth 20000 in
theorem mX0_putIn_6 : (.static yX4_cell : Cond) ∈ wsX0_putIn := by decide +kernel
set_option maxHeartbeats 4000000 in
set_option maxRecDepth 100000 in
theorem kX0_putIn (l : Launch) (D : va_G) (cI cB : ClassId) (a : Nat → Nat) (b : zBS) (x y z : Int) (hBk : BOK b) (hx1 : 0 ≤ x ∧ x < 10) (hy1 : 0 ≤ y ∧ y < 5) (hnn : bd_sz b < 10) (hz1 : 0 ≤ nAhead (bd_scn_ b (zU (bd_scn b) x y)) y + z ∧ nAhead (bd_scn_ b (zU (bd_scn b) x y)) y + z ≤ bd_sz b) : zMet l yX0_putIn wsX0_putIn 2 45 0 0 D cI cB [.ref (a 0), .int (zI x), .int (zI y), .int (zI z)] [zBoard cI a b] (qX0_putIn cI a b x y z) := by
  refine zMet.of (cd := cX0_putIn) (maxL := 6) (ret := none) (by decide) rfl (Nat.le_of_ble_eq_true rfl) ?_
  intro p e s m args below meth c A ls hS hr hlk hnm hK hA hW hl
  have hS : CallFix p m c cX0_putIn 6 s args wsX0_putIn RX0 := hS
  have hx := hS.1
  have hb := hS.2.1
  have hown := hS.2.2.2.1
  have hts := hS.2.2.2.2
  have hl : lv_has ls 6 [(0, .ref (a 0)), (1, .int (zI x)), (2, .int (zI y)), (3, .int (zI z))] := hl
  obtain ⟨hzz, hsf, hlin, hnum, hscn, hdur, hcnt, hcod, hplc⟩ := id hBk
  refine lv_aload_n hx hb dX0_putIn_0 rfl (lv_at hl 0 rfl) ?_
  refine va_get (D := D) (ci := 0) (v := .ref (a 2)) (C := RX0) (T := TX0) (N := 9) hx hb hts iX0_putIn_X0 hown hK.1 hW.1 0 rfl rfl 1 (by decide) (hts _ mX0_putIn_1) (fun _ h9 => h9) rfl dX0_putIn_1 ?_
  refine lv_iload_n hx hb dX0_putIn_4 rfl (lv_at hl 1 rfl) ?_
  refine lv_iload_n hx hb dX0_putIn_5 rfl (lv_at hl 2 rfl) ?_
  refine z_setCell (n := 10) (g := bd_scn b) (i := x) (v := y) (rest := []) (bs1 := [zBoard cI a (bd_scn_ b (zU (bd_scn b) x y))]) hS hK hA hW hl.1 2 rfl (gX0_putIn_X4_setCell_n44) nm_10 (mX0_putIn_2) (mX0_putIn_3) ⟨Nat.le_of_ble_eq_true rfl, Nat.le_of_ble_eq_true rfl⟩ dX0_putIn_6 (by omega) rfl (Nat.le_of_ble_eq_true rfl) ⟨Nat.le_of_ble_eq_true rfl, Nat.le_of_ble_eq_true rfl⟩ (fun H locs hW => ?_)
  refine lv_aload_n hx hb dX0_putIn_9 rfl (lv_at hl 0 rfl) ?_
  refine lv_iload_n hx hb dX0_putIn_10 rfl (lv_at hl 2 rfl) ?_
  refine z_callV (r := (RX0, TX0, 9)) (As := [.int (zI y)]) (rest := []) hS hK hA hW hl.1 [0] [] (kX0_panelsAhead l D cI cB a ((bd_scn_ b (zU (bd_scn b) x y))) y (BOK_scn hBk hx1 hy1) (by omega)) (cwV 1 hts gX0_putIn_X0_panelsAhead rfl rfl rfl (by decide +kernel) ⟨Nat.le_of_ble_eq_true rfl, Nat.le_of_ble_eq_true rfl⟩) (rfl : vwCl[0]? = some (RX0, TX0, 9)) (q0 := 0) rfl dX0_putIn_11 rfl rfl rfl rfl rfl (Nat.le_of_ble_eq_true rfl) ⟨Nat.le_of_ble_eq_true rfl, Nat.le_of_ble_eq_true rfl⟩ (fun v9 w9 H locs hq hW => ?_)
  obtain ⟨rr_11, rfl, rfl, hh_11⟩ := hq
  subst rr_11
  have hW : zW D A s.heap [zBoard cI a (bd_scn_ b (zU (bd_scn b) x y))] H locs := hW
  refine W.eq (g2 := F0 m 14 ls [.int (zI (nAhead ((bd_scn_ b (zU (bd_scn b) x y))) y))]) rfl ?_
  have qq_11 := nAhead_le (BOK_scn hBk hx1 hy1) y
  refine lv_iload_n hx hb dX0_putIn_14 rfl (lv_at hl 3 rfl) ?_
  refine z_iadd hx hb dX0_putIn_15 ?_
  refine lv_istore (lv' := [(4, .int (zI ((nAhead ((bd_scn_ b (zU (bd_scn b) x y))) y) + z))), (0, .ref (a 0)), (1, .int (zI x)), (2, .int (zI y)), (3, .int (zI z))]) hx hb dX0_putIn_16 hl (by decide) rfl (fun ls hl => ?_)
  refine lv_aload_n hx hb dX0_putIn_18 rfl (lv_at hl 1 rfl) ?_
  refine va_get (D := D) (ci := 0) (v := .int (zI (bd_sz b))) (C := RX0) (T := TX0) (N := 9) hx hb hts iX0_putIn_X0 hown hK.1 hW.1 0 rfl rfl 7 (by decide) (hts _ mX0_putIn_4) (fun _ h9 => h9) rfl dX0_putIn_19 ?_
  refine lv_istore (lv' := [(5, .int (zI (bd_sz b))), (4, .int (zI ((nAhead ((bd_scn_ b (zU (bd_scn b) x y))) y) + z))), (0, .ref (a 0)), (1, .int (zI x)), (2, .int (zI y)), (3, .int (zI z))]) hx hb dX0_putIn_22 hl (by decide) rfl (fun ls hl => ?_)
  have L24 : ∀ (fu : Nat) (ki : Int) (hc : Int → Int), (nAhead (bd_scn_ b (zU (bd_scn b) x y)) y + z ≤ ki ∧ ki ≤ bd_sz b) → (hc = shF (bd_lin b) ki (bd_sz b)) → (ki - (nAhead (bd_scn_ b (zU (bd_scn b) x y)) y + z)) < (fu : Int) → ∀ (H : Heap) (locs : List Loc), zW D A s.heap [zBoard cI a (bd_lin_ (bd_scn_ b (zU (bd_scn b) x y)) (hc))] H locs → ∀ (ls : Array Slot), lv_has ls 6 [(0, .ref (a 0)), (1, .int (zI x)), (2, .int (zI y)), (3, .int (zI z)), (4, .int (zI ((nAhead ((bd_scn_ b (zU (bd_scn b) x y))) y) + z))), (5, .int (zI ki))] → W p l e { frames := 2, cells := 0, slots := 0, locals := 45 } s m args below meth c H locs 0 0 (MQ below (zQ A D (qX0_putIn cI a b x y z)) args s 0 0 A) (F0 m 24 ls []) := by
    intro fu
    induction fu with
    | zero => intro ki hc hki hhc hm; exact absurd hm (by omega)
    | succ fu ih24 =>
      intro ki hc hki hhc hm H locs hW ls hl
      refine lv_iload hx hb dX0_putIn_24 (lv_at hl 5 rfl) ?_
      refine lv_iload hx hb dX0_putIn_26 (lv_at hl 4 rfl) ?_
      refine z_icmp_le (tgt := 57) hx hb dX0_putIn_28 (by decide) (by omega) (fun cc_28 => ?_) (fun cc_28 => ?_)
      · refine lv_aload_n hx hb dX0_putIn_57 rfl (lv_at hl 0 rfl) ?_
        refine va_get (D := D) (ci := 0) (v := .ref (a 6)) (C := RX0) (T := TX0) (N := 9) hx hb hts iX0_putIn_X0 hown hK.1 hW.1 0 rfl rfl 5 (by decide) (hts _ mX0_putIn_5) (fun _ h9 => h9) rfl dX0_putIn_58 ?_
        refine lv_iload hx hb dX0_putIn_61 (lv_at hl 4 rfl) ?_
        refine lv_iload_n hx hb dX0_putIn_63 rfl (lv_at hl 1 rfl) ?_
        refine z_setCell (n := 10) (g := hc) (i := (nAhead ((bd_scn_ b (zU (bd_scn b) x y))) y) + z) (v := x) (rest := []) (bs1 := [zBoard cI a (bd_lin_ (bd_scn_ b (zU (bd_scn b) x y)) (zU hc ((nAhead ((bd_scn_ b (zU (bd_scn b) x y))) y) + z) x))]) hS hK hA hW hl.1 6 rfl (gX0_putIn_X4_setCell_n44) nm_10 (mX0_putIn_2) (mX0_putIn_3) ⟨Nat.le_of_ble_eq_true rfl, Nat.le_of_ble_eq_true rfl⟩ dX0_putIn_64 (by omega) rfl (Nat.le_of_ble_eq_true rfl) ⟨Nat.le_of_ble_eq_true rfl, Nat.le_of_ble_eq_true rfl⟩ (fun H locs hW => ?_)
        refine lv_aload_n hx hb dX0_putIn_67 rfl (lv_at hl 0 rfl) ?_
        refine lv_dup hx hb dX0_putIn_68 rfl ?_
        refine va_get (D := D) (ci := 0) (v := .int (zI (bd_sz b))) (C := RX0) (T := TX0) (N := 9) hx hb hts iX0_putIn_X0 hown hK.1 hW.1 0 rfl rfl 7 (by decide) (hts _ mX0_putIn_4) (fun _ h9 => h9) rfl dX0_putIn_69 ?_
        refine lv_iconst (v := zI (1)) hx hb dX0_putIn_72 rfl ?_
        refine z_iadd hx hb dX0_putIn_73 ?_
        refine va_put (D := D) (ci := 0) (v := .int (zI ((bd_sz b) + 1))) (ty := .int) (C := RX0) (T := TX0) (N := 9) hx hb hts iX0_putIn_X0 tyX0 tyX0_ok nmX0 hown hK.1 hW.1 hW.2.1 hW.2.2 0 rfl rfl 7 (by decide) (hts _ mX0_putIn_4) (fun _ h9 => h9) rfl (by decide +kernel) rfl rfl (Nat.le_of_ble_eq_true rfl) dX0_putIn_74 (fun H locs h1 h2 h3 => ?_)
        have hW : zW D A s.heap [zBoard cI a (bd_sz_ (bd_lin_ (bd_scn_ b (zU (bd_scn b) x y)) (zU hc ((nAhead ((bd_scn_ b (zU (bd_scn b) x y))) y) + z) x)) ((bd_sz b) + 1))] H locs := ⟨h1, h2, h3⟩
        exact z_vret hx hb hr hlk hW dX0_putIn_77 (by
            exact ⟨rfl, by (rw [hhc, show ki = nAhead (bd_scn_ b (zU (bd_scn b) x y)) y + z by omega, insF_s _ (by omega)]; rfl), by trivial⟩)
      · refine lv_aload_n hx hb dX0_putIn_31 rfl (lv_at hl 0 rfl) ?_
        refine va_get (D := D) (ci := 0) (v := .ref (a 6)) (C := RX0) (T := TX0) (N := 9) hx hb hts iX0_putIn_X0 hown hK.1 hW.1 0 rfl rfl 5 (by decide) (hts _ mX0_putIn_5) (fun _ h9 => h9) rfl dX0_putIn_32 ?_
        refine lv_iload hx hb dX0_putIn_35 (lv_at hl 5 rfl) ?_
        refine lv_aload_n hx hb dX0_putIn_37 rfl (lv_at hl 0 rfl) ?_
        refine va_get (D := D) (ci := 0) (v := .ref (a 6)) (C := RX0) (T := TX0) (N := 9) hx hb hts iX0_putIn_X0 hown hK.1 hW.1 0 rfl rfl 5 (by decide) (hts _ mX0_putIn_5) (fun _ h9 => h9) rfl dX0_putIn_38 ?_
        refine lv_iload hx hb dX0_putIn_41 (lv_at hl 5 rfl) ?_
        refine lv_iconst (v := zI (1)) hx hb dX0_putIn_43 rfl ?_
        refine z_isub hx hb dX0_putIn_44 ?_
        refine z_cell (n := 10) (g := hc) (i := ki - 1) (rest := [.int (zI ki), .ref (a 6)]) hS hK hA hW hl.1 6 rfl (gX0_putIn_X4_cell_n52) nm_19 (mX0_putIn_2) (mX0_putIn_6) ⟨Nat.le_of_ble_eq_true rfl, Nat.le_of_ble_eq_true rfl⟩ dX0_putIn_45 (by omega) (Nat.le_of_ble_eq_true rfl) ⟨Nat.le_of_ble_eq_true rfl, Nat.le_of_ble_eq_true rfl⟩ (fun H locs hW => ?_)
        refine z_setCell (n := 10) (g := hc) (i := ki) (v := hc (ki - 1)) (rest := []) (bs1 := [zBoard cI a (bd_lin_ (bd_scn_ b (zU (bd_scn b) x y)) (zU hc ki (hc (ki - 1))))]) hS hK hA hW hl.1 6 rfl (gX0_putIn_X4_setCell_n44) nm_10 (mX0_putIn_2) (mX0_putIn_3) ⟨Nat.le_of_ble_eq_true rfl, Nat.le_of_ble_eq_true rfl⟩ dX0_putIn_48 (by omega) rfl (Nat.le_of_ble_eq_true rfl) ⟨Nat.le_of_ble_eq_true rfl, Nat.le_of_ble_eq_true rfl⟩ (fun H locs hW => ?_)
        refine z_iinc (x := ki) (lv' := [(5, .int (zI (ki + (-1)))), (0, .ref (a 0)), (1, .int (zI x)), (2, .int (zI y)), (3, .int (zI z)), (4, .int (zI ((nAhead ((bd_scn_ b (zU (bd_scn b) x y))) y) + z)))]) hx hb dX0_putIn_51 hl (k := 5) rfl (by decide) rfl (fun ls hl => ?_)
        refine lv_goto (tgt := 24) hx hb dX0_putIn_54 (by decide) ?_
        exact ih24 (ki + (-1)) (zU hc ki (hc (ki - 1))) (by omega) (by rw [hhc]; exact shF_s _ (by omega)) (by omega) _ _ hW ls (lv_sub hl [1, 2, 3, 4, 5, 0] rfl)
  exact L24 ((((bd_sz b) - (nAhead (bd_scn_ b (zU (bd_scn b) x y)) y + z)) : Int).toNat + 1) (bd_sz b) (bd_lin b) (by omega) (by exact (shF_0 _ _).symm) (by omega) _ _ hW ls (lv_sub hl [2, 3, 4, 5, 1, 0] rfl)

abbrev qX0_removePanel (cI : ClassId) (a : Nat → Nat) (b : zBS) (x : Int) (k : Int) : Option Value → List va_W → Prop := fun vq wq => vq = none ∧ wq = [zBoard cI a (bd_num_ (takeOutB b k) (zU (bd_num b) x (-1)))] ∧ (True)
set_option maxRecDepth 20000 in
theorem iX0_removePanel_X0 : ∀ w ∈ u_ws RX0 TX0 9, w ∈ wsX0_removePanel := by decide +kernel
set_option maxRecDepth 20000 in
theorem mX0_removePanel_1 : (.fieldLink RX0 9 "StoryPanels$Board" "numbers" "[I" : Cond) ∈ wsX0_removePanel := by decide +kernel
set_option maxRecDepth 20000 in
theorem mX0_removePanel_2 : (.initialized RX4 : Cond) ∈ wsX0_removePanel := by decide +kernel
set_option maxRecDepth 20000 in
theorem mX0_removePanel_3 : (.static yX4_setCell : Cond) ∈ wsX0_removePanel := by decide +kernel
set_option maxHeartbeats 4000000 in
set_option maxRecDepth 100000 in
theorem kX0_removePanel (l : Launch) (D : va_G) (cI cB : ClassId) (a : Nat → Nat) (b : zBS) (x : Int) (k : Int) (hBk : BOK b) (hx1 : 0 ≤ x ∧ x < 10) (hrk : atRank b x k) : zMet l yX0_removePanel wsX0_removePanel 3 66 0 0 D cI cB [.ref (a 0), .int (zI x)] [zBoard cI a b] (qX0_removePanel cI a b x k) := by
  refine zMet.of (cd := cX0_removePanel) (maxL := 2) (ret := none) (by decide) rfl (Nat.le_of_ble_eq_true rfl) ?_
  intro p e s m args below meth c A ls hS hr hlk hnm hK hA hW hl
  have hS : CallFix p m c cX0_removePanel 2 s args wsX0_removePanel RX0 := hS
  have hx := hS.1
  have hb := hS.2.1
  have hown := hS.2.2.2.1
  have hts := hS.2.2.2.2
  have hl : lv_has ls 2 [(0, .ref (a 0)), (1, .int (zI x))] := hl
  obtain ⟨hzz, hsf, hlin, hnum, hscn, hdur, hcnt, hcod, hplc⟩ := id hBk
  refine lv_aload_n hx hb dX0_removePanel_0 rfl (lv_at hl 0 rfl) ?_
  refine lv_iload_n hx hb dX0_removePanel_1 rfl (lv_at hl 1 rfl) ?_
  refine z_callV (r := (RX0, TX0, 9)) (As := [.int (zI x)]) (rest := []) hS hK hA hW hl.1 [0] [] (kX0_takeOut l D cI cB a b x k hBk (by omega) hrk) (cwV 1 hts gX0_removePanel_X0_takeOut rfl rfl rfl (by decide +kernel) ⟨Nat.le_of_ble_eq_true rfl, Nat.le_of_ble_eq_true rfl⟩) (rfl : vwCl[0]? = some (RX0, TX0, 9)) (q0 := 0) rfl dX0_removePanel_2 rfl rfl rfl rfl rfl (Nat.le_of_ble_eq_true rfl) ⟨Nat.le_of_ble_eq_true rfl, Nat.le_of_ble_eq_true rfl⟩ (fun v9 w9 H locs hq hW => ?_)
  obtain ⟨rfl, rfl, hh_2⟩ := hq
  have hW : zW D A s.heap [zBoard cI a (takeOutB b k)] H locs := hW
  refine W.eq (g2 := F0 m 5 ls []) rfl ?_
  refine lv_aload_n hx hb dX0_removePanel_5 rfl (lv_at hl 0 rfl) ?_
  refine va_get (D := D) (ci := 0) (v := .ref (a 1)) (C := RX0) (T := TX0) (N := 9) hx hb hts iX0_removePanel_X0 hown hK.1 hW.1 0 rfl rfl 0 (by decide) (hts _ mX0_removePanel_1) (fun _ h9 => h9) rfl dX0_removePanel_6 ?_
  refine lv_iload_n hx hb dX0_removePanel_9 rfl (lv_at hl 1 rfl) ?_
  refine lv_iconst (v := zI (-1)) hx hb dX0_removePanel_10 rfl ?_
  refine z_setCell (n := 10) (g := bd_num (takeOutB b k)) (i := x) (v := (-1)) (rest := []) (bs1 := [zBoard cI a (bd_num_ (takeOutB b k) (zU (bd_num (takeOutB b k)) x ((-1))))]) hS hK hA hW hl.1 1 rfl (gX0_removePanel_X4_setCell_n44) nm_10 (mX0_removePanel_2) (mX0_removePanel_3) ⟨Nat.le_of_ble_eq_true rfl, Nat.le_of_ble_eq_true rfl⟩ dX0_removePanel_11 (by omega) rfl (Nat.le_of_ble_eq_true rfl) ⟨Nat.le_of_ble_eq_true rfl, Nat.le_of_ble_eq_true rfl⟩ (fun H locs hW => ?_)
  exact z_vret hx hb hr hlk hW dX0_removePanel_14 (by
      exact ⟨rfl, rfl, by trivial⟩)

abbrev qX0_drawEvents (cI : ClassId) (a : Nat → Nat) (b : zBS) (a2 : Nat → Nat) (t : zTS) (x : Int) : Option Value → List va_W → Prop := fun vq wq => vq = none ∧ wq = [zBoard cI a (drawB b x t), zText cI a2 t] ∧ (True)
set_option maxRecDepth 20000 in
theorem iX0_drawEvents_X0 : ∀ w ∈ u_ws RX0 TX0 9, w ∈ wsX0_drawEvents := by decide +kernel
set_option maxRecDepth 20000 in
theorem mX0_drawEvents_1 : (.fieldLink RX0 18 "StoryPanels$Board" "durations" "[I" : Cond) ∈ wsX0_drawEvents := by decide +kernel
set_option maxRecDepth 20000 in
theorem iX0_drawEvents_X3 : ∀ w ∈ u_ws RX3 TX3 6, w ∈ wsX0_drawEvents := by decide +kernel
set_option maxRecDepth 20000 in
theorem mX0_drawEvents_3 : (.initialized RX4 : Cond) ∈ wsX0_drawEvents := by decide +kernel
set_option maxRecDepth 20000 in
theorem mX0_drawEvents_4 : (.static yX4_setCell : Cond) ∈ wsX0_drawEvents := by decide +kernel
set_option maxRecDepth 20000 in
theorem mX0_drawEvents_5 : (.fieldLink RX0 21 "StoryPanels$Board" "eventCounts" "[I" : Cond) ∈ wsX0_drawEvents := by decide +kernel
set_option maxRecDepth 20000 in
theorem mX0_drawEvents_6 : (.fieldLink RX0 24 "StoryPanels$Board" "eventCodes" "[I" : Cond) ∈ wsX0_drawEvents := by decide +kernel
set_option maxRecDepth 20000 in
theorem mX0_drawEvents_7 : (.static yX4_cell : Cond) ∈ wsX0_drawEvents := by decide +kernel
set_option maxHeartbeats 4000000 in
set_option maxRecDepth 100000 in
theorem kX0_drawEvents (l : Launch) (D : va_G) (cI cB : ClassId) (a : Nat → Nat) (b : zBS) (a2 : Nat → Nat) (t : zTS) (x : Int) (hBk : BOK b) (hx1 : 0 ≤ x ∧ x < 10) : zMet l yX0_drawEvents wsX0_drawEvents 1 22 0 0 D cI cB [.ref (a 0), .int (zI x), .ref (a2 0)] [zBoard cI a b, zText cI a2 t] (qX0_drawEvents cI a b a2 t x) := by
  refine zMet.of (cd := cX0_drawEvents) (maxL := 4) (ret := none) (by decide) rfl (Nat.le_of_ble_eq_true rfl) ?_
  intro p e s m args below meth c A ls hS hr hlk hnm hK hA hW hl
  have hS : CallFix p m c cX0_drawEvents 4 s args wsX0_drawEvents RX0 := hS
  have hx := hS.1
  have hb := hS.2.1
  have hown := hS.2.2.2.1
  have hts := hS.2.2.2.2
  have hl : lv_has ls 4 [(0, .ref (a 0)), (1, .int (zI x)), (2, .ref (a2 0))] := hl
  obtain ⟨hzz, hsf, hlin, hnum, hscn, hdur, hcnt, hcod, hplc⟩ := id hBk
  refine lv_aload_n hx hb dX0_drawEvents_0 rfl (lv_at hl 0 rfl) ?_
  refine va_get (D := D) (ci := 0) (v := .ref (a 3)) (C := RX0) (T := TX0) (N := 9) hx hb hts iX0_drawEvents_X0 hown hK.1 hW.1 0 rfl rfl 2 (by decide) (hts _ mX0_drawEvents_1) (fun _ h9 => h9) rfl dX0_drawEvents_1 ?_
  refine lv_iload_n hx hb dX0_drawEvents_4 rfl (lv_at hl 1 rfl) ?_
  refine lv_aload_n hx hb dX0_drawEvents_5 rfl (lv_at hl 2 rfl) ?_
  refine va_getN (D := D) (ci := 3) (v := .int (zI (tx_dur t))) (C := RX3) (T := TX3) (N := 6) hx hb hts iX0_drawEvents_X3 hown hK.1 hW.1 8 rfl rfl 3 (by decide) (va_Nw.use rfl (hK.2 _ nm_5)) (fun _ h9 => h9) rfl dX0_drawEvents_6 ?_
  refine z_setCell (n := 10) (g := bd_dur b) (i := x) (v := tx_dur t) (rest := []) (bs1 := [zBoard cI a (bd_dur_ b (zU (bd_dur b) x (tx_dur t))), zText cI a2 t]) hS hK hA hW hl.1 3 rfl (gX0_drawEvents_X4_setCell_n44) nm_10 (mX0_drawEvents_3) (mX0_drawEvents_4) ⟨Nat.le_of_ble_eq_true rfl, Nat.le_of_ble_eq_true rfl⟩ dX0_drawEvents_9 (by omega) rfl (Nat.le_of_ble_eq_true rfl) ⟨Nat.le_of_ble_eq_true rfl, Nat.le_of_ble_eq_true rfl⟩ (fun H locs hW => ?_)
  refine lv_aload_n hx hb dX0_drawEvents_12 rfl (lv_at hl 0 rfl) ?_
  refine va_get (D := D) (ci := 0) (v := .ref (a 4)) (C := RX0) (T := TX0) (N := 9) hx hb hts iX0_drawEvents_X0 hown hK.1 hW.1 0 rfl rfl 3 (by decide) (hts _ mX0_drawEvents_5) (fun _ h9 => h9) rfl dX0_drawEvents_13 ?_
  refine lv_iload_n hx hb dX0_drawEvents_16 rfl (lv_at hl 1 rfl) ?_
  refine lv_aload_n hx hb dX0_drawEvents_17 rfl (lv_at hl 2 rfl) ?_
  refine va_getN (D := D) (ci := 3) (v := .int (zI (tx_evs t))) (C := RX3) (T := TX3) (N := 6) hx hb hts iX0_drawEvents_X3 hown hK.1 hW.1 8 rfl rfl 4 (by decide) (va_Nw.use rfl (hK.2 _ nm_6)) (fun _ h9 => h9) rfl dX0_drawEvents_18 ?_
  refine z_setCell (n := 10) (g := bd_cnt b) (i := x) (v := tx_evs t) (rest := []) (bs1 := [zBoard cI a (bd_cnt_ (bd_dur_ b (zU (bd_dur b) x (tx_dur t))) (zU (bd_cnt b) x (tx_evs t))), zText cI a2 t]) hS hK hA hW hl.1 4 rfl (gX0_drawEvents_X4_setCell_n44) nm_10 (mX0_drawEvents_3) (mX0_drawEvents_4) ⟨Nat.le_of_ble_eq_true rfl, Nat.le_of_ble_eq_true rfl⟩ dX0_drawEvents_21 (by omega) rfl (Nat.le_of_ble_eq_true rfl) ⟨Nat.le_of_ble_eq_true rfl, Nat.le_of_ble_eq_true rfl⟩ (fun H locs hW => ?_)
  refine lv_iconst (v := zI (0)) hx hb dX0_drawEvents_24 rfl ?_
  refine lv_istore_n (lv' := [(3, .int (zI 0)), (0, .ref (a 0)), (1, .int (zI x)), (2, .ref (a2 0))]) hx hb dX0_drawEvents_25 rfl hl (by decide) rfl (fun ls hl => ?_)
  have L26 : ∀ (fu : Nat) (ki : Int) (hc : Int → Int), (0 ≤ ki ∧ ki ≤ 6) → (hc = drwF (bd_cod b) x (tx_cod t) ki) → (6 - ki) < (fu : Int) → ∀ (H : Heap) (locs : List Loc), zW D A s.heap [zBoard cI a (bd_cod_ (bd_cnt_ (bd_dur_ b (zU (bd_dur b) x (tx_dur t))) (zU (bd_cnt b) x (tx_evs t))) (hc)), zText cI a2 t] H locs → ∀ (ls : Array Slot), lv_has ls 4 [(0, .ref (a 0)), (1, .int (zI x)), (2, .ref (a2 0)), (3, .int (zI ki))] → W p l e { frames := 1, cells := 0, slots := 0, locals := 22 } s m args below meth c H locs 0 0 (MQ below (zQ A D (qX0_drawEvents cI a b a2 t x)) args s 0 0 A) (F0 m 26 ls []) := by
    intro fu
    induction fu with
    | zero => intro ki hc hki hhc hm; exact absurd hm (by omega)
    | succ fu ih26 =>
      intro ki hc hki hhc hm H locs hW ls hl
      refine lv_iload_n hx hb dX0_drawEvents_26 rfl (lv_at hl 3 rfl) ?_
      refine lv_bipush (v := zI (6)) hx hb dX0_drawEvents_27 (by decide +kernel) ?_
      refine z_icmp_ge (tgt := 59) hx hb dX0_drawEvents_29 (by decide) (by omega) (fun cc_29 => ?_) (fun cc_29 => ?_)
      · exact z_vret hx hb hr hlk hW dX0_drawEvents_59 (by
            exact ⟨rfl, by (rw [show ki = 6 by omega] at hhc; rw [hhc]; rfl), by trivial⟩)
      · refine lv_aload_n hx hb dX0_drawEvents_32 rfl (lv_at hl 0 rfl) ?_
        refine va_get (D := D) (ci := 0) (v := .ref (a 5)) (C := RX0) (T := TX0) (N := 9) hx hb hts iX0_drawEvents_X0 hown hK.1 hW.1 0 rfl rfl 4 (by decide) (hts _ mX0_drawEvents_6) (fun _ h9 => h9) rfl dX0_drawEvents_33 ?_
        refine lv_iload_n hx hb dX0_drawEvents_36 rfl (lv_at hl 1 rfl) ?_
        refine lv_bipush (v := zI (6)) hx hb dX0_drawEvents_37 (by decide +kernel) ?_
        refine z_imul hx hb dX0_drawEvents_39 ?_
        refine lv_iload_n hx hb dX0_drawEvents_40 rfl (lv_at hl 3 rfl) ?_
        refine z_iadd hx hb dX0_drawEvents_41 ?_
        refine lv_aload_n hx hb dX0_drawEvents_42 rfl (lv_at hl 2 rfl) ?_
        refine va_getN (D := D) (ci := 3) (v := .ref (a2 2)) (C := RX3) (T := TX3) (N := 6) hx hb hts iX0_drawEvents_X3 hown hK.1 hW.1 8 rfl rfl 5 (by decide) (va_Nw.use rfl (hK.2 _ nm_7)) (fun _ h9 => h9) rfl dX0_drawEvents_43 ?_
        refine lv_iload_n hx hb dX0_drawEvents_46 rfl (lv_at hl 3 rfl) ?_
        refine z_cell (n := 6) (g := tx_cod t) (i := ki) (rest := [.int (zI ((x * 6) + ki)), .ref (a 5)]) hS hK hA hW hl.1 10 rfl (gX0_drawEvents_X4_cell_n52) nm_19 (mX0_drawEvents_3) (mX0_drawEvents_7) ⟨Nat.le_of_ble_eq_true rfl, Nat.le_of_ble_eq_true rfl⟩ dX0_drawEvents_47 (by omega) (Nat.le_of_ble_eq_true rfl) ⟨Nat.le_of_ble_eq_true rfl, Nat.le_of_ble_eq_true rfl⟩ (fun H locs hW => ?_)
        refine z_setCell (n := 60) (g := hc) (i := (x * 6) + ki) (v := (tx_cod t) ki) (rest := []) (bs1 := [zBoard cI a (bd_cod_ (bd_cnt_ (bd_dur_ b (zU (bd_dur b) x (tx_dur t))) (zU (bd_cnt b) x (tx_evs t))) (zU hc ((x * 6) + ki) ((tx_cod t) ki))), zText cI a2 t]) hS hK hA hW hl.1 5 rfl (gX0_drawEvents_X4_setCell_n44) nm_10 (mX0_drawEvents_3) (mX0_drawEvents_4) ⟨Nat.le_of_ble_eq_true rfl, Nat.le_of_ble_eq_true rfl⟩ dX0_drawEvents_50 (by omega) rfl (Nat.le_of_ble_eq_true rfl) ⟨Nat.le_of_ble_eq_true rfl, Nat.le_of_ble_eq_true rfl⟩ (fun H locs hW => ?_)
        refine z_iinc (x := ki) (lv' := [(3, .int (zI (ki + 1))), (0, .ref (a 0)), (1, .int (zI x)), (2, .ref (a2 0))]) hx hb dX0_drawEvents_53 hl (k := 3) rfl (by decide) rfl (fun ls hl => ?_)
        refine lv_goto (tgt := 26) hx hb dX0_drawEvents_56 (by decide) ?_
        exact ih26 (ki + 1) (zU hc ((x * 6) + ki) ((tx_cod t) ki)) (by omega) (by rw [hhc]; exact drwF_s _ _ (by omega)) (by omega) _ _ hW ls (lv_sub hl [1, 2, 3, 0] rfl)
  exact L26 (((6 - 0) : Int).toNat + 1) 0 (bd_cod b) (by omega) (by exact (drwF_0 _ _ _).symm) (by omega) _ _ hW ls (lv_sub hl [1, 2, 3, 0] rfl)
