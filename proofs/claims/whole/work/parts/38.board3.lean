abbrev qX0_copyFrom (cI : ClassId) (a : Nat → Nat) (b : zBS) (a2 : Nat → Nat) (b2 : zBS) : Option Value → List va_W → Prop := fun vq wq => vq = none ∧ wq = [zBoard cI a (zcpB b b2), zBoard cI a2 b2] ∧ (True)
set_option maxRecDepth 20000 in
theorem iX0_copyFrom_X0 : ∀ w ∈ u_ws RX0 TX0 9, w ∈ wsX0_copyFrom := by decide +kernel
set_option maxRecDepth 20000 in
theorem mX0_copyFrom_1 : (.fieldLink RX0 9 "StoryPanels$Board" "numbers" "[I" : Cond) ∈ wsX0_copyFrom := by decide +kernel
set_option maxRecDepth 20000 in
theorem mX0_copyFrom_2 : (.initialized RX4 : Cond) ∈ wsX0_copyFrom := by decide +kernel
set_option maxRecDepth 20000 in
theorem mX0_copyFrom_3 : (.static yX4_copyRow : Cond) ∈ wsX0_copyFrom := by decide +kernel
set_option maxRecDepth 20000 in
theorem mX0_copyFrom_4 : (.fieldLink RX0 15 "StoryPanels$Board" "scenes" "[I" : Cond) ∈ wsX0_copyFrom := by decide +kernel
set_option maxRecDepth 20000 in
theorem mX0_copyFrom_5 : (.fieldLink RX0 18 "StoryPanels$Board" "durations" "[I" : Cond) ∈ wsX0_copyFrom := by decide +kernel
set_option maxRecDepth 20000 in
theorem mX0_copyFrom_6 : (.fieldLink RX0 21 "StoryPanels$Board" "eventCounts" "[I" : Cond) ∈ wsX0_copyFrom := by decide +kernel
set_option maxRecDepth 20000 in
theorem mX0_copyFrom_7 : (.fieldLink RX0 24 "StoryPanels$Board" "eventCodes" "[I" : Cond) ∈ wsX0_copyFrom := by decide +kernel
set_option maxRecDepth 20000 in
theorem mX0_copyFrom_8 : (.fieldLink RX0 27 "StoryPanels$Board" "line" "[I" : Cond) ∈ wsX0_copyFrom := by decide +kernel
set_option maxRecDepth 20000 in
theorem mX0_copyFrom_9 : (.fieldLink RX0 30 "StoryPanels$Board" "scenePlaces" "[I" : Cond) ∈ wsX0_copyFrom := by decide +kernel
set_option maxRecDepth 20000 in
theorem mX0_copyFrom_10 : (.fieldLink RX0 33 "StoryPanels$Board" "size" "I" : Cond) ∈ wsX0_copyFrom := by decide +kernel
set_option maxRecDepth 20000 in
theorem mX0_copyFrom_11 : (.fieldLink RX0 37 "StoryPanels$Board" "soFar" "I" : Cond) ∈ wsX0_copyFrom := by decide +kernel
set_option maxHeartbeats 4000000 in
set_option maxRecDepth 100000 in
theorem kX0_copyFrom (l : Launch) (D : va_G) (cI cB : ClassId) (a : Nat → Nat) (b : zBS) (a2 : Nat → Nat) (b2 : zBS)  : zMet l yX0_copyFrom wsX0_copyFrom 1 22 0 0 D cI cB [.ref (a 0), .ref (a2 0)] [zBoard cI a b, zBoard cI a2 b2] (qX0_copyFrom cI a b a2 b2) := by
  refine zMet.of (cd := cX0_copyFrom) (maxL := 2) (ret := none) (by decide) rfl (Nat.le_of_ble_eq_true rfl) ?_
  intro p e s m args below meth c A ls hS hr hlk hnm hK hA hW hl
  have hS : CallFix p m c cX0_copyFrom 2 s args wsX0_copyFrom RX0 := hS
  have hx := hS.1
  have hb := hS.2.1
  have hown := hS.2.2.2.1
  have hts := hS.2.2.2.2
  have hl : lv_has ls 2 [(0, .ref (a 0)), (1, .ref (a2 0))] := hl
  refine lv_aload_n hx hb dX0_copyFrom_0 rfl (lv_at hl 1 rfl) ?_
  refine va_get (D := D) (ci := 0) (v := .ref (a2 1)) (C := RX0) (T := TX0) (N := 9) hx hb hts iX0_copyFrom_X0 hown hK.1 hW.1 8 rfl rfl 0 (by decide) (hts _ mX0_copyFrom_1) (fun _ h9 => h9) rfl dX0_copyFrom_1 ?_
  refine lv_aload_n hx hb dX0_copyFrom_4 rfl (lv_at hl 0 rfl) ?_
  refine va_get (D := D) (ci := 0) (v := .ref (a 1)) (C := RX0) (T := TX0) (N := 9) hx hb hts iX0_copyFrom_X0 hown hK.1 hW.1 0 rfl rfl 0 (by decide) (hts _ mX0_copyFrom_1) (fun _ h9 => h9) rfl dX0_copyFrom_5 ?_
  refine z_copyRow (n := 10) (g := bd_num b2) (g2 := bd_num b) (rest := []) (bs1 := [zBoard cI a (bd_num_ b (cpF (bd_num b2) (bd_num b) 10)), zBoard cI a2 b2]) hS hK hA hW hl.1 9 1 (by decide) rfl rfl (gX0_copyFrom_X4_copyRow_n48) nm_18 (mX0_copyFrom_2) (mX0_copyFrom_3) ⟨Nat.le_of_ble_eq_true rfl, Nat.le_of_ble_eq_true rfl⟩ dX0_copyFrom_8 (by omega) rfl (Nat.le_of_ble_eq_true rfl) ⟨Nat.le_of_ble_eq_true rfl, Nat.le_of_ble_eq_true rfl⟩ (fun H locs hW => ?_)
  refine lv_aload_n hx hb dX0_copyFrom_11 rfl (lv_at hl 1 rfl) ?_
  refine va_get (D := D) (ci := 0) (v := .ref (a2 2)) (C := RX0) (T := TX0) (N := 9) hx hb hts iX0_copyFrom_X0 hown hK.1 hW.1 8 rfl rfl 1 (by decide) (hts _ mX0_copyFrom_4) (fun _ h9 => h9) rfl dX0_copyFrom_12 ?_
  refine lv_aload_n hx hb dX0_copyFrom_15 rfl (lv_at hl 0 rfl) ?_
  refine va_get (D := D) (ci := 0) (v := .ref (a 2)) (C := RX0) (T := TX0) (N := 9) hx hb hts iX0_copyFrom_X0 hown hK.1 hW.1 0 rfl rfl 1 (by decide) (hts _ mX0_copyFrom_4) (fun _ h9 => h9) rfl dX0_copyFrom_16 ?_
  refine z_copyRow (n := 10) (g := bd_scn b2) (g2 := bd_scn b) (rest := []) (bs1 := [zBoard cI a (bd_scn_ (bd_num_ b (cpF (bd_num b2) (bd_num b) 10)) (cpF (bd_scn b2) (bd_scn b) 10)), zBoard cI a2 b2]) hS hK hA hW hl.1 10 2 (by decide) rfl rfl (gX0_copyFrom_X4_copyRow_n48) nm_18 (mX0_copyFrom_2) (mX0_copyFrom_3) ⟨Nat.le_of_ble_eq_true rfl, Nat.le_of_ble_eq_true rfl⟩ dX0_copyFrom_19 (by omega) rfl (Nat.le_of_ble_eq_true rfl) ⟨Nat.le_of_ble_eq_true rfl, Nat.le_of_ble_eq_true rfl⟩ (fun H locs hW => ?_)
  refine lv_aload_n hx hb dX0_copyFrom_22 rfl (lv_at hl 1 rfl) ?_
  refine va_get (D := D) (ci := 0) (v := .ref (a2 3)) (C := RX0) (T := TX0) (N := 9) hx hb hts iX0_copyFrom_X0 hown hK.1 hW.1 8 rfl rfl 2 (by decide) (hts _ mX0_copyFrom_5) (fun _ h9 => h9) rfl dX0_copyFrom_23 ?_
  refine lv_aload_n hx hb dX0_copyFrom_26 rfl (lv_at hl 0 rfl) ?_
  refine va_get (D := D) (ci := 0) (v := .ref (a 3)) (C := RX0) (T := TX0) (N := 9) hx hb hts iX0_copyFrom_X0 hown hK.1 hW.1 0 rfl rfl 2 (by decide) (hts _ mX0_copyFrom_5) (fun _ h9 => h9) rfl dX0_copyFrom_27 ?_
  refine z_copyRow (n := 10) (g := bd_dur b2) (g2 := bd_dur b) (rest := []) (bs1 := [zBoard cI a (bd_dur_ (bd_scn_ (bd_num_ b (cpF (bd_num b2) (bd_num b) 10)) (cpF (bd_scn b2) (bd_scn b) 10)) (cpF (bd_dur b2) (bd_dur b) 10)), zBoard cI a2 b2]) hS hK hA hW hl.1 11 3 (by decide) rfl rfl (gX0_copyFrom_X4_copyRow_n48) nm_18 (mX0_copyFrom_2) (mX0_copyFrom_3) ⟨Nat.le_of_ble_eq_true rfl, Nat.le_of_ble_eq_true rfl⟩ dX0_copyFrom_30 (by omega) rfl (Nat.le_of_ble_eq_true rfl) ⟨Nat.le_of_ble_eq_true rfl, Nat.le_of_ble_eq_true rfl⟩ (fun H locs hW => ?_)
  refine lv_aload_n hx hb dX0_copyFrom_33 rfl (lv_at hl 1 rfl) ?_
  refine va_get (D := D) (ci := 0) (v := .ref (a2 4)) (C := RX0) (T := TX0) (N := 9) hx hb hts iX0_copyFrom_X0 hown hK.1 hW.1 8 rfl rfl 3 (by decide) (hts _ mX0_copyFrom_6) (fun _ h9 => h9) rfl dX0_copyFrom_34 ?_
  refine lv_aload_n hx hb dX0_copyFrom_37 rfl (lv_at hl 0 rfl) ?_
  refine va_get (D := D) (ci := 0) (v := .ref (a 4)) (C := RX0) (T := TX0) (N := 9) hx hb hts iX0_copyFrom_X0 hown hK.1 hW.1 0 rfl rfl 3 (by decide) (hts _ mX0_copyFrom_6) (fun _ h9 => h9) rfl dX0_copyFrom_38 ?_
  refine z_copyRow (n := 10) (g := bd_cnt b2) (g2 := bd_cnt b) (rest := []) (bs1 := [zBoard cI a (bd_cnt_ (bd_dur_ (bd_scn_ (bd_num_ b (cpF (bd_num b2) (bd_num b) 10)) (cpF (bd_scn b2) (bd_scn b) 10)) (cpF (bd_dur b2) (bd_dur b) 10)) (cpF (bd_cnt b2) (bd_cnt b) 10)), zBoard cI a2 b2]) hS hK hA hW hl.1 12 4 (by decide) rfl rfl (gX0_copyFrom_X4_copyRow_n48) nm_18 (mX0_copyFrom_2) (mX0_copyFrom_3) ⟨Nat.le_of_ble_eq_true rfl, Nat.le_of_ble_eq_true rfl⟩ dX0_copyFrom_41 (by omega) rfl (Nat.le_of_ble_eq_true rfl) ⟨Nat.le_of_ble_eq_true rfl, Nat.le_of_ble_eq_true rfl⟩ (fun H locs hW => ?_)
  refine lv_aload_n hx hb dX0_copyFrom_44 rfl (lv_at hl 1 rfl) ?_
  refine va_get (D := D) (ci := 0) (v := .ref (a2 5)) (C := RX0) (T := TX0) (N := 9) hx hb hts iX0_copyFrom_X0 hown hK.1 hW.1 8 rfl rfl 4 (by decide) (hts _ mX0_copyFrom_7) (fun _ h9 => h9) rfl dX0_copyFrom_45 ?_
  refine lv_aload_n hx hb dX0_copyFrom_48 rfl (lv_at hl 0 rfl) ?_
  refine va_get (D := D) (ci := 0) (v := .ref (a 5)) (C := RX0) (T := TX0) (N := 9) hx hb hts iX0_copyFrom_X0 hown hK.1 hW.1 0 rfl rfl 4 (by decide) (hts _ mX0_copyFrom_7) (fun _ h9 => h9) rfl dX0_copyFrom_49 ?_
  refine z_copyRow (n := 60) (g := bd_cod b2) (g2 := bd_cod b) (rest := []) (bs1 := [zBoard cI a (bd_cod_ (bd_cnt_ (bd_dur_ (bd_scn_ (bd_num_ b (cpF (bd_num b2) (bd_num b) 10)) (cpF (bd_scn b2) (bd_scn b) 10)) (cpF (bd_dur b2) (bd_dur b) 10)) (cpF (bd_cnt b2) (bd_cnt b) 10)) (cpF (bd_cod b2) (bd_cod b) 60)), zBoard cI a2 b2]) hS hK hA hW hl.1 13 5 (by decide) rfl rfl (gX0_copyFrom_X4_copyRow_n48) nm_18 (mX0_copyFrom_2) (mX0_copyFrom_3) ⟨Nat.le_of_ble_eq_true rfl, Nat.le_of_ble_eq_true rfl⟩ dX0_copyFrom_52 (by omega) rfl (Nat.le_of_ble_eq_true rfl) ⟨Nat.le_of_ble_eq_true rfl, Nat.le_of_ble_eq_true rfl⟩ (fun H locs hW => ?_)
  refine lv_aload_n hx hb dX0_copyFrom_55 rfl (lv_at hl 1 rfl) ?_
  refine va_get (D := D) (ci := 0) (v := .ref (a2 6)) (C := RX0) (T := TX0) (N := 9) hx hb hts iX0_copyFrom_X0 hown hK.1 hW.1 8 rfl rfl 5 (by decide) (hts _ mX0_copyFrom_8) (fun _ h9 => h9) rfl dX0_copyFrom_56 ?_
  refine lv_aload_n hx hb dX0_copyFrom_59 rfl (lv_at hl 0 rfl) ?_
  refine va_get (D := D) (ci := 0) (v := .ref (a 6)) (C := RX0) (T := TX0) (N := 9) hx hb hts iX0_copyFrom_X0 hown hK.1 hW.1 0 rfl rfl 5 (by decide) (hts _ mX0_copyFrom_8) (fun _ h9 => h9) rfl dX0_copyFrom_60 ?_
  refine z_copyRow (n := 10) (g := bd_lin b2) (g2 := bd_lin b) (rest := []) (bs1 := [zBoard cI a (bd_lin_ (bd_cod_ (bd_cnt_ (bd_dur_ (bd_scn_ (bd_num_ b (cpF (bd_num b2) (bd_num b) 10)) (cpF (bd_scn b2) (bd_scn b) 10)) (cpF (bd_dur b2) (bd_dur b) 10)) (cpF (bd_cnt b2) (bd_cnt b) 10)) (cpF (bd_cod b2) (bd_cod b) 60)) (cpF (bd_lin b2) (bd_lin b) 10)), zBoard cI a2 b2]) hS hK hA hW hl.1 14 6 (by decide) rfl rfl (gX0_copyFrom_X4_copyRow_n48) nm_18 (mX0_copyFrom_2) (mX0_copyFrom_3) ⟨Nat.le_of_ble_eq_true rfl, Nat.le_of_ble_eq_true rfl⟩ dX0_copyFrom_63 (by omega) rfl (Nat.le_of_ble_eq_true rfl) ⟨Nat.le_of_ble_eq_true rfl, Nat.le_of_ble_eq_true rfl⟩ (fun H locs hW => ?_)
  refine lv_aload_n hx hb dX0_copyFrom_66 rfl (lv_at hl 1 rfl) ?_
  refine va_get (D := D) (ci := 0) (v := .ref (a2 7)) (C := RX0) (T := TX0) (N := 9) hx hb hts iX0_copyFrom_X0 hown hK.1 hW.1 8 rfl rfl 6 (by decide) (hts _ mX0_copyFrom_9) (fun _ h9 => h9) rfl dX0_copyFrom_67 ?_
  refine lv_aload_n hx hb dX0_copyFrom_70 rfl (lv_at hl 0 rfl) ?_
  refine va_get (D := D) (ci := 0) (v := .ref (a 7)) (C := RX0) (T := TX0) (N := 9) hx hb hts iX0_copyFrom_X0 hown hK.1 hW.1 0 rfl rfl 6 (by decide) (hts _ mX0_copyFrom_9) (fun _ h9 => h9) rfl dX0_copyFrom_71 ?_
  refine z_copyRow (n := 5) (g := bd_plc b2) (g2 := bd_plc b) (rest := []) (bs1 := [zBoard cI a (bd_plc_ (bd_lin_ (bd_cod_ (bd_cnt_ (bd_dur_ (bd_scn_ (bd_num_ b (cpF (bd_num b2) (bd_num b) 10)) (cpF (bd_scn b2) (bd_scn b) 10)) (cpF (bd_dur b2) (bd_dur b) 10)) (cpF (bd_cnt b2) (bd_cnt b) 10)) (cpF (bd_cod b2) (bd_cod b) 60)) (cpF (bd_lin b2) (bd_lin b) 10)) (cpF (bd_plc b2) (bd_plc b) 5)), zBoard cI a2 b2]) hS hK hA hW hl.1 15 7 (by decide) rfl rfl (gX0_copyFrom_X4_copyRow_n48) nm_18 (mX0_copyFrom_2) (mX0_copyFrom_3) ⟨Nat.le_of_ble_eq_true rfl, Nat.le_of_ble_eq_true rfl⟩ dX0_copyFrom_74 (by omega) rfl (Nat.le_of_ble_eq_true rfl) ⟨Nat.le_of_ble_eq_true rfl, Nat.le_of_ble_eq_true rfl⟩ (fun H locs hW => ?_)
  refine lv_aload_n hx hb dX0_copyFrom_77 rfl (lv_at hl 0 rfl) ?_
  refine lv_aload_n hx hb dX0_copyFrom_78 rfl (lv_at hl 1 rfl) ?_
  refine va_get (D := D) (ci := 0) (v := .int (zI (bd_sz b2))) (C := RX0) (T := TX0) (N := 9) hx hb hts iX0_copyFrom_X0 hown hK.1 hW.1 8 rfl rfl 7 (by decide) (hts _ mX0_copyFrom_10) (fun _ h9 => h9) rfl dX0_copyFrom_79 ?_
  refine va_put (D := D) (ci := 0) (v := .int (zI (bd_sz b2))) (ty := .int) (C := RX0) (T := TX0) (N := 9) hx hb hts iX0_copyFrom_X0 tyX0 tyX0_ok nmX0 hown hK.1 hW.1 hW.2.1 hW.2.2 0 rfl rfl 7 (by decide) (hts _ mX0_copyFrom_10) (fun _ h9 => h9) rfl (by decide +kernel) rfl rfl (Nat.le_of_ble_eq_true rfl) dX0_copyFrom_82 (fun H locs h1 h2 h3 => ?_)
  have hW : zW D A s.heap [zBoard cI a (bd_sz_ (bd_plc_ (bd_lin_ (bd_cod_ (bd_cnt_ (bd_dur_ (bd_scn_ (bd_num_ b (cpF (bd_num b2) (bd_num b) 10)) (cpF (bd_scn b2) (bd_scn b) 10)) (cpF (bd_dur b2) (bd_dur b) 10)) (cpF (bd_cnt b2) (bd_cnt b) 10)) (cpF (bd_cod b2) (bd_cod b) 60)) (cpF (bd_lin b2) (bd_lin b) 10)) (cpF (bd_plc b2) (bd_plc b) 5)) (bd_sz b2)), zBoard cI a2 b2] H locs := ⟨h1, h2, h3⟩
  refine lv_aload_n hx hb dX0_copyFrom_85 rfl (lv_at hl 0 rfl) ?_
  refine lv_aload_n hx hb dX0_copyFrom_86 rfl (lv_at hl 1 rfl) ?_
  refine va_get (D := D) (ci := 0) (v := .int (zI (bd_sf b2))) (C := RX0) (T := TX0) (N := 9) hx hb hts iX0_copyFrom_X0 hown hK.1 hW.1 8 rfl rfl 8 (by decide) (hts _ mX0_copyFrom_11) (fun _ h9 => h9) rfl dX0_copyFrom_87 ?_
  refine va_put (D := D) (ci := 0) (v := .int (zI (bd_sf b2))) (ty := .int) (C := RX0) (T := TX0) (N := 9) hx hb hts iX0_copyFrom_X0 tyX0 tyX0_ok nmX0 hown hK.1 hW.1 hW.2.1 hW.2.2 0 rfl rfl 8 (by decide) (hts _ mX0_copyFrom_11) (fun _ h9 => h9) rfl (by decide +kernel) rfl rfl (Nat.le_of_ble_eq_true rfl) dX0_copyFrom_90 (fun H locs h1 h2 h3 => ?_)
  have hW : zW D A s.heap [zBoard cI a (bd_sf_ (bd_sz_ (bd_plc_ (bd_lin_ (bd_cod_ (bd_cnt_ (bd_dur_ (bd_scn_ (bd_num_ b (cpF (bd_num b2) (bd_num b) 10)) (cpF (bd_scn b2) (bd_scn b) 10)) (cpF (bd_dur b2) (bd_dur b) 10)) (cpF (bd_cnt b2) (bd_cnt b) 10)) (cpF (bd_cod b2) (bd_cod b) 60)) (cpF (bd_lin b2) (bd_lin b) 10)) (cpF (bd_plc b2) (bd_plc b) 5)) (bd_sz b2)) (bd_sf b2)), zBoard cI a2 b2] H locs := ⟨h1, h2, h3⟩
  exact z_vret hx hb hr hlk hW dX0_copyFrom_93 (by
      exact ⟨rfl, rfl, by trivial⟩)

abbrev qX0_drawByText (cI : ClassId) (a : Nat → Nat) (b : zBS) (a2 : Nat → Nat) (t : zTS) (x : Int) (k : Int) : Option Value → List va_W → Prop := fun vq wq => vq = none ∧ wq = [zBoard cI a ((if bd_scn b x = tx_scn t then drawB b x t else putInB (takeOutB (drawB b x t) k) x (tx_scn t) (nAhead (bd_scn_ (takeOutB (drawB b x t) k) (zU (bd_scn b) x (tx_scn t))) (tx_scn t) + nIn (takeOutB (drawB b x t) k) (tx_scn t)))), zText cI a2 t] ∧ (True)
set_option maxRecDepth 20000 in
theorem iX0_drawByText_X3 : ∀ w ∈ u_ws RX3 TX3 6, w ∈ wsX0_drawByText := by decide +kernel
set_option maxHeartbeats 4000000 in
set_option maxRecDepth 100000 in
theorem kX0_drawByText (l : Launch) (D : va_G) (cI cB : ClassId) (a : Nat → Nat) (b : zBS) (a2 : Nat → Nat) (t : zTS) (x : Int) (k : Int) (hBk : BOK b) (hx1 : 0 ≤ x ∧ x < 10) (hrk : atRank b x k) (hsc : 0 ≤ tx_scn t ∧ tx_scn t < 5) (hBd : BOK (drawB b x t)) (hBo : BOK (takeOutB (drawB b x t) k)) (hle : nAhead (bd_scn_ (takeOutB (drawB b x t) k) (zU (bd_scn b) x (tx_scn t))) (tx_scn t) + nIn (takeOutB (drawB b x t) k) (tx_scn t) ≤ bd_sz b - 1) : zMet l yX0_drawByText wsX0_drawByText 3 70 0 0 D cI cB [.ref (a 0), .int (zI x), .ref (a2 0)] [zBoard cI a b, zText cI a2 t] (qX0_drawByText cI a b a2 t x k) := by
  refine zMet.of (cd := cX0_drawByText) (maxL := 3) (ret := none) (by decide) rfl (Nat.le_of_ble_eq_true rfl) ?_
  intro p e s m args below meth c A ls hS hr hlk hnm hK hA hW hl
  have hS : CallFix p m c cX0_drawByText 3 s args wsX0_drawByText RX0 := hS
  have hx := hS.1
  have hb := hS.2.1
  have hown := hS.2.2.2.1
  have hts := hS.2.2.2.2
  have hl : lv_has ls 3 [(0, .ref (a 0)), (1, .int (zI x)), (2, .ref (a2 0))] := hl
  obtain ⟨hzz, hsf, hlin, hnum, hscn, hdur, hcnt, hcod, hplc⟩ := id hBk
  have hrk1 := hrk.1
  have qq_x := hscn x (by omega) (by omega)
  refine lv_aload_n hx hb dX0_drawByText_0 rfl (lv_at hl 0 rfl) ?_
  refine lv_iload_n hx hb dX0_drawByText_1 rfl (lv_at hl 1 rfl) ?_
  refine lv_aload_n hx hb dX0_drawByText_2 rfl (lv_at hl 2 rfl) ?_
  refine z_callV (r := (RX0, TX0, 9)) (As := [.int (zI x), .ref (a2 0)]) (rest := []) hS hK hA hW hl.1 [0, 1] [] (kX0_drawEvents l D cI cB a b a2 t x (by omega) (by omega)) (cwV 2 hts gX0_drawByText_X0_drawEvents rfl rfl rfl (by decide +kernel) ⟨Nat.le_of_ble_eq_true rfl, Nat.le_of_ble_eq_true rfl⟩) (rfl : vwCl[0]? = some (RX0, TX0, 9)) (q0 := 0) rfl dX0_drawByText_3 rfl rfl rfl rfl rfl (Nat.le_of_ble_eq_true rfl) ⟨Nat.le_of_ble_eq_true rfl, Nat.le_of_ble_eq_true rfl⟩ (fun v9 w9 H locs hq hW => ?_)
  obtain ⟨rfl, rfl, hh_3⟩ := hq
  have hW : zW D A s.heap [zBoard cI a (drawB b x t), zText cI a2 t] H locs := hW
  refine W.eq (g2 := F0 m 6 ls []) rfl ?_
  refine lv_aload_n hx hb dX0_drawByText_6 rfl (lv_at hl 0 rfl) ?_
  refine lv_iload_n hx hb dX0_drawByText_7 rfl (lv_at hl 1 rfl) ?_
  refine z_callV (r := (RX0, TX0, 9)) (As := [.int (zI x)]) (rest := []) hS hK hA hW hl.1 [0] [1] (kX0_sceneOf l D cI cB a ((drawB b x t)) x hBd (by omega)) (cwV 1 hts gX0_drawByText_X0_sceneOf rfl rfl rfl (by decide +kernel) ⟨Nat.le_of_ble_eq_true rfl, Nat.le_of_ble_eq_true rfl⟩) (rfl : vwCl[0]? = some (RX0, TX0, 9)) (q0 := 0) rfl dX0_drawByText_8 rfl rfl rfl rfl rfl (Nat.le_of_ble_eq_true rfl) ⟨Nat.le_of_ble_eq_true rfl, Nat.le_of_ble_eq_true rfl⟩ (fun v9 w9 H locs hq hW => ?_)
  obtain ⟨rr_8, rfl, rfl, hh_8⟩ := hq
  subst rr_8
  have hW : zW D A s.heap [zBoard cI a (drawB b x t), zText cI a2 t] H locs := hW
  refine W.eq (g2 := F0 m 11 ls [.int (zI (bd_scn ((drawB b x t)) x))]) rfl ?_
  rw [show (bd_scn ((drawB b x t)) x) = (bd_scn b x) by rfl]
  refine lv_aload_n hx hb dX0_drawByText_11 rfl (lv_at hl 2 rfl) ?_
  refine va_getN (D := D) (ci := 3) (v := .int (zI (tx_scn t))) (C := RX3) (T := TX3) (N := 6) hx hb hts iX0_drawByText_X3 hown hK.1 hW.1 8 rfl rfl 2 (by decide) (va_Nw.use rfl (hK.2 _ nm_4)) (fun _ h9 => h9) rfl dX0_drawByText_12 ?_
  refine z_icmp_eq (tgt := 40) hx hb dX0_drawByText_15 (by decide) (by omega) (fun cc_15 => ?_) (fun cc_15 => ?_)
  · exact z_vret hx hb hr hlk hW dX0_drawByText_40 (by
        exact ⟨rfl, by (first | (rw [if_pos cc_15]; done) | (rw [if_neg cc_15]; done) | (rw [if_neg cc_15]; rfl)), by trivial⟩)
  · refine lv_aload_n hx hb dX0_drawByText_18 rfl (lv_at hl 0 rfl) ?_
    refine lv_iload_n hx hb dX0_drawByText_19 rfl (lv_at hl 1 rfl) ?_
    refine z_callV (r := (RX0, TX0, 9)) (As := [.int (zI x)]) (rest := []) hS hK hA hW hl.1 [0] [1] (kX0_takeOut l D cI cB a ((drawB b x t)) x k hBd (by omega) hrk) (cwV 1 hts gX0_drawByText_X0_takeOut rfl rfl rfl (by decide +kernel) ⟨Nat.le_of_ble_eq_true rfl, Nat.le_of_ble_eq_true rfl⟩) (rfl : vwCl[0]? = some (RX0, TX0, 9)) (q0 := 0) rfl dX0_drawByText_20 rfl rfl rfl rfl rfl (Nat.le_of_ble_eq_true rfl) ⟨Nat.le_of_ble_eq_true rfl, Nat.le_of_ble_eq_true rfl⟩ (fun v9 w9 H locs hq hW => ?_)
    obtain ⟨rfl, rfl, hh_20⟩ := hq
    have hW : zW D A s.heap [zBoard cI a (takeOutB ((drawB b x t)) k), zText cI a2 t] H locs := hW
    refine W.eq (g2 := F0 m 23 ls []) rfl ?_
    refine lv_aload_n hx hb dX0_drawByText_23 rfl (lv_at hl 0 rfl) ?_
    refine lv_iload_n hx hb dX0_drawByText_24 rfl (lv_at hl 1 rfl) ?_
    refine lv_aload_n hx hb dX0_drawByText_25 rfl (lv_at hl 2 rfl) ?_
    refine va_getN (D := D) (ci := 3) (v := .int (zI (tx_scn t))) (C := RX3) (T := TX3) (N := 6) hx hb hts iX0_drawByText_X3 hown hK.1 hW.1 8 rfl rfl 2 (by decide) (va_Nw.use rfl (hK.2 _ nm_4)) (fun _ h9 => h9) rfl dX0_drawByText_26 ?_
    refine lv_aload_n hx hb dX0_drawByText_29 rfl (lv_at hl 0 rfl) ?_
    refine lv_aload_n hx hb dX0_drawByText_30 rfl (lv_at hl 2 rfl) ?_
    refine va_getN (D := D) (ci := 3) (v := .int (zI (tx_scn t))) (C := RX3) (T := TX3) (N := 6) hx hb hts iX0_drawByText_X3 hown hK.1 hW.1 8 rfl rfl 2 (by decide) (va_Nw.use rfl (hK.2 _ nm_4)) (fun _ h9 => h9) rfl dX0_drawByText_31 ?_
    refine z_callV (r := (RX0, TX0, 9)) (As := [.int (zI (tx_scn t))]) (rest := [.int (zI (tx_scn t)), .int (zI x), .ref (a 0)]) hS hK hA hW hl.1 [0] [1] (kX0_panelsIn l D cI cB a ((takeOutB ((drawB b x t)) k)) (tx_scn t) hBo (by omega)) (cwV 1 hts gX0_drawByText_X0_panelsIn rfl rfl rfl (by decide +kernel) ⟨Nat.le_of_ble_eq_true rfl, Nat.le_of_ble_eq_true rfl⟩) (rfl : vwCl[0]? = some (RX0, TX0, 9)) (q0 := 0) rfl dX0_drawByText_34 rfl rfl rfl rfl rfl (Nat.le_of_ble_eq_true rfl) ⟨Nat.le_of_ble_eq_true rfl, Nat.le_of_ble_eq_true rfl⟩ (fun v9 w9 H locs hq hW => ?_)
    obtain ⟨rr_34, rfl, rfl, hh_34⟩ := hq
    subst rr_34
    have hW : zW D A s.heap [zBoard cI a (takeOutB ((drawB b x t)) k), zText cI a2 t] H locs := hW
    refine W.eq (g2 := F0 m 37 ls [.int (zI (nIn ((takeOutB ((drawB b x t)) k)) (tx_scn t))), .int (zI (tx_scn t)), .int (zI x), .ref (a 0)]) rfl ?_
    refine z_callV (r := (RX0, TX0, 9)) (As := [.int (zI x), .int (zI (tx_scn t)), .int (zI (nIn ((takeOutB ((drawB b x t)) k)) (tx_scn t)))]) (rest := []) hS hK hA hW hl.1 [0] [1] (kX0_putIn l D cI cB a ((takeOutB ((drawB b x t)) k)) x (tx_scn t) (nIn ((takeOutB ((drawB b x t)) k)) (tx_scn t)) hBo (by omega) (by omega) (by (show bd_sz b - 1 < 10; omega)) (by (have hq1 := nIn_le hBo (tx_scn t); have hq2 := nAhead_le (BOK_scn hBo hx1 hsc) (tx_scn t); refine ⟨?_, hle⟩; exact Int.add_nonneg hq2.1 hq1.1))) (cwV 3 hts gX0_drawByText_X0_putIn rfl rfl rfl (by decide +kernel) ⟨Nat.le_of_ble_eq_true rfl, Nat.le_of_ble_eq_true rfl⟩) (rfl : vwCl[0]? = some (RX0, TX0, 9)) (q0 := 0) rfl dX0_drawByText_37 rfl rfl rfl rfl rfl (Nat.le_of_ble_eq_true rfl) ⟨Nat.le_of_ble_eq_true rfl, Nat.le_of_ble_eq_true rfl⟩ (fun v9 w9 H locs hq hW => ?_)
    obtain ⟨rfl, rfl, hh_37⟩ := hq
    have hW : zW D A s.heap [zBoard cI a (putInB ((takeOutB ((drawB b x t)) k)) x (tx_scn t) (nAhead (bd_scn_ ((takeOutB ((drawB b x t)) k)) (zU (bd_scn ((takeOutB ((drawB b x t)) k))) x (tx_scn t))) (tx_scn t) + (nIn ((takeOutB ((drawB b x t)) k)) (tx_scn t)))), zText cI a2 t] H locs := hW
    refine W.eq (g2 := F0 m 40 ls []) rfl ?_
    exact z_vret hx hb hr hlk hW dX0_drawByText_40 (by
        exact ⟨rfl, by (first | (rw [if_pos cc_15]; done) | (rw [if_neg cc_15]; done) | (rw [if_neg cc_15]; rfl)), by trivial⟩)

abbrev qX0_addPanel (cI : ClassId) (a : Nat → Nat) (b : zBS) (a2 : Nat → Nat) (t : zTS) (k : Int) : Option Value → List va_W → Prop := fun vq wq => ∃ (r : Int), vq = some (.int (zI r)) ∧ wq = [zBoard cI a (putInB (drawB (bd_sf_ (bd_num_ b (zU (bd_num b) k (bd_sf b))) (bd_sf b + 1)) k t) k (tx_scn t) (nAhead (bd_scn_ (drawB (bd_sf_ (bd_num_ b (zU (bd_num b) k (bd_sf b))) (bd_sf b + 1)) k t) (zU (bd_scn b) k (tx_scn t))) (tx_scn t) + nIn (drawB (bd_sf_ (bd_num_ b (zU (bd_num b) k (bd_sf b))) (bd_sf b + 1)) k t) (tx_scn t))), zText cI a2 t] ∧ (r = bd_sf b)
set_option maxRecDepth 20000 in
theorem iX0_addPanel_X0 : ∀ w ∈ u_ws RX0 TX0 9, w ∈ wsX0_addPanel := by decide +kernel
set_option maxRecDepth 20000 in
theorem mX0_addPanel_1 : (.fieldLink RX0 37 "StoryPanels$Board" "soFar" "I" : Cond) ∈ wsX0_addPanel := by decide +kernel
set_option maxRecDepth 20000 in
theorem mX0_addPanel_2 : (.fieldLink RX0 9 "StoryPanels$Board" "numbers" "[I" : Cond) ∈ wsX0_addPanel := by decide +kernel
set_option maxRecDepth 20000 in
theorem mX0_addPanel_3 : (.initialized RX4 : Cond) ∈ wsX0_addPanel := by decide +kernel
set_option maxRecDepth 20000 in
theorem mX0_addPanel_4 : (.static yX4_setCell : Cond) ∈ wsX0_addPanel := by decide +kernel
set_option maxRecDepth 20000 in
theorem iX0_addPanel_X3 : ∀ w ∈ u_ws RX3 TX3 6, w ∈ wsX0_addPanel := by decide +kernel
set_option maxHeartbeats 4000000 in
set_option maxRecDepth 100000 in
theorem kX0_addPanel (l : Launch) (D : va_G) (cI cB : ClassId) (a : Nat → Nat) (b : zBS) (a2 : Nat → Nat) (t : zTS) (k : Int) (hBk : BOK b) (hk1 : 0 ≤ k ∧ k < 10) (hfr : bd_num b k = -1 ∧ ∀ j, 0 ≤ j → j < k → bd_num b j ≠ -1) (hsc : 0 ≤ tx_scn t ∧ tx_scn t < 5) (hBd : BOK (drawB (bd_sf_ (bd_num_ b (zU (bd_num b) k (bd_sf b))) (bd_sf b + 1)) k t)) (hlt : bd_sz b < 10) (hle : nAhead (bd_scn_ (drawB (bd_sf_ (bd_num_ b (zU (bd_num b) k (bd_sf b))) (bd_sf b + 1)) k t) (zU (bd_scn b) k (tx_scn t))) (tx_scn t) + nIn (drawB (bd_sf_ (bd_num_ b (zU (bd_num b) k (bd_sf b))) (bd_sf b + 1)) k t) (tx_scn t) ≤ bd_sz b) : zMet l yX0_addPanel wsX0_addPanel 3 70 0 0 D cI cB [.ref (a 0), .ref (a2 0)] [zBoard cI a b, zText cI a2 t] (qX0_addPanel cI a b a2 t k) := by
  refine zMet.of (cd := cX0_addPanel) (maxL := 4) (ret := (some .int)) (by decide) rfl (Nat.le_of_ble_eq_true rfl) ?_
  intro p e s m args below meth c A ls hS hr hlk hnm hK hA hW hl
  have hS : CallFix p m c cX0_addPanel 4 s args wsX0_addPanel RX0 := hS
  have hx := hS.1
  have hb := hS.2.1
  have hown := hS.2.2.2.1
  have hts := hS.2.2.2.2
  have hl : lv_has ls 4 [(0, .ref (a 0)), (1, .ref (a2 0))] := hl
  obtain ⟨hzz, hsf, hlin, hnum, hscn, hdur, hcnt, hcod, hplc⟩ := id hBk
  have hB3 : BOK (bd_sf_ (bd_num_ b (zU (bd_num b) k (bd_sf b))) (bd_sf b + 1)) := ⟨hBk.1, hBd.2.1, hBk.2.2.1, hBd.2.2.2.1, hBk.2.2.2.2⟩
  refine lv_aload_n hx hb dX0_addPanel_0 rfl (lv_at hl 0 rfl) ?_
  refine z_callV (r := (RX0, TX0, 9)) (As := []) (rest := []) hS hK hA hW hl.1 [0] [1] (kX0_freeSlot l D cI cB a b hBk) (cwV 0 hts gX0_addPanel_X0_freeSlot rfl rfl rfl (by decide +kernel) ⟨Nat.le_of_ble_eq_true rfl, Nat.le_of_ble_eq_true rfl⟩) (rfl : vwCl[0]? = some (RX0, TX0, 9)) (q0 := 0) rfl dX0_addPanel_1 rfl rfl rfl rfl rfl (Nat.le_of_ble_eq_true rfl) ⟨Nat.le_of_ble_eq_true rfl, Nat.le_of_ble_eq_true rfl⟩ (fun v9 w9 H locs hq hW => ?_)
  obtain ⟨rr_1, rfl, rfl, hh_1⟩ := hq
  have hW : zW D A s.heap [zBoard cI a b, zText cI a2 t] H locs := hW
  refine W.eq (g2 := F0 m 4 ls [.int (zI rr_1)]) rfl ?_
  rw [show rr_1 = k by exact zfree_eq hh_1 hk1 hfr]
  refine lv_istore_n (lv' := [(2, .int (zI k)), (0, .ref (a 0)), (1, .ref (a2 0))]) hx hb dX0_addPanel_4 rfl hl (by decide) rfl (fun ls hl => ?_)
  refine lv_aload_n hx hb dX0_addPanel_5 rfl (lv_at hl 1 rfl) ?_
  refine va_get (D := D) (ci := 0) (v := .int (zI (bd_sf b))) (C := RX0) (T := TX0) (N := 9) hx hb hts iX0_addPanel_X0 hown hK.1 hW.1 0 rfl rfl 8 (by decide) (hts _ mX0_addPanel_1) (fun _ h9 => h9) rfl dX0_addPanel_6 ?_
  refine lv_istore_n (lv' := [(3, .int (zI (bd_sf b))), (2, .int (zI k)), (0, .ref (a 0)), (1, .ref (a2 0))]) hx hb dX0_addPanel_9 rfl hl (by decide) rfl (fun ls hl => ?_)
  refine lv_aload_n hx hb dX0_addPanel_10 rfl (lv_at hl 2 rfl) ?_
  refine va_get (D := D) (ci := 0) (v := .ref (a 1)) (C := RX0) (T := TX0) (N := 9) hx hb hts iX0_addPanel_X0 hown hK.1 hW.1 0 rfl rfl 0 (by decide) (hts _ mX0_addPanel_2) (fun _ h9 => h9) rfl dX0_addPanel_11 ?_
  refine lv_iload_n hx hb dX0_addPanel_14 rfl (lv_at hl 1 rfl) ?_
  refine lv_iload_n hx hb dX0_addPanel_15 rfl (lv_at hl 0 rfl) ?_
  refine z_setCell (n := 10) (g := bd_num b) (i := k) (v := bd_sf b) (rest := []) (bs1 := [zBoard cI a (bd_num_ b (zU (bd_num b) k (bd_sf b))), zText cI a2 t]) hS hK hA hW hl.1 1 rfl (gX0_addPanel_X4_setCell_n44) nm_10 (mX0_addPanel_3) (mX0_addPanel_4) ⟨Nat.le_of_ble_eq_true rfl, Nat.le_of_ble_eq_true rfl⟩ dX0_addPanel_16 (by omega) rfl (Nat.le_of_ble_eq_true rfl) ⟨Nat.le_of_ble_eq_true rfl, Nat.le_of_ble_eq_true rfl⟩ (fun H locs hW => ?_)
  refine lv_aload_n hx hb dX0_addPanel_19 rfl (lv_at hl 2 rfl) ?_
  refine lv_dup hx hb dX0_addPanel_20 rfl ?_
  refine va_get (D := D) (ci := 0) (v := .int (zI (bd_sf b))) (C := RX0) (T := TX0) (N := 9) hx hb hts iX0_addPanel_X0 hown hK.1 hW.1 0 rfl rfl 8 (by decide) (hts _ mX0_addPanel_1) (fun _ h9 => h9) rfl dX0_addPanel_21 ?_
  refine lv_iconst (v := zI (1)) hx hb dX0_addPanel_24 rfl ?_
  refine z_iadd hx hb dX0_addPanel_25 ?_
  refine va_put (D := D) (ci := 0) (v := .int (zI ((bd_sf b) + 1))) (ty := .int) (C := RX0) (T := TX0) (N := 9) hx hb hts iX0_addPanel_X0 tyX0 tyX0_ok nmX0 hown hK.1 hW.1 hW.2.1 hW.2.2 0 rfl rfl 8 (by decide) (hts _ mX0_addPanel_1) (fun _ h9 => h9) rfl (by decide +kernel) rfl rfl (Nat.le_of_ble_eq_true rfl) dX0_addPanel_26 (fun H locs h1 h2 h3 => ?_)
  have hW : zW D A s.heap [zBoard cI a (bd_sf_ (bd_num_ b (zU (bd_num b) k (bd_sf b))) ((bd_sf b) + 1)), zText cI a2 t] H locs := ⟨h1, h2, h3⟩
  refine lv_aload_n hx hb dX0_addPanel_29 rfl (lv_at hl 2 rfl) ?_
  refine lv_iload_n hx hb dX0_addPanel_30 rfl (lv_at hl 1 rfl) ?_
  refine lv_aload_n hx hb dX0_addPanel_31 rfl (lv_at hl 3 rfl) ?_
  refine z_callV (r := (RX0, TX0, 9)) (As := [.int (zI k), .ref (a2 0)]) (rest := []) hS hK hA hW hl.1 [0, 1] [] (kX0_drawEvents l D cI cB a ((bd_sf_ (bd_num_ b (zU (bd_num b) k (bd_sf b))) ((bd_sf b) + 1))) a2 t k hB3 (by omega)) (cwV 2 hts gX0_addPanel_X0_drawEvents rfl rfl rfl (by decide +kernel) ⟨Nat.le_of_ble_eq_true rfl, Nat.le_of_ble_eq_true rfl⟩) (rfl : vwCl[0]? = some (RX0, TX0, 9)) (q0 := 0) rfl dX0_addPanel_32 rfl rfl rfl rfl rfl (Nat.le_of_ble_eq_true rfl) ⟨Nat.le_of_ble_eq_true rfl, Nat.le_of_ble_eq_true rfl⟩ (fun v9 w9 H locs hq hW => ?_)
  obtain ⟨rfl, rfl, hh_32⟩ := hq
  have hW : zW D A s.heap [zBoard cI a (drawB ((bd_sf_ (bd_num_ b (zU (bd_num b) k (bd_sf b))) ((bd_sf b) + 1))) k t), zText cI a2 t] H locs := hW
  refine W.eq (g2 := F0 m 35 ls []) rfl ?_
  refine lv_aload_n hx hb dX0_addPanel_35 rfl (lv_at hl 2 rfl) ?_
  refine lv_iload_n hx hb dX0_addPanel_36 rfl (lv_at hl 1 rfl) ?_
  refine lv_aload_n hx hb dX0_addPanel_37 rfl (lv_at hl 3 rfl) ?_
  refine va_getN (D := D) (ci := 3) (v := .int (zI (tx_scn t))) (C := RX3) (T := TX3) (N := 6) hx hb hts iX0_addPanel_X3 hown hK.1 hW.1 8 rfl rfl 2 (by decide) (va_Nw.use rfl (hK.2 _ nm_4)) (fun _ h9 => h9) rfl dX0_addPanel_38 ?_
  refine lv_aload_n hx hb dX0_addPanel_41 rfl (lv_at hl 2 rfl) ?_
  refine lv_aload_n hx hb dX0_addPanel_42 rfl (lv_at hl 3 rfl) ?_
  refine va_getN (D := D) (ci := 3) (v := .int (zI (tx_scn t))) (C := RX3) (T := TX3) (N := 6) hx hb hts iX0_addPanel_X3 hown hK.1 hW.1 8 rfl rfl 2 (by decide) (va_Nw.use rfl (hK.2 _ nm_4)) (fun _ h9 => h9) rfl dX0_addPanel_43 ?_
  refine z_callV (r := (RX0, TX0, 9)) (As := [.int (zI (tx_scn t))]) (rest := [.int (zI (tx_scn t)), .int (zI k), .ref (a 0)]) hS hK hA hW hl.1 [0] [1] (kX0_panelsIn l D cI cB a ((drawB ((bd_sf_ (bd_num_ b (zU (bd_num b) k (bd_sf b))) ((bd_sf b) + 1))) k t)) (tx_scn t) hBd (by omega)) (cwV 1 hts gX0_addPanel_X0_panelsIn rfl rfl rfl (by decide +kernel) ⟨Nat.le_of_ble_eq_true rfl, Nat.le_of_ble_eq_true rfl⟩) (rfl : vwCl[0]? = some (RX0, TX0, 9)) (q0 := 0) rfl dX0_addPanel_46 rfl rfl rfl rfl rfl (Nat.le_of_ble_eq_true rfl) ⟨Nat.le_of_ble_eq_true rfl, Nat.le_of_ble_eq_true rfl⟩ (fun v9 w9 H locs hq hW => ?_)
  obtain ⟨rr_46, rfl, rfl, hh_46⟩ := hq
  subst rr_46
  have hW : zW D A s.heap [zBoard cI a (drawB ((bd_sf_ (bd_num_ b (zU (bd_num b) k (bd_sf b))) ((bd_sf b) + 1))) k t), zText cI a2 t] H locs := hW
  refine W.eq (g2 := F0 m 49 ls [.int (zI (nIn ((drawB ((bd_sf_ (bd_num_ b (zU (bd_num b) k (bd_sf b))) ((bd_sf b) + 1))) k t)) (tx_scn t))), .int (zI (tx_scn t)), .int (zI k), .ref (a 0)]) rfl ?_
  refine z_callV (r := (RX0, TX0, 9)) (As := [.int (zI k), .int (zI (tx_scn t)), .int (zI (nIn ((drawB ((bd_sf_ (bd_num_ b (zU (bd_num b) k (bd_sf b))) ((bd_sf b) + 1))) k t)) (tx_scn t)))]) (rest := []) hS hK hA hW hl.1 [0] [1] (kX0_putIn l D cI cB a ((drawB ((bd_sf_ (bd_num_ b (zU (bd_num b) k (bd_sf b))) ((bd_sf b) + 1))) k t)) k (tx_scn t) (nIn ((drawB ((bd_sf_ (bd_num_ b (zU (bd_num b) k (bd_sf b))) ((bd_sf b) + 1))) k t)) (tx_scn t)) hBd (by omega) (by omega) (by (show bd_sz b < 10; omega)) (by (have hq1 := nIn_le hBd (tx_scn t); have hq2 := nAhead_le (BOK_scn hBd hk1 hsc) (tx_scn t); refine ⟨?_, hle⟩; exact Int.add_nonneg hq2.1 hq1.1))) (cwV 3 hts gX0_addPanel_X0_putIn rfl rfl rfl (by decide +kernel) ⟨Nat.le_of_ble_eq_true rfl, Nat.le_of_ble_eq_true rfl⟩) (rfl : vwCl[0]? = some (RX0, TX0, 9)) (q0 := 0) rfl dX0_addPanel_49 rfl rfl rfl rfl rfl (Nat.le_of_ble_eq_true rfl) ⟨Nat.le_of_ble_eq_true rfl, Nat.le_of_ble_eq_true rfl⟩ (fun v9 w9 H locs hq hW => ?_)
  obtain ⟨rfl, rfl, hh_49⟩ := hq
  have hW : zW D A s.heap [zBoard cI a (putInB ((drawB ((bd_sf_ (bd_num_ b (zU (bd_num b) k (bd_sf b))) ((bd_sf b) + 1))) k t)) k (tx_scn t) (nAhead (bd_scn_ ((drawB ((bd_sf_ (bd_num_ b (zU (bd_num b) k (bd_sf b))) ((bd_sf b) + 1))) k t)) (zU (bd_scn ((drawB ((bd_sf_ (bd_num_ b (zU (bd_num b) k (bd_sf b))) ((bd_sf b) + 1))) k t))) k (tx_scn t))) (tx_scn t) + (nIn ((drawB ((bd_sf_ (bd_num_ b (zU (bd_num b) k (bd_sf b))) ((bd_sf b) + 1))) k t)) (tx_scn t)))), zText cI a2 t] H locs := hW
  refine W.eq (g2 := F0 m 52 ls []) rfl ?_
  refine lv_iload_n hx hb dX0_addPanel_52 rfl (lv_at hl 0 rfl) ?_
  exact z_iret (v := bd_sf b) hx hb hr hlk hW dX0_addPanel_53 (by
      exact ⟨bd_sf b, rfl, rfl, by rfl⟩)

abbrev qX0_scenePlaceAt (cI : ClassId) (a : Nat → Nat) (b : zBS) (x : Int) : Option Value → List va_W → Prop := fun vq wq => ∃ (r : Int), vq = some (.int (zI r)) ∧ wq = [zBoard cI a (b)] ∧ (r = bd_plc b (bd_scn b (bd_lin b x)))
set_option maxRecDepth 20000 in
theorem iX0_scenePlaceAt_X0 : ∀ w ∈ u_ws RX0 TX0 9, w ∈ wsX0_scenePlaceAt := by decide +kernel
set_option maxRecDepth 20000 in
theorem mX0_scenePlaceAt_1 : (.fieldLink RX0 30 "StoryPanels$Board" "scenePlaces" "[I" : Cond) ∈ wsX0_scenePlaceAt := by decide +kernel
set_option maxRecDepth 20000 in
theorem mX0_scenePlaceAt_2 : (.fieldLink RX0 15 "StoryPanels$Board" "scenes" "[I" : Cond) ∈ wsX0_scenePlaceAt := by decide +kernel
set_option maxRecDepth 20000 in
theorem mX0_scenePlaceAt_3 : (.fieldLink RX0 27 "StoryPanels$Board" "line" "[I" : Cond) ∈ wsX0_scenePlaceAt := by decide +kernel
set_option maxRecDepth 20000 in
theorem mX0_scenePlaceAt_4 : (.initialized RX4 : Cond) ∈ wsX0_scenePlaceAt := by decide +kernel
set_option maxRecDepth 20000 in
theorem mX0_scenePlaceAt_5 : (.static yX4_cell : Cond) ∈ wsX0_scenePlaceAt := by decide +kernel
set_option maxHeartbeats 4000000 in
set_option maxRecDepth 100000 in
theorem kX0_scenePlaceAt (l : Launch) (D : va_G) (cI cB : ClassId) (a : Nat → Nat) (b : zBS) (x : Int) (hBk : BOK b) (hx1 : 0 ≤ x ∧ x < bd_sz b) : zMet l yX0_scenePlaceAt wsX0_scenePlaceAt 1 21 0 0 D cI cB [.ref (a 0), .int (zI x)] [zBoard cI a b] (qX0_scenePlaceAt cI a b x) := by
  refine zMet.of (cd := cX0_scenePlaceAt) (maxL := 2) (ret := (some .int)) (by decide) rfl (Nat.le_of_ble_eq_true rfl) ?_
  intro p e s m args below meth c A ls hS hr hlk hnm hK hA hW hl
  have hS : CallFix p m c cX0_scenePlaceAt 2 s args wsX0_scenePlaceAt RX0 := hS
  have hx := hS.1
  have hb := hS.2.1
  have hown := hS.2.2.2.1
  have hts := hS.2.2.2.2
  have hl : lv_has ls 2 [(0, .ref (a 0)), (1, .int (zI x))] := hl
  obtain ⟨hzz, hsf, hlin, hnum, hscn, hdur, hcnt, hcod, hplc⟩ := id hBk
  have qq_1 := hlin x (by omega) (by omega)
  have qq_2 := hscn (bd_lin b x) (by omega) (by omega)
  refine lv_aload_n hx hb dX0_scenePlaceAt_0 rfl (lv_at hl 0 rfl) ?_
  refine va_get (D := D) (ci := 0) (v := .ref (a 7)) (C := RX0) (T := TX0) (N := 9) hx hb hts iX0_scenePlaceAt_X0 hown hK.1 hW.1 0 rfl rfl 6 (by decide) (hts _ mX0_scenePlaceAt_1) (fun _ h9 => h9) rfl dX0_scenePlaceAt_1 ?_
  refine lv_aload_n hx hb dX0_scenePlaceAt_4 rfl (lv_at hl 0 rfl) ?_
  refine va_get (D := D) (ci := 0) (v := .ref (a 2)) (C := RX0) (T := TX0) (N := 9) hx hb hts iX0_scenePlaceAt_X0 hown hK.1 hW.1 0 rfl rfl 1 (by decide) (hts _ mX0_scenePlaceAt_2) (fun _ h9 => h9) rfl dX0_scenePlaceAt_5 ?_
  refine lv_aload_n hx hb dX0_scenePlaceAt_8 rfl (lv_at hl 0 rfl) ?_
  refine va_get (D := D) (ci := 0) (v := .ref (a 6)) (C := RX0) (T := TX0) (N := 9) hx hb hts iX0_scenePlaceAt_X0 hown hK.1 hW.1 0 rfl rfl 5 (by decide) (hts _ mX0_scenePlaceAt_3) (fun _ h9 => h9) rfl dX0_scenePlaceAt_9 ?_
  refine lv_iload_n hx hb dX0_scenePlaceAt_12 rfl (lv_at hl 1 rfl) ?_
  refine z_cell (n := 10) (g := bd_lin b) (i := x) (rest := [.ref (a 2), .ref (a 7)]) hS hK hA hW hl.1 6 rfl (gX0_scenePlaceAt_X4_cell_n52) nm_19 (mX0_scenePlaceAt_4) (mX0_scenePlaceAt_5) ⟨Nat.le_of_ble_eq_true rfl, Nat.le_of_ble_eq_true rfl⟩ dX0_scenePlaceAt_13 (by omega) (Nat.le_of_ble_eq_true rfl) ⟨Nat.le_of_ble_eq_true rfl, Nat.le_of_ble_eq_true rfl⟩ (fun H locs hW => ?_)
  refine z_cell (n := 10) (g := bd_scn b) (i := (bd_lin b) x) (rest := [.ref (a 7)]) hS hK hA hW hl.1 2 rfl (gX0_scenePlaceAt_X4_cell_n52) nm_19 (mX0_scenePlaceAt_4) (mX0_scenePlaceAt_5) ⟨Nat.le_of_ble_eq_true rfl, Nat.le_of_ble_eq_true rfl⟩ dX0_scenePlaceAt_16 (by omega) (Nat.le_of_ble_eq_true rfl) ⟨Nat.le_of_ble_eq_true rfl, Nat.le_of_ble_eq_true rfl⟩ (fun H locs hW => ?_)
  refine z_cell (n := 5) (g := bd_plc b) (i := (bd_scn b) ((bd_lin b) x)) (rest := []) hS hK hA hW hl.1 7 rfl (gX0_scenePlaceAt_X4_cell_n52) nm_19 (mX0_scenePlaceAt_4) (mX0_scenePlaceAt_5) ⟨Nat.le_of_ble_eq_true rfl, Nat.le_of_ble_eq_true rfl⟩ dX0_scenePlaceAt_19 (by omega) (Nat.le_of_ble_eq_true rfl) ⟨Nat.le_of_ble_eq_true rfl, Nat.le_of_ble_eq_true rfl⟩ (fun H locs hW => ?_)
  exact z_iret (v := (bd_plc b) ((bd_scn b) ((bd_lin b) x))) hx hb hr hlk hW dX0_scenePlaceAt_22 (by
      exact ⟨(bd_plc b) ((bd_scn b) ((bd_lin b) x)), rfl, rfl, by rfl⟩)

abbrev qX0_swapWithPrevious (cI : ClassId) (a : Nat → Nat) (b : zBS) (x : Int) : Option Value → List va_W → Prop := fun vq wq => vq = none ∧ wq = [zBoard cI a (bd_lin_ b (zU (zU (bd_lin b) x (bd_lin b (x - 1))) (x - 1) (bd_lin b x)))] ∧ (True)
set_option maxRecDepth 20000 in
theorem iX0_swapWithPrevious_X0 : ∀ w ∈ u_ws RX0 TX0 9, w ∈ wsX0_swapWithPrevious := by decide +kernel
set_option maxRecDepth 20000 in
theorem mX0_swapWithPrevious_1 : (.fieldLink RX0 27 "StoryPanels$Board" "line" "[I" : Cond) ∈ wsX0_swapWithPrevious := by decide +kernel
set_option maxRecDepth 20000 in
theorem mX0_swapWithPrevious_2 : (.initialized RX4 : Cond) ∈ wsX0_swapWithPrevious := by decide +kernel
set_option maxRecDepth 20000 in
theorem mX0_swapWithPrevious_3 : (.static yX4_cell : Cond) ∈ wsX0_swapWithPrevious := by decide +kernel
set_option maxRecDepth 20000 in
theorem mX0_swapWithPrevious_4 : (.static yX4_setCell : Cond) ∈ wsX0_swapWithPrevious := by decide +kernel
set_option maxHeartbeats 4000000 in
set_option maxRecDepth 100000 in
theorem kX0_swapWithPrevious (l : Launch) (D : va_G) (cI cB : ClassId) (a : Nat → Nat) (b : zBS) (x : Int) (hBk : BOK b) (hx1 : 1 ≤ x ∧ x < bd_sz b) : zMet l yX0_swapWithPrevious wsX0_swapWithPrevious 1 22 0 0 D cI cB [.ref (a 0), .int (zI x)] [zBoard cI a b] (qX0_swapWithPrevious cI a b x) := by
  refine zMet.of (cd := cX0_swapWithPrevious) (maxL := 3) (ret := none) (by decide) rfl (Nat.le_of_ble_eq_true rfl) ?_
  intro p e s m args below meth c A ls hS hr hlk hnm hK hA hW hl
  have hS : CallFix p m c cX0_swapWithPrevious 3 s args wsX0_swapWithPrevious RX0 := hS
  have hx := hS.1
  have hb := hS.2.1
  have hown := hS.2.2.2.1
  have hts := hS.2.2.2.2
  have hl : lv_has ls 3 [(0, .ref (a 0)), (1, .int (zI x))] := hl
  obtain ⟨hzz, hsf, hlin, hnum, hscn, hdur, hcnt, hcod, hplc⟩ := id hBk
  refine lv_aload_n hx hb dX0_swapWithPrevious_0 rfl (lv_at hl 0 rfl) ?_
  refine va_get (D := D) (ci := 0) (v := .ref (a 6)) (C := RX0) (T := TX0) (N := 9) hx hb hts iX0_swapWithPrevious_X0 hown hK.1 hW.1 0 rfl rfl 5 (by decide) (hts _ mX0_swapWithPrevious_1) (fun _ h9 => h9) rfl dX0_swapWithPrevious_1 ?_
  refine lv_iload_n hx hb dX0_swapWithPrevious_4 rfl (lv_at hl 1 rfl) ?_
  refine z_cell (n := 10) (g := bd_lin b) (i := x) (rest := []) hS hK hA hW hl.1 6 rfl (gX0_swapWithPrevious_X4_cell_n52) nm_19 (mX0_swapWithPrevious_2) (mX0_swapWithPrevious_3) ⟨Nat.le_of_ble_eq_true rfl, Nat.le_of_ble_eq_true rfl⟩ dX0_swapWithPrevious_5 (by omega) (Nat.le_of_ble_eq_true rfl) ⟨Nat.le_of_ble_eq_true rfl, Nat.le_of_ble_eq_true rfl⟩ (fun H locs hW => ?_)
  refine lv_istore_n (lv' := [(2, .int (zI ((bd_lin b) x))), (0, .ref (a 0)), (1, .int (zI x))]) hx hb dX0_swapWithPrevious_8 rfl hl (by decide) rfl (fun ls hl => ?_)
  refine lv_aload_n hx hb dX0_swapWithPrevious_9 rfl (lv_at hl 1 rfl) ?_
  refine va_get (D := D) (ci := 0) (v := .ref (a 6)) (C := RX0) (T := TX0) (N := 9) hx hb hts iX0_swapWithPrevious_X0 hown hK.1 hW.1 0 rfl rfl 5 (by decide) (hts _ mX0_swapWithPrevious_1) (fun _ h9 => h9) rfl dX0_swapWithPrevious_10 ?_
  refine lv_iload_n hx hb dX0_swapWithPrevious_13 rfl (lv_at hl 2 rfl) ?_
  refine lv_aload_n hx hb dX0_swapWithPrevious_14 rfl (lv_at hl 1 rfl) ?_
  refine va_get (D := D) (ci := 0) (v := .ref (a 6)) (C := RX0) (T := TX0) (N := 9) hx hb hts iX0_swapWithPrevious_X0 hown hK.1 hW.1 0 rfl rfl 5 (by decide) (hts _ mX0_swapWithPrevious_1) (fun _ h9 => h9) rfl dX0_swapWithPrevious_15 ?_
  refine lv_iload_n hx hb dX0_swapWithPrevious_18 rfl (lv_at hl 2 rfl) ?_
  refine lv_iconst (v := zI (1)) hx hb dX0_swapWithPrevious_19 rfl ?_
  refine z_isub hx hb dX0_swapWithPrevious_20 ?_
  refine z_cell (n := 10) (g := bd_lin b) (i := x - 1) (rest := [.int (zI x), .ref (a 6)]) hS hK hA hW hl.1 6 rfl (gX0_swapWithPrevious_X4_cell_n52) nm_19 (mX0_swapWithPrevious_2) (mX0_swapWithPrevious_3) ⟨Nat.le_of_ble_eq_true rfl, Nat.le_of_ble_eq_true rfl⟩ dX0_swapWithPrevious_21 (by omega) (Nat.le_of_ble_eq_true rfl) ⟨Nat.le_of_ble_eq_true rfl, Nat.le_of_ble_eq_true rfl⟩ (fun H locs hW => ?_)
  refine z_setCell (n := 10) (g := bd_lin b) (i := x) (v := (bd_lin b) (x - 1)) (rest := []) (bs1 := [zBoard cI a (bd_lin_ b (zU (bd_lin b) x ((bd_lin b) (x - 1))))]) hS hK hA hW hl.1 6 rfl (gX0_swapWithPrevious_X4_setCell_n44) nm_10 (mX0_swapWithPrevious_2) (mX0_swapWithPrevious_4) ⟨Nat.le_of_ble_eq_true rfl, Nat.le_of_ble_eq_true rfl⟩ dX0_swapWithPrevious_24 (by omega) rfl (Nat.le_of_ble_eq_true rfl) ⟨Nat.le_of_ble_eq_true rfl, Nat.le_of_ble_eq_true rfl⟩ (fun H locs hW => ?_)
  refine lv_aload_n hx hb dX0_swapWithPrevious_27 rfl (lv_at hl 1 rfl) ?_
  refine va_get (D := D) (ci := 0) (v := .ref (a 6)) (C := RX0) (T := TX0) (N := 9) hx hb hts iX0_swapWithPrevious_X0 hown hK.1 hW.1 0 rfl rfl 5 (by decide) (hts _ mX0_swapWithPrevious_1) (fun _ h9 => h9) rfl dX0_swapWithPrevious_28 ?_
  refine lv_iload_n hx hb dX0_swapWithPrevious_31 rfl (lv_at hl 2 rfl) ?_
  refine lv_iconst (v := zI (1)) hx hb dX0_swapWithPrevious_32 rfl ?_
  refine z_isub hx hb dX0_swapWithPrevious_33 ?_
  refine lv_iload_n hx hb dX0_swapWithPrevious_34 rfl (lv_at hl 0 rfl) ?_
  refine z_setCell (n := 10) (g := zU (bd_lin b) x ((bd_lin b) (x - 1))) (i := x - 1) (v := (bd_lin b) x) (rest := []) (bs1 := [zBoard cI a (bd_lin_ b (zU (zU (bd_lin b) x ((bd_lin b) (x - 1))) (x - 1) ((bd_lin b) x)))]) hS hK hA hW hl.1 6 rfl (gX0_swapWithPrevious_X4_setCell_n44) nm_10 (mX0_swapWithPrevious_2) (mX0_swapWithPrevious_4) ⟨Nat.le_of_ble_eq_true rfl, Nat.le_of_ble_eq_true rfl⟩ dX0_swapWithPrevious_35 (by omega) rfl (Nat.le_of_ble_eq_true rfl) ⟨Nat.le_of_ble_eq_true rfl, Nat.le_of_ble_eq_true rfl⟩ (fun H locs hW => ?_)
  exact z_vret hx hb hr hlk hW dX0_swapWithPrevious_38 (by
      exact ⟨rfl, rfl, by trivial⟩)
