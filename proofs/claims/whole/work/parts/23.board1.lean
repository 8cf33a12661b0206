abbrev qX0_numberOf (cI : ClassId) (a : Nat → Nat) (b : zBS) (x : Int) : Option Value → List va_W → Prop := fun vq wq => ∃ (r : Int), vq = some (.int (zI r)) ∧ wq = [zBoard cI a (b)] ∧ (r = bd_num b x)
set_option maxRecDepth 20000 in
theorem iX0_numberOf_X0 : ∀ w ∈ u_ws RX0 TX0 9, w ∈ wsX0_numberOf := by decide +kernel
set_option maxRecDepth 20000 in
theorem mX0_numberOf_1 : (.fieldLink RX0 9 "StoryPanels$Board" "numbers" "[I" : Cond) ∈ wsX0_numberOf := by decide +kernel
set_option maxRecDepth 20000 in
theorem mX0_numberOf_2 : (.initialized RX4 : Cond) ∈ wsX0_numberOf := by decide +kernel
set_option maxRecDepth 20000 in
theorem mX0_numberOf_3 : (.static yX4_cell : Cond) ∈ wsX0_numberOf := by decide +kernel
set_option maxHeartbeats 4000000 in
set_option maxRecDepth 100000 in
theorem kX0_numberOf (l : Launch) (D : va_G) (cI cB : ClassId) (a : Nat → Nat) (b : zBS) (x : Int) (hBk : BOK b) (hx1 : 0 ≤ x ∧ x < 10) : zMet l yX0_numberOf wsX0_numberOf 1 21 0 0 D cI cB [.ref (a 0), .int (zI x)] [zBoard cI a b] (qX0_numberOf cI a b x) := by
  refine zMet.of (cd := cX0_numberOf) (maxL := 2) (ret := (some .int)) (by decide) rfl (Nat.le_of_ble_eq_true rfl) ?_
  intro p e s m args below meth c A ls hS hr hlk hnm hK hA hW hl
  have hS : CallFix p m c cX0_numberOf 2 s args wsX0_numberOf RX0 := hS
  have hx := hS.1
  have hb := hS.2.1
  have hown := hS.2.2.2.1
  have hts := hS.2.2.2.2
  have hl : lv_has ls 2 [(0, .ref (a 0)), (1, .int (zI x))] := hl
  obtain ⟨hzz, hsf, hlin, hnum, hscn, hdur, hcnt, hcod, hplc⟩ := id hBk
  refine lv_aload_n hx hb dX0_numberOf_0 rfl (lv_at hl 0 rfl) ?_
  refine va_get (D := D) (ci := 0) (v := .ref (a 1)) (C := RX0) (T := TX0) (N := 9) hx hb hts iX0_numberOf_X0 hown hK.1 hW.1 0 rfl rfl 0 (by decide) (hts _ mX0_numberOf_1) (fun _ h9 => h9) rfl dX0_numberOf_1 ?_
  refine lv_iload_n hx hb dX0_numberOf_4 rfl (lv_at hl 1 rfl) ?_
  refine z_cell (n := 10) (g := bd_num b) (i := x) (rest := []) hS hK hA hW hl.1 1 rfl (gX0_numberOf_X4_cell_n52) nm_19 (mX0_numberOf_2) (mX0_numberOf_3) ⟨Nat.le_of_ble_eq_true rfl, Nat.le_of_ble_eq_true rfl⟩ dX0_numberOf_5 (by omega) (Nat.le_of_ble_eq_true rfl) ⟨Nat.le_of_ble_eq_true rfl, Nat.le_of_ble_eq_true rfl⟩ (fun H locs hW => ?_)
  exact z_iret (v := (bd_num b) x) hx hb hr hlk hW dX0_numberOf_8 (by
      exact ⟨(bd_num b) x, rfl, rfl, by rfl⟩)

abbrev qX0_sceneOf (cI : ClassId) (a : Nat → Nat) (b : zBS) (x : Int) : Option Value → List va_W → Prop := fun vq wq => ∃ (r : Int), vq = some (.int (zI r)) ∧ wq = [zBoard cI a (b)] ∧ (r = bd_scn b x)
set_option maxRecDepth 20000 in
theorem iX0_sceneOf_X0 : ∀ w ∈ u_ws RX0 TX0 9, w ∈ wsX0_sceneOf := by decide +kernel
set_option maxRecDepth 20000 in
theorem mX0_sceneOf_1 : (.fieldLink RX0 15 "StoryPanels$Board" "scenes" "[I" : Cond) ∈ wsX0_sceneOf := by decide +kernel
set_option maxRecDepth 20000 in
theorem mX0_sceneOf_2 : (.initialized RX4 : Cond) ∈ wsX0_sceneOf := by decide +kernel
set_option maxRecDepth 20000 in
theorem mX0_sceneOf_3 : (.static yX4_cell : Cond) ∈ wsX0_sceneOf := by decide +kernel
set_option maxHeartbeats 4000000 in
set_option maxRecDepth 100000 in
theorem kX0_sceneOf (l : Launch) (D : va_G) (cI cB : ClassId) (a : Nat → Nat) (b : zBS) (x : Int) (hBk : BOK b) (hx1 : 0 ≤ x ∧ x < 10) : zMet l yX0_sceneOf wsX0_sceneOf 1 21 0 0 D cI cB [.ref (a 0), .int (zI x)] [zBoard cI a b] (qX0_sceneOf cI a b x) := by
  refine zMet.of (cd := cX0_sceneOf) (maxL := 2) (ret := (some .int)) (by decide) rfl (Nat.le_of_ble_eq_true rfl) ?_
  intro p e s m args below meth c A ls hS hr hlk hnm hK hA hW hl
  have hS : CallFix p m c cX0_sceneOf 2 s args wsX0_sceneOf RX0 := hS
  have hx := hS.1
  have hb := hS.2.1
  have hown := hS.2.2.2.1
  have hts := hS.2.2.2.2
  have hl : lv_has ls 2 [(0, .ref (a 0)), (1, .int (zI x))] := hl
  obtain ⟨hzz, hsf, hlin, hnum, hscn, hdur, hcnt, hcod, hplc⟩ := id hBk
  refine lv_aload_n hx hb dX0_sceneOf_0 rfl (lv_at hl 0 rfl) ?_
  refine va_get (D := D) (ci := 0) (v := .ref (a 2)) (C := RX0) (T := TX0) (N := 9) hx hb hts iX0_sceneOf_X0 hown hK.1 hW.1 0 rfl rfl 1 (by decide) (hts _ mX0_sceneOf_1) (fun _ h9 => h9) rfl dX0_sceneOf_1 ?_
  refine lv_iload_n hx hb dX0_sceneOf_4 rfl (lv_at hl 1 rfl) ?_
  refine z_cell (n := 10) (g := bd_scn b) (i := x) (rest := []) hS hK hA hW hl.1 2 rfl (gX0_sceneOf_X4_cell_n52) nm_19 (mX0_sceneOf_2) (mX0_sceneOf_3) ⟨Nat.le_of_ble_eq_true rfl, Nat.le_of_ble_eq_true rfl⟩ dX0_sceneOf_5 (by omega) (Nat.le_of_ble_eq_true rfl) ⟨Nat.le_of_ble_eq_true rfl, Nat.le_of_ble_eq_true rfl⟩ (fun H locs hW => ?_)
  exact z_iret (v := (bd_scn b) x) hx hb hr hlk hW dX0_sceneOf_8 (by
      exact ⟨(bd_scn b) x, rfl, rfl, by rfl⟩)

abbrev qX0_durationOf (cI : ClassId) (a : Nat → Nat) (b : zBS) (x : Int) : Option Value → List va_W → Prop := fun vq wq => ∃ (r : Int), vq = some (.int (zI r)) ∧ wq = [zBoard cI a (b)] ∧ (r = bd_dur b x)
set_option maxRecDepth 20000 in
theorem iX0_durationOf_X0 : ∀ w ∈ u_ws RX0 TX0 9, w ∈ wsX0_durationOf := by decide +kernel
set_option maxRecDepth 20000 in
theorem mX0_durationOf_1 : (.fieldLink RX0 18 "StoryPanels$Board" "durations" "[I" : Cond) ∈ wsX0_durationOf := by decide +kernel
set_option maxRecDepth 20000 in
theorem mX0_durationOf_2 : (.initialized RX4 : Cond) ∈ wsX0_durationOf := by decide +kernel
set_option maxRecDepth 20000 in
theorem mX0_durationOf_3 : (.static yX4_cell : Cond) ∈ wsX0_durationOf := by decide +kernel
set_option maxHeartbeats 4000000 in
set_option maxRecDepth 100000 in
theorem kX0_durationOf (l : Launch) (D : va_G) (cI cB : ClassId) (a : Nat → Nat) (b : zBS) (x : Int) (hBk : BOK b) (hx1 : 0 ≤ x ∧ x < 10) : zMet l yX0_durationOf wsX0_durationOf 1 21 0 0 D cI cB [.ref (a 0), .int (zI x)] [zBoard cI a b] (qX0_durationOf cI a b x) := by
  refine zMet.of (cd := cX0_durationOf) (maxL := 2) (ret := (some .int)) (by decide) rfl (Nat.le_of_ble_eq_true rfl) ?_
  intro p e s m args below meth c A ls hS hr hlk hnm hK hA hW hl
  have hS : CallFix p m c cX0_durationOf 2 s args wsX0_durationOf RX0 := hS
  have hx := hS.1
  have hb := hS.2.1
  have hown := hS.2.2.2.1
  have hts := hS.2.2.2.2
  have hl : lv_has ls 2 [(0, .ref (a 0)), (1, .int (zI x))] := hl
  obtain ⟨hzz, hsf, hlin, hnum, hscn, hdur, hcnt, hcod, hplc⟩ := id hBk
  refine lv_aload_n hx hb dX0_durationOf_0 rfl (lv_at hl 0 rfl) ?_
  refine va_get (D := D) (ci := 0) (v := .ref (a 3)) (C := RX0) (T := TX0) (N := 9) hx hb hts iX0_durationOf_X0 hown hK.1 hW.1 0 rfl rfl 2 (by decide) (hts _ mX0_durationOf_1) (fun _ h9 => h9) rfl dX0_durationOf_1 ?_
  refine lv_iload_n hx hb dX0_durationOf_4 rfl (lv_at hl 1 rfl) ?_
  refine z_cell (n := 10) (g := bd_dur b) (i := x) (rest := []) hS hK hA hW hl.1 3 rfl (gX0_durationOf_X4_cell_n52) nm_19 (mX0_durationOf_2) (mX0_durationOf_3) ⟨Nat.le_of_ble_eq_true rfl, Nat.le_of_ble_eq_true rfl⟩ dX0_durationOf_5 (by omega) (Nat.le_of_ble_eq_true rfl) ⟨Nat.le_of_ble_eq_true rfl, Nat.le_of_ble_eq_true rfl⟩ (fun H locs hW => ?_)
  exact z_iret (v := (bd_dur b) x) hx hb hr hlk hW dX0_durationOf_8 (by
      exact ⟨(bd_dur b) x, rfl, rfl, by rfl⟩)

abbrev qX0_eventsIn (cI : ClassId) (a : Nat → Nat) (b : zBS) (x : Int) : Option Value → List va_W → Prop := fun vq wq => ∃ (r : Int), vq = some (.int (zI r)) ∧ wq = [zBoard cI a (b)] ∧ (r = bd_cnt b x)
set_option maxRecDepth 20000 in
theorem iX0_eventsIn_X0 : ∀ w ∈ u_ws RX0 TX0 9, w ∈ wsX0_eventsIn := by decide +kernel
set_option maxRecDepth 20000 in
theorem mX0_eventsIn_1 : (.fieldLink RX0 21 "StoryPanels$Board" "eventCounts" "[I" : Cond) ∈ wsX0_eventsIn := by decide +kernel
set_option maxRecDepth 20000 in
theorem mX0_eventsIn_2 : (.initialized RX4 : Cond) ∈ wsX0_eventsIn := by decide +kernel
set_option maxRecDepth 20000 in
theorem mX0_eventsIn_3 : (.static yX4_cell : Cond) ∈ wsX0_eventsIn := by decide +kernel
set_option maxHeartbeats 4000000 in
set_option maxRecDepth 100000 in
theorem kX0_eventsIn (l : Launch) (D : va_G) (cI cB : ClassId) (a : Nat → Nat) (b : zBS) (x : Int) (hBk : BOK b) (hx1 : 0 ≤ x ∧ x < 10) : zMet l yX0_eventsIn wsX0_eventsIn 1 21 0 0 D cI cB [.ref (a 0), .int (zI x)] [zBoard cI a b] (qX0_eventsIn cI a b x) := by
  refine zMet.of (cd := cX0_eventsIn) (maxL := 2) (ret := (some .int)) (by decide) rfl (Nat.le_of_ble_eq_true rfl) ?_
  intro p e s m args below meth c A ls hS hr hlk hnm hK hA hW hl
  have hS : CallFix p m c cX0_eventsIn 2 s args wsX0_eventsIn RX0 := hS
  have hx := hS.1
  have hb := hS.2.1
  have hown := hS.2.2.2.1
  have hts := hS.2.2.2.2
  have hl : lv_has ls 2 [(0, .ref (a 0)), (1, .int (zI x))] := hl
  obtain ⟨hzz, hsf, hlin, hnum, hscn, hdur, hcnt, hcod, hplc⟩ := id hBk
  refine lv_aload_n hx hb dX0_eventsIn_0 rfl (lv_at hl 0 rfl) ?_
  refine va_get (D := D) (ci := 0) (v := .ref (a 4)) (C := RX0) (T := TX0) (N := 9) hx hb hts iX0_eventsIn_X0 hown hK.1 hW.1 0 rfl rfl 3 (by decide) (hts _ mX0_eventsIn_1) (fun _ h9 => h9) rfl dX0_eventsIn_1 ?_
  refine lv_iload_n hx hb dX0_eventsIn_4 rfl (lv_at hl 1 rfl) ?_
  refine z_cell (n := 10) (g := bd_cnt b) (i := x) (rest := []) hS hK hA hW hl.1 4 rfl (gX0_eventsIn_X4_cell_n52) nm_19 (mX0_eventsIn_2) (mX0_eventsIn_3) ⟨Nat.le_of_ble_eq_true rfl, Nat.le_of_ble_eq_true rfl⟩ dX0_eventsIn_5 (by omega) (Nat.le_of_ble_eq_true rfl) ⟨Nat.le_of_ble_eq_true rfl, Nat.le_of_ble_eq_true rfl⟩ (fun H locs hW => ?_)
  exact z_iret (v := (bd_cnt b) x) hx hb hr hlk hW dX0_eventsIn_8 (by
      exact ⟨(bd_cnt b) x, rfl, rfl, by rfl⟩)

abbrev qX0_placeOfScene (cI : ClassId) (a : Nat → Nat) (b : zBS) (x : Int) : Option Value → List va_W → Prop := fun vq wq => ∃ (r : Int), vq = some (.int (zI r)) ∧ wq = [zBoard cI a (b)] ∧ (r = bd_plc b x)
set_option maxRecDepth 20000 in
theorem iX0_placeOfScene_X0 : ∀ w ∈ u_ws RX0 TX0 9, w ∈ wsX0_placeOfScene := by decide +kernel
set_option maxRecDepth 20000 in
theorem mX0_placeOfScene_1 : (.fieldLink RX0 30 "StoryPanels$Board" "scenePlaces" "[I" : Cond) ∈ wsX0_placeOfScene := by decide +kernel
set_option maxRecDepth 20000 in
theorem mX0_placeOfScene_2 : (.initialized RX4 : Cond) ∈ wsX0_placeOfScene := by decide +kernel
set_option maxRecDepth 20000 in
theorem mX0_placeOfScene_3 : (.static yX4_cell : Cond) ∈ wsX0_placeOfScene := by decide +kernel
set_option maxHeartbeats 4000000 in
set_option maxRecDepth 100000 in
theorem kX0_placeOfScene (l : Launch) (D : va_G) (cI cB : ClassId) (a : Nat → Nat) (b : zBS) (x : Int) (hBk : BOK b) (hx1 : 0 ≤ x ∧ x < 5) : zMet l yX0_placeOfScene wsX0_placeOfScene 1 21 0 0 D cI cB [.ref (a 0), .int (zI x)] [zBoard cI a b] (qX0_placeOfScene cI a b x) := by
  refine zMet.of (cd := cX0_placeOfScene) (maxL := 2) (ret := (some .int)) (by decide) rfl (Nat.le_of_ble_eq_true rfl) ?_
  intro p e s m args below meth c A ls hS hr hlk hnm hK hA hW hl
  have hS : CallFix p m c cX0_placeOfScene 2 s args wsX0_placeOfScene RX0 := hS
  have hx := hS.1
  have hb := hS.2.1
  have hown := hS.2.2.2.1
  have hts := hS.2.2.2.2
  have hl : lv_has ls 2 [(0, .ref (a 0)), (1, .int (zI x))] := hl
  obtain ⟨hzz, hsf, hlin, hnum, hscn, hdur, hcnt, hcod, hplc⟩ := id hBk
  refine lv_aload_n hx hb dX0_placeOfScene_0 rfl (lv_at hl 0 rfl) ?_
  refine va_get (D := D) (ci := 0) (v := .ref (a 7)) (C := RX0) (T := TX0) (N := 9) hx hb hts iX0_placeOfScene_X0 hown hK.1 hW.1 0 rfl rfl 6 (by decide) (hts _ mX0_placeOfScene_1) (fun _ h9 => h9) rfl dX0_placeOfScene_1 ?_
  refine lv_iload_n hx hb dX0_placeOfScene_4 rfl (lv_at hl 1 rfl) ?_
  refine z_cell (n := 5) (g := bd_plc b) (i := x) (rest := []) hS hK hA hW hl.1 7 rfl (gX0_placeOfScene_X4_cell_n52) nm_19 (mX0_placeOfScene_2) (mX0_placeOfScene_3) ⟨Nat.le_of_ble_eq_true rfl, Nat.le_of_ble_eq_true rfl⟩ dX0_placeOfScene_5 (by omega) (Nat.le_of_ble_eq_true rfl) ⟨Nat.le_of_ble_eq_true rfl, Nat.le_of_ble_eq_true rfl⟩ (fun H locs hW => ?_)
  exact z_iret (v := (bd_plc b) x) hx hb hr hlk hW dX0_placeOfScene_8 (by
      exact ⟨(bd_plc b) x, rfl, rfl, by rfl⟩)

abbrev qX0_eventCode (cI : ClassId) (a : Nat → Nat) (b : zBS) (x y : Int) : Option Value → List va_W → Prop := fun vq wq => ∃ (r : Int), vq = some (.int (zI r)) ∧ wq = [zBoard cI a (b)] ∧ (r = bd_cod b (x * 6 + y))
set_option maxRecDepth 20000 in
theorem iX0_eventCode_X0 : ∀ w ∈ u_ws RX0 TX0 9, w ∈ wsX0_eventCode := by decide +kernel
set_option maxRecDepth 20000 in
theorem mX0_eventCode_1 : (.fieldLink RX0 24 "StoryPanels$Board" "eventCodes" "[I" : Cond) ∈ wsX0_eventCode := by decide +kernel
set_option maxRecDepth 20000 in
theorem mX0_eventCode_2 : (.initialized RX4 : Cond) ∈ wsX0_eventCode := by decide +kernel
set_option maxRecDepth 20000 in
theorem mX0_eventCode_3 : (.static yX4_cell : Cond) ∈ wsX0_eventCode := by decide +kernel
set_option maxHeartbeats 4000000 in
set_option maxRecDepth 100000 in
theorem kX0_eventCode (l : Launch) (D : va_G) (cI cB : ClassId) (a : Nat → Nat) (b : zBS) (x y : Int) (hBk : BOK b) (hx1 : 0 ≤ x ∧ x < 10) (hy1 : 0 ≤ y ∧ y < 6) : zMet l yX0_eventCode wsX0_eventCode 1 21 0 0 D cI cB [.ref (a 0), .int (zI x), .int (zI y)] [zBoard cI a b] (qX0_eventCode cI a b x y) := by
  refine zMet.of (cd := cX0_eventCode) (maxL := 3) (ret := (some .int)) (by decide) rfl (Nat.le_of_ble_eq_true rfl) ?_
  intro p e s m args below meth c A ls hS hr hlk hnm hK hA hW hl
  have hS : CallFix p m c cX0_eventCode 3 s args wsX0_eventCode RX0 := hS
  have hx := hS.1
  have hb := hS.2.1
  have hown := hS.2.2.2.1
  have hts := hS.2.2.2.2
  have hl : lv_has ls 3 [(0, .ref (a 0)), (1, .int (zI x)), (2, .int (zI y))] := hl
  obtain ⟨hzz, hsf, hlin, hnum, hscn, hdur, hcnt, hcod, hplc⟩ := id hBk
  refine lv_aload_n hx hb dX0_eventCode_0 rfl (lv_at hl 0 rfl) ?_
  refine va_get (D := D) (ci := 0) (v := .ref (a 5)) (C := RX0) (T := TX0) (N := 9) hx hb hts iX0_eventCode_X0 hown hK.1 hW.1 0 rfl rfl 4 (by decide) (hts _ mX0_eventCode_1) (fun _ h9 => h9) rfl dX0_eventCode_1 ?_
  refine lv_iload_n hx hb dX0_eventCode_4 rfl (lv_at hl 1 rfl) ?_
  refine lv_bipush (v := zI (6)) hx hb dX0_eventCode_5 (by decide +kernel) ?_
  refine z_imul hx hb dX0_eventCode_7 ?_
  refine lv_iload_n hx hb dX0_eventCode_8 rfl (lv_at hl 2 rfl) ?_
  refine z_iadd hx hb dX0_eventCode_9 ?_
  refine z_cell (n := 60) (g := bd_cod b) (i := (x * 6) + y) (rest := []) hS hK hA hW hl.1 5 rfl (gX0_eventCode_X4_cell_n52) nm_19 (mX0_eventCode_2) (mX0_eventCode_3) ⟨Nat.le_of_ble_eq_true rfl, Nat.le_of_ble_eq_true rfl⟩ dX0_eventCode_10 (by omega) (Nat.le_of_ble_eq_true rfl) ⟨Nat.le_of_ble_eq_true rfl, Nat.le_of_ble_eq_true rfl⟩ (fun H locs hW => ?_)
  exact z_iret (v := (bd_cod b) ((x * 6) + y)) hx hb hr hlk hW dX0_eventCode_13 (by
      exact ⟨(bd_cod b) ((x * 6) + y), rfl, rfl, by rfl⟩)

abbrev qX0_slotAt (cI : ClassId) (a : Nat → Nat) (b : zBS) (x : Int) : Option Value → List va_W → Prop := fun vq wq => ∃ (r : Int), vq = some (.int (zI r)) ∧ wq = [zBoard cI a (b)] ∧ (r = bd_lin b x)
set_option maxRecDepth 20000 in
theorem iX0_slotAt_X0 : ∀ w ∈ u_ws RX0 TX0 9, w ∈ wsX0_slotAt := by decide +kernel
set_option maxRecDepth 20000 in
theorem mX0_slotAt_1 : (.fieldLink RX0 33 "StoryPanels$Board" "size" "I" : Cond) ∈ wsX0_slotAt := by decide +kernel
set_option maxRecDepth 20000 in
theorem mX0_slotAt_2 : (.fieldLink RX0 27 "StoryPanels$Board" "line" "[I" : Cond) ∈ wsX0_slotAt := by decide +kernel
set_option maxRecDepth 20000 in
theorem mX0_slotAt_3 : (.initialized RX4 : Cond) ∈ wsX0_slotAt := by decide +kernel
set_option maxRecDepth 20000 in
theorem mX0_slotAt_4 : (.static yX4_cell : Cond) ∈ wsX0_slotAt := by decide +kernel
set_option maxHeartbeats 4000000 in
set_option maxRecDepth 100000 in
theorem kX0_slotAt (l : Launch) (D : va_G) (cI cB : ClassId) (a : Nat → Nat) (b : zBS) (x : Int) (hBk : BOK b) (hx1 : 0 ≤ x ∧ x < bd_sz b) : zMet l yX0_slotAt wsX0_slotAt 1 21 0 0 D cI cB [.ref (a 0), .int (zI x)] [zBoard cI a b] (qX0_slotAt cI a b x) := by
  refine zMet.of (cd := cX0_slotAt) (maxL := 2) (ret := (some .int)) (by decide) rfl (Nat.le_of_ble_eq_true rfl) ?_
  intro p e s m args below meth c A ls hS hr hlk hnm hK hA hW hl
  have hS : CallFix p m c cX0_slotAt 2 s args wsX0_slotAt RX0 := hS
  have hx := hS.1
  have hb := hS.2.1
  have hown := hS.2.2.2.1
  have hts := hS.2.2.2.2
  have hl : lv_has ls 2 [(0, .ref (a 0)), (1, .int (zI x))] := hl
  obtain ⟨hzz, hsf, hlin, hnum, hscn, hdur, hcnt, hcod, hplc⟩ := id hBk
  refine lv_iload_n hx hb dX0_slotAt_0 rfl (lv_at hl 1 rfl) ?_
  refine lv_aload_n hx hb dX0_slotAt_1 rfl (lv_at hl 0 rfl) ?_
  refine va_get (D := D) (ci := 0) (v := .int (zI (bd_sz b))) (C := RX0) (T := TX0) (N := 9) hx hb hts iX0_slotAt_X0 hown hK.1 hW.1 0 rfl rfl 7 (by decide) (hts _ mX0_slotAt_1) (fun _ h9 => h9) rfl dX0_slotAt_2 ?_
  refine z_icmp_ge (tgt := 19) hx hb dX0_slotAt_5 (by decide) (by omega) (fun cc_5 => ?_) (fun cc_5 => ?_)
  · refine lv_iconst (v := zI (-1)) hx hb dX0_slotAt_19 rfl ?_
    exact z_iret (v := (-1)) hx hb hr hlk hW dX0_slotAt_20 (by
        exact ⟨(-1), rfl, rfl, by first | rfl | omega⟩)
  · refine lv_aload_n hx hb dX0_slotAt_8 rfl (lv_at hl 0 rfl) ?_
    refine va_get (D := D) (ci := 0) (v := .ref (a 6)) (C := RX0) (T := TX0) (N := 9) hx hb hts iX0_slotAt_X0 hown hK.1 hW.1 0 rfl rfl 5 (by decide) (hts _ mX0_slotAt_2) (fun _ h9 => h9) rfl dX0_slotAt_9 ?_
    refine lv_iload_n hx hb dX0_slotAt_12 rfl (lv_at hl 1 rfl) ?_
    refine z_cell (n := 10) (g := bd_lin b) (i := x) (rest := []) hS hK hA hW hl.1 6 rfl (gX0_slotAt_X4_cell_n52) nm_19 (mX0_slotAt_3) (mX0_slotAt_4) ⟨Nat.le_of_ble_eq_true rfl, Nat.le_of_ble_eq_true rfl⟩ dX0_slotAt_13 (by omega) (Nat.le_of_ble_eq_true rfl) ⟨Nat.le_of_ble_eq_true rfl, Nat.le_of_ble_eq_true rfl⟩ (fun H locs hW => ?_)
    refine lv_goto (tgt := 20) hx hb dX0_slotAt_16 (by decide) ?_
    exact z_iret (v := (bd_lin b) x) hx hb hr hlk hW dX0_slotAt_20 (by
        exact ⟨(bd_lin b) x, rfl, rfl, by first | rfl | omega⟩)

abbrev qX0_hasRoom (cI : ClassId) (a : Nat → Nat) (b : zBS) : Option Value → List va_W → Prop := fun vq wq => ∃ (r : Int), vq = some (.int (zI r)) ∧ wq = [zBoard cI a (b)] ∧ ((r = 1 ∧ bd_sz b < 10 ∧ bd_sf b < 99) ∨ (r = 0 ∧ (10 ≤ bd_sz b ∨ 99 ≤ bd_sf b)))
set_option maxRecDepth 20000 in
theorem iX0_hasRoom_X0 : ∀ w ∈ u_ws RX0 TX0 9, w ∈ wsX0_hasRoom := by decide +kernel
set_option maxRecDepth 20000 in
theorem mX0_hasRoom_1 : (.fieldLink RX0 33 "StoryPanels$Board" "size" "I" : Cond) ∈ wsX0_hasRoom := by decide +kernel
set_option maxRecDepth 20000 in
theorem mX0_hasRoom_2 : (.fieldLink RX0 37 "StoryPanels$Board" "soFar" "I" : Cond) ∈ wsX0_hasRoom := by decide +kernel
set_option maxHeartbeats 4000000 in
set_option maxRecDepth 100000 in
theorem kX0_hasRoom (l : Launch) (D : va_G) (cI cB : ClassId) (a : Nat → Nat) (b : zBS) (hBk : BOK b) : zMet l yX0_hasRoom wsX0_hasRoom 0 0 0 0 D cI cB [.ref (a 0)] [zBoard cI a b] (qX0_hasRoom cI a b) := by
  refine zMet.of (cd := cX0_hasRoom) (maxL := 1) (ret := (some .boolean)) (by decide) rfl (Nat.le_of_ble_eq_true rfl) ?_
  intro p e s m args below meth c A ls hS hr hlk hnm hK hA hW hl
  have hS : CallFix p m c cX0_hasRoom 1 s args wsX0_hasRoom RX0 := hS
  have hx := hS.1
  have hb := hS.2.1
  have hown := hS.2.2.2.1
  have hts := hS.2.2.2.2
  have hl : lv_has ls 1 [(0, .ref (a 0))] := hl
  obtain ⟨hzz, hsf, hlin, hnum, hscn, hdur, hcnt, hcod, hplc⟩ := id hBk
  refine lv_aload_n hx hb dX0_hasRoom_0 rfl (lv_at hl 0 rfl) ?_
  refine va_get (D := D) (ci := 0) (v := .int (zI (bd_sz b))) (C := RX0) (T := TX0) (N := 9) hx hb hts iX0_hasRoom_X0 hown hK.1 hW.1 0 rfl rfl 7 (by decide) (hts _ mX0_hasRoom_1) (fun _ h9 => h9) rfl dX0_hasRoom_1 ?_
  refine lv_bipush (v := zI (10)) hx hb dX0_hasRoom_4 (by decide +kernel) ?_
  refine z_icmp_ge (tgt := 22) hx hb dX0_hasRoom_6 (by decide) (by omega) (fun cc_6 => ?_) (fun cc_6 => ?_)
  · refine lv_iconst (v := zI (0)) hx hb dX0_hasRoom_22 rfl ?_
    exact z_zret (v := 0) hx hb hr hlk hW dX0_hasRoom_23 (by omega) (by
        exact ⟨0, rfl, rfl, by omega⟩)
  · refine lv_aload_n hx hb dX0_hasRoom_9 rfl (lv_at hl 0 rfl) ?_
    refine va_get (D := D) (ci := 0) (v := .int (zI (bd_sf b))) (C := RX0) (T := TX0) (N := 9) hx hb hts iX0_hasRoom_X0 hown hK.1 hW.1 0 rfl rfl 8 (by decide) (hts _ mX0_hasRoom_2) (fun _ h9 => h9) rfl dX0_hasRoom_10 ?_
    refine lv_bipush (v := zI (99)) hx hb dX0_hasRoom_13 (by decide +kernel) ?_
    refine z_icmp_ge (tgt := 22) hx hb dX0_hasRoom_15 (by decide) (by omega) (fun cc_15 => ?_) (fun cc_15 => ?_)
    · refine lv_iconst (v := zI (0)) hx hb dX0_hasRoom_22 rfl ?_
      exact z_zret (v := 0) hx hb hr hlk hW dX0_hasRoom_23 (by omega) (by
          exact ⟨0, rfl, rfl, by omega⟩)
    · refine lv_iconst (v := zI (1)) hx hb dX0_hasRoom_18 rfl ?_
      refine lv_goto (tgt := 23) hx hb dX0_hasRoom_19 (by decide) ?_
      exact z_zret (v := 1) hx hb hr hlk hW dX0_hasRoom_23 (by omega) (by
          exact ⟨1, rfl, rfl, by omega⟩)

abbrev qX0_slotOf (cI : ClassId) (a : Nat → Nat) (b : zBS) (x : Int) : Option Value → List va_W → Prop := fun vq wq => ∃ (r : Int), vq = some (.int (zI r)) ∧ wq = [zBoard cI a (b)] ∧ ((r = -1 ∧ (x < 0 ∨ ∀ j, 0 ≤ j → j < 10 → bd_num b j ≠ x)) ∨ (0 ≤ r ∧ r < 10 ∧ 0 ≤ x ∧ bd_num b r = x))
set_option maxRecDepth 20000 in
theorem iX0_slotOf_X0 : ∀ w ∈ u_ws RX0 TX0 9, w ∈ wsX0_slotOf := by decide +kernel
set_option maxRecDepth 20000 in
theorem mX0_slotOf_1 : (.fieldLink RX0 9 "StoryPanels$Board" "numbers" "[I" : Cond) ∈ wsX0_slotOf := by decide +kernel
set_option maxRecDepth 20000 in
theorem mX0_slotOf_2 : (.initialized RX4 : Cond) ∈ wsX0_slotOf := by decide +kernel
set_option maxRecDepth 20000 in
theorem mX0_slotOf_3 : (.static yX4_cell : Cond) ∈ wsX0_slotOf := by decide +kernel
set_option maxHeartbeats 4000000 in
set_option maxRecDepth 100000 in
theorem kX0_slotOf (l : Launch) (D : va_G) (cI cB : ClassId) (a : Nat → Nat) (b : zBS) (x : Int) (hBk : BOK b) (hx1 : R32 x) : zMet l yX0_slotOf wsX0_slotOf 1 21 0 0 D cI cB [.ref (a 0), .int (zI x)] [zBoard cI a b] (qX0_slotOf cI a b x) := by
  refine zMet.of (cd := cX0_slotOf) (maxL := 3) (ret := (some .int)) (by decide) rfl (Nat.le_of_ble_eq_true rfl) ?_
  intro p e s m args below meth c A ls hS hr hlk hnm hK hA hW hl
  have hS : CallFix p m c cX0_slotOf 3 s args wsX0_slotOf RX0 := hS
  have hx := hS.1
  have hb := hS.2.1
  have hown := hS.2.2.2.1
  have hts := hS.2.2.2.2
  have hl : lv_has ls 3 [(0, .ref (a 0)), (1, .int (zI x))] := hl
  obtain ⟨hzz, hsf, hlin, hnum, hscn, hdur, hcnt, hcod, hplc⟩ := id hBk
  refine lv_iload_n hx hb dX0_slotOf_0 rfl (lv_at hl 1 rfl) ?_
  refine z_if_ge (tgt := 6) hx hb dX0_slotOf_1 (by decide) (by omega) (fun cc_1 => ?_) (fun cc_1 => ?_)
  · refine lv_iconst (v := zI (0)) hx hb dX0_slotOf_6 rfl ?_
    refine lv_istore_n (lv' := [(2, .int (zI 0)), (0, .ref (a 0)), (1, .int (zI x))]) hx hb dX0_slotOf_7 rfl hl (by decide) rfl (fun ls hl => ?_)
    have L8 : ∀ (fu : Nat) (ki : Int), (0 ≤ ki ∧ ki ≤ 10) → (∀ j, 0 ≤ j → j < ki → bd_num b j ≠ x) → (10 - ki) < (fu : Int) → ∀ (H : Heap) (locs : List Loc), zW D A s.heap [zBoard cI a b] H locs → ∀ (ls : Array Slot), lv_has ls 3 [(0, .ref (a 0)), (1, .int (zI x)), (2, .int (zI ki))] → W p l e { frames := 1, cells := 0, slots := 0, locals := 21 } s m args below meth c H locs 0 0 (MQ below (zQ A D (qX0_slotOf cI a b x)) args s 0 0 A) (F0 m 8 ls []) := by
      intro fu
      induction fu with
      | zero => intro ki hki hnn hm; exact absurd hm (by omega)
      | succ fu ih8 =>
        intro ki hki hnn hm H locs hW ls hl
        refine lv_iload_n hx hb dX0_slotOf_8 rfl (lv_at hl 2 rfl) ?_
        refine lv_bipush (v := zI (10)) hx hb dX0_slotOf_9 (by decide +kernel) ?_
        refine z_icmp_ge (tgt := 34) hx hb dX0_slotOf_11 (by decide) (by omega) (fun cc_11 => ?_) (fun cc_11 => ?_)
        · refine lv_iconst (v := zI (-1)) hx hb dX0_slotOf_34 rfl ?_
          exact z_iret (v := (-1)) hx hb hr hlk hW dX0_slotOf_35 (by
              exact ⟨(-1), rfl, rfl, by exact Or.inl ⟨rfl, Or.inr (fun j hh_1 hh_2 => hnn j hh_1 (by omega))⟩⟩)
        · refine lv_aload_n hx hb dX0_slotOf_14 rfl (lv_at hl 0 rfl) ?_
          refine va_get (D := D) (ci := 0) (v := .ref (a 1)) (C := RX0) (T := TX0) (N := 9) hx hb hts iX0_slotOf_X0 hown hK.1 hW.1 0 rfl rfl 0 (by decide) (hts _ mX0_slotOf_1) (fun _ h9 => h9) rfl dX0_slotOf_15 ?_
          refine lv_iload_n hx hb dX0_slotOf_18 rfl (lv_at hl 2 rfl) ?_
          refine z_cell (n := 10) (g := bd_num b) (i := ki) (rest := []) hS hK hA hW hl.1 1 rfl (gX0_slotOf_X4_cell_n52) nm_19 (mX0_slotOf_2) (mX0_slotOf_3) ⟨Nat.le_of_ble_eq_true rfl, Nat.le_of_ble_eq_true rfl⟩ dX0_slotOf_19 (by omega) (Nat.le_of_ble_eq_true rfl) ⟨Nat.le_of_ble_eq_true rfl, Nat.le_of_ble_eq_true rfl⟩ (fun H locs hW => ?_)
          have qq_19 := hnum ki (by omega) (by omega)
          refine lv_iload_n hx hb dX0_slotOf_22 rfl (lv_at hl 1 rfl) ?_
          refine z_icmp_ne (tgt := 28) hx hb dX0_slotOf_23 (by decide) (by omega) (fun cc_23 => ?_) (fun cc_23 => ?_)
          · refine z_iinc (x := ki) (lv' := [(2, .int (zI (ki + 1))), (0, .ref (a 0)), (1, .int (zI x))]) hx hb dX0_slotOf_28 hl (k := 2) rfl (by decide) rfl (fun ls hl => ?_)
            refine lv_goto (tgt := 8) hx hb dX0_slotOf_31 (by decide) ?_
            exact ih8 (ki + 1) (by omega) (by intro j hh_1 hh_2; rcases (show j < ki ∨ j = ki by omega) with hc | hc; exact hnn j hh_1 hc; rw [hc]; exact cc_23) (by omega) _ _ hW ls (lv_sub hl [1, 2, 0] rfl)
          · refine lv_iload_n hx hb dX0_slotOf_26 rfl (lv_at hl 2 rfl) ?_
            exact z_iret (v := ki) hx hb hr hlk hW dX0_slotOf_27 (by
                exact ⟨ki, rfl, rfl, by exact Or.inr ⟨by omega, by omega, by omega, by omega⟩⟩)
    exact L8 (((10 - 0) : Int).toNat + 1) 0 (by omega) (by intro j hh_1 hh_2; omega) (by omega) _ _ hW ls (lv_sub hl [1, 2, 0] rfl)
  · refine lv_iconst (v := zI (-1)) hx hb dX0_slotOf_4 rfl ?_
    exact z_iret (v := (-1)) hx hb hr hlk hW dX0_slotOf_5 (by
        exact ⟨(-1), rfl, rfl, by exact Or.inl ⟨rfl, Or.inl (by omega)⟩⟩)

abbrev qX0_freeSlot (cI : ClassId) (a : Nat → Nat) (b : zBS) : Option Value → List va_W → Prop := fun vq wq => ∃ (r : Int), vq = some (.int (zI r)) ∧ wq = [zBoard cI a (b)] ∧ ((r = -1 ∧ ∀ j, 0 ≤ j → j < 10 → bd_num b j ≠ -1) ∨ (0 ≤ r ∧ r < 10 ∧ bd_num b r = -1 ∧ ∀ j, 0 ≤ j → j < r → bd_num b j ≠ -1))
set_option maxRecDepth 20000 in
theorem iX0_freeSlot_X0 : ∀ w ∈ u_ws RX0 TX0 9, w ∈ wsX0_freeSlot := by decide +kernel
set_option maxRecDepth 20000 in
theorem mX0_freeSlot_1 : (.fieldLink RX0 9 "StoryPanels$Board" "numbers" "[I" : Cond) ∈ wsX0_freeSlot := by decide +kernel
set_option maxRecDepth 20000 in
theorem mX0_freeSlot_2 : (.initialized RX4 : Cond) ∈ wsX0_freeSlot := by decide +kernel
set_option maxRecDepth 20000 in
theorem mX0_freeSlot_3 : (.static yX4_cell : Cond) ∈ wsX0_freeSlot := by decide +kernel
set_option maxHeartbeats 4000000 in
set_option maxRecDepth 100000 in
theorem kX0_freeSlot (l : Launch) (D : va_G) (cI cB : ClassId) (a : Nat → Nat) (b : zBS) (hBk : BOK b) : zMet l yX0_freeSlot wsX0_freeSlot 1 21 0 0 D cI cB [.ref (a 0)] [zBoard cI a b] (qX0_freeSlot cI a b) := by
  refine zMet.of (cd := cX0_freeSlot) (maxL := 2) (ret := (some .int)) (by decide) rfl (Nat.le_of_ble_eq_true rfl) ?_
  intro p e s m args below meth c A ls hS hr hlk hnm hK hA hW hl
  have hS : CallFix p m c cX0_freeSlot 2 s args wsX0_freeSlot RX0 := hS
  have hx := hS.1
  have hb := hS.2.1
  have hown := hS.2.2.2.1
  have hts := hS.2.2.2.2
  have hl : lv_has ls 2 [(0, .ref (a 0))] := hl
  obtain ⟨hzz, hsf, hlin, hnum, hscn, hdur, hcnt, hcod, hplc⟩ := id hBk
  refine lv_iconst (v := zI (0)) hx hb dX0_freeSlot_0 rfl ?_
  refine lv_istore_n (lv' := [(1, .int (zI 0)), (0, .ref (a 0))]) hx hb dX0_freeSlot_1 rfl hl (by decide) rfl (fun ls hl => ?_)
  have L2 : ∀ (fu : Nat) (ki : Int), (0 ≤ ki ∧ ki ≤ 10) → (∀ j, 0 ≤ j → j < ki → bd_num b j ≠ -1) → (10 - ki) < (fu : Int) → ∀ (H : Heap) (locs : List Loc), zW D A s.heap [zBoard cI a b] H locs → ∀ (ls : Array Slot), lv_has ls 2 [(0, .ref (a 0)), (1, .int (zI ki))] → W p l e { frames := 1, cells := 0, slots := 0, locals := 21 } s m args below meth c H locs 0 0 (MQ below (zQ A D (qX0_freeSlot cI a b)) args s 0 0 A) (F0 m 2 ls []) := by
    intro fu
    induction fu with
    | zero => intro ki hki hnn hm; exact absurd hm (by omega)
    | succ fu ih2 =>
      intro ki hki hnn hm H locs hW ls hl
      refine lv_iload_n hx hb dX0_freeSlot_2 rfl (lv_at hl 1 rfl) ?_
      refine lv_bipush (v := zI (10)) hx hb dX0_freeSlot_3 (by decide +kernel) ?_
      refine z_icmp_ge (tgt := 28) hx hb dX0_freeSlot_5 (by decide) (by omega) (fun cc_5 => ?_) (fun cc_5 => ?_)
      · refine lv_iconst (v := zI (-1)) hx hb dX0_freeSlot_28 rfl ?_
        exact z_iret (v := (-1)) hx hb hr hlk hW dX0_freeSlot_29 (by
            exact ⟨(-1), rfl, rfl, by exact Or.inl ⟨rfl, fun j hh_1 hh_2 => hnn j hh_1 (by omega)⟩⟩)
      · refine lv_aload_n hx hb dX0_freeSlot_8 rfl (lv_at hl 0 rfl) ?_
        refine va_get (D := D) (ci := 0) (v := .ref (a 1)) (C := RX0) (T := TX0) (N := 9) hx hb hts iX0_freeSlot_X0 hown hK.1 hW.1 0 rfl rfl 0 (by decide) (hts _ mX0_freeSlot_1) (fun _ h9 => h9) rfl dX0_freeSlot_9 ?_
        refine lv_iload_n hx hb dX0_freeSlot_12 rfl (lv_at hl 1 rfl) ?_
        refine z_cell (n := 10) (g := bd_num b) (i := ki) (rest := []) hS hK hA hW hl.1 1 rfl (gX0_freeSlot_X4_cell_n52) nm_19 (mX0_freeSlot_2) (mX0_freeSlot_3) ⟨Nat.le_of_ble_eq_true rfl, Nat.le_of_ble_eq_true rfl⟩ dX0_freeSlot_13 (by omega) (Nat.le_of_ble_eq_true rfl) ⟨Nat.le_of_ble_eq_true rfl, Nat.le_of_ble_eq_true rfl⟩ (fun H locs hW => ?_)
        have qq_13 := hnum ki (by omega) (by omega)
        refine lv_iconst (v := zI (-1)) hx hb dX0_freeSlot_16 rfl ?_
        refine z_icmp_ne (tgt := 22) hx hb dX0_freeSlot_17 (by decide) (by omega) (fun cc_17 => ?_) (fun cc_17 => ?_)
        · refine z_iinc (x := ki) (lv' := [(1, .int (zI (ki + 1))), (0, .ref (a 0))]) hx hb dX0_freeSlot_22 hl (k := 1) rfl (by decide) rfl (fun ls hl => ?_)
          refine lv_goto (tgt := 2) hx hb dX0_freeSlot_25 (by decide) ?_
          exact ih2 (ki + 1) (by omega) (by intro j hh_1 hh_2; rcases (show j < ki ∨ j = ki by omega) with hc | hc; exact hnn j hh_1 hc; rw [hc]; exact cc_17) (by omega) _ _ hW ls (lv_sub hl [1, 0] rfl)
        · refine lv_iload_n hx hb dX0_freeSlot_20 rfl (lv_at hl 1 rfl) ?_
          exact z_iret (v := ki) hx hb hr hlk hW dX0_freeSlot_21 (by
              exact ⟨ki, rfl, rfl, by exact Or.inr ⟨by omega, by omega, by omega, hnn⟩⟩)
  exact L2 (((10 - 0) : Int).toNat + 1) 0 (by omega) (by intro j hh_1 hh_2; omega) (by omega) _ _ hW ls (lv_sub hl [1, 0] rfl)

abbrev qX0_rankOf (cI : ClassId) (a : Nat → Nat) (b : zBS) (x : Int) (k : Int) : Option Value → List va_W → Prop := fun vq wq => ∃ (r : Int), vq = some (.int (zI r)) ∧ wq = [zBoard cI a (b)] ∧ (r = k)
set_option maxRecDepth 20000 in
theorem iX0_rankOf_X0 : ∀ w ∈ u_ws RX0 TX0 9, w ∈ wsX0_rankOf := by decide +kernel
set_option maxRecDepth 20000 in
theorem mX0_rankOf_1 : (.fieldLink RX0 33 "StoryPanels$Board" "size" "I" : Cond) ∈ wsX0_rankOf := by decide +kernel
set_option maxRecDepth 20000 in
theorem mX0_rankOf_2 : (.fieldLink RX0 27 "StoryPanels$Board" "line" "[I" : Cond) ∈ wsX0_rankOf := by decide +kernel
set_option maxRecDepth 20000 in
theorem mX0_rankOf_3 : (.initialized RX4 : Cond) ∈ wsX0_rankOf := by decide +kernel
set_option maxRecDepth 20000 in
theorem mX0_rankOf_4 : (.static yX4_cell : Cond) ∈ wsX0_rankOf := by decide +kernel
set_option maxHeartbeats 4000000 in
set_option maxRecDepth 100000 in
theorem kX0_rankOf (l : Launch) (D : va_G) (cI cB : ClassId) (a : Nat → Nat) (b : zBS) (x : Int) (k : Int) (hBk : BOK b) (hx1 : R32 x) (hrk : atRank b x k) : zMet l yX0_rankOf wsX0_rankOf 1 21 0 0 D cI cB [.ref (a 0), .int (zI x)] [zBoard cI a b] (qX0_rankOf cI a b x k) := by
  refine zMet.of (cd := cX0_rankOf) (maxL := 3) (ret := (some .int)) (by decide) rfl (Nat.le_of_ble_eq_true rfl) ?_
  intro p e s m args below meth c A ls hS hr hlk hnm hK hA hW hl
  have hS : CallFix p m c cX0_rankOf 3 s args wsX0_rankOf RX0 := hS
  have hx := hS.1
  have hb := hS.2.1
  have hown := hS.2.2.2.1
  have hts := hS.2.2.2.2
  have hl : lv_has ls 3 [(0, .ref (a 0)), (1, .int (zI x))] := hl
  obtain ⟨hzz, hsf, hlin, hnum, hscn, hdur, hcnt, hcod, hplc⟩ := id hBk
  refine lv_iconst (v := zI (0)) hx hb dX0_rankOf_0 rfl ?_
  refine lv_istore_n (lv' := [(2, .int (zI 0)), (0, .ref (a 0)), (1, .int (zI x))]) hx hb dX0_rankOf_1 rfl hl (by decide) rfl (fun ls hl => ?_)
  have L2 : ∀ (fu : Nat) (ki : Int), (0 ≤ ki ∧ ki ≤ k) → (k - ki) < (fu : Int) → ∀ (H : Heap) (locs : List Loc), zW D A s.heap [zBoard cI a b] H locs → ∀ (ls : Array Slot), lv_has ls 3 [(0, .ref (a 0)), (1, .int (zI x)), (2, .int (zI ki))] → W p l e { frames := 1, cells := 0, slots := 0, locals := 21 } s m args below meth c H locs 0 0 (MQ below (zQ A D (qX0_rankOf cI a b x k)) args s 0 0 A) (F0 m 2 ls []) := by
    intro fu
    induction fu with
    | zero => intro ki hki hm; exact absurd hm (by omega)
    | succ fu ih2 =>
      intro ki hki hm H locs hW ls hl
      refine lv_iload_n hx hb dX0_rankOf_2 rfl (lv_at hl 2 rfl) ?_
      refine lv_aload_n hx hb dX0_rankOf_3 rfl (lv_at hl 0 rfl) ?_
      refine va_get (D := D) (ci := 0) (v := .int (zI (bd_sz b))) (C := RX0) (T := TX0) (N := 9) hx hb hts iX0_rankOf_X0 hown hK.1 hW.1 0 rfl rfl 7 (by decide) (hts _ mX0_rankOf_1) (fun _ h9 => h9) rfl dX0_rankOf_4 ?_
      have hrk1 := hrk.1
      refine z_icmp_ge (tgt := 30) hx hb dX0_rankOf_7 (by decide) (by omega) (fun cc_7 => ?_) (fun cc_7 => ?_)
      · refine lv_iconst (v := zI (-1)) hx hb dX0_rankOf_30 rfl ?_
        exact z_iret (v := (-1)) hx hb hr hlk hW dX0_rankOf_31 (by
            exact ⟨(-1), rfl, rfl, by exact absurd hrk.1.2 (by omega)⟩)
      · refine lv_aload_n hx hb dX0_rankOf_10 rfl (lv_at hl 0 rfl) ?_
        refine va_get (D := D) (ci := 0) (v := .ref (a 6)) (C := RX0) (T := TX0) (N := 9) hx hb hts iX0_rankOf_X0 hown hK.1 hW.1 0 rfl rfl 5 (by decide) (hts _ mX0_rankOf_2) (fun _ h9 => h9) rfl dX0_rankOf_11 ?_
        refine lv_iload_n hx hb dX0_rankOf_14 rfl (lv_at hl 2 rfl) ?_
        refine z_cell (n := 10) (g := bd_lin b) (i := ki) (rest := []) hS hK hA hW hl.1 6 rfl (gX0_rankOf_X4_cell_n52) nm_19 (mX0_rankOf_3) (mX0_rankOf_4) ⟨Nat.le_of_ble_eq_true rfl, Nat.le_of_ble_eq_true rfl⟩ dX0_rankOf_15 (by omega) (Nat.le_of_ble_eq_true rfl) ⟨Nat.le_of_ble_eq_true rfl, Nat.le_of_ble_eq_true rfl⟩ (fun H locs hW => ?_)
        have qq_15 := hlin ki (by omega) (by omega)
        refine lv_iload_n hx hb dX0_rankOf_18 rfl (lv_at hl 1 rfl) ?_
        refine z_icmp_ne (tgt := 24) hx hb dX0_rankOf_19 (by decide) (by omega) (fun cc_19 => ?_) (fun cc_19 => ?_)
        · refine z_iinc (x := ki) (lv' := [(2, .int (zI (ki + 1))), (0, .ref (a 0)), (1, .int (zI x))]) hx hb dX0_rankOf_24 hl (k := 2) rfl (by decide) rfl (fun ls hl => ?_)
          refine lv_goto (tgt := 2) hx hb dX0_rankOf_27 (by decide) ?_
          exact ih2 (ki + 1) (by (have := hrk.1; rcases (show ki < k ∨ ki = k by omega) with hc | hc; omega; exact absurd (by rw [hc]; exact hrk.2.1) cc_19)) (by omega) _ _ hW ls (lv_sub hl [1, 2, 0] rfl)
        · refine lv_iload_n hx hb dX0_rankOf_22 rfl (lv_at hl 2 rfl) ?_
          exact z_iret (v := ki) hx hb hr hlk hW dX0_rankOf_23 (by
              exact ⟨ki, rfl, rfl, by exact hrk.2.2 ki (by omega) (by omega) (by omega)⟩)
  exact L2 (((k - 0) : Int).toNat + 1) 0 (by (have := hrk.1; omega)) (by omega) _ _ hW ls (lv_sub hl [1, 2, 0] rfl)

abbrev qX0_panelsIn (cI : ClassId) (a : Nat → Nat) (b : zBS) (x : Int) : Option Value → List va_W → Prop := fun vq wq => ∃ (r : Int), vq = some (.int (zI r)) ∧ wq = [zBoard cI a (b)] ∧ (r = nIn b x)
set_option maxRecDepth 20000 in
theorem iX0_panelsIn_X0 : ∀ w ∈ u_ws RX0 TX0 9, w ∈ wsX0_panelsIn := by decide +kernel
set_option maxRecDepth 20000 in
theorem mX0_panelsIn_1 : (.fieldLink RX0 33 "StoryPanels$Board" "size" "I" : Cond) ∈ wsX0_panelsIn := by decide +kernel
set_option maxRecDepth 20000 in
theorem mX0_panelsIn_2 : (.fieldLink RX0 15 "StoryPanels$Board" "scenes" "[I" : Cond) ∈ wsX0_panelsIn := by decide +kernel
set_option maxRecDepth 20000 in
theorem mX0_panelsIn_3 : (.fieldLink RX0 27 "StoryPanels$Board" "line" "[I" : Cond) ∈ wsX0_panelsIn := by decide +kernel
set_option maxRecDepth 20000 in
theorem mX0_panelsIn_4 : (.initialized RX4 : Cond) ∈ wsX0_panelsIn := by decide +kernel
set_option maxRecDepth 20000 in
theorem mX0_panelsIn_5 : (.static yX4_cell : Cond) ∈ wsX0_panelsIn := by decide +kernel
set_option maxHeartbeats 4000000 in
set_option maxRecDepth 100000 in
theorem kX0_panelsIn (l : Launch) (D : va_G) (cI cB : ClassId) (a : Nat → Nat) (b : zBS) (x : Int) (hBk : BOK b) (hx1 : R32 x) : zMet l yX0_panelsIn wsX0_panelsIn 1 21 0 0 D cI cB [.ref (a 0), .int (zI x)] [zBoard cI a b] (qX0_panelsIn cI a b x) := by
  refine zMet.of (cd := cX0_panelsIn) (maxL := 4) (ret := (some .int)) (by decide) rfl (Nat.le_of_ble_eq_true rfl) ?_
  intro p e s m args below meth c A ls hS hr hlk hnm hK hA hW hl
  have hS : CallFix p m c cX0_panelsIn 4 s args wsX0_panelsIn RX0 := hS
  have hx := hS.1
  have hb := hS.2.1
  have hown := hS.2.2.2.1
  have hts := hS.2.2.2.2
  have hl : lv_has ls 4 [(0, .ref (a 0)), (1, .int (zI x))] := hl
  obtain ⟨hzz, hsf, hlin, hnum, hscn, hdur, hcnt, hcod, hplc⟩ := id hBk
  refine lv_iconst (v := zI (0)) hx hb dX0_panelsIn_0 rfl ?_
  refine lv_istore_n (lv' := [(2, .int (zI 0)), (0, .ref (a 0)), (1, .int (zI x))]) hx hb dX0_panelsIn_1 rfl hl (by decide) rfl (fun ls hl => ?_)
  refine lv_iconst (v := zI (0)) hx hb dX0_panelsIn_2 rfl ?_
  refine lv_istore_n (lv' := [(3, .int (zI 0)), (2, .int (zI 0)), (0, .ref (a 0)), (1, .int (zI x))]) hx hb dX0_panelsIn_3 rfl hl (by decide) rfl (fun ls hl => ?_)
  have L4 : ∀ (fu : Nat) (fc : Int) (ki : Int), (0 ≤ ki ∧ ki ≤ bd_sz b) → (fc = zcnt (fun r => decide (bd_scn b (bd_lin b r) = x)) ki) → (bd_sz b - ki) < (fu : Int) → ∀ (H : Heap) (locs : List Loc), zW D A s.heap [zBoard cI a b] H locs → ∀ (ls : Array Slot), lv_has ls 4 [(0, .ref (a 0)), (1, .int (zI x)), (2, .int (zI fc)), (3, .int (zI ki))] → W p l e { frames := 1, cells := 0, slots := 0, locals := 21 } s m args below meth c H locs 0 0 (MQ below (zQ A D (qX0_panelsIn cI a b x)) args s 0 0 A) (F0 m 4 ls []) := by
    intro fu
    induction fu with
    | zero => intro fc ki hki hfc hm; exact absurd hm (by omega)
    | succ fu ih4 =>
      intro fc ki hki hfc hm H locs hW ls hl
      refine lv_iload_n hx hb dX0_panelsIn_4 rfl (lv_at hl 3 rfl) ?_
      refine lv_aload_n hx hb dX0_panelsIn_5 rfl (lv_at hl 0 rfl) ?_
      refine va_get (D := D) (ci := 0) (v := .int (zI (bd_sz b))) (C := RX0) (T := TX0) (N := 9) hx hb hts iX0_panelsIn_X0 hown hK.1 hW.1 0 rfl rfl 7 (by decide) (hts _ mX0_panelsIn_1) (fun _ h9 => h9) rfl dX0_panelsIn_6 ?_
      refine z_icmp_ge (tgt := 40) hx hb dX0_panelsIn_9 (by decide) (by omega) (fun cc_9 => ?_) (fun cc_9 => ?_)
      · refine lv_iload_n hx hb dX0_panelsIn_40 rfl (lv_at hl 2 rfl) ?_
        exact z_iret (v := fc) hx hb hr hlk hW dX0_panelsIn_41 (by
            exact ⟨fc, rfl, rfl, by rw [hfc, show ki = bd_sz b by omega]; rfl⟩)
      · refine lv_aload_n hx hb dX0_panelsIn_12 rfl (lv_at hl 0 rfl) ?_
        refine va_get (D := D) (ci := 0) (v := .ref (a 2)) (C := RX0) (T := TX0) (N := 9) hx hb hts iX0_panelsIn_X0 hown hK.1 hW.1 0 rfl rfl 1 (by decide) (hts _ mX0_panelsIn_2) (fun _ h9 => h9) rfl dX0_panelsIn_13 ?_
        refine lv_aload_n hx hb dX0_panelsIn_16 rfl (lv_at hl 0 rfl) ?_
        refine va_get (D := D) (ci := 0) (v := .ref (a 6)) (C := RX0) (T := TX0) (N := 9) hx hb hts iX0_panelsIn_X0 hown hK.1 hW.1 0 rfl rfl 5 (by decide) (hts _ mX0_panelsIn_3) (fun _ h9 => h9) rfl dX0_panelsIn_17 ?_
        refine lv_iload_n hx hb dX0_panelsIn_20 rfl (lv_at hl 3 rfl) ?_
        refine z_cell (n := 10) (g := bd_lin b) (i := ki) (rest := [.ref (a 2)]) hS hK hA hW hl.1 6 rfl (gX0_panelsIn_X4_cell_n52) nm_19 (mX0_panelsIn_4) (mX0_panelsIn_5) ⟨Nat.le_of_ble_eq_true rfl, Nat.le_of_ble_eq_true rfl⟩ dX0_panelsIn_21 (by omega) (Nat.le_of_ble_eq_true rfl) ⟨Nat.le_of_ble_eq_true rfl, Nat.le_of_ble_eq_true rfl⟩ (fun H locs hW => ?_)
        have qq_21 := hlin ki (by omega) (by omega)
        refine z_cell (n := 10) (g := bd_scn b) (i := (bd_lin b) ki) (rest := []) hS hK hA hW hl.1 2 rfl (gX0_panelsIn_X4_cell_n52) nm_19 (mX0_panelsIn_4) (mX0_panelsIn_5) ⟨Nat.le_of_ble_eq_true rfl, Nat.le_of_ble_eq_true rfl⟩ dX0_panelsIn_24 (by omega) (Nat.le_of_ble_eq_true rfl) ⟨Nat.le_of_ble_eq_true rfl, Nat.le_of_ble_eq_true rfl⟩ (fun H locs hW => ?_)
        have qq_24 := hscn (bd_lin b ki) (by omega) (by omega)
        refine lv_iload_n hx hb dX0_panelsIn_27 rfl (lv_at hl 1 rfl) ?_
        refine z_icmp_ne (tgt := 34) hx hb dX0_panelsIn_28 (by decide) (by omega) (fun cc_28 => ?_) (fun cc_28 => ?_)
        · refine z_iinc (x := ki) (lv' := [(3, .int (zI (ki + 1))), (0, .ref (a 0)), (1, .int (zI x)), (2, .int (zI fc))]) hx hb dX0_panelsIn_34 hl (k := 3) rfl (by decide) rfl (fun ls hl => ?_)
          refine lv_goto (tgt := 4) hx hb dX0_panelsIn_37 (by decide) ?_
          exact ih4 fc (ki + 1) (by omega) (by rw [zcnt_s _ hki.1, hfc]; simp [cc_28]) (by omega) _ _ hW ls (lv_sub hl [1, 2, 3, 0] rfl)
        · refine z_iinc (x := fc) (lv' := [(2, .int (zI (fc + 1))), (0, .ref (a 0)), (1, .int (zI x)), (3, .int (zI ki))]) hx hb dX0_panelsIn_31 hl (k := 2) rfl (by decide) rfl (fun ls hl => ?_)
          refine z_iinc (x := ki) (lv' := [(3, .int (zI (ki + 1))), (2, .int (zI (fc + 1))), (0, .ref (a 0)), (1, .int (zI x))]) hx hb dX0_panelsIn_34 hl (k := 3) rfl (by decide) rfl (fun ls hl => ?_)
          refine lv_goto (tgt := 4) hx hb dX0_panelsIn_37 (by decide) ?_
          exact ih4 (fc + 1) (ki + 1) (by omega) (by rw [zcnt_s _ hki.1, hfc]; simp [cc_28]) (by omega) _ _ hW ls (lv_sub hl [2, 3, 1, 0] rfl)
  exact L4 (((bd_sz b - 0) : Int).toNat + 1) 0 0 (by omega) (by rfl) (by omega) _ _ hW ls (lv_sub hl [2, 3, 1, 0] rfl)

abbrev qX0_panelsAhead (cI : ClassId) (a : Nat → Nat) (b : zBS) (x : Int) : Option Value → List va_W → Prop := fun vq wq => ∃ (r : Int), vq = some (.int (zI r)) ∧ wq = [zBoard cI a (b)] ∧ (r = nAhead b x)
set_option maxRecDepth 20000 in
theorem iX0_panelsAhead_X0 : ∀ w ∈ u_ws RX0 TX0 9, w ∈ wsX0_panelsAhead := by decide +kernel
set_option maxRecDepth 20000 in
theorem mX0_panelsAhead_1 : (.fieldLink RX0 30 "StoryPanels$Board" "scenePlaces" "[I" : Cond) ∈ wsX0_panelsAhead := by decide +kernel
set_option maxRecDepth 20000 in
theorem mX0_panelsAhead_2 : (.initialized RX4 : Cond) ∈ wsX0_panelsAhead := by decide +kernel
set_option maxRecDepth 20000 in
theorem mX0_panelsAhead_3 : (.static yX4_cell : Cond) ∈ wsX0_panelsAhead := by decide +kernel
set_option maxRecDepth 20000 in
theorem mX0_panelsAhead_4 : (.fieldLink RX0 33 "StoryPanels$Board" "size" "I" : Cond) ∈ wsX0_panelsAhead := by decide +kernel
set_option maxRecDepth 20000 in
theorem mX0_panelsAhead_5 : (.fieldLink RX0 15 "StoryPanels$Board" "scenes" "[I" : Cond) ∈ wsX0_panelsAhead := by decide +kernel
set_option maxRecDepth 20000 in
theorem mX0_panelsAhead_6 : (.fieldLink RX0 27 "StoryPanels$Board" "line" "[I" : Cond) ∈ wsX0_panelsAhead := by decide +kernel
set_option maxHeartbeats 4000000 in
set_option maxRecDepth 100000 in
theorem kX0_panelsAhead (l : Launch) (D : va_G) (cI cB : ClassId) (a : Nat → Nat) (b : zBS) (x : Int) (hBk : BOK b) (hx1 : 0 ≤ x ∧ x < 5) : zMet l yX0_panelsAhead wsX0_panelsAhead 1 21 0 0 D cI cB [.ref (a 0), .int (zI x)] [zBoard cI a b] (qX0_panelsAhead cI a b x) := by
  refine zMet.of (cd := cX0_panelsAhead) (maxL := 5) (ret := (some .int)) (by decide) rfl (Nat.le_of_ble_eq_true rfl) ?_
  intro p e s m args below meth c A ls hS hr hlk hnm hK hA hW hl
  have hS : CallFix p m c cX0_panelsAhead 5 s args wsX0_panelsAhead RX0 := hS
  have hx := hS.1
  have hb := hS.2.1
  have hown := hS.2.2.2.1
  have hts := hS.2.2.2.2
  have hl : lv_has ls 5 [(0, .ref (a 0)), (1, .int (zI x))] := hl
  obtain ⟨hzz, hsf, hlin, hnum, hscn, hdur, hcnt, hcod, hplc⟩ := id hBk
  refine lv_aload_n hx hb dX0_panelsAhead_0 rfl (lv_at hl 0 rfl) ?_
  refine va_get (D := D) (ci := 0) (v := .ref (a 7)) (C := RX0) (T := TX0) (N := 9) hx hb hts iX0_panelsAhead_X0 hown hK.1 hW.1 0 rfl rfl 6 (by decide) (hts _ mX0_panelsAhead_1) (fun _ h9 => h9) rfl dX0_panelsAhead_1 ?_
  refine lv_iload_n hx hb dX0_panelsAhead_4 rfl (lv_at hl 1 rfl) ?_
  refine z_cell (n := 5) (g := bd_plc b) (i := x) (rest := []) hS hK hA hW hl.1 7 rfl (gX0_panelsAhead_X4_cell_n52) nm_19 (mX0_panelsAhead_2) (mX0_panelsAhead_3) ⟨Nat.le_of_ble_eq_true rfl, Nat.le_of_ble_eq_true rfl⟩ dX0_panelsAhead_5 (by omega) (Nat.le_of_ble_eq_true rfl) ⟨Nat.le_of_ble_eq_true rfl, Nat.le_of_ble_eq_true rfl⟩ (fun H locs hW => ?_)
  have qq_5 := hplc x (by omega) (by omega)
  refine lv_istore_n (lv' := [(2, .int (zI ((bd_plc b) x))), (0, .ref (a 0)), (1, .int (zI x))]) hx hb dX0_panelsAhead_8 rfl hl (by decide) rfl (fun ls hl => ?_)
  refine lv_iconst (v := zI (0)) hx hb dX0_panelsAhead_9 rfl ?_
  refine lv_istore_n (lv' := [(3, .int (zI 0)), (2, .int (zI ((bd_plc b) x))), (0, .ref (a 0)), (1, .int (zI x))]) hx hb dX0_panelsAhead_10 rfl hl (by decide) rfl (fun ls hl => ?_)
  refine lv_iconst (v := zI (0)) hx hb dX0_panelsAhead_11 rfl ?_
  refine lv_istore (lv' := [(4, .int (zI 0)), (3, .int (zI 0)), (2, .int (zI ((bd_plc b) x))), (0, .ref (a 0)), (1, .int (zI x))]) hx hb dX0_panelsAhead_12 hl (by decide) rfl (fun ls hl => ?_)
  have L14 : ∀ (fu : Nat) (fc : Int) (ki : Int), (0 ≤ ki ∧ ki ≤ bd_sz b) → (fc = zcnt (fun r => decide (bd_plc b (bd_scn b (bd_lin b r)) < bd_plc b x)) ki) → (bd_sz b - ki) < (fu : Int) → ∀ (H : Heap) (locs : List Loc), zW D A s.heap [zBoard cI a b] H locs → ∀ (ls : Array Slot), lv_has ls 5 [(0, .ref (a 0)), (1, .int (zI x)), (2, .int (zI ((bd_plc b) x))), (3, .int (zI fc)), (4, .int (zI ki))] → W p l e { frames := 1, cells := 0, slots := 0, locals := 21 } s m args below meth c H locs 0 0 (MQ below (zQ A D (qX0_panelsAhead cI a b x)) args s 0 0 A) (F0 m 14 ls []) := by
    intro fu
    induction fu with
    | zero => intro fc ki hki hfc hm; exact absurd hm (by omega)
    | succ fu ih14 =>
      intro fc ki hki hfc hm H locs hW ls hl
      refine lv_iload hx hb dX0_panelsAhead_14 (lv_at hl 4 rfl) ?_
      refine lv_aload_n hx hb dX0_panelsAhead_16 rfl (lv_at hl 0 rfl) ?_
      refine va_get (D := D) (ci := 0) (v := .int (zI (bd_sz b))) (C := RX0) (T := TX0) (N := 9) hx hb hts iX0_panelsAhead_X0 hown hK.1 hW.1 0 rfl rfl 7 (by decide) (hts _ mX0_panelsAhead_4) (fun _ h9 => h9) rfl dX0_panelsAhead_17 ?_
      refine z_icmp_ge (tgt := 59) hx hb dX0_panelsAhead_20 (by decide) (by omega) (fun cc_20 => ?_) (fun cc_20 => ?_)
      · refine lv_iload_n hx hb dX0_panelsAhead_59 rfl (lv_at hl 3 rfl) ?_
        exact z_iret (v := fc) hx hb hr hlk hW dX0_panelsAhead_60 (by
            exact ⟨fc, rfl, rfl, by rw [hfc, show ki = bd_sz b by omega]; rfl⟩)
      · refine lv_aload_n hx hb dX0_panelsAhead_23 rfl (lv_at hl 0 rfl) ?_
        refine va_get (D := D) (ci := 0) (v := .ref (a 7)) (C := RX0) (T := TX0) (N := 9) hx hb hts iX0_panelsAhead_X0 hown hK.1 hW.1 0 rfl rfl 6 (by decide) (hts _ mX0_panelsAhead_1) (fun _ h9 => h9) rfl dX0_panelsAhead_24 ?_
        refine lv_aload_n hx hb dX0_panelsAhead_27 rfl (lv_at hl 0 rfl) ?_
        refine va_get (D := D) (ci := 0) (v := .ref (a 2)) (C := RX0) (T := TX0) (N := 9) hx hb hts iX0_panelsAhead_X0 hown hK.1 hW.1 0 rfl rfl 1 (by decide) (hts _ mX0_panelsAhead_5) (fun _ h9 => h9) rfl dX0_panelsAhead_28 ?_
        refine lv_aload_n hx hb dX0_panelsAhead_31 rfl (lv_at hl 0 rfl) ?_
        refine va_get (D := D) (ci := 0) (v := .ref (a 6)) (C := RX0) (T := TX0) (N := 9) hx hb hts iX0_panelsAhead_X0 hown hK.1 hW.1 0 rfl rfl 5 (by decide) (hts _ mX0_panelsAhead_6) (fun _ h9 => h9) rfl dX0_panelsAhead_32 ?_
        refine lv_iload hx hb dX0_panelsAhead_35 (lv_at hl 4 rfl) ?_
        refine z_cell (n := 10) (g := bd_lin b) (i := ki) (rest := [.ref (a 2), .ref (a 7)]) hS hK hA hW hl.1 6 rfl (gX0_panelsAhead_X4_cell_n52) nm_19 (mX0_panelsAhead_2) (mX0_panelsAhead_3) ⟨Nat.le_of_ble_eq_true rfl, Nat.le_of_ble_eq_true rfl⟩ dX0_panelsAhead_37 (by omega) (Nat.le_of_ble_eq_true rfl) ⟨Nat.le_of_ble_eq_true rfl, Nat.le_of_ble_eq_true rfl⟩ (fun H locs hW => ?_)
        have qq_37 := hlin ki (by omega) (by omega)
        refine z_cell (n := 10) (g := bd_scn b) (i := (bd_lin b) ki) (rest := [.ref (a 7)]) hS hK hA hW hl.1 2 rfl (gX0_panelsAhead_X4_cell_n52) nm_19 (mX0_panelsAhead_2) (mX0_panelsAhead_3) ⟨Nat.le_of_ble_eq_true rfl, Nat.le_of_ble_eq_true rfl⟩ dX0_panelsAhead_40 (by omega) (Nat.le_of_ble_eq_true rfl) ⟨Nat.le_of_ble_eq_true rfl, Nat.le_of_ble_eq_true rfl⟩ (fun H locs hW => ?_)
        have qq_40 := hscn (bd_lin b ki) (by omega) (by omega)
        refine z_cell (n := 5) (g := bd_plc b) (i := (bd_scn b) ((bd_lin b) ki)) (rest := []) hS hK hA hW hl.1 7 rfl (gX0_panelsAhead_X4_cell_n52) nm_19 (mX0_panelsAhead_2) (mX0_panelsAhead_3) ⟨Nat.le_of_ble_eq_true rfl, Nat.le_of_ble_eq_true rfl⟩ dX0_panelsAhead_43 (by omega) (Nat.le_of_ble_eq_true rfl) ⟨Nat.le_of_ble_eq_true rfl, Nat.le_of_ble_eq_true rfl⟩ (fun H locs hW => ?_)
        have qq_43 := hplc (bd_scn b (bd_lin b ki)) (by omega) (by omega)
        refine lv_iload_n hx hb dX0_panelsAhead_46 rfl (lv_at hl 2 rfl) ?_
        refine z_icmp_ge (tgt := 53) hx hb dX0_panelsAhead_47 (by decide) (by omega) (fun cc_47 => ?_) (fun cc_47 => ?_)
        · refine z_iinc (x := ki) (lv' := [(4, .int (zI (ki + 1))), (0, .ref (a 0)), (1, .int (zI x)), (2, .int (zI ((bd_plc b) x))), (3, .int (zI fc))]) hx hb dX0_panelsAhead_53 hl (k := 4) rfl (by decide) rfl (fun ls hl => ?_)
          refine lv_goto (tgt := 14) hx hb dX0_panelsAhead_56 (by decide) ?_
          exact ih14 fc (ki + 1) (by omega) (by rw [zcnt_s _ hki.1, hfc]; simp [cc_47]; try omega) (by omega) _ _ hW ls (lv_sub hl [1, 2, 3, 4, 0] rfl)
        · refine z_iinc (x := fc) (lv' := [(3, .int (zI (fc + 1))), (0, .ref (a 0)), (1, .int (zI x)), (2, .int (zI ((bd_plc b) x))), (4, .int (zI ki))]) hx hb dX0_panelsAhead_50 hl (k := 3) rfl (by decide) rfl (fun ls hl => ?_)
          refine z_iinc (x := ki) (lv' := [(4, .int (zI (ki + 1))), (3, .int (zI (fc + 1))), (0, .ref (a 0)), (1, .int (zI x)), (2, .int (zI ((bd_plc b) x)))]) hx hb dX0_panelsAhead_53 hl (k := 4) rfl (by decide) rfl (fun ls hl => ?_)
          refine lv_goto (tgt := 14) hx hb dX0_panelsAhead_56 (by decide) ?_
          exact ih14 (fc + 1) (ki + 1) (by omega) (by rw [zcnt_s _ hki.1, hfc]; simp [cc_47]; try omega) (by omega) _ _ hW ls (lv_sub hl [2, 3, 4, 1, 0] rfl)
  exact L14 (((bd_sz b - 0) : Int).toNat + 1) 0 0 (by omega) (by rfl) (by omega) _ _ hW ls (lv_sub hl [3, 4, 2, 1, 0] rfl)

abbrev qX0_ticksAhead (cI : ClassId) (a : Nat → Nat) (b : zBS) (x : Int) : Option Value → List va_W → Prop := fun vq wq => ∃ (r : Int), vq = some (.int (zI r)) ∧ wq = [zBoard cI a (b)] ∧ (r = ticksB b (if x < bd_sz b then x else bd_sz b))
set_option maxRecDepth 20000 in
theorem iX0_ticksAhead_X0 : ∀ w ∈ u_ws RX0 TX0 9, w ∈ wsX0_ticksAhead := by decide +kernel
set_option maxRecDepth 20000 in
theorem mX0_ticksAhead_1 : (.fieldLink RX0 33 "StoryPanels$Board" "size" "I" : Cond) ∈ wsX0_ticksAhead := by decide +kernel
set_option maxRecDepth 20000 in
theorem mX0_ticksAhead_2 : (.fieldLink RX0 27 "StoryPanels$Board" "line" "[I" : Cond) ∈ wsX0_ticksAhead := by decide +kernel
set_option maxRecDepth 20000 in
theorem mX0_ticksAhead_3 : (.initialized RX4 : Cond) ∈ wsX0_ticksAhead := by decide +kernel
set_option maxRecDepth 20000 in
theorem mX0_ticksAhead_4 : (.static yX4_cell : Cond) ∈ wsX0_ticksAhead := by decide +kernel
set_option maxHeartbeats 4000000 in
set_option maxRecDepth 100000 in
theorem kX0_ticksAhead (l : Launch) (D : va_G) (cI cB : ClassId) (a : Nat → Nat) (b : zBS) (x : Int) (hBk : BOK b) (hx1 : 0 ≤ x ∧ x < 2147483648) : zMet l yX0_ticksAhead wsX0_ticksAhead 2 42 0 0 D cI cB [.ref (a 0), .int (zI x)] [zBoard cI a b] (qX0_ticksAhead cI a b x) := by
  refine zMet.of (cd := cX0_ticksAhead) (maxL := 4) (ret := (some .int)) (by decide) rfl (Nat.le_of_ble_eq_true rfl) ?_
  intro p e s m args below meth c A ls hS hr hlk hnm hK hA hW hl
  have hS : CallFix p m c cX0_ticksAhead 4 s args wsX0_ticksAhead RX0 := hS
  have hx := hS.1
  have hb := hS.2.1
  have hown := hS.2.2.2.1
  have hts := hS.2.2.2.2
  have hl : lv_has ls 4 [(0, .ref (a 0)), (1, .int (zI x))] := hl
  obtain ⟨hzz, hsf, hlin, hnum, hscn, hdur, hcnt, hcod, hplc⟩ := id hBk
  refine lv_iconst (v := zI (0)) hx hb dX0_ticksAhead_0 rfl ?_
  refine lv_istore_n (lv' := [(2, .int (zI 0)), (0, .ref (a 0)), (1, .int (zI x))]) hx hb dX0_ticksAhead_1 rfl hl (by decide) rfl (fun ls hl => ?_)
  refine lv_iconst (v := zI (0)) hx hb dX0_ticksAhead_2 rfl ?_
  refine lv_istore_n (lv' := [(3, .int (zI 0)), (2, .int (zI 0)), (0, .ref (a 0)), (1, .int (zI x))]) hx hb dX0_ticksAhead_3 rfl hl (by decide) rfl (fun ls hl => ?_)
  have L4 : ∀ (fu : Nat) (fc : Int) (ki : Int), (0 ≤ ki ∧ ki ≤ bd_sz b ∧ ki ≤ x) → (fc = ticksB b ki) → (bd_sz b - ki) < (fu : Int) → ∀ (H : Heap) (locs : List Loc), zW D A s.heap [zBoard cI a b] H locs → ∀ (ls : Array Slot), lv_has ls 4 [(0, .ref (a 0)), (1, .int (zI x)), (2, .int (zI fc)), (3, .int (zI ki))] → W p l e { frames := 2, cells := 0, slots := 0, locals := 42 } s m args below meth c H locs 0 0 (MQ below (zQ A D (qX0_ticksAhead cI a b x)) args s 0 0 A) (F0 m 4 ls []) := by
    intro fu
    induction fu with
    | zero => intro fc ki hki hfc hm; exact absurd hm (by omega)
    | succ fu ih4 =>
      intro fc ki hki hfc hm H locs hW ls hl
      refine lv_iload_n hx hb dX0_ticksAhead_4 rfl (lv_at hl 3 rfl) ?_
      refine lv_iload_n hx hb dX0_ticksAhead_5 rfl (lv_at hl 1 rfl) ?_
      refine z_icmp_ge (tgt := 38) hx hb dX0_ticksAhead_6 (by decide) (by omega) (fun cc_6 => ?_) (fun cc_6 => ?_)
      · refine lv_iload_n hx hb dX0_ticksAhead_38 rfl (lv_at hl 2 rfl) ?_
        exact z_iret (v := fc) hx hb hr hlk hW dX0_ticksAhead_39 (by
            exact ⟨fc, rfl, rfl, by rw [hfc]; congr 1; split <;> omega⟩)
      · refine lv_iload_n hx hb dX0_ticksAhead_9 rfl (lv_at hl 3 rfl) ?_
        refine lv_aload_n hx hb dX0_ticksAhead_10 rfl (lv_at hl 0 rfl) ?_
        refine va_get (D := D) (ci := 0) (v := .int (zI (bd_sz b))) (C := RX0) (T := TX0) (N := 9) hx hb hts iX0_ticksAhead_X0 hown hK.1 hW.1 0 rfl rfl 7 (by decide) (hts _ mX0_ticksAhead_1) (fun _ h9 => h9) rfl dX0_ticksAhead_11 ?_
        refine z_icmp_ge (tgt := 38) hx hb dX0_ticksAhead_14 (by decide) (by omega) (fun cc_14 => ?_) (fun cc_14 => ?_)
        · refine lv_iload_n hx hb dX0_ticksAhead_38 rfl (lv_at hl 2 rfl) ?_
          exact z_iret (v := fc) hx hb hr hlk hW dX0_ticksAhead_39 (by
              exact ⟨fc, rfl, rfl, by rw [hfc]; congr 1; split <;> omega⟩)
        · refine lv_iload_n hx hb dX0_ticksAhead_17 rfl (lv_at hl 2 rfl) ?_
          refine lv_aload_n hx hb dX0_ticksAhead_18 rfl (lv_at hl 0 rfl) ?_
          refine lv_aload_n hx hb dX0_ticksAhead_19 rfl (lv_at hl 0 rfl) ?_
          refine va_get (D := D) (ci := 0) (v := .ref (a 6)) (C := RX0) (T := TX0) (N := 9) hx hb hts iX0_ticksAhead_X0 hown hK.1 hW.1 0 rfl rfl 5 (by decide) (hts _ mX0_ticksAhead_2) (fun _ h9 => h9) rfl dX0_ticksAhead_20 ?_
          refine lv_iload_n hx hb dX0_ticksAhead_23 rfl (lv_at hl 3 rfl) ?_
          refine z_cell (n := 10) (g := bd_lin b) (i := ki) (rest := [.ref (a 0), .int (zI fc)]) hS hK hA hW hl.1 6 rfl (gX0_ticksAhead_X4_cell_n52) nm_19 (mX0_ticksAhead_3) (mX0_ticksAhead_4) ⟨Nat.le_of_ble_eq_true rfl, Nat.le_of_ble_eq_true rfl⟩ dX0_ticksAhead_24 (by omega) (Nat.le_of_ble_eq_true rfl) ⟨Nat.le_of_ble_eq_true rfl, Nat.le_of_ble_eq_true rfl⟩ (fun H locs hW => ?_)
          have qq_24 := hlin ki (by omega) (by omega)
          refine z_callV (r := (RX0, TX0, 9)) (As := [.int (zI ((bd_lin b) ki))]) (rest := [.int (zI fc)]) hS hK hA hW hl.1 [0] [] (kX0_durationOf l D cI cB a b ((bd_lin b) ki) hBk (by omega)) (cwV 1 hts gX0_ticksAhead_X0_durationOf rfl rfl rfl (by decide +kernel) ⟨Nat.le_of_ble_eq_true rfl, Nat.le_of_ble_eq_true rfl⟩) (rfl : vwCl[0]? = some (RX0, TX0, 9)) (q0 := 0) rfl dX0_ticksAhead_27 rfl rfl rfl rfl rfl (Nat.le_of_ble_eq_true rfl) ⟨Nat.le_of_ble_eq_true rfl, Nat.le_of_ble_eq_true rfl⟩ (fun v9 w9 H locs hq hW => ?_)
          obtain ⟨rr_27, rfl, rfl, hh_27⟩ := hq
          subst rr_27
          have hW : zW D A s.heap [zBoard cI a b] H locs := hW
          refine W.eq (g2 := F0 m 30 ls [.int (zI (bd_dur b ((bd_lin b) ki))), .int (zI fc)]) rfl ?_
          refine z_iadd hx hb dX0_ticksAhead_30 ?_
          refine lv_istore_n (lv' := [(2, .int (zI (fc + (bd_dur b ((bd_lin b) ki))))), (0, .ref (a 0)), (1, .int (zI x)), (3, .int (zI ki))]) hx hb dX0_ticksAhead_31 rfl hl (by decide) rfl (fun ls hl => ?_)
          refine z_iinc (x := ki) (lv' := [(3, .int (zI (ki + 1))), (2, .int (zI (fc + (bd_dur b ((bd_lin b) ki))))), (0, .ref (a 0)), (1, .int (zI x))]) hx hb dX0_ticksAhead_32 hl (k := 3) rfl (by decide) rfl (fun ls hl => ?_)
          refine lv_goto (tgt := 4) hx hb dX0_ticksAhead_35 (by decide) ?_
          exact ih4 (fc + (bd_dur b ((bd_lin b) ki))) (ki + 1) (by omega) (by unfold ticksB at hfc ⊢; rw [zsum_s _ hki.1, hfc]) (by omega) _ _ hW ls (lv_sub hl [2, 3, 1, 0] rfl)
  exact L4 (((bd_sz b - 0) : Int).toNat + 1) 0 0 (by omega) (by rfl) (by omega) _ _ hW ls (lv_sub hl [2, 3, 1, 0] rfl)

abbrev qX0_eventsOfAll (cI : ClassId) (a : Nat → Nat) (b : zBS) : Option Value → List va_W → Prop := fun vq wq => ∃ (r : Int), vq = some (.int (zI r)) ∧ wq = [zBoard cI a (b)] ∧ (r = evsB b)
set_option maxRecDepth 20000 in
theorem iX0_eventsOfAll_X0 : ∀ w ∈ u_ws RX0 TX0 9, w ∈ wsX0_eventsOfAll := by decide +kernel
set_option maxRecDepth 20000 in
theorem mX0_eventsOfAll_1 : (.fieldLink RX0 33 "StoryPanels$Board" "size" "I" : Cond) ∈ wsX0_eventsOfAll := by decide +kernel
set_option maxRecDepth 20000 in
theorem mX0_eventsOfAll_2 : (.fieldLink RX0 27 "StoryPanels$Board" "line" "[I" : Cond) ∈ wsX0_eventsOfAll := by decide +kernel
set_option maxRecDepth 20000 in
theorem mX0_eventsOfAll_3 : (.initialized RX4 : Cond) ∈ wsX0_eventsOfAll := by decide +kernel
set_option maxRecDepth 20000 in
theorem mX0_eventsOfAll_4 : (.static yX4_cell : Cond) ∈ wsX0_eventsOfAll := by decide +kernel
set_option maxHeartbeats 4000000 in
set_option maxRecDepth 100000 in
theorem kX0_eventsOfAll (l : Launch) (D : va_G) (cI cB : ClassId) (a : Nat → Nat) (b : zBS) (hBk : BOK b) : zMet l yX0_eventsOfAll wsX0_eventsOfAll 2 42 0 0 D cI cB [.ref (a 0)] [zBoard cI a b] (qX0_eventsOfAll cI a b) := by
  refine zMet.of (cd := cX0_eventsOfAll) (maxL := 3) (ret := (some .int)) (by decide) rfl (Nat.le_of_ble_eq_true rfl) ?_
  intro p e s m args below meth c A ls hS hr hlk hnm hK hA hW hl
  have hS : CallFix p m c cX0_eventsOfAll 3 s args wsX0_eventsOfAll RX0 := hS
  have hx := hS.1
  have hb := hS.2.1
  have hown := hS.2.2.2.1
  have hts := hS.2.2.2.2
  have hl : lv_has ls 3 [(0, .ref (a 0))] := hl
  obtain ⟨hzz, hsf, hlin, hnum, hscn, hdur, hcnt, hcod, hplc⟩ := id hBk
  refine lv_iconst (v := zI (0)) hx hb dX0_eventsOfAll_0 rfl ?_
  refine lv_istore_n (lv' := [(1, .int (zI 0)), (0, .ref (a 0))]) hx hb dX0_eventsOfAll_1 rfl hl (by decide) rfl (fun ls hl => ?_)
  refine lv_iconst (v := zI (0)) hx hb dX0_eventsOfAll_2 rfl ?_
  refine lv_istore_n (lv' := [(2, .int (zI 0)), (1, .int (zI 0)), (0, .ref (a 0))]) hx hb dX0_eventsOfAll_3 rfl hl (by decide) rfl (fun ls hl => ?_)
  have L4 : ∀ (fu : Nat) (fc : Int) (ki : Int), (0 ≤ ki ∧ ki ≤ bd_sz b) → (fc = zsum (fun r => bd_cnt b (bd_lin b r)) ki) → (bd_sz b - ki) < (fu : Int) → ∀ (H : Heap) (locs : List Loc), zW D A s.heap [zBoard cI a b] H locs → ∀ (ls : Array Slot), lv_has ls 3 [(0, .ref (a 0)), (1, .int (zI fc)), (2, .int (zI ki))] → W p l e { frames := 2, cells := 0, slots := 0, locals := 42 } s m args below meth c H locs 0 0 (MQ below (zQ A D (qX0_eventsOfAll cI a b)) args s 0 0 A) (F0 m 4 ls []) := by
    intro fu
    induction fu with
    | zero => intro fc ki hki hfc hm; exact absurd hm (by omega)
    | succ fu ih4 =>
      intro fc ki hki hfc hm H locs hW ls hl
      refine lv_iload_n hx hb dX0_eventsOfAll_4 rfl (lv_at hl 2 rfl) ?_
      refine lv_aload_n hx hb dX0_eventsOfAll_5 rfl (lv_at hl 0 rfl) ?_
      refine va_get (D := D) (ci := 0) (v := .int (zI (bd_sz b))) (C := RX0) (T := TX0) (N := 9) hx hb hts iX0_eventsOfAll_X0 hown hK.1 hW.1 0 rfl rfl 7 (by decide) (hts _ mX0_eventsOfAll_1) (fun _ h9 => h9) rfl dX0_eventsOfAll_6 ?_
      refine z_icmp_ge (tgt := 33) hx hb dX0_eventsOfAll_9 (by decide) (by omega) (fun cc_9 => ?_) (fun cc_9 => ?_)
      · refine lv_iload_n hx hb dX0_eventsOfAll_33 rfl (lv_at hl 1 rfl) ?_
        exact z_iret (v := fc) hx hb hr hlk hW dX0_eventsOfAll_34 (by
            exact ⟨fc, rfl, rfl, by rw [hfc, show ki = bd_sz b by omega]; rfl⟩)
      · refine lv_iload_n hx hb dX0_eventsOfAll_12 rfl (lv_at hl 1 rfl) ?_
        refine lv_aload_n hx hb dX0_eventsOfAll_13 rfl (lv_at hl 0 rfl) ?_
        refine lv_aload_n hx hb dX0_eventsOfAll_14 rfl (lv_at hl 0 rfl) ?_
        refine va_get (D := D) (ci := 0) (v := .ref (a 6)) (C := RX0) (T := TX0) (N := 9) hx hb hts iX0_eventsOfAll_X0 hown hK.1 hW.1 0 rfl rfl 5 (by decide) (hts _ mX0_eventsOfAll_2) (fun _ h9 => h9) rfl dX0_eventsOfAll_15 ?_
        refine lv_iload_n hx hb dX0_eventsOfAll_18 rfl (lv_at hl 2 rfl) ?_
        refine z_cell (n := 10) (g := bd_lin b) (i := ki) (rest := [.ref (a 0), .int (zI fc)]) hS hK hA hW hl.1 6 rfl (gX0_eventsOfAll_X4_cell_n52) nm_19 (mX0_eventsOfAll_3) (mX0_eventsOfAll_4) ⟨Nat.le_of_ble_eq_true rfl, Nat.le_of_ble_eq_true rfl⟩ dX0_eventsOfAll_19 (by omega) (Nat.le_of_ble_eq_true rfl) ⟨Nat.le_of_ble_eq_true rfl, Nat.le_of_ble_eq_true rfl⟩ (fun H locs hW => ?_)
        have qq_19 := hlin ki (by omega) (by omega)
        refine z_callV (r := (RX0, TX0, 9)) (As := [.int (zI ((bd_lin b) ki))]) (rest := [.int (zI fc)]) hS hK hA hW hl.1 [0] [] (kX0_eventsIn l D cI cB a b ((bd_lin b) ki) hBk (by omega)) (cwV 1 hts gX0_eventsOfAll_X0_eventsIn rfl rfl rfl (by decide +kernel) ⟨Nat.le_of_ble_eq_true rfl, Nat.le_of_ble_eq_true rfl⟩) (rfl : vwCl[0]? = some (RX0, TX0, 9)) (q0 := 0) rfl dX0_eventsOfAll_22 rfl rfl rfl rfl rfl (Nat.le_of_ble_eq_true rfl) ⟨Nat.le_of_ble_eq_true rfl, Nat.le_of_ble_eq_true rfl⟩ (fun v9 w9 H locs hq hW => ?_)
        obtain ⟨rr_22, rfl, rfl, hh_22⟩ := hq
        subst rr_22
        have hW : zW D A s.heap [zBoard cI a b] H locs := hW
        refine W.eq (g2 := F0 m 25 ls [.int (zI (bd_cnt b ((bd_lin b) ki))), .int (zI fc)]) rfl ?_
        refine z_iadd hx hb dX0_eventsOfAll_25 ?_
        refine lv_istore_n (lv' := [(1, .int (zI (fc + (bd_cnt b ((bd_lin b) ki))))), (0, .ref (a 0)), (2, .int (zI ki))]) hx hb dX0_eventsOfAll_26 rfl hl (by decide) rfl (fun ls hl => ?_)
        refine z_iinc (x := ki) (lv' := [(2, .int (zI (ki + 1))), (1, .int (zI (fc + (bd_cnt b ((bd_lin b) ki))))), (0, .ref (a 0))]) hx hb dX0_eventsOfAll_27 hl (k := 2) rfl (by decide) rfl (fun ls hl => ?_)
        refine lv_goto (tgt := 4) hx hb dX0_eventsOfAll_30 (by decide) ?_
        exact ih4 (fc + (bd_cnt b ((bd_lin b) ki))) (ki + 1) (by omega) (by rw [zsum_s _ hki.1, hfc]) (by omega) _ _ hW ls (lv_sub hl [2, 1, 0] rfl)
  exact L4 (((bd_sz b - 0) : Int).toNat + 1) 0 0 (by omega) (by rfl) (by omega) _ _ hW ls (lv_sub hl [2, 1, 0] rfl)
