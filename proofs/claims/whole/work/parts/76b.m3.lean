abbrev qX5_breaksNow (cI : ClassId) (a : Nat → Nat) (b : zM2) (L : List zPn) (O : List Int) (ev : Int) (n : Int) : Option Value → List va_W → Prop := fun vq wq => ∃ (r : Int) (zrow : Int → Int) (zbrk : Int → Int) (znb : Int) (zhold : Int → Int) (zmov : Int → Int) (zbeh : Int → Int), vq = some (.int (zI r)) ∧ wq = [zMod2 cI a (mm_beh_ (mm_mov_ (mm_hold_ (mm_nb_ (mm_brk_ (mm_row_ b zrow) zbrk) znb) zhold) zmov) zbeh)] ∧ (r = nbC (ordC L O))
set_option maxRecDepth 20000 in
theorem iX5_breaksNow_X5 : ∀ w ∈ u_ws RX5 TX5 18, w ∈ wsX5_breaksNow := by decide +kernel
set_option maxRecDepth 20000 in
theorem mX5_breaksNow_1 : (.fieldLink RX5 78 "StoryPanelsModel" "breaks" "I" : Cond) ∈ wsX5_breaksNow := by decide +kernel
set_option maxHeartbeats 4000000 in
set_option maxRecDepth 100000 in
theorem kX5_breaksNow (l : Launch) (D : va_G) (cI cB : ClassId) (a : Nat → Nat) (b : zM2) (L : List zPn) (O : List Int) (ev : Int) (n : Int) (hM : RMb (mm_all b) L O ev n) : zMet l yX5_breaksNow wsX5_breaksNow 5 116 0 0 D cI cB [.ref (a 0)] [zMod2 cI a b] (qX5_breaksNow cI a b L O ev n) := by
  refine zMet.of (cd := cX5_breaksNow) (maxL := 1) (ret := (some .int)) (by decide) rfl (Nat.le_of_ble_eq_true rfl) ?_
  intro p e s m args below meth c A ls hS hr hlk hnm hK hA hW hl
  have hS : CallFix p m c cX5_breaksNow 1 s args wsX5_breaksNow RX5 := hS
  have hx := hS.1
  have hb := hS.2.1
  have hown := hS.2.2.2.1
  have hts := hS.2.2.2.2
  have hl : lv_has ls 1 [(0, .ref (a 0))] := hl
  refine lv_aload_n hx hb dX5_breaksNow_0 rfl (lv_at hl 0 rfl) ?_
  refine z_callV (r := (RX5, TX5, 18)) (As := []) (rest := []) hS hK hA hW hl.1 [0] [] (kX5_goesThrough l D cI cB a b L O ev n hM) (cwV 0 hts gX5_breaksNow_X5_goesThrough rfl rfl rfl (by decide +kernel) ⟨Nat.le_of_ble_eq_true rfl, Nat.le_of_ble_eq_true rfl⟩) (rfl : vwCl[5]? = some (RX5, TX5, 18)) (q0 := 0) rfl dX5_breaksNow_1 rfl rfl rfl rfl rfl (Nat.le_of_ble_eq_true rfl) ⟨Nat.le_of_ble_eq_true rfl, Nat.le_of_ble_eq_true rfl⟩ (fun v9 w9 H locs hq hW => ?_)
  obtain ⟨zrow_1, zbrk_1, znb_1, zhold_1, zmov_1, zbeh_1, rfl, rfl, hh_1⟩ := hq
  have hW : zW D A s.heap [zMod2 cI a (mm_beh_ (mm_mov_ (mm_hold_ (mm_nb_ (mm_brk_ (mm_row_ b (zrow_1)) (zbrk_1)) (znb_1)) (zhold_1)) (zmov_1)) (zbeh_1))] H locs := hW
  refine W.eq (g2 := F0 m 4 ls []) rfl ?_
  refine lv_aload_n hx hb dX5_breaksNow_4 rfl (lv_at hl 0 rfl) ?_
  refine va_get (D := D) (ci := 5) (v := .int (zI znb_1)) (C := RX5) (T := TX5) (N := 18) hx hb hts iX5_breaksNow_X5 hown hK.1 hW.1 0 rfl rfl 10 (by decide) (hts _ mX5_breaksNow_1) (fun _ h9 => h9) rfl dX5_breaksNow_5 ?_
  exact z_iret (v := znb_1) hx hb hr hlk hW dX5_breaksNow_8 (by
      exact ⟨znb_1, zrow_1, zbrk_1, znb_1, zhold_1, zmov_1, zbeh_1, rfl, rfl, by exact hh_1.2.1.2.1⟩)

abbrev qX5_breaksIfMoved (cI : ClassId) (a : Nat → Nat) (b : zM2) (y1 y2 y3 : Int) (L : List zPn) (O : List Int) (ev : Int) (j : Nat) (pq : zPn) : Option Value → List va_W → Prop := fun vq wq => ∃ (r : Int) (zall : Int → Int) (ztri : Int → Int) (zout : Int → Int) (zrow : Int → Int) (zbrk : Int → Int) (znb : Int) (zhold : Int → Int) (zmov : Int → Int) (zbeh : Int → Int), vq = some (.int (zI r)) ∧ wq = [zMod2 cI a (mm_beh_ (mm_mov_ (mm_hold_ (mm_nb_ (mm_brk_ (mm_row_ (mm_out_ (mm_tri_ (mm_all_ b zall) ztri) zout) zrow) zbrk) znb) zhold) zmov) zbeh)] ∧ (r = nbM (ordC L O) O j pq y2 y3 ∧ RM zall L O ev ∧ (0 ≤ r ∧ r ≤ 160))
set_option maxRecDepth 20000 in
theorem iX5_breaksIfMoved_X5 : ∀ w ∈ u_ws RX5 TX5 18, w ∈ wsX5_breaksIfMoved := by decide +kernel
set_option maxRecDepth 20000 in
theorem mX5_breaksIfMoved_1 : (.fieldLink RX5 7 "StoryPanelsModel" "all" "[I" : Cond) ∈ wsX5_breaksIfMoved := by decide +kernel
set_option maxRecDepth 20000 in
theorem mX5_breaksIfMoved_2 : (.fieldLink RX5 16 "StoryPanelsModel" "tried" "[I" : Cond) ∈ wsX5_breaksIfMoved := by decide +kernel
set_option maxHeartbeats 4000000 in
set_option maxRecDepth 100000 in
theorem kX5_breaksIfMoved (l : Launch) (D : va_G) (cI cB : ClassId) (a : Nat → Nat) (b : zM2) (y1 y2 y3 : Int) (L : List zPn) (O : List Int) (ev : Int) (j : Nat) (pq : zPn) (hM : RM (mm_all b) L O ev) (hj : isP (ordC L O) j pq y1) (hy1 : R32 y1) (hy2 : 0 ≤ y2 ∧ y2 < 5) (hy3 : 0 ≤ y3 ∧ y3 ≤ inC ((ordC L O).eraseIdx j) y2) : zMet l yX5_breaksIfMoved wsX5_breaksIfMoved 6 136 0 0 D cI cB [.ref (a 0), .int (zI y1), .int (zI y2), .int (zI y3)] [zMod2 cI a b] (qX5_breaksIfMoved cI a b y1 y2 y3 L O ev j pq) := by
  refine zMet.of (cd := cX5_breaksIfMoved) (maxL := 5) (ret := (some .int)) (by decide) rfl (Nat.le_of_ble_eq_true rfl) ?_
  intro p e s m args below meth c A ls hS hr hlk hnm hK hA hW hl
  have hS : CallFix p m c cX5_breaksIfMoved 5 s args wsX5_breaksIfMoved RX5 := hS
  have hx := hS.1
  have hb := hS.2.1
  have hown := hS.2.2.2.1
  have hts := hS.2.2.2.2
  have hl : lv_has ls 5 [(0, .ref (a 0)), (1, .int (zI y1)), (2, .int (zI y2)), (3, .int (zI y3))] := hl
  refine lv_aload_n hx hb dX5_breaksIfMoved_0 rfl (lv_at hl 0 rfl) ?_
  refine va_get (D := D) (ci := 5) (v := .ref (a 1)) (C := RX5) (T := TX5) (N := 18) hx hb hts iX5_breaksIfMoved_X5 hown hK.1 hW.1 0 rfl rfl 0 (by decide) (hts _ mX5_breaksIfMoved_1) (fun _ h9 => h9) rfl dX5_breaksIfMoved_1 ?_
  refine lv_aload_n hx hb dX5_breaksIfMoved_4 rfl (lv_at hl 0 rfl) ?_
  refine va_get (D := D) (ci := 5) (v := .ref (a 3)) (C := RX5) (T := TX5) (N := 18) hx hb hts iX5_breaksIfMoved_X5 hown hK.1 hW.1 0 rfl rfl 2 (by decide) (hts _ mX5_breaksIfMoved_2) (fun _ h9 => h9) rfl dX5_breaksIfMoved_5 ?_
  refine z_mcopy (g := mm_all b) (g2 := mm_tri b) (rest := []) (bs1 := [zMod2 cI a (mm_tri_ b (cpF (mm_all b) (mm_tri b) 227))]) hS hK hA hW hl.1 1 3 (by decide) rfl rfl (gX5_breaksIfMoved_X5_copy) ⟨Nat.le_of_ble_eq_true rfl, Nat.le_of_ble_eq_true rfl⟩ dX5_breaksIfMoved_8 rfl (Nat.le_of_ble_eq_true rfl) ⟨Nat.le_of_ble_eq_true rfl, Nat.le_of_ble_eq_true rfl⟩ (fun H locs hW => ?_)
  refine lv_aload_n hx hb dX5_breaksIfMoved_11 rfl (lv_at hl 0 rfl) ?_
  refine lv_iload_n hx hb dX5_breaksIfMoved_12 rfl (lv_at hl 1 rfl) ?_
  refine lv_iload_n hx hb dX5_breaksIfMoved_13 rfl (lv_at hl 2 rfl) ?_
  refine lv_iload_n hx hb dX5_breaksIfMoved_14 rfl (lv_at hl 3 rfl) ?_
  refine z_callV (r := (RX5, TX5, 18)) (As := [.int (zI y1), .int (zI y2), .int (zI y3)]) (rest := []) hS hK hA hW hl.1 [0] [] (kX5_moves l D cI cB a ((mm_tri_ b (cpF (mm_all b) (mm_tri b) 227))) y1 y2 y3 L O ev j pq hM hj hy1 hy2 hy3) (cwV 3 hts gX5_breaksIfMoved_X5_moves rfl rfl rfl (by decide +kernel) ⟨Nat.le_of_ble_eq_true rfl, Nat.le_of_ble_eq_true rfl⟩) (rfl : vwCl[5]? = some (RX5, TX5, 18)) (q0 := 0) rfl dX5_breaksIfMoved_15 rfl rfl rfl rfl rfl (Nat.le_of_ble_eq_true rfl) ⟨Nat.le_of_ble_eq_true rfl, Nat.le_of_ble_eq_true rfl⟩ (fun v9 w9 H locs hq hW => ?_)
  obtain ⟨zall_15, zout_15, rfl, rfl, hh_15⟩ := hq
  have hW : zW D A s.heap [zMod2 cI a (mm_out_ (mm_tri_ (mm_all_ b (zall_15)) (cpF (mm_all b) (mm_tri b) 227)) (zout_15))] H locs := hW
  refine W.eq (g2 := F0 m 18 ls []) rfl ?_
  obtain ⟨L2, hM2, he2⟩ := hh_15
  have hrg := nbM_rgM hM2 he2
  refine lv_aload_n hx hb dX5_breaksIfMoved_18 rfl (lv_at hl 0 rfl) ?_
  refine z_callV (r := (RX5, TX5, 18)) (As := []) (rest := []) hS hK hA hW hl.1 [0] [] (kX5_breaksNow l D cI cB a ((mm_out_ (mm_tri_ (mm_all_ b (zall_15)) (cpF (mm_all b) (mm_tri b) 227)) (zout_15))) L2 O ev ev hM2) (cwV 0 hts gX5_breaksIfMoved_X5_breaksNow rfl rfl rfl (by decide +kernel) ⟨Nat.le_of_ble_eq_true rfl, Nat.le_of_ble_eq_true rfl⟩) (rfl : vwCl[5]? = some (RX5, TX5, 18)) (q0 := 0) rfl dX5_breaksIfMoved_19 rfl rfl rfl rfl rfl (Nat.le_of_ble_eq_true rfl) ⟨Nat.le_of_ble_eq_true rfl, Nat.le_of_ble_eq_true rfl⟩ (fun v9 w9 H locs hq hW => ?_)
  obtain ⟨rr_19, zrow_19, zbrk_19, znb_19, zhold_19, zmov_19, zbeh_19, rfl, rfl, hh_19⟩ := hq
  have hW : zW D A s.heap [zMod2 cI a (mm_beh_ (mm_mov_ (mm_hold_ (mm_nb_ (mm_brk_ (mm_row_ (mm_out_ (mm_tri_ (mm_all_ b (zall_15)) (cpF (mm_all b) (mm_tri b) 227)) (zout_15)) (zrow_19)) (zbrk_19)) (znb_19)) (zhold_19)) (zmov_19)) (zbeh_19))] H locs := hW
  refine W.eq (g2 := F0 m 22 ls [.int (zI rr_19)]) rfl ?_
  rw [show rr_19 = (nbM (ordC L O) O j pq y2 y3) by rw [hh_19, he2]; rfl]
  refine lv_istore (lv' := [(4, .int (zI (nbM (ordC L O) O j pq y2 y3))), (0, .ref (a 0)), (1, .int (zI y1)), (2, .int (zI y2)), (3, .int (zI y3))]) hx hb dX5_breaksIfMoved_22 hl (by decide) rfl (fun ls hl => ?_)
  refine lv_aload_n hx hb dX5_breaksIfMoved_24 rfl (lv_at hl 1 rfl) ?_
  refine va_get (D := D) (ci := 5) (v := .ref (a 3)) (C := RX5) (T := TX5) (N := 18) hx hb hts iX5_breaksIfMoved_X5 hown hK.1 hW.1 0 rfl rfl 2 (by decide) (hts _ mX5_breaksIfMoved_2) (fun _ h9 => h9) rfl dX5_breaksIfMoved_25 ?_
  refine lv_aload_n hx hb dX5_breaksIfMoved_28 rfl (lv_at hl 1 rfl) ?_
  refine va_get (D := D) (ci := 5) (v := .ref (a 1)) (C := RX5) (T := TX5) (N := 18) hx hb hts iX5_breaksIfMoved_X5 hown hK.1 hW.1 0 rfl rfl 0 (by decide) (hts _ mX5_breaksIfMoved_1) (fun _ h9 => h9) rfl dX5_breaksIfMoved_29 ?_
  refine z_mcopy (g := cpF (mm_all b) (mm_tri b) 227) (g2 := zall_15) (rest := []) (bs1 := [zMod2 cI a (mm_beh_ (mm_mov_ (mm_hold_ (mm_nb_ (mm_brk_ (mm_row_ (mm_out_ (mm_tri_ (mm_all_ b (cpF (cpF (mm_all b) (mm_tri b) 227) zall_15 227)) (cpF (mm_all b) (mm_tri b) 227)) (zout_15)) (zrow_19)) (zbrk_19)) (znb_19)) (zhold_19)) (zmov_19)) (zbeh_19))]) hS hK hA hW hl.1 3 1 (by decide) rfl rfl (gX5_breaksIfMoved_X5_copy) ⟨Nat.le_of_ble_eq_true rfl, Nat.le_of_ble_eq_true rfl⟩ dX5_breaksIfMoved_32 rfl (Nat.le_of_ble_eq_true rfl) ⟨Nat.le_of_ble_eq_true rfl, Nat.le_of_ble_eq_true rfl⟩ (fun H locs hW => ?_)
  refine lv_iload hx hb dX5_breaksIfMoved_35 (lv_at hl 0 rfl) ?_
  exact z_iret (v := nbM (ordC L O) O j pq y2 y3) hx hb hr hlk hW dX5_breaksIfMoved_37 (by
      exact ⟨nbM (ordC L O) O j pq y2 y3, cpF (cpF (mm_all b) (mm_tri b) 227) zall_15 227, cpF (mm_all b) (mm_tri b) 227, zout_15, zrow_19, zbrk_19, znb_19, zhold_19, zmov_19, zbeh_19, rfl, rfl, by exact ⟨rfl, RM_cp2 hM, hrg⟩⟩)

abbrev qX5_lastPlace (cI : ClassId) (a : Nat → Nat) (b : zM2) (y1 y2 : Int) (L : List zPn) (O : List Int) (ev : Int) (n : Int) (k : Nat) (j : Nat) (pq : zPn) : Option Value → List va_W → Prop := fun vq wq => ∃ (r : Int), vq = some (.int (zI r)) ∧ wq = [zMod2 cI a b] ∧ (r = inC ((ordC L O).eraseIdx j) y2)
set_option maxHeartbeats 4000000 in
set_option maxRecDepth 100000 in
theorem kX5_lastPlace (l : Launch) (D : va_G) (cI cB : ClassId) (a : Nat → Nat) (b : zM2) (y1 y2 : Int) (L : List zPn) (O : List Int) (ev : Int) (n : Int) (k : Nat) (j : Nat) (pq : zPn) (hM : RMb (mm_all b) L O ev n) (hkq : lkP L O k j pq) (hy1 : y1 = (k : Int)) (hy2 : R32 y2) : zMet l yX5_lastPlace wsX5_lastPlace 2 45 0 0 D cI cB [.ref (a 0), .int (zI y1), .int (zI y2)] [zMod2 cI a b] (qX5_lastPlace cI a b y1 y2 L O ev n k j pq) := by
  refine zMet.of (cd := cX5_lastPlace) (maxL := 3) (ret := (some .int)) (by decide) rfl (Nat.le_of_ble_eq_true rfl) ?_
  intro p e s m args below meth c A ls hS hr hlk hnm hK hA hW hl
  have hS : CallFix p m c cX5_lastPlace 3 s args wsX5_lastPlace RX5 := hS
  have hx := hS.1
  have hb := hS.2.1
  have hown := hS.2.2.2.1
  have hts := hS.2.2.2.2
  have hl : lv_has ls 3 [(0, .ref (a 0)), (1, .int (zI y1)), (2, .int (zI y2))] := hl
  have hM1 := hM.2.1
  have hM3 := hM.2.2.1
  have hkl := (List.getElem?_eq_some_iff.mp hkq.1).1
  have hrq := hM.2.2.2.2.2.1 k pq hkq.1
  have hoq := (hM.2.2.2.2.2.2.1 pq (List.mem_of_getElem? hkq.1)).1.2.1
  have hie := inC_erM hkq.1 y2
  have hif := inC_er hM hkq y2
  have hin := inC_tk L 0 y2
  refine lv_aload_n hx hb dX5_lastPlace_0 rfl (lv_at hl 0 rfl) ?_
  refine lv_iload_n hx hb dX5_lastPlace_1 rfl (lv_at hl 2 rfl) ?_
  refine z_callV (r := (RX5, TX5, 18)) (As := [.int (zI y2)]) (rest := []) hS hK hA hW hl.1 [0] [] (kX5_panelsOf l D cI cB a b y2 L O ev n hM hy2) (cwV 1 hts gX5_lastPlace_X5_panelsOf rfl rfl rfl (by decide +kernel) ⟨Nat.le_of_ble_eq_true rfl, Nat.le_of_ble_eq_true rfl⟩) (rfl : vwCl[5]? = some (RX5, TX5, 18)) (q0 := 0) rfl dX5_lastPlace_2 rfl rfl rfl rfl rfl (Nat.le_of_ble_eq_true rfl) ⟨Nat.le_of_ble_eq_true rfl, Nat.le_of_ble_eq_true rfl⟩ (fun v9 w9 H locs hq hW => ?_)
  obtain ⟨rr_2, rfl, rfl, hh_2⟩ := hq
  subst rr_2
  have hW : zW D A s.heap [zMod2 cI a b] H locs := hW
  refine W.eq (g2 := F0 m 5 ls [.int (zI (inC L y2))]) rfl ?_
  refine lv_aload_n hx hb dX5_lastPlace_5 rfl (lv_at hl 0 rfl) ?_
  refine lv_iload_n hx hb dX5_lastPlace_6 rfl (lv_at hl 1 rfl) ?_
  refine lv_iconst (v := zI (1)) hx hb dX5_lastPlace_7 rfl ?_
  refine z_callV (r := (RX5, TX5, 18)) (As := [.int (zI y1), .int (zI 1)]) (rest := [.int (zI (inC L y2))]) hS hK hA hW hl.1 [0] [] (kX5_of l D cI cB a b y1 1 (by omega) (by omega)) (cwV 2 hts gX5_lastPlace_X5_of rfl rfl rfl (by decide +kernel) ⟨Nat.le_of_ble_eq_true rfl, Nat.le_of_ble_eq_true rfl⟩) (rfl : vwCl[5]? = some (RX5, TX5, 18)) (q0 := 0) rfl dX5_lastPlace_8 rfl rfl rfl rfl rfl (Nat.le_of_ble_eq_true rfl) ⟨Nat.le_of_ble_eq_true rfl, Nat.le_of_ble_eq_true rfl⟩ (fun v9 w9 H locs hq hW => ?_)
  obtain ⟨rr_8, rfl, rfl, hh_8⟩ := hq
  subst rr_8
  have hW : zW D A s.heap [zMod2 cI a b] H locs := hW
  refine W.eq (g2 := F0 m 11 ls [.int (zI (fL (mm_all b) y1 1)), .int (zI (inC L y2))]) rfl ?_
  rw [show (fL (mm_all b) y1 1) = pq.2.1 by exact (by rw [hy1]; exact hrq.2.1)]
  refine lv_iload_n hx hb dX5_lastPlace_11 rfl (lv_at hl 2 rfl) ?_
  refine z_icmp_ne (tgt := 19) hx hb dX5_lastPlace_12 (by decide) (by omega) (fun cc_12 => ?_) (fun cc_12 => ?_)
  · refine lv_iconst (v := zI (0)) hx hb dX5_lastPlace_19 rfl ?_
    refine z_isub hx hb dX5_lastPlace_20 ?_
    exact z_iret (v := (inC L y2) - 0) hx hb hr hlk hW dX5_lastPlace_21 (by
        exact ⟨(inC L y2) - 0, rfl, rfl, by (first | (rw [if_pos (by omega)] at hie; omega) | (rw [if_neg (by omega)] at hie; omega))⟩)
  · refine lv_iconst (v := zI (1)) hx hb dX5_lastPlace_15 rfl ?_
    refine lv_goto (tgt := 20) hx hb dX5_lastPlace_16 (by decide) ?_
    refine z_isub hx hb dX5_lastPlace_20 ?_
    exact z_iret (v := (inC L y2) - 1) hx hb hr hlk hW dX5_lastPlace_21 (by
        exact ⟨(inC L y2) - 1, rfl, rfl, by (first | (rw [if_pos (by omega)] at hie; omega) | (rw [if_neg (by omega)] at hie; omega))⟩)

abbrev qX5_bestPlaceOf (cI : ClassId) (a : Nat → Nat) (b : zM2) (y1 y2 : Int) (L : List zPn) (O : List Int) (ev : Int) (j : Nat) (pq : zPn) : Option Value → List va_W → Prop := fun vq wq => ∃ (r : Int) (zall : Int → Int) (ztri : Int → Int) (zout : Int → Int) (zrow : Int → Int) (zbrk : Int → Int) (znb : Int) (zhold : Int → Int) (zmov : Int → Int) (zbeh : Int → Int), vq = some (.int (zI r)) ∧ wq = [zMod2 cI a (mm_beh_ (mm_mov_ (mm_hold_ (mm_nb_ (mm_brk_ (mm_row_ (mm_out_ (mm_tri_ (mm_all_ b zall) ztri) zout) zrow) zbrk) znb) zhold) zmov) zbeh)] ∧ (r = bestC (ordC L O) O j pq y2 ∧ RM zall L O ev)
set_option maxHeartbeats 4000000 in
set_option maxRecDepth 100000 in
theorem kX5_bestPlaceOf (l : Launch) (D : va_G) (cI cB : ClassId) (a : Nat → Nat) (b : zM2) (y1 y2 : Int) (L : List zPn) (O : List Int) (ev : Int) (j : Nat) (pq : zPn) (hM : RM (mm_all b) L O ev) (hj : isP (ordC L O) j pq y1) (hy1 : R32 y1) (hy2 : 0 ≤ y2 ∧ y2 < 5) : zMet l yX5_bestPlaceOf wsX5_bestPlaceOf 7 160 0 0 D cI cB [.ref (a 0), .int (zI y1), .int (zI y2)] [zMod2 cI a b] (qX5_bestPlaceOf cI a b y1 y2 L O ev j pq) := by
  refine zMet.of (cd := cX5_bestPlaceOf) (maxL := 8) (ret := (some .int)) (by decide) rfl (Nat.le_of_ble_eq_true rfl) ?_
  intro p e s m args below meth c A ls hS hr hlk hnm hK hA hW hl
  have hS : CallFix p m c cX5_bestPlaceOf 8 s args wsX5_bestPlaceOf RX5 := hS
  have hx := hS.1
  have hb := hS.2.1
  have hown := hS.2.2.2.1
  have hts := hS.2.2.2.2
  have hl : lv_has ls 8 [(0, .ref (a 0)), (1, .int (zI y1)), (2, .int (zI y2))] := hl
  have hai := inC_tk ((ordC L O).eraseIdx j) 0 y2
  have hel : ((ordC L O).eraseIdx j).length = (ordC L O).length - 1 := List.length_eraseIdx_of_lt (List.getElem?_eq_some_iff.mp hj.1).1
  have hM3 := hM.2.2.1
  have hln := ordC_ln hM
  refine lv_iconst (v := zI (0)) hx hb dX5_bestPlaceOf_0 rfl ?_
  refine lv_istore_n (lv' := [(3, .int (zI 0)), (0, .ref (a 0)), (1, .int (zI y1)), (2, .int (zI y2))]) hx hb dX5_bestPlaceOf_1 rfl hl (by decide) rfl (fun ls hl => ?_)
  refine lv_aload_n hx hb dX5_bestPlaceOf_2 rfl (lv_at hl 1 rfl) ?_
  refine lv_iload_n hx hb dX5_bestPlaceOf_3 rfl (lv_at hl 2 rfl) ?_
  refine lv_iload_n hx hb dX5_bestPlaceOf_4 rfl (lv_at hl 3 rfl) ?_
  refine lv_iconst (v := zI (0)) hx hb dX5_bestPlaceOf_5 rfl ?_
  refine z_callV (r := (RX5, TX5, 18)) (As := [.int (zI y1), .int (zI y2), .int (zI 0)]) (rest := []) hS hK hA hW hl.1 [0] [] (kX5_breaksIfMoved l D cI cB a b y1 y2 0 L O ev j pq hM hj hy1 hy2 (by omega)) (cwV 3 hts gX5_bestPlaceOf_X5_breaksIfMoved rfl rfl rfl (by decide +kernel) ⟨Nat.le_of_ble_eq_true rfl, Nat.le_of_ble_eq_true rfl⟩) (rfl : vwCl[5]? = some (RX5, TX5, 18)) (q0 := 0) rfl dX5_bestPlaceOf_6 rfl rfl rfl rfl rfl (Nat.le_of_ble_eq_true rfl) ⟨Nat.le_of_ble_eq_true rfl, Nat.le_of_ble_eq_true rfl⟩ (fun v9 w9 H locs hq hW => ?_)
  obtain ⟨rr_6, zall_6, ztri_6, zout_6, zrow_6, zbrk_6, znb_6, zhold_6, zmov_6, zbeh_6, rfl, rfl, hh_6⟩ := hq
  have hW : zW D A s.heap [zMod2 cI a (mm_beh_ (mm_mov_ (mm_hold_ (mm_nb_ (mm_brk_ (mm_row_ (mm_out_ (mm_tri_ (mm_all_ b (zall_6)) (ztri_6)) (zout_6)) (zrow_6)) (zbrk_6)) (znb_6)) (zhold_6)) (zmov_6)) (zbeh_6))] H locs := hW
  refine W.eq (g2 := F0 m 9 ls [.int (zI rr_6)]) rfl ?_
  have hM2 := hh_6.2.1
  have hr6 := hh_6.2.2
  rw [show rr_6 = (nbM (ordC L O) O j pq y2 0) by exact hh_6.1]
  refine lv_istore (lv' := [(4, .int (zI (nbM (ordC L O) O j pq y2 0))), (3, .int (zI 0)), (0, .ref (a 0)), (1, .int (zI y1)), (2, .int (zI y2))]) hx hb dX5_bestPlaceOf_9 hl (by decide) rfl (fun ls hl => ?_)
  refine lv_aload_n hx hb dX5_bestPlaceOf_11 rfl (lv_at hl 2 rfl) ?_
  refine lv_aload_n hx hb dX5_bestPlaceOf_12 rfl (lv_at hl 2 rfl) ?_
  refine lv_iload_n hx hb dX5_bestPlaceOf_13 rfl (lv_at hl 3 rfl) ?_
  refine z_callV (r := (RX5, TX5, 18)) (As := [.int (zI y1)]) (rest := [.ref (a 0)]) hS hK hA hW hl.1 [0] [] (kX5_lieOf l D cI cB a ((mm_beh_ (mm_mov_ (mm_hold_ (mm_nb_ (mm_brk_ (mm_row_ (mm_out_ (mm_tri_ (mm_all_ b (zall_6)) (ztri_6)) (zout_6)) (zrow_6)) (zbrk_6)) (znb_6)) (zhold_6)) (zmov_6)) (zbeh_6))) y1 L O ev ev hM2 hy1) (cwV 1 hts gX5_bestPlaceOf_X5_lieOf rfl rfl rfl (by decide +kernel) ⟨Nat.le_of_ble_eq_true rfl, Nat.le_of_ble_eq_true rfl⟩) (rfl : vwCl[5]? = some (RX5, TX5, 18)) (q0 := 0) rfl dX5_bestPlaceOf_14 rfl rfl rfl rfl rfl (Nat.le_of_ble_eq_true rfl) ⟨Nat.le_of_ble_eq_true rfl, Nat.le_of_ble_eq_true rfl⟩ (fun v9 w9 H locs hq hW => ?_)
  obtain ⟨rr_14, rfl, rfl, hh_14⟩ := hq
  have hW : zW D A s.heap [zMod2 cI a (mm_beh_ (mm_mov_ (mm_hold_ (mm_nb_ (mm_brk_ (mm_row_ (mm_out_ (mm_tri_ (mm_all_ b (zall_6)) (ztri_6)) (zout_6)) (zrow_6)) (zbrk_6)) (znb_6)) (zhold_6)) (zmov_6)) (zbeh_6))] H locs := hW
  refine W.eq (g2 := F0 m 17 ls [.int (zI rr_14), .ref (a 0)]) rfl ?_
  obtain ⟨kq, hkq, hrq, -⟩ := lie_j hM2 hh_14 hj
  clear hh_14
  refine lv_iload_n hx hb dX5_bestPlaceOf_17 rfl (lv_at hl 4 rfl) ?_
  refine z_callV (r := (RX5, TX5, 18)) (As := [.int (zI rr_14), .int (zI y2)]) (rest := []) hS hK hA hW hl.1 [0] [] (kX5_lastPlace l D cI cB a ((mm_beh_ (mm_mov_ (mm_hold_ (mm_nb_ (mm_brk_ (mm_row_ (mm_out_ (mm_tri_ (mm_all_ b (zall_6)) (ztri_6)) (zout_6)) (zrow_6)) (zbrk_6)) (znb_6)) (zhold_6)) (zmov_6)) (zbeh_6))) rr_14 y2 L O ev ev kq j pq hM2 hkq hrq (by omega)) (cwV 2 hts gX5_bestPlaceOf_X5_lastPlace rfl rfl rfl (by decide +kernel) ⟨Nat.le_of_ble_eq_true rfl, Nat.le_of_ble_eq_true rfl⟩) (rfl : vwCl[5]? = some (RX5, TX5, 18)) (q0 := 0) rfl dX5_bestPlaceOf_18 rfl rfl rfl rfl rfl (Nat.le_of_ble_eq_true rfl) ⟨Nat.le_of_ble_eq_true rfl, Nat.le_of_ble_eq_true rfl⟩ (fun v9 w9 H locs hq hW => ?_)
  obtain ⟨rr_18, rfl, rfl, hh_18⟩ := hq
  subst rr_18
  have hW : zW D A s.heap [zMod2 cI a (mm_beh_ (mm_mov_ (mm_hold_ (mm_nb_ (mm_brk_ (mm_row_ (mm_out_ (mm_tri_ (mm_all_ b (zall_6)) (ztri_6)) (zout_6)) (zrow_6)) (zbrk_6)) (znb_6)) (zhold_6)) (zmov_6)) (zbeh_6))] H locs := hW
  refine W.eq (g2 := F0 m 21 ls [.int (zI (inC ((ordC L O).eraseIdx j) y2))]) rfl ?_
  refine lv_istore (lv' := [(5, .int (zI (inC ((ordC L O).eraseIdx j) y2))), (4, .int (zI (nbM (ordC L O) O j pq y2 0))), (3, .int (zI 0)), (0, .ref (a 0)), (1, .int (zI y1)), (2, .int (zI y2))]) hx hb dX5_bestPlaceOf_21 hl (by decide) rfl (fun ls hl => ?_)
  refine lv_iconst (v := zI (1)) hx hb dX5_bestPlaceOf_23 rfl ?_
  refine lv_istore (lv' := [(6, .int (zI 1)), (5, .int (zI (inC ((ordC L O).eraseIdx j) y2))), (4, .int (zI (nbM (ordC L O) O j pq y2 0))), (3, .int (zI 0)), (0, .ref (a 0)), (1, .int (zI y1)), (2, .int (zI y2))]) hx hb dX5_bestPlaceOf_24 hl (by decide) rfl (fun ls hl => ?_)
  have L26 : ∀ (fu : Nat) (bst : Int) (few : Int) (kp : Int) (all9 : Int → Int) (tri9 : Int → Int) (out9 : Int → Int) (row9 : Int → Int) (nb9 : Int) (brk9 : Int → Int) (hold9 : Int → Int) (mov9 : Int → Int) (beh9 : Int → Int), (1 ≤ kp ∧ kp ≤ inC ((ordC L O).eraseIdx j) y2 + 1) → (RM all9 L O ev) → ((bst, few) = bestF (nbM (ordC L O) O j pq y2) (kp - 1).toNat) → (0 ≤ few ∧ few ≤ 160) → (inC ((ordC L O).eraseIdx j) y2 + 1 - kp) < (fu : Int) → ∀ (H : Heap) (locs : List Loc), zW D A s.heap [zMod2 cI a (mm_beh_ (mm_mov_ (mm_hold_ (mm_nb_ (mm_brk_ (mm_row_ (mm_out_ (mm_tri_ (mm_all_ b (all9)) (tri9)) (out9)) (row9)) (brk9)) (nb9)) (hold9)) (mov9)) (beh9))] H locs → ∀ (ls : Array Slot), lv_has ls 8 [(0, .ref (a 0)), (1, .int (zI y1)), (2, .int (zI y2)), (3, .int (zI bst)), (4, .int (zI few)), (5, .int (zI (inC ((ordC L O).eraseIdx j) y2))), (6, .int (zI kp))] → W p l e { frames := 7, cells := 0, slots := 0, locals := 160 } s m args below meth c H locs 0 0 (MQ below (zQ A D (qX5_bestPlaceOf cI a b y1 y2 L O ev j pq)) args s 0 0 A) (F0 m 26 ls []) := by
    intro fu
    induction fu with
    | zero => intro bst few kp all9 tri9 out9 row9 nb9 brk9 hold9 mov9 beh9 hkp hM4 hbf hfw hm; exact absurd hm (by omega)
    | succ fu ih26 =>
      intro bst few kp all9 tri9 out9 row9 nb9 brk9 hold9 mov9 beh9 hkp hM4 hbf hfw hm H locs hW ls hl
      refine lv_iload hx hb dX5_bestPlaceOf_26 (lv_at hl 6 rfl) ?_
      refine lv_iload hx hb dX5_bestPlaceOf_28 (lv_at hl 5 rfl) ?_
      refine z_icmp_gt (tgt := 79) hx hb dX5_bestPlaceOf_30 (by decide) (by omega) (fun cc_30 => ?_) (fun cc_30 => ?_)
      · refine lv_iload_n hx hb dX5_bestPlaceOf_79 rfl (lv_at hl 3 rfl) ?_
        exact z_iret (v := bst) hx hb hr hlk hW dX5_bestPlaceOf_80 (by
            exact ⟨bst, all9, tri9, out9, row9, brk9, nb9, hold9, mov9, beh9, rfl, rfl, by exact ⟨by unfold bestC; rw [show (inC ((ordC L O).eraseIdx j) y2).toNat = (kp - 1).toNat by omega, ← hbf], hM4⟩⟩)
      · refine lv_aload_n hx hb dX5_bestPlaceOf_33 rfl (lv_at hl 0 rfl) ?_
        refine lv_iload_n hx hb dX5_bestPlaceOf_34 rfl (lv_at hl 1 rfl) ?_
        refine lv_iload_n hx hb dX5_bestPlaceOf_35 rfl (lv_at hl 2 rfl) ?_
        refine lv_iload hx hb dX5_bestPlaceOf_36 (lv_at hl 6 rfl) ?_
        refine z_callV (r := (RX5, TX5, 18)) (As := [.int (zI y1), .int (zI y2), .int (zI kp)]) (rest := []) hS hK hA hW hl.1 [0] [] (kX5_breaksIfMoved l D cI cB a ((mm_beh_ (mm_mov_ (mm_hold_ (mm_nb_ (mm_brk_ (mm_row_ (mm_out_ (mm_tri_ (mm_all_ b (all9)) (tri9)) (out9)) (row9)) (brk9)) (nb9)) (hold9)) (mov9)) (beh9))) y1 y2 kp L O ev j pq hM4 hj hy1 hy2 (by omega)) (cwV 3 hts gX5_bestPlaceOf_X5_breaksIfMoved rfl rfl rfl (by decide +kernel) ⟨Nat.le_of_ble_eq_true rfl, Nat.le_of_ble_eq_true rfl⟩) (rfl : vwCl[5]? = some (RX5, TX5, 18)) (q0 := 0) rfl dX5_bestPlaceOf_38 rfl rfl rfl rfl rfl (Nat.le_of_ble_eq_true rfl) ⟨Nat.le_of_ble_eq_true rfl, Nat.le_of_ble_eq_true rfl⟩ (fun v9 w9 H locs hq hW => ?_)
        obtain ⟨rr_38, zall_38, ztri_38, zout_38, zrow_38, zbrk_38, znb_38, zhold_38, zmov_38, zbeh_38, rfl, rfl, hh_38⟩ := hq
        have hW : zW D A s.heap [zMod2 cI a (mm_beh_ (mm_mov_ (mm_hold_ (mm_nb_ (mm_brk_ (mm_row_ (mm_out_ (mm_tri_ (mm_all_ b (zall_38)) (ztri_38)) (zout_38)) (zrow_38)) (zbrk_38)) (znb_38)) (zhold_38)) (zmov_38)) (zbeh_38))] H locs := hW
        refine W.eq (g2 := F0 m 41 ls [.int (zI rr_38)]) rfl ?_
        have hM5 := hh_38.2.1
        have hr7 := hh_38.2.2
        rw [show rr_38 = (nbM (ordC L O) O j pq y2 kp) by exact hh_38.1]
        refine lv_istore (lv' := [(7, .int (zI (nbM (ordC L O) O j pq y2 kp))), (0, .ref (a 0)), (1, .int (zI y1)), (2, .int (zI y2)), (3, .int (zI bst)), (4, .int (zI few)), (5, .int (zI (inC ((ordC L O).eraseIdx j) y2))), (6, .int (zI kp))]) hx hb dX5_bestPlaceOf_41 hl (by decide) rfl (fun ls hl => ?_)
        refine lv_iload hx hb dX5_bestPlaceOf_43 (lv_at hl 0 rfl) ?_
        refine lv_iload hx hb dX5_bestPlaceOf_45 (lv_at hl 5 rfl) ?_
        refine z_icmp_ge (tgt := 55) hx hb dX5_bestPlaceOf_47 (by decide) (by omega) (fun cc_47 => ?_) (fun cc_47 => ?_)
        · refine lv_iload_n hx hb dX5_bestPlaceOf_55 rfl (lv_at hl 4 rfl) ?_
          refine lv_istore_n (lv' := [(3, .int (zI bst)), (7, .int (zI (nbM (ordC L O) O j pq y2 kp))), (0, .ref (a 0)), (1, .int (zI y1)), (2, .int (zI y2)), (4, .int (zI few)), (5, .int (zI (inC ((ordC L O).eraseIdx j) y2))), (6, .int (zI kp))]) hx hb dX5_bestPlaceOf_56 rfl hl (by decide) rfl (fun ls hl => ?_)
          refine lv_iload hx hb dX5_bestPlaceOf_57 (lv_at hl 1 rfl) ?_
          refine lv_iload hx hb dX5_bestPlaceOf_59 (lv_at hl 5 rfl) ?_
          refine z_icmp_ge (tgt := 69) hx hb dX5_bestPlaceOf_61 (by decide) (by omega) (fun cc_61 => ?_) (fun cc_61 => ?_)
          · refine lv_iload hx hb dX5_bestPlaceOf_69 (lv_at hl 5 rfl) ?_
            refine lv_istore (lv' := [(4, .int (zI few)), (3, .int (zI bst)), (7, .int (zI (nbM (ordC L O) O j pq y2 kp))), (0, .ref (a 0)), (1, .int (zI y1)), (2, .int (zI y2)), (5, .int (zI (inC ((ordC L O).eraseIdx j) y2))), (6, .int (zI kp))]) hx hb dX5_bestPlaceOf_71 hl (by decide) rfl (fun ls hl => ?_)
            refine z_iinc (x := kp) (lv' := [(6, .int (zI (kp + 1))), (4, .int (zI few)), (3, .int (zI bst)), (7, .int (zI (nbM (ordC L O) O j pq y2 kp))), (0, .ref (a 0)), (1, .int (zI y1)), (2, .int (zI y2)), (5, .int (zI (inC ((ordC L O).eraseIdx j) y2)))]) hx hb dX5_bestPlaceOf_73 hl (k := 7) rfl (by decide) rfl (fun ls hl => ?_)
            refine lv_goto (tgt := 26) hx hb dX5_bestPlaceOf_76 (by decide) ?_
            exact ih26 bst few (kp + 1) zall_38 ztri_38 zout_38 zrow_38 znb_38 zbrk_38 zhold_38 zmov_38 zbeh_38 (by omega) (by exact hM5) (by rw [bestF_s _ hkp.1, ← hbf]; first | (rw [if_pos (by exact cc_47)]; done) | (rw [if_neg (by exact Int.not_lt.mpr cc_47)]; done)) (by first | exact hfw | (rw [hh_38.1] at hr7; exact hr7)) (by omega) _ _ hW ls (lv_sub hl [4, 5, 6, 2, 1, 7, 0] rfl)
          · exfalso; omega
        · refine lv_iload hx hb dX5_bestPlaceOf_50 (lv_at hl 7 rfl) ?_
          refine lv_goto (tgt := 56) hx hb dX5_bestPlaceOf_52 (by decide) ?_
          refine lv_istore_n (lv' := [(3, .int (zI kp)), (7, .int (zI (nbM (ordC L O) O j pq y2 kp))), (0, .ref (a 0)), (1, .int (zI y1)), (2, .int (zI y2)), (4, .int (zI few)), (5, .int (zI (inC ((ordC L O).eraseIdx j) y2))), (6, .int (zI kp))]) hx hb dX5_bestPlaceOf_56 rfl hl (by decide) rfl (fun ls hl => ?_)
          refine lv_iload hx hb dX5_bestPlaceOf_57 (lv_at hl 1 rfl) ?_
          refine lv_iload hx hb dX5_bestPlaceOf_59 (lv_at hl 5 rfl) ?_
          refine z_icmp_ge (tgt := 69) hx hb dX5_bestPlaceOf_61 (by decide) (by omega) (fun cc_61 => ?_) (fun cc_61 => ?_)
          · exfalso; omega
          · refine lv_iload hx hb dX5_bestPlaceOf_64 (lv_at hl 1 rfl) ?_
            refine lv_goto (tgt := 71) hx hb dX5_bestPlaceOf_66 (by decide) ?_
            refine lv_istore (lv' := [(4, .int (zI (nbM (ordC L O) O j pq y2 kp))), (3, .int (zI kp)), (7, .int (zI (nbM (ordC L O) O j pq y2 kp))), (0, .ref (a 0)), (1, .int (zI y1)), (2, .int (zI y2)), (5, .int (zI (inC ((ordC L O).eraseIdx j) y2))), (6, .int (zI kp))]) hx hb dX5_bestPlaceOf_71 hl (by decide) rfl (fun ls hl => ?_)
            refine z_iinc (x := kp) (lv' := [(6, .int (zI (kp + 1))), (4, .int (zI (nbM (ordC L O) O j pq y2 kp))), (3, .int (zI kp)), (7, .int (zI (nbM (ordC L O) O j pq y2 kp))), (0, .ref (a 0)), (1, .int (zI y1)), (2, .int (zI y2)), (5, .int (zI (inC ((ordC L O).eraseIdx j) y2)))]) hx hb dX5_bestPlaceOf_73 hl (k := 7) rfl (by decide) rfl (fun ls hl => ?_)
            refine lv_goto (tgt := 26) hx hb dX5_bestPlaceOf_76 (by decide) ?_
            exact ih26 kp (nbM (ordC L O) O j pq y2 kp) (kp + 1) zall_38 ztri_38 zout_38 zrow_38 znb_38 zbrk_38 zhold_38 zmov_38 zbeh_38 (by omega) (by exact hM5) (by rw [bestF_s _ hkp.1, ← hbf]; first | (rw [if_pos (by exact cc_47)]; done) | (rw [if_neg (by exact Int.not_lt.mpr cc_47)]; done)) (by first | exact hfw | (rw [hh_38.1] at hr7; exact hr7)) (by omega) _ _ hW ls (lv_sub hl [4, 5, 6, 2, 1, 7, 0] rfl)
  exact L26 (((inC ((ordC L O).eraseIdx j) y2 + 1 - 1) : Int).toNat + 1) 0 (nbM (ordC L O) O j pq y2 0) 1 zall_6 ztri_6 zout_6 zrow_6 znb_6 zbrk_6 zhold_6 zmov_6 zbeh_6 (by omega) (by exact hM2) (by rfl) (by (rw [hh_6.1] at hr6; exact hr6)) (by omega) _ _ hW ls (lv_sub hl [4, 5, 6, 3, 2, 1, 0] rfl)
