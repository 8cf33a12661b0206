abbrev qX5_breaks (cI : ClassId) (a : Nat → Nat) (b : zM2) (y1 y2 y3 y4 y5 : Int) (g : zGs) (num : Int) : Option Value → List va_W → Prop := fun vq wq => ∃ (zbrk : Int → Int) (znb : Int), vq = none ∧ wq = [zMod2 cI a (mm_nb_ (mm_brk_ b zbrk) znb)] ∧ (RCm (mm_hold b) (mm_mov b) znb zbrk (g.1, g.2.1, g.2.2 ++ [(num, y2, y3, y4, y5)]))
set_option maxRecDepth 20000 in
theorem iX5_breaks_X5 : ∀ w ∈ u_ws RX5 TX5 18, w ∈ wsX5_breaks := by decide +kernel
set_option maxRecDepth 20000 in
theorem mX5_breaks_1 : (.fieldLink RX5 78 "StoryPanelsModel" "breaks" "I" : Cond) ∈ wsX5_breaks := by decide +kernel
set_option maxRecDepth 20000 in
theorem mX5_breaks_2 : (.fieldLink RX5 31 "StoryPanelsModel" "broken" "[I" : Cond) ∈ wsX5_breaks := by decide +kernel
set_option maxHeartbeats 4000000 in
set_option maxRecDepth 100000 in
theorem kX5_breaks (l : Launch) (D : va_G) (cI cB : ClassId) (a : Nat → Nat) (b : zM2) (y1 y2 y3 y4 y5 : Int) (g : zGs) (num : Int) (hy1 : 0 ≤ y1 ∧ y1 < 10) (hnq : fL (mm_all b) y1 0 = num) (hRC : RCm (mm_hold b) (mm_mov b) (mm_nb b) (mm_brk b) g) (hlen : g.2.2.length < 170) : zMet l yX5_breaks wsX5_breaks 1 22 0 0 D cI cB [.ref (a 0), .int (zI y1), .int (zI y2), .int (zI y3), .int (zI y4), .int (zI y5)] [zMod2 cI a b] (qX5_breaks cI a b y1 y2 y3 y4 y5 g num) := by
  refine zMet.of (cd := cX5_breaks) (maxL := 7) (ret := none) (by decide) rfl (Nat.le_of_ble_eq_true rfl) ?_
  intro p e s m args below meth c A ls hS hr hlk hnm hK hA hW hl
  have hS : CallFix p m c cX5_breaks 7 s args wsX5_breaks RX5 := hS
  have hx := hS.1
  have hb := hS.2.1
  have hown := hS.2.2.2.1
  have hts := hS.2.2.2.2
  have hl : lv_has ls 7 [(0, .ref (a 0)), (1, .int (zI y1)), (2, .int (zI y2)), (3, .int (zI y3)), (4, .int (zI y4)), (5, .int (zI y5))] := hl
  have hnb := hRC.1.2.1
  refine lv_iconst (v := zI (5)) hx hb dX5_breaks_0 rfl ?_
  refine lv_aload_n hx hb dX5_breaks_1 rfl (lv_at hl 0 rfl) ?_
  refine va_get (D := D) (ci := 5) (v := .int (zI (mm_nb b))) (C := RX5) (T := TX5) (N := 18) hx hb hts iX5_breaks_X5 hown hK.1 hW.1 0 rfl rfl 10 (by decide) (hts _ mX5_breaks_1) (fun _ h9 => h9) rfl dX5_breaks_2 ?_
  refine z_imul hx hb dX5_breaks_5 ?_
  refine lv_istore (lv' := [(6, .int (zI (5 * (mm_nb b)))), (0, .ref (a 0)), (1, .int (zI y1)), (2, .int (zI y2)), (3, .int (zI y3)), (4, .int (zI y4)), (5, .int (zI y5))]) hx hb dX5_breaks_6 hl (by decide) rfl (fun ls hl => ?_)
  refine lv_aload_n hx hb dX5_breaks_8 rfl (lv_at hl 1 rfl) ?_
  refine va_get (D := D) (ci := 5) (v := .ref (a 8)) (C := RX5) (T := TX5) (N := 18) hx hb hts iX5_breaks_X5 hown hK.1 hW.1 0 rfl rfl 9 (by decide) (hts _ mX5_breaks_2) (fun _ h9 => h9) rfl dX5_breaks_9 ?_
  refine lv_iload hx hb dX5_breaks_12 (lv_at hl 0 rfl) ?_
  refine lv_aload_n hx hb dX5_breaks_14 rfl (lv_at hl 1 rfl) ?_
  refine lv_iload_n hx hb dX5_breaks_15 rfl (lv_at hl 2 rfl) ?_
  refine lv_iconst (v := zI (0)) hx hb dX5_breaks_16 rfl ?_
  refine z_callV (r := (RX5, TX5, 18)) (As := [.int (zI y1), .int (zI 0)]) (rest := [.int (zI (5 * (mm_nb b))), .ref (a 8)]) hS hK hA hW hl.1 [0] [] (kX5_of l D cI cB a b y1 0 (by omega) (by omega)) (cwV 2 hts gX5_breaks_X5_of rfl rfl rfl (by decide +kernel) ⟨Nat.le_of_ble_eq_true rfl, Nat.le_of_ble_eq_true rfl⟩) (rfl : vwCl[5]? = some (RX5, TX5, 18)) (q0 := 0) rfl dX5_breaks_17 rfl rfl rfl rfl rfl (Nat.le_of_ble_eq_true rfl) ⟨Nat.le_of_ble_eq_true rfl, Nat.le_of_ble_eq_true rfl⟩ (fun v9 w9 H locs hq hW => ?_)
  obtain ⟨rr_17, rfl, rfl, hh_17⟩ := hq
  subst rr_17
  have hW : zW D A s.heap [zMod2 cI a b] H locs := hW
  refine W.eq (g2 := F0 m 20 ls [.int (zI (fL (mm_all b) y1 0)), .int (zI (5 * (mm_nb b))), .ref (a 8)]) rfl ?_
  rw [show (fL (mm_all b) y1 0) = num by exact hnq]
  refine z_iast (n := 850) (g := mm_brk b) (bs1 := [zMod2 cI a (mm_brk_ b (zU (mm_brk b) (5 * (mm_nb b)) num))]) hx hb hK hW 8 rfl dX5_breaks_20 (by omega) rfl (fun H locs hW => ?_)
  refine lv_aload_n hx hb dX5_breaks_21 rfl (lv_at hl 1 rfl) ?_
  refine va_get (D := D) (ci := 5) (v := .ref (a 8)) (C := RX5) (T := TX5) (N := 18) hx hb hts iX5_breaks_X5 hown hK.1 hW.1 0 rfl rfl 9 (by decide) (hts _ mX5_breaks_2) (fun _ h9 => h9) rfl dX5_breaks_22 ?_
  refine lv_iload hx hb dX5_breaks_25 (lv_at hl 0 rfl) ?_
  refine lv_iconst (v := zI (1)) hx hb dX5_breaks_27 rfl ?_
  refine z_iadd hx hb dX5_breaks_28 ?_
  refine lv_iload_n hx hb dX5_breaks_29 rfl (lv_at hl 3 rfl) ?_
  refine z_iast (n := 850) (g := zU (mm_brk b) (5 * (mm_nb b)) num) (bs1 := [zMod2 cI a (mm_brk_ b (zU (zU (mm_brk b) (5 * (mm_nb b)) num) ((5 * (mm_nb b)) + 1) y2))]) hx hb hK hW 8 rfl dX5_breaks_30 (by omega) rfl (fun H locs hW => ?_)
  refine lv_aload_n hx hb dX5_breaks_31 rfl (lv_at hl 1 rfl) ?_
  refine va_get (D := D) (ci := 5) (v := .ref (a 8)) (C := RX5) (T := TX5) (N := 18) hx hb hts iX5_breaks_X5 hown hK.1 hW.1 0 rfl rfl 9 (by decide) (hts _ mX5_breaks_2) (fun _ h9 => h9) rfl dX5_breaks_32 ?_
  refine lv_iload hx hb dX5_breaks_35 (lv_at hl 0 rfl) ?_
  refine lv_iconst (v := zI (2)) hx hb dX5_breaks_37 rfl ?_
  refine z_iadd hx hb dX5_breaks_38 ?_
  refine lv_iload_n hx hb dX5_breaks_39 rfl (lv_at hl 4 rfl) ?_
  refine z_iast (n := 850) (g := zU (zU (mm_brk b) (5 * (mm_nb b)) num) ((5 * (mm_nb b)) + 1) y2) (bs1 := [zMod2 cI a (mm_brk_ b (zU (zU (zU (mm_brk b) (5 * (mm_nb b)) num) ((5 * (mm_nb b)) + 1) y2) ((5 * (mm_nb b)) + 2) y3))]) hx hb hK hW 8 rfl dX5_breaks_40 (by omega) rfl (fun H locs hW => ?_)
  refine lv_aload_n hx hb dX5_breaks_41 rfl (lv_at hl 1 rfl) ?_
  refine va_get (D := D) (ci := 5) (v := .ref (a 8)) (C := RX5) (T := TX5) (N := 18) hx hb hts iX5_breaks_X5 hown hK.1 hW.1 0 rfl rfl 9 (by decide) (hts _ mX5_breaks_2) (fun _ h9 => h9) rfl dX5_breaks_42 ?_
  refine lv_iload hx hb dX5_breaks_45 (lv_at hl 0 rfl) ?_
  refine lv_iconst (v := zI (3)) hx hb dX5_breaks_47 rfl ?_
  refine z_iadd hx hb dX5_breaks_48 ?_
  refine lv_iload hx hb dX5_breaks_49 (lv_at hl 5 rfl) ?_
  refine z_iast (n := 850) (g := zU (zU (zU (mm_brk b) (5 * (mm_nb b)) num) ((5 * (mm_nb b)) + 1) y2) ((5 * (mm_nb b)) + 2) y3) (bs1 := [zMod2 cI a (mm_brk_ b (zU (zU (zU (zU (mm_brk b) (5 * (mm_nb b)) num) ((5 * (mm_nb b)) + 1) y2) ((5 * (mm_nb b)) + 2) y3) ((5 * (mm_nb b)) + 3) y4))]) hx hb hK hW 8 rfl dX5_breaks_51 (by omega) rfl (fun H locs hW => ?_)
  refine lv_aload_n hx hb dX5_breaks_52 rfl (lv_at hl 1 rfl) ?_
  refine va_get (D := D) (ci := 5) (v := .ref (a 8)) (C := RX5) (T := TX5) (N := 18) hx hb hts iX5_breaks_X5 hown hK.1 hW.1 0 rfl rfl 9 (by decide) (hts _ mX5_breaks_2) (fun _ h9 => h9) rfl dX5_breaks_53 ?_
  refine lv_iload hx hb dX5_breaks_56 (lv_at hl 0 rfl) ?_
  refine lv_iconst (v := zI (4)) hx hb dX5_breaks_58 rfl ?_
  refine z_iadd hx hb dX5_breaks_59 ?_
  refine lv_iload hx hb dX5_breaks_60 (lv_at hl 6 rfl) ?_
  refine z_iast (n := 850) (g := zU (zU (zU (zU (mm_brk b) (5 * (mm_nb b)) num) ((5 * (mm_nb b)) + 1) y2) ((5 * (mm_nb b)) + 2) y3) ((5 * (mm_nb b)) + 3) y4) (bs1 := [zMod2 cI a (mm_brk_ b (zU (zU (zU (zU (zU (mm_brk b) (5 * (mm_nb b)) num) ((5 * (mm_nb b)) + 1) y2) ((5 * (mm_nb b)) + 2) y3) ((5 * (mm_nb b)) + 3) y4) ((5 * (mm_nb b)) + 4) y5))]) hx hb hK hW 8 rfl dX5_breaks_62 (by omega) rfl (fun H locs hW => ?_)
  refine lv_aload_n hx hb dX5_breaks_63 rfl (lv_at hl 1 rfl) ?_
  refine lv_dup hx hb dX5_breaks_64 rfl ?_
  refine va_get (D := D) (ci := 5) (v := .int (zI (mm_nb b))) (C := RX5) (T := TX5) (N := 18) hx hb hts iX5_breaks_X5 hown hK.1 hW.1 0 rfl rfl 10 (by decide) (hts _ mX5_breaks_1) (fun _ h9 => h9) rfl dX5_breaks_65 ?_
  refine lv_iconst (v := zI (1)) hx hb dX5_breaks_68 rfl ?_
  refine z_iadd hx hb dX5_breaks_69 ?_
  refine va_put (D := D) (ci := 5) (v := .int (zI ((mm_nb b) + 1))) (ty := .int) (C := RX5) (T := TX5) (N := 18) hx hb hts iX5_breaks_X5 tyX5 tyX5_ok nmX5 hown hK.1 hW.1 hW.2.1 hW.2.2 0 rfl rfl 10 (by decide) (hts _ mX5_breaks_1) (fun _ h9 => h9) rfl (by decide +kernel) rfl rfl (Nat.le_of_ble_eq_true rfl) dX5_breaks_70 (fun H locs h1 h2 h3 => ?_)
  have hW : zW D A s.heap [zMod2 cI a (mm_nb_ (mm_brk_ b (zU (zU (zU (zU (zU (mm_brk b) (5 * (mm_nb b)) num) ((5 * (mm_nb b)) + 1) y2) ((5 * (mm_nb b)) + 2) y3) ((5 * (mm_nb b)) + 3) y4) ((5 * (mm_nb b)) + 4) y5)) ((mm_nb b) + 1))] H locs := ⟨h1, h2, h3⟩
  exact z_vret hx hb hr hlk hW dX5_breaks_73 (by
      exact ⟨zU (zU (zU (zU (zU (mm_brk b) (5 * (mm_nb b)) num) ((5 * (mm_nb b)) + 1) y2) ((5 * (mm_nb b)) + 2) y3) ((5 * (mm_nb b)) + 3) y4) ((5 * (mm_nb b)) + 4) y5, (mm_nb b) + 1, rfl, rfl, by exact RCm_add hRC (num, y2, y3, y4, y5)⟩)

abbrev qX5_happens (cI : ClassId) (a : Nat → Nat) (b : zM2) (y1 y2 : Int) (g : zGs) (pq : zPn) (v : zEv) : Option Value → List va_W → Prop := fun vq wq => ∃ (zbrk : Int → Int) (znb : Int) (zhold : Int → Int) (zmov : Int → Int), vq = none ∧ wq = [zMod2 cI a (mm_mov_ (mm_hold_ (mm_nb_ (mm_brk_ b zbrk) znb) zhold) zmov)] ∧ (RCm zhold zmov znb zbrk (evStep pq.1 y2 v g))
set_option maxRecDepth 20000 in
theorem iX5_happens_X5 : ∀ w ∈ u_ws RX5 TX5 18, w ∈ wsX5_happens := by decide +kernel
set_option maxRecDepth 20000 in
theorem mX5_happens_1 : (.fieldLink RX5 34 "StoryPanelsModel" "holders" "[I" : Cond) ∈ wsX5_happens := by decide +kernel
set_option maxRecDepth 20000 in
theorem mX5_happens_2 : (.fieldLink RX5 37 "StoryPanelsModel" "moved" "[I" : Cond) ∈ wsX5_happens := by decide +kernel
set_option maxHeartbeats 4000000 in
set_option maxRecDepth 100000 in
theorem kX5_happens (l : Launch) (D : va_G) (cI cB : ClassId) (a : Nat → Nat) (b : zM2) (y1 y2 : Int) (g : zGs) (pq : zPn) (v : zEv) (hy1 : 0 ≤ y1 ∧ y1 < 10) (hy2 : 0 ≤ y2 ∧ y2 < 6) (hrq : rowH (mm_all b) y1 pq) (hv : pq.2.2.2[y2.toNat]? = some v) (hvo : evOK v) (hgk : gOK g) (hRC : RCm (mm_hold b) (mm_mov b) (mm_nb b) (mm_brk b) g) (hlen : g.2.2.length < 170) : zMet l yX5_happens wsX5_happens 2 48 0 0 D cI cB [.ref (a 0), .int (zI y1), .int (zI y2)] [zMod2 cI a b] (qX5_happens cI a b y1 y2 g pq v) := by
  refine zMet.of (cd := cX5_happens) (maxL := 6) (ret := none) (by decide) rfl (Nat.le_of_ble_eq_true rfl) ?_
  intro p e s m args below meth c A ls hS hr hlk hnm hK hA hW hl
  have hS : CallFix p m c cX5_happens 6 s args wsX5_happens RX5 := hS
  have hx := hS.1
  have hb := hS.2.1
  have hown := hS.2.2.2.1
  have hts := hS.2.2.2.2
  have hl : lv_has ls 6 [(0, .ref (a 0)), (1, .int (zI y1)), (2, .int (zI y2))] := hl
  have hrv := rowH_ev hrq hy2.1 hv
  have hv1 := hvo.1
  have hv2 := hvo.2.1
  have hv3 := hvo.2.2
  refine lv_aload_n hx hb dX5_happens_0 rfl (lv_at hl 0 rfl) ?_
  refine lv_iload_n hx hb dX5_happens_1 rfl (lv_at hl 1 rfl) ?_
  refine lv_iload_n hx hb dX5_happens_2 rfl (lv_at hl 2 rfl) ?_
  refine lv_iconst (v := zI (0)) hx hb dX5_happens_3 rfl ?_
  refine z_callV (r := (RX5, TX5, 18)) (As := [.int (zI y1), .int (zI y2), .int (zI 0)]) (rest := []) hS hK hA hW hl.1 [0] [] (kX5_eventOf l D cI cB a b y1 y2 0 (by omega) (by omega) (by omega)) (cwV 3 hts gX5_happens_X5_eventOf rfl rfl rfl (by decide +kernel) ⟨Nat.le_of_ble_eq_true rfl, Nat.le_of_ble_eq_true rfl⟩) (rfl : vwCl[5]? = some (RX5, TX5, 18)) (q0 := 0) rfl dX5_happens_4 rfl rfl rfl rfl rfl (Nat.le_of_ble_eq_true rfl) ⟨Nat.le_of_ble_eq_true rfl, Nat.le_of_ble_eq_true rfl⟩ (fun v9 w9 H locs hq hW => ?_)
  obtain ⟨rr_4, rfl, rfl, hh_4⟩ := hq
  subst rr_4
  have hW : zW D A s.heap [zMod2 cI a b] H locs := hW
  refine W.eq (g2 := F0 m 7 ls [.int (zI (mm_all b (7 + 22 * y1 + (4 + 3 * y2 + 0))))]) rfl ?_
  rw [show (mm_all b (7 + 22 * y1 + (4 + 3 * y2 + 0))) = v.1 by exact hrv.1]
  refine lv_istore_n (lv' := [(3, .int (zI v.1)), (0, .ref (a 0)), (1, .int (zI y1)), (2, .int (zI y2))]) hx hb dX5_happens_7 rfl hl (by decide) rfl (fun ls hl => ?_)
  refine lv_aload_n hx hb dX5_happens_8 rfl (lv_at hl 1 rfl) ?_
  refine lv_iload_n hx hb dX5_happens_9 rfl (lv_at hl 2 rfl) ?_
  refine lv_iload_n hx hb dX5_happens_10 rfl (lv_at hl 3 rfl) ?_
  refine lv_iconst (v := zI (1)) hx hb dX5_happens_11 rfl ?_
  refine z_callV (r := (RX5, TX5, 18)) (As := [.int (zI y1), .int (zI y2), .int (zI 1)]) (rest := []) hS hK hA hW hl.1 [0] [] (kX5_eventOf l D cI cB a b y1 y2 1 (by omega) (by omega) (by omega)) (cwV 3 hts gX5_happens_X5_eventOf rfl rfl rfl (by decide +kernel) ⟨Nat.le_of_ble_eq_true rfl, Nat.le_of_ble_eq_true rfl⟩) (rfl : vwCl[5]? = some (RX5, TX5, 18)) (q0 := 0) rfl dX5_happens_12 rfl rfl rfl rfl rfl (Nat.le_of_ble_eq_true rfl) ⟨Nat.le_of_ble_eq_true rfl, Nat.le_of_ble_eq_true rfl⟩ (fun v9 w9 H locs hq hW => ?_)
  obtain ⟨rr_12, rfl, rfl, hh_12⟩ := hq
  subst rr_12
  have hW : zW D A s.heap [zMod2 cI a b] H locs := hW
  refine W.eq (g2 := F0 m 15 ls [.int (zI (mm_all b (7 + 22 * y1 + (4 + 3 * y2 + 1))))]) rfl ?_
  rw [show (mm_all b (7 + 22 * y1 + (4 + 3 * y2 + 1))) = v.2.1 by exact hrv.2.1]
  refine lv_istore (lv' := [(4, .int (zI v.2.1)), (3, .int (zI v.1)), (0, .ref (a 0)), (1, .int (zI y1)), (2, .int (zI y2))]) hx hb dX5_happens_15 hl (by decide) rfl (fun ls hl => ?_)
  refine lv_aload_n hx hb dX5_happens_17 rfl (lv_at hl 2 rfl) ?_
  refine lv_iload_n hx hb dX5_happens_18 rfl (lv_at hl 3 rfl) ?_
  refine lv_iload_n hx hb dX5_happens_19 rfl (lv_at hl 4 rfl) ?_
  refine lv_iconst (v := zI (2)) hx hb dX5_happens_20 rfl ?_
  refine z_callV (r := (RX5, TX5, 18)) (As := [.int (zI y1), .int (zI y2), .int (zI 2)]) (rest := []) hS hK hA hW hl.1 [0] [] (kX5_eventOf l D cI cB a b y1 y2 2 (by omega) (by omega) (by omega)) (cwV 3 hts gX5_happens_X5_eventOf rfl rfl rfl (by decide +kernel) ⟨Nat.le_of_ble_eq_true rfl, Nat.le_of_ble_eq_true rfl⟩) (rfl : vwCl[5]? = some (RX5, TX5, 18)) (q0 := 0) rfl dX5_happens_21 rfl rfl rfl rfl rfl (Nat.le_of_ble_eq_true rfl) ⟨Nat.le_of_ble_eq_true rfl, Nat.le_of_ble_eq_true rfl⟩ (fun v9 w9 H locs hq hW => ?_)
  obtain ⟨rr_21, rfl, rfl, hh_21⟩ := hq
  subst rr_21
  have hW : zW D A s.heap [zMod2 cI a b] H locs := hW
  refine W.eq (g2 := F0 m 24 ls [.int (zI (mm_all b (7 + 22 * y1 + (4 + 3 * y2 + 2))))]) rfl ?_
  rw [show (mm_all b (7 + 22 * y1 + (4 + 3 * y2 + 2))) = v.2.2 by exact hrv.2.2]
  refine lv_istore (lv' := [(5, .int (zI v.2.2)), (4, .int (zI v.2.1)), (3, .int (zI v.1)), (0, .ref (a 0)), (1, .int (zI y1)), (2, .int (zI y2))]) hx hb dX5_happens_24 hl (by decide) rfl (fun ls hl => ?_)
  refine lv_iload hx hb dX5_happens_26 (lv_at hl 1 rfl) ?_
  rcases (show v.2.1 = 0 ∨ v.2.1 = 1 ∨ v.2.1 = 2 ∨ v.2.1 = 3 ∨ v.2.1 = 4 ∨ v.2.1 = 5 ∨ (v.2.1 < 0 ∨ 5 < v.2.1) by omega) with ww_28 | ww_28 | ww_28 | ww_28 | ww_28 | ww_28 | ww_28
  · have hhp := hRC.1.1 v.2.2 (by omega) (by omega)
    have hdg := hdV_rg (hgk.1 v.2.2)
    refine z_tableIn (k := 0) (off := 40) (tgt := 68) hx hb dX5_happens_28 (ww_28) (by decide) (by decide) (by decide +kernel) (by decide) ?_
    refine lv_aload_n hx hb dX5_happens_68 rfl (lv_at hl 3 rfl) ?_
    refine va_get (D := D) (ci := 5) (v := .ref (a 9)) (C := RX5) (T := TX5) (N := 18) hx hb hts iX5_happens_X5 hown hK.1 hW.1 0 rfl rfl 11 (by decide) (hts _ mX5_happens_1) (fun _ h9 => h9) rfl dX5_happens_69 ?_
    refine lv_iload hx hb dX5_happens_72 (lv_at hl 0 rfl) ?_
    refine z_iald (n := 10) (g := mm_hold b) hx hb hK hW 9 rfl dX5_happens_74 (by omega) ?_
    refine lv_bipush (v := zI (-5)) hx hb dX5_happens_75 (by decide +kernel) ?_
    refine z_icmp_eq (tgt := 90) hx hb dX5_happens_77 (by decide) (by omega) (fun cc_77 => ?_) (fun cc_77 => ?_)
    · refine lv_aload_n hx hb dX5_happens_90 rfl (lv_at hl 3 rfl) ?_
      refine va_get (D := D) (ci := 5) (v := .ref (a 9)) (C := RX5) (T := TX5) (N := 18) hx hb hts iX5_happens_X5 hown hK.1 hW.1 0 rfl rfl 11 (by decide) (hts _ mX5_happens_1) (fun _ h9 => h9) rfl dX5_happens_91 ?_
      refine lv_iload hx hb dX5_happens_94 (lv_at hl 0 rfl) ?_
      refine lv_iload_n hx hb dX5_happens_96 rfl (lv_at hl 2 rfl) ?_
      refine z_iast (n := 10) (g := mm_hold b) (bs1 := [zMod2 cI a (mm_hold_ b (zU (mm_hold b) v.2.2 v.1))]) hx hb hK hW 9 rfl dX5_happens_97 (by omega) rfl (fun H locs hW => ?_)
      refine lv_goto (tgt := 208) hx hb dX5_happens_98 (by decide) ?_
      exact z_vret hx hb hr hlk hW dX5_happens_208 (by
          exact ⟨mm_brk b, mm_nb b, zU (mm_hold b) v.2.2 v.1, mm_mov b, rfl, rfl, by (first | exact RCm_eq (RCm_up hh_87 (x := v.2.2) (v := v.1) (w := v.1) (by first | exact ((hdV_rg (z := v.1) (by omega)).2.2.2 hvo.1.1).symm | rfl)) (by rw [evStep_0 ww_28, if_pos (by omega)]) | exact RCm_eq (RCm_up hRC (x := v.2.2) (v := v.1) (w := v.1) (by first | exact ((hdV_rg (z := v.1) (by omega)).2.2.2 hvo.1.1).symm | rfl)) (by rw [evStep_0 ww_28, if_neg (by omega)]))⟩)
    · refine lv_aload_n hx hb dX5_happens_80 rfl (lv_at hl 3 rfl) ?_
      refine lv_iload_n hx hb dX5_happens_81 rfl (lv_at hl 4 rfl) ?_
      refine lv_iconst (v := zI (1)) hx hb dX5_happens_82 rfl ?_
      refine lv_iload_n hx hb dX5_happens_83 rfl (lv_at hl 2 rfl) ?_
      refine lv_iload hx hb dX5_happens_84 (lv_at hl 0 rfl) ?_
      refine lv_iload_n hx hb dX5_happens_86 rfl (lv_at hl 5 rfl) ?_
      refine z_callV (r := (RX5, TX5, 18)) (As := [.int (zI y1), .int (zI 1), .int (zI v.1), .int (zI v.2.2), .int (zI y2)]) (rest := []) hS hK hA hW hl.1 [0] [] (kX5_breaks l D cI cB a b y1 1 v.1 v.2.2 y2 g pq.1 (by omega) (by exact hrq.1) hRC (by omega)) (cwV 5 hts gX5_happens_X5_breaks rfl rfl rfl (by decide +kernel) ⟨Nat.le_of_ble_eq_true rfl, Nat.le_of_ble_eq_true rfl⟩) (rfl : vwCl[5]? = some (RX5, TX5, 18)) (q0 := 0) rfl dX5_happens_87 rfl rfl rfl rfl rfl (Nat.le_of_ble_eq_true rfl) ⟨Nat.le_of_ble_eq_true rfl, Nat.le_of_ble_eq_true rfl⟩ (fun v9 w9 H locs hq hW => ?_)
      obtain ⟨zbrk_87, znb_87, rfl, rfl, hh_87⟩ := hq
      have hW : zW D A s.heap [zMod2 cI a (mm_nb_ (mm_brk_ b (zbrk_87)) (znb_87))] H locs := hW
      refine W.eq (g2 := F0 m 90 ls []) rfl ?_
      refine lv_aload_n hx hb dX5_happens_90 rfl (lv_at hl 3 rfl) ?_
      refine va_get (D := D) (ci := 5) (v := .ref (a 9)) (C := RX5) (T := TX5) (N := 18) hx hb hts iX5_happens_X5 hown hK.1 hW.1 0 rfl rfl 11 (by decide) (hts _ mX5_happens_1) (fun _ h9 => h9) rfl dX5_happens_91 ?_
      refine lv_iload hx hb dX5_happens_94 (lv_at hl 0 rfl) ?_
      refine lv_iload_n hx hb dX5_happens_96 rfl (lv_at hl 2 rfl) ?_
      refine z_iast (n := 10) (g := mm_hold b) (bs1 := [zMod2 cI a (mm_hold_ (mm_nb_ (mm_brk_ b (zbrk_87)) (znb_87)) (zU (mm_hold b) v.2.2 v.1))]) hx hb hK hW 9 rfl dX5_happens_97 (by omega) rfl (fun H locs hW => ?_)
      refine lv_goto (tgt := 208) hx hb dX5_happens_98 (by decide) ?_
      exact z_vret hx hb hr hlk hW dX5_happens_208 (by
          exact ⟨zbrk_87, znb_87, zU (mm_hold b) v.2.2 v.1, mm_mov b, rfl, rfl, by (first | exact RCm_eq (RCm_up hh_87 (x := v.2.2) (v := v.1) (w := v.1) (by first | exact ((hdV_rg (z := v.1) (by omega)).2.2.2 hvo.1.1).symm | rfl)) (by rw [evStep_0 ww_28, if_pos (by omega)]) | exact RCm_eq (RCm_up hRC (x := v.2.2) (v := v.1) (w := v.1) (by first | exact ((hdV_rg (z := v.1) (by omega)).2.2.2 hvo.1.1).symm | rfl)) (by rw [evStep_0 ww_28, if_neg (by omega)]))⟩)
  · have hhp := hRC.1.1 v.2.2 (by omega) (by omega)
    have hdg := hdV_rg (hgk.1 v.2.2)
    refine z_tableIn (k := 1) (off := 73) (tgt := 101) hx hb dX5_happens_28 (ww_28) (by decide) (by decide) (by decide +kernel) (by decide) ?_
    refine lv_aload_n hx hb dX5_happens_101 rfl (lv_at hl 3 rfl) ?_
    refine va_get (D := D) (ci := 5) (v := .ref (a 9)) (C := RX5) (T := TX5) (N := 18) hx hb hts iX5_happens_X5 hown hK.1 hW.1 0 rfl rfl 11 (by decide) (hts _ mX5_happens_1) (fun _ h9 => h9) rfl dX5_happens_102 ?_
    refine lv_iload hx hb dX5_happens_105 (lv_at hl 0 rfl) ?_
    refine z_iald (n := 10) (g := mm_hold b) hx hb hK hW 9 rfl dX5_happens_107 (by omega) ?_
    refine lv_iload_n hx hb dX5_happens_108 rfl (lv_at hl 2 rfl) ?_
    refine z_icmp_eq (tgt := 122) hx hb dX5_happens_109 (by decide) (by omega) (fun cc_109 => ?_) (fun cc_109 => ?_)
    · refine lv_aload_n hx hb dX5_happens_122 rfl (lv_at hl 3 rfl) ?_
      refine va_get (D := D) (ci := 5) (v := .ref (a 9)) (C := RX5) (T := TX5) (N := 18) hx hb hts iX5_happens_X5 hown hK.1 hW.1 0 rfl rfl 11 (by decide) (hts _ mX5_happens_1) (fun _ h9 => h9) rfl dX5_happens_123 ?_
      refine lv_iload hx hb dX5_happens_126 (lv_at hl 0 rfl) ?_
      refine lv_bipush (v := zI (-5)) hx hb dX5_happens_128 (by decide +kernel) ?_
      refine z_iast (n := 10) (g := mm_hold b) (bs1 := [zMod2 cI a (mm_hold_ b (zU (mm_hold b) v.2.2 ((-5))))]) hx hb hK hW 9 rfl dX5_happens_130 (by omega) rfl (fun H locs hW => ?_)
      refine lv_goto (tgt := 208) hx hb dX5_happens_131 (by decide) ?_
      exact z_vret hx hb hr hlk hW dX5_happens_208 (by
          exact ⟨mm_brk b, mm_nb b, zU (mm_hold b) v.2.2 ((-5)), mm_mov b, rfl, rfl, by (first | exact RCm_eq (RCm_up hh_119 (x := v.2.2) (v := (-5)) (w := (-1)) (by first | exact ((hdV_rg (z := v.1) (by omega)).2.2.2 hvo.1.1).symm | rfl)) (by rw [evStep_1 ww_28, if_pos (by omega)]) | exact RCm_eq (RCm_up hRC (x := v.2.2) (v := (-5)) (w := (-1)) (by first | exact ((hdV_rg (z := v.1) (by omega)).2.2.2 hvo.1.1).symm | rfl)) (by rw [evStep_1 ww_28, if_neg (by omega)]))⟩)
    · refine lv_aload_n hx hb dX5_happens_112 rfl (lv_at hl 3 rfl) ?_
      refine lv_iload_n hx hb dX5_happens_113 rfl (lv_at hl 4 rfl) ?_
      refine lv_iconst (v := zI (2)) hx hb dX5_happens_114 rfl ?_
      refine lv_iload_n hx hb dX5_happens_115 rfl (lv_at hl 2 rfl) ?_
      refine lv_iload hx hb dX5_happens_116 (lv_at hl 0 rfl) ?_
      refine lv_iload_n hx hb dX5_happens_118 rfl (lv_at hl 5 rfl) ?_
      refine z_callV (r := (RX5, TX5, 18)) (As := [.int (zI y1), .int (zI 2), .int (zI v.1), .int (zI v.2.2), .int (zI y2)]) (rest := []) hS hK hA hW hl.1 [0] [] (kX5_breaks l D cI cB a b y1 2 v.1 v.2.2 y2 g pq.1 (by omega) (by exact hrq.1) hRC (by omega)) (cwV 5 hts gX5_happens_X5_breaks rfl rfl rfl (by decide +kernel) ⟨Nat.le_of_ble_eq_true rfl, Nat.le_of_ble_eq_true rfl⟩) (rfl : vwCl[5]? = some (RX5, TX5, 18)) (q0 := 0) rfl dX5_happens_119 rfl rfl rfl rfl rfl (Nat.le_of_ble_eq_true rfl) ⟨Nat.le_of_ble_eq_true rfl, Nat.le_of_ble_eq_true rfl⟩ (fun v9 w9 H locs hq hW => ?_)
      obtain ⟨zbrk_119, znb_119, rfl, rfl, hh_119⟩ := hq
      have hW : zW D A s.heap [zMod2 cI a (mm_nb_ (mm_brk_ b (zbrk_119)) (znb_119))] H locs := hW
      refine W.eq (g2 := F0 m 122 ls []) rfl ?_
      refine lv_aload_n hx hb dX5_happens_122 rfl (lv_at hl 3 rfl) ?_
      refine va_get (D := D) (ci := 5) (v := .ref (a 9)) (C := RX5) (T := TX5) (N := 18) hx hb hts iX5_happens_X5 hown hK.1 hW.1 0 rfl rfl 11 (by decide) (hts _ mX5_happens_1) (fun _ h9 => h9) rfl dX5_happens_123 ?_
      refine lv_iload hx hb dX5_happens_126 (lv_at hl 0 rfl) ?_
      refine lv_bipush (v := zI (-5)) hx hb dX5_happens_128 (by decide +kernel) ?_
      refine z_iast (n := 10) (g := mm_hold b) (bs1 := [zMod2 cI a (mm_hold_ (mm_nb_ (mm_brk_ b (zbrk_119)) (znb_119)) (zU (mm_hold b) v.2.2 ((-5))))]) hx hb hK hW 9 rfl dX5_happens_130 (by omega) rfl (fun H locs hW => ?_)
      refine lv_goto (tgt := 208) hx hb dX5_happens_131 (by decide) ?_
      exact z_vret hx hb hr hlk hW dX5_happens_208 (by
          exact ⟨zbrk_119, znb_119, zU (mm_hold b) v.2.2 ((-5)), mm_mov b, rfl, rfl, by (first | exact RCm_eq (RCm_up hh_119 (x := v.2.2) (v := (-5)) (w := (-1)) (by first | exact ((hdV_rg (z := v.1) (by omega)).2.2.2 hvo.1.1).symm | rfl)) (by rw [evStep_1 ww_28, if_pos (by omega)]) | exact RCm_eq (RCm_up hRC (x := v.2.2) (v := (-5)) (w := (-1)) (by first | exact ((hdV_rg (z := v.1) (by omega)).2.2.2 hvo.1.1).symm | rfl)) (by rw [evStep_1 ww_28, if_neg (by omega)]))⟩)
  · have hhp := hRC.1.1 v.2.2 (by omega) (by omega)
    have hdg := hdV_rg (hgk.1 v.2.2)
    refine z_tableIn (k := 2) (off := 106) (tgt := 134) hx hb dX5_happens_28 (ww_28) (by decide) (by decide) (by decide +kernel) (by decide) ?_
    refine lv_aload_n hx hb dX5_happens_134 rfl (lv_at hl 3 rfl) ?_
    refine va_get (D := D) (ci := 5) (v := .ref (a 9)) (C := RX5) (T := TX5) (N := 18) hx hb hts iX5_happens_X5 hown hK.1 hW.1 0 rfl rfl 11 (by decide) (hts _ mX5_happens_1) (fun _ h9 => h9) rfl dX5_happens_135 ?_
    refine lv_iload hx hb dX5_happens_138 (lv_at hl 0 rfl) ?_
    refine z_iald (n := 10) (g := mm_hold b) hx hb hK hW 9 rfl dX5_happens_140 (by omega) ?_
    refine lv_iload_n hx hb dX5_happens_141 rfl (lv_at hl 2 rfl) ?_
    refine z_icmp_eq (tgt := 155) hx hb dX5_happens_142 (by decide) (by omega) (fun cc_142 => ?_) (fun cc_142 => ?_)
    · refine lv_aload_n hx hb dX5_happens_155 rfl (lv_at hl 3 rfl) ?_
      refine va_get (D := D) (ci := 5) (v := .ref (a 9)) (C := RX5) (T := TX5) (N := 18) hx hb hts iX5_happens_X5 hown hK.1 hW.1 0 rfl rfl 11 (by decide) (hts _ mX5_happens_1) (fun _ h9 => h9) rfl dX5_happens_156 ?_
      refine lv_iload hx hb dX5_happens_159 (lv_at hl 0 rfl) ?_
      refine lv_iload_n hx hb dX5_happens_161 rfl (lv_at hl 2 rfl) ?_
      refine z_iast (n := 10) (g := mm_hold b) (bs1 := [zMod2 cI a (mm_hold_ b (zU (mm_hold b) v.2.2 v.1))]) hx hb hK hW 9 rfl dX5_happens_162 (by omega) rfl (fun H locs hW => ?_)
      refine lv_goto (tgt := 208) hx hb dX5_happens_163 (by decide) ?_
      exact z_vret hx hb hr hlk hW dX5_happens_208 (by
          exact ⟨mm_brk b, mm_nb b, zU (mm_hold b) v.2.2 v.1, mm_mov b, rfl, rfl, by (first | exact RCm_eq (RCm_up hh_152 (x := v.2.2) (v := v.1) (w := v.1) (by first | exact ((hdV_rg (z := v.1) (by omega)).2.2.2 hvo.1.1).symm | rfl)) (by rw [evStep_2 ww_28, if_pos (by omega)]) | exact RCm_eq (RCm_up hRC (x := v.2.2) (v := v.1) (w := v.1) (by first | exact ((hdV_rg (z := v.1) (by omega)).2.2.2 hvo.1.1).symm | rfl)) (by rw [evStep_2 ww_28, if_neg (by omega)]))⟩)
    · refine lv_aload_n hx hb dX5_happens_145 rfl (lv_at hl 3 rfl) ?_
      refine lv_iload_n hx hb dX5_happens_146 rfl (lv_at hl 4 rfl) ?_
      refine lv_iconst (v := zI (3)) hx hb dX5_happens_147 rfl ?_
      refine lv_iload_n hx hb dX5_happens_148 rfl (lv_at hl 2 rfl) ?_
      refine lv_iload hx hb dX5_happens_149 (lv_at hl 0 rfl) ?_
      refine lv_iload_n hx hb dX5_happens_151 rfl (lv_at hl 5 rfl) ?_
      refine z_callV (r := (RX5, TX5, 18)) (As := [.int (zI y1), .int (zI 3), .int (zI v.1), .int (zI v.2.2), .int (zI y2)]) (rest := []) hS hK hA hW hl.1 [0] [] (kX5_breaks l D cI cB a b y1 3 v.1 v.2.2 y2 g pq.1 (by omega) (by exact hrq.1) hRC (by omega)) (cwV 5 hts gX5_happens_X5_breaks rfl rfl rfl (by decide +kernel) ⟨Nat.le_of_ble_eq_true rfl, Nat.le_of_ble_eq_true rfl⟩) (rfl : vwCl[5]? = some (RX5, TX5, 18)) (q0 := 0) rfl dX5_happens_152 rfl rfl rfl rfl rfl (Nat.le_of_ble_eq_true rfl) ⟨Nat.le_of_ble_eq_true rfl, Nat.le_of_ble_eq_true rfl⟩ (fun v9 w9 H locs hq hW => ?_)
      obtain ⟨zbrk_152, znb_152, rfl, rfl, hh_152⟩ := hq
      have hW : zW D A s.heap [zMod2 cI a (mm_nb_ (mm_brk_ b (zbrk_152)) (znb_152))] H locs := hW
      refine W.eq (g2 := F0 m 155 ls []) rfl ?_
      refine lv_aload_n hx hb dX5_happens_155 rfl (lv_at hl 3 rfl) ?_
      refine va_get (D := D) (ci := 5) (v := .ref (a 9)) (C := RX5) (T := TX5) (N := 18) hx hb hts iX5_happens_X5 hown hK.1 hW.1 0 rfl rfl 11 (by decide) (hts _ mX5_happens_1) (fun _ h9 => h9) rfl dX5_happens_156 ?_
      refine lv_iload hx hb dX5_happens_159 (lv_at hl 0 rfl) ?_
      refine lv_iload_n hx hb dX5_happens_161 rfl (lv_at hl 2 rfl) ?_
      refine z_iast (n := 10) (g := mm_hold b) (bs1 := [zMod2 cI a (mm_hold_ (mm_nb_ (mm_brk_ b (zbrk_152)) (znb_152)) (zU (mm_hold b) v.2.2 v.1))]) hx hb hK hW 9 rfl dX5_happens_162 (by omega) rfl (fun H locs hW => ?_)
      refine lv_goto (tgt := 208) hx hb dX5_happens_163 (by decide) ?_
      exact z_vret hx hb hr hlk hW dX5_happens_208 (by
          exact ⟨zbrk_152, znb_152, zU (mm_hold b) v.2.2 v.1, mm_mov b, rfl, rfl, by (first | exact RCm_eq (RCm_up hh_152 (x := v.2.2) (v := v.1) (w := v.1) (by first | exact ((hdV_rg (z := v.1) (by omega)).2.2.2 hvo.1.1).symm | rfl)) (by rw [evStep_2 ww_28, if_pos (by omega)]) | exact RCm_eq (RCm_up hRC (x := v.2.2) (v := v.1) (w := v.1) (by first | exact ((hdV_rg (z := v.1) (by omega)).2.2.2 hvo.1.1).symm | rfl)) (by rw [evStep_2 ww_28, if_neg (by omega)]))⟩)
  · have hhp := hRC.2 v.1 hv1.1 hv1.2
    have hgm := hgk.2.1 v.1
    refine z_tableIn (k := 3) (off := 148) (tgt := 176) hx hb dX5_happens_28 (ww_28) (by decide) (by decide) (by decide +kernel) (by decide) ?_
    refine lv_aload_n hx hb dX5_happens_176 rfl (lv_at hl 3 rfl) ?_
    refine va_get (D := D) (ci := 5) (v := .ref (a 10)) (C := RX5) (T := TX5) (N := 18) hx hb hts iX5_happens_X5 hown hK.1 hW.1 0 rfl rfl 12 (by decide) (hts _ mX5_happens_2) (fun _ h9 => h9) rfl dX5_happens_177 ?_
    refine lv_iload_n hx hb dX5_happens_180 rfl (lv_at hl 2 rfl) ?_
    refine z_iald (n := 4) (g := mm_mov b) hx hb hK hW 10 rfl dX5_happens_181 (by omega) ?_
    refine lv_bipush (v := zI (7)) hx hb dX5_happens_182 (by decide +kernel) ?_
    refine lv_iload hx hb dX5_happens_184 (lv_at hl 1 rfl) ?_
    refine z_isub hx hb dX5_happens_186 ?_
    refine z_icmp_ne (tgt := 200) hx hb dX5_happens_187 (by decide) (by omega) (fun cc_187 => ?_) (fun cc_187 => ?_)
    · refine lv_aload_n hx hb dX5_happens_200 rfl (lv_at hl 3 rfl) ?_
      refine va_get (D := D) (ci := 5) (v := .ref (a 10)) (C := RX5) (T := TX5) (N := 18) hx hb hts iX5_happens_X5 hown hK.1 hW.1 0 rfl rfl 12 (by decide) (hts _ mX5_happens_2) (fun _ h9 => h9) rfl dX5_happens_201 ?_
      refine lv_iload_n hx hb dX5_happens_204 rfl (lv_at hl 2 rfl) ?_
      refine lv_iload hx hb dX5_happens_205 (lv_at hl 1 rfl) ?_
      refine z_iast (n := 4) (g := mm_mov b) (bs1 := [zMod2 cI a (mm_mov_ b (zU (mm_mov b) v.1 v.2.1))]) hx hb hK hW 10 rfl dX5_happens_207 (by omega) rfl (fun H locs hW => ?_)
      exact z_vret hx hb hr hlk hW dX5_happens_208 (by
          exact ⟨mm_brk b, mm_nb b, mm_hold b, zU (mm_mov b) v.1 v.2.1, rfl, rfl, by (first | exact RCm_eq (RCm_mv hh_197 v.1 v.2.1) (by rw [evStep_m (by omega), if_pos (by omega)]) | exact RCm_eq (RCm_mv hRC v.1 v.2.1) (by rw [evStep_m (by omega), if_neg (by omega)]))⟩)
    · refine lv_aload_n hx hb dX5_happens_190 rfl (lv_at hl 3 rfl) ?_
      refine lv_iload_n hx hb dX5_happens_191 rfl (lv_at hl 4 rfl) ?_
      refine lv_iconst (v := zI (5)) hx hb dX5_happens_192 rfl ?_
      refine lv_iload_n hx hb dX5_happens_193 rfl (lv_at hl 2 rfl) ?_
      refine lv_bipush (v := zI (-5)) hx hb dX5_happens_194 (by decide +kernel) ?_
      refine lv_iload_n hx hb dX5_happens_196 rfl (lv_at hl 5 rfl) ?_
      refine z_callV (r := (RX5, TX5, 18)) (As := [.int (zI y1), .int (zI 5), .int (zI v.1), .int (zI ((-5))), .int (zI y2)]) (rest := []) hS hK hA hW hl.1 [0] [] (kX5_breaks l D cI cB a b y1 5 v.1 ((-5)) y2 g pq.1 (by omega) (by exact hrq.1) hRC (by omega)) (cwV 5 hts gX5_happens_X5_breaks rfl rfl rfl (by decide +kernel) ⟨Nat.le_of_ble_eq_true rfl, Nat.le_of_ble_eq_true rfl⟩) (rfl : vwCl[5]? = some (RX5, TX5, 18)) (q0 := 0) rfl dX5_happens_197 rfl rfl rfl rfl rfl (Nat.le_of_ble_eq_true rfl) ⟨Nat.le_of_ble_eq_true rfl, Nat.le_of_ble_eq_true rfl⟩ (fun v9 w9 H locs hq hW => ?_)
      obtain ⟨zbrk_197, znb_197, rfl, rfl, hh_197⟩ := hq
      have hW : zW D A s.heap [zMod2 cI a (mm_nb_ (mm_brk_ b (zbrk_197)) (znb_197))] H locs := hW
      refine W.eq (g2 := F0 m 200 ls []) rfl ?_
      refine lv_aload_n hx hb dX5_happens_200 rfl (lv_at hl 3 rfl) ?_
      refine va_get (D := D) (ci := 5) (v := .ref (a 10)) (C := RX5) (T := TX5) (N := 18) hx hb hts iX5_happens_X5 hown hK.1 hW.1 0 rfl rfl 12 (by decide) (hts _ mX5_happens_2) (fun _ h9 => h9) rfl dX5_happens_201 ?_
      refine lv_iload_n hx hb dX5_happens_204 rfl (lv_at hl 2 rfl) ?_
      refine lv_iload hx hb dX5_happens_205 (lv_at hl 1 rfl) ?_
      refine z_iast (n := 4) (g := mm_mov b) (bs1 := [zMod2 cI a (mm_mov_ (mm_nb_ (mm_brk_ b (zbrk_197)) (znb_197)) (zU (mm_mov b) v.1 v.2.1))]) hx hb hK hW 10 rfl dX5_happens_207 (by omega) rfl (fun H locs hW => ?_)
      exact z_vret hx hb hr hlk hW dX5_happens_208 (by
          exact ⟨zbrk_197, znb_197, mm_hold b, zU (mm_mov b) v.1 v.2.1, rfl, rfl, by (first | exact RCm_eq (RCm_mv hh_197 v.1 v.2.1) (by rw [evStep_m (by omega), if_pos (by omega)]) | exact RCm_eq (RCm_mv hRC v.1 v.2.1) (by rw [evStep_m (by omega), if_neg (by omega)]))⟩)
  · have hhp := hRC.2 v.1 hv1.1 hv1.2
    have hgm := hgk.2.1 v.1
    refine z_tableIn (k := 4) (off := 148) (tgt := 176) hx hb dX5_happens_28 (ww_28) (by decide) (by decide) (by decide +kernel) (by decide) ?_
    refine lv_aload_n hx hb dX5_happens_176 rfl (lv_at hl 3 rfl) ?_
    refine va_get (D := D) (ci := 5) (v := .ref (a 10)) (C := RX5) (T := TX5) (N := 18) hx hb hts iX5_happens_X5 hown hK.1 hW.1 0 rfl rfl 12 (by decide) (hts _ mX5_happens_2) (fun _ h9 => h9) rfl dX5_happens_177 ?_
    refine lv_iload_n hx hb dX5_happens_180 rfl (lv_at hl 2 rfl) ?_
    refine z_iald (n := 4) (g := mm_mov b) hx hb hK hW 10 rfl dX5_happens_181 (by omega) ?_
    refine lv_bipush (v := zI (7)) hx hb dX5_happens_182 (by decide +kernel) ?_
    refine lv_iload hx hb dX5_happens_184 (lv_at hl 1 rfl) ?_
    refine z_isub hx hb dX5_happens_186 ?_
    refine z_icmp_ne (tgt := 200) hx hb dX5_happens_187 (by decide) (by omega) (fun cc_187 => ?_) (fun cc_187 => ?_)
    · refine lv_aload_n hx hb dX5_happens_200 rfl (lv_at hl 3 rfl) ?_
      refine va_get (D := D) (ci := 5) (v := .ref (a 10)) (C := RX5) (T := TX5) (N := 18) hx hb hts iX5_happens_X5 hown hK.1 hW.1 0 rfl rfl 12 (by decide) (hts _ mX5_happens_2) (fun _ h9 => h9) rfl dX5_happens_201 ?_
      refine lv_iload_n hx hb dX5_happens_204 rfl (lv_at hl 2 rfl) ?_
      refine lv_iload hx hb dX5_happens_205 (lv_at hl 1 rfl) ?_
      refine z_iast (n := 4) (g := mm_mov b) (bs1 := [zMod2 cI a (mm_mov_ b (zU (mm_mov b) v.1 v.2.1))]) hx hb hK hW 10 rfl dX5_happens_207 (by omega) rfl (fun H locs hW => ?_)
      exact z_vret hx hb hr hlk hW dX5_happens_208 (by
          exact ⟨mm_brk b, mm_nb b, mm_hold b, zU (mm_mov b) v.1 v.2.1, rfl, rfl, by (first | exact RCm_eq (RCm_mv hh_197 v.1 v.2.1) (by rw [evStep_m (by omega), if_pos (by omega)]) | exact RCm_eq (RCm_mv hRC v.1 v.2.1) (by rw [evStep_m (by omega), if_neg (by omega)]))⟩)
    · refine lv_aload_n hx hb dX5_happens_190 rfl (lv_at hl 3 rfl) ?_
      refine lv_iload_n hx hb dX5_happens_191 rfl (lv_at hl 4 rfl) ?_
      refine lv_iconst (v := zI (5)) hx hb dX5_happens_192 rfl ?_
      refine lv_iload_n hx hb dX5_happens_193 rfl (lv_at hl 2 rfl) ?_
      refine lv_bipush (v := zI (-5)) hx hb dX5_happens_194 (by decide +kernel) ?_
      refine lv_iload_n hx hb dX5_happens_196 rfl (lv_at hl 5 rfl) ?_
      refine z_callV (r := (RX5, TX5, 18)) (As := [.int (zI y1), .int (zI 5), .int (zI v.1), .int (zI ((-5))), .int (zI y2)]) (rest := []) hS hK hA hW hl.1 [0] [] (kX5_breaks l D cI cB a b y1 5 v.1 ((-5)) y2 g pq.1 (by omega) (by exact hrq.1) hRC (by omega)) (cwV 5 hts gX5_happens_X5_breaks rfl rfl rfl (by decide +kernel) ⟨Nat.le_of_ble_eq_true rfl, Nat.le_of_ble_eq_true rfl⟩) (rfl : vwCl[5]? = some (RX5, TX5, 18)) (q0 := 0) rfl dX5_happens_197 rfl rfl rfl rfl rfl (Nat.le_of_ble_eq_true rfl) ⟨Nat.le_of_ble_eq_true rfl, Nat.le_of_ble_eq_true rfl⟩ (fun v9 w9 H locs hq hW => ?_)
      obtain ⟨zbrk_197, znb_197, rfl, rfl, hh_197⟩ := hq
      have hW : zW D A s.heap [zMod2 cI a (mm_nb_ (mm_brk_ b (zbrk_197)) (znb_197))] H locs := hW
      refine W.eq (g2 := F0 m 200 ls []) rfl ?_
      refine lv_aload_n hx hb dX5_happens_200 rfl (lv_at hl 3 rfl) ?_
      refine va_get (D := D) (ci := 5) (v := .ref (a 10)) (C := RX5) (T := TX5) (N := 18) hx hb hts iX5_happens_X5 hown hK.1 hW.1 0 rfl rfl 12 (by decide) (hts _ mX5_happens_2) (fun _ h9 => h9) rfl dX5_happens_201 ?_
      refine lv_iload_n hx hb dX5_happens_204 rfl (lv_at hl 2 rfl) ?_
      refine lv_iload hx hb dX5_happens_205 (lv_at hl 1 rfl) ?_
      refine z_iast (n := 4) (g := mm_mov b) (bs1 := [zMod2 cI a (mm_mov_ (mm_nb_ (mm_brk_ b (zbrk_197)) (znb_197)) (zU (mm_mov b) v.1 v.2.1))]) hx hb hK hW 10 rfl dX5_happens_207 (by omega) rfl (fun H locs hW => ?_)
      exact z_vret hx hb hr hlk hW dX5_happens_208 (by
          exact ⟨zbrk_197, znb_197, mm_hold b, zU (mm_mov b) v.1 v.2.1, rfl, rfl, by (first | exact RCm_eq (RCm_mv hh_197 v.1 v.2.1) (by rw [evStep_m (by omega), if_pos (by omega)]) | exact RCm_eq (RCm_mv hRC v.1 v.2.1) (by rw [evStep_m (by omega), if_neg (by omega)]))⟩)
  · refine z_tableIn (k := 5) (off := 138) (tgt := 166) hx hb dX5_happens_28 (ww_28) (by decide) (by decide) (by decide +kernel) (by decide) ?_
    refine lv_aload_n hx hb dX5_happens_166 rfl (lv_at hl 3 rfl) ?_
    refine va_get (D := D) (ci := 5) (v := .ref (a 10)) (C := RX5) (T := TX5) (N := 18) hx hb hts iX5_happens_X5 hown hK.1 hW.1 0 rfl rfl 12 (by decide) (hts _ mX5_happens_2) (fun _ h9 => h9) rfl dX5_happens_167 ?_
    refine lv_iload_n hx hb dX5_happens_170 rfl (lv_at hl 2 rfl) ?_
    refine lv_iconst (v := zI (0)) hx hb dX5_happens_171 rfl ?_
    refine z_iast (n := 4) (g := mm_mov b) (bs1 := [zMod2 cI a (mm_mov_ b (zU (mm_mov b) v.1 0))]) hx hb hK hW 10 rfl dX5_happens_172 (by omega) rfl (fun H locs hW => ?_)
    refine lv_goto (tgt := 208) hx hb dX5_happens_173 (by decide) ?_
    exact z_vret hx hb hr hlk hW dX5_happens_208 (by
        exact ⟨mm_brk b, mm_nb b, mm_hold b, zU (mm_mov b) v.1 0, rfl, rfl, by exact RCm_eq (RCm_mv hRC v.1 0) (evStep_5 ww_28).symm⟩)
  · exfalso; omega

abbrev qX5_hasEvent (cI : ClassId) (a : Nat → Nat) (b : zM2) (y1 y2 y3 : Int) (pq : zPn) : Option Value → List va_W → Prop := fun vq wq => ∃ (r : Int), vq = some (.int (zI r)) ∧ wq = [zMod2 cI a b] ∧ ((r = 1 ∧ hasEv pq.2.2.2 y2 y3 = true) ∨ (r = 0 ∧ hasEv pq.2.2.2 y2 y3 = false))
set_option maxHeartbeats 4000000 in
set_option maxRecDepth 100000 in
theorem kX5_hasEvent (l : Launch) (D : va_G) (cI cB : ClassId) (a : Nat → Nat) (b : zM2) (y1 y2 y3 : Int) (pq : zPn) (hy1 : 0 ≤ y1 ∧ y1 < 10) (hrq : rowH (mm_all b) y1 pq) (hpo : pnOK pq) (hy2 : R32 y2) (hy3 : R32 y3) : zMet l yX5_hasEvent wsX5_hasEvent 2 45 0 0 D cI cB [.ref (a 0), .int (zI y1), .int (zI y2), .int (zI y3)] [zMod2 cI a b] (qX5_hasEvent cI a b y1 y2 y3 pq) := by
  refine zMet.of (cd := cX5_hasEvent) (maxL := 6) (ret := (some .boolean)) (by decide) rfl (Nat.le_of_ble_eq_true rfl) ?_
  intro p e s m args below meth c A ls hS hr hlk hnm hK hA hW hl
  have hS : CallFix p m c cX5_hasEvent 6 s args wsX5_hasEvent RX5 := hS
  have hx := hS.1
  have hb := hS.2.1
  have hown := hS.2.2.2.1
  have hts := hS.2.2.2.2
  have hl : lv_has ls 6 [(0, .ref (a 0)), (1, .int (zI y1)), (2, .int (zI y2)), (3, .int (zI y3))] := hl
  have hpl := hpo.2.2.2.1
  refine lv_iconst (v := zI (0)) hx hb dX5_hasEvent_0 rfl ?_
  refine lv_istore (lv' := [(4, .int (zI 0)), (0, .ref (a 0)), (1, .int (zI y1)), (2, .int (zI y2)), (3, .int (zI y3))]) hx hb dX5_hasEvent_1 hl (by decide) rfl (fun ls hl => ?_)
  refine lv_iconst (v := zI (0)) hx hb dX5_hasEvent_3 rfl ?_
  refine lv_istore (lv' := [(5, .int (zI 0)), (4, .int (zI 0)), (0, .ref (a 0)), (1, .int (zI y1)), (2, .int (zI y2)), (3, .int (zI y3))]) hx hb dX5_hasEvent_4 hl (by decide) rfl (fun ls hl => ?_)
  have L6 : ∀ (fu : Nat) (hz : Int) (ki : Int), (0 ≤ ki ∧ ki ≤ (pq.2.2.2.length : Int)) → ((hz = 1 ∧ hasEv (pq.2.2.2.take ki.toNat) y2 y3 = true) ∨ (hz = 0 ∧ hasEv (pq.2.2.2.take ki.toNat) y2 y3 = false)) → ((pq.2.2.2.length : Int) - ki) < (fu : Int) → ∀ (H : Heap) (locs : List Loc), zW D A s.heap [zMod2 cI a b] H locs → ∀ (ls : Array Slot), lv_has ls 6 [(0, .ref (a 0)), (1, .int (zI y1)), (2, .int (zI y2)), (3, .int (zI y3)), (4, .int (zI hz)), (5, .int (zI ki))] → W p l e { frames := 2, cells := 0, slots := 0, locals := 45 } s m args below meth c H locs 0 0 (MQ below (zQ A D (qX5_hasEvent cI a b y1 y2 y3 pq)) args s 0 0 A) (F0 m 6 ls []) := by
    intro fu
    induction fu with
    | zero => intro hz ki hki hha hm; exact absurd hm (by omega)
    | succ fu ih6 =>
      intro hz ki hki hha hm H locs hW ls hl
      have hz1 : hz = 0 ∨ hz = 1 := by rcases hha with hq | hq; exact Or.inr hq.1; exact Or.inl hq.1
      refine lv_iload hx hb dX5_hasEvent_6 (lv_at hl 5 rfl) ?_
      refine lv_aload_n hx hb dX5_hasEvent_8 rfl (lv_at hl 0 rfl) ?_
      refine lv_iload_n hx hb dX5_hasEvent_9 rfl (lv_at hl 1 rfl) ?_
      refine lv_iconst (v := zI (3)) hx hb dX5_hasEvent_10 rfl ?_
      refine z_callV (r := (RX5, TX5, 18)) (As := [.int (zI y1), .int (zI 3)]) (rest := [.int (zI ki)]) hS hK hA hW hl.1 [0] [] (kX5_of l D cI cB a b y1 3 (by omega) (by omega)) (cwV 2 hts gX5_hasEvent_X5_of rfl rfl rfl (by decide +kernel) ⟨Nat.le_of_ble_eq_true rfl, Nat.le_of_ble_eq_true rfl⟩) (rfl : vwCl[5]? = some (RX5, TX5, 18)) (q0 := 0) rfl dX5_hasEvent_11 rfl rfl rfl rfl rfl (Nat.le_of_ble_eq_true rfl) ⟨Nat.le_of_ble_eq_true rfl, Nat.le_of_ble_eq_true rfl⟩ (fun v9 w9 H locs hq hW => ?_)
      obtain ⟨rr_11, rfl, rfl, hh_11⟩ := hq
      subst rr_11
      have hW : zW D A s.heap [zMod2 cI a b] H locs := hW
      refine W.eq (g2 := F0 m 14 ls [.int (zI (fL (mm_all b) y1 3)), .int (zI ki)]) rfl ?_
      rw [show (fL (mm_all b) y1 3) = ((pq.2.2.2.length : Int)) by exact hrq.2.2.2.1]
      refine z_icmp_ge (tgt := 65) hx hb dX5_hasEvent_14 (by decide) (by omega) (fun cc_14 => ?_) (fun cc_14 => ?_)
      · refine lv_iload hx hb dX5_hasEvent_65 (lv_at hl 4 rfl) ?_
        exact z_zret (v := hz) hx hb hr hlk hW dX5_hasEvent_67 (by omega) (by
            exact ⟨hz, rfl, rfl, by rw [List.take_of_length_le (by omega)] at hha; exact hha⟩)
      · obtain ⟨vv, hvv, hvo⟩ := evK (e := ki) (by omega) hpo
        have hrv := rowH_ev hrq hki.1 hvv
        have hv1 := hvo.1
        have hv3 := hvo.2.2
        have htk := takeZ hki.1 hvv
        refine lv_iload hx hb dX5_hasEvent_17 (lv_at hl 4 rfl) ?_
        refine z_if_ne (tgt := 52) hx hb dX5_hasEvent_19 (by decide) (by omega) (fun cc_19 => ?_) (fun cc_19 => ?_)
        · refine lv_iconst (v := zI (1)) hx hb dX5_hasEvent_52 rfl ?_
          refine lv_goto (tgt := 57) hx hb dX5_hasEvent_53 (by decide) ?_
          refine lv_istore (lv' := [(4, .int (zI 1)), (0, .ref (a 0)), (1, .int (zI y1)), (2, .int (zI y2)), (3, .int (zI y3)), (5, .int (zI ki))]) hx hb dX5_hasEvent_57 hl (by decide) rfl (fun ls hl => ?_)
          refine z_iinc (x := ki) (lv' := [(5, .int (zI (ki + 1))), (4, .int (zI 1)), (0, .ref (a 0)), (1, .int (zI y1)), (2, .int (zI y2)), (3, .int (zI y3))]) hx hb dX5_hasEvent_59 hl (k := 5) rfl (by decide) rfl (fun ls hl => ?_)
          refine lv_goto (tgt := 6) hx hb dX5_hasEvent_62 (by decide) ?_
          exact ih6 1 (ki + 1) (by omega) (by first | exact Or.inl ⟨rfl, by rw [htk]; exact hasEv_t (Or.inl (hha.resolve_right (fun h => absurd h.1 (by omega))).2)⟩ | exact Or.inl ⟨rfl, by rw [htk]; exact hasEv_t (Or.inr ⟨by omega, by omega⟩)⟩ | exact Or.inr ⟨rfl, by rw [htk]; exact hasEv_f (hha.resolve_left (fun h => absurd h.1 (by omega))).2 (by omega)⟩) (by omega) _ _ hW ls (lv_sub hl [2, 3, 4, 5, 1, 0] rfl)
        · refine lv_aload_n hx hb dX5_hasEvent_22 rfl (lv_at hl 0 rfl) ?_
          refine lv_iload_n hx hb dX5_hasEvent_23 rfl (lv_at hl 1 rfl) ?_
          refine lv_iload hx hb dX5_hasEvent_24 (lv_at hl 5 rfl) ?_
          refine lv_iconst (v := zI (0)) hx hb dX5_hasEvent_26 rfl ?_
          refine z_callV (r := (RX5, TX5, 18)) (As := [.int (zI y1), .int (zI ki), .int (zI 0)]) (rest := []) hS hK hA hW hl.1 [0] [] (kX5_eventOf l D cI cB a b y1 ki 0 (by omega) (by omega) (by omega)) (cwV 3 hts gX5_hasEvent_X5_eventOf rfl rfl rfl (by decide +kernel) ⟨Nat.le_of_ble_eq_true rfl, Nat.le_of_ble_eq_true rfl⟩) (rfl : vwCl[5]? = some (RX5, TX5, 18)) (q0 := 0) rfl dX5_hasEvent_27 rfl rfl rfl rfl rfl (Nat.le_of_ble_eq_true rfl) ⟨Nat.le_of_ble_eq_true rfl, Nat.le_of_ble_eq_true rfl⟩ (fun v9 w9 H locs hq hW => ?_)
          obtain ⟨rr_27, rfl, rfl, hh_27⟩ := hq
          subst rr_27
          have hW : zW D A s.heap [zMod2 cI a b] H locs := hW
          refine W.eq (g2 := F0 m 30 ls [.int (zI (mm_all b (7 + 22 * y1 + (4 + 3 * ki + 0))))]) rfl ?_
          rw [show (mm_all b (7 + 22 * y1 + (4 + 3 * ki + 0))) = vv.1 by exact hrv.1]
          refine lv_iload_n hx hb dX5_hasEvent_30 rfl (lv_at hl 2 rfl) ?_
          refine z_icmp_ne (tgt := 56) hx hb dX5_hasEvent_31 (by decide) (by omega) (fun cc_31 => ?_) (fun cc_31 => ?_)
          · refine lv_iconst (v := zI (0)) hx hb dX5_hasEvent_56 rfl ?_
            refine lv_istore (lv' := [(4, .int (zI 0)), (0, .ref (a 0)), (1, .int (zI y1)), (2, .int (zI y2)), (3, .int (zI y3)), (5, .int (zI ki))]) hx hb dX5_hasEvent_57 hl (by decide) rfl (fun ls hl => ?_)
            refine z_iinc (x := ki) (lv' := [(5, .int (zI (ki + 1))), (4, .int (zI 0)), (0, .ref (a 0)), (1, .int (zI y1)), (2, .int (zI y2)), (3, .int (zI y3))]) hx hb dX5_hasEvent_59 hl (k := 5) rfl (by decide) rfl (fun ls hl => ?_)
            refine lv_goto (tgt := 6) hx hb dX5_hasEvent_62 (by decide) ?_
            exact ih6 0 (ki + 1) (by omega) (by first | exact Or.inl ⟨rfl, by rw [htk]; exact hasEv_t (Or.inl (hha.resolve_right (fun h => absurd h.1 (by omega))).2)⟩ | exact Or.inl ⟨rfl, by rw [htk]; exact hasEv_t (Or.inr ⟨by omega, by omega⟩)⟩ | exact Or.inr ⟨rfl, by rw [htk]; exact hasEv_f (hha.resolve_left (fun h => absurd h.1 (by omega))).2 (by omega)⟩) (by omega) _ _ hW ls (lv_sub hl [2, 3, 4, 5, 1, 0] rfl)
          · refine lv_iload_n hx hb dX5_hasEvent_34 rfl (lv_at hl 3 rfl) ?_
            refine lv_bipush (v := zI (-5)) hx hb dX5_hasEvent_35 (by decide +kernel) ?_
            refine z_icmp_eq (tgt := 52) hx hb dX5_hasEvent_37 (by decide) (by omega) (fun cc_37 => ?_) (fun cc_37 => ?_)
            · refine lv_iconst (v := zI (1)) hx hb dX5_hasEvent_52 rfl ?_
              refine lv_goto (tgt := 57) hx hb dX5_hasEvent_53 (by decide) ?_
              refine lv_istore (lv' := [(4, .int (zI 1)), (0, .ref (a 0)), (1, .int (zI y1)), (2, .int (zI y2)), (3, .int (zI y3)), (5, .int (zI ki))]) hx hb dX5_hasEvent_57 hl (by decide) rfl (fun ls hl => ?_)
              refine z_iinc (x := ki) (lv' := [(5, .int (zI (ki + 1))), (4, .int (zI 1)), (0, .ref (a 0)), (1, .int (zI y1)), (2, .int (zI y2)), (3, .int (zI y3))]) hx hb dX5_hasEvent_59 hl (k := 5) rfl (by decide) rfl (fun ls hl => ?_)
              refine lv_goto (tgt := 6) hx hb dX5_hasEvent_62 (by decide) ?_
              exact ih6 1 (ki + 1) (by omega) (by first | exact Or.inl ⟨rfl, by rw [htk]; exact hasEv_t (Or.inl (hha.resolve_right (fun h => absurd h.1 (by omega))).2)⟩ | exact Or.inl ⟨rfl, by rw [htk]; exact hasEv_t (Or.inr ⟨by omega, by omega⟩)⟩ | exact Or.inr ⟨rfl, by rw [htk]; exact hasEv_f (hha.resolve_left (fun h => absurd h.1 (by omega))).2 (by omega)⟩) (by omega) _ _ hW ls (lv_sub hl [2, 3, 4, 5, 1, 0] rfl)
            · refine lv_aload_n hx hb dX5_hasEvent_40 rfl (lv_at hl 0 rfl) ?_
              refine lv_iload_n hx hb dX5_hasEvent_41 rfl (lv_at hl 1 rfl) ?_
              refine lv_iload hx hb dX5_hasEvent_42 (lv_at hl 5 rfl) ?_
              refine lv_iconst (v := zI (2)) hx hb dX5_hasEvent_44 rfl ?_
              refine z_callV (r := (RX5, TX5, 18)) (As := [.int (zI y1), .int (zI ki), .int (zI 2)]) (rest := []) hS hK hA hW hl.1 [0] [] (kX5_eventOf l D cI cB a b y1 ki 2 (by omega) (by omega) (by omega)) (cwV 3 hts gX5_hasEvent_X5_eventOf rfl rfl rfl (by decide +kernel) ⟨Nat.le_of_ble_eq_true rfl, Nat.le_of_ble_eq_true rfl⟩) (rfl : vwCl[5]? = some (RX5, TX5, 18)) (q0 := 0) rfl dX5_hasEvent_45 rfl rfl rfl rfl rfl (Nat.le_of_ble_eq_true rfl) ⟨Nat.le_of_ble_eq_true rfl, Nat.le_of_ble_eq_true rfl⟩ (fun v9 w9 H locs hq hW => ?_)
              obtain ⟨rr_45, rfl, rfl, hh_45⟩ := hq
              subst rr_45
              have hW : zW D A s.heap [zMod2 cI a b] H locs := hW
              refine W.eq (g2 := F0 m 48 ls [.int (zI (mm_all b (7 + 22 * y1 + (4 + 3 * ki + 2))))]) rfl ?_
              rw [show (mm_all b (7 + 22 * y1 + (4 + 3 * ki + 2))) = vv.2.2 by exact hrv.2.2]
              refine lv_iload_n hx hb dX5_hasEvent_48 rfl (lv_at hl 3 rfl) ?_
              refine z_icmp_ne (tgt := 56) hx hb dX5_hasEvent_49 (by decide) (by omega) (fun cc_49 => ?_) (fun cc_49 => ?_)
              · refine lv_iconst (v := zI (0)) hx hb dX5_hasEvent_56 rfl ?_
                refine lv_istore (lv' := [(4, .int (zI 0)), (0, .ref (a 0)), (1, .int (zI y1)), (2, .int (zI y2)), (3, .int (zI y3)), (5, .int (zI ki))]) hx hb dX5_hasEvent_57 hl (by decide) rfl (fun ls hl => ?_)
                refine z_iinc (x := ki) (lv' := [(5, .int (zI (ki + 1))), (4, .int (zI 0)), (0, .ref (a 0)), (1, .int (zI y1)), (2, .int (zI y2)), (3, .int (zI y3))]) hx hb dX5_hasEvent_59 hl (k := 5) rfl (by decide) rfl (fun ls hl => ?_)
                refine lv_goto (tgt := 6) hx hb dX5_hasEvent_62 (by decide) ?_
                exact ih6 0 (ki + 1) (by omega) (by first | exact Or.inl ⟨rfl, by rw [htk]; exact hasEv_t (Or.inl (hha.resolve_right (fun h => absurd h.1 (by omega))).2)⟩ | exact Or.inl ⟨rfl, by rw [htk]; exact hasEv_t (Or.inr ⟨by omega, by omega⟩)⟩ | exact Or.inr ⟨rfl, by rw [htk]; exact hasEv_f (hha.resolve_left (fun h => absurd h.1 (by omega))).2 (by omega)⟩) (by omega) _ _ hW ls (lv_sub hl [2, 3, 4, 5, 1, 0] rfl)
              · refine lv_iconst (v := zI (1)) hx hb dX5_hasEvent_52 rfl ?_
                refine lv_goto (tgt := 57) hx hb dX5_hasEvent_53 (by decide) ?_
                refine lv_istore (lv' := [(4, .int (zI 1)), (0, .ref (a 0)), (1, .int (zI y1)), (2, .int (zI y2)), (3, .int (zI y3)), (5, .int (zI ki))]) hx hb dX5_hasEvent_57 hl (by decide) rfl (fun ls hl => ?_)
                refine z_iinc (x := ki) (lv' := [(5, .int (zI (ki + 1))), (4, .int (zI 1)), (0, .ref (a 0)), (1, .int (zI y1)), (2, .int (zI y2)), (3, .int (zI y3))]) hx hb dX5_hasEvent_59 hl (k := 5) rfl (by decide) rfl (fun ls hl => ?_)
                refine lv_goto (tgt := 6) hx hb dX5_hasEvent_62 (by decide) ?_
                exact ih6 1 (ki + 1) (by omega) (by first | exact Or.inl ⟨rfl, by rw [htk]; exact hasEv_t (Or.inl (hha.resolve_right (fun h => absurd h.1 (by omega))).2)⟩ | exact Or.inl ⟨rfl, by rw [htk]; exact hasEv_t (Or.inr ⟨by omega, by omega⟩)⟩ | exact Or.inr ⟨rfl, by rw [htk]; exact hasEv_f (hha.resolve_left (fun h => absurd h.1 (by omega))).2 (by omega)⟩) (by omega) _ _ hW ls (lv_sub hl [2, 3, 4, 5, 1, 0] rfl)
  exact L6 ((((pq.2.2.2.length : Int) - 0) : Int).toNat + 1) 0 0 (by omega) (by exact Or.inr ⟨rfl, rfl⟩) (by omega) _ _ hW ls (lv_sub hl [2, 3, 4, 5, 1, 0] rfl)

abbrev qX5_shows (cI : ClassId) (a : Nat → Nat) (b : zM2) (y1 : Int) (g : zGs) (pq : zPn) : Option Value → List va_W → Prop := fun vq wq => ∃ (zbrk : Int → Int) (znb : Int), vq = none ∧ wq = [zMod2 cI a (mm_nb_ (mm_brk_ b zbrk) znb)] ∧ (RCm (mm_hold b) (mm_mov b) znb zbrk (g.1, g.2.1, g.2.2 ++ undrW pq.1 pq.2.2.2 g.1 4))
set_option maxRecDepth 20000 in
theorem iX5_shows_X5 : ∀ w ∈ u_ws RX5 TX5 18, w ∈ wsX5_shows := by decide +kernel
set_option maxRecDepth 20000 in
theorem mX5_shows_1 : (.fieldLink RX5 34 "StoryPanelsModel" "holders" "[I" : Cond) ∈ wsX5_shows := by decide +kernel
set_option maxHeartbeats 4000000 in
set_option maxRecDepth 100000 in
theorem kX5_shows (l : Launch) (D : va_G) (cI cB : ClassId) (a : Nat → Nat) (b : zM2) (y1 : Int) (g : zGs) (pq : zPn) (hy1 : 0 ≤ y1 ∧ y1 < 10) (hrq : rowH (mm_all b) y1 pq) (hpo : pnOK pq) (hgk : gOK g) (hRC : RCm (mm_hold b) (mm_mov b) (mm_nb b) (mm_brk b) g) (hlen : g.2.2.length ≤ 150) : zMet l yX5_shows wsX5_shows 3 70 0 0 D cI cB [.ref (a 0), .int (zI y1)] [zMod2 cI a b] (qX5_shows cI a b y1 g pq) := by
  refine zMet.of (cd := cX5_shows) (maxL := 4) (ret := none) (by decide) rfl (Nat.le_of_ble_eq_true rfl) ?_
  intro p e s m args below meth c A ls hS hr hlk hnm hK hA hW hl
  have hS : CallFix p m c cX5_shows 4 s args wsX5_shows RX5 := hS
  have hx := hS.1
  have hb := hS.2.1
  have hown := hS.2.2.2.1
  have hts := hS.2.2.2.2
  have hl : lv_has ls 4 [(0, .ref (a 0)), (1, .int (zI y1))] := hl
  refine lv_iconst (v := zI (0)) hx hb dX5_shows_0 rfl ?_
  refine lv_istore_n (lv' := [(2, .int (zI 0)), (0, .ref (a 0)), (1, .int (zI y1))]) hx hb dX5_shows_1 rfl hl (by decide) rfl (fun ls hl => ?_)
  have L2 : ∀ (fu : Nat) (kw : Int) (n2 : Int) (b2 : Int → Int), (0 ≤ kw ∧ kw ≤ 4) → (RCm (mm_hold b) (mm_mov b) n2 b2 (g.1, g.2.1, g.2.2 ++ undrW pq.1 pq.2.2.2 g.1 kw.toNat)) → (4 - kw) < (fu : Int) → ∀ (H : Heap) (locs : List Loc), zW D A s.heap [zMod2 cI a (mm_nb_ (mm_brk_ b (b2)) (n2))] H locs → ∀ (ls : Array Slot), lv_has ls 4 [(0, .ref (a 0)), (1, .int (zI y1)), (2, .int (zI kw))] → W p l e { frames := 3, cells := 0, slots := 0, locals := 70 } s m args below meth c H locs 0 0 (MQ below (zQ A D (qX5_shows cI a b y1 g pq)) args s 0 0 A) (F0 m 2 ls []) := by
    intro fu
    induction fu with
    | zero => intro kw n2 b2 hkw hRw hm; exact absurd hm (by omega)
    | succ fu ih2 =>
      intro kw n2 b2 hkw hRw hm H locs hW ls hl
      refine lv_iload_n hx hb dX5_shows_2 rfl (lv_at hl 2 rfl) ?_
      refine lv_iconst (v := zI (4)) hx hb dX5_shows_3 rfl ?_
      refine z_icmp_ge (tgt := 68) hx hb dX5_shows_4 (by decide) (by omega) (fun cc_4 => ?_) (fun cc_4 => ?_)
      · exact z_vret hx hb hr hlk hW dX5_shows_68 (by
            exact ⟨b2, n2, rfl, rfl, by (rw [show kw = 4 by omega] at hRw; exact hRw)⟩)
      · refine lv_iconst (v := zI (0)) hx hb dX5_shows_7 rfl ?_
        refine lv_istore_n (lv' := [(3, .int (zI 0)), (0, .ref (a 0)), (1, .int (zI y1)), (2, .int (zI kw))]) hx hb dX5_shows_8 rfl hl (by decide) rfl (fun ls hl => ?_)
        have L9 : ∀ (fu : Nat) (kp : Int) (n3 : Int) (b3 : Int → Int), (0 ≤ kp ∧ kp ≤ 10) → (RCm (mm_hold b) (mm_mov b) n3 b3 (g.1, g.2.1, g.2.2 ++ (undrW pq.1 pq.2.2.2 g.1 kw.toNat ++ undrP pq.1 pq.2.2.2 g.1 kw kp.toNat))) → (10 - kp) < (fu : Int) → ∀ (H : Heap) (locs : List Loc), zW D A s.heap [zMod2 cI a (mm_nb_ (mm_brk_ b (b3)) (n3))] H locs → ∀ (ls : Array Slot), lv_has ls 4 [(0, .ref (a 0)), (1, .int (zI y1)), (2, .int (zI kw)), (3, .int (zI kp))] → W p l e { frames := 3, cells := 0, slots := 0, locals := 70 } s m args below meth c H locs 0 0 (MQ below (zQ A D (qX5_shows cI a b y1 g pq)) args s 0 0 A) (F0 m 9 ls []) := by
          intro fu
          induction fu with
          | zero => intro kp n3 b3 hkp hRp hm; exact absurd hm (by omega)
          | succ fu ih9 =>
            intro kp n3 b3 hkp hRp hm H locs hW ls hl
            have hhg := hdV_rg (hgk.1 kp)
            refine lv_iload_n hx hb dX5_shows_9 rfl (lv_at hl 3 rfl) ?_
            refine lv_bipush (v := zI (10)) hx hb dX5_shows_10 (by decide +kernel) ?_
            refine z_icmp_ge (tgt := 62) hx hb dX5_shows_12 (by decide) (by omega) (fun cc_12 => ?_) (fun cc_12 => ?_)
            · refine z_iinc (x := kw) (lv' := [(2, .int (zI (kw + 1))), (0, .ref (a 0)), (1, .int (zI y1)), (3, .int (zI kp))]) hx hb dX5_shows_62 hl (k := 2) rfl (by decide) rfl (fun ls hl => ?_)
              refine lv_goto (tgt := 2) hx hb dX5_shows_65 (by decide) ?_
              exact ih2 (kw + 1) n3 b3 (by omega) (by exact RCm_eq hRp (by rw [undrW_s _ _ _ hkw.1, show kp = 10 by omega]; rfl)) (by omega) _ _ hW ls (lv_sub hl [1, 2, 0] rfl)
            · have hhp := hRC.1.1 kp (by omega) (by omega)
              refine lv_aload_n hx hb dX5_shows_15 rfl (lv_at hl 0 rfl) ?_
              refine lv_iload_n hx hb dX5_shows_16 rfl (lv_at hl 1 rfl) ?_
              refine lv_iload_n hx hb dX5_shows_17 rfl (lv_at hl 2 rfl) ?_
              refine lv_bipush (v := zI (-5)) hx hb dX5_shows_18 (by decide +kernel) ?_
              refine z_callV (r := (RX5, TX5, 18)) (As := [.int (zI y1), .int (zI kw), .int (zI ((-5)))]) (rest := []) hS hK hA hW hl.1 [0] [] (kX5_hasEvent l D cI cB a ((mm_nb_ (mm_brk_ b (b3)) (n3))) y1 kw ((-5)) pq (by omega) hrq hpo (by omega) (by omega)) (cwV 3 hts gX5_shows_X5_hasEvent rfl rfl rfl (by decide +kernel) ⟨Nat.le_of_ble_eq_true rfl, Nat.le_of_ble_eq_true rfl⟩) (rfl : vwCl[5]? = some (RX5, TX5, 18)) (q0 := 0) rfl dX5_shows_20 rfl rfl rfl rfl rfl (Nat.le_of_ble_eq_true rfl) ⟨Nat.le_of_ble_eq_true rfl, Nat.le_of_ble_eq_true rfl⟩ (fun v9 w9 H locs hq hW => ?_)
              obtain ⟨rr_20, rfl, rfl, hh_20⟩ := hq
              have hW : zW D A s.heap [zMod2 cI a (mm_nb_ (mm_brk_ b (b3)) (n3))] H locs := hW
              refine W.eq (g2 := F0 m 23 ls [.int (zI rr_20)]) rfl ?_
              have hr20 : rr_20 = 0 ∨ rr_20 = 1 := by rcases hh_20 with hq | hq; exact Or.inr hq.1; exact Or.inl hq.1
              refine z_if_eq (tgt := 56) hx hb dX5_shows_23 (by decide) (by omega) (fun cc_23 => ?_) (fun cc_23 => ?_)
              · have hun := undr_n (l := pq.2.2.2) (h := g.1) (w := kw) (p := kp) (Or.inl (hh_20.resolve_left (fun h => absurd h.1 (by omega))).2)
                refine z_iinc (x := kp) (lv' := [(3, .int (zI (kp + 1))), (0, .ref (a 0)), (1, .int (zI y1)), (2, .int (zI kw))]) hx hb dX5_shows_56 hl (k := 3) rfl (by decide) rfl (fun ls hl => ?_)
                refine lv_goto (tgt := 9) hx hb dX5_shows_59 (by decide) ?_
                exact ih9 (kp + 1) n3 b3 (by omega) (by first | exact RCm_eq hh_53 (by rw [undrP_s _ _ _ _ hkp.1, hun]; simp) | exact RCm_eq hRp (by rw [undrP_s _ _ _ _ hkp.1, hun]; simp)) (by omega) _ _ hW ls (lv_sub hl [1, 2, 3, 0] rfl)
              · refine lv_aload_n hx hb dX5_shows_26 rfl (lv_at hl 0 rfl) ?_
                refine va_get (D := D) (ci := 5) (v := .ref (a 9)) (C := RX5) (T := TX5) (N := 18) hx hb hts iX5_shows_X5 hown hK.1 hW.1 0 rfl rfl 11 (by decide) (hts _ mX5_shows_1) (fun _ h9 => h9) rfl dX5_shows_27 ?_
                refine lv_iload_n hx hb dX5_shows_30 rfl (lv_at hl 3 rfl) ?_
                refine z_iald (n := 10) (g := mm_hold b) hx hb hK hW 9 rfl dX5_shows_31 (by omega) ?_
                refine lv_iload_n hx hb dX5_shows_32 rfl (lv_at hl 2 rfl) ?_
                refine z_icmp_ne (tgt := 56) hx hb dX5_shows_33 (by decide) (by omega) (fun cc_33 => ?_) (fun cc_33 => ?_)
                · have hun := undr_n (l := pq.2.2.2) (h := g.1) (w := kw) (p := kp) (Or.inr (Or.inl (by omega)))
                  refine z_iinc (x := kp) (lv' := [(3, .int (zI (kp + 1))), (0, .ref (a 0)), (1, .int (zI y1)), (2, .int (zI kw))]) hx hb dX5_shows_56 hl (k := 3) rfl (by decide) rfl (fun ls hl => ?_)
                  refine lv_goto (tgt := 9) hx hb dX5_shows_59 (by decide) ?_
                  exact ih9 (kp + 1) n3 b3 (by omega) (by first | exact RCm_eq hh_53 (by rw [undrP_s _ _ _ _ hkp.1, hun]; simp) | exact RCm_eq hRp (by rw [undrP_s _ _ _ _ hkp.1, hun]; simp)) (by omega) _ _ hW ls (lv_sub hl [1, 2, 3, 0] rfl)
                · refine lv_aload_n hx hb dX5_shows_36 rfl (lv_at hl 0 rfl) ?_
                  refine lv_iload_n hx hb dX5_shows_37 rfl (lv_at hl 1 rfl) ?_
                  refine lv_iload_n hx hb dX5_shows_38 rfl (lv_at hl 2 rfl) ?_
                  refine lv_iload_n hx hb dX5_shows_39 rfl (lv_at hl 3 rfl) ?_
                  refine z_callV (r := (RX5, TX5, 18)) (As := [.int (zI y1), .int (zI kw), .int (zI kp)]) (rest := []) hS hK hA hW hl.1 [0] [] (kX5_hasEvent l D cI cB a ((mm_nb_ (mm_brk_ b (b3)) (n3))) y1 kw kp pq (by omega) hrq hpo (by omega) (by omega)) (cwV 3 hts gX5_shows_X5_hasEvent rfl rfl rfl (by decide +kernel) ⟨Nat.le_of_ble_eq_true rfl, Nat.le_of_ble_eq_true rfl⟩) (rfl : vwCl[5]? = some (RX5, TX5, 18)) (q0 := 0) rfl dX5_shows_40 rfl rfl rfl rfl rfl (Nat.le_of_ble_eq_true rfl) ⟨Nat.le_of_ble_eq_true rfl, Nat.le_of_ble_eq_true rfl⟩ (fun v9 w9 H locs hq hW => ?_)
                  obtain ⟨rr_40, rfl, rfl, hh_40⟩ := hq
                  have hW : zW D A s.heap [zMod2 cI a (mm_nb_ (mm_brk_ b (b3)) (n3))] H locs := hW
                  refine W.eq (g2 := F0 m 43 ls [.int (zI rr_40)]) rfl ?_
                  have hr40 : rr_40 = 0 ∨ rr_40 = 1 := by rcases hh_40 with hq | hq; exact Or.inr hq.1; exact Or.inl hq.1
                  refine z_if_ne (tgt := 56) hx hb dX5_shows_43 (by decide) (by omega) (fun cc_43 => ?_) (fun cc_43 => ?_)
                  · have hun := undr_n (l := pq.2.2.2) (h := g.1) (w := kw) (p := kp) (Or.inr (Or.inr (hh_40.resolve_right (fun h => absurd h.1 (by omega))).2))
                    refine z_iinc (x := kp) (lv' := [(3, .int (zI (kp + 1))), (0, .ref (a 0)), (1, .int (zI y1)), (2, .int (zI kw))]) hx hb dX5_shows_56 hl (k := 3) rfl (by decide) rfl (fun ls hl => ?_)
                    refine lv_goto (tgt := 9) hx hb dX5_shows_59 (by decide) ?_
                    exact ih9 (kp + 1) n3 b3 (by omega) (by first | exact RCm_eq hh_53 (by rw [undrP_s _ _ _ _ hkp.1, hun]; simp) | exact RCm_eq hRp (by rw [undrP_s _ _ _ _ hkp.1, hun]; simp)) (by omega) _ _ hW ls (lv_sub hl [1, 2, 3, 0] rfl)
                  · have hun := undr_y (l := pq.2.2.2) (h := g.1) (w := kw) (p := kp) (hh_20.resolve_right (fun h => absurd h.1 (by omega))).2 (by omega) (hh_40.resolve_left (fun h => absurd h.1 (by omega))).2
                    have hut2 := undr_le pq.1 pq.2.2.2 g.1 (w := kw.toNat) (n := (kp + 1).toNat) (by omega)
                    rw [show ((kw.toNat : Nat) : Int) = kw by omega, undrP_s _ _ _ _ hkp.1, hun] at hut2
                    simp at hut2
                    refine lv_aload_n hx hb dX5_shows_46 rfl (lv_at hl 0 rfl) ?_
                    refine lv_iload_n hx hb dX5_shows_47 rfl (lv_at hl 1 rfl) ?_
                    refine lv_iconst (v := zI (4)) hx hb dX5_shows_48 rfl ?_
                    refine lv_iload_n hx hb dX5_shows_49 rfl (lv_at hl 2 rfl) ?_
                    refine lv_iload_n hx hb dX5_shows_50 rfl (lv_at hl 3 rfl) ?_
                    refine lv_bipush (v := zI (-5)) hx hb dX5_shows_51 (by decide +kernel) ?_
                    refine z_callV (r := (RX5, TX5, 18)) (As := [.int (zI y1), .int (zI 4), .int (zI kw), .int (zI kp), .int (zI ((-5)))]) (rest := []) hS hK hA hW hl.1 [0] [] (kX5_breaks l D cI cB a ((mm_nb_ (mm_brk_ b (b3)) (n3))) y1 4 kw kp ((-5)) ((g.1, g.2.1, g.2.2 ++ (undrW pq.1 pq.2.2.2 g.1 kw.toNat ++ undrP pq.1 pq.2.2.2 g.1 kw kp.toNat))) pq.1 (by omega) (by exact hrq.1) hRp (by simp; omega)) (cwV 5 hts gX5_shows_X5_breaks rfl rfl rfl (by decide +kernel) ⟨Nat.le_of_ble_eq_true rfl, Nat.le_of_ble_eq_true rfl⟩) (rfl : vwCl[5]? = some (RX5, TX5, 18)) (q0 := 0) rfl dX5_shows_53 rfl rfl rfl rfl rfl (Nat.le_of_ble_eq_true rfl) ⟨Nat.le_of_ble_eq_true rfl, Nat.le_of_ble_eq_true rfl⟩ (fun v9 w9 H locs hq hW => ?_)
                    obtain ⟨zbrk_53, znb_53, rfl, rfl, hh_53⟩ := hq
                    have hW : zW D A s.heap [zMod2 cI a (mm_nb_ (mm_brk_ b (zbrk_53)) (znb_53))] H locs := hW
                    refine W.eq (g2 := F0 m 56 ls []) rfl ?_
                    refine z_iinc (x := kp) (lv' := [(3, .int (zI (kp + 1))), (0, .ref (a 0)), (1, .int (zI y1)), (2, .int (zI kw))]) hx hb dX5_shows_56 hl (k := 3) rfl (by decide) rfl (fun ls hl => ?_)
                    refine lv_goto (tgt := 9) hx hb dX5_shows_59 (by decide) ?_
                    exact ih9 (kp + 1) znb_53 zbrk_53 (by omega) (by first | exact RCm_eq hh_53 (by rw [undrP_s _ _ _ _ hkp.1, hun]; simp) | exact RCm_eq hRp (by rw [undrP_s _ _ _ _ hkp.1, hun]; simp)) (by omega) _ _ hW ls (lv_sub hl [1, 2, 3, 0] rfl)
        exact L9 (((10 - 0) : Int).toNat + 1) 0 n2 b2 (by omega) (by simpa [undrP] using hRw) (by omega) _ _ hW ls (lv_sub hl [1, 2, 3, 0] rfl)
  exact L2 (((4 - 0) : Int).toNat + 1) 0 (mm_nb b) (mm_brk b) (by omega) (by simpa [undrW] using hRC) (by omega) _ _ hW ls (lv_sub hl [1, 2, 0] rfl)

abbrev qX5_goesThrough (cI : ClassId) (a : Nat → Nat) (b : zM2) (L : List zPn) (O : List Int) (ev : Int) (n : Int) : Option Value → List va_W → Prop := fun vq wq => ∃ (zrow : Int → Int) (zbrk : Int → Int) (znb : Int) (zhold : Int → Int) (zmov : Int → Int) (zbeh : Int → Int), vq = none ∧ wq = [zMod2 cI a (mm_beh_ (mm_mov_ (mm_hold_ (mm_nb_ (mm_brk_ (mm_row_ b zrow) zbrk) znb) zhold) zmov) zbeh)] ∧ (FOr zrow (mm_all b) (ordC L O) (L.length : Int) ∧ RCg zhold znb zbrk (goAll (ordC L O)) ∧ BEH zbeh (ordC L O))
set_option maxRecDepth 20000 in
theorem iX5_goesThrough_X5 : ∀ w ∈ u_ws RX5 TX5 18, w ∈ wsX5_goesThrough := by decide +kernel
set_option maxRecDepth 20000 in
theorem mX5_goesThrough_1 : (.fieldLink RX5 78 "StoryPanelsModel" "breaks" "I" : Cond) ∈ wsX5_goesThrough := by decide +kernel
set_option maxRecDepth 20000 in
theorem mX5_goesThrough_2 : (.fieldLink RX5 7 "StoryPanelsModel" "all" "[I" : Cond) ∈ wsX5_goesThrough := by decide +kernel
set_option maxRecDepth 20000 in
theorem mX5_goesThrough_3 : (.fieldLink RX5 28 "StoryPanelsModel" "row" "[I" : Cond) ∈ wsX5_goesThrough := by decide +kernel
set_option maxRecDepth 20000 in
theorem mX5_goesThrough_4 : (.fieldLink RX5 40 "StoryPanelsModel" "holdersBehind" "[I" : Cond) ∈ wsX5_goesThrough := by decide +kernel
set_option maxRecDepth 20000 in
theorem mX5_goesThrough_5 : (.fieldLink RX5 34 "StoryPanelsModel" "holders" "[I" : Cond) ∈ wsX5_goesThrough := by decide +kernel
set_option maxRecDepth 20000 in
theorem mX5_goesThrough_6 : (.fieldLink RX5 37 "StoryPanelsModel" "moved" "[I" : Cond) ∈ wsX5_goesThrough := by decide +kernel
set_option maxHeartbeats 4000000 in
set_option maxRecDepth 100000 in
theorem kX5_goesThrough (l : Launch) (D : va_G) (cI cB : ClassId) (a : Nat → Nat) (b : zM2) (L : List zPn) (O : List Int) (ev : Int) (n : Int) (hM : RMb (mm_all b) L O ev n) : zMet l yX5_goesThrough wsX5_goesThrough 4 93 0 0 D cI cB [.ref (a 0)] [zMod2 cI a b] (qX5_goesThrough cI a b L O ev n) := by
  refine zMet.of (cd := cX5_goesThrough) (maxL := 4) (ret := none) (by decide) rfl (Nat.le_of_ble_eq_true rfl) ?_
  intro p e s m args below meth c A ls hS hr hlk hnm hK hA hW hl
  have hS : CallFix p m c cX5_goesThrough 4 s args wsX5_goesThrough RX5 := hS
  have hx := hS.1
  have hb := hS.2.1
  have hown := hS.2.2.2.1
  have hts := hS.2.2.2.2
  have hl : lv_has ls 4 [(0, .ref (a 0))] := hl
  have hM1 := hM.2.1
  have hM3 := hM.2.2.1
  have hln := ordC_ln hM
  have hpn := ordC_pn hM
  refine lv_aload_n hx hb dX5_goesThrough_0 rfl (lv_at hl 0 rfl) ?_
  refine z_callV (r := (RX5, TX5, 18)) (As := []) (rest := []) hS hK hA hW hl.1 [0] [] (kX5_findsOrder l D cI cB a b L O ev n hM) (cwV 0 hts gX5_goesThrough_X5_findsOrder rfl rfl rfl (by decide +kernel) ⟨Nat.le_of_ble_eq_true rfl, Nat.le_of_ble_eq_true rfl⟩) (rfl : vwCl[5]? = some (RX5, TX5, 18)) (q0 := 0) rfl dX5_goesThrough_1 rfl rfl rfl rfl rfl (Nat.le_of_ble_eq_true rfl) ⟨Nat.le_of_ble_eq_true rfl, Nat.le_of_ble_eq_true rfl⟩ (fun v9 w9 H locs hq hW => ?_)
  obtain ⟨zrow_1, rfl, rfl, hh_1⟩ := hq
  have hW : zW D A s.heap [zMod2 cI a (mm_row_ b (zrow_1))] H locs := hW
  refine W.eq (g2 := F0 m 4 ls []) rfl ?_
  have hfo := hh_1
  refine lv_aload_n hx hb dX5_goesThrough_4 rfl (lv_at hl 0 rfl) ?_
  refine lv_iconst (v := zI (0)) hx hb dX5_goesThrough_5 rfl ?_
  refine va_put (D := D) (ci := 5) (v := .int (zI 0)) (ty := .int) (C := RX5) (T := TX5) (N := 18) hx hb hts iX5_goesThrough_X5 tyX5 tyX5_ok nmX5 hown hK.1 hW.1 hW.2.1 hW.2.2 0 rfl rfl 10 (by decide) (hts _ mX5_goesThrough_1) (fun _ h9 => h9) rfl (by decide +kernel) rfl rfl (Nat.le_of_ble_eq_true rfl) dX5_goesThrough_6 (fun H locs h1 h2 h3 => ?_)
  have hW : zW D A s.heap [zMod2 cI a (mm_nb_ (mm_row_ b (zrow_1)) (0))] H locs := ⟨h1, h2, h3⟩
  refine lv_iconst (v := zI (0)) hx hb dX5_goesThrough_9 rfl ?_
  refine lv_istore_n (lv' := [(1, .int (zI 0)), (0, .ref (a 0))]) hx hb dX5_goesThrough_10 rfl hl (by decide) rfl (fun ls hl => ?_)
  have L11 : ∀ (fu : Nat) (ki : Int) (hc : Int → Int), (0 ≤ ki ∧ ki ≤ 10) → (hc = cpF (fun _ => -5) (mm_hold b) ki) → (10 - ki) < (fu : Int) → ∀ (H : Heap) (locs : List Loc), zW D A s.heap [zMod2 cI a (mm_hold_ (mm_nb_ (mm_row_ b (zrow_1)) (0)) (hc))] H locs → ∀ (ls : Array Slot), lv_has ls 4 [(0, .ref (a 0)), (1, .int (zI ki))] → W p l e { frames := 4, cells := 0, slots := 0, locals := 93 } s m args below meth c H locs 0 0 (MQ below (zQ A D (qX5_goesThrough cI a b L O ev n)) args s 0 0 A) (F0 m 11 ls []) := by
    intro fu
    induction fu with
    | zero => intro ki hc hki hhc hm; exact absurd hm (by omega)
    | succ fu ih11 =>
      intro ki hc hki hhc hm H locs hW ls hl
      refine lv_iload_n hx hb dX5_goesThrough_11 rfl (lv_at hl 1 rfl) ?_
      refine lv_bipush (v := zI (10)) hx hb dX5_goesThrough_12 (by decide +kernel) ?_
      refine z_icmp_ge (tgt := 31) hx hb dX5_goesThrough_14 (by decide) (by omega) (fun cc_14 => ?_) (fun cc_14 => ?_)
      · refine lv_iconst (v := zI (0)) hx hb dX5_goesThrough_31 rfl ?_
        refine lv_istore_n (lv' := [(1, .int (zI 0)), (0, .ref (a 0))]) hx hb dX5_goesThrough_32 rfl hl (by decide) rfl (fun ls hl => ?_)
        have L33 : ∀ (fu : Nat) (kr : Int) (n3 : Int) (b3 : Int → Int) (o3 : Int → Int) (m3 : Int → Int) (e3 : Int → Int), (0 ≤ kr ∧ kr ≤ (L.length : Int)) → (GI o3 m3 b3 e3 n3 kr (ordC L O)) → ((L.length : Int) - kr) < (fu : Int) → ∀ (H : Heap) (locs : List Loc), zW D A s.heap [zMod2 cI a (mm_beh_ (mm_mov_ (mm_hold_ (mm_nb_ (mm_brk_ (mm_row_ b (zrow_1)) (b3)) (n3)) (o3)) (m3)) (e3))] H locs → ∀ (ls : Array Slot), lv_has ls 4 [(0, .ref (a 0)), (1, .int (zI kr))] → W p l e { frames := 4, cells := 0, slots := 0, locals := 93 } s m args below meth c H locs 0 0 (MQ below (zQ A D (qX5_goesThrough cI a b L O ev n)) args s 0 0 A) (F0 m 33 ls []) := by
          intro fu
          induction fu with
          | zero => intro kr n3 b3 o3 m3 e3 hkr hGI hm; exact absurd hm (by omega)
          | succ fu ih33 =>
            intro kr n3 b3 o3 m3 e3 hkr hGI hm H locs hW ls hl
            refine lv_iload_n hx hb dX5_goesThrough_33 rfl (lv_at hl 1 rfl) ?_
            refine lv_aload_n hx hb dX5_goesThrough_34 rfl (lv_at hl 0 rfl) ?_
            refine va_get (D := D) (ci := 5) (v := .ref (a 1)) (C := RX5) (T := TX5) (N := 18) hx hb hts iX5_goesThrough_X5 hown hK.1 hW.1 0 rfl rfl 0 (by decide) (hts _ mX5_goesThrough_2) (fun _ h9 => h9) rfl dX5_goesThrough_35 ?_
            refine lv_iconst (v := zI (1)) hx hb dX5_goesThrough_38 rfl ?_
            refine z_iald (n := 227) (g := mm_all b) hx hb hK hW 1 rfl dX5_goesThrough_39 (by omega) ?_
            refine z_icmp_ge (tgt := 162) hx hb dX5_goesThrough_40 (by decide) (by omega) (fun cc_40 => ?_) (fun cc_40 => ?_)
            · exact z_vret hx hb hr hlk hW dX5_goesThrough_162 (by
                  exact ⟨zrow_1, b3, n3, o3, m3, e3, rfl, rfl, by exact ⟨hfo, GI_end hGI (by omega)⟩⟩)
            · obtain ⟨pp, hpp, hrw, hrp⟩ := FO_at hfo (k := kr) (by omega)
              have hpp1 := hpn pp (List.mem_of_getElem? hpp)
              have hpp2 := hpp1.2.1
              have hpp3 := hpp1.2.2.2.1
              refine lv_aload_n hx hb dX5_goesThrough_43 rfl (lv_at hl 0 rfl) ?_
              refine va_get (D := D) (ci := 5) (v := .ref (a 7)) (C := RX5) (T := TX5) (N := 18) hx hb hts iX5_goesThrough_X5 hown hK.1 hW.1 0 rfl rfl 8 (by decide) (hts _ mX5_goesThrough_3) (fun _ h9 => h9) rfl dX5_goesThrough_44 ?_
              refine lv_iload_n hx hb dX5_goesThrough_47 rfl (lv_at hl 1 rfl) ?_
              refine z_iald (n := 10) (g := zrow_1) hx hb hK hW 7 rfl dX5_goesThrough_48 (by omega) ?_
              refine lv_istore_n (lv' := [(2, .int (zI (zrow_1 kr))), (0, .ref (a 0)), (1, .int (zI kr))]) hx hb dX5_goesThrough_49 rfl hl (by decide) rfl (fun ls hl => ?_)
              refine lv_iload_n hx hb dX5_goesThrough_50 rfl (lv_at hl 2 rfl) ?_
              refine z_if_eq (tgt := 76) hx hb dX5_goesThrough_51 (by decide) (by omega) (fun cc_51 => ?_) (fun cc_51 => ?_)
              · have hnew : pp.2.1 ≠ lastS (-1) ((ordC L O).take kr.toNat) := by rw [show kr = 0 by omega]; show pp.2.1 ≠ -1; omega
                refine lv_iconst (v := zI (0)) hx hb dX5_goesThrough_76 rfl ?_
                refine lv_istore_n (lv' := [(3, .int (zI 0)), (2, .int (zI (zrow_1 kr))), (0, .ref (a 0)), (1, .int (zI kr))]) hx hb dX5_goesThrough_77 rfl hl (by decide) rfl (fun ls hl => ?_)
                have L78 : ∀ (fu : Nat) (km : Int) (m4 : Int → Int), (0 ≤ km ∧ km ≤ 4) → (m4 = cpF (fun _ => 0) m3 km) → (4 - km) < (fu : Int) → ∀ (H : Heap) (locs : List Loc), zW D A s.heap [zMod2 cI a (mm_beh_ (mm_mov_ (mm_hold_ (mm_nb_ (mm_brk_ (mm_row_ b (zrow_1)) (b3)) (n3)) (o3)) (m4)) (e3))] H locs → ∀ (ls : Array Slot), lv_has ls 4 [(0, .ref (a 0)), (1, .int (zI kr)), (2, .int (zI (zrow_1 kr))), (3, .int (zI km))] → W p l e { frames := 4, cells := 0, slots := 0, locals := 93 } s m args below meth c H locs 0 0 (MQ below (zQ A D (qX5_goesThrough cI a b L O ev n)) args s 0 0 A) (F0 m 78 ls []) := by
                  intro fu
                  induction fu with
                  | zero => intro km m4 hkm hhm hm; exact absurd hm (by omega)
                  | succ fu ih78 =>
                    intro km m4 hkm hhm hm H locs hW ls hl
                    refine lv_iload_n hx hb dX5_goesThrough_78 rfl (lv_at hl 3 rfl) ?_
                    refine lv_iconst (v := zI (4)) hx hb dX5_goesThrough_79 rfl ?_
                    refine z_icmp_ge (tgt := 96) hx hb dX5_goesThrough_80 (by decide) (by omega) (fun cc_80 => ?_) (fun cc_80 => ?_)
                    · refine lv_iconst (v := zI (0)) hx hb dX5_goesThrough_96 rfl ?_
                      refine lv_istore_n (lv' := [(3, .int (zI 0)), (0, .ref (a 0)), (1, .int (zI kr)), (2, .int (zI (zrow_1 kr)))]) hx hb dX5_goesThrough_97 rfl hl (by decide) rfl (fun ls hl => ?_)
                      have L98 : ∀ (fu : Nat) (ke : Int) (n5 : Int) (b5 : Int → Int) (o5 : Int → Int) (m5 : Int → Int), (0 ≤ ke ∧ ke ≤ (pp.2.2.2.length : Int)) → (RCm o5 m5 n5 b5 (evsGo pp.1 0 (pp.2.2.2.take ke.toNat) (gsOf (ordC L O) kr pp))) → ((pp.2.2.2.length : Int) - ke) < (fu : Int) → ∀ (H : Heap) (locs : List Loc), zW D A s.heap [zMod2 cI a (mm_beh_ (mm_mov_ (mm_hold_ (mm_nb_ (mm_brk_ (mm_row_ b (zrow_1)) (b5)) (n5)) (o5)) (m5)) (e3))] H locs → ∀ (ls : Array Slot), lv_has ls 4 [(0, .ref (a 0)), (1, .int (zI kr)), (2, .int (zI (zrow_1 kr))), (3, .int (zI ke))] → W p l e { frames := 4, cells := 0, slots := 0, locals := 93 } s m args below meth c H locs 0 0 (MQ below (zQ A D (qX5_goesThrough cI a b L O ev n)) args s 0 0 A) (F0 m 98 ls []) := by
                        intro fu
                        induction fu with
                        | zero => intro ke n5 b5 o5 m5 hke hRe hm; exact absurd hm (by omega)
                        | succ fu ih98 =>
                          intro ke n5 b5 o5 m5 hke hRe hm H locs hW ls hl
                          refine lv_iload_n hx hb dX5_goesThrough_98 rfl (lv_at hl 3 rfl) ?_
                          refine lv_aload_n hx hb dX5_goesThrough_99 rfl (lv_at hl 0 rfl) ?_
                          refine lv_iload_n hx hb dX5_goesThrough_100 rfl (lv_at hl 2 rfl) ?_
                          refine lv_iconst (v := zI (3)) hx hb dX5_goesThrough_101 rfl ?_
                          refine z_callV (r := (RX5, TX5, 18)) (As := [.int (zI (zrow_1 kr)), .int (zI 3)]) (rest := [.int (zI ke)]) hS hK hA hW hl.1 [0] [] (kX5_of l D cI cB a ((mm_beh_ (mm_mov_ (mm_hold_ (mm_nb_ (mm_brk_ (mm_row_ b (zrow_1)) (b5)) (n5)) (o5)) (m5)) (e3))) (zrow_1 kr) 3 (by omega) (by omega)) (cwV 2 hts gX5_goesThrough_X5_of rfl rfl rfl (by decide +kernel) ⟨Nat.le_of_ble_eq_true rfl, Nat.le_of_ble_eq_true rfl⟩) (rfl : vwCl[5]? = some (RX5, TX5, 18)) (q0 := 0) rfl dX5_goesThrough_102 rfl rfl rfl rfl rfl (Nat.le_of_ble_eq_true rfl) ⟨Nat.le_of_ble_eq_true rfl, Nat.le_of_ble_eq_true rfl⟩ (fun v9 w9 H locs hq hW => ?_)
                          obtain ⟨rr_102, rfl, rfl, hh_102⟩ := hq
                          subst rr_102
                          have hW : zW D A s.heap [zMod2 cI a (mm_beh_ (mm_mov_ (mm_hold_ (mm_nb_ (mm_brk_ (mm_row_ b (zrow_1)) (b5)) (n5)) (o5)) (m5)) (e3))] H locs := hW
                          refine W.eq (g2 := F0 m 105 ls [.int (zI (fL (mm_all ((mm_beh_ (mm_mov_ (mm_hold_ (mm_nb_ (mm_brk_ (mm_row_ b (zrow_1)) (b5)) (n5)) (o5)) (m5)) (e3)))) (zrow_1 kr) 3)), .int (zI ke)]) rfl ?_
                          rw [show (fL (mm_all ((mm_beh_ (mm_mov_ (mm_hold_ (mm_nb_ (mm_brk_ (mm_row_ b (zrow_1)) (b5)) (n5)) (o5)) (m5)) (e3)))) (zrow_1 kr) 3) = ((pp.2.2.2.length : Int)) by exact hrp.2.2.2.1]
                          refine z_icmp_ge (tgt := 120) hx hb dX5_goesThrough_105 (by decide) (by omega) (fun cc_105 => ?_) (fun cc_105 => ?_)
                          · refine lv_aload_n hx hb dX5_goesThrough_120 rfl (lv_at hl 0 rfl) ?_
                            refine lv_iload_n hx hb dX5_goesThrough_121 rfl (lv_at hl 2 rfl) ?_
                            have htk : pp.2.2.2.take ke.toNat = pp.2.2.2 := List.take_of_length_le (by omega)
                            rw [htk] at hRe
                            have hgg := evs_ok hpp1 (gs_ok hpn kr pp) ke.toNat
                            have hll := evs_len hpp1 (gs_len hpn pp (kr := kr) (by omega) (by omega)) ke.toNat
                            rw [htk] at hgg hll
                            refine z_callV (r := (RX5, TX5, 18)) (As := [.int (zI (zrow_1 kr))]) (rest := []) hS hK hA hW hl.1 [0] [] (kX5_shows l D cI cB a ((mm_beh_ (mm_mov_ (mm_hold_ (mm_nb_ (mm_brk_ (mm_row_ b (zrow_1)) (b5)) (n5)) (o5)) (m5)) (e3))) (zrow_1 kr) ((evsGo pp.1 0 pp.2.2.2 (gsOf (ordC L O) kr pp))) pp (by omega) hrp hpp1 hgg hRe hll) (cwV 1 hts gX5_goesThrough_X5_shows rfl rfl rfl (by decide +kernel) ⟨Nat.le_of_ble_eq_true rfl, Nat.le_of_ble_eq_true rfl⟩) (rfl : vwCl[5]? = some (RX5, TX5, 18)) (q0 := 0) rfl dX5_goesThrough_122 rfl rfl rfl rfl rfl (Nat.le_of_ble_eq_true rfl) ⟨Nat.le_of_ble_eq_true rfl, Nat.le_of_ble_eq_true rfl⟩ (fun v9 w9 H locs hq hW => ?_)
                            obtain ⟨zbrk_122, znb_122, rfl, rfl, hh_122⟩ := hq
                            have hW : zW D A s.heap [zMod2 cI a (mm_beh_ (mm_mov_ (mm_hold_ (mm_nb_ (mm_brk_ (mm_row_ b (zrow_1)) (zbrk_122)) (znb_122)) (o5)) (m5)) (e3))] H locs := hW
                            refine W.eq (g2 := F0 m 125 ls []) rfl ?_
                            refine lv_iconst (v := zI (0)) hx hb dX5_goesThrough_125 rfl ?_
                            refine lv_istore_n (lv' := [(3, .int (zI 0)), (0, .ref (a 0)), (1, .int (zI kr)), (2, .int (zI (zrow_1 kr)))]) hx hb dX5_goesThrough_126 rfl hl (by decide) rfl (fun ls hl => ?_)
                            have L127 : ∀ (fu : Nat) (kb : Int) (e6 : Int → Int), (0 ≤ kb ∧ kb ≤ 10) → (e6 = plF e3 (10 * kr) o5 kb) → (10 - kb) < (fu : Int) → ∀ (H : Heap) (locs : List Loc), zW D A s.heap [zMod2 cI a (mm_beh_ (mm_mov_ (mm_hold_ (mm_nb_ (mm_brk_ (mm_row_ b (zrow_1)) (zbrk_122)) (znb_122)) (o5)) (m5)) (e6))] H locs → ∀ (ls : Array Slot), lv_has ls 4 [(0, .ref (a 0)), (1, .int (zI kr)), (2, .int (zI (zrow_1 kr))), (3, .int (zI kb))] → W p l e { frames := 4, cells := 0, slots := 0, locals := 93 } s m args below meth c H locs 0 0 (MQ below (zQ A D (qX5_goesThrough cI a b L O ev n)) args s 0 0 A) (F0 m 127 ls []) := by
                              intro fu
                              induction fu with
                              | zero => intro kb e6 hkb hhb hm; exact absurd hm (by omega)
                              | succ fu ih127 =>
                                intro kb e6 hkb hhb hm H locs hW ls hl
                                refine lv_iload_n hx hb dX5_goesThrough_127 rfl (lv_at hl 3 rfl) ?_
                                refine lv_bipush (v := zI (10)) hx hb dX5_goesThrough_128 (by decide +kernel) ?_
                                refine z_icmp_ge (tgt := 156) hx hb dX5_goesThrough_130 (by decide) (by omega) (fun cc_130 => ?_) (fun cc_130 => ?_)
                                · refine z_iinc (x := kr) (lv' := [(1, .int (zI (kr + 1))), (0, .ref (a 0)), (2, .int (zI (zrow_1 kr))), (3, .int (zI kb))]) hx hb dX5_goesThrough_156 hl (k := 1) rfl (by decide) rfl (fun ls hl => ?_)
                                  refine lv_goto (tgt := 33) hx hb dX5_goesThrough_159 (by decide) ?_
                                  exact ih33 (kr + 1) znb_122 zbrk_122 o5 m5 e6 (by omega) (by exact GI_s hkr.1 hpp hh_122 hGI.2.2 hhb (by omega)) (by omega) _ _ hW ls (lv_sub hl [1, 0] rfl)
                                · refine lv_aload_n hx hb dX5_goesThrough_133 rfl (lv_at hl 0 rfl) ?_
                                  refine va_get (D := D) (ci := 5) (v := .ref (a 11)) (C := RX5) (T := TX5) (N := 18) hx hb hts iX5_goesThrough_X5 hown hK.1 hW.1 0 rfl rfl 13 (by decide) (hts _ mX5_goesThrough_4) (fun _ h9 => h9) rfl dX5_goesThrough_134 ?_
                                  refine lv_bipush (v := zI (10)) hx hb dX5_goesThrough_137 (by decide +kernel) ?_
                                  refine lv_iload_n hx hb dX5_goesThrough_139 rfl (lv_at hl 1 rfl) ?_
                                  refine z_imul hx hb dX5_goesThrough_140 ?_
                                  refine lv_iload_n hx hb dX5_goesThrough_141 rfl (lv_at hl 3 rfl) ?_
                                  refine z_iadd hx hb dX5_goesThrough_142 ?_
                                  refine lv_aload_n hx hb dX5_goesThrough_143 rfl (lv_at hl 0 rfl) ?_
                                  refine va_get (D := D) (ci := 5) (v := .ref (a 9)) (C := RX5) (T := TX5) (N := 18) hx hb hts iX5_goesThrough_X5 hown hK.1 hW.1 0 rfl rfl 11 (by decide) (hts _ mX5_goesThrough_5) (fun _ h9 => h9) rfl dX5_goesThrough_144 ?_
                                  refine lv_iload_n hx hb dX5_goesThrough_147 rfl (lv_at hl 3 rfl) ?_
                                  refine z_iald (n := 10) (g := o5) hx hb hK hW 9 rfl dX5_goesThrough_148 (by omega) ?_
                                  refine z_iast (n := 100) (g := e6) (bs1 := [zMod2 cI a (mm_beh_ (mm_mov_ (mm_hold_ (mm_nb_ (mm_brk_ (mm_row_ b (zrow_1)) (zbrk_122)) (znb_122)) (o5)) (m5)) (zU e6 ((10 * kr) + kb) (o5 kb)))]) hx hb hK hW 11 rfl dX5_goesThrough_149 (by omega) rfl (fun H locs hW => ?_)
                                  refine z_iinc (x := kb) (lv' := [(3, .int (zI (kb + 1))), (0, .ref (a 0)), (1, .int (zI kr)), (2, .int (zI (zrow_1 kr)))]) hx hb dX5_goesThrough_150 hl (k := 3) rfl (by decide) rfl (fun ls hl => ?_)
                                  refine lv_goto (tgt := 127) hx hb dX5_goesThrough_153 (by decide) ?_
                                  exact ih127 (kb + 1) (zU e6 ((10 * kr) + kb) (o5 kb)) (by omega) (by rw [hhb]; exact plF_s _ _ _ hkb.1) (by omega) _ _ hW ls (lv_sub hl [1, 2, 3, 0] rfl)
                            exact L127 (((10 - 0) : Int).toNat + 1) 0 e3 (by omega) (by exact (plF_0 _ _ _).symm) (by omega) _ _ hW ls (lv_sub hl [1, 2, 3, 0] rfl)
                          · obtain ⟨vv, hvv, hvo⟩ := evK (e := ke) (by omega) hpp1
                            refine lv_aload_n hx hb dX5_goesThrough_108 rfl (lv_at hl 0 rfl) ?_
                            refine lv_iload_n hx hb dX5_goesThrough_109 rfl (lv_at hl 2 rfl) ?_
                            refine lv_iload_n hx hb dX5_goesThrough_110 rfl (lv_at hl 3 rfl) ?_
                            refine z_callV (r := (RX5, TX5, 18)) (As := [.int (zI (zrow_1 kr)), .int (zI ke)]) (rest := []) hS hK hA hW hl.1 [0] [] (kX5_happens l D cI cB a ((mm_beh_ (mm_mov_ (mm_hold_ (mm_nb_ (mm_brk_ (mm_row_ b (zrow_1)) (b5)) (n5)) (o5)) (m5)) (e3))) (zrow_1 kr) ke ((evsGo pp.1 0 (pp.2.2.2.take ke.toNat) (gsOf (ordC L O) kr pp))) pp vv (by omega) (by omega) hrp hvv hvo (evs_ok hpp1 (gs_ok hpn kr pp) ke.toNat) hRe (by (have := evs_len hpp1 (gs_len hpn pp (kr := kr) (by omega) (by omega)) ke.toNat; omega))) (cwV 2 hts gX5_goesThrough_X5_happens rfl rfl rfl (by decide +kernel) ⟨Nat.le_of_ble_eq_true rfl, Nat.le_of_ble_eq_true rfl⟩) (rfl : vwCl[5]? = some (RX5, TX5, 18)) (q0 := 0) rfl dX5_goesThrough_111 rfl rfl rfl rfl rfl (Nat.le_of_ble_eq_true rfl) ⟨Nat.le_of_ble_eq_true rfl, Nat.le_of_ble_eq_true rfl⟩ (fun v9 w9 H locs hq hW => ?_)
                            obtain ⟨zbrk_111, znb_111, zhold_111, zmov_111, rfl, rfl, hh_111⟩ := hq
                            have hW : zW D A s.heap [zMod2 cI a (mm_beh_ (mm_mov_ (mm_hold_ (mm_nb_ (mm_brk_ (mm_row_ b (zrow_1)) (zbrk_111)) (znb_111)) (zhold_111)) (zmov_111)) (e3))] H locs := hW
                            refine W.eq (g2 := F0 m 114 ls []) rfl ?_
                            refine z_iinc (x := ke) (lv' := [(3, .int (zI (ke + 1))), (0, .ref (a 0)), (1, .int (zI kr)), (2, .int (zI (zrow_1 kr)))]) hx hb dX5_goesThrough_114 hl (k := 3) rfl (by decide) rfl (fun ls hl => ?_)
                            refine lv_goto (tgt := 98) hx hb dX5_goesThrough_117 (by decide) ?_
                            exact ih98 (ke + 1) znb_111 zbrk_111 zhold_111 zmov_111 (by omega) (by exact RCm_eq hh_111 (evsGo_takeZ pp.1 _ hke.1 hvv).symm) (by omega) _ _ hW ls (lv_sub hl [1, 2, 3, 0] rfl)
                      exact L98 ((((pp.2.2.2.length : Int) - 0) : Int).toNat + 1) 0 n3 b3 o3 m4 (by omega) (by first | exact (by rw [hhm]; exact gs_new hGI hnew (by omega)) | exact gs_old hGI (by omega) hold9) (by omega) _ _ hW ls (lv_sub hl [1, 2, 3, 0] rfl)
                    · refine lv_aload_n hx hb dX5_goesThrough_83 rfl (lv_at hl 0 rfl) ?_
                      refine va_get (D := D) (ci := 5) (v := .ref (a 10)) (C := RX5) (T := TX5) (N := 18) hx hb hts iX5_goesThrough_X5 hown hK.1 hW.1 0 rfl rfl 12 (by decide) (hts _ mX5_goesThrough_6) (fun _ h9 => h9) rfl dX5_goesThrough_84 ?_
                      refine lv_iload_n hx hb dX5_goesThrough_87 rfl (lv_at hl 3 rfl) ?_
                      refine lv_iconst (v := zI (0)) hx hb dX5_goesThrough_88 rfl ?_
                      refine z_iast (n := 4) (g := m4) (bs1 := [zMod2 cI a (mm_beh_ (mm_mov_ (mm_hold_ (mm_nb_ (mm_brk_ (mm_row_ b (zrow_1)) (b3)) (n3)) (o3)) (zU m4 km 0)) (e3))]) hx hb hK hW 10 rfl dX5_goesThrough_89 (by omega) rfl (fun H locs hW => ?_)
                      refine z_iinc (x := km) (lv' := [(3, .int (zI (km + 1))), (0, .ref (a 0)), (1, .int (zI kr)), (2, .int (zI (zrow_1 kr)))]) hx hb dX5_goesThrough_90 hl (k := 3) rfl (by decide) rfl (fun ls hl => ?_)
                      refine lv_goto (tgt := 78) hx hb dX5_goesThrough_93 (by decide) ?_
                      exact ih78 (km + 1) (zU m4 km 0) (by omega) (by rw [hhm]; exact cpF_s (fun _ => 0) _ hkm.1) (by omega) _ _ hW ls (lv_sub hl [1, 2, 3, 0] rfl)
                exact L78 (((4 - 0) : Int).toNat + 1) 0 m3 (by omega) (by exact (cpF_0 _ _).symm) (by omega) _ _ hW ls (lv_sub hl [2, 3, 1, 0] rfl)
              · obtain ⟨pp9, hpp9, hrw9, hrp9⟩ := FO_at hfo (k := kr - 1) (by omega)
                have hp92 := (hpn pp9 (List.mem_of_getElem? hpp9)).2.1
                have hls := lastS_at (show 0 < kr by omega) hpp9
                refine lv_aload_n hx hb dX5_goesThrough_54 rfl (lv_at hl 1 rfl) ?_
                refine lv_iload_n hx hb dX5_goesThrough_55 rfl (lv_at hl 0 rfl) ?_
                refine lv_iconst (v := zI (1)) hx hb dX5_goesThrough_56 rfl ?_
                refine z_callV (r := (RX5, TX5, 18)) (As := [.int (zI (zrow_1 kr)), .int (zI 1)]) (rest := []) hS hK hA hW hl.1 [0] [] (kX5_of l D cI cB a ((mm_beh_ (mm_mov_ (mm_hold_ (mm_nb_ (mm_brk_ (mm_row_ b (zrow_1)) (b3)) (n3)) (o3)) (m3)) (e3))) (zrow_1 kr) 1 (by omega) (by omega)) (cwV 2 hts gX5_goesThrough_X5_of rfl rfl rfl (by decide +kernel) ⟨Nat.le_of_ble_eq_true rfl, Nat.le_of_ble_eq_true rfl⟩) (rfl : vwCl[5]? = some (RX5, TX5, 18)) (q0 := 0) rfl dX5_goesThrough_57 rfl rfl rfl rfl rfl (Nat.le_of_ble_eq_true rfl) ⟨Nat.le_of_ble_eq_true rfl, Nat.le_of_ble_eq_true rfl⟩ (fun v9 w9 H locs hq hW => ?_)
                obtain ⟨rr_57, rfl, rfl, hh_57⟩ := hq
                subst rr_57
                have hW : zW D A s.heap [zMod2 cI a (mm_beh_ (mm_mov_ (mm_hold_ (mm_nb_ (mm_brk_ (mm_row_ b (zrow_1)) (b3)) (n3)) (o3)) (m3)) (e3))] H locs := hW
                refine W.eq (g2 := F0 m 60 ls [.int (zI (fL (mm_all ((mm_beh_ (mm_mov_ (mm_hold_ (mm_nb_ (mm_brk_ (mm_row_ b (zrow_1)) (b3)) (n3)) (o3)) (m3)) (e3)))) (zrow_1 kr) 1))]) rfl ?_
                rw [show (fL (mm_all ((mm_beh_ (mm_mov_ (mm_hold_ (mm_nb_ (mm_brk_ (mm_row_ b (zrow_1)) (b3)) (n3)) (o3)) (m3)) (e3)))) (zrow_1 kr) 1) = pp.2.1 by exact hrp.2.1]
                refine lv_aload_n hx hb dX5_goesThrough_60 rfl (lv_at hl 1 rfl) ?_
                refine lv_aload_n hx hb dX5_goesThrough_61 rfl (lv_at hl 1 rfl) ?_
                refine va_get (D := D) (ci := 5) (v := .ref (a 7)) (C := RX5) (T := TX5) (N := 18) hx hb hts iX5_goesThrough_X5 hown hK.1 hW.1 0 rfl rfl 8 (by decide) (hts _ mX5_goesThrough_3) (fun _ h9 => h9) rfl dX5_goesThrough_62 ?_
                refine lv_iload_n hx hb dX5_goesThrough_65 rfl (lv_at hl 2 rfl) ?_
                refine lv_iconst (v := zI (1)) hx hb dX5_goesThrough_66 rfl ?_
                refine z_isub hx hb dX5_goesThrough_67 ?_
                refine z_iald (n := 10) (g := zrow_1) hx hb hK hW 7 rfl dX5_goesThrough_68 (by omega) ?_
                refine lv_iconst (v := zI (1)) hx hb dX5_goesThrough_69 rfl ?_
                refine z_callV (r := (RX5, TX5, 18)) (As := [.int (zI (zrow_1 (kr - 1))), .int (zI 1)]) (rest := [.int (zI pp.2.1)]) hS hK hA hW hl.1 [0] [] (kX5_of l D cI cB a ((mm_beh_ (mm_mov_ (mm_hold_ (mm_nb_ (mm_brk_ (mm_row_ b (zrow_1)) (b3)) (n3)) (o3)) (m3)) (e3))) (zrow_1 (kr - 1)) 1 (by omega) (by omega)) (cwV 2 hts gX5_goesThrough_X5_of rfl rfl rfl (by decide +kernel) ⟨Nat.le_of_ble_eq_true rfl, Nat.le_of_ble_eq_true rfl⟩) (rfl : vwCl[5]? = some (RX5, TX5, 18)) (q0 := 0) rfl dX5_goesThrough_70 rfl rfl rfl rfl rfl (Nat.le_of_ble_eq_true rfl) ⟨Nat.le_of_ble_eq_true rfl, Nat.le_of_ble_eq_true rfl⟩ (fun v9 w9 H locs hq hW => ?_)
                obtain ⟨rr_70, rfl, rfl, hh_70⟩ := hq
                subst rr_70
                have hW : zW D A s.heap [zMod2 cI a (mm_beh_ (mm_mov_ (mm_hold_ (mm_nb_ (mm_brk_ (mm_row_ b (zrow_1)) (b3)) (n3)) (o3)) (m3)) (e3))] H locs := hW
                refine W.eq (g2 := F0 m 73 ls [.int (zI (fL (mm_all ((mm_beh_ (mm_mov_ (mm_hold_ (mm_nb_ (mm_brk_ (mm_row_ b (zrow_1)) (b3)) (n3)) (o3)) (m3)) (e3)))) (zrow_1 (kr - 1)) 1)), .int (zI pp.2.1)]) rfl ?_
                rw [show (fL (mm_all ((mm_beh_ (mm_mov_ (mm_hold_ (mm_nb_ (mm_brk_ (mm_row_ b (zrow_1)) (b3)) (n3)) (o3)) (m3)) (e3)))) (zrow_1 (kr - 1)) 1) = pp9.2.1 by exact hrp9.2.1]
                refine z_icmp_eq (tgt := 96) hx hb dX5_goesThrough_73 (by decide) (by omega) (fun cc_73 => ?_) (fun cc_73 => ?_)
                · have hold9 : pp.2.1 = lastS (-1) ((ordC L O).take kr.toNat) := by rw [hls]; exact cc_73
                  refine lv_iconst (v := zI (0)) hx hb dX5_goesThrough_96 rfl ?_
                  refine lv_istore_n (lv' := [(3, .int (zI 0)), (2, .int (zI (zrow_1 kr))), (0, .ref (a 0)), (1, .int (zI kr))]) hx hb dX5_goesThrough_97 rfl hl (by decide) rfl (fun ls hl => ?_)
                  have L98 : ∀ (fu : Nat) (ke : Int) (n5 : Int) (b5 : Int → Int) (o5 : Int → Int) (m5 : Int → Int), (0 ≤ ke ∧ ke ≤ (pp.2.2.2.length : Int)) → (RCm o5 m5 n5 b5 (evsGo pp.1 0 (pp.2.2.2.take ke.toNat) (gsOf (ordC L O) kr pp))) → ((pp.2.2.2.length : Int) - ke) < (fu : Int) → ∀ (H : Heap) (locs : List Loc), zW D A s.heap [zMod2 cI a (mm_beh_ (mm_mov_ (mm_hold_ (mm_nb_ (mm_brk_ (mm_row_ b (zrow_1)) (b5)) (n5)) (o5)) (m5)) (e3))] H locs → ∀ (ls : Array Slot), lv_has ls 4 [(0, .ref (a 0)), (1, .int (zI kr)), (2, .int (zI (zrow_1 kr))), (3, .int (zI ke))] → W p l e { frames := 4, cells := 0, slots := 0, locals := 93 } s m args below meth c H locs 0 0 (MQ below (zQ A D (qX5_goesThrough cI a b L O ev n)) args s 0 0 A) (F0 m 98 ls []) := by
                    intro fu
                    induction fu with
                    | zero => intro ke n5 b5 o5 m5 hke hRe hm; exact absurd hm (by omega)
                    | succ fu ih98 =>
                      intro ke n5 b5 o5 m5 hke hRe hm H locs hW ls hl
                      refine lv_iload_n hx hb dX5_goesThrough_98 rfl (lv_at hl 3 rfl) ?_
                      refine lv_aload_n hx hb dX5_goesThrough_99 rfl (lv_at hl 0 rfl) ?_
                      refine lv_iload_n hx hb dX5_goesThrough_100 rfl (lv_at hl 2 rfl) ?_
                      refine lv_iconst (v := zI (3)) hx hb dX5_goesThrough_101 rfl ?_
                      refine z_callV (r := (RX5, TX5, 18)) (As := [.int (zI (zrow_1 kr)), .int (zI 3)]) (rest := [.int (zI ke)]) hS hK hA hW hl.1 [0] [] (kX5_of l D cI cB a ((mm_beh_ (mm_mov_ (mm_hold_ (mm_nb_ (mm_brk_ (mm_row_ b (zrow_1)) (b5)) (n5)) (o5)) (m5)) (e3))) (zrow_1 kr) 3 (by omega) (by omega)) (cwV 2 hts gX5_goesThrough_X5_of rfl rfl rfl (by decide +kernel) ⟨Nat.le_of_ble_eq_true rfl, Nat.le_of_ble_eq_true rfl⟩) (rfl : vwCl[5]? = some (RX5, TX5, 18)) (q0 := 0) rfl dX5_goesThrough_102 rfl rfl rfl rfl rfl (Nat.le_of_ble_eq_true rfl) ⟨Nat.le_of_ble_eq_true rfl, Nat.le_of_ble_eq_true rfl⟩ (fun v9 w9 H locs hq hW => ?_)
                      obtain ⟨rr_102, rfl, rfl, hh_102⟩ := hq
                      subst rr_102
                      have hW : zW D A s.heap [zMod2 cI a (mm_beh_ (mm_mov_ (mm_hold_ (mm_nb_ (mm_brk_ (mm_row_ b (zrow_1)) (b5)) (n5)) (o5)) (m5)) (e3))] H locs := hW
                      refine W.eq (g2 := F0 m 105 ls [.int (zI (fL (mm_all ((mm_beh_ (mm_mov_ (mm_hold_ (mm_nb_ (mm_brk_ (mm_row_ b (zrow_1)) (b5)) (n5)) (o5)) (m5)) (e3)))) (zrow_1 kr) 3)), .int (zI ke)]) rfl ?_
                      rw [show (fL (mm_all ((mm_beh_ (mm_mov_ (mm_hold_ (mm_nb_ (mm_brk_ (mm_row_ b (zrow_1)) (b5)) (n5)) (o5)) (m5)) (e3)))) (zrow_1 kr) 3) = ((pp.2.2.2.length : Int)) by exact hrp.2.2.2.1]
                      refine z_icmp_ge (tgt := 120) hx hb dX5_goesThrough_105 (by decide) (by omega) (fun cc_105 => ?_) (fun cc_105 => ?_)
                      · refine lv_aload_n hx hb dX5_goesThrough_120 rfl (lv_at hl 0 rfl) ?_
                        refine lv_iload_n hx hb dX5_goesThrough_121 rfl (lv_at hl 2 rfl) ?_
                        have htk : pp.2.2.2.take ke.toNat = pp.2.2.2 := List.take_of_length_le (by omega)
                        rw [htk] at hRe
                        have hgg := evs_ok hpp1 (gs_ok hpn kr pp) ke.toNat
                        have hll := evs_len hpp1 (gs_len hpn pp (kr := kr) (by omega) (by omega)) ke.toNat
                        rw [htk] at hgg hll
                        refine z_callV (r := (RX5, TX5, 18)) (As := [.int (zI (zrow_1 kr))]) (rest := []) hS hK hA hW hl.1 [0] [] (kX5_shows l D cI cB a ((mm_beh_ (mm_mov_ (mm_hold_ (mm_nb_ (mm_brk_ (mm_row_ b (zrow_1)) (b5)) (n5)) (o5)) (m5)) (e3))) (zrow_1 kr) ((evsGo pp.1 0 pp.2.2.2 (gsOf (ordC L O) kr pp))) pp (by omega) hrp hpp1 hgg hRe hll) (cwV 1 hts gX5_goesThrough_X5_shows rfl rfl rfl (by decide +kernel) ⟨Nat.le_of_ble_eq_true rfl, Nat.le_of_ble_eq_true rfl⟩) (rfl : vwCl[5]? = some (RX5, TX5, 18)) (q0 := 0) rfl dX5_goesThrough_122 rfl rfl rfl rfl rfl (Nat.le_of_ble_eq_true rfl) ⟨Nat.le_of_ble_eq_true rfl, Nat.le_of_ble_eq_true rfl⟩ (fun v9 w9 H locs hq hW => ?_)
                        obtain ⟨zbrk_122, znb_122, rfl, rfl, hh_122⟩ := hq
                        have hW : zW D A s.heap [zMod2 cI a (mm_beh_ (mm_mov_ (mm_hold_ (mm_nb_ (mm_brk_ (mm_row_ b (zrow_1)) (zbrk_122)) (znb_122)) (o5)) (m5)) (e3))] H locs := hW
                        refine W.eq (g2 := F0 m 125 ls []) rfl ?_
                        refine lv_iconst (v := zI (0)) hx hb dX5_goesThrough_125 rfl ?_
                        refine lv_istore_n (lv' := [(3, .int (zI 0)), (0, .ref (a 0)), (1, .int (zI kr)), (2, .int (zI (zrow_1 kr)))]) hx hb dX5_goesThrough_126 rfl hl (by decide) rfl (fun ls hl => ?_)
                        have L127 : ∀ (fu : Nat) (kb : Int) (e6 : Int → Int), (0 ≤ kb ∧ kb ≤ 10) → (e6 = plF e3 (10 * kr) o5 kb) → (10 - kb) < (fu : Int) → ∀ (H : Heap) (locs : List Loc), zW D A s.heap [zMod2 cI a (mm_beh_ (mm_mov_ (mm_hold_ (mm_nb_ (mm_brk_ (mm_row_ b (zrow_1)) (zbrk_122)) (znb_122)) (o5)) (m5)) (e6))] H locs → ∀ (ls : Array Slot), lv_has ls 4 [(0, .ref (a 0)), (1, .int (zI kr)), (2, .int (zI (zrow_1 kr))), (3, .int (zI kb))] → W p l e { frames := 4, cells := 0, slots := 0, locals := 93 } s m args below meth c H locs 0 0 (MQ below (zQ A D (qX5_goesThrough cI a b L O ev n)) args s 0 0 A) (F0 m 127 ls []) := by
                          intro fu
                          induction fu with
                          | zero => intro kb e6 hkb hhb hm; exact absurd hm (by omega)
                          | succ fu ih127 =>
                            intro kb e6 hkb hhb hm H locs hW ls hl
                            refine lv_iload_n hx hb dX5_goesThrough_127 rfl (lv_at hl 3 rfl) ?_
                            refine lv_bipush (v := zI (10)) hx hb dX5_goesThrough_128 (by decide +kernel) ?_
                            refine z_icmp_ge (tgt := 156) hx hb dX5_goesThrough_130 (by decide) (by omega) (fun cc_130 => ?_) (fun cc_130 => ?_)
                            · refine z_iinc (x := kr) (lv' := [(1, .int (zI (kr + 1))), (0, .ref (a 0)), (2, .int (zI (zrow_1 kr))), (3, .int (zI kb))]) hx hb dX5_goesThrough_156 hl (k := 1) rfl (by decide) rfl (fun ls hl => ?_)
                              refine lv_goto (tgt := 33) hx hb dX5_goesThrough_159 (by decide) ?_
                              exact ih33 (kr + 1) znb_122 zbrk_122 o5 m5 e6 (by omega) (by exact GI_s hkr.1 hpp hh_122 hGI.2.2 hhb (by omega)) (by omega) _ _ hW ls (lv_sub hl [1, 0] rfl)
                            · refine lv_aload_n hx hb dX5_goesThrough_133 rfl (lv_at hl 0 rfl) ?_
                              refine va_get (D := D) (ci := 5) (v := .ref (a 11)) (C := RX5) (T := TX5) (N := 18) hx hb hts iX5_goesThrough_X5 hown hK.1 hW.1 0 rfl rfl 13 (by decide) (hts _ mX5_goesThrough_4) (fun _ h9 => h9) rfl dX5_goesThrough_134 ?_
                              refine lv_bipush (v := zI (10)) hx hb dX5_goesThrough_137 (by decide +kernel) ?_
                              refine lv_iload_n hx hb dX5_goesThrough_139 rfl (lv_at hl 1 rfl) ?_
                              refine z_imul hx hb dX5_goesThrough_140 ?_
                              refine lv_iload_n hx hb dX5_goesThrough_141 rfl (lv_at hl 3 rfl) ?_
                              refine z_iadd hx hb dX5_goesThrough_142 ?_
                              refine lv_aload_n hx hb dX5_goesThrough_143 rfl (lv_at hl 0 rfl) ?_
                              refine va_get (D := D) (ci := 5) (v := .ref (a 9)) (C := RX5) (T := TX5) (N := 18) hx hb hts iX5_goesThrough_X5 hown hK.1 hW.1 0 rfl rfl 11 (by decide) (hts _ mX5_goesThrough_5) (fun _ h9 => h9) rfl dX5_goesThrough_144 ?_
                              refine lv_iload_n hx hb dX5_goesThrough_147 rfl (lv_at hl 3 rfl) ?_
                              refine z_iald (n := 10) (g := o5) hx hb hK hW 9 rfl dX5_goesThrough_148 (by omega) ?_
                              refine z_iast (n := 100) (g := e6) (bs1 := [zMod2 cI a (mm_beh_ (mm_mov_ (mm_hold_ (mm_nb_ (mm_brk_ (mm_row_ b (zrow_1)) (zbrk_122)) (znb_122)) (o5)) (m5)) (zU e6 ((10 * kr) + kb) (o5 kb)))]) hx hb hK hW 11 rfl dX5_goesThrough_149 (by omega) rfl (fun H locs hW => ?_)
                              refine z_iinc (x := kb) (lv' := [(3, .int (zI (kb + 1))), (0, .ref (a 0)), (1, .int (zI kr)), (2, .int (zI (zrow_1 kr)))]) hx hb dX5_goesThrough_150 hl (k := 3) rfl (by decide) rfl (fun ls hl => ?_)
                              refine lv_goto (tgt := 127) hx hb dX5_goesThrough_153 (by decide) ?_
                              exact ih127 (kb + 1) (zU e6 ((10 * kr) + kb) (o5 kb)) (by omega) (by rw [hhb]; exact plF_s _ _ _ hkb.1) (by omega) _ _ hW ls (lv_sub hl [1, 2, 3, 0] rfl)
                        exact L127 (((10 - 0) : Int).toNat + 1) 0 e3 (by omega) (by exact (plF_0 _ _ _).symm) (by omega) _ _ hW ls (lv_sub hl [1, 2, 3, 0] rfl)
                      · obtain ⟨vv, hvv, hvo⟩ := evK (e := ke) (by omega) hpp1
                        refine lv_aload_n hx hb dX5_goesThrough_108 rfl (lv_at hl 0 rfl) ?_
                        refine lv_iload_n hx hb dX5_goesThrough_109 rfl (lv_at hl 2 rfl) ?_
                        refine lv_iload_n hx hb dX5_goesThrough_110 rfl (lv_at hl 3 rfl) ?_
                        refine z_callV (r := (RX5, TX5, 18)) (As := [.int (zI (zrow_1 kr)), .int (zI ke)]) (rest := []) hS hK hA hW hl.1 [0] [] (kX5_happens l D cI cB a ((mm_beh_ (mm_mov_ (mm_hold_ (mm_nb_ (mm_brk_ (mm_row_ b (zrow_1)) (b5)) (n5)) (o5)) (m5)) (e3))) (zrow_1 kr) ke ((evsGo pp.1 0 (pp.2.2.2.take ke.toNat) (gsOf (ordC L O) kr pp))) pp vv (by omega) (by omega) hrp hvv hvo (evs_ok hpp1 (gs_ok hpn kr pp) ke.toNat) hRe (by (have := evs_len hpp1 (gs_len hpn pp (kr := kr) (by omega) (by omega)) ke.toNat; omega))) (cwV 2 hts gX5_goesThrough_X5_happens rfl rfl rfl (by decide +kernel) ⟨Nat.le_of_ble_eq_true rfl, Nat.le_of_ble_eq_true rfl⟩) (rfl : vwCl[5]? = some (RX5, TX5, 18)) (q0 := 0) rfl dX5_goesThrough_111 rfl rfl rfl rfl rfl (Nat.le_of_ble_eq_true rfl) ⟨Nat.le_of_ble_eq_true rfl, Nat.le_of_ble_eq_true rfl⟩ (fun v9 w9 H locs hq hW => ?_)
                        obtain ⟨zbrk_111, znb_111, zhold_111, zmov_111, rfl, rfl, hh_111⟩ := hq
                        have hW : zW D A s.heap [zMod2 cI a (mm_beh_ (mm_mov_ (mm_hold_ (mm_nb_ (mm_brk_ (mm_row_ b (zrow_1)) (zbrk_111)) (znb_111)) (zhold_111)) (zmov_111)) (e3))] H locs := hW
                        refine W.eq (g2 := F0 m 114 ls []) rfl ?_
                        refine z_iinc (x := ke) (lv' := [(3, .int (zI (ke + 1))), (0, .ref (a 0)), (1, .int (zI kr)), (2, .int (zI (zrow_1 kr)))]) hx hb dX5_goesThrough_114 hl (k := 3) rfl (by decide) rfl (fun ls hl => ?_)
                        refine lv_goto (tgt := 98) hx hb dX5_goesThrough_117 (by decide) ?_
                        exact ih98 (ke + 1) znb_111 zbrk_111 zhold_111 zmov_111 (by omega) (by exact RCm_eq hh_111 (evsGo_takeZ pp.1 _ hke.1 hvv).symm) (by omega) _ _ hW ls (lv_sub hl [1, 2, 3, 0] rfl)
                  exact L98 ((((pp.2.2.2.length : Int) - 0) : Int).toNat + 1) 0 n3 b3 o3 m3 (by omega) (by first | exact (by rw [hhm]; exact gs_new hGI hnew (by omega)) | exact gs_old hGI (by omega) hold9) (by omega) _ _ hW ls (lv_sub hl [2, 3, 1, 0] rfl)
                · have hnew : pp.2.1 ≠ lastS (-1) ((ordC L O).take kr.toNat) := by rw [hls]; exact cc_73
                  refine lv_iconst (v := zI (0)) hx hb dX5_goesThrough_76 rfl ?_
                  refine lv_istore_n (lv' := [(3, .int (zI 0)), (2, .int (zI (zrow_1 kr))), (0, .ref (a 0)), (1, .int (zI kr))]) hx hb dX5_goesThrough_77 rfl hl (by decide) rfl (fun ls hl => ?_)
                  have L78 : ∀ (fu : Nat) (km : Int) (m4 : Int → Int), (0 ≤ km ∧ km ≤ 4) → (m4 = cpF (fun _ => 0) m3 km) → (4 - km) < (fu : Int) → ∀ (H : Heap) (locs : List Loc), zW D A s.heap [zMod2 cI a (mm_beh_ (mm_mov_ (mm_hold_ (mm_nb_ (mm_brk_ (mm_row_ b (zrow_1)) (b3)) (n3)) (o3)) (m4)) (e3))] H locs → ∀ (ls : Array Slot), lv_has ls 4 [(0, .ref (a 0)), (1, .int (zI kr)), (2, .int (zI (zrow_1 kr))), (3, .int (zI km))] → W p l e { frames := 4, cells := 0, slots := 0, locals := 93 } s m args below meth c H locs 0 0 (MQ below (zQ A D (qX5_goesThrough cI a b L O ev n)) args s 0 0 A) (F0 m 78 ls []) := by
                    intro fu
                    induction fu with
                    | zero => intro km m4 hkm hhm hm; exact absurd hm (by omega)
                    | succ fu ih78 =>
                      intro km m4 hkm hhm hm H locs hW ls hl
                      refine lv_iload_n hx hb dX5_goesThrough_78 rfl (lv_at hl 3 rfl) ?_
                      refine lv_iconst (v := zI (4)) hx hb dX5_goesThrough_79 rfl ?_
                      refine z_icmp_ge (tgt := 96) hx hb dX5_goesThrough_80 (by decide) (by omega) (fun cc_80 => ?_) (fun cc_80 => ?_)
                      · refine lv_iconst (v := zI (0)) hx hb dX5_goesThrough_96 rfl ?_
                        refine lv_istore_n (lv' := [(3, .int (zI 0)), (0, .ref (a 0)), (1, .int (zI kr)), (2, .int (zI (zrow_1 kr)))]) hx hb dX5_goesThrough_97 rfl hl (by decide) rfl (fun ls hl => ?_)
                        have L98 : ∀ (fu : Nat) (ke : Int) (n5 : Int) (b5 : Int → Int) (o5 : Int → Int) (m5 : Int → Int), (0 ≤ ke ∧ ke ≤ (pp.2.2.2.length : Int)) → (RCm o5 m5 n5 b5 (evsGo pp.1 0 (pp.2.2.2.take ke.toNat) (gsOf (ordC L O) kr pp))) → ((pp.2.2.2.length : Int) - ke) < (fu : Int) → ∀ (H : Heap) (locs : List Loc), zW D A s.heap [zMod2 cI a (mm_beh_ (mm_mov_ (mm_hold_ (mm_nb_ (mm_brk_ (mm_row_ b (zrow_1)) (b5)) (n5)) (o5)) (m5)) (e3))] H locs → ∀ (ls : Array Slot), lv_has ls 4 [(0, .ref (a 0)), (1, .int (zI kr)), (2, .int (zI (zrow_1 kr))), (3, .int (zI ke))] → W p l e { frames := 4, cells := 0, slots := 0, locals := 93 } s m args below meth c H locs 0 0 (MQ below (zQ A D (qX5_goesThrough cI a b L O ev n)) args s 0 0 A) (F0 m 98 ls []) := by
                          intro fu
                          induction fu with
                          | zero => intro ke n5 b5 o5 m5 hke hRe hm; exact absurd hm (by omega)
                          | succ fu ih98 =>
                            intro ke n5 b5 o5 m5 hke hRe hm H locs hW ls hl
                            refine lv_iload_n hx hb dX5_goesThrough_98 rfl (lv_at hl 3 rfl) ?_
                            refine lv_aload_n hx hb dX5_goesThrough_99 rfl (lv_at hl 0 rfl) ?_
                            refine lv_iload_n hx hb dX5_goesThrough_100 rfl (lv_at hl 2 rfl) ?_
                            refine lv_iconst (v := zI (3)) hx hb dX5_goesThrough_101 rfl ?_
                            refine z_callV (r := (RX5, TX5, 18)) (As := [.int (zI (zrow_1 kr)), .int (zI 3)]) (rest := [.int (zI ke)]) hS hK hA hW hl.1 [0] [] (kX5_of l D cI cB a ((mm_beh_ (mm_mov_ (mm_hold_ (mm_nb_ (mm_brk_ (mm_row_ b (zrow_1)) (b5)) (n5)) (o5)) (m5)) (e3))) (zrow_1 kr) 3 (by omega) (by omega)) (cwV 2 hts gX5_goesThrough_X5_of rfl rfl rfl (by decide +kernel) ⟨Nat.le_of_ble_eq_true rfl, Nat.le_of_ble_eq_true rfl⟩) (rfl : vwCl[5]? = some (RX5, TX5, 18)) (q0 := 0) rfl dX5_goesThrough_102 rfl rfl rfl rfl rfl (Nat.le_of_ble_eq_true rfl) ⟨Nat.le_of_ble_eq_true rfl, Nat.le_of_ble_eq_true rfl⟩ (fun v9 w9 H locs hq hW => ?_)
                            obtain ⟨rr_102, rfl, rfl, hh_102⟩ := hq
                            subst rr_102
                            have hW : zW D A s.heap [zMod2 cI a (mm_beh_ (mm_mov_ (mm_hold_ (mm_nb_ (mm_brk_ (mm_row_ b (zrow_1)) (b5)) (n5)) (o5)) (m5)) (e3))] H locs := hW
                            refine W.eq (g2 := F0 m 105 ls [.int (zI (fL (mm_all ((mm_beh_ (mm_mov_ (mm_hold_ (mm_nb_ (mm_brk_ (mm_row_ b (zrow_1)) (b5)) (n5)) (o5)) (m5)) (e3)))) (zrow_1 kr) 3)), .int (zI ke)]) rfl ?_
                            rw [show (fL (mm_all ((mm_beh_ (mm_mov_ (mm_hold_ (mm_nb_ (mm_brk_ (mm_row_ b (zrow_1)) (b5)) (n5)) (o5)) (m5)) (e3)))) (zrow_1 kr) 3) = ((pp.2.2.2.length : Int)) by exact hrp.2.2.2.1]
                            refine z_icmp_ge (tgt := 120) hx hb dX5_goesThrough_105 (by decide) (by omega) (fun cc_105 => ?_) (fun cc_105 => ?_)
                            · refine lv_aload_n hx hb dX5_goesThrough_120 rfl (lv_at hl 0 rfl) ?_
                              refine lv_iload_n hx hb dX5_goesThrough_121 rfl (lv_at hl 2 rfl) ?_
                              have htk : pp.2.2.2.take ke.toNat = pp.2.2.2 := List.take_of_length_le (by omega)
                              rw [htk] at hRe
                              have hgg := evs_ok hpp1 (gs_ok hpn kr pp) ke.toNat
                              have hll := evs_len hpp1 (gs_len hpn pp (kr := kr) (by omega) (by omega)) ke.toNat
                              rw [htk] at hgg hll
                              refine z_callV (r := (RX5, TX5, 18)) (As := [.int (zI (zrow_1 kr))]) (rest := []) hS hK hA hW hl.1 [0] [] (kX5_shows l D cI cB a ((mm_beh_ (mm_mov_ (mm_hold_ (mm_nb_ (mm_brk_ (mm_row_ b (zrow_1)) (b5)) (n5)) (o5)) (m5)) (e3))) (zrow_1 kr) ((evsGo pp.1 0 pp.2.2.2 (gsOf (ordC L O) kr pp))) pp (by omega) hrp hpp1 hgg hRe hll) (cwV 1 hts gX5_goesThrough_X5_shows rfl rfl rfl (by decide +kernel) ⟨Nat.le_of_ble_eq_true rfl, Nat.le_of_ble_eq_true rfl⟩) (rfl : vwCl[5]? = some (RX5, TX5, 18)) (q0 := 0) rfl dX5_goesThrough_122 rfl rfl rfl rfl rfl (Nat.le_of_ble_eq_true rfl) ⟨Nat.le_of_ble_eq_true rfl, Nat.le_of_ble_eq_true rfl⟩ (fun v9 w9 H locs hq hW => ?_)
                              obtain ⟨zbrk_122, znb_122, rfl, rfl, hh_122⟩ := hq
                              have hW : zW D A s.heap [zMod2 cI a (mm_beh_ (mm_mov_ (mm_hold_ (mm_nb_ (mm_brk_ (mm_row_ b (zrow_1)) (zbrk_122)) (znb_122)) (o5)) (m5)) (e3))] H locs := hW
                              refine W.eq (g2 := F0 m 125 ls []) rfl ?_
                              refine lv_iconst (v := zI (0)) hx hb dX5_goesThrough_125 rfl ?_
                              refine lv_istore_n (lv' := [(3, .int (zI 0)), (0, .ref (a 0)), (1, .int (zI kr)), (2, .int (zI (zrow_1 kr)))]) hx hb dX5_goesThrough_126 rfl hl (by decide) rfl (fun ls hl => ?_)
                              have L127 : ∀ (fu : Nat) (kb : Int) (e6 : Int → Int), (0 ≤ kb ∧ kb ≤ 10) → (e6 = plF e3 (10 * kr) o5 kb) → (10 - kb) < (fu : Int) → ∀ (H : Heap) (locs : List Loc), zW D A s.heap [zMod2 cI a (mm_beh_ (mm_mov_ (mm_hold_ (mm_nb_ (mm_brk_ (mm_row_ b (zrow_1)) (zbrk_122)) (znb_122)) (o5)) (m5)) (e6))] H locs → ∀ (ls : Array Slot), lv_has ls 4 [(0, .ref (a 0)), (1, .int (zI kr)), (2, .int (zI (zrow_1 kr))), (3, .int (zI kb))] → W p l e { frames := 4, cells := 0, slots := 0, locals := 93 } s m args below meth c H locs 0 0 (MQ below (zQ A D (qX5_goesThrough cI a b L O ev n)) args s 0 0 A) (F0 m 127 ls []) := by
                                intro fu
                                induction fu with
                                | zero => intro kb e6 hkb hhb hm; exact absurd hm (by omega)
                                | succ fu ih127 =>
                                  intro kb e6 hkb hhb hm H locs hW ls hl
                                  refine lv_iload_n hx hb dX5_goesThrough_127 rfl (lv_at hl 3 rfl) ?_
                                  refine lv_bipush (v := zI (10)) hx hb dX5_goesThrough_128 (by decide +kernel) ?_
                                  refine z_icmp_ge (tgt := 156) hx hb dX5_goesThrough_130 (by decide) (by omega) (fun cc_130 => ?_) (fun cc_130 => ?_)
                                  · refine z_iinc (x := kr) (lv' := [(1, .int (zI (kr + 1))), (0, .ref (a 0)), (2, .int (zI (zrow_1 kr))), (3, .int (zI kb))]) hx hb dX5_goesThrough_156 hl (k := 1) rfl (by decide) rfl (fun ls hl => ?_)
                                    refine lv_goto (tgt := 33) hx hb dX5_goesThrough_159 (by decide) ?_
                                    exact ih33 (kr + 1) znb_122 zbrk_122 o5 m5 e6 (by omega) (by exact GI_s hkr.1 hpp hh_122 hGI.2.2 hhb (by omega)) (by omega) _ _ hW ls (lv_sub hl [1, 0] rfl)
                                  · refine lv_aload_n hx hb dX5_goesThrough_133 rfl (lv_at hl 0 rfl) ?_
                                    refine va_get (D := D) (ci := 5) (v := .ref (a 11)) (C := RX5) (T := TX5) (N := 18) hx hb hts iX5_goesThrough_X5 hown hK.1 hW.1 0 rfl rfl 13 (by decide) (hts _ mX5_goesThrough_4) (fun _ h9 => h9) rfl dX5_goesThrough_134 ?_
                                    refine lv_bipush (v := zI (10)) hx hb dX5_goesThrough_137 (by decide +kernel) ?_
                                    refine lv_iload_n hx hb dX5_goesThrough_139 rfl (lv_at hl 1 rfl) ?_
                                    refine z_imul hx hb dX5_goesThrough_140 ?_
                                    refine lv_iload_n hx hb dX5_goesThrough_141 rfl (lv_at hl 3 rfl) ?_
                                    refine z_iadd hx hb dX5_goesThrough_142 ?_
                                    refine lv_aload_n hx hb dX5_goesThrough_143 rfl (lv_at hl 0 rfl) ?_
                                    refine va_get (D := D) (ci := 5) (v := .ref (a 9)) (C := RX5) (T := TX5) (N := 18) hx hb hts iX5_goesThrough_X5 hown hK.1 hW.1 0 rfl rfl 11 (by decide) (hts _ mX5_goesThrough_5) (fun _ h9 => h9) rfl dX5_goesThrough_144 ?_
                                    refine lv_iload_n hx hb dX5_goesThrough_147 rfl (lv_at hl 3 rfl) ?_
                                    refine z_iald (n := 10) (g := o5) hx hb hK hW 9 rfl dX5_goesThrough_148 (by omega) ?_
                                    refine z_iast (n := 100) (g := e6) (bs1 := [zMod2 cI a (mm_beh_ (mm_mov_ (mm_hold_ (mm_nb_ (mm_brk_ (mm_row_ b (zrow_1)) (zbrk_122)) (znb_122)) (o5)) (m5)) (zU e6 ((10 * kr) + kb) (o5 kb)))]) hx hb hK hW 11 rfl dX5_goesThrough_149 (by omega) rfl (fun H locs hW => ?_)
                                    refine z_iinc (x := kb) (lv' := [(3, .int (zI (kb + 1))), (0, .ref (a 0)), (1, .int (zI kr)), (2, .int (zI (zrow_1 kr)))]) hx hb dX5_goesThrough_150 hl (k := 3) rfl (by decide) rfl (fun ls hl => ?_)
                                    refine lv_goto (tgt := 127) hx hb dX5_goesThrough_153 (by decide) ?_
                                    exact ih127 (kb + 1) (zU e6 ((10 * kr) + kb) (o5 kb)) (by omega) (by rw [hhb]; exact plF_s _ _ _ hkb.1) (by omega) _ _ hW ls (lv_sub hl [1, 2, 3, 0] rfl)
                              exact L127 (((10 - 0) : Int).toNat + 1) 0 e3 (by omega) (by exact (plF_0 _ _ _).symm) (by omega) _ _ hW ls (lv_sub hl [1, 2, 3, 0] rfl)
                            · obtain ⟨vv, hvv, hvo⟩ := evK (e := ke) (by omega) hpp1
                              refine lv_aload_n hx hb dX5_goesThrough_108 rfl (lv_at hl 0 rfl) ?_
                              refine lv_iload_n hx hb dX5_goesThrough_109 rfl (lv_at hl 2 rfl) ?_
                              refine lv_iload_n hx hb dX5_goesThrough_110 rfl (lv_at hl 3 rfl) ?_
                              refine z_callV (r := (RX5, TX5, 18)) (As := [.int (zI (zrow_1 kr)), .int (zI ke)]) (rest := []) hS hK hA hW hl.1 [0] [] (kX5_happens l D cI cB a ((mm_beh_ (mm_mov_ (mm_hold_ (mm_nb_ (mm_brk_ (mm_row_ b (zrow_1)) (b5)) (n5)) (o5)) (m5)) (e3))) (zrow_1 kr) ke ((evsGo pp.1 0 (pp.2.2.2.take ke.toNat) (gsOf (ordC L O) kr pp))) pp vv (by omega) (by omega) hrp hvv hvo (evs_ok hpp1 (gs_ok hpn kr pp) ke.toNat) hRe (by (have := evs_len hpp1 (gs_len hpn pp (kr := kr) (by omega) (by omega)) ke.toNat; omega))) (cwV 2 hts gX5_goesThrough_X5_happens rfl rfl rfl (by decide +kernel) ⟨Nat.le_of_ble_eq_true rfl, Nat.le_of_ble_eq_true rfl⟩) (rfl : vwCl[5]? = some (RX5, TX5, 18)) (q0 := 0) rfl dX5_goesThrough_111 rfl rfl rfl rfl rfl (Nat.le_of_ble_eq_true rfl) ⟨Nat.le_of_ble_eq_true rfl, Nat.le_of_ble_eq_true rfl⟩ (fun v9 w9 H locs hq hW => ?_)
                              obtain ⟨zbrk_111, znb_111, zhold_111, zmov_111, rfl, rfl, hh_111⟩ := hq
                              have hW : zW D A s.heap [zMod2 cI a (mm_beh_ (mm_mov_ (mm_hold_ (mm_nb_ (mm_brk_ (mm_row_ b (zrow_1)) (zbrk_111)) (znb_111)) (zhold_111)) (zmov_111)) (e3))] H locs := hW
                              refine W.eq (g2 := F0 m 114 ls []) rfl ?_
                              refine z_iinc (x := ke) (lv' := [(3, .int (zI (ke + 1))), (0, .ref (a 0)), (1, .int (zI kr)), (2, .int (zI (zrow_1 kr)))]) hx hb dX5_goesThrough_114 hl (k := 3) rfl (by decide) rfl (fun ls hl => ?_)
                              refine lv_goto (tgt := 98) hx hb dX5_goesThrough_117 (by decide) ?_
                              exact ih98 (ke + 1) znb_111 zbrk_111 zhold_111 zmov_111 (by omega) (by exact RCm_eq hh_111 (evsGo_takeZ pp.1 _ hke.1 hvv).symm) (by omega) _ _ hW ls (lv_sub hl [1, 2, 3, 0] rfl)
                        exact L98 ((((pp.2.2.2.length : Int) - 0) : Int).toNat + 1) 0 n3 b3 o3 m4 (by omega) (by first | exact (by rw [hhm]; exact gs_new hGI hnew (by omega)) | exact gs_old hGI (by omega) hold9) (by omega) _ _ hW ls (lv_sub hl [1, 2, 3, 0] rfl)
                      · refine lv_aload_n hx hb dX5_goesThrough_83 rfl (lv_at hl 0 rfl) ?_
                        refine va_get (D := D) (ci := 5) (v := .ref (a 10)) (C := RX5) (T := TX5) (N := 18) hx hb hts iX5_goesThrough_X5 hown hK.1 hW.1 0 rfl rfl 12 (by decide) (hts _ mX5_goesThrough_6) (fun _ h9 => h9) rfl dX5_goesThrough_84 ?_
                        refine lv_iload_n hx hb dX5_goesThrough_87 rfl (lv_at hl 3 rfl) ?_
                        refine lv_iconst (v := zI (0)) hx hb dX5_goesThrough_88 rfl ?_
                        refine z_iast (n := 4) (g := m4) (bs1 := [zMod2 cI a (mm_beh_ (mm_mov_ (mm_hold_ (mm_nb_ (mm_brk_ (mm_row_ b (zrow_1)) (b3)) (n3)) (o3)) (zU m4 km 0)) (e3))]) hx hb hK hW 10 rfl dX5_goesThrough_89 (by omega) rfl (fun H locs hW => ?_)
                        refine z_iinc (x := km) (lv' := [(3, .int (zI (km + 1))), (0, .ref (a 0)), (1, .int (zI kr)), (2, .int (zI (zrow_1 kr)))]) hx hb dX5_goesThrough_90 hl (k := 3) rfl (by decide) rfl (fun ls hl => ?_)
                        refine lv_goto (tgt := 78) hx hb dX5_goesThrough_93 (by decide) ?_
                        exact ih78 (km + 1) (zU m4 km 0) (by omega) (by rw [hhm]; exact cpF_s (fun _ => 0) _ hkm.1) (by omega) _ _ hW ls (lv_sub hl [1, 2, 3, 0] rfl)
                  exact L78 (((4 - 0) : Int).toNat + 1) 0 m3 (by omega) (by exact (cpF_0 _ _).symm) (by omega) _ _ hW ls (lv_sub hl [2, 3, 1, 0] rfl)
        exact L33 ((((L.length : Int) - 0) : Int).toNat + 1) 0 0 (mm_brk b) hc (mm_mov b) (mm_beh b) (by omega) (by rw [hhc]; exact GI_0 (by omega)) (by omega) _ _ hW ls (lv_sub hl [1, 0] rfl)
      · refine lv_aload_n hx hb dX5_goesThrough_17 rfl (lv_at hl 0 rfl) ?_
        refine va_get (D := D) (ci := 5) (v := .ref (a 9)) (C := RX5) (T := TX5) (N := 18) hx hb hts iX5_goesThrough_X5 hown hK.1 hW.1 0 rfl rfl 11 (by decide) (hts _ mX5_goesThrough_5) (fun _ h9 => h9) rfl dX5_goesThrough_18 ?_
        refine lv_iload_n hx hb dX5_goesThrough_21 rfl (lv_at hl 1 rfl) ?_
        refine lv_bipush (v := zI (-5)) hx hb dX5_goesThrough_22 (by decide +kernel) ?_
        refine z_iast (n := 10) (g := hc) (bs1 := [zMod2 cI a (mm_hold_ (mm_nb_ (mm_row_ b (zrow_1)) (0)) (zU hc ki ((-5))))]) hx hb hK hW 9 rfl dX5_goesThrough_24 (by omega) rfl (fun H locs hW => ?_)
        refine z_iinc (x := ki) (lv' := [(1, .int (zI (ki + 1))), (0, .ref (a 0))]) hx hb dX5_goesThrough_25 hl (k := 1) rfl (by decide) rfl (fun ls hl => ?_)
        refine lv_goto (tgt := 11) hx hb dX5_goesThrough_28 (by decide) ?_
        exact ih11 (ki + 1) (zU hc ki ((-5))) (by omega) (by rw [hhc]; exact cpF_s (fun _ => -5) _ hki.1) (by omega) _ _ hW ls (lv_sub hl [1, 0] rfl)
  exact L11 (((10 - 0) : Int).toNat + 1) 0 (mm_hold b) (by omega) (by exact (cpF_0 _ _).symm) (by omega) _ _ hW ls (lv_sub hl [1, 0] rfl)
