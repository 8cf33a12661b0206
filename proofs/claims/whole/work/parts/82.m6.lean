abbrev qX5_rankOf (cI : ClassId) (a : Nat → Nat) (b : zM2) (y1 : Int) (L : List zPn) (O : List Int) (ev : Int) (n : Int) (k : Nat) (j : Nat) (pq : zPn) : Option Value → List va_W → Prop := fun vq wq => ∃ (r : Int) (zrow : Int → Int), vq = some (.int (zI r)) ∧ wq = [zMod2 cI a (mm_row_ b zrow)] ∧ (r = (j : Int) ∧ FOr zrow (mm_all b) (ordC L O) (L.length : Int))
set_option maxRecDepth 20000 in
theorem iX5_rankOf_X5 : ∀ w ∈ u_ws RX5 TX5 18, w ∈ wsX5_rankOf := by decide +kernel
set_option maxRecDepth 20000 in
theorem mX5_rankOf_1 : (.fieldLink RX5 28 "StoryPanelsModel" "row" "[I" : Cond) ∈ wsX5_rankOf := by decide +kernel
set_option maxHeartbeats 4000000 in
set_option maxRecDepth 100000 in
theorem kX5_rankOf (l : Launch) (D : va_G) (cI cB : ClassId) (a : Nat → Nat) (b : zM2) (y1 : Int) (L : List zPn) (O : List Int) (ev : Int) (n : Int) (k : Nat) (j : Nat) (pq : zPn) (hM : RMb (mm_all b) L O ev n) (hkq : lkP L O k j pq) (hy1 : y1 = (k : Int)) : zMet l yX5_rankOf wsX5_rankOf 2 45 0 0 D cI cB [.ref (a 0), .int (zI y1)] [zMod2 cI a b] (qX5_rankOf cI a b y1 L O ev n k j pq) := by
  refine zMet.of (cd := cX5_rankOf) (maxL := 3) (ret := (some .int)) (by decide) rfl (Nat.le_of_ble_eq_true rfl) ?_
  intro p e s m args below meth c A ls hS hr hlk hnm hK hA hW hl
  have hS : CallFix p m c cX5_rankOf 3 s args wsX5_rankOf RX5 := hS
  have hx := hS.1
  have hb := hS.2.1
  have hown := hS.2.2.2.1
  have hts := hS.2.2.2.2
  have hl : lv_has ls 3 [(0, .ref (a 0)), (1, .int (zI y1))] := hl
  have hM1 := hM.2.1
  have hM3 := hM.2.2.1
  have hkl := lkP_lt hM hkq
  have hln := ordC_ln hM
  refine lv_aload_n hx hb dX5_rankOf_0 rfl (lv_at hl 0 rfl) ?_
  refine z_callV (r := (RX5, TX5, 18)) (As := []) (rest := []) hS hK hA hW hl.1 [0] [] (kX5_findsOrder l D cI cB a b L O ev n hM) (cwV 0 hts gX5_rankOf_X5_findsOrder rfl rfl rfl (by decide +kernel) ⟨Nat.le_of_ble_eq_true rfl, Nat.le_of_ble_eq_true rfl⟩) (rfl : vwCl[5]? = some (RX5, TX5, 18)) (q0 := 0) rfl dX5_rankOf_1 rfl rfl rfl rfl rfl (Nat.le_of_ble_eq_true rfl) ⟨Nat.le_of_ble_eq_true rfl, Nat.le_of_ble_eq_true rfl⟩ (fun v9 w9 H locs hq hW => ?_)
  obtain ⟨zrow_1, rfl, rfl, hh_1⟩ := hq
  have hW : zW D A s.heap [zMod2 cI a (mm_row_ b (zrow_1))] H locs := hW
  refine W.eq (g2 := F0 m 4 ls []) rfl ?_
  have hfo := hh_1
  refine lv_iconst (v := zI (0)) hx hb dX5_rankOf_4 rfl ?_
  refine lv_istore_n (lv' := [(2, .int (zI 0)), (0, .ref (a 0)), (1, .int (zI y1))]) hx hb dX5_rankOf_5 rfl hl (by decide) rfl (fun ls hl => ?_)
  have L6 : ∀ (fu : Nat) (kx : Int), (0 ≤ kx ∧ kx ≤ (j : Int)) → ((j : Int) - kx) < (fu : Int) → ∀ (H : Heap) (locs : List Loc), zW D A s.heap [zMod2 cI a (mm_row_ b (zrow_1))] H locs → ∀ (ls : Array Slot), lv_has ls 3 [(0, .ref (a 0)), (1, .int (zI y1)), (2, .int (zI kx))] → W p l e { frames := 2, cells := 0, slots := 0, locals := 45 } s m args below meth c H locs 0 0 (MQ below (zQ A D (qX5_rankOf cI a b y1 L O ev n k j pq)) args s 0 0 A) (F0 m 6 ls []) := by
    intro fu
    induction fu with
    | zero => intro kx hkx hm; exact absurd hm (by omega)
    | succ fu ih6 =>
      intro kx hkx hm H locs hW ls hl
      have hfk := FO_rk hM hfo hkq (x := kx) (by omega)
      obtain ⟨pf, hf1, hf2, hf3⟩ := FO_at hfo (k := kx) (by omega)
      refine lv_aload_n hx hb dX5_rankOf_6 rfl (lv_at hl 0 rfl) ?_
      refine va_get (D := D) (ci := 5) (v := .ref (a 7)) (C := RX5) (T := TX5) (N := 18) hx hb hts iX5_rankOf_X5 hown hK.1 hW.1 0 rfl rfl 8 (by decide) (hts _ mX5_rankOf_1) (fun _ h9 => h9) rfl dX5_rankOf_7 ?_
      refine lv_iload_n hx hb dX5_rankOf_10 rfl (lv_at hl 2 rfl) ?_
      refine z_iald (n := 10) (g := zrow_1) hx hb hK hW 7 rfl dX5_rankOf_11 (by omega) ?_
      refine lv_iload_n hx hb dX5_rankOf_12 rfl (lv_at hl 1 rfl) ?_
      refine z_icmp_eq (tgt := 22) hx hb dX5_rankOf_13 (by decide) (by omega) (fun cc_13 => ?_) (fun cc_13 => ?_)
      · refine lv_iload_n hx hb dX5_rankOf_22 rfl (lv_at hl 2 rfl) ?_
        exact z_iret (v := kx) hx hb hr hlk hW dX5_rankOf_23 (by
            exact ⟨kx, zrow_1, rfl, rfl, by exact ⟨by omega, hfo⟩⟩)
      · refine z_iinc (x := kx) (lv' := [(2, .int (zI (kx + 1))), (0, .ref (a 0)), (1, .int (zI y1))]) hx hb dX5_rankOf_16 hl (k := 2) rfl (by decide) rfl (fun ls hl => ?_)
        refine lv_goto (tgt := 6) hx hb dX5_rankOf_19 (by decide) ?_
        exact ih6 (kx + 1) (by omega) (by omega) _ _ hW ls (lv_sub hl [1, 2, 0] rfl)
  exact L6 ((((j : Int) - 0) : Int).toNat + 1) 0 (by omega) (by omega) _ _ hW ls (lv_sub hl [1, 2, 0] rfl)

abbrev qX5_beginOf (cI : ClassId) (a : Nat → Nat) (b : zM2) (y1 : Int) (L : List zPn) (O : List Int) (ev : Int) (n : Int) (k : Nat) (j : Nat) (pq : zPn) : Option Value → List va_W → Prop := fun vq wq => ∃ (r : Int) (zrow : Int → Int), vq = some (.int (zI r)) ∧ wq = [zMod2 cI a (mm_row_ b zrow)] ∧ (r = tkC (ordC L O) (j : Int))
set_option maxRecDepth 20000 in
theorem iX5_beginOf_X5 : ∀ w ∈ u_ws RX5 TX5 18, w ∈ wsX5_beginOf := by decide +kernel
set_option maxRecDepth 20000 in
theorem mX5_beginOf_1 : (.fieldLink RX5 28 "StoryPanelsModel" "row" "[I" : Cond) ∈ wsX5_beginOf := by decide +kernel
set_option maxHeartbeats 4000000 in
set_option maxRecDepth 100000 in
theorem kX5_beginOf (l : Launch) (D : va_G) (cI cB : ClassId) (a : Nat → Nat) (b : zM2) (y1 : Int) (L : List zPn) (O : List Int) (ev : Int) (n : Int) (k : Nat) (j : Nat) (pq : zPn) (hM : RMb (mm_all b) L O ev n) (hkq : lkP L O k j pq) (hy1 : y1 = (k : Int)) : zMet l yX5_beginOf wsX5_beginOf 3 67 0 0 D cI cB [.ref (a 0), .int (zI y1)] [zMod2 cI a b] (qX5_beginOf cI a b y1 L O ev n k j pq) := by
  refine zMet.of (cd := cX5_beginOf) (maxL := 5) (ret := (some .int)) (by decide) rfl (Nat.le_of_ble_eq_true rfl) ?_
  intro p e s m args below meth c A ls hS hr hlk hnm hK hA hW hl
  have hS : CallFix p m c cX5_beginOf 5 s args wsX5_beginOf RX5 := hS
  have hx := hS.1
  have hb := hS.2.1
  have hown := hS.2.2.2.1
  have hts := hS.2.2.2.2
  have hl : lv_has ls 5 [(0, .ref (a 0)), (1, .int (zI y1))] := hl
  have hM1 := hM.2.1
  have hM3 := hM.2.2.1
  have hkl := lkP_lt hM hkq
  have hln := ordC_ln hM
  refine lv_aload_n hx hb dX5_beginOf_0 rfl (lv_at hl 0 rfl) ?_
  refine lv_iload_n hx hb dX5_beginOf_1 rfl (lv_at hl 1 rfl) ?_
  refine z_callV (r := (RX5, TX5, 18)) (As := [.int (zI y1)]) (rest := []) hS hK hA hW hl.1 [0] [] (kX5_rankOf l D cI cB a b y1 L O ev n k j pq hM hkq hy1) (cwV 1 hts gX5_beginOf_X5_rankOf rfl rfl rfl (by decide +kernel) ⟨Nat.le_of_ble_eq_true rfl, Nat.le_of_ble_eq_true rfl⟩) (rfl : vwCl[5]? = some (RX5, TX5, 18)) (q0 := 0) rfl dX5_beginOf_2 rfl rfl rfl rfl rfl (Nat.le_of_ble_eq_true rfl) ⟨Nat.le_of_ble_eq_true rfl, Nat.le_of_ble_eq_true rfl⟩ (fun v9 w9 H locs hq hW => ?_)
  obtain ⟨rr_2, zrow_2, rfl, rfl, hh_2⟩ := hq
  have hW : zW D A s.heap [zMod2 cI a (mm_row_ b (zrow_2))] H locs := hW
  refine W.eq (g2 := F0 m 5 ls [.int (zI rr_2)]) rfl ?_
  have hfo := hh_2.2
  rw [show rr_2 = ((j : Int)) by exact hh_2.1]
  refine lv_istore_n (lv' := [(2, .int (zI ((j : Int)))), (0, .ref (a 0)), (1, .int (zI y1))]) hx hb dX5_beginOf_5 rfl hl (by decide) rfl (fun ls hl => ?_)
  refine lv_iconst (v := zI (0)) hx hb dX5_beginOf_6 rfl ?_
  refine lv_istore_n (lv' := [(3, .int (zI 0)), (2, .int (zI ((j : Int)))), (0, .ref (a 0)), (1, .int (zI y1))]) hx hb dX5_beginOf_7 rfl hl (by decide) rfl (fun ls hl => ?_)
  refine lv_iconst (v := zI (0)) hx hb dX5_beginOf_8 rfl ?_
  refine lv_istore (lv' := [(4, .int (zI 0)), (3, .int (zI 0)), (2, .int (zI ((j : Int)))), (0, .ref (a 0)), (1, .int (zI y1))]) hx hb dX5_beginOf_9 hl (by decide) rfl (fun ls hl => ?_)
  have L11 : ∀ (fu : Nat) (fc : Int) (ki : Int), (0 ≤ ki ∧ ki ≤ (j : Int)) → (fc = tkC (ordC L O) ki) → ((j : Int) - ki) < (fu : Int) → ∀ (H : Heap) (locs : List Loc), zW D A s.heap [zMod2 cI a (mm_row_ b (zrow_2))] H locs → ∀ (ls : Array Slot), lv_has ls 5 [(0, .ref (a 0)), (1, .int (zI y1)), (2, .int (zI ((j : Int)))), (3, .int (zI fc)), (4, .int (zI ki))] → W p l e { frames := 3, cells := 0, slots := 0, locals := 67 } s m args below meth c H locs 0 0 (MQ below (zQ A D (qX5_beginOf cI a b y1 L O ev n k j pq)) args s 0 0 A) (F0 m 11 ls []) := by
    intro fu
    induction fu with
    | zero => intro fc ki hki hfc hm; exact absurd hm (by omega)
    | succ fu ih11 =>
      intro fc ki hki hfc hm H locs hW ls hl
      refine lv_iload hx hb dX5_beginOf_11 (lv_at hl 4 rfl) ?_
      refine lv_iload_n hx hb dX5_beginOf_13 rfl (lv_at hl 2 rfl) ?_
      refine z_icmp_ge (tgt := 38) hx hb dX5_beginOf_14 (by decide) (by omega) (fun cc_14 => ?_) (fun cc_14 => ?_)
      · refine lv_iload_n hx hb dX5_beginOf_38 rfl (lv_at hl 3 rfl) ?_
        exact z_iret (v := fc) hx hb hr hlk hW dX5_beginOf_39 (by
            exact ⟨fc, zrow_2, rfl, rfl, by rw [hfc, show ki = (j : Int) by omega]⟩)
      · obtain ⟨pf, hf1, hf2, hf3⟩ := FO_at hfo (k := ki) (by omega)
        refine lv_iload_n hx hb dX5_beginOf_17 rfl (lv_at hl 3 rfl) ?_
        refine lv_aload_n hx hb dX5_beginOf_18 rfl (lv_at hl 0 rfl) ?_
        refine lv_aload_n hx hb dX5_beginOf_19 rfl (lv_at hl 0 rfl) ?_
        refine va_get (D := D) (ci := 5) (v := .ref (a 7)) (C := RX5) (T := TX5) (N := 18) hx hb hts iX5_beginOf_X5 hown hK.1 hW.1 0 rfl rfl 8 (by decide) (hts _ mX5_beginOf_1) (fun _ h9 => h9) rfl dX5_beginOf_20 ?_
        refine lv_iload hx hb dX5_beginOf_23 (lv_at hl 4 rfl) ?_
        refine z_iald (n := 10) (g := zrow_2) hx hb hK hW 7 rfl dX5_beginOf_25 (by omega) ?_
        refine lv_iconst (v := zI (2)) hx hb dX5_beginOf_26 rfl ?_
        refine z_callV (r := (RX5, TX5, 18)) (As := [.int (zI (zrow_2 ki)), .int (zI 2)]) (rest := [.int (zI fc)]) hS hK hA hW hl.1 [0] [] (kX5_of l D cI cB a ((mm_row_ b (zrow_2))) (zrow_2 ki) 2 (by omega) (by omega)) (cwV 2 hts gX5_beginOf_X5_of rfl rfl rfl (by decide +kernel) ⟨Nat.le_of_ble_eq_true rfl, Nat.le_of_ble_eq_true rfl⟩) (rfl : vwCl[5]? = some (RX5, TX5, 18)) (q0 := 0) rfl dX5_beginOf_27 rfl rfl rfl rfl rfl (Nat.le_of_ble_eq_true rfl) ⟨Nat.le_of_ble_eq_true rfl, Nat.le_of_ble_eq_true rfl⟩ (fun v9 w9 H locs hq hW => ?_)
        obtain ⟨rr_27, rfl, rfl, hh_27⟩ := hq
        subst rr_27
        have hW : zW D A s.heap [zMod2 cI a (mm_row_ b (zrow_2))] H locs := hW
        refine W.eq (g2 := F0 m 30 ls [.int (zI (fL (mm_all ((mm_row_ b (zrow_2)))) (zrow_2 ki) 2)), .int (zI fc)]) rfl ?_
        rw [show (fL (mm_all ((mm_row_ b (zrow_2)))) (zrow_2 ki) 2) = pf.2.2.1 by exact hf3.2.2.1]
        refine z_iadd hx hb dX5_beginOf_30 ?_
        refine lv_istore_n (lv' := [(3, .int (zI (fc + pf.2.2.1))), (0, .ref (a 0)), (1, .int (zI y1)), (2, .int (zI ((j : Int)))), (4, .int (zI ki))]) hx hb dX5_beginOf_31 rfl hl (by decide) rfl (fun ls hl => ?_)
        refine z_iinc (x := ki) (lv' := [(4, .int (zI (ki + 1))), (3, .int (zI (fc + pf.2.2.1))), (0, .ref (a 0)), (1, .int (zI y1)), (2, .int (zI ((j : Int))))]) hx hb dX5_beginOf_32 hl (k := 4) rfl (by decide) rfl (fun ls hl => ?_)
        refine lv_goto (tgt := 11) hx hb dX5_beginOf_35 (by decide) ?_
        exact ih11 (fc + pf.2.2.1) (ki + 1) (by omega) (by rw [tkC_s _ hki.1 hf1, hfc]) (by omega) _ _ hW ls (lv_sub hl [2, 3, 4, 1, 0] rfl)
  exact L11 ((((j : Int) - 0) : Int).toNat + 1) 0 0 (by omega) (by rfl) (by omega) _ _ hW ls (lv_sub hl [3, 4, 2, 1, 0] rfl)

abbrev qX5_breaksIn (cI : ClassId) (a : Nat → Nat) (b : zM2) (y1 : Int) (L : List zPn) (O : List Int) (ev : Int) (n : Int) : Option Value → List va_W → Prop := fun vq wq => ∃ (r : Int) (zrow : Int → Int) (zbrk : Int → Int) (znb : Int) (zhold : Int → Int) (zmov : Int → Int) (zbeh : Int → Int), vq = some (.int (zI r)) ∧ wq = [zMod2 cI a (mm_beh_ (mm_mov_ (mm_hold_ (mm_nb_ (mm_brk_ (mm_row_ b zrow) zbrk) znb) zhold) zmov) zbeh)] ∧ (r = haveB (ordC L O) 0 y1)
set_option maxRecDepth 20000 in
theorem iX5_breaksIn_X5 : ∀ w ∈ u_ws RX5 TX5 18, w ∈ wsX5_breaksIn := by decide +kernel
set_option maxRecDepth 20000 in
theorem mX5_breaksIn_1 : (.fieldLink RX5 78 "StoryPanelsModel" "breaks" "I" : Cond) ∈ wsX5_breaksIn := by decide +kernel
set_option maxRecDepth 20000 in
theorem mX5_breaksIn_2 : (.fieldLink RX5 31 "StoryPanelsModel" "broken" "[I" : Cond) ∈ wsX5_breaksIn := by decide +kernel
set_option maxHeartbeats 4000000 in
set_option maxRecDepth 100000 in
theorem kX5_breaksIn (l : Launch) (D : va_G) (cI cB : ClassId) (a : Nat → Nat) (b : zM2) (y1 : Int) (L : List zPn) (O : List Int) (ev : Int) (n : Int) (hM : RMb (mm_all b) L O ev n) (hy1 : R32 y1) : zMet l yX5_breaksIn wsX5_breaksIn 5 116 0 0 D cI cB [.ref (a 0), .int (zI y1)] [zMod2 cI a b] (qX5_breaksIn cI a b y1 L O ev n) := by
  refine zMet.of (cd := cX5_breaksIn) (maxL := 4) (ret := (some .int)) (by decide) rfl (Nat.le_of_ble_eq_true rfl) ?_
  intro p e s m args below meth c A ls hS hr hlk hnm hK hA hW hl
  have hS : CallFix p m c cX5_breaksIn 4 s args wsX5_breaksIn RX5 := hS
  have hx := hS.1
  have hb := hS.2.1
  have hown := hS.2.2.2.1
  have hts := hS.2.2.2.2
  have hl : lv_has ls 4 [(0, .ref (a 0)), (1, .int (zI y1))] := hl
  have hrg := nbC_rgM hM
  refine lv_aload_n hx hb dX5_breaksIn_0 rfl (lv_at hl 0 rfl) ?_
  refine z_callV (r := (RX5, TX5, 18)) (As := []) (rest := []) hS hK hA hW hl.1 [0] [] (kX5_goesThrough l D cI cB a b L O ev n hM) (cwV 0 hts gX5_breaksIn_X5_goesThrough rfl rfl rfl (by decide +kernel) ⟨Nat.le_of_ble_eq_true rfl, Nat.le_of_ble_eq_true rfl⟩) (rfl : vwCl[5]? = some (RX5, TX5, 18)) (q0 := 0) rfl dX5_breaksIn_1 rfl rfl rfl rfl rfl (Nat.le_of_ble_eq_true rfl) ⟨Nat.le_of_ble_eq_true rfl, Nat.le_of_ble_eq_true rfl⟩ (fun v9 w9 H locs hq hW => ?_)
  obtain ⟨zrow_1, zbrk_1, znb_1, zhold_1, zmov_1, zbeh_1, rfl, rfl, hh_1⟩ := hq
  have hW : zW D A s.heap [zMod2 cI a (mm_beh_ (mm_mov_ (mm_hold_ (mm_nb_ (mm_brk_ (mm_row_ b (zrow_1)) (zbrk_1)) (znb_1)) (zhold_1)) (zmov_1)) (zbeh_1))] H locs := hW
  refine W.eq (g2 := F0 m 4 ls []) rfl ?_
  have hcg := hh_1.2.1
  refine lv_iconst (v := zI (0)) hx hb dX5_breaksIn_4 rfl ?_
  refine lv_istore_n (lv' := [(2, .int (zI 0)), (0, .ref (a 0)), (1, .int (zI y1))]) hx hb dX5_breaksIn_5 rfl hl (by decide) rfl (fun ls hl => ?_)
  refine lv_iconst (v := zI (0)) hx hb dX5_breaksIn_6 rfl ?_
  refine lv_istore_n (lv' := [(3, .int (zI 0)), (2, .int (zI 0)), (0, .ref (a 0)), (1, .int (zI y1))]) hx hb dX5_breaksIn_7 rfl hl (by decide) rfl (fun ls hl => ?_)
  have L8 : ∀ (fu : Nat) (fc : Int) (ki : Int), (0 ≤ ki ∧ ki ≤ nbC (ordC L O)) → (fc = zcnt (fun k => decide (bkGet (brkAt (ordC L O) k) 0 = y1)) ki) → (nbC (ordC L O) - ki) < (fu : Int) → ∀ (H : Heap) (locs : List Loc), zW D A s.heap [zMod2 cI a (mm_beh_ (mm_mov_ (mm_hold_ (mm_nb_ (mm_brk_ (mm_row_ b (zrow_1)) (zbrk_1)) (znb_1)) (zhold_1)) (zmov_1)) (zbeh_1))] H locs → ∀ (ls : Array Slot), lv_has ls 4 [(0, .ref (a 0)), (1, .int (zI y1)), (2, .int (zI fc)), (3, .int (zI ki))] → W p l e { frames := 5, cells := 0, slots := 0, locals := 116 } s m args below meth c H locs 0 0 (MQ below (zQ A D (qX5_breaksIn cI a b y1 L O ev n)) args s 0 0 A) (F0 m 8 ls []) := by
    intro fu
    induction fu with
    | zero => intro fc ki hki hfc hm; exact absurd hm (by omega)
    | succ fu ih8 =>
      intro fc ki hki hfc hm H locs hW ls hl
      have hnb : znb_1 = nbC (ordC L O) := hcg.2.1
      refine lv_iload_n hx hb dX5_breaksIn_8 rfl (lv_at hl 3 rfl) ?_
      refine lv_aload_n hx hb dX5_breaksIn_9 rfl (lv_at hl 0 rfl) ?_
      refine va_get (D := D) (ci := 5) (v := .int (zI znb_1)) (C := RX5) (T := TX5) (N := 18) hx hb hts iX5_breaksIn_X5 hown hK.1 hW.1 0 rfl rfl 10 (by decide) (hts _ mX5_breaksIn_1) (fun _ h9 => h9) rfl dX5_breaksIn_10 ?_
      refine z_icmp_ge (tgt := 42) hx hb dX5_breaksIn_13 (by decide) (by omega) (fun cc_13 => ?_) (fun cc_13 => ?_)
      · refine lv_iload_n hx hb dX5_breaksIn_42 rfl (lv_at hl 2 rfl) ?_
        exact z_iret (v := fc) hx hb hr hlk hW dX5_breaksIn_43 (by
            exact ⟨fc, zrow_1, zbrk_1, znb_1, zhold_1, zmov_1, zbeh_1, rfl, rfl, by rw [hfc, show ki = nbC (ordC L O) by omega]; rfl⟩)
      · have hbk := brk_rgM hM (k := ki) (by omega)
        have hbg := RCg_get hcg (k := ki) (by omega)
        have hbr := bkGet_rg hbk 0
        refine lv_iload_n hx hb dX5_breaksIn_16 rfl (lv_at hl 2 rfl) ?_
        refine lv_aload_n hx hb dX5_breaksIn_17 rfl (lv_at hl 0 rfl) ?_
        refine va_get (D := D) (ci := 5) (v := .ref (a 8)) (C := RX5) (T := TX5) (N := 18) hx hb hts iX5_breaksIn_X5 hown hK.1 hW.1 0 rfl rfl 9 (by decide) (hts _ mX5_breaksIn_2) (fun _ h9 => h9) rfl dX5_breaksIn_18 ?_
        refine lv_iconst (v := zI (5)) hx hb dX5_breaksIn_21 rfl ?_
        refine lv_iload_n hx hb dX5_breaksIn_22 rfl (lv_at hl 3 rfl) ?_
        refine z_imul hx hb dX5_breaksIn_23 ?_
        refine z_iald (n := 850) (g := zbrk_1) hx hb hK hW 8 rfl dX5_breaksIn_24 (by omega) ?_
        refine lv_iload_n hx hb dX5_breaksIn_25 rfl (lv_at hl 1 rfl) ?_
        refine z_icmp_ne (tgt := 33) hx hb dX5_breaksIn_26 (by decide) (by omega) (fun cc_26 => ?_) (fun cc_26 => ?_)
        · refine lv_iconst (v := zI (0)) hx hb dX5_breaksIn_33 rfl ?_
          refine z_iadd hx hb dX5_breaksIn_34 ?_
          refine lv_istore_n (lv' := [(2, .int (zI (fc + 0))), (0, .ref (a 0)), (1, .int (zI y1)), (3, .int (zI ki))]) hx hb dX5_breaksIn_35 rfl hl (by decide) rfl (fun ls hl => ?_)
          refine z_iinc (x := ki) (lv' := [(3, .int (zI (ki + 1))), (2, .int (zI (fc + 0))), (0, .ref (a 0)), (1, .int (zI y1))]) hx hb dX5_breaksIn_36 hl (k := 3) rfl (by decide) rfl (fun ls hl => ?_)
          refine lv_goto (tgt := 8) hx hb dX5_breaksIn_39 (by decide) ?_
          exact ih8 (fc + 0) (ki + 1) (by omega) (by rw [zcnt_s _ hki.1, hfc]; first | (rw [if_pos (decide_eq_true (by omega))]; done) | (rw [if_neg (by rw [decide_eq_false (by omega)]; decide)]; done)) (by omega) _ _ hW ls (lv_sub hl [2, 3, 1, 0] rfl)
        · refine lv_iconst (v := zI (1)) hx hb dX5_breaksIn_29 rfl ?_
          refine lv_goto (tgt := 34) hx hb dX5_breaksIn_30 (by decide) ?_
          refine z_iadd hx hb dX5_breaksIn_34 ?_
          refine lv_istore_n (lv' := [(2, .int (zI (fc + 1))), (0, .ref (a 0)), (1, .int (zI y1)), (3, .int (zI ki))]) hx hb dX5_breaksIn_35 rfl hl (by decide) rfl (fun ls hl => ?_)
          refine z_iinc (x := ki) (lv' := [(3, .int (zI (ki + 1))), (2, .int (zI (fc + 1))), (0, .ref (a 0)), (1, .int (zI y1))]) hx hb dX5_breaksIn_36 hl (k := 3) rfl (by decide) rfl (fun ls hl => ?_)
          refine lv_goto (tgt := 8) hx hb dX5_breaksIn_39 (by decide) ?_
          exact ih8 (fc + 1) (ki + 1) (by omega) (by rw [zcnt_s _ hki.1, hfc]; first | (rw [if_pos (decide_eq_true (by omega))]; done) | (rw [if_neg (by rw [decide_eq_false (by omega)]; decide)]; done)) (by omega) _ _ hW ls (lv_sub hl [2, 3, 1, 0] rfl)
  exact L8 (((nbC (ordC L O) - 0) : Int).toNat + 1) 0 0 (by omega) (by rfl) (by omega) _ _ hW ls (lv_sub hl [2, 3, 1, 0] rfl)

abbrev qX5_breaksOfKind (cI : ClassId) (a : Nat → Nat) (b : zM2) (y1 : Int) (L : List zPn) (O : List Int) (ev : Int) (n : Int) : Option Value → List va_W → Prop := fun vq wq => ∃ (r : Int) (zrow : Int → Int) (zbrk : Int → Int) (znb : Int) (zhold : Int → Int) (zmov : Int → Int) (zbeh : Int → Int), vq = some (.int (zI r)) ∧ wq = [zMod2 cI a (mm_beh_ (mm_mov_ (mm_hold_ (mm_nb_ (mm_brk_ (mm_row_ b zrow) zbrk) znb) zhold) zmov) zbeh)] ∧ (r = haveB (ordC L O) 1 y1)
set_option maxRecDepth 20000 in
theorem iX5_breaksOfKind_X5 : ∀ w ∈ u_ws RX5 TX5 18, w ∈ wsX5_breaksOfKind := by decide +kernel
set_option maxRecDepth 20000 in
theorem mX5_breaksOfKind_1 : (.fieldLink RX5 78 "StoryPanelsModel" "breaks" "I" : Cond) ∈ wsX5_breaksOfKind := by decide +kernel
set_option maxRecDepth 20000 in
theorem mX5_breaksOfKind_2 : (.fieldLink RX5 31 "StoryPanelsModel" "broken" "[I" : Cond) ∈ wsX5_breaksOfKind := by decide +kernel
set_option maxHeartbeats 4000000 in
set_option maxRecDepth 100000 in
theorem kX5_breaksOfKind (l : Launch) (D : va_G) (cI cB : ClassId) (a : Nat → Nat) (b : zM2) (y1 : Int) (L : List zPn) (O : List Int) (ev : Int) (n : Int) (hM : RMb (mm_all b) L O ev n) (hy1 : R32 y1) : zMet l yX5_breaksOfKind wsX5_breaksOfKind 5 116 0 0 D cI cB [.ref (a 0), .int (zI y1)] [zMod2 cI a b] (qX5_breaksOfKind cI a b y1 L O ev n) := by
  refine zMet.of (cd := cX5_breaksOfKind) (maxL := 4) (ret := (some .int)) (by decide) rfl (Nat.le_of_ble_eq_true rfl) ?_
  intro p e s m args below meth c A ls hS hr hlk hnm hK hA hW hl
  have hS : CallFix p m c cX5_breaksOfKind 4 s args wsX5_breaksOfKind RX5 := hS
  have hx := hS.1
  have hb := hS.2.1
  have hown := hS.2.2.2.1
  have hts := hS.2.2.2.2
  have hl : lv_has ls 4 [(0, .ref (a 0)), (1, .int (zI y1))] := hl
  have hrg := nbC_rgM hM
  refine lv_aload_n hx hb dX5_breaksOfKind_0 rfl (lv_at hl 0 rfl) ?_
  refine z_callV (r := (RX5, TX5, 18)) (As := []) (rest := []) hS hK hA hW hl.1 [0] [] (kX5_goesThrough l D cI cB a b L O ev n hM) (cwV 0 hts gX5_breaksOfKind_X5_goesThrough rfl rfl rfl (by decide +kernel) ⟨Nat.le_of_ble_eq_true rfl, Nat.le_of_ble_eq_true rfl⟩) (rfl : vwCl[5]? = some (RX5, TX5, 18)) (q0 := 0) rfl dX5_breaksOfKind_1 rfl rfl rfl rfl rfl (Nat.le_of_ble_eq_true rfl) ⟨Nat.le_of_ble_eq_true rfl, Nat.le_of_ble_eq_true rfl⟩ (fun v9 w9 H locs hq hW => ?_)
  obtain ⟨zrow_1, zbrk_1, znb_1, zhold_1, zmov_1, zbeh_1, rfl, rfl, hh_1⟩ := hq
  have hW : zW D A s.heap [zMod2 cI a (mm_beh_ (mm_mov_ (mm_hold_ (mm_nb_ (mm_brk_ (mm_row_ b (zrow_1)) (zbrk_1)) (znb_1)) (zhold_1)) (zmov_1)) (zbeh_1))] H locs := hW
  refine W.eq (g2 := F0 m 4 ls []) rfl ?_
  have hcg := hh_1.2.1
  refine lv_iconst (v := zI (0)) hx hb dX5_breaksOfKind_4 rfl ?_
  refine lv_istore_n (lv' := [(2, .int (zI 0)), (0, .ref (a 0)), (1, .int (zI y1))]) hx hb dX5_breaksOfKind_5 rfl hl (by decide) rfl (fun ls hl => ?_)
  refine lv_iconst (v := zI (0)) hx hb dX5_breaksOfKind_6 rfl ?_
  refine lv_istore_n (lv' := [(3, .int (zI 0)), (2, .int (zI 0)), (0, .ref (a 0)), (1, .int (zI y1))]) hx hb dX5_breaksOfKind_7 rfl hl (by decide) rfl (fun ls hl => ?_)
  have L8 : ∀ (fu : Nat) (fc : Int) (ki : Int), (0 ≤ ki ∧ ki ≤ nbC (ordC L O)) → (fc = zcnt (fun k => decide (bkGet (brkAt (ordC L O) k) 1 = y1)) ki) → (nbC (ordC L O) - ki) < (fu : Int) → ∀ (H : Heap) (locs : List Loc), zW D A s.heap [zMod2 cI a (mm_beh_ (mm_mov_ (mm_hold_ (mm_nb_ (mm_brk_ (mm_row_ b (zrow_1)) (zbrk_1)) (znb_1)) (zhold_1)) (zmov_1)) (zbeh_1))] H locs → ∀ (ls : Array Slot), lv_has ls 4 [(0, .ref (a 0)), (1, .int (zI y1)), (2, .int (zI fc)), (3, .int (zI ki))] → W p l e { frames := 5, cells := 0, slots := 0, locals := 116 } s m args below meth c H locs 0 0 (MQ below (zQ A D (qX5_breaksOfKind cI a b y1 L O ev n)) args s 0 0 A) (F0 m 8 ls []) := by
    intro fu
    induction fu with
    | zero => intro fc ki hki hfc hm; exact absurd hm (by omega)
    | succ fu ih8 =>
      intro fc ki hki hfc hm H locs hW ls hl
      have hnb : znb_1 = nbC (ordC L O) := hcg.2.1
      refine lv_iload_n hx hb dX5_breaksOfKind_8 rfl (lv_at hl 3 rfl) ?_
      refine lv_aload_n hx hb dX5_breaksOfKind_9 rfl (lv_at hl 0 rfl) ?_
      refine va_get (D := D) (ci := 5) (v := .int (zI znb_1)) (C := RX5) (T := TX5) (N := 18) hx hb hts iX5_breaksOfKind_X5 hown hK.1 hW.1 0 rfl rfl 10 (by decide) (hts _ mX5_breaksOfKind_1) (fun _ h9 => h9) rfl dX5_breaksOfKind_10 ?_
      refine z_icmp_ge (tgt := 44) hx hb dX5_breaksOfKind_13 (by decide) (by omega) (fun cc_13 => ?_) (fun cc_13 => ?_)
      · refine lv_iload_n hx hb dX5_breaksOfKind_44 rfl (lv_at hl 2 rfl) ?_
        exact z_iret (v := fc) hx hb hr hlk hW dX5_breaksOfKind_45 (by
            exact ⟨fc, zrow_1, zbrk_1, znb_1, zhold_1, zmov_1, zbeh_1, rfl, rfl, by rw [hfc, show ki = nbC (ordC L O) by omega]; rfl⟩)
      · have hbk := brk_rgM hM (k := ki) (by omega)
        have hbg := RCg_get hcg (k := ki) (by omega)
        have hbr := bkGet_rg hbk 1
        refine lv_iload_n hx hb dX5_breaksOfKind_16 rfl (lv_at hl 2 rfl) ?_
        refine lv_aload_n hx hb dX5_breaksOfKind_17 rfl (lv_at hl 0 rfl) ?_
        refine va_get (D := D) (ci := 5) (v := .ref (a 8)) (C := RX5) (T := TX5) (N := 18) hx hb hts iX5_breaksOfKind_X5 hown hK.1 hW.1 0 rfl rfl 9 (by decide) (hts _ mX5_breaksOfKind_2) (fun _ h9 => h9) rfl dX5_breaksOfKind_18 ?_
        refine lv_iconst (v := zI (5)) hx hb dX5_breaksOfKind_21 rfl ?_
        refine lv_iload_n hx hb dX5_breaksOfKind_22 rfl (lv_at hl 3 rfl) ?_
        refine z_imul hx hb dX5_breaksOfKind_23 ?_
        refine lv_iconst (v := zI (1)) hx hb dX5_breaksOfKind_24 rfl ?_
        refine z_iadd hx hb dX5_breaksOfKind_25 ?_
        refine z_iald (n := 850) (g := zbrk_1) hx hb hK hW 8 rfl dX5_breaksOfKind_26 (by omega) ?_
        refine lv_iload_n hx hb dX5_breaksOfKind_27 rfl (lv_at hl 1 rfl) ?_
        refine z_icmp_ne (tgt := 35) hx hb dX5_breaksOfKind_28 (by decide) (by omega) (fun cc_28 => ?_) (fun cc_28 => ?_)
        · refine lv_iconst (v := zI (0)) hx hb dX5_breaksOfKind_35 rfl ?_
          refine z_iadd hx hb dX5_breaksOfKind_36 ?_
          refine lv_istore_n (lv' := [(2, .int (zI (fc + 0))), (0, .ref (a 0)), (1, .int (zI y1)), (3, .int (zI ki))]) hx hb dX5_breaksOfKind_37 rfl hl (by decide) rfl (fun ls hl => ?_)
          refine z_iinc (x := ki) (lv' := [(3, .int (zI (ki + 1))), (2, .int (zI (fc + 0))), (0, .ref (a 0)), (1, .int (zI y1))]) hx hb dX5_breaksOfKind_38 hl (k := 3) rfl (by decide) rfl (fun ls hl => ?_)
          refine lv_goto (tgt := 8) hx hb dX5_breaksOfKind_41 (by decide) ?_
          exact ih8 (fc + 0) (ki + 1) (by omega) (by rw [zcnt_s _ hki.1, hfc]; first | (rw [if_pos (decide_eq_true (by omega))]; done) | (rw [if_neg (by rw [decide_eq_false (by omega)]; decide)]; done)) (by omega) _ _ hW ls (lv_sub hl [2, 3, 1, 0] rfl)
        · refine lv_iconst (v := zI (1)) hx hb dX5_breaksOfKind_31 rfl ?_
          refine lv_goto (tgt := 36) hx hb dX5_breaksOfKind_32 (by decide) ?_
          refine z_iadd hx hb dX5_breaksOfKind_36 ?_
          refine lv_istore_n (lv' := [(2, .int (zI (fc + 1))), (0, .ref (a 0)), (1, .int (zI y1)), (3, .int (zI ki))]) hx hb dX5_breaksOfKind_37 rfl hl (by decide) rfl (fun ls hl => ?_)
          refine z_iinc (x := ki) (lv' := [(3, .int (zI (ki + 1))), (2, .int (zI (fc + 1))), (0, .ref (a 0)), (1, .int (zI y1))]) hx hb dX5_breaksOfKind_38 hl (k := 3) rfl (by decide) rfl (fun ls hl => ?_)
          refine lv_goto (tgt := 8) hx hb dX5_breaksOfKind_41 (by decide) ?_
          exact ih8 (fc + 1) (ki + 1) (by omega) (by rw [zcnt_s _ hki.1, hfc]; first | (rw [if_pos (decide_eq_true (by omega))]; done) | (rw [if_neg (by rw [decide_eq_false (by omega)]; decide)]; done)) (by omega) _ _ hW ls (lv_sub hl [2, 3, 1, 0] rfl)
  exact L8 (((nbC (ordC L O) - 0) : Int).toNat + 1) 0 0 (by omega) (by rfl) (by omega) _ _ hW ls (lv_sub hl [2, 3, 1, 0] rfl)

abbrev qX5_sceneOf (cI : ClassId) (a : Nat → Nat) (b : zM2) (y1 : Int) (L : List zPn) (O : List Int) (ev : Int) (n : Int) : Option Value → List va_W → Prop := fun vq wq => ∃ (r : Int), vq = some (.int (zI r)) ∧ wq = [zMod2 cI a b] ∧ (r = scN (ordC L O) y1)
set_option maxHeartbeats 4000000 in
set_option maxRecDepth 100000 in
theorem kX5_sceneOf (l : Launch) (D : va_G) (cI cB : ClassId) (a : Nat → Nat) (b : zM2) (y1 : Int) (L : List zPn) (O : List Int) (ev : Int) (n : Int) (hM : RMb (mm_all b) L O ev n) (hy1 : R32 y1) (hx9 : ∃ p ∈ ordC L O, p.1 = y1) : zMet l yX5_sceneOf wsX5_sceneOf 2 44 0 0 D cI cB [.ref (a 0), .int (zI y1)] [zMod2 cI a b] (qX5_sceneOf cI a b y1 L O ev n) := by
  refine zMet.of (cd := cX5_sceneOf) (maxL := 2) (ret := (some .int)) (by decide) rfl (Nat.le_of_ble_eq_true rfl) ?_
  intro p e s m args below meth c A ls hS hr hlk hnm hK hA hW hl
  have hS : CallFix p m c cX5_sceneOf 2 s args wsX5_sceneOf RX5 := hS
  have hx := hS.1
  have hb := hS.2.1
  have hown := hS.2.2.2.1
  have hts := hS.2.2.2.2
  have hl : lv_has ls 2 [(0, .ref (a 0)), (1, .int (zI y1))] := hl
  have hM1 := hM.2.1
  have hM3 := hM.2.2.1
  refine lv_aload_n hx hb dX5_sceneOf_0 rfl (lv_at hl 0 rfl) ?_
  refine lv_aload_n hx hb dX5_sceneOf_1 rfl (lv_at hl 0 rfl) ?_
  refine lv_iload_n hx hb dX5_sceneOf_2 rfl (lv_at hl 1 rfl) ?_
  refine z_callV (r := (RX5, TX5, 18)) (As := [.int (zI y1)]) (rest := [.ref (a 0)]) hS hK hA hW hl.1 [0] [] (kX5_lieOf l D cI cB a b y1 L O ev n hM hy1) (cwV 1 hts gX5_sceneOf_X5_lieOf rfl rfl rfl (by decide +kernel) ⟨Nat.le_of_ble_eq_true rfl, Nat.le_of_ble_eq_true rfl⟩) (rfl : vwCl[5]? = some (RX5, TX5, 18)) (q0 := 0) rfl dX5_sceneOf_3 rfl rfl rfl rfl rfl (Nat.le_of_ble_eq_true rfl) ⟨Nat.le_of_ble_eq_true rfl, Nat.le_of_ble_eq_true rfl⟩ (fun v9 w9 H locs hq hW => ?_)
  obtain ⟨rr_3, rfl, rfl, hh_3⟩ := hq
  have hW : zW D A s.heap [zMod2 cI a b] H locs := hW
  refine W.eq (g2 := F0 m 6 ls [.int (zI rr_3), .ref (a 0)]) rfl ?_
  obtain ⟨kq, jq, pq, hkq, hrw, hsc, -⟩ := scN_in hM (lie_c hM hh_3) hx9
  refine lv_iconst (v := zI (1)) hx hb dX5_sceneOf_6 rfl ?_
  refine z_callV (r := (RX5, TX5, 18)) (As := [.int (zI rr_3), .int (zI 1)]) (rest := []) hS hK hA hW hl.1 [0] [] (kX5_of l D cI cB a b rr_3 1 (by omega) (by omega)) (cwV 2 hts gX5_sceneOf_X5_of rfl rfl rfl (by decide +kernel) ⟨Nat.le_of_ble_eq_true rfl, Nat.le_of_ble_eq_true rfl⟩) (rfl : vwCl[5]? = some (RX5, TX5, 18)) (q0 := 0) rfl dX5_sceneOf_7 rfl rfl rfl rfl rfl (Nat.le_of_ble_eq_true rfl) ⟨Nat.le_of_ble_eq_true rfl, Nat.le_of_ble_eq_true rfl⟩ (fun v9 w9 H locs hq hW => ?_)
  obtain ⟨rr_7, rfl, rfl, hh_7⟩ := hq
  subst rr_7
  have hW : zW D A s.heap [zMod2 cI a b] H locs := hW
  refine W.eq (g2 := F0 m 10 ls [.int (zI (fL (mm_all b) rr_3 1))]) rfl ?_
  rw [show (fL (mm_all b) rr_3 1) = (scN (ordC L O) y1) by exact (by rw [hkq.2]; exact hrw.2.1.trans hsc)]
  exact z_iret (v := scN (ordC L O) y1) hx hb hr hlk hW dX5_sceneOf_10 (by
      exact ⟨scN (ordC L O) y1, rfl, rfl, by rfl⟩)

abbrev qX5_durationOf (cI : ClassId) (a : Nat → Nat) (b : zM2) (y1 : Int) (L : List zPn) (O : List Int) (ev : Int) (n : Int) : Option Value → List va_W → Prop := fun vq wq => ∃ (r : Int), vq = some (.int (zI r)) ∧ wq = [zMod2 cI a b] ∧ (r = durS L y1)
set_option maxRecDepth 20000 in
theorem iX5_durationOf_X5 : ∀ w ∈ u_ws RX5 TX5 18, w ∈ wsX5_durationOf := by decide +kernel
set_option maxRecDepth 20000 in
theorem mX5_durationOf_1 : (.fieldLink RX5 7 "StoryPanelsModel" "all" "[I" : Cond) ∈ wsX5_durationOf := by decide +kernel
set_option maxHeartbeats 4000000 in
set_option maxRecDepth 100000 in
theorem kX5_durationOf (l : Launch) (D : va_G) (cI cB : ClassId) (a : Nat → Nat) (b : zM2) (y1 : Int) (L : List zPn) (O : List Int) (ev : Int) (n : Int) (hM : RMb (mm_all b) L O ev n) (hy1 : R32 y1) : zMet l yX5_durationOf wsX5_durationOf 1 22 0 0 D cI cB [.ref (a 0), .int (zI y1)] [zMod2 cI a b] (qX5_durationOf cI a b y1 L O ev n) := by
  refine zMet.of (cd := cX5_durationOf) (maxL := 4) (ret := (some .int)) (by decide) rfl (Nat.le_of_ble_eq_true rfl) ?_
  intro p e s m args below meth c A ls hS hr hlk hnm hK hA hW hl
  have hS : CallFix p m c cX5_durationOf 4 s args wsX5_durationOf RX5 := hS
  have hx := hS.1
  have hb := hS.2.1
  have hown := hS.2.2.2.1
  have hts := hS.2.2.2.2
  have hl : lv_has ls 4 [(0, .ref (a 0)), (1, .int (zI y1))] := hl
  have hM1 := hM.2.1
  have hM3 := hM.2.2.1
  refine lv_iconst (v := zI (0)) hx hb dX5_durationOf_0 rfl ?_
  refine lv_istore_n (lv' := [(2, .int (zI 0)), (0, .ref (a 0)), (1, .int (zI y1))]) hx hb dX5_durationOf_1 rfl hl (by decide) rfl (fun ls hl => ?_)
  refine lv_iconst (v := zI (0)) hx hb dX5_durationOf_2 rfl ?_
  refine lv_istore_n (lv' := [(3, .int (zI 0)), (2, .int (zI 0)), (0, .ref (a 0)), (1, .int (zI y1))]) hx hb dX5_durationOf_3 rfl hl (by decide) rfl (fun ls hl => ?_)
  have L4 : ∀ (fu : Nat) (fc : Int) (ki : Int), (0 ≤ ki ∧ ki ≤ (L.length : Int)) → (fc = durS (L.take ki.toNat) y1) → ((L.length : Int) - ki) < (fu : Int) → ∀ (H : Heap) (locs : List Loc), zW D A s.heap [zMod2 cI a b] H locs → ∀ (ls : Array Slot), lv_has ls 4 [(0, .ref (a 0)), (1, .int (zI y1)), (2, .int (zI fc)), (3, .int (zI ki))] → W p l e { frames := 1, cells := 0, slots := 0, locals := 22 } s m args below meth c H locs 0 0 (MQ below (zQ A D (qX5_durationOf cI a b y1 L O ev n)) args s 0 0 A) (F0 m 4 ls []) := by
    intro fu
    induction fu with
    | zero => intro fc ki hki hfc hm; exact absurd hm (by omega)
    | succ fu ih4 =>
      intro fc ki hki hfc hm H locs hW ls hl
      refine lv_iload_n hx hb dX5_durationOf_4 rfl (lv_at hl 3 rfl) ?_
      refine lv_aload_n hx hb dX5_durationOf_5 rfl (lv_at hl 0 rfl) ?_
      refine va_get (D := D) (ci := 5) (v := .ref (a 1)) (C := RX5) (T := TX5) (N := 18) hx hb hts iX5_durationOf_X5 hown hK.1 hW.1 0 rfl rfl 0 (by decide) (hts _ mX5_durationOf_1) (fun _ h9 => h9) rfl dX5_durationOf_6 ?_
      refine lv_iconst (v := zI (1)) hx hb dX5_durationOf_9 rfl ?_
      refine z_iald (n := 227) (g := mm_all b) hx hb hK hW 1 rfl dX5_durationOf_10 (by omega) ?_
      refine z_icmp_ge (tgt := 43) hx hb dX5_durationOf_11 (by decide) (by omega) (fun cc_11 => ?_) (fun cc_11 => ?_)
      · refine lv_iload_n hx hb dX5_durationOf_43 rfl (lv_at hl 2 rfl) ?_
        exact z_iret (v := fc) hx hb hr hlk hW dX5_durationOf_44 (by
            exact ⟨fc, rfl, rfl, by rw [hfc, List.take_of_length_le (by omega)]⟩)
      · obtain ⟨pk, hpk, hrk, hok, -⟩ := RM_k hM (k := ki) (by omega)
        have hok1 := hok.1
        have hok2 := hok.2.1
        have hok3 := hok.2.2.1
        have hok4 := hok.2.2.2.1
        refine lv_iload_n hx hb dX5_durationOf_14 rfl (lv_at hl 2 rfl) ?_
        refine lv_aload_n hx hb dX5_durationOf_15 rfl (lv_at hl 0 rfl) ?_
        refine lv_iload_n hx hb dX5_durationOf_16 rfl (lv_at hl 3 rfl) ?_
        refine lv_iconst (v := zI (1)) hx hb dX5_durationOf_17 rfl ?_
        refine z_callV (r := (RX5, TX5, 18)) (As := [.int (zI ki), .int (zI 1)]) (rest := [.int (zI fc)]) hS hK hA hW hl.1 [0] [] (kX5_of l D cI cB a b ki 1 (by omega) (by omega)) (cwV 2 hts gX5_durationOf_X5_of rfl rfl rfl (by decide +kernel) ⟨Nat.le_of_ble_eq_true rfl, Nat.le_of_ble_eq_true rfl⟩) (rfl : vwCl[5]? = some (RX5, TX5, 18)) (q0 := 0) rfl dX5_durationOf_18 rfl rfl rfl rfl rfl (Nat.le_of_ble_eq_true rfl) ⟨Nat.le_of_ble_eq_true rfl, Nat.le_of_ble_eq_true rfl⟩ (fun v9 w9 H locs hq hW => ?_)
        obtain ⟨rr_18, rfl, rfl, hh_18⟩ := hq
        subst rr_18
        have hW : zW D A s.heap [zMod2 cI a b] H locs := hW
        refine W.eq (g2 := F0 m 21 ls [.int (zI (fL (mm_all b) ki 1)), .int (zI fc)]) rfl ?_
        rw [show (fL (mm_all b) ki 1) = pk.2.1 by exact hrk.2.1]
        refine lv_iload_n hx hb dX5_durationOf_21 rfl (lv_at hl 1 rfl) ?_
        refine z_icmp_ne (tgt := 34) hx hb dX5_durationOf_22 (by decide) (by omega) (fun cc_22 => ?_) (fun cc_22 => ?_)
        · refine lv_iconst (v := zI (0)) hx hb dX5_durationOf_34 rfl ?_
          refine z_iadd hx hb dX5_durationOf_35 ?_
          refine lv_istore_n (lv' := [(2, .int (zI (fc + 0))), (0, .ref (a 0)), (1, .int (zI y1)), (3, .int (zI ki))]) hx hb dX5_durationOf_36 rfl hl (by decide) rfl (fun ls hl => ?_)
          refine z_iinc (x := ki) (lv' := [(3, .int (zI (ki + 1))), (2, .int (zI (fc + 0))), (0, .ref (a 0)), (1, .int (zI y1))]) hx hb dX5_durationOf_37 hl (k := 3) rfl (by decide) rfl (fun ls hl => ?_)
          refine lv_goto (tgt := 4) hx hb dX5_durationOf_40 (by decide) ?_
          exact ih4 (fc + 0) (ki + 1) (by omega) (by first | (rw [durS_s hki.1 hpk, if_pos (by omega), hfc]; done) | (rw [durS_s hki.1 hpk, if_neg (by omega), hfc]; done)) (by omega) _ _ hW ls (lv_sub hl [2, 3, 1, 0] rfl)
        · refine lv_aload_n hx hb dX5_durationOf_25 rfl (lv_at hl 0 rfl) ?_
          refine lv_iload_n hx hb dX5_durationOf_26 rfl (lv_at hl 3 rfl) ?_
          refine lv_iconst (v := zI (2)) hx hb dX5_durationOf_27 rfl ?_
          refine z_callV (r := (RX5, TX5, 18)) (As := [.int (zI ki), .int (zI 2)]) (rest := [.int (zI fc)]) hS hK hA hW hl.1 [0] [] (kX5_of l D cI cB a b ki 2 (by omega) (by omega)) (cwV 2 hts gX5_durationOf_X5_of rfl rfl rfl (by decide +kernel) ⟨Nat.le_of_ble_eq_true rfl, Nat.le_of_ble_eq_true rfl⟩) (rfl : vwCl[5]? = some (RX5, TX5, 18)) (q0 := 0) rfl dX5_durationOf_28 rfl rfl rfl rfl rfl (Nat.le_of_ble_eq_true rfl) ⟨Nat.le_of_ble_eq_true rfl, Nat.le_of_ble_eq_true rfl⟩ (fun v9 w9 H locs hq hW => ?_)
          obtain ⟨rr_28, rfl, rfl, hh_28⟩ := hq
          subst rr_28
          have hW : zW D A s.heap [zMod2 cI a b] H locs := hW
          refine W.eq (g2 := F0 m 31 ls [.int (zI (fL (mm_all b) ki 2)), .int (zI fc)]) rfl ?_
          rw [show (fL (mm_all b) ki 2) = pk.2.2.1 by exact hrk.2.2.1]
          refine lv_goto (tgt := 35) hx hb dX5_durationOf_31 (by decide) ?_
          refine z_iadd hx hb dX5_durationOf_35 ?_
          refine lv_istore_n (lv' := [(2, .int (zI (fc + pk.2.2.1))), (0, .ref (a 0)), (1, .int (zI y1)), (3, .int (zI ki))]) hx hb dX5_durationOf_36 rfl hl (by decide) rfl (fun ls hl => ?_)
          refine z_iinc (x := ki) (lv' := [(3, .int (zI (ki + 1))), (2, .int (zI (fc + pk.2.2.1))), (0, .ref (a 0)), (1, .int (zI y1))]) hx hb dX5_durationOf_37 hl (k := 3) rfl (by decide) rfl (fun ls hl => ?_)
          refine lv_goto (tgt := 4) hx hb dX5_durationOf_40 (by decide) ?_
          exact ih4 (fc + pk.2.2.1) (ki + 1) (by omega) (by first | (rw [durS_s hki.1 hpk, if_pos (by omega), hfc]; done) | (rw [durS_s hki.1 hpk, if_neg (by omega), hfc]; done)) (by omega) _ _ hW ls (lv_sub hl [2, 3, 1, 0] rfl)
  exact L4 ((((L.length : Int) - 0) : Int).toNat + 1) 0 0 (by omega) (by rfl) (by omega) _ _ hW ls (lv_sub hl [2, 3, 1, 0] rfl)

abbrev qX5_breaksOf (cI : ClassId) (a : Nat → Nat) (b : zM2) (y1 : Int) (L : List zPn) (O : List Int) (ev : Int) (n : Int) : Option Value → List va_W → Prop := fun vq wq => ∃ (r : Int) (zrow : Int → Int) (zbrk : Int → Int) (znb : Int) (zhold : Int → Int) (zmov : Int → Int) (zbeh : Int → Int), vq = some (.int (zI r)) ∧ wq = [zMod2 cI a (mm_beh_ (mm_mov_ (mm_hold_ (mm_nb_ (mm_brk_ (mm_row_ b zrow) zbrk) znb) zhold) zmov) zbeh)] ∧ (r = scnB (ordC L O) y1)
set_option maxRecDepth 20000 in
theorem iX5_breaksOf_X5 : ∀ w ∈ u_ws RX5 TX5 18, w ∈ wsX5_breaksOf := by decide +kernel
set_option maxRecDepth 20000 in
theorem mX5_breaksOf_1 : (.fieldLink RX5 78 "StoryPanelsModel" "breaks" "I" : Cond) ∈ wsX5_breaksOf := by decide +kernel
set_option maxRecDepth 20000 in
theorem mX5_breaksOf_2 : (.fieldLink RX5 31 "StoryPanelsModel" "broken" "[I" : Cond) ∈ wsX5_breaksOf := by decide +kernel
set_option maxHeartbeats 4000000 in
set_option maxRecDepth 100000 in
theorem kX5_breaksOf (l : Launch) (D : va_G) (cI cB : ClassId) (a : Nat → Nat) (b : zM2) (y1 : Int) (L : List zPn) (O : List Int) (ev : Int) (n : Int) (hM : RMb (mm_all b) L O ev n) (hy1 : R32 y1) : zMet l yX5_breaksOf wsX5_breaksOf 5 116 0 0 D cI cB [.ref (a 0), .int (zI y1)] [zMod2 cI a b] (qX5_breaksOf cI a b y1 L O ev n) := by
  refine zMet.of (cd := cX5_breaksOf) (maxL := 4) (ret := (some .int)) (by decide) rfl (Nat.le_of_ble_eq_true rfl) ?_
  intro p e s m args below meth c A ls hS hr hlk hnm hK hA hW hl
  have hS : CallFix p m c cX5_breaksOf 4 s args wsX5_breaksOf RX5 := hS
  have hx := hS.1
  have hb := hS.2.1
  have hown := hS.2.2.2.1
  have hts := hS.2.2.2.2
  have hl : lv_has ls 4 [(0, .ref (a 0)), (1, .int (zI y1))] := hl
  have hrg := nbC_rgM hM
  refine lv_aload_n hx hb dX5_breaksOf_0 rfl (lv_at hl 0 rfl) ?_
  refine z_callV (r := (RX5, TX5, 18)) (As := []) (rest := []) hS hK hA hW hl.1 [0] [] (kX5_goesThrough l D cI cB a b L O ev n hM) (cwV 0 hts gX5_breaksOf_X5_goesThrough rfl rfl rfl (by decide +kernel) ⟨Nat.le_of_ble_eq_true rfl, Nat.le_of_ble_eq_true rfl⟩) (rfl : vwCl[5]? = some (RX5, TX5, 18)) (q0 := 0) rfl dX5_breaksOf_1 rfl rfl rfl rfl rfl (Nat.le_of_ble_eq_true rfl) ⟨Nat.le_of_ble_eq_true rfl, Nat.le_of_ble_eq_true rfl⟩ (fun v9 w9 H locs hq hW => ?_)
  obtain ⟨zrow_1, zbrk_1, znb_1, zhold_1, zmov_1, zbeh_1, rfl, rfl, hh_1⟩ := hq
  have hW : zW D A s.heap [zMod2 cI a (mm_beh_ (mm_mov_ (mm_hold_ (mm_nb_ (mm_brk_ (mm_row_ b (zrow_1)) (zbrk_1)) (znb_1)) (zhold_1)) (zmov_1)) (zbeh_1))] H locs := hW
  refine W.eq (g2 := F0 m 4 ls []) rfl ?_
  have hcg := hh_1.2.1
  refine lv_iconst (v := zI (0)) hx hb dX5_breaksOf_4 rfl ?_
  refine lv_istore_n (lv' := [(2, .int (zI 0)), (0, .ref (a 0)), (1, .int (zI y1))]) hx hb dX5_breaksOf_5 rfl hl (by decide) rfl (fun ls hl => ?_)
  refine lv_iconst (v := zI (0)) hx hb dX5_breaksOf_6 rfl ?_
  refine lv_istore_n (lv' := [(3, .int (zI 0)), (2, .int (zI 0)), (0, .ref (a 0)), (1, .int (zI y1))]) hx hb dX5_breaksOf_7 rfl hl (by decide) rfl (fun ls hl => ?_)
  have L8 : ∀ (fu : Nat) (fc : Int) (ki : Int), (0 ≤ ki ∧ ki ≤ nbC (ordC L O)) → (fc = zcnt (fun k => decide (scN (ordC L O) (brkAt (ordC L O) k).1 = y1)) ki) → (nbC (ordC L O) - ki) < (fu : Int) → ∀ (H : Heap) (locs : List Loc), zW D A s.heap [zMod2 cI a (mm_beh_ (mm_mov_ (mm_hold_ (mm_nb_ (mm_brk_ (mm_row_ b (zrow_1)) (zbrk_1)) (znb_1)) (zhold_1)) (zmov_1)) (zbeh_1))] H locs → ∀ (ls : Array Slot), lv_has ls 4 [(0, .ref (a 0)), (1, .int (zI y1)), (2, .int (zI fc)), (3, .int (zI ki))] → W p l e { frames := 5, cells := 0, slots := 0, locals := 116 } s m args below meth c H locs 0 0 (MQ below (zQ A D (qX5_breaksOf cI a b y1 L O ev n)) args s 0 0 A) (F0 m 8 ls []) := by
    intro fu
    induction fu with
    | zero => intro fc ki hki hfc hm; exact absurd hm (by omega)
    | succ fu ih8 =>
      intro fc ki hki hfc hm H locs hW ls hl
      have hnb : znb_1 = nbC (ordC L O) := hcg.2.1
      refine lv_iload_n hx hb dX5_breaksOf_8 rfl (lv_at hl 3 rfl) ?_
      refine lv_aload_n hx hb dX5_breaksOf_9 rfl (lv_at hl 0 rfl) ?_
      refine va_get (D := D) (ci := 5) (v := .int (zI znb_1)) (C := RX5) (T := TX5) (N := 18) hx hb hts iX5_breaksOf_X5 hown hK.1 hW.1 0 rfl rfl 10 (by decide) (hts _ mX5_breaksOf_1) (fun _ h9 => h9) rfl dX5_breaksOf_10 ?_
      refine z_icmp_ge (tgt := 46) hx hb dX5_breaksOf_13 (by decide) (by omega) (fun cc_13 => ?_) (fun cc_13 => ?_)
      · refine lv_iload_n hx hb dX5_breaksOf_46 rfl (lv_at hl 2 rfl) ?_
        exact z_iret (v := fc) hx hb hr hlk hW dX5_breaksOf_47 (by
            exact ⟨fc, zrow_1, zbrk_1, znb_1, zhold_1, zmov_1, zbeh_1, rfl, rfl, by rw [hfc, show ki = nbC (ordC L O) by omega]; rfl⟩)
      · have hbk := brk_rgM hM (k := ki) (by omega)
        have hbg := RCg_get hcg (k := ki) (by omega)
        have hbr := bkGet_rg hbk 0
        have hsg := bk_sc hM (brkAt (ordC L O) ki).1
        refine lv_iload_n hx hb dX5_breaksOf_16 rfl (lv_at hl 2 rfl) ?_
        refine lv_aload_n hx hb dX5_breaksOf_17 rfl (lv_at hl 0 rfl) ?_
        refine lv_aload_n hx hb dX5_breaksOf_18 rfl (lv_at hl 0 rfl) ?_
        refine va_get (D := D) (ci := 5) (v := .ref (a 8)) (C := RX5) (T := TX5) (N := 18) hx hb hts iX5_breaksOf_X5 hown hK.1 hW.1 0 rfl rfl 9 (by decide) (hts _ mX5_breaksOf_2) (fun _ h9 => h9) rfl dX5_breaksOf_19 ?_
        refine lv_iconst (v := zI (5)) hx hb dX5_breaksOf_22 rfl ?_
        refine lv_iload_n hx hb dX5_breaksOf_23 rfl (lv_at hl 3 rfl) ?_
        refine z_imul hx hb dX5_breaksOf_24 ?_
        refine z_iald (n := 850) (g := zbrk_1) hx hb hK hW 8 rfl dX5_breaksOf_25 (by omega) ?_
        refine z_callV (r := (RX5, TX5, 18)) (As := [.int (zI (zbrk_1 (5 * ki)))]) (rest := [.int (zI fc)]) hS hK hA hW hl.1 [0] [] (kX5_sceneOf l D cI cB a ((mm_beh_ (mm_mov_ (mm_hold_ (mm_nb_ (mm_brk_ (mm_row_ b (zrow_1)) (zbrk_1)) (znb_1)) (zhold_1)) (zmov_1)) (zbeh_1))) (zbrk_1 (5 * ki)) L O ev n hM (by omega) (by (rw [hbg.1]; exact brkAt_of (by omega)))) (cwV 1 hts gX5_breaksOf_X5_sceneOf rfl rfl rfl (by decide +kernel) ⟨Nat.le_of_ble_eq_true rfl, Nat.le_of_ble_eq_true rfl⟩) (rfl : vwCl[5]? = some (RX5, TX5, 18)) (q0 := 0) rfl dX5_breaksOf_26 rfl rfl rfl rfl rfl (Nat.le_of_ble_eq_true rfl) ⟨Nat.le_of_ble_eq_true rfl, Nat.le_of_ble_eq_true rfl⟩ (fun v9 w9 H locs hq hW => ?_)
        obtain ⟨rr_26, rfl, rfl, hh_26⟩ := hq
        subst rr_26
        have hW : zW D A s.heap [zMod2 cI a (mm_beh_ (mm_mov_ (mm_hold_ (mm_nb_ (mm_brk_ (mm_row_ b (zrow_1)) (zbrk_1)) (znb_1)) (zhold_1)) (zmov_1)) (zbeh_1))] H locs := hW
        refine W.eq (g2 := F0 m 29 ls [.int (zI (scN (ordC L O) (zbrk_1 (5 * ki)))), .int (zI fc)]) rfl ?_
        rw [show (scN (ordC L O) (zbrk_1 (5 * ki))) = (scN (ordC L O) (brkAt (ordC L O) ki).1) by rw [hbg.1]; rfl]
        refine lv_iload_n hx hb dX5_breaksOf_29 rfl (lv_at hl 1 rfl) ?_
        refine z_icmp_ne (tgt := 37) hx hb dX5_breaksOf_30 (by decide) (by omega) (fun cc_30 => ?_) (fun cc_30 => ?_)
        · refine lv_iconst (v := zI (0)) hx hb dX5_breaksOf_37 rfl ?_
          refine z_iadd hx hb dX5_breaksOf_38 ?_
          refine lv_istore_n (lv' := [(2, .int (zI (fc + 0))), (0, .ref (a 0)), (1, .int (zI y1)), (3, .int (zI ki))]) hx hb dX5_breaksOf_39 rfl hl (by decide) rfl (fun ls hl => ?_)
          refine z_iinc (x := ki) (lv' := [(3, .int (zI (ki + 1))), (2, .int (zI (fc + 0))), (0, .ref (a 0)), (1, .int (zI y1))]) hx hb dX5_breaksOf_40 hl (k := 3) rfl (by decide) rfl (fun ls hl => ?_)
          refine lv_goto (tgt := 8) hx hb dX5_breaksOf_43 (by decide) ?_
          exact ih8 (fc + 0) (ki + 1) (by omega) (by rw [zcnt_s _ hki.1, hfc]; first | (rw [if_pos (decide_eq_true (by omega))]; done) | (rw [if_neg (by rw [decide_eq_false (by omega)]; decide)]; done)) (by omega) _ _ hW ls (lv_sub hl [2, 3, 1, 0] rfl)
        · refine lv_iconst (v := zI (1)) hx hb dX5_breaksOf_33 rfl ?_
          refine lv_goto (tgt := 38) hx hb dX5_breaksOf_34 (by decide) ?_
          refine z_iadd hx hb dX5_breaksOf_38 ?_
          refine lv_istore_n (lv' := [(2, .int (zI (fc + 1))), (0, .ref (a 0)), (1, .int (zI y1)), (3, .int (zI ki))]) hx hb dX5_breaksOf_39 rfl hl (by decide) rfl (fun ls hl => ?_)
          refine z_iinc (x := ki) (lv' := [(3, .int (zI (ki + 1))), (2, .int (zI (fc + 1))), (0, .ref (a 0)), (1, .int (zI y1))]) hx hb dX5_breaksOf_40 hl (k := 3) rfl (by decide) rfl (fun ls hl => ?_)
          refine lv_goto (tgt := 8) hx hb dX5_breaksOf_43 (by decide) ?_
          exact ih8 (fc + 1) (ki + 1) (by omega) (by rw [zcnt_s _ hki.1, hfc]; first | (rw [if_pos (decide_eq_true (by omega))]; done) | (rw [if_neg (by rw [decide_eq_false (by omega)]; decide)]; done)) (by omega) _ _ hW ls (lv_sub hl [2, 3, 1, 0] rfl)
  exact L8 (((nbC (ordC L O) - 0) : Int).toNat + 1) 0 0 (by omega) (by rfl) (by omega) _ _ hW ls (lv_sub hl [2, 3, 1, 0] rfl)

abbrev qX5_beginOfScene (cI : ClassId) (a : Nat → Nat) (b : zM2) (y1 : Int) (L : List zPn) (O : List Int) (ev : Int) (n : Int) : Option Value → List va_W → Prop := fun vq wq => ∃ (r : Int), vq = some (.int (zI r)) ∧ wq = [zMod2 cI a b] ∧ (r = bgS L O (O.idxOf y1 : Int))
set_option maxRecDepth 20000 in
theorem iX5_beginOfScene_X5 : ∀ w ∈ u_ws RX5 TX5 18, w ∈ wsX5_beginOfScene := by decide +kernel
set_option maxRecDepth 20000 in
theorem mX5_beginOfScene_1 : (.fieldLink RX5 7 "StoryPanelsModel" "all" "[I" : Cond) ∈ wsX5_beginOfScene := by decide +kernel
set_option maxHeartbeats 4000000 in
set_option maxRecDepth 100000 in
theorem kX5_beginOfScene (l : Launch) (D : va_G) (cI cB : ClassId) (a : Nat → Nat) (b : zM2) (y1 : Int) (L : List zPn) (O : List Int) (ev : Int) (n : Int) (hM : RMb (mm_all b) L O ev n) (hy1 : 0 ≤ y1 ∧ y1 < 5) : zMet l yX5_beginOfScene wsX5_beginOfScene 2 45 0 0 D cI cB [.ref (a 0), .int (zI y1)] [zMod2 cI a b] (qX5_beginOfScene cI a b y1 L O ev n) := by
  refine zMet.of (cd := cX5_beginOfScene) (maxL := 4) (ret := (some .int)) (by decide) rfl (Nat.le_of_ble_eq_true rfl) ?_
  intro p e s m args below meth c A ls hS hr hlk hnm hK hA hW hl
  have hS : CallFix p m c cX5_beginOfScene 4 s args wsX5_beginOfScene RX5 := hS
  have hx := hS.1
  have hb := hS.2.1
  have hown := hS.2.2.2.1
  have hts := hS.2.2.2.2
  have hl : lv_has ls 4 [(0, .ref (a 0)), (1, .int (zI y1))] := hl
  have hI := RM_idx hM hy1
  refine lv_iconst (v := zI (0)) hx hb dX5_beginOfScene_0 rfl ?_
  refine lv_istore_n (lv' := [(2, .int (zI 0)), (0, .ref (a 0)), (1, .int (zI y1))]) hx hb dX5_beginOfScene_1 rfl hl (by decide) rfl (fun ls hl => ?_)
  refine lv_iconst (v := zI (0)) hx hb dX5_beginOfScene_2 rfl ?_
  refine lv_istore_n (lv' := [(3, .int (zI 0)), (2, .int (zI 0)), (0, .ref (a 0)), (1, .int (zI y1))]) hx hb dX5_beginOfScene_3 rfl hl (by decide) rfl (fun ls hl => ?_)
  have L4 : ∀ (fu : Nat) (fc : Int) (ki : Int), (0 ≤ ki ∧ ki ≤ (O.idxOf y1 : Int)) → (fc = bgS L O ki) → ((O.idxOf y1 : Int) - ki) < (fu : Int) → ∀ (H : Heap) (locs : List Loc), zW D A s.heap [zMod2 cI a b] H locs → ∀ (ls : Array Slot), lv_has ls 4 [(0, .ref (a 0)), (1, .int (zI y1)), (2, .int (zI fc)), (3, .int (zI ki))] → W p l e { frames := 2, cells := 0, slots := 0, locals := 45 } s m args below meth c H locs 0 0 (MQ below (zQ A D (qX5_beginOfScene cI a b y1 L O ev n)) args s 0 0 A) (F0 m 4 ls []) := by
    intro fu
    induction fu with
    | zero => intro fc ki hki hfc hm; exact absurd hm (by omega)
    | succ fu ih4 =>
      intro fc ki hki hfc hm H locs hW ls hl
      refine lv_iload_n hx hb dX5_beginOfScene_4 rfl (lv_at hl 3 rfl) ?_
      refine lv_aload_n hx hb dX5_beginOfScene_5 rfl (lv_at hl 0 rfl) ?_
      refine lv_iload_n hx hb dX5_beginOfScene_6 rfl (lv_at hl 1 rfl) ?_
      refine z_callV (r := (RX5, TX5, 18)) (As := [.int (zI y1)]) (rest := [.int (zI ki)]) hS hK hA hW hl.1 [0] [] (kX5_placeOfScene l D cI cB a b y1 L O ev n hM hy1) (cwV 1 hts gX5_beginOfScene_X5_placeOfScene rfl rfl rfl (by decide +kernel) ⟨Nat.le_of_ble_eq_true rfl, Nat.le_of_ble_eq_true rfl⟩) (rfl : vwCl[5]? = some (RX5, TX5, 18)) (q0 := 0) rfl dX5_beginOfScene_7 rfl rfl rfl rfl rfl (Nat.le_of_ble_eq_true rfl) ⟨Nat.le_of_ble_eq_true rfl, Nat.le_of_ble_eq_true rfl⟩ (fun v9 w9 H locs hq hW => ?_)
      obtain ⟨rr_7, rfl, rfl, hh_7⟩ := hq
      subst rr_7
      have hW : zW D A s.heap [zMod2 cI a b] H locs := hW
      refine W.eq (g2 := F0 m 10 ls [.int (zI ((O.idxOf y1 : Int))), .int (zI ki)]) rfl ?_
      refine z_icmp_ge (tgt := 34) hx hb dX5_beginOfScene_10 (by decide) (by omega) (fun cc_10 => ?_) (fun cc_10 => ?_)
      · refine lv_iload_n hx hb dX5_beginOfScene_34 rfl (lv_at hl 2 rfl) ?_
        exact z_iret (v := fc) hx hb hr hlk hW dX5_beginOfScene_35 (by
            exact ⟨fc, rfl, rfl, by rw [hfc, show ki = (O.idxOf y1 : Int) by omega]⟩)
      · obtain ⟨sq, hs1, hs2, hs3, hs4⟩ := RM_Ok hM (k := ki) (by omega)
        refine lv_iload_n hx hb dX5_beginOfScene_13 rfl (lv_at hl 2 rfl) ?_
        refine lv_aload_n hx hb dX5_beginOfScene_14 rfl (lv_at hl 0 rfl) ?_
        refine lv_aload_n hx hb dX5_beginOfScene_15 rfl (lv_at hl 0 rfl) ?_
        refine va_get (D := D) (ci := 5) (v := .ref (a 1)) (C := RX5) (T := TX5) (N := 18) hx hb hts iX5_beginOfScene_X5 hown hK.1 hW.1 0 rfl rfl 0 (by decide) (hts _ mX5_beginOfScene_1) (fun _ h9 => h9) rfl dX5_beginOfScene_16 ?_
        refine lv_iconst (v := zI (2)) hx hb dX5_beginOfScene_19 rfl ?_
        refine lv_iload_n hx hb dX5_beginOfScene_20 rfl (lv_at hl 3 rfl) ?_
        refine z_iadd hx hb dX5_beginOfScene_21 ?_
        refine z_iald (n := 227) (g := mm_all b) hx hb hK hW 1 rfl dX5_beginOfScene_22 (by omega) ?_
        refine z_callV (r := (RX5, TX5, 18)) (As := [.int (zI ((mm_all b) (2 + ki)))]) (rest := [.int (zI fc)]) hS hK hA hW hl.1 [0] [] (kX5_durationOf l D cI cB a b ((mm_all b) (2 + ki)) L O ev n hM (by omega)) (cwV 1 hts gX5_beginOfScene_X5_durationOf rfl rfl rfl (by decide +kernel) ⟨Nat.le_of_ble_eq_true rfl, Nat.le_of_ble_eq_true rfl⟩) (rfl : vwCl[5]? = some (RX5, TX5, 18)) (q0 := 0) rfl dX5_beginOfScene_23 rfl rfl rfl rfl rfl (Nat.le_of_ble_eq_true rfl) ⟨Nat.le_of_ble_eq_true rfl, Nat.le_of_ble_eq_true rfl⟩ (fun v9 w9 H locs hq hW => ?_)
        obtain ⟨rr_23, rfl, rfl, hh_23⟩ := hq
        subst rr_23
        have hW : zW D A s.heap [zMod2 cI a b] H locs := hW
        refine W.eq (g2 := F0 m 26 ls [.int (zI (durS L ((mm_all b) (2 + ki)))), .int (zI fc)]) rfl ?_
        rw [show (durS L ((mm_all b) (2 + ki))) = (durS L sq) by rw [hs2]]
        refine z_iadd hx hb dX5_beginOfScene_26 ?_
        refine lv_istore_n (lv' := [(2, .int (zI (fc + (durS L sq)))), (0, .ref (a 0)), (1, .int (zI y1)), (3, .int (zI ki))]) hx hb dX5_beginOfScene_27 rfl hl (by decide) rfl (fun ls hl => ?_)
        refine z_iinc (x := ki) (lv' := [(3, .int (zI (ki + 1))), (2, .int (zI (fc + (durS L sq)))), (0, .ref (a 0)), (1, .int (zI y1))]) hx hb dX5_beginOfScene_28 hl (k := 3) rfl (by decide) rfl (fun ls hl => ?_)
        refine lv_goto (tgt := 4) hx hb dX5_beginOfScene_31 (by decide) ?_
        exact ih4 (fc + (durS L sq)) (ki + 1) (by omega) (by rw [bgS_s L hki.1 hs1, hfc]) (by omega) _ _ hW ls (lv_sub hl [2, 3, 1, 0] rfl)
  exact L4 ((((O.idxOf y1 : Int) - 0) : Int).toNat + 1) 0 0 (by omega) (by rfl) (by omega) _ _ hW ls (lv_sub hl [2, 3, 1, 0] rfl)

abbrev qX5_durations (cI : ClassId) (a : Nat → Nat) (b : zM2) (L : List zPn) (O : List Int) (ev : Int) (n : Int) : Option Value → List va_W → Prop := fun vq wq => ∃ (r : Int), vq = some (.int (zI r)) ∧ wq = [zMod2 cI a b] ∧ (r = tkC (ordC L O) (ordC L O).length)
set_option maxRecDepth 20000 in
theorem iX5_durations_X5 : ∀ w ∈ u_ws RX5 TX5 18, w ∈ wsX5_durations := by decide +kernel
set_option maxRecDepth 20000 in
theorem mX5_durations_1 : (.fieldLink RX5 7 "StoryPanelsModel" "all" "[I" : Cond) ∈ wsX5_durations := by decide +kernel
set_option maxHeartbeats 4000000 in
set_option maxRecDepth 100000 in
theorem kX5_durations (l : Launch) (D : va_G) (cI cB : ClassId) (a : Nat → Nat) (b : zM2) (L : List zPn) (O : List Int) (ev : Int) (n : Int) (hM : RMb (mm_all b) L O ev n) : zMet l yX5_durations wsX5_durations 1 22 0 0 D cI cB [.ref (a 0)] [zMod2 cI a b] (qX5_durations cI a b L O ev n) := by
  refine zMet.of (cd := cX5_durations) (maxL := 3) (ret := (some .int)) (by decide) rfl (Nat.le_of_ble_eq_true rfl) ?_
  intro p e s m args below meth c A ls hS hr hlk hnm hK hA hW hl
  have hS : CallFix p m c cX5_durations 3 s args wsX5_durations RX5 := hS
  have hx := hS.1
  have hb := hS.2.1
  have hown := hS.2.2.2.1
  have hts := hS.2.2.2.2
  have hl : lv_has ls 3 [(0, .ref (a 0))] := hl
  have hM1 := hM.2.1
  have hM3 := hM.2.2.1
  refine lv_iconst (v := zI (0)) hx hb dX5_durations_0 rfl ?_
  refine lv_istore_n (lv' := [(1, .int (zI 0)), (0, .ref (a 0))]) hx hb dX5_durations_1 rfl hl (by decide) rfl (fun ls hl => ?_)
  refine lv_iconst (v := zI (0)) hx hb dX5_durations_2 rfl ?_
  refine lv_istore_n (lv' := [(2, .int (zI 0)), (1, .int (zI 0)), (0, .ref (a 0))]) hx hb dX5_durations_3 rfl hl (by decide) rfl (fun ls hl => ?_)
  have L4 : ∀ (fu : Nat) (fc : Int) (ki : Int), (0 ≤ ki ∧ ki ≤ (L.length : Int)) → (fc = tkC L ki) → ((L.length : Int) - ki) < (fu : Int) → ∀ (H : Heap) (locs : List Loc), zW D A s.heap [zMod2 cI a b] H locs → ∀ (ls : Array Slot), lv_has ls 3 [(0, .ref (a 0)), (1, .int (zI fc)), (2, .int (zI ki))] → W p l e { frames := 1, cells := 0, slots := 0, locals := 22 } s m args below meth c H locs 0 0 (MQ below (zQ A D (qX5_durations cI a b L O ev n)) args s 0 0 A) (F0 m 4 ls []) := by
    intro fu
    induction fu with
    | zero => intro fc ki hki hfc hm; exact absurd hm (by omega)
    | succ fu ih4 =>
      intro fc ki hki hfc hm H locs hW ls hl
      refine lv_iload_n hx hb dX5_durations_4 rfl (lv_at hl 2 rfl) ?_
      refine lv_aload_n hx hb dX5_durations_5 rfl (lv_at hl 0 rfl) ?_
      refine va_get (D := D) (ci := 5) (v := .ref (a 1)) (C := RX5) (T := TX5) (N := 18) hx hb hts iX5_durations_X5 hown hK.1 hW.1 0 rfl rfl 0 (by decide) (hts _ mX5_durations_1) (fun _ h9 => h9) rfl dX5_durations_6 ?_
      refine lv_iconst (v := zI (1)) hx hb dX5_durations_9 rfl ?_
      refine z_iald (n := 227) (g := mm_all b) hx hb hK hW 1 rfl dX5_durations_10 (by omega) ?_
      refine z_icmp_ge (tgt := 29) hx hb dX5_durations_11 (by decide) (by omega) (fun cc_11 => ?_) (fun cc_11 => ?_)
      · refine lv_iload_n hx hb dX5_durations_29 rfl (lv_at hl 1 rfl) ?_
        exact z_iret (v := fc) hx hb hr hlk hW dX5_durations_30 (by
            exact ⟨fc, rfl, rfl, by rw [hfc]; exact tkC_end hM (by omega)⟩)
      · obtain ⟨pk, hpk, hrk, hok, -⟩ := RM_k hM (k := ki) (by omega)
        have hok1 := hok.1
        have hok2 := hok.2.1
        have hok3 := hok.2.2.1
        have hok4 := hok.2.2.2.1
        refine lv_iload_n hx hb dX5_durations_14 rfl (lv_at hl 1 rfl) ?_
        refine lv_aload_n hx hb dX5_durations_15 rfl (lv_at hl 0 rfl) ?_
        refine lv_iload_n hx hb dX5_durations_16 rfl (lv_at hl 2 rfl) ?_
        refine lv_iconst (v := zI (2)) hx hb dX5_durations_17 rfl ?_
        refine z_callV (r := (RX5, TX5, 18)) (As := [.int (zI ki), .int (zI 2)]) (rest := [.int (zI fc)]) hS hK hA hW hl.1 [0] [] (kX5_of l D cI cB a b ki 2 (by omega) (by omega)) (cwV 2 hts gX5_durations_X5_of rfl rfl rfl (by decide +kernel) ⟨Nat.le_of_ble_eq_true rfl, Nat.le_of_ble_eq_true rfl⟩) (rfl : vwCl[5]? = some (RX5, TX5, 18)) (q0 := 0) rfl dX5_durations_18 rfl rfl rfl rfl rfl (Nat.le_of_ble_eq_true rfl) ⟨Nat.le_of_ble_eq_true rfl, Nat.le_of_ble_eq_true rfl⟩ (fun v9 w9 H locs hq hW => ?_)
        obtain ⟨rr_18, rfl, rfl, hh_18⟩ := hq
        subst rr_18
        have hW : zW D A s.heap [zMod2 cI a b] H locs := hW
        refine W.eq (g2 := F0 m 21 ls [.int (zI (fL (mm_all b) ki 2)), .int (zI fc)]) rfl ?_
        rw [show (fL (mm_all b) ki 2) = pk.2.2.1 by exact hrk.2.2.1]
        refine z_iadd hx hb dX5_durations_21 ?_
        refine lv_istore_n (lv' := [(1, .int (zI (fc + pk.2.2.1))), (0, .ref (a 0)), (2, .int (zI ki))]) hx hb dX5_durations_22 rfl hl (by decide) rfl (fun ls hl => ?_)
        refine z_iinc (x := ki) (lv' := [(2, .int (zI (ki + 1))), (1, .int (zI (fc + pk.2.2.1))), (0, .ref (a 0))]) hx hb dX5_durations_23 hl (k := 2) rfl (by decide) rfl (fun ls hl => ?_)
        refine lv_goto (tgt := 4) hx hb dX5_durations_26 (by decide) ?_
        exact ih4 (fc + pk.2.2.1) (ki + 1) (by omega) (by rw [tkC_s _ hki.1 hpk, hfc]) (by omega) _ _ hW ls (lv_sub hl [2, 1, 0] rfl)
  exact L4 ((((L.length : Int) - 0) : Int).toNat + 1) 0 0 (by omega) (by rfl) (by omega) _ _ hW ls (lv_sub hl [2, 1, 0] rfl)

abbrev qX5_events (cI : ClassId) (a : Nat → Nat) (b : zM2) (L : List zPn) (O : List Int) (ev : Int) (n : Int) : Option Value → List va_W → Prop := fun vq wq => ∃ (r : Int), vq = some (.int (zI r)) ∧ wq = [zMod2 cI a b] ∧ (r = evsC (ordC L O))
set_option maxRecDepth 20000 in
theorem iX5_events_X5 : ∀ w ∈ u_ws RX5 TX5 18, w ∈ wsX5_events := by decide +kernel
set_option maxRecDepth 20000 in
theorem mX5_events_1 : (.fieldLink RX5 7 "StoryPanelsModel" "all" "[I" : Cond) ∈ wsX5_events := by decide +kernel
set_option maxHeartbeats 4000000 in
set_option maxRecDepth 100000 in
theorem kX5_events (l : Launch) (D : va_G) (cI cB : ClassId) (a : Nat → Nat) (b : zM2) (L : List zPn) (O : List Int) (ev : Int) (n : Int) (hM : RMb (mm_all b) L O ev n) : zMet l yX5_events wsX5_events 1 22 0 0 D cI cB [.ref (a 0)] [zMod2 cI a b] (qX5_events cI a b L O ev n) := by
  refine zMet.of (cd := cX5_events) (maxL := 3) (ret := (some .int)) (by decide) rfl (Nat.le_of_ble_eq_true rfl) ?_
  intro p e s m args below meth c A ls hS hr hlk hnm hK hA hW hl
  have hS : CallFix p m c cX5_events 3 s args wsX5_events RX5 := hS
  have hx := hS.1
  have hb := hS.2.1
  have hown := hS.2.2.2.1
  have hts := hS.2.2.2.2
  have hl : lv_has ls 3 [(0, .ref (a 0))] := hl
  have hM1 := hM.2.1
  have hM3 := hM.2.2.1
  refine lv_iconst (v := zI (0)) hx hb dX5_events_0 rfl ?_
  refine lv_istore_n (lv' := [(1, .int (zI 0)), (0, .ref (a 0))]) hx hb dX5_events_1 rfl hl (by decide) rfl (fun ls hl => ?_)
  refine lv_iconst (v := zI (0)) hx hb dX5_events_2 rfl ?_
  refine lv_istore_n (lv' := [(2, .int (zI 0)), (1, .int (zI 0)), (0, .ref (a 0))]) hx hb dX5_events_3 rfl hl (by decide) rfl (fun ls hl => ?_)
  have L4 : ∀ (fu : Nat) (fc : Int) (ki : Int), (0 ≤ ki ∧ ki ≤ (L.length : Int)) → (fc = evsC (L.take ki.toNat)) → ((L.length : Int) - ki) < (fu : Int) → ∀ (H : Heap) (locs : List Loc), zW D A s.heap [zMod2 cI a b] H locs → ∀ (ls : Array Slot), lv_has ls 3 [(0, .ref (a 0)), (1, .int (zI fc)), (2, .int (zI ki))] → W p l e { frames := 1, cells := 0, slots := 0, locals := 22 } s m args below meth c H locs 0 0 (MQ below (zQ A D (qX5_events cI a b L O ev n)) args s 0 0 A) (F0 m 4 ls []) := by
    intro fu
    induction fu with
    | zero => intro fc ki hki hfc hm; exact absurd hm (by omega)
    | succ fu ih4 =>
      intro fc ki hki hfc hm H locs hW ls hl
      refine lv_iload_n hx hb dX5_events_4 rfl (lv_at hl 2 rfl) ?_
      refine lv_aload_n hx hb dX5_events_5 rfl (lv_at hl 0 rfl) ?_
      refine va_get (D := D) (ci := 5) (v := .ref (a 1)) (C := RX5) (T := TX5) (N := 18) hx hb hts iX5_events_X5 hown hK.1 hW.1 0 rfl rfl 0 (by decide) (hts _ mX5_events_1) (fun _ h9 => h9) rfl dX5_events_6 ?_
      refine lv_iconst (v := zI (1)) hx hb dX5_events_9 rfl ?_
      refine z_iald (n := 227) (g := mm_all b) hx hb hK hW 1 rfl dX5_events_10 (by omega) ?_
      refine z_icmp_ge (tgt := 29) hx hb dX5_events_11 (by decide) (by omega) (fun cc_11 => ?_) (fun cc_11 => ?_)
      · refine lv_iload_n hx hb dX5_events_29 rfl (lv_at hl 1 rfl) ?_
        exact z_iret (v := fc) hx hb hr hlk hW dX5_events_30 (by
            exact ⟨fc, rfl, rfl, by rw [hfc, List.take_of_length_le (by omega)]; exact evsC_end hM⟩)
      · obtain ⟨pk, hpk, hrk, hok, -⟩ := RM_k hM (k := ki) (by omega)
        have hok1 := hok.1
        have hok2 := hok.2.1
        have hok3 := hok.2.2.1
        have hok4 := hok.2.2.2.1
        refine lv_iload_n hx hb dX5_events_14 rfl (lv_at hl 1 rfl) ?_
        refine lv_aload_n hx hb dX5_events_15 rfl (lv_at hl 0 rfl) ?_
        refine lv_iload_n hx hb dX5_events_16 rfl (lv_at hl 2 rfl) ?_
        refine lv_iconst (v := zI (3)) hx hb dX5_events_17 rfl ?_
        refine z_callV (r := (RX5, TX5, 18)) (As := [.int (zI ki), .int (zI 3)]) (rest := [.int (zI fc)]) hS hK hA hW hl.1 [0] [] (kX5_of l D cI cB a b ki 3 (by omega) (by omega)) (cwV 2 hts gX5_events_X5_of rfl rfl rfl (by decide +kernel) ⟨Nat.le_of_ble_eq_true rfl, Nat.le_of_ble_eq_true rfl⟩) (rfl : vwCl[5]? = some (RX5, TX5, 18)) (q0 := 0) rfl dX5_events_18 rfl rfl rfl rfl rfl (Nat.le_of_ble_eq_true rfl) ⟨Nat.le_of_ble_eq_true rfl, Nat.le_of_ble_eq_true rfl⟩ (fun v9 w9 H locs hq hW => ?_)
        obtain ⟨rr_18, rfl, rfl, hh_18⟩ := hq
        subst rr_18
        have hW : zW D A s.heap [zMod2 cI a b] H locs := hW
        refine W.eq (g2 := F0 m 21 ls [.int (zI (fL (mm_all b) ki 3)), .int (zI fc)]) rfl ?_
        rw [show (fL (mm_all b) ki 3) = ((pk.2.2.2.length : Int)) by exact hrk.2.2.2.1]
        refine z_iadd hx hb dX5_events_21 ?_
        refine lv_istore_n (lv' := [(1, .int (zI (fc + ((pk.2.2.2.length : Int))))), (0, .ref (a 0)), (2, .int (zI ki))]) hx hb dX5_events_22 rfl hl (by decide) rfl (fun ls hl => ?_)
        refine z_iinc (x := ki) (lv' := [(2, .int (zI (ki + 1))), (1, .int (zI (fc + ((pk.2.2.2.length : Int))))), (0, .ref (a 0))]) hx hb dX5_events_23 hl (k := 2) rfl (by decide) rfl (fun ls hl => ?_)
        refine lv_goto (tgt := 4) hx hb dX5_events_26 (by decide) ?_
        exact ih4 (fc + ((pk.2.2.2.length : Int))) (ki + 1) (by omega) (by rw [evsC_s _ hki.1 hpk, hfc]) (by omega) _ _ hW ls (lv_sub hl [2, 1, 0] rfl)
  exact L4 ((((L.length : Int) - 0) : Int).toNat + 1) 0 0 (by omega) (by rfl) (by omega) _ _ hW ls (lv_sub hl [2, 1, 0] rfl)

abbrev qX5_held (cI : ClassId) (a : Nat → Nat) (b : zM2) (L : List zPn) (O : List Int) (ev : Int) (n : Int) : Option Value → List va_W → Prop := fun vq wq => ∃ (r : Int) (zrow : Int → Int) (zbrk : Int → Int) (znb : Int) (zhold : Int → Int) (zmov : Int → Int) (zbeh : Int → Int), vq = some (.int (zI r)) ∧ wq = [zMod2 cI a (mm_beh_ (mm_mov_ (mm_hold_ (mm_nb_ (mm_brk_ (mm_row_ b zrow) zbrk) znb) zhold) zmov) zbeh)] ∧ (r = heldC (ordC L O))
set_option maxRecDepth 20000 in
theorem iX5_held_X5 : ∀ w ∈ u_ws RX5 TX5 18, w ∈ wsX5_held := by decide +kernel
set_option maxRecDepth 20000 in
theorem mX5_held_1 : (.fieldLink RX5 34 "StoryPanelsModel" "holders" "[I" : Cond) ∈ wsX5_held := by decide +kernel
set_option maxHeartbeats 4000000 in
set_option maxRecDepth 100000 in
theorem kX5_held (l : Launch) (D : va_G) (cI cB : ClassId) (a : Nat → Nat) (b : zM2) (L : List zPn) (O : List Int) (ev : Int) (n : Int) (hM : RMb (mm_all b) L O ev n) : zMet l yX5_held wsX5_held 5 116 0 0 D cI cB [.ref (a 0)] [zMod2 cI a b] (qX5_held cI a b L O ev n) := by
  refine zMet.of (cd := cX5_held) (maxL := 3) (ret := (some .int)) (by decide) rfl (Nat.le_of_ble_eq_true rfl) ?_
  intro p e s m args below meth c A ls hS hr hlk hnm hK hA hW hl
  have hS : CallFix p m c cX5_held 3 s args wsX5_held RX5 := hS
  have hx := hS.1
  have hb := hS.2.1
  have hown := hS.2.2.2.1
  have hts := hS.2.2.2.2
  have hl : lv_has ls 3 [(0, .ref (a 0))] := hl
  refine lv_aload_n hx hb dX5_held_0 rfl (lv_at hl 0 rfl) ?_
  refine z_callV (r := (RX5, TX5, 18)) (As := []) (rest := []) hS hK hA hW hl.1 [0] [] (kX5_goesThrough l D cI cB a b L O ev n hM) (cwV 0 hts gX5_held_X5_goesThrough rfl rfl rfl (by decide +kernel) ⟨Nat.le_of_ble_eq_true rfl, Nat.le_of_ble_eq_true rfl⟩) (rfl : vwCl[5]? = some (RX5, TX5, 18)) (q0 := 0) rfl dX5_held_1 rfl rfl rfl rfl rfl (Nat.le_of_ble_eq_true rfl) ⟨Nat.le_of_ble_eq_true rfl, Nat.le_of_ble_eq_true rfl⟩ (fun v9 w9 H locs hq hW => ?_)
  obtain ⟨zrow_1, zbrk_1, znb_1, zhold_1, zmov_1, zbeh_1, rfl, rfl, hh_1⟩ := hq
  have hW : zW D A s.heap [zMod2 cI a (mm_beh_ (mm_mov_ (mm_hold_ (mm_nb_ (mm_brk_ (mm_row_ b (zrow_1)) (zbrk_1)) (znb_1)) (zhold_1)) (zmov_1)) (zbeh_1))] H locs := hW
  refine W.eq (g2 := F0 m 4 ls []) rfl ?_
  have hcg := hh_1.2.1
  refine lv_iconst (v := zI (0)) hx hb dX5_held_4 rfl ?_
  refine lv_istore_n (lv' := [(1, .int (zI 0)), (0, .ref (a 0))]) hx hb dX5_held_5 rfl hl (by decide) rfl (fun ls hl => ?_)
  refine lv_iconst (v := zI (0)) hx hb dX5_held_6 rfl ?_
  refine lv_istore_n (lv' := [(2, .int (zI 0)), (1, .int (zI 0)), (0, .ref (a 0))]) hx hb dX5_held_7 rfl hl (by decide) rfl (fun ls hl => ?_)
  have L8 : ∀ (fu : Nat) (fc : Int) (ki : Int), (0 ≤ ki ∧ ki ≤ 10) → (fc = zcnt (fun x => decide ((goAll (ordC L O)).1 x ≠ -1)) ki) → (10 - ki) < (fu : Int) → ∀ (H : Heap) (locs : List Loc), zW D A s.heap [zMod2 cI a (mm_beh_ (mm_mov_ (mm_hold_ (mm_nb_ (mm_brk_ (mm_row_ b (zrow_1)) (zbrk_1)) (znb_1)) (zhold_1)) (zmov_1)) (zbeh_1))] H locs → ∀ (ls : Array Slot), lv_has ls 3 [(0, .ref (a 0)), (1, .int (zI fc)), (2, .int (zI ki))] → W p l e { frames := 5, cells := 0, slots := 0, locals := 116 } s m args below meth c H locs 0 0 (MQ below (zQ A D (qX5_held cI a b L O ev n)) args s 0 0 A) (F0 m 8 ls []) := by
    intro fu
    induction fu with
    | zero => intro fc ki hki hfc hm; exact absurd hm (by omega)
    | succ fu ih8 =>
      intro fc ki hki hfc hm H locs hW ls hl
      refine lv_iload_n hx hb dX5_held_8 rfl (lv_at hl 2 rfl) ?_
      refine lv_bipush (v := zI (10)) hx hb dX5_held_9 (by decide +kernel) ?_
      refine z_icmp_ge (tgt := 39) hx hb dX5_held_11 (by decide) (by omega) (fun cc_11 => ?_) (fun cc_11 => ?_)
      · refine lv_iload_n hx hb dX5_held_39 rfl (lv_at hl 1 rfl) ?_
        exact z_iret (v := fc) hx hb hr hlk hW dX5_held_40 (by
            exact ⟨fc, zrow_1, zbrk_1, znb_1, zhold_1, zmov_1, zbeh_1, rfl, rfl, by rw [hfc, show ki = 10 by omega]; rfl⟩)
      · have hho := hcg.1 ki (by omega) (by omega)
        have hhg := hdV_rg (go1_rg hM ki)
        refine lv_iload_n hx hb dX5_held_14 rfl (lv_at hl 1 rfl) ?_
        refine lv_aload_n hx hb dX5_held_15 rfl (lv_at hl 0 rfl) ?_
        refine va_get (D := D) (ci := 5) (v := .ref (a 9)) (C := RX5) (T := TX5) (N := 18) hx hb hts iX5_held_X5 hown hK.1 hW.1 0 rfl rfl 11 (by decide) (hts _ mX5_held_1) (fun _ h9 => h9) rfl dX5_held_16 ?_
        refine lv_iload_n hx hb dX5_held_19 rfl (lv_at hl 2 rfl) ?_
        refine z_iald (n := 10) (g := zhold_1) hx hb hK hW 9 rfl dX5_held_20 (by omega) ?_
        refine lv_bipush (v := zI (-5)) hx hb dX5_held_21 (by decide +kernel) ?_
        refine z_icmp_eq (tgt := 30) hx hb dX5_held_23 (by decide) (by omega) (fun cc_23 => ?_) (fun cc_23 => ?_)
        · refine lv_iconst (v := zI (0)) hx hb dX5_held_30 rfl ?_
          refine z_iadd hx hb dX5_held_31 ?_
          refine lv_istore_n (lv' := [(1, .int (zI (fc + 0))), (0, .ref (a 0)), (2, .int (zI ki))]) hx hb dX5_held_32 rfl hl (by decide) rfl (fun ls hl => ?_)
          refine z_iinc (x := ki) (lv' := [(2, .int (zI (ki + 1))), (1, .int (zI (fc + 0))), (0, .ref (a 0))]) hx hb dX5_held_33 hl (k := 2) rfl (by decide) rfl (fun ls hl => ?_)
          refine lv_goto (tgt := 8) hx hb dX5_held_36 (by decide) ?_
          exact ih8 (fc + 0) (ki + 1) (by omega) (by rw [zcnt_s _ hki.1, hfc]; first | (rw [if_pos (decide_eq_true (by omega))]; done) | (rw [if_neg (by rw [decide_eq_false (by omega)]; decide)]; done)) (by omega) _ _ hW ls (lv_sub hl [2, 1, 0] rfl)
        · refine lv_iconst (v := zI (1)) hx hb dX5_held_26 rfl ?_
          refine lv_goto (tgt := 31) hx hb dX5_held_27 (by decide) ?_
          refine z_iadd hx hb dX5_held_31 ?_
          refine lv_istore_n (lv' := [(1, .int (zI (fc + 1))), (0, .ref (a 0)), (2, .int (zI ki))]) hx hb dX5_held_32 rfl hl (by decide) rfl (fun ls hl => ?_)
          refine z_iinc (x := ki) (lv' := [(2, .int (zI (ki + 1))), (1, .int (zI (fc + 1))), (0, .ref (a 0))]) hx hb dX5_held_33 hl (k := 2) rfl (by decide) rfl (fun ls hl => ?_)
          refine lv_goto (tgt := 8) hx hb dX5_held_36 (by decide) ?_
          exact ih8 (fc + 1) (ki + 1) (by omega) (by rw [zcnt_s _ hki.1, hfc]; first | (rw [if_pos (decide_eq_true (by omega))]; done) | (rw [if_neg (by rw [decide_eq_false (by omega)]; decide)]; done)) (by omega) _ _ hW ls (lv_sub hl [2, 1, 0] rfl)
  exact L8 (((10 - 0) : Int).toNat + 1) 0 0 (by omega) (by rfl) (by omega) _ _ hW ls (lv_sub hl [2, 1, 0] rfl)

abbrev qX5_panel (cI : ClassId) (a : Nat → Nat) (b : zM2) (y1 y2 : Int) (L : List zPn) (O : List Int) (ev : Int) : Option Value → List va_W → Prop := fun vq wq => ∃ (r : Int) (zrow : Int → Int) (zbrk : Int → Int) (znb : Int) (zhold : Int → Int) (zmov : Int → Int) (zbeh : Int → Int), vq = some (.int (zI r)) ∧ wq = [zMod2 cI a (mm_beh_ (mm_mov_ (mm_hold_ (mm_nb_ (mm_brk_ (mm_row_ b zrow) zbrk) znb) zhold) zmov) zbeh)] ∧ (panR (ordC L O) O y1 y2 r)
set_option maxHeartbeats 4000000 in
set_option maxRecDepth 100000 in
theorem kX5_panel (l : Launch) (D : va_G) (cI cB : ClassId) (a : Nat → Nat) (b : zM2) (y1 y2 : Int) (L : List zPn) (O : List Int) (ev : Int) (hM : RM (mm_all b) L O ev) (hy1 : R32 y1) (hy2 : R32 y2) : zMet l yX5_panel wsX5_panel 6 139 0 0 D cI cB [.ref (a 0), .int (zI y1), .int (zI y2)] [zMod2 cI a b] (qX5_panel cI a b y1 y2 L O ev) := by
  refine zMet.of (cd := cX5_panel) (maxL := 4) (ret := (some .int)) (by decide) rfl (Nat.le_of_ble_eq_true rfl) ?_
  intro p e s m args below meth c A ls hS hr hlk hnm hK hA hW hl
  have hS : CallFix p m c cX5_panel 4 s args wsX5_panel RX5 := hS
  have hx := hS.1
  have hb := hS.2.1
  have hown := hS.2.2.2.1
  have hts := hS.2.2.2.2
  have hl : lv_has ls 4 [(0, .ref (a 0)), (1, .int (zI y1)), (2, .int (zI y2))] := hl
  have hM1 := hM.2.1
  have hM3 := hM.2.2.1
  refine lv_aload_n hx hb dX5_panel_0 rfl (lv_at hl 0 rfl) ?_
  refine lv_iload_n hx hb dX5_panel_1 rfl (lv_at hl 1 rfl) ?_
  refine z_callV (r := (RX5, TX5, 18)) (As := [.int (zI y1)]) (rest := []) hS hK hA hW hl.1 [0] [] (kX5_lieOf l D cI cB a b y1 L O ev ev hM (by omega)) (cwV 1 hts gX5_panel_X5_lieOf rfl rfl rfl (by decide +kernel) ⟨Nat.le_of_ble_eq_true rfl, Nat.le_of_ble_eq_true rfl⟩) (rfl : vwCl[5]? = some (RX5, TX5, 18)) (q0 := 0) rfl dX5_panel_2 rfl rfl rfl rfl rfl (Nat.le_of_ble_eq_true rfl) ⟨Nat.le_of_ble_eq_true rfl, Nat.le_of_ble_eq_true rfl⟩ (fun v9 w9 H locs hq hW => ?_)
  obtain ⟨rr_2, rfl, rfl, hh_2⟩ := hq
  have hW : zW D A s.heap [zMod2 cI a b] H locs := hW
  refine W.eq (g2 := F0 m 5 ls [.int (zI rr_2)]) rfl ?_
  have hlc : lieC L O (mm_all b) ev y1 rr_2 := lie_c hM hh_2
  have hlr := lieC_rg hlc hM3
  clear hh_2
  refine lv_istore_n (lv' := [(3, .int (zI rr_2)), (0, .ref (a 0)), (1, .int (zI y1)), (2, .int (zI y2))]) hx hb dX5_panel_5 rfl hl (by decide) rfl (fun ls hl => ?_)
  refine lv_iload_n hx hb dX5_panel_6 rfl (lv_at hl 0 rfl) ?_
  refine lv_bipush (v := zI (-5)) hx hb dX5_panel_7 (by decide +kernel) ?_
  refine z_icmp_ne (tgt := 14) hx hb dX5_panel_9 (by decide) (by omega) (fun cc_9 => ?_) (fun cc_9 => ?_)
  · obtain ⟨kq, jq, pq, ⟨hlq, hpx⟩, ⟨hkl, hrk⟩, hjp, hpo, hrw⟩ := lieC_yes hlc (by omega)
    have hp1 := hpo.1.1
    have hp2 := hpo.1.2.1
    have hp3 := hpo.1.2.2.1
    have hp4 := hpo.1.2.2.2.1
    refine lv_iload_n hx hb dX5_panel_14 rfl (lv_at hl 3 rfl) ?_
    rcases (show y2 = 0 ∨ y2 = 1 ∨ y2 = 2 ∨ y2 = 3 ∨ y2 = 4 ∨ y2 = 5 ∨ y2 = 6 ∨ (y2 < 0 ∨ 6 < y2) by omega) with ww_15 | ww_15 | ww_15 | ww_15 | ww_15 | ww_15 | ww_15 | ww_15
    · refine z_tableIn (k := 0) (off := 41) (tgt := 56) hx hb dX5_panel_15 (ww_15) (by decide) (by decide) (by decide +kernel) (by decide) ?_
      refine lv_aload_n hx hb dX5_panel_56 rfl (lv_at hl 1 rfl) ?_
      refine lv_iload_n hx hb dX5_panel_57 rfl (lv_at hl 0 rfl) ?_
      refine lv_iconst (v := zI (1)) hx hb dX5_panel_58 rfl ?_
      refine z_callV (r := (RX5, TX5, 18)) (As := [.int (zI rr_2), .int (zI 1)]) (rest := []) hS hK hA hW hl.1 [0] [] (kX5_of l D cI cB a b rr_2 1 (by omega) (by omega)) (cwV 2 hts gX5_panel_X5_of rfl rfl rfl (by decide +kernel) ⟨Nat.le_of_ble_eq_true rfl, Nat.le_of_ble_eq_true rfl⟩) (rfl : vwCl[5]? = some (RX5, TX5, 18)) (q0 := 0) rfl dX5_panel_59 rfl rfl rfl rfl rfl (Nat.le_of_ble_eq_true rfl) ⟨Nat.le_of_ble_eq_true rfl, Nat.le_of_ble_eq_true rfl⟩ (fun v9 w9 H locs hq hW => ?_)
      obtain ⟨rr_59, rfl, rfl, hh_59⟩ := hq
      subst rr_59
      have hW : zW D A s.heap [zMod2 cI a b] H locs := hW
      refine W.eq (g2 := F0 m 62 ls [.int (zI (fL (mm_all b) rr_2 1))]) rfl ?_
      rw [show (fL (mm_all b) rr_2 1) = pq.2.1 by exact (by rw [hrk]; exact hrw.2.1)]
      exact z_iret (v := pq.2.1) hx hb hr hlk hW dX5_panel_62 (by
          exact ⟨pq.2.1, mm_row b, mm_brk b, mm_nb b, mm_hold b, mm_mov b, mm_beh b, rfl, rfl, by exact Or.inr ⟨jq, pq, hjp, by rw [ww_15]; rfl⟩⟩)
    · refine z_tableIn (k := 1) (off := 48) (tgt := 63) hx hb dX5_panel_15 (ww_15) (by decide) (by decide) (by decide +kernel) (by decide) ?_
      refine lv_aload_n hx hb dX5_panel_63 rfl (lv_at hl 1 rfl) ?_
      refine lv_iload_n hx hb dX5_panel_64 rfl (lv_at hl 0 rfl) ?_
      refine lv_iconst (v := zI (2)) hx hb dX5_panel_65 rfl ?_
      refine z_callV (r := (RX5, TX5, 18)) (As := [.int (zI rr_2), .int (zI 2)]) (rest := []) hS hK hA hW hl.1 [0] [] (kX5_of l D cI cB a b rr_2 2 (by omega) (by omega)) (cwV 2 hts gX5_panel_X5_of rfl rfl rfl (by decide +kernel) ⟨Nat.le_of_ble_eq_true rfl, Nat.le_of_ble_eq_true rfl⟩) (rfl : vwCl[5]? = some (RX5, TX5, 18)) (q0 := 0) rfl dX5_panel_66 rfl rfl rfl rfl rfl (Nat.le_of_ble_eq_true rfl) ⟨Nat.le_of_ble_eq_true rfl, Nat.le_of_ble_eq_true rfl⟩ (fun v9 w9 H locs hq hW => ?_)
      obtain ⟨rr_66, rfl, rfl, hh_66⟩ := hq
      subst rr_66
      have hW : zW D A s.heap [zMod2 cI a b] H locs := hW
      refine W.eq (g2 := F0 m 69 ls [.int (zI (fL (mm_all b) rr_2 2))]) rfl ?_
      rw [show (fL (mm_all b) rr_2 2) = pq.2.2.1 by exact (by rw [hrk]; exact hrw.2.2.1)]
      exact z_iret (v := pq.2.2.1) hx hb hr hlk hW dX5_panel_69 (by
          exact ⟨pq.2.2.1, mm_row b, mm_brk b, mm_nb b, mm_hold b, mm_mov b, mm_beh b, rfl, rfl, by exact Or.inr ⟨jq, pq, hjp, by rw [ww_15]; rfl⟩⟩)
    · refine z_tableIn (k := 2) (off := 55) (tgt := 70) hx hb dX5_panel_15 (ww_15) (by decide) (by decide) (by decide +kernel) (by decide) ?_
      refine lv_aload_n hx hb dX5_panel_70 rfl (lv_at hl 1 rfl) ?_
      refine lv_iload_n hx hb dX5_panel_71 rfl (lv_at hl 0 rfl) ?_
      refine lv_iconst (v := zI (3)) hx hb dX5_panel_72 rfl ?_
      refine z_callV (r := (RX5, TX5, 18)) (As := [.int (zI rr_2), .int (zI 3)]) (rest := []) hS hK hA hW hl.1 [0] [] (kX5_of l D cI cB a b rr_2 3 (by omega) (by omega)) (cwV 2 hts gX5_panel_X5_of rfl rfl rfl (by decide +kernel) ⟨Nat.le_of_ble_eq_true rfl, Nat.le_of_ble_eq_true rfl⟩) (rfl : vwCl[5]? = some (RX5, TX5, 18)) (q0 := 0) rfl dX5_panel_73 rfl rfl rfl rfl rfl (Nat.le_of_ble_eq_true rfl) ⟨Nat.le_of_ble_eq_true rfl, Nat.le_of_ble_eq_true rfl⟩ (fun v9 w9 H locs hq hW => ?_)
      obtain ⟨rr_73, rfl, rfl, hh_73⟩ := hq
      subst rr_73
      have hW : zW D A s.heap [zMod2 cI a b] H locs := hW
      refine W.eq (g2 := F0 m 76 ls [.int (zI (fL (mm_all b) rr_2 3))]) rfl ?_
      rw [show (fL (mm_all b) rr_2 3) = ((pq.2.2.2.length : Int)) by exact (by rw [hrk]; exact hrw.2.2.2.1)]
      exact z_iret (v := (pq.2.2.2.length : Int)) hx hb hr hlk hW dX5_panel_76 (by
          exact ⟨(pq.2.2.2.length : Int), mm_row b, mm_brk b, mm_nb b, mm_hold b, mm_mov b, mm_beh b, rfl, rfl, by exact Or.inr ⟨jq, pq, hjp, by rw [ww_15]; rfl⟩⟩)
    · refine z_tableIn (k := 3) (off := 62) (tgt := 77) hx hb dX5_panel_15 (ww_15) (by decide) (by decide) (by decide +kernel) (by decide) ?_
      refine lv_aload_n hx hb dX5_panel_77 rfl (lv_at hl 1 rfl) ?_
      refine lv_iload_n hx hb dX5_panel_78 rfl (lv_at hl 0 rfl) ?_
      refine z_callV (r := (RX5, TX5, 18)) (As := [.int (zI rr_2)]) (rest := []) hS hK hA hW hl.1 [0] [] (kX5_placeOf l D cI cB a b rr_2 L O ev ev kq pq hM hlq.1 hrk) (cwV 1 hts gX5_panel_X5_placeOf rfl rfl rfl (by decide +kernel) ⟨Nat.le_of_ble_eq_true rfl, Nat.le_of_ble_eq_true rfl⟩) (rfl : vwCl[5]? = some (RX5, TX5, 18)) (q0 := 0) rfl dX5_panel_79 rfl rfl rfl rfl rfl (Nat.le_of_ble_eq_true rfl) ⟨Nat.le_of_ble_eq_true rfl, Nat.le_of_ble_eq_true rfl⟩ (fun v9 w9 H locs hq hW => ?_)
      obtain ⟨rr_79, rfl, rfl, hh_79⟩ := hq
      subst rr_79
      have hW : zW D A s.heap [zMod2 cI a b] H locs := hW
      refine W.eq (g2 := F0 m 82 ls [.int (zI (inC (L.take kq) pq.2.1))]) rfl ?_
      have hjk := hlq.2.2.1
      exact z_iret (v := inC (L.take kq) pq.2.1) hx hb hr hlk hW dX5_panel_82 (by
          exact ⟨inC (L.take kq) pq.2.1, mm_row b, mm_brk b, mm_nb b, mm_hold b, mm_mov b, mm_beh b, rfl, rfl, by exact Or.inr ⟨jq, pq, hjp, by rw [ww_15]; show _ = (jq : Int) - ahC (ordC L O) O pq.2.1; omega⟩⟩)
    · refine z_tableIn (k := 4) (off := 68) (tgt := 83) hx hb dX5_panel_15 (ww_15) (by decide) (by decide) (by decide +kernel) (by decide) ?_
      refine lv_aload_n hx hb dX5_panel_83 rfl (lv_at hl 1 rfl) ?_
      refine lv_iload_n hx hb dX5_panel_84 rfl (lv_at hl 0 rfl) ?_
      refine z_callV (r := (RX5, TX5, 18)) (As := [.int (zI rr_2)]) (rest := []) hS hK hA hW hl.1 [0] [] (kX5_beginOf l D cI cB a b rr_2 L O ev ev kq jq pq hM hlq hrk) (cwV 1 hts gX5_panel_X5_beginOf rfl rfl rfl (by decide +kernel) ⟨Nat.le_of_ble_eq_true rfl, Nat.le_of_ble_eq_true rfl⟩) (rfl : vwCl[5]? = some (RX5, TX5, 18)) (q0 := 0) rfl dX5_panel_85 rfl rfl rfl rfl rfl (Nat.le_of_ble_eq_true rfl) ⟨Nat.le_of_ble_eq_true rfl, Nat.le_of_ble_eq_true rfl⟩ (fun v9 w9 H locs hq hW => ?_)
      obtain ⟨rr_85, zrow_85, rfl, rfl, hh_85⟩ := hq
      have hW : zW D A s.heap [zMod2 cI a (mm_row_ b (zrow_85))] H locs := hW
      refine W.eq (g2 := F0 m 88 ls [.int (zI rr_85)]) rfl ?_
      rw [show rr_85 = (tkC (ordC L O) (jq : Int)) by exact hh_85]
      exact z_iret (v := tkC (ordC L O) (jq : Int)) hx hb hr hlk hW dX5_panel_88 (by
          exact ⟨tkC (ordC L O) (jq : Int), zrow_85, mm_brk b, mm_nb b, mm_hold b, mm_mov b, mm_beh b, rfl, rfl, by exact Or.inr ⟨jq, pq, hjp, by rw [ww_15]; rfl⟩⟩)
    · refine z_tableIn (k := 5) (off := 74) (tgt := 89) hx hb dX5_panel_15 (ww_15) (by decide) (by decide) (by decide +kernel) (by decide) ?_
      refine lv_aload_n hx hb dX5_panel_89 rfl (lv_at hl 1 rfl) ?_
      refine lv_iload_n hx hb dX5_panel_90 rfl (lv_at hl 0 rfl) ?_
      refine z_callV (r := (RX5, TX5, 18)) (As := [.int (zI rr_2)]) (rest := []) hS hK hA hW hl.1 [0] [] (kX5_rankOf l D cI cB a b rr_2 L O ev ev kq jq pq hM hlq hrk) (cwV 1 hts gX5_panel_X5_rankOf rfl rfl rfl (by decide +kernel) ⟨Nat.le_of_ble_eq_true rfl, Nat.le_of_ble_eq_true rfl⟩) (rfl : vwCl[5]? = some (RX5, TX5, 18)) (q0 := 0) rfl dX5_panel_91 rfl rfl rfl rfl rfl (Nat.le_of_ble_eq_true rfl) ⟨Nat.le_of_ble_eq_true rfl, Nat.le_of_ble_eq_true rfl⟩ (fun v9 w9 H locs hq hW => ?_)
      obtain ⟨rr_91, zrow_91, rfl, rfl, hh_91⟩ := hq
      have hW : zW D A s.heap [zMod2 cI a (mm_row_ b (zrow_91))] H locs := hW
      refine W.eq (g2 := F0 m 94 ls [.int (zI rr_91)]) rfl ?_
      rw [show rr_91 = ((jq : Int)) by exact hh_91.1]
      exact z_iret (v := (jq : Int)) hx hb hr hlk hW dX5_panel_94 (by
          exact ⟨(jq : Int), zrow_91, mm_brk b, mm_nb b, mm_hold b, mm_mov b, mm_beh b, rfl, rfl, by exact Or.inr ⟨jq, pq, hjp, by rw [ww_15]; rfl⟩⟩)
    · refine z_tableIn (k := 6) (off := 80) (tgt := 95) hx hb dX5_panel_15 (ww_15) (by decide) (by decide) (by decide +kernel) (by decide) ?_
      refine lv_aload_n hx hb dX5_panel_95 rfl (lv_at hl 1 rfl) ?_
      refine lv_iload_n hx hb dX5_panel_96 rfl (lv_at hl 2 rfl) ?_
      refine z_callV (r := (RX5, TX5, 18)) (As := [.int (zI y1)]) (rest := []) hS hK hA hW hl.1 [0] [] (kX5_breaksIn l D cI cB a b y1 L O ev ev hM hy1) (cwV 1 hts gX5_panel_X5_breaksIn rfl rfl rfl (by decide +kernel) ⟨Nat.le_of_ble_eq_true rfl, Nat.le_of_ble_eq_true rfl⟩) (rfl : vwCl[5]? = some (RX5, TX5, 18)) (q0 := 0) rfl dX5_panel_97 rfl rfl rfl rfl rfl (Nat.le_of_ble_eq_true rfl) ⟨Nat.le_of_ble_eq_true rfl, Nat.le_of_ble_eq_true rfl⟩ (fun v9 w9 H locs hq hW => ?_)
      obtain ⟨rr_97, zrow_97, zbrk_97, znb_97, zhold_97, zmov_97, zbeh_97, rfl, rfl, hh_97⟩ := hq
      have hW : zW D A s.heap [zMod2 cI a (mm_beh_ (mm_mov_ (mm_hold_ (mm_nb_ (mm_brk_ (mm_row_ b (zrow_97)) (zbrk_97)) (znb_97)) (zhold_97)) (zmov_97)) (zbeh_97))] H locs := hW
      refine W.eq (g2 := F0 m 100 ls [.int (zI rr_97)]) rfl ?_
      rw [show rr_97 = (haveB (ordC L O) 0 y1) by exact hh_97]
      exact z_iret (v := haveB (ordC L O) 0 y1) hx hb hr hlk hW dX5_panel_100 (by
          exact ⟨haveB (ordC L O) 0 y1, zrow_97, zbrk_97, znb_97, zhold_97, zmov_97, zbeh_97, rfl, rfl, by exact Or.inr ⟨jq, pq, hjp, by rw [ww_15, ← hpx]; rfl⟩⟩)
    · refine z_tableOut (tgt := 101) hx hb dX5_panel_15 (by omega) ww_15 (by decide) ?_
      refine lv_bipush (v := zI (-2)) hx hb dX5_panel_101 (by decide +kernel) ?_
      exact z_iret (v := (-2)) hx hb hr hlk hW dX5_panel_103 (by
          exact ⟨(-2), mm_row b, mm_brk b, mm_nb b, mm_hold b, mm_mov b, mm_beh b, rfl, rfl, by exact Or.inr ⟨jq, pq, hjp, by unfold panA; rw [if_neg (by omega), if_neg (by omega), if_neg (by omega), if_neg (by omega), if_neg (by omega), if_neg (by omega), if_neg (by omega)]⟩⟩)
  · have hnp := lieC_no hlc (by omega)
    refine lv_iconst (v := zI (-1)) hx hb dX5_panel_12 rfl ?_
    exact z_iret (v := (-1)) hx hb hr hlk hW dX5_panel_13 (by
        exact ⟨(-1), mm_row b, mm_brk b, mm_nb b, mm_hold b, mm_mov b, mm_beh b, rfl, rfl, by exact Or.inl ⟨hnp, rfl⟩⟩)

abbrev qX5_event (cI : ClassId) (a : Nat → Nat) (b : zM2) (y1 y2 y3 : Int) (L : List zPn) (O : List Int) (ev : Int) : Option Value → List va_W → Prop := fun vq wq => ∃ (r : Int), vq = some (.int (zI r)) ∧ wq = [zMod2 cI a b] ∧ (evtR (ordC L O) y1 y2 y3 r)
set_option maxRecDepth 20000 in
theorem mX5_event_0 : (.constantLong RX5 184 (2) : Cond) ∈ wsX5_event := by decide +kernel
set_option maxHeartbeats 4000000 in
set_option maxRecDepth 100000 in
theorem kX5_event (l : Launch) (D : va_G) (cI cB : ClassId) (a : Nat → Nat) (b : zM2) (y1 y2 y3 : Int) (L : List zPn) (O : List Int) (ev : Int) (hM : RM (mm_all b) L O ev) (hy1 : R32 y1) (hy2 : R32 y2) (hy3 : R32 y3) : zMet l yX5_event wsX5_event 2 45 0 0 D cI cB [.ref (a 0), .int (zI y1), .int (zI y2), .int (zI y3)] [zMod2 cI a b] (qX5_event cI a b y1 y2 y3 L O ev) := by
  refine zMet.of (cd := cX5_event) (maxL := 5) (ret := (some .int)) (by decide) rfl (Nat.le_of_ble_eq_true rfl) ?_
  intro p e s m args below meth c A ls hS hr hlk hnm hK hA hW hl
  have hS : CallFix p m c cX5_event 5 s args wsX5_event RX5 := hS
  have hx := hS.1
  have hb := hS.2.1
  have hown := hS.2.2.2.1
  have hts := hS.2.2.2.2
  have hl : lv_has ls 5 [(0, .ref (a 0)), (1, .int (zI y1)), (2, .int (zI y2)), (3, .int (zI y3))] := hl
  have hM1 := hM.2.1
  have hM3 := hM.2.2.1
  refine lv_aload_n hx hb dX5_event_0 rfl (lv_at hl 0 rfl) ?_
  refine lv_iload_n hx hb dX5_event_1 rfl (lv_at hl 1 rfl) ?_
  refine z_callV (r := (RX5, TX5, 18)) (As := [.int (zI y1)]) (rest := []) hS hK hA hW hl.1 [0] [] (kX5_lieOf l D cI cB a b y1 L O ev ev hM (by omega)) (cwV 1 hts gX5_event_X5_lieOf rfl rfl rfl (by decide +kernel) ⟨Nat.le_of_ble_eq_true rfl, Nat.le_of_ble_eq_true rfl⟩) (rfl : vwCl[5]? = some (RX5, TX5, 18)) (q0 := 0) rfl dX5_event_2 rfl rfl rfl rfl rfl (Nat.le_of_ble_eq_true rfl) ⟨Nat.le_of_ble_eq_true rfl, Nat.le_of_ble_eq_true rfl⟩ (fun v9 w9 H locs hq hW => ?_)
  obtain ⟨rr_2, rfl, rfl, hh_2⟩ := hq
  have hW : zW D A s.heap [zMod2 cI a b] H locs := hW
  refine W.eq (g2 := F0 m 5 ls [.int (zI rr_2)]) rfl ?_
  have hlc : lieC L O (mm_all b) ev y1 rr_2 := lie_c hM hh_2
  have hlr := lieC_rg hlc hM3
  clear hh_2
  refine lv_istore (lv' := [(4, .int (zI rr_2)), (0, .ref (a 0)), (1, .int (zI y1)), (2, .int (zI y2)), (3, .int (zI y3))]) hx hb dX5_event_5 hl (by decide) rfl (fun ls hl => ?_)
  refine lv_iload hx hb dX5_event_7 (lv_at hl 0 rfl) ?_
  refine lv_bipush (v := zI (-5)) hx hb dX5_event_9 (by decide +kernel) ?_
  refine z_icmp_eq (tgt := 33) hx hb dX5_event_11 (by decide) (by omega) (fun cc_11 => ?_) (fun cc_11 => ?_)
  · have hnp := lieC_no hlc (by omega)
    refine lv_iconst (v := zI (-1)) hx hb dX5_event_33 rfl ?_
    exact z_iret (v := (-1)) hx hb hr hlk hW dX5_event_34 (by
        exact ⟨(-1), rfl, rfl, by first | exact Or.inl ⟨hnp, rfl⟩ | exact Or.inr ⟨jq, pq, hjp, Or.inl ⟨by omega, rfl⟩⟩⟩)
  · obtain ⟨kq, jq, pq, ⟨hlq, hpx⟩, ⟨hkl, hrk⟩, hjp, hpo, hrw⟩ := lieC_yes hlc (by omega)
    have hp1 := hpo.1.1
    have hp2 := hpo.1.2.1
    have hp3 := hpo.1.2.2.1
    have hp4 := hpo.1.2.2.2.1
    refine lv_iload_n hx hb dX5_event_14 rfl (lv_at hl 3 rfl) ?_
    refine z_i2l hx hb dX5_event_15 (by omega) ?_
    refine z_lconst hx hb dX5_event_16 ?_
    refine lv_aload_n hx hb dX5_event_17 rfl (lv_at hl 1 rfl) ?_
    refine lv_iload hx hb dX5_event_18 (lv_at hl 0 rfl) ?_
    refine lv_iconst (v := zI (3)) hx hb dX5_event_20 rfl ?_
    refine z_callV (r := (RX5, TX5, 18)) (As := [.int (zI rr_2), .int (zI 3)]) (rest := [.long (zL 0), .long (zL y2)]) hS hK hA hW hl.1 [0] [] (kX5_of l D cI cB a b rr_2 3 (by omega) (by omega)) (cwV 2 hts gX5_event_X5_of rfl rfl rfl (by decide +kernel) ⟨Nat.le_of_ble_eq_true rfl, Nat.le_of_ble_eq_true rfl⟩) (rfl : vwCl[5]? = some (RX5, TX5, 18)) (q0 := 0) rfl dX5_event_21 rfl rfl rfl rfl rfl (Nat.le_of_ble_eq_true rfl) ⟨Nat.le_of_ble_eq_true rfl, Nat.le_of_ble_eq_true rfl⟩ (fun v9 w9 H locs hq hW => ?_)
    obtain ⟨rr_21, rfl, rfl, hh_21⟩ := hq
    subst rr_21
    have hW : zW D A s.heap [zMod2 cI a b] H locs := hW
    refine W.eq (g2 := F0 m 24 ls [.int (zI (fL (mm_all b) rr_2 3)), .long (zL 0), .long (zL y2)]) rfl ?_
    rw [show (fL (mm_all b) rr_2 3) = ((pq.2.2.2.length : Int)) by exact (by rw [hrk]; exact hrw.2.2.2.1)]
    refine z_i2l hx hb dX5_event_24 (by omega) ?_
    refine z_lconst hx hb dX5_event_25 ?_
    refine z_lsub hx hb dX5_event_26 ?_
    refine z_callS (As := [.long (zL y2), .long (zL 0), .long (zL (((pq.2.2.2.length : Int)) - 1))]) (rest := []) hS hK hA hW hl.1 [] [0] (kX5_in l D cI cB y2 0 (((pq.2.2.2.length : Int)) - 1) (by omega) (by omega) (by omega)) (va_cwS 3 hts gX5_event_X5_in rfl rfl rfl (by decide +kernel) ⟨Nat.le_of_ble_eq_true rfl, Nat.le_of_ble_eq_true rfl⟩) dX5_event_27 rfl rfl rfl rfl rfl (Nat.le_of_ble_eq_true rfl) ⟨Nat.le_of_ble_eq_true rfl, Nat.le_of_ble_eq_true rfl⟩ (fun v9 w9 H locs hq hW => ?_)
    obtain ⟨rr_27, rfl, rfl, hh_27⟩ := hq
    have hW : zW D A s.heap [zMod2 cI a b] H locs := hW
    refine W.eq (g2 := F0 m 30 ls [.int (zI rr_27)]) rfl ?_
    refine z_if_ne (tgt := 35) hx hb dX5_event_30 (by decide) (by omega) (fun cc_30 => ?_) (fun cc_30 => ?_)
    · refine lv_iload_n hx hb dX5_event_35 rfl (lv_at hl 4 rfl) ?_
      refine z_i2l hx hb dX5_event_36 (by omega) ?_
      refine z_lconst hx hb dX5_event_37 ?_
      refine z_ldc2 (n := 2) hx hb hown (hts _ mX5_event_0) (by decide) dX5_event_38 ?_
      refine z_callS (As := [.long (zL y3), .long (zL 0), .long (zL 2)]) (rest := []) hS hK hA hW hl.1 [] [0] (kX5_in l D cI cB y3 0 2 (by omega) (by omega) (by omega)) (va_cwS 3 hts gX5_event_X5_in rfl rfl rfl (by decide +kernel) ⟨Nat.le_of_ble_eq_true rfl, Nat.le_of_ble_eq_true rfl⟩) dX5_event_41 rfl rfl rfl rfl rfl (Nat.le_of_ble_eq_true rfl) ⟨Nat.le_of_ble_eq_true rfl, Nat.le_of_ble_eq_true rfl⟩ (fun v9 w9 H locs hq hW => ?_)
      obtain ⟨rr_41, rfl, rfl, hh_41⟩ := hq
      have hW : zW D A s.heap [zMod2 cI a b] H locs := hW
      refine W.eq (g2 := F0 m 44 ls [.int (zI rr_41)]) rfl ?_
      refine z_if_eq (tgt := 58) hx hb dX5_event_44 (by decide) (by omega) (fun cc_44 => ?_) (fun cc_44 => ?_)
      · refine lv_bipush (v := zI (-2)) hx hb dX5_event_58 (by decide +kernel) ?_
        exact z_iret (v := (-2)) hx hb hr hlk hW dX5_event_60 (by
            exact ⟨(-2), rfl, rfl, by first | (refine Or.inr ⟨jq, pq, hjp, Or.inr ⟨vv, by omega, hvv, ?_⟩⟩; rcases (show y3 = 0 ∨ y3 = 1 ∨ y3 = 2 by omega) with hq | hq | hq; (rw [hq]; exact hrv.1); (rw [hq]; exact hrv.2.1); (rw [hq]; exact hrv.2.2)) | exact (by obtain ⟨vv, hvv, hvo⟩ := evK (e := y2) (by omega) hpo.1; exact Or.inr ⟨jq, pq, hjp, Or.inr ⟨vv, by omega, hvv, by unfold evtA; rw [if_neg (by omega), if_neg (by omega), if_neg (by omega)]⟩⟩)⟩)
      · refine lv_aload_n hx hb dX5_event_47 rfl (lv_at hl 1 rfl) ?_
        refine lv_iload hx hb dX5_event_48 (lv_at hl 0 rfl) ?_
        refine lv_iload_n hx hb dX5_event_50 rfl (lv_at hl 3 rfl) ?_
        refine lv_iload_n hx hb dX5_event_51 rfl (lv_at hl 4 rfl) ?_
        obtain ⟨vv, hvv, hvo⟩ := evK (e := y2) (by omega) hpo.1
        have hrv := rowH_ev hrw (by omega) hvv
        rw [← hrk] at hrv
        refine z_callV (r := (RX5, TX5, 18)) (As := [.int (zI rr_2), .int (zI y2), .int (zI y3)]) (rest := []) hS hK hA hW hl.1 [0] [] (kX5_eventOf l D cI cB a b rr_2 y2 y3 (by omega) (by omega) (by omega)) (cwV 3 hts gX5_event_X5_eventOf rfl rfl rfl (by decide +kernel) ⟨Nat.le_of_ble_eq_true rfl, Nat.le_of_ble_eq_true rfl⟩) (rfl : vwCl[5]? = some (RX5, TX5, 18)) (q0 := 0) rfl dX5_event_52 rfl rfl rfl rfl rfl (Nat.le_of_ble_eq_true rfl) ⟨Nat.le_of_ble_eq_true rfl, Nat.le_of_ble_eq_true rfl⟩ (fun v9 w9 H locs hq hW => ?_)
        obtain ⟨rr_52, rfl, rfl, hh_52⟩ := hq
        subst rr_52
        have hW : zW D A s.heap [zMod2 cI a b] H locs := hW
        refine W.eq (g2 := F0 m 55 ls [.int (zI (mm_all b (7 + 22 * rr_2 + (4 + 3 * y2 + y3))))]) rfl ?_
        refine lv_goto (tgt := 60) hx hb dX5_event_55 (by decide) ?_
        exact z_iret (v := mm_all b (7 + 22 * rr_2 + (4 + 3 * y2 + y3))) hx hb hr hlk hW dX5_event_60 (by
            exact ⟨mm_all b (7 + 22 * rr_2 + (4 + 3 * y2 + y3)), rfl, rfl, by first | (refine Or.inr ⟨jq, pq, hjp, Or.inr ⟨vv, by omega, hvv, ?_⟩⟩; rcases (show y3 = 0 ∨ y3 = 1 ∨ y3 = 2 by omega) with hq | hq | hq; (rw [hq]; exact hrv.1); (rw [hq]; exact hrv.2.1); (rw [hq]; exact hrv.2.2)) | exact (by obtain ⟨vv, hvv, hvo⟩ := evK (e := y2) (by omega) hpo.1; exact Or.inr ⟨jq, pq, hjp, Or.inr ⟨vv, by omega, hvv, by unfold evtA; rw [if_neg (by omega), if_neg (by omega), if_neg (by omega)]⟩⟩)⟩)
    · refine lv_iconst (v := zI (-1)) hx hb dX5_event_33 rfl ?_
      exact z_iret (v := (-1)) hx hb hr hlk hW dX5_event_34 (by
          exact ⟨(-1), rfl, rfl, by first | exact Or.inl ⟨hnp, rfl⟩ | exact Or.inr ⟨jq, pq, hjp, Or.inl ⟨by omega, rfl⟩⟩⟩)

abbrev qX5_at (cI : ClassId) (a : Nat → Nat) (b : zM2) (y1 : Int) (L : List zPn) (O : List Int) (ev : Int) : Option Value → List va_W → Prop := fun vq wq => ∃ (r : Int) (zrow : Int → Int), vq = some (.int (zI r)) ∧ wq = [zMod2 cI a (mm_row_ b zrow)] ∧ (atR (ordC L O) y1 r)
set_option maxRecDepth 20000 in
theorem iX5_at_X5 : ∀ w ∈ u_ws RX5 TX5 18, w ∈ wsX5_at := by decide +kernel
set_option maxRecDepth 20000 in
theorem mX5_at_1 : (.fieldLink RX5 7 "StoryPanelsModel" "all" "[I" : Cond) ∈ wsX5_at := by decide +kernel
set_option maxRecDepth 20000 in
theorem mX5_at_2 : (.fieldLink RX5 28 "StoryPanelsModel" "row" "[I" : Cond) ∈ wsX5_at := by decide +kernel
set_option maxHeartbeats 4000000 in
set_option maxRecDepth 100000 in
theorem kX5_at (l : Launch) (D : va_G) (cI cB : ClassId) (a : Nat → Nat) (b : zM2) (y1 : Int) (L : List zPn) (O : List Int) (ev : Int) (hM : RM (mm_all b) L O ev) (hy1 : R32 y1) : zMet l yX5_at wsX5_at 2 45 0 0 D cI cB [.ref (a 0), .int (zI y1)] [zMod2 cI a b] (qX5_at cI a b y1 L O ev) := by
  refine zMet.of (cd := cX5_at) (maxL := 2) (ret := (some .int)) (by decide) rfl (Nat.le_of_ble_eq_true rfl) ?_
  intro p e s m args below meth c A ls hS hr hlk hnm hK hA hW hl
  have hS : CallFix p m c cX5_at 2 s args wsX5_at RX5 := hS
  have hx := hS.1
  have hb := hS.2.1
  have hown := hS.2.2.2.1
  have hts := hS.2.2.2.2
  have hl : lv_has ls 2 [(0, .ref (a 0)), (1, .int (zI y1))] := hl
  have hM1 := hM.2.1
  have hM3 := hM.2.2.1
  have hln := ordC_ln hM
  refine lv_iload_n hx hb dX5_at_0 rfl (lv_at hl 1 rfl) ?_
  refine z_if_ge (tgt := 7) hx hb dX5_at_1 (by decide) (by omega) (fun cc_1 => ?_) (fun cc_1 => ?_)
  · refine lv_aload_n hx hb dX5_at_7 rfl (lv_at hl 0 rfl) ?_
    refine z_callV (r := (RX5, TX5, 18)) (As := []) (rest := []) hS hK hA hW hl.1 [0] [] (kX5_findsOrder l D cI cB a b L O ev ev hM) (cwV 0 hts gX5_at_X5_findsOrder rfl rfl rfl (by decide +kernel) ⟨Nat.le_of_ble_eq_true rfl, Nat.le_of_ble_eq_true rfl⟩) (rfl : vwCl[5]? = some (RX5, TX5, 18)) (q0 := 0) rfl dX5_at_8 rfl rfl rfl rfl rfl (Nat.le_of_ble_eq_true rfl) ⟨Nat.le_of_ble_eq_true rfl, Nat.le_of_ble_eq_true rfl⟩ (fun v9 w9 H locs hq hW => ?_)
    obtain ⟨zrow_8, rfl, rfl, hh_8⟩ := hq
    have hW : zW D A s.heap [zMod2 cI a (mm_row_ b (zrow_8))] H locs := hW
    refine W.eq (g2 := F0 m 11 ls []) rfl ?_
    refine lv_iload_n hx hb dX5_at_11 rfl (lv_at hl 1 rfl) ?_
    refine lv_aload_n hx hb dX5_at_12 rfl (lv_at hl 0 rfl) ?_
    refine va_get (D := D) (ci := 5) (v := .ref (a 1)) (C := RX5) (T := TX5) (N := 18) hx hb hts iX5_at_X5 hown hK.1 hW.1 0 rfl rfl 0 (by decide) (hts _ mX5_at_1) (fun _ h9 => h9) rfl dX5_at_13 ?_
    refine lv_iconst (v := zI (1)) hx hb dX5_at_16 rfl ?_
    refine z_iald (n := 227) (g := mm_all b) hx hb hK hW 1 rfl dX5_at_17 (by omega) ?_
    refine z_icmp_ge (tgt := 35) hx hb dX5_at_18 (by decide) (by omega) (fun cc_18 => ?_) (fun cc_18 => ?_)
    · refine lv_bipush (v := zI (-5)) hx hb dX5_at_35 (by decide +kernel) ?_
      exact z_iret (v := (-5)) hx hb hr hlk hW dX5_at_37 (by
          exact ⟨(-5), zrow_8, rfl, rfl, by first | exact Or.inr (Or.inr ⟨pf, by omega, hf1, rfl⟩) | exact Or.inr (Or.inl ⟨by omega, by omega, rfl⟩)⟩)
    · obtain ⟨pf, hf1, hf2, hf3⟩ := FO_at hh_8 (k := y1) (by omega)
      refine lv_aload_n hx hb dX5_at_21 rfl (lv_at hl 0 rfl) ?_
      refine lv_aload_n hx hb dX5_at_22 rfl (lv_at hl 0 rfl) ?_
      refine va_get (D := D) (ci := 5) (v := .ref (a 7)) (C := RX5) (T := TX5) (N := 18) hx hb hts iX5_at_X5 hown hK.1 hW.1 0 rfl rfl 8 (by decide) (hts _ mX5_at_2) (fun _ h9 => h9) rfl dX5_at_23 ?_
      refine lv_iload_n hx hb dX5_at_26 rfl (lv_at hl 1 rfl) ?_
      refine z_iald (n := 10) (g := zrow_8) hx hb hK hW 7 rfl dX5_at_27 (by omega) ?_
      refine lv_iconst (v := zI (0)) hx hb dX5_at_28 rfl ?_
      refine z_callV (r := (RX5, TX5, 18)) (As := [.int (zI (zrow_8 y1)), .int (zI 0)]) (rest := []) hS hK hA hW hl.1 [0] [] (kX5_of l D cI cB a ((mm_row_ b (zrow_8))) (zrow_8 y1) 0 (by omega) (by omega)) (cwV 2 hts gX5_at_X5_of rfl rfl rfl (by decide +kernel) ⟨Nat.le_of_ble_eq_true rfl, Nat.le_of_ble_eq_true rfl⟩) (rfl : vwCl[5]? = some (RX5, TX5, 18)) (q0 := 0) rfl dX5_at_29 rfl rfl rfl rfl rfl (Nat.le_of_ble_eq_true rfl) ⟨Nat.le_of_ble_eq_true rfl, Nat.le_of_ble_eq_true rfl⟩ (fun v9 w9 H locs hq hW => ?_)
      obtain ⟨rr_29, rfl, rfl, hh_29⟩ := hq
      subst rr_29
      have hW : zW D A s.heap [zMod2 cI a (mm_row_ b (zrow_8))] H locs := hW
      refine W.eq (g2 := F0 m 32 ls [.int (zI (fL (mm_all ((mm_row_ b (zrow_8)))) (zrow_8 y1) 0))]) rfl ?_
      rw [show (fL (mm_all ((mm_row_ b (zrow_8)))) (zrow_8 y1) 0) = pf.1 by exact hf3.1]
      refine lv_goto (tgt := 37) hx hb dX5_at_32 (by decide) ?_
      exact z_iret (v := pf.1) hx hb hr hlk hW dX5_at_37 (by
          exact ⟨pf.1, zrow_8, rfl, rfl, by first | exact Or.inr (Or.inr ⟨pf, by omega, hf1, rfl⟩) | exact Or.inr (Or.inl ⟨by omega, by omega, rfl⟩)⟩)
  · refine lv_bipush (v := zI (-2)) hx hb dX5_at_4 (by decide +kernel) ?_
    exact z_iret (v := (-2)) hx hb hr hlk hW dX5_at_6 (by
        exact ⟨(-2), mm_row b, rfl, rfl, by exact Or.inl ⟨by omega, rfl⟩⟩)

abbrev qX5_scene (cI : ClassId) (a : Nat → Nat) (b : zM2) (y1 y2 : Int) (L : List zPn) (O : List Int) (ev : Int) : Option Value → List va_W → Prop := fun vq wq => ∃ (r : Int) (zrow : Int → Int) (zbrk : Int → Int) (znb : Int) (zhold : Int → Int) (zmov : Int → Int) (zbeh : Int → Int), vq = some (.int (zI r)) ∧ wq = [zMod2 cI a (mm_beh_ (mm_mov_ (mm_hold_ (mm_nb_ (mm_brk_ (mm_row_ b zrow) zbrk) znb) zhold) zmov) zbeh)] ∧ (scnR (ordC L O) O y1 y2 r)
set_option maxHeartbeats 4000000 in
set_option maxRecDepth 100000 in
theorem kX5_scene (l : Launch) (D : va_G) (cI cB : ClassId) (a : Nat → Nat) (b : zM2) (y1 y2 : Int) (L : List zPn) (O : List Int) (ev : Int) (hM : RM (mm_all b) L O ev) (hy1 : R32 y1) (hy2 : R32 y2) : zMet l yX5_scene wsX5_scene 6 139 0 0 D cI cB [.ref (a 0), .int (zI y1), .int (zI y2)] [zMod2 cI a b] (qX5_scene cI a b y1 y2 L O ev) := by
  refine zMet.of (cd := cX5_scene) (maxL := 3) (ret := (some .int)) (by decide) rfl (Nat.le_of_ble_eq_true rfl) ?_
  intro p e s m args below meth c A ls hS hr hlk hnm hK hA hW hl
  have hS : CallFix p m c cX5_scene 3 s args wsX5_scene RX5 := hS
  have hx := hS.1
  have hb := hS.2.1
  have hown := hS.2.2.2.1
  have hts := hS.2.2.2.2
  have hl : lv_has ls 3 [(0, .ref (a 0)), (1, .int (zI y1)), (2, .int (zI y2))] := hl
  have hM1 := hM.2.1
  have hM3 := hM.2.2.1
  refine lv_iload_n hx hb dX5_scene_0 rfl (lv_at hl 1 rfl) ?_
  refine z_callS (As := [.int (zI y1)]) (rest := []) hS hK hA hW hl.1 [] [0] (kX5_isScene l D cI cB y1 (by omega)) (va_cwS 1 hts gX5_scene_X5_isScene rfl rfl rfl (by decide +kernel) ⟨Nat.le_of_ble_eq_true rfl, Nat.le_of_ble_eq_true rfl⟩) dX5_scene_1 rfl rfl rfl rfl rfl (Nat.le_of_ble_eq_true rfl) ⟨Nat.le_of_ble_eq_true rfl, Nat.le_of_ble_eq_true rfl⟩ (fun v9 w9 H locs hq hW => ?_)
  obtain ⟨rr_1, rfl, rfl, hh_1⟩ := hq
  have hW : zW D A s.heap [zMod2 cI a b] H locs := hW
  refine W.eq (g2 := F0 m 4 ls [.int (zI rr_1)]) rfl ?_
  refine z_if_ne (tgt := 9) hx hb dX5_scene_4 (by decide) (by omega) (fun cc_4 => ?_) (fun cc_4 => ?_)
  · refine lv_iload_n hx hb dX5_scene_9 rfl (lv_at hl 2 rfl) ?_
    rcases (show y2 = 0 ∨ y2 = 1 ∨ y2 = 2 ∨ y2 = 3 ∨ y2 = 4 ∨ (y2 < 0 ∨ 4 < y2) by omega) with ww_10 | ww_10 | ww_10 | ww_10 | ww_10 | ww_10
    · refine z_tableIn (k := 0) (off := 34) (tgt := 44) hx hb dX5_scene_10 (ww_10) (by decide) (by decide) (by decide +kernel) (by decide) ?_
      refine lv_aload_n hx hb dX5_scene_44 rfl (lv_at hl 0 rfl) ?_
      refine lv_iload_n hx hb dX5_scene_45 rfl (lv_at hl 1 rfl) ?_
      refine z_callV (r := (RX5, TX5, 18)) (As := [.int (zI y1)]) (rest := []) hS hK hA hW hl.1 [0] [] (kX5_placeOfScene l D cI cB a b y1 L O ev ev hM (by omega)) (cwV 1 hts gX5_scene_X5_placeOfScene rfl rfl rfl (by decide +kernel) ⟨Nat.le_of_ble_eq_true rfl, Nat.le_of_ble_eq_true rfl⟩) (rfl : vwCl[5]? = some (RX5, TX5, 18)) (q0 := 0) rfl dX5_scene_46 rfl rfl rfl rfl rfl (Nat.le_of_ble_eq_true rfl) ⟨Nat.le_of_ble_eq_true rfl, Nat.le_of_ble_eq_true rfl⟩ (fun v9 w9 H locs hq hW => ?_)
      obtain ⟨rr_46, rfl, rfl, hh_46⟩ := hq
      subst rr_46
      have hW : zW D A s.heap [zMod2 cI a b] H locs := hW
      refine W.eq (g2 := F0 m 49 ls [.int (zI ((O.idxOf y1 : Int)))]) rfl ?_
      exact z_iret (v := (O.idxOf y1 : Int)) hx hb hr hlk hW dX5_scene_49 (by
          exact ⟨(O.idxOf y1 : Int), mm_row b, mm_brk b, mm_nb b, mm_hold b, mm_mov b, mm_beh b, rfl, rfl, by exact Or.inr ⟨by omega, by rw [ww_10]; rfl⟩⟩)
    · refine z_tableIn (k := 1) (off := 40) (tgt := 50) hx hb dX5_scene_10 (ww_10) (by decide) (by decide) (by decide +kernel) (by decide) ?_
      refine lv_aload_n hx hb dX5_scene_50 rfl (lv_at hl 0 rfl) ?_
      refine lv_iload_n hx hb dX5_scene_51 rfl (lv_at hl 1 rfl) ?_
      refine z_callV (r := (RX5, TX5, 18)) (As := [.int (zI y1)]) (rest := []) hS hK hA hW hl.1 [0] [] (kX5_panelsOf l D cI cB a b y1 L O ev ev hM hy1) (cwV 1 hts gX5_scene_X5_panelsOf rfl rfl rfl (by decide +kernel) ⟨Nat.le_of_ble_eq_true rfl, Nat.le_of_ble_eq_true rfl⟩) (rfl : vwCl[5]? = some (RX5, TX5, 18)) (q0 := 0) rfl dX5_scene_52 rfl rfl rfl rfl rfl (Nat.le_of_ble_eq_true rfl) ⟨Nat.le_of_ble_eq_true rfl, Nat.le_of_ble_eq_true rfl⟩ (fun v9 w9 H locs hq hW => ?_)
      obtain ⟨rr_52, rfl, rfl, hh_52⟩ := hq
      subst rr_52
      have hW : zW D A s.heap [zMod2 cI a b] H locs := hW
      refine W.eq (g2 := F0 m 55 ls [.int (zI (inC L y1))]) rfl ?_
      exact z_iret (v := inC L y1) hx hb hr hlk hW dX5_scene_55 (by
          exact ⟨inC L y1, mm_row b, mm_brk b, mm_nb b, mm_hold b, mm_mov b, mm_beh b, rfl, rfl, by exact Or.inr ⟨by omega, by rw [ww_10, ← inC_Or hM]; rfl⟩⟩)
    · refine z_tableIn (k := 2) (off := 46) (tgt := 56) hx hb dX5_scene_10 (ww_10) (by decide) (by decide) (by decide +kernel) (by decide) ?_
      refine lv_aload_n hx hb dX5_scene_56 rfl (lv_at hl 0 rfl) ?_
      refine lv_iload_n hx hb dX5_scene_57 rfl (lv_at hl 1 rfl) ?_
      refine z_callV (r := (RX5, TX5, 18)) (As := [.int (zI y1)]) (rest := []) hS hK hA hW hl.1 [0] [] (kX5_durationOf l D cI cB a b y1 L O ev ev hM hy1) (cwV 1 hts gX5_scene_X5_durationOf rfl rfl rfl (by decide +kernel) ⟨Nat.le_of_ble_eq_true rfl, Nat.le_of_ble_eq_true rfl⟩) (rfl : vwCl[5]? = some (RX5, TX5, 18)) (q0 := 0) rfl dX5_scene_58 rfl rfl rfl rfl rfl (Nat.le_of_ble_eq_true rfl) ⟨Nat.le_of_ble_eq_true rfl, Nat.le_of_ble_eq_true rfl⟩ (fun v9 w9 H locs hq hW => ?_)
      obtain ⟨rr_58, rfl, rfl, hh_58⟩ := hq
      subst rr_58
      have hW : zW D A s.heap [zMod2 cI a b] H locs := hW
      refine W.eq (g2 := F0 m 61 ls [.int (zI (durS L y1))]) rfl ?_
      exact z_iret (v := durS L y1) hx hb hr hlk hW dX5_scene_61 (by
          exact ⟨durS L y1, mm_row b, mm_brk b, mm_nb b, mm_hold b, mm_mov b, mm_beh b, rfl, rfl, by exact Or.inr ⟨by omega, by rw [ww_10, (scnA_2 hM (s := y1) (by omega)).1]; rfl⟩⟩)
    · refine z_tableIn (k := 3) (off := 52) (tgt := 62) hx hb dX5_scene_10 (ww_10) (by decide) (by decide) (by decide +kernel) (by decide) ?_
      refine lv_aload_n hx hb dX5_scene_62 rfl (lv_at hl 0 rfl) ?_
      refine lv_iload_n hx hb dX5_scene_63 rfl (lv_at hl 1 rfl) ?_
      refine z_callV (r := (RX5, TX5, 18)) (As := [.int (zI y1)]) (rest := []) hS hK hA hW hl.1 [0] [] (kX5_breaksOf l D cI cB a b y1 L O ev ev hM hy1) (cwV 1 hts gX5_scene_X5_breaksOf rfl rfl rfl (by decide +kernel) ⟨Nat.le_of_ble_eq_true rfl, Nat.le_of_ble_eq_true rfl⟩) (rfl : vwCl[5]? = some (RX5, TX5, 18)) (q0 := 0) rfl dX5_scene_64 rfl rfl rfl rfl rfl (Nat.le_of_ble_eq_true rfl) ⟨Nat.le_of_ble_eq_true rfl, Nat.le_of_ble_eq_true rfl⟩ (fun v9 w9 H locs hq hW => ?_)
      obtain ⟨rr_64, zrow_64, zbrk_64, znb_64, zhold_64, zmov_64, zbeh_64, rfl, rfl, hh_64⟩ := hq
      have hW : zW D A s.heap [zMod2 cI a (mm_beh_ (mm_mov_ (mm_hold_ (mm_nb_ (mm_brk_ (mm_row_ b (zrow_64)) (zbrk_64)) (znb_64)) (zhold_64)) (zmov_64)) (zbeh_64))] H locs := hW
      refine W.eq (g2 := F0 m 67 ls [.int (zI rr_64)]) rfl ?_
      rw [show rr_64 = (scnB (ordC L O) y1) by exact hh_64]
      exact z_iret (v := scnB (ordC L O) y1) hx hb hr hlk hW dX5_scene_67 (by
          exact ⟨scnB (ordC L O) y1, zrow_64, zbrk_64, znb_64, zhold_64, zmov_64, zbeh_64, rfl, rfl, by exact Or.inr ⟨by omega, by rw [ww_10]; rfl⟩⟩)
    · refine z_tableIn (k := 4) (off := 58) (tgt := 68) hx hb dX5_scene_10 (ww_10) (by decide) (by decide) (by decide +kernel) (by decide) ?_
      refine lv_aload_n hx hb dX5_scene_68 rfl (lv_at hl 0 rfl) ?_
      refine lv_iload_n hx hb dX5_scene_69 rfl (lv_at hl 1 rfl) ?_
      refine z_callV (r := (RX5, TX5, 18)) (As := [.int (zI y1)]) (rest := []) hS hK hA hW hl.1 [0] [] (kX5_beginOfScene l D cI cB a b y1 L O ev ev hM (by omega)) (cwV 1 hts gX5_scene_X5_beginOfScene rfl rfl rfl (by decide +kernel) ⟨Nat.le_of_ble_eq_true rfl, Nat.le_of_ble_eq_true rfl⟩) (rfl : vwCl[5]? = some (RX5, TX5, 18)) (q0 := 0) rfl dX5_scene_70 rfl rfl rfl rfl rfl (Nat.le_of_ble_eq_true rfl) ⟨Nat.le_of_ble_eq_true rfl, Nat.le_of_ble_eq_true rfl⟩ (fun v9 w9 H locs hq hW => ?_)
      obtain ⟨rr_70, rfl, rfl, hh_70⟩ := hq
      subst rr_70
      have hW : zW D A s.heap [zMod2 cI a b] H locs := hW
      refine W.eq (g2 := F0 m 73 ls [.int (zI (bgS L O (O.idxOf y1 : Int)))]) rfl ?_
      exact z_iret (v := bgS L O (O.idxOf y1 : Int)) hx hb hr hlk hW dX5_scene_73 (by
          exact ⟨bgS L O (O.idxOf y1 : Int), mm_row b, mm_brk b, mm_nb b, mm_hold b, mm_mov b, mm_beh b, rfl, rfl, by exact Or.inr ⟨by omega, by rw [ww_10, (scnA_2 hM (s := y1) (by omega)).2]; rfl⟩⟩)
    · refine z_tableOut (tgt := 74) hx hb dX5_scene_10 (by omega) ww_10 (by decide) ?_
      refine lv_bipush (v := zI (-2)) hx hb dX5_scene_74 (by decide +kernel) ?_
      exact z_iret (v := (-2)) hx hb hr hlk hW dX5_scene_76 (by
          exact ⟨(-2), mm_row b, mm_brk b, mm_nb b, mm_hold b, mm_mov b, mm_beh b, rfl, rfl, by exact Or.inr ⟨by omega, by unfold scnA; rw [if_neg (by omega), if_neg (by omega), if_neg (by omega), if_neg (by omega), if_neg (by omega)]⟩⟩)
  · refine lv_iconst (v := zI (-1)) hx hb dX5_scene_7 rfl ?_
    exact z_iret (v := (-1)) hx hb hr hlk hW dX5_scene_8 (by
        exact ⟨(-1), mm_row b, mm_brk b, mm_nb b, mm_hold b, mm_mov b, mm_beh b, rfl, rfl, by exact Or.inl ⟨by omega, rfl⟩⟩)

abbrev qX5_holder (cI : ClassId) (a : Nat → Nat) (b : zM2) (y1 y2 : Int) (L : List zPn) (O : List Int) (ev : Int) : Option Value → List va_W → Prop := fun vq wq => ∃ (r : Int) (zrow : Int → Int) (zbrk : Int → Int) (znb : Int) (zhold : Int → Int) (zmov : Int → Int) (zbeh : Int → Int), vq = some (.int (zI r)) ∧ wq = [zMod2 cI a (mm_beh_ (mm_mov_ (mm_hold_ (mm_nb_ (mm_brk_ (mm_row_ b zrow) zbrk) znb) zhold) zmov) zbeh)] ∧ (hldR (ordC L O) y1 y2 r)
set_option maxRecDepth 20000 in
theorem mX5_holder_0 : (.constantLong RX5 198 (9) : Cond) ∈ wsX5_holder := by decide +kernel
set_option maxRecDepth 20000 in
theorem iX5_holder_X5 : ∀ w ∈ u_ws RX5 TX5 18, w ∈ wsX5_holder := by decide +kernel
set_option maxRecDepth 20000 in
theorem mX5_holder_2 : (.fieldLink RX5 40 "StoryPanelsModel" "holdersBehind" "[I" : Cond) ∈ wsX5_holder := by decide +kernel
set_option maxHeartbeats 4000000 in
set_option maxRecDepth 100000 in
theorem kX5_holder (l : Launch) (D : va_G) (cI cB : ClassId) (a : Nat → Nat) (b : zM2) (y1 y2 : Int) (L : List zPn) (O : List Int) (ev : Int) (hM : RM (mm_all b) L O ev) (hy1 : R32 y1) (hy2 : R32 y2) : zMet l yX5_holder wsX5_holder 5 116 0 0 D cI cB [.ref (a 0), .int (zI y1), .int (zI y2)] [zMod2 cI a b] (qX5_holder cI a b y1 y2 L O ev) := by
  refine zMet.of (cd := cX5_holder) (maxL := 4) (ret := (some .int)) (by decide) rfl (Nat.le_of_ble_eq_true rfl) ?_
  intro p e s m args below meth c A ls hS hr hlk hnm hK hA hW hl
  have hS : CallFix p m c cX5_holder 4 s args wsX5_holder RX5 := hS
  have hx := hS.1
  have hb := hS.2.1
  have hown := hS.2.2.2.1
  have hts := hS.2.2.2.2
  have hl : lv_has ls 4 [(0, .ref (a 0)), (1, .int (zI y1)), (2, .int (zI y2))] := hl
  have hM1 := hM.2.1
  have hM3 := hM.2.2.1
  refine lv_aload_n hx hb dX5_holder_0 rfl (lv_at hl 0 rfl) ?_
  refine lv_iload_n hx hb dX5_holder_1 rfl (lv_at hl 2 rfl) ?_
  refine z_callV (r := (RX5, TX5, 18)) (As := [.int (zI y2)]) (rest := []) hS hK hA hW hl.1 [0] [] (kX5_lieOf l D cI cB a b y2 L O ev ev hM (by omega)) (cwV 1 hts gX5_holder_X5_lieOf rfl rfl rfl (by decide +kernel) ⟨Nat.le_of_ble_eq_true rfl, Nat.le_of_ble_eq_true rfl⟩) (rfl : vwCl[5]? = some (RX5, TX5, 18)) (q0 := 0) rfl dX5_holder_2 rfl rfl rfl rfl rfl (Nat.le_of_ble_eq_true rfl) ⟨Nat.le_of_ble_eq_true rfl, Nat.le_of_ble_eq_true rfl⟩ (fun v9 w9 H locs hq hW => ?_)
  obtain ⟨rr_2, rfl, rfl, hh_2⟩ := hq
  have hW : zW D A s.heap [zMod2 cI a b] H locs := hW
  refine W.eq (g2 := F0 m 5 ls [.int (zI rr_2)]) rfl ?_
  have hlc : lieC L O (mm_all b) ev y2 rr_2 := lie_c hM hh_2
  have hlr := lieC_rg hlc hM3
  clear hh_2
  refine lv_istore_n (lv' := [(3, .int (zI rr_2)), (0, .ref (a 0)), (1, .int (zI y1)), (2, .int (zI y2))]) hx hb dX5_holder_5 rfl hl (by decide) rfl (fun ls hl => ?_)
  refine lv_iload_n hx hb dX5_holder_6 rfl (lv_at hl 2 rfl) ?_
  refine z_i2l hx hb dX5_holder_7 (by omega) ?_
  refine z_lconst hx hb dX5_holder_8 ?_
  refine z_ldc2 (n := 9) hx hb hown (hts _ mX5_holder_0) (by decide) dX5_holder_9 ?_
  refine z_callS (As := [.long (zL y1), .long (zL 0), .long (zL 9)]) (rest := []) hS hK hA hW hl.1 [] [0] (kX5_in l D cI cB y1 0 9 (by omega) (by omega) (by omega)) (va_cwS 3 hts gX5_holder_X5_in rfl rfl rfl (by decide +kernel) ⟨Nat.le_of_ble_eq_true rfl, Nat.le_of_ble_eq_true rfl⟩) dX5_holder_12 rfl rfl rfl rfl rfl (Nat.le_of_ble_eq_true rfl) ⟨Nat.le_of_ble_eq_true rfl, Nat.le_of_ble_eq_true rfl⟩ (fun v9 w9 H locs hq hW => ?_)
  obtain ⟨rr_12, rfl, rfl, hh_12⟩ := hq
  have hW : zW D A s.heap [zMod2 cI a b] H locs := hW
  refine W.eq (g2 := F0 m 15 ls [.int (zI rr_12)]) rfl ?_
  refine z_if_eq (tgt := 24) hx hb dX5_holder_15 (by decide) (by omega) (fun cc_15 => ?_) (fun cc_15 => ?_)
  · refine lv_iconst (v := zI (-1)) hx hb dX5_holder_24 rfl ?_
    exact z_iret (v := (-1)) hx hb hr hlk hW dX5_holder_25 (by
        exact ⟨(-1), mm_row b, mm_brk b, mm_nb b, mm_hold b, mm_mov b, mm_beh b, rfl, rfl, by first | exact Or.inl ⟨Or.inr (Or.inr hnp), rfl⟩ | exact Or.inl ⟨by omega, rfl⟩ | (refine Or.inl ⟨?_, rfl⟩; rcases (show y1 < 0 ∨ 10 ≤ y1 by omega) with hq | hq; exact Or.inl hq; exact Or.inr (Or.inl hq))⟩)
  · refine lv_iload_n hx hb dX5_holder_18 rfl (lv_at hl 0 rfl) ?_
    refine lv_bipush (v := zI (-5)) hx hb dX5_holder_19 (by decide +kernel) ?_
    refine z_icmp_ne (tgt := 26) hx hb dX5_holder_21 (by decide) (by omega) (fun cc_21 => ?_) (fun cc_21 => ?_)
    · obtain ⟨kq, jq, pq, ⟨hlq, hpx⟩, ⟨hkl, hrk⟩, hjp, hpo, hrw⟩ := lieC_yes hlc (by omega)
      have hp1 := hpo.1.1
      have hp2 := hpo.1.2.1
      have hp3 := hpo.1.2.2.1
      have hp4 := hpo.1.2.2.2.1
      refine lv_aload_n hx hb dX5_holder_26 rfl (lv_at hl 1 rfl) ?_
      refine z_callV (r := (RX5, TX5, 18)) (As := []) (rest := []) hS hK hA hW hl.1 [0] [] (kX5_goesThrough l D cI cB a b L O ev ev hM) (cwV 0 hts gX5_holder_X5_goesThrough rfl rfl rfl (by decide +kernel) ⟨Nat.le_of_ble_eq_true rfl, Nat.le_of_ble_eq_true rfl⟩) (rfl : vwCl[5]? = some (RX5, TX5, 18)) (q0 := 0) rfl dX5_holder_27 rfl rfl rfl rfl rfl (Nat.le_of_ble_eq_true rfl) ⟨Nat.le_of_ble_eq_true rfl, Nat.le_of_ble_eq_true rfl⟩ (fun v9 w9 H locs hq hW => ?_)
      obtain ⟨zrow_27, zbrk_27, znb_27, zhold_27, zmov_27, zbeh_27, rfl, rfl, hh_27⟩ := hq
      have hW : zW D A s.heap [zMod2 cI a (mm_beh_ (mm_mov_ (mm_hold_ (mm_nb_ (mm_brk_ (mm_row_ b (zrow_27)) (zbrk_27)) (znb_27)) (zhold_27)) (zmov_27)) (zbeh_27))] H locs := hW
      refine W.eq (g2 := F0 m 30 ls []) rfl ?_
      have hbe := hh_27.2.2
      have hkl := lkP_lt hM hlq
      refine lv_aload_n hx hb dX5_holder_30 rfl (lv_at hl 1 rfl) ?_
      refine va_get (D := D) (ci := 5) (v := .ref (a 11)) (C := RX5) (T := TX5) (N := 18) hx hb hts iX5_holder_X5 hown hK.1 hW.1 0 rfl rfl 13 (by decide) (hts _ mX5_holder_2) (fun _ h9 => h9) rfl dX5_holder_31 ?_
      refine lv_bipush (v := zI (10)) hx hb dX5_holder_34 (by decide +kernel) ?_
      refine lv_aload_n hx hb dX5_holder_36 rfl (lv_at hl 1 rfl) ?_
      refine lv_iload_n hx hb dX5_holder_37 rfl (lv_at hl 0 rfl) ?_
      refine z_callV (r := (RX5, TX5, 18)) (As := [.int (zI rr_2)]) (rest := [.int (zI 10), .ref (a 11)]) hS hK hA hW hl.1 [0] [] (kX5_rankOf l D cI cB a ((mm_beh_ (mm_mov_ (mm_hold_ (mm_nb_ (mm_brk_ (mm_row_ b (zrow_27)) (zbrk_27)) (znb_27)) (zhold_27)) (zmov_27)) (zbeh_27))) rr_2 L O ev ev kq jq pq hM hlq hrk) (cwV 1 hts gX5_holder_X5_rankOf rfl rfl rfl (by decide +kernel) ⟨Nat.le_of_ble_eq_true rfl, Nat.le_of_ble_eq_true rfl⟩) (rfl : vwCl[5]? = some (RX5, TX5, 18)) (q0 := 0) rfl dX5_holder_38 rfl rfl rfl rfl rfl (Nat.le_of_ble_eq_true rfl) ⟨Nat.le_of_ble_eq_true rfl, Nat.le_of_ble_eq_true rfl⟩ (fun v9 w9 H locs hq hW => ?_)
      obtain ⟨rr_38, zrow_38, rfl, rfl, hh_38⟩ := hq
      have hW : zW D A s.heap [zMod2 cI a (mm_beh_ (mm_mov_ (mm_hold_ (mm_nb_ (mm_brk_ (mm_row_ b (zrow_38)) (zbrk_27)) (znb_27)) (zhold_27)) (zmov_27)) (zbeh_27))] H locs := hW
      refine W.eq (g2 := F0 m 41 ls [.int (zI rr_38), .int (zI 10), .ref (a 11)]) rfl ?_
      rw [show rr_38 = ((jq : Int)) by exact hh_38.1]
      refine z_imul hx hb dX5_holder_41 ?_
      refine lv_iload_n hx hb dX5_holder_42 rfl (lv_at hl 2 rfl) ?_
      refine z_iadd hx hb dX5_holder_43 ?_
      refine z_iald (n := 100) (g := zbeh_27) hx hb hK hW 11 rfl dX5_holder_44 (by omega) ?_
      exact z_iret (v := zbeh_27 ((10 * ((jq : Int))) + y1)) hx hb hr hlk hW dX5_holder_45 (by
          exact ⟨zbeh_27 ((10 * ((jq : Int))) + y1), zrow_38, zbrk_27, znb_27, zhold_27, zmov_27, zbeh_27, rfl, rfl, by exact Or.inr ⟨by omega, jq, pq, hjp, BEH_at hM hbe hlq (by omega)⟩⟩)
    · have hnp := lieC_no hlc (by omega)
      refine lv_iconst (v := zI (-1)) hx hb dX5_holder_24 rfl ?_
      exact z_iret (v := (-1)) hx hb hr hlk hW dX5_holder_25 (by
          exact ⟨(-1), mm_row b, mm_brk b, mm_nb b, mm_hold b, mm_mov b, mm_beh b, rfl, rfl, by first | exact Or.inl ⟨Or.inr (Or.inr hnp), rfl⟩ | exact Or.inl ⟨by omega, rfl⟩ | (refine Or.inl ⟨?_, rfl⟩; rcases (show y1 < 0 ∨ 10 ≤ y1 by omega) with hq | hq; exact Or.inl hq; exact Or.inr (Or.inl hq))⟩)

abbrev qX5_breakOf (cI : ClassId) (a : Nat → Nat) (b : zM2) (y1 y2 : Int) (L : List zPn) (O : List Int) (ev : Int) : Option Value → List va_W → Prop := fun vq wq => ∃ (r : Int) (zrow : Int → Int) (zbrk : Int → Int) (znb : Int) (zhold : Int → Int) (zmov : Int → Int) (zbeh : Int → Int), vq = some (.int (zI r)) ∧ wq = [zMod2 cI a (mm_beh_ (mm_mov_ (mm_hold_ (mm_nb_ (mm_brk_ (mm_row_ b zrow) zbrk) znb) zhold) zmov) zbeh)] ∧ (brkR (ordC L O) y1 y2 r)
set_option maxRecDepth 20000 in
theorem mX5_breakOf_0 : (.constantLong RX5 57 (4) : Cond) ∈ wsX5_breakOf := by decide +kernel
set_option maxRecDepth 20000 in
theorem iX5_breakOf_X5 : ∀ w ∈ u_ws RX5 TX5 18, w ∈ wsX5_breakOf := by decide +kernel
set_option maxRecDepth 20000 in
theorem mX5_breakOf_2 : (.fieldLink RX5 78 "StoryPanelsModel" "breaks" "I" : Cond) ∈ wsX5_breakOf := by decide +kernel
set_option maxRecDepth 20000 in
theorem mX5_breakOf_3 : (.fieldLink RX5 31 "StoryPanelsModel" "broken" "[I" : Cond) ∈ wsX5_breakOf := by decide +kernel
set_option maxHeartbeats 4000000 in
set_option maxRecDepth 100000 in
theorem kX5_breakOf (l : Launch) (D : va_G) (cI cB : ClassId) (a : Nat → Nat) (b : zM2) (y1 y2 : Int) (L : List zPn) (O : List Int) (ev : Int) (hM : RM (mm_all b) L O ev) (hy1 : R32 y1) (hy2 : R32 y2) : zMet l yX5_breakOf wsX5_breakOf 5 116 0 0 D cI cB [.ref (a 0), .int (zI y1), .int (zI y2)] [zMod2 cI a b] (qX5_breakOf cI a b y1 y2 L O ev) := by
  refine zMet.of (cd := cX5_breakOf) (maxL := 3) (ret := (some .int)) (by decide) rfl (Nat.le_of_ble_eq_true rfl) ?_
  intro p e s m args below meth c A ls hS hr hlk hnm hK hA hW hl
  have hS : CallFix p m c cX5_breakOf 3 s args wsX5_breakOf RX5 := hS
  have hx := hS.1
  have hb := hS.2.1
  have hown := hS.2.2.2.1
  have hts := hS.2.2.2.2
  have hl : lv_has ls 3 [(0, .ref (a 0)), (1, .int (zI y1)), (2, .int (zI y2))] := hl
  have hrg := nbC_rgM hM
  refine lv_iload_n hx hb dX5_breakOf_0 rfl (lv_at hl 1 rfl) ?_
  refine z_if_lt (tgt := 16) hx hb dX5_breakOf_1 (by decide) (by omega) (fun cc_1 => ?_) (fun cc_1 => ?_)
  · refine lv_bipush (v := zI (-2)) hx hb dX5_breakOf_16 (by decide +kernel) ?_
    exact z_iret (v := (-2)) hx hb hr hlk hW dX5_breakOf_18 (by
        exact ⟨(-2), mm_row b, mm_brk b, mm_nb b, mm_hold b, mm_mov b, mm_beh b, rfl, rfl, by exact Or.inl ⟨by omega, rfl⟩⟩)
  · refine lv_iload_n hx hb dX5_breakOf_4 rfl (lv_at hl 2 rfl) ?_
    refine z_i2l hx hb dX5_breakOf_5 (by omega) ?_
    refine z_lconst hx hb dX5_breakOf_6 ?_
    refine z_ldc2 (n := 4) hx hb hown (hts _ mX5_breakOf_0) (by decide) dX5_breakOf_7 ?_
    refine z_callS (As := [.long (zL y2), .long (zL 0), .long (zL 4)]) (rest := []) hS hK hA hW hl.1 [] [0] (kX5_in l D cI cB y2 0 4 (by omega) (by omega) (by omega)) (va_cwS 3 hts gX5_breakOf_X5_in rfl rfl rfl (by decide +kernel) ⟨Nat.le_of_ble_eq_true rfl, Nat.le_of_ble_eq_true rfl⟩) dX5_breakOf_10 rfl rfl rfl rfl rfl (Nat.le_of_ble_eq_true rfl) ⟨Nat.le_of_ble_eq_true rfl, Nat.le_of_ble_eq_true rfl⟩ (fun v9 w9 H locs hq hW => ?_)
    obtain ⟨rr_10, rfl, rfl, hh_10⟩ := hq
    have hW : zW D A s.heap [zMod2 cI a b] H locs := hW
    refine W.eq (g2 := F0 m 13 ls [.int (zI rr_10)]) rfl ?_
    refine z_if_ne (tgt := 19) hx hb dX5_breakOf_13 (by decide) (by omega) (fun cc_13 => ?_) (fun cc_13 => ?_)
    · refine lv_aload_n hx hb dX5_breakOf_19 rfl (lv_at hl 0 rfl) ?_
      refine z_callV (r := (RX5, TX5, 18)) (As := []) (rest := []) hS hK hA hW hl.1 [0] [] (kX5_goesThrough l D cI cB a b L O ev ev hM) (cwV 0 hts gX5_breakOf_X5_goesThrough rfl rfl rfl (by decide +kernel) ⟨Nat.le_of_ble_eq_true rfl, Nat.le_of_ble_eq_true rfl⟩) (rfl : vwCl[5]? = some (RX5, TX5, 18)) (q0 := 0) rfl dX5_breakOf_20 rfl rfl rfl rfl rfl (Nat.le_of_ble_eq_true rfl) ⟨Nat.le_of_ble_eq_true rfl, Nat.le_of_ble_eq_true rfl⟩ (fun v9 w9 H locs hq hW => ?_)
      obtain ⟨zrow_20, zbrk_20, znb_20, zhold_20, zmov_20, zbeh_20, rfl, rfl, hh_20⟩ := hq
      have hW : zW D A s.heap [zMod2 cI a (mm_beh_ (mm_mov_ (mm_hold_ (mm_nb_ (mm_brk_ (mm_row_ b (zrow_20)) (zbrk_20)) (znb_20)) (zhold_20)) (zmov_20)) (zbeh_20))] H locs := hW
      refine W.eq (g2 := F0 m 23 ls []) rfl ?_
      have hcg := hh_20.2.1
      have hnb : znb_20 = nbC (ordC L O) := hcg.2.1
      refine lv_iload_n hx hb dX5_breakOf_23 rfl (lv_at hl 1 rfl) ?_
      refine lv_aload_n hx hb dX5_breakOf_24 rfl (lv_at hl 0 rfl) ?_
      refine va_get (D := D) (ci := 5) (v := .int (zI znb_20)) (C := RX5) (T := TX5) (N := 18) hx hb hts iX5_breakOf_X5 hown hK.1 hW.1 0 rfl rfl 10 (by decide) (hts _ mX5_breakOf_2) (fun _ h9 => h9) rfl dX5_breakOf_25 ?_
      refine z_icmp_ge (tgt := 44) hx hb dX5_breakOf_28 (by decide) (by omega) (fun cc_28 => ?_) (fun cc_28 => ?_)
      · refine lv_bipush (v := zI (-5)) hx hb dX5_breakOf_44 (by decide +kernel) ?_
        exact z_iret (v := (-5)) hx hb hr hlk hW dX5_breakOf_46 (by
            exact ⟨(-5), zrow_20, zbrk_20, znb_20, zhold_20, zmov_20, zbeh_20, rfl, rfl, by first | exact Or.inr ⟨by omega, Or.inr ⟨by omega, RCg_w hcg (by omega) (by omega)⟩⟩ | exact Or.inr ⟨by omega, Or.inl ⟨by omega, rfl⟩⟩⟩)
      · refine lv_aload_n hx hb dX5_breakOf_31 rfl (lv_at hl 0 rfl) ?_
        refine va_get (D := D) (ci := 5) (v := .ref (a 8)) (C := RX5) (T := TX5) (N := 18) hx hb hts iX5_breakOf_X5 hown hK.1 hW.1 0 rfl rfl 9 (by decide) (hts _ mX5_breakOf_3) (fun _ h9 => h9) rfl dX5_breakOf_32 ?_
        refine lv_iconst (v := zI (5)) hx hb dX5_breakOf_35 rfl ?_
        refine lv_iload_n hx hb dX5_breakOf_36 rfl (lv_at hl 1 rfl) ?_
        refine z_imul hx hb dX5_breakOf_37 ?_
        refine lv_iload_n hx hb dX5_breakOf_38 rfl (lv_at hl 2 rfl) ?_
        refine z_iadd hx hb dX5_breakOf_39 ?_
        refine z_iald (n := 850) (g := zbrk_20) hx hb hK hW 8 rfl dX5_breakOf_40 (by omega) ?_
        refine lv_goto (tgt := 46) hx hb dX5_breakOf_41 (by decide) ?_
        exact z_iret (v := zbrk_20 ((5 * y1) + y2)) hx hb hr hlk hW dX5_breakOf_46 (by
            exact ⟨zbrk_20 ((5 * y1) + y2), zrow_20, zbrk_20, znb_20, zhold_20, zmov_20, zbeh_20, rfl, rfl, by first | exact Or.inr ⟨by omega, Or.inr ⟨by omega, RCg_w hcg (by omega) (by omega)⟩⟩ | exact Or.inr ⟨by omega, Or.inl ⟨by omega, rfl⟩⟩⟩)
    · refine lv_bipush (v := zI (-2)) hx hb dX5_breakOf_16 (by decide +kernel) ?_
      exact z_iret (v := (-2)) hx hb hr hlk hW dX5_breakOf_18 (by
          exact ⟨(-2), mm_row b, mm_brk b, mm_nb b, mm_hold b, mm_mov b, mm_beh b, rfl, rfl, by exact Or.inl ⟨by omega, rfl⟩⟩)

abbrev qX5_firstBreak (cI : ClassId) (a : Nat → Nat) (b : zM2) (y1 y2 : Int) (L : List zPn) (O : List Int) (ev : Int) : Option Value → List va_W → Prop := fun vq wq => ∃ (r : Int) (zrow : Int → Int) (zbrk : Int → Int) (znb : Int) (zhold : Int → Int) (zmov : Int → Int) (zbeh : Int → Int), vq = some (.int (zI r)) ∧ wq = [zMod2 cI a (mm_beh_ (mm_mov_ (mm_hold_ (mm_nb_ (mm_brk_ (mm_row_ b zrow) zbrk) znb) zhold) zmov) zbeh)] ∧ (fstR (ordC L O) y1 y2 r)
set_option maxRecDepth 20000 in
theorem mX5_firstBreak_0 : (.constantLong RX5 184 (2) : Cond) ∈ wsX5_firstBreak := by decide +kernel
set_option maxRecDepth 20000 in
theorem iX5_firstBreak_X5 : ∀ w ∈ u_ws RX5 TX5 18, w ∈ wsX5_firstBreak := by decide +kernel
set_option maxRecDepth 20000 in
theorem mX5_firstBreak_2 : (.fieldLink RX5 78 "StoryPanelsModel" "breaks" "I" : Cond) ∈ wsX5_firstBreak := by decide +kernel
set_option maxRecDepth 20000 in
theorem mX5_firstBreak_3 : (.fieldLink RX5 31 "StoryPanelsModel" "broken" "[I" : Cond) ∈ wsX5_firstBreak := by decide +kernel
set_option maxHeartbeats 4000000 in
set_option maxRecDepth 100000 in
theorem kX5_firstBreak (l : Launch) (D : va_G) (cI cB : ClassId) (a : Nat → Nat) (b : zM2) (y1 y2 : Int) (L : List zPn) (O : List Int) (ev : Int) (hM : RM (mm_all b) L O ev) (hy1 : R32 y1) (hy2 : R32 y2) : zMet l yX5_firstBreak wsX5_firstBreak 5 116 0 0 D cI cB [.ref (a 0), .int (zI y1), .int (zI y2)] [zMod2 cI a b] (qX5_firstBreak cI a b y1 y2 L O ev) := by
  refine zMet.of (cd := cX5_firstBreak) (maxL := 4) (ret := (some .int)) (by decide) rfl (Nat.le_of_ble_eq_true rfl) ?_
  intro p e s m args below meth c A ls hS hr hlk hnm hK hA hW hl
  have hS : CallFix p m c cX5_firstBreak 4 s args wsX5_firstBreak RX5 := hS
  have hx := hS.1
  have hb := hS.2.1
  have hown := hS.2.2.2.1
  have hts := hS.2.2.2.2
  have hl : lv_has ls 4 [(0, .ref (a 0)), (1, .int (zI y1)), (2, .int (zI y2))] := hl
  have hrg := nbC_rgM hM
  refine lv_iload_n hx hb dX5_firstBreak_0 rfl (lv_at hl 1 rfl) ?_
  refine z_callS (As := [.int (zI y1)]) (rest := []) hS hK hA hW hl.1 [] [0] (kX5_isScene l D cI cB y1 (by omega)) (va_cwS 1 hts gX5_firstBreak_X5_isScene rfl rfl rfl (by decide +kernel) ⟨Nat.le_of_ble_eq_true rfl, Nat.le_of_ble_eq_true rfl⟩) dX5_firstBreak_1 rfl rfl rfl rfl rfl (Nat.le_of_ble_eq_true rfl) ⟨Nat.le_of_ble_eq_true rfl, Nat.le_of_ble_eq_true rfl⟩ (fun v9 w9 H locs hq hW => ?_)
  obtain ⟨rr_1, rfl, rfl, hh_1⟩ := hq
  have hW : zW D A s.heap [zMod2 cI a b] H locs := hW
  refine W.eq (g2 := F0 m 4 ls [.int (zI rr_1)]) rfl ?_
  refine z_if_ne (tgt := 9) hx hb dX5_firstBreak_4 (by decide) (by omega) (fun cc_4 => ?_) (fun cc_4 => ?_)
  · refine lv_iload_n hx hb dX5_firstBreak_9 rfl (lv_at hl 2 rfl) ?_
    refine z_i2l hx hb dX5_firstBreak_10 (by omega) ?_
    refine z_lconst hx hb dX5_firstBreak_11 ?_
    refine z_ldc2 (n := 2) hx hb hown (hts _ mX5_firstBreak_0) (by decide) dX5_firstBreak_12 ?_
    refine z_callS (As := [.long (zL y2), .long (zL 0), .long (zL 2)]) (rest := []) hS hK hA hW hl.1 [] [0] (kX5_in l D cI cB y2 0 2 (by omega) (by omega) (by omega)) (va_cwS 3 hts gX5_firstBreak_X5_in rfl rfl rfl (by decide +kernel) ⟨Nat.le_of_ble_eq_true rfl, Nat.le_of_ble_eq_true rfl⟩) dX5_firstBreak_15 rfl rfl rfl rfl rfl (Nat.le_of_ble_eq_true rfl) ⟨Nat.le_of_ble_eq_true rfl, Nat.le_of_ble_eq_true rfl⟩ (fun v9 w9 H locs hq hW => ?_)
    obtain ⟨rr_15, rfl, rfl, hh_15⟩ := hq
    have hW : zW D A s.heap [zMod2 cI a b] H locs := hW
    refine W.eq (g2 := F0 m 18 ls [.int (zI rr_15)]) rfl ?_
    refine z_if_ne (tgt := 24) hx hb dX5_firstBreak_18 (by decide) (by omega) (fun cc_18 => ?_) (fun cc_18 => ?_)
    · refine lv_aload_n hx hb dX5_firstBreak_24 rfl (lv_at hl 0 rfl) ?_
      refine z_callV (r := (RX5, TX5, 18)) (As := []) (rest := []) hS hK hA hW hl.1 [0] [] (kX5_goesThrough l D cI cB a b L O ev ev hM) (cwV 0 hts gX5_firstBreak_X5_goesThrough rfl rfl rfl (by decide +kernel) ⟨Nat.le_of_ble_eq_true rfl, Nat.le_of_ble_eq_true rfl⟩) (rfl : vwCl[5]? = some (RX5, TX5, 18)) (q0 := 0) rfl dX5_firstBreak_25 rfl rfl rfl rfl rfl (Nat.le_of_ble_eq_true rfl) ⟨Nat.le_of_ble_eq_true rfl, Nat.le_of_ble_eq_true rfl⟩ (fun v9 w9 H locs hq hW => ?_)
      obtain ⟨zrow_25, zbrk_25, znb_25, zhold_25, zmov_25, zbeh_25, rfl, rfl, hh_25⟩ := hq
      have hW : zW D A s.heap [zMod2 cI a (mm_beh_ (mm_mov_ (mm_hold_ (mm_nb_ (mm_brk_ (mm_row_ b (zrow_25)) (zbrk_25)) (znb_25)) (zhold_25)) (zmov_25)) (zbeh_25))] H locs := hW
      refine W.eq (g2 := F0 m 28 ls []) rfl ?_
      have hcg := hh_25.2.1
      have hnb : znb_25 = nbC (ordC L O) := hcg.2.1
      refine lv_iconst (v := zI (0)) hx hb dX5_firstBreak_28 rfl ?_
      refine lv_istore_n (lv' := [(3, .int (zI 0)), (0, .ref (a 0)), (1, .int (zI y1)), (2, .int (zI y2))]) hx hb dX5_firstBreak_29 rfl hl (by decide) rfl (fun ls hl => ?_)
      have L30 : ∀ (fu : Nat) (ki : Int), (0 ≤ ki ∧ ki ≤ nbC (ordC L O)) → (∀ k, 0 ≤ k → k < ki → scN (ordC L O) (brkAt (ordC L O) k).1 ≠ y1) → (nbC (ordC L O) - ki) < (fu : Int) → ∀ (H : Heap) (locs : List Loc), zW D A s.heap [zMod2 cI a (mm_beh_ (mm_mov_ (mm_hold_ (mm_nb_ (mm_brk_ (mm_row_ b (zrow_25)) (zbrk_25)) (znb_25)) (zhold_25)) (zmov_25)) (zbeh_25))] H locs → ∀ (ls : Array Slot), lv_has ls 4 [(0, .ref (a 0)), (1, .int (zI y1)), (2, .int (zI y2)), (3, .int (zI ki))] → W p l e { frames := 5, cells := 0, slots := 0, locals := 116 } s m args below meth c H locs 0 0 (MQ below (zQ A D (qX5_firstBreak cI a b y1 y2 L O ev)) args s 0 0 A) (F0 m 30 ls []) := by
        intro fu
        induction fu with
        | zero => intro ki hki hno hm; exact absurd hm (by omega)
        | succ fu ih30 =>
          intro ki hki hno hm H locs hW ls hl
          refine lv_iload_n hx hb dX5_firstBreak_30 rfl (lv_at hl 3 rfl) ?_
          refine lv_aload_n hx hb dX5_firstBreak_31 rfl (lv_at hl 0 rfl) ?_
          refine va_get (D := D) (ci := 5) (v := .int (zI znb_25)) (C := RX5) (T := TX5) (N := 18) hx hb hts iX5_firstBreak_X5 hown hK.1 hW.1 0 rfl rfl 10 (by decide) (hts _ mX5_firstBreak_2) (fun _ h9 => h9) rfl dX5_firstBreak_32 ?_
          refine z_icmp_ge (tgt := 80) hx hb dX5_firstBreak_35 (by decide) (by omega) (fun cc_35 => ?_) (fun cc_35 => ?_)
          · refine lv_bipush (v := zI (-5)) hx hb dX5_firstBreak_80 (by decide +kernel) ?_
            exact z_iret (v := (-5)) hx hb hr hlk hW dX5_firstBreak_82 (by
                exact ⟨(-5), zrow_25, zbrk_25, znb_25, zhold_25, zmov_25, zbeh_25, rfl, rfl, by exact Or.inr ⟨by omega, Or.inr ⟨by omega, -1, Or.inl ⟨rfl, fun k k1 k2 => hno k k1 (by omega)⟩, Or.inl ⟨rfl, rfl⟩⟩⟩⟩)
          · have hbk := brk_rgM hM (k := ki) (by omega)
            have hbg := RCg_get hcg (k := ki) (by omega)
            have hbr := bkGet_rg hbk 0
            have hsg := bk_sc hM (brkAt (ordC L O) ki).1
            refine lv_aload_n hx hb dX5_firstBreak_38 rfl (lv_at hl 0 rfl) ?_
            refine lv_aload_n hx hb dX5_firstBreak_39 rfl (lv_at hl 0 rfl) ?_
            refine va_get (D := D) (ci := 5) (v := .ref (a 8)) (C := RX5) (T := TX5) (N := 18) hx hb hts iX5_firstBreak_X5 hown hK.1 hW.1 0 rfl rfl 9 (by decide) (hts _ mX5_firstBreak_3) (fun _ h9 => h9) rfl dX5_firstBreak_40 ?_
            refine lv_iconst (v := zI (5)) hx hb dX5_firstBreak_43 rfl ?_
            refine lv_iload_n hx hb dX5_firstBreak_44 rfl (lv_at hl 3 rfl) ?_
            refine z_imul hx hb dX5_firstBreak_45 ?_
            refine z_iald (n := 850) (g := zbrk_25) hx hb hK hW 8 rfl dX5_firstBreak_46 (by omega) ?_
            refine z_callV (r := (RX5, TX5, 18)) (As := [.int (zI (zbrk_25 (5 * ki)))]) (rest := []) hS hK hA hW hl.1 [0] [] (kX5_sceneOf l D cI cB a ((mm_beh_ (mm_mov_ (mm_hold_ (mm_nb_ (mm_brk_ (mm_row_ b (zrow_25)) (zbrk_25)) (znb_25)) (zhold_25)) (zmov_25)) (zbeh_25))) (zbrk_25 (5 * ki)) L O ev ev hM (by omega) (by (rw [hbg.1]; exact brkAt_of (by omega)))) (cwV 1 hts gX5_firstBreak_X5_sceneOf rfl rfl rfl (by decide +kernel) ⟨Nat.le_of_ble_eq_true rfl, Nat.le_of_ble_eq_true rfl⟩) (rfl : vwCl[5]? = some (RX5, TX5, 18)) (q0 := 0) rfl dX5_firstBreak_47 rfl rfl rfl rfl rfl (Nat.le_of_ble_eq_true rfl) ⟨Nat.le_of_ble_eq_true rfl, Nat.le_of_ble_eq_true rfl⟩ (fun v9 w9 H locs hq hW => ?_)
            obtain ⟨rr_47, rfl, rfl, hh_47⟩ := hq
            subst rr_47
            have hW : zW D A s.heap [zMod2 cI a (mm_beh_ (mm_mov_ (mm_hold_ (mm_nb_ (mm_brk_ (mm_row_ b (zrow_25)) (zbrk_25)) (znb_25)) (zhold_25)) (zmov_25)) (zbeh_25))] H locs := hW
            refine W.eq (g2 := F0 m 50 ls [.int (zI (scN (ordC L O) (zbrk_25 (5 * ki))))]) rfl ?_
            rw [show (scN (ordC L O) (zbrk_25 (5 * ki))) = (scN (ordC L O) (brkAt (ordC L O) ki).1) by rw [hbg.1]; rfl]
            refine lv_iload_n hx hb dX5_firstBreak_50 rfl (lv_at hl 1 rfl) ?_
            refine z_icmp_ne (tgt := 74) hx hb dX5_firstBreak_51 (by decide) (by omega) (fun cc_51 => ?_) (fun cc_51 => ?_)
            · refine z_iinc (x := ki) (lv' := [(3, .int (zI (ki + 1))), (0, .ref (a 0)), (1, .int (zI y1)), (2, .int (zI y2))]) hx hb dX5_firstBreak_74 hl (k := 3) rfl (by decide) rfl (fun ls hl => ?_)
              refine lv_goto (tgt := 30) hx hb dX5_firstBreak_77 (by decide) ?_
              exact ih30 (ki + 1) (by omega) (by intro k k1 k2; rcases (show k < ki ∨ k = ki by omega) with hq | hq; exact hno k k1 hq; rw [hq]; exact cc_51) (by omega) _ _ hW ls (lv_sub hl [1, 2, 3, 0] rfl)
            · refine lv_iload_n hx hb dX5_firstBreak_54 rfl (lv_at hl 2 rfl) ?_
              refine lv_iconst (v := zI (2)) hx hb dX5_firstBreak_55 rfl ?_
              refine z_icmp_ne (tgt := 63) hx hb dX5_firstBreak_56 (by decide) (by omega) (fun cc_56 => ?_) (fun cc_56 => ?_)
              · refine lv_aload_n hx hb dX5_firstBreak_63 rfl (lv_at hl 0 rfl) ?_
                refine va_get (D := D) (ci := 5) (v := .ref (a 8)) (C := RX5) (T := TX5) (N := 18) hx hb hts iX5_firstBreak_X5 hown hK.1 hW.1 0 rfl rfl 9 (by decide) (hts _ mX5_firstBreak_3) (fun _ h9 => h9) rfl dX5_firstBreak_64 ?_
                refine lv_iconst (v := zI (5)) hx hb dX5_firstBreak_67 rfl ?_
                refine lv_iload_n hx hb dX5_firstBreak_68 rfl (lv_at hl 3 rfl) ?_
                refine z_imul hx hb dX5_firstBreak_69 ?_
                refine lv_iload_n hx hb dX5_firstBreak_70 rfl (lv_at hl 2 rfl) ?_
                refine z_iadd hx hb dX5_firstBreak_71 ?_
                refine z_iald (n := 850) (g := zbrk_25) hx hb hK hW 8 rfl dX5_firstBreak_72 (by omega) ?_
                exact z_iret (v := zbrk_25 ((5 * ki) + y2)) hx hb hr hlk hW dX5_firstBreak_73 (by
                    exact ⟨zbrk_25 ((5 * ki) + y2), zrow_25, zbrk_25, znb_25, zhold_25, zmov_25, zbeh_25, rfl, rfl, by first | exact Or.inr ⟨by omega, Or.inr ⟨by omega, ki, Or.inr ⟨by omega, by omega, hno⟩, Or.inr ⟨by omega, by unfold fstA; rw [if_pos (by omega)]⟩⟩⟩ | exact Or.inr ⟨by omega, Or.inr ⟨by omega, ki, Or.inr ⟨by omega, by omega, hno⟩, Or.inr ⟨by omega, by unfold fstA; rw [if_neg (by omega)]; exact RCg_w hcg (by omega) (by omega)⟩⟩⟩⟩)
              · refine lv_iload_n hx hb dX5_firstBreak_59 rfl (lv_at hl 3 rfl) ?_
                refine lv_goto (tgt := 73) hx hb dX5_firstBreak_60 (by decide) ?_
                exact z_iret (v := ki) hx hb hr hlk hW dX5_firstBreak_73 (by
                    exact ⟨ki, zrow_25, zbrk_25, znb_25, zhold_25, zmov_25, zbeh_25, rfl, rfl, by first | exact Or.inr ⟨by omega, Or.inr ⟨by omega, ki, Or.inr ⟨by omega, by omega, hno⟩, Or.inr ⟨by omega, by unfold fstA; rw [if_pos (by omega)]⟩⟩⟩ | exact Or.inr ⟨by omega, Or.inr ⟨by omega, ki, Or.inr ⟨by omega, by omega, hno⟩, Or.inr ⟨by omega, by unfold fstA; rw [if_neg (by omega)]; exact RCg_w hcg (by omega) (by omega)⟩⟩⟩⟩)
      exact L30 (((nbC (ordC L O) - 0) : Int).toNat + 1) 0 (by omega) (by intro k k1 k2; omega) (by omega) _ _ hW ls (lv_sub hl [1, 2, 3, 0] rfl)
    · refine lv_bipush (v := zI (-2)) hx hb dX5_firstBreak_21 (by decide +kernel) ?_
      exact z_iret (v := (-2)) hx hb hr hlk hW dX5_firstBreak_23 (by
          exact ⟨(-2), mm_row b, mm_brk b, mm_nb b, mm_hold b, mm_mov b, mm_beh b, rfl, rfl, by exact Or.inr ⟨by omega, Or.inl ⟨by omega, rfl⟩⟩⟩)
  · refine lv_iconst (v := zI (-1)) hx hb dX5_firstBreak_7 rfl ?_
    exact z_iret (v := (-1)) hx hb hr hlk hW dX5_firstBreak_8 (by
        exact ⟨(-1), mm_row b, mm_brk b, mm_nb b, mm_hold b, mm_mov b, mm_beh b, rfl, rfl, by exact Or.inl ⟨by omega, rfl⟩⟩)

abbrev qX5_ifMoved (cI : ClassId) (a : Nat → Nat) (b : zM2) (y1 y2 y3 : Int) (L : List zPn) (O : List Int) (ev : Int) : Option Value → List va_W → Prop := fun vq wq => ∃ (r : Int) (zall : Int → Int) (ztri : Int → Int) (zout : Int → Int) (zrow : Int → Int) (zbrk : Int → Int) (znb : Int) (zhold : Int → Int) (zmov : Int → Int) (zbeh : Int → Int), vq = some (.int (zI r)) ∧ wq = [zMod2 cI a (mm_beh_ (mm_mov_ (mm_hold_ (mm_nb_ (mm_brk_ (mm_row_ (mm_out_ (mm_tri_ (mm_all_ b zall) ztri) zout) zrow) zbrk) znb) zhold) zmov) zbeh)] ∧ (ifmR (ordC L O) O y1 y2 y3 r ∧ RM zall L O ev)
set_option maxHeartbeats 4000000 in
set_option maxRecDepth 100000 in
theorem kX5_ifMoved (l : Launch) (D : va_G) (cI cB : ClassId) (a : Nat → Nat) (b : zM2) (y1 y2 y3 : Int) (L : List zPn) (O : List Int) (ev : Int) (hM : RM (mm_all b) L O ev) (hy1 : R32 y1) (hy2 : R32 y2) (hy3 : R32 y3) : zMet l yX5_ifMoved wsX5_ifMoved 7 160 0 0 D cI cB [.ref (a 0), .int (zI y1), .int (zI y2), .int (zI y3)] [zMod2 cI a b] (qX5_ifMoved cI a b y1 y2 y3 L O ev) := by
  refine zMet.of (cd := cX5_ifMoved) (maxL := 5) (ret := (some .int)) (by decide) rfl (Nat.le_of_ble_eq_true rfl) ?_
  intro p e s m args below meth c A ls hS hr hlk hnm hK hA hW hl
  have hS : CallFix p m c cX5_ifMoved 5 s args wsX5_ifMoved RX5 := hS
  have hx := hS.1
  have hb := hS.2.1
  have hown := hS.2.2.2.1
  have hts := hS.2.2.2.2
  have hl : lv_has ls 5 [(0, .ref (a 0)), (1, .int (zI y1)), (2, .int (zI y2)), (3, .int (zI y3))] := hl
  have hM1 := hM.2.1
  have hM3 := hM.2.2.1
  have hln := ordC_ln hM
  have hM0 := hM.1
  have hM4 := hM.2.2.2.1
  refine lv_aload_n hx hb dX5_ifMoved_0 rfl (lv_at hl 0 rfl) ?_
  refine lv_iload_n hx hb dX5_ifMoved_1 rfl (lv_at hl 1 rfl) ?_
  refine z_callV (r := (RX5, TX5, 18)) (As := [.int (zI y1)]) (rest := []) hS hK hA hW hl.1 [0] [] (kX5_lieOf l D cI cB a b y1 L O ev ev hM (by omega)) (cwV 1 hts gX5_ifMoved_X5_lieOf rfl rfl rfl (by decide +kernel) ⟨Nat.le_of_ble_eq_true rfl, Nat.le_of_ble_eq_true rfl⟩) (rfl : vwCl[5]? = some (RX5, TX5, 18)) (q0 := 0) rfl dX5_ifMoved_2 rfl rfl rfl rfl rfl (Nat.le_of_ble_eq_true rfl) ⟨Nat.le_of_ble_eq_true rfl, Nat.le_of_ble_eq_true rfl⟩ (fun v9 w9 H locs hq hW => ?_)
  obtain ⟨rr_2, rfl, rfl, hh_2⟩ := hq
  have hW : zW D A s.heap [zMod2 cI a b] H locs := hW
  refine W.eq (g2 := F0 m 5 ls [.int (zI rr_2)]) rfl ?_
  have hlc : lieC L O (mm_all b) ev y1 rr_2 := lie_c hM hh_2
  have hlr := lieC_rg hlc hM3
  clear hh_2
  refine lv_istore (lv' := [(4, .int (zI rr_2)), (0, .ref (a 0)), (1, .int (zI y1)), (2, .int (zI y2)), (3, .int (zI y3))]) hx hb dX5_ifMoved_5 hl (by decide) rfl (fun ls hl => ?_)
  refine lv_iload hx hb dX5_ifMoved_7 (lv_at hl 0 rfl) ?_
  refine lv_bipush (v := zI (-5)) hx hb dX5_ifMoved_9 (by decide +kernel) ?_
  refine z_icmp_eq (tgt := 21) hx hb dX5_ifMoved_11 (by decide) (by omega) (fun cc_11 => ?_) (fun cc_11 => ?_)
  · have hnp := lieC_no hlc (by omega)
    refine lv_iconst (v := zI (-1)) hx hb dX5_ifMoved_21 rfl ?_
    exact z_iret (v := (-1)) hx hb hr hlk hW dX5_ifMoved_22 (by
        exact ⟨(-1), mm_all b, mm_tri b, mm_out b, mm_row b, mm_brk b, mm_nb b, mm_hold b, mm_mov b, mm_beh b, rfl, rfl, by refine ⟨Or.inl ⟨?_, rfl⟩, hM⟩; first | exact Or.inl hnp | exact Or.inr (by omega)⟩)
  · obtain ⟨kq, jq, pq, ⟨hlq, hpx⟩, ⟨hkl, hrk⟩, hjp, hpo, hrw⟩ := lieC_yes hlc (by omega)
    have hp1 := hpo.1.1
    have hp2 := hpo.1.2.1
    have hp3 := hpo.1.2.2.1
    have hp4 := hpo.1.2.2.2.1
    refine lv_iload_n hx hb dX5_ifMoved_14 rfl (lv_at hl 3 rfl) ?_
    refine z_callS (As := [.int (zI y2)]) (rest := []) hS hK hA hW hl.1 [] [0] (kX5_isScene l D cI cB y2 (by omega)) (va_cwS 1 hts gX5_ifMoved_X5_isScene rfl rfl rfl (by decide +kernel) ⟨Nat.le_of_ble_eq_true rfl, Nat.le_of_ble_eq_true rfl⟩) dX5_ifMoved_15 rfl rfl rfl rfl rfl (Nat.le_of_ble_eq_true rfl) ⟨Nat.le_of_ble_eq_true rfl, Nat.le_of_ble_eq_true rfl⟩ (fun v9 w9 H locs hq hW => ?_)
    obtain ⟨rr_15, rfl, rfl, hh_15⟩ := hq
    have hW : zW D A s.heap [zMod2 cI a b] H locs := hW
    refine W.eq (g2 := F0 m 18 ls [.int (zI rr_15)]) rfl ?_
    refine z_if_ne (tgt := 23) hx hb dX5_ifMoved_18 (by decide) (by omega) (fun cc_18 => ?_) (fun cc_18 => ?_)
    · refine lv_iload_n hx hb dX5_ifMoved_23 rfl (lv_at hl 4 rfl) ?_
      refine z_i2l hx hb dX5_ifMoved_24 (by omega) ?_
      refine z_lconst hx hb dX5_ifMoved_25 ?_
      refine lv_aload_n hx hb dX5_ifMoved_26 rfl (lv_at hl 1 rfl) ?_
      refine lv_iload hx hb dX5_ifMoved_27 (lv_at hl 0 rfl) ?_
      refine lv_iload_n hx hb dX5_ifMoved_29 rfl (lv_at hl 3 rfl) ?_
      refine z_callV (r := (RX5, TX5, 18)) (As := [.int (zI rr_2), .int (zI y2)]) (rest := [.long (zL 0), .long (zL y3)]) hS hK hA hW hl.1 [0] [] (kX5_lastPlace l D cI cB a b rr_2 y2 L O ev ev kq jq pq hM hlq hrk (by omega)) (cwV 2 hts gX5_ifMoved_X5_lastPlace rfl rfl rfl (by decide +kernel) ⟨Nat.le_of_ble_eq_true rfl, Nat.le_of_ble_eq_true rfl⟩) (rfl : vwCl[5]? = some (RX5, TX5, 18)) (q0 := 0) rfl dX5_ifMoved_30 rfl rfl rfl rfl rfl (Nat.le_of_ble_eq_true rfl) ⟨Nat.le_of_ble_eq_true rfl, Nat.le_of_ble_eq_true rfl⟩ (fun v9 w9 H locs hq hW => ?_)
      obtain ⟨rr_30, rfl, rfl, hh_30⟩ := hq
      subst rr_30
      have hW : zW D A s.heap [zMod2 cI a b] H locs := hW
      refine W.eq (g2 := F0 m 33 ls [.int (zI (inC ((ordC L O).eraseIdx jq) y2)), .long (zL 0), .long (zL y3)]) rfl ?_
      have hin := inC_tk ((ordC L O).eraseIdx jq) 0 y2
      have hej : ((ordC L O).eraseIdx jq).length ≤ (ordC L O).length := List.length_eraseIdx_le ..
      refine z_i2l hx hb dX5_ifMoved_33 (by omega) ?_
      refine z_callS (As := [.long (zL y3), .long (zL 0), .long (zL (inC ((ordC L O).eraseIdx jq) y2))]) (rest := []) hS hK hA hW hl.1 [] [0] (kX5_in l D cI cB y3 0 (inC ((ordC L O).eraseIdx jq) y2) (by omega) (by omega) (by omega)) (va_cwS 3 hts gX5_ifMoved_X5_in rfl rfl rfl (by decide +kernel) ⟨Nat.le_of_ble_eq_true rfl, Nat.le_of_ble_eq_true rfl⟩) dX5_ifMoved_34 rfl rfl rfl rfl rfl (Nat.le_of_ble_eq_true rfl) ⟨Nat.le_of_ble_eq_true rfl, Nat.le_of_ble_eq_true rfl⟩ (fun v9 w9 H locs hq hW => ?_)
      obtain ⟨rr_34, rfl, rfl, hh_34⟩ := hq
      have hW : zW D A s.heap [zMod2 cI a b] H locs := hW
      refine W.eq (g2 := F0 m 37 ls [.int (zI rr_34)]) rfl ?_
      refine z_if_eq (tgt := 50) hx hb dX5_ifMoved_37 (by decide) (by omega) (fun cc_37 => ?_) (fun cc_37 => ?_)
      · refine lv_bipush (v := zI (-2)) hx hb dX5_ifMoved_50 (by decide +kernel) ?_
        exact z_iret (v := (-2)) hx hb hr hlk hW dX5_ifMoved_52 (by
            exact ⟨(-2), mm_all b, mm_tri b, mm_out b, mm_row b, mm_brk b, mm_nb b, mm_hold b, mm_mov b, mm_beh b, rfl, rfl, by first | exact ⟨Or.inr ⟨by omega, jq, pq, hjp, Or.inr ⟨by omega, rfl⟩⟩, hh_44.2.1⟩ | exact ⟨Or.inr ⟨by omega, jq, pq, hjp, Or.inl ⟨by omega, rfl⟩⟩, hM⟩⟩)
      · refine lv_aload_n hx hb dX5_ifMoved_40 rfl (lv_at hl 1 rfl) ?_
        refine lv_iload_n hx hb dX5_ifMoved_41 rfl (lv_at hl 2 rfl) ?_
        refine lv_iload_n hx hb dX5_ifMoved_42 rfl (lv_at hl 3 rfl) ?_
        refine lv_iload_n hx hb dX5_ifMoved_43 rfl (lv_at hl 4 rfl) ?_
        refine z_callV (r := (RX5, TX5, 18)) (As := [.int (zI y1), .int (zI y2), .int (zI y3)]) (rest := []) hS hK hA hW hl.1 [0] [] (kX5_breaksIfMoved l D cI cB a b y1 y2 y3 L O ev jq pq hM hjp (by omega) (by omega) (by omega)) (cwV 3 hts gX5_ifMoved_X5_breaksIfMoved rfl rfl rfl (by decide +kernel) ⟨Nat.le_of_ble_eq_true rfl, Nat.le_of_ble_eq_true rfl⟩) (rfl : vwCl[5]? = some (RX5, TX5, 18)) (q0 := 0) rfl dX5_ifMoved_44 rfl rfl rfl rfl rfl (Nat.le_of_ble_eq_true rfl) ⟨Nat.le_of_ble_eq_true rfl, Nat.le_of_ble_eq_true rfl⟩ (fun v9 w9 H locs hq hW => ?_)
        obtain ⟨rr_44, zall_44, ztri_44, zout_44, zrow_44, zbrk_44, znb_44, zhold_44, zmov_44, zbeh_44, rfl, rfl, hh_44⟩ := hq
        have hW : zW D A s.heap [zMod2 cI a (mm_beh_ (mm_mov_ (mm_hold_ (mm_nb_ (mm_brk_ (mm_row_ (mm_out_ (mm_tri_ (mm_all_ b (zall_44)) (ztri_44)) (zout_44)) (zrow_44)) (zbrk_44)) (znb_44)) (zhold_44)) (zmov_44)) (zbeh_44))] H locs := hW
        refine W.eq (g2 := F0 m 47 ls [.int (zI rr_44)]) rfl ?_
        rw [show rr_44 = (nbM (ordC L O) O jq pq y2 y3) by exact hh_44.1]
        refine lv_goto (tgt := 52) hx hb dX5_ifMoved_47 (by decide) ?_
        exact z_iret (v := nbM (ordC L O) O jq pq y2 y3) hx hb hr hlk hW dX5_ifMoved_52 (by
            exact ⟨nbM (ordC L O) O jq pq y2 y3, zall_44, ztri_44, zout_44, zrow_44, zbrk_44, znb_44, zhold_44, zmov_44, zbeh_44, rfl, rfl, by first | exact ⟨Or.inr ⟨by omega, jq, pq, hjp, Or.inr ⟨by omega, rfl⟩⟩, hh_44.2.1⟩ | exact ⟨Or.inr ⟨by omega, jq, pq, hjp, Or.inl ⟨by omega, rfl⟩⟩, hM⟩⟩)
    · refine lv_iconst (v := zI (-1)) hx hb dX5_ifMoved_21 rfl ?_
      exact z_iret (v := (-1)) hx hb hr hlk hW dX5_ifMoved_22 (by
          exact ⟨(-1), mm_all b, mm_tri b, mm_out b, mm_row b, mm_brk b, mm_nb b, mm_hold b, mm_mov b, mm_beh b, rfl, rfl, by refine ⟨Or.inl ⟨?_, rfl⟩, hM⟩; first | exact Or.inl hnp | exact Or.inr (by omega)⟩)

abbrev qX5_bestPlace (cI : ClassId) (a : Nat → Nat) (b : zM2) (y1 y2 : Int) (L : List zPn) (O : List Int) (ev : Int) : Option Value → List va_W → Prop := fun vq wq => ∃ (r : Int) (zall : Int → Int) (ztri : Int → Int) (zout : Int → Int) (zrow : Int → Int) (zbrk : Int → Int) (znb : Int) (zhold : Int → Int) (zmov : Int → Int) (zbeh : Int → Int), vq = some (.int (zI r)) ∧ wq = [zMod2 cI a (mm_beh_ (mm_mov_ (mm_hold_ (mm_nb_ (mm_brk_ (mm_row_ (mm_out_ (mm_tri_ (mm_all_ b zall) ztri) zout) zrow) zbrk) znb) zhold) zmov) zbeh)] ∧ (bstR (ordC L O) O y1 y2 r ∧ RM zall L O ev)
set_option maxHeartbeats 4000000 in
set_option maxRecDepth 100000 in
theorem kX5_bestPlace (l : Launch) (D : va_G) (cI cB : ClassId) (a : Nat → Nat) (b : zM2) (y1 y2 : Int) (L : List zPn) (O : List Int) (ev : Int) (hM : RM (mm_all b) L O ev) (hy1 : R32 y1) (hy2 : R32 y2) : zMet l yX5_bestPlace wsX5_bestPlace 8 187 0 0 D cI cB [.ref (a 0), .int (zI y1), .int (zI y2)] [zMod2 cI a b] (qX5_bestPlace cI a b y1 y2 L O ev) := by
  refine zMet.of (cd := cX5_bestPlace) (maxL := 3) (ret := (some .int)) (by decide) rfl (Nat.le_of_ble_eq_true rfl) ?_
  intro p e s m args below meth c A ls hS hr hlk hnm hK hA hW hl
  have hS : CallFix p m c cX5_bestPlace 3 s args wsX5_bestPlace RX5 := hS
  have hx := hS.1
  have hb := hS.2.1
  have hown := hS.2.2.2.1
  have hts := hS.2.2.2.2
  have hl : lv_has ls 3 [(0, .ref (a 0)), (1, .int (zI y1)), (2, .int (zI y2))] := hl
  have hM1 := hM.2.1
  have hM3 := hM.2.2.1
  have hln := ordC_ln hM
  have hM0 := hM.1
  have hM4 := hM.2.2.2.1
  refine lv_aload_n hx hb dX5_bestPlace_0 rfl (lv_at hl 0 rfl) ?_
  refine lv_iload_n hx hb dX5_bestPlace_1 rfl (lv_at hl 1 rfl) ?_
  refine z_callV (r := (RX5, TX5, 18)) (As := [.int (zI y1)]) (rest := []) hS hK hA hW hl.1 [0] [] (kX5_lieOf l D cI cB a b y1 L O ev ev hM (by omega)) (cwV 1 hts gX5_bestPlace_X5_lieOf rfl rfl rfl (by decide +kernel) ⟨Nat.le_of_ble_eq_true rfl, Nat.le_of_ble_eq_true rfl⟩) (rfl : vwCl[5]? = some (RX5, TX5, 18)) (q0 := 0) rfl dX5_bestPlace_2 rfl rfl rfl rfl rfl (Nat.le_of_ble_eq_true rfl) ⟨Nat.le_of_ble_eq_true rfl, Nat.le_of_ble_eq_true rfl⟩ (fun v9 w9 H locs hq hW => ?_)
  obtain ⟨rr_2, rfl, rfl, hh_2⟩ := hq
  have hW : zW D A s.heap [zMod2 cI a b] H locs := hW
  refine W.eq (g2 := F0 m 5 ls [.int (zI rr_2)]) rfl ?_
  have hlc : lieC L O (mm_all b) ev y1 rr_2 := lie_c hM hh_2
  have hlr := lieC_rg hlc hM3
  clear hh_2
  refine lv_bipush (v := zI (-5)) hx hb dX5_bestPlace_5 (by decide +kernel) ?_
  refine z_icmp_eq (tgt := 17) hx hb dX5_bestPlace_7 (by decide) (by omega) (fun cc_7 => ?_) (fun cc_7 => ?_)
  · have hnp := lieC_no hlc (by omega)
    refine lv_iconst (v := zI (-1)) hx hb dX5_bestPlace_17 rfl ?_
    refine lv_goto (tgt := 27) hx hb dX5_bestPlace_18 (by decide) ?_
    exact z_iret (v := (-1)) hx hb hr hlk hW dX5_bestPlace_27 (by
        exact ⟨(-1), mm_all b, mm_tri b, mm_out b, mm_row b, mm_brk b, mm_nb b, mm_hold b, mm_mov b, mm_beh b, rfl, rfl, by first | exact ⟨Or.inr ⟨by omega, jq, pq, hjp, rfl⟩, hh_24.2⟩ | exact ⟨Or.inl ⟨Or.inl hnp, rfl⟩, hM⟩ | exact ⟨Or.inl ⟨Or.inr (by omega), rfl⟩, hM⟩⟩)
  · obtain ⟨kq, jq, pq, ⟨hlq, hpx⟩, ⟨hkl, hrk⟩, hjp, hpo, hrw⟩ := lieC_yes hlc (by omega)
    have hp1 := hpo.1.1
    have hp2 := hpo.1.2.1
    have hp3 := hpo.1.2.2.1
    have hp4 := hpo.1.2.2.2.1
    refine lv_iload_n hx hb dX5_bestPlace_10 rfl (lv_at hl 2 rfl) ?_
    refine z_callS (As := [.int (zI y2)]) (rest := []) hS hK hA hW hl.1 [] [0] (kX5_isScene l D cI cB y2 (by omega)) (va_cwS 1 hts gX5_bestPlace_X5_isScene rfl rfl rfl (by decide +kernel) ⟨Nat.le_of_ble_eq_true rfl, Nat.le_of_ble_eq_true rfl⟩) dX5_bestPlace_11 rfl rfl rfl rfl rfl (Nat.le_of_ble_eq_true rfl) ⟨Nat.le_of_ble_eq_true rfl, Nat.le_of_ble_eq_true rfl⟩ (fun v9 w9 H locs hq hW => ?_)
    obtain ⟨rr_11, rfl, rfl, hh_11⟩ := hq
    have hW : zW D A s.heap [zMod2 cI a b] H locs := hW
    refine W.eq (g2 := F0 m 14 ls [.int (zI rr_11)]) rfl ?_
    refine z_if_ne (tgt := 21) hx hb dX5_bestPlace_14 (by decide) (by omega) (fun cc_14 => ?_) (fun cc_14 => ?_)
    · refine lv_aload_n hx hb dX5_bestPlace_21 rfl (lv_at hl 0 rfl) ?_
      refine lv_iload_n hx hb dX5_bestPlace_22 rfl (lv_at hl 1 rfl) ?_
      refine lv_iload_n hx hb dX5_bestPlace_23 rfl (lv_at hl 2 rfl) ?_
      refine z_callV (r := (RX5, TX5, 18)) (As := [.int (zI y1), .int (zI y2)]) (rest := []) hS hK hA hW hl.1 [0] [] (kX5_bestPlaceOf l D cI cB a b y1 y2 L O ev jq pq hM hjp (by omega) (by omega)) (cwV 2 hts gX5_bestPlace_X5_bestPlaceOf rfl rfl rfl (by decide +kernel) ⟨Nat.le_of_ble_eq_true rfl, Nat.le_of_ble_eq_true rfl⟩) (rfl : vwCl[5]? = some (RX5, TX5, 18)) (q0 := 0) rfl dX5_bestPlace_24 rfl rfl rfl rfl rfl (Nat.le_of_ble_eq_true rfl) ⟨Nat.le_of_ble_eq_true rfl, Nat.le_of_ble_eq_true rfl⟩ (fun v9 w9 H locs hq hW => ?_)
      obtain ⟨rr_24, zall_24, ztri_24, zout_24, zrow_24, zbrk_24, znb_24, zhold_24, zmov_24, zbeh_24, rfl, rfl, hh_24⟩ := hq
      have hW : zW D A s.heap [zMod2 cI a (mm_beh_ (mm_mov_ (mm_hold_ (mm_nb_ (mm_brk_ (mm_row_ (mm_out_ (mm_tri_ (mm_all_ b (zall_24)) (ztri_24)) (zout_24)) (zrow_24)) (zbrk_24)) (znb_24)) (zhold_24)) (zmov_24)) (zbeh_24))] H locs := hW
      refine W.eq (g2 := F0 m 27 ls [.int (zI rr_24)]) rfl ?_
      rw [show rr_24 = (bestC (ordC L O) O jq pq y2) by exact hh_24.1]
      exact z_iret (v := bestC (ordC L O) O jq pq y2) hx hb hr hlk hW dX5_bestPlace_27 (by
          exact ⟨bestC (ordC L O) O jq pq y2, zall_24, ztri_24, zout_24, zrow_24, zbrk_24, znb_24, zhold_24, zmov_24, zbeh_24, rfl, rfl, by first | exact ⟨Or.inr ⟨by omega, jq, pq, hjp, rfl⟩, hh_24.2⟩ | exact ⟨Or.inl ⟨Or.inl hnp, rfl⟩, hM⟩ | exact ⟨Or.inl ⟨Or.inr (by omega), rfl⟩, hM⟩⟩)
    · refine lv_iconst (v := zI (-1)) hx hb dX5_bestPlace_17 rfl ?_
      refine lv_goto (tgt := 27) hx hb dX5_bestPlace_18 (by decide) ?_
      exact z_iret (v := (-1)) hx hb hr hlk hW dX5_bestPlace_27 (by
          exact ⟨(-1), mm_all b, mm_tri b, mm_out b, mm_row b, mm_brk b, mm_nb b, mm_hold b, mm_mov b, mm_beh b, rfl, rfl, by first | exact ⟨Or.inr ⟨by omega, jq, pq, hjp, rfl⟩, hh_24.2⟩ | exact ⟨Or.inl ⟨Or.inl hnp, rfl⟩, hM⟩ | exact ⟨Or.inl ⟨Or.inr (by omega), rfl⟩, hM⟩⟩)

abbrev qX5_count (cI : ClassId) (a : Nat → Nat) (b : zM2) (y1 : Int) (L : List zPn) (O : List Int) (ev : Int) : Option Value → List va_W → Prop := fun vq wq => ∃ (r : Int) (zrow : Int → Int) (zbrk : Int → Int) (znb : Int) (zhold : Int → Int) (zmov : Int → Int) (zbeh : Int → Int), vq = some (.int (zI r)) ∧ wq = [zMod2 cI a (mm_beh_ (mm_mov_ (mm_hold_ (mm_nb_ (mm_brk_ (mm_row_ b zrow) zbrk) znb) zhold) zmov) zbeh)] ∧ (r = cntA (ordC L O) ev (mm_hl b) (mm_tl b) y1)
set_option maxRecDepth 20000 in
theorem iX5_count_X5 : ∀ w ∈ u_ws RX5 TX5 18, w ∈ wsX5_count := by decide +kernel
set_option maxRecDepth 20000 in
theorem mX5_count_1 : (.fieldLink RX5 7 "StoryPanelsModel" "all" "[I" : Cond) ∈ wsX5_count := by decide +kernel
set_option maxRecDepth 20000 in
theorem mX5_count_2 : (.fieldLink RX5 53 "StoryPanelsModel" "historyLong" "I" : Cond) ∈ wsX5_count := by decide +kernel
set_option maxRecDepth 20000 in
theorem mX5_count_3 : (.fieldLink RX5 122 "StoryPanelsModel" "textLong" "I" : Cond) ∈ wsX5_count := by decide +kernel
set_option maxHeartbeats 4000000 in
set_option maxRecDepth 100000 in
theorem kX5_count (l : Launch) (D : va_G) (cI cB : ClassId) (a : Nat → Nat) (b : zM2) (y1 : Int) (L : List zPn) (O : List Int) (ev : Int) (hM : RM (mm_all b) L O ev) (hy1 : R32 y1) : zMet l yX5_count wsX5_count 6 139 0 0 D cI cB [.ref (a 0), .int (zI y1)] [zMod2 cI a b] (qX5_count cI a b y1 L O ev) := by
  refine zMet.of (cd := cX5_count) (maxL := 2) (ret := (some .int)) (by decide) rfl (Nat.le_of_ble_eq_true rfl) ?_
  intro p e s m args below meth c A ls hS hr hlk hnm hK hA hW hl
  have hS : CallFix p m c cX5_count 2 s args wsX5_count RX5 := hS
  have hx := hS.1
  have hb := hS.2.1
  have hown := hS.2.2.2.1
  have hts := hS.2.2.2.2
  have hl : lv_has ls 2 [(0, .ref (a 0)), (1, .int (zI y1))] := hl
  have hM1 := hM.2.1
  have hM3 := hM.2.2.1
  have hM0 := hM.1
  have hln := ordC_ln hM
  refine lv_iload_n hx hb dX5_count_0 rfl (lv_at hl 1 rfl) ?_
  rcases (show y1 = 0 ∨ y1 = 1 ∨ y1 = 2 ∨ y1 = 3 ∨ y1 = 4 ∨ y1 = 5 ∨ y1 = 6 ∨ y1 = 7 ∨ y1 = 8 ∨ y1 = 9 ∨ y1 = 10 ∨ y1 = 11 ∨ y1 = 12 ∨ (y1 < 0 ∨ 12 < y1) by omega) with ww_1 | ww_1 | ww_1 | ww_1 | ww_1 | ww_1 | ww_1 | ww_1 | ww_1 | ww_1 | ww_1 | ww_1 | ww_1 | ww_1
  · refine z_tableIn (k := 0) (off := 67) (tgt := 68) hx hb dX5_count_1 (ww_1) (by decide) (by decide) (by decide +kernel) (by decide) ?_
    refine lv_aload_n hx hb dX5_count_68 rfl (lv_at hl 0 rfl) ?_
    refine va_get (D := D) (ci := 5) (v := .ref (a 1)) (C := RX5) (T := TX5) (N := 18) hx hb hts iX5_count_X5 hown hK.1 hW.1 0 rfl rfl 0 (by decide) (hts _ mX5_count_1) (fun _ h9 => h9) rfl dX5_count_69 ?_
    refine lv_iconst (v := zI (1)) hx hb dX5_count_72 rfl ?_
    refine z_iald (n := 227) (g := mm_all b) hx hb hK hW 1 rfl dX5_count_73 (by omega) ?_
    exact z_iret (v := (mm_all b) 1) hx hb hr hlk hW dX5_count_74 (by
        exact ⟨(mm_all b) 1, mm_row b, mm_brk b, mm_nb b, mm_hold b, mm_mov b, mm_beh b, rfl, rfl, by rw [ww_1]; show _ = ((ordC L O).length : Int); omega⟩)
  · refine z_tableIn (k := 1) (off := 74) (tgt := 75) hx hb dX5_count_1 (ww_1) (by decide) (by decide) (by decide +kernel) (by decide) ?_
    refine lv_aload_n hx hb dX5_count_75 rfl (lv_at hl 0 rfl) ?_
    refine va_get (D := D) (ci := 5) (v := .ref (a 1)) (C := RX5) (T := TX5) (N := 18) hx hb hts iX5_count_X5 hown hK.1 hW.1 0 rfl rfl 0 (by decide) (hts _ mX5_count_1) (fun _ h9 => h9) rfl dX5_count_76 ?_
    refine lv_iconst (v := zI (0)) hx hb dX5_count_79 rfl ?_
    refine z_iald (n := 227) (g := mm_all b) hx hb hK hW 1 rfl dX5_count_80 (by omega) ?_
    exact z_iret (v := (mm_all b) 0) hx hb hr hlk hW dX5_count_81 (by
        exact ⟨(mm_all b) 0, mm_row b, mm_brk b, mm_nb b, mm_hold b, mm_mov b, mm_beh b, rfl, rfl, by rw [ww_1]; exact hM0⟩)
  · refine z_tableIn (k := 2) (off := 81) (tgt := 82) hx hb dX5_count_1 (ww_1) (by decide) (by decide) (by decide +kernel) (by decide) ?_
    refine lv_aload_n hx hb dX5_count_82 rfl (lv_at hl 0 rfl) ?_
    refine z_callV (r := (RX5, TX5, 18)) (As := []) (rest := []) hS hK hA hW hl.1 [0] [] (kX5_durations l D cI cB a b L O ev ev hM) (cwV 0 hts gX5_count_X5_durations rfl rfl rfl (by decide +kernel) ⟨Nat.le_of_ble_eq_true rfl, Nat.le_of_ble_eq_true rfl⟩) (rfl : vwCl[5]? = some (RX5, TX5, 18)) (q0 := 0) rfl dX5_count_83 rfl rfl rfl rfl rfl (Nat.le_of_ble_eq_true rfl) ⟨Nat.le_of_ble_eq_true rfl, Nat.le_of_ble_eq_true rfl⟩ (fun v9 w9 H locs hq hW => ?_)
    obtain ⟨rr_83, rfl, rfl, hh_83⟩ := hq
    have hW : zW D A s.heap [zMod2 cI a b] H locs := hW
    refine W.eq (g2 := F0 m 86 ls [.int (zI rr_83)]) rfl ?_
    rw [show rr_83 = (tkC (ordC L O) (ordC L O).length) by exact hh_83]
    exact z_iret (v := tkC (ordC L O) (ordC L O).length) hx hb hr hlk hW dX5_count_86 (by
        exact ⟨tkC (ordC L O) (ordC L O).length, mm_row b, mm_brk b, mm_nb b, mm_hold b, mm_mov b, mm_beh b, rfl, rfl, by rw [ww_1]; rfl⟩)
  · refine z_tableIn (k := 3) (off := 86) (tgt := 87) hx hb dX5_count_1 (ww_1) (by decide) (by decide) (by decide +kernel) (by decide) ?_
    refine lv_aload_n hx hb dX5_count_87 rfl (lv_at hl 0 rfl) ?_
    refine z_callV (r := (RX5, TX5, 18)) (As := []) (rest := []) hS hK hA hW hl.1 [0] [] (kX5_breaksNow l D cI cB a b L O ev ev hM) (cwV 0 hts gX5_count_X5_breaksNow rfl rfl rfl (by decide +kernel) ⟨Nat.le_of_ble_eq_true rfl, Nat.le_of_ble_eq_true rfl⟩) (rfl : vwCl[5]? = some (RX5, TX5, 18)) (q0 := 0) rfl dX5_count_88 rfl rfl rfl rfl rfl (Nat.le_of_ble_eq_true rfl) ⟨Nat.le_of_ble_eq_true rfl, Nat.le_of_ble_eq_true rfl⟩ (fun v9 w9 H locs hq hW => ?_)
    obtain ⟨rr_88, zrow_88, zbrk_88, znb_88, zhold_88, zmov_88, zbeh_88, rfl, rfl, hh_88⟩ := hq
    have hW : zW D A s.heap [zMod2 cI a (mm_beh_ (mm_mov_ (mm_hold_ (mm_nb_ (mm_brk_ (mm_row_ b (zrow_88)) (zbrk_88)) (znb_88)) (zhold_88)) (zmov_88)) (zbeh_88))] H locs := hW
    refine W.eq (g2 := F0 m 91 ls [.int (zI rr_88)]) rfl ?_
    rw [show rr_88 = (nbC (ordC L O)) by exact hh_88]
    exact z_iret (v := nbC (ordC L O)) hx hb hr hlk hW dX5_count_91 (by
        exact ⟨nbC (ordC L O), zrow_88, zbrk_88, znb_88, zhold_88, zmov_88, zbeh_88, rfl, rfl, by rw [ww_1]; rfl⟩)
  · refine z_tableIn (k := 4) (off := 91) (tgt := 92) hx hb dX5_count_1 (ww_1) (by decide) (by decide) (by decide +kernel) (by decide) ?_
    refine lv_aload_n hx hb dX5_count_92 rfl (lv_at hl 0 rfl) ?_
    refine z_callV (r := (RX5, TX5, 18)) (As := []) (rest := []) hS hK hA hW hl.1 [0] [] (kX5_events l D cI cB a b L O ev ev hM) (cwV 0 hts gX5_count_X5_events rfl rfl rfl (by decide +kernel) ⟨Nat.le_of_ble_eq_true rfl, Nat.le_of_ble_eq_true rfl⟩) (rfl : vwCl[5]? = some (RX5, TX5, 18)) (q0 := 0) rfl dX5_count_93 rfl rfl rfl rfl rfl (Nat.le_of_ble_eq_true rfl) ⟨Nat.le_of_ble_eq_true rfl, Nat.le_of_ble_eq_true rfl⟩ (fun v9 w9 H locs hq hW => ?_)
    obtain ⟨rr_93, rfl, rfl, hh_93⟩ := hq
    have hW : zW D A s.heap [zMod2 cI a b] H locs := hW
    refine W.eq (g2 := F0 m 96 ls [.int (zI rr_93)]) rfl ?_
    rw [show rr_93 = (evsC (ordC L O)) by exact hh_93]
    exact z_iret (v := evsC (ordC L O)) hx hb hr hlk hW dX5_count_96 (by
        exact ⟨evsC (ordC L O), mm_row b, mm_brk b, mm_nb b, mm_hold b, mm_mov b, mm_beh b, rfl, rfl, by rw [ww_1]; rfl⟩)
  · refine z_tableIn (k := 5) (off := 96) (tgt := 97) hx hb dX5_count_1 (ww_1) (by decide) (by decide) (by decide +kernel) (by decide) ?_
    refine lv_aload_n hx hb dX5_count_97 rfl (lv_at hl 0 rfl) ?_
    refine z_callV (r := (RX5, TX5, 18)) (As := []) (rest := []) hS hK hA hW hl.1 [0] [] (kX5_held l D cI cB a b L O ev ev hM) (cwV 0 hts gX5_count_X5_held rfl rfl rfl (by decide +kernel) ⟨Nat.le_of_ble_eq_true rfl, Nat.le_of_ble_eq_true rfl⟩) (rfl : vwCl[5]? = some (RX5, TX5, 18)) (q0 := 0) rfl dX5_count_98 rfl rfl rfl rfl rfl (Nat.le_of_ble_eq_true rfl) ⟨Nat.le_of_ble_eq_true rfl, Nat.le_of_ble_eq_true rfl⟩ (fun v9 w9 H locs hq hW => ?_)
    obtain ⟨rr_98, zrow_98, zbrk_98, znb_98, zhold_98, zmov_98, zbeh_98, rfl, rfl, hh_98⟩ := hq
    have hW : zW D A s.heap [zMod2 cI a (mm_beh_ (mm_mov_ (mm_hold_ (mm_nb_ (mm_brk_ (mm_row_ b (zrow_98)) (zbrk_98)) (znb_98)) (zhold_98)) (zmov_98)) (zbeh_98))] H locs := hW
    refine W.eq (g2 := F0 m 101 ls [.int (zI rr_98)]) rfl ?_
    rw [show rr_98 = (heldC (ordC L O)) by exact hh_98]
    exact z_iret (v := heldC (ordC L O)) hx hb hr hlk hW dX5_count_101 (by
        exact ⟨heldC (ordC L O), zrow_98, zbrk_98, znb_98, zhold_98, zmov_98, zbeh_98, rfl, rfl, by rw [ww_1]; rfl⟩)
  · refine z_tableIn (k := 6) (off := 101) (tgt := 102) hx hb dX5_count_1 (ww_1) (by decide) (by decide) (by decide +kernel) (by decide) ?_
    refine lv_aload_n hx hb dX5_count_102 rfl (lv_at hl 0 rfl) ?_
    refine lv_iload_n hx hb dX5_count_103 rfl (lv_at hl 1 rfl) ?_
    refine lv_iconst (v := zI (5)) hx hb dX5_count_104 rfl ?_
    refine z_isub hx hb dX5_count_105 ?_
    refine z_callV (r := (RX5, TX5, 18)) (As := [.int (zI (y1 - 5))]) (rest := []) hS hK hA hW hl.1 [0] [] (kX5_breaksOfKind l D cI cB a b (y1 - 5) L O ev ev hM (by omega)) (cwV 1 hts gX5_count_X5_breaksOfKind rfl rfl rfl (by decide +kernel) ⟨Nat.le_of_ble_eq_true rfl, Nat.le_of_ble_eq_true rfl⟩) (rfl : vwCl[5]? = some (RX5, TX5, 18)) (q0 := 0) rfl dX5_count_106 rfl rfl rfl rfl rfl (Nat.le_of_ble_eq_true rfl) ⟨Nat.le_of_ble_eq_true rfl, Nat.le_of_ble_eq_true rfl⟩ (fun v9 w9 H locs hq hW => ?_)
    obtain ⟨rr_106, zrow_106, zbrk_106, znb_106, zhold_106, zmov_106, zbeh_106, rfl, rfl, hh_106⟩ := hq
    have hW : zW D A s.heap [zMod2 cI a (mm_beh_ (mm_mov_ (mm_hold_ (mm_nb_ (mm_brk_ (mm_row_ b (zrow_106)) (zbrk_106)) (znb_106)) (zhold_106)) (zmov_106)) (zbeh_106))] H locs := hW
    refine W.eq (g2 := F0 m 109 ls [.int (zI rr_106)]) rfl ?_
    rw [show rr_106 = (haveB (ordC L O) 1 (y1 - 5)) by exact hh_106]
    exact z_iret (v := haveB (ordC L O) 1 (y1 - 5)) hx hb hr hlk hW dX5_count_109 (by
        exact ⟨haveB (ordC L O) 1 (y1 - 5), zrow_106, zbrk_106, znb_106, zhold_106, zmov_106, zbeh_106, rfl, rfl, by rw [ww_1]; rfl⟩)
  · refine z_tableIn (k := 7) (off := 101) (tgt := 102) hx hb dX5_count_1 (ww_1) (by decide) (by decide) (by decide +kernel) (by decide) ?_
    refine lv_aload_n hx hb dX5_count_102 rfl (lv_at hl 0 rfl) ?_
    refine lv_iload_n hx hb dX5_count_103 rfl (lv_at hl 1 rfl) ?_
    refine lv_iconst (v := zI (5)) hx hb dX5_count_104 rfl ?_
    refine z_isub hx hb dX5_count_105 ?_
    refine z_callV (r := (RX5, TX5, 18)) (As := [.int (zI (y1 - 5))]) (rest := []) hS hK hA hW hl.1 [0] [] (kX5_breaksOfKind l D cI cB a b (y1 - 5) L O ev ev hM (by omega)) (cwV 1 hts gX5_count_X5_breaksOfKind rfl rfl rfl (by decide +kernel) ⟨Nat.le_of_ble_eq_true rfl, Nat.le_of_ble_eq_true rfl⟩) (rfl : vwCl[5]? = some (RX5, TX5, 18)) (q0 := 0) rfl dX5_count_106 rfl rfl rfl rfl rfl (Nat.le_of_ble_eq_true rfl) ⟨Nat.le_of_ble_eq_true rfl, Nat.le_of_ble_eq_true rfl⟩ (fun v9 w9 H locs hq hW => ?_)
    obtain ⟨rr_106, zrow_106, zbrk_106, znb_106, zhold_106, zmov_106, zbeh_106, rfl, rfl, hh_106⟩ := hq
    have hW : zW D A s.heap [zMod2 cI a (mm_beh_ (mm_mov_ (mm_hold_ (mm_nb_ (mm_brk_ (mm_row_ b (zrow_106)) (zbrk_106)) (znb_106)) (zhold_106)) (zmov_106)) (zbeh_106))] H locs := hW
    refine W.eq (g2 := F0 m 109 ls [.int (zI rr_106)]) rfl ?_
    rw [show rr_106 = (haveB (ordC L O) 1 (y1 - 5)) by exact hh_106]
    exact z_iret (v := haveB (ordC L O) 1 (y1 - 5)) hx hb hr hlk hW dX5_count_109 (by
        exact ⟨haveB (ordC L O) 1 (y1 - 5), zrow_106, zbrk_106, znb_106, zhold_106, zmov_106, zbeh_106, rfl, rfl, by rw [ww_1]; rfl⟩)
  · refine z_tableIn (k := 8) (off := 101) (tgt := 102) hx hb dX5_count_1 (ww_1) (by decide) (by decide) (by decide +kernel) (by decide) ?_
    refine lv_aload_n hx hb dX5_count_102 rfl (lv_at hl 0 rfl) ?_
    refine lv_iload_n hx hb dX5_count_103 rfl (lv_at hl 1 rfl) ?_
    refine lv_iconst (v := zI (5)) hx hb dX5_count_104 rfl ?_
    refine z_isub hx hb dX5_count_105 ?_
    refine z_callV (r := (RX5, TX5, 18)) (As := [.int (zI (y1 - 5))]) (rest := []) hS hK hA hW hl.1 [0] [] (kX5_breaksOfKind l D cI cB a b (y1 - 5) L O ev ev hM (by omega)) (cwV 1 hts gX5_count_X5_breaksOfKind rfl rfl rfl (by decide +kernel) ⟨Nat.le_of_ble_eq_true rfl, Nat.le_of_ble_eq_true rfl⟩) (rfl : vwCl[5]? = some (RX5, TX5, 18)) (q0 := 0) rfl dX5_count_106 rfl rfl rfl rfl rfl (Nat.le_of_ble_eq_true rfl) ⟨Nat.le_of_ble_eq_true rfl, Nat.le_of_ble_eq_true rfl⟩ (fun v9 w9 H locs hq hW => ?_)
    obtain ⟨rr_106, zrow_106, zbrk_106, znb_106, zhold_106, zmov_106, zbeh_106, rfl, rfl, hh_106⟩ := hq
    have hW : zW D A s.heap [zMod2 cI a (mm_beh_ (mm_mov_ (mm_hold_ (mm_nb_ (mm_brk_ (mm_row_ b (zrow_106)) (zbrk_106)) (znb_106)) (zhold_106)) (zmov_106)) (zbeh_106))] H locs := hW
    refine W.eq (g2 := F0 m 109 ls [.int (zI rr_106)]) rfl ?_
    rw [show rr_106 = (haveB (ordC L O) 1 (y1 - 5)) by exact hh_106]
    exact z_iret (v := haveB (ordC L O) 1 (y1 - 5)) hx hb hr hlk hW dX5_count_109 (by
        exact ⟨haveB (ordC L O) 1 (y1 - 5), zrow_106, zbrk_106, znb_106, zhold_106, zmov_106, zbeh_106, rfl, rfl, by rw [ww_1]; rfl⟩)
  · refine z_tableIn (k := 9) (off := 101) (tgt := 102) hx hb dX5_count_1 (ww_1) (by decide) (by decide) (by decide +kernel) (by decide) ?_
    refine lv_aload_n hx hb dX5_count_102 rfl (lv_at hl 0 rfl) ?_
    refine lv_iload_n hx hb dX5_count_103 rfl (lv_at hl 1 rfl) ?_
    refine lv_iconst (v := zI (5)) hx hb dX5_count_104 rfl ?_
    refine z_isub hx hb dX5_count_105 ?_
    refine z_callV (r := (RX5, TX5, 18)) (As := [.int (zI (y1 - 5))]) (rest := []) hS hK hA hW hl.1 [0] [] (kX5_breaksOfKind l D cI cB a b (y1 - 5) L O ev ev hM (by omega)) (cwV 1 hts gX5_count_X5_breaksOfKind rfl rfl rfl (by decide +kernel) ⟨Nat.le_of_ble_eq_true rfl, Nat.le_of_ble_eq_true rfl⟩) (rfl : vwCl[5]? = some (RX5, TX5, 18)) (q0 := 0) rfl dX5_count_106 rfl rfl rfl rfl rfl (Nat.le_of_ble_eq_true rfl) ⟨Nat.le_of_ble_eq_true rfl, Nat.le_of_ble_eq_true rfl⟩ (fun v9 w9 H locs hq hW => ?_)
    obtain ⟨rr_106, zrow_106, zbrk_106, znb_106, zhold_106, zmov_106, zbeh_106, rfl, rfl, hh_106⟩ := hq
    have hW : zW D A s.heap [zMod2 cI a (mm_beh_ (mm_mov_ (mm_hold_ (mm_nb_ (mm_brk_ (mm_row_ b (zrow_106)) (zbrk_106)) (znb_106)) (zhold_106)) (zmov_106)) (zbeh_106))] H locs := hW
    refine W.eq (g2 := F0 m 109 ls [.int (zI rr_106)]) rfl ?_
    rw [show rr_106 = (haveB (ordC L O) 1 (y1 - 5)) by exact hh_106]
    exact z_iret (v := haveB (ordC L O) 1 (y1 - 5)) hx hb hr hlk hW dX5_count_109 (by
        exact ⟨haveB (ordC L O) 1 (y1 - 5), zrow_106, zbrk_106, znb_106, zhold_106, zmov_106, zbeh_106, rfl, rfl, by rw [ww_1]; rfl⟩)
  · refine z_tableIn (k := 10) (off := 101) (tgt := 102) hx hb dX5_count_1 (ww_1) (by decide) (by decide) (by decide +kernel) (by decide) ?_
    refine lv_aload_n hx hb dX5_count_102 rfl (lv_at hl 0 rfl) ?_
    refine lv_iload_n hx hb dX5_count_103 rfl (lv_at hl 1 rfl) ?_
    refine lv_iconst (v := zI (5)) hx hb dX5_count_104 rfl ?_
    refine z_isub hx hb dX5_count_105 ?_
    refine z_callV (r := (RX5, TX5, 18)) (As := [.int (zI (y1 - 5))]) (rest := []) hS hK hA hW hl.1 [0] [] (kX5_breaksOfKind l D cI cB a b (y1 - 5) L O ev ev hM (by omega)) (cwV 1 hts gX5_count_X5_breaksOfKind rfl rfl rfl (by decide +kernel) ⟨Nat.le_of_ble_eq_true rfl, Nat.le_of_ble_eq_true rfl⟩) (rfl : vwCl[5]? = some (RX5, TX5, 18)) (q0 := 0) rfl dX5_count_106 rfl rfl rfl rfl rfl (Nat.le_of_ble_eq_true rfl) ⟨Nat.le_of_ble_eq_true rfl, Nat.le_of_ble_eq_true rfl⟩ (fun v9 w9 H locs hq hW => ?_)
    obtain ⟨rr_106, zrow_106, zbrk_106, znb_106, zhold_106, zmov_106, zbeh_106, rfl, rfl, hh_106⟩ := hq
    have hW : zW D A s.heap [zMod2 cI a (mm_beh_ (mm_mov_ (mm_hold_ (mm_nb_ (mm_brk_ (mm_row_ b (zrow_106)) (zbrk_106)) (znb_106)) (zhold_106)) (zmov_106)) (zbeh_106))] H locs := hW
    refine W.eq (g2 := F0 m 109 ls [.int (zI rr_106)]) rfl ?_
    rw [show rr_106 = (haveB (ordC L O) 1 (y1 - 5)) by exact hh_106]
    exact z_iret (v := haveB (ordC L O) 1 (y1 - 5)) hx hb hr hlk hW dX5_count_109 (by
        exact ⟨haveB (ordC L O) 1 (y1 - 5), zrow_106, zbrk_106, znb_106, zhold_106, zmov_106, zbeh_106, rfl, rfl, by rw [ww_1]; rfl⟩)
  · refine z_tableIn (k := 11) (off := 109) (tgt := 110) hx hb dX5_count_1 (ww_1) (by decide) (by decide) (by decide +kernel) (by decide) ?_
    refine lv_aload_n hx hb dX5_count_110 rfl (lv_at hl 0 rfl) ?_
    refine va_get (D := D) (ci := 5) (v := .int (zI (mm_hl b))) (C := RX5) (T := TX5) (N := 18) hx hb hts iX5_count_X5 hown hK.1 hW.1 0 rfl rfl 4 (by decide) (hts _ mX5_count_2) (fun _ h9 => h9) rfl dX5_count_111 ?_
    exact z_iret (v := mm_hl b) hx hb hr hlk hW dX5_count_114 (by
        exact ⟨mm_hl b, mm_row b, mm_brk b, mm_nb b, mm_hold b, mm_mov b, mm_beh b, rfl, rfl, by rw [ww_1]; rfl⟩)
  · refine z_tableIn (k := 12) (off := 114) (tgt := 115) hx hb dX5_count_1 (ww_1) (by decide) (by decide) (by decide +kernel) (by decide) ?_
    refine lv_aload_n hx hb dX5_count_115 rfl (lv_at hl 0 rfl) ?_
    refine va_get (D := D) (ci := 5) (v := .int (zI (mm_tl b))) (C := RX5) (T := TX5) (N := 18) hx hb hts iX5_count_X5 hown hK.1 hW.1 0 rfl rfl 15 (by decide) (hts _ mX5_count_3) (fun _ h9 => h9) rfl dX5_count_116 ?_
    exact z_iret (v := mm_tl b) hx hb hr hlk hW dX5_count_119 (by
        exact ⟨mm_tl b, mm_row b, mm_brk b, mm_nb b, mm_hold b, mm_mov b, mm_beh b, rfl, rfl, by rw [ww_1]; rfl⟩)
  · refine z_tableOut (tgt := 120) hx hb dX5_count_1 (by omega) ww_1 (by decide) ?_
    refine lv_bipush (v := zI (-2)) hx hb dX5_count_120 (by decide +kernel) ?_
    exact z_iret (v := (-2)) hx hb hr hlk hW dX5_count_122 (by
        exact ⟨(-2), mm_row b, mm_brk b, mm_nb b, mm_hold b, mm_mov b, mm_beh b, rfl, rfl, by unfold cntA; rw [if_neg (by omega), if_neg (by omega), if_neg (by omega), if_neg (by omega), if_neg (by omega), if_neg (by omega), if_neg (by omega), if_neg (by omega), if_neg (by omega)]⟩)
