abbrev qX5_move (cI : ClassId) (a : Nat → Nat) (b : zM2) (y1 y2 y3 : Int) (L : List zPn) (O : List Int) (ev : Int) (hs : List zSt) : Option Value → List va_W → Prop := fun vq wq => ∃ (r : Int) (zall : Int → Int) (zkept : Int → Int) (zhis : Int → Int) (zhl : Int) (zout : Int → Int) (zrow : Int → Int) (zbrk : Int → Int) (znb : Int) (zhold : Int → Int) (zmov : Int → Int) (zbeh : Int → Int), vq = some (.int (zI r)) ∧ wq = [zMod2 cI a (mm_beh_ (mm_mov_ (mm_hold_ (mm_nb_ (mm_brk_ (mm_row_ (mm_out_ (mm_hl_ (mm_his_ (mm_kept_ (mm_all_ b zall) zkept) zhis) zhl) zout) zrow) zbrk) znb) zhold) zmov) zbeh)] ∧ (∃ (S2 : zSt) (hs2 : List zSt), movR (ordC L O) O ev hs y1 y2 y3 r S2 hs2 ∧ MR zall S2 ∧ MH zhl zhis hs2)
set_option maxHeartbeats 4000000 in
set_option maxRecDepth 100000 in
theorem kX5_move (l : Launch) (D : va_G) (cI cB : ClassId) (a : Nat → Nat) (b : zM2) (y1 y2 y3 : Int) (L : List zPn) (O : List Int) (ev : Int) (hs : List zSt) (hM : RM (mm_all b) L O ev) (hH : MH (mm_hl b) (mm_his b) hs) (hy1 : R32 y1) (hy2 : R32 y2) (hy3 : R32 y3) : zMet l yX5_move wsX5_move 6 136 0 0 D cI cB [.ref (a 0), .int (zI y1), .int (zI y2), .int (zI y3)] [zMod2 cI a b] (qX5_move cI a b y1 y2 y3 L O ev hs) := by
  refine zMet.of (cd := cX5_move) (maxL := 5) (ret := (some .int)) (by decide) rfl (Nat.le_of_ble_eq_true rfl) ?_
  intro p e s m args below meth c A ls hS hr hlk hnm hK hA hW hl
  have hS : CallFix p m c cX5_move 5 s args wsX5_move RX5 := hS
  have hx := hS.1
  have hb := hS.2.1
  have hown := hS.2.2.2.1
  have hts := hS.2.2.2.2
  have hl : lv_has ls 5 [(0, .ref (a 0)), (1, .int (zI y1)), (2, .int (zI y2)), (3, .int (zI y3))] := hl
  have hM1 := hM.2.1
  have hM3 := hM.2.2.1
  have hln := ordC_ln hM
  have hM0 := hM.1
  have hM4 := hM.2.2.2.1
  refine lv_aload_n hx hb dX5_move_0 rfl (lv_at hl 0 rfl) ?_
  refine lv_iload_n hx hb dX5_move_1 rfl (lv_at hl 1 rfl) ?_
  refine z_callV (r := (RX5, TX5, 18)) (As := [.int (zI y1)]) (rest := []) hS hK hA hW hl.1 [0] [] (kX5_lieOf l D cI cB a b y1 L O ev ev hM (by omega)) (cwV 1 hts gX5_move_X5_lieOf rfl rfl rfl (by decide +kernel) ⟨Nat.le_of_ble_eq_true rfl, Nat.le_of_ble_eq_true rfl⟩) (rfl : vwCl[5]? = some (RX5, TX5, 18)) (q0 := 0) rfl dX5_move_2 rfl rfl rfl rfl rfl (Nat.le_of_ble_eq_true rfl) ⟨Nat.le_of_ble_eq_true rfl, Nat.le_of_ble_eq_true rfl⟩ (fun v9 w9 H locs hq hW => ?_)
  obtain ⟨rr_2, rfl, rfl, hh_2⟩ := hq
  have hW : zW D A s.heap [zMod2 cI a b] H locs := hW
  refine W.eq (g2 := F0 m 5 ls [.int (zI rr_2)]) rfl ?_
  have hlc : lieC L O (mm_all b) ev y1 rr_2 := lie_c hM hh_2
  have hlr := lieC_rg hlc hM3
  clear hh_2
  refine lv_istore (lv' := [(4, .int (zI rr_2)), (0, .ref (a 0)), (1, .int (zI y1)), (2, .int (zI y2)), (3, .int (zI y3))]) hx hb dX5_move_5 hl (by decide) rfl (fun ls hl => ?_)
  refine lv_iload hx hb dX5_move_7 (lv_at hl 0 rfl) ?_
  refine lv_bipush (v := zI (-5)) hx hb dX5_move_9 (by decide +kernel) ?_
  refine z_icmp_eq (tgt := 21) hx hb dX5_move_11 (by decide) (by omega) (fun cc_11 => ?_) (fun cc_11 => ?_)
  · have hnp := lieC_no hlc (by omega)
    refine lv_iconst (v := zI (-1)) hx hb dX5_move_21 rfl ?_
    exact z_iret (v := (-1)) hx hb hr hlk hW dX5_move_22 (by
        exact ⟨(-1), mm_all b, mm_kept b, mm_his b, mm_hl b, mm_out b, mm_row b, mm_brk b, mm_nb b, mm_hold b, mm_mov b, mm_beh b, rfl, rfl, by refine ⟨_, _, Or.inl ⟨?_, rfl, rfl, rfl⟩, RM_MR hM, hH⟩; first | exact Or.inl hnp | exact Or.inr (by omega)⟩)
  · obtain ⟨kq, jq, pq, ⟨hlq, hpx⟩, ⟨hkl, hrk⟩, hjp, hpo, hrw⟩ := lieC_yes hlc (by omega)
    have hp1 := hpo.1.1
    have hp2 := hpo.1.2.1
    have hp3 := hpo.1.2.2.1
    have hp4 := hpo.1.2.2.2.1
    refine lv_iload_n hx hb dX5_move_14 rfl (lv_at hl 3 rfl) ?_
    refine z_callS (As := [.int (zI y2)]) (rest := []) hS hK hA hW hl.1 [] [0] (kX5_isScene l D cI cB y2 (by omega)) (va_cwS 1 hts gX5_move_X5_isScene rfl rfl rfl (by decide +kernel) ⟨Nat.le_of_ble_eq_true rfl, Nat.le_of_ble_eq_true rfl⟩) dX5_move_15 rfl rfl rfl rfl rfl (Nat.le_of_ble_eq_true rfl) ⟨Nat.le_of_ble_eq_true rfl, Nat.le_of_ble_eq_true rfl⟩ (fun v9 w9 H locs hq hW => ?_)
    obtain ⟨rr_15, rfl, rfl, hh_15⟩ := hq
    have hW : zW D A s.heap [zMod2 cI a b] H locs := hW
    refine W.eq (g2 := F0 m 18 ls [.int (zI rr_15)]) rfl ?_
    refine z_if_ne (tgt := 23) hx hb dX5_move_18 (by decide) (by omega) (fun cc_18 => ?_) (fun cc_18 => ?_)
    · refine lv_iload_n hx hb dX5_move_23 rfl (lv_at hl 4 rfl) ?_
      refine z_i2l hx hb dX5_move_24 (by omega) ?_
      refine z_lconst hx hb dX5_move_25 ?_
      refine lv_aload_n hx hb dX5_move_26 rfl (lv_at hl 1 rfl) ?_
      refine lv_iload hx hb dX5_move_27 (lv_at hl 0 rfl) ?_
      refine lv_iload_n hx hb dX5_move_29 rfl (lv_at hl 3 rfl) ?_
      refine z_callV (r := (RX5, TX5, 18)) (As := [.int (zI rr_2), .int (zI y2)]) (rest := [.long (zL 0), .long (zL y3)]) hS hK hA hW hl.1 [0] [] (kX5_lastPlace l D cI cB a b rr_2 y2 L O ev ev kq jq pq hM hlq hrk (by omega)) (cwV 2 hts gX5_move_X5_lastPlace rfl rfl rfl (by decide +kernel) ⟨Nat.le_of_ble_eq_true rfl, Nat.le_of_ble_eq_true rfl⟩) (rfl : vwCl[5]? = some (RX5, TX5, 18)) (q0 := 0) rfl dX5_move_30 rfl rfl rfl rfl rfl (Nat.le_of_ble_eq_true rfl) ⟨Nat.le_of_ble_eq_true rfl, Nat.le_of_ble_eq_true rfl⟩ (fun v9 w9 H locs hq hW => ?_)
      obtain ⟨rr_30, rfl, rfl, hh_30⟩ := hq
      subst rr_30
      have hW : zW D A s.heap [zMod2 cI a b] H locs := hW
      refine W.eq (g2 := F0 m 33 ls [.int (zI (inC ((ordC L O).eraseIdx jq) y2)), .long (zL 0), .long (zL y3)]) rfl ?_
      have hin := inC_tk ((ordC L O).eraseIdx jq) 0 y2
      have hej : ((ordC L O).eraseIdx jq).length ≤ (ordC L O).length := List.length_eraseIdx_le ..
      refine z_i2l hx hb dX5_move_33 (by omega) ?_
      refine z_callS (As := [.long (zL y3), .long (zL 0), .long (zL (inC ((ordC L O).eraseIdx jq) y2))]) (rest := []) hS hK hA hW hl.1 [] [0] (kX5_in l D cI cB y3 0 (inC ((ordC L O).eraseIdx jq) y2) (by omega) (by omega) (by omega)) (va_cwS 3 hts gX5_move_X5_in rfl rfl rfl (by decide +kernel) ⟨Nat.le_of_ble_eq_true rfl, Nat.le_of_ble_eq_true rfl⟩) dX5_move_34 rfl rfl rfl rfl rfl (Nat.le_of_ble_eq_true rfl) ⟨Nat.le_of_ble_eq_true rfl, Nat.le_of_ble_eq_true rfl⟩ (fun v9 w9 H locs hq hW => ?_)
      obtain ⟨rr_34, rfl, rfl, hh_34⟩ := hq
      have hW : zW D A s.heap [zMod2 cI a b] H locs := hW
      refine W.eq (g2 := F0 m 37 ls [.int (zI rr_34)]) rfl ?_
      refine z_if_ne (tgt := 43) hx hb dX5_move_37 (by decide) (by omega) (fun cc_37 => ?_) (fun cc_37 => ?_)
      · refine lv_aload_n hx hb dX5_move_43 rfl (lv_at hl 1 rfl) ?_
        refine lv_iload hx hb dX5_move_44 (lv_at hl 0 rfl) ?_
        refine lv_iconst (v := zI (1)) hx hb dX5_move_46 rfl ?_
        refine z_callV (r := (RX5, TX5, 18)) (As := [.int (zI rr_2), .int (zI 1)]) (rest := []) hS hK hA hW hl.1 [0] [] (kX5_of l D cI cB a b rr_2 1 (by omega) (by omega)) (cwV 2 hts gX5_move_X5_of rfl rfl rfl (by decide +kernel) ⟨Nat.le_of_ble_eq_true rfl, Nat.le_of_ble_eq_true rfl⟩) (rfl : vwCl[5]? = some (RX5, TX5, 18)) (q0 := 0) rfl dX5_move_47 rfl rfl rfl rfl rfl (Nat.le_of_ble_eq_true rfl) ⟨Nat.le_of_ble_eq_true rfl, Nat.le_of_ble_eq_true rfl⟩ (fun v9 w9 H locs hq hW => ?_)
        obtain ⟨rr_47, rfl, rfl, hh_47⟩ := hq
        subst rr_47
        have hW : zW D A s.heap [zMod2 cI a b] H locs := hW
        refine W.eq (g2 := F0 m 50 ls [.int (zI (fL (mm_all b) rr_2 1))]) rfl ?_
        rw [show (fL (mm_all b) rr_2 1) = pq.2.1 by exact (by rw [hrk]; exact hrw.2.1)]
        refine lv_iload_n hx hb dX5_move_50 rfl (lv_at hl 3 rfl) ?_
        refine z_icmp_ne (tgt := 67) hx hb dX5_move_51 (by decide) (by omega) (fun cc_51 => ?_) (fun cc_51 => ?_)
        · refine lv_aload_n hx hb dX5_move_67 rfl (lv_at hl 1 rfl) ?_
          refine z_callV (r := (RX5, TX5, 18)) (As := []) (rest := []) hS hK hA hW hl.1 [0] [] (kX5_remember l D cI cB a b L O ev hM) (cwV 0 hts gX5_move_X5_remember rfl rfl rfl (by decide +kernel) ⟨Nat.le_of_ble_eq_true rfl, Nat.le_of_ble_eq_true rfl⟩) (rfl : vwCl[5]? = some (RX5, TX5, 18)) (q0 := 0) rfl dX5_move_68 rfl rfl rfl rfl rfl (Nat.le_of_ble_eq_true rfl) ⟨Nat.le_of_ble_eq_true rfl, Nat.le_of_ble_eq_true rfl⟩ (fun v9 w9 H locs hq hW => ?_)
          obtain ⟨zkept_68, rfl, rfl, hh_68⟩ := hq
          have hW : zW D A s.heap [zMod2 cI a (mm_kept_ b (zkept_68))] H locs := hW
          refine W.eq (g2 := F0 m 71 ls []) rfl ?_
          refine lv_aload_n hx hb dX5_move_71 rfl (lv_at hl 1 rfl) ?_
          refine lv_iload_n hx hb dX5_move_72 rfl (lv_at hl 2 rfl) ?_
          refine lv_iload_n hx hb dX5_move_73 rfl (lv_at hl 3 rfl) ?_
          refine lv_iload_n hx hb dX5_move_74 rfl (lv_at hl 4 rfl) ?_
          refine z_callV (r := (RX5, TX5, 18)) (As := [.int (zI y1), .int (zI y2), .int (zI y3)]) (rest := []) hS hK hA hW hl.1 [0] [] (kX5_moves l D cI cB a ((mm_kept_ b (zkept_68))) y1 y2 y3 L O ev jq pq hM hjp (by omega) (by omega) (by omega)) (cwV 3 hts gX5_move_X5_moves rfl rfl rfl (by decide +kernel) ⟨Nat.le_of_ble_eq_true rfl, Nat.le_of_ble_eq_true rfl⟩) (rfl : vwCl[5]? = some (RX5, TX5, 18)) (q0 := 0) rfl dX5_move_75 rfl rfl rfl rfl rfl (Nat.le_of_ble_eq_true rfl) ⟨Nat.le_of_ble_eq_true rfl, Nat.le_of_ble_eq_true rfl⟩ (fun v9 w9 H locs hq hW => ?_)
          obtain ⟨zall_75, zout_75, rfl, rfl, hh_75⟩ := hq
          have hW : zW D A s.heap [zMod2 cI a (mm_out_ (mm_kept_ (mm_all_ b (zall_75)) (zkept_68)) (zout_75))] H locs := hW
          refine W.eq (g2 := F0 m 78 ls []) rfl ?_
          obtain ⟨L2, hM2, he2⟩ := hh_75
          have hrg := nbM_rgM hM2 he2
          refine lv_aload_n hx hb dX5_move_78 rfl (lv_at hl 1 rfl) ?_
          refine lv_aload_n hx hb dX5_move_79 rfl (lv_at hl 1 rfl) ?_
          refine z_callV (r := (RX5, TX5, 18)) (As := []) (rest := [.ref (a 0)]) hS hK hA hW hl.1 [0] [] (kX5_breaksNow l D cI cB a ((mm_out_ (mm_kept_ (mm_all_ b (zall_75)) (zkept_68)) (zout_75))) L2 O ev ev hM2) (cwV 0 hts gX5_move_X5_breaksNow rfl rfl rfl (by decide +kernel) ⟨Nat.le_of_ble_eq_true rfl, Nat.le_of_ble_eq_true rfl⟩) (rfl : vwCl[5]? = some (RX5, TX5, 18)) (q0 := 0) rfl dX5_move_80 rfl rfl rfl rfl rfl (Nat.le_of_ble_eq_true rfl) ⟨Nat.le_of_ble_eq_true rfl, Nat.le_of_ble_eq_true rfl⟩ (fun v9 w9 H locs hq hW => ?_)
          obtain ⟨rr_80, zrow_80, zbrk_80, znb_80, zhold_80, zmov_80, zbeh_80, rfl, rfl, hh_80⟩ := hq
          have hW : zW D A s.heap [zMod2 cI a (mm_beh_ (mm_mov_ (mm_hold_ (mm_nb_ (mm_brk_ (mm_row_ (mm_out_ (mm_kept_ (mm_all_ b (zall_75)) (zkept_68)) (zout_75)) (zrow_80)) (zbrk_80)) (znb_80)) (zhold_80)) (zmov_80)) (zbeh_80))] H locs := hW
          refine W.eq (g2 := F0 m 83 ls [.int (zI rr_80), .ref (a 0)]) rfl ?_
          rw [show rr_80 = (nbM (ordC L O) O jq pq y2 y3) by rw [hh_80, he2]; rfl]
          refine z_callV (r := (RX5, TX5, 18)) (As := [.int (zI (nbM (ordC L O) O jq pq y2 y3))]) (rest := []) hS hK hA hW hl.1 [0] [] (kX5_acted l D cI cB a ((mm_beh_ (mm_mov_ (mm_hold_ (mm_nb_ (mm_brk_ (mm_row_ (mm_out_ (mm_kept_ (mm_all_ b (zall_75)) (zkept_68)) (zout_75)) (zrow_80)) (zbrk_80)) (znb_80)) (zhold_80)) (zmov_80)) (zbeh_80))) (nbM (ordC L O) O jq pq y2 y3) hs ((ordC L O, O, ev)) hH hh_68 (by omega)) (cwV 1 hts gX5_move_X5_acted rfl rfl rfl (by decide +kernel) ⟨Nat.le_of_ble_eq_true rfl, Nat.le_of_ble_eq_true rfl⟩) (rfl : vwCl[5]? = some (RX5, TX5, 18)) (q0 := 0) rfl dX5_move_83 rfl rfl rfl rfl rfl (Nat.le_of_ble_eq_true rfl) ⟨Nat.le_of_ble_eq_true rfl, Nat.le_of_ble_eq_true rfl⟩ (fun v9 w9 H locs hq hW => ?_)
          obtain ⟨rr_83, zhis_83, zhl_83, rfl, rfl, hh_83⟩ := hq
          have hW : zW D A s.heap [zMod2 cI a (mm_beh_ (mm_mov_ (mm_hold_ (mm_nb_ (mm_brk_ (mm_row_ (mm_out_ (mm_hl_ (mm_his_ (mm_kept_ (mm_all_ b (zall_75)) (zkept_68)) (zhis_83)) (zhl_83)) (zout_75)) (zrow_80)) (zbrk_80)) (znb_80)) (zhold_80)) (zmov_80)) (zbeh_80))] H locs := hW
          refine W.eq (g2 := F0 m 86 ls [.int (zI rr_83)]) rfl ?_
          have hHz := hh_83.2
          rw [show rr_83 = (nbM (ordC L O) O jq pq y2 y3) by exact hh_83.1]
          exact z_iret (v := nbM (ordC L O) O jq pq y2 y3) hx hb hr hlk hW dX5_move_86 (by
              exact ⟨nbM (ordC L O) O jq pq y2 y3, zall_75, zkept_68, zhis_83, zhl_83, zout_75, zrow_80, zbrk_80, znb_80, zhold_80, zmov_80, zbeh_80, rfl, rfl, by exact ⟨_, _, Or.inr ⟨by omega, jq, pq, hjp, Or.inr ⟨by omega, Or.inr ⟨by first | (rintro ⟨hq1, hq2⟩; rw [← hq1] at hq2; omega) | (rintro ⟨hq1, hq2⟩; omega), rfl, rfl, rfl⟩⟩⟩, ⟨L2, hM2, he2.symm⟩, hHz⟩⟩)
        · refine lv_aload_n hx hb dX5_move_54 rfl (lv_at hl 1 rfl) ?_
          refine lv_iload hx hb dX5_move_55 (lv_at hl 0 rfl) ?_
          refine z_callV (r := (RX5, TX5, 18)) (As := [.int (zI rr_2)]) (rest := []) hS hK hA hW hl.1 [0] [] (kX5_placeOf l D cI cB a b rr_2 L O ev ev kq pq hM hlq.1 hrk) (cwV 1 hts gX5_move_X5_placeOf rfl rfl rfl (by decide +kernel) ⟨Nat.le_of_ble_eq_true rfl, Nat.le_of_ble_eq_true rfl⟩) (rfl : vwCl[5]? = some (RX5, TX5, 18)) (q0 := 0) rfl dX5_move_57 rfl rfl rfl rfl rfl (Nat.le_of_ble_eq_true rfl) ⟨Nat.le_of_ble_eq_true rfl, Nat.le_of_ble_eq_true rfl⟩ (fun v9 w9 H locs hq hW => ?_)
          obtain ⟨rr_57, rfl, rfl, hh_57⟩ := hq
          subst rr_57
          have hW : zW D A s.heap [zMod2 cI a b] H locs := hW
          refine W.eq (g2 := F0 m 60 ls [.int (zI (inC (L.take kq) pq.2.1))]) rfl ?_
          have hit := inC_tk L kq pq.2.1
          have hjk := hlq.2.2.1
          refine lv_iload_n hx hb dX5_move_60 rfl (lv_at hl 4 rfl) ?_
          refine z_icmp_ne (tgt := 67) hx hb dX5_move_61 (by decide) (by omega) (fun cc_61 => ?_) (fun cc_61 => ?_)
          · refine lv_aload_n hx hb dX5_move_67 rfl (lv_at hl 1 rfl) ?_
            refine z_callV (r := (RX5, TX5, 18)) (As := []) (rest := []) hS hK hA hW hl.1 [0] [] (kX5_remember l D cI cB a b L O ev hM) (cwV 0 hts gX5_move_X5_remember rfl rfl rfl (by decide +kernel) ⟨Nat.le_of_ble_eq_true rfl, Nat.le_of_ble_eq_true rfl⟩) (rfl : vwCl[5]? = some (RX5, TX5, 18)) (q0 := 0) rfl dX5_move_68 rfl rfl rfl rfl rfl (Nat.le_of_ble_eq_true rfl) ⟨Nat.le_of_ble_eq_true rfl, Nat.le_of_ble_eq_true rfl⟩ (fun v9 w9 H locs hq hW => ?_)
            obtain ⟨zkept_68, rfl, rfl, hh_68⟩ := hq
            have hW : zW D A s.heap [zMod2 cI a (mm_kept_ b (zkept_68))] H locs := hW
            refine W.eq (g2 := F0 m 71 ls []) rfl ?_
            refine lv_aload_n hx hb dX5_move_71 rfl (lv_at hl 1 rfl) ?_
            refine lv_iload_n hx hb dX5_move_72 rfl (lv_at hl 2 rfl) ?_
            refine lv_iload_n hx hb dX5_move_73 rfl (lv_at hl 3 rfl) ?_
            refine lv_iload_n hx hb dX5_move_74 rfl (lv_at hl 4 rfl) ?_
            refine z_callV (r := (RX5, TX5, 18)) (As := [.int (zI y1), .int (zI y2), .int (zI y3)]) (rest := []) hS hK hA hW hl.1 [0] [] (kX5_moves l D cI cB a ((mm_kept_ b (zkept_68))) y1 y2 y3 L O ev jq pq hM hjp (by omega) (by omega) (by omega)) (cwV 3 hts gX5_move_X5_moves rfl rfl rfl (by decide +kernel) ⟨Nat.le_of_ble_eq_true rfl, Nat.le_of_ble_eq_true rfl⟩) (rfl : vwCl[5]? = some (RX5, TX5, 18)) (q0 := 0) rfl dX5_move_75 rfl rfl rfl rfl rfl (Nat.le_of_ble_eq_true rfl) ⟨Nat.le_of_ble_eq_true rfl, Nat.le_of_ble_eq_true rfl⟩ (fun v9 w9 H locs hq hW => ?_)
            obtain ⟨zall_75, zout_75, rfl, rfl, hh_75⟩ := hq
            have hW : zW D A s.heap [zMod2 cI a (mm_out_ (mm_kept_ (mm_all_ b (zall_75)) (zkept_68)) (zout_75))] H locs := hW
            refine W.eq (g2 := F0 m 78 ls []) rfl ?_
            obtain ⟨L2, hM2, he2⟩ := hh_75
            have hrg := nbM_rgM hM2 he2
            refine lv_aload_n hx hb dX5_move_78 rfl (lv_at hl 1 rfl) ?_
            refine lv_aload_n hx hb dX5_move_79 rfl (lv_at hl 1 rfl) ?_
            refine z_callV (r := (RX5, TX5, 18)) (As := []) (rest := [.ref (a 0)]) hS hK hA hW hl.1 [0] [] (kX5_breaksNow l D cI cB a ((mm_out_ (mm_kept_ (mm_all_ b (zall_75)) (zkept_68)) (zout_75))) L2 O ev ev hM2) (cwV 0 hts gX5_move_X5_breaksNow rfl rfl rfl (by decide +kernel) ⟨Nat.le_of_ble_eq_true rfl, Nat.le_of_ble_eq_true rfl⟩) (rfl : vwCl[5]? = some (RX5, TX5, 18)) (q0 := 0) rfl dX5_move_80 rfl rfl rfl rfl rfl (Nat.le_of_ble_eq_true rfl) ⟨Nat.le_of_ble_eq_true rfl, Nat.le_of_ble_eq_true rfl⟩ (fun v9 w9 H locs hq hW => ?_)
            obtain ⟨rr_80, zrow_80, zbrk_80, znb_80, zhold_80, zmov_80, zbeh_80, rfl, rfl, hh_80⟩ := hq
            have hW : zW D A s.heap [zMod2 cI a (mm_beh_ (mm_mov_ (mm_hold_ (mm_nb_ (mm_brk_ (mm_row_ (mm_out_ (mm_kept_ (mm_all_ b (zall_75)) (zkept_68)) (zout_75)) (zrow_80)) (zbrk_80)) (znb_80)) (zhold_80)) (zmov_80)) (zbeh_80))] H locs := hW
            refine W.eq (g2 := F0 m 83 ls [.int (zI rr_80), .ref (a 0)]) rfl ?_
            rw [show rr_80 = (nbM (ordC L O) O jq pq y2 y3) by rw [hh_80, he2]; rfl]
            refine z_callV (r := (RX5, TX5, 18)) (As := [.int (zI (nbM (ordC L O) O jq pq y2 y3))]) (rest := []) hS hK hA hW hl.1 [0] [] (kX5_acted l D cI cB a ((mm_beh_ (mm_mov_ (mm_hold_ (mm_nb_ (mm_brk_ (mm_row_ (mm_out_ (mm_kept_ (mm_all_ b (zall_75)) (zkept_68)) (zout_75)) (zrow_80)) (zbrk_80)) (znb_80)) (zhold_80)) (zmov_80)) (zbeh_80))) (nbM (ordC L O) O jq pq y2 y3) hs ((ordC L O, O, ev)) hH hh_68 (by omega)) (cwV 1 hts gX5_move_X5_acted rfl rfl rfl (by decide +kernel) ⟨Nat.le_of_ble_eq_true rfl, Nat.le_of_ble_eq_true rfl⟩) (rfl : vwCl[5]? = some (RX5, TX5, 18)) (q0 := 0) rfl dX5_move_83 rfl rfl rfl rfl rfl (Nat.le_of_ble_eq_true rfl) ⟨Nat.le_of_ble_eq_true rfl, Nat.le_of_ble_eq_true rfl⟩ (fun v9 w9 H locs hq hW => ?_)
            obtain ⟨rr_83, zhis_83, zhl_83, rfl, rfl, hh_83⟩ := hq
            have hW : zW D A s.heap [zMod2 cI a (mm_beh_ (mm_mov_ (mm_hold_ (mm_nb_ (mm_brk_ (mm_row_ (mm_out_ (mm_hl_ (mm_his_ (mm_kept_ (mm_all_ b (zall_75)) (zkept_68)) (zhis_83)) (zhl_83)) (zout_75)) (zrow_80)) (zbrk_80)) (znb_80)) (zhold_80)) (zmov_80)) (zbeh_80))] H locs := hW
            refine W.eq (g2 := F0 m 86 ls [.int (zI rr_83)]) rfl ?_
            have hHz := hh_83.2
            rw [show rr_83 = (nbM (ordC L O) O jq pq y2 y3) by exact hh_83.1]
            exact z_iret (v := nbM (ordC L O) O jq pq y2 y3) hx hb hr hlk hW dX5_move_86 (by
                exact ⟨nbM (ordC L O) O jq pq y2 y3, zall_75, zkept_68, zhis_83, zhl_83, zout_75, zrow_80, zbrk_80, znb_80, zhold_80, zmov_80, zbeh_80, rfl, rfl, by exact ⟨_, _, Or.inr ⟨by omega, jq, pq, hjp, Or.inr ⟨by omega, Or.inr ⟨by first | (rintro ⟨hq1, hq2⟩; rw [← hq1] at hq2; omega) | (rintro ⟨hq1, hq2⟩; omega), rfl, rfl, rfl⟩⟩⟩, ⟨L2, hM2, he2.symm⟩, hHz⟩⟩)
          · refine lv_bipush (v := zI (-5)) hx hb dX5_move_64 (by decide +kernel) ?_
            exact z_iret (v := (-5)) hx hb hr hlk hW dX5_move_66 (by
                exact ⟨(-5), mm_all b, mm_kept b, mm_his b, mm_hl b, mm_out b, mm_row b, mm_brk b, mm_nb b, mm_hold b, mm_mov b, mm_beh b, rfl, rfl, by exact ⟨_, _, Or.inr ⟨by omega, jq, pq, hjp, Or.inr ⟨by omega, Or.inl ⟨⟨by omega, by rw [← show pq.2.1 = y2 by omega]; omega⟩, rfl, rfl, rfl⟩⟩⟩, RM_MR hM, hH⟩⟩)
      · refine lv_bipush (v := zI (-2)) hx hb dX5_move_40 (by decide +kernel) ?_
        exact z_iret (v := (-2)) hx hb hr hlk hW dX5_move_42 (by
            exact ⟨(-2), mm_all b, mm_kept b, mm_his b, mm_hl b, mm_out b, mm_row b, mm_brk b, mm_nb b, mm_hold b, mm_mov b, mm_beh b, rfl, rfl, by exact ⟨_, _, Or.inr ⟨by omega, jq, pq, hjp, Or.inl ⟨by omega, rfl, rfl, rfl⟩⟩, RM_MR hM, hH⟩⟩)
    · refine lv_iconst (v := zI (-1)) hx hb dX5_move_21 rfl ?_
      exact z_iret (v := (-1)) hx hb hr hlk hW dX5_move_22 (by
          exact ⟨(-1), mm_all b, mm_kept b, mm_his b, mm_hl b, mm_out b, mm_row b, mm_brk b, mm_nb b, mm_hold b, mm_mov b, mm_beh b, rfl, rfl, by refine ⟨_, _, Or.inl ⟨?_, rfl, rfl, rfl⟩, RM_MR hM, hH⟩; first | exact Or.inl hnp | exact Or.inr (by omega)⟩)

abbrev qX5_moveScene (cI : ClassId) (a : Nat → Nat) (b : zM2) (y1 y2 : Int) (L : List zPn) (O : List Int) (ev : Int) (hs : List zSt) : Option Value → List va_W → Prop := fun vq wq => ∃ (r : Int) (zall : Int → Int) (zkept : Int → Int) (zhis : Int → Int) (zhl : Int) (zrow : Int → Int) (zbrk : Int → Int) (znb : Int) (zhold : Int → Int) (zmov : Int → Int) (zbeh : Int → Int), vq = some (.int (zI r)) ∧ wq = [zMod2 cI a (mm_beh_ (mm_mov_ (mm_hold_ (mm_nb_ (mm_brk_ (mm_row_ (mm_hl_ (mm_his_ (mm_kept_ (mm_all_ b zall) zkept) zhis) zhl) zrow) zbrk) znb) zhold) zmov) zbeh)] ∧ (∃ (S2 : zSt) (hs2 : List zSt), sceR (ordC L O) O ev hs y1 y2 r S2 hs2 ∧ MR zall S2 ∧ MH zhl zhis hs2)
set_option maxRecDepth 20000 in
theorem mX5_moveScene_0 : (.constantLong RX5 57 (4) : Cond) ∈ wsX5_moveScene := by decide +kernel
set_option maxRecDepth 20000 in
theorem iX5_moveScene_X5 : ∀ w ∈ u_ws RX5 TX5 18, w ∈ wsX5_moveScene := by decide +kernel
set_option maxRecDepth 20000 in
theorem mX5_moveScene_2 : (.fieldLink RX5 7 "StoryPanelsModel" "all" "[I" : Cond) ∈ wsX5_moveScene := by decide +kernel
set_option maxHeartbeats 4000000 in
set_option maxRecDepth 100000 in
theorem kX5_moveScene (l : Launch) (D : va_G) (cI cB : ClassId) (a : Nat → Nat) (b : zM2) (y1 y2 : Int) (L : List zPn) (O : List Int) (ev : Int) (hs : List zSt) (hM : RM (mm_all b) L O ev) (hH : MH (mm_hl b) (mm_his b) hs) (hy1 : R32 y1) (hy2 : R32 y2) : zMet l yX5_moveScene wsX5_moveScene 6 136 0 0 D cI cB [.ref (a 0), .int (zI y1), .int (zI y2)] [zMod2 cI a b] (qX5_moveScene cI a b y1 y2 L O ev hs) := by
  refine zMet.of (cd := cX5_moveScene) (maxL := 6) (ret := (some .int)) (by decide) rfl (Nat.le_of_ble_eq_true rfl) ?_
  intro p e s m args below meth c A ls hS hr hlk hnm hK hA hW hl
  have hS : CallFix p m c cX5_moveScene 6 s args wsX5_moveScene RX5 := hS
  have hx := hS.1
  have hb := hS.2.1
  have hown := hS.2.2.2.1
  have hts := hS.2.2.2.2
  have hl : lv_has ls 6 [(0, .ref (a 0)), (1, .int (zI y1)), (2, .int (zI y2))] := hl
  have hM1 := hM.2.1
  have hM3 := hM.2.2.1
  have hln := ordC_ln hM
  have hM0 := hM.1
  have hM4 := hM.2.2.2.1
  refine lv_iload_n hx hb dX5_moveScene_0 rfl (lv_at hl 1 rfl) ?_
  refine z_callS (As := [.int (zI y1)]) (rest := []) hS hK hA hW hl.1 [] [0] (kX5_isScene l D cI cB y1 (by omega)) (va_cwS 1 hts gX5_moveScene_X5_isScene rfl rfl rfl (by decide +kernel) ⟨Nat.le_of_ble_eq_true rfl, Nat.le_of_ble_eq_true rfl⟩) dX5_moveScene_1 rfl rfl rfl rfl rfl (Nat.le_of_ble_eq_true rfl) ⟨Nat.le_of_ble_eq_true rfl, Nat.le_of_ble_eq_true rfl⟩ (fun v9 w9 H locs hq hW => ?_)
  obtain ⟨rr_1, rfl, rfl, hh_1⟩ := hq
  have hW : zW D A s.heap [zMod2 cI a b] H locs := hW
  refine W.eq (g2 := F0 m 4 ls [.int (zI rr_1)]) rfl ?_
  refine z_if_ne (tgt := 9) hx hb dX5_moveScene_4 (by decide) (by omega) (fun cc_4 => ?_) (fun cc_4 => ?_)
  · refine lv_iload_n hx hb dX5_moveScene_9 rfl (lv_at hl 2 rfl) ?_
    refine z_i2l hx hb dX5_moveScene_10 (by omega) ?_
    refine z_lconst hx hb dX5_moveScene_11 ?_
    refine z_ldc2 (n := 4) hx hb hown (hts _ mX5_moveScene_0) (by decide) dX5_moveScene_12 ?_
    refine z_callS (As := [.long (zL y2), .long (zL 0), .long (zL 4)]) (rest := []) hS hK hA hW hl.1 [] [0] (kX5_in l D cI cB y2 0 4 (by omega) (by omega) (by omega)) (va_cwS 3 hts gX5_moveScene_X5_in rfl rfl rfl (by decide +kernel) ⟨Nat.le_of_ble_eq_true rfl, Nat.le_of_ble_eq_true rfl⟩) dX5_moveScene_15 rfl rfl rfl rfl rfl (Nat.le_of_ble_eq_true rfl) ⟨Nat.le_of_ble_eq_true rfl, Nat.le_of_ble_eq_true rfl⟩ (fun v9 w9 H locs hq hW => ?_)
    obtain ⟨rr_15, rfl, rfl, hh_15⟩ := hq
    have hW : zW D A s.heap [zMod2 cI a b] H locs := hW
    refine W.eq (g2 := F0 m 18 ls [.int (zI rr_15)]) rfl ?_
    refine z_if_ne (tgt := 24) hx hb dX5_moveScene_18 (by decide) (by omega) (fun cc_18 => ?_) (fun cc_18 => ?_)
    · refine lv_aload_n hx hb dX5_moveScene_24 rfl (lv_at hl 0 rfl) ?_
      refine lv_iload_n hx hb dX5_moveScene_25 rfl (lv_at hl 1 rfl) ?_
      refine z_callV (r := (RX5, TX5, 18)) (As := [.int (zI y1)]) (rest := []) hS hK hA hW hl.1 [0] [] (kX5_placeOfScene l D cI cB a b y1 L O ev ev hM (by omega)) (cwV 1 hts gX5_moveScene_X5_placeOfScene rfl rfl rfl (by decide +kernel) ⟨Nat.le_of_ble_eq_true rfl, Nat.le_of_ble_eq_true rfl⟩) (rfl : vwCl[5]? = some (RX5, TX5, 18)) (q0 := 0) rfl dX5_moveScene_26 rfl rfl rfl rfl rfl (Nat.le_of_ble_eq_true rfl) ⟨Nat.le_of_ble_eq_true rfl, Nat.le_of_ble_eq_true rfl⟩ (fun v9 w9 H locs hq hW => ?_)
      obtain ⟨rr_26, rfl, rfl, hh_26⟩ := hq
      subst rr_26
      have hW : zW D A s.heap [zMod2 cI a b] H locs := hW
      refine W.eq (g2 := F0 m 29 ls [.int (zI ((O.idxOf y1 : Int)))]) rfl ?_
      have hI := (RM_idx hM (s := y1) (by omega)).1
      refine lv_istore_n (lv' := [(3, .int (zI ((O.idxOf y1 : Int)))), (0, .ref (a 0)), (1, .int (zI y1)), (2, .int (zI y2))]) hx hb dX5_moveScene_29 rfl hl (by decide) rfl (fun ls hl => ?_)
      refine lv_iload_n hx hb dX5_moveScene_30 rfl (lv_at hl 0 rfl) ?_
      refine lv_iload_n hx hb dX5_moveScene_31 rfl (lv_at hl 3 rfl) ?_
      refine z_icmp_ne (tgt := 38) hx hb dX5_moveScene_32 (by decide) (by omega) (fun cc_32 => ?_) (fun cc_32 => ?_)
      · refine lv_aload_n hx hb dX5_moveScene_38 rfl (lv_at hl 1 rfl) ?_
        refine z_callV (r := (RX5, TX5, 18)) (As := []) (rest := []) hS hK hA hW hl.1 [0] [] (kX5_remember l D cI cB a b L O ev hM) (cwV 0 hts gX5_moveScene_X5_remember rfl rfl rfl (by decide +kernel) ⟨Nat.le_of_ble_eq_true rfl, Nat.le_of_ble_eq_true rfl⟩) (rfl : vwCl[5]? = some (RX5, TX5, 18)) (q0 := 0) rfl dX5_moveScene_39 rfl rfl rfl rfl rfl (Nat.le_of_ble_eq_true rfl) ⟨Nat.le_of_ble_eq_true rfl, Nat.le_of_ble_eq_true rfl⟩ (fun v9 w9 H locs hq hW => ?_)
        obtain ⟨zkept_39, rfl, rfl, hh_39⟩ := hq
        have hW : zW D A s.heap [zMod2 cI a (mm_kept_ b (zkept_39))] H locs := hW
        refine W.eq (g2 := F0 m 42 ls []) rfl ?_
        refine lv_iload_n hx hb dX5_moveScene_42 rfl (lv_at hl 3 rfl) ?_
        refine lv_iload_n hx hb dX5_moveScene_43 rfl (lv_at hl 0 rfl) ?_
        refine z_icmp_le (tgt := 51) hx hb dX5_moveScene_44 (by decide) (by omega) (fun cc_44 => ?_) (fun cc_44 => ?_)
        · refine lv_iconst (v := zI (-1)) hx hb dX5_moveScene_51 rfl ?_
          refine lv_istore (lv' := [(4, .int (zI ((-1)))), (3, .int (zI ((O.idxOf y1 : Int)))), (0, .ref (a 0)), (1, .int (zI y1)), (2, .int (zI y2))]) hx hb dX5_moveScene_52 hl (by decide) rfl (fun ls hl => ?_)
          refine lv_iload_n hx hb dX5_moveScene_54 rfl (lv_at hl 1 rfl) ?_
          refine lv_istore (lv' := [(5, .int (zI ((O.idxOf y1 : Int)))), (4, .int (zI ((-1)))), (3, .int (zI ((O.idxOf y1 : Int)))), (0, .ref (a 0)), (1, .int (zI y1)), (2, .int (zI y2))]) hx hb dX5_moveScene_55 hl (by decide) rfl (fun ls hl => ?_)
          have L57 : ∀ (fu : Nat) (stp : Int) (kx : Int) (hc : Int → Int), ((stp = 1 ∧ (O.idxOf y1 : Int) ≤ kx ∧ kx ≤ y2) ∨ (stp = -1 ∧ y2 ≤ kx ∧ kx ≤ (O.idxOf y1 : Int))) → (hc = mvSF (mm_all b) (O.idxOf y1 : Int) kx) → ((if stp = 1 then y2 - kx else kx - y2)) < (fu : Int) → ∀ (H : Heap) (locs : List Loc), zW D A s.heap [zMod2 cI a (mm_kept_ (mm_all_ b (hc)) (zkept_39))] H locs → ∀ (ls : Array Slot), lv_has ls 6 [(0, .ref (a 0)), (1, .int (zI y1)), (2, .int (zI y2)), (3, .int (zI ((O.idxOf y1 : Int)))), (4, .int (zI stp)), (5, .int (zI kx))] → W p l e { frames := 6, cells := 0, slots := 0, locals := 136 } s m args below meth c H locs 0 0 (MQ below (zQ A D (qX5_moveScene cI a b y1 y2 L O ev hs)) args s 0 0 A) (F0 m 57 ls []) := by
            intro fu
            induction fu with
            | zero => intro stp kx hc hkx hhc hm; exact absurd hm (by (split <;> omega))
            | succ fu ih57 =>
              intro stp kx hc hkx hhc hm H locs hW ls hl
              refine lv_iload hx hb dX5_moveScene_57 (lv_at hl 5 rfl) ?_
              refine lv_iload_n hx hb dX5_moveScene_59 rfl (lv_at hl 2 rfl) ?_
              refine z_icmp_eq (tgt := 94) hx hb dX5_moveScene_60 (by decide) (by omega) (fun cc_60 => ?_) (fun cc_60 => ?_)
              · refine lv_aload_n hx hb dX5_moveScene_94 rfl (lv_at hl 0 rfl) ?_
                refine va_get (D := D) (ci := 5) (v := .ref (a 1)) (C := RX5) (T := TX5) (N := 18) hx hb hts iX5_moveScene_X5 hown hK.1 hW.1 0 rfl rfl 0 (by decide) (hts _ mX5_moveScene_2) (fun _ h9 => h9) rfl dX5_moveScene_95 ?_
                refine lv_iconst (v := zI (2)) hx hb dX5_moveScene_98 rfl ?_
                refine lv_iload_n hx hb dX5_moveScene_99 rfl (lv_at hl 2 rfl) ?_
                refine z_iadd hx hb dX5_moveScene_100 ?_
                refine lv_iload_n hx hb dX5_moveScene_101 rfl (lv_at hl 1 rfl) ?_
                refine z_iast (n := 227) (g := hc) (bs1 := [zMod2 cI a (mm_kept_ (mm_all_ b (zU hc (2 + y2) y1)) (zkept_39))]) hx hb hK hW 1 rfl dX5_moveScene_102 (by omega) rfl (fun H locs hW => ?_)
                refine lv_aload_n hx hb dX5_moveScene_103 rfl (lv_at hl 0 rfl) ?_
                refine lv_aload_n hx hb dX5_moveScene_104 rfl (lv_at hl 0 rfl) ?_
                have hM2 : RM (zU hc (2 + y2) y1) L (mvO O y1 y2) ev := RM_mvO hM (by omega) (by omega) hhc (by omega)
                have hrg := nbC_rgM hM2
                refine z_callV (r := (RX5, TX5, 18)) (As := []) (rest := [.ref (a 0)]) hS hK hA hW hl.1 [0] [] (kX5_breaksNow l D cI cB a ((mm_kept_ (mm_all_ b (zU hc (2 + y2) y1)) (zkept_39))) L ((mvO O y1 y2)) ev ev hM2) (cwV 0 hts gX5_moveScene_X5_breaksNow rfl rfl rfl (by decide +kernel) ⟨Nat.le_of_ble_eq_true rfl, Nat.le_of_ble_eq_true rfl⟩) (rfl : vwCl[5]? = some (RX5, TX5, 18)) (q0 := 0) rfl dX5_moveScene_105 rfl rfl rfl rfl rfl (Nat.le_of_ble_eq_true rfl) ⟨Nat.le_of_ble_eq_true rfl, Nat.le_of_ble_eq_true rfl⟩ (fun v9 w9 H locs hq hW => ?_)
                obtain ⟨rr_105, zrow_105, zbrk_105, znb_105, zhold_105, zmov_105, zbeh_105, rfl, rfl, hh_105⟩ := hq
                have hW : zW D A s.heap [zMod2 cI a (mm_beh_ (mm_mov_ (mm_hold_ (mm_nb_ (mm_brk_ (mm_row_ (mm_kept_ (mm_all_ b (zU hc (2 + y2) y1)) (zkept_39)) (zrow_105)) (zbrk_105)) (znb_105)) (zhold_105)) (zmov_105)) (zbeh_105))] H locs := hW
                refine W.eq (g2 := F0 m 108 ls [.int (zI rr_105), .ref (a 0)]) rfl ?_
                rw [show rr_105 = (nbC (ordC L (mvO O y1 y2))) by exact hh_105]
                refine z_callV (r := (RX5, TX5, 18)) (As := [.int (zI (nbC (ordC L (mvO O y1 y2))))]) (rest := []) hS hK hA hW hl.1 [0] [] (kX5_acted l D cI cB a ((mm_beh_ (mm_mov_ (mm_hold_ (mm_nb_ (mm_brk_ (mm_row_ (mm_kept_ (mm_all_ b (zU hc (2 + y2) y1)) (zkept_39)) (zrow_105)) (zbrk_105)) (znb_105)) (zhold_105)) (zmov_105)) (zbeh_105))) (nbC (ordC L (mvO O y1 y2))) hs ((ordC L O, O, ev)) hH hh_39 (by omega)) (cwV 1 hts gX5_moveScene_X5_acted rfl rfl rfl (by decide +kernel) ⟨Nat.le_of_ble_eq_true rfl, Nat.le_of_ble_eq_true rfl⟩) (rfl : vwCl[5]? = some (RX5, TX5, 18)) (q0 := 0) rfl dX5_moveScene_108 rfl rfl rfl rfl rfl (Nat.le_of_ble_eq_true rfl) ⟨Nat.le_of_ble_eq_true rfl, Nat.le_of_ble_eq_true rfl⟩ (fun v9 w9 H locs hq hW => ?_)
                obtain ⟨rr_108, zhis_108, zhl_108, rfl, rfl, hh_108⟩ := hq
                have hW : zW D A s.heap [zMod2 cI a (mm_beh_ (mm_mov_ (mm_hold_ (mm_nb_ (mm_brk_ (mm_row_ (mm_hl_ (mm_his_ (mm_kept_ (mm_all_ b (zU hc (2 + y2) y1)) (zkept_39)) (zhis_108)) (zhl_108)) (zrow_105)) (zbrk_105)) (znb_105)) (zhold_105)) (zmov_105)) (zbeh_105))] H locs := hW
                refine W.eq (g2 := F0 m 111 ls [.int (zI rr_108)]) rfl ?_
                have hHz := hh_108.2
                rw [show rr_108 = (nbC (ordC L (mvO O y1 y2))) by exact hh_108.1]
                exact z_iret (v := nbC (ordC L (mvO O y1 y2))) hx hb hr hlk hW dX5_moveScene_111 (by
                    exact ⟨nbC (ordC L (mvO O y1 y2)), zU hc (2 + y2) y1, zkept_39, zhis_108, zhl_108, zrow_105, zbrk_105, znb_105, zhold_105, zmov_105, zbeh_105, rfl, rfl, by exact ⟨_, _, Or.inr ⟨by omega, Or.inr ⟨by omega, Or.inr ⟨by omega, by rw [ord_mvO hM (by omega)], rfl, rfl⟩⟩⟩, ⟨L, hM2, by rw [ord_mvO hM (by omega)]⟩, hHz⟩⟩)
              · refine lv_aload_n hx hb dX5_moveScene_63 rfl (lv_at hl 0 rfl) ?_
                refine va_get (D := D) (ci := 5) (v := .ref (a 1)) (C := RX5) (T := TX5) (N := 18) hx hb hts iX5_moveScene_X5 hown hK.1 hW.1 0 rfl rfl 0 (by decide) (hts _ mX5_moveScene_2) (fun _ h9 => h9) rfl dX5_moveScene_64 ?_
                refine lv_iconst (v := zI (2)) hx hb dX5_moveScene_67 rfl ?_
                refine lv_iload hx hb dX5_moveScene_68 (lv_at hl 5 rfl) ?_
                refine z_iadd hx hb dX5_moveScene_70 ?_
                refine lv_aload_n hx hb dX5_moveScene_71 rfl (lv_at hl 0 rfl) ?_
                refine va_get (D := D) (ci := 5) (v := .ref (a 1)) (C := RX5) (T := TX5) (N := 18) hx hb hts iX5_moveScene_X5 hown hK.1 hW.1 0 rfl rfl 0 (by decide) (hts _ mX5_moveScene_2) (fun _ h9 => h9) rfl dX5_moveScene_72 ?_
                refine lv_iconst (v := zI (2)) hx hb dX5_moveScene_75 rfl ?_
                refine lv_iload hx hb dX5_moveScene_76 (lv_at hl 5 rfl) ?_
                refine z_iadd hx hb dX5_moveScene_78 ?_
                refine lv_iload hx hb dX5_moveScene_79 (lv_at hl 4 rfl) ?_
                refine z_iadd hx hb dX5_moveScene_81 ?_
                refine z_iald (n := 227) (g := hc) hx hb hK hW 1 rfl dX5_moveScene_82 (by omega) ?_
                refine z_iast (n := 227) (g := hc) (bs1 := [zMod2 cI a (mm_kept_ (mm_all_ b (zU hc (2 + kx) (hc ((2 + kx) + stp)))) (zkept_39))]) hx hb hK hW 1 rfl dX5_moveScene_83 (by omega) rfl (fun H locs hW => ?_)
                refine lv_iload hx hb dX5_moveScene_84 (lv_at hl 5 rfl) ?_
                refine lv_iload hx hb dX5_moveScene_86 (lv_at hl 4 rfl) ?_
                refine z_iadd hx hb dX5_moveScene_88 ?_
                refine lv_istore (lv' := [(5, .int (zI (kx + stp))), (0, .ref (a 0)), (1, .int (zI y1)), (2, .int (zI y2)), (3, .int (zI ((O.idxOf y1 : Int)))), (4, .int (zI stp))]) hx hb dX5_moveScene_89 hl (by decide) rfl (fun ls hl => ?_)
                refine lv_goto (tgt := 57) hx hb dX5_moveScene_91 (by decide) ?_
                exact ih57 stp (kx + stp) (zU hc (2 + kx) (hc ((2 + kx) + stp))) (by omega) (by rw [hhc]; first | exact mvSF_u _ (by omega) (by omega) | exact mvSF_d _ (by omega) (by omega)) (by split <;> split at hm <;> omega) _ _ hW ls (lv_sub hl [1, 2, 3, 4, 5, 0] rfl)
          exact L57 ((((if ((-1)) = 1 then y2 - ((O.idxOf y1 : Int)) else ((O.idxOf y1 : Int)) - y2)) : Int).toNat + 1) ((-1)) ((O.idxOf y1 : Int)) (mm_all b) (by omega) (by exact (mvSF_0 _ _).symm) (by split <;> omega) _ _ hW ls (lv_sub hl [3, 4, 5, 2, 1, 0] rfl)
        · refine lv_iconst (v := zI (1)) hx hb dX5_moveScene_47 rfl ?_
          refine lv_goto (tgt := 52) hx hb dX5_moveScene_48 (by decide) ?_
          refine lv_istore (lv' := [(4, .int (zI 1)), (3, .int (zI ((O.idxOf y1 : Int)))), (0, .ref (a 0)), (1, .int (zI y1)), (2, .int (zI y2))]) hx hb dX5_moveScene_52 hl (by decide) rfl (fun ls hl => ?_)
          refine lv_iload_n hx hb dX5_moveScene_54 rfl (lv_at hl 1 rfl) ?_
          refine lv_istore (lv' := [(5, .int (zI ((O.idxOf y1 : Int)))), (4, .int (zI 1)), (3, .int (zI ((O.idxOf y1 : Int)))), (0, .ref (a 0)), (1, .int (zI y1)), (2, .int (zI y2))]) hx hb dX5_moveScene_55 hl (by decide) rfl (fun ls hl => ?_)
          have L57 : ∀ (fu : Nat) (stp : Int) (kx : Int) (hc : Int → Int), ((stp = 1 ∧ (O.idxOf y1 : Int) ≤ kx ∧ kx ≤ y2) ∨ (stp = -1 ∧ y2 ≤ kx ∧ kx ≤ (O.idxOf y1 : Int))) → (hc = mvSF (mm_all b) (O.idxOf y1 : Int) kx) → ((if stp = 1 then y2 - kx else kx - y2)) < (fu : Int) → ∀ (H : Heap) (locs : List Loc), zW D A s.heap [zMod2 cI a (mm_kept_ (mm_all_ b (hc)) (zkept_39))] H locs → ∀ (ls : Array Slot), lv_has ls 6 [(0, .ref (a 0)), (1, .int (zI y1)), (2, .int (zI y2)), (3, .int (zI ((O.idxOf y1 : Int)))), (4, .int (zI stp)), (5, .int (zI kx))] → W p l e { frames := 6, cells := 0, slots := 0, locals := 136 } s m args below meth c H locs 0 0 (MQ below (zQ A D (qX5_moveScene cI a b y1 y2 L O ev hs)) args s 0 0 A) (F0 m 57 ls []) := by
            intro fu
            induction fu with
            | zero => intro stp kx hc hkx hhc hm; exact absurd hm (by (split <;> omega))
            | succ fu ih57 =>
              intro stp kx hc hkx hhc hm H locs hW ls hl
              refine lv_iload hx hb dX5_moveScene_57 (lv_at hl 5 rfl) ?_
              refine lv_iload_n hx hb dX5_moveScene_59 rfl (lv_at hl 2 rfl) ?_
              refine z_icmp_eq (tgt := 94) hx hb dX5_moveScene_60 (by decide) (by omega) (fun cc_60 => ?_) (fun cc_60 => ?_)
              · refine lv_aload_n hx hb dX5_moveScene_94 rfl (lv_at hl 0 rfl) ?_
                refine va_get (D := D) (ci := 5) (v := .ref (a 1)) (C := RX5) (T := TX5) (N := 18) hx hb hts iX5_moveScene_X5 hown hK.1 hW.1 0 rfl rfl 0 (by decide) (hts _ mX5_moveScene_2) (fun _ h9 => h9) rfl dX5_moveScene_95 ?_
                refine lv_iconst (v := zI (2)) hx hb dX5_moveScene_98 rfl ?_
                refine lv_iload_n hx hb dX5_moveScene_99 rfl (lv_at hl 2 rfl) ?_
                refine z_iadd hx hb dX5_moveScene_100 ?_
                refine lv_iload_n hx hb dX5_moveScene_101 rfl (lv_at hl 1 rfl) ?_
                refine z_iast (n := 227) (g := hc) (bs1 := [zMod2 cI a (mm_kept_ (mm_all_ b (zU hc (2 + y2) y1)) (zkept_39))]) hx hb hK hW 1 rfl dX5_moveScene_102 (by omega) rfl (fun H locs hW => ?_)
                refine lv_aload_n hx hb dX5_moveScene_103 rfl (lv_at hl 0 rfl) ?_
                refine lv_aload_n hx hb dX5_moveScene_104 rfl (lv_at hl 0 rfl) ?_
                have hM2 : RM (zU hc (2 + y2) y1) L (mvO O y1 y2) ev := RM_mvO hM (by omega) (by omega) hhc (by omega)
                have hrg := nbC_rgM hM2
                refine z_callV (r := (RX5, TX5, 18)) (As := []) (rest := [.ref (a 0)]) hS hK hA hW hl.1 [0] [] (kX5_breaksNow l D cI cB a ((mm_kept_ (mm_all_ b (zU hc (2 + y2) y1)) (zkept_39))) L ((mvO O y1 y2)) ev ev hM2) (cwV 0 hts gX5_moveScene_X5_breaksNow rfl rfl rfl (by decide +kernel) ⟨Nat.le_of_ble_eq_true rfl, Nat.le_of_ble_eq_true rfl⟩) (rfl : vwCl[5]? = some (RX5, TX5, 18)) (q0 := 0) rfl dX5_moveScene_105 rfl rfl rfl rfl rfl (Nat.le_of_ble_eq_true rfl) ⟨Nat.le_of_ble_eq_true rfl, Nat.le_of_ble_eq_true rfl⟩ (fun v9 w9 H locs hq hW => ?_)
                obtain ⟨rr_105, zrow_105, zbrk_105, znb_105, zhold_105, zmov_105, zbeh_105, rfl, rfl, hh_105⟩ := hq
                have hW : zW D A s.heap [zMod2 cI a (mm_beh_ (mm_mov_ (mm_hold_ (mm_nb_ (mm_brk_ (mm_row_ (mm_kept_ (mm_all_ b (zU hc (2 + y2) y1)) (zkept_39)) (zrow_105)) (zbrk_105)) (znb_105)) (zhold_105)) (zmov_105)) (zbeh_105))] H locs := hW
                refine W.eq (g2 := F0 m 108 ls [.int (zI rr_105), .ref (a 0)]) rfl ?_
                rw [show rr_105 = (nbC (ordC L (mvO O y1 y2))) by exact hh_105]
                refine z_callV (r := (RX5, TX5, 18)) (As := [.int (zI (nbC (ordC L (mvO O y1 y2))))]) (rest := []) hS hK hA hW hl.1 [0] [] (kX5_acted l D cI cB a ((mm_beh_ (mm_mov_ (mm_hold_ (mm_nb_ (mm_brk_ (mm_row_ (mm_kept_ (mm_all_ b (zU hc (2 + y2) y1)) (zkept_39)) (zrow_105)) (zbrk_105)) (znb_105)) (zhold_105)) (zmov_105)) (zbeh_105))) (nbC (ordC L (mvO O y1 y2))) hs ((ordC L O, O, ev)) hH hh_39 (by omega)) (cwV 1 hts gX5_moveScene_X5_acted rfl rfl rfl (by decide +kernel) ⟨Nat.le_of_ble_eq_true rfl, Nat.le_of_ble_eq_true rfl⟩) (rfl : vwCl[5]? = some (RX5, TX5, 18)) (q0 := 0) rfl dX5_moveScene_108 rfl rfl rfl rfl rfl (Nat.le_of_ble_eq_true rfl) ⟨Nat.le_of_ble_eq_true rfl, Nat.le_of_ble_eq_true rfl⟩ (fun v9 w9 H locs hq hW => ?_)
                obtain ⟨rr_108, zhis_108, zhl_108, rfl, rfl, hh_108⟩ := hq
                have hW : zW D A s.heap [zMod2 cI a (mm_beh_ (mm_mov_ (mm_hold_ (mm_nb_ (mm_brk_ (mm_row_ (mm_hl_ (mm_his_ (mm_kept_ (mm_all_ b (zU hc (2 + y2) y1)) (zkept_39)) (zhis_108)) (zhl_108)) (zrow_105)) (zbrk_105)) (znb_105)) (zhold_105)) (zmov_105)) (zbeh_105))] H locs := hW
                refine W.eq (g2 := F0 m 111 ls [.int (zI rr_108)]) rfl ?_
                have hHz := hh_108.2
                rw [show rr_108 = (nbC (ordC L (mvO O y1 y2))) by exact hh_108.1]
                exact z_iret (v := nbC (ordC L (mvO O y1 y2))) hx hb hr hlk hW dX5_moveScene_111 (by
                    exact ⟨nbC (ordC L (mvO O y1 y2)), zU hc (2 + y2) y1, zkept_39, zhis_108, zhl_108, zrow_105, zbrk_105, znb_105, zhold_105, zmov_105, zbeh_105, rfl, rfl, by exact ⟨_, _, Or.inr ⟨by omega, Or.inr ⟨by omega, Or.inr ⟨by omega, by rw [ord_mvO hM (by omega)], rfl, rfl⟩⟩⟩, ⟨L, hM2, by rw [ord_mvO hM (by omega)]⟩, hHz⟩⟩)
              · refine lv_aload_n hx hb dX5_moveScene_63 rfl (lv_at hl 0 rfl) ?_
                refine va_get (D := D) (ci := 5) (v := .ref (a 1)) (C := RX5) (T := TX5) (N := 18) hx hb hts iX5_moveScene_X5 hown hK.1 hW.1 0 rfl rfl 0 (by decide) (hts _ mX5_moveScene_2) (fun _ h9 => h9) rfl dX5_moveScene_64 ?_
                refine lv_iconst (v := zI (2)) hx hb dX5_moveScene_67 rfl ?_
                refine lv_iload hx hb dX5_moveScene_68 (lv_at hl 5 rfl) ?_
                refine z_iadd hx hb dX5_moveScene_70 ?_
                refine lv_aload_n hx hb dX5_moveScene_71 rfl (lv_at hl 0 rfl) ?_
                refine va_get (D := D) (ci := 5) (v := .ref (a 1)) (C := RX5) (T := TX5) (N := 18) hx hb hts iX5_moveScene_X5 hown hK.1 hW.1 0 rfl rfl 0 (by decide) (hts _ mX5_moveScene_2) (fun _ h9 => h9) rfl dX5_moveScene_72 ?_
                refine lv_iconst (v := zI (2)) hx hb dX5_moveScene_75 rfl ?_
                refine lv_iload hx hb dX5_moveScene_76 (lv_at hl 5 rfl) ?_
                refine z_iadd hx hb dX5_moveScene_78 ?_
                refine lv_iload hx hb dX5_moveScene_79 (lv_at hl 4 rfl) ?_
                refine z_iadd hx hb dX5_moveScene_81 ?_
                refine z_iald (n := 227) (g := hc) hx hb hK hW 1 rfl dX5_moveScene_82 (by omega) ?_
                refine z_iast (n := 227) (g := hc) (bs1 := [zMod2 cI a (mm_kept_ (mm_all_ b (zU hc (2 + kx) (hc ((2 + kx) + stp)))) (zkept_39))]) hx hb hK hW 1 rfl dX5_moveScene_83 (by omega) rfl (fun H locs hW => ?_)
                refine lv_iload hx hb dX5_moveScene_84 (lv_at hl 5 rfl) ?_
                refine lv_iload hx hb dX5_moveScene_86 (lv_at hl 4 rfl) ?_
                refine z_iadd hx hb dX5_moveScene_88 ?_
                refine lv_istore (lv' := [(5, .int (zI (kx + stp))), (0, .ref (a 0)), (1, .int (zI y1)), (2, .int (zI y2)), (3, .int (zI ((O.idxOf y1 : Int)))), (4, .int (zI stp))]) hx hb dX5_moveScene_89 hl (by decide) rfl (fun ls hl => ?_)
                refine lv_goto (tgt := 57) hx hb dX5_moveScene_91 (by decide) ?_
                exact ih57 stp (kx + stp) (zU hc (2 + kx) (hc ((2 + kx) + stp))) (by omega) (by rw [hhc]; first | exact mvSF_u _ (by omega) (by omega) | exact mvSF_d _ (by omega) (by omega)) (by split <;> split at hm <;> omega) _ _ hW ls (lv_sub hl [1, 2, 3, 4, 5, 0] rfl)
          exact L57 ((((if 1 = 1 then y2 - ((O.idxOf y1 : Int)) else ((O.idxOf y1 : Int)) - y2)) : Int).toNat + 1) 1 ((O.idxOf y1 : Int)) (mm_all b) (by omega) (by exact (mvSF_0 _ _).symm) (by split <;> omega) _ _ hW ls (lv_sub hl [3, 4, 5, 2, 1, 0] rfl)
      · refine lv_bipush (v := zI (-5)) hx hb dX5_moveScene_35 (by decide +kernel) ?_
        exact z_iret (v := (-5)) hx hb hr hlk hW dX5_moveScene_37 (by
            exact ⟨(-5), mm_all b, mm_kept b, mm_his b, mm_hl b, mm_row b, mm_brk b, mm_nb b, mm_hold b, mm_mov b, mm_beh b, rfl, rfl, by exact ⟨_, _, Or.inr ⟨by omega, Or.inr ⟨by omega, Or.inl ⟨by omega, rfl, rfl, rfl⟩⟩⟩, RM_MR hM, hH⟩⟩)
    · refine lv_bipush (v := zI (-2)) hx hb dX5_moveScene_21 (by decide +kernel) ?_
      exact z_iret (v := (-2)) hx hb hr hlk hW dX5_moveScene_23 (by
          exact ⟨(-2), mm_all b, mm_kept b, mm_his b, mm_hl b, mm_row b, mm_brk b, mm_nb b, mm_hold b, mm_mov b, mm_beh b, rfl, rfl, by exact ⟨_, _, Or.inr ⟨by omega, Or.inl ⟨by omega, rfl, rfl, rfl⟩⟩, RM_MR hM, hH⟩⟩)
  · refine lv_iconst (v := zI (-1)) hx hb dX5_moveScene_7 rfl ?_
    exact z_iret (v := (-1)) hx hb hr hlk hW dX5_moveScene_8 (by
        exact ⟨(-1), mm_all b, mm_kept b, mm_his b, mm_hl b, mm_row b, mm_brk b, mm_nb b, mm_hold b, mm_mov b, mm_beh b, rfl, rfl, by exact ⟨_, _, Or.inl ⟨by omega, rfl, rfl, rfl⟩, RM_MR hM, hH⟩⟩)

abbrev qX5_time (cI : ClassId) (a : Nat → Nat) (b : zM2) (y1 y2 : Int) (L : List zPn) (O : List Int) (ev : Int) (hs : List zSt) : Option Value → List va_W → Prop := fun vq wq => ∃ (r : Int) (zall : Int → Int) (zkept : Int → Int) (zhis : Int → Int) (zhl : Int), vq = some (.int (zI r)) ∧ wq = [zMod2 cI a (mm_hl_ (mm_his_ (mm_kept_ (mm_all_ b zall) zkept) zhis) zhl)] ∧ (∃ (S2 : zSt) (hs2 : List zSt), timR (ordC L O) O ev hs y1 y2 r S2 hs2 ∧ MR zall S2 ∧ MH zhl zhis hs2)
set_option maxRecDepth 20000 in
theorem mX5_time_0 : (.constantLong RX5 164 (99) : Cond) ∈ wsX5_time := by decide +kernel
set_option maxRecDepth 20000 in
theorem iX5_time_X5 : ∀ w ∈ u_ws RX5 TX5 18, w ∈ wsX5_time := by decide +kernel
set_option maxRecDepth 20000 in
theorem mX5_time_2 : (.fieldLink RX5 7 "StoryPanelsModel" "all" "[I" : Cond) ∈ wsX5_time := by decide +kernel
set_option maxHeartbeats 4000000 in
set_option maxRecDepth 100000 in
theorem kX5_time (l : Launch) (D : va_G) (cI cB : ClassId) (a : Nat → Nat) (b : zM2) (y1 y2 : Int) (L : List zPn) (O : List Int) (ev : Int) (hs : List zSt) (hM : RM (mm_all b) L O ev) (hH : MH (mm_hl b) (mm_his b) hs) (hy1 : R32 y1) (hy2 : R32 y2) : zMet l yX5_time wsX5_time 2 44 0 0 D cI cB [.ref (a 0), .int (zI y1), .int (zI y2)] [zMod2 cI a b] (qX5_time cI a b y1 y2 L O ev hs) := by
  refine zMet.of (cd := cX5_time) (maxL := 5) (ret := (some .int)) (by decide) rfl (Nat.le_of_ble_eq_true rfl) ?_
  intro p e s m args below meth c A ls hS hr hlk hnm hK hA hW hl
  have hS : CallFix p m c cX5_time 5 s args wsX5_time RX5 := hS
  have hx := hS.1
  have hb := hS.2.1
  have hown := hS.2.2.2.1
  have hts := hS.2.2.2.2
  have hl : lv_has ls 5 [(0, .ref (a 0)), (1, .int (zI y1)), (2, .int (zI y2))] := hl
  have hM1 := hM.2.1
  have hM3 := hM.2.2.1
  have hln := ordC_ln hM
  have hM0 := hM.1
  have hM4 := hM.2.2.2.1
  refine lv_aload_n hx hb dX5_time_0 rfl (lv_at hl 0 rfl) ?_
  refine lv_iload_n hx hb dX5_time_1 rfl (lv_at hl 1 rfl) ?_
  refine z_callV (r := (RX5, TX5, 18)) (As := [.int (zI y1)]) (rest := []) hS hK hA hW hl.1 [0] [] (kX5_lieOf l D cI cB a b y1 L O ev ev hM (by omega)) (cwV 1 hts gX5_time_X5_lieOf rfl rfl rfl (by decide +kernel) ⟨Nat.le_of_ble_eq_true rfl, Nat.le_of_ble_eq_true rfl⟩) (rfl : vwCl[5]? = some (RX5, TX5, 18)) (q0 := 0) rfl dX5_time_2 rfl rfl rfl rfl rfl (Nat.le_of_ble_eq_true rfl) ⟨Nat.le_of_ble_eq_true rfl, Nat.le_of_ble_eq_true rfl⟩ (fun v9 w9 H locs hq hW => ?_)
  obtain ⟨rr_2, rfl, rfl, hh_2⟩ := hq
  have hW : zW D A s.heap [zMod2 cI a b] H locs := hW
  refine W.eq (g2 := F0 m 5 ls [.int (zI rr_2)]) rfl ?_
  have hlc : lieC L O (mm_all b) ev y1 rr_2 := lie_c hM hh_2
  have hlr := lieC_rg hlc hM3
  clear hh_2
  refine lv_istore_n (lv' := [(3, .int (zI rr_2)), (0, .ref (a 0)), (1, .int (zI y1)), (2, .int (zI y2))]) hx hb dX5_time_5 rfl hl (by decide) rfl (fun ls hl => ?_)
  refine lv_iload_n hx hb dX5_time_6 rfl (lv_at hl 0 rfl) ?_
  refine lv_bipush (v := zI (-5)) hx hb dX5_time_7 (by decide +kernel) ?_
  refine z_icmp_ne (tgt := 14) hx hb dX5_time_9 (by decide) (by omega) (fun cc_9 => ?_) (fun cc_9 => ?_)
  · obtain ⟨kq, jq, pq, ⟨hlq, hpx⟩, ⟨hkl, hrk⟩, hjp, hpo, hrw⟩ := lieC_yes hlc (by omega)
    have hp1 := hpo.1.1
    have hp2 := hpo.1.2.1
    have hp3 := hpo.1.2.2.1
    have hp4 := hpo.1.2.2.2.1
    refine lv_iload_n hx hb dX5_time_14 rfl (lv_at hl 3 rfl) ?_
    refine z_i2l hx hb dX5_time_15 (by omega) ?_
    refine z_lconst hx hb dX5_time_16 ?_
    refine z_ldc2 (n := 99) hx hb hown (hts _ mX5_time_0) (by decide) dX5_time_17 ?_
    refine z_callS (As := [.long (zL y2), .long (zL 1), .long (zL 99)]) (rest := []) hS hK hA hW hl.1 [] [0] (kX5_in l D cI cB y2 1 99 (by omega) (by omega) (by omega)) (va_cwS 3 hts gX5_time_X5_in rfl rfl rfl (by decide +kernel) ⟨Nat.le_of_ble_eq_true rfl, Nat.le_of_ble_eq_true rfl⟩) dX5_time_20 rfl rfl rfl rfl rfl (Nat.le_of_ble_eq_true rfl) ⟨Nat.le_of_ble_eq_true rfl, Nat.le_of_ble_eq_true rfl⟩ (fun v9 w9 H locs hq hW => ?_)
    obtain ⟨rr_20, rfl, rfl, hh_20⟩ := hq
    have hW : zW D A s.heap [zMod2 cI a b] H locs := hW
    refine W.eq (g2 := F0 m 23 ls [.int (zI rr_20)]) rfl ?_
    refine z_if_ne (tgt := 29) hx hb dX5_time_23 (by decide) (by omega) (fun cc_23 => ?_) (fun cc_23 => ?_)
    · refine lv_aload_n hx hb dX5_time_29 rfl (lv_at hl 1 rfl) ?_
      refine lv_iload_n hx hb dX5_time_30 rfl (lv_at hl 0 rfl) ?_
      refine lv_iconst (v := zI (2)) hx hb dX5_time_31 rfl ?_
      refine z_callV (r := (RX5, TX5, 18)) (As := [.int (zI rr_2), .int (zI 2)]) (rest := []) hS hK hA hW hl.1 [0] [] (kX5_of l D cI cB a b rr_2 2 (by omega) (by omega)) (cwV 2 hts gX5_time_X5_of rfl rfl rfl (by decide +kernel) ⟨Nat.le_of_ble_eq_true rfl, Nat.le_of_ble_eq_true rfl⟩) (rfl : vwCl[5]? = some (RX5, TX5, 18)) (q0 := 0) rfl dX5_time_32 rfl rfl rfl rfl rfl (Nat.le_of_ble_eq_true rfl) ⟨Nat.le_of_ble_eq_true rfl, Nat.le_of_ble_eq_true rfl⟩ (fun v9 w9 H locs hq hW => ?_)
      obtain ⟨rr_32, rfl, rfl, hh_32⟩ := hq
      subst rr_32
      have hW : zW D A s.heap [zMod2 cI a b] H locs := hW
      refine W.eq (g2 := F0 m 35 ls [.int (zI (fL (mm_all b) rr_2 2))]) rfl ?_
      rw [show (fL (mm_all b) rr_2 2) = pq.2.2.1 by exact (by rw [hrk]; exact hrw.2.2.1)]
      refine lv_istore (lv' := [(4, .int (zI pq.2.2.1)), (3, .int (zI rr_2)), (0, .ref (a 0)), (1, .int (zI y1)), (2, .int (zI y2))]) hx hb dX5_time_35 hl (by decide) rfl (fun ls hl => ?_)
      refine lv_iload hx hb dX5_time_37 (lv_at hl 0 rfl) ?_
      refine lv_iload_n hx hb dX5_time_39 rfl (lv_at hl 4 rfl) ?_
      refine z_icmp_ne (tgt := 46) hx hb dX5_time_40 (by decide) (by omega) (fun cc_40 => ?_) (fun cc_40 => ?_)
      · refine lv_aload_n hx hb dX5_time_46 rfl (lv_at hl 2 rfl) ?_
        refine z_callV (r := (RX5, TX5, 18)) (As := []) (rest := []) hS hK hA hW hl.1 [0] [] (kX5_remember l D cI cB a b L O ev hM) (cwV 0 hts gX5_time_X5_remember rfl rfl rfl (by decide +kernel) ⟨Nat.le_of_ble_eq_true rfl, Nat.le_of_ble_eq_true rfl⟩) (rfl : vwCl[5]? = some (RX5, TX5, 18)) (q0 := 0) rfl dX5_time_47 rfl rfl rfl rfl rfl (Nat.le_of_ble_eq_true rfl) ⟨Nat.le_of_ble_eq_true rfl, Nat.le_of_ble_eq_true rfl⟩ (fun v9 w9 H locs hq hW => ?_)
        obtain ⟨zkept_47, rfl, rfl, hh_47⟩ := hq
        have hW : zW D A s.heap [zMod2 cI a (mm_kept_ b (zkept_47))] H locs := hW
        refine W.eq (g2 := F0 m 50 ls []) rfl ?_
        refine lv_aload_n hx hb dX5_time_50 rfl (lv_at hl 2 rfl) ?_
        refine va_get (D := D) (ci := 5) (v := .ref (a 1)) (C := RX5) (T := TX5) (N := 18) hx hb hts iX5_time_X5 hown hK.1 hW.1 0 rfl rfl 0 (by decide) (hts _ mX5_time_2) (fun _ h9 => h9) rfl dX5_time_51 ?_
        refine lv_bipush (v := zI (7)) hx hb dX5_time_54 (by decide +kernel) ?_
        refine lv_bipush (v := zI (22)) hx hb dX5_time_56 (by decide +kernel) ?_
        refine lv_iload_n hx hb dX5_time_58 rfl (lv_at hl 1 rfl) ?_
        refine z_imul hx hb dX5_time_59 ?_
        refine z_iadd hx hb dX5_time_60 ?_
        refine lv_iconst (v := zI (2)) hx hb dX5_time_61 rfl ?_
        refine z_iadd hx hb dX5_time_62 ?_
        refine lv_iload_n hx hb dX5_time_63 rfl (lv_at hl 4 rfl) ?_
        refine z_iast (n := 227) (g := mm_all b) (bs1 := [zMod2 cI a (mm_kept_ (mm_all_ b (zU (mm_all b) ((7 + (22 * rr_2)) + 2) y2)) (zkept_47))]) hx hb hK hW 1 rfl dX5_time_64 (by omega) rfl (fun H locs hW => ?_)
        refine lv_aload_n hx hb dX5_time_65 rfl (lv_at hl 2 rfl) ?_
        refine lv_iload hx hb dX5_time_66 (lv_at hl 0 rfl) ?_
        refine z_callV (r := (RX5, TX5, 18)) (As := [.int (zI pq.2.2.1)]) (rest := []) hS hK hA hW hl.1 [0] [] (kX5_acted l D cI cB a ((mm_kept_ (mm_all_ b (zU (mm_all b) ((7 + (22 * rr_2)) + 2) y2)) (zkept_47))) pq.2.2.1 hs ((ordC L O, O, ev)) hH hh_47 (by omega)) (cwV 1 hts gX5_time_X5_acted rfl rfl rfl (by decide +kernel) ⟨Nat.le_of_ble_eq_true rfl, Nat.le_of_ble_eq_true rfl⟩) (rfl : vwCl[5]? = some (RX5, TX5, 18)) (q0 := 0) rfl dX5_time_68 rfl rfl rfl rfl rfl (Nat.le_of_ble_eq_true rfl) ⟨Nat.le_of_ble_eq_true rfl, Nat.le_of_ble_eq_true rfl⟩ (fun v9 w9 H locs hq hW => ?_)
        obtain ⟨rr_68, zhis_68, zhl_68, rfl, rfl, hh_68⟩ := hq
        have hW : zW D A s.heap [zMod2 cI a (mm_hl_ (mm_his_ (mm_kept_ (mm_all_ b (zU (mm_all b) ((7 + (22 * rr_2)) + 2) y2)) (zkept_47)) (zhis_68)) (zhl_68))] H locs := hW
        refine W.eq (g2 := F0 m 71 ls [.int (zI rr_68)]) rfl ?_
        have hHz := hh_68.2
        rw [show rr_68 = pq.2.2.1 by exact hh_68.1]
        exact z_iret (v := pq.2.2.1) hx hb hr hlk hW dX5_time_71 (by
            exact ⟨pq.2.2.1, zU (mm_all b) ((7 + (22 * rr_2)) + 2) y2, zkept_47, zhis_68, zhl_68, rfl, rfl, by exact ⟨_, _, Or.inr ⟨jq, pq, hjp, Or.inr ⟨by omega, Or.inr ⟨by omega, rfl, rfl, rfl⟩⟩⟩, ⟨L.set kq (pq.1, pq.2.1, y2, pq.2.2.2), RM_set hM hlq.1 (by omega) (by rw [hrk]), (hlq.2.2.2.2 (pq.1, pq.2.1, y2, pq.2.2.2) rfl).symm⟩, hHz⟩⟩)
      · refine lv_bipush (v := zI (-5)) hx hb dX5_time_43 (by decide +kernel) ?_
        exact z_iret (v := (-5)) hx hb hr hlk hW dX5_time_45 (by
            exact ⟨(-5), mm_all b, mm_kept b, mm_his b, mm_hl b, rfl, rfl, by exact ⟨_, _, Or.inr ⟨jq, pq, hjp, Or.inr ⟨by omega, Or.inl ⟨by omega, rfl, rfl, rfl⟩⟩⟩, RM_MR hM, hH⟩⟩)
    · refine lv_bipush (v := zI (-2)) hx hb dX5_time_26 (by decide +kernel) ?_
      exact z_iret (v := (-2)) hx hb hr hlk hW dX5_time_28 (by
          exact ⟨(-2), mm_all b, mm_kept b, mm_his b, mm_hl b, rfl, rfl, by exact ⟨_, _, Or.inr ⟨jq, pq, hjp, Or.inl ⟨by omega, rfl, rfl, rfl⟩⟩, RM_MR hM, hH⟩⟩)
  · have hnp := lieC_no hlc (by omega)
    refine lv_iconst (v := zI (-1)) hx hb dX5_time_12 rfl ?_
    exact z_iret (v := (-1)) hx hb hr hlk hW dX5_time_13 (by
        exact ⟨(-1), mm_all b, mm_kept b, mm_his b, mm_hl b, rfl, rfl, by exact ⟨_, _, Or.inl ⟨hnp, rfl, rfl, rfl⟩, RM_MR hM, hH⟩⟩)

abbrev qX5_mendsOnce (cI : ClassId) (a : Nat → Nat) (b : zM2) (y1 : Int) (L : List zPn) (O : List Int) (ev : Int) : Option Value → List va_W → Prop := fun vq wq => ∃ (r : Int) (zall : Int → Int) (ztri : Int → Int) (zout : Int → Int) (zrow : Int → Int) (zbrk : Int → Int) (znb : Int) (zhold : Int → Int) (zmov : Int → Int) (zbeh : Int → Int), vq = some (.int (zI r)) ∧ wq = [zMod2 cI a (mm_beh_ (mm_mov_ (mm_hold_ (mm_nb_ (mm_brk_ (mm_row_ (mm_out_ (mm_tri_ (mm_all_ b zall) ztri) zout) zrow) zbrk) znb) zhold) zmov) zbeh)] ∧ ((r = 0 ∧ noM (ordC L O) O y1 ∧ RM zall L O ev) ∨ (r = 1 ∧ ∃ L2 : List zPn, RM zall L2 O ev ∧ oneM (ordC L O) O y1 (ordC L2 O)))
set_option maxRecDepth 20000 in
theorem iX5_mendsOnce_X5 : ∀ w ∈ u_ws RX5 TX5 18, w ∈ wsX5_mendsOnce := by decide +kernel
set_option maxRecDepth 20000 in
theorem mX5_mendsOnce_1 : (.fieldLink RX5 7 "StoryPanelsModel" "all" "[I" : Cond) ∈ wsX5_mendsOnce := by decide +kernel
set_option maxHeartbeats 4000000 in
set_option maxRecDepth 100000 in
theorem kX5_mendsOnce (l : Launch) (D : va_G) (cI cB : ClassId) (a : Nat → Nat) (b : zM2) (y1 : Int) (L : List zPn) (O : List Int) (ev : Int) (hM : RM (mm_all b) L O ev) (hy1 : 0 ≤ y1 ∧ y1 < 5) : zMet l yX5_mendsOnce wsX5_mendsOnce 8 187 0 0 D cI cB [.ref (a 0), .int (zI y1)] [zMod2 cI a b] (qX5_mendsOnce cI a b y1 L O ev) := by
  refine zMet.of (cd := cX5_mendsOnce) (maxL := 6) (ret := (some .boolean)) (by decide) rfl (Nat.le_of_ble_eq_true rfl) ?_
  intro p e s m args below meth c A ls hS hr hlk hnm hK hA hW hl
  have hS : CallFix p m c cX5_mendsOnce 6 s args wsX5_mendsOnce RX5 := hS
  have hx := hS.1
  have hb := hS.2.1
  have hown := hS.2.2.2.1
  have hts := hS.2.2.2.2
  have hl : lv_has ls 6 [(0, .ref (a 0)), (1, .int (zI y1))] := hl
  have hM4 := hM.2.2.2.1
  have hrg := nbC_rgM hM
  have hM3 := hM.2.2.1
  refine lv_aload_n hx hb dX5_mendsOnce_0 rfl (lv_at hl 0 rfl) ?_
  refine z_callV (r := (RX5, TX5, 18)) (As := []) (rest := []) hS hK hA hW hl.1 [0] [] (kX5_breaksNow l D cI cB a b L O ev ev hM) (cwV 0 hts gX5_mendsOnce_X5_breaksNow rfl rfl rfl (by decide +kernel) ⟨Nat.le_of_ble_eq_true rfl, Nat.le_of_ble_eq_true rfl⟩) (rfl : vwCl[5]? = some (RX5, TX5, 18)) (q0 := 0) rfl dX5_mendsOnce_1 rfl rfl rfl rfl rfl (Nat.le_of_ble_eq_true rfl) ⟨Nat.le_of_ble_eq_true rfl, Nat.le_of_ble_eq_true rfl⟩ (fun v9 w9 H locs hq hW => ?_)
  obtain ⟨rr_1, zrow_1, zbrk_1, znb_1, zhold_1, zmov_1, zbeh_1, rfl, rfl, hh_1⟩ := hq
  have hW : zW D A s.heap [zMod2 cI a (mm_beh_ (mm_mov_ (mm_hold_ (mm_nb_ (mm_brk_ (mm_row_ b (zrow_1)) (zbrk_1)) (znb_1)) (zhold_1)) (zmov_1)) (zbeh_1))] H locs := hW
  refine W.eq (g2 := F0 m 4 ls [.int (zI rr_1)]) rfl ?_
  rw [show rr_1 = (nbC (ordC L O)) by exact hh_1]
  refine lv_istore_n (lv' := [(2, .int (zI (nbC (ordC L O)))), (0, .ref (a 0)), (1, .int (zI y1))]) hx hb dX5_mendsOnce_4 rfl hl (by decide) rfl (fun ls hl => ?_)
  refine lv_iconst (v := zI (0)) hx hb dX5_mendsOnce_5 rfl ?_
  refine lv_istore_n (lv' := [(3, .int (zI 0)), (2, .int (zI (nbC (ordC L O)))), (0, .ref (a 0)), (1, .int (zI y1))]) hx hb dX5_mendsOnce_6 rfl hl (by decide) rfl (fun ls hl => ?_)
  have L7 : ∀ (fu : Nat) (kn : Int) (all9 : Int → Int) (tri9 : Int → Int) (out9 : Int → Int) (row9 : Int → Int) (nb9 : Int) (brk9 : Int → Int) (hold9 : Int → Int) (mov9 : Int → Int) (beh9 : Int → Int), (0 ≤ kn ∧ kn ≤ 99) → (RM all9 L O ev) → (thruM (ordC L O) O y1 kn) → (99 - kn) < (fu : Int) → ∀ (H : Heap) (locs : List Loc), zW D A s.heap [zMod2 cI a (mm_beh_ (mm_mov_ (mm_hold_ (mm_nb_ (mm_brk_ (mm_row_ (mm_out_ (mm_tri_ (mm_all_ b (all9)) (tri9)) (out9)) (row9)) (brk9)) (nb9)) (hold9)) (mov9)) (beh9))] H locs → ∀ (ls : Array Slot), lv_has ls 6 [(0, .ref (a 0)), (1, .int (zI y1)), (2, .int (zI (nbC (ordC L O)))), (3, .int (zI kn))] → W p l e { frames := 8, cells := 0, slots := 0, locals := 187 } s m args below meth c H locs 0 0 (MQ below (zQ A D (qX5_mendsOnce cI a b y1 L O ev)) args s 0 0 A) (F0 m 7 ls []) := by
    intro fu
    induction fu with
    | zero => intro kn all9 tri9 out9 row9 nb9 brk9 hold9 mov9 beh9 hkn hM9 hth hm; exact absurd hm (by omega)
    | succ fu ih7 =>
      intro kn all9 tri9 out9 row9 nb9 brk9 hold9 mov9 beh9 hkn hM9 hth hm H locs hW ls hl
      have h90 := hM9.1
      refine lv_iload_n hx hb dX5_mendsOnce_7 rfl (lv_at hl 3 rfl) ?_
      refine lv_aload_n hx hb dX5_mendsOnce_8 rfl (lv_at hl 0 rfl) ?_
      refine va_get (D := D) (ci := 5) (v := .ref (a 1)) (C := RX5) (T := TX5) (N := 18) hx hb hts iX5_mendsOnce_X5 hown hK.1 hW.1 0 rfl rfl 0 (by decide) (hts _ mX5_mendsOnce_1) (fun _ h9 => h9) rfl dX5_mendsOnce_9 ?_
      refine lv_iconst (v := zI (0)) hx hb dX5_mendsOnce_12 rfl ?_
      refine z_iald (n := 227) (g := all9) hx hb hK hW 1 rfl dX5_mendsOnce_13 (by omega) ?_
      refine z_icmp_ge (tgt := 78) hx hb dX5_mendsOnce_14 (by decide) (by omega) (fun cc_14 => ?_) (fun cc_14 => ?_)
      · refine lv_iconst (v := zI (0)) hx hb dX5_mendsOnce_78 rfl ?_
        exact z_zret (v := 0) hx hb hr hlk hW dX5_mendsOnce_79 (by omega) (by
            exact ⟨0, all9, tri9, out9, row9, brk9, nb9, hold9, mov9, beh9, rfl, rfl, by exact Or.inl ⟨rfl, thru_all hM (by omega) hth, hM9⟩⟩)
      · refine lv_aload_n hx hb dX5_mendsOnce_17 rfl (lv_at hl 0 rfl) ?_
        refine lv_iload_n hx hb dX5_mendsOnce_18 rfl (lv_at hl 3 rfl) ?_
        refine z_callV (r := (RX5, TX5, 18)) (As := [.int (zI kn)]) (rest := []) hS hK hA hW hl.1 [0] [] (kX5_lieOf l D cI cB a ((mm_beh_ (mm_mov_ (mm_hold_ (mm_nb_ (mm_brk_ (mm_row_ (mm_out_ (mm_tri_ (mm_all_ b (all9)) (tri9)) (out9)) (row9)) (brk9)) (nb9)) (hold9)) (mov9)) (beh9))) kn L O ev ev hM9 (by omega)) (cwV 1 hts gX5_mendsOnce_X5_lieOf rfl rfl rfl (by decide +kernel) ⟨Nat.le_of_ble_eq_true rfl, Nat.le_of_ble_eq_true rfl⟩) (rfl : vwCl[5]? = some (RX5, TX5, 18)) (q0 := 0) rfl dX5_mendsOnce_19 rfl rfl rfl rfl rfl (Nat.le_of_ble_eq_true rfl) ⟨Nat.le_of_ble_eq_true rfl, Nat.le_of_ble_eq_true rfl⟩ (fun v9 w9 H locs hq hW => ?_)
        obtain ⟨rr_19, rfl, rfl, hh_19⟩ := hq
        have hW : zW D A s.heap [zMod2 cI a (mm_beh_ (mm_mov_ (mm_hold_ (mm_nb_ (mm_brk_ (mm_row_ (mm_out_ (mm_tri_ (mm_all_ b (all9)) (tri9)) (out9)) (row9)) (brk9)) (nb9)) (hold9)) (mov9)) (beh9))] H locs := hW
        refine W.eq (g2 := F0 m 22 ls [.int (zI rr_19)]) rfl ?_
        have hlc : lieC L O all9 ev kn rr_19 := lie_c hM9 hh_19
        have hlr := lieC_rg hlc hM3
        clear hh_19
        refine lv_istore (lv' := [(4, .int (zI rr_19)), (0, .ref (a 0)), (1, .int (zI y1)), (2, .int (zI (nbC (ordC L O)))), (3, .int (zI kn))]) hx hb dX5_mendsOnce_22 hl (by decide) rfl (fun ls hl => ?_)
        refine lv_iload hx hb dX5_mendsOnce_24 (lv_at hl 0 rfl) ?_
        refine lv_bipush (v := zI (-5)) hx hb dX5_mendsOnce_26 (by decide +kernel) ?_
        refine z_icmp_eq (tgt := 72) hx hb dX5_mendsOnce_28 (by decide) (by omega) (fun cc_28 => ?_) (fun cc_28 => ?_)
        · refine z_iinc (x := kn) (lv' := [(3, .int (zI (kn + 1))), (4, .int (zI rr_19)), (0, .ref (a 0)), (1, .int (zI y1)), (2, .int (zI (nbC (ordC L O))))]) hx hb dX5_mendsOnce_72 hl (k := 4) rfl (by decide) rfl (fun ls hl => ?_)
          refine lv_goto (tgt := 7) hx hb dX5_mendsOnce_75 (by decide) ?_
          exact ih7 (kn + 1) all9 tri9 out9 row9 nb9 brk9 hold9 mov9 beh9 (by omega) (by first | exact hM6 | exact hM9) (by first | exact thruM_none hth (lieC_no hlc (by omega)) | exact thru_one (ordC_nd hM) hth hjp (fun _ => bestC_no (by first | exact cc_59 | omega)) | exact thru_one (ordC_nd hM) hth hjp (fun hq => absurd hq (by omega))) (by omega) _ _ hW ls (lv_sub hl [2, 3, 4, 0] rfl)
        · obtain ⟨kq, jq, pq, ⟨hlq, hpx⟩, ⟨hkl, hrk⟩, hjp, hpo, hrw⟩ := lieC_yes hlc (by omega)
          have hp2 := hpo.1.2.1
          refine lv_aload_n hx hb dX5_mendsOnce_31 rfl (lv_at hl 1 rfl) ?_
          refine lv_iload hx hb dX5_mendsOnce_32 (lv_at hl 0 rfl) ?_
          refine lv_iconst (v := zI (1)) hx hb dX5_mendsOnce_34 rfl ?_
          refine z_callV (r := (RX5, TX5, 18)) (As := [.int (zI rr_19), .int (zI 1)]) (rest := []) hS hK hA hW hl.1 [0] [] (kX5_of l D cI cB a ((mm_beh_ (mm_mov_ (mm_hold_ (mm_nb_ (mm_brk_ (mm_row_ (mm_out_ (mm_tri_ (mm_all_ b (all9)) (tri9)) (out9)) (row9)) (brk9)) (nb9)) (hold9)) (mov9)) (beh9))) rr_19 1 (by omega) (by omega)) (cwV 2 hts gX5_mendsOnce_X5_of rfl rfl rfl (by decide +kernel) ⟨Nat.le_of_ble_eq_true rfl, Nat.le_of_ble_eq_true rfl⟩) (rfl : vwCl[5]? = some (RX5, TX5, 18)) (q0 := 0) rfl dX5_mendsOnce_35 rfl rfl rfl rfl rfl (Nat.le_of_ble_eq_true rfl) ⟨Nat.le_of_ble_eq_true rfl, Nat.le_of_ble_eq_true rfl⟩ (fun v9 w9 H locs hq hW => ?_)
          obtain ⟨rr_35, rfl, rfl, hh_35⟩ := hq
          subst rr_35
          have hW : zW D A s.heap [zMod2 cI a (mm_beh_ (mm_mov_ (mm_hold_ (mm_nb_ (mm_brk_ (mm_row_ (mm_out_ (mm_tri_ (mm_all_ b (all9)) (tri9)) (out9)) (row9)) (brk9)) (nb9)) (hold9)) (mov9)) (beh9))] H locs := hW
          refine W.eq (g2 := F0 m 38 ls [.int (zI (fL (mm_all ((mm_beh_ (mm_mov_ (mm_hold_ (mm_nb_ (mm_brk_ (mm_row_ (mm_out_ (mm_tri_ (mm_all_ b (all9)) (tri9)) (out9)) (row9)) (brk9)) (nb9)) (hold9)) (mov9)) (beh9)))) rr_19 1))]) rfl ?_
          rw [show (fL (mm_all ((mm_beh_ (mm_mov_ (mm_hold_ (mm_nb_ (mm_brk_ (mm_row_ (mm_out_ (mm_tri_ (mm_all_ b (all9)) (tri9)) (out9)) (row9)) (brk9)) (nb9)) (hold9)) (mov9)) (beh9)))) rr_19 1) = pq.2.1 by exact (by rw [hrk]; exact hrw.2.1)]
          refine lv_iload_n hx hb dX5_mendsOnce_38 rfl (lv_at hl 2 rfl) ?_
          refine z_icmp_ne (tgt := 72) hx hb dX5_mendsOnce_39 (by decide) (by omega) (fun cc_39 => ?_) (fun cc_39 => ?_)
          · refine z_iinc (x := kn) (lv' := [(3, .int (zI (kn + 1))), (4, .int (zI rr_19)), (0, .ref (a 0)), (1, .int (zI y1)), (2, .int (zI (nbC (ordC L O))))]) hx hb dX5_mendsOnce_72 hl (k := 4) rfl (by decide) rfl (fun ls hl => ?_)
            refine lv_goto (tgt := 7) hx hb dX5_mendsOnce_75 (by decide) ?_
            exact ih7 (kn + 1) all9 tri9 out9 row9 nb9 brk9 hold9 mov9 beh9 (by omega) (by first | exact hM6 | exact hM9) (by first | exact thruM_none hth (lieC_no hlc (by omega)) | exact thru_one (ordC_nd hM) hth hjp (fun _ => bestC_no (by first | exact cc_59 | omega)) | exact thru_one (ordC_nd hM) hth hjp (fun hq => absurd hq (by omega))) (by omega) _ _ hW ls (lv_sub hl [2, 3, 4, 0] rfl)
          · refine lv_aload_n hx hb dX5_mendsOnce_42 rfl (lv_at hl 1 rfl) ?_
            refine lv_iload_n hx hb dX5_mendsOnce_43 rfl (lv_at hl 4 rfl) ?_
            refine lv_iload_n hx hb dX5_mendsOnce_44 rfl (lv_at hl 2 rfl) ?_
            refine z_callV (r := (RX5, TX5, 18)) (As := [.int (zI kn), .int (zI y1)]) (rest := []) hS hK hA hW hl.1 [0] [] (kX5_bestPlaceOf l D cI cB a ((mm_beh_ (mm_mov_ (mm_hold_ (mm_nb_ (mm_brk_ (mm_row_ (mm_out_ (mm_tri_ (mm_all_ b (all9)) (tri9)) (out9)) (row9)) (brk9)) (nb9)) (hold9)) (mov9)) (beh9))) kn y1 L O ev jq pq hM9 hjp (by omega) hy1) (cwV 2 hts gX5_mendsOnce_X5_bestPlaceOf rfl rfl rfl (by decide +kernel) ⟨Nat.le_of_ble_eq_true rfl, Nat.le_of_ble_eq_true rfl⟩) (rfl : vwCl[5]? = some (RX5, TX5, 18)) (q0 := 0) rfl dX5_mendsOnce_45 rfl rfl rfl rfl rfl (Nat.le_of_ble_eq_true rfl) ⟨Nat.le_of_ble_eq_true rfl, Nat.le_of_ble_eq_true rfl⟩ (fun v9 w9 H locs hq hW => ?_)
            obtain ⟨rr_45, zall_45, ztri_45, zout_45, zrow_45, zbrk_45, znb_45, zhold_45, zmov_45, zbeh_45, rfl, rfl, hh_45⟩ := hq
            have hW : zW D A s.heap [zMod2 cI a (mm_beh_ (mm_mov_ (mm_hold_ (mm_nb_ (mm_brk_ (mm_row_ (mm_out_ (mm_tri_ (mm_all_ b (zall_45)) (ztri_45)) (zout_45)) (zrow_45)) (zbrk_45)) (znb_45)) (zhold_45)) (zmov_45)) (zbeh_45))] H locs := hW
            refine W.eq (g2 := F0 m 48 ls [.int (zI rr_45)]) rfl ?_
            have hM5 := hh_45.2
            have hbr := bestC_rg (pO := O) (p := pq) (inC_er0 (ordC L O) jq y1)
            have hin := inC_tk ((ordC L O).eraseIdx jq) 0 y1
            have hej : ((ordC L O).eraseIdx jq).length ≤ (ordC L O).length := List.length_eraseIdx_le ..
            have hln := ordC_ln hM
            rw [show rr_45 = (bestC (ordC L O) O jq pq y1) by exact hh_45.1]
            refine lv_istore (lv' := [(5, .int (zI (bestC (ordC L O) O jq pq y1))), (4, .int (zI rr_19)), (0, .ref (a 0)), (1, .int (zI y1)), (2, .int (zI (nbC (ordC L O)))), (3, .int (zI kn))]) hx hb dX5_mendsOnce_48 hl (by decide) rfl (fun ls hl => ?_)
            refine lv_aload_n hx hb dX5_mendsOnce_50 rfl (lv_at hl 2 rfl) ?_
            refine lv_iload_n hx hb dX5_mendsOnce_51 rfl (lv_at hl 5 rfl) ?_
            refine lv_iload_n hx hb dX5_mendsOnce_52 rfl (lv_at hl 3 rfl) ?_
            refine lv_iload hx hb dX5_mendsOnce_53 (lv_at hl 0 rfl) ?_
            refine z_callV (r := (RX5, TX5, 18)) (As := [.int (zI kn), .int (zI y1), .int (zI (bestC (ordC L O) O jq pq y1))]) (rest := []) hS hK hA hW hl.1 [0] [] (kX5_breaksIfMoved l D cI cB a ((mm_beh_ (mm_mov_ (mm_hold_ (mm_nb_ (mm_brk_ (mm_row_ (mm_out_ (mm_tri_ (mm_all_ b (zall_45)) (ztri_45)) (zout_45)) (zrow_45)) (zbrk_45)) (znb_45)) (zhold_45)) (zmov_45)) (zbeh_45))) kn y1 (bestC (ordC L O) O jq pq y1) L O ev jq pq hM5 hjp (by omega) hy1 hbr) (cwV 3 hts gX5_mendsOnce_X5_breaksIfMoved rfl rfl rfl (by decide +kernel) ⟨Nat.le_of_ble_eq_true rfl, Nat.le_of_ble_eq_true rfl⟩) (rfl : vwCl[5]? = some (RX5, TX5, 18)) (q0 := 0) rfl dX5_mendsOnce_55 rfl rfl rfl rfl rfl (Nat.le_of_ble_eq_true rfl) ⟨Nat.le_of_ble_eq_true rfl, Nat.le_of_ble_eq_true rfl⟩ (fun v9 w9 H locs hq hW => ?_)
            obtain ⟨rr_55, zall_55, ztri_55, zout_55, zrow_55, zbrk_55, znb_55, zhold_55, zmov_55, zbeh_55, rfl, rfl, hh_55⟩ := hq
            have hW : zW D A s.heap [zMod2 cI a (mm_beh_ (mm_mov_ (mm_hold_ (mm_nb_ (mm_brk_ (mm_row_ (mm_out_ (mm_tri_ (mm_all_ b (zall_55)) (ztri_55)) (zout_55)) (zrow_55)) (zbrk_55)) (znb_55)) (zhold_55)) (zmov_55)) (zbeh_55))] H locs := hW
            refine W.eq (g2 := F0 m 58 ls [.int (zI rr_55)]) rfl ?_
            have hM6 := hh_55.2.1
            have hr6 := hh_55.2.2
            rw [show rr_55 = (nbM (ordC L O) O jq pq y1 (bestC (ordC L O) O jq pq y1)) by exact hh_55.1]
            refine lv_iload_n hx hb dX5_mendsOnce_58 rfl (lv_at hl 4 rfl) ?_
            refine z_icmp_ge (tgt := 72) hx hb dX5_mendsOnce_59 (by decide) (by (rw [hh_55.1] at hr6; omega)) (fun cc_59 => ?_) (fun cc_59 => ?_)
            · refine z_iinc (x := kn) (lv' := [(3, .int (zI (kn + 1))), (5, .int (zI (bestC (ordC L O) O jq pq y1))), (4, .int (zI rr_19)), (0, .ref (a 0)), (1, .int (zI y1)), (2, .int (zI (nbC (ordC L O))))]) hx hb dX5_mendsOnce_72 hl (k := 5) rfl (by decide) rfl (fun ls hl => ?_)
              refine lv_goto (tgt := 7) hx hb dX5_mendsOnce_75 (by decide) ?_
              exact ih7 (kn + 1) zall_55 ztri_55 zout_55 zrow_55 znb_55 zbrk_55 zhold_55 zmov_55 zbeh_55 (by omega) (by first | exact hM6 | exact hM9) (by first | exact thruM_none hth (lieC_no hlc (by omega)) | exact thru_one (ordC_nd hM) hth hjp (fun _ => bestC_no (by first | exact cc_59 | omega)) | exact thru_one (ordC_nd hM) hth hjp (fun hq => absurd hq (by omega))) (by omega) _ _ hW ls (lv_sub hl [3, 4, 5, 0] rfl)
            · refine lv_aload_n hx hb dX5_mendsOnce_62 rfl (lv_at hl 2 rfl) ?_
              refine lv_iload_n hx hb dX5_mendsOnce_63 rfl (lv_at hl 5 rfl) ?_
              refine lv_iload_n hx hb dX5_mendsOnce_64 rfl (lv_at hl 3 rfl) ?_
              refine lv_iload hx hb dX5_mendsOnce_65 (lv_at hl 0 rfl) ?_
              refine z_callV (r := (RX5, TX5, 18)) (As := [.int (zI kn), .int (zI y1), .int (zI (bestC (ordC L O) O jq pq y1))]) (rest := []) hS hK hA hW hl.1 [0] [] (kX5_moves l D cI cB a ((mm_beh_ (mm_mov_ (mm_hold_ (mm_nb_ (mm_brk_ (mm_row_ (mm_out_ (mm_tri_ (mm_all_ b (zall_55)) (ztri_55)) (zout_55)) (zrow_55)) (zbrk_55)) (znb_55)) (zhold_55)) (zmov_55)) (zbeh_55))) kn y1 (bestC (ordC L O) O jq pq y1) L O ev jq pq hM6 hjp (by omega) hy1 hbr) (cwV 3 hts gX5_mendsOnce_X5_moves rfl rfl rfl (by decide +kernel) ⟨Nat.le_of_ble_eq_true rfl, Nat.le_of_ble_eq_true rfl⟩) (rfl : vwCl[5]? = some (RX5, TX5, 18)) (q0 := 0) rfl dX5_mendsOnce_67 rfl rfl rfl rfl rfl (Nat.le_of_ble_eq_true rfl) ⟨Nat.le_of_ble_eq_true rfl, Nat.le_of_ble_eq_true rfl⟩ (fun v9 w9 H locs hq hW => ?_)
              obtain ⟨zall_67, zout_67, rfl, rfl, hh_67⟩ := hq
              have hW : zW D A s.heap [zMod2 cI a (mm_beh_ (mm_mov_ (mm_hold_ (mm_nb_ (mm_brk_ (mm_row_ (mm_out_ (mm_tri_ (mm_all_ b (zall_67)) (ztri_55)) (zout_67)) (zrow_55)) (zbrk_55)) (znb_55)) (zhold_55)) (zmov_55)) (zbeh_55))] H locs := hW
              refine W.eq (g2 := F0 m 70 ls []) rfl ?_
              obtain ⟨L2, hM7, he7⟩ := hh_67
              refine lv_iconst (v := zI (1)) hx hb dX5_mendsOnce_70 rfl ?_
              exact z_zret (v := 1) hx hb hr hlk hW dX5_mendsOnce_71 (by omega) (by
                  exact ⟨1, zall_67, ztri_55, zout_67, zrow_55, zbrk_55, znb_55, zhold_55, zmov_55, zbeh_55, rfl, rfl, by exact Or.inr ⟨rfl, L2, hM7, jq, pq, hjp.1, by omega, bestC_can (by first | exact cc_59 | omega) (inC_er0 _ _ _), (by rw [hpx]; exact hth), he7⟩⟩)
  exact L7 (((99 - 0) : Int).toNat + 1) 0 (mm_all b) (mm_tri b) (mm_out b) zrow_1 znb_1 zbrk_1 zhold_1 zmov_1 zbeh_1 (by omega) (by exact hM) (by exact thru_0 hM) (by omega) _ _ hW ls (lv_sub hl [2, 3, 1, 0] rfl)

abbrev qX5_mend (cI : ClassId) (a : Nat → Nat) (b : zM2) (y1 : Int) (L : List zPn) (O : List Int) (ev : Int) (hs : List zSt) : Option Value → List va_W → Prop := fun vq wq => ∃ (r : Int) (zall : Int → Int) (zkept : Int → Int) (ztri : Int → Int) (zhis : Int → Int) (zhl : Int) (zout : Int → Int) (zrow : Int → Int) (zbrk : Int → Int) (znb : Int) (zhold : Int → Int) (zmov : Int → Int) (zbeh : Int → Int), vq = some (.int (zI r)) ∧ wq = [zMod2 cI a (mm_beh_ (mm_mov_ (mm_hold_ (mm_nb_ (mm_brk_ (mm_row_ (mm_out_ (mm_hl_ (mm_his_ (mm_tri_ (mm_kept_ (mm_all_ b zall) zkept) ztri) zhis) zhl) zout) zrow) zbrk) znb) zhold) zmov) zbeh)] ∧ (∃ (S2 : zSt) (hs2 : List zSt), menR (ordC L O) O ev hs y1 r S2 hs2 ∧ MR zall S2 ∧ MH zhl zhis hs2)
set_option maxHeartbeats 4000000 in
set_option maxRecDepth 100000 in
theorem kX5_mend (l : Launch) (D : va_G) (cI cB : ClassId) (a : Nat → Nat) (b : zM2) (y1 : Int) (L : List zPn) (O : List Int) (ev : Int) (hs : List zSt) (hM : RM (mm_all b) L O ev) (hH : MH (mm_hl b) (mm_his b) hs) (hy1 : R32 y1) : zMet l yX5_mend wsX5_mend 9 212 0 0 D cI cB [.ref (a 0), .int (zI y1)] [zMod2 cI a b] (qX5_mend cI a b y1 L O ev hs) := by
  refine zMet.of (cd := cX5_mend) (maxL := 3) (ret := (some .int)) (by decide) rfl (Nat.le_of_ble_eq_true rfl) ?_
  intro p e s m args below meth c A ls hS hr hlk hnm hK hA hW hl
  have hS : CallFix p m c cX5_mend 3 s args wsX5_mend RX5 := hS
  have hx := hS.1
  have hb := hS.2.1
  have hown := hS.2.2.2.1
  have hts := hS.2.2.2.2
  have hl : lv_has ls 3 [(0, .ref (a 0)), (1, .int (zI y1))] := hl
  have hM1 := hM.2.1
  have hM3 := hM.2.2.1
  have hln := ordC_ln hM
  have hM0 := hM.1
  have hM4 := hM.2.2.2.1
  refine lv_iload_n hx hb dX5_mend_0 rfl (lv_at hl 1 rfl) ?_
  refine z_callS (As := [.int (zI y1)]) (rest := []) hS hK hA hW hl.1 [] [0] (kX5_isScene l D cI cB y1 (by omega)) (va_cwS 1 hts gX5_mend_X5_isScene rfl rfl rfl (by decide +kernel) ⟨Nat.le_of_ble_eq_true rfl, Nat.le_of_ble_eq_true rfl⟩) dX5_mend_1 rfl rfl rfl rfl rfl (Nat.le_of_ble_eq_true rfl) ⟨Nat.le_of_ble_eq_true rfl, Nat.le_of_ble_eq_true rfl⟩ (fun v9 w9 H locs hq hW => ?_)
  obtain ⟨rr_1, rfl, rfl, hh_1⟩ := hq
  have hW : zW D A s.heap [zMod2 cI a b] H locs := hW
  refine W.eq (g2 := F0 m 4 ls [.int (zI rr_1)]) rfl ?_
  refine z_if_ne (tgt := 9) hx hb dX5_mend_4 (by decide) (by omega) (fun cc_4 => ?_) (fun cc_4 => ?_)
  · refine lv_aload_n hx hb dX5_mend_9 rfl (lv_at hl 0 rfl) ?_
    refine z_callV (r := (RX5, TX5, 18)) (As := []) (rest := []) hS hK hA hW hl.1 [0] [] (kX5_remember l D cI cB a b L O ev hM) (cwV 0 hts gX5_mend_X5_remember rfl rfl rfl (by decide +kernel) ⟨Nat.le_of_ble_eq_true rfl, Nat.le_of_ble_eq_true rfl⟩) (rfl : vwCl[5]? = some (RX5, TX5, 18)) (q0 := 0) rfl dX5_mend_10 rfl rfl rfl rfl rfl (Nat.le_of_ble_eq_true rfl) ⟨Nat.le_of_ble_eq_true rfl, Nat.le_of_ble_eq_true rfl⟩ (fun v9 w9 H locs hq hW => ?_)
    obtain ⟨zkept_10, rfl, rfl, hh_10⟩ := hq
    have hW : zW D A s.heap [zMod2 cI a (mm_kept_ b (zkept_10))] H locs := hW
    refine W.eq (g2 := F0 m 13 ls []) rfl ?_
    have hkp0 := hh_10
    refine lv_iconst (v := zI (0)) hx hb dX5_mend_13 rfl ?_
    refine lv_istore_n (lv' := [(2, .int (zI 0)), (0, .ref (a 0)), (1, .int (zI y1))]) hx hb dX5_mend_14 rfl hl (by decide) rfl (fun ls hl => ?_)
    refine lv_iload_n hx hb dX5_mend_15 rfl (lv_at hl 0 rfl) ?_
    refine lv_iconst (v := zI (2)) hx hb dX5_mend_16 rfl ?_
    refine z_icmp_ge (tgt := 34) hx hb dX5_mend_17 (by decide) (by omega) (fun cc_17 => ?_) (fun cc_17 => ?_)
    · exact absurd cc_17 (by omega)
    · refine lv_aload_n hx hb dX5_mend_20 rfl (lv_at hl 1 rfl) ?_
      refine lv_iload_n hx hb dX5_mend_21 rfl (lv_at hl 2 rfl) ?_
      refine z_callV (r := (RX5, TX5, 18)) (As := [.int (zI y1)]) (rest := []) hS hK hA hW hl.1 [0] [] (kX5_mendsOnce l D cI cB a ((mm_kept_ b (zkept_10))) y1 L O ev hM (by omega)) (cwV 1 hts gX5_mend_X5_mendsOnce rfl rfl rfl (by decide +kernel) ⟨Nat.le_of_ble_eq_true rfl, Nat.le_of_ble_eq_true rfl⟩) (rfl : vwCl[5]? = some (RX5, TX5, 18)) (q0 := 0) rfl dX5_mend_22 rfl rfl rfl rfl rfl (Nat.le_of_ble_eq_true rfl) ⟨Nat.le_of_ble_eq_true rfl, Nat.le_of_ble_eq_true rfl⟩ (fun v9 w9 H locs hq hW => ?_)
      obtain ⟨rr_22, zall_22, ztri_22, zout_22, zrow_22, zbrk_22, znb_22, zhold_22, zmov_22, zbeh_22, rfl, rfl, hh_22⟩ := hq
      have hW : zW D A s.heap [zMod2 cI a (mm_beh_ (mm_mov_ (mm_hold_ (mm_nb_ (mm_brk_ (mm_row_ (mm_out_ (mm_tri_ (mm_kept_ (mm_all_ b (zall_22)) (zkept_10)) (ztri_22)) (zout_22)) (zrow_22)) (zbrk_22)) (znb_22)) (zhold_22)) (zmov_22)) (zbeh_22))] H locs := hW
      refine W.eq (g2 := F0 m 25 ls [.int (zI rr_22)]) rfl ?_
      have hr22 : rr_22 = 0 ∨ rr_22 = 1 := by rcases hh_22 with hq | hq; exact Or.inl hq.1; exact Or.inr hq.1
      have hA22 := hh_22
      refine z_if_eq (tgt := 34) hx hb dX5_mend_25 (by decide) (by omega) (fun cc_25 => ?_) (fun cc_25 => ?_)
      · obtain ⟨-, hno, hMn⟩ := hA22.resolve_right (fun hq => absurd hq.1 (by omega))
        refine lv_iload_n hx hb dX5_mend_34 rfl (lv_at hl 0 rfl) ?_
        refine z_if_ne (tgt := 43) hx hb dX5_mend_35 (by decide) (by omega) (fun cc_35 => ?_) (fun cc_35 => ?_)
        · exact absurd cc_35 (by omega)
        · refine lv_bipush (v := zI (-5)) hx hb dX5_mend_38 (by decide +kernel) ?_
          refine lv_goto (tgt := 48) hx hb dX5_mend_40 (by decide) ?_
          exact z_iret (v := (-5)) hx hb hr hlk hW dX5_mend_48 (by
              exact ⟨(-5), zall_22, zkept_10, ztri_22, mm_his b, mm_hl b, zout_22, zrow_22, zbrk_22, znb_22, zhold_22, zmov_22, zbeh_22, rfl, rfl, by exact ⟨_, _, Or.inr ⟨by omega, Or.inl ⟨hno, rfl, rfl, rfl⟩⟩, RM_MR hMn, hH⟩⟩)
      · obtain ⟨-, L1, hM1r, hone0⟩ := hA22.resolve_left (fun hq => absurd hq.1 (by omega))
        refine z_iinc (x := 0) (lv' := [(2, .int (zI (0 + 1))), (0, .ref (a 0)), (1, .int (zI y1))]) hx hb dX5_mend_28 hl (k := 0) rfl (by decide) rfl (fun ls hl => ?_)
        refine lv_goto (tgt := 15) hx hb dX5_mend_31 (by decide) ?_
        refine lv_iload_n hx hb dX5_mend_15 rfl (lv_at hl 0 rfl) ?_
        refine lv_iconst (v := zI (2)) hx hb dX5_mend_16 rfl ?_
        refine z_icmp_ge (tgt := 34) hx hb dX5_mend_17 (by decide) (by omega) (fun cc_17 => ?_) (fun cc_17 => ?_)
        · exact absurd cc_17 (by omega)
        · refine lv_aload_n hx hb dX5_mend_20 rfl (lv_at hl 1 rfl) ?_
          refine lv_iload_n hx hb dX5_mend_21 rfl (lv_at hl 2 rfl) ?_
          refine z_callV (r := (RX5, TX5, 18)) (As := [.int (zI y1)]) (rest := []) hS hK hA hW hl.1 [0] [] (kX5_mendsOnce l D cI cB a ((mm_beh_ (mm_mov_ (mm_hold_ (mm_nb_ (mm_brk_ (mm_row_ (mm_out_ (mm_tri_ (mm_kept_ (mm_all_ b (zall_22)) (zkept_10)) (ztri_22)) (zout_22)) (zrow_22)) (zbrk_22)) (znb_22)) (zhold_22)) (zmov_22)) (zbeh_22))) y1 L1 O ev hM1r (by omega)) (cwV 1 hts gX5_mend_X5_mendsOnce rfl rfl rfl (by decide +kernel) ⟨Nat.le_of_ble_eq_true rfl, Nat.le_of_ble_eq_true rfl⟩) (rfl : vwCl[5]? = some (RX5, TX5, 18)) (q0 := 0) rfl dX5_mend_22 rfl rfl rfl rfl rfl (Nat.le_of_ble_eq_true rfl) ⟨Nat.le_of_ble_eq_true rfl, Nat.le_of_ble_eq_true rfl⟩ (fun v9 w9 H locs hq hW => ?_)
          obtain ⟨rr_22, zall_22, ztri_22, zout_22, zrow_22, zbrk_22, znb_22, zhold_22, zmov_22, zbeh_22, rfl, rfl, hh_22⟩ := hq
          have hW : zW D A s.heap [zMod2 cI a (mm_beh_ (mm_mov_ (mm_hold_ (mm_nb_ (mm_brk_ (mm_row_ (mm_out_ (mm_tri_ (mm_kept_ (mm_all_ b (zall_22)) (zkept_10)) (ztri_22)) (zout_22)) (zrow_22)) (zbrk_22)) (znb_22)) (zhold_22)) (zmov_22)) (zbeh_22))] H locs := hW
          refine W.eq (g2 := F0 m 25 ls [.int (zI rr_22)]) rfl ?_
          have hr22 : rr_22 = 0 ∨ rr_22 = 1 := by rcases hh_22 with hq | hq; exact Or.inl hq.1; exact Or.inr hq.1
          have hB22 := hh_22
          refine z_if_eq (tgt := 34) hx hb dX5_mend_25 (by decide) (by omega) (fun cc_25 => ?_) (fun cc_25 => ?_)
          · obtain ⟨-, hno, hMn⟩ := hB22.resolve_right (fun hq => absurd hq.1 (by omega))
            refine lv_iload_n hx hb dX5_mend_34 rfl (lv_at hl 0 rfl) ?_
            refine z_if_ne (tgt := 43) hx hb dX5_mend_35 (by decide) (by omega) (fun cc_35 => ?_) (fun cc_35 => ?_)
            · refine lv_aload_n hx hb dX5_mend_43 rfl (lv_at hl 1 rfl) ?_
              refine lv_iload_n hx hb dX5_mend_44 rfl (lv_at hl 0 rfl) ?_
              refine z_callV (r := (RX5, TX5, 18)) (As := [.int (zI (0 + 1))]) (rest := []) hS hK hA hW hl.1 [0] [] (kX5_acted l D cI cB a ((mm_beh_ (mm_mov_ (mm_hold_ (mm_nb_ (mm_brk_ (mm_row_ (mm_out_ (mm_tri_ (mm_kept_ (mm_all_ b (zall_22)) (zkept_10)) (ztri_22)) (zout_22)) (zrow_22)) (zbrk_22)) (znb_22)) (zhold_22)) (zmov_22)) (zbeh_22))) (0 + 1) hs ((ordC L O, O, ev)) hH hkp0 (by omega)) (cwV 1 hts gX5_mend_X5_acted rfl rfl rfl (by decide +kernel) ⟨Nat.le_of_ble_eq_true rfl, Nat.le_of_ble_eq_true rfl⟩) (rfl : vwCl[5]? = some (RX5, TX5, 18)) (q0 := 0) rfl dX5_mend_45 rfl rfl rfl rfl rfl (Nat.le_of_ble_eq_true rfl) ⟨Nat.le_of_ble_eq_true rfl, Nat.le_of_ble_eq_true rfl⟩ (fun v9 w9 H locs hq hW => ?_)
              obtain ⟨rr_45, zhis_45, zhl_45, rfl, rfl, hh_45⟩ := hq
              have hW : zW D A s.heap [zMod2 cI a (mm_beh_ (mm_mov_ (mm_hold_ (mm_nb_ (mm_brk_ (mm_row_ (mm_out_ (mm_hl_ (mm_his_ (mm_tri_ (mm_kept_ (mm_all_ b (zall_22)) (zkept_10)) (ztri_22)) (zhis_45)) (zhl_45)) (zout_22)) (zrow_22)) (zbrk_22)) (znb_22)) (zhold_22)) (zmov_22)) (zbeh_22))] H locs := hW
              refine W.eq (g2 := F0 m 48 ls [.int (zI rr_45)]) rfl ?_
              have hHz := hh_45.2
              exact z_iret (v := rr_45) hx hb hr hlk hW dX5_mend_48 (by
                  exact ⟨rr_45, zall_22, zkept_10, ztri_22, zhis_45, zhl_45, zout_22, zrow_22, zbrk_22, znb_22, zhold_22, zmov_22, zbeh_22, rfl, rfl, by exact ⟨_, _, Or.inr ⟨by omega, Or.inr ⟨ordC L1 O, hone0, Or.inl ⟨hno, hh_45.1, rfl, rfl⟩⟩⟩, ⟨L1, hMn, rfl⟩, hHz⟩⟩)
            · exact absurd cc_35 (by omega)
          · obtain ⟨-, L2, hM2r, hone1⟩ := hB22.resolve_left (fun hq => absurd hq.1 (by omega))
            refine z_iinc (x := 0 + 1) (lv' := [(2, .int (zI (0 + 1 + 1))), (0, .ref (a 0)), (1, .int (zI y1))]) hx hb dX5_mend_28 hl (k := 0) rfl (by decide) rfl (fun ls hl => ?_)
            refine lv_goto (tgt := 15) hx hb dX5_mend_31 (by decide) ?_
            refine lv_iload_n hx hb dX5_mend_15 rfl (lv_at hl 0 rfl) ?_
            refine lv_iconst (v := zI (2)) hx hb dX5_mend_16 rfl ?_
            refine z_icmp_ge (tgt := 34) hx hb dX5_mend_17 (by decide) (by omega) (fun cc_17 => ?_) (fun cc_17 => ?_)
            · refine lv_iload_n hx hb dX5_mend_34 rfl (lv_at hl 0 rfl) ?_
              refine z_if_ne (tgt := 43) hx hb dX5_mend_35 (by decide) (by omega) (fun cc_35 => ?_) (fun cc_35 => ?_)
              · refine lv_aload_n hx hb dX5_mend_43 rfl (lv_at hl 1 rfl) ?_
                refine lv_iload_n hx hb dX5_mend_44 rfl (lv_at hl 0 rfl) ?_
                refine z_callV (r := (RX5, TX5, 18)) (As := [.int (zI (0 + 1 + 1))]) (rest := []) hS hK hA hW hl.1 [0] [] (kX5_acted l D cI cB a ((mm_beh_ (mm_mov_ (mm_hold_ (mm_nb_ (mm_brk_ (mm_row_ (mm_out_ (mm_tri_ (mm_kept_ (mm_all_ b (zall_22)) (zkept_10)) (ztri_22)) (zout_22)) (zrow_22)) (zbrk_22)) (znb_22)) (zhold_22)) (zmov_22)) (zbeh_22))) (0 + 1 + 1) hs ((ordC L O, O, ev)) hH hkp0 (by omega)) (cwV 1 hts gX5_mend_X5_acted rfl rfl rfl (by decide +kernel) ⟨Nat.le_of_ble_eq_true rfl, Nat.le_of_ble_eq_true rfl⟩) (rfl : vwCl[5]? = some (RX5, TX5, 18)) (q0 := 0) rfl dX5_mend_45 rfl rfl rfl rfl rfl (Nat.le_of_ble_eq_true rfl) ⟨Nat.le_of_ble_eq_true rfl, Nat.le_of_ble_eq_true rfl⟩ (fun v9 w9 H locs hq hW => ?_)
                obtain ⟨rr_45, zhis_45, zhl_45, rfl, rfl, hh_45⟩ := hq
                have hW : zW D A s.heap [zMod2 cI a (mm_beh_ (mm_mov_ (mm_hold_ (mm_nb_ (mm_brk_ (mm_row_ (mm_out_ (mm_hl_ (mm_his_ (mm_tri_ (mm_kept_ (mm_all_ b (zall_22)) (zkept_10)) (ztri_22)) (zhis_45)) (zhl_45)) (zout_22)) (zrow_22)) (zbrk_22)) (znb_22)) (zhold_22)) (zmov_22)) (zbeh_22))] H locs := hW
                refine W.eq (g2 := F0 m 48 ls [.int (zI rr_45)]) rfl ?_
                have hHz := hh_45.2
                exact z_iret (v := rr_45) hx hb hr hlk hW dX5_mend_48 (by
                    exact ⟨rr_45, zall_22, zkept_10, ztri_22, zhis_45, zhl_45, zout_22, zrow_22, zbrk_22, znb_22, zhold_22, zmov_22, zbeh_22, rfl, rfl, by exact ⟨_, _, Or.inr ⟨by omega, Or.inr ⟨ordC L1 O, hone0, Or.inr ⟨ordC L2 O, hone1, hh_45.1, rfl, rfl⟩⟩⟩, ⟨L2, hM2r, rfl⟩, hHz⟩⟩)
              · exact absurd cc_35 (by omega)
            · exact absurd cc_17 (by omega)
  · refine lv_iconst (v := zI (-1)) hx hb dX5_mend_7 rfl ?_
    exact z_iret (v := (-1)) hx hb hr hlk hW dX5_mend_8 (by
        exact ⟨(-1), mm_all b, mm_kept b, mm_tri b, mm_his b, mm_hl b, mm_out b, mm_row b, mm_brk b, mm_nb b, mm_hold b, mm_mov b, mm_beh b, rfl, rfl, by exact ⟨_, _, Or.inl ⟨by omega, rfl, rfl, rfl⟩, RM_MR hM, hH⟩⟩)

abbrev qX5_undo (cI : ClassId) (a : Nat → Nat) (b : zM2) (L : List zPn) (O : List Int) (ev : Int) (hs : List zSt) : Option Value → List va_W → Prop := fun vq wq => ∃ (r : Int) (zall : Int → Int) (zhl : Int), vq = some (.int (zI r)) ∧ wq = [zMod2 cI a (mm_hl_ (mm_all_ b zall) zhl)] ∧ (∃ (S2 : zSt) (hs2 : List zSt), undR (ordC L O) O ev hs r S2 hs2 ∧ MR zall S2 ∧ MH zhl (mm_his b) hs2)
set_option maxRecDepth 20000 in
theorem iX5_undo_X5 : ∀ w ∈ u_ws RX5 TX5 18, w ∈ wsX5_undo := by decide +kernel
set_option maxRecDepth 20000 in
theorem mX5_undo_1 : (.fieldLink RX5 53 "StoryPanelsModel" "historyLong" "I" : Cond) ∈ wsX5_undo := by decide +kernel
set_option maxRecDepth 20000 in
theorem mX5_undo_2 : (.fieldLink RX5 7 "StoryPanelsModel" "all" "[I" : Cond) ∈ wsX5_undo := by decide +kernel
set_option maxRecDepth 20000 in
theorem mX5_undo_3 : (.fieldLink RX5 19 "StoryPanelsModel" "history" "[I" : Cond) ∈ wsX5_undo := by decide +kernel
set_option maxHeartbeats 4000000 in
set_option maxRecDepth 100000 in
theorem kX5_undo (l : Launch) (D : va_G) (cI cB : ClassId) (a : Nat → Nat) (b : zM2) (L : List zPn) (O : List Int) (ev : Int) (hs : List zSt) (hM : RM (mm_all b) L O ev) (hH : MH (mm_hl b) (mm_his b) hs) : zMet l yX5_undo wsX5_undo 0 0 0 0 D cI cB [.ref (a 0)] [zMod2 cI a b] (qX5_undo cI a b L O ev hs) := by
  refine zMet.of (cd := cX5_undo) (maxL := 2) (ret := (some .int)) (by decide) rfl (Nat.le_of_ble_eq_true rfl) ?_
  intro p e s m args below meth c A ls hS hr hlk hnm hK hA hW hl
  have hS : CallFix p m c cX5_undo 2 s args wsX5_undo RX5 := hS
  have hx := hS.1
  have hb := hS.2.1
  have hown := hS.2.2.2.1
  have hts := hS.2.2.2.2
  have hl : lv_has ls 2 [(0, .ref (a 0))] := hl
  have hH1 := hH.1
  have hH2 := hH.2.1
  refine lv_aload_n hx hb dX5_undo_0 rfl (lv_at hl 0 rfl) ?_
  refine va_get (D := D) (ci := 5) (v := .int (zI (mm_hl b))) (C := RX5) (T := TX5) (N := 18) hx hb hts iX5_undo_X5 hown hK.1 hW.1 0 rfl rfl 4 (by decide) (hts _ mX5_undo_1) (fun _ h9 => h9) rfl dX5_undo_1 ?_
  refine z_if_ne (tgt := 10) hx hb dX5_undo_4 (by decide) (by omega) (fun cc_4 => ?_) (fun cc_4 => ?_)
  · obtain ⟨hHp, Su, hlu, hMu⟩ := MH_pop hH (by omega)
    refine lv_aload_n hx hb dX5_undo_10 rfl (lv_at hl 0 rfl) ?_
    refine lv_dup hx hb dX5_undo_11 rfl ?_
    refine va_get (D := D) (ci := 5) (v := .int (zI (mm_hl b))) (C := RX5) (T := TX5) (N := 18) hx hb hts iX5_undo_X5 hown hK.1 hW.1 0 rfl rfl 4 (by decide) (hts _ mX5_undo_1) (fun _ h9 => h9) rfl dX5_undo_12 ?_
    refine lv_iconst (v := zI (1)) hx hb dX5_undo_15 rfl ?_
    refine z_isub hx hb dX5_undo_16 ?_
    refine va_put (D := D) (ci := 5) (v := .int (zI ((mm_hl b) - 1))) (ty := .int) (C := RX5) (T := TX5) (N := 18) hx hb hts iX5_undo_X5 tyX5 tyX5_ok nmX5 hown hK.1 hW.1 hW.2.1 hW.2.2 0 rfl rfl 4 (by decide) (hts _ mX5_undo_1) (fun _ h9 => h9) rfl (by decide +kernel) rfl rfl (Nat.le_of_ble_eq_true rfl) dX5_undo_17 (fun H locs h1 h2 h3 => ?_)
    have hW : zW D A s.heap [zMod2 cI a (mm_hl_ b ((mm_hl b) - 1))] H locs := ⟨h1, h2, h3⟩
    refine lv_iconst (v := zI (0)) hx hb dX5_undo_20 rfl ?_
    refine lv_istore_n (lv' := [(1, .int (zI 0)), (0, .ref (a 0))]) hx hb dX5_undo_21 rfl hl (by decide) rfl (fun ls hl => ?_)
    have L22 : ∀ (fu : Nat) (ki : Int) (hc : Int → Int), (0 ≤ ki ∧ ki ≤ 227) → (hc = cpF (fun j => mm_his b (227 * (mm_hl b - 1) + j)) (mm_all b) ki) → (227 - ki) < (fu : Int) → ∀ (H : Heap) (locs : List Loc), zW D A s.heap [zMod2 cI a (mm_hl_ (mm_all_ b (hc)) ((mm_hl b) - 1))] H locs → ∀ (ls : Array Slot), lv_has ls 2 [(0, .ref (a 0)), (1, .int (zI ki))] → W p l e { frames := 0, cells := 0, slots := 0, locals := 0 } s m args below meth c H locs 0 0 (MQ below (zQ A D (qX5_undo cI a b L O ev hs)) args s 0 0 A) (F0 m 22 ls []) := by
      intro fu
      induction fu with
      | zero => intro ki hc hki hhc hm; exact absurd hm (by omega)
      | succ fu ih22 =>
        intro ki hc hki hhc hm H locs hW ls hl
        refine lv_iload_n hx hb dX5_undo_22 rfl (lv_at hl 1 rfl) ?_
        refine lv_sipush (v := zI (227)) hx hb dX5_undo_23 (by decide +kernel) ?_
        refine z_icmp_ge (tgt := 56) hx hb dX5_undo_26 (by decide) (by omega) (fun cc_26 => ?_) (fun cc_26 => ?_)
        · refine lv_aload_n hx hb dX5_undo_56 rfl (lv_at hl 0 rfl) ?_
          refine va_get (D := D) (ci := 5) (v := .int (zI ((mm_hl b) - 1))) (C := RX5) (T := TX5) (N := 18) hx hb hts iX5_undo_X5 hown hK.1 hW.1 0 rfl rfl 4 (by decide) (hts _ mX5_undo_1) (fun _ h9 => h9) rfl dX5_undo_57 ?_
          exact z_iret (v := (mm_hl b) - 1) hx hb hr hlk hW dX5_undo_60 (by
              exact ⟨(mm_hl b) - 1, hc, (mm_hl b) - 1, rfl, rfl, by exact ⟨Su, _, Or.inr ⟨by omega, by omega, hlu, rfl⟩, und_MR hMu hhc (by omega), hHp⟩⟩)
        · refine lv_aload_n hx hb dX5_undo_29 rfl (lv_at hl 0 rfl) ?_
          refine va_get (D := D) (ci := 5) (v := .ref (a 1)) (C := RX5) (T := TX5) (N := 18) hx hb hts iX5_undo_X5 hown hK.1 hW.1 0 rfl rfl 0 (by decide) (hts _ mX5_undo_2) (fun _ h9 => h9) rfl dX5_undo_30 ?_
          refine lv_iload_n hx hb dX5_undo_33 rfl (lv_at hl 1 rfl) ?_
          refine lv_aload_n hx hb dX5_undo_34 rfl (lv_at hl 0 rfl) ?_
          refine va_get (D := D) (ci := 5) (v := .ref (a 4)) (C := RX5) (T := TX5) (N := 18) hx hb hts iX5_undo_X5 hown hK.1 hW.1 0 rfl rfl 3 (by decide) (hts _ mX5_undo_3) (fun _ h9 => h9) rfl dX5_undo_35 ?_
          refine lv_sipush (v := zI (227)) hx hb dX5_undo_38 (by decide +kernel) ?_
          refine lv_aload_n hx hb dX5_undo_41 rfl (lv_at hl 0 rfl) ?_
          refine va_get (D := D) (ci := 5) (v := .int (zI ((mm_hl b) - 1))) (C := RX5) (T := TX5) (N := 18) hx hb hts iX5_undo_X5 hown hK.1 hW.1 0 rfl rfl 4 (by decide) (hts _ mX5_undo_1) (fun _ h9 => h9) rfl dX5_undo_42 ?_
          refine z_imul hx hb dX5_undo_45 ?_
          refine lv_iload_n hx hb dX5_undo_46 rfl (lv_at hl 1 rfl) ?_
          refine z_iadd hx hb dX5_undo_47 ?_
          refine z_iald (n := 908) (g := mm_his b) hx hb hK hW 4 rfl dX5_undo_48 (by omega) ?_
          refine z_iast (n := 227) (g := hc) (bs1 := [zMod2 cI a (mm_hl_ (mm_all_ b (zU hc ki ((mm_his b) ((227 * ((mm_hl b) - 1)) + ki)))) ((mm_hl b) - 1))]) hx hb hK hW 1 rfl dX5_undo_49 (by omega) rfl (fun H locs hW => ?_)
          refine z_iinc (x := ki) (lv' := [(1, .int (zI (ki + 1))), (0, .ref (a 0))]) hx hb dX5_undo_50 hl (k := 1) rfl (by decide) rfl (fun ls hl => ?_)
          refine lv_goto (tgt := 22) hx hb dX5_undo_53 (by decide) ?_
          exact ih22 (ki + 1) (zU hc ki ((mm_his b) ((227 * ((mm_hl b) - 1)) + ki))) (by omega) (by rw [hhc]; exact cpF_s (fun j => mm_his b (227 * (mm_hl b - 1) + j)) _ hki.1) (by omega) _ _ hW ls (lv_sub hl [1, 0] rfl)
    exact L22 (((227 - 0) : Int).toNat + 1) 0 (mm_all b) (by omega) (by exact (cpF_0 _ _).symm) (by omega) _ _ hW ls (lv_sub hl [1, 0] rfl)
  · refine lv_bipush (v := zI (-5)) hx hb dX5_undo_7 (by decide +kernel) ?_
    exact z_iret (v := (-5)) hx hb hr hlk hW dX5_undo_9 (by
        exact ⟨(-5), mm_all b, mm_hl b, rfl, rfl, by exact ⟨_, _, Or.inl ⟨by omega, rfl, rfl, rfl⟩, RM_MR hM, hH⟩⟩)

abbrev qX5_keep (cI : ClassId) (a : Nat → Nat) (b : zM2) (L : List zPn) (O : List Int) (ev : Int) : Option Value → List va_W → Prop := fun vq wq => ∃ (r : Int) (zsnap : Int → Int) (ztak : Int), vq = some (.int (zI r)) ∧ wq = [zMod2 cI a (mm_tak_ (mm_snap_ b zsnap) ztak)] ∧ (r = (ordC L O).length ∧ ztak = 1 ∧ MR zsnap (ordC L O, O, ev))
set_option maxRecDepth 20000 in
theorem iX5_keep_X5 : ∀ w ∈ u_ws RX5 TX5 18, w ∈ wsX5_keep := by decide +kernel
set_option maxRecDepth 20000 in
theorem mX5_keep_1 : (.fieldLink RX5 7 "StoryPanelsModel" "all" "[I" : Cond) ∈ wsX5_keep := by decide +kernel
set_option maxRecDepth 20000 in
theorem mX5_keep_2 : (.fieldLink RX5 22 "StoryPanelsModel" "snapshot" "[I" : Cond) ∈ wsX5_keep := by decide +kernel
set_option maxRecDepth 20000 in
theorem mX5_keep_3 : (.fieldLink RX5 172 "StoryPanelsModel" "isTaken" "I" : Cond) ∈ wsX5_keep := by decide +kernel
set_option maxHeartbeats 4000000 in
set_option maxRecDepth 100000 in
theorem kX5_keep (l : Launch) (D : va_G) (cI cB : ClassId) (a : Nat → Nat) (b : zM2) (L : List zPn) (O : List Int) (ev : Int) (hM : RM (mm_all b) L O ev) : zMet l yX5_keep wsX5_keep 1 22 0 0 D cI cB [.ref (a 0)] [zMod2 cI a b] (qX5_keep cI a b L O ev) := by
  refine zMet.of (cd := cX5_keep) (maxL := 1) (ret := (some .int)) (by decide) rfl (Nat.le_of_ble_eq_true rfl) ?_
  intro p e s m args below meth c A ls hS hr hlk hnm hK hA hW hl
  have hS : CallFix p m c cX5_keep 1 s args wsX5_keep RX5 := hS
  have hx := hS.1
  have hb := hS.2.1
  have hown := hS.2.2.2.1
  have hts := hS.2.2.2.2
  have hl : lv_has ls 1 [(0, .ref (a 0))] := hl
  refine lv_aload_n hx hb dX5_keep_0 rfl (lv_at hl 0 rfl) ?_
  refine va_get (D := D) (ci := 5) (v := .ref (a 1)) (C := RX5) (T := TX5) (N := 18) hx hb hts iX5_keep_X5 hown hK.1 hW.1 0 rfl rfl 0 (by decide) (hts _ mX5_keep_1) (fun _ h9 => h9) rfl dX5_keep_1 ?_
  refine lv_aload_n hx hb dX5_keep_4 rfl (lv_at hl 0 rfl) ?_
  refine va_get (D := D) (ci := 5) (v := .ref (a 5)) (C := RX5) (T := TX5) (N := 18) hx hb hts iX5_keep_X5 hown hK.1 hW.1 0 rfl rfl 5 (by decide) (hts _ mX5_keep_2) (fun _ h9 => h9) rfl dX5_keep_5 ?_
  refine z_mcopy (g := mm_all b) (g2 := mm_snap b) (rest := []) (bs1 := [zMod2 cI a (mm_snap_ b (cpF (mm_all b) (mm_snap b) 227))]) hS hK hA hW hl.1 1 5 (by decide) rfl rfl (gX5_keep_X5_copy) ⟨Nat.le_of_ble_eq_true rfl, Nat.le_of_ble_eq_true rfl⟩ dX5_keep_8 rfl (Nat.le_of_ble_eq_true rfl) ⟨Nat.le_of_ble_eq_true rfl, Nat.le_of_ble_eq_true rfl⟩ (fun H locs hW => ?_)
  refine lv_aload_n hx hb dX5_keep_11 rfl (lv_at hl 0 rfl) ?_
  refine lv_iconst (v := zI (1)) hx hb dX5_keep_12 rfl ?_
  refine va_put (D := D) (ci := 5) (v := .int (zI 1)) (ty := .int) (C := RX5) (T := TX5) (N := 18) hx hb hts iX5_keep_X5 tyX5 tyX5_ok nmX5 hown hK.1 hW.1 hW.2.1 hW.2.2 0 rfl rfl 6 (by decide) (hts _ mX5_keep_3) (fun _ h9 => h9) rfl (by decide +kernel) rfl rfl (Nat.le_of_ble_eq_true rfl) dX5_keep_13 (fun H locs h1 h2 h3 => ?_)
  have hW : zW D A s.heap [zMod2 cI a (mm_tak_ (mm_snap_ b (cpF (mm_all b) (mm_snap b) 227)) (1))] H locs := ⟨h1, h2, h3⟩
  refine lv_aload_n hx hb dX5_keep_16 rfl (lv_at hl 0 rfl) ?_
  refine va_get (D := D) (ci := 5) (v := .ref (a 1)) (C := RX5) (T := TX5) (N := 18) hx hb hts iX5_keep_X5 hown hK.1 hW.1 0 rfl rfl 0 (by decide) (hts _ mX5_keep_1) (fun _ h9 => h9) rfl dX5_keep_17 ?_
  refine lv_iconst (v := zI (1)) hx hb dX5_keep_20 rfl ?_
  refine z_iald (n := 227) (g := mm_all b) hx hb hK hW 1 rfl dX5_keep_21 (by omega) ?_
  exact z_iret (v := (mm_all b) 1) hx hb hr hlk hW dX5_keep_22 (by
      exact ⟨(mm_all b) 1, cpF (mm_all b) (mm_snap b) 227, 1, rfl, rfl, by exact ⟨hM.2.1.trans (by rw [ordC_ln hM]), rfl, MR_cg (RM_MR hM) (fun j j1 j2 => if_pos ⟨j1, j2⟩)⟩⟩)

abbrev qX5_restore (cI : ClassId) (a : Nat → Nat) (b : zM2) (L : List zPn) (O : List Int) (ev : Int) (hs : List zSt) (Sn : zSt) : Option Value → List va_W → Prop := fun vq wq => ∃ (r : Int) (zall : Int → Int) (zkept : Int → Int) (zhis : Int → Int) (zhl : Int), vq = some (.int (zI r)) ∧ wq = [zMod2 cI a (mm_hl_ (mm_his_ (mm_kept_ (mm_all_ b zall) zkept) zhis) zhl)] ∧ (∃ (S2 : zSt) (hs2 : List zSt), resR (ordC L O) O ev hs (mm_tak b) Sn r S2 hs2 ∧ MR zall S2 ∧ MH zhl zhis hs2)
set_option maxRecDepth 20000 in
theorem iX5_restore_X5 : ∀ w ∈ u_ws RX5 TX5 18, w ∈ wsX5_restore := by decide +kernel
set_option maxRecDepth 20000 in
theorem mX5_restore_1 : (.fieldLink RX5 172 "StoryPanelsModel" "isTaken" "I" : Cond) ∈ wsX5_restore := by decide +kernel
set_option maxRecDepth 20000 in
theorem mX5_restore_2 : (.fieldLink RX5 22 "StoryPanelsModel" "snapshot" "[I" : Cond) ∈ wsX5_restore := by decide +kernel
set_option maxRecDepth 20000 in
theorem mX5_restore_3 : (.fieldLink RX5 7 "StoryPanelsModel" "all" "[I" : Cond) ∈ wsX5_restore := by decide +kernel
set_option maxHeartbeats 4000000 in
set_option maxRecDepth 100000 in
theorem kX5_restore (l : Launch) (D : va_G) (cI cB : ClassId) (a : Nat → Nat) (b : zM2) (L : List zPn) (O : List Int) (ev : Int) (hs : List zSt) (Sn : zSt) (hM : RM (mm_all b) L O ev) (hH : MH (mm_hl b) (mm_his b) hs) (hsn : mm_tak b ≠ 0 → MR (mm_snap b) Sn) (htk : R32 (mm_tak b)) : zMet l yX5_restore wsX5_restore 2 42 0 0 D cI cB [.ref (a 0)] [zMod2 cI a b] (qX5_restore cI a b L O ev hs Sn) := by
  refine zMet.of (cd := cX5_restore) (maxL := 1) (ret := (some .int)) (by decide) rfl (Nat.le_of_ble_eq_true rfl) ?_
  intro p e s m args below meth c A ls hS hr hlk hnm hK hA hW hl
  have hS : CallFix p m c cX5_restore 1 s args wsX5_restore RX5 := hS
  have hx := hS.1
  have hb := hS.2.1
  have hown := hS.2.2.2.1
  have hts := hS.2.2.2.2
  have hl : lv_has ls 1 [(0, .ref (a 0))] := hl
  have hH1 := hH.1
  refine lv_aload_n hx hb dX5_restore_0 rfl (lv_at hl 0 rfl) ?_
  refine va_get (D := D) (ci := 5) (v := .int (zI (mm_tak b))) (C := RX5) (T := TX5) (N := 18) hx hb hts iX5_restore_X5 hown hK.1 hW.1 0 rfl rfl 6 (by decide) (hts _ mX5_restore_1) (fun _ h9 => h9) rfl dX5_restore_1 ?_
  refine z_if_ne (tgt := 10) hx hb dX5_restore_4 (by decide) (by omega) (fun cc_4 => ?_) (fun cc_4 => ?_)
  · refine lv_aload_n hx hb dX5_restore_10 rfl (lv_at hl 0 rfl) ?_
    refine z_callV (r := (RX5, TX5, 18)) (As := []) (rest := []) hS hK hA hW hl.1 [0] [] (kX5_remember l D cI cB a b L O ev hM) (cwV 0 hts gX5_restore_X5_remember rfl rfl rfl (by decide +kernel) ⟨Nat.le_of_ble_eq_true rfl, Nat.le_of_ble_eq_true rfl⟩) (rfl : vwCl[5]? = some (RX5, TX5, 18)) (q0 := 0) rfl dX5_restore_11 rfl rfl rfl rfl rfl (Nat.le_of_ble_eq_true rfl) ⟨Nat.le_of_ble_eq_true rfl, Nat.le_of_ble_eq_true rfl⟩ (fun v9 w9 H locs hq hW => ?_)
    obtain ⟨zkept_11, rfl, rfl, hh_11⟩ := hq
    have hW : zW D A s.heap [zMod2 cI a (mm_kept_ b (zkept_11))] H locs := hW
    refine W.eq (g2 := F0 m 14 ls []) rfl ?_
    refine lv_aload_n hx hb dX5_restore_14 rfl (lv_at hl 0 rfl) ?_
    refine va_get (D := D) (ci := 5) (v := .ref (a 5)) (C := RX5) (T := TX5) (N := 18) hx hb hts iX5_restore_X5 hown hK.1 hW.1 0 rfl rfl 5 (by decide) (hts _ mX5_restore_2) (fun _ h9 => h9) rfl dX5_restore_15 ?_
    refine lv_aload_n hx hb dX5_restore_18 rfl (lv_at hl 0 rfl) ?_
    refine va_get (D := D) (ci := 5) (v := .ref (a 1)) (C := RX5) (T := TX5) (N := 18) hx hb hts iX5_restore_X5 hown hK.1 hW.1 0 rfl rfl 0 (by decide) (hts _ mX5_restore_3) (fun _ h9 => h9) rfl dX5_restore_19 ?_
    refine z_mcopy (g := mm_snap b) (g2 := mm_all b) (rest := []) (bs1 := [zMod2 cI a (mm_kept_ (mm_all_ b (cpF (mm_snap b) (mm_all b) 227)) (zkept_11))]) hS hK hA hW hl.1 5 1 (by decide) rfl rfl (gX5_restore_X5_copy) ⟨Nat.le_of_ble_eq_true rfl, Nat.le_of_ble_eq_true rfl⟩ dX5_restore_22 rfl (Nat.le_of_ble_eq_true rfl) ⟨Nat.le_of_ble_eq_true rfl, Nat.le_of_ble_eq_true rfl⟩ (fun H locs hW => ?_)
    refine lv_aload_n hx hb dX5_restore_25 rfl (lv_at hl 0 rfl) ?_
    refine lv_aload_n hx hb dX5_restore_26 rfl (lv_at hl 0 rfl) ?_
    refine va_get (D := D) (ci := 5) (v := .ref (a 1)) (C := RX5) (T := TX5) (N := 18) hx hb hts iX5_restore_X5 hown hK.1 hW.1 0 rfl rfl 0 (by decide) (hts _ mX5_restore_3) (fun _ h9 => h9) rfl dX5_restore_27 ?_
    refine lv_iconst (v := zI (1)) hx hb dX5_restore_30 rfl ?_
    refine z_iald (n := 227) (g := cpF (mm_snap b) (mm_all b) 227) hx hb hK hW 1 rfl dX5_restore_31 (by omega) ?_
    have hSn2 : MR (cpF (mm_snap b) (mm_all b) 227) Sn := MR_cg (hsn (by omega)) (fun j j1 j2 => if_pos ⟨j1, j2⟩)
    have hq1 : cpF (mm_snap b) (mm_all b) 227 1 = (Sn.1.length : Int) ∧ Sn.1.length ≤ 10 := by obtain ⟨L9, hL1, hL2⟩ := hSn2; rw [hL2, ordC_ln hL1]; exact ⟨hL1.2.1, hL1.2.2.1⟩
    refine z_callV (r := (RX5, TX5, 18)) (As := [.int (zI ((cpF (mm_snap b) (mm_all b) 227) 1))]) (rest := []) hS hK hA hW hl.1 [0] [] (kX5_acted l D cI cB a ((mm_kept_ (mm_all_ b (cpF (mm_snap b) (mm_all b) 227)) (zkept_11))) ((cpF (mm_snap b) (mm_all b) 227) 1) hs ((ordC L O, O, ev)) hH hh_11 (by omega)) (cwV 1 hts gX5_restore_X5_acted rfl rfl rfl (by decide +kernel) ⟨Nat.le_of_ble_eq_true rfl, Nat.le_of_ble_eq_true rfl⟩) (rfl : vwCl[5]? = some (RX5, TX5, 18)) (q0 := 0) rfl dX5_restore_32 rfl rfl rfl rfl rfl (Nat.le_of_ble_eq_true rfl) ⟨Nat.le_of_ble_eq_true rfl, Nat.le_of_ble_eq_true rfl⟩ (fun v9 w9 H locs hq hW => ?_)
    obtain ⟨rr_32, zhis_32, zhl_32, rfl, rfl, hh_32⟩ := hq
    have hW : zW D A s.heap [zMod2 cI a (mm_hl_ (mm_his_ (mm_kept_ (mm_all_ b (cpF (mm_snap b) (mm_all b) 227)) (zkept_11)) (zhis_32)) (zhl_32))] H locs := hW
    refine W.eq (g2 := F0 m 35 ls [.int (zI rr_32)]) rfl ?_
    have hHz := hh_32.2
    rw [show rr_32 = ((Sn.1.length : Int)) by exact hh_32.1.trans hq1.1]
    exact z_iret (v := (Sn.1.length : Int)) hx hb hr hlk hW dX5_restore_35 (by
        exact ⟨(Sn.1.length : Int), cpF (mm_snap b) (mm_all b) 227, zkept_11, zhis_32, zhl_32, rfl, rfl, by exact ⟨Sn, _, Or.inr ⟨by omega, rfl, rfl, rfl⟩, hSn2, hHz⟩⟩)
  · refine lv_bipush (v := zI (-5)) hx hb dX5_restore_7 (by decide +kernel) ?_
    exact z_iret (v := (-5)) hx hb hr hlk hW dX5_restore_9 (by
        exact ⟨(-5), mm_all b, mm_kept b, mm_his b, mm_hl b, rfl, rfl, by exact ⟨_, _, Or.inl ⟨by omega, rfl, rfl, rfl⟩, RM_MR hM, hH⟩⟩)
