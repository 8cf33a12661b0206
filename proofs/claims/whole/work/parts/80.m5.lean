abbrev qX5_putPanel (cI : ClassId) (a : Nat → Nat) (b : zM2) (L : List zPn) (O : List Int) (ev : Int) (hs : List zSt) : Option Value → List va_W → Prop := fun vq wq => ∃ (r : Int) (zall : Int → Int) (zkept : Int → Int) (zhis : Int → Int) (zhl : Int) (zout : Int → Int) (zspot : Int) (zread : Int → Int), vq = some (.int (zI r)) ∧ wq = [zMod2 cI a (mm_read_ (mm_spot_ (mm_out_ (mm_hl_ (mm_his_ (mm_kept_ (mm_all_ b zall) zkept) zhis) zhl) zout) zspot) zread)] ∧ (∃ (S2 : zSt) (hs2 : List zSt), putR (prs (sgM (mm_txt b) (mm_tl b)) (mm_tl b)) (ordC L O) O ev hs r S2 hs2 ∧ MR zall S2 ∧ MH zhl zhis hs2)
set_option maxRecDepth 20000 in
theorem iX5_putPanel_X5 : ∀ w ∈ u_ws RX5 TX5 18, w ∈ wsX5_putPanel := by decide +kernel
set_option maxRecDepth 20000 in
theorem mX5_putPanel_1 : (.fieldLink RX5 7 "StoryPanelsModel" "all" "[I" : Cond) ∈ wsX5_putPanel := by decide +kernel
set_option maxRecDepth 20000 in
theorem mX5_putPanel_2 : (.fieldLink RX5 25 "StoryPanelsModel" "out" "[I" : Cond) ∈ wsX5_putPanel := by decide +kernel
set_option maxHeartbeats 4000000 in
set_option maxRecDepth 100000 in
theorem kX5_putPanel (l : Launch) (D : va_G) (cI cB : ClassId) (a : Nat → Nat) (b : zM2) (L : List zPn) (O : List Int) (ev : Int) (hs : List zSt) (hM : RM (mm_all b) L O ev) (hH : MH (mm_hl b) (mm_his b) hs) (hT : TXM (mm_txt b) (mm_tl b)) : zMet l yX5_putPanel wsX5_putPanel 4 90 0 0 D cI cB [.ref (a 0)] [zMod2 cI a b] (qX5_putPanel cI a b L O ev hs) := by
  refine zMet.of (cd := cX5_putPanel) (maxL := 2) (ret := (some .int)) (by decide) rfl (Nat.le_of_ble_eq_true rfl) ?_
  intro p e s m args below meth c A ls hS hr hlk hnm hK hA hW hl
  have hS : CallFix p m c cX5_putPanel 2 s args wsX5_putPanel RX5 := hS
  have hx := hS.1
  have hb := hS.2.1
  have hown := hS.2.2.2.1
  have hts := hS.2.2.2.2
  have hl : lv_has ls 2 [(0, .ref (a 0))] := hl
  have hM1 := hM.2.1
  have hM3 := hM.2.2.1
  have hln := ordC_ln hM
  have hM0 := hM.1
  have hM4 := hM.2.2.2.1
  refine lv_aload_n hx hb dX5_putPanel_0 rfl (lv_at hl 0 rfl) ?_
  refine z_callV (r := (RX5, TX5, 18)) (As := []) (rest := []) hS hK hA hW hl.1 [0] [] (kX5_fault l D cI cB a b hT) (cwV 0 hts gX5_putPanel_X5_fault rfl rfl rfl (by decide +kernel) ⟨Nat.le_of_ble_eq_true rfl, Nat.le_of_ble_eq_true rfl⟩) (rfl : vwCl[5]? = some (RX5, TX5, 18)) (q0 := 0) rfl dX5_putPanel_1 rfl rfl rfl rfl rfl (Nat.le_of_ble_eq_true rfl) ⟨Nat.le_of_ble_eq_true rfl, Nat.le_of_ble_eq_true rfl⟩ (fun v9 w9 H locs hq hW => ?_)
  obtain ⟨rr_1, zspot_1, zread_1, rfl, rfl, hh_1⟩ := hq
  have hW : zW D A s.heap [zMod2 cI a (mm_read_ (mm_spot_ b (zspot_1)) (zread_1))] H locs := hW
  refine W.eq (g2 := F0 m 4 ls [.int (zI rr_1)]) rfl ?_
  have hft : rr_1 = fltV (prs (sgM (mm_txt b) (mm_tl b)) (mm_tl b)).1 := hh_1.1
  have hrd : (prs (sgM (mm_txt b) (mm_tl b)) (mm_tl b)).1 = -1 → rowO zread_1 (0, (prs (sgM (mm_txt b) (mm_tl b)) (mm_tl b)).2) := hh_1.2
  have hfr := fltV_rg (prs_rg (s := sgM (mm_txt b) (mm_tl b)) hT.1.2)
  refine lv_istore_n (lv' := [(1, .int (zI rr_1)), (0, .ref (a 0))]) hx hb dX5_putPanel_4 rfl hl (by decide) rfl (fun ls hl => ?_)
  refine lv_iload_n hx hb dX5_putPanel_5 rfl (lv_at hl 0 rfl) ?_
  refine lv_bipush (v := zI (-5)) hx hb dX5_putPanel_6 (by decide +kernel) ?_
  refine z_icmp_eq (tgt := 16) hx hb dX5_putPanel_8 (by decide) (by omega) (fun cc_8 => ?_) (fun cc_8 => ?_)
  · refine lv_aload_n hx hb dX5_putPanel_16 rfl (lv_at hl 1 rfl) ?_
    refine va_get (D := D) (ci := 5) (v := .ref (a 1)) (C := RX5) (T := TX5) (N := 18) hx hb hts iX5_putPanel_X5 hown hK.1 hW.1 0 rfl rfl 0 (by decide) (hts _ mX5_putPanel_1) (fun _ h9 => h9) rfl dX5_putPanel_17 ?_
    refine lv_iconst (v := zI (1)) hx hb dX5_putPanel_20 rfl ?_
    refine z_iald (n := 227) (g := mm_all b) hx hb hK hW 1 rfl dX5_putPanel_21 (by omega) ?_
    refine lv_bipush (v := zI (10)) hx hb dX5_putPanel_22 (by decide +kernel) ?_
    refine z_icmp_eq (tgt := 38) hx hb dX5_putPanel_24 (by decide) (by omega) (fun cc_24 => ?_) (fun cc_24 => ?_)
    · refine lv_bipush (v := zI (-3)) hx hb dX5_putPanel_38 (by decide +kernel) ?_
      exact z_iret (v := (-3)) hx hb hr hlk hW dX5_putPanel_40 (by
          exact ⟨(-3), mm_all b, mm_kept b, mm_his b, mm_hl b, mm_out b, zspot_1, zread_1, rfl, rfl, by exact ⟨_, _, Or.inr ⟨by omega, Or.inl ⟨by omega, rfl, rfl, rfl⟩⟩, RM_MR hM, hH⟩⟩)
    · refine lv_aload_n hx hb dX5_putPanel_27 rfl (lv_at hl 1 rfl) ?_
      refine va_get (D := D) (ci := 5) (v := .ref (a 1)) (C := RX5) (T := TX5) (N := 18) hx hb hts iX5_putPanel_X5 hown hK.1 hW.1 0 rfl rfl 0 (by decide) (hts _ mX5_putPanel_1) (fun _ h9 => h9) rfl dX5_putPanel_28 ?_
      refine lv_iconst (v := zI (0)) hx hb dX5_putPanel_31 rfl ?_
      refine z_iald (n := 227) (g := mm_all b) hx hb hK hW 1 rfl dX5_putPanel_32 (by omega) ?_
      refine lv_bipush (v := zI (99)) hx hb dX5_putPanel_33 (by decide +kernel) ?_
      refine z_icmp_ne (tgt := 41) hx hb dX5_putPanel_35 (by decide) (by omega) (fun cc_35 => ?_) (fun cc_35 => ?_)
      · have hok : pnOK (ev, (prs (sgM (mm_txt b) (mm_tl b)) (mm_tl b)).2) := prs_ok (by omega) (by omega)
        have hok1 : 0 ≤ (prs (sgM (mm_txt b) (mm_tl b)) (mm_tl b)).2.1 ∧ (prs (sgM (mm_txt b) (mm_tl b)) (mm_tl b)).2.1 < 5 := hok.2.1
        refine lv_aload_n hx hb dX5_putPanel_41 rfl (lv_at hl 1 rfl) ?_
        refine z_callV (r := (RX5, TX5, 18)) (As := []) (rest := []) hS hK hA hW hl.1 [0] [] (kX5_remember l D cI cB a ((mm_read_ (mm_spot_ b (zspot_1)) (zread_1))) L O ev hM) (cwV 0 hts gX5_putPanel_X5_remember rfl rfl rfl (by decide +kernel) ⟨Nat.le_of_ble_eq_true rfl, Nat.le_of_ble_eq_true rfl⟩) (rfl : vwCl[5]? = some (RX5, TX5, 18)) (q0 := 0) rfl dX5_putPanel_42 rfl rfl rfl rfl rfl (Nat.le_of_ble_eq_true rfl) ⟨Nat.le_of_ble_eq_true rfl, Nat.le_of_ble_eq_true rfl⟩ (fun v9 w9 H locs hq hW => ?_)
        obtain ⟨zkept_42, rfl, rfl, hh_42⟩ := hq
        have hW : zW D A s.heap [zMod2 cI a (mm_read_ (mm_spot_ (mm_kept_ b (zkept_42)) (zspot_1)) (zread_1))] H locs := hW
        refine W.eq (g2 := F0 m 45 ls []) rfl ?_
        refine lv_aload_n hx hb dX5_putPanel_45 rfl (lv_at hl 1 rfl) ?_
        refine lv_aload_n hx hb dX5_putPanel_46 rfl (lv_at hl 1 rfl) ?_
        refine va_get (D := D) (ci := 5) (v := .ref (a 1)) (C := RX5) (T := TX5) (N := 18) hx hb hts iX5_putPanel_X5 hown hK.1 hW.1 0 rfl rfl 0 (by decide) (hts _ mX5_putPanel_1) (fun _ h9 => h9) rfl dX5_putPanel_47 ?_
        refine lv_iconst (v := zI (0)) hx hb dX5_putPanel_50 rfl ?_
        refine z_iald (n := 227) (g := mm_all b) hx hb hK hW 1 rfl dX5_putPanel_51 (by omega) ?_
        refine z_callV (r := (RX5, TX5, 18)) (As := [.int (zI ((mm_all b) 0))]) (rest := []) hS hK hA hW hl.1 [0] [] (kX5_takesRead l D cI cB a ((mm_read_ (mm_spot_ (mm_kept_ b (zkept_42)) (zspot_1)) (zread_1))) ((mm_all b) 0) ((prs (sgM (mm_txt b) (mm_tl b)) (mm_tl b)).2.1) ((prs (sgM (mm_txt b) (mm_tl b)) (mm_tl b)).2.2.1) ((prs (sgM (mm_txt b) (mm_tl b)) (mm_tl b)).2.2.2) (hrd (by omega)) hok.2.2.2.1) (cwV 1 hts gX5_putPanel_X5_takesRead rfl rfl rfl (by decide +kernel) ⟨Nat.le_of_ble_eq_true rfl, Nat.le_of_ble_eq_true rfl⟩) (rfl : vwCl[5]? = some (RX5, TX5, 18)) (q0 := 0) rfl dX5_putPanel_52 rfl rfl rfl rfl rfl (Nat.le_of_ble_eq_true rfl) ⟨Nat.le_of_ble_eq_true rfl, Nat.le_of_ble_eq_true rfl⟩ (fun v9 w9 H locs hq hW => ?_)
        obtain ⟨zout_52, rfl, rfl, hh_52⟩ := hq
        have hW : zW D A s.heap [zMod2 cI a (mm_read_ (mm_spot_ (mm_out_ (mm_kept_ b (zkept_42)) (zout_52)) (zspot_1)) (zread_1))] H locs := hW
        refine W.eq (g2 := F0 m 55 ls []) rfl ?_
        have ho : rowO zout_52 (ev, (prs (sgM (mm_txt b) (mm_tl b)) (mm_tl b)).2) := by rw [← hM0]; exact hh_52
        have ho1 : zout_52 1 = (prs (sgM (mm_txt b) (mm_tl b)) (mm_tl b)).2.1 := ho.2.1
        refine lv_aload_n hx hb dX5_putPanel_55 rfl (lv_at hl 1 rfl) ?_
        refine lv_aload_n hx hb dX5_putPanel_56 rfl (lv_at hl 1 rfl) ?_
        refine lv_aload_n hx hb dX5_putPanel_57 rfl (lv_at hl 1 rfl) ?_
        refine va_get (D := D) (ci := 5) (v := .ref (a 6)) (C := RX5) (T := TX5) (N := 18) hx hb hts iX5_putPanel_X5 hown hK.1 hW.1 0 rfl rfl 7 (by decide) (hts _ mX5_putPanel_2) (fun _ h9 => h9) rfl dX5_putPanel_58 ?_
        refine lv_iconst (v := zI (1)) hx hb dX5_putPanel_61 rfl ?_
        refine z_iald (n := 22) (g := zout_52) hx hb hK hW 6 rfl dX5_putPanel_62 (by omega) ?_
        refine z_callV (r := (RX5, TX5, 18)) (As := [.int (zI (zout_52 1))]) (rest := [.ref (a 0)]) hS hK hA hW hl.1 [0] [] (kX5_panelsOf l D cI cB a ((mm_read_ (mm_spot_ (mm_out_ (mm_kept_ b (zkept_42)) (zout_52)) (zspot_1)) (zread_1))) (zout_52 1) L O ev ev hM (by omega)) (cwV 1 hts gX5_putPanel_X5_panelsOf rfl rfl rfl (by decide +kernel) ⟨Nat.le_of_ble_eq_true rfl, Nat.le_of_ble_eq_true rfl⟩) (rfl : vwCl[5]? = some (RX5, TX5, 18)) (q0 := 0) rfl dX5_putPanel_63 rfl rfl rfl rfl rfl (Nat.le_of_ble_eq_true rfl) ⟨Nat.le_of_ble_eq_true rfl, Nat.le_of_ble_eq_true rfl⟩ (fun v9 w9 H locs hq hW => ?_)
        obtain ⟨rr_63, rfl, rfl, hh_63⟩ := hq
        subst rr_63
        have hW : zW D A s.heap [zMod2 cI a (mm_read_ (mm_spot_ (mm_out_ (mm_kept_ b (zkept_42)) (zout_52)) (zspot_1)) (zread_1))] H locs := hW
        refine W.eq (g2 := F0 m 66 ls [.int (zI (inC L (zout_52 1))), .ref (a 0)]) rfl ?_
        rw [show (inC L (zout_52 1)) = (inC L (prs (sgM (mm_txt b) (mm_tl b)) (mm_tl b)).2.1) by rw [ho1]]
        refine z_callV (r := (RX5, TX5, 18)) (As := [.int (zI (inC L (prs (sgM (mm_txt b) (mm_tl b)) (mm_tl b)).2.1))]) (rest := []) hS hK hA hW hl.1 [0] [] (kX5_putsIn l D cI cB a ((mm_read_ (mm_spot_ (mm_out_ (mm_kept_ b (zkept_42)) (zout_52)) (zspot_1)) (zread_1))) (inC L (prs (sgM (mm_txt b) (mm_tl b)) (mm_tl b)).2.1) L O ev ((ev + 1)) ((ev, (prs (sgM (mm_txt b) (mm_tl b)) (mm_tl b)).2)) (RM_up hM (by omega)) (by omega) ho (⟨hok, by show ev < ev + 1; omega⟩) (hnew_ev hM) (by (have hq := inC_tk L 0 (prs (sgM (mm_txt b) (mm_tl b)) (mm_tl b)).2.1; exact ⟨by omega, Int.le_refl _⟩))) (cwV 1 hts gX5_putPanel_X5_putsIn rfl rfl rfl (by decide +kernel) ⟨Nat.le_of_ble_eq_true rfl, Nat.le_of_ble_eq_true rfl⟩) (rfl : vwCl[5]? = some (RX5, TX5, 18)) (q0 := 0) rfl dX5_putPanel_66 rfl rfl rfl rfl rfl (Nat.le_of_ble_eq_true rfl) ⟨Nat.le_of_ble_eq_true rfl, Nat.le_of_ble_eq_true rfl⟩ (fun v9 w9 H locs hq hW => ?_)
        obtain ⟨zall_66, rfl, rfl, hh_66⟩ := hq
        have hW : zW D A s.heap [zMod2 cI a (mm_read_ (mm_spot_ (mm_out_ (mm_kept_ (mm_all_ b (zall_66)) (zkept_42)) (zout_52)) (zspot_1)) (zread_1))] H locs := hW
        refine W.eq (g2 := F0 m 69 ls []) rfl ?_
        obtain ⟨L2, hM2, he2⟩ := hh_66
        have hz0 := hM2.1
        refine lv_aload_n hx hb dX5_putPanel_69 rfl (lv_at hl 1 rfl) ?_
        refine va_get (D := D) (ci := 5) (v := .ref (a 1)) (C := RX5) (T := TX5) (N := 18) hx hb hts iX5_putPanel_X5 hown hK.1 hW.1 0 rfl rfl 0 (by decide) (hts _ mX5_putPanel_1) (fun _ h9 => h9) rfl dX5_putPanel_70 ?_
        refine lv_iconst (v := zI (0)) hx hb dX5_putPanel_73 rfl ?_
        refine lv_dup2_11 hx hb dX5_putPanel_74 rfl rfl ?_
        refine z_iald (n := 227) (g := zall_66) hx hb hK hW 1 rfl dX5_putPanel_75 (by omega) ?_
        refine lv_iconst (v := zI (1)) hx hb dX5_putPanel_76 rfl ?_
        refine z_iadd hx hb dX5_putPanel_77 ?_
        refine z_iast (n := 227) (g := zall_66) (bs1 := [zMod2 cI a (mm_read_ (mm_spot_ (mm_out_ (mm_kept_ (mm_all_ b (zU zall_66 0 ((zall_66 0) + 1))) (zkept_42)) (zout_52)) (zspot_1)) (zread_1))]) hx hb hK hW 1 rfl dX5_putPanel_78 (by omega) rfl (fun H locs hW => ?_)
        refine lv_aload_n hx hb dX5_putPanel_79 rfl (lv_at hl 1 rfl) ?_
        refine lv_aload_n hx hb dX5_putPanel_80 rfl (lv_at hl 1 rfl) ?_
        refine va_get (D := D) (ci := 5) (v := .ref (a 1)) (C := RX5) (T := TX5) (N := 18) hx hb hts iX5_putPanel_X5 hown hK.1 hW.1 0 rfl rfl 0 (by decide) (hts _ mX5_putPanel_1) (fun _ h9 => h9) rfl dX5_putPanel_81 ?_
        refine lv_iconst (v := zI (0)) hx hb dX5_putPanel_84 rfl ?_
        refine z_iald (n := 227) (g := zU zall_66 0 ((zall_66 0) + 1)) hx hb hK hW 1 rfl dX5_putPanel_85 (by omega) ?_
        refine lv_iconst (v := zI (1)) hx hb dX5_putPanel_86 rfl ?_
        refine z_isub hx hb dX5_putPanel_87 ?_
        have hv9 : zU zall_66 0 (zall_66 0 + 1) 0 - 1 = ev := by rw [zU_s, hz0]; omega
        refine z_callV (r := (RX5, TX5, 18)) (As := [.int (zI (((zU zall_66 0 ((zall_66 0) + 1)) 0) - 1))]) (rest := []) hS hK hA hW hl.1 [0] [] (kX5_acted l D cI cB a ((mm_read_ (mm_spot_ (mm_out_ (mm_kept_ (mm_all_ b (zU zall_66 0 ((zall_66 0) + 1))) (zkept_42)) (zout_52)) (zspot_1)) (zread_1))) (((zU zall_66 0 ((zall_66 0) + 1)) 0) - 1) hs ((ordC L O, O, ev)) hH hh_42 (by omega)) (cwV 1 hts gX5_putPanel_X5_acted rfl rfl rfl (by decide +kernel) ⟨Nat.le_of_ble_eq_true rfl, Nat.le_of_ble_eq_true rfl⟩) (rfl : vwCl[5]? = some (RX5, TX5, 18)) (q0 := 0) rfl dX5_putPanel_88 rfl rfl rfl rfl rfl (Nat.le_of_ble_eq_true rfl) ⟨Nat.le_of_ble_eq_true rfl, Nat.le_of_ble_eq_true rfl⟩ (fun v9 w9 H locs hq hW => ?_)
        obtain ⟨rr_88, zhis_88, zhl_88, rfl, rfl, hh_88⟩ := hq
        have hW : zW D A s.heap [zMod2 cI a (mm_read_ (mm_spot_ (mm_out_ (mm_hl_ (mm_his_ (mm_kept_ (mm_all_ b (zU zall_66 0 ((zall_66 0) + 1))) (zkept_42)) (zhis_88)) (zhl_88)) (zout_52)) (zspot_1)) (zread_1))] H locs := hW
        refine W.eq (g2 := F0 m 91 ls [.int (zI rr_88)]) rfl ?_
        have hHz := hh_88.2
        rw [show rr_88 = ev by exact hh_88.1.trans hv9]
        exact z_iret (v := ev) hx hb hr hlk hW dX5_putPanel_91 (by
            exact ⟨ev, zU zall_66 0 ((zall_66 0) + 1), zkept_42, zhis_88, zhl_88, zout_52, zspot_1, zread_1, rfl, rfl, by exact ⟨(insC (ordC L O) (ahC (ordC L O) O (prs (sgM (mm_txt b) (mm_tl b)) (mm_tl b)).2.1 + inC (ordC L O) (prs (sgM (mm_txt b) (mm_tl b)) (mm_tl b)).2.1) (ev, (prs (sgM (mm_txt b) (mm_tl b)) (mm_tl b)).2), O, ev + 1), _, Or.inr ⟨by omega, Or.inr ⟨by omega, rfl, rfl, rfl⟩⟩, ⟨L2, RM_ev2 (v := zall_66 0 + 1) (n := ev + 1) hM2 (by omega) (by omega), by rw [inC_Or hM]; exact he2.symm⟩, hHz⟩⟩)
      · refine lv_bipush (v := zI (-3)) hx hb dX5_putPanel_38 (by decide +kernel) ?_
        exact z_iret (v := (-3)) hx hb hr hlk hW dX5_putPanel_40 (by
            exact ⟨(-3), mm_all b, mm_kept b, mm_his b, mm_hl b, mm_out b, zspot_1, zread_1, rfl, rfl, by exact ⟨_, _, Or.inr ⟨by omega, Or.inl ⟨by omega, rfl, rfl, rfl⟩⟩, RM_MR hM, hH⟩⟩)
  · refine lv_bipush (v := zI (-100)) hx hb dX5_putPanel_11 (by decide +kernel) ?_
    refine lv_iload_n hx hb dX5_putPanel_13 rfl (lv_at hl 0 rfl) ?_
    refine z_isub hx hb dX5_putPanel_14 ?_
    exact z_iret (v := ((-100)) - rr_1) hx hb hr hlk hW dX5_putPanel_15 (by
        exact ⟨((-100)) - rr_1, mm_all b, mm_kept b, mm_his b, mm_hl b, mm_out b, zspot_1, zread_1, rfl, rfl, by exact ⟨_, _, Or.inl ⟨by omega, by omega, rfl, rfl⟩, RM_MR hM, hH⟩⟩)

abbrev qX5_redraw (cI : ClassId) (a : Nat → Nat) (b : zM2) (y1 : Int) (L : List zPn) (O : List Int) (ev : Int) (hs : List zSt) : Option Value → List va_W → Prop := fun vq wq => ∃ (r : Int) (zall : Int → Int) (zkept : Int → Int) (zhis : Int → Int) (zhl : Int) (zout : Int → Int) (zspot : Int) (zread : Int → Int), vq = some (.int (zI r)) ∧ wq = [zMod2 cI a (mm_read_ (mm_spot_ (mm_out_ (mm_hl_ (mm_his_ (mm_kept_ (mm_all_ b zall) zkept) zhis) zhl) zout) zspot) zread)] ∧ (∃ (S2 : zSt) (hs2 : List zSt), redR (prs (sgM (mm_txt b) (mm_tl b)) (mm_tl b)) (ordC L O) O ev hs y1 r S2 hs2 ∧ MR zall S2 ∧ MH zhl zhis hs2)
set_option maxRecDepth 20000 in
theorem iX5_redraw_X5 : ∀ w ∈ u_ws RX5 TX5 18, w ∈ wsX5_redraw := by decide +kernel
set_option maxRecDepth 20000 in
theorem mX5_redraw_1 : (.fieldLink RX5 46 "StoryPanelsModel" "read" "[I" : Cond) ∈ wsX5_redraw := by decide +kernel
set_option maxRecDepth 20000 in
theorem mX5_redraw_2 : (.fieldLink RX5 25 "StoryPanelsModel" "out" "[I" : Cond) ∈ wsX5_redraw := by decide +kernel
set_option maxHeartbeats 4000000 in
set_option maxRecDepth 100000 in
theorem kX5_redraw (l : Launch) (D : va_G) (cI cB : ClassId) (a : Nat → Nat) (b : zM2) (y1 : Int) (L : List zPn) (O : List Int) (ev : Int) (hs : List zSt) (hM : RM (mm_all b) L O ev) (hH : MH (mm_hl b) (mm_his b) hs) (hT : TXM (mm_txt b) (mm_tl b)) (hy1 : R32 y1) : zMet l yX5_redraw wsX5_redraw 4 90 0 0 D cI cB [.ref (a 0), .int (zI y1)] [zMod2 cI a b] (qX5_redraw cI a b y1 L O ev hs) := by
  refine zMet.of (cd := cX5_redraw) (maxL := 6) (ret := (some .int)) (by decide) rfl (Nat.le_of_ble_eq_true rfl) ?_
  intro p e s m args below meth c A ls hS hr hlk hnm hK hA hW hl
  have hS : CallFix p m c cX5_redraw 6 s args wsX5_redraw RX5 := hS
  have hx := hS.1
  have hb := hS.2.1
  have hown := hS.2.2.2.1
  have hts := hS.2.2.2.2
  have hl : lv_has ls 6 [(0, .ref (a 0)), (1, .int (zI y1))] := hl
  have hM1 := hM.2.1
  have hM3 := hM.2.2.1
  have hln := ordC_ln hM
  have hM0 := hM.1
  have hM4 := hM.2.2.2.1
  refine lv_aload_n hx hb dX5_redraw_0 rfl (lv_at hl 0 rfl) ?_
  refine lv_iload_n hx hb dX5_redraw_1 rfl (lv_at hl 1 rfl) ?_
  refine z_callV (r := (RX5, TX5, 18)) (As := [.int (zI y1)]) (rest := []) hS hK hA hW hl.1 [0] [] (kX5_lieOf l D cI cB a b y1 L O ev ev hM (by omega)) (cwV 1 hts gX5_redraw_X5_lieOf rfl rfl rfl (by decide +kernel) ⟨Nat.le_of_ble_eq_true rfl, Nat.le_of_ble_eq_true rfl⟩) (rfl : vwCl[5]? = some (RX5, TX5, 18)) (q0 := 0) rfl dX5_redraw_2 rfl rfl rfl rfl rfl (Nat.le_of_ble_eq_true rfl) ⟨Nat.le_of_ble_eq_true rfl, Nat.le_of_ble_eq_true rfl⟩ (fun v9 w9 H locs hq hW => ?_)
  obtain ⟨rr_2, rfl, rfl, hh_2⟩ := hq
  have hW : zW D A s.heap [zMod2 cI a b] H locs := hW
  refine W.eq (g2 := F0 m 5 ls [.int (zI rr_2)]) rfl ?_
  have hlc : lieC L O (mm_all b) ev y1 rr_2 := lie_c hM hh_2
  have hlr := lieC_rg hlc hM3
  clear hh_2
  refine lv_istore_n (lv' := [(2, .int (zI rr_2)), (0, .ref (a 0)), (1, .int (zI y1))]) hx hb dX5_redraw_5 rfl hl (by decide) rfl (fun ls hl => ?_)
  refine lv_iload_n hx hb dX5_redraw_6 rfl (lv_at hl 0 rfl) ?_
  refine lv_bipush (v := zI (-5)) hx hb dX5_redraw_7 (by decide +kernel) ?_
  refine z_icmp_ne (tgt := 14) hx hb dX5_redraw_9 (by decide) (by omega) (fun cc_9 => ?_) (fun cc_9 => ?_)
  · obtain ⟨kq, jq, pq, ⟨hlq, hpx⟩, ⟨hkl, hrk⟩, hjp, hpo, hrw⟩ := lieC_yes hlc (by omega)
    have hp1 := hpo.1.1
    have hp2 := hpo.1.2.1
    have hp3 := hpo.1.2.2.1
    have hp4 := hpo.1.2.2.2.1
    refine lv_aload_n hx hb dX5_redraw_14 rfl (lv_at hl 1 rfl) ?_
    refine z_callV (r := (RX5, TX5, 18)) (As := []) (rest := []) hS hK hA hW hl.1 [0] [] (kX5_fault l D cI cB a b hT) (cwV 0 hts gX5_redraw_X5_fault rfl rfl rfl (by decide +kernel) ⟨Nat.le_of_ble_eq_true rfl, Nat.le_of_ble_eq_true rfl⟩) (rfl : vwCl[5]? = some (RX5, TX5, 18)) (q0 := 0) rfl dX5_redraw_15 rfl rfl rfl rfl rfl (Nat.le_of_ble_eq_true rfl) ⟨Nat.le_of_ble_eq_true rfl, Nat.le_of_ble_eq_true rfl⟩ (fun v9 w9 H locs hq hW => ?_)
    obtain ⟨rr_15, zspot_15, zread_15, rfl, rfl, hh_15⟩ := hq
    have hW : zW D A s.heap [zMod2 cI a (mm_read_ (mm_spot_ b (zspot_15)) (zread_15))] H locs := hW
    refine W.eq (g2 := F0 m 18 ls [.int (zI rr_15)]) rfl ?_
    have hft : rr_15 = fltV (prs (sgM (mm_txt b) (mm_tl b)) (mm_tl b)).1 := hh_15.1
    have hrd : (prs (sgM (mm_txt b) (mm_tl b)) (mm_tl b)).1 = -1 → rowO zread_15 (0, (prs (sgM (mm_txt b) (mm_tl b)) (mm_tl b)).2) := hh_15.2
    have hfr := fltV_rg (prs_rg (s := sgM (mm_txt b) (mm_tl b)) hT.1.2)
    refine lv_istore_n (lv' := [(3, .int (zI rr_15)), (2, .int (zI rr_2)), (0, .ref (a 0)), (1, .int (zI y1))]) hx hb dX5_redraw_18 rfl hl (by decide) rfl (fun ls hl => ?_)
    refine lv_iload_n hx hb dX5_redraw_19 rfl (lv_at hl 0 rfl) ?_
    refine lv_bipush (v := zI (-5)) hx hb dX5_redraw_20 (by decide +kernel) ?_
    refine z_icmp_eq (tgt := 30) hx hb dX5_redraw_22 (by decide) (by omega) (fun cc_22 => ?_) (fun cc_22 => ?_)
    · have hok : pnOK (y1, (prs (sgM (mm_txt b) (mm_tl b)) (mm_tl b)).2) := prs_ok (by omega) (by omega)
      have hok1 : 0 ≤ (prs (sgM (mm_txt b) (mm_tl b)) (mm_tl b)).2.1 ∧ (prs (sgM (mm_txt b) (mm_tl b)) (mm_tl b)).2.1 < 5 := hok.2.1
      have hok4 : (prs (sgM (mm_txt b) (mm_tl b)) (mm_tl b)).2.2.2.length ≤ 6 := hok.2.2.2.1
      have hrd9 := hrd (by omega)
      have hr1 : zread_15 1 = (prs (sgM (mm_txt b) (mm_tl b)) (mm_tl b)).2.1 := hrd9.2.1
      refine lv_aload_n hx hb dX5_redraw_30 rfl (lv_at hl 2 rfl) ?_
      refine z_callV (r := (RX5, TX5, 18)) (As := []) (rest := []) hS hK hA hW hl.1 [0] [] (kX5_remember l D cI cB a ((mm_read_ (mm_spot_ b (zspot_15)) (zread_15))) L O ev hM) (cwV 0 hts gX5_redraw_X5_remember rfl rfl rfl (by decide +kernel) ⟨Nat.le_of_ble_eq_true rfl, Nat.le_of_ble_eq_true rfl⟩) (rfl : vwCl[5]? = some (RX5, TX5, 18)) (q0 := 0) rfl dX5_redraw_31 rfl rfl rfl rfl rfl (Nat.le_of_ble_eq_true rfl) ⟨Nat.le_of_ble_eq_true rfl, Nat.le_of_ble_eq_true rfl⟩ (fun v9 w9 H locs hq hW => ?_)
      obtain ⟨zkept_31, rfl, rfl, hh_31⟩ := hq
      have hW : zW D A s.heap [zMod2 cI a (mm_read_ (mm_spot_ (mm_kept_ b (zkept_31)) (zspot_15)) (zread_15))] H locs := hW
      refine W.eq (g2 := F0 m 34 ls []) rfl ?_
      refine lv_aload_n hx hb dX5_redraw_34 rfl (lv_at hl 2 rfl) ?_
      refine lv_iload_n hx hb dX5_redraw_35 rfl (lv_at hl 1 rfl) ?_
      refine z_callV (r := (RX5, TX5, 18)) (As := [.int (zI rr_2)]) (rest := []) hS hK hA hW hl.1 [0] [] (kX5_placeOf l D cI cB a ((mm_read_ (mm_spot_ (mm_kept_ b (zkept_31)) (zspot_15)) (zread_15))) rr_2 L O ev ev kq pq hM hlq.1 hrk) (cwV 1 hts gX5_redraw_X5_placeOf rfl rfl rfl (by decide +kernel) ⟨Nat.le_of_ble_eq_true rfl, Nat.le_of_ble_eq_true rfl⟩) (rfl : vwCl[5]? = some (RX5, TX5, 18)) (q0 := 0) rfl dX5_redraw_36 rfl rfl rfl rfl rfl (Nat.le_of_ble_eq_true rfl) ⟨Nat.le_of_ble_eq_true rfl, Nat.le_of_ble_eq_true rfl⟩ (fun v9 w9 H locs hq hW => ?_)
      obtain ⟨rr_36, rfl, rfl, hh_36⟩ := hq
      subst rr_36
      have hW : zW D A s.heap [zMod2 cI a (mm_read_ (mm_spot_ (mm_kept_ b (zkept_31)) (zspot_15)) (zread_15))] H locs := hW
      refine W.eq (g2 := F0 m 39 ls [.int (zI (inC (L.take kq) pq.2.1))]) rfl ?_
      have hit := inC_tk L kq pq.2.1
      refine lv_istore (lv' := [(4, .int (zI (inC (L.take kq) pq.2.1))), (3, .int (zI rr_15)), (2, .int (zI rr_2)), (0, .ref (a 0)), (1, .int (zI y1))]) hx hb dX5_redraw_39 hl (by decide) rfl (fun ls hl => ?_)
      refine lv_aload_n hx hb dX5_redraw_41 rfl (lv_at hl 3 rfl) ?_
      refine lv_iload_n hx hb dX5_redraw_42 rfl (lv_at hl 2 rfl) ?_
      refine lv_iconst (v := zI (1)) hx hb dX5_redraw_43 rfl ?_
      refine z_callV (r := (RX5, TX5, 18)) (As := [.int (zI rr_2), .int (zI 1)]) (rest := []) hS hK hA hW hl.1 [0] [] (kX5_of l D cI cB a ((mm_read_ (mm_spot_ (mm_kept_ b (zkept_31)) (zspot_15)) (zread_15))) rr_2 1 (by omega) (by omega)) (cwV 2 hts gX5_redraw_X5_of rfl rfl rfl (by decide +kernel) ⟨Nat.le_of_ble_eq_true rfl, Nat.le_of_ble_eq_true rfl⟩) (rfl : vwCl[5]? = some (RX5, TX5, 18)) (q0 := 0) rfl dX5_redraw_44 rfl rfl rfl rfl rfl (Nat.le_of_ble_eq_true rfl) ⟨Nat.le_of_ble_eq_true rfl, Nat.le_of_ble_eq_true rfl⟩ (fun v9 w9 H locs hq hW => ?_)
      obtain ⟨rr_44, rfl, rfl, hh_44⟩ := hq
      subst rr_44
      have hW : zW D A s.heap [zMod2 cI a (mm_read_ (mm_spot_ (mm_kept_ b (zkept_31)) (zspot_15)) (zread_15))] H locs := hW
      refine W.eq (g2 := F0 m 47 ls [.int (zI (fL (mm_all ((mm_read_ (mm_spot_ (mm_kept_ b (zkept_31)) (zspot_15)) (zread_15)))) rr_2 1))]) rfl ?_
      rw [show (fL (mm_all ((mm_read_ (mm_spot_ (mm_kept_ b (zkept_31)) (zspot_15)) (zread_15)))) rr_2 1) = pq.2.1 by exact (by rw [hrk]; exact hrw.2.1)]
      refine lv_aload_n hx hb dX5_redraw_47 rfl (lv_at hl 3 rfl) ?_
      refine va_get (D := D) (ci := 5) (v := .ref (a 13)) (C := RX5) (T := TX5) (N := 18) hx hb hts iX5_redraw_X5 hown hK.1 hW.1 0 rfl rfl 17 (by decide) (hts _ mX5_redraw_1) (fun _ h9 => h9) rfl dX5_redraw_48 ?_
      refine lv_iconst (v := zI (1)) hx hb dX5_redraw_51 rfl ?_
      refine z_iald (n := 22) (g := zread_15) hx hb hK hW 13 rfl dX5_redraw_52 (by omega) ?_
      refine z_icmp_ne (tgt := 60) hx hb dX5_redraw_53 (by decide) (by omega) (fun cc_53 => ?_) (fun cc_53 => ?_)
      · refine lv_iconst (v := zI (0)) hx hb dX5_redraw_60 rfl ?_
        refine lv_istore (lv' := [(5, .int (zI 0)), (4, .int (zI (inC (L.take kq) pq.2.1))), (3, .int (zI rr_15)), (2, .int (zI rr_2)), (0, .ref (a 0)), (1, .int (zI y1))]) hx hb dX5_redraw_61 hl (by decide) rfl (fun ls hl => ?_)
        refine lv_aload_n hx hb dX5_redraw_63 rfl (lv_at hl 4 rfl) ?_
        refine lv_iload_n hx hb dX5_redraw_64 rfl (lv_at hl 3 rfl) ?_
        refine z_callV (r := (RX5, TX5, 18)) (As := [.int (zI rr_2)]) (rest := []) hS hK hA hW hl.1 [0] [] (kX5_takesOut l D cI cB a ((mm_read_ (mm_spot_ (mm_kept_ b (zkept_31)) (zspot_15)) (zread_15))) rr_2 L O ev ev kq pq hM hlq.1 hrk) (cwV 1 hts gX5_redraw_X5_takesOut rfl rfl rfl (by decide +kernel) ⟨Nat.le_of_ble_eq_true rfl, Nat.le_of_ble_eq_true rfl⟩) (rfl : vwCl[5]? = some (RX5, TX5, 18)) (q0 := 0) rfl dX5_redraw_65 rfl rfl rfl rfl rfl (Nat.le_of_ble_eq_true rfl) ⟨Nat.le_of_ble_eq_true rfl, Nat.le_of_ble_eq_true rfl⟩ (fun v9 w9 H locs hq hW => ?_)
        obtain ⟨zall_65, zout_65, rfl, rfl, hh_65⟩ := hq
        have hW : zW D A s.heap [zMod2 cI a (mm_read_ (mm_spot_ (mm_out_ (mm_kept_ (mm_all_ b (zall_65)) (zkept_31)) (zout_65)) (zspot_15)) (zread_15))] H locs := hW
        refine W.eq (g2 := F0 m 68 ls []) rfl ?_
        have hMe := hh_65.1
        have hel : (L.eraseIdx kq).length = L.length - 1 := List.length_eraseIdx_of_lt hkl
        refine lv_aload_n hx hb dX5_redraw_68 rfl (lv_at hl 4 rfl) ?_
        refine lv_iload_n hx hb dX5_redraw_69 rfl (lv_at hl 5 rfl) ?_
        refine z_callV (r := (RX5, TX5, 18)) (As := [.int (zI y1)]) (rest := []) hS hK hA hW hl.1 [0] [] (kX5_takesRead l D cI cB a ((mm_read_ (mm_spot_ (mm_out_ (mm_kept_ (mm_all_ b (zall_65)) (zkept_31)) (zout_65)) (zspot_15)) (zread_15))) y1 ((prs (sgM (mm_txt b) (mm_tl b)) (mm_tl b)).2.1) ((prs (sgM (mm_txt b) (mm_tl b)) (mm_tl b)).2.2.1) ((prs (sgM (mm_txt b) (mm_tl b)) (mm_tl b)).2.2.2) hrd9 hok.2.2.2.1) (cwV 1 hts gX5_redraw_X5_takesRead rfl rfl rfl (by decide +kernel) ⟨Nat.le_of_ble_eq_true rfl, Nat.le_of_ble_eq_true rfl⟩) (rfl : vwCl[5]? = some (RX5, TX5, 18)) (q0 := 0) rfl dX5_redraw_70 rfl rfl rfl rfl rfl (Nat.le_of_ble_eq_true rfl) ⟨Nat.le_of_ble_eq_true rfl, Nat.le_of_ble_eq_true rfl⟩ (fun v9 w9 H locs hq hW => ?_)
        obtain ⟨zout_70, rfl, rfl, hh_70⟩ := hq
        have hW : zW D A s.heap [zMod2 cI a (mm_read_ (mm_spot_ (mm_out_ (mm_kept_ (mm_all_ b (zall_65)) (zkept_31)) (zout_70)) (zspot_15)) (zread_15))] H locs := hW
        refine W.eq (g2 := F0 m 73 ls []) rfl ?_
        have ho : rowO zout_70 (y1, (prs (sgM (mm_txt b) (mm_tl b)) (mm_tl b)).2) := hh_70
        have ho1 : zout_70 1 = (prs (sgM (mm_txt b) (mm_tl b)) (mm_tl b)).2.1 := ho.2.1
        have ho3 : zout_70 3 = ((prs (sgM (mm_txt b) (mm_tl b)) (mm_tl b)).2.2.2.length : Int) := ho.2.2.2.1
        refine lv_aload_n hx hb dX5_redraw_73 rfl (lv_at hl 4 rfl) ?_
        refine lv_iload hx hb dX5_redraw_74 (lv_at hl 0 rfl) ?_
        refine z_if_eq (tgt := 84) hx hb dX5_redraw_76 (by decide) (by omega) (fun cc_76 => ?_) (fun cc_76 => ?_)
        · refine lv_aload_n hx hb dX5_redraw_84 rfl (lv_at hl 4 rfl) ?_
          refine lv_aload_n hx hb dX5_redraw_85 rfl (lv_at hl 4 rfl) ?_
          refine va_get (D := D) (ci := 5) (v := .ref (a 6)) (C := RX5) (T := TX5) (N := 18) hx hb hts iX5_redraw_X5 hown hK.1 hW.1 0 rfl rfl 7 (by decide) (hts _ mX5_redraw_2) (fun _ h9 => h9) rfl dX5_redraw_86 ?_
          refine lv_iconst (v := zI (1)) hx hb dX5_redraw_89 rfl ?_
          refine z_iald (n := 22) (g := zout_70) hx hb hK hW 6 rfl dX5_redraw_90 (by omega) ?_
          refine z_callV (r := (RX5, TX5, 18)) (As := [.int (zI (zout_70 1))]) (rest := [.ref (a 0)]) hS hK hA hW hl.1 [0] [] (kX5_panelsOf l D cI cB a ((mm_read_ (mm_spot_ (mm_out_ (mm_kept_ (mm_all_ b (zall_65)) (zkept_31)) (zout_70)) (zspot_15)) (zread_15))) (zout_70 1) ((L.eraseIdx kq)) O ev ev hMe (by omega)) (cwV 1 hts gX5_redraw_X5_panelsOf rfl rfl rfl (by decide +kernel) ⟨Nat.le_of_ble_eq_true rfl, Nat.le_of_ble_eq_true rfl⟩) (rfl : vwCl[5]? = some (RX5, TX5, 18)) (q0 := 0) rfl dX5_redraw_91 rfl rfl rfl rfl rfl (Nat.le_of_ble_eq_true rfl) ⟨Nat.le_of_ble_eq_true rfl, Nat.le_of_ble_eq_true rfl⟩ (fun v9 w9 H locs hq hW => ?_)
          obtain ⟨rr_91, rfl, rfl, hh_91⟩ := hq
          subst rr_91
          have hW : zW D A s.heap [zMod2 cI a (mm_read_ (mm_spot_ (mm_out_ (mm_kept_ (mm_all_ b (zall_65)) (zkept_31)) (zout_70)) (zspot_15)) (zread_15))] H locs := hW
          refine W.eq (g2 := F0 m 94 ls [.int (zI (inC ((L.eraseIdx kq)) (zout_70 1))), .ref (a 0)]) rfl ?_
          rw [show (inC ((L.eraseIdx kq)) (zout_70 1)) = (inC (L.eraseIdx kq) (prs (sgM (mm_txt b) (mm_tl b)) (mm_tl b)).2.1) by rw [ho1]]
          refine z_callV (r := (RX5, TX5, 18)) (As := [.int (zI (inC (L.eraseIdx kq) (prs (sgM (mm_txt b) (mm_tl b)) (mm_tl b)).2.1))]) (rest := []) hS hK hA hW hl.1 [0] [] (kX5_putsIn l D cI cB a ((mm_read_ (mm_spot_ (mm_out_ (mm_kept_ (mm_all_ b (zall_65)) (zkept_31)) (zout_70)) (zspot_15)) (zread_15))) (inC (L.eraseIdx kq) (prs (sgM (mm_txt b) (mm_tl b)) (mm_tl b)).2.1) ((L.eraseIdx kq)) O ev ev ((y1, (prs (sgM (mm_txt b) (mm_tl b)) (mm_tl b)).2)) hMe (by omega) ho (⟨hok, hpx ▸ hpo.2⟩) ((fun q hq => (hpx ▸ (erase_new hM.2.2.2.2.2.2.2.1 hlq.1 q hq : q.1 ≠ pq.1) : q.1 ≠ y1))) (by first | exact ⟨by omega, by rw [← show pq.2.1 = (prs (sgM (mm_txt b) (mm_tl b)) (mm_tl b)).2.1 by omega]; exact inC_tke pq.2.1 hkl⟩ | (have hq := inC_tk (L.eraseIdx kq) 0 (prs (sgM (mm_txt b) (mm_tl b)) (mm_tl b)).2.1; exact ⟨by omega, Int.le_refl _⟩))) (cwV 1 hts gX5_redraw_X5_putsIn rfl rfl rfl (by decide +kernel) ⟨Nat.le_of_ble_eq_true rfl, Nat.le_of_ble_eq_true rfl⟩) (rfl : vwCl[5]? = some (RX5, TX5, 18)) (q0 := 0) rfl dX5_redraw_94 rfl rfl rfl rfl rfl (Nat.le_of_ble_eq_true rfl) ⟨Nat.le_of_ble_eq_true rfl, Nat.le_of_ble_eq_true rfl⟩ (fun v9 w9 H locs hq hW => ?_)
          obtain ⟨zall_94, rfl, rfl, hh_94⟩ := hq
          have hW : zW D A s.heap [zMod2 cI a (mm_read_ (mm_spot_ (mm_out_ (mm_kept_ (mm_all_ b (zall_94)) (zkept_31)) (zout_70)) (zspot_15)) (zread_15))] H locs := hW
          refine W.eq (g2 := F0 m 97 ls []) rfl ?_
          obtain ⟨L2, hM2, he2⟩ := hh_94
          refine lv_aload_n hx hb dX5_redraw_97 rfl (lv_at hl 4 rfl) ?_
          refine lv_aload_n hx hb dX5_redraw_98 rfl (lv_at hl 4 rfl) ?_
          refine va_get (D := D) (ci := 5) (v := .ref (a 6)) (C := RX5) (T := TX5) (N := 18) hx hb hts iX5_redraw_X5 hown hK.1 hW.1 0 rfl rfl 7 (by decide) (hts _ mX5_redraw_2) (fun _ h9 => h9) rfl dX5_redraw_99 ?_
          refine lv_iconst (v := zI (3)) hx hb dX5_redraw_102 rfl ?_
          refine z_iald (n := 22) (g := zout_70) hx hb hK hW 6 rfl dX5_redraw_103 (by omega) ?_
          refine z_callV (r := (RX5, TX5, 18)) (As := [.int (zI (zout_70 3))]) (rest := []) hS hK hA hW hl.1 [0] [] (kX5_acted l D cI cB a ((mm_read_ (mm_spot_ (mm_out_ (mm_kept_ (mm_all_ b (zall_94)) (zkept_31)) (zout_70)) (zspot_15)) (zread_15))) (zout_70 3) hs ((ordC L O, O, ev)) hH hh_31 (by omega)) (cwV 1 hts gX5_redraw_X5_acted rfl rfl rfl (by decide +kernel) ⟨Nat.le_of_ble_eq_true rfl, Nat.le_of_ble_eq_true rfl⟩) (rfl : vwCl[5]? = some (RX5, TX5, 18)) (q0 := 0) rfl dX5_redraw_104 rfl rfl rfl rfl rfl (Nat.le_of_ble_eq_true rfl) ⟨Nat.le_of_ble_eq_true rfl, Nat.le_of_ble_eq_true rfl⟩ (fun v9 w9 H locs hq hW => ?_)
          obtain ⟨rr_104, zhis_104, zhl_104, rfl, rfl, hh_104⟩ := hq
          have hW : zW D A s.heap [zMod2 cI a (mm_read_ (mm_spot_ (mm_out_ (mm_hl_ (mm_his_ (mm_kept_ (mm_all_ b (zall_94)) (zkept_31)) (zhis_104)) (zhl_104)) (zout_70)) (zspot_15)) (zread_15))] H locs := hW
          refine W.eq (g2 := F0 m 107 ls [.int (zI rr_104)]) rfl ?_
          have hHz := hh_104.2
          rw [show rr_104 = (((prs (sgM (mm_txt b) (mm_tl b)) (mm_tl b)).2.2.2.length : Int)) by exact hh_104.1.trans ho3]
          exact z_iret (v := ((prs (sgM (mm_txt b) (mm_tl b)) (mm_tl b)).2.2.2.length : Int)) hx hb hr hlk hW dX5_redraw_107 (by
              exact ⟨((prs (sgM (mm_txt b) (mm_tl b)) (mm_tl b)).2.2.2.length : Int), zall_94, zkept_31, zhis_104, zhl_104, zout_70, zspot_15, zread_15, rfl, rfl, by exact ⟨_, _, Or.inr ⟨jq, pq, hjp, Or.inr ⟨by omega, rfl, rfl, rfl⟩⟩, ⟨L2, hM2, by first | exact (red_old2 (P := (prs (sgM (mm_txt b) (mm_tl b)) (mm_tl b)).2) hM hlq hpx (show pq.2.1 = (prs (sgM (mm_txt b) (mm_tl b)) (mm_tl b)).2.1 by omega) he2).symm | exact (red_new hM hlq hpx (show pq.2.1 ≠ (prs (sgM (mm_txt b) (mm_tl b)) (mm_tl b)).2.1 by omega) he2).symm⟩, hHz⟩⟩)
        · exact absurd cc_76 (by omega)
      · refine lv_iconst (v := zI (1)) hx hb dX5_redraw_56 rfl ?_
        refine lv_goto (tgt := 61) hx hb dX5_redraw_57 (by decide) ?_
        refine lv_istore (lv' := [(5, .int (zI 1)), (4, .int (zI (inC (L.take kq) pq.2.1))), (3, .int (zI rr_15)), (2, .int (zI rr_2)), (0, .ref (a 0)), (1, .int (zI y1))]) hx hb dX5_redraw_61 hl (by decide) rfl (fun ls hl => ?_)
        refine lv_aload_n hx hb dX5_redraw_63 rfl (lv_at hl 4 rfl) ?_
        refine lv_iload_n hx hb dX5_redraw_64 rfl (lv_at hl 3 rfl) ?_
        refine z_callV (r := (RX5, TX5, 18)) (As := [.int (zI rr_2)]) (rest := []) hS hK hA hW hl.1 [0] [] (kX5_takesOut l D cI cB a ((mm_read_ (mm_spot_ (mm_kept_ b (zkept_31)) (zspot_15)) (zread_15))) rr_2 L O ev ev kq pq hM hlq.1 hrk) (cwV 1 hts gX5_redraw_X5_takesOut rfl rfl rfl (by decide +kernel) ⟨Nat.le_of_ble_eq_true rfl, Nat.le_of_ble_eq_true rfl⟩) (rfl : vwCl[5]? = some (RX5, TX5, 18)) (q0 := 0) rfl dX5_redraw_65 rfl rfl rfl rfl rfl (Nat.le_of_ble_eq_true rfl) ⟨Nat.le_of_ble_eq_true rfl, Nat.le_of_ble_eq_true rfl⟩ (fun v9 w9 H locs hq hW => ?_)
        obtain ⟨zall_65, zout_65, rfl, rfl, hh_65⟩ := hq
        have hW : zW D A s.heap [zMod2 cI a (mm_read_ (mm_spot_ (mm_out_ (mm_kept_ (mm_all_ b (zall_65)) (zkept_31)) (zout_65)) (zspot_15)) (zread_15))] H locs := hW
        refine W.eq (g2 := F0 m 68 ls []) rfl ?_
        have hMe := hh_65.1
        have hel : (L.eraseIdx kq).length = L.length - 1 := List.length_eraseIdx_of_lt hkl
        refine lv_aload_n hx hb dX5_redraw_68 rfl (lv_at hl 4 rfl) ?_
        refine lv_iload_n hx hb dX5_redraw_69 rfl (lv_at hl 5 rfl) ?_
        refine z_callV (r := (RX5, TX5, 18)) (As := [.int (zI y1)]) (rest := []) hS hK hA hW hl.1 [0] [] (kX5_takesRead l D cI cB a ((mm_read_ (mm_spot_ (mm_out_ (mm_kept_ (mm_all_ b (zall_65)) (zkept_31)) (zout_65)) (zspot_15)) (zread_15))) y1 ((prs (sgM (mm_txt b) (mm_tl b)) (mm_tl b)).2.1) ((prs (sgM (mm_txt b) (mm_tl b)) (mm_tl b)).2.2.1) ((prs (sgM (mm_txt b) (mm_tl b)) (mm_tl b)).2.2.2) hrd9 hok.2.2.2.1) (cwV 1 hts gX5_redraw_X5_takesRead rfl rfl rfl (by decide +kernel) ⟨Nat.le_of_ble_eq_true rfl, Nat.le_of_ble_eq_true rfl⟩) (rfl : vwCl[5]? = some (RX5, TX5, 18)) (q0 := 0) rfl dX5_redraw_70 rfl rfl rfl rfl rfl (Nat.le_of_ble_eq_true rfl) ⟨Nat.le_of_ble_eq_true rfl, Nat.le_of_ble_eq_true rfl⟩ (fun v9 w9 H locs hq hW => ?_)
        obtain ⟨zout_70, rfl, rfl, hh_70⟩ := hq
        have hW : zW D A s.heap [zMod2 cI a (mm_read_ (mm_spot_ (mm_out_ (mm_kept_ (mm_all_ b (zall_65)) (zkept_31)) (zout_70)) (zspot_15)) (zread_15))] H locs := hW
        refine W.eq (g2 := F0 m 73 ls []) rfl ?_
        have ho : rowO zout_70 (y1, (prs (sgM (mm_txt b) (mm_tl b)) (mm_tl b)).2) := hh_70
        have ho1 : zout_70 1 = (prs (sgM (mm_txt b) (mm_tl b)) (mm_tl b)).2.1 := ho.2.1
        have ho3 : zout_70 3 = ((prs (sgM (mm_txt b) (mm_tl b)) (mm_tl b)).2.2.2.length : Int) := ho.2.2.2.1
        refine lv_aload_n hx hb dX5_redraw_73 rfl (lv_at hl 4 rfl) ?_
        refine lv_iload hx hb dX5_redraw_74 (lv_at hl 0 rfl) ?_
        refine z_if_eq (tgt := 84) hx hb dX5_redraw_76 (by decide) (by omega) (fun cc_76 => ?_) (fun cc_76 => ?_)
        · exact absurd cc_76 (by omega)
        · refine lv_iload hx hb dX5_redraw_79 (lv_at hl 1 rfl) ?_
          refine lv_goto (tgt := 94) hx hb dX5_redraw_81 (by decide) ?_
          refine z_callV (r := (RX5, TX5, 18)) (As := [.int (zI (inC (L.take kq) pq.2.1))]) (rest := []) hS hK hA hW hl.1 [0] [] (kX5_putsIn l D cI cB a ((mm_read_ (mm_spot_ (mm_out_ (mm_kept_ (mm_all_ b (zall_65)) (zkept_31)) (zout_70)) (zspot_15)) (zread_15))) (inC (L.take kq) pq.2.1) ((L.eraseIdx kq)) O ev ev ((y1, (prs (sgM (mm_txt b) (mm_tl b)) (mm_tl b)).2)) hMe (by omega) ho (⟨hok, hpx ▸ hpo.2⟩) ((fun q hq => (hpx ▸ (erase_new hM.2.2.2.2.2.2.2.1 hlq.1 q hq : q.1 ≠ pq.1) : q.1 ≠ y1))) (by first | exact ⟨by omega, by rw [← show pq.2.1 = (prs (sgM (mm_txt b) (mm_tl b)) (mm_tl b)).2.1 by omega]; exact inC_tke pq.2.1 hkl⟩ | (have hq := inC_tk (L.eraseIdx kq) 0 (prs (sgM (mm_txt b) (mm_tl b)) (mm_tl b)).2.1; exact ⟨by omega, Int.le_refl _⟩))) (cwV 1 hts gX5_redraw_X5_putsIn rfl rfl rfl (by decide +kernel) ⟨Nat.le_of_ble_eq_true rfl, Nat.le_of_ble_eq_true rfl⟩) (rfl : vwCl[5]? = some (RX5, TX5, 18)) (q0 := 0) rfl dX5_redraw_94 rfl rfl rfl rfl rfl (Nat.le_of_ble_eq_true rfl) ⟨Nat.le_of_ble_eq_true rfl, Nat.le_of_ble_eq_true rfl⟩ (fun v9 w9 H locs hq hW => ?_)
          obtain ⟨zall_94, rfl, rfl, hh_94⟩ := hq
          have hW : zW D A s.heap [zMod2 cI a (mm_read_ (mm_spot_ (mm_out_ (mm_kept_ (mm_all_ b (zall_94)) (zkept_31)) (zout_70)) (zspot_15)) (zread_15))] H locs := hW
          refine W.eq (g2 := F0 m 97 ls []) rfl ?_
          obtain ⟨L2, hM2, he2⟩ := hh_94
          refine lv_aload_n hx hb dX5_redraw_97 rfl (lv_at hl 4 rfl) ?_
          refine lv_aload_n hx hb dX5_redraw_98 rfl (lv_at hl 4 rfl) ?_
          refine va_get (D := D) (ci := 5) (v := .ref (a 6)) (C := RX5) (T := TX5) (N := 18) hx hb hts iX5_redraw_X5 hown hK.1 hW.1 0 rfl rfl 7 (by decide) (hts _ mX5_redraw_2) (fun _ h9 => h9) rfl dX5_redraw_99 ?_
          refine lv_iconst (v := zI (3)) hx hb dX5_redraw_102 rfl ?_
          refine z_iald (n := 22) (g := zout_70) hx hb hK hW 6 rfl dX5_redraw_103 (by omega) ?_
          refine z_callV (r := (RX5, TX5, 18)) (As := [.int (zI (zout_70 3))]) (rest := []) hS hK hA hW hl.1 [0] [] (kX5_acted l D cI cB a ((mm_read_ (mm_spot_ (mm_out_ (mm_kept_ (mm_all_ b (zall_94)) (zkept_31)) (zout_70)) (zspot_15)) (zread_15))) (zout_70 3) hs ((ordC L O, O, ev)) hH hh_31 (by omega)) (cwV 1 hts gX5_redraw_X5_acted rfl rfl rfl (by decide +kernel) ⟨Nat.le_of_ble_eq_true rfl, Nat.le_of_ble_eq_true rfl⟩) (rfl : vwCl[5]? = some (RX5, TX5, 18)) (q0 := 0) rfl dX5_redraw_104 rfl rfl rfl rfl rfl (Nat.le_of_ble_eq_true rfl) ⟨Nat.le_of_ble_eq_true rfl, Nat.le_of_ble_eq_true rfl⟩ (fun v9 w9 H locs hq hW => ?_)
          obtain ⟨rr_104, zhis_104, zhl_104, rfl, rfl, hh_104⟩ := hq
          have hW : zW D A s.heap [zMod2 cI a (mm_read_ (mm_spot_ (mm_out_ (mm_hl_ (mm_his_ (mm_kept_ (mm_all_ b (zall_94)) (zkept_31)) (zhis_104)) (zhl_104)) (zout_70)) (zspot_15)) (zread_15))] H locs := hW
          refine W.eq (g2 := F0 m 107 ls [.int (zI rr_104)]) rfl ?_
          have hHz := hh_104.2
          rw [show rr_104 = (((prs (sgM (mm_txt b) (mm_tl b)) (mm_tl b)).2.2.2.length : Int)) by exact hh_104.1.trans ho3]
          exact z_iret (v := ((prs (sgM (mm_txt b) (mm_tl b)) (mm_tl b)).2.2.2.length : Int)) hx hb hr hlk hW dX5_redraw_107 (by
              exact ⟨((prs (sgM (mm_txt b) (mm_tl b)) (mm_tl b)).2.2.2.length : Int), zall_94, zkept_31, zhis_104, zhl_104, zout_70, zspot_15, zread_15, rfl, rfl, by exact ⟨_, _, Or.inr ⟨jq, pq, hjp, Or.inr ⟨by omega, rfl, rfl, rfl⟩⟩, ⟨L2, hM2, by first | exact (red_old2 (P := (prs (sgM (mm_txt b) (mm_tl b)) (mm_tl b)).2) hM hlq hpx (show pq.2.1 = (prs (sgM (mm_txt b) (mm_tl b)) (mm_tl b)).2.1 by omega) he2).symm | exact (red_new hM hlq hpx (show pq.2.1 ≠ (prs (sgM (mm_txt b) (mm_tl b)) (mm_tl b)).2.1 by omega) he2).symm⟩, hHz⟩⟩)
    · refine lv_bipush (v := zI (-100)) hx hb dX5_redraw_25 (by decide +kernel) ?_
      refine lv_iload_n hx hb dX5_redraw_27 rfl (lv_at hl 0 rfl) ?_
      refine z_isub hx hb dX5_redraw_28 ?_
      exact z_iret (v := ((-100)) - rr_15) hx hb hr hlk hW dX5_redraw_29 (by
          exact ⟨((-100)) - rr_15, mm_all b, mm_kept b, mm_his b, mm_hl b, mm_out b, zspot_15, zread_15, rfl, rfl, by exact ⟨_, _, Or.inr ⟨jq, pq, hjp, Or.inl ⟨by omega, by omega, rfl, rfl⟩⟩, RM_MR hM, hH⟩⟩)
  · have hnp := lieC_no hlc (by omega)
    refine lv_iconst (v := zI (-1)) hx hb dX5_redraw_12 rfl ?_
    exact z_iret (v := (-1)) hx hb hr hlk hW dX5_redraw_13 (by
        exact ⟨(-1), mm_all b, mm_kept b, mm_his b, mm_hl b, mm_out b, mm_spot b, mm_read b, rfl, rfl, by exact ⟨_, _, Or.inl ⟨hnp, rfl, rfl, rfl⟩, RM_MR hM, hH⟩⟩)

abbrev qX5_takeAway (cI : ClassId) (a : Nat → Nat) (b : zM2) (y1 : Int) (L : List zPn) (O : List Int) (ev : Int) (hs : List zSt) : Option Value → List va_W → Prop := fun vq wq => ∃ (r : Int) (zall : Int → Int) (zkept : Int → Int) (zhis : Int → Int) (zhl : Int) (zout : Int → Int), vq = some (.int (zI r)) ∧ wq = [zMod2 cI a (mm_out_ (mm_hl_ (mm_his_ (mm_kept_ (mm_all_ b zall) zkept) zhis) zhl) zout)] ∧ (∃ (S2 : zSt) (hs2 : List zSt), tkaR (ordC L O) O ev hs y1 r S2 hs2 ∧ MR zall S2 ∧ MH zhl zhis hs2)
set_option maxRecDepth 20000 in
theorem iX5_takeAway_X5 : ∀ w ∈ u_ws RX5 TX5 18, w ∈ wsX5_takeAway := by decide +kernel
set_option maxRecDepth 20000 in
theorem mX5_takeAway_1 : (.fieldLink RX5 7 "StoryPanelsModel" "all" "[I" : Cond) ∈ wsX5_takeAway := by decide +kernel
set_option maxHeartbeats 4000000 in
set_option maxRecDepth 100000 in
theorem kX5_takeAway (l : Launch) (D : va_G) (cI cB : ClassId) (a : Nat → Nat) (b : zM2) (y1 : Int) (L : List zPn) (O : List Int) (ev : Int) (hs : List zSt) (hM : RM (mm_all b) L O ev) (hH : MH (mm_hl b) (mm_his b) hs) (hy1 : R32 y1) : zMet l yX5_takeAway wsX5_takeAway 2 44 0 0 D cI cB [.ref (a 0), .int (zI y1)] [zMod2 cI a b] (qX5_takeAway cI a b y1 L O ev hs) := by
  refine zMet.of (cd := cX5_takeAway) (maxL := 3) (ret := (some .int)) (by decide) rfl (Nat.le_of_ble_eq_true rfl) ?_
  intro p e s m args below meth c A ls hS hr hlk hnm hK hA hW hl
  have hS : CallFix p m c cX5_takeAway 3 s args wsX5_takeAway RX5 := hS
  have hx := hS.1
  have hb := hS.2.1
  have hown := hS.2.2.2.1
  have hts := hS.2.2.2.2
  have hl : lv_has ls 3 [(0, .ref (a 0)), (1, .int (zI y1))] := hl
  have hM1 := hM.2.1
  have hM3 := hM.2.2.1
  have hln := ordC_ln hM
  have hM0 := hM.1
  have hM4 := hM.2.2.2.1
  refine lv_aload_n hx hb dX5_takeAway_0 rfl (lv_at hl 0 rfl) ?_
  refine lv_iload_n hx hb dX5_takeAway_1 rfl (lv_at hl 1 rfl) ?_
  refine z_callV (r := (RX5, TX5, 18)) (As := [.int (zI y1)]) (rest := []) hS hK hA hW hl.1 [0] [] (kX5_lieOf l D cI cB a b y1 L O ev ev hM (by omega)) (cwV 1 hts gX5_takeAway_X5_lieOf rfl rfl rfl (by decide +kernel) ⟨Nat.le_of_ble_eq_true rfl, Nat.le_of_ble_eq_true rfl⟩) (rfl : vwCl[5]? = some (RX5, TX5, 18)) (q0 := 0) rfl dX5_takeAway_2 rfl rfl rfl rfl rfl (Nat.le_of_ble_eq_true rfl) ⟨Nat.le_of_ble_eq_true rfl, Nat.le_of_ble_eq_true rfl⟩ (fun v9 w9 H locs hq hW => ?_)
  obtain ⟨rr_2, rfl, rfl, hh_2⟩ := hq
  have hW : zW D A s.heap [zMod2 cI a b] H locs := hW
  refine W.eq (g2 := F0 m 5 ls [.int (zI rr_2)]) rfl ?_
  have hlc : lieC L O (mm_all b) ev y1 rr_2 := lie_c hM hh_2
  have hlr := lieC_rg hlc hM3
  clear hh_2
  refine lv_istore_n (lv' := [(2, .int (zI rr_2)), (0, .ref (a 0)), (1, .int (zI y1))]) hx hb dX5_takeAway_5 rfl hl (by decide) rfl (fun ls hl => ?_)
  refine lv_iload_n hx hb dX5_takeAway_6 rfl (lv_at hl 0 rfl) ?_
  refine lv_bipush (v := zI (-5)) hx hb dX5_takeAway_7 (by decide +kernel) ?_
  refine z_icmp_ne (tgt := 14) hx hb dX5_takeAway_9 (by decide) (by omega) (fun cc_9 => ?_) (fun cc_9 => ?_)
  · obtain ⟨kq, jq, pq, ⟨hlq, hpx⟩, ⟨hkl, hrk⟩, hjp, hpo, hrw⟩ := lieC_yes hlc (by omega)
    have hp1 := hpo.1.1
    have hp2 := hpo.1.2.1
    have hp3 := hpo.1.2.2.1
    have hp4 := hpo.1.2.2.2.1
    refine lv_aload_n hx hb dX5_takeAway_14 rfl (lv_at hl 1 rfl) ?_
    refine z_callV (r := (RX5, TX5, 18)) (As := []) (rest := []) hS hK hA hW hl.1 [0] [] (kX5_remember l D cI cB a b L O ev hM) (cwV 0 hts gX5_takeAway_X5_remember rfl rfl rfl (by decide +kernel) ⟨Nat.le_of_ble_eq_true rfl, Nat.le_of_ble_eq_true rfl⟩) (rfl : vwCl[5]? = some (RX5, TX5, 18)) (q0 := 0) rfl dX5_takeAway_15 rfl rfl rfl rfl rfl (Nat.le_of_ble_eq_true rfl) ⟨Nat.le_of_ble_eq_true rfl, Nat.le_of_ble_eq_true rfl⟩ (fun v9 w9 H locs hq hW => ?_)
    obtain ⟨zkept_15, rfl, rfl, hh_15⟩ := hq
    have hW : zW D A s.heap [zMod2 cI a (mm_kept_ b (zkept_15))] H locs := hW
    refine W.eq (g2 := F0 m 18 ls []) rfl ?_
    refine lv_aload_n hx hb dX5_takeAway_18 rfl (lv_at hl 1 rfl) ?_
    refine lv_iload_n hx hb dX5_takeAway_19 rfl (lv_at hl 0 rfl) ?_
    refine z_callV (r := (RX5, TX5, 18)) (As := [.int (zI rr_2)]) (rest := []) hS hK hA hW hl.1 [0] [] (kX5_takesOut l D cI cB a ((mm_kept_ b (zkept_15))) rr_2 L O ev ev kq pq hM hlq.1 hrk) (cwV 1 hts gX5_takeAway_X5_takesOut rfl rfl rfl (by decide +kernel) ⟨Nat.le_of_ble_eq_true rfl, Nat.le_of_ble_eq_true rfl⟩) (rfl : vwCl[5]? = some (RX5, TX5, 18)) (q0 := 0) rfl dX5_takeAway_20 rfl rfl rfl rfl rfl (Nat.le_of_ble_eq_true rfl) ⟨Nat.le_of_ble_eq_true rfl, Nat.le_of_ble_eq_true rfl⟩ (fun v9 w9 H locs hq hW => ?_)
    obtain ⟨zall_20, zout_20, rfl, rfl, hh_20⟩ := hq
    have hW : zW D A s.heap [zMod2 cI a (mm_out_ (mm_kept_ (mm_all_ b (zall_20)) (zkept_15)) (zout_20))] H locs := hW
    refine W.eq (g2 := F0 m 23 ls []) rfl ?_
    have hMe := hh_20.1
    have hel : (L.eraseIdx kq).length = L.length - 1 := List.length_eraseIdx_of_lt hkl
    have hz1 := hMe.2.1
    refine lv_aload_n hx hb dX5_takeAway_23 rfl (lv_at hl 1 rfl) ?_
    refine lv_aload_n hx hb dX5_takeAway_24 rfl (lv_at hl 1 rfl) ?_
    refine va_get (D := D) (ci := 5) (v := .ref (a 1)) (C := RX5) (T := TX5) (N := 18) hx hb hts iX5_takeAway_X5 hown hK.1 hW.1 0 rfl rfl 0 (by decide) (hts _ mX5_takeAway_1) (fun _ h9 => h9) rfl dX5_takeAway_25 ?_
    refine lv_iconst (v := zI (1)) hx hb dX5_takeAway_28 rfl ?_
    refine z_iald (n := 227) (g := zall_20) hx hb hK hW 1 rfl dX5_takeAway_29 (by omega) ?_
    refine z_callV (r := (RX5, TX5, 18)) (As := [.int (zI (zall_20 1))]) (rest := []) hS hK hA hW hl.1 [0] [] (kX5_acted l D cI cB a ((mm_out_ (mm_kept_ (mm_all_ b (zall_20)) (zkept_15)) (zout_20))) (zall_20 1) hs ((ordC L O, O, ev)) hH hh_15 (by omega)) (cwV 1 hts gX5_takeAway_X5_acted rfl rfl rfl (by decide +kernel) ⟨Nat.le_of_ble_eq_true rfl, Nat.le_of_ble_eq_true rfl⟩) (rfl : vwCl[5]? = some (RX5, TX5, 18)) (q0 := 0) rfl dX5_takeAway_30 rfl rfl rfl rfl rfl (Nat.le_of_ble_eq_true rfl) ⟨Nat.le_of_ble_eq_true rfl, Nat.le_of_ble_eq_true rfl⟩ (fun v9 w9 H locs hq hW => ?_)
    obtain ⟨rr_30, zhis_30, zhl_30, rfl, rfl, hh_30⟩ := hq
    have hW : zW D A s.heap [zMod2 cI a (mm_out_ (mm_hl_ (mm_his_ (mm_kept_ (mm_all_ b (zall_20)) (zkept_15)) (zhis_30)) (zhl_30)) (zout_20))] H locs := hW
    refine W.eq (g2 := F0 m 33 ls [.int (zI rr_30)]) rfl ?_
    have hHz := hh_30.2
    rw [show rr_30 = (((ordC L O).length : Int) - 1) by exact hh_30.1.trans (by omega)]
    exact z_iret (v := ((ordC L O).length : Int) - 1) hx hb hr hlk hW dX5_takeAway_33 (by
        exact ⟨((ordC L O).length : Int) - 1, zall_20, zkept_15, zhis_30, zhl_30, zout_20, rfl, rfl, by exact ⟨_, _, Or.inr ⟨jq, pq, hjp, rfl, rfl, rfl⟩, ⟨L.eraseIdx kq, hMe, hlq.2.2.2.1.symm⟩, hHz⟩⟩)
  · have hnp := lieC_no hlc (by omega)
    refine lv_iconst (v := zI (-1)) hx hb dX5_takeAway_12 rfl ?_
    exact z_iret (v := (-1)) hx hb hr hlk hW dX5_takeAway_13 (by
        exact ⟨(-1), mm_all b, mm_kept b, mm_his b, mm_hl b, mm_out b, rfl, rfl, by exact ⟨_, _, Or.inl ⟨hnp, rfl, rfl, rfl⟩, RM_MR hM, hH⟩⟩)
