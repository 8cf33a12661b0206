abbrev qX5_fault (cI : ClassId) (a : Nat → Nat) (b : zM2) : Option Value → List va_W → Prop := fun vq wq => ∃ (r : Int) (zspot : Int) (zread : Int → Int), vq = some (.int (zI r)) ∧ wq = [zMod2 cI a (mm_read_ (mm_spot_ b zspot) zread)] ∧ (r = fltV (prs (sgM (mm_txt b) (mm_tl b)) (mm_tl b)).1 ∧ ((prs (sgM (mm_txt b) (mm_tl b)) (mm_tl b)).1 = -1 → rowO zread (0, (prs (sgM (mm_txt b) (mm_tl b)) (mm_tl b)).2)))
set_option maxRecDepth 20000 in
theorem iX5_fault_X5 : ∀ w ∈ u_ws RX5 TX5 18, w ∈ wsX5_fault := by decide +kernel
set_option maxRecDepth 20000 in
theorem mX5_fault_1 : (.fieldLink RX5 125 "StoryPanelsModel" "spot" "I" : Cond) ∈ wsX5_fault := by decide +kernel
set_option maxRecDepth 20000 in
theorem mX5_fault_2 : (.fieldLink RX5 46 "StoryPanelsModel" "read" "[I" : Cond) ∈ wsX5_fault := by decide +kernel
set_option maxRecDepth 20000 in
theorem mX5_fault_3 : (.fieldLink RX5 122 "StoryPanelsModel" "textLong" "I" : Cond) ∈ wsX5_fault := by decide +kernel
set_option maxRecDepth 20000 in
theorem mX5_fault_4 : (.fieldLink RX5 43 "StoryPanelsModel" "text" "[I" : Cond) ∈ wsX5_fault := by decide +kernel
set_option maxHeartbeats 4000000 in
set_option maxRecDepth 100000 in
theorem kX5_fault (l : Launch) (D : va_G) (cI cB : ClassId) (a : Nat → Nat) (b : zM2) (hT : TXM (mm_txt b) (mm_tl b)) : zMet l yX5_fault wsX5_fault 3 69 0 0 D cI cB [.ref (a 0)] [zMod2 cI a b] (qX5_fault cI a b) := by
  refine zMet.of (cd := cX5_fault) (maxL := 2) (ret := (some .int)) (by decide) rfl (Nat.le_of_ble_eq_true rfl) ?_
  intro p e s m args below meth c A ls hS hr hlk hnm hK hA hW hl
  have hS : CallFix p m c cX5_fault 2 s args wsX5_fault RX5 := hS
  have hx := hS.1
  have hb := hS.2.1
  have hown := hS.2.2.2.1
  have hts := hS.2.2.2.2
  have hl : lv_has ls 2 [(0, .ref (a 0))] := hl
  have hT1 := hT.1
  refine lv_aload_n hx hb dX5_fault_0 rfl (lv_at hl 0 rfl) ?_
  refine lv_iconst (v := zI (0)) hx hb dX5_fault_1 rfl ?_
  refine va_put (D := D) (ci := 5) (v := .int (zI 0)) (ty := .int) (C := RX5) (T := TX5) (N := 18) hx hb hts iX5_fault_X5 tyX5 tyX5_ok nmX5 hown hK.1 hW.1 hW.2.1 hW.2.2 0 rfl rfl 16 (by decide) (hts _ mX5_fault_1) (fun _ h9 => h9) rfl (by decide +kernel) rfl rfl (Nat.le_of_ble_eq_true rfl) dX5_fault_2 (fun H locs h1 h2 h3 => ?_)
  have hW : zW D A s.heap [zMod2 cI a (mm_spot_ b (0))] H locs := ⟨h1, h2, h3⟩
  refine lv_iconst (v := zI (0)) hx hb dX5_fault_5 rfl ?_
  refine lv_istore_n (lv' := [(1, .int (zI 0)), (0, .ref (a 0))]) hx hb dX5_fault_6 rfl hl (by decide) rfl (fun ls hl => ?_)
  have L7 : ∀ (fu : Nat) (ki : Int) (z0 : Int) (hc : Int → Int), (0 ≤ ki ∧ ki ≤ 22) → (z0 = 0) → (hc = cpF (fun _ => 0) (mm_read b) ki) → (22 - ki) < (fu : Int) → ∀ (H : Heap) (locs : List Loc), zW D A s.heap [zMod2 cI a (mm_read_ (mm_spot_ b (z0)) (hc))] H locs → ∀ (ls : Array Slot), lv_has ls 2 [(0, .ref (a 0)), (1, .int (zI ki))] → W p l e { frames := 3, cells := 0, slots := 0, locals := 69 } s m args below meth c H locs 0 0 (MQ below (zQ A D (qX5_fault cI a b)) args s 0 0 A) (F0 m 7 ls []) := by
    intro fu
    induction fu with
    | zero => intro ki z0 hc hki hz0 hhc hm; exact absurd hm (by omega)
    | succ fu ih7 =>
      intro ki z0 hc hki hz0 hhc hm H locs hW ls hl
      refine lv_iload_n hx hb dX5_fault_7 rfl (lv_at hl 1 rfl) ?_
      refine lv_bipush (v := zI (22)) hx hb dX5_fault_8 (by decide +kernel) ?_
      refine z_icmp_ge (tgt := 26) hx hb dX5_fault_10 (by decide) (by omega) (fun cc_10 => ?_) (fun cc_10 => ?_)
      · have L172 : ∀ (fu : Nat) (sp : Int) (rd : Int → Int) (acc : List zEv), (0 ≤ sp ∧ sp ≤ mm_tl b) → (prL (sgM (mm_txt b) (mm_tl b)) (mm_tl b) sp rd acc) → (6 - (acc.length : Int)) < (fu : Int) → ∀ (H : Heap) (locs : List Loc), zW D A s.heap [zMod2 cI a (mm_read_ (mm_spot_ b (sp)) (rd))] H locs → ∀ (ls : Array Slot), lv_has ls 2 [(0, .ref (a 0))] → W p l e { frames := 3, cells := 0, slots := 0, locals := 69 } s m args below meth c H locs 0 0 (MQ below (zQ A D (qX5_fault cI a b)) args s 0 0 A) (F0 m 172 ls []) := by
          intro fu
          induction fu with
          | zero => intro sp rd acc hsp9 hpl hm; exact absurd hm (by (have hq := hpl.1; omega))
          | succ fu ih172 =>
            intro sp rd acc hsp9 hpl hm H locs hW ls hl
            have hrd3 : rd 3 = (acc.length : Int) := hpl.2.1.2.2.2.1
            have hal := hpl.1
            refine lv_aload_n hx hb dX5_fault_172 rfl (lv_at hl 0 rfl) ?_
            refine va_get (D := D) (ci := 5) (v := .ref (a 13)) (C := RX5) (T := TX5) (N := 18) hx hb hts iX5_fault_X5 hown hK.1 hW.1 0 rfl rfl 17 (by decide) (hts _ mX5_fault_2) (fun _ h9 => h9) rfl dX5_fault_173 ?_
            refine lv_iconst (v := zI (3)) hx hb dX5_fault_176 rfl ?_
            refine z_iald (n := 22) (g := rd) hx hb hK hW 13 rfl dX5_fault_177 (by omega) ?_
            refine lv_bipush (v := zI (6)) hx hb dX5_fault_178 (by decide +kernel) ?_
            refine z_icmp_ge (tgt := 204) hx hb dX5_fault_180 (by decide) (by omega) (fun cc_180 => ?_) (fun cc_180 => ?_)
            · refine lv_aload_n hx hb dX5_fault_204 rfl (lv_at hl 0 rfl) ?_
              refine va_get (D := D) (ci := 5) (v := .int (zI sp)) (C := RX5) (T := TX5) (N := 18) hx hb hts iX5_fault_X5 hown hK.1 hW.1 0 rfl rfl 16 (by decide) (hts _ mX5_fault_1) (fun _ h9 => h9) rfl dX5_fault_205 ?_
              refine lv_aload_n hx hb dX5_fault_208 rfl (lv_at hl 0 rfl) ?_
              refine va_get (D := D) (ci := 5) (v := .int (zI (mm_tl b))) (C := RX5) (T := TX5) (N := 18) hx hb hts iX5_fault_X5 hown hK.1 hW.1 0 rfl rfl 15 (by decide) (hts _ mX5_fault_3) (fun _ h9 => h9) rfl dX5_fault_209 ?_
              refine z_icmp_ne (tgt := 220) hx hb dX5_fault_212 (by decide) (by omega) (fun cc_212 => ?_) (fun cc_212 => ?_)
              · refine lv_aload_n hx hb dX5_fault_220 rfl (lv_at hl 0 rfl) ?_
                refine va_get (D := D) (ci := 5) (v := .int (zI sp)) (C := RX5) (T := TX5) (N := 18) hx hb hts iX5_fault_X5 hown hK.1 hW.1 0 rfl rfl 16 (by decide) (hts _ mX5_fault_1) (fun _ h9 => h9) rfl dX5_fault_221 ?_
                exact z_iret (v := sp) hx hb hr hlk hW dX5_fault_224 (by
                    exact ⟨sp, sp, rd, rfl, rfl, by first | exact flt_ok ((prL_end hpl hsp9 (by omega)).1 (by omega)) | exact flt_bad (((prL_end hpl hsp9 (by omega)).2 (by omega)).trans (by omega)) (by omega)⟩)
              · refine lv_bipush (v := zI (-5)) hx hb dX5_fault_215 (by decide +kernel) ?_
                refine lv_goto (tgt := 224) hx hb dX5_fault_217 (by decide) ?_
                exact z_iret (v := (-5)) hx hb hr hlk hW dX5_fault_224 (by
                    exact ⟨(-5), sp, rd, rfl, rfl, by first | exact flt_ok ((prL_end hpl hsp9 (by omega)).1 (by omega)) | exact flt_bad (((prL_end hpl hsp9 (by omega)).2 (by omega)).trans (by omega)) (by omega)⟩)
            · refine lv_aload_n hx hb dX5_fault_183 rfl (lv_at hl 0 rfl) ?_
              refine lv_bipush (v := zI (44)) hx hb dX5_fault_184 (by decide +kernel) ?_
              refine z_callV (r := (RX5, TX5, 18)) (As := [.int (zI 44)]) (rest := []) hS hK hA hW hl.1 [0] [] (kX5_takes l D cI cB a ((mm_read_ (mm_spot_ b (sp)) (rd))) 44 hT hsp9 (by omega)) (cwV 1 hts gX5_fault_X5_takes rfl rfl rfl (by decide +kernel) ⟨Nat.le_of_ble_eq_true rfl, Nat.le_of_ble_eq_true rfl⟩) (rfl : vwCl[5]? = some (RX5, TX5, 18)) (q0 := 0) rfl dX5_fault_186 rfl rfl rfl rfl rfl (Nat.le_of_ble_eq_true rfl) ⟨Nat.le_of_ble_eq_true rfl, Nat.le_of_ble_eq_true rfl⟩ (fun v9 w9 H locs hq hW => ?_)
              obtain ⟨rr_186, zspot_186, rfl, rfl, hh_186⟩ := hq
              have hW : zW D A s.heap [zMod2 cI a (mm_read_ (mm_spot_ b (zspot_186)) (rd))] H locs := hW
              refine W.eq (g2 := F0 m 189 ls [.int (zI rr_186)]) rfl ?_
              have h186 : (rr_186 = 1 ∧ sp < mm_tl b ∧ sgM (mm_txt b) (mm_tl b) sp = 44 ∧ zspot_186 = sp + 1) ∨ (rr_186 = 0 ∧ sgM (mm_txt b) (mm_tl b) sp ≠ 44 ∧ zspot_186 = sp) := hh_186
              refine z_if_eq (tgt := 204) hx hb dX5_fault_189 (by decide) (by omega) (fun cc_189 => ?_) (fun cc_189 => ?_)
              · refine lv_aload_n hx hb dX5_fault_204 rfl (lv_at hl 0 rfl) ?_
                refine va_get (D := D) (ci := 5) (v := .int (zI zspot_186)) (C := RX5) (T := TX5) (N := 18) hx hb hts iX5_fault_X5 hown hK.1 hW.1 0 rfl rfl 16 (by decide) (hts _ mX5_fault_1) (fun _ h9 => h9) rfl dX5_fault_205 ?_
                refine lv_aload_n hx hb dX5_fault_208 rfl (lv_at hl 0 rfl) ?_
                refine va_get (D := D) (ci := 5) (v := .int (zI (mm_tl b))) (C := RX5) (T := TX5) (N := 18) hx hb hts iX5_fault_X5 hown hK.1 hW.1 0 rfl rfl 15 (by decide) (hts _ mX5_fault_3) (fun _ h9 => h9) rfl dX5_fault_209 ?_
                refine z_icmp_ne (tgt := 220) hx hb dX5_fault_212 (by decide) (by omega) (fun cc_212 => ?_) (fun cc_212 => ?_)
                · refine lv_aload_n hx hb dX5_fault_220 rfl (lv_at hl 0 rfl) ?_
                  refine va_get (D := D) (ci := 5) (v := .int (zI zspot_186)) (C := RX5) (T := TX5) (N := 18) hx hb hts iX5_fault_X5 hown hK.1 hW.1 0 rfl rfl 16 (by decide) (hts _ mX5_fault_1) (fun _ h9 => h9) rfl dX5_fault_221 ?_
                  exact z_iret (v := zspot_186) hx hb hr hlk hW dX5_fault_224 (by
                      exact ⟨zspot_186, zspot_186, rd, rfl, rfl, by first | exact flt_ok ((prL_end hpl hsp9 (by omega)).1 (by omega)) | exact flt_bad (((prL_end hpl hsp9 (by omega)).2 (by omega)).trans (by omega)) (by omega)⟩)
                · refine lv_bipush (v := zI (-5)) hx hb dX5_fault_215 (by decide +kernel) ?_
                  refine lv_goto (tgt := 224) hx hb dX5_fault_217 (by decide) ?_
                  exact z_iret (v := (-5)) hx hb hr hlk hW dX5_fault_224 (by
                      exact ⟨(-5), zspot_186, rd, rfl, rfl, by first | exact flt_ok ((prL_end hpl hsp9 (by omega)).1 (by omega)) | exact flt_bad (((prL_end hpl hsp9 (by omega)).2 (by omega)).trans (by omega)) (by omega)⟩)
              · refine lv_aload_n hx hb dX5_fault_192 rfl (lv_at hl 0 rfl) ?_
                refine z_callV (r := (RX5, TX5, 18)) (As := []) (rest := []) hS hK hA hW hl.1 [0] [] (kX5_readsEvent l D cI cB a ((mm_read_ (mm_spot_ b (zspot_186)) (rd))) ((rd 1)) ((rd 2)) acc hT (by (show 0 ≤ zspot_186 ∧ zspot_186 ≤ mm_tl b; omega)) hpl.2.1 (by omega)) (cwV 0 hts gX5_fault_X5_readsEvent rfl rfl rfl (by decide +kernel) ⟨Nat.le_of_ble_eq_true rfl, Nat.le_of_ble_eq_true rfl⟩) (rfl : vwCl[5]? = some (RX5, TX5, 18)) (q0 := 0) rfl dX5_fault_193 rfl rfl rfl rfl rfl (Nat.le_of_ble_eq_true rfl) ⟨Nat.le_of_ble_eq_true rfl, Nat.le_of_ble_eq_true rfl⟩ (fun v9 w9 H locs hq hW => ?_)
                obtain ⟨rr_193, zspot_193, zread_193, rfl, rfl, hh_193⟩ := hq
                have hW : zW D A s.heap [zMod2 cI a (mm_read_ (mm_spot_ b (zspot_193)) (zread_193))] H locs := hW
                refine W.eq (g2 := F0 m 196 ls [.int (zI rr_193)]) rfl ?_
                have hz186 : zspot_186 = sp + 1 := by omega
                have h193 : (rr_193 = 0 ∧ RE0 (sgM (mm_txt b) (mm_tl b)) zspot_186 zspot_193) ∨ (rr_193 = 1 ∧ RE1 (sgM (mm_txt b) (mm_tl b)) zspot_186 zspot_193 ∧ zspot_193 ≤ mm_tl b ∧ rowO zread_193 (0, rd 1, rd 2, acc ++ [evAt (sgM (mm_txt b) (mm_tl b)) (zspot_186 - 1)])) := hh_193
                rw [hz186, show sp + 1 - 1 = sp by omega] at h193
                have hr193 : rr_193 = 0 ∨ rr_193 = 1 := by rcases h193 with hq | hq; exact Or.inl hq.1; exact Or.inr hq.1
                refine z_if_ne (tgt := 172) hx hb dX5_fault_196 (by decide) (by omega) (fun cc_196 => ?_) (fun cc_196 => ?_)
                · have h193r := h193.resolve_left (fun h => absurd h.1 (by omega))
                  exact ih172 zspot_193 zread_193 (acc ++ [evAt (sgM (mm_txt b) (mm_tl b)) sp]) (by (have hq := RE1_ge h193r.2.1; have hq2 := h193r.2.2.1; omega)) (by exact prL_s hpl (by omega) (by omega) (by omega) h193r.2.1 h193r.2.2.2 rfl rfl) (by rw [List.length_append, List.length_singleton]; omega) _ _ hW ls (lv_sub hl [0] rfl)
                · have h193r := h193.resolve_right (fun h => absurd h.1 (by omega))
                  refine lv_aload_n hx hb dX5_fault_199 rfl (lv_at hl 0 rfl) ?_
                  refine va_get (D := D) (ci := 5) (v := .int (zI zspot_193)) (C := RX5) (T := TX5) (N := 18) hx hb hts iX5_fault_X5 hown hK.1 hW.1 0 rfl rfl 16 (by decide) (hts _ mX5_fault_1) (fun _ h9 => h9) rfl dX5_fault_200 ?_
                  exact z_iret (v := zspot_193) hx hb hr hlk hW dX5_fault_203 (by
                      exact ⟨zspot_193, zspot_193, zread_193, rfl, rfl, by exact flt_bad (prL_bad hpl hsp9.1 (by omega) (by omega) (by omega) h193r.2).1 (prL_bad hpl hsp9.1 (by omega) (by omega) (by omega) h193r.2).2⟩)
        refine lv_aload_n hx hb dX5_fault_26 rfl (lv_at hl 0 rfl) ?_
        refine lv_bipush (v := zI (48)) hx hb dX5_fault_27 (by decide +kernel) ?_
        refine lv_bipush (v := zI (52)) hx hb dX5_fault_29 (by decide +kernel) ?_
        refine z_callV (r := (RX5, TX5, 18)) (As := [.int (zI 48), .int (zI 52)]) (rest := []) hS hK hA hW hl.1 [0] [] (kX5_isHere l D cI cB a ((mm_read_ (mm_spot_ b (z0)) (hc))) 48 52 hT (by (show 0 ≤ z0 ∧ z0 ≤ mm_tl b; omega)) (by omega) (by omega)) (cwV 2 hts gX5_fault_X5_isHere rfl rfl rfl (by decide +kernel) ⟨Nat.le_of_ble_eq_true rfl, Nat.le_of_ble_eq_true rfl⟩) (rfl : vwCl[5]? = some (RX5, TX5, 18)) (q0 := 0) rfl dX5_fault_31 rfl rfl rfl rfl rfl (Nat.le_of_ble_eq_true rfl) ⟨Nat.le_of_ble_eq_true rfl, Nat.le_of_ble_eq_true rfl⟩ (fun v9 w9 H locs hq hW => ?_)
        obtain ⟨rr_31, rfl, rfl, hh_31⟩ := hq
        have hW : zW D A s.heap [zMod2 cI a (mm_read_ (mm_spot_ b (z0)) (hc))] H locs := hW
        refine W.eq (g2 := F0 m 34 ls [.int (zI rr_31)]) rfl ?_
        have h31 : (rr_31 = 1 ∧ z0 < mm_tl b ∧ 48 ≤ sgM (mm_txt b) (mm_tl b) (z0) ∧ sgM (mm_txt b) (mm_tl b) (z0) ≤ 52) ∨ (rr_31 = 0 ∧ (sgM (mm_txt b) (mm_tl b) (z0) < 48 ∨ 52 < sgM (mm_txt b) (mm_tl b) (z0))) := hh_31
        rw [hz0] at h31
        refine z_if_ne (tgt := 42) hx hb dX5_fault_34 (by decide) (by omega) (fun cc_34 => ?_) (fun cc_34 => ?_)
        · have hs0 := (sgM_rg hT (i := 0) (by omega)).2.1 (by omega)
          have hx0 : mm_txt b z0 = sgM (mm_txt b) (mm_tl b) 0 := by rw [hz0]; exact hs0.1.symm
          refine lv_aload_n hx hb dX5_fault_42 rfl (lv_at hl 0 rfl) ?_
          refine va_get (D := D) (ci := 5) (v := .ref (a 13)) (C := RX5) (T := TX5) (N := 18) hx hb hts iX5_fault_X5 hown hK.1 hW.1 0 rfl rfl 17 (by decide) (hts _ mX5_fault_2) (fun _ h9 => h9) rfl dX5_fault_43 ?_
          refine lv_iconst (v := zI (1)) hx hb dX5_fault_46 rfl ?_
          refine lv_aload_n hx hb dX5_fault_47 rfl (lv_at hl 0 rfl) ?_
          refine va_get (D := D) (ci := 5) (v := .ref (a 12)) (C := RX5) (T := TX5) (N := 18) hx hb hts iX5_fault_X5 hown hK.1 hW.1 0 rfl rfl 14 (by decide) (hts _ mX5_fault_4) (fun _ h9 => h9) rfl dX5_fault_48 ?_
          refine lv_aload_n hx hb dX5_fault_51 rfl (lv_at hl 0 rfl) ?_
          refine va_get (D := D) (ci := 5) (v := .int (zI z0)) (C := RX5) (T := TX5) (N := 18) hx hb hts iX5_fault_X5 hown hK.1 hW.1 0 rfl rfl 16 (by decide) (hts _ mX5_fault_1) (fun _ h9 => h9) rfl dX5_fault_52 ?_
          refine z_iald (n := 60) (g := mm_txt b) hx hb hK hW 12 rfl dX5_fault_55 (by omega) ?_
          refine lv_bipush (v := zI (48)) hx hb dX5_fault_56 (by decide +kernel) ?_
          refine z_isub hx hb dX5_fault_58 ?_
          refine z_iast (n := 22) (g := hc) (bs1 := [zMod2 cI a (mm_read_ (mm_spot_ b (z0)) (zU hc 1 (((mm_txt b) z0) - 48)))]) hx hb hK hW 13 rfl dX5_fault_59 (by omega) rfl (fun H locs hW => ?_)
          refine lv_aload_n hx hb dX5_fault_60 rfl (lv_at hl 0 rfl) ?_
          refine lv_dup hx hb dX5_fault_61 rfl ?_
          refine va_get (D := D) (ci := 5) (v := .int (zI z0)) (C := RX5) (T := TX5) (N := 18) hx hb hts iX5_fault_X5 hown hK.1 hW.1 0 rfl rfl 16 (by decide) (hts _ mX5_fault_1) (fun _ h9 => h9) rfl dX5_fault_62 ?_
          refine lv_iconst (v := zI (1)) hx hb dX5_fault_65 rfl ?_
          refine z_iadd hx hb dX5_fault_66 ?_
          refine va_put (D := D) (ci := 5) (v := .int (zI (z0 + 1))) (ty := .int) (C := RX5) (T := TX5) (N := 18) hx hb hts iX5_fault_X5 tyX5 tyX5_ok nmX5 hown hK.1 hW.1 hW.2.1 hW.2.2 0 rfl rfl 16 (by decide) (hts _ mX5_fault_1) (fun _ h9 => h9) rfl (by decide +kernel) rfl rfl (Nat.le_of_ble_eq_true rfl) dX5_fault_67 (fun H locs h1 h2 h3 => ?_)
          have hW : zW D A s.heap [zMod2 cI a (mm_read_ (mm_spot_ b (z0 + 1)) (zU hc 1 (((mm_txt b) z0) - 48)))] H locs := ⟨h1, h2, h3⟩
          refine lv_aload_n hx hb dX5_fault_70 rfl (lv_at hl 0 rfl) ?_
          refine lv_bipush (v := zI (47)) hx hb dX5_fault_71 (by decide +kernel) ?_
          refine z_callV (r := (RX5, TX5, 18)) (As := [.int (zI 47)]) (rest := []) hS hK hA hW hl.1 [0] [] (kX5_takes l D cI cB a ((mm_read_ (mm_spot_ b (z0 + 1)) (zU hc 1 (((mm_txt b) z0) - 48)))) 47 hT (by (show 0 ≤ z0 + 1 ∧ z0 + 1 ≤ mm_tl b; omega)) (by omega)) (cwV 1 hts gX5_fault_X5_takes rfl rfl rfl (by decide +kernel) ⟨Nat.le_of_ble_eq_true rfl, Nat.le_of_ble_eq_true rfl⟩) (rfl : vwCl[5]? = some (RX5, TX5, 18)) (q0 := 0) rfl dX5_fault_73 rfl rfl rfl rfl rfl (Nat.le_of_ble_eq_true rfl) ⟨Nat.le_of_ble_eq_true rfl, Nat.le_of_ble_eq_true rfl⟩ (fun v9 w9 H locs hq hW => ?_)
          obtain ⟨rr_73, zspot_73, rfl, rfl, hh_73⟩ := hq
          have hW : zW D A s.heap [zMod2 cI a (mm_read_ (mm_spot_ b (zspot_73)) (zU hc 1 (((mm_txt b) z0) - 48)))] H locs := hW
          refine W.eq (g2 := F0 m 76 ls [.int (zI rr_73)]) rfl ?_
          have h73 : (rr_73 = 1 ∧ z0 + 1 < mm_tl b ∧ sgM (mm_txt b) (mm_tl b) (z0 + 1) = 47 ∧ zspot_73 = z0 + 1 + 1) ∨ (rr_73 = 0 ∧ sgM (mm_txt b) (mm_tl b) (z0 + 1) ≠ 47 ∧ zspot_73 = z0 + 1) := hh_73
          rw [show z0 + 1 = 1 by omega] at h73
          refine z_if_eq (tgt := 90) hx hb dX5_fault_76 (by decide) (by omega) (fun cc_76 => ?_) (fun cc_76 => ?_)
          · refine lv_aload_n hx hb dX5_fault_90 rfl (lv_at hl 0 rfl) ?_
            refine va_get (D := D) (ci := 5) (v := .int (zI zspot_73)) (C := RX5) (T := TX5) (N := 18) hx hb hts iX5_fault_X5 hown hK.1 hW.1 0 rfl rfl 16 (by decide) (hts _ mX5_fault_1) (fun _ h9 => h9) rfl dX5_fault_91 ?_
            exact z_iret (v := zspot_73) hx hb hr hlk hW dX5_fault_94 (by
                exact ⟨zspot_73, zspot_73, zU hc 1 (((mm_txt b) z0) - 48), rfl, rfl, by first | exact flt_bad (by rw [prs_b (by omega) (by omega)]; show (1 : Int) = zspot_73; omega) (by omega) | exact flt_bad (by rw [prs_c (by omega) (by omega) (by omega)]; show (2 : Int) = zspot_73; omega) (by omega)⟩)
          · refine lv_aload_n hx hb dX5_fault_79 rfl (lv_at hl 0 rfl) ?_
            refine lv_bipush (v := zI (49)) hx hb dX5_fault_80 (by decide +kernel) ?_
            refine lv_bipush (v := zI (57)) hx hb dX5_fault_82 (by decide +kernel) ?_
            refine z_callV (r := (RX5, TX5, 18)) (As := [.int (zI 49), .int (zI 57)]) (rest := []) hS hK hA hW hl.1 [0] [] (kX5_isHere l D cI cB a ((mm_read_ (mm_spot_ b (zspot_73)) (zU hc 1 (((mm_txt b) z0) - 48)))) 49 57 hT (by (show 0 ≤ zspot_73 ∧ zspot_73 ≤ mm_tl b; omega)) (by omega) (by omega)) (cwV 2 hts gX5_fault_X5_isHere rfl rfl rfl (by decide +kernel) ⟨Nat.le_of_ble_eq_true rfl, Nat.le_of_ble_eq_true rfl⟩) (rfl : vwCl[5]? = some (RX5, TX5, 18)) (q0 := 0) rfl dX5_fault_84 rfl rfl rfl rfl rfl (Nat.le_of_ble_eq_true rfl) ⟨Nat.le_of_ble_eq_true rfl, Nat.le_of_ble_eq_true rfl⟩ (fun v9 w9 H locs hq hW => ?_)
            obtain ⟨rr_84, rfl, rfl, hh_84⟩ := hq
            have hW : zW D A s.heap [zMod2 cI a (mm_read_ (mm_spot_ b (zspot_73)) (zU hc 1 (((mm_txt b) z0) - 48)))] H locs := hW
            refine W.eq (g2 := F0 m 87 ls [.int (zI rr_84)]) rfl ?_
            have h84 : (rr_84 = 1 ∧ zspot_73 < mm_tl b ∧ 49 ≤ sgM (mm_txt b) (mm_tl b) (zspot_73) ∧ sgM (mm_txt b) (mm_tl b) (zspot_73) ≤ 57) ∨ (rr_84 = 0 ∧ (sgM (mm_txt b) (mm_tl b) (zspot_73) < 49 ∨ 57 < sgM (mm_txt b) (mm_tl b) (zspot_73))) := hh_84
            rw [show zspot_73 = 2 by omega] at h84
            refine z_if_ne (tgt := 95) hx hb dX5_fault_87 (by decide) (by omega) (fun cc_87 => ?_) (fun cc_87 => ?_)
            · have hs2 := (sgM_rg hT (i := 2) (by omega)).2.1 (by omega)
              refine lv_aload_n hx hb dX5_fault_95 rfl (lv_at hl 0 rfl) ?_
              refine va_get (D := D) (ci := 5) (v := .ref (a 13)) (C := RX5) (T := TX5) (N := 18) hx hb hts iX5_fault_X5 hown hK.1 hW.1 0 rfl rfl 17 (by decide) (hts _ mX5_fault_2) (fun _ h9 => h9) rfl dX5_fault_96 ?_
              refine lv_iconst (v := zI (2)) hx hb dX5_fault_99 rfl ?_
              refine lv_aload_n hx hb dX5_fault_100 rfl (lv_at hl 0 rfl) ?_
              refine va_get (D := D) (ci := 5) (v := .ref (a 12)) (C := RX5) (T := TX5) (N := 18) hx hb hts iX5_fault_X5 hown hK.1 hW.1 0 rfl rfl 14 (by decide) (hts _ mX5_fault_4) (fun _ h9 => h9) rfl dX5_fault_101 ?_
              refine lv_aload_n hx hb dX5_fault_104 rfl (lv_at hl 0 rfl) ?_
              refine va_get (D := D) (ci := 5) (v := .int (zI zspot_73)) (C := RX5) (T := TX5) (N := 18) hx hb hts iX5_fault_X5 hown hK.1 hW.1 0 rfl rfl 16 (by decide) (hts _ mX5_fault_1) (fun _ h9 => h9) rfl dX5_fault_105 ?_
              refine z_iald (n := 60) (g := mm_txt b) hx hb hK hW 12 rfl dX5_fault_108 (by omega) ?_
              refine lv_bipush (v := zI (48)) hx hb dX5_fault_109 (by decide +kernel) ?_
              refine z_isub hx hb dX5_fault_111 ?_
              refine z_iast (n := 22) (g := zU hc 1 (((mm_txt b) z0) - 48)) (bs1 := [zMod2 cI a (mm_read_ (mm_spot_ b (zspot_73)) (zU (zU hc 1 (((mm_txt b) z0) - 48)) 2 (((mm_txt b) zspot_73) - 48)))]) hx hb hK hW 13 rfl dX5_fault_112 (by omega) rfl (fun H locs hW => ?_)
              refine lv_aload_n hx hb dX5_fault_113 rfl (lv_at hl 0 rfl) ?_
              refine lv_dup hx hb dX5_fault_114 rfl ?_
              refine va_get (D := D) (ci := 5) (v := .int (zI zspot_73)) (C := RX5) (T := TX5) (N := 18) hx hb hts iX5_fault_X5 hown hK.1 hW.1 0 rfl rfl 16 (by decide) (hts _ mX5_fault_1) (fun _ h9 => h9) rfl dX5_fault_115 ?_
              refine lv_iconst (v := zI (1)) hx hb dX5_fault_118 rfl ?_
              refine z_iadd hx hb dX5_fault_119 ?_
              refine va_put (D := D) (ci := 5) (v := .int (zI (zspot_73 + 1))) (ty := .int) (C := RX5) (T := TX5) (N := 18) hx hb hts iX5_fault_X5 tyX5 tyX5_ok nmX5 hown hK.1 hW.1 hW.2.1 hW.2.2 0 rfl rfl 16 (by decide) (hts _ mX5_fault_1) (fun _ h9 => h9) rfl (by decide +kernel) rfl rfl (Nat.le_of_ble_eq_true rfl) dX5_fault_120 (fun H locs h1 h2 h3 => ?_)
              have hW : zW D A s.heap [zMod2 cI a (mm_read_ (mm_spot_ b (zspot_73 + 1)) (zU (zU hc 1 (((mm_txt b) z0) - 48)) 2 (((mm_txt b) zspot_73) - 48)))] H locs := ⟨h1, h2, h3⟩
              refine lv_aload_n hx hb dX5_fault_123 rfl (lv_at hl 0 rfl) ?_
              refine lv_bipush (v := zI (48)) hx hb dX5_fault_124 (by decide +kernel) ?_
              refine lv_bipush (v := zI (57)) hx hb dX5_fault_126 (by decide +kernel) ?_
              refine z_callV (r := (RX5, TX5, 18)) (As := [.int (zI 48), .int (zI 57)]) (rest := []) hS hK hA hW hl.1 [0] [] (kX5_isHere l D cI cB a ((mm_read_ (mm_spot_ b (zspot_73 + 1)) (zU (zU hc 1 (((mm_txt b) z0) - 48)) 2 (((mm_txt b) zspot_73) - 48)))) 48 57 hT (by (show 0 ≤ zspot_73 + 1 ∧ zspot_73 + 1 ≤ mm_tl b; omega)) (by omega) (by omega)) (cwV 2 hts gX5_fault_X5_isHere rfl rfl rfl (by decide +kernel) ⟨Nat.le_of_ble_eq_true rfl, Nat.le_of_ble_eq_true rfl⟩) (rfl : vwCl[5]? = some (RX5, TX5, 18)) (q0 := 0) rfl dX5_fault_128 rfl rfl rfl rfl rfl (Nat.le_of_ble_eq_true rfl) ⟨Nat.le_of_ble_eq_true rfl, Nat.le_of_ble_eq_true rfl⟩ (fun v9 w9 H locs hq hW => ?_)
              obtain ⟨rr_128, rfl, rfl, hh_128⟩ := hq
              have hW : zW D A s.heap [zMod2 cI a (mm_read_ (mm_spot_ b (zspot_73 + 1)) (zU (zU hc 1 (((mm_txt b) z0) - 48)) 2 (((mm_txt b) zspot_73) - 48)))] H locs := hW
              refine W.eq (g2 := F0 m 131 ls [.int (zI rr_128)]) rfl ?_
              have h128 : (rr_128 = 1 ∧ zspot_73 + 1 < mm_tl b ∧ 48 ≤ sgM (mm_txt b) (mm_tl b) (zspot_73 + 1) ∧ sgM (mm_txt b) (mm_tl b) (zspot_73 + 1) ≤ 57) ∨ (rr_128 = 0 ∧ (sgM (mm_txt b) (mm_tl b) (zspot_73 + 1) < 48 ∨ 57 < sgM (mm_txt b) (mm_tl b) (zspot_73 + 1))) := hh_128
              rw [show zspot_73 + 1 = 3 by omega] at h128
              have hx2 : mm_txt b zspot_73 = sgM (mm_txt b) (mm_tl b) 2 := by rw [show zspot_73 = 2 by omega]; exact hs2.1.symm
              refine z_if_eq (tgt := 172) hx hb dX5_fault_131 (by decide) (by omega) (fun cc_131 => ?_) (fun cc_131 => ?_)
              · exact L172 (((6 - (([]).length : Int)) : Int).toNat + 1) (zspot_73 + 1) (zU (zU hc 1 (((mm_txt b) z0) - 48)) 2 (((mm_txt b) zspot_73) - 48)) ([]) (by omega) (by first | exact prL_in1 hhc (by omega) (by omega) hx0 (by omega) (by omega) hx2 (by omega) (by omega) | exact prL_in2 hhc (by omega) (by omega) hx0 (by omega) (by omega) hx2 (by omega) hx3 (by omega)) (by omega) _ _ hW ls (lv_sub hl [0] rfl)
              · have hs3 := (sgM_rg hT (i := 3) (by omega)).2.1 (by omega)
                have hx3 : mm_txt b (zspot_73 + 1) = sgM (mm_txt b) (mm_tl b) 3 := by rw [show zspot_73 + 1 = 3 by omega]; exact hs3.1.symm
                refine lv_aload_n hx hb dX5_fault_134 rfl (lv_at hl 0 rfl) ?_
                refine va_get (D := D) (ci := 5) (v := .ref (a 13)) (C := RX5) (T := TX5) (N := 18) hx hb hts iX5_fault_X5 hown hK.1 hW.1 0 rfl rfl 17 (by decide) (hts _ mX5_fault_2) (fun _ h9 => h9) rfl dX5_fault_135 ?_
                refine lv_iconst (v := zI (2)) hx hb dX5_fault_138 rfl ?_
                refine lv_bipush (v := zI (10)) hx hb dX5_fault_139 (by decide +kernel) ?_
                refine lv_aload_n hx hb dX5_fault_141 rfl (lv_at hl 0 rfl) ?_
                refine va_get (D := D) (ci := 5) (v := .ref (a 13)) (C := RX5) (T := TX5) (N := 18) hx hb hts iX5_fault_X5 hown hK.1 hW.1 0 rfl rfl 17 (by decide) (hts _ mX5_fault_2) (fun _ h9 => h9) rfl dX5_fault_142 ?_
                refine lv_iconst (v := zI (2)) hx hb dX5_fault_145 rfl ?_
                refine z_iald (n := 22) (g := zU (zU hc 1 (((mm_txt b) z0) - 48)) 2 (((mm_txt b) zspot_73) - 48)) hx hb hK hW 13 rfl dX5_fault_146 (by omega) ?_
                refine z_imul hx hb dX5_fault_147 ?_
                refine lv_aload_n hx hb dX5_fault_148 rfl (lv_at hl 0 rfl) ?_
                refine va_get (D := D) (ci := 5) (v := .ref (a 12)) (C := RX5) (T := TX5) (N := 18) hx hb hts iX5_fault_X5 hown hK.1 hW.1 0 rfl rfl 14 (by decide) (hts _ mX5_fault_4) (fun _ h9 => h9) rfl dX5_fault_149 ?_
                refine lv_aload_n hx hb dX5_fault_152 rfl (lv_at hl 0 rfl) ?_
                refine va_get (D := D) (ci := 5) (v := .int (zI (zspot_73 + 1))) (C := RX5) (T := TX5) (N := 18) hx hb hts iX5_fault_X5 hown hK.1 hW.1 0 rfl rfl 16 (by decide) (hts _ mX5_fault_1) (fun _ h9 => h9) rfl dX5_fault_153 ?_
                refine z_iald (n := 60) (g := mm_txt b) hx hb hK hW 12 rfl dX5_fault_156 (by omega) ?_
                refine z_iadd hx hb dX5_fault_157 ?_
                refine lv_bipush (v := zI (48)) hx hb dX5_fault_158 (by decide +kernel) ?_
                refine z_isub hx hb dX5_fault_160 ?_
                refine z_iast (n := 22) (g := zU (zU hc 1 (((mm_txt b) z0) - 48)) 2 (((mm_txt b) zspot_73) - 48)) (bs1 := [zMod2 cI a (mm_read_ (mm_spot_ b (zspot_73 + 1)) (zU (zU (zU hc 1 (((mm_txt b) z0) - 48)) 2 (((mm_txt b) zspot_73) - 48)) 2 (((10 * ((zU (zU hc 1 (((mm_txt b) z0) - 48)) 2 (((mm_txt b) zspot_73) - 48)) 2)) + ((mm_txt b) (zspot_73 + 1))) - 48)))]) hx hb hK hW 13 rfl dX5_fault_161 (by omega) rfl (fun H locs hW => ?_)
                refine lv_aload_n hx hb dX5_fault_162 rfl (lv_at hl 0 rfl) ?_
                refine lv_dup hx hb dX5_fault_163 rfl ?_
                refine va_get (D := D) (ci := 5) (v := .int (zI (zspot_73 + 1))) (C := RX5) (T := TX5) (N := 18) hx hb hts iX5_fault_X5 hown hK.1 hW.1 0 rfl rfl 16 (by decide) (hts _ mX5_fault_1) (fun _ h9 => h9) rfl dX5_fault_164 ?_
                refine lv_iconst (v := zI (1)) hx hb dX5_fault_167 rfl ?_
                refine z_iadd hx hb dX5_fault_168 ?_
                refine va_put (D := D) (ci := 5) (v := .int (zI ((zspot_73 + 1) + 1))) (ty := .int) (C := RX5) (T := TX5) (N := 18) hx hb hts iX5_fault_X5 tyX5 tyX5_ok nmX5 hown hK.1 hW.1 hW.2.1 hW.2.2 0 rfl rfl 16 (by decide) (hts _ mX5_fault_1) (fun _ h9 => h9) rfl (by decide +kernel) rfl rfl (Nat.le_of_ble_eq_true rfl) dX5_fault_169 (fun H locs h1 h2 h3 => ?_)
                have hW : zW D A s.heap [zMod2 cI a (mm_read_ (mm_spot_ b ((zspot_73 + 1) + 1)) (zU (zU (zU hc 1 (((mm_txt b) z0) - 48)) 2 (((mm_txt b) zspot_73) - 48)) 2 (((10 * ((zU (zU hc 1 (((mm_txt b) z0) - 48)) 2 (((mm_txt b) zspot_73) - 48)) 2)) + ((mm_txt b) (zspot_73 + 1))) - 48)))] H locs := ⟨h1, h2, h3⟩
                exact L172 (((6 - (([]).length : Int)) : Int).toNat + 1) ((zspot_73 + 1) + 1) (zU (zU (zU hc 1 (((mm_txt b) z0) - 48)) 2 (((mm_txt b) zspot_73) - 48)) 2 (((10 * ((zU (zU hc 1 (((mm_txt b) z0) - 48)) 2 (((mm_txt b) zspot_73) - 48)) 2)) + ((mm_txt b) (zspot_73 + 1))) - 48)) ([]) (by omega) (by first | exact prL_in1 hhc (by omega) (by omega) hx0 (by omega) (by omega) hx2 (by omega) (by omega) | exact prL_in2 hhc (by omega) (by omega) hx0 (by omega) (by omega) hx2 (by omega) hx3 (by omega)) (by omega) _ _ hW ls (lv_sub hl [0] rfl)
            · refine lv_aload_n hx hb dX5_fault_90 rfl (lv_at hl 0 rfl) ?_
              refine va_get (D := D) (ci := 5) (v := .int (zI zspot_73)) (C := RX5) (T := TX5) (N := 18) hx hb hts iX5_fault_X5 hown hK.1 hW.1 0 rfl rfl 16 (by decide) (hts _ mX5_fault_1) (fun _ h9 => h9) rfl dX5_fault_91 ?_
              exact z_iret (v := zspot_73) hx hb hr hlk hW dX5_fault_94 (by
                  exact ⟨zspot_73, zspot_73, zU hc 1 (((mm_txt b) z0) - 48), rfl, rfl, by first | exact flt_bad (by rw [prs_b (by omega) (by omega)]; show (1 : Int) = zspot_73; omega) (by omega) | exact flt_bad (by rw [prs_c (by omega) (by omega) (by omega)]; show (2 : Int) = zspot_73; omega) (by omega)⟩)
        · refine lv_aload_n hx hb dX5_fault_37 rfl (lv_at hl 0 rfl) ?_
          refine va_get (D := D) (ci := 5) (v := .int (zI z0)) (C := RX5) (T := TX5) (N := 18) hx hb hts iX5_fault_X5 hown hK.1 hW.1 0 rfl rfl 16 (by decide) (hts _ mX5_fault_1) (fun _ h9 => h9) rfl dX5_fault_38 ?_
          exact z_iret (v := z0) hx hb hr hlk hW dX5_fault_41 (by
              exact ⟨z0, z0, hc, rfl, rfl, by exact flt_bad (by rw [prs_a (by omega)]; show (0 : Int) = z0; omega) (by omega)⟩)
      · refine lv_aload_n hx hb dX5_fault_13 rfl (lv_at hl 0 rfl) ?_
        refine va_get (D := D) (ci := 5) (v := .ref (a 13)) (C := RX5) (T := TX5) (N := 18) hx hb hts iX5_fault_X5 hown hK.1 hW.1 0 rfl rfl 17 (by decide) (hts _ mX5_fault_2) (fun _ h9 => h9) rfl dX5_fault_14 ?_
        refine lv_iload_n hx hb dX5_fault_17 rfl (lv_at hl 1 rfl) ?_
        refine lv_iconst (v := zI (0)) hx hb dX5_fault_18 rfl ?_
        refine z_iast (n := 22) (g := hc) (bs1 := [zMod2 cI a (mm_read_ (mm_spot_ b (z0)) (zU hc ki 0))]) hx hb hK hW 13 rfl dX5_fault_19 (by omega) rfl (fun H locs hW => ?_)
        refine z_iinc (x := ki) (lv' := [(1, .int (zI (ki + 1))), (0, .ref (a 0))]) hx hb dX5_fault_20 hl (k := 1) rfl (by decide) rfl (fun ls hl => ?_)
        refine lv_goto (tgt := 7) hx hb dX5_fault_23 (by decide) ?_
        exact ih7 (ki + 1) z0 (zU hc ki 0) (by omega) (by omega) (by rw [hhc]; exact cpF_s (fun _ => 0) _ hki.1) (by omega) _ _ hW ls (lv_sub hl [1, 0] rfl)
  exact L7 (((22 - 0) : Int).toNat + 1) 0 0 (mm_read b) (by omega) (by omega) (by exact (cpF_0 _ _).symm) (by omega) _ _ hW ls (lv_sub hl [1, 0] rfl)

abbrev qX5_takesRead (cI : ClassId) (a : Nat → Nat) (b : zM2) (y1 : Int) (sc : Int) (d : Int) (l2 : List zEv) : Option Value → List va_W → Prop := fun vq wq => ∃ (zout : Int → Int), vq = none ∧ wq = [zMod2 cI a (mm_out_ b zout)] ∧ (rowO zout (y1, sc, d, l2))
set_option maxRecDepth 20000 in
theorem iX5_takesRead_X5 : ∀ w ∈ u_ws RX5 TX5 18, w ∈ wsX5_takesRead := by decide +kernel
set_option maxRecDepth 20000 in
theorem mX5_takesRead_1 : (.fieldLink RX5 25 "StoryPanelsModel" "out" "[I" : Cond) ∈ wsX5_takesRead := by decide +kernel
set_option maxRecDepth 20000 in
theorem mX5_takesRead_2 : (.fieldLink RX5 46 "StoryPanelsModel" "read" "[I" : Cond) ∈ wsX5_takesRead := by decide +kernel
set_option maxHeartbeats 4000000 in
set_option maxRecDepth 100000 in
theorem kX5_takesRead (l : Launch) (D : va_G) (cI cB : ClassId) (a : Nat → Nat) (b : zM2) (y1 : Int) (sc : Int) (d : Int) (l2 : List zEv) (hrd : rowO (mm_read b) (0, sc, d, l2)) (hl6 : l2.length ≤ 6) : zMet l yX5_takesRead wsX5_takesRead 0 0 0 0 D cI cB [.ref (a 0), .int (zI y1)] [zMod2 cI a b] (qX5_takesRead cI a b y1 sc d l2) := by
  refine zMet.of (cd := cX5_takesRead) (maxL := 3) (ret := none) (by decide) rfl (Nat.le_of_ble_eq_true rfl) ?_
  intro p e s m args below meth c A ls hS hr hlk hnm hK hA hW hl
  have hS : CallFix p m c cX5_takesRead 3 s args wsX5_takesRead RX5 := hS
  have hx := hS.1
  have hb := hS.2.1
  have hown := hS.2.2.2.1
  have hts := hS.2.2.2.2
  have hl : lv_has ls 3 [(0, .ref (a 0)), (1, .int (zI y1))] := hl
  refine lv_iconst (v := zI (0)) hx hb dX5_takesRead_0 rfl ?_
  refine lv_istore_n (lv' := [(2, .int (zI 0)), (0, .ref (a 0)), (1, .int (zI y1))]) hx hb dX5_takesRead_1 rfl hl (by decide) rfl (fun ls hl => ?_)
  have L2 : ∀ (fu : Nat) (ki : Int) (ho : Int → Int), (0 ≤ ki ∧ ki ≤ 22) → (ho = cpF (mm_read b) (mm_out b) ki) → (22 - ki) < (fu : Int) → ∀ (H : Heap) (locs : List Loc), zW D A s.heap [zMod2 cI a (mm_out_ b (ho))] H locs → ∀ (ls : Array Slot), lv_has ls 3 [(0, .ref (a 0)), (1, .int (zI y1)), (2, .int (zI ki))] → W p l e { frames := 0, cells := 0, slots := 0, locals := 0 } s m args below meth c H locs 0 0 (MQ below (zQ A D (qX5_takesRead cI a b y1 sc d l2)) args s 0 0 A) (F0 m 2 ls []) := by
    intro fu
    induction fu with
    | zero => intro ki ho hki hho hm; exact absurd hm (by omega)
    | succ fu ih2 =>
      intro ki ho hki hho hm H locs hW ls hl
      refine lv_iload_n hx hb dX5_takesRead_2 rfl (lv_at hl 2 rfl) ?_
      refine lv_bipush (v := zI (22)) hx hb dX5_takesRead_3 (by decide +kernel) ?_
      refine z_icmp_ge (tgt := 26) hx hb dX5_takesRead_5 (by decide) (by omega) (fun cc_5 => ?_) (fun cc_5 => ?_)
      · refine lv_aload_n hx hb dX5_takesRead_26 rfl (lv_at hl 0 rfl) ?_
        refine va_get (D := D) (ci := 5) (v := .ref (a 6)) (C := RX5) (T := TX5) (N := 18) hx hb hts iX5_takesRead_X5 hown hK.1 hW.1 0 rfl rfl 7 (by decide) (hts _ mX5_takesRead_1) (fun _ h9 => h9) rfl dX5_takesRead_27 ?_
        refine lv_iconst (v := zI (0)) hx hb dX5_takesRead_30 rfl ?_
        refine lv_iload_n hx hb dX5_takesRead_31 rfl (lv_at hl 1 rfl) ?_
        refine z_iast (n := 22) (g := ho) (bs1 := [zMod2 cI a (mm_out_ b (zU ho 0 y1))]) hx hb hK hW 6 rfl dX5_takesRead_32 (by omega) rfl (fun H locs hW => ?_)
        exact z_vret hx hb hr hlk hW dX5_takesRead_33 (by
            exact ⟨zU ho 0 y1, rfl, rfl, by exact rowO_num hl6 hrd (Or.inr (fun w w1 w2 => by rw [zU_n _ _ (by omega), hho, show ki = 22 by omega]; exact if_pos ⟨by omega, w2⟩)) (zU_s _ _ _)⟩)
      · refine lv_aload_n hx hb dX5_takesRead_8 rfl (lv_at hl 0 rfl) ?_
        refine va_get (D := D) (ci := 5) (v := .ref (a 6)) (C := RX5) (T := TX5) (N := 18) hx hb hts iX5_takesRead_X5 hown hK.1 hW.1 0 rfl rfl 7 (by decide) (hts _ mX5_takesRead_1) (fun _ h9 => h9) rfl dX5_takesRead_9 ?_
        refine lv_iload_n hx hb dX5_takesRead_12 rfl (lv_at hl 2 rfl) ?_
        refine lv_aload_n hx hb dX5_takesRead_13 rfl (lv_at hl 0 rfl) ?_
        refine va_get (D := D) (ci := 5) (v := .ref (a 13)) (C := RX5) (T := TX5) (N := 18) hx hb hts iX5_takesRead_X5 hown hK.1 hW.1 0 rfl rfl 17 (by decide) (hts _ mX5_takesRead_2) (fun _ h9 => h9) rfl dX5_takesRead_14 ?_
        refine lv_iload_n hx hb dX5_takesRead_17 rfl (lv_at hl 2 rfl) ?_
        refine z_iald (n := 22) (g := mm_read b) hx hb hK hW 13 rfl dX5_takesRead_18 (by omega) ?_
        refine z_iast (n := 22) (g := ho) (bs1 := [zMod2 cI a (mm_out_ b (zU ho ki ((mm_read b) ki)))]) hx hb hK hW 6 rfl dX5_takesRead_19 (by omega) rfl (fun H locs hW => ?_)
        refine z_iinc (x := ki) (lv' := [(2, .int (zI (ki + 1))), (0, .ref (a 0)), (1, .int (zI y1))]) hx hb dX5_takesRead_20 hl (k := 2) rfl (by decide) rfl (fun ls hl => ?_)
        refine lv_goto (tgt := 2) hx hb dX5_takesRead_23 (by decide) ?_
        exact ih2 (ki + 1) (zU ho ki ((mm_read b) ki)) (by omega) (by rw [hho]; exact cpF_s _ _ hki.1) (by omega) _ _ hW ls (lv_sub hl [1, 2, 0] rfl)
  exact L2 (((22 - 0) : Int).toNat + 1) 0 (mm_out b) (by omega) (by exact (cpF_0 _ _).symm) (by omega) _ _ hW ls (lv_sub hl [1, 2, 0] rfl)
