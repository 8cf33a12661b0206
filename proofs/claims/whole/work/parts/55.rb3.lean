/-! a panel drawn anew, put, taken away -/
theorem RB_set {b b2 : zBS} {pC : List zPn} {pO : List Int} {ev : Int} (h : RB b pC pO ev) {j : Nat} {p q : zPn} (hp : pC[j]? = some p) (hB : BOK b2) (e1 : bd_num b2 = bd_num b) (e2 : bd_lin b2 = bd_lin b) (e3 : bd_plc b2 = bd_plc b) (e4 : bd_sz b2 = bd_sz b) (e5 : bd_sf b2 = bd_sf b) (hq : slotHas b2 (bd_lin b (j : Int)) q) (hq1 : q.1 = p.1) (hqo : pnOK q) (ho : ∀ (y : Int) (w : zPn), (0 ≤ y ∧ y < 10) → y ≠ bd_lin b (j : Int) → w.2.2.2.length ≤ 6 → slotHas b y w → slotHas b2 y w) : RB b2 (pC.set j q) pO ev := by
  have hl := (List.getElem?_eq_some_iff.mp hp).1
  have hlin := fun {i : Nat} {w : zPn} (hw : pC[i]? = some w) => RB_lin h hw
  obtain ⟨h1, h2, h3, h4, h5, h6, h7, h8, h9, h10⟩ := h
  refine ⟨hB, by rw [List.length_set, e4, h2], by rw [e5, h3], fun i w hw => ?_, by rw [e2, e4]; exact h5, by rw [e1, e2, e4]; exact h6, fun w hw => ?_, ?_, by rw [e3]; exact h9, h10⟩
  · rw [e2]
    rw [List.getElem?_set] at hw
    split at hw
    · rename_i hc
      subst hc
      cases hw
      exact hq
    · rename_i hc
      have hil := (List.getElem?_eq_some_iff.mp hw).1
      refine ho _ _ (hlin hw) (fun hcc => hc ?_) (h7 w (List.mem_of_getElem? hw)).1.2.2.2.1 (h4 i w hw)
      have := h5 i j (by omega) (by omega) (by omega) (by omega) hcc
      omega
  · rcases List.mem_or_eq_of_mem_set hw with hw | hw
    · exact h7 w hw
    · rw [hw]
      exact ⟨hqo, by rw [hq1]; exact (h7 p (List.mem_of_getElem? hp)).2⟩
  · rw [List.map_set, hq1]
    have : (pC.map Prod.fst).set j p.1 = pC.map Prod.fst := by
      refine List.ext_getElem? (fun i => ?_)
      rw [List.getElem?_set]
      split
      · rename_i hc
        subst hc
        rw [if_pos (by rw [List.length_map]; exact hl), List.getElem?_map, hp]; rfl
      · rfl
    rw [this]; exact h8
theorem RB_dur {b : zBS} {pC : List zPn} {pO : List Int} {ev : Int} (h : RB b pC pO ev) {j : Nat} {p : zPn} (hp : pC[j]? = some p) {d : Int} (hd : 1 ≤ d ∧ d ≤ 99) : RB (bd_dur_ b (zU (bd_dur b) (bd_lin b (j : Int)) d)) (pC.set j (p.1, p.2.1, d, p.2.2.2)) pO ev := by
  have hk := h.1
  have hs := h.2.2.2.1 j p hp
  have ho := RB_pn h p (List.mem_of_getElem? hp)
  refine RB_set h hp ⟨hk.1, hk.2.1, hk.2.2.1, hk.2.2.2.1, hk.2.2.2.2.1, fun k k1 k2 => ?_, hk.2.2.2.2.2.2⟩ rfl rfl rfl rfl rfl ⟨hs.1, hs.2.1, zU_s _ _ _, hs.2.2.2.1, hs.2.2.2.2⟩ rfl ⟨ho.1, ho.2.1, hd, ho.2.2.2⟩ (fun y w hy hn hwl hw => ⟨hw.1, hw.2.1, ?_, hw.2.2.2.1, hw.2.2.2.2⟩)
  · show 0 ≤ zU (bd_dur b) _ d k ∧ zU (bd_dur b) _ d k ≤ 99
    unfold zU
    split
    · omega
    · exact hk.2.2.2.2.2.1 k k1 k2
  · show zU (bd_dur b) _ d y = _
    rw [zU_n _ _ hn]; exact hw.2.2.1
/-- the text that is read: its duration and its events -/
def txH (t : zTS) (sc d : Int) (l : List zEv) : Prop := tx_scn t = sc ∧ tx_dur t = d ∧ tx_evs t = (l.length : Int) ∧ codsOK (tx_cod t) l
theorem drawB_has {b : zBS} {x : Int} {t : zTS} {sc d : Int} {l : List zEv} (ht : txH t sc d l) (hl : l.length ≤ 6) {num sn : Int} (h1 : bd_num b x = num) (h2 : bd_scn b x = sn) : slotHas (drawB b x t) x (num, sn, d, l) := by
  refine ⟨h1, h2, ?_, ?_, fun j v hv => ?_⟩
  · show zU (bd_dur b) x (tx_dur t) x = d
    rw [zU_s, ht.2.1]
  · show zU (bd_cnt b) x (tx_evs t) x = _
    rw [zU_s, ht.2.2.1]
  · have hj := (List.getElem?_eq_some_iff.mp hv).1
    have hj2 : j < l.length := hj
    show drwF (bd_cod b) x (tx_cod t) 6 (x * 6 + (j : Int)) = _
    unfold drwF
    rw [if_pos (by omega), show x * 6 + (j : Int) - x * 6 = (j : Int) by omega]
    exact ht.2.2.2 j v hv
theorem drawB_other {b : zBS} {x y : Int} {t : zTS} {w : zPn} (hn : y ≠ x) (hwl : w.2.2.2.length ≤ 6) (hw : slotHas b y w) : slotHas (drawB b x t) y w := by
  refine ⟨hw.1, hw.2.1, ?_, ?_, fun j v hv => ?_⟩
  · show zU (bd_dur b) x (tx_dur t) y = _
    rw [zU_n _ _ hn]; exact hw.2.2.1
  · show zU (bd_cnt b) x (tx_evs t) y = _
    rw [zU_n _ _ hn]; exact hw.2.2.2.1
  · have hj := (List.getElem?_eq_some_iff.mp hv).1
    show drwF (bd_cod b) x (tx_cod t) 6 (y * 6 + (j : Int)) = _
    unfold drwF
    rw [if_neg (by omega)]
    exact hw.2.2.2.2 j v hv
theorem drawB_BOK {b : zBS} (hk : BOK b) {x : Int} {t : zTS} (hT : TXOK t) {sc d : Int} {l : List zEv} (ht : txH t sc d l) (hl : l.length ≤ 6) (hd : 1 ≤ d ∧ d ≤ 99) : BOK (drawB b x t) := by
  refine ⟨hk.1, hk.2.1, hk.2.2.1, hk.2.2.2.1, hk.2.2.2.2.1, fun k k1 k2 => ?_, fun k k1 k2 => ?_, fun k k1 k2 => ?_, hk.2.2.2.2.2.2.2.2⟩
  · show 0 ≤ zU (bd_dur b) x (tx_dur t) k ∧ zU (bd_dur b) x (tx_dur t) k ≤ 99
    unfold zU
    split
    · rw [ht.2.1]; omega
    · exact hk.2.2.2.2.2.1 k k1 k2
  · show 0 ≤ zU (bd_cnt b) x (tx_evs t) k ∧ zU (bd_cnt b) x (tx_evs t) k ≤ 6
    unfold zU
    split
    · rw [ht.2.2.1]; omega
    · exact hk.2.2.2.2.2.2.1 k k1 k2
  · show 0 ≤ drwF (bd_cod b) x (tx_cod t) 6 k ∧ drwF (bd_cod b) x (tx_cod t) 6 k < 400
    unfold drwF
    split
    · exact hT.2.2 _ (by omega) (by omega)
    · exact hk.2.2.2.2.2.2.2.1 k k1 k2
theorem RB_draw {b : zBS} {pC : List zPn} {pO : List Int} {ev : Int} (h : RB b pC pO ev) {j : Nat} {p : zPn} (hp : pC[j]? = some p) {t : zTS} (hT : TXOK t) {sc d : Int} {l : List zEv} (ht : txH t sc d l) (hok : pnOK (p.1, sc, d, l)) : RB (drawB b (bd_lin b (j : Int)) t) (pC.set j (p.1, p.2.1, d, l)) pO ev := by
  have hs := h.2.2.2.1 j p hp
  have ho := RB_pn h p (List.mem_of_getElem? hp)
  exact RB_set h hp (drawB_BOK h.1 hT ht hok.2.2.2.1 hok.2.2.1) rfl rfl rfl rfl rfl (drawB_has ht hok.2.2.2.1 hs.1 hs.2.1) rfl ⟨ho.1, ho.2.1, hok.2.2⟩ (fun y w hy hn hwl hw => drawB_other hn hwl hw)
/-- where a panel drawn anew lands -/
def redC (pC : List zPn) (pO : List Int) (j : Nat) (p : zPn) (sc d : Int) (l : List zEv) : List zPn :=
  if p.2.1 = sc then pC.set j (p.1, sc, d, l) else insC (pC.eraseIdx j) (ahC (pC.eraseIdx j) pO sc + inC (pC.eraseIdx j) sc) (p.1, sc, d, l)
theorem RBo_nIn {b : zBS} {pC : List zPn} {pO : List Int} {ev x : Int} {p : zPn} (h : RBo b pC pO ev x p) (s : Int) : nIn b s = inC pC s := by
  unfold nIn inC
  rw [h.2.1]
  refine zcnt_C (fun j q hq => ?_)
  rw [(h.2.2.2.1 j q hq).2.1]
  rfl
theorem RB_redraw {b : zBS} {pC : List zPn} {pO : List Int} {ev : Int} (h : RB b pC pO ev) {j : Nat} {p : zPn} (hp : pC[j]? = some p) {t : zTS} (hT : TXOK t) {sc d : Int} {l : List zEv} (ht : txH t sc d l) (hok : pnOK (p.1, sc, d, l)) : BOK (drawB b (bd_lin b (j : Int)) t) ∧ BOK (takeOutB (drawB b (bd_lin b (j : Int)) t) (j : Int)) ∧ nAhead (bd_scn_ (takeOutB (drawB b (bd_lin b (j : Int)) t) (j : Int)) (zU (bd_scn b) (bd_lin b (j : Int)) (tx_scn t))) (tx_scn t) + nIn (takeOutB (drawB b (bd_lin b (j : Int)) t) (j : Int)) (tx_scn t) ≤ bd_sz b - 1 ∧ RB (if bd_scn b (bd_lin b (j : Int)) = tx_scn t then drawB b (bd_lin b (j : Int)) t else putInB (takeOutB (drawB b (bd_lin b (j : Int)) t) (j : Int)) (bd_lin b (j : Int)) (tx_scn t) (nAhead (bd_scn_ (takeOutB (drawB b (bd_lin b (j : Int)) t) (j : Int)) (zU (bd_scn b) (bd_lin b (j : Int)) (tx_scn t))) (tx_scn t) + nIn (takeOutB (drawB b (bd_lin b (j : Int)) t) (j : Int)) (tx_scn t))) (redC pC pO j p sc d l) pO ev := by
  have hl := (List.getElem?_eq_some_iff.mp hp).1
  have hR2 := RB_draw h hp hT ht hok
  have hp2 : (pC.set j (p.1, p.2.1, d, l))[j]? = some (p.1, p.2.1, d, l) := by rw [List.getElem?_set_self hl]
  have hO := RB_takeOut hR2 hp2
  rw [show bd_lin (drawB b (bd_lin b (j : Int)) t) (j : Int) = bd_lin b (j : Int) from rfl, List.eraseIdx_set_eq] at hO
  have hsz := hO.2.1
  have hsz1 := h.2.1
  have hel : (pC.eraseIdx j).length = pC.length - 1 := List.length_eraseIdx_of_lt hl
  have hs : 0 ≤ sc ∧ sc < 5 := hok.2.1
  have hna := RBo_nAhead hO hs
  have hni := RBo_nIn hO sc
  have hai := ahC_inC (pC.eraseIdx j) pO sc
  have hah := ahC_le (pC.eraseIdx j) pO sc
  have h10 := h.1.1
  have hna2 : nAhead (bd_scn_ (takeOutB (drawB b (bd_lin b (j : Int)) t) (j : Int)) (zU (bd_scn b) (bd_lin b (j : Int)) sc)) sc = ahC (pC.eraseIdx j) pO sc := hna
  have hsc : bd_scn b (bd_lin b (j : Int)) = p.2.1 := (h.2.2.2.1 j p hp).2.1
  rw [ht.1]
  refine ⟨hR2.1, hO.1, by rw [hna2, hni]; omega, ?_⟩
  rw [hna2, hni]
  unfold redC
  by_cases c : p.2.1 = sc
  · rw [if_pos c, if_pos (by omega)]
    rw [c] at hR2
    exact hR2
  · rw [if_neg c, if_neg (by omega)]
    exact RBo_putIn hO hs (by omega) (by omega)
theorem RB_add {b : zBS} {pC : List zPn} {pO : List Int} {ev : Int} (h : RB b pC pO ev) {k : Int} (hk : 0 ≤ k ∧ k < 10) (hnk : bd_num b k = -1) (hev : ev < 99) (hlen : pC.length < 10) {t : zTS} (hT : TXOK t) {sc d : Int} {l : List zEv} (ht : txH t sc d l) (hok : pnOK (ev, sc, d, l)) :
    BOK (drawB (bd_sf_ (bd_num_ b (zU (bd_num b) k (bd_sf b))) (bd_sf b + 1)) k t) ∧ nAhead (bd_scn_ (drawB (bd_sf_ (bd_num_ b (zU (bd_num b) k (bd_sf b))) (bd_sf b + 1)) k t) (zU (bd_scn b) k (tx_scn t))) (tx_scn t) + nIn (drawB (bd_sf_ (bd_num_ b (zU (bd_num b) k (bd_sf b))) (bd_sf b + 1)) k t) (tx_scn t) ≤ bd_sz b ∧
    RB (putInB (drawB (bd_sf_ (bd_num_ b (zU (bd_num b) k (bd_sf b))) (bd_sf b + 1)) k t) k (tx_scn t) (nAhead (bd_scn_ (drawB (bd_sf_ (bd_num_ b (zU (bd_num b) k (bd_sf b))) (bd_sf b + 1)) k t) (zU (bd_scn b) k (tx_scn t))) (tx_scn t) + nIn (drawB (bd_sf_ (bd_num_ b (zU (bd_num b) k (bd_sf b))) (bd_sf b + 1)) k t) (tx_scn t))) (insC pC (ahC pC pO sc + inC pC sc) (ev, sc, d, l)) pO (ev + 1) := by
  have hlin := fun {i : Nat} {w : zPn} (hw : pC[i]? = some w) => RB_lin h hw
  obtain ⟨h1, h2, h3, h4, h5, h6, h7, h8, h9, h10⟩ := h
  have hB1 : BOK (bd_sf_ (bd_num_ b (zU (bd_num b) k (bd_sf b))) (bd_sf b + 1)) := by
    have hsq := h1.2.1
    refine ⟨h1.1, ⟨by show 0 ≤ bd_sf b + 1; omega, by show bd_sf b + 1 ≤ 99; omega⟩, h1.2.2.1, fun i i1 i2 => ?_, h1.2.2.2.2⟩
    show -1 ≤ zU (bd_num b) k (bd_sf b) i ∧ zU (bd_num b) k (bd_sf b) i < 99
    unfold zU
    split
    · have := h1.2.1; omega
    · exact h1.2.2.2.1 i i1 i2
  have hB2 := drawB_BOK hB1 (x := k) hT ht hok.2.2.2.1 hok.2.2.1
  have hnl : ∀ j : Int, 0 ≤ j → j < bd_sz b → bd_lin b j ≠ k := by
    intro j j1 j2 he
    have hjl : j.toNat < pC.length := by omega
    have h11 := h4 j.toNat _ (List.getElem?_eq_getElem hjl)
    have h12 := (h7 _ (List.getElem_mem hjl)).1.1
    rw [show ((j.toNat : Nat) : Int) = j by omega, he] at h11
    have := h11.1
    omega
  have hO : RBo (drawB (bd_sf_ (bd_num_ b (zU (bd_num b) k (bd_sf b))) (bd_sf b + 1)) k t) pC pO (ev + 1) k (ev, bd_scn b k, d, l) := by
    refine ⟨hB2, h2, by show bd_sf b + 1 = ev + 1; omega, fun j q hq => ?_, h5, ⟨hk, drawB_has ht hok.2.2.2.1 (by show zU (bd_num b) k (bd_sf b) k = ev; rw [zU_s, h3]) rfl, hnl⟩, fun y y1 y2 y3 y4 => ?_, fun q hq => ⟨(h7 q hq).1, by have := (h7 q hq).2; omega⟩, h8, ⟨⟨hok.1, h1.2.2.2.2.1 k hk.1 hk.2, hok.2.2⟩, by show ev < ev + 1; omega, fun q hq => by have := (h7 q hq).2; show q.1 ≠ ev; omega⟩, h9, h10⟩
    · have hjl := (List.getElem?_eq_some_iff.mp hq).1
      have hne := hnl j (by omega) (by omega)
      have h11 := h4 j q hq
      refine drawB_other hne (h7 q (List.mem_of_getElem? hq)).1.2.2.2.1 ⟨?_, h11.2⟩
      show zU (bd_num b) k (bd_sf b) (bd_lin b (j : Int)) = _
      rw [zU_n _ _ hne]; exact h11.1
    · show zU (bd_num b) k (bd_sf b) y = -1
      rw [zU_n _ _ y3]
      exact h6 y y1 y2 y4
  have hs : 0 ≤ sc ∧ sc < 5 := hok.2.1
  have hna : nAhead (bd_scn_ (drawB (bd_sf_ (bd_num_ b (zU (bd_num b) k (bd_sf b))) (bd_sf b + 1)) k t) (zU (bd_scn b) k sc)) sc = ahC pC pO sc := RBo_nAhead hO hs
  have hni := RBo_nIn hO sc
  have hai := ahC_inC pC pO sc
  have hah := ahC_le pC pO sc
  rw [ht.1, hna, hni]
  exact ⟨hB2, by omega, RBo_putIn hO hs (by omega) (by omega)⟩
theorem RB_drop {b : zBS} {pC : List zPn} {pO : List Int} {ev : Int} (h : RB b pC pO ev) {j : Nat} {p : zPn} (hp : pC[j]? = some p) : RB (bd_num_ (takeOutB b (j : Int)) (zU (bd_num b) (bd_lin b (j : Int)) (-1))) (pC.eraseIdx j) pO ev := by
  obtain ⟨h1, h2, h3, h4, h5, ⟨hx, hxp, hxl⟩, h6, h7, h8, h9, h10, h11⟩ := RB_takeOut h hp
  refine ⟨⟨h1.1, h1.2.1, h1.2.2.1, fun i i1 i2 => ?_, h1.2.2.2.2⟩, h2, h3, fun i q hq => ?_, h5, fun y y1 y2 y3 => ?_, h7, h8, h10, h11⟩
  · show -1 ≤ zU (bd_num b) _ (-1) i ∧ zU (bd_num b) _ (-1) i < 99
    unfold zU
    split
    · omega
    · exact h1.2.2.2.1 i i1 i2
  · have hil := (List.getElem?_eq_some_iff.mp hq).1
    have hne := hxl i (by omega) (by omega)
    have hs := h4 i q hq
    refine ⟨?_, hs.2⟩
    show zU (bd_num b) _ (-1) _ = _
    rw [zU_n _ _ hne]; exact hs.1
  · show zU (bd_num b) _ (-1) y = -1
    unfold zU
    split
    · rfl
    · rename_i hc
      exact h6 y y1 y2 hc y3
