/-! what is said of an answer says it wholly -/
def ndP (pC : List zPn) : Prop := (pC.map Prod.fst).Nodup
theorem isP_det {pC : List zPn} (hn : ndP pC) {i j : Nat} {p q : zPn} {x : Int} (h : isP pC i p x) (h' : isP pC j q x) : i = j ∧ p = q := uniqP hn h.1 h'.1 (h.2.trans h'.2.symm)
theorem noP_is {pC : List zPn} {j : Nat} {p : zPn} {x : Int} (h : noP pC x) (h' : isP pC j p x) : False := h p (List.mem_of_getElem? h'.1) h'.2
theorem same_det {pC : List zPn} {pO : List Int} {ev : Int} {hs hs2 hs3 : List zSt} {S S3 : zSt} (h : sameS pC pO ev hs S hs2) (h' : sameS pC pO ev hs S3 hs3) : S = S3 ∧ hs2 = hs3 := ⟨h.1.trans h'.1.symm, h.2.trans h'.2.symm⟩
theorem push_det {pC C2 : List zPn} {pO O2 : List Int} {ev e2 : Int} {hs hs2 hs3 : List zSt} {S S3 : zSt} (h : pushS pC pO ev hs C2 O2 e2 S hs2) (h' : pushS pC pO ev hs C2 O2 e2 S3 hs3) : S = S3 ∧ hs2 = hs3 := ⟨h.1.trans h'.1.symm, h.2.trans h'.2.symm⟩
theorem putR_det {P : Int × Int × Int × List zEv} {pC : List zPn} {pO : List Int} {ev r r3 : Int} {hs hs2 hs3 : List zSt} {S S3 : zSt} (h : putR P pC pO ev hs r S hs2) (h' : putR P pC pO ev hs r3 S3 hs3) : r = r3 ∧ S = S3 ∧ hs2 = hs3 := by
  rcases h with ⟨a1, a2, a3⟩ | ⟨a1, ⟨b1, b2, b3⟩ | ⟨b1, b2, b3⟩⟩
  · rcases h' with ⟨c1, c2, c3⟩ | ⟨c1, -⟩
    · exact ⟨a2.trans c2.symm, same_det a3 c3⟩
    · exact absurd c1 a1
  · rcases h' with ⟨c1, c2, c3⟩ | ⟨c1, ⟨d1, d2, d3⟩ | ⟨d1, d2, d3⟩⟩
    · exact absurd a1 c1
    · exact ⟨b2.trans d2.symm, same_det b3 d3⟩
    · exact absurd d1 (by omega)
  · rcases h' with ⟨c1, c2, c3⟩ | ⟨c1, ⟨d1, d2, d3⟩ | ⟨d1, d2, d3⟩⟩
    · exact absurd a1 c1
    · exact absurd d1 (by omega)
    · exact ⟨b2.trans d2.symm, push_det b3 d3⟩
theorem redR_det {P : Int × Int × Int × List zEv} {pC : List zPn} {pO : List Int} {ev x r r3 : Int} {hs hs2 hs3 : List zSt} {S S3 : zSt} (hn : ndP pC) (h : redR P pC pO ev hs x r S hs2) (h' : redR P pC pO ev hs x r3 S3 hs3) : r = r3 ∧ S = S3 ∧ hs2 = hs3 := by
  rcases h with ⟨a1, a2, a3⟩ | ⟨j, p, hj, h⟩
  · rcases h' with ⟨b1, b2, b3⟩ | ⟨j', p', hj', h'⟩
    · exact ⟨a2.trans b2.symm, same_det a3 b3⟩
    · exact (noP_is a1 hj').elim
  · rcases h' with ⟨b1, b2, b3⟩ | ⟨j', p', hj', h'⟩
    · exact (noP_is b1 hj).elim
    · obtain ⟨rfl, rfl⟩ := isP_det hn hj hj'
      rcases h with ⟨a1, a2, a3⟩ | ⟨a1, a2, a3⟩
      · rcases h' with ⟨b1, b2, b3⟩ | ⟨b1, b2, b3⟩
        · exact ⟨a2.trans b2.symm, same_det a3 b3⟩
        · exact absurd b1 a1
      · rcases h' with ⟨b1, b2, b3⟩ | ⟨b1, b2, b3⟩
        · exact absurd a1 b1
        · exact ⟨a2.trans b2.symm, push_det a3 b3⟩
theorem tkaR_det {pC : List zPn} {pO : List Int} {ev x r r3 : Int} {hs hs2 hs3 : List zSt} {S S3 : zSt} (hn : ndP pC) (h : tkaR pC pO ev hs x r S hs2) (h' : tkaR pC pO ev hs x r3 S3 hs3) : r = r3 ∧ S = S3 ∧ hs2 = hs3 := by
  rcases h with ⟨a1, a2, a3⟩ | ⟨j, p, hj, a2, a3⟩
  · rcases h' with ⟨b1, b2, b3⟩ | ⟨j', p', hj', h'⟩
    · exact ⟨a2.trans b2.symm, same_det a3 b3⟩
    · exact (noP_is a1 hj').elim
  · rcases h' with ⟨b1, b2, b3⟩ | ⟨j', p', hj', b2, b3⟩
    · exact (noP_is b1 hj).elim
    · obtain ⟨rfl, rfl⟩ := isP_det hn hj hj'
      exact ⟨a2.trans b2.symm, push_det a3 b3⟩
theorem movR_det {pC : List zPn} {pO : List Int} {ev x s pl r r3 : Int} {hs hs2 hs3 : List zSt} {S S3 : zSt} (hn : ndP pC) (h : movR pC pO ev hs x s pl r S hs2) (h' : movR pC pO ev hs x s pl r3 S3 hs3) : r = r3 ∧ S = S3 ∧ hs2 = hs3 := by
  rcases h with ⟨a1, a2, a3⟩ | ⟨a0, j, p, hj, h⟩
  · rcases h' with ⟨b1, b2, b3⟩ | ⟨b0, j', p', hj', h'⟩
    · exact ⟨a2.trans b2.symm, same_det a3 b3⟩
    · rcases a1 with a1 | a1
      · exact (noP_is a1 hj').elim
      · omega
  · rcases h' with ⟨b1, b2, b3⟩ | ⟨b0, j', p', hj', h'⟩
    · rcases b1 with b1 | b1
      · exact (noP_is b1 hj).elim
      · omega
    · obtain ⟨rfl, rfl⟩ := isP_det hn hj hj'
      rcases h with ⟨a1, a2, a3⟩ | ⟨a1, h⟩
      · rcases h' with ⟨b1, b2, b3⟩ | ⟨b1, h'⟩
        · exact ⟨a2.trans b2.symm, same_det a3 b3⟩
        · omega
      · rcases h' with ⟨b1, b2, b3⟩ | ⟨b1, h'⟩
        · omega
        · rcases h with ⟨c1, c2, c3⟩ | ⟨c1, c2, c3⟩
          · rcases h' with ⟨d1, d2, d3⟩ | ⟨d1, d2, d3⟩
            · exact ⟨c2.trans d2.symm, same_det c3 d3⟩
            · exact absurd c1 d1
          · rcases h' with ⟨d1, d2, d3⟩ | ⟨d1, d2, d3⟩
            · exact absurd d1 c1
            · exact ⟨c2.trans d2.symm, push_det c3 d3⟩
theorem timR_det {pC : List zPn} {pO : List Int} {ev x d r r3 : Int} {hs hs2 hs3 : List zSt} {S S3 : zSt} (hn : ndP pC) (h : timR pC pO ev hs x d r S hs2) (h' : timR pC pO ev hs x d r3 S3 hs3) : r = r3 ∧ S = S3 ∧ hs2 = hs3 := by
  rcases h with ⟨a1, a2, a3⟩ | ⟨j, p, hj, h⟩
  · rcases h' with ⟨b1, b2, b3⟩ | ⟨j', p', hj', h'⟩
    · exact ⟨a2.trans b2.symm, same_det a3 b3⟩
    · exact (noP_is a1 hj').elim
  · rcases h' with ⟨b1, b2, b3⟩ | ⟨j', p', hj', h'⟩
    · exact (noP_is b1 hj).elim
    · obtain ⟨rfl, rfl⟩ := isP_det hn hj hj'
      rcases h with ⟨a1, a2, a3⟩ | ⟨a1, h⟩
      · rcases h' with ⟨b1, b2, b3⟩ | ⟨b1, h'⟩
        · exact ⟨a2.trans b2.symm, same_det a3 b3⟩
        · omega
      · rcases h' with ⟨b1, b2, b3⟩ | ⟨b1, h'⟩
        · omega
        · rcases h with ⟨c1, c2, c3⟩ | ⟨c1, c2, c3⟩
          · rcases h' with ⟨d1, d2, d3⟩ | ⟨d1, d2, d3⟩
            · exact ⟨c2.trans d2.symm, same_det c3 d3⟩
            · exact absurd c1 d1
          · rcases h' with ⟨d1, d2, d3⟩ | ⟨d1, d2, d3⟩
            · exact absurd d1 c1
            · exact ⟨c2.trans d2.symm, push_det c3 d3⟩
theorem sceR_det {pC : List zPn} {pO : List Int} {ev s pl r r3 : Int} {hs hs2 hs3 : List zSt} {S S3 : zSt} (h : sceR pC pO ev hs s pl r S hs2) (h' : sceR pC pO ev hs s pl r3 S3 hs3) : r = r3 ∧ S = S3 ∧ hs2 = hs3 := by
  rcases h with ⟨a1, a2, a3⟩ | ⟨a0, ⟨a1, a2, a3⟩ | ⟨a1, ⟨a2, a3, a4⟩ | ⟨a2, a3, a4⟩⟩⟩
  · rcases h' with ⟨b1, b2, b3⟩ | ⟨b0, -⟩
    · exact ⟨a2.trans b2.symm, same_det a3 b3⟩
    · omega
  · rcases h' with ⟨b1, b2, b3⟩ | ⟨b0, ⟨b1, b2, b3⟩ | ⟨b1, -⟩⟩
    · omega
    · exact ⟨a2.trans b2.symm, same_det a3 b3⟩
    · omega
  · rcases h' with ⟨b1, b2, b3⟩ | ⟨b0, ⟨b1, b2, b3⟩ | ⟨b1, ⟨b2, b3, b4⟩ | ⟨b2, b3, b4⟩⟩⟩
    · omega
    · omega
    · exact ⟨a3.trans b3.symm, same_det a4 b4⟩
    · exact absurd a2 b2
  · rcases h' with ⟨b1, b2, b3⟩ | ⟨b0, ⟨b1, b2, b3⟩ | ⟨b1, ⟨b2, b3, b4⟩ | ⟨b2, b3, b4⟩⟩⟩
    · omega
    · omega
    · exact absurd b2 a2
    · exact ⟨a3.trans b3.symm, push_det a4 b4⟩
theorem undR_det {pC : List zPn} {pO : List Int} {ev r r3 : Int} {hs hs2 hs3 : List zSt} {S S3 : zSt} (h : undR pC pO ev hs r S hs2) (h' : undR pC pO ev hs r3 S3 hs3) : r = r3 ∧ S = S3 ∧ hs2 = hs3 := by
  rcases h with ⟨a1, a2, a3⟩ | ⟨a1, a2, a3, a4⟩
  · rcases h' with ⟨b1, b2, b3⟩ | ⟨b1, b2, b3, b4⟩
    · exact ⟨a2.trans b2.symm, same_det a3 b3⟩
    · omega
  · rcases h' with ⟨b1, b2, b3⟩ | ⟨b1, b2, b3, b4⟩
    · omega
    · exact ⟨a2.trans b2.symm, Option.some.inj (a3.symm.trans b3), a4.trans b4.symm⟩
theorem resR_det {pC : List zPn} {pO : List Int} {ev k r r3 : Int} {Sn : zSt} {hs hs2 hs3 : List zSt} {S S3 : zSt} (h : resR pC pO ev hs k Sn r S hs2) (h' : resR pC pO ev hs k Sn r3 S3 hs3) : r = r3 ∧ S = S3 ∧ hs2 = hs3 := by
  rcases h with ⟨a1, a2, a3⟩ | ⟨a1, a2, a3⟩
  · rcases h' with ⟨b1, b2, b3⟩ | ⟨b1, b2, b3⟩
    · exact ⟨a2.trans b2.symm, same_det a3 b3⟩
    · exact absurd a1 b1
  · rcases h' with ⟨b1, b2, b3⟩ | ⟨b1, b2, b3⟩
    · exact absurd b1 a1
    · exact ⟨a2.trans b2.symm, push_det a3 b3⟩
theorem noM_one {pC C2 : List zPn} {pO : List Int} {s : Int} (h : noM pC pO s) (h' : oneM pC pO s C2) : False := by
  obtain ⟨j, p, h1, h2, h3, -⟩ := h'
  exact h j p h1 h2 h3
theorem oneM_det {pC C2 C3 : List zPn} {pO : List Int} {s : Int} (hn : ndP pC) (h : oneM pC pO s C2) (h' : oneM pC pO s C3) : C2 = C3 := by
  obtain ⟨j, p, h1, h2, h3, h4, h5⟩ := h
  obtain ⟨j', p', g1, g2, g3, g4, g5⟩ := h'
  rcases Int.lt_trichotomy p.1 p'.1 with c | c | c
  · exact absurd h3 (g4 j p h1 h2 c)
  · obtain ⟨rfl, rfl⟩ := uniqP hn h1 g1 c
    rw [h5, g5]
  · exact absurd g3 (h4 j' p' g1 g2 c)
theorem oneM_nd {pC C2 : List zPn} {pO : List Int} {s : Int} (hn : ndP pC) (h : oneM pC pO s C2) : ndP C2 := by
  obtain ⟨j, p, h1, h2, h3, h4, h5⟩ := h
  rw [h5]
  unfold ndP mvC
  have e1 := (insC_perm (pC.eraseIdx j) (ahC (pC.eraseIdx j) pO s + bestC pC pO j p s) (reS p s)).map Prod.fst
  have e2 := (zerase_perm h1).map Prod.fst
  rw [List.map_cons] at e1 e2
  exact ((e1.trans e2).nodup_iff).mpr hn
theorem menR_det {pC : List zPn} {pO : List Int} {ev s r r3 : Int} {hs hs2 hs3 : List zSt} {S S3 : zSt} (hn : ndP pC) (h : menR pC pO ev hs s r S hs2) (h' : menR pC pO ev hs s r3 S3 hs3) : r = r3 ∧ S = S3 ∧ hs2 = hs3 := by
  rcases h with ⟨a1, a2, a3⟩ | ⟨a0, ⟨a1, a2, a3⟩ | ⟨C1, hc, h⟩⟩
  · rcases h' with ⟨b1, b2, b3⟩ | ⟨b0, -⟩
    · exact ⟨a2.trans b2.symm, same_det a3 b3⟩
    · omega
  · rcases h' with ⟨b1, b2, b3⟩ | ⟨b0, ⟨b1, b2, b3⟩ | ⟨D1, hd, -⟩⟩
    · omega
    · exact ⟨a2.trans b2.symm, same_det a3 b3⟩
    · exact (noM_one a1 hd).elim
  · rcases h' with ⟨b1, b2, b3⟩ | ⟨b0, ⟨b1, b2, b3⟩ | ⟨D1, hd, h'⟩⟩
    · omega
    · exact (noM_one b1 hc).elim
    · have e1 := oneM_det hn hc hd
      subst e1
      have hn1 := oneM_nd hn hc
      rcases h with ⟨a1, a2, a3⟩ | ⟨C2, hc2, a2, a3⟩
      · rcases h' with ⟨b1, b2, b3⟩ | ⟨D2, hd2, b2, b3⟩
        · exact ⟨a2.trans b2.symm, push_det a3 b3⟩
        · exact (noM_one a1 hd2).elim
      · rcases h' with ⟨b1, b2, b3⟩ | ⟨D2, hd2, b2, b3⟩
        · exact (noM_one b1 hc2).elim
        · have e2 := oneM_det hn1 hc2 hd2
          subst e2
          exact ⟨a2.trans b2.symm, push_det a3 b3⟩
theorem panR_det {pC : List zPn} {pO : List Int} {x w r r3 : Int} (hn : ndP pC) (h : panR pC pO x w r) (h' : panR pC pO x w r3) : r = r3 := by
  rcases h with ⟨a1, a2⟩ | ⟨j, p, hj, a2⟩
  · rcases h' with ⟨b1, b2⟩ | ⟨j', p', hj', b2⟩
    · exact a2.trans b2.symm
    · exact (noP_is a1 hj').elim
  · rcases h' with ⟨b1, b2⟩ | ⟨j', p', hj', b2⟩
    · exact (noP_is b1 hj).elim
    · obtain ⟨rfl, rfl⟩ := isP_det hn hj hj'
      exact a2.trans b2.symm
theorem evtR_det {pC : List zPn} {x e w r r3 : Int} (hn : ndP pC) (h : evtR pC x e w r) (h' : evtR pC x e w r3) : r = r3 := by
  rcases h with ⟨a1, a2⟩ | ⟨j, p, hj, h⟩
  · rcases h' with ⟨b1, b2⟩ | ⟨j', p', hj', b2⟩
    · exact a2.trans b2.symm
    · exact (noP_is a1 hj').elim
  · rcases h' with ⟨b1, b2⟩ | ⟨j', p', hj', h'⟩
    · exact (noP_is b1 hj).elim
    · obtain ⟨rfl, rfl⟩ := isP_det hn hj hj'
      rcases h with ⟨a1, a2⟩ | ⟨v, a1, a2, a3⟩
      · rcases h' with ⟨b1, b2⟩ | ⟨u, b1, b2, b3⟩
        · exact a2.trans b2.symm
        · have := (List.getElem?_eq_some_iff.mp b2).1; omega
      · rcases h' with ⟨b1, b2⟩ | ⟨u, b1, b2, b3⟩
        · have := (List.getElem?_eq_some_iff.mp a2).1; omega
        · rw [a2] at b2
          rw [a3, b3, Option.some.inj b2]
theorem atR_det {pC : List zPn} {x r r3 : Int} (h : atR pC x r) (h' : atR pC x r3) : r = r3 := by
  rcases h with ⟨a1, a2⟩ | ⟨a1, a2, a3⟩ | ⟨p, a1, a2, a3⟩
  · rcases h' with ⟨b1, b2⟩ | ⟨b1, b2, b3⟩ | ⟨q, b1, b2, b3⟩ <;> omega
  · rcases h' with ⟨b1, b2⟩ | ⟨b1, b2, b3⟩ | ⟨q, b1, b2, b3⟩
    · omega
    · omega
    · have := (List.getElem?_eq_some_iff.mp b2).1; omega
  · rcases h' with ⟨b1, b2⟩ | ⟨b1, b2, b3⟩ | ⟨q, b1, b2, b3⟩
    · omega
    · have := (List.getElem?_eq_some_iff.mp a2).1; omega
    · rw [a2] at b2
      rw [a3, b3, Option.some.inj b2]
theorem scnR_det {pC : List zPn} {pO : List Int} {s w r r3 : Int} (h : scnR pC pO s w r) (h' : scnR pC pO s w r3) : r = r3 := by
  rcases h with ⟨a1, a2⟩ | ⟨a1, a2⟩ <;> rcases h' with ⟨b1, b2⟩ | ⟨b1, b2⟩ <;> omega
theorem hldR_det {pC : List zPn} {x n r r3 : Int} (hn : ndP pC) (h : hldR pC x n r) (h' : hldR pC x n r3) : r = r3 := by
  rcases h with ⟨a1, a2⟩ | ⟨a1, j, p, hj, a2⟩
  · rcases h' with ⟨b1, b2⟩ | ⟨b1, j', p', hj', b2⟩
    · exact a2.trans b2.symm
    · rcases a1 with a1 | a1 | a1
      · omega
      · omega
      · exact (noP_is a1 hj').elim
  · rcases h' with ⟨b1, b2⟩ | ⟨b1, j', p', hj', b2⟩
    · rcases b1 with b1 | b1 | b1
      · omega
      · omega
      · exact (noP_is b1 hj).elim
    · obtain ⟨rfl, rfl⟩ := isP_det hn hj hj'
      exact a2.trans b2.symm
theorem brkR_det {pC : List zPn} {k w r r3 : Int} (h : brkR pC k w r) (h' : brkR pC k w r3) : r = r3 := by
  rcases h with ⟨a1, a2⟩ | ⟨a1, ⟨a2, a3⟩ | ⟨a2, a3⟩⟩ <;> rcases h' with ⟨b1, b2⟩ | ⟨b1, ⟨b2, b3⟩ | ⟨b2, b3⟩⟩ <;> omega
theorem fstB_det {pC : List zPn} {s r r3 : Int} (h : fstB pC s r) (h' : fstB pC s r3) : r = r3 := by
  rcases h with ⟨a1, a2⟩ | ⟨a1, a2, a3⟩
  · rcases h' with ⟨b1, b2⟩ | ⟨b1, b2, b3⟩
    · omega
    · exact absurd b2 (a2 r3 b1.1 b1.2)
  · rcases h' with ⟨b1, b2⟩ | ⟨b1, b2, b3⟩
    · exact absurd a2 (b2 r a1.1 a1.2)
    · rcases Int.lt_trichotomy r r3 with c | c | c
      · exact absurd a2 (b3 r a1.1 c)
      · exact c
      · exact absurd b2 (a3 r3 b1.1 c)
theorem fstR_det {pC : List zPn} {s w r r3 : Int} (h : fstR pC s w r) (h' : fstR pC s w r3) : r = r3 := by
  rcases h with ⟨a1, a2⟩ | ⟨a0, ⟨a1, a2⟩ | ⟨a1, k, hk, h⟩⟩
  · rcases h' with ⟨b1, b2⟩ | ⟨b0, -⟩ <;> omega
  · rcases h' with ⟨b1, b2⟩ | ⟨b0, ⟨b1, b2⟩ | ⟨b1, -⟩⟩ <;> omega
  · rcases h' with ⟨b1, b2⟩ | ⟨b0, ⟨b1, b2⟩ | ⟨b1, k', hk', h'⟩⟩
    · omega
    · omega
    · have e := fstB_det hk hk'
      subst e
      rcases h with ⟨c1, c2⟩ | ⟨c1, c2⟩ <;> rcases h' with ⟨d1, d2⟩ | ⟨d1, d2⟩ <;> omega
theorem ifmR_det {pC : List zPn} {pO : List Int} {x s pl r r3 : Int} (hn : ndP pC) (h : ifmR pC pO x s pl r) (h' : ifmR pC pO x s pl r3) : r = r3 := by
  rcases h with ⟨a1, a2⟩ | ⟨a0, j, p, hj, h⟩
  · rcases h' with ⟨b1, b2⟩ | ⟨b0, j', p', hj', h'⟩
    · exact a2.trans b2.symm
    · rcases a1 with a1 | a1
      · exact (noP_is a1 hj').elim
      · omega
  · rcases h' with ⟨b1, b2⟩ | ⟨b0, j', p', hj', h'⟩
    · rcases b1 with b1 | b1
      · exact (noP_is b1 hj).elim
      · omega
    · obtain ⟨rfl, rfl⟩ := isP_det hn hj hj'
      rcases h with ⟨c1, c2⟩ | ⟨c1, c2⟩ <;> rcases h' with ⟨d1, d2⟩ | ⟨d1, d2⟩ <;> omega
theorem bstR_det {pC : List zPn} {pO : List Int} {x s r r3 : Int} (hn : ndP pC) (h : bstR pC pO x s r) (h' : bstR pC pO x s r3) : r = r3 := by
  rcases h with ⟨a1, a2⟩ | ⟨a0, j, p, hj, a2⟩
  · rcases h' with ⟨b1, b2⟩ | ⟨b0, j', p', hj', b2⟩
    · exact a2.trans b2.symm
    · rcases a1 with a1 | a1
      · exact (noP_is a1 hj').elim
      · omega
  · rcases h' with ⟨b1, b2⟩ | ⟨b0, j', p', hj', b2⟩
    · rcases b1 with b1 | b1
      · exact (noP_is b1 hj).elim
      · omega
    · obtain ⟨rfl, rfl⟩ := isP_det hn hj hj'
      exact a2.trans b2.symm
/-! one state of both -/
def lwR (xk hn : Int) (b bn : zBS) (t : zTS) (d0 d1 d2 d3 : zBS) (bm : zM2) (S : zSt) (hs : List zSt) (Sn : zSt) : Prop := (RBS b S ∧ HB hn d0 d1 d2 d3 hs ∧ RBS bn Sn ∧ TXOK t) ∧ (MR (mm_all bm) S ∧ MH (mm_hl bm) (mm_his bm) hs) ∧ (mm_tak bm = xk ∧ 0 ≤ xk ∧ xk < 2) ∧ (xk ≠ 0 → MR (mm_snap bm) Sn) ∧ TXM (mm_txt bm) (mm_tl bm) ∧ tx_len t = mm_tl bm ∧ ∀ i, 0 ≤ i → i < tx_len t → tx_sig t i = mm_txt bm i
theorem RBS_nd {b : zBS} {S : zSt} (h : RBS b S) : ndP S.1 := h.2.2.2.2.2.2.2.1
theorem prs_same {t : zTS} {bm : zM2} (h1 : tx_len t = mm_tl bm) (h2 : ∀ i, 0 ≤ i → i < tx_len t → tx_sig t i = mm_txt bm i) : prs (sgn t) (tx_len t) = prs (sgM (mm_txt bm) (mm_tl bm)) (mm_tl bm) := by
  rw [h1]
  refine prs_cg (fun i hi => ?_)
  unfold sgn sgM
  rw [h1]
  split
  · exact h2 i hi (by omega)
  · rfl
theorem zchar_rg (x : Int) : 0 ≤ zchar x ∧ zchar x < 65536 := by unfold zchar; omega
