theorem TXOK_cod {t : zTS} (h : TXOK t) {k w : Int} (z : Int) (hw : 0 ≤ w ∧ w < 400) : TXOK (tx_cod_ (tx_evs_ t z) (zU (tx_cod t) k w)) := by
  refine ⟨h.1, h.2.1, fun j j1 j2 => ?_⟩
  show 0 ≤ zU (tx_cod t) k w j ∧ zU (tx_cod t) k w j < 400
  unfold zU
  split
  · exact hw
  · exact h.2.2 j j1 j2
