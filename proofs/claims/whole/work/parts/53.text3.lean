/-! a text with one sign more -/
def typT (t : zTS) (v : Int) : zTS := tx_len_ (tx_sig_ t (zU (tx_sig t) (tx_len t) v)) (tx_len t + 1)
theorem TXOK_typ {t : zTS} (h : TXOK t) (hl : tx_len t < 60) {v : Int} (hv : 0 ≤ v ∧ v < 65536) : TXOK (typT t v) := by
  obtain ⟨h1, h2, h3⟩ := h
  refine ⟨⟨by show 0 ≤ tx_len t + 1; omega, by show tx_len t + 1 ≤ 60; omega⟩, fun k k1 k2 => ?_, h3⟩
  show 0 ≤ zU (tx_sig t) (tx_len t) v k ∧ zU (tx_sig t) (tx_len t) v k < 65536
  unfold zU
  split
  · exact hv
  · exact h2 k k1 k2
theorem TXOK_clr {t : zTS} (h : TXOK t) : TXOK (tx_len_ t 0) := ⟨⟨by show (0 : Int) ≤ 0; omega, by show (0 : Int) ≤ 60; omega⟩, h.2.1, h.2.2⟩
