/-! Z8: to be replaced -/
theorem law_ok : LAWOK := sorry
