-- STAND-IN till the small machine's law is walked
theorem law_Rn (xs : List Int) (hx : ∀ z ∈ xs, inR z) (hL : xs.length ≤ 448) : ∃ h', Rn xs m_Law_law 0 [vS 3, vU, vU, vU] [] [] (some (vI 1)) h' ∧ h'.length ≤ 51 ∧ slt h' ≤ 872 := by
  sorry
