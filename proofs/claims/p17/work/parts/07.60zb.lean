theorem zb_n {v : Int32} (h : ¬ (v ≠ 0 ∧ v ≠ 1)) : narrow .boolean (.int v) = .int v := by
  by_cases h0 : v = 0
  · subst h0; rfl
  · by_cases h1 : v = 1
    · subst h1; rfl
    · exact absurd ⟨h0, h1⟩ h
theorem zb_f {v : Int32} (h : ¬ (v ≠ 0 ∧ v ≠ 1)) : fits .boolean (.int v) = true := by
  by_cases h0 : v = 0
  · subst h0; rfl
  · by_cases h1 : v = 1
    · subst h1; rfl
    · exact absurd ⟨h0, h1⟩ h
