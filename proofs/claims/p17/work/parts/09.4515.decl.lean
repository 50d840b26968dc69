theorem s_decl {u : StO} {μ : StM} {n g d t : Nat} (hL : kL u.1 n g d) (hM : kN μ n g d t) (x1 : Int32) {x2 : Int32} (h2 : x2 = 0 ∨ x2 = 1) :
    ∃ (rW : Int32 × StO × Nat × Nat) (rM : Int32 × StM) (n' g' t' : Nat), f_W_declare u x1 x2 = some rW ∧ f_M_declare μ x1 x2 = some rM ∧ (kL rW.2.1.1 n' g' d ∧ rW.2.2.1 + (T_parts (L_types u.1)).1 ≤ 1 + (T_parts (L_types rW.2.1.1)).1 ∧ rW.2.2.2 + 2 * (T_parts (L_types u.1)).1 ≤ 6 + 2 * (T_parts (L_types rW.2.1.1)).1) ∧ kN rM.2 n' g' d t' ∧ f_M_thrown rM.2 = rW.1 ∧ (rW.1 = 0 → rW.2.1.2 0 = rM.1.toInt64) := by
  obtain ⟨r, er, r1, r2⟩ := s_L_declare hL x1 x2
  obtain ⟨q, eq, q1, q2⟩ := s_M_declare hM (x1 := x1) h2
  by_cases hc : n = 30 ∨ (¬ x2 = 0 ∧ 6 ≤ g)
  · have r3 := r1 hc
    obtain ⟨q3, q4⟩ := q1 hc
    refine ⟨(1, (u.1, u.2), 1, 6), q, n, g, t, ?_, eq, ⟨hL, ?_, ?_⟩, q4, q3, fun z => absurd z k_10⟩
    · unfold f_W_declare
      rw [er, r3]; rfl
    · show 1 + (T_parts (L_types u.1)).1 ≤ 1 + (T_parts (L_types u.1)).1
      omega
    · show 6 + 2 * (T_parts (L_types u.1)).1 ≤ 6 + 2 * (T_parts (L_types u.1)).1
      omega
  · obtain ⟨e1, e2, e3, e4⟩ := r2 hc
    obtain ⟨q3, q4, q5⟩ := q2 hc
    obtain ⟨v, τ, K, N⟩ := r
    replace e1 : v = .inl (nI n) := e1
    replace e3 : L_types τ = L_types u.1 := e3
    replace e4 : (K, N) = ((0, 0) : Nat × Nat) := e4
    subst e1
    cases e4
    refine ⟨(0, (τ, vp_updL u.2 0 (nI n).toInt64), 0, 0), q, _, _, t, ?_, eq, ⟨e2, ?_, ?_⟩, q5, q3, fun _ => ?_⟩
    · unfold f_W_declare
      rw [er]; rfl
    · show 0 + (T_parts (L_types u.1)).1 ≤ 1 + (T_parts (L_types τ)).1
      rw [e3]; omega
    · show 0 + 2 * (T_parts (L_types u.1)).1 ≤ 6 + 2 * (T_parts (L_types τ)).1
      rw [e3]; omega
    · show vp_updL u.2 0 (nI n).toInt64 0 = q.1.toInt64
      rw [q4]; simp [vp_updL]
theorem lw_b01 (y : Int32) : (if y = 0 then (0 : Int32) else 1) = 0 ∨ (if y = 0 then (0 : Int32) else 1) = 1 := by
  by_cases h : y = 0
  · exact Or.inl (if_pos h)
  · exact Or.inr (if_neg h)
theorem lw_len {σ : StL} {n g d : Nat} (h : kL σ n g d) : 64 ≤ (T_parts (L_types σ)).1 ∧ (T_parts (L_types σ)).1 ≤ 60000 := by
  obtain ⟨t, ht⟩ := h.2.2.2
  exact ht.2.2.2.2.2
