/-! Tier 2 and tier 3 joined, for each call of the law. -/
theorem lw_b2 (y : Int32) : ∃ f, (if y = 0 then (0 : Int32) else 1) = b2 f := by
  by_cases h : y = 0
  · exact ⟨false, if_pos h⟩
  · exact ⟨true, if_neg h⟩
theorem s_X_declare {u : StO} {μ : StM} {n g d t : Nat} {C : wWc} {gC : Nat} {T : wWt} (hL : kL u.1 n g d) (hM : kN μ n g d t) (hW : RW C gC T d) (rl : RL u.1 C gC T d) (rm : RM μ C gC T d) {x1 x2 : Int32} (h1 : ∃ f, x1 = b2 f) (h2 : ∃ f, x2 = b2 f) :
    ∃ (rW : Int32 × StO × Nat × Nat) (rM : Int32 × StM) (n' g' t' : Nat) (C' : wWc) (gC' : Nat) (T' : wWt), f_W_declare u x1 x2 = some rW ∧ f_M_declare μ x1 x2 = some rM ∧ (kL rW.2.1.1 n' g' d ∧ rW.2.2.1 + (T_parts (L_types u.1)).1 ≤ 1 + (T_parts (L_types rW.2.1.1)).1 ∧ rW.2.2.2 + 2 * (T_parts (L_types u.1)).1 ≤ 6 + 2 * (T_parts (L_types rW.2.1.1)).1) ∧ kN rM.2 n' g' d t' ∧ (RW C' gC' T' d ∧ RL rW.2.1.1 C' gC' T' d ∧ RM rM.2 C' gC' T' d) ∧ f_M_thrown rM.2 = rW.1 ∧ (rW.1 = 0 → rW.2.1.2 0 = rM.1.toInt64) := by
  obtain ⟨f1, e1⟩ := h1
  obtain ⟨f2, e2⟩ := h2
  have h2' : x2 = 0 ∨ x2 = 1 := by
    rw [e2]
    cases f2
    · exact Or.inl rfl
    · exact Or.inr rfl
  obtain ⟨rW, rM, n', g', t', gW, gM, w1, w4, w5, w6⟩ := s_decl hL hM x1 h2'
  obtain ⟨o, C', gC', T', q1, q2, q3⟩ := R_declare hW rl rm e1 e2
  obtain ⟨_, q5⟩ := q3 rM gM
  refine ⟨rW, rM, n', g', t', C', gC', T', gW, gM, w1, w4, ⟨q1, ?_, q5⟩, w5, w6⟩
  have gW' := gW
  unfold f_W_declare at gW'
  cases eL : f_L_declare u.1 x1 x2 with
  | none => rw [eL] at gW'; cases gW'
  | some r =>
    obtain ⟨_, q7⟩ := q2 r eL
    rw [eL] at gW'
    obtain ⟨v, τ, K, N⟩ := r
    cases v with
    | inl v =>
      replace gW' : some ((0 : Int32), (τ, vp_updL u.2 0 v.toInt64), K, N) = some rW := gW'
      injection gW' with gW'
      subst gW'
      exact q7
    | inr k =>
      replace gW' : (if k = 2 then some ((1 : Int32), (τ, u.2), K, N) else none) = some rW := gW'
      by_cases z : k = 2
      · rw [if_pos z] at gW'
        injection gW' with gW'
        subst gW'
        exact q7
      · rw [if_neg z] at gW'; cases gW'
theorem s_X_above {u : StO} {μ : StM} {n g d t : Nat} {C : wWc} {gC : Nat} {T : wWt} (hL : kL u.1 n g d) (hM : kN μ n g d t) (hW : RW C gC T d) (rl : RL u.1 C gC T d) (rm : RM μ C gC T d) (x1 x2 : Int32) :
    ∃ (rW : Int32 × StO × Nat × Nat) (rM : Int32 × StM) (n' g' t' : Nat) (C' : wWc) (gC' : Nat) (T' : wWt), f_W_above u x1 x2 = some rW ∧ f_M_above μ x1 x2 = some rM ∧ (kL rW.2.1.1 n' g' d ∧ rW.2.2.1 + (T_parts (L_types u.1)).1 ≤ 1 + (T_parts (L_types rW.2.1.1)).1 ∧ rW.2.2.2 + 2 * (T_parts (L_types u.1)).1 ≤ 6 + 2 * (T_parts (L_types rW.2.1.1)).1) ∧ kN rM.2 n' g' d t' ∧ (RW C' gC' T' d ∧ RL rW.2.1.1 C' gC' T' d ∧ RM rM.2 C' gC' T' d) ∧ f_M_thrown rM.2 = rW.1 ∧ (rW.1 = 0 → rW.2.1.2 0 = rM.1.toInt64) := by
  obtain ⟨rW, gW, w1, w2, w3⟩ := s_W_above hL x1 x2
  obtain ⟨rM, gM, t', w4⟩ := s_M_above hM x1 x2
  obtain ⟨o, C', gC', T', q1, q2, q3⟩ := R_above hW rl rm x1 x2
  obtain ⟨q4, q5⟩ := q3 rM gM
  suffices key : RL rW.2.1.1 C' gC' T' d ∧ f_M_thrown rM.2 = rW.1 ∧ (rW.1 = 0 → rW.2.1.2 0 = rM.1.toInt64) from
    ⟨rW, rM, n, g, t', C', gC', T', gW, gM, ⟨w1, w2, w3⟩, w4, ⟨q1, key.1, q5⟩, key.2⟩
  have gW' := gW
  unfold f_W_above at gW'
  cases eL : f_L_above u.1 x1 x2 with
  | none => rw [eL] at gW'; cases gW'
  | some r =>
    obtain ⟨q6, q7⟩ := q2 r eL
    rw [eL] at gW'
    obtain ⟨v, τ, K, N⟩ := r
    replace q6 : v = o := q6
    subst q6
    cases v with
    | inl v =>
      obtain ⟨q8, q9⟩ := q4
      replace q9 : rM.1 = v := q9
      replace gW' : some ((0 : Int32), (τ, vp_updL u.2 0 v.toInt64), K, N) = some rW := gW'
      injection gW' with gW'
      subst gW'
      refine ⟨q7, q8, fun _ => ?_⟩
      show vp_updL u.2 0 v.toInt64 0 = rM.1.toInt64
      rw [q9]; simp [vp_updL]
    | inr k =>
      replace gW' : (if k = 1 then some ((1 : Int32), (τ, u.2), K, N) else if k = 2 then some ((2 : Int32), (τ, u.2), K, N) else if k = 3 then some ((3 : Int32), (τ, u.2), K, N) else none) = some rW := gW'
      by_cases z1 : k = 1
      · subst z1
        rw [if_pos rfl] at gW'
        injection gW' with gW'
        subst gW'
        exact ⟨q7, q4, fun z => absurd z (show ¬ (1 : Int32) = 0 by decide)⟩
      rw [if_neg z1] at gW'
      by_cases z2 : k = 2
      · subst z2
        rw [if_pos rfl] at gW'
        injection gW' with gW'
        subst gW'
        exact ⟨q7, q4, fun z => absurd z (show ¬ (2 : Int32) = 0 by decide)⟩
      rw [if_neg z2] at gW'
      by_cases z3 : k = 3
      · subst z3
        rw [if_pos rfl] at gW'
        injection gW' with gW'
        subst gW'
        exact ⟨q7, q4, fun z => absurd z (show ¬ (3 : Int32) = 0 by decide)⟩
      rw [if_neg z3] at gW'
      cases gW'
theorem s_X_named {u : StO} {μ : StM} {n g d t : Nat} {C : wWc} {gC : Nat} {T : wWt} (hL : kL u.1 n g d) (hM : kN μ n g d t) (hW : RW C gC T d) (rl : RL u.1 C gC T d) (rm : RM μ C gC T d) (x1 x2 x3 : Int32) :
    ∃ (rW : Int32 × StO × Nat × Nat) (rM : Int32 × StM) (n' g' t' : Nat) (C' : wWc) (gC' : Nat) (T' : wWt), f_W_named u x1 x2 x3 = some rW ∧ f_M_named μ x1 x2 x3 = some rM ∧ (kL rW.2.1.1 n' g' d ∧ rW.2.2.1 + (T_parts (L_types u.1)).1 ≤ 1 + (T_parts (L_types rW.2.1.1)).1 ∧ rW.2.2.2 + 2 * (T_parts (L_types u.1)).1 ≤ 6 + 2 * (T_parts (L_types rW.2.1.1)).1) ∧ kN rM.2 n' g' d t' ∧ (RW C' gC' T' d ∧ RL rW.2.1.1 C' gC' T' d ∧ RM rM.2 C' gC' T' d) ∧ f_M_thrown rM.2 = rW.1 ∧ (rW.1 = 0 → rW.2.1.2 0 = rM.1.toInt64) := by
  obtain ⟨rW, gW, w1, w2, w3⟩ := s_W_named hL x1 x2 x3
  obtain ⟨rM, gM, t', w4⟩ := s_M_named hM x1 x2 x3
  obtain ⟨o, C', gC', T', q1, q2, q3⟩ := R_named hW rl rm x1 x2 x3
  obtain ⟨q4, q5⟩ := q3 rM gM
  suffices key : RL rW.2.1.1 C' gC' T' d ∧ f_M_thrown rM.2 = rW.1 ∧ (rW.1 = 0 → rW.2.1.2 0 = rM.1.toInt64) from
    ⟨rW, rM, n, g, t', C', gC', T', gW, gM, ⟨w1, w2, w3⟩, w4, ⟨q1, key.1, q5⟩, key.2⟩
  have gW' := gW
  unfold f_W_named at gW'
  cases eL : f_L_named u.1 x1 x2 x3 with
  | none => rw [eL] at gW'; cases gW'
  | some r =>
    obtain ⟨q6, q7⟩ := q2 r eL
    rw [eL] at gW'
    obtain ⟨v, τ, K, N⟩ := r
    replace q6 : v = o := q6
    subst q6
    cases v with
    | inl v =>
      obtain ⟨q8, q9⟩ := q4
      replace q9 : rM.1 = v := q9
      replace gW' : some ((0 : Int32), (τ, vp_updL u.2 0 v.toInt64), K, N) = some rW := gW'
      injection gW' with gW'
      subst gW'
      refine ⟨q7, q8, fun _ => ?_⟩
      show vp_updL u.2 0 v.toInt64 0 = rM.1.toInt64
      rw [q9]; simp [vp_updL]
    | inr k =>
      replace gW' : (if k = 1 then some ((1 : Int32), (τ, u.2), K, N) else if k = 3 then some ((2 : Int32), (τ, u.2), K, N) else if k = 2 then some ((3 : Int32), (τ, u.2), K, N) else none) = some rW := gW'
      by_cases z1 : k = 1
      · subst z1
        rw [if_pos rfl] at gW'
        injection gW' with gW'
        subst gW'
        exact ⟨q7, q4, fun z => absurd z (show ¬ (1 : Int32) = 0 by decide)⟩
      rw [if_neg z1] at gW'
      by_cases z3 : k = 3
      · subst z3
        rw [if_pos rfl] at gW'
        injection gW' with gW'
        subst gW'
        exact ⟨q7, q4, fun z => absurd z (show ¬ (2 : Int32) = 0 by decide)⟩
      rw [if_neg z3] at gW'
      by_cases z2 : k = 2
      · subst z2
        rw [if_pos rfl] at gW'
        injection gW' with gW'
        subst gW'
        exact ⟨q7, q4, fun z => absurd z (show ¬ (3 : Int32) = 0 by decide)⟩
      rw [if_neg z2] at gW'
      cases gW'
theorem s_X_array {u : StO} {μ : StM} {n g d t : Nat} {C : wWc} {gC : Nat} {T : wWt} (hL : kL u.1 n g d) (hM : kN μ n g d t) (hW : RW C gC T d) (rl : RL u.1 C gC T d) (rm : RM μ C gC T d) (x1 : Int32) :
    ∃ (rW : Int32 × StO × Nat × Nat) (rM : Int32 × StM) (n' g' t' : Nat) (C' : wWc) (gC' : Nat) (T' : wWt), f_W_array u x1 = some rW ∧ f_M_array μ x1 = some rM ∧ (kL rW.2.1.1 n' g' d ∧ rW.2.2.1 + (T_parts (L_types u.1)).1 ≤ 1 + (T_parts (L_types rW.2.1.1)).1 ∧ rW.2.2.2 + 2 * (T_parts (L_types u.1)).1 ≤ 6 + 2 * (T_parts (L_types rW.2.1.1)).1) ∧ kN rM.2 n' g' d t' ∧ (RW C' gC' T' d ∧ RL rW.2.1.1 C' gC' T' d ∧ RM rM.2 C' gC' T' d) ∧ f_M_thrown rM.2 = rW.1 ∧ (rW.1 = 0 → rW.2.1.2 0 = rM.1.toInt64) := by
  obtain ⟨rW, gW, w1, w2, w3⟩ := s_W_array hL x1
  obtain ⟨rM, gM, t', w4⟩ := s_M_array hM x1
  obtain ⟨o, C', gC', T', q1, q2, q3⟩ := R_array hW rl rm x1
  obtain ⟨q4, q5⟩ := q3 rM gM
  suffices key : RL rW.2.1.1 C' gC' T' d ∧ f_M_thrown rM.2 = rW.1 ∧ (rW.1 = 0 → rW.2.1.2 0 = rM.1.toInt64) from
    ⟨rW, rM, n, g, t', C', gC', T', gW, gM, ⟨w1, w2, w3⟩, w4, ⟨q1, key.1, q5⟩, key.2⟩
  have gW' := gW
  unfold f_W_array at gW'
  cases eL : f_L_array u.1 x1 with
  | none => rw [eL] at gW'; cases gW'
  | some r =>
    obtain ⟨q6, q7⟩ := q2 r eL
    rw [eL] at gW'
    obtain ⟨v, τ, K, N⟩ := r
    replace q6 : v = o := q6
    subst q6
    cases v with
    | inl v =>
      obtain ⟨q8, q9⟩ := q4
      replace q9 : rM.1 = v := q9
      replace gW' : some ((0 : Int32), (τ, vp_updL u.2 0 v.toInt64), K, N) = some rW := gW'
      injection gW' with gW'
      subst gW'
      refine ⟨q7, q8, fun _ => ?_⟩
      show vp_updL u.2 0 v.toInt64 0 = rM.1.toInt64
      rw [q9]; simp [vp_updL]
    | inr k =>
      replace gW' : (if k = 1 then some ((1 : Int32), (τ, u.2), K, N) else if k = 2 then some ((2 : Int32), (τ, u.2), K, N) else none) = some rW := gW'
      by_cases z1 : k = 1
      · subst z1
        rw [if_pos rfl] at gW'
        injection gW' with gW'
        subst gW'
        exact ⟨q7, q4, fun z => absurd z (show ¬ (1 : Int32) = 0 by decide)⟩
      rw [if_neg z1] at gW'
      by_cases z2 : k = 2
      · subst z2
        rw [if_pos rfl] at gW'
        injection gW' with gW'
        subst gW'
        exact ⟨q7, q4, fun z => absurd z (show ¬ (2 : Int32) = 0 by decide)⟩
      rw [if_neg z2] at gW'
      cases gW'
theorem s_X_upper {u : StO} {μ : StM} {n g d t : Nat} {C : wWc} {gC : Nat} {T : wWt} (hL : kL u.1 n g d) (hM : kN μ n g d t) (hW : RW C gC T d) (rl : RL u.1 C gC T d) (rm : RM μ C gC T d) (x1 x2 : Int32) :
    ∃ (rW : Int32 × StO × Nat × Nat) (rM : Int32 × StM) (n' g' t' : Nat) (C' : wWc) (gC' : Nat) (T' : wWt), f_W_upper u x1 x2 = some rW ∧ f_M_upper μ x1 x2 = some rM ∧ (kL rW.2.1.1 n' g' d ∧ rW.2.2.1 + (T_parts (L_types u.1)).1 ≤ 1 + (T_parts (L_types rW.2.1.1)).1 ∧ rW.2.2.2 + 2 * (T_parts (L_types u.1)).1 ≤ 6 + 2 * (T_parts (L_types rW.2.1.1)).1) ∧ kN rM.2 n' g' d t' ∧ (RW C' gC' T' d ∧ RL rW.2.1.1 C' gC' T' d ∧ RM rM.2 C' gC' T' d) ∧ f_M_thrown rM.2 = rW.1 ∧ (rW.1 = 0 → rW.2.1.2 0 = rM.1.toInt64) := by
  obtain ⟨rW, gW, w1, w2, w3⟩ := s_W_upper hL x1 x2
  obtain ⟨rM, gM, t', w4⟩ := s_M_upper hM x1 x2
  obtain ⟨o, C', gC', T', q1, q2, q3⟩ := R_upper hW rl rm x1 x2
  obtain ⟨q4, q5⟩ := q3 rM gM
  suffices key : RL rW.2.1.1 C' gC' T' d ∧ f_M_thrown rM.2 = rW.1 ∧ (rW.1 = 0 → rW.2.1.2 0 = rM.1.toInt64) from
    ⟨rW, rM, n, g, t', C', gC', T', gW, gM, ⟨w1, w2, w3⟩, w4, ⟨q1, key.1, q5⟩, key.2⟩
  have gW' := gW
  unfold f_W_upper at gW'
  cases eL : f_L_upper u.1 x1 x2 with
  | none => rw [eL] at gW'; cases gW'
  | some r =>
    obtain ⟨q6, q7⟩ := q2 r eL
    rw [eL] at gW'
    obtain ⟨v, τ, K, N⟩ := r
    replace q6 : v = o := q6
    subst q6
    cases v with
    | inl v =>
      obtain ⟨q8, q9⟩ := q4
      replace q9 : rM.1 = v := q9
      replace gW' : some ((0 : Int32), (τ, vp_updL u.2 0 v.toInt64), K, N) = some rW := gW'
      injection gW' with gW'
      subst gW'
      refine ⟨q7, q8, fun _ => ?_⟩
      show vp_updL u.2 0 v.toInt64 0 = rM.1.toInt64
      rw [q9]; simp [vp_updL]
    | inr k =>
      replace gW' : (if k = 1 then some ((1 : Int32), (τ, u.2), K, N) else if k = 2 then some ((2 : Int32), (τ, u.2), K, N) else none) = some rW := gW'
      by_cases z1 : k = 1
      · subst z1
        rw [if_pos rfl] at gW'
        injection gW' with gW'
        subst gW'
        exact ⟨q7, q4, fun z => absurd z (show ¬ (1 : Int32) = 0 by decide)⟩
      rw [if_neg z1] at gW'
      by_cases z2 : k = 2
      · subst z2
        rw [if_pos rfl] at gW'
        injection gW' with gW'
        subst gW'
        exact ⟨q7, q4, fun z => absurd z (show ¬ (2 : Int32) = 0 by decide)⟩
      rw [if_neg z2] at gW'
      cases gW'
theorem s_X_lower {u : StO} {μ : StM} {n g d t : Nat} {C : wWc} {gC : Nat} {T : wWt} (hL : kL u.1 n g d) (hM : kN μ n g d t) (hW : RW C gC T d) (rl : RL u.1 C gC T d) (rm : RM μ C gC T d) (x1 x2 : Int32) :
    ∃ (rW : Int32 × StO × Nat × Nat) (rM : Int32 × StM) (n' g' t' : Nat) (C' : wWc) (gC' : Nat) (T' : wWt), f_W_lower u x1 x2 = some rW ∧ f_M_lower μ x1 x2 = some rM ∧ (kL rW.2.1.1 n' g' d ∧ rW.2.2.1 + (T_parts (L_types u.1)).1 ≤ 1 + (T_parts (L_types rW.2.1.1)).1 ∧ rW.2.2.2 + 2 * (T_parts (L_types u.1)).1 ≤ 6 + 2 * (T_parts (L_types rW.2.1.1)).1) ∧ kN rM.2 n' g' d t' ∧ (RW C' gC' T' d ∧ RL rW.2.1.1 C' gC' T' d ∧ RM rM.2 C' gC' T' d) ∧ f_M_thrown rM.2 = rW.1 ∧ (rW.1 = 0 → rW.2.1.2 0 = rM.1.toInt64) := by
  obtain ⟨rW, gW, w1, w2, w3⟩ := s_W_lower hL x1 x2
  obtain ⟨rM, gM, t', w4⟩ := s_M_lower hM x1 x2
  obtain ⟨o, C', gC', T', q1, q2, q3⟩ := R_lower hW rl rm x1 x2
  obtain ⟨q4, q5⟩ := q3 rM gM
  suffices key : RL rW.2.1.1 C' gC' T' d ∧ f_M_thrown rM.2 = rW.1 ∧ (rW.1 = 0 → rW.2.1.2 0 = rM.1.toInt64) from
    ⟨rW, rM, n, g, t', C', gC', T', gW, gM, ⟨w1, w2, w3⟩, w4, ⟨q1, key.1, q5⟩, key.2⟩
  have gW' := gW
  unfold f_W_lower at gW'
  cases eL : f_L_lower u.1 x1 x2 with
  | none => rw [eL] at gW'; cases gW'
  | some r =>
    obtain ⟨q6, q7⟩ := q2 r eL
    rw [eL] at gW'
    obtain ⟨v, τ, K, N⟩ := r
    replace q6 : v = o := q6
    subst q6
    cases v with
    | inl v =>
      obtain ⟨q8, q9⟩ := q4
      replace q9 : rM.1 = v := q9
      replace gW' : some ((0 : Int32), (τ, vp_updL u.2 0 v.toInt64), K, N) = some rW := gW'
      injection gW' with gW'
      subst gW'
      refine ⟨q7, q8, fun _ => ?_⟩
      show vp_updL u.2 0 v.toInt64 0 = rM.1.toInt64
      rw [q9]; simp [vp_updL]
    | inr k =>
      replace gW' : (if k = 1 then some ((1 : Int32), (τ, u.2), K, N) else if k = 2 then some ((2 : Int32), (τ, u.2), K, N) else none) = some rW := gW'
      by_cases z1 : k = 1
      · subst z1
        rw [if_pos rfl] at gW'
        injection gW' with gW'
        subst gW'
        exact ⟨q7, q4, fun z => absurd z (show ¬ (1 : Int32) = 0 by decide)⟩
      rw [if_neg z1] at gW'
      by_cases z2 : k = 2
      · subst z2
        rw [if_pos rfl] at gW'
        injection gW' with gW'
        subst gW'
        exact ⟨q7, q4, fun z => absurd z (show ¬ (2 : Int32) = 0 by decide)⟩
      rw [if_neg z2] at gW'
      cases gW'
theorem s_X_isBelow {u : StO} {μ : StM} {n g d t : Nat} {C : wWc} {gC : Nat} {T : wWt} (hL : kL u.1 n g d) (hM : kN μ n g d t) (hW : RW C gC T d) (rl : RL u.1 C gC T d) (rm : RM μ C gC T d) (x1 x2 : Int32) :
    ∃ (rW : Int32 × StO × Nat × Nat) (rM : Int32 × StM) (n' g' t' : Nat) (C' : wWc) (gC' : Nat) (T' : wWt), f_W_isBelow u x1 x2 = some rW ∧ f_M_isBelow μ x1 x2 = some rM ∧ (kL rW.2.1.1 n' g' d ∧ rW.2.2.1 + (T_parts (L_types u.1)).1 ≤ 1 + (T_parts (L_types rW.2.1.1)).1 ∧ rW.2.2.2 + 2 * (T_parts (L_types u.1)).1 ≤ 6 + 2 * (T_parts (L_types rW.2.1.1)).1) ∧ kN rM.2 n' g' d t' ∧ (RW C' gC' T' d ∧ RL rW.2.1.1 C' gC' T' d ∧ RM rM.2 C' gC' T' d) ∧ f_M_thrown rM.2 = rW.1 ∧ (rW.1 = 0 → rW.2.1.2 0 = (if rM.1 = 0 then 0 else 1)) := by
  obtain ⟨rW, gW, w1, w2, w3⟩ := s_W_isBelow hL x1 x2
  obtain ⟨rM, gM, t', w4⟩ := s_M_isBelow hM x1 x2
  obtain ⟨o, C', gC', T', q1, q2, q3⟩ := R_isBelow hW rl rm x1 x2
  obtain ⟨q4, q5⟩ := q3 rM gM
  suffices key : RL rW.2.1.1 C' gC' T' d ∧ f_M_thrown rM.2 = rW.1 ∧ (rW.1 = 0 → rW.2.1.2 0 = (if rM.1 = 0 then 0 else 1)) from
    ⟨rW, rM, n, g, t', C', gC', T', gW, gM, ⟨w1, w2, w3⟩, w4, ⟨q1, key.1, q5⟩, key.2⟩
  have gW' := gW
  unfold f_W_isBelow at gW'
  cases eL : f_L_isBelow u.1 x1 x2 with
  | none => rw [eL] at gW'; cases gW'
  | some r =>
    obtain ⟨q6, q7⟩ := q2 r eL
    rw [eL] at gW'
    obtain ⟨v, τ, K, N⟩ := r
    replace q6 : v = o := q6
    subst q6
    cases v with
    | inl v =>
      obtain ⟨q8, q9⟩ := q4
      replace q9 : rM.1 = v := q9
      replace gW' : some ((0 : Int32), (τ, vp_updL u.2 0 (if v = 0 then 0 else 1)), K, N) = some rW := gW'
      injection gW' with gW'
      subst gW'
      refine ⟨q7, q8, fun _ => ?_⟩
      show vp_updL u.2 0 (if v = 0 then 0 else 1) 0 = (if rM.1 = 0 then 0 else 1)
      rw [q9]; simp [vp_updL]
    | inr k =>
      replace gW' : (if k = 1 then some ((1 : Int32), (τ, u.2), K, N) else none) = some rW := gW'
      by_cases z1 : k = 1
      · subst z1
        rw [if_pos rfl] at gW'
        injection gW' with gW'
        subst gW'
        exact ⟨q7, q4, fun z => absurd z (show ¬ (1 : Int32) = 0 by decide)⟩
      rw [if_neg z1] at gW'
      cases gW'
theorem s_X_look {u : StO} {μ : StM} {n g d t : Nat} {C : wWc} {gC : Nat} {T : wWt} (hL : kL u.1 n g d) (hM : kN μ n g d t) (hW : RW C gC T d) (rl : RL u.1 C gC T d) (rm : RM μ C gC T d) (x1 x2 : Int32) :
    ∃ (rW : Int32 × StO × Nat × Nat) (rM : Int32 × StM) (n' g' t' : Nat) (C' : wWc) (gC' : Nat) (T' : wWt), f_W_look u x1 x2 = some rW ∧ f_M_look μ x1 x2 = some rM ∧ (kL rW.2.1.1 n' g' d ∧ rW.2.2.1 + (T_parts (L_types u.1)).1 ≤ 1 + (T_parts (L_types rW.2.1.1)).1 ∧ rW.2.2.2 + 2 * (T_parts (L_types u.1)).1 ≤ 6 + 2 * (T_parts (L_types rW.2.1.1)).1) ∧ kN rM.2 n' g' d t' ∧ (RW C' gC' T' d ∧ RL rW.2.1.1 C' gC' T' d ∧ RM rM.2 C' gC' T' d) ∧ f_M_thrown rM.2 = rW.1 ∧ (rW.1 = 0 → rW.2.1.2 0 = rM.1.toInt64) := by
  obtain ⟨rW, gW, w1, w2, w3⟩ := s_W_look hL x1 x2
  obtain ⟨rM, gM, t', w4⟩ := s_M_look hM x1 x2
  obtain ⟨o, C', gC', T', q1, q2, q3⟩ := R_look hW rl rm x1 x2
  obtain ⟨q4, q5⟩ := q3 rM gM
  suffices key : RL rW.2.1.1 C' gC' T' d ∧ f_M_thrown rM.2 = rW.1 ∧ (rW.1 = 0 → rW.2.1.2 0 = rM.1.toInt64) from
    ⟨rW, rM, n, g, t', C', gC', T', gW, gM, ⟨w1, w2, w3⟩, w4, ⟨q1, key.1, q5⟩, key.2⟩
  have gW' := gW
  unfold f_W_look at gW'
  cases eL : f_L_look u.1 x1 x2 with
  | none => rw [eL] at gW'; cases gW'
  | some r =>
    obtain ⟨q6, q7⟩ := q2 r eL
    rw [eL] at gW'
    obtain ⟨v, τ, K, N⟩ := r
    replace q6 : v = o := q6
    subst q6
    cases v with
    | inl v =>
      obtain ⟨q8, q9⟩ := q4
      replace q9 : rM.1 = v := q9
      replace gW' : some ((0 : Int32), (τ, vp_updL u.2 0 v.toInt64), K, N) = some rW := gW'
      injection gW' with gW'
      subst gW'
      refine ⟨q7, q8, fun _ => ?_⟩
      show vp_updL u.2 0 v.toInt64 0 = rM.1.toInt64
      rw [q9]; simp [vp_updL]
    | inr k =>
      replace gW' : (if k = 1 then some ((1 : Int32), (τ, u.2), K, N) else if k = 2 then some ((2 : Int32), (τ, u.2), K, N) else none) = some rW := gW'
      by_cases z1 : k = 1
      · subst z1
        rw [if_pos rfl] at gW'
        injection gW' with gW'
        subst gW'
        exact ⟨q7, q4, fun z => absurd z (show ¬ (1 : Int32) = 0 by decide)⟩
      rw [if_neg z1] at gW'
      by_cases z2 : k = 2
      · subst z2
        rw [if_pos rfl] at gW'
        injection gW' with gW'
        subst gW'
        exact ⟨q7, q4, fun z => absurd z (show ¬ (2 : Int32) = 0 by decide)⟩
      rw [if_neg z2] at gW'
      cases gW'
theorem s_X_box {u : StO} {μ : StM} {n g d t : Nat} {C : wWc} {gC : Nat} {T : wWt} (hL : kL u.1 n g d) (hM : kN μ n g d t) (hW : RW C gC T d) (rl : RL u.1 C gC T d) (rm : RM μ C gC T d) (x1 : Int32) :
    ∃ (rW : Int32 × StO × Nat × Nat) (rM : Int32 × StM) (n' g' t' : Nat) (C' : wWc) (gC' : Nat) (T' : wWt), f_W_box u x1 = some rW ∧ f_M_box μ x1 = some rM ∧ (kL rW.2.1.1 n' g' d ∧ rW.2.2.1 + (T_parts (L_types u.1)).1 ≤ 1 + (T_parts (L_types rW.2.1.1)).1 ∧ rW.2.2.2 + 2 * (T_parts (L_types u.1)).1 ≤ 6 + 2 * (T_parts (L_types rW.2.1.1)).1) ∧ kN rM.2 n' g' d t' ∧ (RW C' gC' T' d ∧ RL rW.2.1.1 C' gC' T' d ∧ RM rM.2 C' gC' T' d) ∧ f_M_thrown rM.2 = rW.1 ∧ (rW.1 = 0 → rW.2.1.2 0 = rM.1.toInt64) := by
  obtain ⟨rW, gW, w1, w2, w3⟩ := s_W_box hL x1
  obtain ⟨rM, gM, t', w4⟩ := s_M_box hM x1
  obtain ⟨o, C', gC', T', q1, q2, q3⟩ := R_box hW rl rm x1
  obtain ⟨q4, q5⟩ := q3 rM gM
  suffices key : RL rW.2.1.1 C' gC' T' d ∧ f_M_thrown rM.2 = rW.1 ∧ (rW.1 = 0 → rW.2.1.2 0 = rM.1.toInt64) from
    ⟨rW, rM, n, g, t', C', gC', T', gW, gM, ⟨w1, w2, w3⟩, w4, ⟨q1, key.1, q5⟩, key.2⟩
  have gW' := gW
  unfold f_W_box at gW'
  cases eL : f_L_box u.1 x1 with
  | none => rw [eL] at gW'; cases gW'
  | some r =>
    obtain ⟨q6, q7⟩ := q2 r eL
    rw [eL] at gW'
    obtain ⟨v, τ, K, N⟩ := r
    replace q6 : v = o := q6
    subst q6
    cases v with
    | inl v =>
      obtain ⟨q8, q9⟩ := q4
      replace q9 : rM.1 = v := q9
      replace gW' : some ((0 : Int32), (τ, vp_updL u.2 0 v.toInt64), K, N) = some rW := gW'
      injection gW' with gW'
      subst gW'
      refine ⟨q7, q8, fun _ => ?_⟩
      show vp_updL u.2 0 v.toInt64 0 = rM.1.toInt64
      rw [q9]; simp [vp_updL]
    | inr k =>
      replace gW' : (if k = 1 then some ((1 : Int32), (τ, u.2), K, N) else if k = 2 then some ((2 : Int32), (τ, u.2), K, N) else none) = some rW := gW'
      by_cases z1 : k = 1
      · subst z1
        rw [if_pos rfl] at gW'
        injection gW' with gW'
        subst gW'
        exact ⟨q7, q4, fun z => absurd z (show ¬ (1 : Int32) = 0 by decide)⟩
      rw [if_neg z1] at gW'
      by_cases z2 : k = 2
      · subst z2
        rw [if_pos rfl] at gW'
        injection gW' with gW'
        subst gW'
        exact ⟨q7, q4, fun z => absurd z (show ¬ (2 : Int32) = 0 by decide)⟩
      rw [if_neg z2] at gW'
      cases gW'
theorem s_X_type {u : StO} {μ : StM} {n g d t : Nat} {C : wWc} {gC : Nat} {T : wWt} (hL : kL u.1 n g d) (hM : kN μ n g d t) (hW : RW C gC T d) (rl : RL u.1 C gC T d) (rm : RM μ C gC T d) (x1 x2 : Int32) :
    ∃ (rW : Int32 × StO × Nat × Nat) (rM : Int32 × StM) (n' g' t' : Nat) (C' : wWc) (gC' : Nat) (T' : wWt), f_W_type u x1 x2 = some rW ∧ f_M_type μ x1 x2 = some rM ∧ (kL rW.2.1.1 n' g' d ∧ rW.2.2.1 + (T_parts (L_types u.1)).1 ≤ 1 + (T_parts (L_types rW.2.1.1)).1 ∧ rW.2.2.2 + 2 * (T_parts (L_types u.1)).1 ≤ 6 + 2 * (T_parts (L_types rW.2.1.1)).1) ∧ kN rM.2 n' g' d t' ∧ (RW C' gC' T' d ∧ RL rW.2.1.1 C' gC' T' d ∧ RM rM.2 C' gC' T' d) := by
  obtain ⟨rW, gW, w1, w2, w3⟩ := s_W_type hL x1 x2
  obtain ⟨rM, gM, t', w4⟩ := s_M_type hM x1 x2
  obtain ⟨C', gC', T', q1, q2, q3⟩ := RK_same hW rl (K_type x1 x2) (K_Mtype rm x1 x2)
  have q5 := q3 rM gM
  refine ⟨rW, rM, n, g, t', C', gC', T', gW, gM, ⟨w1, w2, w3⟩, w4, q1, ?_, q5⟩
  have gW' := gW
  unfold f_W_type at gW'
  cases eL : f_L_type u.1 x1 x2 with
  | none => rw [eL] at gW'; cases gW'
  | some r =>
    have q7 := q2 r eL
    rw [eL] at gW'
    obtain ⟨v, τ, K, N⟩ := r
    cases v with
    | inl v =>
      replace gW' : some ((0 : Int32), (τ, vp_updL u.2 0 v.toInt64), K, N) = some rW := gW'
      injection gW' with gW'
      subst gW'
      exact q7
    | inr k =>
      replace gW' : (if k = 1 then some ((1 : Int32), (τ, u.2), K, N) else if k = 3 then some ((2 : Int32), (τ, u.2), K, N) else none) = some rW := gW'
      by_cases z1 : k = 1
      · rw [if_pos z1] at gW'
        injection gW' with gW'
        subst gW'
        exact q7
      rw [if_neg z1] at gW'
      by_cases z3 : k = 3
      · rw [if_pos z3] at gW'
        injection gW' with gW'
        subst gW'
        exact q7
      rw [if_neg z3] at gW'
      cases gW'
theorem s_X_part {u : StO} {μ : StM} {n g d t : Nat} {C : wWc} {gC : Nat} {T : wWt} (hL : kL u.1 n g d) (hM : kN μ n g d t) (hW : RW C gC T d) (rl : RL u.1 C gC T d) (rm : RM μ C gC T d) (x1 x2 : Int32) :
    ∃ (rW : Int32 × StO × Nat × Nat) (rM : Int32 × StM) (n' g' t' : Nat) (C' : wWc) (gC' : Nat) (T' : wWt), f_W_part u x1 x2 = some rW ∧ f_M_part μ x1 x2 = some rM ∧ (kL rW.2.1.1 n' g' d ∧ rW.2.2.1 + (T_parts (L_types u.1)).1 ≤ 1 + (T_parts (L_types rW.2.1.1)).1 ∧ rW.2.2.2 + 2 * (T_parts (L_types u.1)).1 ≤ 6 + 2 * (T_parts (L_types rW.2.1.1)).1) ∧ kN rM.2 n' g' d t' ∧ (RW C' gC' T' d ∧ RL rW.2.1.1 C' gC' T' d ∧ RM rM.2 C' gC' T' d) ∧ f_M_thrown rM.2 = rW.1 ∧ (rW.1 = 0 → rW.2.1.2 0 = rM.1.toInt64) := by
  obtain ⟨rW, gW, w1, w2, w3⟩ := s_W_part hL x1 x2
  obtain ⟨rM, gM, t', w4⟩ := s_M_part hM x1 x2
  obtain ⟨o, C', gC', T', q1, q2, q3⟩ := R_part hW rl rm x1 x2
  obtain ⟨q4, q5⟩ := q3 rM gM
  suffices key : RL rW.2.1.1 C' gC' T' d ∧ f_M_thrown rM.2 = rW.1 ∧ (rW.1 = 0 → rW.2.1.2 0 = rM.1.toInt64) from
    ⟨rW, rM, n, g, t', C', gC', T', gW, gM, ⟨w1, w2, w3⟩, w4, ⟨q1, key.1, q5⟩, key.2⟩
  have gW' := gW
  unfold f_W_part at gW'
  cases eL : f_L_part u.1 x1 x2 with
  | none => rw [eL] at gW'; cases gW'
  | some r =>
    obtain ⟨q6, q7⟩ := q2 r eL
    rw [eL] at gW'
    obtain ⟨v, τ, K, N⟩ := r
    replace q6 : v = o := q6
    subst q6
    cases v with
    | inl v =>
      obtain ⟨q8, q9⟩ := q4
      replace q9 : rM.1 = v := q9
      replace gW' : some ((0 : Int32), (τ, vp_updL u.2 0 v.toInt64), K, N) = some rW := gW'
      injection gW' with gW'
      subst gW'
      refine ⟨q7, q8, fun _ => ?_⟩
      show vp_updL u.2 0 v.toInt64 0 = rM.1.toInt64
      rw [q9]; simp [vp_updL]
    | inr k =>
      replace gW' : (if k = 1 then some ((1 : Int32), (τ, u.2), K, N) else none) = some rW := gW'
      by_cases z1 : k = 1
      · subst z1
        rw [if_pos rfl] at gW'
        injection gW' with gW'
        subst gW'
        exact ⟨q7, q4, fun z => absurd z (show ¬ (1 : Int32) = 0 by decide)⟩
      rw [if_neg z1] at gW'
      cases gW'
theorem s_X_common {u : StO} {μ : StM} {n g d t : Nat} {C : wWc} {gC : Nat} {T : wWt} (hL : kL u.1 n g d) (hM : kN μ n g d t) (hW : RW C gC T d) (rl : RL u.1 C gC T d) (rm : RM μ C gC T d) (x1 x2 x3 : Int32) :
    ∃ (rW : Int32 × StO × Nat × Nat) (rM : Int32 × StM) (n' g' t' : Nat) (C' : wWc) (gC' : Nat) (T' : wWt), f_W_common u x1 x2 x3 = some rW ∧ f_M_common μ x1 x2 x3 = some rM ∧ (kL rW.2.1.1 n' g' d ∧ rW.2.2.1 + (T_parts (L_types u.1)).1 ≤ 1 + (T_parts (L_types rW.2.1.1)).1 ∧ rW.2.2.2 + 2 * (T_parts (L_types u.1)).1 ≤ 6 + 2 * (T_parts (L_types rW.2.1.1)).1) ∧ kN rM.2 n' g' d t' ∧ (RW C' gC' T' d ∧ RL rW.2.1.1 C' gC' T' d ∧ RM rM.2 C' gC' T' d) := by
  obtain ⟨rW, gW, w1, w2, w3⟩ := s_W_common hL x1 x2 x3
  obtain ⟨rM, gM, t', w4⟩ := s_M_common hM x1 x2 x3
  obtain ⟨C', gC', T', q1, q2, q3⟩ := RK_same hW rl (K_common x1 x2 x3) (K_Mcommon hW rm x1 x2 x3)
  have q5 := q3 rM gM
  refine ⟨rW, rM, n, g, t', C', gC', T', gW, gM, ⟨w1, w2, w3⟩, w4, q1, ?_, q5⟩
  have gW' := gW
  unfold f_W_common at gW'
  cases eL : f_L_common u.1 x1 x2 x3 with
  | none => rw [eL] at gW'; cases gW'
  | some r =>
    have q7 := q2 r eL
    rw [eL] at gW'
    obtain ⟨v, τ, K, N⟩ := r
    cases v with
    | inl v =>
      replace gW' : some ((0 : Int32), (τ, vp_updL u.2 0 v.toInt64), K, N) = some rW := gW'
      injection gW' with gW'
      subst gW'
      exact q7
    | inr k =>
      replace gW' : (if k = 1 then some ((1 : Int32), (τ, u.2), K, N) else if k = 3 then some ((2 : Int32), (τ, u.2), K, N) else none) = some rW := gW'
      by_cases z1 : k = 1
      · rw [if_pos z1] at gW'
        injection gW' with gW'
        subst gW'
        exact q7
      rw [if_neg z1] at gW'
      by_cases z3 : k = 3
      · rw [if_pos z3] at gW'
        injection gW' with gW'
        subst gW'
        exact q7
      rw [if_neg z3] at gW'
      cases gW'
theorem s_X_isUnder {u : StO} {μ : StM} {n g d t : Nat} {C : wWc} {gC : Nat} {T : wWt} (hL : kL u.1 n g d) (hM : kN μ n g d t) (hW : RW C gC T d) (rl : RL u.1 C gC T d) (rm : RM μ C gC T d) (x1 x2 : Int32) :
    ∃ (rW : Int32 × StO × Nat × Nat) (rM : Int32 × StM) (n' g' t' : Nat) (C' : wWc) (gC' : Nat) (T' : wWt), f_W_isUnder u x1 x2 = some rW ∧ f_M_isUnder μ x1 x2 = some rM ∧ (kL rW.2.1.1 n' g' d ∧ rW.2.2.1 + (T_parts (L_types u.1)).1 ≤ 1 + (T_parts (L_types rW.2.1.1)).1 ∧ rW.2.2.2 + 2 * (T_parts (L_types u.1)).1 ≤ 6 + 2 * (T_parts (L_types rW.2.1.1)).1) ∧ kN rM.2 n' g' d t' ∧ (RW C' gC' T' d ∧ RL rW.2.1.1 C' gC' T' d ∧ RM rM.2 C' gC' T' d) ∧ f_M_thrown rM.2 = rW.1 ∧ (rW.1 = 0 → rW.2.1.2 0 = (if rM.1 = 0 then 0 else 1)) := by
  obtain ⟨rW, gW, w1, w2, w3⟩ := s_W_isUnder hL x1 x2
  obtain ⟨rM, gM, t', w4⟩ := s_M_isUnder hM x1 x2
  obtain ⟨o, C', gC', T', q1, q2, q3⟩ := R_isUnder hW rl rm x1 x2
  obtain ⟨q4, q5⟩ := q3 rM gM
  suffices key : RL rW.2.1.1 C' gC' T' d ∧ f_M_thrown rM.2 = rW.1 ∧ (rW.1 = 0 → rW.2.1.2 0 = (if rM.1 = 0 then 0 else 1)) from
    ⟨rW, rM, n, g, t', C', gC', T', gW, gM, ⟨w1, w2, w3⟩, w4, ⟨q1, key.1, q5⟩, key.2⟩
  have gW' := gW
  unfold f_W_isUnder at gW'
  cases eL : f_L_isUnder u.1 x1 x2 with
  | none => rw [eL] at gW'; cases gW'
  | some r =>
    obtain ⟨q6, q7⟩ := q2 r eL
    rw [eL] at gW'
    obtain ⟨v, τ, K, N⟩ := r
    replace q6 : v = o := q6
    subst q6
    cases v with
    | inl v =>
      obtain ⟨q8, q9⟩ := q4
      replace q9 : rM.1 = v := q9
      replace gW' : some ((0 : Int32), (τ, vp_updL u.2 0 (if v = 0 then 0 else 1)), K, N) = some rW := gW'
      injection gW' with gW'
      subst gW'
      refine ⟨q7, q8, fun _ => ?_⟩
      show vp_updL u.2 0 (if v = 0 then 0 else 1) 0 = (if rM.1 = 0 then 0 else 1)
      rw [q9]; simp [vp_updL]
    | inr k =>
      replace gW' : (if k = 1 then some ((1 : Int32), (τ, u.2), K, N) else none) = some rW := gW'
      by_cases z1 : k = 1
      · subst z1
        rw [if_pos rfl] at gW'
        injection gW' with gW'
        subst gW'
        exact ⟨q7, q4, fun z => absurd z (show ¬ (1 : Int32) = 0 by decide)⟩
      rw [if_neg z1] at gW'
      cases gW'
theorem s_X_classed {u : StO} {μ : StM} {n g d t : Nat} {C : wWc} {gC : Nat} {T : wWt} (hL : kL u.1 n g d) (hM : kN μ n g d t) (hW : RW C gC T d) (rl : RL u.1 C gC T d) (rm : RM μ C gC T d) (x1 x2 : Int32) :
    ∃ (rW : Int32 × StO × Nat × Nat) (rM : Int32 × StM) (n' g' t' : Nat) (C' : wWc) (gC' : Nat) (T' : wWt), f_W_classed u x1 x2 = some rW ∧ f_M_classed μ x1 x2 = some rM ∧ (kL rW.2.1.1 n' g' d ∧ rW.2.2.1 + (T_parts (L_types u.1)).1 ≤ 1 + (T_parts (L_types rW.2.1.1)).1 ∧ rW.2.2.2 + 2 * (T_parts (L_types u.1)).1 ≤ 6 + 2 * (T_parts (L_types rW.2.1.1)).1) ∧ kN rM.2 n' g' d t' ∧ (RW C' gC' T' d ∧ RL rW.2.1.1 C' gC' T' d ∧ RM rM.2 C' gC' T' d) := by
  obtain ⟨rW, gW, w1, w2, w3⟩ := s_W_classed hL x1 x2
  obtain ⟨rM, gM, t', w4⟩ := s_M_classed hM x1 x2
  obtain ⟨C', gC', T', q1, q2, q3⟩ := RK_same hW rl (K_classed x1 x2) (K_Mclassed rm x1 x2)
  have q5 := q3 rM gM
  refine ⟨rW, rM, n, g, t', C', gC', T', gW, gM, ⟨w1, w2, w3⟩, w4, q1, ?_, q5⟩
  have gW' := gW
  unfold f_W_classed at gW'
  cases eL : f_L_classed u.1 x1 x2 with
  | none => rw [eL] at gW'; cases gW'
  | some r =>
    have q7 := q2 r eL
    rw [eL] at gW'
    obtain ⟨v, τ, K, N⟩ := r
    cases v with
    | inl v =>
      replace gW' : some ((0 : Int32), (τ, vp_updL u.2 0 v.toInt64), K, N) = some rW := gW'
      injection gW' with gW'
      subst gW'
      exact q7
    | inr k =>
      replace gW' : (if k = 1 then some ((1 : Int32), (τ, u.2), K, N) else if k = 3 then some ((2 : Int32), (τ, u.2), K, N) else none) = some rW := gW'
      by_cases z1 : k = 1
      · rw [if_pos z1] at gW'
        injection gW' with gW'
        subst gW'
        exact q7
      rw [if_neg z1] at gW'
      by_cases z3 : k = 3
      · rw [if_pos z3] at gW'
        injection gW' with gW'
        subst gW'
        exact q7
      rw [if_neg z3] at gW'
      cases gW'
theorem s_X_direct {u : StO} {μ : StM} {n g d t : Nat} {C : wWc} {gC : Nat} {T : wWt} (hL : kL u.1 n g d) (hM : kN μ n g d t) (hW : RW C gC T d) (rl : RL u.1 C gC T d) (rm : RM μ C gC T d) (x1 x2 x3 : Int32) :
    ∃ (rW : Int32 × StO × Nat × Nat) (rM : Int32 × StM) (n' g' t' : Nat) (C' : wWc) (gC' : Nat) (T' : wWt), f_W_direct u x1 x2 x3 = some rW ∧ f_M_direct μ x1 x2 x3 = some rM ∧ (kL rW.2.1.1 n' g' d ∧ rW.2.2.1 + (T_parts (L_types u.1)).1 ≤ 1 + (T_parts (L_types rW.2.1.1)).1 ∧ rW.2.2.2 + 2 * (T_parts (L_types u.1)).1 ≤ 6 + 2 * (T_parts (L_types rW.2.1.1)).1) ∧ kN rM.2 n' g' d t' ∧ (RW C' gC' T' d ∧ RL rW.2.1.1 C' gC' T' d ∧ RM rM.2 C' gC' T' d) ∧ f_M_thrown rM.2 = rW.1 ∧ (rW.1 = 0 → rW.2.1.2 0 = rM.1.toInt64) := by
  obtain ⟨rW, gW, w1, w2, w3⟩ := s_W_direct hL x1 x2 x3
  obtain ⟨rM, gM, t', w4⟩ := s_M_direct hM x1 x2 x3
  obtain ⟨o, C', gC', T', q1, q2, q3⟩ := R_direct hW rl rm x1 x2 x3
  obtain ⟨q4, q5⟩ := q3 rM gM
  suffices key : RL rW.2.1.1 C' gC' T' d ∧ f_M_thrown rM.2 = rW.1 ∧ (rW.1 = 0 → rW.2.1.2 0 = rM.1.toInt64) from
    ⟨rW, rM, n, g, t', C', gC', T', gW, gM, ⟨w1, w2, w3⟩, w4, ⟨q1, key.1, q5⟩, key.2⟩
  have gW' := gW
  unfold f_W_direct at gW'
  cases eL : f_L_direct u.1 x1 x2 x3 with
  | none => rw [eL] at gW'; cases gW'
  | some r =>
    obtain ⟨q6, q7⟩ := q2 r eL
    rw [eL] at gW'
    obtain ⟨v, τ, K, N⟩ := r
    replace q6 : v = o := q6
    subst q6
    cases v with
    | inl v =>
      obtain ⟨q8, q9⟩ := q4
      replace q9 : rM.1 = v := q9
      replace gW' : some ((0 : Int32), (τ, vp_updL u.2 0 v.toInt64), K, N) = some rW := gW'
      injection gW' with gW'
      subst gW'
      refine ⟨q7, q8, fun _ => ?_⟩
      show vp_updL u.2 0 v.toInt64 0 = rM.1.toInt64
      rw [q9]; simp [vp_updL]
    | inr k =>
      replace gW' : (if k = 1 then some ((1 : Int32), (τ, u.2), K, N) else if k = 3 then some ((2 : Int32), (τ, u.2), K, N) else none) = some rW := gW'
      by_cases z1 : k = 1
      · subst z1
        rw [if_pos rfl] at gW'
        injection gW' with gW'
        subst gW'
        exact ⟨q7, q4, fun z => absurd z (show ¬ (1 : Int32) = 0 by decide)⟩
      rw [if_neg z1] at gW'
      by_cases z3 : k = 3
      · subst z3
        rw [if_pos rfl] at gW'
        injection gW' with gW'
        subst gW'
        exact ⟨q7, q4, fun z => absurd z (show ¬ (2 : Int32) = 0 by decide)⟩
      rw [if_neg z3] at gW'
      cases gW'
theorem s_X_told {u : StO} {μ : StM} {n g d t : Nat} {C : wWc} {gC : Nat} {T : wWt} (hL : kL u.1 n g d) (hM : kN μ n g d t) (hW : RW C gC T d) (rl : RL u.1 C gC T d) (rm : RM μ C gC T d) (x1 : Int32) :
    ∃ (rW : Int32 × StO × Nat × Nat) (rM : Int32 × StM) (n' g' t' : Nat) (C' : wWc) (gC' : Nat) (T' : wWt), f_W_told u x1 = some rW ∧ f_M_told μ x1 = some rM ∧ (kL rW.2.1.1 n' g' d ∧ rW.2.2.1 + (T_parts (L_types u.1)).1 ≤ 1 + (T_parts (L_types rW.2.1.1)).1 ∧ rW.2.2.2 + 2 * (T_parts (L_types u.1)).1 ≤ 6 + 2 * (T_parts (L_types rW.2.1.1)).1) ∧ kN rM.2 n' g' d t' ∧ (RW C' gC' T' d ∧ RL rW.2.1.1 C' gC' T' d ∧ RM rM.2 C' gC' T' d) ∧ f_M_thrown rM.2 = rW.1 ∧ (rW.1 = 0 → rW.2.1.2 0 = rM.1.toInt64) := by
  obtain ⟨rW, gW, w1, w2, w3⟩ := s_W_told hL x1
  obtain ⟨rM, gM, t', w4⟩ := s_M_told hM x1
  obtain ⟨o, C', gC', T', q1, q2, q3⟩ := R_told hW rl rm x1
  obtain ⟨q4, q5⟩ := q3 rM gM
  suffices key : RL rW.2.1.1 C' gC' T' d ∧ f_M_thrown rM.2 = rW.1 ∧ (rW.1 = 0 → rW.2.1.2 0 = rM.1.toInt64) from
    ⟨rW, rM, n, g, t', C', gC', T', gW, gM, ⟨w1, w2, w3⟩, w4, ⟨q1, key.1, q5⟩, key.2⟩
  have gW' := gW
  unfold f_W_told at gW'
  cases eL : f_L_told u.1 x1 with
  | none => rw [eL] at gW'; cases gW'
  | some r =>
    obtain ⟨q6, q7⟩ := q2 r eL
    rw [eL] at gW'
    obtain ⟨v, τ, K, N⟩ := r
    replace q6 : v = o := q6
    subst q6
    cases v with
    | inl v =>
      obtain ⟨q8, q9⟩ := q4
      replace q9 : rM.1 = v := q9
      replace gW' : some ((0 : Int32), (τ, vp_updL u.2 0 v.toInt64), K, N) = some rW := gW'
      injection gW' with gW'
      subst gW'
      refine ⟨q7, q8, fun _ => ?_⟩
      show vp_updL u.2 0 v.toInt64 0 = rM.1.toInt64
      rw [q9]; simp [vp_updL]
    | inr k =>
      replace gW' : (if k = 3 then some ((1 : Int32), (τ, u.2), K, N) else none) = some rW := gW'
      by_cases z3 : k = 3
      · subst z3
        rw [if_pos rfl] at gW'
        injection gW' with gW'
        subst gW'
        exact ⟨q7, q4, fun z => absurd z (show ¬ (1 : Int32) = 0 by decide)⟩
      rw [if_neg z3] at gW'
      cases gW'
