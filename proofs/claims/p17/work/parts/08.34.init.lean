/-! The first states. -/
abbrev C0 : StC := ((fun _ => 0), (fun _ => 0), (fun _ => 0), (fun _ => 0), (fun _ => 0), (fun _ => 0), 0, 0)
abbrev T0 : StT := ((fun _ => 0), (fun _ => 0), (fun _ => 0), (fun _ => 0), (fun _ => 0), (fun _ => 0), (fun _ => 0), (64, (fun _ => 0)), 0, 0, 0, 0)
theorem i_C108 : ∀ (f i : Nat) (σ : StC), i ≤ 8 → 8 < f + i → kC σ (5 + i) 1 → k_ok (f_C_init_108 f σ (nI i)) (fun r => kC r.2 13 1) := by
  intro f
  induction f with
  | zero => intro i σ h1 h2; omega
  | succ f ih =>
    intro i σ h1 h2 h3
    rw [f_C_init_108]
    unfold f_C_init_108_s
    refine k_if (fun q => ?_) (fun q => ?_)
    · have q2 : nI 8 ≤ nI i := q
      rw [nI_leI (by decide) (by omega)] at q2
      have e : i = 8 := by omega
      subst e
      exact k_some h3
    · have q2 : ¬ nI 8 ≤ nI i := q
      rw [nI_leI (by decide) (by omega)] at q2
      refine k_bind (s_C_add h3 (by omega) 0 0) ?_
      rintro ⟨v, τ⟩ ⟨_, hτ⟩
      have hτ' : kC τ (5 + (i + 1)) 1 := by
        have : kC τ (5 + i + 1) (if (0 : Int32) = 0 then 1 else 1 + 1) := hτ
        rw [if_pos rfl] at this
        exact this
      have k137 : ∀ ρ : StC, kC ρ (5 + (i + 1)) 1 → k_ok (f_C_init_137 (f_C_init_108 f) ρ (nI i)) (fun r => kC r.2 13 1) := by
        intro ρ hρ
        unfold f_C_init_137
        refine k_bind (s_C_put hρ _ _) ?_
        intro r8 h8
        refine k_bind (s_C_put h8 _ _) ?_
        intro r9 h9
        rw [nI_1]
        exact ih (i + 1) r9.2 (by omega) (by omega) h9
      refine k_if (fun _ => k137 τ hτ') (fun _ => k_if (fun _ => k137 τ hτ') (fun _ => ?_))
      refine k_bind (s_C_put hτ' _ _) ?_
      intro r10 h10
      exact k137 r10.2 h10
theorem i0_C : k_ok (f_C_init_54 C0) (fun r => kC r.2 13 1) := by
  unfold f_C_init_54
  have h0 : kC (C_set_countGeneric (C_set_count C0 0) 0) 0 0 := ⟨rfl, by omega, fun c _ => ⟨0, by omega, rfl⟩, rfl, by omega⟩
  refine k_bind (s_C_add h0 (by omega) 0 0) ?_
  rintro ⟨v1, σ1⟩ ⟨_, h1⟩
  replace h1 : kC σ1 1 0 := h1
  refine k_bind (s_C_add h1 (by omega) 1 0) ?_
  rintro ⟨v2, σ2⟩ ⟨_, h2⟩
  replace h2 : kC σ2 2 0 := h2
  refine k_bind (s_C_add h2 (by omega) 1 0) ?_
  rintro ⟨v3, σ3⟩ ⟨_, h3⟩
  replace h3 : kC σ3 3 0 := h3
  refine k_bind (s_C_add h3 (by omega) 1 1) ?_
  rintro ⟨v4, σ4⟩ ⟨_, h4⟩
  replace h4 : kC σ4 4 1 := h4
  refine k_bind (s_C_add h4 (by omega) 0 0) ?_
  rintro ⟨v5, σ5⟩ ⟨_, h5⟩
  replace h5 : kC σ5 5 1 := h5
  refine k_bind (s_C_put h5 _ _) ?_
  rintro ⟨v6, σ6⟩ h6
  exact i_C108 1000 0 σ6 (by omega) (by omega) h6
theorem i_T118 : ∀ (f i : Nat) (σ : StT), i ≤ 8 → 8 < f + i → (∃ t, kT σ t) → T_parts σ = T_parts T0 → k_ok (f_T_init_118 f σ (nI i)) (fun r => (∃ t, kT r.2 t) ∧ (T_parts r.2).1 = 64) := by
  intro f
  induction f with
  | zero => intro i σ h1 h2; omega
  | succ f ih =>
    intro i σ h1 h2 h3 h4
    obtain ⟨t, ht⟩ := h3
    rw [f_T_init_118]
    unfold f_T_init_118_s
    refine k_if (fun q => ?_) (fun q => ?_)
    · refine k_bind (s_T_settle ht) ?_
      rintro r1 ⟨h5, h6⟩
      exact k_some ⟨h5, by rw [h6, h4]⟩
    · have q2 : ¬ nI 8 ≤ nI i := q
      rw [nI_leI (by decide) (by omega)] at q2
      refine k_bind (s_T_makeNamed ht _ _) ?_
      rintro r2 ⟨h5, h6⟩
      rw [nI_1]
      exact ih (i + 1) r2.2 (by omega) (by omega) h5 (h6.trans h4)
theorem i_T97 : ∀ (f i : Nat) (σ : StT), i ≤ 8 → 8 < f + i → (∃ t, kT σ t) → T_parts σ = T_parts T0 → k_ok (f_T_init_97 f σ (nI i)) (fun r => (∃ t, kT r.2 t) ∧ (T_parts r.2).1 = 64) := by
  intro f
  induction f with
  | zero => intro i σ h1 h2; omega
  | succ f ih =>
    intro i σ h1 h2 h3 h4
    obtain ⟨t, ht⟩ := h3
    rw [f_T_init_97]
    unfold f_T_init_97_s
    refine k_if (fun q => ?_) (fun q => ?_)
    · exact i_T118 1000 0 σ (by omega) (by omega) ⟨t, ht⟩ h4
    · have q2 : ¬ nI 8 ≤ nI i := q
      rw [nI_leI (by decide) (by omega)] at q2
      refine k_bind (s_T_add ht _ _) ?_
      rintro ⟨v, τ⟩ hr
      rw [nI_1]
      rcases hr with ⟨_, e⟩ | ⟨_, _, hk, hp, _⟩
      · replace e : τ = σ := e
        subst e
        exact ih (i + 1) τ (by omega) (by omega) ⟨t, ht⟩ h4
      · exact ih (i + 1) τ (by omega) (by omega) ⟨_, hk⟩ (hp.trans h4)
theorem i0_T : k_ok (f_T_init_75 T0) (fun r => (∃ t, kT r.2 t) ∧ (T_parts r.2).1 = 64) := by
  unfold f_T_init_75
  refine i_T97 1000 0 _ (by omega) (by omega) ⟨0, rfl, by omega, ⟨0, by omega, rfl⟩, ⟨0, 0, by omega, by omega, rfl, rfl⟩, fun i _ => ⟨0, by omega, rfl⟩, ?_, ?_⟩ rfl
  · show 64 ≤ 64; omega
  · show 64 ≤ 60000; omega
/-- depth -/
theorem i_depth (x1 : Int32) : ∃ d, d ≤ 2 ∧ (if (0 : Int32) < (if x1 < 2 then x1 else 2) then (if x1 < 2 then x1 else 2) else 0) = nI d ∧ ((0 ≤ x1 ∧ x1 ≤ 2 ∧ x1 = nI d) ∨ (0 ≤ x1 ∧ ¬ x1 ≤ 2 ∧ d = 2) ∨ (¬ 0 ≤ x1 ∧ d = 0)) := by
  have q0 : (0 : Int32).toInt = 0 := by decide
  have q2 : (2 : Int32).toInt = 2 := by decide
  by_cases h0 : 0 ≤ x1
  · have h0' : ¬ x1 < 0 := by rw [Int32.le_iff_toInt_le] at h0; rw [Int32.lt_iff_toInt_lt]; omega
    obtain ⟨j, hj, rfl⟩ := nI_of h0'
    by_cases h2 : nI j ≤ 2
    · have h3 : nI j ≤ nI 2 := h2
      rw [nI_leI hj (by decide)] at h3
      refine ⟨j, h3, ?_, Or.inl ⟨h0, h2, rfl⟩⟩
      rcases (show j = 0 ∨ j = 1 ∨ j = 2 by omega) with e | e | e
      · subst e; decide +kernel
      · subst e; decide +kernel
      · subst e; decide +kernel
    · have h3 : ¬ nI j ≤ nI 2 := h2
      rw [nI_leI hj (by decide)] at h3
      refine ⟨2, by omega, ?_, Or.inr (Or.inl ⟨h0, h2, rfl⟩)⟩
      have n2 : ¬ nI j < 2 := by
        show ¬ nI j < nI 2
        rw [nI_ltI hj (by decide)]; omega
      rw [if_neg n2]; decide +kernel
  · refine ⟨0, by omega, ?_, Or.inr (Or.inr ⟨h0, rfl⟩)⟩
    rw [Int32.le_iff_toInt_le] at h0
    have l2 : x1 < 2 := by rw [Int32.lt_iff_toInt_lt]; omega
    have n0 : ¬ (0 : Int32) < x1 := by rw [Int32.lt_iff_toInt_lt]; omega
    rw [if_pos l2, if_neg n0]; rfl
