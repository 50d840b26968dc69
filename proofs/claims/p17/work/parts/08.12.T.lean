/-! The class's own tables of types: safe. -/
def kT (σ : StT) (t : Nat) : Prop := T_count σ = nI t ∧ t ≤ 300 ∧ (∃ u, u ≤ 90 * t ∧ T_partsUsed σ = nI u) ∧ (∃ s v, s ≤ 300 ∧ v ≤ 90 * s ∧ T_settledCount σ = nI s ∧ T_settledParts σ = nI v) ∧ (∀ i, i < 300 → ∃ m, m ≤ 90 ∧ T_partCounts σ i = nI m) ∧ 64 ≤ (T_parts σ).1 ∧ (T_parts σ).1 ≤ 60000
def kG (σ τ : StT) (K N : Nat) : Prop := K + (T_parts σ).1 ≤ (T_parts τ).1 ∧ N + 2 * (T_parts σ).1 ≤ 2 * (T_parts τ).1
section
variable {σ : StT} {t : Nat}
theorem kG_refl : kG σ σ 0 0 := ⟨by omega, by omega⟩
theorem kG_eq {τ : StT} (h : T_parts τ = T_parts σ) : kG σ τ 0 0 := by unfold kG; rw [h]; omega
theorem kT_there (h : kT σ t) {x : Int32} (hx : ¬ f_T_isThere σ x = 0) : ∃ j, j < t ∧ j < 300 ∧ x = nI j := by
  unfold f_T_isThere at hx
  have hn := h.2.1
  split at hx
  · exact absurd rfl hx
  · rename_i h0
    obtain ⟨j, hj, rfl⟩ := nI_of h0
    split at hx
    · exact absurd rfl hx
    · rename_i h1
      rw [h.1, nI_leI (by omega) hj] at h1
      exact ⟨j, by omega, by omega, rfl⟩
theorem s_T_sizeOf (h : kT σ t) (x : Int32) : k_ok (f_T_sizeOf σ x) (fun _ => True) := by
  unfold f_T_sizeOf
  refine k_if (fun _ => k_some trivial) (fun h1 => ?_)
  obtain ⟨j, hj, h30, rfl⟩ := kT_there h h1
  exact k_guard (nI_in h30 (by decide)) (k_some trivial)
theorem s_T_kindOf (h : kT σ t) (x : Int32) : k_ok (f_T_kindOf σ x) (fun _ => True) := by
  unfold f_T_kindOf
  refine k_if (fun _ => k_some trivial) (fun h1 => ?_)
  obtain ⟨j, hj, h30, rfl⟩ := kT_there h h1
  exact k_guard (nI_in h30 (by decide)) (k_some trivial)
theorem s_T_elementOf (h : kT σ t) (x : Int32) : k_ok (f_T_elementOf σ x) (fun _ => True) := by
  unfold f_T_elementOf
  refine k_if (fun _ => k_some trivial) (fun h1 => ?_)
  obtain ⟨j, hj, h30, rfl⟩ := kT_there h h1
  exact k_guard (nI_in h30 (by decide)) (k_some trivial)
theorem s_T_classOf (h : kT σ t) (x : Int32) : k_ok (f_T_classOf σ x) (fun _ => True) := by
  unfold f_T_classOf
  refine k_if (fun _ => k_some trivial) (fun h1 => ?_)
  obtain ⟨j, hj, h30, rfl⟩ := kT_there h h1
  exact k_guard (nI_in h30 (by decide)) (k_some trivial)
theorem s_T_argumentAt (h : kT σ t) (x : Int32) : k_ok (f_T_argumentAt σ x) (fun _ => True) := by
  unfold f_T_argumentAt
  refine k_if (fun _ => k_some trivial) (fun h1 => ?_)
  obtain ⟨j, hj, h30, rfl⟩ := kT_there h h1
  exact k_guard (nI_in h30 (by decide)) (k_some trivial)
theorem s_T_countParts (h : kT σ t) (x : Int32) : k_ok (f_T_countParts σ x) (fun r => ∃ m, m ≤ 90 ∧ r = nI m) := by
  unfold f_T_countParts
  refine k_if (fun _ => k_some ⟨0, by omega, rfl⟩) (fun h1 => ?_)
  obtain ⟨j, hj, h30, rfl⟩ := kT_there h h1
  obtain ⟨m, hm, e⟩ := h.2.2.2.2.1 j h30
  refine k_guard (nI_in h30 (by decide)) (k_some ⟨m, hm, ?_⟩)
  rw [nI_clamp (by omega), e]
theorem s_T_partOf (h : kT σ t) (x1 x2 : Int32) : k_ok (f_T_partOf σ x1 x2) (fun _ => True) := by
  unfold f_T_partOf
  refine k_if (fun _ => k_some trivial) (fun h1 => ?_)
  obtain ⟨j, hj, h30, rfl⟩ := kT_there h h1
  refine k_if (fun _ => k_some trivial) (fun _ => ?_)
  refine k_guard (nI_in h30 (by decide)) ?_
  refine k_if (fun _ => ?_) (fun _ => k_some trivial)
  refine k_guard (nI_in h30 (by decide)) ?_
  refine k_if (fun _ => k_some trivial) (fun _ => ?_)
  refine k_guard (nI_in h30 (by decide)) ?_
  refine k_if (fun _ => k_some trivial) (fun h2 => ?_)
  refine k_if (fun _ => k_some trivial) (fun _ => ?_)
  refine k_if (fun _ => k_some trivial) (fun h3 => ?_)
  refine k_guard ?_ (k_some trivial)
  have hl := h.2.2.2.2.2.2
  obtain ⟨i, hi, e⟩ := nI_of h2
  rw [e] at h3 ⊢
  have h4 : ¬ nI (T_parts σ).1 ≤ nI i := h3
  rw [nI_leI (by omega) hi] at h4
  exact nI_in (by omega) (by omega)
theorem s_T_add (h : kT σ t) (x1 x2 : Int32) : k_ok (f_T_append σ x1 x2) (fun r => (r.1 = -1 ∧ r.2 = σ) ∨ (r.1 = nI t ∧ t < 300 ∧ kT r.2 (t + 1) ∧ T_parts r.2 = T_parts σ ∧ T_partsUsed r.2 = T_partsUsed σ)) := by
  unfold f_T_append
  have ht := h.2.1
  refine k_if (fun _ => k_some (Or.inl ⟨rfl, rfl⟩)) (fun h1 => ?_)
  have h2 : ¬ nI 300 ≤ T_count σ := h1
  rw [h.1, nI_leI (by decide) (by omega)] at h2
  refine k_if (fun _ => ?_) (fun _ => k_some (Or.inl ⟨rfl, rfl⟩))
  have hi : ¬ (T_count σ < 0 ∨ 300 ≤ (T_count σ).toNatClampNeg) := by rw [h.1]; exact nI_in (by omega) (by decide)
  refine k_guard hi (k_guard hi (k_guard hi (k_guard hi (k_guard hi (k_guard hi (k_guard hi (k_some (Or.inr ?_))))))))
  refine ⟨h.1, by omega, ?_, rfl, rfl⟩
  obtain ⟨u, hu, eu⟩ := h.2.2.1
  refine ⟨?_, by omega, ⟨u, by omega, eu⟩, h.2.2.2.1, ?_, h.2.2.2.2.2⟩
  · show T_count σ + 1 = nI (t + 1)
    rw [h.1]; exact nI_1 t
  · intro i hi
    show ∃ m, m ≤ 90 ∧ upd (T_partCounts σ) (T_count σ).toNatClampNeg 0 i = nI m
    by_cases e : i = (T_count σ).toNatClampNeg
    · rw [e, k_upds]; exact ⟨0, by omega, rfl⟩
    · rw [k_updn e]; exact h.2.2.2.2.1 i hi
theorem s_T_makeNamed_8 (h : kT σ t) (x1 x2 : Int32) : ∀ (f i : Nat), i ≤ t → t < f + i → k_ok (f_T_makeNamed_8 f σ x1 x2 (nI i)) (fun r => (∃ t', kT r.2 t') ∧ T_parts r.2 = T_parts σ) := by
  have ht := h.2.1
  intro f
  induction f with
  | zero => intro i h1 h2; omega
  | succ f ih =>
    intro i h1 h2
    rw [f_T_makeNamed_8]
    unfold f_T_makeNamed_8_s
    refine k_if (fun _ => ?_) (fun h3 => ?_)
    · refine k_bind (s_T_sizeOf h _) ?_
      intro r1 _
      refine k_bind (s_T_add h _ _) ?_
      rintro ⟨v, τ⟩ hr
      refine k_if (fun _ => k_some ?_) (fun h4 => ?_)
      · rcases hr with ⟨_, e⟩ | ⟨_, _, hk, hp, _⟩
        · exact ⟨⟨t, by rw [e]; exact h⟩, by rw [e]⟩
        · exact ⟨⟨_, hk⟩, hp⟩
      · rcases hr with ⟨e, _⟩ | ⟨e, hlt, hk, hp, _⟩
        · exact absurd e h4
        · replace e : v = nI t := e
          subst e
          have hi : ¬ (nI t < 0 ∨ 300 ≤ (nI t).toNatClampNeg) := nI_in hlt (by decide)
          refine k_guard hi (k_guard hi (k_guard hi (k_some ⟨⟨t + 1, ?_⟩, hp⟩)))
          refine ⟨hk.1, hk.2.1, hk.2.2.1, hk.2.2.2.1, ?_, hk.2.2.2.2.2⟩
          intro i hi
          show ∃ m, m ≤ 90 ∧ upd (T_partCounts τ) (nI t).toNatClampNeg 1 i = nI m
          by_cases e : i = (nI t).toNatClampNeg
          · rw [e, k_upds]; exact ⟨1, by omega, rfl⟩
          · rw [k_updn e]; exact hk.2.2.2.2.1 i hi
    · rw [h.1, nI_leI (by omega) (by omega)] at h3
      have hk : k_ok (f_T_makeNamed_8 f σ x1 x2 (nI i + 1)) (fun r => (∃ t', kT r.2 t') ∧ T_parts r.2 = T_parts σ) := by
        rw [nI_1]
        exact ih (i + 1) (by omega) (by omega)
      have hi : ¬ (nI i < 0 ∨ 300 ≤ (nI i).toNatClampNeg) := nI_in (by omega) (by decide)
      refine k_guard hi (k_if (fun _ => ?_) (fun _ => hk))
      refine k_guard hi (k_if (fun _ => ?_) (fun _ => hk))
      exact k_guard hi (k_if (fun _ => k_some ⟨⟨t, h⟩, rfl⟩) (fun _ => hk))
theorem s_T_makeNamed (h : kT σ t) (x1 x2 : Int32) : k_ok (f_T_makeNamed σ x1 x2) (fun r => (∃ t', kT r.2 t') ∧ T_parts r.2 = T_parts σ) := by
  have ht := h.2.1
  unfold f_T_makeNamed
  refine k_if (fun _ => ?_) (fun _ => k_some ⟨⟨t, h⟩, rfl⟩)
  exact s_T_makeNamed_8 h x1 x2 1000 0 (by omega) (by omega)
theorem s_T_makeArray_2 (h : kT σ t) (x1 : Int32) : ∀ (f i : Nat), i ≤ t → t < f + i → k_ok (f_T_makeArray_2 f σ x1 (nI i)) (fun r => (∃ t', kT r.2 t') ∧ T_parts r.2 = T_parts σ) := by
  have ht := h.2.1
  intro f
  induction f with
  | zero => intro i h1 h2; omega
  | succ f ih =>
    intro i h1 h2
    rw [f_T_makeArray_2]
    unfold f_T_makeArray_2_s
    refine k_if (fun _ => ?_) (fun h3 => ?_)
    · refine k_bind (s_T_sizeOf h _) ?_
      intro r1 _
      refine k_bind (s_T_add h _ _) ?_
      rintro ⟨v, τ⟩ hr
      refine k_if (fun _ => k_some ?_) (fun h4 => ?_)
      · rcases hr with ⟨_, e⟩ | ⟨_, _, hk, hp, _⟩
        · exact ⟨⟨t, by rw [e]; exact h⟩, by rw [e]⟩
        · exact ⟨⟨_, hk⟩, hp⟩
      · rcases hr with ⟨e, _⟩ | ⟨e, hlt, hk, hp, _⟩
        · exact absurd e h4
        · replace e : v = nI t := e
          subst e
          have hi : ¬ (nI t < 0 ∨ 300 ≤ (nI t).toNatClampNeg) := nI_in hlt (by decide)
          exact k_guard hi (k_some ⟨⟨t + 1, hk⟩, hp⟩)
    · rw [h.1, nI_leI (by omega) (by omega)] at h3
      have hk : k_ok (f_T_makeArray_2 f σ x1 (nI i + 1)) (fun r => (∃ t', kT r.2 t') ∧ T_parts r.2 = T_parts σ) := by
        rw [nI_1]
        exact ih (i + 1) (by omega) (by omega)
      have hi : ¬ (nI i < 0 ∨ 300 ≤ (nI i).toNatClampNeg) := nI_in (by omega) (by decide)
      refine k_guard hi (k_if (fun _ => ?_) (fun _ => hk))
      exact k_guard hi (k_if (fun _ => k_some ⟨⟨t, h⟩, rfl⟩) (fun _ => hk))
theorem s_T_makeArray (h : kT σ t) (x1 : Int32) : k_ok (f_T_makeArray σ x1) (fun r => (∃ t', kT r.2 t') ∧ T_parts r.2 = T_parts σ) := by
  have ht := h.2.1
  unfold f_T_makeArray
  exact s_T_makeArray_2 h x1 1000 0 (by omega) (by omega)
theorem s_T_settle (h : kT σ t) : k_ok (f_T_settle σ) (fun r => (∃ t', kT r.2 t') ∧ T_parts r.2 = T_parts σ) := by
  obtain ⟨u, hu, eu⟩ := h.2.2.1
  exact k_some ⟨⟨t, h.1, h.2.1, ⟨u, hu, eu⟩, ⟨t, u, h.2.1, hu, h.1, eu⟩, h.2.2.2.2⟩, rfl⟩
theorem s_T_dropUnsettled (h : kT σ t) : k_ok (f_T_dropUnsettled σ) (fun r => (∃ t', kT r.2 t') ∧ T_parts r.2 = T_parts σ) := by
  obtain ⟨s, v, hs, hv, es, ev⟩ := h.2.2.2.1
  exact k_some ⟨⟨s, es, hs, ⟨v, hv, ev⟩, ⟨s, v, hs, hv, es, ev⟩, h.2.2.2.2⟩, rfl⟩
theorem s_T_hasParts_3 (h : kT σ t) {j a : Nat} (hj : j < 300) (ha : a ≤ 90) (pa : Nat × (Nat → Int32)) (hp : pa.1 = 90) : ∀ (f i : Nat), i ≤ 90 → 90 < f + i → k_ok (f_T_hasParts_3 pa f σ (nI j) (nI a) (nI i)) (fun _ => True) := by
  intro f
  induction f with
  | zero => intro i h1 h2; omega
  | succ f ih =>
    intro i h1 h2
    rw [f_T_hasParts_3]
    unfold f_T_hasParts_3_s
    obtain ⟨m, hm, e⟩ := h.2.2.2.2.1 j hj
    refine k_guard (nI_in hj (by decide)) ?_
    refine k_if (fun _ => k_some trivial) (fun h3 => ?_)
    rw [nI_clamp (by omega), e, nI_leI (by omega) (by omega)] at h3
    refine k_if (fun _ => k_some trivial) (fun h4 => ?_)
    have h5 : ¬ nI pa.1 ≤ nI a + nI i := h4
    rw [nI_add, hp, nI_leI (by omega) (by omega)] at h5
    refine k_bind (s_T_partOf h _ _) ?_
    intro r1 _
    rw [nI_add, hp]
    refine k_guard (nI_in (by omega) (by omega)) ?_
    refine k_if (fun _ => ?_) (fun _ => k_some trivial)
    rw [nI_1]
    exact ih (i + 1) (by omega) (by omega)
theorem s_T_findIntersection_3 (h : kT σ t) {a : Nat} (ha : a ≤ 90) (pa : Nat × (Nat → Int32)) (hp : pa.1 = 90) (x3 : Int32) : ∀ (f i : Nat), i ≤ t → t < f + i → k_ok (f_T_findIntersection_3 pa f σ (nI a) x3 (nI i)) (fun _ => True) := by
  have ht := h.2.1
  intro f
  induction f with
  | zero => intro i h1 h2; omega
  | succ f ih =>
    intro i h1 h2
    rw [f_T_findIntersection_3]
    unfold f_T_findIntersection_3_s
    refine k_if (fun _ => k_some trivial) (fun h3 => ?_)
    rw [h.1, nI_leI (by omega) (by omega)] at h3
    have hk : k_ok (f_T_findIntersection_3 pa f σ (nI a) x3 (nI i + 1)) (fun _ => True) := by
      rw [nI_1]
      exact ih (i + 1) (by omega) (by omega)
    have hi : ¬ (nI i < 0 ∨ 300 ≤ (nI i).toNatClampNeg) := nI_in (by omega) (by decide)
    refine k_guard hi (k_if (fun _ => ?_) (fun _ => hk))
    refine k_guard hi (k_if (fun _ => ?_) (fun _ => hk))
    refine k_bind (s_T_hasParts_3 h (by omega) ha pa hp 1000 0 (by omega) (by omega)) ?_
    intro r1 _
    exact k_if (fun _ => hk) (fun _ => k_some trivial)
theorem s_T_appendParts_35 (h : kT σ t) {j a m u : Nat} (hj : j < 300) (pa : Nat × (Nat → Int32)) (hp : pa.1 = 90) (ham : a + m ≤ 90) (eu : T_partsUsed σ = nI u) (hu : u + m ≤ 90 * t) (hl : u + m ≤ (T_parts σ).1) :
    k_ok (f_T_appendParts_35 pa σ (nI j) (nI a) (nI m)) (fun r => r.1 = .inl 0 ∧ kT r.2.1 t ∧ (T_parts r.2.1).1 = (T_parts σ).1 ∧ r.2.2.1 = 0 ∧ r.2.2.2 = 0) := by
  unfold f_T_appendParts_35
  have ht := h.2.1
  have hle := h.2.2.2.2.2.2
  have hi : ¬ (nI j < 0 ∨ 300 ≤ (nI j).toNatClampNeg) := nI_in hj (by decide)
  refine k_guard ?_ (k_guard hi (k_guard hi (k_some ⟨rfl, ?_, rfl, rfl, rfl⟩)))
  · rw [eu, nI_clamp (by omega), nI_clamp (by omega), nI_clamp (by omega), hp]
    have p1 : ¬ nI a < 0 := nI_pos (by omega)
    have p2 : ¬ nI u < 0 := nI_pos (by omega)
    have p3 : ¬ nI m < 0 := nI_pos (by omega)
    rintro (q | q | q | q | q)
    · exact p1 q
    · exact p2 q
    · exact p3 q
    · omega
    · omega
  · refine ⟨h.1, h.2.1, ⟨u + m, hu, ?_⟩, h.2.2.2.1, ?_, h.2.2.2.2.2⟩
    · show T_partsUsed σ + nI m = nI (u + m)
      rw [eu, nI_add]
    · intro i hi
      show ∃ q, q ≤ 90 ∧ upd (T_partCounts σ) (nI j).toNatClampNeg (nI m) i = nI q
      by_cases e : i = (nI j).toNatClampNeg
      · rw [e, k_upds]; exact ⟨m, by omega, rfl⟩
      · rw [k_updn e]; exact h.2.2.2.2.1 i hi
theorem s_T_appendParts (h : kT σ t) {j a m u : Nat} (hj : j < 300) (pa : Nat × (Nat → Int32)) (hp : pa.1 = 90) (ham : a + m ≤ 90) (eu : T_partsUsed σ = nI u) (hu : u + m ≤ 90 * t) :
    k_ok (f_T_appendParts pa σ (nI j) (nI a) (nI m)) (fun r => r.1 = .inl 0 ∧ kT r.2.1 t ∧ kG σ r.2.1 r.2.2.1 r.2.2.2) := by
  unfold f_T_appendParts
  have ht := h.2.1
  have hle := h.2.2.2.2.2.2
  have hge := h.2.2.2.2.2.1
  have e1 : T_partsUsed σ + nI m = nI (u + m) := by rw [eu, nI_add]
  have e2 : 2 * (T_partsUsed σ + nI m) = nI (2 * (u + m)) := by
    rw [e1]; show nI 2 * nI (u + m) = _; rw [k_mul]
  refine k_if (fun h1 => ?_) (fun h1 => ?_)
  · have h2 : nI (u + m) ≤ nI (T_parts σ).1 := by rw [← e1]; exact h1
    rw [nI_leI (by omega) (by omega)] at h2
    refine k_mono (s_T_appendParts_35 h hj pa hp ham eu hu h2) ?_
    rintro r ⟨r1, r2, r3, r4, r5⟩
    exact ⟨r1, r2, by unfold kG; rw [r3, r4, r5]; omega⟩
  · have h2 : ¬ nI (u + m) ≤ nI (T_parts σ).1 := by rw [← e1]; exact h1
    rw [nI_leI (by omega) (by omega)] at h2
    rw [e2]
    have hc : (nI (2 * (u + m))).toNatClampNeg = 2 * (u + m) := nI_clamp (by omega)
    refine k_guard ?_ (k_ad ?_)
    · rw [hc]
      have p1 : ¬ nI (2 * (u + m)) < 0 := nI_pos (by omega)
      have p2 : ¬ nI (2 * (u + m)) = nI (T_parts σ).1 := by rw [nI_eq (by omega) (by omega)]; omega
      rintro (q | q | q | q)
      · exact p1 q
      · exact p2 q
      · omega
      · omega
    · rw [hc]
      have hk : kT (T_set_parts σ (2 * (u + m), J_copyOf (T_parts σ).2 (T_parts σ).1 (nI (2 * (u + m))))) t :=
        ⟨h.1, h.2.1, h.2.2.1, h.2.2.2.1, h.2.2.2.2.1, by show 64 ≤ 2 * (u + m); omega, by show 2 * (u + m) ≤ 60000; omega⟩
      refine k_mono (s_T_appendParts_35 hk hj pa hp ham eu hu (by show u + m ≤ 2 * (u + m); omega)) ?_
      rintro r ⟨r1, r2, r3, r4, r5⟩
      refine ⟨r1, r2, ?_⟩
      have r3' : (T_parts r.2.1).1 = 2 * (u + m) := r3
      show kG σ r.2.1 (r.2.2.1 + 1) (r.2.2.2 + 2 * (u + m))
      unfold kG; rw [r3', r4, r5]; omega
theorem s_T_makeIntersection_38 (h : kT σ t) {a m : Nat} (pa : Nat × (Nat → Int32)) (hp : pa.1 = 90) (ham : a + m ≤ 90) : ∀ (f i : Nat) (x4 : Int32), i ≤ m → m < f + i → k_ok (f_T_makeIntersection_38 pa f σ (nI a) (nI m) x4 (nI i)) (fun r => (∃ v, r.1 = .inl v) ∧ (∃ t', kT r.2.1 t') ∧ kG σ r.2.1 r.2.2.1 r.2.2.2) := by
  have ht := h.2.1
  intro f
  induction f with
  | zero => intro i _ h1 h2; omega
  | succ f ih =>
    intro i x4 h1 h2
    rw [f_T_makeIntersection_38]
    unfold f_T_makeIntersection_38_s
    refine k_if (fun _ => ?_) (fun h3 => ?_)
    · refine k_bind (s_T_findIntersection_3 h (by omega) pa hp _ 1000 0 (by omega) (by omega)) ?_
      intro r1 _
      refine k_if (fun _ => ?_) (fun _ => k_some ⟨⟨_, rfl⟩, ⟨t, h⟩, kG_refl⟩)
      refine k_bind (s_T_add h _ _) ?_
      rintro ⟨v, τ⟩ hr
      refine k_if (fun h4 => k_some ?_) (fun h4 => ?_)
      · rcases hr with ⟨_, e⟩ | ⟨e, _, hk, hp, _⟩
        · replace e : τ = σ := e
          subst e
          exact ⟨⟨_, rfl⟩, ⟨t, h⟩, kG_refl⟩
        · exact ⟨⟨_, rfl⟩, ⟨_, hk⟩, kG_eq hp⟩
      · rcases hr with ⟨e, _⟩ | ⟨e, hlt, hk, hpp, hpu⟩
        · exact absurd e h4
        · replace e : v = nI t := e
          subst e
          obtain ⟨u, hu, eu⟩ := h.2.2.1
          refine k_bind (s_T_appendParts (u := u) hk hlt pa hp ham (hpu.trans eu) (by omega)) ?_
          rintro ⟨w, ρ, K, N⟩ ⟨e, hρ, hG⟩
          replace e : w = .inl 0 := e
          subst e
          refine k_ad (k_some ⟨⟨_, rfl⟩, ⟨_, hρ⟩, ?_⟩)
          have hG' : kG τ ρ K N := hG
          have hpp' : T_parts τ = T_parts σ := hpp
          show kG σ ρ (0 + K) (0 + N)
          unfold kG at hG' ⊢
          rw [hpp'] at hG'
          omega
    · rw [nI_leI (by omega) (by omega)] at h3
      rw [nI_add, hp]
      refine k_guard (nI_in (by omega) (by decide)) ?_
      refine k_bind (s_T_sizeOf h _) ?_
      intro r4 _
      rw [nI_1]
      exact ih (i + 1) _ (by omega) (by omega)
theorem s_T_makeIntersection (h : kT σ t) {a : Nat} (ha : a ≤ 90) (pa : Nat × (Nat → Int32)) (hp : pa.1 = 90) (x3 : Int32) : k_ok (f_T_makeIntersection pa σ (nI a) x3) (fun r => (∃ v, r.1 = .inl v) ∧ (∃ t', kT r.2.1 t') ∧ kG σ r.2.1 r.2.2.1 r.2.2.2) := by
  unfold f_T_makeIntersection
  refine k_if (fun _ => k_some ⟨⟨_, rfl⟩, ⟨t, h⟩, kG_refl⟩) (fun _ => ?_)
  refine k_if (fun _ => k_some ⟨⟨_, rfl⟩, ⟨t, h⟩, kG_refl⟩) (fun h3 => ?_)
  refine k_if (fun h4 => ?_) (fun _ => k_some ⟨⟨_, rfl⟩, ⟨t, h⟩, kG_refl⟩)
  have h5 : x3 ≤ nI pa.1 - nI a := h4
  rw [hp, k_sub ha] at h5
  have h6 : ¬ x3 < 0 := by
    intro q
    apply h3
    rw [Int32.lt_iff_toInt_lt] at q ⊢
    have e0 : (0 : Int32).toInt = 0 := by decide
    have e1 : (1 : Int32).toInt = 1 := by decide
    omega
  obtain ⟨m, hm, rfl⟩ := nI_of h6
  have h7 : ¬ nI m < nI 1 := h3
  rw [nI_ltI hm (by decide)] at h7
  rw [nI_leI hm (by omega)] at h5
  refine k_if (fun _ => ?_) (fun _ => ?_)
  · rw [hp]
    exact k_guard (nI_in (by omega) (by decide)) (k_some ⟨⟨_, rfl⟩, ⟨t, h⟩, kG_refl⟩)
  · exact s_T_makeIntersection_38 h pa hp (by omega) 1000 0 _ (by omega) (by omega)
end
/-! The class's answers that are kept: safe in any state. -/
theorem k_sh4 (p : Nat) (h : p < 90000) : nI p >>> ((4 : Int32) &&& 31) = nI (p / 16) := by
  have hd : ((4 : Int32) &&& 31) = nI 4 := by decide +kernel
  rw [hd]
  apply Int32.toBitVec_inj.mp
  rw [Int32.toBitVec_shiftRight]
  show (BitVec.ofNat 32 p).sshiftRight ((nI 4).toBitVec.smod 32).toNat = BitVec.ofNat 32 (p / 16)
  have h4 : ((nI 4).toBitVec.smod 32).toNat = 4 := by decide +kernel
  rw [h4]
  apply BitVec.eq_of_toInt_eq
  rw [BitVec.toInt_sshiftRight]
  show (nI p).toInt >>> 4 = (nI (p / 16)).toInt
  rw [nI_toInt (by omega), nI_toInt (by omega), Int.shiftRight_eq_div_pow]
  omega
theorem k_pair {x1 x2 : Int32} (h : ¬ f_A_isPair x1 x2 = 0) : ∃ p, p < 5625 ∧ ((x1 * 300) + x2) >>> ((4 : Int32) &&& 31) = nI p := by
  unfold f_A_isPair at h
  split at h
  · exact absurd rfl h
  rename_i h1
  split at h
  · exact absurd rfl h
  rename_i h2
  split at h
  · exact absurd rfl h
  rename_i h3
  split at h
  · exact absurd rfl h
  rename_i h4
  obtain ⟨a, ha, rfl⟩ := nI_of h1
  obtain ⟨b, hb, rfl⟩ := nI_of h3
  replace h2 : ¬ nI 300 ≤ nI a := h2
  replace h4 : ¬ nI 300 ≤ nI b := h4
  rw [nI_leI (by decide) ha] at h2
  rw [nI_leI (by decide) hb] at h4
  have e : nI a * 300 + nI b = nI (a * 300 + b) := by
    show nI a * nI 300 + nI b = _
    rw [k_mul, nI_add]
  rw [e, k_sh4 _ (by omega)]
  exact ⟨(a * 300 + b) / 16, by omega, rfl⟩
theorem s_A_read (σ : StA) (x1 x2 : Int32) : k_ok (f_A_read σ x1 x2) (fun _ => True) := by
  unfold f_A_read
  refine k_if (fun _ => k_some trivial) (fun h => ?_)
  obtain ⟨p, hp, e⟩ := k_pair h
  refine k_guard ?_ (k_some trivial)
  rw [e]; exact nI_in hp (by decide)
theorem s_A_keep (σ : StA) (x1 x2 x3 : Int32) : k_ok (f_A_keep σ x1 x2 x3) (fun _ => True) := by
  unfold f_A_keep
  refine k_if (fun _ => k_some trivial) (fun h => ?_)
  obtain ⟨p, hp, e⟩ := k_pair h
  have hi : ¬ (((x1 * 300) + x2) >>> ((4 : Int32) &&& 31) < 0 ∨ 5625 ≤ (((x1 * 300) + x2) >>> ((4 : Int32) &&& 31)).toNatClampNeg) := by
    rw [e]; exact nI_in hp (by decide)
  refine k_guard hi ?_
  have k37 : ∀ b c d : Int32, k_ok (f_A_keep_37 σ b (((x1 * 300) + x2) >>> ((4 : Int32) &&& 31)) c d) (fun _ => True) := by
    intro b c d
    unfold f_A_keep_37
    exact k_guard hi (k_some trivial)
  exact k_if (fun _ => k37 _ _ _) (fun _ => k37 _ _ _)
theorem s_A_forget (σ : StA) : k_ok (f_A_forget σ) (fun _ => True) := by
  unfold f_A_forget
  exact k_if (fun _ => k_some trivial) (fun _ => k_some trivial)
