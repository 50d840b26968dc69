/-! The class's own tables of classes: safe. -/
def kC (σ : StC) (n g : Nat) : Prop := C_count σ = nI n ∧ n ≤ 30 ∧ (∀ c, c < 30 → ∃ d, d ≤ 30 ∧ C_directCounts σ c = nI d) ∧ C_countGeneric σ = nI g ∧ g ≤ n
section
variable {σ : StC} {n g : Nat}
theorem kC_there (h : kC σ n g) {x : Int32} (hx : ¬ f_C_isThere σ x = 0) : ∃ j, j < n ∧ j < 30 ∧ x = nI j := by
  unfold f_C_isThere at hx
  have hn := h.2.1
  split at hx
  · exact absurd rfl hx
  · rename_i h0
    obtain ⟨j, hj, rfl⟩ := nI_of h0
    split at hx
    · exact absurd rfl hx
    · rename_i h1
      rw [h.1, nI_leI (by omega) hj] at h1
      exact ⟨j, by omega, by omega, rfl⟩
theorem s_C_withAbove (h : kC σ n g) (x : Int32) : k_ok (f_C_withAbove σ x) (fun _ => True) := by
  unfold f_C_withAbove
  refine k_if (fun _ => k_some trivial) (fun h1 => ?_)
  obtain ⟨j, hj, h30, rfl⟩ := kC_there h h1
  exact k_guard (nI_in h30 (by decide)) (k_some trivial)
theorem s_C_isFace (h : kC σ n g) (x : Int32) : k_ok (f_C_isFace σ x) (fun _ => True) := by
  unfold f_C_isFace
  refine k_if (fun _ => k_some trivial) (fun h1 => ?_)
  obtain ⟨j, hj, h30, rfl⟩ := kC_there h h1
  exact k_guard (nI_in h30 (by decide)) (k_if (fun _ => k_some trivial) (fun _ => k_some trivial))
theorem s_C_isGeneric (h : kC σ n g) (x : Int32) : k_ok (f_C_isGeneric σ x) (fun _ => True) := by
  unfold f_C_isGeneric
  refine k_if (fun _ => k_some trivial) (fun h1 => ?_)
  obtain ⟨j, hj, h30, rfl⟩ := kC_there h h1
  exact k_guard (nI_in h30 (by decide)) (k_if (fun _ => k_some trivial) (fun _ => k_some trivial))
theorem s_C_aboveOf (h : kC σ n g) (x : Int32) : k_ok (f_C_aboveOf σ x) (fun _ => True) := by
  unfold f_C_aboveOf
  refine k_if (fun _ => k_some trivial) (fun h1 => ?_)
  obtain ⟨j, hj, h30, rfl⟩ := kC_there h h1
  exact k_guard (nI_in h30 (by decide)) (k_some trivial)
theorem s_C_countDirect (h : kC σ n g) (x : Int32) : k_ok (f_C_countDirect σ x) (fun r => ∃ d, d ≤ 30 ∧ r = nI d) := by
  unfold f_C_countDirect
  refine k_if (fun _ => k_some ⟨0, by omega, rfl⟩) (fun h1 => ?_)
  obtain ⟨j, hj, h30, rfl⟩ := kC_there h h1
  obtain ⟨d, hd, e⟩ := h.2.2.1 j h30
  refine k_guard (nI_in h30 (by decide)) (k_some ⟨d, hd, ?_⟩)
  rw [nI_clamp (by omega), e]
theorem s_C_directAt (h : kC σ n g) (x1 x2 : Int32) : k_ok (f_C_directAt σ x1 x2) (fun _ => True) := by
  unfold f_C_directAt
  refine k_if (fun _ => k_some trivial) (fun h1 => ?_)
  obtain ⟨j, hj, h30, rfl⟩ := kC_there h h1
  refine k_if (fun _ => k_some trivial) (fun h2 => ?_)
  refine k_guard (nI_in h30 (by decide)) ?_
  refine k_if (fun _ => k_some trivial) (fun h3 => ?_)
  obtain ⟨i, hi, rfl⟩ := nI_of h2
  obtain ⟨d, hd, e⟩ := h.2.2.1 j h30
  rw [nI_clamp (by omega), e, nI_leI (by omega) hi] at h3
  exact k_guard (k_in2 h30 (by omega)) (k_some trivial)
theorem s_C_toldAt (h : kC σ n g) (x1 x2 : Int32) : k_ok (f_C_toldAt σ x1 x2) (fun _ => True) := by
  unfold f_C_toldAt
  refine k_if (fun _ => k_some trivial) (fun h1 => ?_)
  obtain ⟨j, hj, h30, rfl⟩ := kC_there h h1
  refine k_if (fun _ => k_some trivial) (fun h2 => ?_)
  refine k_guard (nI_in h30 (by decide)) ?_
  refine k_if (fun _ => k_some trivial) (fun h3 => ?_)
  obtain ⟨i, hi, rfl⟩ := nI_of h2
  obtain ⟨d, hd, e⟩ := h.2.2.1 j h30
  rw [nI_clamp (by omega), e, nI_leI (by omega) hi] at h3
  exact k_guard (k_in2 h30 (by omega)) (k_some trivial)
theorem s_C_write (h : kC σ n g) (x1 x2 x3 x4 : Int32) : k_ok (f_C_write σ x1 x2 x3 x4) (fun r => kC r.2 n g) := by
  unfold f_C_write
  refine k_if (fun _ => k_some h) (fun h1 => ?_)
  obtain ⟨j, hj, h30, rfl⟩ := kC_there h h1
  refine k_if (fun _ => k_some h) (fun h3 => ?_)
  refine k_if (fun _ => k_some h) (fun h2 => ?_)
  refine k_if (fun h4 => ?_) (fun _ => k_some h)
  obtain ⟨i, hi, rfl⟩ := nI_of h2
  have h5 : nI i < nI 30 := h4
  rw [nI_ltI hi (by decide)] at h5
  refine k_guard (k_in2 h30 h5) ?_
  refine k_guard (k_in2 h30 h5) ?_
  refine k_guard (nI_in h30 (by decide)) ?_
  refine k_guard (nI_in h30 (by decide)) ?_
  refine k_guard (nI_in h30 (by decide)) ?_
  have key : ∀ (τ : StC) (v : Int32), C_count τ = nI n → C_countGeneric τ = nI g → (∃ d, d ≤ 30 ∧ v = nI d) → C_directCounts τ = upd (C_directCounts σ) (nI j).toNatClampNeg v → kC τ n g := by
    intro τ v e1 e2 e3 e4
    refine ⟨e1, h.2.1, ?_, e2, h.2.2.2.2⟩
    intro c hc
    rw [e4, nI_clamp (by omega)]
    by_cases ec : c = j
    · subst ec; rw [k_upds]; exact e3
    · rw [k_updn ec]; exact h.2.2.1 c hc
  have hv : ∃ d, d ≤ 30 ∧ (if ((C_directCounts σ) (nI j).toNatClampNeg) < (nI i + 1) then (nI i + 1) else ((C_directCounts σ) (nI j).toNatClampNeg)) = nI d := by
    split
    · exact ⟨i + 1, by omega, nI_1 i⟩
    · rw [nI_clamp (by omega)]; exact h.2.2.1 j h30
  refine k_bind (s_C_withAbove (n := n) (g := g) ?_ x3) ?_
  · exact key _ _ h.1 h.2.2.2.1 hv rfl
  intro r1 _
  refine k_guard (nI_in h30 (by decide)) (k_some ?_)
  exact key _ _ h.1 h.2.2.2.1 hv rfl
theorem s_C_add (h : kC σ n g) (hn : n < 30) (x1 x2 : Int32) : k_ok (f_C_add σ x1 x2) (fun r => r.1 = nI n ∧ kC r.2 (n + 1) (if x2 = 0 then g else g + 1)) := by
  have key : ∀ (τ : StC) (w : Nat), C_count τ = nI (n + 1) → C_countGeneric τ = nI w → w ≤ n + 1 → C_directCounts τ = C_directCounts σ → k_ok (f_C_add_54 τ (C_count σ)) (fun r => r.1 = nI n ∧ kC r.2 (n + 1) w) := by
    intro τ w e1 e2 e3 e4
    have hk : kC τ (n + 1) w := ⟨e1, by omega, by rw [e4]; exact h.2.2.1, e2, e3⟩
    unfold f_C_add_54
    refine k_if (fun _ => k_some ⟨h.1, hk⟩) (fun _ => ?_)
    refine k_bind (s_C_write hk _ _ _ _) ?_
    intro r hr
    exact k_some ⟨h.1, hr⟩
  unfold f_C_add
  have hg := h.2.2.2.2
  have hlt : C_count σ < 30 := by rw [h.1]; exact nI_lt hn (by decide)
  refine k_if (fun _ => ?_) (fun h0 => absurd hlt h0)
  have hi : ¬ (C_count σ < 0 ∨ 30 ≤ (C_count σ).toNatClampNeg) := by rw [h.1]; exact nI_in hn (by decide)
  refine k_guard hi ?_
  refine k_guard hi ?_
  have ec : C_count σ + 1 = nI (n + 1) := by rw [h.1]; exact nI_1 n
  have eg : C_countGeneric σ + 1 = nI (g + 1) := by rw [h.2.2.2.1]; exact nI_1 g
  refine k_if (fun h2 => ?_) (fun h2 => ?_)
  · rw [if_pos h2]
    exact key _ _ ec h.2.2.2.1 (by omega) rfl
  · rw [if_neg h2]
    exact key _ _ ec eg (by omega) rfl
theorem s_C_put (h : kC σ n g) (x1 x2 : Int32) : k_ok (f_C_put σ x1 x2) (fun r => kC r.2 n g) := by
  have key : ∀ (a b c d : Int32), k_ok (f_C_put_22 σ a b c d) (fun r => kC r.2 n g) := by
    intro a b c d
    unfold f_C_put_22
    refine k_bind (s_C_write h _ _ _ _) ?_
    intro r hr
    refine k_bind (s_C_countDirect hr _) ?_
    intro r3 _
    exact k_some hr
  unfold f_C_put
  refine k_bind (s_C_isFace h _) ?_
  intro r1 _
  refine k_if (fun _ => key _ _ _ _) (fun _ => ?_)
  refine k_bind (s_C_countDirect h _) ?_
  intro r4 _
  exact key _ _ _ _
theorem s_C_isDirectly_9 (h : kC σ n g) {m : Nat} (hm : m ≤ 30) (x1 x2 : Int32) : ∀ (f i : Nat), i ≤ m → m < f + i → k_ok (f_C_isDirectly_9 f σ x1 x2 (nI m) (nI i)) (fun _ => True) := by
  intro f
  induction f with
  | zero => intro i h1 h2; omega
  | succ f ih =>
    intro i h1 h2
    rw [f_C_isDirectly_9]
    unfold f_C_isDirectly_9_s
    refine k_if (fun _ => k_some trivial) (fun h3 => ?_)
    rw [nI_leI (by omega) (by omega)] at h3
    refine k_bind (s_C_directAt h _ _) ?_
    intro r _
    refine k_if (fun _ => k_some trivial) (fun _ => ?_)
    rw [nI_1]
    exact ih (i + 1) (by omega) (by omega)
theorem s_C_isDirectly (h : kC σ n g) (x1 x2 : Int32) : k_ok (f_C_isDirectly σ x1 x2) (fun _ => True) := by
  unfold f_C_isDirectly
  refine k_bind (s_C_countDirect h _) ?_
  rintro r ⟨d, hd, rfl⟩
  exact s_C_isDirectly_9 h hd x1 x2 1000 0 (by omega) (by omega)
theorem s_C_mayGet (h : kC σ n g) (x1 : Int32) : k_ok (f_C_mayGet σ x1) (fun _ => True) := by
  have k55 : ∀ a b : Int32, k_ok (f_C_mayGet_55 σ a b) (fun _ => True) := by
    intro a b
    unfold f_C_mayGet_55
    refine k_bind (s_C_isDirectly h _ _) ?_
    intro r _
    exact k_if (fun _ => k_some trivial) (fun _ => k_some trivial)
  have k31 : ∀ a b c : Int32, k_ok (f_C_mayGet_31 σ a b c) (fun _ => True) := by
    intro a b c
    unfold f_C_mayGet_31
    refine k_if (fun _ => k55 _ _) (fun _ => ?_)
    refine k_bind (s_C_isFace h _) ?_
    intro r _
    refine k_if (fun _ => ?_) (fun _ => k_some trivial)
    refine k_bind (s_C_directAt h _ _) ?_
    intro r _
    exact k_if (fun _ => k55 _ _) (fun _ => k_some trivial)
  unfold f_C_mayGet
  refine k_if (fun _ => k_some trivial) (fun _ => ?_)
  refine k_if (fun _ => k_some trivial) (fun _ => ?_)
  refine k_bind (s_C_isFace h _) ?_
  intro r _
  exact k_if (fun _ => k31 _ _ _) (fun _ => k31 _ _ _)
theorem s_C_firstToward_12 (h : kC σ n g) {j : Nat} (hj : j < 30) (x2 : Int32) : ∀ (f i : Nat), i ≤ 30 → 30 < f + i → k_ok (f_C_firstToward_12 f σ (nI j) x2 (nI i)) (fun _ => True) := by
  intro f
  induction f with
  | zero => intro i h1 h2; omega
  | succ f ih =>
    intro i h1 h2
    rw [f_C_firstToward_12]
    unfold f_C_firstToward_12_s
    refine k_guard (nI_in hj (by decide)) ?_
    obtain ⟨d, hd, e⟩ := h.2.2.1 j hj
    refine k_if (fun _ => k_some trivial) (fun h3 => ?_)
    rw [nI_clamp (by omega), e, nI_leI (by omega) (by omega)] at h3
    have hk : k_ok (f_C_firstToward_12 f σ (nI j) x2 (nI i + 1)) (fun _ => True) := by
      rw [nI_1]
      exact ih (i + 1) (by omega) (by omega)
    refine k_guard (k_in2 hj (by omega)) ?_
    refine k_if (fun _ => k_some trivial) (fun _ => ?_)
    refine k_if (fun _ => hk) (fun h4 => ?_)
    obtain ⟨v, _, hv, ev⟩ := kC_there h h4
    rw [ev]
    refine k_guard (nI_in hv (by decide)) ?_
    exact k_if (fun _ => hk) (fun _ => k_some trivial)
theorem s_C_firstToward (h : kC σ n g) (x1 x2 : Int32) : k_ok (f_C_firstToward σ x1 x2) (fun _ => True) := by
  unfold f_C_firstToward
  refine k_if (fun _ => k_some trivial) (fun h1 => ?_)
  obtain ⟨j, hj, h30, rfl⟩ := kC_there h h1
  exact s_C_firstToward_12 h h30 x2 1000 0 (by omega) (by omega)
theorem s_C_climb_9 (h : kC σ n g) (x3 : Int32) : ∀ (f i : Nat) (x4 x5 : Int32), i ≤ 30 → 30 < f + i → k_ok (f_C_climb_9 f σ x3 x4 x5 (nI i)) (fun _ => True) := by
  have k70 : ∀ a b c : Int32, k_ok (f_C_climb_70 σ a b c) (fun _ => True) := by
    intro a b c
    unfold f_C_climb_70
    exact k_if (fun _ => k_some trivial) (fun _ => k_some trivial)
  intro f
  induction f with
  | zero => intro i _ _ h1 h2; omega
  | succ f ih =>
    intro i x4 x5 h1 h2
    rw [f_C_climb_9]
    unfold f_C_climb_9_s
    refine k_if (fun _ => k70 _ _ _) (fun h3 => ?_)
    have h4 : ¬ nI 30 ≤ nI i := h3
    rw [nI_leI (by decide) (by omega)] at h4
    refine k_if (fun _ => k70 _ _ _) (fun _ => ?_)
    refine k_bind (s_C_firstToward h _ _) ?_
    intro r1 _
    refine k_if (fun _ => k_some trivial) (fun _ => ?_)
    refine k_bind (s_C_toldAt h _ _) ?_
    intro r2 _
    refine k_bind (s_C_directAt h _ _) ?_
    intro r3 _
    rw [nI_1]
    exact ih (i + 1) _ _ (by omega) (by omega)
theorem s_C_climb (h : kC σ n g) (x1 x2 x3 : Int32) : k_ok (f_C_climb σ x1 x2 x3) (fun _ => True) := by
  unfold f_C_climb
  exact s_C_climb_9 h x3 1000 0 _ _ (by omega) (by omega)
theorem s_C_clashes_21 (h : kC σ n g) (x1 x2 x3 x4 : Int32) : ∀ (f i : Nat), i ≤ n → n < f + i → k_ok (f_C_clashes_21 f σ x1 x2 x3 x4 (nI i)) (fun _ => True) := by
  have hn := h.2.1
  intro f
  induction f with
  | zero => intro i h1 h2; omega
  | succ f ih =>
    intro i h1 h2
    rw [f_C_clashes_21]
    unfold f_C_clashes_21_s
    refine k_if (fun _ => k_some trivial) (fun h3 => ?_)
    rw [h.1, nI_leI (by omega) (by omega)] at h3
    have hk : k_ok (f_C_clashes_21 f σ x1 x2 x3 x4 (nI i + 1)) (fun _ => True) := by
      rw [nI_1]
      exact ih (i + 1) (by omega) (by omega)
    refine k_if (fun _ => hk) (fun _ => ?_)
    refine k_bind (s_C_isGeneric h _) ?_
    intro r3 _
    refine k_if (fun _ => hk) (fun _ => ?_)
    refine k_bind (s_C_climb h _ _ _) ?_
    intro r4 _
    refine k_bind (s_C_climb h _ _ _) ?_
    intro r5 _
    exact k_if (fun _ => hk) (fun _ => k_some trivial)
theorem s_C_clashes (h : kC σ n g) (x1 x2 : Int32) : k_ok (f_C_clashes σ x1 x2) (fun _ => True) := by
  have hn := h.2.1
  unfold f_C_clashes
  refine k_bind (s_C_aboveOf h _) ?_
  intro r1 _
  refine k_bind (s_C_withAbove h _) ?_
  intro r2 _
  exact s_C_clashes_21 h _ _ _ _ 1000 0 (by omega) (by omega)
theorem s_C_leastOf_4 (h : kC σ n g) (x1 : Int32) : ∀ (f i : Nat) (x2 : Int32), i ≤ n → n < f + i → k_ok (f_C_leastOf_4 f σ x1 x2 (nI i)) (fun _ => True) := by
  have hn := h.2.1
  intro f
  induction f with
  | zero => intro i _ h1 h2; omega
  | succ f ih =>
    intro i x2 h1 h2
    rw [f_C_leastOf_4]
    unfold f_C_leastOf_4_s
    refine k_if (fun _ => k_some trivial) (fun h3 => ?_)
    rw [h.1, nI_leI (by omega) (by omega)] at h3
    have hk : ∀ y, k_ok (f_C_leastOf_4 f σ x1 y (nI i + 1)) (fun _ => True) := by
      intro y
      rw [nI_1]
      exact ih (i + 1) _ (by omega) (by omega)
    refine k_if (fun _ => hk _) (fun _ => ?_)
    exact k_guard (nI_in (by omega) (by decide)) (hk _)
theorem s_C_leastOf (h : kC σ n g) (x1 : Int32) : k_ok (f_C_leastOf σ x1) (fun _ => True) := by
  have hn := h.2.1
  unfold f_C_leastOf
  exact s_C_leastOf_4 h _ 1000 0 _ (by omega) (by omega)
end
