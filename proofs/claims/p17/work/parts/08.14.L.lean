/-! The class's methods: safe. n classes, g GENERIC ones, depth d. -/
def kL (σ : StL) (n g d : Nat) : Prop := L_depth σ = nI d ∧ d ≤ 2 ∧ kC (L_classes σ) n g ∧ ∃ t, kT (L_types σ) t
def kP (σ : StL) (n g d : Nat) (r : (Int32 ⊕ Nat) × StL × Nat × Nat) : Prop := (∃ v, r.1 = .inl v) ∧ kL r.2.1 n g d ∧ kG (L_types σ) (L_types r.2.1) r.2.2.1 r.2.2.2
def kQ (σ : StL) (n g d : Nat) (es : List Nat) (r : (Int32 ⊕ Nat) × StL × Nat × Nat) : Prop := (∀ k, r.1 = .inr k → k ∈ es) ∧ kL r.2.1 n g d ∧ r.2.2.1 + (T_parts (L_types σ)).1 ≤ 1 + (T_parts (L_types r.2.1)).1 ∧ r.2.2.2 + 2 * (T_parts (L_types σ)).1 ≤ 6 + 2 * (T_parts (L_types r.2.1)).1
section
variable {σ : StL} {n g d : Nat}
theorem kQ_ret {es : List Nat} {v : Int32} (h : kL σ n g d) : kQ σ n g d es (.inl v, σ, 0, 0) := ⟨(fun k e => nomatch e), h, (by show 0 + (T_parts (L_types σ)).1 ≤ 1 + (T_parts (L_types σ)).1; omega), (by show 0 + 2 * (T_parts (L_types σ)).1 ≤ 6 + 2 * (T_parts (L_types σ)).1; omega)⟩
theorem kQ_thr {es : List Nat} {e : Nat} (h : kL σ n g d) (he : e ∈ es) : kQ σ n g d es (.inr e, σ, 1, 6) := by
  refine ⟨?_, h, (by show 1 + (T_parts (L_types σ)).1 ≤ 1 + (T_parts (L_types σ)).1; omega), (by show 6 + 2 * (T_parts (L_types σ)).1 ≤ 6 + 2 * (T_parts (L_types σ)).1; omega)⟩
  intro k hk
  replace hk : (.inr e : Int32 ⊕ Nat) = .inr k := hk
  cases hk; exact he
theorem kQ_thr' {es : List Nat} {e : Nat} (h : kL σ n g d) (he : e ∈ es) : kQ σ n g d es (.inr e, σ, 0 + 1, 0 + 6) := kQ_thr h he
theorem kQ_ret0 {es : List Nat} {v : Int32} (h : kL σ n g d) : kQ σ n g d es (.inl v, σ, 0 + 0, 0 + 0) := kQ_ret h
theorem kL_types (h : kL σ n g d) {τ : StT} (ht : ∃ t, kT τ t) : kL (L_set_types σ τ) n g d := ⟨h.1, h.2.1, h.2.2.1, ht⟩
theorem kL_answers (h : kL σ n g d) (τ : StA) : kL (L_set_answers σ τ) n g d := ⟨h.1, h.2.1, h.2.2.1, h.2.2.2⟩
theorem k_rt {α : Type} {x : Int32} {f : (Int32 ⊕ Nat) × StL × Nat × Nat → Option α} {Q : α → Prop} (h1 : f_T_isThere (L_types σ) x = 0 → k_ok (f (.inr 1, σ, 1, 6)) Q) (h2 : ¬ f_T_isThere (L_types σ) x = 0 → k_ok (f (.inl 0, σ, 0, 0)) Q) : k_ok ((f_L_requireType σ x).bind f) Q := by
  unfold f_L_requireType
  by_cases h : f_T_isThere (L_types σ) x = 0
  · rw [if_pos h]; exact h1 h
  · rw [if_neg h]; exact h2 h
theorem k_rc {α : Type} {x : Int32} {f : (Int32 ⊕ Nat) × StL × Nat × Nat → Option α} {Q : α → Prop} (h1 : f_C_isThere (L_classes σ) x = 0 → k_ok (f (.inr 1, σ, 1, 6)) Q) (h2 : ¬ f_C_isThere (L_classes σ) x = 0 → k_ok (f (.inl 0, σ, 0, 0)) Q) : k_ok ((f_L_requireClass σ x).bind f) Q := by
  unfold f_L_requireClass
  by_cases h : f_C_isThere (L_classes σ) x = 0
  · rw [if_pos h]; exact h1 h
  · rw [if_neg h]; exact h2 h
/-- what `settled` answers at the end of a call that began in σ and has come to τ with K cells and N slots -/
theorem s_L_settled {τ : StL} (h : kL τ n g d) {x : Int32} : k_ok (f_L_settled τ x) (fun r => kQ τ n g d [2] r) := by
  unfold f_L_settled
  obtain ⟨t, ht⟩ := h.2.2.2
  refine k_if (fun _ => ?_) (fun _ => ?_)
  · refine k_bind (s_T_dropUnsettled ht) ?_
    rintro ⟨v, ρ⟩ ⟨hk, hp⟩
    refine k_some ⟨?_, kL_types h hk, ?_, ?_⟩
    · intro k e
      replace e : (.inr 2 : Int32 ⊕ Nat) = .inr k := e
      cases e; decide
    · have hp' : T_parts ρ = T_parts (L_types τ) := hp
      show 1 + (T_parts (L_types τ)).1 ≤ 1 + (T_parts ρ).1
      rw [hp']; omega
    · have hp' : T_parts ρ = T_parts (L_types τ) := hp
      show 6 + 2 * (T_parts (L_types τ)).1 ≤ 6 + 2 * (T_parts ρ).1
      rw [hp']; omega
  · refine k_bind (s_T_settle ht) ?_
    rintro ⟨v, ρ⟩ ⟨hk, hp⟩
    refine k_some ⟨(fun k e => nomatch e), kL_types h hk, ?_, ?_⟩
    · have hp' : T_parts ρ = T_parts (L_types τ) := hp
      show 0 + (T_parts (L_types τ)).1 ≤ 1 + (T_parts ρ).1
      rw [hp']; omega
    · have hp' : T_parts ρ = T_parts (L_types τ) := hp
      show 0 + 2 * (T_parts (L_types τ)).1 ≤ 6 + 2 * (T_parts ρ).1
      rw [hp']; omega
/-- the end of a call: what `settled` answers is handed on -/
theorem k_end {τ : StL} {es : List Nat} (h : kL τ n g d) {x : Int32} {K N : Nat} (hG : kG (L_types σ) (L_types τ) K N) (h2 : 2 ∈ es) :
    k_ok ((f_L_settled τ x).bind fun r => ad_ r.2.2.1 r.2.2.2 <| match r.1 with
      | .inr e => some (.inr e, r.2.1, 0, 0)
      | .inl rv => some (.inl rv, r.2.1, 0, 0)) (fun r => kQ σ n g d es (r.1, r.2.1, r.2.2.1 + K, r.2.2.2 + N)) := by
  refine k_bind (s_L_settled h) ?_
  rintro ⟨v, ρ, K', N'⟩ ⟨he, hk, h3, h4⟩
  obtain ⟨g1, g2⟩ := hG
  have h3' : K' + (T_parts (L_types τ)).1 ≤ 1 + (T_parts (L_types ρ)).1 := h3
  have h4' : N' + 2 * (T_parts (L_types τ)).1 ≤ 6 + 2 * (T_parts (L_types ρ)).1 := h4
  cases v with
  | inl v =>
    refine k_ad (k_some ⟨(fun k e => nomatch e), hk, ?_, ?_⟩)
    · show 0 + K' + K + (T_parts (L_types σ)).1 ≤ 1 + (T_parts (L_types ρ)).1
      omega
    · show 0 + N' + N + 2 * (T_parts (L_types σ)).1 ≤ 6 + 2 * (T_parts (L_types ρ)).1
      omega
  | inr k =>
    have hk2 : k = 2 := by
      have := he k rfl
      simpa using this
    subst hk2
    refine k_ad (k_some ⟨?_, hk, ?_, ?_⟩)
    · intro k e
      replace e : (.inr 2 : Int32 ⊕ Nat) = .inr k := e
      cases e; exact h2
    · show 0 + K' + K + (T_parts (L_types σ)).1 ≤ 1 + (T_parts (L_types ρ)).1
      omega
    · show 0 + N' + N + 2 * (T_parts (L_types σ)).1 ≤ 6 + 2 * (T_parts (L_types ρ)).1
      omega
theorem s_L_isTellable (h : kL σ n g d) (x1 x2 : Int32) : k_ok (f_L_isTellable σ x1 x2) (fun _ => True) := by
  obtain ⟨t, ht⟩ := h.2.2.2
  unfold f_L_isTellable
  refine k_bind (s_C_isGeneric h.2.2.1 _) ?_
  intro r1 _
  refine k_if (fun _ => k_if (fun _ => k_some trivial) (fun _ => k_some trivial)) (fun _ => ?_)
  refine k_if (fun _ => ?_) (fun _ => ?_)
  · refine k_bind (s_C_isGeneric h.2.2.1 _) ?_
    intro r3 _
    exact k_some trivial
  · refine k_if (fun _ => k_some trivial) (fun _ => ?_)
    refine k_bind (s_T_kindOf ht _) ?_
    intro r2 _
    exact k_if (fun _ => k_some trivial) (fun _ => k_some trivial)
theorem s_L_isArrayOfOthers (h : kL σ n g d) (x1 : Int32) : k_ok (f_L_isArrayOfOthers σ x1) (fun _ => True) := by
  obtain ⟨t, ht⟩ := h.2.2.2
  unfold f_L_isArrayOfOthers
  refine k_bind (s_T_kindOf ht _) ?_
  intro r1 _
  refine k_if (fun _ => ?_) (fun _ => k_some trivial)
  refine k_bind (s_T_elementOf ht _) ?_
  intro r2 _
  refine k_bind (s_T_kindOf ht _) ?_
  intro r3 _
  exact k_if (fun _ => k_some trivial) (fun _ => k_some trivial)
theorem s_L_foundIn_72 (h : kL σ n g d) (x1 : Int32) {m : Nat} (hm : m ≤ 90) : ∀ (f i : Nat) (x2 : Int32), i ≤ m → m < f + i → k_ok (f_L_foundIn_72 f σ x1 x2 (nI m) (nI i)) (fun _ => True) := by
  obtain ⟨t, ht⟩ := h.2.2.2
  intro f
  induction f with
  | zero => intro i _ h1 h2; omega
  | succ f ih =>
    intro i x2 h1 h2
    rw [f_L_foundIn_72]
    unfold f_L_foundIn_72_s
    refine k_if (fun _ => k_some trivial) (fun h3 => ?_)
    rw [nI_leI (by omega) (by omega)] at h3
    refine k_bind (s_T_partOf ht _ _) ?_
    intro r5 _
    refine k_bind (s_T_classOf ht _) ?_
    intro r6 _
    refine k_bind (s_C_withAbove h.2.2.1 _) ?_
    intro r7 _
    rw [nI_1]
    exact ih (i + 1) _ (by omega) (by omega)
theorem s_L_foundIn (h : kL σ n g d) (x1 : Int32) : k_ok (f_L_foundIn σ x1) (fun _ => True) := by
  obtain ⟨t, ht⟩ := h.2.2.2
  unfold f_L_foundIn
  refine k_bind (s_T_kindOf ht _) ?_
  intro r1 _
  refine k_if (fun _ => ?_) (fun _ => ?_)
  · refine k_bind (s_T_classOf ht _) ?_
    intro r2 _
    refine k_bind (s_C_withAbove h.2.2.1 _) ?_
    intro r3 _
    exact k_some trivial
  · refine k_if (fun _ => k_some trivial) (fun _ => ?_)
    refine k_bind (s_T_countParts ht _) ?_
    rintro r4 ⟨m, hm, rfl⟩
    exact s_L_foundIn_72 h x1 hm 1000 0 _ (by omega) (by omega)
theorem s_L_commonOf (h : kL σ n g d) (x1 x2 : Int32) : k_ok (f_L_commonOf σ x1 x2) (fun _ => True) := by
  unfold f_L_commonOf
  refine k_bind (s_L_foundIn h _) ?_
  intro r1 _
  refine k_bind (s_L_foundIn h _) ?_
  intro r2 _
  exact k_some trivial
theorem s_L_countHolders (h : kL σ n g d) (x1 : Int32) : k_ok (f_L_countHolders σ x1) (fun r => ∃ m, m ≤ 90 ∧ r = nI m) := by
  obtain ⟨t, ht⟩ := h.2.2.2
  unfold f_L_countHolders
  refine k_bind (s_T_countParts ht _) ?_
  rintro r ⟨m, hm, rfl⟩
  refine k_some ?_
  split
  · exact ⟨m, hm, rfl⟩
  · exact ⟨1, by omega, rfl⟩
theorem s_L_find_41 (h : kL σ n g d) (x1 x2 : Int32) {m : Nat} (hm : m ≤ 90) : ∀ (f i : Nat), i ≤ m → m < f + i → k_ok (f_L_find_41 f σ x1 x2 (nI m) (nI i)) (fun _ => True) := by
  obtain ⟨t, ht⟩ := h.2.2.2
  intro f
  induction f with
  | zero => intro i h1 h2; omega
  | succ f ih =>
    intro i h1 h2
    rw [f_L_find_41]
    unfold f_L_find_41_s
    refine k_if (fun _ => k_some trivial) (fun h3 => ?_)
    rw [nI_leI (by omega) (by omega)] at h3
    have hk : k_ok (f_L_find_41 f σ x1 x2 (nI m) (nI i + 1)) (fun _ => True) := by
      rw [nI_1]
      exact ih (i + 1) (by omega) (by omega)
    have k75 : ∀ y : Int32, k_ok (f_L_find_75 (f_L_find_41 f) σ x1 x2 (nI m) (nI i) y) (fun _ => True) := by
      intro y
      unfold f_L_find_75
      refine k_bind (s_T_classOf ht _) ?_
      intro r5 _
      refine k_bind (s_T_argumentAt ht _) ?_
      intro r6 _
      refine k_bind (s_C_climb h.2.2.1 _ _ _) ?_
      intro r7 _
      exact k_if (fun _ => hk) (fun _ => k_some trivial)
    refine k_bind (s_T_kindOf ht _) ?_
    intro r3 _
    refine k_if (fun _ => k75 _) (fun _ => ?_)
    refine k_bind (s_T_partOf ht _ _) ?_
    intro r4 _
    exact k75 _
theorem s_L_find (h : kL σ n g d) (x1 x2 : Int32) : k_ok (f_L_find σ x1 x2) (fun _ => True) := by
  obtain ⟨t, ht⟩ := h.2.2.2
  unfold f_L_find f_L_find_26
  refine k_bind (s_T_kindOf ht _) ?_
  intro r1 _
  refine k_if (fun _ => ?_) (fun _ => ?_)
  · exact k_if (fun _ => k_some trivial) (fun _ => k_if (fun _ => k_some trivial) (fun _ => k_if (fun _ => k_some trivial) (fun _ => k_some trivial)))
  · refine k_bind (s_L_countHolders h _) ?_
    rintro r2 ⟨m, hm, rfl⟩
    exact s_L_find_41 h x1 x2 hm 1000 0 (by omega) (by omega)
end
/-! BELOW -/
section
variable {n g d : Nat}
/-- the recursion's own call: safe at every level below L -/
def kRec (n g d : Nat) (rec : StL → Int32 → Int32 → Int32 → Option (Int32 × StL)) (L : Int) : Prop :=
  ∀ (σ : StL) (a b x : Int32), kL σ n g d → 0 ≤ x.toInt → x.toInt < L → k_ok (rec σ a b x) (fun r => kL r.2 n g d ∧ T_parts (L_types r.2) = T_parts (L_types σ) ∧ (r.1 = 0 ∨ r.1 = 1))
theorem s_L_liesBelowParts_13 {rec : StL → Int32 → Int32 → Int32 → Option (Int32 × StL)} {L : Int} (hr : kRec n g d rec L) (x1 x2 : Int32) {x3 : Int32} (h0 : 0 ≤ x3.toInt) (h3 : x3.toInt < L) {m : Nat} (hm : m ≤ 90) :
    ∀ (f i : Nat) (σ : StL), kL σ n g d → i ≤ m → m < f + i → k_ok (f_L_liesBelowParts_13 rec f σ x1 x2 x3 (nI m) (nI i)) (fun r => kL r.2 n g d ∧ T_parts (L_types r.2) = T_parts (L_types σ) ∧ (r.1 = 0 ∨ r.1 = 1)) := by
  intro f
  induction f with
  | zero => intro i σ _ h1 h2; omega
  | succ f ih =>
    intro i σ h h1 h2
    obtain ⟨t, ht⟩ := h.2.2.2
    rw [f_L_liesBelowParts_13]
    unfold f_L_liesBelowParts_13_s
    refine k_if (fun _ => k_some ⟨h, rfl, Or.inr rfl⟩) (fun h4 => ?_)
    rw [nI_leI (by omega) (by omega)] at h4
    refine k_bind (s_T_partOf ht _ _) ?_
    intro r2 _
    refine k_bind (hr _ _ _ _ h h0 h3) ?_
    rintro ⟨v, τ⟩ ⟨hτ, hp, _⟩
    refine k_if (fun _ => k_some ⟨hτ, hp, Or.inl rfl⟩) (fun _ => ?_)
    rw [nI_1]
    refine k_mono (ih (i + 1) τ hτ (by omega) (by omega)) ?_
    rintro r ⟨q1, q2, q3⟩
    exact ⟨q1, q2.trans hp, q3⟩
theorem s_L_hasFittingPart_30 {rec : StL → Int32 → Int32 → Int32 → Option (Int32 × StL)} {L : Int} (hr : kRec n g d rec L) (x1 x4 x5 : Int32) {x3 : Int32} (h0 : 0 ≤ x3.toInt) (h3 : x3.toInt < L) {m : Nat} (hm : m ≤ 90) :
    ∀ (f i : Nat) (σ : StL), kL σ n g d → i ≤ m → m < f + i → k_ok (f_L_hasFittingPart_30 rec f σ x1 x3 x4 x5 (nI m) (nI i)) (fun r => kL r.2 n g d ∧ T_parts (L_types r.2) = T_parts (L_types σ) ∧ (r.1 = 0 ∨ r.1 = 1)) := by
  intro f
  induction f with
  | zero => intro i σ _ h1 h2; omega
  | succ f ih =>
    intro i σ h h1 h2
    obtain ⟨t, ht⟩ := h.2.2.2
    rw [f_L_hasFittingPart_30]
    unfold f_L_hasFittingPart_30_s
    refine k_if (fun _ => k_some ⟨h, rfl, Or.inl rfl⟩) (fun h4 => ?_)
    rw [nI_leI (by omega) (by omega)] at h4
    have hk : ∀ τ : StL, kL τ n g d → T_parts (L_types τ) = T_parts (L_types σ) → k_ok (f_L_hasFittingPart_30 rec f τ x1 x3 x4 x5 (nI m) (nI i + 1)) (fun r => kL r.2 n g d ∧ T_parts (L_types r.2) = T_parts (L_types σ) ∧ (r.1 = 0 ∨ r.1 = 1)) := by
      intro τ hτ hp
      rw [nI_1]
      refine k_mono (ih (i + 1) τ hτ (by omega) (by omega)) ?_
      rintro r ⟨q1, q2, q3⟩
      exact ⟨q1, q2.trans hp, q3⟩
    have k63 : ∀ y : Int32, k_ok (f_L_hasFittingPart_63 rec (f_L_hasFittingPart_30 rec f) σ x1 x3 x4 x5 (nI m) (nI i) y) (fun r => kL r.2 n g d ∧ T_parts (L_types r.2) = T_parts (L_types σ) ∧ (r.1 = 0 ∨ r.1 = 1)) := by
      intro y
      unfold f_L_hasFittingPart_63
      refine k_bind (s_L_find h _ _) ?_
      intro r6 _
      refine k_if (fun _ => hk σ h rfl) (fun _ => ?_)
      refine k_if (fun _ => k_some ⟨h, rfl, Or.inr rfl⟩) (fun _ => ?_)
      refine k_if (fun _ => ?_) (fun _ => hk σ h rfl)
      refine k_bind (hr _ _ _ _ h h0 h3) ?_
      rintro ⟨v, τ⟩ ⟨hτ, hp, _⟩
      exact k_if (fun _ => hk τ hτ hp) (fun _ => k_some ⟨hτ, hp, Or.inr rfl⟩)
    refine k_bind (s_T_countParts ht _) ?_
    intro r4 _
    refine k_if (fun _ => k63 _) (fun _ => ?_)
    refine k_bind (s_T_partOf ht _ _) ?_
    intro r5 _
    exact k63 _
theorem k_and1 {x : Int32} (h : x = 0 ∨ x = 1) : x &&& 1 = 0 ∨ x &&& 1 = 1 := by
  rcases h with rfl | rfl
  · exact Or.inl (by decide)
  · exact Or.inr (by decide)
theorem s_L_liesBelow : ∀ f : Nat, kRec n g d (f_L_liesBelow f) f := by
  intro f
  induction f with
  | zero =>
    intro σ a b x h h0 hx
    omega
  | succ f ih =>
    intro σ a b x h h0 hx
    obtain ⟨t, ht⟩ := h.2.2.2
    rw [f_L_liesBelow]
    unfold f_L_liesBelow_s
    have k159 : ∀ (τ : StL) (y : Int32), kL τ n g d → T_parts (L_types τ) = T_parts (L_types σ) → (y = 0 ∨ y = 1) → k_ok (f_L_liesBelow_159 (f_L_liesBelow f) τ a b y) (fun r => kL r.2 n g d ∧ T_parts (L_types r.2) = T_parts (L_types σ) ∧ (r.1 = 0 ∨ r.1 = 1)) := by
      intro τ y hτ hp hy
      unfold f_L_liesBelow_159
      refine k_bind (s_A_keep _ _ _ _) ?_
      intro r _
      exact k_some ⟨kL_answers hτ _, hp, k_and1 hy⟩
    refine k_if (fun _ => k_some ⟨h, rfl, Or.inr rfl⟩) (fun _ => ?_)
    refine k_if (fun hpos => ?_) (fun _ => k_some ⟨h, rfl, Or.inl rfl⟩)
    have hx1 : 0 ≤ (x - 1).toInt ∧ (x - 1).toInt < (f : Int) := by
      rw [Int32.lt_iff_toInt_lt] at hpos
      have e0 : (0 : Int32).toInt = 0 := by decide
      have e1 : (1 : Int32).toInt = 1 := by decide
      have e2 := Int32.toInt_lt x
      rw [Int32.toInt_sub, e1, Int.bmod_eq_of_le (by omega) (by omega)]
      omega
    refine k_bind (s_A_read _ _ _) ?_
    intro r1 _
    refine k_if (fun _ => ?_) (fun _ => k_if (fun _ => k_some ⟨h, rfl, Or.inr rfl⟩) (fun _ => k_some ⟨h, rfl, Or.inl rfl⟩))
    refine k_bind (s_T_kindOf ht _) ?_
    intro r2 _
    refine k_if (fun _ => ?_) (fun _ => k_if (fun _ => ?_) (fun _ => k_if (fun _ => ?_) (fun _ => k159 σ 0 h rfl (Or.inl rfl))))
    · refine k_bind (P := fun r => kL r.2 n g d ∧ T_parts (L_types r.2) = T_parts (L_types σ) ∧ (r.1 = 0 ∨ r.1 = 1)) ?_ ?_
      · unfold f_L_hasFittingPart
        refine k_bind (s_T_classOf ht _) ?_
        intro q1 _
        refine k_bind (s_T_argumentAt ht _) ?_
        intro q2 _
        refine k_bind (s_L_countHolders h _) ?_
        rintro q3 ⟨m, hm, rfl⟩
        exact s_L_hasFittingPart_30 ih _ _ _ hx1.1 hx1.2 hm 1000 0 σ h (by omega) (by omega)
      · rintro ⟨v, τ⟩ ⟨hτ, hp, hv⟩
        exact k159 τ v hτ hp hv
    · refine k_bind (s_L_isArrayOfOthers h _) ?_
      intro r5 _
      refine k_if (fun _ => k159 σ 0 h rfl (Or.inl rfl)) (fun _ => ?_)
      refine k_bind (s_L_isArrayOfOthers h _) ?_
      intro r6 _
      refine k_if (fun _ => k159 σ 0 h rfl (Or.inl rfl)) (fun _ => ?_)
      refine k_bind (s_T_elementOf ht _) ?_
      intro r7 _
      refine k_bind (s_T_elementOf ht _) ?_
      intro r8 _
      refine k_bind (ih σ _ _ _ h hx1.1 hx1.2) ?_
      rintro ⟨v, τ⟩ ⟨hτ, hp, hv⟩
      exact k_if (fun _ => k159 τ 0 hτ hp (Or.inl rfl)) (fun _ => k159 τ 1 hτ hp (Or.inr rfl))
    · refine k_bind (P := fun r => kL r.2 n g d ∧ T_parts (L_types r.2) = T_parts (L_types σ) ∧ (r.1 = 0 ∨ r.1 = 1)) ?_ ?_
      · unfold f_L_liesBelowParts
        refine k_bind (s_T_countParts ht _) ?_
        rintro q1 ⟨m, hm, rfl⟩
        exact s_L_liesBelowParts_13 ih _ _ hx1.1 hx1.2 hm 1000 0 σ h (by omega) (by omega)
      · rintro ⟨v, τ⟩ ⟨hτ, hp, hv⟩
        exact k159 τ v hτ hp hv
end
