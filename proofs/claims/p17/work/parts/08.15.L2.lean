/-! THE UPPER BOUND of the class -/
section
variable {n g d : Nat}
def kUp (n g d : Nat) (rec : StL → Int32 → Int32 → Int32 → Option ((Int32 ⊕ Nat) × StL × Nat × Nat)) (L : Nat) : Prop :=
  ∀ (σ : StL) (a b : Int32) (k : Nat), kL σ n g d → k < L → k_ok (rec σ a b (nI k)) (kP σ n g d)
theorem kG_trans {σ τ ρ : StT} {K N K' N' : Nat} (h1 : kG σ τ K N) (h2 : kG τ ρ K' N') : kG σ ρ (K' + K) (N' + N) := by
  unfold kG at *; omega
theorem kP_mono {σ τ : StL} {K N : Nat} {r : (Int32 ⊕ Nat) × StL × Nat × Nat} (hG : kG (L_types σ) (L_types τ) K N) (h : kP τ n g d r) : kP σ n g d (r.1, r.2.1, r.2.2.1 + K, r.2.2.2 + N) :=
  ⟨h.1, h.2.1, kG_trans hG h.2.2⟩
theorem s_L_boundArgument {rec : StL → Int32 → Int32 → Int32 → Option ((Int32 ⊕ Nat) × StL × Nat × Nat)} {k : Nat} (hk2 : k ≤ 2) (hr : kUp n g d rec k) {σ : StL} (h : kL σ n g d) (x1 x2 : Int32) : k_ok (f_L_boundArgument rec σ x1 x2 (nI k)) (kP σ n g d) := by
  obtain ⟨t, ht⟩ := h.2.2.2
  have k46 : ∀ (τ : StL) (y : Int32), kL τ n g d → kG (L_types σ) (L_types τ) 0 0 → k_ok (f_L_boundArgument_46 rec τ y) (kP σ n g d) := by
    intro τ y hτ hG
    unfold f_L_boundArgument_46
    exact k_if (fun _ => k_some ⟨⟨_, rfl⟩, hτ, hG⟩) (fun _ => k_some ⟨⟨_, rfl⟩, hτ, hG⟩)
  have k15 : k_ok (f_L_boundArgument_15 rec σ x1 x2 (nI k)) (kP σ n g d) := by
    unfold f_L_boundArgument_15
    refine k_if (fun _ => ?_) (fun h0 => ?_)
    · refine k_bind (s_T_makeNamed ht _ _) ?_
      rintro ⟨v, τ⟩ ⟨hk, hp⟩
      exact k46 _ _ (kL_types h hk) (kG_eq hp)
    · have hk0 : 0 < k := by
        rcases Nat.eq_zero_or_pos k with e | e
        · subst e; exact absurd rfl h0
        · exact e
      have e1 : nI k - 1 = nI (k - 1) := k_sub (b := 1) (by omega)
      rw [e1]
      refine k_bind (hr σ _ _ (k - 1) h (by omega)) ?_
      rintro ⟨v, τ, K, N⟩ ⟨⟨w, e⟩, hτ, hG⟩
      replace e : v = .inl w := e
      subst e
      refine k_ad ?_
      have k46' : k_ok (f_L_boundArgument_46 rec τ w) (kP τ n g d) := by
        unfold f_L_boundArgument_46
        exact k_if (fun _ => k_some ⟨⟨_, rfl⟩, hτ, kG_refl⟩) (fun _ => k_some ⟨⟨_, rfl⟩, hτ, kG_refl⟩)
      exact k_mono k46' (fun r hr => kP_mono hG hr)
  unfold f_L_boundArgument
  refine k_if (fun _ => ?_) (fun _ => k15)
  exact k_if (fun _ => k15) (fun _ => k_some ⟨⟨_, rfl⟩, h, kG_refl⟩)
theorem s_L_boundByClasses_38 {rec : StL → Int32 → Int32 → Int32 → Option ((Int32 ⊕ Nat) × StL × Nat × Nat)} {k : Nat} (hk2 : k ≤ 2) (hr : kUp n g d rec k) (x1 x2 x4 : Int32) :
    ∀ (f i p : Nat) (σ : StL), kL σ n g d → i ≤ 30 → p ≤ i → 30 < f + i → k_ok (f_L_boundByClasses_38 rec f σ x1 x2 (nI k) x4 (nI (k * 30)) (nI p) (nI i)) (kP σ n g d) := by
  intro f
  induction f with
  | zero => intro i p σ _ h1 h2 h3; omega
  | succ f ih =>
    intro i p σ h h1 h2 h3
    obtain ⟨t, ht⟩ := h.2.2.2
    rw [f_L_boundByClasses_38]
    unfold f_L_boundByClasses_38_s
    refine k_if (fun _ => ?_) (fun h4 => ?_)
    · refine k_bind (s_T_makeIntersection ht (a := k * 30) (by omega) (90, L_row σ) rfl _) ?_
      rintro ⟨v, τ, K, N⟩ ⟨⟨w, e⟩, hτ, hG⟩
      replace e : v = .inl w := e
      subst e
      refine k_ad (k_some ⟨⟨_, rfl⟩, kL_types h hτ, ?_⟩)
      have hG' : kG (L_types σ) τ K N := hG
      show kG (L_types σ) τ (0 + K) (0 + N)
      rw [Nat.zero_add, Nat.zero_add]; exact hG'
    · have h5 : ¬ nI 30 ≤ nI i := h4
      rw [nI_leI (by decide) (by omega)] at h5
      refine k_if (fun _ => ?_) (fun _ => ?_)
      · rw [nI_1]
        exact ih (i + 1) p σ h (by omega) (by omega) (by omega)
      · refine k_bind (s_L_find h _ _) ?_
        intro r4 _
        refine k_bind (s_L_find h _ _) ?_
        intro r5 _
        refine k_bind (s_L_boundArgument hk2 hr h _ _) ?_
        rintro ⟨v, τ, K, N⟩ ⟨⟨w, e⟩, hτ, hG⟩
        replace e : v = .inl w := e
        subst e
        refine k_ad ?_
        replace hτ : kL τ n g d := hτ
        replace hG : kG (L_types σ) (L_types τ) K N := hG
        obtain ⟨t2, ht2⟩ := hτ.2.2.2
        refine k_bind (s_T_makeNamed ht2 _ _) ?_
        rintro ⟨v, ρ⟩ ⟨hρ, hp⟩
        replace hρ : ∃ t', kT ρ t' := hρ
        replace hp : T_parts ρ = T_parts (L_types τ) := hp
        have hG2 : kG (L_types σ) ρ K N := by unfold kG at hG ⊢; rw [hp]; exact hG
        refine k_if (fun _ => k_some ?_) (fun _ => ?_)
        · refine ⟨⟨_, rfl⟩, kL_types hτ hρ, ?_⟩
          show kG (L_types σ) ρ (0 + K) (0 + N)
          rw [Nat.zero_add, Nat.zero_add]; exact hG2
        · rw [nI_add]
          refine k_guard (nI_in (by omega) (by decide)) ?_
          rw [nI_1, nI_1]
          have hL : kL (L_put_row (L_set_types τ ρ) (nI (k * 30 + p)) v) n g d := kL_types hτ hρ
          refine k_mono (ih (i + 1) (p + 1) _ hL (by omega) (by omega) (by omega)) ?_
          intro r hr
          exact kP_mono (τ := L_put_row (L_set_types τ ρ) (nI (k * 30 + p)) v) hG2 hr
theorem s_L_boundByClasses {rec : StL → Int32 → Int32 → Int32 → Option ((Int32 ⊕ Nat) × StL × Nat × Nat)} {k : Nat} (hk2 : k ≤ 2) (hr : kUp n g d rec k) {σ : StL} (h : kL σ n g d) (x1 x2 : Int32) : k_ok (f_L_boundByClasses rec σ x1 x2 (nI k)) (kP σ n g d) := by
  unfold f_L_boundByClasses
  refine k_if (fun _ => k_some ⟨⟨_, rfl⟩, h, kG_refl⟩) (fun _ => ?_)
  refine k_if (fun _ => ?_) (fun _ => k_some ⟨⟨_, rfl⟩, h, kG_refl⟩)
  refine k_bind (s_L_commonOf h _ _) ?_
  intro r1 _
  refine k_bind (s_C_leastOf h.2.2.1 _) ?_
  intro r2 _
  have e : nI k * 30 = nI (k * 30) := k_mul k 30
  rw [e]
  exact s_L_boundByClasses_38 hk2 hr x1 x2 r2 1000 0 0 σ h (by omega) (by omega) (by omega)
theorem s_L_upperBound_95 (rec : StL → Int32 → Int32 → Int32 → Option ((Int32 ⊕ Nat) × StL × Nat × Nat)) {m : Nat} (hm : m ≤ 100) : ∀ (f i : Nat) (σ : StL) (x7 : Int32), kL σ n g d → i ≤ m → m < f + i → k_ok (f_L_upperBound_95 rec f σ (nI m) x7 (nI i)) (kP σ n g d) := by
  intro f
  induction f with
  | zero => intro i σ _ _ h1 h2; omega
  | succ f ih =>
    intro i σ x7 h h1 h2
    obtain ⟨t, ht⟩ := h.2.2.2
    rw [f_L_upperBound_95]
    unfold f_L_upperBound_95_s
    refine k_if (fun _ => k_some ⟨⟨_, rfl⟩, h, kG_refl⟩) (fun h3 => ?_)
    rw [nI_leI (by omega) (by omega)] at h3
    refine k_if (fun _ => k_some ⟨⟨_, rfl⟩, h, kG_refl⟩) (fun _ => ?_)
    refine k_bind (s_T_makeArray ht _) ?_
    rintro ⟨v, ρ⟩ ⟨hρ, hp⟩
    rw [nI_1]
    refine k_mono (ih (i + 1) (L_set_types σ ρ) v (kL_types h hρ) (by omega) (by omega)) ?_
    intro r hr
    have hG : kG (L_types σ) (L_types (L_set_types σ ρ)) 0 0 := kG_eq hp
    exact kP_mono hG hr
theorem s_L_upperBound_9 {rec : StL → Int32 → Int32 → Int32 → Option ((Int32 ⊕ Nat) × StL × Nat × Nat)} {k : Nat} (hk2 : k ≤ 2) (hr : kUp n g d rec k) {σ : StL} (h : kL σ n g d) : ∀ (f i : Nat) (x4 x5 : Int32), i ≤ 100 → 100 < f + i → k_ok (f_L_upperBound_9 rec f σ (nI k) x4 x5 (nI i)) (kP σ n g d) := by
  obtain ⟨t, ht⟩ := h.2.2.2
  have k69 : ∀ (i : Nat) (x4 x5 : Int32), i ≤ 100 → k_ok (f_L_upperBound_69 rec σ (nI k) x4 x5 (nI i)) (kP σ n g d) := by
    intro i x4 x5 hi
    unfold f_L_upperBound_69
    refine k_if (fun _ => s_L_upperBound_95 rec hi 1000 0 σ _ h (by omega) (by omega)) (fun _ => ?_)
    refine k_bind (s_L_boundByClasses hk2 hr h _ _) ?_
    rintro ⟨v, τ, K, N⟩ ⟨⟨w, e⟩, hτ, hG⟩
    replace e : v = .inl w := e
    subst e
    refine k_ad (k_mono (s_L_upperBound_95 rec hi 1000 0 τ _ hτ (by omega) (by omega)) ?_)
    intro r hr
    exact kP_mono hG hr
  intro f
  induction f with
  | zero => intro i _ _ h1 h2; omega
  | succ f ih =>
    intro i x4 x5 h1 h2
    rw [f_L_upperBound_9]
    unfold f_L_upperBound_9_s
    refine k_if (fun _ => k69 i _ _ h1) (fun h3 => ?_)
    have h4 : ¬ nI 100 ≤ nI i := h3
    rw [nI_leI (by decide) (by omega)] at h4
    refine k_if (fun _ => k69 i _ _ h1) (fun _ => ?_)
    refine k_bind (s_L_isArrayOfOthers h _) ?_
    intro r3 _
    refine k_if (fun _ => k69 i _ _ h1) (fun _ => ?_)
    refine k_bind (s_L_isArrayOfOthers h _) ?_
    intro r4 _
    refine k_if (fun _ => k69 i _ _ h1) (fun _ => ?_)
    refine k_bind (s_T_elementOf ht _) ?_
    intro r5 _
    refine k_bind (s_T_elementOf ht _) ?_
    intro r6 _
    rw [nI_1]
    exact ih (i + 1) _ _ (by omega) (by omega)
theorem s_L_upperBound : ∀ f : Nat, f ≤ 3 → kUp n g d (f_L_upperBound f) f := by
  intro f
  induction f with
  | zero => intro _ σ a b k _ hk; omega
  | succ f ih =>
    intro hf σ a b k h hk
    rw [f_L_upperBound]
    unfold f_L_upperBound_s
    have hr : kUp n g d (f_L_upperBound f) k := by
      intro τ a b j hτ hj
      exact ih (by omega) τ a b j hτ (by omega)
    exact s_L_upperBound_9 (by omega) hr h 1000 0 a b (by omega) (by omega)
end
/-! THE LOWER BOUND of the class -/
section
variable {n g d : Nat}
def kS (σ : StL) (n g d : Nat) (r : Int32 × StL) : Prop := kL r.2 n g d ∧ T_parts (L_types r.2) = T_parts (L_types σ)
theorem kS_trans {σ τ : StL} {r : Int32 × StL} (hp : T_parts (L_types τ) = T_parts (L_types σ)) (h : kS τ n g d r) : kS σ n g d r := ⟨h.1, h.2.trans hp⟩
theorem s_L_gatherParts_75 (x2 : Int32) {p m : Nat} (hp : p ≤ 30) (hm : m ≤ 30) : ∀ (f i : Nat) (σ : StL), kL σ n g d → i ≤ m → m < f + i → k_ok (f_L_gatherParts_75 f σ x2 (nI p) (nI m) (nI i)) (fun r => kS σ n g d r ∧ ∃ c, c ≤ 60 ∧ r.1 = nI c) := by
  intro f
  induction f with
  | zero => intro i σ _ h1 h2; omega
  | succ f ih =>
    intro i σ h h1 h2
    obtain ⟨t, ht⟩ := h.2.2.2
    rw [f_L_gatherParts_75]
    unfold f_L_gatherParts_75_s
    refine k_if (fun _ => k_some ⟨⟨h, rfl⟩, ⟨p + m, by omega, nI_add p m⟩⟩) (fun h3 => ?_)
    rw [nI_leI (by omega) (by omega)] at h3
    refine k_bind (s_T_partOf ht _ _) ?_
    intro r3 _
    rw [nI_add]
    refine k_guard (nI_in (by omega) (by decide)) ?_
    rw [nI_1]
    have hL : kL (L_put_gathered σ (nI (p + i)) r3) n g d := h
    exact ih (i + 1) _ hL (by omega) (by omega)
theorem s_L_gatherParts_43 (x1 x2 : Int32) {p m : Nat} (hp : p ≤ 30) (hm : m ≤ 30) : ∀ (f i : Nat) (σ : StL), kL σ n g d → i ≤ p → p < f + i → k_ok (f_L_gatherParts_43 f σ x1 x2 (nI p) (nI m) (nI i)) (fun r => kS σ n g d r ∧ ∃ c, c ≤ 60 ∧ r.1 = nI c) := by
  intro f
  induction f with
  | zero => intro i σ _ h1 h2; omega
  | succ f ih =>
    intro i σ h h1 h2
    obtain ⟨t, ht⟩ := h.2.2.2
    rw [f_L_gatherParts_43]
    unfold f_L_gatherParts_43_s
    refine k_if (fun _ => s_L_gatherParts_75 x2 hp hm 1000 0 σ h (by omega) (by omega)) (fun h3 => ?_)
    rw [nI_leI (by omega) (by omega)] at h3
    refine k_bind (s_T_partOf ht _ _) ?_
    intro r3 _
    refine k_guard (nI_in (by omega) (by decide)) ?_
    rw [nI_1]
    have hL : kL (L_put_gathered σ (nI i) r3) n g d := h
    exact ih (i + 1) _ hL (by omega) (by omega)
theorem k_min30 {r : Int32} (h : ∃ m, m ≤ 90 ∧ r = nI m) : ∃ m, m ≤ 30 ∧ (if r < 30 then r else 30) = nI m := by
  obtain ⟨m, hm, rfl⟩ := h
  split
  · rename_i h1
    have h2 : nI m < nI 30 := h1
    rw [nI_ltI (by omega) (by decide)] at h2
    exact ⟨m, by omega, rfl⟩
  · exact ⟨30, by omega, rfl⟩
theorem s_L_gatherParts {σ : StL} (h : kL σ n g d) (x1 x2 : Int32) : k_ok (f_L_gatherParts σ x1 x2) (fun r => kS σ n g d r ∧ ∃ c, c ≤ 60 ∧ r.1 = nI c) := by
  obtain ⟨t, ht⟩ := h.2.2.2
  unfold f_L_gatherParts
  refine k_bind (s_T_countParts ht _) ?_
  intro r1 h1
  refine k_bind (s_T_countParts ht _) ?_
  intro r2 h2
  obtain ⟨a, ha, ea⟩ := k_min30 h1
  obtain ⟨b, hb, eb⟩ := k_min30 h2
  rw [ea, eb]
  refine k_if (fun _ => k_some ⟨⟨h, rfl⟩, ⟨0, by omega, rfl⟩⟩) (fun _ => ?_)
  refine k_if (fun _ => k_some ⟨⟨h, rfl⟩, ⟨0, by omega, rfl⟩⟩) (fun _ => ?_)
  exact s_L_gatherParts_43 x1 x2 ha hb 1000 0 σ h (by omega) (by omega)
theorem s_L_below100 {σ : StL} (h : kL σ n g d) (a b : Int32) : k_ok (f_L_liesBelow 101 σ a b 100) (fun r => kS σ n g d r ∧ (r.1 = 0 ∨ r.1 = 1)) := by
  have e : (100 : Int32).toInt = 100 := by decide
  refine k_mono (s_L_liesBelow 101 σ a b 100 h (by rw [e]; decide) (by rw [e]; decide)) ?_
  rintro r ⟨h1, h2, h3⟩
  exact ⟨⟨h1, h2⟩, h3⟩
theorem s_L_dropNeedless_4 {m : Nat} (hm : m ≤ 60) : ∀ (f i p : Nat) (σ : StL), kL σ n g d → i ≤ m → p ≤ i → m < f + i → k_ok (f_L_dropNeedless_4 f σ (nI m) (nI p) (nI i)) (fun r => kS σ n g d r ∧ ∃ c, c ≤ 60 ∧ r.1 = nI c) := by
  intro f
  induction f with
  | zero => intro i p σ _ h1 h2 h3; omega
  | succ f ih =>
    intro i p σ h h1 h2 h3
    rw [f_L_dropNeedless_4]
    unfold f_L_dropNeedless_4_s
    refine k_if (fun _ => ?_) (fun h4 => ?_)
    · have z : (0 : Int32).toNatClampNeg = 0 := by decide
      rw [z, nI_clamp (by omega)]
      refine k_guard ?_ (k_some ⟨⟨h, rfl⟩, ⟨p, by omega, rfl⟩⟩)
      have q1 : ¬ (0 : Int32) < 0 := by decide
      have q2 : ¬ nI p < 0 := nI_pos (by omega)
      rintro (q | q | q | q | q)
      · exact q1 q
      · exact q1 q
      · exact q2 q
      · omega
      · omega
    · rw [nI_leI (by omega) (by omega)] at h4
      refine k_guard (nI_in (by omega) (by decide)) ?_
      have inner : ∀ (f2 j : Nat) (τ : StL) (y : Int32), kL τ n g d → T_parts (L_types τ) = T_parts (L_types σ) → j ≤ m → m < f2 + j → k_ok (f_L_dropNeedless_20 (f_L_dropNeedless_4 f) f2 τ (nI m) (nI p) (nI i) y (nI j)) (fun r => kS σ n g d r ∧ ∃ c, c ≤ 60 ∧ r.1 = nI c) := by
        intro f2
        induction f2 with
        | zero => intro j τ y _ _ h5 h6; omega
        | succ f2 ih2 =>
          intro j τ y hτ hp h5 h6
          rw [f_L_dropNeedless_20]
          unfold f_L_dropNeedless_20_s
          have next : ∀ (ρ : StL) (p' : Nat), kL ρ n g d → T_parts (L_types ρ) = T_parts (L_types σ) → p' ≤ i + 1 → k_ok (f_L_dropNeedless_4 f ρ (nI m) (nI p') (nI i + 1)) (fun r => kS σ n g d r ∧ ∃ c, c ≤ 60 ∧ r.1 = nI c) := by
            intro ρ p' hρ hpρ hp'
            rw [nI_1]
            refine k_mono (ih (i + 1) p' ρ hρ (by omega) hp' (by omega)) ?_
            rintro r ⟨q1, q2⟩
            exact ⟨kS_trans hpρ q1, q2⟩
          refine k_if (fun _ => ?_) (fun h7 => ?_)
          · refine k_guard (nI_in (by omega) (by decide)) ?_
            rw [nI_1 p]
            have hL : kL (L_put_row τ (nI p) y) n g d := hτ
            exact next _ (p + 1) hL hp (by omega)
          · rw [nI_leI (by omega) (by omega)] at h7
            refine k_guard (nI_in (by omega) (by decide)) ?_
            have go20 : ∀ ρ : StL, kL ρ n g d → T_parts (L_types ρ) = T_parts (L_types σ) → k_ok (f_L_dropNeedless_20 (f_L_dropNeedless_4 f) f2 ρ (nI m) (nI p) (nI i) y (nI j + 1)) (fun r => kS σ n g d r ∧ ∃ c, c ≤ 60 ∧ r.1 = nI c) := by
              intro ρ hρ hpρ
              rw [nI_1]
              exact ih2 (j + 1) ρ y hρ hpρ (by omega) (by omega)
            refine k_if (fun _ => k_if (fun _ => go20 τ hτ hp) (fun _ => next τ p hτ hp (by omega))) (fun _ => ?_)
            refine k_bind (s_L_below100 hτ _ _) ?_
            rintro ⟨v, ρ⟩ ⟨⟨hρ, hpρ⟩, _⟩
            exact k_if (fun _ => go20 ρ hρ (hpρ.trans hp)) (fun _ => next ρ p hρ (hpρ.trans hp) (by omega))
      exact inner 1000 0 σ _ h rfl (by omega) (by omega)
theorem s_L_closeRow_4 : ∀ (f i p : Nat) (σ : StL), kL σ n g d → i ≤ 30 → p ≤ i → 30 < f + i → k_ok (f_L_closeRow_4 f σ (nI p) (nI i)) (fun r => kS σ n g d r) := by
  intro f
  induction f with
  | zero => intro i p σ _ h1 h2 h3; omega
  | succ f ih =>
    intro i p σ h h1 h2 h3
    rw [f_L_closeRow_4]
    unfold f_L_closeRow_4_s
    refine k_if (fun _ => k_some ⟨h, rfl⟩) (fun h4 => ?_)
    have h5 : ¬ nI 30 ≤ nI i := h4
    rw [nI_leI (by decide) (by omega)] at h5
    have hi : ¬ (nI i < 0 ∨ 90 ≤ (nI i).toNatClampNeg) := nI_in (by omega) (by decide)
    refine k_guard hi (k_if (fun _ => ?_) (fun _ => ?_))
    · rw [nI_1]; exact ih (i + 1) p σ h (by omega) (by omega) (by omega)
    · refine k_guard hi (k_guard (nI_in (by omega) (by decide)) ?_)
      rw [nI_1, nI_1]
      have hL : kL (L_put_row σ (nI p) ((L_row σ) (nI i).toNatClampNeg)) n g d := h
      exact ih (i + 1) (p + 1) _ hL (by omega) (by omega) (by omega)
theorem s_L_orderByClass_12 {m : Nat} (hm : m ≤ 60) : ∀ (f i : Nat) (x2 : Int32) (σ : StL), kL σ n g d → i ≤ m → m < f + i → k_ok (f_L_orderByClass_12 f σ (nI m) x2 (nI i)) (fun r => kS σ n g d r) := by
  intro f
  induction f with
  | zero => intro i x2 σ _ h1 h2; omega
  | succ f ih =>
    intro i x2 σ h h1 h2
    obtain ⟨t, ht⟩ := h.2.2.2
    rw [f_L_orderByClass_12]
    unfold f_L_orderByClass_12_s
    refine k_if (fun _ => ?_) (fun h3 => ?_)
    · refine k_if (fun _ => ?_) (fun _ => k_some ⟨h, rfl⟩)
      refine k_bind (P := fun r => kS σ n g d r) ?_ ?_
      · exact s_L_closeRow_4 1000 0 0 σ h (by omega) (by omega) (by omega)
      · intro r hr
        exact k_some hr
    · rw [nI_leI (by omega) (by omega)] at h3
      have hi : ¬ (nI i < 0 ∨ 60 ≤ (nI i).toNatClampNeg) := nI_in (by omega) (by decide)
      refine k_guard hi ?_
      refine k_bind (s_T_classOf ht _) ?_
      intro r2 _
      refine k_if (fun _ => k_some ⟨h, rfl⟩) (fun h4 => ?_)
      obtain ⟨c, hc, rfl⟩ := nI_of h4
      refine k_if (fun _ => k_some ⟨h, rfl⟩) (fun h5 => ?_)
      have h6 : ¬ nI 30 ≤ nI c := h5
      rw [nI_leI (by decide) hc] at h6
      have hi2 : ¬ (nI c < 0 ∨ 90 ≤ (nI c).toNatClampNeg) := nI_in (by omega) (by decide)
      refine k_guard hi2 ?_
      refine k_if (fun _ => ?_) (fun _ => k_some ⟨h, rfl⟩)
      have k72 : ∀ y : Int32, k_ok (f_L_orderByClass_72 (f_L_orderByClass_12 f) σ (nI m) y (nI i) (nI c)) (fun r => kS σ n g d r) := by
        intro y
        unfold f_L_orderByClass_72
        refine k_guard hi (k_guard hi2 ?_)
        rw [nI_1]
        have hL : kL (L_put_row σ (nI c) ((L_gathered σ) (nI i).toNatClampNeg)) n g d := h
        exact ih (i + 1) y _ hL (by omega) (by omega)
      refine k_bind (s_C_isFace h.2.2.1 _) ?_
      intro r3 _
      exact k_if (fun _ => k72 _) (fun _ => k72 _)
end
