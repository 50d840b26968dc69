-- part 08.10.base.lean.txt
/-! Tier 2: the functions f_.. alone; nothing of the machine from here on. k_ok o Q: o answers, and Q holds of the answer. -/
def k_ok {α : Type} (o : Option α) (Q : α → Prop) : Prop := ∃ r, o = some r ∧ Q r
theorem k_some {α : Type} {a : α} {Q : α → Prop} (h : Q a) : k_ok (some a) Q := ⟨a, rfl, h⟩
theorem k_guard {α : Type} {c : Prop} [Decidable c] {x : Option α} {Q : α → Prop} (hc : ¬ c) (hx : k_ok x Q) : k_ok (if c then none else x) Q := by
  rw [if_neg hc]; exact hx
theorem k_if {α : Type} {c : Prop} [Decidable c] {x y : Option α} {Q : α → Prop} (h1 : c → k_ok x Q) (h2 : ¬ c → k_ok y Q) : k_ok (if c then x else y) Q := by
  by_cases h : c
  · rw [if_pos h]; exact h1 h
  · rw [if_neg h]; exact h2 h
theorem k_bind {α β : Type} {o : Option α} {f : α → Option β} {P : α → Prop} {Q : β → Prop} (h : k_ok o P) (k : ∀ r, P r → k_ok (f r) Q) : k_ok (o.bind f) Q := by
  obtain ⟨r, rfl, hr⟩ := h
  exact k r hr
theorem k_mono {α : Type} {o : Option α} {P Q : α → Prop} (h : k_ok o P) (k : ∀ r, P r → Q r) : k_ok o Q := by
  obtain ⟨r, e, hr⟩ := h
  exact ⟨r, e, k r hr⟩
theorem k_ad {α β : Type} {c n : Nat} {o : Option (α × β × Nat × Nat)} {Q : α × β × Nat × Nat → Prop} (h : k_ok o (fun r => Q (r.1, r.2.1, r.2.2.1 + c, r.2.2.2 + n))) : k_ok (ad_ c n o) Q := by
  obtain ⟨r, rfl, hr⟩ := h
  exact ⟨_, rfl, hr⟩
theorem k_mul (a b : Nat) : nI a * nI b = nI (a * b) := (Int32.ofNat_mul a b).symm
theorem k_sub {a b : Nat} (h : b ≤ a) : nI a - nI b = nI (a - b) := (Int32.ofNat_sub a b h).symm
theorem k_ix30 {a b : Nat} : nI a * 30 + nI b = nI (a * 30 + b) := by
  show nI a * nI 30 + nI b = _
  rw [k_mul, nI_add]
theorem k_30ix {a b : Nat} : 30 * nI a + nI b = nI (30 * a + b) := by
  show nI 30 * nI a + nI b = _
  rw [k_mul, nI_add]
theorem k_in2 {a b : Nat} (ha : a < 30) (hb : b < 30) : ¬ ((nI a * 30 + nI b) < 0 ∨ 900 ≤ (nI a * 30 + nI b).toNatClampNeg) := by
  rw [k_ix30]; exact nI_in (by omega) (by decide)
theorem k_at2 {a b : Nat} (ha : a < 30) (hb : b < 30) : (nI a * 30 + nI b).toNatClampNeg = a * 30 + b := by
  rw [k_ix30]; exact nI_clamp (by omega)
theorem k_upd {f : Nat → Int32} {k j : Nat} {x : Int32} : upd f k x j = if j = k then x else f j := rfl
theorem k_upds {f : Nat → Int32} {k : Nat} {x : Int32} : upd f k x k = x := by simp [upd]
theorem k_updn {f : Nat → Int32} {k j : Nat} {x : Int32} (h : j ≠ k) : upd f k x j = f j := by simp [upd, h]
theorem k_ne1 {x : Nat} (h : x < 2 ^ 31) : ¬ nI x = -1 := by
  intro q
  have q2 := congrArg Int32.toInt q
  rw [nI_toInt h] at q2
  have e : (-1 : Int32).toInt = -1 := by decide
  omega
theorem k_ne2 {x : Nat} (h : x < 2 ^ 31) : ¬ nI x = -2 := by
  intro q
  have q2 := congrArg Int32.toInt q
  rw [nI_toInt h] at q2
  have e : (-2 : Int32).toInt = -2 := by decide
  omega
-- part 08.11.C.lean.txt
/-! The class's own tables of classes: safe. -/
def kC (σ : StC) (n g : Nat) : Prop := C_count σ = nI n ∧ n ≤ 30 ∧ (∀ c, c < 30 → ∃ d, d ≤ 30 ∧ C_directCounts σ c = nI d) ∧ C_countGeneric σ = nI g ∧ g ≤ n
section
variable {σ : StC} {n g : Nat}
theorem kC_there (h : kC σ n g) {x : Int32} (hx : ¬ f_C_isThere σ x = 0) : ∃ j, j < n ∧ j < 30 ∧ x = nI j := by
  unfold f_C_isThere at hx
  have hn := h.2.1
  split at hx
  · exact absurd rfl hx
  · rename_i h0
    obtain ⟨j, hj, rfl⟩ := nI_of h0
    split at hx
    · exact absurd rfl hx
    · rename_i h1
      rw [h.1, nI_leI (by omega) hj] at h1
      exact ⟨j, by omega, by omega, rfl⟩
theorem s_C_withAbove (h : kC σ n g) (x : Int32) : k_ok (f_C_withAbove σ x) (fun _ => True) := by
  unfold f_C_withAbove
  refine k_if (fun _ => k_some trivial) (fun h1 => ?_)
  obtain ⟨j, hj, h30, rfl⟩ := kC_there h h1
  exact k_guard (nI_in h30 (by decide)) (k_some trivial)
theorem s_C_isFace (h : kC σ n g) (x : Int32) : k_ok (f_C_isFace σ x) (fun _ => True) := by
  unfold f_C_isFace
  refine k_if (fun _ => k_some trivial) (fun h1 => ?_)
  obtain ⟨j, hj, h30, rfl⟩ := kC_there h h1
  exact k_guard (nI_in h30 (by decide)) (k_if (fun _ => k_some trivial) (fun _ => k_some trivial))
theorem s_C_isGeneric (h : kC σ n g) (x : Int32) : k_ok (f_C_isGeneric σ x) (fun _ => True) := by
  unfold f_C_isGeneric
  refine k_if (fun _ => k_some trivial) (fun h1 => ?_)
  obtain ⟨j, hj, h30, rfl⟩ := kC_there h h1
  exact k_guard (nI_in h30 (by decide)) (k_if (fun _ => k_some trivial) (fun _ => k_some trivial))
theorem s_C_aboveOf (h : kC σ n g) (x : Int32) : k_ok (f_C_aboveOf σ x) (fun _ => True) := by
  unfold f_C_aboveOf
  refine k_if (fun _ => k_some trivial) (fun h1 => ?_)
  obtain ⟨j, hj, h30, rfl⟩ := kC_there h h1
  exact k_guard (nI_in h30 (by decide)) (k_some trivial)
theorem s_C_countDirect (h : kC σ n g) (x : Int32) : k_ok (f_C_countDirect σ x) (fun r => ∃ d, d ≤ 30 ∧ r = nI d) := by
  unfold f_C_countDirect
  refine k_if (fun _ => k_some ⟨0, by omega, rfl⟩) (fun h1 => ?_)
  obtain ⟨j, hj, h30, rfl⟩ := kC_there h h1
  obtain ⟨d, hd, e⟩ := h.2.2.1 j h30
  refine k_guard (nI_in h30 (by decide)) (k_some ⟨d, hd, ?_⟩)
  rw [nI_clamp (by omega), e]
theorem s_C_directAt (h : kC σ n g) (x1 x2 : Int32) : k_ok (f_C_directAt σ x1 x2) (fun _ => True) := by
  unfold f_C_directAt
  refine k_if (fun _ => k_some trivial) (fun h1 => ?_)
  obtain ⟨j, hj, h30, rfl⟩ := kC_there h h1
  refine k_if (fun _ => k_some trivial) (fun h2 => ?_)
  refine k_guard (nI_in h30 (by decide)) ?_
  refine k_if (fun _ => k_some trivial) (fun h3 => ?_)
  obtain ⟨i, hi, rfl⟩ := nI_of h2
  obtain ⟨d, hd, e⟩ := h.2.2.1 j h30
  rw [nI_clamp (by omega), e, nI_leI (by omega) hi] at h3
  exact k_guard (k_in2 h30 (by omega)) (k_some trivial)
theorem s_C_toldAt (h : kC σ n g) (x1 x2 : Int32) : k_ok (f_C_toldAt σ x1 x2) (fun _ => True) := by
  unfold f_C_toldAt
  refine k_if (fun _ => k_some trivial) (fun h1 => ?_)
  obtain ⟨j, hj, h30, rfl⟩ := kC_there h h1
  refine k_if (fun _ => k_some trivial) (fun h2 => ?_)
  refine k_guard (nI_in h30 (by decide)) ?_
  refine k_if (fun _ => k_some trivial) (fun h3 => ?_)
  obtain ⟨i, hi, rfl⟩ := nI_of h2
  obtain ⟨d, hd, e⟩ := h.2.2.1 j h30
  rw [nI_clamp (by omega), e, nI_leI (by omega) hi] at h3
  exact k_guard (k_in2 h30 (by omega)) (k_some trivial)
theorem s_C_write (h : kC σ n g) (x1 x2 x3 x4 : Int32) : k_ok (f_C_write σ x1 x2 x3 x4) (fun r => kC r.2 n g) := by
  unfold f_C_write
  refine k_if (fun _ => k_some h) (fun h1 => ?_)
  obtain ⟨j, hj, h30, rfl⟩ := kC_there h h1
  refine k_if (fun _ => k_some h) (fun h3 => ?_)
  refine k_if (fun _ => k_some h) (fun h2 => ?_)
  refine k_if (fun h4 => ?_) (fun _ => k_some h)
  obtain ⟨i, hi, rfl⟩ := nI_of h2
  have h5 : nI i < nI 30 := h4
  rw [nI_ltI hi (by decide)] at h5
  refine k_guard (k_in2 h30 h5) ?_
  refine k_guard (k_in2 h30 h5) ?_
  refine k_guard (nI_in h30 (by decide)) ?_
  refine k_guard (nI_in h30 (by decide)) ?_
  refine k_guard (nI_in h30 (by decide)) ?_
  have key : ∀ (τ : StC) (v : Int32), C_count τ = nI n → C_countGeneric τ = nI g → (∃ d, d ≤ 30 ∧ v = nI d) → C_directCounts τ = upd (C_directCounts σ) (nI j).toNatClampNeg v → kC τ n g := by
    intro τ v e1 e2 e3 e4
    refine ⟨e1, h.2.1, ?_, e2, h.2.2.2.2⟩
    intro c hc
    rw [e4, nI_clamp (by omega)]
    by_cases ec : c = j
    · subst ec; rw [k_upds]; exact e3
    · rw [k_updn ec]; exact h.2.2.1 c hc
  have hv : ∃ d, d ≤ 30 ∧ (if ((C_directCounts σ) (nI j).toNatClampNeg) < (nI i + 1) then (nI i + 1) else ((C_directCounts σ) (nI j).toNatClampNeg)) = nI d := by
    split
    · exact ⟨i + 1, by omega, nI_1 i⟩
    · rw [nI_clamp (by omega)]; exact h.2.2.1 j h30
  refine k_bind (s_C_withAbove (n := n) (g := g) ?_ x3) ?_
  · exact key _ _ h.1 h.2.2.2.1 hv rfl
  intro r1 _
  refine k_guard (nI_in h30 (by decide)) (k_some ?_)
  exact key _ _ h.1 h.2.2.2.1 hv rfl
theorem s_C_add (h : kC σ n g) (hn : n < 30) (x1 x2 : Int32) : k_ok (f_C_add σ x1 x2) (fun r => r.1 = nI n ∧ kC r.2 (n + 1) (if x2 = 0 then g else g + 1)) := by
  have key : ∀ (τ : StC) (w : Nat), C_count τ = nI (n + 1) → C_countGeneric τ = nI w → w ≤ n + 1 → C_directCounts τ = C_directCounts σ → k_ok (f_C_add_54 τ (C_count σ)) (fun r => r.1 = nI n ∧ kC r.2 (n + 1) w) := by
    intro τ w e1 e2 e3 e4
    have hk : kC τ (n + 1) w := ⟨e1, by omega, by rw [e4]; exact h.2.2.1, e2, e3⟩
    unfold f_C_add_54
    refine k_if (fun _ => k_some ⟨h.1, hk⟩) (fun _ => ?_)
    refine k_bind (s_C_write hk _ _ _ _) ?_
    intro r hr
    exact k_some ⟨h.1, hr⟩
  unfold f_C_add
  have hg := h.2.2.2.2
  have hlt : C_count σ < 30 := by rw [h.1]; exact nI_lt hn (by decide)
  refine k_if (fun _ => ?_) (fun h0 => absurd hlt h0)
  have hi : ¬ (C_count σ < 0 ∨ 30 ≤ (C_count σ).toNatClampNeg) := by rw [h.1]; exact nI_in hn (by decide)
  refine k_guard hi ?_
  refine k_guard hi ?_
  have ec : C_count σ + 1 = nI (n + 1) := by rw [h.1]; exact nI_1 n
  have eg : C_countGeneric σ + 1 = nI (g + 1) := by rw [h.2.2.2.1]; exact nI_1 g
  refine k_if (fun h2 => ?_) (fun h2 => ?_)
  · rw [if_pos h2]
    exact key _ _ ec h.2.2.2.1 (by omega) rfl
  · rw [if_neg h2]
    exact key _ _ ec eg (by omega) rfl
theorem s_C_put (h : kC σ n g) (x1 x2 : Int32) : k_ok (f_C_put σ x1 x2) (fun r => kC r.2 n g) := by
  have key : ∀ (a b c d : Int32), k_ok (f_C_put_22 σ a b c d) (fun r => kC r.2 n g) := by
    intro a b c d
    unfold f_C_put_22
    refine k_bind (s_C_write h _ _ _ _) ?_
    intro r hr
    refine k_bind (s_C_countDirect hr _) ?_
    intro r3 _
    exact k_some hr
  unfold f_C_put
  refine k_bind (s_C_isFace h _) ?_
  intro r1 _
  refine k_if (fun _ => key _ _ _ _) (fun _ => ?_)
  refine k_bind (s_C_countDirect h _) ?_
  intro r4 _
  exact key _ _ _ _
theorem s_C_isDirectly_9 (h : kC σ n g) {m : Nat} (hm : m ≤ 30) (x1 x2 : Int32) : ∀ (f i : Nat), i ≤ m → m < f + i → k_ok (f_C_isDirectly_9 f σ x1 x2 (nI m) (nI i)) (fun _ => True) := by
  intro f
  induction f with
  | zero => intro i h1 h2; omega
  | succ f ih =>
    intro i h1 h2
    rw [f_C_isDirectly_9]
    unfold f_C_isDirectly_9_s
    refine k_if (fun _ => k_some trivial) (fun h3 => ?_)
    rw [nI_leI (by omega) (by omega)] at h3
    refine k_bind (s_C_directAt h _ _) ?_
    intro r _
    refine k_if (fun _ => k_some trivial) (fun _ => ?_)
    rw [nI_1]
    exact ih (i + 1) (by omega) (by omega)
theorem s_C_isDirectly (h : kC σ n g) (x1 x2 : Int32) : k_ok (f_C_isDirectly σ x1 x2) (fun _ => True) := by
  unfold f_C_isDirectly
  refine k_bind (s_C_countDirect h _) ?_
  rintro r ⟨d, hd, rfl⟩
  exact s_C_isDirectly_9 h hd x1 x2 1000 0 (by omega) (by omega)
theorem s_C_mayGet (h : kC σ n g) (x1 : Int32) : k_ok (f_C_mayGet σ x1) (fun _ => True) := by
  have k55 : ∀ a b : Int32, k_ok (f_C_mayGet_55 σ a b) (fun _ => True) := by
    intro a b
    unfold f_C_mayGet_55
    refine k_bind (s_C_isDirectly h _ _) ?_
    intro r _
    exact k_if (fun _ => k_some trivial) (fun _ => k_some trivial)
  have k31 : ∀ a b c : Int32, k_ok (f_C_mayGet_31 σ a b c) (fun _ => True) := by
    intro a b c
    unfold f_C_mayGet_31
    refine k_if (fun _ => k55 _ _) (fun _ => ?_)
    refine k_bind (s_C_isFace h _) ?_
    intro r _
    refine k_if (fun _ => ?_) (fun _ => k_some trivial)
    refine k_bind (s_C_directAt h _ _) ?_
    intro r _
    exact k_if (fun _ => k55 _ _) (fun _ => k_some trivial)
  unfold f_C_mayGet
  refine k_if (fun _ => k_some trivial) (fun _ => ?_)
  refine k_if (fun _ => k_some trivial) (fun _ => ?_)
  refine k_bind (s_C_isFace h _) ?_
  intro r _
  exact k_if (fun _ => k31 _ _ _) (fun _ => k31 _ _ _)
theorem s_C_firstToward_12 (h : kC σ n g) {j : Nat} (hj : j < 30) (x2 : Int32) : ∀ (f i : Nat), i ≤ 30 → 30 < f + i → k_ok (f_C_firstToward_12 f σ (nI j) x2 (nI i)) (fun _ => True) := by
  intro f
  induction f with
  | zero => intro i h1 h2; omega
  | succ f ih =>
    intro i h1 h2
    rw [f_C_firstToward_12]
    unfold f_C_firstToward_12_s
    refine k_guard (nI_in hj (by decide)) ?_
    obtain ⟨d, hd, e⟩ := h.2.2.1 j hj
    refine k_if (fun _ => k_some trivial) (fun h3 => ?_)
    rw [nI_clamp (by omega), e, nI_leI (by omega) (by omega)] at h3
    have hk : k_ok (f_C_firstToward_12 f σ (nI j) x2 (nI i + 1)) (fun _ => True) := by
      rw [nI_1]
      exact ih (i + 1) (by omega) (by omega)
    refine k_guard (k_in2 hj (by omega)) ?_
    refine k_if (fun _ => k_some trivial) (fun _ => ?_)
    refine k_if (fun _ => hk) (fun h4 => ?_)
    obtain ⟨v, _, hv, ev⟩ := kC_there h h4
    rw [ev]
    refine k_guard (nI_in hv (by decide)) ?_
    exact k_if (fun _ => hk) (fun _ => k_some trivial)
theorem s_C_firstToward (h : kC σ n g) (x1 x2 : Int32) : k_ok (f_C_firstToward σ x1 x2) (fun _ => True) := by
  unfold f_C_firstToward
  refine k_if (fun _ => k_some trivial) (fun h1 => ?_)
  obtain ⟨j, hj, h30, rfl⟩ := kC_there h h1
  exact s_C_firstToward_12 h h30 x2 1000 0 (by omega) (by omega)
theorem s_C_climb_9 (h : kC σ n g) (x3 : Int32) : ∀ (f i : Nat) (x4 x5 : Int32), i ≤ 30 → 30 < f + i → k_ok (f_C_climb_9 f σ x3 x4 x5 (nI i)) (fun _ => True) := by
  have k70 : ∀ a b c : Int32, k_ok (f_C_climb_70 σ a b c) (fun _ => True) := by
    intro a b c
    unfold f_C_climb_70
    exact k_if (fun _ => k_some trivial) (fun _ => k_some trivial)
  intro f
  induction f with
  | zero => intro i _ _ h1 h2; omega
  | succ f ih =>
    intro i x4 x5 h1 h2
    rw [f_C_climb_9]
    unfold f_C_climb_9_s
    refine k_if (fun _ => k70 _ _ _) (fun h3 => ?_)
    have h4 : ¬ nI 30 ≤ nI i := h3
    rw [nI_leI (by decide) (by omega)] at h4
    refine k_if (fun _ => k70 _ _ _) (fun _ => ?_)
    refine k_bind (s_C_firstToward h _ _) ?_
    intro r1 _
    refine k_if (fun _ => k_some trivial) (fun _ => ?_)
    refine k_bind (s_C_toldAt h _ _) ?_
    intro r2 _
    refine k_bind (s_C_directAt h _ _) ?_
    intro r3 _
    rw [nI_1]
    exact ih (i + 1) _ _ (by omega) (by omega)
theorem s_C_climb (h : kC σ n g) (x1 x2 x3 : Int32) : k_ok (f_C_climb σ x1 x2 x3) (fun _ => True) := by
  unfold f_C_climb
  exact s_C_climb_9 h x3 1000 0 _ _ (by omega) (by omega)
theorem s_C_clashes_21 (h : kC σ n g) (x1 x2 x3 x4 : Int32) : ∀ (f i : Nat), i ≤ n → n < f + i → k_ok (f_C_clashes_21 f σ x1 x2 x3 x4 (nI i)) (fun _ => True) := by
  have hn := h.2.1
  intro f
  induction f with
  | zero => intro i h1 h2; omega
  | succ f ih =>
    intro i h1 h2
    rw [f_C_clashes_21]
    unfold f_C_clashes_21_s
    refine k_if (fun _ => k_some trivial) (fun h3 => ?_)
    rw [h.1, nI_leI (by omega) (by omega)] at h3
    have hk : k_ok (f_C_clashes_21 f σ x1 x2 x3 x4 (nI i + 1)) (fun _ => True) := by
      rw [nI_1]
      exact ih (i + 1) (by omega) (by omega)
    refine k_if (fun _ => hk) (fun _ => ?_)
    refine k_bind (s_C_isGeneric h _) ?_
    intro r3 _
    refine k_if (fun _ => hk) (fun _ => ?_)
    refine k_bind (s_C_climb h _ _ _) ?_
    intro r4 _
    refine k_bind (s_C_climb h _ _ _) ?_
    intro r5 _
    exact k_if (fun _ => hk) (fun _ => k_some trivial)
theorem s_C_clashes (h : kC σ n g) (x1 x2 : Int32) : k_ok (f_C_clashes σ x1 x2) (fun _ => True) := by
  have hn := h.2.1
  unfold f_C_clashes
  refine k_bind (s_C_aboveOf h _) ?_
  intro r1 _
  refine k_bind (s_C_withAbove h _) ?_
  intro r2 _
  exact s_C_clashes_21 h _ _ _ _ 1000 0 (by omega) (by omega)
theorem s_C_leastOf_4 (h : kC σ n g) (x1 : Int32) : ∀ (f i : Nat) (x2 : Int32), i ≤ n → n < f + i → k_ok (f_C_leastOf_4 f σ x1 x2 (nI i)) (fun _ => True) := by
  have hn := h.2.1
  intro f
  induction f with
  | zero => intro i _ h1 h2; omega
  | succ f ih =>
    intro i x2 h1 h2
    rw [f_C_leastOf_4]
    unfold f_C_leastOf_4_s
    refine k_if (fun _ => k_some trivial) (fun h3 => ?_)
    rw [h.1, nI_leI (by omega) (by omega)] at h3
    have hk : ∀ y, k_ok (f_C_leastOf_4 f σ x1 y (nI i + 1)) (fun _ => True) := by
      intro y
      rw [nI_1]
      exact ih (i + 1) _ (by omega) (by omega)
    refine k_if (fun _ => hk _) (fun _ => ?_)
    exact k_guard (nI_in (by omega) (by decide)) (hk _)
theorem s_C_leastOf (h : kC σ n g) (x1 : Int32) : k_ok (f_C_leastOf σ x1) (fun _ => True) := by
  have hn := h.2.1
  unfold f_C_leastOf
  exact s_C_leastOf_4 h _ 1000 0 _ (by omega) (by omega)
end
-- part 08.12.T.lean.txt
/-! The class's own tables of types: safe. -/
def kT (σ : StT) (t : Nat) : Prop := T_count σ = nI t ∧ t ≤ 300 ∧ (∃ u, u ≤ 90 * t ∧ T_partsUsed σ = nI u) ∧ (∃ s v, s ≤ 300 ∧ v ≤ 90 * s ∧ T_settledCount σ = nI s ∧ T_settledParts σ = nI v) ∧ (∀ i, i < 300 → ∃ m, m ≤ 90 ∧ T_partCounts σ i = nI m) ∧ 64 ≤ (T_parts σ).1 ∧ (T_parts σ).1 ≤ 60000
def kG (σ τ : StT) (K N : Nat) : Prop := K + (T_parts σ).1 ≤ (T_parts τ).1 ∧ N + 2 * (T_parts σ).1 ≤ 2 * (T_parts τ).1
section
variable {σ : StT} {t : Nat}
theorem kG_refl : kG σ σ 0 0 := ⟨by omega, by omega⟩
theorem kG_eq {τ : StT} (h : T_parts τ = T_parts σ) : kG σ τ 0 0 := by unfold kG; rw [h]; omega
theorem kT_there (h : kT σ t) {x : Int32} (hx : ¬ f_T_isThere σ x = 0) : ∃ j, j < t ∧ j < 300 ∧ x = nI j := by
  unfold f_T_isThere at hx
  have hn := h.2.1
  split at hx
  · exact absurd rfl hx
  · rename_i h0
    obtain ⟨j, hj, rfl⟩ := nI_of h0
    split at hx
    · exact absurd rfl hx
    · rename_i h1
      rw [h.1, nI_leI (by omega) hj] at h1
      exact ⟨j, by omega, by omega, rfl⟩
theorem s_T_sizeOf (h : kT σ t) (x : Int32) : k_ok (f_T_sizeOf σ x) (fun _ => True) := by
  unfold f_T_sizeOf
  refine k_if (fun _ => k_some trivial) (fun h1 => ?_)
  obtain ⟨j, hj, h30, rfl⟩ := kT_there h h1
  exact k_guard (nI_in h30 (by decide)) (k_some trivial)
theorem s_T_kindOf (h : kT σ t) (x : Int32) : k_ok (f_T_kindOf σ x) (fun _ => True) := by
  unfold f_T_kindOf
  refine k_if (fun _ => k_some trivial) (fun h1 => ?_)
  obtain ⟨j, hj, h30, rfl⟩ := kT_there h h1
  exact k_guard (nI_in h30 (by decide)) (k_some trivial)
theorem s_T_elementOf (h : kT σ t) (x : Int32) : k_ok (f_T_elementOf σ x) (fun _ => True) := by
  unfold f_T_elementOf
  refine k_if (fun _ => k_some trivial) (fun h1 => ?_)
  obtain ⟨j, hj, h30, rfl⟩ := kT_there h h1
  exact k_guard (nI_in h30 (by decide)) (k_some trivial)
theorem s_T_classOf (h : kT σ t) (x : Int32) : k_ok (f_T_classOf σ x) (fun _ => True) := by
  unfold f_T_classOf
  refine k_if (fun _ => k_some trivial) (fun h1 => ?_)
  obtain ⟨j, hj, h30, rfl⟩ := kT_there h h1
  exact k_guard (nI_in h30 (by decide)) (k_some trivial)
theorem s_T_argumentAt (h : kT σ t) (x : Int32) : k_ok (f_T_argumentAt σ x) (fun _ => True) := by
  unfold f_T_argumentAt
  refine k_if (fun _ => k_some trivial) (fun h1 => ?_)
  obtain ⟨j, hj, h30, rfl⟩ := kT_there h h1
  exact k_guard (nI_in h30 (by decide)) (k_some trivial)
theorem s_T_countParts (h : kT σ t) (x : Int32) : k_ok (f_T_countParts σ x) (fun r => ∃ m, m ≤ 90 ∧ r = nI m) := by
  unfold f_T_countParts
  refine k_if (fun _ => k_some ⟨0, by omega, rfl⟩) (fun h1 => ?_)
  obtain ⟨j, hj, h30, rfl⟩ := kT_there h h1
  obtain ⟨m, hm, e⟩ := h.2.2.2.2.1 j h30
  refine k_guard (nI_in h30 (by decide)) (k_some ⟨m, hm, ?_⟩)
  rw [nI_clamp (by omega), e]
theorem s_T_partOf (h : kT σ t) (x1 x2 : Int32) : k_ok (f_T_partOf σ x1 x2) (fun _ => True) := by
  unfold f_T_partOf
  refine k_if (fun _ => k_some trivial) (fun h1 => ?_)
  obtain ⟨j, hj, h30, rfl⟩ := kT_there h h1
  refine k_if (fun _ => k_some trivial) (fun _ => ?_)
  refine k_guard (nI_in h30 (by decide)) ?_
  refine k_if (fun _ => ?_) (fun _ => k_some trivial)
  refine k_guard (nI_in h30 (by decide)) ?_
  refine k_if (fun _ => k_some trivial) (fun _ => ?_)
  refine k_guard (nI_in h30 (by decide)) ?_
  refine k_if (fun _ => k_some trivial) (fun h2 => ?_)
  refine k_if (fun _ => k_some trivial) (fun _ => ?_)
  refine k_if (fun _ => k_some trivial) (fun h3 => ?_)
  refine k_guard ?_ (k_some trivial)
  have hl := h.2.2.2.2.2.2
  obtain ⟨i, hi, e⟩ := nI_of h2
  rw [e] at h3 ⊢
  have h4 : ¬ nI (T_parts σ).1 ≤ nI i := h3
  rw [nI_leI (by omega) hi] at h4
  exact nI_in (by omega) (by omega)
theorem s_T_add (h : kT σ t) (x1 x2 : Int32) : k_ok (f_T_append σ x1 x2) (fun r => (r.1 = -1 ∧ r.2 = σ) ∨ (r.1 = nI t ∧ t < 300 ∧ kT r.2 (t + 1) ∧ T_parts r.2 = T_parts σ ∧ T_partsUsed r.2 = T_partsUsed σ)) := by
  unfold f_T_append
  have ht := h.2.1
  refine k_if (fun _ => k_some (Or.inl ⟨rfl, rfl⟩)) (fun h1 => ?_)
  have h2 : ¬ nI 300 ≤ T_count σ := h1
  rw [h.1, nI_leI (by decide) (by omega)] at h2
  refine k_if (fun _ => ?_) (fun _ => k_some (Or.inl ⟨rfl, rfl⟩))
  have hi : ¬ (T_count σ < 0 ∨ 300 ≤ (T_count σ).toNatClampNeg) := by rw [h.1]; exact nI_in (by omega) (by decide)
  refine k_guard hi (k_guard hi (k_guard hi (k_guard hi (k_guard hi (k_guard hi (k_guard hi (k_some (Or.inr ?_))))))))
  refine ⟨h.1, by omega, ?_, rfl, rfl⟩
  obtain ⟨u, hu, eu⟩ := h.2.2.1
  refine ⟨?_, by omega, ⟨u, by omega, eu⟩, h.2.2.2.1, ?_, h.2.2.2.2.2⟩
  · show T_count σ + 1 = nI (t + 1)
    rw [h.1]; exact nI_1 t
  · intro i hi
    show ∃ m, m ≤ 90 ∧ upd (T_partCounts σ) (T_count σ).toNatClampNeg 0 i = nI m
    by_cases e : i = (T_count σ).toNatClampNeg
    · rw [e, k_upds]; exact ⟨0, by omega, rfl⟩
    · rw [k_updn e]; exact h.2.2.2.2.1 i hi
theorem s_T_makeNamed_8 (h : kT σ t) (x1 x2 : Int32) : ∀ (f i : Nat), i ≤ t → t < f + i → k_ok (f_T_makeNamed_8 f σ x1 x2 (nI i)) (fun r => (∃ t', kT r.2 t') ∧ T_parts r.2 = T_parts σ) := by
  have ht := h.2.1
  intro f
  induction f with
  | zero => intro i h1 h2; omega
  | succ f ih =>
    intro i h1 h2
    rw [f_T_makeNamed_8]
    unfold f_T_makeNamed_8_s
    refine k_if (fun _ => ?_) (fun h3 => ?_)
    · refine k_bind (s_T_sizeOf h _) ?_
      intro r1 _
      refine k_bind (s_T_add h _ _) ?_
      rintro ⟨v, τ⟩ hr
      refine k_if (fun _ => k_some ?_) (fun h4 => ?_)
      · rcases hr with ⟨_, e⟩ | ⟨_, _, hk, hp, _⟩
        · exact ⟨⟨t, by rw [e]; exact h⟩, by rw [e]⟩
        · exact ⟨⟨_, hk⟩, hp⟩
      · rcases hr with ⟨e, _⟩ | ⟨e, hlt, hk, hp, _⟩
        · exact absurd e h4
        · replace e : v = nI t := e
          subst e
          have hi : ¬ (nI t < 0 ∨ 300 ≤ (nI t).toNatClampNeg) := nI_in hlt (by decide)
          refine k_guard hi (k_guard hi (k_guard hi (k_some ⟨⟨t + 1, ?_⟩, hp⟩)))
          refine ⟨hk.1, hk.2.1, hk.2.2.1, hk.2.2.2.1, ?_, hk.2.2.2.2.2⟩
          intro i hi
          show ∃ m, m ≤ 90 ∧ upd (T_partCounts τ) (nI t).toNatClampNeg 1 i = nI m
          by_cases e : i = (nI t).toNatClampNeg
          · rw [e, k_upds]; exact ⟨1, by omega, rfl⟩
          · rw [k_updn e]; exact hk.2.2.2.2.1 i hi
    · rw [h.1, nI_leI (by omega) (by omega)] at h3
      have hk : k_ok (f_T_makeNamed_8 f σ x1 x2 (nI i + 1)) (fun r => (∃ t', kT r.2 t') ∧ T_parts r.2 = T_parts σ) := by
        rw [nI_1]
        exact ih (i + 1) (by omega) (by omega)
      have hi : ¬ (nI i < 0 ∨ 300 ≤ (nI i).toNatClampNeg) := nI_in (by omega) (by decide)
      refine k_guard hi (k_if (fun _ => ?_) (fun _ => hk))
      refine k_guard hi (k_if (fun _ => ?_) (fun _ => hk))
      exact k_guard hi (k_if (fun _ => k_some ⟨⟨t, h⟩, rfl⟩) (fun _ => hk))
theorem s_T_makeNamed (h : kT σ t) (x1 x2 : Int32) : k_ok (f_T_makeNamed σ x1 x2) (fun r => (∃ t', kT r.2 t') ∧ T_parts r.2 = T_parts σ) := by
  have ht := h.2.1
  unfold f_T_makeNamed
  refine k_if (fun _ => ?_) (fun _ => k_some ⟨⟨t, h⟩, rfl⟩)
  exact s_T_makeNamed_8 h x1 x2 1000 0 (by omega) (by omega)
theorem s_T_makeArray_2 (h : kT σ t) (x1 : Int32) : ∀ (f i : Nat), i ≤ t → t < f + i → k_ok (f_T_makeArray_2 f σ x1 (nI i)) (fun r => (∃ t', kT r.2 t') ∧ T_parts r.2 = T_parts σ) := by
  have ht := h.2.1
  intro f
  induction f with
  | zero => intro i h1 h2; omega
  | succ f ih =>
    intro i h1 h2
    rw [f_T_makeArray_2]
    unfold f_T_makeArray_2_s
    refine k_if (fun _ => ?_) (fun h3 => ?_)
    · refine k_bind (s_T_sizeOf h _) ?_
      intro r1 _
      refine k_bind (s_T_add h _ _) ?_
      rintro ⟨v, τ⟩ hr
      refine k_if (fun _ => k_some ?_) (fun h4 => ?_)
      · rcases hr with ⟨_, e⟩ | ⟨_, _, hk, hp, _⟩
        · exact ⟨⟨t, by rw [e]; exact h⟩, by rw [e]⟩
        · exact ⟨⟨_, hk⟩, hp⟩
      · rcases hr with ⟨e, _⟩ | ⟨e, hlt, hk, hp, _⟩
        · exact absurd e h4
        · replace e : v = nI t := e
          subst e
          have hi : ¬ (nI t < 0 ∨ 300 ≤ (nI t).toNatClampNeg) := nI_in hlt (by decide)
          exact k_guard hi (k_some ⟨⟨t + 1, hk⟩, hp⟩)
    · rw [h.1, nI_leI (by omega) (by omega)] at h3
      have hk : k_ok (f_T_makeArray_2 f σ x1 (nI i + 1)) (fun r => (∃ t', kT r.2 t') ∧ T_parts r.2 = T_parts σ) := by
        rw [nI_1]
        exact ih (i + 1) (by omega) (by omega)
      have hi : ¬ (nI i < 0 ∨ 300 ≤ (nI i).toNatClampNeg) := nI_in (by omega) (by decide)
      refine k_guard hi (k_if (fun _ => ?_) (fun _ => hk))
      exact k_guard hi (k_if (fun _ => k_some ⟨⟨t, h⟩, rfl⟩) (fun _ => hk))
theorem s_T_makeArray (h : kT σ t) (x1 : Int32) : k_ok (f_T_makeArray σ x1) (fun r => (∃ t', kT r.2 t') ∧ T_parts r.2 = T_parts σ) := by
  have ht := h.2.1
  unfold f_T_makeArray
  exact s_T_makeArray_2 h x1 1000 0 (by omega) (by omega)
theorem s_T_settle (h : kT σ t) : k_ok (f_T_settle σ) (fun r => (∃ t', kT r.2 t') ∧ T_parts r.2 = T_parts σ) := by
  obtain ⟨u, hu, eu⟩ := h.2.2.1
  exact k_some ⟨⟨t, h.1, h.2.1, ⟨u, hu, eu⟩, ⟨t, u, h.2.1, hu, h.1, eu⟩, h.2.2.2.2⟩, rfl⟩
theorem s_T_dropUnsettled (h : kT σ t) : k_ok (f_T_dropUnsettled σ) (fun r => (∃ t', kT r.2 t') ∧ T_parts r.2 = T_parts σ) := by
  obtain ⟨s, v, hs, hv, es, ev⟩ := h.2.2.2.1
  exact k_some ⟨⟨s, es, hs, ⟨v, hv, ev⟩, ⟨s, v, hs, hv, es, ev⟩, h.2.2.2.2⟩, rfl⟩
theorem s_T_hasParts_3 (h : kT σ t) {j a : Nat} (hj : j < 300) (ha : a ≤ 90) (pa : Nat × (Nat → Int32)) (hp : pa.1 = 90) : ∀ (f i : Nat), i ≤ 90 → 90 < f + i → k_ok (f_T_hasParts_3 pa f σ (nI j) (nI a) (nI i)) (fun _ => True) := by
  intro f
  induction f with
  | zero => intro i h1 h2; omega
  | succ f ih =>
    intro i h1 h2
    rw [f_T_hasParts_3]
    unfold f_T_hasParts_3_s
    obtain ⟨m, hm, e⟩ := h.2.2.2.2.1 j hj
    refine k_guard (nI_in hj (by decide)) ?_
    refine k_if (fun _ => k_some trivial) (fun h3 => ?_)
    rw [nI_clamp (by omega), e, nI_leI (by omega) (by omega)] at h3
    refine k_if (fun _ => k_some trivial) (fun h4 => ?_)
    have h5 : ¬ nI pa.1 ≤ nI a + nI i := h4
    rw [nI_add, hp, nI_leI (by omega) (by omega)] at h5
    refine k_bind (s_T_partOf h _ _) ?_
    intro r1 _
    rw [nI_add, hp]
    refine k_guard (nI_in (by omega) (by omega)) ?_
    refine k_if (fun _ => ?_) (fun _ => k_some trivial)
    rw [nI_1]
    exact ih (i + 1) (by omega) (by omega)
theorem s_T_findIntersection_3 (h : kT σ t) {a : Nat} (ha : a ≤ 90) (pa : Nat × (Nat → Int32)) (hp : pa.1 = 90) (x3 : Int32) : ∀ (f i : Nat), i ≤ t → t < f + i → k_ok (f_T_findIntersection_3 pa f σ (nI a) x3 (nI i)) (fun _ => True) := by
  have ht := h.2.1
  intro f
  induction f with
  | zero => intro i h1 h2; omega
  | succ f ih =>
    intro i h1 h2
    rw [f_T_findIntersection_3]
    unfold f_T_findIntersection_3_s
    refine k_if (fun _ => k_some trivial) (fun h3 => ?_)
    rw [h.1, nI_leI (by omega) (by omega)] at h3
    have hk : k_ok (f_T_findIntersection_3 pa f σ (nI a) x3 (nI i + 1)) (fun _ => True) := by
      rw [nI_1]
      exact ih (i + 1) (by omega) (by omega)
    have hi : ¬ (nI i < 0 ∨ 300 ≤ (nI i).toNatClampNeg) := nI_in (by omega) (by decide)
    refine k_guard hi (k_if (fun _ => ?_) (fun _ => hk))
    refine k_guard hi (k_if (fun _ => ?_) (fun _ => hk))
    refine k_bind (s_T_hasParts_3 h (by omega) ha pa hp 1000 0 (by omega) (by omega)) ?_
    intro r1 _
    exact k_if (fun _ => hk) (fun _ => k_some trivial)
theorem s_T_appendParts_35 (h : kT σ t) {j a m u : Nat} (hj : j < 300) (pa : Nat × (Nat → Int32)) (hp : pa.1 = 90) (ham : a + m ≤ 90) (eu : T_partsUsed σ = nI u) (hu : u + m ≤ 90 * t) (hl : u + m ≤ (T_parts σ).1) :
    k_ok (f_T_appendParts_35 pa σ (nI j) (nI a) (nI m)) (fun r => r.1 = .inl 0 ∧ kT r.2.1 t ∧ (T_parts r.2.1).1 = (T_parts σ).1 ∧ r.2.2.1 = 0 ∧ r.2.2.2 = 0) := by
  unfold f_T_appendParts_35
  have ht := h.2.1
  have hle := h.2.2.2.2.2.2
  have hi : ¬ (nI j < 0 ∨ 300 ≤ (nI j).toNatClampNeg) := nI_in hj (by decide)
  refine k_guard ?_ (k_guard hi (k_guard hi (k_some ⟨rfl, ?_, rfl, rfl, rfl⟩)))
  · rw [eu, nI_clamp (by omega), nI_clamp (by omega), nI_clamp (by omega), hp]
    have p1 : ¬ nI a < 0 := nI_pos (by omega)
    have p2 : ¬ nI u < 0 := nI_pos (by omega)
    have p3 : ¬ nI m < 0 := nI_pos (by omega)
    rintro (q | q | q | q | q)
    · exact p1 q
    · exact p2 q
    · exact p3 q
    · omega
    · omega
  · refine ⟨h.1, h.2.1, ⟨u + m, hu, ?_⟩, h.2.2.2.1, ?_, h.2.2.2.2.2⟩
    · show T_partsUsed σ + nI m = nI (u + m)
      rw [eu, nI_add]
    · intro i hi
      show ∃ q, q ≤ 90 ∧ upd (T_partCounts σ) (nI j).toNatClampNeg (nI m) i = nI q
      by_cases e : i = (nI j).toNatClampNeg
      · rw [e, k_upds]; exact ⟨m, by omega, rfl⟩
      · rw [k_updn e]; exact h.2.2.2.2.1 i hi
theorem s_T_appendParts (h : kT σ t) {j a m u : Nat} (hj : j < 300) (pa : Nat × (Nat → Int32)) (hp : pa.1 = 90) (ham : a + m ≤ 90) (eu : T_partsUsed σ = nI u) (hu : u + m ≤ 90 * t) :
    k_ok (f_T_appendParts pa σ (nI j) (nI a) (nI m)) (fun r => r.1 = .inl 0 ∧ kT r.2.1 t ∧ kG σ r.2.1 r.2.2.1 r.2.2.2) := by
  unfold f_T_appendParts
  have ht := h.2.1
  have hle := h.2.2.2.2.2.2
  have hge := h.2.2.2.2.2.1
  have e1 : T_partsUsed σ + nI m = nI (u + m) := by rw [eu, nI_add]
  have e2 : 2 * (T_partsUsed σ + nI m) = nI (2 * (u + m)) := by
    rw [e1]; show nI 2 * nI (u + m) = _; rw [k_mul]
  refine k_if (fun h1 => ?_) (fun h1 => ?_)
  · have h2 : nI (u + m) ≤ nI (T_parts σ).1 := by rw [← e1]; exact h1
    rw [nI_leI (by omega) (by omega)] at h2
    refine k_mono (s_T_appendParts_35 h hj pa hp ham eu hu h2) ?_
    rintro r ⟨r1, r2, r3, r4, r5⟩
    exact ⟨r1, r2, by unfold kG; rw [r3, r4, r5]; omega⟩
  · have h2 : ¬ nI (u + m) ≤ nI (T_parts σ).1 := by rw [← e1]; exact h1
    rw [nI_leI (by omega) (by omega)] at h2
    rw [e2]
    have hc : (nI (2 * (u + m))).toNatClampNeg = 2 * (u + m) := nI_clamp (by omega)
    refine k_guard ?_ (k_ad ?_)
    · rw [hc]
      have p1 : ¬ nI (2 * (u + m)) < 0 := nI_pos (by omega)
      have p2 : ¬ nI (2 * (u + m)) = nI (T_parts σ).1 := by rw [nI_eq (by omega) (by omega)]; omega
      rintro (q | q | q | q)
      · exact p1 q
      · exact p2 q
      · omega
      · omega
    · rw [hc]
      have hk : kT (T_set_parts σ (2 * (u + m), J_copyOf (T_parts σ).2 (T_parts σ).1 (nI (2 * (u + m))))) t :=
        ⟨h.1, h.2.1, h.2.2.1, h.2.2.2.1, h.2.2.2.2.1, by show 64 ≤ 2 * (u + m); omega, by show 2 * (u + m) ≤ 60000; omega⟩
      refine k_mono (s_T_appendParts_35 hk hj pa hp ham eu hu (by show u + m ≤ 2 * (u + m); omega)) ?_
      rintro r ⟨r1, r2, r3, r4, r5⟩
      refine ⟨r1, r2, ?_⟩
      have r3' : (T_parts r.2.1).1 = 2 * (u + m) := r3
      show kG σ r.2.1 (r.2.2.1 + 1) (r.2.2.2 + 2 * (u + m))
      unfold kG; rw [r3', r4, r5]; omega
theorem s_T_makeIntersection_38 (h : kT σ t) {a m : Nat} (pa : Nat × (Nat → Int32)) (hp : pa.1 = 90) (ham : a + m ≤ 90) : ∀ (f i : Nat) (x4 : Int32), i ≤ m → m < f + i → k_ok (f_T_makeIntersection_38 pa f σ (nI a) (nI m) x4 (nI i)) (fun r => (∃ v, r.1 = .inl v) ∧ (∃ t', kT r.2.1 t') ∧ kG σ r.2.1 r.2.2.1 r.2.2.2) := by
  have ht := h.2.1
  intro f
  induction f with
  | zero => intro i _ h1 h2; omega
  | succ f ih =>
    intro i x4 h1 h2
    rw [f_T_makeIntersection_38]
    unfold f_T_makeIntersection_38_s
    refine k_if (fun _ => ?_) (fun h3 => ?_)
    · refine k_bind (s_T_findIntersection_3 h (by omega) pa hp _ 1000 0 (by omega) (by omega)) ?_
      intro r1 _
      refine k_if (fun _ => ?_) (fun _ => k_some ⟨⟨_, rfl⟩, ⟨t, h⟩, kG_refl⟩)
      refine k_bind (s_T_add h _ _) ?_
      rintro ⟨v, τ⟩ hr
      refine k_if (fun h4 => k_some ?_) (fun h4 => ?_)
      · rcases hr with ⟨_, e⟩ | ⟨e, _, hk, hp, _⟩
        · replace e : τ = σ := e
          subst e
          exact ⟨⟨_, rfl⟩, ⟨t, h⟩, kG_refl⟩
        · exact ⟨⟨_, rfl⟩, ⟨_, hk⟩, kG_eq hp⟩
      · rcases hr with ⟨e, _⟩ | ⟨e, hlt, hk, hpp, hpu⟩
        · exact absurd e h4
        · replace e : v = nI t := e
          subst e
          obtain ⟨u, hu, eu⟩ := h.2.2.1
          refine k_bind (s_T_appendParts (u := u) hk hlt pa hp ham (hpu.trans eu) (by omega)) ?_
          rintro ⟨w, ρ, K, N⟩ ⟨e, hρ, hG⟩
          replace e : w = .inl 0 := e
          subst e
          refine k_ad (k_some ⟨⟨_, rfl⟩, ⟨_, hρ⟩, ?_⟩)
          have hG' : kG τ ρ K N := hG
          have hpp' : T_parts τ = T_parts σ := hpp
          show kG σ ρ (0 + K) (0 + N)
          unfold kG at hG' ⊢
          rw [hpp'] at hG'
          omega
    · rw [nI_leI (by omega) (by omega)] at h3
      rw [nI_add, hp]
      refine k_guard (nI_in (by omega) (by decide)) ?_
      refine k_bind (s_T_sizeOf h _) ?_
      intro r4 _
      rw [nI_1]
      exact ih (i + 1) _ (by omega) (by omega)
theorem s_T_makeIntersection (h : kT σ t) {a : Nat} (ha : a ≤ 90) (pa : Nat × (Nat → Int32)) (hp : pa.1 = 90) (x3 : Int32) : k_ok (f_T_makeIntersection pa σ (nI a) x3) (fun r => (∃ v, r.1 = .inl v) ∧ (∃ t', kT r.2.1 t') ∧ kG σ r.2.1 r.2.2.1 r.2.2.2) := by
  unfold f_T_makeIntersection
  refine k_if (fun _ => k_some ⟨⟨_, rfl⟩, ⟨t, h⟩, kG_refl⟩) (fun _ => ?_)
  refine k_if (fun _ => k_some ⟨⟨_, rfl⟩, ⟨t, h⟩, kG_refl⟩) (fun h3 => ?_)
  refine k_if (fun h4 => ?_) (fun _ => k_some ⟨⟨_, rfl⟩, ⟨t, h⟩, kG_refl⟩)
  have h5 : x3 ≤ nI pa.1 - nI a := h4
  rw [hp, k_sub ha] at h5
  have h6 : ¬ x3 < 0 := by
    intro q
    apply h3
    rw [Int32.lt_iff_toInt_lt] at q ⊢
    have e0 : (0 : Int32).toInt = 0 := by decide
    have e1 : (1 : Int32).toInt = 1 := by decide
    omega
  obtain ⟨m, hm, rfl⟩ := nI_of h6
  have h7 : ¬ nI m < nI 1 := h3
  rw [nI_ltI hm (by decide)] at h7
  rw [nI_leI hm (by omega)] at h5
  refine k_if (fun _ => ?_) (fun _ => ?_)
  · rw [hp]
    exact k_guard (nI_in (by omega) (by decide)) (k_some ⟨⟨_, rfl⟩, ⟨t, h⟩, kG_refl⟩)
  · exact s_T_makeIntersection_38 h pa hp (by omega) 1000 0 _ (by omega) (by omega)
end
/-! The class's answers that are kept: safe in any state. -/
theorem k_sh4 (p : Nat) (h : p < 90000) : nI p >>> ((4 : Int32) &&& 31) = nI (p / 16) := by
  have hd : ((4 : Int32) &&& 31) = nI 4 := by decide +kernel
  rw [hd]
  apply Int32.toBitVec_inj.mp
  rw [Int32.toBitVec_shiftRight]
  show (BitVec.ofNat 32 p).sshiftRight ((nI 4).toBitVec.smod 32).toNat = BitVec.ofNat 32 (p / 16)
  have h4 : ((nI 4).toBitVec.smod 32).toNat = 4 := by decide +kernel
  rw [h4]
  apply BitVec.eq_of_toInt_eq
  rw [BitVec.toInt_sshiftRight]
  show (nI p).toInt >>> 4 = (nI (p / 16)).toInt
  rw [nI_toInt (by omega), nI_toInt (by omega), Int.shiftRight_eq_div_pow]
  omega
theorem k_pair {x1 x2 : Int32} (h : ¬ f_A_isPair x1 x2 = 0) : ∃ p, p < 5625 ∧ ((x1 * 300) + x2) >>> ((4 : Int32) &&& 31) = nI p := by
  unfold f_A_isPair at h
  split at h
  · exact absurd rfl h
  rename_i h1
  split at h
  · exact absurd rfl h
  rename_i h2
  split at h
  · exact absurd rfl h
  rename_i h3
  split at h
  · exact absurd rfl h
  rename_i h4
  obtain ⟨a, ha, rfl⟩ := nI_of h1
  obtain ⟨b, hb, rfl⟩ := nI_of h3
  replace h2 : ¬ nI 300 ≤ nI a := h2
  replace h4 : ¬ nI 300 ≤ nI b := h4
  rw [nI_leI (by decide) ha] at h2
  rw [nI_leI (by decide) hb] at h4
  have e : nI a * 300 + nI b = nI (a * 300 + b) := by
    show nI a * nI 300 + nI b = _
    rw [k_mul, nI_add]
  rw [e, k_sh4 _ (by omega)]
  exact ⟨(a * 300 + b) / 16, by omega, rfl⟩
theorem s_A_read (σ : StA) (x1 x2 : Int32) : k_ok (f_A_read σ x1 x2) (fun _ => True) := by
  unfold f_A_read
  refine k_if (fun _ => k_some trivial) (fun h => ?_)
  obtain ⟨p, hp, e⟩ := k_pair h
  refine k_guard ?_ (k_some trivial)
  rw [e]; exact nI_in hp (by decide)
theorem s_A_keep (σ : StA) (x1 x2 x3 : Int32) : k_ok (f_A_keep σ x1 x2 x3) (fun _ => True) := by
  unfold f_A_keep
  refine k_if (fun _ => k_some trivial) (fun h => ?_)
  obtain ⟨p, hp, e⟩ := k_pair h
  have hi : ¬ (((x1 * 300) + x2) >>> ((4 : Int32) &&& 31) < 0 ∨ 5625 ≤ (((x1 * 300) + x2) >>> ((4 : Int32) &&& 31)).toNatClampNeg) := by
    rw [e]; exact nI_in hp (by decide)
  refine k_guard hi ?_
  have k37 : ∀ b c d : Int32, k_ok (f_A_keep_37 σ b (((x1 * 300) + x2) >>> ((4 : Int32) &&& 31)) c d) (fun _ => True) := by
    intro b c d
    unfold f_A_keep_37
    exact k_guard hi (k_some trivial)
  exact k_if (fun _ => k37 _ _ _) (fun _ => k37 _ _ _)
theorem s_A_forget (σ : StA) : k_ok (f_A_forget σ) (fun _ => True) := by
  unfold f_A_forget
  exact k_if (fun _ => k_some trivial) (fun _ => k_some trivial)
-- part 08.14.L.lean.txt
/-! The class's methods: safe. n classes, g GENERIC ones, depth d. -/
def kL (σ : StL) (n g d : Nat) : Prop := L_depth σ = nI d ∧ d ≤ 2 ∧ kC (L_classes σ) n g ∧ ∃ t, kT (L_types σ) t
def kP (σ : StL) (n g d : Nat) (r : (Int32 ⊕ Nat) × StL × Nat × Nat) : Prop := (∃ v, r.1 = .inl v) ∧ kL r.2.1 n g d ∧ kG (L_types σ) (L_types r.2.1) r.2.2.1 r.2.2.2
def kQ (σ : StL) (n g d : Nat) (es : List Nat) (r : (Int32 ⊕ Nat) × StL × Nat × Nat) : Prop := (∀ k, r.1 = .inr k → k ∈ es) ∧ kL r.2.1 n g d ∧ r.2.2.1 + (T_parts (L_types σ)).1 ≤ 1 + (T_parts (L_types r.2.1)).1 ∧ r.2.2.2 + 2 * (T_parts (L_types σ)).1 ≤ 6 + 2 * (T_parts (L_types r.2.1)).1
section
variable {σ : StL} {n g d : Nat}
theorem kQ_ret {es : List Nat} {v : Int32} (h : kL σ n g d) : kQ σ n g d es (.inl v, σ, 0, 0) := ⟨(fun k e => nomatch e), h, (by show 0 + (T_parts (L_types σ)).1 ≤ 1 + (T_parts (L_types σ)).1; omega), (by show 0 + 2 * (T_parts (L_types σ)).1 ≤ 6 + 2 * (T_parts (L_types σ)).1; omega)⟩
theorem kQ_thr {es : List Nat} {e : Nat} (h : kL σ n g d) (he : e ∈ es) : kQ σ n g d es (.inr e, σ, 1, 6) := by
  refine ⟨?_, h, (by show 1 + (T_parts (L_types σ)).1 ≤ 1 + (T_parts (L_types σ)).1; omega), (by show 6 + 2 * (T_parts (L_types σ)).1 ≤ 6 + 2 * (T_parts (L_types σ)).1; omega)⟩
  intro k hk
  replace hk : (.inr e : Int32 ⊕ Nat) = .inr k := hk
  cases hk; exact he
theorem kQ_thr' {es : List Nat} {e : Nat} (h : kL σ n g d) (he : e ∈ es) : kQ σ n g d es (.inr e, σ, 0 + 1, 0 + 6) := kQ_thr h he
theorem kQ_ret0 {es : List Nat} {v : Int32} (h : kL σ n g d) : kQ σ n g d es (.inl v, σ, 0 + 0, 0 + 0) := kQ_ret h
theorem kL_types (h : kL σ n g d) {τ : StT} (ht : ∃ t, kT τ t) : kL (L_set_types σ τ) n g d := ⟨h.1, h.2.1, h.2.2.1, ht⟩
theorem kL_answers (h : kL σ n g d) (τ : StA) : kL (L_set_answers σ τ) n g d := ⟨h.1, h.2.1, h.2.2.1, h.2.2.2⟩
theorem k_rt {α : Type} {x : Int32} {f : (Int32 ⊕ Nat) × StL × Nat × Nat → Option α} {Q : α → Prop} (h1 : f_T_isThere (L_types σ) x = 0 → k_ok (f (.inr 1, σ, 1, 6)) Q) (h2 : ¬ f_T_isThere (L_types σ) x = 0 → k_ok (f (.inl 0, σ, 0, 0)) Q) : k_ok ((f_L_requireType σ x).bind f) Q := by
  unfold f_L_requireType
  by_cases h : f_T_isThere (L_types σ) x = 0
  · rw [if_pos h]; exact h1 h
  · rw [if_neg h]; exact h2 h
theorem k_rc {α : Type} {x : Int32} {f : (Int32 ⊕ Nat) × StL × Nat × Nat → Option α} {Q : α → Prop} (h1 : f_C_isThere (L_classes σ) x = 0 → k_ok (f (.inr 1, σ, 1, 6)) Q) (h2 : ¬ f_C_isThere (L_classes σ) x = 0 → k_ok (f (.inl 0, σ, 0, 0)) Q) : k_ok ((f_L_requireClass σ x).bind f) Q := by
  unfold f_L_requireClass
  by_cases h : f_C_isThere (L_classes σ) x = 0
  · rw [if_pos h]; exact h1 h
  · rw [if_neg h]; exact h2 h
/-- what `settled` answers at the end of a call that began in σ and has come to τ with K cells and N slots -/
theorem s_L_settled {τ : StL} (h : kL τ n g d) {x : Int32} : k_ok (f_L_settled τ x) (fun r => kQ τ n g d [2] r) := by
  unfold f_L_settled
  obtain ⟨t, ht⟩ := h.2.2.2
  refine k_if (fun _ => ?_) (fun _ => ?_)
  · refine k_bind (s_T_dropUnsettled ht) ?_
    rintro ⟨v, ρ⟩ ⟨hk, hp⟩
    refine k_some ⟨?_, kL_types h hk, ?_, ?_⟩
    · intro k e
      replace e : (.inr 2 : Int32 ⊕ Nat) = .inr k := e
      cases e; decide
    · have hp' : T_parts ρ = T_parts (L_types τ) := hp
      show 1 + (T_parts (L_types τ)).1 ≤ 1 + (T_parts ρ).1
      rw [hp']; omega
    · have hp' : T_parts ρ = T_parts (L_types τ) := hp
      show 6 + 2 * (T_parts (L_types τ)).1 ≤ 6 + 2 * (T_parts ρ).1
      rw [hp']; omega
  · refine k_bind (s_T_settle ht) ?_
    rintro ⟨v, ρ⟩ ⟨hk, hp⟩
    refine k_some ⟨(fun k e => nomatch e), kL_types h hk, ?_, ?_⟩
    · have hp' : T_parts ρ = T_parts (L_types τ) := hp
      show 0 + (T_parts (L_types τ)).1 ≤ 1 + (T_parts ρ).1
      rw [hp']; omega
    · have hp' : T_parts ρ = T_parts (L_types τ) := hp
      show 0 + 2 * (T_parts (L_types τ)).1 ≤ 6 + 2 * (T_parts ρ).1
      rw [hp']; omega
/-- the end of a call: what `settled` answers is handed on -/
theorem k_end {τ : StL} {es : List Nat} (h : kL τ n g d) {x : Int32} {K N : Nat} (hG : kG (L_types σ) (L_types τ) K N) (h2 : 2 ∈ es) :
    k_ok ((f_L_settled τ x).bind fun r => ad_ r.2.2.1 r.2.2.2 <| match r.1 with
      | .inr e => some (.inr e, r.2.1, 0, 0)
      | .inl rv => some (.inl rv, r.2.1, 0, 0)) (fun r => kQ σ n g d es (r.1, r.2.1, r.2.2.1 + K, r.2.2.2 + N)) := by
  refine k_bind (s_L_settled h) ?_
  rintro ⟨v, ρ, K', N'⟩ ⟨he, hk, h3, h4⟩
  obtain ⟨g1, g2⟩ := hG
  have h3' : K' + (T_parts (L_types τ)).1 ≤ 1 + (T_parts (L_types ρ)).1 := h3
  have h4' : N' + 2 * (T_parts (L_types τ)).1 ≤ 6 + 2 * (T_parts (L_types ρ)).1 := h4
  cases v with
  | inl v =>
    refine k_ad (k_some ⟨(fun k e => nomatch e), hk, ?_, ?_⟩)
    · show 0 + K' + K + (T_parts (L_types σ)).1 ≤ 1 + (T_parts (L_types ρ)).1
      omega
    · show 0 + N' + N + 2 * (T_parts (L_types σ)).1 ≤ 6 + 2 * (T_parts (L_types ρ)).1
      omega
  | inr k =>
    have hk2 : k = 2 := by
      have := he k rfl
      simpa using this
    subst hk2
    refine k_ad (k_some ⟨?_, hk, ?_, ?_⟩)
    · intro k e
      replace e : (.inr 2 : Int32 ⊕ Nat) = .inr k := e
      cases e; exact h2
    · show 0 + K' + K + (T_parts (L_types σ)).1 ≤ 1 + (T_parts (L_types ρ)).1
      omega
    · show 0 + N' + N + 2 * (T_parts (L_types σ)).1 ≤ 6 + 2 * (T_parts (L_types ρ)).1
      omega
theorem s_L_isTellable (h : kL σ n g d) (x1 x2 : Int32) : k_ok (f_L_isTellable σ x1 x2) (fun _ => True) := by
  obtain ⟨t, ht⟩ := h.2.2.2
  unfold f_L_isTellable
  refine k_bind (s_C_isGeneric h.2.2.1 _) ?_
  intro r1 _
  refine k_if (fun _ => k_if (fun _ => k_some trivial) (fun _ => k_some trivial)) (fun _ => ?_)
  refine k_if (fun _ => ?_) (fun _ => ?_)
  · refine k_bind (s_C_isGeneric h.2.2.1 _) ?_
    intro r3 _
    exact k_some trivial
  · refine k_if (fun _ => k_some trivial) (fun _ => ?_)
    refine k_bind (s_T_kindOf ht _) ?_
    intro r2 _
    exact k_if (fun _ => k_some trivial) (fun _ => k_some trivial)
theorem s_L_isArrayOfOthers (h : kL σ n g d) (x1 : Int32) : k_ok (f_L_isArrayOfOthers σ x1) (fun _ => True) := by
  obtain ⟨t, ht⟩ := h.2.2.2
  unfold f_L_isArrayOfOthers
  refine k_bind (s_T_kindOf ht _) ?_
  intro r1 _
  refine k_if (fun _ => ?_) (fun _ => k_some trivial)
  refine k_bind (s_T_elementOf ht _) ?_
  intro r2 _
  refine k_bind (s_T_kindOf ht _) ?_
  intro r3 _
  exact k_if (fun _ => k_some trivial) (fun _ => k_some trivial)
theorem s_L_foundIn_72 (h : kL σ n g d) (x1 : Int32) {m : Nat} (hm : m ≤ 90) : ∀ (f i : Nat) (x2 : Int32), i ≤ m → m < f + i → k_ok (f_L_foundIn_72 f σ x1 x2 (nI m) (nI i)) (fun _ => True) := by
  obtain ⟨t, ht⟩ := h.2.2.2
  intro f
  induction f with
  | zero => intro i _ h1 h2; omega
  | succ f ih =>
    intro i x2 h1 h2
    rw [f_L_foundIn_72]
    unfold f_L_foundIn_72_s
    refine k_if (fun _ => k_some trivial) (fun h3 => ?_)
    rw [nI_leI (by omega) (by omega)] at h3
    refine k_bind (s_T_partOf ht _ _) ?_
    intro r5 _
    refine k_bind (s_T_classOf ht _) ?_
    intro r6 _
    refine k_bind (s_C_withAbove h.2.2.1 _) ?_
    intro r7 _
    rw [nI_1]
    exact ih (i + 1) _ (by omega) (by omega)
theorem s_L_foundIn (h : kL σ n g d) (x1 : Int32) : k_ok (f_L_foundIn σ x1) (fun _ => True) := by
  obtain ⟨t, ht⟩ := h.2.2.2
  unfold f_L_foundIn
  refine k_bind (s_T_kindOf ht _) ?_
  intro r1 _
  refine k_if (fun _ => ?_) (fun _ => ?_)
  · refine k_bind (s_T_classOf ht _) ?_
    intro r2 _
    refine k_bind (s_C_withAbove h.2.2.1 _) ?_
    intro r3 _
    exact k_some trivial
  · refine k_if (fun _ => k_some trivial) (fun _ => ?_)
    refine k_bind (s_T_countParts ht _) ?_
    rintro r4 ⟨m, hm, rfl⟩
    exact s_L_foundIn_72 h x1 hm 1000 0 _ (by omega) (by omega)
theorem s_L_commonOf (h : kL σ n g d) (x1 x2 : Int32) : k_ok (f_L_commonOf σ x1 x2) (fun _ => True) := by
  unfold f_L_commonOf
  refine k_bind (s_L_foundIn h _) ?_
  intro r1 _
  refine k_bind (s_L_foundIn h _) ?_
  intro r2 _
  exact k_some trivial
theorem s_L_countHolders (h : kL σ n g d) (x1 : Int32) : k_ok (f_L_countHolders σ x1) (fun r => ∃ m, m ≤ 90 ∧ r = nI m) := by
  obtain ⟨t, ht⟩ := h.2.2.2
  unfold f_L_countHolders
  refine k_bind (s_T_countParts ht _) ?_
  rintro r ⟨m, hm, rfl⟩
  refine k_some ?_
  split
  · exact ⟨m, hm, rfl⟩
  · exact ⟨1, by omega, rfl⟩
theorem s_L_find_41 (h : kL σ n g d) (x1 x2 : Int32) {m : Nat} (hm : m ≤ 90) : ∀ (f i : Nat), i ≤ m → m < f + i → k_ok (f_L_find_41 f σ x1 x2 (nI m) (nI i)) (fun _ => True) := by
  obtain ⟨t, ht⟩ := h.2.2.2
  intro f
  induction f with
  | zero => intro i h1 h2; omega
  | succ f ih =>
    intro i h1 h2
    rw [f_L_find_41]
    unfold f_L_find_41_s
    refine k_if (fun _ => k_some trivial) (fun h3 => ?_)
    rw [nI_leI (by omega) (by omega)] at h3
    have hk : k_ok (f_L_find_41 f σ x1 x2 (nI m) (nI i + 1)) (fun _ => True) := by
      rw [nI_1]
      exact ih (i + 1) (by omega) (by omega)
    have k75 : ∀ y : Int32, k_ok (f_L_find_75 (f_L_find_41 f) σ x1 x2 (nI m) (nI i) y) (fun _ => True) := by
      intro y
      unfold f_L_find_75
      refine k_bind (s_T_classOf ht _) ?_
      intro r5 _
      refine k_bind (s_T_argumentAt ht _) ?_
      intro r6 _
      refine k_bind (s_C_climb h.2.2.1 _ _ _) ?_
      intro r7 _
      exact k_if (fun _ => hk) (fun _ => k_some trivial)
    refine k_bind (s_T_kindOf ht _) ?_
    intro r3 _
    refine k_if (fun _ => k75 _) (fun _ => ?_)
    refine k_bind (s_T_partOf ht _ _) ?_
    intro r4 _
    exact k75 _
theorem s_L_find (h : kL σ n g d) (x1 x2 : Int32) : k_ok (f_L_find σ x1 x2) (fun _ => True) := by
  obtain ⟨t, ht⟩ := h.2.2.2
  unfold f_L_find f_L_find_26
  refine k_bind (s_T_kindOf ht _) ?_
  intro r1 _
  refine k_if (fun _ => ?_) (fun _ => ?_)
  · exact k_if (fun _ => k_some trivial) (fun _ => k_if (fun _ => k_some trivial) (fun _ => k_if (fun _ => k_some trivial) (fun _ => k_some trivial)))
  · refine k_bind (s_L_countHolders h _) ?_
    rintro r2 ⟨m, hm, rfl⟩
    exact s_L_find_41 h x1 x2 hm 1000 0 (by omega) (by omega)
end
/-! BELOW -/
section
variable {n g d : Nat}
/-- the recursion's own call: safe at every level below L -/
def kRec (n g d : Nat) (rec : StL → Int32 → Int32 → Int32 → Option (Int32 × StL)) (L : Int) : Prop :=
  ∀ (σ : StL) (a b x : Int32), kL σ n g d → 0 ≤ x.toInt → x.toInt < L → k_ok (rec σ a b x) (fun r => kL r.2 n g d ∧ T_parts (L_types r.2) = T_parts (L_types σ) ∧ (r.1 = 0 ∨ r.1 = 1))
theorem s_L_liesBelowParts_13 {rec : StL → Int32 → Int32 → Int32 → Option (Int32 × StL)} {L : Int} (hr : kRec n g d rec L) (x1 x2 : Int32) {x3 : Int32} (h0 : 0 ≤ x3.toInt) (h3 : x3.toInt < L) {m : Nat} (hm : m ≤ 90) :
    ∀ (f i : Nat) (σ : StL), kL σ n g d → i ≤ m → m < f + i → k_ok (f_L_liesBelowParts_13 rec f σ x1 x2 x3 (nI m) (nI i)) (fun r => kL r.2 n g d ∧ T_parts (L_types r.2) = T_parts (L_types σ) ∧ (r.1 = 0 ∨ r.1 = 1)) := by
  intro f
  induction f with
  | zero => intro i σ _ h1 h2; omega
  | succ f ih =>
    intro i σ h h1 h2
    obtain ⟨t, ht⟩ := h.2.2.2
    rw [f_L_liesBelowParts_13]
    unfold f_L_liesBelowParts_13_s
    refine k_if (fun _ => k_some ⟨h, rfl, Or.inr rfl⟩) (fun h4 => ?_)
    rw [nI_leI (by omega) (by omega)] at h4
    refine k_bind (s_T_partOf ht _ _) ?_
    intro r2 _
    refine k_bind (hr _ _ _ _ h h0 h3) ?_
    rintro ⟨v, τ⟩ ⟨hτ, hp, _⟩
    refine k_if (fun _ => k_some ⟨hτ, hp, Or.inl rfl⟩) (fun _ => ?_)
    rw [nI_1]
    refine k_mono (ih (i + 1) τ hτ (by omega) (by omega)) ?_
    rintro r ⟨q1, q2, q3⟩
    exact ⟨q1, q2.trans hp, q3⟩
theorem s_L_hasFittingPart_30 {rec : StL → Int32 → Int32 → Int32 → Option (Int32 × StL)} {L : Int} (hr : kRec n g d rec L) (x1 x4 x5 : Int32) {x3 : Int32} (h0 : 0 ≤ x3.toInt) (h3 : x3.toInt < L) {m : Nat} (hm : m ≤ 90) :
    ∀ (f i : Nat) (σ : StL), kL σ n g d → i ≤ m → m < f + i → k_ok (f_L_hasFittingPart_30 rec f σ x1 x3 x4 x5 (nI m) (nI i)) (fun r => kL r.2 n g d ∧ T_parts (L_types r.2) = T_parts (L_types σ) ∧ (r.1 = 0 ∨ r.1 = 1)) := by
  intro f
  induction f with
  | zero => intro i σ _ h1 h2; omega
  | succ f ih =>
    intro i σ h h1 h2
    obtain ⟨t, ht⟩ := h.2.2.2
    rw [f_L_hasFittingPart_30]
    unfold f_L_hasFittingPart_30_s
    refine k_if (fun _ => k_some ⟨h, rfl, Or.inl rfl⟩) (fun h4 => ?_)
    rw [nI_leI (by omega) (by omega)] at h4
    have hk : ∀ τ : StL, kL τ n g d → T_parts (L_types τ) = T_parts (L_types σ) → k_ok (f_L_hasFittingPart_30 rec f τ x1 x3 x4 x5 (nI m) (nI i + 1)) (fun r => kL r.2 n g d ∧ T_parts (L_types r.2) = T_parts (L_types σ) ∧ (r.1 = 0 ∨ r.1 = 1)) := by
      intro τ hτ hp
      rw [nI_1]
      refine k_mono (ih (i + 1) τ hτ (by omega) (by omega)) ?_
      rintro r ⟨q1, q2, q3⟩
      exact ⟨q1, q2.trans hp, q3⟩
    have k63 : ∀ y : Int32, k_ok (f_L_hasFittingPart_63 rec (f_L_hasFittingPart_30 rec f) σ x1 x3 x4 x5 (nI m) (nI i) y) (fun r => kL r.2 n g d ∧ T_parts (L_types r.2) = T_parts (L_types σ) ∧ (r.1 = 0 ∨ r.1 = 1)) := by
      intro y
      unfold f_L_hasFittingPart_63
      refine k_bind (s_L_find h _ _) ?_
      intro r6 _
      refine k_if (fun _ => hk σ h rfl) (fun _ => ?_)
      refine k_if (fun _ => k_some ⟨h, rfl, Or.inr rfl⟩) (fun _ => ?_)
      refine k_if (fun _ => ?_) (fun _ => hk σ h rfl)
      refine k_bind (hr _ _ _ _ h h0 h3) ?_
      rintro ⟨v, τ⟩ ⟨hτ, hp, _⟩
      exact k_if (fun _ => hk τ hτ hp) (fun _ => k_some ⟨hτ, hp, Or.inr rfl⟩)
    refine k_bind (s_T_countParts ht _) ?_
    intro r4 _
    refine k_if (fun _ => k63 _) (fun _ => ?_)
    refine k_bind (s_T_partOf ht _ _) ?_
    intro r5 _
    exact k63 _
theorem k_and1 {x : Int32} (h : x = 0 ∨ x = 1) : x &&& 1 = 0 ∨ x &&& 1 = 1 := by
  rcases h with rfl | rfl
  · exact Or.inl (by decide)
  · exact Or.inr (by decide)
theorem s_L_liesBelow : ∀ f : Nat, kRec n g d (f_L_liesBelow f) f := by
  intro f
  induction f with
  | zero =>
    intro σ a b x h h0 hx
    omega
  | succ f ih =>
    intro σ a b x h h0 hx
    obtain ⟨t, ht⟩ := h.2.2.2
    rw [f_L_liesBelow]
    unfold f_L_liesBelow_s
    have k159 : ∀ (τ : StL) (y : Int32), kL τ n g d → T_parts (L_types τ) = T_parts (L_types σ) → (y = 0 ∨ y = 1) → k_ok (f_L_liesBelow_159 (f_L_liesBelow f) τ a b y) (fun r => kL r.2 n g d ∧ T_parts (L_types r.2) = T_parts (L_types σ) ∧ (r.1 = 0 ∨ r.1 = 1)) := by
      intro τ y hτ hp hy
      unfold f_L_liesBelow_159
      refine k_bind (s_A_keep _ _ _ _) ?_
      intro r _
      exact k_some ⟨kL_answers hτ _, hp, k_and1 hy⟩
    refine k_if (fun _ => k_some ⟨h, rfl, Or.inr rfl⟩) (fun _ => ?_)
    refine k_if (fun hpos => ?_) (fun _ => k_some ⟨h, rfl, Or.inl rfl⟩)
    have hx1 : 0 ≤ (x - 1).toInt ∧ (x - 1).toInt < (f : Int) := by
      rw [Int32.lt_iff_toInt_lt] at hpos
      have e0 : (0 : Int32).toInt = 0 := by decide
      have e1 : (1 : Int32).toInt = 1 := by decide
      have e2 := Int32.toInt_lt x
      rw [Int32.toInt_sub, e1, Int.bmod_eq_of_le (by omega) (by omega)]
      omega
    refine k_bind (s_A_read _ _ _) ?_
    intro r1 _
    refine k_if (fun _ => ?_) (fun _ => k_if (fun _ => k_some ⟨h, rfl, Or.inr rfl⟩) (fun _ => k_some ⟨h, rfl, Or.inl rfl⟩))
    refine k_bind (s_T_kindOf ht _) ?_
    intro r2 _
    refine k_if (fun _ => ?_) (fun _ => k_if (fun _ => ?_) (fun _ => k_if (fun _ => ?_) (fun _ => k159 σ 0 h rfl (Or.inl rfl))))
    · refine k_bind (P := fun r => kL r.2 n g d ∧ T_parts (L_types r.2) = T_parts (L_types σ) ∧ (r.1 = 0 ∨ r.1 = 1)) ?_ ?_
      · unfold f_L_hasFittingPart
        refine k_bind (s_T_classOf ht _) ?_
        intro q1 _
        refine k_bind (s_T_argumentAt ht _) ?_
        intro q2 _
        refine k_bind (s_L_countHolders h _) ?_
        rintro q3 ⟨m, hm, rfl⟩
        exact s_L_hasFittingPart_30 ih _ _ _ hx1.1 hx1.2 hm 1000 0 σ h (by omega) (by omega)
      · rintro ⟨v, τ⟩ ⟨hτ, hp, hv⟩
        exact k159 τ v hτ hp hv
    · refine k_bind (s_L_isArrayOfOthers h _) ?_
      intro r5 _
      refine k_if (fun _ => k159 σ 0 h rfl (Or.inl rfl)) (fun _ => ?_)
      refine k_bind (s_L_isArrayOfOthers h _) ?_
      intro r6 _
      refine k_if (fun _ => k159 σ 0 h rfl (Or.inl rfl)) (fun _ => ?_)
      refine k_bind (s_T_elementOf ht _) ?_
      intro r7 _
      refine k_bind (s_T_elementOf ht _) ?_
      intro r8 _
      refine k_bind (ih σ _ _ _ h hx1.1 hx1.2) ?_
      rintro ⟨v, τ⟩ ⟨hτ, hp, hv⟩
      exact k_if (fun _ => k159 τ 0 hτ hp (Or.inl rfl)) (fun _ => k159 τ 1 hτ hp (Or.inr rfl))
    · refine k_bind (P := fun r => kL r.2 n g d ∧ T_parts (L_types r.2) = T_parts (L_types σ) ∧ (r.1 = 0 ∨ r.1 = 1)) ?_ ?_
      · unfold f_L_liesBelowParts
        refine k_bind (s_T_countParts ht _) ?_
        rintro q1 ⟨m, hm, rfl⟩
        exact s_L_liesBelowParts_13 ih _ _ hx1.1 hx1.2 hm 1000 0 σ h (by omega) (by omega)
      · rintro ⟨v, τ⟩ ⟨hτ, hp, hv⟩
        exact k159 τ v hτ hp hv
end
-- part 08.15.L2.lean.txt
/-! THE UPPER BOUND of the class -/
section
variable {n g d : Nat}
def kUp (n g d : Nat) (rec : StL → Int32 → Int32 → Int32 → Option ((Int32 ⊕ Nat) × StL × Nat × Nat)) (L : Nat) : Prop :=
  ∀ (σ : StL) (a b : Int32) (k : Nat), kL σ n g d → k < L → k_ok (rec σ a b (nI k)) (kP σ n g d)
theorem kG_trans {σ τ ρ : StT} {K N K' N' : Nat} (h1 : kG σ τ K N) (h2 : kG τ ρ K' N') : kG σ ρ (K' + K) (N' + N) := by
  unfold kG at *; omega
theorem kP_mono {σ τ : StL} {K N : Nat} {r : (Int32 ⊕ Nat) × StL × Nat × Nat} (hG : kG (L_types σ) (L_types τ) K N) (h : kP τ n g d r) : kP σ n g d (r.1, r.2.1, r.2.2.1 + K, r.2.2.2 + N) :=
  ⟨h.1, h.2.1, kG_trans hG h.2.2⟩
theorem s_L_boundArgument {rec : StL → Int32 → Int32 → Int32 → Option ((Int32 ⊕ Nat) × StL × Nat × Nat)} {k : Nat} (hk2 : k ≤ 2) (hr : kUp n g d rec k) {σ : StL} (h : kL σ n g d) (x1 x2 : Int32) : k_ok (f_L_boundArgument rec σ x1 x2 (nI k)) (kP σ n g d) := by
  obtain ⟨t, ht⟩ := h.2.2.2
  have k46 : ∀ (τ : StL) (y : Int32), kL τ n g d → kG (L_types σ) (L_types τ) 0 0 → k_ok (f_L_boundArgument_46 rec τ y) (kP σ n g d) := by
    intro τ y hτ hG
    unfold f_L_boundArgument_46
    exact k_if (fun _ => k_some ⟨⟨_, rfl⟩, hτ, hG⟩) (fun _ => k_some ⟨⟨_, rfl⟩, hτ, hG⟩)
  have k15 : k_ok (f_L_boundArgument_15 rec σ x1 x2 (nI k)) (kP σ n g d) := by
    unfold f_L_boundArgument_15
    refine k_if (fun _ => ?_) (fun h0 => ?_)
    · refine k_bind (s_T_makeNamed ht _ _) ?_
      rintro ⟨v, τ⟩ ⟨hk, hp⟩
      exact k46 _ _ (kL_types h hk) (kG_eq hp)
    · have hk0 : 0 < k := by
        rcases Nat.eq_zero_or_pos k with e | e
        · subst e; exact absurd rfl h0
        · exact e
      have e1 : nI k - 1 = nI (k - 1) := k_sub (b := 1) (by omega)
      rw [e1]
      refine k_bind (hr σ _ _ (k - 1) h (by omega)) ?_
      rintro ⟨v, τ, K, N⟩ ⟨⟨w, e⟩, hτ, hG⟩
      replace e : v = .inl w := e
      subst e
      refine k_ad ?_
      have k46' : k_ok (f_L_boundArgument_46 rec τ w) (kP τ n g d) := by
        unfold f_L_boundArgument_46
        exact k_if (fun _ => k_some ⟨⟨_, rfl⟩, hτ, kG_refl⟩) (fun _ => k_some ⟨⟨_, rfl⟩, hτ, kG_refl⟩)
      exact k_mono k46' (fun r hr => kP_mono hG hr)
  unfold f_L_boundArgument
  refine k_if (fun _ => ?_) (fun _ => k15)
  exact k_if (fun _ => k15) (fun _ => k_some ⟨⟨_, rfl⟩, h, kG_refl⟩)
theorem s_L_boundByClasses_38 {rec : StL → Int32 → Int32 → Int32 → Option ((Int32 ⊕ Nat) × StL × Nat × Nat)} {k : Nat} (hk2 : k ≤ 2) (hr : kUp n g d rec k) (x1 x2 x4 : Int32) :
    ∀ (f i p : Nat) (σ : StL), kL σ n g d → i ≤ 30 → p ≤ i → 30 < f + i → k_ok (f_L_boundByClasses_38 rec f σ x1 x2 (nI k) x4 (nI (k * 30)) (nI p) (nI i)) (kP σ n g d) := by
  intro f
  induction f with
  | zero => intro i p σ _ h1 h2 h3; omega
  | succ f ih =>
    intro i p σ h h1 h2 h3
    obtain ⟨t, ht⟩ := h.2.2.2
    rw [f_L_boundByClasses_38]
    unfold f_L_boundByClasses_38_s
    refine k_if (fun _ => ?_) (fun h4 => ?_)
    · refine k_bind (s_T_makeIntersection ht (a := k * 30) (by omega) (90, L_row σ) rfl _) ?_
      rintro ⟨v, τ, K, N⟩ ⟨⟨w, e⟩, hτ, hG⟩
      replace e : v = .inl w := e
      subst e
      refine k_ad (k_some ⟨⟨_, rfl⟩, kL_types h hτ, ?_⟩)
      have hG' : kG (L_types σ) τ K N := hG
      show kG (L_types σ) τ (0 + K) (0 + N)
      rw [Nat.zero_add, Nat.zero_add]; exact hG'
    · have h5 : ¬ nI 30 ≤ nI i := h4
      rw [nI_leI (by decide) (by omega)] at h5
      refine k_if (fun _ => ?_) (fun _ => ?_)
      · rw [nI_1]
        exact ih (i + 1) p σ h (by omega) (by omega) (by omega)
      · refine k_bind (s_L_find h _ _) ?_
        intro r4 _
        refine k_bind (s_L_find h _ _) ?_
        intro r5 _
        refine k_bind (s_L_boundArgument hk2 hr h _ _) ?_
        rintro ⟨v, τ, K, N⟩ ⟨⟨w, e⟩, hτ, hG⟩
        replace e : v = .inl w := e
        subst e
        refine k_ad ?_
        replace hτ : kL τ n g d := hτ
        replace hG : kG (L_types σ) (L_types τ) K N := hG
        obtain ⟨t2, ht2⟩ := hτ.2.2.2
        refine k_bind (s_T_makeNamed ht2 _ _) ?_
        rintro ⟨v, ρ⟩ ⟨hρ, hp⟩
        replace hρ : ∃ t', kT ρ t' := hρ
        replace hp : T_parts ρ = T_parts (L_types τ) := hp
        have hG2 : kG (L_types σ) ρ K N := by unfold kG at hG ⊢; rw [hp]; exact hG
        refine k_if (fun _ => k_some ?_) (fun _ => ?_)
        · refine ⟨⟨_, rfl⟩, kL_types hτ hρ, ?_⟩
          show kG (L_types σ) ρ (0 + K) (0 + N)
          rw [Nat.zero_add, Nat.zero_add]; exact hG2
        · rw [nI_add]
          refine k_guard (nI_in (by omega) (by decide)) ?_
          rw [nI_1, nI_1]
          have hL : kL (L_put_row (L_set_types τ ρ) (nI (k * 30 + p)) v) n g d := kL_types hτ hρ
          refine k_mono (ih (i + 1) (p + 1) _ hL (by omega) (by omega) (by omega)) ?_
          intro r hr
          exact kP_mono (τ := L_put_row (L_set_types τ ρ) (nI (k * 30 + p)) v) hG2 hr
theorem s_L_boundByClasses {rec : StL → Int32 → Int32 → Int32 → Option ((Int32 ⊕ Nat) × StL × Nat × Nat)} {k : Nat} (hk2 : k ≤ 2) (hr : kUp n g d rec k) {σ : StL} (h : kL σ n g d) (x1 x2 : Int32) : k_ok (f_L_boundByClasses rec σ x1 x2 (nI k)) (kP σ n g d) := by
  unfold f_L_boundByClasses
  refine k_if (fun _ => k_some ⟨⟨_, rfl⟩, h, kG_refl⟩) (fun _ => ?_)
  refine k_if (fun _ => ?_) (fun _ => k_some ⟨⟨_, rfl⟩, h, kG_refl⟩)
  refine k_bind (s_L_commonOf h _ _) ?_
  intro r1 _
  refine k_bind (s_C_leastOf h.2.2.1 _) ?_
  intro r2 _
  have e : nI k * 30 = nI (k * 30) := k_mul k 30
  rw [e]
  exact s_L_boundByClasses_38 hk2 hr x1 x2 r2 1000 0 0 σ h (by omega) (by omega) (by omega)
theorem s_L_upperBound_95 (rec : StL → Int32 → Int32 → Int32 → Option ((Int32 ⊕ Nat) × StL × Nat × Nat)) {m : Nat} (hm : m ≤ 100) : ∀ (f i : Nat) (σ : StL) (x7 : Int32), kL σ n g d → i ≤ m → m < f + i → k_ok (f_L_upperBound_95 rec f σ (nI m) x7 (nI i)) (kP σ n g d) := by
  intro f
  induction f with
  | zero => intro i σ _ _ h1 h2; omega
  | succ f ih =>
    intro i σ x7 h h1 h2
    obtain ⟨t, ht⟩ := h.2.2.2
    rw [f_L_upperBound_95]
    unfold f_L_upperBound_95_s
    refine k_if (fun _ => k_some ⟨⟨_, rfl⟩, h, kG_refl⟩) (fun h3 => ?_)
    rw [nI_leI (by omega) (by omega)] at h3
    refine k_if (fun _ => k_some ⟨⟨_, rfl⟩, h, kG_refl⟩) (fun _ => ?_)
    refine k_bind (s_T_makeArray ht _) ?_
    rintro ⟨v, ρ⟩ ⟨hρ, hp⟩
    rw [nI_1]
    refine k_mono (ih (i + 1) (L_set_types σ ρ) v (kL_types h hρ) (by omega) (by omega)) ?_
    intro r hr
    have hG : kG (L_types σ) (L_types (L_set_types σ ρ)) 0 0 := kG_eq hp
    exact kP_mono hG hr
theorem s_L_upperBound_9 {rec : StL → Int32 → Int32 → Int32 → Option ((Int32 ⊕ Nat) × StL × Nat × Nat)} {k : Nat} (hk2 : k ≤ 2) (hr : kUp n g d rec k) {σ : StL} (h : kL σ n g d) : ∀ (f i : Nat) (x4 x5 : Int32), i ≤ 100 → 100 < f + i → k_ok (f_L_upperBound_9 rec f σ (nI k) x4 x5 (nI i)) (kP σ n g d) := by
  obtain ⟨t, ht⟩ := h.2.2.2
  have k69 : ∀ (i : Nat) (x4 x5 : Int32), i ≤ 100 → k_ok (f_L_upperBound_69 rec σ (nI k) x4 x5 (nI i)) (kP σ n g d) := by
    intro i x4 x5 hi
    unfold f_L_upperBound_69
    refine k_if (fun _ => s_L_upperBound_95 rec hi 1000 0 σ _ h (by omega) (by omega)) (fun _ => ?_)
    refine k_bind (s_L_boundByClasses hk2 hr h _ _) ?_
    rintro ⟨v, τ, K, N⟩ ⟨⟨w, e⟩, hτ, hG⟩
    replace e : v = .inl w := e
    subst e
    refine k_ad (k_mono (s_L_upperBound_95 rec hi 1000 0 τ _ hτ (by omega) (by omega)) ?_)
    intro r hr
    exact kP_mono hG hr
  intro f
  induction f with
  | zero => intro i _ _ h1 h2; omega
  | succ f ih =>
    intro i x4 x5 h1 h2
    rw [f_L_upperBound_9]
    unfold f_L_upperBound_9_s
    refine k_if (fun _ => k69 i _ _ h1) (fun h3 => ?_)
    have h4 : ¬ nI 100 ≤ nI i := h3
    rw [nI_leI (by decide) (by omega)] at h4
    refine k_if (fun _ => k69 i _ _ h1) (fun _ => ?_)
    refine k_bind (s_L_isArrayOfOthers h _) ?_
    intro r3 _
    refine k_if (fun _ => k69 i _ _ h1) (fun _ => ?_)
    refine k_bind (s_L_isArrayOfOthers h _) ?_
    intro r4 _
    refine k_if (fun _ => k69 i _ _ h1) (fun _ => ?_)
    refine k_bind (s_T_elementOf ht _) ?_
    intro r5 _
    refine k_bind (s_T_elementOf ht _) ?_
    intro r6 _
    rw [nI_1]
    exact ih (i + 1) _ _ (by omega) (by omega)
theorem s_L_upperBound : ∀ f : Nat, f ≤ 3 → kUp n g d (f_L_upperBound f) f := by
  intro f
  induction f with
  | zero => intro _ σ a b k _ hk; omega
  | succ f ih =>
    intro hf σ a b k h hk
    rw [f_L_upperBound]
    unfold f_L_upperBound_s
    have hr : kUp n g d (f_L_upperBound f) k := by
      intro τ a b j hτ hj
      exact ih (by omega) τ a b j hτ (by omega)
    exact s_L_upperBound_9 (by omega) hr h 1000 0 a b (by omega) (by omega)
end
/-! THE LOWER BOUND of the class -/
section
variable {n g d : Nat}
def kS (σ : StL) (n g d : Nat) (r : Int32 × StL) : Prop := kL r.2 n g d ∧ T_parts (L_types r.2) = T_parts (L_types σ)
theorem kS_trans {σ τ : StL} {r : Int32 × StL} (hp : T_parts (L_types τ) = T_parts (L_types σ)) (h : kS τ n g d r) : kS σ n g d r := ⟨h.1, h.2.trans hp⟩
theorem s_L_gatherParts_75 (x2 : Int32) {p m : Nat} (hp : p ≤ 30) (hm : m ≤ 30) : ∀ (f i : Nat) (σ : StL), kL σ n g d → i ≤ m → m < f + i → k_ok (f_L_gatherParts_75 f σ x2 (nI p) (nI m) (nI i)) (fun r => kS σ n g d r ∧ ∃ c, c ≤ 60 ∧ r.1 = nI c) := by
  intro f
  induction f with
  | zero => intro i σ _ h1 h2; omega
  | succ f ih =>
    intro i σ h h1 h2
    obtain ⟨t, ht⟩ := h.2.2.2
    rw [f_L_gatherParts_75]
    unfold f_L_gatherParts_75_s
    refine k_if (fun _ => k_some ⟨⟨h, rfl⟩, ⟨p + m, by omega, nI_add p m⟩⟩) (fun h3 => ?_)
    rw [nI_leI (by omega) (by omega)] at h3
    refine k_bind (s_T_partOf ht _ _) ?_
    intro r3 _
    rw [nI_add]
    refine k_guard (nI_in (by omega) (by decide)) ?_
    rw [nI_1]
    have hL : kL (L_put_gathered σ (nI (p + i)) r3) n g d := h
    exact ih (i + 1) _ hL (by omega) (by omega)
theorem s_L_gatherParts_43 (x1 x2 : Int32) {p m : Nat} (hp : p ≤ 30) (hm : m ≤ 30) : ∀ (f i : Nat) (σ : StL), kL σ n g d → i ≤ p → p < f + i → k_ok (f_L_gatherParts_43 f σ x1 x2 (nI p) (nI m) (nI i)) (fun r => kS σ n g d r ∧ ∃ c, c ≤ 60 ∧ r.1 = nI c) := by
  intro f
  induction f with
  | zero => intro i σ _ h1 h2; omega
  | succ f ih =>
    intro i σ h h1 h2
    obtain ⟨t, ht⟩ := h.2.2.2
    rw [f_L_gatherParts_43]
    unfold f_L_gatherParts_43_s
    refine k_if (fun _ => s_L_gatherParts_75 x2 hp hm 1000 0 σ h (by omega) (by omega)) (fun h3 => ?_)
    rw [nI_leI (by omega) (by omega)] at h3
    refine k_bind (s_T_partOf ht _ _) ?_
    intro r3 _
    refine k_guard (nI_in (by omega) (by decide)) ?_
    rw [nI_1]
    have hL : kL (L_put_gathered σ (nI i) r3) n g d := h
    exact ih (i + 1) _ hL (by omega) (by omega)
theorem k_min30 {r : Int32} (h : ∃ m, m ≤ 90 ∧ r = nI m) : ∃ m, m ≤ 30 ∧ (if r < 30 then r else 30) = nI m := by
  obtain ⟨m, hm, rfl⟩ := h
  split
  · rename_i h1
    have h2 : nI m < nI 30 := h1
    rw [nI_ltI (by omega) (by decide)] at h2
    exact ⟨m, by omega, rfl⟩
  · exact ⟨30, by omega, rfl⟩
theorem s_L_gatherParts {σ : StL} (h : kL σ n g d) (x1 x2 : Int32) : k_ok (f_L_gatherParts σ x1 x2) (fun r => kS σ n g d r ∧ ∃ c, c ≤ 60 ∧ r.1 = nI c) := by
  obtain ⟨t, ht⟩ := h.2.2.2
  unfold f_L_gatherParts
  refine k_bind (s_T_countParts ht _) ?_
  intro r1 h1
  refine k_bind (s_T_countParts ht _) ?_
  intro r2 h2
  obtain ⟨a, ha, ea⟩ := k_min30 h1
  obtain ⟨b, hb, eb⟩ := k_min30 h2
  rw [ea, eb]
  refine k_if (fun _ => k_some ⟨⟨h, rfl⟩, ⟨0, by omega, rfl⟩⟩) (fun _ => ?_)
  refine k_if (fun _ => k_some ⟨⟨h, rfl⟩, ⟨0, by omega, rfl⟩⟩) (fun _ => ?_)
  exact s_L_gatherParts_43 x1 x2 ha hb 1000 0 σ h (by omega) (by omega)
theorem s_L_below100 {σ : StL} (h : kL σ n g d) (a b : Int32) : k_ok (f_L_liesBelow 101 σ a b 100) (fun r => kS σ n g d r ∧ (r.1 = 0 ∨ r.1 = 1)) := by
  have e : (100 : Int32).toInt = 100 := by decide
  refine k_mono (s_L_liesBelow 101 σ a b 100 h (by rw [e]; decide) (by rw [e]; decide)) ?_
  rintro r ⟨h1, h2, h3⟩
  exact ⟨⟨h1, h2⟩, h3⟩
theorem s_L_dropNeedless_4 {m : Nat} (hm : m ≤ 60) : ∀ (f i p : Nat) (σ : StL), kL σ n g d → i ≤ m → p ≤ i → m < f + i → k_ok (f_L_dropNeedless_4 f σ (nI m) (nI p) (nI i)) (fun r => kS σ n g d r ∧ ∃ c, c ≤ 60 ∧ r.1 = nI c) := by
  intro f
  induction f with
  | zero => intro i p σ _ h1 h2 h3; omega
  | succ f ih =>
    intro i p σ h h1 h2 h3
    rw [f_L_dropNeedless_4]
    unfold f_L_dropNeedless_4_s
    refine k_if (fun _ => ?_) (fun h4 => ?_)
    · have z : (0 : Int32).toNatClampNeg = 0 := by decide
      rw [z, nI_clamp (by omega)]
      refine k_guard ?_ (k_some ⟨⟨h, rfl⟩, ⟨p, by omega, rfl⟩⟩)
      have q1 : ¬ (0 : Int32) < 0 := by decide
      have q2 : ¬ nI p < 0 := nI_pos (by omega)
      rintro (q | q | q | q | q)
      · exact q1 q
      · exact q1 q
      · exact q2 q
      · omega
      · omega
    · rw [nI_leI (by omega) (by omega)] at h4
      refine k_guard (nI_in (by omega) (by decide)) ?_
      have inner : ∀ (f2 j : Nat) (τ : StL) (y : Int32), kL τ n g d → T_parts (L_types τ) = T_parts (L_types σ) → j ≤ m → m < f2 + j → k_ok (f_L_dropNeedless_20 (f_L_dropNeedless_4 f) f2 τ (nI m) (nI p) (nI i) y (nI j)) (fun r => kS σ n g d r ∧ ∃ c, c ≤ 60 ∧ r.1 = nI c) := by
        intro f2
        induction f2 with
        | zero => intro j τ y _ _ h5 h6; omega
        | succ f2 ih2 =>
          intro j τ y hτ hp h5 h6
          rw [f_L_dropNeedless_20]
          unfold f_L_dropNeedless_20_s
          have next : ∀ (ρ : StL) (p' : Nat), kL ρ n g d → T_parts (L_types ρ) = T_parts (L_types σ) → p' ≤ i + 1 → k_ok (f_L_dropNeedless_4 f ρ (nI m) (nI p') (nI i + 1)) (fun r => kS σ n g d r ∧ ∃ c, c ≤ 60 ∧ r.1 = nI c) := by
            intro ρ p' hρ hpρ hp'
            rw [nI_1]
            refine k_mono (ih (i + 1) p' ρ hρ (by omega) hp' (by omega)) ?_
            rintro r ⟨q1, q2⟩
            exact ⟨kS_trans hpρ q1, q2⟩
          refine k_if (fun _ => ?_) (fun h7 => ?_)
          · refine k_guard (nI_in (by omega) (by decide)) ?_
            rw [nI_1 p]
            have hL : kL (L_put_row τ (nI p) y) n g d := hτ
            exact next _ (p + 1) hL hp (by omega)
          · rw [nI_leI (by omega) (by omega)] at h7
            refine k_guard (nI_in (by omega) (by decide)) ?_
            have go20 : ∀ ρ : StL, kL ρ n g d → T_parts (L_types ρ) = T_parts (L_types σ) → k_ok (f_L_dropNeedless_20 (f_L_dropNeedless_4 f) f2 ρ (nI m) (nI p) (nI i) y (nI j + 1)) (fun r => kS σ n g d r ∧ ∃ c, c ≤ 60 ∧ r.1 = nI c) := by
              intro ρ hρ hpρ
              rw [nI_1]
              exact ih2 (j + 1) ρ y hρ hpρ (by omega) (by omega)
            refine k_if (fun _ => k_if (fun _ => go20 τ hτ hp) (fun _ => next τ p hτ hp (by omega))) (fun _ => ?_)
            refine k_bind (s_L_below100 hτ _ _) ?_
            rintro ⟨v, ρ⟩ ⟨⟨hρ, hpρ⟩, _⟩
            exact k_if (fun _ => go20 ρ hρ (hpρ.trans hp)) (fun _ => next ρ p hρ (hpρ.trans hp) (by omega))
      exact inner 1000 0 σ _ h rfl (by omega) (by omega)
theorem s_L_closeRow_4 : ∀ (f i p : Nat) (σ : StL), kL σ n g d → i ≤ 30 → p ≤ i → 30 < f + i → k_ok (f_L_closeRow_4 f σ (nI p) (nI i)) (fun r => kS σ n g d r) := by
  intro f
  induction f with
  | zero => intro i p σ _ h1 h2 h3; omega
  | succ f ih =>
    intro i p σ h h1 h2 h3
    rw [f_L_closeRow_4]
    unfold f_L_closeRow_4_s
    refine k_if (fun _ => k_some ⟨h, rfl⟩) (fun h4 => ?_)
    have h5 : ¬ nI 30 ≤ nI i := h4
    rw [nI_leI (by decide) (by omega)] at h5
    have hi : ¬ (nI i < 0 ∨ 90 ≤ (nI i).toNatClampNeg) := nI_in (by omega) (by decide)
    refine k_guard hi (k_if (fun _ => ?_) (fun _ => ?_))
    · rw [nI_1]; exact ih (i + 1) p σ h (by omega) (by omega) (by omega)
    · refine k_guard hi (k_guard (nI_in (by omega) (by decide)) ?_)
      rw [nI_1, nI_1]
      have hL : kL (L_put_row σ (nI p) ((L_row σ) (nI i).toNatClampNeg)) n g d := h
      exact ih (i + 1) (p + 1) _ hL (by omega) (by omega) (by omega)
theorem s_L_orderByClass_12 {m : Nat} (hm : m ≤ 60) : ∀ (f i : Nat) (x2 : Int32) (σ : StL), kL σ n g d → i ≤ m → m < f + i → k_ok (f_L_orderByClass_12 f σ (nI m) x2 (nI i)) (fun r => kS σ n g d r) := by
  intro f
  induction f with
  | zero => intro i x2 σ _ h1 h2; omega
  | succ f ih =>
    intro i x2 σ h h1 h2
    obtain ⟨t, ht⟩ := h.2.2.2
    rw [f_L_orderByClass_12]
    unfold f_L_orderByClass_12_s
    refine k_if (fun _ => ?_) (fun h3 => ?_)
    · refine k_if (fun _ => ?_) (fun _ => k_some ⟨h, rfl⟩)
      refine k_bind (P := fun r => kS σ n g d r) ?_ ?_
      · exact s_L_closeRow_4 1000 0 0 σ h (by omega) (by omega) (by omega)
      · intro r hr
        exact k_some hr
    · rw [nI_leI (by omega) (by omega)] at h3
      have hi : ¬ (nI i < 0 ∨ 60 ≤ (nI i).toNatClampNeg) := nI_in (by omega) (by decide)
      refine k_guard hi ?_
      refine k_bind (s_T_classOf ht _) ?_
      intro r2 _
      refine k_if (fun _ => k_some ⟨h, rfl⟩) (fun h4 => ?_)
      obtain ⟨c, hc, rfl⟩ := nI_of h4
      refine k_if (fun _ => k_some ⟨h, rfl⟩) (fun h5 => ?_)
      have h6 : ¬ nI 30 ≤ nI c := h5
      rw [nI_leI (by decide) hc] at h6
      have hi2 : ¬ (nI c < 0 ∨ 90 ≤ (nI c).toNatClampNeg) := nI_in (by omega) (by decide)
      refine k_guard hi2 ?_
      refine k_if (fun _ => ?_) (fun _ => k_some ⟨h, rfl⟩)
      have k72 : ∀ y : Int32, k_ok (f_L_orderByClass_72 (f_L_orderByClass_12 f) σ (nI m) y (nI i) (nI c)) (fun r => kS σ n g d r) := by
        intro y
        unfold f_L_orderByClass_72
        refine k_guard hi (k_guard hi2 ?_)
        rw [nI_1]
        have hL : kL (L_put_row σ (nI c) ((L_gathered σ) (nI i).toNatClampNeg)) n g d := h
        exact ih (i + 1) y _ hL (by omega) (by omega)
      refine k_bind (s_C_isFace h.2.2.1 _) ?_
      intro r3 _
      exact k_if (fun _ => k72 _) (fun _ => k72 _)
end
-- part 08.16.L3.lean.txt
/-! The class's public methods: each answers, keeps the tables sound, throws only what its head tells, and costs a cell and six slots at most, but for the growing row of parts. -/
section
variable {σ : StL} {n g d : Nat}
theorem kG_refl0 {τ : StT} : kG τ τ 0 0 := ⟨by omega, by omega⟩
theorem s_L_declare (h : kL σ n g d) (x1 x2 : Int32) : k_ok (f_L_declare σ x1 x2) (fun r => ((n = 30 ∨ (¬ x2 = 0 ∧ 6 ≤ g)) → r = (.inr 2, σ, 1, 6)) ∧ (¬ (n = 30 ∨ (¬ x2 = 0 ∧ 6 ≤ g)) → r.1 = .inl (nI n) ∧ kL r.2.1 (n + 1) (if x2 = 0 then g else g + 1) d ∧ L_types r.2.1 = L_types σ ∧ r.2.2 = (0, 0))) := by
  have hn := h.2.2.1.2.1
  have hg := h.2.2.1.2.2.2.2
  have en : f_C_count (L_classes σ) = nI n := h.2.2.1.1
  have eg : f_C_countGeneric (L_classes σ) = nI g := h.2.2.1.2.2.2.1
  have k48 : n < 30 → k_ok (f_L_declare_48 σ x1 x2) (fun r => r.1 = .inl (nI n) ∧ kL r.2.1 (n + 1) (if x2 = 0 then g else g + 1) d ∧ L_types r.2.1 = L_types σ ∧ r.2.2 = (0, 0)) := by
    intro hlt
    unfold f_L_declare_48
    refine k_bind (s_C_add h.2.2.1 hlt _ _) ?_
    rintro ⟨v, τ⟩ ⟨e, hk⟩
    replace e : v = nI n := e
    subst e
    exact k_some ⟨rfl, ⟨h.1, h.2.1, hk, h.2.2.2⟩, rfl, rfl⟩
  unfold f_L_declare
  rw [en, eg]
  refine k_if (fun h1 => ?_) (fun h1 => ?_)
  · have h2 : nI n < nI 30 := h1
    rw [nI_ltI (by omega) (by decide)] at h2
    refine k_if (fun h3 => ?_) (fun h3 => ?_)
    · have nc : ¬ (n = 30 ∨ (¬ x2 = 0 ∧ 6 ≤ g)) := by
        rintro (q | ⟨q, _⟩)
        · omega
        · exact q h3
      exact k_mono (k48 h2) (fun r hr => ⟨fun q => absurd q nc, fun _ => hr⟩)
    · refine k_if (fun h4 => ?_) (fun h4 => ?_)
      · have h5 : nI g < nI 6 := h4
        rw [nI_ltI (by omega) (by decide)] at h5
        have nc : ¬ (n = 30 ∨ (¬ x2 = 0 ∧ 6 ≤ g)) := by rintro (q | ⟨_, q⟩) <;> omega
        exact k_mono (k48 h2) (fun r hr => ⟨fun q => absurd q nc, fun _ => hr⟩)
      · have h5 : ¬ nI g < nI 6 := h4
        rw [nI_ltI (by omega) (by decide)] at h5
        have yc : n = 30 ∨ (¬ x2 = 0 ∧ 6 ≤ g) := Or.inr ⟨h3, by omega⟩
        exact k_some ⟨fun _ => rfl, fun q => absurd yc q⟩
  · have h2 : ¬ nI n < nI 30 := h1
    rw [nI_ltI (by omega) (by decide)] at h2
    have yc : n = 30 ∨ (¬ x2 = 0 ∧ 6 ≤ g) := Or.inl (by omega)
    exact k_some ⟨fun _ => rfl, fun q => absurd yc q⟩
theorem s_L_above (h : kL σ n g d) (x1 x2 : Int32) : k_ok (f_L_above σ x1 x2) (kQ σ n g d [1, 2, 3]) := by
  have k14 : k_ok (f_L_above_14 σ x1 x2) (kQ σ n g d [1, 2, 3]) := by
    unfold f_L_above_14
    refine k_bind (s_C_mayGet h.2.2.1 _) ?_
    intro r2 _
    refine k_if (fun _ => k_some (kQ_thr h (by decide))) (fun _ => ?_)
    refine k_bind (s_L_isTellable h _ _) ?_
    intro r3 _
    refine k_if (fun _ => k_some (kQ_thr h (by decide))) (fun _ => ?_)
    refine k_bind (s_C_clashes h.2.2.1 _ _) ?_
    intro r4 _
    refine k_if (fun _ => ?_) (fun _ => k_some (kQ_thr h (by decide)))
    refine k_bind (s_A_forget _) ?_
    intro r5 _
    refine k_bind (s_C_put (σ := L_classes (L_set_answers σ r5.2)) h.2.2.1 _ _) ?_
    rintro ⟨v, τ⟩ hτ
    refine k_some ⟨(fun k e => nomatch e), ⟨h.1, h.2.1, hτ, h.2.2.2⟩, ?_, ?_⟩
    · show 0 + (T_parts (L_types σ)).1 ≤ 1 + (T_parts (L_types σ)).1
      omega
    · show 0 + 2 * (T_parts (L_types σ)).1 ≤ 6 + 2 * (T_parts (L_types σ)).1
      omega
  unfold f_L_above
  refine k_rc (fun _ => k_ad (k_some (kQ_thr' h (by decide)))) (fun _ => k_ad ?_)
  refine k_if (fun _ => k_mono k14 (fun r hr => hr)) (fun _ => ?_)
  refine k_rt (fun _ => k_ad (k_some (kQ_thr' h (by decide)))) (fun _ => k_ad ?_)
  exact k_mono k14 (fun r hr => hr)
theorem s_L_named (h : kL σ n g d) (x1 x2 x3 : Int32) : k_ok (f_L_named σ x1 x2 x3) (kQ σ n g d [1, 2, 3]) := by
  obtain ⟨t, ht⟩ := h.2.2.2
  have k89 : k_ok (f_L_named_89 σ x1 x2 x3) (kQ σ n g d [1, 2, 3]) := by
    unfold f_L_named_89
    refine k_bind (s_T_makeNamed ht _ _) ?_
    rintro ⟨v, τ⟩ ⟨hk, hp⟩
    have hG : kG (L_types σ) (L_types (L_set_types σ τ)) 0 0 := kG_eq hp
    exact k_mono (k_end (es := [1, 2, 3]) (kL_types h hk) hG (by decide)) (fun r hr => hr)
  have k53 : k_ok (f_L_named_53 σ) (kQ σ n g d [1, 2, 3]) := k_some (kQ_thr h (by decide))
  have k40 : ∀ y : Int32, k_ok (f_L_named_40 σ x1 x2 x3 y) (kQ σ n g d [1, 2, 3]) := by
    intro y
    unfold f_L_named_40
    refine k_bind (s_C_isGeneric h.2.2.1 _) ?_
    intro r2 _
    refine k_if (fun _ => ?_) (fun _ => k53)
    refine k_if (fun _ => k89) (fun _ => ?_)
    refine k_bind (s_T_kindOf ht _) ?_
    intro r5 _
    exact k_if (fun _ => k_some (kQ_thr h (by decide))) (fun _ => k89)
  have k29 : ∀ y : Int32, k_ok (f_L_named_29 σ x1 x2 x3 y) (kQ σ n g d [1, 2, 3]) := by
    intro y
    unfold f_L_named_29
    exact k_if (fun _ => k_if (fun _ => k40 _) (fun _ => k53)) (fun _ => k40 _)
  have k14 : k_ok (f_L_named_14 σ x1 x2 x3) (kQ σ n g d [1, 2, 3]) := by
    unfold f_L_named_14 f_L_named_24
    exact k_if (fun _ => k29 _) (fun _ => k_if (fun _ => k29 _) (fun _ => k29 _))
  unfold f_L_named
  refine k_rc (fun _ => k_ad (k_some (kQ_thr' h (by decide)))) (fun _ => k_ad ?_)
  refine k_if (fun _ => k_mono k14 (fun r hr => hr)) (fun _ => ?_)
  refine k_rt (fun _ => k_ad (k_some (kQ_thr' h (by decide)))) (fun _ => k_ad ?_)
  exact k_mono k14 (fun r hr => hr)
theorem s_L_array (h : kL σ n g d) (x1 : Int32) : k_ok (f_L_array σ x1) (kQ σ n g d [1, 2]) := by
  obtain ⟨t, ht⟩ := h.2.2.2
  unfold f_L_array
  refine k_rt (fun _ => k_ad (k_some (kQ_thr' h (by decide)))) (fun _ => k_ad ?_)
  refine k_bind (s_T_makeArray ht _) ?_
  rintro ⟨v, τ⟩ ⟨hk, hp⟩
  have hG : kG (L_types σ) (L_types (L_set_types σ τ)) 0 0 := kG_eq hp
  exact k_mono (k_end (es := [1, 2]) (kL_types h hk) hG (by decide)) (fun r hr => hr)
theorem s_L_upper (h : kL σ n g d) (x1 x2 : Int32) : k_ok (f_L_upper σ x1 x2) (kQ σ n g d [1, 2]) := by
  unfold f_L_upper
  refine k_rt (fun _ => k_ad (k_some (kQ_thr' h (by decide)))) (fun _ => k_ad ?_)
  refine k_rt (fun _ => k_ad (k_some (kQ_thr' h (by decide)))) (fun _ => k_ad ?_)
  have hd := h.2.1
  have e : L_depth σ = nI d := h.1
  rw [show L_depth ((Sum.inl (0 : Int32) : Int32 ⊕ Nat), σ, 0, 0).2.1 = nI d from e]
  refine k_bind (s_L_upperBound 3 (by omega) σ x1 x2 d h (by omega)) ?_
  rintro ⟨v, τ, K, N⟩ ⟨⟨w, e⟩, hτ, hG⟩
  replace e : v = .inl w := e
  subst e
  refine k_ad ?_
  exact k_mono (k_end (es := [1, 2]) hτ hG (by decide)) (fun r hr => hr)
theorem s_L_lower (h : kL σ n g d) (x1 x2 : Int32) : k_ok (f_L_lower σ x1 x2) (kQ σ n g d [1, 2]) := by
  have ret : ∀ (τ : StL) (v : Int32), kL τ n g d → T_parts (L_types τ) = T_parts (L_types σ) → kQ σ n g d [1, 2] (.inl v, τ, 0, 0) := by
    intro τ v hτ hp
    refine ⟨(fun k e => nomatch e), hτ, ?_, ?_⟩
    · show 0 + (T_parts (L_types σ)).1 ≤ 1 + (T_parts (L_types τ)).1
      rw [hp]; omega
    · show 0 + 2 * (T_parts (L_types σ)).1 ≤ 6 + 2 * (T_parts (L_types τ)).1
      rw [hp]; omega
  unfold f_L_lower
  refine k_rt (fun _ => k_ad (k_some (kQ_thr' h (by decide)))) (fun _ => k_ad ?_)
  refine k_rt (fun _ => k_ad (k_some (kQ_thr' h (by decide)))) (fun _ => k_ad ?_)
  refine k_bind (s_L_below100 h _ _) ?_
  rintro ⟨v3, σ3⟩ ⟨⟨h3, p3⟩, _⟩
  refine k_if (fun _ => ?_) (fun _ => k_some (ret σ3 _ h3 p3))
  refine k_bind (s_L_below100 h3 _ _) ?_
  rintro ⟨v4, σ4⟩ ⟨⟨h4, p4⟩, _⟩
  replace h4 : kL σ4 n g d := h4
  replace p4 : T_parts (L_types σ4) = T_parts (L_types σ) := p4.trans p3
  refine k_if (fun _ => ?_) (fun _ => k_some (ret σ4 _ h4 p4))
  refine k_bind (s_L_gatherParts h4 _ _) ?_
  rintro ⟨v5, σ5⟩ ⟨⟨h5, p5⟩, ⟨c, hc, e⟩⟩
  replace e : v5 = nI c := e
  subst e
  replace p5 : T_parts (L_types σ5) = T_parts (L_types σ) := p5.trans p4
  refine k_bind (s_L_dropNeedless_4 hc 1000 0 0 σ5 h5 (by omega) (by omega) (by omega)) ?_
  rintro ⟨v6, σ6⟩ ⟨⟨h6, p6⟩, ⟨c6, hc6, e⟩⟩
  replace e : v6 = nI c6 := e
  subst e
  replace h6 : kL σ6 n g d := h6
  replace p6 : T_parts (L_types σ6) = T_parts (L_types σ) := p6.trans p5
  refine k_bind (P := fun r => kS σ6 n g d r) ?_ ?_
  · unfold f_L_orderByClass
    have hL : kL (L_set_row σ6 (J_fill (L_row σ6) 90 (-1 : Int32))) n g d := h6
    exact s_L_orderByClass_12 hc6 1000 0 _ _ hL (by omega) (by omega)
  rintro ⟨v7, σ7⟩ ⟨h7, p7⟩
  replace h7 : kL σ7 n g d := h7
  replace p7 : T_parts (L_types σ7) = T_parts (L_types σ) := p7.trans p6
  refine k_if (fun _ => k_some (ret σ7 _ h7 p7)) (fun _ => ?_)
  obtain ⟨t, ht⟩ := h7.2.2.2
  refine k_bind (s_T_makeIntersection ht (a := 0) (by omega) (90, L_row σ7) rfl _) ?_
  rintro ⟨v8, τ, K, N⟩ ⟨⟨w, e⟩, hτ, hG⟩
  replace e : v8 = .inl w := e
  subst e
  refine k_ad ?_
  have hG' : kG (L_types σ) (L_types (L_set_types σ7 τ)) K N := by
    have hG2 : kG (L_types σ7) τ K N := hG
    unfold kG at hG2 ⊢
    rw [p7] at hG2
    exact hG2
  exact k_mono (k_end (es := [1, 2]) (kL_types h7 hτ) hG' (by decide)) (fun r hr => hr)
theorem s_L_isBelow (h : kL σ n g d) (x1 x2 : Int32) : k_ok (f_L_isBelow σ x1 x2) (kQ σ n g d [1]) := by
  unfold f_L_isBelow
  refine k_rt (fun _ => k_ad (k_some (kQ_thr' h (by decide)))) (fun _ => k_ad ?_)
  refine k_rt (fun _ => k_ad (k_some (kQ_thr' h (by decide)))) (fun _ => k_ad ?_)
  refine k_bind (s_L_below100 h _ _) ?_
  rintro ⟨v3, σ3⟩ ⟨⟨h3, p3⟩, _⟩
  replace p3 : T_parts (L_types σ3) = T_parts (L_types σ) := p3
  refine k_some ⟨(fun k e => nomatch e), h3, ?_, ?_⟩
  · show 0 + 0 + 0 + (T_parts (L_types σ)).1 ≤ 1 + (T_parts (L_types σ3)).1
    rw [p3]; omega
  · show 0 + 0 + 0 + 2 * (T_parts (L_types σ)).1 ≤ 6 + 2 * (T_parts (L_types σ3)).1
    rw [p3]; omega
theorem s_L_look (h : kL σ n g d) (x1 x2 : Int32) : k_ok (f_L_look σ x1 x2) (kQ σ n g d [1, 2]) := by
  obtain ⟨t, ht⟩ := h.2.2.2
  unfold f_L_look
  refine k_rt (fun _ => k_ad (k_some (kQ_thr' h (by decide)))) (fun _ => k_ad ?_)
  refine k_rc (fun _ => k_ad (k_some (kQ_thr' h (by decide)))) (fun _ => k_ad ?_)
  refine k_bind (s_L_find h _ _) ?_
  intro r3 _
  refine k_if (fun _ => k_some (kQ_ret h)) (fun _ => ?_)
  refine k_bind (s_T_makeNamed ht _ _) ?_
  rintro ⟨v, τ⟩ ⟨hk, hp⟩
  have hG : kG (L_types σ) (L_types (L_set_types σ τ)) 0 0 := kG_eq hp
  exact k_mono (k_end (es := [1, 2]) (kL_types h hk) hG (by decide)) (fun r hr => hr)
theorem s_L_box (h : kL σ n g d) (x1 : Int32) : k_ok (f_L_box σ x1) (kQ σ n g d [1]) := by
  obtain ⟨t, ht⟩ := h.2.2.2
  unfold f_L_box
  refine k_rt (fun _ => k_ad (k_some (kQ_thr' h (by decide)))) (fun _ => k_ad ?_)
  refine k_bind (s_T_kindOf ht _) ?_
  intro r2 _
  exact k_if (fun _ => k_some (kQ_ret h)) (fun _ => k_some (kQ_ret h))
theorem s_L_type (h : kL σ n g d) (x1 x2 : Int32) : k_ok (f_L_type σ x1 x2) (kQ σ n g d [1, 3]) := by
  obtain ⟨t, ht⟩ := h.2.2.2
  unfold f_L_type
  refine k_rt (fun _ => k_ad (k_some (kQ_thr' h (by decide)))) (fun _ => k_ad ?_)
  refine k_if (fun _ => k_bind (s_T_kindOf ht _) (fun _ _ => k_some (kQ_ret h))) (fun _ => ?_)
  refine k_if (fun _ => k_bind (s_T_classOf ht _) (fun _ _ => k_some (kQ_ret h))) (fun _ => ?_)
  refine k_if (fun _ => k_bind (s_T_argumentAt ht _) (fun _ _ => k_some (kQ_ret h))) (fun _ => ?_)
  refine k_if (fun _ => k_bind (s_T_kindOf ht _) (fun _ _ => k_if (fun _ => k_bind (s_T_elementOf ht _) (fun _ _ => k_some (kQ_ret h))) (fun _ => k_bind (s_T_argumentAt ht _) (fun _ _ => k_some (kQ_ret h))))) (fun _ => ?_)
  refine k_if (fun _ => k_bind (s_T_countParts ht _) (fun _ _ => k_some (kQ_ret h))) (fun _ => ?_)
  exact k_if (fun _ => k_bind (s_T_sizeOf ht _) (fun _ _ => k_some (kQ_ret h))) (fun _ => k_some (kQ_thr h (by decide)))
theorem s_L_part (h : kL σ n g d) (x1 x2 : Int32) : k_ok (f_L_part σ x1 x2) (kQ σ n g d [1]) := by
  obtain ⟨t, ht⟩ := h.2.2.2
  unfold f_L_part f_L_part_21
  refine k_rt (fun _ => k_ad (k_some (kQ_thr' h (by decide)))) (fun _ => k_ad ?_)
  refine k_if (fun _ => k_some (kQ_thr h (by decide))) (fun _ => ?_)
  refine k_bind (s_T_countParts ht _) ?_
  intro r2 _
  exact k_if (fun _ => k_bind (s_T_partOf ht _ _) (fun _ _ => k_some (kQ_ret h))) (fun _ => k_some (kQ_thr h (by decide)))
theorem s_L_common (h : kL σ n g d) (x1 x2 x3 : Int32) : k_ok (f_L_common σ x1 x2 x3) (kQ σ n g d [1, 3]) := by
  unfold f_L_common
  refine k_rt (fun _ => k_ad (k_some (kQ_thr' h (by decide)))) (fun _ => k_ad ?_)
  refine k_rt (fun _ => k_ad (k_some (kQ_thr' h (by decide)))) (fun _ => k_ad ?_)
  refine k_if (fun _ => k_bind (s_L_commonOf h _ _) (fun _ _ => k_some (kQ_ret h))) (fun _ => ?_)
  exact k_if (fun _ => k_bind (s_L_commonOf h _ _) (fun _ _ => k_bind (s_C_leastOf h.2.2.1 _) (fun _ _ => k_some (kQ_ret h)))) (fun _ => k_some (kQ_thr h (by decide)))
theorem s_L_isUnder (h : kL σ n g d) (x1 x2 : Int32) : k_ok (f_L_isUnder σ x1 x2) (kQ σ n g d [1]) := by
  unfold f_L_isUnder
  refine k_rc (fun _ => k_ad (k_some (kQ_thr' h (by decide)))) (fun _ => k_ad ?_)
  refine k_rc (fun _ => k_ad (k_some (kQ_thr' h (by decide)))) (fun _ => k_ad ?_)
  exact k_bind (s_C_aboveOf h.2.2.1 _) (fun _ _ => k_some (kQ_ret h))
theorem s_L_classed (h : kL σ n g d) (x1 x2 : Int32) : k_ok (f_L_classed σ x1 x2) (kQ σ n g d [1, 3]) := by
  unfold f_L_classed
  refine k_rc (fun _ => k_ad (k_some (kQ_thr' h (by decide)))) (fun _ => k_ad ?_)
  refine k_if (fun _ => k_bind (s_C_isFace h.2.2.1 _) (fun _ _ => k_if (fun _ => k_some (kQ_ret h)) (fun _ => k_some (kQ_ret h)))) (fun _ => ?_)
  refine k_if (fun _ => k_bind (s_C_isGeneric h.2.2.1 _) (fun _ _ => k_if (fun _ => k_some (kQ_ret h)) (fun _ => k_some (kQ_ret h)))) (fun _ => ?_)
  refine k_if (fun _ => k_bind (s_C_countDirect h.2.2.1 _) (fun _ _ => k_some (kQ_ret h))) (fun _ => ?_)
  exact k_if (fun _ => k_bind (s_C_aboveOf h.2.2.1 _) (fun _ _ => k_some (kQ_ret h))) (fun _ => k_some (kQ_thr h (by decide)))
theorem s_L_direct (h : kL σ n g d) (x1 x2 x3 : Int32) : k_ok (f_L_direct σ x1 x2 x3) (kQ σ n g d [1, 3]) := by
  unfold f_L_direct f_L_direct_21
  refine k_rc (fun _ => k_ad (k_some (kQ_thr' h (by decide)))) (fun _ => k_ad ?_)
  refine k_if (fun _ => k_some (kQ_thr h (by decide))) (fun _ => ?_)
  refine k_bind (s_C_countDirect h.2.2.1 _) ?_
  intro r2 _
  refine k_if (fun _ => ?_) (fun _ => k_some (kQ_thr h (by decide)))
  refine k_if (fun _ => k_bind (s_C_directAt h.2.2.1 _ _) (fun _ _ => k_some (kQ_ret h))) (fun _ => ?_)
  exact k_if (fun _ => k_bind (s_C_toldAt h.2.2.1 _ _) (fun _ _ => k_some (kQ_ret h))) (fun _ => k_some (kQ_thr h (by decide)))
theorem s_L_told (h : kL σ n g d) (x1 : Int32) : k_ok (f_L_told σ x1) (kQ σ n g d [3]) := by
  unfold f_L_told
  exact k_if (fun _ => k_some (kQ_ret h)) (fun _ => k_if (fun _ => k_some (kQ_ret h)) (fun _ => k_if (fun _ => k_some (kQ_ret h)) (fun _ => k_if (fun _ => k_some (kQ_ret h)) (fun _ => k_some (kQ_thr h (by decide))))))
end
-- part 08.20.frames.lean.txt
/-! Frames of the reference's state: mF: what a LOOK found; mB: the tables of types, with it. -/
abbrev StB : Type := Int32 × (Nat → Int32) × (Nat → Int32) × (Nat → Int32) × (Nat → Int32) × (Nat → Int32) × (Nat → Int32) × (Nat → Int32) × Int32 × Int32 × Int32 × Int32 × (Nat → Int32)
def mF (σ : StM) (a h g : Int32) : StM := (σ.1, σ.2.1, σ.2.2.1, σ.2.2.2.1, σ.2.2.2.2.1, σ.2.2.2.2.2.1, σ.2.2.2.2.2.2.1, σ.2.2.2.2.2.2.2.1, σ.2.2.2.2.2.2.2.2.1, σ.2.2.2.2.2.2.2.2.2.1, σ.2.2.2.2.2.2.2.2.2.2.1, σ.2.2.2.2.2.2.2.2.2.2.2.1, σ.2.2.2.2.2.2.2.2.2.2.2.2.1, σ.2.2.2.2.2.2.2.2.2.2.2.2.2.1, σ.2.2.2.2.2.2.2.2.2.2.2.2.2.2.1, σ.2.2.2.2.2.2.2.2.2.2.2.2.2.2.2.1, σ.2.2.2.2.2.2.2.2.2.2.2.2.2.2.2.2.1, σ.2.2.2.2.2.2.2.2.2.2.2.2.2.2.2.2.2.1, σ.2.2.2.2.2.2.2.2.2.2.2.2.2.2.2.2.2.2.1, a, h, g, σ.2.2.2.2.2.2.2.2.2.2.2.2.2.2.2.2.2.2.2.2.2.2.1, σ.2.2.2.2.2.2.2.2.2.2.2.2.2.2.2.2.2.2.2.2.2.2.2.1, σ.2.2.2.2.2.2.2.2.2.2.2.2.2.2.2.2.2.2.2.2.2.2.2.2.1, σ.2.2.2.2.2.2.2.2.2.2.2.2.2.2.2.2.2.2.2.2.2.2.2.2.2.1, σ.2.2.2.2.2.2.2.2.2.2.2.2.2.2.2.2.2.2.2.2.2.2.2.2.2.2.1, σ.2.2.2.2.2.2.2.2.2.2.2.2.2.2.2.2.2.2.2.2.2.2.2.2.2.2.2.1, σ.2.2.2.2.2.2.2.2.2.2.2.2.2.2.2.2.2.2.2.2.2.2.2.2.2.2.2.2.1, σ.2.2.2.2.2.2.2.2.2.2.2.2.2.2.2.2.2.2.2.2.2.2.2.2.2.2.2.2.2.1, σ.2.2.2.2.2.2.2.2.2.2.2.2.2.2.2.2.2.2.2.2.2.2.2.2.2.2.2.2.2.2.1, σ.2.2.2.2.2.2.2.2.2.2.2.2.2.2.2.2.2.2.2.2.2.2.2.2.2.2.2.2.2.2.2.1, σ.2.2.2.2.2.2.2.2.2.2.2.2.2.2.2.2.2.2.2.2.2.2.2.2.2.2.2.2.2.2.2.2.1, σ.2.2.2.2.2.2.2.2.2.2.2.2.2.2.2.2.2.2.2.2.2.2.2.2.2.2.2.2.2.2.2.2.2.1, σ.2.2.2.2.2.2.2.2.2.2.2.2.2.2.2.2.2.2.2.2.2.2.2.2.2.2.2.2.2.2.2.2.2.2)
def mB (σ : StM) (b : StB) : StM := (σ.1, σ.2.1, σ.2.2.1, σ.2.2.2.1, σ.2.2.2.2.1, σ.2.2.2.2.2.1, σ.2.2.2.2.2.2.1, σ.2.2.2.2.2.2.2.1, σ.2.2.2.2.2.2.2.2.1, σ.2.2.2.2.2.2.2.2.2.1, b.1, b.2.1, b.2.2.1, b.2.2.2.1, b.2.2.2.2.1, b.2.2.2.2.2.1, b.2.2.2.2.2.2.1, b.2.2.2.2.2.2.2.1, b.2.2.2.2.2.2.2.2.1, b.2.2.2.2.2.2.2.2.2.1, b.2.2.2.2.2.2.2.2.2.2.1, b.2.2.2.2.2.2.2.2.2.2.2.1, b.2.2.2.2.2.2.2.2.2.2.2.2, σ.2.2.2.2.2.2.2.2.2.2.2.2.2.2.2.2.2.2.2.2.2.2.2.1, σ.2.2.2.2.2.2.2.2.2.2.2.2.2.2.2.2.2.2.2.2.2.2.2.2.1, σ.2.2.2.2.2.2.2.2.2.2.2.2.2.2.2.2.2.2.2.2.2.2.2.2.2.1, σ.2.2.2.2.2.2.2.2.2.2.2.2.2.2.2.2.2.2.2.2.2.2.2.2.2.2.1, σ.2.2.2.2.2.2.2.2.2.2.2.2.2.2.2.2.2.2.2.2.2.2.2.2.2.2.2.1, σ.2.2.2.2.2.2.2.2.2.2.2.2.2.2.2.2.2.2.2.2.2.2.2.2.2.2.2.2.1, σ.2.2.2.2.2.2.2.2.2.2.2.2.2.2.2.2.2.2.2.2.2.2.2.2.2.2.2.2.2.1, σ.2.2.2.2.2.2.2.2.2.2.2.2.2.2.2.2.2.2.2.2.2.2.2.2.2.2.2.2.2.2.1, σ.2.2.2.2.2.2.2.2.2.2.2.2.2.2.2.2.2.2.2.2.2.2.2.2.2.2.2.2.2.2.2.1, σ.2.2.2.2.2.2.2.2.2.2.2.2.2.2.2.2.2.2.2.2.2.2.2.2.2.2.2.2.2.2.2.2.1, σ.2.2.2.2.2.2.2.2.2.2.2.2.2.2.2.2.2.2.2.2.2.2.2.2.2.2.2.2.2.2.2.2.2.1, σ.2.2.2.2.2.2.2.2.2.2.2.2.2.2.2.2.2.2.2.2.2.2.2.2.2.2.2.2.2.2.2.2.2.2)
def mBof (σ : StM) : StB := (σ.2.2.2.2.2.2.2.2.2.2.1, σ.2.2.2.2.2.2.2.2.2.2.2.1, σ.2.2.2.2.2.2.2.2.2.2.2.2.1, σ.2.2.2.2.2.2.2.2.2.2.2.2.2.1, σ.2.2.2.2.2.2.2.2.2.2.2.2.2.2.1, σ.2.2.2.2.2.2.2.2.2.2.2.2.2.2.2.1, σ.2.2.2.2.2.2.2.2.2.2.2.2.2.2.2.2.1, σ.2.2.2.2.2.2.2.2.2.2.2.2.2.2.2.2.2.1, σ.2.2.2.2.2.2.2.2.2.2.2.2.2.2.2.2.2.2.1, σ.2.2.2.2.2.2.2.2.2.2.2.2.2.2.2.2.2.2.2.1, σ.2.2.2.2.2.2.2.2.2.2.2.2.2.2.2.2.2.2.2.2.1, σ.2.2.2.2.2.2.2.2.2.2.2.2.2.2.2.2.2.2.2.2.2.1, σ.2.2.2.2.2.2.2.2.2.2.2.2.2.2.2.2.2.2.2.2.2.2.1)
theorem mB_self (σ : StM) : mB σ (mBof σ) = σ := rfl
theorem mB_mB (σ : StM) (b c : StB) : mB (mB σ b) c = mB σ c := rfl
theorem mF_mF (σ : StM) (a h g a' h' g' : Int32) : mF (mF σ a h g) a' h' g' = mF σ a' h' g' := rfl
theorem mF_self (σ : StM) : mF σ (M_found σ) (M_foundHow σ) (M_foundType σ) = σ := rfl
def mK (σ : StM) (a h g : Int32) (β : Nat → Int32) (ν : Int32) : StM := (σ.1, σ.2.1, σ.2.2.1, σ.2.2.2.1, σ.2.2.2.2.1, σ.2.2.2.2.2.1, σ.2.2.2.2.2.2.1, σ.2.2.2.2.2.2.2.1, σ.2.2.2.2.2.2.2.2.1, σ.2.2.2.2.2.2.2.2.2.1, σ.2.2.2.2.2.2.2.2.2.2.1, σ.2.2.2.2.2.2.2.2.2.2.2.1, σ.2.2.2.2.2.2.2.2.2.2.2.2.1, σ.2.2.2.2.2.2.2.2.2.2.2.2.2.1, σ.2.2.2.2.2.2.2.2.2.2.2.2.2.2.1, σ.2.2.2.2.2.2.2.2.2.2.2.2.2.2.2.1, σ.2.2.2.2.2.2.2.2.2.2.2.2.2.2.2.2.1, σ.2.2.2.2.2.2.2.2.2.2.2.2.2.2.2.2.2.1, σ.2.2.2.2.2.2.2.2.2.2.2.2.2.2.2.2.2.2.1, a, h, g, σ.2.2.2.2.2.2.2.2.2.2.2.2.2.2.2.2.2.2.2.2.2.2.1, β, ν, σ.2.2.2.2.2.2.2.2.2.2.2.2.2.2.2.2.2.2.2.2.2.2.2.2.2.1, σ.2.2.2.2.2.2.2.2.2.2.2.2.2.2.2.2.2.2.2.2.2.2.2.2.2.2.1, σ.2.2.2.2.2.2.2.2.2.2.2.2.2.2.2.2.2.2.2.2.2.2.2.2.2.2.2.1, σ.2.2.2.2.2.2.2.2.2.2.2.2.2.2.2.2.2.2.2.2.2.2.2.2.2.2.2.2.1, σ.2.2.2.2.2.2.2.2.2.2.2.2.2.2.2.2.2.2.2.2.2.2.2.2.2.2.2.2.2.1, σ.2.2.2.2.2.2.2.2.2.2.2.2.2.2.2.2.2.2.2.2.2.2.2.2.2.2.2.2.2.2.1, σ.2.2.2.2.2.2.2.2.2.2.2.2.2.2.2.2.2.2.2.2.2.2.2.2.2.2.2.2.2.2.2.1, σ.2.2.2.2.2.2.2.2.2.2.2.2.2.2.2.2.2.2.2.2.2.2.2.2.2.2.2.2.2.2.2.2.1, σ.2.2.2.2.2.2.2.2.2.2.2.2.2.2.2.2.2.2.2.2.2.2.2.2.2.2.2.2.2.2.2.2.2.1, σ.2.2.2.2.2.2.2.2.2.2.2.2.2.2.2.2.2.2.2.2.2.2.2.2.2.2.2.2.2.2.2.2.2.2)
theorem mK_self (σ : StM) : mK σ (M_found σ) (M_foundHow σ) (M_foundType σ) (M_below σ) (M_reckoned σ) = σ := rfl
theorem mB_ex {σ τ : StM} (h : τ = mB σ (mBof τ)) : ∃ b, τ = mB σ b := ⟨_, h⟩
theorem k_10 : ¬ (1 : Int32) = 0 := by decide
-- part 08.21.bits.lean.txt
/-! Int32 by its bits (the first rows: the kit's laws/BITS.to-paste, as given for pasting) -/
def bt (x : Int32) (i : Nat) : Bool := x.toBitVec.getLsbD i
theorem b_ext {x y : Int32} (h : ∀ i, i < 32 → bt x i = bt y i) : x = y := Int32.toBitVec_inj.mp (BitVec.eq_of_getLsbD_eq (fun i hi => h i hi))
theorem b_or (x y : Int32) (i : Nat) : bt (x ||| y) i = (bt x i || bt y i) := by unfold bt; rw [Int32.toBitVec_or, BitVec.getLsbD_or]
theorem b_and (x y : Int32) (i : Nat) : bt (x &&& y) i = (bt x i && bt y i) := by unfold bt; rw [Int32.toBitVec_and, BitVec.getLsbD_and]
theorem b_xor (x y : Int32) (i : Nat) : bt (x ^^^ y) i = (bt x i ^^ bt y i) := by unfold bt; rw [Int32.toBitVec_xor, BitVec.getLsbD_xor]
theorem b_big {x : Int32} {i : Nat} (h : 32 ≤ i) : bt x i = false := BitVec.getLsbD_of_ge _ _ h
theorem b_m1 : ∀ i, i < 32 → bt (-1) i = true := by decide +kernel
theorem b_0 (i : Nat) : bt 0 i = false := BitVec.getLsbD_zero
theorem s_l : ∀ n, n < 32 → ((nI n &&& 31).toBitVec.smod 32).toNat = n := by decide +kernel
theorem b_shl (n : Nat) (hn : n < 32) (x : Int32) {i : Nat} (hi : i < 32) : bt (x <<< (nI n &&& 31)) i = (decide (n ≤ i) && bt x (i - n)) := by
  unfold bt
  rw [Int32.toBitVec_shiftLeft]
  show (x.toBitVec <<< ((nI n &&& 31).toBitVec.smod 32).toNat).getLsbD i = _
  rw [s_l n hn, BitVec.getLsbD_shiftLeft]
  rcases Nat.lt_or_ge i n with h | h
  · simp [h, Nat.not_le.mpr h]
  · simp [hi, h, Nat.not_lt.mpr h]
theorem b_sshr (n : Nat) (hn : n < 32) (x : Int32) {i : Nat} (hi : i < 32) : bt (x >>> (nI n &&& 31)) i = if n + i < 32 then bt x (n + i) else bt x 31 := by
  unfold bt
  rw [Int32.toBitVec_shiftRight]
  show (x.toBitVec.sshiftRight ((nI n &&& 31).toBitVec.smod 32).toNat).getLsbD i = _
  rw [s_l n hn, BitVec.getLsbD_sshiftRight, BitVec.msb_eq_getLsbD_last]
  simp [hi]
theorem b_one (i : Nat) : bt 1 i = decide (i = 0) := by
  rcases Nat.lt_or_ge i 32 with h | h
  · exact (by decide +kernel : ∀ i, i < 32 → bt 1 i = decide (i = 0)) i h
  · rw [b_big h, decide_eq_false (by omega)]
theorem k_bit (x : Int32) (b : Nat) (hb : b < 32) : (x >>> (nI b &&& 31)) &&& 1 = if bt x b = true then 1 else 0 := by
  apply b_ext
  intro i hi
  rw [b_and, b_sshr b hb x hi, b_one]
  by_cases h0 : i = 0
  · subst h0
    rw [if_pos (by omega), Nat.add_zero]
    cases hx : bt x b
    · simp [b_0]
    · simp [b_one]
  · rw [decide_eq_false h0, Bool.and_false]
    split
    · rw [b_one, decide_eq_false h0]
    · rw [b_0]
theorem k_bit1 (x : Int32) (b : Nat) (hb : b < 32) : ((x >>> (nI b &&& 31)) &&& 1 = 1) ↔ bt x b = true := by
  rw [k_bit x b hb]
  split
  · rename_i h; exact ⟨fun _ => h, fun _ => rfl⟩
  · rename_i h; exact ⟨fun q => absurd q (by decide), fun q => absurd q h⟩
theorem k_bit0 (x : Int32) (b : Nat) (hb : b < 32) : ((x >>> (nI b &&& 31)) &&& 1 = 0) ↔ bt x b = false := by
  rw [k_bit x b hb]
  split
  · rename_i h; exact ⟨fun q => absurd q (by decide), fun q => by rw [h] at q; cases q⟩
  · rename_i h
    refine ⟨fun _ => ?_, fun _ => rfl⟩
    cases hx : bt x b
    · rfl
    · exact absurd hx h
theorem k_shl1 (b : Nat) (hb : b < 32) {i : Nat} (hi : i < 32) : bt ((1 : Int32) <<< (nI b &&& 31)) i = decide (i = b) := by
  rw [b_shl b hb 1 hi, b_one]
  by_cases h : i = b
  · subst h; simp
  · rw [decide_eq_false h]
    by_cases h2 : b ≤ i
    · rw [decide_eq_true h2, decide_eq_false (by omega), Bool.and_false]
    · rw [decide_eq_false h2, Bool.false_and]
-- part 08.22.M1.lean.txt
/-! The reference's tables: what holds of them. n classes, t types. -/
def kArg (t : Nat) (ge gc a : Int32) : Prop := (ge = 0 ∧ a = -1) ∨ (ge = 1 ∧ ((∃ x, 8 ≤ x ∧ x < t ∧ a = nI x) ∨ (a = -2 ∧ gc = 1)))
def kOwn (t : Nat) (gc h g : Int32) : Prop := (gc = 0 ∧ h = 0 ∧ g = -1) ∨ (gc = 1 ∧ (h = 1 ∨ h = 2) ∧ ∃ x, 8 ≤ x ∧ x < t ∧ g = nI x)
def kClE (t : Nat) (gn dr to ar ov : Nat → Int32) (c : Nat) : Prop :=
  (gn c = 0 ∨ gn c = 1) ∧ ∃ d, d ≤ c ∧ (0 < c → 0 < d) ∧ dr c = nI d ∧
    (∀ k, k < d → ∃ e, e < c ∧ to (30 * c + k) = nI e ∧ kArg t (gn e) (gn c) (ar (30 * c + k))) ∧
    (∀ k l, k < l → l < d → to (30 * c + k) ≠ to (30 * c + l)) ∧
    (∀ b, b < 32 → (bt (ov c) b = true ↔ ∃ k e, k < d ∧ e < c ∧ to (30 * c + k) = nI e ∧ (e = b ∨ bt (ov e) b = true)))
def kCls (n t : Nat) (gn dr to ar ov : Nat → Int32) : Prop := 13 ≤ n ∧ n ≤ 30 ∧ (∀ c, c < 3 → gn c = 0) ∧ ∀ c, c < n → kClE t gn dr to ar ov c
def kTyE (n : Nat) (gn kd cl hw inn md pc pr : Nat → Int32) (i : Nat) : Prop :=
  (∃ m, 1 ≤ m ∧ m ≤ 100 ∧ md i = nI m) ∧
  ((i < 8 ∧ kd i = 0 ∧ pc i = 0) ∨
   (8 ≤ i ∧ kd i = 1 ∧ pc i = 1 ∧ pr (30 * i) = nI i ∧ ∃ c, c < n ∧ cl i = nI c ∧ kOwn i (gn c) (hw i) (inn i)) ∨
   (8 ≤ i ∧ kd i = 2 ∧ pc i = 0 ∧ ∃ e m, e < i ∧ inn i = nI e ∧ md e = nI m ∧ md i = nI (m + 1)) ∨
   (8 ≤ i ∧ kd i = 3 ∧ ∃ m, m ≤ 30 ∧ pc i = nI m ∧ ∀ k, k < m → ∃ p, p < i ∧ 8 ≤ p ∧ pr (30 * i + k) = nI p ∧ kd p = 1))
def kTyp (n t : Nat) (gn kd cl hw inn md pc pr : Nat → Int32) : Prop := 16 ≤ t ∧ t ≤ 300 ∧ (∀ i, i < t → kTyE n gn kd cl hw inn md pc pr i) ∧ ∀ i, 8 ≤ i → i < 16 → kd i = 1
def kMC (σ : StM) (n t : Nat) : Prop := M_classes σ = nI n ∧ kCls n t (M_generic σ) (M_directs σ) (M_directTo σ) (M_directArg σ) (M_over σ)
def kMT (σ : StM) (n t : Nat) : Prop := M_types σ = nI t ∧ kTyp n t (M_generic σ) (M_kind σ) (M_classOf σ) (M_how σ) (M_inner σ) (M_made σ) (M_partCount σ) (M_partRow σ)
def kM (σ : StM) (n t : Nat) : Prop := kMC σ n t ∧ kMT σ n t
theorem kArg_mono {t t' : Nat} {ge gc a : Int32} (h : kArg t ge gc a) (ht : t ≤ t') : kArg t' ge gc a := by
  rcases h with h | ⟨h1, ⟨x, hx, hx2, e⟩ | h2⟩
  · exact Or.inl h
  · exact Or.inr ⟨h1, Or.inl ⟨x, hx, by omega, e⟩⟩
  · exact Or.inr ⟨h1, Or.inr h2⟩
theorem kOwn_mono {t t' : Nat} {gc h g : Int32} (ho : kOwn t gc h g) (ht : t ≤ t') : kOwn t' gc h g := by
  rcases ho with h | ⟨h1, h2, x, hx, hx2, e⟩
  · exact Or.inl h
  · exact Or.inr ⟨h1, h2, x, hx, by omega, e⟩
theorem kCls_mono {n t t' : Nat} {gn dr to ar ov : Nat → Int32} (h : kCls n t gn dr to ar ov) (ht : t ≤ t') : kCls n t' gn dr to ar ov := by
  refine ⟨h.1, h.2.1, h.2.2.1, ?_⟩
  intro c hc
  obtain ⟨h0, d, h1, h2, h3, h4, h5, h6⟩ := h.2.2.2 c hc
  refine ⟨h0, d, h1, h2, h3, ?_, h5, h6⟩
  intro k hk
  obtain ⟨e, q1, q2, q3⟩ := h4 k hk
  exact ⟨e, q1, q2, kArg_mono q3 ht⟩
theorem kMC_mono {σ : StM} {n t t' : Nat} (h : kMC σ n t) (ht : t ≤ t') : kMC σ n t' := ⟨h.1, kCls_mono h.2 ht⟩
/-- the PARTS of a type -/
theorem kTyp_part {n t : Nat} {gn kd cl hw inn md pc pr : Nat → Int32} (h : kTyp n t gn kd cl hw inn md pc pr) {i : Nat} (hi : i < t) : ∃ m, m ≤ 30 ∧ pc i = nI m ∧ ∀ k, k < m → ∃ p, 8 ≤ p ∧ p ≤ i ∧ pr (30 * i + k) = nI p ∧ kd p = 1 := by
  obtain ⟨_, h1 | h1 | h1 | h1⟩ := h.2.2.1 i hi
  · exact ⟨0, by omega, h1.2.2, fun k hk => by omega⟩
  · refine ⟨1, by omega, h1.2.2.1, fun k hk => ⟨i, h1.1, by omega, ?_, h1.2.1⟩⟩
    have hk0 : k = 0 := by omega
    subst hk0
    exact h1.2.2.2.1
  · exact ⟨0, by omega, h1.2.2.1, fun k hk => by omega⟩
  · obtain ⟨_, _, m, hm, hp, hq⟩ := h1
    refine ⟨m, hm, hp, fun k hk => ?_⟩
    obtain ⟨p, q1, q2, q3, q4⟩ := hq k hk
    exact ⟨p, q2, by omega, q3, q4⟩
/-- a NAMED type's class and ARGUMENT -/
theorem kTyp_named {n t : Nat} {gn kd cl hw inn md pc pr : Nat → Int32} (h : kTyp n t gn kd cl hw inn md pc pr) {i : Nat} (hi : i < t) (hk : kd i = 1) : ∃ c, c < n ∧ cl i = nI c ∧ kOwn i (gn c) (hw i) (inn i) := by
  obtain ⟨_, h1 | h1 | h1 | h1⟩ := h.2.2.1 i hi
  · rw [h1.2.1] at hk; exact absurd hk (by decide)
  · exact h1.2.2.2.2
  · rw [h1.2.1] at hk; exact absurd hk (by decide)
  · rw [h1.2.1] at hk; exact absurd hk (by decide)
theorem kTyp_array {n t : Nat} {gn kd cl hw inn md pc pr : Nat → Int32} (h : kTyp n t gn kd cl hw inn md pc pr) {i : Nat} (hi : i < t) (hk : kd i = 2) : ∃ e m, e < i ∧ inn i = nI e ∧ md e = nI m ∧ md i = nI (m + 1) := by
  obtain ⟨_, h1 | h1 | h1 | h1⟩ := h.2.2.1 i hi
  · rw [h1.2.1] at hk; exact absurd hk (by decide)
  · rw [h1.2.1] at hk; exact absurd hk (by decide)
  · exact h1.2.2.2
  · rw [h1.2.1] at hk; exact absurd hk (by decide)
section
variable {σ : StM} {n t : Nat}
theorem s_M_under {e b : Nat} (he : e < 30) (hb : b < 32) : f_M_under σ (nI e) (nI b) = some (if bt (M_over σ e) b = true then 1 else 0) := by
  unfold f_M_under
  rw [if_neg (nI_in he (by decide)), nI_clamp (by omega)]
  by_cases h : bt (M_over σ e) b = true
  · rw [if_pos ((k_bit1 _ b hb).mpr h), if_pos h]
  · rw [if_neg (fun q => h ((k_bit1 _ b hb).mp q)), if_neg h]
/-- an edge k of class c leads toward class b -/
def kTo (σ : StM) (c b k : Nat) : Prop := ∃ e, e < c ∧ M_directTo σ (30 * c + k) = nI e ∧ (e = b ∨ bt (M_over σ e) b = true)
theorem s_M_climb_55 (h : kMC σ n t) {c b d : Nat} (hc : c < n) (hb : b < n) (hd : d ≤ c) (hto : ∀ k, k < d → ∃ e, e < c ∧ M_directTo σ (30 * c + k) = nI e) (k38 : StM → Int32 → Int32 → Option (Int32 × StM)) :
    ∀ (f k k0 : Nat), k ≤ k0 → k0 < d → kTo σ c b k0 → k0 < f + k → ∃ k1, k1 < d ∧ kTo σ c b k1 ∧ f_M_climb_55 k38 f σ (nI b) (nI c) (nI k) = f_M_climb_101 k38 σ (nI b) (nI c) (nI k1) := by
  have hn := h.2.2.1
  intro f
  induction f with
  | zero => intro k k0 h1 h2 h3 h4; omega
  | succ f ih =>
    intro k k0 h1 h2 h3 h4
    rw [f_M_climb_55]
    unfold f_M_climb_55_s
    obtain ⟨e, he, et⟩ := hto k (by omega)
    have ix : ¬ ((30 * nI c + nI k) < 0 ∨ 900 ≤ (30 * nI c + nI k).toNatClampNeg) := by
      rw [k_30ix]; exact nI_in (by omega) (by decide)
    have cl : (30 * nI c + nI k).toNatClampNeg = 30 * c + k := by rw [k_30ix]; exact nI_clamp (by omega)
    rw [if_neg ix, if_neg ix, cl, et, s_M_under (by omega) (by omega)]
    by_cases q1 : e = b
    · refine ⟨k, by omega, ⟨e, he, et, Or.inl q1⟩, ?_⟩
      rw [if_pos (by rw [q1])]
    · rw [if_neg (by rw [nI_eq (by omega) (by omega)]; exact q1)]
      by_cases q2 : bt (M_over σ e) b = true
      · refine ⟨k, by omega, ⟨e, he, et, Or.inr q2⟩, ?_⟩
        rw [if_pos q2]; rfl
      · have hne : k ≠ k0 := by
          rintro rfl
          obtain ⟨e2, _, et2, q3⟩ := h3
          rw [et] at et2
          rw [nI_eq (by omega) (by omega)] at et2
          subst et2
          rcases q3 with q3 | q3
          · exact q1 q3
          · exact q2 q3
        obtain ⟨k1, p1, p2, p3⟩ := ih (k + 1) k0 (by omega) h2 h3 (by omega)
        refine ⟨k1, p1, p2, ?_⟩
        rw [if_neg q2, ← p3, ← nI_1]; rfl
theorem s_M_climb_38 (h : kMC σ n t) {b : Nat} (hb : b < n) (P : Nat → Int32 → Int32 → Prop)
    (hP : ∀ (c k e : Nat) (hh gg : Int32), c < n → e < c → M_directTo σ (30 * c + k) = nI e → kArg t (M_generic σ e) (M_generic σ c) (M_directArg σ (30 * c + k)) → P c hh gg → P e (if M_directArg σ (30 * c + k) = -2 then hh else if M_directArg σ (30 * c + k) = -1 then 0 else 1) (if M_directArg σ (30 * c + k) = -2 then gg else M_directArg σ (30 * c + k))) :
    ∀ (f c : Nat) (hh gg : Int32), c < n → c < f → (c = b ∨ bt (M_over σ c) b = true) → P c hh gg → k_ok (f_M_climb_38 f (mF σ 1 hh gg) (nI b) (nI c)) (fun r => ∃ h' g', r.2 = mF σ 1 h' g' ∧ P b h' g') := by
  have hn := h.2.2.1
  intro f
  induction f with
  | zero => intro c hh gg h1 h2; omega
  | succ f ih =>
    intro c hh gg h1 h2 h3 h4
    rw [f_M_climb_38]
    unfold f_M_climb_38_s
    refine k_if (fun q => absurd q (by decide : ¬ (1 : Int32) = 0)) (fun _ => ?_)
    refine k_if (fun q => ?_) (fun q => ?_)
    · rw [nI_eq (by omega) (by omega)] at q
      subst q
      exact k_some ⟨hh, gg, rfl, h4⟩
    · rw [nI_eq (by omega) (by omega)] at q
      rcases h3 with h3 | h3
      · exact absurd h3 q
      · obtain ⟨_, d, d1, d2, d3, d4, d5, d6⟩ := h.2.2.2.2 c h1
        obtain ⟨k0, e0, p1, p2, p3, p4⟩ := (d6 b (by omega)).mp h3
        obtain ⟨k1, r1, ⟨e, r2, r3, r4⟩, r5⟩ := s_M_climb_55 (σ := mF σ 1 hh gg) h h1 hb d1 (fun k hk => by obtain ⟨e, q1, q2, _⟩ := d4 k hk; exact ⟨e, q1, q2⟩) (f_M_climb_38 f) 1000 0 k0 (by omega) p1 ⟨e0, p2, p3, p4⟩ (by omega)
        have r5' : f_M_climb_55 (f_M_climb_38 f) 1000 (mF σ 1 hh gg) (nI b) (nI c) 0 = f_M_climb_101 (f_M_climb_38 f) (mF σ 1 hh gg) (nI b) (nI c) (nI k1) := r5
        rw [r5']
        replace r3 : M_directTo σ (30 * c + k1) = nI e := r3
        replace r4 : e = b ∨ bt (M_over σ e) b = true := r4
        obtain ⟨e', s1, s2, s3⟩ := d4 k1 r1
        have ee : e' = e := by
          rw [r3] at s2
          rw [nI_eq (by omega) (by omega)] at s2
          exact s2.symm
        subst ee
        have ix : ¬ ((30 * nI c + nI k1) < 0 ∨ 900 ≤ (30 * nI c + nI k1).toNatClampNeg) := by
          rw [k_30ix]; exact nI_in (by omega) (by decide)
        have cl : (30 * nI c + nI k1).toNatClampNeg = 30 * c + k1 := by rw [k_30ix]; exact nI_clamp (by omega)
        have hnext := hP c k1 e' hh gg h1 r2 r3 s3 h4
        have k144 : ∀ (hh' gg' : Int32), P e' hh' gg' → k_ok (f_M_climb_144 (f_M_climb_38 f) (mF σ 1 hh' gg') (nI b) (nI c) (nI k1)) (fun r => ∃ h' g', r.2 = mF σ 1 h' g' ∧ P b h' g') := by
          intro hh' gg' hp
          unfold f_M_climb_144
          refine k_guard ix ?_
          rw [cl, show M_directTo (mF σ 1 hh' gg') (30 * c + k1) = nI e' from r3]
          exact ih e' hh' gg' (by omega) (by omega) r4 hp
        unfold f_M_climb_101 f_M_climb_135
        refine k_guard ix ?_
        rw [cl]
        refine k_if (fun q1 => ?_) (fun q1 => ?_)
        · replace q1 : M_directArg σ (30 * c + k1) = -2 := q1
          rw [if_pos q1, if_pos q1] at hnext
          exact k144 hh gg hnext
        · replace q1 : ¬ M_directArg σ (30 * c + k1) = -2 := q1
          rw [if_neg q1, if_neg q1] at hnext
          refine k_if (fun q2 => ?_) (fun q2 => ?_)
          · replace q2 : M_directArg σ (30 * c + k1) = -1 := q2
            rw [if_pos q2] at hnext
            exact k144 0 _ hnext
          · replace q2 : ¬ M_directArg σ (30 * c + k1) = -1 := q2
            rw [if_neg q2] at hnext
            exact k144 1 _ hnext
theorem s_M_climb (h : kMC σ n t) {c b : Nat} (hc : c < n) (hb : b < n) (P : Nat → Int32 → Int32 → Prop)
    (hP : ∀ (c k e : Nat) (hh gg : Int32), c < n → e < c → M_directTo σ (30 * c + k) = nI e → kArg t (M_generic σ e) (M_generic σ c) (M_directArg σ (30 * c + k)) → P c hh gg → P e (if M_directArg σ (30 * c + k) = -2 then hh else if M_directArg σ (30 * c + k) = -1 then 0 else 1) (if M_directArg σ (30 * c + k) = -2 then gg else M_directArg σ (30 * c + k)))
    {hh gg : Int32} (h0 : P c hh gg) : k_ok (f_M_climb σ (nI c) hh gg (nI b)) (fun r => ∃ a h' g', r.2 = mF σ a h' g' ∧ (a = 0 ∨ a = 1) ∧ (a = 1 → P b h' g') ∧ (a = 1 ↔ (c = b ∨ bt (M_over σ c) b = true))) := by
  have hn := h.2.2.1
  have k17 : (c = b ∨ bt (M_over σ c) b = true) → k_ok (f_M_climb_22 σ (nI c) hh gg (nI b) 1) (fun r => ∃ a h' g', r.2 = mF σ a h' g' ∧ (a = 0 ∨ a = 1) ∧ (a = 1 → P b h' g') ∧ (a = 1 ↔ (c = b ∨ bt (M_over σ c) b = true))) := by
    intro hq
    unfold f_M_climb_22
    refine k_guard (by decide) ?_
    refine k_mono (s_M_climb_38 h hb P hP 1000 c hh gg hc (by omega) hq h0) ?_
    rintro r ⟨h', g', e1, e2⟩
    exact ⟨1, h', g', e1, Or.inr rfl, fun _ => e2, fun _ => hq, fun _ => rfl⟩
  unfold f_M_climb f_M_climb_17
  refine k_if (fun q => ?_) (fun q => ?_)
  · rw [nI_eq (by omega) (by omega)] at q
    exact k17 (Or.inl q)
  · rw [s_M_under (by omega) (by omega)]
    show k_ok (if (if bt (M_over σ c) b = true then (1 : Int32) else 0) = 0 then f_M_climb_22 σ (nI c) hh gg (nI b) 0 else f_M_climb_22 σ (nI c) hh gg (nI b) 1) _
    by_cases q2 : bt (M_over σ c) b = true
    · rw [if_pos q2]
      rw [if_neg (by decide : ¬ (1 : Int32) = 0)]
      exact k17 (Or.inr q2)
    · rw [if_neg q2, if_pos rfl]
      unfold f_M_climb_22
      refine k_guard (by decide) ?_
      refine k_some ⟨0, hh, gg, rfl, Or.inl rfl, fun q => absurd q (by decide), fun q => absurd q (by decide), fun w => ?_⟩
      rcases w with w | w
      · exact absurd (by rw [w]) q
      · exact absurd w q2
theorem kOwn_step {σ : StM} (ht : t ≤ 300) (c k e : Nat) (hh gg : Int32) (hk : kArg t (M_generic σ e) (M_generic σ c) (M_directArg σ (30 * c + k))) (ho : kOwn t (M_generic σ c) hh gg) : kOwn t (M_generic σ e) (if M_directArg σ (30 * c + k) = -2 then hh else if M_directArg σ (30 * c + k) = -1 then 0 else 1) (if M_directArg σ (30 * c + k) = -2 then gg else M_directArg σ (30 * c + k)) := by
  rcases hk with ⟨q1, q2⟩ | ⟨q1, ⟨x, hx, hx2, q2⟩ | ⟨q2, q3⟩⟩
  · rw [q2, if_neg (by decide), if_pos rfl, if_neg (by decide)]
    exact Or.inl ⟨q1, rfl, rfl⟩
  · have n2 : ¬ M_directArg σ (30 * c + k) = -2 := by rw [q2]; exact k_ne2 (by omega)
    have n1 : ¬ M_directArg σ (30 * c + k) = -1 := by rw [q2]; exact k_ne1 (by omega)
    rw [if_neg n2, if_neg n1, if_neg n2]
    exact Or.inr ⟨q1, Or.inl rfl, x, hx, hx2, q2⟩
  · rw [if_pos q2, if_pos q2]
    rcases ho with ⟨w1, _, _⟩ | ⟨_, w2, w3⟩
    · rw [w1] at q3; exact absurd q3 (by decide)
    · exact Or.inr ⟨q1, w2, w3⟩
/-- a LOOK at class b in type i (no primitive) finds it -/
def kSees (σ : StM) (i b : Nat) : Prop := (M_kind σ i = 2 ∧ b < 3) ∨ ∃ k m p c, M_partCount σ i = nI m ∧ m ≤ 30 ∧ k < m ∧ M_partRow σ (30 * i + k) = nI p ∧ p ≤ i ∧ M_classOf σ p = nI c ∧ c < 30 ∧ (c = b ∨ bt (M_over σ c) b = true)
def kBox (i : Nat) : Nat := if i < 8 then i + 8 else i
/-- what a LOOK at class b leaves in the state -/
def kFd (σ : StM) (t i b : Nat) (r : Int32 × StM) : Prop := ∃ a h g, r.2 = mF σ a h g ∧ (a = 0 ∨ a = 1) ∧ (a = 1 → kOwn t (M_generic σ b) h g) ∧ (a = 1 ↔ kSees σ i b)
theorem s_M_lookAt_57 (h : kM σ n t) {i b : Nat} (hi : i < t) (hb : b < n) {m : Nat} (hm : m ≤ 30) (hc : M_partCount σ i = nI m) (hp : ∀ k, k < m → ∃ p, 8 ≤ p ∧ p ≤ i ∧ M_partRow σ (30 * i + k) = nI p ∧ M_kind σ p = 1) :
    ∀ (f k : Nat) (a hh gg : Int32), k ≤ m → m < f + k → (a = 0 ∨ a = 1) → (a = 1 → kOwn t (M_generic σ b) hh gg) → (a = 1 → kSees σ i b) → (a = 0 → ¬ (M_kind σ i = 2 ∧ b < 3) ∧ ∀ k' p c, k' < k → M_partRow σ (30 * i + k') = nI p → p ≤ i → M_classOf σ p = nI c → c < 30 → ¬ (c = b ∨ bt (M_over σ c) b = true)) → k_ok (f_M_lookAt_57 f (mF σ a hh gg) (nI b) (nI i) (nI k)) (kFd σ t i b) := by
  have ht := h.2.2.2.1
  have hn := h.1.2.2.1
  intro f
  induction f with
  | zero => intro k a hh gg h1 h2; omega
  | succ f ih =>
    intro k a hh gg h1 h2 h3 h4 h41 h40
    rw [f_M_lookAt_57]
    unfold f_M_lookAt_57_s
    refine k_guard (nI_in (by omega) (by decide)) ?_
    rw [nI_clamp (show i < 2 ^ 31 by omega), show M_partCount (mF σ a hh gg) i = nI m from hc]
    refine k_if (fun h5 => ?_) (fun h5 => ?_)
    · rw [nI_leI (by omega) (by omega)] at h5
      refine k_some ⟨a, hh, gg, rfl, h3, h4, h41, fun w => ?_⟩
      rcases h3 with h3 | h3
      · exfalso
        obtain ⟨q1, q2⟩ := h40 h3
        rcases w with w | ⟨k', m', p, c, w1, w2, w3, w4, w5, w6, w7, w8⟩
        · exact q1 w
        · rw [hc, nI_eq (by omega) (by omega)] at w1
          exact q2 k' p c (by omega) w4 w5 w6 w7 w8
      · exact h3
    rw [nI_leI (by omega) (by omega)] at h5
    refine k_if (fun h6 => ?_) (fun h6 => ?_)
    · replace h6 : a = 0 := h6
      obtain ⟨p, p1, p2, p3, p4⟩ := hp k (by omega)
      obtain ⟨c, c1, c2, c3⟩ := kTyp_named h.2.2 (show p < t by omega) p4
      have cl : (30 * nI i + nI k).toNatClampNeg = 30 * i + k := by rw [k_30ix]; exact nI_clamp (by omega)
      have ix : ¬ ((30 * nI i + nI k) < 0 ∨ 9000 ≤ (30 * nI i + nI k).toNatClampNeg) := by
        rw [k_30ix]; exact nI_in (by omega) (by decide)
      have ip : ¬ (nI p < 0 ∨ 300 ≤ (nI p).toNatClampNeg) := nI_in (by omega) (by decide)
      refine k_guard ix ?_
      rw [cl, show M_partRow (mF σ a hh gg) (30 * i + k) = nI p from p3]
      refine k_guard ip (k_guard ip (k_guard ip ?_))
      rw [nI_clamp (show p < 2 ^ 31 by omega), show M_classOf (mF σ a hh gg) p = nI c from c2]
      refine k_bind (s_M_climb (σ := mF σ a hh gg) h.1 c1 hb (fun c h g => kOwn t (M_generic σ c) h g) (fun c k e hh gg _ _ _ hk ho => kOwn_step ht c k e hh gg hk ho) (kOwn_mono c3 (by omega))) ?_
      rintro ⟨v, τ⟩ ⟨a', h', g', e1, e2, e3, e4⟩
      replace e1 : τ = mF σ a' h' g' := e1
      subst e1
      replace e4 : a' = 1 ↔ (c = b ∨ bt (M_over σ c) b = true) := e4
      rw [nI_1]
      refine ih (k + 1) a' h' g' (by omega) (by omega) e2 e3 (fun w => ?_) (fun w => ?_)
      · exact Or.inr ⟨k, m, p, c, hc, hm, by omega, p3, p2, c2, by omega, e4.mp w⟩
      · refine ⟨(h40 h6).1, ?_⟩
        intro k' p' c' q1 q2 q3 q4 q5 q6
        by_cases ek : k' = k
        · subst ek
          rw [p3] at q2
          rw [nI_eq (by omega) (by omega)] at q2
          subst q2
          rw [c2] at q4
          rw [nI_eq (by omega) (by omega)] at q4
          subst q4
          have w1 := e4.mpr q6
          rw [w] at w1
          exact absurd w1 (by decide)
        · exact (h40 h6).2 k' p' c' (by omega) q2 q3 q4 q5 q6
    · replace h6 : ¬ a = 0 := h6
      have ha : a = 1 := by
        rcases h3 with h3 | h3
        · exact absurd h3 h6
        · exact h3
      exact k_some ⟨a, hh, gg, rfl, h3, h4, h41, fun _ => ha⟩
theorem s_M_lookAt_14 (h : kM σ n t) {i b : Nat} (h8 : 8 ≤ i) (hi : i < t) (hb : b < n) : k_ok (f_M_lookAt_14 σ (nI b) (nI i)) (kFd σ t i b) := by
  have ht := h.2.2.2.1
  have hn := h.1.2.2.1
  obtain ⟨m, m1, m2, m3⟩ := kTyp_part h.2.2 hi
  have m3' : ∀ k, k < m → ∃ p, 8 ≤ p ∧ p ≤ i ∧ M_partRow σ (30 * i + k) = nI p ∧ M_kind σ p = 1 := m3
  have go : ∀ a hh gg : Int32, (a = 0 ∨ a = 1) → (a = 1 → kOwn t (M_generic σ b) hh gg) → (a = 1 → kSees σ i b) → (a = 0 → ¬ (M_kind σ i = 2 ∧ b < 3)) → k_ok (f_M_lookAt_57 1000 (mF σ a hh gg) (nI b) (nI i) 0) (kFd σ t i b) := by
    intro a hh gg q1 q2 q3 q4
    exact s_M_lookAt_57 h hi hb m1 m2 m3' 1000 0 a hh gg (by omega) (by omega) q1 q2 q3 (fun w => ⟨q4 w, fun k' p c hk => by omega⟩)
  unfold f_M_lookAt_14
  refine k_guard (nI_in (by omega) (by decide)) ?_
  refine k_if (fun w => ?_) (fun w => ?_)
  · rw [nI_clamp (show i < 2 ^ 31 by omega)] at w
    replace w : M_kind σ i = 2 := w
    refine k_if (fun q => ?_) (fun q => ?_)
    · unfold f_M_lookAt_41
      refine k_guard (by decide) ?_
      have q2 : nI 3 ≤ nI b := q
      rw [nI_leI (by decide) (by omega)] at q2
      exact go 0 0 (-1) (Or.inl rfl) (fun q => absurd q (by decide)) (fun q => absurd q (by decide)) (fun _ z => by omega)
    · unfold f_M_lookAt_41
      refine k_guard (by decide) ?_
      have q2 : ¬ nI 3 ≤ nI b := q
      rw [nI_leI (by decide) (by omega)] at q2
      exact go 1 0 (-1) (Or.inr rfl) (fun _ => Or.inl ⟨h.1.2.2.2.1 b (by omega), rfl, rfl⟩) (fun _ => Or.inl ⟨w, by omega⟩) (fun q => absurd q (by decide))
  · rw [nI_clamp (show i < 2 ^ 31 by omega)] at w
    exact go 0 (M_foundHow σ) (M_foundType σ) (Or.inl rfl) (fun q => absurd q (by decide)) (fun q => absurd q (by decide)) (fun _ z => w z.1)
theorem s_M_lookAt (h : kM σ n t) {i b : Nat} (hi : i < t) (hb : b < n) : k_ok (f_M_lookAt σ (nI i) (nI b)) (kFd σ t (kBox i) b) := by
  have ht := h.2.2.2.1
  have ht2 := h.2.2.1
  unfold f_M_lookAt
  refine k_if (fun q => ?_) (fun q => ?_)
  · have q2 : nI 8 ≤ nI i := q
    rw [nI_leI (by decide) (by omega)] at q2
    rw [show kBox i = i from if_neg (by omega)]
    exact s_M_lookAt_14 h q2 hi hb
  · have q2 : ¬ nI 8 ≤ nI i := q
    rw [nI_leI (by decide) (by omega)] at q2
    have e : nI i + 8 = nI (i + 8) := nI_add i 8
    rw [e, show kBox i = i + 8 from if_pos (by omega)]
    exact s_M_lookAt_14 h (by omega) (by omega) hb
end
-- part 08.24.M2.lean.txt
/-! The reference: adding types. -/
def kEq (i : Nat) (σ τ : StM) : Prop := M_kind τ i = M_kind σ i ∧ M_classOf τ i = M_classOf σ i ∧ M_how τ i = M_how σ i ∧ M_inner τ i = M_inner σ i ∧ M_made τ i = M_made σ i ∧ M_partCount τ i = M_partCount σ i ∧ ∀ k, k < 30 → M_partRow τ (30 * i + k) = M_partRow σ (30 * i + k)
def kAg (t : Nat) (σ τ : StM) : Prop := ∀ i, i < t → kEq i σ τ
theorem kEq_refl (i : Nat) (σ : StM) : kEq i σ σ := ⟨rfl, rfl, rfl, rfl, rfl, rfl, fun _ _ => rfl⟩
theorem kEq_trans {i : Nat} {σ τ ρ : StM} (h1 : kEq i σ τ) (h2 : kEq i τ ρ) : kEq i σ ρ :=
  ⟨h2.1.trans h1.1, h2.2.1.trans h1.2.1, h2.2.2.1.trans h1.2.2.1, h2.2.2.2.1.trans h1.2.2.2.1, h2.2.2.2.2.1.trans h1.2.2.2.2.1, h2.2.2.2.2.2.1.trans h1.2.2.2.2.2.1, fun k hk => (h2.2.2.2.2.2.2 k hk).trans (h1.2.2.2.2.2.2 k hk)⟩
theorem kAg_refl (t : Nat) (σ : StM) : kAg t σ σ := fun i _ => kEq_refl i σ
theorem kAg_trans {t t' : Nat} {σ τ ρ : StM} (h1 : kAg t σ τ) (h2 : kAg t' τ ρ) (ht : t ≤ t') : kAg t σ ρ := fun i hi => kEq_trans (h1 i hi) (h2 i (by omega))
theorem kTyE_eq {n i : Nat} {σ τ : StM} (hg : M_generic τ = M_generic σ) (ha : ∀ j, j ≤ i → kEq j σ τ) (h : kTyE n (M_generic σ) (M_kind σ) (M_classOf σ) (M_how σ) (M_inner σ) (M_made σ) (M_partCount σ) (M_partRow σ) i) : kTyE n (M_generic τ) (M_kind τ) (M_classOf τ) (M_how τ) (M_inner τ) (M_made τ) (M_partCount τ) (M_partRow τ) i := by
  obtain ⟨e1, e2, e3, e4, e5, e6, e7⟩ := ha i (Nat.le_refl i)
  obtain ⟨⟨m, m1, m2, m3⟩, h1 | h1 | h1 | h1⟩ := h
  · exact ⟨⟨m, m1, m2, e5.trans m3⟩, Or.inl ⟨h1.1, e1.trans h1.2.1, e6.trans h1.2.2⟩⟩
  · obtain ⟨q1, q2, q3, q4, c, c1, c2, c3⟩ := h1
    refine ⟨⟨m, m1, m2, e5.trans m3⟩, Or.inr (Or.inl ⟨q1, e1.trans q2, e6.trans q3, (e7 0 (by omega)).trans q4, c, c1, e2.trans c2, ?_⟩)⟩
    rw [hg, e3, e4]; exact c3
  · obtain ⟨q1, q2, q3, e, k, c1, c2, c3, c4⟩ := h1
    exact ⟨⟨m, m1, m2, e5.trans m3⟩, Or.inr (Or.inr (Or.inl ⟨q1, e1.trans q2, e6.trans q3, e, k, c1, e4.trans c2, (ha e (by omega)).2.2.2.2.1.trans c3, e5.trans c4⟩))⟩
  · obtain ⟨q1, q2, k, k1, k2, k3⟩ := h1
    refine ⟨⟨m, m1, m2, e5.trans m3⟩, Or.inr (Or.inr (Or.inr ⟨q1, e1.trans q2, k, k1, e6.trans k2, fun l hl => ?_⟩))⟩
    obtain ⟨p, p1, p2, p3, p4⟩ := k3 l hl
    exact ⟨p, p1, p2, (e7 l (by omega)).trans p3, (ha p (by omega)).1.trans p4⟩
theorem kMT_ag {σ τ : StM} {n t : Nat} (h : kMT σ n t) (hg : M_generic τ = M_generic σ) (ha : kAg t σ τ) (ht : M_types τ = nI t) : kMT τ n t := by
  refine ⟨ht, h.2.1, h.2.2.1, ?_, ?_⟩
  · intro i hi
    exact kTyE_eq hg (fun j hj => ha j (by omega)) (h.2.2.2.1 i hi)
  · intro i h8 h16
    have := h.2.1
    exact (ha i (by omega)).1.trans (h.2.2.2.2 i h8 h16)
/-- one more type behind the others -/
theorem kMT_add {σ τ : StM} {n t : Nat} (h : kMT σ n t) (hg : M_generic τ = M_generic σ) (ha : kAg t σ τ) (ht : M_types τ = nI (t + 1)) (h3 : t < 300) (hE : kTyE n (M_generic τ) (M_kind τ) (M_classOf τ) (M_how τ) (M_inner τ) (M_made τ) (M_partCount τ) (M_partRow τ) t) : kMT τ n (t + 1) := by
  have h16 := h.2.1
  refine ⟨ht, by omega, by omega, ?_, ?_⟩
  · intro i hi
    by_cases e : i = t
    · subst e; exact hE
    · exact kTyE_eq hg (fun j hj => ha j (by omega)) (h.2.2.2.1 i (by omega))
  · intro i h8 h16
    exact (ha i (by omega)).1.trans (h.2.2.2.2 i h8 h16)
/-- what adding a type leaves: the answer is a type of kind K, or the tables are full -/
def kXr (σ : StM) (n t : Nat) (K : Int32) (r : Int32 × StM) : Prop := (∃ b, r.2 = mB σ b) ∧ kAg t σ r.2 ∧ (M_full r.2 = 0 → ∃ i t', t ≤ t' ∧ kM r.2 n t' ∧ r.1 = nI i ∧ i < t' ∧ M_kind r.2 i = K)
section
variable {σ : StM} {n t : Nat}
theorem kXr_full {K v : Int32} : kXr σ n t K (v, M_set_full σ 1) := ⟨mB_ex rfl, kAg_refl t σ, fun q => absurd q k_10⟩
theorem kXr_was {K v : Int32} (hf : ¬ M_full σ = 0) : kXr σ n t K (v, σ) := ⟨⟨mBof σ, rfl⟩, kAg_refl t σ, fun q => absurd q hf⟩
theorem k_u {f : Nat → Int32} {j i : Nat} {x : Int32} (h : i < j) : upd f j x i = f i := k_updn (by omega)
theorem s_M_add_181 (h : kM σ n t) {τ : StM} {x1 x2 x3 x4 : Int32} {sz : Nat} {y : Int32} (h3 : t < 300) (hg : ∃ b, τ = mB σ b)
    (e1 : M_types τ = nI t) (e2 : M_kind τ = upd (M_kind σ) t x1) (e3 : M_classOf τ = upd (M_classOf σ) t x2) (e4 : M_how τ = upd (M_how σ) t x3) (e5 : M_inner τ = upd (M_inner σ) t x4) (e6 : M_made τ = upd (M_made σ) t (nI sz)) (e7 : M_partCount τ = M_partCount σ) (e8 : M_partRow τ = M_partRow σ)
    (hE : ∀ ρ : StM, M_generic ρ = M_generic σ → kAg t σ ρ → M_kind ρ t = x1 → M_classOf ρ t = x2 → M_how ρ t = x3 → M_inner ρ t = x4 → M_made ρ t = nI sz → M_partCount ρ t = y → M_partRow ρ (30 * t) = nI t → kTyE n (M_generic ρ) (M_kind ρ) (M_classOf ρ) (M_how ρ) (M_inner ρ) (M_made ρ) (M_partCount ρ) (M_partRow ρ) t) :
    k_ok (f_M_add_181 τ (M_types τ) y) (kXr σ n t x1) := by
  obtain ⟨b, hb⟩ := hg
  have ix : ¬ (M_types τ < 0 ∨ 300 ≤ (M_types τ).toNatClampNeg) := by rw [e1]; exact nI_in h3 (by decide)
  have em : 30 * M_types τ = nI (30 * t) := by rw [e1]; exact k_mul 30 t
  have cl : (M_types τ).toNatClampNeg = t := by rw [e1]; exact nI_clamp (by omega)
  have cm : (30 * M_types τ).toNatClampNeg = 30 * t := by rw [em]; exact nI_clamp (by omega)
  have iy : ¬ (30 * M_types τ < 0 ∨ 9000 ≤ (30 * M_types τ).toNatClampNeg) := by rw [em]; exact nI_in (by omega) (by decide)
  unfold f_M_add_181
  refine k_guard ix (k_guard iy (k_some ?_))
  have hag : kAg t σ (M_set_types (M_put_partRow (M_put_partCount τ (M_types τ) y) (30 * M_types τ) (M_types τ)) (M_types τ + 1)) := by
    intro i hi
    refine ⟨?_, ?_, ?_, ?_, ?_, ?_, ?_⟩
    · show M_kind τ i = _; rw [e2]; exact k_u hi
    · show M_classOf τ i = _; rw [e3]; exact k_u hi
    · show M_how τ i = _; rw [e4]; exact k_u hi
    · show M_inner τ i = _; rw [e5]; exact k_u hi
    · show M_made τ i = _; rw [e6]; exact k_u hi
    · show upd (M_partCount τ) (M_types τ).toNatClampNeg y i = _; rw [cl, e7]; exact k_u hi
    · intro k hk
      show upd (M_partRow τ) (30 * M_types τ).toNatClampNeg (M_types τ) (30 * i + k) = _
      rw [cm, e8]; exact k_u (by omega)
  have hgen : M_generic τ = M_generic σ := by rw [hb]; rfl
  refine ⟨mB_ex ?_, hag, fun _ => ⟨t, t + 1, by omega, ?_, ?_, by omega, ?_⟩⟩
  · show M_set_types (M_put_partRow (M_put_partCount τ (M_types τ) y) (30 * M_types τ) (M_types τ)) (M_types τ + 1) = mB σ (mBof (M_set_types (M_put_partRow (M_put_partCount τ (M_types τ) y) (30 * M_types τ) (M_types τ)) (M_types τ + 1)))
    rw [hb]; rfl
  · refine ⟨?_, kMT_add h.2 hgen hag ?_ h3 ?_⟩
    · have hc := kMC_mono h.1 (show t ≤ t + 1 by omega)
      show kMC (M_set_types (M_put_partRow (M_put_partCount τ (M_types τ) y) (30 * M_types τ) (M_types τ)) (M_types τ + 1)) n (t + 1)
      rw [hb]; exact hc
    · show M_types τ + 1 = nI (t + 1)
      rw [e1]; exact nI_1 t
    · refine hE _ hgen hag ?_ ?_ ?_ ?_ ?_ ?_ ?_
      · show M_kind τ t = _; rw [e2]; exact k_upds
      · show M_classOf τ t = _; rw [e3]; exact k_upds
      · show M_how τ t = _; rw [e4]; exact k_upds
      · show M_inner τ t = _; rw [e5]; exact k_upds
      · show M_made τ t = _; rw [e6]; exact k_upds
      · show upd (M_partCount τ) (M_types τ).toNatClampNeg y t = _; rw [cl]; exact k_upds
      · show upd (M_partRow τ) (30 * M_types τ).toNatClampNeg (M_types τ) (30 * t) = _
        rw [cm, k_upds]; exact e1
  · show M_types τ + 1 - 1 = nI t
    rw [e1, nI_1]; exact nI_pred t
  · show M_kind τ t = _; rw [e2]; exact k_upds
theorem s_M_add_84 (h : kM σ n t) {x1 x2 x3 x4 t0 t1 : Int32} {sz : Nat} (es : t0 + t1 = nI sz) (hs : sz < 1000)
    (hE : sz ≤ 100 → ∀ (ρ : StM) (y : Int32), (y = if x1 = 1 then 1 else 0) → M_generic ρ = M_generic σ → kAg t σ ρ → M_kind ρ t = x1 → M_classOf ρ t = x2 → M_how ρ t = x3 → M_inner ρ t = x4 → M_made ρ t = nI sz → M_partCount ρ t = y → M_partRow ρ (30 * t) = nI t → kTyE n (M_generic ρ) (M_kind ρ) (M_classOf ρ) (M_how ρ) (M_inner ρ) (M_made ρ) (M_partCount ρ) (M_partRow ρ) t) :
    k_ok (f_M_add_84 σ x1 x2 x3 x4 t0 t1) (kXr σ n t x1) := by
  have e : M_types σ = nI t := h.2.1
  have ht := h.2.2.2.1
  unfold f_M_add_84 f_M_add_104
  refine k_if (fun _ => k_some kXr_full) (fun q => ?_)
  have q2 : ¬ nI t = nI 300 := by rw [← e]; exact q
  rw [nI_eq (by omega) (by decide)] at q2
  refine k_if (fun q3 => ?_) (fun _ => k_some kXr_full)
  have q4 : nI sz ≤ nI 100 := by rw [← es]; exact q3
  rw [nI_leI (by omega) (by decide)] at q4
  have hi : ¬ (M_types σ < 0 ∨ 300 ≤ (M_types σ).toNatClampNeg) := by rw [e]; exact nI_in (by omega) (by decide)
  have cl : (M_types σ).toNatClampNeg = t := by rw [e]; exact nI_clamp (by omega)
  refine k_guard hi (k_guard hi (k_guard hi (k_guard hi (k_guard hi ?_))))
  refine k_if (fun w => ?_) (fun w => ?_)
  · refine s_M_add_181 (x2 := x2) (x3 := x3) (x4 := x4) (sz := sz) h (by omega) (mB_ex rfl) e ?_ ?_ ?_ ?_ ?_ rfl rfl (fun ρ => hE q4 ρ 1 (by rw [if_pos w]))
    · show upd (M_kind σ) (M_types σ).toNatClampNeg x1 = _; rw [cl]
    · show upd (M_classOf σ) (M_types σ).toNatClampNeg x2 = _; rw [cl]
    · show upd (M_how σ) (M_types σ).toNatClampNeg x3 = _; rw [cl]
    · show upd (M_inner σ) (M_types σ).toNatClampNeg x4 = _; rw [cl]
    · show upd (M_made σ) (M_types σ).toNatClampNeg (t0 + t1) = _; rw [cl, es]
  · refine s_M_add_181 (x2 := x2) (x3 := x3) (x4 := x4) (sz := sz) h (by omega) (mB_ex rfl) e ?_ ?_ ?_ ?_ ?_ rfl rfl (fun ρ => hE q4 ρ 0 (by rw [if_neg w]))
    · show upd (M_kind σ) (M_types σ).toNatClampNeg x1 = _; rw [cl]
    · show upd (M_classOf σ) (M_types σ).toNatClampNeg x2 = _; rw [cl]
    · show upd (M_how σ) (M_types σ).toNatClampNeg x3 = _; rw [cl]
    · show upd (M_inner σ) (M_types σ).toNatClampNeg x4 = _; rw [cl]
    · show upd (M_made σ) (M_types σ).toNatClampNeg (t0 + t1) = _; rw [cl, es]
theorem s_M_add_3 (h : kM σ n t) {x1 x2 x3 x4 : Int32}
    (hend : (x4 = -1 → k_ok (f_M_add_84 σ x1 x2 x3 x4 1 0) (kXr σ n t x1)) ∧ (¬ x4 = -1 → (∃ e, e < 300 ∧ x4 = nI e ∧ k_ok (f_M_add_84 σ x1 x2 x3 x4 1 (M_made σ e)) (kXr σ n t x1)))) :
    ∀ (f i : Nat), i ≤ t → t < f + i → k_ok (f_M_add_3 f σ x1 x2 x3 x4 (nI i)) (kXr σ n t x1) := by
  have e : M_types σ = nI t := h.2.1
  have ht := h.2.2.2.1
  intro f
  induction f with
  | zero => intro i h1 h2; omega
  | succ f ih =>
    intro i h1 h2
    rw [f_M_add_3]
    unfold f_M_add_3_s
    refine k_if (fun _ => ?_) (fun q => ?_)
    · refine k_if hend.1 (fun q => ?_)
      obtain ⟨g, g1, g2, g3⟩ := hend.2 q
      have ix : ¬ (x4 < 0 ∨ 300 ≤ x4.toNatClampNeg) := by rw [g2]; exact nI_in g1 (by decide)
      have cl : x4.toNatClampNeg = g := by rw [g2]; exact nI_clamp (by omega)
      refine k_guard ix ?_
      rw [cl]; exact g3
    · rw [e, nI_leI (by omega) (by omega)] at q
      have hk : k_ok (f_M_add_3 f σ x1 x2 x3 x4 (nI i + 1)) (kXr σ n t x1) := by
        rw [nI_1]
        exact ih (i + 1) (by omega) (by omega)
      have hi : ¬ (nI i < 0 ∨ 300 ≤ (nI i).toNatClampNeg) := nI_in (by omega) (by decide)
      have ci : (nI i).toNatClampNeg = i := nI_clamp (by omega)
      refine k_guard hi (k_if (fun w => ?_) (fun _ => hk))
      refine k_guard hi (k_if (fun _ => ?_) (fun _ => hk))
      refine k_guard hi (k_if (fun _ => ?_) (fun _ => hk))
      refine k_guard hi (k_if (fun _ => k_some ?_) (fun _ => hk))
      exact ⟨⟨mBof σ, rfl⟩, kAg_refl t σ, fun _ => ⟨i, t, Nat.le_refl t, h, rfl, by omega, (by rw [ci] at w; exact w)⟩⟩
theorem s_M_addNamed (h : kM σ n t) {c : Nat} (hc : c < n) {x3 x4 : Int32} (ho : kOwn t (M_generic σ c) x3 x4) : k_ok (f_M_addNamed σ (nI c) x3 x4) (kXr σ n t 1) := by
  have ht := h.2.2.2.1
  have ht16 := h.2.2.1
  unfold f_M_addNamed
  refine k_if (fun _ => ?_) (fun q => k_some (kXr_was q))
  refine k_bind (P := kXr σ n t 1) ?_ (fun r hr => k_some hr)
  unfold f_M_add
  refine s_M_add_3 h ⟨fun q => ?_, fun q => ?_⟩ 1000 0 (by omega) (by omega)
  · refine s_M_add_84 (sz := 1) h rfl (by omega) ?_
    intro _ ρ y hy hg ha k1 k2 k3 k4 k5 k6 k7
    refine ⟨⟨1, by omega, by omega, k5⟩, Or.inr (Or.inl ⟨by omega, k1, ?_, k7, c, hc, k2, ?_⟩)⟩
    · rw [k6, hy, if_pos rfl]
    · rw [k3, k4, hg]; exact ho
  · rcases ho with ⟨_, _, w⟩ | ⟨w1, w2, x, x1, x2, w3⟩
    · exact absurd w q
    · obtain ⟨⟨m, m1, m2, m3⟩, _⟩ := h.2.2.2.2.1 x x2
      refine ⟨x, by omega, w3, ?_⟩
      rw [m3]
      refine s_M_add_84 (sz := 1 + m) h (nI_add 1 m) (by omega) ?_
      intro hsz ρ y hy hg ha k1 k2 k3 k4 k5 k6 k7
      refine ⟨⟨1 + m, by omega, by omega, k5⟩, Or.inr (Or.inl ⟨by omega, k1, ?_, k7, c, hc, k2, ?_⟩)⟩
      · rw [k6, hy, if_pos rfl]
      · rw [k3, k4, hg]
        exact Or.inr ⟨w1, w2, x, x1, x2, w3⟩
theorem s_M_addArray (h : kM σ n t) {e : Nat} (he : e < t) : k_ok (f_M_addArray σ (nI e)) (kXr σ n t 2) := by
  have ht := h.2.2.2.1
  have ht16 := h.2.2.1
  unfold f_M_addArray
  refine k_if (fun _ => ?_) (fun q => k_some (kXr_was q))
  refine k_bind (P := kXr σ n t 2) ?_ (fun r hr => k_some hr)
  unfold f_M_add
  refine s_M_add_3 h ⟨fun q => absurd q (k_ne1 (by omega)), fun q => ?_⟩ 1000 0 (by omega) (by omega)
  obtain ⟨⟨m, m1, m2, m3⟩, _⟩ := h.2.2.2.2.1 e he
  refine ⟨e, by omega, rfl, ?_⟩
  rw [m3]
  refine s_M_add_84 (sz := 1 + m) h (nI_add 1 m) (by omega) ?_
  intro hsz ρ y hy hg ha k1 k2 k3 k4 k5 k6 k7
  refine ⟨⟨1 + m, by omega, by omega, k5⟩, Or.inr (Or.inr (Or.inl ⟨by omega, k1, ?_, e, m, he, k4, ?_, ?_⟩))⟩
  · rw [k6, hy, if_neg (by decide)]
  · exact (ha e he).2.2.2.2.1.trans m3
  · rw [k5, Nat.add_comm]
end
-- part 08.25.M3.lean.txt
/-! The reference: INTERSECTIONS. -/
theorem k_dec {j : Nat} (h : 0 < j) : nI j + (-1) = nI (j - 1) := by
  have e : nI j = nI (j - 1) + 1 := by rw [nI_1]; congr 1; omega
  rw [e, Int32.add_assoc]
  have z : (1 : Int32) + (-1) = 0 := by decide
  rw [z, Int32.add_zero]
def kRow (σ : StM) (t : Nat) (ρ : Nat → Int32) (N : Nat) : Prop := ∀ j, j < N → ∃ p, 8 ≤ p ∧ p < t ∧ ρ j = nI p ∧ M_kind σ p = 1
theorem kRow_swap {σ : StM} {t : Nat} {ρ : Nat → Int32} {N i j : Nat} (h : kRow σ t ρ N) (hi : i < N) (hj : j < N) : kRow σ t (upd (upd ρ i (ρ j)) j (ρ i)) N := by
  intro k hk
  by_cases e1 : k = j
  · rw [e1, k_upds]; exact h i hi
  · rw [k_updn e1]
    by_cases e2 : k = i
    · rw [e2, k_upds]; exact h j hj
    · rw [k_updn e2]; exact h k hk
section
variable {σ : StM} {n t : Nat}
theorem s_M_addBoth_9 (ht : t ≤ 300) {N i : Nat} (hN : N ≤ 60) (hi : i < N) (k2 : StM → Int32 → Int32 → Option (Int32 × StM)) {Q : Int32 × StM → Prop} (hk : ∀ ρ, kRow σ t ρ N → k_ok (k2 (M_set_row σ ρ) (nI N) (nI i + 1)) Q) :
    ∀ (f j : Nat) (ρ : Nat → Int32), j ≤ i → j < f → kRow σ t ρ N → k_ok (f_M_addBoth_9 k2 f (M_set_row σ ρ) (nI N) (nI i) (nI j)) Q := by
  intro f
  induction f with
  | zero => intro j ρ h1 h2; omega
  | succ f ih =>
    intro j ρ h1 h2 h3
    rw [f_M_addBoth_9]
    unfold f_M_addBoth_9_s
    refine k_if (fun _ => hk ρ h3) (fun q => ?_)
    have q2 : ¬ nI j ≤ nI 0 := q
    rw [nI_leI (by omega) (by decide)] at q2
    have e : nI j - 1 = nI (j - 1) := k_sub (b := 1) (by omega)
    obtain ⟨p, p1, p2, p3, _⟩ := h3 (j - 1) (by omega)
    obtain ⟨w, w1, w2, w3, _⟩ := h3 j (by omega)
    rw [e, nI_clamp (show j - 1 < 2 ^ 31 by omega), nI_clamp (show j < 2 ^ 31 by omega)]
    rw [show M_row (M_set_row σ ρ) = ρ from rfl, p3, w3]
    have ij : ¬ (nI j < 0 ∨ 64 ≤ j) := by
      have := nI_pos (n := j) (by omega)
      rintro (q | q)
      · exact this q
      · omega
    have ij1 : ¬ (nI (j - 1) < 0 ∨ 64 ≤ j - 1) := by
      have := nI_pos (n := j - 1) (by omega)
      rintro (q | q)
      · exact this q
      · omega
    have ip : ¬ (nI p < 0 ∨ 300 ≤ (nI p).toNatClampNeg) := nI_in (by omega) (by decide)
    have iw : ¬ (nI w < 0 ∨ 300 ≤ (nI w).toNatClampNeg) := nI_in (by omega) (by decide)
    refine k_guard ij1 (k_guard ip (k_guard ij (k_guard iw ?_)))
    refine k_if (fun _ => hk ρ h3) (fun _ => ?_)
    refine k_guard ij (k_guard ij1 (k_guard ij (k_guard ij1 ?_)))
    rw [k_dec (by omega)]
    have hs := kRow_swap h3 (show j < N by omega) (show j - 1 < N by omega)
    have hs' : kRow σ t (upd (upd ρ (nI j).toNatClampNeg (nI p)) (nI (j - 1)).toNatClampNeg (nI w)) N := by
      rw [nI_clamp (show j < 2 ^ 31 by omega), nI_clamp (show j - 1 < 2 ^ 31 by omega), ← p3, ← w3]
      exact hs
    exact ih (j - 1) _ (by omega) (by omega) hs'
theorem s_M_addBoth_153 {N i : Nat} (hN : N ≤ 30) (hi : i < 300) {x2 : Int32} (k115 : StM → Int32 → Int32 → Int32 → Option (Int32 × StM)) {Q : Int32 × StM → Prop} (hk : k_ok (k115 σ (nI N) x2 (nI i + 1)) Q) (hq : M_kind σ i = 3 → Q (nI i, σ)) :
    ∀ (f k : Nat) (x4 : Int32), k ≤ N → N < f + k → (x4 = 0 ∨ M_kind σ i = 3) → k_ok (f_M_addBoth_153 k115 f σ (nI N) x2 (nI i) x4 (nI k)) Q := by
  have k199 : ∀ x4 : Int32, (x4 = 0 ∨ M_kind σ i = 3) → k_ok (f_M_addBoth_199 k115 σ (nI N) x2 (nI i) x4) Q := by
    intro x4 h
    unfold f_M_addBoth_199
    refine k_if (fun _ => hk) (fun q => k_some (hq ?_))
    rcases h with h | h
    · exact absurd h q
    · exact h
  intro f
  induction f with
  | zero => intro k x4 h1 h2; omega
  | succ f ih =>
    intro k x4 h1 h2 h3
    rw [f_M_addBoth_153]
    unfold f_M_addBoth_153_s
    refine k_if (fun _ => k199 x4 h3) (fun q => ?_)
    rw [nI_leI (by omega) (by omega)] at q
    refine k_if (fun _ => k199 x4 h3) (fun q2 => ?_)
    have h4 : M_kind σ i = 3 := by
      rcases h3 with h3 | h3
      · exact absurd h3 q2
      · exact h3
    have ix : ¬ ((30 * nI i + nI k) < 0 ∨ 9000 ≤ (30 * nI i + nI k).toNatClampNeg) := by
      rw [k_30ix]; exact nI_in (by omega) (by decide)
    refine k_guard ix (k_guard (nI_in (by omega) (by decide)) ?_)
    rw [nI_1]
    exact k_if (fun _ => ih (k + 1) 1 (by omega) (by omega) (Or.inr h4)) (fun _ => ih (k + 1) 0 (by omega) (by omega) (Or.inl rfl))
theorem s_M_addBoth_297 {τ : StM} (h3 : t < 300) (e : M_types τ = nI t) {N : Nat} (hN : N ≤ 30) :
    ∀ (f k : Nat) (ρ : Nat → Int32), k ≤ N → N < f + k → (∀ x, x < 30 * t → ρ x = M_partRow τ x) → (∀ j, j < k → ρ (30 * t + j) = M_row τ j) →
      k_ok (f_M_addBoth_297 f (M_set_partRow τ ρ) (nI N) (nI k)) (fun r => r.1 = nI t ∧ ∃ ρ', r.2 = M_set_types (M_set_partRow τ ρ') (nI (t + 1)) ∧ (∀ x, x < 30 * t → ρ' x = M_partRow τ x) ∧ (∀ j, j < N → ρ' (30 * t + j) = M_row τ j)) := by
  intro f
  induction f with
  | zero => intro k ρ h1 h2; omega
  | succ f ih =>
    intro k ρ h1 h2 h4 h5
    rw [f_M_addBoth_297]
    unfold f_M_addBoth_297_s
    refine k_if (fun q => ?_) (fun q => ?_)
    · rw [nI_leI (by omega) (by omega)] at q
      have hk : k = N := by omega
      subst hk
      refine k_some ⟨?_, ρ, ?_, h4, h5⟩
      · show M_types τ + 1 - 1 = nI t
        rw [e, nI_1]; exact nI_pred t
      · show M_set_types (M_set_partRow τ ρ) (M_types τ + 1) = _
        rw [e, nI_1]
    · rw [nI_leI (by omega) (by omega)] at q
      rw [show M_types (M_set_partRow τ ρ) = nI t from e]
      have ix : ¬ ((30 * nI t + nI k) < 0 ∨ 9000 ≤ (30 * nI t + nI k).toNatClampNeg) := by
        rw [k_30ix]; exact nI_in (by omega) (by decide)
      have cl : (30 * nI t + nI k).toNatClampNeg = 30 * t + k := by rw [k_30ix]; exact nI_clamp (by omega)
      refine k_guard (nI_in (by omega) (by decide)) (k_guard ix ?_)
      rw [nI_1]
      refine ih (k + 1) (upd ρ (30 * nI t + nI k).toNatClampNeg ((M_row (M_set_partRow τ ρ)) (nI k).toNatClampNeg)) (by omega) (by omega) ?_ ?_
      · intro x hx
        rw [cl, k_updn (by omega)]
        exact h4 x hx
      · intro j hj
        rw [cl]
        by_cases ej : j = k
        · subst ej
          rw [k_upds, nI_clamp (by omega)]
        · rw [k_updn (by omega)]
          exact h5 j (by omega)
theorem s_M_addBoth_115 (h : kM σ n t) {N s : Nat} (hN : N ≤ 30) (hr : kRow σ t (M_row σ) N) (hs : 1 ≤ s) (hs2 : s ≤ 10000) :
    ∀ (f i : Nat), i ≤ t → t < f + i → k_ok (f_M_addBoth_115 f σ (nI N) (nI s) (nI i)) (kXr σ n t 3) := by
  have e : M_types σ = nI t := h.2.1
  have ht := h.2.2.2.1
  have ht16 := h.2.2.1
  intro f
  induction f with
  | zero => intro i h1 h2; omega
  | succ f ih =>
    intro i h1 h2
    rw [f_M_addBoth_115]
    unfold f_M_addBoth_115_s f_M_addBoth_228
    refine k_if (fun _ => ?_) (fun q => ?_)
    · refine k_if (fun _ => k_some kXr_full) (fun q => ?_)
      have q2 : ¬ nI t = nI 300 := by rw [← e]; exact q
      rw [nI_eq (by omega) (by decide)] at q2
      refine k_if (fun q3 => ?_) (fun _ => k_some kXr_full)
      have q4 : nI s ≤ nI 100 := q3
      rw [nI_leI (by omega) (by decide)] at q4
      have hi : ¬ (M_types σ < 0 ∨ 300 ≤ (M_types σ).toNatClampNeg) := by rw [e]; exact nI_in (by omega) (by decide)
      have cl : (M_types σ).toNatClampNeg = t := by rw [e]; exact nI_clamp (by omega)
      refine k_guard hi (k_guard hi (k_guard hi (k_guard hi (k_guard hi (k_guard hi ?_)))))
      refine k_mono (s_M_addBoth_297 (t := t) (N := N) (τ := M_put_partCount (M_put_made (M_put_inner (M_put_how (M_put_classOf (M_put_kind σ (M_types σ) 3) (M_types σ) (-1)) (M_types σ) (-1)) (M_types σ) (-1)) (M_types σ) (nI s)) (M_types σ) (nI N)) (by omega) e hN 1000 0 (M_partRow σ) (by omega) (by omega) (fun _ _ => rfl) (fun j hj => by omega)) ?_
      rintro ⟨v, ρ⟩ ⟨r1, ρ', r2, r3, r4⟩
      replace r1 : v = nI t := r1
      replace r2 : ρ = M_set_types (M_set_partRow (M_put_partCount (M_put_made (M_put_inner (M_put_how (M_put_classOf (M_put_kind σ (M_types σ) 3) (M_types σ) (-1)) (M_types σ) (-1)) (M_types σ) (-1)) (M_types σ) (nI s)) (M_types σ) (nI N)) ρ') (nI (t + 1)) := r2
      replace r3 : ∀ x, x < 30 * t → ρ' x = M_partRow σ x := r3
      replace r4 : ∀ j, j < N → ρ' (30 * t + j) = M_row σ j := r4
      subst r1
      have g1 : M_kind ρ = upd (M_kind σ) t 3 := by rw [r2]; show upd (M_kind σ) (M_types σ).toNatClampNeg 3 = _; rw [cl]
      have g2 : M_classOf ρ = upd (M_classOf σ) t (-1) := by rw [r2]; show upd (M_classOf σ) (M_types σ).toNatClampNeg (-1) = _; rw [cl]
      have g3 : M_how ρ = upd (M_how σ) t (-1) := by rw [r2]; show upd (M_how σ) (M_types σ).toNatClampNeg (-1) = _; rw [cl]
      have g4 : M_inner ρ = upd (M_inner σ) t (-1) := by rw [r2]; show upd (M_inner σ) (M_types σ).toNatClampNeg (-1) = _; rw [cl]
      have g5 : M_made ρ = upd (M_made σ) t (nI s) := by rw [r2]; show upd (M_made σ) (M_types σ).toNatClampNeg (nI s) = _; rw [cl]
      have g6 : M_partCount ρ = upd (M_partCount σ) t (nI N) := by rw [r2]; show upd (M_partCount σ) (M_types σ).toNatClampNeg (nI N) = _; rw [cl]
      have g7 : M_partRow ρ = ρ' := by rw [r2]
      have g8 : M_types ρ = nI (t + 1) := by rw [r2]
      have g9 : M_generic ρ = M_generic σ := by rw [r2]
      have hag : kAg t σ ρ := by
        intro i hi
        refine ⟨?_, ?_, ?_, ?_, ?_, ?_, ?_⟩
        · rw [g1]; exact k_u hi
        · rw [g2]; exact k_u hi
        · rw [g3]; exact k_u hi
        · rw [g4]; exact k_u hi
        · rw [g5]; exact k_u hi
        · rw [g6]; exact k_u hi
        · intro k hk
          rw [g7]; exact r3 _ (by omega)
      refine ⟨mB_ex (by rw [r2]; rfl), hag, fun _ => ⟨t, t + 1, by omega, ⟨?_, kMT_add h.2 g9 hag g8 (by omega) ?_⟩, rfl, by omega, ?_⟩⟩
      · have hc := kMC_mono h.1 (show t ≤ t + 1 by omega)
        show kMC ρ n (t + 1)
        rw [r2]; exact hc
      · refine ⟨⟨s, hs, q4, by rw [g5]; exact k_upds⟩, Or.inr (Or.inr (Or.inr ⟨by omega, by rw [g1]; exact k_upds, N, hN, by rw [g6]; exact k_upds, fun k hk => ?_⟩))⟩
        obtain ⟨p, p1, p2, p3, p4⟩ := hr k hk
        refine ⟨p, p2, p1, ?_, ?_⟩
        · rw [g7, r4 k hk]; exact p3
        · rw [g1, k_u p2]; exact p4
      · show M_kind ρ t = 3
        rw [g1]; exact k_upds
    · rw [e, nI_leI (by omega) (by omega)] at q
      have hk : k_ok (f_M_addBoth_115 f σ (nI N) (nI s) (nI i + 1)) (kXr σ n t 3) := by
        rw [nI_1]
        exact ih (i + 1) (by omega) (by omega)
      have hi : ¬ (nI i < 0 ∨ 300 ≤ (nI i).toNatClampNeg) := nI_in (by omega) (by decide)
      have hq : M_kind σ i = 3 → kXr σ n t 3 (nI i, σ) := fun w => ⟨⟨mBof σ, rfl⟩, kAg_refl t σ, fun _ => ⟨i, t, Nat.le_refl t, h, rfl, by omega, w⟩⟩
      refine k_guard hi (k_if (fun w => ?_) (fun _ => ?_))
      · rw [nI_clamp (by omega)] at w
        refine k_guard hi (k_if (fun _ => ?_) (fun _ => ?_))
        · exact s_M_addBoth_153 hN (by omega) _ hk hq 1000 0 1 (by omega) (by omega) (Or.inr w)
        · exact s_M_addBoth_153 hN (by omega) _ hk hq 1000 0 0 (by omega) (by omega) (Or.inl rfl)
      · exact s_M_addBoth_153 hN (by omega) _ hk hq 1000 0 0 (by omega) (by omega) (Or.inl rfl)
theorem s_M_addBoth_88 (h : kM σ n t) {N : Nat} (hN : N ≤ 30) (hr : kRow σ t (M_row σ) N) :
    ∀ (f k s : Nat), k ≤ N → N < f + k → 1 ≤ s → s ≤ 1 + 100 * k → k_ok (f_M_addBoth_88 f σ (nI N) (nI s) (nI k)) (kXr σ n t 3) := by
  have ht := h.2.2.2.1
  have ht16 := h.2.2.1
  intro f
  induction f with
  | zero => intro k s h1 h2; omega
  | succ f ih =>
    intro k s h1 h2 h3 h4
    rw [f_M_addBoth_88]
    unfold f_M_addBoth_88_s
    refine k_if (fun _ => s_M_addBoth_115 h hN hr h3 (by omega) 1000 0 (by omega) (by omega)) (fun q => ?_)
    rw [nI_leI (by omega) (by omega)] at q
    obtain ⟨p, p1, p2, p3, p4⟩ := hr k (by omega)
    obtain ⟨⟨m, m1, m2, m3⟩, _⟩ := h.2.2.2.2.1 p p2
    rw [nI_clamp (show k < 2 ^ 31 by omega), p3, nI_clamp (show p < 2 ^ 31 by omega), m3, nI_add, nI_1]
    have ik : ¬ (nI k < 0 ∨ 64 ≤ k) := by
      have := nI_pos (n := k) (by omega)
      rintro (q | q)
      · exact this q
      · omega
    have ip : ¬ (nI p < 0 ∨ 300 ≤ p) := by
      have := nI_pos (n := p) (by omega)
      rintro (q | q)
      · exact this q
      · omega
    exact k_guard ik (k_guard ip (ih (k + 1) (s + m) (by omega) (by omega) (by omega) (by omega)))
theorem kXr_row {K : Int32} {ρ : Nat → Int32} {r : Int32 × StM} (h : kXr (M_set_row σ ρ) n t K r) : kXr σ n t K r := by
  obtain ⟨⟨b, e⟩, h2, h3⟩ := h
  exact ⟨⟨b, e⟩, h2, h3⟩
theorem s_M_addBoth_2 (h : kM σ n t) {N : Nat} (hN : N ≤ 30) :
    ∀ (f i : Nat) (ρ : Nat → Int32), i ≤ N + 1 → N + 1 < f + i → kRow σ t ρ N → k_ok (f_M_addBoth_2 f (M_set_row σ ρ) (nI N) (nI i)) (kXr σ n t 3) := by
  have ht := h.2.2.2.1
  intro f
  induction f with
  | zero => intro i ρ h1 h2; omega
  | succ f ih =>
    intro i ρ h1 h2 h3
    rw [f_M_addBoth_2]
    unfold f_M_addBoth_2_s
    have hM : kM (M_set_row σ ρ) n t := h
    refine k_if (fun _ => ?_) (fun q => ?_)
    · exact k_mono (s_M_addBoth_88 hM hN h3 1000 0 1 (by omega) (by omega) (by omega) (by omega)) (fun r hr => kXr_row hr)
    · rw [nI_leI (by omega) (by omega)] at q
      refine s_M_addBoth_9 ht (by omega) (by omega) _ ?_ 1000 i ρ (by omega) (by omega) h3
      intro ρ' hρ'
      rw [nI_1]
      exact ih (i + 1) ρ' (by omega) (by omega) hρ'
theorem s_M_addBoth (h : kM σ n t) {N : Nat} (hN : N ≤ 30) (hr : kRow σ t (M_row σ) N) : k_ok (f_M_addBoth σ (nI N)) (kXr σ n t 3) := by
  unfold f_M_addBoth
  exact s_M_addBoth_2 h hN 1000 1 (M_row σ) (by omega) (by omega) hr
end
-- part 08.26.M4.lean.txt
/-! The reference: BELOW, safe. -/
theorem k_300ix {a b : Nat} : 300 * nI a + nI b = nI (300 * a + b) := by
  show nI 300 * nI a + nI b = _
  rw [k_mul, nI_add]
theorem k_in300 {a b : Nat} (ha : a < 300) (hb : b < 300) : ¬ ((300 * nI a + nI b) < 0 ∨ 90000 ≤ (300 * nI a + nI b).toNatClampNeg) := by
  rw [k_300ix]; exact nI_in (by omega) (by decide)
section
variable {σ : StM} {n t : Nat}
theorem s_M_isBelowAll_5 (h : kMT σ n t) {a b m : Nat} (ha : a < t) (hb : b < t) (hm : m ≤ 30) (hc : M_partCount σ b = nI m) (hp : ∀ k, k < m → ∃ p, 8 ≤ p ∧ p ≤ b ∧ M_partRow σ (30 * b + k) = nI p ∧ M_kind σ p = 1) :
    ∀ (f k : Nat) (x3 : Int32), k ≤ m → m < f + k → k_ok (f_M_isBelowAll_5 f σ (nI a) (nI b) x3 (nI k)) (fun _ => True) := by
  have ht := h.2.2.1
  intro f
  induction f with
  | zero => intro k x3 h1 h2; omega
  | succ f ih =>
    intro k x3 h1 h2
    rw [f_M_isBelowAll_5]
    unfold f_M_isBelowAll_5_s
    refine k_guard (nI_in (by omega) (by decide)) ?_
    rw [nI_clamp (show b < 2 ^ 31 by omega), hc]
    refine k_if (fun _ => k_some trivial) (fun q => ?_)
    rw [nI_leI (by omega) (by omega)] at q
    rw [nI_1]
    refine k_if (fun _ => ih (k + 1) 0 (by omega) (by omega)) (fun _ => ?_)
    obtain ⟨p, p1, p2, p3, _⟩ := hp k (by omega)
    have ix : ¬ ((30 * nI b + nI k) < 0 ∨ 9000 ≤ (30 * nI b + nI k).toNatClampNeg) := by
      rw [k_30ix]; exact nI_in (by omega) (by decide)
    have cl : (30 * nI b + nI k).toNatClampNeg = 30 * b + k := by rw [k_30ix]; exact nI_clamp (by omega)
    refine k_guard ix ?_
    rw [cl, p3]
    refine k_guard (k_in300 (by omega) (by omega)) ?_
    exact k_if (fun _ => ih (k + 1) 0 (by omega) (by omega)) (fun _ => ih (k + 1) 1 (by omega) (by omega))
theorem s_M_isBelowAll (h : kMT σ n t) {a b : Nat} (ha : a < t) (hb : b < t) : k_ok (f_M_isBelowAll σ (nI a) (nI b)) (fun _ => True) := by
  obtain ⟨m, m1, m2, m3⟩ := kTyp_part h.2 hb
  unfold f_M_isBelowAll
  exact s_M_isBelowAll_5 h ha hb m1 m2 m3 1000 0 1 (by omega) (by omega)
theorem s_M_isBelowArray (h : kMT σ n t) {a b : Nat} (ha : a < t) (hb : b < t) (hk : M_kind σ b = 2) : k_ok (f_M_isBelowArray σ (nI a) (nI b)) (fun _ => True) := by
  have ht := h.2.2.1
  have ia : ¬ (nI a < 0 ∨ 300 ≤ (nI a).toNatClampNeg) := nI_in (by omega) (by decide)
  have ib : ¬ (nI b < 0 ∨ 300 ≤ (nI b).toNatClampNeg) := nI_in (by omega) (by decide)
  unfold f_M_isBelowArray
  refine k_guard ia (k_if (fun w => ?_) (fun _ => k_some trivial))
  refine k_guard ia (k_if (fun _ => k_some trivial) (fun _ => ?_))
  refine k_guard ib (k_if (fun _ => k_some trivial) (fun _ => ?_))
  refine k_guard ia (k_guard ib ?_)
  rw [nI_clamp (show a < 2 ^ 31 by omega)] at w ⊢
  rw [nI_clamp (show b < 2 ^ 31 by omega)]
  obtain ⟨e, _, e1, e2, _, _⟩ := kTyp_array h.2 ha w
  obtain ⟨g, _, g1, g2, _, _⟩ := kTyp_array h.2 hb hk
  rw [e2, g2]
  exact k_guard (k_in300 (by omega) (by omega)) (k_if (fun _ => k_some trivial) (fun _ => k_some trivial))
/-- the state is σ, but for what a LOOK found -/
def kF (σ : StM) (r : Int32 × StM) : Prop := ∃ a h g, r.2 = mF σ a h g
theorem s_M_isBelowNamed_27 (h : kM σ n t) {a b m : Nat} (ha : a < t) (hb : b < t) (hkb : M_kind σ b = 1) (hm : m ≤ 30) (hp : M_kind σ a = 3 → ∀ k, k < m → ∃ p, p < t ∧ M_partRow σ (30 * a + k) = nI p) :
    ∀ (f k : Nat) (x3 aa hh gg : Int32), k ≤ m → m < f + k → k_ok (f_M_isBelowNamed_27 f (mF σ aa hh gg) (nI a) (nI b) x3 (nI m) (nI k)) (kF σ) := by
  have ht := h.2.2.2.1
  have ia : ¬ (nI a < 0 ∨ 300 ≤ (nI a).toNatClampNeg) := nI_in (by omega) (by decide)
  have ib : ¬ (nI b < 0 ∨ 300 ≤ (nI b).toNatClampNeg) := nI_in (by omega) (by decide)
  obtain ⟨c, c1, c2, c3⟩ := kTyp_named h.2.2 hb hkb
  intro f
  induction f with
  | zero => intro k x3 aa hh gg h1 h2; omega
  | succ f ih =>
    intro k x3 aa hh gg h1 h2
    rw [f_M_isBelowNamed_27]
    unfold f_M_isBelowNamed_27_s
    refine k_if (fun _ => k_some ⟨aa, hh, gg, rfl⟩) (fun q => ?_)
    rw [nI_leI (by omega) (by omega)] at q
    refine k_if (fun _ => ?_) (fun _ => k_some ⟨aa, hh, gg, rfl⟩)
    have nx : ∀ y a1 h1 g1 : Int32, k_ok (f_M_isBelowNamed_27 f (mF σ a1 h1 g1) (nI a) (nI b) y (nI m) (nI k + 1)) (kF σ) := by
      intro y a1 h1 g1
      rw [nI_1]
      exact ih (k + 1) y a1 h1 g1 (by omega) (by omega)
    have k64 : ∀ p, p < t → k_ok (f_M_isBelowNamed_64 (f_M_isBelowNamed_27 f) (mF σ aa hh gg) (nI a) (nI b) (nI m) (nI k) (nI p)) (kF σ) := by
      intro p hpt
      unfold f_M_isBelowNamed_64
      refine k_guard ib ?_
      rw [nI_clamp (show b < 2 ^ 31 by omega), show M_classOf (mF σ aa hh gg) b = nI c from c2]
      refine k_bind (s_M_lookAt (σ := mF σ aa hh gg) h hpt c1) ?_
      rintro ⟨v, τ⟩ ⟨a', h', g', e1, e2, e3, _⟩
      replace e1 : τ = mF σ a' h' g' := e1
      subst e1
      replace e3 : a' = 1 → kOwn t (M_generic σ c) h' g' := e3
      have ib' : ¬ (nI b < 0 ∨ 300 ≤ b) := by
        have := nI_pos (n := b) (by omega)
        rintro (q | q)
        · exact this q
        · omega
      have k125 : a' = 1 → k_ok (f_M_isBelowNamed_125 (f_M_isBelowNamed_27 f) (mF σ a' h' g') (nI a) (nI b) (nI m) (nI k)) (kF σ) := by
        intro ea
        unfold f_M_isBelowNamed_125
        refine k_guard ib (k_if (fun w => ?_) (fun _ => nx _ _ _ _))
        rw [nI_clamp (show b < 2 ^ 31 by omega)] at w ⊢
        replace w : M_how σ b = 2 := w
        rcases c3 with ⟨_, w2, _⟩ | ⟨w1, _, x, x1, x2, x3⟩
        · rw [w2] at w; exact absurd w (by decide)
        · rcases e3 ea with ⟨w4, _, _⟩ | ⟨_, _, y, y1, y2, y3⟩
          · rw [w1] at w4; exact absurd w4 (by decide)
          · rw [show M_foundType (mF σ a' h' g') = nI y from y3, show M_inner (mF σ a' h' g') b = nI x from x3]
            refine k_guard ib' (k_guard (k_in300 (by omega) (by omega)) ?_)
            exact k_if (fun _ => nx _ _ _ _) (fun _ => nx _ _ _ _)
      refine k_if (fun _ => nx _ _ _ _) (fun w => ?_)
      have ea : a' = 1 := by
        rcases e2 with e2 | e2
        · exact absurd e2 w
        · exact e2
      refine k_guard ib' (k_if (fun _ => nx _ _ _ _) (fun _ => ?_))
      refine k_guard ib' (k_if (fun _ => ?_) (fun _ => k125 ea))
      refine k_if (fun _ => ?_) (fun _ => k125 ea)
      exact k_guard ib' (k_if (fun _ => nx _ _ _ _) (fun _ => k125 ea))
    refine k_guard ia (k_if (fun w => ?_) (fun _ => k64 a ha))
    rw [nI_clamp (show a < 2 ^ 31 by omega)] at w
    obtain ⟨p, p1, p2⟩ := hp w k (by omega)
    have ix : ¬ ((30 * nI a + nI k) < 0 ∨ 9000 ≤ (30 * nI a + nI k).toNatClampNeg) := by
      rw [k_30ix]; exact nI_in (by omega) (by decide)
    have cl : (30 * nI a + nI k).toNatClampNeg = 30 * a + k := by rw [k_30ix]; exact nI_clamp (by omega)
    refine k_guard ix ?_
    rw [cl, show M_partRow (mF σ aa hh gg) (30 * a + k) = nI p from p2]
    exact k64 p p1
theorem s_M_isBelowNamed (h : kM σ n t) {a b : Nat} (ha : a < t) (hb : b < t) (hkb : M_kind σ b = 1) : k_ok (f_M_isBelowNamed σ (nI a) (nI b)) (kF σ) := by
  have ht := h.2.2.2.1
  have ia : ¬ (nI a < 0 ∨ 300 ≤ (nI a).toNatClampNeg) := nI_in (by omega) (by decide)
  obtain ⟨m, m1, m2, m3⟩ := kTyp_part h.2.2 ha
  unfold f_M_isBelowNamed
  refine k_guard ia (k_if (fun w => ?_) (fun w => ?_))
  · refine k_guard ia ?_
    rw [nI_clamp (show a < 2 ^ 31 by omega), m2]
    refine s_M_isBelowNamed_27 h ha hb hkb m1 (fun _ k hk => ?_) 1000 0 0 (M_found σ) (M_foundHow σ) (M_foundType σ) (by omega) (by omega)
    obtain ⟨p, _, p2, p3, _⟩ := m3 k hk
    exact ⟨p, by omega, p3⟩
  · rw [nI_clamp (show a < 2 ^ 31 by omega)] at w
    exact s_M_isBelowNamed_27 (m := 1) h ha hb hkb (by omega) (fun w2 => absurd w2 w) 1000 0 0 (M_found σ) (M_foundHow σ) (M_foundType σ) (by omega) (by omega)
def kK (σ : StM) (r : Int32 × StM) : Prop := ∃ a h g β ν, r.2 = mK σ a h g β ν
theorem s_M_reckonBelow_32 (h : kM σ n t) {b : Nat} (hb : b < t) (k22 : StM → Int32 → Option (Int32 × StM)) (hk : ∀ (a' h' g' : Int32) (β : Nat → Int32) (ν : Int32), k_ok (k22 (mK σ a' h' g' β ν) (nI b + 1)) (kK σ)) :
    ∀ (f a : Nat) (aa hh gg : Int32) (β : Nat → Int32) (ν : Int32), a ≤ t → t < f + a → k_ok (f_M_reckonBelow_32 k22 f (mK σ aa hh gg β ν) (nI b) (nI a)) (kK σ) := by
  have ht := h.2.2.2.1
  have et : M_types σ = nI t := h.2.1
  have ib : ¬ (nI b < 0 ∨ 300 ≤ (nI b).toNatClampNeg) := nI_in (by omega) (by decide)
  have cb : (nI b).toNatClampNeg = b := nI_clamp (by omega)
  intro f
  induction f with
  | zero => intro a aa hh gg β ν h1 h2; omega
  | succ f ih =>
    intro a aa hh gg β ν h1 h2
    rw [f_M_reckonBelow_32]
    unfold f_M_reckonBelow_32_s
    rw [show M_types (mK σ aa hh gg β ν) = nI t from et]
    refine k_if (fun _ => hk _ _ _ _ _) (fun q => ?_)
    rw [nI_leI (by omega) (by omega)] at q
    have ix : ¬ ((300 * nI a + nI b) < 0 ∨ 90000 ≤ (300 * nI a + nI b).toNatClampNeg) := k_in300 (by omega) (by omega)
    have nx : ∀ (a' h' g' : Int32) (β' : Nat → Int32) (ν' : Int32), k_ok (f_M_reckonBelow_32 k22 f (mK σ a' h' g' β' ν') (nI b) (nI a + 1)) (kK σ) := by
      intro a' h' g' β' ν'
      rw [nI_1]
      exact ih (a + 1) a' h' g' β' ν' (by omega) (by omega)
    have k113 : ∀ (a' h' g' : Int32), k_ok (f_M_reckonBelow_113 k22 (f_M_reckonBelow_32 k22 f) (mK σ a' h' g' β ν) (nI b) (nI a) (300 * nI a + nI b)) (kK σ) := by
      intro a' h' g'
      unfold f_M_reckonBelow_113
      exact k_guard ix (nx a' h' g' _ ν)
    have k94 : ∀ (a' h' g' : Int32), k_ok (f_M_reckonBelow_94 k22 (f_M_reckonBelow_32 k22 f) (mK σ a' h' g' β ν) (nI b) (nI a) (300 * nI a + nI b)) (kK σ) := by
      intro a' h' g'
      unfold f_M_reckonBelow_94
      refine k_guard ib (k_if (fun w => ?_) (fun _ => k_guard ix (nx a' h' g' _ ν)))
      rw [cb] at w
      refine k_bind (s_M_isBelowArray (σ := mK σ a' h' g' β ν) h.2 (show a < t by omega) hb w) ?_
      intro r1 _
      exact k_if (fun _ => k_guard ix (nx a' h' g' _ ν)) (fun _ => k113 a' h' g')
    have k75 : k_ok (f_M_reckonBelow_75 k22 (f_M_reckonBelow_32 k22 f) (mK σ aa hh gg β ν) (nI b) (nI a) (300 * nI a + nI b)) (kK σ) := by
      unfold f_M_reckonBelow_75
      refine k_guard ib (k_if (fun w => ?_) (fun _ => k94 aa hh gg))
      rw [cb] at w
      refine k_bind (s_M_isBelowNamed (σ := mK σ aa hh gg β ν) h (show a < t by omega) hb w) ?_
      rintro ⟨v, τ⟩ ⟨a', h', g', e1⟩
      replace e1 : τ = mK σ a' h' g' β ν := e1
      subst e1
      exact k_if (fun _ => k94 a' h' g') (fun _ => k113 a' h' g')
    refine k_if (fun _ => k113 aa hh gg) (fun _ => ?_)
    refine k_guard ib (k_if (fun _ => ?_) (fun _ => k75))
    refine k_bind (s_M_isBelowAll (σ := mK σ aa hh gg β ν) h.2 (show a < t by omega) hb) ?_
    intro r3 _
    exact k_if (fun _ => k75) (fun _ => k113 aa hh gg)
theorem s_M_reckonBelow_22 (h : kM σ n t) : ∀ (f b : Nat) (aa hh gg : Int32) (β : Nat → Int32) (ν : Int32), b ≤ t → t < f + b → k_ok (f_M_reckonBelow_22 f (mK σ aa hh gg β ν) (nI b)) (kK σ) := by
  have ht := h.2.2.2.1
  have et : M_types σ = nI t := h.2.1
  intro f
  induction f with
  | zero => intro b aa hh gg β ν h1 h2; omega
  | succ f ih =>
    intro b aa hh gg β ν h1 h2
    rw [f_M_reckonBelow_22]
    unfold f_M_reckonBelow_22_s
    rw [show M_types (mK σ aa hh gg β ν) = nI t from et]
    refine k_if (fun _ => k_some ⟨aa, hh, gg, β, ν, rfl⟩) (fun q => ?_)
    rw [nI_leI (by omega) (by omega)] at q
    refine s_M_reckonBelow_32 h (show b < t by omega) _ ?_ 1000 0 aa hh gg β ν (by omega) (by omega)
    intro a' h' g' β' ν'
    rw [nI_1]
    exact ih (b + 1) a' h' g' β' ν' (by omega) (by omega)
theorem s_M_reckonBelow (h : kM σ n t) : k_ok (f_M_reckonBelow σ) (kK σ) := by
  have ht := h.2.2.2.1
  unfold f_M_reckonBelow
  refine k_if (fun _ => k_some ⟨M_found σ, M_foundHow σ, M_foundType σ, M_below σ, M_reckoned σ, rfl⟩) (fun _ => ?_)
  exact s_M_reckonBelow_22 h 1000 0 (M_found σ) (M_foundHow σ) (M_foundType σ) (M_below σ) (M_types σ) (by omega) (by omega)
end
-- part 08.27.M5.lean.txt
/-! The reference: declare and above. -/
theorem k_pigeon : ∀ (c d : Nat) (f : Nat → Nat), (∀ k, k < d → f k < c) → (∀ k l, k < l → l < d → f k ≠ f l) → d ≤ c := by
  intro c
  induction c with
  | zero =>
    intro d f h1 _
    rcases Nat.eq_zero_or_pos d with e | e
    · omega
    · have := h1 0 e; omega
  | succ c ih =>
    intro d f h1 h2
    by_cases hx : ∃ k, k < d ∧ f k = c
    · obtain ⟨k, hk, ek⟩ := hx
      have hd : d - 1 ≤ c := by
        refine ih (d - 1) (fun j => if j = k then f (d - 1) else f j) ?_ ?_
        · intro j hj
          show (if j = k then f (d - 1) else f j) < c
          by_cases e : j = k
          · rw [if_pos e]
            have q1 := h1 (d - 1) (by omega)
            have q2 := h2 k (d - 1) (by omega) (by omega)
            omega
          · rw [if_neg e]
            have q1 := h1 j (by omega)
            have q2 : f j ≠ c := by
              rcases Nat.lt_or_gt_of_ne e with g | g
              · have := h2 j k g hk; omega
              · have := h2 k j g (by omega); omega
            omega
        · intro j l hjl hl
          show (if j = k then f (d - 1) else f j) ≠ (if l = k then f (d - 1) else f l)
          by_cases e1 : j = k
          · rw [if_pos e1, if_neg (by omega)]
            exact (h2 l (d - 1) (by omega) (by omega)).symm
          · rw [if_neg e1]
            by_cases e2 : l = k
            · rw [if_pos e2]
              exact h2 j (d - 1) (by omega) (by omega)
            · rw [if_neg e2]
              exact h2 j l hjl (by omega)
      omega
    · have : d ≤ c := by
        refine ih d f ?_ h2
        intro k hk
        have q1 := h1 k hk
        have q2 : f k ≠ c := fun e => hx ⟨k, hk, e⟩
        omega
      omega
section
variable {σ : StM} {n t : Nat}
theorem s_M_tie {c d : Nat} (hc : c < 30) (hd : d < 30) (ed : M_directs σ c = nI d) (x2 x3 : Int32) : k_ok (f_M_tie σ (nI c) x2 x3) (fun r => r.2 = M_put_directs (M_put_directArg (M_put_directTo σ (nI (30 * c + d)) x2) (nI (30 * c + d)) x3) (nI c) (nI (d + 1))) := by
  have ic : ¬ (nI c < 0 ∨ 30 ≤ (nI c).toNatClampNeg) := nI_in hc (by decide)
  have cc : (nI c).toNatClampNeg = c := nI_clamp (by omega)
  have e1 : 30 * nI c + M_directs σ (nI c).toNatClampNeg = nI (30 * c + d) := by rw [cc, ed, k_30ix]
  have e2 : M_directs σ (nI c).toNatClampNeg + 1 = nI (d + 1) := by rw [cc, ed, nI_1]
  have ix : ¬ ((30 * nI c + M_directs σ (nI c).toNatClampNeg) < 0 ∨ 900 ≤ (30 * nI c + M_directs σ (nI c).toNatClampNeg).toNatClampNeg) := by rw [e1]; exact nI_in (by omega) (by decide)
  unfold f_M_tie
  refine k_guard ic (k_guard ix (k_guard ic (k_guard ix (k_guard ic (k_guard ic (k_some ?_))))))
  show M_put_directs (M_put_directArg (M_put_directTo σ (30 * nI c + M_directs σ (nI c).toNatClampNeg) x2) (30 * nI c + M_directs σ (nI c).toNatClampNeg) x3) (nI c) (M_directs σ (nI c).toNatClampNeg + 1) = _
  rw [e1, e2]
theorem s_M_reckonOver_4 {c d : Nat} (hc : c < 30) (hd : d ≤ 30) (ed : M_directs σ c = nI d) (he : ∀ k, k < d → ∃ e, e < 30 ∧ M_directTo σ (30 * c + k) = nI e) :
    ∀ (f k : Nat) (x : Int32), k ≤ d → d < f + k → (∀ b, b < 32 → (bt x b = true ↔ ∃ j e, j < k ∧ e < 30 ∧ M_directTo σ (30 * c + j) = nI e ∧ (e = b ∨ bt (M_over σ e) b = true))) →
      k_ok (f_M_reckonOver_4 f σ (nI c) x (nI k)) (fun r => ∃ v, r.2 = M_put_over σ (nI c) v ∧ ∀ b, b < 32 → (bt v b = true ↔ ∃ j e, j < d ∧ e < 30 ∧ M_directTo σ (30 * c + j) = nI e ∧ (e = b ∨ bt (M_over σ e) b = true))) := by
  have ic : ¬ (nI c < 0 ∨ 30 ≤ (nI c).toNatClampNeg) := nI_in hc (by decide)
  have cc : (nI c).toNatClampNeg = c := nI_clamp (by omega)
  intro f
  induction f with
  | zero => intro k x h1 h2; omega
  | succ f ih =>
    intro k x h1 h2 h3
    rw [f_M_reckonOver_4]
    unfold f_M_reckonOver_4_s
    refine k_guard ic ?_
    refine k_if (fun q => ?_) (fun q => ?_)
    · rw [cc, ed, nI_leI (by omega) (by omega)] at q
      have hk : k = d := by omega
      subst hk
      exact k_guard ic (k_some ⟨x, rfl, h3⟩)
    · rw [cc, ed, nI_leI (by omega) (by omega)] at q
      obtain ⟨e, e1, e2⟩ := he k (by omega)
      have ix : ¬ ((30 * nI c + nI k) < 0 ∨ 900 ≤ (30 * nI c + nI k).toNatClampNeg) := by
        rw [k_30ix]; exact nI_in (by omega) (by decide)
      have cl : (30 * nI c + nI k).toNatClampNeg = 30 * c + k := by rw [k_30ix]; exact nI_clamp (by omega)
      refine k_guard ix ?_
      rw [cl, e2]
      refine k_guard (nI_in e1 (by decide)) ?_
      rw [nI_clamp (show e < 2 ^ 31 by omega), nI_1]
      refine ih (k + 1) _ (by omega) (by omega) ?_
      intro b hb
      rw [b_or, b_or, k_shl1 e (by omega) hb]
      constructor
      · intro hx
        rw [Bool.or_eq_true, Bool.or_eq_true, decide_eq_true_iff] at hx
        rcases hx with hx | hx | hx
        · obtain ⟨j, e', j1, j2, j3, j4⟩ := (h3 b hb).mp hx
          exact ⟨j, e', by omega, j2, j3, j4⟩
        · exact ⟨k, e, by omega, e1, e2, Or.inl hx.symm⟩
        · exact ⟨k, e, by omega, e1, e2, Or.inr hx⟩
      · rintro ⟨j, e', j1, j2, j3, j4⟩
        rw [Bool.or_eq_true, Bool.or_eq_true, decide_eq_true_iff]
        by_cases ej : j = k
        · subst ej
          rw [e2] at j3
          rw [nI_eq (by omega) (by omega)] at j3
          subst j3
          rcases j4 with j4 | j4
          · exact Or.inr (Or.inl j4.symm)
          · exact Or.inr (Or.inr j4)
        · exact Or.inl ((h3 b hb).mpr ⟨j, e', by omega, j2, j3, j4⟩)
theorem s_M_reckonOver {c d : Nat} (hc : c < 30) (hd : d ≤ 30) (ed : M_directs σ c = nI d) (he : ∀ k, k < d → ∃ e, e < 30 ∧ M_directTo σ (30 * c + k) = nI e) :
    k_ok (f_M_reckonOver σ (nI c)) (fun r => ∃ v, r.2 = M_put_over σ (nI c) v ∧ ∀ b, b < 32 → (bt v b = true ↔ ∃ j e, j < d ∧ e < 30 ∧ M_directTo σ (30 * c + j) = nI e ∧ (e = b ∨ bt (M_over σ e) b = true))) := by
  unfold f_M_reckonOver
  refine s_M_reckonOver_4 hc hd ed he 1000 0 0 (by omega) (by omega) ?_
  intro b hb
  rw [b_0]
  exact ⟨fun q => absurd q (by decide), fun ⟨j, e, j1, _⟩ => by omega⟩
/-- class c gets new rows in its own place, and its bits anew: the other classes keep theirs -/
theorem kClE_new {gn dr to ar ov gn' dr' to' ar' ov' : Nat → Int32} {c : Nat} (h : kCls n t gn dr to ar ov) (hn : c ≤ n)
    (hg : ∀ e, e < c → gn' e = gn e) (hd : ∀ e, e < c → dr' e = dr e) (ht : ∀ x, x < 30 * c → to' x = to x) (ha : ∀ x, x < 30 * c → ar' x = ar x) (ho : ∀ e, e < c → ov' e = ov e) :
    ∀ e, e < c → kClE t gn' dr' to' ar' ov' e := by
  intro e he
  obtain ⟨h0, d, h1, h2, h3, h4, h5, h6⟩ := h.2.2.2 e (by omega)
  have h30 := h.2.1
  refine ⟨by rw [hg e he]; exact h0, d, h1, h2, by rw [hd e he]; exact h3, ?_, ?_, ?_⟩
  · intro k hk
    obtain ⟨q, q1, q2, q3⟩ := h4 k hk
    refine ⟨q, q1, by rw [ht _ (by omega)]; exact q2, ?_⟩
    rw [hg q (by omega), hg e he, ha _ (by omega)]; exact q3
  · intro k l hk hl
    rw [ht _ (by omega), ht _ (by omega)]
    exact h5 k l hk hl
  · intro b hb
    rw [ho e he, h6 b hb]
    constructor
    · rintro ⟨k, q, k1, k2, k3, k4⟩
      refine ⟨k, q, k1, k2, by rw [ht _ (by omega)]; exact k3, ?_⟩
      rw [ho q (by omega)]; exact k4
    · rintro ⟨k, q, k1, k2, k3, k4⟩
      rw [ht _ (by omega)] at k3
      rw [ho q (by omega)] at k4
      exact ⟨k, q, k1, k2, k3, k4⟩
end
def kN (σ : StM) (n g d t : Nat) : Prop := kM σ n t ∧ M_generics σ = nI g ∧ g ≤ 6 ∧ M_full σ = 0 ∧ M_depth σ = nI d ∧ d ≤ 2
theorem k_good {α : Type} {σ : StM} {x : Int32} {f : Int32 × StM → Option α} {Q : α → Prop} (h0 : x = 0 → k_ok (f (1, M_set_code σ x)) Q) (h1 : ¬ x = 0 → k_ok (f (0, M_set_code σ x)) Q) : k_ok ((f_M_good σ x).bind f) Q := by
  unfold f_M_good
  by_cases h : x = 0
  · rw [if_pos h]; exact h0 h
  · rw [if_neg h]; exact h1 h
section
variable {σ : StM} {n g d t : Nat}
theorem kM_class (h : kMC σ n t) {x : Int32} (hx : ¬ f_M_isClass σ x = 0) : ∃ j, j < n ∧ x = nI j := by
  have hn := h.2.2.1
  unfold f_M_isClass at hx
  split at hx
  · exact absurd rfl hx
  · rename_i h0
    obtain ⟨j, hj, rfl⟩ := nI_of h0
    split at hx
    · exact absurd rfl hx
    · rename_i h1
      rw [h.1, nI_leI (by omega) hj] at h1
      exact ⟨j, by omega, rfl⟩
theorem kM_type (h : kMT σ n t) {x : Int32} (hx : ¬ f_M_isType σ x = 0) : ∃ j, j < t ∧ x = nI j := by
  have hn := h.2.2.1
  unfold f_M_isType at hx
  split at hx
  · exact absurd rfl hx
  · rename_i h0
    obtain ⟨j, hj, rfl⟩ := nI_of h0
    split at hx
    · exact absurd rfl hx
    · rename_i h1
      rw [h.1, nI_leI (by omega) hj] at h1
      exact ⟨j, by omega, rfl⟩
theorem k_nar {x : Int32} (h : x = 0 ∨ x = 1) : vp_nar .boolean x = x := by
  rcases h with rfl | rfl
  · decide +kernel
  · decide +kernel
theorem kCls_put {gn dr to ar ov gn' dr' to' ar' ov' : Nat → Int32} {c : Nat} (h : kCls n t gn dr to ar ov) (hc : c ≤ n) (h12 : 12 ≤ c) (h29 : c < 30)
    (hg : ∀ e, e < c → gn' e = gn e) (hd : ∀ e, e < c → dr' e = dr e) (ht : ∀ x, x < 30 * c → to' x = to x) (ha : ∀ x, x < 30 * c → ar' x = ar x) (ho : ∀ e, e < c → ov' e = ov e)
    (hE : kClE t gn' dr' to' ar' ov' c) : kCls (c + 1) t gn' dr' to' ar' ov' := by
  refine ⟨by omega, by omega, ?_, ?_⟩
  · intro e he
    rw [hg e (by omega)]; exact h.2.2.1 e he
  · intro e he
    by_cases q : e = c
    · rw [q]; exact hE
    · exact kClE_new h hc hg hd ht ha ho e (by omega)
theorem s_M_declare_70 (h : kN σ n g d t) (hn : n < 30) {τ : StM} {y t1 t2 : Int32} {g' : Nat} (hy : y = 0 ∨ y = 1) (e0 : t1 + t2 = nI g') (hg6 : g' ≤ 6) (e1 : M_classes τ = nI n) (e2 : M_generic τ = upd (M_generic σ) n y)
    (e3 : M_directs τ = M_directs σ) (e4 : M_directTo τ = M_directTo σ) (e5 : M_directArg τ = M_directArg σ) (e6 : M_over τ = M_over σ) (e7 : kMT τ n t) (e8 : M_full τ = 0) (e9 : M_depth τ = nI d) (e10 : M_code τ = 0) :
    k_ok (f_M_declare_70 τ t1 t2) (fun r => r.1 = nI n ∧ M_code r.2 = 0 ∧ kN r.2 (n + 1) g' d t) := by
  have h13 := h.1.1.2.1
  unfold f_M_declare_70
  have ic : ¬ (M_classes τ < 0 ∨ 30 ≤ (M_classes τ).toNatClampNeg) := by rw [e1]; exact nI_in hn (by decide)
  refine k_guard ic ?_
  have cn : (nI n).toNatClampNeg = n := nI_clamp (by omega)
  have c30 : (nI (30 * n + 0)).toNatClampNeg = 30 * n := nI_clamp (by omega)
  show k_ok ((f_M_tie (M_put_directs (M_set_generics τ (t1 + t2)) (M_classes τ) 0) (M_classes τ) 0 (-1)).bind fun r2 => (f_M_reckonOver r2.2 (M_classes r2.2)).bind fun r3 => some (((M_classes (M_set_classes r3.2 ((M_classes r3.2) + 1))) - 1), (M_set_classes r3.2 ((M_classes r3.2) + 1)))) _
  rw [e0, e1]
  refine k_bind (s_M_tie (σ := M_put_directs (M_set_generics τ (nI g')) (nI n) 0) (c := n) (d := 0) hn (by omega) (by show upd (M_directs τ) (nI n).toNatClampNeg 0 n = nI 0; rw [cn, k_upds]; rfl) 0 (-1)) ?_
  rintro ⟨v0, S⟩ eS
  replace eS : S = M_put_directs (M_put_directArg (M_put_directTo (M_put_directs (M_set_generics τ (nI g')) (nI n) 0) (nI (30 * n + 0)) 0) (nI (30 * n + 0)) (-1)) (nI n) (nI (0 + 1)) := eS
  have s1 : M_classes S = nI n := by rw [eS]; exact e1
  have s2 : M_directs S n = nI 1 := by rw [eS]; show upd _ (nI n).toNatClampNeg (nI 1) n = _; rw [cn, k_upds]
  have s2' : ∀ e, e < n → M_directs S e = M_directs σ e := by
    intro e he
    rw [eS]; show upd (upd (M_directs τ) (nI n).toNatClampNeg 0) (nI n).toNatClampNeg (nI 1) e = _
    rw [cn, k_u he, k_u he, e3]
  have s3 : M_directTo S (30 * n) = nI 0 := by rw [eS]; show upd (M_directTo τ) (nI (30 * n + 0)).toNatClampNeg 0 (30 * n) = _; rw [c30, k_upds]; rfl
  have s3' : ∀ x, x < 30 * n → M_directTo S x = M_directTo σ x := by
    intro x hx
    rw [eS]; show upd (M_directTo τ) (nI (30 * n + 0)).toNatClampNeg 0 x = _; rw [c30, k_u hx, e4]
  have s4 : M_directArg S (30 * n) = -1 := by rw [eS]; show upd (M_directArg τ) (nI (30 * n + 0)).toNatClampNeg (-1) (30 * n) = _; rw [c30, k_upds]
  have s4' : ∀ x, x < 30 * n → M_directArg S x = M_directArg σ x := by
    intro x hx
    rw [eS]; show upd (M_directArg τ) (nI (30 * n + 0)).toNatClampNeg (-1) x = _; rw [c30, k_u hx, e5]
  have s5 : M_over S = M_over σ := by rw [eS]; exact e6
  have s6 : M_generic S = upd (M_generic σ) n y := by rw [eS]; exact e2
  have s7 : kMT S n t := by rw [eS]; exact e7
  have s8 : M_full S = 0 := by rw [eS]; exact e8
  have s9 : M_depth S = nI d := by rw [eS]; exact e9
  have s10 : M_code S = 0 := by rw [eS]; exact e10
  have s11 : M_generics S = nI g' := by rw [eS]
  show k_ok ((f_M_reckonOver S (M_classes S)).bind fun r3 => some (((M_classes (M_set_classes r3.2 ((M_classes r3.2) + 1))) - 1), (M_set_classes r3.2 ((M_classes r3.2) + 1)))) _
  rw [s1]
  have sE : ∀ k, k < 1 → ∃ e, e < 30 ∧ M_directTo S (30 * n + k) = nI e := by
    intro k hk
    have hk0 : k = 0 := by omega
    subst hk0
    exact ⟨0, by omega, s3⟩
  refine k_bind (s_M_reckonOver (σ := S) (c := n) (d := 1) hn (by omega) s2 sE) ?_
  rintro ⟨v1, W⟩ ⟨v, eW, hv⟩
  replace eW : W = M_put_over S (nI n) v := eW
  have w5 : M_over W n = v := by rw [eW]; show upd (M_over S) (nI n).toNatClampNeg v n = _; rw [cn, k_upds]
  have w5' : ∀ e, e < n → M_over W e = M_over σ e := by
    intro e he
    rw [eW]; show upd (M_over S) (nI n).toNatClampNeg v e = _; rw [cn, k_u he, s5]
  have hW : ∀ {α : Type} (p : StM → α), p (M_put_over S (nI n) v) = p W := fun p => by rw [eW]
  refine k_some ⟨?_, ?_, ⟨⟨?_, ?_⟩, ?_⟩, ?_, hg6, ?_, ?_, h.2.2.2.2.2⟩
  · show M_classes W + 1 - 1 = nI n
    rw [eW]; show M_classes S + 1 - 1 = nI n; rw [s1, nI_1]; exact nI_pred n
  · show M_code W = 0; rw [eW]; exact s10
  · show M_classes W + 1 = nI (n + 1)
    rw [eW]; show M_classes S + 1 = _; rw [s1, nI_1]
  · show kCls (n + 1) t (M_generic W) (M_directs W) (M_directTo W) (M_directArg W) (M_over W)
    have wg : M_generic W = upd (M_generic σ) n y := by rw [eW]; exact s6
    have wd : M_directs W = M_directs S := by rw [eW]
    have wt : M_directTo W = M_directTo S := by rw [eW]
    have wa : M_directArg W = M_directArg S := by rw [eW]
    rw [wg, wd, wt, wa]
    refine kCls_put h.1.1.2 (Nat.le_refl n) (by omega) hn (fun e he => k_u he) s2' s3' s4' w5' ?_
    refine ⟨by rw [k_upds]; exact hy, 1, by omega, fun _ => by omega, s2, ?_, ?_, ?_⟩
    · intro k hk
      have hk0 : k = 0 := by omega
      subst hk0
      refine ⟨0, by omega, s3, ?_⟩
      have s4k : M_directArg S (30 * n + 0) = -1 := s4
      rw [k_u (show 0 < n by omega), h.1.1.2.2.2.1 0 (by omega), s4k]
      exact Or.inl ⟨rfl, rfl⟩
    · intro k l hk hl; omega
    · intro b hb
      rw [w5, hv b hb]
      constructor
      · rintro ⟨j, e, j1, j2, j3, j4⟩
        have hj0 : j = 0 := by omega
        subst hj0
        have j3' : M_directTo S (30 * n) = nI e := j3
        rw [s3, nI_eq (by omega) (by omega)] at j3'
        subst j3'
        refine ⟨0, 0, by omega, by omega, s3, ?_⟩
        rw [w5' 0 (by omega)]; rw [s5] at j4; exact j4
      · rintro ⟨j, e, j1, j2, j3, j4⟩
        refine ⟨j, e, j1, by omega, j3, ?_⟩
        rw [w5' e j2] at j4; rw [s5]; exact j4
  · show kMT (M_set_classes W (M_classes W + 1)) (n + 1) t
    have q : kMT W n t := by rw [eW]; exact s7
    refine ⟨q.1, q.2.1, q.2.2.1, ?_, q.2.2.2.2⟩
    intro i hi
    obtain ⟨q1, q2⟩ := q.2.2.2.1 i hi
    refine ⟨q1, ?_⟩
    rcases q2 with q2 | ⟨p1, p2, p3, p4, c, c1, c2, c3⟩ | q2 | q2
    · exact Or.inl q2
    · exact Or.inr (Or.inl ⟨p1, p2, p3, p4, c, by omega, c2, c3⟩)
    · exact Or.inr (Or.inr (Or.inl q2))
    · exact Or.inr (Or.inr (Or.inr q2))
  · show M_generics W = nI g'; rw [eW]; exact s11
  · show M_full W = 0; rw [eW]; exact s8
  · show M_depth W = nI d; rw [eW]; exact s9
/-- the new class's GENERIC mark stands behind all that the types speak of -/
theorem kMT_gen {τ : StM} {y : Int32} (h : kMT σ n t) (hg : M_generic τ = upd (M_generic σ) n y) (h1 : M_types τ = M_types σ) (h2 : M_kind τ = M_kind σ) (h3 : M_classOf τ = M_classOf σ) (h4 : M_how τ = M_how σ) (h5 : M_inner τ = M_inner σ) (h6 : M_made τ = M_made σ) (h7 : M_partCount τ = M_partCount σ) (h8 : M_partRow τ = M_partRow σ) : kMT τ n t := by
  unfold kMT
  rw [h1, h2, h3, h4, h5, h6, h7, h8, hg]
  refine ⟨h.1, h.2.1, h.2.2.1, ?_, h.2.2.2.2⟩
  intro i hi
  obtain ⟨q1, q2⟩ := h.2.2.2.1 i hi
  refine ⟨q1, ?_⟩
  rcases q2 with q2 | ⟨p1, p2, p3, p4, c, c1, c2, c3⟩ | q2 | q2
  · exact Or.inl q2
  · refine Or.inr (Or.inl ⟨p1, p2, p3, p4, c, c1, c2, ?_⟩)
    rw [k_u c1]; exact c3
  · exact Or.inr (Or.inr (Or.inl q2))
  · exact Or.inr (Or.inr (Or.inr q2))
theorem s_M_declare (h : kN σ n g d t) {x1 x2 : Int32} (h2 : x2 = 0 ∨ x2 = 1) : k_ok (f_M_declare σ x1 x2) (fun r => ((n = 30 ∨ (¬ x2 = 0 ∧ 6 ≤ g)) → M_code r.2 = 1 ∧ kN r.2 n g d t) ∧ (¬ (n = 30 ∨ (¬ x2 = 0 ∧ 6 ≤ g)) → M_code r.2 = 0 ∧ r.1 = nI n ∧ kN r.2 (n + 1) (if x2 = 0 then g else g + 1) d t)) := by
  have hn := h.1.1.2.2.1
  have hg := h.2.2.1
  have en : M_classes σ = nI n := h.1.1.1
  have eg : M_generics σ = nI g := h.2.1
  have bad : k_ok (f_M_declare_28 σ x1 x2 1) (fun r => M_code r.2 = 1 ∧ kN r.2 n g d t) := by
    unfold f_M_declare_28
    refine k_good (fun q => absurd q (by decide)) (fun _ => ?_)
    exact k_if (fun _ => k_some ⟨rfl, h⟩) (fun q => absurd rfl q)
  have good : n < 30 → (x2 = 0 ∨ g < 6) → k_ok (f_M_declare_28 σ x1 x2 0) (fun r => M_code r.2 = 0 ∧ r.1 = nI n ∧ kN r.2 (n + 1) (if x2 = 0 then g else g + 1) d t) := by
    intro hlt hg6
    unfold f_M_declare_28
    refine k_good (fun _ => ?_) (fun q => absurd rfl q)
    refine k_if (fun q => absurd q k_10) (fun _ => ?_)
    have ic : ¬ (M_classes σ < 0 ∨ 30 ≤ (M_classes σ).toNatClampNeg) := by rw [en]; exact nI_in hlt (by decide)
    have cn : (M_classes σ).toNatClampNeg = n := by rw [en]; exact nI_clamp (by omega)
    refine k_guard ic (k_guard ic ?_)
    have hy : vp_nar .boolean x2 = 0 ∨ vp_nar .boolean x2 = 1 := by rw [k_nar h2]; exact h2
    have hgen : upd (M_generic σ) (M_classes σ).toNatClampNeg (vp_nar .boolean x2) = upd (M_generic σ) n (vp_nar .boolean x2) := by rw [cn]
    have fin : ∀ (w : Int32) (g' : Nat), M_generics σ + w = nI g' → g' ≤ 6 → k_ok (f_M_declare_70 (M_put_generic (M_put_face (M_set_code σ 0) (M_classes σ) (vp_nar .boolean x1)) (M_classes σ) (vp_nar .boolean x2)) (M_generics σ) w) (fun r => M_code r.2 = 0 ∧ r.1 = nI n ∧ kN r.2 (n + 1) g' d t) := by
      intro w g' e0 e6
      refine k_mono (s_M_declare_70 (σ := σ) (y := vp_nar .boolean x2) h hlt hy e0 e6 en hgen rfl rfl rfl rfl (kMT_gen h.1.2 hgen rfl rfl rfl rfl rfl rfl rfl rfl) h.2.2.2.1 h.2.2.2.2.1 rfl) ?_
      rintro r ⟨q1, q2, q3⟩
      exact ⟨q2, q1, q3⟩
    refine k_if (fun q => ?_) (fun q => ?_)
    · rw [if_pos q]
      refine fin 0 g ?_ hg
      rw [eg]; exact nI_add g 0
    · rw [if_neg q]
      refine fin 1 (g + 1) ?_ ?_
      · rw [eg]; exact nI_1 g
      · rcases hg6 with w | w
        · exact absurd w q
        · omega
  unfold f_M_declare f_M_declare_23 f_M_declare_27
  refine k_if (fun q => ?_) (fun q => ?_)
  · have q2 : nI n = nI 30 := by rw [← en]; exact q
    rw [nI_eq (by omega) (by decide)] at q2
    exact k_mono bad (fun r hr => ⟨fun _ => hr, fun q => absurd (Or.inl q2) q⟩)
  · have q2 : ¬ nI n = nI 30 := by rw [← en]; exact q
    rw [nI_eq (by omega) (by decide)] at q2
    refine k_if (fun w => ?_) (fun w => ?_)
    · have nc : ¬ (n = 30 ∨ (¬ x2 = 0 ∧ 6 ≤ g)) := by
        rintro (z | ⟨z, _⟩)
        · exact q2 z
        · exact z w
      exact k_mono (good (by omega) (Or.inl w)) (fun r hr => ⟨fun q => absurd q nc, fun _ => hr⟩)
    · refine k_if (fun z => ?_) (fun z => ?_)
      · have z2 : nI g = nI 6 := by rw [← eg]; exact z
        rw [nI_eq (by omega) (by decide)] at z2
        have yc : n = 30 ∨ (¬ x2 = 0 ∧ 6 ≤ g) := Or.inr ⟨w, by omega⟩
        exact k_mono bad (fun r hr => ⟨fun _ => hr, fun q => absurd yc q⟩)
      · have z2 : ¬ nI g = nI 6 := by rw [← eg]; exact z
        rw [nI_eq (by omega) (by decide)] at z2
        have nc : ¬ (n = 30 ∨ (¬ x2 = 0 ∧ 6 ≤ g)) := by
          rintro (y | ⟨_, y⟩)
          · exact q2 y
          · omega
        exact k_mono (good (by omega) (Or.inr (by omega))) (fun r hr => ⟨fun q => absurd q nc, fun _ => hr⟩)
end
-- part 08.28.M6.lean.txt
/-! The reference: above. -/
section
variable {σ : StM} {n g d t : Nat}
theorem s_M_hasDirect_5 {c m : Nat} (hc : c < 30) (hm : m < 30) (ed : M_directs σ c = nI m) (x2 : Int32) :
    ∀ (f k : Nat) (x3 : Int32), k ≤ m → m < f + k → (x3 = 0 ∨ x3 = 1) → (x3 = 0 → ∀ j, j < k → M_directTo σ (30 * c + j) ≠ x2) → k_ok (f_M_hasDirect_5 f σ (nI c) x2 x3 (nI k)) (fun r => r = 0 → ∀ j, j < m → M_directTo σ (30 * c + j) ≠ x2) := by
  have ic : ¬ (nI c < 0 ∨ 30 ≤ (nI c).toNatClampNeg) := nI_in hc (by decide)
  have cc : (nI c).toNatClampNeg = c := nI_clamp (by omega)
  intro f
  induction f with
  | zero => intro k x3 h1 h2; omega
  | succ f ih =>
    intro k x3 h1 h2 h3 h4
    rw [f_M_hasDirect_5]
    unfold f_M_hasDirect_5_s f_M_hasDirect_36
    refine k_guard ic ?_
    refine k_if (fun q => ?_) (fun q => ?_)
    · rw [cc, ed, nI_leI (by omega) (by omega)] at q
      refine k_some ?_
      intro w j hj
      have w0 : x3 = 0 := by
        rcases h3 with h3 | h3
        · exact h3
        · rw [h3] at w; exact absurd w (by decide)
      exact h4 w0 j (by omega)
    · rw [cc, ed, nI_leI (by omega) (by omega)] at q
      have nx1 : k_ok (f_M_hasDirect_5 f σ (nI c) x2 1 (nI k + 1)) (fun r => r = 0 → ∀ j, j < m → M_directTo σ (30 * c + j) ≠ x2) := by
        rw [nI_1]
        exact ih (k + 1) 1 (by omega) (by omega) (Or.inr rfl) (fun w => absurd w (by decide))
      refine k_if (fun w => ?_) (fun _ => nx1)
      have ix : ¬ ((30 * nI c + nI k) < 0 ∨ 900 ≤ (30 * nI c + nI k).toNatClampNeg) := by
        rw [k_30ix]; exact nI_in (by omega) (by decide)
      have cl : (30 * nI c + nI k).toNatClampNeg = 30 * c + k := by rw [k_30ix]; exact nI_clamp (by omega)
      refine k_guard ix (k_if (fun _ => nx1) (fun z => ?_))
      rw [cl] at z
      rw [nI_1]
      refine ih (k + 1) 0 (by omega) (by omega) (Or.inl rfl) ?_
      intro _ j hj
      by_cases ej : j = k
      · subst ej; exact z
      · exact h4 w j (by omega)
theorem s_M_partsWay_6 (h : kMC σ n t) {c e : Nat} (hc : c < n) (he : e < n) (x3 : Int32) :
    ∀ (f i : Nat) (x4 a hh gg : Int32), i ≤ n → n < f + i → k_ok (f_M_partsWay_6 f (mF σ a hh gg) (nI c) (nI e) x3 x4 (nI i)) (kF σ) := by
  have hn := h.2.2.1
  have en : M_classes σ = nI n := h.1
  intro f
  induction f with
  | zero => intro i x4 a hh gg h1 h2; omega
  | succ f ih =>
    intro i x4 a hh gg h1 h2
    rw [f_M_partsWay_6]
    unfold f_M_partsWay_6_s f_M_partsWay_85
    rw [show M_classes (mF σ a hh gg) = nI n from en]
    refine k_if (fun _ => k_some ⟨a, hh, gg, rfl⟩) (fun q => ?_)
    rw [nI_leI (by omega) (by omega)] at q
    have nx : ∀ y a' h' g' : Int32, k_ok (f_M_partsWay_6 f (mF σ a' h' g') (nI c) (nI e) x3 y (nI i + 1)) (kF σ) := by
      intro y a' h' g'
      rw [nI_1]
      exact ih (i + 1) y a' h' g' (by omega) (by omega)
    refine k_guard (nI_in (by omega) (by decide)) (k_if (fun _ => nx _ _ _ _) (fun _ => ?_))
    refine k_bind (s_M_climb (σ := mF σ a hh gg) h hc (show i < n by omega) (fun _ _ _ => True) (fun _ _ _ _ _ _ _ _ _ _ => trivial) trivial) ?_
    rintro ⟨v1, τ1⟩ ⟨a1, h1', g1, e1, _, _⟩
    replace e1 : τ1 = mF σ a1 h1' g1 := e1
    subst e1
    refine k_bind (s_M_climb (σ := mF σ a1 h1' g1) h he (show i < n by omega) (fun _ _ _ => True) (fun _ _ _ _ _ _ _ _ _ _ => trivial) trivial) ?_
    rintro ⟨v2, τ2⟩ ⟨a2, h2', g2, e2, _, _⟩
    replace e2 : τ2 = mF σ a2 h2' g2 := e2
    subst e2
    refine k_if (fun _ => ?_) (fun _ => nx _ _ _ _)
    refine k_if (fun _ => nx _ _ _ _) (fun _ => ?_)
    refine k_if (fun _ => nx _ _ _ _) (fun _ => ?_)
    exact k_if (fun _ => nx _ _ _ _) (fun _ => nx _ _ _ _)
theorem s_M_above_bad (h : kN σ n g d t) {x1 x2 x3 x6 : Int32} (hx : ¬ x6 = 0) : k_ok (f_M_above_216 σ x1 x2 x3 x6) (fun r => ∃ t', kN r.2 n g d t') := by
  unfold f_M_above_216
  refine k_good (fun q => absurd q hx) (fun _ => ?_)
  exact k_if (fun _ => k_some ⟨t, h⟩) (fun q => absurd rfl q)
/-- the newest class c, with rows of its own anew in S: its bits are reckoned, and all holds again -/
theorem s_M_above_266 (h : kN σ n g d t) {c m : Nat} (hc : c + 1 = n) {S : StM} (hm : m ≤ c) (hm0 : 0 < m)
    (s1 : M_classes S = nI n) (s2 : M_directs S c = nI m) (s2' : ∀ e, e < c → M_directs S e = M_directs σ e)
    (s3 : ∀ k, k < m → ∃ e, e < c ∧ M_directTo S (30 * c + k) = nI e ∧ kArg t (M_generic σ e) (M_generic σ c) (M_directArg S (30 * c + k)))
    (s3' : ∀ x, x < 30 * c → M_directTo S x = M_directTo σ x) (s4' : ∀ x, x < 30 * c → M_directArg S x = M_directArg σ x)
    (s5 : ∀ k l, k < l → l < m → M_directTo S (30 * c + k) ≠ M_directTo S (30 * c + l)) (s6 : M_over S = M_over σ) (s7 : M_generic S = M_generic σ)
    (s8 : kMT S n t) (s9 : M_generics S = nI g) (s10 : M_full S = 0) (s11 : M_depth S = nI d) :
    k_ok (f_M_above_266 S (nI c)) (fun r => ∃ t', kN r.2 n g d t') := by
  have h13 := h.1.1.2.1
  have h30 := h.1.1.2.2.1
  have cc : (nI c).toNatClampNeg = c := nI_clamp (by omega)
  unfold f_M_above_266
  refine k_bind (s_M_reckonOver (σ := S) (c := c) (d := m) (by omega) (by omega) s2 (fun k hk => by obtain ⟨e, q1, q2, _⟩ := s3 k hk; exact ⟨e, by omega, q2⟩)) ?_
  rintro ⟨v1, W⟩ ⟨v, eW, hv⟩
  replace eW : W = M_put_over S (nI c) v := eW
  refine k_guard (nI_in (by omega) (by decide)) (k_some ⟨t, ?_⟩)
  have w5 : M_over W c = v := by rw [eW]; show upd (M_over S) (nI c).toNatClampNeg v c = _; rw [cc, k_upds]
  have w5' : ∀ e, e < c → M_over W e = M_over σ e := by
    intro e he
    rw [eW]; show upd (M_over S) (nI c).toNatClampNeg v e = _; rw [cc, k_u he, s6]
  refine ⟨⟨⟨?_, ?_⟩, ?_⟩, ?_, h.2.2.1, ?_, ?_, h.2.2.2.2.2⟩
  · show M_classes W = nI n; rw [eW]; exact s1
  · show kCls n t (M_generic W) (M_directs W) (M_directTo W) (M_directArg W) (M_over W)
    have wg : M_generic W = M_generic σ := by rw [eW]; exact s7
    have wd : M_directs W = M_directs S := by rw [eW]
    have wt : M_directTo W = M_directTo S := by rw [eW]
    have wa : M_directArg W = M_directArg S := by rw [eW]
    rw [wg, wd, wt, wa, ← hc]
    refine kCls_put h.1.1.2 (show c ≤ n by omega) (by omega) (by omega) (fun e _ => rfl) s2' s3' s4' w5' ?_
    refine ⟨(h.1.1.2.2.2.2 c (by omega)).1, m, hm, fun _ => hm0, s2, s3, s5, ?_⟩
    intro b hb
    rw [w5, hv b hb]
    constructor
    · rintro ⟨j, e, j1, j2, j3, j4⟩
      obtain ⟨e', q1, q2, _⟩ := s3 j j1
      rw [j3, nI_eq (by omega) (by omega)] at q2
      subst q2
      refine ⟨j, e, j1, q1, j3, ?_⟩
      rw [w5' e q1]; rw [s6] at j4; exact j4
    · rintro ⟨j, e, j1, j2, j3, j4⟩
      refine ⟨j, e, j1, by omega, j3, ?_⟩
      rw [w5' e j2] at j4; rw [s6]; exact j4
  · show kMT W n t; rw [eW]; exact s8
  · show M_generics W = nI g; rw [eW]; exact s9
  · show M_full W = 0; rw [eW]; exact s10
  · show M_depth W = nI d; rw [eW]; exact s11
theorem s_M_above_good (h : kN σ n g d t) {c e m : Nat} (hc : c + 1 = n) (he : e < c) {x2 : Int32} (ha : kArg t (M_generic σ e) (M_generic σ c) x2) (hm30 : m < 30) (ed : M_directs σ c = nI m) (hno : ∀ j, j < m → M_directTo σ (30 * c + j) ≠ nI e) :
    k_ok (f_M_above_216 σ (nI e) x2 (nI c) 0) (fun r => ∃ t', kN r.2 n g d t') := by
  have h13 := h.1.1.2.1
  have h30 := h.1.1.2.2.1
  have ht := h.1.2.2.2.1
  have ce : (nI e).toNatClampNeg = e := nI_clamp (by omega)
  have cc : (nI c).toNatClampNeg = c := nI_clamp (by omega)
  obtain ⟨_, m', d1, d2, d3, d4, d5, d6⟩ := h.1.1.2.2.2.2 c (by omega)
  have em : m' = m := by
    rw [ed, nI_eq (by omega) (by omega)] at d3
    exact d3.symm
  subst em
  unfold f_M_above_216
  refine k_good (fun _ => ?_) (fun q => absurd rfl q)
  refine k_if (fun q => absurd q k_10) (fun _ => ?_)
  refine k_guard (nI_in (by omega) (by decide)) (k_if (fun _ => ?_) (fun _ => ?_))
  · have e30 : 30 * nI c = nI (30 * c) := k_mul 30 c
    have c30 : (30 * nI c).toNatClampNeg = 30 * c := by rw [e30]; exact nI_clamp (by omega)
    have ix : ¬ (30 * nI c < 0 ∨ 900 ≤ (30 * nI c).toNatClampNeg) := by rw [e30]; exact nI_in (by omega) (by decide)
    refine k_guard ix (k_guard ix ?_)
    have to' : ∀ x, upd (M_directTo σ) (30 * nI c).toNatClampNeg (nI e) x = if x = 30 * c then nI e else M_directTo σ x := by
      intro x; rw [c30]; rfl
    have ar' : ∀ x, upd (M_directArg σ) (30 * nI c).toNatClampNeg x2 x = if x = 30 * c then x2 else M_directArg σ x := by
      intro x; rw [c30]; rfl
    refine s_M_above_266 (S := M_put_directArg (M_put_directTo (M_set_code σ 0) (30 * nI c) (nI e)) (30 * nI c) x2) h hc d1 (d2 (by omega)) h.1.1.1 d3 (fun _ _ => rfl) ?_ ?_ ?_ ?_ rfl rfl h.1.2 h.2.1 h.2.2.2.1 h.2.2.2.2.1
    · intro k hk
      show ∃ e', e' < c ∧ upd (M_directTo σ) (30 * nI c).toNatClampNeg (nI e) (30 * c + k) = nI e' ∧ kArg t (M_generic σ e') (M_generic σ c) (upd (M_directArg σ) (30 * nI c).toNatClampNeg x2 (30 * c + k))
      rw [to', ar']
      by_cases k0 : k = 0
      · rw [if_pos (by omega), if_pos (by omega)]
        exact ⟨e, he, rfl, ha⟩
      · rw [if_neg (by omega), if_neg (by omega)]
        exact d4 k hk
    · intro x hx
      show upd (M_directTo σ) (30 * nI c).toNatClampNeg (nI e) x = _
      rw [to', if_neg (by omega)]
    · intro x hx
      show upd (M_directArg σ) (30 * nI c).toNatClampNeg x2 x = _
      rw [ar', if_neg (by omega)]
    · intro k l hk hl
      show upd (M_directTo σ) (30 * nI c).toNatClampNeg (nI e) (30 * c + k) ≠ upd (M_directTo σ) (30 * nI c).toNatClampNeg (nI e) (30 * c + l)
      rw [to', to', if_neg (show ¬ 30 * c + l = 30 * c by omega)]
      by_cases k0 : k = 0
      · rw [if_pos (by omega)]
        exact (hno l hl).symm
      · rw [if_neg (by omega)]
        exact d5 k l hk hl
  · have hmc : m' + 1 ≤ c := by
      refine k_pigeon c (m' + 1) (fun k => if k = m' then e else (M_directTo σ (30 * c + k)).toNatClampNeg) ?_ ?_
      · intro k hk
        show (if k = m' then e else (M_directTo σ (30 * c + k)).toNatClampNeg) < c
        by_cases k0 : k = m'
        · rw [if_pos k0]; exact he
        · rw [if_neg k0]
          obtain ⟨q, q1, q2, _⟩ := d4 k (by omega)
          rw [q2, nI_clamp (by omega)]; exact q1
      · intro k l hk hl
        show (if k = m' then e else (M_directTo σ (30 * c + k)).toNatClampNeg) ≠ (if l = m' then e else (M_directTo σ (30 * c + l)).toNatClampNeg)
        rw [if_neg (show ¬ k = m' by omega)]
        obtain ⟨q, q1, q2, _⟩ := d4 k (by omega)
        rw [q2, nI_clamp (by omega)]
        by_cases l0 : l = m'
        · rw [if_pos l0]
          intro w
          apply hno k (by omega)
          rw [q2, w]
        · rw [if_neg l0]
          obtain ⟨p, p1, p2, _⟩ := d4 l (by omega)
          rw [p2, nI_clamp (by omega)]
          intro w
          apply d5 k l hk (by omega)
          rw [q2, p2, w]
    show k_ok ((f_M_tie (M_set_code σ 0) (nI c) (nI e) x2).bind fun r3 => f_M_above_266 r3.2 (nI c)) _
    refine k_bind (s_M_tie (σ := M_set_code σ 0) (c := c) (d := m') (by omega) (by omega) d3 (nI e) x2) ?_
    rintro ⟨v0, S0⟩ eS0
    replace eS0 : S0 = M_put_directs (M_put_directArg (M_put_directTo (M_set_code σ 0) (nI (30 * c + m')) (nI e)) (nI (30 * c + m')) x2) (nI c) (nI (m' + 1)) := eS0
    subst eS0
    have ci : (nI (30 * c + m')).toNatClampNeg = 30 * c + m' := nI_clamp (by omega)
    have to' : ∀ x, upd (M_directTo σ) (nI (30 * c + m')).toNatClampNeg (nI e) x = if x = 30 * c + m' then nI e else M_directTo σ x := by
      intro x; rw [ci]; rfl
    have ar' : ∀ x, upd (M_directArg σ) (nI (30 * c + m')).toNatClampNeg x2 x = if x = 30 * c + m' then x2 else M_directArg σ x := by
      intro x; rw [ci]; rfl
    show k_ok (f_M_above_266 (M_put_directs (M_put_directArg (M_put_directTo (M_set_code σ 0) (nI (30 * c + m')) (nI e)) (nI (30 * c + m')) x2) (nI c) (nI (m' + 1))) (nI c)) _
    refine s_M_above_266 h hc hmc (by omega) h.1.1.1 ?_ ?_ ?_ ?_ ?_ ?_ rfl rfl h.1.2 h.2.1 h.2.2.2.1 h.2.2.2.2.1
    · show upd (M_directs σ) (nI c).toNatClampNeg (nI (m' + 1)) c = _
      rw [cc, k_upds]
    · intro e' he'
      show upd (M_directs σ) (nI c).toNatClampNeg (nI (m' + 1)) e' = _
      rw [cc, k_u he']
    · intro k hk
      show ∃ e', e' < c ∧ upd (M_directTo σ) (nI (30 * c + m')).toNatClampNeg (nI e) (30 * c + k) = nI e' ∧ kArg t (M_generic σ e') (M_generic σ c) (upd (M_directArg σ) (nI (30 * c + m')).toNatClampNeg x2 (30 * c + k))
      rw [to', ar']
      by_cases k0 : k = m'
      · rw [if_pos (by omega), if_pos (by omega)]
        exact ⟨e, he, rfl, ha⟩
      · rw [if_neg (by omega), if_neg (by omega)]
        exact d4 k (by omega)
    · intro x hx
      show upd (M_directTo σ) (nI (30 * c + m')).toNatClampNeg (nI e) x = _
      rw [to', if_neg (by omega)]
    · intro x hx
      show upd (M_directArg σ) (nI (30 * c + m')).toNatClampNeg x2 x = _
      rw [ar', if_neg (by omega)]
    · intro k l hk hl
      show upd (M_directTo σ) (nI (30 * c + m')).toNatClampNeg (nI e) (30 * c + k) ≠ upd (M_directTo σ) (nI (30 * c + m')).toNatClampNeg (nI e) (30 * c + l)
      rw [to', to', if_neg (show ¬ 30 * c + k = 30 * c + m' by omega)]
      by_cases l0 : l = m'
      · rw [if_pos (by omega)]
        exact hno k (by omega)
      · rw [if_neg (by omega)]
        exact d5 k l hk (by omega)
theorem s_M_above (h : kN σ n g d t) (x1 x2 : Int32) : k_ok (f_M_above σ x1 x2) (fun r => ∃ t', kN r.2 n g d t') := by
  have h13 := h.1.1.2.1
  have h30 := h.1.1.2.2.1
  have ht := h.1.2.2.2.1
  have en : M_classes σ = nI n := h.1.1.1
  have et : M_types σ = nI t := h.1.2.1
  obtain ⟨c, hc⟩ : ∃ c, c + 1 = n := ⟨n - 1, by omega⟩
  have ec : M_classes σ - 1 = nI c := by rw [en, ← hc]; exact nI_pred c
  have cc : (nI c).toNatClampNeg = c := nI_clamp (by omega)
  have ic : ¬ (nI c < 0 ∨ 30 ≤ (nI c).toNatClampNeg) := nI_in (by omega) (by decide)
  obtain ⟨gc, m, d1, d2, d3, d4, d5, d6⟩ := h.1.1.2.2.2.2 c (by omega)
  have bad : ∀ (y : Int32) (w : Int32), ¬ w = 0 → k_ok (f_M_above_216 σ x1 x2 y w) (fun r => ∃ t', kN r.2 n g d t') := fun y w hw => s_M_above_bad h hw
  -- the way on once `to` and the argument are there
  have k132 : ∀ e, e < c → x1 = nI e → ¬ M_types σ ≤ x2 → k_ok (f_M_above_132 σ x1 x2 (nI c) 0) (fun r => ∃ t', kN r.2 n g d t') := by
    intro e he e1 hx2
    have ge := (h.1.1.2.2.2.2 e (by omega)).1
    have ce : (nI e).toNatClampNeg = e := nI_clamp (by omega)
    unfold f_M_above_132
    refine k_bind (P := fun r => r = 0 → ∀ j, j < m → M_directTo σ (30 * c + j) ≠ x1) ?_ ?_
    · unfold f_M_hasDirect
      exact s_M_hasDirect_5 (by omega) (by omega) d3 x1 1000 0 0 (by omega) (by omega) (Or.inl rfl) (fun _ j hj => by omega)
    intro r4 hr4
    refine k_if (fun w => ?_) (fun _ => ?_)
    · have hno := hr4 w
      have k203 : kArg t (M_generic σ e) (M_generic σ c) x2 → k_ok (f_M_above_203 σ x1 x2 (nI c) 0) (fun r => ∃ t', kN r.2 n g d t') := by
        intro ha
        unfold f_M_above_203
        refine k_bind (P := kF σ) ?_ ?_
        · unfold f_M_partsWay
          rw [e1]
          exact s_M_partsWay_6 h.1.1 (show c < n by omega) (show e < n by omega) x2 1000 0 0 (M_found σ) (M_foundHow σ) (M_foundType σ) (by omega) (by omega)
        rintro ⟨v, τ⟩ ⟨a, hh, gg, eτ⟩
        replace eτ : τ = mF σ a hh gg := eτ
        subst eτ
        refine k_if (fun _ => ?_) (fun _ => s_M_above_bad (σ := mF σ a hh gg) h (by decide))
        rw [e1] at hno ⊢
        exact s_M_above_good (σ := mF σ a hh gg) h hc he ha (show m < 30 by omega) d3 hno
      have k163 : (x2 = -1 ∨ x2 = -2 ∨ ∃ x, 8 ≤ x ∧ x < t ∧ x2 = nI x) → k_ok (f_M_above_163 σ x1 x2 (nI c) 0) (fun r => ∃ t', kN r.2 n g d t') := by
        intro hx
        unfold f_M_above_163
        rw [e1]
        refine k_guard (nI_in (by omega) (by decide)) ?_
        rw [ce]
        rw [← e1]
        have k179 : ∀ t1 : Int32, (t1 = if x2 = -1 then 1 else 0) → k_ok (f_M_above_179 σ x1 x2 (nI c) 0 (M_generic σ e) t1) (fun r => ∃ t', kN r.2 n g d t') := by
          intro t1 ht1
          unfold f_M_above_179 f_M_above_197
          refine k_if (fun _ => bad _ _ (by decide)) (fun z => ?_)
          refine k_if (fun z2 => ?_) (fun z2 => ?_)
          · refine k_guard ic (k_if (fun _ => bad _ _ (by decide)) (fun z3 => ?_))
            rw [cc] at z3
            rw [z2, if_neg (by decide)] at ht1
            rw [ht1] at z
            refine k203 (Or.inr ⟨?_, Or.inr ⟨z2, ?_⟩⟩)
            · rcases ge with ge | ge
              · exact absurd ge z
              · exact ge
            · rcases gc with gc | gc
              · exact absurd gc z3
              · exact gc
          · rcases hx with hx | hx | ⟨x, x8, xt, hx⟩
            · rw [if_pos hx] at ht1
              rw [ht1] at z
              refine k203 (Or.inl ⟨?_, hx⟩)
              rcases ge with ge | ge
              · exact ge
              · exact absurd ge z
            · exact absurd hx z2
            · rw [if_neg (by rw [hx]; exact k_ne1 (by omega))] at ht1
              rw [ht1] at z
              refine k203 (Or.inr ⟨?_, Or.inl ⟨x, x8, xt, hx⟩⟩)
              rcases ge with ge | ge
              · exact absurd ge z
              · exact ge
        exact k_if (fun z => k179 1 (by rw [if_pos z])) (fun z => k179 0 (by rw [if_neg z]))
      unfold f_M_above_197
      refine k_if (fun _ => bad _ _ (by decide)) (fun z1 => ?_)
      refine k_if (fun z2 => ?_) (fun z2 => ?_)
      · refine k163 ?_
        rw [Int32.lt_iff_toInt_lt] at z1 z2
        have q0 : (0 : Int32).toInt = 0 := by decide
        have q1 : (-1 : Int32).toInt = -1 := by decide
        have q2 : (-2 : Int32).toInt = -2 := by decide
        rcases (show x2.toInt = -1 ∨ x2.toInt = -2 by omega) with q | q
        · exact Or.inl (Int32.toInt_inj.mp (by rw [q, q1]))
        · exact Or.inr (Or.inl (Int32.toInt_inj.mp (by rw [q, q2])))
      · refine k_if (fun _ => bad _ _ (by decide)) (fun z3 => ?_)
        refine k163 (Or.inr (Or.inr ?_))
        obtain ⟨x, hx, ex⟩ := nI_of z2
        rw [ex] at z3 hx2
        rw [et, nI_leI (by omega) hx] at hx2
        have z4 : ¬ nI x < nI 8 := z3
        rw [nI_ltI hx (by decide)] at z4
        exact ⟨x, by omega, by omega, ex⟩
    · exact bad _ _ (by decide)
  have k73 : ∀ (w z : Int32), (w = 0 ∨ ((∃ e, e < n ∧ x1 = nI e) ∧ ¬ M_types σ ≤ x2)) → k_ok (f_M_above_73 σ x1 x2 (nI c) w z) (fun r => ∃ t', kN r.2 n g d t') := by
    intro w z hw
    unfold f_M_above_73 f_M_above_141
    refine k_if (fun _ => bad _ _ (by decide)) (fun w0 => ?_)
    rcases hw with hw | ⟨⟨e, he, e1⟩, hx2⟩
    · exact absurd hw w0
    refine k_if (fun _ => bad _ _ (by decide)) (fun _ => ?_)
    refine k_if (fun _ => bad _ _ (by decide)) (fun ne => ?_)
    have hec : e < c := by
      have : ¬ e = c := by
        intro q
        apply ne
        rw [e1, q]
      omega
    have ie : ¬ (x1 < 0 ∨ 30 ≤ x1.toNatClampNeg) := by rw [e1]; exact nI_in (by omega) (by decide)
    have k118 : k_ok (f_M_above_118 σ x1 x2 (nI c) z 0) (fun r => ∃ t', kN r.2 n g d t') := by
      unfold f_M_above_118 f_M_above_141
      refine k_if (fun _ => k132 e hec e1 hx2) (fun _ => ?_)
      exact k_guard ie (k_if (fun _ => bad _ _ (by decide)) (fun _ => k132 e hec e1 hx2))
    refine k_guard ic (k_if (fun _ => k118) (fun _ => ?_))
    exact k_guard ie (k_if (fun _ => bad _ _ (by decide)) (fun _ => k118))
  have k28 : ∀ w : Int32, (w = 0 ∨ ((∃ e, e < n ∧ x1 = nI e) ∧ ¬ M_types σ ≤ x2)) → k_ok (f_M_above_28 σ x1 x2 (nI c) w) (fun r => ∃ t', kN r.2 n g d t') := by
    intro w hw
    have e30 : 30 * nI c = nI (30 * c) := k_mul 30 c
    have c30 : (30 * nI c).toNatClampNeg = 30 * c := by rw [e30]; exact nI_clamp (by omega)
    have ix : ¬ (30 * nI c < 0 ∨ 900 ≤ (30 * nI c).toNatClampNeg) := by rw [e30]; exact nI_in (by omega) (by decide)
    obtain ⟨e0, q1, q2, _⟩ := d4 0 (d2 (by omega))
    replace q2 : M_directTo σ (30 * c) = nI e0 := q2
    unfold f_M_above_28 f_M_above_72
    refine k_guard ic (k_if (fun _ => k73 w 0 hw) (fun _ => ?_))
    refine k_guard ix (k_if (fun _ => k73 w 0 hw) (fun _ => ?_))
    refine k_guard ix ?_
    rw [c30, q2]
    exact k_guard (nI_in (by omega) (by decide)) (k_if (fun _ => k73 w 1 hw) (fun _ => k73 w 0 hw))
  unfold f_M_above f_M_above_27
  rw [ec]
  refine k_if (fun _ => k28 0 (Or.inl rfl)) (fun w => ?_)
  refine k_if (fun _ => k28 0 (Or.inl rfl)) (fun w2 => ?_)
  obtain ⟨e, he, e1⟩ := kM_class h.1.1 w
  exact k28 1 (Or.inr ⟨⟨e, he, e1⟩, w2⟩)
end
-- part 08.29.M7.lean.txt
/-! The reference: the smaller public methods. -/
section
variable {σ : StM} {n g d t : Nat}
theorem s_M_end (h : kN σ n g d t) {K : Int32} {r : Int32 × StM} (hr : kXr σ n t K r) (w : Int32) : k_ok (f_M_end r.2 (nI t) r.1 w) (fun r' => ∃ t', kN r'.2 n g d t') := by
  obtain ⟨v, τ⟩ := r
  obtain ⟨⟨b, eb⟩, ha, hf⟩ := hr
  replace eb : τ = mB σ b := eb
  replace ha : kAg t σ τ := ha
  have hgen : M_generic τ = M_generic σ := by rw [eb]; rfl
  unfold f_M_end
  refine k_if (fun q => ?_) (fun q => ?_)
  · obtain ⟨i, t', t1, hk, _, _, _⟩ := hf q
    refine k_some ⟨t', hk, ?_, h.2.2.1, q, ?_, h.2.2.2.2.2⟩
    · show M_generics τ = nI g; rw [eb]; exact h.2.1
    · show M_depth τ = nI d; rw [eb]; exact h.2.2.2.2.1
  · refine k_some ⟨t, ⟨?_, ?_⟩, ?_, h.2.2.1, rfl, ?_, h.2.2.2.2.2⟩
    · show kMC τ n t; rw [eb]; exact h.1.1
    · exact kMT_ag (σ := σ) (τ := M_set_code (M_set_full (M_set_types τ (nI t)) 0) w) h.1.2 hgen ha rfl
    · show M_generics τ = nI g; rw [eb]; exact h.2.1
    · show M_depth τ = nI d; rw [eb]; exact h.2.2.2.2.1
def kPub (n g d : Nat) (r : Int32 × StM) : Prop := ∃ t', kN r.2 n g d t'
theorem s_M_named (h : kN σ n g d t) (x1 x2 x3 : Int32) : k_ok (f_M_named σ x1 x2 x3) (kPub n g d) := by
  have h30 := h.1.1.2.2.1
  have ht := h.1.2.2.2.1
  have et : M_types σ = nI t := h.1.2.1
  have bad : ∀ w : Int32, ¬ w = 0 → k_ok (f_M_named_78 σ x1 x2 x3 w) (kPub n g d) := by
    intro w hw
    unfold f_M_named_78
    refine k_good (fun q => absurd q hw) (fun _ => ?_)
    exact k_if (fun _ => k_some ⟨t, h⟩) (fun q => absurd rfl q)
  have good : ∀ c, c < n → x1 = nI c → (x2 = 0 → M_generic σ c = 0) → (¬ x2 = 0 → M_generic σ c = 1 ∧ (x2 = 1 ∨ x2 = 2) ∧ ∃ x, 8 ≤ x ∧ x < t ∧ x3 = nI x) → k_ok (f_M_named_78 σ x1 x2 x3 0) (kPub n g d) := by
    intro c hc e1 h0 h1
    have k112 : ∀ z : Int32, kOwn t (M_generic σ c) x2 z → k_ok (f_M_named_112 (M_set_code σ 0) (M_types σ) x1 x2 z) (kPub n g d) := by
      intro z hz
      unfold f_M_named_112
      rw [e1, et]
      refine k_bind (s_M_addNamed (σ := M_set_code σ 0) h.1 hc hz) ?_
      intro r hr
      refine k_bind (s_M_end (σ := M_set_code σ 0) h hr 3) ?_
      intro r' hr'
      exact k_some hr'
    unfold f_M_named_78
    refine k_good (fun _ => ?_) (fun q => absurd rfl q)
    refine k_if (fun q => absurd q k_10) (fun _ => ?_)
    refine k_if (fun q => ?_) (fun q => ?_)
    · exact k112 (-1) (Or.inl ⟨h0 q, q, rfl⟩)
    · obtain ⟨w1, w2, w3⟩ := h1 q
      exact k112 x3 (Or.inr ⟨w1, w2, w3⟩)
  have k25 : ∀ w : Int32, (w = 0 ∨ ((∃ c, c < n ∧ x1 = nI c) ∧ (x2 = 0 ∨ ∃ x, x < t ∧ x3 = nI x))) → k_ok (f_M_named_25 σ x1 x2 x3 w) (kPub n g d) := by
    intro w hw
    unfold f_M_named_25 f_M_named_73
    refine k_if (fun _ => bad 1 (by decide)) (fun w0 => ?_)
    rcases hw with hw | ⟨⟨c, hc, e1⟩, hx⟩
    · exact absurd hw w0
    have gc := (h.1.1.2.2.2.2 c hc).1
    refine k_if (fun _ => bad 2 (by decide)) (fun z1 => ?_)
    refine k_if (fun _ => bad 2 (by decide)) (fun z2 => ?_)
    have cc : x1.toNatClampNeg = c := by rw [e1]; exact nI_clamp (by omega)
    have ic : ¬ (x1 < 0 ∨ 30 ≤ x1.toNatClampNeg) := by rw [e1]; exact nI_in (by omega) (by decide)
    refine k_guard ic ?_
    rw [cc]
    refine k_if (fun z3 => ?_) (fun z3 => ?_)
    · unfold f_M_named_60 f_M_named_73 f_M_named_77
      refine k_if (fun _ => bad 2 (by decide)) (fun z4 => ?_)
      have g0 : M_generic σ c = 0 := by
        rcases gc with gc | gc
        · exact gc
        · exact absurd gc z4
      refine k_if (fun _ => good c hc e1 (fun _ => g0) (fun q => absurd z3 q)) (fun z5 => ?_)
      exact absurd (by rw [z3]; decide) z5
    · unfold f_M_named_60 f_M_named_73 f_M_named_77
      refine k_if (fun _ => bad 2 (by decide)) (fun z4 => ?_)
      have g1 : M_generic σ c = 1 := by
        rcases gc with gc | gc
        · exact absurd gc z4
        · exact gc
      obtain ⟨j, hj, e2⟩ := nI_of z1
      have z2' : ¬ nI 2 < nI j := by rw [← e2]; exact z2
      rw [nI_ltI (by decide) hj] at z2'
      have z3' : ¬ nI j = nI 0 := by rw [← e2]; exact z3
      rw [nI_eq hj (by decide)] at z3'
      have hw : x2 = 1 ∨ x2 = 2 := by
        rcases (show j = 1 ∨ j = 2 by omega) with q | q
        · exact Or.inl (by rw [e2, q]; rfl)
        · exact Or.inr (by rw [e2, q]; rfl)
      refine k_if (fun z5 => ?_) (fun _ => ?_)
      · exfalso
        rcases hw with q | q
        · rw [q] at z5; exact absurd z5 (by decide)
        · rw [q] at z5; exact absurd z5 (by decide)
      · refine k_if (fun z6 => ?_) (fun _ => bad 2 (by decide))
        rcases hx with q | ⟨x, xt, e3⟩
        · exact absurd q z3
        · have z7 : nI 8 ≤ nI x := by rw [← e3]; exact z6
          rw [nI_leI (by decide) (by omega)] at z7
          exact good c hc e1 (fun q => absurd q z3) (fun _ => ⟨g1, hw, x, z7, xt, e3⟩)
  unfold f_M_named f_M_named_24 f_M_named_20
  refine k_if (fun _ => k25 0 (Or.inl rfl)) (fun w => ?_)
  obtain ⟨c, hc, e1⟩ := kM_class h.1.1 w
  refine k_if (fun q => k25 1 (Or.inr ⟨⟨c, hc, e1⟩, Or.inl q⟩)) (fun _ => ?_)
  refine k_if (fun _ => k25 0 (Or.inl rfl)) (fun w2 => ?_)
  exact k25 1 (Or.inr ⟨⟨c, hc, e1⟩, Or.inr (kM_type h.1.2 w2)⟩)
theorem s_M_array (h : kN σ n g d t) (x1 : Int32) : k_ok (f_M_array σ x1) (kPub n g d) := by
  have et : M_types σ = nI t := h.1.2.1
  unfold f_M_array f_M_array_14
  refine k_if (fun _ => ?_) (fun w => ?_)
  · refine k_good (fun q => absurd q (by decide)) (fun _ => ?_)
    exact k_if (fun _ => k_some ⟨t, h⟩) (fun q => absurd rfl q)
  · obtain ⟨e, he, rfl⟩ := kM_type h.1.2 w
    refine k_good (fun _ => ?_) (fun q => absurd rfl q)
    refine k_if (fun q => absurd q k_10) (fun _ => ?_)
    refine k_bind (s_M_addArray (σ := M_set_code σ 0) h.1 he) ?_
    intro r hr
    rw [show M_types ((1 : Int32), M_set_code σ 0).2 = nI t from et]
    refine k_bind (s_M_end (σ := M_set_code σ 0) h hr 2) ?_
    intro r' hr'
    exact k_some hr'
theorem s_M_isBelow (h : kN σ n g d t) (x1 x2 : Int32) : k_ok (f_M_isBelow σ x1 x2) (kPub n g d) := by
  have ht := h.1.2.2.2.1
  have bad : k_ok (f_M_isBelow_22 σ x1 x2 1) (kPub n g d) := by
    unfold f_M_isBelow_22
    refine k_good (fun q => absurd q (by decide)) (fun _ => ?_)
    exact k_if (fun _ => k_some ⟨t, h⟩) (fun q => absurd rfl q)
  unfold f_M_isBelow f_M_isBelow_21
  refine k_if (fun _ => bad) (fun w1 => k_if (fun _ => bad) (fun w2 => ?_))
  obtain ⟨a, ha, rfl⟩ := kM_type h.1.2 w1
  obtain ⟨b, hb, rfl⟩ := kM_type h.1.2 w2
  unfold f_M_isBelow_22
  refine k_good (fun _ => ?_) (fun q => absurd rfl q)
  refine k_if (fun q => absurd q k_10) (fun _ => ?_)
  refine k_bind (s_M_reckonBelow (σ := M_set_code σ 0) h.1) ?_
  rintro ⟨v, τ⟩ ⟨a', h', g', β, ν, e⟩
  replace e : τ = mK (M_set_code σ 0) a' h' g' β ν := e
  subst e
  exact k_guard (k_in300 (by omega) (by omega)) (k_some ⟨t, h⟩)
theorem s_M_look (h : kN σ n g d t) (x1 x2 : Int32) : k_ok (f_M_look σ x1 x2) (kPub n g d) := by
  have et : M_types σ = nI t := h.1.2.1
  have bad : k_ok (f_M_look_22 σ x1 x2 1) (kPub n g d) := by
    unfold f_M_look_22
    refine k_good (fun q => absurd q (by decide)) (fun _ => ?_)
    exact k_if (fun _ => k_some ⟨t, h⟩) (fun q => absurd rfl q)
  unfold f_M_look f_M_look_21
  refine k_if (fun _ => bad) (fun w1 => k_if (fun _ => bad) (fun w2 => ?_))
  obtain ⟨a, ha, rfl⟩ := kM_type h.1.2 w1
  obtain ⟨c, hc, rfl⟩ := kM_class h.1.1 w2
  unfold f_M_look_22
  refine k_good (fun _ => ?_) (fun q => absurd rfl q)
  refine k_if (fun q => absurd q k_10) (fun _ => ?_)
  refine k_bind (s_M_lookAt (σ := M_set_code σ 0) h.1 ha hc) ?_
  rintro ⟨v, τ⟩ ⟨a', h', g', e, e2, e3, _⟩
  replace e : τ = mF (M_set_code σ 0) a' h' g' := e
  subst e
  refine k_if (fun _ => k_some ⟨t, h⟩) (fun q => ?_)
  have ea : a' = 1 := by
    rcases e2 with e2 | e2
    · exact absurd e2 q
    · exact e2
  have ho : kOwn t (M_generic σ c) h' g' := e3 ea
  have hN : kN (mF (M_set_code σ 0) a' h' g') n g d t := h
  show k_ok ((f_M_addNamed (mF (M_set_code σ 0) a' h' g') (nI c) h' g').bind fun r3 => (f_M_end r3.2 (M_types σ) r3.1 2).bind fun r4 => some (r4.1, r4.2)) _
  rw [et]
  refine k_bind (s_M_addNamed hN.1 hc ho) ?_
  intro r hr
  refine k_bind (s_M_end hN hr 2) ?_
  intro r' hr'
  exact k_some hr'
theorem s_M_box (h : kN σ n g d t) (x1 : Int32) : k_ok (f_M_box σ x1) (kPub n g d) := by
  unfold f_M_box f_M_box_14
  refine k_if (fun _ => ?_) (fun w => ?_)
  · refine k_good (fun q => absurd q (by decide)) (fun _ => ?_)
    exact k_if (fun _ => k_some ⟨t, h⟩) (fun q => absurd rfl q)
  · refine k_good (fun _ => ?_) (fun q => absurd rfl q)
    refine k_if (fun q => absurd q k_10) (fun _ => ?_)
    exact k_if (fun _ => k_some ⟨t, h⟩) (fun _ => k_some ⟨t, h⟩)
theorem s_M_type (h : kN σ n g d t) (x1 x2 : Int32) : k_ok (f_M_type σ x1 x2) (kPub n g d) := by
  have ht := h.1.2.2.2.1
  have bad : ∀ w : Int32, ¬ w = 0 → k_ok (f_M_type_27 σ x1 x2 w) (kPub n g d) := by
    intro w hw
    unfold f_M_type_27
    refine k_good (fun q => absurd q hw) (fun _ => ?_)
    exact k_if (fun _ => k_some ⟨t, h⟩) (fun q => absurd rfl q)
  unfold f_M_type f_M_type_22
  refine k_if (fun _ => bad 1 (by decide)) (fun w => ?_)
  obtain ⟨a, ha, e⟩ := kM_type h.1.2 w
  refine k_if (fun _ => bad 2 (by decide)) (fun _ => k_if (fun _ => ?_) (fun _ => bad 2 (by decide)))
  have ia : ¬ (x1 < 0 ∨ 300 ≤ x1.toNatClampNeg) := by rw [e]; exact nI_in (by omega) (by decide)
  unfold f_M_type_27
  refine k_good (fun _ => ?_) (fun q => absurd rfl q)
  refine k_if (fun q => absurd q k_10) (fun _ => ?_)
  refine k_if (fun _ => k_guard ia (k_some ⟨t, h⟩)) (fun _ => ?_)
  refine k_if (fun _ => k_guard ia (k_some ⟨t, h⟩)) (fun _ => ?_)
  refine k_if (fun _ => k_guard ia (k_some ⟨t, h⟩)) (fun _ => ?_)
  refine k_if (fun _ => k_guard ia (k_some ⟨t, h⟩)) (fun _ => ?_)
  exact k_if (fun _ => k_guard ia (k_some ⟨t, h⟩)) (fun _ => k_guard ia (k_some ⟨t, h⟩))
theorem s_M_part (h : kN σ n g d t) (x1 x2 : Int32) : k_ok (f_M_part σ x1 x2) (kPub n g d) := by
  have ht := h.1.2.2.2.1
  have bad : k_ok (f_M_part_28 σ x1 x2 1) (kPub n g d) := by
    unfold f_M_part_28
    refine k_good (fun q => absurd q (by decide)) (fun _ => ?_)
    exact k_if (fun _ => k_some ⟨t, h⟩) (fun q => absurd rfl q)
  unfold f_M_part f_M_part_27
  refine k_if (fun _ => bad) (fun w => ?_)
  obtain ⟨a, ha, rfl⟩ := kM_type h.1.2 w
  obtain ⟨m, m1, m2, _⟩ := kTyp_part h.1.2.2 ha
  refine k_if (fun _ => bad) (fun w2 => ?_)
  obtain ⟨j, hj, rfl⟩ := nI_of w2
  refine k_guard (nI_in (by omega) (by decide)) (k_if (fun _ => bad) (fun w3 => ?_))
  rw [nI_clamp (by omega), m2, nI_leI (by omega) hj] at w3
  unfold f_M_part_28
  refine k_good (fun _ => ?_) (fun q => absurd rfl q)
  refine k_if (fun q => absurd q k_10) (fun _ => ?_)
  refine k_guard ?_ (k_some ⟨t, h⟩)
  rw [k_30ix]; exact nI_in (by omega) (by decide)
/-- what the set of the COMMON classes says -/
def kCm (σ : StM) (n a b : Nat) (r : Int32 × StM) : Prop := kF σ r ∧ ∀ c, c < 32 → bt r.1 c = true → c < n ∧ kSees σ (kBox a) c ∧ kSees σ (kBox b) c
theorem s_M_commonOf_5 (h : kM σ n t) {a b : Nat} (ha : a < t) (hb : b < t) : ∀ (f i : Nat) (x aa hh gg : Int32), i ≤ n → n < f + i → (∀ c, c < 32 → bt x c = true → c < n ∧ kSees σ (kBox a) c ∧ kSees σ (kBox b) c) → k_ok (f_M_commonOf_5 f (mF σ aa hh gg) (nI a) (nI b) x (nI i)) (kCm σ n a b) := by
  have hn := h.1.2.2.1
  have en : M_classes σ = nI n := h.1.1
  intro f
  induction f with
  | zero => intro i x aa hh gg h1 h2; omega
  | succ f ih =>
    intro i x aa hh gg h1 h2 h3
    rw [f_M_commonOf_5]
    unfold f_M_commonOf_5_s f_M_commonOf_54
    rw [show M_classes (mF σ aa hh gg) = nI n from en]
    refine k_if (fun _ => k_some ⟨⟨aa, hh, gg, rfl⟩, h3⟩) (fun q => ?_)
    rw [nI_leI (by omega) (by omega)] at q
    refine k_bind (s_M_lookAt (σ := mF σ aa hh gg) h ha (show i < n by omega)) ?_
    rintro ⟨v1, τ1⟩ ⟨a1, h1', g1, e1, z1, _, y1⟩
    replace e1 : τ1 = mF σ a1 h1' g1 := e1
    subst e1
    replace y1 : a1 = 1 ↔ kSees σ (kBox a) i := y1
    refine k_bind (s_M_lookAt (σ := mF σ a1 h1' g1) h hb (show i < n by omega)) ?_
    rintro ⟨v2, τ2⟩ ⟨a2, h2', g2, e2, z2, _, y2⟩
    replace e2 : τ2 = mF σ a2 h2' g2 := e2
    subst e2
    replace y2 : a2 = 1 ↔ kSees σ (kBox b) i := y2
    have nx : ∀ y : Int32, (∀ c, c < 32 → bt y c = true → c < n ∧ kSees σ (kBox a) c ∧ kSees σ (kBox b) c) → k_ok (f_M_commonOf_5 f (mF σ a2 h2' g2) (nI a) (nI b) y (nI i + 1)) (kCm σ n a b) := by
      intro y hy
      rw [nI_1]
      exact ih (i + 1) y a2 h2' g2 (by omega) (by omega) hy
    have n0 : ∀ c, c < 32 → bt (x ||| 0) c = true → c < n ∧ kSees σ (kBox a) c ∧ kSees σ (kBox b) c := by
      intro c hc hx
      rw [b_or, b_0, Bool.or_false] at hx
      exact h3 c hc hx
    refine k_if (fun _ => nx _ n0) (fun w1 => k_if (fun _ => nx _ n0) (fun w2 => nx _ ?_))
    replace w1 : ¬ a1 = 0 := w1
    replace w2 : ¬ a2 = 0 := w2
    intro c hc hx
    rw [b_or, k_shl1 i (by omega) hc, Bool.or_eq_true, decide_eq_true_iff] at hx
    rcases hx with hx | hx
    · exact h3 c hc hx
    · subst hx
      refine ⟨by omega, y1.mp ?_, y2.mp ?_⟩
      · rcases z1 with z1 | z1
        · exact absurd z1 w1
        · exact z1
      · rcases z2 with z2 | z2
        · exact absurd z2 w2
        · exact z2
theorem s_M_commonOf (h : kM σ n t) {a b : Nat} (ha : a < t) (hb : b < t) : k_ok (f_M_commonOf σ (nI a) (nI b)) (kCm σ n a b) := by
  have hn := h.1.2.2.1
  unfold f_M_commonOf
  exact s_M_commonOf_5 h ha hb 1000 0 0 (M_found σ) (M_foundHow σ) (M_foundType σ) (by omega) (by omega) (fun c _ hx => by rw [b_0] at hx; cases hx)
theorem s_M_leastOf_4 (h : kMC σ n t) (x1 : Int32) : ∀ (f i : Nat) (x2 : Int32), i ≤ n → n < f + i → k_ok (f_M_leastOf_4 f σ x1 x2 (nI i)) (fun r => ∀ b, b < 32 → bt r b = true → bt x2 b = true) := by
  have hn := h.2.2.1
  have en : M_classes σ = nI n := h.1
  intro f
  induction f with
  | zero => intro i x2 h1 h2; omega
  | succ f ih =>
    intro i x2 h1 h2
    rw [f_M_leastOf_4]
    unfold f_M_leastOf_4_s
    rw [en]
    refine k_if (fun _ => k_some (fun b _ q => q)) (fun q => ?_)
    rw [nI_leI (by omega) (by omega)] at q
    rw [nI_1]
    refine k_if (fun _ => ?_) (fun _ => ih (i + 1) x2 (by omega) (by omega))
    refine k_guard (nI_in (by omega) (by decide)) ?_
    refine k_mono (ih (i + 1) _ (by omega) (by omega)) ?_
    intro r hr b hb hx
    have := hr b hb hx
    rw [b_and, Bool.and_eq_true] at this
    exact this.1
theorem s_M_count_4 (x0 : Int32) : ∀ (f i : Nat) (x1 : Int32), i ≤ 31 → 31 < f + i → k_ok (f_M_count_4 f x0 x1 (nI i)) (fun _ => True) := by
  intro f
  induction f with
  | zero => intro i x1 h1 h2; omega
  | succ f ih =>
    intro i x1 h1 h2
    rw [f_M_count_4]
    unfold f_M_count_4_s
    refine k_if (fun _ => k_some trivial) (fun q => ?_)
    have q2 : ¬ nI 31 ≤ nI i := q
    rw [nI_leI (by decide) (by omega)] at q2
    rw [nI_1]
    exact ih (i + 1) _ (by omega) (by omega)
theorem s_M_count (x0 : Int32) : k_ok (f_M_count x0) (fun _ => True) := by
  unfold f_M_count
  exact s_M_count_4 x0 1000 0 0 (by omega) (by omega)
theorem s_M_common (h : kN σ n g d t) (x1 x2 x3 : Int32) : k_ok (f_M_common σ x1 x2 x3) (kPub n g d) := by
  have hn := h.1.1.2.2.1
  have bad : ∀ w : Int32, ¬ w = 0 → k_ok (f_M_common_35 σ x1 x2 x3 w) (kPub n g d) := by
    intro w hw
    unfold f_M_common_35
    refine k_good (fun q => absurd q hw) (fun _ => ?_)
    exact k_if (fun _ => k_some ⟨t, h⟩) (fun q => absurd rfl q)
  unfold f_M_common f_M_common_17 f_M_common_30
  refine k_if (fun _ => bad 1 (by decide)) (fun w1 => k_if (fun _ => bad 1 (by decide)) (fun w2 => ?_))
  refine k_if (fun _ => bad 2 (by decide)) (fun _ => k_if (fun _ => ?_) (fun _ => bad 2 (by decide)))
  obtain ⟨a, ha, rfl⟩ := kM_type h.1.2 w1
  obtain ⟨b, hb, rfl⟩ := kM_type h.1.2 w2
  unfold f_M_common_35
  refine k_good (fun _ => ?_) (fun q => absurd rfl q)
  refine k_if (fun q => absurd q k_10) (fun _ => ?_)
  refine k_bind (s_M_commonOf (σ := M_set_code σ 0) h.1 ha hb) ?_
  rintro ⟨v, τ⟩ ⟨⟨a', h', g', e⟩, _⟩
  replace e : τ = mF (M_set_code σ 0) a' h' g' := e
  subst e
  have k66 : ∀ y : Int32, k_ok (f_M_common_66 (mF (M_set_code σ 0) a' h' g') y) (kPub n g d) := by
    intro y
    unfold f_M_common_66
    refine k_bind (s_M_count y) ?_
    intro r4 _
    exact k_some ⟨t, h⟩
  refine k_if (fun _ => k66 _) (fun _ => ?_)
  refine k_bind (P := fun _ => True) ?_ (fun _ _ => k66 _)
  unfold f_M_leastOf
  exact k_mono (s_M_leastOf_4 (σ := mF (M_set_code σ 0) a' h' g') h.1.1 _ 1000 0 _ (by omega) (by omega)) (fun _ _ => trivial)
theorem s_M_isUnder (h : kN σ n g d t) (x1 x2 : Int32) : k_ok (f_M_isUnder σ x1 x2) (kPub n g d) := by
  have hn := h.1.1.2.2.1
  have bad : k_ok (f_M_isUnder_22 σ x1 x2 1) (kPub n g d) := by
    unfold f_M_isUnder_22
    refine k_good (fun q => absurd q (by decide)) (fun _ => ?_)
    exact k_if (fun _ => k_some ⟨t, h⟩) (fun q => absurd rfl q)
  unfold f_M_isUnder f_M_isUnder_21
  refine k_if (fun _ => bad) (fun w1 => k_if (fun _ => bad) (fun w2 => ?_))
  obtain ⟨a, ha, rfl⟩ := kM_class h.1.1 w1
  obtain ⟨b, hb, rfl⟩ := kM_class h.1.1 w2
  unfold f_M_isUnder_22
  refine k_good (fun _ => ?_) (fun q => absurd rfl q)
  refine k_if (fun q => absurd q k_10) (fun _ => ?_)
  refine k_bind (P := fun _ => True) ?_ ?_
  · exact ⟨_, s_M_under (σ := M_set_code σ 0) (by omega) (by omega), trivial⟩
  · intro r2 _
    exact k_if (fun _ => k_some ⟨t, h⟩) (fun _ => k_some ⟨t, h⟩)
theorem s_M_classed (h : kN σ n g d t) (x1 x2 : Int32) : k_ok (f_M_classed σ x1 x2) (kPub n g d) := by
  have hn := h.1.1.2.2.1
  have bad : ∀ w : Int32, ¬ w = 0 → k_ok (f_M_classed_27 σ x1 x2 w) (kPub n g d) := by
    intro w hw
    unfold f_M_classed_27
    refine k_good (fun q => absurd q hw) (fun _ => ?_)
    exact k_if (fun _ => k_some ⟨t, h⟩) (fun q => absurd rfl q)
  unfold f_M_classed f_M_classed_22
  refine k_if (fun _ => bad 1 (by decide)) (fun w => ?_)
  obtain ⟨a, ha, e⟩ := kM_class h.1.1 w
  refine k_if (fun _ => bad 2 (by decide)) (fun _ => k_if (fun _ => ?_) (fun _ => bad 2 (by decide)))
  have ia : ¬ (x1 < 0 ∨ 30 ≤ x1.toNatClampNeg) := by rw [e]; exact nI_in (by omega) (by decide)
  unfold f_M_classed_27
  refine k_good (fun _ => ?_) (fun q => absurd rfl q)
  refine k_if (fun q => absurd q k_10) (fun _ => ?_)
  refine k_if (fun _ => k_guard ia (k_if (fun _ => k_some ⟨t, h⟩) (fun _ => k_some ⟨t, h⟩))) (fun _ => ?_)
  refine k_if (fun _ => k_guard ia (k_if (fun _ => k_some ⟨t, h⟩) (fun _ => k_some ⟨t, h⟩))) (fun _ => ?_)
  refine k_if (fun _ => k_guard ia (k_some ⟨t, h⟩)) (fun _ => ?_)
  exact k_guard ia (k_bind (s_M_count _) (fun _ _ => k_some ⟨t, h⟩))
theorem s_M_direct (h : kN σ n g d t) (x1 x2 x3 : Int32) : k_ok (f_M_direct σ x1 x2 x3) (kPub n g d) := by
  have hn := h.1.1.2.2.1
  have bad : ∀ w : Int32, ¬ w = 0 → k_ok (f_M_direct_41 σ x1 x2 x3 w) (kPub n g d) := by
    intro w hw
    unfold f_M_direct_41
    refine k_good (fun q => absurd q hw) (fun _ => ?_)
    exact k_if (fun _ => k_some ⟨t, h⟩) (fun q => absurd rfl q)
  unfold f_M_direct f_M_direct_23 f_M_direct_36
  refine k_if (fun _ => bad 1 (by decide)) (fun w => ?_)
  obtain ⟨a, ha, rfl⟩ := kM_class h.1.1 w
  obtain ⟨_, m, d1, _, d3, _⟩ := h.1.1.2.2.2.2 a ha
  refine k_if (fun _ => bad 1 (by decide)) (fun w2 => ?_)
  obtain ⟨j, hj, rfl⟩ := nI_of w2
  refine k_guard (nI_in (by omega) (by decide)) (k_if (fun w3 => ?_) (fun _ => bad 1 (by decide)))
  rw [nI_clamp (by omega), d3, nI_ltI hj (by omega)] at w3
  refine k_if (fun _ => bad 2 (by decide)) (fun _ => k_if (fun _ => ?_) (fun _ => bad 2 (by decide)))
  have ix : ¬ ((30 * nI a + nI j) < 0 ∨ 900 ≤ (30 * nI a + nI j).toNatClampNeg) := by
    rw [k_30ix]; exact nI_in (by omega) (by decide)
  unfold f_M_direct_41
  refine k_good (fun _ => ?_) (fun q => absurd rfl q)
  refine k_if (fun q => absurd q k_10) (fun _ => ?_)
  exact k_if (fun _ => k_guard ix (k_some ⟨t, h⟩)) (fun _ => k_guard ix (k_some ⟨t, h⟩))
theorem s_M_told (h : kN σ n g d t) (x1 : Int32) : k_ok (f_M_told σ x1) (kPub n g d) := by
  have all : ∀ w : Int32, k_ok (f_M_told_15 σ x1 w) (kPub n g d) := by
    intro w
    unfold f_M_told_15
    refine k_good (fun _ => ?_) (fun _ => ?_)
    · refine k_if (fun _ => k_some ⟨t, h⟩) (fun _ => ?_)
      exact k_if (fun _ => k_some ⟨t, h⟩) (fun _ => k_if (fun _ => k_some ⟨t, h⟩) (fun _ => k_if (fun _ => k_some ⟨t, h⟩) (fun _ => k_some ⟨t, h⟩)))
    · exact k_if (fun _ => k_some ⟨t, h⟩) (fun q => absurd rfl q)
  unfold f_M_told f_M_told_10
  exact k_if (fun _ => all _) (fun _ => k_if (fun _ => all _) (fun _ => all _))
end
