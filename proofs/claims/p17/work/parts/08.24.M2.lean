/-! The reference: adding types. -/
def kEq (i : Nat) (σ τ : StM) : Prop := M_kind τ i = M_kind σ i ∧ M_classOf τ i = M_classOf σ i ∧ M_how τ i = M_how σ i ∧ M_inner τ i = M_inner σ i ∧ M_made τ i = M_made σ i ∧ M_partCount τ i = M_partCount σ i ∧ ∀ k, k < 30 → M_partRow τ (30 * i + k) = M_partRow σ (30 * i + k)
def kAg (t : Nat) (σ τ : StM) : Prop := ∀ i, i < t → kEq i σ τ
theorem kEq_refl (i : Nat) (σ : StM) : kEq i σ σ := ⟨rfl, rfl, rfl, rfl, rfl, rfl, fun _ _ => rfl⟩
theorem kEq_trans {i : Nat} {σ τ ρ : StM} (h1 : kEq i σ τ) (h2 : kEq i τ ρ) : kEq i σ ρ :=
  ⟨h2.1.trans h1.1, h2.2.1.trans h1.2.1, h2.2.2.1.trans h1.2.2.1, h2.2.2.2.1.trans h1.2.2.2.1, h2.2.2.2.2.1.trans h1.2.2.2.2.1, h2.2.2.2.2.2.1.trans h1.2.2.2.2.2.1, fun k hk => (h2.2.2.2.2.2.2 k hk).trans (h1.2.2.2.2.2.2 k hk)⟩
theorem kAg_refl (t : Nat) (σ : StM) : kAg t σ σ := fun i _ => kEq_refl i σ
theorem kAg_trans {t t' : Nat} {σ τ ρ : StM} (h1 : kAg t σ τ) (h2 : kAg t' τ ρ) (ht : t ≤ t') : kAg t σ ρ := fun i hi => kEq_trans (h1 i hi) (h2 i (by omega))
theorem kTyE_eq {n i : Nat} {σ τ : StM} (hg : M_generic τ = M_generic σ) (ha : ∀ j, j ≤ i → kEq j σ τ) (h : kTyE n (M_generic σ) (M_kind σ) (M_classOf σ) (M_how σ) (M_inner σ) (M_made σ) (M_partCount σ) (M_partRow σ) i) : kTyE n (M_generic τ) (M_kind τ) (M_classOf τ) (M_how τ) (M_inner τ) (M_made τ) (M_partCount τ) (M_partRow τ) i := by
  obtain ⟨e1, e2, e3, e4, e5, e6, e7⟩ := ha i (Nat.le_refl i)
  obtain ⟨⟨m, m1, m2, m3⟩, h1 | h1 | h1 | h1⟩ := h
  · exact ⟨⟨m, m1, m2, e5.trans m3⟩, Or.inl ⟨h1.1, e1.trans h1.2.1, e6.trans h1.2.2⟩⟩
  · obtain ⟨q1, q2, q3, q4, c, c1, c2, c3⟩ := h1
    refine ⟨⟨m, m1, m2, e5.trans m3⟩, Or.inr (Or.inl ⟨q1, e1.trans q2, e6.trans q3, (e7 0 (by omega)).trans q4, c, c1, e2.trans c2, ?_⟩)⟩
    rw [hg, e3, e4]; exact c3
  · obtain ⟨q1, q2, q3, e, k, c1, c2, c3, c4⟩ := h1
    exact ⟨⟨m, m1, m2, e5.trans m3⟩, Or.inr (Or.inr (Or.inl ⟨q1, e1.trans q2, e6.trans q3, e, k, c1, e4.trans c2, (ha e (by omega)).2.2.2.2.1.trans c3, e5.trans c4⟩))⟩
  · obtain ⟨q1, q2, k, k1, k2, k3⟩ := h1
    refine ⟨⟨m, m1, m2, e5.trans m3⟩, Or.inr (Or.inr (Or.inr ⟨q1, e1.trans q2, k, k1, e6.trans k2, fun l hl => ?_⟩))⟩
    obtain ⟨p, p1, p2, p3, p4⟩ := k3 l hl
    exact ⟨p, p1, p2, (e7 l (by omega)).trans p3, (ha p (by omega)).1.trans p4⟩
theorem kMT_ag {σ τ : StM} {n t : Nat} (h : kMT σ n t) (hg : M_generic τ = M_generic σ) (ha : kAg t σ τ) (ht : M_types τ = nI t) : kMT τ n t := by
  refine ⟨ht, h.2.1, h.2.2.1, ?_, ?_⟩
  · intro i hi
    exact kTyE_eq hg (fun j hj => ha j (by omega)) (h.2.2.2.1 i hi)
  · intro i h8 h16
    have := h.2.1
    exact (ha i (by omega)).1.trans (h.2.2.2.2 i h8 h16)
/-- one more type behind the others -/
theorem kMT_add {σ τ : StM} {n t : Nat} (h : kMT σ n t) (hg : M_generic τ = M_generic σ) (ha : kAg t σ τ) (ht : M_types τ = nI (t + 1)) (h3 : t < 300) (hE : kTyE n (M_generic τ) (M_kind τ) (M_classOf τ) (M_how τ) (M_inner τ) (M_made τ) (M_partCount τ) (M_partRow τ) t) : kMT τ n (t + 1) := by
  have h16 := h.2.1
  refine ⟨ht, by omega, by omega, ?_, ?_⟩
  · intro i hi
    by_cases e : i = t
    · subst e; exact hE
    · exact kTyE_eq hg (fun j hj => ha j (by omega)) (h.2.2.2.1 i (by omega))
  · intro i h8 h16
    exact (ha i (by omega)).1.trans (h.2.2.2.2 i h8 h16)
/-- what adding a type leaves: the answer is a type of kind K, or the tables are full -/
def kXr (σ : StM) (n t : Nat) (K : Int32) (r : Int32 × StM) : Prop := (∃ b, r.2 = mB σ b) ∧ kAg t σ r.2 ∧ (M_full r.2 = 0 → ∃ i t', t ≤ t' ∧ kM r.2 n t' ∧ r.1 = nI i ∧ i < t' ∧ M_kind r.2 i = K)
section
variable {σ : StM} {n t : Nat}
theorem kXr_full {K v : Int32} : kXr σ n t K (v, M_set_full σ 1) := ⟨mB_ex rfl, kAg_refl t σ, fun q => absurd q k_10⟩
theorem kXr_was {K v : Int32} (hf : ¬ M_full σ = 0) : kXr σ n t K (v, σ) := ⟨⟨mBof σ, rfl⟩, kAg_refl t σ, fun q => absurd q hf⟩
theorem k_u {f : Nat → Int32} {j i : Nat} {x : Int32} (h : i < j) : upd f j x i = f i := k_updn (by omega)
theorem s_M_add_181 (h : kM σ n t) {τ : StM} {x1 x2 x3 x4 : Int32} {sz : Nat} {y : Int32} (h3 : t < 300) (hg : ∃ b, τ = mB σ b)
    (e1 : M_types τ = nI t) (e2 : M_kind τ = upd (M_kind σ) t x1) (e3 : M_classOf τ = upd (M_classOf σ) t x2) (e4 : M_how τ = upd (M_how σ) t x3) (e5 : M_inner τ = upd (M_inner σ) t x4) (e6 : M_made τ = upd (M_made σ) t (nI sz)) (e7 : M_partCount τ = M_partCount σ) (e8 : M_partRow τ = M_partRow σ)
    (hE : ∀ ρ : StM, M_generic ρ = M_generic σ → kAg t σ ρ → M_kind ρ t = x1 → M_classOf ρ t = x2 → M_how ρ t = x3 → M_inner ρ t = x4 → M_made ρ t = nI sz → M_partCount ρ t = y → M_partRow ρ (30 * t) = nI t → kTyE n (M_generic ρ) (M_kind ρ) (M_classOf ρ) (M_how ρ) (M_inner ρ) (M_made ρ) (M_partCount ρ) (M_partRow ρ) t) :
    k_ok (f_M_add_181 τ (M_types τ) y) (kXr σ n t x1) := by
  obtain ⟨b, hb⟩ := hg
  have ix : ¬ (M_types τ < 0 ∨ 300 ≤ (M_types τ).toNatClampNeg) := by rw [e1]; exact nI_in h3 (by decide)
  have em : 30 * M_types τ = nI (30 * t) := by rw [e1]; exact k_mul 30 t
  have cl : (M_types τ).toNatClampNeg = t := by rw [e1]; exact nI_clamp (by omega)
  have cm : (30 * M_types τ).toNatClampNeg = 30 * t := by rw [em]; exact nI_clamp (by omega)
  have iy : ¬ (30 * M_types τ < 0 ∨ 9000 ≤ (30 * M_types τ).toNatClampNeg) := by rw [em]; exact nI_in (by omega) (by decide)
  unfold f_M_add_181
  refine k_guard ix (k_guard iy (k_some ?_))
  have hag : kAg t σ (M_set_types (M_put_partRow (M_put_partCount τ (M_types τ) y) (30 * M_types τ) (M_types τ)) (M_types τ + 1)) := by
    intro i hi
    refine ⟨?_, ?_, ?_, ?_, ?_, ?_, ?_⟩
    · show M_kind τ i = _; rw [e2]; exact k_u hi
    · show M_classOf τ i = _; rw [e3]; exact k_u hi
    · show M_how τ i = _; rw [e4]; exact k_u hi
    · show M_inner τ i = _; rw [e5]; exact k_u hi
    · show M_made τ i = _; rw [e6]; exact k_u hi
    · show upd (M_partCount τ) (M_types τ).toNatClampNeg y i = _; rw [cl, e7]; exact k_u hi
    · intro k hk
      show upd (M_partRow τ) (30 * M_types τ).toNatClampNeg (M_types τ) (30 * i + k) = _
      rw [cm, e8]; exact k_u (by omega)
  have hgen : M_generic τ = M_generic σ := by rw [hb]; rfl
  refine ⟨mB_ex ?_, hag, fun _ => ⟨t, t + 1, by omega, ?_, ?_, by omega, ?_⟩⟩
  · show M_set_types (M_put_partRow (M_put_partCount τ (M_types τ) y) (30 * M_types τ) (M_types τ)) (M_types τ + 1) = mB σ (mBof (M_set_types (M_put_partRow (M_put_partCount τ (M_types τ) y) (30 * M_types τ) (M_types τ)) (M_types τ + 1)))
    rw [hb]; rfl
  · refine ⟨?_, kMT_add h.2 hgen hag ?_ h3 ?_⟩
    · have hc := kMC_mono h.1 (show t ≤ t + 1 by omega)
      show kMC (M_set_types (M_put_partRow (M_put_partCount τ (M_types τ) y) (30 * M_types τ) (M_types τ)) (M_types τ + 1)) n (t + 1)
      rw [hb]; exact hc
    · show M_types τ + 1 = nI (t + 1)
      rw [e1]; exact nI_1 t
    · refine hE _ hgen hag ?_ ?_ ?_ ?_ ?_ ?_ ?_
      · show M_kind τ t = _; rw [e2]; exact k_upds
      · show M_classOf τ t = _; rw [e3]; exact k_upds
      · show M_how τ t = _; rw [e4]; exact k_upds
      · show M_inner τ t = _; rw [e5]; exact k_upds
      · show M_made τ t = _; rw [e6]; exact k_upds
      · show upd (M_partCount τ) (M_types τ).toNatClampNeg y t = _; rw [cl]; exact k_upds
      · show upd (M_partRow τ) (30 * M_types τ).toNatClampNeg (M_types τ) (30 * t) = _
        rw [cm, k_upds]; exact e1
  · show M_types τ + 1 - 1 = nI t
    rw [e1, nI_1]; exact nI_pred t
  · show M_kind τ t = _; rw [e2]; exact k_upds
theorem s_M_add_84 (h : kM σ n t) {x1 x2 x3 x4 t0 t1 : Int32} {sz : Nat} (es : t0 + t1 = nI sz) (hs : sz < 1000)
    (hE : sz ≤ 100 → ∀ (ρ : StM) (y : Int32), (y = if x1 = 1 then 1 else 0) → M_generic ρ = M_generic σ → kAg t σ ρ → M_kind ρ t = x1 → M_classOf ρ t = x2 → M_how ρ t = x3 → M_inner ρ t = x4 → M_made ρ t = nI sz → M_partCount ρ t = y → M_partRow ρ (30 * t) = nI t → kTyE n (M_generic ρ) (M_kind ρ) (M_classOf ρ) (M_how ρ) (M_inner ρ) (M_made ρ) (M_partCount ρ) (M_partRow ρ) t) :
    k_ok (f_M_add_84 σ x1 x2 x3 x4 t0 t1) (kXr σ n t x1) := by
  have e : M_types σ = nI t := h.2.1
  have ht := h.2.2.2.1
  unfold f_M_add_84 f_M_add_104
  refine k_if (fun _ => k_some kXr_full) (fun q => ?_)
  have q2 : ¬ nI t = nI 300 := by rw [← e]; exact q
  rw [nI_eq (by omega) (by decide)] at q2
  refine k_if (fun q3 => ?_) (fun _ => k_some kXr_full)
  have q4 : nI sz ≤ nI 100 := by rw [← es]; exact q3
  rw [nI_leI (by omega) (by decide)] at q4
  have hi : ¬ (M_types σ < 0 ∨ 300 ≤ (M_types σ).toNatClampNeg) := by rw [e]; exact nI_in (by omega) (by decide)
  have cl : (M_types σ).toNatClampNeg = t := by rw [e]; exact nI_clamp (by omega)
  refine k_guard hi (k_guard hi (k_guard hi (k_guard hi (k_guard hi ?_))))
  refine k_if (fun w => ?_) (fun w => ?_)
  · refine s_M_add_181 (x2 := x2) (x3 := x3) (x4 := x4) (sz := sz) h (by omega) (mB_ex rfl) e ?_ ?_ ?_ ?_ ?_ rfl rfl (fun ρ => hE q4 ρ 1 (by rw [if_pos w]))
    · show upd (M_kind σ) (M_types σ).toNatClampNeg x1 = _; rw [cl]
    · show upd (M_classOf σ) (M_types σ).toNatClampNeg x2 = _; rw [cl]
    · show upd (M_how σ) (M_types σ).toNatClampNeg x3 = _; rw [cl]
    · show upd (M_inner σ) (M_types σ).toNatClampNeg x4 = _; rw [cl]
    · show upd (M_made σ) (M_types σ).toNatClampNeg (t0 + t1) = _; rw [cl, es]
  · refine s_M_add_181 (x2 := x2) (x3 := x3) (x4 := x4) (sz := sz) h (by omega) (mB_ex rfl) e ?_ ?_ ?_ ?_ ?_ rfl rfl (fun ρ => hE q4 ρ 0 (by rw [if_neg w]))
    · show upd (M_kind σ) (M_types σ).toNatClampNeg x1 = _; rw [cl]
    · show upd (M_classOf σ) (M_types σ).toNatClampNeg x2 = _; rw [cl]
    · show upd (M_how σ) (M_types σ).toNatClampNeg x3 = _; rw [cl]
    · show upd (M_inner σ) (M_types σ).toNatClampNeg x4 = _; rw [cl]
    · show upd (M_made σ) (M_types σ).toNatClampNeg (t0 + t1) = _; rw [cl, es]
theorem s_M_add_3 (h : kM σ n t) {x1 x2 x3 x4 : Int32}
    (hend : (x4 = -1 → k_ok (f_M_add_84 σ x1 x2 x3 x4 1 0) (kXr σ n t x1)) ∧ (¬ x4 = -1 → (∃ e, e < 300 ∧ x4 = nI e ∧ k_ok (f_M_add_84 σ x1 x2 x3 x4 1 (M_made σ e)) (kXr σ n t x1)))) :
    ∀ (f i : Nat), i ≤ t → t < f + i → k_ok (f_M_add_3 f σ x1 x2 x3 x4 (nI i)) (kXr σ n t x1) := by
  have e : M_types σ = nI t := h.2.1
  have ht := h.2.2.2.1
  intro f
  induction f with
  | zero => intro i h1 h2; omega
  | succ f ih =>
    intro i h1 h2
    rw [f_M_add_3]
    unfold f_M_add_3_s
    refine k_if (fun _ => ?_) (fun q => ?_)
    · refine k_if hend.1 (fun q => ?_)
      obtain ⟨g, g1, g2, g3⟩ := hend.2 q
      have ix : ¬ (x4 < 0 ∨ 300 ≤ x4.toNatClampNeg) := by rw [g2]; exact nI_in g1 (by decide)
      have cl : x4.toNatClampNeg = g := by rw [g2]; exact nI_clamp (by omega)
      refine k_guard ix ?_
      rw [cl]; exact g3
    · rw [e, nI_leI (by omega) (by omega)] at q
      have hk : k_ok (f_M_add_3 f σ x1 x2 x3 x4 (nI i + 1)) (kXr σ n t x1) := by
        rw [nI_1]
        exact ih (i + 1) (by omega) (by omega)
      have hi : ¬ (nI i < 0 ∨ 300 ≤ (nI i).toNatClampNeg) := nI_in (by omega) (by decide)
      have ci : (nI i).toNatClampNeg = i := nI_clamp (by omega)
      refine k_guard hi (k_if (fun w => ?_) (fun _ => hk))
      refine k_guard hi (k_if (fun _ => ?_) (fun _ => hk))
      refine k_guard hi (k_if (fun _ => ?_) (fun _ => hk))
      refine k_guard hi (k_if (fun _ => k_some ?_) (fun _ => hk))
      exact ⟨⟨mBof σ, rfl⟩, kAg_refl t σ, fun _ => ⟨i, t, Nat.le_refl t, h, rfl, by omega, (by rw [ci] at w; exact w)⟩⟩
theorem s_M_addNamed (h : kM σ n t) {c : Nat} (hc : c < n) {x3 x4 : Int32} (ho : kOwn t (M_generic σ c) x3 x4) : k_ok (f_M_addNamed σ (nI c) x3 x4) (kXr σ n t 1) := by
  have ht := h.2.2.2.1
  have ht16 := h.2.2.1
  unfold f_M_addNamed
  refine k_if (fun _ => ?_) (fun q => k_some (kXr_was q))
  refine k_bind (P := kXr σ n t 1) ?_ (fun r hr => k_some hr)
  unfold f_M_add
  refine s_M_add_3 h ⟨fun q => ?_, fun q => ?_⟩ 1000 0 (by omega) (by omega)
  · refine s_M_add_84 (sz := 1) h rfl (by omega) ?_
    intro _ ρ y hy hg ha k1 k2 k3 k4 k5 k6 k7
    refine ⟨⟨1, by omega, by omega, k5⟩, Or.inr (Or.inl ⟨by omega, k1, ?_, k7, c, hc, k2, ?_⟩)⟩
    · rw [k6, hy, if_pos rfl]
    · rw [k3, k4, hg]; exact ho
  · rcases ho with ⟨_, _, w⟩ | ⟨w1, w2, x, x1, x2, w3⟩
    · exact absurd w q
    · obtain ⟨⟨m, m1, m2, m3⟩, _⟩ := h.2.2.2.2.1 x x2
      refine ⟨x, by omega, w3, ?_⟩
      rw [m3]
      refine s_M_add_84 (sz := 1 + m) h (nI_add 1 m) (by omega) ?_
      intro hsz ρ y hy hg ha k1 k2 k3 k4 k5 k6 k7
      refine ⟨⟨1 + m, by omega, by omega, k5⟩, Or.inr (Or.inl ⟨by omega, k1, ?_, k7, c, hc, k2, ?_⟩)⟩
      · rw [k6, hy, if_pos rfl]
      · rw [k3, k4, hg]
        exact Or.inr ⟨w1, w2, x, x1, x2, w3⟩
theorem s_M_addArray (h : kM σ n t) {e : Nat} (he : e < t) : k_ok (f_M_addArray σ (nI e)) (kXr σ n t 2) := by
  have ht := h.2.2.2.1
  have ht16 := h.2.2.1
  unfold f_M_addArray
  refine k_if (fun _ => ?_) (fun q => k_some (kXr_was q))
  refine k_bind (P := kXr σ n t 2) ?_ (fun r hr => k_some hr)
  unfold f_M_add
  refine s_M_add_3 h ⟨fun q => absurd q (k_ne1 (by omega)), fun q => ?_⟩ 1000 0 (by omega) (by omega)
  obtain ⟨⟨m, m1, m2, m3⟩, _⟩ := h.2.2.2.2.1 e he
  refine ⟨e, by omega, rfl, ?_⟩
  rw [m3]
  refine s_M_add_84 (sz := 1 + m) h (nI_add 1 m) (by omega) ?_
  intro hsz ρ y hy hg ha k1 k2 k3 k4 k5 k6 k7
  refine ⟨⟨1 + m, by omega, by omega, k5⟩, Or.inr (Or.inr (Or.inl ⟨by omega, k1, ?_, e, m, he, k4, ?_, ?_⟩))⟩
  · rw [k6, hy, if_neg (by decide)]
  · exact (ha e he).2.2.2.2.1.trans m3
  · rw [k5, Nat.add_comm]
end
