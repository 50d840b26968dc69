/-! The reference: the smaller public methods. -/
section
variable {σ : StM} {n g d t : Nat}
theorem s_M_end (h : kN σ n g d t) {K : Int32} {r : Int32 × StM} (hr : kXr σ n t K r) (w : Int32) : k_ok (f_M_end r.2 (nI t) r.1 w) (fun r' => ∃ t', kN r'.2 n g d t') := by
  obtain ⟨v, τ⟩ := r
  obtain ⟨⟨b, eb⟩, ha, hf⟩ := hr
  replace eb : τ = mB σ b := eb
  replace ha : kAg t σ τ := ha
  have hgen : M_generic τ = M_generic σ := by rw [eb]; rfl
  unfold f_M_end
  refine k_if (fun q => ?_) (fun q => ?_)
  · obtain ⟨i, t', t1, hk, _, _, _⟩ := hf q
    refine k_some ⟨t', hk, ?_, h.2.2.1, q, ?_, h.2.2.2.2.2⟩
    · show M_generics τ = nI g; rw [eb]; exact h.2.1
    · show M_depth τ = nI d; rw [eb]; exact h.2.2.2.2.1
  · refine k_some ⟨t, ⟨?_, ?_⟩, ?_, h.2.2.1, rfl, ?_, h.2.2.2.2.2⟩
    · show kMC τ n t; rw [eb]; exact h.1.1
    · exact kMT_ag (σ := σ) (τ := M_set_code (M_set_full (M_set_types τ (nI t)) 0) w) h.1.2 hgen ha rfl
    · show M_generics τ = nI g; rw [eb]; exact h.2.1
    · show M_depth τ = nI d; rw [eb]; exact h.2.2.2.2.1
def kPub (n g d : Nat) (r : Int32 × StM) : Prop := ∃ t', kN r.2 n g d t'
theorem s_M_named (h : kN σ n g d t) (x1 x2 x3 : Int32) : k_ok (f_M_named σ x1 x2 x3) (kPub n g d) := by
  have h30 := h.1.1.2.2.1
  have ht := h.1.2.2.2.1
  have et : M_types σ = nI t := h.1.2.1
  have bad : ∀ w : Int32, ¬ w = 0 → k_ok (f_M_named_78 σ x1 x2 x3 w) (kPub n g d) := by
    intro w hw
    unfold f_M_named_78
    refine k_good (fun q => absurd q hw) (fun _ => ?_)
    exact k_if (fun _ => k_some ⟨t, h⟩) (fun q => absurd rfl q)
  have good : ∀ c, c < n → x1 = nI c → (x2 = 0 → M_generic σ c = 0) → (¬ x2 = 0 → M_generic σ c = 1 ∧ (x2 = 1 ∨ x2 = 2) ∧ ∃ x, 8 ≤ x ∧ x < t ∧ x3 = nI x) → k_ok (f_M_named_78 σ x1 x2 x3 0) (kPub n g d) := by
    intro c hc e1 h0 h1
    have k112 : ∀ z : Int32, kOwn t (M_generic σ c) x2 z → k_ok (f_M_named_112 (M_set_code σ 0) (M_types σ) x1 x2 z) (kPub n g d) := by
      intro z hz
      unfold f_M_named_112
      rw [e1, et]
      refine k_bind (s_M_addNamed (σ := M_set_code σ 0) h.1 hc hz) ?_
      intro r hr
      refine k_bind (s_M_end (σ := M_set_code σ 0) h hr 3) ?_
      intro r' hr'
      exact k_some hr'
    unfold f_M_named_78
    refine k_good (fun _ => ?_) (fun q => absurd rfl q)
    refine k_if (fun q => absurd q k_10) (fun _ => ?_)
    refine k_if (fun q => ?_) (fun q => ?_)
    · exact k112 (-1) (Or.inl ⟨h0 q, q, rfl⟩)
    · obtain ⟨w1, w2, w3⟩ := h1 q
      exact k112 x3 (Or.inr ⟨w1, w2, w3⟩)
  have k25 : ∀ w : Int32, (w = 0 ∨ ((∃ c, c < n ∧ x1 = nI c) ∧ (x2 = 0 ∨ ∃ x, x < t ∧ x3 = nI x))) → k_ok (f_M_named_25 σ x1 x2 x3 w) (kPub n g d) := by
    intro w hw
    unfold f_M_named_25 f_M_named_73
    refine k_if (fun _ => bad 1 (by decide)) (fun w0 => ?_)
    rcases hw with hw | ⟨⟨c, hc, e1⟩, hx⟩
    · exact absurd hw w0
    have gc := (h.1.1.2.2.2.2 c hc).1
    refine k_if (fun _ => bad 2 (by decide)) (fun z1 => ?_)
    refine k_if (fun _ => bad 2 (by decide)) (fun z2 => ?_)
    have cc : x1.toNatClampNeg = c := by rw [e1]; exact nI_clamp (by omega)
    have ic : ¬ (x1 < 0 ∨ 30 ≤ x1.toNatClampNeg) := by rw [e1]; exact nI_in (by omega) (by decide)
    refine k_guard ic ?_
    rw [cc]
    refine k_if (fun z3 => ?_) (fun z3 => ?_)
    · unfold f_M_named_60 f_M_named_73 f_M_named_77
      refine k_if (fun _ => bad 2 (by decide)) (fun z4 => ?_)
      have g0 : M_generic σ c = 0 := by
        rcases gc with gc | gc
        · exact gc
        · exact absurd gc z4
      refine k_if (fun _ => good c hc e1 (fun _ => g0) (fun q => absurd z3 q)) (fun z5 => ?_)
      exact absurd (by rw [z3]; decide) z5
    · unfold f_M_named_60 f_M_named_73 f_M_named_77
      refine k_if (fun _ => bad 2 (by decide)) (fun z4 => ?_)
      have g1 : M_generic σ c = 1 := by
        rcases gc with gc | gc
        · exact absurd gc z4
        · exact gc
      obtain ⟨j, hj, e2⟩ := nI_of z1
      have z2' : ¬ nI 2 < nI j := by rw [← e2]; exact z2
      rw [nI_ltI (by decide) hj] at z2'
      have z3' : ¬ nI j = nI 0 := by rw [← e2]; exact z3
      rw [nI_eq hj (by decide)] at z3'
      have hw : x2 = 1 ∨ x2 = 2 := by
        rcases (show j = 1 ∨ j = 2 by omega) with q | q
        · exact Or.inl (by rw [e2, q]; rfl)
        · exact Or.inr (by rw [e2, q]; rfl)
      refine k_if (fun z5 => ?_) (fun _ => ?_)
      · exfalso
        rcases hw with q | q
        · rw [q] at z5; exact absurd z5 (by decide)
        · rw [q] at z5; exact absurd z5 (by decide)
      · refine k_if (fun z6 => ?_) (fun _ => bad 2 (by decide))
        rcases hx with q | ⟨x, xt, e3⟩
        · exact absurd q z3
        · have z7 : nI 8 ≤ nI x := by rw [← e3]; exact z6
          rw [nI_leI (by decide) (by omega)] at z7
          exact good c hc e1 (fun q => absurd q z3) (fun _ => ⟨g1, hw, x, z7, xt, e3⟩)
  unfold f_M_named f_M_named_24 f_M_named_20
  refine k_if (fun _ => k25 0 (Or.inl rfl)) (fun w => ?_)
  obtain ⟨c, hc, e1⟩ := kM_class h.1.1 w
  refine k_if (fun q => k25 1 (Or.inr ⟨⟨c, hc, e1⟩, Or.inl q⟩)) (fun _ => ?_)
  refine k_if (fun _ => k25 0 (Or.inl rfl)) (fun w2 => ?_)
  exact k25 1 (Or.inr ⟨⟨c, hc, e1⟩, Or.inr (kM_type h.1.2 w2)⟩)
theorem s_M_array (h : kN σ n g d t) (x1 : Int32) : k_ok (f_M_array σ x1) (kPub n g d) := by
  have et : M_types σ = nI t := h.1.2.1
  unfold f_M_array f_M_array_14
  refine k_if (fun _ => ?_) (fun w => ?_)
  · refine k_good (fun q => absurd q (by decide)) (fun _ => ?_)
    exact k_if (fun _ => k_some ⟨t, h⟩) (fun q => absurd rfl q)
  · obtain ⟨e, he, rfl⟩ := kM_type h.1.2 w
    refine k_good (fun _ => ?_) (fun q => absurd rfl q)
    refine k_if (fun q => absurd q k_10) (fun _ => ?_)
    refine k_bind (s_M_addArray (σ := M_set_code σ 0) h.1 he) ?_
    intro r hr
    rw [show M_types ((1 : Int32), M_set_code σ 0).2 = nI t from et]
    refine k_bind (s_M_end (σ := M_set_code σ 0) h hr 2) ?_
    intro r' hr'
    exact k_some hr'
theorem s_M_isBelow (h : kN σ n g d t) (x1 x2 : Int32) : k_ok (f_M_isBelow σ x1 x2) (kPub n g d) := by
  have ht := h.1.2.2.2.1
  have bad : k_ok (f_M_isBelow_22 σ x1 x2 1) (kPub n g d) := by
    unfold f_M_isBelow_22
    refine k_good (fun q => absurd q (by decide)) (fun _ => ?_)
    exact k_if (fun _ => k_some ⟨t, h⟩) (fun q => absurd rfl q)
  unfold f_M_isBelow f_M_isBelow_21
  refine k_if (fun _ => bad) (fun w1 => k_if (fun _ => bad) (fun w2 => ?_))
  obtain ⟨a, ha, rfl⟩ := kM_type h.1.2 w1
  obtain ⟨b, hb, rfl⟩ := kM_type h.1.2 w2
  unfold f_M_isBelow_22
  refine k_good (fun _ => ?_) (fun q => absurd rfl q)
  refine k_if (fun q => absurd q k_10) (fun _ => ?_)
  refine k_bind (s_M_reckonBelow (σ := M_set_code σ 0) h.1) ?_
  rintro ⟨v, τ⟩ ⟨a', h', g', β, ν, e⟩
  replace e : τ = mK (M_set_code σ 0) a' h' g' β ν := e
  subst e
  exact k_guard (k_in300 (by omega) (by omega)) (k_some ⟨t, h⟩)
theorem s_M_look (h : kN σ n g d t) (x1 x2 : Int32) : k_ok (f_M_look σ x1 x2) (kPub n g d) := by
  have et : M_types σ = nI t := h.1.2.1
  have bad : k_ok (f_M_look_22 σ x1 x2 1) (kPub n g d) := by
    unfold f_M_look_22
    refine k_good (fun q => absurd q (by decide)) (fun _ => ?_)
    exact k_if (fun _ => k_some ⟨t, h⟩) (fun q => absurd rfl q)
  unfold f_M_look f_M_look_21
  refine k_if (fun _ => bad) (fun w1 => k_if (fun _ => bad) (fun w2 => ?_))
  obtain ⟨a, ha, rfl⟩ := kM_type h.1.2 w1
  obtain ⟨c, hc, rfl⟩ := kM_class h.1.1 w2
  unfold f_M_look_22
  refine k_good (fun _ => ?_) (fun q => absurd rfl q)
  refine k_if (fun q => absurd q k_10) (fun _ => ?_)
  refine k_bind (s_M_lookAt (σ := M_set_code σ 0) h.1 ha hc) ?_
  rintro ⟨v, τ⟩ ⟨a', h', g', e, e2, e3, _⟩
  replace e : τ = mF (M_set_code σ 0) a' h' g' := e
  subst e
  refine k_if (fun _ => k_some ⟨t, h⟩) (fun q => ?_)
  have ea : a' = 1 := by
    rcases e2 with e2 | e2
    · exact absurd e2 q
    · exact e2
  have ho : kOwn t (M_generic σ c) h' g' := e3 ea
  have hN : kN (mF (M_set_code σ 0) a' h' g') n g d t := h
  show k_ok ((f_M_addNamed (mF (M_set_code σ 0) a' h' g') (nI c) h' g').bind fun r3 => (f_M_end r3.2 (M_types σ) r3.1 2).bind fun r4 => some (r4.1, r4.2)) _
  rw [et]
  refine k_bind (s_M_addNamed hN.1 hc ho) ?_
  intro r hr
  refine k_bind (s_M_end hN hr 2) ?_
  intro r' hr'
  exact k_some hr'
theorem s_M_box (h : kN σ n g d t) (x1 : Int32) : k_ok (f_M_box σ x1) (kPub n g d) := by
  unfold f_M_box f_M_box_14
  refine k_if (fun _ => ?_) (fun w => ?_)
  · refine k_good (fun q => absurd q (by decide)) (fun _ => ?_)
    exact k_if (fun _ => k_some ⟨t, h⟩) (fun q => absurd rfl q)
  · refine k_good (fun _ => ?_) (fun q => absurd rfl q)
    refine k_if (fun q => absurd q k_10) (fun _ => ?_)
    exact k_if (fun _ => k_some ⟨t, h⟩) (fun _ => k_some ⟨t, h⟩)
theorem s_M_type (h : kN σ n g d t) (x1 x2 : Int32) : k_ok (f_M_type σ x1 x2) (kPub n g d) := by
  have ht := h.1.2.2.2.1
  have bad : ∀ w : Int32, ¬ w = 0 → k_ok (f_M_type_27 σ x1 x2 w) (kPub n g d) := by
    intro w hw
    unfold f_M_type_27
    refine k_good (fun q => absurd q hw) (fun _ => ?_)
    exact k_if (fun _ => k_some ⟨t, h⟩) (fun q => absurd rfl q)
  unfold f_M_type f_M_type_22
  refine k_if (fun _ => bad 1 (by decide)) (fun w => ?_)
  obtain ⟨a, ha, e⟩ := kM_type h.1.2 w
  refine k_if (fun _ => bad 2 (by decide)) (fun _ => k_if (fun _ => ?_) (fun _ => bad 2 (by decide)))
  have ia : ¬ (x1 < 0 ∨ 300 ≤ x1.toNatClampNeg) := by rw [e]; exact nI_in (by omega) (by decide)
  unfold f_M_type_27
  refine k_good (fun _ => ?_) (fun q => absurd rfl q)
  refine k_if (fun q => absurd q k_10) (fun _ => ?_)
  refine k_if (fun _ => k_guard ia (k_some ⟨t, h⟩)) (fun _ => ?_)
  refine k_if (fun _ => k_guard ia (k_some ⟨t, h⟩)) (fun _ => ?_)
  refine k_if (fun _ => k_guard ia (k_some ⟨t, h⟩)) (fun _ => ?_)
  refine k_if (fun _ => k_guard ia (k_some ⟨t, h⟩)) (fun _ => ?_)
  exact k_if (fun _ => k_guard ia (k_some ⟨t, h⟩)) (fun _ => k_guard ia (k_some ⟨t, h⟩))
theorem s_M_part (h : kN σ n g d t) (x1 x2 : Int32) : k_ok (f_M_part σ x1 x2) (kPub n g d) := by
  have ht := h.1.2.2.2.1
  have bad : k_ok (f_M_part_28 σ x1 x2 1) (kPub n g d) := by
    unfold f_M_part_28
    refine k_good (fun q => absurd q (by decide)) (fun _ => ?_)
    exact k_if (fun _ => k_some ⟨t, h⟩) (fun q => absurd rfl q)
  unfold f_M_part f_M_part_27
  refine k_if (fun _ => bad) (fun w => ?_)
  obtain ⟨a, ha, rfl⟩ := kM_type h.1.2 w
  obtain ⟨m, m1, m2, _⟩ := kTyp_part h.1.2.2 ha
  refine k_if (fun _ => bad) (fun w2 => ?_)
  obtain ⟨j, hj, rfl⟩ := nI_of w2
  refine k_guard (nI_in (by omega) (by decide)) (k_if (fun _ => bad) (fun w3 => ?_))
  rw [nI_clamp (by omega), m2, nI_leI (by omega) hj] at w3
  unfold f_M_part_28
  refine k_good (fun _ => ?_) (fun q => absurd rfl q)
  refine k_if (fun q => absurd q k_10) (fun _ => ?_)
  refine k_guard ?_ (k_some ⟨t, h⟩)
  rw [k_30ix]; exact nI_in (by omega) (by decide)
/-- what the set of the COMMON classes says -/
def kCm (σ : StM) (n a b : Nat) (r : Int32 × StM) : Prop := kF σ r ∧ ∀ c, c < 32 → bt r.1 c = true → c < n ∧ kSees σ (kBox a) c ∧ kSees σ (kBox b) c
theorem s_M_commonOf_5 (h : kM σ n t) {a b : Nat} (ha : a < t) (hb : b < t) : ∀ (f i : Nat) (x aa hh gg : Int32), i ≤ n → n < f + i → (∀ c, c < 32 → bt x c = true → c < n ∧ kSees σ (kBox a) c ∧ kSees σ (kBox b) c) → k_ok (f_M_commonOf_5 f (mF σ aa hh gg) (nI a) (nI b) x (nI i)) (kCm σ n a b) := by
  have hn := h.1.2.2.1
  have en : M_classes σ = nI n := h.1.1
  intro f
  induction f with
  | zero => intro i x aa hh gg h1 h2; omega
  | succ f ih =>
    intro i x aa hh gg h1 h2 h3
    rw [f_M_commonOf_5]
    unfold f_M_commonOf_5_s f_M_commonOf_54
    rw [show M_classes (mF σ aa hh gg) = nI n from en]
    refine k_if (fun _ => k_some ⟨⟨aa, hh, gg, rfl⟩, h3⟩) (fun q => ?_)
    rw [nI_leI (by omega) (by omega)] at q
    refine k_bind (s_M_lookAt (σ := mF σ aa hh gg) h ha (show i < n by omega)) ?_
    rintro ⟨v1, τ1⟩ ⟨a1, h1', g1, e1, z1, _, y1⟩
    replace e1 : τ1 = mF σ a1 h1' g1 := e1
    subst e1
    replace y1 : a1 = 1 ↔ kSees σ (kBox a) i := y1
    refine k_bind (s_M_lookAt (σ := mF σ a1 h1' g1) h hb (show i < n by omega)) ?_
    rintro ⟨v2, τ2⟩ ⟨a2, h2', g2, e2, z2, _, y2⟩
    replace e2 : τ2 = mF σ a2 h2' g2 := e2
    subst e2
    replace y2 : a2 = 1 ↔ kSees σ (kBox b) i := y2
    have nx : ∀ y : Int32, (∀ c, c < 32 → bt y c = true → c < n ∧ kSees σ (kBox a) c ∧ kSees σ (kBox b) c) → k_ok (f_M_commonOf_5 f (mF σ a2 h2' g2) (nI a) (nI b) y (nI i + 1)) (kCm σ n a b) := by
      intro y hy
      rw [nI_1]
      exact ih (i + 1) y a2 h2' g2 (by omega) (by omega) hy
    have n0 : ∀ c, c < 32 → bt (x ||| 0) c = true → c < n ∧ kSees σ (kBox a) c ∧ kSees σ (kBox b) c := by
      intro c hc hx
      rw [b_or, b_0, Bool.or_false] at hx
      exact h3 c hc hx
    refine k_if (fun _ => nx _ n0) (fun w1 => k_if (fun _ => nx _ n0) (fun w2 => nx _ ?_))
    replace w1 : ¬ a1 = 0 := w1
    replace w2 : ¬ a2 = 0 := w2
    intro c hc hx
    rw [b_or, k_shl1 i (by omega) hc, Bool.or_eq_true, decide_eq_true_iff] at hx
    rcases hx with hx | hx
    · exact h3 c hc hx
    · subst hx
      refine ⟨by omega, y1.mp ?_, y2.mp ?_⟩
      · rcases z1 with z1 | z1
        · exact absurd z1 w1
        · exact z1
      · rcases z2 with z2 | z2
        · exact absurd z2 w2
        · exact z2
theorem s_M_commonOf (h : kM σ n t) {a b : Nat} (ha : a < t) (hb : b < t) : k_ok (f_M_commonOf σ (nI a) (nI b)) (kCm σ n a b) := by
  have hn := h.1.2.2.1
  unfold f_M_commonOf
  exact s_M_commonOf_5 h ha hb 1000 0 0 (M_found σ) (M_foundHow σ) (M_foundType σ) (by omega) (by omega) (fun c _ hx => by rw [b_0] at hx; cases hx)
theorem s_M_leastOf_4 (h : kMC σ n t) (x1 : Int32) : ∀ (f i : Nat) (x2 : Int32), i ≤ n → n < f + i → k_ok (f_M_leastOf_4 f σ x1 x2 (nI i)) (fun r => ∀ b, b < 32 → bt r b = true → bt x2 b = true) := by
  have hn := h.2.2.1
  have en : M_classes σ = nI n := h.1
  intro f
  induction f with
  | zero => intro i x2 h1 h2; omega
  | succ f ih =>
    intro i x2 h1 h2
    rw [f_M_leastOf_4]
    unfold f_M_leastOf_4_s
    rw [en]
    refine k_if (fun _ => k_some (fun b _ q => q)) (fun q => ?_)
    rw [nI_leI (by omega) (by omega)] at q
    rw [nI_1]
    refine k_if (fun _ => ?_) (fun _ => ih (i + 1) x2 (by omega) (by omega))
    refine k_guard (nI_in (by omega) (by decide)) ?_
    refine k_mono (ih (i + 1) _ (by omega) (by omega)) ?_
    intro r hr b hb hx
    have := hr b hb hx
    rw [b_and, Bool.and_eq_true] at this
    exact this.1
theorem s_M_count_4 (x0 : Int32) : ∀ (f i : Nat) (x1 : Int32), i ≤ 31 → 31 < f + i → k_ok (f_M_count_4 f x0 x1 (nI i)) (fun _ => True) := by
  intro f
  induction f with
  | zero => intro i x1 h1 h2; omega
  | succ f ih =>
    intro i x1 h1 h2
    rw [f_M_count_4]
    unfold f_M_count_4_s
    refine k_if (fun _ => k_some trivial) (fun q => ?_)
    have q2 : ¬ nI 31 ≤ nI i := q
    rw [nI_leI (by decide) (by omega)] at q2
    rw [nI_1]
    exact ih (i + 1) _ (by omega) (by omega)
theorem s_M_count (x0 : Int32) : k_ok (f_M_count x0) (fun _ => True) := by
  unfold f_M_count
  exact s_M_count_4 x0 1000 0 0 (by omega) (by omega)
theorem s_M_common (h : kN σ n g d t) (x1 x2 x3 : Int32) : k_ok (f_M_common σ x1 x2 x3) (kPub n g d) := by
  have hn := h.1.1.2.2.1
  have bad : ∀ w : Int32, ¬ w = 0 → k_ok (f_M_common_35 σ x1 x2 x3 w) (kPub n g d) := by
    intro w hw
    unfold f_M_common_35
    refine k_good (fun q => absurd q hw) (fun _ => ?_)
    exact k_if (fun _ => k_some ⟨t, h⟩) (fun q => absurd rfl q)
  unfold f_M_common f_M_common_17 f_M_common_30
  refine k_if (fun _ => bad 1 (by decide)) (fun w1 => k_if (fun _ => bad 1 (by decide)) (fun w2 => ?_))
  refine k_if (fun _ => bad 2 (by decide)) (fun _ => k_if (fun _ => ?_) (fun _ => bad 2 (by decide)))
  obtain ⟨a, ha, rfl⟩ := kM_type h.1.2 w1
  obtain ⟨b, hb, rfl⟩ := kM_type h.1.2 w2
  unfold f_M_common_35
  refine k_good (fun _ => ?_) (fun q => absurd rfl q)
  refine k_if (fun q => absurd q k_10) (fun _ => ?_)
  refine k_bind (s_M_commonOf (σ := M_set_code σ 0) h.1 ha hb) ?_
  rintro ⟨v, τ⟩ ⟨⟨a', h', g', e⟩, _⟩
  replace e : τ = mF (M_set_code σ 0) a' h' g' := e
  subst e
  have k66 : ∀ y : Int32, k_ok (f_M_common_66 (mF (M_set_code σ 0) a' h' g') y) (kPub n g d) := by
    intro y
    unfold f_M_common_66
    refine k_bind (s_M_count y) ?_
    intro r4 _
    exact k_some ⟨t, h⟩
  refine k_if (fun _ => k66 _) (fun _ => ?_)
  refine k_bind (P := fun _ => True) ?_ (fun _ _ => k66 _)
  unfold f_M_leastOf
  exact k_mono (s_M_leastOf_4 (σ := mF (M_set_code σ 0) a' h' g') h.1.1 _ 1000 0 _ (by omega) (by omega)) (fun _ _ => trivial)
theorem s_M_isUnder (h : kN σ n g d t) (x1 x2 : Int32) : k_ok (f_M_isUnder σ x1 x2) (kPub n g d) := by
  have hn := h.1.1.2.2.1
  have bad : k_ok (f_M_isUnder_22 σ x1 x2 1) (kPub n g d) := by
    unfold f_M_isUnder_22
    refine k_good (fun q => absurd q (by decide)) (fun _ => ?_)
    exact k_if (fun _ => k_some ⟨t, h⟩) (fun q => absurd rfl q)
  unfold f_M_isUnder f_M_isUnder_21
  refine k_if (fun _ => bad) (fun w1 => k_if (fun _ => bad) (fun w2 => ?_))
  obtain ⟨a, ha, rfl⟩ := kM_class h.1.1 w1
  obtain ⟨b, hb, rfl⟩ := kM_class h.1.1 w2
  unfold f_M_isUnder_22
  refine k_good (fun _ => ?_) (fun q => absurd rfl q)
  refine k_if (fun q => absurd q k_10) (fun _ => ?_)
  refine k_bind (P := fun _ => True) ?_ ?_
  · exact ⟨_, s_M_under (σ := M_set_code σ 0) (by omega) (by omega), trivial⟩
  · intro r2 _
    exact k_if (fun _ => k_some ⟨t, h⟩) (fun _ => k_some ⟨t, h⟩)
theorem s_M_classed (h : kN σ n g d t) (x1 x2 : Int32) : k_ok (f_M_classed σ x1 x2) (kPub n g d) := by
  have hn := h.1.1.2.2.1
  have bad : ∀ w : Int32, ¬ w = 0 → k_ok (f_M_classed_27 σ x1 x2 w) (kPub n g d) := by
    intro w hw
    unfold f_M_classed_27
    refine k_good (fun q => absurd q hw) (fun _ => ?_)
    exact k_if (fun _ => k_some ⟨t, h⟩) (fun q => absurd rfl q)
  unfold f_M_classed f_M_classed_22
  refine k_if (fun _ => bad 1 (by decide)) (fun w => ?_)
  obtain ⟨a, ha, e⟩ := kM_class h.1.1 w
  refine k_if (fun _ => bad 2 (by decide)) (fun _ => k_if (fun _ => ?_) (fun _ => bad 2 (by decide)))
  have ia : ¬ (x1 < 0 ∨ 30 ≤ x1.toNatClampNeg) := by rw [e]; exact nI_in (by omega) (by decide)
  unfold f_M_classed_27
  refine k_good (fun _ => ?_) (fun q => absurd rfl q)
  refine k_if (fun q => absurd q k_10) (fun _ => ?_)
  refine k_if (fun _ => k_guard ia (k_if (fun _ => k_some ⟨t, h⟩) (fun _ => k_some ⟨t, h⟩))) (fun _ => ?_)
  refine k_if (fun _ => k_guard ia (k_if (fun _ => k_some ⟨t, h⟩) (fun _ => k_some ⟨t, h⟩))) (fun _ => ?_)
  refine k_if (fun _ => k_guard ia (k_some ⟨t, h⟩)) (fun _ => ?_)
  exact k_guard ia (k_bind (s_M_count _) (fun _ _ => k_some ⟨t, h⟩))
theorem s_M_direct (h : kN σ n g d t) (x1 x2 x3 : Int32) : k_ok (f_M_direct σ x1 x2 x3) (kPub n g d) := by
  have hn := h.1.1.2.2.1
  have bad : ∀ w : Int32, ¬ w = 0 → k_ok (f_M_direct_41 σ x1 x2 x3 w) (kPub n g d) := by
    intro w hw
    unfold f_M_direct_41
    refine k_good (fun q => absurd q hw) (fun _ => ?_)
    exact k_if (fun _ => k_some ⟨t, h⟩) (fun q => absurd rfl q)
  unfold f_M_direct f_M_direct_23 f_M_direct_36
  refine k_if (fun _ => bad 1 (by decide)) (fun w => ?_)
  obtain ⟨a, ha, rfl⟩ := kM_class h.1.1 w
  obtain ⟨_, m, d1, _, d3, _⟩ := h.1.1.2.2.2.2 a ha
  refine k_if (fun _ => bad 1 (by decide)) (fun w2 => ?_)
  obtain ⟨j, hj, rfl⟩ := nI_of w2
  refine k_guard (nI_in (by omega) (by decide)) (k_if (fun w3 => ?_) (fun _ => bad 1 (by decide)))
  rw [nI_clamp (by omega), d3, nI_ltI hj (by omega)] at w3
  refine k_if (fun _ => bad 2 (by decide)) (fun _ => k_if (fun _ => ?_) (fun _ => bad 2 (by decide)))
  have ix : ¬ ((30 * nI a + nI j) < 0 ∨ 900 ≤ (30 * nI a + nI j).toNatClampNeg) := by
    rw [k_30ix]; exact nI_in (by omega) (by decide)
  unfold f_M_direct_41
  refine k_good (fun _ => ?_) (fun q => absurd rfl q)
  refine k_if (fun q => absurd q k_10) (fun _ => ?_)
  exact k_if (fun _ => k_guard ix (k_some ⟨t, h⟩)) (fun _ => k_guard ix (k_some ⟨t, h⟩))
theorem s_M_told (h : kN σ n g d t) (x1 : Int32) : k_ok (f_M_told σ x1) (kPub n g d) := by
  have all : ∀ w : Int32, k_ok (f_M_told_15 σ x1 w) (kPub n g d) := by
    intro w
    unfold f_M_told_15
    refine k_good (fun _ => ?_) (fun _ => ?_)
    · refine k_if (fun _ => k_some ⟨t, h⟩) (fun _ => ?_)
      exact k_if (fun _ => k_some ⟨t, h⟩) (fun _ => k_if (fun _ => k_some ⟨t, h⟩) (fun _ => k_if (fun _ => k_some ⟨t, h⟩) (fun _ => k_some ⟨t, h⟩)))
    · exact k_if (fun _ => k_some ⟨t, h⟩) (fun q => absurd rfl q)
  unfold f_M_told f_M_told_10
  exact k_if (fun _ => all _) (fun _ => k_if (fun _ => all _) (fun _ => all _))
end
