/-! The reference: lower. -/
section
variable {σ : StM} {n g d t : Nat}
theorem s_M_lower_262 (h : kM σ n t) {q : Nat} (hq : q ≤ 60) (hr : kRow σ t (M_row σ) q) {i : Nat} (hi : i < q) (k252 : StM → Int32 → Int32 → Option (Int32 × StM)) {Q : Int32 × StM → Prop} (hQ : ∀ v, Q (v, σ))
    (hk : (∀ j, j < i → M_classOf σ (M_row σ j).toNatClampNeg ≠ M_classOf σ (M_row σ i).toNatClampNeg) → k_ok (k252 σ (nI q) (nI i + 1)) Q) :
    ∀ (f j : Nat), j ≤ i → i < f + j → (∀ l, l < j → M_classOf σ (M_row σ l).toNatClampNeg ≠ M_classOf σ (M_row σ i).toNatClampNeg) → k_ok (f_M_lower_262 k252 f σ (nI q) (nI i) (nI j)) Q := by
  have ht := h.2.2.2.1
  have hn := h.1.2.2.1
  intro f
  induction f with
  | zero => intro j h1 h2; omega
  | succ f ih =>
    intro j h1 h2 h3
    rw [f_M_lower_262]
    unfold f_M_lower_262_s
    refine k_if (fun w => ?_) (fun w => ?_)
    · rw [nI_leI (by omega) (by omega)] at w
      have ej : j = i := by omega
      subst ej
      exact hk h3
    · rw [nI_leI (by omega) (by omega)] at w
      obtain ⟨p, p8, pt, ep, kp⟩ := hr i hi
      obtain ⟨r, r8, rt, er, kr⟩ := hr j (by omega)
      obtain ⟨c, c1, c2, _⟩ := kTyp_named h.2.2 pt kp
      obtain ⟨e, e1, e2, _⟩ := kTyp_named h.2.2 rt kr
      have ci : (nI i).toNatClampNeg = i := nI_clamp (by omega)
      have cj : (nI j).toNatClampNeg = j := nI_clamp (by omega)
      have cp : (nI p).toNatClampNeg = p := nI_clamp (by omega)
      have cr : (nI r).toNatClampNeg = r := nI_clamp (by omega)
      have ii : ¬ (nI i < 0 ∨ 64 ≤ (nI i).toNatClampNeg) := nI_in (by omega) (by decide)
      have ij : ¬ (nI j < 0 ∨ 64 ≤ (nI j).toNatClampNeg) := nI_in (by omega) (by decide)
      have ip : ¬ ((M_row σ) (nI i).toNatClampNeg < 0 ∨ 300 ≤ ((M_row σ) (nI i).toNatClampNeg).toNatClampNeg) := by rw [ci, ep]; exact nI_in (by omega) (by decide)
      have ir : ¬ ((M_row σ) (nI j).toNatClampNeg < 0 ∨ 300 ≤ ((M_row σ) (nI j).toNatClampNeg).toNatClampNeg) := by rw [cj, er]; exact nI_in (by omega) (by decide)
      have ec : (M_classOf σ) ((M_row σ) (nI i).toNatClampNeg).toNatClampNeg = nI c := by rw [ci, ep, cp]; exact c2
      have ee : (M_classOf σ) ((M_row σ) (nI j).toNatClampNeg).toNatClampNeg = nI e := by rw [cj, er, cr]; exact e2
      refine k_guard ii (k_guard ip (k_guard ij (k_guard ir ?_)))
      refine k_if (fun _ => k_some (hQ _)) (fun z => ?_)
      rw [ec, ee] at z ⊢
      have nx : k_ok (f_M_lower_262 k252 f σ (nI q) (nI i) (nI j + 1)) Q := by
        rw [nI_1]
        refine ih (j + 1) (by omega) (by omega) ?_
        intro l hl
        by_cases el : l = j
        · subst el
          intro y
          apply z
          rw [← ec, ← ee, ci, cj]
          exact y.symm
        · exact h3 l (by omega)
      refine k_guard (nI_in (by omega) (by decide)) (k_if (fun _ => ?_) (fun _ => nx))
      exact k_guard (nI_in (by omega) (by decide)) (k_if (fun _ => k_some (hQ _)) (fun _ => nx))
theorem s_M_lower_252 (h : kN σ n g d t) {q : Nat} (hq : q ≤ 60) (hr : kRow σ t (M_row σ) q) :
    ∀ (f i : Nat), i ≤ q → q < f + i → (∀ j l, j < l → l < i → M_classOf σ (M_row σ j).toNatClampNeg ≠ M_classOf σ (M_row σ l).toNatClampNeg) → k_ok (f_M_lower_252 f σ (nI q) (nI i)) (kPub n g d) := by
  have ht := h.1.2.2.2.1
  have hn := h.1.1.2.2.1
  have et : M_types σ = nI t := h.1.2.1
  intro f
  induction f with
  | zero => intro i h1 h2; omega
  | succ f ih =>
    intro i h1 h2 h3
    rw [f_M_lower_252]
    unfold f_M_lower_252_s
    refine k_if (fun w => ?_) (fun w => ?_)
    · rw [nI_leI (by omega) (by omega)] at w
      have ei : i = q := by omega
      subst ei
      have hq30 : i ≤ n := by
        refine k_pigeon n i (fun j => (M_classOf σ (M_row σ j).toNatClampNeg).toNatClampNeg) ?_ ?_
        · intro k hk
          obtain ⟨p, p8, pt, ep, kp⟩ := hr k hk
          obtain ⟨c, c1, c2, _⟩ := kTyp_named h.1.2.2 pt kp
          show (M_classOf σ (M_row σ k).toNatClampNeg).toNatClampNeg < n
          rw [ep, nI_clamp (by omega), show M_classOf σ p = nI c from c2, nI_clamp (by omega)]; exact c1
        · intro k l hk hl
          obtain ⟨p, p8, pt, ep, kp⟩ := hr k (by omega)
          obtain ⟨c, c1, c2, _⟩ := kTyp_named h.1.2.2 pt kp
          obtain ⟨r, r8, rt, er, kr⟩ := hr l hl
          obtain ⟨e, e1, e2, _⟩ := kTyp_named h.1.2.2 rt kr
          have hne := h3 k l hk hl
          show (M_classOf σ (M_row σ k).toNatClampNeg).toNatClampNeg ≠ (M_classOf σ (M_row σ l).toNatClampNeg).toNatClampNeg
          rw [ep, er, nI_clamp (show p < 2 ^ 31 by omega), nI_clamp (show r < 2 ^ 31 by omega), show M_classOf σ p = nI c from c2, show M_classOf σ r = nI e from e2] at hne ⊢
          rw [nI_clamp (by omega), nI_clamp (by omega)]
          intro y
          apply hne
          rw [y]
      rw [et]
      refine k_bind (s_M_addBoth h.1 (by omega) hr) ?_
      intro r hr'
      refine k_bind (s_M_end h hr' 2) ?_
      intro r' hr''
      exact k_some hr''
    · rw [nI_leI (by omega) (by omega)] at w
      refine s_M_lower_262 h.1 hq hr (by omega) _ (fun v => ⟨t, h⟩) ?_ 1000 0 (by omega) (by omega) (fun l hl => by omega)
      intro hd
      rw [nI_1]
      refine ih (i + 1) (by omega) (by omega) ?_
      intro j l hj hl
      by_cases el : l = i
      · subst el; exact hd j hj
      · exact h3 j l hj (by omega)
theorem s_M_partOf (h : kM σ n t) {a b pa pb : Nat} (ha : a < t) (hb : b < t) (ea : M_partCount σ a = nI pa) (eb : M_partCount σ b = nI pb) {i : Nat} (hi : i < pa + pb) (hpa : pa ≤ 30) (hpb : pb ≤ 30) : k_ok (f_M_partOf σ (nI a) (nI b) (nI i)) (fun r => ∃ p, 8 ≤ p ∧ p < t ∧ r = nI p ∧ M_kind σ p = 1) := by
  have ht := h.2.2.2.1
  have ia : ¬ (nI a < 0 ∨ 300 ≤ (nI a).toNatClampNeg) := nI_in (by omega) (by decide)
  have ca : (nI a).toNatClampNeg = a := nI_clamp (by omega)
  unfold f_M_partOf
  refine k_guard ia ?_
  rw [ca, ea]
  refine k_if (fun w => ?_) (fun w => ?_)
  · rw [nI_leI (by omega) (by omega)] at w
    have e : 30 * nI b + nI i - nI pa = nI (30 * b + i - pa) := by rw [k_30ix, k_sub (by omega)]
    rw [e]
    obtain ⟨m, m1, m2, m3⟩ := kTyp_part h.2.2 hb
    rw [show M_partCount σ b = nI m from m2, nI_eq (by omega) (by omega)] at eb
    subst eb
    obtain ⟨p, p1, p2, p3, p4⟩ := m3 (i - pa) (by omega)
    have cl : (nI (30 * b + i - pa)).toNatClampNeg = 30 * b + (i - pa) := by rw [nI_clamp (by omega)]; omega
    have ia' : ¬ (nI a < 0 ∨ 300 ≤ a) := by rw [ca] at ia; exact ia
    refine k_guard ia' (k_guard (nI_in (by omega) (by decide)) (k_some ⟨p, p1, by omega, ?_, p4⟩))
    rw [cl]; exact p3
  · rw [nI_leI (by omega) (by omega)] at w
    obtain ⟨m, m1, m2, m3⟩ := kTyp_part h.2.2 ha
    rw [show M_partCount σ a = nI m from m2, nI_eq (by omega) (by omega)] at ea
    subst ea
    obtain ⟨p, p1, p2, p3, p4⟩ := m3 i (by omega)
    have cl : (30 * nI a + nI i).toNatClampNeg = 30 * a + i := by rw [k_30ix]; exact nI_clamp (by omega)
    refine k_guard (by rw [k_30ix]; exact nI_in (by omega) (by decide)) (k_some ⟨p, p1, by omega, ?_, p4⟩)
    rw [cl]; exact p3
theorem s_M_lower_147 (h : kM σ n t) {a b pa pb : Nat} (ha : a < t) (hb : b < t) (ea : M_partCount σ a = nI pa) (eb : M_partCount σ b = nI pb) (hpa : pa ≤ 30) (hpb : pb ≤ 30) {i q p : Nat} (hq : q ≤ i) (hi : i < pa + pb) (hp8 : 8 ≤ p) (hpt : p < t) (hkp : M_kind σ p = 1)
    (k125 : StM → Int32 → Int32 → Int32 → Int32 → Int32 → Option (Int32 × StM)) {Q : Int32 × StM → Prop} {ρ : Nat → Int32} (hr : kRow σ t ρ q)
    (hk : ∀ (ρ' : Nat → Int32) (q' : Nat), q' ≤ i + 1 → kRow σ t ρ' q' → k_ok (k125 (M_set_row σ ρ') (nI a) (nI b) (nI (pa + pb)) (nI q') (nI i + 1)) Q) :
    ∀ (f j : Nat) (x7 : Int32), j ≤ pa + pb → pa + pb < f + j → k_ok (f_M_lower_147 k125 f (M_set_row σ ρ) (nI a) (nI b) (nI (pa + pb)) (nI q) (nI i) (nI p) x7 (nI j)) Q := by
  have ht := h.2.2.2.1
  intro f
  induction f with
  | zero => intro j x7 h1 h2; omega
  | succ f ih =>
    intro j x7 h1 h2
    rw [f_M_lower_147]
    unfold f_M_lower_147_s f_M_lower_213
    refine k_if (fun _ => ?_) (fun w => ?_)
    · refine k_if (fun _ => hk ρ q (by omega) hr) (fun _ => ?_)
      refine k_guard (nI_in (by omega) (by decide)) ?_
      rw [nI_1 q]
      refine hk (upd ρ (nI q).toNatClampNeg (nI p)) (q + 1) (by omega) ?_
      intro l hl
      rw [nI_clamp (show q < 2 ^ 31 by omega)]
      by_cases el : l = q
      · rw [el, k_upds]; exact ⟨p, hp8, hpt, rfl, hkp⟩
      · rw [k_updn el]; exact hr l (by omega)
    · rw [nI_leI (by omega) (by omega)] at w
      have nx : ∀ y : Int32, k_ok (f_M_lower_147 k125 f (M_set_row σ ρ) (nI a) (nI b) (nI (pa + pb)) (nI q) (nI i) (nI p) y (nI j + 1)) Q := by
        intro y
        rw [nI_1]
        exact ih (j + 1) y (by omega) (by omega)
      refine k_bind (s_M_partOf (σ := M_set_row σ ρ) h ha hb ea eb (i := j) (by omega) hpa hpb) ?_
      rintro r6 ⟨r, r8, rt, rfl, _⟩
      have k189 : k_ok (f_M_lower_189 k125 (f_M_lower_147 k125 f) (M_set_row σ ρ) (nI a) (nI b) (nI (pa + pb)) (nI q) (nI i) (nI p) (nI j) (nI r)) Q := by
        unfold f_M_lower_189 f_M_lower_213
        refine k_if (fun _ => nx _) (fun _ => ?_)
        exact k_guard (k_in300 (by omega) (by omega)) (k_if (fun _ => nx _) (fun _ => nx _))
      refine k_if (fun _ => nx _) (fun _ => k_if (fun _ => nx _) (fun _ => ?_))
      exact k_if (fun _ => k_if (fun _ => nx _) (fun _ => k189)) (fun _ => k189)
theorem s_M_lower_125 (h : kN σ n g d t) {a b pa pb : Nat} (ha : a < t) (hb : b < t) (ea : M_partCount σ a = nI pa) (eb : M_partCount σ b = nI pb) (hpa : pa ≤ 30) (hpb : pb ≤ 30) :
    ∀ (f i q : Nat) (ρ : Nat → Int32), i ≤ pa + pb → pa + pb < f + i → q ≤ i → kRow σ t ρ q → k_ok (f_M_lower_125 f (M_set_row σ ρ) (nI a) (nI b) (nI (pa + pb)) (nI q) (nI i)) (kPub n g d) := by
  have ht := h.1.2.2.2.1
  intro f
  induction f with
  | zero => intro i q ρ h1 h2; omega
  | succ f ih =>
    intro i q ρ h1 h2 h3 h4
    rw [f_M_lower_125]
    unfold f_M_lower_125_s
    have hN : kN (M_set_row σ ρ) n g d t := h
    refine k_if (fun _ => s_M_lower_252 hN (by omega) h4 1000 0 (by omega) (by omega) (fun j l _ hl => by omega)) (fun w => ?_)
    rw [nI_leI (by omega) (by omega)] at w
    refine k_bind (s_M_partOf (σ := M_set_row σ ρ) h.1 ha hb ea eb (i := i) (by omega) hpa hpb) ?_
    rintro r5 ⟨p, p8, pt, rfl, kp⟩
    refine s_M_lower_147 h.1 ha hb ea eb hpa hpb h3 (by omega) p8 pt kp _ h4 ?_ 1000 0 1 (by omega) (by omega)
    intro ρ' q' hq' hρ'
    rw [nI_1]
    exact ih (i + 1) q' ρ' (by omega) (by omega) hq' hρ'
theorem s_M_lower (h : kN σ n g d t) (x1 x2 : Int32) : k_ok (f_M_lower σ x1 x2) (kPub n g d) := by
  have ht := h.1.2.2.2.1
  have bad : k_ok (f_M_lower_22 σ x1 x2 1) (kPub n g d) := by
    unfold f_M_lower_22
    refine k_good (fun q => absurd q (by decide)) (fun _ => ?_)
    exact k_if (fun _ => k_some ⟨t, h⟩) (fun q => absurd rfl q)
  unfold f_M_lower f_M_lower_21
  refine k_if (fun _ => bad) (fun w1 => k_if (fun _ => bad) (fun w2 => ?_))
  obtain ⟨a, ha, rfl⟩ := kM_type h.1.2 w1
  obtain ⟨b, hb, rfl⟩ := kM_type h.1.2 w2
  unfold f_M_lower_22
  refine k_good (fun _ => ?_) (fun q => absurd rfl q)
  refine k_if (fun q => absurd q k_10) (fun _ => ?_)
  refine k_bind (s_M_reckonBelow (σ := M_set_code σ 0) h.1) ?_
  rintro ⟨v, τ⟩ ⟨a', h', g', β, ν, e⟩
  replace e : τ = mK (M_set_code σ 0) a' h' g' β ν := e
  have hN : kN τ n g d t := by rw [e]; exact h
  have ia : ¬ (nI a < 0 ∨ 300 ≤ (nI a).toNatClampNeg) := nI_in (by omega) (by decide)
  have ib : ¬ (nI b < 0 ∨ 300 ≤ (nI b).toNatClampNeg) := nI_in (by omega) (by decide)
  have k64 : k_ok (f_M_lower_64 τ (nI a) (nI b)) (kPub n g d) := by
    unfold f_M_lower_64
    exact k_guard (k_in300 (by omega) (by omega)) (k_if (fun _ => k_some ⟨t, hN⟩) (fun _ => k_some ⟨t, hN⟩))
  refine k_guard (k_in300 (by omega) (by omega)) (k_if (fun _ => ?_) (fun _ => k64))
  refine k_guard (k_in300 (by omega) (by omega)) (k_if (fun _ => ?_) (fun _ => k64))
  refine k_guard ia (k_guard ib (k_guard ia (k_if (fun _ => k_some ⟨t, hN⟩) (fun _ => ?_))))
  refine k_guard ib (k_if (fun _ => k_some ⟨t, hN⟩) (fun _ => ?_))
  obtain ⟨pa, pa1, pa2, _⟩ := kTyp_part hN.1.2.2 ha
  obtain ⟨pb, pb1, pb2, _⟩ := kTyp_part hN.1.2.2 hb
  show k_ok (f_M_lower_125 1000 τ (nI a) (nI b) ((M_partCount τ) (nI a).toNatClampNeg + (M_partCount τ) (nI b).toNatClampNeg) 0 0) _
  rw [nI_clamp (show a < 2 ^ 31 by omega), nI_clamp (show b < 2 ^ 31 by omega), show M_partCount τ a = nI pa from pa2, show M_partCount τ b = nI pb from pb2, nI_add]
  exact s_M_lower_125 hN ha hb pa2 pb2 pa1 pb1 1000 0 0 (M_row τ) (by omega) (by omega) (by omega) (fun j hj => by omega)
end
