-- part 08.30.M8.lean.txt
/-! The reference: lower. -/
section
variable {σ : StM} {n g d t : Nat}
theorem s_M_lower_262 (h : kM σ n t) {q : Nat} (hq : q ≤ 60) (hr : kRow σ t (M_row σ) q) {i : Nat} (hi : i < q) (k252 : StM → Int32 → Int32 → Option (Int32 × StM)) {Q : Int32 × StM → Prop} (hQ : ∀ v, Q (v, σ))
    (hk : (∀ j, j < i → M_classOf σ (M_row σ j).toNatClampNeg ≠ M_classOf σ (M_row σ i).toNatClampNeg) → k_ok (k252 σ (nI q) (nI i + 1)) Q) :
    ∀ (f j : Nat), j ≤ i → i < f + j → (∀ l, l < j → M_classOf σ (M_row σ l).toNatClampNeg ≠ M_classOf σ (M_row σ i).toNatClampNeg) → k_ok (f_M_lower_262 k252 f σ (nI q) (nI i) (nI j)) Q := by
  have ht := h.2.2.2.1
  have hn := h.1.2.2.1
  intro f
  induction f with
  | zero => intro j h1 h2; omega
  | succ f ih =>
    intro j h1 h2 h3
    rw [f_M_lower_262]
    unfold f_M_lower_262_s
    refine k_if (fun w => ?_) (fun w => ?_)
    · rw [nI_leI (by omega) (by omega)] at w
      have ej : j = i := by omega
      subst ej
      exact hk h3
    · rw [nI_leI (by omega) (by omega)] at w
      obtain ⟨p, p8, pt, ep, kp⟩ := hr i hi
      obtain ⟨r, r8, rt, er, kr⟩ := hr j (by omega)
      obtain ⟨c, c1, c2, _⟩ := kTyp_named h.2.2 pt kp
      obtain ⟨e, e1, e2, _⟩ := kTyp_named h.2.2 rt kr
      have ci : (nI i).toNatClampNeg = i := nI_clamp (by omega)
      have cj : (nI j).toNatClampNeg = j := nI_clamp (by omega)
      have cp : (nI p).toNatClampNeg = p := nI_clamp (by omega)
      have cr : (nI r).toNatClampNeg = r := nI_clamp (by omega)
      have ii : ¬ (nI i < 0 ∨ 64 ≤ (nI i).toNatClampNeg) := nI_in (by omega) (by decide)
      have ij : ¬ (nI j < 0 ∨ 64 ≤ (nI j).toNatClampNeg) := nI_in (by omega) (by decide)
      have ip : ¬ ((M_row σ) (nI i).toNatClampNeg < 0 ∨ 300 ≤ ((M_row σ) (nI i).toNatClampNeg).toNatClampNeg) := by rw [ci, ep]; exact nI_in (by omega) (by decide)
      have ir : ¬ ((M_row σ) (nI j).toNatClampNeg < 0 ∨ 300 ≤ ((M_row σ) (nI j).toNatClampNeg).toNatClampNeg) := by rw [cj, er]; exact nI_in (by omega) (by decide)
      have ec : (M_classOf σ) ((M_row σ) (nI i).toNatClampNeg).toNatClampNeg = nI c := by rw [ci, ep, cp]; exact c2
      have ee : (M_classOf σ) ((M_row σ) (nI j).toNatClampNeg).toNatClampNeg = nI e := by rw [cj, er, cr]; exact e2
      refine k_guard ii (k_guard ip (k_guard ij (k_guard ir ?_)))
      refine k_if (fun _ => k_some (hQ _)) (fun z => ?_)
      rw [ec, ee] at z ⊢
      have nx : k_ok (f_M_lower_262 k252 f σ (nI q) (nI i) (nI j + 1)) Q := by
        rw [nI_1]
        refine ih (j + 1) (by omega) (by omega) ?_
        intro l hl
        by_cases el : l = j
        · subst el
          intro y
          apply z
          rw [← ec, ← ee, ci, cj]
          exact y.symm
        · exact h3 l (by omega)
      refine k_guard (nI_in (by omega) (by decide)) (k_if (fun _ => ?_) (fun _ => nx))
      exact k_guard (nI_in (by omega) (by decide)) (k_if (fun _ => k_some (hQ _)) (fun _ => nx))
theorem s_M_lower_252 (h : kN σ n g d t) {q : Nat} (hq : q ≤ 60) (hr : kRow σ t (M_row σ) q) :
    ∀ (f i : Nat), i ≤ q → q < f + i → (∀ j l, j < l → l < i → M_classOf σ (M_row σ j).toNatClampNeg ≠ M_classOf σ (M_row σ l).toNatClampNeg) → k_ok (f_M_lower_252 f σ (nI q) (nI i)) (kPub n g d) := by
  have ht := h.1.2.2.2.1
  have hn := h.1.1.2.2.1
  have et : M_types σ = nI t := h.1.2.1
  intro f
  induction f with
  | zero => intro i h1 h2; omega
  | succ f ih =>
    intro i h1 h2 h3
    rw [f_M_lower_252]
    unfold f_M_lower_252_s
    refine k_if (fun w => ?_) (fun w => ?_)
    · rw [nI_leI (by omega) (by omega)] at w
      have ei : i = q := by omega
      subst ei
      have hq30 : i ≤ n := by
        refine k_pigeon n i (fun j => (M_classOf σ (M_row σ j).toNatClampNeg).toNatClampNeg) ?_ ?_
        · intro k hk
          obtain ⟨p, p8, pt, ep, kp⟩ := hr k hk
          obtain ⟨c, c1, c2, _⟩ := kTyp_named h.1.2.2 pt kp
          show (M_classOf σ (M_row σ k).toNatClampNeg).toNatClampNeg < n
          rw [ep, nI_clamp (by omega), show M_classOf σ p = nI c from c2, nI_clamp (by omega)]; exact c1
        · intro k l hk hl
          obtain ⟨p, p8, pt, ep, kp⟩ := hr k (by omega)
          obtain ⟨c, c1, c2, _⟩ := kTyp_named h.1.2.2 pt kp
          obtain ⟨r, r8, rt, er, kr⟩ := hr l hl
          obtain ⟨e, e1, e2, _⟩ := kTyp_named h.1.2.2 rt kr
          have hne := h3 k l hk hl
          show (M_classOf σ (M_row σ k).toNatClampNeg).toNatClampNeg ≠ (M_classOf σ (M_row σ l).toNatClampNeg).toNatClampNeg
          rw [ep, er, nI_clamp (show p < 2 ^ 31 by omega), nI_clamp (show r < 2 ^ 31 by omega), show M_classOf σ p = nI c from c2, show M_classOf σ r = nI e from e2] at hne ⊢
          rw [nI_clamp (by omega), nI_clamp (by omega)]
          intro y
          apply hne
          rw [y]
      rw [et]
      refine k_bind (s_M_addBoth h.1 (by omega) hr) ?_
      intro r hr'
      refine k_bind (s_M_end h hr' 2) ?_
      intro r' hr''
      exact k_some hr''
    · rw [nI_leI (by omega) (by omega)] at w
      refine s_M_lower_262 h.1 hq hr (by omega) _ (fun v => ⟨t, h⟩) ?_ 1000 0 (by omega) (by omega) (fun l hl => by omega)
      intro hd
      rw [nI_1]
      refine ih (i + 1) (by omega) (by omega) ?_
      intro j l hj hl
      by_cases el : l = i
      · subst el; exact hd j hj
      · exact h3 j l hj (by omega)
theorem s_M_partOf (h : kM σ n t) {a b pa pb : Nat} (ha : a < t) (hb : b < t) (ea : M_partCount σ a = nI pa) (eb : M_partCount σ b = nI pb) {i : Nat} (hi : i < pa + pb) (hpa : pa ≤ 30) (hpb : pb ≤ 30) : k_ok (f_M_partOf σ (nI a) (nI b) (nI i)) (fun r => ∃ p, 8 ≤ p ∧ p < t ∧ r = nI p ∧ M_kind σ p = 1) := by
  have ht := h.2.2.2.1
  have ia : ¬ (nI a < 0 ∨ 300 ≤ (nI a).toNatClampNeg) := nI_in (by omega) (by decide)
  have ca : (nI a).toNatClampNeg = a := nI_clamp (by omega)
  unfold f_M_partOf
  refine k_guard ia ?_
  rw [ca, ea]
  refine k_if (fun w => ?_) (fun w => ?_)
  · rw [nI_leI (by omega) (by omega)] at w
    have e : 30 * nI b + nI i - nI pa = nI (30 * b + i - pa) := by rw [k_30ix, k_sub (by omega)]
    rw [e]
    obtain ⟨m, m1, m2, m3⟩ := kTyp_part h.2.2 hb
    rw [show M_partCount σ b = nI m from m2, nI_eq (by omega) (by omega)] at eb
    subst eb
    obtain ⟨p, p1, p2, p3, p4⟩ := m3 (i - pa) (by omega)
    have cl : (nI (30 * b + i - pa)).toNatClampNeg = 30 * b + (i - pa) := by rw [nI_clamp (by omega)]; omega
    have ia' : ¬ (nI a < 0 ∨ 300 ≤ a) := by rw [ca] at ia; exact ia
    refine k_guard ia' (k_guard (nI_in (by omega) (by decide)) (k_some ⟨p, p1, by omega, ?_, p4⟩))
    rw [cl]; exact p3
  · rw [nI_leI (by omega) (by omega)] at w
    obtain ⟨m, m1, m2, m3⟩ := kTyp_part h.2.2 ha
    rw [show M_partCount σ a = nI m from m2, nI_eq (by omega) (by omega)] at ea
    subst ea
    obtain ⟨p, p1, p2, p3, p4⟩ := m3 i (by omega)
    have cl : (30 * nI a + nI i).toNatClampNeg = 30 * a + i := by rw [k_30ix]; exact nI_clamp (by omega)
    refine k_guard (by rw [k_30ix]; exact nI_in (by omega) (by decide)) (k_some ⟨p, p1, by omega, ?_, p4⟩)
    rw [cl]; exact p3
theorem s_M_lower_147 (h : kM σ n t) {a b pa pb : Nat} (ha : a < t) (hb : b < t) (ea : M_partCount σ a = nI pa) (eb : M_partCount σ b = nI pb) (hpa : pa ≤ 30) (hpb : pb ≤ 30) {i q p : Nat} (hq : q ≤ i) (hi : i < pa + pb) (hp8 : 8 ≤ p) (hpt : p < t) (hkp : M_kind σ p = 1)
    (k125 : StM → Int32 → Int32 → Int32 → Int32 → Int32 → Option (Int32 × StM)) {Q : Int32 × StM → Prop} {ρ : Nat → Int32} (hr : kRow σ t ρ q)
    (hk : ∀ (ρ' : Nat → Int32) (q' : Nat), q' ≤ i + 1 → kRow σ t ρ' q' → k_ok (k125 (M_set_row σ ρ') (nI a) (nI b) (nI (pa + pb)) (nI q') (nI i + 1)) Q) :
    ∀ (f j : Nat) (x7 : Int32), j ≤ pa + pb → pa + pb < f + j → k_ok (f_M_lower_147 k125 f (M_set_row σ ρ) (nI a) (nI b) (nI (pa + pb)) (nI q) (nI i) (nI p) x7 (nI j)) Q := by
  have ht := h.2.2.2.1
  intro f
  induction f with
  | zero => intro j x7 h1 h2; omega
  | succ f ih =>
    intro j x7 h1 h2
    rw [f_M_lower_147]
    unfold f_M_lower_147_s f_M_lower_213
    refine k_if (fun _ => ?_) (fun w => ?_)
    · refine k_if (fun _ => hk ρ q (by omega) hr) (fun _ => ?_)
      refine k_guard (nI_in (by omega) (by decide)) ?_
      rw [nI_1 q]
      refine hk (upd ρ (nI q).toNatClampNeg (nI p)) (q + 1) (by omega) ?_
      intro l hl
      rw [nI_clamp (show q < 2 ^ 31 by omega)]
      by_cases el : l = q
      · rw [el, k_upds]; exact ⟨p, hp8, hpt, rfl, hkp⟩
      · rw [k_updn el]; exact hr l (by omega)
    · rw [nI_leI (by omega) (by omega)] at w
      have nx : ∀ y : Int32, k_ok (f_M_lower_147 k125 f (M_set_row σ ρ) (nI a) (nI b) (nI (pa + pb)) (nI q) (nI i) (nI p) y (nI j + 1)) Q := by
        intro y
        rw [nI_1]
        exact ih (j + 1) y (by omega) (by omega)
      refine k_bind (s_M_partOf (σ := M_set_row σ ρ) h ha hb ea eb (i := j) (by omega) hpa hpb) ?_
      rintro r6 ⟨r, r8, rt, rfl, _⟩
      have k189 : k_ok (f_M_lower_189 k125 (f_M_lower_147 k125 f) (M_set_row σ ρ) (nI a) (nI b) (nI (pa + pb)) (nI q) (nI i) (nI p) (nI j) (nI r)) Q := by
        unfold f_M_lower_189 f_M_lower_213
        refine k_if (fun _ => nx _) (fun _ => ?_)
        exact k_guard (k_in300 (by omega) (by omega)) (k_if (fun _ => nx _) (fun _ => nx _))
      refine k_if (fun _ => nx _) (fun _ => k_if (fun _ => nx _) (fun _ => ?_))
      exact k_if (fun _ => k_if (fun _ => nx _) (fun _ => k189)) (fun _ => k189)
theorem s_M_lower_125 (h : kN σ n g d t) {a b pa pb : Nat} (ha : a < t) (hb : b < t) (ea : M_partCount σ a = nI pa) (eb : M_partCount σ b = nI pb) (hpa : pa ≤ 30) (hpb : pb ≤ 30) :
    ∀ (f i q : Nat) (ρ : Nat → Int32), i ≤ pa + pb → pa + pb < f + i → q ≤ i → kRow σ t ρ q → k_ok (f_M_lower_125 f (M_set_row σ ρ) (nI a) (nI b) (nI (pa + pb)) (nI q) (nI i)) (kPub n g d) := by
  have ht := h.1.2.2.2.1
  intro f
  induction f with
  | zero => intro i q ρ h1 h2; omega
  | succ f ih =>
    intro i q ρ h1 h2 h3 h4
    rw [f_M_lower_125]
    unfold f_M_lower_125_s
    have hN : kN (M_set_row σ ρ) n g d t := h
    refine k_if (fun _ => s_M_lower_252 hN (by omega) h4 1000 0 (by omega) (by omega) (fun j l _ hl => by omega)) (fun w => ?_)
    rw [nI_leI (by omega) (by omega)] at w
    refine k_bind (s_M_partOf (σ := M_set_row σ ρ) h.1 ha hb ea eb (i := i) (by omega) hpa hpb) ?_
    rintro r5 ⟨p, p8, pt, rfl, kp⟩
    refine s_M_lower_147 h.1 ha hb ea eb hpa hpb h3 (by omega) p8 pt kp _ h4 ?_ 1000 0 1 (by omega) (by omega)
    intro ρ' q' hq' hρ'
    rw [nI_1]
    exact ih (i + 1) q' ρ' (by omega) (by omega) hq' hρ'
theorem s_M_lower (h : kN σ n g d t) (x1 x2 : Int32) : k_ok (f_M_lower σ x1 x2) (kPub n g d) := by
  have ht := h.1.2.2.2.1
  have bad : k_ok (f_M_lower_22 σ x1 x2 1) (kPub n g d) := by
    unfold f_M_lower_22
    refine k_good (fun q => absurd q (by decide)) (fun _ => ?_)
    exact k_if (fun _ => k_some ⟨t, h⟩) (fun q => absurd rfl q)
  unfold f_M_lower f_M_lower_21
  refine k_if (fun _ => bad) (fun w1 => k_if (fun _ => bad) (fun w2 => ?_))
  obtain ⟨a, ha, rfl⟩ := kM_type h.1.2 w1
  obtain ⟨b, hb, rfl⟩ := kM_type h.1.2 w2
  unfold f_M_lower_22
  refine k_good (fun _ => ?_) (fun q => absurd rfl q)
  refine k_if (fun q => absurd q k_10) (fun _ => ?_)
  refine k_bind (s_M_reckonBelow (σ := M_set_code σ 0) h.1) ?_
  rintro ⟨v, τ⟩ ⟨a', h', g', β, ν, e⟩
  replace e : τ = mK (M_set_code σ 0) a' h' g' β ν := e
  have hN : kN τ n g d t := by rw [e]; exact h
  have ia : ¬ (nI a < 0 ∨ 300 ≤ (nI a).toNatClampNeg) := nI_in (by omega) (by decide)
  have ib : ¬ (nI b < 0 ∨ 300 ≤ (nI b).toNatClampNeg) := nI_in (by omega) (by decide)
  have k64 : k_ok (f_M_lower_64 τ (nI a) (nI b)) (kPub n g d) := by
    unfold f_M_lower_64
    exact k_guard (k_in300 (by omega) (by omega)) (k_if (fun _ => k_some ⟨t, hN⟩) (fun _ => k_some ⟨t, hN⟩))
  refine k_guard (k_in300 (by omega) (by omega)) (k_if (fun _ => ?_) (fun _ => k64))
  refine k_guard (k_in300 (by omega) (by omega)) (k_if (fun _ => ?_) (fun _ => k64))
  refine k_guard ia (k_guard ib (k_guard ia (k_if (fun _ => k_some ⟨t, hN⟩) (fun _ => ?_))))
  refine k_guard ib (k_if (fun _ => k_some ⟨t, hN⟩) (fun _ => ?_))
  obtain ⟨pa, pa1, pa2, _⟩ := kTyp_part hN.1.2.2 ha
  obtain ⟨pb, pb1, pb2, _⟩ := kTyp_part hN.1.2.2 hb
  show k_ok (f_M_lower_125 1000 τ (nI a) (nI b) ((M_partCount τ) (nI a).toNatClampNeg + (M_partCount τ) (nI b).toNatClampNeg) 0 0) _
  rw [nI_clamp (show a < 2 ^ 31 by omega), nI_clamp (show b < 2 ^ 31 by omega), show M_partCount τ a = nI pa from pa2, show M_partCount τ b = nI pb from pb2, nI_add]
  exact s_M_lower_125 hN ha hb pa2 pb2 pa1 pb1 1000 0 0 (M_row τ) (by omega) (by omega) (by omega) (fun j hj => by omega)
end
-- part 08.31.M9.lean.txt
/-! The reference: upper, its stack. -/
def mAsk (σ : StM) (h : Nat) (x1 x2 x3 : Int32) : StM := M_set_high (M_set_at (M_set_size (M_set_stage (M_set_deep (M_set_right (M_set_left σ (upd (M_left σ) h x1)) (upd (M_right σ) h x2)) (upd (M_deep σ) h x3)) (upd (M_stage σ) h 0)) (upd (M_size σ) h 0)) (upd (M_at σ) h 0)) (nI (h + 1))
def mAskR (σ : StM) (x1 x2 x3 : Int32) : StM := M_set_high (M_set_at (M_set_size (M_set_stage (M_set_deep (M_set_right (M_set_left σ (upd (M_left σ) (M_high σ).toNatClampNeg x1)) (upd (M_right σ) (M_high σ).toNatClampNeg x2)) (upd (M_deep σ) (M_high σ).toNatClampNeg x3)) (upd (M_stage σ) (M_high σ).toNatClampNeg 0)) (upd (M_size σ) (M_high σ).toNatClampNeg 0)) (upd (M_at σ) (M_high σ).toNatClampNeg 0)) (M_high σ + 1)
def mKeep (σ : StM) (h s c : Nat) (x : Int32) : StM := M_set_at (M_set_size (M_set_parts σ (upd (M_parts σ) (30 * h + s) x)) (upd (M_size σ) h (nI (s + 1)))) (upd (M_at σ) h (nI (c + 1)))
def kA (σ τ : StM) : Prop := M_generics τ = M_generics σ ∧ M_depth τ = M_depth σ ∧ M_classes τ = M_classes σ ∧ M_generic τ = M_generic σ ∧ M_directs τ = M_directs σ ∧ M_directTo τ = M_directTo σ ∧ M_directArg τ = M_directArg σ ∧ M_over τ = M_over σ
def kSt (h : Nat) (σ τ : StM) : Prop := ∀ f, f < h → M_left τ f = M_left σ f ∧ M_right τ f = M_right σ f ∧ M_deep τ f = M_deep σ f ∧ M_stage τ f = M_stage σ f ∧ M_least τ f = M_least σ f ∧ M_at τ f = M_at σ f ∧ M_size τ f = M_size σ f ∧ ∀ k, k < 30 → M_parts τ (30 * f + k) = M_parts σ (30 * f + k)
theorem kA_refl (σ : StM) : kA σ σ := ⟨rfl, rfl, rfl, rfl, rfl, rfl, rfl, rfl⟩
theorem kA_trans {σ τ ρ : StM} (h1 : kA σ τ) (h2 : kA τ ρ) : kA σ ρ := by
  obtain ⟨a1, a2, a3, a4, a5, a6, a7, a8⟩ := h1
  obtain ⟨b1, b2, b3, b4, b5, b6, b7, b8⟩ := h2
  exact ⟨b1.trans a1, b2.trans a2, b3.trans a3, b4.trans a4, b5.trans a5, b6.trans a6, b7.trans a7, b8.trans a8⟩
theorem kSt_refl (h : Nat) (σ : StM) : kSt h σ σ := fun _ _ => ⟨rfl, rfl, rfl, rfl, rfl, rfl, rfl, fun _ _ => rfl⟩
theorem kSt_trans {h h' : Nat} {σ τ ρ : StM} (h1 : kSt h σ τ) (h2 : kSt h' τ ρ) (hh : h ≤ h') : kSt h σ ρ := by
  intro f hf
  obtain ⟨a1, a2, a3, a4, a5, a6, a7, a8⟩ := h1 f hf
  obtain ⟨b1, b2, b3, b4, b5, b6, b7, b8⟩ := h2 f (by omega)
  exact ⟨b1.trans a1, b2.trans a2, b3.trans a3, b4.trans a4, b5.trans a5, b6.trans a6, b7.trans a7, fun k hk => (b8 k hk).trans (a8 k hk)⟩
def kGo (σ τ : StM) (t h : Nat) : Prop := kA σ τ ∧ kAg t σ τ ∧ kSt h σ τ
theorem kGo_trans {σ τ ρ : StM} {t t' h h' : Nat} (h1 : kGo σ τ t h) (h2 : kGo τ ρ t' h') (ht : t ≤ t') (hh : h ≤ h') : kGo σ ρ t h := ⟨kA_trans h1.1 h2.1, kAg_trans h1.2.1 h2.2.1 ht, kSt_trans h1.2.2 h2.2.2 hh⟩
theorem kGo_mB {σ : StM} {b : StB} {t h : Nat} (ha : kAg t σ (mB σ b)) : kGo σ (mB σ b) t h := ⟨⟨rfl, rfl, rfl, rfl, rfl, rfl, rfl, rfl⟩, ha, kSt_refl h σ⟩
theorem kSees_ag {σ τ : StM} {t i b : Nat} (ho : M_over τ = M_over σ) (ha : kAg t σ τ) (hi : i < t) (h : kSees σ i b) : kSees τ i b := by
  have q := ha i hi
  rcases h with ⟨h1, h2⟩ | ⟨k, m, p, c, h1, h2, h3, h4, h5, h6, h7, h8⟩
  · exact Or.inl ⟨q.1.trans h1, h2⟩
  · refine Or.inr ⟨k, m, p, c, q.2.2.2.2.2.1.trans h1, h2, h3, (q.2.2.2.2.2.2 k (by omega)).trans h4, h5, (ha p (by omega)).2.1.trans h6, h7, ?_⟩
    rw [ho]; exact h8
section
variable {σ : StM} {n t : Nat}
theorem s_M_ask {h : Nat} (e : M_high σ = nI h) (hh : h < 500) (x1 x2 x3 : Int32) : k_ok (f_M_ask σ x1 x2 x3) (fun r => r.2 = mAsk σ h x1 x2 x3) := by
  have ix : ¬ (M_high σ < 0 ∨ 500 ≤ (M_high σ).toNatClampNeg) := by rw [e]; exact nI_in hh (by decide)
  have er : mAskR σ x1 x2 x3 = mAsk σ h x1 x2 x3 := by
    unfold mAskR mAsk
    rw [e, nI_clamp (by omega), nI_1]
  unfold f_M_ask
  refine k_guard ix (k_guard ix (k_guard ix (k_guard ix (k_guard ix (k_guard ix (k_some ?_))))))
  rw [← er]; rfl
theorem s_M_keep {h s c : Nat} (hh : h < 500) (hs : s < 30) (es : M_size σ h = nI s) (ec : M_at σ h = nI c) (x : Int32) : k_ok (f_M_keep σ (nI h) x) (fun r => r.2 = mKeep σ h s c x) := by
  have ix : ¬ (nI h < 0 ∨ 500 ≤ (nI h).toNatClampNeg) := nI_in hh (by decide)
  have ch : (nI h).toNatClampNeg = h := nI_clamp (by omega)
  have ei : 30 * nI h + M_size σ (nI h).toNatClampNeg = nI (30 * h + s) := by rw [ch, es, k_30ix]
  have iy : ¬ ((30 * nI h + M_size σ (nI h).toNatClampNeg) < 0 ∨ 15000 ≤ (30 * nI h + M_size σ (nI h).toNatClampNeg).toNatClampNeg) := by rw [ei]; exact nI_in (by omega) (by decide)
  unfold f_M_keep
  refine k_guard ix (k_guard iy (k_guard ix (k_guard ix (k_guard ix (k_guard ix (k_some ?_))))))
  show M_set_at (M_set_size (M_set_parts σ (upd (M_parts σ) (30 * nI h + M_size σ (nI h).toNatClampNeg).toNatClampNeg x)) (upd (M_size σ) (nI h).toNatClampNeg (M_size σ (nI h).toNatClampNeg + 1))) (upd (M_at σ) (nI h).toNatClampNeg (M_at σ (nI h).toNatClampNeg + 1)) = _
  rw [ei, ch, es, ec, nI_1, nI_1, nI_clamp (by omega)]; rfl
/-- more fuel answers the same -/
theorem up_mono1 {k k' : StM → Int32 → Option (Int32 × StM)} (hk : ∀ (τ : StM) (x : Int32) (r : Int32 × StM), k τ x = some r → k' τ x = some r) {x3 : Int32} {r : Int32 × StM} (h : f_M_upper_50_s k σ x3 = some r) : f_M_upper_50_s k' σ x3 = some r := by
  have bnd : ∀ {o : Option (Int32 × StM)} {f f' : Int32 × StM → Option (Int32 × StM)}, (∀ z r, f z = some r → f' z = some r) → o.bind f = some r → o.bind f' = some r := by
    intro o f f' hf ho
    cases o with
    | none => cases ho
    | some z => exact hf z r ho
  unfold f_M_upper_50_s at h ⊢
  by_cases c1 : M_high σ ≤ 0
  · rw [if_pos c1] at h ⊢; exact h
  rw [if_neg c1] at h ⊢
  by_cases c2 : M_full σ = 0
  · rw [if_pos c2] at h ⊢
    by_cases c3 : M_high σ - 1 < 0 ∨ 500 ≤ (M_high σ - 1).toNatClampNeg
    · rw [if_pos c3] at h; cases h
    rw [if_neg c3] at h ⊢
    by_cases c4 : M_stage σ (M_high σ - 1).toNatClampNeg = 0
    · rw [if_pos c4] at h ⊢
      exact bnd (fun z r hz => hk _ _ _ hz) h
    rw [if_neg c4] at h ⊢
    by_cases c5 : M_stage σ (M_high σ - 1).toNatClampNeg = 1
    · rw [if_pos c5] at h ⊢
      refine bnd (fun z r hz => ?_) h
      cases hq : f_M_tell z.2 z.1 with
      | none => rw [hq] at hz; cases hz
      | some y => rw [hq] at hz; exact hk _ _ _ hz
    rw [if_neg c5] at h ⊢
    by_cases c6 : M_stage σ (M_high σ - 1).toNatClampNeg = 2
    · rw [if_pos c6] at h ⊢
      exact bnd (fun z r hz => hk _ _ _ hz) h
    rw [if_neg c6, if_neg c3, if_neg c3] at h ⊢
    refine bnd (fun z r hz => ?_) h
    cases hq : f_M_keep z.2 (M_high σ - 1) z.1 with
    | none => rw [hq] at hz; cases hz
    | some y => rw [hq] at hz; exact hk _ _ _ hz
  · rw [if_neg c2] at h ⊢; exact h
theorem up_mono : ∀ (f : Nat) (τ : StM) (x : Int32) (r : Int32 × StM), f_M_upper_50 f τ x = some r → f_M_upper_50 (f + 1) τ x = some r := by
  intro f
  induction f with
  | zero => intro τ x r h; cases h
  | succ f ih =>
    intro τ x r h
    rw [f_M_upper_50] at h ⊢
    exact up_mono1 ih h
theorem up_more {f f' : Nat} (hf : f ≤ f') {x : Int32} {Q : Int32 × StM → Prop} (h : k_ok (f_M_upper_50 f σ x) Q) : k_ok (f_M_upper_50 f' σ x) Q := by
  obtain ⟨k, rfl⟩ : ∃ k, f' = f + k := ⟨f' - f, by omega⟩
  induction k with
  | zero => exact h
  | succ k ih =>
    obtain ⟨r, e, hr⟩ := ih (by omega)
    exact ⟨r, up_mono _ _ _ _ e, hr⟩
/-- one turn of the loop, by the stage of the top frame h -/
theorem up_turn {h F : Nat} {x : Int32} {Q : Int32 × StM → Prop} (e : M_high σ = nI (h + 1)) (hh : h < 500) (hf : M_full σ = 0)
    (h0 : M_stage σ h = 0 → k_ok ((f_M_begin σ (nI h)).bind fun r => f_M_upper_50 F r.2 x) Q)
    (h1 : M_stage σ h = 1 → k_ok ((f_M_addArray σ (M_answer σ)).bind fun r5 => (f_M_tell r5.2 r5.1).bind fun r6 => f_M_upper_50 F r6.2 x) Q)
    (h2 : M_stage σ h = 2 → k_ok ((f_M_goOn σ (nI h)).bind fun r => f_M_upper_50 F r.2 x) Q)
    (h3 : ¬ M_stage σ h = 0 → ¬ M_stage σ h = 1 → ¬ M_stage σ h = 2 → k_ok ((f_M_addNamed (M_put_stage σ (nI h) 2) ((M_at (M_put_stage σ (nI h) 2)) (nI h).toNatClampNeg) 2 (M_answer (M_put_stage σ (nI h) 2))).bind fun r8 => (f_M_keep r8.2 (nI h) r8.1).bind fun r9 => f_M_upper_50 F r9.2 x) Q) :
    k_ok (f_M_upper_50 (F + 1) σ x) Q := by
  have e1 : M_high σ - 1 = nI h := by rw [e]; exact nI_pred h
  have ch : (nI h).toNatClampNeg = h := nI_clamp (by omega)
  have ix : ¬ (nI h < 0 ∨ 500 ≤ (nI h).toNatClampNeg) := nI_in hh (by decide)
  rw [f_M_upper_50]
  unfold f_M_upper_50_s
  rw [e1]
  refine k_if (fun q => ?_) (fun _ => ?_)
  · have q2 : nI (h + 1) ≤ nI 0 := by rw [← e]; exact q
    rw [nI_leI (by omega) (by decide)] at q2
    omega
  refine k_if (fun _ => ?_) (fun q => absurd hf q)
  refine k_guard ix ?_
  refine k_if (fun q => h0 (by rw [ch] at q; exact q)) (fun q0 => ?_)
  refine k_if (fun q => h1 (by rw [ch] at q; exact q)) (fun q1 => ?_)
  refine k_if (fun q => h2 (by rw [ch] at q; exact q)) (fun q2 => ?_)
  rw [ch] at q0 q1 q2
  exact k_guard ix (k_guard ix (h3 q0 q1 q2))
/-- a bound is told: frames below h as they were, its type in answer -/
def kDone (n : Nat) (σ : StM) (t h : Nat) (w : Prop) (σ' : StM) : Prop := kGo σ σ' t h ∧ (M_full σ' = 0 → ∃ t' v, t ≤ t' ∧ kM σ' n t' ∧ M_high σ' = nI h ∧ M_answer σ' = nI v ∧ v < t' ∧ (w → 8 ≤ v))
/-- frame h at stage 2 or 3: class c is next, s PARTS are there -/
def kFr (n : Nat) (σ : StM) (t h a b d c s : Nat) : Prop :=
  kM σ n t ∧ M_full σ = 0 ∧ M_high σ = nI (h + 1) ∧ (M_left σ h = nI a ∧ M_right σ h = nI b ∧ 8 ≤ a ∧ a < t ∧ 8 ≤ b ∧ b < t) ∧ M_deep σ h = nI d ∧
  (∀ e, e < 32 → bt (M_least σ h) e = true → e < n ∧ kSees σ a e ∧ kSees σ b e) ∧ M_at σ h = nI c ∧ c ≤ n ∧ M_size σ h = nI s ∧ s ≤ c ∧
  (∀ k, k < s → ∃ p, 8 ≤ p ∧ p < t ∧ M_parts σ (30 * h + k) = nI p ∧ M_kind σ p = 1)
theorem kFr_go {τ : StM} {t' h a b d c s : Nat} (h0 : kFr n σ t h a b d c s) (hc : c ≤ 30) (hg : kGo σ τ t (h + 1)) (ht : t ≤ t') (hM : kM τ n t') (hf : M_full τ = 0) (hh : M_high τ = nI (h + 1)) : kFr n τ t' h a b d c s := by
  obtain ⟨q1, q2, q3, ⟨q4, q5, q6, q7, q8, q9⟩, q10, q11, q12, q13, q14, q15, q16⟩ := h0
  obtain ⟨g1, g2, g3⟩ := hg
  obtain ⟨f1, f2, f3, f4, f5, f6, f7, f8⟩ := g3 h (by omega)
  refine ⟨hM, hf, hh, ⟨f1.trans q4, f2.trans q5, q6, by omega, q8, by omega⟩, f3.trans q10, ?_, f6.trans q12, q13, f7.trans q14, q15, ?_⟩
  · intro e he hb
    rw [f5] at hb
    obtain ⟨w1, w2, w3⟩ := q11 e he hb
    exact ⟨w1, kSees_ag g1.2.2.2.2.2.2.2 g2 q7 w2, kSees_ag g1.2.2.2.2.2.2.2 g2 q9 w3⟩
  · intro k hk
    obtain ⟨p, p1, p2, p3, p4⟩ := q16 k hk
    exact ⟨p, p1, by omega, (f8 k (by omega)).trans p3, (g2 p p2).1.trans p4⟩
end
def kTm : Nat → Nat
  | 0 => 40
  | 1 => 7300
  | _ => 226000
def kTw : Nat → Nat
  | 0 => 1
  | 1 => 242
  | _ => 7502
/-- what is to be shown of a bound to depth d: the run comes to its end, kDone holds there -/
def kUpR (n d : Nat) : Prop := ∀ (m F a b h t : Nat) (σ : StM) (x : Int32) (Q : Int32 × StM → Prop),
  kM σ n t → M_full σ = 0 → M_high σ = nI (h + 1) → M_left σ h = nI a → M_right σ h = nI b → M_deep σ h = nI d → M_stage σ h = 0 → M_size σ h = 0 → M_at σ h = 0 →
  a < t → b < t → M_made σ a = nI m → m ≤ 100 → h + m + 101 * d ≤ 310 →
  (∀ σ', kDone n σ t h (8 ≤ a ∧ 8 ≤ b) σ' → k_ok (f_M_upper_50 F σ' x) Q) → k_ok (f_M_upper_50 (F + (2 * m + kTm d)) σ x) Q
-- part 08.32.M10.lean.txt
/-! The reference: upper runs to its end. -/
theorem kTyp_ge8 {n t : Nat} {gn kd cl hw inn md pc pr : Nat → Int32} (h : kTyp n t gn kd cl hw inn md pc pr) {i : Nat} (hi : i < t) (hk : ¬ kd i = 0) : 8 ≤ i := by
  obtain ⟨_, h1 | h1 | h1 | h1⟩ := h.2.2.1 i hi
  · exact absurd h1.2.1 hk
  · exact h1.1
  · exact h1.1
  · exact h1.1
theorem kDone_trans {n : Nat} {σ τ σ' : StM} {t t' h : Nat} {w w' : Prop} (hg : kGo σ τ t h) (ht : t ≤ t') (hw : w' → w) (h2 : kDone n τ t' h w σ') : kDone n σ t h w' σ' := by
  refine ⟨kGo_trans hg h2.1 ht (Nat.le_refl h), fun q => ?_⟩
  obtain ⟨t2, v, q1, q2, q3, q4, q5, q6⟩ := h2.2 q
  exact ⟨t2, v, by omega, q2, q3, q4, q5, fun z => q6 (hw z)⟩
theorem kXr_trans {n t t' : Nat} {σ : StM} {K K1 : Int32} {r1 r2 : Int32 × StM} (h1 : kXr σ n t K1 r1) (ht : t ≤ t') (h2 : kXr r1.2 n t' K r2) : kXr σ n t K r2 := by
  obtain ⟨⟨b1, e1⟩, a1, _⟩ := h1
  obtain ⟨⟨b2, e2⟩, a2, f2⟩ := h2
  refine ⟨⟨b2, by rw [e2, e1]; rfl⟩, kAg_trans a1 a2 ht, fun q => ?_⟩
  obtain ⟨i, t2, q1, q2⟩ := f2 q
  exact ⟨i, t2, by omega, q2⟩
section
variable {σ : StM} {n t : Nat}
theorem up_keep {h a b d c s F : Nat} {x : Int32} {Q : Int32 × StM → Prop} (hF : kFr n σ t h a b d c s) (hc : c < n) (hh : h < 500) {r : Int32 × StM} (hr : kXr σ n t 1 r)
    (hnext : ∀ (τ : StM) (t' : Nat), t ≤ t' → kGo σ τ t h → M_stage τ h = M_stage σ h → kFr n τ t' h a b d (c + 1) (s + 1) → k_ok (f_M_upper_50 F τ x) Q)
    (hfull : ∀ τ : StM, kGo σ τ t h → ¬ M_full τ = 0 → k_ok (f_M_upper_50 F τ x) Q) :
    k_ok (f_M_keep r.2 (nI h) r.1) (fun r9 => k_ok (f_M_upper_50 F r9.2 x) Q) := by
  obtain ⟨v, ρ⟩ := r
  obtain ⟨⟨bb, eb⟩, ha, hf⟩ := hr
  replace eb : ρ = mB σ bb := eb
  replace ha : kAg t σ ρ := ha
  have hn := hF.1.1.2.2.1
  have hFr := hF
  obtain ⟨q1, q2, q3, ⟨q4, q5, q6, q7, q8, q9⟩, q10, q11, q12, q13, q14, q15, q16⟩ := hF
  have es : M_size ρ h = nI s := by rw [eb]; exact q14
  have ea : M_at ρ h = nI c := by rw [eb]; exact q12
  refine k_mono (s_M_keep hh (show s < 30 by omega) es ea v) ?_
  rintro ⟨v9, τ⟩ eτ
  replace eτ : τ = mKeep ρ h s c v := eτ
  have hgo : kGo σ τ t h := by
    refine ⟨?_, ?_, ?_⟩
    · rw [eτ, eb]; exact ⟨rfl, rfl, rfl, rfl, rfl, rfl, rfl, rfl⟩
    · rw [eτ]; exact ha
    · intro f hf
      rw [eτ, eb]
      refine ⟨rfl, rfl, rfl, rfl, rfl, ?_, ?_, ?_⟩
      · show upd (M_at σ) h (nI (c + 1)) f = _; exact k_u hf
      · show upd (M_size σ) h (nI (s + 1)) f = _; exact k_u hf
      · intro k hk
        show upd (M_parts σ) (30 * h + s) v (30 * f + k) = _
        exact k_u (by omega)
  by_cases hfl : M_full τ = 0
  · have hfl' : M_full ρ = 0 := by rw [eτ] at hfl; exact hfl
    obtain ⟨i, t', z1, z2, z3, z4, z5⟩ := hf hfl'
    replace z2 : kM ρ n t' := z2
    replace z3 : v = nI i := z3
    replace z5 : M_kind ρ i = 1 := z5
    have i8 : 8 ≤ i := kTyp_ge8 z2.2.2 z4 (by rw [z5]; decide)
    refine hnext τ t' z1 hgo (by rw [eτ, eb]; rfl) ?_
    refine ⟨by rw [eτ]; exact z2, hfl, by rw [eτ, eb]; exact q3, ⟨by rw [eτ, eb]; exact q4, by rw [eτ, eb]; exact q5, q6, by omega, q8, by omega⟩, by rw [eτ, eb]; exact q10, ?_, ?_, by omega, ?_, by omega, ?_⟩
    · intro e he hb
      have hb' : bt (M_least σ h) e = true := by rw [eτ, eb] at hb; exact hb
      obtain ⟨w1, w2, w3⟩ := q11 e he hb'
      exact ⟨w1, kSees_ag hgo.1.2.2.2.2.2.2.2 hgo.2.1 q7 w2, kSees_ag hgo.1.2.2.2.2.2.2.2 hgo.2.1 q9 w3⟩
    · rw [eτ]; show upd (M_at ρ) h (nI (c + 1)) h = _; exact k_upds
    · rw [eτ]; show upd (M_size ρ) h (nI (s + 1)) h = _; exact k_upds
    · intro k hk
      have ek : M_kind τ = M_kind ρ := by rw [eτ]; rfl
      have ep : M_parts τ = upd (M_parts ρ) (30 * h + s) v := by rw [eτ]; rfl
      rw [ek, ep]
      by_cases e : k = s
      · subst e
        exact ⟨i, i8, z4, by rw [k_upds]; exact z3, z5⟩
      · obtain ⟨p, p1, p2, p3, p4⟩ := q16 k (by omega)
        refine ⟨p, p1, by omega, ?_, (ha p p2).1.trans p4⟩
        rw [k_updn (by omega), eb]; exact p3
  · exact hfull τ hgo hfl
theorem kFr_at {h a b d c c' s : Nat} {α : Nat → Int32} (h0 : kFr n σ t h a b d c s) (hα : α h = nI c') (h1 : c ≤ c') (h2 : c' ≤ n) : kFr n (M_set_at σ α) t h a b d c' s := by
  obtain ⟨q1, q2, q3, q4, q10, q11, q12, q13, q14, q15, q16⟩ := h0
  exact ⟨q1, q2, q3, q4, q10, q11, hα, h2, q14, by omega, q16⟩
theorem kSt_at {h : Nat} {α : Nat → Int32} (hα : ∀ g, g < h → α g = M_at σ g) : kSt h σ (M_set_at σ α) := by
  intro g hg
  exact ⟨rfl, rfl, rfl, rfl, rfl, hα g hg, rfl, fun _ _ => rfl⟩
theorem up_skip {h a b d s c0 : Nat} (hF : kFr n σ t h a b d c0 s) (hh : h < 500) (hn : n ≤ 30) {Q : Int32 × StM → Prop}
    (hk : ∀ (c : Nat) (α : Nat → Int32), c0 ≤ c → kFr n (M_set_at σ α) t h a b d c s → kSt h σ (M_set_at σ α) → (c = n ∨ bt (M_least σ h) c = true) → k_ok (f_M_goOn_44 (M_set_at σ α) (nI h)) Q) :
    ∀ (f c : Nat) (α : Nat → Int32), c0 ≤ c → c ≤ n → n < f + c → α h = nI c → (∀ g, g < h → α g = M_at σ g) → k_ok (f_M_goOn_0 f (M_set_at σ α) (nI h)) Q := by
  have ix : ¬ (nI h < 0 ∨ 500 ≤ (nI h).toNatClampNeg) := nI_in hh (by decide)
  have ch : (nI h).toNatClampNeg = h := nI_clamp (by omega)
  have en0 : M_classes σ = nI n := hF.1.1.1
  intro f
  induction f with
  | zero => intro c α h0 h1 h2; omega
  | succ f ih =>
    intro c α h0 hcn h1 h2 h3
    rw [f_M_goOn_0]
    unfold f_M_goOn_0_s
    refine k_guard ix ?_
    rw [ch, show M_at (M_set_at σ α) = α from rfl, show M_least (M_set_at σ α) = M_least σ from rfl, show M_classes (M_set_at σ α) = M_classes σ from rfl, h2, en0]
    refine k_if (fun q => ?_) (fun q => ?_)
    · rw [nI_leI (by omega) (by omega)] at q
      exact hk c α h0 (kFr_at hF h2 h0 hcn) (kSt_at h3) (Or.inl (by omega))
    · rw [nI_leI (by omega) (by omega)] at q
      have ix' : ¬ (nI h < 0 ∨ 500 ≤ h) := by rw [ch] at ix; exact ix
      refine k_guard ix' (k_guard ix' (k_if (fun w => ?_) (fun w => ?_)))
      · refine k_guard ix' (k_guard ix' ?_)
        have e : M_put_at (M_set_at σ α) (nI h) (nI c + 1) = M_set_at σ (upd α h (nI (c + 1))) := by
          rw [nI_1]
          show M_set_at σ (upd α (nI h).toNatClampNeg (nI (c + 1))) = _
          rw [ch]
        rw [e]
        exact ih (c + 1) (upd α h (nI (c + 1))) (by omega) (by omega) (by omega) k_upds (fun g hg => (k_u hg).trans (h3 g hg))
      · refine hk c α h0 (kFr_at hF h2 h0 hcn) (kSt_at h3) (Or.inr ?_)
        cases hb : bt (M_least σ h) c with
        | true => rfl
        | false => exact absurd ((k_bit0 (M_least σ h) c (by omega)).mpr hb) w
theorem up_finish {h a b d s F : Nat} {x : Int32} {Q : Int32 × StM → Prop} (hF : kFr n σ t h a b d n s) (hh : h < 500)
    (hk : ∀ σ', kDone n σ t h True σ' → k_ok (f_M_upper_50 F σ' x) Q) :
    ∀ (f k : Nat) (ρ : Nat → Int32), k ≤ s → s < f + k → (∀ j, j < k → ρ j = M_parts σ (30 * h + j)) → k_ok (f_M_goOn_59 f (M_set_row σ ρ) (nI h) (nI k)) (fun r => k_ok (f_M_upper_50 F r.2 x) Q) := by
  have hn := hF.1.1.2.2.1
  have ht := hF.1.2.2.2.1
  have ix : ¬ (nI h < 0 ∨ 500 ≤ (nI h).toNatClampNeg) := nI_in hh (by decide)
  have ch : (nI h).toNatClampNeg = h := nI_clamp (by omega)
  obtain ⟨q1, q2, q3, q4, q10, q11, q12, q13, q14, q15, q16⟩ := hF
  intro f
  induction f with
  | zero => intro k ρ h1 h2; omega
  | succ f ih =>
    intro k ρ h1 h2 h3
    rw [f_M_goOn_59]
    unfold f_M_goOn_59_s f_M_goOn_133
    refine k_guard ix ?_
    rw [ch, show M_size (M_set_row σ ρ) h = nI s from q14]
    have ix' : ¬ (nI h < 0 ∨ 500 ≤ h) := by rw [ch] at ix; exact ix
    have hpred : M_high σ - 1 = nI h := by rw [q3]; exact nI_pred h
    refine k_if (fun w => ?_) (fun w => ?_)
    · rw [nI_leI (by omega) (by omega)] at w
      have ek : k = s := by omega
      subst ek
      have hrow : kRow σ t ρ k := by
        intro j hj
        obtain ⟨p, p1, p2, p3, p4⟩ := q16 j hj
        exact ⟨p, p1, p2, (h3 j hj).trans p3, p4⟩
      refine k_guard ix' (k_if (fun w1 => ?_) (fun w1 => ?_))
      · have w2 : nI k = nI 1 := w1
        rw [nI_eq (by omega) (by decide)] at w2
        refine k_guard (by decide) ?_
        obtain ⟨p, p1, p2, p3, p4⟩ := hrow 0 (by omega)
        refine k_some (hk _ ⟨⟨⟨rfl, rfl, rfl, rfl, rfl, rfl, rfl, rfl⟩, kAg_refl t σ, kSt_refl h σ⟩, fun _ => ⟨t, p, Nat.le_refl t, q1, ?_, p3, p2, fun _ => p1⟩⟩)
        exact hpred
      · refine k_if (fun w3 => ?_) (fun w3 => absurd q2 w3)
        refine k_guard ix' ?_
        refine k_bind (s_M_addBoth (σ := M_set_row σ ρ) q1 (show k ≤ 30 by omega) hrow) ?_
        rintro ⟨v, τ⟩ hr
        obtain ⟨⟨bb, eb⟩, ha, hf⟩ := kXr_row hr
        replace eb : τ = mB σ bb := eb
        replace ha : kAg t σ τ := ha
        refine k_some (hk _ ⟨⟨?_, ha, ?_⟩, fun q => ?_⟩)
        · rw [eb]; exact ⟨rfl, rfl, rfl, rfl, rfl, rfl, rfl, rfl⟩
        · rw [eb]; exact kSt_refl h σ
        · obtain ⟨i, t', z1, z2, z3, z4, z5⟩ := hf q
          refine ⟨t', i, z1, z2, ?_, z3, z4, fun _ => kTyp_ge8 (show kMT τ n t' from z2.2).2 z4 (by rw [show M_kind τ i = 3 from z5]; decide)⟩
          show M_high τ - 1 = nI h
          rw [eb]; exact hpred
    · rw [nI_leI (by omega) (by omega)] at w
      have iy : ¬ ((30 * nI h + nI k) < 0 ∨ 15000 ≤ (30 * nI h + nI k).toNatClampNeg) := by rw [k_30ix]; exact nI_in (by omega) (by decide)
      have cl : (30 * nI h + nI k).toNatClampNeg = 30 * h + k := by rw [k_30ix]; exact nI_clamp (by omega)
      refine k_guard iy (k_guard (nI_in (by omega) (by decide)) ?_)
      rw [nI_1]
      refine ih (k + 1) (upd ρ (nI k).toNatClampNeg ((M_parts (M_set_row σ ρ)) (30 * nI h + nI k).toNatClampNeg)) (by omega) (by omega) ?_
      intro j hj
      rw [nI_clamp (show k < 2 ^ 31 by omega), cl]
      by_cases e : j = k
      · subst e; rw [k_upds]
      · rw [k_updn e]; exact h3 j (by omega)
end
theorem kTw_eq {d : Nat} (h0 : 0 < d) (h2 : d ≤ 2) : kTw d = 202 + kTm (d - 1) := by
  rcases (show d = 1 ∨ d = 2 by omega) with e | e
  · subst e; rfl
  · subst e; rfl
theorem kTw_pos (d : Nat) : 1 ≤ kTw d := by
  unfold kTw
  split <;> decide
section
variable {σ : StM} {n t : Nat}
theorem up_44n {h a b d s F : Nat} {x : Int32} {Q : Int32 × StM → Prop} (hF : kFr n σ t h a b d n s) (hh : h < 500)
    (hk : ∀ σ', kDone n σ t h True σ' → k_ok (f_M_upper_50 F σ' x) Q) : k_ok (f_M_goOn_44 σ (nI h)) (fun r => k_ok (f_M_upper_50 F r.2 x) Q) := by
  have hn := hF.1.1.2.2.1
  have ix : ¬ (nI h < 0 ∨ 500 ≤ (nI h).toNatClampNeg) := nI_in hh (by decide)
  have ch : (nI h).toNatClampNeg = h := nI_clamp (by omega)
  have hs : s ≤ n := hF.2.2.2.2.2.2.2.2.2.1
  have hat : M_at σ h = nI n := hF.2.2.2.2.2.2.1
  unfold f_M_goOn_44
  refine k_guard ix ?_
  rw [ch, hat, show M_classes σ = nI n from hF.1.1.1]
  refine k_if (fun _ => ?_) (fun q => absurd rfl q)
  exact up_finish hF hh hk 1000 0 (M_row σ) (by omega) (by omega) (fun j hj => by omega)
/-- the next class is generic, and no one ARGUMENT holds both: a bound's bound -/
theorem up_237 {h a b d c s R : Nat} {x : Int32} {Q : Int32 × StM → Prop} (hd : d ≤ 2) (hrec : 0 < d → kUpR n (d - 1)) (hF : kFr n σ t h a b d c s) (hc : c < n) (hgc : M_generic σ c = 1) (hst : M_stage σ h = 2) (hb : h + 101 * d ≤ 309)
    {g1 g2 : Nat} (h8 : 8 ≤ g1) (ht1 : g1 < t) (h82 : 8 ≤ g2) (ht2 : g2 < t) (hft : M_foundType σ = nI g2)
    (hnext : ∀ (τ : StM) (t' : Nat), t ≤ t' → kGo σ τ t h → M_stage τ h = 2 → kFr n τ t' h a b d (c + 1) (s + 1) → k_ok (f_M_upper_50 R τ x) Q)
    (hfull : ∀ τ : StM, kGo σ τ t h → ¬ M_full τ = 0 → k_ok (f_M_upper_50 R τ x) Q) :
    k_ok (f_M_goOn_237 σ (nI h) (nI c) (nI g1)) (fun r => k_ok (f_M_upper_50 (R + (kTw d - 1)) r.2 x) Q) := by
  have hn := hF.1.1.2.2.1
  have ht := hF.1.2.2.2.1
  have ix : ¬ (nI h < 0 ∨ 500 ≤ (nI h).toNatClampNeg) := nI_in (by omega) (by decide)
  have ch : (nI h).toNatClampNeg = h := nI_clamp (by omega)
  have edp : M_deep σ h = nI d := hF.2.2.2.2.1
  unfold f_M_goOn_237
  refine k_guard ix ?_
  rw [ch, edp]
  refine k_if (fun w => ?_) (fun w => ?_)
  · refine k_bind (s_M_addNamed (σ := σ) (c := 0) (x3 := 0) (x4 := -1) hF.1 (by omega) (Or.inl ⟨hF.1.1.2.2.2.1 0 (by omega), rfl, rfl⟩)) ?_
    intro r4 hr4
    refine k_bind (P := kXr σ n t 1) ?_ ?_
    · by_cases hfl : M_full r4.2 = 0
      · obtain ⟨i, t', z1, z2, z3, z4, z5⟩ := hr4.2.2 hfl
        obtain ⟨b4, e4⟩ := hr4.1
        rw [z3]
        refine k_mono (s_M_addNamed (σ := r4.2) (x3 := 2) (x4 := nI i) z2 hc (Or.inr ⟨?_, Or.inr rfl, i, kTyp_ge8 z2.2.2 z4 (by rw [z5]; decide), z4, rfl⟩)) ?_
        · rw [e4]; exact hgc
        · intro r5 hr5
          exact kXr_trans hr4 z1 hr5
      · unfold f_M_addNamed
        refine k_if (fun q => absurd q hfl) (fun _ => k_some ?_)
        exact ⟨hr4.1, hr4.2.1, fun q => absurd q hfl⟩
    · intro r5 hr5
      refine k_bind (up_keep (F := R) hF hc (by omega) hr5 (fun τ t' q1 q2 q3 q4 => hnext τ t' q1 q2 (q3.trans hst) q4) hfull) ?_
      intro r6 hr6
      exact k_some (up_more (by omega) hr6)
  · have hd0 : 0 < d := by
      rcases Nat.eq_zero_or_pos d with e | e
      · subst e; exact absurd rfl w
      · exact e
    have ix' : ¬ (nI h < 0 ∨ 500 ≤ h) := by rw [ch] at ix; exact ix
    refine k_guard ix' (k_guard ix' ?_)
    obtain ⟨⟨m, m1, m2, m3⟩, _⟩ := hF.1.2.2.2.2.1 g1 ht1
    have hS : M_put_stage σ (nI h) 3 = M_set_stage σ (upd (M_stage σ) h 3) := by
      show M_set_stage σ (upd (M_stage σ) (nI h).toNatClampNeg 3) = _
      rw [ch]
    rw [hS]
    have e1 : nI d - 1 = nI (d - 1) := k_sub (b := 1) (by omega)
    rw [show M_foundType (M_set_stage σ (upd (M_stage σ) h 3)) = nI g2 from hft, e1]
    refine k_bind (s_M_ask (σ := M_set_stage σ (upd (M_stage σ) h 3)) (h := h + 1) hF.2.2.1 (by omega) (nI g1) (nI g2) (nI (d - 1))) ?_
    rintro ⟨v3, S⟩ eS
    replace eS : S = mAsk (M_set_stage σ (upd (M_stage σ) h 3)) (h + 1) (nI g1) (nI g2) (nI (d - 1)) := eS
    refine k_some ?_
    show k_ok (f_M_upper_50 (R + (kTw d - 1)) S x) Q
    rw [kTw_eq hd0 hd]
    have hSM : kM S n t := by rw [eS]; exact hF.1
    refine up_more (f := (R + 1) + (2 * m + kTm (d - 1))) (by omega) ?_
    refine hrec hd0 m (R + 1) g1 g2 (h + 1) t S x Q hSM (by rw [eS]; exact hF.2.1) (by rw [eS]; rfl) (by rw [eS]; exact k_upds) (by rw [eS]; exact k_upds) (by rw [eS]; exact k_upds) (by rw [eS]; exact k_upds) (by rw [eS]; exact k_upds) (by rw [eS]; exact k_upds) ht1 ht2 (by rw [eS]; exact m3) m2 (by omega) ?_
    intro σ' hD
    -- frame h of S is that of σ, at stage 3
    have hSσ : ∀ f, f < h + 1 → M_left S f = M_left σ f ∧ M_right S f = M_right σ f ∧ M_deep S f = M_deep σ f ∧ M_least S f = M_least σ f ∧ M_at S f = M_at σ f ∧ M_size S f = M_size σ f ∧ ∀ k, k < 30 → M_parts S (30 * f + k) = M_parts σ (30 * f + k) := by
      intro f hf
      rw [eS]
      refine ⟨k_u hf, k_u hf, k_u hf, rfl, k_u hf, k_u hf, fun _ _ => rfl⟩
    have hstS : ∀ f, f < h → M_stage S f = M_stage σ f := by
      intro f hf
      rw [eS]
      show upd (upd (M_stage σ) h 3) (h + 1) 0 f = _
      rw [k_u (by omega), k_u hf]
    have hst3 : M_stage S h = 3 := by
      rw [eS]
      show upd (upd (M_stage σ) h 3) (h + 1) 0 h = _
      rw [k_u (by omega), k_upds]
    obtain ⟨⟨dA, dG, dS⟩, dF⟩ := hD
    have hA : kA σ σ' := by
      refine kA_trans ?_ dA
      rw [eS]; exact ⟨rfl, rfl, rfl, rfl, rfl, rfl, rfl, rfl⟩
    have hG : kAg t σ σ' := by
      refine kAg_trans (t' := t) ?_ dG (Nat.le_refl t)
      rw [eS]; exact kAg_refl t σ
    have hgo : kGo σ σ' t h := by
      refine ⟨hA, hG, ?_⟩
      intro f hf
      obtain ⟨a1, a2, a3, a5, a6, a7, a8⟩ := hSσ f (by omega)
      obtain ⟨b1, b2, b3, b4, b5, b6, b7, b8⟩ := dS f (by omega)
      exact ⟨b1.trans a1, b2.trans a2, b3.trans a3, b4.trans (hstS f hf), b5.trans a5, b6.trans a6, b7.trans a7, fun k hk => (b8 k hk).trans (a8 k hk)⟩
    by_cases hfl : M_full σ' = 0
    · obtain ⟨t', v, z1, z2, z3, z4, z5, z6⟩ := dF hfl
      have z8 := z6 ⟨h8, h82⟩
      have hF' : kFr n σ' t' h a b d c s := by
        obtain ⟨q1, q2, q3, ⟨q4, q5, q6, q7, q8, q9⟩, q10, q11, q12, q13, q14, q15, q16⟩ := hF
        obtain ⟨a1, a2, a3, a5, a6, a7, a8⟩ := hSσ h (by omega)
        obtain ⟨f1, f2, f3, f4, f5, f6, f7, f8⟩ := dS h (by omega)
        refine ⟨z2, hfl, z3, ⟨(f1.trans a1).trans q4, (f2.trans a2).trans q5, q6, by omega, q8, by omega⟩, (f3.trans a3).trans q10, ?_, (f6.trans a6).trans q12, q13, (f7.trans a7).trans q14, q15, ?_⟩
        · intro e he hb
          rw [f5, a5] at hb
          obtain ⟨w1, w2, w3⟩ := q11 e he hb
          exact ⟨w1, kSees_ag hA.2.2.2.2.2.2.2 hG q7 w2, kSees_ag hA.2.2.2.2.2.2.2 hG q9 w3⟩
        · intro k hk
          obtain ⟨p, p1, p2, p3, p4⟩ := q16 k hk
          exact ⟨p, p1, by omega, ((f8 k (by omega)).trans (a8 k (by omega))).trans p3, (hG p p2).1.trans p4⟩
      have hst' : M_stage σ' h = 3 := (dS h (by omega)).2.2.2.1.trans hst3
      refine up_turn z3 (by omega) hfl (fun q => by rw [hst'] at q; exact absurd q (by decide)) (fun q => by rw [hst'] at q; exact absurd q (by decide)) (fun q => by rw [hst'] at q; exact absurd q (by decide)) (fun _ _ _ => ?_)
      have hP : M_put_stage σ' (nI h) 2 = M_set_stage σ' (upd (M_stage σ') h 2) := by
        show M_set_stage σ' (upd (M_stage σ') (nI h).toNatClampNeg 2) = _
        rw [ch]
      rw [hP, ch, show M_at (M_set_stage σ' (upd (M_stage σ') h 2)) h = nI c from hF'.2.2.2.2.2.2.1, show M_answer (M_set_stage σ' (upd (M_stage σ') h 2)) = nI v from z4]
      have hF2 : kFr n (M_set_stage σ' (upd (M_stage σ') h 2)) t' h a b d c s := hF'
      have hgo2 : kGo σ (M_set_stage σ' (upd (M_stage σ') h 2)) t h := by
        refine ⟨hA, hG, ?_⟩
        intro f hf
        obtain ⟨b1, b2, b3, b4, b5, b6, b7, b8⟩ := hgo.2.2 f hf
        refine ⟨b1, b2, b3, ?_, b5, b6, b7, b8⟩
        show upd (M_stage σ') h 2 f = _
        rw [k_u hf]; exact b4
      refine k_bind (s_M_addNamed (σ := M_set_stage σ' (upd (M_stage σ') h 2)) (x3 := 2) (x4 := nI v) z2 hc (Or.inr ⟨?_, Or.inr rfl, v, z8, z5, rfl⟩)) ?_
      · show M_generic σ' c = 1
        rw [hA.2.2.2.1]; exact hgc
      intro r8 hr8
      refine k_bind (up_keep (F := R) hF2 hc (by omega) hr8 ?_ ?_) (fun r hr => hr)
      · intro τ t2 q1 q2 q3 q4
        refine hnext τ t2 (by omega) (kGo_trans hgo2 q2 z1 (Nat.le_refl h)) ?_ q4
        rw [q3]; exact k_upds
      · intro τ q1 q2
        exact hfull τ (kGo_trans hgo2 q1 z1 (Nat.le_refl h)) q2
    · exact up_more (by omega) (hfull σ' hgo hfl)
theorem up_44c {h a b d c s R : Nat} {x : Int32} {Q : Int32 × StM → Prop} (hd : d ≤ 2) (hrec : 0 < d → kUpR n (d - 1)) (hF : kFr n σ t h a b d c s) (hc : c < n) (hbit : bt (M_least σ h) c = true) (hst : M_stage σ h = 2) (hb : h + 101 * d ≤ 309)
    (hnext : ∀ (τ : StM) (t' : Nat), t ≤ t' → kGo σ τ t h → M_stage τ h = 2 → kFr n τ t' h a b d (c + 1) (s + 1) → k_ok (f_M_upper_50 R τ x) Q)
    (hfull : ∀ τ : StM, kGo σ τ t h → ¬ M_full τ = 0 → k_ok (f_M_upper_50 R τ x) Q) :
    k_ok (f_M_goOn_44 σ (nI h)) (fun r => k_ok (f_M_upper_50 (R + (kTw d - 1)) r.2 x) Q) := by
  have hn := hF.1.1.2.2.1
  have ht := hF.1.2.2.2.1
  have ix : ¬ (nI h < 0 ∨ 500 ≤ (nI h).toNatClampNeg) := nI_in (by omega) (by decide)
  have ch : (nI h).toNatClampNeg = h := nI_clamp (by omega)
  have cc : (nI c).toNatClampNeg = c := nI_clamp (by omega)
  have ix' : ¬ (nI h < 0 ∨ 500 ≤ h) := by rw [ch] at ix; exact ix
  have hat : M_at σ h = nI c := hF.2.2.2.2.2.2.1
  obtain ⟨el, er, a8, at', b8, bt'⟩ := hF.2.2.2.1
  obtain ⟨_, sa, sb⟩ := hF.2.2.2.2.2.1 c (by omega) hbit
  have keep : ∀ r : Int32 × StM, kXr σ n t 1 r → k_ok ((f_M_keep r.2 (nI h) r.1).bind fun r10 => some ((0 : Int32), r10.2)) (fun r => k_ok (f_M_upper_50 (R + (kTw d - 1)) r.2 x) Q) := by
    intro r hr
    refine k_bind (up_keep (F := R) hF hc (by omega) hr (fun τ t' q1 q2 q3 q4 => hnext τ t' q1 q2 (q3.trans hst) q4) hfull) ?_
    intro r6 hr6
    exact k_some (up_more (by omega) hr6)
  unfold f_M_goOn_44
  refine k_guard ix ?_
  rw [ch, hat, show M_classes σ = nI n from hF.1.1.1]
  refine k_if (fun q => ?_) (fun _ => ?_)
  · rw [nI_eq (by omega) (by omega)] at q; omega
  refine k_guard ix' (k_guard (nI_in (by omega) (by decide)) ?_)
  rw [cc]
  refine k_if (fun w => ?_) (fun w => ?_)
  · exact k_bind (s_M_addNamed (x3 := 0) (x4 := -1) hF.1 hc (Or.inl ⟨w, rfl, rfl⟩)) keep
  · have hgc : M_generic σ c = 1 := by
      rcases (hF.1.1.2.2.2.2 c hc).1 with q | q
      · exact absurd q w
      · exact q
    refine k_guard ix' ?_
    rw [el]
    refine k_bind (s_M_lookAt hF.1 at' hc) ?_
    rintro ⟨v1, τ1⟩ ⟨a1, h1, g1, e1, _, o1, y1⟩
    replace e1 : τ1 = mF σ a1 h1 g1 := e1
    subst e1
    rw [show kBox a = a from if_neg (by omega)] at y1
    have ha1 : a1 = 1 := y1.mpr sa
    replace o1 : kOwn t (M_generic σ c) h1 g1 := o1 ha1
    refine k_guard ix' ?_
    rw [show M_right (mF σ a1 h1 g1) h = nI b from er]
    refine k_bind (s_M_lookAt (σ := mF σ a1 h1 g1) hF.1 bt' hc) ?_
    rintro ⟨v2, τ2⟩ ⟨a2, h2, g2, e2, _, o2, y2⟩
    replace e2 : τ2 = mF σ a2 h2 g2 := e2
    subst e2
    rw [show kBox b = b from if_neg (by omega)] at y2
    have ha2 : a2 = 1 := y2.mpr sb
    replace o2 : kOwn t (M_generic σ c) h2 g2 := o2 ha2
    have hF2 : kFr n (mF σ a2 h2 g2) t h a b d c s := hF
    rcases o1 with ⟨q, _, _⟩ | ⟨_, q1, x1, x18, x1t, ex1⟩
    · rw [hgc] at q; exact absurd q (by decide)
    rcases o2 with ⟨q, _, _⟩ | ⟨_, q2, x2, x28, x2t, ex2⟩
    · rw [hgc] at q; exact absurd q (by decide)
    subst ex1
    subst ex2
    have k237 : k_ok (f_M_goOn_237 (mF σ a2 h2 (nI x2)) (nI h) (nI c) (nI x1)) (fun r => k_ok (f_M_upper_50 (R + (kTw d - 1)) r.2 x) Q) := by
      refine up_237 hd hrec hF2 hc hgc hst hb x18 x1t x28 x2t rfl ?_ ?_
      · intro τ t' z1 z2 z3 z4
        exact hnext τ t' z1 z2 z3 z4
      · intro τ z1 z2
        exact hfull τ z1 z2
    refine k_if (fun w1 => ?_) (fun _ => k237)
    refine k_if (fun w2 => ?_) (fun _ => k237)
    refine k_if (fun w3 => ?_) (fun _ => k237)
    refine k_bind (s_M_addNamed (σ := mF σ a2 h2 (nI x2)) (x3 := 1) (x4 := nI x1) hF.1 hc (Or.inr ⟨hgc, Or.inl rfl, x1, x18, x1t, rfl⟩)) ?_
    intro r7 hr7
    refine k_bind (up_keep (F := R) hF2 hc (by omega) hr7 (fun τ t' q1 q2 q3 q4 => hnext τ t' q1 q2 (q3.trans hst) q4) hfull) ?_
    intro r6 hr6
    exact k_some (up_more (by omega) hr6)
end
theorem up_cls {n d : Nat} (hd : d ≤ 2) (hrec : 0 < d → kUpR n (d - 1)) : ∀ (j c s F a b h t : Nat) (σ : StM) (x : Int32) (Q : Int32 × StM → Prop), n - c ≤ j → kFr n σ t h a b d c s → M_stage σ h = 2 → h + 101 * d ≤ 309 →
    (∀ σ', kDone n σ t h True σ' → k_ok (f_M_upper_50 F σ' x) Q) → k_ok (f_M_upper_50 (F + (1 + j * kTw d)) σ x) Q := by
  have hW := kTw_pos d
  intro j
  induction j with
  | zero =>
    intro c s F a b h t σ x Q hj hF hst hb hk
    have hn := hF.1.1.2.2.1
    have hcn : c ≤ n := hF.2.2.2.2.2.2.2.1
    rw [show F + (1 + 0 * kTw d) = F + 1 by omega]
    refine up_turn hF.2.2.1 (by omega) hF.2.1 (fun q => by rw [hst] at q; exact absurd q (by decide)) (fun q => by rw [hst] at q; exact absurd q (by decide)) (fun _ => ?_) (fun _ _ q => absurd hst q)
    refine k_bind (P := fun r => k_ok (f_M_upper_50 F r.2 x) Q) ?_ (fun r hr => hr)
    unfold f_M_goOn
    refine up_skip hF (by omega) hn ?_ 1000 c (M_at σ) (Nat.le_refl c) hcn (by omega) hF.2.2.2.2.2.2.1 (fun _ _ => rfl)
    intro c' α h0 hF' hS hc'
    have hcn' : c' ≤ n := hF'.2.2.2.2.2.2.2.1
    have ec : c' = n := by omega
    subst ec
    have hgo : kGo σ (M_set_at σ α) t h := ⟨⟨rfl, rfl, rfl, rfl, rfl, rfl, rfl, rfl⟩, kAg_refl t σ, hS⟩
    refine up_44n hF' (by omega) ?_
    intro σ' hD
    exact hk σ' (kDone_trans hgo (Nat.le_refl t) (fun z => z) hD)
  | succ j ih =>
    intro c s F a b h t σ x Q hj hF hst hb hk
    have hn := hF.1.1.2.2.1
    have hcn : c ≤ n := hF.2.2.2.2.2.2.2.1
    have ef : F + (1 + (j + 1) * kTw d) = (F + (1 + j * kTw d) + (kTw d - 1)) + 1 := by
      rw [Nat.add_mul]; omega
    rw [ef]
    refine up_turn hF.2.2.1 (by omega) hF.2.1 (fun q => by rw [hst] at q; exact absurd q (by decide)) (fun q => by rw [hst] at q; exact absurd q (by decide)) (fun _ => ?_) (fun _ _ q => absurd hst q)
    refine k_bind (P := fun r => k_ok (f_M_upper_50 (F + (1 + j * kTw d) + (kTw d - 1)) r.2 x) Q) ?_ (fun r hr => hr)
    unfold f_M_goOn
    refine up_skip hF (by omega) hn ?_ 1000 c (M_at σ) (Nat.le_refl c) hcn (by omega) hF.2.2.2.2.2.2.1 (fun _ _ => rfl)
    intro c' α h0 hF' hS hc'
    have hcn' : c' ≤ n := hF'.2.2.2.2.2.2.2.1
    have hgo : kGo σ (M_set_at σ α) t h := ⟨⟨rfl, rfl, rfl, rfl, rfl, rfl, rfl, rfl⟩, kAg_refl t σ, hS⟩
    by_cases ec : c' = n
    · subst ec
      refine up_44n hF' (by omega) ?_
      intro σ' hD
      exact up_more (f := F) (by omega) (hk σ' (kDone_trans hgo (Nat.le_refl t) (fun z => z) hD))
    · have hbit : bt (M_least σ h) c' = true := by
        rcases hc' with q | q
        · exact absurd q ec
        · exact q
      refine up_44c hd hrec hF' (by omega) hbit hst hb ?_ ?_
      · intro τ t' q1 q2 q3 q4
        refine ih (c' + 1) (s + 1) F a b h t' τ x Q (by omega) q4 q3 hb ?_
        intro σ' hD
        exact hk σ' (kDone_trans (kGo_trans hgo q2 (Nat.le_refl t) (Nat.le_refl h)) q1 (fun z => z) hD)
      · intro τ q1 q2
        exact up_more (f := F) (by omega) (hk τ ⟨kGo_trans hgo q1 (Nat.le_refl t) (Nat.le_refl h), fun q => absurd q q2⟩)
-- part 08.33.M11.lean.txt
/-! The reference: upper. -/
theorem kTm_cls {n d : Nat} (hn : n ≤ 30) (hd : d ≤ 2) : 1 + n * kTw d ≤ kTm d := by
  rcases (show d = 0 ∨ d = 1 ∨ d = 2 by omega) with e | e | e
  · subst e; show 1 + n * 1 ≤ 40; omega
  · subst e; show 1 + n * 242 ≤ 7300; omega
  · subst e; show 1 + n * 7502 ≤ 226000; omega
theorem kBox_8 (i : Nat) : 8 ≤ kBox i := by unfold kBox; split <;> omega
theorem kBox_lt {i t : Nat} (hi : i < t) (ht : 16 ≤ t) : kBox i < t := by unfold kBox; split <;> omega
theorem kBox_id {i : Nat} (h : 8 ≤ i) : kBox i = i := if_neg (by omega)
section
variable {σ : StM} {n t : Nat}
/-- a bound by classes: the frame comes to stage 2 -/
theorem up_174 {h a b d F : Nat} {x : Int32} {Q : Int32 × StM → Prop} (hd : d ≤ 2) (hrec : 0 < d → kUpR n (d - 1)) (hM : kM σ n t) (hf : M_full σ = 0) (hh : M_high σ = nI (h + 1)) (el : M_left σ h = nI a) (er : M_right σ h = nI b) (edp : M_deep σ h = nI d) (esz : M_size σ h = 0) (eat : M_at σ h = 0)
    (a8 : 8 ≤ a) (at' : a < t) (b8 : 8 ≤ b) (bt' : b < t) (hb : h + 101 * d ≤ 309)
    (hk : ∀ σ', kDone n σ t h True σ' → k_ok (f_M_upper_50 F σ' x) Q) :
    k_ok (f_M_begin_174 σ (nI h) (nI a) (nI b)) (fun r => k_ok (f_M_upper_50 (F + kTm d) r.2 x) Q) := by
  have hn := hM.1.2.2.1
  have ix : ¬ (nI h < 0 ∨ 500 ≤ (nI h).toNatClampNeg) := nI_in (by omega) (by decide)
  have ch : (nI h).toNatClampNeg = h := nI_clamp (by omega)
  unfold f_M_begin_174
  refine k_bind (s_M_commonOf hM at' bt') ?_
  rintro ⟨v, τ⟩ ⟨⟨a', h', g', e⟩, hv⟩
  replace e : τ = mF σ a' h' g' := e
  subst e
  replace hv : ∀ c, c < 32 → bt v c = true → c < n ∧ kSees σ (kBox a) c ∧ kSees σ (kBox b) c := hv
  rw [kBox_id a8, kBox_id b8] at hv
  refine k_bind (P := fun r => ∀ c, c < 32 → bt r c = true → bt v c = true) ?_ ?_
  · unfold f_M_leastOf
    exact s_M_leastOf_4 (σ := mF σ a' h' g') hM.1 v 1000 0 v (by omega) (by omega)
  intro r2 hr2
  refine k_guard ix (k_guard ix (k_some ?_))
  show k_ok (f_M_upper_50 (F + kTm d) (M_put_stage (M_put_least (mF σ a' h' g') (nI h) r2) (nI h) 2) x) Q
  have eS : M_put_stage (M_put_least (mF σ a' h' g') (nI h) r2) (nI h) 2 = M_set_stage (M_set_least (mF σ a' h' g') (upd (M_least σ) h r2)) (upd (M_stage σ) h 2) := by
    show M_set_stage (M_set_least (mF σ a' h' g') (upd (M_least σ) (nI h).toNatClampNeg r2)) (upd (M_stage σ) (nI h).toNatClampNeg 2) = _
    rw [ch]
  rw [eS]
  have hgo : kGo σ (M_set_stage (M_set_least (mF σ a' h' g') (upd (M_least σ) h r2)) (upd (M_stage σ) h 2)) t h := by
    refine ⟨⟨rfl, rfl, rfl, rfl, rfl, rfl, rfl, rfl⟩, kAg_refl t σ, ?_⟩
    intro f hf
    refine ⟨rfl, rfl, rfl, k_u hf, k_u hf, rfl, rfl, fun _ _ => rfl⟩
  have hc := kTm_cls hn hd
  refine up_more (f := F + (1 + n * kTw d)) (by omega) ?_
  refine up_cls hd hrec n 0 0 F a b h t _ x Q (by omega) ?_ k_upds hb ?_
  · refine ⟨hM, hf, hh, ⟨el, er, a8, at', b8, bt'⟩, edp, ?_, eat, by omega, esz, by omega, fun k hk => by omega⟩
    intro e he hx
    have hx' : bt (upd (M_least σ) h r2 h) e = true := hx
    rw [k_upds] at hx'
    exact hv e he (hr2 e he hx')
  · intro σ' hD
    exact hk σ' (kDone_trans hgo (Nat.le_refl t) (fun z => z) hD)
end
theorem mAsk_left {σ : StM} {h : Nat} {x1 x2 x3 : Int32} : M_left (mAsk σ h x1 x2 x3) h = x1 := k_upds
theorem mAsk_right {σ : StM} {h : Nat} {x1 x2 x3 : Int32} : M_right (mAsk σ h x1 x2 x3) h = x2 := k_upds
theorem mAsk_deep {σ : StM} {h : Nat} {x1 x2 x3 : Int32} : M_deep (mAsk σ h x1 x2 x3) h = x3 := k_upds
theorem mAsk_stage {σ : StM} {h : Nat} {x1 x2 x3 : Int32} : M_stage (mAsk σ h x1 x2 x3) h = 0 := k_upds
theorem mAsk_size {σ : StM} {h : Nat} {x1 x2 x3 : Int32} : M_size (mAsk σ h x1 x2 x3) h = 0 := k_upds
theorem mAsk_at {σ : StM} {h : Nat} {x1 x2 x3 : Int32} : M_at (mAsk σ h x1 x2 x3) h = 0 := k_upds
theorem mAsk_high {σ : StM} {h : Nat} {x1 x2 x3 : Int32} : M_high (mAsk σ h x1 x2 x3) = nI (h + 1) := rfl
theorem mAsk_kM {σ : StM} {n t h : Nat} {x1 x2 x3 : Int32} (hM : kM σ n t) : kM (mAsk σ h x1 x2 x3) n t := hM
theorem mAsk_full {σ : StM} {h : Nat} {x1 x2 x3 : Int32} : M_full (mAsk σ h x1 x2 x3) = M_full σ := rfl
theorem mAsk_made {σ : StM} {h : Nat} {x1 x2 x3 : Int32} : M_made (mAsk σ h x1 x2 x3) = M_made σ := rfl
theorem mAsk_kA {σ : StM} {h : Nat} {x1 x2 x3 : Int32} : kA σ (mAsk σ h x1 x2 x3) := ⟨rfl, rfl, rfl, rfl, rfl, rfl, rfl, rfl⟩
theorem mAsk_kAg {σ : StM} {t h : Nat} {x1 x2 x3 : Int32} : kAg t σ (mAsk σ h x1 x2 x3) := kAg_refl t σ
theorem mAsk_kSt {σ : StM} {h : Nat} {x1 x2 x3 : Int32} : kSt h σ (mAsk σ h x1 x2 x3) := by
  intro f hf
  exact ⟨k_u hf, k_u hf, k_u hf, k_u hf, rfl, k_u hf, k_u hf, fun _ _ => rfl⟩
theorem mAsk_go {σ : StM} {t h : Nat} {x1 x2 x3 : Int32} : kGo σ (mAsk σ h x1 x2 x3) t h := ⟨mAsk_kA, mAsk_kAg, mAsk_kSt⟩
/-- the bound of two ARRAYS' ELEMENTS, and then their ARRAY: frame h of T stands at stage 1 -/
theorem up_arr {n d m t h F e1 e2 : Nat} {T : StM} {x : Int32} {Q : Int32 × StM → Prop} (hd : d ≤ 2)
    (ih : ∀ (F a b h t : Nat) (σ : StM) (x : Int32) (Q : Int32 × StM → Prop), kM σ n t → M_full σ = 0 → M_high σ = nI (h + 1) → M_left σ h = nI a → M_right σ h = nI b → M_deep σ h = nI d → M_stage σ h = 0 → M_size σ h = 0 → M_at σ h = 0 → a < t → b < t → M_made σ a = nI m → m ≤ 100 → h + m + 101 * d ≤ 310 → (∀ σ', kDone n σ t h (8 ≤ a ∧ 8 ≤ b) σ' → k_ok (f_M_upper_50 F σ' x) Q) → k_ok (f_M_upper_50 (F + (2 * m + kTm d)) σ x) Q)
    (hM : kM T n t) (hf : M_full T = 0) (hh : M_high T = nI (h + 1)) (hst : M_stage T h = 1) (t1 : e1 < t) (t2 : e2 < t) (em : M_made T e1 = nI m) (hm : m ≤ 100) (hb : h + 1 + m + 101 * d ≤ 310)
    (hk : ∀ σ', kDone n T t h True σ' → k_ok (f_M_upper_50 F σ' x) Q) :
    k_ok ((f_M_ask T (nI e1) (nI e2) (nI d)).bind fun r3 => some ((0 : Int32), r3.2)) (fun r => k_ok (f_M_upper_50 (F + 1 + (2 * m + kTm d)) r.2 x) Q) := by
  have hl : h < 500 := by omega
  refine k_bind (s_M_ask (σ := T) (h := h + 1) hh (by omega) (nI e1) (nI e2) (nI d)) ?_
  rintro ⟨v3, S⟩ eS
  replace eS : S = mAsk T (h + 1) (nI e1) (nI e2) (nI d) := eS
  refine k_some ?_
  show k_ok (f_M_upper_50 (F + 1 + (2 * m + kTm d)) S x) Q
  have go : kGo T S t (h + 1) := by rw [eS]; exact mAsk_go
  refine ih (F + 1) e1 e2 (h + 1) t S x Q (by rw [eS]; exact mAsk_kM hM) (by rw [eS, mAsk_full]; exact hf) (by rw [eS]; exact mAsk_high) (by rw [eS]; exact mAsk_left) (by rw [eS]; exact mAsk_right) (by rw [eS]; exact mAsk_deep) (by rw [eS]; exact mAsk_stage) (by rw [eS]; exact mAsk_size) (by rw [eS]; exact mAsk_at) t1 t2 (by rw [eS, mAsk_made]; exact em) hm (by omega) ?_
  clear eS
  intro σ' hD
  obtain ⟨dgo, dF⟩ := hD
  have hgo1 : kGo T σ' t (h + 1) := kGo_trans go dgo (Nat.le_refl t) (Nat.le_refl (h + 1))
  have hgo : kGo T σ' t h := ⟨hgo1.1, hgo1.2.1, fun f hf => hgo1.2.2 f (by omega)⟩
  by_cases hfl : M_full σ' = 0
  · obtain ⟨t', v, z1, z2, z3, z4, z5, _⟩ := dF hfl
    have hst' : M_stage σ' h = 1 := (hgo1.2.2 h (by omega)).2.2.2.1.trans hst
    refine up_turn z3 hl hfl (fun q => by rw [hst'] at q; exact absurd q (by decide)) (fun _ => ?_) (fun q => by rw [hst'] at q; exact absurd q (by decide)) (fun _ q => absurd hst' q)
    rw [z4]
    refine k_bind (s_M_addArray (σ := σ') z2 z5) ?_
    rintro ⟨v5, τ⟩ hr
    obtain ⟨⟨bb, eb⟩, ha, hff⟩ := hr
    replace eb : τ = mB σ' bb := eb
    replace ha : kAg t' σ' τ := ha
    have gτ : kGo σ' τ t' h := by rw [eb] at ha ⊢; exact kGo_mB ha
    have eh : M_high τ = nI (h + 1) := by rw [eb]; exact z3
    have eh1 : M_high τ - 1 = nI h := by rw [eh]; exact nI_pred h
    clear eb
    refine k_bind (P := fun r => r.2 = M_set_high (M_set_answer τ v5) (M_high τ - 1)) (k_some rfl) ?_
    rintro ⟨v6, τ6⟩ e6
    replace e6 : τ6 = M_set_high (M_set_answer τ v5) (M_high τ - 1) := e6
    have g6 : kGo τ τ6 t' h := by
      rw [e6]
      exact ⟨⟨rfl, rfl, rfl, rfl, rfl, rfl, rfl, rfl⟩, kAg_refl t' τ, kSt_refl h τ⟩
    refine hk τ6 ⟨kGo_trans hgo (kGo_trans gτ g6 (Nat.le_refl t') (Nat.le_refl h)) z1 (Nat.le_refl h), fun q => ?_⟩
    have q' : M_full τ = 0 := by rw [e6] at q; exact q
    obtain ⟨i, t2', y1, y2, y3, y4, y5⟩ := hff q'
    replace y2 : kM τ n t2' := y2
    replace y3 : v5 = nI i := y3
    replace y5 : M_kind τ i = 2 := y5
    refine ⟨t2', i, by omega, by rw [e6]; exact y2, ?_, ?_, y4, fun _ => kTyp_ge8 y2.2.2 y4 (by rw [y5]; decide)⟩
    · rw [e6]; exact eh1
    · rw [e6]; exact y3
  · exact up_more (f := F) (by omega) (hk σ' ⟨hgo, fun q => absurd q hfl⟩)
/-- a frame with its ends in boxes, in S -/
theorem up_85 {n d m t h F a b : Nat} {σ S : StM} {x : Int32} {Q : Int32 × StM → Prop} (hd : d ≤ 2) (hrec : 0 < d → kUpR n (d - 1))
    (ih : ∀ (F a b h t : Nat) (σ : StM) (x : Int32) (Q : Int32 × StM → Prop), kM σ n t → M_full σ = 0 → M_high σ = nI (h + 1) → M_left σ h = nI a → M_right σ h = nI b → M_deep σ h = nI d → M_stage σ h = 0 → M_size σ h = 0 → M_at σ h = 0 → a < t → b < t → M_made σ a = nI m → m ≤ 100 → h + m + 101 * d ≤ 310 → (∀ σ', kDone n σ t h (8 ≤ a ∧ 8 ≤ b) σ' → k_ok (f_M_upper_50 F σ' x) Q) → k_ok (f_M_upper_50 (F + (2 * m + kTm d)) σ x) Q)
    (eS : M_put_right (M_put_left σ (nI h) (nI a)) (nI h) (nI b) = S) (hM : kM S n t) (hf : M_full S = 0) (hh : M_high S = nI (h + 1)) (el : M_left S h = nI a) (er : M_right S h = nI b) (edp : M_deep S h = nI d) (esz : M_size S h = 0) (eat : M_at S h = 0)
    (a8 : 8 ≤ a) (ta : a < t) (b8 : 8 ≤ b) (tb : b < t) (em : M_kind S a = 2 → M_made S a = nI (m + 1)) (hm : m < 100) (hb : h + (m + 1) + 101 * d ≤ 310)
    (hk : ∀ σ', kDone n S t h True σ' → k_ok (f_M_upper_50 F σ' x) Q) :
    k_ok (f_M_begin_85 σ (nI h) (nI a) (nI b)) (fun r => k_ok (f_M_upper_50 (F + 1 + (2 * m + kTm d)) r.2 x) Q) := by
  have ht := hM.2.2.2.1
  have ix : ¬ (nI h < 0 ∨ 500 ≤ (nI h).toNatClampNeg) := nI_in (by omega) (by decide)
  have ch : (nI h).toNatClampNeg = h := nI_clamp (by omega)
  have ia : ¬ (nI a < 0 ∨ 300 ≤ (nI a).toNatClampNeg) := nI_in (by omega) (by decide)
  have ib : ¬ (nI b < 0 ∨ 300 ≤ (nI b).toNatClampNeg) := nI_in (by omega) (by decide)
  have ca : (nI a).toNatClampNeg = a := nI_clamp (by omega)
  have cb : (nI b).toNatClampNeg = b := nI_clamp (by omega)
  have ia' : ¬ (nI a < 0 ∨ 300 ≤ a) := by rw [ca] at ia; exact ia
  have ib' : ¬ (nI b < 0 ∨ 300 ≤ b) := by rw [cb] at ib; exact ib
  have k174 : k_ok (f_M_begin_174 S (nI h) (nI a) (nI b)) (fun r => k_ok (f_M_upper_50 (F + 1 + (2 * m + kTm d)) r.2 x) Q) := by
    refine k_mono (up_174 (F := F) (x := x) (Q := Q) (d := d) hd hrec hM hf hh el er edp esz eat a8 ta b8 tb (by omega) hk) ?_
    intro r hr
    exact up_more (by omega) hr
  unfold f_M_begin_85
  rw [eS]
  clear eS
  refine k_guard ix (k_guard ix (k_guard ia ?_))
  rw [ca]
  refine k_if (fun w1 => ?_) (fun _ => k174)
  refine k_guard ib ?_
  rw [cb]
  refine k_if (fun w2 => ?_) (fun _ => k174)
  refine k_guard ia' (k_if (fun _ => k174) (fun w3 => ?_))
  refine k_guard ib' (k_if (fun _ => k174) (fun w4 => ?_))
  refine k_guard ix (k_guard ia' (k_guard ib' (k_guard ix ?_)))
  obtain ⟨e1, m1, e1a, ei1, em1, em2⟩ := kTyp_array hM.2.2 ta w1
  obtain ⟨e2, m2, e2b, ei2, _, _⟩ := kTyp_array hM.2.2 tb w2
  have em1' : M_made S e1 = nI m := by
    obtain ⟨⟨mm, mm1, mm2, mm3⟩, _⟩ := hM.2.2.2.2.1 e1 (by omega)
    replace mm3 : M_made S e1 = nI mm := mm3
    have e3 : nI m1 = nI mm := em1.symm.trans mm3
    have em3 := em w1
    rw [show M_made S a = nI (m1 + 1) from em2, ← nI_1, e3, nI_1, nI_eq (by omega) (by omega)] at em3
    rw [mm3, show mm = m by omega]
  have eT : M_put_stage S (nI h) 1 = M_set_stage S (upd (M_stage S) h 1) := by
    show M_set_stage S (upd (M_stage S) (nI h).toNatClampNeg 1) = _
    rw [ch]
  rw [eT, ch]
  have t1 : M_inner (M_set_stage S (upd (M_stage S) h 1)) a = nI e1 := ei1
  have t2 : M_inner (M_set_stage S (upd (M_stage S) h 1)) b = nI e2 := ei2
  have t3 : M_deep (M_set_stage S (upd (M_stage S) h 1)) h = nI d := edp
  have t4 : kM (M_set_stage S (upd (M_stage S) h 1)) n t := hM
  have t5 : M_full (M_set_stage S (upd (M_stage S) h 1)) = 0 := hf
  have t6 : M_high (M_set_stage S (upd (M_stage S) h 1)) = nI (h + 1) := hh
  have t7 : M_stage (M_set_stage S (upd (M_stage S) h 1)) h = 1 := k_upds
  have t8 : M_made (M_set_stage S (upd (M_stage S) h 1)) e1 = nI m := em1'
  have t9 : kGo S (M_set_stage S (upd (M_stage S) h 1)) t h := by
    refine ⟨⟨rfl, rfl, rfl, rfl, rfl, rfl, rfl, rfl⟩, kAg_refl t S, ?_⟩
    intro f hf
    exact ⟨rfl, rfl, rfl, k_u hf, rfl, rfl, rfl, fun _ _ => rfl⟩
  rw [t1, t2, t3]
  clear t1 t2 t3 eT
  revert t4 t5 t6 t7 t8 t9
  generalize M_set_stage S (upd (M_stage S) h 1) = T
  intro t4 t5 t6 t7 t8 t9
  refine up_arr (F := F) hd ih t4 t5 t6 t7 (by omega) (by omega) t8 (by omega) (by omega) ?_
  intro σ' hD
  exact hk σ' (kDone_trans t9 (Nat.le_refl t) (fun z => z) hD)
theorem up_run1 {n d : Nat} (hd : d ≤ 2) (hrec : 0 < d → kUpR n (d - 1)) : kUpR n d := by
  intro m
  induction m with
  | zero =>
    intro F a b h t σ x Q hM hf hh el er edp est esz eat at' bt' em hm hb hk
    obtain ⟨⟨m, m1, m2, m3⟩, _⟩ := hM.2.2.2.2.1 a at'
    rw [show M_made σ a = nI m from m3, nI_eq (by omega) (by omega)] at em
    omega
  | succ m ih =>
    intro F a b h t σ x Q hM hf hh el er edp est esz eat at' bt' em hm hb hk
    have ht := hM.2.2.2.1
    have ht16 := hM.2.2.1
    have ix : ¬ (nI h < 0 ∨ 500 ≤ (nI h).toNatClampNeg) := nI_in (by omega) (by decide)
    have ch : (nI h).toNatClampNeg = h := nI_clamp (by omega)
    have ix' : ¬ (nI h < 0 ∨ 500 ≤ h) := by rw [ch] at ix; exact ix
    have ef : F + (2 * (m + 1) + kTm d) = (F + 1 + (2 * m + kTm d)) + 1 := by omega
    rw [ef]
    refine up_turn hh (by omega) hf (fun _ => ?_) (fun q => by rw [est] at q; exact absurd q (by decide)) (fun q => by rw [est] at q; exact absurd q (by decide)) (fun q => absurd est q)
    refine k_bind (P := fun r => k_ok (f_M_upper_50 (F + 1 + (2 * m + kTm d)) r.2 x) Q) ?_ (fun r hr => hr)
    have ba8 := kBox_8 a
    have bb8 := kBox_8 b
    have bat := kBox_lt at' ht16
    have bbt := kBox_lt bt' ht16
    have k85 : k_ok (f_M_begin_85 σ (nI h) (nI (kBox a)) (nI (kBox b))) (fun r => k_ok (f_M_upper_50 (F + 1 + (2 * m + kTm d)) r.2 x) Q) := by
      have eS : M_put_right (M_put_left σ (nI h) (nI (kBox a))) (nI h) (nI (kBox b)) = M_set_right (M_set_left σ (upd (M_left σ) h (nI (kBox a)))) (upd (M_right σ) h (nI (kBox b))) := by
        show M_set_right (M_set_left σ (upd (M_left σ) (nI h).toNatClampNeg (nI (kBox a)))) (upd (M_right σ) (nI h).toNatClampNeg (nI (kBox b))) = _
        rw [ch]
      have hgoS : kGo σ (M_set_right (M_set_left σ (upd (M_left σ) h (nI (kBox a)))) (upd (M_right σ) h (nI (kBox b)))) t h := by
        refine ⟨⟨rfl, rfl, rfl, rfl, rfl, rfl, rfl, rfl⟩, kAg_refl t σ, ?_⟩
        intro f hf
        exact ⟨k_u hf, k_u hf, rfl, rfl, rfl, rfl, rfl, fun _ _ => rfl⟩
      refine up_85 (F := F) (t := t) hd hrec ih eS hM hf hh k_upds k_upds edp esz eat ba8 bat bb8 bbt ?_ (by omega) (by omega) ?_
      · intro w1
        replace w1 : M_kind σ (kBox a) = 2 := w1
        have ea : kBox a = a := by
          unfold kBox
          split
          · rename_i q
            exfalso
            have z := hM.2.2.2.2.2 (a + 8) (by omega) (by omega)
            rw [show kBox a = a + 8 from if_pos q, z] at w1
            exact absurd w1 (by decide)
          · rfl
        rw [ea]; exact em
      · intro σ' hD
        exact hk σ' (kDone_trans hgoS (Nat.le_refl t) (fun _ => trivial) hD)
    have k55 : k_ok (f_M_begin_55 σ (nI h) (nI (kBox a))) (fun r => k_ok (f_M_upper_50 (F + 1 + (2 * m + kTm d)) r.2 x) Q) := by
      unfold f_M_begin_55
      refine k_guard ix ?_
      rw [ch, er]
      refine k_if (fun q => ?_) (fun q => ?_)
      · have q2 : nI 8 ≤ nI b := q
        rw [nI_leI (by decide) (by omega)] at q2
        have e := kBox_id q2
        rw [e] at k85
        exact k_guard ix' k85
      · have q2 : ¬ nI 8 ≤ nI b := q
        rw [nI_leI (by decide) (by omega)] at q2
        have e : nI b + 8 = nI (kBox b) := by rw [show kBox b = b + 8 from if_pos (by omega)]; exact nI_add b 8
        rw [e]
        exact k_guard ix' k85
    unfold f_M_begin
    refine k_guard ix (k_guard ix ?_)
    rw [ch, el, er]
    refine k_if (fun q => ?_) (fun _ => ?_)
    · rw [nI_eq (by omega) (by omega)] at q
      refine k_guard ix' ?_
      refine k_bind (P := fun r => r.2 = M_set_high (M_set_answer σ (nI a)) (M_high σ - 1)) (k_some rfl) ?_
      rintro ⟨v6, τ6⟩ e6
      replace e6 : τ6 = M_set_high (M_set_answer σ (nI a)) (M_high σ - 1) := e6
      have eh1 : M_high σ - 1 = nI h := by rw [hh]; exact nI_pred h
      refine k_some (up_more (f := F) (by omega) (hk τ6 ⟨?_, fun _ => ⟨t, a, Nat.le_refl t, ?_, ?_, ?_, at', fun w => w.1⟩⟩))
      · rw [e6]
        exact ⟨⟨rfl, rfl, rfl, rfl, rfl, rfl, rfl, rfl⟩, kAg_refl t σ, kSt_refl h σ⟩
      · rw [e6]; exact hM
      · rw [e6]; exact eh1
      · rw [e6]
    · refine k_guard ix' (k_if (fun q => ?_) (fun q => ?_))
      · have q2 : nI 8 ≤ nI a := q
        rw [nI_leI (by decide) (by omega)] at q2
        have e := kBox_id q2
        rw [e] at k55
        exact k_guard ix' k55
      · have q2 : ¬ nI 8 ≤ nI a := q
        rw [nI_leI (by decide) (by omega)] at q2
        have e : nI a + 8 = nI (kBox a) := by rw [show kBox a = a + 8 from if_pos (by omega)]; exact nI_add a 8
        rw [e]
        exact k_guard ix' k55
theorem up_run {n : Nat} : ∀ d, d ≤ 2 → kUpR n d := by
  intro d
  induction d with
  | zero => exact fun hd => up_run1 hd (fun q => by omega)
  | succ d ih => exact fun hd => up_run1 hd (fun _ => ih (by omega))
theorem s_M_upper {σ : StM} {n g d t : Nat} (h : kN σ n g d t) (x1 x2 : Int32) : k_ok (f_M_upper σ x1 x2) (kPub n g d) := by
  have ht := h.1.2.2.2.1
  have hd := h.2.2.2.2.2
  have et : M_types σ = nI t := h.1.2.1
  have bad : k_ok (f_M_upper_22 σ x1 x2 1) (kPub n g d) := by
    unfold f_M_upper_22
    refine k_good (fun q => absurd q (by decide)) (fun _ => ?_)
    exact k_if (fun _ => k_some ⟨t, h⟩) (fun q => absurd rfl q)
  unfold f_M_upper f_M_upper_21
  refine k_if (fun _ => bad) (fun w1 => k_if (fun _ => bad) (fun w2 => ?_))
  obtain ⟨a, ha, rfl⟩ := kM_type h.1.2 w1
  obtain ⟨b, hb, rfl⟩ := kM_type h.1.2 w2
  unfold f_M_upper_22
  refine k_good (fun _ => ?_) (fun q => absurd rfl q)
  refine k_if (fun q => absurd q k_10) (fun _ => ?_)
  refine k_bind (s_M_ask (σ := M_set_high (M_set_code σ 0) 0) (h := 0) rfl (by omega) (nI a) (nI b) (M_depth σ)) ?_
  rintro ⟨v, S⟩ eS
  replace eS : S = mAsk (M_set_high (M_set_code σ 0) 0) 0 (nI a) (nI b) (M_depth σ) := eS
  show k_ok (f_M_upper_50 1000000 S (M_types σ)) _
  rw [et]
  obtain ⟨⟨m, m1, m2, m3⟩, _⟩ := h.1.2.2.2.2.1 a ha
  have hkt : kTm d ≤ 226000 := by
    rcases (show d = 0 ∨ d = 1 ∨ d = 2 by omega) with e | e | e
    · subst e; decide
    · subst e; decide
    · subst e; decide
  refine up_more (f := 1 + (2 * m + kTm d)) (by omega) ?_
  refine up_run d hd m 1 a b 0 t S (nI t) (kPub n g d) (by rw [eS]; exact h.1) (by rw [eS]; exact h.2.2.2.1) (by rw [eS]; rfl) (by rw [eS]; exact mAsk_left) (by rw [eS]; exact mAsk_right) ?_ (by rw [eS]; exact mAsk_stage) (by rw [eS]; exact mAsk_size) (by rw [eS]; exact mAsk_at) ha hb (by rw [eS]; exact m3) m2 (by omega) ?_
  · rw [eS]
    rw [mAsk_deep]; exact h.2.2.2.2.1
  · intro σ' hD
    obtain ⟨⟨dA, dG, _⟩, dF⟩ := hD
    have hA : kA σ σ' := by
      refine kA_trans ?_ dA
      rw [eS]; exact ⟨rfl, rfl, rfl, rfl, rfl, rfl, rfl, rfl⟩
    have hG : kAg t σ σ' := by
      refine kAg_trans (t' := t) ?_ dG (Nat.le_refl t)
      rw [eS]; exact kAg_refl t σ
    obtain ⟨A1, A2, A3, A4, A5, A6, A7, A8⟩ := hA
    have k170 : k_ok (f_M_upper_170 σ' (nI t)) (kPub n g d) := by
      unfold f_M_upper_170 f_M_end
      refine k_bind (P := kPub n g d) ?_ (fun r hr => k_some hr)
      refine k_if (fun q => ?_) (fun q => ?_)
      · obtain ⟨t', v', z1, z2, _⟩ := dF q
        exact k_some ⟨t', z2, A1.trans h.2.1, h.2.2.1, q, A2.trans h.2.2.2.2.1, hd⟩
      · refine k_some ⟨t, ⟨⟨A3.trans h.1.1.1, ?_⟩, kMT_ag (σ := σ) (τ := M_set_code (M_set_full (M_set_types σ' (nI t)) 0) 2) h.1.2 A4 hG rfl⟩, A1.trans h.2.1, h.2.2.1, rfl, A2.trans h.2.2.2.2.1, hd⟩
        show kCls n t (M_generic σ') (M_directs σ') (M_directTo σ') (M_directArg σ') (M_over σ')
        rw [A4, A5, A6, A7, A8]; exact h.1.1.2
    rw [show (1 : Nat) = 0 + 1 from rfl, f_M_upper_50]
    unfold f_M_upper_50_s
    refine k_if (fun _ => k170) (fun q => k_if (fun q2 => ?_) (fun _ => k170))
    obtain ⟨t', v', z1, z2, z3, _⟩ := dF q2
    exfalso
    apply q
    rw [z3]; decide
-- part 08.34.init.lean.txt
/-! The first states. -/
abbrev C0 : StC := ((fun _ => 0), (fun _ => 0), (fun _ => 0), (fun _ => 0), (fun _ => 0), (fun _ => 0), 0, 0)
abbrev T0 : StT := ((fun _ => 0), (fun _ => 0), (fun _ => 0), (fun _ => 0), (fun _ => 0), (fun _ => 0), (fun _ => 0), (64, (fun _ => 0)), 0, 0, 0, 0)
theorem i_C108 : ∀ (f i : Nat) (σ : StC), i ≤ 8 → 8 < f + i → kC σ (5 + i) 1 → k_ok (f_C_init_108 f σ (nI i)) (fun r => kC r.2 13 1) := by
  intro f
  induction f with
  | zero => intro i σ h1 h2; omega
  | succ f ih =>
    intro i σ h1 h2 h3
    rw [f_C_init_108]
    unfold f_C_init_108_s
    refine k_if (fun q => ?_) (fun q => ?_)
    · have q2 : nI 8 ≤ nI i := q
      rw [nI_leI (by decide) (by omega)] at q2
      have e : i = 8 := by omega
      subst e
      exact k_some h3
    · have q2 : ¬ nI 8 ≤ nI i := q
      rw [nI_leI (by decide) (by omega)] at q2
      refine k_bind (s_C_add h3 (by omega) 0 0) ?_
      rintro ⟨v, τ⟩ ⟨_, hτ⟩
      have hτ' : kC τ (5 + (i + 1)) 1 := by
        have : kC τ (5 + i + 1) (if (0 : Int32) = 0 then 1 else 1 + 1) := hτ
        rw [if_pos rfl] at this
        exact this
      have k137 : ∀ ρ : StC, kC ρ (5 + (i + 1)) 1 → k_ok (f_C_init_137 (f_C_init_108 f) ρ (nI i)) (fun r => kC r.2 13 1) := by
        intro ρ hρ
        unfold f_C_init_137
        refine k_bind (s_C_put hρ _ _) ?_
        intro r8 h8
        refine k_bind (s_C_put h8 _ _) ?_
        intro r9 h9
        rw [nI_1]
        exact ih (i + 1) r9.2 (by omega) (by omega) h9
      refine k_if (fun _ => k137 τ hτ') (fun _ => k_if (fun _ => k137 τ hτ') (fun _ => ?_))
      refine k_bind (s_C_put hτ' _ _) ?_
      intro r10 h10
      exact k137 r10.2 h10
theorem i0_C : k_ok (f_C_init_54 C0) (fun r => kC r.2 13 1) := by
  unfold f_C_init_54
  have h0 : kC (C_set_countGeneric (C_set_count C0 0) 0) 0 0 := ⟨rfl, by omega, fun c _ => ⟨0, by omega, rfl⟩, rfl, by omega⟩
  refine k_bind (s_C_add h0 (by omega) 0 0) ?_
  rintro ⟨v1, σ1⟩ ⟨_, h1⟩
  replace h1 : kC σ1 1 0 := h1
  refine k_bind (s_C_add h1 (by omega) 1 0) ?_
  rintro ⟨v2, σ2⟩ ⟨_, h2⟩
  replace h2 : kC σ2 2 0 := h2
  refine k_bind (s_C_add h2 (by omega) 1 0) ?_
  rintro ⟨v3, σ3⟩ ⟨_, h3⟩
  replace h3 : kC σ3 3 0 := h3
  refine k_bind (s_C_add h3 (by omega) 1 1) ?_
  rintro ⟨v4, σ4⟩ ⟨_, h4⟩
  replace h4 : kC σ4 4 1 := h4
  refine k_bind (s_C_add h4 (by omega) 0 0) ?_
  rintro ⟨v5, σ5⟩ ⟨_, h5⟩
  replace h5 : kC σ5 5 1 := h5
  refine k_bind (s_C_put h5 _ _) ?_
  rintro ⟨v6, σ6⟩ h6
  exact i_C108 1000 0 σ6 (by omega) (by omega) h6
theorem i_T118 : ∀ (f i : Nat) (σ : StT), i ≤ 8 → 8 < f + i → (∃ t, kT σ t) → T_parts σ = T_parts T0 → k_ok (f_T_init_118 f σ (nI i)) (fun r => (∃ t, kT r.2 t) ∧ (T_parts r.2).1 = 64) := by
  intro f
  induction f with
  | zero => intro i σ h1 h2; omega
  | succ f ih =>
    intro i σ h1 h2 h3 h4
    obtain ⟨t, ht⟩ := h3
    rw [f_T_init_118]
    unfold f_T_init_118_s
    refine k_if (fun q => ?_) (fun q => ?_)
    · refine k_bind (s_T_settle ht) ?_
      rintro r1 ⟨h5, h6⟩
      exact k_some ⟨h5, by rw [h6, h4]⟩
    · have q2 : ¬ nI 8 ≤ nI i := q
      rw [nI_leI (by decide) (by omega)] at q2
      refine k_bind (s_T_makeNamed ht _ _) ?_
      rintro r2 ⟨h5, h6⟩
      rw [nI_1]
      exact ih (i + 1) r2.2 (by omega) (by omega) h5 (h6.trans h4)
theorem i_T97 : ∀ (f i : Nat) (σ : StT), i ≤ 8 → 8 < f + i → (∃ t, kT σ t) → T_parts σ = T_parts T0 → k_ok (f_T_init_97 f σ (nI i)) (fun r => (∃ t, kT r.2 t) ∧ (T_parts r.2).1 = 64) := by
  intro f
  induction f with
  | zero => intro i σ h1 h2; omega
  | succ f ih =>
    intro i σ h1 h2 h3 h4
    obtain ⟨t, ht⟩ := h3
    rw [f_T_init_97]
    unfold f_T_init_97_s
    refine k_if (fun q => ?_) (fun q => ?_)
    · exact i_T118 1000 0 σ (by omega) (by omega) ⟨t, ht⟩ h4
    · have q2 : ¬ nI 8 ≤ nI i := q
      rw [nI_leI (by decide) (by omega)] at q2
      refine k_bind (s_T_add ht _ _) ?_
      rintro ⟨v, τ⟩ hr
      rw [nI_1]
      rcases hr with ⟨_, e⟩ | ⟨_, _, hk, hp, _⟩
      · replace e : τ = σ := e
        subst e
        exact ih (i + 1) τ (by omega) (by omega) ⟨t, ht⟩ h4
      · exact ih (i + 1) τ (by omega) (by omega) ⟨_, hk⟩ (hp.trans h4)
theorem i0_T : k_ok (f_T_init_75 T0) (fun r => (∃ t, kT r.2 t) ∧ (T_parts r.2).1 = 64) := by
  unfold f_T_init_75
  refine i_T97 1000 0 _ (by omega) (by omega) ⟨0, rfl, by omega, ⟨0, by omega, rfl⟩, ⟨0, 0, by omega, by omega, rfl, rfl⟩, fun i _ => ⟨0, by omega, rfl⟩, ?_, ?_⟩ rfl
  · show 64 ≤ 64; omega
  · show 64 ≤ 60000; omega
/-- depth -/
theorem i_depth (x1 : Int32) : ∃ d, d ≤ 2 ∧ (if (0 : Int32) < (if x1 < 2 then x1 else 2) then (if x1 < 2 then x1 else 2) else 0) = nI d ∧ ((0 ≤ x1 ∧ x1 ≤ 2 ∧ x1 = nI d) ∨ (0 ≤ x1 ∧ ¬ x1 ≤ 2 ∧ d = 2) ∨ (¬ 0 ≤ x1 ∧ d = 0)) := by
  have q0 : (0 : Int32).toInt = 0 := by decide
  have q2 : (2 : Int32).toInt = 2 := by decide
  by_cases h0 : 0 ≤ x1
  · have h0' : ¬ x1 < 0 := by rw [Int32.le_iff_toInt_le] at h0; rw [Int32.lt_iff_toInt_lt]; omega
    obtain ⟨j, hj, rfl⟩ := nI_of h0'
    by_cases h2 : nI j ≤ 2
    · have h3 : nI j ≤ nI 2 := h2
      rw [nI_leI hj (by decide)] at h3
      refine ⟨j, h3, ?_, Or.inl ⟨h0, h2, rfl⟩⟩
      rcases (show j = 0 ∨ j = 1 ∨ j = 2 by omega) with e | e | e
      · subst e; decide +kernel
      · subst e; decide +kernel
      · subst e; decide +kernel
    · have h3 : ¬ nI j ≤ nI 2 := h2
      rw [nI_leI hj (by decide)] at h3
      refine ⟨2, by omega, ?_, Or.inr (Or.inl ⟨h0, h2, rfl⟩)⟩
      have n2 : ¬ nI j < 2 := by
        show ¬ nI j < nI 2
        rw [nI_ltI hj (by decide)]; omega
      rw [if_neg n2]; decide +kernel
  · refine ⟨0, by omega, ?_, Or.inr (Or.inr ⟨h0, rfl⟩)⟩
    rw [Int32.le_iff_toInt_le] at h0
    have l2 : x1 < 2 := by rw [Int32.lt_iff_toInt_lt]; omega
    have n0 : ¬ (0 : Int32) < x1 := by rw [Int32.lt_iff_toInt_lt]; omega
    rw [if_pos l2, if_neg n0]; rfl
-- part 08.35.initM.lean.txt
/-! The reference's first state, reckoned out. -/
abbrev M0 (x : Int32) : StM := (0, x, 0, 0, (fun _ => 0), (fun _ => 0), (fun _ => 0), (fun _ => 0), (fun _ => 0), (fun _ => 0), 0, (fun _ => 0), (fun _ => 0), (fun _ => 0), (fun _ => 0), (fun _ => 0), (fun _ => 0), (fun _ => 0), 0, 0, 0, 0, (fun _ => 0), (fun _ => 0), 0, 0, (fun _ => 0), (fun _ => 0), (fun _ => 0), (fun _ => 0), (fun _ => 0), (fun _ => 0), (fun _ => 0), (fun _ => 0), 0)
abbrev M1 (x : Int32) : StM := ((f_M_init_229 1000 (M0 x) 0).getD (0, M0 x)).2
abbrev qArg (t : Nat) (ge gc a : Int32) : Prop := (ge = 0 ∧ a = -1) ∨ (ge = 1 ∧ ((8 ≤ a.toNatClampNeg ∧ a.toNatClampNeg < t ∧ a = nI a.toNatClampNeg) ∨ (a = -2 ∧ gc = 1)))
abbrev qD (σ : StM) (c : Nat) : Nat := (M_directs σ c).toNatClampNeg
abbrev qE (σ : StM) (c k : Nat) : Nat := (M_directTo σ (30 * c + k)).toNatClampNeg
abbrev qC1 (σ : StM) (c : Nat) : Prop := (M_generic σ c = 0 ∨ M_generic σ c = 1) ∧ qD σ c ≤ c ∧ (0 < c → 0 < qD σ c) ∧ M_directs σ c = nI (qD σ c)
abbrev qC2 (σ : StM) (c k : Nat) : Prop := qE σ c k < c ∧ M_directTo σ (30 * c + k) = nI (qE σ c k) ∧ qArg 16 (M_generic σ (qE σ c k)) (M_generic σ c) (M_directArg σ (30 * c + k))
abbrev qC3 (σ : StM) (c : Nat) : Prop := (List.range (qD σ c)).all (fun l => (List.range l).all (fun k => !(M_directTo σ (30 * c + k) == M_directTo σ (30 * c + l)))) = true
abbrev qC4 (σ : StM) (c b : Nat) : Prop := bt (M_over σ c) b = (List.range (qD σ c)).any (fun k => decide (qE σ c k = b) || bt (M_over σ (qE σ c k)) b)
def qCl (σ : StM) (c : Nat) : Prop := qC1 σ c ∧ (∀ k, k < qD σ c → qC2 σ c k) ∧ qC3 σ c ∧ (∀ b, b < 32 → qC4 σ c b)
abbrev qTy (σ : StM) (i : Nat) : Prop := M_made σ i = 1 ∧ ((i < 8 ∧ M_kind σ i = 0 ∧ M_partCount σ i = 0) ∨ (8 ≤ i ∧ M_kind σ i = 1 ∧ M_partCount σ i = 1 ∧ M_partRow σ (30 * i) = nI i ∧ M_classOf σ i = nI (i - 3) ∧ M_generic σ (i - 3) = 0 ∧ M_how σ i = 0 ∧ M_inner σ i = -1))
abbrev qSm (σ : StM) (x : Int32) : Prop := M_classes σ = nI 13 ∧ M_types σ = nI 16 ∧ M_generics σ = nI 1 ∧ M_full σ = 0 ∧ M_depth σ = x ∧ M_generic σ 0 = 0 ∧ M_generic σ 1 = 0 ∧ M_generic σ 2 = 0
theorem m_some0 : (f_M_init_229 1000 (M0 (nI 0)) 0).isSome = true := by decide +kernel
theorem m_some1 : (f_M_init_229 1000 (M0 (nI 1)) 0).isSome = true := by decide +kernel
theorem m_some2 : (f_M_init_229 1000 (M0 (nI 2)) 0).isSome = true := by decide +kernel
theorem m_sm0 : qSm (M1 (nI 0)) (nI 0) := by decide +kernel
theorem m_sm1 : qSm (M1 (nI 1)) (nI 1) := by decide +kernel
theorem m_sm2 : qSm (M1 (nI 2)) (nI 2) := by decide +kernel
theorem m_ty0 : ∀ i, i < 16 → qTy (M1 (nI 0)) i := by decide +kernel
theorem m_ty1 : ∀ i, i < 16 → qTy (M1 (nI 1)) i := by decide +kernel
theorem m_ty2 : ∀ i, i < 16 → qTy (M1 (nI 2)) i := by decide +kernel
theorem m_ca0 : ∀ c, c < 13 → qC1 (M1 (nI 0)) c := by decide +kernel
theorem m_cb0 : ∀ c, c < 13 → ∀ k, k < qD (M1 (nI 0)) c → qC2 (M1 (nI 0)) c k := by decide +kernel
theorem m_cc0 : ∀ c, c < 13 → qC3 (M1 (nI 0)) c := by decide +kernel
theorem m_cd0 : ∀ c, c < 13 → ∀ b, b < 32 → qC4 (M1 (nI 0)) c b := by decide +kernel
theorem m_cl0 : ∀ c, c < 13 → qCl (M1 (nI 0)) c := fun c hc => ⟨m_ca0 c hc, m_cb0 c hc, m_cc0 c hc, m_cd0 c hc⟩
theorem m_ca1 : ∀ c, c < 13 → qC1 (M1 (nI 1)) c := by decide +kernel
theorem m_cb1 : ∀ c, c < 13 → ∀ k, k < qD (M1 (nI 1)) c → qC2 (M1 (nI 1)) c k := by decide +kernel
theorem m_cc1 : ∀ c, c < 13 → qC3 (M1 (nI 1)) c := by decide +kernel
theorem m_cd1 : ∀ c, c < 13 → ∀ b, b < 32 → qC4 (M1 (nI 1)) c b := by decide +kernel
theorem m_cl1 : ∀ c, c < 13 → qCl (M1 (nI 1)) c := fun c hc => ⟨m_ca1 c hc, m_cb1 c hc, m_cc1 c hc, m_cd1 c hc⟩
theorem m_ca2 : ∀ c, c < 13 → qC1 (M1 (nI 2)) c := by decide +kernel
theorem m_cb2 : ∀ c, c < 13 → ∀ k, k < qD (M1 (nI 2)) c → qC2 (M1 (nI 2)) c k := by decide +kernel
theorem m_cc2 : ∀ c, c < 13 → qC3 (M1 (nI 2)) c := by decide +kernel
theorem m_cd2 : ∀ c, c < 13 → ∀ b, b < 32 → qC4 (M1 (nI 2)) c b := by decide +kernel
theorem m_cl2 : ∀ c, c < 13 → qCl (M1 (nI 2)) c := fun c hc => ⟨m_ca2 c hc, m_cb2 c hc, m_cc2 c hc, m_cd2 c hc⟩
theorem m_init {σ : StM} {d : Nat} (hd : d ≤ 2) (h1 : qSm σ (nI d)) (h2 : ∀ i, i < 16 → qTy σ i) (h3 : ∀ c, c < 13 → qCl σ c) : kN σ 13 1 d 16 := by
  obtain ⟨s1, s2, s3, s4, s5, s6, s7, s8⟩ := h1
  refine ⟨⟨⟨s1, by omega, by omega, ?_, ?_⟩, s2, by omega, by omega, ?_, ?_⟩, s3, by omega, s4, s5, hd⟩
  · intro c hc
    rcases (show c = 0 ∨ c = 1 ∨ c = 2 by omega) with e | e | e
    · subst e; exact s6
    · subst e; exact s7
    · subst e; exact s8
  · intro c hc
    obtain ⟨⟨q0, q1, q2, q3⟩, q4, q5, q6⟩ := h3 c hc
    refine ⟨q0, qD σ c, q1, q2, q3, ?_, ?_, ?_⟩
    · intro k hk
      obtain ⟨p1, p2, p3⟩ := q4 k hk
      refine ⟨qE σ c k, p1, p2, ?_⟩
      rcases p3 with p3 | ⟨p3, ⟨p4, p5, p6⟩ | p4⟩
      · exact Or.inl p3
      · exact Or.inr ⟨p3, Or.inl ⟨_, p4, p5, p6⟩⟩
      · exact Or.inr ⟨p3, Or.inr p4⟩
    · intro k l hk hl
      have w := List.all_eq_true.mp q5 l (List.mem_range.mpr hl)
      have w2 := List.all_eq_true.mp w k (List.mem_range.mpr hk)
      intro e
      rw [e] at w2
      simp at w2
    · intro b hb
      rw [q6 b hb, List.any_eq_true]
      constructor
      · rintro ⟨k, k1, k2⟩
        rw [List.mem_range] at k1
        rw [Bool.or_eq_true, decide_eq_true_iff] at k2
        obtain ⟨p1, p2, _⟩ := q4 k k1
        exact ⟨k, qE σ c k, k1, p1, p2, k2⟩
      · rintro ⟨k, e, k1, k2, k3, k4⟩
        have ee : qE σ c k = e := by
          show (M_directTo σ (30 * c + k)).toNatClampNeg = e
          rw [k3]; exact nI_clamp (by omega)
        refine ⟨k, List.mem_range.mpr k1, ?_⟩
        rw [Bool.or_eq_true, decide_eq_true_iff, ee]; exact k4
  · intro i hi
    obtain ⟨q0, q1 | ⟨q1, q2, q3, q4, q5, q6, q7, q8⟩⟩ := h2 i hi
    · exact ⟨⟨1, by omega, by omega, q0⟩, Or.inl q1⟩
    · exact ⟨⟨1, by omega, by omega, q0⟩, Or.inr (Or.inl ⟨q1, q2, q3, q4, i - 3, by omega, q5, Or.inl ⟨q6, q7, q8⟩⟩)⟩
  · intro i h8 h16
    obtain ⟨_, q1 | q1⟩ := h2 i h16
    · omega
    · exact q1.2.1
theorem m_kn0 : kN (M1 (nI 0)) 13 1 0 16 := m_init (σ := M1 (nI 0)) (d := 0) (by decide) m_sm0 m_ty0 m_cl0
theorem m_kn1 : kN (M1 (nI 1)) 13 1 1 16 := m_init (σ := M1 (nI 1)) (d := 1) (by decide) m_sm1 m_ty1 m_cl1
theorem m_kn2 : kN (M1 (nI 2)) 13 1 2 16 := m_init (σ := M1 (nI 2)) (d := 2) (by decide) m_sm2 m_ty2 m_cl2
theorem m_ok {o : Option (Int32 × StM)} {z : Int32 × StM} {P : StM → Prop} (h : o.isSome = true) (hp : P (o.getD z).2) : k_ok o (fun r => P r.2) := by
  cases o with
  | none => cases h
  | some r => exact ⟨r, rfl, hp⟩
theorem i0_M (x1 : Int32) {d : Nat} (hd : d ≤ 2) (hx : (0 ≤ x1 ∧ x1 ≤ 2 ∧ x1 = nI d) ∨ (0 ≤ x1 ∧ ¬ x1 ≤ 2 ∧ d = 2) ∨ (¬ 0 ≤ x1 ∧ d = 0)) : k_ok (f_M_init_205 (M0 0) x1) (fun r => kN r.2 13 1 d 16) := by
  have all : ∀ d, d ≤ 2 → k_ok (f_M_init_229 1000 (M0 (nI d)) 0) (fun r => kN r.2 13 1 d 16) := by
    intro d hd
    rcases (show d = 0 ∨ d = 1 ∨ d = 2 by omega) with e | e | e
    · subst e; exact m_ok (P := fun σ => kN σ 13 1 0 16) (z := (0, M0 (nI 0))) m_some0 m_kn0
    · subst e; exact m_ok (P := fun σ => kN σ 13 1 1 16) (z := (0, M0 (nI 1))) m_some1 m_kn1
    · subst e; exact m_ok (P := fun σ => kN σ 13 1 2 16) (z := (0, M0 (nI 2))) m_some2 m_kn2
  unfold f_M_init_205
  rcases hx with ⟨w1, w2, w3⟩ | ⟨w1, w2, w3⟩ | ⟨w1, w3⟩
  · rw [if_pos w1, if_pos w2, w3]
    exact all d hd
  · rw [if_pos w1, if_neg w2]
    subst w3
    exact all 2 hd
  · rw [if_neg w1]
    subst w3
    exact all 0 hd
-- part 08.50.spec.lean.txt
/-! Tier 3: the tables of classes and of types, as numbers; LOOK, BELOW over them. An ARGUMENT is a number: 0 none, 3 the PARAMETER, 4 x + 1 EXACT x, 4 x + 2 BOUNDED by x. -/
abbrev wWc : Type := Nat × (Nat → Bool) × (Nat → Bool) × (Nat → Nat) × (Nat → Nat → Nat) × (Nat → Nat → Nat) × (Nat → Nat → Bool)
abbrev wDs : Type := Nat × Nat × Nat × List Nat
abbrev wWt : Type := Nat × (Nat → wDs) × (Nat → Nat)
abbrev Wn (C : wWc) : Nat := C.1
abbrev Wf (C : wWc) : Nat → Bool := C.2.1
abbrev Wg (C : wWc) : Nat → Bool := C.2.2.1
abbrev Wd (C : wWc) : Nat → Nat := C.2.2.2.1
abbrev Wo (C : wWc) : Nat → Nat → Nat := C.2.2.2.2.1
abbrev Wa (C : wWc) : Nat → Nat → Nat := C.2.2.2.2.2.1
abbrev Wu (C : wWc) : Nat → Nat → Bool := C.2.2.2.2.2.2
abbrev Tn (T : wWt) : Nat := T.1
abbrev Ty (T : wWt) : Nat → wDs := T.2.1
abbrev Tm (T : wWt) : Nat → Nat := T.2.2
abbrev dK (d : wDs) : Nat := d.1
abbrev dX (d : wDs) : Nat := d.2.1
abbrev dA (d : wDs) : Nat := d.2.2.1
abbrev dL (d : wDs) : List Nat := d.2.2.2
/-- class c is class b, or below it -/
def wTw (C : wWc) (c b : Nat) : Bool := decide (c = b) || Wu C c b
/-- the first k of f ones from i on -/
def wfs (p : Nat → Bool) : Nat → Nat → Option Nat
  | 0, _ => none
  | f + 1, i => if p i = true then some i else wfs p f (i + 1)
theorem wfs_some {p : Nat → Bool} : ∀ {f i k : Nat}, wfs p f i = some k → i ≤ k ∧ k < i + f ∧ p k = true ∧ ∀ j, i ≤ j → j < k → p j = false := by
  intro f
  induction f with
  | zero => intro i k h; exact absurd h (by simp [wfs])
  | succ f ih =>
    intro i k h
    rw [wfs] at h
    by_cases q : p i = true
    · rw [if_pos q] at h
      cases h
      exact ⟨Nat.le_refl i, by omega, q, fun j h1 h2 => by omega⟩
    · rw [if_neg q] at h
      obtain ⟨h1, h2, h3, h4⟩ := ih h
      refine ⟨by omega, by omega, h3, fun j j1 j2 => ?_⟩
      by_cases e : j = i
      · subst e; simpa using q
      · exact h4 j (by omega) j2
theorem wfs_none {p : Nat → Bool} : ∀ {f i : Nat}, wfs p f i = none → ∀ j, i ≤ j → j < i + f → p j = false := by
  intro f
  induction f with
  | zero => intro i h j h1 h2; omega
  | succ f ih =>
    intro i h j h1 h2
    rw [wfs] at h
    by_cases q : p i = true
    · rw [if_pos q] at h; cases h
    · rw [if_neg q] at h
      by_cases e : j = i
      · subst e; simpa using q
      · exact ih h j (by omega) (by omega)
theorem wfs_is {p : Nat → Bool} : ∀ {f i k : Nat}, i ≤ k → k < i + f → p k = true → (∀ j, i ≤ j → j < k → p j = false) → wfs p f i = some k := by
  intro f
  induction f with
  | zero => intro i k h1 h2; omega
  | succ f ih =>
    intro i k h1 h2 h3 h4
    rw [wfs]
    by_cases e : i = k
    · subst e; rw [if_pos h3]
    · rw [if_neg (by rw [h4 i (by omega) (by omega)]; decide)]
      exact ih (by omega) (by omega) h3 (fun j j1 j2 => h4 j (by omega) j2)
theorem wfs_no {p : Nat → Bool} {f i : Nat} (h : ∀ j, i ≤ j → j < i + f → p j = false) : wfs p f i = none := by
  cases q : wfs p f i with
  | none => rfl
  | some k =>
    obtain ⟨h1, h2, h3, _⟩ := wfs_some q
    rw [h k h1 h2] at h3; cases h3
/-- the first edge of c toward b -/
def wFe (C : wWc) (c b : Nat) : Option Nat := wfs (fun k => wTw C (Wo C c k) b) (Wd C c) 0
def wSb (own told : Nat) : Nat := if told = 3 then own else told
def wClf (C : wWc) (b : Nat) : Nat → Nat → Nat → Option Nat
  | 0, c, a => if c = b then some a else none
  | f + 1, c, a => if c = b then some a else (wFe C c b).bind (fun k => wClf C b f (Wo C c k) (wSb a (Wa C c k)))
/-- the ARGUMENT with which class b is found from class c that has its own one a -/
def wCl (C : wWc) (c a b : Nat) : Option Nat := wClf C b c c a
/-- what holds of the tables of classes, with t types -/
def wCok (C : wWc) (t : Nat) : Prop := 13 ≤ Wn C ∧ Wn C ≤ 30 ∧
  (∀ c, c < Wn C → Wd C c ≤ c ∧ (0 < c → 0 < Wd C c)) ∧
  (∀ c k, c < Wn C → k < Wd C c → Wo C c k < c ∧ ((Wg C (Wo C c k) = false ∧ Wa C c k = 0) ∨ (Wg C (Wo C c k) = true ∧ ((∃ x, 8 ≤ x ∧ x < t ∧ Wa C c k = 4 * x + 1) ∨ (Wa C c k = 3 ∧ Wg C c = true))))) ∧
  (∀ c k l, c < Wn C → k < l → l < Wd C c → Wo C c k ≠ Wo C c l) ∧
  (∀ c b, c < Wn C → (Wu C c b = true ↔ ∃ k, k < Wd C c ∧ wTw C (Wo C c k) b = true)) ∧
  (∀ c b k, c < Wn C → b < Wn C → Wg C b = true → k < Wd C c → wTw C (Wo C c k) b = true → wCl C c 3 b = wCl C (Wo C c k) (Wa C c k) b) ∧
  (∀ c, c < 3 → Wg C c = false) ∧ (∀ c b, c < 3 → Wu C c b = true → b < 3)
section
variable {C : wWc} {t : Nat}
theorem wTw_self (c : Nat) : wTw C c c = true := by simp [wTw]
theorem wTw_up {c b : Nat} (h : Wu C c b = true) : wTw C c b = true := by simp [wTw, h]
theorem wTw_ne {c b : Nat} (h : wTw C c b = true) (hc : c ≠ b) : Wu C c b = true := by
  simpa [wTw, hc] using h
theorem wUp_lt (h : wCok C t) : ∀ c b, c < Wn C → Wu C c b = true → b < c := by
  intro c
  induction c using Nat.strongRecOn with
  | ind c ih =>
    intro b hc hu
    obtain ⟨k, k1, k2⟩ := (h.2.2.2.2.2.1 c b hc).mp hu
    have k3 := (h.2.2.2.1 c k hc k1).1
    by_cases e : Wo C c k = b
    · omega
    · have := ih _ k3 b (by omega) (wTw_ne k2 e)
      omega
theorem wTw_le (h : wCok C t) {c b : Nat} (hc : c < Wn C) (hu : wTw C c b = true) : b ≤ c := by
  by_cases e : c = b
  · omega
  · exact Nat.le_of_lt (wUp_lt h c b hc (wTw_ne hu e))
theorem wUp_tr (h : wCok C t) : ∀ c b d, c < Wn C → Wu C c b = true → Wu C b d = true → Wu C c d = true := by
  intro c
  induction c using Nat.strongRecOn with
  | ind c ih =>
    intro b d hc h1 h2
    obtain ⟨k, k1, k2⟩ := (h.2.2.2.2.2.1 c b hc).mp h1
    have k3 := (h.2.2.2.1 c k hc k1).1
    refine (h.2.2.2.2.2.1 c d hc).mpr ⟨k, k1, ?_⟩
    by_cases e : Wo C c k = b
    · rw [e]; exact wTw_up h2
    · exact wTw_up (ih _ k3 b d (by omega) (wTw_ne k2 e) h2)
theorem wTw_tr (h : wCok C t) {c b d : Nat} (hc : c < Wn C) (h1 : wTw C c b = true) (h2 : wTw C b d = true) : wTw C c d = true := by
  by_cases e1 : c = b
  · rw [e1]; exact h2
  · by_cases e2 : b = d
    · rw [← e2]; exact h1
    · exact wTw_up (wUp_tr h c b d hc (wTw_ne h1 e1) (wTw_ne h2 e2))
theorem wFe_some (h : wCok C t) {c b : Nat} (hc : c < Wn C) (hu : wTw C c b = true) (hne : c ≠ b) : ∃ k, wFe C c b = some k ∧ k < Wd C c ∧ wTw C (Wo C c k) b = true ∧ (∀ j, j < k → wTw C (Wo C c j) b = false) := by
  cases q : wFe C c b with
  | none =>
    obtain ⟨k, k1, k2⟩ := (h.2.2.2.2.2.1 c b hc).mp (wTw_ne hu hne)
    have := wfs_none q k (by omega) (by omega)
    replace this : wTw C (Wo C c k) b = false := this
    rw [k2] at this; cases this
  | some k =>
    obtain ⟨h1, h2, h3, h4⟩ := wfs_some q
    exact ⟨k, rfl, by omega, h3, fun j hj => h4 j (by omega) hj⟩
theorem wFe_none (h : wCok C t) {c b : Nat} (hc : c < Wn C) (hu : wTw C c b = false) : wFe C c b = none := by
  refine wfs_no (fun j _ hj => ?_)
  cases q : wTw C (Wo C c j) b with
  | false => rfl
  | true =>
    have := (h.2.2.2.2.2.1 c b hc).mpr ⟨j, by omega, q⟩
    rw [wTw_up this] at hu; cases hu
theorem wClf_fuel (h : wCok C t) (b : Nat) : ∀ (f g c a : Nat), c < Wn C → c ≤ f → c ≤ g → wClf C b f c a = wClf C b g c a := by
  have key : ∀ (f c a : Nat), c < Wn C → c ≤ f → wClf C b f c a = wClf C b (f + 1) c a := by
    intro f
    induction f with
    | zero =>
      intro c a hc hf
      have hc0 : c = 0 := by omega
      subst hc0
      rw [wClf, wClf]
      by_cases e : 0 = b
      · rw [if_pos e, if_pos e]
      · rw [if_neg e, if_neg e]
        have hd : Wd C 0 = 0 := by have := (h.2.2.1 0 hc).1; omega
        unfold wFe
        rw [hd]; rfl
    | succ f ih =>
      intro c a hc hf
      rw [wClf]
      rw [show wClf C b (f + 1 + 1) c a = if c = b then some a else (wFe C c b).bind (fun k => wClf C b (f + 1) (Wo C c k) (wSb a (Wa C c k))) from rfl]
      by_cases e : c = b
      · rw [if_pos e, if_pos e]
      · rw [if_neg e, if_neg e]
        cases q : wFe C c b with
        | none => rfl
        | some k =>
          obtain ⟨h1, h2, h3, h4⟩ := wfs_some q
          have k3 := (h.2.2.2.1 c k hc (by omega)).1
          exact ih (Wo C c k) _ (by omega) (by omega)
  have up : ∀ (d f c a : Nat), c < Wn C → c ≤ f → wClf C b f c a = wClf C b (f + d) c a := by
    intro d
    induction d with
    | zero => intro f c a _ _; rfl
    | succ d ih => intro f c a hc hf; rw [ih f c a hc hf]; exact key (f + d) c a hc (by omega)
  intro f g c a hc hf hg
  have e1 := up (f - c) c c a hc (Nat.le_refl c)
  have e2 := up (g - c) c c a hc (Nat.le_refl c)
  rw [show c + (f - c) = f by omega] at e1
  rw [show c + (g - c) = g by omega] at e2
  rw [← e1, ← e2]
theorem wCl_here (c a : Nat) : wCl C c a c = some a := by
  unfold wCl
  cases c with
  | zero => rw [wClf, if_pos rfl]
  | succ c => rw [wClf, if_pos rfl]
theorem wCl_step (h : wCok C t) {c b k : Nat} (a : Nat) (hc : c < Wn C) (hne : c ≠ b) (hk : wFe C c b = some k) : wCl C c a b = wCl C (Wo C c k) (wSb a (Wa C c k)) b := by
  obtain ⟨h1, h2, h3, h4⟩ := wfs_some hk
  have k3 := (h.2.2.2.1 c k hc (by omega)).1
  unfold wCl
  cases c with
  | zero => omega
  | succ c =>
    rw [wClf, if_neg hne, hk]
    exact wClf_fuel h b _ _ _ _ (by omega) (by omega) (by omega)
theorem wCl_none (h : wCok C t) {c b : Nat} (a : Nat) (hc : c < Wn C) (hu : wTw C c b = false) : wCl C c a b = none := by
  have hne : c ≠ b := by intro e; rw [e, wTw_self] at hu; cases hu
  unfold wCl
  cases c with
  | zero => rw [wClf, if_neg hne]
  | succ c => rw [wClf, if_neg hne, wFe_none h hc hu]; rfl
theorem wCl_some (h : wCok C t) : ∀ c a b, c < Wn C → wTw C c b = true → ∃ r, wCl C c a b = some r := by
  intro c
  induction c using Nat.strongRecOn with
  | ind c ih =>
    intro a b hc hu
    by_cases e : c = b
    · rw [e]; exact ⟨a, wCl_here b a⟩
    · obtain ⟨k, k1, k2, k3, _⟩ := wFe_some h hc hu e
      have k4 := (h.2.2.2.1 c k hc k2).1
      rw [wCl_step h a hc e k1]
      exact ih _ k4 _ b (by omega) k3
theorem wCl_tw (h : wCok C t) {c a b r : Nat} (hc : c < Wn C) (q : wCl C c a b = some r) : wTw C c b = true := by
  cases w : wTw C c b with
  | true => rfl
  | false => rw [wCl_none h a hc w] at q; cases q
/-- the own ARGUMENT put in for the PARAMETER -/
theorem wSb_sb (a b c : Nat) : wSb (wSb a b) c = wSb a (wSb b c) := by
  unfold wSb
  by_cases h : c = 3
  · rw [if_pos h, if_pos h]
  · rw [if_neg h, if_neg h, if_neg h]
theorem wSb_3 (c : Nat) : wSb 3 c = c := by
  unfold wSb
  by_cases h : c = 3
  · rw [if_pos h, h]
  · rw [if_neg h]
theorem wCl_sub (h : wCok C t) : ∀ c a b, c < Wn C → wCl C c a b = (wCl C c 3 b).map (wSb a) := by
  have gen : ∀ c a d b, c < Wn C → wCl C c (wSb a d) b = (wCl C c d b).map (wSb a) := by
    intro c
    induction c using Nat.strongRecOn with
    | ind c ih =>
      intro a d b hc
      by_cases e : c = b
      · rw [e, wCl_here, wCl_here]; rfl
      · cases hu : wTw C c b with
        | false => rw [wCl_none h _ hc hu, wCl_none h _ hc hu]; rfl
        | true =>
          obtain ⟨k, k1, k2, k3, _⟩ := wFe_some h hc hu e
          have k4 := (h.2.2.2.1 c k hc k2).1
          rw [wCl_step h _ hc e k1, wCl_step h _ hc e k1, wSb_sb]
          exact ih _ k4 _ _ b (by omega)
  intro c a b hc
  exact gen c a 3 b hc
/-- every edge toward a GENERIC class leads to it with the same ARGUMENT -/
theorem wCl_edge (h : wCok C t) {c b k : Nat} (a : Nat) (hc : c < Wn C) (hb : b < Wn C) (hg : Wg C b = true) (hk : k < Wd C c) (hu : wTw C (Wo C c k) b = true) : wCl C c a b = wCl C (Wo C c k) (wSb a (Wa C c k)) b := by
  have k4 := (h.2.2.2.1 c k hc hk).1
  rw [wCl_sub h c a b hc, h.2.2.2.2.2.2.1 c b k hc hb hg hk hu, wCl_sub h _ (Wa C c k) b (by omega), wCl_sub h _ (wSb a (Wa C c k)) b (by omega)]
  cases wCl C (Wo C c k) 3 b with
  | none => rfl
  | some r =>
    show some (wSb a (wSb (Wa C c k) r)) = some (wSb (wSb a (Wa C c k)) r)
    rw [wSb_sb]
theorem wCl_path (h : wCok C t) : ∀ c a b d r, c < Wn C → wCl C c a b = some r → wTw C b d = true → Wg C d = true → wCl C c a d = wCl C b r d := by
  intro c
  induction c using Nat.strongRecOn with
  | ind c ih =>
    intro a b d r hc h1 h2 h3
    by_cases e : c = b
    · rw [e, wCl_here] at h1
      cases h1
      rw [e]
    · have hu := wCl_tw h hc h1
      obtain ⟨k, k1, k2, k3, _⟩ := wFe_some h hc hu e
      have k4 := (h.2.2.2.1 c k hc k2).1
      have hb := wTw_le h hc hu
      have hd := wTw_le h (show b < Wn C by omega) h2
      rw [wCl_step h a hc e k1] at h1
      rw [wCl_edge h a hc (by omega) h3 k2 (wTw_tr h (by omega) k3 h2)]
      exact ih _ k4 _ b d r (by omega) h1 h2 h3
/-- an own ARGUMENT is as its class is -/
def wOk (t : Nat) (g : Bool) (a : Nat) : Prop := (g = false ∧ a = 0) ∨ (g = true ∧ ∃ x, 8 ≤ x ∧ x < t ∧ (a = 4 * x + 1 ∨ a = 4 * x + 2))
theorem wOk_mono {t' : Nat} {g : Bool} {a : Nat} (h : wOk t g a) (ht : t ≤ t') : wOk t' g a := by
  rcases h with h | ⟨h1, x, h2, h3, h4⟩
  · exact Or.inl h
  · exact Or.inr ⟨h1, x, h2, by omega, h4⟩
theorem wCl_ok (h : wCok C t) : ∀ c a b r, c < Wn C → wOk t (Wg C c) a → wCl C c a b = some r → wOk t (Wg C b) r := by
  intro c
  induction c using Nat.strongRecOn with
  | ind c ih =>
    intro a b r hc ho h1
    by_cases e : c = b
    · rw [e, wCl_here] at h1
      cases h1
      rw [← e]; exact ho
    · obtain ⟨k, k1, k2, k3, _⟩ := wFe_some h hc (wCl_tw h hc h1) e
      obtain ⟨k4, k5⟩ := h.2.2.2.1 c k hc k2
      rw [wCl_step h a hc e k1] at h1
      refine ih _ k4 _ b r (by omega) ?_ h1
      rcases k5 with ⟨q1, q2⟩ | ⟨q1, ⟨x, x1, x2, x3⟩ | ⟨q2, q3⟩⟩
      · rw [q2]; exact Or.inl ⟨q1, rfl⟩
      · rw [x3]
        unfold wSb
        rw [if_neg (by omega)]
        exact Or.inr ⟨q1, x, x1, x2, Or.inl rfl⟩
      · rw [q2]
        unfold wSb
        rw [if_pos rfl]
        rcases ho with ⟨w1, _⟩ | ⟨_, w2⟩
        · rw [w1] at q3; cases q3
        · exact Or.inr ⟨q1, w2⟩
end
-- part 08.51.below.lean.txt
/-! Tier 3: LOOK in a type, BELOW over the tables; BELOW goes on from one to the next. -/
/-- the NAMED types in which a LOOK in type i looks -/
def wHo (T : wWt) (i : Nat) : List Nat := if dK (Ty T i) = 0 then [i + 8] else if dK (Ty T i) = 1 then [i] else dL (Ty T i)
def wLs (C : wWc) (T : wWt) (b : Nat) : List Nat → Option Nat
  | [] => none
  | p :: l => match wCl C (dX (Ty T p)) (dA (Ty T p)) b with
    | some r => some r
    | none => wLs C T b l
/-- a LOOK at class b in type i -/
def wLk (C : wWc) (T : wWt) (i b : Nat) : Option Nat := if dK (Ty T i) = 2 then (if b < 3 then some 0 else none) else wLs C T b (wHo T i)
/-- those of which one must fit, for a to be BELOW a NAMED type -/
def wPt (T : wWt) (a : Nat) : List Nat := if dK (Ty T a) = 3 then dL (Ty T a) else [a]
def wBe (C : wWc) (T : wWt) : Nat → Nat → Nat → Prop
  | 0, a, b => a = b
  | f + 1, a, b => a = b ∨ (dK (Ty T b) = 3 ∧ ∀ p, p ∈ dL (Ty T b) → wBe C T f a p) ∨
      (dK (Ty T b) = 1 ∧ ∃ h r, h ∈ wPt T a ∧ wLk C T h (dX (Ty T b)) = some r ∧ (r = dA (Ty T b) ∨ dA (Ty T b) % 4 = 2 ∧ wBe C T f (r / 4) (dA (Ty T b) / 4))) ∨
      (dK (Ty T a) = 2 ∧ dK (Ty T b) = 2 ∧ 8 ≤ dX (Ty T a) ∧ 8 ≤ dX (Ty T b) ∧ wBe C T f (dX (Ty T a)) (dX (Ty T b)))
def wSum (T : wWt) : List Nat → Nat
  | [] => 0
  | p :: l => Tm T p + wSum T l
/-- what holds of a type -/
def wTyE (C : wWc) (T : wWt) (i : Nat) : Prop := 1 ≤ Tm T i ∧ Tm T i ≤ 100 ∧
  ((i < 8 ∧ Ty T i = (0, 0, 0, []) ∧ Tm T i = 1) ∨
   (8 ≤ i ∧ ∃ c a, Ty T i = (1, c, a, []) ∧ c < Wn C ∧ wOk i (Wg C c) a ∧ Tm T i = 1 + (if a = 0 then 0 else Tm T (a / 4))) ∨
   (8 ≤ i ∧ ∃ e, Ty T i = (2, e, 0, []) ∧ e < i ∧ Tm T i = 1 + Tm T e) ∨
   (8 ≤ i ∧ ∃ l, Ty T i = (3, 0, 0, l) ∧ 2 ≤ l.length ∧ l.length ≤ 30 ∧ (∀ p, p ∈ l → 8 ≤ p ∧ p < i ∧ dK (Ty T p) = 1) ∧ (∀ j k (hj : j < l.length) (hk : k < l.length), j < k → dX (Ty T l[j]) < dX (Ty T l[k])) ∧ Tm T i = 1 + wSum T l))
def wTok (C : wWc) (T : wWt) : Prop := 16 ≤ Tn T ∧ Tn T ≤ 300 ∧ (∀ i, i < Tn T → wTyE C T i) ∧ (∀ i, 8 ≤ i → i < 16 → Ty T i = (1, i - 3, 0, []))
def wOK (C : wWc) (T : wWt) : Prop := wCok C (Tn T) ∧ wTok C T
section
variable {C : wWc} {T : wWt}
theorem wT_named (h : wTok C T) {i : Nat} (hi : i < Tn T) (hk : dK (Ty T i) = 1) : 8 ≤ i ∧ dX (Ty T i) < Wn C ∧ wOk i (Wg C (dX (Ty T i))) (dA (Ty T i)) ∧ Tm T i = 1 + (if dA (Ty T i) = 0 then 0 else Tm T (dA (Ty T i) / 4)) := by
  obtain ⟨_, _, h1 | ⟨h0, c, a, h1, h2⟩ | ⟨_, e, h1, _⟩ | ⟨_, l, h1, _⟩⟩ := h.2.2.1 i hi
  · rw [h1.2.1] at hk; cases hk
  · rw [h1]; exact ⟨h0, h2⟩
  · rw [h1] at hk; cases hk
  · rw [h1] at hk; cases hk
theorem wT_arr (h : wTok C T) {i : Nat} (hi : i < Tn T) (hk : dK (Ty T i) = 2) : 8 ≤ i ∧ dX (Ty T i) < i ∧ Tm T i = 1 + Tm T (dX (Ty T i)) := by
  obtain ⟨_, _, h1 | ⟨h0, c, a, h1, h2⟩ | ⟨h0, e, h1, h2⟩ | ⟨_, l, h1, _⟩⟩ := h.2.2.1 i hi
  · rw [h1.2.1] at hk; cases hk
  · rw [h1] at hk; cases hk
  · rw [h1]; exact ⟨h0, h2⟩
  · rw [h1] at hk; cases hk
theorem wT_both (h : wTok C T) {i : Nat} (hi : i < Tn T) (hk : dK (Ty T i) = 3) : 8 ≤ i ∧ 2 ≤ (dL (Ty T i)).length ∧ (dL (Ty T i)).length ≤ 30 ∧ (∀ p, p ∈ dL (Ty T i) → 8 ≤ p ∧ p < i ∧ dK (Ty T p) = 1) ∧ (∀ j k (hj : j < (dL (Ty T i)).length) (hk : k < (dL (Ty T i)).length), j < k → dX (Ty T (dL (Ty T i))[j]) < dX (Ty T (dL (Ty T i))[k])) ∧ Tm T i = 1 + wSum T (dL (Ty T i)) := by
  obtain ⟨_, _, h1 | ⟨h0, c, a, h1, h2⟩ | ⟨h0, e, h1, h2⟩ | ⟨h0, l, h1, h2⟩⟩ := h.2.2.1 i hi
  · rw [h1.2.1] at hk; cases hk
  · rw [h1] at hk; cases hk
  · rw [h1] at hk; cases hk
  · rw [h1]; exact ⟨h0, h2⟩
theorem wT_kind (h : wTok C T) {i : Nat} (hi : i < Tn T) : dK (Ty T i) = 0 ∧ i < 8 ∨ 8 ≤ i ∧ (dK (Ty T i) = 1 ∨ dK (Ty T i) = 2 ∨ dK (Ty T i) = 3) := by
  obtain ⟨_, _, h1 | ⟨h0, c, a, h1, h2⟩ | ⟨h0, e, h1, h2⟩ | ⟨h0, l, h1, h2⟩⟩ := h.2.2.1 i hi
  · rw [h1.2.1]; exact Or.inl ⟨rfl, h1.1⟩
  · rw [h1]; exact Or.inr ⟨h0, Or.inl rfl⟩
  · rw [h1]; exact Or.inr ⟨h0, Or.inr (Or.inl rfl)⟩
  · rw [h1]; exact Or.inr ⟨h0, Or.inr (Or.inr rfl)⟩
theorem wHo_ok (h : wTok C T) {i : Nat} (hi : i < Tn T) (h2 : dK (Ty T i) ≠ 2) {p : Nat} (hp : p ∈ wHo T i) : 8 ≤ p ∧ p < Tn T ∧ dK (Ty T p) = 1 := by
  unfold wHo at hp
  have h16 := h.1
  rcases wT_kind h hi with ⟨q1, q2⟩ | ⟨q1, q2 | q2 | q2⟩
  · rw [if_pos q1, List.mem_singleton] at hp
    subst hp
    refine ⟨by omega, by omega, ?_⟩
    rw [h.2.2.2 (i + 8) (by omega) (by omega)]
  · rw [if_neg (by omega), if_pos q2, List.mem_singleton] at hp
    subst hp
    exact ⟨q1, hi, q2⟩
  · exact absurd q2 h2
  · rw [if_neg (by omega), if_neg (by omega)] at hp
    obtain ⟨_, _, _, w, _⟩ := wT_both h hi q2
    obtain ⟨w1, w2, w3⟩ := w p hp
    exact ⟨w1, by omega, w3⟩
theorem wLs_ok (h : wOK C T) {b r : Nat} : ∀ (l : List Nat), (∀ p, p ∈ l → p < Tn T ∧ dK (Ty T p) = 1) → wLs C T b l = some r → wOk (Tn T) (Wg C b) r ∧ ∃ p, p ∈ l ∧ wCl C (dX (Ty T p)) (dA (Ty T p)) b = some r := by
  intro l
  induction l with
  | nil => intro _ q; cases q
  | cons p l ih =>
    intro hl q
    rw [wLs] at q
    obtain ⟨p1, p2⟩ := hl p (by simp)
    obtain ⟨_, p3, p4, _⟩ := wT_named h.2 p1 p2
    cases w : wCl C (dX (Ty T p)) (dA (Ty T p)) b with
    | some v =>
      rw [w] at q
      cases q
      exact ⟨wCl_ok h.1 _ _ _ _ p3 (wOk_mono p4 (by omega)) w, p, by simp, w⟩
    | none =>
      rw [w] at q
      obtain ⟨q1, p', q2, q3⟩ := ih (fun p hp => hl p (by simp [hp])) q
      exact ⟨q1, p', by simp [q2], q3⟩
theorem wLk_ok (h : wOK C T) {i b r : Nat} (hi : i < Tn T) (q : wLk C T i b = some r) : wOk (Tn T) (Wg C b) r := by
  unfold wLk at q
  by_cases h2 : dK (Ty T i) = 2
  · rw [if_pos h2] at q
    by_cases hb : b < 3
    · rw [if_pos hb] at q
      cases q
      exact Or.inl ⟨h.1.2.2.2.2.2.2.2.1 b hb, rfl⟩
    · rw [if_neg hb] at q; cases q
  · rw [if_neg h2] at q
    exact (wLs_ok h _ (fun p hp => (wHo_ok h.2 hi h2 hp).2) q).1
theorem wPt_ok (h : wTok C T) {a p : Nat} (ha : a < Tn T) (hp : p ∈ wPt T a) : p < Tn T ∧ dK (Ty T p) ≠ 3 := by
  unfold wPt at hp
  by_cases q : dK (Ty T a) = 3
  · rw [if_pos q] at hp
    obtain ⟨_, _, _, w, _⟩ := wT_both h ha q
    obtain ⟨w1, w2, w3⟩ := w p hp
    exact ⟨by omega, by omega⟩
  · rw [if_neg q, List.mem_singleton] at hp
    subst hp
    exact ⟨ha, q⟩
/-- the components of a type have lower numbers -/
theorem wBe_fuel (h : wOK C T) : ∀ (b f g a : Nat), a < Tn T → b < Tn T → b ≤ f → b ≤ g → (wBe C T f a b ↔ wBe C T g a b) := by
  intro b
  induction b using Nat.strongRecOn with
  | ind b ih =>
    have one : ∀ (f g a : Nat), a < Tn T → b < Tn T → b ≤ f → b ≤ g → wBe C T f a b → wBe C T g a b := by
      intro f g a ha hb hf hg q
      cases f with
      | zero =>
        rw [wBe] at q
        cases g with
        | zero => rw [wBe]; exact q
        | succ g => rw [wBe]; exact Or.inl q
      | succ f =>
        rw [wBe] at q
        cases g with
        | zero =>
          rw [wBe]
          have hb0 : b = 0 := by omega
          subst hb0
          rcases wT_kind h.2 hb with ⟨w, _⟩ | ⟨w, _⟩
          · rcases q with q | ⟨q, _⟩ | ⟨q, _⟩ | ⟨_, q, _⟩
            · exact q
            · omega
            · omega
            · omega
          · omega
        | succ g =>
          rw [wBe]
          rcases q with q | ⟨q1, q2⟩ | ⟨q1, x, r, q2, q3, q4⟩ | ⟨q1, q2, q3, q4, q5⟩
          · exact Or.inl q
          · refine Or.inr (Or.inl ⟨q1, fun p hp => ?_⟩)
            obtain ⟨_, _, _, w, _⟩ := wT_both h.2 hb q1
            obtain ⟨w1, w2, w3⟩ := w p hp
            exact (ih p w2 f g a ha (by omega) (by omega) (by omega)).mp (q2 p hp)
          · refine Or.inr (Or.inr (Or.inl ⟨q1, x, r, q2, q3, ?_⟩))
            rcases q4 with q4 | ⟨q4, q5⟩
            · exact Or.inl q4
            · obtain ⟨_, w1, w2, _⟩ := wT_named h.2 hb q1
              have wr := wLk_ok h (wPt_ok h.2 ha q2).1 q3
              rcases w2 with ⟨_, w2⟩ | ⟨g0, y, y1, y2, y3⟩
              · omega
              · rcases wr with ⟨g1, _⟩ | ⟨_, z, z1, z2, z3⟩
                · rw [g0] at g1; cases g1
                · exact Or.inr ⟨q4, (ih (dA (Ty T b) / 4) (by omega) f g (r / 4) (by omega) (by omega) (by omega) (by omega)).mp q5⟩
          · obtain ⟨_, w1, _⟩ := wT_arr h.2 ha q1
            obtain ⟨_, w2, _⟩ := wT_arr h.2 hb q2
            exact Or.inr (Or.inr (Or.inr ⟨q1, q2, q3, q4, (ih _ w2 f g _ (by omega) (by omega) (by omega) (by omega)).mp q5⟩))
    intro f g a ha hb hf hg
    exact ⟨one f g a ha hb hf hg, one g f a ha hb hg hf⟩
/-- a is BELOW b -/
def wB (C : wWc) (T : wWt) (a b : Nat) : Prop := wBe C T b a b
theorem wB_f (h : wOK C T) {f a b : Nat} (ha : a < Tn T) (hb : b < Tn T) (hf : b ≤ f) : wBe C T f a b ↔ wB C T a b := wBe_fuel h b f b a ha hb hf (Nat.le_refl b)
theorem wB_iff (h : wOK C T) {a b : Nat} (ha : a < Tn T) (hb : b < Tn T) : wB C T a b ↔ (a = b ∨ (dK (Ty T b) = 3 ∧ ∀ p, p ∈ dL (Ty T b) → wB C T a p) ∨
      (dK (Ty T b) = 1 ∧ ∃ x r, x ∈ wPt T a ∧ wLk C T x (dX (Ty T b)) = some r ∧ (r = dA (Ty T b) ∨ dA (Ty T b) % 4 = 2 ∧ wB C T (r / 4) (dA (Ty T b) / 4))) ∨
      (dK (Ty T a) = 2 ∧ dK (Ty T b) = 2 ∧ 8 ≤ dX (Ty T a) ∧ 8 ≤ dX (Ty T b) ∧ wB C T (dX (Ty T a)) (dX (Ty T b)))) := by
  rw [← wB_f h ha hb (Nat.le_succ b), wBe]
  have p2 : dK (Ty T b) = 3 → ((∀ p, p ∈ dL (Ty T b) → wBe C T b a p) ↔ (∀ p, p ∈ dL (Ty T b) → wB C T a p)) := by
    intro q
    obtain ⟨_, _, _, w, _⟩ := wT_both h.2 hb q
    exact ⟨fun k p hp => (wB_f h ha (by have := w p hp; omega) (by have := w p hp; omega)).mp (k p hp), fun k p hp => (wB_f h ha (by have := w p hp; omega) (by have := w p hp; omega)).mpr (k p hp)⟩
  have p3 : dK (Ty T b) = 1 → ∀ x r, x ∈ wPt T a → wLk C T x (dX (Ty T b)) = some r → dA (Ty T b) % 4 = 2 → (wBe C T b (r / 4) (dA (Ty T b) / 4) ↔ wB C T (r / 4) (dA (Ty T b) / 4)) := by
    intro q x r hx hl h4
    obtain ⟨_, w1, w2, _⟩ := wT_named h.2 hb q
    have wr := wLk_ok h (wPt_ok h.2 ha hx).1 hl
    rcases w2 with ⟨_, w2⟩ | ⟨g0, y, y1, y2, y3⟩
    · omega
    · rcases wr with ⟨g1, _⟩ | ⟨_, z, z1, z2, z3⟩
      · rw [g0] at g1; cases g1
      · exact wB_f h (by omega) (by omega) (by omega)
  constructor
  · rintro (q | ⟨q1, q2⟩ | ⟨q1, x, r, q2, q3, q4⟩ | ⟨q1, q2, q3, q4, q5⟩)
    · exact Or.inl q
    · exact Or.inr (Or.inl ⟨q1, (p2 q1).mp q2⟩)
    · refine Or.inr (Or.inr (Or.inl ⟨q1, x, r, q2, q3, ?_⟩))
      rcases q4 with q4 | ⟨q4, q5⟩
      · exact Or.inl q4
      · exact Or.inr ⟨q4, (p3 q1 x r q2 q3 q4).mp q5⟩
    · obtain ⟨_, w1, _⟩ := wT_arr h.2 ha q1
      obtain ⟨_, w2, _⟩ := wT_arr h.2 hb q2
      exact Or.inr (Or.inr (Or.inr ⟨q1, q2, q3, q4, (wB_f h (by omega) (by omega) (by omega)).mp q5⟩))
  · rintro (q | ⟨q1, q2⟩ | ⟨q1, x, r, q2, q3, q4⟩ | ⟨q1, q2, q3, q4, q5⟩)
    · exact Or.inl q
    · exact Or.inr (Or.inl ⟨q1, (p2 q1).mpr q2⟩)
    · refine Or.inr (Or.inr (Or.inl ⟨q1, x, r, q2, q3, ?_⟩))
      rcases q4 with q4 | ⟨q4, q5⟩
      · exact Or.inl q4
      · exact Or.inr ⟨q4, (p3 q1 x r q2 q3 q4).mpr q5⟩
    · obtain ⟨_, w1, _⟩ := wT_arr h.2 ha q1
      obtain ⟨_, w2, _⟩ := wT_arr h.2 hb q2
      exact Or.inr (Or.inr (Or.inr ⟨q1, q2, q3, q4, (wB_f h (by omega) (by omega) (by omega)).mpr q5⟩))
end
-- part 08.52.trans.lean.txt
/-! Tier 3: BELOW is transitive; of the PARTS of two types, neither BELOW the other, two stay at least. -/
section
variable {C : wWc} {T : wWt}
theorem wLk_one (T : wWt) {y q : Nat} (h2 : dK (Ty T y) ≠ 2) (e : wHo T y = [q]) (b : Nat) : wLk C T y b = wCl C (dX (Ty T q)) (dA (Ty T q)) b := by
  unfold wLk
  rw [if_neg h2, e, wLs]
  cases wCl C (dX (Ty T q)) (dA (Ty T q)) b with
  | some r => rfl
  | none => rfl
theorem wHo_one (h : wTok C T) {y : Nat} (hy : y < Tn T) (h2 : dK (Ty T y) ≠ 2) (h3 : dK (Ty T y) ≠ 3) : ∃ q, wHo T y = [q] ∧ q < Tn T ∧ dK (Ty T q) = 1 := by
  have key : ∃ q, wHo T y = [q] := by
    unfold wHo
    rcases wT_kind h hy with ⟨q1, q2⟩ | ⟨q1, q2 | q2 | q2⟩
    · rw [if_pos q1]; exact ⟨_, rfl⟩
    · rw [if_neg (by omega), if_pos q2]; exact ⟨_, rfl⟩
    · exact absurd q2 h2
    · exact absurd q2 h3
  obtain ⟨q, e⟩ := key
  exact ⟨q, e, (wHo_ok h hy h2 (by rw [e]; simp)).2⟩
theorem wPt_named (T : wWt) {b : Nat} (hb : dK (Ty T b) ≠ 3) : wPt T b = [b] := by
  unfold wPt; rw [if_neg hb]
theorem wLk_named (T : wWt) {b : Nat} (hb : dK (Ty T b) = 1) (c : Nat) : wLk C T b c = wCl C (dX (Ty T b)) (dA (Ty T b)) c :=
  wLk_one T (by omega) (by unfold wHo; rw [if_neg (by omega), if_pos hb]) c
/-- what is found FITS into the ARGUMENT z -/
def wFit (C : wWc) (T : wWt) (r z : Nat) : Prop := r = z ∨ z % 4 = 2 ∧ wB C T (r / 4) (z / 4)
theorem wB_named (h : wOK C T) {a b : Nat} (ha : a < Tn T) (hb : b < Tn T) (hk : dK (Ty T b) = 1) : wB C T a b ↔ (a = b ∨ ∃ x r, x ∈ wPt T a ∧ wLk C T x (dX (Ty T b)) = some r ∧ wFit C T r (dA (Ty T b))) := by
  rw [wB_iff h ha hb]
  constructor
  · rintro (q | ⟨q1, _⟩ | ⟨_, q⟩ | ⟨_, q, _⟩)
    · exact Or.inl q
    · omega
    · exact Or.inr q
    · omega
  · rintro (q | q)
    · exact Or.inl q
    · exact Or.inr (Or.inr (Or.inl ⟨hk, q⟩))
theorem wB_trans (h : wOK C T) : ∀ c a b, a < Tn T → b < Tn T → c < Tn T → wB C T a b → wB C T b c → wB C T a c := by
  intro c
  induction c using Nat.strongRecOn with
  | ind c ih =>
    -- b NAMED, c NAMED
    have main : ∀ a b, a < Tn T → b < Tn T → c < Tn T → dK (Ty T b) = 1 → dK (Ty T c) = 1 → wB C T a b → wB C T b c → wB C T a c := by
      intro a b ha hb hc kb kc q1 q2
      by_cases e1 : a = b
      · rw [e1]; exact q2
      by_cases e2 : b = c
      · rw [← e2]; exact q1
      obtain ⟨y, α, y1, y2, y3⟩ := ((wB_named h ha hb kb).mp q1).resolve_left e1
      obtain ⟨x, r, x1, x2, x3⟩ := ((wB_named h hb hc kc).mp q2).resolve_left e2
      rw [wPt_named T (by omega), List.mem_singleton] at x1
      subst x1
      rw [wLk_named T kb] at x2
      obtain ⟨_, b1, b2, _⟩ := wT_named h.2 hb kb
      obtain ⟨_, c1, c2, _⟩ := wT_named h.2 hc kc
      have tw := wCl_tw h.1 b1 x2
      have ok2 := wCl_ok h.1 _ _ _ _ b1 (wOk_mono b2 (by omega)) x2
      obtain ⟨y4, y5⟩ := wPt_ok h.2 ha y1
      refine (wB_named h ha hc kc).mpr (Or.inr ?_)
      by_cases y6 : dK (Ty T y) = 2
      · unfold wLk at y2
        rw [if_pos y6] at y2
        by_cases y7 : dX (Ty T x) < 3
        · have y8 : dX (Ty T c) < 3 := by
            by_cases e : dX (Ty T x) = dX (Ty T c)
            · omega
            · exact h.1.2.2.2.2.2.2.2.2 _ _ y7 (wTw_ne tw e)
          have g0 := h.1.2.2.2.2.2.2.2.1 _ y8
          refine ⟨y, 0, y1, ?_, Or.inl ?_⟩
          · unfold wLk; rw [if_pos y6, if_pos y8]
          · rcases c2 with ⟨_, w⟩ | ⟨w, _⟩
            · exact w.symm
            · rw [g0] at w; cases w
        · rw [if_neg y7] at y2; cases y2
      · obtain ⟨q, e, q4, q5⟩ := wHo_one h.2 y4 y6 y5
        rw [wLk_one T y6 e] at y2
        obtain ⟨_, w1, w2, _⟩ := wT_named h.2 q4 q5
        have twq := wTw_tr h.1 w1 (wCl_tw h.1 w1 y2) tw
        cases hg : Wg C (dX (Ty T c)) with
        | false =>
          obtain ⟨β, hβ⟩ := wCl_some h.1 _ (dA (Ty T q)) _ w1 twq
          refine ⟨y, β, y1, by rw [wLk_one T y6 e]; exact hβ, Or.inl ?_⟩
          have okβ := wCl_ok h.1 _ _ _ _ w1 (wOk_mono w2 (by omega)) hβ
          rcases okβ with ⟨_, z1⟩ | ⟨z1, _⟩
          · rcases c2 with ⟨_, z2⟩ | ⟨z2, _⟩
            · omega
            · rw [hg] at z2; cases z2
          · rw [hg] at z1; cases z1
        | true =>
          have ep := wCl_path h.1 _ _ _ _ _ w1 y2 tw hg
          obtain ⟨s, hs⟩ := wCl_some h.1 (dX (Ty T x)) 3 _ b1 tw
          have er : wCl C (dX (Ty T x)) (dA (Ty T x)) (dX (Ty T c)) = some (wSb (dA (Ty T x)) s) := by
            rw [wCl_sub h.1 _ _ _ b1, hs]; rfl
          have ea : wCl C (dX (Ty T x)) α (dX (Ty T c)) = some (wSb α s) := by
            rw [wCl_sub h.1 _ _ _ b1, hs]; rfl
          rw [er] at x2
          have x2' := (Option.some.inj x2)
          refine ⟨y, wSb α s, y1, by rw [wLk_one T y6 e, ep]; exact ea, ?_⟩
          by_cases s3 : s = 3
          · rw [s3] at x2' ⊢
            unfold wSb at x2' ⊢
            rw [if_pos rfl] at x2' ⊢
            subst x2'
            have okα := wCl_ok h.1 _ _ _ _ w1 (wOk_mono w2 (by omega)) y2
            rcases x3 with x3 | ⟨x3, x4⟩
            · rw [← x3]; exact y3
            · rcases y3 with y3 | ⟨y3, y7⟩
              · rw [y3]; exact Or.inr ⟨x3, x4⟩
              · refine Or.inr ⟨x3, ?_⟩
                rcases c2 with ⟨_, z⟩ | ⟨_, z, z1, z2, z3⟩
                · omega
                · rcases b2 with ⟨_, v⟩ | ⟨g1, v, v1, v2, v3⟩
                  · omega
                  · rcases okα with ⟨g2, _⟩ | ⟨_, u, u1, u2, u3⟩
                    · rw [g1] at g2; cases g2
                    · exact ih (dA (Ty T c) / 4) (by omega) (α / 4) (dA (Ty T x) / 4) (by omega) (by omega) (by omega) y7 x4
          · have : wSb α s = r := by
              rw [← x2']; unfold wSb; rw [if_neg s3, if_neg s3]
            rw [this]; exact x3
    intro a b ha hb hc q1 q2
    by_cases e1 : a = b
    · rw [e1]; exact q2
    by_cases e2 : b = c
    · rw [← e2]; exact q1
    rcases ((wB_iff h hb hc).mp q2).resolve_left e2 with ⟨k3, w⟩ | ⟨k1, x, r, x1, x2, x3⟩ | ⟨k2, k2', w1, w2, w3⟩
    · refine (wB_iff h ha hc).mpr (Or.inr (Or.inl ⟨k3, fun p hp => ?_⟩))
      obtain ⟨_, _, _, z, _⟩ := wT_both h.2 hc k3
      have := z p hp
      exact ih p (by omega) a b ha hb (by omega) q1 (w p hp)
    · rcases wT_kind h.2 hb with ⟨b1, b2⟩ | ⟨b1, b2 | b2 | b2⟩
      · rcases ((wB_iff h ha hb).mp q1).resolve_left e1 with ⟨z, _⟩ | ⟨z, _⟩ | ⟨_, z, _⟩
        · omega
        · omega
        · omega
      · exact main a b ha hb hc b2 k1 q1 q2
      · rw [wPt_named T (by omega), List.mem_singleton] at x1
        subst x1
        rcases ((wB_iff h ha hb).mp q1).resolve_left e1 with ⟨z, _⟩ | ⟨z, _⟩ | ⟨z, _⟩
        · omega
        · omega
        · refine (wB_named h ha hc k1).mpr (Or.inr ⟨a, r, ?_, ?_, x3⟩)
          · rw [wPt_named T (by omega)]; simp
          · unfold wLk at x2 ⊢
            rw [if_pos b2] at x2
            rw [if_pos z]; exact x2
      · have x1' := x1
        unfold wPt at x1'
        rw [if_pos b2] at x1'
        obtain ⟨_, _, _, z, _⟩ := wT_both h.2 hb b2
        obtain ⟨z1, z2, z3⟩ := z x x1'
        have qa : wB C T a x := by
          rcases ((wB_iff h ha hb).mp q1).resolve_left e1 with ⟨_, v⟩ | ⟨v, _⟩ | ⟨_, v, _⟩
          · exact v x x1'
          · omega
          · omega
        refine main a x ha (by omega) hc z3 k1 qa ?_
        exact (wB_named h (by omega) hc k1).mpr (Or.inr ⟨x, r, by rw [wPt_named T (by omega)]; simp, x2, x3⟩)
    · rcases ((wB_iff h ha hb).mp q1).resolve_left e1 with ⟨z, _⟩ | ⟨z, _⟩ | ⟨z1, z2, z3, z4, z5⟩
      · omega
      · omega
      · refine (wB_iff h ha hc).mpr (Or.inr (Or.inr (Or.inr ⟨z1, k2', z3, w2, ?_⟩)))
        obtain ⟨_, v1, _⟩ := wT_arr h.2 ha z1
        obtain ⟨_, v2, _⟩ := wT_arr h.2 hb k2
        obtain ⟨_, v3, _⟩ := wT_arr h.2 hc k2'
        exact ih _ v3 _ _ (by omega) (by omega) (by omega) z5 w3
theorem wB_refl (h : wOK C T) {a : Nat} (ha : a < Tn T) : wB C T a a := (wB_iff h ha ha).mpr (Or.inl rfl)
/-- the PARTS of a type -/
def wPs (T : wWt) (a : Nat) : List Nat := if dK (Ty T a) = 1 then [a] else dL (Ty T a)
theorem wPs_ok (h : wTok C T) {a p : Nat} (ha : a < Tn T) (hp : p ∈ wPs T a) : 8 ≤ p ∧ p < Tn T ∧ dK (Ty T p) = 1 := by
  unfold wPs at hp
  rcases wT_kind h ha with ⟨q1, q2⟩ | ⟨q1, q2 | q2 | q2⟩
  · rw [if_neg (by omega)] at hp
    obtain ⟨_, _, h1 | ⟨h0, _⟩ | ⟨h0, _⟩ | ⟨h0, _⟩⟩ := h.2.2.1 a ha
    · rw [h1.2.1] at hp; cases hp
    · omega
    · omega
    · omega
  · rw [if_pos q2, List.mem_singleton] at hp
    subst hp
    exact ⟨q1, ha, q2⟩
  · rw [if_neg (by omega)] at hp
    obtain ⟨_, _, h1 | ⟨_, _, _, h0, _⟩ | ⟨_, _, h0, _⟩ | ⟨_, _, h0, _⟩⟩ := h.2.2.1 a ha
    · omega
    · rw [h0] at q2; cases q2
    · rw [h0] at hp; cases hp
    · rw [h0] at q2; cases q2
  · rw [if_neg (by omega)] at hp
    obtain ⟨_, _, _, w, _⟩ := wT_both h ha q2
    have := w p hp
    exact ⟨this.1, by omega, this.2.2⟩
theorem wPs_inj (h : wTok C T) {a p q : Nat} (ha : a < Tn T) (hp : p ∈ wPs T a) (hq : q ∈ wPs T a) (e : dX (Ty T p) = dX (Ty T q)) : p = q := by
  rcases wT_kind h ha with ⟨q1, q2⟩ | ⟨q1, q2 | q2 | q2⟩
  · have := wPs_ok h ha hp
    unfold wPs at hp
    rw [if_neg (by omega)] at hp
    obtain ⟨_, _, h1 | ⟨h0, _⟩ | ⟨h0, _⟩ | ⟨h0, _⟩⟩ := h.2.2.1 a ha
    · rw [h1.2.1] at hp; cases hp
    · omega
    · omega
    · omega
  · unfold wPs at hp hq
    rw [if_pos q2, List.mem_singleton] at hp hq
    rw [hp, hq]
  · unfold wPs at hp
    rw [if_neg (by omega)] at hp
    obtain ⟨_, _, h1 | ⟨_, _, _, h0, _⟩ | ⟨_, _, h0, _⟩ | ⟨_, _, h0, _⟩⟩ := h.2.2.1 a ha
    · omega
    · rw [h0] at q2; cases q2
    · rw [h0] at hp; cases hp
    · rw [h0] at q2; cases q2
  · unfold wPs at hp hq
    rw [if_neg (by omega)] at hp hq
    obtain ⟨_, _, _, _, w, _⟩ := wT_both h ha q2
    obtain ⟨i, i1, i2⟩ := List.mem_iff_getElem.mp hp
    obtain ⟨j, j1, j2⟩ := List.mem_iff_getElem.mp hq
    have hij : i = j := by
      rcases Nat.lt_trichotomy i j with z | z | z
      · have := w i j i1 j1 z; rw [i2, j2] at this; omega
      · exact z
      · have := w j i j1 i1 z; rw [i2, j2] at this; omega
    subst hij
    rw [← i2, ← j2]
theorem wB_cls (h : wOK C T) {a b : Nat} (ha : a < Tn T) (hb : b < Tn T) (ka : dK (Ty T a) = 1) (kb : dK (Ty T b) = 1) (q : wB C T a b) : wTw C (dX (Ty T a)) (dX (Ty T b)) = true := by
  by_cases e : a = b
  · rw [e]; exact wTw_self _
  · obtain ⟨x, r, x1, x2, _⟩ := ((wB_named h ha hb kb).mp q).resolve_left e
    rw [wPt_named T (by omega), List.mem_singleton] at x1
    subst x1
    rw [wLk_named T ka] at x2
    exact wCl_tw h.1 (wT_named h.2 ha ka).2.1 x2
/-- a is BELOW b, if of each PART of b a PART of a is -/
theorem wB_parts (h : wOK C T) {a b : Nat} (ha : a < Tn T) (hb : b < Tn T) (hpa : wPs T a ≠ []) (hpb : wPs T b ≠ []) (q : ∀ p, p ∈ wPs T b → ∃ x, x ∈ wPs T a ∧ wB C T x p) : wB C T a b := by
  have one : ∀ p, p ∈ wPs T b → wB C T a p := by
    intro p hp
    obtain ⟨x, x1, x2⟩ := q p hp
    obtain ⟨p1, p2, p3⟩ := wPs_ok h.2 hb hp
    obtain ⟨y1, y2, y3⟩ := wPs_ok h.2 ha x1
    unfold wPs at x1
    by_cases k : dK (Ty T a) = 1
    · rw [if_pos k, List.mem_singleton] at x1
      subst x1; exact x2
    · rw [if_neg k] at x1
      have k3 : dK (Ty T a) = 3 := by
        obtain ⟨_, _, h1 | ⟨_, _, _, h0, _⟩ | ⟨_, _, h0, _⟩ | ⟨_, _, h0, _⟩⟩ := h.2.2.2.1 a ha
        · rw [h1.2.1] at x1; cases x1
        · rw [h0] at x1; cases x1
        · rw [h0] at x1; cases x1
        · rw [h0]
      have xp : x ∈ wPt T a := by unfold wPt; rw [if_pos k3]; exact x1
      refine (wB_named h ha p2 p3).mpr (Or.inr ?_)
      by_cases e : x = p
      · subst e
        exact ⟨x, dA (Ty T x), xp, by rw [wLk_named T y3, wCl_here], Or.inl rfl⟩
      · obtain ⟨z, r, z1, z2, z3⟩ := ((wB_named h y2 p2 p3).mp x2).resolve_left e
        rw [wPt_named T (by omega), List.mem_singleton] at z1
        subst z1
        exact ⟨z, r, xp, z2, z3⟩
  by_cases k : dK (Ty T b) = 1
  · exact one b (by unfold wPs; rw [if_pos k]; simp)
  · have k3 : dK (Ty T b) = 3 := by
      obtain ⟨_, _, h1 | ⟨_, _, _, h0, _⟩ | ⟨_, _, h0, _⟩ | ⟨_, _, h0, _⟩⟩ := h.2.2.2.1 b hb
      · exact absurd (by unfold wPs; rw [h1.2.1]; rfl) hpb
      · rw [h0] at k; exact absurd rfl k
      · exact absurd (by unfold wPs; rw [h0]; rfl) hpb
      · rw [h0]
    refine (wB_iff h ha hb).mpr (Or.inr (Or.inl ⟨k3, fun p hp => one p ?_⟩))
    unfold wPs; rw [if_neg k]; exact hp
/-- if a is not BELOW b, a PART of b stays, that is none of a's -/
theorem wB_stays (h : wOK C T) {a b : Nat} (ha : a < Tn T) (hb : b < Tn T) (hpa : wPs T a ≠ []) (hpb : wPs T b ≠ []) (hn : ¬ wB C T a b) : ∃ m, m ∈ wPs T b ∧ (∀ x, x ∈ wPs T a → ¬ wB C T x m) ∧ (∀ x, x ∈ wPs T b → x ≠ m → ¬ wB C T x m) := by
  have go : ∀ N p, p ∈ wPs T b → (∀ x, x ∈ wPs T a → ¬ wB C T x p) → Wn C - dX (Ty T p) ≤ N → ∃ m, m ∈ wPs T b ∧ (∀ x, x ∈ wPs T a → ¬ wB C T x m) ∧ (∀ x, x ∈ wPs T b → x ≠ m → ¬ wB C T x m) := by
    intro N
    induction N with
    | zero =>
      intro p hp _ hN
      obtain ⟨p1, p2, p3⟩ := wPs_ok h.2 hb hp
      have := (wT_named h.2 p2 p3).2.1
      omega
    | succ N ih =>
      intro p hp hx hN
      obtain ⟨p1, p2, p3⟩ := wPs_ok h.2 hb hp
      by_cases ex : ∃ y, y ∈ wPs T b ∧ y ≠ p ∧ wB C T y p
      · obtain ⟨y, y1, y2, y3⟩ := ex
        obtain ⟨z1, z2, z3⟩ := wPs_ok h.2 hb y1
        have w1 := (wT_named h.2 z2 z3).2.1
        have le := wTw_le h.1 w1 (wB_cls h z2 p2 z3 p3 y3)
        have ne : dX (Ty T y) ≠ dX (Ty T p) := fun e => y2 (wPs_inj h.2 hb y1 hp e)
        refine ih y y1 (fun x hxa q => ?_) (by omega)
        exact hx x hxa (wB_trans h p x y (wPs_ok h.2 ha hxa).2.1 z2 p2 q y3)
      · exact ⟨p, hp, hx, fun x x1 x2 x3 => ex ⟨x, x1, x2, x3⟩⟩
  by_cases ex : ∃ p, p ∈ wPs T b ∧ ∀ x, x ∈ wPs T a → ¬ wB C T x p
  · obtain ⟨p, p1, p2⟩ := ex
    exact go _ p p1 p2 (Nat.le_refl _)
  · refine absurd (wB_parts h ha hb hpa hpb (fun p hp => ?_)) hn
    refine Classical.byContradiction (fun q => ex ⟨p, hp, fun x hx w => q ⟨x, hx, w⟩⟩)
end
-- part 08.53.repC.lean.txt
/-! Tier 3: the class's own tables of classes hold the numbers; what its methods answer. -/
def b2 (b : Bool) : Int32 := if b = true then 1 else 0
def wTd (a : Nat) : Int32 := if a = 0 then -1 else if a = 3 then -2 else nI (a / 4)
def wEn (a : Nat) : Int32 := if a = 3 then -2 else nI a
def wEo (o : Option Nat) : Int32 := match o with
  | some r => wEn r
  | none => -1
def wIo (o : Option Nat) : Int32 := match o with
  | some r => nI r
  | none => -1
theorem b2_0 {b : Bool} : b2 b = 0 ↔ b = false := by cases b <;> decide
theorem b2_1 {b : Bool} : b2 b = 1 ↔ b = true := by cases b <;> decide
theorem wEn_3 : wEn 3 = -2 := rfl
theorem wEn_n {a : Nat} (h : a ≠ 3) : wEn a = nI a := by unfold wEn; rw [if_neg h]
/-- class c's row in the class's tables -/
def rCr (σ : StC) (C : wWc) (c : Nat) : Prop := C_faces σ c = b2 (Wf C c) ∧ C_generics σ c = b2 (Wg C c) ∧ C_directCounts σ c = nI (Wd C c) ∧
  (∀ k, k < Wd C c → C_directs σ (c * 30 + k) = nI (Wo C c k) ∧ C_tolds σ (c * 30 + k) = wTd (Wa C c k)) ∧ (∀ b, b < 32 → bt (C_above σ c) b = Wu C c b)
def rC (σ : StC) (C : wWc) (g : Nat) : Prop := C_count σ = nI (Wn C) ∧ C_countGeneric σ = nI g ∧ (∀ c, c < Wn C → rCr σ C c) ∧ (∀ c, Wn C ≤ c → c < 30 → C_directCounts σ c = 0 ∧ C_above σ c = 0)
theorem k_has (x : Int32) {b : Nat} (hb : b < 32) : f_L_has x (nI b) = b2 (bt x b) := by
  unfold f_L_has
  cases h : bt x b with
  | true => rw [if_neg (fun q => by rw [(k_bit0 x b hb).mp q] at h; cases h)]; rfl
  | false => rw [if_pos ((k_bit0 x b hb).mpr h)]; rfl
theorem k_inn {j m : Nat} (hj : j < m) (h : j < 2 ^ 31) : ¬ (nI j < 0 ∨ m ≤ j) := by
  rintro (q | q)
  · exact nI_pos h q
  · omega
section
variable {σ : StC} {C : wWc} {t g : Nat}
theorem rC_there (h : wCok C t) (r : rC σ C g) {j : Nat} (hj : j < Wn C) : ¬ f_C_isThere σ (nI j) = 0 := by
  have hn := h.2.1
  unfold f_C_isThere
  rw [if_neg (nI_pos (by omega)), r.1, if_neg (by rw [nI_leI (by omega) (by omega)]; omega)]
  decide
theorem rC_not (h : wCok C t) (r : rC σ C g) {x : Int32} (hx : ¬ ∃ j, j < Wn C ∧ x = nI j) : f_C_isThere σ x = 0 := by
  have hn := h.2.1
  unfold f_C_isThere
  by_cases q : x < 0
  · rw [if_pos q]
  · rw [if_neg q]
    obtain ⟨j, hj, rfl⟩ := nI_of q
    rw [r.1]
    by_cases q2 : nI (Wn C) ≤ nI j
    · rw [if_pos q2]
    · rw [nI_leI (by omega) hj] at q2
      exact absurd ⟨j, by omega, rfl⟩ hx
theorem r_C_isFace (h : wCok C t) (r : rC σ C g) {j : Nat} (hj : j < Wn C) : f_C_isFace σ (nI j) = some (b2 (Wf C j)) := by
  have hn := h.2.1
  unfold f_C_isFace
  rw [if_neg (rC_there h r hj), if_neg (nI_in (by omega) (by decide)), nI_clamp (by omega), (r.2.2.1 j hj).1]
  cases Wf C j <;> rfl
theorem r_C_isGeneric (h : wCok C t) (r : rC σ C g) {j : Nat} (hj : j < Wn C) : f_C_isGeneric σ (nI j) = some (b2 (Wg C j)) := by
  have hn := h.2.1
  unfold f_C_isGeneric
  rw [if_neg (rC_there h r hj), if_neg (nI_in (by omega) (by decide)), nI_clamp (by omega), (r.2.2.1 j hj).2.1]
  cases Wg C j <;> rfl
theorem r_C_aboveOf (h : wCok C t) (r : rC σ C g) {j : Nat} (hj : j < Wn C) : f_C_aboveOf σ (nI j) = some (C_above σ j) := by
  have hn := h.2.1
  unfold f_C_aboveOf
  rw [if_neg (rC_there h r hj), if_neg (nI_in (by omega) (by decide)), nI_clamp (by omega)]
theorem r_C_withAbove (h : wCok C t) (r : rC σ C g) {j : Nat} (hj : j < Wn C) : ∃ v, f_C_withAbove σ (nI j) = some v ∧ ∀ b, b < 32 → bt v b = wTw C j b := by
  have hn := h.2.1
  refine ⟨C_above σ j ||| ((1 : Int32) <<< (nI j &&& 31)), ?_, fun b hb => ?_⟩
  · unfold f_C_withAbove
    rw [if_neg (rC_there h r hj), if_neg (nI_in (by omega) (by decide)), nI_clamp (by omega)]
  · rw [b_or, k_shl1 j (by omega) hb, (r.2.2.1 j hj).2.2.2.2 b hb, Bool.or_comm]
    unfold wTw
    congr 1
    by_cases e : b = j
    · rw [decide_eq_true e, decide_eq_true e.symm]
    · rw [decide_eq_false e, decide_eq_false (fun q => e q.symm)]
theorem r_C_countDirect (h : wCok C t) (r : rC σ C g) {j : Nat} (hj : j < Wn C) : f_C_countDirect σ (nI j) = some (nI (Wd C j)) := by
  have hn := h.2.1
  unfold f_C_countDirect
  rw [if_neg (rC_there h r hj), if_neg (nI_in (by omega) (by decide)), nI_clamp (by omega), (r.2.2.1 j hj).2.2.1]
theorem r_C_directAt (h : wCok C t) (r : rC σ C g) {j k : Nat} (hj : j < Wn C) (hk : k < Wd C j) : f_C_directAt σ (nI j) (nI k) = some (nI (Wo C j k)) := by
  have hn := h.2.1
  have hd := (h.2.2.1 j hj).1
  unfold f_C_directAt
  rw [if_neg (rC_there h r hj), if_neg (nI_pos (by omega)), if_neg (nI_in (by omega) (by decide)), nI_clamp (show j < 2 ^ 31 by omega), (r.2.2.1 j hj).2.2.1, if_neg (by rw [nI_leI (by omega) (by omega)]; omega), if_neg (k_in2 (by omega) (by omega)), k_at2 (by omega) (by omega), ((r.2.2.1 j hj).2.2.2.1 k hk).1]
theorem r_C_toldAt (h : wCok C t) (r : rC σ C g) {j k : Nat} (hj : j < Wn C) (hk : k < Wd C j) : f_C_toldAt σ (nI j) (nI k) = some (wTd (Wa C j k)) := by
  have hn := h.2.1
  have hd := (h.2.2.1 j hj).1
  unfold f_C_toldAt
  rw [if_neg (rC_there h r hj), if_neg (nI_pos (by omega)), if_neg (nI_in (by omega) (by decide)), nI_clamp (show j < 2 ^ 31 by omega), (r.2.2.1 j hj).2.2.1, if_neg (by rw [nI_leI (by omega) (by omega)]; omega), if_neg (k_in2 (by omega) (by omega)), k_at2 (by omega) (by omega), ((r.2.2.1 j hj).2.2.2.1 k hk).2]
theorem r_C_isDirectly_9 (h : wCok C t) (r : rC σ C g) {c s : Nat} (hc : c < Wn C) (hs : s < Wn C) : ∀ (f i : Nat), i ≤ Wd C c → Wd C c < f + i → f_C_isDirectly_9 f σ (nI c) (nI s) (nI (Wd C c)) (nI i) = some (b2 ((wfs (fun k => decide (Wo C c k = s)) (Wd C c - i) i).isSome)) := by
  have hn := h.2.1
  have hd := (h.2.2.1 c hc).1
  intro f
  induction f with
  | zero => intro i h1 h2; omega
  | succ f ih =>
    intro i h1 h2
    rw [f_C_isDirectly_9]
    unfold f_C_isDirectly_9_s
    by_cases e : Wd C c ≤ i
    · rw [if_pos (by rw [nI_leI (by omega) (by omega)]; exact e), show Wd C c - i = 0 by omega]
      rfl
    · rw [if_neg (by rw [nI_leI (by omega) (by omega)]; exact e), r_C_directAt h r hc (by omega), show Wd C c - i = (Wd C c - (i + 1)) + 1 by omega, wfs]
      have := (h.2.2.2.1 c i hc (by omega)).1
      by_cases q : Wo C c i = s
      · rw [if_pos (decide_eq_true q)]
        show (if nI (Wo C c i) = nI s then some (1 : Int32) else _) = _
        rw [if_pos (by rw [q])]; rfl
      · rw [if_neg (by rw [decide_eq_false q]; decide)]
        show (if nI (Wo C c i) = nI s then some (1 : Int32) else _) = _
        rw [if_neg (by rw [nI_eq (by omega) (by omega)]; exact q), nI_1]
        exact ih (i + 1) (by omega) (by omega)
theorem r_C_isDirectly (h : wCok C t) (r : rC σ C g) {c s : Nat} (hc : c < Wn C) (hs : s < Wn C) : ∃ v, f_C_isDirectly σ (nI c) (nI s) = some (b2 v) ∧ (v = true ↔ ∃ k, k < Wd C c ∧ Wo C c k = s) := by
  have hn := h.2.1
  have hd := (h.2.2.1 c hc).1
  refine ⟨(wfs (fun k => decide (Wo C c k = s)) (Wd C c - 0) 0).isSome, ?_, ?_⟩
  · unfold f_C_isDirectly
    rw [r_C_countDirect h r hc]
    exact r_C_isDirectly_9 h r hc hs 1000 0 (by omega) (by omega)
  · cases q : wfs (fun k => decide (Wo C c k = s)) (Wd C c - 0) 0 with
    | some k =>
      obtain ⟨_, q2, q3, _⟩ := wfs_some q
      exact ⟨fun _ => ⟨k, by omega, of_decide_eq_true q3⟩, fun _ => rfl⟩
    | none =>
      refine ⟨fun z => (by cases z), fun ⟨k, k1, k2⟩ => ?_⟩
      have := wfs_none q k (by omega) (by omega)
      exact absurd k2 (of_decide_eq_false this)
theorem r_C_firstToward_12 (h : wCok C t) (r : rC σ C g) {c b : Nat} (hc : c < Wn C) (hb : b < Wn C) : ∀ (f i : Nat), i ≤ Wd C c → Wd C c < f + i → f_C_firstToward_12 f σ (nI c) (nI b) (nI i) = some (wIo (wfs (fun k => wTw C (Wo C c k) b) (Wd C c - i) i)) := by
  have hn := h.2.1
  have hd := (h.2.2.1 c hc).1
  intro f
  induction f with
  | zero => intro i h1 h2; omega
  | succ f ih =>
    intro i h1 h2
    rw [f_C_firstToward_12]
    unfold f_C_firstToward_12_s
    rw [if_neg (nI_in (by omega) (by decide)), nI_clamp (show c < 2 ^ 31 by omega), (r.2.2.1 c hc).2.2.1]
    by_cases e : Wd C c ≤ i
    · rw [if_pos (by rw [nI_leI (by omega) (by omega)]; exact e), show Wd C c - i = 0 by omega]
      rfl
    · have lt := (h.2.2.2.1 c i hc (by omega)).1
      rw [if_neg (by rw [nI_leI (by omega) (by omega)]; exact e), if_neg (k_in2 (by omega) (by omega)), k_at2 (by omega) (by omega), ((r.2.2.1 c hc).2.2.2.1 i (by omega)).1, if_neg (rC_there h r (show Wo C c i < Wn C by omega)), nI_clamp (show Wo C c i < 2 ^ 31 by omega), if_neg (k_inn (show Wo C c i < 30 by omega) (by omega)), k_has _ (show b < 32 by omega), (r.2.2.1 (Wo C c i) (by omega)).2.2.2.2 b (by omega)]
      rw [show Wd C c - i = (Wd C c - (i + 1)) + 1 by omega, wfs, nI_1, ih (i + 1) (by omega) (by omega)]
      by_cases q : Wo C c i = b
      · rw [if_pos (by rw [q]), if_pos (by rw [q]; exact wTw_self b)]; rfl
      · rw [if_neg (by rw [nI_eq (by omega) (by omega)]; exact q)]
        cases w : Wu C (Wo C c i) b with
        | true => rw [if_neg (by decide), if_pos (wTw_up w)]; rfl
        | false => rw [if_pos (b2_0.mpr rfl), if_neg (fun z => by rw [wTw_ne z q] at w; cases w)]
theorem r_C_firstToward (h : wCok C t) (r : rC σ C g) {c b : Nat} (hc : c < Wn C) (hb : b < Wn C) : f_C_firstToward σ (nI c) (nI b) = some (wIo (wFe C c b)) := by
  have hn := h.2.1
  have hd := (h.2.2.1 c hc).1
  unfold f_C_firstToward
  rw [if_neg (rC_there h r hc)]
  exact r_C_firstToward_12 h r hc hb 1000 0 (by omega) (by omega)
theorem k_pass {t : Nat} (ht : t ≤ 300) {x : Nat} (a : Nat) (hx : x = 0 ∨ x = 3 ∨ ∃ y, y < t ∧ x = 4 * y + 1) : f_C_passOn (wTd x) (wEn a) = wEn (wSb a x) := by
  unfold f_C_passOn
  rcases hx with e | e | ⟨y, y1, y2⟩
  · subst e; rfl
  · subst e; rfl
  · have e1 : wTd x = nI y := by
      unfold wTd; rw [if_neg (by omega), if_neg (by omega)]; congr 1; omega
    rw [e1, if_neg (k_ne2 (by omega)), if_neg (k_ne1 (by omega))]
    unfold f_L_argumentOf wSb
    rw [if_neg (by decide), if_neg (show ¬ x = 3 by omega), wEn_n (by omega), y2]
    show nI y * nI 4 + nI 1 = _
    rw [k_mul, nI_add]; congr 1; omega
theorem wA_in (h : wCok C t) {c k : Nat} (hc : c < Wn C) (hk : k < Wd C c) : Wa C c k = 0 ∨ Wa C c k = 3 ∨ ∃ y, y < t ∧ Wa C c k = 4 * y + 1 := by
  rcases (h.2.2.2.1 c k hc hk).2 with ⟨_, q⟩ | ⟨_, ⟨x, _, q1, q2⟩ | ⟨q, _⟩⟩
  · exact Or.inl q
  · exact Or.inr (Or.inr ⟨x, q1, q2⟩)
  · exact Or.inr (Or.inl q)
theorem r_C_climb_9 (h : wCok C t) (ht : t ≤ 300) (r : rC σ C g) {b : Nat} (hb : b < Wn C) : ∀ (f i c a : Nat), c < Wn C → c + i < 30 → 30 < f + i → f_C_climb_9 f σ (nI b) (nI c) (wEn a) (nI i) = some (wEo (wCl C c a b)) := by
  have hn := h.2.1
  intro f
  induction f with
  | zero => intro i c a h1 h2; omega
  | succ f ih =>
    intro i c a hc h1 h2
    rw [f_C_climb_9]
    unfold f_C_climb_9_s f_C_climb_70
    have e30 : ¬ (30 : Int32) ≤ nI i := by
      show ¬ nI 30 ≤ nI i
      rw [nI_leI (by decide) (by omega)]; omega
    rw [if_neg e30]
    by_cases e : c = b
    · rw [if_pos (by rw [e]), if_pos (by rw [e]), e, wCl_here]; rfl
    · rw [if_neg (by rw [nI_eq (by omega) (by omega)]; exact e), r_C_firstToward h r hc hb]
      cases hu : wTw C c b with
      | false =>
        rw [wFe_none h hc hu, wCl_none h a hc hu]; rfl
      | true =>
        obtain ⟨k, k1, k2, k3, _⟩ := wFe_some h hc hu e
        have k4 := (h.2.2.2.1 c k hc k2).1
        have k5 := (h.2.2.1 c hc).1
        rw [k1, wCl_step h a hc e k1]
        show (if nI k = -1 then some (-1 : Int32) else _) = _
        rw [if_neg (k_ne1 (by omega))]
        show (f_C_toldAt σ (nI c) (nI k)).bind _ = _
        rw [r_C_toldAt h r hc k2]
        show (f_C_directAt σ (nI c) (nI k)).bind _ = _
        rw [r_C_directAt h r hc k2]
        show f_C_climb_9 f σ (nI b) (nI (Wo C c k)) (f_C_passOn (wTd (Wa C c k)) (wEn a)) (nI i + 1) = _
        rw [k_pass ht a (wA_in h hc k2), nI_1]
        exact ih (i + 1) _ _ (by omega) (by omega) (by omega)
theorem r_C_climb (h : wCok C t) (ht : t ≤ 300) (r : rC σ C g) {b c : Nat} (a : Nat) (hc : c < Wn C) (hb : b < Wn C) : f_C_climb σ (nI c) (wEn a) (nI b) = some (wEo (wCl C c a b)) := by
  have hn := h.2.1
  unfold f_C_climb
  exact r_C_climb_9 h ht r hb 1000 0 c a hc (by omega) (by omega)
end
-- part 08.54.repM.lean.txt
/-! Tier 3: the reference's tables of classes hold the numbers; its climb. -/
def rMr (μ : StM) (C : wWc) (c : Nat) : Prop := M_face μ c = b2 (Wf C c) ∧ M_generic μ c = b2 (Wg C c) ∧ M_directs μ c = nI (Wd C c) ∧
  (∀ k, k < Wd C c → M_directTo μ (30 * c + k) = nI (Wo C c k) ∧ M_directArg μ (30 * c + k) = wTd (Wa C c k)) ∧ (∀ b, b < 32 → bt (M_over μ c) b = Wu C c b)
def rMc (μ : StM) (C : wWc) (g : Nat) : Prop := M_classes μ = nI (Wn C) ∧ M_generics μ = nI g ∧ (∀ c, c < Wn C → rMr μ C c)
def wH (a : Nat) : Int32 := if a = 0 then 0 else if a = 3 then 1 else nI (a % 4)
def wHx (hh : Int32) (s : Nat) : Int32 := if s = 3 then hh else wH s
def wGx (gg : Int32) (s : Nat) : Int32 := if s = 3 then gg else wTd s
section
variable {σ : StM} {C : wWc} {t g : Nat}
theorem r_M_climb_55 (h : wCok C t) (r : rMc σ C g) {c b : Nat} (hc : c < Wn C) (hb : b < Wn C) (k38 : StM → Int32 → Int32 → Option (Int32 × StM)) {k1 : Nat} :
    ∀ (f k : Nat), k ≤ k1 → k1 < Wd C c → wTw C (Wo C c k1) b = true → (∀ j, j < k1 → wTw C (Wo C c j) b = false) → k1 < f + k → f_M_climb_55 k38 f σ (nI b) (nI c) (nI k) = f_M_climb_101 k38 σ (nI b) (nI c) (nI k1) := by
  have hn := h.2.1
  have hd := (h.2.2.1 c hc).1
  intro f
  induction f with
  | zero => intro k h1 h2 h3 h4 h5; omega
  | succ f ih =>
    intro k h1 h2 h3 h4 h5
    rw [f_M_climb_55]
    unfold f_M_climb_55_s
    have lt := (h.2.2.2.1 c k hc (by omega)).1
    have et := ((r.2.2 c hc).2.2.2.1 k (by omega)).1
    have ix : ¬ ((30 * nI c + nI k) < 0 ∨ 900 ≤ (30 * nI c + nI k).toNatClampNeg) := by
      rw [k_30ix]; exact nI_in (by omega) (by decide)
    have cl : (30 * nI c + nI k).toNatClampNeg = 30 * c + k := by rw [k_30ix]; exact nI_clamp (by omega)
    rw [if_neg ix, if_neg ix, cl, et, s_M_under (by omega) (by omega), (r.2.2 _ (show Wo C c k < Wn C by omega)).2.2.2.2 b (by omega)]
    by_cases e : k = k1
    · subst e
      by_cases q : Wo C c k = b
      · rw [if_pos (by rw [q])]
      · rw [if_neg (by rw [nI_eq (by omega) (by omega)]; exact q), if_pos (wTw_ne h3 q)]; rfl
    · have w := h4 k (by omega)
      have q1 : ¬ Wo C c k = b := by intro q; rw [q, wTw_self] at w; cases w
      have q2 : ¬ Wu C (Wo C c k) b = true := by intro q; rw [wTw_up q] at w; cases w
      rw [if_neg (by rw [nI_eq (by omega) (by omega)]; exact q1), if_neg q2, ← ih (k + 1) (by omega) h2 h3 h4 (by omega), ← nI_1]; rfl
theorem r_M_climb_38 (h : wCok C t) (ht : t ≤ 300) (r : rMc σ C g) {b : Nat} (hb : b < Wn C) (hh gg : Int32) :
    ∀ (f c d s : Nat), c < Wn C → c < f → wCl C c d b = some s → k_ok (f_M_climb_38 f (mF σ 1 (wHx hh d) (wGx gg d)) (nI b) (nI c)) (fun r => r.2 = mF σ 1 (wHx hh s) (wGx gg s)) := by
  have hn := h.2.1
  intro f
  induction f with
  | zero => intro c d s h1 h2; omega
  | succ f ih =>
    intro c d s h1 h2 h3
    rw [f_M_climb_38]
    unfold f_M_climb_38_s
    refine k_if (fun q => absurd q (by decide : ¬ (1 : Int32) = 0)) (fun _ => ?_)
    refine k_if (fun q => ?_) (fun q => ?_)
    · rw [nI_eq (by omega) (by omega)] at q
      subst q
      rw [wCl_here] at h3
      cases h3
      exact k_some rfl
    · rw [nI_eq (by omega) (by omega)] at q
      obtain ⟨k1, p1, p2, p3, p4⟩ := wFe_some h h1 (wCl_tw h h1 h3) q
      have lt := (h.2.2.2.1 c k1 h1 p2).1
      have hd := (h.2.2.1 c h1).1
      have r5 : f_M_climb_55 (f_M_climb_38 f) 1000 (mF σ 1 (wHx hh d) (wGx gg d)) (nI b) (nI c) 0 = f_M_climb_101 (f_M_climb_38 f) (mF σ 1 (wHx hh d) (wGx gg d)) (nI b) (nI c) (nI k1) :=
        r_M_climb_55 (σ := mF σ 1 (wHx hh d) (wGx gg d)) (g := g) h r h1 hb (f_M_climb_38 f) 1000 0 (by omega) p2 p3 p4 (by omega)
      rw [r5]
      obtain ⟨e1, e2⟩ := (r.2.2 c h1).2.2.2.1 k1 p2
      have ix : ¬ ((30 * nI c + nI k1) < 0 ∨ 900 ≤ (30 * nI c + nI k1).toNatClampNeg) := by
        rw [k_30ix]; exact nI_in (by omega) (by decide)
      have cl : (30 * nI c + nI k1).toNatClampNeg = 30 * c + k1 := by rw [k_30ix]; exact nI_clamp (by omega)
      rw [wCl_step h d h1 q p1] at h3
      have nx := ih (Wo C c k1) _ s (by omega) (by omega) h3
      have k144 : ∀ (hh' gg' : Int32), hh' = wHx hh (wSb d (Wa C c k1)) → gg' = wGx gg (wSb d (Wa C c k1)) → k_ok (f_M_climb_144 (f_M_climb_38 f) (mF σ 1 hh' gg') (nI b) (nI c) (nI k1)) (fun r => r.2 = mF σ 1 (wHx hh s) (wGx gg s)) := by
        intro hh' gg' z1 z2
        unfold f_M_climb_144
        refine k_guard ix ?_
        rw [cl, show M_directTo (mF σ 1 hh' gg') (30 * c + k1) = nI (Wo C c k1) from e1, z1, z2]
        exact nx
      unfold f_M_climb_101 f_M_climb_135
      refine k_guard ix ?_
      rw [cl]
      rcases wA_in h h1 p2 with x | x | ⟨y, y1, y2⟩
      · have z : M_directArg σ (30 * c + k1) = -1 := by rw [e2, x]; rfl
        refine k_if (fun q1 => ?_) (fun q1 => ?_)
        · replace q1 : M_directArg σ (30 * c + k1) = -2 := q1
          rw [z] at q1; exact absurd q1 (by decide)
        · refine k_if (fun q2 => ?_) (fun q2 => ?_)
          · refine k144 0 _ (by rw [x]; rfl) ?_
            show M_directArg σ (30 * c + k1) = _
            rw [z, x]; rfl
          · exact absurd z q2
      · have z : M_directArg σ (30 * c + k1) = -2 := by rw [e2, x]; rfl
        refine k_if (fun q1 => ?_) (fun q1 => absurd z q1)
        exact k144 _ _ (by rw [x]; rfl) (by rw [x]; rfl)
      · have z : M_directArg σ (30 * c + k1) = nI y := by
          rw [e2, y2]; unfold wTd; rw [if_neg (by omega), if_neg (by omega)]; congr 1; omega
        have w : wSb d (Wa C c k1) = 4 * y + 1 := by unfold wSb; rw [if_neg (by omega), y2]
        refine k_if (fun q1 => ?_) (fun q1 => ?_)
        · replace q1 : M_directArg σ (30 * c + k1) = -2 := q1
          rw [z] at q1; exact absurd q1 (k_ne2 (by omega))
        · refine k_if (fun q2 => ?_) (fun q2 => ?_)
          · replace q2 : M_directArg σ (30 * c + k1) = -1 := q2
            rw [z] at q2; exact absurd q2 (k_ne1 (by omega))
          · refine k144 1 _ ?_ ?_
            · rw [w]
              unfold wHx wH
              rw [if_neg (by omega), if_neg (by omega), if_neg (by omega), show (4 * y + 1) % 4 = 1 by omega]; rfl
            · show M_directArg σ (30 * c + k1) = _
              rw [z, w]
              unfold wGx wTd
              rw [if_neg (by omega), if_neg (by omega), if_neg (by omega)]; congr 1; omega
theorem r_M_climb (h : wCok C t) (ht : t ≤ 300) (r : rMc σ C g) {b c : Nat} (hc : c < Wn C) (hb : b < Wn C) (hh gg : Int32) :
    (∀ s, wCl C c 3 b = some s → k_ok (f_M_climb σ (nI c) hh gg (nI b)) (fun r => r.2 = mF σ 1 (wHx hh s) (wGx gg s))) ∧ (wCl C c 3 b = none → k_ok (f_M_climb σ (nI c) hh gg (nI b)) (fun r => r.2 = mF σ 0 hh gg)) := by
  have hn := h.2.1
  refine ⟨fun s hs => ?_, fun hs => ?_⟩
  · have k17 : k_ok (f_M_climb_22 σ (nI c) hh gg (nI b) 1) (fun r => r.2 = mF σ 1 (wHx hh s) (wGx gg s)) := by
      unfold f_M_climb_22
      refine k_guard (by decide) ?_
      exact r_M_climb_38 h ht r hb hh gg 1000 c 3 s hc (by omega) hs
    have tw := wCl_tw h hc hs
    unfold f_M_climb f_M_climb_17
    refine k_if (fun q => k17) (fun q => ?_)
    rw [nI_eq (by omega) (by omega)] at q
    rw [s_M_under (by omega) (by omega), (r.2.2 c hc).2.2.2.2 b (by omega), if_pos (wTw_ne tw q)]
    exact k17
  · have tw : wTw C c b = false := by
      cases w : wTw C c b with
      | false => rfl
      | true => obtain ⟨z, hz⟩ := wCl_some h c 3 b hc w; rw [hz] at hs; cases hs
    have q : ¬ c = b := by intro q; rw [q, wTw_self] at tw; cases tw
    have q2 : ¬ Wu C c b = true := by intro q; rw [wTw_up q] at tw; cases tw
    unfold f_M_climb f_M_climb_17
    refine k_if (fun q3 => ?_) (fun _ => ?_)
    · rw [nI_eq (by omega) (by omega)] at q3; exact absurd q3 q
    · rw [s_M_under (by omega) (by omega), (r.2.2 c hc).2.2.2.2 b (by omega), if_neg q2]
      show k_ok (f_M_climb_22 σ (nI c) hh gg (nI b) 0) _
      unfold f_M_climb_22
      refine k_guard (by decide) ?_
      exact k_some rfl
end
-- part 08.55.add.lean.txt
/-! Tier 3: k_pc o Q: whatever o answers, Q holds of it (that it answers is tier 2's). A type more. -/
def k_pc {α : Type} (o : Option α) (Q : α → Prop) : Prop := ∀ r, o = some r → Q r
theorem p_some {α : Type} {a : α} {Q : α → Prop} (h : Q a) : k_pc (some a) Q := by
  intro r e; cases e; exact h
theorem p_none {α : Type} {Q : α → Prop} : k_pc none Q := by
  intro r e; cases e
theorem p_guard {α : Type} {c : Prop} [Decidable c] {x : Option α} {Q : α → Prop} (hx : ¬ c → k_pc x Q) : k_pc (if c then none else x) Q := by
  by_cases h : c
  · rw [if_pos h]; exact p_none
  · rw [if_neg h]; exact hx h
theorem p_if {α : Type} {c : Prop} [Decidable c] {x y : Option α} {Q : α → Prop} (h1 : c → k_pc x Q) (h2 : ¬ c → k_pc y Q) : k_pc (if c then x else y) Q := by
  by_cases h : c
  · rw [if_pos h]; exact h1 h
  · rw [if_neg h]; exact h2 h
theorem p_bind {α β : Type} {o : Option α} {f : α → Option β} {P : α → Prop} {Q : β → Prop} (h : k_pc o P) (k : ∀ r, P r → k_pc (f r) Q) : k_pc (o.bind f) Q := by
  intro r e
  cases o with
  | none => cases e
  | some a => exact k a (h a rfl) r e
theorem p_mono {α : Type} {o : Option α} {P Q : α → Prop} (h : k_pc o P) (k : ∀ r, P r → Q r) : k_pc o Q := fun r e => k r (h r e)
theorem p_ad {α β : Type} {c n : Nat} {o : Option (α × β × Nat × Nat)} {Q : α × β × Nat × Nat → Prop} (h : k_pc o (fun r => Q (r.1, r.2.1, r.2.2.1 + c, r.2.2.2 + n))) : k_pc (ad_ c n o) Q := by
  intro r e
  cases o with
  | none => cases e
  | some a => cases e; exact h a rfl
theorem p_ok {α : Type} {o : Option α} {Q : α → Prop} (h : k_ok o Q) : k_pc o Q := by
  obtain ⟨r, rfl, hr⟩ := h
  exact p_some hr
theorem p_and {α : Type} {o : Option α} {P Q : α → Prop} (h : k_ok o P) (k : k_pc o Q) : k_ok o (fun r => P r ∧ Q r) := by
  obtain ⟨r, e, hr⟩ := h
  exact ⟨r, e, hr, k r e⟩
def wUp {α : Type} (f : Nat → α) (k : Nat) (x : α) : Nat → α := fun j => if j = k then x else f j
theorem wUp_s {α : Type} {f : Nat → α} {k : Nat} {x : α} : wUp f k x k = x := by simp [wUp]
theorem wUp_n {α : Type} {f : Nat → α} {k j : Nat} {x : α} (h : j ≠ k) : wUp f k x j = f j := by simp [wUp, h]
/-- the first type that is told so; or a new one; none: it would be too much -/
def wAdd (T : wWt) (d : wDs) (sz : Nat) : Option (Nat × wWt) := match wfs (fun i => decide (Ty T i = d)) (Tn T) 0 with
  | some i => some (i, T)
  | none => if Tn T = 300 ∨ 100 < sz then none else some (Tn T, (Tn T + 1, wUp (Ty T) (Tn T) d, wUp (Tm T) (Tn T) sz))
def wEx (T T' : wWt) : Prop := Tn T ≤ Tn T' ∧ ∀ i, i < Tn T → Ty T' i = Ty T i ∧ Tm T' i = Tm T i
theorem wEx_refl (T : wWt) : wEx T T := ⟨Nat.le_refl _, fun _ _ => ⟨rfl, rfl⟩⟩
theorem wEx_trans {T T' T'' : wWt} (h1 : wEx T T') (h2 : wEx T' T'') : wEx T T'' :=
  ⟨Nat.le_trans h1.1 h2.1, fun i hi => ⟨((h2.2 i (Nat.lt_of_lt_of_le hi h1.1)).1).trans (h1.2 i hi).1, ((h2.2 i (Nat.lt_of_lt_of_le hi h1.1)).2).trans (h1.2 i hi).2⟩⟩
def wDok (C : wWc) (T : wWt) (d : wDs) (sz : Nat) : Prop :=
  (∃ c a, d = (1, c, a, []) ∧ c < Wn C ∧ wOk (Tn T) (Wg C c) a ∧ sz = 1 + (if a = 0 then 0 else Tm T (a / 4))) ∨
  (∃ e, d = (2, e, 0, []) ∧ e < Tn T ∧ sz = 1 + Tm T e) ∨
  (∃ l, d = (3, 0, 0, l) ∧ 2 ≤ l.length ∧ l.length ≤ 30 ∧ (∀ p, p ∈ l → 8 ≤ p ∧ p < Tn T ∧ dK (Ty T p) = 1) ∧ (∀ j k (hj : j < l.length) (hk : k < l.length), j < k → dX (Ty T l[j]) < dX (Ty T l[k])) ∧ sz = 1 + wSum T l)
theorem wSum_eq {T T' : wWt} : ∀ (l : List Nat), (∀ p, p ∈ l → Tm T' p = Tm T p) → wSum T' l = wSum T l := by
  intro l
  induction l with
  | nil => intro _; rfl
  | cons p l ih =>
    intro h
    rw [wSum, wSum, h p (by simp), ih (fun q hq => h q (by simp [hq]))]
theorem wSum_le {T : wWt} : ∀ (l : List Nat) (p : Nat), p ∈ l → Tm T p ≤ wSum T l := by
  intro l
  induction l with
  | nil => intro p hp; cases hp
  | cons q l ih =>
    intro p hp
    rw [wSum]
    rcases List.mem_cons.mp hp with e | e
    · rw [e]; omega
    · have := ih p e; omega
section
variable {C : wWc} {T T' : wWt}
theorem wTyE_ex (h : wTok C T) (hx : wEx T T') {i : Nat} (hi : i < Tn T) : wTyE C T' i := by
  obtain ⟨e1, e2⟩ := hx.2 i hi
  obtain ⟨m1, m2, h1 | ⟨h0, c, a, h1, h2, h3, h4⟩ | ⟨h0, e, h1, h2, h3⟩ | ⟨h0, l, h1, h2, h3, h4, h5, h6⟩⟩ := h.2.2.1 i hi
  · exact ⟨by rw [e2]; exact m1, by rw [e2]; exact m2, Or.inl ⟨h1.1, by rw [e1]; exact h1.2.1, by rw [e2]; exact h1.2.2⟩⟩
  · refine ⟨by rw [e2]; exact m1, by rw [e2]; exact m2, Or.inr (Or.inl ⟨h0, c, a, by rw [e1]; exact h1, h2, h3, ?_⟩)⟩
    rw [e2, h4]
    by_cases z : a = 0
    · rw [if_pos z, if_pos z]
    · rw [if_neg z, if_neg z]
      rcases h3 with ⟨_, h3⟩ | ⟨_, x, x1, x2, x3⟩
      · exact absurd h3 z
      · rw [(hx.2 (a / 4) (by omega)).2]
  · exact ⟨by rw [e2]; exact m1, by rw [e2]; exact m2, Or.inr (Or.inr (Or.inl ⟨h0, e, by rw [e1]; exact h1, h2, by rw [e2, h3, (hx.2 e (by omega)).2]⟩))⟩
  · refine ⟨by rw [e2]; exact m1, by rw [e2]; exact m2, Or.inr (Or.inr (Or.inr ⟨h0, l, by rw [e1]; exact h1, h2, h3, fun p hp => ?_, fun j k hj hk jk => ?_, ?_⟩))⟩
    · obtain ⟨p1, p2, p3⟩ := h4 p hp
      exact ⟨p1, p2, by rw [(hx.2 p (by omega)).1]; exact p3⟩
    · have q1 := h4 l[j] (List.getElem_mem hj)
      have q2 := h4 l[k] (List.getElem_mem hk)
      rw [(hx.2 l[j] (by omega)).1, (hx.2 l[k] (by omega)).1]
      exact h5 j k hj hk jk
    · rw [e2, h6, wSum_eq l (fun p hp => (hx.2 p (by have := h4 p hp; omega)).2)]
theorem wCok_mono {t t' : Nat} (h : wCok C t) (ht : t ≤ t') : wCok C t' := by
  refine ⟨h.1, h.2.1, h.2.2.1, fun c k hc hk => ?_, h.2.2.2.2⟩
  obtain ⟨h1, h2 | ⟨h2, ⟨x, x1, x2, x3⟩ | h3⟩⟩ := h.2.2.2.1 c k hc hk
  · exact ⟨h1, Or.inl h2⟩
  · exact ⟨h1, Or.inr ⟨h2, Or.inl ⟨x, x1, by omega, x3⟩⟩⟩
  · exact ⟨h1, Or.inr ⟨h2, Or.inr h3⟩⟩
theorem wAdd_ok (h : wOK C T) {d : wDs} {sz i : Nat} (hd : wDok C T d sz) (e : wAdd T d sz = some (i, T')) : wOK C T' ∧ wEx T T' ∧ i < Tn T' ∧ 8 ≤ i ∧ Ty T' i = d ∧ Tm T' i = sz ∧ Tn T' ≤ Tn T + 1 := by
  have h16 := h.2.1
  have h300 := h.2.2.1
  unfold wAdd at e
  cases q : wfs (fun i => decide (Ty T i = d)) (Tn T) 0 with
  | some j =>
    rw [q] at e
    cases e
    obtain ⟨_, q2, q3, _⟩ := wfs_some q
    have q4 : Ty T i = d := of_decide_eq_true q3
    refine ⟨h, wEx_refl T, by omega, ?_, q4, ?_, by omega⟩
    · rcases wT_kind h.2 (show i < Tn T by omega) with ⟨w1, w2⟩ | ⟨w1, _⟩
      · rw [q4] at w1
        rcases hd with ⟨c, a, hd, _⟩ | ⟨x, hd, _⟩ | ⟨l, hd, _⟩
        · rw [hd] at w1; cases w1
        · rw [hd] at w1; cases w1
        · rw [hd] at w1; cases w1
      · exact w1
    · rcases hd with ⟨c, a, hd, z1, z2, z3⟩ | ⟨x, hd, z1, z2⟩ | ⟨l, hd, z1, z2, z3, z4, z5⟩
      · have := wT_named h.2 (show i < Tn T by omega) (by rw [q4, hd])
        rw [q4, hd] at this
        rw [z3]; exact this.2.2.2
      · have := wT_arr h.2 (show i < Tn T by omega) (by rw [q4, hd])
        rw [q4, hd] at this
        rw [z2]; exact this.2.2
      · have := wT_both h.2 (show i < Tn T by omega) (by rw [q4, hd])
        rw [q4, hd] at this
        rw [z5]; exact this.2.2.2.2.2
  | none =>
    rw [q] at e
    replace e : (if Tn T = 300 ∨ 100 < sz then none else some (Tn T, (Tn T + 1, wUp (Ty T) (Tn T) d, wUp (Tm T) (Tn T) sz))) = some (i, T') := e
    by_cases w : Tn T = 300 ∨ 100 < sz
    · rw [if_pos w] at e; cases e
    · rw [if_neg w] at e
      injection e with e
      injection e with e1 e2
      have hx : wEx T T' := by
        rw [← e2]
        exact ⟨Nat.le_succ _, fun j hj => ⟨wUp_n (by omega), wUp_n (by omega)⟩⟩
      have t1 : Ty T' i = d := by rw [← e1, ← e2]; exact wUp_s
      have t2 : Tm T' i = sz := by rw [← e1, ← e2]; exact wUp_s
      have t3 : Tn T' = Tn T + 1 := by rw [← e2]
      have hE : wTyE C T' i := by
        refine ⟨?_, by rw [t2]; omega, ?_⟩
        · rw [t2]
          rcases hd with ⟨c, a, hd, z1, z2, z3⟩ | ⟨x, hd, z1, z2⟩ | ⟨l, hd, z1, z2, z3, z4, z5⟩
          · omega
          · omega
          · omega
        · rcases hd with ⟨c, a, hd, z1, z2, z3⟩ | ⟨x, hd, z1, z2⟩ | ⟨l, hd, z1, z2, z3, z4, z5⟩
          · refine Or.inr (Or.inl ⟨by omega, c, a, by rw [t1, hd], z1, by rw [← e1]; exact z2, ?_⟩)
            rw [t2, z3]
            by_cases z : a = 0
            · rw [if_pos z, if_pos z]
            · rw [if_neg z, if_neg z]
              rcases z2 with ⟨_, z2⟩ | ⟨_, x, x1, x2, x3⟩
              · exact absurd z2 z
              · rw [(hx.2 (a / 4) (by omega)).2]
          · exact Or.inr (Or.inr (Or.inl ⟨by omega, x, by rw [t1, hd], by omega, by rw [t2, z2, (hx.2 x z1).2]⟩))
          · refine Or.inr (Or.inr (Or.inr ⟨by omega, l, by rw [t1, hd], z1, z2, fun p hp => ?_, fun j k hj hk jk => ?_, ?_⟩))
            · obtain ⟨p1, p2, p3⟩ := z3 p hp
              exact ⟨p1, by omega, by rw [(hx.2 p p2).1]; exact p3⟩
            · have q1 := z3 l[j] (List.getElem_mem hj)
              have q2 := z3 l[k] (List.getElem_mem hk)
              rw [(hx.2 l[j] q1.2.1).1, (hx.2 l[k] q2.2.1).1]
              exact z4 j k hj hk jk
            · rw [t2, z5, wSum_eq l (fun p hp => (hx.2 p (z3 p hp).2.1).2)]
      refine ⟨⟨wCok_mono h.1 hx.1, by omega, by omega, fun j hj => ?_, fun j j1 j2 => ?_⟩, hx, by omega, by omega, t1, t2, by omega⟩
      · by_cases z : j = i
        · rw [z]; exact hE
        · exact wTyE_ex h.2 hx (by omega)
      · rw [(hx.2 j (by omega)).1]; exact h.2.2.2.2 j j1 j2
/-- LOOK stays when types come -/
theorem wLs_ex (hx : wEx T T') (b : Nat) : ∀ (l : List Nat), (∀ p, p ∈ l → p < Tn T) → wLs C T' b l = wLs C T b l := by
  intro l
  induction l with
  | nil => intro _; rfl
  | cons p l ih =>
    intro h
    rw [wLs, wLs, (hx.2 p (h p (by simp))).1, ih (fun q hq => h q (by simp [hq]))]
theorem wLk_ex (h : wTok C T) (hx : wEx T T') {i : Nat} (hi : i < Tn T) (b : Nat) : wLk C T' i b = wLk C T i b := by
  have eh : wHo T' i = wHo T i := by unfold wHo; rw [(hx.2 i hi).1]
  unfold wLk
  rw [eh, (hx.2 i hi).1]
  by_cases q : dK (Ty T i) = 2
  · rw [if_pos q, if_pos q]
  · rw [if_neg q, if_neg q]
    exact wLs_ex hx b _ (fun p hp => (wHo_ok h hi q hp).2.1)
end
-- part 08.56.repT.lean.txt
/-! Tier 3: the class's own tables of types hold the numbers. -/
def wPc (d : wDs) : Nat := if dK d = 1 then 1 else (dL d).length
def rTr (σ : StT) (T : wWt) (u i : Nat) : Prop := T_kinds σ i = nI (dK (Ty T i)) ∧ T_named σ i = (if dK (Ty T i) = 1 then nI (dX (Ty T i)) else -1) ∧ T_arguments σ i = nI (dA (Ty T i)) ∧ T_elements σ i = (if dK (Ty T i) = 2 then nI (dX (Ty T i)) else -1) ∧ T_sizes σ i = nI (Tm T i) ∧ T_partCounts σ i = nI (wPc (Ty T i)) ∧
  (dK (Ty T i) = 3 → ∃ s, T_partStarts σ i = nI s ∧ s + (dL (Ty T i)).length ≤ u ∧ ∀ k (hk : k < (dL (Ty T i)).length), (T_parts σ).2 (s + k) = nI (dL (Ty T i))[k])
/-- T0: the types that stay if the call fails -/
def rT (σ : StT) (T0 T : wWt) : Prop := ∃ u us, T_count σ = nI (Tn T) ∧ T_partsUsed σ = nI u ∧ T_settledCount σ = nI (Tn T0) ∧ T_settledParts σ = nI us ∧ us ≤ u ∧ u ≤ 30 * Tn T ∧ us ≤ 30 * Tn T0 ∧ u ≤ (T_parts σ).1 ∧ 64 ≤ (T_parts σ).1 ∧ (T_parts σ).1 ≤ 60000 ∧ Tn T0 ≤ Tn T ∧ (∀ i, i < Tn T → rTr σ T u i) ∧ (∀ i, i < Tn T0 → rTr σ T0 us i)
theorem rTr_same {σ τ : StT} {T T' : wWt} {u u' i : Nat} (h : rTr σ T u i) (eT : Ty T' i = Ty T i) (eM : Tm T' i = Tm T i) (e1 : T_kinds τ i = T_kinds σ i) (e2 : T_named τ i = T_named σ i) (e3 : T_arguments τ i = T_arguments σ i) (e4 : T_elements τ i = T_elements σ i) (e5 : T_sizes τ i = T_sizes σ i) (e6 : T_partCounts τ i = T_partCounts σ i) (e7 : T_partStarts τ i = T_partStarts σ i) (hu : u ≤ u') (e8 : ∀ j, j < u → (T_parts τ).2 j = (T_parts σ).2 j) : rTr τ T' u' i := by
  obtain ⟨h1, h2, h3, h4, h5, h6, h7⟩ := h
  refine ⟨?_, ?_, ?_, ?_, ?_, ?_, ?_⟩
  · rw [e1, eT]; exact h1
  · rw [e2, eT]; exact h2
  · rw [e3, eT]; exact h3
  · rw [e4, eT]; exact h4
  · rw [e5, eM]; exact h5
  · rw [e6, eT]; exact h6
  · rw [eT]
    intro q
    obtain ⟨s, s1, s2, s3⟩ := h7 q
    refine ⟨s, by rw [e7]; exact s1, by omega, fun k hk => ?_⟩
    rw [e8 (s + k) (by omega)]; exact s3 k hk
section
variable {σ : StT} {C : wWc} {T0 T : wWt}
theorem wPc_le (h : wTok C T) {i : Nat} (hi : i < Tn T) : wPc (Ty T i) ≤ 30 := by
  unfold wPc
  obtain ⟨_, _, h1 | ⟨_, c, a, h1, _⟩ | ⟨_, e, h1, _⟩ | ⟨_, l, h1, h2, h3, _⟩⟩ := h.2.2.1 i hi
  · rw [h1.2.1]; exact Nat.zero_le _
  · rw [h1]; exact (by decide : (1 : Nat) ≤ 30)
  · rw [h1]; exact Nat.zero_le _
  · rw [h1]; exact h3
theorem wK_lt (h : wTok C T) {i : Nat} (hi : i < Tn T) : dK (Ty T i) < 4 := by
  rcases wT_kind h hi with ⟨q, _⟩ | ⟨_, q | q | q⟩ <;> omega
theorem wX_lt (h : wOK C T) {i : Nat} (hi : i < Tn T) : dX (Ty T i) < 300 := by
  have h3 := h.2.2.1
  have hn := h.1.2.1
  obtain ⟨_, _, h1 | ⟨_, c, a, h1, h2, _⟩ | ⟨_, e, h1, h2, _⟩ | ⟨_, l, h1, _⟩⟩ := h.2.2.2.1 i hi
  · rw [h1.2.1]; exact (by decide : (0 : Nat) < 300)
  · rw [h1]; show c < 300; omega
  · rw [h1]; show e < 300; omega
  · rw [h1]; exact (by decide : (0 : Nat) < 300)
theorem wA_lt (h : wTok C T) {i : Nat} (hi : i < Tn T) : dA (Ty T i) < 4 * Tn T := by
  have h3 := h.1
  obtain ⟨_, _, h1 | ⟨_, c, a, h1, h2, h4, _⟩ | ⟨_, e, h1, h2, _⟩ | ⟨_, l, h1, _⟩⟩ := h.2.2.1 i hi
  · rw [h1.2.1]; show 0 < _; omega
  · rw [h1]
    show a < _
    rcases h4 with ⟨_, h4⟩ | ⟨_, x, x1, x2, x3⟩
    · omega
    · omega
  · rw [h1]; show 0 < _; omega
  · rw [h1]; show 0 < _; omega
theorem rT_there (h : wTok C T) (r : rT σ T0 T) {j : Nat} (hj : j < Tn T) : ¬ f_T_isThere σ (nI j) = 0 := by
  have hn := h.2.1
  obtain ⟨u, us, r1, _⟩ := r
  unfold f_T_isThere
  rw [if_neg (nI_pos (by omega)), r1, if_neg (by rw [nI_leI (by omega) (by omega)]; omega)]
  decide
theorem rT_not (h : wTok C T) (r : rT σ T0 T) {x : Int32} (hx : ¬ ∃ j, j < Tn T ∧ x = nI j) : f_T_isThere σ x = 0 := by
  have hn := h.2.1
  obtain ⟨u, us, r1, _⟩ := r
  unfold f_T_isThere
  by_cases q : x < 0
  · rw [if_pos q]
  · rw [if_neg q]
    obtain ⟨j, hj, rfl⟩ := nI_of q
    rw [r1]
    by_cases q2 : nI (Tn T) ≤ nI j
    · rw [if_pos q2]
    · rw [nI_leI (by omega) hj] at q2
      exact absurd ⟨j, by omega, rfl⟩ hx
theorem rT_m1 (h : wTok C T) (r : rT σ T0 T) : f_T_isThere σ (-1) = 0 := by
  have hn := h.2.1
  exact rT_not h r (fun ⟨j, j1, j2⟩ => k_ne1 (x := j) (by omega) j2.symm)
theorem r_T_kindOf (h : wTok C T) (r : rT σ T0 T) {j : Nat} (hj : j < Tn T) : f_T_kindOf σ (nI j) = some (nI (dK (Ty T j))) := by
  have hn := h.2.1
  have w := rT_there h r hj
  obtain ⟨u, us, _, _, _, _, _, _, _, _, _, _, _, rr, _⟩ := r
  unfold f_T_kindOf
  rw [if_neg w, if_neg (nI_in (by omega) (by decide)), nI_clamp (by omega), (rr j hj).1]
theorem r_T_classOf (h : wTok C T) (r : rT σ T0 T) {j : Nat} (hj : j < Tn T) : f_T_classOf σ (nI j) = some (if dK (Ty T j) = 1 then nI (dX (Ty T j)) else -1) := by
  have hn := h.2.1
  have w := rT_there h r hj
  obtain ⟨u, us, _, _, _, _, _, _, _, _, _, _, _, rr, _⟩ := r
  unfold f_T_classOf
  rw [if_neg w, if_neg (nI_in (by omega) (by decide)), nI_clamp (by omega), (rr j hj).2.1]
theorem r_T_argumentAt (h : wTok C T) (r : rT σ T0 T) {j : Nat} (hj : j < Tn T) : f_T_argumentAt σ (nI j) = some (nI (dA (Ty T j))) := by
  have hn := h.2.1
  have w := rT_there h r hj
  obtain ⟨u, us, _, _, _, _, _, _, _, _, _, _, _, rr, _⟩ := r
  unfold f_T_argumentAt
  rw [if_neg w, if_neg (nI_in (by omega) (by decide)), nI_clamp (by omega), (rr j hj).2.2.1]
theorem r_T_elementOf (h : wTok C T) (r : rT σ T0 T) {j : Nat} (hj : j < Tn T) : f_T_elementOf σ (nI j) = some (if dK (Ty T j) = 2 then nI (dX (Ty T j)) else -1) := by
  have hn := h.2.1
  have w := rT_there h r hj
  obtain ⟨u, us, _, _, _, _, _, _, _, _, _, _, _, rr, _⟩ := r
  unfold f_T_elementOf
  rw [if_neg w, if_neg (nI_in (by omega) (by decide)), nI_clamp (by omega), (rr j hj).2.2.2.1]
theorem r_T_sizeOf (h : wTok C T) (r : rT σ T0 T) {j : Nat} (hj : j < Tn T) : f_T_sizeOf σ (nI j) = some (nI (Tm T j)) := by
  have hn := h.2.1
  have w := rT_there h r hj
  obtain ⟨u, us, _, _, _, _, _, _, _, _, _, _, _, rr, _⟩ := r
  unfold f_T_sizeOf
  rw [if_neg w, if_neg (nI_in (by omega) (by decide)), nI_clamp (by omega), (rr j hj).2.2.2.2.1]
theorem r_T_countParts (h : wTok C T) (r : rT σ T0 T) {j : Nat} (hj : j < Tn T) : f_T_countParts σ (nI j) = some (nI (wPc (Ty T j))) := by
  have hn := h.2.1
  have w := rT_there h r hj
  obtain ⟨u, us, _, _, _, _, _, _, _, _, _, _, _, rr, _⟩ := r
  unfold f_T_countParts
  rw [if_neg w, if_neg (nI_in (by omega) (by decide)), nI_clamp (by omega), (rr j hj).2.2.2.2.2.1]
theorem wPs_len (h : wTok C T) {i : Nat} (_hi : i < Tn T) : (wPs T i).length = wPc (Ty T i) := by
  unfold wPs wPc
  by_cases q : dK (Ty T i) = 1
  · rw [if_pos q, if_pos q]; rfl
  · rw [if_neg q, if_neg q]
theorem r_T_partOf (h : wTok C T) (r : rT σ T0 T) {j k : Nat} (hj : j < Tn T) (hk : k < (wPs T j).length) : f_T_partOf σ (nI j) (nI k) = some (nI (wPs T j)[k]) := by
  have hn := h.2.1
  have w := rT_there h r hj
  have wl := wPs_len h hj
  have w30 := wPc_le h hj
  obtain ⟨u, us, _, r2, _, _, _, r5, _, r6, _, r7, _, rr, _⟩ := r
  obtain ⟨q1, q2, q3, q4, q5, q6, q7⟩ := rr j hj
  unfold f_T_partOf
  rw [if_neg w, if_neg (nI_pos (by omega)), if_neg (nI_in (by omega) (by decide)), nI_clamp (show j < 2 ^ 31 by omega), q6, if_pos (by rw [nI_ltI (by omega) (by omega)]; omega), q1]
  rw [if_neg (show ¬ (nI j < 0 ∨ 300 ≤ j) from k_inn (by omega) (by omega))]
  by_cases e : dK (Ty T j) = 1
  · rw [if_pos (by rw [e]; rfl)]
    have : (wPs T j)[k] = j := by
      have e2 : wPs T j = [j] := by unfold wPs; rw [if_pos e]
      have e3 : k = 0 := by rw [e2] at hk; simpa using hk
      subst e3
      simp [e2]
    rw [this]
  · have kl := wK_lt h hj
    have ne : ¬ nI (dK (Ty T j)) = 1 := by
      intro z
      have : nI (dK (Ty T j)) = nI 1 := z
      rw [nI_eq (by omega) (by decide)] at this
      exact e this
    have e3 : dK (Ty T j) = 3 := by
      obtain ⟨_, _, h1 | ⟨_, _, _, h0, _⟩ | ⟨_, _, h0, _⟩ | ⟨_, _, h0, _⟩⟩ := h.2.2.1 j hj
      · rw [wl] at hk; unfold wPc at hk; rw [h1.2.1] at hk; exact absurd hk (Nat.not_lt_zero _)
      · rw [h0] at e; exact absurd rfl e
      · rw [wl] at hk; unfold wPc at hk; rw [h0] at hk; exact absurd hk (Nat.not_lt_zero _)
      · rw [h0]
    obtain ⟨s, s1, s2, s3⟩ := q7 e3
    have el : wPs T j = dL (Ty T j) := by unfold wPs; rw [if_neg e]
    have hk' : k < (dL (Ty T j)).length := by rw [← el]; exact hk
    rw [if_neg ne, if_neg (show ¬ (nI j < 0 ∨ 300 ≤ j) from k_inn (by omega) (by omega)), s1, nI_add, r2]
    rw [if_neg (nI_pos (by omega)), if_neg (by rw [nI_leI (by omega) (by omega)]; omega), if_neg (by show ¬ nI (T_parts σ).1 ≤ nI (s + k); rw [nI_leI (by omega) (by omega)]; omega), nI_clamp (show s + k < 2 ^ 31 by omega), if_neg (k_inn (by omega) (by omega)), s3 k hk']
    congr 2
    simp [el]
/-- a new row behind the others -/
theorem rT_new (_h : wOK C T) {τ : StT} {d : wDs} {sz : Nat} (r : rT σ T0 T) (h3 : Tn T < 300)
    (e0 : T_count τ = nI (Tn T + 1)) (e1 : T_kinds τ = upd (T_kinds σ) (Tn T) (nI (dK d))) (e2 : T_named τ = upd (T_named σ) (Tn T) (if dK d = 1 then nI (dX d) else -1)) (e3 : T_arguments τ = upd (T_arguments σ) (Tn T) (nI (dA d))) (e4 : T_elements τ = upd (T_elements σ) (Tn T) (if dK d = 2 then nI (dX d) else -1)) (e5 : T_sizes τ = upd (T_sizes σ) (Tn T) (nI sz)) (e6 : T_partCounts τ = upd (T_partCounts σ) (Tn T) (nI (wPc d)))
    (e7 : ∀ i, i < Tn T → T_partStarts τ i = T_partStarts σ i) (e9 : T_settledCount τ = T_settledCount σ) (e10 : T_settledParts τ = T_settledParts σ)
    (hp : ∀ u, T_partsUsed σ = nI u → u ≤ 30 * Tn T → u ≤ (T_parts σ).1 → 64 ≤ (T_parts σ).1 → (T_parts σ).1 ≤ 60000 → ∃ u', T_partsUsed τ = nI u' ∧ u ≤ u' ∧ u' ≤ u + 30 ∧ u' ≤ (T_parts τ).1 ∧ 64 ≤ (T_parts τ).1 ∧ (T_parts τ).1 ≤ 60000 ∧ (∀ j, j < u → (T_parts τ).2 j = (T_parts σ).2 j) ∧ (dK d = 3 → ∃ s, T_partStarts τ (Tn T) = nI s ∧ s + (dL d).length ≤ u' ∧ ∀ k (hk : k < (dL d).length), (T_parts τ).2 (s + k) = nI (dL d)[k])) :
    rT τ T0 (Tn T + 1, wUp (Ty T) (Tn T) d, wUp (Tm T) (Tn T) sz) := by
  obtain ⟨u, us, r1, r2, r3, r4, r5, r6, r6', r7, r8, r9, r10, rr, rs⟩ := r
  obtain ⟨u', p1, p2, p3, p4, p5, p6, p7, p8⟩ := hp u r2 r6 r7 r8 r9
  have same : ∀ i, i < Tn T → ∀ (T1 T2 : wWt) (v v' : Nat), Ty T2 i = Ty T1 i → Tm T2 i = Tm T1 i → v ≤ v' → v ≤ u → rTr σ T1 v i → rTr τ T2 v' i := by
    intro i hi T1 T2 v v' q1 q2 q3 q4 q
    refine rTr_same q q1 q2 ?_ ?_ ?_ ?_ ?_ ?_ (e7 i hi) q3 (fun j hj => p7 j (by omega))
    · rw [e1]; exact k_u hi
    · rw [e2]; exact k_u hi
    · rw [e3]; exact k_u hi
    · rw [e4]; exact k_u hi
    · rw [e5]; exact k_u hi
    · rw [e6]; exact k_u hi
  refine ⟨u', us, e0, p1, by rw [e9]; exact r3, by rw [e10]; exact r4, by omega, by show u' ≤ 30 * (Tn T + 1); omega, r6', p4, p5, p6, by show Tn T0 ≤ Tn T + 1; omega, fun i hi => ?_, fun i hi => ?_⟩
  · replace hi : i < Tn T + 1 := hi
    by_cases z : i = Tn T
    · subst z
      have t1 : Ty (Tn T + 1, wUp (Ty T) (Tn T) d, wUp (Tm T) (Tn T) sz) (Tn T) = d := wUp_s
      have t2 : Tm (Tn T + 1, wUp (Ty T) (Tn T) d, wUp (Tm T) (Tn T) sz) (Tn T) = sz := wUp_s
      refine ⟨?_, ?_, ?_, ?_, ?_, ?_, ?_⟩
      · rw [t1, e1]; exact k_upds
      · rw [t1, e2]; exact k_upds
      · rw [t1, e3]; exact k_upds
      · rw [t1, e4]; exact k_upds
      · rw [t2, e5]; exact k_upds
      · rw [t1, e6]; exact k_upds
      · rw [t1]; exact p8
    · exact same i (by omega) T _ u u' (wUp_n z) (wUp_n z) p2 (Nat.le_refl u) (rr i (by omega))
  · exact same i (by omega) T0 T0 us us rfl rfl (Nat.le_refl us) r5 (rs i hi)
end
-- part 08.57.mkT.lean.txt
/-! Tier 3: the class makes types. -/
def rNw (σ : StT) (T0 : wWt) (o : Option (Nat × wWt)) (r : Int32 × StT) : Prop := match o with
  | none => r.1 = -1 ∧ r.2 = σ
  | some x => r.1 = nI x.1 ∧ rT r.2 T0 x.2
theorem k_typeOf : ∀ a, a < 1200 → f_L_typeOf (nI a) = if a = 0 then -1 else nI (a / 4) := by decide +kernel
theorem k_howOf : ∀ a, a < 1200 → f_L_howOf (nI a) = nI (a % 4) := by decide +kernel
def wNT (σ : StT) (x1 x2 : Int32) : StT := (T_put_partCounts (T_put_partStarts (T_put_sizes (T_put_elements (T_put_arguments (T_put_named (T_put_kinds (T_set_count σ ((T_count σ) + 1)) (T_count σ) x1) (T_count σ) (-1)) (T_count σ) 0) (T_count σ) (-1)) (T_count σ) x2) (T_count σ) 0) (T_count σ) 0)
theorem wAdd_hit {T : wWt} {d : wDs} {sz i : Nat} (hi : i < Tn T) (e : Ty T i = d) (h : ∀ j, j < i → Ty T j ≠ d) : wAdd T d sz = some (i, T) := by
  unfold wAdd
  rw [wfs_is (k := i) (by omega) (by omega) (decide_eq_true e) (fun j _ hj => decide_eq_false (h j hj))]
theorem wAdd_new {T : wWt} {d : wDs} {sz : Nat} (h : ∀ j, j < Tn T → Ty T j ≠ d) : wAdd T d sz = if Tn T = 300 ∨ 100 < sz then none else some (Tn T, (Tn T + 1, wUp (Ty T) (Tn T) d, wUp (Tm T) (Tn T) sz)) := by
  unfold wAdd
  rw [wfs_no (fun j _ hj => decide_eq_false (h j (by omega)))]
section
variable {σ : StT} {C : wWc} {T0 T : wWt}
theorem r_T_add (h : wTok C T) (r : rT σ T0 T) {x1 : Int32} {sz : Nat} (hs : sz < 10000) : k_pc (f_T_append σ x1 (nI sz)) (fun q => (q.1 = -1 ∧ q.2 = σ ∧ (Tn T = 300 ∨ 100 < sz)) ∨ (¬ (Tn T = 300 ∨ 100 < sz) ∧ q.1 = nI (Tn T) ∧ q.2 = wNT σ x1 (nI sz))) := by
  have hn := h.2.1
  obtain ⟨u, us, r1, _⟩ := r
  unfold f_T_append
  rw [r1]
  refine p_if (fun q => p_some (Or.inl ⟨rfl, rfl, ?_⟩)) (fun q => ?_)
  · have q2 : nI 300 ≤ nI (Tn T) := q
    rw [nI_leI (by decide) (by omega)] at q2
    exact Or.inl (by omega)
  · have q2 : ¬ nI 300 ≤ nI (Tn T) := q
    rw [nI_leI (by decide) (by omega)] at q2
    refine p_if (fun w => ?_) (fun w => p_some (Or.inl ⟨rfl, rfl, Or.inr ?_⟩))
    · have w2 : nI sz ≤ nI 100 := w
      rw [nI_leI (by omega) (by decide)] at w2
      refine p_guard (fun _ => p_guard (fun _ => p_guard (fun _ => p_guard (fun _ => p_guard (fun _ => p_guard (fun _ => p_guard (fun _ => p_some (Or.inr ⟨by omega, rfl, ?_⟩)))))))) 
      unfold wNT
      rw [r1]
    · have w2 : ¬ nI sz ≤ nI 100 := w
      rw [nI_leI (by omega) (by decide)] at w2
      omega
theorem wNT_all (r : rT σ T0 T) (h3 : Tn T ≤ 300) {x1 x2 : Int32} : T_count (wNT σ x1 x2) = nI (Tn T + 1) ∧ T_kinds (wNT σ x1 x2) = upd (T_kinds σ) (Tn T) x1 ∧ T_named (wNT σ x1 x2) = upd (T_named σ) (Tn T) (-1) ∧ T_arguments (wNT σ x1 x2) = upd (T_arguments σ) (Tn T) 0 ∧ T_elements (wNT σ x1 x2) = upd (T_elements σ) (Tn T) (-1) ∧ T_sizes (wNT σ x1 x2) = upd (T_sizes σ) (Tn T) x2 ∧ T_partStarts (wNT σ x1 x2) = upd (T_partStarts σ) (Tn T) 0 ∧ T_partCounts (wNT σ x1 x2) = upd (T_partCounts σ) (Tn T) 0 := by
  obtain ⟨u, us, r1, _⟩ := r
  have e : (T_count σ).toNatClampNeg = Tn T := by rw [r1]; exact nI_clamp (by omega)
  refine ⟨?_, ?_, ?_, ?_, ?_, ?_, ?_, ?_⟩
  · show T_count σ + 1 = _
    rw [r1]; exact nI_1 _
  · show upd (T_kinds σ) (T_count σ).toNatClampNeg x1 = _; rw [e]
  · show upd (T_named σ) (T_count σ).toNatClampNeg (-1) = _; rw [e]
  · show upd (T_arguments σ) (T_count σ).toNatClampNeg 0 = _; rw [e]
  · show upd (T_elements σ) (T_count σ).toNatClampNeg (-1) = _; rw [e]
  · show upd (T_sizes σ) (T_count σ).toNatClampNeg x2 = _; rw [e]
  · show upd (T_partStarts σ) (T_count σ).toNatClampNeg 0 = _; rw [e]
  · show upd (T_partCounts σ) (T_count σ).toNatClampNeg 0 = _; rw [e]
theorem k_updd {f : Nat → Int32} {k : Nat} {x y : Int32} : upd (upd f k x) k y = upd f k y := by
  funext j
  by_cases e : j = k
  · rw [e, k_upds, k_upds]
  · rw [k_updn e, k_updn e, k_updn e]
theorem rTr_named (h : wOK C T) {i c a : Nat} {u : Nat} (hi : i < Tn T) (hc : c < 1000) (ha : a < 2000) (q : rTr σ T u i) : Ty T i = (1, c, a, []) ↔ (T_kinds σ i = 1 ∧ T_named σ i = nI c ∧ T_arguments σ i = nI a) := by
  have hn := h.2.2.1
  obtain ⟨q1, q2, q3, _⟩ := q
  constructor
  · intro e
    rw [q1, q2, q3, e]
    exact ⟨rfl, rfl, rfl⟩
  · rintro ⟨e1, e2, e3⟩
    have z1 : nI (dK (Ty T i)) = nI 1 := q1.symm.trans e1
    rw [nI_eq (by have := wK_lt h.2 hi; omega) (by decide)] at z1
    rw [q2, if_pos z1] at e2
    have z3 := q3.symm.trans e3
    have hA := wA_lt h.2 hi
    have hX := wX_lt h hi
    rw [nI_eq (by omega) (by omega)] at z3 e2
    obtain ⟨_, _, h1 | ⟨_, c', a', h1, h2⟩ | ⟨_, e, h1, _⟩ | ⟨_, l, h1, _⟩⟩ := h.2.2.2.1 i hi
    · rw [h1.2.1] at z1; cases z1
    · rw [h1] at z3 e2 ⊢
      replace e2 : c' = c := e2
      replace z3 : a' = a := z3
      rw [e2, z3]
    · rw [h1] at z1; cases z1
    · rw [h1] at z1; cases z1
theorem rTr_arr (h : wOK C T) {i e : Nat} {u : Nat} (hi : i < Tn T) (he : e < 1000) (q : rTr σ T u i) : Ty T i = (2, e, 0, []) ↔ (T_kinds σ i = 2 ∧ T_elements σ i = nI e) := by
  have hn := h.2.2.1
  obtain ⟨q1, _, _, q4, _⟩ := q
  constructor
  · intro z
    rw [q1, q4, z]
    exact ⟨rfl, rfl⟩
  · rintro ⟨e1, e2⟩
    have z1 : nI (dK (Ty T i)) = nI 2 := q1.symm.trans e1
    rw [nI_eq (by have := wK_lt h.2 hi; omega) (by decide)] at z1
    rw [q4, if_pos z1] at e2
    have hX := wX_lt h hi
    rw [nI_eq (by omega) (by omega)] at e2
    obtain ⟨_, _, h1 | ⟨_, c', a', h1, h2⟩ | ⟨_, e', h1, _⟩ | ⟨_, l, h1, _⟩⟩ := h.2.2.2.1 i hi
    · rw [h1.2.1] at z1; cases z1
    · rw [h1] at z1; cases z1
    · rw [h1] at e2 ⊢
      replace e2 : e' = e := e2
      rw [e2]
    · rw [h1] at z1; cases z1
theorem r_T_makeNamed_8 (h : wOK C T) (r : rT σ T0 T) {c a : Nat} (hc : c < Wn C) (ho : wOk (Tn T) (Wg C c) a) : ∀ (f i : Nat), i ≤ Tn T → (∀ j, j < i → Ty T j ≠ (1, c, a, [])) → k_pc (f_T_makeNamed_8 f σ (nI c) (nI a) (nI i)) (rNw σ T0 (wAdd T (1, c, a, []) (1 + (if a = 0 then 0 else Tm T (a / 4))))) := by
  have hn := h.2.2.1
  have hC := h.1.2.1
  have ha : a < 4 * Tn T := by
    have := h.2.1
    rcases ho with ⟨_, e⟩ | ⟨_, x, x1, x2, x3⟩ <;> omega
  intro f
  induction f with
  | zero => intro i _ _; exact p_none
  | succ f ih =>
    intro i hi hq
    rw [f_T_makeNamed_8]
    unfold f_T_makeNamed_8_s
    have rc : T_count σ = nI (Tn T) := by obtain ⟨u, us, r1, _⟩ := r; exact r1
    rw [rc]
    refine p_if (fun w => ?_) (fun w => ?_)
    · rw [nI_leI (by omega) (by omega)] at w
      have hi2 : i = Tn T := by omega
      subst hi2
      have es : f_T_sizeOf σ (f_L_typeOf (nI a)) = some (nI (if a = 0 then 0 else Tm T (a / 4))) := by
        rw [k_typeOf a (by omega)]
        by_cases z : a = 0
        · rw [if_pos z, if_pos z]
          unfold f_T_sizeOf
          rw [if_pos (rT_m1 h.2 r)]; rfl
        · rw [if_neg z, if_neg z]
          rcases ho with ⟨_, e⟩ | ⟨_, x, x1, x2, x3⟩
          · exact absurd e z
          · exact r_T_sizeOf h.2 r (by omega)
      rw [es]
      show k_pc ((f_T_append σ 1 (1 + nI (if a = 0 then 0 else Tm T (a / 4)))).bind _) _
      have e1 : (1 : Int32) + nI (if a = 0 then 0 else Tm T (a / 4)) = nI (1 + (if a = 0 then 0 else Tm T (a / 4))) := nI_add 1 _
      have hm : (if a = 0 then 0 else Tm T (a / 4)) ≤ 100 := by
        by_cases z : a = 0
        · rw [if_pos z]; omega
        · rw [if_neg z]
          rcases ho with ⟨_, e⟩ | ⟨_, x, x1, x2, x3⟩
          · exact absurd e z
          · exact (h.2.2.2.1 (a / 4) (by omega)).2.1
      rw [e1]
      refine p_bind (r_T_add h.2 r (by omega)) ?_
      rintro ⟨v, τ⟩ (⟨q1, q2, q3⟩ | ⟨q1, q2, q3⟩)
      · replace q1 : v = -1 := q1
        refine p_if (fun _ => p_some ?_) (fun z => absurd q1 z)
        rw [wAdd_new hq, if_pos q3]
        exact ⟨q1, q2⟩
      · replace q2 : v = nI (Tn T) := q2
        replace q3 : τ = wNT σ 1 (nI (1 + (if a = 0 then 0 else Tm T (a / 4)))) := q3
        refine p_if (fun z => absurd (q2.symm.trans z) (k_ne1 (by omega))) (fun _ => p_guard (fun _ => p_guard (fun _ => p_guard (fun _ => p_some ?_))))
        rw [wAdd_new hq, if_neg q1]
        refine ⟨q2, ?_⟩
        obtain ⟨s0, s1, s2, s3, s4, s5, s6, s7⟩ := wNT_all (x1 := 1) (x2 := nI (1 + (if a = 0 then 0 else Tm T (a / 4)))) r hn
        have cl : v.toNatClampNeg = Tn T := by rw [q2]; exact nI_clamp (by omega)
        refine rT_new h r (by omega) ?_ ?_ ?_ ?_ ?_ ?_ ?_ ?_ ?_ ?_ ?_
        · show T_count τ = _
          rw [q3]; exact s0
        · show T_kinds τ = _
          rw [q3]; exact s1
        · show upd (T_named τ) v.toNatClampNeg (nI c) = _
          rw [cl, q3, s2, k_updd]; rfl
        · show upd (T_arguments τ) v.toNatClampNeg (nI a) = _
          rw [cl, q3, s3, k_updd]
        · show T_elements τ = _
          rw [q3]; exact s4
        · show T_sizes τ = _
          rw [q3]; exact s5
        · show upd (T_partCounts τ) v.toNatClampNeg 1 = _
          rw [cl, q3, s7, k_updd]; rfl
        · intro i hi
          show T_partStarts τ i = _
          rw [q3, s6]; exact k_u hi
        · show T_settledCount τ = _
          rw [q3]; rfl
        · show T_settledParts τ = _
          rw [q3]; rfl
        · intro u u1 u2 u3 u4 u5
          refine ⟨u, ?_, Nat.le_refl u, by omega, ?_, ?_, ?_, ?_, fun z => (by cases z)⟩
          · show T_partsUsed τ = _
            rw [q3]; exact u1
          · show u ≤ (T_parts τ).1
            rw [q3]; exact u3
          · show 64 ≤ (T_parts τ).1
            rw [q3]; exact u4
          · show (T_parts τ).1 ≤ 60000
            rw [q3]; exact u5
          · intro j hj
            show (T_parts τ).2 j = _
            rw [q3]; rfl
    · rw [nI_leI (by omega) (by omega)] at w
      have r' := r
      obtain ⟨u, us, _, _, _, _, _, _, _, _, _, _, _, rr, _⟩ := r'
      have key := rTr_named h (show i < Tn T by omega) (show c < 1000 by omega) (show a < 2000 by omega) (rr i (by omega))
      rw [nI_clamp (show i < 2 ^ 31 by omega), nI_1]
      have nx : Ty T i ≠ (1, c, a, []) → k_pc (f_T_makeNamed_8 f σ (nI c) (nI a) (nI (i + 1))) (rNw σ T0 (wAdd T (1, c, a, []) (1 + (if a = 0 then 0 else Tm T (a / 4))))) := by
        intro ne
        refine ih (i + 1) (by omega) (fun j hj => ?_)
        by_cases z : j = i
        · rw [z]; exact ne
        · exact hq j (by omega)
      refine p_guard (fun _ => p_if (fun z1 => ?_) (fun z1 => nx (fun e => z1 (key.mp e).1)))
      refine p_guard (fun _ => p_if (fun z2 => ?_) (fun z2 => nx (fun e => z2 (key.mp e).2.1)))
      refine p_guard (fun _ => p_if (fun z3 => ?_) (fun z3 => nx (fun e => z3 (key.mp e).2.2)))
      rw [wAdd_hit (by omega) (key.mpr ⟨z1, z2, z3⟩) hq]
      exact p_some ⟨rfl, r⟩
theorem r_T_makeNamed (h : wOK C T) (r : rT σ T0 T) {c a : Nat} (hc : c < Wn C) (ho : wOk (Tn T) (Wg C c) a) : k_pc (f_T_makeNamed σ (nI c) (nI a)) (rNw σ T0 (wAdd T (1, c, a, []) (1 + (if a = 0 then 0 else Tm T (a / 4))))) := by
  have hn := h.2.2.1
  have ha : a < 4 * Tn T := by
    have := h.2.1
    rcases ho with ⟨_, e⟩ | ⟨_, x, x1, x2, x3⟩ <;> omega
  unfold f_T_makeNamed
  refine p_if (fun _ => r_T_makeNamed_8 h r hc ho 1000 0 (by omega) (fun j hj => by omega)) (fun z => ?_)
  have z2 : ¬ nI 0 ≤ nI a := z
  rw [nI_leI (by decide) (by omega)] at z2
  omega
theorem r_T_makeArray_2 (h : wOK C T) (r : rT σ T0 T) {e : Nat} (he : e < Tn T) : ∀ (f i : Nat), i ≤ Tn T → (∀ j, j < i → Ty T j ≠ (2, e, 0, [])) → k_pc (f_T_makeArray_2 f σ (nI e) (nI i)) (rNw σ T0 (wAdd T (2, e, 0, []) (1 + Tm T e))) := by
  have hn := h.2.2.1
  intro f
  induction f with
  | zero => intro i _ _; exact p_none
  | succ f ih =>
    intro i hi hq
    rw [f_T_makeArray_2]
    unfold f_T_makeArray_2_s
    have rc : T_count σ = nI (Tn T) := by obtain ⟨u, us, r1, _⟩ := r; exact r1
    rw [rc]
    refine p_if (fun w => ?_) (fun w => ?_)
    · rw [nI_leI (by omega) (by omega)] at w
      have hi2 : i = Tn T := by omega
      subst hi2
      rw [r_T_sizeOf h.2 r he]
      show k_pc ((f_T_append σ 2 (1 + nI (Tm T e))).bind _) _
      have e1 : (1 : Int32) + nI (Tm T e) = nI (1 + Tm T e) := nI_add 1 _
      have hm := (h.2.2.2.1 e he).2.1
      rw [e1]
      refine p_bind (r_T_add h.2 r (by omega)) ?_
      rintro ⟨v, τ⟩ (⟨q1, q2, q3⟩ | ⟨q1, q2, q3⟩)
      · replace q1 : v = -1 := q1
        refine p_if (fun _ => p_some ?_) (fun z => absurd q1 z)
        rw [wAdd_new hq, if_pos q3]
        exact ⟨q1, q2⟩
      · replace q2 : v = nI (Tn T) := q2
        replace q3 : τ = wNT σ 2 (nI (1 + Tm T e)) := q3
        refine p_if (fun z => absurd (q2.symm.trans z) (k_ne1 (by omega))) (fun _ => p_guard (fun _ => p_some ?_))
        rw [wAdd_new hq, if_neg q1]
        refine ⟨q2, ?_⟩
        obtain ⟨s0, s1, s2, s3, s4, s5, s6, s7⟩ := wNT_all (x1 := 2) (x2 := nI (1 + Tm T e)) r hn
        have cl : v.toNatClampNeg = Tn T := by rw [q2]; exact nI_clamp (by omega)
        refine rT_new h r (by omega) ?_ ?_ ?_ ?_ ?_ ?_ ?_ ?_ ?_ ?_ ?_
        · show T_count τ = _
          rw [q3]; exact s0
        · show T_kinds τ = _
          rw [q3]; exact s1
        · show T_named τ = _
          rw [q3]; exact s2
        · show T_arguments τ = _
          rw [q3]; exact s3
        · show upd (T_elements τ) v.toNatClampNeg (nI e) = _
          rw [cl, q3, s4, k_updd]; rfl
        · show T_sizes τ = _
          rw [q3]; exact s5
        · show T_partCounts τ = _
          rw [q3]; exact s7
        · intro i hi
          show T_partStarts τ i = _
          rw [q3, s6]; exact k_u hi
        · show T_settledCount τ = _
          rw [q3]; rfl
        · show T_settledParts τ = _
          rw [q3]; rfl
        · intro u u1 u2 u3 u4 u5
          refine ⟨u, ?_, Nat.le_refl u, by omega, ?_, ?_, ?_, ?_, fun z => (by cases z)⟩
          · show T_partsUsed τ = _
            rw [q3]; exact u1
          · show u ≤ (T_parts τ).1
            rw [q3]; exact u3
          · show 64 ≤ (T_parts τ).1
            rw [q3]; exact u4
          · show (T_parts τ).1 ≤ 60000
            rw [q3]; exact u5
          · intro j hj
            show (T_parts τ).2 j = _
            rw [q3]; rfl
    · rw [nI_leI (by omega) (by omega)] at w
      have r' := r
      obtain ⟨u, us, _, _, _, _, _, _, _, _, _, _, _, rr, _⟩ := r'
      have key := rTr_arr h (show i < Tn T by omega) (show e < 1000 by omega) (rr i (by omega))
      rw [nI_clamp (show i < 2 ^ 31 by omega), nI_1]
      have nx : Ty T i ≠ (2, e, 0, []) → k_pc (f_T_makeArray_2 f σ (nI e) (nI (i + 1))) (rNw σ T0 (wAdd T (2, e, 0, []) (1 + Tm T e))) := by
        intro ne
        refine ih (i + 1) (by omega) (fun j hj => ?_)
        by_cases z : j = i
        · rw [z]; exact ne
        · exact hq j (by omega)
      refine p_guard (fun _ => p_if (fun z1 => ?_) (fun z1 => nx (fun e => z1 (key.mp e).1)))
      refine p_guard (fun _ => p_if (fun z2 => ?_) (fun z2 => nx (fun e => z2 (key.mp e).2)))
      rw [wAdd_hit (by omega) (key.mpr ⟨z1, z2⟩) hq]
      exact p_some ⟨rfl, r⟩
theorem r_T_makeArray (h : wOK C T) (r : rT σ T0 T) {e : Nat} (he : e < Tn T) : k_pc (f_T_makeArray σ (nI e)) (rNw σ T0 (wAdd T (2, e, 0, []) (1 + Tm T e))) := by
  unfold f_T_makeArray
  exact r_T_makeArray_2 h r he 1000 0 (by omega) (fun j hj => by omega)
theorem r_T_settle (r : rT σ T0 T) : k_pc (f_T_settle σ) (fun q => rT q.2 T T) := by
  obtain ⟨u, us, r1, r2, r3, r4, r5, r6, r6', r7, r8, r9, r10, rr, rs⟩ := r
  exact p_some ⟨u, u, r1, r2, r1, r2, Nat.le_refl u, r6, r6, r7, r8, r9, Nat.le_refl _, rr, rr⟩
theorem r_T_drop (r : rT σ T0 T) : k_pc (f_T_dropUnsettled σ) (fun q => rT q.2 T0 T0) := by
  obtain ⟨u, us, r1, r2, r3, r4, r5, r6, r6', r7, r8, r9, r10, rr, rs⟩ := r
  exact p_some ⟨us, us, r3, r4, r3, r4, Nat.le_refl us, r6', r6', Nat.le_trans r5 r7, r8, r9, Nat.le_refl _, rs, rs⟩
end
-- part 08.58.mkI.lean.txt
/-! Tier 3: the class makes INTERSECTIONS. -/
def wInt (T : wWt) (l : List Nat) : Option (Nat × wWt) := match l with
  | [p] => some (p, T)
  | _ => wAdd T (3, 0, 0, l) (1 + wSum T l)
theorem wInt_many {T : wWt} {l : List Nat} (h : 2 ≤ l.length) : wInt T l = wAdd T (3, 0, 0, l) (1 + wSum T l) := by
  unfold wInt
  match l, h with
  | a :: b :: l, _ => rfl
/-- the row from s on holds the types of the list -/
def wRw (pa : Nat × (Nat → Int32)) (s : Nat) (l : List Nat) : Prop := pa.1 = 90 ∧ s + l.length ≤ 90 ∧ ∀ k (hk : k < l.length), pa.2 (s + k) = nI l[k]
theorem wSum_take {T : wWt} : ∀ (l : List Nat) (i : Nat) (hi : i < l.length), wSum T (l.take (i + 1)) = wSum T (l.take i) + Tm T l[i] := by
  intro l
  induction l with
  | nil => intro i hi; simp at hi
  | cons p l ih =>
    intro i hi
    cases i with
    | zero => simp [wSum]
    | succ i =>
      have := ih i (by simpa using hi)
      rw [List.take_succ_cons, List.take_succ_cons, wSum, wSum, this, List.getElem_cons_succ]
      omega
theorem wSum_b {C : wWc} {T : wWt} (h : wTok C T) : ∀ (l : List Nat), (∀ p, p ∈ l → p < Tn T) → wSum T l ≤ 100 * l.length := by
  intro l
  induction l with
  | nil => intro _; exact Nat.le_refl 0
  | cons p l ih =>
    intro hl
    have h1 := ih (fun q hq => hl q (by simp [hq]))
    have h2 := (h.2.2.1 p (hl p (by simp))).2.1
    rw [wSum, List.length_cons]; omega
section
variable {σ : StT} {C : wWc} {T0 T : wWt} {pa : Nat × (Nat → Int32)} {s : Nat} {l : List Nat}
theorem r_T_hasParts_3 (h : wOK C T) (r : rT σ T0 T) (hp : wRw pa s l) (hl : ∀ p, p ∈ l → p < Tn T) {j : Nat} (hj : j < Tn T) (h3 : dK (Ty T j) = 3) (hlen : (dL (Ty T j)).length = l.length) :
    ∀ (f i : Nat), i ≤ l.length → (∀ k (h1 : k < (dL (Ty T j)).length) (h2 : k < l.length), k < i → (dL (Ty T j))[k] = l[k]) → k_pc (f_T_hasParts_3 pa f σ (nI j) (nI s) (nI i)) (fun v => (v = 1 ∧ dL (Ty T j) = l) ∨ (v = 0 ∧ dL (Ty T j) ≠ l)) := by
  have hn := h.2.2.1
  obtain ⟨hp1, hp2, hp3⟩ := hp
  have el : wPs T j = dL (Ty T j) := by unfold wPs; rw [if_neg (by omega)]
  intro f
  induction f with
  | zero => intro i _ _; exact p_none
  | succ f ih =>
    intro i hi hq
    rw [f_T_hasParts_3]
    unfold f_T_hasParts_3_s
    have rc : T_partCounts σ j = nI l.length := by
      obtain ⟨u, us, _, _, _, _, _, _, _, _, _, _, _, rr, _⟩ := r
      rw [(rr j hj).2.2.2.2.2.1]
      unfold wPc
      rw [if_neg (by omega), hlen]
    rw [nI_clamp (show j < 2 ^ 31 by omega), rc]
    refine p_guard (fun _ => p_if (fun w => p_some (Or.inl ⟨rfl, ?_⟩)) (fun w => ?_))
    · rw [nI_leI (by omega) (by omega)] at w
      exact List.ext_getElem hlen (fun k h1 h2 => hq k h1 h2 (by omega))
    · rw [nI_leI (by omega) (by omega)] at w
      rw [nI_add, nI_clamp (show s + i < 2 ^ 31 by omega)]
      refine p_if (fun z => ?_) (fun _ => ?_)
      · have z2 : nI pa.1 ≤ nI (s + i) := z
        rw [nI_leI (by omega) (by omega)] at z2
        omega
      · have hk : i < (wPs T j).length := by rw [el]; omega
        have hk1 : i < (dL (Ty T j)).length := by omega
        have hk2 : i < l.length := by omega
        rw [r_T_partOf h.2 r hj hk]
        show k_pc (if _ then none else if nI (wPs T j)[i] = pa.2 (s + i) then _ else _) _
        have eg : (wPs T j)[i] = (dL (Ty T j))[i] := by simp [el]
        rw [eg, hp3 i hk2, nI_1]
        obtain ⟨_, _, _, w4, _⟩ := wT_both h.2 hj h3
        have b1 := w4 _ (List.getElem_mem hk1)
        have b2 := hl _ (List.getElem_mem hk2)
        refine p_guard (fun _ => p_if (fun z => ?_) (fun z => p_some (Or.inr ⟨rfl, fun e => ?_⟩)))
        · rw [nI_eq (by omega) (by omega)] at z
          refine ih (i + 1) (by omega) (fun k h1 h2 hk => ?_)
          by_cases q : k = i
          · subst q; exact z
          · exact hq k h1 h2 (by omega)
        · refine z (congrArg nI ?_)
          simp [e]
theorem rTr_both (h : wOK C T) {i : Nat} {u : Nat} (hi : i < Tn T) (q : rTr σ T u i) : (dK (Ty T i) = 3 ↔ T_kinds σ i = 3) ∧ (Ty T i = (3, 0, 0, l) ↔ (dK (Ty T i) = 3 ∧ dL (Ty T i) = l)) := by
  obtain ⟨q1, _⟩ := q
  refine ⟨⟨fun e => by rw [q1, e]; rfl, fun e => ?_⟩, ⟨fun e => by rw [e]; exact ⟨rfl, rfl⟩, fun ⟨e1, e2⟩ => ?_⟩⟩
  · have z1 : nI (dK (Ty T i)) = nI 3 := q1.symm.trans e
    rw [nI_eq (by have := wK_lt h.2 hi; omega) (by decide)] at z1
    exact z1
  · obtain ⟨_, _, h1 | ⟨_, c', a', h1, h2⟩ | ⟨_, e', h1, _⟩ | ⟨_, l', h1, _⟩⟩ := h.2.2.2.1 i hi
    · rw [h1.2.1] at e1; cases e1
    · rw [h1] at e1; cases e1
    · rw [h1] at e1; cases e1
    · rw [h1] at e2 ⊢
      replace e2 : l' = l := e2
      rw [e2]
theorem r_T_findIntersection_3 (h : wOK C T) (r : rT σ T0 T) (hp : wRw pa s l) (hl : ∀ p, p ∈ l → p < Tn T) :
    ∀ (f i : Nat), i ≤ Tn T → (∀ j, j < i → Ty T j ≠ (3, 0, 0, l)) → k_pc (f_T_findIntersection_3 pa f σ (nI s) (nI l.length) (nI i)) (fun v => (v = -1 ∧ ∀ j, j < Tn T → Ty T j ≠ (3, 0, 0, l)) ∨ ∃ k, v = nI k ∧ k < Tn T ∧ Ty T k = (3, 0, 0, l) ∧ ∀ j, j < k → Ty T j ≠ (3, 0, 0, l)) := by
  have hn := h.2.2.1
  have hp2 := hp.2.1
  intro f
  induction f with
  | zero => intro i _ _; exact p_none
  | succ f ih =>
    intro i hi hq
    rw [f_T_findIntersection_3]
    unfold f_T_findIntersection_3_s
    have r' := r
    obtain ⟨u, us, r1, _, _, _, _, _, _, _, _, _, _, rr, _⟩ := r'
    rw [r1]
    refine p_if (fun w => p_some (Or.inl ⟨rfl, fun j hj => ?_⟩)) (fun w => ?_)
    · rw [nI_leI (by omega) (by omega)] at w
      exact hq j (by omega)
    · rw [nI_leI (by omega) (by omega)] at w
      have hi' : i < Tn T := by omega
      obtain ⟨k1, k2⟩ := rTr_both (l := l) h hi' (rr i hi')
      have nx : Ty T i ≠ (3, 0, 0, l) → k_pc (f_T_findIntersection_3 pa f σ (nI s) (nI l.length) (nI i + 1)) (fun v => (v = -1 ∧ ∀ j, j < Tn T → Ty T j ≠ (3, 0, 0, l)) ∨ ∃ k, v = nI k ∧ k < Tn T ∧ Ty T k = (3, 0, 0, l) ∧ ∀ j, j < k → Ty T j ≠ (3, 0, 0, l)) := by
        intro ne
        rw [nI_1]
        refine ih (i + 1) (by omega) (fun j hj => ?_)
        by_cases z : j = i
        · rw [z]; exact ne
        · exact hq j (by omega)
      rw [nI_clamp (show i < 2 ^ 31 by omega)]
      refine p_guard (fun _ => p_if (fun z1 => ?_) (fun z1 => nx (fun e => z1 (k1.mp (k2.mp e).1))))
      have z3 := k1.mpr z1
      have ec : T_partCounts σ i = nI (dL (Ty T i)).length := by
        rw [(rr i hi').2.2.2.2.2.1]
        unfold wPc
        rw [if_neg (by omega)]
      have l30 := (wT_both h.2 hi' z3).2.2.1
      rw [ec]
      refine p_guard (fun _ => p_if (fun z2 => ?_) (fun z2 => nx (fun e => z2 (by rw [(k2.mp e).2]))))
      rw [nI_eq (by omega) (by omega)] at z2
      unfold f_T_hasParts
      refine p_bind (r_T_hasParts_3 h r hp hl hi' z3 z2 1000 0 (by omega) (fun k _ _ hk => by omega)) ?_
      rintro v (⟨v1, v2⟩ | ⟨v1, v2⟩)
      · refine p_if (fun z => absurd (v1.symm.trans z) (by decide)) (fun _ => p_some (Or.inr ⟨i, rfl, hi', k2.mpr ⟨z3, v2⟩, hq⟩))
      · refine p_if (fun _ => nx (fun e => v2 (k2.mp e).2)) (fun z => absurd v1 z)
theorem r_T_append (r : rT σ T0 T) (h : wOK C T) (hp : wRw pa s l) (h3 : Tn T < 300) (h30 : l.length ≤ 30) {sz : Nat} : k_pc (f_T_appendParts pa (wNT σ 3 (nI sz)) (nI (Tn T)) (nI s) (nI l.length)) (fun q => q.1 = .inl 0 ∧ rT q.2.1 T0 (Tn T + 1, wUp (Ty T) (Tn T) (3, 0, 0, l), wUp (Tm T) (Tn T) sz)) := by
  obtain ⟨hp1, hp2, hp3⟩ := hp
  have hn := h.2.2.1
  obtain ⟨s0, s1, s2, s3, s4, s5, s6, s7⟩ := wNT_all (x1 := 3) (x2 := nI sz) r hn
  have ct : (nI (Tn T)).toNatClampNeg = Tn T := nI_clamp (by omega)
  have cm : (nI l.length).toNatClampNeg = l.length := nI_clamp (by omega)
  have cs : (nI s).toNatClampNeg = s := nI_clamp (by omega)
  have fin : ∀ τ : StT, T_count τ = T_count (wNT σ 3 (nI sz)) → T_kinds τ = T_kinds (wNT σ 3 (nI sz)) → T_named τ = T_named (wNT σ 3 (nI sz)) → T_arguments τ = T_arguments (wNT σ 3 (nI sz)) → T_elements τ = T_elements (wNT σ 3 (nI sz)) → T_sizes τ = T_sizes (wNT σ 3 (nI sz)) → T_partStarts τ = T_partStarts (wNT σ 3 (nI sz)) → T_partCounts τ = T_partCounts (wNT σ 3 (nI sz)) → T_settledCount τ = T_settledCount σ → T_settledParts τ = T_settledParts σ → T_partsUsed τ = T_partsUsed σ →
      64 ≤ (T_parts τ).1 → (T_parts τ).1 ≤ 60000 → (∀ u, T_partsUsed σ = nI u → u ≤ 60000 → u + l.length ≤ (T_parts τ).1 ∧ ∀ j, j < u → (T_parts τ).2 j = (T_parts σ).2 j) →
      k_pc (f_T_appendParts_35 pa τ (nI (Tn T)) (nI s) (nI l.length)) (fun q => q.1 = .inl 0 ∧ rT q.2.1 T0 (Tn T + 1, wUp (Ty T) (Tn T) (3, 0, 0, l), wUp (Tm T) (Tn T) sz)) := by
    intro τ t0 t1 t2 t3 t4 t5 t6 t7 t8 t9 t10 t11 t12 t13
    unfold f_T_appendParts_35
    refine p_guard (fun _ => p_guard (fun _ => p_guard (fun _ => p_some ⟨rfl, ?_⟩)))
    refine rT_new h r (by omega) (t0.trans s0) (t1.trans s1) (t2.trans s2) (t3.trans s3) (t4.trans s4) (t5.trans s5) ?_ ?_ t8 t9 ?_
    · show upd (T_partCounts τ) (nI (Tn T)).toNatClampNeg (nI l.length) = _
      rw [ct, t7, s7, k_updd]; rfl
    · intro i hi
      show upd (T_partStarts τ) (nI (Tn T)).toNatClampNeg (T_partsUsed τ) i = _
      rw [ct, t6, s6, k_updd]; exact k_u hi
    · intro u u1 u2 u3 u4 u5
      obtain ⟨g1, g2⟩ := t13 u u1 (by omega)
      have cu : (T_partsUsed τ).toNatClampNeg = u := by rw [t10, u1]; exact nI_clamp (by omega)
      refine ⟨u + l.length, ?_, by omega, by omega, ?_, ?_, ?_, ?_, fun _ => ⟨u, ?_, Nat.le_refl _, fun k hk => ?_⟩⟩
      · show T_partsUsed τ + nI l.length = _
        rw [t10, u1, nI_add]
      · show u + l.length ≤ (T_parts τ).1
        exact g1
      · show 64 ≤ (T_parts τ).1
        exact t11
      · show (T_parts τ).1 ≤ 60000
        exact t12
      · intro j hj
        show va_cpy pa.2 (T_parts τ).2 (nI s).toNatClampNeg (T_partsUsed τ).toNatClampNeg (nI l.length).toNatClampNeg j = _
        rw [cu, cs, cm]
        unfold va_cpy
        rw [if_neg (by omega)]; exact g2 j hj
      · show upd (T_partStarts τ) (nI (Tn T)).toNatClampNeg (T_partsUsed τ) (Tn T) = _
        rw [ct, k_upds, t10]; exact u1
      · show va_cpy pa.2 (T_parts τ).2 (nI s).toNatClampNeg (T_partsUsed τ).toNatClampNeg (nI l.length).toNatClampNeg (u + k) = _
        replace hk : k < l.length := hk
        rw [cu, cs, cm]
        unfold va_cpy
        rw [if_pos (by omega), show s + (u + k - u) = s + k by omega]
        exact hp3 k hk
  have r' := r
  obtain ⟨u, us, r1, r2, r3, r4, r5, r6, r6', r7, r8, r9, r10, rr, rs⟩ := r'
  have eu : T_partsUsed (wNT σ 3 (nI sz)) = nI u := r2
  have ep : T_parts (wNT σ 3 (nI sz)) = T_parts σ := rfl
  have inj : ∀ v, T_partsUsed σ = nI v → v < 2 ^ 31 → v = u := by
    intro v hv hlt
    rw [r2, nI_eq (by omega) hlt] at hv
    exact hv.symm
  unfold f_T_appendParts
  rw [eu, nI_add, ep]
  refine p_if (fun w => ?_) (fun w => ?_)
  · have w2 : nI (u + l.length) ≤ nI (T_parts σ).1 := w
    rw [nI_leI (by omega) (by omega)] at w2
    refine fin _ rfl rfl rfl rfl rfl rfl rfl rfl rfl rfl rfl r8 r9 (fun v hv hb => ?_)
    rw [inj v hv (by omega)]
    exact ⟨w2, fun _ _ => rfl⟩
  · have w2 : ¬ nI (u + l.length) ≤ nI (T_parts σ).1 := w
    rw [nI_leI (by omega) (by omega)] at w2
    have e2 : 2 * nI (u + l.length) = nI (2 * (u + l.length)) := by
      show nI 2 * nI (u + l.length) = _; rw [k_mul]
    have hc : (nI (2 * (u + l.length))).toNatClampNeg = 2 * (u + l.length) := nI_clamp (by omega)
    rw [e2]
    refine p_guard (fun _ => p_ad ?_)
    refine p_mono (fin _ rfl rfl rfl rfl rfl rfl rfl rfl rfl rfl rfl ?_ ?_ (fun v hv hb => ?_)) (fun q hq => hq)
    · show 64 ≤ (nI (2 * (u + l.length))).toNatClampNeg
      rw [hc]; omega
    · show (nI (2 * (u + l.length))).toNatClampNeg ≤ 60000
      rw [hc]; omega
    · rw [inj v hv (by omega)]
      refine ⟨?_, fun j hj => ?_⟩
      · show u + l.length ≤ (nI (2 * (u + l.length))).toNatClampNeg
        rw [hc]; omega
      · show J_copyOf (T_parts σ).2 (T_parts σ).1 (nI (2 * (u + l.length))) j = _
        unfold J_copyOf va_cpy
        rw [hc, if_pos (by omega), show 0 + (j - 0) = j by omega]
theorem r_T_makeIntersection_38 (h : wOK C T) (r : rT σ T0 T) (hp : wRw pa s l) (hl : ∀ p, p ∈ l → p < Tn T) (h30 : l.length ≤ 30) :
    ∀ (f i : Nat), i ≤ l.length → k_pc (f_T_makeIntersection_38 pa f σ (nI s) (nI l.length) (nI (1 + wSum T (l.take i))) (nI i)) (fun q => ∃ v, q.1 = .inl v ∧ rNw σ T0 (wAdd T (3, 0, 0, l) (1 + wSum T l)) (v, q.2.1)) := by
  have hn := h.2.2.1
  have hb := wSum_b h.2 l hl
  intro f
  induction f with
  | zero => intro i _; exact p_none
  | succ f ih =>
    intro i hi
    rw [f_T_makeIntersection_38]
    unfold f_T_makeIntersection_38_s
    refine p_if (fun w => ?_) (fun w => ?_)
    · rw [nI_leI (by omega) (by omega)] at w
      have ei : i = l.length := by omega
      subst ei
      rw [List.take_length]
      unfold f_T_findIntersection
      refine p_bind (r_T_findIntersection_3 h r hp hl 1000 0 (by omega) (fun j hj => by omega)) ?_
      rintro v (⟨v1, v2⟩ | ⟨k, v1, v2, v3, v4⟩)
      · refine p_if (fun _ => ?_) (fun z => absurd v1 z)
        refine p_bind (r_T_add h.2 r (by omega)) ?_
        rintro ⟨x, τ⟩ (⟨q1, q2, q3⟩ | ⟨q1, q2, q3⟩)
        · replace q1 : x = -1 := q1
          replace q2 : τ = σ := q2
          refine p_if (fun _ => p_some ⟨x, rfl, ?_⟩) (fun z => absurd q1 z)
          rw [wAdd_new v2, if_pos q3]
          exact ⟨q1, q2⟩
        · replace q2 : x = nI (Tn T) := q2
          replace q3 : τ = wNT σ 3 (nI (1 + wSum T l)) := q3
          refine p_if (fun z => absurd (q2.symm.trans z) (k_ne1 (by omega))) (fun _ => ?_)
          rw [q3, q2]
          refine p_bind (r_T_append r h hp (by omega) h30) ?_
          rintro ⟨y, ρ, K, N⟩ ⟨y1, y2⟩
          replace y1 : y = .inl 0 := y1
          subst y1
          refine p_ad (p_some ⟨nI (Tn T), rfl, ?_⟩)
          rw [wAdd_new v2, if_neg q1]
          exact ⟨rfl, y2⟩
      · refine p_if (fun z => absurd (v1.symm.trans z) (k_ne1 (by omega))) (fun _ => p_some ⟨v, rfl, ?_⟩)
        rw [wAdd_hit v2 v3 v4]
        exact ⟨v1, r⟩
    · rw [nI_leI (by omega) (by omega)] at w
      have hi' : i < l.length := by omega
      have hp' := hp
      obtain ⟨hp1, hp2, hp3⟩ := hp'
      rw [nI_add, nI_clamp (show s + i < 2 ^ 31 by omega), hp3 i hi']
      refine p_guard (fun _ => ?_)
      rw [r_T_sizeOf h.2 r (hl _ (List.getElem_mem hi'))]
      show k_pc (f_T_makeIntersection_38 pa f σ (nI s) (nI l.length) (nI (1 + wSum T (l.take i)) + nI (Tm T l[i])) (nI i + 1)) _
      rw [nI_add, nI_1, show 1 + wSum T (l.take i) + Tm T l[i] = 1 + wSum T (l.take (i + 1)) by rw [wSum_take l i hi']; omega]
      exact ih (i + 1) (by omega)
theorem r_T_makeIntersection (h : wOK C T) (r : rT σ T0 T) (hp : wRw pa s l) (hl : ∀ p, p ∈ l → p < Tn T) (h30 : l.length ≤ 30) (h1 : 1 ≤ l.length) :
    k_pc (f_T_makeIntersection pa σ (nI s) (nI l.length)) (fun q => ∃ v, q.1 = .inl v ∧ rNw σ T0 (wInt T l) (v, q.2.1)) := by
  have hn := h.2.2.1
  have hp' := hp
  obtain ⟨hp1, hp2, hp3⟩ := hp'
  unfold f_T_makeIntersection
  refine p_if (fun z => absurd z (nI_pos (by omega))) (fun _ => ?_)
  refine p_if (fun z => ?_) (fun _ => ?_)
  · have z2 : nI l.length < nI 1 := z
    rw [nI_ltI (by omega) (by decide)] at z2
    omega
  · refine p_if (fun _ => ?_) (fun z => ?_)
    · refine p_if (fun z => ?_) (fun z => ?_)
      · have z2 : nI l.length = nI 1 := z
        rw [nI_eq (by omega) (by decide)] at z2
        match l, z2, hp3 with
        | [p], _, hp3 =>
          refine p_guard (fun _ => p_some ⟨_, rfl, ?_⟩)
          rw [nI_clamp (show s < 2 ^ 31 by omega)]
          have := hp3 0 (by simp)
          exact ⟨this, r⟩
      · have z2 : ¬ nI l.length = nI 1 := z
        rw [nI_eq (by omega) (by decide)] at z2
        rw [wInt_many (by omega)]
        have := r_T_makeIntersection_38 h r hp hl h30 1000 0 (by omega)
        exact this
    · exfalso
      have e : nI pa.1 - nI s = nI (pa.1 - s) := k_sub (by omega)
      have z2 : ¬ nI l.length ≤ nI pa.1 - nI s := z
      rw [e, nI_leI (by omega) (by omega)] at z2
      omega
end
-- part 08.59.repMT.lean.txt
/-! Tier 3: the reference's tables of types hold the numbers; it adds types. -/
def rMtr (μ : StM) (T : wWt) (i : Nat) : Prop := M_kind μ i = nI (dK (Ty T i)) ∧ M_classOf μ i = (if dK (Ty T i) = 1 then nI (dX (Ty T i)) else -1) ∧ M_how μ i = (if dK (Ty T i) = 1 then wH (dA (Ty T i)) else -1) ∧ M_inner μ i = (if dK (Ty T i) = 1 then wTd (dA (Ty T i)) else if dK (Ty T i) = 2 then nI (dX (Ty T i)) else -1) ∧ M_made μ i = nI (Tm T i) ∧ M_partCount μ i = nI (wPc (Ty T i)) ∧ (∀ k (hk : k < (wPs T i).length), M_partRow μ (30 * i + k) = nI (wPs T i)[k])
def rMt (μ : StM) (T : wWt) : Prop := M_types μ = nI (Tn T) ∧ ∀ i, i < Tn T → rMtr μ T i
theorem rMtr_eq {σ τ : StM} {T T' : wWt} {i : Nat} (h : rMtr σ T i) (e : kEq i σ τ) (eT : Ty T' i = Ty T i) (eM : Tm T' i = Tm T i) (hl : (wPs T i).length ≤ 30) : rMtr τ T' i := by
  obtain ⟨h1, h2, h3, h4, h5, h6, h7⟩ := h
  obtain ⟨e1, e2, e3, e4, e5, e6, e7⟩ := e
  have ep : wPs T' i = wPs T i := by unfold wPs; rw [eT]
  refine ⟨?_, ?_, ?_, ?_, ?_, ?_, ?_⟩
  · rw [e1, eT]; exact h1
  · rw [e2, eT]; exact h2
  · rw [e3, eT]; exact h3
  · rw [e4, eT]; exact h4
  · rw [e5, eM]; exact h5
  · rw [e6, eT]; exact h6
  · intro k hk
    have hk' : k < (wPs T i).length := by rw [← ep]; exact hk
    rw [e7 k (by omega), h7 k hk']
    congr 1
    simp [ep]
def rMw (o : Option (Nat × wWt)) (r : Int32 × StM) : Prop := match o with
  | none => r.1 = 0 ∧ M_full r.2 = 1
  | some x => r.1 = nI x.1 ∧ rMt r.2 x.2 ∧ M_full r.2 = 0
section
variable {σ : StM} {C : wWc} {T : wWt} {g : Nat}
theorem kMC_of (h : wOK C T) (r : rMc σ C g) : kMC σ (Wn C) (Tn T) := by
  have hb : ∀ b : Bool, b2 b = 0 ∨ b2 b = 1 := by intro b; cases b <;> decide
  refine ⟨r.1, h.1.1, h.1.2.1, fun c hc => ?_, fun c hc => ?_⟩
  · rw [(r.2.2 c (by have := h.1.1; omega)).2.1, h.1.2.2.2.2.2.2.2.1 c hc]; rfl
  · obtain ⟨r1, r2, r3, r4, r5⟩ := r.2.2 c hc
    obtain ⟨d1, d2⟩ := h.1.2.2.1 c hc
    refine ⟨by rw [r2]; exact hb _, Wd C c, d1, d2, r3, fun k hk => ?_, fun k l hkl hl => ?_, fun b hb => ?_⟩
    · obtain ⟨q1, q2⟩ := h.1.2.2.2.1 c k hc hk
      refine ⟨Wo C c k, q1, (r4 k hk).1, ?_⟩
      rw [(r.2.2 (Wo C c k) (by omega)).2.1, r2, (r4 k hk).2]
      rcases q2 with ⟨w1, w2⟩ | ⟨w1, ⟨x, x1, x2, x3⟩ | ⟨w2, w3⟩⟩
      · rw [w1, w2]; exact Or.inl ⟨rfl, rfl⟩
      · rw [w1, x3]
        refine Or.inr ⟨rfl, Or.inl ⟨x, x1, x2, ?_⟩⟩
        unfold wTd
        rw [if_neg (by omega), if_neg (by omega)]; congr 1; omega
      · rw [w1, w2, w3]; exact Or.inr ⟨rfl, Or.inr ⟨rfl, rfl⟩⟩
    · have := h.1.2.2.2.2.1 c k l hc hkl hl
      have p1 := (h.1.2.2.2.1 c k hc (by omega)).1
      have p2 := (h.1.2.2.2.1 c l hc hl).1
      have hn := h.1.2.1
      rw [(r4 k (by omega)).1, (r4 l hl).1]
      intro e
      rw [nI_eq (by omega) (by omega)] at e
      exact this e
    · rw [r5 b hb, h.1.2.2.2.2.2.1 c b hc]
      have hn := h.1.2.1
      constructor
      · rintro ⟨k, k1, k2⟩
        have p1 := (h.1.2.2.2.1 c k hc k1).1
        refine ⟨k, Wo C c k, k1, p1, (r4 k k1).1, ?_⟩
        rw [(r.2.2 (Wo C c k) (by omega)).2.2.2.2 b hb]
        by_cases e : Wo C c k = b
        · exact Or.inl e
        · exact Or.inr (wTw_ne k2 e)
      · rintro ⟨k, e, k1, k2, k3, k4⟩
        have p1 := (h.1.2.2.2.1 c k hc k1).1
        rw [(r4 k k1).1, nI_eq (by omega) (by omega)] at k3
        subst k3
        refine ⟨k, k1, ?_⟩
        rw [(r.2.2 (Wo C c k) (by omega)).2.2.2.2 b hb] at k4
        rcases k4 with e | e
        · rw [e]; exact wTw_self b
        · exact wTw_up e
theorem wTd_x {x a : Nat} (h : a = 4 * x + 1 ∨ a = 4 * x + 2) : wTd a = nI x := by
  unfold wTd
  by_cases z : a = 3
  · omega
  · rw [if_neg (by omega), if_neg z]; congr 1; omega
theorem wH_x {x a : Nat} (h : a = 4 * x + 1) : wH a = 1 := by
  unfold wH
  rw [if_neg (by omega), if_neg (by omega), show a % 4 = 1 by omega]; rfl
theorem wH_y {x a : Nat} (h : a = 4 * x + 2) : wH a = 2 := by
  unfold wH
  rw [if_neg (by omega), if_neg (by omega), show a % 4 = 2 by omega]; rfl
theorem kMT_of (h : wOK C T) (r : rMc σ C g) (q : rMt σ T) : kMT σ (Wn C) (Tn T) := by
  refine ⟨q.1, h.2.1, h.2.2.1, fun i hi => ?_, fun i h8 h16 => ?_⟩
  · obtain ⟨q1, q2, q3, q4, q5, q6, q7⟩ := q.2 i hi
    obtain ⟨m1, m2, h1 | ⟨h0, c, a, h1, h2, h3, h4⟩ | ⟨h0, e, h1, h2, h3⟩ | ⟨h0, l, h1, h2, h3, h4, h5, h6⟩⟩ := h.2.2.2.1 i hi
    · refine ⟨⟨Tm T i, m1, m2, q5⟩, Or.inl ⟨h1.1, ?_, ?_⟩⟩
      · rw [q1, h1.2.1]; rfl
      · rw [q6, h1.2.1]; rfl
    · have ep : wPs T i = [i] := by unfold wPs; rw [if_pos (by rw [h1])]
      refine ⟨⟨Tm T i, m1, m2, q5⟩, Or.inr (Or.inl ⟨h0, ?_, ?_, ?_, c, h2, ?_, ?_⟩)⟩
      · rw [q1, h1]; rfl
      · rw [q6, h1]; rfl
      · have := q7 0 (by rw [ep]; simp)
        rw [show 30 * i + 0 = 30 * i by omega] at this
        rw [this]; simp [ep]
      · rw [q2, h1]; rfl
      · rw [q3, q4, h1, (r.2.2 c h2).2.1]
        show kOwn i (b2 (Wg C c)) (wH a) (wTd a)
        rcases h3 with ⟨w1, w2⟩ | ⟨w1, x, x1, x2, x3⟩
        · rw [w1, w2]; exact Or.inl ⟨rfl, rfl, rfl⟩
        · rw [w1, wTd_x x3]
          refine Or.inr ⟨rfl, ?_, x, x1, x2, rfl⟩
          rcases x3 with x3 | x3
          · exact Or.inl (wH_x x3)
          · exact Or.inr (wH_y x3)
    · refine ⟨⟨Tm T i, m1, m2, q5⟩, Or.inr (Or.inr (Or.inl ⟨h0, ?_, ?_, e, Tm T e, h2, ?_, ?_, ?_⟩))⟩
      · rw [q1, h1]; rfl
      · rw [q6, h1]; rfl
      · rw [q4, h1]; rfl
      · exact (q.2 e (by omega)).2.2.2.2.1
      · rw [q5, h3, Nat.add_comm]
    · have ep : wPs T i = l := by unfold wPs; rw [h1]; rfl
      refine ⟨⟨Tm T i, m1, m2, q5⟩, Or.inr (Or.inr (Or.inr ⟨h0, ?_, l.length, h3, ?_, fun k hk => ?_⟩))⟩
      · rw [q1, h1]; rfl
      · rw [q6, h1]; rfl
      · obtain ⟨p1, p2, p3⟩ := h4 l[k] (List.getElem_mem hk)
        refine ⟨l[k], p2, p1, ?_, ?_⟩
        · rw [q7 k (by rw [ep]; exact hk)]; congr 1; simp [ep]
        · rw [(q.2 l[k] (by omega)).1, p3]; rfl
  · have := h.2.1
    rw [(q.2 i (by omega)).1, h.2.2.2.2 i h8 h16]; rfl
theorem kM_of (h : wOK C T) (r : rMc σ C g) (q : rMt σ T) : kM σ (Wn C) (Tn T) := ⟨kMC_of h r, kMT_of h r q⟩
theorem rMt_new (h : wTok C T) {τ : StM} {d : wDs} {sz : Nat} (q : rMt σ T) (ha : kAg (Tn T) σ τ) (e0 : M_types τ = nI (Tn T + 1)) (e : rMtr τ (Tn T + 1, wUp (Ty T) (Tn T) d, wUp (Tm T) (Tn T) sz) (Tn T)) : rMt τ (Tn T + 1, wUp (Ty T) (Tn T) d, wUp (Tm T) (Tn T) sz) := by
  refine ⟨e0, fun i hi => ?_⟩
  replace hi : i < Tn T + 1 := hi
  by_cases z : i = Tn T
  · rw [z]; exact e
  · exact rMtr_eq (q.2 i (by omega)) (ha i (by omega)) (wUp_n z) (wUp_n z) (by rw [wPs_len h (show i < Tn T by omega)]; exact wPc_le h (by omega))
theorem r_M_add_84 (h : wOK C T) (q : rMt σ T) {x1 x2 x3 x4 t0 t1 : Int32} {sz : Nat} (es : t0 + t1 = nI sz) (hs : sz < 1000) (hf : M_full σ = 0) {d : wDs} (hd : dK d = 1 ∨ dK d = 2 ∧ dL d = []) (y1 : x1 = nI (dK d)) (y2 : x2 = (if dK d = 1 then nI (dX d) else -1)) (y3 : x3 = (if dK d = 1 then wH (dA d) else -1)) (y4 : x4 = (if dK d = 1 then wTd (dA d) else if dK d = 2 then nI (dX d) else -1)) :
    k_pc (f_M_add_84 σ x1 x2 x3 x4 t0 t1) (rMw (if Tn T = 300 ∨ 100 < sz then none else some (Tn T, (Tn T + 1, wUp (Ty T) (Tn T) d, wUp (Tm T) (Tn T) sz)))) := by
  have hn := h.2.2.1
  have e : M_types σ = nI (Tn T) := q.1
  have cl : (M_types σ).toNatClampNeg = Tn T := by rw [e]; exact nI_clamp (by omega)
  have em : 30 * M_types σ = nI (30 * Tn T) := by rw [e]; exact k_mul 30 _
  have cm : (30 * M_types σ).toNatClampNeg = 30 * Tn T := by rw [em]; exact nI_clamp (by omega)
  have t1' : Ty (Tn T + 1, wUp (Ty T) (Tn T) d, wUp (Tm T) (Tn T) sz) (Tn T) = d := wUp_s
  have t2' : Tm (Tn T + 1, wUp (Ty T) (Tn T) d, wUp (Tm T) (Tn T) sz) (Tn T) = sz := wUp_s
  have fin : ∀ (τ : StM) (y : Int32), ¬ (Tn T = 300 ∨ 100 < sz) → y = nI (wPc d) → M_types τ = M_types σ → M_full τ = 0 → M_kind τ = upd (M_kind σ) (M_types σ).toNatClampNeg x1 → M_classOf τ = upd (M_classOf σ) (M_types σ).toNatClampNeg x2 → M_how τ = upd (M_how σ) (M_types σ).toNatClampNeg x3 → M_inner τ = upd (M_inner σ) (M_types σ).toNatClampNeg x4 → M_made τ = upd (M_made σ) (M_types σ).toNatClampNeg (t0 + t1) → M_partCount τ = M_partCount σ → M_partRow τ = M_partRow σ →
      k_pc (f_M_add_181 τ (M_types τ) y) (rMw (if Tn T = 300 ∨ 100 < sz then none else some (Tn T, (Tn T + 1, wUp (Ty T) (Tn T) d, wUp (Tm T) (Tn T) sz)))) := by
    intro τ y hno hy e0 ef e1 e2 e3 e4 e5 e6 e7
    rw [cl] at e1 e2 e3 e4 e5
    rw [es] at e5
    rw [if_neg hno]
    unfold f_M_add_181
    refine p_guard (fun _ => p_guard (fun _ => p_some ⟨?_, ?_, ef⟩))
    · show M_types τ + 1 - 1 = nI (Tn T)
      rw [e0, e, nI_1]; exact nI_pred _
    · refine rMt_new h.2 q (fun i hi => ⟨?_, ?_, ?_, ?_, ?_, ?_, ?_⟩) ?_ ⟨?_, ?_, ?_, ?_, ?_, ?_, ?_⟩
      · show M_kind τ i = _; rw [e1]; exact k_u hi
      · show M_classOf τ i = _; rw [e2]; exact k_u hi
      · show M_how τ i = _; rw [e3]; exact k_u hi
      · show M_inner τ i = _; rw [e4]; exact k_u hi
      · show M_made τ i = _; rw [e5]; exact k_u hi
      · show upd (M_partCount τ) (M_types τ).toNatClampNeg y i = _; rw [e0, cl, e6]; exact k_u hi
      · intro k hk
        show upd (M_partRow τ) (30 * M_types τ).toNatClampNeg (M_types τ) (30 * i + k) = _
        rw [e0, cm, e7]; exact k_u (by omega)
      · show M_types τ + 1 = _
        rw [e0, e]; exact nI_1 _
      · rw [t1']; show M_kind τ (Tn T) = _; rw [e1, k_upds]; exact y1
      · rw [t1']; show M_classOf τ (Tn T) = _; rw [e2, k_upds]; exact y2
      · rw [t1']; show M_how τ (Tn T) = _; rw [e3, k_upds]; exact y3
      · rw [t1']; show M_inner τ (Tn T) = _; rw [e4, k_upds]; exact y4
      · rw [t2']; show M_made τ (Tn T) = _; rw [e5, k_upds]
      · rw [t1']; show upd (M_partCount τ) (M_types τ).toNatClampNeg y (Tn T) = _; rw [e0, cl, k_upds]; exact hy
      · intro k hk
        show upd (M_partRow τ) (30 * M_types τ).toNatClampNeg (M_types τ) (30 * Tn T + k) = _
        rcases hd with hd | ⟨hd, hd2⟩
        · have ep : wPs (Tn T + 1, wUp (Ty T) (Tn T) d, wUp (Tm T) (Tn T) sz) (Tn T) = [Tn T] := by
            unfold wPs; rw [t1', if_pos hd]
          have k0 : k = 0 := by rw [ep] at hk; simpa using hk
          subst k0
          rw [e0, cm, show 30 * Tn T + 0 = 30 * Tn T by omega, k_upds, e]
          congr 1; simp [ep]
        · have ep : wPs (Tn T + 1, wUp (Ty T) (Tn T) d, wUp (Tm T) (Tn T) sz) (Tn T) = [] := by
            unfold wPs; rw [t1', if_neg (by omega), hd2]
          rw [ep] at hk
          exact absurd hk (by simp)
  have fl : (Tn T = 300 ∨ 100 < sz) → k_pc (f_M_add_104 σ) (rMw (if Tn T = 300 ∨ 100 < sz then none else some (Tn T, (Tn T + 1, wUp (Ty T) (Tn T) d, wUp (Tm T) (Tn T) sz)))) := by
    intro w
    rw [if_pos w]
    exact p_some ⟨rfl, rfl⟩
  unfold f_M_add_84
  refine p_if (fun w => fl (Or.inl ?_)) (fun w => ?_)
  · have w2 : nI (Tn T) = nI 300 := by rw [← e]; exact w
    rw [nI_eq (by omega) (by decide)] at w2
    exact w2
  · have w2 : ¬ nI (Tn T) = nI 300 := by rw [← e]; exact w
    rw [nI_eq (by omega) (by decide)] at w2
    refine p_if (fun z => ?_) (fun z => fl (Or.inr ?_))
    · have z2 : nI sz ≤ nI 100 := by rw [← es]; exact z
      rw [nI_leI (by omega) (by decide)] at z2
      have hno : ¬ (Tn T = 300 ∨ 100 < sz) := by omega
      refine p_guard (fun _ => p_guard (fun _ => p_guard (fun _ => p_guard (fun _ => p_guard (fun _ => p_if (fun v => ?_) (fun v => ?_))))))
      · refine fin _ 1 hno ?_ rfl hf rfl rfl rfl rfl rfl rfl rfl
        rcases hd with hd | ⟨hd, _⟩
        · unfold wPc; rw [if_pos hd]; rfl
        · rw [y1, hd] at v; exact absurd v (by decide)
      · refine fin _ 0 hno ?_ rfl hf rfl rfl rfl rfl rfl rfl rfl
        rcases hd with hd | ⟨hd, hd2⟩
        · rw [y1, hd] at v; exact absurd rfl v
        · unfold wPc; rw [if_neg (by omega), hd2]; rfl
    · have z2 : ¬ nI sz ≤ nI 100 := by rw [← es]; exact z
      rw [nI_leI (by omega) (by decide)] at z2
      omega
end
-- part 08.60.addM.lean.txt
/-! Tier 3: the reference adds NAMED types and ARRAYS. -/
section
variable {σ : StM} {C : wWc} {T : wWt} {g : Nat}
/-- an own ARGUMENT is known by its two numbers -/
theorem wHT_inj {t t' : Nat} {g g' : Bool} {a b : Nat} (ht : t ≤ 300) (ht' : t' ≤ 300) (ha : wOk t g a) (hb : wOk t' g' b) (e1 : wH a = wH b) (e2 : wTd a = wTd b) : a = b := by
  rcases ha with ⟨_, ha⟩ | ⟨_, x, x1, x2, x3⟩
  · rcases hb with ⟨_, hb⟩ | ⟨_, y, y1, y2, y3⟩
    · rw [ha, hb]
    · rw [ha, wTd_x y3] at e2
      exact absurd e2.symm (k_ne1 (by omega))
  · rcases hb with ⟨_, hb⟩ | ⟨_, y, y1, y2, y3⟩
    · rw [hb, wTd_x x3] at e2
      exact absurd e2 (k_ne1 (by omega))
    · rw [wTd_x x3, wTd_x y3, nI_eq (by omega) (by omega)] at e2
      subst e2
      rcases x3 with x3 | x3
      · rcases y3 with y3 | y3
        · omega
        · rw [wH_x x3, wH_y y3] at e1; exact absurd e1 (by decide)
      · rcases y3 with y3 | y3
        · rw [wH_y x3, wH_x y3] at e1; exact absurd e1 (by decide)
        · omega
theorem rMtr_named (h : wOK C T) {i c a : Nat} (hi : i < Tn T) (hc : c < 1000) {g0 : Bool} (ha : wOk (Tn T) g0 a) (q : rMtr σ T i) : Ty T i = (1, c, a, []) ↔ (M_kind σ i = 1 ∧ M_classOf σ i = nI c ∧ M_how σ i = wH a ∧ M_inner σ i = wTd a) := by
  have hn := h.2.2.1
  obtain ⟨q1, q2, q3, q4, _⟩ := q
  constructor
  · intro e
    rw [q1, q2, q3, q4, e]
    exact ⟨rfl, rfl, rfl, rfl⟩
  · rintro ⟨e1, e2, e3, e4⟩
    have z1 : nI (dK (Ty T i)) = nI 1 := q1.symm.trans e1
    rw [nI_eq (by have := wK_lt h.2 hi; omega) (by decide)] at z1
    rw [q2, if_pos z1] at e2
    rw [q3, if_pos z1] at e3
    rw [q4, if_pos z1] at e4
    have hX := wX_lt h hi
    rw [nI_eq (by omega) (by omega)] at e2
    obtain ⟨_, w1, w2, _⟩ := wT_named h.2 hi z1
    have ea := wHT_inj (show i ≤ 300 by omega) hn w2 ha e3 e4
    obtain ⟨_, _, h1 | ⟨_, c', a', h1, h2⟩ | ⟨_, e, h1, _⟩ | ⟨_, l, h1, _⟩⟩ := h.2.2.2.1 i hi
    · rw [h1.2.1] at z1; cases z1
    · rw [h1] at ea e2 ⊢
      replace e2 : c' = c := e2
      replace ea : a' = a := ea
      rw [e2, ea]
    · rw [h1] at z1; cases z1
    · rw [h1] at z1; cases z1
theorem rMtr_arr (h : wOK C T) {i e : Nat} (hi : i < Tn T) (he : e < 1000) (q : rMtr σ T i) : Ty T i = (2, e, 0, []) ↔ (M_kind σ i = 2 ∧ M_classOf σ i = -1 ∧ M_how σ i = -1 ∧ M_inner σ i = nI e) := by
  have hn := h.2.2.1
  obtain ⟨q1, q2, q3, q4, _⟩ := q
  constructor
  · intro z
    rw [q1, q2, q3, q4, z]
    exact ⟨rfl, rfl, rfl, rfl⟩
  · rintro ⟨e1, _, _, e4⟩
    have z1 : nI (dK (Ty T i)) = nI 2 := q1.symm.trans e1
    rw [nI_eq (by have := wK_lt h.2 hi; omega) (by decide)] at z1
    rw [q4, if_neg (by omega), if_pos z1] at e4
    have hX := wX_lt h hi
    rw [nI_eq (by omega) (by omega)] at e4
    obtain ⟨_, _, h1 | ⟨_, c', a', h1, h2⟩ | ⟨_, e', h1, _⟩ | ⟨_, l, h1, _⟩⟩ := h.2.2.2.1 i hi
    · rw [h1.2.1] at z1; cases z1
    · rw [h1] at z1; cases z1
    · rw [h1] at e4 ⊢
      replace e4 : e' = e := e4
      rw [e4]
    · rw [h1] at z1; cases z1
theorem r_M_add_3 (h : wOK C T) (q : rMt σ T) (hf : M_full σ = 0) {x1 x2 x3 x4 : Int32} {d : wDs} {sz : Nat}
    (key : ∀ i, i < Tn T → (Ty T i = d ↔ (M_kind σ i = x1 ∧ M_classOf σ i = x2 ∧ M_how σ i = x3 ∧ M_inner σ i = x4)))
    (hend : (x4 = -1 → k_pc (f_M_add_84 σ x1 x2 x3 x4 1 0) (rMw (if Tn T = 300 ∨ 100 < sz then none else some (Tn T, (Tn T + 1, wUp (Ty T) (Tn T) d, wUp (Tm T) (Tn T) sz))))) ∧ (¬ x4 = -1 → k_pc (f_M_add_84 σ x1 x2 x3 x4 1 ((M_made σ) x4.toNatClampNeg)) (rMw (if Tn T = 300 ∨ 100 < sz then none else some (Tn T, (Tn T + 1, wUp (Ty T) (Tn T) d, wUp (Tm T) (Tn T) sz)))))) :
    ∀ (f i : Nat), i ≤ Tn T → (∀ j, j < i → Ty T j ≠ d) → k_pc (f_M_add_3 f σ x1 x2 x3 x4 (nI i)) (rMw (wAdd T d sz)) := by
  have hn := h.2.2.1
  intro f
  induction f with
  | zero => intro i _ _; exact p_none
  | succ f ih =>
    intro i hi hq
    rw [f_M_add_3]
    unfold f_M_add_3_s
    rw [q.1]
    refine p_if (fun w => ?_) (fun w => ?_)
    · rw [nI_leI (by omega) (by omega)] at w
      have ei : i = Tn T := by omega
      subst ei
      rw [wAdd_new hq]
      exact p_if hend.1 (fun z => p_guard (fun _ => hend.2 z))
    · rw [nI_leI (by omega) (by omega)] at w
      rw [nI_clamp (show i < 2 ^ 31 by omega), nI_1]
      have nx : Ty T i ≠ d → k_pc (f_M_add_3 f σ x1 x2 x3 x4 (nI (i + 1))) (rMw (wAdd T d sz)) := by
        intro ne
        refine ih (i + 1) (by omega) (fun j hj => ?_)
        by_cases z : j = i
        · rw [z]; exact ne
        · exact hq j (by omega)
      have ki := key i (by omega)
      refine p_guard (fun _ => p_if (fun z1 => ?_) (fun z1 => nx (fun e => z1 (ki.mp e).1)))
      refine p_guard (fun _ => p_if (fun z2 => ?_) (fun z2 => nx (fun e => z2 (ki.mp e).2.1)))
      refine p_guard (fun _ => p_if (fun z3 => ?_) (fun z3 => nx (fun e => z3 (ki.mp e).2.2.1)))
      refine p_guard (fun _ => p_if (fun z4 => ?_) (fun z4 => nx (fun e => z4 (ki.mp e).2.2.2)))
      rw [wAdd_hit (by omega) (ki.mpr ⟨z1, z2, z3, z4⟩) hq]
      exact p_some ⟨rfl, q, hf⟩
theorem r_M_addNamed (h : wOK C T) (q : rMt σ T) (hf : M_full σ = 0) {c a : Nat} (hc : c < Wn C) (ho : wOk (Tn T) (Wg C c) a) : k_pc (f_M_addNamed σ (nI c) (wH a) (wTd a)) (rMw (wAdd T (1, c, a, []) (1 + (if a = 0 then 0 else Tm T (a / 4))))) := by
  have hn := h.2.2.1
  have hC := h.1.2.1
  unfold f_M_addNamed
  refine p_if (fun _ => ?_) (fun z => absurd hf z)
  refine p_bind ?_ (fun r hr => p_some hr)
  unfold f_M_add
  refine r_M_add_3 h q hf (fun i hi => rMtr_named h hi (by omega) ho (q.2 i hi)) ⟨fun z => ?_, fun z => ?_⟩ 1000 0 (by omega) (fun j hj => by omega)
  · have a0 : a = 0 := by
      rcases ho with ⟨_, e⟩ | ⟨_, x, x1, x2, x3⟩
      · exact e
      · rw [wTd_x x3] at z; exact absurd z (k_ne1 (by omega))
    subst a0
    exact r_M_add_84 h q rfl (by decide) hf (Or.inl rfl) rfl rfl rfl rfl
  · rcases ho with ⟨_, e⟩ | ⟨_, x, x1, x2, x3⟩
    · rw [e] at z; exact absurd rfl z
    · have hm := (h.2.2.2.1 x x2).2.1
      have ea : a / 4 = x := by omega
      have cx : (wTd a).toNatClampNeg = x := by rw [wTd_x x3]; exact nI_clamp (by omega)
      rw [if_neg (show ¬ a = 0 by omega), ea]
      refine r_M_add_84 h q ?_ (by omega) hf (Or.inl rfl) rfl rfl rfl rfl
      rw [cx, (q.2 x x2).2.2.2.2.1]
      exact nI_add 1 _
theorem r_M_addArray (h : wOK C T) (q : rMt σ T) (hf : M_full σ = 0) {e : Nat} (he : e < Tn T) : k_pc (f_M_addArray σ (nI e)) (rMw (wAdd T (2, e, 0, []) (1 + Tm T e))) := by
  have hn := h.2.2.1
  unfold f_M_addArray
  refine p_if (fun _ => ?_) (fun z => absurd hf z)
  refine p_bind ?_ (fun r hr => p_some hr)
  unfold f_M_add
  refine r_M_add_3 h q hf (fun i hi => rMtr_arr h hi (by omega) (q.2 i hi)) ⟨fun z => ?_, fun z => ?_⟩ 1000 0 (by omega) (fun j hj => by omega)
  · exact absurd z (k_ne1 (by omega))
  · have hm := (h.2.2.2.1 e he).2.1
    rw [nI_clamp (show e < 2 ^ 31 by omega), (q.2 e he).2.2.2.2.1]
    exact r_M_add_84 h q (nI_add 1 _) (by omega) hf (Or.inr ⟨rfl, rfl⟩) rfl rfl rfl rfl
end
