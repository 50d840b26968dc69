/-! Tier 3: side by side: named, isBelow, declare. -/
theorem p_eq {α : Type} {o : Option α} {a : α} (h : o = some a) : k_pc o (fun v => v = a) := by
  intro r e
  rw [h] at e
  cases e; rfl
section
variable {σ : StL} {μ : StM} {C : wWc} {T : wWt} {g d : Nat}
theorem k_argOf {x y : Nat} (hy : y = 1 ∨ y = 2) : f_L_argumentOf (nI y) (nI x) = nI (4 * x + y) := by
  unfold f_L_argumentOf
  have ne : ¬ nI y = 0 := by
    rcases hy with e | e
    · subst e; decide
    · subst e; decide
  rw [if_neg ne]
  show nI x * nI 4 + nI y = _
  rw [k_mul, nI_add, Nat.mul_comm]
theorem R_named (h : RW C g T d) (hL : RL σ C g T d) (hM : RM μ C g T d) (x1 x2 x3 : Int32) : RQ (fun e => if e = 1 then 1 else if e = 3 then 2 else 3) d (f_L_named σ x1 x2 x3) (f_M_named μ x1 x2 x3) := by
  have hn := RW_not h
  have hM0 : RM (M_set_code μ 0) C g T d := hM
  have bad : ∀ t : Int32, ¬ t = 0 → k_pc (f_M_named_78 μ x1 x2 x3 t) (fun q => M_code q.2 = t ∧ RM q.2 C g T d) := by
    intro t ht
    have hMt : RM (M_set_code μ t) C g T d := hM
    unfold f_M_named_78
    refine p_good (fun q => absurd q ht) (fun _ => ?_)
    exact p_if (fun _ => p_some ⟨rfl, hMt⟩) (fun q => absurd rfl q)
  by_cases h1 : ∃ j, j < Wn C ∧ x1 = nI j
  · obtain ⟨i, hi, rfl⟩ := h1
    have ci : (nI i).toNatClampNeg = i := nI_clamp (by omega)
    have l89 : ∀ A, wOk (Tn T) (Wg C i) A → f_L_argumentOf x2 x3 = nI A → k_pc (f_L_named_89 σ (nI i) x2 x3) (fun q => q.1 = oL (wNm T i A) ∧ RL q.2.1 C g (oT T (wNm T i A)) d) := by
      intro A ok eA
      unfold f_L_named_89
      rw [eA]
      refine p_bind (r_T_makeNamed (σ := L_types σ) h.1 hL.1.2 hi ok) ?_
      rintro ⟨v, τ⟩ hv
      have hv' : rNw (L_types σ) T (wNm T i A) (v, τ) := hv
      exact p_settled (τ := L_set_types σ τ) h.1 hL.1.1 hL.2.1 hL.2.2 (rUv_nw hL.1.2 hv') (wOx_nm h.1 hi ok)
    have m112 : ∀ A, wOk (Tn T) (Wg C i) A → k_pc (f_M_named_112 (M_set_code μ 0) (nI (Tn T)) (nI i) (wH A) (wTd A)) (fun z => RO (fun e => if e = 1 then 1 else if e = 3 then 2 else 3) (oL (wNm T i A)) z ∧ RM z.2 C g (oT T (wNm T i A)) d) := by
      intro A ok
      unfold f_M_named_112
      refine p_bind (p_addNamed (σ := M_set_code μ 0) h.1 hM.1 hM.2.1 hM.2.2.2.1 hi ok) ?_
      rintro ⟨w, ν⟩ ⟨⟨b, eb⟩, ag, hw⟩
      replace eb : ν = mB (M_set_code μ 0) b := eb
      exact p_bind (p_endM h.1 hM0 (by rw [eb]; exact pKe_mB _ b) ag (wOx_nm h.1 hi ok) (pEd_mw hw) rfl rfl) (fun r hr => p_some hr)
    by_cases z0 : x2 = 0
    · subst z0
      cases eg : Wg C i with
      | true =>
        refine R_thr h 3 ?_ ?_
        · unfold f_L_named
          refine p_rc (fun z => absurd z (rC_there h.1.1 hL.1.1 hi)) (fun _ => p_ad ?_)
          refine p_if (fun _ => ?_) (fun z => absurd rfl z)
          unfold f_L_named_14
          rw [if_neg (by decide), if_neg (by decide)]
          unfold f_L_named_29
          rw [if_pos rfl, if_pos rfl]
          unfold f_L_named_40
          refine p_bind (p_eq (r_C_isGeneric h.1.1 hL.1.1 hi)) ?_
          rintro _ rfl
          rw [eg]
          exact p_if (fun z => absurd z (by decide)) (fun _ => p_some ⟨rfl, hL⟩)
        · unfold f_M_named
          rw [if_neg (R_isClass h hM hi), if_pos rfl]
          unfold f_M_named_20 f_M_named_25
          rw [if_neg (by decide), if_neg (by decide), if_neg (by decide)]
          refine p_guard (fun _ => ?_)
          rw [if_pos rfl]
          unfold f_M_named_60
          rw [ci, (hM.1.2.2 i hi).2.1, eg, if_pos rfl]
          exact bad 2 (by decide)
      | false =>
        have ok : wOk (Tn T) (Wg C i) 0 := Or.inl ⟨eg, rfl⟩
        refine ⟨oL (wNm T i 0), C, g, oT T (wNm T i 0), RW_ex h (wOx_nm h.1 hi ok), ?_, ?_⟩
        · unfold f_L_named
          refine p_rc (fun z => absurd z (rC_there h.1.1 hL.1.1 hi)) (fun _ => p_ad ?_)
          refine p_if (fun _ => ?_) (fun z => absurd rfl z)
          unfold f_L_named_14
          rw [if_neg (by decide), if_neg (by decide)]
          unfold f_L_named_29
          rw [if_pos rfl, if_pos rfl]
          unfold f_L_named_40
          refine p_bind (p_eq (r_C_isGeneric h.1.1 hL.1.1 hi)) ?_
          rintro _ rfl
          rw [eg]
          exact p_if (fun _ => p_if (fun _ => l89 0 ok rfl) (fun z => absurd rfl z)) (fun z => absurd rfl z)
        · unfold f_M_named
          rw [if_neg (R_isClass h hM hi), if_pos rfl]
          unfold f_M_named_20 f_M_named_25
          rw [if_neg (by decide), if_neg (by decide), if_neg (by decide)]
          refine p_guard (fun _ => ?_)
          rw [if_pos rfl]
          unfold f_M_named_60
          rw [ci, (hM.1.2.2 i hi).2.1, eg, if_neg (by decide), if_pos (by decide)]
          unfold f_M_named_77 f_M_named_78
          refine p_good (fun _ => ?_) (fun q => absurd rfl q)
          refine p_if (fun q => absurd q k_10) (fun _ => p_if (fun _ => ?_) (fun z => absurd rfl z))
          have et : M_types (M_set_code μ 0) = nI (Tn T) := hM.2.1.1
          show k_pc (f_M_named_112 (M_set_code μ 0) (M_types (M_set_code μ 0)) (nI i) 0 (-1)) _
          rw [et]
          exact m112 0 ok
    · by_cases h3 : ∃ j, j < Tn T ∧ x3 = nI j
      · obtain ⟨j, hj, rfl⟩ := h3
        have lgo : ∀ {Q : (Int32 ⊕ Nat) × StL × Nat × Nat → Prop}, k_pc (f_L_named_14 σ (nI i) x2 (nI j)) (fun r => Q (r.1, r.2.1, r.2.2.1 + 0 + 0, r.2.2.2 + 0 + 0)) → k_pc (f_L_named σ (nI i) x2 (nI j)) Q := by
          intro Q kk
          unfold f_L_named
          refine p_rc (fun z => absurd z (rC_there h.1.1 hL.1.1 hi)) (fun _ => p_ad ?_)
          refine p_if (fun z => absurd z z0) (fun _ => ?_)
          exact p_rt (fun z => absurd z (rT_there h.1.2 hL.1.2 hj)) (fun _ => p_ad kk)
        have rgo : ∀ {Q : Int32 × StM → Prop}, k_pc (f_M_named_20 μ (nI i) x2 (nI j)) Q → k_pc (f_M_named μ (nI i) x2 (nI j)) Q := by
          intro Q kk
          unfold f_M_named
          rw [if_neg (R_isClass h hM hi), if_neg z0, if_neg (R_isType h hM hj)]
          exact kk
        by_cases hy : x2 = 1 ∨ x2 = 2
        · obtain ⟨y, hy1, hy2⟩ : ∃ y, (y = 1 ∨ y = 2) ∧ x2 = nI y := by
            rcases hy with e | e
            · exact ⟨1, Or.inl rfl, e⟩
            · exact ⟨2, Or.inr rfl, e⟩
          subst hy2
          have l40 : ∀ {Q : (Int32 ⊕ Nat) × StL × Nat × Nat → Prop}, k_pc (f_L_named_40 σ (nI i) (nI y) (nI j) 1) Q → k_pc (f_L_named_14 σ (nI i) (nI y) (nI j)) Q := by
            intro Q kk
            unfold f_L_named_14 f_L_named_24 f_L_named_29
            refine p_if (fun _ => p_if (fun z => absurd z (by decide)) (fun _ => kk)) (fun w1 => p_if (fun _ => p_if (fun z => absurd z (by decide)) (fun _ => kk)) (fun w2 => ?_))
            rcases hy with e | e
            · exact absurd e w1
            · exact absurd e w2
          have m60 : ∀ {Q : Int32 × StM → Prop}, k_pc (f_M_named_60 μ (nI i) (nI y) (nI j) (b2 (Wg C i)) 0) Q → k_pc (f_M_named_20 μ (nI i) (nI y) (nI j)) Q := by
            intro Q kk
            unfold f_M_named_20 f_M_named_25
            have n1 : ¬ nI y < 0 := nI_pos (by omega)
            have n2 : ¬ (2 : Int32) < nI y := by
              show ¬ nI 2 < nI y
              rw [nI_ltI (by decide) (by omega)]; omega
            rw [if_neg (by decide), if_neg n1, if_neg n2]
            refine p_guard (fun _ => ?_)
            rw [if_neg z0, ci, (hM.1.2.2 i hi).2.1]
            exact kk
          cases eg : Wg C i with
          | false =>
            refine R_thr h 3 (lgo (l40 ?_)) (rgo (m60 ?_))
            · unfold f_L_named_40
              refine p_bind (p_eq (r_C_isGeneric h.1.1 hL.1.1 hi)) ?_
              rintro _ rfl
              rw [eg]
              exact p_if (fun z => absurd z (by decide)) (fun _ => p_some ⟨rfl, hL⟩)
            · rw [eg]
              unfold f_M_named_60
              rw [if_pos rfl]
              exact bad 2 (by decide)
          | true =>
            have kl := wK_lt h.1.2 hj
            by_cases j8 : 8 ≤ j
            · have ok : wOk (Tn T) (Wg C i) (4 * j + y) := by
                rw [eg]; exact Or.inr ⟨rfl, j, j8, hj, by omega⟩
              refine ⟨oL (wNm T i (4 * j + y)), C, g, oT T (wNm T i (4 * j + y)), RW_ex h (wOx_nm h.1 hi ok), lgo (l40 ?_), rgo (m60 ?_)⟩
              · unfold f_L_named_40
                refine p_bind (p_eq (r_C_isGeneric h.1.1 hL.1.1 hi)) ?_
                rintro _ rfl
                rw [eg]
                refine p_if (fun _ => p_if (fun z => absurd z k_10) (fun _ => ?_)) (fun z => absurd rfl z)
                refine p_bind (p_eq (r_T_kindOf h.1.2 hL.1.2 hj)) ?_
                rintro _ rfl
                refine p_if (fun z => ?_) (fun _ => l89 _ ok (k_argOf hy1))
                have z2 : nI (dK (Ty T j)) = nI 0 := z
                rw [nI_eq (by omega) (by decide)] at z2
                rcases wT_kind h.1.2 hj with ⟨_, w⟩ | ⟨_, w⟩ <;> omega
              · rw [eg]
                unfold f_M_named_60
                have n3 : ¬ nI y ≤ 0 := by
                  show ¬ nI y ≤ nI 0
                  rw [nI_leI (by omega) (by decide)]; omega
                have n4 : (8 : Int32) ≤ nI j := by
                  show nI 8 ≤ nI j
                  rw [nI_leI (by decide) (by omega)]; exact j8
                rw [if_neg (by decide), if_neg n3, if_pos n4]
                unfold f_M_named_77 f_M_named_78
                refine p_good (fun _ => ?_) (fun q => absurd rfl q)
                refine p_if (fun q => absurd q k_10) (fun _ => p_if (fun z => absurd z z0) (fun _ => ?_))
                have et : M_types (M_set_code μ 0) = nI (Tn T) := hM.2.1.1
                show k_pc (f_M_named_112 (M_set_code μ 0) (M_types (M_set_code μ 0)) (nI i) (nI y) (nI j)) _
                rw [et]
                have w1 : wTd (4 * j + y) = nI j := wTd_x (by omega)
                have w2 : wH (4 * j + y) = nI y := by
                  rcases hy1 with e | e
                  · subst e; exact wH_x rfl
                  · subst e; exact wH_y rfl
                have key := m112 _ ok
                rw [w1, w2] at key
                exact key
            · refine R_thr h 3 (lgo (l40 ?_)) (rgo (m60 ?_))
              · unfold f_L_named_40
                refine p_bind (p_eq (r_C_isGeneric h.1.1 hL.1.1 hi)) ?_
                rintro _ rfl
                rw [eg]
                refine p_if (fun _ => p_if (fun z => absurd z k_10) (fun _ => ?_)) (fun z => absurd rfl z)
                refine p_bind (p_eq (r_T_kindOf h.1.2 hL.1.2 hj)) ?_
                rintro _ rfl
                refine p_if (fun _ => p_some ⟨rfl, hL⟩) (fun z => ?_)
                have z2 : ¬ nI (dK (Ty T j)) = nI 0 := z
                rw [nI_eq (by omega) (by decide)] at z2
                rcases wT_kind h.1.2 hj with ⟨w, _⟩ | ⟨w, _⟩
                · exact absurd w z2
                · omega
              · rw [eg]
                unfold f_M_named_60
                have n3 : ¬ nI y ≤ 0 := by
                  show ¬ nI y ≤ nI 0
                  rw [nI_leI (by omega) (by decide)]; omega
                have n4 : ¬ (8 : Int32) ≤ nI j := by
                  show ¬ nI 8 ≤ nI j
                  rw [nI_leI (by decide) (by omega)]; exact j8
                rw [if_neg (by decide), if_neg n3, if_neg n4]
                exact bad 2 (by decide)
        · refine R_thr h 3 (lgo ?_) (rgo ?_)
          · unfold f_L_named_14
            rw [if_neg (fun q => hy (Or.inl q)), if_neg (fun q => hy (Or.inr q))]
            unfold f_L_named_29
            rw [if_pos rfl, if_neg z0]
            exact p_some ⟨rfl, hL⟩
          · unfold f_M_named_20 f_M_named_25
            rw [if_neg (by decide)]
            refine p_if (fun _ => bad 2 (by decide)) (fun w => p_if (fun _ => bad 2 (by decide)) (fun w2 => ?_))
            exfalso
            obtain ⟨y, hyy, rfl⟩ := nI_of w
            have w3 : ¬ nI 2 < nI y := w2
            rw [nI_ltI (by decide) hyy] at w3
            rcases (show y = 0 ∨ y = 1 ∨ y = 2 by omega) with e | e | e
            · subst e; exact z0 rfl
            · subst e; exact hy (Or.inl rfl)
            · subst e; exact hy (Or.inr rfl)
      · refine R_thr h 1 ?_ ?_
        · unfold f_L_named
          refine p_rc (fun z => absurd z (rC_there h.1.1 hL.1.1 hi)) (fun _ => p_ad ?_)
          refine p_if (fun z => absurd z z0) (fun _ => ?_)
          exact p_rt (fun _ => p_ad (p_some ⟨rfl, hL⟩)) (fun z => absurd (rT_not h.1.2 hL.1.2 h3) z)
        · unfold f_M_named
          rw [if_neg (R_isClass h hM hi), if_neg z0, if_pos (R_noType h hM h3)]
          unfold f_M_named_24 f_M_named_25
          rw [if_pos rfl]
          exact bad 1 (by decide)
  · refine R_thr h 1 ?_ ?_
    · unfold f_L_named
      exact p_rc (fun _ => p_ad (p_some ⟨rfl, hL⟩)) (fun z => absurd (rC_not h.1.1 hL.1.1 h1) z)
    · unfold f_M_named
      rw [if_pos (R_noClass h hM h1)]
      unfold f_M_named_24 f_M_named_25
      rw [if_pos rfl]
      exact bad 1 (by decide)
theorem p_reck (h : RW C g T d) (hM : RM μ C g T d) : k_pc (f_M_reckonBelow (M_set_code μ 0)) (fun v => RM v.2 C g T d ∧ M_code v.2 = 0 ∧ ∀ x p, x < Tn T → p < Tn T → tB (M_below v.2) C T x p) := by
  refine p_mono (r_M_reckonBelow (σ := M_set_code μ 0) h.1 hM.1 hM.2.1 hM.2.2.1) ?_
  rintro ⟨v, κ⟩ ⟨a', h', g', β, e, ht⟩
  replace e : κ = mK (M_set_code μ 0) a' h' g' β (nI (Tn T)) := e
  subst e
  exact ⟨⟨hM.1, hM.2.1, ⟨Tn T, Nat.le_refl _, rfl, fun _ => ht⟩, hM.2.2.2.1, hM.2.2.2.2⟩, rfl, ht⟩
theorem R_isBelow (h : RW C g T d) (hL : RL σ C g T d) (hM : RM μ C g T d) (x1 x2 : Int32) : RQ (fun _ => 1) d (f_L_isBelow σ x1 x2) (f_M_isBelow μ x1 x2) := by
  have hn := RW_not h
  have bad : k_pc (f_M_isBelow_21 μ x1 x2) (fun q => M_code q.2 = 1 ∧ RM q.2 C g T d) := by
    unfold f_M_isBelow_21 f_M_isBelow_22
    refine p_good (fun q => absurd q (by decide)) (fun _ => ?_)
    exact p_if (fun _ => p_some ⟨rfl, hM⟩) (fun q => absurd rfl q)
  by_cases h1 : ∃ j, j < Tn T ∧ x1 = nI j
  · obtain ⟨a, ha, rfl⟩ := h1
    by_cases h2 : ∃ j, j < Tn T ∧ x2 = nI j
    · obtain ⟨b, hb, rfl⟩ := h2
      obtain ⟨w, hw0, hw⟩ : ∃ w : Int32, (w = 0 ∨ w = 1) ∧ (w = 1 ↔ wB C T a b) := by
        by_cases q : wB C T a b
        · exact ⟨1, Or.inr rfl, fun _ => q, fun _ => rfl⟩
        · exact ⟨0, Or.inl rfl, fun z => absurd z (by decide), fun z => absurd z q⟩
      have uniq : ∀ v : Int32, (v = 0 ∨ v = 1) → (v = 1 ↔ wB C T a b) → v = w := by
        intro v v0 v1
        rcases hw0 with e | e
        · rcases v0 with f | f
          · rw [e, f]
          · have := hw.mpr (v1.mp f)
            rw [e] at this; exact absurd this (by decide)
        · rw [e]; exact v1.mpr (hw.mp e)
      refine R_ans h w ?_ ?_
      · unfold f_L_isBelow
        refine p_rt (fun z => absurd z (rT_there h.1.2 hL.1.2 ha)) (fun _ => p_ad ?_)
        refine p_rt (fun z => absurd z (rT_there h.1.2 hL.1.2 hb)) (fun _ => p_ad ?_)
        refine p_bind (r_L_liesBelow h.1 101 σ a b 100 hL.1 hL.2.1 ha hb (h.1.2.2.2.1 b hb).2.1 (Nat.le_refl _)) ?_
        rintro ⟨v, τ⟩ ⟨v0, v1, A, eA, rA'⟩
        replace eA : τ = L_set_answers σ A := eA
        replace v0 : v = 0 ∨ v = 1 := v0
        subst eA
        refine p_some ⟨?_, hL.1, rA', hL.2.2⟩
        show Sum.inl (v &&& 1) = _
        rw [k_one1 v0, uniq v v0 v1]
      · unfold f_M_isBelow
        rw [if_neg (R_isType h hM ha), if_neg (R_isType h hM hb)]
        unfold f_M_isBelow_22
        refine p_good (fun _ => ?_) (fun q => absurd rfl q)
        refine p_if (fun q => absurd q k_10) (fun _ => ?_)
        refine p_bind (p_reck h hM) ?_
        rintro ⟨v, κ⟩ ⟨k1, k2, k3⟩
        refine p_guard (fun _ => p_some ⟨⟨k2, ?_⟩, k1⟩)
        show M_below κ (300 * nI a + nI b).toNatClampNeg &&& 1 = w
        rw [k_300ix, nI_clamp (by omega)]
        obtain ⟨t1, t2⟩ := k3 a b ha hb
        rw [k_one1 t1]
        exact uniq _ t1 t2
    · refine R_thr h 1 ?_ ?_
      · unfold f_L_isBelow
        refine p_rt (fun z => absurd z (rT_there h.1.2 hL.1.2 ha)) (fun _ => p_ad ?_)
        exact p_rt (fun _ => p_ad (p_some ⟨rfl, hL⟩)) (fun z => absurd (rT_not h.1.2 hL.1.2 h2) z)
      · unfold f_M_isBelow
        rw [if_neg (R_isType h hM ha), if_pos (R_noType h hM h2)]
        exact bad
  · refine R_thr h 1 ?_ ?_
    · unfold f_L_isBelow
      exact p_rt (fun _ => p_ad (p_some ⟨rfl, hL⟩)) (fun z => absurd (rT_not h.1.2 hL.1.2 h1) z)
    · unfold f_M_isBelow
      rw [if_pos (R_noType h hM h1)]
      exact bad
theorem RW_dcl (h : RW C g T d) (hn : Wn C < 30) (f1 f2 : Bool) (g' : Nat) (hg : g' ≤ 6) : RW (wDcl C f1 f2) g' T d := by
  have h13 := h.1.1.1
  have ag := wDcl_ag6 C f1 f2
  refine ⟨wOK_dcl h.1 hn f1 f2, hg, h.2.2.1, ?_, fun c hc hc2 => ?_⟩
  · rw [(ag 0 (by omega)).1]; exact h.2.2.2.1
  · replace hc2 : c < Wn C + 1 := hc2
    by_cases e : c = Wn C
    · subst e
      have a4 : Wo (wDcl C f1 f2) (Wn C) = fun _ => 0 := wUp_s
      rw [a4]
      show Wf (wDcl C f1 f2) 0 = false
      rw [(ag 0 (by omega)).1]; exact h.2.2.2.1
    · have hd0 := (h.1.1.2.2.1 c (by omega)).2 (by omega)
      have ho := (h.1.1.2.2.2.1 c 0 (by omega) hd0).1
      rw [(ag c (by omega)).2.2.2.1, (ag (Wo C c 0) (by omega)).1]
      exact h.2.2.2.2 c hc (by omega)
theorem R_declare (h : RW C g T d) (hL : RL σ C g T d) (hM : RM μ C g T d) {x1 x2 : Int32} {f1 f2 : Bool} (e1 : x1 = b2 f1) (e2 : x2 = b2 f2) : RQ (fun _ => 1) d (f_L_declare σ x1 x2) (f_M_declare μ x1 x2) := by
  have hn := RW_not h
  have hg6 := h.2.1
  have en : f_C_count (L_classes σ) = nI (Wn C) := hL.1.1.1
  have eg : f_C_countGeneric (L_classes σ) = nI g := hL.1.1.2.1
  have bad : k_pc (f_M_declare_23 μ x1 x2) (fun q => M_code q.2 = 1 ∧ RM q.2 C g T d) := by
    unfold f_M_declare_23 f_M_declare_28
    refine p_good (fun q => absurd q (by decide)) (fun _ => ?_)
    exact p_if (fun _ => p_some ⟨rfl, hM⟩) (fun q => absurd rfl q)
  have hz : x2 = 0 ↔ f2 = false := by rw [e2]; exact b2_0
  by_cases hc : Wn C = 30 ∨ (f2 = true ∧ 6 ≤ g)
  · refine R_thr h 2 ?_ ?_
    · unfold f_L_declare
      rw [en, eg]
      refine p_if (fun q => ?_) (fun _ => p_some ⟨rfl, hL⟩)
      have q2 : nI (Wn C) < nI 30 := q
      rw [nI_ltI (by omega) (by decide)] at q2
      refine p_if (fun q3 => ?_) (fun q3 => p_if (fun q4 => ?_) (fun _ => p_some ⟨rfl, hL⟩))
      · rw [hz] at q3
        rcases hc with w | ⟨w, _⟩
        · omega
        · rw [q3] at w; cases w
      · have q5 : nI g < nI 6 := q4
        rw [nI_ltI (by omega) (by decide)] at q5
        rcases hc with w | ⟨_, w⟩ <;> omega
    · unfold f_M_declare
      rw [hM.1.1, hM.1.2.1]
      refine p_if (fun _ => bad) (fun q => ?_)
      have q2 : ¬ nI (Wn C) = nI 30 := q
      rw [nI_eq (by omega) (by decide)] at q2
      refine p_if (fun q3 => ?_) (fun q3 => p_if (fun _ => bad) (fun q4 => ?_))
      · rw [hz] at q3
        rcases hc with w | ⟨w, _⟩
        · omega
        · rw [q3] at w; cases w
      · have q5 : ¬ nI g = nI 6 := q4
        rw [nI_eq (by omega) (by decide)] at q5
        rcases hc with w | ⟨_, w⟩ <;> omega
  · have hlt : Wn C < 30 := by
      have : ¬ Wn C = 30 := fun q => hc (Or.inl q)
      omega
    have hg' : (if f2 = true then g + 1 else g) ≤ 6 := by
      by_cases w : f2 = true
      · rw [if_pos w]
        have : ¬ 6 ≤ g := fun q => hc (Or.inr ⟨w, q⟩)
        omega
      · rw [if_neg w]; exact hg6
    refine ⟨.inl (nI (Wn C)), wDcl C f1 f2, if f2 = true then g + 1 else g, T, RW_dcl h hlt f1 f2 _ hg', ?_, ?_⟩
    · have k48 : k_pc (f_L_declare_48 σ x1 x2) (fun q => q.1 = .inl (nI (Wn C)) ∧ RL q.2.1 (wDcl C f1 f2) (if f2 = true then g + 1 else g) T d) := by
        unfold f_L_declare_48
        refine p_bind (r_C_add h.1.1 hL.1.1 hlt e1 e2) ?_
        rintro ⟨v, τ⟩ ⟨v1, v2⟩
        replace v1 : v = nI (Wn C) := v1
        subst v1
        exact p_some ⟨rfl, ⟨v2, hL.1.2⟩, rA_dcl h.1 f1 f2 hL.2.1, hL.2.2⟩
      unfold f_L_declare
      rw [en, eg]
      refine p_if (fun _ => p_if (fun _ => k48) (fun q3 => p_if (fun _ => k48) (fun q4 => ?_))) (fun q => absurd (nI_lt hlt (by decide)) q)
      have q5 : ¬ nI g < nI 6 := q4
      rw [nI_ltI (by omega) (by decide)] at q5
      have : f2 = true := by
        cases w : f2 with
        | true => rfl
        | false => exact absurd (hz.mpr w) q3
      exact absurd (Or.inr ⟨this, by omega⟩) hc
    · have good : k_pc (f_M_declare_27 μ x1 x2) (fun q => RO (fun _ => 1) (.inl (nI (Wn C))) q ∧ RM q.2 (wDcl C f1 f2) (if f2 = true then g + 1 else g) T d) := by
        unfold f_M_declare_27 f_M_declare_28
        refine p_good (fun _ => ?_) (fun q => absurd rfl q)
        refine p_if (fun q => absurd q k_10) (fun _ => p_guard (fun _ => p_guard (fun _ => ?_)))
        have cn : (M_classes μ).toNatClampNeg = Wn C := by rw [hM.1.1]; exact nI_clamp (by omega)
        have fin : ∀ (w : Int32) (g' : Nat), M_generics μ + w = nI g' → k_pc (f_M_declare_70 (M_put_generic (M_put_face (M_set_code μ 0) (M_classes μ) (vp_nar .boolean x1)) (M_classes μ) (vp_nar .boolean x2)) (M_generics μ) w) (fun q => RO (fun _ => 1) (.inl (nI (Wn C))) q ∧ RM q.2 (wDcl C f1 f2) g' T d) := by
          intro w g' e0
          rw [vp_b e1, vp_b e2]
          refine p_mono (r_M_declare_70 (σ := μ) (f1 := f1) (f2 := f2) h.1 hM.1 hlt e0 hM.1.1 (by show upd (M_generic μ) (M_classes μ).toNatClampNeg (b2 f2) = _; rw [cn]) (by show upd (M_face μ) (M_classes μ).toNatClampNeg (b2 f1) = _; rw [cn]) rfl rfl rfl rfl) ?_
          rintro q ⟨q1, q2, q3, q4⟩
          obtain ⟨y1, y2, y3, y4, y5, y6⟩ := q3
          refine ⟨⟨y5, q1⟩, q2, rMt_ag (σ := μ) h.1.2 hM.2.1 (fun i _ => y2 i) (y1.trans hM.2.1.1), rR_dcl h.1 f1 f2 hM.2.2.1 q4 y6, y3.trans hM.2.2.2.1, y4.trans hM.2.2.2.2⟩
        refine p_if (fun q => ?_) (fun q => ?_)
        · rw [hz] at q
          rw [if_neg (by rw [q]; decide)]
          refine fin 0 g ?_
          rw [hM.1.2.1]; exact nI_add g 0
        · have w : f2 = true := by
            cases w : f2 with
            | true => rfl
            | false => exact absurd (hz.mpr w) q
          rw [if_pos w]
          refine fin 1 (g + 1) ?_
          rw [hM.1.2.1]; exact nI_1 g
      unfold f_M_declare
      rw [hM.1.1, hM.1.2.1]
      refine p_if (fun q => ?_) (fun _ => p_if (fun _ => good) (fun q3 => p_if (fun q4 => ?_) (fun _ => good)))
      · have q2 : nI (Wn C) = nI 30 := q
        rw [nI_eq (by omega) (by decide)] at q2
        omega
      · have q5 : nI g = nI 6 := q4
        rw [nI_eq (by omega) (by decide)] at q5
        have : f2 = true := by
          cases w : f2 with
          | true => rfl
          | false => exact absurd (hz.mpr w) q3
        exact absurd (Or.inr ⟨this, by omega⟩) hc
end
