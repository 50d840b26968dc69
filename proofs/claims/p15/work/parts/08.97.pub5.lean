/-! Tier 3: side by side: classed, common. -/
section
variable {σ : StL} {μ : StM} {C : wWc} {T : wWt} {g d : Nat}
theorem R_classed (h : RW C g T d) (hL : RL σ C g T d) (hM : RM μ C g T d) (x1 x2 : Int32) : RQ (fun e => if e = 1 then 1 else 2) d (f_L_classed σ x1 x2) (f_M_classed μ x1 x2) := by
  have hn := RW_not h
  have bad : ∀ t : Int32, ¬ t = 0 → k_pc (f_M_classed_27 μ x1 x2 t) (fun q => M_code q.2 = t ∧ RM q.2 C g T d) := by
    intro t ht
    have hMt : RM (M_set_code μ t) C g T d := hM
    unfold f_M_classed_27
    refine p_good (fun q => absurd q ht) (fun _ => ?_)
    exact p_if (fun _ => p_some ⟨rfl, hMt⟩) (fun q => absurd rfl q)
  by_cases h1 : ∃ j, j < Wn C ∧ x1 = nI j
  · obtain ⟨i, hi, rfl⟩ := h1
    have ci : (nI i).toNatClampNeg = i := nI_clamp (by omega)
    have rr := hL.1.1.2.2.1 i hi
    have rm := hM.1.2.2 i hi
    have hM0 : RM (M_set_code μ 0) C g T d := hM
    have lft : ∀ {Q : (Int32 ⊕ Nat) × StL × Nat × Nat → Prop}, k_pc (if x2 = 0 then (f_C_isFace (L_classes σ) (nI i)).bind (fun r2 => if r2 = 0 then some (Sum.inl (0 : Int32), σ, 0, 0) else some (Sum.inl (1 : Int32), σ, 0, 0)) else if x2 = 1 then (f_C_isGeneric (L_classes σ) (nI i)).bind (fun r3 => if r3 = 0 then some (Sum.inl (0 : Int32), σ, 0, 0) else some (Sum.inl (1 : Int32), σ, 0, 0)) else if x2 = 2 then (f_C_countDirect (L_classes σ) (nI i)).bind (fun r4 => some (Sum.inl r4, σ, 0, 0)) else if x2 = 3 then (f_C_aboveOf (L_classes σ) (nI i)).bind (fun r5 => some (Sum.inl (f_J_bitCount r5), σ, 0, 0)) else some (Sum.inr 3, σ, 1, 6)) (fun r => Q (r.1, r.2.1, r.2.2.1 + 0, r.2.2.2 + 0)) → k_pc (f_L_classed σ (nI i) x2) Q := by
      intro Q kk
      unfold f_L_classed
      exact p_rc (fun z => absurd z (rC_there h.1.1 hL.1.1 hi)) (fun _ => p_ad kk)
    have rgt : ∀ {Q : Int32 × StM → Prop}, ¬ x2 < 0 → x2 ≤ 3 → k_pc (if x2 = 0 then (if nI i < 0 ∨ 30 ≤ (nI i).toNatClampNeg then none else if M_face μ (nI i).toNatClampNeg = 0 then some ((0 : Int32), M_set_code μ 0) else some ((1 : Int32), M_set_code μ 0)) else if x2 = 1 then (if nI i < 0 ∨ 30 ≤ (nI i).toNatClampNeg then none else if M_generic μ (nI i).toNatClampNeg = 0 then some ((0 : Int32), M_set_code μ 0) else some ((1 : Int32), M_set_code μ 0)) else if x2 = 2 then (if nI i < 0 ∨ 30 ≤ (nI i).toNatClampNeg then none else some (M_directs μ (nI i).toNatClampNeg, M_set_code μ 0)) else if nI i < 0 ∨ 30 ≤ (nI i).toNatClampNeg then none else (f_M_count (M_over μ (nI i).toNatClampNeg)).bind (fun r2 => some (r2, M_set_code μ 0))) Q → k_pc (f_M_classed μ (nI i) x2) Q := by
      intro Q w1 w2 kk
      unfold f_M_classed
      rw [if_neg (R_isClass h hM hi), if_neg w1, if_pos w2]
      unfold f_M_classed_27
      refine p_good (fun _ => ?_) (fun q => absurd rfl q)
      exact p_if (fun q => absurd q k_10) (fun _ => kk)
    by_cases y0 : x2 = 0
    · subst y0
      refine R_ans h (b2 (Wf C i)) (lft ?_) (rgt (by decide) (by decide) ?_)
      · rw [if_pos rfl, r_C_isFace h.1.1 hL.1.1 hi]
        cases Wf C i
        · show k_pc (if b2 false = 0 then some (Sum.inl (0 : Int32), σ, 0, 0) else some (Sum.inl (1 : Int32), σ, 0, 0)) _
          exact p_if (fun _ => p_some ⟨rfl, hL⟩) (fun q => absurd rfl q)
        · show k_pc (if b2 true = 0 then some (Sum.inl (0 : Int32), σ, 0, 0) else some (Sum.inl (1 : Int32), σ, 0, 0)) _
          exact p_if (fun q => absurd q k_10) (fun _ => p_some ⟨rfl, hL⟩)
      · rw [if_pos rfl]
        refine p_guard (fun _ => ?_)
        rw [ci, rm.1]
        cases Wf C i
        · exact p_if (fun _ => p_some ⟨⟨rfl, rfl⟩, hM0⟩) (fun q => absurd rfl q)
        · exact p_if (fun q => absurd q k_10) (fun _ => p_some ⟨⟨rfl, rfl⟩, hM0⟩)
    by_cases y1 : x2 = 1
    · subst y1
      refine R_ans h (b2 (Wg C i)) (lft ?_) (rgt (by decide) (by decide) ?_)
      · rw [if_neg (by decide), if_pos rfl, r_C_isGeneric h.1.1 hL.1.1 hi]
        cases Wg C i
        · show k_pc (if b2 false = 0 then some (Sum.inl (0 : Int32), σ, 0, 0) else some (Sum.inl (1 : Int32), σ, 0, 0)) _
          exact p_if (fun _ => p_some ⟨rfl, hL⟩) (fun q => absurd rfl q)
        · show k_pc (if b2 true = 0 then some (Sum.inl (0 : Int32), σ, 0, 0) else some (Sum.inl (1 : Int32), σ, 0, 0)) _
          exact p_if (fun q => absurd q k_10) (fun _ => p_some ⟨rfl, hL⟩)
      · rw [if_neg (by decide), if_pos rfl]
        refine p_guard (fun _ => ?_)
        rw [ci, rm.2.1]
        cases Wg C i
        · exact p_if (fun _ => p_some ⟨⟨rfl, rfl⟩, hM0⟩) (fun q => absurd rfl q)
        · exact p_if (fun q => absurd q k_10) (fun _ => p_some ⟨⟨rfl, rfl⟩, hM0⟩)
    by_cases y2 : x2 = 2
    · subst y2
      refine R_ans h (nI (Wd C i)) (lft ?_) (rgt (by decide) (by decide) ?_)
      · rw [if_neg (by decide), if_neg (by decide), if_pos rfl, r_C_countDirect h.1.1 hL.1.1 hi]
        exact p_some ⟨rfl, hL⟩
      · rw [if_neg (by decide), if_neg (by decide), if_pos rfl]
        refine p_guard (fun _ => p_some ⟨⟨rfl, ?_⟩, hM0⟩)
        rw [ci]; exact rm.2.2.1
    by_cases y3 : x2 = 3
    · subst y3
      have eb : M_over μ i = C_above (L_classes σ) i := b_ext (fun b hb => by rw [rm.2.2.2.2 b hb, rr.2.2.2.2 b hb])
      have e31 : bt (C_above (L_classes σ) i) 31 = false := by
        rw [rr.2.2.2.2 31 (by decide)]
        cases e : Wu C i 31 with
        | false => rfl
        | true => have := wUp_lt h.1.1 i 31 hi e; omega
      refine R_ans h (f_J_bitCount (C_above (L_classes σ) i)) (lft ?_) (rgt (by decide) (by decide) ?_)
      · rw [if_neg (by decide), if_neg (by decide), if_neg (by decide), if_pos rfl, r_C_aboveOf h.1.1 hL.1.1 hi]
        exact p_some ⟨rfl, hL⟩
      · rw [if_neg (by decide), if_neg (by decide), if_neg (by decide)]
        refine p_guard (fun _ => ?_)
        rw [ci, eb, k_bits e31]
        exact p_some ⟨⟨rfl, rfl⟩, hM0⟩
    refine R_thr h 3 (lft ?_) ?_
    · rw [if_neg y0, if_neg y1, if_neg y2, if_neg y3]
      exact p_some ⟨rfl, hL⟩
    · unfold f_M_classed f_M_classed_22
      rw [if_neg (R_isClass h hM hi)]
      refine p_if (fun _ => bad 2 (by decide)) (fun w => p_if (fun w2 => ?_) (fun _ => bad 2 (by decide)))
      exfalso
      obtain ⟨j, hj, rfl⟩ := nI_of w
      have w3 : nI j ≤ nI 3 := w2
      rw [nI_leI hj (by decide)] at w3
      rcases (show j = 0 ∨ j = 1 ∨ j = 2 ∨ j = 3 by omega) with e | e | e | e
      · subst e; exact y0 rfl
      · subst e; exact y1 rfl
      · subst e; exact y2 rfl
      · subst e; exact y3 rfl
  · refine R_thr h 1 ?_ ?_
    · unfold f_L_classed
      exact p_rc (fun _ => p_ad (p_some ⟨rfl, hL⟩)) (fun z => absurd (rC_not h.1.1 hL.1.1 h1) z)
    · unfold f_M_classed
      rw [if_pos (R_noClass h hM h1)]
      exact bad 1 (by decide)
theorem R_common (h : RW C g T d) (hL : RL σ C g T d) (hM : RM μ C g T d) (x1 x2 x3 : Int32) : RQ (fun e => if e = 1 then 1 else 2) d (f_L_common σ x1 x2 x3) (f_M_common μ x1 x2 x3) := by
  have hn := RW_not h
  have bad : ∀ t : Int32, ¬ t = 0 → k_pc (f_M_common_35 μ x1 x2 x3 t) (fun q => M_code q.2 = t ∧ RM q.2 C g T d) := by
    intro t ht
    have hMt : RM (M_set_code μ t) C g T d := hM
    unfold f_M_common_35
    refine p_good (fun q => absurd q ht) (fun _ => ?_)
    exact p_if (fun _ => p_some ⟨rfl, hMt⟩) (fun q => absurd rfl q)
  by_cases h1 : ∃ j, j < Tn T ∧ x1 = nI j
  · obtain ⟨i, hi, rfl⟩ := h1
    by_cases h2 : ∃ j, j < Tn T ∧ x2 = nI j
    · obtain ⟨j, hj, rfl⟩ := h2
      -- a set of classes is one number
      obtain ⟨s, hs⟩ : ∃ s : Nat → Bool, s = fun b => wSee C T i b && wSee C T j b := ⟨_, rfl⟩
      have num : ∀ (S : Nat → Bool), (∀ b, S b = true → b < 30) → ∃ N : Int32, (∀ v : Int32, (∀ b, b < 32 → bt v b = S b) → v = N) ∧ bt N 31 = false := by
        intro S hS
        by_cases e : ∃ v : Int32, ∀ b, b < 32 → bt v b = S b
        · obtain ⟨v, hv⟩ := e
          refine ⟨v, fun w hw => b_ext (fun b hb => by rw [hw b hb, hv b hb]), ?_⟩
          rw [hv 31 (by decide)]
          cases q : S 31 with
          | false => rfl
          | true => have := hS 31 q; omega
        · exact ⟨0, fun v hv => absurd ⟨v, hv⟩ e, b_0 31⟩
      have lt1 : ∀ b, s b = true → b < 30 := by
        intro b hb
        rw [hs] at hb
        have := wSee_lt h.1 hi (Bool.and_eq_true_iff.mp hb).1
        omega
      have lt2 : ∀ b, wLea C s b = true → b < 30 := by
        intro b hb
        unfold wLea at hb
        exact lt1 b (Bool.and_eq_true_iff.mp hb).1
      obtain ⟨N1, n1, n1'⟩ := num s lt1
      obtain ⟨N2, n2, n2'⟩ := num (wLea C s) lt2
      have com : ∀ {Q : Int32 × StM → Prop}, ¬ x3 < 0 → x3 ≤ 1 → (∀ a b c, (∀ b, b < 32 → bt N1 b = s b) → k_pc (if x3 = 0 then f_M_common_66 (mF (M_set_code μ 0) a b c) N1 else (f_M_leastOf (mF (M_set_code μ 0) a b c) N1).bind (fun r3 => f_M_common_66 (mF (M_set_code μ 0) a b c) r3)) Q) → k_pc (f_M_common μ (nI i) (nI j) x3) Q := by
        intro Q w1 w2 kk
        unfold f_M_common
        rw [if_neg (R_isType h hM hi), if_neg (R_isType h hM hj), if_neg w1, if_pos w2]
        unfold f_M_common_35
        refine p_good (fun _ => ?_) (fun q => absurd rfl q)
        refine p_if (fun q => absurd q k_10) (fun _ => ?_)
        refine p_bind (r_M_commonOf (σ := M_set_code μ 0) h.1 hM.1 hM.2.1 hi hj) ?_
        rintro ⟨v, τ⟩ ⟨⟨a, b, c, e⟩, hv⟩
        replace e : τ = mF (M_set_code μ 0) a b c := e
        subst e
        have ev : v = N1 := n1 v (by rw [hs]; exact hv)
        have hv' : ∀ b, b < 32 → bt N1 b = s b := by rw [← ev, hs]; exact hv
        show k_pc (if x3 = 0 then f_M_common_66 (mF (M_set_code μ 0) a b c) v else (f_M_leastOf (mF (M_set_code μ 0) a b c) v).bind (fun r3 => f_M_common_66 (mF (M_set_code μ 0) a b c) r3)) _
        rw [ev]
        exact kk a b c hv'
      have lft : ∀ {Q : (Int32 ⊕ Nat) × StL × Nat × Nat → Prop}, k_pc (if x3 = 0 then (f_L_commonOf σ (nI i) (nI j)).bind (fun r3 => some (Sum.inl (f_J_bitCount r3), σ, 0, 0)) else if x3 = 1 then (f_L_commonOf σ (nI i) (nI j)).bind (fun r4 => (f_C_leastOf (L_classes σ) r4).bind (fun r5 => some (Sum.inl (f_J_bitCount r5), σ, 0, 0))) else some (Sum.inr 3, σ, 1, 6)) (fun r => Q (r.1, r.2.1, r.2.2.1 + 0 + 0, r.2.2.2 + 0 + 0)) → k_pc (f_L_common σ (nI i) (nI j) x3) Q := by
        intro Q kk
        unfold f_L_common
        refine p_rt (fun z => absurd z (rT_there h.1.2 hL.1.2 hi)) (fun _ => p_ad ?_)
        exact p_rt (fun z => absurd z (rT_there h.1.2 hL.1.2 hj)) (fun _ => p_ad kk)
      have hMf : ∀ a b c, RM (mF (M_set_code μ 0) a b c) C g T d := fun _ _ _ => hM
      by_cases y0 : x3 = 0
      · subst y0
        refine R_ans h (f_J_bitCount N1) (lft ?_) (com (by decide) (by decide) (fun a b c e1 => ?_))
        · rw [if_pos rfl]
          refine p_bind (r_L_commonOf h.1 hL.1 hi hj) (fun v hv => p_some ⟨?_, hL⟩)
          rw [n1 v (by rw [hs]; exact hv)]
        · rw [if_pos rfl]
          unfold f_M_common_66
          rw [k_bits n1']
          exact p_some ⟨⟨rfl, rfl⟩, hMf a b c⟩
      by_cases y1 : x3 = 1
      · subst y1
        refine R_ans h (f_J_bitCount N2) (lft ?_) (com (by decide) (by decide) (fun a b c e1 => ?_))
        · rw [if_neg (by decide), if_pos rfl]
          refine p_bind (r_L_commonOf h.1 hL.1 hi hj) (fun v hv => ?_)
          have hv' : ∀ b, b < 32 → bt v b = s b := by rw [hs]; exact hv
          refine p_bind (r_C_leastOf h.1.1 hL.1.1 hv') (fun w hw => p_some ⟨?_, hL⟩)
          rw [n2 w hw]
        · rw [if_neg (by decide)]
          refine p_bind (r_M_leastOf (σ := mF (M_set_code μ 0) a b c) h.1.1 hM.1 e1) (fun w hw => ?_)
          rw [n2 w hw]
          unfold f_M_common_66
          rw [k_bits n2']
          exact p_some ⟨⟨rfl, rfl⟩, hMf a b c⟩
      refine R_thr h 3 (lft ?_) ?_
      · rw [if_neg y0, if_neg y1]
        exact p_some ⟨rfl, hL⟩
      · unfold f_M_common f_M_common_30
        rw [if_neg (R_isType h hM hi), if_neg (R_isType h hM hj)]
        refine p_if (fun _ => bad 2 (by decide)) (fun w => p_if (fun w2 => ?_) (fun _ => bad 2 (by decide)))
        exfalso
        obtain ⟨k, hk, rfl⟩ := nI_of w
        have w3 : nI k ≤ nI 1 := w2
        rw [nI_leI hk (by decide)] at w3
        rcases (show k = 0 ∨ k = 1 by omega) with e | e
        · subst e; exact y0 rfl
        · subst e; exact y1 rfl
    · refine R_thr h 1 ?_ ?_
      · unfold f_L_common
        refine p_rt (fun z => absurd z (rT_there h.1.2 hL.1.2 hi)) (fun _ => p_ad ?_)
        exact p_rt (fun _ => p_ad (p_some ⟨rfl, hL⟩)) (fun z => absurd (rT_not h.1.2 hL.1.2 h2) z)
      · unfold f_M_common f_M_common_17
        rw [if_neg (R_isType h hM hi), if_pos (R_noType h hM h2)]
        exact bad 1 (by decide)
  · refine R_thr h 1 ?_ ?_
    · unfold f_L_common
      exact p_rt (fun _ => p_ad (p_some ⟨rfl, hL⟩)) (fun z => absurd (rT_not h.1.2 hL.1.2 h1) z)
    · unfold f_M_common f_M_common_17
      rw [if_pos (R_noType h hM h1)]
      exact bad 1 (by decide)
end
