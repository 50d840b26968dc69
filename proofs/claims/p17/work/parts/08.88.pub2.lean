/-! Tier 3: side by side: part, direct; type, classed and common leave the tables as they are. -/
section
variable {σ : StL} {μ : StM} {C : wWc} {T : wWt} {g d : Nat}
theorem R_part (h : RW C g T d) (hL : RL σ C g T d) (hM : RM μ C g T d) (x1 x2 : Int32) : RQ (fun _ => 1) d (f_L_part σ x1 x2) (f_M_part μ x1 x2) := by
  have hn := RW_not h
  have bad : k_pc (f_M_part_27 μ x1 x2) (fun q => M_code q.2 = 1 ∧ RM q.2 C g T d) := by
    unfold f_M_part_27 f_M_part_28
    refine p_good (fun q => absurd q (by decide)) (fun _ => ?_)
    exact p_if (fun _ => p_some ⟨rfl, hM⟩) (fun q => absurd rfl q)
  by_cases h1 : ∃ j, j < Tn T ∧ x1 = nI j
  · obtain ⟨i, hi, rfl⟩ := h1
    have ci : (nI i).toNatClampNeg = i := nI_clamp (by omega)
    have hlen := wPs_len h.1.2 hi
    have hpc := wPc_le h.1.2 hi
    by_cases h2 : ∃ k, k < (wPs T i).length ∧ x2 = nI k
    · obtain ⟨k, hk, rfl⟩ := h2
      refine R_ans h (nI (wPs T i)[k]) ?_ ?_
      · unfold f_L_part
        refine p_rt (fun z => absurd z (rT_there h.1.2 hL.1.2 hi)) (fun _ => p_ad ?_)
        refine p_if (fun z => absurd z (nI_pos (by omega))) (fun _ => ?_)
        show k_pc ((f_T_countParts (L_types σ) (nI i)).bind _) _
        rw [r_T_countParts h.1.2 hL.1.2 hi, ← hlen]
        show k_pc (if nI k < nI (wPs T i).length then _ else _) _
        refine p_if (fun _ => ?_) (fun z => absurd (nI_lt hk (by omega)) z)
        show k_pc ((f_T_partOf (L_types σ) (nI i) (nI k)).bind _) _
        rw [r_T_partOf h.1.2 hL.1.2 hi hk]
        exact p_some ⟨rfl, hL⟩
      · unfold f_M_part
        rw [if_neg (R_isType h hM hi), if_neg (nI_pos (by omega))]
        refine p_guard (fun _ => ?_)
        rw [ci, (hM.2.1.2 i hi).2.2.2.2.2.1, ← hlen]
        refine p_if (fun z => ?_) (fun _ => ?_)
        · rw [nI_leI (by omega) (by omega)] at z; omega
        · unfold f_M_part_28
          refine p_good (fun _ => ?_) (fun q => absurd rfl q)
          refine p_if (fun q => absurd q k_10) (fun _ => p_guard (fun _ => p_some ⟨⟨rfl, ?_⟩, hM⟩))
          show M_partRow μ (30 * nI i + nI k).toNatClampNeg = _
          rw [k_30ix, nI_clamp (by omega)]
          exact (hM.2.1.2 i hi).2.2.2.2.2.2 k hk
    · refine R_thr h 1 ?_ ?_
      · unfold f_L_part f_L_part_21
        refine p_rt (fun z => absurd z (rT_there h.1.2 hL.1.2 hi)) (fun _ => p_ad ?_)
        refine p_if (fun _ => p_some ⟨rfl, hL⟩) (fun z => ?_)
        obtain ⟨k, hk, rfl⟩ := nI_of z
        show k_pc ((f_T_countParts (L_types σ) (nI i)).bind _) _
        rw [r_T_countParts h.1.2 hL.1.2 hi, ← hlen]
        show k_pc (if nI k < nI (wPs T i).length then _ else _) _
        refine p_if (fun w => ?_) (fun _ => p_some ⟨rfl, hL⟩)
        rw [nI_ltI hk (by omega)] at w
        exact absurd ⟨k, w, rfl⟩ h2
      · unfold f_M_part
        rw [if_neg (R_isType h hM hi)]
        refine p_if (fun _ => bad) (fun z => p_guard (fun _ => p_if (fun _ => bad) (fun w => ?_)))
        obtain ⟨k, hk, rfl⟩ := nI_of z
        rw [ci, (hM.2.1.2 i hi).2.2.2.2.2.1, ← hlen, nI_leI (by omega) hk] at w
        exact absurd ⟨k, by omega, rfl⟩ h2
  · refine R_thr h 1 ?_ ?_
    · unfold f_L_part
      exact p_rt (fun _ => p_ad (p_some ⟨rfl, hL⟩)) (fun z => absurd (rT_not h.1.2 hL.1.2 h1) z)
    · unfold f_M_part
      rw [if_pos (R_noType h hM h1)]
      exact bad
theorem R_direct (h : RW C g T d) (hL : RL σ C g T d) (hM : RM μ C g T d) (x1 x2 x3 : Int32) : RQ (fun e => if e = 1 then 1 else 2) d (f_L_direct σ x1 x2 x3) (f_M_direct μ x1 x2 x3) := by
  have hn := RW_not h
  have bad : k_pc (f_M_direct_23 μ x1 x2 x3) (fun q => M_code q.2 = 1 ∧ RM q.2 C g T d) := by
    unfold f_M_direct_23 f_M_direct_41
    refine p_good (fun q => absurd q (by decide)) (fun _ => ?_)
    exact p_if (fun _ => p_some ⟨rfl, hM⟩) (fun q => absurd rfl q)
  have bad2 : k_pc (f_M_direct_36 μ x1 x2 x3) (fun q => M_code q.2 = 2 ∧ RM q.2 C g T d) := by
    unfold f_M_direct_36 f_M_direct_41
    refine p_good (fun q => absurd q (by decide)) (fun _ => ?_)
    exact p_if (fun _ => p_some ⟨rfl, hM⟩) (fun q => absurd rfl q)
  by_cases h1 : ∃ j, j < Wn C ∧ x1 = nI j
  · obtain ⟨i, hi, rfl⟩ := h1
    have ci : (nI i).toNatClampNeg = i := nI_clamp (by omega)
    have hd := (h.1.1.2.2.1 i hi).1
    have rr := hL.1.1.2.2.1 i hi
    have rm := hM.1.2.2 i hi
    by_cases h2 : ∃ k, k < Wd C i ∧ x2 = nI k
    · obtain ⟨k, hk, rfl⟩ := h2
      have lft : ∀ {Q : (Int32 ⊕ Nat) × StL × Nat × Nat → Prop}, k_pc (if x3 = 0 then (f_C_directAt (L_classes σ) (nI i) (nI k)).bind (fun r3 => some (Sum.inl r3, σ, 0, 0)) else if x3 = 1 then (f_C_toldAt (L_classes σ) (nI i) (nI k)).bind (fun r4 => some (Sum.inl r4, σ, 0, 0)) else some (Sum.inr 3, σ, 1, 6)) (fun r => Q (r.1, r.2.1, r.2.2.1 + 0, r.2.2.2 + 0)) → k_pc (f_L_direct σ (nI i) (nI k) x3) Q := by
        intro Q kk
        unfold f_L_direct
        refine p_rc (fun z => absurd z (rC_there h.1.1 hL.1.1 hi)) (fun _ => p_ad ?_)
        refine p_if (fun z => absurd z (nI_pos (by omega))) (fun _ => ?_)
        show k_pc ((f_C_countDirect (L_classes σ) (nI i)).bind _) _
        rw [r_C_countDirect h.1.1 hL.1.1 hi]
        show k_pc (if nI k < nI (Wd C i) then _ else _) _
        exact p_if (fun _ => kk) (fun z => absurd (nI_lt hk (by omega)) z)
      have rgt : ∀ {Q : Int32 × StM → Prop}, k_pc (if x3 < 0 then f_M_direct_36 μ (nI i) (nI k) x3 else if x3 ≤ 1 then f_M_direct_41 μ (nI i) (nI k) x3 0 else f_M_direct_36 μ (nI i) (nI k) x3) Q → k_pc (f_M_direct μ (nI i) (nI k) x3) Q := by
        intro Q kk
        unfold f_M_direct
        rw [if_neg (R_isClass h hM hi), if_neg (nI_pos (by omega))]
        refine p_guard (fun _ => ?_)
        rw [ci, rm.2.2.1]
        exact p_if (fun _ => kk) (fun z => absurd (nI_lt hk (by omega)) z)
      have cl : (30 * nI i + nI k).toNatClampNeg = 30 * i + k := by rw [k_30ix]; exact nI_clamp (by omega)
      by_cases y0 : x3 = 0
      · subst y0
        refine R_ans h (nI (Wo C i k)) (lft ?_) (rgt ?_)
        · rw [if_pos rfl, r_C_directAt h.1.1 hL.1.1 hi hk]
          exact p_some ⟨rfl, hL⟩
        · rw [if_neg (by decide), if_pos (by decide)]
          unfold f_M_direct_41
          refine p_good (fun _ => ?_) (fun q => absurd rfl q)
          refine p_if (fun q => absurd q k_10) (fun _ => p_if (fun _ => p_guard (fun _ => p_some ⟨⟨rfl, ?_⟩, hM⟩)) (fun q => absurd rfl q))
          show M_directTo μ (30 * nI i + nI k).toNatClampNeg = _
          rw [cl]; exact (rm.2.2.2.1 k hk).1
      by_cases y1 : x3 = 1
      · subst y1
        refine R_ans h (wTd (Wa C i k)) (lft ?_) (rgt ?_)
        · rw [if_neg (by decide), if_pos rfl, r_C_toldAt h.1.1 hL.1.1 hi hk]
          exact p_some ⟨rfl, hL⟩
        · rw [if_neg (by decide), if_pos (by decide)]
          unfold f_M_direct_41
          refine p_good (fun _ => ?_) (fun q => absurd rfl q)
          refine p_if (fun q => absurd q k_10) (fun _ => p_if (fun q => absurd q k_10) (fun _ => p_guard (fun _ => p_some ⟨⟨rfl, ?_⟩, hM⟩)))
          show M_directArg μ (30 * nI i + nI k).toNatClampNeg = _
          rw [cl]; exact (rm.2.2.2.1 k hk).2
      refine R_thr h 3 (lft ?_) (rgt ?_)
      · rw [if_neg y0, if_neg y1]
        exact p_some ⟨rfl, hL⟩
      · refine p_if (fun _ => bad2) (fun w => p_if (fun w2 => ?_) (fun _ => bad2))
        exfalso
        obtain ⟨j, hj, rfl⟩ := nI_of w
        have w3 : nI j ≤ nI 1 := w2
        rw [nI_leI hj (by decide)] at w3
        rcases (show j = 0 ∨ j = 1 by omega) with e | e
        · subst e; exact y0 rfl
        · subst e; exact y1 rfl
    · refine R_thr h 1 ?_ ?_
      · unfold f_L_direct f_L_direct_21
        refine p_rc (fun z => absurd z (rC_there h.1.1 hL.1.1 hi)) (fun _ => p_ad ?_)
        refine p_if (fun _ => p_some ⟨rfl, hL⟩) (fun z => ?_)
        obtain ⟨k, hk, rfl⟩ := nI_of z
        show k_pc ((f_C_countDirect (L_classes σ) (nI i)).bind _) _
        rw [r_C_countDirect h.1.1 hL.1.1 hi]
        show k_pc (if nI k < nI (Wd C i) then _ else _) _
        refine p_if (fun w => ?_) (fun _ => p_some ⟨rfl, hL⟩)
        rw [nI_ltI hk (by omega)] at w
        exact absurd ⟨k, w, rfl⟩ h2
      · unfold f_M_direct
        rw [if_neg (R_isClass h hM hi)]
        refine p_if (fun _ => bad) (fun z => p_guard (fun _ => p_if (fun w => ?_) (fun _ => bad)))
        obtain ⟨k, hk, rfl⟩ := nI_of z
        rw [ci, rm.2.2.1, nI_ltI hk (by omega)] at w
        exact absurd ⟨k, w, rfl⟩ h2
  · refine R_thr h 1 ?_ ?_
    · unfold f_L_direct
      exact p_rc (fun _ => p_ad (p_some ⟨rfl, hL⟩)) (fun z => absurd (rC_not h.1.1 hL.1.1 h1) z)
    · unfold f_M_direct
      rw [if_pos (R_noClass h hM h1)]
      exact bad
/-- a call that leaves the class as it is -/
theorem K_type (x1 x2 : Int32) : k_pc (f_L_type σ x1 x2) (fun q => q.2.1 = σ) := by
  unfold f_L_type
  refine p_rt (fun _ => p_ad (p_some rfl)) (fun _ => p_ad ?_)
  refine p_if (fun _ => p_bind (P := fun _ => True) (fun _ _ => trivial) (fun _ _ => p_some rfl)) (fun _ => ?_)
  refine p_if (fun _ => p_bind (P := fun _ => True) (fun _ _ => trivial) (fun _ _ => p_some rfl)) (fun _ => ?_)
  refine p_if (fun _ => p_bind (P := fun _ => True) (fun _ _ => trivial) (fun _ _ => p_some rfl)) (fun _ => ?_)
  refine p_if (fun _ => p_bind (P := fun _ => True) (fun _ _ => trivial) (fun _ _ => p_if (fun _ => p_bind (P := fun _ => True) (fun _ _ => trivial) (fun _ _ => p_some rfl)) (fun _ => p_bind (P := fun _ => True) (fun _ _ => trivial) (fun _ _ => p_some rfl)))) (fun _ => ?_)
  refine p_if (fun _ => p_bind (P := fun _ => True) (fun _ _ => trivial) (fun _ _ => p_some rfl)) (fun _ => ?_)
  exact p_if (fun _ => p_bind (P := fun _ => True) (fun _ _ => trivial) (fun _ _ => p_some rfl)) (fun _ => p_some rfl)
theorem K_classed (x1 x2 : Int32) : k_pc (f_L_classed σ x1 x2) (fun q => q.2.1 = σ) := by
  unfold f_L_classed
  refine p_rc (fun _ => p_ad (p_some rfl)) (fun _ => p_ad ?_)
  refine p_if (fun _ => p_bind (P := fun _ => True) (fun _ _ => trivial) (fun _ _ => p_if (fun _ => p_some rfl) (fun _ => p_some rfl))) (fun _ => ?_)
  refine p_if (fun _ => p_bind (P := fun _ => True) (fun _ _ => trivial) (fun _ _ => p_if (fun _ => p_some rfl) (fun _ => p_some rfl))) (fun _ => ?_)
  refine p_if (fun _ => p_bind (P := fun _ => True) (fun _ _ => trivial) (fun _ _ => p_some rfl)) (fun _ => ?_)
  exact p_if (fun _ => p_bind (P := fun _ => True) (fun _ _ => trivial) (fun _ _ => p_some rfl)) (fun _ => p_some rfl)
theorem K_common (x1 x2 x3 : Int32) : k_pc (f_L_common σ x1 x2 x3) (fun q => q.2.1 = σ) := by
  unfold f_L_common
  refine p_rt (fun _ => p_ad (p_some rfl)) (fun _ => p_ad ?_)
  refine p_rt (fun _ => p_ad (p_some rfl)) (fun _ => p_ad ?_)
  refine p_if (fun _ => p_bind (P := fun _ => True) (fun _ _ => trivial) (fun _ _ => p_some rfl)) (fun _ => ?_)
  exact p_if (fun _ => p_bind (P := fun _ => True) (fun _ _ => trivial) (fun _ _ => p_bind (P := fun _ => True) (fun _ _ => trivial) (fun _ _ => p_some rfl))) (fun _ => p_some rfl)
theorem K_Mtype (hM : RM μ C g T d) (x1 x2 : Int32) : k_pc (f_M_type μ x1 x2) (fun q => RM q.2 C g T d) := by
  have k27 : ∀ t1 : Int32, k_pc (f_M_type_27 μ x1 x2 t1) (fun q => RM q.2 C g T d) := by
    intro t1
    unfold f_M_type_27
    have ht : RM (M_set_code μ t1) C g T d := hM
    refine p_good (fun _ => ?_) (fun _ => ?_)
    · refine p_if (fun _ => p_some ht) (fun _ => ?_)
      refine p_if (fun _ => p_guard (fun _ => p_some ht)) (fun _ => ?_)
      refine p_if (fun _ => p_guard (fun _ => p_some ht)) (fun _ => ?_)
      refine p_if (fun _ => p_guard (fun _ => p_some ht)) (fun _ => ?_)
      refine p_if (fun _ => p_guard (fun _ => p_some ht)) (fun _ => ?_)
      exact p_if (fun _ => p_guard (fun _ => p_some ht)) (fun _ => p_guard (fun _ => p_some ht))
    · exact p_if (fun _ => p_some ht) (fun q => absurd rfl q)
  unfold f_M_type f_M_type_22
  exact p_if (fun _ => k27 _) (fun _ => p_if (fun _ => k27 _) (fun _ => p_if (fun _ => k27 _) (fun _ => k27 _)))
theorem K_Mclassed (hM : RM μ C g T d) (x1 x2 : Int32) : k_pc (f_M_classed μ x1 x2) (fun q => RM q.2 C g T d) := by
  have k27 : ∀ t1 : Int32, k_pc (f_M_classed_27 μ x1 x2 t1) (fun q => RM q.2 C g T d) := by
    intro t1
    unfold f_M_classed_27
    have ht : RM (M_set_code μ t1) C g T d := hM
    refine p_good (fun _ => ?_) (fun _ => ?_)
    · refine p_if (fun _ => p_some ht) (fun _ => ?_)
      refine p_if (fun _ => p_guard (fun _ => p_if (fun _ => p_some ht) (fun _ => p_some ht))) (fun _ => ?_)
      refine p_if (fun _ => p_guard (fun _ => p_if (fun _ => p_some ht) (fun _ => p_some ht))) (fun _ => ?_)
      refine p_if (fun _ => p_guard (fun _ => p_some ht)) (fun _ => ?_)
      exact p_guard (fun _ => p_bind (P := fun _ => True) (fun _ _ => trivial) (fun _ _ => p_some ht))
    · exact p_if (fun _ => p_some ht) (fun q => absurd rfl q)
  unfold f_M_classed f_M_classed_22
  exact p_if (fun _ => k27 _) (fun _ => p_if (fun _ => k27 _) (fun _ => p_if (fun _ => k27 _) (fun _ => k27 _)))
theorem K_Mcommon (h : RW C g T d) (hM : RM μ C g T d) (x1 x2 x3 : Int32) : k_pc (f_M_common μ x1 x2 x3) (fun q => RM q.2 C g T d) := by
  have bad : ∀ t1 : Int32, ¬ t1 = 0 → k_pc (f_M_common_35 μ x1 x2 x3 t1) (fun q => RM q.2 C g T d) := by
    intro t1 hne
    unfold f_M_common_35
    have ht : RM (M_set_code μ t1) C g T d := hM
    exact p_good (fun q => absurd q hne) (fun _ => p_if (fun _ => p_some ht) (fun q => absurd rfl q))
  unfold f_M_common f_M_common_17 f_M_common_30
  refine p_if (fun _ => bad _ (by decide)) (fun w1 => p_if (fun _ => bad _ (by decide)) (fun w2 => p_if (fun _ => bad _ (by decide)) (fun _ => p_if (fun _ => ?_) (fun _ => bad _ (by decide)))))
  have e1 : ∃ j, j < Tn T ∧ x1 = nI j := by
    by_cases q : ∃ j, j < Tn T ∧ x1 = nI j
    · exact q
    · exact absurd (R_noType h hM q) w1
  have e2 : ∃ j, j < Tn T ∧ x2 = nI j := by
    by_cases q : ∃ j, j < Tn T ∧ x2 = nI j
    · exact q
    · exact absurd (R_noType h hM q) w2
  obtain ⟨i, hi, rfl⟩ := e1
  obtain ⟨j, hj, rfl⟩ := e2
  unfold f_M_common_35
  refine p_good (fun _ => ?_) (fun q => absurd rfl q)
  refine p_if (fun q => absurd q k_10) (fun _ => ?_)
  refine p_bind (r_M_commonOf (σ := M_set_code μ 0) h.1 hM.1 hM.2.1 hi hj) ?_
  rintro ⟨v, τ⟩ ⟨⟨a, b, c, e⟩, _⟩
  replace e : τ = mF (M_set_code μ 0) a b c := e
  subst e
  have ht : RM (mF (M_set_code μ 0) a b c) C g T d := hM
  unfold f_M_common_66
  exact p_if (fun _ => p_bind (P := fun _ => True) (fun _ _ => trivial) (fun _ _ => p_some ht)) (fun _ => p_bind (P := fun _ => True) (fun _ _ => trivial) (fun _ _ => p_bind (P := fun _ => True) (fun _ _ => trivial) (fun _ _ => p_some ht)))
theorem RK_same (h : RW C g T d) (hL : RL σ C g T d) {fL : Option ((Int32 ⊕ Nat) × StL × Nat × Nat)} {fM : Option (Int32 × StM)} (h1 : k_pc fL (fun q => q.2.1 = σ)) (h2 : k_pc fM (fun q => RM q.2 C g T d)) : RK d fL fM := ⟨C, g, T, h, p_mono h1 (fun q hq => by rw [hq]; exact hL), h2⟩
end
