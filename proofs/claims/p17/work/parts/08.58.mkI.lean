/-! Tier 3: the class makes INTERSECTIONS. -/
def wInt (T : wWt) (l : List Nat) : Option (Nat × wWt) := match l with
  | [p] => some (p, T)
  | _ => wAdd T (3, 0, 0, l) (1 + wSum T l)
theorem wInt_many {T : wWt} {l : List Nat} (h : 2 ≤ l.length) : wInt T l = wAdd T (3, 0, 0, l) (1 + wSum T l) := by
  unfold wInt
  match l, h with
  | a :: b :: l, _ => rfl
/-- the row from s on holds the types of the list -/
def wRw (pa : Nat × (Nat → Int32)) (s : Nat) (l : List Nat) : Prop := pa.1 = 90 ∧ s + l.length ≤ 90 ∧ ∀ k (hk : k < l.length), pa.2 (s + k) = nI l[k]
theorem wSum_take {T : wWt} : ∀ (l : List Nat) (i : Nat) (hi : i < l.length), wSum T (l.take (i + 1)) = wSum T (l.take i) + Tm T l[i] := by
  intro l
  induction l with
  | nil => intro i hi; simp at hi
  | cons p l ih =>
    intro i hi
    cases i with
    | zero => simp [wSum]
    | succ i =>
      have := ih i (by simpa using hi)
      rw [List.take_succ_cons, List.take_succ_cons, wSum, wSum, this, List.getElem_cons_succ]
      omega
theorem wSum_b {C : wWc} {T : wWt} (h : wTok C T) : ∀ (l : List Nat), (∀ p, p ∈ l → p < Tn T) → wSum T l ≤ 100 * l.length := by
  intro l
  induction l with
  | nil => intro _; exact Nat.le_refl 0
  | cons p l ih =>
    intro hl
    have h1 := ih (fun q hq => hl q (by simp [hq]))
    have h2 := (h.2.2.1 p (hl p (by simp))).2.1
    rw [wSum, List.length_cons]; omega
section
variable {σ : StT} {C : wWc} {T0 T : wWt} {pa : Nat × (Nat → Int32)} {s : Nat} {l : List Nat}
theorem r_T_hasParts_3 (h : wOK C T) (r : rT σ T0 T) (hp : wRw pa s l) (hl : ∀ p, p ∈ l → p < Tn T) {j : Nat} (hj : j < Tn T) (h3 : dK (Ty T j) = 3) (hlen : (dL (Ty T j)).length = l.length) :
    ∀ (f i : Nat), i ≤ l.length → (∀ k (h1 : k < (dL (Ty T j)).length) (h2 : k < l.length), k < i → (dL (Ty T j))[k] = l[k]) → k_pc (f_T_hasParts_3 pa f σ (nI j) (nI s) (nI i)) (fun v => (v = 1 ∧ dL (Ty T j) = l) ∨ (v = 0 ∧ dL (Ty T j) ≠ l)) := by
  have hn := h.2.2.1
  obtain ⟨hp1, hp2, hp3⟩ := hp
  have el : wPs T j = dL (Ty T j) := by unfold wPs; rw [if_neg (by omega)]
  intro f
  induction f with
  | zero => intro i _ _; exact p_none
  | succ f ih =>
    intro i hi hq
    rw [f_T_hasParts_3]
    unfold f_T_hasParts_3_s
    have rc : T_partCounts σ j = nI l.length := by
      obtain ⟨u, us, _, _, _, _, _, _, _, _, _, _, _, rr, _⟩ := r
      rw [(rr j hj).2.2.2.2.2.1]
      unfold wPc
      rw [if_neg (by omega), hlen]
    rw [nI_clamp (show j < 2 ^ 31 by omega), rc]
    refine p_guard (fun _ => p_if (fun w => p_some (Or.inl ⟨rfl, ?_⟩)) (fun w => ?_))
    · rw [nI_leI (by omega) (by omega)] at w
      exact List.ext_getElem hlen (fun k h1 h2 => hq k h1 h2 (by omega))
    · rw [nI_leI (by omega) (by omega)] at w
      rw [nI_add, nI_clamp (show s + i < 2 ^ 31 by omega)]
      refine p_if (fun z => ?_) (fun _ => ?_)
      · have z2 : nI pa.1 ≤ nI (s + i) := z
        rw [nI_leI (by omega) (by omega)] at z2
        omega
      · have hk : i < (wPs T j).length := by rw [el]; omega
        have hk1 : i < (dL (Ty T j)).length := by omega
        have hk2 : i < l.length := by omega
        rw [r_T_partOf h.2 r hj hk]
        show k_pc (if _ then none else if nI (wPs T j)[i] = pa.2 (s + i) then _ else _) _
        have eg : (wPs T j)[i] = (dL (Ty T j))[i] := by simp [el]
        rw [eg, hp3 i hk2, nI_1]
        obtain ⟨_, _, _, w4, _⟩ := wT_both h.2 hj h3
        have b1 := w4 _ (List.getElem_mem hk1)
        have b2 := hl _ (List.getElem_mem hk2)
        refine p_guard (fun _ => p_if (fun z => ?_) (fun z => p_some (Or.inr ⟨rfl, fun e => ?_⟩)))
        · rw [nI_eq (by omega) (by omega)] at z
          refine ih (i + 1) (by omega) (fun k h1 h2 hk => ?_)
          by_cases q : k = i
          · subst q; exact z
          · exact hq k h1 h2 (by omega)
        · refine z (congrArg nI ?_)
          simp [e]
theorem rTr_both (h : wOK C T) {i : Nat} {u : Nat} (hi : i < Tn T) (q : rTr σ T u i) : (dK (Ty T i) = 3 ↔ T_kinds σ i = 3) ∧ (Ty T i = (3, 0, 0, l) ↔ (dK (Ty T i) = 3 ∧ dL (Ty T i) = l)) := by
  obtain ⟨q1, _⟩ := q
  refine ⟨⟨fun e => by rw [q1, e]; rfl, fun e => ?_⟩, ⟨fun e => by rw [e]; exact ⟨rfl, rfl⟩, fun ⟨e1, e2⟩ => ?_⟩⟩
  · have z1 : nI (dK (Ty T i)) = nI 3 := q1.symm.trans e
    rw [nI_eq (by have := wK_lt h.2 hi; omega) (by decide)] at z1
    exact z1
  · obtain ⟨_, _, h1 | ⟨_, c', a', h1, h2⟩ | ⟨_, e', h1, _⟩ | ⟨_, l', h1, _⟩⟩ := h.2.2.2.1 i hi
    · rw [h1.2.1] at e1; cases e1
    · rw [h1] at e1; cases e1
    · rw [h1] at e1; cases e1
    · rw [h1] at e2 ⊢
      replace e2 : l' = l := e2
      rw [e2]
theorem r_T_findIntersection_3 (h : wOK C T) (r : rT σ T0 T) (hp : wRw pa s l) (hl : ∀ p, p ∈ l → p < Tn T) :
    ∀ (f i : Nat), i ≤ Tn T → (∀ j, j < i → Ty T j ≠ (3, 0, 0, l)) → k_pc (f_T_findIntersection_3 pa f σ (nI s) (nI l.length) (nI i)) (fun v => (v = -1 ∧ ∀ j, j < Tn T → Ty T j ≠ (3, 0, 0, l)) ∨ ∃ k, v = nI k ∧ k < Tn T ∧ Ty T k = (3, 0, 0, l) ∧ ∀ j, j < k → Ty T j ≠ (3, 0, 0, l)) := by
  have hn := h.2.2.1
  have hp2 := hp.2.1
  intro f
  induction f with
  | zero => intro i _ _; exact p_none
  | succ f ih =>
    intro i hi hq
    rw [f_T_findIntersection_3]
    unfold f_T_findIntersection_3_s
    have r' := r
    obtain ⟨u, us, r1, _, _, _, _, _, _, _, _, _, _, rr, _⟩ := r'
    rw [r1]
    refine p_if (fun w => p_some (Or.inl ⟨rfl, fun j hj => ?_⟩)) (fun w => ?_)
    · rw [nI_leI (by omega) (by omega)] at w
      exact hq j (by omega)
    · rw [nI_leI (by omega) (by omega)] at w
      have hi' : i < Tn T := by omega
      obtain ⟨k1, k2⟩ := rTr_both (l := l) h hi' (rr i hi')
      have nx : Ty T i ≠ (3, 0, 0, l) → k_pc (f_T_findIntersection_3 pa f σ (nI s) (nI l.length) (nI i + 1)) (fun v => (v = -1 ∧ ∀ j, j < Tn T → Ty T j ≠ (3, 0, 0, l)) ∨ ∃ k, v = nI k ∧ k < Tn T ∧ Ty T k = (3, 0, 0, l) ∧ ∀ j, j < k → Ty T j ≠ (3, 0, 0, l)) := by
        intro ne
        rw [nI_1]
        refine ih (i + 1) (by omega) (fun j hj => ?_)
        by_cases z : j = i
        · rw [z]; exact ne
        · exact hq j (by omega)
      rw [nI_clamp (show i < 2 ^ 31 by omega)]
      refine p_guard (fun _ => p_if (fun z1 => ?_) (fun z1 => nx (fun e => z1 (k1.mp (k2.mp e).1))))
      have z3 := k1.mpr z1
      have ec : T_partCounts σ i = nI (dL (Ty T i)).length := by
        rw [(rr i hi').2.2.2.2.2.1]
        unfold wPc
        rw [if_neg (by omega)]
      have l30 := (wT_both h.2 hi' z3).2.2.1
      rw [ec]
      refine p_guard (fun _ => p_if (fun z2 => ?_) (fun z2 => nx (fun e => z2 (by rw [(k2.mp e).2]))))
      rw [nI_eq (by omega) (by omega)] at z2
      unfold f_T_hasParts
      refine p_bind (r_T_hasParts_3 h r hp hl hi' z3 z2 1000 0 (by omega) (fun k _ _ hk => by omega)) ?_
      rintro v (⟨v1, v2⟩ | ⟨v1, v2⟩)
      · refine p_if (fun z => absurd (v1.symm.trans z) (by decide)) (fun _ => p_some (Or.inr ⟨i, rfl, hi', k2.mpr ⟨z3, v2⟩, hq⟩))
      · refine p_if (fun _ => nx (fun e => v2 (k2.mp e).2)) (fun z => absurd v1 z)
theorem r_T_append (r : rT σ T0 T) (h : wOK C T) (hp : wRw pa s l) (h3 : Tn T < 300) (h30 : l.length ≤ 30) {sz : Nat} : k_pc (f_T_appendParts pa (wNT σ 3 (nI sz)) (nI (Tn T)) (nI s) (nI l.length)) (fun q => q.1 = .inl 0 ∧ rT q.2.1 T0 (Tn T + 1, wUp (Ty T) (Tn T) (3, 0, 0, l), wUp (Tm T) (Tn T) sz)) := by
  obtain ⟨hp1, hp2, hp3⟩ := hp
  have hn := h.2.2.1
  obtain ⟨s0, s1, s2, s3, s4, s5, s6, s7⟩ := wNT_all (x1 := 3) (x2 := nI sz) r hn
  have ct : (nI (Tn T)).toNatClampNeg = Tn T := nI_clamp (by omega)
  have cm : (nI l.length).toNatClampNeg = l.length := nI_clamp (by omega)
  have cs : (nI s).toNatClampNeg = s := nI_clamp (by omega)
  have fin : ∀ τ : StT, T_count τ = T_count (wNT σ 3 (nI sz)) → T_kinds τ = T_kinds (wNT σ 3 (nI sz)) → T_named τ = T_named (wNT σ 3 (nI sz)) → T_arguments τ = T_arguments (wNT σ 3 (nI sz)) → T_elements τ = T_elements (wNT σ 3 (nI sz)) → T_sizes τ = T_sizes (wNT σ 3 (nI sz)) → T_partStarts τ = T_partStarts (wNT σ 3 (nI sz)) → T_partCounts τ = T_partCounts (wNT σ 3 (nI sz)) → T_settledCount τ = T_settledCount σ → T_settledParts τ = T_settledParts σ → T_partsUsed τ = T_partsUsed σ →
      64 ≤ (T_parts τ).1 → (T_parts τ).1 ≤ 60000 → (∀ u, T_partsUsed σ = nI u → u ≤ 60000 → u + l.length ≤ (T_parts τ).1 ∧ ∀ j, j < u → (T_parts τ).2 j = (T_parts σ).2 j) →
      k_pc (f_T_appendParts_35 pa τ (nI (Tn T)) (nI s) (nI l.length)) (fun q => q.1 = .inl 0 ∧ rT q.2.1 T0 (Tn T + 1, wUp (Ty T) (Tn T) (3, 0, 0, l), wUp (Tm T) (Tn T) sz)) := by
    intro τ t0 t1 t2 t3 t4 t5 t6 t7 t8 t9 t10 t11 t12 t13
    unfold f_T_appendParts_35
    refine p_guard (fun _ => p_guard (fun _ => p_guard (fun _ => p_some ⟨rfl, ?_⟩)))
    refine rT_new h r (by omega) (t0.trans s0) (t1.trans s1) (t2.trans s2) (t3.trans s3) (t4.trans s4) (t5.trans s5) ?_ ?_ t8 t9 ?_
    · show upd (T_partCounts τ) (nI (Tn T)).toNatClampNeg (nI l.length) = _
      rw [ct, t7, s7, k_updd]; rfl
    · intro i hi
      show upd (T_partStarts τ) (nI (Tn T)).toNatClampNeg (T_partsUsed τ) i = _
      rw [ct, t6, s6, k_updd]; exact k_u hi
    · intro u u1 u2 u3 u4 u5
      obtain ⟨g1, g2⟩ := t13 u u1 (by omega)
      have cu : (T_partsUsed τ).toNatClampNeg = u := by rw [t10, u1]; exact nI_clamp (by omega)
      refine ⟨u + l.length, ?_, by omega, by omega, ?_, ?_, ?_, ?_, fun _ => ⟨u, ?_, Nat.le_refl _, fun k hk => ?_⟩⟩
      · show T_partsUsed τ + nI l.length = _
        rw [t10, u1, nI_add]
      · show u + l.length ≤ (T_parts τ).1
        exact g1
      · show 64 ≤ (T_parts τ).1
        exact t11
      · show (T_parts τ).1 ≤ 60000
        exact t12
      · intro j hj
        show va_cpy pa.2 (T_parts τ).2 (nI s).toNatClampNeg (T_partsUsed τ).toNatClampNeg (nI l.length).toNatClampNeg j = _
        rw [cu, cs, cm]
        unfold va_cpy
        rw [if_neg (by omega)]; exact g2 j hj
      · show upd (T_partStarts τ) (nI (Tn T)).toNatClampNeg (T_partsUsed τ) (Tn T) = _
        rw [ct, k_upds, t10]; exact u1
      · show va_cpy pa.2 (T_parts τ).2 (nI s).toNatClampNeg (T_partsUsed τ).toNatClampNeg (nI l.length).toNatClampNeg (u + k) = _
        replace hk : k < l.length := hk
        rw [cu, cs, cm]
        unfold va_cpy
        rw [if_pos (by omega), show s + (u + k - u) = s + k by omega]
        exact hp3 k hk
  have r' := r
  obtain ⟨u, us, r1, r2, r3, r4, r5, r6, r6', r7, r8, r9, r10, rr, rs⟩ := r'
  have eu : T_partsUsed (wNT σ 3 (nI sz)) = nI u := r2
  have ep : T_parts (wNT σ 3 (nI sz)) = T_parts σ := rfl
  have inj : ∀ v, T_partsUsed σ = nI v → v < 2 ^ 31 → v = u := by
    intro v hv hlt
    rw [r2, nI_eq (by omega) hlt] at hv
    exact hv.symm
  unfold f_T_appendParts
  rw [eu, nI_add, ep]
  refine p_if (fun w => ?_) (fun w => ?_)
  · have w2 : nI (u + l.length) ≤ nI (T_parts σ).1 := w
    rw [nI_leI (by omega) (by omega)] at w2
    refine fin _ rfl rfl rfl rfl rfl rfl rfl rfl rfl rfl rfl r8 r9 (fun v hv hb => ?_)
    rw [inj v hv (by omega)]
    exact ⟨w2, fun _ _ => rfl⟩
  · have w2 : ¬ nI (u + l.length) ≤ nI (T_parts σ).1 := w
    rw [nI_leI (by omega) (by omega)] at w2
    have e2 : 2 * nI (u + l.length) = nI (2 * (u + l.length)) := by
      show nI 2 * nI (u + l.length) = _; rw [k_mul]
    have hc : (nI (2 * (u + l.length))).toNatClampNeg = 2 * (u + l.length) := nI_clamp (by omega)
    rw [e2]
    refine p_guard (fun _ => p_ad ?_)
    refine p_mono (fin _ rfl rfl rfl rfl rfl rfl rfl rfl rfl rfl rfl ?_ ?_ (fun v hv hb => ?_)) (fun q hq => hq)
    · show 64 ≤ (nI (2 * (u + l.length))).toNatClampNeg
      rw [hc]; omega
    · show (nI (2 * (u + l.length))).toNatClampNeg ≤ 60000
      rw [hc]; omega
    · rw [inj v hv (by omega)]
      refine ⟨?_, fun j hj => ?_⟩
      · show u + l.length ≤ (nI (2 * (u + l.length))).toNatClampNeg
        rw [hc]; omega
      · show J_copyOf (T_parts σ).2 (T_parts σ).1 (nI (2 * (u + l.length))) j = _
        unfold J_copyOf va_cpy
        rw [hc, if_pos (by omega), show 0 + (j - 0) = j by omega]
theorem r_T_makeIntersection_38 (h : wOK C T) (r : rT σ T0 T) (hp : wRw pa s l) (hl : ∀ p, p ∈ l → p < Tn T) (h30 : l.length ≤ 30) :
    ∀ (f i : Nat), i ≤ l.length → k_pc (f_T_makeIntersection_38 pa f σ (nI s) (nI l.length) (nI (1 + wSum T (l.take i))) (nI i)) (fun q => ∃ v, q.1 = .inl v ∧ rNw σ T0 (wAdd T (3, 0, 0, l) (1 + wSum T l)) (v, q.2.1)) := by
  have hn := h.2.2.1
  have hb := wSum_b h.2 l hl
  intro f
  induction f with
  | zero => intro i _; exact p_none
  | succ f ih =>
    intro i hi
    rw [f_T_makeIntersection_38]
    unfold f_T_makeIntersection_38_s
    refine p_if (fun w => ?_) (fun w => ?_)
    · rw [nI_leI (by omega) (by omega)] at w
      have ei : i = l.length := by omega
      subst ei
      rw [List.take_length]
      unfold f_T_findIntersection
      refine p_bind (r_T_findIntersection_3 h r hp hl 1000 0 (by omega) (fun j hj => by omega)) ?_
      rintro v (⟨v1, v2⟩ | ⟨k, v1, v2, v3, v4⟩)
      · refine p_if (fun _ => ?_) (fun z => absurd v1 z)
        refine p_bind (r_T_add h.2 r (by omega)) ?_
        rintro ⟨x, τ⟩ (⟨q1, q2, q3⟩ | ⟨q1, q2, q3⟩)
        · replace q1 : x = -1 := q1
          replace q2 : τ = σ := q2
          refine p_if (fun _ => p_some ⟨x, rfl, ?_⟩) (fun z => absurd q1 z)
          rw [wAdd_new v2, if_pos q3]
          exact ⟨q1, q2⟩
        · replace q2 : x = nI (Tn T) := q2
          replace q3 : τ = wNT σ 3 (nI (1 + wSum T l)) := q3
          refine p_if (fun z => absurd (q2.symm.trans z) (k_ne1 (by omega))) (fun _ => ?_)
          rw [q3, q2]
          refine p_bind (r_T_append r h hp (by omega) h30) ?_
          rintro ⟨y, ρ, K, N⟩ ⟨y1, y2⟩
          replace y1 : y = .inl 0 := y1
          subst y1
          refine p_ad (p_some ⟨nI (Tn T), rfl, ?_⟩)
          rw [wAdd_new v2, if_neg q1]
          exact ⟨rfl, y2⟩
      · refine p_if (fun z => absurd (v1.symm.trans z) (k_ne1 (by omega))) (fun _ => p_some ⟨v, rfl, ?_⟩)
        rw [wAdd_hit v2 v3 v4]
        exact ⟨v1, r⟩
    · rw [nI_leI (by omega) (by omega)] at w
      have hi' : i < l.length := by omega
      have hp' := hp
      obtain ⟨hp1, hp2, hp3⟩ := hp'
      rw [nI_add, nI_clamp (show s + i < 2 ^ 31 by omega), hp3 i hi']
      refine p_guard (fun _ => ?_)
      rw [r_T_sizeOf h.2 r (hl _ (List.getElem_mem hi'))]
      show k_pc (f_T_makeIntersection_38 pa f σ (nI s) (nI l.length) (nI (1 + wSum T (l.take i)) + nI (Tm T l[i])) (nI i + 1)) _
      rw [nI_add, nI_1, show 1 + wSum T (l.take i) + Tm T l[i] = 1 + wSum T (l.take (i + 1)) by rw [wSum_take l i hi']; omega]
      exact ih (i + 1) (by omega)
theorem r_T_makeIntersection (h : wOK C T) (r : rT σ T0 T) (hp : wRw pa s l) (hl : ∀ p, p ∈ l → p < Tn T) (h30 : l.length ≤ 30) (h1 : 1 ≤ l.length) :
    k_pc (f_T_makeIntersection pa σ (nI s) (nI l.length)) (fun q => ∃ v, q.1 = .inl v ∧ rNw σ T0 (wInt T l) (v, q.2.1)) := by
  have hn := h.2.2.1
  have hp' := hp
  obtain ⟨hp1, hp2, hp3⟩ := hp'
  unfold f_T_makeIntersection
  refine p_if (fun z => absurd z (nI_pos (by omega))) (fun _ => ?_)
  refine p_if (fun z => ?_) (fun _ => ?_)
  · have z2 : nI l.length < nI 1 := z
    rw [nI_ltI (by omega) (by decide)] at z2
    omega
  · refine p_if (fun _ => ?_) (fun z => ?_)
    · refine p_if (fun z => ?_) (fun z => ?_)
      · have z2 : nI l.length = nI 1 := z
        rw [nI_eq (by omega) (by decide)] at z2
        match l, z2, hp3 with
        | [p], _, hp3 =>
          refine p_guard (fun _ => p_some ⟨_, rfl, ?_⟩)
          rw [nI_clamp (show s < 2 ^ 31 by omega)]
          have := hp3 0 (by simp)
          exact ⟨this, r⟩
      · have z2 : ¬ nI l.length = nI 1 := z
        rw [nI_eq (by omega) (by decide)] at z2
        rw [wInt_many (by omega)]
        have := r_T_makeIntersection_38 h r hp hl h30 1000 0 (by omega)
        exact this
    · exfalso
      have e : nI pa.1 - nI s = nI (pa.1 - s) := k_sub (by omega)
      have z2 : ¬ nI l.length ≤ nI pa.1 - nI s := z
      rw [e, nI_leI (by omega) (by omega)] at z2
      omega
end
