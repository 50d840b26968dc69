/-! Tier 3: the class makes types. -/
def rNw (σ : StT) (T0 : wWt) (o : Option (Nat × wWt)) (r : Int32 × StT) : Prop := match o with
  | none => r.1 = -1 ∧ r.2 = σ
  | some x => r.1 = nI x.1 ∧ rT r.2 T0 x.2
theorem k_typeOf : ∀ a, a < 1200 → f_L_typeOf (nI a) = if a = 0 then -1 else nI (a / 4) := by decide +kernel
theorem k_howOf : ∀ a, a < 1200 → f_L_howOf (nI a) = nI (a % 4) := by decide +kernel
def wNT (σ : StT) (x1 x2 : Int32) : StT := (T_put_partCounts (T_put_partStarts (T_put_sizes (T_put_elements (T_put_arguments (T_put_named (T_put_kinds (T_set_count σ ((T_count σ) + 1)) (T_count σ) x1) (T_count σ) (-1)) (T_count σ) 0) (T_count σ) (-1)) (T_count σ) x2) (T_count σ) 0) (T_count σ) 0)
theorem wAdd_hit {T : wWt} {d : wDs} {sz i : Nat} (hi : i < Tn T) (e : Ty T i = d) (h : ∀ j, j < i → Ty T j ≠ d) : wAdd T d sz = some (i, T) := by
  unfold wAdd
  rw [wfs_is (k := i) (by omega) (by omega) (decide_eq_true e) (fun j _ hj => decide_eq_false (h j hj))]
theorem wAdd_new {T : wWt} {d : wDs} {sz : Nat} (h : ∀ j, j < Tn T → Ty T j ≠ d) : wAdd T d sz = if Tn T = 300 ∨ 100 < sz then none else some (Tn T, (Tn T + 1, wUp (Ty T) (Tn T) d, wUp (Tm T) (Tn T) sz)) := by
  unfold wAdd
  rw [wfs_no (fun j _ hj => decide_eq_false (h j (by omega)))]
section
variable {σ : StT} {C : wWc} {T0 T : wWt}
theorem r_T_add (h : wTok C T) (r : rT σ T0 T) {x1 : Int32} {sz : Nat} (hs : sz < 10000) : k_pc (f_T_append σ x1 (nI sz)) (fun q => (q.1 = -1 ∧ q.2 = σ ∧ (Tn T = 300 ∨ 100 < sz)) ∨ (¬ (Tn T = 300 ∨ 100 < sz) ∧ q.1 = nI (Tn T) ∧ q.2 = wNT σ x1 (nI sz))) := by
  have hn := h.2.1
  obtain ⟨u, us, r1, _⟩ := r
  unfold f_T_append
  rw [r1]
  refine p_if (fun q => p_some (Or.inl ⟨rfl, rfl, ?_⟩)) (fun q => ?_)
  · have q2 : nI 300 ≤ nI (Tn T) := q
    rw [nI_leI (by decide) (by omega)] at q2
    exact Or.inl (by omega)
  · have q2 : ¬ nI 300 ≤ nI (Tn T) := q
    rw [nI_leI (by decide) (by omega)] at q2
    refine p_if (fun w => ?_) (fun w => p_some (Or.inl ⟨rfl, rfl, Or.inr ?_⟩))
    · have w2 : nI sz ≤ nI 100 := w
      rw [nI_leI (by omega) (by decide)] at w2
      refine p_guard (fun _ => p_guard (fun _ => p_guard (fun _ => p_guard (fun _ => p_guard (fun _ => p_guard (fun _ => p_guard (fun _ => p_some (Or.inr ⟨by omega, rfl, ?_⟩)))))))) 
      unfold wNT
      rw [r1]
    · have w2 : ¬ nI sz ≤ nI 100 := w
      rw [nI_leI (by omega) (by decide)] at w2
      omega
theorem wNT_all (r : rT σ T0 T) (h3 : Tn T ≤ 300) {x1 x2 : Int32} : T_count (wNT σ x1 x2) = nI (Tn T + 1) ∧ T_kinds (wNT σ x1 x2) = upd (T_kinds σ) (Tn T) x1 ∧ T_named (wNT σ x1 x2) = upd (T_named σ) (Tn T) (-1) ∧ T_arguments (wNT σ x1 x2) = upd (T_arguments σ) (Tn T) 0 ∧ T_elements (wNT σ x1 x2) = upd (T_elements σ) (Tn T) (-1) ∧ T_sizes (wNT σ x1 x2) = upd (T_sizes σ) (Tn T) x2 ∧ T_partStarts (wNT σ x1 x2) = upd (T_partStarts σ) (Tn T) 0 ∧ T_partCounts (wNT σ x1 x2) = upd (T_partCounts σ) (Tn T) 0 := by
  obtain ⟨u, us, r1, _⟩ := r
  have e : (T_count σ).toNatClampNeg = Tn T := by rw [r1]; exact nI_clamp (by omega)
  refine ⟨?_, ?_, ?_, ?_, ?_, ?_, ?_, ?_⟩
  · show T_count σ + 1 = _
    rw [r1]; exact nI_1 _
  · show upd (T_kinds σ) (T_count σ).toNatClampNeg x1 = _; rw [e]
  · show upd (T_named σ) (T_count σ).toNatClampNeg (-1) = _; rw [e]
  · show upd (T_arguments σ) (T_count σ).toNatClampNeg 0 = _; rw [e]
  · show upd (T_elements σ) (T_count σ).toNatClampNeg (-1) = _; rw [e]
  · show upd (T_sizes σ) (T_count σ).toNatClampNeg x2 = _; rw [e]
  · show upd (T_partStarts σ) (T_count σ).toNatClampNeg 0 = _; rw [e]
  · show upd (T_partCounts σ) (T_count σ).toNatClampNeg 0 = _; rw [e]
theorem k_updd {f : Nat → Int32} {k : Nat} {x y : Int32} : upd (upd f k x) k y = upd f k y := by
  funext j
  by_cases e : j = k
  · rw [e, k_upds, k_upds]
  · rw [k_updn e, k_updn e, k_updn e]
theorem rTr_named (h : wOK C T) {i c a : Nat} {u : Nat} (hi : i < Tn T) (hc : c < 1000) (ha : a < 2000) (q : rTr σ T u i) : Ty T i = (1, c, a, []) ↔ (T_kinds σ i = 1 ∧ T_named σ i = nI c ∧ T_arguments σ i = nI a) := by
  have hn := h.2.2.1
  obtain ⟨q1, q2, q3, _⟩ := q
  constructor
  · intro e
    rw [q1, q2, q3, e]
    exact ⟨rfl, rfl, rfl⟩
  · rintro ⟨e1, e2, e3⟩
    have z1 : nI (dK (Ty T i)) = nI 1 := q1.symm.trans e1
    rw [nI_eq (by have := wK_lt h.2 hi; omega) (by decide)] at z1
    rw [q2, if_pos z1] at e2
    have z3 := q3.symm.trans e3
    have hA := wA_lt h.2 hi
    have hX := wX_lt h hi
    rw [nI_eq (by omega) (by omega)] at z3 e2
    obtain ⟨_, _, h1 | ⟨_, c', a', h1, h2⟩ | ⟨_, e, h1, _⟩ | ⟨_, l, h1, _⟩⟩ := h.2.2.2.1 i hi
    · rw [h1.2.1] at z1; cases z1
    · rw [h1] at z3 e2 ⊢
      replace e2 : c' = c := e2
      replace z3 : a' = a := z3
      rw [e2, z3]
    · rw [h1] at z1; cases z1
    · rw [h1] at z1; cases z1
theorem rTr_arr (h : wOK C T) {i e : Nat} {u : Nat} (hi : i < Tn T) (he : e < 1000) (q : rTr σ T u i) : Ty T i = (2, e, 0, []) ↔ (T_kinds σ i = 2 ∧ T_elements σ i = nI e) := by
  have hn := h.2.2.1
  obtain ⟨q1, _, _, q4, _⟩ := q
  constructor
  · intro z
    rw [q1, q4, z]
    exact ⟨rfl, rfl⟩
  · rintro ⟨e1, e2⟩
    have z1 : nI (dK (Ty T i)) = nI 2 := q1.symm.trans e1
    rw [nI_eq (by have := wK_lt h.2 hi; omega) (by decide)] at z1
    rw [q4, if_pos z1] at e2
    have hX := wX_lt h hi
    rw [nI_eq (by omega) (by omega)] at e2
    obtain ⟨_, _, h1 | ⟨_, c', a', h1, h2⟩ | ⟨_, e', h1, _⟩ | ⟨_, l, h1, _⟩⟩ := h.2.2.2.1 i hi
    · rw [h1.2.1] at z1; cases z1
    · rw [h1] at z1; cases z1
    · rw [h1] at e2 ⊢
      replace e2 : e' = e := e2
      rw [e2]
    · rw [h1] at z1; cases z1
theorem r_T_makeNamed_8 (h : wOK C T) (r : rT σ T0 T) {c a : Nat} (hc : c < Wn C) (ho : wOk (Tn T) (Wg C c) a) : ∀ (f i : Nat), i ≤ Tn T → (∀ j, j < i → Ty T j ≠ (1, c, a, [])) → k_pc (f_T_makeNamed_8 f σ (nI c) (nI a) (nI i)) (rNw σ T0 (wAdd T (1, c, a, []) (1 + (if a = 0 then 0 else Tm T (a / 4))))) := by
  have hn := h.2.2.1
  have hC := h.1.2.1
  have ha : a < 4 * Tn T := by
    have := h.2.1
    rcases ho with ⟨_, e⟩ | ⟨_, x, x1, x2, x3⟩ <;> omega
  intro f
  induction f with
  | zero => intro i _ _; exact p_none
  | succ f ih =>
    intro i hi hq
    rw [f_T_makeNamed_8]
    unfold f_T_makeNamed_8_s
    have rc : T_count σ = nI (Tn T) := by obtain ⟨u, us, r1, _⟩ := r; exact r1
    rw [rc]
    refine p_if (fun w => ?_) (fun w => ?_)
    · rw [nI_leI (by omega) (by omega)] at w
      have hi2 : i = Tn T := by omega
      subst hi2
      have es : f_T_sizeOf σ (f_L_typeOf (nI a)) = some (nI (if a = 0 then 0 else Tm T (a / 4))) := by
        rw [k_typeOf a (by omega)]
        by_cases z : a = 0
        · rw [if_pos z, if_pos z]
          unfold f_T_sizeOf
          rw [if_pos (rT_m1 h.2 r)]; rfl
        · rw [if_neg z, if_neg z]
          rcases ho with ⟨_, e⟩ | ⟨_, x, x1, x2, x3⟩
          · exact absurd e z
          · exact r_T_sizeOf h.2 r (by omega)
      rw [es]
      show k_pc ((f_T_append σ 1 (1 + nI (if a = 0 then 0 else Tm T (a / 4)))).bind _) _
      have e1 : (1 : Int32) + nI (if a = 0 then 0 else Tm T (a / 4)) = nI (1 + (if a = 0 then 0 else Tm T (a / 4))) := nI_add 1 _
      have hm : (if a = 0 then 0 else Tm T (a / 4)) ≤ 100 := by
        by_cases z : a = 0
        · rw [if_pos z]; omega
        · rw [if_neg z]
          rcases ho with ⟨_, e⟩ | ⟨_, x, x1, x2, x3⟩
          · exact absurd e z
          · exact (h.2.2.2.1 (a / 4) (by omega)).2.1
      rw [e1]
      refine p_bind (r_T_add h.2 r (by omega)) ?_
      rintro ⟨v, τ⟩ (⟨q1, q2, q3⟩ | ⟨q1, q2, q3⟩)
      · replace q1 : v = -1 := q1
        refine p_if (fun _ => p_some ?_) (fun z => absurd q1 z)
        rw [wAdd_new hq, if_pos q3]
        exact ⟨q1, q2⟩
      · replace q2 : v = nI (Tn T) := q2
        replace q3 : τ = wNT σ 1 (nI (1 + (if a = 0 then 0 else Tm T (a / 4)))) := q3
        refine p_if (fun z => absurd (q2.symm.trans z) (k_ne1 (by omega))) (fun _ => p_guard (fun _ => p_guard (fun _ => p_guard (fun _ => p_some ?_))))
        rw [wAdd_new hq, if_neg q1]
        refine ⟨q2, ?_⟩
        obtain ⟨s0, s1, s2, s3, s4, s5, s6, s7⟩ := wNT_all (x1 := 1) (x2 := nI (1 + (if a = 0 then 0 else Tm T (a / 4)))) r hn
        have cl : v.toNatClampNeg = Tn T := by rw [q2]; exact nI_clamp (by omega)
        refine rT_new h r (by omega) ?_ ?_ ?_ ?_ ?_ ?_ ?_ ?_ ?_ ?_ ?_
        · show T_count τ = _
          rw [q3]; exact s0
        · show T_kinds τ = _
          rw [q3]; exact s1
        · show upd (T_named τ) v.toNatClampNeg (nI c) = _
          rw [cl, q3, s2, k_updd]; rfl
        · show upd (T_arguments τ) v.toNatClampNeg (nI a) = _
          rw [cl, q3, s3, k_updd]
        · show T_elements τ = _
          rw [q3]; exact s4
        · show T_sizes τ = _
          rw [q3]; exact s5
        · show upd (T_partCounts τ) v.toNatClampNeg 1 = _
          rw [cl, q3, s7, k_updd]; rfl
        · intro i hi
          show T_partStarts τ i = _
          rw [q3, s6]; exact k_u hi
        · show T_settledCount τ = _
          rw [q3]; rfl
        · show T_settledParts τ = _
          rw [q3]; rfl
        · intro u u1 u2 u3 u4 u5
          refine ⟨u, ?_, Nat.le_refl u, by omega, ?_, ?_, ?_, ?_, fun z => (by cases z)⟩
          · show T_partsUsed τ = _
            rw [q3]; exact u1
          · show u ≤ (T_parts τ).1
            rw [q3]; exact u3
          · show 64 ≤ (T_parts τ).1
            rw [q3]; exact u4
          · show (T_parts τ).1 ≤ 60000
            rw [q3]; exact u5
          · intro j hj
            show (T_parts τ).2 j = _
            rw [q3]; rfl
    · rw [nI_leI (by omega) (by omega)] at w
      have r' := r
      obtain ⟨u, us, _, _, _, _, _, _, _, _, _, _, _, rr, _⟩ := r'
      have key := rTr_named h (show i < Tn T by omega) (show c < 1000 by omega) (show a < 2000 by omega) (rr i (by omega))
      rw [nI_clamp (show i < 2 ^ 31 by omega), nI_1]
      have nx : Ty T i ≠ (1, c, a, []) → k_pc (f_T_makeNamed_8 f σ (nI c) (nI a) (nI (i + 1))) (rNw σ T0 (wAdd T (1, c, a, []) (1 + (if a = 0 then 0 else Tm T (a / 4))))) := by
        intro ne
        refine ih (i + 1) (by omega) (fun j hj => ?_)
        by_cases z : j = i
        · rw [z]; exact ne
        · exact hq j (by omega)
      refine p_guard (fun _ => p_if (fun z1 => ?_) (fun z1 => nx (fun e => z1 (key.mp e).1)))
      refine p_guard (fun _ => p_if (fun z2 => ?_) (fun z2 => nx (fun e => z2 (key.mp e).2.1)))
      refine p_guard (fun _ => p_if (fun z3 => ?_) (fun z3 => nx (fun e => z3 (key.mp e).2.2)))
      rw [wAdd_hit (by omega) (key.mpr ⟨z1, z2, z3⟩) hq]
      exact p_some ⟨rfl, r⟩
theorem r_T_makeNamed (h : wOK C T) (r : rT σ T0 T) {c a : Nat} (hc : c < Wn C) (ho : wOk (Tn T) (Wg C c) a) : k_pc (f_T_makeNamed σ (nI c) (nI a)) (rNw σ T0 (wAdd T (1, c, a, []) (1 + (if a = 0 then 0 else Tm T (a / 4))))) := by
  have hn := h.2.2.1
  have ha : a < 4 * Tn T := by
    have := h.2.1
    rcases ho with ⟨_, e⟩ | ⟨_, x, x1, x2, x3⟩ <;> omega
  unfold f_T_makeNamed
  refine p_if (fun _ => r_T_makeNamed_8 h r hc ho 1000 0 (by omega) (fun j hj => by omega)) (fun z => ?_)
  have z2 : ¬ nI 0 ≤ nI a := z
  rw [nI_leI (by decide) (by omega)] at z2
  omega
theorem r_T_makeArray_2 (h : wOK C T) (r : rT σ T0 T) {e : Nat} (he : e < Tn T) : ∀ (f i : Nat), i ≤ Tn T → (∀ j, j < i → Ty T j ≠ (2, e, 0, [])) → k_pc (f_T_makeArray_2 f σ (nI e) (nI i)) (rNw σ T0 (wAdd T (2, e, 0, []) (1 + Tm T e))) := by
  have hn := h.2.2.1
  intro f
  induction f with
  | zero => intro i _ _; exact p_none
  | succ f ih =>
    intro i hi hq
    rw [f_T_makeArray_2]
    unfold f_T_makeArray_2_s
    have rc : T_count σ = nI (Tn T) := by obtain ⟨u, us, r1, _⟩ := r; exact r1
    rw [rc]
    refine p_if (fun w => ?_) (fun w => ?_)
    · rw [nI_leI (by omega) (by omega)] at w
      have hi2 : i = Tn T := by omega
      subst hi2
      rw [r_T_sizeOf h.2 r he]
      show k_pc ((f_T_append σ 2 (1 + nI (Tm T e))).bind _) _
      have e1 : (1 : Int32) + nI (Tm T e) = nI (1 + Tm T e) := nI_add 1 _
      have hm := (h.2.2.2.1 e he).2.1
      rw [e1]
      refine p_bind (r_T_add h.2 r (by omega)) ?_
      rintro ⟨v, τ⟩ (⟨q1, q2, q3⟩ | ⟨q1, q2, q3⟩)
      · replace q1 : v = -1 := q1
        refine p_if (fun _ => p_some ?_) (fun z => absurd q1 z)
        rw [wAdd_new hq, if_pos q3]
        exact ⟨q1, q2⟩
      · replace q2 : v = nI (Tn T) := q2
        replace q3 : τ = wNT σ 2 (nI (1 + Tm T e)) := q3
        refine p_if (fun z => absurd (q2.symm.trans z) (k_ne1 (by omega))) (fun _ => p_guard (fun _ => p_some ?_))
        rw [wAdd_new hq, if_neg q1]
        refine ⟨q2, ?_⟩
        obtain ⟨s0, s1, s2, s3, s4, s5, s6, s7⟩ := wNT_all (x1 := 2) (x2 := nI (1 + Tm T e)) r hn
        have cl : v.toNatClampNeg = Tn T := by rw [q2]; exact nI_clamp (by omega)
        refine rT_new h r (by omega) ?_ ?_ ?_ ?_ ?_ ?_ ?_ ?_ ?_ ?_ ?_
        · show T_count τ = _
          rw [q3]; exact s0
        · show T_kinds τ = _
          rw [q3]; exact s1
        · show T_named τ = _
          rw [q3]; exact s2
        · show T_arguments τ = _
          rw [q3]; exact s3
        · show upd (T_elements τ) v.toNatClampNeg (nI e) = _
          rw [cl, q3, s4, k_updd]; rfl
        · show T_sizes τ = _
          rw [q3]; exact s5
        · show T_partCounts τ = _
          rw [q3]; exact s7
        · intro i hi
          show T_partStarts τ i = _
          rw [q3, s6]; exact k_u hi
        · show T_settledCount τ = _
          rw [q3]; rfl
        · show T_settledParts τ = _
          rw [q3]; rfl
        · intro u u1 u2 u3 u4 u5
          refine ⟨u, ?_, Nat.le_refl u, by omega, ?_, ?_, ?_, ?_, fun z => (by cases z)⟩
          · show T_partsUsed τ = _
            rw [q3]; exact u1
          · show u ≤ (T_parts τ).1
            rw [q3]; exact u3
          · show 64 ≤ (T_parts τ).1
            rw [q3]; exact u4
          · show (T_parts τ).1 ≤ 60000
            rw [q3]; exact u5
          · intro j hj
            show (T_parts τ).2 j = _
            rw [q3]; rfl
    · rw [nI_leI (by omega) (by omega)] at w
      have r' := r
      obtain ⟨u, us, _, _, _, _, _, _, _, _, _, _, _, rr, _⟩ := r'
      have key := rTr_arr h (show i < Tn T by omega) (show e < 1000 by omega) (rr i (by omega))
      rw [nI_clamp (show i < 2 ^ 31 by omega), nI_1]
      have nx : Ty T i ≠ (2, e, 0, []) → k_pc (f_T_makeArray_2 f σ (nI e) (nI (i + 1))) (rNw σ T0 (wAdd T (2, e, 0, []) (1 + Tm T e))) := by
        intro ne
        refine ih (i + 1) (by omega) (fun j hj => ?_)
        by_cases z : j = i
        · rw [z]; exact ne
        · exact hq j (by omega)
      refine p_guard (fun _ => p_if (fun z1 => ?_) (fun z1 => nx (fun e => z1 (key.mp e).1)))
      refine p_guard (fun _ => p_if (fun z2 => ?_) (fun z2 => nx (fun e => z2 (key.mp e).2)))
      rw [wAdd_hit (by omega) (key.mpr ⟨z1, z2⟩) hq]
      exact p_some ⟨rfl, r⟩
theorem r_T_makeArray (h : wOK C T) (r : rT σ T0 T) {e : Nat} (he : e < Tn T) : k_pc (f_T_makeArray σ (nI e)) (rNw σ T0 (wAdd T (2, e, 0, []) (1 + Tm T e))) := by
  unfold f_T_makeArray
  exact r_T_makeArray_2 h r he 1000 0 (by omega) (fun j hj => by omega)
theorem r_T_settle (r : rT σ T0 T) : k_pc (f_T_settle σ) (fun q => rT q.2 T T) := by
  obtain ⟨u, us, r1, r2, r3, r4, r5, r6, r6', r7, r8, r9, r10, rr, rs⟩ := r
  exact p_some ⟨u, u, r1, r2, r1, r2, Nat.le_refl u, r6, r6, r7, r8, r9, Nat.le_refl _, rr, rr⟩
theorem r_T_drop (r : rT σ T0 T) : k_pc (f_T_dropUnsettled σ) (fun q => rT q.2 T0 T0) := by
  obtain ⟨u, us, r1, r2, r3, r4, r5, r6, r6', r7, r8, r9, r10, rr, rs⟩ := r
  exact p_some ⟨us, us, r3, r4, r3, r4, Nat.le_refl us, r6', r6', Nat.le_trans r5 r7, r8, r9, Nat.le_refl _, rs, rs⟩
end
