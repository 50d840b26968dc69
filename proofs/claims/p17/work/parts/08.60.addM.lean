/-! Tier 3: the reference adds NAMED types and ARRAYS. -/
section
variable {σ : StM} {C : wWc} {T : wWt} {g : Nat}
/-- an own ARGUMENT is known by its two numbers -/
theorem wHT_inj {t t' : Nat} {g g' : Bool} {a b : Nat} (ht : t ≤ 300) (ht' : t' ≤ 300) (ha : wOk t g a) (hb : wOk t' g' b) (e1 : wH a = wH b) (e2 : wTd a = wTd b) : a = b := by
  rcases ha with ⟨_, ha⟩ | ⟨_, x, x1, x2, x3⟩
  · rcases hb with ⟨_, hb⟩ | ⟨_, y, y1, y2, y3⟩
    · rw [ha, hb]
    · rw [ha, wTd_x y3] at e2
      exact absurd e2.symm (k_ne1 (by omega))
  · rcases hb with ⟨_, hb⟩ | ⟨_, y, y1, y2, y3⟩
    · rw [hb, wTd_x x3] at e2
      exact absurd e2 (k_ne1 (by omega))
    · rw [wTd_x x3, wTd_x y3, nI_eq (by omega) (by omega)] at e2
      subst e2
      rcases x3 with x3 | x3
      · rcases y3 with y3 | y3
        · omega
        · rw [wH_x x3, wH_y y3] at e1; exact absurd e1 (by decide)
      · rcases y3 with y3 | y3
        · rw [wH_y x3, wH_x y3] at e1; exact absurd e1 (by decide)
        · omega
theorem rMtr_named (h : wOK C T) {i c a : Nat} (hi : i < Tn T) (hc : c < 1000) {g0 : Bool} (ha : wOk (Tn T) g0 a) (q : rMtr σ T i) : Ty T i = (1, c, a, []) ↔ (M_kind σ i = 1 ∧ M_classOf σ i = nI c ∧ M_how σ i = wH a ∧ M_inner σ i = wTd a) := by
  have hn := h.2.2.1
  obtain ⟨q1, q2, q3, q4, _⟩ := q
  constructor
  · intro e
    rw [q1, q2, q3, q4, e]
    exact ⟨rfl, rfl, rfl, rfl⟩
  · rintro ⟨e1, e2, e3, e4⟩
    have z1 : nI (dK (Ty T i)) = nI 1 := q1.symm.trans e1
    rw [nI_eq (by have := wK_lt h.2 hi; omega) (by decide)] at z1
    rw [q2, if_pos z1] at e2
    rw [q3, if_pos z1] at e3
    rw [q4, if_pos z1] at e4
    have hX := wX_lt h hi
    rw [nI_eq (by omega) (by omega)] at e2
    obtain ⟨_, w1, w2, _⟩ := wT_named h.2 hi z1
    have ea := wHT_inj (show i ≤ 300 by omega) hn w2 ha e3 e4
    obtain ⟨_, _, h1 | ⟨_, c', a', h1, h2⟩ | ⟨_, e, h1, _⟩ | ⟨_, l, h1, _⟩⟩ := h.2.2.2.1 i hi
    · rw [h1.2.1] at z1; cases z1
    · rw [h1] at ea e2 ⊢
      replace e2 : c' = c := e2
      replace ea : a' = a := ea
      rw [e2, ea]
    · rw [h1] at z1; cases z1
    · rw [h1] at z1; cases z1
theorem rMtr_arr (h : wOK C T) {i e : Nat} (hi : i < Tn T) (he : e < 1000) (q : rMtr σ T i) : Ty T i = (2, e, 0, []) ↔ (M_kind σ i = 2 ∧ M_classOf σ i = -1 ∧ M_how σ i = -1 ∧ M_inner σ i = nI e) := by
  have hn := h.2.2.1
  obtain ⟨q1, q2, q3, q4, _⟩ := q
  constructor
  · intro z
    rw [q1, q2, q3, q4, z]
    exact ⟨rfl, rfl, rfl, rfl⟩
  · rintro ⟨e1, _, _, e4⟩
    have z1 : nI (dK (Ty T i)) = nI 2 := q1.symm.trans e1
    rw [nI_eq (by have := wK_lt h.2 hi; omega) (by decide)] at z1
    rw [q4, if_neg (by omega), if_pos z1] at e4
    have hX := wX_lt h hi
    rw [nI_eq (by omega) (by omega)] at e4
    obtain ⟨_, _, h1 | ⟨_, c', a', h1, h2⟩ | ⟨_, e', h1, _⟩ | ⟨_, l, h1, _⟩⟩ := h.2.2.2.1 i hi
    · rw [h1.2.1] at z1; cases z1
    · rw [h1] at z1; cases z1
    · rw [h1] at e4 ⊢
      replace e4 : e' = e := e4
      rw [e4]
    · rw [h1] at z1; cases z1
theorem r_M_add_3 (h : wOK C T) (q : rMt σ T) (hf : M_full σ = 0) {x1 x2 x3 x4 : Int32} {d : wDs} {sz : Nat}
    (key : ∀ i, i < Tn T → (Ty T i = d ↔ (M_kind σ i = x1 ∧ M_classOf σ i = x2 ∧ M_how σ i = x3 ∧ M_inner σ i = x4)))
    (hend : (x4 = -1 → k_pc (f_M_add_84 σ x1 x2 x3 x4 1 0) (rMw (if Tn T = 300 ∨ 100 < sz then none else some (Tn T, (Tn T + 1, wUp (Ty T) (Tn T) d, wUp (Tm T) (Tn T) sz))))) ∧ (¬ x4 = -1 → k_pc (f_M_add_84 σ x1 x2 x3 x4 1 ((M_made σ) x4.toNatClampNeg)) (rMw (if Tn T = 300 ∨ 100 < sz then none else some (Tn T, (Tn T + 1, wUp (Ty T) (Tn T) d, wUp (Tm T) (Tn T) sz)))))) :
    ∀ (f i : Nat), i ≤ Tn T → (∀ j, j < i → Ty T j ≠ d) → k_pc (f_M_add_3 f σ x1 x2 x3 x4 (nI i)) (rMw (wAdd T d sz)) := by
  have hn := h.2.2.1
  intro f
  induction f with
  | zero => intro i _ _; exact p_none
  | succ f ih =>
    intro i hi hq
    rw [f_M_add_3]
    unfold f_M_add_3_s
    rw [q.1]
    refine p_if (fun w => ?_) (fun w => ?_)
    · rw [nI_leI (by omega) (by omega)] at w
      have ei : i = Tn T := by omega
      subst ei
      rw [wAdd_new hq]
      exact p_if hend.1 (fun z => p_guard (fun _ => hend.2 z))
    · rw [nI_leI (by omega) (by omega)] at w
      rw [nI_clamp (show i < 2 ^ 31 by omega), nI_1]
      have nx : Ty T i ≠ d → k_pc (f_M_add_3 f σ x1 x2 x3 x4 (nI (i + 1))) (rMw (wAdd T d sz)) := by
        intro ne
        refine ih (i + 1) (by omega) (fun j hj => ?_)
        by_cases z : j = i
        · rw [z]; exact ne
        · exact hq j (by omega)
      have ki := key i (by omega)
      refine p_guard (fun _ => p_if (fun z1 => ?_) (fun z1 => nx (fun e => z1 (ki.mp e).1)))
      refine p_guard (fun _ => p_if (fun z2 => ?_) (fun z2 => nx (fun e => z2 (ki.mp e).2.1)))
      refine p_guard (fun _ => p_if (fun z3 => ?_) (fun z3 => nx (fun e => z3 (ki.mp e).2.2.1)))
      refine p_guard (fun _ => p_if (fun z4 => ?_) (fun z4 => nx (fun e => z4 (ki.mp e).2.2.2)))
      rw [wAdd_hit (by omega) (ki.mpr ⟨z1, z2, z3, z4⟩) hq]
      exact p_some ⟨rfl, q, hf⟩
theorem r_M_addNamed (h : wOK C T) (q : rMt σ T) (hf : M_full σ = 0) {c a : Nat} (hc : c < Wn C) (ho : wOk (Tn T) (Wg C c) a) : k_pc (f_M_addNamed σ (nI c) (wH a) (wTd a)) (rMw (wAdd T (1, c, a, []) (1 + (if a = 0 then 0 else Tm T (a / 4))))) := by
  have hn := h.2.2.1
  have hC := h.1.2.1
  unfold f_M_addNamed
  refine p_if (fun _ => ?_) (fun z => absurd hf z)
  refine p_bind ?_ (fun r hr => p_some hr)
  unfold f_M_add
  refine r_M_add_3 h q hf (fun i hi => rMtr_named h hi (by omega) ho (q.2 i hi)) ⟨fun z => ?_, fun z => ?_⟩ 1000 0 (by omega) (fun j hj => by omega)
  · have a0 : a = 0 := by
      rcases ho with ⟨_, e⟩ | ⟨_, x, x1, x2, x3⟩
      · exact e
      · rw [wTd_x x3] at z; exact absurd z (k_ne1 (by omega))
    subst a0
    exact r_M_add_84 h q rfl (by decide) hf (Or.inl rfl) rfl rfl rfl rfl
  · rcases ho with ⟨_, e⟩ | ⟨_, x, x1, x2, x3⟩
    · rw [e] at z; exact absurd rfl z
    · have hm := (h.2.2.2.1 x x2).2.1
      have ea : a / 4 = x := by omega
      have cx : (wTd a).toNatClampNeg = x := by rw [wTd_x x3]; exact nI_clamp (by omega)
      rw [if_neg (show ¬ a = 0 by omega), ea]
      refine r_M_add_84 h q ?_ (by omega) hf (Or.inl rfl) rfl rfl rfl rfl
      rw [cx, (q.2 x x2).2.2.2.2.1]
      exact nI_add 1 _
theorem r_M_addArray (h : wOK C T) (q : rMt σ T) (hf : M_full σ = 0) {e : Nat} (he : e < Tn T) : k_pc (f_M_addArray σ (nI e)) (rMw (wAdd T (2, e, 0, []) (1 + Tm T e))) := by
  have hn := h.2.2.1
  unfold f_M_addArray
  refine p_if (fun _ => ?_) (fun z => absurd hf z)
  refine p_bind ?_ (fun r hr => p_some hr)
  unfold f_M_add
  refine r_M_add_3 h q hf (fun i hi => rMtr_arr h hi (by omega) (q.2 i hi)) ⟨fun z => ?_, fun z => ?_⟩ 1000 0 (by omega) (fun j hj => by omega)
  · exact absurd z (k_ne1 (by omega))
  · have hm := (h.2.2.2.1 e he).2.1
    rw [nI_clamp (show e < 2 ^ 31 by omega), (q.2 e he).2.2.2.2.1]
    exact r_M_add_84 h q (nI_add 1 _) (by omega) hf (Or.inr ⟨rfl, rfl⟩) rfl rfl rfl rfl
end
