/-! The reference's first state, reckoned out. -/
abbrev M0 (x : Int32) : StM := (0, x, 0, 0, (fun _ => 0), (fun _ => 0), (fun _ => 0), (fun _ => 0), (fun _ => 0), (fun _ => 0), 0, (fun _ => 0), (fun _ => 0), (fun _ => 0), (fun _ => 0), (fun _ => 0), (fun _ => 0), (fun _ => 0), 0, 0, 0, 0, (fun _ => 0), (fun _ => 0), 0, 0, (fun _ => 0), (fun _ => 0), (fun _ => 0), (fun _ => 0), (fun _ => 0), (fun _ => 0), (fun _ => 0), (fun _ => 0), 0)
abbrev M1 (x : Int32) : StM := ((f_M_init_229 1000 (M0 x) 0).getD (0, M0 x)).2
abbrev qArg (t : Nat) (ge gc a : Int32) : Prop := (ge = 0 ∧ a = -1) ∨ (ge = 1 ∧ ((8 ≤ a.toNatClampNeg ∧ a.toNatClampNeg < t ∧ a = nI a.toNatClampNeg) ∨ (a = -2 ∧ gc = 1)))
abbrev qD (σ : StM) (c : Nat) : Nat := (M_directs σ c).toNatClampNeg
abbrev qE (σ : StM) (c k : Nat) : Nat := (M_directTo σ (30 * c + k)).toNatClampNeg
abbrev qC1 (σ : StM) (c : Nat) : Prop := (M_generic σ c = 0 ∨ M_generic σ c = 1) ∧ qD σ c ≤ c ∧ (0 < c → 0 < qD σ c) ∧ M_directs σ c = nI (qD σ c)
abbrev qC2 (σ : StM) (c k : Nat) : Prop := qE σ c k < c ∧ M_directTo σ (30 * c + k) = nI (qE σ c k) ∧ qArg 16 (M_generic σ (qE σ c k)) (M_generic σ c) (M_directArg σ (30 * c + k))
abbrev qC3 (σ : StM) (c : Nat) : Prop := (List.range (qD σ c)).all (fun l => (List.range l).all (fun k => !(M_directTo σ (30 * c + k) == M_directTo σ (30 * c + l)))) = true
abbrev qC4 (σ : StM) (c b : Nat) : Prop := bt (M_over σ c) b = (List.range (qD σ c)).any (fun k => decide (qE σ c k = b) || bt (M_over σ (qE σ c k)) b)
def qCl (σ : StM) (c : Nat) : Prop := qC1 σ c ∧ (∀ k, k < qD σ c → qC2 σ c k) ∧ qC3 σ c ∧ (∀ b, b < 32 → qC4 σ c b)
abbrev qTy (σ : StM) (i : Nat) : Prop := M_made σ i = 1 ∧ ((i < 8 ∧ M_kind σ i = 0 ∧ M_partCount σ i = 0) ∨ (8 ≤ i ∧ M_kind σ i = 1 ∧ M_partCount σ i = 1 ∧ M_partRow σ (30 * i) = nI i ∧ M_classOf σ i = nI (i - 3) ∧ M_generic σ (i - 3) = 0 ∧ M_how σ i = 0 ∧ M_inner σ i = -1))
abbrev qSm (σ : StM) (x : Int32) : Prop := M_classes σ = nI 13 ∧ M_types σ = nI 16 ∧ M_generics σ = nI 1 ∧ M_full σ = 0 ∧ M_depth σ = x ∧ M_generic σ 0 = 0 ∧ M_generic σ 1 = 0 ∧ M_generic σ 2 = 0
theorem m_some0 : (f_M_init_229 1000 (M0 (nI 0)) 0).isSome = true := by decide +kernel
theorem m_some1 : (f_M_init_229 1000 (M0 (nI 1)) 0).isSome = true := by decide +kernel
theorem m_some2 : (f_M_init_229 1000 (M0 (nI 2)) 0).isSome = true := by decide +kernel
theorem m_sm0 : qSm (M1 (nI 0)) (nI 0) := by decide +kernel
theorem m_sm1 : qSm (M1 (nI 1)) (nI 1) := by decide +kernel
theorem m_sm2 : qSm (M1 (nI 2)) (nI 2) := by decide +kernel
theorem m_ty0 : ∀ i, i < 16 → qTy (M1 (nI 0)) i := by decide +kernel
theorem m_ty1 : ∀ i, i < 16 → qTy (M1 (nI 1)) i := by decide +kernel
theorem m_ty2 : ∀ i, i < 16 → qTy (M1 (nI 2)) i := by decide +kernel
theorem m_ca0 : ∀ c, c < 13 → qC1 (M1 (nI 0)) c := by decide +kernel
theorem m_cb0 : ∀ c, c < 13 → ∀ k, k < qD (M1 (nI 0)) c → qC2 (M1 (nI 0)) c k := by decide +kernel
theorem m_cc0 : ∀ c, c < 13 → qC3 (M1 (nI 0)) c := by decide +kernel
theorem m_cd0 : ∀ c, c < 13 → ∀ b, b < 32 → qC4 (M1 (nI 0)) c b := by decide +kernel
theorem m_cl0 : ∀ c, c < 13 → qCl (M1 (nI 0)) c := fun c hc => ⟨m_ca0 c hc, m_cb0 c hc, m_cc0 c hc, m_cd0 c hc⟩
theorem m_ca1 : ∀ c, c < 13 → qC1 (M1 (nI 1)) c := by decide +kernel
theorem m_cb1 : ∀ c, c < 13 → ∀ k, k < qD (M1 (nI 1)) c → qC2 (M1 (nI 1)) c k := by decide +kernel
theorem m_cc1 : ∀ c, c < 13 → qC3 (M1 (nI 1)) c := by decide +kernel
theorem m_cd1 : ∀ c, c < 13 → ∀ b, b < 32 → qC4 (M1 (nI 1)) c b := by decide +kernel
theorem m_cl1 : ∀ c, c < 13 → qCl (M1 (nI 1)) c := fun c hc => ⟨m_ca1 c hc, m_cb1 c hc, m_cc1 c hc, m_cd1 c hc⟩
theorem m_ca2 : ∀ c, c < 13 → qC1 (M1 (nI 2)) c := by decide +kernel
theorem m_cb2 : ∀ c, c < 13 → ∀ k, k < qD (M1 (nI 2)) c → qC2 (M1 (nI 2)) c k := by decide +kernel
theorem m_cc2 : ∀ c, c < 13 → qC3 (M1 (nI 2)) c := by decide +kernel
theorem m_cd2 : ∀ c, c < 13 → ∀ b, b < 32 → qC4 (M1 (nI 2)) c b := by decide +kernel
theorem m_cl2 : ∀ c, c < 13 → qCl (M1 (nI 2)) c := fun c hc => ⟨m_ca2 c hc, m_cb2 c hc, m_cc2 c hc, m_cd2 c hc⟩
theorem m_init {σ : StM} {d : Nat} (hd : d ≤ 2) (h1 : qSm σ (nI d)) (h2 : ∀ i, i < 16 → qTy σ i) (h3 : ∀ c, c < 13 → qCl σ c) : kN σ 13 1 d 16 := by
  obtain ⟨s1, s2, s3, s4, s5, s6, s7, s8⟩ := h1
  refine ⟨⟨⟨s1, by omega, by omega, ?_, ?_⟩, s2, by omega, by omega, ?_, ?_⟩, s3, by omega, s4, s5, hd⟩
  · intro c hc
    rcases (show c = 0 ∨ c = 1 ∨ c = 2 by omega) with e | e | e
    · subst e; exact s6
    · subst e; exact s7
    · subst e; exact s8
  · intro c hc
    obtain ⟨⟨q0, q1, q2, q3⟩, q4, q5, q6⟩ := h3 c hc
    refine ⟨q0, qD σ c, q1, q2, q3, ?_, ?_, ?_⟩
    · intro k hk
      obtain ⟨p1, p2, p3⟩ := q4 k hk
      refine ⟨qE σ c k, p1, p2, ?_⟩
      rcases p3 with p3 | ⟨p3, ⟨p4, p5, p6⟩ | p4⟩
      · exact Or.inl p3
      · exact Or.inr ⟨p3, Or.inl ⟨_, p4, p5, p6⟩⟩
      · exact Or.inr ⟨p3, Or.inr p4⟩
    · intro k l hk hl
      have w := List.all_eq_true.mp q5 l (List.mem_range.mpr hl)
      have w2 := List.all_eq_true.mp w k (List.mem_range.mpr hk)
      intro e
      rw [e] at w2
      simp at w2
    · intro b hb
      rw [q6 b hb, List.any_eq_true]
      constructor
      · rintro ⟨k, k1, k2⟩
        rw [List.mem_range] at k1
        rw [Bool.or_eq_true, decide_eq_true_iff] at k2
        obtain ⟨p1, p2, _⟩ := q4 k k1
        exact ⟨k, qE σ c k, k1, p1, p2, k2⟩
      · rintro ⟨k, e, k1, k2, k3, k4⟩
        have ee : qE σ c k = e := by
          show (M_directTo σ (30 * c + k)).toNatClampNeg = e
          rw [k3]; exact nI_clamp (by omega)
        refine ⟨k, List.mem_range.mpr k1, ?_⟩
        rw [Bool.or_eq_true, decide_eq_true_iff, ee]; exact k4
  · intro i hi
    obtain ⟨q0, q1 | ⟨q1, q2, q3, q4, q5, q6, q7, q8⟩⟩ := h2 i hi
    · exact ⟨⟨1, by omega, by omega, q0⟩, Or.inl q1⟩
    · exact ⟨⟨1, by omega, by omega, q0⟩, Or.inr (Or.inl ⟨q1, q2, q3, q4, i - 3, by omega, q5, Or.inl ⟨q6, q7, q8⟩⟩)⟩
  · intro i h8 h16
    obtain ⟨_, q1 | q1⟩ := h2 i h16
    · omega
    · exact q1.2.1
theorem m_kn0 : kN (M1 (nI 0)) 13 1 0 16 := m_init (σ := M1 (nI 0)) (d := 0) (by decide) m_sm0 m_ty0 m_cl0
theorem m_kn1 : kN (M1 (nI 1)) 13 1 1 16 := m_init (σ := M1 (nI 1)) (d := 1) (by decide) m_sm1 m_ty1 m_cl1
theorem m_kn2 : kN (M1 (nI 2)) 13 1 2 16 := m_init (σ := M1 (nI 2)) (d := 2) (by decide) m_sm2 m_ty2 m_cl2
theorem m_ok {o : Option (Int32 × StM)} {z : Int32 × StM} {P : StM → Prop} (h : o.isSome = true) (hp : P (o.getD z).2) : k_ok o (fun r => P r.2) := by
  cases o with
  | none => cases h
  | some r => exact ⟨r, rfl, hp⟩
theorem i0_M (x1 : Int32) {d : Nat} (hd : d ≤ 2) (hx : (0 ≤ x1 ∧ x1 ≤ 2 ∧ x1 = nI d) ∨ (0 ≤ x1 ∧ ¬ x1 ≤ 2 ∧ d = 2) ∨ (¬ 0 ≤ x1 ∧ d = 0)) : k_ok (f_M_init_205 (M0 0) x1) (fun r => kN r.2 13 1 d 16) := by
  have all : ∀ d, d ≤ 2 → k_ok (f_M_init_229 1000 (M0 (nI d)) 0) (fun r => kN r.2 13 1 d 16) := by
    intro d hd
    rcases (show d = 0 ∨ d = 1 ∨ d = 2 by omega) with e | e | e
    · subst e; exact m_ok (P := fun σ => kN σ 13 1 0 16) (z := (0, M0 (nI 0))) m_some0 m_kn0
    · subst e; exact m_ok (P := fun σ => kN σ 13 1 1 16) (z := (0, M0 (nI 1))) m_some1 m_kn1
    · subst e; exact m_ok (P := fun σ => kN σ 13 1 2 16) (z := (0, M0 (nI 2))) m_some2 m_kn2
  unfold f_M_init_205
  rcases hx with ⟨w1, w2, w3⟩ | ⟨w1, w2, w3⟩ | ⟨w1, w3⟩
  · rw [if_pos w1, if_pos w2, w3]
    exact all d hd
  · rw [if_pos w1, if_neg w2]
    subst w3
    exact all 2 hd
  · rw [if_neg w1]
    subst w3
    exact all 0 hd
