/-! Tier 3: the reference's tables of types hold the numbers; it adds types. -/
def rMtr (μ : StM) (T : wWt) (i : Nat) : Prop := M_kind μ i = nI (dK (Ty T i)) ∧ M_classOf μ i = (if dK (Ty T i) = 1 then nI (dX (Ty T i)) else -1) ∧ M_how μ i = (if dK (Ty T i) = 1 then wH (dA (Ty T i)) else -1) ∧ M_inner μ i = (if dK (Ty T i) = 1 then wTd (dA (Ty T i)) else if dK (Ty T i) = 2 then nI (dX (Ty T i)) else -1) ∧ M_made μ i = nI (Tm T i) ∧ M_partCount μ i = nI (wPc (Ty T i)) ∧ (∀ k (hk : k < (wPs T i).length), M_partRow μ (30 * i + k) = nI (wPs T i)[k])
def rMt (μ : StM) (T : wWt) : Prop := M_types μ = nI (Tn T) ∧ ∀ i, i < Tn T → rMtr μ T i
theorem rMtr_eq {σ τ : StM} {T T' : wWt} {i : Nat} (h : rMtr σ T i) (e : kEq i σ τ) (eT : Ty T' i = Ty T i) (eM : Tm T' i = Tm T i) (hl : (wPs T i).length ≤ 30) : rMtr τ T' i := by
  obtain ⟨h1, h2, h3, h4, h5, h6, h7⟩ := h
  obtain ⟨e1, e2, e3, e4, e5, e6, e7⟩ := e
  have ep : wPs T' i = wPs T i := by unfold wPs; rw [eT]
  refine ⟨?_, ?_, ?_, ?_, ?_, ?_, ?_⟩
  · rw [e1, eT]; exact h1
  · rw [e2, eT]; exact h2
  · rw [e3, eT]; exact h3
  · rw [e4, eT]; exact h4
  · rw [e5, eM]; exact h5
  · rw [e6, eT]; exact h6
  · intro k hk
    have hk' : k < (wPs T i).length := by rw [← ep]; exact hk
    rw [e7 k (by omega), h7 k hk']
    congr 1
    simp [ep]
def rMw (o : Option (Nat × wWt)) (r : Int32 × StM) : Prop := match o with
  | none => r.1 = 0 ∧ M_full r.2 = 1
  | some x => r.1 = nI x.1 ∧ rMt r.2 x.2 ∧ M_full r.2 = 0
section
variable {σ : StM} {C : wWc} {T : wWt} {g : Nat}
theorem kMC_of (h : wOK C T) (r : rMc σ C g) : kMC σ (Wn C) (Tn T) := by
  have hb : ∀ b : Bool, b2 b = 0 ∨ b2 b = 1 := by intro b; cases b <;> decide
  refine ⟨r.1, h.1.1, h.1.2.1, fun c hc => ?_, fun c hc => ?_⟩
  · rw [(r.2.2 c (by have := h.1.1; omega)).2.1, h.1.2.2.2.2.2.2.2.1 c hc]; rfl
  · obtain ⟨r1, r2, r3, r4, r5⟩ := r.2.2 c hc
    obtain ⟨d1, d2⟩ := h.1.2.2.1 c hc
    refine ⟨by rw [r2]; exact hb _, Wd C c, d1, d2, r3, fun k hk => ?_, fun k l hkl hl => ?_, fun b hb => ?_⟩
    · obtain ⟨q1, q2⟩ := h.1.2.2.2.1 c k hc hk
      refine ⟨Wo C c k, q1, (r4 k hk).1, ?_⟩
      rw [(r.2.2 (Wo C c k) (by omega)).2.1, r2, (r4 k hk).2]
      rcases q2 with ⟨w1, w2⟩ | ⟨w1, ⟨x, x1, x2, x3⟩ | ⟨w2, w3⟩⟩
      · rw [w1, w2]; exact Or.inl ⟨rfl, rfl⟩
      · rw [w1, x3]
        refine Or.inr ⟨rfl, Or.inl ⟨x, x1, x2, ?_⟩⟩
        unfold wTd
        rw [if_neg (by omega), if_neg (by omega)]; congr 1; omega
      · rw [w1, w2, w3]; exact Or.inr ⟨rfl, Or.inr ⟨rfl, rfl⟩⟩
    · have := h.1.2.2.2.2.1 c k l hc hkl hl
      have p1 := (h.1.2.2.2.1 c k hc (by omega)).1
      have p2 := (h.1.2.2.2.1 c l hc hl).1
      have hn := h.1.2.1
      rw [(r4 k (by omega)).1, (r4 l hl).1]
      intro e
      rw [nI_eq (by omega) (by omega)] at e
      exact this e
    · rw [r5 b hb, h.1.2.2.2.2.2.1 c b hc]
      have hn := h.1.2.1
      constructor
      · rintro ⟨k, k1, k2⟩
        have p1 := (h.1.2.2.2.1 c k hc k1).1
        refine ⟨k, Wo C c k, k1, p1, (r4 k k1).1, ?_⟩
        rw [(r.2.2 (Wo C c k) (by omega)).2.2.2.2 b hb]
        by_cases e : Wo C c k = b
        · exact Or.inl e
        · exact Or.inr (wTw_ne k2 e)
      · rintro ⟨k, e, k1, k2, k3, k4⟩
        have p1 := (h.1.2.2.2.1 c k hc k1).1
        rw [(r4 k k1).1, nI_eq (by omega) (by omega)] at k3
        subst k3
        refine ⟨k, k1, ?_⟩
        rw [(r.2.2 (Wo C c k) (by omega)).2.2.2.2 b hb] at k4
        rcases k4 with e | e
        · rw [e]; exact wTw_self b
        · exact wTw_up e
theorem wTd_x {x a : Nat} (h : a = 4 * x + 1 ∨ a = 4 * x + 2) : wTd a = nI x := by
  unfold wTd
  by_cases z : a = 3
  · omega
  · rw [if_neg (by omega), if_neg z]; congr 1; omega
theorem wH_x {x a : Nat} (h : a = 4 * x + 1) : wH a = 1 := by
  unfold wH
  rw [if_neg (by omega), if_neg (by omega), show a % 4 = 1 by omega]; rfl
theorem wH_y {x a : Nat} (h : a = 4 * x + 2) : wH a = 2 := by
  unfold wH
  rw [if_neg (by omega), if_neg (by omega), show a % 4 = 2 by omega]; rfl
theorem kMT_of (h : wOK C T) (r : rMc σ C g) (q : rMt σ T) : kMT σ (Wn C) (Tn T) := by
  refine ⟨q.1, h.2.1, h.2.2.1, fun i hi => ?_, fun i h8 h16 => ?_⟩
  · obtain ⟨q1, q2, q3, q4, q5, q6, q7⟩ := q.2 i hi
    obtain ⟨m1, m2, h1 | ⟨h0, c, a, h1, h2, h3, h4⟩ | ⟨h0, e, h1, h2, h3⟩ | ⟨h0, l, h1, h2, h3, h4, h5, h6⟩⟩ := h.2.2.2.1 i hi
    · refine ⟨⟨Tm T i, m1, m2, q5⟩, Or.inl ⟨h1.1, ?_, ?_⟩⟩
      · rw [q1, h1.2.1]; rfl
      · rw [q6, h1.2.1]; rfl
    · have ep : wPs T i = [i] := by unfold wPs; rw [if_pos (by rw [h1])]
      refine ⟨⟨Tm T i, m1, m2, q5⟩, Or.inr (Or.inl ⟨h0, ?_, ?_, ?_, c, h2, ?_, ?_⟩)⟩
      · rw [q1, h1]; rfl
      · rw [q6, h1]; rfl
      · have := q7 0 (by rw [ep]; simp)
        rw [show 30 * i + 0 = 30 * i by omega] at this
        rw [this]; simp [ep]
      · rw [q2, h1]; rfl
      · rw [q3, q4, h1, (r.2.2 c h2).2.1]
        show kOwn i (b2 (Wg C c)) (wH a) (wTd a)
        rcases h3 with ⟨w1, w2⟩ | ⟨w1, x, x1, x2, x3⟩
        · rw [w1, w2]; exact Or.inl ⟨rfl, rfl, rfl⟩
        · rw [w1, wTd_x x3]
          refine Or.inr ⟨rfl, ?_, x, x1, x2, rfl⟩
          rcases x3 with x3 | x3
          · exact Or.inl (wH_x x3)
          · exact Or.inr (wH_y x3)
    · refine ⟨⟨Tm T i, m1, m2, q5⟩, Or.inr (Or.inr (Or.inl ⟨h0, ?_, ?_, e, Tm T e, h2, ?_, ?_, ?_⟩))⟩
      · rw [q1, h1]; rfl
      · rw [q6, h1]; rfl
      · rw [q4, h1]; rfl
      · exact (q.2 e (by omega)).2.2.2.2.1
      · rw [q5, h3, Nat.add_comm]
    · have ep : wPs T i = l := by unfold wPs; rw [h1]; rfl
      refine ⟨⟨Tm T i, m1, m2, q5⟩, Or.inr (Or.inr (Or.inr ⟨h0, ?_, l.length, h3, ?_, fun k hk => ?_⟩))⟩
      · rw [q1, h1]; rfl
      · rw [q6, h1]; rfl
      · obtain ⟨p1, p2, p3⟩ := h4 l[k] (List.getElem_mem hk)
        refine ⟨l[k], p2, p1, ?_, ?_⟩
        · rw [q7 k (by rw [ep]; exact hk)]; congr 1; simp [ep]
        · rw [(q.2 l[k] (by omega)).1, p3]; rfl
  · have := h.2.1
    rw [(q.2 i (by omega)).1, h.2.2.2.2 i h8 h16]; rfl
theorem kM_of (h : wOK C T) (r : rMc σ C g) (q : rMt σ T) : kM σ (Wn C) (Tn T) := ⟨kMC_of h r, kMT_of h r q⟩
theorem rMt_new (h : wTok C T) {τ : StM} {d : wDs} {sz : Nat} (q : rMt σ T) (ha : kAg (Tn T) σ τ) (e0 : M_types τ = nI (Tn T + 1)) (e : rMtr τ (Tn T + 1, wUp (Ty T) (Tn T) d, wUp (Tm T) (Tn T) sz) (Tn T)) : rMt τ (Tn T + 1, wUp (Ty T) (Tn T) d, wUp (Tm T) (Tn T) sz) := by
  refine ⟨e0, fun i hi => ?_⟩
  replace hi : i < Tn T + 1 := hi
  by_cases z : i = Tn T
  · rw [z]; exact e
  · exact rMtr_eq (q.2 i (by omega)) (ha i (by omega)) (wUp_n z) (wUp_n z) (by rw [wPs_len h (show i < Tn T by omega)]; exact wPc_le h (by omega))
theorem r_M_add_84 (h : wOK C T) (q : rMt σ T) {x1 x2 x3 x4 t0 t1 : Int32} {sz : Nat} (es : t0 + t1 = nI sz) (hs : sz < 1000) (hf : M_full σ = 0) {d : wDs} (hd : dK d = 1 ∨ dK d = 2 ∧ dL d = []) (y1 : x1 = nI (dK d)) (y2 : x2 = (if dK d = 1 then nI (dX d) else -1)) (y3 : x3 = (if dK d = 1 then wH (dA d) else -1)) (y4 : x4 = (if dK d = 1 then wTd (dA d) else if dK d = 2 then nI (dX d) else -1)) :
    k_pc (f_M_add_84 σ x1 x2 x3 x4 t0 t1) (rMw (if Tn T = 300 ∨ 100 < sz then none else some (Tn T, (Tn T + 1, wUp (Ty T) (Tn T) d, wUp (Tm T) (Tn T) sz)))) := by
  have hn := h.2.2.1
  have e : M_types σ = nI (Tn T) := q.1
  have cl : (M_types σ).toNatClampNeg = Tn T := by rw [e]; exact nI_clamp (by omega)
  have em : 30 * M_types σ = nI (30 * Tn T) := by rw [e]; exact k_mul 30 _
  have cm : (30 * M_types σ).toNatClampNeg = 30 * Tn T := by rw [em]; exact nI_clamp (by omega)
  have t1' : Ty (Tn T + 1, wUp (Ty T) (Tn T) d, wUp (Tm T) (Tn T) sz) (Tn T) = d := wUp_s
  have t2' : Tm (Tn T + 1, wUp (Ty T) (Tn T) d, wUp (Tm T) (Tn T) sz) (Tn T) = sz := wUp_s
  have fin : ∀ (τ : StM) (y : Int32), ¬ (Tn T = 300 ∨ 100 < sz) → y = nI (wPc d) → M_types τ = M_types σ → M_full τ = 0 → M_kind τ = upd (M_kind σ) (M_types σ).toNatClampNeg x1 → M_classOf τ = upd (M_classOf σ) (M_types σ).toNatClampNeg x2 → M_how τ = upd (M_how σ) (M_types σ).toNatClampNeg x3 → M_inner τ = upd (M_inner σ) (M_types σ).toNatClampNeg x4 → M_made τ = upd (M_made σ) (M_types σ).toNatClampNeg (t0 + t1) → M_partCount τ = M_partCount σ → M_partRow τ = M_partRow σ →
      k_pc (f_M_add_181 τ (M_types τ) y) (rMw (if Tn T = 300 ∨ 100 < sz then none else some (Tn T, (Tn T + 1, wUp (Ty T) (Tn T) d, wUp (Tm T) (Tn T) sz)))) := by
    intro τ y hno hy e0 ef e1 e2 e3 e4 e5 e6 e7
    rw [cl] at e1 e2 e3 e4 e5
    rw [es] at e5
    rw [if_neg hno]
    unfold f_M_add_181
    refine p_guard (fun _ => p_guard (fun _ => p_some ⟨?_, ?_, ef⟩))
    · show M_types τ + 1 - 1 = nI (Tn T)
      rw [e0, e, nI_1]; exact nI_pred _
    · refine rMt_new h.2 q (fun i hi => ⟨?_, ?_, ?_, ?_, ?_, ?_, ?_⟩) ?_ ⟨?_, ?_, ?_, ?_, ?_, ?_, ?_⟩
      · show M_kind τ i = _; rw [e1]; exact k_u hi
      · show M_classOf τ i = _; rw [e2]; exact k_u hi
      · show M_how τ i = _; rw [e3]; exact k_u hi
      · show M_inner τ i = _; rw [e4]; exact k_u hi
      · show M_made τ i = _; rw [e5]; exact k_u hi
      · show upd (M_partCount τ) (M_types τ).toNatClampNeg y i = _; rw [e0, cl, e6]; exact k_u hi
      · intro k hk
        show upd (M_partRow τ) (30 * M_types τ).toNatClampNeg (M_types τ) (30 * i + k) = _
        rw [e0, cm, e7]; exact k_u (by omega)
      · show M_types τ + 1 = _
        rw [e0, e]; exact nI_1 _
      · rw [t1']; show M_kind τ (Tn T) = _; rw [e1, k_upds]; exact y1
      · rw [t1']; show M_classOf τ (Tn T) = _; rw [e2, k_upds]; exact y2
      · rw [t1']; show M_how τ (Tn T) = _; rw [e3, k_upds]; exact y3
      · rw [t1']; show M_inner τ (Tn T) = _; rw [e4, k_upds]; exact y4
      · rw [t2']; show M_made τ (Tn T) = _; rw [e5, k_upds]
      · rw [t1']; show upd (M_partCount τ) (M_types τ).toNatClampNeg y (Tn T) = _; rw [e0, cl, k_upds]; exact hy
      · intro k hk
        show upd (M_partRow τ) (30 * M_types τ).toNatClampNeg (M_types τ) (30 * Tn T + k) = _
        rcases hd with hd | ⟨hd, hd2⟩
        · have ep : wPs (Tn T + 1, wUp (Ty T) (Tn T) d, wUp (Tm T) (Tn T) sz) (Tn T) = [Tn T] := by
            unfold wPs; rw [t1', if_pos hd]
          have k0 : k = 0 := by rw [ep] at hk; simpa using hk
          subst k0
          rw [e0, cm, show 30 * Tn T + 0 = 30 * Tn T by omega, k_upds, e]
          congr 1; simp [ep]
        · have ep : wPs (Tn T + 1, wUp (Ty T) (Tn T) d, wUp (Tm T) (Tn T) sz) (Tn T) = [] := by
            unfold wPs; rw [t1', if_neg (by omega), hd2]
          rw [ep] at hk
          exact absurd hk (by simp)
  have fl : (Tn T = 300 ∨ 100 < sz) → k_pc (f_M_add_104 σ) (rMw (if Tn T = 300 ∨ 100 < sz then none else some (Tn T, (Tn T + 1, wUp (Ty T) (Tn T) d, wUp (Tm T) (Tn T) sz)))) := by
    intro w
    rw [if_pos w]
    exact p_some ⟨rfl, rfl⟩
  unfold f_M_add_84
  refine p_if (fun w => fl (Or.inl ?_)) (fun w => ?_)
  · have w2 : nI (Tn T) = nI 300 := by rw [← e]; exact w
    rw [nI_eq (by omega) (by decide)] at w2
    exact w2
  · have w2 : ¬ nI (Tn T) = nI 300 := by rw [← e]; exact w
    rw [nI_eq (by omega) (by decide)] at w2
    refine p_if (fun z => ?_) (fun z => fl (Or.inr ?_))
    · have z2 : nI sz ≤ nI 100 := by rw [← es]; exact z
      rw [nI_leI (by omega) (by decide)] at z2
      have hno : ¬ (Tn T = 300 ∨ 100 < sz) := by omega
      refine p_guard (fun _ => p_guard (fun _ => p_guard (fun _ => p_guard (fun _ => p_guard (fun _ => p_if (fun v => ?_) (fun v => ?_))))))
      · refine fin _ 1 hno ?_ rfl hf rfl rfl rfl rfl rfl rfl rfl
        rcases hd with hd | ⟨hd, _⟩
        · unfold wPc; rw [if_pos hd]; rfl
        · rw [y1, hd] at v; exact absurd v (by decide)
      · refine fin _ 0 hno ?_ rfl hf rfl rfl rfl rfl rfl rfl rfl
        rcases hd with hd | ⟨hd, hd2⟩
        · rw [y1, hd] at v; exact absurd rfl v
        · unfold wPc; rw [if_neg (by omega), hd2]; rfl
    · have z2 : ¬ nI sz ≤ nI 100 := by rw [← es]; exact z
      rw [nI_leI (by omega) (by decide)] at z2
      omega
end
