/-! Tier 3: side by side: above, both whole. -/
section
variable {σ : StL} {μ : StM} {C : wWc} {T : wWt} {g d c to : Nat} {x2 : Int32}
theorem p_Mabove_thr (hM : RM μ C g T d) {x1 x2 x3 x6 : Int32} (hx : ¬ x6 = 0) : k_pc (f_M_above_216 μ x1 x2 x3 x6) (fun q => M_code q.2 = x6 ∧ RM q.2 C g T d) := by
  have hMt : RM (M_set_code μ x6) C g T d := hM
  unfold f_M_above_216
  refine p_good (fun q => absurd q hx) (fun _ => ?_)
  exact p_if (fun _ => p_some ⟨rfl, hMt⟩) (fun q => absurd rfl q)
/-- not told of a class, or of no type -/
theorem p_Mabove_27 (h : RW C g T d) (hM : RM μ C g T d) (x1 x2 x3 : Int32) : k_pc (f_M_above_27 μ x1 x2 x3) (fun q => M_code q.2 = 1 ∧ RM q.2 C g T d) := by
  have bad : ∀ t0 : Int32, k_pc (f_M_above_73 μ x1 x2 x3 0 t0) (fun q => M_code q.2 = 1 ∧ RM q.2 C g T d) := by
    intro t0
    unfold f_M_above_73
    rw [if_pos rfl]
    exact p_Mabove_thr hM (by decide)
  unfold f_M_above_27 f_M_above_28 f_M_above_72
  refine p_guard (fun _ => p_if (fun _ => bad _) (fun _ => p_guard (fun _ => p_if (fun _ => bad _) (fun _ => p_guard (fun _ => p_guard (fun _ => p_if (fun _ => bad _) (fun _ => bad _)))))))
/-- who may get whom -/
theorem p_Mabove_28 (h : RW C g T d) (hM : RM μ C g T d) (hc : c + 1 = Wn C) (hto : to < Wn C) {Q : Int32 × StM → Prop} (q1 : ¬ wMay C c to → k_pc (f_M_above_216 μ (nI to) x2 (nI c) 2) Q)
    (q2 : wMay C c to → k_pc (if x2 < -2 then f_M_above_197 μ (nI to) x2 (nI c) else if x2 < 0 then f_M_above_163 μ (nI to) x2 (nI c) 0 else if x2 < 8 then f_M_above_197 μ (nI to) x2 (nI c) else f_M_above_163 μ (nI to) x2 (nI c) 0) Q) : k_pc (f_M_above_28 μ (nI to) x2 (nI c) 1) Q := by
  have hn := RW_not h
  have hcC : c < Wn C := by omega
  have hd0 := (h.1.1.2.2.1 c hcC).2 (by omega)
  have hdc := (h.1.1.2.2.1 c hcC).1
  have ho := (h.1.1.2.2.2.1 c 0 hcC hd0).1
  have cc : (nI c).toNatClampNeg = c := nI_clamp (by omega)
  have ct : (nI to).toNatClampNeg = to := nI_clamp (by omega)
  have c30 : (30 * nI c).toNatClampNeg = 30 * c := by
    show (nI 30 * nI c).toNatClampNeg = _
    rw [k_mul]; exact nI_clamp (by omega)
  have rm := hM.1.2.2 c hcC
  have rt := hM.1.2.2 to hto
  have m132 : 13 ≤ c → to ≠ c → (Wf C to = false → Wf C c = false ∧ Wo C c 0 = 0) → k_pc (f_M_above_132 μ (nI to) x2 (nI c) 0) Q := by
    intro a1 a2 a3
    unfold f_M_above_132
    unfold f_M_hasDirect
    refine p_bind (r_M_hasDirect_5 h.1 hM.1 hcC hto 1000 0 0 (by omega) (Or.inl ⟨rfl, fun j hj => by omega⟩)) ?_
    intro v hv
    refine p_if (fun z => q2 ⟨a1, a2, a3, hv.mp z⟩) (fun z => ?_)
    exact q1 (fun w => z (hv.mpr w.2.2.2))
  have m118 : ∀ x5 : Int32, 13 ≤ c → to ≠ c → (Wf C to = false → Wf C c = false) → ((x5 = 0 ∧ Wo C c 0 = 0) ∨ (x5 = 1 ∧ Wo C c 0 ≠ 0)) → k_pc (f_M_above_118 μ (nI to) x2 (nI c) x5 0) Q := by
    intro x5 a1 a2 a3 a4
    unfold f_M_above_118
    refine p_if (fun z => ?_) (fun z => p_guard (fun _ => ?_))
    · rcases a4 with ⟨_, e⟩ | ⟨e, _⟩
      · exact m132 a1 a2 (fun q => ⟨a3 q, e⟩)
      · rw [z] at e; exact absurd e (by decide)
    · rcases a4 with ⟨e, _⟩ | ⟨_, e⟩
      · exact absurd e z
      · rw [ct, rt.1]
        refine p_if (fun w => q1 (fun m => e (m.2.2.1 (b2_0.mp w)).2)) (fun w => m132 a1 a2 (fun q => ?_))
        rw [q] at w; exact absurd rfl w
  have m73 : ∀ x5 : Int32, (13 ≤ c → (x5 = 0 ∧ Wo C c 0 = 0) ∨ (x5 = 1 ∧ Wo C c 0 ≠ 0)) → k_pc (f_M_above_73 μ (nI to) x2 (nI c) 1 x5) Q := by
    intro x5 a4
    unfold f_M_above_73
    rw [if_neg (by decide)]
    refine p_if (fun z => ?_) (fun z => p_if (fun y => ?_) (fun y => ?_))
    · have z2 : nI c < nI 13 := z
      rw [nI_ltI (by omega) (by decide)] at z2
      exact q1 (fun m => by have := m.1; omega)
    · rw [nI_eq (by omega) (by omega)] at y
      exact q1 (fun m => m.2.1 y)
    · have z2 : ¬ nI c < nI 13 := z
      rw [nI_ltI (by omega) (by decide)] at z2
      rw [nI_eq (by omega) (by omega)] at y
      refine p_guard (fun _ => ?_)
      rw [cc, rm.1]
      refine p_if (fun w => m118 x5 (by omega) y (fun _ => b2_0.mp w) (a4 (by omega))) (fun w => p_guard (fun _ => ?_))
      rw [ct, rt.1]
      refine p_if (fun w2 => q1 (fun m => w ?_)) (fun w2 => m118 x5 (by omega) y (fun q => ?_) (a4 (by omega)))
      · rw [(m.2.2.1 (b2_0.mp w2)).1]; rfl
      · rw [q] at w2; exact absurd rfl w2
  unfold f_M_above_28 f_M_above_72
  refine p_guard (fun _ => ?_)
  rw [cc, rm.2.2.1]
  refine p_if (fun z => ?_) (fun z => p_guard (fun _ => ?_))
  · have z2 : nI (Wd C c) ≤ nI 0 := z
    rw [nI_leI (by omega) (by decide)] at z2
    omega
  rw [c30]
  have e0 : M_directTo μ (30 * c) = nI (Wo C c 0) := (rm.2.2.2.1 0 hd0).1
  rw [e0]
  refine p_if (fun z => m73 0 (fun _ => Or.inl ⟨rfl, ?_⟩)) (fun z => p_guard (fun _ => p_guard (fun _ => ?_)))
  · have z2 : nI (Wo C c 0) = nI 0 := z
    rw [nI_eq (by omega) (by decide)] at z2
    exact z2
  · have z2 : ¬ nI (Wo C c 0) = nI 0 := z
    rw [nI_eq (by omega) (by decide)] at z2
    rw [show (nI (Wo C c 0)).toNatClampNeg = Wo C c 0 from nI_clamp (by omega), (hM.1.2.2 (Wo C c 0) (by omega)).1]
    refine p_if (fun w => m73 1 (fun _ => Or.inr ⟨rfl, z2⟩)) (fun w => m73 0 (fun q => ?_))
    rw [h.2.2.2.2 c q hcC] at w; exact absurd rfl w
/-- what may be told -/
theorem p_Mabove_mid (h : RW C g T d) (hM : RM μ C g T d) (hc : c + 1 = Wn C) (hto : to < Wn C) (hx : x2 < 0 ∨ ∃ x, x < Tn T ∧ x2 = nI x) {Q : Int32 × StM → Prop} (q1 : ¬ wTel C (Tn T) c to x2 → k_pc (f_M_above_216 μ (nI to) x2 (nI c) 3) Q)
    (q2 : ∀ A, x2 = wTd A → wArOk C (Tn T) c to A → k_pc (f_M_above_203 μ (nI to) x2 (nI c) 0) Q) : k_pc (if x2 < -2 then f_M_above_197 μ (nI to) x2 (nI c) else if x2 < 0 then f_M_above_163 μ (nI to) x2 (nI c) 0 else if x2 < 8 then f_M_above_197 μ (nI to) x2 (nI c) else f_M_above_163 μ (nI to) x2 (nI c) 0) Q := by
  have hn := RW_not h
  have hcC : c < Wn C := by omega
  have cc : (nI c).toNatClampNeg = c := nI_clamp (by omega)
  have ct : (nI to).toNatClampNeg = to := nI_clamp (by omega)
  have rm := hM.1.2.2 c hcC
  have rt := hM.1.2.2 to hto
  -- told means one of three
  have tel : wTel C (Tn T) c to x2 ↔ ((Wg C to = false ∧ x2 = -1) ∨ (Wg C to = true ∧ ((x2 = -2 ∧ Wg C c = true) ∨ ∃ x, 8 ≤ x ∧ x < Tn T ∧ x2 = nI x))) := by
    constructor
    · rintro ⟨A, e, ⟨o1, o2⟩ | ⟨o1, ⟨x, x1, x2', x3⟩ | ⟨o2, o3⟩⟩⟩
      · rw [o2] at e; exact Or.inl ⟨o1, e⟩
      · rw [wTd_x (Or.inl x3)] at e; exact Or.inr ⟨o1, Or.inr ⟨x, x1, x2', e⟩⟩
      · rw [o2] at e; exact Or.inr ⟨o1, Or.inl ⟨e, o3⟩⟩
    · rintro (⟨o1, e⟩ | ⟨o1, ⟨e, o3⟩ | ⟨x, x1, x2', e⟩⟩)
      · exact ⟨0, e, Or.inl ⟨o1, rfl⟩⟩
      · exact ⟨3, e, Or.inr ⟨o1, Or.inr ⟨rfl, o3⟩⟩⟩
      · exact ⟨4 * x + 1, e.trans (wTd_x (Or.inl rfl)).symm, Or.inr ⟨o1, Or.inl ⟨x, x1, x2', rfl⟩⟩⟩
  have go : wTel C (Tn T) c to x2 → k_pc (f_M_above_203 μ (nI to) x2 (nI c) 0) Q := by
    rintro ⟨A, e, ok⟩
    exact q2 A e ok
  have i1 : ((-1 : Int32)).toInt = -1 := by decide
  have i2 : ((-2 : Int32)).toInt = -2 := by decide
  have m163 : (x2 = -1 ∨ x2 = -2 ∨ ∃ x, 8 ≤ x ∧ x < Tn T ∧ x2 = nI x) → k_pc (f_M_above_163 μ (nI to) x2 (nI c) 0) Q := by
    intro a
    unfold f_M_above_163 f_M_above_179 f_M_above_197
    refine p_guard (fun _ => ?_)
    rw [ct, cc, rt.2.1, rm.2.1]
    refine p_if (fun e => ?_) (fun e => ?_)
    · have ne2 : ¬ x2 = -2 := by rw [e]; decide
      refine p_if (fun w => q1 ?_) (fun w => p_if (fun w2 => absurd w2 ne2) (fun _ => go ?_))
      · have wg : Wg C to = true := b2_1.mp w
        rw [tel]
        rintro (⟨o, _⟩ | ⟨_, ⟨e2, _⟩ | ⟨x, x1, x2', e2⟩⟩)
        · rw [wg] at o; cases o
        · exact ne2 e2
        · rw [e] at e2; exact absurd e2.symm (k_ne1 (by omega))
      · have wg : Wg C to = false := by
          cases q : Wg C to with
          | false => rfl
          | true => rw [q] at w; exact absurd rfl w
        exact tel.mpr (Or.inl ⟨wg, e⟩)
    · refine p_if (fun w => q1 ?_) (fun w => ?_)
      · have wg : Wg C to = false := b2_0.mp w
        rw [tel]
        rintro (⟨_, e2⟩ | ⟨o, _⟩)
        · exact e e2
        · rw [wg] at o; cases o
      · have wg : Wg C to = true := by
          cases q : Wg C to with
          | true => rfl
          | false => rw [q] at w; exact absurd rfl w
        refine p_if (fun e2 => p_guard (fun _ => p_if (fun w2 => q1 ?_) (fun w2 => go ?_))) (fun e2 => go ?_)
        · have wc : Wg C c = false := b2_0.mp w2
          rw [tel]
          rintro (⟨o, _⟩ | ⟨_, ⟨_, o⟩ | ⟨x, x1, x2', e3⟩⟩)
          · rw [wg] at o; cases o
          · rw [wc] at o; cases o
          · rw [e2] at e3; exact absurd e3.symm (k_ne2 (by omega))
        · have wc : Wg C c = true := by
            cases q : Wg C c with
            | true => rfl
            | false => rw [q] at w2; exact absurd rfl w2
          exact tel.mpr (Or.inr ⟨wg, Or.inl ⟨e2, wc⟩⟩)
        · rcases a with a | a | a
          · exact absurd a e
          · exact absurd a e2
          · exact tel.mpr (Or.inr ⟨wg, Or.inr a⟩)
  unfold f_M_above_197
  refine p_if (fun z => q1 ?_) (fun z => p_if (fun y => m163 ?_) (fun y => p_if (fun w => q1 ?_) (fun w => m163 ?_)))
  · rw [Int32.lt_iff_toInt_lt, i2] at z
    rw [tel]
    rintro (⟨_, e2⟩ | ⟨_, ⟨e2, _⟩ | ⟨x, x1, x2', e3⟩⟩)
    · rw [e2, i1] at z; omega
    · rw [e2, i2] at z; omega
    · rw [e3, nI_toInt (by omega)] at z; omega
  · rw [Int32.lt_iff_toInt_lt, i2] at z
    have y2 : x2.toInt < (0 : Int32).toInt := Int32.lt_iff_toInt_lt.mp y
    rw [show ((0 : Int32)).toInt = 0 by decide] at y2
    rcases (show x2.toInt = -1 ∨ x2.toInt = -2 by omega) with q | q
    · exact Or.inl (Int32.toInt_inj.mp (by rw [q, i1]))
    · exact Or.inr (Or.inl (Int32.toInt_inj.mp (by rw [q, i2])))
  · obtain ⟨x, hxt, e⟩ := hx.resolve_left y
    have w2 : nI x < nI 8 := by rw [← e]; exact w
    rw [nI_ltI (by omega) (by decide)] at w2
    rw [tel]
    rintro (⟨_, e2⟩ | ⟨_, ⟨e2, _⟩ | ⟨x', x1, x2', e3⟩⟩)
    · rw [e] at e2; exact absurd e2 (k_ne1 (by omega))
    · rw [e] at e2; exact absurd e2 (k_ne2 (by omega))
    · rw [e, nI_eq (by omega) (by omega)] at e3; omega
  · obtain ⟨x, hxt, e⟩ := hx.resolve_left y
    have w2 : ¬ nI x < nI 8 := by rw [← e]; exact w
    rw [nI_ltI (by omega) (by decide)] at w2
    exact Or.inr (Or.inr ⟨x, by omega, hxt, e⟩)
/-- the edge is put -/
theorem p_Mabove_put (h : RW C g T d) (hM : RM μ C g T d) (hc : c + 1 = Wn C) (hto : to < c) {k A : Nat} (ek : k = (if Wf C to = true then Wd C c else 0)) (h' : wCok (wSet C c k to A) (Tn T)) : k_pc (f_M_above_216 μ (nI to) (wTd A) (nI c) 0) (fun q => (M_code q.2 = 0 ∧ q.1 = nI (Wd (wSet C c k to A) c)) ∧ RM q.2 (wSet C c k to A) g T d) := by
  have hn := RW_not h
  have hcC : c < Wn C := by omega
  have hd0 := (h.1.1.2.2.1 c hcC).2 (by omega)
  have hdc := (h.1.1.2.2.1 c hcC).1
  have cc : (nI c).toNatClampNeg = c := nI_clamp (by omega)
  have ct : (nI to).toNatClampNeg = to := nI_clamp (by omega)
  have rm := hM.1.2.2 c hcC
  have a3 : Wd (wSet C c k to A) c = (if Wd C c < k + 1 then k + 1 else Wd C c) := wUp_s
  have a4 : Wo (wSet C c k to A) c = wUp (Wo C c) k to := wUp_s
  have a5 : Wa (wSet C c k to A) c = wUp (Wa C c) k A := wUp_s
  have done : ∀ {S : StM}, pTy (M_set_code μ 0) S → k_pc (f_M_above_266 S (nI c)) (fun q => q.1 = nI (Wd (wSet C c k to A) c) ∧ rMc q.2 (wSet C c k to A) g ∧ pTy S q.2 ∧ M_reckoned q.2 = 0) → k_pc (f_M_above_266 S (nI c)) (fun q => (M_code q.2 = 0 ∧ q.1 = nI (Wd (wSet C c k to A) c)) ∧ RM q.2 (wSet C c k to A) g T d) := by
    intro S hS kk
    refine p_mono kk ?_
    rintro q ⟨q1, q2, q3, q4⟩
    obtain ⟨y1, y2, y3, y4, y5, y6⟩ := pTy_trans hS q3
    refine ⟨⟨y5, q1⟩, q2, rMt_ag (σ := μ) h.1.2 hM.2.1 (fun i _ => y2 i) (y1.trans hM.2.1.1), ⟨0, by omega, q4, fun e => by omega⟩, y3.trans hM.2.2.2.1, y4.trans hM.2.2.2.2⟩
  unfold f_M_above_216
  refine p_good (fun _ => ?_) (fun q => absurd rfl q)
  refine p_if (fun q => absurd q k_10) (fun _ => p_guard (fun _ => ?_))
  show k_pc (if M_face μ (nI to).toNatClampNeg = 0 then _ else _) _
  rw [ct, (hM.1.2.2 to (by omega)).1]
  refine p_if (fun z => ?_) (fun z => ?_)
  · have zf := b2_0.mp z
    rw [if_neg (by rw [zf]; decide)] at ek
    subst ek
    have c30 : (30 * nI c).toNatClampNeg = 30 * c := by
      show (nI 30 * nI c).toNatClampNeg = _
      rw [k_mul]; exact nI_clamp (by omega)
    refine p_guard (fun _ => p_guard (fun _ => ?_))
    have d0 : Wd (wSet C c 0 to A) c = Wd C c := by rw [a3, if_neg (by omega)]
    refine done ⟨rfl, fun i => ⟨rfl, rfl, rfl, rfl, rfl, rfl, fun _ _ => rfl⟩, rfl, rfl, rfl, rfl⟩ ?_
    refine r_M_266 (σ := μ) (T := T) h.1.1 hM.1 hc h' rfl rfl rfl rfl rfl (fun x hx => rfl) ?_ (fun x hx => ⟨?_, ?_⟩) (fun j hj => ⟨?_, ?_⟩)
    · rw [d0]; exact rm.2.2.1
    · show upd (M_directTo μ) (30 * nI c).toNatClampNeg (nI to) x = _
      rw [c30, k_u hx]
    · show upd (M_directArg μ) (30 * nI c).toNatClampNeg (wTd A) x = _
      rw [c30, k_u hx]
    · show upd (M_directTo μ) (30 * nI c).toNatClampNeg (nI to) (30 * c + j) = _
      rw [c30, a4]
      by_cases e : j = 0
      · subst e; rw [wUp_s, Nat.add_zero, k_upds]
      · rw [wUp_n e, k_updn (by omega)]
        exact (rm.2.2.2.1 j (by rw [d0] at hj; exact hj)).1
    · show upd (M_directArg μ) (30 * nI c).toNatClampNeg (wTd A) (30 * c + j) = _
      rw [c30, a5]
      by_cases e : j = 0
      · subst e; rw [wUp_s, Nat.add_zero, k_upds]
      · rw [wUp_n e, k_updn (by omega)]
        exact (rm.2.2.2.1 j (by rw [d0] at hj; exact hj)).2
  · have zf : Wf C to = true := by
      cases q : Wf C to with
      | true => rfl
      | false => rw [q] at z; exact absurd rfl z
    rw [if_pos zf] at ek
    subst ek
    have d1 : Wd (wSet C c (Wd C c) to A) c = Wd C c + 1 := by rw [a3, if_pos (by omega)]
    have hD := (h'.2.2.1 c hcC).1
    rw [d1] at hD
    refine p_bind (p_ok (s_M_tie (σ := M_set_code μ 0) (c := c) (d := Wd C c) (by omega) (by omega) rm.2.2.1 (nI to) (wTd A))) ?_
    rintro ⟨v, S⟩ eS
    replace eS : S = M_put_directs (M_put_directArg (M_put_directTo (M_set_code μ 0) (nI (30 * c + Wd C c)) (nI to)) (nI (30 * c + Wd C c)) (wTd A)) (nI c) (nI (Wd C c + 1)) := eS
    have cI : (nI (30 * c + Wd C c)).toNatClampNeg = 30 * c + Wd C c := nI_clamp (by omega)
    show k_pc (f_M_above_266 S (nI c)) _
    have sTo : M_directTo S = upd (M_directTo μ) (30 * c + Wd C c) (nI to) := by
      rw [eS]; show upd (M_directTo μ) (nI (30 * c + Wd C c)).toNatClampNeg (nI to) = _; rw [cI]
    have sAr : M_directArg S = upd (M_directArg μ) (30 * c + Wd C c) (wTd A) := by
      rw [eS]; show upd (M_directArg μ) (nI (30 * c + Wd C c)).toNatClampNeg (wTd A) = _; rw [cI]
    have sDi : M_directs S = upd (M_directs μ) c (nI (Wd C c + 1)) := by
      rw [eS]; show upd (M_directs μ) (nI c).toNatClampNeg (nI (Wd C c + 1)) = _; rw [cc]
    have sTy : pTy (M_set_code μ 0) S := by
      rw [eS]; exact ⟨rfl, fun i => ⟨rfl, rfl, rfl, rfl, rfl, rfl, fun _ _ => rfl⟩, rfl, rfl, rfl, rfl⟩
    have s0 : M_classes S = M_classes μ := by rw [eS]
    have s1 : M_generics S = M_generics μ := by rw [eS]
    have s2 : M_face S = M_face μ := by rw [eS]
    have s3 : M_generic S = M_generic μ := by rw [eS]
    have s4 : M_over S = M_over μ := by rw [eS]
    clear eS
    refine done sTy ?_
    refine r_M_266 (σ := μ) (T := T) h.1.1 hM.1 hc h' s0 s1 s2 s3 s4 (fun x hx => ?_) ?_ (fun x hx => ⟨?_, ?_⟩) (fun j hj => ⟨?_, ?_⟩)
    · rw [sDi, k_u hx]
    · rw [sDi, k_upds, d1]
    · rw [sTo, k_u (by omega)]
    · rw [sAr, k_u (by omega)]
    · rw [sTo, a4]
      by_cases e : j = Wd C c
      · subst e; rw [wUp_s, k_upds]
      · rw [wUp_n e, k_updn (by omega)]
        exact (rm.2.2.2.1 j (by rw [d1] at hj; omega)).1
    · rw [sAr, a5]
      by_cases e : j = Wd C c
      · subst e; rw [wUp_s, k_upds]
      · rw [wUp_n e, k_updn (by omega)]
        exact (rm.2.2.2.1 j (by rw [d1] at hj; omega)).2
theorem p_Lput (h : wCok C (Tn T)) {σ : StC} (r : rC σ C g) (hc : c + 1 = Wn C) (hto : to < c) {k A : Nat} (ek : k = (if Wf C to = true then Wd C c else 0)) (h' : wCok (wSet C c k to A) (Tn T)) : k_pc (f_C_put σ (nI to) (wTd A)) (fun q => q.1 = nI (Wd (wSet C c k to A) c) ∧ rC q.2 (wSet C c k to A) g) := by
  have hcC : c < Wn C := by omega
  have hcC' : c < Wn (wSet C c k to A) := hcC
  have p22 : k ≤ Wd C c → k_pc (f_C_put_22 σ (nI to) (wTd A) (nI c) (nI k)) (fun q => q.1 = nI (Wd (wSet C c k to A) c) ∧ rC q.2 (wSet C c k to A) g) := by
    intro hk
    unfold f_C_put_22
    refine p_bind (r_C_write h r hcC (show to < Wn C by omega) hk) ?_
    intro q hq
    rw [r_C_countDirect h' hq hcC']
    exact p_some ⟨rfl, hq⟩
  unfold f_C_put
  rw [r_C_newest r hc, r_C_isFace h r (show to < Wn C by omega)]
  show k_pc (if b2 (Wf C to) = 0 then _ else _) _
  refine p_if (fun z => ?_) (fun z => ?_)
  · rw [if_neg (by rw [b2_0.mp z]; decide)] at ek
    subst ek
    exact p22 (Nat.zero_le _)
  · have zf : Wf C to = true := by
      cases q : Wf C to with
      | true => rfl
      | false => rw [q] at z; exact absurd rfl z
    rw [if_pos zf] at ek
    subst ek
    rw [r_C_countDirect h r hcC]
    exact p22 (Nat.le_refl _)
theorem R_above (h : RW C g T d) (hL : RL σ C g T d) (hM : RM μ C g T d) (x1 x2 : Int32) : RQ (fun e => if e = 1 then 1 else if e = 2 then 2 else 3) d (f_L_above σ x1 x2) (f_M_above μ x1 x2) := by
  have hn := RW_not h
  obtain ⟨c, hc⟩ : ∃ c, c + 1 = Wn C := ⟨Wn C - 1, by omega⟩
  have en : M_classes μ - 1 = nI c := by rw [hM.1.1, ← hc]; exact nI_pred c
  by_cases h1 : ∃ j, j < Wn C ∧ x1 = nI j
  · obtain ⟨to, hto, rfl⟩ := h1
    by_cases hx : x2 < 0 ∨ ∃ x, x < Tn T ∧ x2 = nI x
    · have lgo : ∀ {Q : (Int32 ⊕ Nat) × StL × Nat × Nat → Prop}, (∀ K N : Nat, k_pc (f_L_above_14 σ (nI to) x2) (fun r => Q (r.1, r.2.1, r.2.2.1 + K, r.2.2.2 + N))) → k_pc (f_L_above σ (nI to) x2) Q := by
        intro Q kk
        unfold f_L_above
        refine p_rc (fun z => absurd z (rC_there h.1.1 hL.1.1 hto)) (fun _ => p_ad ?_)
        refine p_if (fun _ => kk 0 0) (fun z => ?_)
        obtain ⟨x, hxt, rfl⟩ := hx.resolve_left z
        exact p_rt (fun z => absurd z (rT_there h.1.2 hL.1.2 hxt)) (fun _ => p_ad (kk 0 0))
      have rgo : ∀ {Q : Int32 × StM → Prop}, k_pc (f_M_above_28 μ (nI to) x2 (nI c) 1) Q → k_pc (f_M_above μ (nI to) x2) Q := by
        intro Q kk
        unfold f_M_above
        rw [if_neg (R_isClass h hM hto), en]
        refine p_if (fun z => ?_) (fun _ => kk)
        rw [hM.2.1.1] at z
        rcases hx with w | ⟨x, hxt, e⟩
        · exfalso
          have w2 : x2.toInt < (0 : Int32).toInt := Int32.lt_iff_toInt_lt.mp w
          have z2 : (nI (Tn T)).toInt ≤ x2.toInt := Int32.le_iff_toInt_le.mp z
          rw [nI_toInt (by omega)] at z2
          rw [show ((0 : Int32)).toInt = 0 by decide] at w2
          omega
        · rw [e, nI_leI (by omega) (by omega)] at z
          omega
      by_cases hm : wMay C c to
      · by_cases ht : wTel C (Tn T) c to x2
        · obtain ⟨A, eA, hA⟩ := ht
          subst eA
          have htc : to < c := by
            have := hm.2.1; omega
          by_cases hag : ∀ b, b < Wn C → wAgb C c to A b
          · obtain ⟨k, ek⟩ : ∃ k, k = (if Wf C to = true then Wd C c else 0) := ⟨_, rfl⟩
            obtain ⟨hW', _, hk⟩ := RW_set h hc hm hto hA ek hag
            refine ⟨.inl (nI (Wd (wSet C c k to A) c)), wSet C c k to A, g, T, hW', lgo (fun K N => ?_), rgo ?_⟩
            · unfold f_L_above_14
              refine p_bind (r_C_mayGet h.1.1 hL.1.1 hc hto) ?_
              intro r2 e2
              refine p_if (fun z => absurd hm (e2.mp z)) (fun _ => ?_)
              refine p_bind (r_L_isTellable h.1 hL.1 hc hto hx) ?_
              intro r3 e3
              refine p_if (fun z => ?_) (fun _ => ?_)
              · rcases e3 with ⟨_, w⟩ | ⟨w, _⟩
                · exact absurd ⟨A, rfl, hA⟩ w
                · exact absurd z w
              refine p_bind (r_C_clashes h.1.1 h.1.2.2.1 hL.1.1 hc htc hA) ?_
              intro r4 e4
              refine p_if (fun _ => ?_) (fun z => absurd (e4.mpr hag) z)
              refine p_bind (r_A_forget hL.2.1 (wSet C c k to A) T) ?_
              rintro ⟨v5, A5⟩ h5
              refine p_bind (p_Lput (T := T) (σ := L_classes σ) h.1.1 hL.1.1 hc htc ek hW'.1.1) ?_
              rintro ⟨v6, C6⟩ ⟨e6, h6⟩
              replace e6 : v6 = nI (Wd (wSet C c k to A) c) := e6
              exact p_some ⟨congrArg Sum.inl e6, ⟨h6, hL.1.2⟩, h5, hL.2.2⟩
            · refine p_Mabove_28 h hM hc hto (fun q => absurd hm q) (fun _ => ?_)
              refine p_Mabove_mid h hM hc hto hx (fun q => absurd ⟨A, rfl, hA⟩ q) (fun A' eA' hA' => ?_)
              unfold f_M_above_203 f_M_partsWay
              refine p_bind (r_M_partsWay_6 (μ := μ) h.1 hM.1 hc htc hA 1000 0 0 (M_found μ) (M_foundHow μ) (M_foundType μ) (by omega) (Or.inl ⟨rfl, fun b hb => by omega⟩)) ?_
              rintro ⟨v, τ⟩ ⟨e, a', h', g', eτ⟩
              replace eτ : τ = mF μ a' h' g' := eτ
              subst eτ
              have hMτ : RM (mF μ a' h' g') C g T d := hM
              exact p_if (fun _ => p_Mabove_put h hMτ hc htc ek hW'.1.1) (fun z => absurd (e.mpr hag) z)
          · refine R_thr h 2 (lgo (fun K N => ?_)) (rgo ?_)
            · unfold f_L_above_14
              refine p_bind (r_C_mayGet h.1.1 hL.1.1 hc hto) ?_
              intro r2 e2
              refine p_if (fun z => absurd hm (e2.mp z)) (fun _ => ?_)
              refine p_bind (r_L_isTellable h.1 hL.1 hc hto hx) ?_
              intro r3 e3
              refine p_if (fun z => ?_) (fun _ => ?_)
              · rcases e3 with ⟨_, w⟩ | ⟨w, _⟩
                · exact absurd ⟨A, rfl, hA⟩ w
                · exact absurd z w
              refine p_bind (r_C_clashes h.1.1 h.1.2.2.1 hL.1.1 hc htc hA) ?_
              intro r4 e4
              exact p_if (fun z => absurd (e4.mp z) hag) (fun _ => p_some ⟨rfl, hL⟩)
            · refine p_Mabove_28 h hM hc hto (fun q => absurd hm q) (fun _ => ?_)
              refine p_Mabove_mid h hM hc hto hx (fun q => absurd ⟨A, rfl, hA⟩ q) (fun A' eA' hA' => ?_)
              unfold f_M_above_203 f_M_partsWay
              refine p_bind (r_M_partsWay_6 (μ := μ) h.1 hM.1 hc htc hA 1000 0 0 (M_found μ) (M_foundHow μ) (M_foundType μ) (by omega) (Or.inl ⟨rfl, fun b hb => by omega⟩)) ?_
              rintro ⟨v, τ⟩ ⟨e, a', h', g', eτ⟩
              replace eτ : τ = mF μ a' h' g' := eτ
              subst eτ
              have hMτ : RM (mF μ a' h' g') C g T d := hM
              exact p_if (fun z => absurd (e.mp z) hag) (fun _ => p_Mabove_thr hMτ (by decide))
        · refine R_thr h 3 (lgo (fun K N => ?_)) (rgo ?_)
          · unfold f_L_above_14
            refine p_bind (r_C_mayGet h.1.1 hL.1.1 hc hto) ?_
            intro r2 e2
            refine p_if (fun z => absurd hm (e2.mp z)) (fun _ => ?_)
            refine p_bind (r_L_isTellable h.1 hL.1 hc hto hx) ?_
            intro r3 e3
            refine p_if (fun _ => p_some ⟨rfl, hL⟩) (fun z => ?_)
            rcases e3 with ⟨w, _⟩ | ⟨_, w⟩
            · exact absurd w z
            · exact absurd w ht
          · refine p_Mabove_28 h hM hc hto (fun q => absurd hm q) (fun _ => ?_)
            exact p_Mabove_mid h hM hc hto hx (fun _ => p_Mabove_thr hM (by decide)) (fun A eA hA => absurd ⟨A, eA, hA⟩ ht)
      · refine R_thr h 2 (lgo (fun K N => ?_)) (rgo ?_)
        · unfold f_L_above_14
          refine p_bind (r_C_mayGet h.1.1 hL.1.1 hc hto) ?_
          intro r2 e2
          exact p_if (fun _ => p_some ⟨rfl, hL⟩) (fun z => absurd (e2.mpr hm) z)
        · exact p_Mabove_28 h hM hc hto (fun _ => p_Mabove_thr hM (by decide)) (fun q => absurd q hm)
    · refine R_thr h 1 ?_ ?_
      · unfold f_L_above
        refine p_rc (fun z => absurd z (rC_there h.1.1 hL.1.1 hto)) (fun _ => p_ad ?_)
        refine p_if (fun z => absurd (Or.inl z) hx) (fun _ => ?_)
        exact p_rt (fun _ => p_ad (p_some ⟨rfl, hL⟩)) (fun z => absurd (rT_not h.1.2 hL.1.2 (fun q => hx (Or.inr q))) z)
      · unfold f_M_above
        rw [if_neg (R_isClass h hM hto)]
        refine p_if (fun _ => p_Mabove_27 h hM _ _ _) (fun z => ?_)
        rw [hM.2.1.1] at z
        have np : ¬ x2 < 0 := fun q => hx (Or.inl q)
        obtain ⟨j, hj, rfl⟩ := nI_of np
        rw [nI_leI (by omega) hj] at z
        exact absurd (Or.inr ⟨j, by omega, rfl⟩) hx
  · refine R_thr h 1 ?_ ?_
    · unfold f_L_above
      exact p_rc (fun _ => p_ad (p_some ⟨rfl, hL⟩)) (fun z => absurd (rC_not h.1.1 hL.1.1 h1) z)
    · unfold f_M_above
      rw [if_pos (R_noClass h hM h1)]
      exact p_Mabove_27 h hM _ _ _
end
