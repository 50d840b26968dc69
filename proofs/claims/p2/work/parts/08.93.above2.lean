-- part 08.93.above2.lean.txt
/-! Tier 3: side by side: above, both whole. -/
section
variable {σ : StL} {μ : StM} {C : wWc} {T : wWt} {g d c to : Nat} {x2 : Int32}
theorem p_Mabove_thr (hM : RM μ C g T d) {x1 x2 x3 x6 : Int32} (hx : ¬ x6 = 0) : k_pc (f_M_above_216 μ x1 x2 x3 x6) (fun q => M_code q.2 = x6 ∧ RM q.2 C g T d) := by
  have hMt : RM (M_set_code μ x6) C g T d := hM
  unfold f_M_above_216
  refine p_good (fun q => absurd q hx) (fun _ => ?_)
  exact p_if (fun _ => p_some ⟨rfl, hMt⟩) (fun q => absurd rfl q)
/-- not told of a class, or of no type -/
theorem p_Mabove_27 (h : RW C g T d) (hM : RM μ C g T d) (x1 x2 x3 : Int32) : k_pc (f_M_above_27 μ x1 x2 x3) (fun q => M_code q.2 = 1 ∧ RM q.2 C g T d) := by
  have bad : ∀ t0 : Int32, k_pc (f_M_above_73 μ x1 x2 x3 0 t0) (fun q => M_code q.2 = 1 ∧ RM q.2 C g T d) := by
    intro t0
    unfold f_M_above_73
    rw [if_pos rfl]
    exact p_Mabove_thr hM (by decide)
  unfold f_M_above_27 f_M_above_28 f_M_above_72
  refine p_guard (fun _ => p_if (fun _ => bad _) (fun _ => p_guard (fun _ => p_if (fun _ => bad _) (fun _ => p_guard (fun _ => p_guard (fun _ => p_if (fun _ => bad _) (fun _ => bad _)))))))
/-- who may get whom -/
theorem p_Mabove_28 (h : RW C g T d) (hM : RM μ C g T d) (hc : c + 1 = Wn C) (hto : to < Wn C) {Q : Int32 × StM → Prop} (q1 : ¬ wMay C c to → k_pc (f_M_above_216 μ (nI to) x2 (nI c) 2) Q)
    (q2 : wMay C c to → k_pc (if x2 < -2 then f_M_above_197 μ (nI to) x2 (nI c) else if x2 < 0 then f_M_above_163 μ (nI to) x2 (nI c) 0 else if x2 < 8 then f_M_above_197 μ (nI to) x2 (nI c) else f_M_above_163 μ (nI to) x2 (nI c) 0) Q) : k_pc (f_M_above_28 μ (nI to) x2 (nI c) 1) Q := by
  have hn := RW_not h
  have hcC : c < Wn C := by omega
  have hd0 := (h.1.1.2.2.1 c hcC).2 (by omega)
  have hdc := (h.1.1.2.2.1 c hcC).1
  have ho := (h.1.1.2.2.2.1 c 0 hcC hd0).1
  have cc : (nI c).toNatClampNeg = c := nI_clamp (by omega)
  have ct : (nI to).toNatClampNeg = to := nI_clamp (by omega)
  have c30 : (30 * nI c).toNatClampNeg = 30 * c := by
    show (nI 30 * nI c).toNatClampNeg = _
    rw [k_mul]; exact nI_clamp (by omega)
  have rm := hM.1.2.2 c hcC
  have rt := hM.1.2.2 to hto
  have m132 : 13 ≤ c → to ≠ c → (Wf C to = false → Wf C c = false ∧ Wo C c 0 = 0) → k_pc (f_M_above_132 μ (nI to) x2 (nI c) 0) Q := by
    intro a1 a2 a3
    unfold f_M_above_132
    unfold f_M_hasDirect
    refine p_bind (r_M_hasDirect_5 h.1 hM.1 hcC hto 1000 0 0 (by omega) (Or.inl ⟨rfl, fun j hj => by omega⟩)) ?_
    intro v hv
    refine p_if (fun z => q2 ⟨a1, a2, a3, hv.mp z⟩) (fun z => ?_)
    exact q1 (fun w => z (hv.mpr w.2.2.2))
  have m118 : ∀ x5 : Int32, 13 ≤ c → to ≠ c → (Wf C to = false → Wf C c = false) → ((x5 = 0 ∧ Wo C c 0 = 0) ∨ (x5 = 1 ∧ Wo C c 0 ≠ 0)) → k_pc (f_M_above_118 μ (nI to) x2 (nI c) x5 0) Q := by
    intro x5 a1 a2 a3 a4
    unfold f_M_above_118
    refine p_if (fun z => ?_) (fun z => p_guard (fun _ => ?_))
    · rcases a4 with ⟨_, e⟩ | ⟨e, _⟩
      · exact m132 a1 a2 (fun q => ⟨a3 q, e⟩)
      · rw [z] at e; exact absurd e (by decide)
    · rcases a4 with ⟨e, _⟩ | ⟨_, e⟩
      · exact absurd e z
      · rw [ct, rt.1]
        refine p_if (fun w => q1 (fun m => e (m.2.2.1 (b2_0.mp w)).2)) (fun w => m132 a1 a2 (fun q => ?_))
        rw [q] at w; exact absurd rfl w
  have m73 : ∀ x5 : Int32, (13 ≤ c → (x5 = 0 ∧ Wo C c 0 = 0) ∨ (x5 = 1 ∧ Wo C c 0 ≠ 0)) → k_pc (f_M_above_73 μ (nI to) x2 (nI c) 1 x5) Q := by
    intro x5 a4
    unfold f_M_above_73
    rw [if_neg (by decide)]
    refine p_if (fun z => ?_) (fun z => p_if (fun y => ?_) (fun y => ?_))
    · have z2 : nI c < nI 13 := z
      rw [nI_ltI (by omega) (by decide)] at z2
      exact q1 (fun m => by have := m.1; omega)
    · rw [nI_eq (by omega) (by omega)] at y
      exact q1 (fun m => m.2.1 y)
    · have z2 : ¬ nI c < nI 13 := z
      rw [nI_ltI (by omega) (by decide)] at z2
      rw [nI_eq (by omega) (by omega)] at y
      refine p_guard (fun _ => ?_)
      rw [cc, rm.1]
      refine p_if (fun w => m118 x5 (by omega) y (fun _ => b2_0.mp w) (a4 (by omega))) (fun w => p_guard (fun _ => ?_))
      rw [ct, rt.1]
      refine p_if (fun w2 => q1 (fun m => w ?_)) (fun w2 => m118 x5 (by omega) y (fun q => ?_) (a4 (by omega)))
      · rw [(m.2.2.1 (b2_0.mp w2)).1]; rfl
      · rw [q] at w2; exact absurd rfl w2
  unfold f_M_above_28 f_M_above_72
  refine p_guard (fun _ => ?_)
  rw [cc, rm.2.2.1]
  refine p_if (fun z => ?_) (fun z => p_guard (fun _ => ?_))
  · have z2 : nI (Wd C c) ≤ nI 0 := z
    rw [nI_leI (by omega) (by decide)] at z2
    omega
  rw [c30]
  have e0 : M_directTo μ (30 * c) = nI (Wo C c 0) := (rm.2.2.2.1 0 hd0).1
  rw [e0]
  refine p_if (fun z => m73 0 (fun _ => Or.inl ⟨rfl, ?_⟩)) (fun z => p_guard (fun _ => p_guard (fun _ => ?_)))
  · have z2 : nI (Wo C c 0) = nI 0 := z
    rw [nI_eq (by omega) (by decide)] at z2
    exact z2
  · have z2 : ¬ nI (Wo C c 0) = nI 0 := z
    rw [nI_eq (by omega) (by decide)] at z2
    rw [show (nI (Wo C c 0)).toNatClampNeg = Wo C c 0 from nI_clamp (by omega), (hM.1.2.2 (Wo C c 0) (by omega)).1]
    refine p_if (fun w => m73 1 (fun _ => Or.inr ⟨rfl, z2⟩)) (fun w => m73 0 (fun q => ?_))
    rw [h.2.2.2.2 c q hcC] at w; exact absurd rfl w
/-- what may be told -/
theorem p_Mabove_mid (h : RW C g T d) (hM : RM μ C g T d) (hc : c + 1 = Wn C) (hto : to < Wn C) (hx : x2 < 0 ∨ ∃ x, x < Tn T ∧ x2 = nI x) {Q : Int32 × StM → Prop} (q1 : ¬ wTel C (Tn T) c to x2 → k_pc (f_M_above_216 μ (nI to) x2 (nI c) 3) Q)
    (q2 : ∀ A, x2 = wTd A → wArOk C (Tn T) c to A → k_pc (f_M_above_203 μ (nI to) x2 (nI c) 0) Q) : k_pc (if x2 < -2 then f_M_above_197 μ (nI to) x2 (nI c) else if x2 < 0 then f_M_above_163 μ (nI to) x2 (nI c) 0 else if x2 < 8 then f_M_above_197 μ (nI to) x2 (nI c) else f_M_above_163 μ (nI to) x2 (nI c) 0) Q := by
  have hn := RW_not h
  have hcC : c < Wn C := by omega
  have cc : (nI c).toNatClampNeg = c := nI_clamp (by omega)
  have ct : (nI to).toNatClampNeg = to := nI_clamp (by omega)
  have rm := hM.1.2.2 c hcC
  have rt := hM.1.2.2 to hto
  -- told means one of three
  have tel : wTel C (Tn T) c to x2 ↔ ((Wg C to = false ∧ x2 = -1) ∨ (Wg C to = true ∧ ((x2 = -2 ∧ Wg C c = true) ∨ ∃ x, 8 ≤ x ∧ x < Tn T ∧ x2 = nI x))) := by
    constructor
    · rintro ⟨A, e, ⟨o1, o2⟩ | ⟨o1, ⟨x, x1, x2', x3⟩ | ⟨o2, o3⟩⟩⟩
      · rw [o2] at e; exact Or.inl ⟨o1, e⟩
      · rw [wTd_x (Or.inl x3)] at e; exact Or.inr ⟨o1, Or.inr ⟨x, x1, x2', e⟩⟩
      · rw [o2] at e; exact Or.inr ⟨o1, Or.inl ⟨e, o3⟩⟩
    · rintro (⟨o1, e⟩ | ⟨o1, ⟨e, o3⟩ | ⟨x, x1, x2', e⟩⟩)
      · exact ⟨0, e, Or.inl ⟨o1, rfl⟩⟩
      · exact ⟨3, e, Or.inr ⟨o1, Or.inr ⟨rfl, o3⟩⟩⟩
      · exact ⟨4 * x + 1, e.trans (wTd_x (Or.inl rfl)).symm, Or.inr ⟨o1, Or.inl ⟨x, x1, x2', rfl⟩⟩⟩
  have go : wTel C (Tn T) c to x2 → k_pc (f_M_above_203 μ (nI to) x2 (nI c) 0) Q := by
    rintro ⟨A, e, ok⟩
    exact q2 A e ok
  have i1 : ((-1 : Int32)).toInt = -1 := by decide
  have i2 : ((-2 : Int32)).toInt = -2 := by decide
  have m163 : (x2 = -1 ∨ x2 = -2 ∨ ∃ x, 8 ≤ x ∧ x < Tn T ∧ x2 = nI x) → k_pc (f_M_above_163 μ (nI to) x2 (nI c) 0) Q := by
    intro a
    unfold f_M_above_163 f_M_above_179 f_M_above_197
    refine p_guard (fun _ => ?_)
    rw [ct, cc, rt.2.1, rm.2.1]
    refine p_if (fun e => ?_) (fun e => ?_)
    · have ne2 : ¬ x2 = -2 := by rw [e]; decide
      refine p_if (fun w => q1 ?_) (fun w => p_if (fun w2 => absurd w2 ne2) (fun _ => go ?_))
      · have wg : Wg C to = true := b2_1.mp w
        rw [tel]
        rintro (⟨o, _⟩ | ⟨_, ⟨e2, _⟩ | ⟨x, x1, x2', e2⟩⟩)
        · rw [wg] at o; cases o
        · exact ne2 e2
        · rw [e] at e2; exact absurd e2.symm (k_ne1 (by omega))
      · have wg : Wg C to = false := by
          cases q : Wg C to with
          | false => rfl
          | true => rw [q] at w; exact absurd rfl w
        exact tel.mpr (Or.inl ⟨wg, e⟩)
    · refine p_if (fun w => q1 ?_) (fun w => ?_)
      · have wg : Wg C to = false := b2_0.mp w
        rw [tel]
        rintro (⟨_, e2⟩ | ⟨o, _⟩)
        · exact e e2
        · rw [wg] at o; cases o
      · have wg : Wg C to = true := by
          cases q : Wg C to with
          | true => rfl
          | false => rw [q] at w; exact absurd rfl w
        refine p_if (fun e2 => p_guard (fun _ => p_if (fun w2 => q1 ?_) (fun w2 => go ?_))) (fun e2 => go ?_)
        · have wc : Wg C c = false := b2_0.mp w2
          rw [tel]
          rintro (⟨o, _⟩ | ⟨_, ⟨_, o⟩ | ⟨x, x1, x2', e3⟩⟩)
          · rw [wg] at o; cases o
          · rw [wc] at o; cases o
          · rw [e2] at e3; exact absurd e3.symm (k_ne2 (by omega))
        · have wc : Wg C c = true := by
            cases q : Wg C c with
            | true => rfl
            | false => rw [q] at w2; exact absurd rfl w2
          exact tel.mpr (Or.inr ⟨wg, Or.inl ⟨e2, wc⟩⟩)
        · rcases a with a | a | a
          · exact absurd a e
          · exact absurd a e2
          · exact tel.mpr (Or.inr ⟨wg, Or.inr a⟩)
  unfold f_M_above_197
  refine p_if (fun z => q1 ?_) (fun z => p_if (fun y => m163 ?_) (fun y => p_if (fun w => q1 ?_) (fun w => m163 ?_)))
  · rw [Int32.lt_iff_toInt_lt, i2] at z
    rw [tel]
    rintro (⟨_, e2⟩ | ⟨_, ⟨e2, _⟩ | ⟨x, x1, x2', e3⟩⟩)
    · rw [e2, i1] at z; omega
    · rw [e2, i2] at z; omega
    · rw [e3, nI_toInt (by omega)] at z; omega
  · rw [Int32.lt_iff_toInt_lt, i2] at z
    have y2 : x2.toInt < (0 : Int32).toInt := Int32.lt_iff_toInt_lt.mp y
    rw [show ((0 : Int32)).toInt = 0 by decide] at y2
    rcases (show x2.toInt = -1 ∨ x2.toInt = -2 by omega) with q | q
    · exact Or.inl (Int32.toInt_inj.mp (by rw [q, i1]))
    · exact Or.inr (Or.inl (Int32.toInt_inj.mp (by rw [q, i2])))
  · obtain ⟨x, hxt, e⟩ := hx.resolve_left y
    have w2 : nI x < nI 8 := by rw [← e]; exact w
    rw [nI_ltI (by omega) (by decide)] at w2
    rw [tel]
    rintro (⟨_, e2⟩ | ⟨_, ⟨e2, _⟩ | ⟨x', x1, x2', e3⟩⟩)
    · rw [e] at e2; exact absurd e2 (k_ne1 (by omega))
    · rw [e] at e2; exact absurd e2 (k_ne2 (by omega))
    · rw [e, nI_eq (by omega) (by omega)] at e3; omega
  · obtain ⟨x, hxt, e⟩ := hx.resolve_left y
    have w2 : ¬ nI x < nI 8 := by rw [← e]; exact w
    rw [nI_ltI (by omega) (by decide)] at w2
    exact Or.inr (Or.inr ⟨x, by omega, hxt, e⟩)
/-- the edge is put -/
theorem p_Mabove_put (h : RW C g T d) (hM : RM μ C g T d) (hc : c + 1 = Wn C) (hto : to < c) {k A : Nat} (ek : k = (if Wf C to = true then Wd C c else 0)) (h' : wCok (wSet C c k to A) (Tn T)) : k_pc (f_M_above_216 μ (nI to) (wTd A) (nI c) 0) (fun q => (M_code q.2 = 0 ∧ q.1 = nI (Wd (wSet C c k to A) c)) ∧ RM q.2 (wSet C c k to A) g T d) := by
  have hn := RW_not h
  have hcC : c < Wn C := by omega
  have hd0 := (h.1.1.2.2.1 c hcC).2 (by omega)
  have hdc := (h.1.1.2.2.1 c hcC).1
  have cc : (nI c).toNatClampNeg = c := nI_clamp (by omega)
  have ct : (nI to).toNatClampNeg = to := nI_clamp (by omega)
  have rm := hM.1.2.2 c hcC
  have a3 : Wd (wSet C c k to A) c = (if Wd C c < k + 1 then k + 1 else Wd C c) := wUp_s
  have a4 : Wo (wSet C c k to A) c = wUp (Wo C c) k to := wUp_s
  have a5 : Wa (wSet C c k to A) c = wUp (Wa C c) k A := wUp_s
  have done : ∀ {S : StM}, pTy (M_set_code μ 0) S → k_pc (f_M_above_266 S (nI c)) (fun q => q.1 = nI (Wd (wSet C c k to A) c) ∧ rMc q.2 (wSet C c k to A) g ∧ pTy S q.2 ∧ M_reckoned q.2 = 0) → k_pc (f_M_above_266 S (nI c)) (fun q => (M_code q.2 = 0 ∧ q.1 = nI (Wd (wSet C c k to A) c)) ∧ RM q.2 (wSet C c k to A) g T d) := by
    intro S hS kk
    refine p_mono kk ?_
    rintro q ⟨q1, q2, q3, q4⟩
    obtain ⟨y1, y2, y3, y4, y5, y6⟩ := pTy_trans hS q3
    refine ⟨⟨y5, q1⟩, q2, rMt_ag (σ := μ) h.1.2 hM.2.1 (fun i _ => y2 i) (y1.trans hM.2.1.1), ⟨0, by omega, q4, fun e => by omega⟩, y3.trans hM.2.2.2.1, y4.trans hM.2.2.2.2⟩
  unfold f_M_above_216
  refine p_good (fun _ => ?_) (fun q => absurd rfl q)
  refine p_if (fun q => absurd q k_10) (fun _ => p_guard (fun _ => ?_))
  show k_pc (if M_face μ (nI to).toNatClampNeg = 0 then _ else _) _
  rw [ct, (hM.1.2.2 to (by omega)).1]
  refine p_if (fun z => ?_) (fun z => ?_)
  · have zf := b2_0.mp z
    rw [if_neg (by rw [zf]; decide)] at ek
    subst ek
    have c30 : (30 * nI c).toNatClampNeg = 30 * c := by
      show (nI 30 * nI c).toNatClampNeg = _
      rw [k_mul]; exact nI_clamp (by omega)
    refine p_guard (fun _ => p_guard (fun _ => ?_))
    have d0 : Wd (wSet C c 0 to A) c = Wd C c := by rw [a3, if_neg (by omega)]
    refine done ⟨rfl, fun i => ⟨rfl, rfl, rfl, rfl, rfl, rfl, fun _ _ => rfl⟩, rfl, rfl, rfl, rfl⟩ ?_
    refine r_M_266 (σ := μ) (T := T) h.1.1 hM.1 hc h' rfl rfl rfl rfl rfl (fun x hx => rfl) ?_ (fun x hx => ⟨?_, ?_⟩) (fun j hj => ⟨?_, ?_⟩)
    · rw [d0]; exact rm.2.2.1
    · show upd (M_directTo μ) (30 * nI c).toNatClampNeg (nI to) x = _
      rw [c30, k_u hx]
    · show upd (M_directArg μ) (30 * nI c).toNatClampNeg (wTd A) x = _
      rw [c30, k_u hx]
    · show upd (M_directTo μ) (30 * nI c).toNatClampNeg (nI to) (30 * c + j) = _
      rw [c30, a4]
      by_cases e : j = 0
      · subst e; rw [wUp_s, Nat.add_zero, k_upds]
      · rw [wUp_n e, k_updn (by omega)]
        exact (rm.2.2.2.1 j (by rw [d0] at hj; exact hj)).1
    · show upd (M_directArg μ) (30 * nI c).toNatClampNeg (wTd A) (30 * c + j) = _
      rw [c30, a5]
      by_cases e : j = 0
      · subst e; rw [wUp_s, Nat.add_zero, k_upds]
      · rw [wUp_n e, k_updn (by omega)]
        exact (rm.2.2.2.1 j (by rw [d0] at hj; exact hj)).2
  · have zf : Wf C to = true := by
      cases q : Wf C to with
      | true => rfl
      | false => rw [q] at z; exact absurd rfl z
    rw [if_pos zf] at ek
    subst ek
    have d1 : Wd (wSet C c (Wd C c) to A) c = Wd C c + 1 := by rw [a3, if_pos (by omega)]
    have hD := (h'.2.2.1 c hcC).1
    rw [d1] at hD
    refine p_bind (p_ok (s_M_tie (σ := M_set_code μ 0) (c := c) (d := Wd C c) (by omega) (by omega) rm.2.2.1 (nI to) (wTd A))) ?_
    rintro ⟨v, S⟩ eS
    replace eS : S = M_put_directs (M_put_directArg (M_put_directTo (M_set_code μ 0) (nI (30 * c + Wd C c)) (nI to)) (nI (30 * c + Wd C c)) (wTd A)) (nI c) (nI (Wd C c + 1)) := eS
    have cI : (nI (30 * c + Wd C c)).toNatClampNeg = 30 * c + Wd C c := nI_clamp (by omega)
    show k_pc (f_M_above_266 S (nI c)) _
    have sTo : M_directTo S = upd (M_directTo μ) (30 * c + Wd C c) (nI to) := by
      rw [eS]; show upd (M_directTo μ) (nI (30 * c + Wd C c)).toNatClampNeg (nI to) = _; rw [cI]
    have sAr : M_directArg S = upd (M_directArg μ) (30 * c + Wd C c) (wTd A) := by
      rw [eS]; show upd (M_directArg μ) (nI (30 * c + Wd C c)).toNatClampNeg (wTd A) = _; rw [cI]
    have sDi : M_directs S = upd (M_directs μ) c (nI (Wd C c + 1)) := by
      rw [eS]; show upd (M_directs μ) (nI c).toNatClampNeg (nI (Wd C c + 1)) = _; rw [cc]
    have sTy : pTy (M_set_code μ 0) S := by
      rw [eS]; exact ⟨rfl, fun i => ⟨rfl, rfl, rfl, rfl, rfl, rfl, fun _ _ => rfl⟩, rfl, rfl, rfl, rfl⟩
    have s0 : M_classes S = M_classes μ := by rw [eS]
    have s1 : M_generics S = M_generics μ := by rw [eS]
    have s2 : M_face S = M_face μ := by rw [eS]
    have s3 : M_generic S = M_generic μ := by rw [eS]
    have s4 : M_over S = M_over μ := by rw [eS]
    clear eS
    refine done sTy ?_
    refine r_M_266 (σ := μ) (T := T) h.1.1 hM.1 hc h' s0 s1 s2 s3 s4 (fun x hx => ?_) ?_ (fun x hx => ⟨?_, ?_⟩) (fun j hj => ⟨?_, ?_⟩)
    · rw [sDi, k_u hx]
    · rw [sDi, k_upds, d1]
    · rw [sTo, k_u (by omega)]
    · rw [sAr, k_u (by omega)]
    · rw [sTo, a4]
      by_cases e : j = Wd C c
      · subst e; rw [wUp_s, k_upds]
      · rw [wUp_n e, k_updn (by omega)]
        exact (rm.2.2.2.1 j (by rw [d1] at hj; omega)).1
    · rw [sAr, a5]
      by_cases e : j = Wd C c
      · subst e; rw [wUp_s, k_upds]
      · rw [wUp_n e, k_updn (by omega)]
        exact (rm.2.2.2.1 j (by rw [d1] at hj; omega)).2
theorem p_Lput (h : wCok C (Tn T)) {σ : StC} (r : rC σ C g) (hc : c + 1 = Wn C) (hto : to < c) {k A : Nat} (ek : k = (if Wf C to = true then Wd C c else 0)) (h' : wCok (wSet C c k to A) (Tn T)) : k_pc (f_C_put σ (nI to) (wTd A)) (fun q => q.1 = nI (Wd (wSet C c k to A) c) ∧ rC q.2 (wSet C c k to A) g) := by
  have hcC : c < Wn C := by omega
  have hcC' : c < Wn (wSet C c k to A) := hcC
  have p22 : k ≤ Wd C c → k_pc (f_C_put_22 σ (nI to) (wTd A) (nI c) (nI k)) (fun q => q.1 = nI (Wd (wSet C c k to A) c) ∧ rC q.2 (wSet C c k to A) g) := by
    intro hk
    unfold f_C_put_22
    refine p_bind (r_C_write h r hcC (show to < Wn C by omega) hk) ?_
    intro q hq
    rw [r_C_countDirect h' hq hcC']
    exact p_some ⟨rfl, hq⟩
  unfold f_C_put
  rw [r_C_newest r hc, r_C_isFace h r (show to < Wn C by omega)]
  show k_pc (if b2 (Wf C to) = 0 then _ else _) _
  refine p_if (fun z => ?_) (fun z => ?_)
  · rw [if_neg (by rw [b2_0.mp z]; decide)] at ek
    subst ek
    exact p22 (Nat.zero_le _)
  · have zf : Wf C to = true := by
      cases q : Wf C to with
      | true => rfl
      | false => rw [q] at z; exact absurd rfl z
    rw [if_pos zf] at ek
    subst ek
    rw [r_C_countDirect h r hcC]
    exact p22 (Nat.le_refl _)
theorem R_above (h : RW C g T d) (hL : RL σ C g T d) (hM : RM μ C g T d) (x1 x2 : Int32) : RQ (fun e => if e = 1 then 1 else if e = 2 then 2 else 3) d (f_L_above σ x1 x2) (f_M_above μ x1 x2) := by
  have hn := RW_not h
  obtain ⟨c, hc⟩ : ∃ c, c + 1 = Wn C := ⟨Wn C - 1, by omega⟩
  have en : M_classes μ - 1 = nI c := by rw [hM.1.1, ← hc]; exact nI_pred c
  by_cases h1 : ∃ j, j < Wn C ∧ x1 = nI j
  · obtain ⟨to, hto, rfl⟩ := h1
    by_cases hx : x2 < 0 ∨ ∃ x, x < Tn T ∧ x2 = nI x
    · have lgo : ∀ {Q : (Int32 ⊕ Nat) × StL × Nat × Nat → Prop}, (∀ K N : Nat, k_pc (f_L_above_14 σ (nI to) x2) (fun r => Q (r.1, r.2.1, r.2.2.1 + K, r.2.2.2 + N))) → k_pc (f_L_above σ (nI to) x2) Q := by
        intro Q kk
        unfold f_L_above
        refine p_rc (fun z => absurd z (rC_there h.1.1 hL.1.1 hto)) (fun _ => p_ad ?_)
        refine p_if (fun _ => kk 0 0) (fun z => ?_)
        obtain ⟨x, hxt, rfl⟩ := hx.resolve_left z
        exact p_rt (fun z => absurd z (rT_there h.1.2 hL.1.2 hxt)) (fun _ => p_ad (kk 0 0))
      have rgo : ∀ {Q : Int32 × StM → Prop}, k_pc (f_M_above_28 μ (nI to) x2 (nI c) 1) Q → k_pc (f_M_above μ (nI to) x2) Q := by
        intro Q kk
        unfold f_M_above
        rw [if_neg (R_isClass h hM hto), en]
        refine p_if (fun z => ?_) (fun _ => kk)
        rw [hM.2.1.1] at z
        rcases hx with w | ⟨x, hxt, e⟩
        · exfalso
          have w2 : x2.toInt < (0 : Int32).toInt := Int32.lt_iff_toInt_lt.mp w
          have z2 : (nI (Tn T)).toInt ≤ x2.toInt := Int32.le_iff_toInt_le.mp z
          rw [nI_toInt (by omega)] at z2
          rw [show ((0 : Int32)).toInt = 0 by decide] at w2
          omega
        · rw [e, nI_leI (by omega) (by omega)] at z
          omega
      by_cases hm : wMay C c to
      · by_cases ht : wTel C (Tn T) c to x2
        · obtain ⟨A, eA, hA⟩ := ht
          subst eA
          have htc : to < c := by
            have := hm.2.1; omega
          by_cases hag : ∀ b, b < Wn C → wAgb C c to A b
          · obtain ⟨k, ek⟩ : ∃ k, k = (if Wf C to = true then Wd C c else 0) := ⟨_, rfl⟩
            obtain ⟨hW', _, hk⟩ := RW_set h hc hm hto hA ek hag
            refine ⟨.inl (nI (Wd (wSet C c k to A) c)), wSet C c k to A, g, T, hW', lgo (fun K N => ?_), rgo ?_⟩
            · unfold f_L_above_14
              refine p_bind (r_C_mayGet h.1.1 hL.1.1 hc hto) ?_
              intro r2 e2
              refine p_if (fun z => absurd hm (e2.mp z)) (fun _ => ?_)
              refine p_bind (r_L_isTellable h.1 hL.1 hc hto hx) ?_
              intro r3 e3
              refine p_if (fun z => ?_) (fun _ => ?_)
              · rcases e3 with ⟨_, w⟩ | ⟨w, _⟩
                · exact absurd ⟨A, rfl, hA⟩ w
                · exact absurd z w
              refine p_bind (r_C_clashes h.1.1 h.1.2.2.1 hL.1.1 hc htc hA) ?_
              intro r4 e4
              refine p_if (fun _ => ?_) (fun z => absurd (e4.mpr hag) z)
              refine p_bind (r_A_forget hL.2.1 (wSet C c k to A) T) ?_
              rintro ⟨v5, A5⟩ h5
              refine p_bind (p_Lput (T := T) (σ := L_classes σ) h.1.1 hL.1.1 hc htc ek hW'.1.1) ?_
              rintro ⟨v6, C6⟩ ⟨e6, h6⟩
              replace e6 : v6 = nI (Wd (wSet C c k to A) c) := e6
              exact p_some ⟨congrArg Sum.inl e6, ⟨h6, hL.1.2⟩, h5, hL.2.2⟩
            · refine p_Mabove_28 h hM hc hto (fun q => absurd hm q) (fun _ => ?_)
              refine p_Mabove_mid h hM hc hto hx (fun q => absurd ⟨A, rfl, hA⟩ q) (fun A' eA' hA' => ?_)
              unfold f_M_above_203 f_M_partsWay
              refine p_bind (r_M_partsWay_6 (μ := μ) h.1 hM.1 hc htc hA 1000 0 0 (M_found μ) (M_foundHow μ) (M_foundType μ) (by omega) (Or.inl ⟨rfl, fun b hb => by omega⟩)) ?_
              rintro ⟨v, τ⟩ ⟨e, a', h', g', eτ⟩
              replace eτ : τ = mF μ a' h' g' := eτ
              subst eτ
              have hMτ : RM (mF μ a' h' g') C g T d := hM
              exact p_if (fun _ => p_Mabove_put h hMτ hc htc ek hW'.1.1) (fun z => absurd (e.mpr hag) z)
          · refine R_thr h 2 (lgo (fun K N => ?_)) (rgo ?_)
            · unfold f_L_above_14
              refine p_bind (r_C_mayGet h.1.1 hL.1.1 hc hto) ?_
              intro r2 e2
              refine p_if (fun z => absurd hm (e2.mp z)) (fun _ => ?_)
              refine p_bind (r_L_isTellable h.1 hL.1 hc hto hx) ?_
              intro r3 e3
              refine p_if (fun z => ?_) (fun _ => ?_)
              · rcases e3 with ⟨_, w⟩ | ⟨w, _⟩
                · exact absurd ⟨A, rfl, hA⟩ w
                · exact absurd z w
              refine p_bind (r_C_clashes h.1.1 h.1.2.2.1 hL.1.1 hc htc hA) ?_
              intro r4 e4
              exact p_if (fun z => absurd (e4.mp z) hag) (fun _ => p_some ⟨rfl, hL⟩)
            · refine p_Mabove_28 h hM hc hto (fun q => absurd hm q) (fun _ => ?_)
              refine p_Mabove_mid h hM hc hto hx (fun q => absurd ⟨A, rfl, hA⟩ q) (fun A' eA' hA' => ?_)
              unfold f_M_above_203 f_M_partsWay
              refine p_bind (r_M_partsWay_6 (μ := μ) h.1 hM.1 hc htc hA 1000 0 0 (M_found μ) (M_foundHow μ) (M_foundType μ) (by omega) (Or.inl ⟨rfl, fun b hb => by omega⟩)) ?_
              rintro ⟨v, τ⟩ ⟨e, a', h', g', eτ⟩
              replace eτ : τ = mF μ a' h' g' := eτ
              subst eτ
              have hMτ : RM (mF μ a' h' g') C g T d := hM
              exact p_if (fun z => absurd (e.mp z) hag) (fun _ => p_Mabove_thr hMτ (by decide))
        · refine R_thr h 3 (lgo (fun K N => ?_)) (rgo ?_)
          · unfold f_L_above_14
            refine p_bind (r_C_mayGet h.1.1 hL.1.1 hc hto) ?_
            intro r2 e2
            refine p_if (fun z => absurd hm (e2.mp z)) (fun _ => ?_)
            refine p_bind (r_L_isTellable h.1 hL.1 hc hto hx) ?_
            intro r3 e3
            refine p_if (fun _ => p_some ⟨rfl, hL⟩) (fun z => ?_)
            rcases e3 with ⟨w, _⟩ | ⟨_, w⟩
            · exact absurd w z
            · exact absurd w ht
          · refine p_Mabove_28 h hM hc hto (fun q => absurd hm q) (fun _ => ?_)
            exact p_Mabove_mid h hM hc hto hx (fun _ => p_Mabove_thr hM (by decide)) (fun A eA hA => absurd ⟨A, eA, hA⟩ ht)
      · refine R_thr h 2 (lgo (fun K N => ?_)) (rgo ?_)
        · unfold f_L_above_14
          refine p_bind (r_C_mayGet h.1.1 hL.1.1 hc hto) ?_
          intro r2 e2
          exact p_if (fun _ => p_some ⟨rfl, hL⟩) (fun z => absurd (e2.mpr hm) z)
        · exact p_Mabove_28 h hM hc hto (fun _ => p_Mabove_thr hM (by decide)) (fun q => absurd q hm)
    · refine R_thr h 1 ?_ ?_
      · unfold f_L_above
        refine p_rc (fun z => absurd z (rC_there h.1.1 hL.1.1 hto)) (fun _ => p_ad ?_)
        refine p_if (fun z => absurd (Or.inl z) hx) (fun _ => ?_)
        exact p_rt (fun _ => p_ad (p_some ⟨rfl, hL⟩)) (fun z => absurd (rT_not h.1.2 hL.1.2 (fun q => hx (Or.inr q))) z)
      · unfold f_M_above
        rw [if_neg (R_isClass h hM hto)]
        refine p_if (fun _ => p_Mabove_27 h hM _ _ _) (fun z => ?_)
        rw [hM.2.1.1] at z
        have np : ¬ x2 < 0 := fun q => hx (Or.inl q)
        obtain ⟨j, hj, rfl⟩ := nI_of np
        rw [nI_leI (by omega) hj] at z
        exact absurd (Or.inr ⟨j, by omega, rfl⟩) hx
  · refine R_thr h 1 ?_ ?_
    · unfold f_L_above
      exact p_rc (fun _ => p_ad (p_some ⟨rfl, hL⟩)) (fun z => absurd (rC_not h.1.1 hL.1.1 h1) z)
    · unfold f_M_above
      rw [if_pos (R_noClass h hM h1)]
      exact p_Mabove_27 h hM _ _ _
end
-- part 08.94.init.lean.txt
/-! Tier 3: the first states, side by side. -/
abbrev c0f (c : Nat) : Bool := decide (c = 1 ∨ c = 2 ∨ c = 3)
abbrev c0g (c : Nat) : Bool := decide (c = 3)
abbrev c0d (c : Nat) : Nat := if c = 0 then 0 else if c ≤ 3 then 1 else if c = 4 then 2 else 3
abbrev c0o (c k : Nat) : Nat := if c ≤ 3 then 0 else if c = 4 then (if k = 0 then 0 else 2) else if k = 0 then (if c = 5 ∨ c = 8 then 0 else 4) else if k = 1 then 2 else 3
abbrev c0a (c k : Nat) : Nat := if 5 ≤ c ∧ k = 2 then 4 * (c + 3) + 1 else 0
abbrev c0u (c b : Nat) : Bool := if c = 0 then false else if c ≤ 3 then decide (b = 0) else if c = 4 then decide (b = 0 ∨ b = 2) else decide (b = 0 ∨ b = 2 ∨ b = 3 ∨ (b = 4 ∧ c ≠ 5 ∧ c ≠ 8))
def wC0 : wWc := (13, c0f, c0g, c0d, c0o, c0a, c0u)
def wT0 : wWt := (16, (fun i => if i < 8 then (0, 0, 0, []) else (1, i - 3, 0, [])), fun _ => 1)
theorem c0_lt {c b : Nat} (h : c0u c b = true) : b < 5 := by
  unfold c0u at h
  by_cases h0 : c = 0
  · rw [if_pos h0] at h; cases h
  · rw [if_neg h0] at h
    by_cases h1 : c ≤ 3
    · rw [if_pos h1] at h
      have := of_decide_eq_true h
      omega
    · rw [if_neg h1] at h
      by_cases h2 : c = 4
      · rw [if_pos h2] at h
        have := of_decide_eq_true h
        omega
      · rw [if_neg h2] at h
        have := of_decide_eq_true h
        omega
theorem c0_3 : ∀ c, c < 13 → c0d c ≤ c ∧ (0 < c → 0 < c0d c) := by decide
theorem c0_4 : ∀ c, c < 13 → ∀ k, k < c0d c → c0o c k < c ∧ ((c0g (c0o c k) = false ∧ c0a c k = 0) ∨ (c0g (c0o c k) = true ∧ 5 ≤ c ∧ c0a c k = 4 * (c + 3) + 1)) := by decide +kernel
theorem c0_5 : ∀ c, c < 13 → ∀ l, l < c0d c → ∀ k, k < l → c0o c k ≠ c0o c l := by decide +kernel
theorem c0_6 : ∀ c, c < 13 → ∀ b, b < 13 → (c0u c b = true ↔ (List.range (c0d c)).any (fun k => decide (c0o c k = b) || c0u (c0o c k) b) = true) := by decide +kernel
theorem c0_7' : ∀ c, c < 13 → ∀ b, b < 13 → ∀ k, k < c0d c → ((!(c0g b) || !(wTw wC0 (c0o c k) b)) || decide (wCl wC0 c 3 b = wCl wC0 (c0o c k) (c0a c k) b)) = true := by decide +kernel
theorem c0_7 (c : Nat) (hc : c < 13) (b : Nat) (hb : b < 13) (k : Nat) (hk : k < c0d c) (h1 : c0g b = true) (h2 : wTw wC0 (c0o c k) b = true) : wCl wC0 c 3 b = wCl wC0 (c0o c k) (c0a c k) b := by
  have h := c0_7' c hc b hb k hk
  rw [h1, h2] at h
  exact of_decide_eq_true h
theorem wC0_ok : wCok wC0 16 := by
  refine ⟨Nat.le_refl _, by show 13 ≤ 30; omega, c0_3, fun c k hc hk => ?_, fun c k l hc hkl hl => c0_5 c hc l hl k hkl, fun c b hc => ?_, fun c b k hc hb hg hk hu => c0_7 c hc b hb k hk hg hu, fun c hc => ?_, fun c b hc hu => ?_⟩
  · obtain ⟨h1, h2 | ⟨h2, h3, h4⟩⟩ := c0_4 c hc k hk
    · exact ⟨h1, Or.inl h2⟩
    · replace hc : c < 13 := hc
      exact ⟨h1, Or.inr ⟨h2, Or.inl ⟨c + 3, by omega, by omega, h4⟩⟩⟩
  · have key : ∀ k, wTw wC0 (c0o c k) b = (decide (c0o c k = b) || c0u (c0o c k) b) := fun _ => rfl
    by_cases hb : b < 13
    · show c0u c b = true ↔ _
      rw [c0_6 c hc b hb, List.any_eq_true]
      constructor
      · rintro ⟨k, k1, k2⟩
        exact ⟨k, List.mem_range.mp k1, k2⟩
      · rintro ⟨k, k1, k2⟩
        exact ⟨k, List.mem_range.mpr k1, k2⟩
    · constructor
      · intro q
        have := c0_lt (c := c) (b := b) q
        omega
      · rintro ⟨k, k1, k2⟩
        have k3 : (decide (c0o c k = b) || c0u (c0o c k) b) = true := k2
        have k4 := (c0_4 c hc k k1).1
        replace hc : c < 13 := hc
        rw [Bool.or_eq_true, decide_eq_true_eq] at k3
        rcases k3 with e | e
        · omega
        · have := c0_lt e
          omega
  · show c0g c = false
    exact decide_eq_false (by omega)
  · have : c0u c b = true := hu
    rcases (show c = 0 ∨ c = 1 ∨ c = 2 by omega) with e | e | e
    · subst e; cases this
    · subst e
      have h2 : decide (b = 0) = true := this
      have := of_decide_eq_true h2
      omega
    · subst e
      have h2 : decide (b = 0) = true := this
      have := of_decide_eq_true h2
      omega
theorem wT0_ty {i : Nat} (h : i < 8) : Ty wT0 i = (0, 0, 0, []) := if_pos h
theorem wT0_ty2 {i : Nat} (h : 8 ≤ i) : Ty wT0 i = (1, i - 3, 0, []) := if_neg (by omega)
theorem c0_g {i : Nat} (h : 5 ≤ i) : c0g i = false := decide_eq_false (by omega)
theorem wT0_ok : wTok wC0 wT0 := by
  refine ⟨Nat.le_refl _, by show 16 ≤ 300; omega, fun i hi => ⟨Nat.le_refl _, by show 1 ≤ 100; omega, ?_⟩, fun i h8 _ => wT0_ty2 h8⟩
  replace hi : i < 16 := hi
  by_cases h : i < 8
  · exact Or.inl ⟨h, wT0_ty h, rfl⟩
  · exact Or.inr (Or.inl ⟨by omega, i - 3, 0, wT0_ty2 (by omega), by show i - 3 < 13; omega, Or.inl ⟨c0_g (by omega), rfl⟩, rfl⟩)
theorem RW_0 {d : Nat} (hd : d ≤ 2) : RW wC0 1 wT0 d := by
  refine ⟨⟨wC0_ok, wT0_ok⟩, by omega, hd, rfl, fun c h1 h2 => ?_⟩
  replace h2 : c < 13 := h2
  omega
/-! the reference -/
abbrev zA (σ : StM) (c : Nat) : Prop := M_face σ c = b2 (c0f c) ∧ M_generic σ c = b2 (c0g c) ∧ M_directs σ c = nI (c0d c)
abbrev zB (σ : StM) (c k : Nat) : Prop := M_directTo σ (30 * c + k) = nI (c0o c k) ∧ M_directArg σ (30 * c + k) = wTd (c0a c k)
abbrev zC (σ : StM) (c b : Nat) : Prop := bt (M_over σ c) b = c0u c b
abbrev zT (σ : StM) (i : Nat) : Prop := M_made σ i = 1 ∧ ((i < 8 ∧ M_kind σ i = 0 ∧ M_classOf σ i = -1 ∧ M_how σ i = -1 ∧ M_inner σ i = -1 ∧ M_partCount σ i = 0) ∨ (8 ≤ i ∧ M_kind σ i = 1 ∧ M_classOf σ i = nI (i - 3) ∧ M_how σ i = 0 ∧ M_inner σ i = -1 ∧ M_partCount σ i = 1 ∧ M_partRow σ (30 * i) = nI i))
abbrev zS (σ : StM) (x : Int32) : Prop := M_classes σ = nI 13 ∧ M_generics σ = nI 1 ∧ M_types σ = nI 16 ∧ M_reckoned σ = 0 ∧ M_full σ = 0 ∧ M_depth σ = x
theorem z_S0 : zS (M1 (nI 0)) (nI 0) := by decide +kernel
theorem z_S1 : zS (M1 (nI 1)) (nI 1) := by decide +kernel
theorem z_S2 : zS (M1 (nI 2)) (nI 2) := by decide +kernel
theorem z_A0 : ∀ c, c < 13 → zA (M1 (nI 0)) c := by decide +kernel
theorem z_A1 : ∀ c, c < 13 → zA (M1 (nI 1)) c := by decide +kernel
theorem z_A2 : ∀ c, c < 13 → zA (M1 (nI 2)) c := by decide +kernel
theorem z_B0 : ∀ c, c < 13 → ∀ k, k < c0d c → zB (M1 (nI 0)) c k := by decide +kernel
theorem z_B1 : ∀ c, c < 13 → ∀ k, k < c0d c → zB (M1 (nI 1)) c k := by decide +kernel
theorem z_B2 : ∀ c, c < 13 → ∀ k, k < c0d c → zB (M1 (nI 2)) c k := by decide +kernel
theorem z_C0 : ∀ c, c < 13 → ∀ b, b < 32 → zC (M1 (nI 0)) c b := by decide +kernel
theorem z_C1 : ∀ c, c < 13 → ∀ b, b < 32 → zC (M1 (nI 1)) c b := by decide +kernel
theorem z_C2 : ∀ c, c < 13 → ∀ b, b < 32 → zC (M1 (nI 2)) c b := by decide +kernel
theorem z_T0 : ∀ i, i < 16 → zT (M1 (nI 0)) i := by decide +kernel
theorem z_T1 : ∀ i, i < 16 → zT (M1 (nI 1)) i := by decide +kernel
theorem z_T2 : ∀ i, i < 16 → zT (M1 (nI 2)) i := by decide +kernel
theorem z_RM {σ : StM} {d : Nat} (h1 : zS σ (nI d)) (h2 : ∀ c, c < 13 → zA σ c) (h3 : ∀ c, c < 13 → ∀ k, k < c0d c → zB σ c k) (h4 : ∀ c, c < 13 → ∀ b, b < 32 → zC σ c b) (h5 : ∀ i, i < 16 → zT σ i) : RM σ wC0 1 wT0 d := by
  obtain ⟨s1, s2, s3, s4, s5, s6⟩ := h1
  refine ⟨⟨s1, s2, fun c hc => ⟨(h2 c hc).1, (h2 c hc).2.1, (h2 c hc).2.2, fun k hk => h3 c hc k hk, fun b hb => h4 c hc b hb⟩⟩, ⟨s3, fun i hi => ?_⟩, ⟨0, Nat.zero_le _, s4, fun e => ?_⟩, s5, s6⟩
  · obtain ⟨m, ⟨a1, a2, a3, a4, a5, a6⟩ | ⟨a1, a2, a3, a4, a5, a6, a7⟩⟩ := h5 i hi
    · have e := wT0_ty a1
      unfold rMtr
      rw [e]
      refine ⟨a2, a3, a4, a5, m, a6, fun k hk => ?_⟩
      have : (wPs wT0 i).length = 0 := by unfold wPs; rw [e]; rfl
      omega
    · have e := wT0_ty2 a1
      unfold rMtr
      have ep : wPs wT0 i = [i] := by unfold wPs; rw [e]; rfl
      rw [e]
      refine ⟨a2, a3, a4, a5, m, a6, fun k hk => ?_⟩
      have hk' : k < 1 := by rw [ep] at hk; exact hk
      have k0 : k = 0 := by omega
      subst k0
      have e2 : (wPs wT0 i)[0] = i := by simp [ep]
      rw [e2]; exact a7
  · replace e : (0 : Nat) = 16 := e
    omega
theorem z_M0 : RM (M1 (nI 0)) wC0 1 wT0 0 := z_RM (σ := M1 (nI 0)) (d := 0) z_S0 z_A0 z_B0 z_C0 z_T0
theorem z_M1 : RM (M1 (nI 1)) wC0 1 wT0 1 := z_RM (σ := M1 (nI 1)) (d := 1) z_S1 z_A1 z_B1 z_C1 z_T1
theorem z_M2 : RM (M1 (nI 2)) wC0 1 wT0 2 := z_RM (σ := M1 (nI 2)) (d := 2) z_S2 z_A2 z_B2 z_C2 z_T2
theorem z_pc {o : Option (Int32 × StM)} {z : Int32 × StM} {P : StM → Prop} (hp : P (o.getD z).2) : k_pc o (fun r => P r.2) := by
  intro r e
  rw [e] at hp; exact hp
theorem R0_M (x1 : Int32) {d : Nat} (hd : d ≤ 2) (hx : (0 ≤ x1 ∧ x1 ≤ 2 ∧ x1 = nI d) ∨ (0 ≤ x1 ∧ ¬ x1 ≤ 2 ∧ d = 2) ∨ (¬ 0 ≤ x1 ∧ d = 0)) : k_pc (f_M_init_205 (M0 0) x1) (fun r => RM r.2 wC0 1 wT0 d) := by
  have all : ∀ d, d ≤ 2 → k_pc (f_M_init_229 1000 (M0 (nI d)) 0) (fun r => RM r.2 wC0 1 wT0 d) := by
    intro d hd
    rcases (show d = 0 ∨ d = 1 ∨ d = 2 by omega) with e | e | e
    · subst e; exact z_pc (P := fun σ => RM σ wC0 1 wT0 0) (z := (0, M0 (nI 0))) z_M0
    · subst e; exact z_pc (P := fun σ => RM σ wC0 1 wT0 1) (z := (0, M0 (nI 1))) z_M1
    · subst e; exact z_pc (P := fun σ => RM σ wC0 1 wT0 2) (z := (0, M0 (nI 2))) z_M2
  unfold f_M_init_205
  rcases hx with ⟨w1, w2, w3⟩ | ⟨w1, w2, w3⟩ | ⟨w1, w3⟩
  · rw [if_pos w1, if_pos w2, w3]
    exact all d hd
  · rw [if_pos w1, if_neg w2]
    subst w3
    exact all 2 hd
  · rw [if_neg w1]
    subst w3
    exact all 0 hd
/-! the class -/
abbrev C1 : StC := ((f_C_init_54 C0).getD (0, C0)).2
abbrev T1 : StT := ((f_T_init_75 T0).getD (0, T0)).2
abbrev yA (σ : StC) (c : Nat) : Prop := C_faces σ c = b2 (c0f c) ∧ C_generics σ c = b2 (c0g c) ∧ C_directCounts σ c = nI (c0d c)
abbrev yB (σ : StC) (c k : Nat) : Prop := C_directs σ (c * 30 + k) = nI (c0o c k) ∧ C_tolds σ (c * 30 + k) = wTd (c0a c k)
abbrev yC (σ : StC) (c b : Nat) : Prop := bt (C_above σ c) b = c0u c b
abbrev yT (σ : StT) (i : Nat) : Prop := T_arguments σ i = 0 ∧ T_elements σ i = -1 ∧ T_sizes σ i = 1 ∧ ((i < 8 ∧ T_kinds σ i = 0 ∧ T_named σ i = -1 ∧ T_partCounts σ i = 0) ∨ (8 ≤ i ∧ T_kinds σ i = 1 ∧ T_named σ i = nI (i - 3) ∧ T_partCounts σ i = 1))
theorem y_S : C_count C1 = nI 13 ∧ C_countGeneric C1 = nI 1 := by decide +kernel
theorem y_A : ∀ c, c < 13 → yA C1 c := by decide +kernel
theorem y_B : ∀ c, c < 13 → ∀ k, k < c0d c → yB C1 c k := by decide +kernel
theorem y_C : ∀ c, c < 13 → ∀ b, b < 32 → yC C1 c b := by decide +kernel
theorem y_D : ∀ c, c < 30 → 13 ≤ c → C_directCounts C1 c = 0 ∧ C_above C1 c = 0 := by decide +kernel
theorem y_TS : T_count T1 = nI 16 ∧ T_partsUsed T1 = nI 0 ∧ T_settledCount T1 = nI 16 ∧ T_settledParts T1 = nI 0 ∧ (T_parts T1).1 = 64 := by decide +kernel
theorem y_T : ∀ i, i < 16 → yT T1 i := by decide +kernel
theorem y_rC : rC C1 wC0 1 := ⟨y_S.1, y_S.2, fun c hc => ⟨(y_A c hc).1, (y_A c hc).2.1, (y_A c hc).2.2, fun k hk => y_B c hc k hk, fun b hb => y_C c hc b hb⟩, fun c h1 h2 => y_D c h2 h1⟩
theorem y_rT : rT T1 wT0 wT0 := by
  obtain ⟨s1, s2, s3, s4, s5⟩ := y_TS
  have rows : ∀ i, i < Tn wT0 → rTr T1 wT0 0 i := by
    intro i hi
    obtain ⟨a, b, c, ⟨a1, a2, a3, a4⟩ | ⟨a1, a2, a3, a4⟩⟩ := y_T i hi
    · unfold rTr
      rw [wT0_ty a1]
      exact ⟨a2, a3, a, b, c, a4, fun q => by cases q⟩
    · unfold rTr
      rw [wT0_ty2 a1]
      exact ⟨a2, a3, a, b, c, a4, fun q => by cases q⟩
  exact ⟨0, 0, s1, s2, s3, s4, Nat.le_refl _, Nat.zero_le _, Nat.zero_le _, Nat.zero_le _, by rw [s5]; exact Nat.le_refl _, by rw [s5]; omega, Nat.le_refl _, rows, rows⟩
theorem R0_C : k_pc (f_C_init_54 C0) (fun r => rC r.2 wC0 1) := by
  intro r e
  have h := y_rC
  unfold C1 at h
  rw [e] at h; exact h
theorem R0_T : k_pc (f_T_init_75 T0) (fun r => rT r.2 wT0 wT0) := by
  intro r e
  have h := y_rT
  unfold T1 at h
  rw [e] at h; exact h
theorem R0_A : k_pc (f_A_init_13 ((fun _ => 0), 0)) (fun r => rA r.2 wC0 wT0) := by
  refine p_some ⟨fun a b _ _ => ⟨fun q => ?_, fun q => ?_⟩, Or.inr (fun p k _ _ => ?_)⟩
  · have : aB (A_set_empty ((fun _ => 0), 0) 1) (300 * a + b) 0 = false := b_0 _
    rw [this] at q; cases q
  · have : aB (A_set_empty ((fun _ => 0), 0) 1) (300 * a + b) 1 = false := b_0 _
    rw [this] at q; cases q
  · exact b_0 _
