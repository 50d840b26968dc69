/-! Tier 3: the reference's table of BELOW. -/
def tB (β : Nat → Int32) (C : wWc) (T : wWt) (a b : Nat) : Prop := (β (300 * a + b) = 0 ∨ β (300 * a + b) = 1) ∧ (β (300 * a + b) = 1 ↔ wB C T a b)
theorem k_one1 {x : Int32} (h : x = 0 ∨ x = 1) : x &&& 1 = x := by
  rcases h with e | e <;> rw [e] <;> decide
section
variable {σ : StM} {C : wWc} {T : wWt} {g : Nat}
theorem tB_no {β : Nat → Int32} {a b : Nat} (h : tB β C T a b) (q : β (300 * a + b) = 0) : ¬ wB C T a b := fun w => by
  have := h.2.mpr w
  rw [q] at this; exact absurd this k_01
theorem tB_ye {β : Nat → Int32} {a b : Nat} (h : tB β C T a b) (q : ¬ β (300 * a + b) = 0) : wB C T a b := h.2.mp (h.1.resolve_left q)
theorem r_M_isBelowAll_5 (h : wOK C T) (q : rMt σ T) {a b : Nat} (ha : a < Tn T) (hb : b < Tn T) (h3 : dK (Ty T b) = 3) (ht : ∀ p, p < b → tB (M_below σ) C T a p) :
    ∀ (f k : Nat) (x3 : Int32), k ≤ (dL (Ty T b)).length → (x3 = 0 ∨ x3 = 1) → k_pc (f_M_isBelowAll_5 f σ (nI a) (nI b) x3 (nI k)) (fun v => (v = 0 ∨ v = 1) ∧ (v = 1 ↔ x3 = 1 ∧ ∀ p, p ∈ (dL (Ty T b)).drop k → wB C T a p)) := by
  have hn := h.2.2.1
  obtain ⟨_, b2', b3, b4, _⟩ := wT_both h.2 hb h3
  have el : wPs T b = dL (Ty T b) := by unfold wPs; rw [if_neg (by omega)]
  have ec : M_partCount σ b = nI (dL (Ty T b)).length := by
    rw [(q.2 b hb).2.2.2.2.2.1]; unfold wPc; rw [if_neg (by omega)]
  intro f
  induction f with
  | zero => intro k x3 _ _; exact p_none
  | succ f ih =>
    intro k x3 hk hx
    rw [f_M_isBelowAll_5]
    unfold f_M_isBelowAll_5_s
    rw [nI_clamp (show b < 2 ^ 31 by omega), ec]
    refine p_guard (fun _ => p_if (fun z => p_some ?_) (fun z => ?_))
    · rw [nI_leI (by omega) (by omega)] at z
      rw [k_one1 hx, show k = (dL (Ty T b)).length by omega, List.drop_length]
      exact ⟨hx, ⟨fun e => ⟨e, fun p hp => absurd hp (by simp)⟩, fun e => e.1⟩⟩
    · rw [nI_leI (by omega) (by omega)] at z
      have hk' : k < (dL (Ty T b)).length := by omega
      obtain ⟨p1, p2, p3⟩ := b4 _ (List.getElem_mem hk')
      rw [nI_1, List.drop_eq_getElem_cons hk']
      have no : x3 = 0 ∨ ¬ wB C T a (dL (Ty T b))[k] → k_pc (f_M_isBelowAll_5 f σ (nI a) (nI b) 0 (nI (k + 1))) (fun v => (v = 0 ∨ v = 1) ∧ (v = 1 ↔ x3 = 1 ∧ ∀ p, p ∈ (dL (Ty T b))[k] :: (dL (Ty T b)).drop (k + 1) → wB C T a p)) := by
        intro w
        refine p_mono (ih (k + 1) 0 (by omega) (Or.inl rfl)) ?_
        rintro v ⟨v1, v2⟩
        refine ⟨v1, v2.trans ⟨fun u => absurd u.1 k_01, fun u => ?_⟩⟩
        rcases w with w | w
        · rw [w] at u; exact absurd u.1 k_01
        · exact absurd (u.2 _ List.mem_cons_self) w
      refine p_if (fun y => no (Or.inl y)) (fun y => ?_)
      have cl : (30 * nI b + nI k).toNatClampNeg = 30 * b + k := by rw [k_30ix]; exact nI_clamp (by omega)
      have er : M_partRow σ (30 * b + k) = nI (dL (Ty T b))[k] := by
        rw [(q.2 b hb).2.2.2.2.2.2 k (by rw [el]; exact hk')]; congr 1; simp [el]
      have c3 : (300 * nI a + nI (dL (Ty T b))[k]).toNatClampNeg = 300 * a + (dL (Ty T b))[k] := by rw [k_300ix]; exact nI_clamp (by omega)
      rw [cl, er, c3]
      have tb := ht _ p2
      refine p_guard (fun _ => p_guard (fun _ => p_if (fun w => no (Or.inr (tB_no tb w))) (fun w => ?_)))
      refine p_mono (ih (k + 1) 1 (by omega) (Or.inr rfl)) ?_
      rintro v ⟨v1, v2⟩
      have x1 := hx.resolve_left y
      refine ⟨v1, v2.trans ⟨fun u => ⟨x1, fun p hp => ?_⟩, fun u => ⟨rfl, fun p hp => u.2 p (List.mem_cons_of_mem _ hp)⟩⟩⟩
      rcases List.mem_cons.mp hp with e | e
      · rw [e]; exact tB_ye tb w
      · exact u.2 p e
theorem r_M_isBelowArray (h : wOK C T) (q : rMt σ T) {a b : Nat} (ha : a < Tn T) (hb : b < Tn T) (h2 : dK (Ty T b) = 2) (ht : ∀ x p, x < Tn T → p < b → tB (M_below σ) C T x p) : k_pc (f_M_isBelowArray σ (nI a) (nI b)) (fun v => (v = 0 ∨ v = 1) ∧ (v = 1 ↔ (dK (Ty T a) = 2 ∧ dK (Ty T b) = 2 ∧ 8 ≤ dX (Ty T a) ∧ 8 ≤ dX (Ty T b) ∧ wB C T (dX (Ty T a)) (dX (Ty T b))))) := by
  have hn := h.2.2.1
  have kl := wK_lt h.2 ha
  obtain ⟨_, b3, _⟩ := wT_arr h.2 hb h2
  have ib : M_inner σ b = nI (dX (Ty T b)) := by rw [(q.2 b hb).2.2.2.1, if_neg (by omega), if_pos h2]
  have no : ∀ {P : Prop}, ¬ P → ((0 : Int32) = 0 ∨ (0 : Int32) = 1) ∧ ((0 : Int32) = 1 ↔ P) := fun w => ⟨Or.inl rfl, ⟨fun u => absurd u k_01, fun u => absurd u w⟩⟩
  unfold f_M_isBelowArray
  rw [nI_clamp (show a < 2 ^ 31 by omega), nI_clamp (show b < 2 ^ 31 by omega), (q.2 a ha).1, ib]
  refine p_guard (fun _ => p_if (fun z => ?_) (fun z => p_some (no (fun w => z (by rw [w.1]; rfl)))))
  have z2 : nI (dK (Ty T a)) = nI 2 := z
  rw [nI_eq (by omega) (by decide)] at z2
  obtain ⟨_, a3, _⟩ := wT_arr h.2 ha z2
  have ia : M_inner σ a = nI (dX (Ty T a)) := by rw [(q.2 a ha).2.2.2.1, if_neg (by omega), if_pos z2]
  rw [ia]
  refine p_guard (fun _ => p_if (fun y => p_some (no (fun w => ?_))) (fun y => p_guard (fun _ => p_if (fun y' => p_some (no (fun w => ?_))) (fun y' => ?_))))
  · have y2 : nI (dX (Ty T a)) ≤ nI 7 := y
    rw [nI_leI (by omega) (by decide)] at y2
    omega
  · have y2 : nI (dX (Ty T b)) ≤ nI 7 := y'
    rw [nI_leI (by omega) (by decide)] at y2
    omega
  · have y2 : ¬ nI (dX (Ty T a)) ≤ nI 7 := y
    rw [nI_leI (by omega) (by decide)] at y2
    have y3 : ¬ nI (dX (Ty T b)) ≤ nI 7 := y'
    rw [nI_leI (by omega) (by decide)] at y3
    have c3 : (300 * nI (dX (Ty T a)) + nI (dX (Ty T b))).toNatClampNeg = 300 * dX (Ty T a) + dX (Ty T b) := by rw [k_300ix]; exact nI_clamp (by omega)
    have tb := ht (dX (Ty T a)) (dX (Ty T b)) (by omega) (by omega)
    rw [c3]
    refine p_guard (fun _ => p_guard (fun _ => p_guard (fun _ => p_if (fun w => p_some (no (fun u => tB_no tb w u.2.2.2.2))) (fun w => p_some ⟨Or.inr rfl, ⟨fun _ => ⟨z2, h2, by omega, by omega, tB_ye tb w⟩, fun _ => rfl⟩⟩))))
theorem r_M_isBelowNamed_27 (h : wOK C T) (r : rMc σ C g) (q : rMt σ T) {a b : Nat} (ha : a < Tn T) (hb : b < Tn T) (h1 : dK (Ty T b) = 1) (ht : ∀ x p, x < Tn T → p < b → tB (M_below σ) C T x p) :
    ∀ (f k : Nat) (x3 aa hh gg : Int32), k ≤ (wPt T a).length → (x3 = 0 ∨ x3 = 1) → k_pc (f_M_isBelowNamed_27 f (mF σ aa hh gg) (nI a) (nI b) x3 (nI (wPt T a).length) (nI k)) (fun v => (v.1 = 0 ∨ v.1 = 1) ∧ (v.1 = 1 ↔ (x3 = 1 ∨ ∃ x r, x ∈ (wPt T a).drop k ∧ wLk C T x (dX (Ty T b)) = some r ∧ wFit C T r (dA (Ty T b)))) ∧ ∃ a' h' g', v.2 = mF σ a' h' g') := by
  have hn := h.2.2.1
  obtain ⟨_, c1, c2, _⟩ := wT_named h.2 hb h1
  have cb : (nI b).toNatClampNeg = b := nI_clamp (by omega)
  obtain ⟨l1, l2⟩ := wPt_len h.2 ha
  have l30 : (wPt T a).length ≤ 30 := by
    rw [l1]; have := wPc_le h.2 ha; split <;> omega
  have eC : M_classOf σ b = nI (dX (Ty T b)) := by rw [(q.2 b hb).2.1, if_pos h1]
  have eH : M_how σ b = wH (dA (Ty T b)) := by rw [(q.2 b hb).2.2.1, if_pos h1]
  have eI : M_inner σ b = wTd (dA (Ty T b)) := by rw [(q.2 b hb).2.2.2.1, if_pos h1]
  intro f
  induction f with
  | zero => intro k x3 aa hh gg _ _; exact p_none
  | succ f ih =>
    intro k x3 aa hh gg hk hx
    rw [f_M_isBelowNamed_27]
    unfold f_M_isBelowNamed_27_s
    refine p_if (fun z => p_some ?_) (fun z => ?_)
    · rw [nI_leI (by omega) (by omega)] at z
      refine ⟨by show x3 &&& 1 = 0 ∨ x3 &&& 1 = 1; rw [k_one1 hx]; exact hx, ?_, aa, hh, gg, rfl⟩
      show x3 &&& 1 = 1 ↔ _
      rw [k_one1 hx, show k = (wPt T a).length by omega, List.drop_length]
      exact ⟨Or.inl, fun e => e.resolve_right (fun ⟨x, s, hx, _⟩ => absurd hx (by simp))⟩
    · rw [nI_leI (by omega) (by omega)] at z
      have hk' : k < (wPt T a).length := by omega
      have mem := List.getElem_mem hk'
      obtain ⟨p1, p2⟩ := wPt_ok h.2 ha mem
      refine p_if (fun y => ?_) (fun y => p_some ?_)
      rotate_left
      · have x1 := hx.resolve_left y
        refine ⟨by show x3 &&& 1 = 0 ∨ x3 &&& 1 = 1; rw [k_one1 hx]; exact hx, ?_, aa, hh, gg, rfl⟩
        show x3 &&& 1 = 1 ↔ _
        rw [k_one1 hx]
        exact ⟨Or.inl, fun _ => x1⟩
      subst y
      have no : ∀ a' h' g' : Int32, (∀ s, wLk C T (wPt T a)[k] (dX (Ty T b)) = some s → ¬ wFit C T s (dA (Ty T b))) → k_pc (f_M_isBelowNamed_27 f (mF σ a' h' g') (nI a) (nI b) 0 (nI (wPt T a).length) (nI k + 1)) (fun v => (v.1 = 0 ∨ v.1 = 1) ∧ (v.1 = 1 ↔ ((0 : Int32) = 1 ∨ ∃ x r, x ∈ (wPt T a).drop k ∧ wLk C T x (dX (Ty T b)) = some r ∧ wFit C T r (dA (Ty T b)))) ∧ ∃ a' h' g', v.2 = mF σ a' h' g') := by
        intro a' h' g' hno
        rw [nI_1, List.drop_eq_getElem_cons hk']
        refine p_mono (ih (k + 1) 0 a' h' g' (by omega) (Or.inl rfl)) ?_
        rintro v ⟨v1, v2, v3⟩
        refine ⟨v1, v2.trans ⟨fun u => ?_, fun u => ?_⟩, v3⟩
        · rcases u with u | ⟨x, s, x1, x2, x3⟩
          · exact absurd u k_01
          · exact Or.inr ⟨x, s, List.mem_cons_of_mem _ x1, x2, x3⟩
        · rcases u with u | ⟨x, s, x1, x2, x3⟩
          · exact absurd u k_01
          · rcases List.mem_cons.mp x1 with e | e
            · rw [e] at x2; exact absurd x3 (hno s x2)
            · exact Or.inr ⟨x, s, e, x2, x3⟩
      have ye : ∀ (a' h' g' : Int32) (s : Nat), wLk C T (wPt T a)[k] (dX (Ty T b)) = some s → wFit C T s (dA (Ty T b)) → k_pc (f_M_isBelowNamed_158 (f_M_isBelowNamed_27 f) (mF σ a' h' g') (nI a) (nI b) (nI (wPt T a).length) (nI k)) (fun v => (v.1 = 0 ∨ v.1 = 1) ∧ (v.1 = 1 ↔ ((0 : Int32) = 1 ∨ ∃ x r, x ∈ (wPt T a).drop k ∧ wLk C T x (dX (Ty T b)) = some r ∧ wFit C T r (dA (Ty T b)))) ∧ ∃ a' h' g', v.2 = mF σ a' h' g') := by
        intro a' h' g' s hs hf
        unfold f_M_isBelowNamed_158
        rw [nI_1, List.drop_eq_getElem_cons hk']
        refine p_mono (ih (k + 1) 1 a' h' g' (by omega) (Or.inr rfl)) ?_
        rintro v ⟨v1, v2, v3⟩
        exact ⟨v1, ⟨fun _ => Or.inr ⟨_, s, List.mem_cons_self, hs, hf⟩, fun _ => v2.mpr (Or.inl rfl)⟩, v3⟩
      have key : k_pc (f_M_isBelowNamed_64 (f_M_isBelowNamed_27 f) (mF σ aa hh gg) (nI a) (nI b) (nI (wPt T a).length) (nI k) (nI (wPt T a)[k])) (fun v => (v.1 = 0 ∨ v.1 = 1) ∧ (v.1 = 1 ↔ ((0 : Int32) = 1 ∨ ∃ x r, x ∈ (wPt T a).drop k ∧ wLk C T x (dX (Ty T b)) = some r ∧ wFit C T r (dA (Ty T b)))) ∧ ∃ a' h' g', v.2 = mF σ a' h' g') := by
        unfold f_M_isBelowNamed_64
        rw [cb, show M_classOf (mF σ aa hh gg) b = nI (dX (Ty T b)) from eC]
        refine p_guard (fun _ => p_bind (r_M_lookAt (σ := mF σ aa hh gg) (g := g) h r q p1 c1) ?_)
        rintro ⟨v, τ⟩ hv
        cases hl : wLk C T (wPt T a)[k] (dX (Ty T b)) with
        | none =>
          rw [hl] at hv
          obtain ⟨h', g', e⟩ := hv
          replace e : τ = mF σ 0 h' g' := e
          subst e
          refine p_if (fun _ => no 0 h' g' (fun s es => by rw [hl] at es; cases es)) (fun y => absurd rfl y)
        | some s =>
          rw [hl] at hv
          replace hv : τ = mF σ 1 (wH s) (wTd s) := hv
          subst hv
          have so := wLk_ok h p1 hl
          have nof : ¬ wFit C T s (dA (Ty T b)) → ∀ s', wLk C T (wPt T a)[k] (dX (Ty T b)) = some s' → ¬ wFit C T s' (dA (Ty T b)) := by
            intro w s' es
            rw [hl] at es
            cases es; exact w
          refine p_if (fun y => absurd y k_10) (fun _ => ?_)
          show k_pc (if nI b < 0 ∨ 300 ≤ b then none else if M_how (mF σ 1 (wH s) (wTd s)) b = 0 then _ else _) _
          rw [show M_how (mF σ 1 (wH s) (wTd s)) b = wH (dA (Ty T b)) from eH]
          refine p_guard (fun _ => ?_)
          have k125 : (wFit C T s (dA (Ty T b)) ↔ (dA (Ty T b) % 4 = 2 ∧ dA (Ty T b) ≠ 0 ∧ wB C T (s / 4) (dA (Ty T b) / 4))) → k_pc (f_M_isBelowNamed_125 (f_M_isBelowNamed_27 f) (mF σ 1 (wH s) (wTd s)) (nI a) (nI b) (nI (wPt T a).length) (nI k)) (fun v => (v.1 = 0 ∨ v.1 = 1) ∧ (v.1 = 1 ↔ ((0 : Int32) = 1 ∨ ∃ x r, x ∈ (wPt T a).drop k ∧ wLk C T x (dX (Ty T b)) = some r ∧ wFit C T r (dA (Ty T b)))) ∧ ∃ a' h' g', v.2 = mF σ a' h' g') := by
            intro hfit
            unfold f_M_isBelowNamed_125
            rw [cb, show M_how (mF σ 1 (wH s) (wTd s)) b = wH (dA (Ty T b)) from eH, show M_inner (mF σ 1 (wH s) (wTd s)) b = wTd (dA (Ty T b)) from eI, show M_foundType (mF σ 1 (wH s) (wTd s)) = wTd s from rfl]
            refine p_guard (fun _ => p_if (fun w => ?_) (fun w => no _ _ _ (nof (fun u => w ?_))))
            · rcases c2 with ⟨_, d0⟩ | ⟨g1, y0, y1, y2, y3⟩
              · rw [d0] at w; exact absurd w (by decide)
              · rcases so with ⟨g2, _⟩ | ⟨_, x0, x1, x2, x3⟩
                · rw [g1] at g2; cases g2
                · have y4 : dA (Ty T b) = 4 * y0 + 2 := by
                    rcases y3 with y3 | y3
                    · rw [wH_x y3] at w; exact absurd w (by decide)
                    · exact y3
                  rw [wTd_x x3, wTd_x y3]
                  have c3 : (300 * nI x0 + nI y0).toNatClampNeg = 300 * x0 + y0 := by rw [k_300ix]; exact nI_clamp (by omega)
                  rw [c3, show M_below (mF σ 1 (wH s) (nI x0)) = M_below σ from rfl]
                  have tb := ht x0 y0 x2 y2
                  have es : s / 4 = x0 := by omega
                  have ed : dA (Ty T b) / 4 = y0 := by omega
                  rw [es, ed] at hfit
                  refine p_guard (fun _ => p_guard (fun _ => p_if (fun u => no _ _ _ (nof (fun w' => tB_no tb u (hfit.mp w').2.2))) (fun u => ?_)))
                  exact ye _ _ _ s hl (hfit.mpr ⟨by omega, by omega, tB_ye tb u⟩)
            · obtain ⟨u1, u2, _⟩ := hfit.mp u
              rcases c2 with ⟨_, d0⟩ | ⟨g1, y0, y1, y2, y3⟩
              · omega
              · exact wH_y (x := y0) (by omega)
          rcases c2 with ⟨g1, d0⟩ | ⟨g1, y0, y1, y2, y3⟩
          · refine p_if (fun _ => ye _ _ _ s hl (Or.inl ?_)) (fun y => ?_)
            · rcases so with ⟨_, s0⟩ | ⟨g2, _⟩
              · omega
              · rw [g1] at g2; cases g2
            · rw [d0] at y; exact absurd rfl y
          · rcases so with ⟨g2, _⟩ | ⟨_, x0, x1, x2, x3⟩
            · rw [g1] at g2; cases g2
            · rcases y3 with y3 | y3
              · rw [wH_x y3]
                refine p_if (fun y => absurd y k_10) (fun _ => p_guard (fun _ => p_if (fun _ => ?_) (fun y => absurd rfl y)))
                have f125 : s ≠ dA (Ty T b) → (wFit C T s (dA (Ty T b)) ↔ (dA (Ty T b) % 4 = 2 ∧ dA (Ty T b) ≠ 0 ∧ wB C T (s / 4) (dA (Ty T b) / 4))) := by
                  intro ne
                  constructor
                  · rintro (u | ⟨u, _⟩)
                    · exact absurd u ne
                    · omega
                  · rintro ⟨u, _⟩
                    omega
                show k_pc (if M_foundHow (mF σ 1 (wH s) (wTd s)) = 1 then _ else _) _
                rw [show M_foundHow (mF σ 1 (wH s) (wTd s)) = wH s from rfl]
                refine p_if (fun y => ?_) (fun y => k125 (f125 (fun e => y (wH_x (x := y0) (by omega)))))
                have s1 : s = 4 * x0 + 1 := by
                  rcases x3 with x3 | x3
                  · exact x3
                  · rw [wH_y x3] at y; exact absurd y (by decide)
                show k_pc (if nI b < 0 ∨ 300 ≤ b then none else if M_foundType (mF σ 1 (wH s) (wTd s)) = M_inner (mF σ 1 (wH s) (wTd s)) b then _ else _) _
                rw [show M_foundType (mF σ 1 (wH s) (wTd s)) = nI x0 from wTd_x x3, show M_inner (mF σ 1 (wH s) (wTd s)) b = nI y0 from eI.trans (wTd_x (Or.inl y3))]
                refine p_guard (fun _ => p_if (fun u => ?_) (fun u => k125 (f125 (fun e => u (by congr 1; omega)))))
                rw [nI_eq (by omega) (by omega)] at u
                exact ye _ _ _ s hl (Or.inl (by omega))
              · rw [wH_y y3]
                refine p_if (fun y => absurd y (by decide)) (fun _ => p_guard (fun _ => p_if (fun y => absurd y (by decide)) (fun _ => k125 ?_)))
                constructor
                · rintro (u | ⟨_, u⟩)
                  · refine ⟨by omega, by omega, ?_⟩
                    rw [u]; exact wB_refl h (by omega)
                  · exact ⟨by omega, by omega, u⟩
                · rintro ⟨_, _, u⟩
                  exact Or.inr ⟨by omega, u⟩
      rw [nI_clamp (show a < 2 ^ 31 by omega), show M_kind (mF σ aa hh gg) a = nI (dK (Ty T a)) from (q.2 a ha).1]
      have kl := wK_lt h.2 ha
      refine p_guard (fun _ => p_if (fun y => ?_) (fun y => ?_))
      · have y2 : nI (dK (Ty T a)) = nI 3 := y
        rw [nI_eq (by omega) (by decide)] at y2
        have e1 : wPt T a = wPs T a := by unfold wPt wPs; rw [if_pos y2, if_neg (by omega)]
        have cl : (30 * nI a + nI k).toNatClampNeg = 30 * a + k := by rw [k_30ix]; exact nI_clamp (by omega)
        have er : M_partRow (mF σ aa hh gg) (30 * a + k) = nI (wPt T a)[k] := by
          show M_partRow σ (30 * a + k) = _
          rw [(q.2 a ha).2.2.2.2.2.2 k (by rw [← e1]; exact hk')]; congr 1; simp [e1]
        rw [cl, er]
        exact p_guard (fun _ => key)
      · have y2 : ¬ nI (dK (Ty T a)) = nI 3 := y
        rw [nI_eq (by omega) (by decide)] at y2
        have e1 : wPt T a = [a] := by unfold wPt; rw [if_neg y2]
        have e2 : (wPt T a)[k] = a := by
          have k0 : k = 0 := by rw [e1] at hk'; simpa using hk'
          subst k0; simp [e1]
        rw [e2] at key
        exact key
theorem r_M_isBelowNamed (h : wOK C T) (r : rMc σ C g) (q : rMt σ T) {a b : Nat} (ha : a < Tn T) (hb : b < Tn T) (h1 : dK (Ty T b) = 1) (ht : ∀ x p, x < Tn T → p < b → tB (M_below σ) C T x p) : k_pc (f_M_isBelowNamed σ (nI a) (nI b)) (fun v => (v.1 = 0 ∨ v.1 = 1) ∧ (v.1 = 1 ↔ (∃ x r, x ∈ wPt T a ∧ wLk C T x (dX (Ty T b)) = some r ∧ wFit C T r (dA (Ty T b)))) ∧ ∃ a' h' g', v.2 = mF σ a' h' g') := by
  have hn := h.2.2.1
  have kl := wK_lt h.2 ha
  have base : k_pc (f_M_isBelowNamed_27 1000 σ (nI a) (nI b) 0 (nI (wPt T a).length) 0) (fun v => (v.1 = 0 ∨ v.1 = 1) ∧ (v.1 = 1 ↔ (∃ x r, x ∈ wPt T a ∧ wLk C T x (dX (Ty T b)) = some r ∧ wFit C T r (dA (Ty T b)))) ∧ ∃ a' h' g', v.2 = mF σ a' h' g') := by
    refine p_mono (r_M_isBelowNamed_27 h r q ha hb h1 ht 1000 0 0 (M_found σ) (M_foundHow σ) (M_foundType σ) (by omega) (Or.inl rfl)) ?_
    rintro v ⟨v1, v2, v3⟩
    refine ⟨v1, v2.trans ⟨fun u => ?_, fun u => Or.inr ?_⟩, v3⟩
    · rw [List.drop_zero] at u
      exact u.resolve_left k_01
    · rw [List.drop_zero]; exact u
  unfold f_M_isBelowNamed
  rw [nI_clamp (show a < 2 ^ 31 by omega), (q.2 a ha).1]
  refine p_guard (fun _ => p_if (fun y => p_guard (fun _ => ?_)) (fun y => ?_))
  · have y2 : nI (dK (Ty T a)) = nI 3 := y
    rw [nI_eq (by omega) (by decide)] at y2
    have e1 : (wPt T a).length = wPc (Ty T a) := by unfold wPt wPc; rw [if_pos y2, if_neg (by omega)]
    rw [(q.2 a ha).2.2.2.2.2.1, ← e1]; exact base
  · have y2 : ¬ nI (dK (Ty T a)) = nI 3 := y
    rw [nI_eq (by omega) (by decide)] at y2
    have e1 : (wPt T a).length = 1 := by unfold wPt; rw [if_neg y2]; rfl
    rw [e1] at base; exact base
theorem vp_0 : vp_nar .boolean 0 = 0 := by decide
theorem vp_1 : vp_nar .boolean 1 = 1 := by decide
theorem r_M_reckonBelow_32 (h : wOK C T) (r : rMc σ C g) (q : rMt σ T) {b : Nat} (hb : b < Tn T) {ν : Int32} (k22 : StM → Int32 → Option (Int32 × StM)) {Q : Int32 × StM → Prop} (hk : ∀ (a' h' g' : Int32) (β : Nat → Int32), (∀ x p, x < Tn T → p < b + 1 → tB β C T x p) → k_pc (k22 (mK σ a' h' g' β ν) (nI b + 1)) Q) :
    ∀ (f a : Nat) (aa hh gg : Int32) (β : Nat → Int32), a ≤ Tn T → (∀ x p, x < Tn T → p < b → tB β C T x p) → (∀ x, x < a → tB β C T x b) → k_pc (f_M_reckonBelow_32 k22 f (mK σ aa hh gg β ν) (nI b) (nI a)) Q := by
  have hn := h.2.2.1
  have kl := wK_lt h.2 hb
  have cb : (nI b).toNatClampNeg = b := nI_clamp (by omega)
  have ek : ∀ (aa hh gg : Int32) (β : Nat → Int32), M_kind (mK σ aa hh gg β ν) b = nI (dK (Ty T b)) := fun _ _ _ _ => (q.2 b hb).1
  have cmp : ∀ j, j < 4 → (nI (dK (Ty T b)) = nI j ↔ dK (Ty T b) = j) := fun j hj => nI_eq (by omega) (by omega)
  intro f
  induction f with
  | zero => intro a aa hh gg β _ _ _; exact p_none
  | succ f ih =>
    intro a aa hh gg β h1 h2 h3
    rw [f_M_reckonBelow_32]
    unfold f_M_reckonBelow_32_s
    rw [show M_types (mK σ aa hh gg β ν) = nI (Tn T) from q.1]
    refine p_if (fun z => ?_) (fun z => ?_)
    · rw [nI_leI (by omega) (by omega)] at z
      refine hk aa hh gg β (fun x p hx hp => ?_)
      by_cases e : p = b
      · rw [e]; exact h3 x (by omega)
      · exact h2 x p hx (by omega)
    rw [nI_leI (by omega) (by omega)] at z
    have ha : a < Tn T := by omega
    have c3 : (300 * nI a + nI b).toNatClampNeg = 300 * a + b := by rw [k_300ix]; exact nI_clamp (by omega)
    have put : ∀ (a' h' g' w : Int32), (w = 0 ∨ w = 1) → (w = 1 ↔ wB C T a b) → k_pc (f_M_reckonBelow_32 k22 f (mK σ a' h' g' (upd β (300 * a + b) w) ν) (nI b) (nI a + 1)) Q := by
      intro a' h' g' w w1 w2
      rw [nI_1]
      refine ih (a + 1) a' h' g' _ (by omega) (fun x p hx hp => ?_) (fun x hx => ?_)
      · unfold tB
        rw [k_updn (by omega)]; exact h2 x p hx hp
      · by_cases e : x = a
        · subst e
          unfold tB
          rw [k_upds]; exact ⟨w1, w2⟩
        · unfold tB
          rw [k_updn (by omega)]; exact h3 x (by omega)
    have yes : ∀ a' h' g' : Int32, wB C T a b → k_pc (f_M_reckonBelow_113 k22 (f_M_reckonBelow_32 k22 f) (mK σ a' h' g' β ν) (nI b) (nI a) (300 * nI a + nI b)) Q := by
      intro a' h' g' w
      unfold f_M_reckonBelow_113
      refine p_guard (fun _ => ?_)
      have e : M_put_below (mK σ a' h' g' β ν) (300 * nI a + nI b) (vp_nar .boolean 1) = mK σ a' h' g' (upd β (300 * a + b) 1) ν := by
        rw [vp_1]
        show mK σ a' h' g' (upd β (300 * nI a + nI b).toNatClampNeg 1) ν = _
        rw [c3]
      rw [e]
      exact put a' h' g' 1 (Or.inr rfl) ⟨fun _ => w, fun _ => rfl⟩
    have nob : ∀ a' h' g' : Int32, ¬ wB C T a b → k_pc (f_M_reckonBelow_32 k22 f (M_put_below (mK σ a' h' g' β ν) (300 * nI a + nI b) (vp_nar .boolean 0)) (nI b) (nI a + 1)) Q := by
      intro a' h' g' w
      have e : M_put_below (mK σ a' h' g' β ν) (300 * nI a + nI b) (vp_nar .boolean 0) = mK σ a' h' g' (upd β (300 * a + b) 0) ν := by
        rw [vp_0]
        show mK σ a' h' g' (upd β (300 * nI a + nI b).toNatClampNeg 0) ν = _
        rw [c3]
      rw [e]
      exact put a' h' g' 0 (Or.inl rfl) ⟨fun u => absurd u k_01, fun u => absurd u w⟩
    have k94 : ∀ a' h' g' : Int32, (wB C T a b → dK (Ty T b) = 2) → a ≠ b → k_pc (f_M_reckonBelow_94 k22 (f_M_reckonBelow_32 k22 f) (mK σ a' h' g' β ν) (nI b) (nI a) (300 * nI a + nI b)) Q := by
      intro a' h' g' hw hne
      unfold f_M_reckonBelow_94
      rw [cb, ek]
      refine p_guard (fun _ => p_if (fun y => ?_) (fun y => p_guard (fun _ => nob a' h' g' (fun w => y ((cmp 2 (by omega)).mpr (hw w))))))
      have y2 := (cmp 2 (by omega)).mp y
      refine p_bind (r_M_isBelowArray (σ := mK σ a' h' g' β ν) h q ha hb y2 h2) ?_
      rintro v ⟨v1, v2⟩
      have bel : wB C T a b ↔ v = 1 := by
        rw [wB_iff h ha hb, v2]
        constructor
        · rintro (u | ⟨u, _⟩ | ⟨u, _⟩ | u)
          · exact absurd u hne
          · omega
          · omega
          · exact u
        · intro u; exact Or.inr (Or.inr (Or.inr u))
      refine p_if (fun u => p_guard (fun _ => nob a' h' g' (fun w => ?_))) (fun u => yes a' h' g' (bel.mpr (v1.resolve_left u)))
      have := bel.mp w
      rw [u] at this; exact absurd this k_01
    refine p_if (fun y => ?_) (fun y => ?_)
    · rw [nI_eq (by omega) (by omega)] at y
      rw [y]
      have := yes aa hh gg (by rw [y]; exact wB_refl h hb)
      rw [y] at this
      exact this
    rw [nI_eq (by omega) (by omega)] at y
    have k75 : ∀ a' h' g' : Int32, (wB C T a b → dK (Ty T b) ≠ 3) → k_pc (f_M_reckonBelow_75 k22 (f_M_reckonBelow_32 k22 f) (mK σ a' h' g' β ν) (nI b) (nI a) (300 * nI a + nI b)) Q := by
      intro a' h' g' hw
      unfold f_M_reckonBelow_75
      rw [cb, ek]
      refine p_guard (fun _ => p_if (fun w => ?_) (fun w => k94 a' h' g' (fun u => ?_) y))
      · have w2 := (cmp 1 (by omega)).mp w
        refine p_bind (r_M_isBelowNamed (σ := mK σ a' h' g' β ν) (g := g) h r q ha hb w2 h2) ?_
        rintro ⟨v, τ⟩ ⟨v1, v2, a2, h2', g2, v3⟩
        replace v1 : v = 0 ∨ v = 1 := v1
        replace v2 : v = 1 ↔ (∃ x r, x ∈ wPt T a ∧ wLk C T x (dX (Ty T b)) = some r ∧ wFit C T r (dA (Ty T b))) := v2
        replace v3 : τ = mK σ a2 h2' g2 β ν := v3
        subst v3
        have bel : wB C T a b ↔ v = 1 := by
          rw [wB_named h ha hb w2, v2]
          exact ⟨fun u => u.resolve_left y, Or.inr⟩
        refine p_if (fun u => k94 a2 h2' g2 (fun u' => ?_) y) (fun u => yes a2 h2' g2 (bel.mpr (v1.resolve_left u)))
        have := bel.mp u'
        replace u : v = 0 := u
        rw [u] at this; exact absurd this k_01
      · have n3 := hw u
        have n1 : dK (Ty T b) ≠ 1 := fun e => w ((cmp 1 (by omega)).mpr e)
        rcases (wB_iff h ha hb).mp u with u | ⟨u, _⟩ | ⟨u, _⟩ | ⟨_, u, _⟩
        · exact absurd u y
        · exact absurd u n3
        · exact absurd u n1
        · exact u
    rw [cb, ek]
    refine p_guard (fun _ => p_if (fun w => ?_) (fun w => k75 aa hh gg (fun _ e => w ((cmp 3 (by omega)).mpr e))))
    have w2 := (cmp 3 (by omega)).mp w
    unfold f_M_isBelowAll
    refine p_bind (r_M_isBelowAll_5 (σ := mK σ aa hh gg β ν) h q ha hb w2 (fun p hp => h2 a p ha hp) 1000 0 1 (by omega) (Or.inr rfl)) ?_
    rintro v ⟨v1, v2⟩
    have bel : wB C T a b ↔ v = 1 := by
      rw [wB_iff h ha hb, v2, List.drop_zero]
      constructor
      · rintro (u | ⟨_, u⟩ | ⟨u, _⟩ | ⟨_, u, _⟩)
        · exact absurd u y
        · exact ⟨rfl, u⟩
        · omega
        · omega
      · rintro ⟨_, u⟩
        exact Or.inr (Or.inl ⟨w2, u⟩)
    refine p_if (fun u => k75 aa hh gg (fun u' => ?_)) (fun u => yes aa hh gg (bel.mpr (v1.resolve_left u)))
    have := bel.mp u'
    rw [u] at this; exact absurd this k_01
theorem r_M_reckonBelow_22 (h : wOK C T) (r : rMc σ C g) (q : rMt σ T) {ν : Int32} : ∀ (f b : Nat) (aa hh gg : Int32) (β : Nat → Int32), b ≤ Tn T → (∀ x p, x < Tn T → p < b → tB β C T x p) → k_pc (f_M_reckonBelow_22 f (mK σ aa hh gg β ν) (nI b)) (fun v => ∃ a' h' g' β', v.2 = mK σ a' h' g' β' ν ∧ ∀ x p, x < Tn T → p < Tn T → tB β' C T x p) := by
  have hn := h.2.2.1
  intro f
  induction f with
  | zero => intro b aa hh gg β _ _; exact p_none
  | succ f ih =>
    intro b aa hh gg β h1 h2
    rw [f_M_reckonBelow_22]
    unfold f_M_reckonBelow_22_s
    rw [show M_types (mK σ aa hh gg β ν) = nI (Tn T) from q.1]
    refine p_if (fun z => p_some ?_) (fun z => ?_)
    · rw [nI_leI (by omega) (by omega)] at z
      exact ⟨aa, hh, gg, β, rfl, fun x p hx hp => h2 x p hx (by omega)⟩
    · rw [nI_leI (by omega) (by omega)] at z
      refine r_M_reckonBelow_32 h r q (show b < Tn T by omega) _ (fun a' h' g' β' hβ => ?_) 1000 0 aa hh gg β (by omega) h2 (fun x hx => by omega)
      rw [nI_1]
      exact ih (b + 1) a' h' g' β' (by omega) hβ
/-- if the table is of so many types, it is right -/
def rR (μ : StM) (C : wWc) (T : wWt) : Prop := ∃ k, k ≤ Tn T ∧ M_reckoned μ = nI k ∧ (k = Tn T → ∀ x p, x < Tn T → p < Tn T → tB (M_below μ) C T x p)
theorem r_M_reckonBelow (h : wOK C T) (r : rMc σ C g) (q : rMt σ T) (hR : rR σ C T) : k_pc (f_M_reckonBelow σ) (fun v => ∃ a' h' g' β', v.2 = mK σ a' h' g' β' (nI (Tn T)) ∧ ∀ x p, x < Tn T → p < Tn T → tB β' C T x p) := by
  have hn := h.2.2.1
  obtain ⟨k, k1, k2, k3⟩ := hR
  unfold f_M_reckonBelow
  refine p_if (fun z => p_some ?_) (fun z => ?_)
  · rw [k2, q.1, nI_eq (by omega) (by omega)] at z
    refine ⟨M_found σ, M_foundHow σ, M_foundType σ, M_below σ, ?_, k3 z⟩
    show σ = _
    rw [← z, ← k2]; rfl
  · rw [q.1]
    exact r_M_reckonBelow_22 h r q 1000 0 (M_found σ) (M_foundHow σ) (M_foundType σ) (M_below σ) (by omega) (fun x p _ hp => by omega)
end
