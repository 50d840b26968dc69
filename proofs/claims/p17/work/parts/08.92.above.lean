/-! Tier 3: side by side: above. -/
theorem r_A_forget {σ : StA} {C : wWc} {T : wWt} (r : rA σ C T) (C' : wWc) (T' : wWt) : k_pc (f_A_forget σ) (fun q => rA q.2 C' T') := by
  have all : ∀ {τ : StA}, (∀ p k, p < 90000 → k < 2 → aB τ p k = false) → rA τ C' T' := by
    intro τ h
    refine ⟨fun a b ha hb => ⟨fun q => ?_, fun q => ?_⟩, Or.inr h⟩
    · rw [h (300 * a + b) 0 (by omega) (by omega)] at q; cases q
    · rw [h (300 * a + b) 1 (by omega) (by omega)] at q; cases q
  unfold f_A_forget
  refine p_if (fun _ => p_some (all (fun p k hp _ => ?_))) (fun z => p_some (all (r.2.resolve_left z)))
  show bt (J_fill (A_cells σ) 5625 0 (p / 16)) _ = false
  unfold J_fill
  rw [if_pos (by omega)]
  exact b_0 _
def wTel (C : wWc) (t c to : Nat) (x2 : Int32) : Prop := ∃ A, x2 = wTd A ∧ wArOk C t c to A
section
variable {σ : StL} {μ : StM} {C : wWc} {T : wWt} {g d c to : Nat} {x2 : Int32}
theorem r_L_isTellable (h : wOK C T) (r : rL σ C g T T) (hc : c + 1 = Wn C) (hto : to < Wn C) (hx : x2 < 0 ∨ ∃ x, x < Tn T ∧ x2 = nI x) : k_pc (f_L_isTellable σ (nI to) x2) (fun v => (v = 0 ∧ ¬ wTel C (Tn T) c to x2) ∨ (¬ v = 0 ∧ wTel C (Tn T) c to x2)) := by
  have hn := h.2.2.1
  have hcC : c < Wn C := by omega
  unfold f_L_isTellable
  rw [r_C_isGeneric h.1 r.1 hto]
  show k_pc (if b2 (Wg C to) = 0 then _ else _) _
  refine p_if (fun z => ?_) (fun z => ?_)
  · have zg := b2_0.mp z
    refine p_if (fun e => p_some (Or.inr ⟨by decide, 0, e, Or.inl ⟨zg, rfl⟩⟩)) (fun e => p_some (Or.inl ⟨rfl, ?_⟩))
    rintro ⟨A, e2, ⟨_, ok⟩ | ⟨ok, _⟩⟩
    · rw [ok] at e2; exact e e2
    · rw [zg] at ok; cases ok
  · have zg : Wg C to = true := by
      cases e : Wg C to with
      | true => rfl
      | false => rw [e] at z; exact absurd rfl z
    refine p_if (fun e => ?_) (fun e => ?_)
    · rw [r_C_newest r.1 hc, r_C_isGeneric h.1 r.1 hcC]
      refine p_some ?_
      cases eg : Wg C c with
      | true => exact Or.inr ⟨by decide, 3, e, Or.inr ⟨zg, Or.inr ⟨rfl, eg⟩⟩⟩
      | false =>
        refine Or.inl ⟨by decide, ?_⟩
        rintro ⟨A, e2, ⟨ok, _⟩ | ⟨_, ⟨x, x1, x2', x3⟩ | ⟨_, ok⟩⟩⟩
        · rw [zg] at ok; cases ok
        · rw [e, wTd_x (Or.inl x3)] at e2
          exact absurd e2.symm (k_ne2 (by omega))
        · rw [eg] at ok; cases ok
    · refine p_if (fun y => p_some (Or.inl ⟨rfl, ?_⟩)) (fun y => ?_)
      · rintro ⟨A, e2, ⟨ok, _⟩ | ⟨_, ⟨x, x1, x2', x3⟩ | ⟨ok, _⟩⟩⟩
        · rw [zg] at ok; cases ok
        · rw [e2, wTd_x (Or.inl x3)] at y
          exact absurd y (nI_pos (by omega))
        · rw [ok] at e2; exact e e2
      · obtain ⟨x, hxt, rfl⟩ : ∃ x, x < Tn T ∧ x2 = nI x := hx.resolve_left y
        rw [r_T_kindOf h.2 r.2 hxt]
        show k_pc (if nI (dK (Ty T x)) = 0 then _ else _) _
        have kl := wK_lt h.2 hxt
        refine p_if (fun w => p_some (Or.inl ⟨rfl, ?_⟩)) (fun w => p_some (Or.inr ⟨by decide, 4 * x + 1, (wTd_x (Or.inl rfl)).symm, Or.inr ⟨zg, Or.inl ⟨x, ?_, hxt, rfl⟩⟩⟩))
        · have w2 : nI (dK (Ty T x)) = nI 0 := w
          rw [nI_eq (by omega) (by decide)] at w2
          rintro ⟨A, e2, ⟨ok, _⟩ | ⟨_, ⟨x', x1, x2', x3⟩ | ⟨ok, _⟩⟩⟩
          · rw [zg] at ok; cases ok
          · rw [wTd_x (Or.inl x3), nI_eq (by omega) (by omega)] at e2
            rcases wT_kind h.2 hxt with ⟨_, q⟩ | ⟨_, q⟩ <;> omega
          · rw [ok] at e2; exact e e2
        · have w2 : ¬ nI (dK (Ty T x)) = nI 0 := w
          rw [nI_eq (by omega) (by decide)] at w2
          rcases wT_kind h.2 hxt with ⟨q, _⟩ | ⟨q, _⟩
          · exact absurd q w2
          · exact q
theorem r_M_hasDirect_5 (h : wOK C T) (r : rMc μ C g) (hc : c < Wn C) (hto : to < Wn C) : ∀ (f k : Nat) (x3 : Int32), k ≤ Wd C c → ((x3 = 0 ∧ ∀ j, j < k → Wo C c j ≠ to) ∨ (x3 = 1 ∧ ∃ j, j < Wd C c ∧ Wo C c j = to)) → k_pc (f_M_hasDirect_5 f μ (nI c) (nI to) x3 (nI k)) (fun v => v = 0 ↔ ∀ j, j < Wd C c → Wo C c j ≠ to) := by
  have hn := h.1.2.1
  have hd := (h.1.2.2.1 c hc).1
  have cc : (nI c).toNatClampNeg = c := nI_clamp (by omega)
  intro f
  induction f with
  | zero => intro k x3 _ _; exact p_none
  | succ f ih =>
    intro k x3 hk hx
    rw [f_M_hasDirect_5]
    unfold f_M_hasDirect_5_s f_M_hasDirect_36
    refine p_guard (fun _ => ?_)
    rw [cc, (r.2.2 c hc).2.2.1]
    refine p_if (fun z => p_some ?_) (fun z => ?_)
    · rw [nI_leI (by omega) (by omega)] at z
      rcases hx with ⟨e, q⟩ | ⟨e, j, j1, j2⟩
      · rw [e]
        exact ⟨fun _ j hj => q j (by omega), fun _ => rfl⟩
      · rw [e]
        exact ⟨fun q => absurd q (by decide), fun q => absurd j2 (q j j1)⟩
    · rw [nI_leI (by omega) (by omega)] at z
      have cl : (30 * nI c + nI k).toNatClampNeg = 30 * c + k := by rw [k_30ix]; exact nI_clamp (by omega)
      refine p_if (fun e => p_guard (fun _ => ?_)) (fun e => ?_)
      · have q : ∀ j, j < k → Wo C c j ≠ to := by
          rcases hx with ⟨_, q⟩ | ⟨e2, _⟩
          · exact q
          · rw [e] at e2; exact absurd e2 (by decide)
        rw [cl, ((r.2.2 c hc).2.2.2.1 k (by omega)).1]
        have lt := (h.1.2.2.2.1 c k hc (by omega)).1
        refine p_if (fun w => ?_) (fun w => ?_)
        · rw [nI_eq (by omega) (by omega)] at w
          rw [nI_1]
          exact ih (k + 1) 1 (by omega) (Or.inr ⟨rfl, k, by omega, w⟩)
        · rw [nI_eq (by omega) (by omega)] at w
          rw [nI_1]
          refine ih (k + 1) 0 (by omega) (Or.inl ⟨rfl, fun j hj => ?_⟩)
          by_cases ej : j = k
          · rw [ej]; exact w
          · exact q j (by omega)
      · rcases hx with ⟨e2, _⟩ | ⟨_, q⟩
        · exact absurd e2 e
        · rw [nI_1]
          exact ih (k + 1) 1 (by omega) (Or.inr ⟨rfl, q⟩)
theorem wGx_rs {r : Nat} : wGx (-2) r = wTd r := by
  unfold wGx
  by_cases e : r = 3
  · rw [if_pos e, e]; rfl
  · rw [if_neg e]
theorem r_M_partsWay_6 (h : wOK C T) (r : rMc μ C g) (hc : c + 1 = Wn C) (hto : to < c) {A : Nat} (hA : wArOk C (Tn T) c to A) : ∀ (f i : Nat) (x4 aa hh gg : Int32), i ≤ Wn C → ((x4 = 0 ∧ ∀ b, b < i → wAgb C c to A b) ∨ (x4 = 1 ∧ ∃ b, b < Wn C ∧ ¬ wAgb C c to A b)) → k_pc (f_M_partsWay_6 f (mF μ aa hh gg) (nI c) (nI to) (wTd A) x4 (nI i)) (fun q => (q.1 = 0 ↔ ∀ b, b < Wn C → wAgb C c to A b) ∧ ∃ a' h' g', q.2 = mF μ a' h' g') := by
  have hn := h.1.2.1
  have ht := h.2.2.1
  have hcC : c < Wn C := by omega
  intro f
  induction f with
  | zero => intro i x4 aa hh gg _ _; exact p_none
  | succ f ih =>
    intro i x4 aa hh gg hi hx
    rw [f_M_partsWay_6]
    unfold f_M_partsWay_6_s f_M_partsWay_85
    rw [show M_classes (mF μ aa hh gg) = nI (Wn C) from r.1]
    refine p_if (fun z => p_some ⟨?_, aa, hh, gg, rfl⟩) (fun z => ?_)
    · rw [nI_leI (by omega) (by omega)] at z
      rcases hx with ⟨e, q⟩ | ⟨e, b, b1, b2⟩
      · rw [e]
        exact ⟨fun _ b hb => q b (by omega), fun _ => rfl⟩
      · rw [e]
        exact ⟨fun q => absurd q (show ¬ ((1 : Int32) &&& 1) = 0 by decide), fun q => absurd (q b b1) b2⟩
    · rw [nI_leI (by omega) (by omega)] at z
      have hi' : i < Wn C := by omega
      have ci : (nI i).toNatClampNeg = i := nI_clamp (by omega)
      have next : ∀ (a' h' g' : Int32), wAgb C c to A i → k_pc (f_M_partsWay_6 f (mF μ a' h' g') (nI c) (nI to) (wTd A) x4 (nI i + 1)) (fun q => (q.1 = 0 ↔ ∀ b, b < Wn C → wAgb C c to A b) ∧ ∃ a' h' g', q.2 = mF μ a' h' g') := by
        intro a' h' g' w
        rw [nI_1]
        refine ih (i + 1) x4 a' h' g' (by omega) ?_
        rcases hx with ⟨e, q⟩ | q
        · refine Or.inl ⟨e, fun b hb => ?_⟩
          by_cases eb : b = i
          · rw [eb]; exact w
          · exact q b (by omega)
        · exact Or.inr q
      have next1 : ∀ (a' h' g' : Int32), (∃ b, b < Wn C ∧ ¬ wAgb C c to A b) → k_pc (f_M_partsWay_6 f (mF μ a' h' g') (nI c) (nI to) (wTd A) 1 (nI i + 1)) (fun q => (q.1 = 0 ↔ ∀ b, b < Wn C → wAgb C c to A b) ∧ ∃ a' h' g', q.2 = mF μ a' h' g') := by
        intro a' h' g' w
        rw [nI_1]
        exact ih (i + 1) 1 a' h' g' (by omega) (Or.inr ⟨rfl, w⟩)
      refine p_guard (fun _ => ?_)
      rw [ci, show M_generic (mF μ aa hh gg) i = b2 (Wg C i) from (r.2.2 i hi').2.1]
      refine p_if (fun w => next _ _ _ ?_) (fun w => ?_)
      · intro q; rw [b2_0.mp w] at q; cases q
      · have wg : Wg C i = true := by
          cases e : Wg C i with
          | true => rfl
          | false => rw [e] at w; exact absurd rfl w
        obtain ⟨c1, c2⟩ := r_M_climb (σ := mF μ aa hh gg) h.1 ht r hcC hi' 1 (-2)
        have cl1 : k_pc (f_M_climb (mF μ aa hh gg) (nI c) 1 (-2) (nI i)) (fun q => (∃ s, wCl C c 3 i = some s ∧ ∃ h', q.2 = mF μ 1 h' (wTd s)) ∨ (wCl C c 3 i = none ∧ ∃ h' g', q.2 = mF μ 0 h' g')) := by
          cases e : wCl C c 3 i with
          | some s =>
            refine p_mono (p_ok (c1 s e)) (fun q hq => Or.inl ⟨s, rfl, wHx 1 s, ?_⟩)
            rw [hq, wGx_rs]; rfl
          | none => exact p_mono (p_ok (c2 e)) (fun q hq => Or.inr ⟨rfl, _, _, hq⟩)
        refine p_bind cl1 ?_
        rintro ⟨v1, τ1⟩ hτ1
        obtain ⟨a1, h1', g1', eτ1⟩ : ∃ a1 h1' g1', τ1 = mF μ a1 h1' g1' := by
          rcases hτ1 with ⟨s, _, h', e⟩ | ⟨_, h', g', e⟩
          · exact ⟨_, _, _, e⟩
          · exact ⟨_, _, _, e⟩
        replace hτ1 : (∃ s, wCl C c 3 i = some s ∧ ∃ h', τ1 = mF μ 1 h' (wTd s)) ∨ (wCl C c 3 i = none ∧ ∃ h' g', τ1 = mF μ 0 h' g') := hτ1
        have cl2 : k_pc (f_M_climb τ1 (nI to) 1 (wTd A) (nI i)) (fun q => (∃ s, wCl C to A i = some s ∧ ∃ h', q.2 = mF μ 1 h' (wTd s)) ∨ (wCl C to A i = none ∧ ∃ h' g', q.2 = mF μ 0 h' g')) := by
          rw [eτ1]
          obtain ⟨d1, d2⟩ := r_M_climb (σ := mF μ a1 h1' g1') h.1 ht r (show to < Wn C by omega) hi' 1 (wTd A)
          have es := wCl_sub h.1 to A i (by omega)
          cases e : wCl C to 3 i with
          | some s =>
            rw [e] at es
            refine p_mono (p_ok (d1 s e)) (fun q hq => Or.inl ⟨wSb A s, es, wHx 1 s, ?_⟩)
            rw [hq, wGx_sb]; rfl
          | none =>
            rw [e] at es
            exact p_mono (p_ok (d2 e)) (fun q hq => Or.inr ⟨es, _, _, hq⟩)
        refine p_bind cl2 ?_
        rintro ⟨v2, τ2⟩ hτ2
        replace hτ2 : (∃ s, wCl C to A i = some s ∧ ∃ h', τ2 = mF μ 1 h' (wTd s)) ∨ (wCl C to A i = none ∧ ∃ h' g', τ2 = mF μ 0 h' g') := hτ2
        obtain ⟨a2, h2', g2', eτ2⟩ : ∃ a2 h2' g2', τ2 = mF μ a2 h2' g2' := by
          rcases hτ2 with ⟨s, _, h', e⟩ | ⟨_, h', g', e⟩
          · exact ⟨_, _, _, e⟩
          · exact ⟨_, _, _, e⟩
        have tnone : ∀ {x a : Nat}, x < Wn C → wCl C x a i = none → wTw C x i = false := by
          intro x a hx e
          cases q : wTw C x i with
          | false => rfl
          | true =>
            obtain ⟨s, hs⟩ := wCl_some h.1 x a i hx q
            rw [hs] at e; cases e
        refine p_if (fun e4 => ?_) (fun e4 => ?_)
        · replace e4 : x4 = 0 := e4
          have n0 : ∀ (a' h' g' : Int32), wAgb C c to A i → k_pc (f_M_partsWay_6 f (mF μ a' h' g') (nI c) (nI to) (wTd A) 0 (nI i + 1)) (fun q => (q.1 = 0 ↔ ∀ b, b < Wn C → wAgb C c to A b) ∧ ∃ a' h' g', q.2 = mF μ a' h' g') := by
            intro a' h' g' w
            have := next a' h' g' w
            rw [e4] at this
            exact this
          show k_pc (if M_found τ1 = 0 then f_M_partsWay_6 f τ2 (nI c) (nI to) (wTd A) 0 (nI i + 1) else if M_found τ2 = 0 then f_M_partsWay_6 f τ2 (nI c) (nI to) (wTd A) 0 (nI i + 1) else if M_foundType τ1 = M_foundType τ2 then f_M_partsWay_6 f τ2 (nI c) (nI to) (wTd A) 0 (nI i + 1) else f_M_partsWay_6 f τ2 (nI c) (nI to) (wTd A) 1 (nI i + 1)) _
          rcases hτ1 with ⟨s, es, h', e⟩ | ⟨es, h', g', e⟩
          · rcases hτ2 with ⟨s', es', h'', e'⟩ | ⟨es', h'', g'', e'⟩
            · have tw1 := wCl_tw h.1 hcC es
              have tw2 := wCl_tw h.1 (show to < Wn C by omega) es'
              have ile := wTw_le h.1 (show to < Wn C by omega) tw2
              have hu := wTw_ne tw1 (show c ≠ i by omega)
              obtain ⟨u, u', f1, f2, s1, s2⟩ := wCl_both h.1 hcC (show to < Wn C by omega) hA wg (by omega) hu tw2
              rw [es] at f1
              rw [es'] at f2
              injection f1 with f1
              injection f2 with f2
              subst f1
              subst f2
              refine p_if (fun q => ?_) (fun _ => p_if (fun q => ?_) (fun _ => p_if (fun q => ?_) (fun q => ?_)))
              · rw [e] at q; exact absurd q k_10
              · rw [e'] at q; exact absurd q k_10
              · rw [e, e'] at q
                replace q : wTd s = wTd s' := q
                rw [eτ2]
                refine n0 _ _ _ (fun _ _ _ => ?_)
                rw [es, es', wTd_inj ht s1 s2 q]
              · rw [e, e'] at q
                replace q : ¬ wTd s = wTd s' := q
                rw [eτ2]
                refine next1 _ _ _ ⟨i, hi', fun w => ?_⟩
                have := w wg hu tw2
                rw [es, es'] at this
                injection this with this
                exact q (by rw [this])
            · have tw := tnone (show to < Wn C by omega) es'
              refine p_if (fun q => ?_) (fun _ => p_if (fun q => ?_) (fun q => ?_))
              · rw [e] at q; exact absurd q k_10
              · rw [eτ2]
                exact n0 _ _ _ (fun _ _ q => by rw [tw] at q; cases q)
              · rw [e'] at q; exact absurd rfl q
          · have tw := tnone hcC es
            refine p_if (fun q => ?_) (fun q => ?_)
            · rw [eτ2]
              refine n0 _ _ _ (fun _ q _ => ?_)
              rw [wTw_up q] at tw; cases tw
            · rw [e] at q; exact absurd rfl q
        · have w : ∃ b, b < Wn C ∧ ¬ wAgb C c to A b := by
            rcases hx with ⟨q, _⟩ | ⟨_, q⟩
            · exact absurd q e4
            · exact q
          show k_pc (f_M_partsWay_6 f τ2 (nI c) (nI to) (wTd A) 1 (nI i + 1)) _
          rw [eτ2]
          exact next1 _ _ _ w
theorem RW_set (h : RW C g T d) {k A : Nat} (hc : c + 1 = Wn C) (hm : wMay C c to) (hto : to < Wn C) (hA : wArOk C (Tn T) c to A) (ek : k = (if Wf C to = true then Wd C c else 0)) (hag : ∀ b, b < Wn C → wAgb C c to A b) : RW (wSet C c k to A) g T d ∧ to < c ∧ k ≤ Wd C c := by
  obtain ⟨m1, m2, m3, m4⟩ := hm
  have hd0 := (h.1.1.2.2.1 c (by omega)).2 (by omega)
  have hk : k = Wd C c ∨ (k = 0 ∧ Wo C c 0 = 0) := by
    by_cases e : Wf C to = true
    · rw [if_pos e] at ek; exact Or.inl ek
    · rw [if_neg e] at ek
      exact Or.inr ⟨ek, (m3 (by cases q : Wf C to with | false => rfl | true => exact absurd q e)).2⟩
  have h' := wSet_ok h.1.1 hc m1 (show to < c by omega) hA m4 hk hag
  refine ⟨⟨⟨h', wTok_agr h.1.2 (Nat.le_refl _) (fun _ _ => rfl)⟩, h.2.1, h.2.2.1, h.2.2.2.1, fun x hx hx2 => ?_⟩, by omega, by omega⟩
  replace hx2 : x < Wn C := hx2
  show Wf C (Wo (wSet C c k to A) x 0) = false
  by_cases e : x = c
  · subst e
    have a4 : Wo (wSet C x k to A) x = wUp (Wo C x) k to := wUp_s
    rw [a4]
    by_cases e0 : (0 : Nat) = k
    · rw [← e0, wUp_s]
      cases q : Wf C to with
      | false => rfl
      | true => rw [if_pos q] at ek; omega
    · rw [wUp_n e0]; exact h.2.2.2.2 x hx hx2
  · rw [(wSet_ag6x e).2.2.2.1]; exact h.2.2.2.2 x hx hx2
end
