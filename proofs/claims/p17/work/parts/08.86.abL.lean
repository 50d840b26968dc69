/-! Tier 3: above, of the class: who may get an edge, clashes, the edge put. -/
/-- class c may get class to above it -/
def wMay (C : wWc) (c to : Nat) : Prop := 13 ≤ c ∧ to ≠ c ∧ (Wf C to = false → Wf C c = false ∧ Wo C c 0 = 0) ∧ ∀ k, k < Wd C c → Wo C c k ≠ to
def wRs (t r : Nat) : Prop := r = 3 ∨ ∃ x, 8 ≤ x ∧ x < t ∧ r = 4 * x + 1
def wAgb (C : wWc) (c to A b : Nat) : Prop := Wg C b = true → Wu C c b = true → wTw C to b = true → wCl C c 3 b = wCl C to A b
theorem wEn_inj {t r r' : Nat} (ht : t ≤ 300) (h : wRs t r) (h' : wRs t r') (e : wEn r = wEn r') : r = r' := by
  rcases h with h | ⟨x, x1, x2, x3⟩
  · rcases h' with h' | ⟨y, y1, y2, y3⟩
    · rw [h, h']
    · rw [h, wEn_n (show r' ≠ 3 by omega)] at e
      exact absurd e.symm (k_ne2 (by omega))
  · rcases h' with h' | ⟨y, y1, y2, y3⟩
    · rw [h', wEn_n (show r ≠ 3 by omega)] at e
      exact absurd e (k_ne2 (by omega))
    · rw [wEn_n (show r ≠ 3 by omega), wEn_n (show r' ≠ 3 by omega), nI_eq (by omega) (by omega)] at e
      exact e
theorem wTd_inj {t r r' : Nat} (ht : t ≤ 300) (h : wRs t r) (h' : wRs t r') (e : wTd r = wTd r') : r = r' := by
  rcases h with h | ⟨x, x1, x2, x3⟩
  · rcases h' with h' | ⟨y, y1, y2, y3⟩
    · rw [h, h']
    · rw [h, wTd_x (Or.inl y3)] at e
      exact absurd e.symm (k_ne2 (by omega))
  · rcases h' with h' | ⟨y, y1, y2, y3⟩
    · rw [h', wTd_x (Or.inl x3)] at e
      exact absurd e (k_ne2 (by omega))
    · rw [wTd_x (Or.inl x3), wTd_x (Or.inl y3), nI_eq (by omega) (by omega)] at e
      omega
section
variable {C : wWc} {t : Nat}
theorem wCl_rs (h : wCok C t) : ∀ c a b r, c < Wn C → (Wg C c = false ∨ wRs t a) → wCl C c a b = some r → (c = b ∧ r = a) ∨ (Wg C b = false ∧ r = 0) ∨ (Wg C b = true ∧ wRs t r) := by
  intro c
  induction c using Nat.strongRecOn with
  | ind c ih =>
    intro a b r hc ho h1
    by_cases e : c = b
    · rw [e, wCl_here] at h1
      cases h1
      exact Or.inl ⟨e, rfl⟩
    · obtain ⟨k, k1, k2, k3, _⟩ := wFe_some h hc (wCl_tw h hc h1) e
      obtain ⟨k4, k5⟩ := h.2.2.2.1 c k hc k2
      rw [wCl_step h a hc e k1] at h1
      rcases k5 with ⟨q1, q2⟩ | ⟨q1, ⟨x, x1, x2, x3⟩ | ⟨q2, q3⟩⟩
      · rw [q2] at h1
        rcases ih _ k4 _ b r (by omega) (Or.inl q1) h1 with ⟨w1, w2⟩ | w
        · exact Or.inr (Or.inl ⟨by rw [← w1]; exact q1, w2⟩)
        · exact Or.inr w
      · have es : wSb a (Wa C c k) = 4 * x + 1 := by unfold wSb; rw [if_neg (by omega), x3]
        rw [es] at h1
        rcases ih _ k4 _ b r (by omega) (Or.inr (Or.inr ⟨x, x1, x2, rfl⟩)) h1 with ⟨w1, w2⟩ | w
        · exact Or.inr (Or.inr ⟨by rw [← w1]; exact q1, Or.inr ⟨x, x1, x2, w2⟩⟩)
        · exact Or.inr w
      · have es : wSb a (Wa C c k) = a := by unfold wSb; rw [if_pos q2]
        have ha : wRs t a := by
          rcases ho with w | w
          · rw [w] at q3; cases q3
          · exact w
        rw [es] at h1
        rcases ih _ k4 _ b r (by omega) (Or.inr ha) h1 with ⟨w1, w2⟩ | w
        · exact Or.inr (Or.inr ⟨by rw [← w1]; exact q1, by rw [w2]; exact ha⟩)
        · exact Or.inr w
theorem wArOk_rs {c to A : Nat} (hA : wArOk C t c to A) : (Wg C to = false ∨ wRs t A) ∧ (Wg C to = true → wRs t A) ∧ (A = 0 ∨ A = 3 ∨ ∃ y, y < t ∧ A = 4 * y + 1) := by
  rcases hA with ⟨h1, h2⟩ | ⟨h1, ⟨x, x1, x2, x3⟩ | ⟨h2, h3⟩⟩
  · exact ⟨Or.inl h1, fun q => (by rw [h1] at q; cases q), Or.inl h2⟩
  · have w : wRs t A := Or.inr ⟨x, x1, x2, x3⟩
    exact ⟨Or.inr w, fun _ => w, Or.inr (Or.inr ⟨x, x2, x3⟩)⟩
  · have w : wRs t A := Or.inl h2
    exact ⟨Or.inr w, fun _ => w, Or.inr (Or.inl h2)⟩
/-- both climbs end in something that is told apart by its number -/
theorem wCl_both (h : wCok C t) {c to A b : Nat} (hc : c < Wn C) (hto : to < Wn C) (hA : wArOk C t c to A) (hg : Wg C b = true) (hcb : c ≠ b) (hu : Wu C c b = true) (ht : wTw C to b = true) : ∃ r r', wCl C c 3 b = some r ∧ wCl C to A b = some r' ∧ wRs t r ∧ wRs t r' := by
  obtain ⟨r, e1⟩ := wCl_some h c 3 b hc (wTw_up hu)
  obtain ⟨r', e2⟩ := wCl_some h to A b hto ht
  refine ⟨r, r', e1, e2, ?_, ?_⟩
  · rcases wCl_rs h c 3 b r hc (Or.inr (Or.inl rfl)) e1 with ⟨w, _⟩ | ⟨w, _⟩ | ⟨_, w⟩
    · exact absurd w hcb
    · rw [hg] at w; cases w
    · exact w
  · obtain ⟨a1, a2, _⟩ := wArOk_rs hA
    rcases wCl_rs h to A b r' hto a1 e2 with ⟨w1, w2⟩ | ⟨w, _⟩ | ⟨_, w⟩
    · rw [w2]; exact a2 (by rw [w1]; exact hg)
    · rw [hg] at w; cases w
    · exact w
end
section
variable {σ : StC} {C : wWc} {t g : Nat}
theorem r_C_newest (r : rC σ C g) {c : Nat} (hc : c + 1 = Wn C) : f_C_newest σ = nI c := by
  unfold f_C_newest
  rw [r.1, ← hc]; exact nI_pred c
theorem r_C_mayGet (h : wCok C t) (r : rC σ C g) {c to : Nat} (hc : c + 1 = Wn C) (hto : to < Wn C) : k_pc (f_C_mayGet σ (nI to)) (fun v => v = 0 ↔ ¬ wMay C c to) := by
  have hn := h.2.1
  have h13 := h.1
  have hcC : c < Wn C := by omega
  have hd0 := (h.2.2.1 c hcC).2 (by omega)
  have m55 : (13 ≤ c ∧ to ≠ c ∧ (Wf C to = false → Wf C c = false ∧ Wo C c 0 = 0)) → k_pc (f_C_mayGet_55 σ (nI to) (nI c)) (fun v => v = 0 ↔ ¬ wMay C c to) := by
    intro hy
    obtain ⟨w, w1, w2⟩ := r_C_isDirectly h r hcC hto
    unfold f_C_mayGet_55
    rw [w1]
    show k_pc (if b2 w = 0 then _ else _) _
    refine p_if (fun z => p_some ?_) (fun z => p_some ?_)
    · have wf := b2_0.mp z
      refine ⟨fun q => absurd q (by decide), fun q => absurd ⟨hy.1, hy.2.1, hy.2.2, fun k hk e => ?_⟩ q⟩
      have := w2.mpr ⟨k, hk, e⟩
      rw [wf] at this; cases this
    · refine ⟨fun _ q => ?_, fun _ => rfl⟩
      have wt : w = true := by
        cases e : w with
        | true => rfl
        | false => rw [e] at z; exact absurd rfl z
      obtain ⟨k, k1, k2⟩ := w2.mp wt
      exact q.2.2.2 k k1 k2
  unfold f_C_mayGet
  rw [r_C_newest r hc]
  refine p_if (fun z => p_some ?_) (fun z => p_if (fun y => p_some ?_) (fun y => ?_))
  · have z2 : nI c < nI 13 := z
    rw [nI_ltI (by omega) (by decide)] at z2
    exact ⟨fun _ q => by have := q.1; omega, fun _ => rfl⟩
  · rw [nI_eq (by omega) (by omega)] at y
    exact ⟨fun _ q => q.2.1 y, fun _ => rfl⟩
  · have z2 : ¬ nI c < nI 13 := z
    rw [nI_ltI (by omega) (by decide)] at z2
    rw [nI_eq (by omega) (by omega)] at y
    rw [r_C_isFace h r hto]
    show k_pc (if b2 (Wf C to) = 0 then _ else _) _
    refine p_if (fun w => ?_) (fun w => ?_)
    · have wf := b2_0.mp w
      unfold f_C_mayGet_31
      refine p_if (fun q => absurd q (by decide)) (fun _ => ?_)
      rw [r_C_isFace h r hcC]
      show k_pc (if b2 (Wf C c) = 0 then _ else _) _
      refine p_if (fun q => ?_) (fun q => p_some ?_)
      · have qf := b2_0.mp q
        have e0 : f_C_directAt σ (nI c) 0 = some (nI (Wo C c 0)) := r_C_directAt h r hcC hd0
        rw [e0]
        show k_pc (if nI (Wo C c 0) = 0 then _ else _) _
        have o1 := (h.2.2.2.1 c 0 hcC hd0).1
        refine p_if (fun o => ?_) (fun o => p_some ?_)
        · have o2 : nI (Wo C c 0) = nI 0 := o
          rw [nI_eq (by omega) (by decide)] at o2
          exact m55 ⟨by omega, y, fun _ => ⟨qf, o2⟩⟩
        · have o2 : ¬ nI (Wo C c 0) = nI 0 := o
          rw [nI_eq (by omega) (by decide)] at o2
          exact ⟨fun _ q => o2 (q.2.2.1 wf).2, fun _ => rfl⟩
      · refine ⟨fun _ q2 => q ?_, fun _ => rfl⟩
        rw [(q2.2.2.1 wf).1]; rfl
    · unfold f_C_mayGet_31
      refine p_if (fun _ => ?_) (fun q => absurd rfl q)
      refine m55 ⟨by omega, y, fun q => ?_⟩
      rw [q] at w; exact absurd rfl w
theorem r_C_clashes_21 (h : wCok C t) (ht : t ≤ 300) (r : rC σ C g) {c to A : Nat} (hc : c + 1 = Wn C) (hto : to < c) (hA : wArOk C t c to A) {x4 : Int32} (hx : ∀ b, b < 32 → bt x4 b = (Wu C c b && wTw C to b)) :
    ∀ (f i : Nat), i ≤ Wn C → (∀ b, b < i → wAgb C c to A b) → k_pc (f_C_clashes_21 f σ (nI to) (wTd A) (nI c) x4 (nI i)) (fun v => v = 0 ↔ ∀ b, b < Wn C → wAgb C c to A b) := by
  have hn := h.2.1
  have hcC : c < Wn C := by omega
  intro f
  induction f with
  | zero => intro i _ _; exact p_none
  | succ f ih =>
    intro i hi hb
    rw [f_C_clashes_21]
    unfold f_C_clashes_21_s
    rw [r.1]
    refine p_if (fun z => p_some ?_) (fun z => ?_)
    · rw [nI_leI (by omega) (by omega)] at z
      exact ⟨fun _ b hb' => hb b (by omega), fun _ => rfl⟩
    · rw [nI_leI (by omega) (by omega)] at z
      have hi' : i < Wn C := by omega
      have next : wAgb C c to A i → k_pc (f_C_clashes_21 f σ (nI to) (wTd A) (nI c) x4 (nI i + 1)) (fun v => v = 0 ↔ ∀ b, b < Wn C → wAgb C c to A b) := by
        intro w
        rw [nI_1]
        refine ih (i + 1) (by omega) (fun b hb' => ?_)
        by_cases e : b = i
        · rw [e]; exact w
        · exact hb b (by omega)
      rw [k_has x4 (show i < 32 by omega), hx i (by omega)]
      refine p_if (fun y => next ?_) (fun y => ?_)
      · have y2 := b2_0.mp y
        intro _ w1 w2
        rw [w1, w2] at y2; cases y2
      · have y2 : (Wu C c i && wTw C to i) = true := by
          cases e : (Wu C c i && wTw C to i) with
          | true => rfl
          | false => rw [e] at y; exact absurd rfl y
        obtain ⟨y3, y4⟩ := Bool.and_eq_true_iff.mp y2
        rw [r_C_isGeneric h r hi']
        show k_pc (if b2 (Wg C i) = 0 then _ else _) _
        refine p_if (fun w => next ?_) (fun w => ?_)
        · have w2 := b2_0.mp w
          intro q; rw [w2] at q; cases q
        · have w2 : Wg C i = true := by
            cases e : Wg C i with
            | true => rfl
            | false => rw [e] at w; exact absurd rfl w
          have c1 : f_C_climb σ (nI c) (-2) (nI i) = some (wEo (wCl C c 3 i)) := r_C_climb h ht r 3 hcC hi'
          have c2 : f_C_climb σ (nI to) (f_C_passOn (wTd A) (-2)) (nI i) = some (wEo (wCl C to A i)) := by
            have e := k_pass ht (x := A) 3 (wArOk_rs hA).2.2
            rw [wSb_3] at e
            show f_C_climb σ (nI to) (f_C_passOn (wTd A) (wEn 3)) (nI i) = _
            rw [e]
            exact r_C_climb h ht r A (by omega) hi'
          rw [c1]
          show k_pc ((f_C_climb σ (nI to) (f_C_passOn (wTd A) (-2)) (nI i)).bind _) _
          rw [c2]
          have lt := wUp_lt h c i hcC y3
          obtain ⟨v, v', e1, e2, s1, s2⟩ := wCl_both h hcC (show to < Wn C by omega) hA w2 (by omega) y3 y4
          rw [e1, e2]
          show k_pc (if wEn v = wEn v' then _ else _) _
          refine p_if (fun q => next ?_) (fun q => p_some ⟨fun q2 => absurd q2 (by decide), fun q2 => ?_⟩)
          · intro _ _ _
            rw [e1, e2, wEn_inj ht s1 s2 q]
          · have := q2 i hi' w2 y3 y4
            rw [e1, e2] at this
            injection this with this
            exact absurd (by rw [this]) q
theorem r_C_clashes (h : wCok C t) (ht : t ≤ 300) (r : rC σ C g) {c to A : Nat} (hc : c + 1 = Wn C) (hto : to < c) (hA : wArOk C t c to A) : k_pc (f_C_clashes σ (nI to) (wTd A)) (fun v => v = 0 ↔ ∀ b, b < Wn C → wAgb C c to A b) := by
  have hcC : c < Wn C := by omega
  obtain ⟨v, v1, v2⟩ := r_C_withAbove h r (show to < Wn C by omega)
  unfold f_C_clashes
  rw [r_C_newest r hc, r_C_aboveOf h r hcC]
  show k_pc ((f_C_withAbove σ (nI to)).bind _) _
  rw [v1]
  refine r_C_clashes_21 h ht r hc hto hA (fun b hb => ?_) 1000 0 (by omega) (fun b hb => by omega)
  rw [b_and, v2 b hb, (r.2.2.1 c hcC).2.2.2.2 b hb]
theorem r_C_write (h : wCok C t) (r : rC σ C g) {c k to A : Nat} (hc : c < Wn C) (hto : to < Wn C) (hk : k ≤ Wd C c) : k_pc (f_C_write σ (nI c) (nI k) (nI to) (wTd A)) (fun q => rC q.2 (wSet C c k to A) g) := by
  have hn := h.2.1
  have hdc := (h.2.2.1 c hc).1
  obtain ⟨v, v1, v2⟩ := r_C_withAbove h r hto
  have cc : (nI c).toNatClampNeg = c := nI_clamp (by omega)
  have ci : (nI c * 30 + nI k).toNatClampNeg = c * 30 + k := by rw [k_ix30]; exact nI_clamp (by omega)
  have fin : ∀ (ρ : StC), C_count ρ = C_count σ → C_countGeneric ρ = C_countGeneric σ → C_faces ρ = C_faces σ → C_generics ρ = C_generics σ → C_directs ρ = upd (C_directs σ) (c * 30 + k) (nI to) → C_tolds ρ = upd (C_tolds σ) (c * 30 + k) (wTd A) → C_directCounts ρ = upd (C_directCounts σ) c (nI (if Wd C c < k + 1 then k + 1 else Wd C c)) → C_above ρ = upd (C_above σ) c (C_above σ c ||| v) → rC ρ (wSet C c k to A) g := by
    intro ρ u1 u2 u3 u4 u5 u6 u7 u9
    refine ⟨u1.trans r.1, u2.trans r.2.1, fun x hx => ?_, fun x hx hx2 => ?_⟩
    · replace hx : x < Wn C := hx
      by_cases e : x = c
      · subst e
        obtain ⟨r0, r1, r2, r3, r4⟩ := r.2.2.1 x hx
        have a3 : Wd (wSet C x k to A) x = (if Wd C x < k + 1 then k + 1 else Wd C x) := wUp_s
        have a4 : Wo (wSet C x k to A) x = wUp (Wo C x) k to := wUp_s
        have a5 : Wa (wSet C x k to A) x = wUp (Wa C x) k A := wUp_s
        have a6 : Wu (wSet C x k to A) x = fun b => Wu C x b || wTw C to b := wUp_s
        refine ⟨by rw [u3]; exact r0, by rw [u4]; exact r1, by rw [u7, k_upds, a3], fun j hj => ?_, fun b hb => ?_⟩
        · rw [a3] at hj
          rw [a4, a5, u5, u6]
          by_cases ej : j = k
          · rw [ej, k_upds, k_upds, wUp_s, wUp_s]; exact ⟨rfl, rfl⟩
          · have hj' : j < Wd C x := by
              by_cases w : Wd C x < k + 1
              · rw [if_pos w] at hj; omega
              · rw [if_neg w] at hj; exact hj
            rw [k_updn (by omega), k_updn (by omega), wUp_n ej, wUp_n ej]
            exact r3 j hj'
        · rw [u9, k_upds, a6, b_or, r4 b hb, v2 b hb]
      · obtain ⟨b1, b2, b3, b4, b5, b6⟩ := wSet_ag6x e
        have hd := (h.2.2.1 x hx).1
        refine rC_row (r.2.2.1 x hx) b1 b2 b3 b4 b5 b6 (by rw [u3]) (by rw [u4]) (by rw [u7, k_updn e]) (fun j hj => ⟨?_, ?_⟩) (by rw [u9, k_updn e]) (by omega)
        · rw [u5, k_updn (by omega)]
        · rw [u6, k_updn (by omega)]
    · replace hx : Wn C ≤ x := hx
      have := r.2.2.2 x hx hx2
      rw [u7, u9, k_updn (by omega), k_updn (by omega)]
      exact this
  unfold f_C_write
  refine p_if (fun z => absurd z (rC_there h r hc)) (fun _ => p_if (fun z => absurd z (rC_there h r hto)) (fun _ => p_if (fun z => absurd z (nI_pos (by omega))) (fun _ => p_if (fun _ => ?_) (fun z => ?_))))
  · refine p_guard (fun _ => p_guard (fun _ => p_guard (fun _ => p_guard (fun _ => p_guard (fun _ => ?_)))))
    refine p_bind (P := fun w => w = v) (fun w e => ?_) ?_
    · have e' : some v = some w := v1.symm.trans e
      injection e' with e'
      exact e'.symm
    · rintro w rfl
      refine p_guard (fun _ => p_some ?_)
      have ey : (if C_directCounts σ c < nI k + 1 then nI k + 1 else C_directCounts σ c) = nI (if Wd C c < k + 1 then k + 1 else Wd C c) := by
        rw [(r.2.2.1 c hc).2.2.1, nI_1]
        by_cases w : Wd C c < k + 1
        · rw [if_pos w, if_pos (by rw [nI_ltI (by omega) (by omega)]; exact w)]
        · rw [if_neg w, if_neg (by rw [nI_ltI (by omega) (by omega)]; exact w)]
      refine fin _ rfl rfl rfl rfl ?_ ?_ ?_ ?_
      · show upd (C_directs σ) (nI c * 30 + nI k).toNatClampNeg (nI to) = _
        rw [ci]
      · show upd (C_tolds σ) (nI c * 30 + nI k).toNatClampNeg (wTd A) = _
        rw [ci]
      · show upd (C_directCounts σ) (nI c).toNatClampNeg (if C_directCounts σ (nI c).toNatClampNeg < nI k + 1 then nI k + 1 else C_directCounts σ (nI c).toNatClampNeg) = _
        rw [cc, ey]
      · show upd (C_above σ) (nI c).toNatClampNeg (C_above σ (nI c).toNatClampNeg ||| w) = _
        rw [cc]
  · exact absurd (nI_lt (show k < 30 by omega) (by decide)) z
end
