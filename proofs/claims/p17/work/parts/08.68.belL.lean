/-! Tier 3: the class's liesBelow answers BELOW. -/
theorem k_01 : ¬ (0 : Int32) = 1 := by decide
def rBl (σ : StL) (C : wWc) (T : wWt) (P : Prop) (r : Int32 × StL) : Prop := (r.1 = 0 ∨ r.1 = 1) ∧ (r.1 = 1 ↔ P) ∧ ∃ A, r.2 = L_set_answers σ A ∧ rA A C T
def rBr (C : wWc) (g : Nat) (T0 T : wWt) (rec : StL → Int32 → Int32 → Int32 → Option (Int32 × StL)) : Prop := ∀ (σ : StL) (a b m : Nat), rL σ C g T0 T → rA (L_answers σ) C T → a < Tn T → b < Tn T → Tm T b ≤ m → m ≤ 100 → k_pc (rec σ (nI a) (nI b) (nI m)) (rBl σ C T (wB C T a b))
section
variable {σ : StL} {C : wWc} {T0 T : wWt} {g : Nat} {rec : StL → Int32 → Int32 → Int32 → Option (Int32 × StL)}
theorem wPt_len (h : wTok C T) {a : Nat} (ha : a < Tn T) : (wPt T a).length = (if 1 < wPc (Ty T a) then wPc (Ty T a) else 1) ∧ ((wPc (Ty T a) = 0 ∧ wPt T a = [a]) ∨ (wPc (Ty T a) ≠ 0 ∧ wPt T a = wPs T a)) := by
  obtain ⟨_, _, h1 | ⟨_, c, x, h1, _⟩ | ⟨_, e, h1, _⟩ | ⟨_, l, h1, h2, _⟩⟩ := h.2.2.1 a ha
  · unfold wPt wPc wPs; rw [h1.2.1]; exact ⟨rfl, Or.inl ⟨rfl, rfl⟩⟩
  · unfold wPt wPc wPs; rw [h1]; exact ⟨rfl, Or.inr ⟨Nat.one_ne_zero, rfl⟩⟩
  · unfold wPt wPc wPs; rw [h1]; exact ⟨rfl, Or.inl ⟨rfl, rfl⟩⟩
  · unfold wPt wPc wPs
    rw [h1]
    show l.length = (if 1 < l.length then l.length else 1) ∧ _
    rw [if_pos (by omega)]
    refine ⟨rfl, Or.inr ⟨?_, rfl⟩⟩
    show l.length ≠ 0
    omega
theorem r_L_lbp13 (h : wOK C T) (hr : rBr C g T0 T rec) {a b m : Nat} (ha : a < Tn T) (hb : b < Tn T) (h3 : dK (Ty T b) = 3) (hm : Tm T b ≤ m + 1) (hm2 : m ≤ 100) :
    ∀ (f k : Nat) (σ : StL), rL σ C g T0 T → rA (L_answers σ) C T → k ≤ (dL (Ty T b)).length → k_pc (f_L_liesBelowParts_13 rec f σ (nI a) (nI b) (nI m) (nI (dL (Ty T b)).length) (nI k)) (rBl σ C T (∀ p, p ∈ (dL (Ty T b)).drop k → wB C T a p)) := by
  have hn := h.2.2.1
  obtain ⟨_, b2', b3, b4, b5, b6⟩ := wT_both h.2 hb h3
  have el : wPs T b = dL (Ty T b) := by unfold wPs; rw [if_neg (by omega)]
  intro f
  induction f with
  | zero => intro k σ _ _ _; exact p_none
  | succ f ih =>
    intro k σ r ra hk
    rw [f_L_liesBelowParts_13]
    unfold f_L_liesBelowParts_13_s
    refine p_if (fun z => p_some ?_) (fun z => ?_)
    · rw [nI_leI (by omega) (by omega)] at z
      refine ⟨Or.inr rfl, ⟨fun _ p hp => ?_, fun _ => rfl⟩, L_answers σ, rfl, ra⟩
      rw [show k = (dL (Ty T b)).length by omega, List.drop_length] at hp
      exact absurd hp (by simp)
    · rw [nI_leI (by omega) (by omega)] at z
      have hk' : k < (dL (Ty T b)).length := by omega
      rw [r_T_partOf h.2 r.2 hb (k := k) (by rw [el]; exact hk')]
      have e : (wPs T b)[k]'(by rw [el]; exact hk') = (dL (Ty T b))[k] := by simp [el]
      rw [e]
      have mem := List.getElem_mem hk'
      obtain ⟨p1, p2, p3⟩ := b4 _ mem
      have ps := wSum_le (T := T) _ _ mem
      show k_pc ((rec σ (nI a) (nI (dL (Ty T b))[k]) (nI m)).bind _) _
      refine p_bind (hr σ a _ m r ra ha (by omega) (by omega) hm2) ?_
      rintro ⟨v, τ⟩ ⟨v1, v2, A, v3, v4⟩
      replace v1 : v = 0 ∨ v = 1 := v1
      replace v2 : v = 1 ↔ wB C T a (dL (Ty T b))[k] := v2
      replace v3 : τ = L_set_answers σ A := v3
      subst v3
      rw [List.drop_eq_getElem_cons hk']
      refine p_if (fun y => p_some ?_) (fun y => ?_)
      · replace y : v = 0 := y
        refine ⟨Or.inl rfl, ⟨fun w => absurd w k_01, fun w => ?_⟩, A, rfl, v4⟩
        have := v2.mpr (w _ List.mem_cons_self)
        rw [y] at this; exact absurd this (by decide)
      · replace y : ¬ v = 0 := y
        have v5 := v2.mp (v1.resolve_left y)
        rw [nI_1]
        refine p_mono (ih (k + 1) (L_set_answers σ A) r v4 (by omega)) ?_
        rintro q ⟨q1, q2, B, q3, q4⟩
        refine ⟨q1, q2.trans ⟨fun w p hp => ?_, fun w p hp => w p (List.mem_cons_of_mem _ hp)⟩, B, q3, q4⟩
        rcases List.mem_cons.mp hp with e | e
        · rw [e]; exact v5
        · exact w p e
theorem r_L_hfp30 (h : wOK C T) (hr : rBr C g T0 T rec) {a b m : Nat} (ha : a < Tn T) (hb : b < Tn T) (h1 : dK (Ty T b) = 1) (hm : Tm T b ≤ m + 1) (hm2 : m ≤ 100) :
    ∀ (f k : Nat) (σ : StL), rL σ C g T0 T → rA (L_answers σ) C T → k ≤ (wPt T a).length → k_pc (f_L_hasFittingPart_30 rec f σ (nI a) (nI m) (nI (dX (Ty T b))) (nI (dA (Ty T b))) (nI (wPt T a).length) (nI k)) (rBl σ C T (∃ x r, x ∈ (wPt T a).drop k ∧ wLk C T x (dX (Ty T b)) = some r ∧ wFit C T r (dA (Ty T b)))) := by
  have hn := h.2.2.1
  have h16 := h.2.1
  obtain ⟨_, c1, c2, c3⟩ := wT_named h.2 hb h1
  have ca := wOk_lt (wOk_mono c2 (show b ≤ Tn T by omega)) (by omega)
  obtain ⟨l1, l2⟩ := wPt_len h.2 ha
  have l30 : (wPt T a).length ≤ 30 := by
    rw [l1]; have := wPc_le h.2 ha; split <;> omega
  intro f
  induction f with
  | zero => intro k σ _ _ _; exact p_none
  | succ f ih =>
    intro k σ r ra hk
    rw [f_L_hasFittingPart_30]
    unfold f_L_hasFittingPart_30_s
    refine p_if (fun z => p_some ?_) (fun z => ?_)
    · rw [nI_leI (by omega) (by omega)] at z
      refine ⟨Or.inl rfl, ⟨fun w => absurd w k_01, fun ⟨x, _, hx, _⟩ => ?_⟩, L_answers σ, rfl, ra⟩
      rw [show k = (wPt T a).length by omega, List.drop_length] at hx
      exact absurd hx (by simp)
    · rw [nI_leI (by omega) (by omega)] at z
      have hk' : k < (wPt T a).length := by omega
      have mem := List.getElem_mem hk'
      obtain ⟨p1, p2⟩ := wPt_ok h.2 ha mem
      have nx : ∀ A, rA A C T → (∀ r, wLk C T (wPt T a)[k] (dX (Ty T b)) = some r → ¬ wFit C T r (dA (Ty T b))) → k_pc (f_L_hasFittingPart_30 rec f (L_set_answers σ A) (nI a) (nI m) (nI (dX (Ty T b))) (nI (dA (Ty T b))) (nI (wPt T a).length) (nI k + 1)) (rBl σ C T (∃ x r, x ∈ (wPt T a).drop k ∧ wLk C T x (dX (Ty T b)) = some r ∧ wFit C T r (dA (Ty T b)))) := by
        intro A hA hno
        rw [nI_1]
        refine p_mono (ih (k + 1) (L_set_answers σ A) r hA (by omega)) ?_
        rintro q ⟨q1, q2, B, q3, q4⟩
        refine ⟨q1, q2.trans ?_, B, q3, q4⟩
        rw [List.drop_eq_getElem_cons hk']
        constructor
        · rintro ⟨x, s, x1, x2, x3⟩
          exact ⟨x, s, List.mem_cons_of_mem _ x1, x2, x3⟩
        · rintro ⟨x, s, x1, x2, x3⟩
          rcases List.mem_cons.mp x1 with e | e
          · rw [e] at x2; exact absurd x3 (hno s x2)
          · exact ⟨x, s, e, x2, x3⟩
      have ye : ∀ A s, rA A C T → wLk C T (wPt T a)[k] (dX (Ty T b)) = some s → wFit C T s (dA (Ty T b)) → rBl σ C T (∃ x r, x ∈ (wPt T a).drop k ∧ wLk C T x (dX (Ty T b)) = some r ∧ wFit C T r (dA (Ty T b))) (1, L_set_answers σ A) := by
        intro A s hA h4 h5
        refine ⟨Or.inr rfl, ⟨fun _ => ⟨(wPt T a)[k], s, ?_, h4, h5⟩, fun _ => rfl⟩, A, rfl, hA⟩
        rw [List.drop_eq_getElem_cons hk']; exact List.mem_cons_self
      have key : k_pc (f_L_hasFittingPart_63 rec (f_L_hasFittingPart_30 rec f) σ (nI a) (nI m) (nI (dX (Ty T b))) (nI (dA (Ty T b))) (nI (wPt T a).length) (nI k) (nI (wPt T a)[k])) (rBl σ C T (∃ x r, x ∈ (wPt T a).drop k ∧ wLk C T x (dX (Ty T b)) = some r ∧ wFit C T r (dA (Ty T b)))) := by
        unfold f_L_hasFittingPart_63
        refine p_bind (r_L_find h r p1 c1) ?_
        intro r6 e6
        cases hl : wLk C T (wPt T a)[k] (dX (Ty T b)) with
        | none =>
          rw [hl] at e6
          replace e6 : r6 = -1 := e6
          refine p_if (fun _ => ?_) (fun y => absurd e6 y)
          exact nx (L_answers σ) ra (fun s es => by rw [hl] at es; cases es)
        | some s =>
          rw [hl] at e6
          replace e6 : r6 = nI s := e6
          have so := wLk_ok h p1 hl
          have sl := wOk_lt so (by omega)
          subst e6
          refine p_if (fun y => absurd y (k_ne1 (by omega))) (fun _ => ?_)
          refine p_if (fun y => p_some ?_) (fun y => ?_)
          · rw [nI_eq (by omega) (by omega)] at y
            exact ye (L_answers σ) s ra hl (Or.inl y)
          · rw [nI_eq (by omega) (by omega)] at y
            rw [k_howOf _ (show dA (Ty T b) < 1200 by omega)]
            refine p_if (fun w => ?_) (fun w => ?_)
            · have w2 : nI (dA (Ty T b) % 4) = nI 2 := w
              rw [nI_eq (by omega) (by decide)] at w2
              have sz : s ≠ 0 ∧ s / 4 < Tn T := by
                rcases c2 with ⟨_, q⟩ | ⟨g1, y0, y1, y2, y3⟩
                · omega
                · rcases so with ⟨g2, _⟩ | ⟨_, x0, x1, x2, x3⟩
                  · rw [g1] at g2; cases g2
                  · omega
              rw [k_typeOf s (by omega), k_typeOf _ (show dA (Ty T b) < 1200 by omega), if_neg sz.1, if_neg (show ¬ dA (Ty T b) = 0 by omega)]
              rw [if_neg (show ¬ dA (Ty T b) = 0 by omega)] at c3
              refine p_bind (hr σ (s / 4) (dA (Ty T b) / 4) m r ra sz.2 (by omega) (by omega) hm2) ?_
              rintro ⟨v, τ⟩ ⟨v1, v2, A, v3, v4⟩
              replace v1 : v = 0 ∨ v = 1 := v1
              replace v2 : v = 1 ↔ wB C T (s / 4) (dA (Ty T b) / 4) := v2
              replace v3 : τ = L_set_answers σ A := v3
              subst v3
              refine p_if (fun u => ?_) (fun u => p_some ?_)
              · replace u : v = 0 := u
                refine nx A v4 (fun s' es => ?_)
                rw [hl] at es
                cases es
                rintro (q | ⟨_, q⟩)
                · exact y q
                · have := v2.mpr q
                  rw [u] at this; exact absurd this (by decide)
              · replace u : ¬ v = 0 := u
                exact ye A s v4 hl (Or.inr ⟨w2, v2.mp (v1.resolve_left u)⟩)
            · have w2 : ¬ nI (dA (Ty T b) % 4) = nI 2 := w
              rw [nI_eq (by omega) (by decide)] at w2
              refine nx (L_answers σ) ra (fun s' es => ?_)
              rw [hl] at es
              cases es
              rintro (q | ⟨q, _⟩)
              · exact y q
              · exact w2 q
      rw [r_T_countParts h.2 r.2 ha]
      show k_pc (if nI (wPc (Ty T a)) = 0 then _ else _) _
      have w30 := wPc_le h.2 ha
      refine p_if (fun y => ?_) (fun y => ?_)
      · have y2 : nI (wPc (Ty T a)) = nI 0 := y
        rw [nI_eq (by omega) (by decide)] at y2
        rcases l2 with ⟨_, l2⟩ | ⟨l2, _⟩
        · have e : (wPt T a)[k] = a := by
            have k0 : k = 0 := by rw [l2] at hk'; simpa using hk'
            subst k0; simp [l2]
          rw [e] at key; exact key
        · exact absurd y2 l2
      · have y2 : ¬ nI (wPc (Ty T a)) = nI 0 := y
        rw [nI_eq (by omega) (by decide)] at y2
        rcases l2 with ⟨l2, _⟩ | ⟨_, l2⟩
        · exact absurd l2 y2
        · rw [r_T_partOf h.2 r.2 ha (k := k) (by rw [← l2]; exact hk')]
          have e : (wPs T a)[k]'(by rw [← l2]; exact hk') = (wPt T a)[k] := by simp [l2]
          rw [e]; exact key
theorem r_L_b159 (r : rA (L_answers σ) C T) (h3 : Tn T ≤ 300) {a b : Nat} (ha : a < Tn T) (hb : b < Tn T) {v : Int32} (h0 : v = 0 ∨ v = 1) (h1 : v = 1 ↔ wB C T a b) : k_pc (f_L_liesBelow_159 rec σ (nI a) (nI b) v) (rBl σ C T (wB C T a b)) := by
  unfold f_L_liesBelow_159
  refine p_bind (rA_keep r (show a < 300 by omega) (show b < 300 by omega) ha hb h1.mp (fun z w => by rw [h1.mpr w] at z; exact absurd z (by decide)) h0) ?_
  intro q hq
  refine p_some ⟨?_, ?_, q.2, rfl, hq⟩
  · show v &&& 1 = 0 ∨ v &&& 1 = 1
    rcases h0 with e | e
    · rw [e]; exact Or.inl (by decide)
    · rw [e]; exact Or.inr (by decide)
  · rw [← h1]
    show v &&& 1 = 1 ↔ v = 1
    rcases h0 with e | e
    · rw [e]; decide
    · rw [e]; decide
theorem aV_0 {x y : Bool} : aV x y = 0 ↔ (x = false ∧ y = false) := by cases x <;> cases y <;> decide
theorem aV_2 {x y : Bool} : aV x y = 2 ↔ (x = false ∧ y = true) := by cases x <;> cases y <;> decide
theorem r_L_liesBelow (h : wOK C T) : ∀ F : Nat, rBr C g T0 T (f_L_liesBelow F) := by
  have hn := h.2.2.1
  intro F
  induction F with
  | zero => intro σ a b m _ _ _ _ _ _; exact p_none
  | succ F ih =>
    intro σ a b m r ra ha hb hm hm2
    have m1 := (h.2.2.2.1 b hb).1
    rw [f_L_liesBelow]
    unfold f_L_liesBelow_s
    refine p_if (fun z => p_some ?_) (fun z => ?_)
    · rw [nI_eq (by omega) (by omega)] at z
      subst z
      exact ⟨Or.inr rfl, ⟨fun _ => wB_refl h ha, fun _ => rfl⟩, L_answers σ, rfl, ra⟩
    rw [nI_eq (by omega) (by omega)] at z
    refine p_if (fun _ => ?_) (fun y => ?_)
    rotate_left
    · have y2 : ¬ nI 0 < nI m := y
      rw [nI_ltI (by decide) (by omega)] at y2
      omega
    refine p_bind (r_A_read (show a < 300 by omega) (show b < 300 by omega)) ?_
    intro v ev
    subst ev
    refine p_if (fun y => ?_) (fun y => ?_)
    rotate_left
    · have ra' := ra.1 a b (by omega) (by omega)
      refine p_if (fun w => p_some ?_) (fun w => p_some ?_)
      · have w2 := aV_2.mp w
        exact ⟨Or.inr rfl, ⟨fun _ => (ra'.2 w2.2).2.2, fun _ => rfl⟩, L_answers σ, rfl, ra⟩
      · refine ⟨Or.inl rfl, ⟨fun u => absurd u k_01, fun u => ?_⟩, L_answers σ, rfl, ra⟩
        exfalso
        cases e0 : aB (L_answers σ) (300 * a + b) 0 with
        | true => exact (ra'.1 e0).2.2 u
        | false =>
          cases e1 : aB (L_answers σ) (300 * a + b) 1 with
          | true => exact w (aV_2.mpr ⟨e0, e1⟩)
          | false => exact y (aV_0.mpr ⟨e0, e1⟩)
    rw [r_T_kindOf h.2 r.2 hb]
    have kl := wK_lt h.2 hb
    have em : nI m - 1 = nI (m - 1) := k_sub (b := 1) (by omega)
    have cmp : ∀ j, j < 4 → (nI (dK (Ty T b)) = nI j ↔ dK (Ty T b) = j) := fun j hj => nI_eq (by omega) (by omega)
    have keep : ∀ (τ : StL) (v : Int32) (A : StA), τ = L_set_answers σ A → rA A C T → (v = 0 ∨ v = 1) → (v = 1 ↔ wB C T a b) → k_pc (f_L_liesBelow_159 (f_L_liesBelow F) τ (nI a) (nI b) v) (rBl σ C T (wB C T a b)) := by
      intro τ v A e1 e2 e3 e4
      subst e1
      refine p_mono (r_L_b159 (σ := L_set_answers σ A) e2 hn ha hb e3 e4) ?_
      rintro q ⟨q1, q2, B, q3, q4⟩
      exact ⟨q1, q2, B, q3, q4⟩
    have neg : ∀ (τ : StL) (A : StA), τ = L_set_answers σ A → rA A C T → ¬ wB C T a b → k_pc (f_L_liesBelow_159 (f_L_liesBelow F) τ (nI a) (nI b) 0) (rBl σ C T (wB C T a b)) := by
      intro τ A e1 e2 e3
      exact keep τ 0 A e1 e2 (Or.inl rfl) ⟨fun u => absurd u k_01, fun u => absurd u e3⟩
    show k_pc (if nI (dK (Ty T b)) = 1 then _ else _) _
    refine p_if (fun w => ?_) (fun w1 => p_if (fun w => ?_) (fun w2 => p_if (fun w => ?_) (fun w3 => ?_)))
    · have k1 := (cmp 1 (by omega)).mp w
      have x30 := wX_lt h hb
      unfold f_L_hasFittingPart
      rw [em, r_T_classOf h.2 r.2 hb, if_pos k1]
      show k_pc (((f_T_argumentAt (L_types σ) (nI b)).bind _).bind _) _
      rw [r_T_argumentAt h.2 r.2 hb]
      show k_pc (((f_L_countHolders σ (nI a)).bind _).bind _) _
      unfold f_L_countHolders
      rw [r_T_countParts h.2 r.2 ha]
      obtain ⟨l1, l2⟩ := wPt_len h.2 ha
      have w30 := wPc_le h.2 ha
      have e : (if (1 : Int32) < nI (wPc (Ty T a)) then nI (wPc (Ty T a)) else 1) = nI (wPt T a).length := by
        rw [l1]
        by_cases u : 1 < wPc (Ty T a)
        · have u2 : (1 : Int32) < nI (wPc (Ty T a)) := by show nI 1 < nI (wPc (Ty T a)); rw [nI_ltI (by decide) (by omega)]; exact u
          rw [if_pos u, if_pos u2]
        · have u2 : ¬ (1 : Int32) < nI (wPc (Ty T a)) := by show ¬ nI 1 < nI (wPc (Ty T a)); rw [nI_ltI (by decide) (by omega)]; exact u
          rw [if_neg u, if_neg u2]; rfl
      show k_pc ((f_L_hasFittingPart_30 (f_L_liesBelow F) 1000 σ (nI a) (nI (m - 1)) (nI (dX (Ty T b))) (nI (dA (Ty T b))) (if (1 : Int32) < nI (wPc (Ty T a)) then nI (wPc (Ty T a)) else 1) 0).bind _) _
      rw [e]
      refine p_bind (r_L_hfp30 h ih ha hb k1 (by omega) (by omega) 1000 0 σ r ra (by omega)) ?_
      rintro ⟨v, τ⟩ ⟨v1, v2, A, v3, v4⟩
      refine keep τ v A v3 v4 v1 (Iff.trans v2 ?_)
      rw [List.drop_zero, wB_named h ha hb k1]
      exact ⟨fun q => Or.inr q, fun q => q.resolve_left z⟩
    · have k2 := (cmp 2 (by omega)).mp w
      have bel : wB C T a b ↔ (wAO T a = true ∧ wAO T b = true ∧ wB C T (dX (Ty T a)) (dX (Ty T b))) := by
        rw [wB_iff h ha hb]
        constructor
        · rintro (q | ⟨q, _⟩ | ⟨q, _⟩ | ⟨q1, q2, q3, q4, q5⟩)
          · exact absurd q z
          · omega
          · omega
          · refine ⟨?_, ?_, q5⟩
            · unfold wAO; rw [decide_eq_true q1, decide_eq_true q3]; rfl
            · unfold wAO; rw [decide_eq_true q2, decide_eq_true q4]; rfl
        · rintro ⟨q1, q2, q3⟩
          obtain ⟨a1, a2, _⟩ := wAO_el h.2 ha q1
          obtain ⟨b1, b2, _⟩ := wAO_el h.2 hb q2
          exact Or.inr (Or.inr (Or.inr ⟨a1, b1, a2, b2, q3⟩))
      unfold f_L_liesBelow_136 f_L_liesBelow_137
      refine p_bind (r_L_isArrayOfOthers h r ha) ?_
      intro r5 e5
      subst e5
      refine p_if (fun u => ?_) (fun u => ?_)
      · exact neg σ (L_answers σ) rfl ra (fun q => by have := (bel.mp q).1; rw [b2_0.mp u] at this; cases this)
      refine p_bind (r_L_isArrayOfOthers h r hb) ?_
      intro r6 e6
      subst e6
      refine p_if (fun u' => ?_) (fun u' => ?_)
      · exact neg σ (L_answers σ) rfl ra (fun q => by have := (bel.mp q).2.1; rw [b2_0.mp u'] at this; cases this)
      have ya : wAO T a = true := by
        cases q : wAO T a with
        | true => rfl
        | false => rw [q] at u; exact absurd rfl u
      have yb : wAO T b = true := by
        cases q : wAO T b with
        | true => rfl
        | false => rw [q] at u'; exact absurd rfl u'
      obtain ⟨a1, a2, a3, a4⟩ := wAO_el h.2 ha ya
      obtain ⟨b1, b2', b3, b4⟩ := wAO_el h.2 hb yb
      rw [r_T_elementOf h.2 r.2 ha, if_pos a1]
      show k_pc ((f_T_elementOf (L_types σ) (nI b)).bind _) _
      rw [r_T_elementOf h.2 r.2 hb, if_pos b1, em]
      show k_pc ((f_L_liesBelow F σ (nI (dX (Ty T a))) (nI (dX (Ty T b))) (nI (m - 1))).bind _) _
      refine p_bind (ih σ _ _ (m - 1) r ra (by omega) (by omega) (by omega) (by omega)) ?_
      rintro ⟨v, τ⟩ ⟨v1, v2, A, v3, v4⟩
      replace v1 : v = 0 ∨ v = 1 := v1
      replace v2 : v = 1 ↔ wB C T (dX (Ty T a)) (dX (Ty T b)) := v2
      refine p_if (fun q => ?_) (fun q => ?_)
      · replace q : v = 0 := q
        exact neg τ A v3 v4 (fun w => by have := v2.mpr (bel.mp w).2.2; rw [q] at this; exact absurd this k_01)
      · replace q : ¬ v = 0 := q
        exact keep τ 1 A v3 v4 (Or.inr rfl) ⟨fun _ => bel.mpr ⟨ya, yb, v2.mp (v1.resolve_left q)⟩, fun _ => rfl⟩
    · have k3 := (cmp 3 (by omega)).mp w
      unfold f_L_liesBelowParts
      have ec : wPc (Ty T b) = (dL (Ty T b)).length := by unfold wPc; rw [if_neg (by omega)]
      rw [em, r_T_countParts h.2 r.2 hb, ec]
      show k_pc ((f_L_liesBelowParts_13 (f_L_liesBelow F) 1000 σ (nI a) (nI b) (nI (m - 1)) (nI (dL (Ty T b)).length) 0).bind _) _
      refine p_bind (r_L_lbp13 h ih ha hb k3 (by omega) (by omega) 1000 0 σ r ra (by omega)) ?_
      rintro ⟨v, τ⟩ ⟨v1, v2, A, v3, v4⟩
      refine keep τ v A v3 v4 v1 (Iff.trans v2 ?_)
      rw [List.drop_zero, wB_iff h ha hb]
      constructor
      · intro q; exact Or.inr (Or.inl ⟨k3, q⟩)
      · rintro (q | ⟨_, q⟩ | ⟨q, _⟩ | ⟨_, q, _⟩)
        · exact absurd q z
        · exact q
        · omega
        · omega
    · have n1 : dK (Ty T b) ≠ 1 := fun q => w1 ((cmp 1 (by omega)).mpr q)
      have n2 : dK (Ty T b) ≠ 2 := fun q => w2 ((cmp 2 (by omega)).mpr q)
      have n3 : dK (Ty T b) ≠ 3 := fun q => w3 ((cmp 3 (by omega)).mpr q)
      refine neg σ (L_answers σ) rfl ra (fun q => ?_)
      rcases (wB_iff h ha hb).mp q with q | ⟨q, _⟩ | ⟨q, _⟩ | ⟨_, q, _⟩
      · exact z q
      · exact n3 q
      · exact n1 q
      · exact n2 q
end
