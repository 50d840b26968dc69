/-! Tier 3: the class's upperBound answers THE UPPER BOUND. -/
theorem wOk_lt {t : Nat} {g : Bool} {a : Nat} (h : wOk t g a) (ht : 0 < t) : a < 4 * t := by
  rcases h with ⟨_, h⟩ | ⟨_, x, x1, x2, x3⟩
  · omega
  · omega
def rLf (σ τ : StL) (d : Nat) : Prop := L_depth τ = L_depth σ ∧ L_classes τ = L_classes σ ∧ L_answers τ = L_answers σ ∧ L_gathered τ = L_gathered σ ∧ ∀ j, d ≤ j → L_row τ j = L_row σ j
theorem rLf_refl (σ : StL) (d : Nat) : rLf σ σ d := ⟨rfl, rfl, rfl, rfl, fun _ _ => rfl⟩
theorem rLf_trans {σ τ ρ : StL} {d : Nat} (h1 : rLf σ τ d) (h2 : rLf τ ρ d) : rLf σ ρ d :=
  ⟨h2.1.trans h1.1, h2.2.1.trans h1.2.1, h2.2.2.1.trans h1.2.2.1, h2.2.2.2.1.trans h1.2.2.2.1, fun j hj => (h2.2.2.2.2 j hj).trans (h1.2.2.2.2 j hj)⟩
theorem rLf_mono {σ τ : StL} {d d' : Nat} (h : rLf σ τ d) (hd : d ≤ d') : rLf σ τ d' := ⟨h.1, h.2.1, h.2.2.1, h.2.2.2.1, fun j hj => h.2.2.2.2 j (by omega)⟩
def rUv (T0 : wWt) (o : Option (Nat × wWt)) (v : Int32) (τ : StL) : Prop := match o with
  | none => v = -1 ∧ ∃ T', rT (L_types τ) T0 T'
  | some x => v = nI x.1 ∧ rT (L_types τ) T0 x.2
def rUp (σ : StL) (T0 : wWt) (d : Nat) (o : Option (Nat × wWt)) (q : (Int32 ⊕ Nat) × StL × Nat × Nat) : Prop := ∃ v, q.1 = .inl v ∧ rLf σ q.2.1 d ∧ rUv T0 o v q.2.1
def rRec (C : wWc) (g : Nat) (T0 : wWt) (d : Nat) (F : wWt → Nat → Nat → Option (Nat × wWt)) (rec : StL → Int32 → Int32 → Int32 → Option ((Int32 ⊕ Nat) × StL × Nat × Nat)) : Prop := ∀ (σ : StL) (T : wWt) (a b : Nat), wOK C T → rL σ C g T0 T → a < Tn T → b < Tn T → k_pc (rec σ (nI a) (nI b) (nI d)) (rUp σ T0 (30 * (d + 1)) (F T a b))
section
variable {σ : StL} {C : wWc} {T0 T : wWt} {g d : Nat} {rec : StL → Int32 → Int32 → Int32 → Option ((Int32 ⊕ Nat) × StL × Nat × Nat)}
theorem rL_types {τ : StT} {T' : wWt} (r : rL σ C g T0 T) (h : rT τ T0 T') : rL (L_set_types σ τ) C g T0 T' := ⟨r.1, h⟩
theorem r_L_bA46 (o : Option (Nat × wWt)) {ρ : StL} (hf : rLf σ ρ d) {v : Int32} (hv : rUv T0 o v ρ) (hb : ∀ q, o = some q → q.1 < 300) : k_pc (f_L_boundArgument_46 rec ρ v) (rUp σ T0 d (o.map (fun q => (4 * q.1 + 2, q.2)))) := by
  unfold f_L_boundArgument_46
  cases o with
  | none =>
    exact p_if (fun _ => p_some ⟨-1, rfl, hf, rfl, hv.2⟩) (fun z => absurd hv.1 z)
  | some q =>
    obtain ⟨v1, v2⟩ := hv
    have := hb q rfl
    refine p_if (fun z => absurd (v1.symm.trans z) (k_ne1 (by omega))) (fun _ => p_some ⟨_, rfl, hf, ?_, v2⟩)
    show f_L_argumentOf 2 v = nI (4 * q.1 + 2)
    unfold f_L_argumentOf
    rw [if_neg (by decide), v1]
    show nI q.1 * nI 4 + nI 2 = _
    rw [k_mul, nI_add]; congr 1; omega
/-- with what a bound's bound is made -/
def wFF (C : wWc) (d : Nat) : wWt → Nat → Nat → Option (Nat × wWt) := wFd C d
theorem r_L_boundArgument (h : wOK C T) (r : rL σ C g T0 T) (hd : d ≤ 2) (hrec : ∀ e, d = e + 1 → rRec C g T0 e (wFd C d) rec) {gg : Bool} {x y : Nat} (hx : wOk (Tn T) gg x) (hy : wOk (Tn T) gg y) : k_pc (f_L_boundArgument rec σ (nI x) (nI y) (nI d)) (rUp σ T0 (30 * d) (wAr2 (wFd C d) T x y)) := by
  have hn := h.2.2.1
  have h13 := h.1.1
  have h16 := h.2.1
  have bx := wOk_lt hx (by omega)
  have byy := wOk_lt hy (by omega)
  have go : ¬ (x = y ∧ x % 4 ≠ 2) → k_pc (f_L_boundArgument_15 rec σ (nI x) (nI y) (nI d)) (rUp σ T0 (30 * d) (wAr2 (wFd C d) T x y)) := by
    intro z
    unfold wAr2
    rw [if_neg z]
    have hxy : (∃ x0, x / 4 = x0 ∧ 8 ≤ x0 ∧ x0 < Tn T ∧ x ≠ 0) ∧ (∃ y0, y / 4 = y0 ∧ 8 ≤ y0 ∧ y0 < Tn T ∧ y ≠ 0) := by
      rcases hx with ⟨g1, x1⟩ | ⟨g1, x0, x1, x2, x3⟩
      · rcases hy with ⟨_, y1⟩ | ⟨g2, _⟩
        · exact absurd ⟨by omega, by omega⟩ z
        · rw [g1] at g2; cases g2
      · rcases hy with ⟨g2, _⟩ | ⟨_, y0, y1, y2, y3⟩
        · rw [g1] at g2; cases g2
        · exact ⟨⟨x0, by omega, x1, x2, by omega⟩, ⟨y0, by omega, y1, y2, by omega⟩⟩
    obtain ⟨⟨x0, x1, x2, x3, x4⟩, ⟨y0, y1, y2, y3, y4⟩⟩ := hxy
    unfold f_L_boundArgument_15
    cases d with
    | zero =>
      refine p_if (fun _ => ?_) (fun w => absurd rfl w)
      have base := r_T_makeNamed (c := 0) (a := 0) h r.2 (show 0 < Wn C by omega) (Or.inl ⟨h.1.2.2.2.2.2.2.2.1 0 (by omega), rfl⟩)
      refine p_bind base ?_
      rintro ⟨v, τ⟩ hv
      show k_pc (f_L_boundArgument_46 rec (L_set_types σ τ) v) (rUp σ T0 (30 * 0) ((wNm T 0 0).map (fun q => (4 * q.1 + 2, q.2))))
      refine r_L_bA46 (wNm T 0 0) ⟨rfl, rfl, rfl, rfl, fun _ _ => rfl⟩ ?_ (fun q e => ?_)
      · unfold wNm
        cases e : wAdd T (1, 0, 0, []) (1 + if (0 : Nat) = 0 then 0 else Tm T (0 / 4)) with
        | none =>
          rw [e] at hv
          obtain ⟨v1, v2⟩ := hv
          replace v2 : τ = L_types σ := v2
          exact ⟨v1, T, by show rT τ T0 T; rw [v2]; exact r.2⟩
        | some q =>
          rw [e] at hv
          exact hv
      · obtain ⟨w1, w2, w3, _⟩ := wNm_ok h (show 0 < Wn C by omega) (Or.inl ⟨h.1.2.2.2.2.2.2.2.1 0 (by omega), rfl⟩) e
        have := w1.2.2.1
        omega
    | succ e =>
      refine p_if (fun w => ?_) (fun _ => ?_)
      · have w2 : nI (e + 1) = nI 0 := w
        rw [nI_eq (by omega) (by decide)] at w2
        omega
      · have e1 : nI (e + 1) - 1 = nI e := by rw [← nI_1]; have := nI_pred e; rw [← nI_1] at this; exact this
        rw [e1, k_typeOf x (by omega), k_typeOf y (by omega), if_neg x4, if_neg y4]
        refine p_bind (hrec e rfl σ T (x / 4) (y / 4) h r (by omega) (by omega)) ?_
        rintro ⟨w, ρ, K, N⟩ ⟨v, v1, v2, v3⟩
        replace v1 : w = .inl v := v1
        subst v1
        refine p_ad ?_
        refine p_mono (r_L_bA46 (σ := σ) (d := 30 * (e + 1)) (rec := rec) (wFd C (e + 1) T (x / 4) (y / 4)) v2 v3 (fun q eq => ?_)) (fun q hq => hq)
        obtain ⟨w1, w2, w3, _⟩ := wFd_ok (e + 1) T (x / 4) (y / 4) h (by omega) (by omega) q eq
        have := w1.2.2.1
        omega
  unfold f_L_boundArgument
  refine p_if (fun z => ?_) (fun z => go (fun w => z (by rw [w.1])))
  rw [nI_eq (by omega) (by omega)] at z
  rw [k_howOf x (by omega)]
  refine p_if (fun w => go (fun q => q.2 ?_)) (fun w => ?_)
  · have w2 : nI (x % 4) = nI 2 := w
    rw [nI_eq (by omega) (by decide)] at w2
    exact w2
  · have w2 : ¬ nI (x % 4) = nI 2 := w
    rw [nI_eq (by omega) (by decide)] at w2
    refine p_some ⟨nI x, rfl, rLf_refl σ (30 * d), ?_⟩
    unfold wAr2
    rw [if_pos ⟨z, w2⟩]
    exact ⟨rfl, r.2⟩
theorem r_L_bBC_38 (hd : d ≤ 2) (hrec : ∀ e, d = e + 1 → rRec C g T0 e (wFd C d) rec) {a b : Nat} {s : Nat → Bool} {x4 : Int32} (hx : ∀ c, c < 32 → bt x4 c = s c) :
    ∀ (f c : Nat) (σ : StL) (T : wWt) (l : List Nat), wOK C T → rL σ C g T0 T → a < Tn T → b < Tn T → wSok C T a b s → wLok T c l → c ≤ 30 → (l ≠ [] ∨ ∃ k, c ≤ k ∧ k < 30 ∧ s k = true) → (∀ k (hk : k < l.length), L_row σ (30 * d + k) = nI l[k]) → k_pc (f_L_boundByClasses_38 rec f σ (nI a) (nI b) (nI d) x4 (nI (30 * d)) (nI l.length) (nI c)) (rUp σ T0 (30 * (d + 1)) (wCls C (wFd C d) a b s (30 - c) c T l)) := by
  intro f
  induction f with
  | zero => intro c σ T l _ _ _ _ _ _ _ _ _; exact p_none
  | succ f ih =>
    intro c σ T l h r ha hb hs hl hc hne hrow
    have hn := h.2.2.1
    have hC := h.1.2.1
    have ll := hl.1
    rw [f_L_boundByClasses_38]
    unfold f_L_boundByClasses_38_s
    refine p_if (fun z => ?_) (fun z => ?_)
    · have z2 : nI 30 ≤ nI c := z
      rw [nI_leI (by decide) (by omega)] at z2
      have ec : c = 30 := by omega
      subst ec
      rw [show 30 - 30 = 0 by omega, wCls]
      have hne' : l ≠ [] := by
        rcases hne with w | ⟨k, k1, k2, _⟩
        · exact w
        · omega
      have hl1 : 1 ≤ l.length := by
        cases l with
        | nil => exact absurd rfl hne'
        | cons p l => simp
      refine p_bind (r_T_makeIntersection (pa := (90, L_row σ)) (s := 30 * d) (l := l) h r.2 ⟨rfl, by omega, hrow⟩ (fun p hp => (hl.2.1 p hp).2.1) ll hl1) ?_
      rintro ⟨w, τ, K, N⟩ ⟨v, v1, v2⟩
      replace v1 : w = .inl v := v1
      subst v1
      refine p_ad (p_some ⟨v, rfl, ⟨rfl, rfl, rfl, rfl, fun _ _ => rfl⟩, ?_⟩)
      cases e : wInt T l with
      | none =>
        rw [e] at v2
        obtain ⟨u1, u2⟩ := v2
        replace u2 : τ = L_types σ := u2
        exact ⟨u1, T, by show rT τ T0 T; rw [u2]; exact r.2⟩
      | some q =>
        rw [e] at v2
        exact v2
    · have z2 : ¬ nI 30 ≤ nI c := z
      rw [nI_leI (by decide) (by omega)] at z2
      rw [show 30 - c = (30 - (c + 1)) + 1 by omega, wCls, k_has _ (show c < 32 by omega), hx c (by omega)]
      refine p_if (fun y => ?_) (fun y => ?_)
      · have sc : s c = false := b2_0.mp y
        rw [if_neg (by rw [sc]; decide), nI_1]
        refine ih (c + 1) σ T l h r ha hb hs (wLok_mono hl (by omega)) (by omega) ?_ hrow
        rcases hne with w | ⟨k, k1, k2, k3⟩
        · exact Or.inl w
        · refine Or.inr ⟨k, ?_, by omega, k3⟩
          by_cases ek : k = c
          · rw [ek, sc] at k3; cases k3
          · omega
      · have sc : s c = true := by
          cases q : s c with
          | true => rfl
          | false => rw [q] at y; exact absurd rfl y
        rw [if_pos sc]
        obtain ⟨s1, s2, s3⟩ := hs c sc
        obtain ⟨la, oa⟩ := wLg_ok h ha s2
        obtain ⟨lb, ob⟩ := wLg_ok h hb s3
        refine p_bind (r_L_find h r ha s1) ?_
        intro r4 e4
        rw [la] at e4
        replace e4 : r4 = nI (wLg C T a c) := e4
        subst e4
        refine p_bind (r_L_find h r hb s1) ?_
        intro r5 e5
        rw [lb] at e5
        replace e5 : r5 = nI (wLg C T b c) := e5
        subst e5
        refine p_bind (r_L_boundArgument h r hd hrec oa ob) ?_
        rintro ⟨w, ρ, K, N⟩ ⟨v, v1, v2, v3⟩
        replace v1 : w = .inl v := v1
        subst v1
        replace v2 : rLf σ ρ (30 * d) := v2
        have v2' : rLf σ ρ (30 * (d + 1)) := rLf_mono v2 (by omega)
        refine p_ad ?_
        refine p_mono (P := rUp σ T0 (30 * (d + 1)) ((wAr2 (wFd C d) T (wLg C T a c) (wLg C T b c)).bind (fun q => (wNm q.2 c q.1).bind (fun p => wCls C (wFd C d) a b s (30 - (c + 1)) (c + 1) p.2 (l ++ [p.1]))))) ?_ (fun q hq => hq)
        cases e6 : wAr2 (wFd C d) T (wLg C T a c) (wLg C T b c) with
        | none =>
          rw [e6] at v3
          obtain ⟨u1, T', u2⟩ := v3
          replace u1 : v = -1 := u1
          replace u2 : rT (L_types ρ) T0 T' := u2
          subst u1
          show k_pc ((f_T_makeNamed (L_types ρ) (nI c) (-1)).bind _) _
          have em : f_T_makeNamed (L_types ρ) (nI c) (-1) = some (-1, L_types ρ) := by
            unfold f_T_makeNamed
            rw [if_neg (by decide)]
          rw [em]
          exact p_some ⟨-1, rfl, v2', rfl, T', u2⟩
        | some q =>
          rw [e6] at v3
          obtain ⟨u1, u2⟩ := v3
          replace u1 : v = nI q.1 := u1
          replace u2 : rT (L_types ρ) T0 q.2 := u2
          subst u1
          obtain ⟨q1, q2, q3⟩ := wAr2_ok (wFd_ok d) h oa ob e6
          refine p_bind (r_T_makeNamed q1 u2 s1 q3) ?_
          rintro ⟨v7, τ⟩ hv7
          refine p_mono (P := rUp σ T0 (30 * (d + 1)) ((wNm q.2 c q.1).bind (fun p => wCls C (wFd C d) a b s (30 - (c + 1)) (c + 1) p.2 (l ++ [p.1])))) ?_ (fun q hq => hq)
          cases e7 : wNm q.2 c q.1 with
          | none =>
            unfold wNm at e7
            rw [e7] at hv7
            obtain ⟨t1, t2⟩ := hv7
            replace t1 : v7 = -1 := t1
            replace t2 : τ = L_types ρ := t2
            refine p_if (fun _ => p_some ⟨-1, rfl, v2', ?_⟩) (fun z => absurd t1 z)
            exact ⟨rfl, q.2, by show rT τ T0 q.2; rw [t2]; exact u2⟩
          | some p =>
            obtain ⟨p1, p2, p3, p4, p5⟩ := wNm_ok q1 s1 q3 e7
            unfold wNm at e7
            rw [e7] at hv7
            obtain ⟨t1, t2⟩ := hv7
            replace t1 : v7 = nI p.1 := t1
            replace t2 : rT τ T0 p.2 := t2
            have hp3 := p1.2.2.1
            refine p_if (fun z => absurd (t1.symm.trans z) (k_ne1 (by omega))) (fun _ => p_guard (fun _ => ?_))
            have hex := wEx_trans q2 p2
            have cl : (nI (30 * d) + nI l.length).toNatClampNeg = 30 * d + l.length := by rw [nI_add]; exact nI_clamp (by omega)
            have el : nI l.length + 1 = nI (l ++ [p.1]).length := by rw [nI_1, List.length_append]; rfl
            have nx := ih (c + 1) (L_put_row (L_set_types ρ τ) (nI (30 * d) + nI l.length) v7) p.2 (l ++ [p.1]) p1 ⟨by show rC (L_classes ρ) C g; rw [v2.2.1]; exact r.1, t2⟩ (Nat.lt_of_lt_of_le ha hex.1) (Nat.lt_of_lt_of_le hb hex.1) (wSok_ex h.2 hex ha hb hs) (wLok_add (wLok_ex hex hl) p4 p3 p5) (by omega) (Or.inl (by simp)) (fun k hk => ?_)
            · rw [el, nI_1]
              refine p_mono nx ?_
              rintro q0 ⟨v0, w1, w2, w3⟩
              have mid : rLf ρ (L_put_row (L_set_types ρ τ) (nI (30 * d) + nI l.length) v7) (30 * (d + 1)) := by
                refine ⟨rfl, rfl, rfl, rfl, fun j hj => ?_⟩
                show upd (L_row ρ) (nI (30 * d) + nI l.length).toNatClampNeg v7 j = L_row ρ j
                rw [cl]; exact k_updn (by omega)
              exact ⟨v0, w1, rLf_trans (rLf_trans v2' mid) w2, w3⟩
            · show upd (L_row ρ) (nI (30 * d) + nI l.length).toNatClampNeg v7 (30 * d + k) = _
              rw [cl]
              have hk' : k < l.length + 1 := by rw [List.length_append] at hk; exact hk
              by_cases ek : k = l.length
              · subst ek
                rw [k_upds, t1]; congr 1; simp
              · have kl : k < l.length := by omega
                rw [k_updn (by omega)]
                have e9 : (l ++ [p.1])[k] = l[k] := List.getElem_append_left kl
                rw [e9, v2.2.2.2.2 _ (by omega)]
                exact hrow k kl
theorem r_L_boundByClasses (h : wOK C T) (r : rL σ C g T0 T) (hd : d ≤ 2) (hrec : ∀ e, d = e + 1 → rRec C g T0 e (wFd C d) rec) {a b : Nat} (ha : a < Tn T) (hb : b < Tn T) : k_pc (f_L_boundByClasses rec σ (nI a) (nI b) (nI d)) (rUp σ T0 (30 * (d + 1)) (wCls C (wFd C d) a b (wLs2 C T a b) 30 0 T [])) := by
  have hC := h.1.2.1
  unfold f_L_boundByClasses
  refine p_if (fun z => absurd z (nI_pos (by omega))) (fun _ => p_if (fun _ => ?_) (fun z => ?_))
  · refine p_bind (r_L_commonOf h r ha hb) (fun v hv => p_bind (r_C_leastOf h.1 r.1 hv) (fun w hw => ?_))
    obtain ⟨s1, k, k1, k2⟩ := wLs2_ok h ha hb
    have e : nI d * 30 = nI (30 * d) := by
      show nI d * nI 30 = _
      rw [k_mul, Nat.mul_comm]
    rw [e]
    exact r_L_bBC_38 hd hrec hw 1000 0 σ T [] h r ha hb s1 (wLok_nil T) (by omega) (Or.inr ⟨k, by omega, by omega, k2⟩) (fun k hk => absurd hk (by simp))
  · have z2 : ¬ nI d ≤ nI 2 := z
    rw [nI_leI (by omega) (by decide)] at z2
    omega
theorem r_L_isArrayOfOthers (h : wOK C T) (r : rL σ C g T0 T) {a : Nat} (ha : a < Tn T) : k_pc (f_L_isArrayOfOthers σ (nI a)) (fun v => v = b2 (wAO T a)) := by
  have hn := h.2.2.1
  have kl := wK_lt h.2 ha
  unfold f_L_isArrayOfOthers wAO
  rw [r_T_kindOf h.2 r.2 ha]
  show k_pc (if nI (dK (Ty T a)) = 2 then _ else _) _
  refine p_if (fun z => ?_) (fun z => p_some ?_)
  · have z2 : nI (dK (Ty T a)) = nI 2 := z
    rw [nI_eq (by omega) (by decide)] at z2
    obtain ⟨_, w1, _⟩ := wT_arr h.2 ha z2
    rw [r_T_elementOf h.2 r.2 ha, if_pos z2]
    show k_pc ((f_T_kindOf (L_types σ) (nI (dX (Ty T a)))).bind _) _
    rw [r_T_kindOf h.2 r.2 (show dX (Ty T a) < Tn T by omega)]
    show k_pc (if nI (dK (Ty T (dX (Ty T a)))) = 0 then _ else _) _
    have kl2 := wK_lt h.2 (show dX (Ty T a) < Tn T by omega)
    rw [decide_eq_true z2, Bool.true_and]
    refine p_if (fun y => p_some ?_) (fun y => p_some ?_)
    · have y2 : nI (dK (Ty T (dX (Ty T a)))) = nI 0 := y
      rw [nI_eq (by omega) (by decide)] at y2
      rcases wT_kind h.2 (show dX (Ty T a) < Tn T by omega) with ⟨_, q⟩ | ⟨_, q⟩
      · rw [decide_eq_false (by omega)]; rfl
      · omega
    · have y2 : ¬ nI (dK (Ty T (dX (Ty T a)))) = nI 0 := y
      rw [nI_eq (by omega) (by decide)] at y2
      rcases wT_kind h.2 (show dX (Ty T a) < Tn T by omega) with ⟨q, _⟩ | ⟨q, _⟩
      · exact absurd q y2
      · rw [decide_eq_true q]; rfl
  · have z2 : ¬ nI (dK (Ty T a)) = nI 2 := z
    rw [nI_eq (by omega) (by decide)] at z2
    rw [decide_eq_false z2, Bool.false_and]; rfl
/-- n ARRAYS more -/
def wWr : Nat → Option (Nat × wWt) → Option (Nat × wWt)
  | 0, o => o
  | n + 1, o => wWr n (o.bind wArr)
theorem wWr_bind : ∀ (n : Nat) (o : Option (Nat × wWt)), wWr n (o.bind wArr) = (wWr n o).bind wArr := by
  intro n
  induction n with
  | zero => intro o; rfl
  | succ n ih => intro o; rw [wWr, ih, wWr]
theorem wWr_none : ∀ (n : Nat), wWr n none = none := by
  intro n
  induction n with
  | zero => rfl
  | succ n ih => rw [wWr]; exact ih
theorem r_L_up95 {n K : Nat} (hK : n < 1000) : ∀ (f i : Nat) (ρ : StL) (v : Int32) (o : Option (Nat × wWt)), i ≤ n → rLf σ ρ K → (∀ q, o = some q → wOK C q.2 ∧ q.1 < Tn q.2) → rUv T0 o v ρ → k_pc (f_L_upperBound_95 rec f ρ (nI n) v (nI i)) (rUp σ T0 K (wWr (n - i) o)) := by
  intro f
  induction f with
  | zero => intro i ρ v o _ _ _ _; exact p_none
  | succ f ih =>
    intro i ρ v o hi hf ho hv
    rw [f_L_upperBound_95]
    unfold f_L_upperBound_95_s
    refine p_if (fun z => p_some ?_) (fun z => ?_)
    · rw [nI_leI (by omega) (by omega)] at z
      rw [show n - i = 0 by omega]
      exact ⟨v, rfl, hf, hv⟩
    · rw [nI_leI (by omega) (by omega)] at z
      cases o with
      | none =>
        rw [wWr_none]
        exact p_if (fun _ => p_some ⟨v, rfl, hf, hv⟩) (fun z => absurd hv.1 z)
      | some q =>
        obtain ⟨v1, v2⟩ := hv
        obtain ⟨q1, q2⟩ := ho q rfl
        have hn := q1.2.2.1
        refine p_if (fun z => absurd (v1.symm.trans z) (k_ne1 (by omega))) (fun _ => ?_)
        rw [v1]
        refine p_bind (r_T_makeArray q1 v2 q2) ?_
        rintro ⟨x, τ⟩ hx
        rw [show n - i = (n - (i + 1)) + 1 by omega, wWr, nI_1]
        show k_pc (f_L_upperBound_95 rec f (L_set_types ρ τ) (nI n) x (nI (i + 1))) _
        have hf' : rLf σ (L_set_types ρ τ) K := rLf_trans hf ⟨rfl, rfl, rfl, rfl, fun _ _ => rfl⟩
        refine ih (i + 1) (L_set_types ρ τ) x ((some q).bind wArr) (by omega) hf' (fun p e => ?_) ?_
        · obtain ⟨a1, _, a3, _⟩ := wArr_ok q1 q2 e
          exact ⟨a1, a3⟩
        · show rUv T0 (wAdd q.2 (2, q.1, 0, []) (1 + Tm q.2 q.1)) x (L_set_types ρ τ)
          cases e : wAdd q.2 (2, q.1, 0, []) (1 + Tm q.2 q.1) with
          | none =>
            rw [e] at hx
            obtain ⟨x1, x2⟩ := hx
            replace x2 : τ = L_types ρ := x2
            exact ⟨x1, q.2, by show rT τ T0 q.2; rw [x2]; exact v2⟩
          | some p => rw [e] at hx; exact hx
theorem r_L_up69 (h : wOK C T) (r : rL σ C g T0 T) (hd : d ≤ 2) (hrec : ∀ e, d = e + 1 → rRec C g T0 e (wFd C d) rec) {a b n : Nat} (hn : n < 1000) (ha : a < Tn T) (hb : b < Tn T) (hao : ¬ (wAO T a = true ∧ wAO T b = true) ∨ a = b) (m : Nat) : k_pc (f_L_upperBound_69 rec σ (nI d) (nI a) (nI b) (nI n)) (rUp σ T0 (30 * (d + 1)) (wWr n (wUb C (wFd C d) (m + 1) T a b))) := by
  have h3 := h.2.2.1
  have hu := wUb_ok (wFd_ok (C := C) d) (m + 1) T a b h ha hb
  unfold f_L_upperBound_69
  refine p_if (fun z => ?_) (fun z => ?_)
  · rw [nI_eq (by omega) (by omega)] at z
    have := r_L_up95 (σ := σ) (rec := rec) (C := C) (T0 := T0) (K := 30 * (d + 1)) hn 1000 0 σ (nI a) (wUb C (wFd C d) (m + 1) T a b) (by omega) (rLf_refl σ _) (fun q e => ⟨(hu q e).1, (hu q e).2.2.1⟩) (by rw [wUb, if_pos z]; exact ⟨rfl, r.2⟩)
    exact this
  · rw [nI_eq (by omega) (by omega)] at z
    have hao' : ¬ (wAO T a = true ∧ wAO T b = true) := by
      rcases hao with w | w
      · exact w
      · exact absurd w z
    have e : wUb C (wFd C d) (m + 1) T a b = wCls C (wFd C d) a b (wLs2 C T a b) 30 0 T [] := by
      rw [wUb, if_neg z, if_neg hao']
    refine p_bind (r_L_boundByClasses h r hd hrec ha hb) ?_
    rintro ⟨w, ρ, K, N⟩ ⟨v, v1, v2, v3⟩
    replace v1 : w = .inl v := v1
    subst v1
    refine p_ad ?_
    rw [← e] at v3
    exact p_mono (r_L_up95 (σ := σ) (rec := rec) (C := C) (T0 := T0) (K := 30 * (d + 1)) hn 1000 0 ρ v (wUb C (wFd C d) (m + 1) T a b) (by omega) v2 (fun q e => ⟨(hu q e).1, (hu q e).2.2.1⟩) v3) (fun q hq => hq)
theorem r_L_up9 (h : wOK C T) (r : rL σ C g T0 T) (hd : d ≤ 2) (hrec : ∀ e, d = e + 1 → rRec C g T0 e (wFd C d) rec) : ∀ (f a b n : Nat), a < Tn T → b < Tn T → Tm T a + n ≤ 100 → k_pc (f_L_upperBound_9 rec f σ (nI d) (nI a) (nI b) (nI n)) (rUp σ T0 (30 * (d + 1)) (wWr n (wUb C (wFd C d) (101 - n) T a b))) := by
  have h3 := h.2.2.1
  intro f
  induction f with
  | zero => intro a b n _ _ _; exact p_none
  | succ f ih =>
    intro a b n ha hb hm
    have m1 := (h.2.2.2.1 a ha).1
    rw [f_L_upperBound_9]
    unfold f_L_upperBound_9_s
    have en : 101 - n = (100 - n) + 1 := by omega
    refine p_if (fun z => ?_) (fun z => ?_)
    · have z2 : nI 100 ≤ nI n := z
      rw [nI_leI (by decide) (by omega)] at z2
      omega
    refine p_if (fun z => ?_) (fun z => ?_)
    · rw [nI_eq (by omega) (by omega)] at z
      rw [en]; exact r_L_up69 h r hd hrec (by omega) ha hb (Or.inr z) _
    rw [nI_eq (by omega) (by omega)] at z
    refine p_bind (r_L_isArrayOfOthers h r ha) ?_
    intro r3 e3
    subst e3
    refine p_if (fun y => ?_) (fun y => ?_)
    · rw [en]; exact r_L_up69 h r hd hrec (by omega) ha hb (Or.inl (fun q => by rw [b2_0.mp y] at q; exact absurd q.1 (by decide))) _
    refine p_bind (r_L_isArrayOfOthers h r hb) ?_
    intro r4 e4
    subst e4
    refine p_if (fun w => ?_) (fun w => ?_)
    · rw [en]; exact r_L_up69 h r hd hrec (by omega) ha hb (Or.inl (fun q => by rw [b2_0.mp w] at q; exact absurd q.2 (by decide))) _
    have ya : wAO T a = true := by
      cases q : wAO T a with
      | true => rfl
      | false => rw [q] at y; exact absurd rfl y
    have yb : wAO T b = true := by
      cases q : wAO T b with
      | true => rfl
      | false => rw [q] at w; exact absurd rfl w
    obtain ⟨a1, a2, a3, a4⟩ := wAO_el h.2 ha ya
    obtain ⟨b1, b2', b3, b4⟩ := wAO_el h.2 hb yb
    rw [r_T_elementOf h.2 r.2 ha, if_pos a1]
    show k_pc ((f_T_elementOf (L_types σ) (nI b)).bind _) _
    rw [r_T_elementOf h.2 r.2 hb, if_pos b1]
    show k_pc (f_L_upperBound_9 rec f σ (nI d) (nI (dX (Ty T a))) (nI (dX (Ty T b))) (nI n + 1)) _
    rw [nI_1]
    have := ih (dX (Ty T a)) (dX (Ty T b)) (n + 1) (by omega) (by omega) (by omega)
    rw [en, wUb, if_neg z, if_pos ⟨ya, yb⟩]
    rw [wWr, show 101 - (n + 1) = 100 - n by omega] at this
    exact this
end
theorem r_L_upperBound {C : wWc} {g : Nat} {T0 : wWt} : ∀ (d F : Nat), d ≤ 2 → rRec C g T0 d (wUpp C d) (f_L_upperBound F) := by
  intro d
  induction d with
  | zero =>
    intro F hd σ T a b h r ha hb
    cases F with
    | zero => exact p_none
    | succ F =>
      rw [f_L_upperBound]
      unfold f_L_upperBound_s
      exact r_L_up9 h r hd (fun e q => by omega) 1000 a b 0 ha hb (by have := (h.2.2.2.1 a ha).2.1; omega)
  | succ d ih =>
    intro F hd σ T a b h r ha hb
    cases F with
    | zero => exact p_none
    | succ F =>
      rw [f_L_upperBound]
      unfold f_L_upperBound_s
      refine r_L_up9 h r hd (fun e q => ?_) 1000 a b 0 ha hb (by have := (h.2.2.2.1 a ha).2.1; omega)
      have ee : e = d := by omega
      subst ee
      exact ih F (by omega)
