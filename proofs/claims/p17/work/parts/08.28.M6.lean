/-! The reference: above. -/
section
variable {σ : StM} {n g d t : Nat}
theorem s_M_hasDirect_5 {c m : Nat} (hc : c < 30) (hm : m < 30) (ed : M_directs σ c = nI m) (x2 : Int32) :
    ∀ (f k : Nat) (x3 : Int32), k ≤ m → m < f + k → (x3 = 0 ∨ x3 = 1) → (x3 = 0 → ∀ j, j < k → M_directTo σ (30 * c + j) ≠ x2) → k_ok (f_M_hasDirect_5 f σ (nI c) x2 x3 (nI k)) (fun r => r = 0 → ∀ j, j < m → M_directTo σ (30 * c + j) ≠ x2) := by
  have ic : ¬ (nI c < 0 ∨ 30 ≤ (nI c).toNatClampNeg) := nI_in hc (by decide)
  have cc : (nI c).toNatClampNeg = c := nI_clamp (by omega)
  intro f
  induction f with
  | zero => intro k x3 h1 h2; omega
  | succ f ih =>
    intro k x3 h1 h2 h3 h4
    rw [f_M_hasDirect_5]
    unfold f_M_hasDirect_5_s f_M_hasDirect_36
    refine k_guard ic ?_
    refine k_if (fun q => ?_) (fun q => ?_)
    · rw [cc, ed, nI_leI (by omega) (by omega)] at q
      refine k_some ?_
      intro w j hj
      have w0 : x3 = 0 := by
        rcases h3 with h3 | h3
        · exact h3
        · rw [h3] at w; exact absurd w (by decide)
      exact h4 w0 j (by omega)
    · rw [cc, ed, nI_leI (by omega) (by omega)] at q
      have nx1 : k_ok (f_M_hasDirect_5 f σ (nI c) x2 1 (nI k + 1)) (fun r => r = 0 → ∀ j, j < m → M_directTo σ (30 * c + j) ≠ x2) := by
        rw [nI_1]
        exact ih (k + 1) 1 (by omega) (by omega) (Or.inr rfl) (fun w => absurd w (by decide))
      refine k_if (fun w => ?_) (fun _ => nx1)
      have ix : ¬ ((30 * nI c + nI k) < 0 ∨ 900 ≤ (30 * nI c + nI k).toNatClampNeg) := by
        rw [k_30ix]; exact nI_in (by omega) (by decide)
      have cl : (30 * nI c + nI k).toNatClampNeg = 30 * c + k := by rw [k_30ix]; exact nI_clamp (by omega)
      refine k_guard ix (k_if (fun _ => nx1) (fun z => ?_))
      rw [cl] at z
      rw [nI_1]
      refine ih (k + 1) 0 (by omega) (by omega) (Or.inl rfl) ?_
      intro _ j hj
      by_cases ej : j = k
      · subst ej; exact z
      · exact h4 w j (by omega)
theorem s_M_partsWay_6 (h : kMC σ n t) {c e : Nat} (hc : c < n) (he : e < n) (x3 : Int32) :
    ∀ (f i : Nat) (x4 a hh gg : Int32), i ≤ n → n < f + i → k_ok (f_M_partsWay_6 f (mF σ a hh gg) (nI c) (nI e) x3 x4 (nI i)) (kF σ) := by
  have hn := h.2.2.1
  have en : M_classes σ = nI n := h.1
  intro f
  induction f with
  | zero => intro i x4 a hh gg h1 h2; omega
  | succ f ih =>
    intro i x4 a hh gg h1 h2
    rw [f_M_partsWay_6]
    unfold f_M_partsWay_6_s f_M_partsWay_85
    rw [show M_classes (mF σ a hh gg) = nI n from en]
    refine k_if (fun _ => k_some ⟨a, hh, gg, rfl⟩) (fun q => ?_)
    rw [nI_leI (by omega) (by omega)] at q
    have nx : ∀ y a' h' g' : Int32, k_ok (f_M_partsWay_6 f (mF σ a' h' g') (nI c) (nI e) x3 y (nI i + 1)) (kF σ) := by
      intro y a' h' g'
      rw [nI_1]
      exact ih (i + 1) y a' h' g' (by omega) (by omega)
    refine k_guard (nI_in (by omega) (by decide)) (k_if (fun _ => nx _ _ _ _) (fun _ => ?_))
    refine k_bind (s_M_climb (σ := mF σ a hh gg) h hc (show i < n by omega) (fun _ _ _ => True) (fun _ _ _ _ _ _ _ _ _ _ => trivial) trivial) ?_
    rintro ⟨v1, τ1⟩ ⟨a1, h1', g1, e1, _, _⟩
    replace e1 : τ1 = mF σ a1 h1' g1 := e1
    subst e1
    refine k_bind (s_M_climb (σ := mF σ a1 h1' g1) h he (show i < n by omega) (fun _ _ _ => True) (fun _ _ _ _ _ _ _ _ _ _ => trivial) trivial) ?_
    rintro ⟨v2, τ2⟩ ⟨a2, h2', g2, e2, _, _⟩
    replace e2 : τ2 = mF σ a2 h2' g2 := e2
    subst e2
    refine k_if (fun _ => ?_) (fun _ => nx _ _ _ _)
    refine k_if (fun _ => nx _ _ _ _) (fun _ => ?_)
    refine k_if (fun _ => nx _ _ _ _) (fun _ => ?_)
    exact k_if (fun _ => nx _ _ _ _) (fun _ => nx _ _ _ _)
theorem s_M_above_bad (h : kN σ n g d t) {x1 x2 x3 x6 : Int32} (hx : ¬ x6 = 0) : k_ok (f_M_above_216 σ x1 x2 x3 x6) (fun r => ∃ t', kN r.2 n g d t') := by
  unfold f_M_above_216
  refine k_good (fun q => absurd q hx) (fun _ => ?_)
  exact k_if (fun _ => k_some ⟨t, h⟩) (fun q => absurd rfl q)
/-- the newest class c, with rows of its own anew in S: its bits are reckoned, and all holds again -/
theorem s_M_above_266 (h : kN σ n g d t) {c m : Nat} (hc : c + 1 = n) {S : StM} (hm : m ≤ c) (hm0 : 0 < m)
    (s1 : M_classes S = nI n) (s2 : M_directs S c = nI m) (s2' : ∀ e, e < c → M_directs S e = M_directs σ e)
    (s3 : ∀ k, k < m → ∃ e, e < c ∧ M_directTo S (30 * c + k) = nI e ∧ kArg t (M_generic σ e) (M_generic σ c) (M_directArg S (30 * c + k)))
    (s3' : ∀ x, x < 30 * c → M_directTo S x = M_directTo σ x) (s4' : ∀ x, x < 30 * c → M_directArg S x = M_directArg σ x)
    (s5 : ∀ k l, k < l → l < m → M_directTo S (30 * c + k) ≠ M_directTo S (30 * c + l)) (s6 : M_over S = M_over σ) (s7 : M_generic S = M_generic σ)
    (s8 : kMT S n t) (s9 : M_generics S = nI g) (s10 : M_full S = 0) (s11 : M_depth S = nI d) :
    k_ok (f_M_above_266 S (nI c)) (fun r => ∃ t', kN r.2 n g d t') := by
  have h13 := h.1.1.2.1
  have h30 := h.1.1.2.2.1
  have cc : (nI c).toNatClampNeg = c := nI_clamp (by omega)
  unfold f_M_above_266
  refine k_bind (s_M_reckonOver (σ := S) (c := c) (d := m) (by omega) (by omega) s2 (fun k hk => by obtain ⟨e, q1, q2, _⟩ := s3 k hk; exact ⟨e, by omega, q2⟩)) ?_
  rintro ⟨v1, W⟩ ⟨v, eW, hv⟩
  replace eW : W = M_put_over S (nI c) v := eW
  refine k_guard (nI_in (by omega) (by decide)) (k_some ⟨t, ?_⟩)
  have w5 : M_over W c = v := by rw [eW]; show upd (M_over S) (nI c).toNatClampNeg v c = _; rw [cc, k_upds]
  have w5' : ∀ e, e < c → M_over W e = M_over σ e := by
    intro e he
    rw [eW]; show upd (M_over S) (nI c).toNatClampNeg v e = _; rw [cc, k_u he, s6]
  refine ⟨⟨⟨?_, ?_⟩, ?_⟩, ?_, h.2.2.1, ?_, ?_, h.2.2.2.2.2⟩
  · show M_classes W = nI n; rw [eW]; exact s1
  · show kCls n t (M_generic W) (M_directs W) (M_directTo W) (M_directArg W) (M_over W)
    have wg : M_generic W = M_generic σ := by rw [eW]; exact s7
    have wd : M_directs W = M_directs S := by rw [eW]
    have wt : M_directTo W = M_directTo S := by rw [eW]
    have wa : M_directArg W = M_directArg S := by rw [eW]
    rw [wg, wd, wt, wa, ← hc]
    refine kCls_put h.1.1.2 (show c ≤ n by omega) (by omega) (by omega) (fun e _ => rfl) s2' s3' s4' w5' ?_
    refine ⟨(h.1.1.2.2.2.2 c (by omega)).1, m, hm, fun _ => hm0, s2, s3, s5, ?_⟩
    intro b hb
    rw [w5, hv b hb]
    constructor
    · rintro ⟨j, e, j1, j2, j3, j4⟩
      obtain ⟨e', q1, q2, _⟩ := s3 j j1
      rw [j3, nI_eq (by omega) (by omega)] at q2
      subst q2
      refine ⟨j, e, j1, q1, j3, ?_⟩
      rw [w5' e q1]; rw [s6] at j4; exact j4
    · rintro ⟨j, e, j1, j2, j3, j4⟩
      refine ⟨j, e, j1, by omega, j3, ?_⟩
      rw [w5' e j2] at j4; rw [s6]; exact j4
  · show kMT W n t; rw [eW]; exact s8
  · show M_generics W = nI g; rw [eW]; exact s9
  · show M_full W = 0; rw [eW]; exact s10
  · show M_depth W = nI d; rw [eW]; exact s11
theorem s_M_above_good (h : kN σ n g d t) {c e m : Nat} (hc : c + 1 = n) (he : e < c) {x2 : Int32} (ha : kArg t (M_generic σ e) (M_generic σ c) x2) (hm30 : m < 30) (ed : M_directs σ c = nI m) (hno : ∀ j, j < m → M_directTo σ (30 * c + j) ≠ nI e) :
    k_ok (f_M_above_216 σ (nI e) x2 (nI c) 0) (fun r => ∃ t', kN r.2 n g d t') := by
  have h13 := h.1.1.2.1
  have h30 := h.1.1.2.2.1
  have ht := h.1.2.2.2.1
  have ce : (nI e).toNatClampNeg = e := nI_clamp (by omega)
  have cc : (nI c).toNatClampNeg = c := nI_clamp (by omega)
  obtain ⟨_, m', d1, d2, d3, d4, d5, d6⟩ := h.1.1.2.2.2.2 c (by omega)
  have em : m' = m := by
    rw [ed, nI_eq (by omega) (by omega)] at d3
    exact d3.symm
  subst em
  unfold f_M_above_216
  refine k_good (fun _ => ?_) (fun q => absurd rfl q)
  refine k_if (fun q => absurd q k_10) (fun _ => ?_)
  refine k_guard (nI_in (by omega) (by decide)) (k_if (fun _ => ?_) (fun _ => ?_))
  · have e30 : 30 * nI c = nI (30 * c) := k_mul 30 c
    have c30 : (30 * nI c).toNatClampNeg = 30 * c := by rw [e30]; exact nI_clamp (by omega)
    have ix : ¬ (30 * nI c < 0 ∨ 900 ≤ (30 * nI c).toNatClampNeg) := by rw [e30]; exact nI_in (by omega) (by decide)
    refine k_guard ix (k_guard ix ?_)
    have to' : ∀ x, upd (M_directTo σ) (30 * nI c).toNatClampNeg (nI e) x = if x = 30 * c then nI e else M_directTo σ x := by
      intro x; rw [c30]; rfl
    have ar' : ∀ x, upd (M_directArg σ) (30 * nI c).toNatClampNeg x2 x = if x = 30 * c then x2 else M_directArg σ x := by
      intro x; rw [c30]; rfl
    refine s_M_above_266 (S := M_put_directArg (M_put_directTo (M_set_code σ 0) (30 * nI c) (nI e)) (30 * nI c) x2) h hc d1 (d2 (by omega)) h.1.1.1 d3 (fun _ _ => rfl) ?_ ?_ ?_ ?_ rfl rfl h.1.2 h.2.1 h.2.2.2.1 h.2.2.2.2.1
    · intro k hk
      show ∃ e', e' < c ∧ upd (M_directTo σ) (30 * nI c).toNatClampNeg (nI e) (30 * c + k) = nI e' ∧ kArg t (M_generic σ e') (M_generic σ c) (upd (M_directArg σ) (30 * nI c).toNatClampNeg x2 (30 * c + k))
      rw [to', ar']
      by_cases k0 : k = 0
      · rw [if_pos (by omega), if_pos (by omega)]
        exact ⟨e, he, rfl, ha⟩
      · rw [if_neg (by omega), if_neg (by omega)]
        exact d4 k hk
    · intro x hx
      show upd (M_directTo σ) (30 * nI c).toNatClampNeg (nI e) x = _
      rw [to', if_neg (by omega)]
    · intro x hx
      show upd (M_directArg σ) (30 * nI c).toNatClampNeg x2 x = _
      rw [ar', if_neg (by omega)]
    · intro k l hk hl
      show upd (M_directTo σ) (30 * nI c).toNatClampNeg (nI e) (30 * c + k) ≠ upd (M_directTo σ) (30 * nI c).toNatClampNeg (nI e) (30 * c + l)
      rw [to', to', if_neg (show ¬ 30 * c + l = 30 * c by omega)]
      by_cases k0 : k = 0
      · rw [if_pos (by omega)]
        exact (hno l hl).symm
      · rw [if_neg (by omega)]
        exact d5 k l hk hl
  · have hmc : m' + 1 ≤ c := by
      refine k_pigeon c (m' + 1) (fun k => if k = m' then e else (M_directTo σ (30 * c + k)).toNatClampNeg) ?_ ?_
      · intro k hk
        show (if k = m' then e else (M_directTo σ (30 * c + k)).toNatClampNeg) < c
        by_cases k0 : k = m'
        · rw [if_pos k0]; exact he
        · rw [if_neg k0]
          obtain ⟨q, q1, q2, _⟩ := d4 k (by omega)
          rw [q2, nI_clamp (by omega)]; exact q1
      · intro k l hk hl
        show (if k = m' then e else (M_directTo σ (30 * c + k)).toNatClampNeg) ≠ (if l = m' then e else (M_directTo σ (30 * c + l)).toNatClampNeg)
        rw [if_neg (show ¬ k = m' by omega)]
        obtain ⟨q, q1, q2, _⟩ := d4 k (by omega)
        rw [q2, nI_clamp (by omega)]
        by_cases l0 : l = m'
        · rw [if_pos l0]
          intro w
          apply hno k (by omega)
          rw [q2, w]
        · rw [if_neg l0]
          obtain ⟨p, p1, p2, _⟩ := d4 l (by omega)
          rw [p2, nI_clamp (by omega)]
          intro w
          apply d5 k l hk (by omega)
          rw [q2, p2, w]
    show k_ok ((f_M_tie (M_set_code σ 0) (nI c) (nI e) x2).bind fun r3 => f_M_above_266 r3.2 (nI c)) _
    refine k_bind (s_M_tie (σ := M_set_code σ 0) (c := c) (d := m') (by omega) (by omega) d3 (nI e) x2) ?_
    rintro ⟨v0, S0⟩ eS0
    replace eS0 : S0 = M_put_directs (M_put_directArg (M_put_directTo (M_set_code σ 0) (nI (30 * c + m')) (nI e)) (nI (30 * c + m')) x2) (nI c) (nI (m' + 1)) := eS0
    subst eS0
    have ci : (nI (30 * c + m')).toNatClampNeg = 30 * c + m' := nI_clamp (by omega)
    have to' : ∀ x, upd (M_directTo σ) (nI (30 * c + m')).toNatClampNeg (nI e) x = if x = 30 * c + m' then nI e else M_directTo σ x := by
      intro x; rw [ci]; rfl
    have ar' : ∀ x, upd (M_directArg σ) (nI (30 * c + m')).toNatClampNeg x2 x = if x = 30 * c + m' then x2 else M_directArg σ x := by
      intro x; rw [ci]; rfl
    show k_ok (f_M_above_266 (M_put_directs (M_put_directArg (M_put_directTo (M_set_code σ 0) (nI (30 * c + m')) (nI e)) (nI (30 * c + m')) x2) (nI c) (nI (m' + 1))) (nI c)) _
    refine s_M_above_266 h hc hmc (by omega) h.1.1.1 ?_ ?_ ?_ ?_ ?_ ?_ rfl rfl h.1.2 h.2.1 h.2.2.2.1 h.2.2.2.2.1
    · show upd (M_directs σ) (nI c).toNatClampNeg (nI (m' + 1)) c = _
      rw [cc, k_upds]
    · intro e' he'
      show upd (M_directs σ) (nI c).toNatClampNeg (nI (m' + 1)) e' = _
      rw [cc, k_u he']
    · intro k hk
      show ∃ e', e' < c ∧ upd (M_directTo σ) (nI (30 * c + m')).toNatClampNeg (nI e) (30 * c + k) = nI e' ∧ kArg t (M_generic σ e') (M_generic σ c) (upd (M_directArg σ) (nI (30 * c + m')).toNatClampNeg x2 (30 * c + k))
      rw [to', ar']
      by_cases k0 : k = m'
      · rw [if_pos (by omega), if_pos (by omega)]
        exact ⟨e, he, rfl, ha⟩
      · rw [if_neg (by omega), if_neg (by omega)]
        exact d4 k (by omega)
    · intro x hx
      show upd (M_directTo σ) (nI (30 * c + m')).toNatClampNeg (nI e) x = _
      rw [to', if_neg (by omega)]
    · intro x hx
      show upd (M_directArg σ) (nI (30 * c + m')).toNatClampNeg x2 x = _
      rw [ar', if_neg (by omega)]
    · intro k l hk hl
      show upd (M_directTo σ) (nI (30 * c + m')).toNatClampNeg (nI e) (30 * c + k) ≠ upd (M_directTo σ) (nI (30 * c + m')).toNatClampNeg (nI e) (30 * c + l)
      rw [to', to', if_neg (show ¬ 30 * c + k = 30 * c + m' by omega)]
      by_cases l0 : l = m'
      · rw [if_pos (by omega)]
        exact hno k (by omega)
      · rw [if_neg (by omega)]
        exact d5 k l hk (by omega)
theorem s_M_above (h : kN σ n g d t) (x1 x2 : Int32) : k_ok (f_M_above σ x1 x2) (fun r => ∃ t', kN r.2 n g d t') := by
  have h13 := h.1.1.2.1
  have h30 := h.1.1.2.2.1
  have ht := h.1.2.2.2.1
  have en : M_classes σ = nI n := h.1.1.1
  have et : M_types σ = nI t := h.1.2.1
  obtain ⟨c, hc⟩ : ∃ c, c + 1 = n := ⟨n - 1, by omega⟩
  have ec : M_classes σ - 1 = nI c := by rw [en, ← hc]; exact nI_pred c
  have cc : (nI c).toNatClampNeg = c := nI_clamp (by omega)
  have ic : ¬ (nI c < 0 ∨ 30 ≤ (nI c).toNatClampNeg) := nI_in (by omega) (by decide)
  obtain ⟨gc, m, d1, d2, d3, d4, d5, d6⟩ := h.1.1.2.2.2.2 c (by omega)
  have bad : ∀ (y : Int32) (w : Int32), ¬ w = 0 → k_ok (f_M_above_216 σ x1 x2 y w) (fun r => ∃ t', kN r.2 n g d t') := fun y w hw => s_M_above_bad h hw
  -- the way on once `to` and the argument are there
  have k132 : ∀ e, e < c → x1 = nI e → ¬ M_types σ ≤ x2 → k_ok (f_M_above_132 σ x1 x2 (nI c) 0) (fun r => ∃ t', kN r.2 n g d t') := by
    intro e he e1 hx2
    have ge := (h.1.1.2.2.2.2 e (by omega)).1
    have ce : (nI e).toNatClampNeg = e := nI_clamp (by omega)
    unfold f_M_above_132
    refine k_bind (P := fun r => r = 0 → ∀ j, j < m → M_directTo σ (30 * c + j) ≠ x1) ?_ ?_
    · unfold f_M_hasDirect
      exact s_M_hasDirect_5 (by omega) (by omega) d3 x1 1000 0 0 (by omega) (by omega) (Or.inl rfl) (fun _ j hj => by omega)
    intro r4 hr4
    refine k_if (fun w => ?_) (fun _ => ?_)
    · have hno := hr4 w
      have k203 : kArg t (M_generic σ e) (M_generic σ c) x2 → k_ok (f_M_above_203 σ x1 x2 (nI c) 0) (fun r => ∃ t', kN r.2 n g d t') := by
        intro ha
        unfold f_M_above_203
        refine k_bind (P := kF σ) ?_ ?_
        · unfold f_M_partsWay
          rw [e1]
          exact s_M_partsWay_6 h.1.1 (show c < n by omega) (show e < n by omega) x2 1000 0 0 (M_found σ) (M_foundHow σ) (M_foundType σ) (by omega) (by omega)
        rintro ⟨v, τ⟩ ⟨a, hh, gg, eτ⟩
        replace eτ : τ = mF σ a hh gg := eτ
        subst eτ
        refine k_if (fun _ => ?_) (fun _ => s_M_above_bad (σ := mF σ a hh gg) h (by decide))
        rw [e1] at hno ⊢
        exact s_M_above_good (σ := mF σ a hh gg) h hc he ha (show m < 30 by omega) d3 hno
      have k163 : (x2 = -1 ∨ x2 = -2 ∨ ∃ x, 8 ≤ x ∧ x < t ∧ x2 = nI x) → k_ok (f_M_above_163 σ x1 x2 (nI c) 0) (fun r => ∃ t', kN r.2 n g d t') := by
        intro hx
        unfold f_M_above_163
        rw [e1]
        refine k_guard (nI_in (by omega) (by decide)) ?_
        rw [ce]
        rw [← e1]
        have k179 : ∀ t1 : Int32, (t1 = if x2 = -1 then 1 else 0) → k_ok (f_M_above_179 σ x1 x2 (nI c) 0 (M_generic σ e) t1) (fun r => ∃ t', kN r.2 n g d t') := by
          intro t1 ht1
          unfold f_M_above_179 f_M_above_197
          refine k_if (fun _ => bad _ _ (by decide)) (fun z => ?_)
          refine k_if (fun z2 => ?_) (fun z2 => ?_)
          · refine k_guard ic (k_if (fun _ => bad _ _ (by decide)) (fun z3 => ?_))
            rw [cc] at z3
            rw [z2, if_neg (by decide)] at ht1
            rw [ht1] at z
            refine k203 (Or.inr ⟨?_, Or.inr ⟨z2, ?_⟩⟩)
            · rcases ge with ge | ge
              · exact absurd ge z
              · exact ge
            · rcases gc with gc | gc
              · exact absurd gc z3
              · exact gc
          · rcases hx with hx | hx | ⟨x, x8, xt, hx⟩
            · rw [if_pos hx] at ht1
              rw [ht1] at z
              refine k203 (Or.inl ⟨?_, hx⟩)
              rcases ge with ge | ge
              · exact ge
              · exact absurd ge z
            · exact absurd hx z2
            · rw [if_neg (by rw [hx]; exact k_ne1 (by omega))] at ht1
              rw [ht1] at z
              refine k203 (Or.inr ⟨?_, Or.inl ⟨x, x8, xt, hx⟩⟩)
              rcases ge with ge | ge
              · exact absurd ge z
              · exact ge
        exact k_if (fun z => k179 1 (by rw [if_pos z])) (fun z => k179 0 (by rw [if_neg z]))
      unfold f_M_above_197
      refine k_if (fun _ => bad _ _ (by decide)) (fun z1 => ?_)
      refine k_if (fun z2 => ?_) (fun z2 => ?_)
      · refine k163 ?_
        rw [Int32.lt_iff_toInt_lt] at z1 z2
        have q0 : (0 : Int32).toInt = 0 := by decide
        have q1 : (-1 : Int32).toInt = -1 := by decide
        have q2 : (-2 : Int32).toInt = -2 := by decide
        rcases (show x2.toInt = -1 ∨ x2.toInt = -2 by omega) with q | q
        · exact Or.inl (Int32.toInt_inj.mp (by rw [q, q1]))
        · exact Or.inr (Or.inl (Int32.toInt_inj.mp (by rw [q, q2])))
      · refine k_if (fun _ => bad _ _ (by decide)) (fun z3 => ?_)
        refine k163 (Or.inr (Or.inr ?_))
        obtain ⟨x, hx, ex⟩ := nI_of z2
        rw [ex] at z3 hx2
        rw [et, nI_leI (by omega) hx] at hx2
        have z4 : ¬ nI x < nI 8 := z3
        rw [nI_ltI hx (by decide)] at z4
        exact ⟨x, by omega, by omega, ex⟩
    · exact bad _ _ (by decide)
  have k73 : ∀ (w z : Int32), (w = 0 ∨ ((∃ e, e < n ∧ x1 = nI e) ∧ ¬ M_types σ ≤ x2)) → k_ok (f_M_above_73 σ x1 x2 (nI c) w z) (fun r => ∃ t', kN r.2 n g d t') := by
    intro w z hw
    unfold f_M_above_73 f_M_above_141
    refine k_if (fun _ => bad _ _ (by decide)) (fun w0 => ?_)
    rcases hw with hw | ⟨⟨e, he, e1⟩, hx2⟩
    · exact absurd hw w0
    refine k_if (fun _ => bad _ _ (by decide)) (fun _ => ?_)
    refine k_if (fun _ => bad _ _ (by decide)) (fun ne => ?_)
    have hec : e < c := by
      have : ¬ e = c := by
        intro q
        apply ne
        rw [e1, q]
      omega
    have ie : ¬ (x1 < 0 ∨ 30 ≤ x1.toNatClampNeg) := by rw [e1]; exact nI_in (by omega) (by decide)
    have k118 : k_ok (f_M_above_118 σ x1 x2 (nI c) z 0) (fun r => ∃ t', kN r.2 n g d t') := by
      unfold f_M_above_118 f_M_above_141
      refine k_if (fun _ => k132 e hec e1 hx2) (fun _ => ?_)
      exact k_guard ie (k_if (fun _ => bad _ _ (by decide)) (fun _ => k132 e hec e1 hx2))
    refine k_guard ic (k_if (fun _ => k118) (fun _ => ?_))
    exact k_guard ie (k_if (fun _ => bad _ _ (by decide)) (fun _ => k118))
  have k28 : ∀ w : Int32, (w = 0 ∨ ((∃ e, e < n ∧ x1 = nI e) ∧ ¬ M_types σ ≤ x2)) → k_ok (f_M_above_28 σ x1 x2 (nI c) w) (fun r => ∃ t', kN r.2 n g d t') := by
    intro w hw
    have e30 : 30 * nI c = nI (30 * c) := k_mul 30 c
    have c30 : (30 * nI c).toNatClampNeg = 30 * c := by rw [e30]; exact nI_clamp (by omega)
    have ix : ¬ (30 * nI c < 0 ∨ 900 ≤ (30 * nI c).toNatClampNeg) := by rw [e30]; exact nI_in (by omega) (by decide)
    obtain ⟨e0, q1, q2, _⟩ := d4 0 (d2 (by omega))
    replace q2 : M_directTo σ (30 * c) = nI e0 := q2
    unfold f_M_above_28 f_M_above_72
    refine k_guard ic (k_if (fun _ => k73 w 0 hw) (fun _ => ?_))
    refine k_guard ix (k_if (fun _ => k73 w 0 hw) (fun _ => ?_))
    refine k_guard ix ?_
    rw [c30, q2]
    exact k_guard (nI_in (by omega) (by decide)) (k_if (fun _ => k73 w 1 hw) (fun _ => k73 w 0 hw))
  unfold f_M_above f_M_above_27
  rw [ec]
  refine k_if (fun _ => k28 0 (Or.inl rfl)) (fun w => ?_)
  refine k_if (fun _ => k28 0 (Or.inl rfl)) (fun w2 => ?_)
  obtain ⟨e, he, e1⟩ := kM_class h.1.1 w
  exact k28 1 (Or.inr ⟨⟨e, he, e1⟩, w2⟩)
end
