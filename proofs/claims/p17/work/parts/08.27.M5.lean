/-! The reference: declare and above. -/
theorem k_pigeon : ∀ (c d : Nat) (f : Nat → Nat), (∀ k, k < d → f k < c) → (∀ k l, k < l → l < d → f k ≠ f l) → d ≤ c := by
  intro c
  induction c with
  | zero =>
    intro d f h1 _
    rcases Nat.eq_zero_or_pos d with e | e
    · omega
    · have := h1 0 e; omega
  | succ c ih =>
    intro d f h1 h2
    by_cases hx : ∃ k, k < d ∧ f k = c
    · obtain ⟨k, hk, ek⟩ := hx
      have hd : d - 1 ≤ c := by
        refine ih (d - 1) (fun j => if j = k then f (d - 1) else f j) ?_ ?_
        · intro j hj
          show (if j = k then f (d - 1) else f j) < c
          by_cases e : j = k
          · rw [if_pos e]
            have q1 := h1 (d - 1) (by omega)
            have q2 := h2 k (d - 1) (by omega) (by omega)
            omega
          · rw [if_neg e]
            have q1 := h1 j (by omega)
            have q2 : f j ≠ c := by
              rcases Nat.lt_or_gt_of_ne e with g | g
              · have := h2 j k g hk; omega
              · have := h2 k j g (by omega); omega
            omega
        · intro j l hjl hl
          show (if j = k then f (d - 1) else f j) ≠ (if l = k then f (d - 1) else f l)
          by_cases e1 : j = k
          · rw [if_pos e1, if_neg (by omega)]
            exact (h2 l (d - 1) (by omega) (by omega)).symm
          · rw [if_neg e1]
            by_cases e2 : l = k
            · rw [if_pos e2]
              exact h2 j (d - 1) (by omega) (by omega)
            · rw [if_neg e2]
              exact h2 j l hjl (by omega)
      omega
    · have : d ≤ c := by
        refine ih d f ?_ h2
        intro k hk
        have q1 := h1 k hk
        have q2 : f k ≠ c := fun e => hx ⟨k, hk, e⟩
        omega
      omega
section
variable {σ : StM} {n t : Nat}
theorem s_M_tie {c d : Nat} (hc : c < 30) (hd : d < 30) (ed : M_directs σ c = nI d) (x2 x3 : Int32) : k_ok (f_M_tie σ (nI c) x2 x3) (fun r => r.2 = M_put_directs (M_put_directArg (M_put_directTo σ (nI (30 * c + d)) x2) (nI (30 * c + d)) x3) (nI c) (nI (d + 1))) := by
  have ic : ¬ (nI c < 0 ∨ 30 ≤ (nI c).toNatClampNeg) := nI_in hc (by decide)
  have cc : (nI c).toNatClampNeg = c := nI_clamp (by omega)
  have e1 : 30 * nI c + M_directs σ (nI c).toNatClampNeg = nI (30 * c + d) := by rw [cc, ed, k_30ix]
  have e2 : M_directs σ (nI c).toNatClampNeg + 1 = nI (d + 1) := by rw [cc, ed, nI_1]
  have ix : ¬ ((30 * nI c + M_directs σ (nI c).toNatClampNeg) < 0 ∨ 900 ≤ (30 * nI c + M_directs σ (nI c).toNatClampNeg).toNatClampNeg) := by rw [e1]; exact nI_in (by omega) (by decide)
  unfold f_M_tie
  refine k_guard ic (k_guard ix (k_guard ic (k_guard ix (k_guard ic (k_guard ic (k_some ?_))))))
  show M_put_directs (M_put_directArg (M_put_directTo σ (30 * nI c + M_directs σ (nI c).toNatClampNeg) x2) (30 * nI c + M_directs σ (nI c).toNatClampNeg) x3) (nI c) (M_directs σ (nI c).toNatClampNeg + 1) = _
  rw [e1, e2]
theorem s_M_reckonOver_4 {c d : Nat} (hc : c < 30) (hd : d ≤ 30) (ed : M_directs σ c = nI d) (he : ∀ k, k < d → ∃ e, e < 30 ∧ M_directTo σ (30 * c + k) = nI e) :
    ∀ (f k : Nat) (x : Int32), k ≤ d → d < f + k → (∀ b, b < 32 → (bt x b = true ↔ ∃ j e, j < k ∧ e < 30 ∧ M_directTo σ (30 * c + j) = nI e ∧ (e = b ∨ bt (M_over σ e) b = true))) →
      k_ok (f_M_reckonOver_4 f σ (nI c) x (nI k)) (fun r => ∃ v, r.2 = M_put_over σ (nI c) v ∧ ∀ b, b < 32 → (bt v b = true ↔ ∃ j e, j < d ∧ e < 30 ∧ M_directTo σ (30 * c + j) = nI e ∧ (e = b ∨ bt (M_over σ e) b = true))) := by
  have ic : ¬ (nI c < 0 ∨ 30 ≤ (nI c).toNatClampNeg) := nI_in hc (by decide)
  have cc : (nI c).toNatClampNeg = c := nI_clamp (by omega)
  intro f
  induction f with
  | zero => intro k x h1 h2; omega
  | succ f ih =>
    intro k x h1 h2 h3
    rw [f_M_reckonOver_4]
    unfold f_M_reckonOver_4_s
    refine k_guard ic ?_
    refine k_if (fun q => ?_) (fun q => ?_)
    · rw [cc, ed, nI_leI (by omega) (by omega)] at q
      have hk : k = d := by omega
      subst hk
      exact k_guard ic (k_some ⟨x, rfl, h3⟩)
    · rw [cc, ed, nI_leI (by omega) (by omega)] at q
      obtain ⟨e, e1, e2⟩ := he k (by omega)
      have ix : ¬ ((30 * nI c + nI k) < 0 ∨ 900 ≤ (30 * nI c + nI k).toNatClampNeg) := by
        rw [k_30ix]; exact nI_in (by omega) (by decide)
      have cl : (30 * nI c + nI k).toNatClampNeg = 30 * c + k := by rw [k_30ix]; exact nI_clamp (by omega)
      refine k_guard ix ?_
      rw [cl, e2]
      refine k_guard (nI_in e1 (by decide)) ?_
      rw [nI_clamp (show e < 2 ^ 31 by omega), nI_1]
      refine ih (k + 1) _ (by omega) (by omega) ?_
      intro b hb
      rw [b_or, b_or, k_shl1 e (by omega) hb]
      constructor
      · intro hx
        rw [Bool.or_eq_true, Bool.or_eq_true, decide_eq_true_iff] at hx
        rcases hx with hx | hx | hx
        · obtain ⟨j, e', j1, j2, j3, j4⟩ := (h3 b hb).mp hx
          exact ⟨j, e', by omega, j2, j3, j4⟩
        · exact ⟨k, e, by omega, e1, e2, Or.inl hx.symm⟩
        · exact ⟨k, e, by omega, e1, e2, Or.inr hx⟩
      · rintro ⟨j, e', j1, j2, j3, j4⟩
        rw [Bool.or_eq_true, Bool.or_eq_true, decide_eq_true_iff]
        by_cases ej : j = k
        · subst ej
          rw [e2] at j3
          rw [nI_eq (by omega) (by omega)] at j3
          subst j3
          rcases j4 with j4 | j4
          · exact Or.inr (Or.inl j4.symm)
          · exact Or.inr (Or.inr j4)
        · exact Or.inl ((h3 b hb).mpr ⟨j, e', by omega, j2, j3, j4⟩)
theorem s_M_reckonOver {c d : Nat} (hc : c < 30) (hd : d ≤ 30) (ed : M_directs σ c = nI d) (he : ∀ k, k < d → ∃ e, e < 30 ∧ M_directTo σ (30 * c + k) = nI e) :
    k_ok (f_M_reckonOver σ (nI c)) (fun r => ∃ v, r.2 = M_put_over σ (nI c) v ∧ ∀ b, b < 32 → (bt v b = true ↔ ∃ j e, j < d ∧ e < 30 ∧ M_directTo σ (30 * c + j) = nI e ∧ (e = b ∨ bt (M_over σ e) b = true))) := by
  unfold f_M_reckonOver
  refine s_M_reckonOver_4 hc hd ed he 1000 0 0 (by omega) (by omega) ?_
  intro b hb
  rw [b_0]
  exact ⟨fun q => absurd q (by decide), fun ⟨j, e, j1, _⟩ => by omega⟩
/-- class c gets new rows in its own place, and its bits anew: the other classes keep theirs -/
theorem kClE_new {gn dr to ar ov gn' dr' to' ar' ov' : Nat → Int32} {c : Nat} (h : kCls n t gn dr to ar ov) (hn : c ≤ n)
    (hg : ∀ e, e < c → gn' e = gn e) (hd : ∀ e, e < c → dr' e = dr e) (ht : ∀ x, x < 30 * c → to' x = to x) (ha : ∀ x, x < 30 * c → ar' x = ar x) (ho : ∀ e, e < c → ov' e = ov e) :
    ∀ e, e < c → kClE t gn' dr' to' ar' ov' e := by
  intro e he
  obtain ⟨h0, d, h1, h2, h3, h4, h5, h6⟩ := h.2.2.2 e (by omega)
  have h30 := h.2.1
  refine ⟨by rw [hg e he]; exact h0, d, h1, h2, by rw [hd e he]; exact h3, ?_, ?_, ?_⟩
  · intro k hk
    obtain ⟨q, q1, q2, q3⟩ := h4 k hk
    refine ⟨q, q1, by rw [ht _ (by omega)]; exact q2, ?_⟩
    rw [hg q (by omega), hg e he, ha _ (by omega)]; exact q3
  · intro k l hk hl
    rw [ht _ (by omega), ht _ (by omega)]
    exact h5 k l hk hl
  · intro b hb
    rw [ho e he, h6 b hb]
    constructor
    · rintro ⟨k, q, k1, k2, k3, k4⟩
      refine ⟨k, q, k1, k2, by rw [ht _ (by omega)]; exact k3, ?_⟩
      rw [ho q (by omega)]; exact k4
    · rintro ⟨k, q, k1, k2, k3, k4⟩
      rw [ht _ (by omega)] at k3
      rw [ho q (by omega)] at k4
      exact ⟨k, q, k1, k2, k3, k4⟩
end
def kN (σ : StM) (n g d t : Nat) : Prop := kM σ n t ∧ M_generics σ = nI g ∧ g ≤ 6 ∧ M_full σ = 0 ∧ M_depth σ = nI d ∧ d ≤ 2
theorem k_good {α : Type} {σ : StM} {x : Int32} {f : Int32 × StM → Option α} {Q : α → Prop} (h0 : x = 0 → k_ok (f (1, M_set_code σ x)) Q) (h1 : ¬ x = 0 → k_ok (f (0, M_set_code σ x)) Q) : k_ok ((f_M_good σ x).bind f) Q := by
  unfold f_M_good
  by_cases h : x = 0
  · rw [if_pos h]; exact h0 h
  · rw [if_neg h]; exact h1 h
section
variable {σ : StM} {n g d t : Nat}
theorem kM_class (h : kMC σ n t) {x : Int32} (hx : ¬ f_M_isClass σ x = 0) : ∃ j, j < n ∧ x = nI j := by
  have hn := h.2.2.1
  unfold f_M_isClass at hx
  split at hx
  · exact absurd rfl hx
  · rename_i h0
    obtain ⟨j, hj, rfl⟩ := nI_of h0
    split at hx
    · exact absurd rfl hx
    · rename_i h1
      rw [h.1, nI_leI (by omega) hj] at h1
      exact ⟨j, by omega, rfl⟩
theorem kM_type (h : kMT σ n t) {x : Int32} (hx : ¬ f_M_isType σ x = 0) : ∃ j, j < t ∧ x = nI j := by
  have hn := h.2.2.1
  unfold f_M_isType at hx
  split at hx
  · exact absurd rfl hx
  · rename_i h0
    obtain ⟨j, hj, rfl⟩ := nI_of h0
    split at hx
    · exact absurd rfl hx
    · rename_i h1
      rw [h.1, nI_leI (by omega) hj] at h1
      exact ⟨j, by omega, rfl⟩
theorem k_nar {x : Int32} (h : x = 0 ∨ x = 1) : vp_nar .boolean x = x := by
  rcases h with rfl | rfl
  · decide +kernel
  · decide +kernel
theorem kCls_put {gn dr to ar ov gn' dr' to' ar' ov' : Nat → Int32} {c : Nat} (h : kCls n t gn dr to ar ov) (hc : c ≤ n) (h12 : 12 ≤ c) (h29 : c < 30)
    (hg : ∀ e, e < c → gn' e = gn e) (hd : ∀ e, e < c → dr' e = dr e) (ht : ∀ x, x < 30 * c → to' x = to x) (ha : ∀ x, x < 30 * c → ar' x = ar x) (ho : ∀ e, e < c → ov' e = ov e)
    (hE : kClE t gn' dr' to' ar' ov' c) : kCls (c + 1) t gn' dr' to' ar' ov' := by
  refine ⟨by omega, by omega, ?_, ?_⟩
  · intro e he
    rw [hg e (by omega)]; exact h.2.2.1 e he
  · intro e he
    by_cases q : e = c
    · rw [q]; exact hE
    · exact kClE_new h hc hg hd ht ha ho e (by omega)
theorem s_M_declare_70 (h : kN σ n g d t) (hn : n < 30) {τ : StM} {y t1 t2 : Int32} {g' : Nat} (hy : y = 0 ∨ y = 1) (e0 : t1 + t2 = nI g') (hg6 : g' ≤ 6) (e1 : M_classes τ = nI n) (e2 : M_generic τ = upd (M_generic σ) n y)
    (e3 : M_directs τ = M_directs σ) (e4 : M_directTo τ = M_directTo σ) (e5 : M_directArg τ = M_directArg σ) (e6 : M_over τ = M_over σ) (e7 : kMT τ n t) (e8 : M_full τ = 0) (e9 : M_depth τ = nI d) (e10 : M_code τ = 0) :
    k_ok (f_M_declare_70 τ t1 t2) (fun r => r.1 = nI n ∧ M_code r.2 = 0 ∧ kN r.2 (n + 1) g' d t) := by
  have h13 := h.1.1.2.1
  unfold f_M_declare_70
  have ic : ¬ (M_classes τ < 0 ∨ 30 ≤ (M_classes τ).toNatClampNeg) := by rw [e1]; exact nI_in hn (by decide)
  refine k_guard ic ?_
  have cn : (nI n).toNatClampNeg = n := nI_clamp (by omega)
  have c30 : (nI (30 * n + 0)).toNatClampNeg = 30 * n := nI_clamp (by omega)
  show k_ok ((f_M_tie (M_put_directs (M_set_generics τ (t1 + t2)) (M_classes τ) 0) (M_classes τ) 0 (-1)).bind fun r2 => (f_M_reckonOver r2.2 (M_classes r2.2)).bind fun r3 => some (((M_classes (M_set_classes r3.2 ((M_classes r3.2) + 1))) - 1), (M_set_classes r3.2 ((M_classes r3.2) + 1)))) _
  rw [e0, e1]
  refine k_bind (s_M_tie (σ := M_put_directs (M_set_generics τ (nI g')) (nI n) 0) (c := n) (d := 0) hn (by omega) (by show upd (M_directs τ) (nI n).toNatClampNeg 0 n = nI 0; rw [cn, k_upds]; rfl) 0 (-1)) ?_
  rintro ⟨v0, S⟩ eS
  replace eS : S = M_put_directs (M_put_directArg (M_put_directTo (M_put_directs (M_set_generics τ (nI g')) (nI n) 0) (nI (30 * n + 0)) 0) (nI (30 * n + 0)) (-1)) (nI n) (nI (0 + 1)) := eS
  have s1 : M_classes S = nI n := by rw [eS]; exact e1
  have s2 : M_directs S n = nI 1 := by rw [eS]; show upd _ (nI n).toNatClampNeg (nI 1) n = _; rw [cn, k_upds]
  have s2' : ∀ e, e < n → M_directs S e = M_directs σ e := by
    intro e he
    rw [eS]; show upd (upd (M_directs τ) (nI n).toNatClampNeg 0) (nI n).toNatClampNeg (nI 1) e = _
    rw [cn, k_u he, k_u he, e3]
  have s3 : M_directTo S (30 * n) = nI 0 := by rw [eS]; show upd (M_directTo τ) (nI (30 * n + 0)).toNatClampNeg 0 (30 * n) = _; rw [c30, k_upds]; rfl
  have s3' : ∀ x, x < 30 * n → M_directTo S x = M_directTo σ x := by
    intro x hx
    rw [eS]; show upd (M_directTo τ) (nI (30 * n + 0)).toNatClampNeg 0 x = _; rw [c30, k_u hx, e4]
  have s4 : M_directArg S (30 * n) = -1 := by rw [eS]; show upd (M_directArg τ) (nI (30 * n + 0)).toNatClampNeg (-1) (30 * n) = _; rw [c30, k_upds]
  have s4' : ∀ x, x < 30 * n → M_directArg S x = M_directArg σ x := by
    intro x hx
    rw [eS]; show upd (M_directArg τ) (nI (30 * n + 0)).toNatClampNeg (-1) x = _; rw [c30, k_u hx, e5]
  have s5 : M_over S = M_over σ := by rw [eS]; exact e6
  have s6 : M_generic S = upd (M_generic σ) n y := by rw [eS]; exact e2
  have s7 : kMT S n t := by rw [eS]; exact e7
  have s8 : M_full S = 0 := by rw [eS]; exact e8
  have s9 : M_depth S = nI d := by rw [eS]; exact e9
  have s10 : M_code S = 0 := by rw [eS]; exact e10
  have s11 : M_generics S = nI g' := by rw [eS]
  show k_ok ((f_M_reckonOver S (M_classes S)).bind fun r3 => some (((M_classes (M_set_classes r3.2 ((M_classes r3.2) + 1))) - 1), (M_set_classes r3.2 ((M_classes r3.2) + 1)))) _
  rw [s1]
  have sE : ∀ k, k < 1 → ∃ e, e < 30 ∧ M_directTo S (30 * n + k) = nI e := by
    intro k hk
    have hk0 : k = 0 := by omega
    subst hk0
    exact ⟨0, by omega, s3⟩
  refine k_bind (s_M_reckonOver (σ := S) (c := n) (d := 1) hn (by omega) s2 sE) ?_
  rintro ⟨v1, W⟩ ⟨v, eW, hv⟩
  replace eW : W = M_put_over S (nI n) v := eW
  have w5 : M_over W n = v := by rw [eW]; show upd (M_over S) (nI n).toNatClampNeg v n = _; rw [cn, k_upds]
  have w5' : ∀ e, e < n → M_over W e = M_over σ e := by
    intro e he
    rw [eW]; show upd (M_over S) (nI n).toNatClampNeg v e = _; rw [cn, k_u he, s5]
  have hW : ∀ {α : Type} (p : StM → α), p (M_put_over S (nI n) v) = p W := fun p => by rw [eW]
  refine k_some ⟨?_, ?_, ⟨⟨?_, ?_⟩, ?_⟩, ?_, hg6, ?_, ?_, h.2.2.2.2.2⟩
  · show M_classes W + 1 - 1 = nI n
    rw [eW]; show M_classes S + 1 - 1 = nI n; rw [s1, nI_1]; exact nI_pred n
  · show M_code W = 0; rw [eW]; exact s10
  · show M_classes W + 1 = nI (n + 1)
    rw [eW]; show M_classes S + 1 = _; rw [s1, nI_1]
  · show kCls (n + 1) t (M_generic W) (M_directs W) (M_directTo W) (M_directArg W) (M_over W)
    have wg : M_generic W = upd (M_generic σ) n y := by rw [eW]; exact s6
    have wd : M_directs W = M_directs S := by rw [eW]
    have wt : M_directTo W = M_directTo S := by rw [eW]
    have wa : M_directArg W = M_directArg S := by rw [eW]
    rw [wg, wd, wt, wa]
    refine kCls_put h.1.1.2 (Nat.le_refl n) (by omega) hn (fun e he => k_u he) s2' s3' s4' w5' ?_
    refine ⟨by rw [k_upds]; exact hy, 1, by omega, fun _ => by omega, s2, ?_, ?_, ?_⟩
    · intro k hk
      have hk0 : k = 0 := by omega
      subst hk0
      refine ⟨0, by omega, s3, ?_⟩
      have s4k : M_directArg S (30 * n + 0) = -1 := s4
      rw [k_u (show 0 < n by omega), h.1.1.2.2.2.1 0 (by omega), s4k]
      exact Or.inl ⟨rfl, rfl⟩
    · intro k l hk hl; omega
    · intro b hb
      rw [w5, hv b hb]
      constructor
      · rintro ⟨j, e, j1, j2, j3, j4⟩
        have hj0 : j = 0 := by omega
        subst hj0
        have j3' : M_directTo S (30 * n) = nI e := j3
        rw [s3, nI_eq (by omega) (by omega)] at j3'
        subst j3'
        refine ⟨0, 0, by omega, by omega, s3, ?_⟩
        rw [w5' 0 (by omega)]; rw [s5] at j4; exact j4
      · rintro ⟨j, e, j1, j2, j3, j4⟩
        refine ⟨j, e, j1, by omega, j3, ?_⟩
        rw [w5' e j2] at j4; rw [s5]; exact j4
  · show kMT (M_set_classes W (M_classes W + 1)) (n + 1) t
    have q : kMT W n t := by rw [eW]; exact s7
    refine ⟨q.1, q.2.1, q.2.2.1, ?_, q.2.2.2.2⟩
    intro i hi
    obtain ⟨q1, q2⟩ := q.2.2.2.1 i hi
    refine ⟨q1, ?_⟩
    rcases q2 with q2 | ⟨p1, p2, p3, p4, c, c1, c2, c3⟩ | q2 | q2
    · exact Or.inl q2
    · exact Or.inr (Or.inl ⟨p1, p2, p3, p4, c, by omega, c2, c3⟩)
    · exact Or.inr (Or.inr (Or.inl q2))
    · exact Or.inr (Or.inr (Or.inr q2))
  · show M_generics W = nI g'; rw [eW]; exact s11
  · show M_full W = 0; rw [eW]; exact s8
  · show M_depth W = nI d; rw [eW]; exact s9
/-- the new class's GENERIC mark stands behind all that the types speak of -/
theorem kMT_gen {τ : StM} {y : Int32} (h : kMT σ n t) (hg : M_generic τ = upd (M_generic σ) n y) (h1 : M_types τ = M_types σ) (h2 : M_kind τ = M_kind σ) (h3 : M_classOf τ = M_classOf σ) (h4 : M_how τ = M_how σ) (h5 : M_inner τ = M_inner σ) (h6 : M_made τ = M_made σ) (h7 : M_partCount τ = M_partCount σ) (h8 : M_partRow τ = M_partRow σ) : kMT τ n t := by
  unfold kMT
  rw [h1, h2, h3, h4, h5, h6, h7, h8, hg]
  refine ⟨h.1, h.2.1, h.2.2.1, ?_, h.2.2.2.2⟩
  intro i hi
  obtain ⟨q1, q2⟩ := h.2.2.2.1 i hi
  refine ⟨q1, ?_⟩
  rcases q2 with q2 | ⟨p1, p2, p3, p4, c, c1, c2, c3⟩ | q2 | q2
  · exact Or.inl q2
  · refine Or.inr (Or.inl ⟨p1, p2, p3, p4, c, c1, c2, ?_⟩)
    rw [k_u c1]; exact c3
  · exact Or.inr (Or.inr (Or.inl q2))
  · exact Or.inr (Or.inr (Or.inr q2))
theorem s_M_declare (h : kN σ n g d t) {x1 x2 : Int32} (h2 : x2 = 0 ∨ x2 = 1) : k_ok (f_M_declare σ x1 x2) (fun r => ((n = 30 ∨ (¬ x2 = 0 ∧ 6 ≤ g)) → M_code r.2 = 1 ∧ kN r.2 n g d t) ∧ (¬ (n = 30 ∨ (¬ x2 = 0 ∧ 6 ≤ g)) → M_code r.2 = 0 ∧ r.1 = nI n ∧ kN r.2 (n + 1) (if x2 = 0 then g else g + 1) d t)) := by
  have hn := h.1.1.2.2.1
  have hg := h.2.2.1
  have en : M_classes σ = nI n := h.1.1.1
  have eg : M_generics σ = nI g := h.2.1
  have bad : k_ok (f_M_declare_28 σ x1 x2 1) (fun r => M_code r.2 = 1 ∧ kN r.2 n g d t) := by
    unfold f_M_declare_28
    refine k_good (fun q => absurd q (by decide)) (fun _ => ?_)
    exact k_if (fun _ => k_some ⟨rfl, h⟩) (fun q => absurd rfl q)
  have good : n < 30 → (x2 = 0 ∨ g < 6) → k_ok (f_M_declare_28 σ x1 x2 0) (fun r => M_code r.2 = 0 ∧ r.1 = nI n ∧ kN r.2 (n + 1) (if x2 = 0 then g else g + 1) d t) := by
    intro hlt hg6
    unfold f_M_declare_28
    refine k_good (fun _ => ?_) (fun q => absurd rfl q)
    refine k_if (fun q => absurd q k_10) (fun _ => ?_)
    have ic : ¬ (M_classes σ < 0 ∨ 30 ≤ (M_classes σ).toNatClampNeg) := by rw [en]; exact nI_in hlt (by decide)
    have cn : (M_classes σ).toNatClampNeg = n := by rw [en]; exact nI_clamp (by omega)
    refine k_guard ic (k_guard ic ?_)
    have hy : vp_nar .boolean x2 = 0 ∨ vp_nar .boolean x2 = 1 := by rw [k_nar h2]; exact h2
    have hgen : upd (M_generic σ) (M_classes σ).toNatClampNeg (vp_nar .boolean x2) = upd (M_generic σ) n (vp_nar .boolean x2) := by rw [cn]
    have fin : ∀ (w : Int32) (g' : Nat), M_generics σ + w = nI g' → g' ≤ 6 → k_ok (f_M_declare_70 (M_put_generic (M_put_face (M_set_code σ 0) (M_classes σ) (vp_nar .boolean x1)) (M_classes σ) (vp_nar .boolean x2)) (M_generics σ) w) (fun r => M_code r.2 = 0 ∧ r.1 = nI n ∧ kN r.2 (n + 1) g' d t) := by
      intro w g' e0 e6
      refine k_mono (s_M_declare_70 (σ := σ) (y := vp_nar .boolean x2) h hlt hy e0 e6 en hgen rfl rfl rfl rfl (kMT_gen h.1.2 hgen rfl rfl rfl rfl rfl rfl rfl rfl) h.2.2.2.1 h.2.2.2.2.1 rfl) ?_
      rintro r ⟨q1, q2, q3⟩
      exact ⟨q2, q1, q3⟩
    refine k_if (fun q => ?_) (fun q => ?_)
    · rw [if_pos q]
      refine fin 0 g ?_ hg
      rw [eg]; exact nI_add g 0
    · rw [if_neg q]
      refine fin 1 (g + 1) ?_ ?_
      · rw [eg]; exact nI_1 g
      · rcases hg6 with w | w
        · exact absurd w q
        · omega
  unfold f_M_declare f_M_declare_23 f_M_declare_27
  refine k_if (fun q => ?_) (fun q => ?_)
  · have q2 : nI n = nI 30 := by rw [← en]; exact q
    rw [nI_eq (by omega) (by decide)] at q2
    exact k_mono bad (fun r hr => ⟨fun _ => hr, fun q => absurd (Or.inl q2) q⟩)
  · have q2 : ¬ nI n = nI 30 := by rw [← en]; exact q
    rw [nI_eq (by omega) (by decide)] at q2
    refine k_if (fun w => ?_) (fun w => ?_)
    · have nc : ¬ (n = 30 ∨ (¬ x2 = 0 ∧ 6 ≤ g)) := by
        rintro (z | ⟨z, _⟩)
        · exact q2 z
        · exact z w
      exact k_mono (good (by omega) (Or.inl w)) (fun r hr => ⟨fun q => absurd q nc, fun _ => hr⟩)
    · refine k_if (fun z => ?_) (fun z => ?_)
      · have z2 : nI g = nI 6 := by rw [← eg]; exact z
        rw [nI_eq (by omega) (by decide)] at z2
        have yc : n = 30 ∨ (¬ x2 = 0 ∧ 6 ≤ g) := Or.inr ⟨w, by omega⟩
        exact k_mono bad (fun r hr => ⟨fun _ => hr, fun q => absurd yc q⟩)
      · have z2 : ¬ nI g = nI 6 := by rw [← eg]; exact z
        rw [nI_eq (by omega) (by decide)] at z2
        have nc : ¬ (n = 30 ∨ (¬ x2 = 0 ∧ 6 ≤ g)) := by
          rintro (y | ⟨_, y⟩)
          · exact q2 y
          · omega
        exact k_mono (good (by omega) (Or.inr (by omega))) (fun r hr => ⟨fun q => absurd q nc, fun _ => hr⟩)
end
