/-! The reference: upper runs to its end. -/
theorem kTyp_ge8 {n t : Nat} {gn kd cl hw inn md pc pr : Nat → Int32} (h : kTyp n t gn kd cl hw inn md pc pr) {i : Nat} (hi : i < t) (hk : ¬ kd i = 0) : 8 ≤ i := by
  obtain ⟨_, h1 | h1 | h1 | h1⟩ := h.2.2.1 i hi
  · exact absurd h1.2.1 hk
  · exact h1.1
  · exact h1.1
  · exact h1.1
theorem kDone_trans {n : Nat} {σ τ σ' : StM} {t t' h : Nat} {w w' : Prop} (hg : kGo σ τ t h) (ht : t ≤ t') (hw : w' → w) (h2 : kDone n τ t' h w σ') : kDone n σ t h w' σ' := by
  refine ⟨kGo_trans hg h2.1 ht (Nat.le_refl h), fun q => ?_⟩
  obtain ⟨t2, v, q1, q2, q3, q4, q5, q6⟩ := h2.2 q
  exact ⟨t2, v, by omega, q2, q3, q4, q5, fun z => q6 (hw z)⟩
theorem kXr_trans {n t t' : Nat} {σ : StM} {K K1 : Int32} {r1 r2 : Int32 × StM} (h1 : kXr σ n t K1 r1) (ht : t ≤ t') (h2 : kXr r1.2 n t' K r2) : kXr σ n t K r2 := by
  obtain ⟨⟨b1, e1⟩, a1, _⟩ := h1
  obtain ⟨⟨b2, e2⟩, a2, f2⟩ := h2
  refine ⟨⟨b2, by rw [e2, e1]; rfl⟩, kAg_trans a1 a2 ht, fun q => ?_⟩
  obtain ⟨i, t2, q1, q2⟩ := f2 q
  exact ⟨i, t2, by omega, q2⟩
section
variable {σ : StM} {n t : Nat}
theorem up_keep {h a b d c s F : Nat} {x : Int32} {Q : Int32 × StM → Prop} (hF : kFr n σ t h a b d c s) (hc : c < n) (hh : h < 500) {r : Int32 × StM} (hr : kXr σ n t 1 r)
    (hnext : ∀ (τ : StM) (t' : Nat), t ≤ t' → kGo σ τ t h → M_stage τ h = M_stage σ h → kFr n τ t' h a b d (c + 1) (s + 1) → k_ok (f_M_upper_50 F τ x) Q)
    (hfull : ∀ τ : StM, kGo σ τ t h → ¬ M_full τ = 0 → k_ok (f_M_upper_50 F τ x) Q) :
    k_ok (f_M_keep r.2 (nI h) r.1) (fun r9 => k_ok (f_M_upper_50 F r9.2 x) Q) := by
  obtain ⟨v, ρ⟩ := r
  obtain ⟨⟨bb, eb⟩, ha, hf⟩ := hr
  replace eb : ρ = mB σ bb := eb
  replace ha : kAg t σ ρ := ha
  have hn := hF.1.1.2.2.1
  have hFr := hF
  obtain ⟨q1, q2, q3, ⟨q4, q5, q6, q7, q8, q9⟩, q10, q11, q12, q13, q14, q15, q16⟩ := hF
  have es : M_size ρ h = nI s := by rw [eb]; exact q14
  have ea : M_at ρ h = nI c := by rw [eb]; exact q12
  refine k_mono (s_M_keep hh (show s < 30 by omega) es ea v) ?_
  rintro ⟨v9, τ⟩ eτ
  replace eτ : τ = mKeep ρ h s c v := eτ
  have hgo : kGo σ τ t h := by
    refine ⟨?_, ?_, ?_⟩
    · rw [eτ, eb]; exact ⟨rfl, rfl, rfl, rfl, rfl, rfl, rfl, rfl⟩
    · rw [eτ]; exact ha
    · intro f hf
      rw [eτ, eb]
      refine ⟨rfl, rfl, rfl, rfl, rfl, ?_, ?_, ?_⟩
      · show upd (M_at σ) h (nI (c + 1)) f = _; exact k_u hf
      · show upd (M_size σ) h (nI (s + 1)) f = _; exact k_u hf
      · intro k hk
        show upd (M_parts σ) (30 * h + s) v (30 * f + k) = _
        exact k_u (by omega)
  by_cases hfl : M_full τ = 0
  · have hfl' : M_full ρ = 0 := by rw [eτ] at hfl; exact hfl
    obtain ⟨i, t', z1, z2, z3, z4, z5⟩ := hf hfl'
    replace z2 : kM ρ n t' := z2
    replace z3 : v = nI i := z3
    replace z5 : M_kind ρ i = 1 := z5
    have i8 : 8 ≤ i := kTyp_ge8 z2.2.2 z4 (by rw [z5]; decide)
    refine hnext τ t' z1 hgo (by rw [eτ, eb]; rfl) ?_
    refine ⟨by rw [eτ]; exact z2, hfl, by rw [eτ, eb]; exact q3, ⟨by rw [eτ, eb]; exact q4, by rw [eτ, eb]; exact q5, q6, by omega, q8, by omega⟩, by rw [eτ, eb]; exact q10, ?_, ?_, by omega, ?_, by omega, ?_⟩
    · intro e he hb
      have hb' : bt (M_least σ h) e = true := by rw [eτ, eb] at hb; exact hb
      obtain ⟨w1, w2, w3⟩ := q11 e he hb'
      exact ⟨w1, kSees_ag hgo.1.2.2.2.2.2.2.2 hgo.2.1 q7 w2, kSees_ag hgo.1.2.2.2.2.2.2.2 hgo.2.1 q9 w3⟩
    · rw [eτ]; show upd (M_at ρ) h (nI (c + 1)) h = _; exact k_upds
    · rw [eτ]; show upd (M_size ρ) h (nI (s + 1)) h = _; exact k_upds
    · intro k hk
      have ek : M_kind τ = M_kind ρ := by rw [eτ]; rfl
      have ep : M_parts τ = upd (M_parts ρ) (30 * h + s) v := by rw [eτ]; rfl
      rw [ek, ep]
      by_cases e : k = s
      · subst e
        exact ⟨i, i8, z4, by rw [k_upds]; exact z3, z5⟩
      · obtain ⟨p, p1, p2, p3, p4⟩ := q16 k (by omega)
        refine ⟨p, p1, by omega, ?_, (ha p p2).1.trans p4⟩
        rw [k_updn (by omega), eb]; exact p3
  · exact hfull τ hgo hfl
theorem kFr_at {h a b d c c' s : Nat} {α : Nat → Int32} (h0 : kFr n σ t h a b d c s) (hα : α h = nI c') (h1 : c ≤ c') (h2 : c' ≤ n) : kFr n (M_set_at σ α) t h a b d c' s := by
  obtain ⟨q1, q2, q3, q4, q10, q11, q12, q13, q14, q15, q16⟩ := h0
  exact ⟨q1, q2, q3, q4, q10, q11, hα, h2, q14, by omega, q16⟩
theorem kSt_at {h : Nat} {α : Nat → Int32} (hα : ∀ g, g < h → α g = M_at σ g) : kSt h σ (M_set_at σ α) := by
  intro g hg
  exact ⟨rfl, rfl, rfl, rfl, rfl, hα g hg, rfl, fun _ _ => rfl⟩
theorem up_skip {h a b d s c0 : Nat} (hF : kFr n σ t h a b d c0 s) (hh : h < 500) (hn : n ≤ 30) {Q : Int32 × StM → Prop}
    (hk : ∀ (c : Nat) (α : Nat → Int32), c0 ≤ c → kFr n (M_set_at σ α) t h a b d c s → kSt h σ (M_set_at σ α) → (c = n ∨ bt (M_least σ h) c = true) → k_ok (f_M_goOn_44 (M_set_at σ α) (nI h)) Q) :
    ∀ (f c : Nat) (α : Nat → Int32), c0 ≤ c → c ≤ n → n < f + c → α h = nI c → (∀ g, g < h → α g = M_at σ g) → k_ok (f_M_goOn_0 f (M_set_at σ α) (nI h)) Q := by
  have ix : ¬ (nI h < 0 ∨ 500 ≤ (nI h).toNatClampNeg) := nI_in hh (by decide)
  have ch : (nI h).toNatClampNeg = h := nI_clamp (by omega)
  have en0 : M_classes σ = nI n := hF.1.1.1
  intro f
  induction f with
  | zero => intro c α h0 h1 h2; omega
  | succ f ih =>
    intro c α h0 hcn h1 h2 h3
    rw [f_M_goOn_0]
    unfold f_M_goOn_0_s
    refine k_guard ix ?_
    rw [ch, show M_at (M_set_at σ α) = α from rfl, show M_least (M_set_at σ α) = M_least σ from rfl, show M_classes (M_set_at σ α) = M_classes σ from rfl, h2, en0]
    refine k_if (fun q => ?_) (fun q => ?_)
    · rw [nI_leI (by omega) (by omega)] at q
      exact hk c α h0 (kFr_at hF h2 h0 hcn) (kSt_at h3) (Or.inl (by omega))
    · rw [nI_leI (by omega) (by omega)] at q
      have ix' : ¬ (nI h < 0 ∨ 500 ≤ h) := by rw [ch] at ix; exact ix
      refine k_guard ix' (k_guard ix' (k_if (fun w => ?_) (fun w => ?_)))
      · refine k_guard ix' (k_guard ix' ?_)
        have e : M_put_at (M_set_at σ α) (nI h) (nI c + 1) = M_set_at σ (upd α h (nI (c + 1))) := by
          rw [nI_1]
          show M_set_at σ (upd α (nI h).toNatClampNeg (nI (c + 1))) = _
          rw [ch]
        rw [e]
        exact ih (c + 1) (upd α h (nI (c + 1))) (by omega) (by omega) (by omega) k_upds (fun g hg => (k_u hg).trans (h3 g hg))
      · refine hk c α h0 (kFr_at hF h2 h0 hcn) (kSt_at h3) (Or.inr ?_)
        cases hb : bt (M_least σ h) c with
        | true => rfl
        | false => exact absurd ((k_bit0 (M_least σ h) c (by omega)).mpr hb) w
theorem up_finish {h a b d s F : Nat} {x : Int32} {Q : Int32 × StM → Prop} (hF : kFr n σ t h a b d n s) (hh : h < 500)
    (hk : ∀ σ', kDone n σ t h True σ' → k_ok (f_M_upper_50 F σ' x) Q) :
    ∀ (f k : Nat) (ρ : Nat → Int32), k ≤ s → s < f + k → (∀ j, j < k → ρ j = M_parts σ (30 * h + j)) → k_ok (f_M_goOn_59 f (M_set_row σ ρ) (nI h) (nI k)) (fun r => k_ok (f_M_upper_50 F r.2 x) Q) := by
  have hn := hF.1.1.2.2.1
  have ht := hF.1.2.2.2.1
  have ix : ¬ (nI h < 0 ∨ 500 ≤ (nI h).toNatClampNeg) := nI_in hh (by decide)
  have ch : (nI h).toNatClampNeg = h := nI_clamp (by omega)
  obtain ⟨q1, q2, q3, q4, q10, q11, q12, q13, q14, q15, q16⟩ := hF
  intro f
  induction f with
  | zero => intro k ρ h1 h2; omega
  | succ f ih =>
    intro k ρ h1 h2 h3
    rw [f_M_goOn_59]
    unfold f_M_goOn_59_s f_M_goOn_133
    refine k_guard ix ?_
    rw [ch, show M_size (M_set_row σ ρ) h = nI s from q14]
    have ix' : ¬ (nI h < 0 ∨ 500 ≤ h) := by rw [ch] at ix; exact ix
    have hpred : M_high σ - 1 = nI h := by rw [q3]; exact nI_pred h
    refine k_if (fun w => ?_) (fun w => ?_)
    · rw [nI_leI (by omega) (by omega)] at w
      have ek : k = s := by omega
      subst ek
      have hrow : kRow σ t ρ k := by
        intro j hj
        obtain ⟨p, p1, p2, p3, p4⟩ := q16 j hj
        exact ⟨p, p1, p2, (h3 j hj).trans p3, p4⟩
      refine k_guard ix' (k_if (fun w1 => ?_) (fun w1 => ?_))
      · have w2 : nI k = nI 1 := w1
        rw [nI_eq (by omega) (by decide)] at w2
        refine k_guard (by decide) ?_
        obtain ⟨p, p1, p2, p3, p4⟩ := hrow 0 (by omega)
        refine k_some (hk _ ⟨⟨⟨rfl, rfl, rfl, rfl, rfl, rfl, rfl, rfl⟩, kAg_refl t σ, kSt_refl h σ⟩, fun _ => ⟨t, p, Nat.le_refl t, q1, ?_, p3, p2, fun _ => p1⟩⟩)
        exact hpred
      · refine k_if (fun w3 => ?_) (fun w3 => absurd q2 w3)
        refine k_guard ix' ?_
        refine k_bind (s_M_addBoth (σ := M_set_row σ ρ) q1 (show k ≤ 30 by omega) hrow) ?_
        rintro ⟨v, τ⟩ hr
        obtain ⟨⟨bb, eb⟩, ha, hf⟩ := kXr_row hr
        replace eb : τ = mB σ bb := eb
        replace ha : kAg t σ τ := ha
        refine k_some (hk _ ⟨⟨?_, ha, ?_⟩, fun q => ?_⟩)
        · rw [eb]; exact ⟨rfl, rfl, rfl, rfl, rfl, rfl, rfl, rfl⟩
        · rw [eb]; exact kSt_refl h σ
        · obtain ⟨i, t', z1, z2, z3, z4, z5⟩ := hf q
          refine ⟨t', i, z1, z2, ?_, z3, z4, fun _ => kTyp_ge8 (show kMT τ n t' from z2.2).2 z4 (by rw [show M_kind τ i = 3 from z5]; decide)⟩
          show M_high τ - 1 = nI h
          rw [eb]; exact hpred
    · rw [nI_leI (by omega) (by omega)] at w
      have iy : ¬ ((30 * nI h + nI k) < 0 ∨ 15000 ≤ (30 * nI h + nI k).toNatClampNeg) := by rw [k_30ix]; exact nI_in (by omega) (by decide)
      have cl : (30 * nI h + nI k).toNatClampNeg = 30 * h + k := by rw [k_30ix]; exact nI_clamp (by omega)
      refine k_guard iy (k_guard (nI_in (by omega) (by decide)) ?_)
      rw [nI_1]
      refine ih (k + 1) (upd ρ (nI k).toNatClampNeg ((M_parts (M_set_row σ ρ)) (30 * nI h + nI k).toNatClampNeg)) (by omega) (by omega) ?_
      intro j hj
      rw [nI_clamp (show k < 2 ^ 31 by omega), cl]
      by_cases e : j = k
      · subst e; rw [k_upds]
      · rw [k_updn e]; exact h3 j (by omega)
end
theorem kTw_eq {d : Nat} (h0 : 0 < d) (h2 : d ≤ 2) : kTw d = 202 + kTm (d - 1) := by
  rcases (show d = 1 ∨ d = 2 by omega) with e | e
  · subst e; rfl
  · subst e; rfl
theorem kTw_pos (d : Nat) : 1 ≤ kTw d := by
  unfold kTw
  split <;> decide
section
variable {σ : StM} {n t : Nat}
theorem up_44n {h a b d s F : Nat} {x : Int32} {Q : Int32 × StM → Prop} (hF : kFr n σ t h a b d n s) (hh : h < 500)
    (hk : ∀ σ', kDone n σ t h True σ' → k_ok (f_M_upper_50 F σ' x) Q) : k_ok (f_M_goOn_44 σ (nI h)) (fun r => k_ok (f_M_upper_50 F r.2 x) Q) := by
  have hn := hF.1.1.2.2.1
  have ix : ¬ (nI h < 0 ∨ 500 ≤ (nI h).toNatClampNeg) := nI_in hh (by decide)
  have ch : (nI h).toNatClampNeg = h := nI_clamp (by omega)
  have hs : s ≤ n := hF.2.2.2.2.2.2.2.2.2.1
  have hat : M_at σ h = nI n := hF.2.2.2.2.2.2.1
  unfold f_M_goOn_44
  refine k_guard ix ?_
  rw [ch, hat, show M_classes σ = nI n from hF.1.1.1]
  refine k_if (fun _ => ?_) (fun q => absurd rfl q)
  exact up_finish hF hh hk 1000 0 (M_row σ) (by omega) (by omega) (fun j hj => by omega)
/-- the next class is generic, and no one ARGUMENT holds both: a bound's bound -/
theorem up_237 {h a b d c s R : Nat} {x : Int32} {Q : Int32 × StM → Prop} (hd : d ≤ 2) (hrec : 0 < d → kUpR n (d - 1)) (hF : kFr n σ t h a b d c s) (hc : c < n) (hgc : M_generic σ c = 1) (hst : M_stage σ h = 2) (hb : h + 101 * d ≤ 309)
    {g1 g2 : Nat} (h8 : 8 ≤ g1) (ht1 : g1 < t) (h82 : 8 ≤ g2) (ht2 : g2 < t) (hft : M_foundType σ = nI g2)
    (hnext : ∀ (τ : StM) (t' : Nat), t ≤ t' → kGo σ τ t h → M_stage τ h = 2 → kFr n τ t' h a b d (c + 1) (s + 1) → k_ok (f_M_upper_50 R τ x) Q)
    (hfull : ∀ τ : StM, kGo σ τ t h → ¬ M_full τ = 0 → k_ok (f_M_upper_50 R τ x) Q) :
    k_ok (f_M_goOn_237 σ (nI h) (nI c) (nI g1)) (fun r => k_ok (f_M_upper_50 (R + (kTw d - 1)) r.2 x) Q) := by
  have hn := hF.1.1.2.2.1
  have ht := hF.1.2.2.2.1
  have ix : ¬ (nI h < 0 ∨ 500 ≤ (nI h).toNatClampNeg) := nI_in (by omega) (by decide)
  have ch : (nI h).toNatClampNeg = h := nI_clamp (by omega)
  have edp : M_deep σ h = nI d := hF.2.2.2.2.1
  unfold f_M_goOn_237
  refine k_guard ix ?_
  rw [ch, edp]
  refine k_if (fun w => ?_) (fun w => ?_)
  · refine k_bind (s_M_addNamed (σ := σ) (c := 0) (x3 := 0) (x4 := -1) hF.1 (by omega) (Or.inl ⟨hF.1.1.2.2.2.1 0 (by omega), rfl, rfl⟩)) ?_
    intro r4 hr4
    refine k_bind (P := kXr σ n t 1) ?_ ?_
    · by_cases hfl : M_full r4.2 = 0
      · obtain ⟨i, t', z1, z2, z3, z4, z5⟩ := hr4.2.2 hfl
        obtain ⟨b4, e4⟩ := hr4.1
        rw [z3]
        refine k_mono (s_M_addNamed (σ := r4.2) (x3 := 2) (x4 := nI i) z2 hc (Or.inr ⟨?_, Or.inr rfl, i, kTyp_ge8 z2.2.2 z4 (by rw [z5]; decide), z4, rfl⟩)) ?_
        · rw [e4]; exact hgc
        · intro r5 hr5
          exact kXr_trans hr4 z1 hr5
      · unfold f_M_addNamed
        refine k_if (fun q => absurd q hfl) (fun _ => k_some ?_)
        exact ⟨hr4.1, hr4.2.1, fun q => absurd q hfl⟩
    · intro r5 hr5
      refine k_bind (up_keep (F := R) hF hc (by omega) hr5 (fun τ t' q1 q2 q3 q4 => hnext τ t' q1 q2 (q3.trans hst) q4) hfull) ?_
      intro r6 hr6
      exact k_some (up_more (by omega) hr6)
  · have hd0 : 0 < d := by
      rcases Nat.eq_zero_or_pos d with e | e
      · subst e; exact absurd rfl w
      · exact e
    have ix' : ¬ (nI h < 0 ∨ 500 ≤ h) := by rw [ch] at ix; exact ix
    refine k_guard ix' (k_guard ix' ?_)
    obtain ⟨⟨m, m1, m2, m3⟩, _⟩ := hF.1.2.2.2.2.1 g1 ht1
    have hS : M_put_stage σ (nI h) 3 = M_set_stage σ (upd (M_stage σ) h 3) := by
      show M_set_stage σ (upd (M_stage σ) (nI h).toNatClampNeg 3) = _
      rw [ch]
    rw [hS]
    have e1 : nI d - 1 = nI (d - 1) := k_sub (b := 1) (by omega)
    rw [show M_foundType (M_set_stage σ (upd (M_stage σ) h 3)) = nI g2 from hft, e1]
    refine k_bind (s_M_ask (σ := M_set_stage σ (upd (M_stage σ) h 3)) (h := h + 1) hF.2.2.1 (by omega) (nI g1) (nI g2) (nI (d - 1))) ?_
    rintro ⟨v3, S⟩ eS
    replace eS : S = mAsk (M_set_stage σ (upd (M_stage σ) h 3)) (h + 1) (nI g1) (nI g2) (nI (d - 1)) := eS
    refine k_some ?_
    show k_ok (f_M_upper_50 (R + (kTw d - 1)) S x) Q
    rw [kTw_eq hd0 hd]
    have hSM : kM S n t := by rw [eS]; exact hF.1
    refine up_more (f := (R + 1) + (2 * m + kTm (d - 1))) (by omega) ?_
    refine hrec hd0 m (R + 1) g1 g2 (h + 1) t S x Q hSM (by rw [eS]; exact hF.2.1) (by rw [eS]; rfl) (by rw [eS]; exact k_upds) (by rw [eS]; exact k_upds) (by rw [eS]; exact k_upds) (by rw [eS]; exact k_upds) (by rw [eS]; exact k_upds) (by rw [eS]; exact k_upds) ht1 ht2 (by rw [eS]; exact m3) m2 (by omega) ?_
    intro σ' hD
    -- frame h of S is that of σ, at stage 3
    have hSσ : ∀ f, f < h + 1 → M_left S f = M_left σ f ∧ M_right S f = M_right σ f ∧ M_deep S f = M_deep σ f ∧ M_least S f = M_least σ f ∧ M_at S f = M_at σ f ∧ M_size S f = M_size σ f ∧ ∀ k, k < 30 → M_parts S (30 * f + k) = M_parts σ (30 * f + k) := by
      intro f hf
      rw [eS]
      refine ⟨k_u hf, k_u hf, k_u hf, rfl, k_u hf, k_u hf, fun _ _ => rfl⟩
    have hstS : ∀ f, f < h → M_stage S f = M_stage σ f := by
      intro f hf
      rw [eS]
      show upd (upd (M_stage σ) h 3) (h + 1) 0 f = _
      rw [k_u (by omega), k_u hf]
    have hst3 : M_stage S h = 3 := by
      rw [eS]
      show upd (upd (M_stage σ) h 3) (h + 1) 0 h = _
      rw [k_u (by omega), k_upds]
    obtain ⟨⟨dA, dG, dS⟩, dF⟩ := hD
    have hA : kA σ σ' := by
      refine kA_trans ?_ dA
      rw [eS]; exact ⟨rfl, rfl, rfl, rfl, rfl, rfl, rfl, rfl⟩
    have hG : kAg t σ σ' := by
      refine kAg_trans (t' := t) ?_ dG (Nat.le_refl t)
      rw [eS]; exact kAg_refl t σ
    have hgo : kGo σ σ' t h := by
      refine ⟨hA, hG, ?_⟩
      intro f hf
      obtain ⟨a1, a2, a3, a5, a6, a7, a8⟩ := hSσ f (by omega)
      obtain ⟨b1, b2, b3, b4, b5, b6, b7, b8⟩ := dS f (by omega)
      exact ⟨b1.trans a1, b2.trans a2, b3.trans a3, b4.trans (hstS f hf), b5.trans a5, b6.trans a6, b7.trans a7, fun k hk => (b8 k hk).trans (a8 k hk)⟩
    by_cases hfl : M_full σ' = 0
    · obtain ⟨t', v, z1, z2, z3, z4, z5, z6⟩ := dF hfl
      have z8 := z6 ⟨h8, h82⟩
      have hF' : kFr n σ' t' h a b d c s := by
        obtain ⟨q1, q2, q3, ⟨q4, q5, q6, q7, q8, q9⟩, q10, q11, q12, q13, q14, q15, q16⟩ := hF
        obtain ⟨a1, a2, a3, a5, a6, a7, a8⟩ := hSσ h (by omega)
        obtain ⟨f1, f2, f3, f4, f5, f6, f7, f8⟩ := dS h (by omega)
        refine ⟨z2, hfl, z3, ⟨(f1.trans a1).trans q4, (f2.trans a2).trans q5, q6, by omega, q8, by omega⟩, (f3.trans a3).trans q10, ?_, (f6.trans a6).trans q12, q13, (f7.trans a7).trans q14, q15, ?_⟩
        · intro e he hb
          rw [f5, a5] at hb
          obtain ⟨w1, w2, w3⟩ := q11 e he hb
          exact ⟨w1, kSees_ag hA.2.2.2.2.2.2.2 hG q7 w2, kSees_ag hA.2.2.2.2.2.2.2 hG q9 w3⟩
        · intro k hk
          obtain ⟨p, p1, p2, p3, p4⟩ := q16 k hk
          exact ⟨p, p1, by omega, ((f8 k (by omega)).trans (a8 k (by omega))).trans p3, (hG p p2).1.trans p4⟩
      have hst' : M_stage σ' h = 3 := (dS h (by omega)).2.2.2.1.trans hst3
      refine up_turn z3 (by omega) hfl (fun q => by rw [hst'] at q; exact absurd q (by decide)) (fun q => by rw [hst'] at q; exact absurd q (by decide)) (fun q => by rw [hst'] at q; exact absurd q (by decide)) (fun _ _ _ => ?_)
      have hP : M_put_stage σ' (nI h) 2 = M_set_stage σ' (upd (M_stage σ') h 2) := by
        show M_set_stage σ' (upd (M_stage σ') (nI h).toNatClampNeg 2) = _
        rw [ch]
      rw [hP, ch, show M_at (M_set_stage σ' (upd (M_stage σ') h 2)) h = nI c from hF'.2.2.2.2.2.2.1, show M_answer (M_set_stage σ' (upd (M_stage σ') h 2)) = nI v from z4]
      have hF2 : kFr n (M_set_stage σ' (upd (M_stage σ') h 2)) t' h a b d c s := hF'
      have hgo2 : kGo σ (M_set_stage σ' (upd (M_stage σ') h 2)) t h := by
        refine ⟨hA, hG, ?_⟩
        intro f hf
        obtain ⟨b1, b2, b3, b4, b5, b6, b7, b8⟩ := hgo.2.2 f hf
        refine ⟨b1, b2, b3, ?_, b5, b6, b7, b8⟩
        show upd (M_stage σ') h 2 f = _
        rw [k_u hf]; exact b4
      refine k_bind (s_M_addNamed (σ := M_set_stage σ' (upd (M_stage σ') h 2)) (x3 := 2) (x4 := nI v) z2 hc (Or.inr ⟨?_, Or.inr rfl, v, z8, z5, rfl⟩)) ?_
      · show M_generic σ' c = 1
        rw [hA.2.2.2.1]; exact hgc
      intro r8 hr8
      refine k_bind (up_keep (F := R) hF2 hc (by omega) hr8 ?_ ?_) (fun r hr => hr)
      · intro τ t2 q1 q2 q3 q4
        refine hnext τ t2 (by omega) (kGo_trans hgo2 q2 z1 (Nat.le_refl h)) ?_ q4
        rw [q3]; exact k_upds
      · intro τ q1 q2
        exact hfull τ (kGo_trans hgo2 q1 z1 (Nat.le_refl h)) q2
    · exact up_more (by omega) (hfull σ' hgo hfl)
theorem up_44c {h a b d c s R : Nat} {x : Int32} {Q : Int32 × StM → Prop} (hd : d ≤ 2) (hrec : 0 < d → kUpR n (d - 1)) (hF : kFr n σ t h a b d c s) (hc : c < n) (hbit : bt (M_least σ h) c = true) (hst : M_stage σ h = 2) (hb : h + 101 * d ≤ 309)
    (hnext : ∀ (τ : StM) (t' : Nat), t ≤ t' → kGo σ τ t h → M_stage τ h = 2 → kFr n τ t' h a b d (c + 1) (s + 1) → k_ok (f_M_upper_50 R τ x) Q)
    (hfull : ∀ τ : StM, kGo σ τ t h → ¬ M_full τ = 0 → k_ok (f_M_upper_50 R τ x) Q) :
    k_ok (f_M_goOn_44 σ (nI h)) (fun r => k_ok (f_M_upper_50 (R + (kTw d - 1)) r.2 x) Q) := by
  have hn := hF.1.1.2.2.1
  have ht := hF.1.2.2.2.1
  have ix : ¬ (nI h < 0 ∨ 500 ≤ (nI h).toNatClampNeg) := nI_in (by omega) (by decide)
  have ch : (nI h).toNatClampNeg = h := nI_clamp (by omega)
  have cc : (nI c).toNatClampNeg = c := nI_clamp (by omega)
  have ix' : ¬ (nI h < 0 ∨ 500 ≤ h) := by rw [ch] at ix; exact ix
  have hat : M_at σ h = nI c := hF.2.2.2.2.2.2.1
  obtain ⟨el, er, a8, at', b8, bt'⟩ := hF.2.2.2.1
  obtain ⟨_, sa, sb⟩ := hF.2.2.2.2.2.1 c (by omega) hbit
  have keep : ∀ r : Int32 × StM, kXr σ n t 1 r → k_ok ((f_M_keep r.2 (nI h) r.1).bind fun r10 => some ((0 : Int32), r10.2)) (fun r => k_ok (f_M_upper_50 (R + (kTw d - 1)) r.2 x) Q) := by
    intro r hr
    refine k_bind (up_keep (F := R) hF hc (by omega) hr (fun τ t' q1 q2 q3 q4 => hnext τ t' q1 q2 (q3.trans hst) q4) hfull) ?_
    intro r6 hr6
    exact k_some (up_more (by omega) hr6)
  unfold f_M_goOn_44
  refine k_guard ix ?_
  rw [ch, hat, show M_classes σ = nI n from hF.1.1.1]
  refine k_if (fun q => ?_) (fun _ => ?_)
  · rw [nI_eq (by omega) (by omega)] at q; omega
  refine k_guard ix' (k_guard (nI_in (by omega) (by decide)) ?_)
  rw [cc]
  refine k_if (fun w => ?_) (fun w => ?_)
  · exact k_bind (s_M_addNamed (x3 := 0) (x4 := -1) hF.1 hc (Or.inl ⟨w, rfl, rfl⟩)) keep
  · have hgc : M_generic σ c = 1 := by
      rcases (hF.1.1.2.2.2.2 c hc).1 with q | q
      · exact absurd q w
      · exact q
    refine k_guard ix' ?_
    rw [el]
    refine k_bind (s_M_lookAt hF.1 at' hc) ?_
    rintro ⟨v1, τ1⟩ ⟨a1, h1, g1, e1, _, o1, y1⟩
    replace e1 : τ1 = mF σ a1 h1 g1 := e1
    subst e1
    rw [show kBox a = a from if_neg (by omega)] at y1
    have ha1 : a1 = 1 := y1.mpr sa
    replace o1 : kOwn t (M_generic σ c) h1 g1 := o1 ha1
    refine k_guard ix' ?_
    rw [show M_right (mF σ a1 h1 g1) h = nI b from er]
    refine k_bind (s_M_lookAt (σ := mF σ a1 h1 g1) hF.1 bt' hc) ?_
    rintro ⟨v2, τ2⟩ ⟨a2, h2, g2, e2, _, o2, y2⟩
    replace e2 : τ2 = mF σ a2 h2 g2 := e2
    subst e2
    rw [show kBox b = b from if_neg (by omega)] at y2
    have ha2 : a2 = 1 := y2.mpr sb
    replace o2 : kOwn t (M_generic σ c) h2 g2 := o2 ha2
    have hF2 : kFr n (mF σ a2 h2 g2) t h a b d c s := hF
    rcases o1 with ⟨q, _, _⟩ | ⟨_, q1, x1, x18, x1t, ex1⟩
    · rw [hgc] at q; exact absurd q (by decide)
    rcases o2 with ⟨q, _, _⟩ | ⟨_, q2, x2, x28, x2t, ex2⟩
    · rw [hgc] at q; exact absurd q (by decide)
    subst ex1
    subst ex2
    have k237 : k_ok (f_M_goOn_237 (mF σ a2 h2 (nI x2)) (nI h) (nI c) (nI x1)) (fun r => k_ok (f_M_upper_50 (R + (kTw d - 1)) r.2 x) Q) := by
      refine up_237 hd hrec hF2 hc hgc hst hb x18 x1t x28 x2t rfl ?_ ?_
      · intro τ t' z1 z2 z3 z4
        exact hnext τ t' z1 z2 z3 z4
      · intro τ z1 z2
        exact hfull τ z1 z2
    refine k_if (fun w1 => ?_) (fun _ => k237)
    refine k_if (fun w2 => ?_) (fun _ => k237)
    refine k_if (fun w3 => ?_) (fun _ => k237)
    refine k_bind (s_M_addNamed (σ := mF σ a2 h2 (nI x2)) (x3 := 1) (x4 := nI x1) hF.1 hc (Or.inr ⟨hgc, Or.inl rfl, x1, x18, x1t, rfl⟩)) ?_
    intro r7 hr7
    refine k_bind (up_keep (F := R) hF2 hc (by omega) hr7 (fun τ t' q1 q2 q3 q4 => hnext τ t' q1 q2 (q3.trans hst) q4) hfull) ?_
    intro r6 hr6
    exact k_some (up_more (by omega) hr6)
end
theorem up_cls {n d : Nat} (hd : d ≤ 2) (hrec : 0 < d → kUpR n (d - 1)) : ∀ (j c s F a b h t : Nat) (σ : StM) (x : Int32) (Q : Int32 × StM → Prop), n - c ≤ j → kFr n σ t h a b d c s → M_stage σ h = 2 → h + 101 * d ≤ 309 →
    (∀ σ', kDone n σ t h True σ' → k_ok (f_M_upper_50 F σ' x) Q) → k_ok (f_M_upper_50 (F + (1 + j * kTw d)) σ x) Q := by
  have hW := kTw_pos d
  intro j
  induction j with
  | zero =>
    intro c s F a b h t σ x Q hj hF hst hb hk
    have hn := hF.1.1.2.2.1
    have hcn : c ≤ n := hF.2.2.2.2.2.2.2.1
    rw [show F + (1 + 0 * kTw d) = F + 1 by omega]
    refine up_turn hF.2.2.1 (by omega) hF.2.1 (fun q => by rw [hst] at q; exact absurd q (by decide)) (fun q => by rw [hst] at q; exact absurd q (by decide)) (fun _ => ?_) (fun _ _ q => absurd hst q)
    refine k_bind (P := fun r => k_ok (f_M_upper_50 F r.2 x) Q) ?_ (fun r hr => hr)
    unfold f_M_goOn
    refine up_skip hF (by omega) hn ?_ 1000 c (M_at σ) (Nat.le_refl c) hcn (by omega) hF.2.2.2.2.2.2.1 (fun _ _ => rfl)
    intro c' α h0 hF' hS hc'
    have hcn' : c' ≤ n := hF'.2.2.2.2.2.2.2.1
    have ec : c' = n := by omega
    subst ec
    have hgo : kGo σ (M_set_at σ α) t h := ⟨⟨rfl, rfl, rfl, rfl, rfl, rfl, rfl, rfl⟩, kAg_refl t σ, hS⟩
    refine up_44n hF' (by omega) ?_
    intro σ' hD
    exact hk σ' (kDone_trans hgo (Nat.le_refl t) (fun z => z) hD)
  | succ j ih =>
    intro c s F a b h t σ x Q hj hF hst hb hk
    have hn := hF.1.1.2.2.1
    have hcn : c ≤ n := hF.2.2.2.2.2.2.2.1
    have ef : F + (1 + (j + 1) * kTw d) = (F + (1 + j * kTw d) + (kTw d - 1)) + 1 := by
      rw [Nat.add_mul]; omega
    rw [ef]
    refine up_turn hF.2.2.1 (by omega) hF.2.1 (fun q => by rw [hst] at q; exact absurd q (by decide)) (fun q => by rw [hst] at q; exact absurd q (by decide)) (fun _ => ?_) (fun _ _ q => absurd hst q)
    refine k_bind (P := fun r => k_ok (f_M_upper_50 (F + (1 + j * kTw d) + (kTw d - 1)) r.2 x) Q) ?_ (fun r hr => hr)
    unfold f_M_goOn
    refine up_skip hF (by omega) hn ?_ 1000 c (M_at σ) (Nat.le_refl c) hcn (by omega) hF.2.2.2.2.2.2.1 (fun _ _ => rfl)
    intro c' α h0 hF' hS hc'
    have hcn' : c' ≤ n := hF'.2.2.2.2.2.2.2.1
    have hgo : kGo σ (M_set_at σ α) t h := ⟨⟨rfl, rfl, rfl, rfl, rfl, rfl, rfl, rfl⟩, kAg_refl t σ, hS⟩
    by_cases ec : c' = n
    · subst ec
      refine up_44n hF' (by omega) ?_
      intro σ' hD
      exact up_more (f := F) (by omega) (hk σ' (kDone_trans hgo (Nat.le_refl t) (fun z => z) hD))
    · have hbit : bt (M_least σ h) c' = true := by
        rcases hc' with q | q
        · exact absurd q ec
        · exact q
      refine up_44c hd hrec hF' (by omega) hbit hst hb ?_ ?_
      · intro τ t' q1 q2 q3 q4
        refine ih (c' + 1) (s + 1) F a b h t' τ x Q (by omega) q4 q3 hb ?_
        intro σ' hD
        exact hk σ' (kDone_trans (kGo_trans hgo q2 (Nat.le_refl t) (Nat.le_refl h)) q1 (fun z => z) hD)
      · intro τ q1 q2
        exact up_more (f := F) (by omega) (hk τ ⟨kGo_trans hgo q1 (Nat.le_refl t) (Nat.le_refl h), fun q => absurd q q2⟩)
