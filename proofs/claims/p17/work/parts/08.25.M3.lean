/-! The reference: INTERSECTIONS. -/
theorem k_dec {j : Nat} (h : 0 < j) : nI j + (-1) = nI (j - 1) := by
  have e : nI j = nI (j - 1) + 1 := by rw [nI_1]; congr 1; omega
  rw [e, Int32.add_assoc]
  have z : (1 : Int32) + (-1) = 0 := by decide
  rw [z, Int32.add_zero]
def kRow (σ : StM) (t : Nat) (ρ : Nat → Int32) (N : Nat) : Prop := ∀ j, j < N → ∃ p, 8 ≤ p ∧ p < t ∧ ρ j = nI p ∧ M_kind σ p = 1
theorem kRow_swap {σ : StM} {t : Nat} {ρ : Nat → Int32} {N i j : Nat} (h : kRow σ t ρ N) (hi : i < N) (hj : j < N) : kRow σ t (upd (upd ρ i (ρ j)) j (ρ i)) N := by
  intro k hk
  by_cases e1 : k = j
  · rw [e1, k_upds]; exact h i hi
  · rw [k_updn e1]
    by_cases e2 : k = i
    · rw [e2, k_upds]; exact h j hj
    · rw [k_updn e2]; exact h k hk
section
variable {σ : StM} {n t : Nat}
theorem s_M_addBoth_9 (ht : t ≤ 300) {N i : Nat} (hN : N ≤ 60) (hi : i < N) (k2 : StM → Int32 → Int32 → Option (Int32 × StM)) {Q : Int32 × StM → Prop} (hk : ∀ ρ, kRow σ t ρ N → k_ok (k2 (M_set_row σ ρ) (nI N) (nI i + 1)) Q) :
    ∀ (f j : Nat) (ρ : Nat → Int32), j ≤ i → j < f → kRow σ t ρ N → k_ok (f_M_addBoth_9 k2 f (M_set_row σ ρ) (nI N) (nI i) (nI j)) Q := by
  intro f
  induction f with
  | zero => intro j ρ h1 h2; omega
  | succ f ih =>
    intro j ρ h1 h2 h3
    rw [f_M_addBoth_9]
    unfold f_M_addBoth_9_s
    refine k_if (fun _ => hk ρ h3) (fun q => ?_)
    have q2 : ¬ nI j ≤ nI 0 := q
    rw [nI_leI (by omega) (by decide)] at q2
    have e : nI j - 1 = nI (j - 1) := k_sub (b := 1) (by omega)
    obtain ⟨p, p1, p2, p3, _⟩ := h3 (j - 1) (by omega)
    obtain ⟨w, w1, w2, w3, _⟩ := h3 j (by omega)
    rw [e, nI_clamp (show j - 1 < 2 ^ 31 by omega), nI_clamp (show j < 2 ^ 31 by omega)]
    rw [show M_row (M_set_row σ ρ) = ρ from rfl, p3, w3]
    have ij : ¬ (nI j < 0 ∨ 64 ≤ j) := by
      have := nI_pos (n := j) (by omega)
      rintro (q | q)
      · exact this q
      · omega
    have ij1 : ¬ (nI (j - 1) < 0 ∨ 64 ≤ j - 1) := by
      have := nI_pos (n := j - 1) (by omega)
      rintro (q | q)
      · exact this q
      · omega
    have ip : ¬ (nI p < 0 ∨ 300 ≤ (nI p).toNatClampNeg) := nI_in (by omega) (by decide)
    have iw : ¬ (nI w < 0 ∨ 300 ≤ (nI w).toNatClampNeg) := nI_in (by omega) (by decide)
    refine k_guard ij1 (k_guard ip (k_guard ij (k_guard iw ?_)))
    refine k_if (fun _ => hk ρ h3) (fun _ => ?_)
    refine k_guard ij (k_guard ij1 (k_guard ij (k_guard ij1 ?_)))
    rw [k_dec (by omega)]
    have hs := kRow_swap h3 (show j < N by omega) (show j - 1 < N by omega)
    have hs' : kRow σ t (upd (upd ρ (nI j).toNatClampNeg (nI p)) (nI (j - 1)).toNatClampNeg (nI w)) N := by
      rw [nI_clamp (show j < 2 ^ 31 by omega), nI_clamp (show j - 1 < 2 ^ 31 by omega), ← p3, ← w3]
      exact hs
    exact ih (j - 1) _ (by omega) (by omega) hs'
theorem s_M_addBoth_153 {N i : Nat} (hN : N ≤ 30) (hi : i < 300) {x2 : Int32} (k115 : StM → Int32 → Int32 → Int32 → Option (Int32 × StM)) {Q : Int32 × StM → Prop} (hk : k_ok (k115 σ (nI N) x2 (nI i + 1)) Q) (hq : M_kind σ i = 3 → Q (nI i, σ)) :
    ∀ (f k : Nat) (x4 : Int32), k ≤ N → N < f + k → (x4 = 0 ∨ M_kind σ i = 3) → k_ok (f_M_addBoth_153 k115 f σ (nI N) x2 (nI i) x4 (nI k)) Q := by
  have k199 : ∀ x4 : Int32, (x4 = 0 ∨ M_kind σ i = 3) → k_ok (f_M_addBoth_199 k115 σ (nI N) x2 (nI i) x4) Q := by
    intro x4 h
    unfold f_M_addBoth_199
    refine k_if (fun _ => hk) (fun q => k_some (hq ?_))
    rcases h with h | h
    · exact absurd h q
    · exact h
  intro f
  induction f with
  | zero => intro k x4 h1 h2; omega
  | succ f ih =>
    intro k x4 h1 h2 h3
    rw [f_M_addBoth_153]
    unfold f_M_addBoth_153_s
    refine k_if (fun _ => k199 x4 h3) (fun q => ?_)
    rw [nI_leI (by omega) (by omega)] at q
    refine k_if (fun _ => k199 x4 h3) (fun q2 => ?_)
    have h4 : M_kind σ i = 3 := by
      rcases h3 with h3 | h3
      · exact absurd h3 q2
      · exact h3
    have ix : ¬ ((30 * nI i + nI k) < 0 ∨ 9000 ≤ (30 * nI i + nI k).toNatClampNeg) := by
      rw [k_30ix]; exact nI_in (by omega) (by decide)
    refine k_guard ix (k_guard (nI_in (by omega) (by decide)) ?_)
    rw [nI_1]
    exact k_if (fun _ => ih (k + 1) 1 (by omega) (by omega) (Or.inr h4)) (fun _ => ih (k + 1) 0 (by omega) (by omega) (Or.inl rfl))
theorem s_M_addBoth_297 {τ : StM} (h3 : t < 300) (e : M_types τ = nI t) {N : Nat} (hN : N ≤ 30) :
    ∀ (f k : Nat) (ρ : Nat → Int32), k ≤ N → N < f + k → (∀ x, x < 30 * t → ρ x = M_partRow τ x) → (∀ j, j < k → ρ (30 * t + j) = M_row τ j) →
      k_ok (f_M_addBoth_297 f (M_set_partRow τ ρ) (nI N) (nI k)) (fun r => r.1 = nI t ∧ ∃ ρ', r.2 = M_set_types (M_set_partRow τ ρ') (nI (t + 1)) ∧ (∀ x, x < 30 * t → ρ' x = M_partRow τ x) ∧ (∀ j, j < N → ρ' (30 * t + j) = M_row τ j)) := by
  intro f
  induction f with
  | zero => intro k ρ h1 h2; omega
  | succ f ih =>
    intro k ρ h1 h2 h4 h5
    rw [f_M_addBoth_297]
    unfold f_M_addBoth_297_s
    refine k_if (fun q => ?_) (fun q => ?_)
    · rw [nI_leI (by omega) (by omega)] at q
      have hk : k = N := by omega
      subst hk
      refine k_some ⟨?_, ρ, ?_, h4, h5⟩
      · show M_types τ + 1 - 1 = nI t
        rw [e, nI_1]; exact nI_pred t
      · show M_set_types (M_set_partRow τ ρ) (M_types τ + 1) = _
        rw [e, nI_1]
    · rw [nI_leI (by omega) (by omega)] at q
      rw [show M_types (M_set_partRow τ ρ) = nI t from e]
      have ix : ¬ ((30 * nI t + nI k) < 0 ∨ 9000 ≤ (30 * nI t + nI k).toNatClampNeg) := by
        rw [k_30ix]; exact nI_in (by omega) (by decide)
      have cl : (30 * nI t + nI k).toNatClampNeg = 30 * t + k := by rw [k_30ix]; exact nI_clamp (by omega)
      refine k_guard (nI_in (by omega) (by decide)) (k_guard ix ?_)
      rw [nI_1]
      refine ih (k + 1) (upd ρ (30 * nI t + nI k).toNatClampNeg ((M_row (M_set_partRow τ ρ)) (nI k).toNatClampNeg)) (by omega) (by omega) ?_ ?_
      · intro x hx
        rw [cl, k_updn (by omega)]
        exact h4 x hx
      · intro j hj
        rw [cl]
        by_cases ej : j = k
        · subst ej
          rw [k_upds, nI_clamp (by omega)]
        · rw [k_updn (by omega)]
          exact h5 j (by omega)
theorem s_M_addBoth_115 (h : kM σ n t) {N s : Nat} (hN : N ≤ 30) (hr : kRow σ t (M_row σ) N) (hs : 1 ≤ s) (hs2 : s ≤ 10000) :
    ∀ (f i : Nat), i ≤ t → t < f + i → k_ok (f_M_addBoth_115 f σ (nI N) (nI s) (nI i)) (kXr σ n t 3) := by
  have e : M_types σ = nI t := h.2.1
  have ht := h.2.2.2.1
  have ht16 := h.2.2.1
  intro f
  induction f with
  | zero => intro i h1 h2; omega
  | succ f ih =>
    intro i h1 h2
    rw [f_M_addBoth_115]
    unfold f_M_addBoth_115_s f_M_addBoth_228
    refine k_if (fun _ => ?_) (fun q => ?_)
    · refine k_if (fun _ => k_some kXr_full) (fun q => ?_)
      have q2 : ¬ nI t = nI 300 := by rw [← e]; exact q
      rw [nI_eq (by omega) (by decide)] at q2
      refine k_if (fun q3 => ?_) (fun _ => k_some kXr_full)
      have q4 : nI s ≤ nI 100 := q3
      rw [nI_leI (by omega) (by decide)] at q4
      have hi : ¬ (M_types σ < 0 ∨ 300 ≤ (M_types σ).toNatClampNeg) := by rw [e]; exact nI_in (by omega) (by decide)
      have cl : (M_types σ).toNatClampNeg = t := by rw [e]; exact nI_clamp (by omega)
      refine k_guard hi (k_guard hi (k_guard hi (k_guard hi (k_guard hi (k_guard hi ?_)))))
      refine k_mono (s_M_addBoth_297 (t := t) (N := N) (τ := M_put_partCount (M_put_made (M_put_inner (M_put_how (M_put_classOf (M_put_kind σ (M_types σ) 3) (M_types σ) (-1)) (M_types σ) (-1)) (M_types σ) (-1)) (M_types σ) (nI s)) (M_types σ) (nI N)) (by omega) e hN 1000 0 (M_partRow σ) (by omega) (by omega) (fun _ _ => rfl) (fun j hj => by omega)) ?_
      rintro ⟨v, ρ⟩ ⟨r1, ρ', r2, r3, r4⟩
      replace r1 : v = nI t := r1
      replace r2 : ρ = M_set_types (M_set_partRow (M_put_partCount (M_put_made (M_put_inner (M_put_how (M_put_classOf (M_put_kind σ (M_types σ) 3) (M_types σ) (-1)) (M_types σ) (-1)) (M_types σ) (-1)) (M_types σ) (nI s)) (M_types σ) (nI N)) ρ') (nI (t + 1)) := r2
      replace r3 : ∀ x, x < 30 * t → ρ' x = M_partRow σ x := r3
      replace r4 : ∀ j, j < N → ρ' (30 * t + j) = M_row σ j := r4
      subst r1
      have g1 : M_kind ρ = upd (M_kind σ) t 3 := by rw [r2]; show upd (M_kind σ) (M_types σ).toNatClampNeg 3 = _; rw [cl]
      have g2 : M_classOf ρ = upd (M_classOf σ) t (-1) := by rw [r2]; show upd (M_classOf σ) (M_types σ).toNatClampNeg (-1) = _; rw [cl]
      have g3 : M_how ρ = upd (M_how σ) t (-1) := by rw [r2]; show upd (M_how σ) (M_types σ).toNatClampNeg (-1) = _; rw [cl]
      have g4 : M_inner ρ = upd (M_inner σ) t (-1) := by rw [r2]; show upd (M_inner σ) (M_types σ).toNatClampNeg (-1) = _; rw [cl]
      have g5 : M_made ρ = upd (M_made σ) t (nI s) := by rw [r2]; show upd (M_made σ) (M_types σ).toNatClampNeg (nI s) = _; rw [cl]
      have g6 : M_partCount ρ = upd (M_partCount σ) t (nI N) := by rw [r2]; show upd (M_partCount σ) (M_types σ).toNatClampNeg (nI N) = _; rw [cl]
      have g7 : M_partRow ρ = ρ' := by rw [r2]
      have g8 : M_types ρ = nI (t + 1) := by rw [r2]
      have g9 : M_generic ρ = M_generic σ := by rw [r2]
      have hag : kAg t σ ρ := by
        intro i hi
        refine ⟨?_, ?_, ?_, ?_, ?_, ?_, ?_⟩
        · rw [g1]; exact k_u hi
        · rw [g2]; exact k_u hi
        · rw [g3]; exact k_u hi
        · rw [g4]; exact k_u hi
        · rw [g5]; exact k_u hi
        · rw [g6]; exact k_u hi
        · intro k hk
          rw [g7]; exact r3 _ (by omega)
      refine ⟨mB_ex (by rw [r2]; rfl), hag, fun _ => ⟨t, t + 1, by omega, ⟨?_, kMT_add h.2 g9 hag g8 (by omega) ?_⟩, rfl, by omega, ?_⟩⟩
      · have hc := kMC_mono h.1 (show t ≤ t + 1 by omega)
        show kMC ρ n (t + 1)
        rw [r2]; exact hc
      · refine ⟨⟨s, hs, q4, by rw [g5]; exact k_upds⟩, Or.inr (Or.inr (Or.inr ⟨by omega, by rw [g1]; exact k_upds, N, hN, by rw [g6]; exact k_upds, fun k hk => ?_⟩))⟩
        obtain ⟨p, p1, p2, p3, p4⟩ := hr k hk
        refine ⟨p, p2, p1, ?_, ?_⟩
        · rw [g7, r4 k hk]; exact p3
        · rw [g1, k_u p2]; exact p4
      · show M_kind ρ t = 3
        rw [g1]; exact k_upds
    · rw [e, nI_leI (by omega) (by omega)] at q
      have hk : k_ok (f_M_addBoth_115 f σ (nI N) (nI s) (nI i + 1)) (kXr σ n t 3) := by
        rw [nI_1]
        exact ih (i + 1) (by omega) (by omega)
      have hi : ¬ (nI i < 0 ∨ 300 ≤ (nI i).toNatClampNeg) := nI_in (by omega) (by decide)
      have hq : M_kind σ i = 3 → kXr σ n t 3 (nI i, σ) := fun w => ⟨⟨mBof σ, rfl⟩, kAg_refl t σ, fun _ => ⟨i, t, Nat.le_refl t, h, rfl, by omega, w⟩⟩
      refine k_guard hi (k_if (fun w => ?_) (fun _ => ?_))
      · rw [nI_clamp (by omega)] at w
        refine k_guard hi (k_if (fun _ => ?_) (fun _ => ?_))
        · exact s_M_addBoth_153 hN (by omega) _ hk hq 1000 0 1 (by omega) (by omega) (Or.inr w)
        · exact s_M_addBoth_153 hN (by omega) _ hk hq 1000 0 0 (by omega) (by omega) (Or.inl rfl)
      · exact s_M_addBoth_153 hN (by omega) _ hk hq 1000 0 0 (by omega) (by omega) (Or.inl rfl)
theorem s_M_addBoth_88 (h : kM σ n t) {N : Nat} (hN : N ≤ 30) (hr : kRow σ t (M_row σ) N) :
    ∀ (f k s : Nat), k ≤ N → N < f + k → 1 ≤ s → s ≤ 1 + 100 * k → k_ok (f_M_addBoth_88 f σ (nI N) (nI s) (nI k)) (kXr σ n t 3) := by
  have ht := h.2.2.2.1
  have ht16 := h.2.2.1
  intro f
  induction f with
  | zero => intro k s h1 h2; omega
  | succ f ih =>
    intro k s h1 h2 h3 h4
    rw [f_M_addBoth_88]
    unfold f_M_addBoth_88_s
    refine k_if (fun _ => s_M_addBoth_115 h hN hr h3 (by omega) 1000 0 (by omega) (by omega)) (fun q => ?_)
    rw [nI_leI (by omega) (by omega)] at q
    obtain ⟨p, p1, p2, p3, p4⟩ := hr k (by omega)
    obtain ⟨⟨m, m1, m2, m3⟩, _⟩ := h.2.2.2.2.1 p p2
    rw [nI_clamp (show k < 2 ^ 31 by omega), p3, nI_clamp (show p < 2 ^ 31 by omega), m3, nI_add, nI_1]
    have ik : ¬ (nI k < 0 ∨ 64 ≤ k) := by
      have := nI_pos (n := k) (by omega)
      rintro (q | q)
      · exact this q
      · omega
    have ip : ¬ (nI p < 0 ∨ 300 ≤ p) := by
      have := nI_pos (n := p) (by omega)
      rintro (q | q)
      · exact this q
      · omega
    exact k_guard ik (k_guard ip (ih (k + 1) (s + m) (by omega) (by omega) (by omega) (by omega)))
theorem kXr_row {K : Int32} {ρ : Nat → Int32} {r : Int32 × StM} (h : kXr (M_set_row σ ρ) n t K r) : kXr σ n t K r := by
  obtain ⟨⟨b, e⟩, h2, h3⟩ := h
  exact ⟨⟨b, e⟩, h2, h3⟩
theorem s_M_addBoth_2 (h : kM σ n t) {N : Nat} (hN : N ≤ 30) :
    ∀ (f i : Nat) (ρ : Nat → Int32), i ≤ N + 1 → N + 1 < f + i → kRow σ t ρ N → k_ok (f_M_addBoth_2 f (M_set_row σ ρ) (nI N) (nI i)) (kXr σ n t 3) := by
  have ht := h.2.2.2.1
  intro f
  induction f with
  | zero => intro i ρ h1 h2; omega
  | succ f ih =>
    intro i ρ h1 h2 h3
    rw [f_M_addBoth_2]
    unfold f_M_addBoth_2_s
    have hM : kM (M_set_row σ ρ) n t := h
    refine k_if (fun _ => ?_) (fun q => ?_)
    · exact k_mono (s_M_addBoth_88 hM hN h3 1000 0 1 (by omega) (by omega) (by omega) (by omega)) (fun r hr => kXr_row hr)
    · rw [nI_leI (by omega) (by omega)] at q
      refine s_M_addBoth_9 ht (by omega) (by omega) _ ?_ 1000 i ρ (by omega) (by omega) h3
      intro ρ' hρ'
      rw [nI_1]
      exact ih (i + 1) ρ' (by omega) (by omega) hρ'
theorem s_M_addBoth (h : kM σ n t) {N : Nat} (hN : N ≤ 30) (hr : kRow σ t (M_row σ) N) : k_ok (f_M_addBoth σ (nI N)) (kXr σ n t 3) := by
  unfold f_M_addBoth
  exact s_M_addBoth_2 h hN 1000 1 (M_row σ) (by omega) (by omega) hr
end
