/-! Tier 3: the class drops the needless PARTS, and puts the others into the order of their classes. -/
def rLq (σ τ : StL) : Prop := L_depth τ = L_depth σ ∧ L_classes τ = L_classes σ ∧ L_types τ = L_types σ
theorem rLq_trans {σ τ ρ : StL} (h1 : rLq σ τ) (h2 : rLq τ ρ) : rLq σ ρ := ⟨h2.1.trans h1.1, h2.2.1.trans h1.2.1, h2.2.2.trans h1.2.2⟩
section
variable {C : wWc} {T0 T : wWt} {g : Nat}
theorem rLq_L {σ τ : StL} (h : rLq σ τ) (r : rL σ C g T0 T) : rL τ C g T0 T := by
  refine ⟨?_, ?_⟩
  · rw [h.2.1]; exact r.1
  · rw [h.2.2]; exact r.2
/-- while the needless are dropped: all of them, those that stay of the first i, the answers -/
def rDr (σ τ : StL) (C : wWc) (T : wWt) (l : List Nat) (i : Nat) : Prop := rLq σ τ ∧ vFn (L_gathered τ) l ∧ vFn (L_row τ) (wKl C T l i) ∧ rA (L_answers τ) C T
theorem r_L_dn20 (h : wOK C T) {σ : StL} (r : rL σ C g T0 T) {l : List Nat} (hl : ∀ k, k < l.length → l.getD k 0 < Tn T) (hN : l.length ≤ 60) {i : Nat} (hi : i < l.length) (k4 : StL → Int32 → Int32 → Int32 → Option (Int32 × StL)) {Q : Int32 × StL → Prop}
    (hk : ∀ τ, rDr σ τ C T l (i + 1) → k_pc (k4 τ (nI l.length) (nI (wKl C T l (i + 1)).length) (nI i + 1)) Q) :
    ∀ (f j : Nat) (τ : StL), rDr σ τ C T l i → j ≤ l.length → (∀ j', j' < j → (l.getD j' 0 = l.getD i 0 → ¬ j' < i) ∧ (l.getD j' 0 ≠ l.getD i 0 → ¬ wB C T (l.getD j' 0) (l.getD i 0))) → k_pc (f_L_dropNeedless_20 k4 f τ (nI l.length) (nI (wKl C T l i).length) (nI i) (nI (l.getD i 0)) (nI j)) Q := by
  have hn := h.2.2.1
  have kl := wKl_len (C := C) (T := T) (l := l) i
  have pi := hl i hi
  intro f
  induction f with
  | zero => intro j τ _ _ _; exact p_none
  | succ f ih =>
    intro j τ hd hj hq
    rw [f_L_dropNeedless_20]
    unfold f_L_dropNeedless_20_s
    obtain ⟨d1, d2, d3, d4⟩ := hd
    have drop : ∀ τ', rLq σ τ' → vFn (L_gathered τ') l → vFn (L_row τ') (wKl C T l i) → rA (L_answers τ') C T → ¬ wKp C T l i → k_pc (k4 τ' (nI l.length) (nI (wKl C T l i).length) (nI i + 1)) Q := by
      intro τ' a1 a2 a3 a4 a5
      have := hk τ' ⟨a1, a2, by rw [wKl_no a5]; exact a3, a4⟩
      rw [wKl_no a5] at this
      exact this
    refine p_if (fun z => ?_) (fun z => ?_)
    · rw [nI_leI (by omega) (by omega)] at z
      have kp : wKp C T l i := fun j' hj' => hq j' (by omega)
      refine p_guard (fun _ => ?_)
      have e : nI (wKl C T l i).length + 1 = nI (wKl C T l (i + 1)).length := by
        rw [nI_1, wKl_ye kp, List.length_append]; rfl
      rw [e]
      refine hk _ ⟨d1, d2, ?_, d4⟩
      rw [wKl_ye kp]
      show vFn (upd (L_row τ) (nI (wKl C T l i).length).toNatClampNeg (nI (l.getD i 0))) _
      rw [nI_clamp (show (wKl C T l i).length < 2 ^ 31 by omega)]
      exact vFn_add d3
    · rw [nI_leI (by omega) (by omega)] at z
      have hj' : j < l.length := by omega
      have pj := hl j hj'
      rw [nI_clamp (show j < 2 ^ 31 by omega), d2 j hj', nI_1]
      have step : ∀ τ', rDr σ τ' C T l i → ((l.getD j 0 = l.getD i 0 → ¬ j < i) ∧ (l.getD j 0 ≠ l.getD i 0 → ¬ wB C T (l.getD j 0) (l.getD i 0))) → k_pc (f_L_dropNeedless_20 k4 f τ' (nI l.length) (nI (wKl C T l i).length) (nI i) (nI (l.getD i 0)) (nI (j + 1))) Q := by
        intro τ' a1 a2
        refine ih (j + 1) τ' a1 (by omega) (fun j' hj'' => ?_)
        by_cases e : j' = j
        · rw [e]; exact a2
        · exact hq j' (by omega)
      refine p_guard (fun _ => p_if (fun y => ?_) (fun y => ?_))
      · rw [nI_eq (by omega) (by omega)] at y
        refine p_if (fun w => ?_) (fun w => ?_)
        · rw [nI_leI (by omega) (by omega)] at w
          exact step τ ⟨d1, d2, d3, d4⟩ ⟨fun _ => by omega, fun u => absurd y u⟩
        · rw [nI_leI (by omega) (by omega)] at w
          exact drop τ d1 d2 d3 d4 (fun kp => (kp j hj').1 y (by omega))
      · rw [nI_eq (by omega) (by omega)] at y
        have base := r_L_liesBelow (g := g) (T0 := T0) h 101 τ (l.getD j 0) (l.getD i 0) 100 (rLq_L d1 r) d4 pj pi (h.2.2.2.1 _ pi).2.1 (by omega)
        refine p_bind base ?_
        rintro ⟨v, ρ⟩ ⟨v1, v2, A, v3, v4⟩
        replace v1 : v = 0 ∨ v = 1 := v1
        replace v2 : v = 1 ↔ wB C T (l.getD j 0) (l.getD i 0) := v2
        replace v3 : ρ = L_set_answers τ A := v3
        subst v3
        refine p_if (fun w => ?_) (fun w => ?_)
        · replace w : v = 0 := w
          refine step (L_set_answers τ A) ⟨d1, d2, d3, v4⟩ ⟨fun u => absurd u y, fun _ u => ?_⟩
          have := v2.mpr u
          rw [w] at this; exact absurd this k_01
        · replace w : ¬ v = 0 := w
          exact drop (L_set_answers τ A) d1 d2 d3 v4 (fun kp => (kp j hj').2 y (v2.mp (v1.resolve_left w)))
theorem r_L_dn4 (h : wOK C T) {σ : StL} (r : rL σ C g T0 T) {l : List Nat} (hl : ∀ k, k < l.length → l.getD k 0 < Tn T) (hN : l.length ≤ 60) :
    ∀ (f i : Nat) (τ : StL), rDr σ τ C T l i → i ≤ l.length → k_pc (f_L_dropNeedless_4 f τ (nI l.length) (nI (wKl C T l i).length) (nI i)) (fun q => q.1 = nI (wKl C T l l.length).length ∧ rLq σ q.2 ∧ vFn (L_gathered q.2) (wKl C T l l.length) ∧ rA (L_answers q.2) C T) := by
  have hn := h.2.2.1
  intro f
  induction f with
  | zero => intro i τ _ _; exact p_none
  | succ f ih =>
    intro i τ hd hi
    have kl := wKl_len (C := C) (T := T) (l := l) i
    rw [f_L_dropNeedless_4]
    unfold f_L_dropNeedless_4_s
    refine p_if (fun z => p_guard (fun _ => p_some ?_)) (fun z => p_guard (fun _ => ?_))
    · rw [nI_leI (by omega) (by omega)] at z
      have ei : i = l.length := by omega
      subst ei
      obtain ⟨d1, d2, d3, d4⟩ := hd
      refine ⟨rfl, d1, fun k hk => ?_, d4⟩
      show va_cpy (L_row τ) (L_gathered τ) (0 : Int32).toNatClampNeg (0 : Int32).toNatClampNeg (nI (wKl C T l l.length).length).toNatClampNeg k = _
      have e0 : (0 : Int32).toNatClampNeg = 0 := by decide
      rw [e0, nI_clamp (show (wKl C T l l.length).length < 2 ^ 31 by omega)]
      unfold va_cpy
      rw [if_pos (by omega), show 0 + (k - 0) = k by omega]
      exact d3 k hk
    · rw [nI_leI (by omega) (by omega)] at z
      have hi' : i < l.length := by omega
      rw [nI_clamp (show i < 2 ^ 31 by omega), hd.2.1 i hi']
      refine r_L_dn20 h r hl hN hi' _ (fun τ' hτ => ?_) 1000 0 τ hd (by omega) (fun j' hj => by omega)
      rw [nI_1]
      exact ih (i + 1) τ' hτ (by omega)
theorem r_L_dropNeedless (h : wOK C T) {σ : StL} (r : rL σ C g T0 T) (ra : rA (L_answers σ) C T) {l : List Nat} (hl : ∀ k, k < l.length → l.getD k 0 < Tn T) (hN : l.length ≤ 60) (hG : vFn (L_gathered σ) l) : k_pc (f_L_dropNeedless σ (nI l.length)) (fun q => q.1 = nI (wKl C T l l.length).length ∧ rLq σ q.2 ∧ vFn (L_gathered q.2) (wKl C T l l.length) ∧ rA (L_answers q.2) C T) := by
  unfold f_L_dropNeedless
  exact r_L_dn4 h r hl hN 1000 0 σ ⟨⟨rfl, rfl, rfl⟩, hG, fun k hk => absurd hk (by simp [wKl]), ra⟩ (by omega)
end
