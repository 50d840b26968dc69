/-! Tier 3: the class's tables get one class more. -/
section
variable {σ : StC} {C : wWc} {t g : Nat}
theorem rC_row {τ : StC} {C' : wWc} {c : Nat} (r : rCr σ C c) (e0 : Wf C' c = Wf C c) (e0' : Wg C' c = Wg C c) (e1 : Wd C' c = Wd C c) (e2 : Wo C' c = Wo C c) (e3 : Wa C' c = Wa C c) (e4 : Wu C' c = Wu C c) (f0 : C_faces τ c = C_faces σ c) (f1 : C_generics τ c = C_generics σ c) (f2 : C_directCounts τ c = C_directCounts σ c) (f3 : ∀ k, k < 30 → C_directs τ (c * 30 + k) = C_directs σ (c * 30 + k) ∧ C_tolds τ (c * 30 + k) = C_tolds σ (c * 30 + k)) (f4 : C_above τ c = C_above σ c) (hd : Wd C c ≤ 30) : rCr τ C' c := by
  obtain ⟨r0, r1, r2, r3, r4⟩ := r
  refine ⟨by rw [f0, e0]; exact r0, by rw [f1, e0']; exact r1, by rw [f2, e1]; exact r2, fun k hk => ?_, fun b hb => by rw [f4, e4]; exact r4 b hb⟩
  rw [e1] at hk
  rw [(f3 k (by omega)).1, (f3 k (by omega)).2, e2, e3]
  exact r3 k hk
theorem vp_b {x : Int32} {w : Bool} (h : x = b2 w) : vp_nar .boolean x = b2 w := by
  rw [h]; cases w <;> decide
theorem r_C_add (h : wCok C t) (r : rC σ C g) (hn : Wn C < 30) {x1 x2 : Int32} {f1 f2 : Bool} (e1 : x1 = b2 f1) (e2 : x2 = b2 f2) : k_pc (f_C_add σ x1 x2) (fun q => q.1 = nI (Wn C) ∧ rC q.2 (wDcl C f1 f2) (if f2 = true then g + 1 else g)) := by
  have n13 := h.1
  obtain ⟨r1, r2, r3, r4⟩ := r
  have cl : (C_count σ).toNatClampNeg = Wn C := by rw [r1]; exact nI_clamp (by omega)
  have hdc : ∀ c, c < Wn C → Wd C c ≤ 30 := fun c hc => by have := (h.2.2.1 c hc).1; omega
  have key : ∀ (τ : StC) (w : Nat), C_count τ = nI (Wn C + 1) → C_countGeneric τ = nI w → C_faces τ = upd (C_faces σ) (Wn C) (b2 f1) → C_generics τ = upd (C_generics σ) (Wn C) (b2 f2) → C_directCounts τ = C_directCounts σ → C_directs τ = C_directs σ → C_tolds τ = C_tolds σ → C_above τ = C_above σ → k_pc (f_C_add_54 τ (nI (Wn C))) (fun q => q.1 = nI (Wn C) ∧ rC q.2 (wDcl C f1 f2) w) := by
    intro τ w t1 t2 t3 t4 t5 t6 t7 t8
    have th : ∀ (ρ : StC), C_count ρ = nI (Wn C + 1) → ∀ j, j ≤ Wn C → ¬ f_C_isThere ρ (nI j) = 0 := by
      intro ρ hρ j hj
      unfold f_C_isThere
      rw [if_neg (nI_pos (by omega)), hρ, if_neg (by rw [nI_leI (by omega) (by omega)]; omega)]
      decide
    unfold f_C_add_54
    refine p_if (fun z => ?_) (fun _ => ?_)
    · have z2 : nI (Wn C) = nI 0 := z
      rw [nI_eq (by omega) (by decide)] at z2
      omega
    have cN : (nI (Wn C)).toNatClampNeg = Wn C := nI_clamp (by omega)
    have cI : (nI (Wn C) * 30 + 0).toNatClampNeg = Wn C * 30 := by
      have : nI (Wn C) * 30 + nI 0 = nI (Wn C * 30 + 0) := k_ix30
      show (nI (Wn C) * 30 + nI 0).toNatClampNeg = _
      rw [this]; exact nI_clamp (by omega)
    refine p_bind (P := fun q => rC q.2 (wDcl C f1 f2) w) ?_ (fun q hq => p_some ⟨rfl, hq⟩)
    unfold f_C_write
    refine p_if (fun z => absurd z (th τ t1 _ (Nat.le_refl _))) (fun _ => ?_)
    refine p_if (fun z => absurd z (th τ t1 0 (by omega))) (fun _ => ?_)
    refine p_if (fun z => absurd z (by decide)) (fun _ => p_if (fun _ => ?_) (fun z => absurd (by decide) z))
    refine p_guard (fun _ => p_guard (fun _ => p_guard (fun _ => p_guard (fun _ => p_guard (fun _ => ?_)))))
    have fin : ∀ (ρ : StC) (v : Int32), C_count ρ = C_count τ → C_countGeneric ρ = C_countGeneric τ → C_faces ρ = C_faces τ → C_generics ρ = C_generics τ → C_directs ρ = upd (C_directs τ) (Wn C * 30) 0 → C_tolds ρ = upd (C_tolds τ) (Wn C * 30) (-1) → C_directCounts ρ = upd (C_directCounts τ) (Wn C) 1 → C_above ρ = upd (C_above τ) (Wn C) v → (∀ b, b < 32 → bt v b = decide (b = 0)) → rC ρ (wDcl C f1 f2) w := by
      intro ρ v u1 u2 u3 u4 u5 u6 u7 u8 u9
      refine ⟨u1.trans t1, u2.trans t2, fun c hc => ?_, fun c hc hc2 => ?_⟩
      · replace hc : c < Wn C + 1 := hc
        by_cases e : c = Wn C
        · subst e
          have a1 : Wf (wDcl C f1 f2) (Wn C) = f1 := wUp_s
          have a2 : Wg (wDcl C f1 f2) (Wn C) = f2 := wUp_s
          have a3 : Wd (wDcl C f1 f2) (Wn C) = 1 := wUp_s
          have a4 : Wo (wDcl C f1 f2) (Wn C) = fun _ => 0 := wUp_s
          have a5 : Wa (wDcl C f1 f2) (Wn C) = fun _ => 0 := wUp_s
          have a6 : Wu (wDcl C f1 f2) (Wn C) = fun b => decide (b = 0) := wUp_s
          refine ⟨?_, ?_, ?_, fun k hk => ?_, fun b hb => ?_⟩
          · rw [u3, t3, k_upds, a1]
          · rw [u4, t4, k_upds, a2]
          · rw [u7, k_upds, a3]; rfl
          · rw [a3] at hk
            have k0 : k = 0 := by omega
            subst k0
            rw [u5, u6, Nat.add_zero, k_upds, k_upds, a4, a5]
            exact ⟨rfl, rfl⟩
          · rw [u8, k_upds, a6]; exact u9 b hb
        · have hc' : c < Wn C := by omega
          refine rC_row (r3 c hc') (wUp_n e) (wUp_n e) (wUp_n e) (wUp_n e) (wUp_n e) (wUp_n e) ?_ ?_ ?_ (fun k hk => ⟨?_, ?_⟩) ?_ (hdc c hc')
          · rw [u3, t3, k_updn e]
          · rw [u4, t4, k_updn e]
          · rw [u7, k_updn e, t5]
          · rw [u5, k_updn (by omega), t6]
          · rw [u6, k_updn (by omega), t7]
          · rw [u8, k_updn e, t8]
      · replace hc : Wn C + 1 ≤ c := hc
        have := r4 c (by omega) hc2
        rw [u7, u8, k_updn (by omega), k_updn (by omega), t5, t8]
        exact this
    have w0 : ∀ ρ : StC, C_count ρ = C_count τ → C_above ρ = C_above τ → ∃ v, f_C_withAbove ρ 0 = some v ∧ ∀ b, b < 32 → bt v b = decide (b = 0) := by
      intro ρ u1 u2
      refine ⟨C_above ρ 0 ||| ((1 : Int32) <<< (nI 0 &&& 31)), ?_, fun b hb => ?_⟩
      · unfold f_C_withAbove
        have q := th ρ (u1.trans t1) 0 (by omega)
        have q' : ¬ f_C_isThere ρ 0 = 0 := q
        rw [if_neg q', if_neg (by decide)]
        rfl
      · rw [b_or, k_shl1 0 (by decide) hb, u2, t8, (r3 0 (by omega)).2.2.2.2 b hb]
        cases e : Wu C 0 b with
        | false => rfl
        | true => have := wUp_lt h 0 b (by omega) e; omega
    obtain ⟨v, v1, v2⟩ := w0 (C_put_directCounts (C_put_tolds (C_put_directs τ (nI (Wn C) * 30 + 0) 0) (nI (Wn C) * 30 + 0) (-1)) (nI (Wn C)) (if ((C_directCounts (C_put_tolds (C_put_directs τ (nI (Wn C) * 30 + 0) 0) (nI (Wn C) * 30 + 0) (-1))) (nI (Wn C)).toNatClampNeg) < ((0 : Int32) + 1) then ((0 : Int32) + 1) else ((C_directCounts (C_put_tolds (C_put_directs τ (nI (Wn C) * 30 + 0) 0) (nI (Wn C) * 30 + 0) (-1))) (nI (Wn C)).toNatClampNeg))) rfl rfl
    rw [v1]
    refine p_guard (fun _ => p_some ?_)
    have dc : C_directCounts τ (Wn C) = 0 := by rw [t5]; exact (r4 (Wn C) (Nat.le_refl _) hn).1
    have ab : C_above τ (Wn C) = 0 := by rw [t8]; exact (r4 (Wn C) (Nat.le_refl _) hn).2
    refine fin _ (0 ||| v) rfl rfl rfl rfl ?_ ?_ ?_ ?_ (fun b hb => by rw [b_or, b_0, Bool.false_or]; exact v2 b hb)
    · show upd (C_directs τ) (nI (Wn C) * 30 + 0).toNatClampNeg 0 = _
      rw [cI]
    · show upd (C_tolds τ) (nI (Wn C) * 30 + 0).toNatClampNeg (-1) = _
      rw [cI]
    · show upd (C_directCounts τ) (nI (Wn C)).toNatClampNeg (if C_directCounts τ (nI (Wn C)).toNatClampNeg < ((0 : Int32) + 1) then ((0 : Int32) + 1) else C_directCounts τ (nI (Wn C)).toNatClampNeg) = _
      rw [cN, dc]; rfl
    · show upd (C_above τ) (nI (Wn C)).toNatClampNeg (C_above τ (nI (Wn C)).toNatClampNeg ||| v) = _
      rw [cN, ab]
  unfold f_C_add
  rw [vp_b e1, vp_b e2, r1, nI_1]
  refine p_if (fun _ => p_guard (fun _ => p_guard (fun _ => ?_))) (fun z => ?_)
  · refine p_if (fun z => ?_) (fun z => ?_)
    · have ef : f2 = false := b2_0.mp (e2.symm.trans z)
      rw [ef, if_neg (by decide)]
      have base := key (C_put_generics (C_put_faces (C_set_count σ (nI (Wn C + 1))) (nI (Wn C)) (b2 f1)) (nI (Wn C)) (b2 f2)) g rfl r2 (by show upd (C_faces σ) (nI (Wn C)).toNatClampNeg _ = _; rw [nI_clamp (by omega)]) (by show upd (C_generics σ) (nI (Wn C)).toNatClampNeg _ = _; rw [nI_clamp (by omega)]) rfl rfl rfl rfl
      rw [ef] at base
      exact base
    · have ef : f2 = true := by
        cases f2 with
        | true => rfl
        | false => exact absurd e2 z
      rw [ef, if_pos rfl]
      have base := key (C_set_countGeneric (C_put_generics (C_put_faces (C_set_count σ (nI (Wn C + 1))) (nI (Wn C)) (b2 f1)) (nI (Wn C)) (b2 f2)) (C_countGeneric σ + 1)) (g + 1) rfl (by show C_countGeneric σ + 1 = _; rw [r2]; exact nI_1 g) (by show upd (C_faces σ) (nI (Wn C)).toNatClampNeg _ = _; rw [nI_clamp (by omega)]) (by show upd (C_generics σ) (nI (Wn C)).toNatClampNeg _ = _; rw [nI_clamp (by omega)]) rfl rfl rfl rfl
      rw [ef] at base
      exact base
  · exact absurd (nI_lt hn (by decide)) z
end
