/-! Tier 3: the class's orderByClass. -/
theorem wFi_app {T : wWt} {m : List Nat} {p c : Nat} : wFi T (m ++ [p]) c = (wFi T m c).or (if dX (Ty T p) = c then some p else none) := by
  unfold wFi
  rw [List.find?_append]
  congr 1
  by_cases e : dX (Ty T p) = c
  · rw [if_pos e]; simp [e]
  · rw [if_neg e]; simp [e]
section
variable {C : wWc} {T0 T : wWt} {g : Nat}
theorem r_L_ob12 (h : wOK C T) {σ : StL} (r : rL σ C g T0 T) {m : List Nat} (hm : ∀ p, p ∈ m → p < Tn T ∧ dK (Ty T p) = 1) (hN : m.length ≤ 60) :
    ∀ (f i : Nat) (τ : StL), i ≤ m.length → rLq σ τ → L_answers τ = L_answers σ → vFn (L_gathered τ) m → (∀ k, k < 30 → L_row τ k = wIo (wFi T (m.take i) k)) → (m.take i).Pairwise (fun p q => dX (Ty T p) ≠ dX (Ty T q)) →
      k_pc (f_L_orderByClass_12 f τ (nI m.length) (nI ((m.take i).filter (fun p => !(Wf C (dX (Ty T p))))).length) (nI i)) (fun q => rLq σ q.2 ∧ L_answers q.2 = L_answers σ ∧ ((¬ wAl C T m ∧ q.1 = 0) ∨ (wAl C T m ∧ q.1 = nI (wCr T m 30).length ∧ vFn (L_row q.2) (wCr T m 30)))) := by
  have hn := h.2.2.1
  have hC := h.1.2.1
  intro f
  induction f with
  | zero => intro i τ _ _ _ _ _ _; exact p_none
  | succ f ih =>
    intro i τ hi h1 h2 h3 h4 h5
    have fl : ((m.take i).filter (fun p => !(Wf C (dX (Ty T p))))).length ≤ i := Nat.le_trans (List.length_filter_le _ _) (by rw [List.length_take]; omega)
    rw [f_L_orderByClass_12]
    unfold f_L_orderByClass_12_s
    refine p_if (fun z => ?_) (fun z => ?_)
    · rw [nI_leI (by omega) (by omega)] at z
      rw [show i = m.length by omega, List.take_length] at h4 h5 fl ⊢
      refine p_if (fun y => ?_) (fun y => p_some ⟨h1, h2, Or.inl ⟨fun w => ?_, rfl⟩⟩)
      · have y2 : nI (m.filter (fun p => !(Wf C (dX (Ty T p))))).length ≤ nI 1 := y
        rw [nI_leI (by omega) (by decide)] at y2
        unfold f_L_closeRow
        refine p_bind (r_L_cr4 (T := T) (fun p hp => by have := (hm p hp).1; omega) 1000 0 τ (by omega) h1 h2 (fun k _ hk => h4 k hk) (fun k hk => absurd hk (by simp [wCr]))) ?_
        rintro q ⟨q1, q2, q3, q4⟩
        exact p_some ⟨q2, q3, Or.inr ⟨⟨h5, y2⟩, q1, q4⟩⟩
      · have y2 : ¬ nI (m.filter (fun p => !(Wf C (dX (Ty T p))))).length ≤ nI 1 := y
        rw [nI_leI (by omega) (by decide)] at y2
        exact y2 w.2
    · rw [nI_leI (by omega) (by omega)] at z
      have hi' : i < m.length := by omega
      have mem := List.getElem_mem hi'
      obtain ⟨p1, p2⟩ := hm _ mem
      have c1 := (wT_named h.2 p1 p2).2.1
      have rt := rLq_L h1 r
      have et : m.take (i + 1) = m.take i ++ [m[i]] := by rw [← List.take_append_getElem hi']
      rw [nI_clamp (show i < 2 ^ 31 by omega), h3 i hi', getD_is hi']
      refine p_guard (fun _ => ?_)
      rw [r_T_classOf h.2 rt.2 p1, if_pos p2]
      show k_pc (if nI (dX (Ty T m[i])) < 0 then some (0, τ) else _) _
      refine p_if (fun y => absurd y (nI_pos (by omega))) (fun _ => p_if (fun y => ?_) (fun _ => ?_))
      · have y2 : nI 30 ≤ nI (dX (Ty T m[i])) := y
        rw [nI_leI (by decide) (by omega)] at y2
        omega
      have cd : (nI (dX (Ty T m[i]))).toNatClampNeg = dX (Ty T m[i]) := nI_clamp (by omega)
      rw [cd, h4 _ (show dX (Ty T m[i]) < 30 by omega)]
      refine p_guard (fun _ => ?_)
      cases e : wFi T (m.take i) (dX (Ty T m[i])) with
      | some q =>
        obtain ⟨q1, q2⟩ := wFi_some e
        have q3 : q < 300 := by have := (hm q (List.mem_of_mem_take q1)).1; omega
        refine p_if (fun y => absurd y (k_ne1 (by omega))) (fun _ => p_some ⟨h1, h2, Or.inl ⟨fun w => ?_, rfl⟩⟩)
        have w1 := w.1
        rw [← List.take_append_drop i m, List.pairwise_append, List.drop_eq_getElem_cons hi'] at w1
        exact w1.2.2 q q1 m[i] List.mem_cons_self q2
      | none =>
        refine p_if (fun _ => ?_) (fun y => absurd rfl y)
        rw [r_C_isFace h.1 rt.1 c1]
        have h5' : (m.take (i + 1)).Pairwise (fun p q => dX (Ty T p) ≠ dX (Ty T q)) := by
          rw [et, List.pairwise_append]
          refine ⟨h5, List.pairwise_singleton _ _, fun a ha b hb => ?_⟩
          rw [List.mem_singleton] at hb
          subst hb
          intro z
          obtain ⟨q, hq⟩ := wFi_ex (T := T) ha
          rw [z, e] at hq; cases hq
        have k72 : ∀ s : Nat, s = ((m.take (i + 1)).filter (fun p => !(Wf C (dX (Ty T p))))).length → k_pc (f_L_orderByClass_72 (f_L_orderByClass_12 f) τ (nI m.length) (nI s) (nI i) (nI (dX (Ty T m[i])))) (fun q => rLq σ q.2 ∧ L_answers q.2 = L_answers σ ∧ ((¬ wAl C T m ∧ q.1 = 0) ∨ (wAl C T m ∧ q.1 = nI (wCr T m 30).length ∧ vFn (L_row q.2) (wCr T m 30)))) := by
          intro s es
          unfold f_L_orderByClass_72
          rw [nI_clamp (show i < 2 ^ 31 by omega), h3 i hi', getD_is hi', nI_1, es]
          refine p_guard (fun _ => p_guard (fun _ => ?_))
          refine ih (i + 1) _ (by omega) (rLq_trans h1 ⟨rfl, rfl, rfl⟩) h2 h3 (fun k hk => ?_) h5'
          show upd (L_row τ) (nI (dX (Ty T m[i]))).toNatClampNeg (nI m[i]) k = _
          rw [cd, et, wFi_app]
          by_cases ek : dX (Ty T m[i]) = k
          · rw [← ek, k_upds, e, if_pos rfl]; rfl
          · rw [k_updn (fun q => ek q.symm), if_neg ek, h4 k hk]
            cases wFi T (m.take i) k <;> rfl
        have ef : ((m.take (i + 1)).filter (fun p => !(Wf C (dX (Ty T p))))).length = ((m.take i).filter (fun p => !(Wf C (dX (Ty T p))))).length + (if Wf C (dX (Ty T m[i])) = true then 0 else 1) := by
          rw [et, List.filter_append, List.length_append]
          congr 1
          cases w : Wf C (dX (Ty T m[i])) with
          | true => simp [w]
          | false => simp [w]
        show k_pc (if b2 (Wf C (dX (Ty T m[i]))) = 0 then _ else _) _
        refine p_if (fun y => ?_) (fun y => ?_)
        · rw [nI_1]
          refine k72 _ ?_
          rw [ef, if_neg (by rw [b2_0.mp y]; decide)]
        · have w : Wf C (dX (Ty T m[i])) = true := by
            cases w : Wf C (dX (Ty T m[i])) with
            | true => rfl
            | false => rw [w] at y; exact absurd rfl y
          refine k72 _ ?_
          rw [ef, if_pos w]; rfl
theorem r_L_orderByClass (h : wOK C T) {σ : StL} (r : rL σ C g T0 T) {m : List Nat} (hm : ∀ p, p ∈ m → p < Tn T ∧ dK (Ty T p) = 1) (hN : m.length ≤ 60) (hG : vFn (L_gathered σ) m) : k_pc (f_L_orderByClass σ (nI m.length)) (fun q => rLq σ q.2 ∧ L_answers q.2 = L_answers σ ∧ ((¬ wAl C T m ∧ q.1 = 0) ∨ (wAl C T m ∧ q.1 = nI (wCr T m 30).length ∧ vFn (L_row q.2) (wCr T m 30)))) := by
  unfold f_L_orderByClass
  refine r_L_ob12 h r hm hN 1000 0 _ (by omega) ⟨rfl, rfl, rfl⟩ rfl hG (fun k hk => ?_) ?_
  · show J_fill (L_row σ) 90 (-1) k = _
    unfold J_fill
    rw [if_pos (by omega), List.take_zero]; rfl
  · rw [List.take_zero]; exact List.Pairwise.nil
end
