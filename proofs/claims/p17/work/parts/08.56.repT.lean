/-! Tier 3: the class's own tables of types hold the numbers. -/
def wPc (d : wDs) : Nat := if dK d = 1 then 1 else (dL d).length
def rTr (σ : StT) (T : wWt) (u i : Nat) : Prop := T_kinds σ i = nI (dK (Ty T i)) ∧ T_named σ i = (if dK (Ty T i) = 1 then nI (dX (Ty T i)) else -1) ∧ T_arguments σ i = nI (dA (Ty T i)) ∧ T_elements σ i = (if dK (Ty T i) = 2 then nI (dX (Ty T i)) else -1) ∧ T_sizes σ i = nI (Tm T i) ∧ T_partCounts σ i = nI (wPc (Ty T i)) ∧
  (dK (Ty T i) = 3 → ∃ s, T_partStarts σ i = nI s ∧ s + (dL (Ty T i)).length ≤ u ∧ ∀ k (hk : k < (dL (Ty T i)).length), (T_parts σ).2 (s + k) = nI (dL (Ty T i))[k])
/-- T0: the types that stay if the call fails -/
def rT (σ : StT) (T0 T : wWt) : Prop := ∃ u us, T_count σ = nI (Tn T) ∧ T_partsUsed σ = nI u ∧ T_settledCount σ = nI (Tn T0) ∧ T_settledParts σ = nI us ∧ us ≤ u ∧ u ≤ 30 * Tn T ∧ us ≤ 30 * Tn T0 ∧ u ≤ (T_parts σ).1 ∧ 64 ≤ (T_parts σ).1 ∧ (T_parts σ).1 ≤ 60000 ∧ Tn T0 ≤ Tn T ∧ (∀ i, i < Tn T → rTr σ T u i) ∧ (∀ i, i < Tn T0 → rTr σ T0 us i)
theorem rTr_same {σ τ : StT} {T T' : wWt} {u u' i : Nat} (h : rTr σ T u i) (eT : Ty T' i = Ty T i) (eM : Tm T' i = Tm T i) (e1 : T_kinds τ i = T_kinds σ i) (e2 : T_named τ i = T_named σ i) (e3 : T_arguments τ i = T_arguments σ i) (e4 : T_elements τ i = T_elements σ i) (e5 : T_sizes τ i = T_sizes σ i) (e6 : T_partCounts τ i = T_partCounts σ i) (e7 : T_partStarts τ i = T_partStarts σ i) (hu : u ≤ u') (e8 : ∀ j, j < u → (T_parts τ).2 j = (T_parts σ).2 j) : rTr τ T' u' i := by
  obtain ⟨h1, h2, h3, h4, h5, h6, h7⟩ := h
  refine ⟨?_, ?_, ?_, ?_, ?_, ?_, ?_⟩
  · rw [e1, eT]; exact h1
  · rw [e2, eT]; exact h2
  · rw [e3, eT]; exact h3
  · rw [e4, eT]; exact h4
  · rw [e5, eM]; exact h5
  · rw [e6, eT]; exact h6
  · rw [eT]
    intro q
    obtain ⟨s, s1, s2, s3⟩ := h7 q
    refine ⟨s, by rw [e7]; exact s1, by omega, fun k hk => ?_⟩
    rw [e8 (s + k) (by omega)]; exact s3 k hk
section
variable {σ : StT} {C : wWc} {T0 T : wWt}
theorem wPc_le (h : wTok C T) {i : Nat} (hi : i < Tn T) : wPc (Ty T i) ≤ 30 := by
  unfold wPc
  obtain ⟨_, _, h1 | ⟨_, c, a, h1, _⟩ | ⟨_, e, h1, _⟩ | ⟨_, l, h1, h2, h3, _⟩⟩ := h.2.2.1 i hi
  · rw [h1.2.1]; exact Nat.zero_le _
  · rw [h1]; exact (by decide : (1 : Nat) ≤ 30)
  · rw [h1]; exact Nat.zero_le _
  · rw [h1]; exact h3
theorem wK_lt (h : wTok C T) {i : Nat} (hi : i < Tn T) : dK (Ty T i) < 4 := by
  rcases wT_kind h hi with ⟨q, _⟩ | ⟨_, q | q | q⟩ <;> omega
theorem wX_lt (h : wOK C T) {i : Nat} (hi : i < Tn T) : dX (Ty T i) < 300 := by
  have h3 := h.2.2.1
  have hn := h.1.2.1
  obtain ⟨_, _, h1 | ⟨_, c, a, h1, h2, _⟩ | ⟨_, e, h1, h2, _⟩ | ⟨_, l, h1, _⟩⟩ := h.2.2.2.1 i hi
  · rw [h1.2.1]; exact (by decide : (0 : Nat) < 300)
  · rw [h1]; show c < 300; omega
  · rw [h1]; show e < 300; omega
  · rw [h1]; exact (by decide : (0 : Nat) < 300)
theorem wA_lt (h : wTok C T) {i : Nat} (hi : i < Tn T) : dA (Ty T i) < 4 * Tn T := by
  have h3 := h.1
  obtain ⟨_, _, h1 | ⟨_, c, a, h1, h2, h4, _⟩ | ⟨_, e, h1, h2, _⟩ | ⟨_, l, h1, _⟩⟩ := h.2.2.1 i hi
  · rw [h1.2.1]; show 0 < _; omega
  · rw [h1]
    show a < _
    rcases h4 with ⟨_, h4⟩ | ⟨_, x, x1, x2, x3⟩
    · omega
    · omega
  · rw [h1]; show 0 < _; omega
  · rw [h1]; show 0 < _; omega
theorem rT_there (h : wTok C T) (r : rT σ T0 T) {j : Nat} (hj : j < Tn T) : ¬ f_T_isThere σ (nI j) = 0 := by
  have hn := h.2.1
  obtain ⟨u, us, r1, _⟩ := r
  unfold f_T_isThere
  rw [if_neg (nI_pos (by omega)), r1, if_neg (by rw [nI_leI (by omega) (by omega)]; omega)]
  decide
theorem rT_not (h : wTok C T) (r : rT σ T0 T) {x : Int32} (hx : ¬ ∃ j, j < Tn T ∧ x = nI j) : f_T_isThere σ x = 0 := by
  have hn := h.2.1
  obtain ⟨u, us, r1, _⟩ := r
  unfold f_T_isThere
  by_cases q : x < 0
  · rw [if_pos q]
  · rw [if_neg q]
    obtain ⟨j, hj, rfl⟩ := nI_of q
    rw [r1]
    by_cases q2 : nI (Tn T) ≤ nI j
    · rw [if_pos q2]
    · rw [nI_leI (by omega) hj] at q2
      exact absurd ⟨j, by omega, rfl⟩ hx
theorem rT_m1 (h : wTok C T) (r : rT σ T0 T) : f_T_isThere σ (-1) = 0 := by
  have hn := h.2.1
  exact rT_not h r (fun ⟨j, j1, j2⟩ => k_ne1 (x := j) (by omega) j2.symm)
theorem r_T_kindOf (h : wTok C T) (r : rT σ T0 T) {j : Nat} (hj : j < Tn T) : f_T_kindOf σ (nI j) = some (nI (dK (Ty T j))) := by
  have hn := h.2.1
  have w := rT_there h r hj
  obtain ⟨u, us, _, _, _, _, _, _, _, _, _, _, _, rr, _⟩ := r
  unfold f_T_kindOf
  rw [if_neg w, if_neg (nI_in (by omega) (by decide)), nI_clamp (by omega), (rr j hj).1]
theorem r_T_classOf (h : wTok C T) (r : rT σ T0 T) {j : Nat} (hj : j < Tn T) : f_T_classOf σ (nI j) = some (if dK (Ty T j) = 1 then nI (dX (Ty T j)) else -1) := by
  have hn := h.2.1
  have w := rT_there h r hj
  obtain ⟨u, us, _, _, _, _, _, _, _, _, _, _, _, rr, _⟩ := r
  unfold f_T_classOf
  rw [if_neg w, if_neg (nI_in (by omega) (by decide)), nI_clamp (by omega), (rr j hj).2.1]
theorem r_T_argumentAt (h : wTok C T) (r : rT σ T0 T) {j : Nat} (hj : j < Tn T) : f_T_argumentAt σ (nI j) = some (nI (dA (Ty T j))) := by
  have hn := h.2.1
  have w := rT_there h r hj
  obtain ⟨u, us, _, _, _, _, _, _, _, _, _, _, _, rr, _⟩ := r
  unfold f_T_argumentAt
  rw [if_neg w, if_neg (nI_in (by omega) (by decide)), nI_clamp (by omega), (rr j hj).2.2.1]
theorem r_T_elementOf (h : wTok C T) (r : rT σ T0 T) {j : Nat} (hj : j < Tn T) : f_T_elementOf σ (nI j) = some (if dK (Ty T j) = 2 then nI (dX (Ty T j)) else -1) := by
  have hn := h.2.1
  have w := rT_there h r hj
  obtain ⟨u, us, _, _, _, _, _, _, _, _, _, _, _, rr, _⟩ := r
  unfold f_T_elementOf
  rw [if_neg w, if_neg (nI_in (by omega) (by decide)), nI_clamp (by omega), (rr j hj).2.2.2.1]
theorem r_T_sizeOf (h : wTok C T) (r : rT σ T0 T) {j : Nat} (hj : j < Tn T) : f_T_sizeOf σ (nI j) = some (nI (Tm T j)) := by
  have hn := h.2.1
  have w := rT_there h r hj
  obtain ⟨u, us, _, _, _, _, _, _, _, _, _, _, _, rr, _⟩ := r
  unfold f_T_sizeOf
  rw [if_neg w, if_neg (nI_in (by omega) (by decide)), nI_clamp (by omega), (rr j hj).2.2.2.2.1]
theorem r_T_countParts (h : wTok C T) (r : rT σ T0 T) {j : Nat} (hj : j < Tn T) : f_T_countParts σ (nI j) = some (nI (wPc (Ty T j))) := by
  have hn := h.2.1
  have w := rT_there h r hj
  obtain ⟨u, us, _, _, _, _, _, _, _, _, _, _, _, rr, _⟩ := r
  unfold f_T_countParts
  rw [if_neg w, if_neg (nI_in (by omega) (by decide)), nI_clamp (by omega), (rr j hj).2.2.2.2.2.1]
theorem wPs_len (h : wTok C T) {i : Nat} (_hi : i < Tn T) : (wPs T i).length = wPc (Ty T i) := by
  unfold wPs wPc
  by_cases q : dK (Ty T i) = 1
  · rw [if_pos q, if_pos q]; rfl
  · rw [if_neg q, if_neg q]
theorem r_T_partOf (h : wTok C T) (r : rT σ T0 T) {j k : Nat} (hj : j < Tn T) (hk : k < (wPs T j).length) : f_T_partOf σ (nI j) (nI k) = some (nI (wPs T j)[k]) := by
  have hn := h.2.1
  have w := rT_there h r hj
  have wl := wPs_len h hj
  have w30 := wPc_le h hj
  obtain ⟨u, us, _, r2, _, _, _, r5, _, r6, _, r7, _, rr, _⟩ := r
  obtain ⟨q1, q2, q3, q4, q5, q6, q7⟩ := rr j hj
  unfold f_T_partOf
  rw [if_neg w, if_neg (nI_pos (by omega)), if_neg (nI_in (by omega) (by decide)), nI_clamp (show j < 2 ^ 31 by omega), q6, if_pos (by rw [nI_ltI (by omega) (by omega)]; omega), q1]
  rw [if_neg (show ¬ (nI j < 0 ∨ 300 ≤ j) from k_inn (by omega) (by omega))]
  by_cases e : dK (Ty T j) = 1
  · rw [if_pos (by rw [e]; rfl)]
    have : (wPs T j)[k] = j := by
      have e2 : wPs T j = [j] := by unfold wPs; rw [if_pos e]
      have e3 : k = 0 := by rw [e2] at hk; simpa using hk
      subst e3
      simp [e2]
    rw [this]
  · have kl := wK_lt h hj
    have ne : ¬ nI (dK (Ty T j)) = 1 := by
      intro z
      have : nI (dK (Ty T j)) = nI 1 := z
      rw [nI_eq (by omega) (by decide)] at this
      exact e this
    have e3 : dK (Ty T j) = 3 := by
      obtain ⟨_, _, h1 | ⟨_, _, _, h0, _⟩ | ⟨_, _, h0, _⟩ | ⟨_, _, h0, _⟩⟩ := h.2.2.1 j hj
      · rw [wl] at hk; unfold wPc at hk; rw [h1.2.1] at hk; exact absurd hk (Nat.not_lt_zero _)
      · rw [h0] at e; exact absurd rfl e
      · rw [wl] at hk; unfold wPc at hk; rw [h0] at hk; exact absurd hk (Nat.not_lt_zero _)
      · rw [h0]
    obtain ⟨s, s1, s2, s3⟩ := q7 e3
    have el : wPs T j = dL (Ty T j) := by unfold wPs; rw [if_neg e]
    have hk' : k < (dL (Ty T j)).length := by rw [← el]; exact hk
    rw [if_neg ne, if_neg (show ¬ (nI j < 0 ∨ 300 ≤ j) from k_inn (by omega) (by omega)), s1, nI_add, r2]
    rw [if_neg (nI_pos (by omega)), if_neg (by rw [nI_leI (by omega) (by omega)]; omega), if_neg (by show ¬ nI (T_parts σ).1 ≤ nI (s + k); rw [nI_leI (by omega) (by omega)]; omega), nI_clamp (show s + k < 2 ^ 31 by omega), if_neg (k_inn (by omega) (by omega)), s3 k hk']
    congr 2
    simp [el]
/-- a new row behind the others -/
theorem rT_new (_h : wOK C T) {τ : StT} {d : wDs} {sz : Nat} (r : rT σ T0 T) (h3 : Tn T < 300)
    (e0 : T_count τ = nI (Tn T + 1)) (e1 : T_kinds τ = upd (T_kinds σ) (Tn T) (nI (dK d))) (e2 : T_named τ = upd (T_named σ) (Tn T) (if dK d = 1 then nI (dX d) else -1)) (e3 : T_arguments τ = upd (T_arguments σ) (Tn T) (nI (dA d))) (e4 : T_elements τ = upd (T_elements σ) (Tn T) (if dK d = 2 then nI (dX d) else -1)) (e5 : T_sizes τ = upd (T_sizes σ) (Tn T) (nI sz)) (e6 : T_partCounts τ = upd (T_partCounts σ) (Tn T) (nI (wPc d)))
    (e7 : ∀ i, i < Tn T → T_partStarts τ i = T_partStarts σ i) (e9 : T_settledCount τ = T_settledCount σ) (e10 : T_settledParts τ = T_settledParts σ)
    (hp : ∀ u, T_partsUsed σ = nI u → u ≤ 30 * Tn T → u ≤ (T_parts σ).1 → 64 ≤ (T_parts σ).1 → (T_parts σ).1 ≤ 60000 → ∃ u', T_partsUsed τ = nI u' ∧ u ≤ u' ∧ u' ≤ u + 30 ∧ u' ≤ (T_parts τ).1 ∧ 64 ≤ (T_parts τ).1 ∧ (T_parts τ).1 ≤ 60000 ∧ (∀ j, j < u → (T_parts τ).2 j = (T_parts σ).2 j) ∧ (dK d = 3 → ∃ s, T_partStarts τ (Tn T) = nI s ∧ s + (dL d).length ≤ u' ∧ ∀ k (hk : k < (dL d).length), (T_parts τ).2 (s + k) = nI (dL d)[k])) :
    rT τ T0 (Tn T + 1, wUp (Ty T) (Tn T) d, wUp (Tm T) (Tn T) sz) := by
  obtain ⟨u, us, r1, r2, r3, r4, r5, r6, r6', r7, r8, r9, r10, rr, rs⟩ := r
  obtain ⟨u', p1, p2, p3, p4, p5, p6, p7, p8⟩ := hp u r2 r6 r7 r8 r9
  have same : ∀ i, i < Tn T → ∀ (T1 T2 : wWt) (v v' : Nat), Ty T2 i = Ty T1 i → Tm T2 i = Tm T1 i → v ≤ v' → v ≤ u → rTr σ T1 v i → rTr τ T2 v' i := by
    intro i hi T1 T2 v v' q1 q2 q3 q4 q
    refine rTr_same q q1 q2 ?_ ?_ ?_ ?_ ?_ ?_ (e7 i hi) q3 (fun j hj => p7 j (by omega))
    · rw [e1]; exact k_u hi
    · rw [e2]; exact k_u hi
    · rw [e3]; exact k_u hi
    · rw [e4]; exact k_u hi
    · rw [e5]; exact k_u hi
    · rw [e6]; exact k_u hi
  refine ⟨u', us, e0, p1, by rw [e9]; exact r3, by rw [e10]; exact r4, by omega, by show u' ≤ 30 * (Tn T + 1); omega, r6', p4, p5, p6, by show Tn T0 ≤ Tn T + 1; omega, fun i hi => ?_, fun i hi => ?_⟩
  · replace hi : i < Tn T + 1 := hi
    by_cases z : i = Tn T
    · subst z
      have t1 : Ty (Tn T + 1, wUp (Ty T) (Tn T) d, wUp (Tm T) (Tn T) sz) (Tn T) = d := wUp_s
      have t2 : Tm (Tn T + 1, wUp (Ty T) (Tn T) d, wUp (Tm T) (Tn T) sz) (Tn T) = sz := wUp_s
      refine ⟨?_, ?_, ?_, ?_, ?_, ?_, ?_⟩
      · rw [t1, e1]; exact k_upds
      · rw [t1, e2]; exact k_upds
      · rw [t1, e3]; exact k_upds
      · rw [t1, e4]; exact k_upds
      · rw [t2, e5]; exact k_upds
      · rw [t1, e6]; exact k_upds
      · rw [t1]; exact p8
    · exact same i (by omega) T _ u u' (wUp_n z) (wUp_n z) p2 (Nat.le_refl u) (rr i (by omega))
  · exact same i (by omega) T0 T0 us us rfl rfl (Nat.le_refl us) r5 (rs i hi)
end
