/-! Tier 3: class and reference side by side: the smaller calls. -/
def RW (C : wWc) (g : Nat) (T : wWt) (d : Nat) : Prop := wOK C T ∧ g ≤ 6 ∧ d ≤ 2 ∧ Wf C 0 = false ∧ ∀ c, 13 ≤ c → c < Wn C → Wf C (Wo C c 0) = false
def RL (σ : StL) (C : wWc) (g : Nat) (T : wWt) (d : Nat) : Prop := rL σ C g T T ∧ rA (L_answers σ) C T ∧ L_depth σ = nI d
def RM (μ : StM) (C : wWc) (g : Nat) (T : wWt) (d : Nat) : Prop := rMc μ C g ∧ rMt μ T ∧ rR μ C T ∧ M_full μ = 0 ∧ M_depth μ = nI d
def RO (cd : Nat → Int32) (o : Int32 ⊕ Nat) (q : Int32 × StM) : Prop := match o with
  | .inl v => M_code q.2 = 0 ∧ q.1 = v
  | .inr e => M_code q.2 = cd e
/-- both answer alike, and their tables stay alike -/
def RQ (cd : Nat → Int32) (d : Nat) (fL : Option ((Int32 ⊕ Nat) × StL × Nat × Nat)) (fM : Option (Int32 × StM)) : Prop := ∃ o C g T, RW C g T d ∧ k_pc fL (fun q => q.1 = o ∧ RL q.2.1 C g T d) ∧ k_pc fM (fun q => RO cd o q ∧ RM q.2 C g T d)
/-- their tables stay alike -/
def RK (d : Nat) (fL : Option ((Int32 ⊕ Nat) × StL × Nat × Nat)) (fM : Option (Int32 × StM)) : Prop := ∃ C g T, RW C g T d ∧ k_pc fL (fun q => RL q.2.1 C g T d) ∧ k_pc fM (fun q => RM q.2 C g T d)
theorem RK_of {cd : Nat → Int32} {d : Nat} {fL : Option ((Int32 ⊕ Nat) × StL × Nat × Nat)} {fM : Option (Int32 × StM)} (h : RQ cd d fL fM) : RK d fL fM := by
  obtain ⟨o, C, g, T, h1, h2, h3⟩ := h
  exact ⟨C, g, T, h1, p_mono h2 (fun q hq => hq.2), p_mono h3 (fun q hq => hq.2)⟩
theorem p_rt {σ : StL} {α : Type} {x : Int32} {f : (Int32 ⊕ Nat) × StL × Nat × Nat → Option α} {Q : α → Prop} (h1 : f_T_isThere (L_types σ) x = 0 → k_pc (f (.inr 1, σ, 1, 6)) Q) (h2 : ¬ f_T_isThere (L_types σ) x = 0 → k_pc (f (.inl 0, σ, 0, 0)) Q) : k_pc ((f_L_requireType σ x).bind f) Q := by
  unfold f_L_requireType
  by_cases h : f_T_isThere (L_types σ) x = 0
  · rw [if_pos h]; exact h1 h
  · rw [if_neg h]; exact h2 h
theorem p_rc {σ : StL} {α : Type} {x : Int32} {f : (Int32 ⊕ Nat) × StL × Nat × Nat → Option α} {Q : α → Prop} (h1 : f_C_isThere (L_classes σ) x = 0 → k_pc (f (.inr 1, σ, 1, 6)) Q) (h2 : ¬ f_C_isThere (L_classes σ) x = 0 → k_pc (f (.inl 0, σ, 0, 0)) Q) : k_pc ((f_L_requireClass σ x).bind f) Q := by
  unfold f_L_requireClass
  by_cases h : f_C_isThere (L_classes σ) x = 0
  · rw [if_pos h]; exact h1 h
  · rw [if_neg h]; exact h2 h
theorem p_good {μ : StM} {α : Type} {x : Int32} {f : Int32 × StM → Option α} {Q : α → Prop} (h0 : x = 0 → k_pc (f (1, M_set_code μ x)) Q) (h1 : ¬ x = 0 → k_pc (f (0, M_set_code μ x)) Q) : k_pc ((f_M_good μ x).bind f) Q := by
  unfold f_M_good
  by_cases h : x = 0
  · rw [if_pos h]; exact h0 h
  · rw [if_neg h]; exact h1 h
section
variable {σ : StL} {μ : StM} {C : wWc} {T : wWt} {g d : Nat}
theorem RW_not (h : RW C g T d) : Wn C ≤ 30 ∧ Tn T ≤ 300 ∧ 13 ≤ Wn C ∧ 16 ≤ Tn T := ⟨h.1.1.2.1, h.1.2.2.1, h.1.1.1, h.1.2.1⟩
theorem R_isClass (h : RW C g T d) (hM : RM μ C g T d) {j : Nat} (hj : j < Wn C) : ¬ f_M_isClass μ (nI j) = 0 := by
  have hn := RW_not h
  unfold f_M_isClass
  rw [if_neg (nI_pos (by omega)), hM.1.1, if_neg (by rw [nI_leI (by omega) (by omega)]; omega)]
  decide
theorem R_noClass (h : RW C g T d) (hM : RM μ C g T d) {x : Int32} (hx : ¬ ∃ j, j < Wn C ∧ x = nI j) : f_M_isClass μ x = 0 := by
  have hn := RW_not h
  unfold f_M_isClass
  by_cases q : x < 0
  · rw [if_pos q]
  · rw [if_neg q]
    obtain ⟨j, hj, rfl⟩ := nI_of q
    rw [hM.1.1]
    by_cases q2 : nI (Wn C) ≤ nI j
    · rw [if_pos q2]
    · rw [nI_leI (by omega) hj] at q2
      exact absurd ⟨j, by omega, rfl⟩ hx
theorem R_isType (h : RW C g T d) (hM : RM μ C g T d) {j : Nat} (hj : j < Tn T) : ¬ f_M_isType μ (nI j) = 0 := by
  have hn := RW_not h
  unfold f_M_isType
  rw [if_neg (nI_pos (by omega)), hM.2.1.1, if_neg (by rw [nI_leI (by omega) (by omega)]; omega)]
  decide
theorem R_noType (h : RW C g T d) (hM : RM μ C g T d) {x : Int32} (hx : ¬ ∃ j, j < Tn T ∧ x = nI j) : f_M_isType μ x = 0 := by
  have hn := RW_not h
  unfold f_M_isType
  by_cases q : x < 0
  · rw [if_pos q]
  · rw [if_neg q]
    obtain ⟨j, hj, rfl⟩ := nI_of q
    rw [hM.2.1.1]
    by_cases q2 : nI (Tn T) ≤ nI j
    · rw [if_pos q2]
    · rw [nI_leI (by omega) hj] at q2
      exact absurd ⟨j, by omega, rfl⟩ hx
/-- both throw -/
theorem R_thr {cd : Nat → Int32} {fL : Option ((Int32 ⊕ Nat) × StL × Nat × Nat)} {fM : Option (Int32 × StM)} (h : RW C g T d) (e : Nat) (h1 : k_pc fL (fun q => q.1 = .inr e ∧ RL q.2.1 C g T d)) (h2 : k_pc fM (fun q => M_code q.2 = cd e ∧ RM q.2 C g T d)) : RQ cd d fL fM := ⟨.inr e, C, g, T, h, h1, h2⟩
theorem R_ans {cd : Nat → Int32} {fL : Option ((Int32 ⊕ Nat) × StL × Nat × Nat)} {fM : Option (Int32 × StM)} (h : RW C g T d) (v : Int32) (h1 : k_pc fL (fun q => q.1 = .inl v ∧ RL q.2.1 C g T d)) (h2 : k_pc fM (fun q => (M_code q.2 = 0 ∧ q.1 = v) ∧ RM q.2 C g T d)) : RQ cd d fL fM := ⟨.inl v, C, g, T, h, h1, h2⟩
theorem R_told (h : RW C g T d) (hL : RL σ C g T d) (hM : RM μ C g T d) (x1 : Int32) : RQ (fun _ => 1) d (f_L_told σ x1) (f_M_told μ x1) := by
  have hn := RW_not h
  obtain ⟨u, us, t1, _⟩ := hL.1.2
  have good : ∀ {v : Int32}, ¬ x1 < 0 → x1 ≤ 3 → k_pc (f_M_told_15 μ x1 0) (fun q => (M_code q.2 = 0 ∧ q.1 = v) ∧ RM q.2 C g T d) → k_pc (f_M_told μ x1) (fun q => (M_code q.2 = 0 ∧ q.1 = v) ∧ RM q.2 C g T d) := by
    intro v w1 w2 k
    unfold f_M_told
    rw [if_neg w1, if_pos w2]
    exact k
  have c15 : ∀ {v : Int32}, k_pc (if x1 = 0 then some (M_classes (M_set_code μ 0), M_set_code μ 0) else if x1 = 1 then some (M_generics (M_set_code μ 0), M_set_code μ 0) else if x1 = 2 then some (M_types (M_set_code μ 0), M_set_code μ 0) else some (M_depth (M_set_code μ 0), M_set_code μ 0)) (fun q => (M_code q.2 = 0 ∧ q.1 = v) ∧ RM q.2 C g T d) → k_pc (f_M_told_15 μ x1 0) (fun q => (M_code q.2 = 0 ∧ q.1 = v) ∧ RM q.2 C g T d) := by
    intro v k
    unfold f_M_told_15
    refine p_good (fun _ => ?_) (fun q => absurd rfl q)
    exact p_if (fun q => absurd q k_10) (fun _ => k)
  by_cases x0 : x1 = 0
  · subst x0
    refine R_ans h (nI (Wn C)) ?_ (good (by decide) (by decide) (c15 ?_))
    · unfold f_L_told
      rw [if_pos rfl]
      exact p_some ⟨congrArg Sum.inl hL.1.1.1, hL⟩
    · rw [if_pos rfl]
      exact p_some ⟨⟨rfl, hM.1.1⟩, hM⟩
  by_cases x1' : x1 = 1
  · subst x1'
    refine R_ans h (nI g) ?_ (good (by decide) (by decide) (c15 ?_))
    · unfold f_L_told
      rw [if_neg (by decide), if_pos rfl]
      exact p_some ⟨congrArg Sum.inl hL.1.1.2.1, hL⟩
    · rw [if_neg (by decide), if_pos rfl]
      exact p_some ⟨⟨rfl, hM.1.2.1⟩, hM⟩
  by_cases x2' : x1 = 2
  · subst x2'
    refine R_ans h (nI (Tn T)) ?_ (good (by decide) (by decide) (c15 ?_))
    · unfold f_L_told
      rw [if_neg (by decide), if_neg (by decide), if_pos rfl]
      exact p_some ⟨congrArg Sum.inl t1, hL⟩
    · rw [if_neg (by decide), if_neg (by decide), if_pos rfl]
      exact p_some ⟨⟨rfl, hM.2.1.1⟩, hM⟩
  by_cases x3' : x1 = 3
  · subst x3'
    refine R_ans h (nI d) ?_ (good (by decide) (by decide) (c15 ?_))
    · unfold f_L_told
      rw [if_neg (by decide), if_neg (by decide), if_neg (by decide), if_pos rfl]
      exact p_some ⟨congrArg Sum.inl hL.2.2, hL⟩
    · rw [if_neg (by decide), if_neg (by decide), if_neg (by decide)]
      exact p_some ⟨⟨rfl, hM.2.2.2.2⟩, hM⟩
  have bad : k_pc (f_M_told_10 μ x1) (fun q => M_code q.2 = 1 ∧ RM q.2 C g T d) := by
    unfold f_M_told_10 f_M_told_15
    refine p_good (fun q => absurd q (by decide)) (fun _ => ?_)
    exact p_if (fun _ => p_some ⟨rfl, hM⟩) (fun q => absurd rfl q)
  refine R_thr h 3 ?_ ?_
  · unfold f_L_told
    rw [if_neg x0, if_neg x1', if_neg x2', if_neg x3']
    exact p_some ⟨rfl, hL⟩
  · unfold f_M_told
    refine p_if (fun _ => bad) (fun w => p_if (fun w2 => ?_) (fun _ => bad))
    exfalso
    obtain ⟨j, hj, rfl⟩ := nI_of w
    have w3 : nI j ≤ nI 3 := w2
    rw [nI_leI hj (by decide)] at w3
    rcases (show j = 0 ∨ j = 1 ∨ j = 2 ∨ j = 3 by omega) with e | e | e | e
    · subst e; exact x0 rfl
    · subst e; exact x1' rfl
    · subst e; exact x2' rfl
    · subst e; exact x3' rfl
theorem R_isUnder (h : RW C g T d) (hL : RL σ C g T d) (hM : RM μ C g T d) (x1 x2 : Int32) : RQ (fun _ => 1) d (f_L_isUnder σ x1 x2) (f_M_isUnder μ x1 x2) := by
  have hn := RW_not h
  have bad : k_pc (f_M_isUnder_21 μ x1 x2) (fun q => M_code q.2 = 1 ∧ RM q.2 C g T d) := by
    unfold f_M_isUnder_21 f_M_isUnder_22
    refine p_good (fun q => absurd q (by decide)) (fun _ => ?_)
    exact p_if (fun _ => p_some ⟨rfl, hM⟩) (fun q => absurd rfl q)
  by_cases h1 : ∃ j, j < Wn C ∧ x1 = nI j
  · obtain ⟨i, hi, rfl⟩ := h1
    by_cases h2 : ∃ j, j < Wn C ∧ x2 = nI j
    · obtain ⟨j, hj, rfl⟩ := h2
      refine R_ans h (b2 (Wu C i j)) ?_ ?_
      · unfold f_L_isUnder
        refine p_rc (fun z => absurd z (rC_there h.1.1 hL.1.1 hi)) (fun _ => p_ad ?_)
        refine p_rc (fun z => absurd z (rC_there h.1.1 hL.1.1 hj)) (fun _ => p_ad ?_)
        show k_pc ((f_C_aboveOf (L_classes σ) (nI i)).bind _) _
        rw [r_C_aboveOf h.1.1 hL.1.1 hi]
        refine p_some ⟨?_, hL⟩
        show Sum.inl (f_L_has (C_above (L_classes σ) i) (nI j) &&& 1) = _
        rw [k_has _ (show j < 32 by omega), (hL.1.1.2.2.1 i hi).2.2.2.2 j (by omega)]
        cases Wu C i j <;> rfl
      · unfold f_M_isUnder
        rw [if_neg (R_isClass h hM hi), if_neg (R_isClass h hM hj)]
        unfold f_M_isUnder_22
        refine p_good (fun _ => ?_) (fun q => absurd rfl q)
        refine p_if (fun q => absurd q k_10) (fun _ => ?_)
        show k_pc ((f_M_under (M_set_code μ 0) (nI i) (nI j)).bind _) _
        rw [s_M_under (σ := M_set_code μ 0) (by omega) (by omega)]
        show k_pc (if (if bt (M_over μ i) j = true then (1 : Int32) else 0) = 0 then some ((0 : Int32), M_set_code μ 0) else some ((1 : Int32), M_set_code μ 0)) _
        rw [(hM.1.2.2 i hi).2.2.2.2 j (by omega)]
        cases Wu C i j with
        | true =>
          exact p_if (fun q => absurd q k_10) (fun _ => p_some ⟨⟨rfl, rfl⟩, hM⟩)
        | false =>
          exact p_if (fun _ => p_some ⟨⟨rfl, rfl⟩, hM⟩) (fun q => absurd rfl q)
    · refine R_thr h 1 ?_ ?_
      · unfold f_L_isUnder
        refine p_rc (fun z => absurd z (rC_there h.1.1 hL.1.1 hi)) (fun _ => p_ad ?_)
        exact p_rc (fun _ => p_ad (p_some ⟨rfl, hL⟩)) (fun z => absurd (rC_not h.1.1 hL.1.1 h2) z)
      · unfold f_M_isUnder
        rw [if_neg (R_isClass h hM hi), if_pos (R_noClass h hM h2)]
        exact bad
  · refine R_thr h 1 ?_ ?_
    · unfold f_L_isUnder
      exact p_rc (fun _ => p_ad (p_some ⟨rfl, hL⟩)) (fun z => absurd (rC_not h.1.1 hL.1.1 h1) z)
    · unfold f_M_isUnder
      rw [if_pos (R_noClass h hM h1)]
      exact bad
theorem R_box (h : RW C g T d) (hL : RL σ C g T d) (hM : RM μ C g T d) (x1 : Int32) : RQ (fun e => if e = 1 then 1 else 2) d (f_L_box σ x1) (f_M_box μ x1) := by
  have hn := RW_not h
  by_cases h1 : ∃ j, j < Tn T ∧ x1 = nI j
  · obtain ⟨i, hi, rfl⟩ := h1
    refine R_ans h (nI (kBox i)) ?_ ?_
    · unfold f_L_box
      refine p_rt (fun z => absurd z (rT_there h.1.2 hL.1.2 hi)) (fun _ => p_ad ?_)
      show k_pc ((f_T_kindOf (L_types σ) (nI i)).bind _) _
      rw [r_T_kindOf h.1.2 hL.1.2 hi]
      show k_pc (if nI (dK (Ty T i)) = 0 then _ else _) _
      have kl := wK_lt h.1.2 hi
      refine p_if (fun z => p_some ⟨?_, hL⟩) (fun z => p_some ⟨?_, hL⟩)
      · have z2 : nI (dK (Ty T i)) = nI 0 := z
        rw [nI_eq (by omega) (by decide)] at z2
        show Sum.inl (f_L_boxTypeOf (nI i)) = _
        rcases wT_kind h.1.2 hi with ⟨_, w⟩ | ⟨_, w⟩
        · unfold f_L_boxTypeOf kBox
          rw [if_pos w]
          show Sum.inl (nI 8 + nI i) = _
          rw [nI_add, Nat.add_comm]
        · omega
      · have z2 : ¬ nI (dK (Ty T i)) = nI 0 := z
        rw [nI_eq (by omega) (by decide)] at z2
        show Sum.inl (nI i) = _
        rcases wT_kind h.1.2 hi with ⟨w, _⟩ | ⟨w, _⟩
        · exact absurd w z2
        · rw [kBox_id w]
    · unfold f_M_box
      rw [if_neg (R_isType h hM hi)]
      unfold f_M_box_14
      refine p_good (fun _ => ?_) (fun q => absurd rfl q)
      refine p_if (fun q => absurd q k_10) (fun _ => ?_)
      refine p_if (fun z => p_some ⟨⟨rfl, ?_⟩, hM⟩) (fun z => p_some ⟨⟨rfl, ?_⟩, hM⟩)
      · have z2 : nI 8 ≤ nI i := z
        rw [nI_leI (by decide) (by omega)] at z2
        rw [kBox_id z2]
      · have z2 : ¬ nI 8 ≤ nI i := z
        rw [nI_leI (by decide) (by omega)] at z2
        show nI i + nI 8 = _
        rw [nI_add, show kBox i = i + 8 from if_pos (by omega)]
  · refine R_thr h 1 ?_ ?_
    · unfold f_L_box
      exact p_rt (fun _ => p_ad (p_some ⟨rfl, hL⟩)) (fun z => absurd (rT_not h.1.2 hL.1.2 h1) z)
    · unfold f_M_box
      rw [if_pos (R_noType h hM h1)]
      unfold f_M_box_14
      refine p_good (fun q => absurd q (by decide)) (fun _ => ?_)
      exact p_if (fun _ => p_some ⟨rfl, hM⟩) (fun q => absurd rfl q)
end
