/-! Tier 3: LOWER of the reference: the PARTS that stay. -/
section
variable {σ : StM} {C : wWc} {T : wWt} {g : Nat}
theorem r_M_partOf (h : wOK C T) (q : rMt σ T) {a b i : Nat} (ha : a < Tn T) (hb : b < Tn T) (hi : i < (wPs T a ++ wPs T b).length) : k_pc (f_M_partOf σ (nI a) (nI b) (nI i)) (fun v => v = nI ((wPs T a ++ wPs T b).getD i 0)) := by
  have hn := h.2.2.1
  have pa : (wPs T a).length ≤ 30 := by rw [wPs_len h.2 ha]; exact wPc_le h.2 ha
  have pb : (wPs T b).length ≤ 30 := by rw [wPs_len h.2 hb]; exact wPc_le h.2 hb
  rw [List.length_append] at hi
  unfold f_M_partOf
  rw [nI_clamp (show a < 2 ^ 31 by omega), (q.2 a ha).2.2.2.2.2.1, ← wPs_len h.2 ha]
  refine p_guard (fun _ => p_if (fun z => p_guard (fun _ => p_guard (fun _ => p_some ?_))) (fun z => p_guard (fun _ => p_some ?_)))
  · rw [nI_leI (by omega) (by omega)] at z
    have e : 30 * nI b + nI i - nI (wPs T a).length = nI (30 * b + (i - (wPs T a).length)) := by
      rw [k_30ix, k_sub (by omega)]; congr 1; omega
    rw [e, nI_clamp (by omega), (q.2 b hb).2.2.2.2.2.2 _ (by omega), getD_app2 z, getD_is (by omega)]
  · rw [nI_leI (by omega) (by omega)] at z
    have cl : (30 * nI a + nI i).toNatClampNeg = 30 * a + i := by rw [k_30ix]; exact nI_clamp (by omega)
    rw [cl, (q.2 a ha).2.2.2.2.2.2 _ (by omega), getD_app1 (by omega), getD_is (by omega)]
theorem r_M_l147 (h : wOK C T) (q : rMt σ T) (ht : ∀ x p, x < Tn T → p < Tn T → tB (M_below σ) C T x p) {a b : Nat} (ha : a < Tn T) (hb : b < Tn T) {l : List Nat} (el : l = wPs T a ++ wPs T b) {i : Nat} (hi : i < l.length) {ρ : Nat → Int32} (hρ : vFn ρ (wKl C T l i)) (k125 : StM → Int32 → Int32 → Int32 → Int32 → Int32 → Option (Int32 × StM)) {Q : Int32 × StM → Prop}
    (hk : ∀ ρ', vFn ρ' (wKl C T l (i + 1)) → k_pc (k125 (M_set_row σ ρ') (nI a) (nI b) (nI l.length) (nI (wKl C T l (i + 1)).length) (nI i + 1)) Q) :
    ∀ (f j : Nat) (x7 : Int32), j ≤ l.length → ((x7 = 0 ∧ ¬ wKp C T l i) ∨ (x7 = 1 ∧ ∀ j', j' < j → (l.getD j' 0 = l.getD i 0 → ¬ j' < i) ∧ (l.getD j' 0 ≠ l.getD i 0 → ¬ wB C T (l.getD j' 0) (l.getD i 0)))) → k_pc (f_M_lower_147 k125 f (M_set_row σ ρ) (nI a) (nI b) (nI l.length) (nI (wKl C T l i).length) (nI i) (nI (l.getD i 0)) x7 (nI j)) Q := by
  have hn := h.2.2.1
  have pa : (wPs T a).length ≤ 30 := by rw [wPs_len h.2 ha]; exact wPc_le h.2 ha
  have pb : (wPs T b).length ≤ 30 := by rw [wPs_len h.2 hb]; exact wPc_le h.2 hb
  have hN : l.length ≤ 60 := by rw [el, List.length_append]; omega
  have kl := wKl_len (C := C) (T := T) (l := l) i
  have inn : ∀ k, k < l.length → l.getD k 0 < Tn T := by
    intro k hk
    have := getD_mem hk
    rw [el] at this
    rw [el]
    rcases List.mem_append.mp this with w | w
    · exact (wPs_ok h.2 ha w).2.1
    · exact (wPs_ok h.2 hb w).2.1
  have pi := inn i hi
  intro f
  induction f with
  | zero => intro j x7 _ _; exact p_none
  | succ f ih =>
    intro j x7 hj hx
    rw [f_M_lower_147]
    unfold f_M_lower_147_s
    refine p_if (fun z => ?_) (fun z => ?_)
    · rw [nI_leI (by omega) (by omega)] at z
      rcases hx with ⟨e, w⟩ | ⟨e, w⟩
      · subst e
        refine p_if (fun _ => ?_) (fun y => absurd rfl y)
        have := hk ρ (by rw [wKl_no w]; exact hρ)
        rw [wKl_no w] at this
        exact this
      · subst e
        have kp : wKp C T l i := fun j' hj' => w j' (by omega)
        refine p_if (fun y => absurd y k_10) (fun _ => p_guard (fun _ => ?_))
        have e : nI (wKl C T l i).length + 1 = nI (wKl C T l (i + 1)).length := by
          rw [nI_1, wKl_ye kp, List.length_append]; rfl
        rw [e]
        refine hk (upd ρ (nI (wKl C T l i).length).toNatClampNeg (nI (l.getD i 0))) ?_
        rw [wKl_ye kp, nI_clamp (show (wKl C T l i).length < 2 ^ 31 by omega)]
        exact vFn_add hρ
    · rw [nI_leI (by omega) (by omega)] at z
      have hj' : j < l.length := by omega
      have pj := inn j hj'
      refine p_bind (r_M_partOf (σ := M_set_row σ ρ) h q ha hb (i := j) (by rw [← el]; exact hj')) ?_
      intro r6 e6
      rw [← el] at e6
      subst e6
      rw [nI_1]
      rcases hx with ⟨e, w⟩ | ⟨e, w⟩
      · subst e
        exact p_if (fun _ => ih (j + 1) 0 (by omega) (Or.inl ⟨rfl, w⟩)) (fun y => absurd rfl y)
      · subst e
        have yes : ((l.getD j 0 = l.getD i 0 → ¬ j < i) ∧ (l.getD j 0 ≠ l.getD i 0 → ¬ wB C T (l.getD j 0) (l.getD i 0))) → k_pc (f_M_lower_147 k125 f (M_set_row σ ρ) (nI a) (nI b) (nI l.length) (nI (wKl C T l i).length) (nI i) (nI (l.getD i 0)) 1 (nI (j + 1))) Q := by
          intro c
          refine ih (j + 1) 1 (by omega) (Or.inr ⟨rfl, fun j' hj'' => ?_⟩)
          by_cases e : j' = j
          · rw [e]; exact c
          · exact w j' (by omega)
        have no : ¬ ((l.getD j 0 = l.getD i 0 → ¬ j < i) ∧ (l.getD j 0 ≠ l.getD i 0 → ¬ wB C T (l.getD j 0) (l.getD i 0))) → k_pc (f_M_lower_147 k125 f (M_set_row σ ρ) (nI a) (nI b) (nI l.length) (nI (wKl C T l i).length) (nI i) (nI (l.getD i 0)) 0 (nI (j + 1))) Q := by
          intro c
          exact ih (j + 1) 0 (by omega) (Or.inl ⟨rfl, fun kp => c (kp j hj')⟩)
        have k213 : ((l.getD j 0 = l.getD i 0 → ¬ j < i) ∧ (l.getD j 0 ≠ l.getD i 0 → ¬ wB C T (l.getD j 0) (l.getD i 0))) → k_pc (f_M_lower_213 k125 (f_M_lower_147 k125 f) (M_set_row σ ρ) (nI a) (nI b) (nI l.length) (nI (wKl C T l i).length) (nI i) (nI (l.getD i 0)) (nI j)) Q := by
          intro c
          unfold f_M_lower_213
          rw [nI_1]; exact yes c
        have k189 : ¬ (l.getD j 0 = l.getD i 0 ∧ i ≤ j) → k_pc (f_M_lower_189 k125 (f_M_lower_147 k125 f) (M_set_row σ ρ) (nI a) (nI b) (nI l.length) (nI (wKl C T l i).length) (nI i) (nI (l.getD i 0)) (nI j) (nI (l.getD j 0))) Q := by
          intro c
          unfold f_M_lower_189
          have c3 : (300 * nI (l.getD j 0) + nI (l.getD i 0)).toNatClampNeg = 300 * l.getD j 0 + l.getD i 0 := by rw [k_300ix]; exact nI_clamp (by omega)
          rw [nI_1, c3]
          refine p_if (fun y => no (fun u => ?_)) (fun y => p_guard (fun _ => p_if (fun v => ?_) (fun v => no (fun u => ?_))))
          · rw [nI_eq (by omega) (by omega)] at y
            exact u.1 y.symm (by
              by_cases e : j < i
              · exact e
              · exact absurd ⟨y.symm, by omega⟩ c)
          · rw [nI_eq (by omega) (by omega)] at y
            exact k213 ⟨fun u => absurd u.symm y, fun _ => tB_no (ht _ _ pj pi) v⟩
          · rw [nI_eq (by omega) (by omega)] at y
            exact u.2 (fun e => y e.symm) (tB_ye (ht _ _ pj pi) v)
        refine p_if (fun y => absurd y k_10) (fun _ => p_if (fun y => ?_) (fun y => ?_))
        · rw [nI_eq (by omega) (by omega)] at y
          subst y
          exact k213 ⟨fun _ => by omega, fun u => absurd rfl u⟩
        · rw [nI_eq (by omega) (by omega)] at y
          refine p_if (fun u => ?_) (fun u => ?_)
          · rw [nI_eq (by omega) (by omega)] at u
            refine p_if (fun v => ?_) (fun v => ?_)
            · rw [nI_ltI (by omega) (by omega)] at v
              exact k213 ⟨fun _ => by omega, fun e => absurd u.symm e⟩
            · rw [nI_ltI (by omega) (by omega)] at v
              exact k189 (fun c => by omega)
          · rw [nI_eq (by omega) (by omega)] at u
            exact k189 (fun c => u c.1.symm)
theorem r_M_l125 (h : wOK C T) (q : rMt σ T) (ht : ∀ x p, x < Tn T → p < Tn T → tB (M_below σ) C T x p) {a b : Nat} (ha : a < Tn T) (hb : b < Tn T) {l : List Nat} (el : l = wPs T a ++ wPs T b) {Q : Int32 × StM → Prop}
    (hk : ∀ ρ', vFn ρ' (wKl C T l l.length) → k_pc (f_M_lower_252 1000 (M_set_row σ ρ') (nI (wKl C T l l.length).length) 0) Q) :
    ∀ (f i : Nat) (ρ : Nat → Int32), i ≤ l.length → vFn ρ (wKl C T l i) → k_pc (f_M_lower_125 f (M_set_row σ ρ) (nI a) (nI b) (nI l.length) (nI (wKl C T l i).length) (nI i)) Q := by
  have pa : (wPs T a).length ≤ 30 := by rw [wPs_len h.2 ha]; exact wPc_le h.2 ha
  have pb : (wPs T b).length ≤ 30 := by rw [wPs_len h.2 hb]; exact wPc_le h.2 hb
  have hN : l.length ≤ 60 := by rw [el, List.length_append]; omega
  intro f
  induction f with
  | zero => intro i ρ _ _; exact p_none
  | succ f ih =>
    intro i ρ hi hρ
    rw [f_M_lower_125]
    unfold f_M_lower_125_s
    refine p_if (fun z => ?_) (fun z => ?_)
    · rw [nI_leI (by omega) (by omega)] at z
      have ei : i = l.length := by omega
      subst ei
      exact hk ρ hρ
    · rw [nI_leI (by omega) (by omega)] at z
      have hi' : i < l.length := by omega
      refine p_bind (r_M_partOf (σ := M_set_row σ ρ) h q ha hb (i := i) (by rw [← el]; exact hi')) ?_
      intro r5 e5
      rw [← el] at e5
      subst e5
      refine r_M_l147 h q ht ha hb el hi' hρ _ (fun ρ' hρ' => ?_) 1000 0 1 (by omega) (Or.inr ⟨rfl, fun j' hj => by omega⟩)
      rw [nI_1]
      exact ih (i + 1) ρ' (by omega) hρ'
end
