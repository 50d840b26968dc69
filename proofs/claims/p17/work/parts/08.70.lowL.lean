/-! Tier 3: THE LOWER BOUND: the PARTS that stay; the class gathers them. -/
def wKp (C : wWc) (T : wWt) (l : List Nat) (i : Nat) : Prop := ∀ j, j < l.length → (l.getD j 0 = l.getD i 0 → ¬ j < i) ∧ (l.getD j 0 ≠ l.getD i 0 → ¬ wB C T (l.getD j 0) (l.getD i 0))
noncomputable def wKl (C : wWc) (T : wWt) (l : List Nat) : Nat → List Nat
  | 0 => []
  | i + 1 => @ite _ (wKp C T l i) (Classical.propDecidable _) (wKl C T l i ++ [l.getD i 0]) (wKl C T l i)
theorem wKl_ye {C : wWc} {T : wWt} {l : List Nat} {i : Nat} (h : wKp C T l i) : wKl C T l (i + 1) = wKl C T l i ++ [l.getD i 0] := by
  rw [wKl, if_pos h]
theorem wKl_no {C : wWc} {T : wWt} {l : List Nat} {i : Nat} (h : ¬ wKp C T l i) : wKl C T l (i + 1) = wKl C T l i := by
  rw [wKl, if_neg h]
theorem wKl_len {C : wWc} {T : wWt} {l : List Nat} : ∀ i, (wKl C T l i).length ≤ i := by
  intro i
  induction i with
  | zero => exact Nat.le_refl 0
  | succ i ih =>
    by_cases h : wKp C T l i
    · rw [wKl_ye h, List.length_append]; show (wKl C T l i).length + 1 ≤ i + 1; omega
    · rw [wKl_no h]; omega
theorem wKl_mem {C : wWc} {T : wWt} {l : List Nat} : ∀ i x, x ∈ wKl C T l i ↔ ∃ j, j < i ∧ wKp C T l j ∧ x = l.getD j 0 := by
  intro i
  induction i with
  | zero => intro x; exact ⟨fun h => absurd h (by simp [wKl]), fun ⟨j, j1, _⟩ => by omega⟩
  | succ i ih =>
    intro x
    by_cases h : wKp C T l i
    · rw [wKl_ye h, List.mem_append, ih x, List.mem_singleton]
      constructor
      · rintro (⟨j, j1, j2⟩ | e)
        · exact ⟨j, by omega, j2⟩
        · exact ⟨i, by omega, h, e⟩
      · rintro ⟨j, j1, j2, j3⟩
        by_cases e : j = i
        · subst e; exact Or.inr j3
        · exact Or.inl ⟨j, by omega, j2, j3⟩
    · rw [wKl_no h, ih x]
      constructor
      · rintro ⟨j, j1, j2⟩; exact ⟨j, by omega, j2⟩
      · rintro ⟨j, j1, j2, j3⟩
        by_cases e : j = i
        · subst e; exact absurd j2 h
        · exact ⟨j, by omega, j2, j3⟩
def vFn (ρ : Nat → Int32) (l : List Nat) : Prop := ∀ k, k < l.length → ρ k = nI (l.getD k 0)
theorem getD_app1 {l m : List Nat} {k : Nat} (h : k < l.length) : (l ++ m).getD k 0 = l.getD k 0 := by
  simp [List.getD, List.getElem?_append_left h]
theorem getD_app2 {l m : List Nat} {k : Nat} (h : l.length ≤ k) : (l ++ m).getD k 0 = m.getD (k - l.length) 0 := by
  simp [List.getD, List.getElem?_append_right h]
theorem getD_is {l : List Nat} {k : Nat} (h : k < l.length) : l.getD k 0 = l[k] := by simp [List.getD, h]
theorem vFn_add {ρ : Nat → Int32} {l : List Nat} {p : Nat} (h : vFn ρ l) : vFn (upd ρ l.length (nI p)) (l ++ [p]) := by
  intro k hk
  rw [List.length_append] at hk
  replace hk : k < l.length + 1 := hk
  by_cases e : k = l.length
  · rw [e, k_upds, getD_app2 (Nat.le_refl _)]; simp
  · rw [k_updn e, getD_app1 (by omega)]; exact h k (by omega)
section
variable {σ : StL} {C : wWc} {T0 T : wWt} {g : Nat}
theorem r_L_g75 (h : wOK C T) {b : Nat} (hb : b < Tn T) {l : List Nat} (hl : l.length ≤ 30) : ∀ (f k : Nat) (G : Nat → Int32) (σ : StL), rL σ C g T0 T → k ≤ (wPs T b).length → vFn G (l ++ (wPs T b).take k) → k_pc (f_L_gatherParts_75 f (L_set_gathered σ G) (nI b) (nI l.length) (nI (wPs T b).length) (nI k)) (fun q => q.1 = nI (l ++ wPs T b).length ∧ ∃ G', q.2 = L_set_gathered σ G' ∧ vFn G' (l ++ wPs T b)) := by
  have hn := h.2.2.1
  have p30 : (wPs T b).length ≤ 30 := by rw [wPs_len h.2 hb]; exact wPc_le h.2 hb
  intro f
  induction f with
  | zero => intro k G σ _ _ _; exact p_none
  | succ f ih =>
    intro k G σ r hk hG
    rw [f_L_gatherParts_75]
    unfold f_L_gatherParts_75_s
    refine p_if (fun z => p_some ⟨?_, G, rfl, ?_⟩) (fun z => ?_)
    · show nI l.length + nI (wPs T b).length = _
      rw [nI_add, List.length_append]
    · rw [nI_leI (by omega) (by omega)] at z
      rw [show k = (wPs T b).length by omega, List.take_length] at hG
      exact hG
    · rw [nI_leI (by omega) (by omega)] at z
      have hk' : k < (wPs T b).length := by omega
      rw [show f_T_partOf (L_types (L_set_gathered σ G)) (nI b) (nI k) = some (nI (wPs T b)[k]) from r_T_partOf h.2 r.2 hb hk']
      show k_pc (if _ then none else f_L_gatherParts_75 f (L_put_gathered (L_set_gathered σ G) (nI l.length + nI k) (nI (wPs T b)[k])) (nI b) (nI l.length) (nI (wPs T b).length) (nI k + 1)) _
      have cl : (nI l.length + nI k).toNatClampNeg = l.length + k := by rw [nI_add]; exact nI_clamp (by omega)
      have e : L_put_gathered (L_set_gathered σ G) (nI l.length + nI k) (nI (wPs T b)[k]) = L_set_gathered σ (upd G (l.length + k) (nI (wPs T b)[k])) := by
        show L_set_gathered σ (upd G (nI l.length + nI k).toNatClampNeg (nI (wPs T b)[k])) = _
        rw [cl]
      rw [e, nI_1]
      refine p_guard (fun _ => ih (k + 1) _ σ r (by omega) ?_)
      have e2 : l ++ (wPs T b).take (k + 1) = (l ++ (wPs T b).take k) ++ [(wPs T b)[k]] := by
        rw [List.append_assoc, ← List.take_append_getElem hk']
      have e3 : (l ++ (wPs T b).take k).length = l.length + k := by
        rw [List.length_append, List.length_take]; omega
      rw [e2, ← e3]
      exact vFn_add hG
theorem r_L_g43 (h : wOK C T) {a b : Nat} (ha : a < Tn T) (hb : b < Tn T) : ∀ (f k : Nat) (G : Nat → Int32) (σ : StL), rL σ C g T0 T → k ≤ (wPs T a).length → vFn G ((wPs T a).take k) → k_pc (f_L_gatherParts_43 f (L_set_gathered σ G) (nI a) (nI b) (nI (wPs T a).length) (nI (wPs T b).length) (nI k)) (fun q => q.1 = nI (wPs T a ++ wPs T b).length ∧ ∃ G', q.2 = L_set_gathered σ G' ∧ vFn G' (wPs T a ++ wPs T b)) := by
  have hn := h.2.2.1
  have p30 : (wPs T a).length ≤ 30 := by rw [wPs_len h.2 ha]; exact wPc_le h.2 ha
  intro f
  induction f with
  | zero => intro k G σ _ _ _; exact p_none
  | succ f ih =>
    intro k G σ r hk hG
    rw [f_L_gatherParts_43]
    unfold f_L_gatherParts_43_s
    refine p_if (fun z => ?_) (fun z => ?_)
    · rw [nI_leI (by omega) (by omega)] at z
      rw [show k = (wPs T a).length by omega, List.take_length] at hG
      exact r_L_g75 h hb p30 1000 0 G σ r (by omega) (by rw [List.take_zero, List.append_nil]; exact hG)
    · rw [nI_leI (by omega) (by omega)] at z
      have hk' : k < (wPs T a).length := by omega
      rw [show f_T_partOf (L_types (L_set_gathered σ G)) (nI a) (nI k) = some (nI (wPs T a)[k]) from r_T_partOf h.2 r.2 ha hk']
      show k_pc (if _ then none else f_L_gatherParts_43 f (L_put_gathered (L_set_gathered σ G) (nI k) (nI (wPs T a)[k])) (nI a) (nI b) (nI (wPs T a).length) (nI (wPs T b).length) (nI k + 1)) _
      have e : L_put_gathered (L_set_gathered σ G) (nI k) (nI (wPs T a)[k]) = L_set_gathered σ (upd G k (nI (wPs T a)[k])) := by
        show L_set_gathered σ (upd G (nI k).toNatClampNeg (nI (wPs T a)[k])) = _
        rw [nI_clamp (show k < 2 ^ 31 by omega)]
      rw [e, nI_1]
      refine p_guard (fun _ => ih (k + 1) _ σ r (by omega) ?_)
      have e2 : (wPs T a).take (k + 1) = (wPs T a).take k ++ [(wPs T a)[k]] := by
        rw [← List.take_append_getElem hk']
      have e3 : ((wPs T a).take k).length = k := by rw [List.length_take]; omega
      have := vFn_add (p := (wPs T a)[k]) hG
      rw [e3] at this
      rw [e2]; exact this
theorem r_L_gatherParts (h : wOK C T) (r : rL σ C g T0 T) {a b : Nat} (ha : a < Tn T) (hb : b < Tn T) : k_pc (f_L_gatherParts σ (nI a) (nI b)) (fun q => ((wPs T a = [] ∨ wPs T b = []) ∧ q = (0, σ)) ∨ (wPs T a ≠ [] ∧ wPs T b ≠ [] ∧ q.1 = nI (wPs T a ++ wPs T b).length ∧ ∃ G', q.2 = L_set_gathered σ G' ∧ vFn G' (wPs T a ++ wPs T b))) := by
  have pa : (wPs T a).length ≤ 30 := by rw [wPs_len h.2 ha]; exact wPc_le h.2 ha
  have pb : (wPs T b).length ≤ 30 := by rw [wPs_len h.2 hb]; exact wPc_le h.2 hb
  have mn : ∀ m, m ≤ 30 → (if nI m < 30 then nI m else (30 : Int32)) = nI m := by
    intro m hm
    by_cases e : nI m < 30
    · rw [if_pos e]
    · rw [if_neg e]
      have e2 : ¬ nI m < nI 30 := e
      rw [nI_ltI (by omega) (by decide)] at e2
      rw [show m = 30 by omega]; rfl
  unfold f_L_gatherParts
  rw [r_T_countParts h.2 r.2 ha, ← wPs_len h.2 ha]
  show k_pc ((f_T_countParts (L_types σ) (nI b)).bind _) _
  rw [r_T_countParts h.2 r.2 hb, ← wPs_len h.2 hb]
  show k_pc (if (if nI (wPs T a).length < 30 then nI (wPs T a).length else (30 : Int32)) = 0 then some (0, σ) else if (if nI (wPs T b).length < 30 then nI (wPs T b).length else (30 : Int32)) = 0 then some (0, σ) else f_L_gatherParts_43 1000 σ (nI a) (nI b) (if nI (wPs T a).length < 30 then nI (wPs T a).length else (30 : Int32)) (if nI (wPs T b).length < 30 then nI (wPs T b).length else (30 : Int32)) 0) _
  rw [mn _ pa, mn _ pb]
  have cmp : ∀ l : List Nat, l.length ≤ 30 → (nI l.length = 0 ↔ l = []) := by
    intro l hl
    have : nI l.length = nI 0 ↔ l.length = 0 := nI_eq (by omega) (by decide)
    exact this.trans List.length_eq_zero_iff
  refine p_if (fun z => p_some (Or.inl ⟨Or.inl ((cmp _ pa).mp z), rfl⟩)) (fun z => p_if (fun y => p_some (Or.inl ⟨Or.inr ((cmp _ pb).mp y), rfl⟩)) (fun y => ?_))
  refine p_mono (r_L_g43 h ha hb 1000 0 (L_gathered σ) σ r (by omega) (fun k hk => absurd hk (by simp))) (fun q hq => Or.inr ⟨fun e => z ((cmp _ pa).mpr e), fun e => y ((cmp _ pb).mpr e), hq⟩)
end
