/-! Tier 3: an INTERSECTION's row, in the order of its classes: there is one such list alone. -/
theorem vUniq (κ : Nat → Nat) : ∀ (l m : List Nat), l.Pairwise (fun a b => κ a < κ b) → m.Pairwise (fun a b => κ a < κ b) → (∀ x, x ∈ l ↔ x ∈ m) → l = m := by
  intro l
  induction l with
  | nil =>
    intro m _ _ h
    cases m with
    | nil => rfl
    | cons b m => exact absurd ((h b).mpr (by simp)) (by simp)
  | cons a l ih =>
    intro m hl hm h
    cases m with
    | nil => exact absurd ((h a).mp (by simp)) (by simp)
    | cons b m =>
      have hl1 := (List.pairwise_cons.mp hl)
      have hm1 := (List.pairwise_cons.mp hm)
      have ab : a = b := by
        rcases List.mem_cons.mp ((h a).mp (by simp)) with e | e
        · exact e
        · rcases List.mem_cons.mp ((h b).mpr (by simp)) with e2 | e2
          · exact e2.symm
          · have := hm1.1 a e
            have := hl1.1 b e2
            omega
      subst ab
      have : l = m := by
        refine ih m hl1.2 hm1.2 (fun x => ⟨fun hx => ?_, fun hx => ?_⟩)
        · rcases List.mem_cons.mp ((h x).mp (by simp [hx])) with e | e
          · subst e; have := hl1.1 x hx; omega
          · exact e
        · rcases List.mem_cons.mp ((h x).mpr (by simp [hx])) with e | e
          · subst e; have := hm1.1 x hx; omega
          · exact e
      rw [this]
/-- l is m, in the order of the classes -/
def wSo (T : wWt) (l m : List Nat) : Prop := l.Pairwise (fun a b => dX (Ty T a) < dX (Ty T b)) ∧ ∀ x, x ∈ l ↔ x ∈ m
theorem wSo_uniq {T : wWt} {l l' m : List Nat} (h : wSo T l m) (h' : wSo T l' m) : l = l' := vUniq (fun p => dX (Ty T p)) l l' h.1 h'.1 (fun x => (h.2 x).trans (h'.2 x).symm)
section
variable {σ : StM} {C : wWc} {T : wWt} {g : Nat}
theorem r_M_addBoth_2 (h : wOK C T) (q : rMt σ T) (hf : M_full σ = 0) {m : List Nat} (hw : ∀ p, p ∈ m → p < Tn T ∧ dK (Ty T p) = 1) (hN : m.length ≤ 30) :
    ∀ (f i : Nat) (ρ : Nat → Int32) (v : Nat → Nat), i ≤ m.length + 1 → vRw ρ m.length v → vPm m.length v (fun j => m.getD j 0) → vDs (fun p => dX (Ty T p)) m.length v → vSr (fun p => dX (Ty T p)) (min i m.length) v → k_pc (f_M_addBoth_2 f (M_set_row σ ρ) (nI m.length) (nI i)) (fun r => ∃ l, wSo T l m ∧ l.length = m.length ∧ rMw (wAdd T (3, 0, 0, l) (1 + wSum T l)) r) := by
  have hn := h.2.2.1
  have hw' : ∀ j, j < m.length → m.getD j 0 < Tn T ∧ dK (Ty T (m.getD j 0)) = 1 := by
    intro j hj
    have : m.getD j 0 = m[j] := by simp [List.getD, hj]
    rw [this]; exact hw _ (List.getElem_mem hj)
  intro f
  induction f with
  | zero => intro i ρ v _ _ _ _ _; exact p_none
  | succ f ih =>
    intro i ρ v h1 h2 h3 h4 h5
    rw [f_M_addBoth_2]
    unfold f_M_addBoth_2_s
    refine p_if (fun z => ?_) (fun z => ?_)
    · rw [nI_leI (by omega) (by omega)] at z
      rw [show min i m.length = m.length by omega] at h5
      have hl : ((List.range m.length).map v).length = m.length := by simp
      have hg : ∀ k (hk : k < ((List.range m.length).map v).length), ((List.range m.length).map v)[k] = v k := by
        intro k hk; simp
      have mem : ∀ x, x ∈ (List.range m.length).map v ↔ x ∈ m := by
        intro x
        have e := h3 x
        constructor
        · intro hx
          obtain ⟨j, j1, j2⟩ := List.mem_map.mp hx
          obtain ⟨k, k1, k2⟩ := e.mp ⟨j, List.mem_range.mp j1, j2⟩
          have : m.getD k 0 = m[k] := by simp [List.getD, k1]
          replace k2 : m.getD k 0 = x := k2
          rw [← k2, this]; exact List.getElem_mem k1
        · intro hx
          obtain ⟨k, k1, k2⟩ := List.mem_iff_getElem.mp hx
          obtain ⟨j, j1, j2⟩ := e.mpr ⟨k, k1, by show m.getD k 0 = x; rw [← k2]; simp [List.getD, k1]⟩
          exact List.mem_map.mpr ⟨j, List.mem_range.mpr j1, j2⟩
      have base := r_M_addBoth_88 (σ := M_set_row σ ρ) (l := (List.range m.length).map v) h q hf (by omega) (fun k hk => ?_) (fun p hp => (hw p ((mem p).mp hp)).1) 1000 0 (by omega)
      · rw [hl] at base
        refine p_mono base (fun r hr => ⟨_, ⟨?_, mem⟩, hl, hr⟩)
        rw [List.pairwise_iff_getElem]
        intro a b ha hb ab
        rw [hg a ha, hg b hb]
        exact h5 a b ab (by omega)
      · show ρ k = _
        rw [hg k hk]; exact h2 k (by omega)
    · rw [nI_leI (by omega) (by omega)] at z
      rw [show min i m.length = i by omega] at h5
      refine r_M_addBoth_9 h q hw' (by omega) (by omega) _ (fun ρ' v' a1 a2 a3 a4 => ?_) 1000 i ρ v (by omega) h2 h3 h4 (fun a b ab hb ai bi => ?_) (fun b ib hb => by omega)
      · rw [nI_1]
        refine ih (i + 1) ρ' v' (by omega) a1 a2 a3 ?_
        rw [show min (i + 1) m.length = i + 1 by omega]; exact a4
      · exact h5 a b ab (by omega)
theorem r_M_addBoth (h : wOK C T) (q : rMt σ T) (hf : M_full σ = 0) {m : List Nat} (hw : ∀ p, p ∈ m → p < Tn T ∧ dK (Ty T p) = 1) (hN : m.length ≤ 30) (hr : ∀ k (hk : k < m.length), M_row σ k = nI m[k]) (hd : ∀ j k (hj : j < m.length) (hk : k < m.length), dX (Ty T m[j]) = dX (Ty T m[k]) → j = k) :
    k_pc (f_M_addBoth σ (nI m.length)) (fun r => ∃ l, wSo T l m ∧ l.length = m.length ∧ rMw (wAdd T (3, 0, 0, l) (1 + wSum T l)) r) := by
  unfold f_M_addBoth
  have hg : ∀ k (hk : k < m.length), m.getD k 0 = m[k] := by
    intro k hk; simp [List.getD, hk]
  refine r_M_addBoth_2 h q hf hw hN 1000 1 (M_row σ) (fun j => m.getD j 0) (by omega) (fun j hj => ?_) (fun x => Iff.rfl) (fun a b ha hb e => ?_) (fun a b ab hb => by omega)
  · show M_row σ j = nI (m.getD j 0)
    rw [hr j hj, hg j hj]
  · replace e : dX (Ty T (m.getD a 0)) = dX (Ty T (m.getD b 0)) := e
    rw [hg a ha, hg b hb] at e
    exact hd a b ha hb e
end
