/-! Tier 3: LOWER of the reference: may the PARTS stand together? -/
def wPr (C : wWc) (T : wWt) (m : List Nat) (k j : Nat) : Prop := dX (Ty T (m.getD k 0)) ≠ dX (Ty T (m.getD j 0)) ∧ (Wf C (dX (Ty T (m.getD k 0))) = true ∨ Wf C (dX (Ty T (m.getD j 0))) = true)
theorem wAl_pr {C : wWc} {T : wWt} {m : List Nat} : wAl C T m ↔ ∀ k j, j < k → k < m.length → wPr C T m k j := by
  rw [wAl_iff, List.pairwise_iff_getElem]
  constructor
  · intro h k j jk hk
    have := h j k (by omega) hk jk
    unfold wPr
    rw [getD_is hk, getD_is (show j < m.length by omega)]
    exact ⟨fun e => this.1 e.symm, this.2.symm⟩
  · intro h j k hj hk jk
    have := h k j jk hk
    unfold wPr at this
    rw [getD_is hk, getD_is hj] at this
    exact ⟨fun e => this.1 e.symm, this.2.symm⟩
section
variable {σ : StM} {C : wWc} {T : wWt} {g : Nat}
theorem r_M_l262 (h : wOK C T) (r : rMc σ C g) (q : rMt σ T) {m : List Nat} (hm : ∀ p, p ∈ m → p < Tn T ∧ dK (Ty T p) = 1) (hN : m.length ≤ 60) (hr : vFn (M_row σ) m) {i : Nat} (hi : i < m.length) (k252 : StM → Int32 → Int32 → Option (Int32 × StM)) {Q : Int32 × StM → Prop} (hno : ¬ wAl C T m → Q (-1, σ))
    (hk : (∀ j, j < i → wPr C T m i j) → k_pc (k252 σ (nI m.length) (nI i + 1)) Q) :
    ∀ (f j : Nat), j ≤ i → (∀ j', j' < j → wPr C T m i j') → k_pc (f_M_lower_262 k252 f σ (nI m.length) (nI i) (nI j)) Q := by
  have hn := h.2.2.1
  have hC := h.1.2.1
  have one : ∀ k, k < m.length → M_row σ k = nI (m.getD k 0) ∧ m.getD k 0 < Tn T ∧ M_classOf σ (m.getD k 0) = nI (dX (Ty T (m.getD k 0))) ∧ dX (Ty T (m.getD k 0)) < Wn C := by
    intro k hk
    obtain ⟨p1, p2⟩ := hm _ (getD_mem hk)
    exact ⟨hr k hk, p1, by rw [(q.2 _ p1).2.1, if_pos p2], (wT_named h.2 p1 p2).2.1⟩
  obtain ⟨i1, i2, i3, i4⟩ := one i hi
  intro f
  induction f with
  | zero => intro j _ _; exact p_none
  | succ f ih =>
    intro j hj hq
    rw [f_M_lower_262]
    unfold f_M_lower_262_s
    refine p_if (fun z => ?_) (fun z => ?_)
    · rw [nI_leI (by omega) (by omega)] at z
      exact hk (fun j' hj' => hq j' (by omega))
    · rw [nI_leI (by omega) (by omega)] at z
      obtain ⟨j1, j2, j3, j4⟩ := one j (by omega)
      have step : wPr C T m i j → k_pc (f_M_lower_262 k252 f σ (nI m.length) (nI i) (nI j + 1)) Q := by
        intro w
        rw [nI_1]
        refine ih (j + 1) (by omega) (fun j' hj' => ?_)
        by_cases e : j' = j
        · rw [e]; exact w
        · exact hq j' (by omega)
      have bad : ¬ wPr C T m i j → k_pc (some ((-1 : Int32), σ)) Q := fun w => p_some (hno (fun u => w (wAl_pr.mp u i j (by omega) hi)))
      rw [nI_clamp (show i < 2 ^ 31 by omega), nI_clamp (show j < 2 ^ 31 by omega), i1, j1, nI_clamp (show m.getD i 0 < 2 ^ 31 by omega), nI_clamp (show m.getD j 0 < 2 ^ 31 by omega), i3, j3, nI_clamp (show dX (Ty T (m.getD i 0)) < 2 ^ 31 by omega), nI_clamp (show dX (Ty T (m.getD j 0)) < 2 ^ 31 by omega), (r.2.2 _ i4).1, (r.2.2 _ j4).1]
      refine p_guard (fun _ => p_guard (fun _ => p_guard (fun _ => p_guard (fun _ => p_if (fun y => bad (fun u => ?_)) (fun y => p_guard (fun _ => p_if (fun w => p_guard (fun _ => p_if (fun v => bad (fun u => ?_)) (fun v => step ⟨?_, ?_⟩))) (fun w => step ⟨?_, ?_⟩)))))))
      · rw [nI_eq (by omega) (by omega)] at y
        exact u.1 y
      · rcases u.2 with e | e
        · rw [e] at w; exact absurd w (by decide)
        · rw [e] at v; exact absurd v (by decide)
      · rw [nI_eq (by omega) (by omega)] at y; exact y
      · cases e : Wf C (dX (Ty T (m.getD j 0))) with
        | true => exact Or.inr rfl
        | false => rw [e] at v; exact absurd rfl v
      · rw [nI_eq (by omega) (by omega)] at y; exact y
      · cases e : Wf C (dX (Ty T (m.getD i 0))) with
        | true => exact Or.inl rfl
        | false => rw [e] at w; exact absurd rfl w
theorem r_M_l252 (h : wOK C T) (r : rMc σ C g) (q : rMt σ T) {m : List Nat} (hm : ∀ p, p ∈ m → p < Tn T ∧ dK (Ty T p) = 1) (hN : m.length ≤ 60) (hr : vFn (M_row σ) m) {Q : Int32 × StM → Prop} (hno : ¬ wAl C T m → Q (-1, σ))
    (hye : wAl C T m → k_pc ((f_M_addBoth σ (nI m.length)).bind fun r3 => (f_M_end r3.2 (M_types σ) r3.1 2).bind fun r4 => some (r4.1, r4.2)) Q) :
    ∀ (f i : Nat), i ≤ m.length → (∀ k j, j < k → k < i → wPr C T m k j) → k_pc (f_M_lower_252 f σ (nI m.length) (nI i)) Q := by
  intro f
  induction f with
  | zero => intro i _ _; exact p_none
  | succ f ih =>
    intro i hi hq
    rw [f_M_lower_252]
    unfold f_M_lower_252_s
    refine p_if (fun z => ?_) (fun z => ?_)
    · rw [nI_leI (by omega) (by omega)] at z
      exact hye (wAl_pr.mpr (fun k j jk hk => hq k j jk (by omega)))
    · rw [nI_leI (by omega) (by omega)] at z
      refine r_M_l262 h r q hm hN hr (show i < m.length by omega) _ hno (fun hp => ?_) 1000 0 (by omega) (fun j' hj => by omega)
      rw [nI_1]
      refine ih (i + 1) (by omega) (fun k j jk hk => ?_)
      by_cases e : k = i
      · rw [e] at jk ⊢; exact hp j jk
      · exact hq k j jk (by omega)
end
