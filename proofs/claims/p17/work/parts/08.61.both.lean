/-! Tier 3: the reference adds INTERSECTIONS: the row is put into the order of its classes. -/
def vPm (N : Nat) (v w : Nat → Nat) : Prop := ∀ x, (∃ j, j < N ∧ v j = x) ↔ (∃ j, j < N ∧ w j = x)
def vDs (κ : Nat → Nat) (N : Nat) (v : Nat → Nat) : Prop := ∀ a b, a < N → b < N → κ (v a) = κ (v b) → a = b
def vSr (κ : Nat → Nat) (m : Nat) (v : Nat → Nat) : Prop := ∀ a b, a < b → b < m → κ (v a) < κ (v b)
def vSw (v : Nat → Nat) (i j : Nat) : Nat → Nat := fun k => if k = i then v j else if k = j then v i else v k
theorem vPm_sw {N i j : Nat} {v w : Nat → Nat} (h : vPm N v w) (hi : i < N) (hj : j < N) : vPm N (vSw v i j) w := by
  intro x
  rw [← h x]
  constructor
  · rintro ⟨k, k1, k2⟩
    unfold vSw at k2
    by_cases e1 : k = i
    · rw [if_pos e1] at k2; exact ⟨j, hj, k2⟩
    · rw [if_neg e1] at k2
      by_cases e2 : k = j
      · rw [if_pos e2] at k2; exact ⟨i, hi, k2⟩
      · rw [if_neg e2] at k2; exact ⟨k, k1, k2⟩
  · rintro ⟨k, k1, k2⟩
    by_cases e1 : k = i
    · refine ⟨j, hj, ?_⟩
      unfold vSw
      by_cases e2 : j = i
      · rw [if_pos e2, ← k2, e1, e2]
      · rw [if_neg e2, if_pos rfl, ← k2, e1]
    · by_cases e2 : k = j
      · refine ⟨i, hi, ?_⟩
        unfold vSw
        rw [if_pos rfl, ← k2, e2]
      · refine ⟨k, k1, ?_⟩
        unfold vSw
        rw [if_neg e1, if_neg e2]; exact k2
theorem vDs_sw {κ : Nat → Nat} {N i j : Nat} {v : Nat → Nat} (h : vDs κ N v) (hi : i < N) (hj : j < N) : vDs κ N (vSw v i j) := by
  have key : ∀ k, k < N → ∃ m, m < N ∧ vSw v i j k = v m ∧ (m = if k = i then j else if k = j then i else k) := by
    intro k hk
    unfold vSw
    by_cases e1 : k = i
    · rw [if_pos e1, if_pos e1]; exact ⟨j, hj, rfl, rfl⟩
    · rw [if_neg e1, if_neg e1]
      by_cases e2 : k = j
      · rw [if_pos e2, if_pos e2]; exact ⟨i, hi, rfl, rfl⟩
      · rw [if_neg e2, if_neg e2]; exact ⟨k, hk, rfl, rfl⟩
  intro a b ha hb e
  obtain ⟨m, m1, m2, m3⟩ := key a ha
  obtain ⟨l, l1, l2, l3⟩ := key b hb
  rw [m2, l2] at e
  have := h m l m1 l1 e
  rw [m3, l3] at this
  by_cases a1 : a = i
  · rw [if_pos a1] at this
    by_cases b1 : b = i
    · omega
    · rw [if_neg b1] at this
      by_cases b2 : b = j
      · rw [if_pos b2] at this; omega
      · rw [if_neg b2] at this; omega
  · rw [if_neg a1] at this
    by_cases a2 : a = j
    · rw [if_pos a2] at this
      by_cases b1 : b = i
      · rw [if_pos b1] at this; omega
      · rw [if_neg b1] at this
        by_cases b2 : b = j
        · omega
        · rw [if_neg b2] at this; omega
    · rw [if_neg a2] at this
      by_cases b1 : b = i
      · rw [if_pos b1] at this; omega
      · rw [if_neg b1] at this
        by_cases b2 : b = j
        · rw [if_pos b2] at this; omega
        · rw [if_neg b2] at this; exact this
def vRw (ρ : Nat → Int32) (N : Nat) (v : Nat → Nat) : Prop := ∀ j, j < N → ρ j = nI (v j)
section
variable {σ : StM} {C : wWc} {T : wWt} {g : Nat}
theorem r_M_addBoth_9 (h : wOK C T) (q : rMt σ T) {N i : Nat} {w : Nat → Nat} (hw : ∀ j, j < N → w j < Tn T ∧ dK (Ty T (w j)) = 1) (hN : N ≤ 60) (hi : i < N) (k2 : StM → Int32 → Int32 → Option (Int32 × StM)) {Q : Int32 × StM → Prop}
    (hk : ∀ ρ v, vRw ρ N v → vPm N v w → vDs (fun p => dX (Ty T p)) N v → vSr (fun p => dX (Ty T p)) (i + 1) v → k_pc (k2 (M_set_row σ ρ) (nI N) (nI i + 1)) Q) :
    ∀ (f j : Nat) (ρ : Nat → Int32) (v : Nat → Nat), j ≤ i → vRw ρ N v → vPm N v w → vDs (fun p => dX (Ty T p)) N v → (∀ a b, a < b → b ≤ i → a ≠ j → b ≠ j → dX (Ty T (v a)) < dX (Ty T (v b))) → (∀ b, j < b → b ≤ i → dX (Ty T (v j)) < dX (Ty T (v b))) → k_pc (f_M_addBoth_9 k2 f (M_set_row σ ρ) (nI N) (nI i) (nI j)) Q := by
  have hn := h.2.2.1
  have inn : ∀ v, vPm N v w → ∀ j, j < N → v j < Tn T ∧ dK (Ty T (v j)) = 1 := by
    intro v hv j hj
    obtain ⟨k, k1, k2⟩ := (hv (v j)).mp ⟨j, hj, rfl⟩
    rw [← k2]; exact hw k k1
  intro f
  induction f with
  | zero => intro j ρ v _ _ _ _ _ _; exact p_none
  | succ f ih =>
    intro j ρ v h1 h2 h3 h4 h5 h6
    rw [f_M_addBoth_9]
    unfold f_M_addBoth_9_s
    refine p_if (fun z => ?_) (fun z => ?_)
    · have z2 : nI j ≤ nI 0 := z
      rw [nI_leI (by omega) (by decide)] at z2
      have j0 : j = 0 := by omega
      subst j0
      refine hk ρ v h2 h3 h4 (fun a b ab hb => ?_)
      by_cases a0 : a = 0
      · rw [a0]; exact h6 b (by omega) (by omega)
      · exact h5 a b ab (by omega) a0 (by omega)
    · have z2 : ¬ nI j ≤ nI 0 := z
      rw [nI_leI (by omega) (by decide)] at z2
      have e : nI j - 1 = nI (j - 1) := k_sub (b := 1) (by omega)
      obtain ⟨p1, p2⟩ := inn v h3 (j - 1) (by omega)
      obtain ⟨w1, w2⟩ := inn v h3 j (by omega)
      have x1 := wX_lt h p1
      have x2 := wX_lt h w1
      rw [e, nI_clamp (show j - 1 < 2 ^ 31 by omega), nI_clamp (show j < 2 ^ 31 by omega)]
      rw [show M_row (M_set_row σ ρ) = ρ from rfl, h2 (j - 1) (by omega), h2 j (by omega)]
      refine p_guard (fun _ => p_guard (fun _ => p_guard (fun _ => p_guard (fun _ => ?_))))
      rw [nI_clamp (show v (j - 1) < 2 ^ 31 by omega), nI_clamp (show v j < 2 ^ 31 by omega), show M_classOf (M_set_row σ ρ) = M_classOf σ from rfl, (q.2 _ p1).2.1, (q.2 _ w1).2.1, if_pos p2, if_pos w2]
      have ne : dX (Ty T (v (j - 1))) ≠ dX (Ty T (v j)) := by
        intro z
        have := h4 (j - 1) j (by omega) (by omega) z
        omega
      refine p_if (fun y => ?_) (fun y => ?_)
      · rw [nI_leI (by omega) (by omega)] at y
        have y1 : dX (Ty T (v (j - 1))) < dX (Ty T (v j)) := by omega
        refine hk ρ v h2 h3 h4 (fun a b ab hb => ?_)
        by_cases aj : a = j
        · rw [aj]; exact h6 b (by omega) (by omega)
        · by_cases bj : b = j
          · rw [bj]
            by_cases aj1 : a = j - 1
            · rw [aj1]; exact y1
            · have := h5 a (j - 1) (by omega) (by omega) aj (by omega)
              show dX (Ty T (v a)) < dX (Ty T (v j))
              omega
          · exact h5 a b ab (by omega) aj bj
      · rw [nI_leI (by omega) (by omega)] at y
        refine p_guard (fun _ => p_guard (fun _ => p_guard (fun _ => p_guard (fun _ => ?_))))
        rw [k_dec (by omega)]
        have hr : vRw (upd (upd ρ (nI j).toNatClampNeg (nI (v (j - 1)))) (nI (j - 1)).toNatClampNeg (nI (v j))) N (vSw v j (j - 1)) := by
          rw [nI_clamp (show j < 2 ^ 31 by omega), nI_clamp (show j - 1 < 2 ^ 31 by omega)]
          intro k hkN
          unfold vSw
          by_cases e1 : k = j - 1
          · rw [e1, k_upds, if_neg (by omega), if_pos rfl]
          · rw [k_updn e1]
            by_cases e2 : k = j
            · rw [e2, k_upds, if_pos rfl]
            · rw [k_updn e2, if_neg e2, if_neg e1]; exact h2 k hkN
        refine ih (j - 1) _ (vSw v j (j - 1)) (by omega) hr (vPm_sw h3 (by omega) (by omega)) (vDs_sw h4 (by omega) (by omega)) (fun a b ab hb ha1 hb1 => ?_) (fun b jb hb => ?_)
        · unfold vSw
          by_cases aj : a = j
          · rw [if_pos aj, if_neg (by omega), if_neg hb1]
            exact h5 (j - 1) b (by omega) hb (by omega) (by omega)
          · rw [if_neg aj, if_neg ha1]
            by_cases bj : b = j
            · rw [if_pos bj]
              exact h5 a (j - 1) (by omega) (by omega) aj (by omega)
            · rw [if_neg bj, if_neg hb1]
              exact h5 a b ab hb aj bj
        · unfold vSw
          rw [if_neg (show ¬ j - 1 = j by omega), if_pos rfl]
          by_cases bj : b = j
          · rw [if_pos bj]; omega
          · rw [if_neg bj, if_neg (by omega)]
            exact h6 b (by omega) hb
theorem rMtr_both (h : wOK C T) {i : Nat} {l : List Nat} (hi : i < Tn T) (q : rMtr σ T i) : (dK (Ty T i) = 3 ↔ M_kind σ i = 3) ∧ (Ty T i = (3, 0, 0, l) ↔ (dK (Ty T i) = 3 ∧ dL (Ty T i) = l)) := by
  obtain ⟨q1, _⟩ := q
  refine ⟨⟨fun e => by rw [q1, e]; rfl, fun e => ?_⟩, ⟨fun e => by rw [e]; exact ⟨rfl, rfl⟩, fun ⟨e1, e2⟩ => ?_⟩⟩
  · have z1 : nI (dK (Ty T i)) = nI 3 := q1.symm.trans e
    rw [nI_eq (by have := wK_lt h.2 hi; omega) (by decide)] at z1
    exact z1
  · obtain ⟨_, _, h1 | ⟨_, c', a', h1, h2⟩ | ⟨_, e', h1, _⟩ | ⟨_, l', h1, _⟩⟩ := h.2.2.2.1 i hi
    · rw [h1.2.1] at e1; cases e1
    · rw [h1] at e1; cases e1
    · rw [h1] at e1; cases e1
    · rw [h1] at e2 ⊢
      replace e2 : l' = l := e2
      rw [e2]
theorem r_M_addBoth_153 (h : wOK C T) (q : rMt σ T) {l : List Nat} {i : Nat} (hN : l.length ≤ 30) (hr : ∀ k (hk : k < l.length), M_row σ k = nI l[k]) (hl : ∀ p, p ∈ l → p < Tn T) (hi : i < Tn T) {x2 : Int32} (k115 : StM → Int32 → Int32 → Int32 → Option (Int32 × StM)) {Q : Int32 × StM → Prop} (hk : Ty T i ≠ (3, 0, 0, l) → k_pc (k115 σ (nI l.length) x2 (nI i + 1)) Q) (hq : Ty T i = (3, 0, 0, l) → Q (nI i, σ)) :
    ∀ (f k : Nat) (x4 : Int32), k ≤ l.length → ((x4 = 0 ∧ Ty T i ≠ (3, 0, 0, l)) ∨ (x4 = 1 ∧ dK (Ty T i) = 3 ∧ (dL (Ty T i)).length = l.length ∧ ∀ j (h1 : j < (dL (Ty T i)).length) (h2 : j < l.length), j < k → (dL (Ty T i))[j] = l[j])) → k_pc (f_M_addBoth_153 k115 f σ (nI l.length) x2 (nI i) x4 (nI k)) Q := by
  have hn := h.2.2.1
  have kb := (rMtr_both (l := l) h hi (q.2 i hi)).2
  have no : Ty T i ≠ (3, 0, 0, l) → k_pc (f_M_addBoth_199 k115 σ (nI l.length) x2 (nI i) 0) Q := by
    intro z
    unfold f_M_addBoth_199
    exact p_if (fun _ => hk z) (fun y => absurd rfl y)
  have ye : Ty T i = (3, 0, 0, l) → k_pc (f_M_addBoth_199 k115 σ (nI l.length) x2 (nI i) 1) Q := by
    intro z
    unfold f_M_addBoth_199
    exact p_if (fun y => absurd y (by decide)) (fun _ => p_some (hq z))
  intro f
  induction f with
  | zero => intro k x4 _ _; exact p_none
  | succ f ih =>
    intro k x4 h1 h3
    rw [f_M_addBoth_153]
    unfold f_M_addBoth_153_s
    rcases h3 with ⟨e, h3⟩ | ⟨e, h3, h4, h5⟩
    · subst e
      exact p_if (fun _ => no h3) (fun _ => p_if (fun _ => no h3) (fun z => absurd rfl z))
    · subst e
      refine p_if (fun z => ?_) (fun z => ?_)
      · rw [nI_leI (by omega) (by omega)] at z
        exact ye (kb.mpr ⟨h3, List.ext_getElem h4 (fun j j1 j2 => h5 j j1 j2 (by omega))⟩)
      · rw [nI_leI (by omega) (by omega)] at z
        refine p_if (fun y => absurd y (by decide)) (fun _ => ?_)
        have cl : (30 * nI i + nI k).toNatClampNeg = 30 * i + k := by rw [k_30ix]; exact nI_clamp (by omega)
        have el : wPs T i = dL (Ty T i) := by unfold wPs; rw [if_neg (by omega)]
        have hk1 : k < (dL (Ty T i)).length := by omega
        have hk2 : k < l.length := by omega
        have e7 : M_partRow σ (30 * i + k) = nI (dL (Ty T i))[k] := by
          rw [(q.2 i hi).2.2.2.2.2.2 k (by rw [el]; exact hk1)]
          congr 1; simp [el]
        obtain ⟨_, _, _, w4, _⟩ := wT_both h.2 hi h3
        have b1 := w4 _ (List.getElem_mem hk1)
        have b2 := hl _ (List.getElem_mem hk2)
        rw [cl, nI_clamp (show k < 2 ^ 31 by omega), e7, hr k hk2, nI_1]
        refine p_guard (fun _ => p_guard (fun _ => p_if (fun y => ?_) (fun y => ?_)))
        · rw [nI_eq (by omega) (by omega)] at y
          refine ih (k + 1) 1 (by omega) (Or.inr ⟨rfl, h3, h4, fun j j1 j2 hj => ?_⟩)
          by_cases ej : j = k
          · subst ej; exact y
          · exact h5 j j1 j2 (by omega)
        · refine ih (k + 1) 0 (by omega) (Or.inl ⟨rfl, fun z => y ?_⟩)
          have := (kb.mp z).2
          congr 1
          simp [this]
theorem mSP (τ : StM) : M_set_partRow τ (M_partRow τ) = τ := rfl
theorem r_M_addBoth_new (h : wOK C T) (q : rMt σ T) {l : List Nat} (hN : l.length ≤ 30) (hr : ∀ k (hk : k < l.length), M_row σ k = nI l[k]) {s : Nat} (h3 : Tn T < 300) (τ : StM) (e0 : M_types τ = M_types σ) (ef : M_full τ = 0) (er : M_row τ = M_row σ) (e1 : M_kind τ = upd (M_kind σ) (M_types σ).toNatClampNeg 3) (e2 : M_classOf τ = upd (M_classOf σ) (M_types σ).toNatClampNeg (-1)) (e3 : M_how τ = upd (M_how σ) (M_types σ).toNatClampNeg (-1)) (e4 : M_inner τ = upd (M_inner σ) (M_types σ).toNatClampNeg (-1)) (e5 : M_made τ = upd (M_made σ) (M_types σ).toNatClampNeg (nI s)) (e6 : M_partCount τ = upd (M_partCount σ) (M_types σ).toNatClampNeg (nI l.length)) (e7 : M_partRow τ = M_partRow σ) :
    k_pc (f_M_addBoth_297 1000 τ (nI l.length) 0) (rMw (some (Tn T, (Tn T + 1, wUp (Ty T) (Tn T) (3, 0, 0, l), wUp (Tm T) (Tn T) s)))) := by
  have e : M_types σ = nI (Tn T) := q.1
  have cl : (M_types σ).toNatClampNeg = Tn T := by rw [e]; exact nI_clamp (by omega)
  rw [cl] at e1 e2 e3 e4 e5 e6
  have base := s_M_addBoth_297 (t := Tn T) (N := l.length) (τ := τ) h3 (e0.trans e) hN 1000 0 (M_partRow τ) (by omega) (by omega) (fun _ _ => rfl) (fun j hj => by omega)
  rw [mSP] at base
  refine p_mono (p_ok base) ?_
  rintro ⟨v, ρ⟩ ⟨r1, ρ', r2, r3, r4⟩
  replace r1 : v = nI (Tn T) := r1
  replace r2 : ρ = M_set_types (M_set_partRow τ ρ') (nI (Tn T + 1)) := r2
  have g1 : M_kind ρ = M_kind τ := by rw [r2]
  have g2 : M_classOf ρ = M_classOf τ := by rw [r2]
  have g3 : M_how ρ = M_how τ := by rw [r2]
  have g4 : M_inner ρ = M_inner τ := by rw [r2]
  have g5 : M_made ρ = M_made τ := by rw [r2]
  have g6 : M_partCount ρ = M_partCount τ := by rw [r2]
  have g7 : M_partRow ρ = ρ' := by rw [r2]
  have g8 : M_types ρ = nI (Tn T + 1) := by rw [r2]
  have g9 : M_full ρ = M_full τ := by rw [r2]
  have t1' : Ty (Tn T + 1, wUp (Ty T) (Tn T) ((3, 0, 0, l) : wDs), wUp (Tm T) (Tn T) s) (Tn T) = (3, 0, 0, l) := wUp_s
  have t2' : Tm (Tn T + 1, wUp (Ty T) (Tn T) ((3, 0, 0, l) : wDs), wUp (Tm T) (Tn T) s) (Tn T) = s := wUp_s
  have ep : wPs (Tn T + 1, wUp (Ty T) (Tn T) ((3, 0, 0, l) : wDs), wUp (Tm T) (Tn T) s) (Tn T) = l := by
    unfold wPs; rw [t1']; rfl
  clear r2
  refine ⟨r1, ?_, g9.trans ef⟩
  refine rMt_new h.2 q (fun i hi => ⟨?_, ?_, ?_, ?_, ?_, ?_, ?_⟩) g8 ⟨?_, ?_, ?_, ?_, ?_, ?_, ?_⟩
  · rw [g1, e1]; exact k_u hi
  · rw [g2, e2]; exact k_u hi
  · rw [g3, e3]; exact k_u hi
  · rw [g4, e4]; exact k_u hi
  · rw [g5, e5]; exact k_u hi
  · rw [g6, e6]; exact k_u hi
  · intro k hk
    rw [g7, r3 _ (by omega), e7]
  · rw [t1', g1, e1, k_upds]; rfl
  · rw [t1', g2, e2, k_upds]; rfl
  · rw [t1', g3, e3, k_upds]; rfl
  · rw [t1', g4, e4, k_upds]; rfl
  · rw [t2', g5, e5, k_upds]
  · rw [t1', g6, e6, k_upds]; rfl
  · intro k hk
    have hk' : k < l.length := by rw [← ep]; exact hk
    rw [g7, r4 k hk', er, hr k hk']
    congr 1; simp [ep]
theorem r_M_addBoth_115 (h : wOK C T) (q : rMt σ T) (hf : M_full σ = 0) {l : List Nat} (hN : l.length ≤ 30) (hr : ∀ k (hk : k < l.length), M_row σ k = nI l[k]) (hl : ∀ p, p ∈ l → p < Tn T) {s : Nat} (hs : s ≤ 10000) :
    ∀ (f i : Nat), i ≤ Tn T → (∀ j, j < i → Ty T j ≠ (3, 0, 0, l)) → k_pc (f_M_addBoth_115 f σ (nI l.length) (nI s) (nI i)) (rMw (wAdd T (3, 0, 0, l) s)) := by
  have hn := h.2.2.1
  have e : M_types σ = nI (Tn T) := q.1
  intro f
  induction f with
  | zero => intro i _ _; exact p_none
  | succ f ih =>
    intro i hi hq
    have full : (Tn T = 300 ∨ 100 < s) → i = Tn T → rMw (wAdd T (3, 0, 0, l) s) (0, M_set_full σ 1) := by
      intro z ei
      rw [wAdd_new (by rw [← ei]; exact hq), if_pos z]
      exact ⟨rfl, rfl⟩
    have enew : ¬ (Tn T = 300 ∨ 100 < s) → i = Tn T → wAdd T (3, 0, 0, l) s = some (Tn T, (Tn T + 1, wUp (Ty T) (Tn T) (3, 0, 0, l), wUp (Tm T) (Tn T) s)) := by
      intro z ei
      rw [wAdd_new (by rw [← ei]; exact hq), if_neg z]
    have nx : i < Tn T → Ty T i ≠ (3, 0, 0, l) → k_pc (f_M_addBoth_115 f σ (nI l.length) (nI s) (nI i + 1)) (rMw (wAdd T (3, 0, 0, l) s)) := by
      intro hi' ne
      rw [nI_1]
      refine ih (i + 1) (by omega) (fun j hj => ?_)
      by_cases z : j = i
      · rw [z]; exact ne
      · exact hq j (by omega)
    have hit : i < Tn T → Ty T i = (3, 0, 0, l) → rMw (wAdd T (3, 0, 0, l) s) (nI i, σ) := by
      intro hi' z
      rw [wAdd_hit hi' z hq]
      exact ⟨rfl, q, hf⟩
    generalize wAdd T (3, 0, 0, l) s = o at *
    rw [f_M_addBoth_115]
    unfold f_M_addBoth_115_s f_M_addBoth_228
    refine p_if (fun w => ?_) (fun w => ?_)
    · have w2 : nI (Tn T) ≤ nI i := by rw [← e]; exact w
      rw [nI_leI (by omega) (by omega)] at w2
      have ei : i = Tn T := by omega
      refine p_if (fun z => ?_) (fun z => ?_)
      · have z2 : nI (Tn T) = nI 300 := by rw [← e]; exact z
        rw [nI_eq (by omega) (by decide)] at z2
        exact p_some (full (Or.inl z2) ei)
      · have z2 : ¬ nI (Tn T) = nI 300 := by rw [← e]; exact z
        rw [nI_eq (by omega) (by decide)] at z2
        refine p_if (fun y => ?_) (fun y => ?_)
        · have y2 : nI s ≤ nI 100 := y
          rw [nI_leI (by omega) (by decide)] at y2
          rw [enew (by omega) ei]
          refine p_guard (fun _ => p_guard (fun _ => p_guard (fun _ => p_guard (fun _ => p_guard (fun _ => p_guard (fun _ => ?_))))))
          exact r_M_addBoth_new h q hN hr (by omega) _ rfl hf rfl rfl rfl rfl rfl rfl rfl rfl
        · have y2 : ¬ nI s ≤ nI 100 := y
          rw [nI_leI (by omega) (by decide)] at y2
          exact p_some (full (Or.inr (by omega)) ei)
    · have w2 : ¬ nI (Tn T) ≤ nI i := by rw [← e]; exact w
      rw [nI_leI (by omega) (by omega)] at w2
      have hi' : i < Tn T := by omega
      obtain ⟨k1, k2⟩ := rMtr_both (l := l) h hi' (q.2 i hi')
      rw [nI_clamp (show i < 2 ^ 31 by omega)]
      refine p_guard (fun _ => p_if (fun z => ?_) (fun z => ?_))
      · have z3 := k1.mpr z
        have ec : M_partCount σ i = nI (dL (Ty T i)).length := by
          rw [(q.2 i hi').2.2.2.2.2.1]
          unfold wPc
          rw [if_neg (by omega)]
        have l30 := (wT_both h.2 hi' z3).2.2.1
        rw [ec]
        refine p_guard (fun _ => p_if (fun y => ?_) (fun y => ?_))
        · rw [nI_eq (by omega) (by omega)] at y
          exact r_M_addBoth_153 h q hN hr hl hi' _ (nx hi') (hit hi') 1000 0 1 (by omega) (Or.inr ⟨rfl, z3, y, fun j _ _ hj => by omega⟩)
        · exact r_M_addBoth_153 h q hN hr hl hi' _ (nx hi') (hit hi') 1000 0 0 (by omega) (Or.inl ⟨rfl, fun z => y (by rw [(k2.mp z).2])⟩)
      · exact r_M_addBoth_153 h q hN hr hl hi' _ (nx hi') (hit hi') 1000 0 0 (by omega) (Or.inl ⟨rfl, fun y => z (k1.mp (k2.mp y).1)⟩)
theorem r_M_addBoth_88 (h : wOK C T) (q : rMt σ T) (hf : M_full σ = 0) {l : List Nat} (hN : l.length ≤ 30) (hr : ∀ k (hk : k < l.length), M_row σ k = nI l[k]) (hl : ∀ p, p ∈ l → p < Tn T) :
    ∀ (f i : Nat), i ≤ l.length → k_pc (f_M_addBoth_88 f σ (nI l.length) (nI (1 + wSum T (l.take i))) (nI i)) (rMw (wAdd T (3, 0, 0, l) (1 + wSum T l))) := by
  have hn := h.2.2.1
  have hb := wSum_b h.2 l hl
  intro f
  induction f with
  | zero => intro i _; exact p_none
  | succ f ih =>
    intro i hi
    rw [f_M_addBoth_88]
    unfold f_M_addBoth_88_s
    refine p_if (fun z => ?_) (fun z => ?_)
    · rw [nI_leI (by omega) (by omega)] at z
      have ei : i = l.length := by omega
      subst ei
      rw [List.take_length]
      exact r_M_addBoth_115 h q hf hN hr hl (by omega) 1000 0 (by omega) (fun j hj => by omega)
    · rw [nI_leI (by omega) (by omega)] at z
      have hi' : i < l.length := by omega
      have b := hl _ (List.getElem_mem hi')
      rw [nI_clamp (show i < 2 ^ 31 by omega), hr i hi', nI_clamp (show l[i] < 2 ^ 31 by omega), (q.2 _ b).2.2.2.2.1]
      refine p_guard (fun _ => p_guard (fun _ => ?_))
      rw [nI_add, nI_1, show 1 + wSum T (l.take i) + Tm T l[i] = 1 + wSum T (l.take (i + 1)) by rw [wSum_take l i hi']; omega]
      exact ih (i + 1) (by omega)
end
