-- part 08.61.both.lean.txt
/-! Tier 3: the reference adds INTERSECTIONS: the row is put into the order of its classes. -/
def vPm (N : Nat) (v w : Nat → Nat) : Prop := ∀ x, (∃ j, j < N ∧ v j = x) ↔ (∃ j, j < N ∧ w j = x)
def vDs (κ : Nat → Nat) (N : Nat) (v : Nat → Nat) : Prop := ∀ a b, a < N → b < N → κ (v a) = κ (v b) → a = b
def vSr (κ : Nat → Nat) (m : Nat) (v : Nat → Nat) : Prop := ∀ a b, a < b → b < m → κ (v a) < κ (v b)
def vSw (v : Nat → Nat) (i j : Nat) : Nat → Nat := fun k => if k = i then v j else if k = j then v i else v k
theorem vPm_sw {N i j : Nat} {v w : Nat → Nat} (h : vPm N v w) (hi : i < N) (hj : j < N) : vPm N (vSw v i j) w := by
  intro x
  rw [← h x]
  constructor
  · rintro ⟨k, k1, k2⟩
    unfold vSw at k2
    by_cases e1 : k = i
    · rw [if_pos e1] at k2; exact ⟨j, hj, k2⟩
    · rw [if_neg e1] at k2
      by_cases e2 : k = j
      · rw [if_pos e2] at k2; exact ⟨i, hi, k2⟩
      · rw [if_neg e2] at k2; exact ⟨k, k1, k2⟩
  · rintro ⟨k, k1, k2⟩
    by_cases e1 : k = i
    · refine ⟨j, hj, ?_⟩
      unfold vSw
      by_cases e2 : j = i
      · rw [if_pos e2, ← k2, e1, e2]
      · rw [if_neg e2, if_pos rfl, ← k2, e1]
    · by_cases e2 : k = j
      · refine ⟨i, hi, ?_⟩
        unfold vSw
        rw [if_pos rfl, ← k2, e2]
      · refine ⟨k, k1, ?_⟩
        unfold vSw
        rw [if_neg e1, if_neg e2]; exact k2
theorem vDs_sw {κ : Nat → Nat} {N i j : Nat} {v : Nat → Nat} (h : vDs κ N v) (hi : i < N) (hj : j < N) : vDs κ N (vSw v i j) := by
  have key : ∀ k, k < N → ∃ m, m < N ∧ vSw v i j k = v m ∧ (m = if k = i then j else if k = j then i else k) := by
    intro k hk
    unfold vSw
    by_cases e1 : k = i
    · rw [if_pos e1, if_pos e1]; exact ⟨j, hj, rfl, rfl⟩
    · rw [if_neg e1, if_neg e1]
      by_cases e2 : k = j
      · rw [if_pos e2, if_pos e2]; exact ⟨i, hi, rfl, rfl⟩
      · rw [if_neg e2, if_neg e2]; exact ⟨k, hk, rfl, rfl⟩
  intro a b ha hb e
  obtain ⟨m, m1, m2, m3⟩ := key a ha
  obtain ⟨l, l1, l2, l3⟩ := key b hb
  rw [m2, l2] at e
  have := h m l m1 l1 e
  rw [m3, l3] at this
  by_cases a1 : a = i
  · rw [if_pos a1] at this
    by_cases b1 : b = i
    · omega
    · rw [if_neg b1] at this
      by_cases b2 : b = j
      · rw [if_pos b2] at this; omega
      · rw [if_neg b2] at this; omega
  · rw [if_neg a1] at this
    by_cases a2 : a = j
    · rw [if_pos a2] at this
      by_cases b1 : b = i
      · rw [if_pos b1] at this; omega
      · rw [if_neg b1] at this
        by_cases b2 : b = j
        · omega
        · rw [if_neg b2] at this; omega
    · rw [if_neg a2] at this
      by_cases b1 : b = i
      · rw [if_pos b1] at this; omega
      · rw [if_neg b1] at this
        by_cases b2 : b = j
        · rw [if_pos b2] at this; omega
        · rw [if_neg b2] at this; exact this
def vRw (ρ : Nat → Int32) (N : Nat) (v : Nat → Nat) : Prop := ∀ j, j < N → ρ j = nI (v j)
section
variable {σ : StM} {C : wWc} {T : wWt} {g : Nat}
theorem r_M_addBoth_9 (h : wOK C T) (q : rMt σ T) {N i : Nat} {w : Nat → Nat} (hw : ∀ j, j < N → w j < Tn T ∧ dK (Ty T (w j)) = 1) (hN : N ≤ 60) (hi : i < N) (k2 : StM → Int32 → Int32 → Option (Int32 × StM)) {Q : Int32 × StM → Prop}
    (hk : ∀ ρ v, vRw ρ N v → vPm N v w → vDs (fun p => dX (Ty T p)) N v → vSr (fun p => dX (Ty T p)) (i + 1) v → k_pc (k2 (M_set_row σ ρ) (nI N) (nI i + 1)) Q) :
    ∀ (f j : Nat) (ρ : Nat → Int32) (v : Nat → Nat), j ≤ i → vRw ρ N v → vPm N v w → vDs (fun p => dX (Ty T p)) N v → (∀ a b, a < b → b ≤ i → a ≠ j → b ≠ j → dX (Ty T (v a)) < dX (Ty T (v b))) → (∀ b, j < b → b ≤ i → dX (Ty T (v j)) < dX (Ty T (v b))) → k_pc (f_M_addBoth_9 k2 f (M_set_row σ ρ) (nI N) (nI i) (nI j)) Q := by
  have hn := h.2.2.1
  have inn : ∀ v, vPm N v w → ∀ j, j < N → v j < Tn T ∧ dK (Ty T (v j)) = 1 := by
    intro v hv j hj
    obtain ⟨k, k1, k2⟩ := (hv (v j)).mp ⟨j, hj, rfl⟩
    rw [← k2]; exact hw k k1
  intro f
  induction f with
  | zero => intro j ρ v _ _ _ _ _ _; exact p_none
  | succ f ih =>
    intro j ρ v h1 h2 h3 h4 h5 h6
    rw [f_M_addBoth_9]
    unfold f_M_addBoth_9_s
    refine p_if (fun z => ?_) (fun z => ?_)
    · have z2 : nI j ≤ nI 0 := z
      rw [nI_leI (by omega) (by decide)] at z2
      have j0 : j = 0 := by omega
      subst j0
      refine hk ρ v h2 h3 h4 (fun a b ab hb => ?_)
      by_cases a0 : a = 0
      · rw [a0]; exact h6 b (by omega) (by omega)
      · exact h5 a b ab (by omega) a0 (by omega)
    · have z2 : ¬ nI j ≤ nI 0 := z
      rw [nI_leI (by omega) (by decide)] at z2
      have e : nI j - 1 = nI (j - 1) := k_sub (b := 1) (by omega)
      obtain ⟨p1, p2⟩ := inn v h3 (j - 1) (by omega)
      obtain ⟨w1, w2⟩ := inn v h3 j (by omega)
      have x1 := wX_lt h p1
      have x2 := wX_lt h w1
      rw [e, nI_clamp (show j - 1 < 2 ^ 31 by omega), nI_clamp (show j < 2 ^ 31 by omega)]
      rw [show M_row (M_set_row σ ρ) = ρ from rfl, h2 (j - 1) (by omega), h2 j (by omega)]
      refine p_guard (fun _ => p_guard (fun _ => p_guard (fun _ => p_guard (fun _ => ?_))))
      rw [nI_clamp (show v (j - 1) < 2 ^ 31 by omega), nI_clamp (show v j < 2 ^ 31 by omega), show M_classOf (M_set_row σ ρ) = M_classOf σ from rfl, (q.2 _ p1).2.1, (q.2 _ w1).2.1, if_pos p2, if_pos w2]
      have ne : dX (Ty T (v (j - 1))) ≠ dX (Ty T (v j)) := by
        intro z
        have := h4 (j - 1) j (by omega) (by omega) z
        omega
      refine p_if (fun y => ?_) (fun y => ?_)
      · rw [nI_leI (by omega) (by omega)] at y
        have y1 : dX (Ty T (v (j - 1))) < dX (Ty T (v j)) := by omega
        refine hk ρ v h2 h3 h4 (fun a b ab hb => ?_)
        by_cases aj : a = j
        · rw [aj]; exact h6 b (by omega) (by omega)
        · by_cases bj : b = j
          · rw [bj]
            by_cases aj1 : a = j - 1
            · rw [aj1]; exact y1
            · have := h5 a (j - 1) (by omega) (by omega) aj (by omega)
              show dX (Ty T (v a)) < dX (Ty T (v j))
              omega
          · exact h5 a b ab (by omega) aj bj
      · rw [nI_leI (by omega) (by omega)] at y
        refine p_guard (fun _ => p_guard (fun _ => p_guard (fun _ => p_guard (fun _ => ?_))))
        rw [k_dec (by omega)]
        have hr : vRw (upd (upd ρ (nI j).toNatClampNeg (nI (v (j - 1)))) (nI (j - 1)).toNatClampNeg (nI (v j))) N (vSw v j (j - 1)) := by
          rw [nI_clamp (show j < 2 ^ 31 by omega), nI_clamp (show j - 1 < 2 ^ 31 by omega)]
          intro k hkN
          unfold vSw
          by_cases e1 : k = j - 1
          · rw [e1, k_upds, if_neg (by omega), if_pos rfl]
          · rw [k_updn e1]
            by_cases e2 : k = j
            · rw [e2, k_upds, if_pos rfl]
            · rw [k_updn e2, if_neg e2, if_neg e1]; exact h2 k hkN
        refine ih (j - 1) _ (vSw v j (j - 1)) (by omega) hr (vPm_sw h3 (by omega) (by omega)) (vDs_sw h4 (by omega) (by omega)) (fun a b ab hb ha1 hb1 => ?_) (fun b jb hb => ?_)
        · unfold vSw
          by_cases aj : a = j
          · rw [if_pos aj, if_neg (by omega), if_neg hb1]
            exact h5 (j - 1) b (by omega) hb (by omega) (by omega)
          · rw [if_neg aj, if_neg ha1]
            by_cases bj : b = j
            · rw [if_pos bj]
              exact h5 a (j - 1) (by omega) (by omega) aj (by omega)
            · rw [if_neg bj, if_neg hb1]
              exact h5 a b ab hb aj bj
        · unfold vSw
          rw [if_neg (show ¬ j - 1 = j by omega), if_pos rfl]
          by_cases bj : b = j
          · rw [if_pos bj]; omega
          · rw [if_neg bj, if_neg (by omega)]
            exact h6 b (by omega) hb
theorem rMtr_both (h : wOK C T) {i : Nat} {l : List Nat} (hi : i < Tn T) (q : rMtr σ T i) : (dK (Ty T i) = 3 ↔ M_kind σ i = 3) ∧ (Ty T i = (3, 0, 0, l) ↔ (dK (Ty T i) = 3 ∧ dL (Ty T i) = l)) := by
  obtain ⟨q1, _⟩ := q
  refine ⟨⟨fun e => by rw [q1, e]; rfl, fun e => ?_⟩, ⟨fun e => by rw [e]; exact ⟨rfl, rfl⟩, fun ⟨e1, e2⟩ => ?_⟩⟩
  · have z1 : nI (dK (Ty T i)) = nI 3 := q1.symm.trans e
    rw [nI_eq (by have := wK_lt h.2 hi; omega) (by decide)] at z1
    exact z1
  · obtain ⟨_, _, h1 | ⟨_, c', a', h1, h2⟩ | ⟨_, e', h1, _⟩ | ⟨_, l', h1, _⟩⟩ := h.2.2.2.1 i hi
    · rw [h1.2.1] at e1; cases e1
    · rw [h1] at e1; cases e1
    · rw [h1] at e1; cases e1
    · rw [h1] at e2 ⊢
      replace e2 : l' = l := e2
      rw [e2]
theorem r_M_addBoth_153 (h : wOK C T) (q : rMt σ T) {l : List Nat} {i : Nat} (hN : l.length ≤ 30) (hr : ∀ k (hk : k < l.length), M_row σ k = nI l[k]) (hl : ∀ p, p ∈ l → p < Tn T) (hi : i < Tn T) {x2 : Int32} (k115 : StM → Int32 → Int32 → Int32 → Option (Int32 × StM)) {Q : Int32 × StM → Prop} (hk : Ty T i ≠ (3, 0, 0, l) → k_pc (k115 σ (nI l.length) x2 (nI i + 1)) Q) (hq : Ty T i = (3, 0, 0, l) → Q (nI i, σ)) :
    ∀ (f k : Nat) (x4 : Int32), k ≤ l.length → ((x4 = 0 ∧ Ty T i ≠ (3, 0, 0, l)) ∨ (x4 = 1 ∧ dK (Ty T i) = 3 ∧ (dL (Ty T i)).length = l.length ∧ ∀ j (h1 : j < (dL (Ty T i)).length) (h2 : j < l.length), j < k → (dL (Ty T i))[j] = l[j])) → k_pc (f_M_addBoth_153 k115 f σ (nI l.length) x2 (nI i) x4 (nI k)) Q := by
  have hn := h.2.2.1
  have kb := (rMtr_both (l := l) h hi (q.2 i hi)).2
  have no : Ty T i ≠ (3, 0, 0, l) → k_pc (f_M_addBoth_199 k115 σ (nI l.length) x2 (nI i) 0) Q := by
    intro z
    unfold f_M_addBoth_199
    exact p_if (fun _ => hk z) (fun y => absurd rfl y)
  have ye : Ty T i = (3, 0, 0, l) → k_pc (f_M_addBoth_199 k115 σ (nI l.length) x2 (nI i) 1) Q := by
    intro z
    unfold f_M_addBoth_199
    exact p_if (fun y => absurd y (by decide)) (fun _ => p_some (hq z))
  intro f
  induction f with
  | zero => intro k x4 _ _; exact p_none
  | succ f ih =>
    intro k x4 h1 h3
    rw [f_M_addBoth_153]
    unfold f_M_addBoth_153_s
    rcases h3 with ⟨e, h3⟩ | ⟨e, h3, h4, h5⟩
    · subst e
      exact p_if (fun _ => no h3) (fun _ => p_if (fun _ => no h3) (fun z => absurd rfl z))
    · subst e
      refine p_if (fun z => ?_) (fun z => ?_)
      · rw [nI_leI (by omega) (by omega)] at z
        exact ye (kb.mpr ⟨h3, List.ext_getElem h4 (fun j j1 j2 => h5 j j1 j2 (by omega))⟩)
      · rw [nI_leI (by omega) (by omega)] at z
        refine p_if (fun y => absurd y (by decide)) (fun _ => ?_)
        have cl : (30 * nI i + nI k).toNatClampNeg = 30 * i + k := by rw [k_30ix]; exact nI_clamp (by omega)
        have el : wPs T i = dL (Ty T i) := by unfold wPs; rw [if_neg (by omega)]
        have hk1 : k < (dL (Ty T i)).length := by omega
        have hk2 : k < l.length := by omega
        have e7 : M_partRow σ (30 * i + k) = nI (dL (Ty T i))[k] := by
          rw [(q.2 i hi).2.2.2.2.2.2 k (by rw [el]; exact hk1)]
          congr 1; simp [el]
        obtain ⟨_, _, _, w4, _⟩ := wT_both h.2 hi h3
        have b1 := w4 _ (List.getElem_mem hk1)
        have b2 := hl _ (List.getElem_mem hk2)
        rw [cl, nI_clamp (show k < 2 ^ 31 by omega), e7, hr k hk2, nI_1]
        refine p_guard (fun _ => p_guard (fun _ => p_if (fun y => ?_) (fun y => ?_)))
        · rw [nI_eq (by omega) (by omega)] at y
          refine ih (k + 1) 1 (by omega) (Or.inr ⟨rfl, h3, h4, fun j j1 j2 hj => ?_⟩)
          by_cases ej : j = k
          · subst ej; exact y
          · exact h5 j j1 j2 (by omega)
        · refine ih (k + 1) 0 (by omega) (Or.inl ⟨rfl, fun z => y ?_⟩)
          have := (kb.mp z).2
          congr 1
          simp [this]
theorem mSP (τ : StM) : M_set_partRow τ (M_partRow τ) = τ := rfl
theorem r_M_addBoth_new (h : wOK C T) (q : rMt σ T) {l : List Nat} (hN : l.length ≤ 30) (hr : ∀ k (hk : k < l.length), M_row σ k = nI l[k]) {s : Nat} (h3 : Tn T < 300) (τ : StM) (e0 : M_types τ = M_types σ) (ef : M_full τ = 0) (er : M_row τ = M_row σ) (e1 : M_kind τ = upd (M_kind σ) (M_types σ).toNatClampNeg 3) (e2 : M_classOf τ = upd (M_classOf σ) (M_types σ).toNatClampNeg (-1)) (e3 : M_how τ = upd (M_how σ) (M_types σ).toNatClampNeg (-1)) (e4 : M_inner τ = upd (M_inner σ) (M_types σ).toNatClampNeg (-1)) (e5 : M_made τ = upd (M_made σ) (M_types σ).toNatClampNeg (nI s)) (e6 : M_partCount τ = upd (M_partCount σ) (M_types σ).toNatClampNeg (nI l.length)) (e7 : M_partRow τ = M_partRow σ) :
    k_pc (f_M_addBoth_297 1000 τ (nI l.length) 0) (rMw (some (Tn T, (Tn T + 1, wUp (Ty T) (Tn T) (3, 0, 0, l), wUp (Tm T) (Tn T) s)))) := by
  have e : M_types σ = nI (Tn T) := q.1
  have cl : (M_types σ).toNatClampNeg = Tn T := by rw [e]; exact nI_clamp (by omega)
  rw [cl] at e1 e2 e3 e4 e5 e6
  have base := s_M_addBoth_297 (t := Tn T) (N := l.length) (τ := τ) h3 (e0.trans e) hN 1000 0 (M_partRow τ) (by omega) (by omega) (fun _ _ => rfl) (fun j hj => by omega)
  rw [mSP] at base
  refine p_mono (p_ok base) ?_
  rintro ⟨v, ρ⟩ ⟨r1, ρ', r2, r3, r4⟩
  replace r1 : v = nI (Tn T) := r1
  replace r2 : ρ = M_set_types (M_set_partRow τ ρ') (nI (Tn T + 1)) := r2
  have g1 : M_kind ρ = M_kind τ := by rw [r2]
  have g2 : M_classOf ρ = M_classOf τ := by rw [r2]
  have g3 : M_how ρ = M_how τ := by rw [r2]
  have g4 : M_inner ρ = M_inner τ := by rw [r2]
  have g5 : M_made ρ = M_made τ := by rw [r2]
  have g6 : M_partCount ρ = M_partCount τ := by rw [r2]
  have g7 : M_partRow ρ = ρ' := by rw [r2]
  have g8 : M_types ρ = nI (Tn T + 1) := by rw [r2]
  have g9 : M_full ρ = M_full τ := by rw [r2]
  have t1' : Ty (Tn T + 1, wUp (Ty T) (Tn T) ((3, 0, 0, l) : wDs), wUp (Tm T) (Tn T) s) (Tn T) = (3, 0, 0, l) := wUp_s
  have t2' : Tm (Tn T + 1, wUp (Ty T) (Tn T) ((3, 0, 0, l) : wDs), wUp (Tm T) (Tn T) s) (Tn T) = s := wUp_s
  have ep : wPs (Tn T + 1, wUp (Ty T) (Tn T) ((3, 0, 0, l) : wDs), wUp (Tm T) (Tn T) s) (Tn T) = l := by
    unfold wPs; rw [t1']; rfl
  clear r2
  refine ⟨r1, ?_, g9.trans ef⟩
  refine rMt_new h.2 q (fun i hi => ⟨?_, ?_, ?_, ?_, ?_, ?_, ?_⟩) g8 ⟨?_, ?_, ?_, ?_, ?_, ?_, ?_⟩
  · rw [g1, e1]; exact k_u hi
  · rw [g2, e2]; exact k_u hi
  · rw [g3, e3]; exact k_u hi
  · rw [g4, e4]; exact k_u hi
  · rw [g5, e5]; exact k_u hi
  · rw [g6, e6]; exact k_u hi
  · intro k hk
    rw [g7, r3 _ (by omega), e7]
  · rw [t1', g1, e1, k_upds]; rfl
  · rw [t1', g2, e2, k_upds]; rfl
  · rw [t1', g3, e3, k_upds]; rfl
  · rw [t1', g4, e4, k_upds]; rfl
  · rw [t2', g5, e5, k_upds]
  · rw [t1', g6, e6, k_upds]; rfl
  · intro k hk
    have hk' : k < l.length := by rw [← ep]; exact hk
    rw [g7, r4 k hk', er, hr k hk']
    congr 1; simp [ep]
theorem r_M_addBoth_115 (h : wOK C T) (q : rMt σ T) (hf : M_full σ = 0) {l : List Nat} (hN : l.length ≤ 30) (hr : ∀ k (hk : k < l.length), M_row σ k = nI l[k]) (hl : ∀ p, p ∈ l → p < Tn T) {s : Nat} (hs : s ≤ 10000) :
    ∀ (f i : Nat), i ≤ Tn T → (∀ j, j < i → Ty T j ≠ (3, 0, 0, l)) → k_pc (f_M_addBoth_115 f σ (nI l.length) (nI s) (nI i)) (rMw (wAdd T (3, 0, 0, l) s)) := by
  have hn := h.2.2.1
  have e : M_types σ = nI (Tn T) := q.1
  intro f
  induction f with
  | zero => intro i _ _; exact p_none
  | succ f ih =>
    intro i hi hq
    have full : (Tn T = 300 ∨ 100 < s) → i = Tn T → rMw (wAdd T (3, 0, 0, l) s) (0, M_set_full σ 1) := by
      intro z ei
      rw [wAdd_new (by rw [← ei]; exact hq), if_pos z]
      exact ⟨rfl, rfl⟩
    have enew : ¬ (Tn T = 300 ∨ 100 < s) → i = Tn T → wAdd T (3, 0, 0, l) s = some (Tn T, (Tn T + 1, wUp (Ty T) (Tn T) (3, 0, 0, l), wUp (Tm T) (Tn T) s)) := by
      intro z ei
      rw [wAdd_new (by rw [← ei]; exact hq), if_neg z]
    have nx : i < Tn T → Ty T i ≠ (3, 0, 0, l) → k_pc (f_M_addBoth_115 f σ (nI l.length) (nI s) (nI i + 1)) (rMw (wAdd T (3, 0, 0, l) s)) := by
      intro hi' ne
      rw [nI_1]
      refine ih (i + 1) (by omega) (fun j hj => ?_)
      by_cases z : j = i
      · rw [z]; exact ne
      · exact hq j (by omega)
    have hit : i < Tn T → Ty T i = (3, 0, 0, l) → rMw (wAdd T (3, 0, 0, l) s) (nI i, σ) := by
      intro hi' z
      rw [wAdd_hit hi' z hq]
      exact ⟨rfl, q, hf⟩
    generalize wAdd T (3, 0, 0, l) s = o at *
    rw [f_M_addBoth_115]
    unfold f_M_addBoth_115_s f_M_addBoth_228
    refine p_if (fun w => ?_) (fun w => ?_)
    · have w2 : nI (Tn T) ≤ nI i := by rw [← e]; exact w
      rw [nI_leI (by omega) (by omega)] at w2
      have ei : i = Tn T := by omega
      refine p_if (fun z => ?_) (fun z => ?_)
      · have z2 : nI (Tn T) = nI 300 := by rw [← e]; exact z
        rw [nI_eq (by omega) (by decide)] at z2
        exact p_some (full (Or.inl z2) ei)
      · have z2 : ¬ nI (Tn T) = nI 300 := by rw [← e]; exact z
        rw [nI_eq (by omega) (by decide)] at z2
        refine p_if (fun y => ?_) (fun y => ?_)
        · have y2 : nI s ≤ nI 100 := y
          rw [nI_leI (by omega) (by decide)] at y2
          rw [enew (by omega) ei]
          refine p_guard (fun _ => p_guard (fun _ => p_guard (fun _ => p_guard (fun _ => p_guard (fun _ => p_guard (fun _ => ?_))))))
          exact r_M_addBoth_new h q hN hr (by omega) _ rfl hf rfl rfl rfl rfl rfl rfl rfl rfl
        · have y2 : ¬ nI s ≤ nI 100 := y
          rw [nI_leI (by omega) (by decide)] at y2
          exact p_some (full (Or.inr (by omega)) ei)
    · have w2 : ¬ nI (Tn T) ≤ nI i := by rw [← e]; exact w
      rw [nI_leI (by omega) (by omega)] at w2
      have hi' : i < Tn T := by omega
      obtain ⟨k1, k2⟩ := rMtr_both (l := l) h hi' (q.2 i hi')
      rw [nI_clamp (show i < 2 ^ 31 by omega)]
      refine p_guard (fun _ => p_if (fun z => ?_) (fun z => ?_))
      · have z3 := k1.mpr z
        have ec : M_partCount σ i = nI (dL (Ty T i)).length := by
          rw [(q.2 i hi').2.2.2.2.2.1]
          unfold wPc
          rw [if_neg (by omega)]
        have l30 := (wT_both h.2 hi' z3).2.2.1
        rw [ec]
        refine p_guard (fun _ => p_if (fun y => ?_) (fun y => ?_))
        · rw [nI_eq (by omega) (by omega)] at y
          exact r_M_addBoth_153 h q hN hr hl hi' _ (nx hi') (hit hi') 1000 0 1 (by omega) (Or.inr ⟨rfl, z3, y, fun j _ _ hj => by omega⟩)
        · exact r_M_addBoth_153 h q hN hr hl hi' _ (nx hi') (hit hi') 1000 0 0 (by omega) (Or.inl ⟨rfl, fun z => y (by rw [(k2.mp z).2])⟩)
      · exact r_M_addBoth_153 h q hN hr hl hi' _ (nx hi') (hit hi') 1000 0 0 (by omega) (Or.inl ⟨rfl, fun y => z (k1.mp (k2.mp y).1)⟩)
theorem r_M_addBoth_88 (h : wOK C T) (q : rMt σ T) (hf : M_full σ = 0) {l : List Nat} (hN : l.length ≤ 30) (hr : ∀ k (hk : k < l.length), M_row σ k = nI l[k]) (hl : ∀ p, p ∈ l → p < Tn T) :
    ∀ (f i : Nat), i ≤ l.length → k_pc (f_M_addBoth_88 f σ (nI l.length) (nI (1 + wSum T (l.take i))) (nI i)) (rMw (wAdd T (3, 0, 0, l) (1 + wSum T l))) := by
  have hn := h.2.2.1
  have hb := wSum_b h.2 l hl
  intro f
  induction f with
  | zero => intro i _; exact p_none
  | succ f ih =>
    intro i hi
    rw [f_M_addBoth_88]
    unfold f_M_addBoth_88_s
    refine p_if (fun z => ?_) (fun z => ?_)
    · rw [nI_leI (by omega) (by omega)] at z
      have ei : i = l.length := by omega
      subst ei
      rw [List.take_length]
      exact r_M_addBoth_115 h q hf hN hr hl (by omega) 1000 0 (by omega) (fun j hj => by omega)
    · rw [nI_leI (by omega) (by omega)] at z
      have hi' : i < l.length := by omega
      have b := hl _ (List.getElem_mem hi')
      rw [nI_clamp (show i < 2 ^ 31 by omega), hr i hi', nI_clamp (show l[i] < 2 ^ 31 by omega), (q.2 _ b).2.2.2.2.1]
      refine p_guard (fun _ => p_guard (fun _ => ?_))
      rw [nI_add, nI_1, show 1 + wSum T (l.take i) + Tm T l[i] = 1 + wSum T (l.take (i + 1)) by rw [wSum_take l i hi']; omega]
      exact ih (i + 1) (by omega)
end
-- part 08.62.both2.lean.txt
/-! Tier 3: an INTERSECTION's row, in the order of its classes: there is one such list alone. -/
theorem vUniq (κ : Nat → Nat) : ∀ (l m : List Nat), l.Pairwise (fun a b => κ a < κ b) → m.Pairwise (fun a b => κ a < κ b) → (∀ x, x ∈ l ↔ x ∈ m) → l = m := by
  intro l
  induction l with
  | nil =>
    intro m _ _ h
    cases m with
    | nil => rfl
    | cons b m => exact absurd ((h b).mpr (by simp)) (by simp)
  | cons a l ih =>
    intro m hl hm h
    cases m with
    | nil => exact absurd ((h a).mp (by simp)) (by simp)
    | cons b m =>
      have hl1 := (List.pairwise_cons.mp hl)
      have hm1 := (List.pairwise_cons.mp hm)
      have ab : a = b := by
        rcases List.mem_cons.mp ((h a).mp (by simp)) with e | e
        · exact e
        · rcases List.mem_cons.mp ((h b).mpr (by simp)) with e2 | e2
          · exact e2.symm
          · have := hm1.1 a e
            have := hl1.1 b e2
            omega
      subst ab
      have : l = m := by
        refine ih m hl1.2 hm1.2 (fun x => ⟨fun hx => ?_, fun hx => ?_⟩)
        · rcases List.mem_cons.mp ((h x).mp (by simp [hx])) with e | e
          · subst e; have := hl1.1 x hx; omega
          · exact e
        · rcases List.mem_cons.mp ((h x).mpr (by simp [hx])) with e | e
          · subst e; have := hm1.1 x hx; omega
          · exact e
      rw [this]
/-- l is m, in the order of the classes -/
def wSo (T : wWt) (l m : List Nat) : Prop := l.Pairwise (fun a b => dX (Ty T a) < dX (Ty T b)) ∧ ∀ x, x ∈ l ↔ x ∈ m
theorem wSo_uniq {T : wWt} {l l' m : List Nat} (h : wSo T l m) (h' : wSo T l' m) : l = l' := vUniq (fun p => dX (Ty T p)) l l' h.1 h'.1 (fun x => (h.2 x).trans (h'.2 x).symm)
section
variable {σ : StM} {C : wWc} {T : wWt} {g : Nat}
theorem r_M_addBoth_2 (h : wOK C T) (q : rMt σ T) (hf : M_full σ = 0) {m : List Nat} (hw : ∀ p, p ∈ m → p < Tn T ∧ dK (Ty T p) = 1) (hN : m.length ≤ 30) :
    ∀ (f i : Nat) (ρ : Nat → Int32) (v : Nat → Nat), i ≤ m.length + 1 → vRw ρ m.length v → vPm m.length v (fun j => m.getD j 0) → vDs (fun p => dX (Ty T p)) m.length v → vSr (fun p => dX (Ty T p)) (min i m.length) v → k_pc (f_M_addBoth_2 f (M_set_row σ ρ) (nI m.length) (nI i)) (fun r => ∃ l, wSo T l m ∧ l.length = m.length ∧ rMw (wAdd T (3, 0, 0, l) (1 + wSum T l)) r) := by
  have hn := h.2.2.1
  have hw' : ∀ j, j < m.length → m.getD j 0 < Tn T ∧ dK (Ty T (m.getD j 0)) = 1 := by
    intro j hj
    have : m.getD j 0 = m[j] := by simp [List.getD, hj]
    rw [this]; exact hw _ (List.getElem_mem hj)
  intro f
  induction f with
  | zero => intro i ρ v _ _ _ _ _; exact p_none
  | succ f ih =>
    intro i ρ v h1 h2 h3 h4 h5
    rw [f_M_addBoth_2]
    unfold f_M_addBoth_2_s
    refine p_if (fun z => ?_) (fun z => ?_)
    · rw [nI_leI (by omega) (by omega)] at z
      rw [show min i m.length = m.length by omega] at h5
      have hl : ((List.range m.length).map v).length = m.length := by simp
      have hg : ∀ k (hk : k < ((List.range m.length).map v).length), ((List.range m.length).map v)[k] = v k := by
        intro k hk; simp
      have mem : ∀ x, x ∈ (List.range m.length).map v ↔ x ∈ m := by
        intro x
        have e := h3 x
        constructor
        · intro hx
          obtain ⟨j, j1, j2⟩ := List.mem_map.mp hx
          obtain ⟨k, k1, k2⟩ := e.mp ⟨j, List.mem_range.mp j1, j2⟩
          have : m.getD k 0 = m[k] := by simp [List.getD, k1]
          replace k2 : m.getD k 0 = x := k2
          rw [← k2, this]; exact List.getElem_mem k1
        · intro hx
          obtain ⟨k, k1, k2⟩ := List.mem_iff_getElem.mp hx
          obtain ⟨j, j1, j2⟩ := e.mpr ⟨k, k1, by show m.getD k 0 = x; rw [← k2]; simp [List.getD, k1]⟩
          exact List.mem_map.mpr ⟨j, List.mem_range.mpr j1, j2⟩
      have base := r_M_addBoth_88 (σ := M_set_row σ ρ) (l := (List.range m.length).map v) h q hf (by omega) (fun k hk => ?_) (fun p hp => (hw p ((mem p).mp hp)).1) 1000 0 (by omega)
      · rw [hl] at base
        refine p_mono base (fun r hr => ⟨_, ⟨?_, mem⟩, hl, hr⟩)
        rw [List.pairwise_iff_getElem]
        intro a b ha hb ab
        rw [hg a ha, hg b hb]
        exact h5 a b ab (by omega)
      · show ρ k = _
        rw [hg k hk]; exact h2 k (by omega)
    · rw [nI_leI (by omega) (by omega)] at z
      rw [show min i m.length = i by omega] at h5
      refine r_M_addBoth_9 h q hw' (by omega) (by omega) _ (fun ρ' v' a1 a2 a3 a4 => ?_) 1000 i ρ v (by omega) h2 h3 h4 (fun a b ab hb ai bi => ?_) (fun b ib hb => by omega)
      · rw [nI_1]
        refine ih (i + 1) ρ' v' (by omega) a1 a2 a3 ?_
        rw [show min (i + 1) m.length = i + 1 by omega]; exact a4
      · exact h5 a b ab (by omega)
theorem r_M_addBoth (h : wOK C T) (q : rMt σ T) (hf : M_full σ = 0) {m : List Nat} (hw : ∀ p, p ∈ m → p < Tn T ∧ dK (Ty T p) = 1) (hN : m.length ≤ 30) (hr : ∀ k (hk : k < m.length), M_row σ k = nI m[k]) (hd : ∀ j k (hj : j < m.length) (hk : k < m.length), dX (Ty T m[j]) = dX (Ty T m[k]) → j = k) :
    k_pc (f_M_addBoth σ (nI m.length)) (fun r => ∃ l, wSo T l m ∧ l.length = m.length ∧ rMw (wAdd T (3, 0, 0, l) (1 + wSum T l)) r) := by
  unfold f_M_addBoth
  have hg : ∀ k (hk : k < m.length), m.getD k 0 = m[k] := by
    intro k hk; simp [List.getD, hk]
  refine r_M_addBoth_2 h q hf hw hN 1000 1 (M_row σ) (fun j => m.getD j 0) (by omega) (fun j hj => ?_) (fun x => Iff.rfl) (fun a b ha hb e => ?_) (fun a b ab hb => by omega)
  · show M_row σ j = nI (m.getD j 0)
    rw [hr j hj, hg j hj]
  · replace e : dX (Ty T (m.getD a 0)) = dX (Ty T (m.getD b 0)) := e
    rw [hg a ha, hg b hb] at e
    exact hd a b ha hb e
end
-- part 08.63.look.lean.txt
/-! Tier 3: LOOK, of both. -/
def rL (σ : StL) (C : wWc) (g : Nat) (T0 T : wWt) : Prop := rC (L_classes σ) C g ∧ rT (L_types σ) T0 T
theorem wIo_m1 {o : Option Nat} (h : ∀ r, o = some r → r < 2 ^ 31) : wIo o = -1 ↔ o = none := by
  cases o with
  | none => exact ⟨fun _ => rfl, fun _ => rfl⟩
  | some r => exact ⟨fun e => absurd e (k_ne1 (h r rfl)), fun e => by cases e⟩
theorem wOk_b {t : Nat} {g : Bool} {a : Nat} (h : wOk t g a) : a ≠ 3 ∧ a ≤ 4 * t + 2 := by
  rcases h with ⟨_, h⟩ | ⟨_, x, x1, x2, x3⟩
  · omega
  · omega
section
variable {σ : StL} {C : wWc} {T0 T : wWt} {g : Nat}
theorem r_L_find_75 (h : wOK C T) (r : rL σ C g T0 T) {i b p : Nat} (hp : p < Tn T) (hk : dK (Ty T p) = 1) (hb : b < Wn C) (x1 x3 x4 : Int32) (k41 : StL → Int32 → Int32 → Int32 → Int32 → Option Int32) {Q : Int32 → Prop}
    (h1 : wCl C (dX (Ty T p)) (dA (Ty T p)) b = none → k_pc (k41 σ x1 (nI b) x3 (x4 + 1)) Q) (h2 : ∀ s, wCl C (dX (Ty T p)) (dA (Ty T p)) b = some s → Q (nI s)) : k_pc (f_L_find_75 k41 σ x1 (nI b) x3 x4 (nI p)) Q := by
  have hn := h.2.2.1
  obtain ⟨_, p1, p2, _⟩ := wT_named h.2 hp hk
  unfold f_L_find_75
  rw [r_T_classOf h.2 r.2 hp, if_pos hk]
  show k_pc ((f_T_argumentAt (L_types σ) (nI p)).bind _) Q
  rw [r_T_argumentAt h.2 r.2 hp]
  show k_pc ((f_C_climb (L_classes σ) (nI (dX (Ty T p))) (nI (dA (Ty T p))) (nI b)).bind _) Q
  rw [← wEn_n (wOk_b p2).1, r_C_climb h.1 hn r.1 _ p1 hb]
  cases hc : wCl C (dX (Ty T p)) (dA (Ty T p)) b with
  | none =>
    show k_pc (if wEo none = -1 then k41 σ x1 (nI b) x3 (x4 + 1) else some (wEo none)) Q
    exact p_if (fun _ => h1 hc) (fun z => absurd rfl z)
  | some s =>
    have so := wCl_ok h.1 _ _ _ _ p1 (wOk_mono p2 (by omega)) hc
    have sb := wOk_b so
    show k_pc (if wEn s = -1 then _ else some (wEn s)) Q
    rw [wEn_n sb.1]
    exact p_if (fun z => absurd z (k_ne1 (by omega))) (fun _ => p_some (h2 s hc))
theorem wHo_len (h : wTok C T) {i : Nat} (hi : i < Tn T) (h2 : dK (Ty T i) ≠ 2) : (wHo T i).length = if 1 < wPc (Ty T i) then wPc (Ty T i) else 1 := by
  unfold wHo wPc
  rcases wT_kind h hi with ⟨q1, q2⟩ | ⟨q1, q2 | q2 | q2⟩
  · rw [if_pos q1]
    obtain ⟨_, _, h1 | ⟨h0, _⟩ | ⟨h0, _⟩ | ⟨h0, _⟩⟩ := h.2.2.1 i hi
    · rw [h1.2.1]; rfl
    · omega
    · omega
    · omega
  · rw [if_neg (by omega), if_pos q2, if_pos q2]; rfl
  · exact absurd q2 h2
  · obtain ⟨_, w1, _⟩ := wT_both h hi q2
    have n1 : ¬ dK (Ty T i) = 1 := by omega
    have n0 : ¬ dK (Ty T i) = 0 := by omega
    rw [if_neg n0, if_neg n1, if_neg n1, if_pos (by omega)]
theorem r_L_find_41 (h : wOK C T) (r : rL σ C g T0 T) {i b : Nat} (hi : i < Tn T) (h2 : dK (Ty T i) ≠ 2) (hb : b < Wn C) : ∀ (f k : Nat), k ≤ (wHo T i).length → k_pc (f_L_find_41 f σ (nI i) (nI b) (nI (wHo T i).length) (nI k)) (fun v => v = wIo (wLs C T b ((wHo T i).drop k))) := by
  have hn := h.2.2.1
  have hl : (wHo T i).length ≤ 30 := by
    rw [wHo_len h.2 hi h2]
    have := wPc_le h.2 hi
    split <;> omega
  intro f
  induction f with
  | zero => intro k _; exact p_none
  | succ f ih =>
    intro k hk
    rw [f_L_find_41]
    unfold f_L_find_41_s
    refine p_if (fun z => p_some ?_) (fun z => ?_)
    · rw [nI_leI (by omega) (by omega)] at z
      rw [show k = (wHo T i).length by omega, List.drop_length]; rfl
    · rw [nI_leI (by omega) (by omega)] at z
      have hk' : k < (wHo T i).length := by omega
      have hp := wHo_ok h.2 hi h2 (List.getElem_mem hk')
      have key : k_pc (f_L_find_75 (f_L_find_41 f) σ (nI i) (nI b) (nI (wHo T i).length) (nI k) (nI (wHo T i)[k])) (fun v => v = wIo (wLs C T b ((wHo T i).drop k))) := by
        rw [List.drop_eq_getElem_cons hk', wLs]
        refine r_L_find_75 (i := i) h r hp.2.1 hp.2.2 hb _ _ _ _ (fun e => ?_) (fun s e => ?_)
        · rw [e, nI_1]; exact ih (k + 1) (by omega)
        · rw [e]; rfl
      rw [r_T_kindOf h.2 r.2 hi]
      show k_pc (if nI (dK (Ty T i)) = 0 then _ else _) _
      have kl := wK_lt h.2 hi
      refine p_if (fun y => ?_) (fun y => ?_)
      · have y2 : nI (dK (Ty T i)) = nI 0 := y
        rw [nI_eq (by omega) (by decide)] at y2
        have e : (wHo T i)[k] = 8 + i := by
          have e1 : wHo T i = [i + 8] := by unfold wHo; rw [if_pos y2]
          have e2 : k = 0 := by rw [e1] at hk'; simpa using hk'
          subst e2
          simp [e1]; omega
        rw [e] at key
        show k_pc (f_L_find_75 (f_L_find_41 f) σ (nI i) (nI b) (nI (wHo T i).length) (nI k) (nI 8 + nI i)) _
        rw [nI_add]; exact key
      · have y2 : ¬ nI (dK (Ty T i)) = nI 0 := y
        rw [nI_eq (by omega) (by decide)] at y2
        have ep : wPs T i = wHo T i := by
          unfold wPs wHo; rw [if_neg y2]
        rw [r_T_partOf h.2 r.2 hi (k := k) (by rw [ep]; exact hk')]
        have e : (wPs T i)[k]'(by rw [ep]; exact hk') = (wHo T i)[k] := by simp [ep]
        rw [e]
        exact key
theorem r_L_find (h : wOK C T) (r : rL σ C g T0 T) {i b : Nat} (hi : i < Tn T) (hb : b < Wn C) : k_pc (f_L_find σ (nI i) (nI b)) (fun v => v = wIo (wLk C T i b)) := by
  have hn := h.2.2.1
  have hC := h.1.2.1
  have kl := wK_lt h.2 hi
  unfold f_L_find
  rw [r_T_kindOf h.2 r.2 hi]
  show k_pc (if nI (dK (Ty T i)) = 2 then _ else _) _
  refine p_if (fun z => ?_) (fun z => ?_)
  · have z2 : nI (dK (Ty T i)) = nI 2 := z
    rw [nI_eq (by omega) (by decide)] at z2
    have yes : b < 3 → k_pc (f_L_find_26 σ) (fun v => v = wIo (wLk C T i b)) := by
      intro y
      refine p_some ?_
      unfold wLk; rw [if_pos z2, if_pos y]; rfl
    have cmp : ∀ m, m < 3 → (nI b = nI m ↔ b = m) := fun m hm => nI_eq (by omega) (by omega)
    refine p_if (fun y => yes ?_) (fun y1 => p_if (fun y => yes ?_) (fun y2 => p_if (fun y => yes ?_) (fun y3 => p_some ?_)))
    · have := (cmp 0 (by omega)).mp y; omega
    · have := (cmp 1 (by omega)).mp y; omega
    · have := (cmp 2 (by omega)).mp y; omega
    · have n0 : ¬ b = 0 := fun e => y1 ((cmp 0 (by omega)).mpr e)
      have n1 : ¬ b = 1 := fun e => y2 ((cmp 1 (by omega)).mpr e)
      have n2 : ¬ b = 2 := fun e => y3 ((cmp 2 (by omega)).mpr e)
      unfold wLk; rw [if_pos z2, if_neg (by omega)]; rfl
  · have z2 : ¬ nI (dK (Ty T i)) = nI 2 := z
    rw [nI_eq (by omega) (by decide)] at z2
    unfold f_L_countHolders
    rw [r_T_countParts h.2 r.2 hi]
    show k_pc (f_L_find_41 1000 σ (nI i) (nI b) (if (1 : Int32) < nI (wPc (Ty T i)) then nI (wPc (Ty T i)) else 1) 0) _
    have w30 := wPc_le h.2 hi
    have e : (if (1 : Int32) < nI (wPc (Ty T i)) then nI (wPc (Ty T i)) else 1) = nI (wHo T i).length := by
      rw [wHo_len h.2 hi z2]
      by_cases y : 1 < wPc (Ty T i)
      · have y2 : (1 : Int32) < nI (wPc (Ty T i)) := by show nI 1 < nI (wPc (Ty T i)); rw [nI_ltI (by decide) (by omega)]; exact y
        rw [if_pos y, if_pos y2]
      · have y2 : ¬ (1 : Int32) < nI (wPc (Ty T i)) := by show ¬ nI 1 < nI (wPc (Ty T i)); rw [nI_ltI (by decide) (by omega)]; exact y
        rw [if_neg y, if_neg y2]; rfl
    rw [e]
    refine p_mono (r_L_find_41 h r hi z2 hb 1000 0 (by omega)) (fun v hv => ?_)
    rw [hv, List.drop_zero]
    unfold wLk; rw [if_neg z2]
end
/-- what a LOOK leaves in the reference's state -/
def rFd (σ : StM) (o : Option Nat) (r : Int32 × StM) : Prop := match o with
  | some s => r.2 = mF σ 1 (wH s) (wTd s)
  | none => ∃ h g, r.2 = mF σ 0 h g
section
variable {σ : StM} {C : wWc} {T : wWt} {g : Nat}
theorem wHx_sb (a s : Nat) : wHx (wH a) s = wH (wSb a s) := by
  unfold wHx wSb
  by_cases h : s = 3
  · rw [if_pos h, if_pos h]
  · rw [if_neg h, if_neg h]
theorem wGx_sb (a s : Nat) : wGx (wTd a) s = wTd (wSb a s) := by
  unfold wGx wSb
  by_cases h : s = 3
  · rw [if_pos h, if_pos h]
  · rw [if_neg h, if_neg h]
theorem r_M_climb_at (h : wOK C T) (r : rMc σ C g) (q : rMt σ T) {p b : Nat} (hp : p < Tn T) (hk : dK (Ty T p) = 1) (hb : b < Wn C) : k_pc (f_M_climb σ (M_classOf σ p) (M_how σ p) (M_inner σ p) (nI b)) (rFd σ (wCl C (dX (Ty T p)) (dA (Ty T p)) b)) := by
  obtain ⟨_, p1, p2, _⟩ := wT_named h.2 hp hk
  obtain ⟨_, q2, q3, q4, _⟩ := q.2 p hp
  rw [q2, q3, q4, if_pos hk, if_pos hk, if_pos hk, wCl_sub h.1 _ _ _ p1]
  obtain ⟨c1, c2⟩ := r_M_climb h.1 h.2.2.1 r p1 hb (wH (dA (Ty T p))) (wTd (dA (Ty T p)))
  cases hc : wCl C (dX (Ty T p)) 3 b with
  | none =>
    refine p_mono (p_ok (c2 hc)) (fun r hr => ?_)
    exact ⟨_, _, hr⟩
  | some s =>
    refine p_mono (p_ok (c1 s hc)) (fun r hr => ?_)
    rw [wHx_sb, wGx_sb] at hr
    exact hr
theorem r_M_lookAt_57 (h : wOK C T) (r : rMc σ C g) (q : rMt σ T) {i b : Nat} (hi : i < Tn T) (hb : b < Wn C) :
    ∀ (f k : Nat) (hh gg : Int32), k ≤ (wPs T i).length → k_pc (f_M_lookAt_57 f (mF σ 0 hh gg) (nI b) (nI i) (nI k)) (rFd σ (wLs C T b ((wPs T i).drop k))) := by
  have hn := h.2.2.1
  have hl : (wPs T i).length ≤ 30 := by rw [wPs_len h.2 hi]; exact wPc_le h.2 hi
  intro f
  induction f with
  | zero => intro k hh gg _; exact p_none
  | succ f ih =>
    intro k hh gg hk
    rw [f_M_lookAt_57]
    unfold f_M_lookAt_57_s
    rw [nI_clamp (show i < 2 ^ 31 by omega), show M_partCount (mF σ 0 hh gg) i = nI (wPs T i).length from by rw [wPs_len h.2 hi]; exact (q.2 i hi).2.2.2.2.2.1]
    refine p_guard (fun _ => p_if (fun z => p_some ?_) (fun z => ?_))
    · rw [nI_leI (by omega) (by omega)] at z
      rw [show k = (wPs T i).length by omega, List.drop_length]
      exact ⟨hh, gg, rfl⟩
    · rw [nI_leI (by omega) (by omega)] at z
      have hk' : k < (wPs T i).length := by omega
      obtain ⟨p1, p2, p3⟩ := wPs_ok h.2 hi (List.getElem_mem hk')
      refine p_if (fun _ => ?_) (fun z => absurd rfl z)
      have cl : (30 * nI i + nI k).toNatClampNeg = 30 * i + k := by rw [k_30ix]; exact nI_clamp (by omega)
      rw [cl, show M_partRow (mF σ 0 hh gg) (30 * i + k) = nI (wPs T i)[k] from (q.2 i hi).2.2.2.2.2.2 k hk', nI_clamp (show (wPs T i)[k] < 2 ^ 31 by omega)]
      refine p_guard (fun _ => p_guard (fun _ => p_guard (fun _ => p_guard (fun _ => ?_))))
      rw [List.drop_eq_getElem_cons hk', wLs]
      refine p_bind (r_M_climb_at (σ := mF σ 0 hh gg) (g := g) h r q p2 p3 hb) ?_
      rintro ⟨v, τ⟩ hv
      rw [nI_1]
      cases hc : wCl C (dX (Ty T (wPs T i)[k])) (dA (Ty T (wPs T i)[k])) b with
      | none =>
        rw [hc] at hv
        obtain ⟨h', g', e⟩ := hv
        replace e : τ = mF σ 0 h' g' := e
        rw [e]
        exact ih (k + 1) h' g' (by omega)
      | some s =>
        rw [hc] at hv
        replace hv : τ = mF σ 1 (wH s) (wTd s) := hv
        rw [hv]
        show k_pc (f_M_lookAt_57 f (mF σ 1 (wH s) (wTd s)) (nI b) (nI i) (nI (k + 1))) _
        cases f with
        | zero => exact p_none
        | succ f =>
          rw [f_M_lookAt_57]
          unfold f_M_lookAt_57_s
          refine p_guard (fun _ => p_if (fun _ => p_some rfl) (fun _ => p_if (fun z => absurd z (by decide : ¬ (1 : Int32) = 0)) (fun _ => p_some rfl)))
theorem wLk_box (h : wTok C T) {i : Nat} (hi : i < 8) (b : Nat) : wLk C T i b = wLk C T (i + 8) b := by
  have h16 := h.1
  have k0 : dK (Ty T i) = 0 := by
    rcases wT_kind h (show i < Tn T by omega) with ⟨q, _⟩ | ⟨q, _⟩
    · exact q
    · omega
  have k1 : dK (Ty T (i + 8)) = 1 := by rw [h.2.2.2 (i + 8) (by omega) (by omega)]
  rw [wLk_one T (q := i + 8) (by omega) (by unfold wHo; rw [if_pos k0]), wLk_named T k1]
theorem r_M_lookAt_14 (h : wOK C T) (r : rMc σ C g) (q : rMt σ T) {i b : Nat} (h8 : 8 ≤ i) (hi : i < Tn T) (hb : b < Wn C) : k_pc (f_M_lookAt_14 σ (nI b) (nI i)) (rFd σ (wLk C T i b)) := by
  have hn := h.2.2.1
  have hC := h.1.2.1
  have kl := wK_lt h.2 hi
  have ek : M_kind (M_set_found σ 0) i = nI (dK (Ty T i)) := (q.2 i hi).1
  unfold f_M_lookAt_14
  rw [nI_clamp (show i < 2 ^ 31 by omega), ek]
  refine p_guard (fun _ => p_if (fun z => ?_) (fun z => ?_))
  · have z2 : nI (dK (Ty T i)) = nI 2 := z
    rw [nI_eq (by omega) (by decide)] at z2
    have el : wPs T i = [] := by
      obtain ⟨_, _, h1 | ⟨_, _, _, h0, _⟩ | ⟨_, _, h0, _⟩ | ⟨_, _, h0, _⟩⟩ := h.2.2.2.1 i hi
      · omega
      · rw [h0] at z2; cases z2
      · unfold wPs; rw [h0]; rfl
      · rw [h0] at z2; cases z2
    have ec : M_partCount σ i = nI 0 := by
      rw [(q.2 i hi).2.2.2.2.2.1, ← wPs_len h.2 hi, el]; rfl
    have go : ∀ a : Int32, k_pc (f_M_lookAt_41 (M_set_found σ 0) (nI b) (nI i) a) (fun r => r.2 = mF σ a 0 (-1)) := by
      intro a
      unfold f_M_lookAt_41
      refine p_guard (fun _ => ?_)
      rw [f_M_lookAt_57]
      unfold f_M_lookAt_57_s
      rw [nI_clamp (show i < 2 ^ 31 by omega)]
      refine p_guard (fun _ => p_if (fun _ => p_some rfl) (fun y => ?_))
      replace y : ¬ M_partCount σ i ≤ 0 := y
      rw [ec] at y
      exact absurd (show nI 0 ≤ nI 0 by rw [nI_leI (by decide) (by decide)]; omega) y
    refine p_if (fun y => ?_) (fun y => ?_)
    · have y2 : nI 3 ≤ nI b := y
      rw [nI_leI (by decide) (by omega)] at y2
      unfold wLk
      rw [if_pos z2, if_neg (by omega)]
      exact p_mono (go 0) (fun r hr => ⟨_, _, hr⟩)
    · have y2 : ¬ nI 3 ≤ nI b := y
      rw [nI_leI (by decide) (by omega)] at y2
      unfold wLk
      rw [if_pos z2, if_pos (by omega)]
      exact go 1
  · have z2 : ¬ nI (dK (Ty T i)) = nI 2 := z
    rw [nI_eq (by omega) (by decide)] at z2
    have ep : wHo T i = wPs T i := by
      rcases wT_kind h.2 hi with ⟨_, w⟩ | ⟨_, w⟩
      · omega
      · unfold wPs wHo; rw [if_neg (by omega)]
    unfold wLk
    rw [if_neg z2, ep]
    have := r_M_lookAt_57 h r q hi hb 1000 0 (M_foundHow σ) (M_foundType σ) (by omega)
    rw [List.drop_zero] at this
    exact this
theorem r_M_lookAt (h : wOK C T) (r : rMc σ C g) (q : rMt σ T) {i b : Nat} (hi : i < Tn T) (hb : b < Wn C) : k_pc (f_M_lookAt σ (nI i) (nI b)) (rFd σ (wLk C T i b)) := by
  have hn := h.2.2.1
  have h16 := h.2.1
  unfold f_M_lookAt
  refine p_if (fun z => ?_) (fun z => ?_)
  · have z2 : nI 8 ≤ nI i := z
    rw [nI_leI (by decide) (by omega)] at z2
    exact r_M_lookAt_14 h r q z2 hi hb
  · have z2 : ¬ nI 8 ≤ nI i := z
    rw [nI_leI (by decide) (by omega)] at z2
    have e : nI i + 8 = nI (i + 8) := nI_add i 8
    rw [e, wLk_box h.2 (by omega)]
    exact r_M_lookAt_14 h r q (by omega) (by omega) hb
end
-- part 08.64.common.lean.txt
/-! Tier 3: COMMON and LEAST classes, of both. -/
def wSee (C : wWc) (T : wWt) (i b : Nat) : Bool := (wLk C T i b).isSome
def wAny (C : wWc) (T : wWt) (b : Nat) (l : List Nat) : Bool := l.any (fun p => wTw C (dX (Ty T p)) b)
def wLea (C : wWc) (s : Nat → Bool) (b : Nat) : Bool := s b && !((wfs (fun c => s c && Wu C c b) (Wn C) 0).isSome)
theorem wLs_any {C : wWc} {T : wWt} (h : wOK C T) (b : Nat) : ∀ (l : List Nat), (∀ p, p ∈ l → p < Tn T ∧ dK (Ty T p) = 1) → (wLs C T b l).isSome = wAny C T b l := by
  intro l
  induction l with
  | nil => intro _; rfl
  | cons p l ih =>
    intro hl
    obtain ⟨p1, p2⟩ := hl p (by simp)
    obtain ⟨_, p3, _⟩ := wT_named h.2 p1 p2
    have ih' := ih (fun q hq => hl q (by simp [hq]))
    rw [wLs]
    unfold wAny at ih' ⊢
    rw [List.any_cons]
    cases hu : wTw C (dX (Ty T p)) b with
    | true =>
      obtain ⟨r, hr⟩ := wCl_some h.1 _ (dA (Ty T p)) b p3 hu
      rw [hr]; rfl
    | false => rw [wCl_none h.1 _ p3 hu, Bool.false_or]; exact ih'
section
variable {σ : StL} {C : wWc} {T0 T : wWt} {g : Nat}
theorem r_L_foundIn_72 (h : wOK C T) (r : rL σ C g T0 T) {i : Nat} (hi : i < Tn T) : ∀ (f k : Nat) (x2 : Int32), k ≤ (wPs T i).length → k_pc (f_L_foundIn_72 f σ (nI i) x2 (nI (wPs T i).length) (nI k)) (fun v => ∀ b, b < 32 → bt v b = (bt x2 b || wAny C T b ((wPs T i).drop k))) := by
  have hn := h.2.2.1
  have hl : (wPs T i).length ≤ 30 := by rw [wPs_len h.2 hi]; exact wPc_le h.2 hi
  intro f
  induction f with
  | zero => intro k x2 _; exact p_none
  | succ f ih =>
    intro k x2 hk
    rw [f_L_foundIn_72]
    unfold f_L_foundIn_72_s
    refine p_if (fun z => p_some (fun b hb => ?_)) (fun z => ?_)
    · rw [nI_leI (by omega) (by omega)] at z
      rw [show k = (wPs T i).length by omega, List.drop_length]
      show bt x2 b = (bt x2 b || false)
      rw [Bool.or_false]
    · rw [nI_leI (by omega) (by omega)] at z
      have hk' : k < (wPs T i).length := by omega
      obtain ⟨p1, p2, p3⟩ := wPs_ok h.2 hi (List.getElem_mem hk')
      rw [r_T_partOf h.2 r.2 hi hk']
      show k_pc ((f_T_classOf (L_types σ) (nI (wPs T i)[k])).bind _) _
      rw [r_T_classOf h.2 r.2 p2, if_pos p3]
      obtain ⟨v, v1, v2⟩ := r_C_withAbove h.1 r.1 (wT_named h.2 p2 p3).2.1
      show k_pc ((f_C_withAbove (L_classes σ) (nI (dX (Ty T (wPs T i)[k])))).bind _) _
      rw [v1]
      show k_pc (f_L_foundIn_72 f σ (nI i) (x2 ||| v) (nI (wPs T i).length) (nI k + 1)) _
      rw [nI_1]
      refine p_mono (ih (k + 1) (x2 ||| v) (by omega)) (fun w hw b hb => ?_)
      rw [hw b hb, b_or, v2 b hb, List.drop_eq_getElem_cons hk']
      unfold wAny
      rw [List.any_cons, Bool.or_assoc]
theorem bt_7 : ∀ b, b < 32 → bt 7 b = decide (b < 3) := by decide +kernel
theorem r_L_foundIn (h : wOK C T) (r : rL σ C g T0 T) {i : Nat} (hi : i < Tn T) : k_pc (f_L_foundIn σ (nI i)) (fun v => ∀ b, b < 32 → bt v b = wSee C T i b) := by
  have hn := h.2.2.1
  have h16 := h.2.1
  have kl := wK_lt h.2 hi
  unfold f_L_foundIn
  rw [r_T_kindOf h.2 r.2 hi]
  show k_pc (if nI (dK (Ty T i)) = 0 then _ else _) _
  refine p_if (fun z => ?_) (fun z => ?_)
  · have z2 : nI (dK (Ty T i)) = nI 0 := z
    rw [nI_eq (by omega) (by decide)] at z2
    have i8 : i < 8 := by
      rcases wT_kind h.2 hi with ⟨_, w⟩ | ⟨_, w⟩
      · exact w
      · omega
    have k1 : dK (Ty T (8 + i)) = 1 := by rw [h.2.2.2.2 (8 + i) (by omega) (by omega)]
    have e : f_L_boxTypeOf (nI i) = nI (8 + i) := nI_add 8 i
    rw [e, r_T_classOf h.2 r.2 (by omega), if_pos k1]
    have p3 := (wT_named h.2 (show 8 + i < Tn T by omega) k1).2.1
    obtain ⟨v, v1, v2⟩ := r_C_withAbove h.1 r.1 p3
    show k_pc ((f_C_withAbove (L_classes σ) (nI (dX (Ty T (8 + i))))).bind _) _
    rw [v1]
    refine p_some (fun b hb => ?_)
    rw [v2 b hb]
    have eh : wHo T i = [8 + i] := by unfold wHo; rw [if_pos z2, Nat.add_comm]
    unfold wSee wLk
    rw [if_neg (by omega), wLs_any h b _ (fun p hp => (wHo_ok h.2 hi (by omega) hp).2), eh]
    unfold wAny
    simp
  · have z2 : ¬ nI (dK (Ty T i)) = nI 0 := z
    rw [nI_eq (by omega) (by decide)] at z2
    refine p_if (fun y => ?_) (fun y => ?_)
    · have y2 : nI (dK (Ty T i)) = nI 2 := y
      rw [nI_eq (by omega) (by decide)] at y2
      refine p_some (fun b hb => ?_)
      rw [bt_7 b hb]
      unfold wSee wLk
      rw [if_pos y2]
      by_cases w : b < 3
      · rw [if_pos w, decide_eq_true w]; rfl
      · rw [if_neg w, decide_eq_false w]; rfl
    · have y2 : ¬ nI (dK (Ty T i)) = nI 2 := y
      rw [nI_eq (by omega) (by decide)] at y2
      rw [r_T_countParts h.2 r.2 hi, ← wPs_len h.2 hi]
      show k_pc (f_L_foundIn_72 1000 σ (nI i) 0 (nI (wPs T i).length) 0) _
      refine p_mono (r_L_foundIn_72 h r hi 1000 0 0 (by omega)) (fun v hv b hb => ?_)
      rw [hv b hb, b_0, Bool.false_or, List.drop_zero]
      have ep : wHo T i = wPs T i := by unfold wPs wHo; rw [if_neg z2]
      unfold wSee wLk
      rw [if_neg y2, wLs_any h b _ (fun p hp => (wHo_ok h.2 hi y2 hp).2), ep]
theorem r_L_commonOf (h : wOK C T) (r : rL σ C g T0 T) {i j : Nat} (hi : i < Tn T) (hj : j < Tn T) : k_pc (f_L_commonOf σ (nI i) (nI j)) (fun v => ∀ b, b < 32 → bt v b = (wSee C T i b && wSee C T j b)) := by
  unfold f_L_commonOf
  refine p_bind (r_L_foundIn h r hi) (fun v hv => p_bind (r_L_foundIn h r hj) (fun w hw => p_some (fun b hb => ?_)))
  rw [b_and, hv b hb, hw b hb]
theorem wLea_cov {s : Nat → Bool} {b : Nat} (k : Nat) (p : Nat → Bool) (hp : p = fun c => s c && Wu C c b) : (wfs p (k + 1) 0).isSome = ((wfs p k 0).isSome || p k) := by
  clear hp
  cases e : wfs p k 0 with
  | some m =>
    obtain ⟨m1, m2, m3, m4⟩ := wfs_some e
    rw [wfs_is (f := k + 1) (k := m) (by omega) (by omega) m3 m4]; rfl
  | none =>
    have hk := wfs_none e
    cases q : p k with
    | true => rw [wfs_is (f := k + 1) (k := k) (by omega) (by omega) q (fun j j1 j2 => hk j j1 (by omega))]; rfl
    | false =>
      rw [wfs_no (fun j j1 j2 => ?_)]
      · rfl
      · by_cases ej : j = k
        · rw [ej]; exact q
        · exact hk j j1 (by omega)
theorem b_not (x : Int32) (i : Nat) (hi : i < 32) : bt (x ^^^ (-1)) i = !(bt x i) := by
  rw [b_xor, b_m1 i hi, Bool.xor_true]
theorem r_C_leastOf_4 {σ : StC} {t : Nat} (h : wCok C t) (r : rC σ C g) {x1 : Int32} {s : Nat → Bool} (hs : ∀ b, b < 32 → bt x1 b = s b) : ∀ (f k : Nat) (x2 : Int32), k ≤ Wn C → (∀ b, b < 32 → bt x2 b = (wfs (fun c => s c && Wu C c b) k 0).isSome) → k_pc (f_C_leastOf_4 f σ x1 x2 (nI k)) (fun v => ∀ b, b < 32 → bt v b = wLea C s b) := by
  have hn := h.2.1
  intro f
  induction f with
  | zero => intro k x2 _ _; exact p_none
  | succ f ih =>
    intro k x2 hk h2
    rw [f_C_leastOf_4]
    unfold f_C_leastOf_4_s
    rw [r.1]
    refine p_if (fun z => p_some (fun b hb => ?_)) (fun z => ?_)
    · rw [nI_leI (by omega) (by omega)] at z
      have ek : k = Wn C := by omega
      subst ek
      rw [b_and, b_not _ _ hb, hs b hb, h2 b hb]; rfl
    · rw [nI_leI (by omega) (by omega)] at z
      rw [k_has _ (show k < 32 by omega), hs k (by omega), nI_1, nI_clamp (show k < 2 ^ 31 by omega)]
      refine p_if (fun y => ih (k + 1) x2 (by omega) (fun b hb => ?_)) (fun y => p_guard (fun _ => ih (k + 1) _ (by omega) (fun b hb => ?_)))
      · rw [wLea_cov k _ rfl, ← h2 b hb, b2_0.mp y, Bool.false_and, Bool.or_false]
      · have sk : s k = true := by
          cases q : s k with
          | true => rfl
          | false => rw [q] at y; exact absurd rfl y
        rw [b_or, wLea_cov k _ rfl, h2 b hb, sk, Bool.true_and, (r.2.2.1 k (by omega)).2.2.2.2 b hb]
theorem r_C_leastOf {σ : StC} {t : Nat} (h : wCok C t) (r : rC σ C g) {x1 : Int32} {s : Nat → Bool} (hs : ∀ b, b < 32 → bt x1 b = s b) : k_pc (f_C_leastOf σ x1) (fun v => ∀ b, b < 32 → bt v b = wLea C s b) := by
  unfold f_C_leastOf
  exact r_C_leastOf_4 h r hs 1000 0 0 (by omega) (fun b hb => by rw [b_0]; rfl)
end
section
variable {σ : StM} {C : wWc} {T : wWt} {g : Nat}
theorem rFd_f {o : Option Nat} {r : Int32 × StM} (h : rFd σ o r) : (∃ h g, r.2 = mF σ (b2 o.isSome) h g) := by
  cases o with
  | none => exact h
  | some s => exact ⟨_, _, h⟩
theorem wSee_lt (h : wOK C T) {i b : Nat} (hi : i < Tn T) (q : wSee C T i b = true) : b < Wn C := by
  have h13 := h.1.1
  unfold wSee at q
  cases e : wLk C T i b with
  | none => rw [e] at q; cases q
  | some r =>
    unfold wLk at e
    by_cases k2 : dK (Ty T i) = 2
    · rw [if_pos k2] at e
      by_cases b3 : b < 3
      · omega
      · rw [if_neg b3] at e; cases e
    · rw [if_neg k2] at e
      obtain ⟨_, p, p1, p2⟩ := wLs_ok h _ (fun p hp => (wHo_ok h.2 hi k2 hp).2) e
      obtain ⟨_, w2, w3⟩ := wHo_ok h.2 hi k2 p1
      have c1 := (wT_named h.2 w2 w3).2.1
      have := wTw_le h.1 c1 (wCl_tw h.1 c1 p2)
      omega
theorem r_M_commonOf_5 (h : wOK C T) (r : rMc σ C g) (q : rMt σ T) {i j : Nat} (hi : i < Tn T) (hj : j < Tn T) :
    ∀ (f k : Nat) (x3 a hh gg : Int32), k ≤ Wn C → (∀ b, b < 32 → bt x3 b = (decide (b < k) && (wSee C T i b && wSee C T j b))) → k_pc (f_M_commonOf_5 f (mF σ a hh gg) (nI i) (nI j) x3 (nI k)) (fun v => (∃ a h g, v.2 = mF σ a h g) ∧ ∀ b, b < 32 → bt v.1 b = (wSee C T i b && wSee C T j b)) := by
  have hn := h.1.2.1
  intro f
  induction f with
  | zero => intro k x3 a hh gg _ _; exact p_none
  | succ f ih =>
    intro k x3 a hh gg hk hx
    rw [f_M_commonOf_5]
    unfold f_M_commonOf_5_s
    rw [show M_classes (mF σ a hh gg) = nI (Wn C) from r.1]
    refine p_if (fun z => p_some ⟨⟨a, hh, gg, rfl⟩, fun b hb => ?_⟩) (fun z => ?_)
    · rw [nI_leI (by omega) (by omega)] at z
      rw [hx b hb]
      by_cases w : b < k
      · rw [decide_eq_true w, Bool.true_and]
      · rw [decide_eq_false w, Bool.false_and]
        cases e : wSee C T i b with
        | false => rfl
        | true => have := wSee_lt h hi e; omega
    · rw [nI_leI (by omega) (by omega)] at z
      have hk' : k < Wn C := by omega
      refine p_bind (r_M_lookAt (σ := mF σ a hh gg) (g := g) h r q hi hk') ?_
      rintro ⟨v, τ⟩ hv
      obtain ⟨h1, g1, e1⟩ := rFd_f hv
      replace e1 : τ = mF σ (b2 (wSee C T i k)) h1 g1 := e1
      subst e1
      refine p_bind (r_M_lookAt (σ := mF σ (b2 (wSee C T i k)) h1 g1) (g := g) h r q hj hk') ?_
      rintro ⟨w, τ⟩ hw
      obtain ⟨h2, g2, e2⟩ := rFd_f hw
      replace e2 : τ = mF σ (b2 (wSee C T j k)) h2 g2 := e2
      subst e2
      have f1 : M_found (mF σ (b2 (wSee C T i k)) h1 g1) = b2 (wSee C T i k) := rfl
      have f2 : M_found (mF σ (b2 (wSee C T j k)) h2 g2) = b2 (wSee C T j k) := rfl
      have nx : ∀ y : Int32, (∀ b, b < 32 → bt y b = (decide (b < k + 1) && (wSee C T i b && wSee C T j b))) → k_pc (f_M_commonOf_5 f (mF σ (b2 (wSee C T j k)) h2 g2) (nI i) (nI j) y (nI k + 1)) (fun v => (∃ a h g, v.2 = mF σ a h g) ∧ ∀ b, b < 32 → bt v.1 b = (wSee C T i b && wSee C T j b)) := by
        intro y hy
        rw [nI_1]
        exact ih (k + 1) y _ _ _ (by omega) hy
      have no : (wSee C T i k && wSee C T j k) = false → k_pc (f_M_commonOf_54 (f_M_commonOf_5 f) (mF σ (b2 (wSee C T j k)) h2 g2) (nI i) (nI j) (nI k) x3) (fun v => (∃ a h g, v.2 = mF σ a h g) ∧ ∀ b, b < 32 → bt v.1 b = (wSee C T i b && wSee C T j b)) := by
        intro e
        unfold f_M_commonOf_54
        refine nx _ (fun b hb => ?_)
        rw [b_or, b_0, Bool.or_false, hx b hb]
        by_cases w : b = k
        · subst w; rw [e, Bool.and_false, Bool.and_false]
        · by_cases w2 : b < k
          · rw [decide_eq_true w2, decide_eq_true (by omega)]
          · rw [decide_eq_false w2, decide_eq_false (by omega)]
      show k_pc (if M_found (mF σ (b2 (wSee C T i k)) h1 g1) = 0 then _ else _) _
      rw [f1]
      refine p_if (fun y => no (by rw [b2_0.mp y]; rfl)) (fun y => ?_)
      show k_pc (if M_found (mF σ (b2 (wSee C T j k)) h2 g2) = 0 then _ else _) _
      rw [f2]
      refine p_if (fun y2 => no (by rw [b2_0.mp y2, Bool.and_false])) (fun y2 => ?_)
      have s1 : wSee C T i k = true := by
        cases e : wSee C T i k with
        | true => rfl
        | false => rw [e] at y; exact absurd rfl y
      have s2 : wSee C T j k = true := by
        cases e : wSee C T j k with
        | true => rfl
        | false => rw [e] at y2; exact absurd rfl y2
      refine nx _ (fun b hb => ?_)
      rw [b_or, k_shl1 k (by omega) hb, hx b hb]
      by_cases w : b = k
      · subst w; rw [s1, s2, decide_eq_true (show b = b from rfl), decide_eq_true (show b < b + 1 by omega), Bool.or_true]; rfl
      · rw [decide_eq_false w, Bool.or_false]
        by_cases w2 : b < k
        · rw [decide_eq_true w2, decide_eq_true (by omega)]
        · rw [decide_eq_false w2, decide_eq_false (by omega)]
theorem r_M_commonOf (h : wOK C T) (r : rMc σ C g) (q : rMt σ T) {i j : Nat} (hi : i < Tn T) (hj : j < Tn T) : k_pc (f_M_commonOf σ (nI i) (nI j)) (fun v => (∃ a h g, v.2 = mF σ a h g) ∧ ∀ b, b < 32 → bt v.1 b = (wSee C T i b && wSee C T j b)) := by
  unfold f_M_commonOf
  exact r_M_commonOf_5 h r q hi hj 1000 0 0 (M_found σ) (M_foundHow σ) (M_foundType σ) (by omega) (fun b hb => by rw [b_0]; rfl)
theorem r_M_leastOf_4 {t : Nat} (h : wCok C t) (r : rMc σ C g) {x1 : Int32} {s : Nat → Bool} (hs : ∀ b, b < 32 → bt x1 b = s b) : ∀ (f k : Nat) (x2 : Int32), k ≤ Wn C → (∀ b, b < 32 → bt x2 b = (s b && !((wfs (fun c => s c && Wu C c b) k 0).isSome))) → k_pc (f_M_leastOf_4 f σ x1 x2 (nI k)) (fun v => ∀ b, b < 32 → bt v b = wLea C s b) := by
  have hn := h.2.1
  intro f
  induction f with
  | zero => intro k x2 _ _; exact p_none
  | succ f ih =>
    intro k x2 hk h2
    rw [f_M_leastOf_4]
    unfold f_M_leastOf_4_s
    rw [r.1]
    refine p_if (fun z => p_some (fun b hb => ?_)) (fun z => ?_)
    · rw [nI_leI (by omega) (by omega)] at z
      have ek : k = Wn C := by omega
      subst ek
      exact h2 b hb
    · rw [nI_leI (by omega) (by omega)] at z
      rw [nI_1, nI_clamp (show k < 2 ^ 31 by omega)]
      refine p_if (fun y => p_guard (fun _ => ih (k + 1) _ (by omega) (fun b hb => ?_))) (fun y => ih (k + 1) x2 (by omega) (fun b hb => ?_))
      · have sk := (k_bit1 x1 k (by omega)).mp y
        rw [hs k (by omega)] at sk
        rw [b_and, b_not _ _ hb, h2 b hb, wLea_cov k _ rfl, sk, Bool.true_and, (r.2.2 k (by omega)).2.2.2.2 b hb, Bool.not_or, Bool.and_assoc]
      · have sk : s k = false := by
          cases e : s k with
          | false => rfl
          | true => exact absurd ((k_bit1 x1 k (by omega)).mpr (by rw [hs k (by omega)]; exact e)) y
        rw [h2 b hb, wLea_cov k _ rfl, sk, Bool.false_and, Bool.or_false]
theorem r_M_leastOf {t : Nat} (h : wCok C t) (r : rMc σ C g) {x1 : Int32} {s : Nat → Bool} (hs : ∀ b, b < 32 → bt x1 b = s b) : k_pc (f_M_leastOf σ x1) (fun v => ∀ b, b < 32 → bt v b = wLea C s b) := by
  unfold f_M_leastOf
  exact r_M_leastOf_4 h r hs 1000 0 x1 (by omega) (fun b hb => by rw [hs b hb]; simp [wfs])
end
-- part 08.65.upS.lean.txt
/-! Tier 3: THE UPPER BOUND over the tables. -/
def wAO (T : wWt) (a : Nat) : Bool := decide (dK (Ty T a) = 2) && decide (8 ≤ dX (Ty T a))
def wNm (T : wWt) (c a : Nat) : Option (Nat × wWt) := wAdd T (1, c, a, []) (1 + (if a = 0 then 0 else Tm T (a / 4)))
def wArr (q : Nat × wWt) : Option (Nat × wWt) := wAdd q.2 (2, q.1, 0, []) (1 + Tm q.2 q.1)
/-- the ARGUMENT that holds both -/
def wAr2 (F : wWt → Nat → Nat → Option (Nat × wWt)) (T : wWt) (x y : Nat) : Option (Nat × wWt) :=
  if x = y ∧ x % 4 ≠ 2 then some (x, T) else (F T (x / 4) (y / 4)).map (fun q => (4 * q.1 + 2, q.2))
def wLg (C : wWc) (T : wWt) (a c : Nat) : Nat := (wLk C T a c).getD 0
def wCls (C : wWc) (F : wWt → Nat → Nat → Option (Nat × wWt)) (a b : Nat) (s : Nat → Bool) : Nat → Nat → wWt → List Nat → Option (Nat × wWt)
  | 0, _, T, l => wInt T l
  | f + 1, c, T, l => if s c = true then (wAr2 F T (wLg C T a c) (wLg C T b c)).bind (fun q => (wNm q.2 c q.1).bind (fun p => wCls C F a b s f (c + 1) p.2 (l ++ [p.1]))) else wCls C F a b s f (c + 1) T l
def wLs2 (C : wWc) (T : wWt) (a b : Nat) : Nat → Bool := wLea C (fun c => wSee C T a c && wSee C T b c)
def wUb (C : wWc) (F : wWt → Nat → Nat → Option (Nat × wWt)) : Nat → wWt → Nat → Nat → Option (Nat × wWt)
  | 0, _, _, _ => none
  | f + 1, T, a, b => if a = b then some (a, T) else if wAO T a = true ∧ wAO T b = true then (wUb C F f T (dX (Ty T a)) (dX (Ty T b))).bind wArr else wCls C F a b (wLs2 C T a b) 30 0 T []
def wRoot (T : wWt) (_ _ : Nat) : Option (Nat × wWt) := wNm T 0 0
def wFd (C : wWc) : Nat → wWt → Nat → Nat → Option (Nat × wWt)
  | 0 => wRoot
  | d + 1 => wUb C (wFd C d) 101
/-- to depth d -/
def wUpp (C : wWc) (d : Nat) : wWt → Nat → Nat → Option (Nat × wWt) := wUb C (wFd C d) 101
/-- what a bound leaves -/
def wGd (C : wWc) (T : wWt) (a : Nat) (o : Option (Nat × wWt)) : Prop := ∀ q, o = some q → wOK C q.2 ∧ wEx T q.2 ∧ q.1 < Tn q.2 ∧ (8 ≤ a → 8 ≤ q.1)
def wFok (C : wWc) (F : wWt → Nat → Nat → Option (Nat × wWt)) : Prop := ∀ T a b, wOK C T → a < Tn T → b < Tn T → wGd C T a (F T a b)
/-- the PARTS so far: NAMED types of classes ahead of c, in order -/
def wLok (T : wWt) (c : Nat) (l : List Nat) : Prop := l.length ≤ c ∧ (∀ p, p ∈ l → 8 ≤ p ∧ p < Tn T ∧ dK (Ty T p) = 1 ∧ dX (Ty T p) < c) ∧ (∀ j k (hj : j < l.length) (hk : k < l.length), j < k → dX (Ty T l[j]) < dX (Ty T l[k]))
section
variable {C : wWc} {T : wWt}
theorem wNm_ok (h : wOK C T) {c a : Nat} (hc : c < Wn C) (ho : wOk (Tn T) (Wg C c) a) {q : Nat × wWt} (e : wNm T c a = some q) : wOK C q.2 ∧ wEx T q.2 ∧ q.1 < Tn q.2 ∧ 8 ≤ q.1 ∧ Ty q.2 q.1 = (1, c, a, []) := by
  obtain ⟨i, T'⟩ := q
  obtain ⟨h1, h2, h3, h4, h5, _⟩ := wAdd_ok h (Or.inl ⟨c, a, rfl, hc, ho, rfl⟩) e
  exact ⟨h1, h2, h3, h4, h5⟩
theorem wRoot_ok : wFok C wRoot := by
  intro T a b h _ _ q e
  have h13 := h.1.1
  obtain ⟨h1, h2, h3, h4, _⟩ := wNm_ok h (show 0 < Wn C by omega) (Or.inl ⟨h.1.2.2.2.2.2.2.2.1 0 (by omega), rfl⟩) e
  exact ⟨h1, h2, h3, fun _ => h4⟩
theorem wAr2_ok {F : wWt → Nat → Nat → Option (Nat × wWt)} (hF : wFok C F) (h : wOK C T) {g : Bool} {x y : Nat} (hx : wOk (Tn T) g x) (hy : wOk (Tn T) g y) {q : Nat × wWt} (e : wAr2 F T x y = some q) : wOK C q.2 ∧ wEx T q.2 ∧ wOk (Tn q.2) g q.1 := by
  unfold wAr2 at e
  by_cases z : x = y ∧ x % 4 ≠ 2
  · rw [if_pos z] at e
    cases e
    exact ⟨h, wEx_refl T, hx⟩
  · rw [if_neg z] at e
    rcases hx with ⟨g1, x1⟩ | ⟨g1, x0, x1, x2, x3⟩
    · rcases hy with ⟨_, y1⟩ | ⟨g2, _⟩
      · exact absurd ⟨by omega, by omega⟩ z
      · rw [g1] at g2; cases g2
    · rcases hy with ⟨g2, _⟩ | ⟨_, y0, y1, y2, y3⟩
      · rw [g1] at g2; cases g2
      · cases hq : F T (x / 4) (y / 4) with
        | none => rw [hq] at e; cases e
        | some p =>
          rw [hq] at e
          cases e
          obtain ⟨w1, w2, w3, w4⟩ := hF T (x / 4) (y / 4) h (by omega) (by omega) p hq
          exact ⟨w1, w2, Or.inr ⟨g1, p.1, w4 (by omega), w3, Or.inr rfl⟩⟩
theorem wLok_nil (T : wWt) : wLok T 0 [] := by
  refine ⟨Nat.le_refl 0, fun p hp => ?_, fun j k hj => ?_⟩
  · exact absurd hp (by simp)
  · exact absurd hj (by simp)
theorem wLok_ex {T' : wWt} {c : Nat} {l : List Nat} (hx : wEx T T') (h : wLok T c l) : wLok T' c l := by
  obtain ⟨h1, h2, h3⟩ := h
  refine ⟨h1, fun p hp => ?_, fun j k hj hk jk => ?_⟩
  · obtain ⟨p1, p2, p3, p4⟩ := h2 p hp
    rw [(hx.2 p p2).1]
    exact ⟨p1, Nat.lt_of_lt_of_le p2 hx.1, p3, p4⟩
  · rw [(hx.2 _ (h2 _ (List.getElem_mem hj)).2.1).1, (hx.2 _ (h2 _ (List.getElem_mem hk)).2.1).1]
    exact h3 j k hj hk jk
theorem wLok_mono {c c' : Nat} {l : List Nat} (h : wLok T c l) (hc : c ≤ c') : wLok T c' l := by
  obtain ⟨h1, h2, h3⟩ := h
  refine ⟨by omega, fun p hp => ?_, h3⟩
  obtain ⟨p1, p2, p3, p4⟩ := h2 p hp
  exact ⟨p1, p2, p3, by omega⟩
theorem wLok_add {c p a : Nat} {l : List Nat} (h : wLok T c l) (h8 : 8 ≤ p) (hp : p < Tn T) (e : Ty T p = (1, c, a, [])) : wLok T (c + 1) (l ++ [p]) := by
  obtain ⟨h1, h2, h3⟩ := h
  refine ⟨by rw [List.length_append]; show l.length + 1 ≤ c + 1; omega, fun q hq => ?_, fun j k hj hk jk => ?_⟩
  · rcases List.mem_append.mp hq with w | w
    · obtain ⟨p1, p2, p3, p4⟩ := h2 q w
      exact ⟨p1, p2, p3, by omega⟩
    · rw [List.mem_singleton] at w
      subst w
      rw [e]
      exact ⟨h8, hp, rfl, Nat.lt_succ_self c⟩
  · have hj' : j < l.length + 1 := by rw [List.length_append] at hj; exact hj
    have hk' : k < l.length + 1 := by rw [List.length_append] at hk; exact hk
    have jl : j < l.length := by omega
    have e1 : (l ++ [p])[j] = l[j] := List.getElem_append_left jl
    rw [e1]
    by_cases w : k < l.length
    · have e2 : (l ++ [p])[k] = l[k] := List.getElem_append_left w
      rw [e2]; exact h3 j k jl w jk
    · have ek : k = l.length := by omega
      subst ek
      have e2 : (l ++ [p])[l.length] = p := by simp
      rw [e2, e]
      exact (h2 _ (List.getElem_mem jl)).2.2.2
theorem wInt_ok (h : wOK C T) {l : List Nat} (hl : wLok T 30 l) (hne : l ≠ []) {q : Nat × wWt} (e : wInt T l = some q) : wOK C q.2 ∧ wEx T q.2 ∧ q.1 < Tn q.2 ∧ 8 ≤ q.1 := by
  obtain ⟨h1, h2, h3⟩ := hl
  match l, hne with
  | [p], _ =>
    unfold wInt at e
    cases e
    obtain ⟨p1, p2, _⟩ := h2 p (by simp)
    exact ⟨h, wEx_refl T, p2, p1⟩
  | x :: y :: l, _ =>
    rw [wInt_many (by simp)] at e
    obtain ⟨i, T'⟩ := q
    obtain ⟨a1, a2, a3, a4, _⟩ := wAdd_ok h (Or.inr (Or.inr ⟨_, rfl, by simp, h1, fun p hp => ⟨(h2 p hp).1, (h2 p hp).2.1, (h2 p hp).2.2.1⟩, h3, rfl⟩)) e
    exact ⟨a1, a2, a3, a4⟩
/-- what the set of LEAST classes holds -/
def wSok (C : wWc) (T : wWt) (a b : Nat) (s : Nat → Bool) : Prop := ∀ c, s c = true → c < Wn C ∧ wSee C T a c = true ∧ wSee C T b c = true
theorem wSee_ex (h : wTok C T) {T' : wWt} (hx : wEx T T') {i : Nat} (hi : i < Tn T) (b : Nat) : wSee C T' i b = wSee C T i b := by
  unfold wSee; rw [wLk_ex h hx hi]
theorem wSok_ex (h : wTok C T) {T' : wWt} (hx : wEx T T') {a b : Nat} (ha : a < Tn T) (hb : b < Tn T) {s : Nat → Bool} (hs : wSok C T a b s) : wSok C T' a b s := by
  intro c hc
  rw [wSee_ex h hx ha, wSee_ex h hx hb]
  exact hs c hc
theorem wLg_ok (h : wOK C T) {a c : Nat} (ha : a < Tn T) (hs : wSee C T a c = true) : wLk C T a c = some (wLg C T a c) ∧ wOk (Tn T) (Wg C c) (wLg C T a c) := by
  unfold wSee at hs
  cases e : wLk C T a c with
  | none => rw [e] at hs; cases hs
  | some r =>
    have : wLg C T a c = r := by unfold wLg; rw [e]; rfl
    rw [this]
    exact ⟨rfl, wLk_ok h ha e⟩
theorem wCls_ok {F : wWt → Nat → Nat → Option (Nat × wWt)} (hF : wFok C F) {a b : Nat} {s : Nat → Bool} : ∀ (f c : Nat) (T : wWt) (l : List Nat), wOK C T → a < Tn T → b < Tn T → wSok C T a b s → wLok T c l → c + f ≤ 30 → (l ≠ [] ∨ ∃ k, c ≤ k ∧ k < c + f ∧ s k = true) → ∀ q, wCls C F a b s f c T l = some q → wOK C q.2 ∧ wEx T q.2 ∧ q.1 < Tn q.2 ∧ 8 ≤ q.1 := by
  intro f
  induction f with
  | zero =>
    intro c T l h _ _ _ hl hc hne q e
    rw [wCls] at e
    refine wInt_ok h (wLok_mono hl (by omega)) ?_ e
    rcases hne with w | ⟨k, k1, k2, _⟩
    · exact w
    · omega
  | succ f ih =>
    intro c T l h ha hb hs hl hc hne q e
    rw [wCls] at e
    by_cases z : s c = true
    · rw [if_pos z] at e
      obtain ⟨s1, s2, s3⟩ := hs c z
      obtain ⟨_, o1⟩ := wLg_ok h ha s2
      obtain ⟨_, o2⟩ := wLg_ok h hb s3
      cases e1 : wAr2 F T (wLg C T a c) (wLg C T b c) with
      | none => rw [e1] at e; cases e
      | some x =>
        rw [e1] at e
        obtain ⟨x1, x2, x3⟩ := wAr2_ok hF h o1 o2 e1
        replace e : (wNm x.2 c x.1).bind (fun p => wCls C F a b s f (c + 1) p.2 (l ++ [p.1])) = some q := e
        cases e2 : wNm x.2 c x.1 with
        | none => rw [e2] at e; cases e
        | some p =>
          rw [e2] at e
          obtain ⟨p1, p2, p3, p4, p5⟩ := wNm_ok x1 s1 x3 e2
          have hx := wEx_trans x2 p2
          obtain ⟨r1, r2, r3⟩ := ih (c + 1) p.2 (l ++ [p.1]) p1 (Nat.lt_of_lt_of_le ha hx.1) (Nat.lt_of_lt_of_le hb hx.1) (wSok_ex h.2 hx ha hb hs) (wLok_add (wLok_ex hx hl) p4 p3 p5) (by omega) (Or.inl (by simp)) q e
          exact ⟨r1, wEx_trans hx r2, r3⟩
    · rw [if_neg z] at e
      refine ih (c + 1) T l h ha hb hs (wLok_mono hl (by omega)) (by omega) ?_ q e
      rcases hne with w | ⟨k, k1, k2, k3⟩
      · exact Or.inl w
      · refine Or.inr ⟨k, ?_, by omega, k3⟩
        by_cases ek : k = c
        · rw [ek] at k3; exact absurd k3 z
        · omega
theorem wTw_0 (h : wCok C (Tn T)) : ∀ c, c < Wn C → wTw C c 0 = true := by
  intro c
  induction c using Nat.strongRecOn with
  | ind c ih =>
    intro hc
    by_cases e : c = 0
    · rw [e]; exact wTw_self 0
    · have hd := (h.2.2.1 c hc).2 (by omega)
      have lt := (h.2.2.2.1 c 0 hc hd).1
      exact wTw_up ((h.2.2.2.2.2.1 c 0 hc).mpr ⟨0, hd, ih _ lt (by omega)⟩)
theorem wSee_0 (h : wOK C T) {i : Nat} (hi : i < Tn T) : wSee C T i 0 = true := by
  unfold wSee wLk
  by_cases k2 : dK (Ty T i) = 2
  · rw [if_pos k2]; rfl
  · rw [if_neg k2, wLs_any h 0 _ (fun p hp => (wHo_ok h.2 hi k2 hp).2)]
    have hl := wHo_len h.2 hi k2
    have : 0 < (wHo T i).length := by rw [hl]; split <;> omega
    have hp := wHo_ok h.2 hi k2 (List.getElem_mem this)
    unfold wAny
    rw [List.any_eq_true]
    exact ⟨_, List.getElem_mem this, wTw_0 h.1 _ (wT_named h.2 hp.2.1 hp.2.2).2.1⟩
theorem wLs2_ok (h : wOK C T) {a b : Nat} (ha : a < Tn T) (hb : b < Tn T) : wSok C T a b (wLs2 C T a b) ∧ ∃ k, k < Wn C ∧ wLs2 C T a b k = true := by
  refine ⟨fun c hc => ?_, ?_⟩
  · unfold wLs2 wLea at hc
    have w := (Bool.and_eq_true_iff.mp hc).1
    have w2 := Bool.and_eq_true_iff.mp w
    exact ⟨wSee_lt h ha w2.1, w2⟩
  · have go : ∀ N m, Wn C - m ≤ N → m < Wn C → (wSee C T a m && wSee C T b m) = true → ∃ k, k < Wn C ∧ wLs2 C T a b k = true := by
      intro N
      induction N with
      | zero => intro m h1 h2; omega
      | succ N ih =>
        intro m h1 h2 h3
        cases e : wfs (fun c => (wSee C T a c && wSee C T b c) && Wu C c m) (Wn C) 0 with
        | none =>
          refine ⟨m, h2, ?_⟩
          show ((wSee C T a m && wSee C T b m) && !((wfs (fun c => (wSee C T a c && wSee C T b c) && Wu C c m) (Wn C) 0).isSome)) = true
          rw [e, h3]; rfl
        | some c =>
          obtain ⟨c1, c2, c3, _⟩ := wfs_some e
          have c4 := Bool.and_eq_true_iff.mp c3
          have c5 := wUp_lt h.1 c m (by omega) c4.2
          exact ih c (by omega) (by omega) c4.1
    exact go _ 0 (Nat.le_refl _) (by have := h.1.1; omega) (by rw [wSee_0 h ha, wSee_0 h hb]; rfl)
theorem wAO_el (h : wTok C T) {a : Nat} (ha : a < Tn T) (q : wAO T a = true) : dK (Ty T a) = 2 ∧ 8 ≤ dX (Ty T a) ∧ dX (Ty T a) < a ∧ Tm T a = 1 + Tm T (dX (Ty T a)) := by
  unfold wAO at q
  obtain ⟨q1, q2⟩ := Bool.and_eq_true_iff.mp q
  have q1 := of_decide_eq_true q1
  have q2 := of_decide_eq_true q2
  obtain ⟨_, w1, w2⟩ := wT_arr h ha q1
  exact ⟨q1, q2, w1, w2⟩
theorem wArr_ok (h : wOK C T) {x : Nat} (hx : x < Tn T) {q : Nat × wWt} (e : wArr (x, T) = some q) : wOK C q.2 ∧ wEx T q.2 ∧ q.1 < Tn q.2 ∧ 8 ≤ q.1 := by
  obtain ⟨i, T'⟩ := q
  obtain ⟨a1, a2, a3, a4, _⟩ := wAdd_ok h (Or.inr (Or.inl ⟨x, rfl, hx, rfl⟩)) e
  exact ⟨a1, a2, a3, a4⟩
theorem wUb_ok {F : wWt → Nat → Nat → Option (Nat × wWt)} (hF : wFok C F) (f : Nat) : wFok C (wUb C F f) := by
  induction f with
  | zero => intro T a b _ _ _ q e; cases e
  | succ f ih =>
    intro T a b h ha hb q e
    rw [wUb] at e
    by_cases z : a = b
    · rw [if_pos z] at e
      cases e
      exact ⟨h, wEx_refl T, ha, fun w => w⟩
    · rw [if_neg z] at e
      by_cases y : wAO T a = true ∧ wAO T b = true
      · rw [if_pos y] at e
        obtain ⟨_, _, a1, _⟩ := wAO_el h.2 ha y.1
        obtain ⟨_, _, b1, _⟩ := wAO_el h.2 hb y.2
        cases e1 : wUb C F f T (dX (Ty T a)) (dX (Ty T b)) with
        | none => rw [e1] at e; cases e
        | some x =>
          rw [e1] at e
          obtain ⟨x1, x2, x3, _⟩ := ih T _ _ h (by omega) (by omega) x e1
          obtain ⟨r1, r2, r3, r4⟩ := wArr_ok x1 x3 e
          exact ⟨r1, wEx_trans x2 r2, r3, fun _ => r4⟩
      · rw [if_neg y] at e
        obtain ⟨s1, k, k1, k2⟩ := wLs2_ok h ha hb
        have hC := h.1.2.1
        obtain ⟨r1, r2, r3, r4⟩ := wCls_ok hF 30 0 T [] h ha hb s1 (wLok_nil T) (by omega) (Or.inr ⟨k, by omega, by omega, k2⟩) q e
        exact ⟨r1, r2, r3, fun _ => r4⟩
theorem wFd_ok (d : Nat) : wFok C (wFd C d) := by
  induction d with
  | zero => exact wRoot_ok
  | succ d ih => exact wUb_ok ih 101
theorem wUpp_ok (d : Nat) : wFok C (wUpp C d) := wUb_ok (wFd_ok d) 101
end
-- part 08.66.upL.lean.txt
/-! Tier 3: the class's upperBound answers THE UPPER BOUND. -/
theorem wOk_lt {t : Nat} {g : Bool} {a : Nat} (h : wOk t g a) (ht : 0 < t) : a < 4 * t := by
  rcases h with ⟨_, h⟩ | ⟨_, x, x1, x2, x3⟩
  · omega
  · omega
def rLf (σ τ : StL) (d : Nat) : Prop := L_depth τ = L_depth σ ∧ L_classes τ = L_classes σ ∧ L_answers τ = L_answers σ ∧ L_gathered τ = L_gathered σ ∧ ∀ j, d ≤ j → L_row τ j = L_row σ j
theorem rLf_refl (σ : StL) (d : Nat) : rLf σ σ d := ⟨rfl, rfl, rfl, rfl, fun _ _ => rfl⟩
theorem rLf_trans {σ τ ρ : StL} {d : Nat} (h1 : rLf σ τ d) (h2 : rLf τ ρ d) : rLf σ ρ d :=
  ⟨h2.1.trans h1.1, h2.2.1.trans h1.2.1, h2.2.2.1.trans h1.2.2.1, h2.2.2.2.1.trans h1.2.2.2.1, fun j hj => (h2.2.2.2.2 j hj).trans (h1.2.2.2.2 j hj)⟩
theorem rLf_mono {σ τ : StL} {d d' : Nat} (h : rLf σ τ d) (hd : d ≤ d') : rLf σ τ d' := ⟨h.1, h.2.1, h.2.2.1, h.2.2.2.1, fun j hj => h.2.2.2.2 j (by omega)⟩
def rUv (T0 : wWt) (o : Option (Nat × wWt)) (v : Int32) (τ : StL) : Prop := match o with
  | none => v = -1 ∧ ∃ T', rT (L_types τ) T0 T'
  | some x => v = nI x.1 ∧ rT (L_types τ) T0 x.2
def rUp (σ : StL) (T0 : wWt) (d : Nat) (o : Option (Nat × wWt)) (q : (Int32 ⊕ Nat) × StL × Nat × Nat) : Prop := ∃ v, q.1 = .inl v ∧ rLf σ q.2.1 d ∧ rUv T0 o v q.2.1
def rRec (C : wWc) (g : Nat) (T0 : wWt) (d : Nat) (F : wWt → Nat → Nat → Option (Nat × wWt)) (rec : StL → Int32 → Int32 → Int32 → Option ((Int32 ⊕ Nat) × StL × Nat × Nat)) : Prop := ∀ (σ : StL) (T : wWt) (a b : Nat), wOK C T → rL σ C g T0 T → a < Tn T → b < Tn T → k_pc (rec σ (nI a) (nI b) (nI d)) (rUp σ T0 (30 * (d + 1)) (F T a b))
section
variable {σ : StL} {C : wWc} {T0 T : wWt} {g d : Nat} {rec : StL → Int32 → Int32 → Int32 → Option ((Int32 ⊕ Nat) × StL × Nat × Nat)}
theorem rL_types {τ : StT} {T' : wWt} (r : rL σ C g T0 T) (h : rT τ T0 T') : rL (L_set_types σ τ) C g T0 T' := ⟨r.1, h⟩
theorem r_L_bA46 (o : Option (Nat × wWt)) {ρ : StL} (hf : rLf σ ρ d) {v : Int32} (hv : rUv T0 o v ρ) (hb : ∀ q, o = some q → q.1 < 300) : k_pc (f_L_boundArgument_46 rec ρ v) (rUp σ T0 d (o.map (fun q => (4 * q.1 + 2, q.2)))) := by
  unfold f_L_boundArgument_46
  cases o with
  | none =>
    exact p_if (fun _ => p_some ⟨-1, rfl, hf, rfl, hv.2⟩) (fun z => absurd hv.1 z)
  | some q =>
    obtain ⟨v1, v2⟩ := hv
    have := hb q rfl
    refine p_if (fun z => absurd (v1.symm.trans z) (k_ne1 (by omega))) (fun _ => p_some ⟨_, rfl, hf, ?_, v2⟩)
    show f_L_argumentOf 2 v = nI (4 * q.1 + 2)
    unfold f_L_argumentOf
    rw [if_neg (by decide), v1]
    show nI q.1 * nI 4 + nI 2 = _
    rw [k_mul, nI_add]; congr 1; omega
/-- with what a bound's bound is made -/
def wFF (C : wWc) (d : Nat) : wWt → Nat → Nat → Option (Nat × wWt) := wFd C d
theorem r_L_boundArgument (h : wOK C T) (r : rL σ C g T0 T) (hd : d ≤ 2) (hrec : ∀ e, d = e + 1 → rRec C g T0 e (wFd C d) rec) {gg : Bool} {x y : Nat} (hx : wOk (Tn T) gg x) (hy : wOk (Tn T) gg y) : k_pc (f_L_boundArgument rec σ (nI x) (nI y) (nI d)) (rUp σ T0 (30 * d) (wAr2 (wFd C d) T x y)) := by
  have hn := h.2.2.1
  have h13 := h.1.1
  have h16 := h.2.1
  have bx := wOk_lt hx (by omega)
  have byy := wOk_lt hy (by omega)
  have go : ¬ (x = y ∧ x % 4 ≠ 2) → k_pc (f_L_boundArgument_15 rec σ (nI x) (nI y) (nI d)) (rUp σ T0 (30 * d) (wAr2 (wFd C d) T x y)) := by
    intro z
    unfold wAr2
    rw [if_neg z]
    have hxy : (∃ x0, x / 4 = x0 ∧ 8 ≤ x0 ∧ x0 < Tn T ∧ x ≠ 0) ∧ (∃ y0, y / 4 = y0 ∧ 8 ≤ y0 ∧ y0 < Tn T ∧ y ≠ 0) := by
      rcases hx with ⟨g1, x1⟩ | ⟨g1, x0, x1, x2, x3⟩
      · rcases hy with ⟨_, y1⟩ | ⟨g2, _⟩
        · exact absurd ⟨by omega, by omega⟩ z
        · rw [g1] at g2; cases g2
      · rcases hy with ⟨g2, _⟩ | ⟨_, y0, y1, y2, y3⟩
        · rw [g1] at g2; cases g2
        · exact ⟨⟨x0, by omega, x1, x2, by omega⟩, ⟨y0, by omega, y1, y2, by omega⟩⟩
    obtain ⟨⟨x0, x1, x2, x3, x4⟩, ⟨y0, y1, y2, y3, y4⟩⟩ := hxy
    unfold f_L_boundArgument_15
    cases d with
    | zero =>
      refine p_if (fun _ => ?_) (fun w => absurd rfl w)
      have base := r_T_makeNamed (c := 0) (a := 0) h r.2 (show 0 < Wn C by omega) (Or.inl ⟨h.1.2.2.2.2.2.2.2.1 0 (by omega), rfl⟩)
      refine p_bind base ?_
      rintro ⟨v, τ⟩ hv
      show k_pc (f_L_boundArgument_46 rec (L_set_types σ τ) v) (rUp σ T0 (30 * 0) ((wNm T 0 0).map (fun q => (4 * q.1 + 2, q.2))))
      refine r_L_bA46 (wNm T 0 0) ⟨rfl, rfl, rfl, rfl, fun _ _ => rfl⟩ ?_ (fun q e => ?_)
      · unfold wNm
        cases e : wAdd T (1, 0, 0, []) (1 + if (0 : Nat) = 0 then 0 else Tm T (0 / 4)) with
        | none =>
          rw [e] at hv
          obtain ⟨v1, v2⟩ := hv
          replace v2 : τ = L_types σ := v2
          exact ⟨v1, T, by show rT τ T0 T; rw [v2]; exact r.2⟩
        | some q =>
          rw [e] at hv
          exact hv
      · obtain ⟨w1, w2, w3, _⟩ := wNm_ok h (show 0 < Wn C by omega) (Or.inl ⟨h.1.2.2.2.2.2.2.2.1 0 (by omega), rfl⟩) e
        have := w1.2.2.1
        omega
    | succ e =>
      refine p_if (fun w => ?_) (fun _ => ?_)
      · have w2 : nI (e + 1) = nI 0 := w
        rw [nI_eq (by omega) (by decide)] at w2
        omega
      · have e1 : nI (e + 1) - 1 = nI e := by rw [← nI_1]; have := nI_pred e; rw [← nI_1] at this; exact this
        rw [e1, k_typeOf x (by omega), k_typeOf y (by omega), if_neg x4, if_neg y4]
        refine p_bind (hrec e rfl σ T (x / 4) (y / 4) h r (by omega) (by omega)) ?_
        rintro ⟨w, ρ, K, N⟩ ⟨v, v1, v2, v3⟩
        replace v1 : w = .inl v := v1
        subst v1
        refine p_ad ?_
        refine p_mono (r_L_bA46 (σ := σ) (d := 30 * (e + 1)) (rec := rec) (wFd C (e + 1) T (x / 4) (y / 4)) v2 v3 (fun q eq => ?_)) (fun q hq => hq)
        obtain ⟨w1, w2, w3, _⟩ := wFd_ok (e + 1) T (x / 4) (y / 4) h (by omega) (by omega) q eq
        have := w1.2.2.1
        omega
  unfold f_L_boundArgument
  refine p_if (fun z => ?_) (fun z => go (fun w => z (by rw [w.1])))
  rw [nI_eq (by omega) (by omega)] at z
  rw [k_howOf x (by omega)]
  refine p_if (fun w => go (fun q => q.2 ?_)) (fun w => ?_)
  · have w2 : nI (x % 4) = nI 2 := w
    rw [nI_eq (by omega) (by decide)] at w2
    exact w2
  · have w2 : ¬ nI (x % 4) = nI 2 := w
    rw [nI_eq (by omega) (by decide)] at w2
    refine p_some ⟨nI x, rfl, rLf_refl σ (30 * d), ?_⟩
    unfold wAr2
    rw [if_pos ⟨z, w2⟩]
    exact ⟨rfl, r.2⟩
theorem r_L_bBC_38 (hd : d ≤ 2) (hrec : ∀ e, d = e + 1 → rRec C g T0 e (wFd C d) rec) {a b : Nat} {s : Nat → Bool} {x4 : Int32} (hx : ∀ c, c < 32 → bt x4 c = s c) :
    ∀ (f c : Nat) (σ : StL) (T : wWt) (l : List Nat), wOK C T → rL σ C g T0 T → a < Tn T → b < Tn T → wSok C T a b s → wLok T c l → c ≤ 30 → (l ≠ [] ∨ ∃ k, c ≤ k ∧ k < 30 ∧ s k = true) → (∀ k (hk : k < l.length), L_row σ (30 * d + k) = nI l[k]) → k_pc (f_L_boundByClasses_38 rec f σ (nI a) (nI b) (nI d) x4 (nI (30 * d)) (nI l.length) (nI c)) (rUp σ T0 (30 * (d + 1)) (wCls C (wFd C d) a b s (30 - c) c T l)) := by
  intro f
  induction f with
  | zero => intro c σ T l _ _ _ _ _ _ _ _ _; exact p_none
  | succ f ih =>
    intro c σ T l h r ha hb hs hl hc hne hrow
    have hn := h.2.2.1
    have hC := h.1.2.1
    have ll := hl.1
    rw [f_L_boundByClasses_38]
    unfold f_L_boundByClasses_38_s
    refine p_if (fun z => ?_) (fun z => ?_)
    · have z2 : nI 30 ≤ nI c := z
      rw [nI_leI (by decide) (by omega)] at z2
      have ec : c = 30 := by omega
      subst ec
      rw [show 30 - 30 = 0 by omega, wCls]
      have hne' : l ≠ [] := by
        rcases hne with w | ⟨k, k1, k2, _⟩
        · exact w
        · omega
      have hl1 : 1 ≤ l.length := by
        cases l with
        | nil => exact absurd rfl hne'
        | cons p l => simp
      refine p_bind (r_T_makeIntersection (pa := (90, L_row σ)) (s := 30 * d) (l := l) h r.2 ⟨rfl, by omega, hrow⟩ (fun p hp => (hl.2.1 p hp).2.1) ll hl1) ?_
      rintro ⟨w, τ, K, N⟩ ⟨v, v1, v2⟩
      replace v1 : w = .inl v := v1
      subst v1
      refine p_ad (p_some ⟨v, rfl, ⟨rfl, rfl, rfl, rfl, fun _ _ => rfl⟩, ?_⟩)
      cases e : wInt T l with
      | none =>
        rw [e] at v2
        obtain ⟨u1, u2⟩ := v2
        replace u2 : τ = L_types σ := u2
        exact ⟨u1, T, by show rT τ T0 T; rw [u2]; exact r.2⟩
      | some q =>
        rw [e] at v2
        exact v2
    · have z2 : ¬ nI 30 ≤ nI c := z
      rw [nI_leI (by decide) (by omega)] at z2
      rw [show 30 - c = (30 - (c + 1)) + 1 by omega, wCls, k_has _ (show c < 32 by omega), hx c (by omega)]
      refine p_if (fun y => ?_) (fun y => ?_)
      · have sc : s c = false := b2_0.mp y
        rw [if_neg (by rw [sc]; decide), nI_1]
        refine ih (c + 1) σ T l h r ha hb hs (wLok_mono hl (by omega)) (by omega) ?_ hrow
        rcases hne with w | ⟨k, k1, k2, k3⟩
        · exact Or.inl w
        · refine Or.inr ⟨k, ?_, by omega, k3⟩
          by_cases ek : k = c
          · rw [ek, sc] at k3; cases k3
          · omega
      · have sc : s c = true := by
          cases q : s c with
          | true => rfl
          | false => rw [q] at y; exact absurd rfl y
        rw [if_pos sc]
        obtain ⟨s1, s2, s3⟩ := hs c sc
        obtain ⟨la, oa⟩ := wLg_ok h ha s2
        obtain ⟨lb, ob⟩ := wLg_ok h hb s3
        refine p_bind (r_L_find h r ha s1) ?_
        intro r4 e4
        rw [la] at e4
        replace e4 : r4 = nI (wLg C T a c) := e4
        subst e4
        refine p_bind (r_L_find h r hb s1) ?_
        intro r5 e5
        rw [lb] at e5
        replace e5 : r5 = nI (wLg C T b c) := e5
        subst e5
        refine p_bind (r_L_boundArgument h r hd hrec oa ob) ?_
        rintro ⟨w, ρ, K, N⟩ ⟨v, v1, v2, v3⟩
        replace v1 : w = .inl v := v1
        subst v1
        replace v2 : rLf σ ρ (30 * d) := v2
        have v2' : rLf σ ρ (30 * (d + 1)) := rLf_mono v2 (by omega)
        refine p_ad ?_
        refine p_mono (P := rUp σ T0 (30 * (d + 1)) ((wAr2 (wFd C d) T (wLg C T a c) (wLg C T b c)).bind (fun q => (wNm q.2 c q.1).bind (fun p => wCls C (wFd C d) a b s (30 - (c + 1)) (c + 1) p.2 (l ++ [p.1]))))) ?_ (fun q hq => hq)
        cases e6 : wAr2 (wFd C d) T (wLg C T a c) (wLg C T b c) with
        | none =>
          rw [e6] at v3
          obtain ⟨u1, T', u2⟩ := v3
          replace u1 : v = -1 := u1
          replace u2 : rT (L_types ρ) T0 T' := u2
          subst u1
          show k_pc ((f_T_makeNamed (L_types ρ) (nI c) (-1)).bind _) _
          have em : f_T_makeNamed (L_types ρ) (nI c) (-1) = some (-1, L_types ρ) := by
            unfold f_T_makeNamed
            rw [if_neg (by decide)]
          rw [em]
          exact p_some ⟨-1, rfl, v2', rfl, T', u2⟩
        | some q =>
          rw [e6] at v3
          obtain ⟨u1, u2⟩ := v3
          replace u1 : v = nI q.1 := u1
          replace u2 : rT (L_types ρ) T0 q.2 := u2
          subst u1
          obtain ⟨q1, q2, q3⟩ := wAr2_ok (wFd_ok d) h oa ob e6
          refine p_bind (r_T_makeNamed q1 u2 s1 q3) ?_
          rintro ⟨v7, τ⟩ hv7
          refine p_mono (P := rUp σ T0 (30 * (d + 1)) ((wNm q.2 c q.1).bind (fun p => wCls C (wFd C d) a b s (30 - (c + 1)) (c + 1) p.2 (l ++ [p.1])))) ?_ (fun q hq => hq)
          cases e7 : wNm q.2 c q.1 with
          | none =>
            unfold wNm at e7
            rw [e7] at hv7
            obtain ⟨t1, t2⟩ := hv7
            replace t1 : v7 = -1 := t1
            replace t2 : τ = L_types ρ := t2
            refine p_if (fun _ => p_some ⟨-1, rfl, v2', ?_⟩) (fun z => absurd t1 z)
            exact ⟨rfl, q.2, by show rT τ T0 q.2; rw [t2]; exact u2⟩
          | some p =>
            obtain ⟨p1, p2, p3, p4, p5⟩ := wNm_ok q1 s1 q3 e7
            unfold wNm at e7
            rw [e7] at hv7
            obtain ⟨t1, t2⟩ := hv7
            replace t1 : v7 = nI p.1 := t1
            replace t2 : rT τ T0 p.2 := t2
            have hp3 := p1.2.2.1
            refine p_if (fun z => absurd (t1.symm.trans z) (k_ne1 (by omega))) (fun _ => p_guard (fun _ => ?_))
            have hex := wEx_trans q2 p2
            have cl : (nI (30 * d) + nI l.length).toNatClampNeg = 30 * d + l.length := by rw [nI_add]; exact nI_clamp (by omega)
            have el : nI l.length + 1 = nI (l ++ [p.1]).length := by rw [nI_1, List.length_append]; rfl
            have nx := ih (c + 1) (L_put_row (L_set_types ρ τ) (nI (30 * d) + nI l.length) v7) p.2 (l ++ [p.1]) p1 ⟨by show rC (L_classes ρ) C g; rw [v2.2.1]; exact r.1, t2⟩ (Nat.lt_of_lt_of_le ha hex.1) (Nat.lt_of_lt_of_le hb hex.1) (wSok_ex h.2 hex ha hb hs) (wLok_add (wLok_ex hex hl) p4 p3 p5) (by omega) (Or.inl (by simp)) (fun k hk => ?_)
            · rw [el, nI_1]
              refine p_mono nx ?_
              rintro q0 ⟨v0, w1, w2, w3⟩
              have mid : rLf ρ (L_put_row (L_set_types ρ τ) (nI (30 * d) + nI l.length) v7) (30 * (d + 1)) := by
                refine ⟨rfl, rfl, rfl, rfl, fun j hj => ?_⟩
                show upd (L_row ρ) (nI (30 * d) + nI l.length).toNatClampNeg v7 j = L_row ρ j
                rw [cl]; exact k_updn (by omega)
              exact ⟨v0, w1, rLf_trans (rLf_trans v2' mid) w2, w3⟩
            · show upd (L_row ρ) (nI (30 * d) + nI l.length).toNatClampNeg v7 (30 * d + k) = _
              rw [cl]
              have hk' : k < l.length + 1 := by rw [List.length_append] at hk; exact hk
              by_cases ek : k = l.length
              · subst ek
                rw [k_upds, t1]; congr 1; simp
              · have kl : k < l.length := by omega
                rw [k_updn (by omega)]
                have e9 : (l ++ [p.1])[k] = l[k] := List.getElem_append_left kl
                rw [e9, v2.2.2.2.2 _ (by omega)]
                exact hrow k kl
theorem r_L_boundByClasses (h : wOK C T) (r : rL σ C g T0 T) (hd : d ≤ 2) (hrec : ∀ e, d = e + 1 → rRec C g T0 e (wFd C d) rec) {a b : Nat} (ha : a < Tn T) (hb : b < Tn T) : k_pc (f_L_boundByClasses rec σ (nI a) (nI b) (nI d)) (rUp σ T0 (30 * (d + 1)) (wCls C (wFd C d) a b (wLs2 C T a b) 30 0 T [])) := by
  have hC := h.1.2.1
  unfold f_L_boundByClasses
  refine p_if (fun z => absurd z (nI_pos (by omega))) (fun _ => p_if (fun _ => ?_) (fun z => ?_))
  · refine p_bind (r_L_commonOf h r ha hb) (fun v hv => p_bind (r_C_leastOf h.1 r.1 hv) (fun w hw => ?_))
    obtain ⟨s1, k, k1, k2⟩ := wLs2_ok h ha hb
    have e : nI d * 30 = nI (30 * d) := by
      show nI d * nI 30 = _
      rw [k_mul, Nat.mul_comm]
    rw [e]
    exact r_L_bBC_38 hd hrec hw 1000 0 σ T [] h r ha hb s1 (wLok_nil T) (by omega) (Or.inr ⟨k, by omega, by omega, k2⟩) (fun k hk => absurd hk (by simp))
  · have z2 : ¬ nI d ≤ nI 2 := z
    rw [nI_leI (by omega) (by decide)] at z2
    omega
theorem r_L_isArrayOfOthers (h : wOK C T) (r : rL σ C g T0 T) {a : Nat} (ha : a < Tn T) : k_pc (f_L_isArrayOfOthers σ (nI a)) (fun v => v = b2 (wAO T a)) := by
  have hn := h.2.2.1
  have kl := wK_lt h.2 ha
  unfold f_L_isArrayOfOthers wAO
  rw [r_T_kindOf h.2 r.2 ha]
  show k_pc (if nI (dK (Ty T a)) = 2 then _ else _) _
  refine p_if (fun z => ?_) (fun z => p_some ?_)
  · have z2 : nI (dK (Ty T a)) = nI 2 := z
    rw [nI_eq (by omega) (by decide)] at z2
    obtain ⟨_, w1, _⟩ := wT_arr h.2 ha z2
    rw [r_T_elementOf h.2 r.2 ha, if_pos z2]
    show k_pc ((f_T_kindOf (L_types σ) (nI (dX (Ty T a)))).bind _) _
    rw [r_T_kindOf h.2 r.2 (show dX (Ty T a) < Tn T by omega)]
    show k_pc (if nI (dK (Ty T (dX (Ty T a)))) = 0 then _ else _) _
    have kl2 := wK_lt h.2 (show dX (Ty T a) < Tn T by omega)
    rw [decide_eq_true z2, Bool.true_and]
    refine p_if (fun y => p_some ?_) (fun y => p_some ?_)
    · have y2 : nI (dK (Ty T (dX (Ty T a)))) = nI 0 := y
      rw [nI_eq (by omega) (by decide)] at y2
      rcases wT_kind h.2 (show dX (Ty T a) < Tn T by omega) with ⟨_, q⟩ | ⟨_, q⟩
      · rw [decide_eq_false (by omega)]; rfl
      · omega
    · have y2 : ¬ nI (dK (Ty T (dX (Ty T a)))) = nI 0 := y
      rw [nI_eq (by omega) (by decide)] at y2
      rcases wT_kind h.2 (show dX (Ty T a) < Tn T by omega) with ⟨q, _⟩ | ⟨q, _⟩
      · exact absurd q y2
      · rw [decide_eq_true q]; rfl
  · have z2 : ¬ nI (dK (Ty T a)) = nI 2 := z
    rw [nI_eq (by omega) (by decide)] at z2
    rw [decide_eq_false z2, Bool.false_and]; rfl
/-- n ARRAYS more -/
def wWr : Nat → Option (Nat × wWt) → Option (Nat × wWt)
  | 0, o => o
  | n + 1, o => wWr n (o.bind wArr)
theorem wWr_bind : ∀ (n : Nat) (o : Option (Nat × wWt)), wWr n (o.bind wArr) = (wWr n o).bind wArr := by
  intro n
  induction n with
  | zero => intro o; rfl
  | succ n ih => intro o; rw [wWr, ih, wWr]
theorem wWr_none : ∀ (n : Nat), wWr n none = none := by
  intro n
  induction n with
  | zero => rfl
  | succ n ih => rw [wWr]; exact ih
theorem r_L_up95 {n K : Nat} (hK : n < 1000) : ∀ (f i : Nat) (ρ : StL) (v : Int32) (o : Option (Nat × wWt)), i ≤ n → rLf σ ρ K → (∀ q, o = some q → wOK C q.2 ∧ q.1 < Tn q.2) → rUv T0 o v ρ → k_pc (f_L_upperBound_95 rec f ρ (nI n) v (nI i)) (rUp σ T0 K (wWr (n - i) o)) := by
  intro f
  induction f with
  | zero => intro i ρ v o _ _ _ _; exact p_none
  | succ f ih =>
    intro i ρ v o hi hf ho hv
    rw [f_L_upperBound_95]
    unfold f_L_upperBound_95_s
    refine p_if (fun z => p_some ?_) (fun z => ?_)
    · rw [nI_leI (by omega) (by omega)] at z
      rw [show n - i = 0 by omega]
      exact ⟨v, rfl, hf, hv⟩
    · rw [nI_leI (by omega) (by omega)] at z
      cases o with
      | none =>
        rw [wWr_none]
        exact p_if (fun _ => p_some ⟨v, rfl, hf, hv⟩) (fun z => absurd hv.1 z)
      | some q =>
        obtain ⟨v1, v2⟩ := hv
        obtain ⟨q1, q2⟩ := ho q rfl
        have hn := q1.2.2.1
        refine p_if (fun z => absurd (v1.symm.trans z) (k_ne1 (by omega))) (fun _ => ?_)
        rw [v1]
        refine p_bind (r_T_makeArray q1 v2 q2) ?_
        rintro ⟨x, τ⟩ hx
        rw [show n - i = (n - (i + 1)) + 1 by omega, wWr, nI_1]
        show k_pc (f_L_upperBound_95 rec f (L_set_types ρ τ) (nI n) x (nI (i + 1))) _
        have hf' : rLf σ (L_set_types ρ τ) K := rLf_trans hf ⟨rfl, rfl, rfl, rfl, fun _ _ => rfl⟩
        refine ih (i + 1) (L_set_types ρ τ) x ((some q).bind wArr) (by omega) hf' (fun p e => ?_) ?_
        · obtain ⟨a1, _, a3, _⟩ := wArr_ok q1 q2 e
          exact ⟨a1, a3⟩
        · show rUv T0 (wAdd q.2 (2, q.1, 0, []) (1 + Tm q.2 q.1)) x (L_set_types ρ τ)
          cases e : wAdd q.2 (2, q.1, 0, []) (1 + Tm q.2 q.1) with
          | none =>
            rw [e] at hx
            obtain ⟨x1, x2⟩ := hx
            replace x2 : τ = L_types ρ := x2
            exact ⟨x1, q.2, by show rT τ T0 q.2; rw [x2]; exact v2⟩
          | some p => rw [e] at hx; exact hx
theorem r_L_up69 (h : wOK C T) (r : rL σ C g T0 T) (hd : d ≤ 2) (hrec : ∀ e, d = e + 1 → rRec C g T0 e (wFd C d) rec) {a b n : Nat} (hn : n < 1000) (ha : a < Tn T) (hb : b < Tn T) (hao : ¬ (wAO T a = true ∧ wAO T b = true) ∨ a = b) (m : Nat) : k_pc (f_L_upperBound_69 rec σ (nI d) (nI a) (nI b) (nI n)) (rUp σ T0 (30 * (d + 1)) (wWr n (wUb C (wFd C d) (m + 1) T a b))) := by
  have h3 := h.2.2.1
  have hu := wUb_ok (wFd_ok (C := C) d) (m + 1) T a b h ha hb
  unfold f_L_upperBound_69
  refine p_if (fun z => ?_) (fun z => ?_)
  · rw [nI_eq (by omega) (by omega)] at z
    have := r_L_up95 (σ := σ) (rec := rec) (C := C) (T0 := T0) (K := 30 * (d + 1)) hn 1000 0 σ (nI a) (wUb C (wFd C d) (m + 1) T a b) (by omega) (rLf_refl σ _) (fun q e => ⟨(hu q e).1, (hu q e).2.2.1⟩) (by rw [wUb, if_pos z]; exact ⟨rfl, r.2⟩)
    exact this
  · rw [nI_eq (by omega) (by omega)] at z
    have hao' : ¬ (wAO T a = true ∧ wAO T b = true) := by
      rcases hao with w | w
      · exact w
      · exact absurd w z
    have e : wUb C (wFd C d) (m + 1) T a b = wCls C (wFd C d) a b (wLs2 C T a b) 30 0 T [] := by
      rw [wUb, if_neg z, if_neg hao']
    refine p_bind (r_L_boundByClasses h r hd hrec ha hb) ?_
    rintro ⟨w, ρ, K, N⟩ ⟨v, v1, v2, v3⟩
    replace v1 : w = .inl v := v1
    subst v1
    refine p_ad ?_
    rw [← e] at v3
    exact p_mono (r_L_up95 (σ := σ) (rec := rec) (C := C) (T0 := T0) (K := 30 * (d + 1)) hn 1000 0 ρ v (wUb C (wFd C d) (m + 1) T a b) (by omega) v2 (fun q e => ⟨(hu q e).1, (hu q e).2.2.1⟩) v3) (fun q hq => hq)
theorem r_L_up9 (h : wOK C T) (r : rL σ C g T0 T) (hd : d ≤ 2) (hrec : ∀ e, d = e + 1 → rRec C g T0 e (wFd C d) rec) : ∀ (f a b n : Nat), a < Tn T → b < Tn T → Tm T a + n ≤ 100 → k_pc (f_L_upperBound_9 rec f σ (nI d) (nI a) (nI b) (nI n)) (rUp σ T0 (30 * (d + 1)) (wWr n (wUb C (wFd C d) (101 - n) T a b))) := by
  have h3 := h.2.2.1
  intro f
  induction f with
  | zero => intro a b n _ _ _; exact p_none
  | succ f ih =>
    intro a b n ha hb hm
    have m1 := (h.2.2.2.1 a ha).1
    rw [f_L_upperBound_9]
    unfold f_L_upperBound_9_s
    have en : 101 - n = (100 - n) + 1 := by omega
    refine p_if (fun z => ?_) (fun z => ?_)
    · have z2 : nI 100 ≤ nI n := z
      rw [nI_leI (by decide) (by omega)] at z2
      omega
    refine p_if (fun z => ?_) (fun z => ?_)
    · rw [nI_eq (by omega) (by omega)] at z
      rw [en]; exact r_L_up69 h r hd hrec (by omega) ha hb (Or.inr z) _
    rw [nI_eq (by omega) (by omega)] at z
    refine p_bind (r_L_isArrayOfOthers h r ha) ?_
    intro r3 e3
    subst e3
    refine p_if (fun y => ?_) (fun y => ?_)
    · rw [en]; exact r_L_up69 h r hd hrec (by omega) ha hb (Or.inl (fun q => by rw [b2_0.mp y] at q; exact absurd q.1 (by decide))) _
    refine p_bind (r_L_isArrayOfOthers h r hb) ?_
    intro r4 e4
    subst e4
    refine p_if (fun w => ?_) (fun w => ?_)
    · rw [en]; exact r_L_up69 h r hd hrec (by omega) ha hb (Or.inl (fun q => by rw [b2_0.mp w] at q; exact absurd q.2 (by decide))) _
    have ya : wAO T a = true := by
      cases q : wAO T a with
      | true => rfl
      | false => rw [q] at y; exact absurd rfl y
    have yb : wAO T b = true := by
      cases q : wAO T b with
      | true => rfl
      | false => rw [q] at w; exact absurd rfl w
    obtain ⟨a1, a2, a3, a4⟩ := wAO_el h.2 ha ya
    obtain ⟨b1, b2', b3, b4⟩ := wAO_el h.2 hb yb
    rw [r_T_elementOf h.2 r.2 ha, if_pos a1]
    show k_pc ((f_T_elementOf (L_types σ) (nI b)).bind _) _
    rw [r_T_elementOf h.2 r.2 hb, if_pos b1]
    show k_pc (f_L_upperBound_9 rec f σ (nI d) (nI (dX (Ty T a))) (nI (dX (Ty T b))) (nI n + 1)) _
    rw [nI_1]
    have := ih (dX (Ty T a)) (dX (Ty T b)) (n + 1) (by omega) (by omega) (by omega)
    rw [en, wUb, if_neg z, if_pos ⟨ya, yb⟩]
    rw [wWr, show 101 - (n + 1) = 100 - n by omega] at this
    exact this
end
theorem r_L_upperBound {C : wWc} {g : Nat} {T0 : wWt} : ∀ (d F : Nat), d ≤ 2 → rRec C g T0 d (wUpp C d) (f_L_upperBound F) := by
  intro d
  induction d with
  | zero =>
    intro F hd σ T a b h r ha hb
    cases F with
    | zero => exact p_none
    | succ F =>
      rw [f_L_upperBound]
      unfold f_L_upperBound_s
      exact r_L_up9 h r hd (fun e q => by omega) 1000 a b 0 ha hb (by have := (h.2.2.2.1 a ha).2.1; omega)
  | succ d ih =>
    intro F hd σ T a b h r ha hb
    cases F with
    | zero => exact p_none
    | succ F =>
      rw [f_L_upperBound]
      unfold f_L_upperBound_s
      refine r_L_up9 h r hd (fun e q => ?_) 1000 a b 0 ha hb (by have := (h.2.2.2.1 a ha).2.1; omega)
      have ee : e = d := by omega
      subst ee
      exact ih F (by omega)
-- part 08.67.ans.lean.txt
/-! Tier 3: the answers that the class keeps: two bits a pair. -/
theorem bt_nI (m i : Nat) (hi : i < 32) : bt (nI m) i = m.testBit i := by
  unfold bt
  show (Int32.ofNat m).toBitVec.getLsbD i = _
  rw [Int32.toBitVec_ofNat', BitVec.getLsbD_ofNat, decide_eq_true hi, Bool.true_and]
theorem k_sh16 {p : Nat} (hp : p < 2 ^ 31) : nI p >>> (4 &&& 31) = nI (p / 16) := by
  apply b_ext
  intro i hi
  have e : (nI p >>> ((4 : Int32) &&& 31)) = nI p >>> (nI 4 &&& 31) := rfl
  rw [e, b_sshr 4 (by decide) _ hi, bt_nI _ _ hi]
  have d : (p / 16).testBit i = p.testBit (4 + i) := by
    rw [show (16 : Nat) = 2 ^ 4 from rfl, Nat.testBit_div_two_pow, Nat.add_comm]
  rw [d]
  by_cases z : 4 + i < 32
  · rw [if_pos z, bt_nI _ _ z]
  · rw [if_neg z, bt_nI _ _ (by decide), Nat.testBit_lt_two_pow hp, Nat.testBit_lt_two_pow (Nat.lt_of_lt_of_le hp (Nat.pow_le_pow_right (by decide) (by omega)))]
theorem bt_15 : ∀ i, i < 32 → bt 15 i = decide (i < 4) := by decide +kernel
theorem bt_3 : ∀ i, i < 32 → bt 3 i = decide (i < 2) := by decide +kernel
theorem k_a15 {p : Nat} : nI p &&& 15 = nI (p % 16) := by
  apply b_ext
  intro i hi
  rw [b_and, bt_nI _ _ hi, bt_nI _ _ hi, bt_15 i hi, show (16 : Nat) = 2 ^ 4 from rfl, Nat.testBit_mod_two_pow, Bool.and_comm]
def aB (σ : StA) (p k : Nat) : Bool := bt (A_cells σ (p / 16)) (2 * (p % 16) + k)
def aV (x y : Bool) : Int32 := if x = true then (if y = true then 3 else 1) else (if y = true then 2 else 0)
theorem aV_b (x y : Bool) : bt (aV x y) 0 = x ∧ bt (aV x y) 1 = y ∧ ∀ i, i < 32 → 2 ≤ i → bt (aV x y) i = false := by
  cases x <;> cases y <;> decide +kernel
theorem k_rd (x : Int32) {s : Nat} (hs : s < 31) : (x >>> (nI s &&& 31)) &&& 3 = aV (bt x s) (bt x (s + 1)) := by
  obtain ⟨v0, v1, v2⟩ := aV_b (bt x s) (bt x (s + 1))
  apply b_ext
  intro i hi
  rw [b_and, b_sshr s (by omega) x hi, bt_3 i hi]
  by_cases i0 : i = 0
  · subst i0
    rw [v0, if_pos (by omega), Nat.add_zero, decide_eq_true (by decide), Bool.and_true]
  · by_cases i1 : i = 1
    · subst i1
      rw [v1, if_pos (by omega), decide_eq_true (by decide), Bool.and_true]
    · rw [v2 i hi (by omega), decide_eq_false (by omega), Bool.and_false]
theorem k_prs {a b : Nat} : nI a * 300 + nI b = nI (300 * a + b) := by
  show nI a * nI 300 + nI b = _
  rw [k_mul, nI_add, Nat.mul_comm]
theorem r_A_pair {a b : Nat} (ha : a < 300) (hb : b < 300) : f_A_isPair (nI a) (nI b) = 1 := by
  unfold f_A_isPair
  have n1 : ¬ (300 : Int32) ≤ nI a := by show ¬ nI 300 ≤ nI a; rw [nI_leI (by decide) (by omega)]; omega
  have n2 : ¬ (300 : Int32) ≤ nI b := by show ¬ nI 300 ≤ nI b; rw [nI_leI (by decide) (by omega)]; omega
  rw [if_neg (nI_pos (by omega)), if_neg n1, if_neg (nI_pos (by omega)), if_neg n2]
theorem k_2m {m : Nat} : 2 * nI m = nI (2 * m) := by
  show nI 2 * nI m = _; rw [k_mul]
theorem r_A_read {σ : StA} {a b : Nat} (ha : a < 300) (hb : b < 300) : k_pc (f_A_read σ (nI a) (nI b)) (fun v => v = aV (aB σ (300 * a + b) 0) (aB σ (300 * a + b) 1)) := by
  unfold f_A_read
  rw [r_A_pair ha hb]
  refine p_if (fun z => absurd z (by decide)) (fun _ => p_guard (fun _ => p_some ?_))
  rw [k_prs, k_sh16 (by omega), k_a15, k_2m, nI_clamp (show (300 * a + b) / 16 < 2 ^ 31 by omega), k_rd _ (show 2 * ((300 * a + b) % 16) < 31 by omega)]
  rfl
theorem r_A_keep {σ : StA} {a b : Nat} (ha : a < 300) (hb : b < 300) {y : Int32} {w : Bool} (hy : y = b2 w) : k_pc (f_A_keep σ (nI a) (nI b) y) (fun r => A_empty r.2 = 0 ∧ ∀ p k, p < 90000 → k < 2 → aB r.2 p k = (aB σ p k || (decide (p = 300 * a + b) && (if w = true then decide (k = 1) else decide (k = 0))))) := by
  have fin : ∀ (t3 : Int32) (j : Nat), j < 2 → (∀ i, i < 32 → bt t3 i = decide (i = j)) → k_pc (f_A_keep_37 σ (nI (300 * a + b)) (nI ((300 * a + b) / 16)) (A_cells σ ((300 * a + b) / 16)) t3) (fun r => A_empty r.2 = 0 ∧ ∀ p k, p < 90000 → k < 2 → aB r.2 p k = (aB σ p k || (decide (p = 300 * a + b) && decide (k = j)))) := by
    intro t3 j hj ht
    unfold f_A_keep_37
    refine p_guard (fun _ => p_some ⟨rfl, fun p k hp hk => ?_⟩)
    unfold aB
    show bt (upd (A_cells σ) (nI ((300 * a + b) / 16)).toNatClampNeg (A_cells σ ((300 * a + b) / 16) ||| (t3 <<< ((2 * (nI (300 * a + b) &&& 15)) &&& 31))) (p / 16)) (2 * (p % 16) + k) = _
    rw [nI_clamp (show (300 * a + b) / 16 < 2 ^ 31 by omega), k_a15, k_2m]
    by_cases e : p / 16 = (300 * a + b) / 16
    · rw [e, k_upds, b_or, b_shl _ (by omega) _ (show 2 * (p % 16) + k < 32 by omega), ht _ (by omega)]
      congr 1
      by_cases e2 : p = 300 * a + b
      · rw [decide_eq_true e2, decide_eq_true (by omega), Bool.true_and, Bool.true_and]
        congr 1
        apply propext
        constructor
        · intro z; omega
        · intro z; omega
      · rw [decide_eq_false e2, Bool.false_and]
        by_cases e3 : 2 * ((300 * a + b) % 16) ≤ 2 * (p % 16) + k
        · rw [decide_eq_true e3, Bool.true_and, decide_eq_false (by omega)]
        · rw [decide_eq_false e3, Bool.false_and]
    · rw [k_updn e, decide_eq_false (by omega), Bool.false_and, Bool.or_false]
  unfold f_A_keep
  rw [r_A_pair ha hb]
  refine p_if (fun z => absurd z (by decide)) (fun _ => p_guard (fun _ => ?_))
  rw [k_prs, k_sh16 (by omega), nI_clamp (show (300 * a + b) / 16 < 2 ^ 31 by omega)]
  cases w with
  | false =>
    refine p_if (fun _ => ?_) (fun z => absurd hy z)
    exact fin 1 0 (by decide) (fun i hi => b_one i)
  | true =>
    refine p_if (fun z => absurd (hy.symm.trans z) (by decide)) (fun _ => ?_)
    exact fin 2 1 (by decide) (by decide +kernel)
/-- what is kept is so -/
def rA (σ : StA) (C : wWc) (T : wWt) : Prop := (∀ a b, a < 300 → b < 300 → (aB σ (300 * a + b) 0 = true → a < Tn T ∧ b < Tn T ∧ ¬ wB C T a b) ∧ (aB σ (300 * a + b) 1 = true → a < Tn T ∧ b < Tn T ∧ wB C T a b)) ∧ (A_empty σ = 0 ∨ ∀ p k, p < 90000 → k < 2 → aB σ p k = false)
theorem rA_keep {σ : StA} {C : wWc} {T : wWt} (r : rA σ C T) {a b : Nat} (ha : a < 300) (hb : b < 300) (ha' : a < Tn T) (hb' : b < Tn T) {y : Int32} (h1 : y = 1 → wB C T a b) (h0 : y = 0 → ¬ wB C T a b) (hy : y = 0 ∨ y = 1) : k_pc (f_A_keep σ (nI a) (nI b) y) (fun q => rA q.2 C T) := by
  have e : ∃ w, y = b2 w := by
    rcases hy with e | e
    · exact ⟨false, e⟩
    · exact ⟨true, e⟩
  obtain ⟨w, ew⟩ := e
  refine p_mono (r_A_keep ha hb ew) ?_
  rintro q ⟨q1, q2⟩
  refine ⟨fun c d hc hd => ?_, Or.inl q1⟩
  have b0 := q2 (300 * c + d) 0 (by omega) (by omega)
  have b1 := q2 (300 * c + d) 1 (by omega) (by omega)
  by_cases e : 300 * c + d = 300 * a + b
  · have ec : c = a := by omega
    have ed : d = b := by omega
    subst ec ed
    rw [decide_eq_true rfl, Bool.true_and] at b0 b1
    cases w with
    | false =>
      have nb := h0 ew
      refine ⟨fun _ => ⟨ha', hb', nb⟩, fun z => ?_⟩
      rw [b1] at z
      exact (r.1 c d hc hd).2 (by simpa using z)
    | true =>
      have yb := h1 ew
      refine ⟨fun z => ?_, fun _ => ⟨ha', hb', yb⟩⟩
      rw [b0] at z
      exact (r.1 c d hc hd).1 (by simpa using z)
  · rw [decide_eq_false e, Bool.false_and, Bool.or_false] at b0 b1
    rw [b0, b1]
    exact r.1 c d hc hd
-- part 08.68.belL.lean.txt
/-! Tier 3: the class's liesBelow answers BELOW. -/
theorem k_01 : ¬ (0 : Int32) = 1 := by decide
def rBl (σ : StL) (C : wWc) (T : wWt) (P : Prop) (r : Int32 × StL) : Prop := (r.1 = 0 ∨ r.1 = 1) ∧ (r.1 = 1 ↔ P) ∧ ∃ A, r.2 = L_set_answers σ A ∧ rA A C T
def rBr (C : wWc) (g : Nat) (T0 T : wWt) (rec : StL → Int32 → Int32 → Int32 → Option (Int32 × StL)) : Prop := ∀ (σ : StL) (a b m : Nat), rL σ C g T0 T → rA (L_answers σ) C T → a < Tn T → b < Tn T → Tm T b ≤ m → m ≤ 100 → k_pc (rec σ (nI a) (nI b) (nI m)) (rBl σ C T (wB C T a b))
section
variable {σ : StL} {C : wWc} {T0 T : wWt} {g : Nat} {rec : StL → Int32 → Int32 → Int32 → Option (Int32 × StL)}
theorem wPt_len (h : wTok C T) {a : Nat} (ha : a < Tn T) : (wPt T a).length = (if 1 < wPc (Ty T a) then wPc (Ty T a) else 1) ∧ ((wPc (Ty T a) = 0 ∧ wPt T a = [a]) ∨ (wPc (Ty T a) ≠ 0 ∧ wPt T a = wPs T a)) := by
  obtain ⟨_, _, h1 | ⟨_, c, x, h1, _⟩ | ⟨_, e, h1, _⟩ | ⟨_, l, h1, h2, _⟩⟩ := h.2.2.1 a ha
  · unfold wPt wPc wPs; rw [h1.2.1]; exact ⟨rfl, Or.inl ⟨rfl, rfl⟩⟩
  · unfold wPt wPc wPs; rw [h1]; exact ⟨rfl, Or.inr ⟨Nat.one_ne_zero, rfl⟩⟩
  · unfold wPt wPc wPs; rw [h1]; exact ⟨rfl, Or.inl ⟨rfl, rfl⟩⟩
  · unfold wPt wPc wPs
    rw [h1]
    show l.length = (if 1 < l.length then l.length else 1) ∧ _
    rw [if_pos (by omega)]
    refine ⟨rfl, Or.inr ⟨?_, rfl⟩⟩
    show l.length ≠ 0
    omega
theorem r_L_lbp13 (h : wOK C T) (hr : rBr C g T0 T rec) {a b m : Nat} (ha : a < Tn T) (hb : b < Tn T) (h3 : dK (Ty T b) = 3) (hm : Tm T b ≤ m + 1) (hm2 : m ≤ 100) :
    ∀ (f k : Nat) (σ : StL), rL σ C g T0 T → rA (L_answers σ) C T → k ≤ (dL (Ty T b)).length → k_pc (f_L_liesBelowParts_13 rec f σ (nI a) (nI b) (nI m) (nI (dL (Ty T b)).length) (nI k)) (rBl σ C T (∀ p, p ∈ (dL (Ty T b)).drop k → wB C T a p)) := by
  have hn := h.2.2.1
  obtain ⟨_, b2', b3, b4, b5, b6⟩ := wT_both h.2 hb h3
  have el : wPs T b = dL (Ty T b) := by unfold wPs; rw [if_neg (by omega)]
  intro f
  induction f with
  | zero => intro k σ _ _ _; exact p_none
  | succ f ih =>
    intro k σ r ra hk
    rw [f_L_liesBelowParts_13]
    unfold f_L_liesBelowParts_13_s
    refine p_if (fun z => p_some ?_) (fun z => ?_)
    · rw [nI_leI (by omega) (by omega)] at z
      refine ⟨Or.inr rfl, ⟨fun _ p hp => ?_, fun _ => rfl⟩, L_answers σ, rfl, ra⟩
      rw [show k = (dL (Ty T b)).length by omega, List.drop_length] at hp
      exact absurd hp (by simp)
    · rw [nI_leI (by omega) (by omega)] at z
      have hk' : k < (dL (Ty T b)).length := by omega
      rw [r_T_partOf h.2 r.2 hb (k := k) (by rw [el]; exact hk')]
      have e : (wPs T b)[k]'(by rw [el]; exact hk') = (dL (Ty T b))[k] := by simp [el]
      rw [e]
      have mem := List.getElem_mem hk'
      obtain ⟨p1, p2, p3⟩ := b4 _ mem
      have ps := wSum_le (T := T) _ _ mem
      show k_pc ((rec σ (nI a) (nI (dL (Ty T b))[k]) (nI m)).bind _) _
      refine p_bind (hr σ a _ m r ra ha (by omega) (by omega) hm2) ?_
      rintro ⟨v, τ⟩ ⟨v1, v2, A, v3, v4⟩
      replace v1 : v = 0 ∨ v = 1 := v1
      replace v2 : v = 1 ↔ wB C T a (dL (Ty T b))[k] := v2
      replace v3 : τ = L_set_answers σ A := v3
      subst v3
      rw [List.drop_eq_getElem_cons hk']
      refine p_if (fun y => p_some ?_) (fun y => ?_)
      · replace y : v = 0 := y
        refine ⟨Or.inl rfl, ⟨fun w => absurd w k_01, fun w => ?_⟩, A, rfl, v4⟩
        have := v2.mpr (w _ List.mem_cons_self)
        rw [y] at this; exact absurd this (by decide)
      · replace y : ¬ v = 0 := y
        have v5 := v2.mp (v1.resolve_left y)
        rw [nI_1]
        refine p_mono (ih (k + 1) (L_set_answers σ A) r v4 (by omega)) ?_
        rintro q ⟨q1, q2, B, q3, q4⟩
        refine ⟨q1, q2.trans ⟨fun w p hp => ?_, fun w p hp => w p (List.mem_cons_of_mem _ hp)⟩, B, q3, q4⟩
        rcases List.mem_cons.mp hp with e | e
        · rw [e]; exact v5
        · exact w p e
theorem r_L_hfp30 (h : wOK C T) (hr : rBr C g T0 T rec) {a b m : Nat} (ha : a < Tn T) (hb : b < Tn T) (h1 : dK (Ty T b) = 1) (hm : Tm T b ≤ m + 1) (hm2 : m ≤ 100) :
    ∀ (f k : Nat) (σ : StL), rL σ C g T0 T → rA (L_answers σ) C T → k ≤ (wPt T a).length → k_pc (f_L_hasFittingPart_30 rec f σ (nI a) (nI m) (nI (dX (Ty T b))) (nI (dA (Ty T b))) (nI (wPt T a).length) (nI k)) (rBl σ C T (∃ x r, x ∈ (wPt T a).drop k ∧ wLk C T x (dX (Ty T b)) = some r ∧ wFit C T r (dA (Ty T b)))) := by
  have hn := h.2.2.1
  have h16 := h.2.1
  obtain ⟨_, c1, c2, c3⟩ := wT_named h.2 hb h1
  have ca := wOk_lt (wOk_mono c2 (show b ≤ Tn T by omega)) (by omega)
  obtain ⟨l1, l2⟩ := wPt_len h.2 ha
  have l30 : (wPt T a).length ≤ 30 := by
    rw [l1]; have := wPc_le h.2 ha; split <;> omega
  intro f
  induction f with
  | zero => intro k σ _ _ _; exact p_none
  | succ f ih =>
    intro k σ r ra hk
    rw [f_L_hasFittingPart_30]
    unfold f_L_hasFittingPart_30_s
    refine p_if (fun z => p_some ?_) (fun z => ?_)
    · rw [nI_leI (by omega) (by omega)] at z
      refine ⟨Or.inl rfl, ⟨fun w => absurd w k_01, fun ⟨x, _, hx, _⟩ => ?_⟩, L_answers σ, rfl, ra⟩
      rw [show k = (wPt T a).length by omega, List.drop_length] at hx
      exact absurd hx (by simp)
    · rw [nI_leI (by omega) (by omega)] at z
      have hk' : k < (wPt T a).length := by omega
      have mem := List.getElem_mem hk'
      obtain ⟨p1, p2⟩ := wPt_ok h.2 ha mem
      have nx : ∀ A, rA A C T → (∀ r, wLk C T (wPt T a)[k] (dX (Ty T b)) = some r → ¬ wFit C T r (dA (Ty T b))) → k_pc (f_L_hasFittingPart_30 rec f (L_set_answers σ A) (nI a) (nI m) (nI (dX (Ty T b))) (nI (dA (Ty T b))) (nI (wPt T a).length) (nI k + 1)) (rBl σ C T (∃ x r, x ∈ (wPt T a).drop k ∧ wLk C T x (dX (Ty T b)) = some r ∧ wFit C T r (dA (Ty T b)))) := by
        intro A hA hno
        rw [nI_1]
        refine p_mono (ih (k + 1) (L_set_answers σ A) r hA (by omega)) ?_
        rintro q ⟨q1, q2, B, q3, q4⟩
        refine ⟨q1, q2.trans ?_, B, q3, q4⟩
        rw [List.drop_eq_getElem_cons hk']
        constructor
        · rintro ⟨x, s, x1, x2, x3⟩
          exact ⟨x, s, List.mem_cons_of_mem _ x1, x2, x3⟩
        · rintro ⟨x, s, x1, x2, x3⟩
          rcases List.mem_cons.mp x1 with e | e
          · rw [e] at x2; exact absurd x3 (hno s x2)
          · exact ⟨x, s, e, x2, x3⟩
      have ye : ∀ A s, rA A C T → wLk C T (wPt T a)[k] (dX (Ty T b)) = some s → wFit C T s (dA (Ty T b)) → rBl σ C T (∃ x r, x ∈ (wPt T a).drop k ∧ wLk C T x (dX (Ty T b)) = some r ∧ wFit C T r (dA (Ty T b))) (1, L_set_answers σ A) := by
        intro A s hA h4 h5
        refine ⟨Or.inr rfl, ⟨fun _ => ⟨(wPt T a)[k], s, ?_, h4, h5⟩, fun _ => rfl⟩, A, rfl, hA⟩
        rw [List.drop_eq_getElem_cons hk']; exact List.mem_cons_self
      have key : k_pc (f_L_hasFittingPart_63 rec (f_L_hasFittingPart_30 rec f) σ (nI a) (nI m) (nI (dX (Ty T b))) (nI (dA (Ty T b))) (nI (wPt T a).length) (nI k) (nI (wPt T a)[k])) (rBl σ C T (∃ x r, x ∈ (wPt T a).drop k ∧ wLk C T x (dX (Ty T b)) = some r ∧ wFit C T r (dA (Ty T b)))) := by
        unfold f_L_hasFittingPart_63
        refine p_bind (r_L_find h r p1 c1) ?_
        intro r6 e6
        cases hl : wLk C T (wPt T a)[k] (dX (Ty T b)) with
        | none =>
          rw [hl] at e6
          replace e6 : r6 = -1 := e6
          refine p_if (fun _ => ?_) (fun y => absurd e6 y)
          exact nx (L_answers σ) ra (fun s es => by rw [hl] at es; cases es)
        | some s =>
          rw [hl] at e6
          replace e6 : r6 = nI s := e6
          have so := wLk_ok h p1 hl
          have sl := wOk_lt so (by omega)
          subst e6
          refine p_if (fun y => absurd y (k_ne1 (by omega))) (fun _ => ?_)
          refine p_if (fun y => p_some ?_) (fun y => ?_)
          · rw [nI_eq (by omega) (by omega)] at y
            exact ye (L_answers σ) s ra hl (Or.inl y)
          · rw [nI_eq (by omega) (by omega)] at y
            rw [k_howOf _ (show dA (Ty T b) < 1200 by omega)]
            refine p_if (fun w => ?_) (fun w => ?_)
            · have w2 : nI (dA (Ty T b) % 4) = nI 2 := w
              rw [nI_eq (by omega) (by decide)] at w2
              have sz : s ≠ 0 ∧ s / 4 < Tn T := by
                rcases c2 with ⟨_, q⟩ | ⟨g1, y0, y1, y2, y3⟩
                · omega
                · rcases so with ⟨g2, _⟩ | ⟨_, x0, x1, x2, x3⟩
                  · rw [g1] at g2; cases g2
                  · omega
              rw [k_typeOf s (by omega), k_typeOf _ (show dA (Ty T b) < 1200 by omega), if_neg sz.1, if_neg (show ¬ dA (Ty T b) = 0 by omega)]
              rw [if_neg (show ¬ dA (Ty T b) = 0 by omega)] at c3
              refine p_bind (hr σ (s / 4) (dA (Ty T b) / 4) m r ra sz.2 (by omega) (by omega) hm2) ?_
              rintro ⟨v, τ⟩ ⟨v1, v2, A, v3, v4⟩
              replace v1 : v = 0 ∨ v = 1 := v1
              replace v2 : v = 1 ↔ wB C T (s / 4) (dA (Ty T b) / 4) := v2
              replace v3 : τ = L_set_answers σ A := v3
              subst v3
              refine p_if (fun u => ?_) (fun u => p_some ?_)
              · replace u : v = 0 := u
                refine nx A v4 (fun s' es => ?_)
                rw [hl] at es
                cases es
                rintro (q | ⟨_, q⟩)
                · exact y q
                · have := v2.mpr q
                  rw [u] at this; exact absurd this (by decide)
              · replace u : ¬ v = 0 := u
                exact ye A s v4 hl (Or.inr ⟨w2, v2.mp (v1.resolve_left u)⟩)
            · have w2 : ¬ nI (dA (Ty T b) % 4) = nI 2 := w
              rw [nI_eq (by omega) (by decide)] at w2
              refine nx (L_answers σ) ra (fun s' es => ?_)
              rw [hl] at es
              cases es
              rintro (q | ⟨q, _⟩)
              · exact y q
              · exact w2 q
      rw [r_T_countParts h.2 r.2 ha]
      show k_pc (if nI (wPc (Ty T a)) = 0 then _ else _) _
      have w30 := wPc_le h.2 ha
      refine p_if (fun y => ?_) (fun y => ?_)
      · have y2 : nI (wPc (Ty T a)) = nI 0 := y
        rw [nI_eq (by omega) (by decide)] at y2
        rcases l2 with ⟨_, l2⟩ | ⟨l2, _⟩
        · have e : (wPt T a)[k] = a := by
            have k0 : k = 0 := by rw [l2] at hk'; simpa using hk'
            subst k0; simp [l2]
          rw [e] at key; exact key
        · exact absurd y2 l2
      · have y2 : ¬ nI (wPc (Ty T a)) = nI 0 := y
        rw [nI_eq (by omega) (by decide)] at y2
        rcases l2 with ⟨l2, _⟩ | ⟨_, l2⟩
        · exact absurd l2 y2
        · rw [r_T_partOf h.2 r.2 ha (k := k) (by rw [← l2]; exact hk')]
          have e : (wPs T a)[k]'(by rw [← l2]; exact hk') = (wPt T a)[k] := by simp [l2]
          rw [e]; exact key
theorem r_L_b159 (r : rA (L_answers σ) C T) (h3 : Tn T ≤ 300) {a b : Nat} (ha : a < Tn T) (hb : b < Tn T) {v : Int32} (h0 : v = 0 ∨ v = 1) (h1 : v = 1 ↔ wB C T a b) : k_pc (f_L_liesBelow_159 rec σ (nI a) (nI b) v) (rBl σ C T (wB C T a b)) := by
  unfold f_L_liesBelow_159
  refine p_bind (rA_keep r (show a < 300 by omega) (show b < 300 by omega) ha hb h1.mp (fun z w => by rw [h1.mpr w] at z; exact absurd z (by decide)) h0) ?_
  intro q hq
  refine p_some ⟨?_, ?_, q.2, rfl, hq⟩
  · show v &&& 1 = 0 ∨ v &&& 1 = 1
    rcases h0 with e | e
    · rw [e]; exact Or.inl (by decide)
    · rw [e]; exact Or.inr (by decide)
  · rw [← h1]
    show v &&& 1 = 1 ↔ v = 1
    rcases h0 with e | e
    · rw [e]; decide
    · rw [e]; decide
theorem aV_0 {x y : Bool} : aV x y = 0 ↔ (x = false ∧ y = false) := by cases x <;> cases y <;> decide
theorem aV_2 {x y : Bool} : aV x y = 2 ↔ (x = false ∧ y = true) := by cases x <;> cases y <;> decide
theorem r_L_liesBelow (h : wOK C T) : ∀ F : Nat, rBr C g T0 T (f_L_liesBelow F) := by
  have hn := h.2.2.1
  intro F
  induction F with
  | zero => intro σ a b m _ _ _ _ _ _; exact p_none
  | succ F ih =>
    intro σ a b m r ra ha hb hm hm2
    have m1 := (h.2.2.2.1 b hb).1
    rw [f_L_liesBelow]
    unfold f_L_liesBelow_s
    refine p_if (fun z => p_some ?_) (fun z => ?_)
    · rw [nI_eq (by omega) (by omega)] at z
      subst z
      exact ⟨Or.inr rfl, ⟨fun _ => wB_refl h ha, fun _ => rfl⟩, L_answers σ, rfl, ra⟩
    rw [nI_eq (by omega) (by omega)] at z
    refine p_if (fun _ => ?_) (fun y => ?_)
    rotate_left
    · have y2 : ¬ nI 0 < nI m := y
      rw [nI_ltI (by decide) (by omega)] at y2
      omega
    refine p_bind (r_A_read (show a < 300 by omega) (show b < 300 by omega)) ?_
    intro v ev
    subst ev
    refine p_if (fun y => ?_) (fun y => ?_)
    rotate_left
    · have ra' := ra.1 a b (by omega) (by omega)
      refine p_if (fun w => p_some ?_) (fun w => p_some ?_)
      · have w2 := aV_2.mp w
        exact ⟨Or.inr rfl, ⟨fun _ => (ra'.2 w2.2).2.2, fun _ => rfl⟩, L_answers σ, rfl, ra⟩
      · refine ⟨Or.inl rfl, ⟨fun u => absurd u k_01, fun u => ?_⟩, L_answers σ, rfl, ra⟩
        exfalso
        cases e0 : aB (L_answers σ) (300 * a + b) 0 with
        | true => exact (ra'.1 e0).2.2 u
        | false =>
          cases e1 : aB (L_answers σ) (300 * a + b) 1 with
          | true => exact w (aV_2.mpr ⟨e0, e1⟩)
          | false => exact y (aV_0.mpr ⟨e0, e1⟩)
    rw [r_T_kindOf h.2 r.2 hb]
    have kl := wK_lt h.2 hb
    have em : nI m - 1 = nI (m - 1) := k_sub (b := 1) (by omega)
    have cmp : ∀ j, j < 4 → (nI (dK (Ty T b)) = nI j ↔ dK (Ty T b) = j) := fun j hj => nI_eq (by omega) (by omega)
    have keep : ∀ (τ : StL) (v : Int32) (A : StA), τ = L_set_answers σ A → rA A C T → (v = 0 ∨ v = 1) → (v = 1 ↔ wB C T a b) → k_pc (f_L_liesBelow_159 (f_L_liesBelow F) τ (nI a) (nI b) v) (rBl σ C T (wB C T a b)) := by
      intro τ v A e1 e2 e3 e4
      subst e1
      refine p_mono (r_L_b159 (σ := L_set_answers σ A) e2 hn ha hb e3 e4) ?_
      rintro q ⟨q1, q2, B, q3, q4⟩
      exact ⟨q1, q2, B, q3, q4⟩
    have neg : ∀ (τ : StL) (A : StA), τ = L_set_answers σ A → rA A C T → ¬ wB C T a b → k_pc (f_L_liesBelow_159 (f_L_liesBelow F) τ (nI a) (nI b) 0) (rBl σ C T (wB C T a b)) := by
      intro τ A e1 e2 e3
      exact keep τ 0 A e1 e2 (Or.inl rfl) ⟨fun u => absurd u k_01, fun u => absurd u e3⟩
    show k_pc (if nI (dK (Ty T b)) = 1 then _ else _) _
    refine p_if (fun w => ?_) (fun w1 => p_if (fun w => ?_) (fun w2 => p_if (fun w => ?_) (fun w3 => ?_)))
    · have k1 := (cmp 1 (by omega)).mp w
      have x30 := wX_lt h hb
      unfold f_L_hasFittingPart
      rw [em, r_T_classOf h.2 r.2 hb, if_pos k1]
      show k_pc (((f_T_argumentAt (L_types σ) (nI b)).bind _).bind _) _
      rw [r_T_argumentAt h.2 r.2 hb]
      show k_pc (((f_L_countHolders σ (nI a)).bind _).bind _) _
      unfold f_L_countHolders
      rw [r_T_countParts h.2 r.2 ha]
      obtain ⟨l1, l2⟩ := wPt_len h.2 ha
      have w30 := wPc_le h.2 ha
      have e : (if (1 : Int32) < nI (wPc (Ty T a)) then nI (wPc (Ty T a)) else 1) = nI (wPt T a).length := by
        rw [l1]
        by_cases u : 1 < wPc (Ty T a)
        · have u2 : (1 : Int32) < nI (wPc (Ty T a)) := by show nI 1 < nI (wPc (Ty T a)); rw [nI_ltI (by decide) (by omega)]; exact u
          rw [if_pos u, if_pos u2]
        · have u2 : ¬ (1 : Int32) < nI (wPc (Ty T a)) := by show ¬ nI 1 < nI (wPc (Ty T a)); rw [nI_ltI (by decide) (by omega)]; exact u
          rw [if_neg u, if_neg u2]; rfl
      show k_pc ((f_L_hasFittingPart_30 (f_L_liesBelow F) 1000 σ (nI a) (nI (m - 1)) (nI (dX (Ty T b))) (nI (dA (Ty T b))) (if (1 : Int32) < nI (wPc (Ty T a)) then nI (wPc (Ty T a)) else 1) 0).bind _) _
      rw [e]
      refine p_bind (r_L_hfp30 h ih ha hb k1 (by omega) (by omega) 1000 0 σ r ra (by omega)) ?_
      rintro ⟨v, τ⟩ ⟨v1, v2, A, v3, v4⟩
      refine keep τ v A v3 v4 v1 (Iff.trans v2 ?_)
      rw [List.drop_zero, wB_named h ha hb k1]
      exact ⟨fun q => Or.inr q, fun q => q.resolve_left z⟩
    · have k2 := (cmp 2 (by omega)).mp w
      have bel : wB C T a b ↔ (wAO T a = true ∧ wAO T b = true ∧ wB C T (dX (Ty T a)) (dX (Ty T b))) := by
        rw [wB_iff h ha hb]
        constructor
        · rintro (q | ⟨q, _⟩ | ⟨q, _⟩ | ⟨q1, q2, q3, q4, q5⟩)
          · exact absurd q z
          · omega
          · omega
          · refine ⟨?_, ?_, q5⟩
            · unfold wAO; rw [decide_eq_true q1, decide_eq_true q3]; rfl
            · unfold wAO; rw [decide_eq_true q2, decide_eq_true q4]; rfl
        · rintro ⟨q1, q2, q3⟩
          obtain ⟨a1, a2, _⟩ := wAO_el h.2 ha q1
          obtain ⟨b1, b2, _⟩ := wAO_el h.2 hb q2
          exact Or.inr (Or.inr (Or.inr ⟨a1, b1, a2, b2, q3⟩))
      unfold f_L_liesBelow_136 f_L_liesBelow_137
      refine p_bind (r_L_isArrayOfOthers h r ha) ?_
      intro r5 e5
      subst e5
      refine p_if (fun u => ?_) (fun u => ?_)
      · exact neg σ (L_answers σ) rfl ra (fun q => by have := (bel.mp q).1; rw [b2_0.mp u] at this; cases this)
      refine p_bind (r_L_isArrayOfOthers h r hb) ?_
      intro r6 e6
      subst e6
      refine p_if (fun u' => ?_) (fun u' => ?_)
      · exact neg σ (L_answers σ) rfl ra (fun q => by have := (bel.mp q).2.1; rw [b2_0.mp u'] at this; cases this)
      have ya : wAO T a = true := by
        cases q : wAO T a with
        | true => rfl
        | false => rw [q] at u; exact absurd rfl u
      have yb : wAO T b = true := by
        cases q : wAO T b with
        | true => rfl
        | false => rw [q] at u'; exact absurd rfl u'
      obtain ⟨a1, a2, a3, a4⟩ := wAO_el h.2 ha ya
      obtain ⟨b1, b2', b3, b4⟩ := wAO_el h.2 hb yb
      rw [r_T_elementOf h.2 r.2 ha, if_pos a1]
      show k_pc ((f_T_elementOf (L_types σ) (nI b)).bind _) _
      rw [r_T_elementOf h.2 r.2 hb, if_pos b1, em]
      show k_pc ((f_L_liesBelow F σ (nI (dX (Ty T a))) (nI (dX (Ty T b))) (nI (m - 1))).bind _) _
      refine p_bind (ih σ _ _ (m - 1) r ra (by omega) (by omega) (by omega) (by omega)) ?_
      rintro ⟨v, τ⟩ ⟨v1, v2, A, v3, v4⟩
      replace v1 : v = 0 ∨ v = 1 := v1
      replace v2 : v = 1 ↔ wB C T (dX (Ty T a)) (dX (Ty T b)) := v2
      refine p_if (fun q => ?_) (fun q => ?_)
      · replace q : v = 0 := q
        exact neg τ A v3 v4 (fun w => by have := v2.mpr (bel.mp w).2.2; rw [q] at this; exact absurd this k_01)
      · replace q : ¬ v = 0 := q
        exact keep τ 1 A v3 v4 (Or.inr rfl) ⟨fun _ => bel.mpr ⟨ya, yb, v2.mp (v1.resolve_left q)⟩, fun _ => rfl⟩
    · have k3 := (cmp 3 (by omega)).mp w
      unfold f_L_liesBelowParts
      have ec : wPc (Ty T b) = (dL (Ty T b)).length := by unfold wPc; rw [if_neg (by omega)]
      rw [em, r_T_countParts h.2 r.2 hb, ec]
      show k_pc ((f_L_liesBelowParts_13 (f_L_liesBelow F) 1000 σ (nI a) (nI b) (nI (m - 1)) (nI (dL (Ty T b)).length) 0).bind _) _
      refine p_bind (r_L_lbp13 h ih ha hb k3 (by omega) (by omega) 1000 0 σ r ra (by omega)) ?_
      rintro ⟨v, τ⟩ ⟨v1, v2, A, v3, v4⟩
      refine keep τ v A v3 v4 v1 (Iff.trans v2 ?_)
      rw [List.drop_zero, wB_iff h ha hb]
      constructor
      · intro q; exact Or.inr (Or.inl ⟨k3, q⟩)
      · rintro (q | ⟨_, q⟩ | ⟨q, _⟩ | ⟨_, q, _⟩)
        · exact absurd q z
        · exact q
        · omega
        · omega
    · have n1 : dK (Ty T b) ≠ 1 := fun q => w1 ((cmp 1 (by omega)).mpr q)
      have n2 : dK (Ty T b) ≠ 2 := fun q => w2 ((cmp 2 (by omega)).mpr q)
      have n3 : dK (Ty T b) ≠ 3 := fun q => w3 ((cmp 3 (by omega)).mpr q)
      refine neg σ (L_answers σ) rfl ra (fun q => ?_)
      rcases (wB_iff h ha hb).mp q with q | ⟨q, _⟩ | ⟨q, _⟩ | ⟨_, q, _⟩
      · exact z q
      · exact n3 q
      · exact n1 q
      · exact n2 q
end
-- part 08.69.belM.lean.txt
/-! Tier 3: the reference's table of BELOW. -/
def tB (β : Nat → Int32) (C : wWc) (T : wWt) (a b : Nat) : Prop := (β (300 * a + b) = 0 ∨ β (300 * a + b) = 1) ∧ (β (300 * a + b) = 1 ↔ wB C T a b)
theorem k_one1 {x : Int32} (h : x = 0 ∨ x = 1) : x &&& 1 = x := by
  rcases h with e | e <;> rw [e] <;> decide
section
variable {σ : StM} {C : wWc} {T : wWt} {g : Nat}
theorem tB_no {β : Nat → Int32} {a b : Nat} (h : tB β C T a b) (q : β (300 * a + b) = 0) : ¬ wB C T a b := fun w => by
  have := h.2.mpr w
  rw [q] at this; exact absurd this k_01
theorem tB_ye {β : Nat → Int32} {a b : Nat} (h : tB β C T a b) (q : ¬ β (300 * a + b) = 0) : wB C T a b := h.2.mp (h.1.resolve_left q)
theorem r_M_isBelowAll_5 (h : wOK C T) (q : rMt σ T) {a b : Nat} (ha : a < Tn T) (hb : b < Tn T) (h3 : dK (Ty T b) = 3) (ht : ∀ p, p < b → tB (M_below σ) C T a p) :
    ∀ (f k : Nat) (x3 : Int32), k ≤ (dL (Ty T b)).length → (x3 = 0 ∨ x3 = 1) → k_pc (f_M_isBelowAll_5 f σ (nI a) (nI b) x3 (nI k)) (fun v => (v = 0 ∨ v = 1) ∧ (v = 1 ↔ x3 = 1 ∧ ∀ p, p ∈ (dL (Ty T b)).drop k → wB C T a p)) := by
  have hn := h.2.2.1
  obtain ⟨_, b2', b3, b4, _⟩ := wT_both h.2 hb h3
  have el : wPs T b = dL (Ty T b) := by unfold wPs; rw [if_neg (by omega)]
  have ec : M_partCount σ b = nI (dL (Ty T b)).length := by
    rw [(q.2 b hb).2.2.2.2.2.1]; unfold wPc; rw [if_neg (by omega)]
  intro f
  induction f with
  | zero => intro k x3 _ _; exact p_none
  | succ f ih =>
    intro k x3 hk hx
    rw [f_M_isBelowAll_5]
    unfold f_M_isBelowAll_5_s
    rw [nI_clamp (show b < 2 ^ 31 by omega), ec]
    refine p_guard (fun _ => p_if (fun z => p_some ?_) (fun z => ?_))
    · rw [nI_leI (by omega) (by omega)] at z
      rw [k_one1 hx, show k = (dL (Ty T b)).length by omega, List.drop_length]
      exact ⟨hx, ⟨fun e => ⟨e, fun p hp => absurd hp (by simp)⟩, fun e => e.1⟩⟩
    · rw [nI_leI (by omega) (by omega)] at z
      have hk' : k < (dL (Ty T b)).length := by omega
      obtain ⟨p1, p2, p3⟩ := b4 _ (List.getElem_mem hk')
      rw [nI_1, List.drop_eq_getElem_cons hk']
      have no : x3 = 0 ∨ ¬ wB C T a (dL (Ty T b))[k] → k_pc (f_M_isBelowAll_5 f σ (nI a) (nI b) 0 (nI (k + 1))) (fun v => (v = 0 ∨ v = 1) ∧ (v = 1 ↔ x3 = 1 ∧ ∀ p, p ∈ (dL (Ty T b))[k] :: (dL (Ty T b)).drop (k + 1) → wB C T a p)) := by
        intro w
        refine p_mono (ih (k + 1) 0 (by omega) (Or.inl rfl)) ?_
        rintro v ⟨v1, v2⟩
        refine ⟨v1, v2.trans ⟨fun u => absurd u.1 k_01, fun u => ?_⟩⟩
        rcases w with w | w
        · rw [w] at u; exact absurd u.1 k_01
        · exact absurd (u.2 _ List.mem_cons_self) w
      refine p_if (fun y => no (Or.inl y)) (fun y => ?_)
      have cl : (30 * nI b + nI k).toNatClampNeg = 30 * b + k := by rw [k_30ix]; exact nI_clamp (by omega)
      have er : M_partRow σ (30 * b + k) = nI (dL (Ty T b))[k] := by
        rw [(q.2 b hb).2.2.2.2.2.2 k (by rw [el]; exact hk')]; congr 1; simp [el]
      have c3 : (300 * nI a + nI (dL (Ty T b))[k]).toNatClampNeg = 300 * a + (dL (Ty T b))[k] := by rw [k_300ix]; exact nI_clamp (by omega)
      rw [cl, er, c3]
      have tb := ht _ p2
      refine p_guard (fun _ => p_guard (fun _ => p_if (fun w => no (Or.inr (tB_no tb w))) (fun w => ?_)))
      refine p_mono (ih (k + 1) 1 (by omega) (Or.inr rfl)) ?_
      rintro v ⟨v1, v2⟩
      have x1 := hx.resolve_left y
      refine ⟨v1, v2.trans ⟨fun u => ⟨x1, fun p hp => ?_⟩, fun u => ⟨rfl, fun p hp => u.2 p (List.mem_cons_of_mem _ hp)⟩⟩⟩
      rcases List.mem_cons.mp hp with e | e
      · rw [e]; exact tB_ye tb w
      · exact u.2 p e
theorem r_M_isBelowArray (h : wOK C T) (q : rMt σ T) {a b : Nat} (ha : a < Tn T) (hb : b < Tn T) (h2 : dK (Ty T b) = 2) (ht : ∀ x p, x < Tn T → p < b → tB (M_below σ) C T x p) : k_pc (f_M_isBelowArray σ (nI a) (nI b)) (fun v => (v = 0 ∨ v = 1) ∧ (v = 1 ↔ (dK (Ty T a) = 2 ∧ dK (Ty T b) = 2 ∧ 8 ≤ dX (Ty T a) ∧ 8 ≤ dX (Ty T b) ∧ wB C T (dX (Ty T a)) (dX (Ty T b))))) := by
  have hn := h.2.2.1
  have kl := wK_lt h.2 ha
  obtain ⟨_, b3, _⟩ := wT_arr h.2 hb h2
  have ib : M_inner σ b = nI (dX (Ty T b)) := by rw [(q.2 b hb).2.2.2.1, if_neg (by omega), if_pos h2]
  have no : ∀ {P : Prop}, ¬ P → ((0 : Int32) = 0 ∨ (0 : Int32) = 1) ∧ ((0 : Int32) = 1 ↔ P) := fun w => ⟨Or.inl rfl, ⟨fun u => absurd u k_01, fun u => absurd u w⟩⟩
  unfold f_M_isBelowArray
  rw [nI_clamp (show a < 2 ^ 31 by omega), nI_clamp (show b < 2 ^ 31 by omega), (q.2 a ha).1, ib]
  refine p_guard (fun _ => p_if (fun z => ?_) (fun z => p_some (no (fun w => z (by rw [w.1]; rfl)))))
  have z2 : nI (dK (Ty T a)) = nI 2 := z
  rw [nI_eq (by omega) (by decide)] at z2
  obtain ⟨_, a3, _⟩ := wT_arr h.2 ha z2
  have ia : M_inner σ a = nI (dX (Ty T a)) := by rw [(q.2 a ha).2.2.2.1, if_neg (by omega), if_pos z2]
  rw [ia]
  refine p_guard (fun _ => p_if (fun y => p_some (no (fun w => ?_))) (fun y => p_guard (fun _ => p_if (fun y' => p_some (no (fun w => ?_))) (fun y' => ?_))))
  · have y2 : nI (dX (Ty T a)) ≤ nI 7 := y
    rw [nI_leI (by omega) (by decide)] at y2
    omega
  · have y2 : nI (dX (Ty T b)) ≤ nI 7 := y'
    rw [nI_leI (by omega) (by decide)] at y2
    omega
  · have y2 : ¬ nI (dX (Ty T a)) ≤ nI 7 := y
    rw [nI_leI (by omega) (by decide)] at y2
    have y3 : ¬ nI (dX (Ty T b)) ≤ nI 7 := y'
    rw [nI_leI (by omega) (by decide)] at y3
    have c3 : (300 * nI (dX (Ty T a)) + nI (dX (Ty T b))).toNatClampNeg = 300 * dX (Ty T a) + dX (Ty T b) := by rw [k_300ix]; exact nI_clamp (by omega)
    have tb := ht (dX (Ty T a)) (dX (Ty T b)) (by omega) (by omega)
    rw [c3]
    refine p_guard (fun _ => p_guard (fun _ => p_guard (fun _ => p_if (fun w => p_some (no (fun u => tB_no tb w u.2.2.2.2))) (fun w => p_some ⟨Or.inr rfl, ⟨fun _ => ⟨z2, h2, by omega, by omega, tB_ye tb w⟩, fun _ => rfl⟩⟩))))
theorem r_M_isBelowNamed_27 (h : wOK C T) (r : rMc σ C g) (q : rMt σ T) {a b : Nat} (ha : a < Tn T) (hb : b < Tn T) (h1 : dK (Ty T b) = 1) (ht : ∀ x p, x < Tn T → p < b → tB (M_below σ) C T x p) :
    ∀ (f k : Nat) (x3 aa hh gg : Int32), k ≤ (wPt T a).length → (x3 = 0 ∨ x3 = 1) → k_pc (f_M_isBelowNamed_27 f (mF σ aa hh gg) (nI a) (nI b) x3 (nI (wPt T a).length) (nI k)) (fun v => (v.1 = 0 ∨ v.1 = 1) ∧ (v.1 = 1 ↔ (x3 = 1 ∨ ∃ x r, x ∈ (wPt T a).drop k ∧ wLk C T x (dX (Ty T b)) = some r ∧ wFit C T r (dA (Ty T b)))) ∧ ∃ a' h' g', v.2 = mF σ a' h' g') := by
  have hn := h.2.2.1
  obtain ⟨_, c1, c2, _⟩ := wT_named h.2 hb h1
  have cb : (nI b).toNatClampNeg = b := nI_clamp (by omega)
  obtain ⟨l1, l2⟩ := wPt_len h.2 ha
  have l30 : (wPt T a).length ≤ 30 := by
    rw [l1]; have := wPc_le h.2 ha; split <;> omega
  have eC : M_classOf σ b = nI (dX (Ty T b)) := by rw [(q.2 b hb).2.1, if_pos h1]
  have eH : M_how σ b = wH (dA (Ty T b)) := by rw [(q.2 b hb).2.2.1, if_pos h1]
  have eI : M_inner σ b = wTd (dA (Ty T b)) := by rw [(q.2 b hb).2.2.2.1, if_pos h1]
  intro f
  induction f with
  | zero => intro k x3 aa hh gg _ _; exact p_none
  | succ f ih =>
    intro k x3 aa hh gg hk hx
    rw [f_M_isBelowNamed_27]
    unfold f_M_isBelowNamed_27_s
    refine p_if (fun z => p_some ?_) (fun z => ?_)
    · rw [nI_leI (by omega) (by omega)] at z
      refine ⟨by show x3 &&& 1 = 0 ∨ x3 &&& 1 = 1; rw [k_one1 hx]; exact hx, ?_, aa, hh, gg, rfl⟩
      show x3 &&& 1 = 1 ↔ _
      rw [k_one1 hx, show k = (wPt T a).length by omega, List.drop_length]
      exact ⟨Or.inl, fun e => e.resolve_right (fun ⟨x, s, hx, _⟩ => absurd hx (by simp))⟩
    · rw [nI_leI (by omega) (by omega)] at z
      have hk' : k < (wPt T a).length := by omega
      have mem := List.getElem_mem hk'
      obtain ⟨p1, p2⟩ := wPt_ok h.2 ha mem
      refine p_if (fun y => ?_) (fun y => p_some ?_)
      rotate_left
      · have x1 := hx.resolve_left y
        refine ⟨by show x3 &&& 1 = 0 ∨ x3 &&& 1 = 1; rw [k_one1 hx]; exact hx, ?_, aa, hh, gg, rfl⟩
        show x3 &&& 1 = 1 ↔ _
        rw [k_one1 hx]
        exact ⟨Or.inl, fun _ => x1⟩
      subst y
      have no : ∀ a' h' g' : Int32, (∀ s, wLk C T (wPt T a)[k] (dX (Ty T b)) = some s → ¬ wFit C T s (dA (Ty T b))) → k_pc (f_M_isBelowNamed_27 f (mF σ a' h' g') (nI a) (nI b) 0 (nI (wPt T a).length) (nI k + 1)) (fun v => (v.1 = 0 ∨ v.1 = 1) ∧ (v.1 = 1 ↔ ((0 : Int32) = 1 ∨ ∃ x r, x ∈ (wPt T a).drop k ∧ wLk C T x (dX (Ty T b)) = some r ∧ wFit C T r (dA (Ty T b)))) ∧ ∃ a' h' g', v.2 = mF σ a' h' g') := by
        intro a' h' g' hno
        rw [nI_1, List.drop_eq_getElem_cons hk']
        refine p_mono (ih (k + 1) 0 a' h' g' (by omega) (Or.inl rfl)) ?_
        rintro v ⟨v1, v2, v3⟩
        refine ⟨v1, v2.trans ⟨fun u => ?_, fun u => ?_⟩, v3⟩
        · rcases u with u | ⟨x, s, x1, x2, x3⟩
          · exact absurd u k_01
          · exact Or.inr ⟨x, s, List.mem_cons_of_mem _ x1, x2, x3⟩
        · rcases u with u | ⟨x, s, x1, x2, x3⟩
          · exact absurd u k_01
          · rcases List.mem_cons.mp x1 with e | e
            · rw [e] at x2; exact absurd x3 (hno s x2)
            · exact Or.inr ⟨x, s, e, x2, x3⟩
      have ye : ∀ (a' h' g' : Int32) (s : Nat), wLk C T (wPt T a)[k] (dX (Ty T b)) = some s → wFit C T s (dA (Ty T b)) → k_pc (f_M_isBelowNamed_158 (f_M_isBelowNamed_27 f) (mF σ a' h' g') (nI a) (nI b) (nI (wPt T a).length) (nI k)) (fun v => (v.1 = 0 ∨ v.1 = 1) ∧ (v.1 = 1 ↔ ((0 : Int32) = 1 ∨ ∃ x r, x ∈ (wPt T a).drop k ∧ wLk C T x (dX (Ty T b)) = some r ∧ wFit C T r (dA (Ty T b)))) ∧ ∃ a' h' g', v.2 = mF σ a' h' g') := by
        intro a' h' g' s hs hf
        unfold f_M_isBelowNamed_158
        rw [nI_1, List.drop_eq_getElem_cons hk']
        refine p_mono (ih (k + 1) 1 a' h' g' (by omega) (Or.inr rfl)) ?_
        rintro v ⟨v1, v2, v3⟩
        exact ⟨v1, ⟨fun _ => Or.inr ⟨_, s, List.mem_cons_self, hs, hf⟩, fun _ => v2.mpr (Or.inl rfl)⟩, v3⟩
      have key : k_pc (f_M_isBelowNamed_64 (f_M_isBelowNamed_27 f) (mF σ aa hh gg) (nI a) (nI b) (nI (wPt T a).length) (nI k) (nI (wPt T a)[k])) (fun v => (v.1 = 0 ∨ v.1 = 1) ∧ (v.1 = 1 ↔ ((0 : Int32) = 1 ∨ ∃ x r, x ∈ (wPt T a).drop k ∧ wLk C T x (dX (Ty T b)) = some r ∧ wFit C T r (dA (Ty T b)))) ∧ ∃ a' h' g', v.2 = mF σ a' h' g') := by
        unfold f_M_isBelowNamed_64
        rw [cb, show M_classOf (mF σ aa hh gg) b = nI (dX (Ty T b)) from eC]
        refine p_guard (fun _ => p_bind (r_M_lookAt (σ := mF σ aa hh gg) (g := g) h r q p1 c1) ?_)
        rintro ⟨v, τ⟩ hv
        cases hl : wLk C T (wPt T a)[k] (dX (Ty T b)) with
        | none =>
          rw [hl] at hv
          obtain ⟨h', g', e⟩ := hv
          replace e : τ = mF σ 0 h' g' := e
          subst e
          refine p_if (fun _ => no 0 h' g' (fun s es => by rw [hl] at es; cases es)) (fun y => absurd rfl y)
        | some s =>
          rw [hl] at hv
          replace hv : τ = mF σ 1 (wH s) (wTd s) := hv
          subst hv
          have so := wLk_ok h p1 hl
          have nof : ¬ wFit C T s (dA (Ty T b)) → ∀ s', wLk C T (wPt T a)[k] (dX (Ty T b)) = some s' → ¬ wFit C T s' (dA (Ty T b)) := by
            intro w s' es
            rw [hl] at es
            cases es; exact w
          refine p_if (fun y => absurd y k_10) (fun _ => ?_)
          show k_pc (if nI b < 0 ∨ 300 ≤ b then none else if M_how (mF σ 1 (wH s) (wTd s)) b = 0 then _ else _) _
          rw [show M_how (mF σ 1 (wH s) (wTd s)) b = wH (dA (Ty T b)) from eH]
          refine p_guard (fun _ => ?_)
          have k125 : (wFit C T s (dA (Ty T b)) ↔ (dA (Ty T b) % 4 = 2 ∧ dA (Ty T b) ≠ 0 ∧ wB C T (s / 4) (dA (Ty T b) / 4))) → k_pc (f_M_isBelowNamed_125 (f_M_isBelowNamed_27 f) (mF σ 1 (wH s) (wTd s)) (nI a) (nI b) (nI (wPt T a).length) (nI k)) (fun v => (v.1 = 0 ∨ v.1 = 1) ∧ (v.1 = 1 ↔ ((0 : Int32) = 1 ∨ ∃ x r, x ∈ (wPt T a).drop k ∧ wLk C T x (dX (Ty T b)) = some r ∧ wFit C T r (dA (Ty T b)))) ∧ ∃ a' h' g', v.2 = mF σ a' h' g') := by
            intro hfit
            unfold f_M_isBelowNamed_125
            rw [cb, show M_how (mF σ 1 (wH s) (wTd s)) b = wH (dA (Ty T b)) from eH, show M_inner (mF σ 1 (wH s) (wTd s)) b = wTd (dA (Ty T b)) from eI, show M_foundType (mF σ 1 (wH s) (wTd s)) = wTd s from rfl]
            refine p_guard (fun _ => p_if (fun w => ?_) (fun w => no _ _ _ (nof (fun u => w ?_))))
            · rcases c2 with ⟨_, d0⟩ | ⟨g1, y0, y1, y2, y3⟩
              · rw [d0] at w; exact absurd w (by decide)
              · rcases so with ⟨g2, _⟩ | ⟨_, x0, x1, x2, x3⟩
                · rw [g1] at g2; cases g2
                · have y4 : dA (Ty T b) = 4 * y0 + 2 := by
                    rcases y3 with y3 | y3
                    · rw [wH_x y3] at w; exact absurd w (by decide)
                    · exact y3
                  rw [wTd_x x3, wTd_x y3]
                  have c3 : (300 * nI x0 + nI y0).toNatClampNeg = 300 * x0 + y0 := by rw [k_300ix]; exact nI_clamp (by omega)
                  rw [c3, show M_below (mF σ 1 (wH s) (nI x0)) = M_below σ from rfl]
                  have tb := ht x0 y0 x2 y2
                  have es : s / 4 = x0 := by omega
                  have ed : dA (Ty T b) / 4 = y0 := by omega
                  rw [es, ed] at hfit
                  refine p_guard (fun _ => p_guard (fun _ => p_if (fun u => no _ _ _ (nof (fun w' => tB_no tb u (hfit.mp w').2.2))) (fun u => ?_)))
                  exact ye _ _ _ s hl (hfit.mpr ⟨by omega, by omega, tB_ye tb u⟩)
            · obtain ⟨u1, u2, _⟩ := hfit.mp u
              rcases c2 with ⟨_, d0⟩ | ⟨g1, y0, y1, y2, y3⟩
              · omega
              · exact wH_y (x := y0) (by omega)
          rcases c2 with ⟨g1, d0⟩ | ⟨g1, y0, y1, y2, y3⟩
          · refine p_if (fun _ => ye _ _ _ s hl (Or.inl ?_)) (fun y => ?_)
            · rcases so with ⟨_, s0⟩ | ⟨g2, _⟩
              · omega
              · rw [g1] at g2; cases g2
            · rw [d0] at y; exact absurd rfl y
          · rcases so with ⟨g2, _⟩ | ⟨_, x0, x1, x2, x3⟩
            · rw [g1] at g2; cases g2
            · rcases y3 with y3 | y3
              · rw [wH_x y3]
                refine p_if (fun y => absurd y k_10) (fun _ => p_guard (fun _ => p_if (fun _ => ?_) (fun y => absurd rfl y)))
                have f125 : s ≠ dA (Ty T b) → (wFit C T s (dA (Ty T b)) ↔ (dA (Ty T b) % 4 = 2 ∧ dA (Ty T b) ≠ 0 ∧ wB C T (s / 4) (dA (Ty T b) / 4))) := by
                  intro ne
                  constructor
                  · rintro (u | ⟨u, _⟩)
                    · exact absurd u ne
                    · omega
                  · rintro ⟨u, _⟩
                    omega
                show k_pc (if M_foundHow (mF σ 1 (wH s) (wTd s)) = 1 then _ else _) _
                rw [show M_foundHow (mF σ 1 (wH s) (wTd s)) = wH s from rfl]
                refine p_if (fun y => ?_) (fun y => k125 (f125 (fun e => y (wH_x (x := y0) (by omega)))))
                have s1 : s = 4 * x0 + 1 := by
                  rcases x3 with x3 | x3
                  · exact x3
                  · rw [wH_y x3] at y; exact absurd y (by decide)
                show k_pc (if nI b < 0 ∨ 300 ≤ b then none else if M_foundType (mF σ 1 (wH s) (wTd s)) = M_inner (mF σ 1 (wH s) (wTd s)) b then _ else _) _
                rw [show M_foundType (mF σ 1 (wH s) (wTd s)) = nI x0 from wTd_x x3, show M_inner (mF σ 1 (wH s) (wTd s)) b = nI y0 from eI.trans (wTd_x (Or.inl y3))]
                refine p_guard (fun _ => p_if (fun u => ?_) (fun u => k125 (f125 (fun e => u (by congr 1; omega)))))
                rw [nI_eq (by omega) (by omega)] at u
                exact ye _ _ _ s hl (Or.inl (by omega))
              · rw [wH_y y3]
                refine p_if (fun y => absurd y (by decide)) (fun _ => p_guard (fun _ => p_if (fun y => absurd y (by decide)) (fun _ => k125 ?_)))
                constructor
                · rintro (u | ⟨_, u⟩)
                  · refine ⟨by omega, by omega, ?_⟩
                    rw [u]; exact wB_refl h (by omega)
                  · exact ⟨by omega, by omega, u⟩
                · rintro ⟨_, _, u⟩
                  exact Or.inr ⟨by omega, u⟩
      rw [nI_clamp (show a < 2 ^ 31 by omega), show M_kind (mF σ aa hh gg) a = nI (dK (Ty T a)) from (q.2 a ha).1]
      have kl := wK_lt h.2 ha
      refine p_guard (fun _ => p_if (fun y => ?_) (fun y => ?_))
      · have y2 : nI (dK (Ty T a)) = nI 3 := y
        rw [nI_eq (by omega) (by decide)] at y2
        have e1 : wPt T a = wPs T a := by unfold wPt wPs; rw [if_pos y2, if_neg (by omega)]
        have cl : (30 * nI a + nI k).toNatClampNeg = 30 * a + k := by rw [k_30ix]; exact nI_clamp (by omega)
        have er : M_partRow (mF σ aa hh gg) (30 * a + k) = nI (wPt T a)[k] := by
          show M_partRow σ (30 * a + k) = _
          rw [(q.2 a ha).2.2.2.2.2.2 k (by rw [← e1]; exact hk')]; congr 1; simp [e1]
        rw [cl, er]
        exact p_guard (fun _ => key)
      · have y2 : ¬ nI (dK (Ty T a)) = nI 3 := y
        rw [nI_eq (by omega) (by decide)] at y2
        have e1 : wPt T a = [a] := by unfold wPt; rw [if_neg y2]
        have e2 : (wPt T a)[k] = a := by
          have k0 : k = 0 := by rw [e1] at hk'; simpa using hk'
          subst k0; simp [e1]
        rw [e2] at key
        exact key
theorem r_M_isBelowNamed (h : wOK C T) (r : rMc σ C g) (q : rMt σ T) {a b : Nat} (ha : a < Tn T) (hb : b < Tn T) (h1 : dK (Ty T b) = 1) (ht : ∀ x p, x < Tn T → p < b → tB (M_below σ) C T x p) : k_pc (f_M_isBelowNamed σ (nI a) (nI b)) (fun v => (v.1 = 0 ∨ v.1 = 1) ∧ (v.1 = 1 ↔ (∃ x r, x ∈ wPt T a ∧ wLk C T x (dX (Ty T b)) = some r ∧ wFit C T r (dA (Ty T b)))) ∧ ∃ a' h' g', v.2 = mF σ a' h' g') := by
  have hn := h.2.2.1
  have kl := wK_lt h.2 ha
  have base : k_pc (f_M_isBelowNamed_27 1000 σ (nI a) (nI b) 0 (nI (wPt T a).length) 0) (fun v => (v.1 = 0 ∨ v.1 = 1) ∧ (v.1 = 1 ↔ (∃ x r, x ∈ wPt T a ∧ wLk C T x (dX (Ty T b)) = some r ∧ wFit C T r (dA (Ty T b)))) ∧ ∃ a' h' g', v.2 = mF σ a' h' g') := by
    refine p_mono (r_M_isBelowNamed_27 h r q ha hb h1 ht 1000 0 0 (M_found σ) (M_foundHow σ) (M_foundType σ) (by omega) (Or.inl rfl)) ?_
    rintro v ⟨v1, v2, v3⟩
    refine ⟨v1, v2.trans ⟨fun u => ?_, fun u => Or.inr ?_⟩, v3⟩
    · rw [List.drop_zero] at u
      exact u.resolve_left k_01
    · rw [List.drop_zero]; exact u
  unfold f_M_isBelowNamed
  rw [nI_clamp (show a < 2 ^ 31 by omega), (q.2 a ha).1]
  refine p_guard (fun _ => p_if (fun y => p_guard (fun _ => ?_)) (fun y => ?_))
  · have y2 : nI (dK (Ty T a)) = nI 3 := y
    rw [nI_eq (by omega) (by decide)] at y2
    have e1 : (wPt T a).length = wPc (Ty T a) := by unfold wPt wPc; rw [if_pos y2, if_neg (by omega)]
    rw [(q.2 a ha).2.2.2.2.2.1, ← e1]; exact base
  · have y2 : ¬ nI (dK (Ty T a)) = nI 3 := y
    rw [nI_eq (by omega) (by decide)] at y2
    have e1 : (wPt T a).length = 1 := by unfold wPt; rw [if_neg y2]; rfl
    rw [e1] at base; exact base
theorem vp_0 : vp_nar .boolean 0 = 0 := by decide
theorem vp_1 : vp_nar .boolean 1 = 1 := by decide
theorem r_M_reckonBelow_32 (h : wOK C T) (r : rMc σ C g) (q : rMt σ T) {b : Nat} (hb : b < Tn T) {ν : Int32} (k22 : StM → Int32 → Option (Int32 × StM)) {Q : Int32 × StM → Prop} (hk : ∀ (a' h' g' : Int32) (β : Nat → Int32), (∀ x p, x < Tn T → p < b + 1 → tB β C T x p) → k_pc (k22 (mK σ a' h' g' β ν) (nI b + 1)) Q) :
    ∀ (f a : Nat) (aa hh gg : Int32) (β : Nat → Int32), a ≤ Tn T → (∀ x p, x < Tn T → p < b → tB β C T x p) → (∀ x, x < a → tB β C T x b) → k_pc (f_M_reckonBelow_32 k22 f (mK σ aa hh gg β ν) (nI b) (nI a)) Q := by
  have hn := h.2.2.1
  have kl := wK_lt h.2 hb
  have cb : (nI b).toNatClampNeg = b := nI_clamp (by omega)
  have ek : ∀ (aa hh gg : Int32) (β : Nat → Int32), M_kind (mK σ aa hh gg β ν) b = nI (dK (Ty T b)) := fun _ _ _ _ => (q.2 b hb).1
  have cmp : ∀ j, j < 4 → (nI (dK (Ty T b)) = nI j ↔ dK (Ty T b) = j) := fun j hj => nI_eq (by omega) (by omega)
  intro f
  induction f with
  | zero => intro a aa hh gg β _ _ _; exact p_none
  | succ f ih =>
    intro a aa hh gg β h1 h2 h3
    rw [f_M_reckonBelow_32]
    unfold f_M_reckonBelow_32_s
    rw [show M_types (mK σ aa hh gg β ν) = nI (Tn T) from q.1]
    refine p_if (fun z => ?_) (fun z => ?_)
    · rw [nI_leI (by omega) (by omega)] at z
      refine hk aa hh gg β (fun x p hx hp => ?_)
      by_cases e : p = b
      · rw [e]; exact h3 x (by omega)
      · exact h2 x p hx (by omega)
    rw [nI_leI (by omega) (by omega)] at z
    have ha : a < Tn T := by omega
    have c3 : (300 * nI a + nI b).toNatClampNeg = 300 * a + b := by rw [k_300ix]; exact nI_clamp (by omega)
    have put : ∀ (a' h' g' w : Int32), (w = 0 ∨ w = 1) → (w = 1 ↔ wB C T a b) → k_pc (f_M_reckonBelow_32 k22 f (mK σ a' h' g' (upd β (300 * a + b) w) ν) (nI b) (nI a + 1)) Q := by
      intro a' h' g' w w1 w2
      rw [nI_1]
      refine ih (a + 1) a' h' g' _ (by omega) (fun x p hx hp => ?_) (fun x hx => ?_)
      · unfold tB
        rw [k_updn (by omega)]; exact h2 x p hx hp
      · by_cases e : x = a
        · subst e
          unfold tB
          rw [k_upds]; exact ⟨w1, w2⟩
        · unfold tB
          rw [k_updn (by omega)]; exact h3 x (by omega)
    have yes : ∀ a' h' g' : Int32, wB C T a b → k_pc (f_M_reckonBelow_113 k22 (f_M_reckonBelow_32 k22 f) (mK σ a' h' g' β ν) (nI b) (nI a) (300 * nI a + nI b)) Q := by
      intro a' h' g' w
      unfold f_M_reckonBelow_113
      refine p_guard (fun _ => ?_)
      have e : M_put_below (mK σ a' h' g' β ν) (300 * nI a + nI b) (vp_nar .boolean 1) = mK σ a' h' g' (upd β (300 * a + b) 1) ν := by
        rw [vp_1]
        show mK σ a' h' g' (upd β (300 * nI a + nI b).toNatClampNeg 1) ν = _
        rw [c3]
      rw [e]
      exact put a' h' g' 1 (Or.inr rfl) ⟨fun _ => w, fun _ => rfl⟩
    have nob : ∀ a' h' g' : Int32, ¬ wB C T a b → k_pc (f_M_reckonBelow_32 k22 f (M_put_below (mK σ a' h' g' β ν) (300 * nI a + nI b) (vp_nar .boolean 0)) (nI b) (nI a + 1)) Q := by
      intro a' h' g' w
      have e : M_put_below (mK σ a' h' g' β ν) (300 * nI a + nI b) (vp_nar .boolean 0) = mK σ a' h' g' (upd β (300 * a + b) 0) ν := by
        rw [vp_0]
        show mK σ a' h' g' (upd β (300 * nI a + nI b).toNatClampNeg 0) ν = _
        rw [c3]
      rw [e]
      exact put a' h' g' 0 (Or.inl rfl) ⟨fun u => absurd u k_01, fun u => absurd u w⟩
    have k94 : ∀ a' h' g' : Int32, (wB C T a b → dK (Ty T b) = 2) → a ≠ b → k_pc (f_M_reckonBelow_94 k22 (f_M_reckonBelow_32 k22 f) (mK σ a' h' g' β ν) (nI b) (nI a) (300 * nI a + nI b)) Q := by
      intro a' h' g' hw hne
      unfold f_M_reckonBelow_94
      rw [cb, ek]
      refine p_guard (fun _ => p_if (fun y => ?_) (fun y => p_guard (fun _ => nob a' h' g' (fun w => y ((cmp 2 (by omega)).mpr (hw w))))))
      have y2 := (cmp 2 (by omega)).mp y
      refine p_bind (r_M_isBelowArray (σ := mK σ a' h' g' β ν) h q ha hb y2 h2) ?_
      rintro v ⟨v1, v2⟩
      have bel : wB C T a b ↔ v = 1 := by
        rw [wB_iff h ha hb, v2]
        constructor
        · rintro (u | ⟨u, _⟩ | ⟨u, _⟩ | u)
          · exact absurd u hne
          · omega
          · omega
          · exact u
        · intro u; exact Or.inr (Or.inr (Or.inr u))
      refine p_if (fun u => p_guard (fun _ => nob a' h' g' (fun w => ?_))) (fun u => yes a' h' g' (bel.mpr (v1.resolve_left u)))
      have := bel.mp w
      rw [u] at this; exact absurd this k_01
    refine p_if (fun y => ?_) (fun y => ?_)
    · rw [nI_eq (by omega) (by omega)] at y
      rw [y]
      have := yes aa hh gg (by rw [y]; exact wB_refl h hb)
      rw [y] at this
      exact this
    rw [nI_eq (by omega) (by omega)] at y
    have k75 : ∀ a' h' g' : Int32, (wB C T a b → dK (Ty T b) ≠ 3) → k_pc (f_M_reckonBelow_75 k22 (f_M_reckonBelow_32 k22 f) (mK σ a' h' g' β ν) (nI b) (nI a) (300 * nI a + nI b)) Q := by
      intro a' h' g' hw
      unfold f_M_reckonBelow_75
      rw [cb, ek]
      refine p_guard (fun _ => p_if (fun w => ?_) (fun w => k94 a' h' g' (fun u => ?_) y))
      · have w2 := (cmp 1 (by omega)).mp w
        refine p_bind (r_M_isBelowNamed (σ := mK σ a' h' g' β ν) (g := g) h r q ha hb w2 h2) ?_
        rintro ⟨v, τ⟩ ⟨v1, v2, a2, h2', g2, v3⟩
        replace v1 : v = 0 ∨ v = 1 := v1
        replace v2 : v = 1 ↔ (∃ x r, x ∈ wPt T a ∧ wLk C T x (dX (Ty T b)) = some r ∧ wFit C T r (dA (Ty T b))) := v2
        replace v3 : τ = mK σ a2 h2' g2 β ν := v3
        subst v3
        have bel : wB C T a b ↔ v = 1 := by
          rw [wB_named h ha hb w2, v2]
          exact ⟨fun u => u.resolve_left y, Or.inr⟩
        refine p_if (fun u => k94 a2 h2' g2 (fun u' => ?_) y) (fun u => yes a2 h2' g2 (bel.mpr (v1.resolve_left u)))
        have := bel.mp u'
        replace u : v = 0 := u
        rw [u] at this; exact absurd this k_01
      · have n3 := hw u
        have n1 : dK (Ty T b) ≠ 1 := fun e => w ((cmp 1 (by omega)).mpr e)
        rcases (wB_iff h ha hb).mp u with u | ⟨u, _⟩ | ⟨u, _⟩ | ⟨_, u, _⟩
        · exact absurd u y
        · exact absurd u n3
        · exact absurd u n1
        · exact u
    rw [cb, ek]
    refine p_guard (fun _ => p_if (fun w => ?_) (fun w => k75 aa hh gg (fun _ e => w ((cmp 3 (by omega)).mpr e))))
    have w2 := (cmp 3 (by omega)).mp w
    unfold f_M_isBelowAll
    refine p_bind (r_M_isBelowAll_5 (σ := mK σ aa hh gg β ν) h q ha hb w2 (fun p hp => h2 a p ha hp) 1000 0 1 (by omega) (Or.inr rfl)) ?_
    rintro v ⟨v1, v2⟩
    have bel : wB C T a b ↔ v = 1 := by
      rw [wB_iff h ha hb, v2, List.drop_zero]
      constructor
      · rintro (u | ⟨_, u⟩ | ⟨u, _⟩ | ⟨_, u, _⟩)
        · exact absurd u y
        · exact ⟨rfl, u⟩
        · omega
        · omega
      · rintro ⟨_, u⟩
        exact Or.inr (Or.inl ⟨w2, u⟩)
    refine p_if (fun u => k75 aa hh gg (fun u' => ?_)) (fun u => yes aa hh gg (bel.mpr (v1.resolve_left u)))
    have := bel.mp u'
    rw [u] at this; exact absurd this k_01
theorem r_M_reckonBelow_22 (h : wOK C T) (r : rMc σ C g) (q : rMt σ T) {ν : Int32} : ∀ (f b : Nat) (aa hh gg : Int32) (β : Nat → Int32), b ≤ Tn T → (∀ x p, x < Tn T → p < b → tB β C T x p) → k_pc (f_M_reckonBelow_22 f (mK σ aa hh gg β ν) (nI b)) (fun v => ∃ a' h' g' β', v.2 = mK σ a' h' g' β' ν ∧ ∀ x p, x < Tn T → p < Tn T → tB β' C T x p) := by
  have hn := h.2.2.1
  intro f
  induction f with
  | zero => intro b aa hh gg β _ _; exact p_none
  | succ f ih =>
    intro b aa hh gg β h1 h2
    rw [f_M_reckonBelow_22]
    unfold f_M_reckonBelow_22_s
    rw [show M_types (mK σ aa hh gg β ν) = nI (Tn T) from q.1]
    refine p_if (fun z => p_some ?_) (fun z => ?_)
    · rw [nI_leI (by omega) (by omega)] at z
      exact ⟨aa, hh, gg, β, rfl, fun x p hx hp => h2 x p hx (by omega)⟩
    · rw [nI_leI (by omega) (by omega)] at z
      refine r_M_reckonBelow_32 h r q (show b < Tn T by omega) _ (fun a' h' g' β' hβ => ?_) 1000 0 aa hh gg β (by omega) h2 (fun x hx => by omega)
      rw [nI_1]
      exact ih (b + 1) a' h' g' β' (by omega) hβ
/-- if the table is of so many types, it is right -/
def rR (μ : StM) (C : wWc) (T : wWt) : Prop := ∃ k, k ≤ Tn T ∧ M_reckoned μ = nI k ∧ (k = Tn T → ∀ x p, x < Tn T → p < Tn T → tB (M_below μ) C T x p)
theorem r_M_reckonBelow (h : wOK C T) (r : rMc σ C g) (q : rMt σ T) (hR : rR σ C T) : k_pc (f_M_reckonBelow σ) (fun v => ∃ a' h' g' β', v.2 = mK σ a' h' g' β' (nI (Tn T)) ∧ ∀ x p, x < Tn T → p < Tn T → tB β' C T x p) := by
  have hn := h.2.2.1
  obtain ⟨k, k1, k2, k3⟩ := hR
  unfold f_M_reckonBelow
  refine p_if (fun z => p_some ?_) (fun z => ?_)
  · rw [k2, q.1, nI_eq (by omega) (by omega)] at z
    refine ⟨M_found σ, M_foundHow σ, M_foundType σ, M_below σ, ?_, k3 z⟩
    show σ = _
    rw [← z, ← k2]; rfl
  · rw [q.1]
    exact r_M_reckonBelow_22 h r q 1000 0 (M_found σ) (M_foundHow σ) (M_foundType σ) (M_below σ) (by omega) (fun x p _ hp => by omega)
end
-- part 08.70.lowL.lean.txt
/-! Tier 3: THE LOWER BOUND: the PARTS that stay; the class gathers them. -/
def wKp (C : wWc) (T : wWt) (l : List Nat) (i : Nat) : Prop := ∀ j, j < l.length → (l.getD j 0 = l.getD i 0 → ¬ j < i) ∧ (l.getD j 0 ≠ l.getD i 0 → ¬ wB C T (l.getD j 0) (l.getD i 0))
noncomputable def wKl (C : wWc) (T : wWt) (l : List Nat) : Nat → List Nat
  | 0 => []
  | i + 1 => @ite _ (wKp C T l i) (Classical.propDecidable _) (wKl C T l i ++ [l.getD i 0]) (wKl C T l i)
theorem wKl_ye {C : wWc} {T : wWt} {l : List Nat} {i : Nat} (h : wKp C T l i) : wKl C T l (i + 1) = wKl C T l i ++ [l.getD i 0] := by
  rw [wKl, if_pos h]
theorem wKl_no {C : wWc} {T : wWt} {l : List Nat} {i : Nat} (h : ¬ wKp C T l i) : wKl C T l (i + 1) = wKl C T l i := by
  rw [wKl, if_neg h]
theorem wKl_len {C : wWc} {T : wWt} {l : List Nat} : ∀ i, (wKl C T l i).length ≤ i := by
  intro i
  induction i with
  | zero => exact Nat.le_refl 0
  | succ i ih =>
    by_cases h : wKp C T l i
    · rw [wKl_ye h, List.length_append]; show (wKl C T l i).length + 1 ≤ i + 1; omega
    · rw [wKl_no h]; omega
theorem wKl_mem {C : wWc} {T : wWt} {l : List Nat} : ∀ i x, x ∈ wKl C T l i ↔ ∃ j, j < i ∧ wKp C T l j ∧ x = l.getD j 0 := by
  intro i
  induction i with
  | zero => intro x; exact ⟨fun h => absurd h (by simp [wKl]), fun ⟨j, j1, _⟩ => by omega⟩
  | succ i ih =>
    intro x
    by_cases h : wKp C T l i
    · rw [wKl_ye h, List.mem_append, ih x, List.mem_singleton]
      constructor
      · rintro (⟨j, j1, j2⟩ | e)
        · exact ⟨j, by omega, j2⟩
        · exact ⟨i, by omega, h, e⟩
      · rintro ⟨j, j1, j2, j3⟩
        by_cases e : j = i
        · subst e; exact Or.inr j3
        · exact Or.inl ⟨j, by omega, j2, j3⟩
    · rw [wKl_no h, ih x]
      constructor
      · rintro ⟨j, j1, j2⟩; exact ⟨j, by omega, j2⟩
      · rintro ⟨j, j1, j2, j3⟩
        by_cases e : j = i
        · subst e; exact absurd j2 h
        · exact ⟨j, by omega, j2, j3⟩
def vFn (ρ : Nat → Int32) (l : List Nat) : Prop := ∀ k, k < l.length → ρ k = nI (l.getD k 0)
theorem getD_app1 {l m : List Nat} {k : Nat} (h : k < l.length) : (l ++ m).getD k 0 = l.getD k 0 := by
  simp [List.getD, List.getElem?_append_left h]
theorem getD_app2 {l m : List Nat} {k : Nat} (h : l.length ≤ k) : (l ++ m).getD k 0 = m.getD (k - l.length) 0 := by
  simp [List.getD, List.getElem?_append_right h]
theorem getD_is {l : List Nat} {k : Nat} (h : k < l.length) : l.getD k 0 = l[k] := by simp [List.getD, h]
theorem vFn_add {ρ : Nat → Int32} {l : List Nat} {p : Nat} (h : vFn ρ l) : vFn (upd ρ l.length (nI p)) (l ++ [p]) := by
  intro k hk
  rw [List.length_append] at hk
  replace hk : k < l.length + 1 := hk
  by_cases e : k = l.length
  · rw [e, k_upds, getD_app2 (Nat.le_refl _)]; simp
  · rw [k_updn e, getD_app1 (by omega)]; exact h k (by omega)
section
variable {σ : StL} {C : wWc} {T0 T : wWt} {g : Nat}
theorem r_L_g75 (h : wOK C T) {b : Nat} (hb : b < Tn T) {l : List Nat} (hl : l.length ≤ 30) : ∀ (f k : Nat) (G : Nat → Int32) (σ : StL), rL σ C g T0 T → k ≤ (wPs T b).length → vFn G (l ++ (wPs T b).take k) → k_pc (f_L_gatherParts_75 f (L_set_gathered σ G) (nI b) (nI l.length) (nI (wPs T b).length) (nI k)) (fun q => q.1 = nI (l ++ wPs T b).length ∧ ∃ G', q.2 = L_set_gathered σ G' ∧ vFn G' (l ++ wPs T b)) := by
  have hn := h.2.2.1
  have p30 : (wPs T b).length ≤ 30 := by rw [wPs_len h.2 hb]; exact wPc_le h.2 hb
  intro f
  induction f with
  | zero => intro k G σ _ _ _; exact p_none
  | succ f ih =>
    intro k G σ r hk hG
    rw [f_L_gatherParts_75]
    unfold f_L_gatherParts_75_s
    refine p_if (fun z => p_some ⟨?_, G, rfl, ?_⟩) (fun z => ?_)
    · show nI l.length + nI (wPs T b).length = _
      rw [nI_add, List.length_append]
    · rw [nI_leI (by omega) (by omega)] at z
      rw [show k = (wPs T b).length by omega, List.take_length] at hG
      exact hG
    · rw [nI_leI (by omega) (by omega)] at z
      have hk' : k < (wPs T b).length := by omega
      rw [show f_T_partOf (L_types (L_set_gathered σ G)) (nI b) (nI k) = some (nI (wPs T b)[k]) from r_T_partOf h.2 r.2 hb hk']
      show k_pc (if _ then none else f_L_gatherParts_75 f (L_put_gathered (L_set_gathered σ G) (nI l.length + nI k) (nI (wPs T b)[k])) (nI b) (nI l.length) (nI (wPs T b).length) (nI k + 1)) _
      have cl : (nI l.length + nI k).toNatClampNeg = l.length + k := by rw [nI_add]; exact nI_clamp (by omega)
      have e : L_put_gathered (L_set_gathered σ G) (nI l.length + nI k) (nI (wPs T b)[k]) = L_set_gathered σ (upd G (l.length + k) (nI (wPs T b)[k])) := by
        show L_set_gathered σ (upd G (nI l.length + nI k).toNatClampNeg (nI (wPs T b)[k])) = _
        rw [cl]
      rw [e, nI_1]
      refine p_guard (fun _ => ih (k + 1) _ σ r (by omega) ?_)
      have e2 : l ++ (wPs T b).take (k + 1) = (l ++ (wPs T b).take k) ++ [(wPs T b)[k]] := by
        rw [List.append_assoc, ← List.take_append_getElem hk']
      have e3 : (l ++ (wPs T b).take k).length = l.length + k := by
        rw [List.length_append, List.length_take]; omega
      rw [e2, ← e3]
      exact vFn_add hG
theorem r_L_g43 (h : wOK C T) {a b : Nat} (ha : a < Tn T) (hb : b < Tn T) : ∀ (f k : Nat) (G : Nat → Int32) (σ : StL), rL σ C g T0 T → k ≤ (wPs T a).length → vFn G ((wPs T a).take k) → k_pc (f_L_gatherParts_43 f (L_set_gathered σ G) (nI a) (nI b) (nI (wPs T a).length) (nI (wPs T b).length) (nI k)) (fun q => q.1 = nI (wPs T a ++ wPs T b).length ∧ ∃ G', q.2 = L_set_gathered σ G' ∧ vFn G' (wPs T a ++ wPs T b)) := by
  have hn := h.2.2.1
  have p30 : (wPs T a).length ≤ 30 := by rw [wPs_len h.2 ha]; exact wPc_le h.2 ha
  intro f
  induction f with
  | zero => intro k G σ _ _ _; exact p_none
  | succ f ih =>
    intro k G σ r hk hG
    rw [f_L_gatherParts_43]
    unfold f_L_gatherParts_43_s
    refine p_if (fun z => ?_) (fun z => ?_)
    · rw [nI_leI (by omega) (by omega)] at z
      rw [show k = (wPs T a).length by omega, List.take_length] at hG
      exact r_L_g75 h hb p30 1000 0 G σ r (by omega) (by rw [List.take_zero, List.append_nil]; exact hG)
    · rw [nI_leI (by omega) (by omega)] at z
      have hk' : k < (wPs T a).length := by omega
      rw [show f_T_partOf (L_types (L_set_gathered σ G)) (nI a) (nI k) = some (nI (wPs T a)[k]) from r_T_partOf h.2 r.2 ha hk']
      show k_pc (if _ then none else f_L_gatherParts_43 f (L_put_gathered (L_set_gathered σ G) (nI k) (nI (wPs T a)[k])) (nI a) (nI b) (nI (wPs T a).length) (nI (wPs T b).length) (nI k + 1)) _
      have e : L_put_gathered (L_set_gathered σ G) (nI k) (nI (wPs T a)[k]) = L_set_gathered σ (upd G k (nI (wPs T a)[k])) := by
        show L_set_gathered σ (upd G (nI k).toNatClampNeg (nI (wPs T a)[k])) = _
        rw [nI_clamp (show k < 2 ^ 31 by omega)]
      rw [e, nI_1]
      refine p_guard (fun _ => ih (k + 1) _ σ r (by omega) ?_)
      have e2 : (wPs T a).take (k + 1) = (wPs T a).take k ++ [(wPs T a)[k]] := by
        rw [← List.take_append_getElem hk']
      have e3 : ((wPs T a).take k).length = k := by rw [List.length_take]; omega
      have := vFn_add (p := (wPs T a)[k]) hG
      rw [e3] at this
      rw [e2]; exact this
theorem r_L_gatherParts (h : wOK C T) (r : rL σ C g T0 T) {a b : Nat} (ha : a < Tn T) (hb : b < Tn T) : k_pc (f_L_gatherParts σ (nI a) (nI b)) (fun q => ((wPs T a = [] ∨ wPs T b = []) ∧ q = (0, σ)) ∨ (wPs T a ≠ [] ∧ wPs T b ≠ [] ∧ q.1 = nI (wPs T a ++ wPs T b).length ∧ ∃ G', q.2 = L_set_gathered σ G' ∧ vFn G' (wPs T a ++ wPs T b))) := by
  have pa : (wPs T a).length ≤ 30 := by rw [wPs_len h.2 ha]; exact wPc_le h.2 ha
  have pb : (wPs T b).length ≤ 30 := by rw [wPs_len h.2 hb]; exact wPc_le h.2 hb
  have mn : ∀ m, m ≤ 30 → (if nI m < 30 then nI m else (30 : Int32)) = nI m := by
    intro m hm
    by_cases e : nI m < 30
    · rw [if_pos e]
    · rw [if_neg e]
      have e2 : ¬ nI m < nI 30 := e
      rw [nI_ltI (by omega) (by decide)] at e2
      rw [show m = 30 by omega]; rfl
  unfold f_L_gatherParts
  rw [r_T_countParts h.2 r.2 ha, ← wPs_len h.2 ha]
  show k_pc ((f_T_countParts (L_types σ) (nI b)).bind _) _
  rw [r_T_countParts h.2 r.2 hb, ← wPs_len h.2 hb]
  show k_pc (if (if nI (wPs T a).length < 30 then nI (wPs T a).length else (30 : Int32)) = 0 then some (0, σ) else if (if nI (wPs T b).length < 30 then nI (wPs T b).length else (30 : Int32)) = 0 then some (0, σ) else f_L_gatherParts_43 1000 σ (nI a) (nI b) (if nI (wPs T a).length < 30 then nI (wPs T a).length else (30 : Int32)) (if nI (wPs T b).length < 30 then nI (wPs T b).length else (30 : Int32)) 0) _
  rw [mn _ pa, mn _ pb]
  have cmp : ∀ l : List Nat, l.length ≤ 30 → (nI l.length = 0 ↔ l = []) := by
    intro l hl
    have : nI l.length = nI 0 ↔ l.length = 0 := nI_eq (by omega) (by decide)
    exact this.trans List.length_eq_zero_iff
  refine p_if (fun z => p_some (Or.inl ⟨Or.inl ((cmp _ pa).mp z), rfl⟩)) (fun z => p_if (fun y => p_some (Or.inl ⟨Or.inr ((cmp _ pb).mp y), rfl⟩)) (fun y => ?_))
  refine p_mono (r_L_g43 h ha hb 1000 0 (L_gathered σ) σ r (by omega) (fun k hk => absurd hk (by simp))) (fun q hq => Or.inr ⟨fun e => z ((cmp _ pa).mpr e), fun e => y ((cmp _ pb).mpr e), hq⟩)
end
-- part 08.71.lowL2.lean.txt
/-! Tier 3: the class drops the needless PARTS, and puts the others into the order of their classes. -/
def rLq (σ τ : StL) : Prop := L_depth τ = L_depth σ ∧ L_classes τ = L_classes σ ∧ L_types τ = L_types σ
theorem rLq_trans {σ τ ρ : StL} (h1 : rLq σ τ) (h2 : rLq τ ρ) : rLq σ ρ := ⟨h2.1.trans h1.1, h2.2.1.trans h1.2.1, h2.2.2.trans h1.2.2⟩
section
variable {C : wWc} {T0 T : wWt} {g : Nat}
theorem rLq_L {σ τ : StL} (h : rLq σ τ) (r : rL σ C g T0 T) : rL τ C g T0 T := by
  refine ⟨?_, ?_⟩
  · rw [h.2.1]; exact r.1
  · rw [h.2.2]; exact r.2
/-- while the needless are dropped: all of them, those that stay of the first i, the answers -/
def rDr (σ τ : StL) (C : wWc) (T : wWt) (l : List Nat) (i : Nat) : Prop := rLq σ τ ∧ vFn (L_gathered τ) l ∧ vFn (L_row τ) (wKl C T l i) ∧ rA (L_answers τ) C T
theorem r_L_dn20 (h : wOK C T) {σ : StL} (r : rL σ C g T0 T) {l : List Nat} (hl : ∀ k, k < l.length → l.getD k 0 < Tn T) (hN : l.length ≤ 60) {i : Nat} (hi : i < l.length) (k4 : StL → Int32 → Int32 → Int32 → Option (Int32 × StL)) {Q : Int32 × StL → Prop}
    (hk : ∀ τ, rDr σ τ C T l (i + 1) → k_pc (k4 τ (nI l.length) (nI (wKl C T l (i + 1)).length) (nI i + 1)) Q) :
    ∀ (f j : Nat) (τ : StL), rDr σ τ C T l i → j ≤ l.length → (∀ j', j' < j → (l.getD j' 0 = l.getD i 0 → ¬ j' < i) ∧ (l.getD j' 0 ≠ l.getD i 0 → ¬ wB C T (l.getD j' 0) (l.getD i 0))) → k_pc (f_L_dropNeedless_20 k4 f τ (nI l.length) (nI (wKl C T l i).length) (nI i) (nI (l.getD i 0)) (nI j)) Q := by
  have hn := h.2.2.1
  have kl := wKl_len (C := C) (T := T) (l := l) i
  have pi := hl i hi
  intro f
  induction f with
  | zero => intro j τ _ _ _; exact p_none
  | succ f ih =>
    intro j τ hd hj hq
    rw [f_L_dropNeedless_20]
    unfold f_L_dropNeedless_20_s
    obtain ⟨d1, d2, d3, d4⟩ := hd
    have drop : ∀ τ', rLq σ τ' → vFn (L_gathered τ') l → vFn (L_row τ') (wKl C T l i) → rA (L_answers τ') C T → ¬ wKp C T l i → k_pc (k4 τ' (nI l.length) (nI (wKl C T l i).length) (nI i + 1)) Q := by
      intro τ' a1 a2 a3 a4 a5
      have := hk τ' ⟨a1, a2, by rw [wKl_no a5]; exact a3, a4⟩
      rw [wKl_no a5] at this
      exact this
    refine p_if (fun z => ?_) (fun z => ?_)
    · rw [nI_leI (by omega) (by omega)] at z
      have kp : wKp C T l i := fun j' hj' => hq j' (by omega)
      refine p_guard (fun _ => ?_)
      have e : nI (wKl C T l i).length + 1 = nI (wKl C T l (i + 1)).length := by
        rw [nI_1, wKl_ye kp, List.length_append]; rfl
      rw [e]
      refine hk _ ⟨d1, d2, ?_, d4⟩
      rw [wKl_ye kp]
      show vFn (upd (L_row τ) (nI (wKl C T l i).length).toNatClampNeg (nI (l.getD i 0))) _
      rw [nI_clamp (show (wKl C T l i).length < 2 ^ 31 by omega)]
      exact vFn_add d3
    · rw [nI_leI (by omega) (by omega)] at z
      have hj' : j < l.length := by omega
      have pj := hl j hj'
      rw [nI_clamp (show j < 2 ^ 31 by omega), d2 j hj', nI_1]
      have step : ∀ τ', rDr σ τ' C T l i → ((l.getD j 0 = l.getD i 0 → ¬ j < i) ∧ (l.getD j 0 ≠ l.getD i 0 → ¬ wB C T (l.getD j 0) (l.getD i 0))) → k_pc (f_L_dropNeedless_20 k4 f τ' (nI l.length) (nI (wKl C T l i).length) (nI i) (nI (l.getD i 0)) (nI (j + 1))) Q := by
        intro τ' a1 a2
        refine ih (j + 1) τ' a1 (by omega) (fun j' hj'' => ?_)
        by_cases e : j' = j
        · rw [e]; exact a2
        · exact hq j' (by omega)
      refine p_guard (fun _ => p_if (fun y => ?_) (fun y => ?_))
      · rw [nI_eq (by omega) (by omega)] at y
        refine p_if (fun w => ?_) (fun w => ?_)
        · rw [nI_leI (by omega) (by omega)] at w
          exact step τ ⟨d1, d2, d3, d4⟩ ⟨fun _ => by omega, fun u => absurd y u⟩
        · rw [nI_leI (by omega) (by omega)] at w
          exact drop τ d1 d2 d3 d4 (fun kp => (kp j hj').1 y (by omega))
      · rw [nI_eq (by omega) (by omega)] at y
        have base := r_L_liesBelow (g := g) (T0 := T0) h 101 τ (l.getD j 0) (l.getD i 0) 100 (rLq_L d1 r) d4 pj pi (h.2.2.2.1 _ pi).2.1 (by omega)
        refine p_bind base ?_
        rintro ⟨v, ρ⟩ ⟨v1, v2, A, v3, v4⟩
        replace v1 : v = 0 ∨ v = 1 := v1
        replace v2 : v = 1 ↔ wB C T (l.getD j 0) (l.getD i 0) := v2
        replace v3 : ρ = L_set_answers τ A := v3
        subst v3
        refine p_if (fun w => ?_) (fun w => ?_)
        · replace w : v = 0 := w
          refine step (L_set_answers τ A) ⟨d1, d2, d3, v4⟩ ⟨fun u => absurd u y, fun _ u => ?_⟩
          have := v2.mpr u
          rw [w] at this; exact absurd this k_01
        · replace w : ¬ v = 0 := w
          exact drop (L_set_answers τ A) d1 d2 d3 v4 (fun kp => (kp j hj').2 y (v2.mp (v1.resolve_left w)))
theorem r_L_dn4 (h : wOK C T) {σ : StL} (r : rL σ C g T0 T) {l : List Nat} (hl : ∀ k, k < l.length → l.getD k 0 < Tn T) (hN : l.length ≤ 60) :
    ∀ (f i : Nat) (τ : StL), rDr σ τ C T l i → i ≤ l.length → k_pc (f_L_dropNeedless_4 f τ (nI l.length) (nI (wKl C T l i).length) (nI i)) (fun q => q.1 = nI (wKl C T l l.length).length ∧ rLq σ q.2 ∧ vFn (L_gathered q.2) (wKl C T l l.length) ∧ rA (L_answers q.2) C T) := by
  have hn := h.2.2.1
  intro f
  induction f with
  | zero => intro i τ _ _; exact p_none
  | succ f ih =>
    intro i τ hd hi
    have kl := wKl_len (C := C) (T := T) (l := l) i
    rw [f_L_dropNeedless_4]
    unfold f_L_dropNeedless_4_s
    refine p_if (fun z => p_guard (fun _ => p_some ?_)) (fun z => p_guard (fun _ => ?_))
    · rw [nI_leI (by omega) (by omega)] at z
      have ei : i = l.length := by omega
      subst ei
      obtain ⟨d1, d2, d3, d4⟩ := hd
      refine ⟨rfl, d1, fun k hk => ?_, d4⟩
      show va_cpy (L_row τ) (L_gathered τ) (0 : Int32).toNatClampNeg (0 : Int32).toNatClampNeg (nI (wKl C T l l.length).length).toNatClampNeg k = _
      have e0 : (0 : Int32).toNatClampNeg = 0 := by decide
      rw [e0, nI_clamp (show (wKl C T l l.length).length < 2 ^ 31 by omega)]
      unfold va_cpy
      rw [if_pos (by omega), show 0 + (k - 0) = k by omega]
      exact d3 k hk
    · rw [nI_leI (by omega) (by omega)] at z
      have hi' : i < l.length := by omega
      rw [nI_clamp (show i < 2 ^ 31 by omega), hd.2.1 i hi']
      refine r_L_dn20 h r hl hN hi' _ (fun τ' hτ => ?_) 1000 0 τ hd (by omega) (fun j' hj => by omega)
      rw [nI_1]
      exact ih (i + 1) τ' hτ (by omega)
theorem r_L_dropNeedless (h : wOK C T) {σ : StL} (r : rL σ C g T0 T) (ra : rA (L_answers σ) C T) {l : List Nat} (hl : ∀ k, k < l.length → l.getD k 0 < Tn T) (hN : l.length ≤ 60) (hG : vFn (L_gathered σ) l) : k_pc (f_L_dropNeedless σ (nI l.length)) (fun q => q.1 = nI (wKl C T l l.length).length ∧ rLq σ q.2 ∧ vFn (L_gathered q.2) (wKl C T l l.length) ∧ rA (L_answers q.2) C T) := by
  unfold f_L_dropNeedless
  exact r_L_dn4 h r hl hN 1000 0 σ ⟨⟨rfl, rfl, rfl⟩, hG, fun k hk => absurd hk (by simp [wKl]), ra⟩ (by omega)
end
-- part 08.72.order.lean.txt
/-! Tier 3: the class puts PARTS into the order of their classes. -/
def wFi (T : wWt) (m : List Nat) (c : Nat) : Option Nat := m.find? (fun p => decide (dX (Ty T p) = c))
def wAl (C : wWc) (T : wWt) (m : List Nat) : Prop := m.Pairwise (fun p q => dX (Ty T p) ≠ dX (Ty T q)) ∧ (m.filter (fun p => !(Wf C (dX (Ty T p))))).length ≤ 1
def wCr (T : wWt) (m : List Nat) : Nat → List Nat
  | 0 => []
  | c + 1 => wCr T m c ++ (wFi T m c).toList
theorem wFi_some {T : wWt} {m : List Nat} {c p : Nat} (h : wFi T m c = some p) : p ∈ m ∧ dX (Ty T p) = c :=
  ⟨List.mem_of_find?_eq_some h, of_decide_eq_true (List.find?_some (p := fun p => decide (dX (Ty T p) = c)) h)⟩
theorem wFi_ex {T : wWt} {m : List Nat} {p : Nat} (h : p ∈ m) : ∃ q, wFi T m (dX (Ty T p)) = some q := by
  cases e : wFi T m (dX (Ty T p)) with
  | some q => exact ⟨q, rfl⟩
  | none =>
    have := List.find?_eq_none.mp e p h
    exact absurd (decide_eq_true rfl) this
theorem wPw_inj {T : wWt} : ∀ {m : List Nat}, m.Pairwise (fun p q => dX (Ty T p) ≠ dX (Ty T q)) → ∀ p q, p ∈ m → q ∈ m → dX (Ty T p) = dX (Ty T q) → p = q := by
  intro m
  induction m with
  | nil => intro _ p q hp; exact absurd hp (by simp)
  | cons x m ih =>
    intro h p q hp hq e
    obtain ⟨h1, h2⟩ := List.pairwise_cons.mp h
    rcases List.mem_cons.mp hp with a | a
    · rcases List.mem_cons.mp hq with b | b
      · rw [a, b]
      · exact absurd (by rw [← a]; exact e) (h1 q b)
    · rcases List.mem_cons.mp hq with b | b
      · exact absurd (by rw [← b]; exact e.symm) (h1 p a)
      · exact ih h2 p q a b e
theorem wCr_mem {T : wWt} {m : List Nat} : ∀ c p, p ∈ wCr T m c ↔ ∃ k, k < c ∧ wFi T m k = some p := by
  intro c
  induction c with
  | zero => intro p; exact ⟨fun h => absurd h (by simp [wCr]), fun ⟨k, k1, _⟩ => by omega⟩
  | succ c ih =>
    intro p
    rw [wCr, List.mem_append, ih p]
    constructor
    · rintro (⟨k, k1, k2⟩ | h)
      · exact ⟨k, by omega, k2⟩
      · exact ⟨c, by omega, by simpa using h⟩
    · rintro ⟨k, k1, k2⟩
      by_cases e : k = c
      · subst e; exact Or.inr (by simp [k2])
      · exact Or.inl ⟨k, by omega, k2⟩
theorem wCr_len {T : wWt} {m : List Nat} : ∀ c, (wCr T m c).length ≤ c := by
  intro c
  induction c with
  | zero => exact Nat.le_refl 0
  | succ c ih =>
    rw [wCr, List.length_append]
    cases wFi T m c with
    | none => show _ + 0 ≤ _; omega
    | some p => show _ + 1 ≤ _; omega
theorem wCr_so {T : wWt} {m : List Nat} (hm : m.Pairwise (fun p q => dX (Ty T p) ≠ dX (Ty T q))) (h30 : ∀ p, p ∈ m → dX (Ty T p) < 30) : wSo T (wCr T m 30) m := by
  have pw : ∀ c, (wCr T m c).Pairwise (fun a b => dX (Ty T a) < dX (Ty T b)) := by
    intro c
    induction c with
    | zero => exact List.Pairwise.nil
    | succ c ih =>
      rw [wCr, List.pairwise_append]
      refine ⟨ih, ?_, fun a ha b hb => ?_⟩
      · cases wFi T m c with
        | none => exact List.Pairwise.nil
        | some p => exact List.pairwise_singleton _ _
      · obtain ⟨k, k1, k2⟩ := (wCr_mem c a).mp ha
        have e : wFi T m c = some b := by simpa using hb
        rw [(wFi_some k2).2, (wFi_some e).2]; exact k1
  refine ⟨pw 30, fun x => ⟨fun hx => ?_, fun hx => ?_⟩⟩
  · obtain ⟨k, _, k2⟩ := (wCr_mem 30 x).mp hx
    exact (wFi_some k2).1
  · obtain ⟨q, hq⟩ := wFi_ex (T := T) hx
    have := wPw_inj hm q x (wFi_some hq).1 hx (wFi_some hq).2
    rw [this] at hq
    exact (wCr_mem 30 x).mpr ⟨_, h30 x hx, hq⟩
section
variable {C : wWc} {T0 T : wWt} {g : Nat}
theorem r_L_cr4 {σ : StL} {m : List Nat} (hm : ∀ p, p ∈ m → p < 300) : ∀ (f c : Nat) (τ : StL), c ≤ 30 → rLq σ τ → L_answers τ = L_answers σ → (∀ k, c ≤ k → k < 30 → L_row τ k = wIo (wFi T m k)) → vFn (L_row τ) (wCr T m c) → k_pc (f_L_closeRow_4 f τ (nI (wCr T m c).length) (nI c)) (fun q => q.1 = nI (wCr T m 30).length ∧ rLq σ q.2 ∧ L_answers q.2 = L_answers σ ∧ vFn (L_row q.2) (wCr T m 30)) := by
  intro f
  induction f with
  | zero => intro c τ _ _ _ _ _; exact p_none
  | succ f ih =>
    intro c τ hc h1 h2 h3 h4
    have cl := wCr_len (T := T) (m := m) c
    rw [f_L_closeRow_4]
    unfold f_L_closeRow_4_s
    refine p_if (fun z => p_some ?_) (fun z => ?_)
    · have z2 : nI 30 ≤ nI c := z
      rw [nI_leI (by decide) (by omega)] at z2
      have ec : c = 30 := by omega
      subst ec
      exact ⟨rfl, h1, h2, h4⟩
    · have z2 : ¬ nI 30 ≤ nI c := z
      rw [nI_leI (by decide) (by omega)] at z2
      rw [nI_clamp (show c < 2 ^ 31 by omega), h3 c (Nat.le_refl c) (by omega), nI_1]
      refine p_guard (fun _ => ?_)
      cases e : wFi T m c with
      | none =>
        refine p_if (fun _ => ?_) (fun y => absurd rfl y)
        have e2 : wCr T m (c + 1) = wCr T m c := by rw [wCr, e]; simp
        have := ih (c + 1) τ (by omega) h1 h2 (fun k hk hk2 => h3 k (by omega) hk2) (by rw [e2]; exact h4)
        rw [e2] at this
        exact this
      | some p =>
        have pm := hm p (wFi_some e).1
        refine p_if (fun y => absurd y (k_ne1 (by omega))) (fun _ => p_guard (fun _ => p_guard (fun _ => ?_)))
        have e2 : wCr T m (c + 1) = wCr T m c ++ [p] := by rw [wCr, e]; rfl
        have e3 : nI (wCr T m c).length + 1 = nI (wCr T m (c + 1)).length := by
          rw [nI_1, e2, List.length_append]; rfl
        have cc : (nI (wCr T m c).length).toNatClampNeg = (wCr T m c).length := nI_clamp (by omega)
        rw [e3]
        refine ih (c + 1) _ (by omega) (rLq_trans h1 ⟨rfl, rfl, rfl⟩) h2 (fun k hk hk2 => ?_) ?_
        · show upd (L_row τ) (nI (wCr T m c).length).toNatClampNeg (nI p) k = _
          rw [cc, k_updn (by omega)]; exact h3 k (by omega) hk2
        · show vFn (upd (L_row τ) (nI (wCr T m c).length).toNatClampNeg (nI p)) _
          rw [cc, e2]; exact vFn_add h4
end
-- part 08.73.order2.lean.txt
/-! Tier 3: the class's orderByClass. -/
theorem wFi_app {T : wWt} {m : List Nat} {p c : Nat} : wFi T (m ++ [p]) c = (wFi T m c).or (if dX (Ty T p) = c then some p else none) := by
  unfold wFi
  rw [List.find?_append]
  congr 1
  by_cases e : dX (Ty T p) = c
  · rw [if_pos e]; simp [e]
  · rw [if_neg e]; simp [e]
section
variable {C : wWc} {T0 T : wWt} {g : Nat}
theorem r_L_ob12 (h : wOK C T) {σ : StL} (r : rL σ C g T0 T) {m : List Nat} (hm : ∀ p, p ∈ m → p < Tn T ∧ dK (Ty T p) = 1) (hN : m.length ≤ 60) :
    ∀ (f i : Nat) (τ : StL), i ≤ m.length → rLq σ τ → L_answers τ = L_answers σ → vFn (L_gathered τ) m → (∀ k, k < 30 → L_row τ k = wIo (wFi T (m.take i) k)) → (m.take i).Pairwise (fun p q => dX (Ty T p) ≠ dX (Ty T q)) →
      k_pc (f_L_orderByClass_12 f τ (nI m.length) (nI ((m.take i).filter (fun p => !(Wf C (dX (Ty T p))))).length) (nI i)) (fun q => rLq σ q.2 ∧ L_answers q.2 = L_answers σ ∧ ((¬ wAl C T m ∧ q.1 = 0) ∨ (wAl C T m ∧ q.1 = nI (wCr T m 30).length ∧ vFn (L_row q.2) (wCr T m 30)))) := by
  have hn := h.2.2.1
  have hC := h.1.2.1
  intro f
  induction f with
  | zero => intro i τ _ _ _ _ _ _; exact p_none
  | succ f ih =>
    intro i τ hi h1 h2 h3 h4 h5
    have fl : ((m.take i).filter (fun p => !(Wf C (dX (Ty T p))))).length ≤ i := Nat.le_trans (List.length_filter_le _ _) (by rw [List.length_take]; omega)
    rw [f_L_orderByClass_12]
    unfold f_L_orderByClass_12_s
    refine p_if (fun z => ?_) (fun z => ?_)
    · rw [nI_leI (by omega) (by omega)] at z
      rw [show i = m.length by omega, List.take_length] at h4 h5 fl ⊢
      refine p_if (fun y => ?_) (fun y => p_some ⟨h1, h2, Or.inl ⟨fun w => ?_, rfl⟩⟩)
      · have y2 : nI (m.filter (fun p => !(Wf C (dX (Ty T p))))).length ≤ nI 1 := y
        rw [nI_leI (by omega) (by decide)] at y2
        unfold f_L_closeRow
        refine p_bind (r_L_cr4 (T := T) (fun p hp => by have := (hm p hp).1; omega) 1000 0 τ (by omega) h1 h2 (fun k _ hk => h4 k hk) (fun k hk => absurd hk (by simp [wCr]))) ?_
        rintro q ⟨q1, q2, q3, q4⟩
        exact p_some ⟨q2, q3, Or.inr ⟨⟨h5, y2⟩, q1, q4⟩⟩
      · have y2 : ¬ nI (m.filter (fun p => !(Wf C (dX (Ty T p))))).length ≤ nI 1 := y
        rw [nI_leI (by omega) (by decide)] at y2
        exact y2 w.2
    · rw [nI_leI (by omega) (by omega)] at z
      have hi' : i < m.length := by omega
      have mem := List.getElem_mem hi'
      obtain ⟨p1, p2⟩ := hm _ mem
      have c1 := (wT_named h.2 p1 p2).2.1
      have rt := rLq_L h1 r
      have et : m.take (i + 1) = m.take i ++ [m[i]] := by rw [← List.take_append_getElem hi']
      rw [nI_clamp (show i < 2 ^ 31 by omega), h3 i hi', getD_is hi']
      refine p_guard (fun _ => ?_)
      rw [r_T_classOf h.2 rt.2 p1, if_pos p2]
      show k_pc (if nI (dX (Ty T m[i])) < 0 then some (0, τ) else _) _
      refine p_if (fun y => absurd y (nI_pos (by omega))) (fun _ => p_if (fun y => ?_) (fun _ => ?_))
      · have y2 : nI 30 ≤ nI (dX (Ty T m[i])) := y
        rw [nI_leI (by decide) (by omega)] at y2
        omega
      have cd : (nI (dX (Ty T m[i]))).toNatClampNeg = dX (Ty T m[i]) := nI_clamp (by omega)
      rw [cd, h4 _ (show dX (Ty T m[i]) < 30 by omega)]
      refine p_guard (fun _ => ?_)
      cases e : wFi T (m.take i) (dX (Ty T m[i])) with
      | some q =>
        obtain ⟨q1, q2⟩ := wFi_some e
        have q3 : q < 300 := by have := (hm q (List.mem_of_mem_take q1)).1; omega
        refine p_if (fun y => absurd y (k_ne1 (by omega))) (fun _ => p_some ⟨h1, h2, Or.inl ⟨fun w => ?_, rfl⟩⟩)
        have w1 := w.1
        rw [← List.take_append_drop i m, List.pairwise_append, List.drop_eq_getElem_cons hi'] at w1
        exact w1.2.2 q q1 m[i] List.mem_cons_self q2
      | none =>
        refine p_if (fun _ => ?_) (fun y => absurd rfl y)
        rw [r_C_isFace h.1 rt.1 c1]
        have h5' : (m.take (i + 1)).Pairwise (fun p q => dX (Ty T p) ≠ dX (Ty T q)) := by
          rw [et, List.pairwise_append]
          refine ⟨h5, List.pairwise_singleton _ _, fun a ha b hb => ?_⟩
          rw [List.mem_singleton] at hb
          subst hb
          intro z
          obtain ⟨q, hq⟩ := wFi_ex (T := T) ha
          rw [z, e] at hq; cases hq
        have k72 : ∀ s : Nat, s = ((m.take (i + 1)).filter (fun p => !(Wf C (dX (Ty T p))))).length → k_pc (f_L_orderByClass_72 (f_L_orderByClass_12 f) τ (nI m.length) (nI s) (nI i) (nI (dX (Ty T m[i])))) (fun q => rLq σ q.2 ∧ L_answers q.2 = L_answers σ ∧ ((¬ wAl C T m ∧ q.1 = 0) ∨ (wAl C T m ∧ q.1 = nI (wCr T m 30).length ∧ vFn (L_row q.2) (wCr T m 30)))) := by
          intro s es
          unfold f_L_orderByClass_72
          rw [nI_clamp (show i < 2 ^ 31 by omega), h3 i hi', getD_is hi', nI_1, es]
          refine p_guard (fun _ => p_guard (fun _ => ?_))
          refine ih (i + 1) _ (by omega) (rLq_trans h1 ⟨rfl, rfl, rfl⟩) h2 h3 (fun k hk => ?_) h5'
          show upd (L_row τ) (nI (dX (Ty T m[i]))).toNatClampNeg (nI m[i]) k = _
          rw [cd, et, wFi_app]
          by_cases ek : dX (Ty T m[i]) = k
          · rw [← ek, k_upds, e, if_pos rfl]; rfl
          · rw [k_updn (fun q => ek q.symm), if_neg ek, h4 k hk]
            cases wFi T (m.take i) k <;> rfl
        have ef : ((m.take (i + 1)).filter (fun p => !(Wf C (dX (Ty T p))))).length = ((m.take i).filter (fun p => !(Wf C (dX (Ty T p))))).length + (if Wf C (dX (Ty T m[i])) = true then 0 else 1) := by
          rw [et, List.filter_append, List.length_append]
          congr 1
          cases w : Wf C (dX (Ty T m[i])) with
          | true => simp [w]
          | false => simp [w]
        show k_pc (if b2 (Wf C (dX (Ty T m[i]))) = 0 then _ else _) _
        refine p_if (fun y => ?_) (fun y => ?_)
        · rw [nI_1]
          refine k72 _ ?_
          rw [ef, if_neg (by rw [b2_0.mp y]; decide)]
        · have w : Wf C (dX (Ty T m[i])) = true := by
            cases w : Wf C (dX (Ty T m[i])) with
            | true => rfl
            | false => rw [w] at y; exact absurd rfl y
          refine k72 _ ?_
          rw [ef, if_pos w]; rfl
theorem r_L_orderByClass (h : wOK C T) {σ : StL} (r : rL σ C g T0 T) {m : List Nat} (hm : ∀ p, p ∈ m → p < Tn T ∧ dK (Ty T p) = 1) (hN : m.length ≤ 60) (hG : vFn (L_gathered σ) m) : k_pc (f_L_orderByClass σ (nI m.length)) (fun q => rLq σ q.2 ∧ L_answers q.2 = L_answers σ ∧ ((¬ wAl C T m ∧ q.1 = 0) ∨ (wAl C T m ∧ q.1 = nI (wCr T m 30).length ∧ vFn (L_row q.2) (wCr T m 30)))) := by
  unfold f_L_orderByClass
  refine r_L_ob12 h r hm hN 1000 0 _ (by omega) ⟨rfl, rfl, rfl⟩ rfl hG (fun k hk => ?_) ?_
  · show J_fill (L_row σ) 90 (-1) k = _
    unfold J_fill
    rw [if_pos (by omega), List.take_zero]; rfl
  · rw [List.take_zero]; exact List.Pairwise.nil
end
-- part 08.74.two.lean.txt
/-! Tier 3: in LOWER two PARTS stay at least. -/
theorem wFirst : ∀ (l : List Nat) (x : Nat), x ∈ l → ∃ i, i < l.length ∧ l.getD i 0 = x ∧ ∀ j, j < i → l.getD j 0 ≠ x := by
  intro l
  induction l with
  | nil => intro x h; exact absurd h (by simp)
  | cons y l ih =>
    intro x h
    by_cases e : y = x
    · exact ⟨0, by simp, by simp [e], fun j hj => by omega⟩
    · have h2 : x ∈ l := by
        rcases List.mem_cons.mp h with a | a
        · exact absurd a.symm e
        · exact a
      obtain ⟨i, i1, i2, i3⟩ := ih x h2
      refine ⟨i + 1, by rw [List.length_cons]; omega, by simpa using i2, fun j hj => ?_⟩
      cases j with
      | zero => simpa using e
      | succ j => have := i3 j (by omega); simpa using this
theorem getD_mem {l : List Nat} {k : Nat} (h : k < l.length) : l.getD k 0 ∈ l := by
  rw [getD_is h]; exact List.getElem_mem h
section
variable {C : wWc} {T : wWt}
theorem wKl_stay {l : List Nat} {x : Nat} (hx : x ∈ l) (h : ∀ y, y ∈ l → y ≠ x → ¬ wB C T y x) : x ∈ wKl C T l l.length := by
  obtain ⟨i, i1, i2, i3⟩ := wFirst l x hx
  refine (wKl_mem l.length x).mpr ⟨i, i1, fun j hj => ⟨fun e w => i3 j w (by rw [e]; exact i2), fun e => ?_⟩, i2.symm⟩
  rw [i2] at e ⊢
  exact h _ (getD_mem hj) e
theorem wLow_two (h : wOK C T) {a b : Nat} (ha : a < Tn T) (hb : b < Tn T) (hpa : wPs T a ≠ []) (hpb : wPs T b ≠ []) (h1 : ¬ wB C T a b) (h2 : ¬ wB C T b a) : 2 ≤ (wKl C T (wPs T a ++ wPs T b) (wPs T a ++ wPs T b).length).length := by
  obtain ⟨x, x1, x2, x3⟩ := wB_stays h ha hb hpa hpb h1
  obtain ⟨y, y1, y2, y3⟩ := wB_stays h hb ha hpb hpa h2
  have mx : x ∈ wKl C T (wPs T a ++ wPs T b) (wPs T a ++ wPs T b).length := by
    refine wKl_stay (List.mem_append_right _ x1) (fun z hz ne => ?_)
    rcases List.mem_append.mp hz with w | w
    · exact x2 z w
    · exact x3 z w ne
  have my : y ∈ wKl C T (wPs T a ++ wPs T b) (wPs T a ++ wPs T b).length := by
    refine wKl_stay (List.mem_append_left _ y1) (fun z hz ne => ?_)
    rcases List.mem_append.mp hz with w | w
    · exact y3 z w ne
    · exact y2 z w
  have ne : x ≠ y := by
    intro e
    rw [e] at x2
    exact x2 y y1 (wB_refl h (wPs_ok h.2 ha y1).2.1)
  generalize wKl C T (wPs T a ++ wPs T b) (wPs T a ++ wPs T b).length = m at mx my
  match m, mx, my with
  | [], mx, _ => exact absurd mx (by simp)
  | [p], mx, my =>
    rw [List.mem_singleton] at mx my
    exact absurd (mx.trans my.symm) ne
  | p :: q :: m, _, _ => simp
theorem wKl_ok (h : wTok C T) {a b : Nat} (ha : a < Tn T) (hb : b < Tn T) (n : Nat) (hn : n ≤ (wPs T a ++ wPs T b).length) : ∀ p, p ∈ wKl C T (wPs T a ++ wPs T b) n → 8 ≤ p ∧ p < Tn T ∧ dK (Ty T p) = 1 := by
  intro p hp
  obtain ⟨j, j1, _, j3⟩ := (wKl_mem n p).mp hp
  have := getD_mem (show j < (wPs T a ++ wPs T b).length by omega)
  rw [← j3] at this
  rcases List.mem_append.mp this with w | w
  · exact wPs_ok h ha w
  · exact wPs_ok h hb w
end
/-- no two of one class, no two that are no FACES -/
theorem wAl_iff {C : wWc} {T : wWt} : ∀ (m : List Nat), wAl C T m ↔ m.Pairwise (fun p q => dX (Ty T p) ≠ dX (Ty T q) ∧ (Wf C (dX (Ty T p)) = true ∨ Wf C (dX (Ty T q)) = true)) := by
  have one : ∀ (m : List Nat), (m.filter (fun p => !(Wf C (dX (Ty T p))))).length ≤ 1 ↔ m.Pairwise (fun p q => Wf C (dX (Ty T p)) = true ∨ Wf C (dX (Ty T q)) = true) := by
    intro m
    induction m with
    | nil => exact ⟨fun _ => List.Pairwise.nil, fun _ => by simp⟩
    | cons x m ih =>
      rw [List.pairwise_cons]
      cases e : Wf C (dX (Ty T x)) with
      | true =>
        rw [List.filter_cons_of_neg (by simp [e]), ih]
        exact ⟨fun w => ⟨fun _ _ => Or.inl rfl, w⟩, fun w => w.2⟩
      | false =>
        rw [List.filter_cons_of_pos (by simp [e]), List.length_cons]
        constructor
        · intro w
          have z : m.filter (fun p => !(Wf C (dX (Ty T p)))) = [] := List.length_eq_zero_iff.mp (by omega)
          refine ⟨fun q hq => Or.inr ?_, ih.mp (by rw [z]; simp)⟩
          have := List.filter_eq_nil_iff.mp z q hq
          simpa using this
        · rintro ⟨w1, _⟩
          have z : m.filter (fun p => !(Wf C (dX (Ty T p)))) = [] := by
            rw [List.filter_eq_nil_iff]
            intro q hq
            have := (w1 q hq).resolve_left (by decide)
            simp [this]
          rw [z]; simp
  intro m
  unfold wAl
  rw [one m]
  exact ⟨fun w => List.Pairwise.and w.1 w.2, fun w => ⟨w.imp (fun h => h.1), w.imp (fun h => h.2)⟩⟩
-- part 08.75.lowM.lean.txt
/-! Tier 3: LOWER of the reference: the PARTS that stay. -/
section
variable {σ : StM} {C : wWc} {T : wWt} {g : Nat}
theorem r_M_partOf (h : wOK C T) (q : rMt σ T) {a b i : Nat} (ha : a < Tn T) (hb : b < Tn T) (hi : i < (wPs T a ++ wPs T b).length) : k_pc (f_M_partOf σ (nI a) (nI b) (nI i)) (fun v => v = nI ((wPs T a ++ wPs T b).getD i 0)) := by
  have hn := h.2.2.1
  have pa : (wPs T a).length ≤ 30 := by rw [wPs_len h.2 ha]; exact wPc_le h.2 ha
  have pb : (wPs T b).length ≤ 30 := by rw [wPs_len h.2 hb]; exact wPc_le h.2 hb
  rw [List.length_append] at hi
  unfold f_M_partOf
  rw [nI_clamp (show a < 2 ^ 31 by omega), (q.2 a ha).2.2.2.2.2.1, ← wPs_len h.2 ha]
  refine p_guard (fun _ => p_if (fun z => p_guard (fun _ => p_guard (fun _ => p_some ?_))) (fun z => p_guard (fun _ => p_some ?_)))
  · rw [nI_leI (by omega) (by omega)] at z
    have e : 30 * nI b + nI i - nI (wPs T a).length = nI (30 * b + (i - (wPs T a).length)) := by
      rw [k_30ix, k_sub (by omega)]; congr 1; omega
    rw [e, nI_clamp (by omega), (q.2 b hb).2.2.2.2.2.2 _ (by omega), getD_app2 z, getD_is (by omega)]
  · rw [nI_leI (by omega) (by omega)] at z
    have cl : (30 * nI a + nI i).toNatClampNeg = 30 * a + i := by rw [k_30ix]; exact nI_clamp (by omega)
    rw [cl, (q.2 a ha).2.2.2.2.2.2 _ (by omega), getD_app1 (by omega), getD_is (by omega)]
theorem r_M_l147 (h : wOK C T) (q : rMt σ T) (ht : ∀ x p, x < Tn T → p < Tn T → tB (M_below σ) C T x p) {a b : Nat} (ha : a < Tn T) (hb : b < Tn T) {l : List Nat} (el : l = wPs T a ++ wPs T b) {i : Nat} (hi : i < l.length) {ρ : Nat → Int32} (hρ : vFn ρ (wKl C T l i)) (k125 : StM → Int32 → Int32 → Int32 → Int32 → Int32 → Option (Int32 × StM)) {Q : Int32 × StM → Prop}
    (hk : ∀ ρ', vFn ρ' (wKl C T l (i + 1)) → k_pc (k125 (M_set_row σ ρ') (nI a) (nI b) (nI l.length) (nI (wKl C T l (i + 1)).length) (nI i + 1)) Q) :
    ∀ (f j : Nat) (x7 : Int32), j ≤ l.length → ((x7 = 0 ∧ ¬ wKp C T l i) ∨ (x7 = 1 ∧ ∀ j', j' < j → (l.getD j' 0 = l.getD i 0 → ¬ j' < i) ∧ (l.getD j' 0 ≠ l.getD i 0 → ¬ wB C T (l.getD j' 0) (l.getD i 0)))) → k_pc (f_M_lower_147 k125 f (M_set_row σ ρ) (nI a) (nI b) (nI l.length) (nI (wKl C T l i).length) (nI i) (nI (l.getD i 0)) x7 (nI j)) Q := by
  have hn := h.2.2.1
  have pa : (wPs T a).length ≤ 30 := by rw [wPs_len h.2 ha]; exact wPc_le h.2 ha
  have pb : (wPs T b).length ≤ 30 := by rw [wPs_len h.2 hb]; exact wPc_le h.2 hb
  have hN : l.length ≤ 60 := by rw [el, List.length_append]; omega
  have kl := wKl_len (C := C) (T := T) (l := l) i
  have inn : ∀ k, k < l.length → l.getD k 0 < Tn T := by
    intro k hk
    have := getD_mem hk
    rw [el] at this
    rw [el]
    rcases List.mem_append.mp this with w | w
    · exact (wPs_ok h.2 ha w).2.1
    · exact (wPs_ok h.2 hb w).2.1
  have pi := inn i hi
  intro f
  induction f with
  | zero => intro j x7 _ _; exact p_none
  | succ f ih =>
    intro j x7 hj hx
    rw [f_M_lower_147]
    unfold f_M_lower_147_s
    refine p_if (fun z => ?_) (fun z => ?_)
    · rw [nI_leI (by omega) (by omega)] at z
      rcases hx with ⟨e, w⟩ | ⟨e, w⟩
      · subst e
        refine p_if (fun _ => ?_) (fun y => absurd rfl y)
        have := hk ρ (by rw [wKl_no w]; exact hρ)
        rw [wKl_no w] at this
        exact this
      · subst e
        have kp : wKp C T l i := fun j' hj' => w j' (by omega)
        refine p_if (fun y => absurd y k_10) (fun _ => p_guard (fun _ => ?_))
        have e : nI (wKl C T l i).length + 1 = nI (wKl C T l (i + 1)).length := by
          rw [nI_1, wKl_ye kp, List.length_append]; rfl
        rw [e]
        refine hk (upd ρ (nI (wKl C T l i).length).toNatClampNeg (nI (l.getD i 0))) ?_
        rw [wKl_ye kp, nI_clamp (show (wKl C T l i).length < 2 ^ 31 by omega)]
        exact vFn_add hρ
    · rw [nI_leI (by omega) (by omega)] at z
      have hj' : j < l.length := by omega
      have pj := inn j hj'
      refine p_bind (r_M_partOf (σ := M_set_row σ ρ) h q ha hb (i := j) (by rw [← el]; exact hj')) ?_
      intro r6 e6
      rw [← el] at e6
      subst e6
      rw [nI_1]
      rcases hx with ⟨e, w⟩ | ⟨e, w⟩
      · subst e
        exact p_if (fun _ => ih (j + 1) 0 (by omega) (Or.inl ⟨rfl, w⟩)) (fun y => absurd rfl y)
      · subst e
        have yes : ((l.getD j 0 = l.getD i 0 → ¬ j < i) ∧ (l.getD j 0 ≠ l.getD i 0 → ¬ wB C T (l.getD j 0) (l.getD i 0))) → k_pc (f_M_lower_147 k125 f (M_set_row σ ρ) (nI a) (nI b) (nI l.length) (nI (wKl C T l i).length) (nI i) (nI (l.getD i 0)) 1 (nI (j + 1))) Q := by
          intro c
          refine ih (j + 1) 1 (by omega) (Or.inr ⟨rfl, fun j' hj'' => ?_⟩)
          by_cases e : j' = j
          · rw [e]; exact c
          · exact w j' (by omega)
        have no : ¬ ((l.getD j 0 = l.getD i 0 → ¬ j < i) ∧ (l.getD j 0 ≠ l.getD i 0 → ¬ wB C T (l.getD j 0) (l.getD i 0))) → k_pc (f_M_lower_147 k125 f (M_set_row σ ρ) (nI a) (nI b) (nI l.length) (nI (wKl C T l i).length) (nI i) (nI (l.getD i 0)) 0 (nI (j + 1))) Q := by
          intro c
          exact ih (j + 1) 0 (by omega) (Or.inl ⟨rfl, fun kp => c (kp j hj')⟩)
        have k213 : ((l.getD j 0 = l.getD i 0 → ¬ j < i) ∧ (l.getD j 0 ≠ l.getD i 0 → ¬ wB C T (l.getD j 0) (l.getD i 0))) → k_pc (f_M_lower_213 k125 (f_M_lower_147 k125 f) (M_set_row σ ρ) (nI a) (nI b) (nI l.length) (nI (wKl C T l i).length) (nI i) (nI (l.getD i 0)) (nI j)) Q := by
          intro c
          unfold f_M_lower_213
          rw [nI_1]; exact yes c
        have k189 : ¬ (l.getD j 0 = l.getD i 0 ∧ i ≤ j) → k_pc (f_M_lower_189 k125 (f_M_lower_147 k125 f) (M_set_row σ ρ) (nI a) (nI b) (nI l.length) (nI (wKl C T l i).length) (nI i) (nI (l.getD i 0)) (nI j) (nI (l.getD j 0))) Q := by
          intro c
          unfold f_M_lower_189
          have c3 : (300 * nI (l.getD j 0) + nI (l.getD i 0)).toNatClampNeg = 300 * l.getD j 0 + l.getD i 0 := by rw [k_300ix]; exact nI_clamp (by omega)
          rw [nI_1, c3]
          refine p_if (fun y => no (fun u => ?_)) (fun y => p_guard (fun _ => p_if (fun v => ?_) (fun v => no (fun u => ?_))))
          · rw [nI_eq (by omega) (by omega)] at y
            exact u.1 y.symm (by
              by_cases e : j < i
              · exact e
              · exact absurd ⟨y.symm, by omega⟩ c)
          · rw [nI_eq (by omega) (by omega)] at y
            exact k213 ⟨fun u => absurd u.symm y, fun _ => tB_no (ht _ _ pj pi) v⟩
          · rw [nI_eq (by omega) (by omega)] at y
            exact u.2 (fun e => y e.symm) (tB_ye (ht _ _ pj pi) v)
        refine p_if (fun y => absurd y k_10) (fun _ => p_if (fun y => ?_) (fun y => ?_))
        · rw [nI_eq (by omega) (by omega)] at y
          subst y
          exact k213 ⟨fun _ => by omega, fun u => absurd rfl u⟩
        · rw [nI_eq (by omega) (by omega)] at y
          refine p_if (fun u => ?_) (fun u => ?_)
          · rw [nI_eq (by omega) (by omega)] at u
            refine p_if (fun v => ?_) (fun v => ?_)
            · rw [nI_ltI (by omega) (by omega)] at v
              exact k213 ⟨fun _ => by omega, fun e => absurd u.symm e⟩
            · rw [nI_ltI (by omega) (by omega)] at v
              exact k189 (fun c => by omega)
          · rw [nI_eq (by omega) (by omega)] at u
            exact k189 (fun c => u c.1.symm)
theorem r_M_l125 (h : wOK C T) (q : rMt σ T) (ht : ∀ x p, x < Tn T → p < Tn T → tB (M_below σ) C T x p) {a b : Nat} (ha : a < Tn T) (hb : b < Tn T) {l : List Nat} (el : l = wPs T a ++ wPs T b) {Q : Int32 × StM → Prop}
    (hk : ∀ ρ', vFn ρ' (wKl C T l l.length) → k_pc (f_M_lower_252 1000 (M_set_row σ ρ') (nI (wKl C T l l.length).length) 0) Q) :
    ∀ (f i : Nat) (ρ : Nat → Int32), i ≤ l.length → vFn ρ (wKl C T l i) → k_pc (f_M_lower_125 f (M_set_row σ ρ) (nI a) (nI b) (nI l.length) (nI (wKl C T l i).length) (nI i)) Q := by
  have pa : (wPs T a).length ≤ 30 := by rw [wPs_len h.2 ha]; exact wPc_le h.2 ha
  have pb : (wPs T b).length ≤ 30 := by rw [wPs_len h.2 hb]; exact wPc_le h.2 hb
  have hN : l.length ≤ 60 := by rw [el, List.length_append]; omega
  intro f
  induction f with
  | zero => intro i ρ _ _; exact p_none
  | succ f ih =>
    intro i ρ hi hρ
    rw [f_M_lower_125]
    unfold f_M_lower_125_s
    refine p_if (fun z => ?_) (fun z => ?_)
    · rw [nI_leI (by omega) (by omega)] at z
      have ei : i = l.length := by omega
      subst ei
      exact hk ρ hρ
    · rw [nI_leI (by omega) (by omega)] at z
      have hi' : i < l.length := by omega
      refine p_bind (r_M_partOf (σ := M_set_row σ ρ) h q ha hb (i := i) (by rw [← el]; exact hi')) ?_
      intro r5 e5
      rw [← el] at e5
      subst e5
      refine r_M_l147 h q ht ha hb el hi' hρ _ (fun ρ' hρ' => ?_) 1000 0 1 (by omega) (Or.inr ⟨rfl, fun j' hj => by omega⟩)
      rw [nI_1]
      exact ih (i + 1) ρ' (by omega) hρ'
end
-- part 08.76.lowM2.lean.txt
/-! Tier 3: LOWER of the reference: may the PARTS stand together? -/
def wPr (C : wWc) (T : wWt) (m : List Nat) (k j : Nat) : Prop := dX (Ty T (m.getD k 0)) ≠ dX (Ty T (m.getD j 0)) ∧ (Wf C (dX (Ty T (m.getD k 0))) = true ∨ Wf C (dX (Ty T (m.getD j 0))) = true)
theorem wAl_pr {C : wWc} {T : wWt} {m : List Nat} : wAl C T m ↔ ∀ k j, j < k → k < m.length → wPr C T m k j := by
  rw [wAl_iff, List.pairwise_iff_getElem]
  constructor
  · intro h k j jk hk
    have := h j k (by omega) hk jk
    unfold wPr
    rw [getD_is hk, getD_is (show j < m.length by omega)]
    exact ⟨fun e => this.1 e.symm, this.2.symm⟩
  · intro h j k hj hk jk
    have := h k j jk hk
    unfold wPr at this
    rw [getD_is hk, getD_is hj] at this
    exact ⟨fun e => this.1 e.symm, this.2.symm⟩
section
variable {σ : StM} {C : wWc} {T : wWt} {g : Nat}
theorem r_M_l262 (h : wOK C T) (r : rMc σ C g) (q : rMt σ T) {m : List Nat} (hm : ∀ p, p ∈ m → p < Tn T ∧ dK (Ty T p) = 1) (hN : m.length ≤ 60) (hr : vFn (M_row σ) m) {i : Nat} (hi : i < m.length) (k252 : StM → Int32 → Int32 → Option (Int32 × StM)) {Q : Int32 × StM → Prop} (hno : ¬ wAl C T m → Q (-1, σ))
    (hk : (∀ j, j < i → wPr C T m i j) → k_pc (k252 σ (nI m.length) (nI i + 1)) Q) :
    ∀ (f j : Nat), j ≤ i → (∀ j', j' < j → wPr C T m i j') → k_pc (f_M_lower_262 k252 f σ (nI m.length) (nI i) (nI j)) Q := by
  have hn := h.2.2.1
  have hC := h.1.2.1
  have one : ∀ k, k < m.length → M_row σ k = nI (m.getD k 0) ∧ m.getD k 0 < Tn T ∧ M_classOf σ (m.getD k 0) = nI (dX (Ty T (m.getD k 0))) ∧ dX (Ty T (m.getD k 0)) < Wn C := by
    intro k hk
    obtain ⟨p1, p2⟩ := hm _ (getD_mem hk)
    exact ⟨hr k hk, p1, by rw [(q.2 _ p1).2.1, if_pos p2], (wT_named h.2 p1 p2).2.1⟩
  obtain ⟨i1, i2, i3, i4⟩ := one i hi
  intro f
  induction f with
  | zero => intro j _ _; exact p_none
  | succ f ih =>
    intro j hj hq
    rw [f_M_lower_262]
    unfold f_M_lower_262_s
    refine p_if (fun z => ?_) (fun z => ?_)
    · rw [nI_leI (by omega) (by omega)] at z
      exact hk (fun j' hj' => hq j' (by omega))
    · rw [nI_leI (by omega) (by omega)] at z
      obtain ⟨j1, j2, j3, j4⟩ := one j (by omega)
      have step : wPr C T m i j → k_pc (f_M_lower_262 k252 f σ (nI m.length) (nI i) (nI j + 1)) Q := by
        intro w
        rw [nI_1]
        refine ih (j + 1) (by omega) (fun j' hj' => ?_)
        by_cases e : j' = j
        · rw [e]; exact w
        · exact hq j' (by omega)
      have bad : ¬ wPr C T m i j → k_pc (some ((-1 : Int32), σ)) Q := fun w => p_some (hno (fun u => w (wAl_pr.mp u i j (by omega) hi)))
      rw [nI_clamp (show i < 2 ^ 31 by omega), nI_clamp (show j < 2 ^ 31 by omega), i1, j1, nI_clamp (show m.getD i 0 < 2 ^ 31 by omega), nI_clamp (show m.getD j 0 < 2 ^ 31 by omega), i3, j3, nI_clamp (show dX (Ty T (m.getD i 0)) < 2 ^ 31 by omega), nI_clamp (show dX (Ty T (m.getD j 0)) < 2 ^ 31 by omega), (r.2.2 _ i4).1, (r.2.2 _ j4).1]
      refine p_guard (fun _ => p_guard (fun _ => p_guard (fun _ => p_guard (fun _ => p_if (fun y => bad (fun u => ?_)) (fun y => p_guard (fun _ => p_if (fun w => p_guard (fun _ => p_if (fun v => bad (fun u => ?_)) (fun v => step ⟨?_, ?_⟩))) (fun w => step ⟨?_, ?_⟩)))))))
      · rw [nI_eq (by omega) (by omega)] at y
        exact u.1 y
      · rcases u.2 with e | e
        · rw [e] at w; exact absurd w (by decide)
        · rw [e] at v; exact absurd v (by decide)
      · rw [nI_eq (by omega) (by omega)] at y; exact y
      · cases e : Wf C (dX (Ty T (m.getD j 0))) with
        | true => exact Or.inr rfl
        | false => rw [e] at v; exact absurd rfl v
      · rw [nI_eq (by omega) (by omega)] at y; exact y
      · cases e : Wf C (dX (Ty T (m.getD i 0))) with
        | true => exact Or.inl rfl
        | false => rw [e] at w; exact absurd rfl w
theorem r_M_l252 (h : wOK C T) (r : rMc σ C g) (q : rMt σ T) {m : List Nat} (hm : ∀ p, p ∈ m → p < Tn T ∧ dK (Ty T p) = 1) (hN : m.length ≤ 60) (hr : vFn (M_row σ) m) {Q : Int32 × StM → Prop} (hno : ¬ wAl C T m → Q (-1, σ))
    (hye : wAl C T m → k_pc ((f_M_addBoth σ (nI m.length)).bind fun r3 => (f_M_end r3.2 (M_types σ) r3.1 2).bind fun r4 => some (r4.1, r4.2)) Q) :
    ∀ (f i : Nat), i ≤ m.length → (∀ k j, j < k → k < i → wPr C T m k j) → k_pc (f_M_lower_252 f σ (nI m.length) (nI i)) Q := by
  intro f
  induction f with
  | zero => intro i _ _; exact p_none
  | succ f ih =>
    intro i hi hq
    rw [f_M_lower_252]
    unfold f_M_lower_252_s
    refine p_if (fun z => ?_) (fun z => ?_)
    · rw [nI_leI (by omega) (by omega)] at z
      exact hye (wAl_pr.mpr (fun k j jk hk => hq k j jk (by omega)))
    · rw [nI_leI (by omega) (by omega)] at z
      refine r_M_l262 h r q hm hN hr (show i < m.length by omega) _ hno (fun hp => ?_) 1000 0 (by omega) (fun j' hj => by omega)
      rw [nI_1]
      refine ih (i + 1) (by omega) (fun k j jk hk => ?_)
      by_cases e : k = i
      · rw [e] at jk ⊢; exact hp j jk
      · exact hq k j jk (by omega)
end
-- part 08.77.stay.lean.txt
/-! Tier 3: BELOW, the kept answers and the table stay when types come. -/
section
variable {C : wWc} {T T' : wWt}
theorem wPt_ex (hx : wEx T T') {a : Nat} (ha : a < Tn T) : wPt T' a = wPt T a := by unfold wPt; rw [(hx.2 a ha).1]
theorem wBe_ex (h : wOK C T) (hx : wEx T T') : ∀ (f a b : Nat), a < Tn T → b < Tn T → (wBe C T' f a b ↔ wBe C T f a b) := by
  intro f
  induction f with
  | zero => intro a b _ _; exact Iff.rfl
  | succ f ih =>
    intro a b ha hb
    rw [wBe, wBe, (hx.2 a ha).1, (hx.2 b hb).1, wPt_ex hx ha]
    have p2 : dK (Ty T b) = 3 → ((∀ p, p ∈ dL (Ty T b) → wBe C T' f a p) ↔ (∀ p, p ∈ dL (Ty T b) → wBe C T f a p)) := by
      intro q
      obtain ⟨_, _, _, w, _⟩ := wT_both h.2 hb q
      exact ⟨fun k p hp => (ih a p ha (by have := w p hp; omega)).mp (k p hp), fun k p hp => (ih a p ha (by have := w p hp; omega)).mpr (k p hp)⟩
    have p3 : dK (Ty T b) = 1 → ∀ x r, x ∈ wPt T a → wLk C T x (dX (Ty T b)) = some r → dA (Ty T b) % 4 = 2 → (wBe C T' f (r / 4) (dA (Ty T b) / 4) ↔ wBe C T f (r / 4) (dA (Ty T b) / 4)) := by
      intro q x r hxx hl h4
      obtain ⟨_, w1, w2, _⟩ := wT_named h.2 hb q
      have wr := wLk_ok h (wPt_ok h.2 ha hxx).1 hl
      rcases w2 with ⟨_, w2⟩ | ⟨g0, y, y1, y2, y3⟩
      · omega
      · rcases wr with ⟨g1, _⟩ | ⟨_, z, z1, z2, z3⟩
        · rw [g0] at g1; cases g1
        · exact ih _ _ (by omega) (by omega)
    have lk : ∀ x, x ∈ wPt T a → wLk C T' x (dX (Ty T b)) = wLk C T x (dX (Ty T b)) := fun x hxx => wLk_ex h.2 hx (wPt_ok h.2 ha hxx).1 _
    constructor
    · rintro (q | ⟨q1, q2⟩ | ⟨q1, x, r, q2, q3, q4⟩ | ⟨q1, q2, q3, q4, q5⟩)
      · exact Or.inl q
      · exact Or.inr (Or.inl ⟨q1, (p2 q1).mp q2⟩)
      · rw [lk x q2] at q3
        refine Or.inr (Or.inr (Or.inl ⟨q1, x, r, q2, q3, ?_⟩))
        rcases q4 with q4 | ⟨q4, q5⟩
        · exact Or.inl q4
        · exact Or.inr ⟨q4, (p3 q1 x r q2 q3 q4).mp q5⟩
      · obtain ⟨_, w1, _⟩ := wT_arr h.2 ha q1
        obtain ⟨_, w2, _⟩ := wT_arr h.2 hb q2
        exact Or.inr (Or.inr (Or.inr ⟨q1, q2, q3, q4, (ih _ _ (by omega) (by omega)).mp q5⟩))
    · rintro (q | ⟨q1, q2⟩ | ⟨q1, x, r, q2, q3, q4⟩ | ⟨q1, q2, q3, q4, q5⟩)
      · exact Or.inl q
      · exact Or.inr (Or.inl ⟨q1, (p2 q1).mpr q2⟩)
      · refine Or.inr (Or.inr (Or.inl ⟨q1, x, r, q2, by rw [lk x q2]; exact q3, ?_⟩))
        rcases q4 with q4 | ⟨q4, q5⟩
        · exact Or.inl q4
        · exact Or.inr ⟨q4, (p3 q1 x r q2 q3 q4).mpr q5⟩
      · obtain ⟨_, w1, _⟩ := wT_arr h.2 ha q1
        obtain ⟨_, w2, _⟩ := wT_arr h.2 hb q2
        exact Or.inr (Or.inr (Or.inr ⟨q1, q2, q3, q4, (ih _ _ (by omega) (by omega)).mpr q5⟩))
theorem wB_ex (h : wOK C T) (hx : wEx T T') {a b : Nat} (ha : a < Tn T) (hb : b < Tn T) : wB C T' a b ↔ wB C T a b := wBe_ex h hx b a b ha hb
theorem rA_ex {σ : StA} (h : wOK C T) (hx : wEx T T') (r : rA σ C T) : rA σ C T' := by
  refine ⟨fun a b ha hb => ⟨fun q => ?_, fun q => ?_⟩, r.2⟩
  · obtain ⟨a1, b1, n⟩ := (r.1 a b ha hb).1 q
    exact ⟨Nat.lt_of_lt_of_le a1 hx.1, Nat.lt_of_lt_of_le b1 hx.1, fun w => n ((wB_ex h hx a1 b1).mp w)⟩
  · obtain ⟨a1, b1, n⟩ := (r.1 a b ha hb).2 q
    exact ⟨Nat.lt_of_lt_of_le a1 hx.1, Nat.lt_of_lt_of_le b1 hx.1, (wB_ex h hx a1 b1).mpr n⟩
theorem rR_ex {μ ν : StM} (h : wOK C T) (hx : wEx T T') (r : rR μ C T) (e1 : M_reckoned ν = M_reckoned μ) (e2 : M_below ν = M_below μ) : rR ν C T' := by
  obtain ⟨k, k1, k2, k3⟩ := r
  refine ⟨k, Nat.le_trans k1 hx.1, by rw [e1]; exact k2, fun e => ?_⟩
  have et : Tn T' = Tn T := by have := hx.1; omega
  intro x p hx' hp'
  have t := k3 (by omega) x p (by omega) (by omega)
  unfold tB at t ⊢
  rw [e2, wB_ex h hx (by omega) (by omega)]
  exact t
end
-- part 08.78.decl.lean.txt
/-! Tier 3: tables of classes that agree below n; one more class. -/
def wAgr (n : Nat) (C C' : wWc) : Prop := ∀ c, c < n → Wf C' c = Wf C c ∧ Wg C' c = Wg C c ∧ Wd C' c = Wd C c ∧ (∀ k, k < Wd C c → Wo C' c k = Wo C c k ∧ Wa C' c k = Wa C c k ∧ Wo C c k < c) ∧ ∀ b, Wu C' c b = Wu C c b
theorem wfs_eq {p q : Nat → Bool} : ∀ (f i : Nat), (∀ j, i ≤ j → j < i + f → p j = q j) → wfs p f i = wfs q f i := by
  intro f
  induction f with
  | zero => intro i _; rfl
  | succ f ih =>
    intro i h
    rw [wfs, wfs, h i (Nat.le_refl i) (by omega), ih (i + 1) (fun j h1 h2 => h j (by omega) (by omega))]
section
variable {C C' : wWc} {n : Nat}
theorem wTw_agr (h : wAgr n C C') {c : Nat} (hc : c < n) (b : Nat) : wTw C' c b = wTw C c b := by
  unfold wTw; rw [(h c hc).2.2.2.2 b]
theorem wFe_agr (h : wAgr n C C') {c : Nat} (hc : c < n) (b : Nat) : wFe C' c b = wFe C c b := by
  obtain ⟨_, _, h3, h4, _⟩ := h c hc
  unfold wFe
  rw [h3]
  refine wfs_eq _ _ (fun j _ hj => ?_)
  obtain ⟨e1, _, e3⟩ := h4 j (by omega)
  show wTw C' (Wo C' c j) b = wTw C (Wo C c j) b
  rw [e1, wTw_agr h (by omega)]
theorem wClf_agr (h : wAgr n C C') (b : Nat) : ∀ (f c a : Nat), c < n → wClf C' b f c a = wClf C b f c a := by
  intro f
  induction f with
  | zero => intro c a _; rfl
  | succ f ih =>
    intro c a hc
    rw [wClf, wClf, wFe_agr h hc]
    by_cases e : c = b
    · rw [if_pos e, if_pos e]
    · rw [if_neg e, if_neg e]
      cases q : wFe C c b with
      | none => rfl
      | some k =>
        obtain ⟨_, k2, _, _⟩ := wfs_some q
        obtain ⟨e1, e2, e3⟩ := (h c hc).2.2.2.1 k (by omega)
        show wClf C' b f (Wo C' c k) (wSb a (Wa C' c k)) = wClf C b f (Wo C c k) (wSb a (Wa C c k))
        rw [e1, e2]
        exact ih _ _ (by omega)
theorem wCl_agr (h : wAgr n C C') {c : Nat} (a b : Nat) (hc : c < n) : wCl C' c a b = wCl C c a b := wClf_agr h b c c a hc
/-- one class more -/
def wDcl (C : wWc) (f g : Bool) : wWc := (Wn C + 1, wUp (Wf C) (Wn C) f, wUp (Wg C) (Wn C) g, wUp (Wd C) (Wn C) 1, wUp (Wo C) (Wn C) (fun _ => 0), wUp (Wa C) (Wn C) (fun _ => 0), wUp (Wu C) (Wn C) (fun b => decide (b = 0)))
theorem wDcl_agr {t : Nat} (h : wCok C t) (f g : Bool) : wAgr (Wn C) C (wDcl C f g) := by
  intro c hc
  have ne : c ≠ Wn C := by omega
  have e4 : Wo (wDcl C f g) c = Wo C c := wUp_n ne
  have e5 : Wa (wDcl C f g) c = Wa C c := wUp_n ne
  have e6 : Wu (wDcl C f g) c = Wu C c := wUp_n ne
  exact ⟨wUp_n ne, wUp_n ne, wUp_n ne, fun k hk => ⟨by rw [e4], by rw [e5], (h.2.2.2.1 c k hc hk).1⟩, fun b => by rw [e6]⟩
theorem wDcl_ok {t : Nat} (h : wCok C t) (hn : Wn C < 30) (f g : Bool) : wCok (wDcl C f g) t := by
  have ag := wDcl_agr h f g
  have n13 := h.1
  have nN : Wn (wDcl C f g) = Wn C + 1 := rfl
  have dN : Wd (wDcl C f g) (Wn C) = 1 := wUp_s
  have oN : Wo (wDcl C f g) (Wn C) = fun _ => 0 := wUp_s
  have aN : Wa (wDcl C f g) (Wn C) = fun _ => 0 := wUp_s
  have uN : Wu (wDcl C f g) (Wn C) = fun b => decide (b = 0) := wUp_s
  have g0 : Wg (wDcl C f g) 0 = false := by rw [(ag 0 (by omega)).2.1]; exact h.2.2.2.2.2.2.2.1 0 (by omega)
  have u0 : ∀ b, Wu C 0 b = false := by
    intro b
    cases e : Wu C 0 b with
    | false => rfl
    | true => have := wUp_lt h 0 b (by omega) e; omega
  have t0 : ∀ b, wTw (wDcl C f g) 0 b = decide (b = 0) := by
    intro b
    rw [wTw_agr ag (show 0 < Wn C by omega)]
    unfold wTw
    rw [u0 b, Bool.or_false]
    by_cases e : b = 0
    · rw [decide_eq_true e, decide_eq_true e.symm]
    · rw [decide_eq_false e, decide_eq_false (fun q => e q.symm)]
  refine ⟨by omega, by omega, fun c hc => ?_, fun c k hc hk => ?_, fun c k l hc hkl hl => ?_, fun c b hc => ?_, fun c b k hc hb hg hk hu => ?_, fun c hc => ?_, fun c b hc hu => ?_⟩
  · by_cases e : c = Wn C
    · rw [e, dN]; exact ⟨by omega, fun _ => by omega⟩
    · rw [(ag c (by omega)).2.2.1]; exact h.2.2.1 c (by omega)
  · by_cases e : c = Wn C
    · subst e
      rw [oN, aN]
      exact ⟨by show 0 < Wn C; omega, Or.inl ⟨g0, rfl⟩⟩
    · obtain ⟨a1, a2, a3, a4, a5⟩ := ag c (by omega)
      rw [a3] at hk
      obtain ⟨b1, b2, b3⟩ := a4 k hk
      rw [b1, b2, a2, (ag (Wo C c k) (by omega)).2.1]
      exact h.2.2.2.1 c k (by omega) hk
  · by_cases e : c = Wn C
    · rw [e, dN] at hl; omega
    · obtain ⟨a1, a2, a3, a4, a5⟩ := ag c (by omega)
      rw [a3] at hl
      rw [(a4 k (by omega)).1, (a4 l hl).1]
      exact h.2.2.2.2.1 c k l (by omega) hkl hl
  · by_cases e : c = Wn C
    · subst e
      rw [uN, dN]
      constructor
      · intro w
        refine ⟨0, by omega, ?_⟩
        rw [oN, t0]; exact w
      · rintro ⟨k, _, w⟩
        rw [oN, t0] at w; exact w
    · obtain ⟨a1, a2, a3, a4, a5⟩ := ag c (by omega)
      rw [a5 b, a3, h.2.2.2.2.2.1 c b (by omega)]
      constructor
      · rintro ⟨k, k1, k2⟩
        obtain ⟨b1, _, b3⟩ := a4 k k1
        exact ⟨k, k1, by rw [b1, wTw_agr ag (by omega)]; exact k2⟩
      · rintro ⟨k, k1, k2⟩
        obtain ⟨b1, _, b3⟩ := a4 k k1
        rw [b1, wTw_agr ag (by omega)] at k2
        exact ⟨k, k1, k2⟩
  · by_cases e : c = Wn C
    · subst e
      rw [oN, t0] at hu
      have b0 := of_decide_eq_true hu
      rw [b0, g0] at hg; cases hg
    · obtain ⟨a1, a2, a3, a4, a5⟩ := ag c (by omega)
      rw [a3] at hk
      obtain ⟨b1, b2, b3⟩ := a4 k hk
      rw [b1, wTw_agr ag (by omega)] at hu
      have bl := wTw_le h (show Wo C c k < Wn C by omega) hu
      rw [(ag b (by omega)).2.1] at hg
      rw [wCl_agr ag 3 b (by omega), b1, b2, wCl_agr ag _ b (by omega)]
      exact h.2.2.2.2.2.2.1 c b k (by omega) (by omega) hg hk hu
  · rw [(ag c (by omega)).2.1]; exact h.2.2.2.2.2.2.2.1 c hc
  · rw [(ag c (by omega)).2.2.2.2 b] at hu; exact h.2.2.2.2.2.2.2.2 c b hc hu
end
-- part 08.79.decl2.lean.txt
/-! Tier 3: a class more leaves types, LOOK, BELOW as they are. -/
section
variable {C C' : wWc} {T : wWt}
theorem wLs_agr (h : wTok C T) (ag : wAgr (Wn C) C C') (b : Nat) : ∀ (l : List Nat), (∀ p, p ∈ l → p < Tn T ∧ dK (Ty T p) = 1) → wLs C' T b l = wLs C T b l := by
  intro l
  induction l with
  | nil => intro _; rfl
  | cons p l ih =>
    intro hl
    obtain ⟨p1, p2⟩ := hl p (by simp)
    rw [wLs, wLs, wCl_agr ag _ _ (wT_named h p1 p2).2.1, ih (fun q hq => hl q (by simp [hq]))]
theorem wLk_agr (h : wTok C T) (ag : wAgr (Wn C) C C') {i : Nat} (hi : i < Tn T) (b : Nat) : wLk C' T i b = wLk C T i b := by
  unfold wLk
  by_cases q : dK (Ty T i) = 2
  · rw [if_pos q, if_pos q]
  · rw [if_neg q, if_neg q]
    exact wLs_agr h ag b _ (fun p hp => (wHo_ok h hi q hp).2)
theorem wBe_agr (h : wOK C T) (ag : wAgr (Wn C) C C') : ∀ (f a b : Nat), a < Tn T → b < Tn T → (wBe C' T f a b ↔ wBe C T f a b) := by
  intro f
  induction f with
  | zero => intro a b _ _; exact Iff.rfl
  | succ f ih =>
    intro a b ha hb
    rw [wBe, wBe]
    have p2 : dK (Ty T b) = 3 → ((∀ p, p ∈ dL (Ty T b) → wBe C' T f a p) ↔ (∀ p, p ∈ dL (Ty T b) → wBe C T f a p)) := by
      intro q
      obtain ⟨_, _, _, w, _⟩ := wT_both h.2 hb q
      exact ⟨fun k p hp => (ih a p ha (by have := w p hp; omega)).mp (k p hp), fun k p hp => (ih a p ha (by have := w p hp; omega)).mpr (k p hp)⟩
    have p3 : dK (Ty T b) = 1 → ∀ x r, x ∈ wPt T a → wLk C T x (dX (Ty T b)) = some r → dA (Ty T b) % 4 = 2 → (wBe C' T f (r / 4) (dA (Ty T b) / 4) ↔ wBe C T f (r / 4) (dA (Ty T b) / 4)) := by
      intro q x r hxx hl h4
      obtain ⟨_, w1, w2, _⟩ := wT_named h.2 hb q
      have wr := wLk_ok h (wPt_ok h.2 ha hxx).1 hl
      rcases w2 with ⟨_, w2⟩ | ⟨g0, y, y1, y2, y3⟩
      · omega
      · rcases wr with ⟨g1, _⟩ | ⟨_, z, z1, z2, z3⟩
        · rw [g0] at g1; cases g1
        · exact ih _ _ (by omega) (by omega)
    have lk : ∀ x, x ∈ wPt T a → wLk C' T x (dX (Ty T b)) = wLk C T x (dX (Ty T b)) := fun x hxx => wLk_agr h.2 ag (wPt_ok h.2 ha hxx).1 _
    constructor
    · rintro (q | ⟨q1, q2⟩ | ⟨q1, x, r, q2, q3, q4⟩ | ⟨q1, q2, q3, q4, q5⟩)
      · exact Or.inl q
      · exact Or.inr (Or.inl ⟨q1, (p2 q1).mp q2⟩)
      · rw [lk x q2] at q3
        refine Or.inr (Or.inr (Or.inl ⟨q1, x, r, q2, q3, ?_⟩))
        rcases q4 with q4 | ⟨q4, q5⟩
        · exact Or.inl q4
        · exact Or.inr ⟨q4, (p3 q1 x r q2 q3 q4).mp q5⟩
      · obtain ⟨_, w1, _⟩ := wT_arr h.2 ha q1
        obtain ⟨_, w2, _⟩ := wT_arr h.2 hb q2
        exact Or.inr (Or.inr (Or.inr ⟨q1, q2, q3, q4, (ih _ _ (by omega) (by omega)).mp q5⟩))
    · rintro (q | ⟨q1, q2⟩ | ⟨q1, x, r, q2, q3, q4⟩ | ⟨q1, q2, q3, q4, q5⟩)
      · exact Or.inl q
      · exact Or.inr (Or.inl ⟨q1, (p2 q1).mpr q2⟩)
      · refine Or.inr (Or.inr (Or.inl ⟨q1, x, r, q2, by rw [lk x q2]; exact q3, ?_⟩))
        rcases q4 with q4 | ⟨q4, q5⟩
        · exact Or.inl q4
        · exact Or.inr ⟨q4, (p3 q1 x r q2 q3 q4).mpr q5⟩
      · obtain ⟨_, w1, _⟩ := wT_arr h.2 ha q1
        obtain ⟨_, w2, _⟩ := wT_arr h.2 hb q2
        exact Or.inr (Or.inr (Or.inr ⟨q1, q2, q3, q4, (ih _ _ (by omega) (by omega)).mpr q5⟩))
theorem wB_agr (h : wOK C T) (ag : wAgr (Wn C) C C') {a b : Nat} (ha : a < Tn T) (hb : b < Tn T) : wB C' T a b ↔ wB C T a b := wBe_agr h ag b a b ha hb
theorem wTok_agr (h : wTok C T) (hn : Wn C ≤ Wn C') (hg : ∀ c, c < Wn C → Wg C' c = Wg C c) : wTok C' T := by
  refine ⟨h.1, h.2.1, fun i hi => ?_, h.2.2.2⟩
  obtain ⟨m1, m2, h1 | ⟨h0, c, a, h1, h2, h3, h4⟩ | h1 | h1⟩ := h.2.2.1 i hi
  · exact ⟨m1, m2, Or.inl h1⟩
  · exact ⟨m1, m2, Or.inr (Or.inl ⟨h0, c, a, h1, by omega, by rw [hg c h2]; exact h3, h4⟩)⟩
  · exact ⟨m1, m2, Or.inr (Or.inr (Or.inl h1))⟩
  · exact ⟨m1, m2, Or.inr (Or.inr (Or.inr h1))⟩
theorem wOK_dcl (h : wOK C T) (hn : Wn C < 30) (f g : Bool) : wOK (wDcl C f g) T :=
  ⟨wDcl_ok h.1 hn f g, wTok_agr h.2 (Nat.le_succ _) (fun c hc => (wDcl_agr h.1 f g c hc).2.1)⟩
theorem rA_dcl {σ : StA} (h : wOK C T) (f g : Bool) (r : rA σ C T) : rA σ (wDcl C f g) T := by
  have ag := wDcl_agr h.1 f g
  refine ⟨fun a b ha hb => ⟨fun q => ?_, fun q => ?_⟩, r.2⟩
  · obtain ⟨a1, b1, n⟩ := (r.1 a b ha hb).1 q
    exact ⟨a1, b1, fun w => n ((wB_agr h ag a1 b1).mp w)⟩
  · obtain ⟨a1, b1, n⟩ := (r.1 a b ha hb).2 q
    exact ⟨a1, b1, (wB_agr h ag a1 b1).mpr n⟩
theorem rR_dcl {μ ν : StM} (h : wOK C T) (f g : Bool) (r : rR μ C T) (e1 : M_reckoned ν = M_reckoned μ) (e2 : M_below ν = M_below μ) : rR ν (wDcl C f g) T := by
  obtain ⟨k, k1, k2, k3⟩ := r
  refine ⟨k, k1, by rw [e1]; exact k2, fun e x p hx hp => ?_⟩
  have t := k3 e x p hx hp
  unfold tB at t ⊢
  rw [e2, wB_agr h (wDcl_agr h.1 f g) hx hp]
  exact t
end
-- part 08.80.declL.lean.txt
/-! Tier 3: the class's tables get one class more. -/
section
variable {σ : StC} {C : wWc} {t g : Nat}
theorem rC_row {τ : StC} {C' : wWc} {c : Nat} (r : rCr σ C c) (e0 : Wf C' c = Wf C c) (e0' : Wg C' c = Wg C c) (e1 : Wd C' c = Wd C c) (e2 : Wo C' c = Wo C c) (e3 : Wa C' c = Wa C c) (e4 : Wu C' c = Wu C c) (f0 : C_faces τ c = C_faces σ c) (f1 : C_generics τ c = C_generics σ c) (f2 : C_directCounts τ c = C_directCounts σ c) (f3 : ∀ k, k < 30 → C_directs τ (c * 30 + k) = C_directs σ (c * 30 + k) ∧ C_tolds τ (c * 30 + k) = C_tolds σ (c * 30 + k)) (f4 : C_above τ c = C_above σ c) (hd : Wd C c ≤ 30) : rCr τ C' c := by
  obtain ⟨r0, r1, r2, r3, r4⟩ := r
  refine ⟨by rw [f0, e0]; exact r0, by rw [f1, e0']; exact r1, by rw [f2, e1]; exact r2, fun k hk => ?_, fun b hb => by rw [f4, e4]; exact r4 b hb⟩
  rw [e1] at hk
  rw [(f3 k (by omega)).1, (f3 k (by omega)).2, e2, e3]
  exact r3 k hk
theorem vp_b {x : Int32} {w : Bool} (h : x = b2 w) : vp_nar .boolean x = b2 w := by
  rw [h]; cases w <;> decide
theorem r_C_add (h : wCok C t) (r : rC σ C g) (hn : Wn C < 30) {x1 x2 : Int32} {f1 f2 : Bool} (e1 : x1 = b2 f1) (e2 : x2 = b2 f2) : k_pc (f_C_add σ x1 x2) (fun q => q.1 = nI (Wn C) ∧ rC q.2 (wDcl C f1 f2) (if f2 = true then g + 1 else g)) := by
  have n13 := h.1
  obtain ⟨r1, r2, r3, r4⟩ := r
  have cl : (C_count σ).toNatClampNeg = Wn C := by rw [r1]; exact nI_clamp (by omega)
  have hdc : ∀ c, c < Wn C → Wd C c ≤ 30 := fun c hc => by have := (h.2.2.1 c hc).1; omega
  have key : ∀ (τ : StC) (w : Nat), C_count τ = nI (Wn C + 1) → C_countGeneric τ = nI w → C_faces τ = upd (C_faces σ) (Wn C) (b2 f1) → C_generics τ = upd (C_generics σ) (Wn C) (b2 f2) → C_directCounts τ = C_directCounts σ → C_directs τ = C_directs σ → C_tolds τ = C_tolds σ → C_above τ = C_above σ → k_pc (f_C_add_54 τ (nI (Wn C))) (fun q => q.1 = nI (Wn C) ∧ rC q.2 (wDcl C f1 f2) w) := by
    intro τ w t1 t2 t3 t4 t5 t6 t7 t8
    have th : ∀ (ρ : StC), C_count ρ = nI (Wn C + 1) → ∀ j, j ≤ Wn C → ¬ f_C_isThere ρ (nI j) = 0 := by
      intro ρ hρ j hj
      unfold f_C_isThere
      rw [if_neg (nI_pos (by omega)), hρ, if_neg (by rw [nI_leI (by omega) (by omega)]; omega)]
      decide
    unfold f_C_add_54
    refine p_if (fun z => ?_) (fun _ => ?_)
    · have z2 : nI (Wn C) = nI 0 := z
      rw [nI_eq (by omega) (by decide)] at z2
      omega
    have cN : (nI (Wn C)).toNatClampNeg = Wn C := nI_clamp (by omega)
    have cI : (nI (Wn C) * 30 + 0).toNatClampNeg = Wn C * 30 := by
      have : nI (Wn C) * 30 + nI 0 = nI (Wn C * 30 + 0) := k_ix30
      show (nI (Wn C) * 30 + nI 0).toNatClampNeg = _
      rw [this]; exact nI_clamp (by omega)
    refine p_bind (P := fun q => rC q.2 (wDcl C f1 f2) w) ?_ (fun q hq => p_some ⟨rfl, hq⟩)
    unfold f_C_write
    refine p_if (fun z => absurd z (th τ t1 _ (Nat.le_refl _))) (fun _ => ?_)
    refine p_if (fun z => absurd z (th τ t1 0 (by omega))) (fun _ => ?_)
    refine p_if (fun z => absurd z (by decide)) (fun _ => p_if (fun _ => ?_) (fun z => absurd (by decide) z))
    refine p_guard (fun _ => p_guard (fun _ => p_guard (fun _ => p_guard (fun _ => p_guard (fun _ => ?_)))))
    have fin : ∀ (ρ : StC) (v : Int32), C_count ρ = C_count τ → C_countGeneric ρ = C_countGeneric τ → C_faces ρ = C_faces τ → C_generics ρ = C_generics τ → C_directs ρ = upd (C_directs τ) (Wn C * 30) 0 → C_tolds ρ = upd (C_tolds τ) (Wn C * 30) (-1) → C_directCounts ρ = upd (C_directCounts τ) (Wn C) 1 → C_above ρ = upd (C_above τ) (Wn C) v → (∀ b, b < 32 → bt v b = decide (b = 0)) → rC ρ (wDcl C f1 f2) w := by
      intro ρ v u1 u2 u3 u4 u5 u6 u7 u8 u9
      refine ⟨u1.trans t1, u2.trans t2, fun c hc => ?_, fun c hc hc2 => ?_⟩
      · replace hc : c < Wn C + 1 := hc
        by_cases e : c = Wn C
        · subst e
          have a1 : Wf (wDcl C f1 f2) (Wn C) = f1 := wUp_s
          have a2 : Wg (wDcl C f1 f2) (Wn C) = f2 := wUp_s
          have a3 : Wd (wDcl C f1 f2) (Wn C) = 1 := wUp_s
          have a4 : Wo (wDcl C f1 f2) (Wn C) = fun _ => 0 := wUp_s
          have a5 : Wa (wDcl C f1 f2) (Wn C) = fun _ => 0 := wUp_s
          have a6 : Wu (wDcl C f1 f2) (Wn C) = fun b => decide (b = 0) := wUp_s
          refine ⟨?_, ?_, ?_, fun k hk => ?_, fun b hb => ?_⟩
          · rw [u3, t3, k_upds, a1]
          · rw [u4, t4, k_upds, a2]
          · rw [u7, k_upds, a3]; rfl
          · rw [a3] at hk
            have k0 : k = 0 := by omega
            subst k0
            rw [u5, u6, Nat.add_zero, k_upds, k_upds, a4, a5]
            exact ⟨rfl, rfl⟩
          · rw [u8, k_upds, a6]; exact u9 b hb
        · have hc' : c < Wn C := by omega
          refine rC_row (r3 c hc') (wUp_n e) (wUp_n e) (wUp_n e) (wUp_n e) (wUp_n e) (wUp_n e) ?_ ?_ ?_ (fun k hk => ⟨?_, ?_⟩) ?_ (hdc c hc')
          · rw [u3, t3, k_updn e]
          · rw [u4, t4, k_updn e]
          · rw [u7, k_updn e, t5]
          · rw [u5, k_updn (by omega), t6]
          · rw [u6, k_updn (by omega), t7]
          · rw [u8, k_updn e, t8]
      · replace hc : Wn C + 1 ≤ c := hc
        have := r4 c (by omega) hc2
        rw [u7, u8, k_updn (by omega), k_updn (by omega), t5, t8]
        exact this
    have w0 : ∀ ρ : StC, C_count ρ = C_count τ → C_above ρ = C_above τ → ∃ v, f_C_withAbove ρ 0 = some v ∧ ∀ b, b < 32 → bt v b = decide (b = 0) := by
      intro ρ u1 u2
      refine ⟨C_above ρ 0 ||| ((1 : Int32) <<< (nI 0 &&& 31)), ?_, fun b hb => ?_⟩
      · unfold f_C_withAbove
        have q := th ρ (u1.trans t1) 0 (by omega)
        have q' : ¬ f_C_isThere ρ 0 = 0 := q
        rw [if_neg q', if_neg (by decide)]
        rfl
      · rw [b_or, k_shl1 0 (by decide) hb, u2, t8, (r3 0 (by omega)).2.2.2.2 b hb]
        cases e : Wu C 0 b with
        | false => rfl
        | true => have := wUp_lt h 0 b (by omega) e; omega
    obtain ⟨v, v1, v2⟩ := w0 (C_put_directCounts (C_put_tolds (C_put_directs τ (nI (Wn C) * 30 + 0) 0) (nI (Wn C) * 30 + 0) (-1)) (nI (Wn C)) (if ((C_directCounts (C_put_tolds (C_put_directs τ (nI (Wn C) * 30 + 0) 0) (nI (Wn C) * 30 + 0) (-1))) (nI (Wn C)).toNatClampNeg) < ((0 : Int32) + 1) then ((0 : Int32) + 1) else ((C_directCounts (C_put_tolds (C_put_directs τ (nI (Wn C) * 30 + 0) 0) (nI (Wn C) * 30 + 0) (-1))) (nI (Wn C)).toNatClampNeg))) rfl rfl
    rw [v1]
    refine p_guard (fun _ => p_some ?_)
    have dc : C_directCounts τ (Wn C) = 0 := by rw [t5]; exact (r4 (Wn C) (Nat.le_refl _) hn).1
    have ab : C_above τ (Wn C) = 0 := by rw [t8]; exact (r4 (Wn C) (Nat.le_refl _) hn).2
    refine fin _ (0 ||| v) rfl rfl rfl rfl ?_ ?_ ?_ ?_ (fun b hb => by rw [b_or, b_0, Bool.false_or]; exact v2 b hb)
    · show upd (C_directs τ) (nI (Wn C) * 30 + 0).toNatClampNeg 0 = _
      rw [cI]
    · show upd (C_tolds τ) (nI (Wn C) * 30 + 0).toNatClampNeg (-1) = _
      rw [cI]
    · show upd (C_directCounts τ) (nI (Wn C)).toNatClampNeg (if C_directCounts τ (nI (Wn C)).toNatClampNeg < ((0 : Int32) + 1) then ((0 : Int32) + 1) else C_directCounts τ (nI (Wn C)).toNatClampNeg) = _
      rw [cN, dc]; rfl
    · show upd (C_above τ) (nI (Wn C)).toNatClampNeg (C_above τ (nI (Wn C)).toNatClampNeg ||| v) = _
      rw [cN, ab]
  unfold f_C_add
  rw [vp_b e1, vp_b e2, r1, nI_1]
  refine p_if (fun _ => p_guard (fun _ => p_guard (fun _ => ?_))) (fun z => ?_)
  · refine p_if (fun z => ?_) (fun z => ?_)
    · have ef : f2 = false := b2_0.mp (e2.symm.trans z)
      rw [ef, if_neg (by decide)]
      have base := key (C_put_generics (C_put_faces (C_set_count σ (nI (Wn C + 1))) (nI (Wn C)) (b2 f1)) (nI (Wn C)) (b2 f2)) g rfl r2 (by show upd (C_faces σ) (nI (Wn C)).toNatClampNeg _ = _; rw [nI_clamp (by omega)]) (by show upd (C_generics σ) (nI (Wn C)).toNatClampNeg _ = _; rw [nI_clamp (by omega)]) rfl rfl rfl rfl
      rw [ef] at base
      exact base
    · have ef : f2 = true := by
        cases f2 with
        | true => rfl
        | false => exact absurd e2 z
      rw [ef, if_pos rfl]
      have base := key (C_set_countGeneric (C_put_generics (C_put_faces (C_set_count σ (nI (Wn C + 1))) (nI (Wn C)) (b2 f1)) (nI (Wn C)) (b2 f2)) (C_countGeneric σ + 1)) (g + 1) rfl (by show C_countGeneric σ + 1 = _; rw [r2]; exact nI_1 g) (by show upd (C_faces σ) (nI (Wn C)).toNatClampNeg _ = _; rw [nI_clamp (by omega)]) (by show upd (C_generics σ) (nI (Wn C)).toNatClampNeg _ = _; rw [nI_clamp (by omega)]) rfl rfl rfl rfl
      rw [ef] at base
      exact base
  · exact absurd (nI_lt hn (by decide)) z
end
