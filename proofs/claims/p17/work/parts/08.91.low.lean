/-! Tier 3: side by side: lower. -/
def fLow2 (r7 : Int32 × StL) : Option ((Int32 ⊕ Nat) × StL × Nat × Nat) :=
  if r7.1 = 0 then some (.inl (-1), r7.2, 0, 0) else
  (f_T_makeIntersection (90, (L_row r7.2)) (L_types r7.2) 0 r7.1).bind fun r8 => ad_ r8.2.2.1 r8.2.2.2 <| match r8.1 with
  | .inr e => some (.inr e, (L_set_types r7.2 r8.2.1), 0, 0)
  | .inl r8v =>
  (f_L_settled (L_set_types r7.2 r8.2.1) r8v).bind fun r9 => ad_ r9.2.2.1 r9.2.2.2 <| match r9.1 with
  | .inr e => some (.inr e, r9.2.1, 0, 0)
  | .inl r9v =>
  some (.inl r9v, r9.2.1, 0, 0)
def fLow1 (τ : StL) (x1 x2 : Int32) : Option ((Int32 ⊕ Nat) × StL × Nat × Nat) :=
  (f_L_gatherParts τ x1 x2).bind fun r5 =>
  (f_L_dropNeedless r5.2 r5.1).bind fun r6 =>
  (f_L_orderByClass r6.2 r6.1).bind fun r7 => fLow2 r7
section
variable {σ : StL} {μ : StM} {C : wWc} {T : wWt} {g d : Nat}
theorem p_addBoth2 {σ : StM} (h : wOK C T) (r : rMc σ C g) (q : rMt σ T) (hf : M_full σ = 0) {m : List Nat} (hm : ∀ p, p ∈ m → 8 ≤ p ∧ p < Tn T ∧ dK (Ty T p) = 1) (hN : m.length ≤ 30) (hr : ∀ k (hk : k < m.length), M_row σ k = nI m[k]) (hd : ∀ j k (hj : j < m.length) (hk : k < m.length), dX (Ty T m[j]) = dX (Ty T m[k]) → j = k) :
    k_pc (f_M_addBoth σ (nI m.length)) (fun r => ∃ l, wSo T l m ∧ l.length = m.length ∧ pAd σ (Tn T) (wAdd T (3, 0, 0, l) (1 + wSum T l)) r) := by
  have hrow : kRow σ (Tn T) (M_row σ) m.length := by
    intro j hj
    obtain ⟨p1, p2, p3⟩ := hm m[j] (List.getElem_mem hj)
    refine ⟨m[j], p1, p2, hr j hj, ?_⟩
    rw [(q.2 _ p2).1, p3]; rfl
  refine p_mono (p_ok (p_and (s_M_addBoth (kM_of h r q) hN hrow) (r_M_addBoth h q hf (m := m) (fun p hp => ⟨(hm p hp).2.1, (hm p hp).2.2⟩) hN hr hd))) ?_
  rintro z ⟨⟨z1, z2, _⟩, l', w1, w2, w3⟩
  exact ⟨l', w1, w2, z1, z2, w3⟩
theorem wAl_len {m : List Nat} (h : wOK C T) (hm : ∀ p, p ∈ m → 8 ≤ p ∧ p < Tn T ∧ dK (Ty T p) = 1) (ha : wAl C T m) : m.length ≤ 30 ∧ ∀ j k (hj : j < m.length) (hk : k < m.length), dX (Ty T m[j]) = dX (Ty T m[k]) → j = k := by
  have hn := h.1.2.1
  have pw := List.pairwise_iff_getElem.mp ha.1
  have inj : ∀ j k (hj : j < m.length) (hk : k < m.length), dX (Ty T m[j]) = dX (Ty T m[k]) → j = k := by
    intro j k hj hk e
    rcases Nat.lt_trichotomy j k with w | w | w
    · exact absurd e (pw j k hj hk w)
    · exact w
    · exact absurd e.symm (pw k j hk hj w)
  refine ⟨?_, inj⟩
  refine k_pigeon 30 m.length (fun k => dX (Ty T (m.getD k 0))) (fun k hk => ?_) (fun k l kl hl e => ?_)
  · obtain ⟨_, p2, p3⟩ := hm _ (getD_mem hk)
    have := (wT_named h.2 p2 p3).2.1
    show dX (Ty T (m.getD k 0)) < 30
    omega
  · have e' : dX (Ty T m[k]) = dX (Ty T m[l]) := by rw [← getD_is (show k < m.length by omega), ← getD_is hl]; exact e
    have := inj k l (by omega) hl e'
    omega
theorem wSo_lok {l m : List Nat} (hm : ∀ p, p ∈ m → 8 ≤ p ∧ p < Tn T ∧ dK (Ty T p) = 1) (h : wOK C T) (hl : l.length ≤ 30) (hs : wSo T l m) : wLok T 30 l := by
  have hn := h.1.2.1
  refine ⟨hl, fun p hp => ?_, fun j k hj hk jk => List.pairwise_iff_getElem.mp hs.1 j k hj hk jk⟩
  obtain ⟨p1, p2, p3⟩ := hm p ((hs.2 p).mp hp)
  have := (wT_named h.2 p2 p3).2.1
  exact ⟨p1, p2, p3, by omega⟩
theorem p_int {ρ : StL} (h : RW C g T d) (hρ : RL ρ C g T d) {L : List Nat} (hlok : wLok T 30 L) (h2 : 2 ≤ L.length) (hrow : vFn (L_row ρ) L) (hx : wOx C T (wInt T L)) : k_pc (fLow2 (nI L.length, ρ)) (fun q => q.1 = oL (wInt T L) ∧ RL q.2.1 C g (oT T (wInt T L)) d) := by
  have c30 := hlok.1
  have key := r_T_makeIntersection (σ := L_types ρ) (T0 := T) (pa := (90, L_row ρ)) (s := 0) (l := L) h.1 hρ.1.2 ⟨rfl, by omega, fun k hk => by show L_row ρ (0 + k) = _; rw [Nat.zero_add, hrow k hk, getD_is hk]⟩ (fun p hp => (hlok.2.1 p hp).2.1) c30 (by omega)
  revert key hx
  generalize wInt T L = o
  intro hx key
  unfold fLow2
  refine p_if (fun z => ?_) (fun _ => ?_)
  · have z2 : nI L.length = nI 0 := z
    rw [nI_eq (by omega) (by decide)] at z2
    omega
  · refine p_bind key ?_
    rintro ⟨w, τ8, K, N⟩ ⟨v, e, hv⟩
    replace e : w = .inl v := e
    have hv' : rNw (L_types ρ) T o (v, τ8) := hv
    subst e
    refine p_ad ?_
    exact p_settled (τ := L_set_types ρ τ8) h.1 hρ.1.1 hρ.2.1 hρ.2.2 (rUv_nw hρ.1.2 hv') hx
theorem p_intM {κ : StM} (h : RW C g T d) (k1 : RM κ C g T d) (k2 : M_code κ = 0) {m L : List Nat} (mok : ∀ p, p ∈ m → 8 ≤ p ∧ p < Tn T ∧ dK (Ty T p) = 1) (m30 : m.length ≤ 30) (minj : ∀ j k (hj : j < m.length) (hk : k < m.length), dX (Ty T m[j]) = dX (Ty T m[k]) → j = k) (hrow : vFn (M_row κ) m) (hso : wSo T L m) (h2 : 2 ≤ L.length) (hx : wOx C T (wInt T L)) : k_pc ((f_M_addBoth κ (nI m.length)).bind fun r3 => (f_M_end r3.2 (M_types κ) r3.1 2).bind fun r4 => some (r4.1, r4.2)) (fun z => RO (fun e => if e = 1 then 1 else 2) (oL (wInt T L)) z ∧ RM z.2 C g (oT T (wInt T L)) d) := by
  have key := p_addBoth2 (σ := κ) h.1 k1.1 k1.2.1 k1.2.2.2.1 mok m30 (fun k hk => by rw [hrow k hk, getD_is hk]) minj
  have et : M_types κ = nI (Tn T) := k1.2.1.1
  rw [et]
  refine p_bind key ?_
  rintro ⟨w, ν⟩ ⟨l', s1, s2, ⟨bb, eb⟩, ag, hw⟩
  replace eb : ν = mB κ bb := eb
  have el : l' = L := wSo_uniq s1 hso
  subst el
  rw [← wInt_many h2] at hw
  revert hw hx
  generalize wInt T l' = o
  intro hw hx
  exact p_bind (p_endM h.1 k1 (by rw [eb]; exact pKe_mB _ bb) ag hx (pEd_mw hw) k2 rfl) (fun r hr => p_some hr)
theorem R_lower (h : RW C g T d) (hL : RL σ C g T d) (hM : RM μ C g T d) (x1 x2 : Int32) : RQ (fun e => if e = 1 then 1 else 2) d (f_L_lower σ x1 x2) (f_M_lower μ x1 x2) := by
  have hn := RW_not h
  have bad : k_pc (f_M_lower_21 μ x1 x2) (fun q => M_code q.2 = 1 ∧ RM q.2 C g T d) := by
    unfold f_M_lower_21 f_M_lower_22
    refine p_good (fun q => absurd q (by decide)) (fun _ => ?_)
    exact p_if (fun _ => p_some ⟨rfl, hM⟩) (fun q => absurd rfl q)
  by_cases h1 : ∃ j, j < Tn T ∧ x1 = nI j
  · obtain ⟨a, ha, rfl⟩ := h1
    by_cases h2 : ∃ j, j < Tn T ∧ x2 = nI j
    · obtain ⟨b, hb, rfl⟩ := h2
      have cab : (300 * nI a + nI b).toNatClampNeg = 300 * a + b := by rw [k_300ix]; exact nI_clamp (by omega)
      have cba : (300 * nI b + nI a).toNatClampNeg = 300 * b + a := by rw [k_300ix]; exact nI_clamp (by omega)
      have ca : (nI a).toNatClampNeg = a := nI_clamp (by omega)
      have cb : (nI b).toNatClampNeg = b := nI_clamp (by omega)
      have pla := wPs_len h.1.2 ha
      have plb := wPs_len h.1.2 hb
      have pca := wPc_le h.1.2 ha
      have pcb := wPc_le h.1.2 hb
      -- the class: the two tests
      have ltest : ∀ {Q : (Int32 ⊕ Nat) × StL × Nat × Nat → Prop}, (wB C T a b → ∀ τ, RL τ C g T d → Q (.inl (nI a), τ, 0 + 0 + 0, 0 + 0 + 0)) → (¬ wB C T a b → wB C T b a → ∀ τ, RL τ C g T d → Q (.inl (nI b), τ, 0 + 0 + 0, 0 + 0 + 0)) →
          (¬ wB C T a b → ¬ wB C T b a → ∀ τ, RL τ C g T d → k_pc (fLow1 τ (nI a) (nI b)) (fun r => Q (r.1, r.2.1, r.2.2.1 + 0 + 0, r.2.2.2 + 0 + 0))) → k_pc (f_L_lower σ (nI a) (nI b)) Q := by
        intro Q q1 q2 q3
        unfold f_L_lower
        refine p_rt (fun z => absurd z (rT_there h.1.2 hL.1.2 ha)) (fun _ => p_ad ?_)
        refine p_rt (fun z => absurd z (rT_there h.1.2 hL.1.2 hb)) (fun _ => p_ad ?_)
        refine p_bind (r_L_liesBelow h.1 101 σ a b 100 hL.1 hL.2.1 ha hb (h.1.2.2.2.1 b hb).2.1 (Nat.le_refl _)) ?_
        rintro ⟨v, τ⟩ ⟨v0, v1, A, eA, rA'⟩
        replace eA : τ = L_set_answers σ A := eA
        subst eA
        have hL2 : RL (L_set_answers σ A) C g T d := ⟨hL.1, rA', hL.2.2⟩
        refine p_if (fun z => ?_) (fun z => p_some ?_)
        · have nb : ¬ wB C T a b := fun w => by
            have w2 := v1.mpr w
            replace z : v = 0 := z
            replace w2 : v = 1 := w2
            rw [z] at w2; exact absurd w2 (by decide)
          refine p_bind (r_L_liesBelow h.1 101 (L_set_answers σ A) b a 100 hL2.1 hL2.2.1 hb ha (h.1.2.2.2.1 a ha).2.1 (Nat.le_refl _)) ?_
          rintro ⟨v', τ'⟩ ⟨v0', v1', A', eA', rA''⟩
          replace eA' : τ' = L_set_answers (L_set_answers σ A) A' := eA'
          subst eA'
          have hL3 : RL (L_set_answers (L_set_answers σ A) A') C g T d := ⟨hL.1, rA'', hL.2.2⟩
          refine p_if (fun z' => ?_) (fun z' => p_some ?_)
          · have nb' : ¬ wB C T b a := fun w => by
              have w2 := v1'.mpr w
              replace z' : v' = 0 := z'
              replace w2 : v' = 1 := w2
              rw [z'] at w2; exact absurd w2 (by decide)
            exact q3 nb nb' _ hL3
          · have yb : wB C T b a := v1'.mp (by
              rcases v0' with e | e
              · exact absurd e z'
              · exact e)
            exact q2 nb yb _ hL3
        · have yb : wB C T a b := v1.mp (by
            rcases v0 with e | e
            · exact absurd e z
            · exact e)
          exact q1 yb _ hL2
      -- the reference: the same
      have rtest : ∀ {Q : Int32 × StM → Prop}, (wB C T a b → ∀ κ, RM κ C g T d → M_code κ = 0 → Q (nI a, κ)) → (¬ wB C T a b → wB C T b a → ∀ κ, RM κ C g T d → M_code κ = 0 → Q (nI b, κ)) →
          (¬ wB C T a b → ¬ wB C T b a → ∀ κ, RM κ C g T d → M_code κ = 0 → (∀ x p, x < Tn T → p < Tn T → tB (M_below κ) C T x p) → k_pc (if M_partCount κ a = 0 then some ((-1 : Int32), κ) else if nI b < 0 ∨ 300 ≤ b then none else if M_partCount κ b = 0 then some ((-1 : Int32), κ) else f_M_lower_125 1000 κ (nI a) (nI b) (M_partCount κ a + M_partCount κ b) 0 0) Q) → k_pc (f_M_lower μ (nI a) (nI b)) Q := by
        intro Q q1 q2 q3
        unfold f_M_lower
        rw [if_neg (R_isType h hM ha), if_neg (R_isType h hM hb)]
        unfold f_M_lower_22
        refine p_good (fun _ => ?_) (fun q => absurd rfl q)
        refine p_if (fun q => absurd q k_10) (fun _ => ?_)
        refine p_bind (p_reck h hM) ?_
        rintro ⟨v, κ⟩ ⟨k1, k2, k3⟩
        replace k1 : RM κ C g T d := k1
        replace k2 : M_code κ = 0 := k2
        replace k3 : ∀ x p, x < Tn T → p < Tn T → tB (M_below κ) C T x p := k3
        have l64 : (wB C T a b ∨ wB C T b a) → k_pc (f_M_lower_64 κ (nI a) (nI b)) Q := by
          intro hw
          unfold f_M_lower_64
          refine p_guard (fun _ => ?_)
          rw [cab]
          refine p_if (fun z => p_some ?_) (fun z => p_some (q1 (tB_ye (k3 a b ha hb) z) κ k1 k2))
          have nb := tB_no (k3 a b ha hb) z
          exact q2 nb (hw.resolve_left nb) κ k1 k2
        refine p_guard (fun _ => ?_)
        show k_pc (if M_below κ (300 * nI a + nI b).toNatClampNeg = 0 then _ else _) _
        rw [cab]
        refine p_if (fun z => ?_) (fun z => l64 (Or.inl (tB_ye (k3 a b ha hb) z)))
        refine p_guard (fun _ => ?_)
        rw [cba]
        refine p_if (fun z' => ?_) (fun z' => l64 (Or.inr (tB_ye (k3 b a hb ha) z')))
        refine p_guard (fun _ => p_guard (fun _ => p_guard (fun _ => ?_)))
        rw [ca, cb]
        exact q3 (tB_no (k3 a b ha hb) z) (tB_no (k3 b a hb ha) z') κ k1 k2 k3
      by_cases w1 : wB C T a b
      · refine R_ans h (nI a) (ltest (fun _ τ hτ => ⟨rfl, hτ⟩) (fun q => absurd w1 q) (fun q => absurd w1 q)) (rtest (fun _ κ k1 k2 => ⟨⟨k2, rfl⟩, k1⟩) (fun q => absurd w1 q) (fun q => absurd w1 q))
      by_cases w2 : wB C T b a
      · refine R_ans h (nI b) (ltest (fun q => absurd q w1) (fun _ _ τ hτ => ⟨rfl, hτ⟩) (fun _ q => absurd w2 q)) (rtest (fun q => absurd q w1) (fun _ _ κ k1 k2 => ⟨⟨k2, rfl⟩, k1⟩) (fun _ q => absurd w2 q))
      by_cases w3 : wPs T a = [] ∨ wPs T b = []
      · -- one of them has no PARTS
        refine R_ans h (-1) (ltest (fun q => absurd q w1) (fun _ q => absurd q w2) (fun _ _ τ hτ => ?_)) (rtest (fun q => absurd q w1) (fun _ q => absurd q w2) (fun _ _ κ k1 k2 k3 => ?_))
        · unfold fLow1
          refine p_bind (r_L_gatherParts h.1 hτ.1 ha hb) ?_
          rintro ⟨v, ρ⟩ hq
          have e : (v, ρ) = ((0 : Int32), τ) := by
            rcases hq with ⟨_, e⟩ | ⟨q1, q2, _⟩
            · exact e
            · rcases w3 with w | w
              · exact absurd w q1
              · exact absurd w q2
          cases e
          refine p_bind (r_L_dropNeedless (l := []) h.1 hτ.1 hτ.2.1 (fun k hk => absurd hk (by simp)) (by simp) (fun k hk => absurd hk (by simp))) ?_
          rintro ⟨v6, ρ6⟩ ⟨a1, a2, a3, a4⟩
          replace a1 : v6 = nI (wKl C T [] 0).length := a1
          replace a2 : rLq τ ρ6 := a2
          have e0 : wKl C T [] 0 = [] := rfl
          rw [e0] at a1
          subst a1
          refine p_bind (r_L_orderByClass (m := []) h.1 (rLq_L a2 hτ.1) (fun p hp => absurd hp (by simp)) (by simp) (fun k hk => absurd hk (by simp))) ?_
          rintro ⟨v7, ρ7⟩ ⟨b1, b2', b3⟩
          replace b1 : rLq ρ6 ρ7 := b1
          replace b2' : L_answers ρ7 = L_answers ρ6 := b2'
          have hL7 : RL ρ7 C g T d := by
            refine ⟨rLq_L (rLq_trans a2 b1) hτ.1, ?_, ?_⟩
            · rw [b2']; exact a4
            · rw [b1.1, a2.1]; exact hτ.2.2
          have c0 : (wCr T [] 30).length = 0 := by
            have : ∀ c, wCr T [] c = [] := by
              intro c
              induction c with
              | zero => rfl
              | succ c ih =>
                apply List.eq_nil_iff_forall_not_mem.mpr
                intro p hp
                obtain ⟨k, _, hk⟩ := (wCr_mem (c + 1) p).mp hp
                exact absurd (wFi_some hk).1 (by simp)
            rw [this]; rfl
          have v70 : v7 = 0 := by
            rcases b3 with ⟨_, e⟩ | ⟨_, e, _⟩
            · exact e
            · replace e : v7 = nI (wCr T [] 30).length := e
              rw [e, c0]; rfl
          unfold fLow2
          exact p_if (fun _ => p_some ⟨rfl, hL7⟩) (fun z => absurd v70 z)
        · have pa0 : M_partCount κ a = nI (wPs T a).length := by rw [pla]; exact (k1.2.1.2 a ha).2.2.2.2.2.1
          have pb0 : M_partCount κ b = nI (wPs T b).length := by rw [plb]; exact (k1.2.1.2 b hb).2.2.2.2.2.1
          refine p_if (fun _ => p_some ⟨⟨k2, rfl⟩, k1⟩) (fun z => p_guard (fun _ => p_if (fun _ => p_some ⟨⟨k2, rfl⟩, k1⟩) (fun z' => ?_)))
          rcases w3 with w | w
          · rw [pa0, w] at z; exact absurd rfl z
          · rw [pb0, w] at z'; exact absurd rfl z'
      · have na : wPs T a ≠ [] := fun q => w3 (Or.inl q)
        have nb : wPs T b ≠ [] := fun q => w3 (Or.inr q)
        obtain ⟨l, hl⟩ : ∃ l, l = wPs T a ++ wPs T b := ⟨_, rfl⟩
        have llen : l.length ≤ 60 := by rw [hl, List.length_append]; omega
        obtain ⟨m, hm⟩ : ∃ m, m = wKl C T l l.length := ⟨_, rfl⟩
        have mlen : m.length ≤ 60 := by rw [hm]; exact Nat.le_trans (wKl_len _) llen
        have m2 : 2 ≤ m.length := by rw [hm, hl]; exact wLow_two h.1 ha hb na nb w1 w2
        have mok : ∀ p, p ∈ m → 8 ≤ p ∧ p < Tn T ∧ dK (Ty T p) = 1 := by
          rw [hm, hl]; exact wKl_ok h.1.2 ha hb _ (Nat.le_refl _)
        have lok : ∀ k, k < l.length → l.getD k 0 < Tn T := by
          intro k hk
          have := getD_mem hk
          rw [hl] at this
          rw [hl]
          rcases List.mem_append.mp this with w | w
          · exact (wPs_ok h.1.2 ha w).2.1
          · exact (wPs_ok h.1.2 hb w).2.1
        -- the class comes to the row in the order of the classes
        have lrow : ∀ {Q : (Int32 ⊕ Nat) × StL × Nat × Nat → Prop} (τ : StL), RL τ C g T d → (¬ wAl C T m → ∀ ρ, RL ρ C g T d → Q (.inl (-1), ρ, 0, 0)) → (wAl C T m → ∀ ρ, RL ρ C g T d → vFn (L_row ρ) (wCr T m 30) → k_pc (fLow2 (nI (wCr T m 30).length, ρ)) Q) → k_pc (fLow1 τ (nI a) (nI b)) Q := by
          intro Q τ hτ q1 q2
          unfold fLow1
          refine p_bind (r_L_gatherParts h.1 hτ.1 ha hb) ?_
          rintro ⟨v, ρ⟩ hq
          have e : v = nI l.length ∧ ∃ G', ρ = L_set_gathered τ G' ∧ vFn G' l := by
            rcases hq with ⟨q, _⟩ | ⟨_, _, e1, e2⟩
            · exact absurd q w3
            · rw [hl]; exact ⟨e1, e2⟩
          obtain ⟨ev, G', eρ, hG⟩ := e
          subst ev
          subst eρ
          refine p_bind (r_L_dropNeedless (σ := L_set_gathered τ G') (l := l) h.1 hτ.1 hτ.2.1 lok llen hG) ?_
          rintro ⟨v6, ρ6⟩ ⟨a1, a2, a3, a4⟩
          replace a1 : v6 = nI (wKl C T l l.length).length := a1
          replace a2 : rLq (L_set_gathered τ G') ρ6 := a2
          replace a3 : vFn (L_gathered ρ6) (wKl C T l l.length) := a3
          replace a4 : rA (L_answers ρ6) C T := a4
          rw [← hm] at a1 a3
          subst a1
          have a2' : rLq τ ρ6 := a2
          refine p_bind (r_L_orderByClass (m := m) h.1 (rLq_L a2' hτ.1) (fun p hp => (mok p hp).2) mlen a3) ?_
          rintro ⟨v7, ρ7⟩ ⟨b1, b2', b3⟩
          replace b1 : rLq ρ6 ρ7 := b1
          replace b2' : L_answers ρ7 = L_answers ρ6 := b2'
          have hL7 : RL ρ7 C g T d := by
            refine ⟨rLq_L (rLq_trans a2' b1) hτ.1, ?_, ?_⟩
            · rw [b2']; exact a4
            · rw [b1.1, a2'.1]; exact hτ.2.2
          rcases b3 with ⟨n1, e⟩ | ⟨n1, e, e2⟩
          · unfold fLow2
            exact p_if (fun _ => p_some (q1 n1 ρ7 hL7)) (fun z => absurd e z)
          · replace e : v7 = nI (wCr T m 30).length := e
            subst e
            exact q2 n1 ρ7 hL7 e2
        -- the reference comes to its row
        have rrow : ∀ {Q : Int32 × StM → Prop} (κ : StM), RM κ C g T d → (∀ x p, x < Tn T → p < Tn T → tB (M_below κ) C T x p) → (¬ wAl C T m → ∀ ρ, Q (-1, M_set_row κ ρ)) → (wAl C T m → ∀ ρ, vFn ρ m → k_pc ((f_M_addBoth (M_set_row κ ρ) (nI m.length)).bind fun r3 => (f_M_end r3.2 (M_types (M_set_row κ ρ)) r3.1 2).bind fun r4 => some (r4.1, r4.2)) Q) → k_pc (if M_partCount κ a = 0 then some ((-1 : Int32), κ) else if nI b < 0 ∨ 300 ≤ b then none else if M_partCount κ b = 0 then some ((-1 : Int32), κ) else f_M_lower_125 1000 κ (nI a) (nI b) (M_partCount κ a + M_partCount κ b) 0 0) Q := by
          intro Q κ k1 k3 q1 q2
          have pa0 : M_partCount κ a = nI (wPs T a).length := by rw [pla]; exact (k1.2.1.2 a ha).2.2.2.2.2.1
          have pb0 : M_partCount κ b = nI (wPs T b).length := by rw [plb]; exact (k1.2.1.2 b hb).2.2.2.2.2.1
          have za : (wPs T a).length ≠ 0 := fun q => na (List.eq_nil_of_length_eq_zero q)
          have zb : (wPs T b).length ≠ 0 := fun q => nb (List.eq_nil_of_length_eq_zero q)
          rw [pa0, pb0]
          refine p_if (fun z => ?_) (fun _ => p_guard (fun _ => p_if (fun z => ?_) (fun _ => ?_)))
          · have z2 : nI (wPs T a).length = nI 0 := z
            rw [nI_eq (by omega) (by decide)] at z2
            exact absurd z2 za
          · have z2 : nI (wPs T b).length = nI 0 := z
            rw [nI_eq (by omega) (by decide)] at z2
            exact absurd z2 zb
          · rw [nI_add, ← List.length_append, ← hl]
            refine r_M_l125 (σ := κ) h.1 k1.2.1 k3 ha hb hl ?_ 1000 0 (M_row κ) (by omega) (fun k hk => absurd hk (Nat.not_lt_zero k))
            intro ρ hρ
            rw [← hm] at hρ ⊢
            exact r_M_l252 (σ := M_set_row κ ρ) h.1 k1.1 k1.2.1 (fun p hp => (mok p hp).2) mlen hρ (fun q => q1 q ρ) (fun q => q2 q ρ hρ) 1000 0 (by omega) (fun k j _ hk => by omega)
        by_cases hal : wAl C T m
        · obtain ⟨m30, minj⟩ := wAl_len h.1 mok hal
          have hso : wSo T (wCr T m 30) m := wCr_so hal.1 (fun p hp => by
            obtain ⟨_, p2, p3⟩ := mok p hp
            have := (wT_named h.1.2 p2 p3).2.1
            omega)
          have hlok : wLok T 30 (wCr T m 30) := wSo_lok mok h.1 (wCr_len 30) hso
          -- the reference's row in order has the same number of PARTS
          have hlen2 : 2 ≤ (wCr T m 30).length := by
            have g0 := getD_mem (show 0 < m.length by omega)
            have g1 := getD_mem (show 1 < m.length by omega)
            have i0 := (hso.2 _).mpr g0
            have i1 := (hso.2 _).mpr g1
            have ne : m.getD 0 0 ≠ m.getD 1 0 := by
              rw [getD_is (show 0 < m.length by omega), getD_is (show 1 < m.length by omega)]
              intro q
              have := minj 0 1 (by omega) (by omega) (by rw [q])
              omega
            match hh : wCr T m 30 with
            | [] => rw [hh] at i0; exact absurd i0 (by simp)
            | [p] =>
              rw [hh] at i0 i1
              rw [List.mem_singleton] at i0 i1
              exact absurd (i0.trans i1.symm) ne
            | _ :: _ :: _ => simp
          have hx : wOx C T (wInt T (wCr T m 30)) := by
            intro q e
            obtain ⟨y1, y2, y3, _⟩ := wInt_ok h.1 hlok (fun q => by rw [q] at hlen2; exact absurd hlen2 (by decide)) e
            exact ⟨y1, y2, y3⟩
          refine ⟨oL (wInt T (wCr T m 30)), C, g, oT T (wInt T (wCr T m 30)), RW_ex h hx, ltest (fun q => absurd q w1) (fun _ q => absurd q w2) (fun _ _ τ hτ => ?_), rtest (fun q => absurd q w1) (fun _ q => absurd q w2) (fun _ _ κ k1 k2 k3 => ?_)⟩
          · exact lrow τ hτ (fun q => absurd hal q) (fun _ ρ hρ hrow => p_int h hρ hlok hlen2 hrow hx)
          · exact rrow κ k1 k3 (fun q => absurd hal q) (fun _ ρ hρ => p_intM (κ := M_set_row κ ρ) h k1 k2 mok m30 minj hρ hso hlen2 hx)
        · refine R_ans h (-1) (ltest (fun q => absurd q w1) (fun _ q => absurd q w2) (fun _ _ τ hτ => ?_)) (rtest (fun q => absurd q w1) (fun _ q => absurd q w2) (fun _ _ κ k1 k2 k3 => ?_))
          · exact lrow τ hτ (fun _ ρ hρ => ⟨rfl, hρ⟩) (fun q => absurd q hal)
          · have k1' : ∀ ρ, RM (M_set_row κ ρ) C g T d := fun _ => k1
            exact rrow κ k1 k3 (fun _ ρ => ⟨⟨k2, rfl⟩, k1' ρ⟩) (fun q => absurd q hal)
    · refine R_thr h 1 ?_ ?_
      · unfold f_L_lower
        refine p_rt (fun z => absurd z (rT_there h.1.2 hL.1.2 ha)) (fun _ => p_ad ?_)
        exact p_rt (fun _ => p_ad (p_some ⟨rfl, hL⟩)) (fun z => absurd (rT_not h.1.2 hL.1.2 h2) z)
      · unfold f_M_lower
        rw [if_neg (R_isType h hM ha), if_pos (R_noType h hM h2)]
        exact bad
  · refine R_thr h 1 ?_ ?_
    · unfold f_L_lower
      exact p_rt (fun _ => p_ad (p_some ⟨rfl, hL⟩)) (fun z => absurd (rT_not h.1.2 hL.1.2 h1) z)
    · unfold f_M_lower
      rw [if_pos (R_noType h hM h1)]
      exact bad
end
