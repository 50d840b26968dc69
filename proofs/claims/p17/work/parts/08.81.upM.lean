/-! Tier 3: the reference's upper: what a bound leaves, the frames. -/
def pKe (σ τ : StM) : Prop := (M_face τ = M_face σ ∧ M_below τ = M_below σ ∧ M_reckoned τ = M_reckoned σ ∧ M_code τ = M_code σ) ∧ kA σ τ
theorem pKe_refl (σ : StM) : pKe σ σ := ⟨⟨rfl, rfl, rfl, rfl⟩, kA_refl σ⟩
theorem pKe_trans {σ τ ρ : StM} (h1 : pKe σ τ) (h2 : pKe τ ρ) : pKe σ ρ := ⟨⟨h2.1.1.trans h1.1.1, h2.1.2.1.trans h1.1.2.1, h2.1.2.2.1.trans h1.1.2.2.1, h2.1.2.2.2.trans h1.1.2.2.2⟩, kA_trans h1.2 h2.2⟩
theorem pKe_mB (σ : StM) (b : StB) : pKe σ (mB σ b) := ⟨⟨rfl, rfl, rfl, rfl⟩, rfl, rfl, rfl, rfl, rfl, rfl, rfl, rfl⟩
theorem pKe_mF (σ : StM) (a h g : Int32) : pKe σ (mF σ a h g) := ⟨⟨rfl, rfl, rfl, rfl⟩, rfl, rfl, rfl, rfl, rfl, rfl, rfl, rfl⟩
theorem rMc_ke {σ τ : StM} {C : wWc} {g : Nat} (r : rMc σ C g) (k : pKe σ τ) : rMc τ C g := by
  obtain ⟨⟨f1, _⟩, k1, k2, k3, k4, k5, k6, k7, k8⟩ := k
  obtain ⟨r1, r2, r3⟩ := r
  refine ⟨k3.trans r1, k1.trans r2, fun c hc => ?_⟩
  obtain ⟨a1, a2, a3, a4, a5⟩ := r3 c hc
  refine ⟨by rw [f1]; exact a1, by rw [k4]; exact a2, by rw [k5]; exact a3, fun k hk => ?_, fun b hb => ?_⟩
  · rw [k6, k7]; exact a4 k hk
  · rw [k8]; exact a5 b hb
theorem rMt_ag {σ τ : StM} {C : wWc} {T : wWt} (h : wTok C T) (q : rMt σ T) (ha : kAg (Tn T) σ τ) (e : M_types τ = nI (Tn T)) : rMt τ T :=
  ⟨e, fun i hi => rMtr_eq (q.2 i hi) (ha i hi) rfl rfl (by rw [wPs_len h hi]; exact wPc_le h hi)⟩
def pGo (σ τ : StM) (t h : Nat) : Prop := pKe σ τ ∧ kAg t σ τ ∧ kSt h σ τ
theorem pGo_refl (σ : StM) (t h : Nat) : pGo σ σ t h := ⟨pKe_refl σ, kAg_refl t σ, kSt_refl h σ⟩
theorem pGo_trans {σ τ ρ : StM} {t t' h h' : Nat} (h1 : pGo σ τ t h) (h2 : pGo τ ρ t' h') (ht : t ≤ t') (hh : h ≤ h') : pGo σ ρ t h := ⟨pKe_trans h1.1 h2.1, kAg_trans h1.2.1 h2.2.1 ht, kSt_trans h1.2.2 h2.2.2 hh⟩
def pOu (h : Nat) (o : Option (Nat × wWt)) (τ : StM) : Prop := match o with
  | none => M_full τ = 1
  | some q => M_full τ = 0 ∧ rMt τ q.2 ∧ M_high τ = nI h ∧ M_answer τ = nI q.1
/-- a bound is told, or it was too much -/
def pDn (σ : StM) (T : wWt) (h : Nat) (o : Option (Nat × wWt)) (τ : StM) : Prop := pGo σ τ (Tn T) h ∧ pOu h o τ
theorem pDn_trans {σ τ σ' : StM} {T T' : wWt} {h : Nat} {o : Option (Nat × wWt)} (hg : pGo σ τ (Tn T) h) (ht : Tn T ≤ Tn T') (h2 : pDn τ T' h o σ') : pDn σ T h o σ' := ⟨pGo_trans hg h2.1 ht (Nat.le_refl h), h2.2⟩
/-- the loop, from a state on -/
def pU (x : Int32) (Q : Int32 × StM → Prop) (σ : StM) : Prop := ∀ F, k_pc (f_M_upper_50 F σ x) Q
theorem p_turn {σ : StM} {h : Nat} {x : Int32} {Q : Int32 × StM → Prop} (e : M_high σ = nI (h + 1)) (hh : h < 400) (hf : M_full σ = 0)
    (h0 : M_stage σ h = 0 → k_pc (f_M_begin σ (nI h)) (fun r => pU x Q r.2))
    (h1 : M_stage σ h = 1 → k_pc (f_M_addArray σ (M_answer σ)) (fun r5 => k_pc (f_M_tell r5.2 r5.1) (fun r => pU x Q r.2)))
    (h2 : M_stage σ h = 2 → k_pc (f_M_goOn σ (nI h)) (fun r => pU x Q r.2))
    (h3 : ¬ M_stage σ h = 0 → ¬ M_stage σ h = 1 → ¬ M_stage σ h = 2 → k_pc (f_M_addNamed (M_put_stage σ (nI h) 2) ((M_at (M_put_stage σ (nI h) 2)) (nI h).toNatClampNeg) 2 (M_answer (M_put_stage σ (nI h) 2))) (fun r8 => k_pc (f_M_keep r8.2 (nI h) r8.1) (fun r => pU x Q r.2))) :
    pU x Q σ := by
  have e1 : M_high σ - 1 = nI h := by rw [e]; exact nI_pred h
  have ch : (nI h).toNatClampNeg = h := nI_clamp (by omega)
  intro F
  cases F with
  | zero => exact p_none
  | succ F =>
    rw [f_M_upper_50]
    unfold f_M_upper_50_s
    rw [e1]
    refine p_if (fun q => ?_) (fun _ => ?_)
    · have q2 : nI (h + 1) ≤ nI 0 := by rw [← e]; exact q
      rw [nI_leI (by omega) (by decide)] at q2
      omega
    refine p_if (fun _ => ?_) (fun q => absurd hf q)
    refine p_guard (fun _ => ?_)
    refine p_if (fun q => p_bind (h0 (by rw [ch] at q; exact q)) (fun r hr => hr F)) (fun q0 => ?_)
    refine p_if (fun q => p_bind (h1 (by rw [ch] at q; exact q)) (fun r hr => p_bind hr (fun r hr => hr F))) (fun q1 => ?_)
    refine p_if (fun q => p_bind (h2 (by rw [ch] at q; exact q)) (fun r hr => hr F)) (fun q2 => ?_)
    rw [ch] at q0 q1 q2
    exact p_guard (fun _ => p_guard (fun _ => p_bind (h3 q0 q1 q2) (fun r hr => p_bind hr (fun r hr => hr F))))
section
variable {σ : StM} {C : wWc} {T : wWt} {g : Nat}
theorem wOk_own (r : rMc σ C g) {c a t : Nat} (hc : c < Wn C) (ho : wOk t (Wg C c) a) : kOwn t (M_generic σ c) (wH a) (wTd a) := by
  have eg := (r.2.2 c hc).2.1
  rcases ho with ⟨h1, h2⟩ | ⟨h1, x, x1, x2, x3⟩
  · rw [eg, h1, h2]; exact Or.inl ⟨rfl, rfl, rfl⟩
  · rw [eg, h1, wTd_x x3]
    refine Or.inr ⟨rfl, ?_, x, x1, x2, rfl⟩
    rcases x3 with e | e
    · exact Or.inl (wH_x e)
    · exact Or.inr (wH_y e)
/-- what adding a type leaves -/
def pAd (σ : StM) (t : Nat) (o : Option (Nat × wWt)) (r : Int32 × StM) : Prop := (∃ b, r.2 = mB σ b) ∧ kAg t σ r.2 ∧ rMw o r
theorem p_addNamed (h : wOK C T) (r : rMc σ C g) (q : rMt σ T) (hf : M_full σ = 0) {c a : Nat} (hc : c < Wn C) (ho : wOk (Tn T) (Wg C c) a) : k_pc (f_M_addNamed σ (nI c) (wH a) (wTd a)) (pAd σ (Tn T) (wNm T c a)) :=
  p_mono (p_ok (p_and (s_M_addNamed (kM_of h r q) hc (wOk_own r hc ho)) (r_M_addNamed h q hf hc ho))) (fun _ hz => ⟨hz.1.1, hz.1.2.1, hz.2⟩)
theorem p_addArray (h : wOK C T) (r : rMc σ C g) (q : rMt σ T) (hf : M_full σ = 0) {e : Nat} (he : e < Tn T) : k_pc (f_M_addArray σ (nI e)) (pAd σ (Tn T) (wArr (e, T))) :=
  p_mono (p_ok (p_and (s_M_addArray (kM_of h r q) he) (r_M_addArray h q hf he))) (fun _ hz => ⟨hz.1.1, hz.1.2.1, hz.2⟩)
theorem wLok_so {l : List Nat} {c : Nat} (hl : wLok T c l) : wSo T l l := by
  refine ⟨?_, fun x => Iff.rfl⟩
  rw [List.pairwise_iff_getElem]
  intro i j hi hj ij
  exact hl.2.2 i j hi hj ij
theorem p_addBoth (h : wOK C T) (r : rMc σ C g) (q : rMt σ T) (hf : M_full σ = 0) {l : List Nat} (hl : wLok T 30 l) (h2 : 2 ≤ l.length) (hr : ∀ k (hk : k < l.length), M_row σ k = nI l[k]) : k_pc (f_M_addBoth σ (nI l.length)) (pAd σ (Tn T) (wInt T l)) := by
  have hrow : kRow σ (Tn T) (M_row σ) l.length := by
    intro j hj
    obtain ⟨p1, p2, p3, _⟩ := hl.2.1 l[j] (List.getElem_mem hj)
    refine ⟨l[j], p1, p2, hr j hj, ?_⟩
    rw [(q.2 _ p2).1, p3]; rfl
  have hb := r_M_addBoth h q hf (m := l) (fun p hp => ⟨(hl.2.1 p hp).2.1, (hl.2.1 p hp).2.2.1⟩) hl.1 hr (fun j k hj hk e => ?_)
  · refine p_mono (p_ok (p_and (s_M_addBoth (kM_of h r q) hl.1 hrow) hb)) ?_
    rintro z ⟨⟨z1, z2, _⟩, l', w1, _, w3⟩
    have el : l' = l := wSo_uniq w1 (wLok_so hl)
    subst el
    rw [wInt_many h2]
    exact ⟨z1, z2, w3⟩
  · rcases Nat.lt_trichotomy j k with w | w | w
    · have := hl.2.2 j k hj hk w; omega
    · exact w
    · have := hl.2.2 k j hk hj w; omega
/-- frame h at stage 2 or 3: class c is next, the PARTS l are there -/
def pFr (C : wWc) (g : Nat) (σ : StM) (T : wWt) (h a b d : Nat) (s : Nat → Bool) (c : Nat) (l : List Nat) : Prop :=
  (wOK C T ∧ rMc σ C g ∧ rMt σ T) ∧ (M_full σ = 0 ∧ M_high σ = nI (h + 1)) ∧ (M_left σ h = nI (kBox a) ∧ M_right σ h = nI (kBox b) ∧ a < Tn T ∧ b < Tn T) ∧ M_deep σ h = nI d ∧
  (∀ e, e < 32 → bt (M_least σ h) e = s e) ∧ wSok C T a b s ∧ (M_at σ h = nI c ∧ c ≤ Wn C) ∧ M_size σ h = nI l.length ∧ wLok T c l ∧ (∀ k (hk : k < l.length), M_parts σ (30 * h + k) = nI l[k])
theorem p_keep {h a b d c : Nat} {s : Nat → Bool} {l : List Nat} {x : Int32} {Q : Int32 × StM → Prop} (hF : pFr C g σ T h a b d s c l) (hc : c < Wn C) (hh : h < 400) {o : Option (Nat × wWt)} {r : Int32 × StM} (hr : pAd σ (Tn T) o r)
    (ho : ∀ p, o = some p → wOK C p.2 ∧ wEx T p.2 ∧ p.1 < Tn p.2 ∧ 8 ≤ p.1 ∧ ∃ A, Ty p.2 p.1 = (1, c, A, []))
    (hnext : ∀ p τ, o = some p → Tn T ≤ Tn p.2 → pGo σ τ (Tn T) h → M_stage τ h = M_stage σ h → pFr C g τ p.2 h a b d s (c + 1) (l ++ [p.1]) → pU x Q τ)
    (hfull : ∀ τ, o = none → pGo σ τ (Tn T) h → M_full τ = 1 → pU x Q τ) :
    k_pc (f_M_keep r.2 (nI h) r.1) (fun r9 => pU x Q r9.2) := by
  obtain ⟨v, ρ⟩ := r
  obtain ⟨⟨bb, eb⟩, ha, hf⟩ := hr
  replace eb : ρ = mB σ bb := eb
  replace ha : kAg (Tn T) σ ρ := ha
  obtain ⟨⟨q0, q1, q2⟩, ⟨q3, q4⟩, ⟨q5, q6, q7, q8⟩, q9, q10, q11, ⟨q12, q13⟩, q14, q15, q16⟩ := hF
  have hl := q15.1
  have hn := q0.1.2.1
  have es : M_size ρ h = nI l.length := by rw [eb]; exact q14
  have ea : M_at ρ h = nI c := by rw [eb]; exact q12
  refine p_mono (p_ok (s_M_keep (by omega) (show l.length < 30 by omega) es ea v)) ?_
  rintro ⟨v9, τ⟩ eτ
  replace eτ : τ = mKeep ρ h l.length c v := eτ
  have hgo : pGo σ τ (Tn T) h := by
    refine ⟨?_, ?_, ?_⟩
    · rw [eτ, eb]; exact ⟨⟨rfl, rfl, rfl, rfl⟩, rfl, rfl, rfl, rfl, rfl, rfl, rfl, rfl⟩
    · rw [eτ]; exact ha
    · intro f hf
      rw [eτ, eb]
      refine ⟨rfl, rfl, rfl, rfl, rfl, ?_, ?_, ?_⟩
      · show upd (M_at σ) h (nI (c + 1)) f = _; exact k_u hf
      · show upd (M_size σ) h (nI (l.length + 1)) f = _; exact k_u hf
      · intro k hk
        show upd (M_parts σ) (30 * h + l.length) v (30 * f + k) = _
        exact k_u (by omega)
  have efl : M_full τ = M_full ρ := by rw [eτ]; rfl
  cases o with
  | none =>
    obtain ⟨_, f1⟩ := hf
    exact hfull τ rfl hgo (efl.trans f1)
  | some p =>
    obtain ⟨f1, f2, f3⟩ := hf
    replace f1 : v = nI p.1 := f1
    replace f2 : rMt ρ p.2 := f2
    obtain ⟨o1, o2, o3, o4, A, o5⟩ := ho p rfl
    refine hnext p τ rfl o2.1 hgo (by rw [eτ, eb]; rfl) ?_
    have hl' : wLok p.2 (c + 1) (l ++ [p.1]) := wLok_add (wLok_ex o2 q15) o4 o3 o5
    refine ⟨⟨o1, rMc_ke q1 hgo.1, by rw [eτ]; exact f2⟩, ⟨efl.trans f3, by rw [eτ, eb]; exact q4⟩, ⟨by rw [eτ, eb]; exact q5, by rw [eτ, eb]; exact q6, Nat.lt_of_lt_of_le q7 o2.1, Nat.lt_of_lt_of_le q8 o2.1⟩, by rw [eτ, eb]; exact q9, fun e he => ?_, wSok_ex q0.2 o2 q7 q8 q11, ⟨?_, by omega⟩, ?_, hl', fun k hk => ?_⟩
    · rw [eτ, eb]; exact q10 e he
    · rw [eτ]; show upd (M_at ρ) h (nI (c + 1)) h = _; exact k_upds
    · rw [eτ]; show upd (M_size ρ) h (nI (l.length + 1)) h = _; rw [k_upds, List.length_append]; rfl
    · have ep : M_parts τ = upd (M_parts ρ) (30 * h + l.length) v := by rw [eτ]; rfl
      rw [ep]
      have hk' : k < l.length + 1 := by rw [List.length_append] at hk; exact hk
      by_cases e : k = l.length
      · subst e
        rw [k_upds, f1]; congr 1; simp
      · have kl : k < l.length := by omega
        rw [k_updn (by omega), eb]
        have e9 : (l ++ [p.1])[k] = l[k] := List.getElem_append_left kl
        rw [e9]; exact q16 k kl
theorem pFr_at {h a b d c c' : Nat} {s : Nat → Bool} {l : List Nat} {α : Nat → Int32} (h0 : pFr C g σ T h a b d s c l) (hα : α h = nI c') (h1 : c ≤ c') (h2 : c' ≤ Wn C) : pFr C g (M_set_at σ α) T h a b d s c' l := by
  obtain ⟨q0, q3, q5, q9, q10, q11, ⟨q12, q13⟩, q14, q15, q16⟩ := h0
  exact ⟨q0, q3, q5, q9, q10, q11, ⟨hα, h2⟩, q14, wLok_mono q15 h1, q16⟩
theorem p_skip {h a b d c0 : Nat} {s : Nat → Bool} {l : List Nat} (hF : pFr C g σ T h a b d s c0 l) (hh : h < 400) {Q : Int32 × StM → Prop}
    (hk : ∀ (c : Nat) (α : Nat → Int32), c0 ≤ c → pFr C g (M_set_at σ α) T h a b d s c l → kSt h σ (M_set_at σ α) → (c = Wn C ∨ s c = true) → (∀ j, c0 ≤ j → j < c → s j = false) → k_pc (f_M_goOn_44 (M_set_at σ α) (nI h)) Q) :
    ∀ (f c : Nat) (α : Nat → Int32), c0 ≤ c → c ≤ Wn C → α h = nI c → (∀ g, g < h → α g = M_at σ g) → (∀ j, c0 ≤ j → j < c → s j = false) → k_pc (f_M_goOn_0 f (M_set_at σ α) (nI h)) Q := by
  have ch : (nI h).toNatClampNeg = h := nI_clamp (by omega)
  have en0 : M_classes σ = nI (Wn C) := hF.1.2.1.1
  have hn := hF.1.1.1.2.1
  have hbt := hF.2.2.2.2.1
  intro f
  induction f with
  | zero => intro c α _ _ _ _ _; exact p_none
  | succ f ih =>
    intro c α h0 hcn h2 h3 h4
    rw [f_M_goOn_0]
    unfold f_M_goOn_0_s
    refine p_guard (fun _ => ?_)
    rw [ch, show M_at (M_set_at σ α) = α from rfl, show M_least (M_set_at σ α) = M_least σ from rfl, show M_classes (M_set_at σ α) = M_classes σ from rfl, h2, en0]
    refine p_if (fun q => ?_) (fun q => ?_)
    · rw [nI_leI (by omega) (by omega)] at q
      exact hk c α h0 (pFr_at hF h2 h0 hcn) (kSt_at h3) (Or.inl (by omega)) h4
    · rw [nI_leI (by omega) (by omega)] at q
      refine p_guard (fun _ => p_guard (fun _ => p_if (fun w => ?_) (fun w => ?_)))
      · refine p_guard (fun _ => p_guard (fun _ => ?_))
        have e : M_put_at (M_set_at σ α) (nI h) (nI c + 1) = M_set_at σ (upd α h (nI (c + 1))) := by
          rw [nI_1]
          show M_set_at σ (upd α (nI h).toNatClampNeg (nI (c + 1))) = _
          rw [ch]
        rw [e]
        refine ih (c + 1) (upd α h (nI (c + 1))) (by omega) (by omega) k_upds (fun g hg => (k_u hg).trans (h3 g hg)) (fun j j1 j2 => ?_)
        by_cases ej : j = c
        · rw [ej, ← hbt c (by omega)]; exact (k_bit0 (M_least σ h) c (by omega)).mp w
        · exact h4 j j1 (by omega)
      · refine hk c α h0 (pFr_at hF h2 h0 hcn) (kSt_at h3) (Or.inr ?_) h4
        rw [← hbt c (by omega)]
        cases hb : bt (M_least σ h) c with
        | true => rfl
        | false => exact absurd ((k_bit0 (M_least σ h) c (by omega)).mpr hb) w
theorem p_finish {h a b d c : Nat} {s : Nat → Bool} {l : List Nat} {x : Int32} {Q : Int32 × StM → Prop} (hF : pFr C g σ T h a b d s c l) (hh : h < 400) (hne : l ≠ [])
    (hk : ∀ σ', pDn σ T h (wInt T l) σ' → pU x Q σ') :
    ∀ (f k : Nat) (ρ : Nat → Int32), k ≤ l.length → (∀ j, j < k → ρ j = M_parts σ (30 * h + j)) → k_pc (f_M_goOn_59 f (M_set_row σ ρ) (nI h) (nI k)) (fun r => pU x Q r.2) := by
  have ch : (nI h).toNatClampNeg = h := nI_clamp (by omega)
  obtain ⟨⟨q0, q1, q2⟩, ⟨q3, q4⟩, ⟨q5, q6, q7, q8⟩, q9, q10, q11, ⟨q12, q13⟩, q14, q15, q16⟩ := hF
  have hn := q0.1.2.1
  have hl30 : wLok T 30 l := wLok_mono q15 (by omega)
  have hlen := hl30.1
  intro f
  induction f with
  | zero => intro k ρ _ _; exact p_none
  | succ f ih =>
    intro k ρ h1 h3
    rw [f_M_goOn_59]
    unfold f_M_goOn_59_s f_M_goOn_133
    refine p_guard (fun _ => ?_)
    rw [ch, show M_size (M_set_row σ ρ) h = nI l.length from q14]
    have hpred : M_high σ - 1 = nI h := by rw [q4]; exact nI_pred h
    refine p_if (fun w => ?_) (fun w => ?_)
    · rw [nI_leI (by omega) (by omega)] at w
      have ek : k = l.length := by omega
      subst ek
      have hrow : ∀ k (hk : k < l.length), ρ k = nI l[k] := fun k hk => (h3 k hk).trans (q16 k hk)
      refine p_guard (fun _ => p_if (fun w1 => ?_) (fun w1 => ?_))
      · have w2 : nI l.length = nI 1 := w1
        rw [nI_eq (by omega) (by decide)] at w2
        refine p_guard (fun _ => ?_)
        have e0 := hrow 0 (by omega)
        have ei : wInt T l = some (l[0], T) := by
          match l, w2 with
          | [p], _ => rfl
        refine p_some (hk _ ⟨⟨⟨⟨rfl, rfl, rfl, rfl⟩, rfl, rfl, rfl, rfl, rfl, rfl, rfl, rfl⟩, kAg_refl _ σ, kSt_refl h σ⟩, ?_⟩)
        rw [ei]
        exact ⟨q3, q2, hpred, e0⟩
      · have w2 : ¬ nI l.length = nI 1 := w1
        rw [nI_eq (by omega) (by decide)] at w2
        have hlp : 0 < l.length := List.length_pos_iff.mpr hne
        refine p_if (fun _ => ?_) (fun w3 => absurd q3 w3)
        refine p_guard (fun _ => ?_)
        refine p_bind (p_addBoth (σ := M_set_row σ ρ) q0 q1 q2 q3 hl30 (by omega) hrow) ?_
        rintro ⟨v, τ⟩ ⟨⟨bb, eb⟩, ha, hf⟩
        replace eb : τ = mB σ bb := eb
        replace ha : kAg (Tn T) σ τ := ha
        refine p_some (hk _ ⟨⟨?_, ha, ?_⟩, ?_⟩)
        · rw [eb]; exact ⟨⟨rfl, rfl, rfl, rfl⟩, rfl, rfl, rfl, rfl, rfl, rfl, rfl, rfl⟩
        · rw [eb]; exact kSt_refl h σ
        · have eh : M_high τ - 1 = nI h := by rw [eb]; exact hpred
          cases eo : wInt T l with
          | none => rw [eo] at hf; exact hf.2
          | some z =>
            rw [eo] at hf
            exact ⟨hf.2.2, hf.2.1, eh, hf.1⟩
    · rw [nI_leI (by omega) (by omega)] at w
      have cl : (30 * nI h + nI k).toNatClampNeg = 30 * h + k := by rw [k_30ix]; exact nI_clamp (by omega)
      refine p_guard (fun _ => p_guard (fun _ => ?_))
      rw [nI_1]
      refine ih (k + 1) (upd ρ (nI k).toNatClampNeg ((M_parts (M_set_row σ ρ)) (30 * nI h + nI k).toNatClampNeg)) (by omega) ?_
      intro j hj
      rw [nI_clamp (show k < 2 ^ 31 by omega), cl]
      by_cases e : j = k
      · subst e; rw [k_upds]
      · rw [k_updn e]; exact h3 j (by omega)
theorem p_44n {h a b d : Nat} {s : Nat → Bool} {l : List Nat} {x : Int32} {Q : Int32 × StM → Prop} (hF : pFr C g σ T h a b d s (Wn C) l) (hh : h < 400) (hne : l ≠ []) (hk : ∀ σ', pDn σ T h (wInt T l) σ' → pU x Q σ') : k_pc (f_M_goOn_44 σ (nI h)) (fun r => pU x Q r.2) := by
  have ch : (nI h).toNatClampNeg = h := nI_clamp (by omega)
  have hat : M_at σ h = nI (Wn C) := hF.2.2.2.2.2.2.1.1
  unfold f_M_goOn_44
  refine p_guard (fun _ => ?_)
  rw [ch, hat, show M_classes σ = nI (Wn C) from hF.1.2.1.1]
  refine p_if (fun _ => ?_) (fun q => absurd rfl q)
  exact p_finish hF hh hne hk 1000 0 (M_row σ) (by omega) (fun j hj => by omega)
end
/-- what is to be shown of a bound to depth d -/
def pRec (C : wWc) (g d f : Nat) : Prop := ∀ (h a b : Nat) (T : wWt) (σ : StM) (x : Int32) (Q : Int32 × StM → Prop), wOK C T → rMc σ C g → rMt σ T → M_full σ = 0 → M_high σ = nI (h + 1) → M_left σ h = nI a → M_right σ h = nI b → M_deep σ h = nI d → M_stage σ h = 0 → M_size σ h = 0 → M_at σ h = 0 → a < Tn T → b < Tn T → Tm T a < f → h + f + 101 * d ≤ 303 →
  (∀ σ', pDn σ T h (wUb C (wFd C d) f T a b) σ' → pU x Q σ') → pU x Q σ
