-- part 08.81.upM.lean.txt
/-! Tier 3: the reference's upper: what a bound leaves, the frames. -/
def pKe (σ τ : StM) : Prop := (M_face τ = M_face σ ∧ M_below τ = M_below σ ∧ M_reckoned τ = M_reckoned σ ∧ M_code τ = M_code σ) ∧ kA σ τ
theorem pKe_refl (σ : StM) : pKe σ σ := ⟨⟨rfl, rfl, rfl, rfl⟩, kA_refl σ⟩
theorem pKe_trans {σ τ ρ : StM} (h1 : pKe σ τ) (h2 : pKe τ ρ) : pKe σ ρ := ⟨⟨h2.1.1.trans h1.1.1, h2.1.2.1.trans h1.1.2.1, h2.1.2.2.1.trans h1.1.2.2.1, h2.1.2.2.2.trans h1.1.2.2.2⟩, kA_trans h1.2 h2.2⟩
theorem pKe_mB (σ : StM) (b : StB) : pKe σ (mB σ b) := ⟨⟨rfl, rfl, rfl, rfl⟩, rfl, rfl, rfl, rfl, rfl, rfl, rfl, rfl⟩
theorem pKe_mF (σ : StM) (a h g : Int32) : pKe σ (mF σ a h g) := ⟨⟨rfl, rfl, rfl, rfl⟩, rfl, rfl, rfl, rfl, rfl, rfl, rfl, rfl⟩
theorem rMc_ke {σ τ : StM} {C : wWc} {g : Nat} (r : rMc σ C g) (k : pKe σ τ) : rMc τ C g := by
  obtain ⟨⟨f1, _⟩, k1, k2, k3, k4, k5, k6, k7, k8⟩ := k
  obtain ⟨r1, r2, r3⟩ := r
  refine ⟨k3.trans r1, k1.trans r2, fun c hc => ?_⟩
  obtain ⟨a1, a2, a3, a4, a5⟩ := r3 c hc
  refine ⟨by rw [f1]; exact a1, by rw [k4]; exact a2, by rw [k5]; exact a3, fun k hk => ?_, fun b hb => ?_⟩
  · rw [k6, k7]; exact a4 k hk
  · rw [k8]; exact a5 b hb
theorem rMt_ag {σ τ : StM} {C : wWc} {T : wWt} (h : wTok C T) (q : rMt σ T) (ha : kAg (Tn T) σ τ) (e : M_types τ = nI (Tn T)) : rMt τ T :=
  ⟨e, fun i hi => rMtr_eq (q.2 i hi) (ha i hi) rfl rfl (by rw [wPs_len h hi]; exact wPc_le h hi)⟩
def pGo (σ τ : StM) (t h : Nat) : Prop := pKe σ τ ∧ kAg t σ τ ∧ kSt h σ τ
theorem pGo_refl (σ : StM) (t h : Nat) : pGo σ σ t h := ⟨pKe_refl σ, kAg_refl t σ, kSt_refl h σ⟩
theorem pGo_trans {σ τ ρ : StM} {t t' h h' : Nat} (h1 : pGo σ τ t h) (h2 : pGo τ ρ t' h') (ht : t ≤ t') (hh : h ≤ h') : pGo σ ρ t h := ⟨pKe_trans h1.1 h2.1, kAg_trans h1.2.1 h2.2.1 ht, kSt_trans h1.2.2 h2.2.2 hh⟩
def pOu (h : Nat) (o : Option (Nat × wWt)) (τ : StM) : Prop := match o with
  | none => M_full τ = 1
  | some q => M_full τ = 0 ∧ rMt τ q.2 ∧ M_high τ = nI h ∧ M_answer τ = nI q.1
/-- a bound is told, or it was too much -/
def pDn (σ : StM) (T : wWt) (h : Nat) (o : Option (Nat × wWt)) (τ : StM) : Prop := pGo σ τ (Tn T) h ∧ pOu h o τ
theorem pDn_trans {σ τ σ' : StM} {T T' : wWt} {h : Nat} {o : Option (Nat × wWt)} (hg : pGo σ τ (Tn T) h) (ht : Tn T ≤ Tn T') (h2 : pDn τ T' h o σ') : pDn σ T h o σ' := ⟨pGo_trans hg h2.1 ht (Nat.le_refl h), h2.2⟩
/-- the loop, from a state on -/
def pU (x : Int32) (Q : Int32 × StM → Prop) (σ : StM) : Prop := ∀ F, k_pc (f_M_upper_50 F σ x) Q
theorem p_turn {σ : StM} {h : Nat} {x : Int32} {Q : Int32 × StM → Prop} (e : M_high σ = nI (h + 1)) (hh : h < 400) (hf : M_full σ = 0)
    (h0 : M_stage σ h = 0 → k_pc (f_M_begin σ (nI h)) (fun r => pU x Q r.2))
    (h1 : M_stage σ h = 1 → k_pc (f_M_addArray σ (M_answer σ)) (fun r5 => k_pc (f_M_tell r5.2 r5.1) (fun r => pU x Q r.2)))
    (h2 : M_stage σ h = 2 → k_pc (f_M_goOn σ (nI h)) (fun r => pU x Q r.2))
    (h3 : ¬ M_stage σ h = 0 → ¬ M_stage σ h = 1 → ¬ M_stage σ h = 2 → k_pc (f_M_addNamed (M_put_stage σ (nI h) 2) ((M_at (M_put_stage σ (nI h) 2)) (nI h).toNatClampNeg) 2 (M_answer (M_put_stage σ (nI h) 2))) (fun r8 => k_pc (f_M_keep r8.2 (nI h) r8.1) (fun r => pU x Q r.2))) :
    pU x Q σ := by
  have e1 : M_high σ - 1 = nI h := by rw [e]; exact nI_pred h
  have ch : (nI h).toNatClampNeg = h := nI_clamp (by omega)
  intro F
  cases F with
  | zero => exact p_none
  | succ F =>
    rw [f_M_upper_50]
    unfold f_M_upper_50_s
    rw [e1]
    refine p_if (fun q => ?_) (fun _ => ?_)
    · have q2 : nI (h + 1) ≤ nI 0 := by rw [← e]; exact q
      rw [nI_leI (by omega) (by decide)] at q2
      omega
    refine p_if (fun _ => ?_) (fun q => absurd hf q)
    refine p_guard (fun _ => ?_)
    refine p_if (fun q => p_bind (h0 (by rw [ch] at q; exact q)) (fun r hr => hr F)) (fun q0 => ?_)
    refine p_if (fun q => p_bind (h1 (by rw [ch] at q; exact q)) (fun r hr => p_bind hr (fun r hr => hr F))) (fun q1 => ?_)
    refine p_if (fun q => p_bind (h2 (by rw [ch] at q; exact q)) (fun r hr => hr F)) (fun q2 => ?_)
    rw [ch] at q0 q1 q2
    exact p_guard (fun _ => p_guard (fun _ => p_bind (h3 q0 q1 q2) (fun r hr => p_bind hr (fun r hr => hr F))))
section
variable {σ : StM} {C : wWc} {T : wWt} {g : Nat}
theorem wOk_own (r : rMc σ C g) {c a t : Nat} (hc : c < Wn C) (ho : wOk t (Wg C c) a) : kOwn t (M_generic σ c) (wH a) (wTd a) := by
  have eg := (r.2.2 c hc).2.1
  rcases ho with ⟨h1, h2⟩ | ⟨h1, x, x1, x2, x3⟩
  · rw [eg, h1, h2]; exact Or.inl ⟨rfl, rfl, rfl⟩
  · rw [eg, h1, wTd_x x3]
    refine Or.inr ⟨rfl, ?_, x, x1, x2, rfl⟩
    rcases x3 with e | e
    · exact Or.inl (wH_x e)
    · exact Or.inr (wH_y e)
/-- what adding a type leaves -/
def pAd (σ : StM) (t : Nat) (o : Option (Nat × wWt)) (r : Int32 × StM) : Prop := (∃ b, r.2 = mB σ b) ∧ kAg t σ r.2 ∧ rMw o r
theorem p_addNamed (h : wOK C T) (r : rMc σ C g) (q : rMt σ T) (hf : M_full σ = 0) {c a : Nat} (hc : c < Wn C) (ho : wOk (Tn T) (Wg C c) a) : k_pc (f_M_addNamed σ (nI c) (wH a) (wTd a)) (pAd σ (Tn T) (wNm T c a)) :=
  p_mono (p_ok (p_and (s_M_addNamed (kM_of h r q) hc (wOk_own r hc ho)) (r_M_addNamed h q hf hc ho))) (fun _ hz => ⟨hz.1.1, hz.1.2.1, hz.2⟩)
theorem p_addArray (h : wOK C T) (r : rMc σ C g) (q : rMt σ T) (hf : M_full σ = 0) {e : Nat} (he : e < Tn T) : k_pc (f_M_addArray σ (nI e)) (pAd σ (Tn T) (wArr (e, T))) :=
  p_mono (p_ok (p_and (s_M_addArray (kM_of h r q) he) (r_M_addArray h q hf he))) (fun _ hz => ⟨hz.1.1, hz.1.2.1, hz.2⟩)
theorem wLok_so {l : List Nat} {c : Nat} (hl : wLok T c l) : wSo T l l := by
  refine ⟨?_, fun x => Iff.rfl⟩
  rw [List.pairwise_iff_getElem]
  intro i j hi hj ij
  exact hl.2.2 i j hi hj ij
theorem p_addBoth (h : wOK C T) (r : rMc σ C g) (q : rMt σ T) (hf : M_full σ = 0) {l : List Nat} (hl : wLok T 30 l) (h2 : 2 ≤ l.length) (hr : ∀ k (hk : k < l.length), M_row σ k = nI l[k]) : k_pc (f_M_addBoth σ (nI l.length)) (pAd σ (Tn T) (wInt T l)) := by
  have hrow : kRow σ (Tn T) (M_row σ) l.length := by
    intro j hj
    obtain ⟨p1, p2, p3, _⟩ := hl.2.1 l[j] (List.getElem_mem hj)
    refine ⟨l[j], p1, p2, hr j hj, ?_⟩
    rw [(q.2 _ p2).1, p3]; rfl
  have hb := r_M_addBoth h q hf (m := l) (fun p hp => ⟨(hl.2.1 p hp).2.1, (hl.2.1 p hp).2.2.1⟩) hl.1 hr (fun j k hj hk e => ?_)
  · refine p_mono (p_ok (p_and (s_M_addBoth (kM_of h r q) hl.1 hrow) hb)) ?_
    rintro z ⟨⟨z1, z2, _⟩, l', w1, _, w3⟩
    have el : l' = l := wSo_uniq w1 (wLok_so hl)
    subst el
    rw [wInt_many h2]
    exact ⟨z1, z2, w3⟩
  · rcases Nat.lt_trichotomy j k with w | w | w
    · have := hl.2.2 j k hj hk w; omega
    · exact w
    · have := hl.2.2 k j hk hj w; omega
/-- frame h at stage 2 or 3: class c is next, the PARTS l are there -/
def pFr (C : wWc) (g : Nat) (σ : StM) (T : wWt) (h a b d : Nat) (s : Nat → Bool) (c : Nat) (l : List Nat) : Prop :=
  (wOK C T ∧ rMc σ C g ∧ rMt σ T) ∧ (M_full σ = 0 ∧ M_high σ = nI (h + 1)) ∧ (M_left σ h = nI (kBox a) ∧ M_right σ h = nI (kBox b) ∧ a < Tn T ∧ b < Tn T) ∧ M_deep σ h = nI d ∧
  (∀ e, e < 32 → bt (M_least σ h) e = s e) ∧ wSok C T a b s ∧ (M_at σ h = nI c ∧ c ≤ Wn C) ∧ M_size σ h = nI l.length ∧ wLok T c l ∧ (∀ k (hk : k < l.length), M_parts σ (30 * h + k) = nI l[k])
theorem p_keep {h a b d c : Nat} {s : Nat → Bool} {l : List Nat} {x : Int32} {Q : Int32 × StM → Prop} (hF : pFr C g σ T h a b d s c l) (hc : c < Wn C) (hh : h < 400) {o : Option (Nat × wWt)} {r : Int32 × StM} (hr : pAd σ (Tn T) o r)
    (ho : ∀ p, o = some p → wOK C p.2 ∧ wEx T p.2 ∧ p.1 < Tn p.2 ∧ 8 ≤ p.1 ∧ ∃ A, Ty p.2 p.1 = (1, c, A, []))
    (hnext : ∀ p τ, o = some p → Tn T ≤ Tn p.2 → pGo σ τ (Tn T) h → M_stage τ h = M_stage σ h → pFr C g τ p.2 h a b d s (c + 1) (l ++ [p.1]) → pU x Q τ)
    (hfull : ∀ τ, o = none → pGo σ τ (Tn T) h → M_full τ = 1 → pU x Q τ) :
    k_pc (f_M_keep r.2 (nI h) r.1) (fun r9 => pU x Q r9.2) := by
  obtain ⟨v, ρ⟩ := r
  obtain ⟨⟨bb, eb⟩, ha, hf⟩ := hr
  replace eb : ρ = mB σ bb := eb
  replace ha : kAg (Tn T) σ ρ := ha
  obtain ⟨⟨q0, q1, q2⟩, ⟨q3, q4⟩, ⟨q5, q6, q7, q8⟩, q9, q10, q11, ⟨q12, q13⟩, q14, q15, q16⟩ := hF
  have hl := q15.1
  have hn := q0.1.2.1
  have es : M_size ρ h = nI l.length := by rw [eb]; exact q14
  have ea : M_at ρ h = nI c := by rw [eb]; exact q12
  refine p_mono (p_ok (s_M_keep (by omega) (show l.length < 30 by omega) es ea v)) ?_
  rintro ⟨v9, τ⟩ eτ
  replace eτ : τ = mKeep ρ h l.length c v := eτ
  have hgo : pGo σ τ (Tn T) h := by
    refine ⟨?_, ?_, ?_⟩
    · rw [eτ, eb]; exact ⟨⟨rfl, rfl, rfl, rfl⟩, rfl, rfl, rfl, rfl, rfl, rfl, rfl, rfl⟩
    · rw [eτ]; exact ha
    · intro f hf
      rw [eτ, eb]
      refine ⟨rfl, rfl, rfl, rfl, rfl, ?_, ?_, ?_⟩
      · show upd (M_at σ) h (nI (c + 1)) f = _; exact k_u hf
      · show upd (M_size σ) h (nI (l.length + 1)) f = _; exact k_u hf
      · intro k hk
        show upd (M_parts σ) (30 * h + l.length) v (30 * f + k) = _
        exact k_u (by omega)
  have efl : M_full τ = M_full ρ := by rw [eτ]; rfl
  cases o with
  | none =>
    obtain ⟨_, f1⟩ := hf
    exact hfull τ rfl hgo (efl.trans f1)
  | some p =>
    obtain ⟨f1, f2, f3⟩ := hf
    replace f1 : v = nI p.1 := f1
    replace f2 : rMt ρ p.2 := f2
    obtain ⟨o1, o2, o3, o4, A, o5⟩ := ho p rfl
    refine hnext p τ rfl o2.1 hgo (by rw [eτ, eb]; rfl) ?_
    have hl' : wLok p.2 (c + 1) (l ++ [p.1]) := wLok_add (wLok_ex o2 q15) o4 o3 o5
    refine ⟨⟨o1, rMc_ke q1 hgo.1, by rw [eτ]; exact f2⟩, ⟨efl.trans f3, by rw [eτ, eb]; exact q4⟩, ⟨by rw [eτ, eb]; exact q5, by rw [eτ, eb]; exact q6, Nat.lt_of_lt_of_le q7 o2.1, Nat.lt_of_lt_of_le q8 o2.1⟩, by rw [eτ, eb]; exact q9, fun e he => ?_, wSok_ex q0.2 o2 q7 q8 q11, ⟨?_, by omega⟩, ?_, hl', fun k hk => ?_⟩
    · rw [eτ, eb]; exact q10 e he
    · rw [eτ]; show upd (M_at ρ) h (nI (c + 1)) h = _; exact k_upds
    · rw [eτ]; show upd (M_size ρ) h (nI (l.length + 1)) h = _; rw [k_upds, List.length_append]; rfl
    · have ep : M_parts τ = upd (M_parts ρ) (30 * h + l.length) v := by rw [eτ]; rfl
      rw [ep]
      have hk' : k < l.length + 1 := by rw [List.length_append] at hk; exact hk
      by_cases e : k = l.length
      · subst e
        rw [k_upds, f1]; congr 1; simp
      · have kl : k < l.length := by omega
        rw [k_updn (by omega), eb]
        have e9 : (l ++ [p.1])[k] = l[k] := List.getElem_append_left kl
        rw [e9]; exact q16 k kl
theorem pFr_at {h a b d c c' : Nat} {s : Nat → Bool} {l : List Nat} {α : Nat → Int32} (h0 : pFr C g σ T h a b d s c l) (hα : α h = nI c') (h1 : c ≤ c') (h2 : c' ≤ Wn C) : pFr C g (M_set_at σ α) T h a b d s c' l := by
  obtain ⟨q0, q3, q5, q9, q10, q11, ⟨q12, q13⟩, q14, q15, q16⟩ := h0
  exact ⟨q0, q3, q5, q9, q10, q11, ⟨hα, h2⟩, q14, wLok_mono q15 h1, q16⟩
theorem p_skip {h a b d c0 : Nat} {s : Nat → Bool} {l : List Nat} (hF : pFr C g σ T h a b d s c0 l) (hh : h < 400) {Q : Int32 × StM → Prop}
    (hk : ∀ (c : Nat) (α : Nat → Int32), c0 ≤ c → pFr C g (M_set_at σ α) T h a b d s c l → kSt h σ (M_set_at σ α) → (c = Wn C ∨ s c = true) → (∀ j, c0 ≤ j → j < c → s j = false) → k_pc (f_M_goOn_44 (M_set_at σ α) (nI h)) Q) :
    ∀ (f c : Nat) (α : Nat → Int32), c0 ≤ c → c ≤ Wn C → α h = nI c → (∀ g, g < h → α g = M_at σ g) → (∀ j, c0 ≤ j → j < c → s j = false) → k_pc (f_M_goOn_0 f (M_set_at σ α) (nI h)) Q := by
  have ch : (nI h).toNatClampNeg = h := nI_clamp (by omega)
  have en0 : M_classes σ = nI (Wn C) := hF.1.2.1.1
  have hn := hF.1.1.1.2.1
  have hbt := hF.2.2.2.2.1
  intro f
  induction f with
  | zero => intro c α _ _ _ _ _; exact p_none
  | succ f ih =>
    intro c α h0 hcn h2 h3 h4
    rw [f_M_goOn_0]
    unfold f_M_goOn_0_s
    refine p_guard (fun _ => ?_)
    rw [ch, show M_at (M_set_at σ α) = α from rfl, show M_least (M_set_at σ α) = M_least σ from rfl, show M_classes (M_set_at σ α) = M_classes σ from rfl, h2, en0]
    refine p_if (fun q => ?_) (fun q => ?_)
    · rw [nI_leI (by omega) (by omega)] at q
      exact hk c α h0 (pFr_at hF h2 h0 hcn) (kSt_at h3) (Or.inl (by omega)) h4
    · rw [nI_leI (by omega) (by omega)] at q
      refine p_guard (fun _ => p_guard (fun _ => p_if (fun w => ?_) (fun w => ?_)))
      · refine p_guard (fun _ => p_guard (fun _ => ?_))
        have e : M_put_at (M_set_at σ α) (nI h) (nI c + 1) = M_set_at σ (upd α h (nI (c + 1))) := by
          rw [nI_1]
          show M_set_at σ (upd α (nI h).toNatClampNeg (nI (c + 1))) = _
          rw [ch]
        rw [e]
        refine ih (c + 1) (upd α h (nI (c + 1))) (by omega) (by omega) k_upds (fun g hg => (k_u hg).trans (h3 g hg)) (fun j j1 j2 => ?_)
        by_cases ej : j = c
        · rw [ej, ← hbt c (by omega)]; exact (k_bit0 (M_least σ h) c (by omega)).mp w
        · exact h4 j j1 (by omega)
      · refine hk c α h0 (pFr_at hF h2 h0 hcn) (kSt_at h3) (Or.inr ?_) h4
        rw [← hbt c (by omega)]
        cases hb : bt (M_least σ h) c with
        | true => rfl
        | false => exact absurd ((k_bit0 (M_least σ h) c (by omega)).mpr hb) w
theorem p_finish {h a b d c : Nat} {s : Nat → Bool} {l : List Nat} {x : Int32} {Q : Int32 × StM → Prop} (hF : pFr C g σ T h a b d s c l) (hh : h < 400) (hne : l ≠ [])
    (hk : ∀ σ', pDn σ T h (wInt T l) σ' → pU x Q σ') :
    ∀ (f k : Nat) (ρ : Nat → Int32), k ≤ l.length → (∀ j, j < k → ρ j = M_parts σ (30 * h + j)) → k_pc (f_M_goOn_59 f (M_set_row σ ρ) (nI h) (nI k)) (fun r => pU x Q r.2) := by
  have ch : (nI h).toNatClampNeg = h := nI_clamp (by omega)
  obtain ⟨⟨q0, q1, q2⟩, ⟨q3, q4⟩, ⟨q5, q6, q7, q8⟩, q9, q10, q11, ⟨q12, q13⟩, q14, q15, q16⟩ := hF
  have hn := q0.1.2.1
  have hl30 : wLok T 30 l := wLok_mono q15 (by omega)
  have hlen := hl30.1
  intro f
  induction f with
  | zero => intro k ρ _ _; exact p_none
  | succ f ih =>
    intro k ρ h1 h3
    rw [f_M_goOn_59]
    unfold f_M_goOn_59_s f_M_goOn_133
    refine p_guard (fun _ => ?_)
    rw [ch, show M_size (M_set_row σ ρ) h = nI l.length from q14]
    have hpred : M_high σ - 1 = nI h := by rw [q4]; exact nI_pred h
    refine p_if (fun w => ?_) (fun w => ?_)
    · rw [nI_leI (by omega) (by omega)] at w
      have ek : k = l.length := by omega
      subst ek
      have hrow : ∀ k (hk : k < l.length), ρ k = nI l[k] := fun k hk => (h3 k hk).trans (q16 k hk)
      refine p_guard (fun _ => p_if (fun w1 => ?_) (fun w1 => ?_))
      · have w2 : nI l.length = nI 1 := w1
        rw [nI_eq (by omega) (by decide)] at w2
        refine p_guard (fun _ => ?_)
        have e0 := hrow 0 (by omega)
        have ei : wInt T l = some (l[0], T) := by
          match l, w2 with
          | [p], _ => rfl
        refine p_some (hk _ ⟨⟨⟨⟨rfl, rfl, rfl, rfl⟩, rfl, rfl, rfl, rfl, rfl, rfl, rfl, rfl⟩, kAg_refl _ σ, kSt_refl h σ⟩, ?_⟩)
        rw [ei]
        exact ⟨q3, q2, hpred, e0⟩
      · have w2 : ¬ nI l.length = nI 1 := w1
        rw [nI_eq (by omega) (by decide)] at w2
        have hlp : 0 < l.length := List.length_pos_iff.mpr hne
        refine p_if (fun _ => ?_) (fun w3 => absurd q3 w3)
        refine p_guard (fun _ => ?_)
        refine p_bind (p_addBoth (σ := M_set_row σ ρ) q0 q1 q2 q3 hl30 (by omega) hrow) ?_
        rintro ⟨v, τ⟩ ⟨⟨bb, eb⟩, ha, hf⟩
        replace eb : τ = mB σ bb := eb
        replace ha : kAg (Tn T) σ τ := ha
        refine p_some (hk _ ⟨⟨?_, ha, ?_⟩, ?_⟩)
        · rw [eb]; exact ⟨⟨rfl, rfl, rfl, rfl⟩, rfl, rfl, rfl, rfl, rfl, rfl, rfl, rfl⟩
        · rw [eb]; exact kSt_refl h σ
        · have eh : M_high τ - 1 = nI h := by rw [eb]; exact hpred
          cases eo : wInt T l with
          | none => rw [eo] at hf; exact hf.2
          | some z =>
            rw [eo] at hf
            exact ⟨hf.2.2, hf.2.1, eh, hf.1⟩
    · rw [nI_leI (by omega) (by omega)] at w
      have cl : (30 * nI h + nI k).toNatClampNeg = 30 * h + k := by rw [k_30ix]; exact nI_clamp (by omega)
      refine p_guard (fun _ => p_guard (fun _ => ?_))
      rw [nI_1]
      refine ih (k + 1) (upd ρ (nI k).toNatClampNeg ((M_parts (M_set_row σ ρ)) (30 * nI h + nI k).toNatClampNeg)) (by omega) ?_
      intro j hj
      rw [nI_clamp (show k < 2 ^ 31 by omega), cl]
      by_cases e : j = k
      · subst e; rw [k_upds]
      · rw [k_updn e]; exact h3 j (by omega)
theorem p_44n {h a b d : Nat} {s : Nat → Bool} {l : List Nat} {x : Int32} {Q : Int32 × StM → Prop} (hF : pFr C g σ T h a b d s (Wn C) l) (hh : h < 400) (hne : l ≠ []) (hk : ∀ σ', pDn σ T h (wInt T l) σ' → pU x Q σ') : k_pc (f_M_goOn_44 σ (nI h)) (fun r => pU x Q r.2) := by
  have ch : (nI h).toNatClampNeg = h := nI_clamp (by omega)
  have hat : M_at σ h = nI (Wn C) := hF.2.2.2.2.2.2.1.1
  unfold f_M_goOn_44
  refine p_guard (fun _ => ?_)
  rw [ch, hat, show M_classes σ = nI (Wn C) from hF.1.2.1.1]
  refine p_if (fun _ => ?_) (fun q => absurd rfl q)
  exact p_finish hF hh hne hk 1000 0 (M_row σ) (by omega) (fun j hj => by omega)
end
/-- what is to be shown of a bound to depth d -/
def pRec (C : wWc) (g d f : Nat) : Prop := ∀ (h a b : Nat) (T : wWt) (σ : StM) (x : Int32) (Q : Int32 × StM → Prop), wOK C T → rMc σ C g → rMt σ T → M_full σ = 0 → M_high σ = nI (h + 1) → M_left σ h = nI a → M_right σ h = nI b → M_deep σ h = nI d → M_stage σ h = 0 → M_size σ h = 0 → M_at σ h = 0 → a < Tn T → b < Tn T → Tm T a < f → h + f + 101 * d ≤ 303 →
  (∀ σ', pDn σ T h (wUb C (wFd C d) f T a b) σ' → pU x Q σ') → pU x Q σ
-- part 08.82.upM2.lean.txt
/-! Tier 3: the reference's upper: a bound's classes. -/
section
variable {σ : StM} {C : wWc} {T : wWt} {g : Nat}
theorem pAd_trans {τ : StM} {t t' : Nat} {o : Option (Nat × wWt)} {r : Int32 × StM} (h1 : ∃ b, τ = mB σ b) (h2 : kAg t σ τ) (ht : t ≤ t') (h : pAd τ t' o r) : pAd σ t o r := by
  obtain ⟨b1, e1⟩ := h1
  obtain ⟨⟨b2, e2⟩, a2, f2⟩ := h
  exact ⟨⟨b2, by rw [e2, e1]; rfl⟩, kAg_trans h2 a2 ht, f2⟩
theorem p_o2 {F : wWt → Nat → Nat → Option (Nat × wWt)} (hF : wFok C F) (h : wOK C T) {c x y : Nat} (hc : c < Wn C) (hg : Wg C c = true) (x8 : 8 ≤ x) (xt : x < Tn T) (yt : y < Tn T) {p : Nat × wWt} (e : ((F T x y).bind (fun q => wNm q.2 c (4 * q.1 + 2))) = some p) : wOK C p.2 ∧ wEx T p.2 ∧ p.1 < Tn p.2 ∧ 8 ≤ p.1 ∧ ∃ A, Ty p.2 p.1 = (1, c, A, []) := by
  cases eF : F T x y with
  | none => rw [eF] at e; cases e
  | some q =>
    rw [eF] at e
    replace e : wNm q.2 c (4 * q.1 + 2) = some p := e
    obtain ⟨w1, w2, w3, w4⟩ := hF T x y h xt yt q eF
    obtain ⟨n1, n2, n3, n4, n5⟩ := wNm_ok w1 hc (by rw [hg]; exact Or.inr ⟨rfl, q.1, w4 x8, w3, Or.inr rfl⟩) e
    exact ⟨n1, wEx_trans w2 n2, n3, n4, _, n5⟩
theorem wOk_t {t X : Nat} (h : wOk t true X) : ∃ y, 8 ≤ y ∧ y < t ∧ (X = 4 * y + 1 ∨ X = 4 * y + 2) := by
  rcases h with ⟨w, _⟩ | ⟨_, w⟩
  · cases w
  · exact w
/-- no one ARGUMENT holds both: a bound's bound -/
theorem p_237 {h a b d c : Nat} {s : Nat → Bool} {l : List Nat} {x : Int32} {Q : Int32 × StM → Prop} (hrec : ∀ e, d = e + 1 → pRec C g e 101) (hF : pFr C g σ T h a b d s c l) (hc : c < Wn C) (hgc : Wg C c = true) (hst : M_stage σ h = 2) (hb : h + 1 + 101 * d ≤ 303)
    {X Y : Nat} (hX : wOk (Tn T) true X) (hY : wOk (Tn T) true Y) (hft : M_foundType σ = wTd Y)
    (hnext : ∀ p τ, ((wFd C d T (X / 4) (Y / 4)).bind (fun q => wNm q.2 c (4 * q.1 + 2))) = some p → Tn T ≤ Tn p.2 → pGo σ τ (Tn T) h → M_stage τ h = 2 → pFr C g τ p.2 h a b d s (c + 1) (l ++ [p.1]) → pU x Q τ)
    (hfull : ∀ τ, ((wFd C d T (X / 4) (Y / 4)).bind (fun q => wNm q.2 c (4 * q.1 + 2))) = none → pGo σ τ (Tn T) h → M_full τ = 1 → pU x Q τ) :
    k_pc (f_M_goOn_237 σ (nI h) (nI c) (wTd X)) (fun r => pU x Q r.2) := by
  have hO := hF.1.1
  have hrc := hF.1.2.1
  have hrt := hF.1.2.2
  have hfl := hF.2.1.1
  have hn := hO.1.2.1
  have h13 := hO.1.1
  have ht := hO.2.2.1
  have ch : (nI h).toNatClampNeg = h := nI_clamp (by omega)
  have edp : M_deep σ h = nI d := hF.2.2.2.1
  obtain ⟨X0, X8, Xt, Xe⟩ := wOk_t hX
  obtain ⟨Y0, Y8, Yt, Ye⟩ := wOk_t hY
  have ex : X / 4 = X0 := by omega
  have ey : Y / 4 = Y0 := by omega
  rw [ex, ey] at hnext hfull
  rw [wTd_x Xe]
  rw [wTd_x Ye] at hft
  unfold f_M_goOn_237
  refine p_guard (fun _ => ?_)
  rw [ch, edp]
  refine p_if (fun w => ?_) (fun w => ?_)
  · have d0 : d = 0 := by
      have w2 : nI d = nI 0 := w
      rw [nI_eq (by omega) (by decide)] at w2; exact w2
    subst d0
    have hok0 : wOk (Tn T) (Wg C 0) 0 := Or.inl ⟨hO.1.2.2.2.2.2.2.2.1 0 (by omega), rfl⟩
    refine p_bind (p_addNamed hO hrc hrt hfl (c := 0) (a := 0) (by omega) hok0) ?_
    intro r4 hr4
    refine p_bind (P := pAd σ (Tn T) ((wFd C 0 T X0 Y0).bind (fun q => wNm q.2 c (4 * q.1 + 2)))) ?_ ?_
    · cases e4 : wNm T 0 0 with
      | none =>
        rw [e4] at hr4
        obtain ⟨z1, z2, z3, z4⟩ := hr4
        have e5 : wFd C 0 T X0 Y0 = none := e4
        rw [e5]
        unfold f_M_addNamed
        refine p_if (fun q => ?_) (fun _ => p_some ⟨z1, z2, rfl, z4⟩)
        rw [z4] at q; exact absurd q (by decide)
      | some q4 =>
        rw [e4] at hr4
        obtain ⟨⟨b4, e4b⟩, z2, z3, z4, z5⟩ := hr4
        obtain ⟨n1, n2, n3, n4, n5⟩ := wNm_ok hO (by omega) hok0 e4
        have rc4 : rMc r4.2 C g := rMc_ke hrc (by rw [e4b]; exact pKe_mB σ b4)
        have key := p_addNamed n1 rc4 z4 z5 hc (a := 4 * q4.1 + 2) (by rw [hgc]; exact Or.inr ⟨rfl, q4.1, n4, n3, Or.inr rfl⟩)
        have w1 : wH (4 * q4.1 + 2) = 2 := wH_y rfl
        have w2 : wTd (4 * q4.1 + 2) = r4.1 := (wTd_x (Or.inr rfl)).trans z3.symm
        rw [w1, w2] at key
        have e5 : wFd C 0 T X0 Y0 = some q4 := e4
        rw [e5]
        exact p_mono key (fun r hr => pAd_trans ⟨b4, e4b⟩ z2 n2.1 hr)
    · intro r5 hr5
      exact p_bind (p_keep hF hc (by omega) hr5 (fun p e => p_o2 (wFd_ok 0) hO hc hgc X8 Xt Yt e) (fun p τ e g0 g1 g2 g3 => hnext p τ e g0 g1 (g2.trans hst) g3) hfull) (fun r hr => p_some hr)
  · obtain ⟨e, rfl⟩ : ∃ e, d = e + 1 := by
      cases d with
      | zero => exact absurd rfl w
      | succ e => exact ⟨e, rfl⟩
    refine p_guard (fun _ => p_guard (fun _ => ?_))
    have hS : M_put_stage σ (nI h) 3 = M_set_stage σ (upd (M_stage σ) h 3) := by
      show M_set_stage σ (upd (M_stage σ) (nI h).toNatClampNeg 3) = _
      rw [ch]
    rw [hS]
    have e1 : nI (e + 1) - 1 = nI e := nI_pred e
    rw [show M_foundType (M_set_stage σ (upd (M_stage σ) h 3)) = nI Y0 from hft, e1]
    refine p_bind (p_ok (s_M_ask (σ := M_set_stage σ (upd (M_stage σ) h 3)) (h := h + 1) hF.2.1.2 (by omega) (nI X0) (nI Y0) (nI e))) ?_
    rintro ⟨v3, S⟩ eS
    replace eS : S = mAsk (M_set_stage σ (upd (M_stage σ) h 3)) (h + 1) (nI X0) (nI Y0) (nI e) := eS
    refine p_some ?_
    show pU x Q S
    have hm := (hO.2.2.2.1 X0 Xt).2.1
    refine hrec e rfl (h + 1) X0 Y0 T S x Q hO (by rw [eS]; exact hrc) (by rw [eS]; exact hrt) (by rw [eS]; exact hfl) (by rw [eS]; rfl) (by rw [eS]; exact mAsk_left) (by rw [eS]; exact mAsk_right) (by rw [eS]; exact mAsk_deep) (by rw [eS]; exact mAsk_stage) (by rw [eS]; exact mAsk_size) (by rw [eS]; exact mAsk_at) Xt Yt (by omega) (by omega) ?_
    intro σ' hD
    have hSσ : ∀ f, f < h + 1 → M_left S f = M_left σ f ∧ M_right S f = M_right σ f ∧ M_deep S f = M_deep σ f ∧ M_least S f = M_least σ f ∧ M_at S f = M_at σ f ∧ M_size S f = M_size σ f ∧ ∀ k, k < 30 → M_parts S (30 * f + k) = M_parts σ (30 * f + k) := by
      intro f hf
      rw [eS]
      exact ⟨k_u hf, k_u hf, k_u hf, rfl, k_u hf, k_u hf, fun _ _ => rfl⟩
    have hstS : ∀ f, f < h → M_stage S f = M_stage σ f := by
      intro f hf
      rw [eS]
      show upd (upd (M_stage σ) h 3) (h + 1) 0 f = _
      rw [k_u (by omega), k_u hf]
    have hst3 : M_stage S h = 3 := by
      rw [eS]
      show upd (upd (M_stage σ) h 3) (h + 1) 0 h = _
      rw [k_u (by omega), k_upds]
    obtain ⟨⟨dK', dG, dS⟩, dF⟩ := hD
    have hKe : pKe σ σ' := by
      refine pKe_trans ?_ dK'
      rw [eS]; exact ⟨⟨rfl, rfl, rfl, rfl⟩, rfl, rfl, rfl, rfl, rfl, rfl, rfl, rfl⟩
    have hG : kAg (Tn T) σ σ' := by
      refine kAg_trans (t' := Tn T) ?_ dG (Nat.le_refl _)
      rw [eS]; exact kAg_refl (Tn T) σ
    clear eS
    have hgo : pGo σ σ' (Tn T) h := by
      refine ⟨hKe, hG, ?_⟩
      intro f hf
      obtain ⟨a1, a2, a3, a5, a6, a7, a8⟩ := hSσ f (by omega)
      obtain ⟨b1, b2, b3, b4, b5, b6, b7, b8⟩ := dS f (by omega)
      exact ⟨b1.trans a1, b2.trans a2, b3.trans a3, b4.trans (hstS f hf), b5.trans a5, b6.trans a6, b7.trans a7, fun k hk => (b8 k hk).trans (a8 k hk)⟩
    have eF : wUb C (wFd C e) 101 T X0 Y0 = wFd C (e + 1) T X0 Y0 := rfl
    rw [eF] at dF
    cases eo : wFd C (e + 1) T X0 Y0 with
    | none =>
      rw [eo] at dF hfull
      exact hfull σ' rfl hgo dF
    | some z =>
      rw [eo] at dF hfull hnext
      obtain ⟨f1, f2, f3, f4⟩ := dF
      obtain ⟨z1, z2, z3, z4⟩ := wFd_ok (C := C) (e + 1) T X0 Y0 hO Xt Yt z eo
      have z8 := z4 X8
      have hF' : pFr C g σ' z.2 h a b (e + 1) s c l := by
        obtain ⟨⟨q0, q1, q2⟩, ⟨q3, q4⟩, ⟨q5, q6, q7, q8⟩, q9, q10, q11, ⟨q12, q13⟩, q14, q15, q16⟩ := hF
        obtain ⟨a1, a2, a3, a5, a6, a7, a8⟩ := hSσ h (by omega)
        obtain ⟨g1, g2, g3, g4, g5, g6, g7, g8⟩ := dS h (by omega)
        have hl := q15.1
        refine ⟨⟨z1, rMc_ke q1 hKe, f2⟩, ⟨f1, f3⟩, ⟨(g1.trans a1).trans q5, (g2.trans a2).trans q6, Nat.lt_of_lt_of_le q7 z2.1, Nat.lt_of_lt_of_le q8 z2.1⟩, (g3.trans a3).trans q9, fun e he => ?_, wSok_ex q0.2 z2 q7 q8 q11, ⟨(g6.trans a6).trans q12, q13⟩, (g7.trans a7).trans q14, wLok_ex z2 q15, fun k hk => ?_⟩
        · rw [g5, a5]; exact q10 e he
        · exact ((g8 k (by omega)).trans (a8 k (by omega))).trans (q16 k hk)
      have hst' : M_stage σ' h = 3 := (dS h (by omega)).2.2.2.1.trans hst3
      refine p_turn f3 (by omega) f1 (fun q => by rw [hst'] at q; exact absurd q (by decide)) (fun q => by rw [hst'] at q; exact absurd q (by decide)) (fun q => by rw [hst'] at q; exact absurd q (by decide)) (fun _ _ _ => ?_)
      have hP : M_put_stage σ' (nI h) 2 = M_set_stage σ' (upd (M_stage σ') h 2) := by
        show M_set_stage σ' (upd (M_stage σ') (nI h).toNatClampNeg 2) = _
        rw [ch]
      rw [hP, ch, show M_at (M_set_stage σ' (upd (M_stage σ') h 2)) h = nI c from hF'.2.2.2.2.2.2.1.1, show M_answer (M_set_stage σ' (upd (M_stage σ') h 2)) = nI z.1 from f4]
      have hF2 : pFr C g (M_set_stage σ' (upd (M_stage σ') h 2)) z.2 h a b (e + 1) s c l := hF'
      have hgo2 : pGo σ (M_set_stage σ' (upd (M_stage σ') h 2)) (Tn T) h := by
        refine ⟨hKe, hG, ?_⟩
        intro f hf
        obtain ⟨b1, b2, b3, b4, b5, b6, b7, b8⟩ := hgo.2.2 f hf
        refine ⟨b1, b2, b3, ?_, b5, b6, b7, b8⟩
        show upd (M_stage σ') h 2 f = _
        rw [k_u hf]; exact b4
      have hok2 : wOk (Tn z.2) (Wg C c) (4 * z.1 + 2) := by rw [hgc]; exact Or.inr ⟨rfl, z.1, z8, z3, Or.inr rfl⟩
      have key := p_addNamed (σ := M_set_stage σ' (upd (M_stage σ') h 2)) z1 hF2.1.2.1 f2 f1 hc hok2
      have w1 : wH (4 * z.1 + 2) = 2 := wH_y rfl
      have w2 : wTd (4 * z.1 + 2) = nI z.1 := wTd_x (Or.inr rfl)
      rw [w1, w2] at key
      refine p_mono key ?_
      intro r8 hr8
      refine p_keep hF2 hc (by omega) hr8 ?_ ?_ ?_
      · intro p ep
        obtain ⟨n1, n2, n3, n4, n5⟩ := wNm_ok z1 hc hok2 ep
        exact ⟨n1, n2, n3, n4, _, n5⟩
      · intro p τ ep g0 g1 g2 g3
        refine hnext p τ ep (Nat.le_trans z2.1 g0) (pGo_trans hgo2 g1 z2.1 (Nat.le_refl h)) ?_ g3
        rw [g2]; exact k_upds
      · intro τ ep g1 g2
        exact hfull τ ep (pGo_trans hgo2 g1 z2.1 (Nat.le_refl h)) g2
theorem wLk_kB (h : wTok C T) (a b : Nat) : wLk C T (kBox a) b = wLk C T a b := by
  unfold kBox
  split
  · rename_i q; exact (wLk_box h q b).symm
  · rfl
theorem p_44c {h a b d c : Nat} {s : Nat → Bool} {l : List Nat} {x : Int32} {Q : Int32 × StM → Prop} (hrec : ∀ e, d = e + 1 → pRec C g e 101) (hF : pFr C g σ T h a b d s c l) (hc : c < Wn C) (hs : s c = true) (hst : M_stage σ h = 2) (hb : h + 1 + 101 * d ≤ 303)
    (hnext : ∀ p τ, ((wAr2 (wFd C d) T (wLg C T a c) (wLg C T b c)).bind (fun q => wNm q.2 c q.1)) = some p → Tn T ≤ Tn p.2 → pGo σ τ (Tn T) h → M_stage τ h = 2 → pFr C g τ p.2 h a b d s (c + 1) (l ++ [p.1]) → pU x Q τ)
    (hfull : ∀ τ, ((wAr2 (wFd C d) T (wLg C T a c) (wLg C T b c)).bind (fun q => wNm q.2 c q.1)) = none → pGo σ τ (Tn T) h → M_full τ = 1 → pU x Q τ) :
    k_pc (f_M_goOn_44 σ (nI h)) (fun r => pU x Q r.2) := by
  have hO := hF.1.1
  have hrc := hF.1.2.1
  have hrt := hF.1.2.2
  have hfl := hF.2.1.1
  have hn := hO.1.2.1
  have ht := hO.2.2.1
  have ht16 := hO.2.1
  have ch : (nI h).toNatClampNeg = h := nI_clamp (by omega)
  have cc : (nI c).toNatClampNeg = c := nI_clamp (by omega)
  obtain ⟨el, er, at', bt'⟩ := hF.2.2.1
  have hat : M_at σ h = nI c := hF.2.2.2.2.2.2.1.1
  obtain ⟨_, sa, sb⟩ := hF.2.2.2.2.2.1 c hs
  obtain ⟨la, oa⟩ := wLg_ok hO at' sa
  obtain ⟨lb, ob⟩ := wLg_ok hO bt' sb
  have hrg := (hrc.2.2 c hc).2.1
  revert hnext hfull la oa lb ob
  generalize wLg C T a c = X
  generalize wLg C T b c = Y
  intro hnext hfull la oa lb ob
  unfold f_M_goOn_44
  refine p_guard (fun _ => ?_)
  rw [ch, hat, show M_classes σ = nI (Wn C) from hrc.1]
  refine p_if (fun q => ?_) (fun _ => ?_)
  · rw [nI_eq (by omega) (by omega)] at q; omega
  refine p_guard (fun _ => p_guard (fun _ => ?_))
  rw [cc, hrg]
  refine p_if (fun w => ?_) (fun w => ?_)
  · have g0 : Wg C c = false := b2_0.mp w
    rw [g0] at oa ob
    have xa : X = 0 := by
      rcases oa with ⟨_, e⟩ | ⟨e, _⟩
      · exact e
      · cases e
    have xb : Y = 0 := by
      rcases ob with ⟨_, e⟩ | ⟨e, _⟩
      · exact e
      · cases e
    subst xa
    subst xb
    have eo : wAr2 (wFd C d) T 0 0 = some (0, T) := by unfold wAr2; rw [if_pos ⟨rfl, by decide⟩]
    rw [eo] at hnext hfull
    have hok : wOk (Tn T) (Wg C c) 0 := by rw [g0]; exact Or.inl ⟨rfl, rfl⟩
    have key := p_addNamed hO hrc hrt hfl hc hok
    have w1 : wH 0 = 0 := rfl
    have w2 : wTd 0 = -1 := rfl
    rw [w1, w2] at key
    refine p_bind key ?_
    intro r9 hr9
    refine p_bind (p_keep hF hc (by omega) hr9 ?_ (fun p τ e g0 g1 g2 g3 => hnext p τ e g0 g1 (g2.trans hst) g3) hfull) (fun r hr => p_some hr)
    intro p ep
    obtain ⟨n1, n2, n3, n4, n5⟩ := wNm_ok hO hc hok ep
    exact ⟨n1, n2, n3, n4, _, n5⟩
  · have g1 : Wg C c = true := by
      cases q : Wg C c with
      | true => rfl
      | false => rw [q] at w; exact absurd rfl w
    have hok : wOk (Tn T) (Wg C c) X := oa
    rw [g1] at oa ob
    refine p_guard (fun _ => ?_)
    rw [el]
    refine p_bind (r_M_lookAt hO hrc hrt (kBox_lt at' ht16) hc) ?_
    rintro ⟨v1, τ1⟩ e1
    rw [wLk_kB hO.2, la] at e1
    replace e1 : τ1 = mF σ 1 (wH X) (wTd X) := e1
    subst e1
    refine p_guard (fun _ => ?_)
    rw [show M_right (mF σ 1 (wH X) (wTd X)) h = nI (kBox b) from er]
    refine p_bind (r_M_lookAt (σ := mF σ 1 (wH X) (wTd X)) hO hrc hrt (kBox_lt bt' ht16) hc) ?_
    rintro ⟨v2, τ2⟩ e2
    rw [wLk_kB hO.2, lb] at e2
    replace e2 : τ2 = mF σ 1 (wH Y) (wTd Y) := e2
    subst e2
    have hF2 : pFr C g (mF σ 1 (wH Y) (wTd Y)) T h a b d s c l := hF
    have k237 : ¬ (X = Y ∧ X % 4 ≠ 2) → k_pc (f_M_goOn_237 (mF σ 1 (wH Y) (wTd Y)) (nI h) (nI c) (wTd X)) (fun r => pU x Q r.2) := by
      intro hxy
      have eo : (wAr2 (wFd C d) T X Y).bind (fun q => wNm q.2 c q.1) = (wFd C d T (X / 4) (Y / 4)).bind (fun q => wNm q.2 c (4 * q.1 + 2)) := by
        unfold wAr2
        rw [if_neg hxy]
        cases wFd C d T (X / 4) (Y / 4) <;> rfl
      rw [eo] at hnext hfull
      exact p_237 hrec hF2 hc g1 hst hb oa ob rfl hnext hfull
    obtain ⟨X0, X8, Xt, Xe⟩ := wOk_t oa
    obtain ⟨Y0, Y8, Yt, Ye⟩ := wOk_t ob
    refine p_if (fun w1 => ?_) (fun w1 => k237 ?_)
    · replace w1 : wH X = 1 := w1
      refine p_if (fun w2 => ?_) (fun w2 => k237 ?_)
      · replace w2 : wH Y = 1 := w2
        refine p_if (fun w3 => ?_) (fun w3 => k237 ?_)
        · replace w3 : wTd X = wTd Y := w3
          rw [wTd_x Xe, wTd_x Ye, nI_eq (by omega) (by omega)] at w3
          have x1 : X = 4 * X0 + 1 := by
            rcases Xe with e | e
            · exact e
            · rw [wH_y e] at w1; exact absurd w1 (by decide)
          have y1 : Y = 4 * Y0 + 1 := by
            rcases Ye with e | e
            · exact e
            · rw [wH_y e] at w2; exact absurd w2 (by decide)
          have eo : wAr2 (wFd C d) T X Y = some (X, T) := by unfold wAr2; rw [if_pos ⟨by omega, by omega⟩]
          rw [eo] at hnext hfull
          have key := p_addNamed (σ := mF σ 1 (wH Y) (wTd Y)) hO hrc hrt hfl hc hok
          rw [w1] at key
          refine p_bind key ?_
          intro r7 hr7
          refine p_bind (p_keep hF2 hc (by omega) hr7 ?_ (fun p τ e g0 g1 g2 g3 => hnext p τ e g0 g1 (g2.trans hst) g3) hfull) (fun r hr => p_some hr)
          intro p ep
          obtain ⟨n1, n2, n3, n4, n5⟩ := wNm_ok hO hc hok ep
          exact ⟨n1, n2, n3, n4, _, n5⟩
        · replace w3 : ¬ wTd X = wTd Y := w3
          rintro ⟨e, _⟩
          exact w3 (by rw [e])
      · replace w2 : ¬ wH Y = 1 := w2
        rintro ⟨e, e2⟩
        rcases Ye with e3 | e3
        · exact w2 (wH_x e3)
        · omega
    · replace w1 : ¬ wH X = 1 := w1
      rintro ⟨e, e2⟩
      rcases Xe with e3 | e3
      · exact w1 (wH_x e3)
      · omega
theorem wCls_skip {F : wWt → Nat → Nat → Option (Nat × wWt)} {a b : Nat} {s : Nat → Bool} {l : List Nat} : ∀ (n c : Nat), c + n ≤ 30 → (∀ j, c ≤ j → j < c + n → s j = false) → wCls C F a b s (30 - c) c T l = wCls C F a b s (30 - (c + n)) (c + n) T l := by
  intro n
  induction n with
  | zero => intro c _ _; rfl
  | succ n ih =>
    intro c h1 h2
    have e : 30 - c = (30 - (c + 1)) + 1 := by omega
    rw [e, wCls, if_neg (by rw [h2 c (Nat.le_refl c) (by omega)]; decide), ih (c + 1) (by omega) (fun j j1 j2 => h2 j (by omega) (by omega)), show c + 1 + n = c + (n + 1) by omega]
theorem wCls_end {F : wWt → Nat → Nat → Option (Nat × wWt)} {a b c : Nat} {s : Nat → Bool} {l : List Nat} (hs : ∀ j, c ≤ j → s j = false) (hc : c ≤ 30) : wCls C F a b s (30 - c) c T l = wInt T l := by
  rw [wCls_skip (30 - c) c (by omega) (fun j j1 _ => hs j j1), show c + (30 - c) = 30 by omega]; rfl
theorem wCls_some {F : wWt → Nat → Nat → Option (Nat × wWt)} {a b c : Nat} {s : Nat → Bool} {l : List Nat} {p : Nat × wWt} (hc : c < 30) (hs : s c = true) (e : ((wAr2 F T (wLg C T a c) (wLg C T b c)).bind (fun q => wNm q.2 c q.1)) = some p) : wCls C F a b s (30 - c) c T l = wCls C F a b s (30 - (c + 1)) (c + 1) p.2 (l ++ [p.1]) := by
  rw [show 30 - c = (30 - (c + 1)) + 1 by omega, wCls, if_pos hs]
  cases e1 : wAr2 F T (wLg C T a c) (wLg C T b c) with
  | none => rw [e1] at e; cases e
  | some q =>
    rw [e1] at e
    replace e : wNm q.2 c q.1 = some p := e
    show (wNm q.2 c q.1).bind _ = _
    rw [e]; rfl
theorem wCls_none {F : wWt → Nat → Nat → Option (Nat × wWt)} {a b c : Nat} {s : Nat → Bool} {l : List Nat} (hc : c < 30) (hs : s c = true) (e : ((wAr2 F T (wLg C T a c) (wLg C T b c)).bind (fun q => wNm q.2 c q.1)) = none) : wCls C F a b s (30 - c) c T l = none := by
  rw [show 30 - c = (30 - (c + 1)) + 1 by omega, wCls, if_pos hs]
  cases e1 : wAr2 F T (wLg C T a c) (wLg C T b c) with
  | none => rfl
  | some q =>
    rw [e1] at e
    replace e : wNm q.2 c q.1 = none := e
    show (wNm q.2 c q.1).bind _ = _
    rw [e]; rfl
end
theorem p_cls {C : wWc} {g d : Nat} (hrec : ∀ e, d = e + 1 → pRec C g e 101) : ∀ (j c : Nat) (l : List Nat) (h a b : Nat) (s : Nat → Bool) (T : wWt) (σ : StM) (x : Int32) (Q : Int32 × StM → Prop), Wn C - c ≤ j → pFr C g σ T h a b d s c l → M_stage σ h = 2 → h + 1 + 101 * d ≤ 303 → (l ≠ [] ∨ ∃ k, c ≤ k ∧ k < Wn C ∧ s k = true) →
    (∀ σ', pDn σ T h (wCls C (wFd C d) a b s (30 - c) c T l) σ' → pU x Q σ') → pU x Q σ := by
  intro j
  induction j using Nat.strongRecOn with
  | ind j ih =>
    intro c l h a b s T σ x Q hj hF hst hb hne hk
    have hn := hF.1.1.1.2.1
    have hcn : c ≤ Wn C := hF.2.2.2.2.2.2.1.2
    have hat := hF.2.2.2.2.2.2.1.1
    have hsok := hF.2.2.2.2.2.1
    refine p_turn hF.2.1.2 (by omega) hF.2.1.1 (fun q => by rw [hst] at q; exact absurd q (by decide)) (fun q => by rw [hst] at q; exact absurd q (by decide)) (fun _ => ?_) (fun _ _ q => absurd hst q)
    unfold f_M_goOn
    refine p_skip hF (by omega) ?_ 1000 c (M_at σ) (Nat.le_refl c) hcn hat (fun _ _ => rfl) (fun j j1 j2 => by omega)
    intro c' α h0 hF' hS hc' hz
    have hcn' : c' ≤ Wn C := hF'.2.2.2.2.2.2.1.2
    have hgo : pGo σ (M_set_at σ α) (Tn T) h := ⟨⟨⟨rfl, rfl, rfl, rfl⟩, rfl, rfl, rfl, rfl, rfl, rfl, rfl, rfl⟩, kAg_refl _ σ, hS⟩
    have esk : wCls C (wFd C d) a b s (30 - c) c T l = wCls C (wFd C d) a b s (30 - c') c' T l := by
      have := wCls_skip (C := C) (F := wFd C d) (a := a) (b := b) (s := s) (T := T) (l := l) (c' - c) c (by omega) (fun j j1 j2 => hz j j1 (by omega))
      rw [show c + (c' - c) = c' by omega] at this; exact this
    rw [esk] at hk
    by_cases ec : c' = Wn C
    · subst ec
      have hne' : l ≠ [] := by
        rcases hne with w | ⟨k, k1, k2, k3⟩
        · exact w
        · rw [hz k k1 k2] at k3; cases k3
      refine p_44n hF' (by omega) hne' (fun σ' hD => hk σ' ?_)
      rw [wCls_end (fun j hj => ?_) hn]
      · exact pDn_trans hgo (Nat.le_refl _) hD
      · cases e : s j with
        | false => rfl
        | true => have := (hsok j e).1; omega
    · have hsc : s c' = true := by
        rcases hc' with q | q
        · exact absurd q ec
        · exact q
      refine p_44c hrec hF' (by omega) hsc hst hb ?_ ?_
      · intro p τ e g0 g1 g2 g3
        refine ih (Wn C - (c' + 1)) (by omega) (c' + 1) (l ++ [p.1]) h a b s p.2 τ x Q (Nat.le_refl _) g3 g2 hb (Or.inl (by simp)) ?_
        intro σ' hD
        refine hk σ' ?_
        rw [wCls_some (by omega) hsc e]
        exact pDn_trans (pGo_trans hgo g1 (Nat.le_refl _) (Nat.le_refl h)) g0 hD
      · intro τ e g1 g2
        refine hk τ ?_
        rw [wCls_none (by omega) hsc e]
        exact ⟨pGo_trans hgo g1 (Nat.le_refl _) (Nat.le_refl h), g2⟩
-- part 08.83.upM3.lean.txt
/-! Tier 3: the reference's upper runs to THE UPPER BOUND. -/
section
variable {σ : StM} {C : wWc} {T : wWt} {g : Nat}
theorem p_174 {h a b d : Nat} {x : Int32} {Q : Int32 × StM → Prop} (hrec : ∀ e, d = e + 1 → pRec C g e 101) (hO : wOK C T) (r : rMc σ C g) (q : rMt σ T) (hf : M_full σ = 0) (hh : M_high σ = nI (h + 1)) (el : M_left σ h = nI (kBox a)) (er : M_right σ h = nI (kBox b)) (edp : M_deep σ h = nI d) (esz : M_size σ h = 0) (eat : M_at σ h = 0)
    (ha : a < Tn T) (hb : b < Tn T) (hB : h + 1 + 101 * d ≤ 303)
    (hk : ∀ σ', pDn σ T h (wCls C (wFd C d) a b (wLs2 C T a b) 30 0 T []) σ' → pU x Q σ') :
    k_pc (f_M_begin_174 σ (nI h) (nI (kBox a)) (nI (kBox b))) (fun r => pU x Q r.2) := by
  have hn := hO.1.2.1
  have ht16 := hO.2.1
  have ch : (nI h).toNatClampNeg = h := nI_clamp (by omega)
  unfold f_M_begin_174
  refine p_bind (r_M_commonOf hO r q (kBox_lt ha ht16) (kBox_lt hb ht16)) ?_
  rintro ⟨v, τ⟩ ⟨⟨a', h', g', e⟩, hv⟩
  replace e : τ = mF σ a' h' g' := e
  subst e
  have hv' : ∀ c, c < 32 → bt v c = (fun c => wSee C T a c && wSee C T b c) c := by
    intro c hc
    have w := hv c hc
    unfold wSee at w ⊢
    rw [wLk_kB hO.2, wLk_kB hO.2] at w
    exact w
  refine p_bind (r_M_leastOf (σ := mF σ a' h' g') hO.1 r hv') ?_
  intro r2 hr2
  refine p_guard (fun _ => p_guard (fun _ => p_some ?_))
  show pU x Q (M_put_stage (M_put_least (mF σ a' h' g') (nI h) r2) (nI h) 2)
  have eS : M_put_stage (M_put_least (mF σ a' h' g') (nI h) r2) (nI h) 2 = M_set_stage (M_set_least (mF σ a' h' g') (upd (M_least σ) h r2)) (upd (M_stage σ) h 2) := by
    show M_set_stage (M_set_least (mF σ a' h' g') (upd (M_least σ) (nI h).toNatClampNeg r2)) (upd (M_stage σ) (nI h).toNatClampNeg 2) = _
    rw [ch]
  rw [eS]
  have hgo : pGo σ (M_set_stage (M_set_least (mF σ a' h' g') (upd (M_least σ) h r2)) (upd (M_stage σ) h 2)) (Tn T) h := by
    refine ⟨⟨⟨rfl, rfl, rfl, rfl⟩, rfl, rfl, rfl, rfl, rfl, rfl, rfl, rfl⟩, kAg_refl _ σ, ?_⟩
    intro f hf
    refine ⟨rfl, rfl, rfl, k_u hf, k_u hf, rfl, rfl, fun _ _ => rfl⟩
  obtain ⟨s1, k, k1, k2⟩ := wLs2_ok hO ha hb
  refine p_cls hrec (Wn C) 0 [] h a b (wLs2 C T a b) T _ x Q (by omega) ?_ k_upds hB (Or.inr ⟨k, by omega, k1, k2⟩) ?_
  · refine ⟨⟨hO, r, q⟩, ⟨hf, hh⟩, ⟨el, er, ha, hb⟩, edp, fun e he => ?_, s1, ⟨eat, by omega⟩, esz, wLok_nil T, fun k hk => absurd hk (by simp)⟩
    show bt (upd (M_least σ) h r2 h) e = _
    rw [k_upds]
    exact hr2 e he
  · intro σ' hD
    exact hk σ' (pDn_trans hgo (Nat.le_refl _) hD)
/-- the bound of two ARRAYS' ELEMENTS, and then their ARRAY -/
theorem p_arr {h d f e1 e2 : Nat} {ν : StM} {x : Int32} {Q : Int32 × StM → Prop} (ih : pRec C g d f) (hO : wOK C T) (r : rMc ν C g) (q : rMt ν T) (hf : M_full ν = 0) (hh : M_high ν = nI (h + 1)) (hst : M_stage ν h = 1) (t1 : e1 < Tn T) (t2 : e2 < Tn T) (hm : Tm T e1 < f) (hB : h + 1 + f + 101 * d ≤ 303)
    (hk : ∀ σ', pDn ν T h ((wUb C (wFd C d) f T e1 e2).bind wArr) σ' → pU x Q σ') :
    k_pc ((f_M_ask ν (nI e1) (nI e2) (nI d)).bind fun r3 => some ((0 : Int32), r3.2)) (fun r => pU x Q r.2) := by
  refine p_bind (p_ok (s_M_ask (σ := ν) (h := h + 1) hh (by omega) (nI e1) (nI e2) (nI d))) ?_
  rintro ⟨v3, S⟩ eS
  replace eS : S = mAsk ν (h + 1) (nI e1) (nI e2) (nI d) := eS
  refine p_some ?_
  show pU x Q S
  have go : pGo ν S (Tn T) (h + 1) := by
    rw [eS]
    exact ⟨⟨⟨rfl, rfl, rfl, rfl⟩, mAsk_kA⟩, mAsk_kAg, mAsk_kSt⟩
  refine ih (h + 1) e1 e2 T S x Q hO (rMc_ke r go.1) (by rw [eS]; exact q) (by rw [eS, mAsk_full]; exact hf) (by rw [eS]; exact mAsk_high) (by rw [eS]; exact mAsk_left) (by rw [eS]; exact mAsk_right) (by rw [eS]; exact mAsk_deep) (by rw [eS]; exact mAsk_stage) (by rw [eS]; exact mAsk_size) (by rw [eS]; exact mAsk_at) t1 t2 hm (by omega) ?_
  clear eS
  intro σ' hD
  obtain ⟨dgo, dF⟩ := hD
  have hgo1 : pGo ν σ' (Tn T) (h + 1) := pGo_trans go dgo (Nat.le_refl _) (Nat.le_refl (h + 1))
  have hgo : pGo ν σ' (Tn T) h := ⟨hgo1.1, hgo1.2.1, fun f hf => hgo1.2.2 f (by omega)⟩
  cases eo : wUb C (wFd C d) f T e1 e2 with
  | none =>
    rw [eo] at dF hk
    exact hk σ' ⟨hgo, dF⟩
  | some z =>
    rw [eo] at dF hk
    obtain ⟨f1, f2, f3, f4⟩ := dF
    obtain ⟨z1, z2, z3, _⟩ := wUb_ok (wFd_ok (C := C) d) f T e1 e2 hO t1 t2 z eo
    have hst' : M_stage σ' h = 1 := (hgo1.2.2 h (by omega)).2.2.2.1.trans hst
    refine p_turn f3 (by omega) f1 (fun q => by rw [hst'] at q; exact absurd q (by decide)) (fun _ => ?_) (fun q => by rw [hst'] at q; exact absurd q (by decide)) (fun _ q => absurd hst' q)
    rw [f4]
    refine p_mono (p_addArray (σ := σ') z1 (rMc_ke r hgo.1) f2 f1 z3) ?_
    rintro ⟨v5, τ⟩ ⟨⟨bb, eb⟩, ha, hff⟩
    replace eb : τ = mB σ' bb := eb
    replace ha : kAg (Tn z.2) σ' τ := ha
    have gτ : pGo σ' τ (Tn z.2) h := by
      rw [eb] at ha ⊢
      exact ⟨pKe_mB σ' bb, ha, kSt_refl h σ'⟩
    have eh : M_high τ = nI (h + 1) := by rw [eb]; exact f3
    have eh1 : M_high τ - 1 = nI h := by rw [eh]; exact nI_pred h
    clear eb
    refine p_some ?_
    show pU x Q (M_set_high (M_set_answer τ v5) (M_high τ - 1))
    have g6 : pGo τ (M_set_high (M_set_answer τ v5) (M_high τ - 1)) (Tn z.2) h := ⟨⟨⟨rfl, rfl, rfl, rfl⟩, rfl, rfl, rfl, rfl, rfl, rfl, rfl, rfl⟩, kAg_refl _ τ, kSt_refl h τ⟩
    refine hk _ ⟨pGo_trans hgo (pGo_trans gτ g6 (Nat.le_refl _) (Nat.le_refl h)) z2.1 (Nat.le_refl h), ?_⟩
    show pOu h (wArr z) _
    have ez : wArr (z.1, z.2) = wArr z := rfl
    rw [ez] at hff
    cases eo2 : wArr z with
    | none => rw [eo2] at hff; exact hff.2
    | some y =>
      rw [eo2] at hff
      exact ⟨hff.2.2, hff.2.1, eh1, hff.1⟩
theorem kBox_2 (h : wTok C T) {a : Nat} (_ha : a < Tn T) (e : dK (Ty T (kBox a)) = 2) : kBox a = a := by
  unfold kBox at e ⊢
  split
  · rename_i q
    rw [if_pos q, h.2.2.2 (a + 8) (by omega) (by omega)] at e
    cases e
  · rfl
theorem kBox_3 (h : wTok C T) {a : Nat} (ha : a < Tn T) (e : wAO T a = true) : kBox a = a := by
  obtain ⟨w, _⟩ := wAO_el h ha e
  exact kBox_id (wT_arr h ha w).1
/-- a frame with its ends in boxes, in S -/
theorem p_85 {h a b d f : Nat} {S : StM} {x : Int32} {Q : Int32 × StM → Prop} (hrec : ∀ e, d = e + 1 → pRec C g e 101) (ih : pRec C g d f)
    (eS : M_put_right (M_put_left σ (nI h) (nI (kBox a))) (nI h) (nI (kBox b)) = S) (hO : wOK C T) (r : rMc S C g) (q : rMt S T) (hf : M_full S = 0) (hh : M_high S = nI (h + 1)) (el : M_left S h = nI (kBox a)) (er : M_right S h = nI (kBox b)) (edp : M_deep S h = nI d) (esz : M_size S h = 0) (eat : M_at S h = 0)
    (ha : a < Tn T) (hb : b < Tn T) (hm : Tm T a < f + 1) (hB : h + (f + 1) + 101 * d ≤ 303)
    (hk : ∀ σ', pDn S T h (if wAO T a = true ∧ wAO T b = true then (wUb C (wFd C d) f T (dX (Ty T a)) (dX (Ty T b))).bind wArr else wCls C (wFd C d) a b (wLs2 C T a b) 30 0 T []) σ' → pU x Q σ') :
    k_pc (f_M_begin_85 σ (nI h) (nI (kBox a)) (nI (kBox b))) (fun r => pU x Q r.2) := by
  have ht := hO.2.2.1
  have ht16 := hO.2.1
  have bat := kBox_lt ha ht16
  have bbt := kBox_lt hb ht16
  have ch : (nI h).toNatClampNeg = h := nI_clamp (by omega)
  have ca : (nI (kBox a)).toNatClampNeg = kBox a := nI_clamp (by omega)
  have cb : (nI (kBox b)).toNatClampNeg = kBox b := nI_clamp (by omega)
  have k174 : ¬ (wAO T a = true ∧ wAO T b = true) → k_pc (f_M_begin_174 S (nI h) (nI (kBox a)) (nI (kBox b))) (fun r => pU x Q r.2) := by
    intro hno
    rw [if_neg hno] at hk
    exact p_174 hrec hO r q hf hh el er edp esz eat ha hb (by omega) hk
  have kd : ∀ i, i < Tn T → (M_kind S i = 2 ↔ dK (Ty T i) = 2) := by
    intro i hi
    rw [(q.2 i hi).1]
    show nI _ = nI 2 ↔ _
    rw [nI_eq (by have := wK_lt hO.2 hi; omega) (by decide)]
  unfold f_M_begin_85
  rw [eS]
  clear eS
  refine p_guard (fun _ => p_guard (fun _ => p_guard (fun _ => ?_)))
  rw [ca]
  refine p_if (fun w1 => ?_) (fun w1 => k174 ?_)
  · rw [kd _ bat] at w1
    have ea := kBox_2 hO.2 ha w1
    refine p_guard (fun _ => ?_)
    rw [cb]
    refine p_if (fun w2 => ?_) (fun w2 => k174 ?_)
    · rw [kd _ bbt] at w2
      have eb := kBox_2 hO.2 hb w2
      have ia : M_inner S (kBox a) = nI (dX (Ty T a)) := by
        rw [ea] at w1 ⊢
        rw [(q.2 a ha).2.2.2.1, if_neg (by omega), if_pos w1]
      have ib : M_inner S (kBox b) = nI (dX (Ty T b)) := by
        rw [eb] at w2 ⊢
        rw [(q.2 b hb).2.2.2.1, if_neg (by omega), if_pos w2]
      rw [ea] at w1
      rw [eb] at w2
      obtain ⟨_, xa, ma⟩ := wT_arr hO.2 ha w1
      obtain ⟨_, xb, _⟩ := wT_arr hO.2 hb w2
      refine p_guard (fun _ => p_if (fun w3 => k174 ?_) (fun w3 => ?_))
      · have w4 : nI (dX (Ty T a)) ≤ nI 7 := by rw [← ia]; exact w3
        rw [nI_leI (by omega) (by decide)] at w4
        rintro ⟨z, _⟩
        have := (wAO_el hO.2 ha z).2.1
        omega
      · refine p_guard (fun _ => p_if (fun w4 => k174 ?_) (fun w4 => ?_))
        · have w5 : nI (dX (Ty T b)) ≤ nI 7 := by rw [← ib]; exact w4
          rw [nI_leI (by omega) (by decide)] at w5
          rintro ⟨_, z⟩
          have := (wAO_el hO.2 hb z).2.1
          omega
        · have v3 : ¬ nI (dX (Ty T a)) ≤ nI 7 := by rw [← ia]; exact w3
          have v4 : ¬ nI (dX (Ty T b)) ≤ nI 7 := by rw [← ib]; exact w4
          rw [nI_leI (by omega) (by decide)] at v3 v4
          have hao : wAO T a = true ∧ wAO T b = true := by
            unfold wAO
            rw [decide_eq_true w1, decide_eq_true w2, decide_eq_true (show 8 ≤ dX (Ty T a) by omega), decide_eq_true (show 8 ≤ dX (Ty T b) by omega)]
            exact ⟨rfl, rfl⟩
          rw [if_pos hao] at hk
          refine p_guard (fun _ => p_guard (fun _ => p_guard (fun _ => p_guard (fun _ => ?_))))
          have eT : M_put_stage S (nI h) 1 = M_set_stage S (upd (M_stage S) h 1) := by
            show M_set_stage S (upd (M_stage S) (nI h).toNatClampNeg 1) = _
            rw [ch]
          rw [eT, ch]
          have t1 : M_inner (M_set_stage S (upd (M_stage S) h 1)) (kBox a) = nI (dX (Ty T a)) := ia
          have t2 : M_inner (M_set_stage S (upd (M_stage S) h 1)) (kBox b) = nI (dX (Ty T b)) := ib
          have t3 : M_deep (M_set_stage S (upd (M_stage S) h 1)) h = nI d := edp
          have t4 : rMc (M_set_stage S (upd (M_stage S) h 1)) C g := r
          have t4' : rMt (M_set_stage S (upd (M_stage S) h 1)) T := q
          have t5 : M_full (M_set_stage S (upd (M_stage S) h 1)) = 0 := hf
          have t6 : M_high (M_set_stage S (upd (M_stage S) h 1)) = nI (h + 1) := hh
          have t7 : M_stage (M_set_stage S (upd (M_stage S) h 1)) h = 1 := k_upds
          have t9 : pGo S (M_set_stage S (upd (M_stage S) h 1)) (Tn T) h := by
            refine ⟨⟨⟨rfl, rfl, rfl, rfl⟩, rfl, rfl, rfl, rfl, rfl, rfl, rfl, rfl⟩, kAg_refl _ S, ?_⟩
            intro f hf
            exact ⟨rfl, rfl, rfl, k_u hf, rfl, rfl, rfl, fun _ _ => rfl⟩
          rw [t1, t2, t3]
          clear t1 t2 t3 eT
          revert t4 t4' t5 t6 t7 t9
          generalize M_set_stage S (upd (M_stage S) h 1) = ν
          intro t4 t4' t5 t6 t7 t9
          refine p_arr ih hO t4 t4' t5 t6 t7 (by omega) (by omega) (by omega) (by omega) ?_
          intro σ' hD
          exact hk σ' (pDn_trans t9 (Nat.le_refl _) hD)
    · rintro ⟨_, z⟩
      have e := kBox_3 hO.2 hb z
      exact w2 ((kd _ bbt).mpr (by rw [e]; exact (wAO_el hO.2 hb z).1))
  · rintro ⟨z, _⟩
    have e := kBox_3 hO.2 ha z
    exact w1 ((kd _ bat).mpr (by rw [e]; exact (wAO_el hO.2 ha z).1))
end
theorem p_run1 {C : wWc} {g d : Nat} (hrec : ∀ e, d = e + 1 → pRec C g e 101) : ∀ f, pRec C g d f := by
  intro f
  induction f with
  | zero =>
    intro h a b T σ x Q _ _ _ _ _ _ _ _ _ _ _ _ _ hm _ _
    omega
  | succ f ih =>
    intro h a b T σ x Q hO r q hf hh el er edp est esz eat ha hb hm hB hk
    have ht := hO.2.2.1
    have ht16 := hO.2.1
    have ch : (nI h).toNatClampNeg = h := nI_clamp (by omega)
    rw [wUb] at hk
    refine p_turn hh (by omega) hf (fun _ => ?_) (fun q => by rw [est] at q; exact absurd q (by decide)) (fun q => by rw [est] at q; exact absurd q (by decide)) (fun q => absurd est q)
    have k85 : ¬ a = b → k_pc (f_M_begin_85 σ (nI h) (nI (kBox a)) (nI (kBox b))) (fun r => pU x Q r.2) := by
      intro hab
      rw [if_neg hab] at hk
      have eS : M_put_right (M_put_left σ (nI h) (nI (kBox a))) (nI h) (nI (kBox b)) = M_set_right (M_set_left σ (upd (M_left σ) h (nI (kBox a)))) (upd (M_right σ) h (nI (kBox b))) := by
        show M_set_right (M_set_left σ (upd (M_left σ) (nI h).toNatClampNeg (nI (kBox a)))) (upd (M_right σ) (nI h).toNatClampNeg (nI (kBox b))) = _
        rw [ch]
      have hgoS : pGo σ (M_set_right (M_set_left σ (upd (M_left σ) h (nI (kBox a)))) (upd (M_right σ) h (nI (kBox b)))) (Tn T) h := by
        refine ⟨⟨⟨rfl, rfl, rfl, rfl⟩, rfl, rfl, rfl, rfl, rfl, rfl, rfl, rfl⟩, kAg_refl _ σ, ?_⟩
        intro f hf
        exact ⟨k_u hf, k_u hf, rfl, rfl, rfl, rfl, rfl, fun _ _ => rfl⟩
      refine p_85 hrec ih eS hO r q hf hh k_upds k_upds edp esz eat ha hb hm hB ?_
      intro σ' hD
      exact hk σ' (pDn_trans hgoS (Nat.le_refl _) hD)
    have k55 : ¬ a = b → k_pc (f_M_begin_55 σ (nI h) (nI (kBox a))) (fun r => pU x Q r.2) := by
      intro hab
      have k85 := k85 hab
      unfold f_M_begin_55
      refine p_guard (fun _ => ?_)
      rw [ch, er]
      refine p_if (fun q => ?_) (fun q => ?_)
      · have q2 : nI 8 ≤ nI b := q
        rw [nI_leI (by decide) (by omega)] at q2
        rw [kBox_id q2] at k85
        exact p_guard (fun _ => k85)
      · have q2 : ¬ nI 8 ≤ nI b := q
        rw [nI_leI (by decide) (by omega)] at q2
        have e : nI b + 8 = nI (kBox b) := by rw [show kBox b = b + 8 from if_pos (by omega)]; exact nI_add b 8
        rw [e]
        exact p_guard (fun _ => k85)
    unfold f_M_begin
    refine p_guard (fun _ => p_guard (fun _ => ?_))
    rw [ch, el, er]
    refine p_if (fun w => ?_) (fun w => ?_)
    · rw [nI_eq (by omega) (by omega)] at w
      rw [if_pos w] at hk
      refine p_guard (fun _ => ?_)
      refine p_bind (P := fun r => r.2 = M_set_high (M_set_answer σ (nI a)) (M_high σ - 1)) (p_some rfl) ?_
      rintro ⟨v6, τ6⟩ e6
      replace e6 : τ6 = M_set_high (M_set_answer σ (nI a)) (M_high σ - 1) := e6
      have eh1 : M_high σ - 1 = nI h := by rw [hh]; exact nI_pred h
      refine p_some (hk τ6 ⟨?_, ?_⟩)
      · rw [e6]
        exact ⟨⟨⟨rfl, rfl, rfl, rfl⟩, rfl, rfl, rfl, rfl, rfl, rfl, rfl, rfl⟩, kAg_refl _ σ, kSt_refl h σ⟩
      · rw [e6]
        exact ⟨hf, q, eh1, rfl⟩
    · rw [nI_eq (by omega) (by omega)] at w
      have k55 := k55 w
      refine p_guard (fun _ => p_if (fun q => ?_) (fun q => ?_))
      · have q2 : nI 8 ≤ nI a := q
        rw [nI_leI (by decide) (by omega)] at q2
        rw [kBox_id q2] at k55
        exact p_guard (fun _ => k55)
      · have q2 : ¬ nI 8 ≤ nI a := q
        rw [nI_leI (by decide) (by omega)] at q2
        have e : nI a + 8 = nI (kBox a) := by rw [show kBox a = a + 8 from if_pos (by omega)]; exact nI_add a 8
        rw [e]
        exact p_guard (fun _ => k55)
theorem p_run {C : wWc} {g : Nat} : ∀ d, pRec C g d 101 := by
  intro d
  induction d with
  | zero => exact p_run1 (fun e q => by omega) 101
  | succ d ih =>
    refine p_run1 (fun e q => ?_) 101
    have ee : e = d := by omega
    subst ee
    exact ih
-- part 08.84.abS.lean.txt
/-! Tier 3: class c gets an edge: the tables. -/
def wSet (C : wWc) (c k to A : Nat) : wWc := (Wn C, Wf C, Wg C, wUp (Wd C) c (if Wd C c < k + 1 then k + 1 else Wd C c), wUp (Wo C) c (wUp (Wo C c) k to), wUp (Wa C) c (wUp (Wa C c) k A), wUp (Wu C) c (fun b => Wu C c b || wTw C to b))
def wArOk (C : wWc) (t c to A : Nat) : Prop := (Wg C to = false ∧ A = 0) ∨ (Wg C to = true ∧ ((∃ x, 8 ≤ x ∧ x < t ∧ A = 4 * x + 1) ∨ (A = 3 ∧ Wg C c = true)))
section
variable {C : wWc} {t : Nat}
theorem wSet_agr (h : wCok C t) {c k to A : Nat} (hc : c < Wn C) : wAgr c C (wSet C c k to A) := by
  intro x hx
  have ne : x ≠ c := by omega
  have e4 : Wo (wSet C c k to A) x = Wo C x := wUp_n ne
  have e5 : Wa (wSet C c k to A) x = Wa C x := wUp_n ne
  have e6 : Wu (wSet C c k to A) x = Wu C x := wUp_n ne
  exact ⟨rfl, rfl, wUp_n ne, fun j hj => ⟨by rw [e4], by rw [e5], (h.2.2.2.1 x j (by omega) hj).1⟩, fun b => by rw [e6]⟩
theorem wTw_root (h : wCok C t) {c : Nat} (hc : c < Wn C) : wTw C c 0 = true := wTw_0 (T := (t, fun _ => (0, 0, 0, []), fun _ => 0)) h c hc
theorem wTw_of0 (h : wCok C t) {b : Nat} (q : wTw C 0 b = true) : b = 0 := by
  have n13 := h.1
  have := wTw_le h (show 0 < Wn C by omega) q
  omega
theorem wSet_ok (h : wCok C t) {c k to A : Nat} (hc : c + 1 = Wn C) (h13 : 13 ≤ c) (hto : to < c) (hA : wArOk C t c to A) (hno : ∀ j, j < Wd C c → Wo C c j ≠ to) (hk : k = Wd C c ∨ (k = 0 ∧ Wo C c 0 = 0))
    (hcl : ∀ b, b < Wn C → Wg C b = true → Wu C c b = true → wTw C to b = true → wCl C c 3 b = wCl C to A b) : wCok (wSet C c k to A) t := by
  have ag : wAgr c C (wSet C c k to A) := wSet_agr h (by omega)
  have hd0 := (h.2.2.1 c (by omega)).2 (by omega)
  have dN : Wd (wSet C c k to A) c = (if Wd C c < k + 1 then k + 1 else Wd C c) := wUp_s
  have oN : Wo (wSet C c k to A) c = wUp (Wo C c) k to := wUp_s
  have aN : Wa (wSet C c k to A) c = wUp (Wa C c) k A := wUp_s
  have uN : Wu (wSet C c k to A) c = fun b => Wu C c b || wTw C to b := wUp_s
  obtain ⟨D, hD⟩ : ∃ D, D = (if Wd C c < k + 1 then k + 1 else Wd C c) := ⟨_, rfl⟩
  rw [← hD] at dN
  have kD : k < D ∧ Wd C c ≤ D ∧ ∀ j, j < D → j ≠ k → j < Wd C c := by
    rcases hk with e | ⟨e, _⟩
    · rw [if_pos (by omega)] at hD
      exact ⟨by omega, by omega, fun j j1 j2 => by omega⟩
    · rw [if_neg (by omega)] at hD
      exact ⟨by omega, by omega, fun j j1 j2 => by omega⟩
  obtain ⟨kD1, kD2, kD3⟩ := kD
  have oE : ∀ j, j < D → Wo (wSet C c k to A) c j < c := by
    intro j hj
    rw [oN]
    by_cases e : j = k
    · rw [e, wUp_s]; exact hto
    · rw [wUp_n e]; exact (h.2.2.2.1 c j (by omega) (kD3 j hj e)).1
  have dist : ∀ i j, i < j → j < D → Wo (wSet C c k to A) c i ≠ Wo (wSet C c k to A) c j := by
    intro i j ij hj
    rw [oN]
    by_cases e1 : i = k
    · by_cases e2 : j = k
      · omega
      · rw [e1, wUp_s, wUp_n e2]
        exact fun q => hno j (kD3 j hj e2) q.symm
    · by_cases e2 : j = k
      · rw [e2, wUp_s, wUp_n e1]
        exact hno i (kD3 i (by omega) e1)
      · rw [wUp_n e1, wUp_n e2]
        exact h.2.2.2.2.1 c i j (by omega) ij (kD3 j hj e2)
  have tw : ∀ x, x < c → ∀ b, wTw (wSet C c k to A) x b = wTw C x b := fun x hx b => wTw_agr ag hx b
  have uE : ∀ b, Wu (wSet C c k to A) c b = true ↔ ∃ j, j < D ∧ wTw C (Wo (wSet C c k to A) c j) b = true := by
    intro b
    rw [uN, oN]
    show (Wu C c b || wTw C to b) = true ↔ _
    constructor
    · intro q
      by_cases w : wTw C to b = true
      · exact ⟨k, kD1, by rw [wUp_s]; exact w⟩
      · have w2 : Wu C c b = true := by
          cases e : Wu C c b with
          | true => rfl
          | false =>
            rw [e, Bool.false_or] at q
            exact absurd q w
        obtain ⟨j, j1, j2⟩ := (h.2.2.2.2.2.1 c b (by omega)).mp w2
        by_cases e : j = k
        · rcases hk with e2 | ⟨e2, e3⟩
          · omega
          · rw [e, e2, e3] at j2
            rw [wTw_of0 h j2] at w
            exact absurd (wTw_root h (by omega)) w
        · exact ⟨j, by omega, by rw [wUp_n e]; exact j2⟩
    · rintro ⟨j, j1, j2⟩
      by_cases e : j = k
      · rw [e, wUp_s] at j2
        rw [j2, Bool.or_true]
      · rw [wUp_n e] at j2
        rw [(h.2.2.2.2.2.1 c b (by omega)).mpr ⟨j, kD3 j j1 e, j2⟩, Bool.true_or]
  have eE : ∀ b, b < Wn C → Wg C b = true → ∀ i j, i < D → j < D → wTw C (Wo (wSet C c k to A) c i) b = true → wTw C (Wo (wSet C c k to A) c j) b = true → wCl C (Wo (wSet C c k to A) c i) (Wa (wSet C c k to A) c i) b = wCl C (Wo (wSet C c k to A) c j) (Wa (wSet C c k to A) c j) b := by
    intro b hb hg
    have one : Wu C c b = true → ∀ i, i < D → wTw C (Wo (wSet C c k to A) c i) b = true → wCl C (Wo (wSet C c k to A) c i) (Wa (wSet C c k to A) c i) b = wCl C c 3 b := by
      intro hu i hi w
      rw [oN] at w ⊢
      rw [aN]
      by_cases e : i = k
      · rw [e, wUp_s] at w ⊢
        rw [wUp_s]
        exact (hcl b hb hg hu w).symm
      · rw [wUp_n e] at w ⊢
        rw [wUp_n e]
        exact (h.2.2.2.2.2.2.1 c b i (by omega) hb hg (kD3 i hi e) w).symm
    intro i j hi hj wi wj
    by_cases hu : Wu C c b = true
    · rw [one hu i hi wi, one hu j hj wj]
    · have only : ∀ i, i < D → wTw C (Wo (wSet C c k to A) c i) b = true → i = k := by
        intro i hi w
        rw [oN] at w
        by_cases e : i = k
        · exact e
        · rw [wUp_n e] at w
          exact absurd ((h.2.2.2.2.2.1 c b (by omega)).mpr ⟨i, kD3 i hi e, w⟩) hu
      rw [only i hi wi, only j hj wj]
  refine ⟨h.1, h.2.1, fun x hx => ?_, fun x j hx hj => ?_, fun x i j hx hij hj => ?_, fun x b hx => ?_, fun x b j hx hb hg hj hu => ?_, h.2.2.2.2.2.2.2.1, fun x b hx hu => ?_⟩
  · replace hx : x < Wn C := hx
    by_cases e : x = c
    · subst e
      rw [dN]
      exact ⟨k_pigeon x D (Wo (wSet C x k to A) x) oE dist, fun _ => by omega⟩
    · rw [(ag x (by omega)).2.2.1]; exact h.2.2.1 x hx
  · replace hx : x < Wn C := hx
    by_cases e : x = c
    · subst e
      rw [dN] at hj
      refine ⟨oE j hj, ?_⟩
      rw [oN, aN]
      by_cases e2 : j = k
      · rw [e2, wUp_s, wUp_s]; exact hA
      · rw [wUp_n e2, wUp_n e2]; exact (h.2.2.2.1 x j hx (kD3 j hj e2)).2
    · obtain ⟨a1, a2, a3, a4, a5⟩ := ag x (by omega)
      rw [a3] at hj
      obtain ⟨b1, b2, b3⟩ := a4 j hj
      rw [b1, b2]
      exact h.2.2.2.1 x j hx hj
  · replace hx : x < Wn C := hx
    by_cases e : x = c
    · subst e
      rw [dN] at hj
      exact dist i j hij hj
    · obtain ⟨a1, a2, a3, a4, a5⟩ := ag x (by omega)
      rw [a3] at hj
      rw [(a4 i (by omega)).1, (a4 j hj).1]
      exact h.2.2.2.2.1 x i j hx hij hj
  · replace hx : x < Wn C := hx
    by_cases e : x = c
    · subst e
      rw [dN, uE b]
      constructor
      · rintro ⟨j, j1, j2⟩
        exact ⟨j, j1, by rw [tw _ (oE j j1)]; exact j2⟩
      · rintro ⟨j, j1, j2⟩
        exact ⟨j, j1, by rw [tw _ (oE j j1)] at j2; exact j2⟩
    · obtain ⟨a1, a2, a3, a4, a5⟩ := ag x (by omega)
      rw [a5 b, a3, h.2.2.2.2.2.1 x b hx]
      constructor
      · rintro ⟨j, k1, k2⟩
        obtain ⟨b1, _, b3⟩ := a4 j k1
        exact ⟨j, k1, by rw [b1, tw _ (by omega)]; exact k2⟩
      · rintro ⟨j, k1, k2⟩
        obtain ⟨b1, _, b3⟩ := a4 j k1
        rw [b1, tw _ (by omega)] at k2
        exact ⟨j, k1, k2⟩
  · replace hx : x < Wn C := hx
    replace hb : b < Wn C := hb
    replace hg : Wg C b = true := hg
    by_cases e : x = c
    · subst e
      rw [dN] at hj
      have oj := oE j hj
      rw [tw _ oj] at hu
      have bl := wTw_le h (show Wo (wSet C x k to A) x j < Wn C by omega) hu
      rw [wCl_agr ag _ b oj]
      cases q : wFe (wSet C x k to A) x b with
      | none =>
        have := wfs_none q j (by omega) (by rw [dN]; omega)
        replace this : wTw (wSet C x k to A) (Wo (wSet C x k to A) x j) b = false := this
        rw [tw _ oj, hu] at this; cases this
      | some i =>
        obtain ⟨i1, i2, i3, i4⟩ := wfs_some q
        rw [dN] at i2
        replace i3 : wTw (wSet C x k to A) (Wo (wSet C x k to A) x i) b = true := i3
        have oi := oE i (by omega)
        rw [tw _ oi] at i3
        rw [← eE b hb hg i j (by omega) hj i3 hu]
        have ef : wCl (wSet C x k to A) x 3 b = wClf (wSet C x k to A) b (x - 1 + 1) x 3 := by
          unfold wCl
          rw [show x - 1 + 1 = x by omega]
        rw [ef, wClf, if_neg (by omega), q]
        show wClf (wSet C x k to A) b (x - 1) (Wo (wSet C x k to A) x i) (wSb 3 (Wa (wSet C x k to A) x i)) = _
        rw [wSb_3, wClf_agr ag b _ _ _ oi]
        exact wClf_fuel h b _ _ _ _ (by omega) (by omega) (by omega)
    · obtain ⟨a1, a2, a3, a4, a5⟩ := ag x (by omega)
      rw [a3] at hj
      obtain ⟨b1, b2, b3⟩ := a4 j hj
      rw [b1, tw _ (by omega)] at hu
      rw [wCl_agr ag 3 b (by omega), b1, b2, wCl_agr ag _ b (by omega)]
      exact h.2.2.2.2.2.2.1 x b j hx hb hg hj hu
  · rw [(ag x (by omega)).2.2.2.2 b] at hu; exact h.2.2.2.2.2.2.2.2 x b hx hu
end
-- part 08.85.rowM.lean.txt
/-! Tier 3: the reference's tables of classes: a row of the newest class. -/
def wAg6 (c : Nat) (C C' : wWc) : Prop := ∀ x, x < c → Wf C' x = Wf C x ∧ Wg C' x = Wg C x ∧ Wd C' x = Wd C x ∧ Wo C' x = Wo C x ∧ Wa C' x = Wa C x ∧ Wu C' x = Wu C x
theorem wDcl_ag6 (C : wWc) (f g : Bool) : wAg6 (Wn C) C (wDcl C f g) := by
  intro x hx
  have ne : x ≠ Wn C := by omega
  exact ⟨wUp_n ne, wUp_n ne, wUp_n ne, wUp_n ne, wUp_n ne, wUp_n ne⟩
theorem wSet_ag6 (C : wWc) (c k to A : Nat) : wAg6 c C (wSet C c k to A) := by
  intro x hx
  have ne : x ≠ c := by omega
  exact ⟨rfl, rfl, wUp_n ne, wUp_n ne, wUp_n ne, wUp_n ne⟩
theorem wSet_ag6x {C : wWc} {c k to A x : Nat} (ne : x ≠ c) : Wf (wSet C c k to A) x = Wf C x ∧ Wg (wSet C c k to A) x = Wg C x ∧ Wd (wSet C c k to A) x = Wd C x ∧ Wo (wSet C c k to A) x = Wo C x ∧ Wa (wSet C c k to A) x = Wa C x ∧ Wu (wSet C c k to A) x = Wu C x := ⟨rfl, rfl, wUp_n ne, wUp_n ne, wUp_n ne, wUp_n ne⟩
/-- all but the tables of classes stay -/
def pTy (σ τ : StM) : Prop := M_types τ = M_types σ ∧ (∀ i, kEq i σ τ) ∧ M_full τ = M_full σ ∧ M_depth τ = M_depth σ ∧ M_code τ = M_code σ ∧ M_below τ = M_below σ
theorem pTy_trans {σ τ ρ : StM} (h1 : pTy σ τ) (h2 : pTy τ ρ) : pTy σ ρ := by
  obtain ⟨a1, a2, a3, a4, a5, a6⟩ := h1
  obtain ⟨b1, b2, b3, b4, b5, b6⟩ := h2
  refine ⟨b1.trans a1, fun i => ?_, b3.trans a3, b4.trans a4, b5.trans a5, b6.trans a6⟩
  obtain ⟨x1, x2, x3, x4, x5, x6, x7⟩ := a2 i
  obtain ⟨y1, y2, y3, y4, y5, y6, y7⟩ := b2 i
  exact ⟨y1.trans x1, y2.trans x2, y3.trans x3, y4.trans x4, y5.trans x5, y6.trans x6, fun k hk => (y7 k hk).trans (x7 k hk)⟩
theorem rMt_ty {σ τ : StM} {C : wWc} {T : wWt} (h : wTok C T) (q : rMt σ T) (ht : pTy σ τ) : rMt τ T := rMt_ag h q (fun i _ => ht.2.1 i) (ht.1.trans q.1)
section
variable {σ S : StM} {C C' : wWc} {t c g D : Nat}
theorem rMr_row {τ : StM} {x : Nat} (r : rMr σ C x) (hd : Wd C x ≤ 30) (e : Wf C' x = Wf C x ∧ Wg C' x = Wg C x ∧ Wd C' x = Wd C x ∧ Wo C' x = Wo C x ∧ Wa C' x = Wa C x ∧ Wu C' x = Wu C x) (f0 : M_face τ x = M_face σ x) (f1 : M_generic τ x = M_generic σ x) (f2 : M_directs τ x = M_directs σ x) (f3 : ∀ k, k < 30 → M_directTo τ (30 * x + k) = M_directTo σ (30 * x + k) ∧ M_directArg τ (30 * x + k) = M_directArg σ (30 * x + k)) (f4 : M_over τ x = M_over σ x) : rMr τ C' x := by
  obtain ⟨r0, r1, r2, r3, r4⟩ := r
  obtain ⟨e0, e0', e1, e2, e3, e4⟩ := e
  refine ⟨by rw [f0, e0]; exact r0, by rw [f1, e0']; exact r1, by rw [f2, e1]; exact r2, fun k hk => ?_, fun b hb => by rw [f4, e4]; exact r4 b hb⟩
  rw [e1] at hk
  rw [(f3 k (by omega)).1, (f3 k (by omega)).2, e2, e3]
  exact r3 k hk
theorem rMc_new {W : StM} {g' : Nat} (h : wCok C t) (ag : wAg6 c C C') (r : rMc σ C g) (hc : c + 1 = Wn C') (hcn : c ≤ Wn C) (w0 : M_classes W = nI (Wn C')) (w1 : M_generics W = nI g')
    (f : ∀ x, x < c → M_face W x = M_face σ x ∧ M_generic W x = M_generic σ x ∧ M_directs W x = M_directs σ x ∧ M_over W x = M_over σ x) (f2 : ∀ x, x < 30 * c → M_directTo W x = M_directTo σ x ∧ M_directArg W x = M_directArg σ x) (fc : rMr W C' c) : rMc W C' g' := by
  refine ⟨w0, w1, fun x hx => ?_⟩
  by_cases e : x = c
  · rw [e]; exact fc
  · have hx' : x < c := by omega
    have hd := (h.2.2.1 x (by omega)).1
    have hn := h.2.1
    obtain ⟨a1, a2, a3, a4⟩ := f x hx'
    exact rMr_row (r.2.2 x (by omega)) (by omega) (ag x hx') a1 a2 a3 (fun k hk => f2 _ (by omega)) a4
theorem r_M_over (h : wCok C t) (h' : wCok C' t) (ag : wAg6 c C C') (r : rMc σ C g) (hc : c < Wn C') (hcn : c ≤ Wn C) (eD : Wd C' c = D) (sd : M_directs S c = nI D) (st : ∀ j, j < D → M_directTo S (30 * c + j) = nI (Wo C' c j)) (so : M_over S = M_over σ) :
    k_pc (f_M_reckonOver S (nI c)) (fun q => ∃ v, q.2 = M_put_over S (nI c) v ∧ ∀ b, b < 32 → bt v b = Wu C' c b) := by
  have hn := h'.2.1
  have hD := (h'.2.2.1 c hc).1
  have oE : ∀ j, j < D → Wo C' c j < c := fun j hj => (h'.2.2.2.1 c j hc (by omega)).1
  refine p_mono (p_ok (s_M_reckonOver (σ := S) (c := c) (d := D) (by omega) (by omega) sd (fun k hk => ⟨Wo C' c k, by have := oE k hk; omega, st k hk⟩))) ?_
  rintro q ⟨v, e, hv⟩
  refine ⟨v, e, fun b hb => ?_⟩
  have tw : ∀ x, x < c → (wTw C' x b = true ↔ x = b ∨ bt (M_over σ x) b = true) := by
    intro x hx
    unfold wTw
    rw [(ag x hx).2.2.2.2.2, (r.2.2 x (by omega)).2.2.2.2 b hb, Bool.or_eq_true, decide_eq_true_eq]
  have key : bt v b = true ↔ Wu C' c b = true := by
    rw [hv b hb, h'.2.2.2.2.2.1 c b hc, eD]
    constructor
    · rintro ⟨j, e, j1, j2, j3, j4⟩
      have oj := oE j j1
      rw [st j j1, nI_eq (by omega) (by omega)] at j3
      subst j3
      rw [so] at j4
      exact ⟨j, j1, (tw _ oj).mpr j4⟩
    · rintro ⟨j, j1, j2⟩
      have oj := oE j j1
      rw [tw _ oj] at j2
      exact ⟨j, Wo C' c j, j1, by omega, st j j1, by rw [so]; exact j2⟩
  cases e1 : Wu C' c b with
  | true => exact key.mpr e1
  | false =>
    cases e2 : bt v b with
    | false => rfl
    | true => rw [key.mp e2] at e1; cases e1
end
section
variable {σ : StM} {C : wWc} {T : wWt} {g : Nat}
theorem r_M_declare_70 (h : wOK C T) (r : rMc σ C g) (hn : Wn C < 30) {τ : StM} {f1 f2 : Bool} {t1 t2 : Int32} {g' : Nat} (e0 : t1 + t2 = nI g') (e1 : M_classes τ = nI (Wn C)) (e2 : M_generic τ = upd (M_generic σ) (Wn C) (b2 f2)) (e2' : M_face τ = upd (M_face σ) (Wn C) (b2 f1))
    (e3 : M_directs τ = M_directs σ) (e4 : M_directTo τ = M_directTo σ) (e5 : M_directArg τ = M_directArg σ) (e6 : M_over τ = M_over σ) :
    k_pc (f_M_declare_70 τ t1 t2) (fun q => q.1 = nI (Wn C) ∧ rMc q.2 (wDcl C f1 f2) g' ∧ pTy τ q.2 ∧ M_reckoned q.2 = M_reckoned τ) := by
  have n13 := h.1.1
  have h' := wDcl_ok h.1 hn f1 f2
  have a1 : Wf (wDcl C f1 f2) (Wn C) = f1 := wUp_s
  have a2 : Wg (wDcl C f1 f2) (Wn C) = f2 := wUp_s
  have a3 : Wd (wDcl C f1 f2) (Wn C) = 1 := wUp_s
  have a4 : Wo (wDcl C f1 f2) (Wn C) = fun _ => 0 := wUp_s
  have a5 : Wa (wDcl C f1 f2) (Wn C) = fun _ => 0 := wUp_s
  unfold f_M_declare_70
  refine p_guard (fun _ => ?_)
  have cn : (nI (Wn C)).toNatClampNeg = Wn C := nI_clamp (by omega)
  have c30 : (nI (30 * Wn C + 0)).toNatClampNeg = 30 * Wn C := nI_clamp (by omega)
  show k_pc ((f_M_tie (M_put_directs (M_set_generics τ (t1 + t2)) (M_classes τ) 0) (M_classes τ) 0 (-1)).bind fun r2 => (f_M_reckonOver r2.2 (M_classes r2.2)).bind fun r3 => some (((M_classes (M_set_classes r3.2 ((M_classes r3.2) + 1))) - 1), (M_set_classes r3.2 ((M_classes r3.2) + 1)))) _
  rw [e0, e1]
  refine p_bind (p_ok (s_M_tie (σ := M_put_directs (M_set_generics τ (nI g')) (nI (Wn C)) 0) (c := Wn C) (d := 0) hn (by omega) (by show upd (M_directs τ) (nI (Wn C)).toNatClampNeg 0 (Wn C) = nI 0; rw [cn, k_upds]; rfl) 0 (-1))) ?_
  rintro ⟨v0, S⟩ eS
  replace eS : S = M_put_directs (M_put_directArg (M_put_directTo (M_put_directs (M_set_generics τ (nI g')) (nI (Wn C)) 0) (nI (30 * Wn C + 0)) 0) (nI (30 * Wn C + 0)) (-1)) (nI (Wn C)) (nI (0 + 1)) := eS
  have s1 : M_classes S = nI (Wn C) := by rw [eS]; exact e1
  have s2 : M_directs S (Wn C) = nI 1 := by rw [eS]; show upd _ (nI (Wn C)).toNatClampNeg (nI 1) (Wn C) = _; rw [cn, k_upds]
  have s2' : ∀ e, e < Wn C → M_directs S e = M_directs σ e := by
    intro e he
    rw [eS]; show upd (upd (M_directs τ) (nI (Wn C)).toNatClampNeg 0) (nI (Wn C)).toNatClampNeg (nI 1) e = _
    rw [cn, k_u he, k_u he, e3]
  have s3 : M_directTo S (30 * Wn C) = nI 0 := by rw [eS]; show upd (M_directTo τ) (nI (30 * Wn C + 0)).toNatClampNeg 0 (30 * Wn C) = _; rw [c30, k_upds]; rfl
  have s3' : ∀ x, x < 30 * Wn C → M_directTo S x = M_directTo σ x := by
    intro x hx
    rw [eS]; show upd (M_directTo τ) (nI (30 * Wn C + 0)).toNatClampNeg 0 x = _; rw [c30, k_u hx, e4]
  have s4 : M_directArg S (30 * Wn C) = -1 := by rw [eS]; show upd (M_directArg τ) (nI (30 * Wn C + 0)).toNatClampNeg (-1) (30 * Wn C) = _; rw [c30, k_upds]
  have s4' : ∀ x, x < 30 * Wn C → M_directArg S x = M_directArg σ x := by
    intro x hx
    rw [eS]; show upd (M_directArg τ) (nI (30 * Wn C + 0)).toNatClampNeg (-1) x = _; rw [c30, k_u hx, e5]
  have s5 : M_over S = M_over σ := by rw [eS]; exact e6
  have s6 : M_generic S = upd (M_generic σ) (Wn C) (b2 f2) := by rw [eS]; exact e2
  have s7 : M_face S = upd (M_face σ) (Wn C) (b2 f1) := by rw [eS]; exact e2'
  have s8 : M_generics S = nI g' := by rw [eS]
  have s9 : pTy τ S ∧ M_reckoned S = M_reckoned τ := by
    rw [eS]; exact ⟨⟨rfl, fun i => ⟨rfl, rfl, rfl, rfl, rfl, rfl, fun _ _ => rfl⟩, rfl, rfl, rfl, rfl⟩, rfl⟩
  clear eS
  show k_pc ((f_M_reckonOver S (M_classes S)).bind fun r3 => some (((M_classes (M_set_classes r3.2 ((M_classes r3.2) + 1))) - 1), (M_set_classes r3.2 ((M_classes r3.2) + 1)))) _
  rw [s1]
  refine p_bind (r_M_over (S := S) (D := 1) h.1 h' (wDcl_ag6 C f1 f2) r (Nat.lt_succ_self (Wn C)) (Nat.le_refl _) a3 s2 (fun j hj => ?_) s5) ?_
  · have j0 : j = 0 := by omega
    subst j0
    rw [a4]; exact s3
  rintro ⟨v1, W⟩ ⟨v, eW, hv⟩
  replace eW : W = M_put_over S (nI (Wn C)) v := eW
  have w5 : M_over W (Wn C) = v := by rw [eW]; show upd (M_over S) (nI (Wn C)).toNatClampNeg v (Wn C) = _; rw [cn, k_upds]
  have w5' : ∀ e, e < Wn C → M_over W e = M_over σ e := by
    intro e he
    rw [eW]; show upd (M_over S) (nI (Wn C)).toNatClampNeg v e = _; rw [cn, k_u he, s5]
  have w1 : M_classes W = nI (Wn C) := by rw [eW]; exact s1
  have w2 : M_directs W = M_directs S := by rw [eW]
  have w3 : M_directTo W = M_directTo S := by rw [eW]
  have w4 : M_directArg W = M_directArg S := by rw [eW]
  have w6 : M_generic W = M_generic S := by rw [eW]
  have w7 : M_face W = M_face S := by rw [eW]
  have w8 : M_generics W = nI g' := by rw [eW]; exact s8
  have w9 : pTy S W ∧ M_reckoned W = M_reckoned S := by
    rw [eW]; exact ⟨⟨rfl, fun i => ⟨rfl, rfl, rfl, rfl, rfl, rfl, fun _ _ => rfl⟩, rfl, rfl, rfl, rfl⟩, rfl⟩
  clear eW
  refine p_some ⟨?_, ?_, ?_, ?_⟩
  · show M_classes W + 1 - 1 = nI (Wn C)
    rw [w1, nI_1]; exact nI_pred (Wn C)
  · refine rMc_new (W := M_set_classes W (M_classes W + 1)) (c := Wn C) h.1 (wDcl_ag6 C f1 f2) r rfl (Nat.le_refl _) ?_ w8 (fun x hx => ⟨?_, ?_, ?_, w5' x hx⟩) (fun x hx => ⟨?_, ?_⟩) ⟨?_, ?_, ?_, fun k hk => ?_, fun b hb => ?_⟩
    · show M_classes W + 1 = nI (Wn C + 1)
      rw [w1, nI_1]
    · show M_face W x = _; rw [w7, s7, k_u hx]
    · show M_generic W x = _; rw [w6, s6, k_u hx]
    · show M_directs W x = _; rw [w2, s2' x hx]
    · show M_directTo W x = _; rw [w3, s3' x hx]
    · show M_directArg W x = _; rw [w4, s4' x hx]
    · show M_face W (Wn C) = _; rw [w7, s7, k_upds, a1]
    · show M_generic W (Wn C) = _; rw [w6, s6, k_upds, a2]
    · show M_directs W (Wn C) = _; rw [w2, s2, a3]
    · rw [a3] at hk
      have k0 : k = 0 := by omega
      subst k0
      rw [a4, a5]
      refine ⟨?_, ?_⟩
      · show M_directTo W (30 * Wn C) = _; rw [w3, s3]
      · show M_directArg W (30 * Wn C) = _; rw [w4, s4]; rfl
    · show bt (M_over W (Wn C)) b = _
      rw [w5]; exact hv b hb
  · exact pTy_trans s9.1 (pTy_trans w9.1 ⟨rfl, fun i => kEq_refl i W, rfl, rfl, rfl, rfl⟩)
  · exact w9.2.trans s9.2
/-- class c's row, and its bits anew -/
theorem r_M_266 (h : wCok C (Tn T)) (r : rMc σ C g) {c k to A : Nat} (hc : c + 1 = Wn C) (h' : wCok (wSet C c k to A) (Tn T)) {S : StM} (s0 : M_classes S = M_classes σ) (s1 : M_generics S = M_generics σ) (s2 : M_face S = M_face σ) (s3 : M_generic S = M_generic σ) (s4 : M_over S = M_over σ)
    (s5 : ∀ x, x < c → M_directs S x = M_directs σ x) (s6 : M_directs S c = nI (Wd (wSet C c k to A) c)) (s7 : ∀ x, x < 30 * c → M_directTo S x = M_directTo σ x ∧ M_directArg S x = M_directArg σ x)
    (s8 : ∀ j, j < Wd (wSet C c k to A) c → M_directTo S (30 * c + j) = nI (Wo (wSet C c k to A) c j) ∧ M_directArg S (30 * c + j) = wTd (Wa (wSet C c k to A) c j)) :
    k_pc (f_M_above_266 S (nI c)) (fun q => q.1 = nI (Wd (wSet C c k to A) c) ∧ rMc q.2 (wSet C c k to A) g ∧ pTy S q.2 ∧ M_reckoned q.2 = 0) := by
  have hn := h.2.1
  have cn : (nI c).toNatClampNeg = c := nI_clamp (by omega)
  have hcC : c < Wn C := by omega
  unfold f_M_above_266
  refine p_bind (r_M_over (S := S) (D := Wd (wSet C c k to A) c) h h' (wSet_ag6 C c k to A) r hcC (by omega) rfl s6 (fun j hj => (s8 j hj).1) s4) ?_
  rintro ⟨v1, W⟩ ⟨v, eW, hv⟩
  replace eW : W = M_put_over S (nI c) v := eW
  have w5 : M_over W c = v := by rw [eW]; show upd (M_over S) (nI c).toNatClampNeg v c = _; rw [cn, k_upds]
  have w5' : ∀ e, e < c → M_over W e = M_over σ e := by
    intro e he
    rw [eW]; show upd (M_over S) (nI c).toNatClampNeg v e = _; rw [cn, k_u he, s4]
  have w1 : M_classes W = M_classes σ := by rw [eW]; exact s0
  have w2 : M_directs W = M_directs S := by rw [eW]
  have w3 : M_directTo W = M_directTo S := by rw [eW]
  have w4 : M_directArg W = M_directArg S := by rw [eW]
  have w6 : M_generic W = M_generic σ := by rw [eW]; exact s3
  have w7 : M_face W = M_face σ := by rw [eW]; exact s2
  have w8 : M_generics W = M_generics σ := by rw [eW]; exact s1
  have w9 : pTy S W := by
    rw [eW]; exact ⟨rfl, fun i => ⟨rfl, rfl, rfl, rfl, rfl, rfl, fun _ _ => rfl⟩, rfl, rfl, rfl, rfl⟩
  clear eW
  refine p_guard (fun _ => p_some ⟨?_, ?_, ?_, rfl⟩)
  · show M_directs W (nI c).toNatClampNeg = _
    rw [cn, w2, s6]
  · refine rMc_new (W := M_set_reckoned W 0) (c := c) h (wSet_ag6 C c k to A) r hc (by omega) (w1.trans r.1) (w8.trans r.2.1) (fun x hx => ⟨?_, ?_, ?_, w5' x hx⟩) (fun x hx => ⟨?_, ?_⟩) ⟨?_, ?_, ?_, fun k hk => ⟨?_, ?_⟩, fun b hb => ?_⟩
    · show M_face W x = _; rw [w7]
    · show M_generic W x = _; rw [w6]
    · show M_directs W x = _; rw [w2, s5 x hx]
    · show M_directTo W x = _; rw [w3, (s7 x hx).1]
    · show M_directArg W x = _; rw [w4, (s7 x hx).2]
    · show M_face W c = _; rw [w7]; exact (r.2.2 c hcC).1
    · show M_generic W c = _; rw [w6]; exact (r.2.2 c hcC).2.1
    · show M_directs W c = _; rw [w2, s6]
    · show M_directTo W _ = _; rw [w3]; exact (s8 k hk).1
    · show M_directArg W _ = _; rw [w4]; exact (s8 k hk).2
    · show bt (M_over W c) b = _
      rw [w5]; exact hv b hb
  · exact pTy_trans w9 ⟨rfl, fun i => kEq_refl i W, rfl, rfl, rfl, rfl⟩
end
-- part 08.86.abL.lean.txt
/-! Tier 3: above, of the class: who may get an edge, clashes, the edge put. -/
/-- class c may get class to above it -/
def wMay (C : wWc) (c to : Nat) : Prop := 13 ≤ c ∧ to ≠ c ∧ (Wf C to = false → Wf C c = false ∧ Wo C c 0 = 0) ∧ ∀ k, k < Wd C c → Wo C c k ≠ to
def wRs (t r : Nat) : Prop := r = 3 ∨ ∃ x, 8 ≤ x ∧ x < t ∧ r = 4 * x + 1
def wAgb (C : wWc) (c to A b : Nat) : Prop := Wg C b = true → Wu C c b = true → wTw C to b = true → wCl C c 3 b = wCl C to A b
theorem wEn_inj {t r r' : Nat} (ht : t ≤ 300) (h : wRs t r) (h' : wRs t r') (e : wEn r = wEn r') : r = r' := by
  rcases h with h | ⟨x, x1, x2, x3⟩
  · rcases h' with h' | ⟨y, y1, y2, y3⟩
    · rw [h, h']
    · rw [h, wEn_n (show r' ≠ 3 by omega)] at e
      exact absurd e.symm (k_ne2 (by omega))
  · rcases h' with h' | ⟨y, y1, y2, y3⟩
    · rw [h', wEn_n (show r ≠ 3 by omega)] at e
      exact absurd e (k_ne2 (by omega))
    · rw [wEn_n (show r ≠ 3 by omega), wEn_n (show r' ≠ 3 by omega), nI_eq (by omega) (by omega)] at e
      exact e
theorem wTd_inj {t r r' : Nat} (ht : t ≤ 300) (h : wRs t r) (h' : wRs t r') (e : wTd r = wTd r') : r = r' := by
  rcases h with h | ⟨x, x1, x2, x3⟩
  · rcases h' with h' | ⟨y, y1, y2, y3⟩
    · rw [h, h']
    · rw [h, wTd_x (Or.inl y3)] at e
      exact absurd e.symm (k_ne2 (by omega))
  · rcases h' with h' | ⟨y, y1, y2, y3⟩
    · rw [h', wTd_x (Or.inl x3)] at e
      exact absurd e (k_ne2 (by omega))
    · rw [wTd_x (Or.inl x3), wTd_x (Or.inl y3), nI_eq (by omega) (by omega)] at e
      omega
section
variable {C : wWc} {t : Nat}
theorem wCl_rs (h : wCok C t) : ∀ c a b r, c < Wn C → (Wg C c = false ∨ wRs t a) → wCl C c a b = some r → (c = b ∧ r = a) ∨ (Wg C b = false ∧ r = 0) ∨ (Wg C b = true ∧ wRs t r) := by
  intro c
  induction c using Nat.strongRecOn with
  | ind c ih =>
    intro a b r hc ho h1
    by_cases e : c = b
    · rw [e, wCl_here] at h1
      cases h1
      exact Or.inl ⟨e, rfl⟩
    · obtain ⟨k, k1, k2, k3, _⟩ := wFe_some h hc (wCl_tw h hc h1) e
      obtain ⟨k4, k5⟩ := h.2.2.2.1 c k hc k2
      rw [wCl_step h a hc e k1] at h1
      rcases k5 with ⟨q1, q2⟩ | ⟨q1, ⟨x, x1, x2, x3⟩ | ⟨q2, q3⟩⟩
      · rw [q2] at h1
        rcases ih _ k4 _ b r (by omega) (Or.inl q1) h1 with ⟨w1, w2⟩ | w
        · exact Or.inr (Or.inl ⟨by rw [← w1]; exact q1, w2⟩)
        · exact Or.inr w
      · have es : wSb a (Wa C c k) = 4 * x + 1 := by unfold wSb; rw [if_neg (by omega), x3]
        rw [es] at h1
        rcases ih _ k4 _ b r (by omega) (Or.inr (Or.inr ⟨x, x1, x2, rfl⟩)) h1 with ⟨w1, w2⟩ | w
        · exact Or.inr (Or.inr ⟨by rw [← w1]; exact q1, Or.inr ⟨x, x1, x2, w2⟩⟩)
        · exact Or.inr w
      · have es : wSb a (Wa C c k) = a := by unfold wSb; rw [if_pos q2]
        have ha : wRs t a := by
          rcases ho with w | w
          · rw [w] at q3; cases q3
          · exact w
        rw [es] at h1
        rcases ih _ k4 _ b r (by omega) (Or.inr ha) h1 with ⟨w1, w2⟩ | w
        · exact Or.inr (Or.inr ⟨by rw [← w1]; exact q1, by rw [w2]; exact ha⟩)
        · exact Or.inr w
theorem wArOk_rs {c to A : Nat} (hA : wArOk C t c to A) : (Wg C to = false ∨ wRs t A) ∧ (Wg C to = true → wRs t A) ∧ (A = 0 ∨ A = 3 ∨ ∃ y, y < t ∧ A = 4 * y + 1) := by
  rcases hA with ⟨h1, h2⟩ | ⟨h1, ⟨x, x1, x2, x3⟩ | ⟨h2, h3⟩⟩
  · exact ⟨Or.inl h1, fun q => (by rw [h1] at q; cases q), Or.inl h2⟩
  · have w : wRs t A := Or.inr ⟨x, x1, x2, x3⟩
    exact ⟨Or.inr w, fun _ => w, Or.inr (Or.inr ⟨x, x2, x3⟩)⟩
  · have w : wRs t A := Or.inl h2
    exact ⟨Or.inr w, fun _ => w, Or.inr (Or.inl h2)⟩
/-- both climbs end in something that is told apart by its number -/
theorem wCl_both (h : wCok C t) {c to A b : Nat} (hc : c < Wn C) (hto : to < Wn C) (hA : wArOk C t c to A) (hg : Wg C b = true) (hcb : c ≠ b) (hu : Wu C c b = true) (ht : wTw C to b = true) : ∃ r r', wCl C c 3 b = some r ∧ wCl C to A b = some r' ∧ wRs t r ∧ wRs t r' := by
  obtain ⟨r, e1⟩ := wCl_some h c 3 b hc (wTw_up hu)
  obtain ⟨r', e2⟩ := wCl_some h to A b hto ht
  refine ⟨r, r', e1, e2, ?_, ?_⟩
  · rcases wCl_rs h c 3 b r hc (Or.inr (Or.inl rfl)) e1 with ⟨w, _⟩ | ⟨w, _⟩ | ⟨_, w⟩
    · exact absurd w hcb
    · rw [hg] at w; cases w
    · exact w
  · obtain ⟨a1, a2, _⟩ := wArOk_rs hA
    rcases wCl_rs h to A b r' hto a1 e2 with ⟨w1, w2⟩ | ⟨w, _⟩ | ⟨_, w⟩
    · rw [w2]; exact a2 (by rw [w1]; exact hg)
    · rw [hg] at w; cases w
    · exact w
end
section
variable {σ : StC} {C : wWc} {t g : Nat}
theorem r_C_newest (r : rC σ C g) {c : Nat} (hc : c + 1 = Wn C) : f_C_newest σ = nI c := by
  unfold f_C_newest
  rw [r.1, ← hc]; exact nI_pred c
theorem r_C_mayGet (h : wCok C t) (r : rC σ C g) {c to : Nat} (hc : c + 1 = Wn C) (hto : to < Wn C) : k_pc (f_C_mayGet σ (nI to)) (fun v => v = 0 ↔ ¬ wMay C c to) := by
  have hn := h.2.1
  have h13 := h.1
  have hcC : c < Wn C := by omega
  have hd0 := (h.2.2.1 c hcC).2 (by omega)
  have m55 : (13 ≤ c ∧ to ≠ c ∧ (Wf C to = false → Wf C c = false ∧ Wo C c 0 = 0)) → k_pc (f_C_mayGet_55 σ (nI to) (nI c)) (fun v => v = 0 ↔ ¬ wMay C c to) := by
    intro hy
    obtain ⟨w, w1, w2⟩ := r_C_isDirectly h r hcC hto
    unfold f_C_mayGet_55
    rw [w1]
    show k_pc (if b2 w = 0 then _ else _) _
    refine p_if (fun z => p_some ?_) (fun z => p_some ?_)
    · have wf := b2_0.mp z
      refine ⟨fun q => absurd q (by decide), fun q => absurd ⟨hy.1, hy.2.1, hy.2.2, fun k hk e => ?_⟩ q⟩
      have := w2.mpr ⟨k, hk, e⟩
      rw [wf] at this; cases this
    · refine ⟨fun _ q => ?_, fun _ => rfl⟩
      have wt : w = true := by
        cases e : w with
        | true => rfl
        | false => rw [e] at z; exact absurd rfl z
      obtain ⟨k, k1, k2⟩ := w2.mp wt
      exact q.2.2.2 k k1 k2
  unfold f_C_mayGet
  rw [r_C_newest r hc]
  refine p_if (fun z => p_some ?_) (fun z => p_if (fun y => p_some ?_) (fun y => ?_))
  · have z2 : nI c < nI 13 := z
    rw [nI_ltI (by omega) (by decide)] at z2
    exact ⟨fun _ q => by have := q.1; omega, fun _ => rfl⟩
  · rw [nI_eq (by omega) (by omega)] at y
    exact ⟨fun _ q => q.2.1 y, fun _ => rfl⟩
  · have z2 : ¬ nI c < nI 13 := z
    rw [nI_ltI (by omega) (by decide)] at z2
    rw [nI_eq (by omega) (by omega)] at y
    rw [r_C_isFace h r hto]
    show k_pc (if b2 (Wf C to) = 0 then _ else _) _
    refine p_if (fun w => ?_) (fun w => ?_)
    · have wf := b2_0.mp w
      unfold f_C_mayGet_31
      refine p_if (fun q => absurd q (by decide)) (fun _ => ?_)
      rw [r_C_isFace h r hcC]
      show k_pc (if b2 (Wf C c) = 0 then _ else _) _
      refine p_if (fun q => ?_) (fun q => p_some ?_)
      · have qf := b2_0.mp q
        have e0 : f_C_directAt σ (nI c) 0 = some (nI (Wo C c 0)) := r_C_directAt h r hcC hd0
        rw [e0]
        show k_pc (if nI (Wo C c 0) = 0 then _ else _) _
        have o1 := (h.2.2.2.1 c 0 hcC hd0).1
        refine p_if (fun o => ?_) (fun o => p_some ?_)
        · have o2 : nI (Wo C c 0) = nI 0 := o
          rw [nI_eq (by omega) (by decide)] at o2
          exact m55 ⟨by omega, y, fun _ => ⟨qf, o2⟩⟩
        · have o2 : ¬ nI (Wo C c 0) = nI 0 := o
          rw [nI_eq (by omega) (by decide)] at o2
          exact ⟨fun _ q => o2 (q.2.2.1 wf).2, fun _ => rfl⟩
      · refine ⟨fun _ q2 => q ?_, fun _ => rfl⟩
        rw [(q2.2.2.1 wf).1]; rfl
    · unfold f_C_mayGet_31
      refine p_if (fun _ => ?_) (fun q => absurd rfl q)
      refine m55 ⟨by omega, y, fun q => ?_⟩
      rw [q] at w; exact absurd rfl w
theorem r_C_clashes_21 (h : wCok C t) (ht : t ≤ 300) (r : rC σ C g) {c to A : Nat} (hc : c + 1 = Wn C) (hto : to < c) (hA : wArOk C t c to A) {x4 : Int32} (hx : ∀ b, b < 32 → bt x4 b = (Wu C c b && wTw C to b)) :
    ∀ (f i : Nat), i ≤ Wn C → (∀ b, b < i → wAgb C c to A b) → k_pc (f_C_clashes_21 f σ (nI to) (wTd A) (nI c) x4 (nI i)) (fun v => v = 0 ↔ ∀ b, b < Wn C → wAgb C c to A b) := by
  have hn := h.2.1
  have hcC : c < Wn C := by omega
  intro f
  induction f with
  | zero => intro i _ _; exact p_none
  | succ f ih =>
    intro i hi hb
    rw [f_C_clashes_21]
    unfold f_C_clashes_21_s
    rw [r.1]
    refine p_if (fun z => p_some ?_) (fun z => ?_)
    · rw [nI_leI (by omega) (by omega)] at z
      exact ⟨fun _ b hb' => hb b (by omega), fun _ => rfl⟩
    · rw [nI_leI (by omega) (by omega)] at z
      have hi' : i < Wn C := by omega
      have next : wAgb C c to A i → k_pc (f_C_clashes_21 f σ (nI to) (wTd A) (nI c) x4 (nI i + 1)) (fun v => v = 0 ↔ ∀ b, b < Wn C → wAgb C c to A b) := by
        intro w
        rw [nI_1]
        refine ih (i + 1) (by omega) (fun b hb' => ?_)
        by_cases e : b = i
        · rw [e]; exact w
        · exact hb b (by omega)
      rw [k_has x4 (show i < 32 by omega), hx i (by omega)]
      refine p_if (fun y => next ?_) (fun y => ?_)
      · have y2 := b2_0.mp y
        intro _ w1 w2
        rw [w1, w2] at y2; cases y2
      · have y2 : (Wu C c i && wTw C to i) = true := by
          cases e : (Wu C c i && wTw C to i) with
          | true => rfl
          | false => rw [e] at y; exact absurd rfl y
        obtain ⟨y3, y4⟩ := Bool.and_eq_true_iff.mp y2
        rw [r_C_isGeneric h r hi']
        show k_pc (if b2 (Wg C i) = 0 then _ else _) _
        refine p_if (fun w => next ?_) (fun w => ?_)
        · have w2 := b2_0.mp w
          intro q; rw [w2] at q; cases q
        · have w2 : Wg C i = true := by
            cases e : Wg C i with
            | true => rfl
            | false => rw [e] at w; exact absurd rfl w
          have c1 : f_C_climb σ (nI c) (-2) (nI i) = some (wEo (wCl C c 3 i)) := r_C_climb h ht r 3 hcC hi'
          have c2 : f_C_climb σ (nI to) (f_C_passOn (wTd A) (-2)) (nI i) = some (wEo (wCl C to A i)) := by
            have e := k_pass ht (x := A) 3 (wArOk_rs hA).2.2
            rw [wSb_3] at e
            show f_C_climb σ (nI to) (f_C_passOn (wTd A) (wEn 3)) (nI i) = _
            rw [e]
            exact r_C_climb h ht r A (by omega) hi'
          rw [c1]
          show k_pc ((f_C_climb σ (nI to) (f_C_passOn (wTd A) (-2)) (nI i)).bind _) _
          rw [c2]
          have lt := wUp_lt h c i hcC y3
          obtain ⟨v, v', e1, e2, s1, s2⟩ := wCl_both h hcC (show to < Wn C by omega) hA w2 (by omega) y3 y4
          rw [e1, e2]
          show k_pc (if wEn v = wEn v' then _ else _) _
          refine p_if (fun q => next ?_) (fun q => p_some ⟨fun q2 => absurd q2 (by decide), fun q2 => ?_⟩)
          · intro _ _ _
            rw [e1, e2, wEn_inj ht s1 s2 q]
          · have := q2 i hi' w2 y3 y4
            rw [e1, e2] at this
            injection this with this
            exact absurd (by rw [this]) q
theorem r_C_clashes (h : wCok C t) (ht : t ≤ 300) (r : rC σ C g) {c to A : Nat} (hc : c + 1 = Wn C) (hto : to < c) (hA : wArOk C t c to A) : k_pc (f_C_clashes σ (nI to) (wTd A)) (fun v => v = 0 ↔ ∀ b, b < Wn C → wAgb C c to A b) := by
  have hcC : c < Wn C := by omega
  obtain ⟨v, v1, v2⟩ := r_C_withAbove h r (show to < Wn C by omega)
  unfold f_C_clashes
  rw [r_C_newest r hc, r_C_aboveOf h r hcC]
  show k_pc ((f_C_withAbove σ (nI to)).bind _) _
  rw [v1]
  refine r_C_clashes_21 h ht r hc hto hA (fun b hb => ?_) 1000 0 (by omega) (fun b hb => by omega)
  rw [b_and, v2 b hb, (r.2.2.1 c hcC).2.2.2.2 b hb]
theorem r_C_write (h : wCok C t) (r : rC σ C g) {c k to A : Nat} (hc : c < Wn C) (hto : to < Wn C) (hk : k ≤ Wd C c) : k_pc (f_C_write σ (nI c) (nI k) (nI to) (wTd A)) (fun q => rC q.2 (wSet C c k to A) g) := by
  have hn := h.2.1
  have hdc := (h.2.2.1 c hc).1
  obtain ⟨v, v1, v2⟩ := r_C_withAbove h r hto
  have cc : (nI c).toNatClampNeg = c := nI_clamp (by omega)
  have ci : (nI c * 30 + nI k).toNatClampNeg = c * 30 + k := by rw [k_ix30]; exact nI_clamp (by omega)
  have fin : ∀ (ρ : StC), C_count ρ = C_count σ → C_countGeneric ρ = C_countGeneric σ → C_faces ρ = C_faces σ → C_generics ρ = C_generics σ → C_directs ρ = upd (C_directs σ) (c * 30 + k) (nI to) → C_tolds ρ = upd (C_tolds σ) (c * 30 + k) (wTd A) → C_directCounts ρ = upd (C_directCounts σ) c (nI (if Wd C c < k + 1 then k + 1 else Wd C c)) → C_above ρ = upd (C_above σ) c (C_above σ c ||| v) → rC ρ (wSet C c k to A) g := by
    intro ρ u1 u2 u3 u4 u5 u6 u7 u9
    refine ⟨u1.trans r.1, u2.trans r.2.1, fun x hx => ?_, fun x hx hx2 => ?_⟩
    · replace hx : x < Wn C := hx
      by_cases e : x = c
      · subst e
        obtain ⟨r0, r1, r2, r3, r4⟩ := r.2.2.1 x hx
        have a3 : Wd (wSet C x k to A) x = (if Wd C x < k + 1 then k + 1 else Wd C x) := wUp_s
        have a4 : Wo (wSet C x k to A) x = wUp (Wo C x) k to := wUp_s
        have a5 : Wa (wSet C x k to A) x = wUp (Wa C x) k A := wUp_s
        have a6 : Wu (wSet C x k to A) x = fun b => Wu C x b || wTw C to b := wUp_s
        refine ⟨by rw [u3]; exact r0, by rw [u4]; exact r1, by rw [u7, k_upds, a3], fun j hj => ?_, fun b hb => ?_⟩
        · rw [a3] at hj
          rw [a4, a5, u5, u6]
          by_cases ej : j = k
          · rw [ej, k_upds, k_upds, wUp_s, wUp_s]; exact ⟨rfl, rfl⟩
          · have hj' : j < Wd C x := by
              by_cases w : Wd C x < k + 1
              · rw [if_pos w] at hj; omega
              · rw [if_neg w] at hj; exact hj
            rw [k_updn (by omega), k_updn (by omega), wUp_n ej, wUp_n ej]
            exact r3 j hj'
        · rw [u9, k_upds, a6, b_or, r4 b hb, v2 b hb]
      · obtain ⟨b1, b2, b3, b4, b5, b6⟩ := wSet_ag6x e
        have hd := (h.2.2.1 x hx).1
        refine rC_row (r.2.2.1 x hx) b1 b2 b3 b4 b5 b6 (by rw [u3]) (by rw [u4]) (by rw [u7, k_updn e]) (fun j hj => ⟨?_, ?_⟩) (by rw [u9, k_updn e]) (by omega)
        · rw [u5, k_updn (by omega)]
        · rw [u6, k_updn (by omega)]
    · replace hx : Wn C ≤ x := hx
      have := r.2.2.2 x hx hx2
      rw [u7, u9, k_updn (by omega), k_updn (by omega)]
      exact this
  unfold f_C_write
  refine p_if (fun z => absurd z (rC_there h r hc)) (fun _ => p_if (fun z => absurd z (rC_there h r hto)) (fun _ => p_if (fun z => absurd z (nI_pos (by omega))) (fun _ => p_if (fun _ => ?_) (fun z => ?_))))
  · refine p_guard (fun _ => p_guard (fun _ => p_guard (fun _ => p_guard (fun _ => p_guard (fun _ => ?_)))))
    refine p_bind (P := fun w => w = v) (fun w e => ?_) ?_
    · have e' : some v = some w := v1.symm.trans e
      injection e' with e'
      exact e'.symm
    · rintro w rfl
      refine p_guard (fun _ => p_some ?_)
      have ey : (if C_directCounts σ c < nI k + 1 then nI k + 1 else C_directCounts σ c) = nI (if Wd C c < k + 1 then k + 1 else Wd C c) := by
        rw [(r.2.2.1 c hc).2.2.1, nI_1]
        by_cases w : Wd C c < k + 1
        · rw [if_pos w, if_pos (by rw [nI_ltI (by omega) (by omega)]; exact w)]
        · rw [if_neg w, if_neg (by rw [nI_ltI (by omega) (by omega)]; exact w)]
      refine fin _ rfl rfl rfl rfl ?_ ?_ ?_ ?_
      · show upd (C_directs σ) (nI c * 30 + nI k).toNatClampNeg (nI to) = _
        rw [ci]
      · show upd (C_tolds σ) (nI c * 30 + nI k).toNatClampNeg (wTd A) = _
        rw [ci]
      · show upd (C_directCounts σ) (nI c).toNatClampNeg (if C_directCounts σ (nI c).toNatClampNeg < nI k + 1 then nI k + 1 else C_directCounts σ (nI c).toNatClampNeg) = _
        rw [cc, ey]
      · show upd (C_above σ) (nI c).toNatClampNeg (C_above σ (nI c).toNatClampNeg ||| w) = _
        rw [cc]
  · exact absurd (nI_lt (show k < 30 by omega) (by decide)) z
end
-- part 08.87.pub.lean.txt
/-! Tier 3: class and reference side by side: the smaller calls. -/
def RW (C : wWc) (g : Nat) (T : wWt) (d : Nat) : Prop := wOK C T ∧ g ≤ 6 ∧ d ≤ 2 ∧ Wf C 0 = false ∧ ∀ c, 13 ≤ c → c < Wn C → Wf C (Wo C c 0) = false
def RL (σ : StL) (C : wWc) (g : Nat) (T : wWt) (d : Nat) : Prop := rL σ C g T T ∧ rA (L_answers σ) C T ∧ L_depth σ = nI d
def RM (μ : StM) (C : wWc) (g : Nat) (T : wWt) (d : Nat) : Prop := rMc μ C g ∧ rMt μ T ∧ rR μ C T ∧ M_full μ = 0 ∧ M_depth μ = nI d
def RO (cd : Nat → Int32) (o : Int32 ⊕ Nat) (q : Int32 × StM) : Prop := match o with
  | .inl v => M_code q.2 = 0 ∧ q.1 = v
  | .inr e => M_code q.2 = cd e
/-- both answer alike, and their tables stay alike -/
def RQ (cd : Nat → Int32) (d : Nat) (fL : Option ((Int32 ⊕ Nat) × StL × Nat × Nat)) (fM : Option (Int32 × StM)) : Prop := ∃ o C g T, RW C g T d ∧ k_pc fL (fun q => q.1 = o ∧ RL q.2.1 C g T d) ∧ k_pc fM (fun q => RO cd o q ∧ RM q.2 C g T d)
/-- their tables stay alike -/
def RK (d : Nat) (fL : Option ((Int32 ⊕ Nat) × StL × Nat × Nat)) (fM : Option (Int32 × StM)) : Prop := ∃ C g T, RW C g T d ∧ k_pc fL (fun q => RL q.2.1 C g T d) ∧ k_pc fM (fun q => RM q.2 C g T d)
theorem RK_of {cd : Nat → Int32} {d : Nat} {fL : Option ((Int32 ⊕ Nat) × StL × Nat × Nat)} {fM : Option (Int32 × StM)} (h : RQ cd d fL fM) : RK d fL fM := by
  obtain ⟨o, C, g, T, h1, h2, h3⟩ := h
  exact ⟨C, g, T, h1, p_mono h2 (fun q hq => hq.2), p_mono h3 (fun q hq => hq.2)⟩
theorem p_rt {σ : StL} {α : Type} {x : Int32} {f : (Int32 ⊕ Nat) × StL × Nat × Nat → Option α} {Q : α → Prop} (h1 : f_T_isThere (L_types σ) x = 0 → k_pc (f (.inr 1, σ, 1, 6)) Q) (h2 : ¬ f_T_isThere (L_types σ) x = 0 → k_pc (f (.inl 0, σ, 0, 0)) Q) : k_pc ((f_L_requireType σ x).bind f) Q := by
  unfold f_L_requireType
  by_cases h : f_T_isThere (L_types σ) x = 0
  · rw [if_pos h]; exact h1 h
  · rw [if_neg h]; exact h2 h
theorem p_rc {σ : StL} {α : Type} {x : Int32} {f : (Int32 ⊕ Nat) × StL × Nat × Nat → Option α} {Q : α → Prop} (h1 : f_C_isThere (L_classes σ) x = 0 → k_pc (f (.inr 1, σ, 1, 6)) Q) (h2 : ¬ f_C_isThere (L_classes σ) x = 0 → k_pc (f (.inl 0, σ, 0, 0)) Q) : k_pc ((f_L_requireClass σ x).bind f) Q := by
  unfold f_L_requireClass
  by_cases h : f_C_isThere (L_classes σ) x = 0
  · rw [if_pos h]; exact h1 h
  · rw [if_neg h]; exact h2 h
theorem p_good {μ : StM} {α : Type} {x : Int32} {f : Int32 × StM → Option α} {Q : α → Prop} (h0 : x = 0 → k_pc (f (1, M_set_code μ x)) Q) (h1 : ¬ x = 0 → k_pc (f (0, M_set_code μ x)) Q) : k_pc ((f_M_good μ x).bind f) Q := by
  unfold f_M_good
  by_cases h : x = 0
  · rw [if_pos h]; exact h0 h
  · rw [if_neg h]; exact h1 h
section
variable {σ : StL} {μ : StM} {C : wWc} {T : wWt} {g d : Nat}
theorem RW_not (h : RW C g T d) : Wn C ≤ 30 ∧ Tn T ≤ 300 ∧ 13 ≤ Wn C ∧ 16 ≤ Tn T := ⟨h.1.1.2.1, h.1.2.2.1, h.1.1.1, h.1.2.1⟩
theorem R_isClass (h : RW C g T d) (hM : RM μ C g T d) {j : Nat} (hj : j < Wn C) : ¬ f_M_isClass μ (nI j) = 0 := by
  have hn := RW_not h
  unfold f_M_isClass
  rw [if_neg (nI_pos (by omega)), hM.1.1, if_neg (by rw [nI_leI (by omega) (by omega)]; omega)]
  decide
theorem R_noClass (h : RW C g T d) (hM : RM μ C g T d) {x : Int32} (hx : ¬ ∃ j, j < Wn C ∧ x = nI j) : f_M_isClass μ x = 0 := by
  have hn := RW_not h
  unfold f_M_isClass
  by_cases q : x < 0
  · rw [if_pos q]
  · rw [if_neg q]
    obtain ⟨j, hj, rfl⟩ := nI_of q
    rw [hM.1.1]
    by_cases q2 : nI (Wn C) ≤ nI j
    · rw [if_pos q2]
    · rw [nI_leI (by omega) hj] at q2
      exact absurd ⟨j, by omega, rfl⟩ hx
theorem R_isType (h : RW C g T d) (hM : RM μ C g T d) {j : Nat} (hj : j < Tn T) : ¬ f_M_isType μ (nI j) = 0 := by
  have hn := RW_not h
  unfold f_M_isType
  rw [if_neg (nI_pos (by omega)), hM.2.1.1, if_neg (by rw [nI_leI (by omega) (by omega)]; omega)]
  decide
theorem R_noType (h : RW C g T d) (hM : RM μ C g T d) {x : Int32} (hx : ¬ ∃ j, j < Tn T ∧ x = nI j) : f_M_isType μ x = 0 := by
  have hn := RW_not h
  unfold f_M_isType
  by_cases q : x < 0
  · rw [if_pos q]
  · rw [if_neg q]
    obtain ⟨j, hj, rfl⟩ := nI_of q
    rw [hM.2.1.1]
    by_cases q2 : nI (Tn T) ≤ nI j
    · rw [if_pos q2]
    · rw [nI_leI (by omega) hj] at q2
      exact absurd ⟨j, by omega, rfl⟩ hx
/-- both throw -/
theorem R_thr {cd : Nat → Int32} {fL : Option ((Int32 ⊕ Nat) × StL × Nat × Nat)} {fM : Option (Int32 × StM)} (h : RW C g T d) (e : Nat) (h1 : k_pc fL (fun q => q.1 = .inr e ∧ RL q.2.1 C g T d)) (h2 : k_pc fM (fun q => M_code q.2 = cd e ∧ RM q.2 C g T d)) : RQ cd d fL fM := ⟨.inr e, C, g, T, h, h1, h2⟩
theorem R_ans {cd : Nat → Int32} {fL : Option ((Int32 ⊕ Nat) × StL × Nat × Nat)} {fM : Option (Int32 × StM)} (h : RW C g T d) (v : Int32) (h1 : k_pc fL (fun q => q.1 = .inl v ∧ RL q.2.1 C g T d)) (h2 : k_pc fM (fun q => (M_code q.2 = 0 ∧ q.1 = v) ∧ RM q.2 C g T d)) : RQ cd d fL fM := ⟨.inl v, C, g, T, h, h1, h2⟩
theorem R_told (h : RW C g T d) (hL : RL σ C g T d) (hM : RM μ C g T d) (x1 : Int32) : RQ (fun _ => 1) d (f_L_told σ x1) (f_M_told μ x1) := by
  have hn := RW_not h
  obtain ⟨u, us, t1, _⟩ := hL.1.2
  have good : ∀ {v : Int32}, ¬ x1 < 0 → x1 ≤ 3 → k_pc (f_M_told_15 μ x1 0) (fun q => (M_code q.2 = 0 ∧ q.1 = v) ∧ RM q.2 C g T d) → k_pc (f_M_told μ x1) (fun q => (M_code q.2 = 0 ∧ q.1 = v) ∧ RM q.2 C g T d) := by
    intro v w1 w2 k
    unfold f_M_told
    rw [if_neg w1, if_pos w2]
    exact k
  have c15 : ∀ {v : Int32}, k_pc (if x1 = 0 then some (M_classes (M_set_code μ 0), M_set_code μ 0) else if x1 = 1 then some (M_generics (M_set_code μ 0), M_set_code μ 0) else if x1 = 2 then some (M_types (M_set_code μ 0), M_set_code μ 0) else some (M_depth (M_set_code μ 0), M_set_code μ 0)) (fun q => (M_code q.2 = 0 ∧ q.1 = v) ∧ RM q.2 C g T d) → k_pc (f_M_told_15 μ x1 0) (fun q => (M_code q.2 = 0 ∧ q.1 = v) ∧ RM q.2 C g T d) := by
    intro v k
    unfold f_M_told_15
    refine p_good (fun _ => ?_) (fun q => absurd rfl q)
    exact p_if (fun q => absurd q k_10) (fun _ => k)
  by_cases x0 : x1 = 0
  · subst x0
    refine R_ans h (nI (Wn C)) ?_ (good (by decide) (by decide) (c15 ?_))
    · unfold f_L_told
      rw [if_pos rfl]
      exact p_some ⟨congrArg Sum.inl hL.1.1.1, hL⟩
    · rw [if_pos rfl]
      exact p_some ⟨⟨rfl, hM.1.1⟩, hM⟩
  by_cases x1' : x1 = 1
  · subst x1'
    refine R_ans h (nI g) ?_ (good (by decide) (by decide) (c15 ?_))
    · unfold f_L_told
      rw [if_neg (by decide), if_pos rfl]
      exact p_some ⟨congrArg Sum.inl hL.1.1.2.1, hL⟩
    · rw [if_neg (by decide), if_pos rfl]
      exact p_some ⟨⟨rfl, hM.1.2.1⟩, hM⟩
  by_cases x2' : x1 = 2
  · subst x2'
    refine R_ans h (nI (Tn T)) ?_ (good (by decide) (by decide) (c15 ?_))
    · unfold f_L_told
      rw [if_neg (by decide), if_neg (by decide), if_pos rfl]
      exact p_some ⟨congrArg Sum.inl t1, hL⟩
    · rw [if_neg (by decide), if_neg (by decide), if_pos rfl]
      exact p_some ⟨⟨rfl, hM.2.1.1⟩, hM⟩
  by_cases x3' : x1 = 3
  · subst x3'
    refine R_ans h (nI d) ?_ (good (by decide) (by decide) (c15 ?_))
    · unfold f_L_told
      rw [if_neg (by decide), if_neg (by decide), if_neg (by decide), if_pos rfl]
      exact p_some ⟨congrArg Sum.inl hL.2.2, hL⟩
    · rw [if_neg (by decide), if_neg (by decide), if_neg (by decide)]
      exact p_some ⟨⟨rfl, hM.2.2.2.2⟩, hM⟩
  have bad : k_pc (f_M_told_10 μ x1) (fun q => M_code q.2 = 1 ∧ RM q.2 C g T d) := by
    unfold f_M_told_10 f_M_told_15
    refine p_good (fun q => absurd q (by decide)) (fun _ => ?_)
    exact p_if (fun _ => p_some ⟨rfl, hM⟩) (fun q => absurd rfl q)
  refine R_thr h 3 ?_ ?_
  · unfold f_L_told
    rw [if_neg x0, if_neg x1', if_neg x2', if_neg x3']
    exact p_some ⟨rfl, hL⟩
  · unfold f_M_told
    refine p_if (fun _ => bad) (fun w => p_if (fun w2 => ?_) (fun _ => bad))
    exfalso
    obtain ⟨j, hj, rfl⟩ := nI_of w
    have w3 : nI j ≤ nI 3 := w2
    rw [nI_leI hj (by decide)] at w3
    rcases (show j = 0 ∨ j = 1 ∨ j = 2 ∨ j = 3 by omega) with e | e | e | e
    · subst e; exact x0 rfl
    · subst e; exact x1' rfl
    · subst e; exact x2' rfl
    · subst e; exact x3' rfl
theorem R_isUnder (h : RW C g T d) (hL : RL σ C g T d) (hM : RM μ C g T d) (x1 x2 : Int32) : RQ (fun _ => 1) d (f_L_isUnder σ x1 x2) (f_M_isUnder μ x1 x2) := by
  have hn := RW_not h
  have bad : k_pc (f_M_isUnder_21 μ x1 x2) (fun q => M_code q.2 = 1 ∧ RM q.2 C g T d) := by
    unfold f_M_isUnder_21 f_M_isUnder_22
    refine p_good (fun q => absurd q (by decide)) (fun _ => ?_)
    exact p_if (fun _ => p_some ⟨rfl, hM⟩) (fun q => absurd rfl q)
  by_cases h1 : ∃ j, j < Wn C ∧ x1 = nI j
  · obtain ⟨i, hi, rfl⟩ := h1
    by_cases h2 : ∃ j, j < Wn C ∧ x2 = nI j
    · obtain ⟨j, hj, rfl⟩ := h2
      refine R_ans h (b2 (Wu C i j)) ?_ ?_
      · unfold f_L_isUnder
        refine p_rc (fun z => absurd z (rC_there h.1.1 hL.1.1 hi)) (fun _ => p_ad ?_)
        refine p_rc (fun z => absurd z (rC_there h.1.1 hL.1.1 hj)) (fun _ => p_ad ?_)
        show k_pc ((f_C_aboveOf (L_classes σ) (nI i)).bind _) _
        rw [r_C_aboveOf h.1.1 hL.1.1 hi]
        refine p_some ⟨?_, hL⟩
        show Sum.inl (f_L_has (C_above (L_classes σ) i) (nI j) &&& 1) = _
        rw [k_has _ (show j < 32 by omega), (hL.1.1.2.2.1 i hi).2.2.2.2 j (by omega)]
        cases Wu C i j <;> rfl
      · unfold f_M_isUnder
        rw [if_neg (R_isClass h hM hi), if_neg (R_isClass h hM hj)]
        unfold f_M_isUnder_22
        refine p_good (fun _ => ?_) (fun q => absurd rfl q)
        refine p_if (fun q => absurd q k_10) (fun _ => ?_)
        show k_pc ((f_M_under (M_set_code μ 0) (nI i) (nI j)).bind _) _
        rw [s_M_under (σ := M_set_code μ 0) (by omega) (by omega)]
        show k_pc (if (if bt (M_over μ i) j = true then (1 : Int32) else 0) = 0 then some ((0 : Int32), M_set_code μ 0) else some ((1 : Int32), M_set_code μ 0)) _
        rw [(hM.1.2.2 i hi).2.2.2.2 j (by omega)]
        cases Wu C i j with
        | true =>
          exact p_if (fun q => absurd q k_10) (fun _ => p_some ⟨⟨rfl, rfl⟩, hM⟩)
        | false =>
          exact p_if (fun _ => p_some ⟨⟨rfl, rfl⟩, hM⟩) (fun q => absurd rfl q)
    · refine R_thr h 1 ?_ ?_
      · unfold f_L_isUnder
        refine p_rc (fun z => absurd z (rC_there h.1.1 hL.1.1 hi)) (fun _ => p_ad ?_)
        exact p_rc (fun _ => p_ad (p_some ⟨rfl, hL⟩)) (fun z => absurd (rC_not h.1.1 hL.1.1 h2) z)
      · unfold f_M_isUnder
        rw [if_neg (R_isClass h hM hi), if_pos (R_noClass h hM h2)]
        exact bad
  · refine R_thr h 1 ?_ ?_
    · unfold f_L_isUnder
      exact p_rc (fun _ => p_ad (p_some ⟨rfl, hL⟩)) (fun z => absurd (rC_not h.1.1 hL.1.1 h1) z)
    · unfold f_M_isUnder
      rw [if_pos (R_noClass h hM h1)]
      exact bad
theorem R_box (h : RW C g T d) (hL : RL σ C g T d) (hM : RM μ C g T d) (x1 : Int32) : RQ (fun e => if e = 1 then 1 else 2) d (f_L_box σ x1) (f_M_box μ x1) := by
  have hn := RW_not h
  by_cases h1 : ∃ j, j < Tn T ∧ x1 = nI j
  · obtain ⟨i, hi, rfl⟩ := h1
    refine R_ans h (nI (kBox i)) ?_ ?_
    · unfold f_L_box
      refine p_rt (fun z => absurd z (rT_there h.1.2 hL.1.2 hi)) (fun _ => p_ad ?_)
      show k_pc ((f_T_kindOf (L_types σ) (nI i)).bind _) _
      rw [r_T_kindOf h.1.2 hL.1.2 hi]
      show k_pc (if nI (dK (Ty T i)) = 0 then _ else _) _
      have kl := wK_lt h.1.2 hi
      refine p_if (fun z => p_some ⟨?_, hL⟩) (fun z => p_some ⟨?_, hL⟩)
      · have z2 : nI (dK (Ty T i)) = nI 0 := z
        rw [nI_eq (by omega) (by decide)] at z2
        show Sum.inl (f_L_boxTypeOf (nI i)) = _
        rcases wT_kind h.1.2 hi with ⟨_, w⟩ | ⟨_, w⟩
        · unfold f_L_boxTypeOf kBox
          rw [if_pos w]
          show Sum.inl (nI 8 + nI i) = _
          rw [nI_add, Nat.add_comm]
        · omega
      · have z2 : ¬ nI (dK (Ty T i)) = nI 0 := z
        rw [nI_eq (by omega) (by decide)] at z2
        show Sum.inl (nI i) = _
        rcases wT_kind h.1.2 hi with ⟨w, _⟩ | ⟨w, _⟩
        · exact absurd w z2
        · rw [kBox_id w]
    · unfold f_M_box
      rw [if_neg (R_isType h hM hi)]
      unfold f_M_box_14
      refine p_good (fun _ => ?_) (fun q => absurd rfl q)
      refine p_if (fun q => absurd q k_10) (fun _ => ?_)
      refine p_if (fun z => p_some ⟨⟨rfl, ?_⟩, hM⟩) (fun z => p_some ⟨⟨rfl, ?_⟩, hM⟩)
      · have z2 : nI 8 ≤ nI i := z
        rw [nI_leI (by decide) (by omega)] at z2
        rw [kBox_id z2]
      · have z2 : ¬ nI 8 ≤ nI i := z
        rw [nI_leI (by decide) (by omega)] at z2
        show nI i + nI 8 = _
        rw [nI_add, show kBox i = i + 8 from if_pos (by omega)]
  · refine R_thr h 1 ?_ ?_
    · unfold f_L_box
      exact p_rt (fun _ => p_ad (p_some ⟨rfl, hL⟩)) (fun z => absurd (rT_not h.1.2 hL.1.2 h1) z)
    · unfold f_M_box
      rw [if_pos (R_noType h hM h1)]
      unfold f_M_box_14
      refine p_good (fun q => absurd q (by decide)) (fun _ => ?_)
      exact p_if (fun _ => p_some ⟨rfl, hM⟩) (fun q => absurd rfl q)
end
-- part 08.88.pub2.lean.txt
/-! Tier 3: side by side: part, direct; type, classed and common leave the tables as they are. -/
section
variable {σ : StL} {μ : StM} {C : wWc} {T : wWt} {g d : Nat}
theorem R_part (h : RW C g T d) (hL : RL σ C g T d) (hM : RM μ C g T d) (x1 x2 : Int32) : RQ (fun _ => 1) d (f_L_part σ x1 x2) (f_M_part μ x1 x2) := by
  have hn := RW_not h
  have bad : k_pc (f_M_part_27 μ x1 x2) (fun q => M_code q.2 = 1 ∧ RM q.2 C g T d) := by
    unfold f_M_part_27 f_M_part_28
    refine p_good (fun q => absurd q (by decide)) (fun _ => ?_)
    exact p_if (fun _ => p_some ⟨rfl, hM⟩) (fun q => absurd rfl q)
  by_cases h1 : ∃ j, j < Tn T ∧ x1 = nI j
  · obtain ⟨i, hi, rfl⟩ := h1
    have ci : (nI i).toNatClampNeg = i := nI_clamp (by omega)
    have hlen := wPs_len h.1.2 hi
    have hpc := wPc_le h.1.2 hi
    by_cases h2 : ∃ k, k < (wPs T i).length ∧ x2 = nI k
    · obtain ⟨k, hk, rfl⟩ := h2
      refine R_ans h (nI (wPs T i)[k]) ?_ ?_
      · unfold f_L_part
        refine p_rt (fun z => absurd z (rT_there h.1.2 hL.1.2 hi)) (fun _ => p_ad ?_)
        refine p_if (fun z => absurd z (nI_pos (by omega))) (fun _ => ?_)
        show k_pc ((f_T_countParts (L_types σ) (nI i)).bind _) _
        rw [r_T_countParts h.1.2 hL.1.2 hi, ← hlen]
        show k_pc (if nI k < nI (wPs T i).length then _ else _) _
        refine p_if (fun _ => ?_) (fun z => absurd (nI_lt hk (by omega)) z)
        show k_pc ((f_T_partOf (L_types σ) (nI i) (nI k)).bind _) _
        rw [r_T_partOf h.1.2 hL.1.2 hi hk]
        exact p_some ⟨rfl, hL⟩
      · unfold f_M_part
        rw [if_neg (R_isType h hM hi), if_neg (nI_pos (by omega))]
        refine p_guard (fun _ => ?_)
        rw [ci, (hM.2.1.2 i hi).2.2.2.2.2.1, ← hlen]
        refine p_if (fun z => ?_) (fun _ => ?_)
        · rw [nI_leI (by omega) (by omega)] at z; omega
        · unfold f_M_part_28
          refine p_good (fun _ => ?_) (fun q => absurd rfl q)
          refine p_if (fun q => absurd q k_10) (fun _ => p_guard (fun _ => p_some ⟨⟨rfl, ?_⟩, hM⟩))
          show M_partRow μ (30 * nI i + nI k).toNatClampNeg = _
          rw [k_30ix, nI_clamp (by omega)]
          exact (hM.2.1.2 i hi).2.2.2.2.2.2 k hk
    · refine R_thr h 1 ?_ ?_
      · unfold f_L_part f_L_part_21
        refine p_rt (fun z => absurd z (rT_there h.1.2 hL.1.2 hi)) (fun _ => p_ad ?_)
        refine p_if (fun _ => p_some ⟨rfl, hL⟩) (fun z => ?_)
        obtain ⟨k, hk, rfl⟩ := nI_of z
        show k_pc ((f_T_countParts (L_types σ) (nI i)).bind _) _
        rw [r_T_countParts h.1.2 hL.1.2 hi, ← hlen]
        show k_pc (if nI k < nI (wPs T i).length then _ else _) _
        refine p_if (fun w => ?_) (fun _ => p_some ⟨rfl, hL⟩)
        rw [nI_ltI hk (by omega)] at w
        exact absurd ⟨k, w, rfl⟩ h2
      · unfold f_M_part
        rw [if_neg (R_isType h hM hi)]
        refine p_if (fun _ => bad) (fun z => p_guard (fun _ => p_if (fun _ => bad) (fun w => ?_)))
        obtain ⟨k, hk, rfl⟩ := nI_of z
        rw [ci, (hM.2.1.2 i hi).2.2.2.2.2.1, ← hlen, nI_leI (by omega) hk] at w
        exact absurd ⟨k, by omega, rfl⟩ h2
  · refine R_thr h 1 ?_ ?_
    · unfold f_L_part
      exact p_rt (fun _ => p_ad (p_some ⟨rfl, hL⟩)) (fun z => absurd (rT_not h.1.2 hL.1.2 h1) z)
    · unfold f_M_part
      rw [if_pos (R_noType h hM h1)]
      exact bad
theorem R_direct (h : RW C g T d) (hL : RL σ C g T d) (hM : RM μ C g T d) (x1 x2 x3 : Int32) : RQ (fun e => if e = 1 then 1 else 2) d (f_L_direct σ x1 x2 x3) (f_M_direct μ x1 x2 x3) := by
  have hn := RW_not h
  have bad : k_pc (f_M_direct_23 μ x1 x2 x3) (fun q => M_code q.2 = 1 ∧ RM q.2 C g T d) := by
    unfold f_M_direct_23 f_M_direct_41
    refine p_good (fun q => absurd q (by decide)) (fun _ => ?_)
    exact p_if (fun _ => p_some ⟨rfl, hM⟩) (fun q => absurd rfl q)
  have bad2 : k_pc (f_M_direct_36 μ x1 x2 x3) (fun q => M_code q.2 = 2 ∧ RM q.2 C g T d) := by
    unfold f_M_direct_36 f_M_direct_41
    refine p_good (fun q => absurd q (by decide)) (fun _ => ?_)
    exact p_if (fun _ => p_some ⟨rfl, hM⟩) (fun q => absurd rfl q)
  by_cases h1 : ∃ j, j < Wn C ∧ x1 = nI j
  · obtain ⟨i, hi, rfl⟩ := h1
    have ci : (nI i).toNatClampNeg = i := nI_clamp (by omega)
    have hd := (h.1.1.2.2.1 i hi).1
    have rr := hL.1.1.2.2.1 i hi
    have rm := hM.1.2.2 i hi
    by_cases h2 : ∃ k, k < Wd C i ∧ x2 = nI k
    · obtain ⟨k, hk, rfl⟩ := h2
      have lft : ∀ {Q : (Int32 ⊕ Nat) × StL × Nat × Nat → Prop}, k_pc (if x3 = 0 then (f_C_directAt (L_classes σ) (nI i) (nI k)).bind (fun r3 => some (Sum.inl r3, σ, 0, 0)) else if x3 = 1 then (f_C_toldAt (L_classes σ) (nI i) (nI k)).bind (fun r4 => some (Sum.inl r4, σ, 0, 0)) else some (Sum.inr 3, σ, 1, 6)) (fun r => Q (r.1, r.2.1, r.2.2.1 + 0, r.2.2.2 + 0)) → k_pc (f_L_direct σ (nI i) (nI k) x3) Q := by
        intro Q kk
        unfold f_L_direct
        refine p_rc (fun z => absurd z (rC_there h.1.1 hL.1.1 hi)) (fun _ => p_ad ?_)
        refine p_if (fun z => absurd z (nI_pos (by omega))) (fun _ => ?_)
        show k_pc ((f_C_countDirect (L_classes σ) (nI i)).bind _) _
        rw [r_C_countDirect h.1.1 hL.1.1 hi]
        show k_pc (if nI k < nI (Wd C i) then _ else _) _
        exact p_if (fun _ => kk) (fun z => absurd (nI_lt hk (by omega)) z)
      have rgt : ∀ {Q : Int32 × StM → Prop}, k_pc (if x3 < 0 then f_M_direct_36 μ (nI i) (nI k) x3 else if x3 ≤ 1 then f_M_direct_41 μ (nI i) (nI k) x3 0 else f_M_direct_36 μ (nI i) (nI k) x3) Q → k_pc (f_M_direct μ (nI i) (nI k) x3) Q := by
        intro Q kk
        unfold f_M_direct
        rw [if_neg (R_isClass h hM hi), if_neg (nI_pos (by omega))]
        refine p_guard (fun _ => ?_)
        rw [ci, rm.2.2.1]
        exact p_if (fun _ => kk) (fun z => absurd (nI_lt hk (by omega)) z)
      have cl : (30 * nI i + nI k).toNatClampNeg = 30 * i + k := by rw [k_30ix]; exact nI_clamp (by omega)
      by_cases y0 : x3 = 0
      · subst y0
        refine R_ans h (nI (Wo C i k)) (lft ?_) (rgt ?_)
        · rw [if_pos rfl, r_C_directAt h.1.1 hL.1.1 hi hk]
          exact p_some ⟨rfl, hL⟩
        · rw [if_neg (by decide), if_pos (by decide)]
          unfold f_M_direct_41
          refine p_good (fun _ => ?_) (fun q => absurd rfl q)
          refine p_if (fun q => absurd q k_10) (fun _ => p_if (fun _ => p_guard (fun _ => p_some ⟨⟨rfl, ?_⟩, hM⟩)) (fun q => absurd rfl q))
          show M_directTo μ (30 * nI i + nI k).toNatClampNeg = _
          rw [cl]; exact (rm.2.2.2.1 k hk).1
      by_cases y1 : x3 = 1
      · subst y1
        refine R_ans h (wTd (Wa C i k)) (lft ?_) (rgt ?_)
        · rw [if_neg (by decide), if_pos rfl, r_C_toldAt h.1.1 hL.1.1 hi hk]
          exact p_some ⟨rfl, hL⟩
        · rw [if_neg (by decide), if_pos (by decide)]
          unfold f_M_direct_41
          refine p_good (fun _ => ?_) (fun q => absurd rfl q)
          refine p_if (fun q => absurd q k_10) (fun _ => p_if (fun q => absurd q k_10) (fun _ => p_guard (fun _ => p_some ⟨⟨rfl, ?_⟩, hM⟩)))
          show M_directArg μ (30 * nI i + nI k).toNatClampNeg = _
          rw [cl]; exact (rm.2.2.2.1 k hk).2
      refine R_thr h 3 (lft ?_) (rgt ?_)
      · rw [if_neg y0, if_neg y1]
        exact p_some ⟨rfl, hL⟩
      · refine p_if (fun _ => bad2) (fun w => p_if (fun w2 => ?_) (fun _ => bad2))
        exfalso
        obtain ⟨j, hj, rfl⟩ := nI_of w
        have w3 : nI j ≤ nI 1 := w2
        rw [nI_leI hj (by decide)] at w3
        rcases (show j = 0 ∨ j = 1 by omega) with e | e
        · subst e; exact y0 rfl
        · subst e; exact y1 rfl
    · refine R_thr h 1 ?_ ?_
      · unfold f_L_direct f_L_direct_21
        refine p_rc (fun z => absurd z (rC_there h.1.1 hL.1.1 hi)) (fun _ => p_ad ?_)
        refine p_if (fun _ => p_some ⟨rfl, hL⟩) (fun z => ?_)
        obtain ⟨k, hk, rfl⟩ := nI_of z
        show k_pc ((f_C_countDirect (L_classes σ) (nI i)).bind _) _
        rw [r_C_countDirect h.1.1 hL.1.1 hi]
        show k_pc (if nI k < nI (Wd C i) then _ else _) _
        refine p_if (fun w => ?_) (fun _ => p_some ⟨rfl, hL⟩)
        rw [nI_ltI hk (by omega)] at w
        exact absurd ⟨k, w, rfl⟩ h2
      · unfold f_M_direct
        rw [if_neg (R_isClass h hM hi)]
        refine p_if (fun _ => bad) (fun z => p_guard (fun _ => p_if (fun w => ?_) (fun _ => bad)))
        obtain ⟨k, hk, rfl⟩ := nI_of z
        rw [ci, rm.2.2.1, nI_ltI hk (by omega)] at w
        exact absurd ⟨k, w, rfl⟩ h2
  · refine R_thr h 1 ?_ ?_
    · unfold f_L_direct
      exact p_rc (fun _ => p_ad (p_some ⟨rfl, hL⟩)) (fun z => absurd (rC_not h.1.1 hL.1.1 h1) z)
    · unfold f_M_direct
      rw [if_pos (R_noClass h hM h1)]
      exact bad
/-- a call that leaves the class as it is -/
theorem K_type (x1 x2 : Int32) : k_pc (f_L_type σ x1 x2) (fun q => q.2.1 = σ) := by
  unfold f_L_type
  refine p_rt (fun _ => p_ad (p_some rfl)) (fun _ => p_ad ?_)
  refine p_if (fun _ => p_bind (P := fun _ => True) (fun _ _ => trivial) (fun _ _ => p_some rfl)) (fun _ => ?_)
  refine p_if (fun _ => p_bind (P := fun _ => True) (fun _ _ => trivial) (fun _ _ => p_some rfl)) (fun _ => ?_)
  refine p_if (fun _ => p_bind (P := fun _ => True) (fun _ _ => trivial) (fun _ _ => p_some rfl)) (fun _ => ?_)
  refine p_if (fun _ => p_bind (P := fun _ => True) (fun _ _ => trivial) (fun _ _ => p_if (fun _ => p_bind (P := fun _ => True) (fun _ _ => trivial) (fun _ _ => p_some rfl)) (fun _ => p_bind (P := fun _ => True) (fun _ _ => trivial) (fun _ _ => p_some rfl)))) (fun _ => ?_)
  refine p_if (fun _ => p_bind (P := fun _ => True) (fun _ _ => trivial) (fun _ _ => p_some rfl)) (fun _ => ?_)
  exact p_if (fun _ => p_bind (P := fun _ => True) (fun _ _ => trivial) (fun _ _ => p_some rfl)) (fun _ => p_some rfl)
theorem K_classed (x1 x2 : Int32) : k_pc (f_L_classed σ x1 x2) (fun q => q.2.1 = σ) := by
  unfold f_L_classed
  refine p_rc (fun _ => p_ad (p_some rfl)) (fun _ => p_ad ?_)
  refine p_if (fun _ => p_bind (P := fun _ => True) (fun _ _ => trivial) (fun _ _ => p_if (fun _ => p_some rfl) (fun _ => p_some rfl))) (fun _ => ?_)
  refine p_if (fun _ => p_bind (P := fun _ => True) (fun _ _ => trivial) (fun _ _ => p_if (fun _ => p_some rfl) (fun _ => p_some rfl))) (fun _ => ?_)
  refine p_if (fun _ => p_bind (P := fun _ => True) (fun _ _ => trivial) (fun _ _ => p_some rfl)) (fun _ => ?_)
  exact p_if (fun _ => p_bind (P := fun _ => True) (fun _ _ => trivial) (fun _ _ => p_some rfl)) (fun _ => p_some rfl)
theorem K_common (x1 x2 x3 : Int32) : k_pc (f_L_common σ x1 x2 x3) (fun q => q.2.1 = σ) := by
  unfold f_L_common
  refine p_rt (fun _ => p_ad (p_some rfl)) (fun _ => p_ad ?_)
  refine p_rt (fun _ => p_ad (p_some rfl)) (fun _ => p_ad ?_)
  refine p_if (fun _ => p_bind (P := fun _ => True) (fun _ _ => trivial) (fun _ _ => p_some rfl)) (fun _ => ?_)
  exact p_if (fun _ => p_bind (P := fun _ => True) (fun _ _ => trivial) (fun _ _ => p_bind (P := fun _ => True) (fun _ _ => trivial) (fun _ _ => p_some rfl))) (fun _ => p_some rfl)
theorem K_Mtype (hM : RM μ C g T d) (x1 x2 : Int32) : k_pc (f_M_type μ x1 x2) (fun q => RM q.2 C g T d) := by
  have k27 : ∀ t1 : Int32, k_pc (f_M_type_27 μ x1 x2 t1) (fun q => RM q.2 C g T d) := by
    intro t1
    unfold f_M_type_27
    have ht : RM (M_set_code μ t1) C g T d := hM
    refine p_good (fun _ => ?_) (fun _ => ?_)
    · refine p_if (fun _ => p_some ht) (fun _ => ?_)
      refine p_if (fun _ => p_guard (fun _ => p_some ht)) (fun _ => ?_)
      refine p_if (fun _ => p_guard (fun _ => p_some ht)) (fun _ => ?_)
      refine p_if (fun _ => p_guard (fun _ => p_some ht)) (fun _ => ?_)
      refine p_if (fun _ => p_guard (fun _ => p_some ht)) (fun _ => ?_)
      exact p_if (fun _ => p_guard (fun _ => p_some ht)) (fun _ => p_guard (fun _ => p_some ht))
    · exact p_if (fun _ => p_some ht) (fun q => absurd rfl q)
  unfold f_M_type f_M_type_22
  exact p_if (fun _ => k27 _) (fun _ => p_if (fun _ => k27 _) (fun _ => p_if (fun _ => k27 _) (fun _ => k27 _)))
theorem K_Mclassed (hM : RM μ C g T d) (x1 x2 : Int32) : k_pc (f_M_classed μ x1 x2) (fun q => RM q.2 C g T d) := by
  have k27 : ∀ t1 : Int32, k_pc (f_M_classed_27 μ x1 x2 t1) (fun q => RM q.2 C g T d) := by
    intro t1
    unfold f_M_classed_27
    have ht : RM (M_set_code μ t1) C g T d := hM
    refine p_good (fun _ => ?_) (fun _ => ?_)
    · refine p_if (fun _ => p_some ht) (fun _ => ?_)
      refine p_if (fun _ => p_guard (fun _ => p_if (fun _ => p_some ht) (fun _ => p_some ht))) (fun _ => ?_)
      refine p_if (fun _ => p_guard (fun _ => p_if (fun _ => p_some ht) (fun _ => p_some ht))) (fun _ => ?_)
      refine p_if (fun _ => p_guard (fun _ => p_some ht)) (fun _ => ?_)
      exact p_guard (fun _ => p_bind (P := fun _ => True) (fun _ _ => trivial) (fun _ _ => p_some ht))
    · exact p_if (fun _ => p_some ht) (fun q => absurd rfl q)
  unfold f_M_classed f_M_classed_22
  exact p_if (fun _ => k27 _) (fun _ => p_if (fun _ => k27 _) (fun _ => p_if (fun _ => k27 _) (fun _ => k27 _)))
theorem K_Mcommon (h : RW C g T d) (hM : RM μ C g T d) (x1 x2 x3 : Int32) : k_pc (f_M_common μ x1 x2 x3) (fun q => RM q.2 C g T d) := by
  have bad : ∀ t1 : Int32, ¬ t1 = 0 → k_pc (f_M_common_35 μ x1 x2 x3 t1) (fun q => RM q.2 C g T d) := by
    intro t1 hne
    unfold f_M_common_35
    have ht : RM (M_set_code μ t1) C g T d := hM
    exact p_good (fun q => absurd q hne) (fun _ => p_if (fun _ => p_some ht) (fun q => absurd rfl q))
  unfold f_M_common f_M_common_17 f_M_common_30
  refine p_if (fun _ => bad _ (by decide)) (fun w1 => p_if (fun _ => bad _ (by decide)) (fun w2 => p_if (fun _ => bad _ (by decide)) (fun _ => p_if (fun _ => ?_) (fun _ => bad _ (by decide)))))
  have e1 : ∃ j, j < Tn T ∧ x1 = nI j := by
    by_cases q : ∃ j, j < Tn T ∧ x1 = nI j
    · exact q
    · exact absurd (R_noType h hM q) w1
  have e2 : ∃ j, j < Tn T ∧ x2 = nI j := by
    by_cases q : ∃ j, j < Tn T ∧ x2 = nI j
    · exact q
    · exact absurd (R_noType h hM q) w2
  obtain ⟨i, hi, rfl⟩ := e1
  obtain ⟨j, hj, rfl⟩ := e2
  unfold f_M_common_35
  refine p_good (fun _ => ?_) (fun q => absurd rfl q)
  refine p_if (fun q => absurd q k_10) (fun _ => ?_)
  refine p_bind (r_M_commonOf (σ := M_set_code μ 0) h.1 hM.1 hM.2.1 hi hj) ?_
  rintro ⟨v, τ⟩ ⟨⟨a, b, c, e⟩, _⟩
  replace e : τ = mF (M_set_code μ 0) a b c := e
  subst e
  have ht : RM (mF (M_set_code μ 0) a b c) C g T d := hM
  unfold f_M_common_66
  exact p_if (fun _ => p_bind (P := fun _ => True) (fun _ _ => trivial) (fun _ _ => p_some ht)) (fun _ => p_bind (P := fun _ => True) (fun _ _ => trivial) (fun _ _ => p_bind (P := fun _ => True) (fun _ _ => trivial) (fun _ _ => p_some ht)))
theorem RK_same (h : RW C g T d) (hL : RL σ C g T d) {fL : Option ((Int32 ⊕ Nat) × StL × Nat × Nat)} {fM : Option (Int32 × StM)} (h1 : k_pc fL (fun q => q.2.1 = σ)) (h2 : k_pc fM (fun q => RM q.2 C g T d)) : RK d fL fM := ⟨C, g, T, h, p_mono h1 (fun q hq => by rw [hq]; exact hL), h2⟩
end
-- part 08.89.pub3.lean.txt
/-! Tier 3: side by side: array, look, upper. -/
def oL (o : Option (Nat × wWt)) : Int32 ⊕ Nat := match o with
  | none => .inr 2
  | some x => .inl (nI x.1)
def oT (T : wWt) (o : Option (Nat × wWt)) : wWt := match o with
  | none => T
  | some x => x.2
def pEd (o : Option (Nat × wWt)) (w : Int32) (ν : StM) : Prop := match o with
  | none => M_full ν = 1
  | some x => w = nI x.1 ∧ rMt ν x.2 ∧ M_full ν = 0
theorem pEd_mw {o : Option (Nat × wWt)} {w : Int32} {ν : StM} (h : rMw o (w, ν)) : pEd o w ν := by
  cases o with
  | none => exact h.2
  | some x => exact h
def wOx (C : wWc) (T : wWt) (o : Option (Nat × wWt)) : Prop := ∀ q, o = some q → wOK C q.2 ∧ wEx T q.2 ∧ q.1 < Tn q.2
section
variable {σ : StL} {μ : StM} {C : wWc} {T : wWt} {g d : Nat} {o : Option (Nat × wWt)}
theorem RW_ex (h : RW C g T d) (hx : wOx C T o) : RW C g (oT T o) d := by
  cases o with
  | none => exact h
  | some x => exact ⟨(hx x rfl).1, h.2⟩
theorem p_settled {τ : StL} {v : Int32} (hO : wOK C T) (rc : rC (L_classes τ) C g) (ra : rA (L_answers τ) C T) (ed : L_depth τ = nI d) (hv : rUv T o v τ) (hx : wOx C T o) :
    k_pc ((f_L_settled τ v).bind fun r => ad_ r.2.2.1 r.2.2.2 <| match r.1 with
      | .inr e => some (.inr e, r.2.1, 0, 0)
      | .inl rv => some (.inl rv, r.2.1, 0, 0)) (fun q => q.1 = oL o ∧ RL q.2.1 C g (oT T o) d) := by
  cases o with
  | none =>
    obtain ⟨e, T', hr⟩ := hv
    refine p_bind (P := fun r => r.1 = .inr 2 ∧ RL r.2.1 C g T d) ?_ ?_
    · unfold f_L_settled
      exact p_if (fun _ => p_bind (r_T_drop hr) (fun q hq => p_some ⟨rfl, ⟨rc, hq⟩, ra, ed⟩)) (fun z => absurd e z)
    · rintro ⟨w, ρ, K, N⟩ ⟨e1, e2⟩
      replace e1 : w = .inr 2 := e1
      subst e1
      exact p_ad (p_some ⟨rfl, e2⟩)
  | some x =>
    obtain ⟨e, hr⟩ := hv
    obtain ⟨x1, x2, x3⟩ := hx x rfl
    have hn := x1.2.2.1
    refine p_bind (P := fun r => r.1 = .inl (nI x.1) ∧ RL r.2.1 C g x.2 d) ?_ ?_
    · unfold f_L_settled
      refine p_if (fun z => absurd (e.symm.trans z) (k_ne1 (by omega))) (fun _ => p_bind (r_T_settle hr) (fun q hq => p_some ⟨congrArg Sum.inl e, ⟨rc, hq⟩, rA_ex hO x2 ra, ed⟩))
    · rintro ⟨w, ρ, K, N⟩ ⟨e1, e2⟩
      replace e1 : w = .inl (nI x.1) := e1
      subst e1
      exact p_ad (p_some ⟨rfl, e2⟩)
theorem rUv_nw {v : Int32} {τ : StT} {T0 : wWt} (r : rT (L_types σ) T0 T) (h : rNw (L_types σ) T0 o (v, τ)) : rUv T0 o v (L_set_types σ τ) := by
  cases o with
  | none =>
    obtain ⟨h1, h2⟩ := h
    replace h2 : τ = L_types σ := h2
    exact ⟨h1, T, by show rT τ T0 T; rw [h2]; exact r⟩
  | some x => exact h
theorem p_endM {cd : Nat → Int32} {ν : StM} {w e : Int32} (hO : wOK C T) (hM : RM μ C g T d) (ke : pKe μ ν) (ag : kAg (Tn T) μ ν) (hx : wOx C T o) (hw : pEd o w ν) (ec : M_code μ = 0) (hcd : cd 2 = e) : k_pc (f_M_end ν (nI (Tn T)) w e) (fun z => RO cd (oL o) z ∧ RM z.2 C g (oT T o) d) := by
  obtain ⟨m1, m2, m3, m4, m5⟩ := hM
  have hd : M_depth ν = nI d := ke.2.2.1.trans m5
  have m1' : rMc ν C g := rMc_ke m1 ke
  unfold f_M_end
  cases o with
  | none =>
    replace hw : M_full ν = 1 := hw
    refine p_if (fun z => by rw [hw] at z; exact absurd z (by decide)) (fun _ => p_some ⟨hcd.symm, m1', ?_, ?_, rfl, hd⟩)
    · exact rMt_ag (τ := M_set_code (M_set_full (M_set_types ν (nI (Tn T))) 0) e) hO.2 m2 ag rfl
    · exact rR_ex (ν := M_set_code (M_set_full (M_set_types ν (nI (Tn T))) 0) e) hO (wEx_refl T) m3 ke.1.2.2.1 ke.1.2.1
  | some x =>
    obtain ⟨w1, w2, w3⟩ := hw
    obtain ⟨x1, x2, x3⟩ := hx x rfl
    refine p_if (fun _ => p_some ⟨⟨ke.1.2.2.2.trans ec, w1⟩, m1', w2, rR_ex hO x2 m3 ke.1.2.2.1 ke.1.2.1, w3, hd⟩) (fun z => absurd w3 z)
theorem wOx_gd {a : Nat} (h : wGd C T a o) : wOx C T o := fun q e => ⟨(h q e).1, (h q e).2.1, (h q e).2.2.1⟩
theorem wOx_nm (h : wOK C T) {c a : Nat} (hc : c < Wn C) (ho : wOk (Tn T) (Wg C c) a) : wOx C T (wNm T c a) := by
  intro q e
  obtain ⟨n1, n2, n3, _⟩ := wNm_ok h hc ho e
  exact ⟨n1, n2, n3⟩
theorem wOx_arr (h : wOK C T) {x : Nat} (hx : x < Tn T) : wOx C T (wArr (x, T)) := by
  intro q e
  obtain ⟨n1, n2, n3, _⟩ := wArr_ok h hx e
  exact ⟨n1, n2, n3⟩
theorem R_array (h : RW C g T d) (hL : RL σ C g T d) (hM : RM μ C g T d) (x1 : Int32) : RQ (fun e => if e = 1 then 1 else 2) d (f_L_array σ x1) (f_M_array μ x1) := by
  have hn := RW_not h
  by_cases h1 : ∃ j, j < Tn T ∧ x1 = nI j
  · obtain ⟨i, hi, rfl⟩ := h1
    have hx := wOx_arr h.1 hi
    refine ⟨oL (wArr (i, T)), C, g, oT T (wArr (i, T)), RW_ex h hx, ?_, ?_⟩
    · unfold f_L_array
      refine p_rt (fun z => absurd z (rT_there h.1.2 hL.1.2 hi)) (fun _ => p_ad ?_)
      refine p_bind (r_T_makeArray (σ := L_types σ) h.1 hL.1.2 hi) ?_
      rintro ⟨v, τ⟩ hv
      have hv' : rNw (L_types σ) T (wArr (i, T)) (v, τ) := hv
      exact p_settled (τ := L_set_types σ τ) h.1 hL.1.1 hL.2.1 hL.2.2 (rUv_nw hL.1.2 hv') hx
    · unfold f_M_array
      rw [if_neg (R_isType h hM hi)]
      unfold f_M_array_14
      refine p_good (fun _ => ?_) (fun q => absurd rfl q)
      refine p_if (fun q => absurd q k_10) (fun _ => ?_)
      have hM0 : RM (M_set_code μ 0) C g T d := hM
      refine p_bind (p_addArray (σ := M_set_code μ 0) h.1 hM.1 hM.2.1 hM.2.2.2.1 hi) ?_
      rintro ⟨w, ν⟩ ⟨⟨b, eb⟩, ag, hw⟩
      replace eb : ν = mB (M_set_code μ 0) b := eb
      have et : M_types (M_set_code μ 0) = nI (Tn T) := hM.2.1.1
      rw [et]
      exact p_bind (p_endM h.1 hM0 (by rw [eb]; exact pKe_mB _ b) ag hx (pEd_mw hw) rfl rfl) (fun r hr => p_some hr)
  · refine R_thr h 1 ?_ ?_
    · unfold f_L_array
      exact p_rt (fun _ => p_ad (p_some ⟨rfl, hL⟩)) (fun z => absurd (rT_not h.1.2 hL.1.2 h1) z)
    · unfold f_M_array
      rw [if_pos (R_noType h hM h1)]
      unfold f_M_array_14
      refine p_good (fun q => absurd q (by decide)) (fun _ => ?_)
      exact p_if (fun _ => p_some ⟨rfl, hM⟩) (fun q => absurd rfl q)
theorem RM_mF (h : RM μ C g T d) (x a b c : Int32) : RM (mF (M_set_code μ x) a b c) C g T d := h
theorem p_addEnd {κ : StM} {cd : Nat → Int32} {e : Int32} (h : RW C g T d) (hM : RM κ C g T d) (ec : M_code κ = 0) {b r : Nat} (hb : b < Wn C) (ok : wOk (Tn T) (Wg C b) r) (hcd : cd 2 = e) : k_pc ((f_M_addNamed κ (nI b) (wH r) (wTd r)).bind fun r3 => (f_M_end r3.2 (nI (Tn T)) r3.1 e).bind fun r4 => some (r4.1, r4.2)) (fun z => RO cd (oL (wNm T b r)) z ∧ RM z.2 C g (oT T (wNm T b r)) d) := by
  refine p_bind (p_addNamed h.1 hM.1 hM.2.1 hM.2.2.2.1 hb ok) ?_
  rintro ⟨w, ν⟩ ⟨⟨bb, eb⟩, ag, hw⟩
  replace eb : ν = mB κ bb := eb
  exact p_bind (p_endM h.1 hM (by rw [eb]; exact pKe_mB _ bb) ag (wOx_nm h.1 hb ok) (pEd_mw hw) ec hcd) (fun r hr => p_some hr)
theorem p_lookM (h : RW C g T d) (hM : RM μ C g T d) {i b : Nat} (hi : i < Tn T) (hb : b < Wn C) : (wLk C T i b = none → k_pc (f_M_look_22 μ (nI i) (nI b) 0) (fun q => (M_code q.2 = 0 ∧ q.1 = -1) ∧ RM q.2 C g T d)) ∧ (∀ r, wLk C T i b = some r → k_pc (f_M_look_22 μ (nI i) (nI b) 0) (fun z => RO (fun e => if e = 1 then 1 else 2) (oL (wNm T b r)) z ∧ RM z.2 C g (oT T (wNm T b r)) d)) := by
  have go : ∀ {Q : Int32 × StM → Prop}, (∀ τ : StM, RM τ C g T d → M_code τ = 0 → ((wLk C T i b = none ∧ M_found τ = 0) ∨ ∃ r, wLk C T i b = some r ∧ M_found τ = 1 ∧ M_foundHow τ = wH r ∧ M_foundType τ = wTd r) → k_pc (if M_found τ = 0 then some ((-1 : Int32), τ) else (f_M_addNamed τ (nI b) (M_foundHow τ) (M_foundType τ)).bind fun r3 => (f_M_end r3.2 (M_types τ) r3.1 2).bind fun r4 => some (r4.1, r4.2)) Q) → k_pc (f_M_look_22 μ (nI i) (nI b) 0) Q := by
    intro Q kk
    unfold f_M_look_22
    refine p_good (fun _ => ?_) (fun q => absurd rfl q)
    refine p_if (fun q => absurd q k_10) (fun _ => ?_)
    refine p_bind (r_M_lookAt (σ := M_set_code μ 0) h.1 hM.1 hM.2.1 hi hb) ?_
    rintro ⟨v, τ⟩ e
    cases el : wLk C T i b with
    | none =>
      rw [el] at e kk
      obtain ⟨hh, gg, e⟩ := e
      replace e : τ = mF (M_set_code μ 0) 0 hh gg := e
      exact kk τ (by rw [e]; exact RM_mF hM 0 0 hh gg) (by rw [e]; rfl) (Or.inl ⟨rfl, by rw [e]; rfl⟩)
    | some r =>
      rw [el] at e kk
      replace e : τ = mF (M_set_code μ 0) 1 (wH r) (wTd r) := e
      exact kk τ (by rw [e]; exact RM_mF hM 0 1 (wH r) (wTd r)) (by rw [e]; rfl) (Or.inr ⟨r, rfl, by rw [e]; rfl, by rw [e]; rfl, by rw [e]; rfl⟩)
  refine ⟨fun el => go (fun τ hτ ec hc => ?_), fun r el => go (fun τ hτ ec hc => ?_)⟩
  · rcases hc with ⟨_, f1⟩ | ⟨r, f1, _⟩
    · exact p_if (fun _ => p_some ⟨⟨ec, rfl⟩, hτ⟩) (fun z => absurd f1 z)
    · rw [el] at f1; cases f1
  · rcases hc with ⟨f1, _⟩ | ⟨r', f1, f2, f3, f4⟩
    · rw [el] at f1; cases f1
    · rw [el] at f1
      injection f1 with f1
      subst f1
      rw [f3, f4, show M_types τ = nI (Tn T) from hτ.2.1.1]
      refine p_if (fun z => ?_) (fun _ => ?_)
      · rw [f2] at z; exact absurd z k_10
      · exact p_addEnd h hτ ec hb (wLk_ok h.1 hi el) rfl
theorem R_look (h : RW C g T d) (hL : RL σ C g T d) (hM : RM μ C g T d) (x1 x2 : Int32) : RQ (fun e => if e = 1 then 1 else 2) d (f_L_look σ x1 x2) (f_M_look μ x1 x2) := by
  have hn := RW_not h
  have bad : k_pc (f_M_look_21 μ x1 x2) (fun q => M_code q.2 = 1 ∧ RM q.2 C g T d) := by
    unfold f_M_look_21 f_M_look_22
    refine p_good (fun q => absurd q (by decide)) (fun _ => ?_)
    exact p_if (fun _ => p_some ⟨rfl, hM⟩) (fun q => absurd rfl q)
  by_cases h1 : ∃ j, j < Tn T ∧ x1 = nI j
  · obtain ⟨i, hi, rfl⟩ := h1
    by_cases h2 : ∃ j, j < Wn C ∧ x2 = nI j
    · obtain ⟨b, hb, rfl⟩ := h2
      cases el : wLk C T i b with
      | none =>
        refine R_ans h (-1) ?_ ?_
        · unfold f_L_look
          refine p_rt (fun z => absurd z (rT_there h.1.2 hL.1.2 hi)) (fun _ => p_ad ?_)
          refine p_rc (fun z => absurd z (rC_there h.1.1 hL.1.1 hb)) (fun _ => p_ad ?_)
          refine p_bind (r_L_find h.1 hL.1 hi hb) ?_
          intro r3 e3
          rw [el] at e3
          replace e3 : r3 = -1 := e3
          exact p_if (fun _ => p_some ⟨rfl, hL⟩) (fun z => absurd e3 z)
        · unfold f_M_look
          rw [if_neg (R_isType h hM hi), if_neg (R_isClass h hM hb)]
          exact (p_lookM h hM hi hb).1 el
      | some r =>
        have ok := wLk_ok h.1 hi el
        have hx := wOx_nm h.1 hb ok
        have rl := wOk_lt ok (by omega)
        refine ⟨oL (wNm T b r), C, g, oT T (wNm T b r), RW_ex h hx, ?_, ?_⟩
        · unfold f_L_look
          refine p_rt (fun z => absurd z (rT_there h.1.2 hL.1.2 hi)) (fun _ => p_ad ?_)
          refine p_rc (fun z => absurd z (rC_there h.1.1 hL.1.1 hb)) (fun _ => p_ad ?_)
          refine p_bind (r_L_find h.1 hL.1 hi hb) ?_
          intro r3 e3
          rw [el] at e3
          replace e3 : r3 = nI r := e3
          subst e3
          refine p_if (fun z => absurd z (k_ne1 (by omega))) (fun _ => ?_)
          refine p_bind (r_T_makeNamed (σ := L_types σ) h.1 hL.1.2 hb ok) ?_
          rintro ⟨v, τ⟩ hv
          have hv' : rNw (L_types σ) T (wNm T b r) (v, τ) := hv
          exact p_settled (τ := L_set_types σ τ) h.1 hL.1.1 hL.2.1 hL.2.2 (rUv_nw hL.1.2 hv') hx
        · unfold f_M_look
          rw [if_neg (R_isType h hM hi), if_neg (R_isClass h hM hb)]
          exact (p_lookM h hM hi hb).2 r el
    · refine R_thr h 1 ?_ ?_
      · unfold f_L_look
        refine p_rt (fun z => absurd z (rT_there h.1.2 hL.1.2 hi)) (fun _ => p_ad ?_)
        exact p_rc (fun _ => p_ad (p_some ⟨rfl, hL⟩)) (fun z => absurd (rC_not h.1.1 hL.1.1 h2) z)
      · unfold f_M_look
        rw [if_neg (R_isType h hM hi), if_pos (R_noClass h hM h2)]
        exact bad
  · refine R_thr h 1 ?_ ?_
    · unfold f_L_look
      exact p_rt (fun _ => p_ad (p_some ⟨rfl, hL⟩)) (fun z => absurd (rT_not h.1.2 hL.1.2 h1) z)
    · unfold f_M_look
      rw [if_pos (R_noType h hM h1)]
      exact bad
theorem p_upper (h : RW C g T d) (hM : RM μ C g T d) {a b : Nat} (ha : a < Tn T) (hb : b < Tn T) (hx : wOx C T (wUpp C d T a b)) : k_pc (f_M_upper_22 μ (nI a) (nI b) 0) (fun z => RO (fun e => if e = 1 then 1 else 2) (oL (wUpp C d T a b)) z ∧ RM z.2 C g (oT T (wUpp C d T a b)) d) := by
  have hd2 := h.2.2.1
  unfold f_M_upper_22
  refine p_good (fun _ => ?_) (fun q => absurd rfl q)
  refine p_if (fun q => absurd q k_10) (fun _ => ?_)
  have hM0 : RM (M_set_high (M_set_code μ 0) 0) C g T d := hM
  refine p_bind (p_ok (s_M_ask (σ := M_set_high (M_set_code μ 0) 0) (h := 0) rfl (by omega) (nI a) (nI b) (M_depth (M_set_high (M_set_code μ 0) 0)))) ?_
  rintro ⟨v, S⟩ eS
  replace eS : S = mAsk (M_set_high (M_set_code μ 0) 0) 0 (nI a) (nI b) (M_depth (M_set_high (M_set_code μ 0) 0)) := eS
  have edp : M_depth (M_set_high (M_set_code μ 0) 0) = nI d := hM.2.2.2.2
  show k_pc (f_M_upper_50 1000000 S (M_types μ)) _
  rw [hM.2.1.1]
  have hKe : pKe (M_set_high (M_set_code μ 0) 0) S := by
    rw [eS]; exact ⟨⟨rfl, rfl, rfl, rfl⟩, mAsk_kA⟩
  have hAg : kAg (Tn T) (M_set_high (M_set_code μ 0) 0) S := by
    rw [eS]; exact mAsk_kAg
  have hm := (h.1.2.2.2.1 a ha).2.1
  refine p_run d 0 a b T S (nI (Tn T)) _ h.1 (rMc_ke hM0.1 hKe) (by rw [eS]; exact hM.2.1) (by rw [eS]; exact hM.2.2.2.1) (by rw [eS]; rfl) (by rw [eS]; exact mAsk_left) (by rw [eS]; exact mAsk_right) (by rw [eS, mAsk_deep]; exact edp) (by rw [eS]; exact mAsk_stage) (by rw [eS]; exact mAsk_size) (by rw [eS]; exact mAsk_at) ha hb (by omega) (by omega) ?_ 1000000
  clear eS
  rintro σ' ⟨⟨k1, k2, _⟩, ho⟩ F
  have key : k_pc (f_M_upper_170 σ' (nI (Tn T))) (fun z => RO (fun e => if e = 1 then 1 else 2) (oL (wUpp C d T a b)) z ∧ RM z.2 C g (oT T (wUpp C d T a b)) d) := by
    unfold f_M_upper_170
    refine p_bind (p_endM h.1 hM0 (pKe_trans hKe k1) (kAg_trans hAg k2 (Nat.le_refl _)) hx ?_ rfl rfl) (fun r hr => p_some hr)
    show pEd (wUb C (wFd C d) 101 T a b) (M_answer σ') σ'
    cases eo : wUb C (wFd C d) 101 T a b with
    | none => rw [eo] at ho; exact ho
    | some q =>
      rw [eo] at ho
      exact ⟨ho.2.2.2, ho.2.1, ho.1⟩
  cases F with
  | zero => exact p_none
  | succ F =>
    rw [f_M_upper_50]
    unfold f_M_upper_50_s
    refine p_if (fun _ => key) (fun q => p_if (fun q2 => ?_) (fun _ => key))
    exfalso
    cases eo : wUb C (wFd C d) 101 T a b with
    | none =>
      rw [eo] at ho
      replace ho : M_full σ' = 1 := ho
      rw [ho] at q2; exact absurd q2 (by decide)
    | some z =>
      rw [eo] at ho
      obtain ⟨_, _, o3, _⟩ := ho
      rw [o3] at q; exact q (by decide)
theorem R_upper (h : RW C g T d) (hL : RL σ C g T d) (hM : RM μ C g T d) (x1 x2 : Int32) : RQ (fun e => if e = 1 then 1 else 2) d (f_L_upper σ x1 x2) (f_M_upper μ x1 x2) := by
  have hn := RW_not h
  have bad : k_pc (f_M_upper_21 μ x1 x2) (fun q => M_code q.2 = 1 ∧ RM q.2 C g T d) := by
    unfold f_M_upper_21 f_M_upper_22
    refine p_good (fun q => absurd q (by decide)) (fun _ => ?_)
    exact p_if (fun _ => p_some ⟨rfl, hM⟩) (fun q => absurd rfl q)
  by_cases h1 : ∃ j, j < Tn T ∧ x1 = nI j
  · obtain ⟨a, ha, rfl⟩ := h1
    by_cases h2 : ∃ j, j < Tn T ∧ x2 = nI j
    · obtain ⟨b, hb, rfl⟩ := h2
      have hx : wOx C T (wUpp C d T a b) := wOx_gd (wUpp_ok (C := C) d T a b h.1 ha hb)
      refine ⟨oL (wUpp C d T a b), C, g, oT T (wUpp C d T a b), RW_ex h hx, ?_, ?_⟩
      · unfold f_L_upper
        refine p_rt (fun z => absurd z (rT_there h.1.2 hL.1.2 ha)) (fun _ => p_ad ?_)
        refine p_rt (fun z => absurd z (rT_there h.1.2 hL.1.2 hb)) (fun _ => p_ad ?_)
        rw [show L_depth ((Sum.inl (0 : Int32) : Int32 ⊕ Nat), σ, 0, 0).2.1 = nI d from hL.2.2]
        refine p_bind (r_L_upperBound d 3 h.2.2.1 σ T a b h.1 hL.1 ha hb) ?_
        rintro ⟨w, τ, K, N⟩ ⟨v, e, hf, hv⟩
        replace e : w = .inl v := e
        replace hf : rLf σ τ (30 * (d + 1)) := hf
        replace hv : rUv T (wUpp C d T a b) v τ := hv
        subst e
        refine p_ad ?_
        exact p_settled (τ := τ) h.1 (by rw [hf.2.1]; exact hL.1.1) (by rw [hf.2.2.1]; exact hL.2.1) (hf.1.trans hL.2.2) hv hx
      · unfold f_M_upper
        rw [if_neg (R_isType h hM ha), if_neg (R_isType h hM hb)]
        exact p_upper h hM ha hb hx
    · refine R_thr h 1 ?_ ?_
      · unfold f_L_upper
        refine p_rt (fun z => absurd z (rT_there h.1.2 hL.1.2 ha)) (fun _ => p_ad ?_)
        exact p_rt (fun _ => p_ad (p_some ⟨rfl, hL⟩)) (fun z => absurd (rT_not h.1.2 hL.1.2 h2) z)
      · unfold f_M_upper
        rw [if_neg (R_isType h hM ha), if_pos (R_noType h hM h2)]
        exact bad
  · refine R_thr h 1 ?_ ?_
    · unfold f_L_upper
      exact p_rt (fun _ => p_ad (p_some ⟨rfl, hL⟩)) (fun z => absurd (rT_not h.1.2 hL.1.2 h1) z)
    · unfold f_M_upper
      rw [if_pos (R_noType h hM h1)]
      exact bad
end
-- part 08.90.pub4.lean.txt
/-! Tier 3: side by side: named, isBelow, declare. -/
theorem p_eq {α : Type} {o : Option α} {a : α} (h : o = some a) : k_pc o (fun v => v = a) := by
  intro r e
  rw [h] at e
  cases e; rfl
section
variable {σ : StL} {μ : StM} {C : wWc} {T : wWt} {g d : Nat}
theorem k_argOf {x y : Nat} (hy : y = 1 ∨ y = 2) : f_L_argumentOf (nI y) (nI x) = nI (4 * x + y) := by
  unfold f_L_argumentOf
  have ne : ¬ nI y = 0 := by
    rcases hy with e | e
    · subst e; decide
    · subst e; decide
  rw [if_neg ne]
  show nI x * nI 4 + nI y = _
  rw [k_mul, nI_add, Nat.mul_comm]
theorem R_named (h : RW C g T d) (hL : RL σ C g T d) (hM : RM μ C g T d) (x1 x2 x3 : Int32) : RQ (fun e => if e = 1 then 1 else if e = 3 then 2 else 3) d (f_L_named σ x1 x2 x3) (f_M_named μ x1 x2 x3) := by
  have hn := RW_not h
  have hM0 : RM (M_set_code μ 0) C g T d := hM
  have bad : ∀ t : Int32, ¬ t = 0 → k_pc (f_M_named_78 μ x1 x2 x3 t) (fun q => M_code q.2 = t ∧ RM q.2 C g T d) := by
    intro t ht
    have hMt : RM (M_set_code μ t) C g T d := hM
    unfold f_M_named_78
    refine p_good (fun q => absurd q ht) (fun _ => ?_)
    exact p_if (fun _ => p_some ⟨rfl, hMt⟩) (fun q => absurd rfl q)
  by_cases h1 : ∃ j, j < Wn C ∧ x1 = nI j
  · obtain ⟨i, hi, rfl⟩ := h1
    have ci : (nI i).toNatClampNeg = i := nI_clamp (by omega)
    have l89 : ∀ A, wOk (Tn T) (Wg C i) A → f_L_argumentOf x2 x3 = nI A → k_pc (f_L_named_89 σ (nI i) x2 x3) (fun q => q.1 = oL (wNm T i A) ∧ RL q.2.1 C g (oT T (wNm T i A)) d) := by
      intro A ok eA
      unfold f_L_named_89
      rw [eA]
      refine p_bind (r_T_makeNamed (σ := L_types σ) h.1 hL.1.2 hi ok) ?_
      rintro ⟨v, τ⟩ hv
      have hv' : rNw (L_types σ) T (wNm T i A) (v, τ) := hv
      exact p_settled (τ := L_set_types σ τ) h.1 hL.1.1 hL.2.1 hL.2.2 (rUv_nw hL.1.2 hv') (wOx_nm h.1 hi ok)
    have m112 : ∀ A, wOk (Tn T) (Wg C i) A → k_pc (f_M_named_112 (M_set_code μ 0) (nI (Tn T)) (nI i) (wH A) (wTd A)) (fun z => RO (fun e => if e = 1 then 1 else if e = 3 then 2 else 3) (oL (wNm T i A)) z ∧ RM z.2 C g (oT T (wNm T i A)) d) := by
      intro A ok
      unfold f_M_named_112
      refine p_bind (p_addNamed (σ := M_set_code μ 0) h.1 hM.1 hM.2.1 hM.2.2.2.1 hi ok) ?_
      rintro ⟨w, ν⟩ ⟨⟨b, eb⟩, ag, hw⟩
      replace eb : ν = mB (M_set_code μ 0) b := eb
      exact p_bind (p_endM h.1 hM0 (by rw [eb]; exact pKe_mB _ b) ag (wOx_nm h.1 hi ok) (pEd_mw hw) rfl rfl) (fun r hr => p_some hr)
    by_cases z0 : x2 = 0
    · subst z0
      cases eg : Wg C i with
      | true =>
        refine R_thr h 3 ?_ ?_
        · unfold f_L_named
          refine p_rc (fun z => absurd z (rC_there h.1.1 hL.1.1 hi)) (fun _ => p_ad ?_)
          refine p_if (fun _ => ?_) (fun z => absurd rfl z)
          unfold f_L_named_14
          rw [if_neg (by decide), if_neg (by decide)]
          unfold f_L_named_29
          rw [if_pos rfl, if_pos rfl]
          unfold f_L_named_40
          refine p_bind (p_eq (r_C_isGeneric h.1.1 hL.1.1 hi)) ?_
          rintro _ rfl
          rw [eg]
          exact p_if (fun z => absurd z (by decide)) (fun _ => p_some ⟨rfl, hL⟩)
        · unfold f_M_named
          rw [if_neg (R_isClass h hM hi), if_pos rfl]
          unfold f_M_named_20 f_M_named_25
          rw [if_neg (by decide), if_neg (by decide), if_neg (by decide)]
          refine p_guard (fun _ => ?_)
          rw [if_pos rfl]
          unfold f_M_named_60
          rw [ci, (hM.1.2.2 i hi).2.1, eg, if_pos rfl]
          exact bad 2 (by decide)
      | false =>
        have ok : wOk (Tn T) (Wg C i) 0 := Or.inl ⟨eg, rfl⟩
        refine ⟨oL (wNm T i 0), C, g, oT T (wNm T i 0), RW_ex h (wOx_nm h.1 hi ok), ?_, ?_⟩
        · unfold f_L_named
          refine p_rc (fun z => absurd z (rC_there h.1.1 hL.1.1 hi)) (fun _ => p_ad ?_)
          refine p_if (fun _ => ?_) (fun z => absurd rfl z)
          unfold f_L_named_14
          rw [if_neg (by decide), if_neg (by decide)]
          unfold f_L_named_29
          rw [if_pos rfl, if_pos rfl]
          unfold f_L_named_40
          refine p_bind (p_eq (r_C_isGeneric h.1.1 hL.1.1 hi)) ?_
          rintro _ rfl
          rw [eg]
          exact p_if (fun _ => p_if (fun _ => l89 0 ok rfl) (fun z => absurd rfl z)) (fun z => absurd rfl z)
        · unfold f_M_named
          rw [if_neg (R_isClass h hM hi), if_pos rfl]
          unfold f_M_named_20 f_M_named_25
          rw [if_neg (by decide), if_neg (by decide), if_neg (by decide)]
          refine p_guard (fun _ => ?_)
          rw [if_pos rfl]
          unfold f_M_named_60
          rw [ci, (hM.1.2.2 i hi).2.1, eg, if_neg (by decide), if_pos (by decide)]
          unfold f_M_named_77 f_M_named_78
          refine p_good (fun _ => ?_) (fun q => absurd rfl q)
          refine p_if (fun q => absurd q k_10) (fun _ => p_if (fun _ => ?_) (fun z => absurd rfl z))
          have et : M_types (M_set_code μ 0) = nI (Tn T) := hM.2.1.1
          show k_pc (f_M_named_112 (M_set_code μ 0) (M_types (M_set_code μ 0)) (nI i) 0 (-1)) _
          rw [et]
          exact m112 0 ok
    · by_cases h3 : ∃ j, j < Tn T ∧ x3 = nI j
      · obtain ⟨j, hj, rfl⟩ := h3
        have lgo : ∀ {Q : (Int32 ⊕ Nat) × StL × Nat × Nat → Prop}, k_pc (f_L_named_14 σ (nI i) x2 (nI j)) (fun r => Q (r.1, r.2.1, r.2.2.1 + 0 + 0, r.2.2.2 + 0 + 0)) → k_pc (f_L_named σ (nI i) x2 (nI j)) Q := by
          intro Q kk
          unfold f_L_named
          refine p_rc (fun z => absurd z (rC_there h.1.1 hL.1.1 hi)) (fun _ => p_ad ?_)
          refine p_if (fun z => absurd z z0) (fun _ => ?_)
          exact p_rt (fun z => absurd z (rT_there h.1.2 hL.1.2 hj)) (fun _ => p_ad kk)
        have rgo : ∀ {Q : Int32 × StM → Prop}, k_pc (f_M_named_20 μ (nI i) x2 (nI j)) Q → k_pc (f_M_named μ (nI i) x2 (nI j)) Q := by
          intro Q kk
          unfold f_M_named
          rw [if_neg (R_isClass h hM hi), if_neg z0, if_neg (R_isType h hM hj)]
          exact kk
        by_cases hy : x2 = 1 ∨ x2 = 2
        · obtain ⟨y, hy1, hy2⟩ : ∃ y, (y = 1 ∨ y = 2) ∧ x2 = nI y := by
            rcases hy with e | e
            · exact ⟨1, Or.inl rfl, e⟩
            · exact ⟨2, Or.inr rfl, e⟩
          subst hy2
          have l40 : ∀ {Q : (Int32 ⊕ Nat) × StL × Nat × Nat → Prop}, k_pc (f_L_named_40 σ (nI i) (nI y) (nI j) 1) Q → k_pc (f_L_named_14 σ (nI i) (nI y) (nI j)) Q := by
            intro Q kk
            unfold f_L_named_14 f_L_named_24 f_L_named_29
            refine p_if (fun _ => p_if (fun z => absurd z (by decide)) (fun _ => kk)) (fun w1 => p_if (fun _ => p_if (fun z => absurd z (by decide)) (fun _ => kk)) (fun w2 => ?_))
            rcases hy with e | e
            · exact absurd e w1
            · exact absurd e w2
          have m60 : ∀ {Q : Int32 × StM → Prop}, k_pc (f_M_named_60 μ (nI i) (nI y) (nI j) (b2 (Wg C i)) 0) Q → k_pc (f_M_named_20 μ (nI i) (nI y) (nI j)) Q := by
            intro Q kk
            unfold f_M_named_20 f_M_named_25
            have n1 : ¬ nI y < 0 := nI_pos (by omega)
            have n2 : ¬ (2 : Int32) < nI y := by
              show ¬ nI 2 < nI y
              rw [nI_ltI (by decide) (by omega)]; omega
            rw [if_neg (by decide), if_neg n1, if_neg n2]
            refine p_guard (fun _ => ?_)
            rw [if_neg z0, ci, (hM.1.2.2 i hi).2.1]
            exact kk
          cases eg : Wg C i with
          | false =>
            refine R_thr h 3 (lgo (l40 ?_)) (rgo (m60 ?_))
            · unfold f_L_named_40
              refine p_bind (p_eq (r_C_isGeneric h.1.1 hL.1.1 hi)) ?_
              rintro _ rfl
              rw [eg]
              exact p_if (fun z => absurd z (by decide)) (fun _ => p_some ⟨rfl, hL⟩)
            · rw [eg]
              unfold f_M_named_60
              rw [if_pos rfl]
              exact bad 2 (by decide)
          | true =>
            have kl := wK_lt h.1.2 hj
            by_cases j8 : 8 ≤ j
            · have ok : wOk (Tn T) (Wg C i) (4 * j + y) := by
                rw [eg]; exact Or.inr ⟨rfl, j, j8, hj, by omega⟩
              refine ⟨oL (wNm T i (4 * j + y)), C, g, oT T (wNm T i (4 * j + y)), RW_ex h (wOx_nm h.1 hi ok), lgo (l40 ?_), rgo (m60 ?_)⟩
              · unfold f_L_named_40
                refine p_bind (p_eq (r_C_isGeneric h.1.1 hL.1.1 hi)) ?_
                rintro _ rfl
                rw [eg]
                refine p_if (fun _ => p_if (fun z => absurd z k_10) (fun _ => ?_)) (fun z => absurd rfl z)
                refine p_bind (p_eq (r_T_kindOf h.1.2 hL.1.2 hj)) ?_
                rintro _ rfl
                refine p_if (fun z => ?_) (fun _ => l89 _ ok (k_argOf hy1))
                have z2 : nI (dK (Ty T j)) = nI 0 := z
                rw [nI_eq (by omega) (by decide)] at z2
                rcases wT_kind h.1.2 hj with ⟨_, w⟩ | ⟨_, w⟩ <;> omega
              · rw [eg]
                unfold f_M_named_60
                have n3 : ¬ nI y ≤ 0 := by
                  show ¬ nI y ≤ nI 0
                  rw [nI_leI (by omega) (by decide)]; omega
                have n4 : (8 : Int32) ≤ nI j := by
                  show nI 8 ≤ nI j
                  rw [nI_leI (by decide) (by omega)]; exact j8
                rw [if_neg (by decide), if_neg n3, if_pos n4]
                unfold f_M_named_77 f_M_named_78
                refine p_good (fun _ => ?_) (fun q => absurd rfl q)
                refine p_if (fun q => absurd q k_10) (fun _ => p_if (fun z => absurd z z0) (fun _ => ?_))
                have et : M_types (M_set_code μ 0) = nI (Tn T) := hM.2.1.1
                show k_pc (f_M_named_112 (M_set_code μ 0) (M_types (M_set_code μ 0)) (nI i) (nI y) (nI j)) _
                rw [et]
                have w1 : wTd (4 * j + y) = nI j := wTd_x (by omega)
                have w2 : wH (4 * j + y) = nI y := by
                  rcases hy1 with e | e
                  · subst e; exact wH_x rfl
                  · subst e; exact wH_y rfl
                have key := m112 _ ok
                rw [w1, w2] at key
                exact key
            · refine R_thr h 3 (lgo (l40 ?_)) (rgo (m60 ?_))
              · unfold f_L_named_40
                refine p_bind (p_eq (r_C_isGeneric h.1.1 hL.1.1 hi)) ?_
                rintro _ rfl
                rw [eg]
                refine p_if (fun _ => p_if (fun z => absurd z k_10) (fun _ => ?_)) (fun z => absurd rfl z)
                refine p_bind (p_eq (r_T_kindOf h.1.2 hL.1.2 hj)) ?_
                rintro _ rfl
                refine p_if (fun _ => p_some ⟨rfl, hL⟩) (fun z => ?_)
                have z2 : ¬ nI (dK (Ty T j)) = nI 0 := z
                rw [nI_eq (by omega) (by decide)] at z2
                rcases wT_kind h.1.2 hj with ⟨w, _⟩ | ⟨w, _⟩
                · exact absurd w z2
                · omega
              · rw [eg]
                unfold f_M_named_60
                have n3 : ¬ nI y ≤ 0 := by
                  show ¬ nI y ≤ nI 0
                  rw [nI_leI (by omega) (by decide)]; omega
                have n4 : ¬ (8 : Int32) ≤ nI j := by
                  show ¬ nI 8 ≤ nI j
                  rw [nI_leI (by decide) (by omega)]; exact j8
                rw [if_neg (by decide), if_neg n3, if_neg n4]
                exact bad 2 (by decide)
        · refine R_thr h 3 (lgo ?_) (rgo ?_)
          · unfold f_L_named_14
            rw [if_neg (fun q => hy (Or.inl q)), if_neg (fun q => hy (Or.inr q))]
            unfold f_L_named_29
            rw [if_pos rfl, if_neg z0]
            exact p_some ⟨rfl, hL⟩
          · unfold f_M_named_20 f_M_named_25
            rw [if_neg (by decide)]
            refine p_if (fun _ => bad 2 (by decide)) (fun w => p_if (fun _ => bad 2 (by decide)) (fun w2 => ?_))
            exfalso
            obtain ⟨y, hyy, rfl⟩ := nI_of w
            have w3 : ¬ nI 2 < nI y := w2
            rw [nI_ltI (by decide) hyy] at w3
            rcases (show y = 0 ∨ y = 1 ∨ y = 2 by omega) with e | e | e
            · subst e; exact z0 rfl
            · subst e; exact hy (Or.inl rfl)
            · subst e; exact hy (Or.inr rfl)
      · refine R_thr h 1 ?_ ?_
        · unfold f_L_named
          refine p_rc (fun z => absurd z (rC_there h.1.1 hL.1.1 hi)) (fun _ => p_ad ?_)
          refine p_if (fun z => absurd z z0) (fun _ => ?_)
          exact p_rt (fun _ => p_ad (p_some ⟨rfl, hL⟩)) (fun z => absurd (rT_not h.1.2 hL.1.2 h3) z)
        · unfold f_M_named
          rw [if_neg (R_isClass h hM hi), if_neg z0, if_pos (R_noType h hM h3)]
          unfold f_M_named_24 f_M_named_25
          rw [if_pos rfl]
          exact bad 1 (by decide)
  · refine R_thr h 1 ?_ ?_
    · unfold f_L_named
      exact p_rc (fun _ => p_ad (p_some ⟨rfl, hL⟩)) (fun z => absurd (rC_not h.1.1 hL.1.1 h1) z)
    · unfold f_M_named
      rw [if_pos (R_noClass h hM h1)]
      unfold f_M_named_24 f_M_named_25
      rw [if_pos rfl]
      exact bad 1 (by decide)
theorem p_reck (h : RW C g T d) (hM : RM μ C g T d) : k_pc (f_M_reckonBelow (M_set_code μ 0)) (fun v => RM v.2 C g T d ∧ M_code v.2 = 0 ∧ ∀ x p, x < Tn T → p < Tn T → tB (M_below v.2) C T x p) := by
  refine p_mono (r_M_reckonBelow (σ := M_set_code μ 0) h.1 hM.1 hM.2.1 hM.2.2.1) ?_
  rintro ⟨v, κ⟩ ⟨a', h', g', β, e, ht⟩
  replace e : κ = mK (M_set_code μ 0) a' h' g' β (nI (Tn T)) := e
  subst e
  exact ⟨⟨hM.1, hM.2.1, ⟨Tn T, Nat.le_refl _, rfl, fun _ => ht⟩, hM.2.2.2.1, hM.2.2.2.2⟩, rfl, ht⟩
theorem R_isBelow (h : RW C g T d) (hL : RL σ C g T d) (hM : RM μ C g T d) (x1 x2 : Int32) : RQ (fun _ => 1) d (f_L_isBelow σ x1 x2) (f_M_isBelow μ x1 x2) := by
  have hn := RW_not h
  have bad : k_pc (f_M_isBelow_21 μ x1 x2) (fun q => M_code q.2 = 1 ∧ RM q.2 C g T d) := by
    unfold f_M_isBelow_21 f_M_isBelow_22
    refine p_good (fun q => absurd q (by decide)) (fun _ => ?_)
    exact p_if (fun _ => p_some ⟨rfl, hM⟩) (fun q => absurd rfl q)
  by_cases h1 : ∃ j, j < Tn T ∧ x1 = nI j
  · obtain ⟨a, ha, rfl⟩ := h1
    by_cases h2 : ∃ j, j < Tn T ∧ x2 = nI j
    · obtain ⟨b, hb, rfl⟩ := h2
      obtain ⟨w, hw0, hw⟩ : ∃ w : Int32, (w = 0 ∨ w = 1) ∧ (w = 1 ↔ wB C T a b) := by
        by_cases q : wB C T a b
        · exact ⟨1, Or.inr rfl, fun _ => q, fun _ => rfl⟩
        · exact ⟨0, Or.inl rfl, fun z => absurd z (by decide), fun z => absurd z q⟩
      have uniq : ∀ v : Int32, (v = 0 ∨ v = 1) → (v = 1 ↔ wB C T a b) → v = w := by
        intro v v0 v1
        rcases hw0 with e | e
        · rcases v0 with f | f
          · rw [e, f]
          · have := hw.mpr (v1.mp f)
            rw [e] at this; exact absurd this (by decide)
        · rw [e]; exact v1.mpr (hw.mp e)
      refine R_ans h w ?_ ?_
      · unfold f_L_isBelow
        refine p_rt (fun z => absurd z (rT_there h.1.2 hL.1.2 ha)) (fun _ => p_ad ?_)
        refine p_rt (fun z => absurd z (rT_there h.1.2 hL.1.2 hb)) (fun _ => p_ad ?_)
        refine p_bind (r_L_liesBelow h.1 101 σ a b 100 hL.1 hL.2.1 ha hb (h.1.2.2.2.1 b hb).2.1 (Nat.le_refl _)) ?_
        rintro ⟨v, τ⟩ ⟨v0, v1, A, eA, rA'⟩
        replace eA : τ = L_set_answers σ A := eA
        replace v0 : v = 0 ∨ v = 1 := v0
        subst eA
        refine p_some ⟨?_, hL.1, rA', hL.2.2⟩
        show Sum.inl (v &&& 1) = _
        rw [k_one1 v0, uniq v v0 v1]
      · unfold f_M_isBelow
        rw [if_neg (R_isType h hM ha), if_neg (R_isType h hM hb)]
        unfold f_M_isBelow_22
        refine p_good (fun _ => ?_) (fun q => absurd rfl q)
        refine p_if (fun q => absurd q k_10) (fun _ => ?_)
        refine p_bind (p_reck h hM) ?_
        rintro ⟨v, κ⟩ ⟨k1, k2, k3⟩
        refine p_guard (fun _ => p_some ⟨⟨k2, ?_⟩, k1⟩)
        show M_below κ (300 * nI a + nI b).toNatClampNeg &&& 1 = w
        rw [k_300ix, nI_clamp (by omega)]
        obtain ⟨t1, t2⟩ := k3 a b ha hb
        rw [k_one1 t1]
        exact uniq _ t1 t2
    · refine R_thr h 1 ?_ ?_
      · unfold f_L_isBelow
        refine p_rt (fun z => absurd z (rT_there h.1.2 hL.1.2 ha)) (fun _ => p_ad ?_)
        exact p_rt (fun _ => p_ad (p_some ⟨rfl, hL⟩)) (fun z => absurd (rT_not h.1.2 hL.1.2 h2) z)
      · unfold f_M_isBelow
        rw [if_neg (R_isType h hM ha), if_pos (R_noType h hM h2)]
        exact bad
  · refine R_thr h 1 ?_ ?_
    · unfold f_L_isBelow
      exact p_rt (fun _ => p_ad (p_some ⟨rfl, hL⟩)) (fun z => absurd (rT_not h.1.2 hL.1.2 h1) z)
    · unfold f_M_isBelow
      rw [if_pos (R_noType h hM h1)]
      exact bad
theorem RW_dcl (h : RW C g T d) (hn : Wn C < 30) (f1 f2 : Bool) (g' : Nat) (hg : g' ≤ 6) : RW (wDcl C f1 f2) g' T d := by
  have h13 := h.1.1.1
  have ag := wDcl_ag6 C f1 f2
  refine ⟨wOK_dcl h.1 hn f1 f2, hg, h.2.2.1, ?_, fun c hc hc2 => ?_⟩
  · rw [(ag 0 (by omega)).1]; exact h.2.2.2.1
  · replace hc2 : c < Wn C + 1 := hc2
    by_cases e : c = Wn C
    · subst e
      have a4 : Wo (wDcl C f1 f2) (Wn C) = fun _ => 0 := wUp_s
      rw [a4]
      show Wf (wDcl C f1 f2) 0 = false
      rw [(ag 0 (by omega)).1]; exact h.2.2.2.1
    · have hd0 := (h.1.1.2.2.1 c (by omega)).2 (by omega)
      have ho := (h.1.1.2.2.2.1 c 0 (by omega) hd0).1
      rw [(ag c (by omega)).2.2.2.1, (ag (Wo C c 0) (by omega)).1]
      exact h.2.2.2.2 c hc (by omega)
theorem R_declare (h : RW C g T d) (hL : RL σ C g T d) (hM : RM μ C g T d) {x1 x2 : Int32} {f1 f2 : Bool} (e1 : x1 = b2 f1) (e2 : x2 = b2 f2) : RQ (fun _ => 1) d (f_L_declare σ x1 x2) (f_M_declare μ x1 x2) := by
  have hn := RW_not h
  have hg6 := h.2.1
  have en : f_C_count (L_classes σ) = nI (Wn C) := hL.1.1.1
  have eg : f_C_countGeneric (L_classes σ) = nI g := hL.1.1.2.1
  have bad : k_pc (f_M_declare_23 μ x1 x2) (fun q => M_code q.2 = 1 ∧ RM q.2 C g T d) := by
    unfold f_M_declare_23 f_M_declare_28
    refine p_good (fun q => absurd q (by decide)) (fun _ => ?_)
    exact p_if (fun _ => p_some ⟨rfl, hM⟩) (fun q => absurd rfl q)
  have hz : x2 = 0 ↔ f2 = false := by rw [e2]; exact b2_0
  by_cases hc : Wn C = 30 ∨ (f2 = true ∧ 6 ≤ g)
  · refine R_thr h 2 ?_ ?_
    · unfold f_L_declare
      rw [en, eg]
      refine p_if (fun q => ?_) (fun _ => p_some ⟨rfl, hL⟩)
      have q2 : nI (Wn C) < nI 30 := q
      rw [nI_ltI (by omega) (by decide)] at q2
      refine p_if (fun q3 => ?_) (fun q3 => p_if (fun q4 => ?_) (fun _ => p_some ⟨rfl, hL⟩))
      · rw [hz] at q3
        rcases hc with w | ⟨w, _⟩
        · omega
        · rw [q3] at w; cases w
      · have q5 : nI g < nI 6 := q4
        rw [nI_ltI (by omega) (by decide)] at q5
        rcases hc with w | ⟨_, w⟩ <;> omega
    · unfold f_M_declare
      rw [hM.1.1, hM.1.2.1]
      refine p_if (fun _ => bad) (fun q => ?_)
      have q2 : ¬ nI (Wn C) = nI 30 := q
      rw [nI_eq (by omega) (by decide)] at q2
      refine p_if (fun q3 => ?_) (fun q3 => p_if (fun _ => bad) (fun q4 => ?_))
      · rw [hz] at q3
        rcases hc with w | ⟨w, _⟩
        · omega
        · rw [q3] at w; cases w
      · have q5 : ¬ nI g = nI 6 := q4
        rw [nI_eq (by omega) (by decide)] at q5
        rcases hc with w | ⟨_, w⟩ <;> omega
  · have hlt : Wn C < 30 := by
      have : ¬ Wn C = 30 := fun q => hc (Or.inl q)
      omega
    have hg' : (if f2 = true then g + 1 else g) ≤ 6 := by
      by_cases w : f2 = true
      · rw [if_pos w]
        have : ¬ 6 ≤ g := fun q => hc (Or.inr ⟨w, q⟩)
        omega
      · rw [if_neg w]; exact hg6
    refine ⟨.inl (nI (Wn C)), wDcl C f1 f2, if f2 = true then g + 1 else g, T, RW_dcl h hlt f1 f2 _ hg', ?_, ?_⟩
    · have k48 : k_pc (f_L_declare_48 σ x1 x2) (fun q => q.1 = .inl (nI (Wn C)) ∧ RL q.2.1 (wDcl C f1 f2) (if f2 = true then g + 1 else g) T d) := by
        unfold f_L_declare_48
        refine p_bind (r_C_add h.1.1 hL.1.1 hlt e1 e2) ?_
        rintro ⟨v, τ⟩ ⟨v1, v2⟩
        replace v1 : v = nI (Wn C) := v1
        subst v1
        exact p_some ⟨rfl, ⟨v2, hL.1.2⟩, rA_dcl h.1 f1 f2 hL.2.1, hL.2.2⟩
      unfold f_L_declare
      rw [en, eg]
      refine p_if (fun _ => p_if (fun _ => k48) (fun q3 => p_if (fun _ => k48) (fun q4 => ?_))) (fun q => absurd (nI_lt hlt (by decide)) q)
      have q5 : ¬ nI g < nI 6 := q4
      rw [nI_ltI (by omega) (by decide)] at q5
      have : f2 = true := by
        cases w : f2 with
        | true => rfl
        | false => exact absurd (hz.mpr w) q3
      exact absurd (Or.inr ⟨this, by omega⟩) hc
    · have good : k_pc (f_M_declare_27 μ x1 x2) (fun q => RO (fun _ => 1) (.inl (nI (Wn C))) q ∧ RM q.2 (wDcl C f1 f2) (if f2 = true then g + 1 else g) T d) := by
        unfold f_M_declare_27 f_M_declare_28
        refine p_good (fun _ => ?_) (fun q => absurd rfl q)
        refine p_if (fun q => absurd q k_10) (fun _ => p_guard (fun _ => p_guard (fun _ => ?_)))
        have cn : (M_classes μ).toNatClampNeg = Wn C := by rw [hM.1.1]; exact nI_clamp (by omega)
        have fin : ∀ (w : Int32) (g' : Nat), M_generics μ + w = nI g' → k_pc (f_M_declare_70 (M_put_generic (M_put_face (M_set_code μ 0) (M_classes μ) (vp_nar .boolean x1)) (M_classes μ) (vp_nar .boolean x2)) (M_generics μ) w) (fun q => RO (fun _ => 1) (.inl (nI (Wn C))) q ∧ RM q.2 (wDcl C f1 f2) g' T d) := by
          intro w g' e0
          rw [vp_b e1, vp_b e2]
          refine p_mono (r_M_declare_70 (σ := μ) (f1 := f1) (f2 := f2) h.1 hM.1 hlt e0 hM.1.1 (by show upd (M_generic μ) (M_classes μ).toNatClampNeg (b2 f2) = _; rw [cn]) (by show upd (M_face μ) (M_classes μ).toNatClampNeg (b2 f1) = _; rw [cn]) rfl rfl rfl rfl) ?_
          rintro q ⟨q1, q2, q3, q4⟩
          obtain ⟨y1, y2, y3, y4, y5, y6⟩ := q3
          refine ⟨⟨y5, q1⟩, q2, rMt_ag (σ := μ) h.1.2 hM.2.1 (fun i _ => y2 i) (y1.trans hM.2.1.1), rR_dcl h.1 f1 f2 hM.2.2.1 q4 y6, y3.trans hM.2.2.2.1, y4.trans hM.2.2.2.2⟩
        refine p_if (fun q => ?_) (fun q => ?_)
        · rw [hz] at q
          rw [if_neg (by rw [q]; decide)]
          refine fin 0 g ?_
          rw [hM.1.2.1]; exact nI_add g 0
        · have w : f2 = true := by
            cases w : f2 with
            | true => rfl
            | false => exact absurd (hz.mpr w) q
          rw [if_pos w]
          refine fin 1 (g + 1) ?_
          rw [hM.1.2.1]; exact nI_1 g
      unfold f_M_declare
      rw [hM.1.1, hM.1.2.1]
      refine p_if (fun q => ?_) (fun _ => p_if (fun _ => good) (fun q3 => p_if (fun q4 => ?_) (fun _ => good)))
      · have q2 : nI (Wn C) = nI 30 := q
        rw [nI_eq (by omega) (by decide)] at q2
        omega
      · have q5 : nI g = nI 6 := q4
        rw [nI_eq (by omega) (by decide)] at q5
        have : f2 = true := by
          cases w : f2 with
          | true => rfl
          | false => exact absurd (hz.mpr w) q3
        exact absurd (Or.inr ⟨this, by omega⟩) hc
end
-- part 08.91.low.lean.txt
/-! Tier 3: side by side: lower. -/
def fLow2 (r7 : Int32 × StL) : Option ((Int32 ⊕ Nat) × StL × Nat × Nat) :=
  if r7.1 = 0 then some (.inl (-1), r7.2, 0, 0) else
  (f_T_makeIntersection (90, (L_row r7.2)) (L_types r7.2) 0 r7.1).bind fun r8 => ad_ r8.2.2.1 r8.2.2.2 <| match r8.1 with
  | .inr e => some (.inr e, (L_set_types r7.2 r8.2.1), 0, 0)
  | .inl r8v =>
  (f_L_settled (L_set_types r7.2 r8.2.1) r8v).bind fun r9 => ad_ r9.2.2.1 r9.2.2.2 <| match r9.1 with
  | .inr e => some (.inr e, r9.2.1, 0, 0)
  | .inl r9v =>
  some (.inl r9v, r9.2.1, 0, 0)
def fLow1 (τ : StL) (x1 x2 : Int32) : Option ((Int32 ⊕ Nat) × StL × Nat × Nat) :=
  (f_L_gatherParts τ x1 x2).bind fun r5 =>
  (f_L_dropNeedless r5.2 r5.1).bind fun r6 =>
  (f_L_orderByClass r6.2 r6.1).bind fun r7 => fLow2 r7
section
variable {σ : StL} {μ : StM} {C : wWc} {T : wWt} {g d : Nat}
theorem p_addBoth2 {σ : StM} (h : wOK C T) (r : rMc σ C g) (q : rMt σ T) (hf : M_full σ = 0) {m : List Nat} (hm : ∀ p, p ∈ m → 8 ≤ p ∧ p < Tn T ∧ dK (Ty T p) = 1) (hN : m.length ≤ 30) (hr : ∀ k (hk : k < m.length), M_row σ k = nI m[k]) (hd : ∀ j k (hj : j < m.length) (hk : k < m.length), dX (Ty T m[j]) = dX (Ty T m[k]) → j = k) :
    k_pc (f_M_addBoth σ (nI m.length)) (fun r => ∃ l, wSo T l m ∧ l.length = m.length ∧ pAd σ (Tn T) (wAdd T (3, 0, 0, l) (1 + wSum T l)) r) := by
  have hrow : kRow σ (Tn T) (M_row σ) m.length := by
    intro j hj
    obtain ⟨p1, p2, p3⟩ := hm m[j] (List.getElem_mem hj)
    refine ⟨m[j], p1, p2, hr j hj, ?_⟩
    rw [(q.2 _ p2).1, p3]; rfl
  refine p_mono (p_ok (p_and (s_M_addBoth (kM_of h r q) hN hrow) (r_M_addBoth h q hf (m := m) (fun p hp => ⟨(hm p hp).2.1, (hm p hp).2.2⟩) hN hr hd))) ?_
  rintro z ⟨⟨z1, z2, _⟩, l', w1, w2, w3⟩
  exact ⟨l', w1, w2, z1, z2, w3⟩
theorem wAl_len {m : List Nat} (h : wOK C T) (hm : ∀ p, p ∈ m → 8 ≤ p ∧ p < Tn T ∧ dK (Ty T p) = 1) (ha : wAl C T m) : m.length ≤ 30 ∧ ∀ j k (hj : j < m.length) (hk : k < m.length), dX (Ty T m[j]) = dX (Ty T m[k]) → j = k := by
  have hn := h.1.2.1
  have pw := List.pairwise_iff_getElem.mp ha.1
  have inj : ∀ j k (hj : j < m.length) (hk : k < m.length), dX (Ty T m[j]) = dX (Ty T m[k]) → j = k := by
    intro j k hj hk e
    rcases Nat.lt_trichotomy j k with w | w | w
    · exact absurd e (pw j k hj hk w)
    · exact w
    · exact absurd e.symm (pw k j hk hj w)
  refine ⟨?_, inj⟩
  refine k_pigeon 30 m.length (fun k => dX (Ty T (m.getD k 0))) (fun k hk => ?_) (fun k l kl hl e => ?_)
  · obtain ⟨_, p2, p3⟩ := hm _ (getD_mem hk)
    have := (wT_named h.2 p2 p3).2.1
    show dX (Ty T (m.getD k 0)) < 30
    omega
  · have e' : dX (Ty T m[k]) = dX (Ty T m[l]) := by rw [← getD_is (show k < m.length by omega), ← getD_is hl]; exact e
    have := inj k l (by omega) hl e'
    omega
theorem wSo_lok {l m : List Nat} (hm : ∀ p, p ∈ m → 8 ≤ p ∧ p < Tn T ∧ dK (Ty T p) = 1) (h : wOK C T) (hl : l.length ≤ 30) (hs : wSo T l m) : wLok T 30 l := by
  have hn := h.1.2.1
  refine ⟨hl, fun p hp => ?_, fun j k hj hk jk => List.pairwise_iff_getElem.mp hs.1 j k hj hk jk⟩
  obtain ⟨p1, p2, p3⟩ := hm p ((hs.2 p).mp hp)
  have := (wT_named h.2 p2 p3).2.1
  exact ⟨p1, p2, p3, by omega⟩
theorem p_int {ρ : StL} (h : RW C g T d) (hρ : RL ρ C g T d) {L : List Nat} (hlok : wLok T 30 L) (h2 : 2 ≤ L.length) (hrow : vFn (L_row ρ) L) (hx : wOx C T (wInt T L)) : k_pc (fLow2 (nI L.length, ρ)) (fun q => q.1 = oL (wInt T L) ∧ RL q.2.1 C g (oT T (wInt T L)) d) := by
  have c30 := hlok.1
  have key := r_T_makeIntersection (σ := L_types ρ) (T0 := T) (pa := (90, L_row ρ)) (s := 0) (l := L) h.1 hρ.1.2 ⟨rfl, by omega, fun k hk => by show L_row ρ (0 + k) = _; rw [Nat.zero_add, hrow k hk, getD_is hk]⟩ (fun p hp => (hlok.2.1 p hp).2.1) c30 (by omega)
  revert key hx
  generalize wInt T L = o
  intro hx key
  unfold fLow2
  refine p_if (fun z => ?_) (fun _ => ?_)
  · have z2 : nI L.length = nI 0 := z
    rw [nI_eq (by omega) (by decide)] at z2
    omega
  · refine p_bind key ?_
    rintro ⟨w, τ8, K, N⟩ ⟨v, e, hv⟩
    replace e : w = .inl v := e
    have hv' : rNw (L_types ρ) T o (v, τ8) := hv
    subst e
    refine p_ad ?_
    exact p_settled (τ := L_set_types ρ τ8) h.1 hρ.1.1 hρ.2.1 hρ.2.2 (rUv_nw hρ.1.2 hv') hx
theorem p_intM {κ : StM} (h : RW C g T d) (k1 : RM κ C g T d) (k2 : M_code κ = 0) {m L : List Nat} (mok : ∀ p, p ∈ m → 8 ≤ p ∧ p < Tn T ∧ dK (Ty T p) = 1) (m30 : m.length ≤ 30) (minj : ∀ j k (hj : j < m.length) (hk : k < m.length), dX (Ty T m[j]) = dX (Ty T m[k]) → j = k) (hrow : vFn (M_row κ) m) (hso : wSo T L m) (h2 : 2 ≤ L.length) (hx : wOx C T (wInt T L)) : k_pc ((f_M_addBoth κ (nI m.length)).bind fun r3 => (f_M_end r3.2 (M_types κ) r3.1 2).bind fun r4 => some (r4.1, r4.2)) (fun z => RO (fun e => if e = 1 then 1 else 2) (oL (wInt T L)) z ∧ RM z.2 C g (oT T (wInt T L)) d) := by
  have key := p_addBoth2 (σ := κ) h.1 k1.1 k1.2.1 k1.2.2.2.1 mok m30 (fun k hk => by rw [hrow k hk, getD_is hk]) minj
  have et : M_types κ = nI (Tn T) := k1.2.1.1
  rw [et]
  refine p_bind key ?_
  rintro ⟨w, ν⟩ ⟨l', s1, s2, ⟨bb, eb⟩, ag, hw⟩
  replace eb : ν = mB κ bb := eb
  have el : l' = L := wSo_uniq s1 hso
  subst el
  rw [← wInt_many h2] at hw
  revert hw hx
  generalize wInt T l' = o
  intro hw hx
  exact p_bind (p_endM h.1 k1 (by rw [eb]; exact pKe_mB _ bb) ag hx (pEd_mw hw) k2 rfl) (fun r hr => p_some hr)
theorem R_lower (h : RW C g T d) (hL : RL σ C g T d) (hM : RM μ C g T d) (x1 x2 : Int32) : RQ (fun e => if e = 1 then 1 else 2) d (f_L_lower σ x1 x2) (f_M_lower μ x1 x2) := by
  have hn := RW_not h
  have bad : k_pc (f_M_lower_21 μ x1 x2) (fun q => M_code q.2 = 1 ∧ RM q.2 C g T d) := by
    unfold f_M_lower_21 f_M_lower_22
    refine p_good (fun q => absurd q (by decide)) (fun _ => ?_)
    exact p_if (fun _ => p_some ⟨rfl, hM⟩) (fun q => absurd rfl q)
  by_cases h1 : ∃ j, j < Tn T ∧ x1 = nI j
  · obtain ⟨a, ha, rfl⟩ := h1
    by_cases h2 : ∃ j, j < Tn T ∧ x2 = nI j
    · obtain ⟨b, hb, rfl⟩ := h2
      have cab : (300 * nI a + nI b).toNatClampNeg = 300 * a + b := by rw [k_300ix]; exact nI_clamp (by omega)
      have cba : (300 * nI b + nI a).toNatClampNeg = 300 * b + a := by rw [k_300ix]; exact nI_clamp (by omega)
      have ca : (nI a).toNatClampNeg = a := nI_clamp (by omega)
      have cb : (nI b).toNatClampNeg = b := nI_clamp (by omega)
      have pla := wPs_len h.1.2 ha
      have plb := wPs_len h.1.2 hb
      have pca := wPc_le h.1.2 ha
      have pcb := wPc_le h.1.2 hb
      -- the class: the two tests
      have ltest : ∀ {Q : (Int32 ⊕ Nat) × StL × Nat × Nat → Prop}, (wB C T a b → ∀ τ, RL τ C g T d → Q (.inl (nI a), τ, 0 + 0 + 0, 0 + 0 + 0)) → (¬ wB C T a b → wB C T b a → ∀ τ, RL τ C g T d → Q (.inl (nI b), τ, 0 + 0 + 0, 0 + 0 + 0)) →
          (¬ wB C T a b → ¬ wB C T b a → ∀ τ, RL τ C g T d → k_pc (fLow1 τ (nI a) (nI b)) (fun r => Q (r.1, r.2.1, r.2.2.1 + 0 + 0, r.2.2.2 + 0 + 0))) → k_pc (f_L_lower σ (nI a) (nI b)) Q := by
        intro Q q1 q2 q3
        unfold f_L_lower
        refine p_rt (fun z => absurd z (rT_there h.1.2 hL.1.2 ha)) (fun _ => p_ad ?_)
        refine p_rt (fun z => absurd z (rT_there h.1.2 hL.1.2 hb)) (fun _ => p_ad ?_)
        refine p_bind (r_L_liesBelow h.1 101 σ a b 100 hL.1 hL.2.1 ha hb (h.1.2.2.2.1 b hb).2.1 (Nat.le_refl _)) ?_
        rintro ⟨v, τ⟩ ⟨v0, v1, A, eA, rA'⟩
        replace eA : τ = L_set_answers σ A := eA
        subst eA
        have hL2 : RL (L_set_answers σ A) C g T d := ⟨hL.1, rA', hL.2.2⟩
        refine p_if (fun z => ?_) (fun z => p_some ?_)
        · have nb : ¬ wB C T a b := fun w => by
            have w2 := v1.mpr w
            replace z : v = 0 := z
            replace w2 : v = 1 := w2
            rw [z] at w2; exact absurd w2 (by decide)
          refine p_bind (r_L_liesBelow h.1 101 (L_set_answers σ A) b a 100 hL2.1 hL2.2.1 hb ha (h.1.2.2.2.1 a ha).2.1 (Nat.le_refl _)) ?_
          rintro ⟨v', τ'⟩ ⟨v0', v1', A', eA', rA''⟩
          replace eA' : τ' = L_set_answers (L_set_answers σ A) A' := eA'
          subst eA'
          have hL3 : RL (L_set_answers (L_set_answers σ A) A') C g T d := ⟨hL.1, rA'', hL.2.2⟩
          refine p_if (fun z' => ?_) (fun z' => p_some ?_)
          · have nb' : ¬ wB C T b a := fun w => by
              have w2 := v1'.mpr w
              replace z' : v' = 0 := z'
              replace w2 : v' = 1 := w2
              rw [z'] at w2; exact absurd w2 (by decide)
            exact q3 nb nb' _ hL3
          · have yb : wB C T b a := v1'.mp (by
              rcases v0' with e | e
              · exact absurd e z'
              · exact e)
            exact q2 nb yb _ hL3
        · have yb : wB C T a b := v1.mp (by
            rcases v0 with e | e
            · exact absurd e z
            · exact e)
          exact q1 yb _ hL2
      -- the reference: the same
      have rtest : ∀ {Q : Int32 × StM → Prop}, (wB C T a b → ∀ κ, RM κ C g T d → M_code κ = 0 → Q (nI a, κ)) → (¬ wB C T a b → wB C T b a → ∀ κ, RM κ C g T d → M_code κ = 0 → Q (nI b, κ)) →
          (¬ wB C T a b → ¬ wB C T b a → ∀ κ, RM κ C g T d → M_code κ = 0 → (∀ x p, x < Tn T → p < Tn T → tB (M_below κ) C T x p) → k_pc (if M_partCount κ a = 0 then some ((-1 : Int32), κ) else if nI b < 0 ∨ 300 ≤ b then none else if M_partCount κ b = 0 then some ((-1 : Int32), κ) else f_M_lower_125 1000 κ (nI a) (nI b) (M_partCount κ a + M_partCount κ b) 0 0) Q) → k_pc (f_M_lower μ (nI a) (nI b)) Q := by
        intro Q q1 q2 q3
        unfold f_M_lower
        rw [if_neg (R_isType h hM ha), if_neg (R_isType h hM hb)]
        unfold f_M_lower_22
        refine p_good (fun _ => ?_) (fun q => absurd rfl q)
        refine p_if (fun q => absurd q k_10) (fun _ => ?_)
        refine p_bind (p_reck h hM) ?_
        rintro ⟨v, κ⟩ ⟨k1, k2, k3⟩
        replace k1 : RM κ C g T d := k1
        replace k2 : M_code κ = 0 := k2
        replace k3 : ∀ x p, x < Tn T → p < Tn T → tB (M_below κ) C T x p := k3
        have l64 : (wB C T a b ∨ wB C T b a) → k_pc (f_M_lower_64 κ (nI a) (nI b)) Q := by
          intro hw
          unfold f_M_lower_64
          refine p_guard (fun _ => ?_)
          rw [cab]
          refine p_if (fun z => p_some ?_) (fun z => p_some (q1 (tB_ye (k3 a b ha hb) z) κ k1 k2))
          have nb := tB_no (k3 a b ha hb) z
          exact q2 nb (hw.resolve_left nb) κ k1 k2
        refine p_guard (fun _ => ?_)
        show k_pc (if M_below κ (300 * nI a + nI b).toNatClampNeg = 0 then _ else _) _
        rw [cab]
        refine p_if (fun z => ?_) (fun z => l64 (Or.inl (tB_ye (k3 a b ha hb) z)))
        refine p_guard (fun _ => ?_)
        rw [cba]
        refine p_if (fun z' => ?_) (fun z' => l64 (Or.inr (tB_ye (k3 b a hb ha) z')))
        refine p_guard (fun _ => p_guard (fun _ => p_guard (fun _ => ?_)))
        rw [ca, cb]
        exact q3 (tB_no (k3 a b ha hb) z) (tB_no (k3 b a hb ha) z') κ k1 k2 k3
      by_cases w1 : wB C T a b
      · refine R_ans h (nI a) (ltest (fun _ τ hτ => ⟨rfl, hτ⟩) (fun q => absurd w1 q) (fun q => absurd w1 q)) (rtest (fun _ κ k1 k2 => ⟨⟨k2, rfl⟩, k1⟩) (fun q => absurd w1 q) (fun q => absurd w1 q))
      by_cases w2 : wB C T b a
      · refine R_ans h (nI b) (ltest (fun q => absurd q w1) (fun _ _ τ hτ => ⟨rfl, hτ⟩) (fun _ q => absurd w2 q)) (rtest (fun q => absurd q w1) (fun _ _ κ k1 k2 => ⟨⟨k2, rfl⟩, k1⟩) (fun _ q => absurd w2 q))
      by_cases w3 : wPs T a = [] ∨ wPs T b = []
      · -- one of them has no PARTS
        refine R_ans h (-1) (ltest (fun q => absurd q w1) (fun _ q => absurd q w2) (fun _ _ τ hτ => ?_)) (rtest (fun q => absurd q w1) (fun _ q => absurd q w2) (fun _ _ κ k1 k2 k3 => ?_))
        · unfold fLow1
          refine p_bind (r_L_gatherParts h.1 hτ.1 ha hb) ?_
          rintro ⟨v, ρ⟩ hq
          have e : (v, ρ) = ((0 : Int32), τ) := by
            rcases hq with ⟨_, e⟩ | ⟨q1, q2, _⟩
            · exact e
            · rcases w3 with w | w
              · exact absurd w q1
              · exact absurd w q2
          cases e
          refine p_bind (r_L_dropNeedless (l := []) h.1 hτ.1 hτ.2.1 (fun k hk => absurd hk (by simp)) (by simp) (fun k hk => absurd hk (by simp))) ?_
          rintro ⟨v6, ρ6⟩ ⟨a1, a2, a3, a4⟩
          replace a1 : v6 = nI (wKl C T [] 0).length := a1
          replace a2 : rLq τ ρ6 := a2
          have e0 : wKl C T [] 0 = [] := rfl
          rw [e0] at a1
          subst a1
          refine p_bind (r_L_orderByClass (m := []) h.1 (rLq_L a2 hτ.1) (fun p hp => absurd hp (by simp)) (by simp) (fun k hk => absurd hk (by simp))) ?_
          rintro ⟨v7, ρ7⟩ ⟨b1, b2', b3⟩
          replace b1 : rLq ρ6 ρ7 := b1
          replace b2' : L_answers ρ7 = L_answers ρ6 := b2'
          have hL7 : RL ρ7 C g T d := by
            refine ⟨rLq_L (rLq_trans a2 b1) hτ.1, ?_, ?_⟩
            · rw [b2']; exact a4
            · rw [b1.1, a2.1]; exact hτ.2.2
          have c0 : (wCr T [] 30).length = 0 := by
            have : ∀ c, wCr T [] c = [] := by
              intro c
              induction c with
              | zero => rfl
              | succ c ih =>
                apply List.eq_nil_iff_forall_not_mem.mpr
                intro p hp
                obtain ⟨k, _, hk⟩ := (wCr_mem (c + 1) p).mp hp
                exact absurd (wFi_some hk).1 (by simp)
            rw [this]; rfl
          have v70 : v7 = 0 := by
            rcases b3 with ⟨_, e⟩ | ⟨_, e, _⟩
            · exact e
            · replace e : v7 = nI (wCr T [] 30).length := e
              rw [e, c0]; rfl
          unfold fLow2
          exact p_if (fun _ => p_some ⟨rfl, hL7⟩) (fun z => absurd v70 z)
        · have pa0 : M_partCount κ a = nI (wPs T a).length := by rw [pla]; exact (k1.2.1.2 a ha).2.2.2.2.2.1
          have pb0 : M_partCount κ b = nI (wPs T b).length := by rw [plb]; exact (k1.2.1.2 b hb).2.2.2.2.2.1
          refine p_if (fun _ => p_some ⟨⟨k2, rfl⟩, k1⟩) (fun z => p_guard (fun _ => p_if (fun _ => p_some ⟨⟨k2, rfl⟩, k1⟩) (fun z' => ?_)))
          rcases w3 with w | w
          · rw [pa0, w] at z; exact absurd rfl z
          · rw [pb0, w] at z'; exact absurd rfl z'
      · have na : wPs T a ≠ [] := fun q => w3 (Or.inl q)
        have nb : wPs T b ≠ [] := fun q => w3 (Or.inr q)
        obtain ⟨l, hl⟩ : ∃ l, l = wPs T a ++ wPs T b := ⟨_, rfl⟩
        have llen : l.length ≤ 60 := by rw [hl, List.length_append]; omega
        obtain ⟨m, hm⟩ : ∃ m, m = wKl C T l l.length := ⟨_, rfl⟩
        have mlen : m.length ≤ 60 := by rw [hm]; exact Nat.le_trans (wKl_len _) llen
        have m2 : 2 ≤ m.length := by rw [hm, hl]; exact wLow_two h.1 ha hb na nb w1 w2
        have mok : ∀ p, p ∈ m → 8 ≤ p ∧ p < Tn T ∧ dK (Ty T p) = 1 := by
          rw [hm, hl]; exact wKl_ok h.1.2 ha hb _ (Nat.le_refl _)
        have lok : ∀ k, k < l.length → l.getD k 0 < Tn T := by
          intro k hk
          have := getD_mem hk
          rw [hl] at this
          rw [hl]
          rcases List.mem_append.mp this with w | w
          · exact (wPs_ok h.1.2 ha w).2.1
          · exact (wPs_ok h.1.2 hb w).2.1
        -- the class comes to the row in the order of the classes
        have lrow : ∀ {Q : (Int32 ⊕ Nat) × StL × Nat × Nat → Prop} (τ : StL), RL τ C g T d → (¬ wAl C T m → ∀ ρ, RL ρ C g T d → Q (.inl (-1), ρ, 0, 0)) → (wAl C T m → ∀ ρ, RL ρ C g T d → vFn (L_row ρ) (wCr T m 30) → k_pc (fLow2 (nI (wCr T m 30).length, ρ)) Q) → k_pc (fLow1 τ (nI a) (nI b)) Q := by
          intro Q τ hτ q1 q2
          unfold fLow1
          refine p_bind (r_L_gatherParts h.1 hτ.1 ha hb) ?_
          rintro ⟨v, ρ⟩ hq
          have e : v = nI l.length ∧ ∃ G', ρ = L_set_gathered τ G' ∧ vFn G' l := by
            rcases hq with ⟨q, _⟩ | ⟨_, _, e1, e2⟩
            · exact absurd q w3
            · rw [hl]; exact ⟨e1, e2⟩
          obtain ⟨ev, G', eρ, hG⟩ := e
          subst ev
          subst eρ
          refine p_bind (r_L_dropNeedless (σ := L_set_gathered τ G') (l := l) h.1 hτ.1 hτ.2.1 lok llen hG) ?_
          rintro ⟨v6, ρ6⟩ ⟨a1, a2, a3, a4⟩
          replace a1 : v6 = nI (wKl C T l l.length).length := a1
          replace a2 : rLq (L_set_gathered τ G') ρ6 := a2
          replace a3 : vFn (L_gathered ρ6) (wKl C T l l.length) := a3
          replace a4 : rA (L_answers ρ6) C T := a4
          rw [← hm] at a1 a3
          subst a1
          have a2' : rLq τ ρ6 := a2
          refine p_bind (r_L_orderByClass (m := m) h.1 (rLq_L a2' hτ.1) (fun p hp => (mok p hp).2) mlen a3) ?_
          rintro ⟨v7, ρ7⟩ ⟨b1, b2', b3⟩
          replace b1 : rLq ρ6 ρ7 := b1
          replace b2' : L_answers ρ7 = L_answers ρ6 := b2'
          have hL7 : RL ρ7 C g T d := by
            refine ⟨rLq_L (rLq_trans a2' b1) hτ.1, ?_, ?_⟩
            · rw [b2']; exact a4
            · rw [b1.1, a2'.1]; exact hτ.2.2
          rcases b3 with ⟨n1, e⟩ | ⟨n1, e, e2⟩
          · unfold fLow2
            exact p_if (fun _ => p_some (q1 n1 ρ7 hL7)) (fun z => absurd e z)
          · replace e : v7 = nI (wCr T m 30).length := e
            subst e
            exact q2 n1 ρ7 hL7 e2
        -- the reference comes to its row
        have rrow : ∀ {Q : Int32 × StM → Prop} (κ : StM), RM κ C g T d → (∀ x p, x < Tn T → p < Tn T → tB (M_below κ) C T x p) → (¬ wAl C T m → ∀ ρ, Q (-1, M_set_row κ ρ)) → (wAl C T m → ∀ ρ, vFn ρ m → k_pc ((f_M_addBoth (M_set_row κ ρ) (nI m.length)).bind fun r3 => (f_M_end r3.2 (M_types (M_set_row κ ρ)) r3.1 2).bind fun r4 => some (r4.1, r4.2)) Q) → k_pc (if M_partCount κ a = 0 then some ((-1 : Int32), κ) else if nI b < 0 ∨ 300 ≤ b then none else if M_partCount κ b = 0 then some ((-1 : Int32), κ) else f_M_lower_125 1000 κ (nI a) (nI b) (M_partCount κ a + M_partCount κ b) 0 0) Q := by
          intro Q κ k1 k3 q1 q2
          have pa0 : M_partCount κ a = nI (wPs T a).length := by rw [pla]; exact (k1.2.1.2 a ha).2.2.2.2.2.1
          have pb0 : M_partCount κ b = nI (wPs T b).length := by rw [plb]; exact (k1.2.1.2 b hb).2.2.2.2.2.1
          have za : (wPs T a).length ≠ 0 := fun q => na (List.eq_nil_of_length_eq_zero q)
          have zb : (wPs T b).length ≠ 0 := fun q => nb (List.eq_nil_of_length_eq_zero q)
          rw [pa0, pb0]
          refine p_if (fun z => ?_) (fun _ => p_guard (fun _ => p_if (fun z => ?_) (fun _ => ?_)))
          · have z2 : nI (wPs T a).length = nI 0 := z
            rw [nI_eq (by omega) (by decide)] at z2
            exact absurd z2 za
          · have z2 : nI (wPs T b).length = nI 0 := z
            rw [nI_eq (by omega) (by decide)] at z2
            exact absurd z2 zb
          · rw [nI_add, ← List.length_append, ← hl]
            refine r_M_l125 (σ := κ) h.1 k1.2.1 k3 ha hb hl ?_ 1000 0 (M_row κ) (by omega) (fun k hk => absurd hk (Nat.not_lt_zero k))
            intro ρ hρ
            rw [← hm] at hρ ⊢
            exact r_M_l252 (σ := M_set_row κ ρ) h.1 k1.1 k1.2.1 (fun p hp => (mok p hp).2) mlen hρ (fun q => q1 q ρ) (fun q => q2 q ρ hρ) 1000 0 (by omega) (fun k j _ hk => by omega)
        by_cases hal : wAl C T m
        · obtain ⟨m30, minj⟩ := wAl_len h.1 mok hal
          have hso : wSo T (wCr T m 30) m := wCr_so hal.1 (fun p hp => by
            obtain ⟨_, p2, p3⟩ := mok p hp
            have := (wT_named h.1.2 p2 p3).2.1
            omega)
          have hlok : wLok T 30 (wCr T m 30) := wSo_lok mok h.1 (wCr_len 30) hso
          -- the reference's row in order has the same number of PARTS
          have hlen2 : 2 ≤ (wCr T m 30).length := by
            have g0 := getD_mem (show 0 < m.length by omega)
            have g1 := getD_mem (show 1 < m.length by omega)
            have i0 := (hso.2 _).mpr g0
            have i1 := (hso.2 _).mpr g1
            have ne : m.getD 0 0 ≠ m.getD 1 0 := by
              rw [getD_is (show 0 < m.length by omega), getD_is (show 1 < m.length by omega)]
              intro q
              have := minj 0 1 (by omega) (by omega) (by rw [q])
              omega
            match hh : wCr T m 30 with
            | [] => rw [hh] at i0; exact absurd i0 (by simp)
            | [p] =>
              rw [hh] at i0 i1
              rw [List.mem_singleton] at i0 i1
              exact absurd (i0.trans i1.symm) ne
            | _ :: _ :: _ => simp
          have hx : wOx C T (wInt T (wCr T m 30)) := by
            intro q e
            obtain ⟨y1, y2, y3, _⟩ := wInt_ok h.1 hlok (fun q => by rw [q] at hlen2; exact absurd hlen2 (by decide)) e
            exact ⟨y1, y2, y3⟩
          refine ⟨oL (wInt T (wCr T m 30)), C, g, oT T (wInt T (wCr T m 30)), RW_ex h hx, ltest (fun q => absurd q w1) (fun _ q => absurd q w2) (fun _ _ τ hτ => ?_), rtest (fun q => absurd q w1) (fun _ q => absurd q w2) (fun _ _ κ k1 k2 k3 => ?_)⟩
          · exact lrow τ hτ (fun q => absurd hal q) (fun _ ρ hρ hrow => p_int h hρ hlok hlen2 hrow hx)
          · exact rrow κ k1 k3 (fun q => absurd hal q) (fun _ ρ hρ => p_intM (κ := M_set_row κ ρ) h k1 k2 mok m30 minj hρ hso hlen2 hx)
        · refine R_ans h (-1) (ltest (fun q => absurd q w1) (fun _ q => absurd q w2) (fun _ _ τ hτ => ?_)) (rtest (fun q => absurd q w1) (fun _ q => absurd q w2) (fun _ _ κ k1 k2 k3 => ?_))
          · exact lrow τ hτ (fun _ ρ hρ => ⟨rfl, hρ⟩) (fun q => absurd q hal)
          · have k1' : ∀ ρ, RM (M_set_row κ ρ) C g T d := fun _ => k1
            exact rrow κ k1 k3 (fun _ ρ => ⟨⟨k2, rfl⟩, k1' ρ⟩) (fun q => absurd q hal)
    · refine R_thr h 1 ?_ ?_
      · unfold f_L_lower
        refine p_rt (fun z => absurd z (rT_there h.1.2 hL.1.2 ha)) (fun _ => p_ad ?_)
        exact p_rt (fun _ => p_ad (p_some ⟨rfl, hL⟩)) (fun z => absurd (rT_not h.1.2 hL.1.2 h2) z)
      · unfold f_M_lower
        rw [if_neg (R_isType h hM ha), if_pos (R_noType h hM h2)]
        exact bad
  · refine R_thr h 1 ?_ ?_
    · unfold f_L_lower
      exact p_rt (fun _ => p_ad (p_some ⟨rfl, hL⟩)) (fun z => absurd (rT_not h.1.2 hL.1.2 h1) z)
    · unfold f_M_lower
      rw [if_pos (R_noType h hM h1)]
      exact bad
end
-- part 08.92.above.lean.txt
/-! Tier 3: side by side: above. -/
theorem r_A_forget {σ : StA} {C : wWc} {T : wWt} (r : rA σ C T) (C' : wWc) (T' : wWt) : k_pc (f_A_forget σ) (fun q => rA q.2 C' T') := by
  have all : ∀ {τ : StA}, (∀ p k, p < 90000 → k < 2 → aB τ p k = false) → rA τ C' T' := by
    intro τ h
    refine ⟨fun a b ha hb => ⟨fun q => ?_, fun q => ?_⟩, Or.inr h⟩
    · rw [h (300 * a + b) 0 (by omega) (by omega)] at q; cases q
    · rw [h (300 * a + b) 1 (by omega) (by omega)] at q; cases q
  unfold f_A_forget
  refine p_if (fun _ => p_some (all (fun p k hp _ => ?_))) (fun z => p_some (all (r.2.resolve_left z)))
  show bt (J_fill (A_cells σ) 5625 0 (p / 16)) _ = false
  unfold J_fill
  rw [if_pos (by omega)]
  exact b_0 _
def wTel (C : wWc) (t c to : Nat) (x2 : Int32) : Prop := ∃ A, x2 = wTd A ∧ wArOk C t c to A
section
variable {σ : StL} {μ : StM} {C : wWc} {T : wWt} {g d c to : Nat} {x2 : Int32}
theorem r_L_isTellable (h : wOK C T) (r : rL σ C g T T) (hc : c + 1 = Wn C) (hto : to < Wn C) (hx : x2 < 0 ∨ ∃ x, x < Tn T ∧ x2 = nI x) : k_pc (f_L_isTellable σ (nI to) x2) (fun v => (v = 0 ∧ ¬ wTel C (Tn T) c to x2) ∨ (¬ v = 0 ∧ wTel C (Tn T) c to x2)) := by
  have hn := h.2.2.1
  have hcC : c < Wn C := by omega
  unfold f_L_isTellable
  rw [r_C_isGeneric h.1 r.1 hto]
  show k_pc (if b2 (Wg C to) = 0 then _ else _) _
  refine p_if (fun z => ?_) (fun z => ?_)
  · have zg := b2_0.mp z
    refine p_if (fun e => p_some (Or.inr ⟨by decide, 0, e, Or.inl ⟨zg, rfl⟩⟩)) (fun e => p_some (Or.inl ⟨rfl, ?_⟩))
    rintro ⟨A, e2, ⟨_, ok⟩ | ⟨ok, _⟩⟩
    · rw [ok] at e2; exact e e2
    · rw [zg] at ok; cases ok
  · have zg : Wg C to = true := by
      cases e : Wg C to with
      | true => rfl
      | false => rw [e] at z; exact absurd rfl z
    refine p_if (fun e => ?_) (fun e => ?_)
    · rw [r_C_newest r.1 hc, r_C_isGeneric h.1 r.1 hcC]
      refine p_some ?_
      cases eg : Wg C c with
      | true => exact Or.inr ⟨by decide, 3, e, Or.inr ⟨zg, Or.inr ⟨rfl, eg⟩⟩⟩
      | false =>
        refine Or.inl ⟨by decide, ?_⟩
        rintro ⟨A, e2, ⟨ok, _⟩ | ⟨_, ⟨x, x1, x2', x3⟩ | ⟨_, ok⟩⟩⟩
        · rw [zg] at ok; cases ok
        · rw [e, wTd_x (Or.inl x3)] at e2
          exact absurd e2.symm (k_ne2 (by omega))
        · rw [eg] at ok; cases ok
    · refine p_if (fun y => p_some (Or.inl ⟨rfl, ?_⟩)) (fun y => ?_)
      · rintro ⟨A, e2, ⟨ok, _⟩ | ⟨_, ⟨x, x1, x2', x3⟩ | ⟨ok, _⟩⟩⟩
        · rw [zg] at ok; cases ok
        · rw [e2, wTd_x (Or.inl x3)] at y
          exact absurd y (nI_pos (by omega))
        · rw [ok] at e2; exact e e2
      · obtain ⟨x, hxt, rfl⟩ : ∃ x, x < Tn T ∧ x2 = nI x := hx.resolve_left y
        rw [r_T_kindOf h.2 r.2 hxt]
        show k_pc (if nI (dK (Ty T x)) = 0 then _ else _) _
        have kl := wK_lt h.2 hxt
        refine p_if (fun w => p_some (Or.inl ⟨rfl, ?_⟩)) (fun w => p_some (Or.inr ⟨by decide, 4 * x + 1, (wTd_x (Or.inl rfl)).symm, Or.inr ⟨zg, Or.inl ⟨x, ?_, hxt, rfl⟩⟩⟩))
        · have w2 : nI (dK (Ty T x)) = nI 0 := w
          rw [nI_eq (by omega) (by decide)] at w2
          rintro ⟨A, e2, ⟨ok, _⟩ | ⟨_, ⟨x', x1, x2', x3⟩ | ⟨ok, _⟩⟩⟩
          · rw [zg] at ok; cases ok
          · rw [wTd_x (Or.inl x3), nI_eq (by omega) (by omega)] at e2
            rcases wT_kind h.2 hxt with ⟨_, q⟩ | ⟨_, q⟩ <;> omega
          · rw [ok] at e2; exact e e2
        · have w2 : ¬ nI (dK (Ty T x)) = nI 0 := w
          rw [nI_eq (by omega) (by decide)] at w2
          rcases wT_kind h.2 hxt with ⟨q, _⟩ | ⟨q, _⟩
          · exact absurd q w2
          · exact q
theorem r_M_hasDirect_5 (h : wOK C T) (r : rMc μ C g) (hc : c < Wn C) (hto : to < Wn C) : ∀ (f k : Nat) (x3 : Int32), k ≤ Wd C c → ((x3 = 0 ∧ ∀ j, j < k → Wo C c j ≠ to) ∨ (x3 = 1 ∧ ∃ j, j < Wd C c ∧ Wo C c j = to)) → k_pc (f_M_hasDirect_5 f μ (nI c) (nI to) x3 (nI k)) (fun v => v = 0 ↔ ∀ j, j < Wd C c → Wo C c j ≠ to) := by
  have hn := h.1.2.1
  have hd := (h.1.2.2.1 c hc).1
  have cc : (nI c).toNatClampNeg = c := nI_clamp (by omega)
  intro f
  induction f with
  | zero => intro k x3 _ _; exact p_none
  | succ f ih =>
    intro k x3 hk hx
    rw [f_M_hasDirect_5]
    unfold f_M_hasDirect_5_s f_M_hasDirect_36
    refine p_guard (fun _ => ?_)
    rw [cc, (r.2.2 c hc).2.2.1]
    refine p_if (fun z => p_some ?_) (fun z => ?_)
    · rw [nI_leI (by omega) (by omega)] at z
      rcases hx with ⟨e, q⟩ | ⟨e, j, j1, j2⟩
      · rw [e]
        exact ⟨fun _ j hj => q j (by omega), fun _ => rfl⟩
      · rw [e]
        exact ⟨fun q => absurd q (by decide), fun q => absurd j2 (q j j1)⟩
    · rw [nI_leI (by omega) (by omega)] at z
      have cl : (30 * nI c + nI k).toNatClampNeg = 30 * c + k := by rw [k_30ix]; exact nI_clamp (by omega)
      refine p_if (fun e => p_guard (fun _ => ?_)) (fun e => ?_)
      · have q : ∀ j, j < k → Wo C c j ≠ to := by
          rcases hx with ⟨_, q⟩ | ⟨e2, _⟩
          · exact q
          · rw [e] at e2; exact absurd e2 (by decide)
        rw [cl, ((r.2.2 c hc).2.2.2.1 k (by omega)).1]
        have lt := (h.1.2.2.2.1 c k hc (by omega)).1
        refine p_if (fun w => ?_) (fun w => ?_)
        · rw [nI_eq (by omega) (by omega)] at w
          rw [nI_1]
          exact ih (k + 1) 1 (by omega) (Or.inr ⟨rfl, k, by omega, w⟩)
        · rw [nI_eq (by omega) (by omega)] at w
          rw [nI_1]
          refine ih (k + 1) 0 (by omega) (Or.inl ⟨rfl, fun j hj => ?_⟩)
          by_cases ej : j = k
          · rw [ej]; exact w
          · exact q j (by omega)
      · rcases hx with ⟨e2, _⟩ | ⟨_, q⟩
        · exact absurd e2 e
        · rw [nI_1]
          exact ih (k + 1) 1 (by omega) (Or.inr ⟨rfl, q⟩)
theorem wGx_rs {r : Nat} : wGx (-2) r = wTd r := by
  unfold wGx
  by_cases e : r = 3
  · rw [if_pos e, e]; rfl
  · rw [if_neg e]
theorem r_M_partsWay_6 (h : wOK C T) (r : rMc μ C g) (hc : c + 1 = Wn C) (hto : to < c) {A : Nat} (hA : wArOk C (Tn T) c to A) : ∀ (f i : Nat) (x4 aa hh gg : Int32), i ≤ Wn C → ((x4 = 0 ∧ ∀ b, b < i → wAgb C c to A b) ∨ (x4 = 1 ∧ ∃ b, b < Wn C ∧ ¬ wAgb C c to A b)) → k_pc (f_M_partsWay_6 f (mF μ aa hh gg) (nI c) (nI to) (wTd A) x4 (nI i)) (fun q => (q.1 = 0 ↔ ∀ b, b < Wn C → wAgb C c to A b) ∧ ∃ a' h' g', q.2 = mF μ a' h' g') := by
  have hn := h.1.2.1
  have ht := h.2.2.1
  have hcC : c < Wn C := by omega
  intro f
  induction f with
  | zero => intro i x4 aa hh gg _ _; exact p_none
  | succ f ih =>
    intro i x4 aa hh gg hi hx
    rw [f_M_partsWay_6]
    unfold f_M_partsWay_6_s f_M_partsWay_85
    rw [show M_classes (mF μ aa hh gg) = nI (Wn C) from r.1]
    refine p_if (fun z => p_some ⟨?_, aa, hh, gg, rfl⟩) (fun z => ?_)
    · rw [nI_leI (by omega) (by omega)] at z
      rcases hx with ⟨e, q⟩ | ⟨e, b, b1, b2⟩
      · rw [e]
        exact ⟨fun _ b hb => q b (by omega), fun _ => rfl⟩
      · rw [e]
        exact ⟨fun q => absurd q (show ¬ ((1 : Int32) &&& 1) = 0 by decide), fun q => absurd (q b b1) b2⟩
    · rw [nI_leI (by omega) (by omega)] at z
      have hi' : i < Wn C := by omega
      have ci : (nI i).toNatClampNeg = i := nI_clamp (by omega)
      have next : ∀ (a' h' g' : Int32), wAgb C c to A i → k_pc (f_M_partsWay_6 f (mF μ a' h' g') (nI c) (nI to) (wTd A) x4 (nI i + 1)) (fun q => (q.1 = 0 ↔ ∀ b, b < Wn C → wAgb C c to A b) ∧ ∃ a' h' g', q.2 = mF μ a' h' g') := by
        intro a' h' g' w
        rw [nI_1]
        refine ih (i + 1) x4 a' h' g' (by omega) ?_
        rcases hx with ⟨e, q⟩ | q
        · refine Or.inl ⟨e, fun b hb => ?_⟩
          by_cases eb : b = i
          · rw [eb]; exact w
          · exact q b (by omega)
        · exact Or.inr q
      have next1 : ∀ (a' h' g' : Int32), (∃ b, b < Wn C ∧ ¬ wAgb C c to A b) → k_pc (f_M_partsWay_6 f (mF μ a' h' g') (nI c) (nI to) (wTd A) 1 (nI i + 1)) (fun q => (q.1 = 0 ↔ ∀ b, b < Wn C → wAgb C c to A b) ∧ ∃ a' h' g', q.2 = mF μ a' h' g') := by
        intro a' h' g' w
        rw [nI_1]
        exact ih (i + 1) 1 a' h' g' (by omega) (Or.inr ⟨rfl, w⟩)
      refine p_guard (fun _ => ?_)
      rw [ci, show M_generic (mF μ aa hh gg) i = b2 (Wg C i) from (r.2.2 i hi').2.1]
      refine p_if (fun w => next _ _ _ ?_) (fun w => ?_)
      · intro q; rw [b2_0.mp w] at q; cases q
      · have wg : Wg C i = true := by
          cases e : Wg C i with
          | true => rfl
          | false => rw [e] at w; exact absurd rfl w
        obtain ⟨c1, c2⟩ := r_M_climb (σ := mF μ aa hh gg) h.1 ht r hcC hi' 1 (-2)
        have cl1 : k_pc (f_M_climb (mF μ aa hh gg) (nI c) 1 (-2) (nI i)) (fun q => (∃ s, wCl C c 3 i = some s ∧ ∃ h', q.2 = mF μ 1 h' (wTd s)) ∨ (wCl C c 3 i = none ∧ ∃ h' g', q.2 = mF μ 0 h' g')) := by
          cases e : wCl C c 3 i with
          | some s =>
            refine p_mono (p_ok (c1 s e)) (fun q hq => Or.inl ⟨s, rfl, wHx 1 s, ?_⟩)
            rw [hq, wGx_rs]; rfl
          | none => exact p_mono (p_ok (c2 e)) (fun q hq => Or.inr ⟨rfl, _, _, hq⟩)
        refine p_bind cl1 ?_
        rintro ⟨v1, τ1⟩ hτ1
        obtain ⟨a1, h1', g1', eτ1⟩ : ∃ a1 h1' g1', τ1 = mF μ a1 h1' g1' := by
          rcases hτ1 with ⟨s, _, h', e⟩ | ⟨_, h', g', e⟩
          · exact ⟨_, _, _, e⟩
          · exact ⟨_, _, _, e⟩
        replace hτ1 : (∃ s, wCl C c 3 i = some s ∧ ∃ h', τ1 = mF μ 1 h' (wTd s)) ∨ (wCl C c 3 i = none ∧ ∃ h' g', τ1 = mF μ 0 h' g') := hτ1
        have cl2 : k_pc (f_M_climb τ1 (nI to) 1 (wTd A) (nI i)) (fun q => (∃ s, wCl C to A i = some s ∧ ∃ h', q.2 = mF μ 1 h' (wTd s)) ∨ (wCl C to A i = none ∧ ∃ h' g', q.2 = mF μ 0 h' g')) := by
          rw [eτ1]
          obtain ⟨d1, d2⟩ := r_M_climb (σ := mF μ a1 h1' g1') h.1 ht r (show to < Wn C by omega) hi' 1 (wTd A)
          have es := wCl_sub h.1 to A i (by omega)
          cases e : wCl C to 3 i with
          | some s =>
            rw [e] at es
            refine p_mono (p_ok (d1 s e)) (fun q hq => Or.inl ⟨wSb A s, es, wHx 1 s, ?_⟩)
            rw [hq, wGx_sb]; rfl
          | none =>
            rw [e] at es
            exact p_mono (p_ok (d2 e)) (fun q hq => Or.inr ⟨es, _, _, hq⟩)
        refine p_bind cl2 ?_
        rintro ⟨v2, τ2⟩ hτ2
        replace hτ2 : (∃ s, wCl C to A i = some s ∧ ∃ h', τ2 = mF μ 1 h' (wTd s)) ∨ (wCl C to A i = none ∧ ∃ h' g', τ2 = mF μ 0 h' g') := hτ2
        obtain ⟨a2, h2', g2', eτ2⟩ : ∃ a2 h2' g2', τ2 = mF μ a2 h2' g2' := by
          rcases hτ2 with ⟨s, _, h', e⟩ | ⟨_, h', g', e⟩
          · exact ⟨_, _, _, e⟩
          · exact ⟨_, _, _, e⟩
        have tnone : ∀ {x a : Nat}, x < Wn C → wCl C x a i = none → wTw C x i = false := by
          intro x a hx e
          cases q : wTw C x i with
          | false => rfl
          | true =>
            obtain ⟨s, hs⟩ := wCl_some h.1 x a i hx q
            rw [hs] at e; cases e
        refine p_if (fun e4 => ?_) (fun e4 => ?_)
        · replace e4 : x4 = 0 := e4
          have n0 : ∀ (a' h' g' : Int32), wAgb C c to A i → k_pc (f_M_partsWay_6 f (mF μ a' h' g') (nI c) (nI to) (wTd A) 0 (nI i + 1)) (fun q => (q.1 = 0 ↔ ∀ b, b < Wn C → wAgb C c to A b) ∧ ∃ a' h' g', q.2 = mF μ a' h' g') := by
            intro a' h' g' w
            have := next a' h' g' w
            rw [e4] at this
            exact this
          show k_pc (if M_found τ1 = 0 then f_M_partsWay_6 f τ2 (nI c) (nI to) (wTd A) 0 (nI i + 1) else if M_found τ2 = 0 then f_M_partsWay_6 f τ2 (nI c) (nI to) (wTd A) 0 (nI i + 1) else if M_foundType τ1 = M_foundType τ2 then f_M_partsWay_6 f τ2 (nI c) (nI to) (wTd A) 0 (nI i + 1) else f_M_partsWay_6 f τ2 (nI c) (nI to) (wTd A) 1 (nI i + 1)) _
          rcases hτ1 with ⟨s, es, h', e⟩ | ⟨es, h', g', e⟩
          · rcases hτ2 with ⟨s', es', h'', e'⟩ | ⟨es', h'', g'', e'⟩
            · have tw1 := wCl_tw h.1 hcC es
              have tw2 := wCl_tw h.1 (show to < Wn C by omega) es'
              have ile := wTw_le h.1 (show to < Wn C by omega) tw2
              have hu := wTw_ne tw1 (show c ≠ i by omega)
              obtain ⟨u, u', f1, f2, s1, s2⟩ := wCl_both h.1 hcC (show to < Wn C by omega) hA wg (by omega) hu tw2
              rw [es] at f1
              rw [es'] at f2
              injection f1 with f1
              injection f2 with f2
              subst f1
              subst f2
              refine p_if (fun q => ?_) (fun _ => p_if (fun q => ?_) (fun _ => p_if (fun q => ?_) (fun q => ?_)))
              · rw [e] at q; exact absurd q k_10
              · rw [e'] at q; exact absurd q k_10
              · rw [e, e'] at q
                replace q : wTd s = wTd s' := q
                rw [eτ2]
                refine n0 _ _ _ (fun _ _ _ => ?_)
                rw [es, es', wTd_inj ht s1 s2 q]
              · rw [e, e'] at q
                replace q : ¬ wTd s = wTd s' := q
                rw [eτ2]
                refine next1 _ _ _ ⟨i, hi', fun w => ?_⟩
                have := w wg hu tw2
                rw [es, es'] at this
                injection this with this
                exact q (by rw [this])
            · have tw := tnone (show to < Wn C by omega) es'
              refine p_if (fun q => ?_) (fun _ => p_if (fun q => ?_) (fun q => ?_))
              · rw [e] at q; exact absurd q k_10
              · rw [eτ2]
                exact n0 _ _ _ (fun _ _ q => by rw [tw] at q; cases q)
              · rw [e'] at q; exact absurd rfl q
          · have tw := tnone hcC es
            refine p_if (fun q => ?_) (fun q => ?_)
            · rw [eτ2]
              refine n0 _ _ _ (fun _ q _ => ?_)
              rw [wTw_up q] at tw; cases tw
            · rw [e] at q; exact absurd rfl q
        · have w : ∃ b, b < Wn C ∧ ¬ wAgb C c to A b := by
            rcases hx with ⟨q, _⟩ | ⟨_, q⟩
            · exact absurd q e4
            · exact q
          show k_pc (f_M_partsWay_6 f τ2 (nI c) (nI to) (wTd A) 1 (nI i + 1)) _
          rw [eτ2]
          exact next1 _ _ _ w
theorem RW_set (h : RW C g T d) {k A : Nat} (hc : c + 1 = Wn C) (hm : wMay C c to) (hto : to < Wn C) (hA : wArOk C (Tn T) c to A) (ek : k = (if Wf C to = true then Wd C c else 0)) (hag : ∀ b, b < Wn C → wAgb C c to A b) : RW (wSet C c k to A) g T d ∧ to < c ∧ k ≤ Wd C c := by
  obtain ⟨m1, m2, m3, m4⟩ := hm
  have hd0 := (h.1.1.2.2.1 c (by omega)).2 (by omega)
  have hk : k = Wd C c ∨ (k = 0 ∧ Wo C c 0 = 0) := by
    by_cases e : Wf C to = true
    · rw [if_pos e] at ek; exact Or.inl ek
    · rw [if_neg e] at ek
      exact Or.inr ⟨ek, (m3 (by cases q : Wf C to with | false => rfl | true => exact absurd q e)).2⟩
  have h' := wSet_ok h.1.1 hc m1 (show to < c by omega) hA m4 hk hag
  refine ⟨⟨⟨h', wTok_agr h.1.2 (Nat.le_refl _) (fun _ _ => rfl)⟩, h.2.1, h.2.2.1, h.2.2.2.1, fun x hx hx2 => ?_⟩, by omega, by omega⟩
  replace hx2 : x < Wn C := hx2
  show Wf C (Wo (wSet C c k to A) x 0) = false
  by_cases e : x = c
  · subst e
    have a4 : Wo (wSet C x k to A) x = wUp (Wo C x) k to := wUp_s
    rw [a4]
    by_cases e0 : (0 : Nat) = k
    · rw [← e0, wUp_s]
      cases q : Wf C to with
      | false => rfl
      | true => rw [if_pos q] at ek; omega
    · rw [wUp_n e0]; exact h.2.2.2.2 x hx hx2
  · rw [(wSet_ag6x e).2.2.2.1]; exact h.2.2.2.2 x hx hx2
end
