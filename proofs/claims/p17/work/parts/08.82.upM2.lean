/-! Tier 3: the reference's upper: a bound's classes. -/
section
variable {σ : StM} {C : wWc} {T : wWt} {g : Nat}
theorem pAd_trans {τ : StM} {t t' : Nat} {o : Option (Nat × wWt)} {r : Int32 × StM} (h1 : ∃ b, τ = mB σ b) (h2 : kAg t σ τ) (ht : t ≤ t') (h : pAd τ t' o r) : pAd σ t o r := by
  obtain ⟨b1, e1⟩ := h1
  obtain ⟨⟨b2, e2⟩, a2, f2⟩ := h
  exact ⟨⟨b2, by rw [e2, e1]; rfl⟩, kAg_trans h2 a2 ht, f2⟩
theorem p_o2 {F : wWt → Nat → Nat → Option (Nat × wWt)} (hF : wFok C F) (h : wOK C T) {c x y : Nat} (hc : c < Wn C) (hg : Wg C c = true) (x8 : 8 ≤ x) (xt : x < Tn T) (yt : y < Tn T) {p : Nat × wWt} (e : ((F T x y).bind (fun q => wNm q.2 c (4 * q.1 + 2))) = some p) : wOK C p.2 ∧ wEx T p.2 ∧ p.1 < Tn p.2 ∧ 8 ≤ p.1 ∧ ∃ A, Ty p.2 p.1 = (1, c, A, []) := by
  cases eF : F T x y with
  | none => rw [eF] at e; cases e
  | some q =>
    rw [eF] at e
    replace e : wNm q.2 c (4 * q.1 + 2) = some p := e
    obtain ⟨w1, w2, w3, w4⟩ := hF T x y h xt yt q eF
    obtain ⟨n1, n2, n3, n4, n5⟩ := wNm_ok w1 hc (by rw [hg]; exact Or.inr ⟨rfl, q.1, w4 x8, w3, Or.inr rfl⟩) e
    exact ⟨n1, wEx_trans w2 n2, n3, n4, _, n5⟩
theorem wOk_t {t X : Nat} (h : wOk t true X) : ∃ y, 8 ≤ y ∧ y < t ∧ (X = 4 * y + 1 ∨ X = 4 * y + 2) := by
  rcases h with ⟨w, _⟩ | ⟨_, w⟩
  · cases w
  · exact w
/-- no one ARGUMENT holds both: a bound's bound -/
theorem p_237 {h a b d c : Nat} {s : Nat → Bool} {l : List Nat} {x : Int32} {Q : Int32 × StM → Prop} (hrec : ∀ e, d = e + 1 → pRec C g e 101) (hF : pFr C g σ T h a b d s c l) (hc : c < Wn C) (hgc : Wg C c = true) (hst : M_stage σ h = 2) (hb : h + 1 + 101 * d ≤ 303)
    {X Y : Nat} (hX : wOk (Tn T) true X) (hY : wOk (Tn T) true Y) (hft : M_foundType σ = wTd Y)
    (hnext : ∀ p τ, ((wFd C d T (X / 4) (Y / 4)).bind (fun q => wNm q.2 c (4 * q.1 + 2))) = some p → Tn T ≤ Tn p.2 → pGo σ τ (Tn T) h → M_stage τ h = 2 → pFr C g τ p.2 h a b d s (c + 1) (l ++ [p.1]) → pU x Q τ)
    (hfull : ∀ τ, ((wFd C d T (X / 4) (Y / 4)).bind (fun q => wNm q.2 c (4 * q.1 + 2))) = none → pGo σ τ (Tn T) h → M_full τ = 1 → pU x Q τ) :
    k_pc (f_M_goOn_237 σ (nI h) (nI c) (wTd X)) (fun r => pU x Q r.2) := by
  have hO := hF.1.1
  have hrc := hF.1.2.1
  have hrt := hF.1.2.2
  have hfl := hF.2.1.1
  have hn := hO.1.2.1
  have h13 := hO.1.1
  have ht := hO.2.2.1
  have ch : (nI h).toNatClampNeg = h := nI_clamp (by omega)
  have edp : M_deep σ h = nI d := hF.2.2.2.1
  obtain ⟨X0, X8, Xt, Xe⟩ := wOk_t hX
  obtain ⟨Y0, Y8, Yt, Ye⟩ := wOk_t hY
  have ex : X / 4 = X0 := by omega
  have ey : Y / 4 = Y0 := by omega
  rw [ex, ey] at hnext hfull
  rw [wTd_x Xe]
  rw [wTd_x Ye] at hft
  unfold f_M_goOn_237
  refine p_guard (fun _ => ?_)
  rw [ch, edp]
  refine p_if (fun w => ?_) (fun w => ?_)
  · have d0 : d = 0 := by
      have w2 : nI d = nI 0 := w
      rw [nI_eq (by omega) (by decide)] at w2; exact w2
    subst d0
    have hok0 : wOk (Tn T) (Wg C 0) 0 := Or.inl ⟨hO.1.2.2.2.2.2.2.2.1 0 (by omega), rfl⟩
    refine p_bind (p_addNamed hO hrc hrt hfl (c := 0) (a := 0) (by omega) hok0) ?_
    intro r4 hr4
    refine p_bind (P := pAd σ (Tn T) ((wFd C 0 T X0 Y0).bind (fun q => wNm q.2 c (4 * q.1 + 2)))) ?_ ?_
    · cases e4 : wNm T 0 0 with
      | none =>
        rw [e4] at hr4
        obtain ⟨z1, z2, z3, z4⟩ := hr4
        have e5 : wFd C 0 T X0 Y0 = none := e4
        rw [e5]
        unfold f_M_addNamed
        refine p_if (fun q => ?_) (fun _ => p_some ⟨z1, z2, rfl, z4⟩)
        rw [z4] at q; exact absurd q (by decide)
      | some q4 =>
        rw [e4] at hr4
        obtain ⟨⟨b4, e4b⟩, z2, z3, z4, z5⟩ := hr4
        obtain ⟨n1, n2, n3, n4, n5⟩ := wNm_ok hO (by omega) hok0 e4
        have rc4 : rMc r4.2 C g := rMc_ke hrc (by rw [e4b]; exact pKe_mB σ b4)
        have key := p_addNamed n1 rc4 z4 z5 hc (a := 4 * q4.1 + 2) (by rw [hgc]; exact Or.inr ⟨rfl, q4.1, n4, n3, Or.inr rfl⟩)
        have w1 : wH (4 * q4.1 + 2) = 2 := wH_y rfl
        have w2 : wTd (4 * q4.1 + 2) = r4.1 := (wTd_x (Or.inr rfl)).trans z3.symm
        rw [w1, w2] at key
        have e5 : wFd C 0 T X0 Y0 = some q4 := e4
        rw [e5]
        exact p_mono key (fun r hr => pAd_trans ⟨b4, e4b⟩ z2 n2.1 hr)
    · intro r5 hr5
      exact p_bind (p_keep hF hc (by omega) hr5 (fun p e => p_o2 (wFd_ok 0) hO hc hgc X8 Xt Yt e) (fun p τ e g0 g1 g2 g3 => hnext p τ e g0 g1 (g2.trans hst) g3) hfull) (fun r hr => p_some hr)
  · obtain ⟨e, rfl⟩ : ∃ e, d = e + 1 := by
      cases d with
      | zero => exact absurd rfl w
      | succ e => exact ⟨e, rfl⟩
    refine p_guard (fun _ => p_guard (fun _ => ?_))
    have hS : M_put_stage σ (nI h) 3 = M_set_stage σ (upd (M_stage σ) h 3) := by
      show M_set_stage σ (upd (M_stage σ) (nI h).toNatClampNeg 3) = _
      rw [ch]
    rw [hS]
    have e1 : nI (e + 1) - 1 = nI e := nI_pred e
    rw [show M_foundType (M_set_stage σ (upd (M_stage σ) h 3)) = nI Y0 from hft, e1]
    refine p_bind (p_ok (s_M_ask (σ := M_set_stage σ (upd (M_stage σ) h 3)) (h := h + 1) hF.2.1.2 (by omega) (nI X0) (nI Y0) (nI e))) ?_
    rintro ⟨v3, S⟩ eS
    replace eS : S = mAsk (M_set_stage σ (upd (M_stage σ) h 3)) (h + 1) (nI X0) (nI Y0) (nI e) := eS
    refine p_some ?_
    show pU x Q S
    have hm := (hO.2.2.2.1 X0 Xt).2.1
    refine hrec e rfl (h + 1) X0 Y0 T S x Q hO (by rw [eS]; exact hrc) (by rw [eS]; exact hrt) (by rw [eS]; exact hfl) (by rw [eS]; rfl) (by rw [eS]; exact mAsk_left) (by rw [eS]; exact mAsk_right) (by rw [eS]; exact mAsk_deep) (by rw [eS]; exact mAsk_stage) (by rw [eS]; exact mAsk_size) (by rw [eS]; exact mAsk_at) Xt Yt (by omega) (by omega) ?_
    intro σ' hD
    have hSσ : ∀ f, f < h + 1 → M_left S f = M_left σ f ∧ M_right S f = M_right σ f ∧ M_deep S f = M_deep σ f ∧ M_least S f = M_least σ f ∧ M_at S f = M_at σ f ∧ M_size S f = M_size σ f ∧ ∀ k, k < 30 → M_parts S (30 * f + k) = M_parts σ (30 * f + k) := by
      intro f hf
      rw [eS]
      exact ⟨k_u hf, k_u hf, k_u hf, rfl, k_u hf, k_u hf, fun _ _ => rfl⟩
    have hstS : ∀ f, f < h → M_stage S f = M_stage σ f := by
      intro f hf
      rw [eS]
      show upd (upd (M_stage σ) h 3) (h + 1) 0 f = _
      rw [k_u (by omega), k_u hf]
    have hst3 : M_stage S h = 3 := by
      rw [eS]
      show upd (upd (M_stage σ) h 3) (h + 1) 0 h = _
      rw [k_u (by omega), k_upds]
    obtain ⟨⟨dK', dG, dS⟩, dF⟩ := hD
    have hKe : pKe σ σ' := by
      refine pKe_trans ?_ dK'
      rw [eS]; exact ⟨⟨rfl, rfl, rfl, rfl⟩, rfl, rfl, rfl, rfl, rfl, rfl, rfl, rfl⟩
    have hG : kAg (Tn T) σ σ' := by
      refine kAg_trans (t' := Tn T) ?_ dG (Nat.le_refl _)
      rw [eS]; exact kAg_refl (Tn T) σ
    clear eS
    have hgo : pGo σ σ' (Tn T) h := by
      refine ⟨hKe, hG, ?_⟩
      intro f hf
      obtain ⟨a1, a2, a3, a5, a6, a7, a8⟩ := hSσ f (by omega)
      obtain ⟨b1, b2, b3, b4, b5, b6, b7, b8⟩ := dS f (by omega)
      exact ⟨b1.trans a1, b2.trans a2, b3.trans a3, b4.trans (hstS f hf), b5.trans a5, b6.trans a6, b7.trans a7, fun k hk => (b8 k hk).trans (a8 k hk)⟩
    have eF : wUb C (wFd C e) 101 T X0 Y0 = wFd C (e + 1) T X0 Y0 := rfl
    rw [eF] at dF
    cases eo : wFd C (e + 1) T X0 Y0 with
    | none =>
      rw [eo] at dF hfull
      exact hfull σ' rfl hgo dF
    | some z =>
      rw [eo] at dF hfull hnext
      obtain ⟨f1, f2, f3, f4⟩ := dF
      obtain ⟨z1, z2, z3, z4⟩ := wFd_ok (C := C) (e + 1) T X0 Y0 hO Xt Yt z eo
      have z8 := z4 X8
      have hF' : pFr C g σ' z.2 h a b (e + 1) s c l := by
        obtain ⟨⟨q0, q1, q2⟩, ⟨q3, q4⟩, ⟨q5, q6, q7, q8⟩, q9, q10, q11, ⟨q12, q13⟩, q14, q15, q16⟩ := hF
        obtain ⟨a1, a2, a3, a5, a6, a7, a8⟩ := hSσ h (by omega)
        obtain ⟨g1, g2, g3, g4, g5, g6, g7, g8⟩ := dS h (by omega)
        have hl := q15.1
        refine ⟨⟨z1, rMc_ke q1 hKe, f2⟩, ⟨f1, f3⟩, ⟨(g1.trans a1).trans q5, (g2.trans a2).trans q6, Nat.lt_of_lt_of_le q7 z2.1, Nat.lt_of_lt_of_le q8 z2.1⟩, (g3.trans a3).trans q9, fun e he => ?_, wSok_ex q0.2 z2 q7 q8 q11, ⟨(g6.trans a6).trans q12, q13⟩, (g7.trans a7).trans q14, wLok_ex z2 q15, fun k hk => ?_⟩
        · rw [g5, a5]; exact q10 e he
        · exact ((g8 k (by omega)).trans (a8 k (by omega))).trans (q16 k hk)
      have hst' : M_stage σ' h = 3 := (dS h (by omega)).2.2.2.1.trans hst3
      refine p_turn f3 (by omega) f1 (fun q => by rw [hst'] at q; exact absurd q (by decide)) (fun q => by rw [hst'] at q; exact absurd q (by decide)) (fun q => by rw [hst'] at q; exact absurd q (by decide)) (fun _ _ _ => ?_)
      have hP : M_put_stage σ' (nI h) 2 = M_set_stage σ' (upd (M_stage σ') h 2) := by
        show M_set_stage σ' (upd (M_stage σ') (nI h).toNatClampNeg 2) = _
        rw [ch]
      rw [hP, ch, show M_at (M_set_stage σ' (upd (M_stage σ') h 2)) h = nI c from hF'.2.2.2.2.2.2.1.1, show M_answer (M_set_stage σ' (upd (M_stage σ') h 2)) = nI z.1 from f4]
      have hF2 : pFr C g (M_set_stage σ' (upd (M_stage σ') h 2)) z.2 h a b (e + 1) s c l := hF'
      have hgo2 : pGo σ (M_set_stage σ' (upd (M_stage σ') h 2)) (Tn T) h := by
        refine ⟨hKe, hG, ?_⟩
        intro f hf
        obtain ⟨b1, b2, b3, b4, b5, b6, b7, b8⟩ := hgo.2.2 f hf
        refine ⟨b1, b2, b3, ?_, b5, b6, b7, b8⟩
        show upd (M_stage σ') h 2 f = _
        rw [k_u hf]; exact b4
      have hok2 : wOk (Tn z.2) (Wg C c) (4 * z.1 + 2) := by rw [hgc]; exact Or.inr ⟨rfl, z.1, z8, z3, Or.inr rfl⟩
      have key := p_addNamed (σ := M_set_stage σ' (upd (M_stage σ') h 2)) z1 hF2.1.2.1 f2 f1 hc hok2
      have w1 : wH (4 * z.1 + 2) = 2 := wH_y rfl
      have w2 : wTd (4 * z.1 + 2) = nI z.1 := wTd_x (Or.inr rfl)
      rw [w1, w2] at key
      refine p_mono key ?_
      intro r8 hr8
      refine p_keep hF2 hc (by omega) hr8 ?_ ?_ ?_
      · intro p ep
        obtain ⟨n1, n2, n3, n4, n5⟩ := wNm_ok z1 hc hok2 ep
        exact ⟨n1, n2, n3, n4, _, n5⟩
      · intro p τ ep g0 g1 g2 g3
        refine hnext p τ ep (Nat.le_trans z2.1 g0) (pGo_trans hgo2 g1 z2.1 (Nat.le_refl h)) ?_ g3
        rw [g2]; exact k_upds
      · intro τ ep g1 g2
        exact hfull τ ep (pGo_trans hgo2 g1 z2.1 (Nat.le_refl h)) g2
theorem wLk_kB (h : wTok C T) (a b : Nat) : wLk C T (kBox a) b = wLk C T a b := by
  unfold kBox
  split
  · rename_i q; exact (wLk_box h q b).symm
  · rfl
theorem p_44c {h a b d c : Nat} {s : Nat → Bool} {l : List Nat} {x : Int32} {Q : Int32 × StM → Prop} (hrec : ∀ e, d = e + 1 → pRec C g e 101) (hF : pFr C g σ T h a b d s c l) (hc : c < Wn C) (hs : s c = true) (hst : M_stage σ h = 2) (hb : h + 1 + 101 * d ≤ 303)
    (hnext : ∀ p τ, ((wAr2 (wFd C d) T (wLg C T a c) (wLg C T b c)).bind (fun q => wNm q.2 c q.1)) = some p → Tn T ≤ Tn p.2 → pGo σ τ (Tn T) h → M_stage τ h = 2 → pFr C g τ p.2 h a b d s (c + 1) (l ++ [p.1]) → pU x Q τ)
    (hfull : ∀ τ, ((wAr2 (wFd C d) T (wLg C T a c) (wLg C T b c)).bind (fun q => wNm q.2 c q.1)) = none → pGo σ τ (Tn T) h → M_full τ = 1 → pU x Q τ) :
    k_pc (f_M_goOn_44 σ (nI h)) (fun r => pU x Q r.2) := by
  have hO := hF.1.1
  have hrc := hF.1.2.1
  have hrt := hF.1.2.2
  have hfl := hF.2.1.1
  have hn := hO.1.2.1
  have ht := hO.2.2.1
  have ht16 := hO.2.1
  have ch : (nI h).toNatClampNeg = h := nI_clamp (by omega)
  have cc : (nI c).toNatClampNeg = c := nI_clamp (by omega)
  obtain ⟨el, er, at', bt'⟩ := hF.2.2.1
  have hat : M_at σ h = nI c := hF.2.2.2.2.2.2.1.1
  obtain ⟨_, sa, sb⟩ := hF.2.2.2.2.2.1 c hs
  obtain ⟨la, oa⟩ := wLg_ok hO at' sa
  obtain ⟨lb, ob⟩ := wLg_ok hO bt' sb
  have hrg := (hrc.2.2 c hc).2.1
  revert hnext hfull la oa lb ob
  generalize wLg C T a c = X
  generalize wLg C T b c = Y
  intro hnext hfull la oa lb ob
  unfold f_M_goOn_44
  refine p_guard (fun _ => ?_)
  rw [ch, hat, show M_classes σ = nI (Wn C) from hrc.1]
  refine p_if (fun q => ?_) (fun _ => ?_)
  · rw [nI_eq (by omega) (by omega)] at q; omega
  refine p_guard (fun _ => p_guard (fun _ => ?_))
  rw [cc, hrg]
  refine p_if (fun w => ?_) (fun w => ?_)
  · have g0 : Wg C c = false := b2_0.mp w
    rw [g0] at oa ob
    have xa : X = 0 := by
      rcases oa with ⟨_, e⟩ | ⟨e, _⟩
      · exact e
      · cases e
    have xb : Y = 0 := by
      rcases ob with ⟨_, e⟩ | ⟨e, _⟩
      · exact e
      · cases e
    subst xa
    subst xb
    have eo : wAr2 (wFd C d) T 0 0 = some (0, T) := by unfold wAr2; rw [if_pos ⟨rfl, by decide⟩]
    rw [eo] at hnext hfull
    have hok : wOk (Tn T) (Wg C c) 0 := by rw [g0]; exact Or.inl ⟨rfl, rfl⟩
    have key := p_addNamed hO hrc hrt hfl hc hok
    have w1 : wH 0 = 0 := rfl
    have w2 : wTd 0 = -1 := rfl
    rw [w1, w2] at key
    refine p_bind key ?_
    intro r9 hr9
    refine p_bind (p_keep hF hc (by omega) hr9 ?_ (fun p τ e g0 g1 g2 g3 => hnext p τ e g0 g1 (g2.trans hst) g3) hfull) (fun r hr => p_some hr)
    intro p ep
    obtain ⟨n1, n2, n3, n4, n5⟩ := wNm_ok hO hc hok ep
    exact ⟨n1, n2, n3, n4, _, n5⟩
  · have g1 : Wg C c = true := by
      cases q : Wg C c with
      | true => rfl
      | false => rw [q] at w; exact absurd rfl w
    have hok : wOk (Tn T) (Wg C c) X := oa
    rw [g1] at oa ob
    refine p_guard (fun _ => ?_)
    rw [el]
    refine p_bind (r_M_lookAt hO hrc hrt (kBox_lt at' ht16) hc) ?_
    rintro ⟨v1, τ1⟩ e1
    rw [wLk_kB hO.2, la] at e1
    replace e1 : τ1 = mF σ 1 (wH X) (wTd X) := e1
    subst e1
    refine p_guard (fun _ => ?_)
    rw [show M_right (mF σ 1 (wH X) (wTd X)) h = nI (kBox b) from er]
    refine p_bind (r_M_lookAt (σ := mF σ 1 (wH X) (wTd X)) hO hrc hrt (kBox_lt bt' ht16) hc) ?_
    rintro ⟨v2, τ2⟩ e2
    rw [wLk_kB hO.2, lb] at e2
    replace e2 : τ2 = mF σ 1 (wH Y) (wTd Y) := e2
    subst e2
    have hF2 : pFr C g (mF σ 1 (wH Y) (wTd Y)) T h a b d s c l := hF
    have k237 : ¬ (X = Y ∧ X % 4 ≠ 2) → k_pc (f_M_goOn_237 (mF σ 1 (wH Y) (wTd Y)) (nI h) (nI c) (wTd X)) (fun r => pU x Q r.2) := by
      intro hxy
      have eo : (wAr2 (wFd C d) T X Y).bind (fun q => wNm q.2 c q.1) = (wFd C d T (X / 4) (Y / 4)).bind (fun q => wNm q.2 c (4 * q.1 + 2)) := by
        unfold wAr2
        rw [if_neg hxy]
        cases wFd C d T (X / 4) (Y / 4) <;> rfl
      rw [eo] at hnext hfull
      exact p_237 hrec hF2 hc g1 hst hb oa ob rfl hnext hfull
    obtain ⟨X0, X8, Xt, Xe⟩ := wOk_t oa
    obtain ⟨Y0, Y8, Yt, Ye⟩ := wOk_t ob
    refine p_if (fun w1 => ?_) (fun w1 => k237 ?_)
    · replace w1 : wH X = 1 := w1
      refine p_if (fun w2 => ?_) (fun w2 => k237 ?_)
      · replace w2 : wH Y = 1 := w2
        refine p_if (fun w3 => ?_) (fun w3 => k237 ?_)
        · replace w3 : wTd X = wTd Y := w3
          rw [wTd_x Xe, wTd_x Ye, nI_eq (by omega) (by omega)] at w3
          have x1 : X = 4 * X0 + 1 := by
            rcases Xe with e | e
            · exact e
            · rw [wH_y e] at w1; exact absurd w1 (by decide)
          have y1 : Y = 4 * Y0 + 1 := by
            rcases Ye with e | e
            · exact e
            · rw [wH_y e] at w2; exact absurd w2 (by decide)
          have eo : wAr2 (wFd C d) T X Y = some (X, T) := by unfold wAr2; rw [if_pos ⟨by omega, by omega⟩]
          rw [eo] at hnext hfull
          have key := p_addNamed (σ := mF σ 1 (wH Y) (wTd Y)) hO hrc hrt hfl hc hok
          rw [w1] at key
          refine p_bind key ?_
          intro r7 hr7
          refine p_bind (p_keep hF2 hc (by omega) hr7 ?_ (fun p τ e g0 g1 g2 g3 => hnext p τ e g0 g1 (g2.trans hst) g3) hfull) (fun r hr => p_some hr)
          intro p ep
          obtain ⟨n1, n2, n3, n4, n5⟩ := wNm_ok hO hc hok ep
          exact ⟨n1, n2, n3, n4, _, n5⟩
        · replace w3 : ¬ wTd X = wTd Y := w3
          rintro ⟨e, _⟩
          exact w3 (by rw [e])
      · replace w2 : ¬ wH Y = 1 := w2
        rintro ⟨e, e2⟩
        rcases Ye with e3 | e3
        · exact w2 (wH_x e3)
        · omega
    · replace w1 : ¬ wH X = 1 := w1
      rintro ⟨e, e2⟩
      rcases Xe with e3 | e3
      · exact w1 (wH_x e3)
      · omega
theorem wCls_skip {F : wWt → Nat → Nat → Option (Nat × wWt)} {a b : Nat} {s : Nat → Bool} {l : List Nat} : ∀ (n c : Nat), c + n ≤ 30 → (∀ j, c ≤ j → j < c + n → s j = false) → wCls C F a b s (30 - c) c T l = wCls C F a b s (30 - (c + n)) (c + n) T l := by
  intro n
  induction n with
  | zero => intro c _ _; rfl
  | succ n ih =>
    intro c h1 h2
    have e : 30 - c = (30 - (c + 1)) + 1 := by omega
    rw [e, wCls, if_neg (by rw [h2 c (Nat.le_refl c) (by omega)]; decide), ih (c + 1) (by omega) (fun j j1 j2 => h2 j (by omega) (by omega)), show c + 1 + n = c + (n + 1) by omega]
theorem wCls_end {F : wWt → Nat → Nat → Option (Nat × wWt)} {a b c : Nat} {s : Nat → Bool} {l : List Nat} (hs : ∀ j, c ≤ j → s j = false) (hc : c ≤ 30) : wCls C F a b s (30 - c) c T l = wInt T l := by
  rw [wCls_skip (30 - c) c (by omega) (fun j j1 _ => hs j j1), show c + (30 - c) = 30 by omega]; rfl
theorem wCls_some {F : wWt → Nat → Nat → Option (Nat × wWt)} {a b c : Nat} {s : Nat → Bool} {l : List Nat} {p : Nat × wWt} (hc : c < 30) (hs : s c = true) (e : ((wAr2 F T (wLg C T a c) (wLg C T b c)).bind (fun q => wNm q.2 c q.1)) = some p) : wCls C F a b s (30 - c) c T l = wCls C F a b s (30 - (c + 1)) (c + 1) p.2 (l ++ [p.1]) := by
  rw [show 30 - c = (30 - (c + 1)) + 1 by omega, wCls, if_pos hs]
  cases e1 : wAr2 F T (wLg C T a c) (wLg C T b c) with
  | none => rw [e1] at e; cases e
  | some q =>
    rw [e1] at e
    replace e : wNm q.2 c q.1 = some p := e
    show (wNm q.2 c q.1).bind _ = _
    rw [e]; rfl
theorem wCls_none {F : wWt → Nat → Nat → Option (Nat × wWt)} {a b c : Nat} {s : Nat → Bool} {l : List Nat} (hc : c < 30) (hs : s c = true) (e : ((wAr2 F T (wLg C T a c) (wLg C T b c)).bind (fun q => wNm q.2 c q.1)) = none) : wCls C F a b s (30 - c) c T l = none := by
  rw [show 30 - c = (30 - (c + 1)) + 1 by omega, wCls, if_pos hs]
  cases e1 : wAr2 F T (wLg C T a c) (wLg C T b c) with
  | none => rfl
  | some q =>
    rw [e1] at e
    replace e : wNm q.2 c q.1 = none := e
    show (wNm q.2 c q.1).bind _ = _
    rw [e]; rfl
end
theorem p_cls {C : wWc} {g d : Nat} (hrec : ∀ e, d = e + 1 → pRec C g e 101) : ∀ (j c : Nat) (l : List Nat) (h a b : Nat) (s : Nat → Bool) (T : wWt) (σ : StM) (x : Int32) (Q : Int32 × StM → Prop), Wn C - c ≤ j → pFr C g σ T h a b d s c l → M_stage σ h = 2 → h + 1 + 101 * d ≤ 303 → (l ≠ [] ∨ ∃ k, c ≤ k ∧ k < Wn C ∧ s k = true) →
    (∀ σ', pDn σ T h (wCls C (wFd C d) a b s (30 - c) c T l) σ' → pU x Q σ') → pU x Q σ := by
  intro j
  induction j using Nat.strongRecOn with
  | ind j ih =>
    intro c l h a b s T σ x Q hj hF hst hb hne hk
    have hn := hF.1.1.1.2.1
    have hcn : c ≤ Wn C := hF.2.2.2.2.2.2.1.2
    have hat := hF.2.2.2.2.2.2.1.1
    have hsok := hF.2.2.2.2.2.1
    refine p_turn hF.2.1.2 (by omega) hF.2.1.1 (fun q => by rw [hst] at q; exact absurd q (by decide)) (fun q => by rw [hst] at q; exact absurd q (by decide)) (fun _ => ?_) (fun _ _ q => absurd hst q)
    unfold f_M_goOn
    refine p_skip hF (by omega) ?_ 1000 c (M_at σ) (Nat.le_refl c) hcn hat (fun _ _ => rfl) (fun j j1 j2 => by omega)
    intro c' α h0 hF' hS hc' hz
    have hcn' : c' ≤ Wn C := hF'.2.2.2.2.2.2.1.2
    have hgo : pGo σ (M_set_at σ α) (Tn T) h := ⟨⟨⟨rfl, rfl, rfl, rfl⟩, rfl, rfl, rfl, rfl, rfl, rfl, rfl, rfl⟩, kAg_refl _ σ, hS⟩
    have esk : wCls C (wFd C d) a b s (30 - c) c T l = wCls C (wFd C d) a b s (30 - c') c' T l := by
      have := wCls_skip (C := C) (F := wFd C d) (a := a) (b := b) (s := s) (T := T) (l := l) (c' - c) c (by omega) (fun j j1 j2 => hz j j1 (by omega))
      rw [show c + (c' - c) = c' by omega] at this; exact this
    rw [esk] at hk
    by_cases ec : c' = Wn C
    · subst ec
      have hne' : l ≠ [] := by
        rcases hne with w | ⟨k, k1, k2, k3⟩
        · exact w
        · rw [hz k k1 k2] at k3; cases k3
      refine p_44n hF' (by omega) hne' (fun σ' hD => hk σ' ?_)
      rw [wCls_end (fun j hj => ?_) hn]
      · exact pDn_trans hgo (Nat.le_refl _) hD
      · cases e : s j with
        | false => rfl
        | true => have := (hsok j e).1; omega
    · have hsc : s c' = true := by
        rcases hc' with q | q
        · exact absurd q ec
        · exact q
      refine p_44c hrec hF' (by omega) hsc hst hb ?_ ?_
      · intro p τ e g0 g1 g2 g3
        refine ih (Wn C - (c' + 1)) (by omega) (c' + 1) (l ++ [p.1]) h a b s p.2 τ x Q (Nat.le_refl _) g3 g2 hb (Or.inl (by simp)) ?_
        intro σ' hD
        refine hk σ' ?_
        rw [wCls_some (by omega) hsc e]
        exact pDn_trans (pGo_trans hgo g1 (Nat.le_refl _) (Nat.le_refl h)) g0 hD
      · intro τ e g1 g2
        refine hk τ ?_
        rw [wCls_none (by omega) hsc e]
        exact ⟨pGo_trans hgo g1 (Nat.le_refl _) (Nat.le_refl h), g2⟩
