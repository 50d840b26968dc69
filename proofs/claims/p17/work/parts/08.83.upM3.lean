/-! Tier 3: the reference's upper runs to THE UPPER BOUND. -/
section
variable {σ : StM} {C : wWc} {T : wWt} {g : Nat}
theorem p_174 {h a b d : Nat} {x : Int32} {Q : Int32 × StM → Prop} (hrec : ∀ e, d = e + 1 → pRec C g e 101) (hO : wOK C T) (r : rMc σ C g) (q : rMt σ T) (hf : M_full σ = 0) (hh : M_high σ = nI (h + 1)) (el : M_left σ h = nI (kBox a)) (er : M_right σ h = nI (kBox b)) (edp : M_deep σ h = nI d) (esz : M_size σ h = 0) (eat : M_at σ h = 0)
    (ha : a < Tn T) (hb : b < Tn T) (hB : h + 1 + 101 * d ≤ 303)
    (hk : ∀ σ', pDn σ T h (wCls C (wFd C d) a b (wLs2 C T a b) 30 0 T []) σ' → pU x Q σ') :
    k_pc (f_M_begin_174 σ (nI h) (nI (kBox a)) (nI (kBox b))) (fun r => pU x Q r.2) := by
  have hn := hO.1.2.1
  have ht16 := hO.2.1
  have ch : (nI h).toNatClampNeg = h := nI_clamp (by omega)
  unfold f_M_begin_174
  refine p_bind (r_M_commonOf hO r q (kBox_lt ha ht16) (kBox_lt hb ht16)) ?_
  rintro ⟨v, τ⟩ ⟨⟨a', h', g', e⟩, hv⟩
  replace e : τ = mF σ a' h' g' := e
  subst e
  have hv' : ∀ c, c < 32 → bt v c = (fun c => wSee C T a c && wSee C T b c) c := by
    intro c hc
    have w := hv c hc
    unfold wSee at w ⊢
    rw [wLk_kB hO.2, wLk_kB hO.2] at w
    exact w
  refine p_bind (r_M_leastOf (σ := mF σ a' h' g') hO.1 r hv') ?_
  intro r2 hr2
  refine p_guard (fun _ => p_guard (fun _ => p_some ?_))
  show pU x Q (M_put_stage (M_put_least (mF σ a' h' g') (nI h) r2) (nI h) 2)
  have eS : M_put_stage (M_put_least (mF σ a' h' g') (nI h) r2) (nI h) 2 = M_set_stage (M_set_least (mF σ a' h' g') (upd (M_least σ) h r2)) (upd (M_stage σ) h 2) := by
    show M_set_stage (M_set_least (mF σ a' h' g') (upd (M_least σ) (nI h).toNatClampNeg r2)) (upd (M_stage σ) (nI h).toNatClampNeg 2) = _
    rw [ch]
  rw [eS]
  have hgo : pGo σ (M_set_stage (M_set_least (mF σ a' h' g') (upd (M_least σ) h r2)) (upd (M_stage σ) h 2)) (Tn T) h := by
    refine ⟨⟨⟨rfl, rfl, rfl, rfl⟩, rfl, rfl, rfl, rfl, rfl, rfl, rfl, rfl⟩, kAg_refl _ σ, ?_⟩
    intro f hf
    refine ⟨rfl, rfl, rfl, k_u hf, k_u hf, rfl, rfl, fun _ _ => rfl⟩
  obtain ⟨s1, k, k1, k2⟩ := wLs2_ok hO ha hb
  refine p_cls hrec (Wn C) 0 [] h a b (wLs2 C T a b) T _ x Q (by omega) ?_ k_upds hB (Or.inr ⟨k, by omega, k1, k2⟩) ?_
  · refine ⟨⟨hO, r, q⟩, ⟨hf, hh⟩, ⟨el, er, ha, hb⟩, edp, fun e he => ?_, s1, ⟨eat, by omega⟩, esz, wLok_nil T, fun k hk => absurd hk (by simp)⟩
    show bt (upd (M_least σ) h r2 h) e = _
    rw [k_upds]
    exact hr2 e he
  · intro σ' hD
    exact hk σ' (pDn_trans hgo (Nat.le_refl _) hD)
/-- the bound of two ARRAYS' ELEMENTS, and then their ARRAY -/
theorem p_arr {h d f e1 e2 : Nat} {ν : StM} {x : Int32} {Q : Int32 × StM → Prop} (ih : pRec C g d f) (hO : wOK C T) (r : rMc ν C g) (q : rMt ν T) (hf : M_full ν = 0) (hh : M_high ν = nI (h + 1)) (hst : M_stage ν h = 1) (t1 : e1 < Tn T) (t2 : e2 < Tn T) (hm : Tm T e1 < f) (hB : h + 1 + f + 101 * d ≤ 303)
    (hk : ∀ σ', pDn ν T h ((wUb C (wFd C d) f T e1 e2).bind wArr) σ' → pU x Q σ') :
    k_pc ((f_M_ask ν (nI e1) (nI e2) (nI d)).bind fun r3 => some ((0 : Int32), r3.2)) (fun r => pU x Q r.2) := by
  refine p_bind (p_ok (s_M_ask (σ := ν) (h := h + 1) hh (by omega) (nI e1) (nI e2) (nI d))) ?_
  rintro ⟨v3, S⟩ eS
  replace eS : S = mAsk ν (h + 1) (nI e1) (nI e2) (nI d) := eS
  refine p_some ?_
  show pU x Q S
  have go : pGo ν S (Tn T) (h + 1) := by
    rw [eS]
    exact ⟨⟨⟨rfl, rfl, rfl, rfl⟩, mAsk_kA⟩, mAsk_kAg, mAsk_kSt⟩
  refine ih (h + 1) e1 e2 T S x Q hO (rMc_ke r go.1) (by rw [eS]; exact q) (by rw [eS, mAsk_full]; exact hf) (by rw [eS]; exact mAsk_high) (by rw [eS]; exact mAsk_left) (by rw [eS]; exact mAsk_right) (by rw [eS]; exact mAsk_deep) (by rw [eS]; exact mAsk_stage) (by rw [eS]; exact mAsk_size) (by rw [eS]; exact mAsk_at) t1 t2 hm (by omega) ?_
  clear eS
  intro σ' hD
  obtain ⟨dgo, dF⟩ := hD
  have hgo1 : pGo ν σ' (Tn T) (h + 1) := pGo_trans go dgo (Nat.le_refl _) (Nat.le_refl (h + 1))
  have hgo : pGo ν σ' (Tn T) h := ⟨hgo1.1, hgo1.2.1, fun f hf => hgo1.2.2 f (by omega)⟩
  cases eo : wUb C (wFd C d) f T e1 e2 with
  | none =>
    rw [eo] at dF hk
    exact hk σ' ⟨hgo, dF⟩
  | some z =>
    rw [eo] at dF hk
    obtain ⟨f1, f2, f3, f4⟩ := dF
    obtain ⟨z1, z2, z3, _⟩ := wUb_ok (wFd_ok (C := C) d) f T e1 e2 hO t1 t2 z eo
    have hst' : M_stage σ' h = 1 := (hgo1.2.2 h (by omega)).2.2.2.1.trans hst
    refine p_turn f3 (by omega) f1 (fun q => by rw [hst'] at q; exact absurd q (by decide)) (fun _ => ?_) (fun q => by rw [hst'] at q; exact absurd q (by decide)) (fun _ q => absurd hst' q)
    rw [f4]
    refine p_mono (p_addArray (σ := σ') z1 (rMc_ke r hgo.1) f2 f1 z3) ?_
    rintro ⟨v5, τ⟩ ⟨⟨bb, eb⟩, ha, hff⟩
    replace eb : τ = mB σ' bb := eb
    replace ha : kAg (Tn z.2) σ' τ := ha
    have gτ : pGo σ' τ (Tn z.2) h := by
      rw [eb] at ha ⊢
      exact ⟨pKe_mB σ' bb, ha, kSt_refl h σ'⟩
    have eh : M_high τ = nI (h + 1) := by rw [eb]; exact f3
    have eh1 : M_high τ - 1 = nI h := by rw [eh]; exact nI_pred h
    clear eb
    refine p_some ?_
    show pU x Q (M_set_high (M_set_answer τ v5) (M_high τ - 1))
    have g6 : pGo τ (M_set_high (M_set_answer τ v5) (M_high τ - 1)) (Tn z.2) h := ⟨⟨⟨rfl, rfl, rfl, rfl⟩, rfl, rfl, rfl, rfl, rfl, rfl, rfl, rfl⟩, kAg_refl _ τ, kSt_refl h τ⟩
    refine hk _ ⟨pGo_trans hgo (pGo_trans gτ g6 (Nat.le_refl _) (Nat.le_refl h)) z2.1 (Nat.le_refl h), ?_⟩
    show pOu h (wArr z) _
    have ez : wArr (z.1, z.2) = wArr z := rfl
    rw [ez] at hff
    cases eo2 : wArr z with
    | none => rw [eo2] at hff; exact hff.2
    | some y =>
      rw [eo2] at hff
      exact ⟨hff.2.2, hff.2.1, eh1, hff.1⟩
theorem kBox_2 (h : wTok C T) {a : Nat} (_ha : a < Tn T) (e : dK (Ty T (kBox a)) = 2) : kBox a = a := by
  unfold kBox at e ⊢
  split
  · rename_i q
    rw [if_pos q, h.2.2.2 (a + 8) (by omega) (by omega)] at e
    cases e
  · rfl
theorem kBox_3 (h : wTok C T) {a : Nat} (ha : a < Tn T) (e : wAO T a = true) : kBox a = a := by
  obtain ⟨w, _⟩ := wAO_el h ha e
  exact kBox_id (wT_arr h ha w).1
/-- a frame with its ends in boxes, in S -/
theorem p_85 {h a b d f : Nat} {S : StM} {x : Int32} {Q : Int32 × StM → Prop} (hrec : ∀ e, d = e + 1 → pRec C g e 101) (ih : pRec C g d f)
    (eS : M_put_right (M_put_left σ (nI h) (nI (kBox a))) (nI h) (nI (kBox b)) = S) (hO : wOK C T) (r : rMc S C g) (q : rMt S T) (hf : M_full S = 0) (hh : M_high S = nI (h + 1)) (el : M_left S h = nI (kBox a)) (er : M_right S h = nI (kBox b)) (edp : M_deep S h = nI d) (esz : M_size S h = 0) (eat : M_at S h = 0)
    (ha : a < Tn T) (hb : b < Tn T) (hm : Tm T a < f + 1) (hB : h + (f + 1) + 101 * d ≤ 303)
    (hk : ∀ σ', pDn S T h (if wAO T a = true ∧ wAO T b = true then (wUb C (wFd C d) f T (dX (Ty T a)) (dX (Ty T b))).bind wArr else wCls C (wFd C d) a b (wLs2 C T a b) 30 0 T []) σ' → pU x Q σ') :
    k_pc (f_M_begin_85 σ (nI h) (nI (kBox a)) (nI (kBox b))) (fun r => pU x Q r.2) := by
  have ht := hO.2.2.1
  have ht16 := hO.2.1
  have bat := kBox_lt ha ht16
  have bbt := kBox_lt hb ht16
  have ch : (nI h).toNatClampNeg = h := nI_clamp (by omega)
  have ca : (nI (kBox a)).toNatClampNeg = kBox a := nI_clamp (by omega)
  have cb : (nI (kBox b)).toNatClampNeg = kBox b := nI_clamp (by omega)
  have k174 : ¬ (wAO T a = true ∧ wAO T b = true) → k_pc (f_M_begin_174 S (nI h) (nI (kBox a)) (nI (kBox b))) (fun r => pU x Q r.2) := by
    intro hno
    rw [if_neg hno] at hk
    exact p_174 hrec hO r q hf hh el er edp esz eat ha hb (by omega) hk
  have kd : ∀ i, i < Tn T → (M_kind S i = 2 ↔ dK (Ty T i) = 2) := by
    intro i hi
    rw [(q.2 i hi).1]
    show nI _ = nI 2 ↔ _
    rw [nI_eq (by have := wK_lt hO.2 hi; omega) (by decide)]
  unfold f_M_begin_85
  rw [eS]
  clear eS
  refine p_guard (fun _ => p_guard (fun _ => p_guard (fun _ => ?_)))
  rw [ca]
  refine p_if (fun w1 => ?_) (fun w1 => k174 ?_)
  · rw [kd _ bat] at w1
    have ea := kBox_2 hO.2 ha w1
    refine p_guard (fun _ => ?_)
    rw [cb]
    refine p_if (fun w2 => ?_) (fun w2 => k174 ?_)
    · rw [kd _ bbt] at w2
      have eb := kBox_2 hO.2 hb w2
      have ia : M_inner S (kBox a) = nI (dX (Ty T a)) := by
        rw [ea] at w1 ⊢
        rw [(q.2 a ha).2.2.2.1, if_neg (by omega), if_pos w1]
      have ib : M_inner S (kBox b) = nI (dX (Ty T b)) := by
        rw [eb] at w2 ⊢
        rw [(q.2 b hb).2.2.2.1, if_neg (by omega), if_pos w2]
      rw [ea] at w1
      rw [eb] at w2
      obtain ⟨_, xa, ma⟩ := wT_arr hO.2 ha w1
      obtain ⟨_, xb, _⟩ := wT_arr hO.2 hb w2
      refine p_guard (fun _ => p_if (fun w3 => k174 ?_) (fun w3 => ?_))
      · have w4 : nI (dX (Ty T a)) ≤ nI 7 := by rw [← ia]; exact w3
        rw [nI_leI (by omega) (by decide)] at w4
        rintro ⟨z, _⟩
        have := (wAO_el hO.2 ha z).2.1
        omega
      · refine p_guard (fun _ => p_if (fun w4 => k174 ?_) (fun w4 => ?_))
        · have w5 : nI (dX (Ty T b)) ≤ nI 7 := by rw [← ib]; exact w4
          rw [nI_leI (by omega) (by decide)] at w5
          rintro ⟨_, z⟩
          have := (wAO_el hO.2 hb z).2.1
          omega
        · have v3 : ¬ nI (dX (Ty T a)) ≤ nI 7 := by rw [← ia]; exact w3
          have v4 : ¬ nI (dX (Ty T b)) ≤ nI 7 := by rw [← ib]; exact w4
          rw [nI_leI (by omega) (by decide)] at v3 v4
          have hao : wAO T a = true ∧ wAO T b = true := by
            unfold wAO
            rw [decide_eq_true w1, decide_eq_true w2, decide_eq_true (show 8 ≤ dX (Ty T a) by omega), decide_eq_true (show 8 ≤ dX (Ty T b) by omega)]
            exact ⟨rfl, rfl⟩
          rw [if_pos hao] at hk
          refine p_guard (fun _ => p_guard (fun _ => p_guard (fun _ => p_guard (fun _ => ?_))))
          have eT : M_put_stage S (nI h) 1 = M_set_stage S (upd (M_stage S) h 1) := by
            show M_set_stage S (upd (M_stage S) (nI h).toNatClampNeg 1) = _
            rw [ch]
          rw [eT, ch]
          have t1 : M_inner (M_set_stage S (upd (M_stage S) h 1)) (kBox a) = nI (dX (Ty T a)) := ia
          have t2 : M_inner (M_set_stage S (upd (M_stage S) h 1)) (kBox b) = nI (dX (Ty T b)) := ib
          have t3 : M_deep (M_set_stage S (upd (M_stage S) h 1)) h = nI d := edp
          have t4 : rMc (M_set_stage S (upd (M_stage S) h 1)) C g := r
          have t4' : rMt (M_set_stage S (upd (M_stage S) h 1)) T := q
          have t5 : M_full (M_set_stage S (upd (M_stage S) h 1)) = 0 := hf
          have t6 : M_high (M_set_stage S (upd (M_stage S) h 1)) = nI (h + 1) := hh
          have t7 : M_stage (M_set_stage S (upd (M_stage S) h 1)) h = 1 := k_upds
          have t9 : pGo S (M_set_stage S (upd (M_stage S) h 1)) (Tn T) h := by
            refine ⟨⟨⟨rfl, rfl, rfl, rfl⟩, rfl, rfl, rfl, rfl, rfl, rfl, rfl, rfl⟩, kAg_refl _ S, ?_⟩
            intro f hf
            exact ⟨rfl, rfl, rfl, k_u hf, rfl, rfl, rfl, fun _ _ => rfl⟩
          rw [t1, t2, t3]
          clear t1 t2 t3 eT
          revert t4 t4' t5 t6 t7 t9
          generalize M_set_stage S (upd (M_stage S) h 1) = ν
          intro t4 t4' t5 t6 t7 t9
          refine p_arr ih hO t4 t4' t5 t6 t7 (by omega) (by omega) (by omega) (by omega) ?_
          intro σ' hD
          exact hk σ' (pDn_trans t9 (Nat.le_refl _) hD)
    · rintro ⟨_, z⟩
      have e := kBox_3 hO.2 hb z
      exact w2 ((kd _ bbt).mpr (by rw [e]; exact (wAO_el hO.2 hb z).1))
  · rintro ⟨z, _⟩
    have e := kBox_3 hO.2 ha z
    exact w1 ((kd _ bat).mpr (by rw [e]; exact (wAO_el hO.2 ha z).1))
end
theorem p_run1 {C : wWc} {g d : Nat} (hrec : ∀ e, d = e + 1 → pRec C g e 101) : ∀ f, pRec C g d f := by
  intro f
  induction f with
  | zero =>
    intro h a b T σ x Q _ _ _ _ _ _ _ _ _ _ _ _ _ hm _ _
    omega
  | succ f ih =>
    intro h a b T σ x Q hO r q hf hh el er edp est esz eat ha hb hm hB hk
    have ht := hO.2.2.1
    have ht16 := hO.2.1
    have ch : (nI h).toNatClampNeg = h := nI_clamp (by omega)
    rw [wUb] at hk
    refine p_turn hh (by omega) hf (fun _ => ?_) (fun q => by rw [est] at q; exact absurd q (by decide)) (fun q => by rw [est] at q; exact absurd q (by decide)) (fun q => absurd est q)
    have k85 : ¬ a = b → k_pc (f_M_begin_85 σ (nI h) (nI (kBox a)) (nI (kBox b))) (fun r => pU x Q r.2) := by
      intro hab
      rw [if_neg hab] at hk
      have eS : M_put_right (M_put_left σ (nI h) (nI (kBox a))) (nI h) (nI (kBox b)) = M_set_right (M_set_left σ (upd (M_left σ) h (nI (kBox a)))) (upd (M_right σ) h (nI (kBox b))) := by
        show M_set_right (M_set_left σ (upd (M_left σ) (nI h).toNatClampNeg (nI (kBox a)))) (upd (M_right σ) (nI h).toNatClampNeg (nI (kBox b))) = _
        rw [ch]
      have hgoS : pGo σ (M_set_right (M_set_left σ (upd (M_left σ) h (nI (kBox a)))) (upd (M_right σ) h (nI (kBox b)))) (Tn T) h := by
        refine ⟨⟨⟨rfl, rfl, rfl, rfl⟩, rfl, rfl, rfl, rfl, rfl, rfl, rfl, rfl⟩, kAg_refl _ σ, ?_⟩
        intro f hf
        exact ⟨k_u hf, k_u hf, rfl, rfl, rfl, rfl, rfl, fun _ _ => rfl⟩
      refine p_85 hrec ih eS hO r q hf hh k_upds k_upds edp esz eat ha hb hm hB ?_
      intro σ' hD
      exact hk σ' (pDn_trans hgoS (Nat.le_refl _) hD)
    have k55 : ¬ a = b → k_pc (f_M_begin_55 σ (nI h) (nI (kBox a))) (fun r => pU x Q r.2) := by
      intro hab
      have k85 := k85 hab
      unfold f_M_begin_55
      refine p_guard (fun _ => ?_)
      rw [ch, er]
      refine p_if (fun q => ?_) (fun q => ?_)
      · have q2 : nI 8 ≤ nI b := q
        rw [nI_leI (by decide) (by omega)] at q2
        rw [kBox_id q2] at k85
        exact p_guard (fun _ => k85)
      · have q2 : ¬ nI 8 ≤ nI b := q
        rw [nI_leI (by decide) (by omega)] at q2
        have e : nI b + 8 = nI (kBox b) := by rw [show kBox b = b + 8 from if_pos (by omega)]; exact nI_add b 8
        rw [e]
        exact p_guard (fun _ => k85)
    unfold f_M_begin
    refine p_guard (fun _ => p_guard (fun _ => ?_))
    rw [ch, el, er]
    refine p_if (fun w => ?_) (fun w => ?_)
    · rw [nI_eq (by omega) (by omega)] at w
      rw [if_pos w] at hk
      refine p_guard (fun _ => ?_)
      refine p_bind (P := fun r => r.2 = M_set_high (M_set_answer σ (nI a)) (M_high σ - 1)) (p_some rfl) ?_
      rintro ⟨v6, τ6⟩ e6
      replace e6 : τ6 = M_set_high (M_set_answer σ (nI a)) (M_high σ - 1) := e6
      have eh1 : M_high σ - 1 = nI h := by rw [hh]; exact nI_pred h
      refine p_some (hk τ6 ⟨?_, ?_⟩)
      · rw [e6]
        exact ⟨⟨⟨rfl, rfl, rfl, rfl⟩, rfl, rfl, rfl, rfl, rfl, rfl, rfl, rfl⟩, kAg_refl _ σ, kSt_refl h σ⟩
      · rw [e6]
        exact ⟨hf, q, eh1, rfl⟩
    · rw [nI_eq (by omega) (by omega)] at w
      have k55 := k55 w
      refine p_guard (fun _ => p_if (fun q => ?_) (fun q => ?_))
      · have q2 : nI 8 ≤ nI a := q
        rw [nI_leI (by decide) (by omega)] at q2
        rw [kBox_id q2] at k55
        exact p_guard (fun _ => k55)
      · have q2 : ¬ nI 8 ≤ nI a := q
        rw [nI_leI (by decide) (by omega)] at q2
        have e : nI a + 8 = nI (kBox a) := by rw [show kBox a = a + 8 from if_pos (by omega)]; exact nI_add a 8
        rw [e]
        exact p_guard (fun _ => k55)
theorem p_run {C : wWc} {g : Nat} : ∀ d, pRec C g d 101 := by
  intro d
  induction d with
  | zero => exact p_run1 (fun e q => by omega) 101
  | succ d ih =>
    refine p_run1 (fun e q => ?_) 101
    have ee : e = d := by omega
    subst ee
    exact ih
