/-! The reference: upper. -/
theorem kTm_cls {n d : Nat} (hn : n ≤ 30) (hd : d ≤ 2) : 1 + n * kTw d ≤ kTm d := by
  rcases (show d = 0 ∨ d = 1 ∨ d = 2 by omega) with e | e | e
  · subst e; show 1 + n * 1 ≤ 40; omega
  · subst e; show 1 + n * 242 ≤ 7300; omega
  · subst e; show 1 + n * 7502 ≤ 226000; omega
theorem kBox_8 (i : Nat) : 8 ≤ kBox i := by unfold kBox; split <;> omega
theorem kBox_lt {i t : Nat} (hi : i < t) (ht : 16 ≤ t) : kBox i < t := by unfold kBox; split <;> omega
theorem kBox_id {i : Nat} (h : 8 ≤ i) : kBox i = i := if_neg (by omega)
section
variable {σ : StM} {n t : Nat}
/-- a bound by classes: the frame comes to stage 2 -/
theorem up_174 {h a b d F : Nat} {x : Int32} {Q : Int32 × StM → Prop} (hd : d ≤ 2) (hrec : 0 < d → kUpR n (d - 1)) (hM : kM σ n t) (hf : M_full σ = 0) (hh : M_high σ = nI (h + 1)) (el : M_left σ h = nI a) (er : M_right σ h = nI b) (edp : M_deep σ h = nI d) (esz : M_size σ h = 0) (eat : M_at σ h = 0)
    (a8 : 8 ≤ a) (at' : a < t) (b8 : 8 ≤ b) (bt' : b < t) (hb : h + 101 * d ≤ 309)
    (hk : ∀ σ', kDone n σ t h True σ' → k_ok (f_M_upper_50 F σ' x) Q) :
    k_ok (f_M_begin_174 σ (nI h) (nI a) (nI b)) (fun r => k_ok (f_M_upper_50 (F + kTm d) r.2 x) Q) := by
  have hn := hM.1.2.2.1
  have ix : ¬ (nI h < 0 ∨ 500 ≤ (nI h).toNatClampNeg) := nI_in (by omega) (by decide)
  have ch : (nI h).toNatClampNeg = h := nI_clamp (by omega)
  unfold f_M_begin_174
  refine k_bind (s_M_commonOf hM at' bt') ?_
  rintro ⟨v, τ⟩ ⟨⟨a', h', g', e⟩, hv⟩
  replace e : τ = mF σ a' h' g' := e
  subst e
  replace hv : ∀ c, c < 32 → bt v c = true → c < n ∧ kSees σ (kBox a) c ∧ kSees σ (kBox b) c := hv
  rw [kBox_id a8, kBox_id b8] at hv
  refine k_bind (P := fun r => ∀ c, c < 32 → bt r c = true → bt v c = true) ?_ ?_
  · unfold f_M_leastOf
    exact s_M_leastOf_4 (σ := mF σ a' h' g') hM.1 v 1000 0 v (by omega) (by omega)
  intro r2 hr2
  refine k_guard ix (k_guard ix (k_some ?_))
  show k_ok (f_M_upper_50 (F + kTm d) (M_put_stage (M_put_least (mF σ a' h' g') (nI h) r2) (nI h) 2) x) Q
  have eS : M_put_stage (M_put_least (mF σ a' h' g') (nI h) r2) (nI h) 2 = M_set_stage (M_set_least (mF σ a' h' g') (upd (M_least σ) h r2)) (upd (M_stage σ) h 2) := by
    show M_set_stage (M_set_least (mF σ a' h' g') (upd (M_least σ) (nI h).toNatClampNeg r2)) (upd (M_stage σ) (nI h).toNatClampNeg 2) = _
    rw [ch]
  rw [eS]
  have hgo : kGo σ (M_set_stage (M_set_least (mF σ a' h' g') (upd (M_least σ) h r2)) (upd (M_stage σ) h 2)) t h := by
    refine ⟨⟨rfl, rfl, rfl, rfl, rfl, rfl, rfl, rfl⟩, kAg_refl t σ, ?_⟩
    intro f hf
    refine ⟨rfl, rfl, rfl, k_u hf, k_u hf, rfl, rfl, fun _ _ => rfl⟩
  have hc := kTm_cls hn hd
  refine up_more (f := F + (1 + n * kTw d)) (by omega) ?_
  refine up_cls hd hrec n 0 0 F a b h t _ x Q (by omega) ?_ k_upds hb ?_
  · refine ⟨hM, hf, hh, ⟨el, er, a8, at', b8, bt'⟩, edp, ?_, eat, by omega, esz, by omega, fun k hk => by omega⟩
    intro e he hx
    have hx' : bt (upd (M_least σ) h r2 h) e = true := hx
    rw [k_upds] at hx'
    exact hv e he (hr2 e he hx')
  · intro σ' hD
    exact hk σ' (kDone_trans hgo (Nat.le_refl t) (fun z => z) hD)
end
theorem up_run1 {n d : Nat} (hd : d ≤ 2) (hrec : 0 < d → kUpR n (d - 1)) : kUpR n d := by
  intro m
  induction m with
  | zero =>
    intro F a b h t σ x Q hM hf hh el er edp est esz eat at' bt' em hm hb hk
    obtain ⟨⟨m, m1, m2, m3⟩, _⟩ := hM.2.2.2.2.1 a at'
    rw [show M_made σ a = nI m from m3, nI_eq (by omega) (by omega)] at em
    omega
  | succ m ih =>
    intro F a b h t σ x Q hM hf hh el er edp est esz eat at' bt' em hm hb hk
    have hn := hM.1.2.2.1
    have ht := hM.2.2.2.1
    have ht16 := hM.2.2.1
    have ix : ¬ (nI h < 0 ∨ 500 ≤ (nI h).toNatClampNeg) := nI_in (by omega) (by decide)
    have ch : (nI h).toNatClampNeg = h := nI_clamp (by omega)
    have ix' : ¬ (nI h < 0 ∨ 500 ≤ h) := by rw [ch] at ix; exact ix
    have ef : F + (2 * (m + 1) + kTm d) = (F + 1 + (2 * m + kTm d)) + 1 := by omega
    rw [ef]
    refine up_turn hh (by omega) hf (fun _ => ?_) (fun q => by rw [est] at q; exact absurd q (by decide)) (fun q => by rw [est] at q; exact absurd q (by decide)) (fun q => absurd est q)
    refine k_bind (P := fun r => k_ok (f_M_upper_50 (F + 1 + (2 * m + kTm d)) r.2 x) Q) ?_ (fun r hr => hr)
    have ba8 := kBox_8 a
    have bb8 := kBox_8 b
    have bat := kBox_lt at' ht16
    have bbt := kBox_lt bt' ht16
    -- the frame with boxed ends
    have k85 : k_ok (f_M_begin_85 σ (nI h) (nI (kBox a)) (nI (kBox b))) (fun r => k_ok (f_M_upper_50 (F + 1 + (2 * m + kTm d)) r.2 x) Q) := by
      have ia : ¬ (nI (kBox a) < 0 ∨ 300 ≤ (nI (kBox a)).toNatClampNeg) := nI_in (by omega) (by decide)
      have ib : ¬ (nI (kBox b) < 0 ∨ 300 ≤ (nI (kBox b)).toNatClampNeg) := nI_in (by omega) (by decide)
      have ca : (nI (kBox a)).toNatClampNeg = kBox a := nI_clamp (by omega)
      have cb : (nI (kBox b)).toNatClampNeg = kBox b := nI_clamp (by omega)
      have eS : M_put_right (M_put_left σ (nI h) (nI (kBox a))) (nI h) (nI (kBox b)) = M_set_right (M_set_left σ (upd (M_left σ) h (nI (kBox a)))) (upd (M_right σ) h (nI (kBox b))) := by
        show M_set_right (M_set_left σ (upd (M_left σ) (nI h).toNatClampNeg (nI (kBox a)))) (upd (M_right σ) (nI h).toNatClampNeg (nI (kBox b))) = _
        rw [ch]
      unfold f_M_begin_85
      rw [eS]
      have hgoS : kGo σ (M_set_right (M_set_left σ (upd (M_left σ) h (nI (kBox a)))) (upd (M_right σ) h (nI (kBox b)))) t h := by
        refine ⟨⟨rfl, rfl, rfl, rfl, rfl, rfl, rfl, rfl⟩, kAg_refl t σ, ?_⟩
        intro f hf
        exact ⟨k_u hf, k_u hf, rfl, rfl, rfl, rfl, rfl, fun _ _ => rfl⟩
      have k174 : k_ok (f_M_begin_174 (M_set_right (M_set_left σ (upd (M_left σ) h (nI (kBox a)))) (upd (M_right σ) h (nI (kBox b)))) (nI h) (nI (kBox a)) (nI (kBox b))) (fun r => k_ok (f_M_upper_50 (F + 1 + (2 * m + kTm d)) r.2 x) Q) := by
        refine k_mono (up_174 (F := F) (x := x) (Q := Q) (d := d) hd hrec hM hf hh k_upds k_upds edp esz eat ba8 bat bb8 bbt (by omega) ?_) ?_
        · intro σ' hD
          exact hk σ' (kDone_trans hgoS (Nat.le_refl t) (fun _ => trivial) hD)
        · intro r hr
          exact up_more (by omega) hr
      refine k_guard ix (k_guard ix (k_guard ia ?_))
      rw [ca]
      refine k_if (fun w1 => ?_) (fun _ => k174)
      refine k_guard ib ?_
      rw [cb]
      refine k_if (fun w2 => ?_) (fun _ => k174)
      have ia' : ¬ (nI (kBox a) < 0 ∨ 300 ≤ kBox a) := by rw [ca] at ia; exact ia
      have ib' : ¬ (nI (kBox b) < 0 ∨ 300 ≤ kBox b) := by rw [cb] at ib; exact ib
      refine k_guard ia' (k_if (fun _ => k174) (fun w3 => ?_))
      refine k_guard ib' (k_if (fun _ => k174) (fun w4 => ?_))
      refine k_guard ix (k_guard ia' (k_guard ib' (k_guard ix ?_)))
      replace w1 : M_kind σ (kBox a) = 2 := w1
      replace w2 : M_kind σ (kBox b) = 2 := w2
      replace w3 : ¬ M_inner σ (kBox a) ≤ 7 := w3
      replace w4 : ¬ M_inner σ (kBox b) ≤ 7 := w4
      have ea : kBox a = a := by
        unfold kBox
        split
        · rename_i q
          exfalso
          have z := hM.2.2.2.2.2 (a + 8) (by omega) (by omega)
          rw [show kBox a = a + 8 from if_pos q, z] at w1
          exact absurd w1 (by decide)
        · rfl
      obtain ⟨e1, m1, e1a, ei1, em1, em2⟩ := kTyp_array hM.2.2 bat w1
      obtain ⟨e2, m2, e2b, ei2, _, _⟩ := kTyp_array hM.2.2 bbt w2
      have em1' : M_made σ e1 = nI m := by
        obtain ⟨⟨mm, mm1, mm2, mm3⟩, _⟩ := hM.2.2.2.2.1 e1 (by omega)
        replace mm3 : M_made σ e1 = nI mm := mm3
        have e3 : nI m1 = nI mm := em1.symm.trans mm3
        have em2' : M_made σ a = nI (m1 + 1) := by rw [← ea]; exact em2
        rw [em2', ← nI_1, e3, nI_1, nI_eq (by omega) (by omega)] at em
        rw [mm3, show mm = m by omega]
      have e18 : 8 ≤ e1 := by
        have q : ¬ nI e1 ≤ nI 7 := by rw [← ei1]; exact w3
        rw [nI_leI (by omega) (by decide)] at q
        omega
      have e28 : 8 ≤ e2 := by
        have q : ¬ nI e2 ≤ nI 7 := by rw [← ei2]; exact w4
        rw [nI_leI (by omega) (by decide)] at q
        omega
      have eT : M_put_stage (M_set_right (M_set_left σ (upd (M_left σ) h (nI (kBox a)))) (upd (M_right σ) h (nI (kBox b)))) (nI h) 1 = M_set_stage (M_set_right (M_set_left σ (upd (M_left σ) h (nI (kBox a)))) (upd (M_right σ) h (nI (kBox b)))) (upd (M_stage σ) h 1) := by
        show M_set_stage (M_set_right (M_set_left σ (upd (M_left σ) h (nI (kBox a)))) (upd (M_right σ) h (nI (kBox b)))) (upd (M_stage σ) (nI h).toNatClampNeg 1) = _
        rw [ch]
      rw [eT, ch]
      generalize hT : M_set_stage (M_set_right (M_set_left σ (upd (M_left σ) h (nI (kBox a)))) (upd (M_right σ) h (nI (kBox b)))) (upd (M_stage σ) h 1) = T
      have t1 : M_inner T (kBox a) = nI e1 := by rw [← hT]; exact ei1
      have t2 : M_inner T (kBox b) = nI e2 := by rw [← hT]; exact ei2
      have t3 : M_deep T h = nI d := by rw [← hT]; exact edp
      rw [t1, t2, t3]
      refine k_bind (s_M_ask (σ := T) (h := h + 1) (by rw [← hT]; exact hh) (by omega) (nI e1) (nI e2) (nI d)) ?_
      rintro ⟨v3, S⟩ eAS
      replace eAS : S = mAsk T (h + 1) (nI e1) (nI e2) (nI d) := eAS
      refine k_some ?_
      show k_ok (f_M_upper_50 (F + 1 + (2 * m + kTm d)) S x) Q
      refine ih (F + 1) e1 e2 (h + 1) t S x Q (by rw [eAS, ← hT]; exact hM) (by rw [eAS, ← hT]; exact hf) (by rw [eAS]; rfl) (by rw [eAS]; exact k_upds) (by rw [eAS]; exact k_upds) (by rw [eAS]; exact k_upds) (by rw [eAS]; exact k_upds) (by rw [eAS]; exact k_upds) (by rw [eAS]; exact k_upds) (by omega) (by omega) (by rw [eAS, ← hT]; exact em1') (by omega) (by omega) ?_
      intro σ' hD
      obtain ⟨⟨dA, dG, dS⟩, dF⟩ := hD
      have hA : kA σ σ' := by
        refine kA_trans ?_ dA
        rw [eAS, ← hT]; exact ⟨rfl, rfl, rfl, rfl, rfl, rfl, rfl, rfl⟩
      have hG : kAg t σ σ' := by
        refine kAg_trans (t' := t) ?_ dG (Nat.le_refl t)
        rw [eAS, ← hT]; exact kAg_refl t σ
      have hgo : kGo σ σ' t h := by
        refine ⟨hA, hG, ?_⟩
        intro f hf
        obtain ⟨b1, b2, b3, b4, b5, b6, b7, b8⟩ := dS f (by omega)
        refine ⟨b1.trans ?_, b2.trans ?_, b3.trans ?_, b4.trans ?_, b5.trans ?_, b6.trans ?_, b7.trans ?_, fun k hk => (b8 k hk).trans ?_⟩
        · rw [eAS, ← hT]; show upd (upd (M_left σ) h _) (h + 1) _ f = _; rw [k_u (by omega), k_u hf]
        · rw [eAS, ← hT]; show upd (upd (M_right σ) h _) (h + 1) _ f = _; rw [k_u (by omega), k_u hf]
        · rw [eAS, ← hT]; show upd (M_deep σ) (h + 1) _ f = _; rw [k_u (by omega)]
        · rw [eAS, ← hT]; show upd (upd (M_stage σ) h _) (h + 1) _ f = _; rw [k_u (by omega), k_u hf]
        · rw [eAS, ← hT]; rfl
        · rw [eAS, ← hT]; show upd (M_at σ) (h + 1) _ f = _; rw [k_u (by omega)]
        · rw [eAS, ← hT]; show upd (M_size σ) (h + 1) _ f = _; rw [k_u (by omega)]
        · rw [eAS, ← hT]; rfl
      by_cases hfl : M_full σ' = 0
      · obtain ⟨t', v, z1, z2, z3, z4, z5, _⟩ := dF hfl
        have hst : M_stage σ' h = 1 := by
          refine (dS h (by omega)).2.2.2.1.trans ?_
          rw [eAS, ← hT]
          show upd (upd (M_stage σ) h 1) (h + 1) 0 h = _
          rw [k_u (by omega), k_upds]
        refine up_turn z3 (by omega) hfl (fun q => by rw [hst] at q; exact absurd q (by decide)) (fun _ => ?_) (fun q => by rw [hst] at q; exact absurd q (by decide)) (fun _ q => absurd hst q)
        rw [z4]
        refine k_bind (s_M_addArray (σ := σ') z2 z5) ?_
        rintro ⟨v5, τ⟩ hr
        obtain ⟨⟨bb, eb⟩, ha, hff⟩ := hr
        replace eb : τ = mB σ' bb := eb
        replace ha : kAg t' σ' τ := ha
        refine k_bind (P := fun r => r.2 = M_set_high (M_set_answer τ v5) (M_high τ - 1)) (k_some rfl) ?_
        rintro ⟨v6, τ6⟩ e6
        replace e6 : τ6 = M_set_high (M_set_answer τ v5) (M_high τ - 1) := e6
        refine hk τ6 ⟨kGo_trans hgo (t' := t') (h' := h) ?_ z1 (Nat.le_refl h), fun q => ?_⟩
        · rw [e6, eb]
          refine ⟨⟨rfl, rfl, rfl, rfl, rfl, rfl, rfl, rfl⟩, ?_, kSt_refl h σ'⟩
          rw [eb] at ha; exact ha
        · have q' : M_full τ = 0 := by rw [e6] at q; exact q
          obtain ⟨i, t2', y1, y2, y3, y4, y5⟩ := hff q'
          replace y2 : kM τ n t2' := y2
          replace y5 : M_kind τ i = 2 := y5
          refine ⟨t2', i, by omega, by rw [e6]; exact y2, ?_, by rw [e6]; exact y3, y4, fun _ => kTyp_ge8 y2.2.2 y4 (by rw [y5]; decide)⟩
          rw [e6]
          show M_high τ - 1 = nI h
          rw [eb]
          show M_high σ' - 1 = nI h
          rw [z3]; exact nI_pred h
      · exact up_more (f := F) (by omega) (hk σ' ⟨hgo, fun q => absurd q hfl⟩)
    have k55 : k_ok (f_M_begin_55 σ (nI h) (nI (kBox a))) (fun r => k_ok (f_M_upper_50 (F + 1 + (2 * m + kTm d)) r.2 x) Q) := by
      unfold f_M_begin_55
      refine k_guard ix ?_
      rw [ch, er]
      refine k_if (fun q => ?_) (fun q => ?_)
      · have q2 : nI 8 ≤ nI b := q
        rw [nI_leI (by decide) (by omega)] at q2
        have e := kBox_id q2
        rw [e] at k85
        exact k_guard ix' k85
      · have q2 : ¬ nI 8 ≤ nI b := q
        rw [nI_leI (by decide) (by omega)] at q2
        have e : nI b + 8 = nI (kBox b) := by rw [show kBox b = b + 8 from if_pos (by omega)]; exact nI_add b 8
        rw [e]
        exact k_guard ix' k85
    unfold f_M_begin
    refine k_guard ix (k_guard ix ?_)
    rw [ch, el, er]
    refine k_if (fun q => ?_) (fun _ => ?_)
    · rw [nI_eq (by omega) (by omega)] at q
      refine k_guard ix' ?_
      refine k_bind (P := fun r => r.2 = M_set_high (M_set_answer σ (nI a)) (M_high σ - 1)) (k_some rfl) ?_
      rintro ⟨v6, τ6⟩ e6
      replace e6 : τ6 = M_set_high (M_set_answer σ (nI a)) (M_high σ - 1) := e6
      refine k_some (up_more (f := F) (by omega) (hk τ6 ?_))
      rw [e6]
      refine ⟨⟨⟨rfl, rfl, rfl, rfl, rfl, rfl, rfl, rfl⟩, kAg_refl t σ, kSt_refl h σ⟩, fun _ => ⟨t, a, Nat.le_refl t, hM, ?_, rfl, at', fun w => w.1⟩⟩
      show M_high σ - 1 = nI h
      rw [hh]; exact nI_pred h
    · refine k_guard ix' (k_if (fun q => ?_) (fun q => ?_))
      · have q2 : nI 8 ≤ nI a := q
        rw [nI_leI (by decide) (by omega)] at q2
        have e := kBox_id q2
        rw [e] at k55
        exact k_guard ix' k55
      · have q2 : ¬ nI 8 ≤ nI a := q
        rw [nI_leI (by decide) (by omega)] at q2
        have e : nI a + 8 = nI (kBox a) := by rw [show kBox a = a + 8 from if_pos (by omega)]; exact nI_add a 8
        rw [e]
        exact k_guard ix' k55
theorem up_run {n : Nat} : ∀ d, d ≤ 2 → kUpR n d := by
  intro d
  induction d with
  | zero => exact fun hd => up_run1 hd (fun q => by omega)
  | succ d ih => exact fun hd => up_run1 hd (fun _ => ih (by omega))
theorem s_M_upper {σ : StM} {n g d t : Nat} (h : kN σ n g d t) (x1 x2 : Int32) : k_ok (f_M_upper σ x1 x2) (kPub n g d) := by
  have ht := h.1.2.2.2.1
  have hd := h.2.2.2.2.2
  have et : M_types σ = nI t := h.1.2.1
  have bad : k_ok (f_M_upper_22 σ x1 x2 1) (kPub n g d) := by
    unfold f_M_upper_22
    refine k_good (fun q => absurd q (by decide)) (fun _ => ?_)
    exact k_if (fun _ => k_some ⟨t, h⟩) (fun q => absurd rfl q)
  unfold f_M_upper f_M_upper_21
  refine k_if (fun _ => bad) (fun w1 => k_if (fun _ => bad) (fun w2 => ?_))
  obtain ⟨a, ha, rfl⟩ := kM_type h.1.2 w1
  obtain ⟨b, hb, rfl⟩ := kM_type h.1.2 w2
  unfold f_M_upper_22
  refine k_good (fun _ => ?_) (fun q => absurd rfl q)
  refine k_if (fun q => absurd q k_10) (fun _ => ?_)
  refine k_bind (s_M_ask (σ := M_set_high (M_set_code σ 0) 0) (h := 0) rfl (by omega) (nI a) (nI b) (M_depth σ)) ?_
  rintro ⟨v, S⟩ eS
  replace eS : S = mAsk (M_set_high (M_set_code σ 0) 0) 0 (nI a) (nI b) (M_depth σ) := eS
  show k_ok (f_M_upper_50 1000000 S (M_types σ)) _
  rw [et]
  obtain ⟨⟨m, m1, m2, m3⟩, _⟩ := h.1.2.2.2.2.1 a ha
  have hkt : kTm d ≤ 226000 := by
    rcases (show d = 0 ∨ d = 1 ∨ d = 2 by omega) with e | e | e
    · subst e; decide
    · subst e; decide
    · subst e; decide
  refine up_more (f := 1 + (2 * m + kTm d)) (by omega) ?_
  refine up_run d hd m 1 a b 0 t S (nI t) (kPub n g d) (by rw [eS]; exact h.1) (by rw [eS]; exact h.2.2.2.1) (by rw [eS]; rfl) (by rw [eS]; exact k_upds) (by rw [eS]; exact k_upds) ?_ (by rw [eS]; exact k_upds) (by rw [eS]; exact k_upds) (by rw [eS]; exact k_upds) ha hb (by rw [eS]; exact m3) m2 (by omega) ?_
  · rw [eS]
    show upd (M_deep σ) 0 (M_depth σ) 0 = nI d
    rw [k_upds]; exact h.2.2.2.2.1
  · intro σ' hD
    obtain ⟨⟨dA, dG, _⟩, dF⟩ := hD
    have hA : kA σ σ' := by
      refine kA_trans ?_ dA
      rw [eS]; exact ⟨rfl, rfl, rfl, rfl, rfl, rfl, rfl, rfl⟩
    have hG : kAg t σ σ' := by
      refine kAg_trans (t' := t) ?_ dG (Nat.le_refl t)
      rw [eS]; exact kAg_refl t σ
    obtain ⟨A1, A2, A3, A4, A5, A6, A7, A8⟩ := hA
    have k170 : k_ok (f_M_upper_170 σ' (nI t)) (kPub n g d) := by
      unfold f_M_upper_170 f_M_end
      refine k_bind (P := kPub n g d) ?_ (fun r hr => k_some hr)
      refine k_if (fun q => ?_) (fun q => ?_)
      · obtain ⟨t', v', z1, z2, _⟩ := dF q
        exact k_some ⟨t', z2, A1.trans h.2.1, h.2.2.1, q, A2.trans h.2.2.2.2.1, hd⟩
      · refine k_some ⟨t, ⟨⟨A3.trans h.1.1.1, ?_⟩, kMT_ag (σ := σ) (τ := M_set_code (M_set_full (M_set_types σ' (nI t)) 0) 2) h.1.2 A4 hG rfl⟩, A1.trans h.2.1, h.2.2.1, rfl, A2.trans h.2.2.2.2.1, hd⟩
        show kCls n t (M_generic σ') (M_directs σ') (M_directTo σ') (M_directArg σ') (M_over σ')
        rw [A4, A5, A6, A7, A8]; exact h.1.1.2
    rw [show (1 : Nat) = 0 + 1 from rfl, f_M_upper_50]
    unfold f_M_upper_50_s
    refine k_if (fun _ => k170) (fun q => k_if (fun q2 => ?_) (fun _ => k170))
    obtain ⟨t', v', z1, z2, z3, _⟩ := dF q2
    exfalso
    apply q
    rw [z3]; decide
