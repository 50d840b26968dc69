/-! The reference: upper. -/
theorem kTm_cls {n d : Nat} (hn : n ≤ 30) (hd : d ≤ 2) : 1 + n * kTw d ≤ kTm d := by
  rcases (show d = 0 ∨ d = 1 ∨ d = 2 by omega) with e | e | e
  · subst e; show 1 + n * 1 ≤ 40; omega
  · subst e; show 1 + n * 242 ≤ 7300; omega
  · subst e; show 1 + n * 7502 ≤ 226000; omega
theorem kBox_8 (i : Nat) : 8 ≤ kBox i := by unfold kBox; split <;> omega
theorem kBox_lt {i t : Nat} (hi : i < t) (ht : 16 ≤ t) : kBox i < t := by unfold kBox; split <;> omega
theorem kBox_id {i : Nat} (h : 8 ≤ i) : kBox i = i := if_neg (by omega)
section
variable {σ : StM} {n t : Nat}
/-- a bound by classes: the frame comes to stage 2 -/
theorem up_174 {h a b d F : Nat} {x : Int32} {Q : Int32 × StM → Prop} (hd : d ≤ 2) (hrec : 0 < d → kUpR n (d - 1)) (hM : kM σ n t) (hf : M_full σ = 0) (hh : M_high σ = nI (h + 1)) (el : M_left σ h = nI a) (er : M_right σ h = nI b) (edp : M_deep σ h = nI d) (esz : M_size σ h = 0) (eat : M_at σ h = 0)
    (a8 : 8 ≤ a) (at' : a < t) (b8 : 8 ≤ b) (bt' : b < t) (hb : h + 101 * d ≤ 309)
    (hk : ∀ σ', kDone n σ t h True σ' → k_ok (f_M_upper_50 F σ' x) Q) :
    k_ok (f_M_begin_174 σ (nI h) (nI a) (nI b)) (fun r => k_ok (f_M_upper_50 (F + kTm d) r.2 x) Q) := by
  have hn := hM.1.2.2.1
  have ix : ¬ (nI h < 0 ∨ 500 ≤ (nI h).toNatClampNeg) := nI_in (by omega) (by decide)
  have ch : (nI h).toNatClampNeg = h := nI_clamp (by omega)
  unfold f_M_begin_174
  refine k_bind (s_M_commonOf hM at' bt') ?_
  rintro ⟨v, τ⟩ ⟨⟨a', h', g', e⟩, hv⟩
  replace e : τ = mF σ a' h' g' := e
  subst e
  replace hv : ∀ c, c < 32 → bt v c = true → c < n ∧ kSees σ (kBox a) c ∧ kSees σ (kBox b) c := hv
  rw [kBox_id a8, kBox_id b8] at hv
  refine k_bind (P := fun r => ∀ c, c < 32 → bt r c = true → bt v c = true) ?_ ?_
  · unfold f_M_leastOf
    exact s_M_leastOf_4 (σ := mF σ a' h' g') hM.1 v 1000 0 v (by omega) (by omega)
  intro r2 hr2
  refine k_guard ix (k_guard ix (k_some ?_))
  show k_ok (f_M_upper_50 (F + kTm d) (M_put_stage (M_put_least (mF σ a' h' g') (nI h) r2) (nI h) 2) x) Q
  have eS : M_put_stage (M_put_least (mF σ a' h' g') (nI h) r2) (nI h) 2 = M_set_stage (M_set_least (mF σ a' h' g') (upd (M_least σ) h r2)) (upd (M_stage σ) h 2) := by
    show M_set_stage (M_set_least (mF σ a' h' g') (upd (M_least σ) (nI h).toNatClampNeg r2)) (upd (M_stage σ) (nI h).toNatClampNeg 2) = _
    rw [ch]
  rw [eS]
  have hgo : kGo σ (M_set_stage (M_set_least (mF σ a' h' g') (upd (M_least σ) h r2)) (upd (M_stage σ) h 2)) t h := by
    refine ⟨⟨rfl, rfl, rfl, rfl, rfl, rfl, rfl, rfl⟩, kAg_refl t σ, ?_⟩
    intro f hf
    refine ⟨rfl, rfl, rfl, k_u hf, k_u hf, rfl, rfl, fun _ _ => rfl⟩
  have hc := kTm_cls hn hd
  refine up_more (f := F + (1 + n * kTw d)) (by omega) ?_
  refine up_cls hd hrec n 0 0 F a b h t _ x Q (by omega) ?_ k_upds hb ?_
  · refine ⟨hM, hf, hh, ⟨el, er, a8, at', b8, bt'⟩, edp, ?_, eat, by omega, esz, by omega, fun k hk => by omega⟩
    intro e he hx
    have hx' : bt (upd (M_least σ) h r2 h) e = true := hx
    rw [k_upds] at hx'
    exact hv e he (hr2 e he hx')
  · intro σ' hD
    exact hk σ' (kDone_trans hgo (Nat.le_refl t) (fun z => z) hD)
end
theorem mAsk_left {σ : StM} {h : Nat} {x1 x2 x3 : Int32} : M_left (mAsk σ h x1 x2 x3) h = x1 := k_upds
theorem mAsk_right {σ : StM} {h : Nat} {x1 x2 x3 : Int32} : M_right (mAsk σ h x1 x2 x3) h = x2 := k_upds
theorem mAsk_deep {σ : StM} {h : Nat} {x1 x2 x3 : Int32} : M_deep (mAsk σ h x1 x2 x3) h = x3 := k_upds
theorem mAsk_stage {σ : StM} {h : Nat} {x1 x2 x3 : Int32} : M_stage (mAsk σ h x1 x2 x3) h = 0 := k_upds
theorem mAsk_size {σ : StM} {h : Nat} {x1 x2 x3 : Int32} : M_size (mAsk σ h x1 x2 x3) h = 0 := k_upds
theorem mAsk_at {σ : StM} {h : Nat} {x1 x2 x3 : Int32} : M_at (mAsk σ h x1 x2 x3) h = 0 := k_upds
theorem mAsk_high {σ : StM} {h : Nat} {x1 x2 x3 : Int32} : M_high (mAsk σ h x1 x2 x3) = nI (h + 1) := rfl
theorem mAsk_kM {σ : StM} {n t h : Nat} {x1 x2 x3 : Int32} (hM : kM σ n t) : kM (mAsk σ h x1 x2 x3) n t := hM
theorem mAsk_full {σ : StM} {h : Nat} {x1 x2 x3 : Int32} : M_full (mAsk σ h x1 x2 x3) = M_full σ := rfl
theorem mAsk_made {σ : StM} {h : Nat} {x1 x2 x3 : Int32} : M_made (mAsk σ h x1 x2 x3) = M_made σ := rfl
theorem mAsk_kA {σ : StM} {h : Nat} {x1 x2 x3 : Int32} : kA σ (mAsk σ h x1 x2 x3) := ⟨rfl, rfl, rfl, rfl, rfl, rfl, rfl, rfl⟩
theorem mAsk_kAg {σ : StM} {t h : Nat} {x1 x2 x3 : Int32} : kAg t σ (mAsk σ h x1 x2 x3) := kAg_refl t σ
theorem mAsk_kSt {σ : StM} {h : Nat} {x1 x2 x3 : Int32} : kSt h σ (mAsk σ h x1 x2 x3) := by
  intro f hf
  exact ⟨k_u hf, k_u hf, k_u hf, k_u hf, rfl, k_u hf, k_u hf, fun _ _ => rfl⟩
theorem mAsk_go {σ : StM} {t h : Nat} {x1 x2 x3 : Int32} : kGo σ (mAsk σ h x1 x2 x3) t h := ⟨mAsk_kA, mAsk_kAg, mAsk_kSt⟩
/-- the bound of two ARRAYS' ELEMENTS, and then their ARRAY: frame h of T stands at stage 1 -/
theorem up_arr {n d m t h F e1 e2 : Nat} {T : StM} {x : Int32} {Q : Int32 × StM → Prop} (hd : d ≤ 2)
    (ih : ∀ (F a b h t : Nat) (σ : StM) (x : Int32) (Q : Int32 × StM → Prop), kM σ n t → M_full σ = 0 → M_high σ = nI (h + 1) → M_left σ h = nI a → M_right σ h = nI b → M_deep σ h = nI d → M_stage σ h = 0 → M_size σ h = 0 → M_at σ h = 0 → a < t → b < t → M_made σ a = nI m → m ≤ 100 → h + m + 101 * d ≤ 310 → (∀ σ', kDone n σ t h (8 ≤ a ∧ 8 ≤ b) σ' → k_ok (f_M_upper_50 F σ' x) Q) → k_ok (f_M_upper_50 (F + (2 * m + kTm d)) σ x) Q)
    (hM : kM T n t) (hf : M_full T = 0) (hh : M_high T = nI (h + 1)) (hst : M_stage T h = 1) (t1 : e1 < t) (t2 : e2 < t) (em : M_made T e1 = nI m) (hm : m ≤ 100) (hb : h + 1 + m + 101 * d ≤ 310)
    (hk : ∀ σ', kDone n T t h True σ' → k_ok (f_M_upper_50 F σ' x) Q) :
    k_ok ((f_M_ask T (nI e1) (nI e2) (nI d)).bind fun r3 => some ((0 : Int32), r3.2)) (fun r => k_ok (f_M_upper_50 (F + 1 + (2 * m + kTm d)) r.2 x) Q) := by
  have hl : h < 500 := by omega
  refine k_bind (s_M_ask (σ := T) (h := h + 1) hh (by omega) (nI e1) (nI e2) (nI d)) ?_
  rintro ⟨v3, S⟩ eS
  replace eS : S = mAsk T (h + 1) (nI e1) (nI e2) (nI d) := eS
  refine k_some ?_
  show k_ok (f_M_upper_50 (F + 1 + (2 * m + kTm d)) S x) Q
  have go : kGo T S t (h + 1) := by rw [eS]; exact mAsk_go
  refine ih (F + 1) e1 e2 (h + 1) t S x Q (by rw [eS]; exact mAsk_kM hM) (by rw [eS, mAsk_full]; exact hf) (by rw [eS]; exact mAsk_high) (by rw [eS]; exact mAsk_left) (by rw [eS]; exact mAsk_right) (by rw [eS]; exact mAsk_deep) (by rw [eS]; exact mAsk_stage) (by rw [eS]; exact mAsk_size) (by rw [eS]; exact mAsk_at) t1 t2 (by rw [eS, mAsk_made]; exact em) hm (by omega) ?_
  clear eS
  intro σ' hD
  obtain ⟨dgo, dF⟩ := hD
  have hgo1 : kGo T σ' t (h + 1) := kGo_trans go dgo (Nat.le_refl t) (Nat.le_refl (h + 1))
  have hgo : kGo T σ' t h := ⟨hgo1.1, hgo1.2.1, fun f hf => hgo1.2.2 f (by omega)⟩
  by_cases hfl : M_full σ' = 0
  · obtain ⟨t', v, z1, z2, z3, z4, z5, _⟩ := dF hfl
    have hst' : M_stage σ' h = 1 := (hgo1.2.2 h (by omega)).2.2.2.1.trans hst
    refine up_turn z3 hl hfl (fun q => by rw [hst'] at q; exact absurd q (by decide)) (fun _ => ?_) (fun q => by rw [hst'] at q; exact absurd q (by decide)) (fun _ q => absurd hst' q)
    rw [z4]
    refine k_bind (s_M_addArray (σ := σ') z2 z5) ?_
    rintro ⟨v5, τ⟩ hr
    obtain ⟨⟨bb, eb⟩, ha, hff⟩ := hr
    replace eb : τ = mB σ' bb := eb
    replace ha : kAg t' σ' τ := ha
    have gτ : kGo σ' τ t' h := by rw [eb] at ha ⊢; exact kGo_mB ha
    have eh : M_high τ = nI (h + 1) := by rw [eb]; exact z3
    have eh1 : M_high τ - 1 = nI h := by rw [eh]; exact nI_pred h
    clear eb
    refine k_bind (P := fun r => r.2 = M_set_high (M_set_answer τ v5) (M_high τ - 1)) (k_some rfl) ?_
    rintro ⟨v6, τ6⟩ e6
    replace e6 : τ6 = M_set_high (M_set_answer τ v5) (M_high τ - 1) := e6
    have g6 : kGo τ τ6 t' h := by
      rw [e6]
      exact ⟨⟨rfl, rfl, rfl, rfl, rfl, rfl, rfl, rfl⟩, kAg_refl t' τ, kSt_refl h τ⟩
    refine hk τ6 ⟨kGo_trans hgo (kGo_trans gτ g6 (Nat.le_refl t') (Nat.le_refl h)) z1 (Nat.le_refl h), fun q => ?_⟩
    have q' : M_full τ = 0 := by rw [e6] at q; exact q
    obtain ⟨i, t2', y1, y2, y3, y4, y5⟩ := hff q'
    replace y2 : kM τ n t2' := y2
    replace y3 : v5 = nI i := y3
    replace y5 : M_kind τ i = 2 := y5
    refine ⟨t2', i, by omega, by rw [e6]; exact y2, ?_, ?_, y4, fun _ => kTyp_ge8 y2.2.2 y4 (by rw [y5]; decide)⟩
    · rw [e6]; exact eh1
    · rw [e6]; exact y3
  · exact up_more (f := F) (by omega) (hk σ' ⟨hgo, fun q => absurd q hfl⟩)
/-- a frame with its ends in boxes, in S -/
theorem up_85 {n d m t h F a b : Nat} {σ S : StM} {x : Int32} {Q : Int32 × StM → Prop} (hd : d ≤ 2) (hrec : 0 < d → kUpR n (d - 1))
    (ih : ∀ (F a b h t : Nat) (σ : StM) (x : Int32) (Q : Int32 × StM → Prop), kM σ n t → M_full σ = 0 → M_high σ = nI (h + 1) → M_left σ h = nI a → M_right σ h = nI b → M_deep σ h = nI d → M_stage σ h = 0 → M_size σ h = 0 → M_at σ h = 0 → a < t → b < t → M_made σ a = nI m → m ≤ 100 → h + m + 101 * d ≤ 310 → (∀ σ', kDone n σ t h (8 ≤ a ∧ 8 ≤ b) σ' → k_ok (f_M_upper_50 F σ' x) Q) → k_ok (f_M_upper_50 (F + (2 * m + kTm d)) σ x) Q)
    (eS : M_put_right (M_put_left σ (nI h) (nI a)) (nI h) (nI b) = S) (hM : kM S n t) (hf : M_full S = 0) (hh : M_high S = nI (h + 1)) (el : M_left S h = nI a) (er : M_right S h = nI b) (edp : M_deep S h = nI d) (esz : M_size S h = 0) (eat : M_at S h = 0)
    (a8 : 8 ≤ a) (ta : a < t) (b8 : 8 ≤ b) (tb : b < t) (em : M_kind S a = 2 → M_made S a = nI (m + 1)) (hm : m < 100) (hb : h + (m + 1) + 101 * d ≤ 310)
    (hk : ∀ σ', kDone n S t h True σ' → k_ok (f_M_upper_50 F σ' x) Q) :
    k_ok (f_M_begin_85 σ (nI h) (nI a) (nI b)) (fun r => k_ok (f_M_upper_50 (F + 1 + (2 * m + kTm d)) r.2 x) Q) := by
  have ht := hM.2.2.2.1
  have ix : ¬ (nI h < 0 ∨ 500 ≤ (nI h).toNatClampNeg) := nI_in (by omega) (by decide)
  have ch : (nI h).toNatClampNeg = h := nI_clamp (by omega)
  have ia : ¬ (nI a < 0 ∨ 300 ≤ (nI a).toNatClampNeg) := nI_in (by omega) (by decide)
  have ib : ¬ (nI b < 0 ∨ 300 ≤ (nI b).toNatClampNeg) := nI_in (by omega) (by decide)
  have ca : (nI a).toNatClampNeg = a := nI_clamp (by omega)
  have cb : (nI b).toNatClampNeg = b := nI_clamp (by omega)
  have ia' : ¬ (nI a < 0 ∨ 300 ≤ a) := by rw [ca] at ia; exact ia
  have ib' : ¬ (nI b < 0 ∨ 300 ≤ b) := by rw [cb] at ib; exact ib
  have k174 : k_ok (f_M_begin_174 S (nI h) (nI a) (nI b)) (fun r => k_ok (f_M_upper_50 (F + 1 + (2 * m + kTm d)) r.2 x) Q) := by
    refine k_mono (up_174 (F := F) (x := x) (Q := Q) (d := d) hd hrec hM hf hh el er edp esz eat a8 ta b8 tb (by omega) hk) ?_
    intro r hr
    exact up_more (by omega) hr
  unfold f_M_begin_85
  rw [eS]
  clear eS
  refine k_guard ix (k_guard ix (k_guard ia ?_))
  rw [ca]
  refine k_if (fun w1 => ?_) (fun _ => k174)
  refine k_guard ib ?_
  rw [cb]
  refine k_if (fun w2 => ?_) (fun _ => k174)
  refine k_guard ia' (k_if (fun _ => k174) (fun w3 => ?_))
  refine k_guard ib' (k_if (fun _ => k174) (fun w4 => ?_))
  refine k_guard ix (k_guard ia' (k_guard ib' (k_guard ix ?_)))
  obtain ⟨e1, m1, e1a, ei1, em1, em2⟩ := kTyp_array hM.2.2 ta w1
  obtain ⟨e2, m2, e2b, ei2, _, _⟩ := kTyp_array hM.2.2 tb w2
  have em1' : M_made S e1 = nI m := by
    obtain ⟨⟨mm, mm1, mm2, mm3⟩, _⟩ := hM.2.2.2.2.1 e1 (by omega)
    replace mm3 : M_made S e1 = nI mm := mm3
    have e3 : nI m1 = nI mm := em1.symm.trans mm3
    have em3 := em w1
    rw [show M_made S a = nI (m1 + 1) from em2, ← nI_1, e3, nI_1, nI_eq (by omega) (by omega)] at em3
    rw [mm3, show mm = m by omega]
  have eT : M_put_stage S (nI h) 1 = M_set_stage S (upd (M_stage S) h 1) := by
    show M_set_stage S (upd (M_stage S) (nI h).toNatClampNeg 1) = _
    rw [ch]
  rw [eT, ch]
  have t1 : M_inner (M_set_stage S (upd (M_stage S) h 1)) a = nI e1 := ei1
  have t2 : M_inner (M_set_stage S (upd (M_stage S) h 1)) b = nI e2 := ei2
  have t3 : M_deep (M_set_stage S (upd (M_stage S) h 1)) h = nI d := edp
  have t4 : kM (M_set_stage S (upd (M_stage S) h 1)) n t := hM
  have t5 : M_full (M_set_stage S (upd (M_stage S) h 1)) = 0 := hf
  have t6 : M_high (M_set_stage S (upd (M_stage S) h 1)) = nI (h + 1) := hh
  have t7 : M_stage (M_set_stage S (upd (M_stage S) h 1)) h = 1 := k_upds
  have t8 : M_made (M_set_stage S (upd (M_stage S) h 1)) e1 = nI m := em1'
  have t9 : kGo S (M_set_stage S (upd (M_stage S) h 1)) t h := by
    refine ⟨⟨rfl, rfl, rfl, rfl, rfl, rfl, rfl, rfl⟩, kAg_refl t S, ?_⟩
    intro f hf
    exact ⟨rfl, rfl, rfl, k_u hf, rfl, rfl, rfl, fun _ _ => rfl⟩
  rw [t1, t2, t3]
  clear t1 t2 t3 eT
  revert t4 t5 t6 t7 t8 t9
  generalize M_set_stage S (upd (M_stage S) h 1) = T
  intro t4 t5 t6 t7 t8 t9
  refine up_arr (F := F) hd ih t4 t5 t6 t7 (by omega) (by omega) t8 (by omega) (by omega) ?_
  intro σ' hD
  exact hk σ' (kDone_trans t9 (Nat.le_refl t) (fun z => z) hD)
theorem up_run1 {n d : Nat} (hd : d ≤ 2) (hrec : 0 < d → kUpR n (d - 1)) : kUpR n d := by
  intro m
  induction m with
  | zero =>
    intro F a b h t σ x Q hM hf hh el er edp est esz eat at' bt' em hm hb hk
    obtain ⟨⟨m, m1, m2, m3⟩, _⟩ := hM.2.2.2.2.1 a at'
    rw [show M_made σ a = nI m from m3, nI_eq (by omega) (by omega)] at em
    omega
  | succ m ih =>
    intro F a b h t σ x Q hM hf hh el er edp est esz eat at' bt' em hm hb hk
    have ht := hM.2.2.2.1
    have ht16 := hM.2.2.1
    have ix : ¬ (nI h < 0 ∨ 500 ≤ (nI h).toNatClampNeg) := nI_in (by omega) (by decide)
    have ch : (nI h).toNatClampNeg = h := nI_clamp (by omega)
    have ix' : ¬ (nI h < 0 ∨ 500 ≤ h) := by rw [ch] at ix; exact ix
    have ef : F + (2 * (m + 1) + kTm d) = (F + 1 + (2 * m + kTm d)) + 1 := by omega
    rw [ef]
    refine up_turn hh (by omega) hf (fun _ => ?_) (fun q => by rw [est] at q; exact absurd q (by decide)) (fun q => by rw [est] at q; exact absurd q (by decide)) (fun q => absurd est q)
    refine k_bind (P := fun r => k_ok (f_M_upper_50 (F + 1 + (2 * m + kTm d)) r.2 x) Q) ?_ (fun r hr => hr)
    have ba8 := kBox_8 a
    have bb8 := kBox_8 b
    have bat := kBox_lt at' ht16
    have bbt := kBox_lt bt' ht16
    have k85 : k_ok (f_M_begin_85 σ (nI h) (nI (kBox a)) (nI (kBox b))) (fun r => k_ok (f_M_upper_50 (F + 1 + (2 * m + kTm d)) r.2 x) Q) := by
      have eS : M_put_right (M_put_left σ (nI h) (nI (kBox a))) (nI h) (nI (kBox b)) = M_set_right (M_set_left σ (upd (M_left σ) h (nI (kBox a)))) (upd (M_right σ) h (nI (kBox b))) := by
        show M_set_right (M_set_left σ (upd (M_left σ) (nI h).toNatClampNeg (nI (kBox a)))) (upd (M_right σ) (nI h).toNatClampNeg (nI (kBox b))) = _
        rw [ch]
      have hgoS : kGo σ (M_set_right (M_set_left σ (upd (M_left σ) h (nI (kBox a)))) (upd (M_right σ) h (nI (kBox b)))) t h := by
        refine ⟨⟨rfl, rfl, rfl, rfl, rfl, rfl, rfl, rfl⟩, kAg_refl t σ, ?_⟩
        intro f hf
        exact ⟨k_u hf, k_u hf, rfl, rfl, rfl, rfl, rfl, fun _ _ => rfl⟩
      refine up_85 (F := F) (t := t) hd hrec ih eS hM hf hh k_upds k_upds edp esz eat ba8 bat bb8 bbt ?_ (by omega) (by omega) ?_
      · intro w1
        replace w1 : M_kind σ (kBox a) = 2 := w1
        have ea : kBox a = a := by
          unfold kBox
          split
          · rename_i q
            exfalso
            have z := hM.2.2.2.2.2 (a + 8) (by omega) (by omega)
            rw [show kBox a = a + 8 from if_pos q, z] at w1
            exact absurd w1 (by decide)
          · rfl
        rw [ea]; exact em
      · intro σ' hD
        exact hk σ' (kDone_trans hgoS (Nat.le_refl t) (fun _ => trivial) hD)
    have k55 : k_ok (f_M_begin_55 σ (nI h) (nI (kBox a))) (fun r => k_ok (f_M_upper_50 (F + 1 + (2 * m + kTm d)) r.2 x) Q) := by
      unfold f_M_begin_55
      refine k_guard ix ?_
      rw [ch, er]
      refine k_if (fun q => ?_) (fun q => ?_)
      · have q2 : nI 8 ≤ nI b := q
        rw [nI_leI (by decide) (by omega)] at q2
        have e := kBox_id q2
        rw [e] at k85
        exact k_guard ix' k85
      · have q2 : ¬ nI 8 ≤ nI b := q
        rw [nI_leI (by decide) (by omega)] at q2
        have e : nI b + 8 = nI (kBox b) := by rw [show kBox b = b + 8 from if_pos (by omega)]; exact nI_add b 8
        rw [e]
        exact k_guard ix' k85
    unfold f_M_begin
    refine k_guard ix (k_guard ix ?_)
    rw [ch, el, er]
    refine k_if (fun q => ?_) (fun _ => ?_)
    · rw [nI_eq (by omega) (by omega)] at q
      refine k_guard ix' ?_
      refine k_bind (P := fun r => r.2 = M_set_high (M_set_answer σ (nI a)) (M_high σ - 1)) (k_some rfl) ?_
      rintro ⟨v6, τ6⟩ e6
      replace e6 : τ6 = M_set_high (M_set_answer σ (nI a)) (M_high σ - 1) := e6
      have eh1 : M_high σ - 1 = nI h := by rw [hh]; exact nI_pred h
      refine k_some (up_more (f := F) (by omega) (hk τ6 ⟨?_, fun _ => ⟨t, a, Nat.le_refl t, ?_, ?_, ?_, at', fun w => w.1⟩⟩))
      · rw [e6]
        exact ⟨⟨rfl, rfl, rfl, rfl, rfl, rfl, rfl, rfl⟩, kAg_refl t σ, kSt_refl h σ⟩
      · rw [e6]; exact hM
      · rw [e6]; exact eh1
      · rw [e6]
    · refine k_guard ix' (k_if (fun q => ?_) (fun q => ?_))
      · have q2 : nI 8 ≤ nI a := q
        rw [nI_leI (by decide) (by omega)] at q2
        have e := kBox_id q2
        rw [e] at k55
        exact k_guard ix' k55
      · have q2 : ¬ nI 8 ≤ nI a := q
        rw [nI_leI (by decide) (by omega)] at q2
        have e : nI a + 8 = nI (kBox a) := by rw [show kBox a = a + 8 from if_pos (by omega)]; exact nI_add a 8
        rw [e]
        exact k_guard ix' k55
theorem up_run {n : Nat} : ∀ d, d ≤ 2 → kUpR n d := by
  intro d
  induction d with
  | zero => exact fun hd => up_run1 hd (fun q => by omega)
  | succ d ih => exact fun hd => up_run1 hd (fun _ => ih (by omega))
theorem s_M_upper {σ : StM} {n g d t : Nat} (h : kN σ n g d t) (x1 x2 : Int32) : k_ok (f_M_upper σ x1 x2) (kPub n g d) := by
  have ht := h.1.2.2.2.1
  have hd := h.2.2.2.2.2
  have et : M_types σ = nI t := h.1.2.1
  have bad : k_ok (f_M_upper_22 σ x1 x2 1) (kPub n g d) := by
    unfold f_M_upper_22
    refine k_good (fun q => absurd q (by decide)) (fun _ => ?_)
    exact k_if (fun _ => k_some ⟨t, h⟩) (fun q => absurd rfl q)
  unfold f_M_upper f_M_upper_21
  refine k_if (fun _ => bad) (fun w1 => k_if (fun _ => bad) (fun w2 => ?_))
  obtain ⟨a, ha, rfl⟩ := kM_type h.1.2 w1
  obtain ⟨b, hb, rfl⟩ := kM_type h.1.2 w2
  unfold f_M_upper_22
  refine k_good (fun _ => ?_) (fun q => absurd rfl q)
  refine k_if (fun q => absurd q k_10) (fun _ => ?_)
  refine k_bind (s_M_ask (σ := M_set_high (M_set_code σ 0) 0) (h := 0) rfl (by omega) (nI a) (nI b) (M_depth σ)) ?_
  rintro ⟨v, S⟩ eS
  replace eS : S = mAsk (M_set_high (M_set_code σ 0) 0) 0 (nI a) (nI b) (M_depth σ) := eS
  show k_ok (f_M_upper_50 1000000 S (M_types σ)) _
  rw [et]
  obtain ⟨⟨m, m1, m2, m3⟩, _⟩ := h.1.2.2.2.2.1 a ha
  have hkt : kTm d ≤ 226000 := by
    rcases (show d = 0 ∨ d = 1 ∨ d = 2 by omega) with e | e | e
    · subst e; decide
    · subst e; decide
    · subst e; decide
  refine up_more (f := 1 + (2 * m + kTm d)) (by omega) ?_
  refine up_run d hd m 1 a b 0 t S (nI t) (kPub n g d) (by rw [eS]; exact h.1) (by rw [eS]; exact h.2.2.2.1) (by rw [eS]; rfl) (by rw [eS]; exact mAsk_left) (by rw [eS]; exact mAsk_right) ?_ (by rw [eS]; exact mAsk_stage) (by rw [eS]; exact mAsk_size) (by rw [eS]; exact mAsk_at) ha hb (by rw [eS]; exact m3) m2 (by omega) ?_
  · rw [eS]
    rw [mAsk_deep]; exact h.2.2.2.2.1
  · intro σ' hD
    obtain ⟨⟨dA, dG, _⟩, dF⟩ := hD
    have hA : kA σ σ' := by
      refine kA_trans ?_ dA
      rw [eS]; exact ⟨rfl, rfl, rfl, rfl, rfl, rfl, rfl, rfl⟩
    have hG : kAg t σ σ' := by
      refine kAg_trans (t' := t) ?_ dG (Nat.le_refl t)
      rw [eS]; exact kAg_refl t σ
    obtain ⟨A1, A2, A3, A4, A5, A6, A7, A8⟩ := hA
    have k170 : k_ok (f_M_upper_170 σ' (nI t)) (kPub n g d) := by
      unfold f_M_upper_170 f_M_end
      refine k_bind (P := kPub n g d) ?_ (fun r hr => k_some hr)
      refine k_if (fun q => ?_) (fun q => ?_)
      · obtain ⟨t', v', z1, z2, _⟩ := dF q
        exact k_some ⟨t', z2, A1.trans h.2.1, h.2.2.1, q, A2.trans h.2.2.2.2.1, hd⟩
      · refine k_some ⟨t, ⟨⟨A3.trans h.1.1.1, ?_⟩, kMT_ag (σ := σ) (τ := M_set_code (M_set_full (M_set_types σ' (nI t)) 0) 2) h.1.2 A4 hG rfl⟩, A1.trans h.2.1, h.2.2.1, rfl, A2.trans h.2.2.2.2.1, hd⟩
        show kCls n t (M_generic σ') (M_directs σ') (M_directTo σ') (M_directArg σ') (M_over σ')
        rw [A4, A5, A6, A7, A8]; exact h.1.1.2
    rw [show (1 : Nat) = 0 + 1 from rfl, f_M_upper_50]
    unfold f_M_upper_50_s
    refine k_if (fun _ => k170) (fun q => k_if (fun q2 => ?_) (fun _ => k170))
    obtain ⟨t', v', z1, z2, z3, _⟩ := dF q2
    exfalso
    apply q
    rw [z3]; decide
