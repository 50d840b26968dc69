/-! Tier 3: side by side: array, look, upper. -/
def oL (o : Option (Nat × wWt)) : Int32 ⊕ Nat := match o with
  | none => .inr 2
  | some x => .inl (nI x.1)
def oT (T : wWt) (o : Option (Nat × wWt)) : wWt := match o with
  | none => T
  | some x => x.2
def pEd (o : Option (Nat × wWt)) (w : Int32) (ν : StM) : Prop := match o with
  | none => M_full ν = 1
  | some x => w = nI x.1 ∧ rMt ν x.2 ∧ M_full ν = 0
theorem pEd_mw {o : Option (Nat × wWt)} {w : Int32} {ν : StM} (h : rMw o (w, ν)) : pEd o w ν := by
  cases o with
  | none => exact h.2
  | some x => exact h
def wOx (C : wWc) (T : wWt) (o : Option (Nat × wWt)) : Prop := ∀ q, o = some q → wOK C q.2 ∧ wEx T q.2 ∧ q.1 < Tn q.2
section
variable {σ : StL} {μ : StM} {C : wWc} {T : wWt} {g d : Nat} {o : Option (Nat × wWt)}
theorem RW_ex (h : RW C g T d) (hx : wOx C T o) : RW C g (oT T o) d := by
  cases o with
  | none => exact h
  | some x => exact ⟨(hx x rfl).1, h.2⟩
theorem p_settled {τ : StL} {v : Int32} (hO : wOK C T) (rc : rC (L_classes τ) C g) (ra : rA (L_answers τ) C T) (ed : L_depth τ = nI d) (hv : rUv T o v τ) (hx : wOx C T o) :
    k_pc ((f_L_settled τ v).bind fun r => ad_ r.2.2.1 r.2.2.2 <| match r.1 with
      | .inr e => some (.inr e, r.2.1, 0, 0)
      | .inl rv => some (.inl rv, r.2.1, 0, 0)) (fun q => q.1 = oL o ∧ RL q.2.1 C g (oT T o) d) := by
  cases o with
  | none =>
    obtain ⟨e, T', hr⟩ := hv
    refine p_bind (P := fun r => r.1 = .inr 2 ∧ RL r.2.1 C g T d) ?_ ?_
    · unfold f_L_settled
      exact p_if (fun _ => p_bind (r_T_drop hr) (fun q hq => p_some ⟨rfl, ⟨rc, hq⟩, ra, ed⟩)) (fun z => absurd e z)
    · rintro ⟨w, ρ, K, N⟩ ⟨e1, e2⟩
      replace e1 : w = .inr 2 := e1
      subst e1
      exact p_ad (p_some ⟨rfl, e2⟩)
  | some x =>
    obtain ⟨e, hr⟩ := hv
    obtain ⟨x1, x2, x3⟩ := hx x rfl
    have hn := x1.2.2.1
    refine p_bind (P := fun r => r.1 = .inl (nI x.1) ∧ RL r.2.1 C g x.2 d) ?_ ?_
    · unfold f_L_settled
      refine p_if (fun z => absurd (e.symm.trans z) (k_ne1 (by omega))) (fun _ => p_bind (r_T_settle hr) (fun q hq => p_some ⟨congrArg Sum.inl e, ⟨rc, hq⟩, rA_ex hO x2 ra, ed⟩))
    · rintro ⟨w, ρ, K, N⟩ ⟨e1, e2⟩
      replace e1 : w = .inl (nI x.1) := e1
      subst e1
      exact p_ad (p_some ⟨rfl, e2⟩)
theorem rUv_nw {v : Int32} {τ : StT} {T0 : wWt} (r : rT (L_types σ) T0 T) (h : rNw (L_types σ) T0 o (v, τ)) : rUv T0 o v (L_set_types σ τ) := by
  cases o with
  | none =>
    obtain ⟨h1, h2⟩ := h
    replace h2 : τ = L_types σ := h2
    exact ⟨h1, T, by show rT τ T0 T; rw [h2]; exact r⟩
  | some x => exact h
theorem p_endM {cd : Nat → Int32} {ν : StM} {w e : Int32} (hO : wOK C T) (hM : RM μ C g T d) (ke : pKe μ ν) (ag : kAg (Tn T) μ ν) (hx : wOx C T o) (hw : pEd o w ν) (ec : M_code μ = 0) (hcd : cd 2 = e) : k_pc (f_M_end ν (nI (Tn T)) w e) (fun z => RO cd (oL o) z ∧ RM z.2 C g (oT T o) d) := by
  obtain ⟨m1, m2, m3, m4, m5⟩ := hM
  have hd : M_depth ν = nI d := ke.2.2.1.trans m5
  have m1' : rMc ν C g := rMc_ke m1 ke
  unfold f_M_end
  cases o with
  | none =>
    replace hw : M_full ν = 1 := hw
    refine p_if (fun z => by rw [hw] at z; exact absurd z (by decide)) (fun _ => p_some ⟨hcd.symm, m1', ?_, ?_, rfl, hd⟩)
    · exact rMt_ag (τ := M_set_code (M_set_full (M_set_types ν (nI (Tn T))) 0) e) hO.2 m2 ag rfl
    · exact rR_ex (ν := M_set_code (M_set_full (M_set_types ν (nI (Tn T))) 0) e) hO (wEx_refl T) m3 ke.1.2.2.1 ke.1.2.1
  | some x =>
    obtain ⟨w1, w2, w3⟩ := hw
    obtain ⟨x1, x2, x3⟩ := hx x rfl
    refine p_if (fun _ => p_some ⟨⟨ke.1.2.2.2.trans ec, w1⟩, m1', w2, rR_ex hO x2 m3 ke.1.2.2.1 ke.1.2.1, w3, hd⟩) (fun z => absurd w3 z)
theorem wOx_gd {a : Nat} (h : wGd C T a o) : wOx C T o := fun q e => ⟨(h q e).1, (h q e).2.1, (h q e).2.2.1⟩
theorem wOx_nm (h : wOK C T) {c a : Nat} (hc : c < Wn C) (ho : wOk (Tn T) (Wg C c) a) : wOx C T (wNm T c a) := by
  intro q e
  obtain ⟨n1, n2, n3, _⟩ := wNm_ok h hc ho e
  exact ⟨n1, n2, n3⟩
theorem wOx_arr (h : wOK C T) {x : Nat} (hx : x < Tn T) : wOx C T (wArr (x, T)) := by
  intro q e
  obtain ⟨n1, n2, n3, _⟩ := wArr_ok h hx e
  exact ⟨n1, n2, n3⟩
theorem R_array (h : RW C g T d) (hL : RL σ C g T d) (hM : RM μ C g T d) (x1 : Int32) : RQ (fun e => if e = 1 then 1 else 2) d (f_L_array σ x1) (f_M_array μ x1) := by
  have hn := RW_not h
  by_cases h1 : ∃ j, j < Tn T ∧ x1 = nI j
  · obtain ⟨i, hi, rfl⟩ := h1
    have hx := wOx_arr h.1 hi
    refine ⟨oL (wArr (i, T)), C, g, oT T (wArr (i, T)), RW_ex h hx, ?_, ?_⟩
    · unfold f_L_array
      refine p_rt (fun z => absurd z (rT_there h.1.2 hL.1.2 hi)) (fun _ => p_ad ?_)
      refine p_bind (r_T_makeArray (σ := L_types σ) h.1 hL.1.2 hi) ?_
      rintro ⟨v, τ⟩ hv
      have hv' : rNw (L_types σ) T (wArr (i, T)) (v, τ) := hv
      exact p_settled (τ := L_set_types σ τ) h.1 hL.1.1 hL.2.1 hL.2.2 (rUv_nw hL.1.2 hv') hx
    · unfold f_M_array
      rw [if_neg (R_isType h hM hi)]
      unfold f_M_array_14
      refine p_good (fun _ => ?_) (fun q => absurd rfl q)
      refine p_if (fun q => absurd q k_10) (fun _ => ?_)
      have hM0 : RM (M_set_code μ 0) C g T d := hM
      refine p_bind (p_addArray (σ := M_set_code μ 0) h.1 hM.1 hM.2.1 hM.2.2.2.1 hi) ?_
      rintro ⟨w, ν⟩ ⟨⟨b, eb⟩, ag, hw⟩
      replace eb : ν = mB (M_set_code μ 0) b := eb
      have et : M_types (M_set_code μ 0) = nI (Tn T) := hM.2.1.1
      rw [et]
      exact p_bind (p_endM h.1 hM0 (by rw [eb]; exact pKe_mB _ b) ag hx (pEd_mw hw) rfl rfl) (fun r hr => p_some hr)
  · refine R_thr h 1 ?_ ?_
    · unfold f_L_array
      exact p_rt (fun _ => p_ad (p_some ⟨rfl, hL⟩)) (fun z => absurd (rT_not h.1.2 hL.1.2 h1) z)
    · unfold f_M_array
      rw [if_pos (R_noType h hM h1)]
      unfold f_M_array_14
      refine p_good (fun q => absurd q (by decide)) (fun _ => ?_)
      exact p_if (fun _ => p_some ⟨rfl, hM⟩) (fun q => absurd rfl q)
theorem RM_mF (h : RM μ C g T d) (x a b c : Int32) : RM (mF (M_set_code μ x) a b c) C g T d := h
theorem p_addEnd {κ : StM} {cd : Nat → Int32} {e : Int32} (h : RW C g T d) (hM : RM κ C g T d) (ec : M_code κ = 0) {b r : Nat} (hb : b < Wn C) (ok : wOk (Tn T) (Wg C b) r) (hcd : cd 2 = e) : k_pc ((f_M_addNamed κ (nI b) (wH r) (wTd r)).bind fun r3 => (f_M_end r3.2 (nI (Tn T)) r3.1 e).bind fun r4 => some (r4.1, r4.2)) (fun z => RO cd (oL (wNm T b r)) z ∧ RM z.2 C g (oT T (wNm T b r)) d) := by
  refine p_bind (p_addNamed h.1 hM.1 hM.2.1 hM.2.2.2.1 hb ok) ?_
  rintro ⟨w, ν⟩ ⟨⟨bb, eb⟩, ag, hw⟩
  replace eb : ν = mB κ bb := eb
  exact p_bind (p_endM h.1 hM (by rw [eb]; exact pKe_mB _ bb) ag (wOx_nm h.1 hb ok) (pEd_mw hw) ec hcd) (fun r hr => p_some hr)
theorem p_lookM (h : RW C g T d) (hM : RM μ C g T d) {i b : Nat} (hi : i < Tn T) (hb : b < Wn C) : (wLk C T i b = none → k_pc (f_M_look_22 μ (nI i) (nI b) 0) (fun q => (M_code q.2 = 0 ∧ q.1 = -1) ∧ RM q.2 C g T d)) ∧ (∀ r, wLk C T i b = some r → k_pc (f_M_look_22 μ (nI i) (nI b) 0) (fun z => RO (fun e => if e = 1 then 1 else 2) (oL (wNm T b r)) z ∧ RM z.2 C g (oT T (wNm T b r)) d)) := by
  have go : ∀ {Q : Int32 × StM → Prop}, (∀ τ : StM, RM τ C g T d → M_code τ = 0 → ((wLk C T i b = none ∧ M_found τ = 0) ∨ ∃ r, wLk C T i b = some r ∧ M_found τ = 1 ∧ M_foundHow τ = wH r ∧ M_foundType τ = wTd r) → k_pc (if M_found τ = 0 then some ((-1 : Int32), τ) else (f_M_addNamed τ (nI b) (M_foundHow τ) (M_foundType τ)).bind fun r3 => (f_M_end r3.2 (M_types τ) r3.1 2).bind fun r4 => some (r4.1, r4.2)) Q) → k_pc (f_M_look_22 μ (nI i) (nI b) 0) Q := by
    intro Q kk
    unfold f_M_look_22
    refine p_good (fun _ => ?_) (fun q => absurd rfl q)
    refine p_if (fun q => absurd q k_10) (fun _ => ?_)
    refine p_bind (r_M_lookAt (σ := M_set_code μ 0) h.1 hM.1 hM.2.1 hi hb) ?_
    rintro ⟨v, τ⟩ e
    cases el : wLk C T i b with
    | none =>
      rw [el] at e kk
      obtain ⟨hh, gg, e⟩ := e
      replace e : τ = mF (M_set_code μ 0) 0 hh gg := e
      exact kk τ (by rw [e]; exact RM_mF hM 0 0 hh gg) (by rw [e]; rfl) (Or.inl ⟨rfl, by rw [e]; rfl⟩)
    | some r =>
      rw [el] at e kk
      replace e : τ = mF (M_set_code μ 0) 1 (wH r) (wTd r) := e
      exact kk τ (by rw [e]; exact RM_mF hM 0 1 (wH r) (wTd r)) (by rw [e]; rfl) (Or.inr ⟨r, rfl, by rw [e]; rfl, by rw [e]; rfl, by rw [e]; rfl⟩)
  refine ⟨fun el => go (fun τ hτ ec hc => ?_), fun r el => go (fun τ hτ ec hc => ?_)⟩
  · rcases hc with ⟨_, f1⟩ | ⟨r, f1, _⟩
    · exact p_if (fun _ => p_some ⟨⟨ec, rfl⟩, hτ⟩) (fun z => absurd f1 z)
    · rw [el] at f1; cases f1
  · rcases hc with ⟨f1, _⟩ | ⟨r', f1, f2, f3, f4⟩
    · rw [el] at f1; cases f1
    · rw [el] at f1
      injection f1 with f1
      subst f1
      rw [f3, f4, show M_types τ = nI (Tn T) from hτ.2.1.1]
      refine p_if (fun z => ?_) (fun _ => ?_)
      · rw [f2] at z; exact absurd z k_10
      · exact p_addEnd h hτ ec hb (wLk_ok h.1 hi el) rfl
theorem R_look (h : RW C g T d) (hL : RL σ C g T d) (hM : RM μ C g T d) (x1 x2 : Int32) : RQ (fun e => if e = 1 then 1 else 2) d (f_L_look σ x1 x2) (f_M_look μ x1 x2) := by
  have hn := RW_not h
  have bad : k_pc (f_M_look_21 μ x1 x2) (fun q => M_code q.2 = 1 ∧ RM q.2 C g T d) := by
    unfold f_M_look_21 f_M_look_22
    refine p_good (fun q => absurd q (by decide)) (fun _ => ?_)
    exact p_if (fun _ => p_some ⟨rfl, hM⟩) (fun q => absurd rfl q)
  by_cases h1 : ∃ j, j < Tn T ∧ x1 = nI j
  · obtain ⟨i, hi, rfl⟩ := h1
    by_cases h2 : ∃ j, j < Wn C ∧ x2 = nI j
    · obtain ⟨b, hb, rfl⟩ := h2
      cases el : wLk C T i b with
      | none =>
        refine R_ans h (-1) ?_ ?_
        · unfold f_L_look
          refine p_rt (fun z => absurd z (rT_there h.1.2 hL.1.2 hi)) (fun _ => p_ad ?_)
          refine p_rc (fun z => absurd z (rC_there h.1.1 hL.1.1 hb)) (fun _ => p_ad ?_)
          refine p_bind (r_L_find h.1 hL.1 hi hb) ?_
          intro r3 e3
          rw [el] at e3
          replace e3 : r3 = -1 := e3
          exact p_if (fun _ => p_some ⟨rfl, hL⟩) (fun z => absurd e3 z)
        · unfold f_M_look
          rw [if_neg (R_isType h hM hi), if_neg (R_isClass h hM hb)]
          exact (p_lookM h hM hi hb).1 el
      | some r =>
        have ok := wLk_ok h.1 hi el
        have hx := wOx_nm h.1 hb ok
        have rl := wOk_lt ok (by omega)
        refine ⟨oL (wNm T b r), C, g, oT T (wNm T b r), RW_ex h hx, ?_, ?_⟩
        · unfold f_L_look
          refine p_rt (fun z => absurd z (rT_there h.1.2 hL.1.2 hi)) (fun _ => p_ad ?_)
          refine p_rc (fun z => absurd z (rC_there h.1.1 hL.1.1 hb)) (fun _ => p_ad ?_)
          refine p_bind (r_L_find h.1 hL.1 hi hb) ?_
          intro r3 e3
          rw [el] at e3
          replace e3 : r3 = nI r := e3
          subst e3
          refine p_if (fun z => absurd z (k_ne1 (by omega))) (fun _ => ?_)
          refine p_bind (r_T_makeNamed (σ := L_types σ) h.1 hL.1.2 hb ok) ?_
          rintro ⟨v, τ⟩ hv
          have hv' : rNw (L_types σ) T (wNm T b r) (v, τ) := hv
          exact p_settled (τ := L_set_types σ τ) h.1 hL.1.1 hL.2.1 hL.2.2 (rUv_nw hL.1.2 hv') hx
        · unfold f_M_look
          rw [if_neg (R_isType h hM hi), if_neg (R_isClass h hM hb)]
          exact (p_lookM h hM hi hb).2 r el
    · refine R_thr h 1 ?_ ?_
      · unfold f_L_look
        refine p_rt (fun z => absurd z (rT_there h.1.2 hL.1.2 hi)) (fun _ => p_ad ?_)
        exact p_rc (fun _ => p_ad (p_some ⟨rfl, hL⟩)) (fun z => absurd (rC_not h.1.1 hL.1.1 h2) z)
      · unfold f_M_look
        rw [if_neg (R_isType h hM hi), if_pos (R_noClass h hM h2)]
        exact bad
  · refine R_thr h 1 ?_ ?_
    · unfold f_L_look
      exact p_rt (fun _ => p_ad (p_some ⟨rfl, hL⟩)) (fun z => absurd (rT_not h.1.2 hL.1.2 h1) z)
    · unfold f_M_look
      rw [if_pos (R_noType h hM h1)]
      exact bad
theorem p_upper (h : RW C g T d) (hM : RM μ C g T d) {a b : Nat} (ha : a < Tn T) (hb : b < Tn T) (hx : wOx C T (wUpp C d T a b)) : k_pc (f_M_upper_22 μ (nI a) (nI b) 0) (fun z => RO (fun e => if e = 1 then 1 else 2) (oL (wUpp C d T a b)) z ∧ RM z.2 C g (oT T (wUpp C d T a b)) d) := by
  have hd2 := h.2.2.1
  unfold f_M_upper_22
  refine p_good (fun _ => ?_) (fun q => absurd rfl q)
  refine p_if (fun q => absurd q k_10) (fun _ => ?_)
  have hM0 : RM (M_set_high (M_set_code μ 0) 0) C g T d := hM
  refine p_bind (p_ok (s_M_ask (σ := M_set_high (M_set_code μ 0) 0) (h := 0) rfl (by omega) (nI a) (nI b) (M_depth (M_set_high (M_set_code μ 0) 0)))) ?_
  rintro ⟨v, S⟩ eS
  replace eS : S = mAsk (M_set_high (M_set_code μ 0) 0) 0 (nI a) (nI b) (M_depth (M_set_high (M_set_code μ 0) 0)) := eS
  have edp : M_depth (M_set_high (M_set_code μ 0) 0) = nI d := hM.2.2.2.2
  show k_pc (f_M_upper_50 1000000 S (M_types μ)) _
  rw [hM.2.1.1]
  have hKe : pKe (M_set_high (M_set_code μ 0) 0) S := by
    rw [eS]; exact ⟨⟨rfl, rfl, rfl, rfl⟩, mAsk_kA⟩
  have hAg : kAg (Tn T) (M_set_high (M_set_code μ 0) 0) S := by
    rw [eS]; exact mAsk_kAg
  have hm := (h.1.2.2.2.1 a ha).2.1
  refine p_run d 0 a b T S (nI (Tn T)) _ h.1 (rMc_ke hM0.1 hKe) (by rw [eS]; exact hM.2.1) (by rw [eS]; exact hM.2.2.2.1) (by rw [eS]; rfl) (by rw [eS]; exact mAsk_left) (by rw [eS]; exact mAsk_right) (by rw [eS, mAsk_deep]; exact edp) (by rw [eS]; exact mAsk_stage) (by rw [eS]; exact mAsk_size) (by rw [eS]; exact mAsk_at) ha hb (by omega) (by omega) ?_ 1000000
  clear eS
  rintro σ' ⟨⟨k1, k2, _⟩, ho⟩ F
  have key : k_pc (f_M_upper_170 σ' (nI (Tn T))) (fun z => RO (fun e => if e = 1 then 1 else 2) (oL (wUpp C d T a b)) z ∧ RM z.2 C g (oT T (wUpp C d T a b)) d) := by
    unfold f_M_upper_170
    refine p_bind (p_endM h.1 hM0 (pKe_trans hKe k1) (kAg_trans hAg k2 (Nat.le_refl _)) hx ?_ rfl rfl) (fun r hr => p_some hr)
    show pEd (wUb C (wFd C d) 101 T a b) (M_answer σ') σ'
    cases eo : wUb C (wFd C d) 101 T a b with
    | none => rw [eo] at ho; exact ho
    | some q =>
      rw [eo] at ho
      exact ⟨ho.2.2.2, ho.2.1, ho.1⟩
  cases F with
  | zero => exact p_none
  | succ F =>
    rw [f_M_upper_50]
    unfold f_M_upper_50_s
    refine p_if (fun _ => key) (fun q => p_if (fun q2 => ?_) (fun _ => key))
    exfalso
    cases eo : wUb C (wFd C d) 101 T a b with
    | none =>
      rw [eo] at ho
      replace ho : M_full σ' = 1 := ho
      rw [ho] at q2; exact absurd q2 (by decide)
    | some z =>
      rw [eo] at ho
      obtain ⟨_, _, o3, _⟩ := ho
      rw [o3] at q; exact q (by decide)
theorem R_upper (h : RW C g T d) (hL : RL σ C g T d) (hM : RM μ C g T d) (x1 x2 : Int32) : RQ (fun e => if e = 1 then 1 else 2) d (f_L_upper σ x1 x2) (f_M_upper μ x1 x2) := by
  have hn := RW_not h
  have bad : k_pc (f_M_upper_21 μ x1 x2) (fun q => M_code q.2 = 1 ∧ RM q.2 C g T d) := by
    unfold f_M_upper_21 f_M_upper_22
    refine p_good (fun q => absurd q (by decide)) (fun _ => ?_)
    exact p_if (fun _ => p_some ⟨rfl, hM⟩) (fun q => absurd rfl q)
  by_cases h1 : ∃ j, j < Tn T ∧ x1 = nI j
  · obtain ⟨a, ha, rfl⟩ := h1
    by_cases h2 : ∃ j, j < Tn T ∧ x2 = nI j
    · obtain ⟨b, hb, rfl⟩ := h2
      have hx : wOx C T (wUpp C d T a b) := wOx_gd (wUpp_ok (C := C) d T a b h.1 ha hb)
      refine ⟨oL (wUpp C d T a b), C, g, oT T (wUpp C d T a b), RW_ex h hx, ?_, ?_⟩
      · unfold f_L_upper
        refine p_rt (fun z => absurd z (rT_there h.1.2 hL.1.2 ha)) (fun _ => p_ad ?_)
        refine p_rt (fun z => absurd z (rT_there h.1.2 hL.1.2 hb)) (fun _ => p_ad ?_)
        rw [show L_depth ((Sum.inl (0 : Int32) : Int32 ⊕ Nat), σ, 0, 0).2.1 = nI d from hL.2.2]
        refine p_bind (r_L_upperBound d 3 h.2.2.1 σ T a b h.1 hL.1 ha hb) ?_
        rintro ⟨w, τ, K, N⟩ ⟨v, e, hf, hv⟩
        replace e : w = .inl v := e
        replace hf : rLf σ τ (30 * (d + 1)) := hf
        replace hv : rUv T (wUpp C d T a b) v τ := hv
        subst e
        refine p_ad ?_
        exact p_settled (τ := τ) h.1 (by rw [hf.2.1]; exact hL.1.1) (by rw [hf.2.2.1]; exact hL.2.1) (hf.1.trans hL.2.2) hv hx
      · unfold f_M_upper
        rw [if_neg (R_isType h hM ha), if_neg (R_isType h hM hb)]
        exact p_upper h hM ha hb hx
    · refine R_thr h 1 ?_ ?_
      · unfold f_L_upper
        refine p_rt (fun z => absurd z (rT_there h.1.2 hL.1.2 ha)) (fun _ => p_ad ?_)
        exact p_rt (fun _ => p_ad (p_some ⟨rfl, hL⟩)) (fun z => absurd (rT_not h.1.2 hL.1.2 h2) z)
      · unfold f_M_upper
        rw [if_neg (R_isType h hM ha), if_pos (R_noType h hM h2)]
        exact bad
  · refine R_thr h 1 ?_ ?_
    · unfold f_L_upper
      exact p_rt (fun _ => p_ad (p_some ⟨rfl, hL⟩)) (fun z => absurd (rT_not h.1.2 hL.1.2 h1) z)
    · unfold f_M_upper
      rw [if_pos (R_noType h hM h1)]
      exact bad
end
