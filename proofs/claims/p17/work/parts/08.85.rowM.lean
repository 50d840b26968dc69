/-! Tier 3: the reference's tables of classes: a row of the newest class. -/
def wAg6 (c : Nat) (C C' : wWc) : Prop := ∀ x, x < c → Wf C' x = Wf C x ∧ Wg C' x = Wg C x ∧ Wd C' x = Wd C x ∧ Wo C' x = Wo C x ∧ Wa C' x = Wa C x ∧ Wu C' x = Wu C x
theorem wDcl_ag6 (C : wWc) (f g : Bool) : wAg6 (Wn C) C (wDcl C f g) := by
  intro x hx
  have ne : x ≠ Wn C := by omega
  exact ⟨wUp_n ne, wUp_n ne, wUp_n ne, wUp_n ne, wUp_n ne, wUp_n ne⟩
theorem wSet_ag6 (C : wWc) (c k to A : Nat) : wAg6 c C (wSet C c k to A) := by
  intro x hx
  have ne : x ≠ c := by omega
  exact ⟨rfl, rfl, wUp_n ne, wUp_n ne, wUp_n ne, wUp_n ne⟩
theorem wSet_ag6x {C : wWc} {c k to A x : Nat} (ne : x ≠ c) : Wf (wSet C c k to A) x = Wf C x ∧ Wg (wSet C c k to A) x = Wg C x ∧ Wd (wSet C c k to A) x = Wd C x ∧ Wo (wSet C c k to A) x = Wo C x ∧ Wa (wSet C c k to A) x = Wa C x ∧ Wu (wSet C c k to A) x = Wu C x := ⟨rfl, rfl, wUp_n ne, wUp_n ne, wUp_n ne, wUp_n ne⟩
/-- all but the tables of classes stay -/
def pTy (σ τ : StM) : Prop := M_types τ = M_types σ ∧ (∀ i, kEq i σ τ) ∧ M_full τ = M_full σ ∧ M_depth τ = M_depth σ ∧ M_code τ = M_code σ ∧ M_below τ = M_below σ
theorem pTy_trans {σ τ ρ : StM} (h1 : pTy σ τ) (h2 : pTy τ ρ) : pTy σ ρ := by
  obtain ⟨a1, a2, a3, a4, a5, a6⟩ := h1
  obtain ⟨b1, b2, b3, b4, b5, b6⟩ := h2
  refine ⟨b1.trans a1, fun i => ?_, b3.trans a3, b4.trans a4, b5.trans a5, b6.trans a6⟩
  obtain ⟨x1, x2, x3, x4, x5, x6, x7⟩ := a2 i
  obtain ⟨y1, y2, y3, y4, y5, y6, y7⟩ := b2 i
  exact ⟨y1.trans x1, y2.trans x2, y3.trans x3, y4.trans x4, y5.trans x5, y6.trans x6, fun k hk => (y7 k hk).trans (x7 k hk)⟩
theorem rMt_ty {σ τ : StM} {C : wWc} {T : wWt} (h : wTok C T) (q : rMt σ T) (ht : pTy σ τ) : rMt τ T := rMt_ag h q (fun i _ => ht.2.1 i) (ht.1.trans q.1)
section
variable {σ S : StM} {C C' : wWc} {t c g D : Nat}
theorem rMr_row {τ : StM} {x : Nat} (r : rMr σ C x) (hd : Wd C x ≤ 30) (e : Wf C' x = Wf C x ∧ Wg C' x = Wg C x ∧ Wd C' x = Wd C x ∧ Wo C' x = Wo C x ∧ Wa C' x = Wa C x ∧ Wu C' x = Wu C x) (f0 : M_face τ x = M_face σ x) (f1 : M_generic τ x = M_generic σ x) (f2 : M_directs τ x = M_directs σ x) (f3 : ∀ k, k < 30 → M_directTo τ (30 * x + k) = M_directTo σ (30 * x + k) ∧ M_directArg τ (30 * x + k) = M_directArg σ (30 * x + k)) (f4 : M_over τ x = M_over σ x) : rMr τ C' x := by
  obtain ⟨r0, r1, r2, r3, r4⟩ := r
  obtain ⟨e0, e0', e1, e2, e3, e4⟩ := e
  refine ⟨by rw [f0, e0]; exact r0, by rw [f1, e0']; exact r1, by rw [f2, e1]; exact r2, fun k hk => ?_, fun b hb => by rw [f4, e4]; exact r4 b hb⟩
  rw [e1] at hk
  rw [(f3 k (by omega)).1, (f3 k (by omega)).2, e2, e3]
  exact r3 k hk
theorem rMc_new {W : StM} {g' : Nat} (h : wCok C t) (ag : wAg6 c C C') (r : rMc σ C g) (hc : c + 1 = Wn C') (hcn : c ≤ Wn C) (w0 : M_classes W = nI (Wn C')) (w1 : M_generics W = nI g')
    (f : ∀ x, x < c → M_face W x = M_face σ x ∧ M_generic W x = M_generic σ x ∧ M_directs W x = M_directs σ x ∧ M_over W x = M_over σ x) (f2 : ∀ x, x < 30 * c → M_directTo W x = M_directTo σ x ∧ M_directArg W x = M_directArg σ x) (fc : rMr W C' c) : rMc W C' g' := by
  refine ⟨w0, w1, fun x hx => ?_⟩
  by_cases e : x = c
  · rw [e]; exact fc
  · have hx' : x < c := by omega
    have hd := (h.2.2.1 x (by omega)).1
    have hn := h.2.1
    obtain ⟨a1, a2, a3, a4⟩ := f x hx'
    exact rMr_row (r.2.2 x (by omega)) (by omega) (ag x hx') a1 a2 a3 (fun k hk => f2 _ (by omega)) a4
theorem r_M_over (h : wCok C t) (h' : wCok C' t) (ag : wAg6 c C C') (r : rMc σ C g) (hc : c < Wn C') (hcn : c ≤ Wn C) (eD : Wd C' c = D) (sd : M_directs S c = nI D) (st : ∀ j, j < D → M_directTo S (30 * c + j) = nI (Wo C' c j)) (so : M_over S = M_over σ) :
    k_pc (f_M_reckonOver S (nI c)) (fun q => ∃ v, q.2 = M_put_over S (nI c) v ∧ ∀ b, b < 32 → bt v b = Wu C' c b) := by
  have hn := h'.2.1
  have hD := (h'.2.2.1 c hc).1
  have oE : ∀ j, j < D → Wo C' c j < c := fun j hj => (h'.2.2.2.1 c j hc (by omega)).1
  refine p_mono (p_ok (s_M_reckonOver (σ := S) (c := c) (d := D) (by omega) (by omega) sd (fun k hk => ⟨Wo C' c k, by have := oE k hk; omega, st k hk⟩))) ?_
  rintro q ⟨v, e, hv⟩
  refine ⟨v, e, fun b hb => ?_⟩
  have tw : ∀ x, x < c → (wTw C' x b = true ↔ x = b ∨ bt (M_over σ x) b = true) := by
    intro x hx
    unfold wTw
    rw [(ag x hx).2.2.2.2.2, (r.2.2 x (by omega)).2.2.2.2 b hb, Bool.or_eq_true, decide_eq_true_eq]
  have key : bt v b = true ↔ Wu C' c b = true := by
    rw [hv b hb, h'.2.2.2.2.2.1 c b hc, eD]
    constructor
    · rintro ⟨j, e, j1, j2, j3, j4⟩
      have oj := oE j j1
      rw [st j j1, nI_eq (by omega) (by omega)] at j3
      subst j3
      rw [so] at j4
      exact ⟨j, j1, (tw _ oj).mpr j4⟩
    · rintro ⟨j, j1, j2⟩
      have oj := oE j j1
      rw [tw _ oj] at j2
      exact ⟨j, Wo C' c j, j1, by omega, st j j1, by rw [so]; exact j2⟩
  cases e1 : Wu C' c b with
  | true => exact key.mpr e1
  | false =>
    cases e2 : bt v b with
    | false => rfl
    | true => rw [key.mp e2] at e1; cases e1
end
section
variable {σ : StM} {C : wWc} {T : wWt} {g : Nat}
theorem r_M_declare_70 (h : wOK C T) (r : rMc σ C g) (hn : Wn C < 30) {τ : StM} {f1 f2 : Bool} {t1 t2 : Int32} {g' : Nat} (e0 : t1 + t2 = nI g') (e1 : M_classes τ = nI (Wn C)) (e2 : M_generic τ = upd (M_generic σ) (Wn C) (b2 f2)) (e2' : M_face τ = upd (M_face σ) (Wn C) (b2 f1))
    (e3 : M_directs τ = M_directs σ) (e4 : M_directTo τ = M_directTo σ) (e5 : M_directArg τ = M_directArg σ) (e6 : M_over τ = M_over σ) :
    k_pc (f_M_declare_70 τ t1 t2) (fun q => q.1 = nI (Wn C) ∧ rMc q.2 (wDcl C f1 f2) g' ∧ pTy τ q.2 ∧ M_reckoned q.2 = M_reckoned τ) := by
  have n13 := h.1.1
  have h' := wDcl_ok h.1 hn f1 f2
  have a1 : Wf (wDcl C f1 f2) (Wn C) = f1 := wUp_s
  have a2 : Wg (wDcl C f1 f2) (Wn C) = f2 := wUp_s
  have a3 : Wd (wDcl C f1 f2) (Wn C) = 1 := wUp_s
  have a4 : Wo (wDcl C f1 f2) (Wn C) = fun _ => 0 := wUp_s
  have a5 : Wa (wDcl C f1 f2) (Wn C) = fun _ => 0 := wUp_s
  unfold f_M_declare_70
  refine p_guard (fun _ => ?_)
  have cn : (nI (Wn C)).toNatClampNeg = Wn C := nI_clamp (by omega)
  have c30 : (nI (30 * Wn C + 0)).toNatClampNeg = 30 * Wn C := nI_clamp (by omega)
  show k_pc ((f_M_tie (M_put_directs (M_set_generics τ (t1 + t2)) (M_classes τ) 0) (M_classes τ) 0 (-1)).bind fun r2 => (f_M_reckonOver r2.2 (M_classes r2.2)).bind fun r3 => some (((M_classes (M_set_classes r3.2 ((M_classes r3.2) + 1))) - 1), (M_set_classes r3.2 ((M_classes r3.2) + 1)))) _
  rw [e0, e1]
  refine p_bind (p_ok (s_M_tie (σ := M_put_directs (M_set_generics τ (nI g')) (nI (Wn C)) 0) (c := Wn C) (d := 0) hn (by omega) (by show upd (M_directs τ) (nI (Wn C)).toNatClampNeg 0 (Wn C) = nI 0; rw [cn, k_upds]; rfl) 0 (-1))) ?_
  rintro ⟨v0, S⟩ eS
  replace eS : S = M_put_directs (M_put_directArg (M_put_directTo (M_put_directs (M_set_generics τ (nI g')) (nI (Wn C)) 0) (nI (30 * Wn C + 0)) 0) (nI (30 * Wn C + 0)) (-1)) (nI (Wn C)) (nI (0 + 1)) := eS
  have s1 : M_classes S = nI (Wn C) := by rw [eS]; exact e1
  have s2 : M_directs S (Wn C) = nI 1 := by rw [eS]; show upd _ (nI (Wn C)).toNatClampNeg (nI 1) (Wn C) = _; rw [cn, k_upds]
  have s2' : ∀ e, e < Wn C → M_directs S e = M_directs σ e := by
    intro e he
    rw [eS]; show upd (upd (M_directs τ) (nI (Wn C)).toNatClampNeg 0) (nI (Wn C)).toNatClampNeg (nI 1) e = _
    rw [cn, k_u he, k_u he, e3]
  have s3 : M_directTo S (30 * Wn C) = nI 0 := by rw [eS]; show upd (M_directTo τ) (nI (30 * Wn C + 0)).toNatClampNeg 0 (30 * Wn C) = _; rw [c30, k_upds]; rfl
  have s3' : ∀ x, x < 30 * Wn C → M_directTo S x = M_directTo σ x := by
    intro x hx
    rw [eS]; show upd (M_directTo τ) (nI (30 * Wn C + 0)).toNatClampNeg 0 x = _; rw [c30, k_u hx, e4]
  have s4 : M_directArg S (30 * Wn C) = -1 := by rw [eS]; show upd (M_directArg τ) (nI (30 * Wn C + 0)).toNatClampNeg (-1) (30 * Wn C) = _; rw [c30, k_upds]
  have s4' : ∀ x, x < 30 * Wn C → M_directArg S x = M_directArg σ x := by
    intro x hx
    rw [eS]; show upd (M_directArg τ) (nI (30 * Wn C + 0)).toNatClampNeg (-1) x = _; rw [c30, k_u hx, e5]
  have s5 : M_over S = M_over σ := by rw [eS]; exact e6
  have s6 : M_generic S = upd (M_generic σ) (Wn C) (b2 f2) := by rw [eS]; exact e2
  have s7 : M_face S = upd (M_face σ) (Wn C) (b2 f1) := by rw [eS]; exact e2'
  have s8 : M_generics S = nI g' := by rw [eS]
  have s9 : pTy τ S ∧ M_reckoned S = M_reckoned τ := by
    rw [eS]; exact ⟨⟨rfl, fun i => ⟨rfl, rfl, rfl, rfl, rfl, rfl, fun _ _ => rfl⟩, rfl, rfl, rfl, rfl⟩, rfl⟩
  clear eS
  show k_pc ((f_M_reckonOver S (M_classes S)).bind fun r3 => some (((M_classes (M_set_classes r3.2 ((M_classes r3.2) + 1))) - 1), (M_set_classes r3.2 ((M_classes r3.2) + 1)))) _
  rw [s1]
  refine p_bind (r_M_over (S := S) (D := 1) h.1 h' (wDcl_ag6 C f1 f2) r (Nat.lt_succ_self (Wn C)) (Nat.le_refl _) a3 s2 (fun j hj => ?_) s5) ?_
  · have j0 : j = 0 := by omega
    subst j0
    rw [a4]; exact s3
  rintro ⟨v1, W⟩ ⟨v, eW, hv⟩
  replace eW : W = M_put_over S (nI (Wn C)) v := eW
  have w5 : M_over W (Wn C) = v := by rw [eW]; show upd (M_over S) (nI (Wn C)).toNatClampNeg v (Wn C) = _; rw [cn, k_upds]
  have w5' : ∀ e, e < Wn C → M_over W e = M_over σ e := by
    intro e he
    rw [eW]; show upd (M_over S) (nI (Wn C)).toNatClampNeg v e = _; rw [cn, k_u he, s5]
  have w1 : M_classes W = nI (Wn C) := by rw [eW]; exact s1
  have w2 : M_directs W = M_directs S := by rw [eW]
  have w3 : M_directTo W = M_directTo S := by rw [eW]
  have w4 : M_directArg W = M_directArg S := by rw [eW]
  have w6 : M_generic W = M_generic S := by rw [eW]
  have w7 : M_face W = M_face S := by rw [eW]
  have w8 : M_generics W = nI g' := by rw [eW]; exact s8
  have w9 : pTy S W ∧ M_reckoned W = M_reckoned S := by
    rw [eW]; exact ⟨⟨rfl, fun i => ⟨rfl, rfl, rfl, rfl, rfl, rfl, fun _ _ => rfl⟩, rfl, rfl, rfl, rfl⟩, rfl⟩
  clear eW
  refine p_some ⟨?_, ?_, ?_, ?_⟩
  · show M_classes W + 1 - 1 = nI (Wn C)
    rw [w1, nI_1]; exact nI_pred (Wn C)
  · refine rMc_new (W := M_set_classes W (M_classes W + 1)) (c := Wn C) h.1 (wDcl_ag6 C f1 f2) r rfl (Nat.le_refl _) ?_ w8 (fun x hx => ⟨?_, ?_, ?_, w5' x hx⟩) (fun x hx => ⟨?_, ?_⟩) ⟨?_, ?_, ?_, fun k hk => ?_, fun b hb => ?_⟩
    · show M_classes W + 1 = nI (Wn C + 1)
      rw [w1, nI_1]
    · show M_face W x = _; rw [w7, s7, k_u hx]
    · show M_generic W x = _; rw [w6, s6, k_u hx]
    · show M_directs W x = _; rw [w2, s2' x hx]
    · show M_directTo W x = _; rw [w3, s3' x hx]
    · show M_directArg W x = _; rw [w4, s4' x hx]
    · show M_face W (Wn C) = _; rw [w7, s7, k_upds, a1]
    · show M_generic W (Wn C) = _; rw [w6, s6, k_upds, a2]
    · show M_directs W (Wn C) = _; rw [w2, s2, a3]
    · rw [a3] at hk
      have k0 : k = 0 := by omega
      subst k0
      rw [a4, a5]
      refine ⟨?_, ?_⟩
      · show M_directTo W (30 * Wn C) = _; rw [w3, s3]
      · show M_directArg W (30 * Wn C) = _; rw [w4, s4]; rfl
    · show bt (M_over W (Wn C)) b = _
      rw [w5]; exact hv b hb
  · exact pTy_trans s9.1 (pTy_trans w9.1 ⟨rfl, fun i => kEq_refl i W, rfl, rfl, rfl, rfl⟩)
  · exact w9.2.trans s9.2
/-- class c's row, and its bits anew -/
theorem r_M_266 (h : wCok C (Tn T)) (r : rMc σ C g) {c k to A : Nat} (hc : c + 1 = Wn C) (h' : wCok (wSet C c k to A) (Tn T)) {S : StM} (s0 : M_classes S = M_classes σ) (s1 : M_generics S = M_generics σ) (s2 : M_face S = M_face σ) (s3 : M_generic S = M_generic σ) (s4 : M_over S = M_over σ)
    (s5 : ∀ x, x < c → M_directs S x = M_directs σ x) (s6 : M_directs S c = nI (Wd (wSet C c k to A) c)) (s7 : ∀ x, x < 30 * c → M_directTo S x = M_directTo σ x ∧ M_directArg S x = M_directArg σ x)
    (s8 : ∀ j, j < Wd (wSet C c k to A) c → M_directTo S (30 * c + j) = nI (Wo (wSet C c k to A) c j) ∧ M_directArg S (30 * c + j) = wTd (Wa (wSet C c k to A) c j)) :
    k_pc (f_M_above_266 S (nI c)) (fun q => q.1 = nI (Wd (wSet C c k to A) c) ∧ rMc q.2 (wSet C c k to A) g ∧ pTy S q.2 ∧ M_reckoned q.2 = 0) := by
  have hn := h.2.1
  have cn : (nI c).toNatClampNeg = c := nI_clamp (by omega)
  have hcC : c < Wn C := by omega
  unfold f_M_above_266
  refine p_bind (r_M_over (S := S) (D := Wd (wSet C c k to A) c) h h' (wSet_ag6 C c k to A) r hcC (by omega) rfl s6 (fun j hj => (s8 j hj).1) s4) ?_
  rintro ⟨v1, W⟩ ⟨v, eW, hv⟩
  replace eW : W = M_put_over S (nI c) v := eW
  have w5 : M_over W c = v := by rw [eW]; show upd (M_over S) (nI c).toNatClampNeg v c = _; rw [cn, k_upds]
  have w5' : ∀ e, e < c → M_over W e = M_over σ e := by
    intro e he
    rw [eW]; show upd (M_over S) (nI c).toNatClampNeg v e = _; rw [cn, k_u he, s4]
  have w1 : M_classes W = M_classes σ := by rw [eW]; exact s0
  have w2 : M_directs W = M_directs S := by rw [eW]
  have w3 : M_directTo W = M_directTo S := by rw [eW]
  have w4 : M_directArg W = M_directArg S := by rw [eW]
  have w6 : M_generic W = M_generic σ := by rw [eW]; exact s3
  have w7 : M_face W = M_face σ := by rw [eW]; exact s2
  have w8 : M_generics W = M_generics σ := by rw [eW]; exact s1
  have w9 : pTy S W := by
    rw [eW]; exact ⟨rfl, fun i => ⟨rfl, rfl, rfl, rfl, rfl, rfl, fun _ _ => rfl⟩, rfl, rfl, rfl, rfl⟩
  clear eW
  refine p_guard (fun _ => p_some ⟨?_, ?_, ?_, rfl⟩)
  · show M_directs W (nI c).toNatClampNeg = _
    rw [cn, w2, s6]
  · refine rMc_new (W := M_set_reckoned W 0) (c := c) h (wSet_ag6 C c k to A) r hc (by omega) (w1.trans r.1) (w8.trans r.2.1) (fun x hx => ⟨?_, ?_, ?_, w5' x hx⟩) (fun x hx => ⟨?_, ?_⟩) ⟨?_, ?_, ?_, fun k hk => ⟨?_, ?_⟩, fun b hb => ?_⟩
    · show M_face W x = _; rw [w7]
    · show M_generic W x = _; rw [w6]
    · show M_directs W x = _; rw [w2, s5 x hx]
    · show M_directTo W x = _; rw [w3, (s7 x hx).1]
    · show M_directArg W x = _; rw [w4, (s7 x hx).2]
    · show M_face W c = _; rw [w7]; exact (r.2.2 c hcC).1
    · show M_generic W c = _; rw [w6]; exact (r.2.2 c hcC).2.1
    · show M_directs W c = _; rw [w2, s6]
    · show M_directTo W _ = _; rw [w3]; exact (s8 k hk).1
    · show M_directArg W _ = _; rw [w4]; exact (s8 k hk).2
    · show bt (M_over W c) b = _
      rw [w5]; exact hv b hb
  · exact pTy_trans w9 ⟨rfl, fun i => kEq_refl i W, rfl, rfl, rfl, rfl⟩
end
