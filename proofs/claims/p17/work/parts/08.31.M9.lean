/-! The reference: upper, its stack. -/
def mAsk (σ : StM) (h : Nat) (x1 x2 x3 : Int32) : StM := M_set_high (M_set_at (M_set_size (M_set_stage (M_set_deep (M_set_right (M_set_left σ (upd (M_left σ) h x1)) (upd (M_right σ) h x2)) (upd (M_deep σ) h x3)) (upd (M_stage σ) h 0)) (upd (M_size σ) h 0)) (upd (M_at σ) h 0)) (nI (h + 1))
def mAskR (σ : StM) (x1 x2 x3 : Int32) : StM := M_set_high (M_set_at (M_set_size (M_set_stage (M_set_deep (M_set_right (M_set_left σ (upd (M_left σ) (M_high σ).toNatClampNeg x1)) (upd (M_right σ) (M_high σ).toNatClampNeg x2)) (upd (M_deep σ) (M_high σ).toNatClampNeg x3)) (upd (M_stage σ) (M_high σ).toNatClampNeg 0)) (upd (M_size σ) (M_high σ).toNatClampNeg 0)) (upd (M_at σ) (M_high σ).toNatClampNeg 0)) (M_high σ + 1)
def mKeep (σ : StM) (h s c : Nat) (x : Int32) : StM := M_set_at (M_set_size (M_set_parts σ (upd (M_parts σ) (30 * h + s) x)) (upd (M_size σ) h (nI (s + 1)))) (upd (M_at σ) h (nI (c + 1)))
def kA (σ τ : StM) : Prop := M_generics τ = M_generics σ ∧ M_depth τ = M_depth σ ∧ M_classes τ = M_classes σ ∧ M_generic τ = M_generic σ ∧ M_directs τ = M_directs σ ∧ M_directTo τ = M_directTo σ ∧ M_directArg τ = M_directArg σ ∧ M_over τ = M_over σ
def kSt (h : Nat) (σ τ : StM) : Prop := ∀ f, f < h → M_left τ f = M_left σ f ∧ M_right τ f = M_right σ f ∧ M_deep τ f = M_deep σ f ∧ M_stage τ f = M_stage σ f ∧ M_least τ f = M_least σ f ∧ M_at τ f = M_at σ f ∧ M_size τ f = M_size σ f ∧ ∀ k, k < 30 → M_parts τ (30 * f + k) = M_parts σ (30 * f + k)
theorem kA_refl (σ : StM) : kA σ σ := ⟨rfl, rfl, rfl, rfl, rfl, rfl, rfl, rfl⟩
theorem kA_trans {σ τ ρ : StM} (h1 : kA σ τ) (h2 : kA τ ρ) : kA σ ρ := by
  obtain ⟨a1, a2, a3, a4, a5, a6, a7, a8⟩ := h1
  obtain ⟨b1, b2, b3, b4, b5, b6, b7, b8⟩ := h2
  exact ⟨b1.trans a1, b2.trans a2, b3.trans a3, b4.trans a4, b5.trans a5, b6.trans a6, b7.trans a7, b8.trans a8⟩
theorem kSt_refl (h : Nat) (σ : StM) : kSt h σ σ := fun _ _ => ⟨rfl, rfl, rfl, rfl, rfl, rfl, rfl, fun _ _ => rfl⟩
theorem kSt_trans {h h' : Nat} {σ τ ρ : StM} (h1 : kSt h σ τ) (h2 : kSt h' τ ρ) (hh : h ≤ h') : kSt h σ ρ := by
  intro f hf
  obtain ⟨a1, a2, a3, a4, a5, a6, a7, a8⟩ := h1 f hf
  obtain ⟨b1, b2, b3, b4, b5, b6, b7, b8⟩ := h2 f (by omega)
  exact ⟨b1.trans a1, b2.trans a2, b3.trans a3, b4.trans a4, b5.trans a5, b6.trans a6, b7.trans a7, fun k hk => (b8 k hk).trans (a8 k hk)⟩
def kGo (σ τ : StM) (t h : Nat) : Prop := kA σ τ ∧ kAg t σ τ ∧ kSt h σ τ
theorem kGo_trans {σ τ ρ : StM} {t t' h h' : Nat} (h1 : kGo σ τ t h) (h2 : kGo τ ρ t' h') (ht : t ≤ t') (hh : h ≤ h') : kGo σ ρ t h := ⟨kA_trans h1.1 h2.1, kAg_trans h1.2.1 h2.2.1 ht, kSt_trans h1.2.2 h2.2.2 hh⟩
theorem kGo_mB {σ : StM} {b : StB} {t h : Nat} (ha : kAg t σ (mB σ b)) : kGo σ (mB σ b) t h := ⟨⟨rfl, rfl, rfl, rfl, rfl, rfl, rfl, rfl⟩, ha, kSt_refl h σ⟩
theorem kSees_ag {σ τ : StM} {t i b : Nat} (ho : M_over τ = M_over σ) (ha : kAg t σ τ) (hi : i < t) (h : kSees σ i b) : kSees τ i b := by
  have q := ha i hi
  rcases h with ⟨h1, h2⟩ | ⟨k, m, p, c, h1, h2, h3, h4, h5, h6, h7, h8⟩
  · exact Or.inl ⟨q.1.trans h1, h2⟩
  · refine Or.inr ⟨k, m, p, c, q.2.2.2.2.2.1.trans h1, h2, h3, (q.2.2.2.2.2.2 k (by omega)).trans h4, h5, (ha p (by omega)).2.1.trans h6, h7, ?_⟩
    rw [ho]; exact h8
section
variable {σ : StM} {n t : Nat}
theorem s_M_ask {h : Nat} (e : M_high σ = nI h) (hh : h < 500) (x1 x2 x3 : Int32) : k_ok (f_M_ask σ x1 x2 x3) (fun r => r.2 = mAsk σ h x1 x2 x3) := by
  have ix : ¬ (M_high σ < 0 ∨ 500 ≤ (M_high σ).toNatClampNeg) := by rw [e]; exact nI_in hh (by decide)
  have er : mAskR σ x1 x2 x3 = mAsk σ h x1 x2 x3 := by
    unfold mAskR mAsk
    rw [e, nI_clamp (by omega), nI_1]
  unfold f_M_ask
  refine k_guard ix (k_guard ix (k_guard ix (k_guard ix (k_guard ix (k_guard ix (k_some ?_))))))
  rw [← er]; rfl
theorem s_M_keep {h s c : Nat} (hh : h < 500) (hs : s < 30) (es : M_size σ h = nI s) (ec : M_at σ h = nI c) (x : Int32) : k_ok (f_M_keep σ (nI h) x) (fun r => r.2 = mKeep σ h s c x) := by
  have ix : ¬ (nI h < 0 ∨ 500 ≤ (nI h).toNatClampNeg) := nI_in hh (by decide)
  have ch : (nI h).toNatClampNeg = h := nI_clamp (by omega)
  have ei : 30 * nI h + M_size σ (nI h).toNatClampNeg = nI (30 * h + s) := by rw [ch, es, k_30ix]
  have iy : ¬ ((30 * nI h + M_size σ (nI h).toNatClampNeg) < 0 ∨ 15000 ≤ (30 * nI h + M_size σ (nI h).toNatClampNeg).toNatClampNeg) := by rw [ei]; exact nI_in (by omega) (by decide)
  unfold f_M_keep
  refine k_guard ix (k_guard iy (k_guard ix (k_guard ix (k_guard ix (k_guard ix (k_some ?_))))))
  show M_set_at (M_set_size (M_set_parts σ (upd (M_parts σ) (30 * nI h + M_size σ (nI h).toNatClampNeg).toNatClampNeg x)) (upd (M_size σ) (nI h).toNatClampNeg (M_size σ (nI h).toNatClampNeg + 1))) (upd (M_at σ) (nI h).toNatClampNeg (M_at σ (nI h).toNatClampNeg + 1)) = _
  rw [ei, ch, es, ec, nI_1, nI_1, nI_clamp (by omega)]; rfl
/-- more fuel answers the same -/
theorem up_mono1 {k k' : StM → Int32 → Option (Int32 × StM)} (hk : ∀ (τ : StM) (x : Int32) (r : Int32 × StM), k τ x = some r → k' τ x = some r) {x3 : Int32} {r : Int32 × StM} (h : f_M_upper_50_s k σ x3 = some r) : f_M_upper_50_s k' σ x3 = some r := by
  have bnd : ∀ {o : Option (Int32 × StM)} {f f' : Int32 × StM → Option (Int32 × StM)}, (∀ z r, f z = some r → f' z = some r) → o.bind f = some r → o.bind f' = some r := by
    intro o f f' hf ho
    cases o with
    | none => cases ho
    | some z => exact hf z r ho
  unfold f_M_upper_50_s at h ⊢
  by_cases c1 : M_high σ ≤ 0
  · rw [if_pos c1] at h ⊢; exact h
  rw [if_neg c1] at h ⊢
  by_cases c2 : M_full σ = 0
  · rw [if_pos c2] at h ⊢
    by_cases c3 : M_high σ - 1 < 0 ∨ 500 ≤ (M_high σ - 1).toNatClampNeg
    · rw [if_pos c3] at h; cases h
    rw [if_neg c3] at h ⊢
    by_cases c4 : M_stage σ (M_high σ - 1).toNatClampNeg = 0
    · rw [if_pos c4] at h ⊢
      exact bnd (fun z r hz => hk _ _ _ hz) h
    rw [if_neg c4] at h ⊢
    by_cases c5 : M_stage σ (M_high σ - 1).toNatClampNeg = 1
    · rw [if_pos c5] at h ⊢
      refine bnd (fun z r hz => ?_) h
      cases hq : f_M_tell z.2 z.1 with
      | none => rw [hq] at hz; cases hz
      | some y => rw [hq] at hz; exact hk _ _ _ hz
    rw [if_neg c5] at h ⊢
    by_cases c6 : M_stage σ (M_high σ - 1).toNatClampNeg = 2
    · rw [if_pos c6] at h ⊢
      exact bnd (fun z r hz => hk _ _ _ hz) h
    rw [if_neg c6, if_neg c3, if_neg c3] at h ⊢
    refine bnd (fun z r hz => ?_) h
    cases hq : f_M_keep z.2 (M_high σ - 1) z.1 with
    | none => rw [hq] at hz; cases hz
    | some y => rw [hq] at hz; exact hk _ _ _ hz
  · rw [if_neg c2] at h ⊢; exact h
theorem up_mono : ∀ (f : Nat) (τ : StM) (x : Int32) (r : Int32 × StM), f_M_upper_50 f τ x = some r → f_M_upper_50 (f + 1) τ x = some r := by
  intro f
  induction f with
  | zero => intro τ x r h; cases h
  | succ f ih =>
    intro τ x r h
    rw [f_M_upper_50] at h ⊢
    exact up_mono1 ih h
theorem up_more {f f' : Nat} (hf : f ≤ f') {x : Int32} {Q : Int32 × StM → Prop} (h : k_ok (f_M_upper_50 f σ x) Q) : k_ok (f_M_upper_50 f' σ x) Q := by
  obtain ⟨k, rfl⟩ : ∃ k, f' = f + k := ⟨f' - f, by omega⟩
  induction k with
  | zero => exact h
  | succ k ih =>
    obtain ⟨r, e, hr⟩ := ih (by omega)
    exact ⟨r, up_mono _ _ _ _ e, hr⟩
/-- one turn of the loop, by the stage of the top frame h -/
theorem up_turn {h F : Nat} {x : Int32} {Q : Int32 × StM → Prop} (e : M_high σ = nI (h + 1)) (hh : h < 500) (hf : M_full σ = 0)
    (h0 : M_stage σ h = 0 → k_ok ((f_M_begin σ (nI h)).bind fun r => f_M_upper_50 F r.2 x) Q)
    (h1 : M_stage σ h = 1 → k_ok ((f_M_addArray σ (M_answer σ)).bind fun r5 => (f_M_tell r5.2 r5.1).bind fun r6 => f_M_upper_50 F r6.2 x) Q)
    (h2 : M_stage σ h = 2 → k_ok ((f_M_goOn σ (nI h)).bind fun r => f_M_upper_50 F r.2 x) Q)
    (h3 : ¬ M_stage σ h = 0 → ¬ M_stage σ h = 1 → ¬ M_stage σ h = 2 → k_ok ((f_M_addNamed (M_put_stage σ (nI h) 2) ((M_at (M_put_stage σ (nI h) 2)) (nI h).toNatClampNeg) 2 (M_answer (M_put_stage σ (nI h) 2))).bind fun r8 => (f_M_keep r8.2 (nI h) r8.1).bind fun r9 => f_M_upper_50 F r9.2 x) Q) :
    k_ok (f_M_upper_50 (F + 1) σ x) Q := by
  have e1 : M_high σ - 1 = nI h := by rw [e]; exact nI_pred h
  have ch : (nI h).toNatClampNeg = h := nI_clamp (by omega)
  have ix : ¬ (nI h < 0 ∨ 500 ≤ (nI h).toNatClampNeg) := nI_in hh (by decide)
  rw [f_M_upper_50]
  unfold f_M_upper_50_s
  rw [e1]
  refine k_if (fun q => ?_) (fun _ => ?_)
  · have q2 : nI (h + 1) ≤ nI 0 := by rw [← e]; exact q
    rw [nI_leI (by omega) (by decide)] at q2
    omega
  refine k_if (fun _ => ?_) (fun q => absurd hf q)
  refine k_guard ix ?_
  refine k_if (fun q => h0 (by rw [ch] at q; exact q)) (fun q0 => ?_)
  refine k_if (fun q => h1 (by rw [ch] at q; exact q)) (fun q1 => ?_)
  refine k_if (fun q => h2 (by rw [ch] at q; exact q)) (fun q2 => ?_)
  rw [ch] at q0 q1 q2
  exact k_guard ix (k_guard ix (h3 q0 q1 q2))
/-- a bound is told: frames below h as they were, its type in answer -/
def kDone (n : Nat) (σ : StM) (t h : Nat) (w : Prop) (σ' : StM) : Prop := kGo σ σ' t h ∧ (M_full σ' = 0 → ∃ t' v, t ≤ t' ∧ kM σ' n t' ∧ M_high σ' = nI h ∧ M_answer σ' = nI v ∧ v < t' ∧ (w → 8 ≤ v))
/-- frame h at stage 2 or 3: class c is next, s PARTS are there -/
def kFr (n : Nat) (σ : StM) (t h a b d c s : Nat) : Prop :=
  kM σ n t ∧ M_full σ = 0 ∧ M_high σ = nI (h + 1) ∧ (M_left σ h = nI a ∧ M_right σ h = nI b ∧ 8 ≤ a ∧ a < t ∧ 8 ≤ b ∧ b < t) ∧ M_deep σ h = nI d ∧
  (∀ e, e < 32 → bt (M_least σ h) e = true → e < n ∧ kSees σ a e ∧ kSees σ b e) ∧ M_at σ h = nI c ∧ c ≤ n ∧ M_size σ h = nI s ∧ s ≤ c ∧
  (∀ k, k < s → ∃ p, 8 ≤ p ∧ p < t ∧ M_parts σ (30 * h + k) = nI p ∧ M_kind σ p = 1)
theorem kFr_go {τ : StM} {t' h a b d c s : Nat} (h0 : kFr n σ t h a b d c s) (hc : c ≤ 30) (hg : kGo σ τ t (h + 1)) (ht : t ≤ t') (hM : kM τ n t') (hf : M_full τ = 0) (hh : M_high τ = nI (h + 1)) : kFr n τ t' h a b d c s := by
  obtain ⟨q1, q2, q3, ⟨q4, q5, q6, q7, q8, q9⟩, q10, q11, q12, q13, q14, q15, q16⟩ := h0
  obtain ⟨g1, g2, g3⟩ := hg
  obtain ⟨f1, f2, f3, f4, f5, f6, f7, f8⟩ := g3 h (by omega)
  refine ⟨hM, hf, hh, ⟨f1.trans q4, f2.trans q5, q6, by omega, q8, by omega⟩, f3.trans q10, ?_, f6.trans q12, q13, f7.trans q14, q15, ?_⟩
  · intro e he hb
    rw [f5] at hb
    obtain ⟨w1, w2, w3⟩ := q11 e he hb
    exact ⟨w1, kSees_ag g1.2.2.2.2.2.2.2 g2 q7 w2, kSees_ag g1.2.2.2.2.2.2.2 g2 q9 w3⟩
  · intro k hk
    obtain ⟨p, p1, p2, p3, p4⟩ := q16 k hk
    exact ⟨p, p1, by omega, (f8 k (by omega)).trans p3, (g2 p p2).1.trans p4⟩
end
def kTm : Nat → Nat
  | 0 => 40
  | 1 => 7300
  | _ => 226000
def kTw : Nat → Nat
  | 0 => 1
  | 1 => 242
  | _ => 7502
/-- what is to be shown of a bound to depth d: the run comes to its end, kDone holds there -/
def kUpR (n d : Nat) : Prop := ∀ (m F a b h t : Nat) (σ : StM) (x : Int32) (Q : Int32 × StM → Prop),
  kM σ n t → M_full σ = 0 → M_high σ = nI (h + 1) → M_left σ h = nI a → M_right σ h = nI b → M_deep σ h = nI d → M_stage σ h = 0 → M_size σ h = 0 → M_at σ h = 0 →
  a < t → b < t → M_made σ a = nI m → m ≤ 100 → h + m + 101 * d ≤ 310 →
  (∀ σ', kDone n σ t h (8 ≤ a ∧ 8 ≤ b) σ' → k_ok (f_M_upper_50 F σ' x) Q) → k_ok (f_M_upper_50 (F + (2 * m + kTm d)) σ x) Q
