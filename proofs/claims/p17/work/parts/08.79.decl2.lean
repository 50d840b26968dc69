/-! Tier 3: a class more leaves types, LOOK, BELOW as they are. -/
section
variable {C C' : wWc} {T : wWt}
theorem wLs_agr (h : wTok C T) (ag : wAgr (Wn C) C C') (b : Nat) : ∀ (l : List Nat), (∀ p, p ∈ l → p < Tn T ∧ dK (Ty T p) = 1) → wLs C' T b l = wLs C T b l := by
  intro l
  induction l with
  | nil => intro _; rfl
  | cons p l ih =>
    intro hl
    obtain ⟨p1, p2⟩ := hl p (by simp)
    rw [wLs, wLs, wCl_agr ag _ _ (wT_named h p1 p2).2.1, ih (fun q hq => hl q (by simp [hq]))]
theorem wLk_agr (h : wTok C T) (ag : wAgr (Wn C) C C') {i : Nat} (hi : i < Tn T) (b : Nat) : wLk C' T i b = wLk C T i b := by
  unfold wLk
  by_cases q : dK (Ty T i) = 2
  · rw [if_pos q, if_pos q]
  · rw [if_neg q, if_neg q]
    exact wLs_agr h ag b _ (fun p hp => (wHo_ok h hi q hp).2)
theorem wBe_agr (h : wOK C T) (ag : wAgr (Wn C) C C') : ∀ (f a b : Nat), a < Tn T → b < Tn T → (wBe C' T f a b ↔ wBe C T f a b) := by
  intro f
  induction f with
  | zero => intro a b _ _; exact Iff.rfl
  | succ f ih =>
    intro a b ha hb
    rw [wBe, wBe]
    have p2 : dK (Ty T b) = 3 → ((∀ p, p ∈ dL (Ty T b) → wBe C' T f a p) ↔ (∀ p, p ∈ dL (Ty T b) → wBe C T f a p)) := by
      intro q
      obtain ⟨_, _, _, w, _⟩ := wT_both h.2 hb q
      exact ⟨fun k p hp => (ih a p ha (by have := w p hp; omega)).mp (k p hp), fun k p hp => (ih a p ha (by have := w p hp; omega)).mpr (k p hp)⟩
    have p3 : dK (Ty T b) = 1 → ∀ x r, x ∈ wPt T a → wLk C T x (dX (Ty T b)) = some r → dA (Ty T b) % 4 = 2 → (wBe C' T f (r / 4) (dA (Ty T b) / 4) ↔ wBe C T f (r / 4) (dA (Ty T b) / 4)) := by
      intro q x r hxx hl h4
      obtain ⟨_, w1, w2, _⟩ := wT_named h.2 hb q
      have wr := wLk_ok h (wPt_ok h.2 ha hxx).1 hl
      rcases w2 with ⟨_, w2⟩ | ⟨g0, y, y1, y2, y3⟩
      · omega
      · rcases wr with ⟨g1, _⟩ | ⟨_, z, z1, z2, z3⟩
        · rw [g0] at g1; cases g1
        · exact ih _ _ (by omega) (by omega)
    have lk : ∀ x, x ∈ wPt T a → wLk C' T x (dX (Ty T b)) = wLk C T x (dX (Ty T b)) := fun x hxx => wLk_agr h.2 ag (wPt_ok h.2 ha hxx).1 _
    constructor
    · rintro (q | ⟨q1, q2⟩ | ⟨q1, x, r, q2, q3, q4⟩ | ⟨q1, q2, q3, q4, q5⟩)
      · exact Or.inl q
      · exact Or.inr (Or.inl ⟨q1, (p2 q1).mp q2⟩)
      · rw [lk x q2] at q3
        refine Or.inr (Or.inr (Or.inl ⟨q1, x, r, q2, q3, ?_⟩))
        rcases q4 with q4 | ⟨q4, q5⟩
        · exact Or.inl q4
        · exact Or.inr ⟨q4, (p3 q1 x r q2 q3 q4).mp q5⟩
      · obtain ⟨_, w1, _⟩ := wT_arr h.2 ha q1
        obtain ⟨_, w2, _⟩ := wT_arr h.2 hb q2
        exact Or.inr (Or.inr (Or.inr ⟨q1, q2, q3, q4, (ih _ _ (by omega) (by omega)).mp q5⟩))
    · rintro (q | ⟨q1, q2⟩ | ⟨q1, x, r, q2, q3, q4⟩ | ⟨q1, q2, q3, q4, q5⟩)
      · exact Or.inl q
      · exact Or.inr (Or.inl ⟨q1, (p2 q1).mpr q2⟩)
      · refine Or.inr (Or.inr (Or.inl ⟨q1, x, r, q2, by rw [lk x q2]; exact q3, ?_⟩))
        rcases q4 with q4 | ⟨q4, q5⟩
        · exact Or.inl q4
        · exact Or.inr ⟨q4, (p3 q1 x r q2 q3 q4).mpr q5⟩
      · obtain ⟨_, w1, _⟩ := wT_arr h.2 ha q1
        obtain ⟨_, w2, _⟩ := wT_arr h.2 hb q2
        exact Or.inr (Or.inr (Or.inr ⟨q1, q2, q3, q4, (ih _ _ (by omega) (by omega)).mpr q5⟩))
theorem wB_agr (h : wOK C T) (ag : wAgr (Wn C) C C') {a b : Nat} (ha : a < Tn T) (hb : b < Tn T) : wB C' T a b ↔ wB C T a b := wBe_agr h ag b a b ha hb
theorem wTok_agr (h : wTok C T) (hn : Wn C ≤ Wn C') (hg : ∀ c, c < Wn C → Wg C' c = Wg C c) : wTok C' T := by
  refine ⟨h.1, h.2.1, fun i hi => ?_, h.2.2.2⟩
  obtain ⟨m1, m2, h1 | ⟨h0, c, a, h1, h2, h3, h4⟩ | h1 | h1⟩ := h.2.2.1 i hi
  · exact ⟨m1, m2, Or.inl h1⟩
  · exact ⟨m1, m2, Or.inr (Or.inl ⟨h0, c, a, h1, by omega, by rw [hg c h2]; exact h3, h4⟩)⟩
  · exact ⟨m1, m2, Or.inr (Or.inr (Or.inl h1))⟩
  · exact ⟨m1, m2, Or.inr (Or.inr (Or.inr h1))⟩
theorem wOK_dcl (h : wOK C T) (hn : Wn C < 30) (f g : Bool) : wOK (wDcl C f g) T :=
  ⟨wDcl_ok h.1 hn f g, wTok_agr h.2 (Nat.le_succ _) (fun c hc => (wDcl_agr h.1 f g c hc).2.1)⟩
theorem rA_dcl {σ : StA} (h : wOK C T) (f g : Bool) (r : rA σ C T) : rA σ (wDcl C f g) T := by
  have ag := wDcl_agr h.1 f g
  refine ⟨fun a b ha hb => ⟨fun q => ?_, fun q => ?_⟩, r.2⟩
  · obtain ⟨a1, b1, n⟩ := (r.1 a b ha hb).1 q
    exact ⟨a1, b1, fun w => n ((wB_agr h ag a1 b1).mp w)⟩
  · obtain ⟨a1, b1, n⟩ := (r.1 a b ha hb).2 q
    exact ⟨a1, b1, (wB_agr h ag a1 b1).mpr n⟩
theorem rR_dcl {μ ν : StM} (h : wOK C T) (f g : Bool) (r : rR μ C T) (e1 : M_reckoned ν = M_reckoned μ) (e2 : M_below ν = M_below μ) : rR ν (wDcl C f g) T := by
  obtain ⟨k, k1, k2, k3⟩ := r
  refine ⟨k, k1, by rw [e1]; exact k2, fun e x p hx hp => ?_⟩
  have t := k3 e x p hx hp
  unfold tB at t ⊢
  rw [e2, wB_agr h (wDcl_agr h.1 f g) hx hp]
  exact t
end
