/-! Tier 3: BELOW, the kept answers and the table stay when types come. -/
section
variable {C : wWc} {T T' : wWt}
theorem wPt_ex (hx : wEx T T') {a : Nat} (ha : a < Tn T) : wPt T' a = wPt T a := by unfold wPt; rw [(hx.2 a ha).1]
theorem wBe_ex (h : wOK C T) (hx : wEx T T') : ∀ (f a b : Nat), a < Tn T → b < Tn T → (wBe C T' f a b ↔ wBe C T f a b) := by
  intro f
  induction f with
  | zero => intro a b _ _; exact Iff.rfl
  | succ f ih =>
    intro a b ha hb
    rw [wBe, wBe, (hx.2 a ha).1, (hx.2 b hb).1, wPt_ex hx ha]
    have p2 : dK (Ty T b) = 3 → ((∀ p, p ∈ dL (Ty T b) → wBe C T' f a p) ↔ (∀ p, p ∈ dL (Ty T b) → wBe C T f a p)) := by
      intro q
      obtain ⟨_, _, _, w, _⟩ := wT_both h.2 hb q
      exact ⟨fun k p hp => (ih a p ha (by have := w p hp; omega)).mp (k p hp), fun k p hp => (ih a p ha (by have := w p hp; omega)).mpr (k p hp)⟩
    have p3 : dK (Ty T b) = 1 → ∀ x r, x ∈ wPt T a → wLk C T x (dX (Ty T b)) = some r → dA (Ty T b) % 4 = 2 → (wBe C T' f (r / 4) (dA (Ty T b) / 4) ↔ wBe C T f (r / 4) (dA (Ty T b) / 4)) := by
      intro q x r hxx hl h4
      obtain ⟨_, w1, w2, _⟩ := wT_named h.2 hb q
      have wr := wLk_ok h (wPt_ok h.2 ha hxx).1 hl
      rcases w2 with ⟨_, w2⟩ | ⟨g0, y, y1, y2, y3⟩
      · omega
      · rcases wr with ⟨g1, _⟩ | ⟨_, z, z1, z2, z3⟩
        · rw [g0] at g1; cases g1
        · exact ih _ _ (by omega) (by omega)
    have lk : ∀ x, x ∈ wPt T a → wLk C T' x (dX (Ty T b)) = wLk C T x (dX (Ty T b)) := fun x hxx => wLk_ex h.2 hx (wPt_ok h.2 ha hxx).1 _
    constructor
    · rintro (q | ⟨q1, q2⟩ | ⟨q1, x, r, q2, q3, q4⟩ | ⟨q1, q2, q3, q4, q5⟩)
      · exact Or.inl q
      · exact Or.inr (Or.inl ⟨q1, (p2 q1).mp q2⟩)
      · rw [lk x q2] at q3
        refine Or.inr (Or.inr (Or.inl ⟨q1, x, r, q2, q3, ?_⟩))
        rcases q4 with q4 | ⟨q4, q5⟩
        · exact Or.inl q4
        · exact Or.inr ⟨q4, (p3 q1 x r q2 q3 q4).mp q5⟩
      · obtain ⟨_, w1, _⟩ := wT_arr h.2 ha q1
        obtain ⟨_, w2, _⟩ := wT_arr h.2 hb q2
        exact Or.inr (Or.inr (Or.inr ⟨q1, q2, q3, q4, (ih _ _ (by omega) (by omega)).mp q5⟩))
    · rintro (q | ⟨q1, q2⟩ | ⟨q1, x, r, q2, q3, q4⟩ | ⟨q1, q2, q3, q4, q5⟩)
      · exact Or.inl q
      · exact Or.inr (Or.inl ⟨q1, (p2 q1).mpr q2⟩)
      · refine Or.inr (Or.inr (Or.inl ⟨q1, x, r, q2, by rw [lk x q2]; exact q3, ?_⟩))
        rcases q4 with q4 | ⟨q4, q5⟩
        · exact Or.inl q4
        · exact Or.inr ⟨q4, (p3 q1 x r q2 q3 q4).mpr q5⟩
      · obtain ⟨_, w1, _⟩ := wT_arr h.2 ha q1
        obtain ⟨_, w2, _⟩ := wT_arr h.2 hb q2
        exact Or.inr (Or.inr (Or.inr ⟨q1, q2, q3, q4, (ih _ _ (by omega) (by omega)).mpr q5⟩))
theorem wB_ex (h : wOK C T) (hx : wEx T T') {a b : Nat} (ha : a < Tn T) (hb : b < Tn T) : wB C T' a b ↔ wB C T a b := wBe_ex h hx b a b ha hb
theorem rA_ex {σ : StA} (h : wOK C T) (hx : wEx T T') (r : rA σ C T) : rA σ C T' := by
  refine ⟨fun a b ha hb => ⟨fun q => ?_, fun q => ?_⟩, r.2⟩
  · obtain ⟨a1, b1, n⟩ := (r.1 a b ha hb).1 q
    exact ⟨Nat.lt_of_lt_of_le a1 hx.1, Nat.lt_of_lt_of_le b1 hx.1, fun w => n ((wB_ex h hx a1 b1).mp w)⟩
  · obtain ⟨a1, b1, n⟩ := (r.1 a b ha hb).2 q
    exact ⟨Nat.lt_of_lt_of_le a1 hx.1, Nat.lt_of_lt_of_le b1 hx.1, (wB_ex h hx a1 b1).mpr n⟩
theorem rR_ex {μ ν : StM} (h : wOK C T) (hx : wEx T T') (r : rR μ C T) (e1 : M_reckoned ν = M_reckoned μ) (e2 : M_below ν = M_below μ) : rR ν C T' := by
  obtain ⟨k, k1, k2, k3⟩ := r
  refine ⟨k, Nat.le_trans k1 hx.1, by rw [e1]; exact k2, fun e => ?_⟩
  have et : Tn T' = Tn T := by have := hx.1; omega
  intro x p hx' hp'
  have t := k3 (by omega) x p (by omega) (by omega)
  unfold tB at t ⊢
  rw [e2, wB_ex h hx (by omega) (by omega)]
  exact t
end
