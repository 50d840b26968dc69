/-! Tier 3: LOOK in a type, BELOW over the tables; BELOW goes on from one to the next. -/
/-- the NAMED types in which a LOOK in type i looks -/
def wHo (T : wWt) (i : Nat) : List Nat := if dK (Ty T i) = 0 then [i + 8] else if dK (Ty T i) = 1 then [i] else dL (Ty T i)
def wLs (C : wWc) (T : wWt) (b : Nat) : List Nat → Option Nat
  | [] => none
  | p :: l => match wCl C (dX (Ty T p)) (dA (Ty T p)) b with
    | some r => some r
    | none => wLs C T b l
/-- a LOOK at class b in type i -/
def wLk (C : wWc) (T : wWt) (i b : Nat) : Option Nat := if dK (Ty T i) = 2 then (if b < 3 then some 0 else none) else wLs C T b (wHo T i)
/-- those of which one must fit, for a to be BELOW a NAMED type -/
def wPt (T : wWt) (a : Nat) : List Nat := if dK (Ty T a) = 3 then dL (Ty T a) else [a]
def wBe (C : wWc) (T : wWt) : Nat → Nat → Nat → Prop
  | 0, a, b => a = b
  | f + 1, a, b => a = b ∨ (dK (Ty T b) = 3 ∧ ∀ p, p ∈ dL (Ty T b) → wBe C T f a p) ∨
      (dK (Ty T b) = 1 ∧ ∃ h r, h ∈ wPt T a ∧ wLk C T h (dX (Ty T b)) = some r ∧ (r = dA (Ty T b) ∨ dA (Ty T b) % 4 = 2 ∧ wBe C T f (r / 4) (dA (Ty T b) / 4))) ∨
      (dK (Ty T a) = 2 ∧ dK (Ty T b) = 2 ∧ 8 ≤ dX (Ty T a) ∧ 8 ≤ dX (Ty T b) ∧ wBe C T f (dX (Ty T a)) (dX (Ty T b)))
def wSum (T : wWt) : List Nat → Nat
  | [] => 0
  | p :: l => Tm T p + wSum T l
/-- what holds of a type -/
def wTyE (C : wWc) (T : wWt) (i : Nat) : Prop := 1 ≤ Tm T i ∧ Tm T i ≤ 100 ∧
  ((i < 8 ∧ Ty T i = (0, 0, 0, []) ∧ Tm T i = 1) ∨
   (8 ≤ i ∧ ∃ c a, Ty T i = (1, c, a, []) ∧ c < Wn C ∧ wOk i (Wg C c) a ∧ Tm T i = 1 + (if a = 0 then 0 else Tm T (a / 4))) ∨
   (8 ≤ i ∧ ∃ e, Ty T i = (2, e, 0, []) ∧ e < i ∧ Tm T i = 1 + Tm T e) ∨
   (8 ≤ i ∧ ∃ l, Ty T i = (3, 0, 0, l) ∧ 2 ≤ l.length ∧ l.length ≤ 30 ∧ (∀ p, p ∈ l → 8 ≤ p ∧ p < i ∧ dK (Ty T p) = 1) ∧ (∀ j k (hj : j < l.length) (hk : k < l.length), j < k → dX (Ty T l[j]) < dX (Ty T l[k])) ∧ Tm T i = 1 + wSum T l))
def wTok (C : wWc) (T : wWt) : Prop := 16 ≤ Tn T ∧ Tn T ≤ 300 ∧ (∀ i, i < Tn T → wTyE C T i) ∧ (∀ i, 8 ≤ i → i < 16 → Ty T i = (1, i - 3, 0, []))
def wOK (C : wWc) (T : wWt) : Prop := wCok C (Tn T) ∧ wTok C T
section
variable {C : wWc} {T : wWt}
theorem wT_named (h : wTok C T) {i : Nat} (hi : i < Tn T) (hk : dK (Ty T i) = 1) : 8 ≤ i ∧ dX (Ty T i) < Wn C ∧ wOk i (Wg C (dX (Ty T i))) (dA (Ty T i)) ∧ Tm T i = 1 + (if dA (Ty T i) = 0 then 0 else Tm T (dA (Ty T i) / 4)) := by
  obtain ⟨_, _, h1 | ⟨h0, c, a, h1, h2⟩ | ⟨_, e, h1, _⟩ | ⟨_, l, h1, _⟩⟩ := h.2.2.1 i hi
  · rw [h1.2.1] at hk; cases hk
  · rw [h1]; exact ⟨h0, h2⟩
  · rw [h1] at hk; cases hk
  · rw [h1] at hk; cases hk
theorem wT_arr (h : wTok C T) {i : Nat} (hi : i < Tn T) (hk : dK (Ty T i) = 2) : 8 ≤ i ∧ dX (Ty T i) < i ∧ Tm T i = 1 + Tm T (dX (Ty T i)) := by
  obtain ⟨_, _, h1 | ⟨h0, c, a, h1, h2⟩ | ⟨h0, e, h1, h2⟩ | ⟨_, l, h1, _⟩⟩ := h.2.2.1 i hi
  · rw [h1.2.1] at hk; cases hk
  · rw [h1] at hk; cases hk
  · rw [h1]; exact ⟨h0, h2⟩
  · rw [h1] at hk; cases hk
theorem wT_both (h : wTok C T) {i : Nat} (hi : i < Tn T) (hk : dK (Ty T i) = 3) : 8 ≤ i ∧ 2 ≤ (dL (Ty T i)).length ∧ (dL (Ty T i)).length ≤ 30 ∧ (∀ p, p ∈ dL (Ty T i) → 8 ≤ p ∧ p < i ∧ dK (Ty T p) = 1) ∧ (∀ j k (hj : j < (dL (Ty T i)).length) (hk : k < (dL (Ty T i)).length), j < k → dX (Ty T (dL (Ty T i))[j]) < dX (Ty T (dL (Ty T i))[k])) ∧ Tm T i = 1 + wSum T (dL (Ty T i)) := by
  obtain ⟨_, _, h1 | ⟨h0, c, a, h1, h2⟩ | ⟨h0, e, h1, h2⟩ | ⟨h0, l, h1, h2⟩⟩ := h.2.2.1 i hi
  · rw [h1.2.1] at hk; cases hk
  · rw [h1] at hk; cases hk
  · rw [h1] at hk; cases hk
  · rw [h1]; exact ⟨h0, h2⟩
theorem wT_kind (h : wTok C T) {i : Nat} (hi : i < Tn T) : dK (Ty T i) = 0 ∧ i < 8 ∨ 8 ≤ i ∧ (dK (Ty T i) = 1 ∨ dK (Ty T i) = 2 ∨ dK (Ty T i) = 3) := by
  obtain ⟨_, _, h1 | ⟨h0, c, a, h1, h2⟩ | ⟨h0, e, h1, h2⟩ | ⟨h0, l, h1, h2⟩⟩ := h.2.2.1 i hi
  · rw [h1.2.1]; exact Or.inl ⟨rfl, h1.1⟩
  · rw [h1]; exact Or.inr ⟨h0, Or.inl rfl⟩
  · rw [h1]; exact Or.inr ⟨h0, Or.inr (Or.inl rfl)⟩
  · rw [h1]; exact Or.inr ⟨h0, Or.inr (Or.inr rfl)⟩
theorem wHo_ok (h : wTok C T) {i : Nat} (hi : i < Tn T) (h2 : dK (Ty T i) ≠ 2) {p : Nat} (hp : p ∈ wHo T i) : 8 ≤ p ∧ p < Tn T ∧ dK (Ty T p) = 1 := by
  unfold wHo at hp
  have h16 := h.1
  rcases wT_kind h hi with ⟨q1, q2⟩ | ⟨q1, q2 | q2 | q2⟩
  · rw [if_pos q1, List.mem_singleton] at hp
    subst hp
    refine ⟨by omega, by omega, ?_⟩
    rw [h.2.2.2 (i + 8) (by omega) (by omega)]
  · rw [if_neg (by omega), if_pos q2, List.mem_singleton] at hp
    subst hp
    exact ⟨q1, hi, q2⟩
  · exact absurd q2 h2
  · rw [if_neg (by omega), if_neg (by omega)] at hp
    obtain ⟨_, _, _, w, _⟩ := wT_both h hi q2
    obtain ⟨w1, w2, w3⟩ := w p hp
    exact ⟨w1, by omega, w3⟩
theorem wLs_ok (h : wOK C T) {b r : Nat} : ∀ (l : List Nat), (∀ p, p ∈ l → p < Tn T ∧ dK (Ty T p) = 1) → wLs C T b l = some r → wOk (Tn T) (Wg C b) r ∧ ∃ p, p ∈ l ∧ wCl C (dX (Ty T p)) (dA (Ty T p)) b = some r := by
  intro l
  induction l with
  | nil => intro _ q; cases q
  | cons p l ih =>
    intro hl q
    rw [wLs] at q
    obtain ⟨p1, p2⟩ := hl p (by simp)
    obtain ⟨_, p3, p4, _⟩ := wT_named h.2 p1 p2
    cases w : wCl C (dX (Ty T p)) (dA (Ty T p)) b with
    | some v =>
      rw [w] at q
      cases q
      exact ⟨wCl_ok h.1 _ _ _ _ p3 (wOk_mono p4 (by omega)) w, p, by simp, w⟩
    | none =>
      rw [w] at q
      obtain ⟨q1, p', q2, q3⟩ := ih (fun p hp => hl p (by simp [hp])) q
      exact ⟨q1, p', by simp [q2], q3⟩
theorem wLk_ok (h : wOK C T) {i b r : Nat} (hi : i < Tn T) (q : wLk C T i b = some r) : wOk (Tn T) (Wg C b) r := by
  unfold wLk at q
  by_cases h2 : dK (Ty T i) = 2
  · rw [if_pos h2] at q
    by_cases hb : b < 3
    · rw [if_pos hb] at q
      cases q
      exact Or.inl ⟨h.1.2.2.2.2.2.2.2.1 b hb, rfl⟩
    · rw [if_neg hb] at q; cases q
  · rw [if_neg h2] at q
    exact (wLs_ok h _ (fun p hp => (wHo_ok h.2 hi h2 hp).2) q).1
theorem wPt_ok (h : wTok C T) {a p : Nat} (ha : a < Tn T) (hp : p ∈ wPt T a) : p < Tn T ∧ dK (Ty T p) ≠ 3 := by
  unfold wPt at hp
  by_cases q : dK (Ty T a) = 3
  · rw [if_pos q] at hp
    obtain ⟨_, _, _, w, _⟩ := wT_both h ha q
    obtain ⟨w1, w2, w3⟩ := w p hp
    exact ⟨by omega, by omega⟩
  · rw [if_neg q, List.mem_singleton] at hp
    subst hp
    exact ⟨ha, q⟩
/-- the components of a type have lower numbers -/
theorem wBe_fuel (h : wOK C T) : ∀ (b f g a : Nat), a < Tn T → b < Tn T → b ≤ f → b ≤ g → (wBe C T f a b ↔ wBe C T g a b) := by
  intro b
  induction b using Nat.strongRecOn with
  | ind b ih =>
    have one : ∀ (f g a : Nat), a < Tn T → b < Tn T → b ≤ f → b ≤ g → wBe C T f a b → wBe C T g a b := by
      intro f g a ha hb hf hg q
      cases f with
      | zero =>
        rw [wBe] at q
        cases g with
        | zero => rw [wBe]; exact q
        | succ g => rw [wBe]; exact Or.inl q
      | succ f =>
        rw [wBe] at q
        cases g with
        | zero =>
          rw [wBe]
          have hb0 : b = 0 := by omega
          subst hb0
          rcases wT_kind h.2 hb with ⟨w, _⟩ | ⟨w, _⟩
          · rcases q with q | ⟨q, _⟩ | ⟨q, _⟩ | ⟨_, q, _⟩
            · exact q
            · omega
            · omega
            · omega
          · omega
        | succ g =>
          rw [wBe]
          rcases q with q | ⟨q1, q2⟩ | ⟨q1, x, r, q2, q3, q4⟩ | ⟨q1, q2, q3, q4, q5⟩
          · exact Or.inl q
          · refine Or.inr (Or.inl ⟨q1, fun p hp => ?_⟩)
            obtain ⟨_, _, _, w, _⟩ := wT_both h.2 hb q1
            obtain ⟨w1, w2, w3⟩ := w p hp
            exact (ih p w2 f g a ha (by omega) (by omega) (by omega)).mp (q2 p hp)
          · refine Or.inr (Or.inr (Or.inl ⟨q1, x, r, q2, q3, ?_⟩))
            rcases q4 with q4 | ⟨q4, q5⟩
            · exact Or.inl q4
            · obtain ⟨_, w1, w2, _⟩ := wT_named h.2 hb q1
              have wr := wLk_ok h (wPt_ok h.2 ha q2).1 q3
              rcases w2 with ⟨_, w2⟩ | ⟨g0, y, y1, y2, y3⟩
              · omega
              · rcases wr with ⟨g1, _⟩ | ⟨_, z, z1, z2, z3⟩
                · rw [g0] at g1; cases g1
                · exact Or.inr ⟨q4, (ih (dA (Ty T b) / 4) (by omega) f g (r / 4) (by omega) (by omega) (by omega) (by omega)).mp q5⟩
          · obtain ⟨_, w1, _⟩ := wT_arr h.2 ha q1
            obtain ⟨_, w2, _⟩ := wT_arr h.2 hb q2
            exact Or.inr (Or.inr (Or.inr ⟨q1, q2, q3, q4, (ih _ w2 f g _ (by omega) (by omega) (by omega) (by omega)).mp q5⟩))
    intro f g a ha hb hf hg
    exact ⟨one f g a ha hb hf hg, one g f a ha hb hg hf⟩
/-- a is BELOW b -/
def wB (C : wWc) (T : wWt) (a b : Nat) : Prop := wBe C T b a b
theorem wB_f (h : wOK C T) {f a b : Nat} (ha : a < Tn T) (hb : b < Tn T) (hf : b ≤ f) : wBe C T f a b ↔ wB C T a b := wBe_fuel h b f b a ha hb hf (Nat.le_refl b)
theorem wB_iff (h : wOK C T) {a b : Nat} (ha : a < Tn T) (hb : b < Tn T) : wB C T a b ↔ (a = b ∨ (dK (Ty T b) = 3 ∧ ∀ p, p ∈ dL (Ty T b) → wB C T a p) ∨
      (dK (Ty T b) = 1 ∧ ∃ x r, x ∈ wPt T a ∧ wLk C T x (dX (Ty T b)) = some r ∧ (r = dA (Ty T b) ∨ dA (Ty T b) % 4 = 2 ∧ wB C T (r / 4) (dA (Ty T b) / 4))) ∨
      (dK (Ty T a) = 2 ∧ dK (Ty T b) = 2 ∧ 8 ≤ dX (Ty T a) ∧ 8 ≤ dX (Ty T b) ∧ wB C T (dX (Ty T a)) (dX (Ty T b)))) := by
  rw [← wB_f h ha hb (Nat.le_succ b), wBe]
  have p2 : dK (Ty T b) = 3 → ((∀ p, p ∈ dL (Ty T b) → wBe C T b a p) ↔ (∀ p, p ∈ dL (Ty T b) → wB C T a p)) := by
    intro q
    obtain ⟨_, _, _, w, _⟩ := wT_both h.2 hb q
    exact ⟨fun k p hp => (wB_f h ha (by have := w p hp; omega) (by have := w p hp; omega)).mp (k p hp), fun k p hp => (wB_f h ha (by have := w p hp; omega) (by have := w p hp; omega)).mpr (k p hp)⟩
  have p3 : dK (Ty T b) = 1 → ∀ x r, x ∈ wPt T a → wLk C T x (dX (Ty T b)) = some r → dA (Ty T b) % 4 = 2 → (wBe C T b (r / 4) (dA (Ty T b) / 4) ↔ wB C T (r / 4) (dA (Ty T b) / 4)) := by
    intro q x r hx hl h4
    obtain ⟨_, w1, w2, _⟩ := wT_named h.2 hb q
    have wr := wLk_ok h (wPt_ok h.2 ha hx).1 hl
    rcases w2 with ⟨_, w2⟩ | ⟨g0, y, y1, y2, y3⟩
    · omega
    · rcases wr with ⟨g1, _⟩ | ⟨_, z, z1, z2, z3⟩
      · rw [g0] at g1; cases g1
      · exact wB_f h (by omega) (by omega) (by omega)
  constructor
  · rintro (q | ⟨q1, q2⟩ | ⟨q1, x, r, q2, q3, q4⟩ | ⟨q1, q2, q3, q4, q5⟩)
    · exact Or.inl q
    · exact Or.inr (Or.inl ⟨q1, (p2 q1).mp q2⟩)
    · refine Or.inr (Or.inr (Or.inl ⟨q1, x, r, q2, q3, ?_⟩))
      rcases q4 with q4 | ⟨q4, q5⟩
      · exact Or.inl q4
      · exact Or.inr ⟨q4, (p3 q1 x r q2 q3 q4).mp q5⟩
    · obtain ⟨_, w1, _⟩ := wT_arr h.2 ha q1
      obtain ⟨_, w2, _⟩ := wT_arr h.2 hb q2
      exact Or.inr (Or.inr (Or.inr ⟨q1, q2, q3, q4, (wB_f h (by omega) (by omega) (by omega)).mp q5⟩))
  · rintro (q | ⟨q1, q2⟩ | ⟨q1, x, r, q2, q3, q4⟩ | ⟨q1, q2, q3, q4, q5⟩)
    · exact Or.inl q
    · exact Or.inr (Or.inl ⟨q1, (p2 q1).mpr q2⟩)
    · refine Or.inr (Or.inr (Or.inl ⟨q1, x, r, q2, q3, ?_⟩))
      rcases q4 with q4 | ⟨q4, q5⟩
      · exact Or.inl q4
      · exact Or.inr ⟨q4, (p3 q1 x r q2 q3 q4).mpr q5⟩
    · obtain ⟨_, w1, _⟩ := wT_arr h.2 ha q1
      obtain ⟨_, w2, _⟩ := wT_arr h.2 hb q2
      exact Or.inr (Or.inr (Or.inr ⟨q1, q2, q3, q4, (wB_f h (by omega) (by omega) (by omega)).mpr q5⟩))
end
