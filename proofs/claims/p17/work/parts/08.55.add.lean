/-! Tier 3: k_pc o Q: whatever o answers, Q holds of it (that it answers is tier 2's). A type more. -/
def k_pc {α : Type} (o : Option α) (Q : α → Prop) : Prop := ∀ r, o = some r → Q r
theorem p_some {α : Type} {a : α} {Q : α → Prop} (h : Q a) : k_pc (some a) Q := by
  intro r e; cases e; exact h
theorem p_none {α : Type} {Q : α → Prop} : k_pc none Q := by
  intro r e; cases e
theorem p_guard {α : Type} {c : Prop} [Decidable c] {x : Option α} {Q : α → Prop} (hx : ¬ c → k_pc x Q) : k_pc (if c then none else x) Q := by
  by_cases h : c
  · rw [if_pos h]; exact p_none
  · rw [if_neg h]; exact hx h
theorem p_if {α : Type} {c : Prop} [Decidable c] {x y : Option α} {Q : α → Prop} (h1 : c → k_pc x Q) (h2 : ¬ c → k_pc y Q) : k_pc (if c then x else y) Q := by
  by_cases h : c
  · rw [if_pos h]; exact h1 h
  · rw [if_neg h]; exact h2 h
theorem p_bind {α β : Type} {o : Option α} {f : α → Option β} {P : α → Prop} {Q : β → Prop} (h : k_pc o P) (k : ∀ r, P r → k_pc (f r) Q) : k_pc (o.bind f) Q := by
  intro r e
  cases o with
  | none => cases e
  | some a => exact k a (h a rfl) r e
theorem p_mono {α : Type} {o : Option α} {P Q : α → Prop} (h : k_pc o P) (k : ∀ r, P r → Q r) : k_pc o Q := fun r e => k r (h r e)
theorem p_ad {α β : Type} {c n : Nat} {o : Option (α × β × Nat × Nat)} {Q : α × β × Nat × Nat → Prop} (h : k_pc o (fun r => Q (r.1, r.2.1, r.2.2.1 + c, r.2.2.2 + n))) : k_pc (ad_ c n o) Q := by
  intro r e
  cases o with
  | none => cases e
  | some a => cases e; exact h a rfl
theorem p_ok {α : Type} {o : Option α} {Q : α → Prop} (h : k_ok o Q) : k_pc o Q := by
  obtain ⟨r, rfl, hr⟩ := h
  exact p_some hr
theorem p_and {α : Type} {o : Option α} {P Q : α → Prop} (h : k_ok o P) (k : k_pc o Q) : k_ok o (fun r => P r ∧ Q r) := by
  obtain ⟨r, e, hr⟩ := h
  exact ⟨r, e, hr, k r e⟩
def wUp {α : Type} (f : Nat → α) (k : Nat) (x : α) : Nat → α := fun j => if j = k then x else f j
theorem wUp_s {α : Type} {f : Nat → α} {k : Nat} {x : α} : wUp f k x k = x := by simp [wUp]
theorem wUp_n {α : Type} {f : Nat → α} {k j : Nat} {x : α} (h : j ≠ k) : wUp f k x j = f j := by simp [wUp, h]
/-- the first type that is told so; or a new one; none: it would be too much -/
def wAdd (T : wWt) (d : wDs) (sz : Nat) : Option (Nat × wWt) := match wfs (fun i => decide (Ty T i = d)) (Tn T) 0 with
  | some i => some (i, T)
  | none => if Tn T = 300 ∨ 100 < sz then none else some (Tn T, (Tn T + 1, wUp (Ty T) (Tn T) d, wUp (Tm T) (Tn T) sz))
def wEx (T T' : wWt) : Prop := Tn T ≤ Tn T' ∧ ∀ i, i < Tn T → Ty T' i = Ty T i ∧ Tm T' i = Tm T i
theorem wEx_refl (T : wWt) : wEx T T := ⟨Nat.le_refl _, fun _ _ => ⟨rfl, rfl⟩⟩
theorem wEx_trans {T T' T'' : wWt} (h1 : wEx T T') (h2 : wEx T' T'') : wEx T T'' :=
  ⟨Nat.le_trans h1.1 h2.1, fun i hi => ⟨((h2.2 i (Nat.lt_of_lt_of_le hi h1.1)).1).trans (h1.2 i hi).1, ((h2.2 i (Nat.lt_of_lt_of_le hi h1.1)).2).trans (h1.2 i hi).2⟩⟩
def wDok (C : wWc) (T : wWt) (d : wDs) (sz : Nat) : Prop :=
  (∃ c a, d = (1, c, a, []) ∧ c < Wn C ∧ wOk (Tn T) (Wg C c) a ∧ sz = 1 + (if a = 0 then 0 else Tm T (a / 4))) ∨
  (∃ e, d = (2, e, 0, []) ∧ e < Tn T ∧ sz = 1 + Tm T e) ∨
  (∃ l, d = (3, 0, 0, l) ∧ 2 ≤ l.length ∧ l.length ≤ 30 ∧ (∀ p, p ∈ l → 8 ≤ p ∧ p < Tn T ∧ dK (Ty T p) = 1) ∧ (∀ j k (hj : j < l.length) (hk : k < l.length), j < k → dX (Ty T l[j]) < dX (Ty T l[k])) ∧ sz = 1 + wSum T l)
theorem wSum_eq {T T' : wWt} : ∀ (l : List Nat), (∀ p, p ∈ l → Tm T' p = Tm T p) → wSum T' l = wSum T l := by
  intro l
  induction l with
  | nil => intro _; rfl
  | cons p l ih =>
    intro h
    rw [wSum, wSum, h p (by simp), ih (fun q hq => h q (by simp [hq]))]
theorem wSum_le {T : wWt} : ∀ (l : List Nat) (p : Nat), p ∈ l → Tm T p ≤ wSum T l := by
  intro l
  induction l with
  | nil => intro p hp; cases hp
  | cons q l ih =>
    intro p hp
    rw [wSum]
    rcases List.mem_cons.mp hp with e | e
    · rw [e]; omega
    · have := ih p e; omega
section
variable {C : wWc} {T T' : wWt}
theorem wTyE_ex (h : wTok C T) (hx : wEx T T') {i : Nat} (hi : i < Tn T) : wTyE C T' i := by
  obtain ⟨e1, e2⟩ := hx.2 i hi
  obtain ⟨m1, m2, h1 | ⟨h0, c, a, h1, h2, h3, h4⟩ | ⟨h0, e, h1, h2, h3⟩ | ⟨h0, l, h1, h2, h3, h4, h5, h6⟩⟩ := h.2.2.1 i hi
  · exact ⟨by rw [e2]; exact m1, by rw [e2]; exact m2, Or.inl ⟨h1.1, by rw [e1]; exact h1.2.1, by rw [e2]; exact h1.2.2⟩⟩
  · refine ⟨by rw [e2]; exact m1, by rw [e2]; exact m2, Or.inr (Or.inl ⟨h0, c, a, by rw [e1]; exact h1, h2, h3, ?_⟩)⟩
    rw [e2, h4]
    by_cases z : a = 0
    · rw [if_pos z, if_pos z]
    · rw [if_neg z, if_neg z]
      rcases h3 with ⟨_, h3⟩ | ⟨_, x, x1, x2, x3⟩
      · exact absurd h3 z
      · rw [(hx.2 (a / 4) (by omega)).2]
  · exact ⟨by rw [e2]; exact m1, by rw [e2]; exact m2, Or.inr (Or.inr (Or.inl ⟨h0, e, by rw [e1]; exact h1, h2, by rw [e2, h3, (hx.2 e (by omega)).2]⟩))⟩
  · refine ⟨by rw [e2]; exact m1, by rw [e2]; exact m2, Or.inr (Or.inr (Or.inr ⟨h0, l, by rw [e1]; exact h1, h2, h3, fun p hp => ?_, fun j k hj hk jk => ?_, ?_⟩))⟩
    · obtain ⟨p1, p2, p3⟩ := h4 p hp
      exact ⟨p1, p2, by rw [(hx.2 p (by omega)).1]; exact p3⟩
    · have q1 := h4 l[j] (List.getElem_mem hj)
      have q2 := h4 l[k] (List.getElem_mem hk)
      rw [(hx.2 l[j] (by omega)).1, (hx.2 l[k] (by omega)).1]
      exact h5 j k hj hk jk
    · rw [e2, h6, wSum_eq l (fun p hp => (hx.2 p (by have := h4 p hp; omega)).2)]
theorem wCok_mono {t t' : Nat} (h : wCok C t) (ht : t ≤ t') : wCok C t' := by
  refine ⟨h.1, h.2.1, h.2.2.1, fun c k hc hk => ?_, h.2.2.2.2⟩
  obtain ⟨h1, h2 | ⟨h2, ⟨x, x1, x2, x3⟩ | h3⟩⟩ := h.2.2.2.1 c k hc hk
  · exact ⟨h1, Or.inl h2⟩
  · exact ⟨h1, Or.inr ⟨h2, Or.inl ⟨x, x1, by omega, x3⟩⟩⟩
  · exact ⟨h1, Or.inr ⟨h2, Or.inr h3⟩⟩
theorem wAdd_ok (h : wOK C T) {d : wDs} {sz i : Nat} (hd : wDok C T d sz) (e : wAdd T d sz = some (i, T')) : wOK C T' ∧ wEx T T' ∧ i < Tn T' ∧ 8 ≤ i ∧ Ty T' i = d ∧ Tm T' i = sz ∧ Tn T' ≤ Tn T + 1 := by
  have h16 := h.2.1
  have h300 := h.2.2.1
  unfold wAdd at e
  cases q : wfs (fun i => decide (Ty T i = d)) (Tn T) 0 with
  | some j =>
    rw [q] at e
    cases e
    obtain ⟨_, q2, q3, _⟩ := wfs_some q
    have q4 : Ty T i = d := of_decide_eq_true q3
    refine ⟨h, wEx_refl T, by omega, ?_, q4, ?_, by omega⟩
    · rcases wT_kind h.2 (show i < Tn T by omega) with ⟨w1, w2⟩ | ⟨w1, _⟩
      · rw [q4] at w1
        rcases hd with ⟨c, a, hd, _⟩ | ⟨x, hd, _⟩ | ⟨l, hd, _⟩
        · rw [hd] at w1; cases w1
        · rw [hd] at w1; cases w1
        · rw [hd] at w1; cases w1
      · exact w1
    · rcases hd with ⟨c, a, hd, z1, z2, z3⟩ | ⟨x, hd, z1, z2⟩ | ⟨l, hd, z1, z2, z3, z4, z5⟩
      · have := wT_named h.2 (show i < Tn T by omega) (by rw [q4, hd])
        rw [q4, hd] at this
        rw [z3]; exact this.2.2.2
      · have := wT_arr h.2 (show i < Tn T by omega) (by rw [q4, hd])
        rw [q4, hd] at this
        rw [z2]; exact this.2.2
      · have := wT_both h.2 (show i < Tn T by omega) (by rw [q4, hd])
        rw [q4, hd] at this
        rw [z5]; exact this.2.2.2.2.2
  | none =>
    rw [q] at e
    replace e : (if Tn T = 300 ∨ 100 < sz then none else some (Tn T, (Tn T + 1, wUp (Ty T) (Tn T) d, wUp (Tm T) (Tn T) sz))) = some (i, T') := e
    by_cases w : Tn T = 300 ∨ 100 < sz
    · rw [if_pos w] at e; cases e
    · rw [if_neg w] at e
      injection e with e
      injection e with e1 e2
      have hx : wEx T T' := by
        rw [← e2]
        exact ⟨Nat.le_succ _, fun j hj => ⟨wUp_n (by omega), wUp_n (by omega)⟩⟩
      have t1 : Ty T' i = d := by rw [← e1, ← e2]; exact wUp_s
      have t2 : Tm T' i = sz := by rw [← e1, ← e2]; exact wUp_s
      have t3 : Tn T' = Tn T + 1 := by rw [← e2]
      have hE : wTyE C T' i := by
        refine ⟨?_, by rw [t2]; omega, ?_⟩
        · rw [t2]
          rcases hd with ⟨c, a, hd, z1, z2, z3⟩ | ⟨x, hd, z1, z2⟩ | ⟨l, hd, z1, z2, z3, z4, z5⟩
          · omega
          · omega
          · omega
        · rcases hd with ⟨c, a, hd, z1, z2, z3⟩ | ⟨x, hd, z1, z2⟩ | ⟨l, hd, z1, z2, z3, z4, z5⟩
          · refine Or.inr (Or.inl ⟨by omega, c, a, by rw [t1, hd], z1, by rw [← e1]; exact z2, ?_⟩)
            rw [t2, z3]
            by_cases z : a = 0
            · rw [if_pos z, if_pos z]
            · rw [if_neg z, if_neg z]
              rcases z2 with ⟨_, z2⟩ | ⟨_, x, x1, x2, x3⟩
              · exact absurd z2 z
              · rw [(hx.2 (a / 4) (by omega)).2]
          · exact Or.inr (Or.inr (Or.inl ⟨by omega, x, by rw [t1, hd], by omega, by rw [t2, z2, (hx.2 x z1).2]⟩))
          · refine Or.inr (Or.inr (Or.inr ⟨by omega, l, by rw [t1, hd], z1, z2, fun p hp => ?_, fun j k hj hk jk => ?_, ?_⟩))
            · obtain ⟨p1, p2, p3⟩ := z3 p hp
              exact ⟨p1, by omega, by rw [(hx.2 p p2).1]; exact p3⟩
            · have q1 := z3 l[j] (List.getElem_mem hj)
              have q2 := z3 l[k] (List.getElem_mem hk)
              rw [(hx.2 l[j] q1.2.1).1, (hx.2 l[k] q2.2.1).1]
              exact z4 j k hj hk jk
            · rw [t2, z5, wSum_eq l (fun p hp => (hx.2 p (z3 p hp).2.1).2)]
      refine ⟨⟨wCok_mono h.1 hx.1, by omega, by omega, fun j hj => ?_, fun j j1 j2 => ?_⟩, hx, by omega, by omega, t1, t2, by omega⟩
      · by_cases z : j = i
        · rw [z]; exact hE
        · exact wTyE_ex h.2 hx (by omega)
      · rw [(hx.2 j (by omega)).1]; exact h.2.2.2.2 j j1 j2
/-- LOOK stays when types come -/
theorem wLs_ex (hx : wEx T T') (b : Nat) : ∀ (l : List Nat), (∀ p, p ∈ l → p < Tn T) → wLs C T' b l = wLs C T b l := by
  intro l
  induction l with
  | nil => intro _; rfl
  | cons p l ih =>
    intro h
    rw [wLs, wLs, (hx.2 p (h p (by simp))).1, ih (fun q hq => h q (by simp [hq]))]
theorem wLk_ex (h : wTok C T) (hx : wEx T T') {i : Nat} (hi : i < Tn T) (b : Nat) : wLk C T' i b = wLk C T i b := by
  have eh : wHo T' i = wHo T i := by unfold wHo; rw [(hx.2 i hi).1]
  unfold wLk
  rw [eh, (hx.2 i hi).1]
  by_cases q : dK (Ty T i) = 2
  · rw [if_pos q, if_pos q]
  · rw [if_neg q, if_neg q]
    exact wLs_ex hx b _ (fun p hp => (wHo_ok h hi q hp).2.1)
end
