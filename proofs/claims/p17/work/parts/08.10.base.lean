/-! Tier 2: the functions f_.. alone; nothing of the machine from here on. k_ok o Q: o answers, and Q holds of the answer. -/
def k_ok {α : Type} (o : Option α) (Q : α → Prop) : Prop := ∃ r, o = some r ∧ Q r
theorem k_some {α : Type} {a : α} {Q : α → Prop} (h : Q a) : k_ok (some a) Q := ⟨a, rfl, h⟩
theorem k_guard {α : Type} {c : Prop} [Decidable c] {x : Option α} {Q : α → Prop} (hc : ¬ c) (hx : k_ok x Q) : k_ok (if c then none else x) Q := by
  rw [if_neg hc]; exact hx
theorem k_if {α : Type} {c : Prop} [Decidable c] {x y : Option α} {Q : α → Prop} (h1 : c → k_ok x Q) (h2 : ¬ c → k_ok y Q) : k_ok (if c then x else y) Q := by
  by_cases h : c
  · rw [if_pos h]; exact h1 h
  · rw [if_neg h]; exact h2 h
theorem k_bind {α β : Type} {o : Option α} {f : α → Option β} {P : α → Prop} {Q : β → Prop} (h : k_ok o P) (k : ∀ r, P r → k_ok (f r) Q) : k_ok (o.bind f) Q := by
  obtain ⟨r, rfl, hr⟩ := h
  exact k r hr
theorem k_mono {α : Type} {o : Option α} {P Q : α → Prop} (h : k_ok o P) (k : ∀ r, P r → Q r) : k_ok o Q := by
  obtain ⟨r, e, hr⟩ := h
  exact ⟨r, e, k r hr⟩
theorem k_ad {α β : Type} {c n : Nat} {o : Option (α × β × Nat × Nat)} {Q : α × β × Nat × Nat → Prop} (h : k_ok o (fun r => Q (r.1, r.2.1, r.2.2.1 + c, r.2.2.2 + n))) : k_ok (ad_ c n o) Q := by
  obtain ⟨r, rfl, hr⟩ := h
  exact ⟨_, rfl, hr⟩
theorem k_mul (a b : Nat) : nI a * nI b = nI (a * b) := (Int32.ofNat_mul a b).symm
theorem k_sub {a b : Nat} (h : b ≤ a) : nI a - nI b = nI (a - b) := (Int32.ofNat_sub a b h).symm
theorem k_ix30 {a b : Nat} : nI a * 30 + nI b = nI (a * 30 + b) := by
  show nI a * nI 30 + nI b = _
  rw [k_mul, nI_add]
theorem k_30ix {a b : Nat} : 30 * nI a + nI b = nI (30 * a + b) := by
  show nI 30 * nI a + nI b = _
  rw [k_mul, nI_add]
theorem k_in2 {a b : Nat} (ha : a < 30) (hb : b < 30) : ¬ ((nI a * 30 + nI b) < 0 ∨ 900 ≤ (nI a * 30 + nI b).toNatClampNeg) := by
  rw [k_ix30]; exact nI_in (by omega) (by decide)
theorem k_at2 {a b : Nat} (ha : a < 30) (hb : b < 30) : (nI a * 30 + nI b).toNatClampNeg = a * 30 + b := by
  rw [k_ix30]; exact nI_clamp (by omega)
theorem k_upd {f : Nat → Int32} {k j : Nat} {x : Int32} : upd f k x j = if j = k then x else f j := rfl
theorem k_upds {f : Nat → Int32} {k : Nat} {x : Int32} : upd f k x k = x := by simp [upd]
theorem k_updn {f : Nat → Int32} {k j : Nat} {x : Int32} (h : j ≠ k) : upd f k x j = f j := by simp [upd, h]
theorem k_ne1 {x : Nat} (h : x < 2 ^ 31) : ¬ nI x = -1 := by
  intro q
  have q2 := congrArg Int32.toInt q
  rw [nI_toInt h] at q2
  have e : (-1 : Int32).toInt = -1 := by decide
  omega
theorem k_ne2 {x : Nat} (h : x < 2 ^ 31) : ¬ nI x = -2 := by
  intro q
  have q2 := congrArg Int32.toInt q
  rw [nI_toInt h] at q2
  have e : (-2 : Int32).toInt = -2 := by decide
  omega
