/-! Tier 3: the tables of classes and of types, as numbers; LOOK, BELOW over them. An ARGUMENT is a number: 0 none, 3 the PARAMETER, 4 x + 1 EXACT x, 4 x + 2 BOUNDED by x. -/
abbrev wWc : Type := Nat × (Nat → Bool) × (Nat → Bool) × (Nat → Nat) × (Nat → Nat → Nat) × (Nat → Nat → Nat) × (Nat → Nat → Bool)
abbrev wDs : Type := Nat × Nat × Nat × List Nat
abbrev wWt : Type := Nat × (Nat → wDs) × (Nat → Nat)
abbrev Wn (C : wWc) : Nat := C.1
abbrev Wf (C : wWc) : Nat → Bool := C.2.1
abbrev Wg (C : wWc) : Nat → Bool := C.2.2.1
abbrev Wd (C : wWc) : Nat → Nat := C.2.2.2.1
abbrev Wo (C : wWc) : Nat → Nat → Nat := C.2.2.2.2.1
abbrev Wa (C : wWc) : Nat → Nat → Nat := C.2.2.2.2.2.1
abbrev Wu (C : wWc) : Nat → Nat → Bool := C.2.2.2.2.2.2
abbrev Tn (T : wWt) : Nat := T.1
abbrev Ty (T : wWt) : Nat → wDs := T.2.1
abbrev Tm (T : wWt) : Nat → Nat := T.2.2
abbrev dK (d : wDs) : Nat := d.1
abbrev dX (d : wDs) : Nat := d.2.1
abbrev dA (d : wDs) : Nat := d.2.2.1
abbrev dL (d : wDs) : List Nat := d.2.2.2
/-- class c is class b, or below it -/
def wTw (C : wWc) (c b : Nat) : Bool := decide (c = b) || Wu C c b
/-- the first k of f ones from i on -/
def wfs (p : Nat → Bool) : Nat → Nat → Option Nat
  | 0, _ => none
  | f + 1, i => if p i = true then some i else wfs p f (i + 1)
theorem wfs_some {p : Nat → Bool} : ∀ {f i k : Nat}, wfs p f i = some k → i ≤ k ∧ k < i + f ∧ p k = true ∧ ∀ j, i ≤ j → j < k → p j = false := by
  intro f
  induction f with
  | zero => intro i k h; exact absurd h (by simp [wfs])
  | succ f ih =>
    intro i k h
    rw [wfs] at h
    by_cases q : p i = true
    · rw [if_pos q] at h
      cases h
      exact ⟨Nat.le_refl i, by omega, q, fun j h1 h2 => by omega⟩
    · rw [if_neg q] at h
      obtain ⟨h1, h2, h3, h4⟩ := ih h
      refine ⟨by omega, by omega, h3, fun j j1 j2 => ?_⟩
      by_cases e : j = i
      · subst e; simpa using q
      · exact h4 j (by omega) j2
theorem wfs_none {p : Nat → Bool} : ∀ {f i : Nat}, wfs p f i = none → ∀ j, i ≤ j → j < i + f → p j = false := by
  intro f
  induction f with
  | zero => intro i h j h1 h2; omega
  | succ f ih =>
    intro i h j h1 h2
    rw [wfs] at h
    by_cases q : p i = true
    · rw [if_pos q] at h; cases h
    · rw [if_neg q] at h
      by_cases e : j = i
      · subst e; simpa using q
      · exact ih h j (by omega) (by omega)
theorem wfs_is {p : Nat → Bool} : ∀ {f i k : Nat}, i ≤ k → k < i + f → p k = true → (∀ j, i ≤ j → j < k → p j = false) → wfs p f i = some k := by
  intro f
  induction f with
  | zero => intro i k h1 h2; omega
  | succ f ih =>
    intro i k h1 h2 h3 h4
    rw [wfs]
    by_cases e : i = k
    · subst e; rw [if_pos h3]
    · rw [if_neg (by rw [h4 i (by omega) (by omega)]; decide)]
      exact ih (by omega) (by omega) h3 (fun j j1 j2 => h4 j (by omega) j2)
theorem wfs_no {p : Nat → Bool} {f i : Nat} (h : ∀ j, i ≤ j → j < i + f → p j = false) : wfs p f i = none := by
  cases q : wfs p f i with
  | none => rfl
  | some k =>
    obtain ⟨h1, h2, h3, _⟩ := wfs_some q
    rw [h k h1 h2] at h3; cases h3
/-- the first edge of c toward b -/
def wFe (C : wWc) (c b : Nat) : Option Nat := wfs (fun k => wTw C (Wo C c k) b) (Wd C c) 0
def wSb (own told : Nat) : Nat := if told = 3 then own else told
def wClf (C : wWc) (b : Nat) : Nat → Nat → Nat → Option Nat
  | 0, c, a => if c = b then some a else none
  | f + 1, c, a => if c = b then some a else (wFe C c b).bind (fun k => wClf C b f (Wo C c k) (wSb a (Wa C c k)))
/-- the ARGUMENT with which class b is found from class c that has its own one a -/
def wCl (C : wWc) (c a b : Nat) : Option Nat := wClf C b c c a
/-- what holds of the tables of classes, with t types -/
def wCok (C : wWc) (t : Nat) : Prop := 13 ≤ Wn C ∧ Wn C ≤ 30 ∧
  (∀ c, c < Wn C → Wd C c ≤ c ∧ (0 < c → 0 < Wd C c)) ∧
  (∀ c k, c < Wn C → k < Wd C c → Wo C c k < c ∧ ((Wg C (Wo C c k) = false ∧ Wa C c k = 0) ∨ (Wg C (Wo C c k) = true ∧ ((∃ x, 8 ≤ x ∧ x < t ∧ Wa C c k = 4 * x + 1) ∨ (Wa C c k = 3 ∧ Wg C c = true))))) ∧
  (∀ c k l, c < Wn C → k < l → l < Wd C c → Wo C c k ≠ Wo C c l) ∧
  (∀ c b, c < Wn C → (Wu C c b = true ↔ ∃ k, k < Wd C c ∧ wTw C (Wo C c k) b = true)) ∧
  (∀ c b k, c < Wn C → b < Wn C → Wg C b = true → k < Wd C c → wTw C (Wo C c k) b = true → wCl C c 3 b = wCl C (Wo C c k) (Wa C c k) b) ∧
  (∀ c, c < 3 → Wg C c = false) ∧ (∀ c b, c < 3 → Wu C c b = true → b < 3)
section
variable {C : wWc} {t : Nat}
theorem wTw_self (c : Nat) : wTw C c c = true := by simp [wTw]
theorem wTw_up {c b : Nat} (h : Wu C c b = true) : wTw C c b = true := by simp [wTw, h]
theorem wTw_ne {c b : Nat} (h : wTw C c b = true) (hc : c ≠ b) : Wu C c b = true := by
  simpa [wTw, hc] using h
theorem wUp_lt (h : wCok C t) : ∀ c b, c < Wn C → Wu C c b = true → b < c := by
  intro c
  induction c using Nat.strongRecOn with
  | ind c ih =>
    intro b hc hu
    obtain ⟨k, k1, k2⟩ := (h.2.2.2.2.2.1 c b hc).mp hu
    have k3 := (h.2.2.2.1 c k hc k1).1
    by_cases e : Wo C c k = b
    · omega
    · have := ih _ k3 b (by omega) (wTw_ne k2 e)
      omega
theorem wTw_le (h : wCok C t) {c b : Nat} (hc : c < Wn C) (hu : wTw C c b = true) : b ≤ c := by
  by_cases e : c = b
  · omega
  · exact Nat.le_of_lt (wUp_lt h c b hc (wTw_ne hu e))
theorem wUp_tr (h : wCok C t) : ∀ c b d, c < Wn C → Wu C c b = true → Wu C b d = true → Wu C c d = true := by
  intro c
  induction c using Nat.strongRecOn with
  | ind c ih =>
    intro b d hc h1 h2
    obtain ⟨k, k1, k2⟩ := (h.2.2.2.2.2.1 c b hc).mp h1
    have k3 := (h.2.2.2.1 c k hc k1).1
    refine (h.2.2.2.2.2.1 c d hc).mpr ⟨k, k1, ?_⟩
    by_cases e : Wo C c k = b
    · rw [e]; exact wTw_up h2
    · exact wTw_up (ih _ k3 b d (by omega) (wTw_ne k2 e) h2)
theorem wTw_tr (h : wCok C t) {c b d : Nat} (hc : c < Wn C) (h1 : wTw C c b = true) (h2 : wTw C b d = true) : wTw C c d = true := by
  by_cases e1 : c = b
  · rw [e1]; exact h2
  · by_cases e2 : b = d
    · rw [← e2]; exact h1
    · exact wTw_up (wUp_tr h c b d hc (wTw_ne h1 e1) (wTw_ne h2 e2))
theorem wFe_some (h : wCok C t) {c b : Nat} (hc : c < Wn C) (hu : wTw C c b = true) (hne : c ≠ b) : ∃ k, wFe C c b = some k ∧ k < Wd C c ∧ wTw C (Wo C c k) b = true ∧ (∀ j, j < k → wTw C (Wo C c j) b = false) := by
  cases q : wFe C c b with
  | none =>
    obtain ⟨k, k1, k2⟩ := (h.2.2.2.2.2.1 c b hc).mp (wTw_ne hu hne)
    have := wfs_none q k (by omega) (by omega)
    replace this : wTw C (Wo C c k) b = false := this
    rw [k2] at this; cases this
  | some k =>
    obtain ⟨h1, h2, h3, h4⟩ := wfs_some q
    exact ⟨k, rfl, by omega, h3, fun j hj => h4 j (by omega) hj⟩
theorem wFe_none (h : wCok C t) {c b : Nat} (hc : c < Wn C) (hu : wTw C c b = false) : wFe C c b = none := by
  refine wfs_no (fun j _ hj => ?_)
  cases q : wTw C (Wo C c j) b with
  | false => rfl
  | true =>
    have := (h.2.2.2.2.2.1 c b hc).mpr ⟨j, by omega, q⟩
    rw [wTw_up this] at hu; cases hu
theorem wClf_fuel (h : wCok C t) (b : Nat) : ∀ (f g c a : Nat), c < Wn C → c ≤ f → c ≤ g → wClf C b f c a = wClf C b g c a := by
  have key : ∀ (f c a : Nat), c < Wn C → c ≤ f → wClf C b f c a = wClf C b (f + 1) c a := by
    intro f
    induction f with
    | zero =>
      intro c a hc hf
      have hc0 : c = 0 := by omega
      subst hc0
      rw [wClf, wClf]
      by_cases e : 0 = b
      · rw [if_pos e, if_pos e]
      · rw [if_neg e, if_neg e]
        have hd : Wd C 0 = 0 := by have := (h.2.2.1 0 hc).1; omega
        unfold wFe
        rw [hd]; rfl
    | succ f ih =>
      intro c a hc hf
      rw [wClf]
      rw [show wClf C b (f + 1 + 1) c a = if c = b then some a else (wFe C c b).bind (fun k => wClf C b (f + 1) (Wo C c k) (wSb a (Wa C c k))) from rfl]
      by_cases e : c = b
      · rw [if_pos e, if_pos e]
      · rw [if_neg e, if_neg e]
        cases q : wFe C c b with
        | none => rfl
        | some k =>
          obtain ⟨h1, h2, h3, h4⟩ := wfs_some q
          have k3 := (h.2.2.2.1 c k hc (by omega)).1
          exact ih (Wo C c k) _ (by omega) (by omega)
  have up : ∀ (d f c a : Nat), c < Wn C → c ≤ f → wClf C b f c a = wClf C b (f + d) c a := by
    intro d
    induction d with
    | zero => intro f c a _ _; rfl
    | succ d ih => intro f c a hc hf; rw [ih f c a hc hf]; exact key (f + d) c a hc (by omega)
  intro f g c a hc hf hg
  have e1 := up (f - c) c c a hc (Nat.le_refl c)
  have e2 := up (g - c) c c a hc (Nat.le_refl c)
  rw [show c + (f - c) = f by omega] at e1
  rw [show c + (g - c) = g by omega] at e2
  rw [← e1, ← e2]
theorem wCl_here (c a : Nat) : wCl C c a c = some a := by
  unfold wCl
  cases c with
  | zero => rw [wClf, if_pos rfl]
  | succ c => rw [wClf, if_pos rfl]
theorem wCl_step (h : wCok C t) {c b k : Nat} (a : Nat) (hc : c < Wn C) (hne : c ≠ b) (hk : wFe C c b = some k) : wCl C c a b = wCl C (Wo C c k) (wSb a (Wa C c k)) b := by
  obtain ⟨h1, h2, h3, h4⟩ := wfs_some hk
  have k3 := (h.2.2.2.1 c k hc (by omega)).1
  unfold wCl
  cases c with
  | zero => omega
  | succ c =>
    rw [wClf, if_neg hne, hk]
    exact wClf_fuel h b _ _ _ _ (by omega) (by omega) (by omega)
theorem wCl_none (h : wCok C t) {c b : Nat} (a : Nat) (hc : c < Wn C) (hu : wTw C c b = false) : wCl C c a b = none := by
  have hne : c ≠ b := by intro e; rw [e, wTw_self] at hu; cases hu
  unfold wCl
  cases c with
  | zero => rw [wClf, if_neg hne]
  | succ c => rw [wClf, if_neg hne, wFe_none h hc hu]; rfl
theorem wCl_some (h : wCok C t) : ∀ c a b, c < Wn C → wTw C c b = true → ∃ r, wCl C c a b = some r := by
  intro c
  induction c using Nat.strongRecOn with
  | ind c ih =>
    intro a b hc hu
    by_cases e : c = b
    · rw [e]; exact ⟨a, wCl_here b a⟩
    · obtain ⟨k, k1, k2, k3, _⟩ := wFe_some h hc hu e
      have k4 := (h.2.2.2.1 c k hc k2).1
      rw [wCl_step h a hc e k1]
      exact ih _ k4 _ b (by omega) k3
theorem wCl_tw (h : wCok C t) {c a b r : Nat} (hc : c < Wn C) (q : wCl C c a b = some r) : wTw C c b = true := by
  cases w : wTw C c b with
  | true => rfl
  | false => rw [wCl_none h a hc w] at q; cases q
/-- the own ARGUMENT put in for the PARAMETER -/
theorem wSb_sb (a b c : Nat) : wSb (wSb a b) c = wSb a (wSb b c) := by
  unfold wSb
  by_cases h : c = 3
  · rw [if_pos h, if_pos h]
  · rw [if_neg h, if_neg h, if_neg h]
theorem wSb_3 (c : Nat) : wSb 3 c = c := by
  unfold wSb
  by_cases h : c = 3
  · rw [if_pos h, h]
  · rw [if_neg h]
theorem wCl_sub (h : wCok C t) : ∀ c a b, c < Wn C → wCl C c a b = (wCl C c 3 b).map (wSb a) := by
  have gen : ∀ c a d b, c < Wn C → wCl C c (wSb a d) b = (wCl C c d b).map (wSb a) := by
    intro c
    induction c using Nat.strongRecOn with
    | ind c ih =>
      intro a d b hc
      by_cases e : c = b
      · rw [e, wCl_here, wCl_here]; rfl
      · cases hu : wTw C c b with
        | false => rw [wCl_none h _ hc hu, wCl_none h _ hc hu]; rfl
        | true =>
          obtain ⟨k, k1, k2, k3, _⟩ := wFe_some h hc hu e
          have k4 := (h.2.2.2.1 c k hc k2).1
          rw [wCl_step h _ hc e k1, wCl_step h _ hc e k1, wSb_sb]
          exact ih _ k4 _ _ b (by omega)
  intro c a b hc
  exact gen c a 3 b hc
/-- every edge toward a GENERIC class leads to it with the same ARGUMENT -/
theorem wCl_edge (h : wCok C t) {c b k : Nat} (a : Nat) (hc : c < Wn C) (hb : b < Wn C) (hg : Wg C b = true) (hk : k < Wd C c) (hu : wTw C (Wo C c k) b = true) : wCl C c a b = wCl C (Wo C c k) (wSb a (Wa C c k)) b := by
  have k4 := (h.2.2.2.1 c k hc hk).1
  rw [wCl_sub h c a b hc, h.2.2.2.2.2.2.1 c b k hc hb hg hk hu, wCl_sub h _ (Wa C c k) b (by omega), wCl_sub h _ (wSb a (Wa C c k)) b (by omega)]
  cases wCl C (Wo C c k) 3 b with
  | none => rfl
  | some r =>
    show some (wSb a (wSb (Wa C c k) r)) = some (wSb (wSb a (Wa C c k)) r)
    rw [wSb_sb]
theorem wCl_path (h : wCok C t) : ∀ c a b d r, c < Wn C → wCl C c a b = some r → wTw C b d = true → Wg C d = true → wCl C c a d = wCl C b r d := by
  intro c
  induction c using Nat.strongRecOn with
  | ind c ih =>
    intro a b d r hc h1 h2 h3
    by_cases e : c = b
    · rw [e, wCl_here] at h1
      cases h1
      rw [e]
    · have hu := wCl_tw h hc h1
      obtain ⟨k, k1, k2, k3, _⟩ := wFe_some h hc hu e
      have k4 := (h.2.2.2.1 c k hc k2).1
      have hb := wTw_le h hc hu
      have hd := wTw_le h (show b < Wn C by omega) h2
      rw [wCl_step h a hc e k1] at h1
      rw [wCl_edge h a hc (by omega) h3 k2 (wTw_tr h (by omega) k3 h2)]
      exact ih _ k4 _ b d r (by omega) h1 h2 h3
/-- an own ARGUMENT is as its class is -/
def wOk (t : Nat) (g : Bool) (a : Nat) : Prop := (g = false ∧ a = 0) ∨ (g = true ∧ ∃ x, 8 ≤ x ∧ x < t ∧ (a = 4 * x + 1 ∨ a = 4 * x + 2))
theorem wOk_mono {t' : Nat} {g : Bool} {a : Nat} (h : wOk t g a) (ht : t ≤ t') : wOk t' g a := by
  rcases h with h | ⟨h1, x, h2, h3, h4⟩
  · exact Or.inl h
  · exact Or.inr ⟨h1, x, h2, by omega, h4⟩
theorem wCl_ok (h : wCok C t) : ∀ c a b r, c < Wn C → wOk t (Wg C c) a → wCl C c a b = some r → wOk t (Wg C b) r := by
  intro c
  induction c using Nat.strongRecOn with
  | ind c ih =>
    intro a b r hc ho h1
    by_cases e : c = b
    · rw [e, wCl_here] at h1
      cases h1
      rw [← e]; exact ho
    · obtain ⟨k, k1, k2, k3, _⟩ := wFe_some h hc (wCl_tw h hc h1) e
      obtain ⟨k4, k5⟩ := h.2.2.2.1 c k hc k2
      rw [wCl_step h a hc e k1] at h1
      refine ih _ k4 _ b r (by omega) ?_ h1
      rcases k5 with ⟨q1, q2⟩ | ⟨q1, ⟨x, x1, x2, x3⟩ | ⟨q2, q3⟩⟩
      · rw [q2]; exact Or.inl ⟨q1, rfl⟩
      · rw [x3]
        unfold wSb
        rw [if_neg (by omega)]
        exact Or.inr ⟨q1, x, x1, x2, Or.inl rfl⟩
      · rw [q2]
        unfold wSb
        rw [if_pos rfl]
        rcases ho with ⟨w1, _⟩ | ⟨_, w2⟩
        · rw [w1] at q3; cases q3
        · exact Or.inr ⟨q1, w2⟩
end
