/-! Tier 3: tables of classes that agree below n; one more class. -/
def wAgr (n : Nat) (C C' : wWc) : Prop := ∀ c, c < n → Wf C' c = Wf C c ∧ Wg C' c = Wg C c ∧ Wd C' c = Wd C c ∧ (∀ k, k < Wd C c → Wo C' c k = Wo C c k ∧ Wa C' c k = Wa C c k ∧ Wo C c k < c) ∧ ∀ b, Wu C' c b = Wu C c b
theorem wfs_eq {p q : Nat → Bool} : ∀ (f i : Nat), (∀ j, i ≤ j → j < i + f → p j = q j) → wfs p f i = wfs q f i := by
  intro f
  induction f with
  | zero => intro i _; rfl
  | succ f ih =>
    intro i h
    rw [wfs, wfs, h i (Nat.le_refl i) (by omega), ih (i + 1) (fun j h1 h2 => h j (by omega) (by omega))]
section
variable {C C' : wWc} {n : Nat}
theorem wTw_agr (h : wAgr n C C') {c : Nat} (hc : c < n) (b : Nat) : wTw C' c b = wTw C c b := by
  unfold wTw; rw [(h c hc).2.2.2.2 b]
theorem wFe_agr (h : wAgr n C C') {c : Nat} (hc : c < n) (b : Nat) : wFe C' c b = wFe C c b := by
  obtain ⟨_, _, h3, h4, _⟩ := h c hc
  unfold wFe
  rw [h3]
  refine wfs_eq _ _ (fun j _ hj => ?_)
  obtain ⟨e1, _, e3⟩ := h4 j (by omega)
  show wTw C' (Wo C' c j) b = wTw C (Wo C c j) b
  rw [e1, wTw_agr h (by omega)]
theorem wClf_agr (h : wAgr n C C') (b : Nat) : ∀ (f c a : Nat), c < n → wClf C' b f c a = wClf C b f c a := by
  intro f
  induction f with
  | zero => intro c a _; rfl
  | succ f ih =>
    intro c a hc
    rw [wClf, wClf, wFe_agr h hc]
    by_cases e : c = b
    · rw [if_pos e, if_pos e]
    · rw [if_neg e, if_neg e]
      cases q : wFe C c b with
      | none => rfl
      | some k =>
        obtain ⟨_, k2, _, _⟩ := wfs_some q
        obtain ⟨e1, e2, e3⟩ := (h c hc).2.2.2.1 k (by omega)
        show wClf C' b f (Wo C' c k) (wSb a (Wa C' c k)) = wClf C b f (Wo C c k) (wSb a (Wa C c k))
        rw [e1, e2]
        exact ih _ _ (by omega)
theorem wCl_agr (h : wAgr n C C') {c : Nat} (a b : Nat) (hc : c < n) : wCl C' c a b = wCl C c a b := wClf_agr h b c c a hc
/-- one class more -/
def wDcl (C : wWc) (f g : Bool) : wWc := (Wn C + 1, wUp (Wf C) (Wn C) f, wUp (Wg C) (Wn C) g, wUp (Wd C) (Wn C) 1, wUp (Wo C) (Wn C) (fun _ => 0), wUp (Wa C) (Wn C) (fun _ => 0), wUp (Wu C) (Wn C) (fun b => decide (b = 0)))
theorem wDcl_agr {t : Nat} (h : wCok C t) (f g : Bool) : wAgr (Wn C) C (wDcl C f g) := by
  intro c hc
  have ne : c ≠ Wn C := by omega
  have e4 : Wo (wDcl C f g) c = Wo C c := wUp_n ne
  have e5 : Wa (wDcl C f g) c = Wa C c := wUp_n ne
  have e6 : Wu (wDcl C f g) c = Wu C c := wUp_n ne
  exact ⟨wUp_n ne, wUp_n ne, wUp_n ne, fun k hk => ⟨by rw [e4], by rw [e5], (h.2.2.2.1 c k hc hk).1⟩, fun b => by rw [e6]⟩
theorem wDcl_ok {t : Nat} (h : wCok C t) (hn : Wn C < 30) (f g : Bool) : wCok (wDcl C f g) t := by
  have ag := wDcl_agr h f g
  have n13 := h.1
  have nN : Wn (wDcl C f g) = Wn C + 1 := rfl
  have dN : Wd (wDcl C f g) (Wn C) = 1 := wUp_s
  have oN : Wo (wDcl C f g) (Wn C) = fun _ => 0 := wUp_s
  have aN : Wa (wDcl C f g) (Wn C) = fun _ => 0 := wUp_s
  have uN : Wu (wDcl C f g) (Wn C) = fun b => decide (b = 0) := wUp_s
  have g0 : Wg (wDcl C f g) 0 = false := by rw [(ag 0 (by omega)).2.1]; exact h.2.2.2.2.2.2.2.1 0 (by omega)
  have u0 : ∀ b, Wu C 0 b = false := by
    intro b
    cases e : Wu C 0 b with
    | false => rfl
    | true => have := wUp_lt h 0 b (by omega) e; omega
  have t0 : ∀ b, wTw (wDcl C f g) 0 b = decide (b = 0) := by
    intro b
    rw [wTw_agr ag (show 0 < Wn C by omega)]
    unfold wTw
    rw [u0 b, Bool.or_false]
    by_cases e : b = 0
    · rw [decide_eq_true e, decide_eq_true e.symm]
    · rw [decide_eq_false e, decide_eq_false (fun q => e q.symm)]
  refine ⟨by omega, by omega, fun c hc => ?_, fun c k hc hk => ?_, fun c k l hc hkl hl => ?_, fun c b hc => ?_, fun c b k hc hb hg hk hu => ?_, fun c hc => ?_, fun c b hc hu => ?_⟩
  · by_cases e : c = Wn C
    · rw [e, dN]; exact ⟨by omega, fun _ => by omega⟩
    · rw [(ag c (by omega)).2.2.1]; exact h.2.2.1 c (by omega)
  · by_cases e : c = Wn C
    · subst e
      rw [oN, aN]
      exact ⟨by show 0 < Wn C; omega, Or.inl ⟨g0, rfl⟩⟩
    · obtain ⟨a1, a2, a3, a4, a5⟩ := ag c (by omega)
      rw [a3] at hk
      obtain ⟨b1, b2, b3⟩ := a4 k hk
      rw [b1, b2, a2, (ag (Wo C c k) (by omega)).2.1]
      exact h.2.2.2.1 c k (by omega) hk
  · by_cases e : c = Wn C
    · rw [e, dN] at hl; omega
    · obtain ⟨a1, a2, a3, a4, a5⟩ := ag c (by omega)
      rw [a3] at hl
      rw [(a4 k (by omega)).1, (a4 l hl).1]
      exact h.2.2.2.2.1 c k l (by omega) hkl hl
  · by_cases e : c = Wn C
    · subst e
      rw [uN, dN]
      constructor
      · intro w
        refine ⟨0, by omega, ?_⟩
        rw [oN, t0]; exact w
      · rintro ⟨k, _, w⟩
        rw [oN, t0] at w; exact w
    · obtain ⟨a1, a2, a3, a4, a5⟩ := ag c (by omega)
      rw [a5 b, a3, h.2.2.2.2.2.1 c b (by omega)]
      constructor
      · rintro ⟨k, k1, k2⟩
        obtain ⟨b1, _, b3⟩ := a4 k k1
        exact ⟨k, k1, by rw [b1, wTw_agr ag (by omega)]; exact k2⟩
      · rintro ⟨k, k1, k2⟩
        obtain ⟨b1, _, b3⟩ := a4 k k1
        rw [b1, wTw_agr ag (by omega)] at k2
        exact ⟨k, k1, k2⟩
  · by_cases e : c = Wn C
    · subst e
      rw [oN, t0] at hu
      have b0 := of_decide_eq_true hu
      rw [b0, g0] at hg; cases hg
    · obtain ⟨a1, a2, a3, a4, a5⟩ := ag c (by omega)
      rw [a3] at hk
      obtain ⟨b1, b2, b3⟩ := a4 k hk
      rw [b1, wTw_agr ag (by omega)] at hu
      have bl := wTw_le h (show Wo C c k < Wn C by omega) hu
      rw [(ag b (by omega)).2.1] at hg
      rw [wCl_agr ag 3 b (by omega), b1, b2, wCl_agr ag _ b (by omega)]
      exact h.2.2.2.2.2.2.1 c b k (by omega) (by omega) hg hk hu
  · rw [(ag c (by omega)).2.1]; exact h.2.2.2.2.2.2.2.1 c hc
  · rw [(ag c (by omega)).2.2.2.2 b] at hu; exact h.2.2.2.2.2.2.2.2 c b hc hu
end
