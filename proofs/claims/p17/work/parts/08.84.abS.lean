/-! Tier 3: class c gets an edge: the tables. -/
def wSet (C : wWc) (c k to A : Nat) : wWc := (Wn C, Wf C, Wg C, wUp (Wd C) c (if Wd C c < k + 1 then k + 1 else Wd C c), wUp (Wo C) c (wUp (Wo C c) k to), wUp (Wa C) c (wUp (Wa C c) k A), wUp (Wu C) c (fun b => Wu C c b || wTw C to b))
def wArOk (C : wWc) (t c to A : Nat) : Prop := (Wg C to = false ∧ A = 0) ∨ (Wg C to = true ∧ ((∃ x, 8 ≤ x ∧ x < t ∧ A = 4 * x + 1) ∨ (A = 3 ∧ Wg C c = true)))
section
variable {C : wWc} {t : Nat}
theorem wSet_agr (h : wCok C t) {c k to A : Nat} (hc : c < Wn C) : wAgr c C (wSet C c k to A) := by
  intro x hx
  have ne : x ≠ c := by omega
  have e4 : Wo (wSet C c k to A) x = Wo C x := wUp_n ne
  have e5 : Wa (wSet C c k to A) x = Wa C x := wUp_n ne
  have e6 : Wu (wSet C c k to A) x = Wu C x := wUp_n ne
  exact ⟨rfl, rfl, wUp_n ne, fun j hj => ⟨by rw [e4], by rw [e5], (h.2.2.2.1 x j (by omega) hj).1⟩, fun b => by rw [e6]⟩
theorem wTw_root (h : wCok C t) {c : Nat} (hc : c < Wn C) : wTw C c 0 = true := wTw_0 (T := (t, fun _ => (0, 0, 0, []), fun _ => 0)) h c hc
theorem wTw_of0 (h : wCok C t) {b : Nat} (q : wTw C 0 b = true) : b = 0 := by
  have n13 := h.1
  have := wTw_le h (show 0 < Wn C by omega) q
  omega
theorem wSet_ok (h : wCok C t) {c k to A : Nat} (hc : c + 1 = Wn C) (h13 : 13 ≤ c) (hto : to < c) (hA : wArOk C t c to A) (hno : ∀ j, j < Wd C c → Wo C c j ≠ to) (hk : k = Wd C c ∨ (k = 0 ∧ Wo C c 0 = 0))
    (hcl : ∀ b, b < Wn C → Wg C b = true → Wu C c b = true → wTw C to b = true → wCl C c 3 b = wCl C to A b) : wCok (wSet C c k to A) t := by
  have ag : wAgr c C (wSet C c k to A) := wSet_agr h (by omega)
  have hd0 := (h.2.2.1 c (by omega)).2 (by omega)
  have dN : Wd (wSet C c k to A) c = (if Wd C c < k + 1 then k + 1 else Wd C c) := wUp_s
  have oN : Wo (wSet C c k to A) c = wUp (Wo C c) k to := wUp_s
  have aN : Wa (wSet C c k to A) c = wUp (Wa C c) k A := wUp_s
  have uN : Wu (wSet C c k to A) c = fun b => Wu C c b || wTw C to b := wUp_s
  obtain ⟨D, hD⟩ : ∃ D, D = (if Wd C c < k + 1 then k + 1 else Wd C c) := ⟨_, rfl⟩
  rw [← hD] at dN
  have kD : k < D ∧ Wd C c ≤ D ∧ ∀ j, j < D → j ≠ k → j < Wd C c := by
    rcases hk with e | ⟨e, _⟩
    · rw [if_pos (by omega)] at hD
      exact ⟨by omega, by omega, fun j j1 j2 => by omega⟩
    · rw [if_neg (by omega)] at hD
      exact ⟨by omega, by omega, fun j j1 j2 => by omega⟩
  obtain ⟨kD1, kD2, kD3⟩ := kD
  have oE : ∀ j, j < D → Wo (wSet C c k to A) c j < c := by
    intro j hj
    rw [oN]
    by_cases e : j = k
    · rw [e, wUp_s]; exact hto
    · rw [wUp_n e]; exact (h.2.2.2.1 c j (by omega) (kD3 j hj e)).1
  have dist : ∀ i j, i < j → j < D → Wo (wSet C c k to A) c i ≠ Wo (wSet C c k to A) c j := by
    intro i j ij hj
    rw [oN]
    by_cases e1 : i = k
    · by_cases e2 : j = k
      · omega
      · rw [e1, wUp_s, wUp_n e2]
        exact fun q => hno j (kD3 j hj e2) q.symm
    · by_cases e2 : j = k
      · rw [e2, wUp_s, wUp_n e1]
        exact hno i (kD3 i (by omega) e1)
      · rw [wUp_n e1, wUp_n e2]
        exact h.2.2.2.2.1 c i j (by omega) ij (kD3 j hj e2)
  have tw : ∀ x, x < c → ∀ b, wTw (wSet C c k to A) x b = wTw C x b := fun x hx b => wTw_agr ag hx b
  have uE : ∀ b, Wu (wSet C c k to A) c b = true ↔ ∃ j, j < D ∧ wTw C (Wo (wSet C c k to A) c j) b = true := by
    intro b
    rw [uN, oN]
    show (Wu C c b || wTw C to b) = true ↔ _
    constructor
    · intro q
      by_cases w : wTw C to b = true
      · exact ⟨k, kD1, by rw [wUp_s]; exact w⟩
      · have w2 : Wu C c b = true := by
          cases e : Wu C c b with
          | true => rfl
          | false =>
            rw [e, Bool.false_or] at q
            exact absurd q w
        obtain ⟨j, j1, j2⟩ := (h.2.2.2.2.2.1 c b (by omega)).mp w2
        by_cases e : j = k
        · rcases hk with e2 | ⟨e2, e3⟩
          · omega
          · rw [e, e2, e3] at j2
            rw [wTw_of0 h j2] at w
            exact absurd (wTw_root h (by omega)) w
        · exact ⟨j, by omega, by rw [wUp_n e]; exact j2⟩
    · rintro ⟨j, j1, j2⟩
      by_cases e : j = k
      · rw [e, wUp_s] at j2
        rw [j2, Bool.or_true]
      · rw [wUp_n e] at j2
        rw [(h.2.2.2.2.2.1 c b (by omega)).mpr ⟨j, kD3 j j1 e, j2⟩, Bool.true_or]
  have eE : ∀ b, b < Wn C → Wg C b = true → ∀ i j, i < D → j < D → wTw C (Wo (wSet C c k to A) c i) b = true → wTw C (Wo (wSet C c k to A) c j) b = true → wCl C (Wo (wSet C c k to A) c i) (Wa (wSet C c k to A) c i) b = wCl C (Wo (wSet C c k to A) c j) (Wa (wSet C c k to A) c j) b := by
    intro b hb hg
    have one : Wu C c b = true → ∀ i, i < D → wTw C (Wo (wSet C c k to A) c i) b = true → wCl C (Wo (wSet C c k to A) c i) (Wa (wSet C c k to A) c i) b = wCl C c 3 b := by
      intro hu i hi w
      rw [oN] at w ⊢
      rw [aN]
      by_cases e : i = k
      · rw [e, wUp_s] at w ⊢
        rw [wUp_s]
        exact (hcl b hb hg hu w).symm
      · rw [wUp_n e] at w ⊢
        rw [wUp_n e]
        exact (h.2.2.2.2.2.2.1 c b i (by omega) hb hg (kD3 i hi e) w).symm
    intro i j hi hj wi wj
    by_cases hu : Wu C c b = true
    · rw [one hu i hi wi, one hu j hj wj]
    · have only : ∀ i, i < D → wTw C (Wo (wSet C c k to A) c i) b = true → i = k := by
        intro i hi w
        rw [oN] at w
        by_cases e : i = k
        · exact e
        · rw [wUp_n e] at w
          exact absurd ((h.2.2.2.2.2.1 c b (by omega)).mpr ⟨i, kD3 i hi e, w⟩) hu
      rw [only i hi wi, only j hj wj]
  refine ⟨h.1, h.2.1, fun x hx => ?_, fun x j hx hj => ?_, fun x i j hx hij hj => ?_, fun x b hx => ?_, fun x b j hx hb hg hj hu => ?_, h.2.2.2.2.2.2.2.1, fun x b hx hu => ?_⟩
  · replace hx : x < Wn C := hx
    by_cases e : x = c
    · subst e
      rw [dN]
      exact ⟨k_pigeon x D (Wo (wSet C x k to A) x) oE dist, fun _ => by omega⟩
    · rw [(ag x (by omega)).2.2.1]; exact h.2.2.1 x hx
  · replace hx : x < Wn C := hx
    by_cases e : x = c
    · subst e
      rw [dN] at hj
      refine ⟨oE j hj, ?_⟩
      rw [oN, aN]
      by_cases e2 : j = k
      · rw [e2, wUp_s, wUp_s]; exact hA
      · rw [wUp_n e2, wUp_n e2]; exact (h.2.2.2.1 x j hx (kD3 j hj e2)).2
    · obtain ⟨a1, a2, a3, a4, a5⟩ := ag x (by omega)
      rw [a3] at hj
      obtain ⟨b1, b2, b3⟩ := a4 j hj
      rw [b1, b2]
      exact h.2.2.2.1 x j hx hj
  · replace hx : x < Wn C := hx
    by_cases e : x = c
    · subst e
      rw [dN] at hj
      exact dist i j hij hj
    · obtain ⟨a1, a2, a3, a4, a5⟩ := ag x (by omega)
      rw [a3] at hj
      rw [(a4 i (by omega)).1, (a4 j hj).1]
      exact h.2.2.2.2.1 x i j hx hij hj
  · replace hx : x < Wn C := hx
    by_cases e : x = c
    · subst e
      rw [dN, uE b]
      constructor
      · rintro ⟨j, j1, j2⟩
        exact ⟨j, j1, by rw [tw _ (oE j j1)]; exact j2⟩
      · rintro ⟨j, j1, j2⟩
        exact ⟨j, j1, by rw [tw _ (oE j j1)] at j2; exact j2⟩
    · obtain ⟨a1, a2, a3, a4, a5⟩ := ag x (by omega)
      rw [a5 b, a3, h.2.2.2.2.2.1 x b hx]
      constructor
      · rintro ⟨j, k1, k2⟩
        obtain ⟨b1, _, b3⟩ := a4 j k1
        exact ⟨j, k1, by rw [b1, tw _ (by omega)]; exact k2⟩
      · rintro ⟨j, k1, k2⟩
        obtain ⟨b1, _, b3⟩ := a4 j k1
        rw [b1, tw _ (by omega)] at k2
        exact ⟨j, k1, k2⟩
  · replace hx : x < Wn C := hx
    replace hb : b < Wn C := hb
    replace hg : Wg C b = true := hg
    by_cases e : x = c
    · subst e
      rw [dN] at hj
      have oj := oE j hj
      rw [tw _ oj] at hu
      have bl := wTw_le h (show Wo (wSet C x k to A) x j < Wn C by omega) hu
      rw [wCl_agr ag _ b oj]
      cases q : wFe (wSet C x k to A) x b with
      | none =>
        have := wfs_none q j (by omega) (by rw [dN]; omega)
        replace this : wTw (wSet C x k to A) (Wo (wSet C x k to A) x j) b = false := this
        rw [tw _ oj, hu] at this; cases this
      | some i =>
        obtain ⟨i1, i2, i3, i4⟩ := wfs_some q
        rw [dN] at i2
        replace i3 : wTw (wSet C x k to A) (Wo (wSet C x k to A) x i) b = true := i3
        have oi := oE i (by omega)
        rw [tw _ oi] at i3
        rw [← eE b hb hg i j (by omega) hj i3 hu]
        have ef : wCl (wSet C x k to A) x 3 b = wClf (wSet C x k to A) b (x - 1 + 1) x 3 := by
          unfold wCl
          rw [show x - 1 + 1 = x by omega]
        rw [ef, wClf, if_neg (by omega), q]
        show wClf (wSet C x k to A) b (x - 1) (Wo (wSet C x k to A) x i) (wSb 3 (Wa (wSet C x k to A) x i)) = _
        rw [wSb_3, wClf_agr ag b _ _ _ oi]
        exact wClf_fuel h b _ _ _ _ (by omega) (by omega) (by omega)
    · obtain ⟨a1, a2, a3, a4, a5⟩ := ag x (by omega)
      rw [a3] at hj
      obtain ⟨b1, b2, b3⟩ := a4 j hj
      rw [b1, tw _ (by omega)] at hu
      rw [wCl_agr ag 3 b (by omega), b1, b2, wCl_agr ag _ b (by omega)]
      exact h.2.2.2.2.2.2.1 x b j hx hb hg hj hu
  · rw [(ag x (by omega)).2.2.2.2 b] at hu; exact h.2.2.2.2.2.2.2.2 x b hx hu
end
