/-! Tier 3: the class puts PARTS into the order of their classes. -/
def wFi (T : wWt) (m : List Nat) (c : Nat) : Option Nat := m.find? (fun p => decide (dX (Ty T p) = c))
def wAl (C : wWc) (T : wWt) (m : List Nat) : Prop := m.Pairwise (fun p q => dX (Ty T p) ≠ dX (Ty T q)) ∧ (m.filter (fun p => !(Wf C (dX (Ty T p))))).length ≤ 1
def wCr (T : wWt) (m : List Nat) : Nat → List Nat
  | 0 => []
  | c + 1 => wCr T m c ++ (wFi T m c).toList
theorem wFi_some {T : wWt} {m : List Nat} {c p : Nat} (h : wFi T m c = some p) : p ∈ m ∧ dX (Ty T p) = c :=
  ⟨List.mem_of_find?_eq_some h, of_decide_eq_true (List.find?_some (p := fun p => decide (dX (Ty T p) = c)) h)⟩
theorem wFi_ex {T : wWt} {m : List Nat} {p : Nat} (h : p ∈ m) : ∃ q, wFi T m (dX (Ty T p)) = some q := by
  cases e : wFi T m (dX (Ty T p)) with
  | some q => exact ⟨q, rfl⟩
  | none =>
    have := List.find?_eq_none.mp e p h
    exact absurd (decide_eq_true rfl) this
theorem wPw_inj {T : wWt} : ∀ {m : List Nat}, m.Pairwise (fun p q => dX (Ty T p) ≠ dX (Ty T q)) → ∀ p q, p ∈ m → q ∈ m → dX (Ty T p) = dX (Ty T q) → p = q := by
  intro m
  induction m with
  | nil => intro _ p q hp; exact absurd hp (by simp)
  | cons x m ih =>
    intro h p q hp hq e
    obtain ⟨h1, h2⟩ := List.pairwise_cons.mp h
    rcases List.mem_cons.mp hp with a | a
    · rcases List.mem_cons.mp hq with b | b
      · rw [a, b]
      · exact absurd (by rw [← a]; exact e) (h1 q b)
    · rcases List.mem_cons.mp hq with b | b
      · exact absurd (by rw [← b]; exact e.symm) (h1 p a)
      · exact ih h2 p q a b e
theorem wCr_mem {T : wWt} {m : List Nat} : ∀ c p, p ∈ wCr T m c ↔ ∃ k, k < c ∧ wFi T m k = some p := by
  intro c
  induction c with
  | zero => intro p; exact ⟨fun h => absurd h (by simp [wCr]), fun ⟨k, k1, _⟩ => by omega⟩
  | succ c ih =>
    intro p
    rw [wCr, List.mem_append, ih p]
    constructor
    · rintro (⟨k, k1, k2⟩ | h)
      · exact ⟨k, by omega, k2⟩
      · exact ⟨c, by omega, by simpa using h⟩
    · rintro ⟨k, k1, k2⟩
      by_cases e : k = c
      · subst e; exact Or.inr (by simp [k2])
      · exact Or.inl ⟨k, by omega, k2⟩
theorem wCr_len {T : wWt} {m : List Nat} : ∀ c, (wCr T m c).length ≤ c := by
  intro c
  induction c with
  | zero => exact Nat.le_refl 0
  | succ c ih =>
    rw [wCr, List.length_append]
    cases wFi T m c with
    | none => show _ + 0 ≤ _; omega
    | some p => show _ + 1 ≤ _; omega
theorem wCr_so {T : wWt} {m : List Nat} (hm : m.Pairwise (fun p q => dX (Ty T p) ≠ dX (Ty T q))) (h30 : ∀ p, p ∈ m → dX (Ty T p) < 30) : wSo T (wCr T m 30) m := by
  have pw : ∀ c, (wCr T m c).Pairwise (fun a b => dX (Ty T a) < dX (Ty T b)) := by
    intro c
    induction c with
    | zero => exact List.Pairwise.nil
    | succ c ih =>
      rw [wCr, List.pairwise_append]
      refine ⟨ih, ?_, fun a ha b hb => ?_⟩
      · cases wFi T m c with
        | none => exact List.Pairwise.nil
        | some p => exact List.pairwise_singleton _ _
      · obtain ⟨k, k1, k2⟩ := (wCr_mem c a).mp ha
        have e : wFi T m c = some b := by simpa using hb
        rw [(wFi_some k2).2, (wFi_some e).2]; exact k1
  refine ⟨pw 30, fun x => ⟨fun hx => ?_, fun hx => ?_⟩⟩
  · obtain ⟨k, _, k2⟩ := (wCr_mem 30 x).mp hx
    exact (wFi_some k2).1
  · obtain ⟨q, hq⟩ := wFi_ex (T := T) hx
    have := wPw_inj hm q x (wFi_some hq).1 hx (wFi_some hq).2
    rw [this] at hq
    exact (wCr_mem 30 x).mpr ⟨_, h30 x hx, hq⟩
section
variable {C : wWc} {T0 T : wWt} {g : Nat}
theorem r_L_cr4 {σ : StL} {m : List Nat} (hm : ∀ p, p ∈ m → p < 300) : ∀ (f c : Nat) (τ : StL), c ≤ 30 → rLq σ τ → L_answers τ = L_answers σ → (∀ k, c ≤ k → k < 30 → L_row τ k = wIo (wFi T m k)) → vFn (L_row τ) (wCr T m c) → k_pc (f_L_closeRow_4 f τ (nI (wCr T m c).length) (nI c)) (fun q => q.1 = nI (wCr T m 30).length ∧ rLq σ q.2 ∧ L_answers q.2 = L_answers σ ∧ vFn (L_row q.2) (wCr T m 30)) := by
  intro f
  induction f with
  | zero => intro c τ _ _ _ _ _; exact p_none
  | succ f ih =>
    intro c τ hc h1 h2 h3 h4
    have cl := wCr_len (T := T) (m := m) c
    rw [f_L_closeRow_4]
    unfold f_L_closeRow_4_s
    refine p_if (fun z => p_some ?_) (fun z => ?_)
    · have z2 : nI 30 ≤ nI c := z
      rw [nI_leI (by decide) (by omega)] at z2
      have ec : c = 30 := by omega
      subst ec
      exact ⟨rfl, h1, h2, h4⟩
    · have z2 : ¬ nI 30 ≤ nI c := z
      rw [nI_leI (by decide) (by omega)] at z2
      rw [nI_clamp (show c < 2 ^ 31 by omega), h3 c (Nat.le_refl c) (by omega), nI_1]
      refine p_guard (fun _ => ?_)
      cases e : wFi T m c with
      | none =>
        refine p_if (fun _ => ?_) (fun y => absurd rfl y)
        have e2 : wCr T m (c + 1) = wCr T m c := by rw [wCr, e]; simp
        have := ih (c + 1) τ (by omega) h1 h2 (fun k hk hk2 => h3 k (by omega) hk2) (by rw [e2]; exact h4)
        rw [e2] at this
        exact this
      | some p =>
        have pm := hm p (wFi_some e).1
        refine p_if (fun y => absurd y (k_ne1 (by omega))) (fun _ => p_guard (fun _ => p_guard (fun _ => ?_)))
        have e2 : wCr T m (c + 1) = wCr T m c ++ [p] := by rw [wCr, e]; rfl
        have e3 : nI (wCr T m c).length + 1 = nI (wCr T m (c + 1)).length := by
          rw [nI_1, e2, List.length_append]; rfl
        have cc : (nI (wCr T m c).length).toNatClampNeg = (wCr T m c).length := nI_clamp (by omega)
        rw [e3]
        refine ih (c + 1) _ (by omega) (rLq_trans h1 ⟨rfl, rfl, rfl⟩) h2 (fun k hk hk2 => ?_) ?_
        · show upd (L_row τ) (nI (wCr T m c).length).toNatClampNeg (nI p) k = _
          rw [cc, k_updn (by omega)]; exact h3 k (by omega) hk2
        · show vFn (upd (L_row τ) (nI (wCr T m c).length).toNatClampNeg (nI p)) _
          rw [cc, e2]; exact vFn_add h4
end
