/-! Tier 3: in LOWER two PARTS stay at least. -/
theorem wFirst : ∀ (l : List Nat) (x : Nat), x ∈ l → ∃ i, i < l.length ∧ l.getD i 0 = x ∧ ∀ j, j < i → l.getD j 0 ≠ x := by
  intro l
  induction l with
  | nil => intro x h; exact absurd h (by simp)
  | cons y l ih =>
    intro x h
    by_cases e : y = x
    · exact ⟨0, by simp, by simp [e], fun j hj => by omega⟩
    · have h2 : x ∈ l := by
        rcases List.mem_cons.mp h with a | a
        · exact absurd a.symm e
        · exact a
      obtain ⟨i, i1, i2, i3⟩ := ih x h2
      refine ⟨i + 1, by rw [List.length_cons]; omega, by simpa using i2, fun j hj => ?_⟩
      cases j with
      | zero => simpa using e
      | succ j => have := i3 j (by omega); simpa using this
theorem getD_mem {l : List Nat} {k : Nat} (h : k < l.length) : l.getD k 0 ∈ l := by
  rw [getD_is h]; exact List.getElem_mem h
section
variable {C : wWc} {T : wWt}
theorem wKl_stay {l : List Nat} {x : Nat} (hx : x ∈ l) (h : ∀ y, y ∈ l → y ≠ x → ¬ wB C T y x) : x ∈ wKl C T l l.length := by
  obtain ⟨i, i1, i2, i3⟩ := wFirst l x hx
  refine (wKl_mem l.length x).mpr ⟨i, i1, fun j hj => ⟨fun e w => i3 j w (by rw [e]; exact i2), fun e => ?_⟩, i2.symm⟩
  rw [i2] at e ⊢
  exact h _ (getD_mem hj) e
theorem wLow_two (h : wOK C T) {a b : Nat} (ha : a < Tn T) (hb : b < Tn T) (hpa : wPs T a ≠ []) (hpb : wPs T b ≠ []) (h1 : ¬ wB C T a b) (h2 : ¬ wB C T b a) : 2 ≤ (wKl C T (wPs T a ++ wPs T b) (wPs T a ++ wPs T b).length).length := by
  obtain ⟨x, x1, x2, x3⟩ := wB_stays h ha hb hpa hpb h1
  obtain ⟨y, y1, y2, y3⟩ := wB_stays h hb ha hpb hpa h2
  have mx : x ∈ wKl C T (wPs T a ++ wPs T b) (wPs T a ++ wPs T b).length := by
    refine wKl_stay (List.mem_append_right _ x1) (fun z hz ne => ?_)
    rcases List.mem_append.mp hz with w | w
    · exact x2 z w
    · exact x3 z w ne
  have my : y ∈ wKl C T (wPs T a ++ wPs T b) (wPs T a ++ wPs T b).length := by
    refine wKl_stay (List.mem_append_left _ y1) (fun z hz ne => ?_)
    rcases List.mem_append.mp hz with w | w
    · exact y3 z w ne
    · exact y2 z w
  have ne : x ≠ y := by
    intro e
    rw [e] at x2
    exact x2 y y1 (wB_refl h (wPs_ok h.2 ha y1).2.1)
  generalize wKl C T (wPs T a ++ wPs T b) (wPs T a ++ wPs T b).length = m at mx my
  match m, mx, my with
  | [], mx, _ => exact absurd mx (by simp)
  | [p], mx, my =>
    rw [List.mem_singleton] at mx my
    exact absurd (mx.trans my.symm) ne
  | p :: q :: m, _, _ => simp
theorem wKl_ok (h : wTok C T) {a b : Nat} (ha : a < Tn T) (hb : b < Tn T) (n : Nat) (hn : n ≤ (wPs T a ++ wPs T b).length) : ∀ p, p ∈ wKl C T (wPs T a ++ wPs T b) n → 8 ≤ p ∧ p < Tn T ∧ dK (Ty T p) = 1 := by
  intro p hp
  obtain ⟨j, j1, _, j3⟩ := (wKl_mem n p).mp hp
  have := getD_mem (show j < (wPs T a ++ wPs T b).length by omega)
  rw [← j3] at this
  rcases List.mem_append.mp this with w | w
  · exact wPs_ok h ha w
  · exact wPs_ok h hb w
end
/-- no two of one class, no two that are no FACES -/
theorem wAl_iff {C : wWc} {T : wWt} : ∀ (m : List Nat), wAl C T m ↔ m.Pairwise (fun p q => dX (Ty T p) ≠ dX (Ty T q) ∧ (Wf C (dX (Ty T p)) = true ∨ Wf C (dX (Ty T q)) = true)) := by
  have one : ∀ (m : List Nat), (m.filter (fun p => !(Wf C (dX (Ty T p))))).length ≤ 1 ↔ m.Pairwise (fun p q => Wf C (dX (Ty T p)) = true ∨ Wf C (dX (Ty T q)) = true) := by
    intro m
    induction m with
    | nil => exact ⟨fun _ => List.Pairwise.nil, fun _ => by simp⟩
    | cons x m ih =>
      rw [List.pairwise_cons]
      cases e : Wf C (dX (Ty T x)) with
      | true =>
        rw [List.filter_cons_of_neg (by simp [e]), ih]
        exact ⟨fun w => ⟨fun _ _ => Or.inl rfl, w⟩, fun w => w.2⟩
      | false =>
        rw [List.filter_cons_of_pos (by simp [e]), List.length_cons]
        constructor
        · intro w
          have z : m.filter (fun p => !(Wf C (dX (Ty T p)))) = [] := List.length_eq_zero_iff.mp (by omega)
          refine ⟨fun q hq => Or.inr ?_, ih.mp (by rw [z]; simp)⟩
          have := List.filter_eq_nil_iff.mp z q hq
          simpa using this
        · rintro ⟨w1, _⟩
          have z : m.filter (fun p => !(Wf C (dX (Ty T p)))) = [] := by
            rw [List.filter_eq_nil_iff]
            intro q hq
            have := (w1 q hq).resolve_left (by decide)
            simp [this]
          rw [z]; simp
  intro m
  unfold wAl
  rw [one m]
  exact ⟨fun w => List.Pairwise.and w.1 w.2, fun w => ⟨w.imp (fun h => h.1), w.imp (fun h => h.2)⟩⟩
