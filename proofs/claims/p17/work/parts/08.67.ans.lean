/-! Tier 3: the answers that the class keeps: two bits a pair. -/
theorem bt_nI (m i : Nat) (hi : i < 32) : bt (nI m) i = m.testBit i := by
  unfold bt
  show (Int32.ofNat m).toBitVec.getLsbD i = _
  rw [Int32.toBitVec_ofNat', BitVec.getLsbD_ofNat, decide_eq_true hi, Bool.true_and]
theorem k_sh16 {p : Nat} (hp : p < 2 ^ 31) : nI p >>> (4 &&& 31) = nI (p / 16) := by
  apply b_ext
  intro i hi
  have e : (nI p >>> ((4 : Int32) &&& 31)) = nI p >>> (nI 4 &&& 31) := rfl
  rw [e, b_sshr 4 (by decide) _ hi, bt_nI _ _ hi]
  have d : (p / 16).testBit i = p.testBit (4 + i) := by
    rw [show (16 : Nat) = 2 ^ 4 from rfl, Nat.testBit_div_two_pow, Nat.add_comm]
  rw [d]
  by_cases z : 4 + i < 32
  · rw [if_pos z, bt_nI _ _ z]
  · rw [if_neg z, bt_nI _ _ (by decide), Nat.testBit_lt_two_pow hp, Nat.testBit_lt_two_pow (Nat.lt_of_lt_of_le hp (Nat.pow_le_pow_right (by decide) (by omega)))]
theorem bt_15 : ∀ i, i < 32 → bt 15 i = decide (i < 4) := by decide +kernel
theorem bt_3 : ∀ i, i < 32 → bt 3 i = decide (i < 2) := by decide +kernel
theorem k_a15 {p : Nat} : nI p &&& 15 = nI (p % 16) := by
  apply b_ext
  intro i hi
  rw [b_and, bt_nI _ _ hi, bt_nI _ _ hi, bt_15 i hi, show (16 : Nat) = 2 ^ 4 from rfl, Nat.testBit_mod_two_pow, Bool.and_comm]
def aB (σ : StA) (p k : Nat) : Bool := bt (A_cells σ (p / 16)) (2 * (p % 16) + k)
def aV (x y : Bool) : Int32 := if x = true then (if y = true then 3 else 1) else (if y = true then 2 else 0)
theorem aV_b (x y : Bool) : bt (aV x y) 0 = x ∧ bt (aV x y) 1 = y ∧ ∀ i, i < 32 → 2 ≤ i → bt (aV x y) i = false := by
  cases x <;> cases y <;> decide +kernel
theorem k_rd (x : Int32) {s : Nat} (hs : s < 31) : (x >>> (nI s &&& 31)) &&& 3 = aV (bt x s) (bt x (s + 1)) := by
  obtain ⟨v0, v1, v2⟩ := aV_b (bt x s) (bt x (s + 1))
  apply b_ext
  intro i hi
  rw [b_and, b_sshr s (by omega) x hi, bt_3 i hi]
  by_cases i0 : i = 0
  · subst i0
    rw [v0, if_pos (by omega), Nat.add_zero, decide_eq_true (by decide), Bool.and_true]
  · by_cases i1 : i = 1
    · subst i1
      rw [v1, if_pos (by omega), decide_eq_true (by decide), Bool.and_true]
    · rw [v2 i hi (by omega), decide_eq_false (by omega), Bool.and_false]
theorem k_prs {a b : Nat} : nI a * 300 + nI b = nI (300 * a + b) := by
  show nI a * nI 300 + nI b = _
  rw [k_mul, nI_add, Nat.mul_comm]
theorem r_A_pair {a b : Nat} (ha : a < 300) (hb : b < 300) : f_A_isPair (nI a) (nI b) = 1 := by
  unfold f_A_isPair
  have n1 : ¬ (300 : Int32) ≤ nI a := by show ¬ nI 300 ≤ nI a; rw [nI_leI (by decide) (by omega)]; omega
  have n2 : ¬ (300 : Int32) ≤ nI b := by show ¬ nI 300 ≤ nI b; rw [nI_leI (by decide) (by omega)]; omega
  rw [if_neg (nI_pos (by omega)), if_neg n1, if_neg (nI_pos (by omega)), if_neg n2]
theorem k_2m {m : Nat} : 2 * nI m = nI (2 * m) := by
  show nI 2 * nI m = _; rw [k_mul]
theorem r_A_read {σ : StA} {a b : Nat} (ha : a < 300) (hb : b < 300) : k_pc (f_A_read σ (nI a) (nI b)) (fun v => v = aV (aB σ (300 * a + b) 0) (aB σ (300 * a + b) 1)) := by
  unfold f_A_read
  rw [r_A_pair ha hb]
  refine p_if (fun z => absurd z (by decide)) (fun _ => p_guard (fun _ => p_some ?_))
  rw [k_prs, k_sh16 (by omega), k_a15, k_2m, nI_clamp (show (300 * a + b) / 16 < 2 ^ 31 by omega), k_rd _ (show 2 * ((300 * a + b) % 16) < 31 by omega)]
  rfl
theorem r_A_keep {σ : StA} {a b : Nat} (ha : a < 300) (hb : b < 300) {y : Int32} {w : Bool} (hy : y = b2 w) : k_pc (f_A_keep σ (nI a) (nI b) y) (fun r => A_empty r.2 = 0 ∧ ∀ p k, p < 90000 → k < 2 → aB r.2 p k = (aB σ p k || (decide (p = 300 * a + b) && (if w = true then decide (k = 1) else decide (k = 0))))) := by
  have fin : ∀ (t3 : Int32) (j : Nat), j < 2 → (∀ i, i < 32 → bt t3 i = decide (i = j)) → k_pc (f_A_keep_37 σ (nI (300 * a + b)) (nI ((300 * a + b) / 16)) (A_cells σ ((300 * a + b) / 16)) t3) (fun r => A_empty r.2 = 0 ∧ ∀ p k, p < 90000 → k < 2 → aB r.2 p k = (aB σ p k || (decide (p = 300 * a + b) && decide (k = j)))) := by
    intro t3 j hj ht
    unfold f_A_keep_37
    refine p_guard (fun _ => p_some ⟨rfl, fun p k hp hk => ?_⟩)
    unfold aB
    show bt (upd (A_cells σ) (nI ((300 * a + b) / 16)).toNatClampNeg (A_cells σ ((300 * a + b) / 16) ||| (t3 <<< ((2 * (nI (300 * a + b) &&& 15)) &&& 31))) (p / 16)) (2 * (p % 16) + k) = _
    rw [nI_clamp (show (300 * a + b) / 16 < 2 ^ 31 by omega), k_a15, k_2m]
    by_cases e : p / 16 = (300 * a + b) / 16
    · rw [e, k_upds, b_or, b_shl _ (by omega) _ (show 2 * (p % 16) + k < 32 by omega), ht _ (by omega)]
      congr 1
      by_cases e2 : p = 300 * a + b
      · rw [decide_eq_true e2, decide_eq_true (by omega), Bool.true_and, Bool.true_and]
        congr 1
        apply propext
        constructor
        · intro z; omega
        · intro z; omega
      · rw [decide_eq_false e2, Bool.false_and]
        by_cases e3 : 2 * ((300 * a + b) % 16) ≤ 2 * (p % 16) + k
        · rw [decide_eq_true e3, Bool.true_and, decide_eq_false (by omega)]
        · rw [decide_eq_false e3, Bool.false_and]
    · rw [k_updn e, decide_eq_false (by omega), Bool.false_and, Bool.or_false]
  unfold f_A_keep
  rw [r_A_pair ha hb]
  refine p_if (fun z => absurd z (by decide)) (fun _ => p_guard (fun _ => ?_))
  rw [k_prs, k_sh16 (by omega), nI_clamp (show (300 * a + b) / 16 < 2 ^ 31 by omega)]
  cases w with
  | false =>
    refine p_if (fun _ => ?_) (fun z => absurd hy z)
    exact fin 1 0 (by decide) (fun i hi => b_one i)
  | true =>
    refine p_if (fun z => absurd (hy.symm.trans z) (by decide)) (fun _ => ?_)
    exact fin 2 1 (by decide) (by decide +kernel)
/-- what is kept is so -/
def rA (σ : StA) (C : wWc) (T : wWt) : Prop := (∀ a b, a < 300 → b < 300 → (aB σ (300 * a + b) 0 = true → a < Tn T ∧ b < Tn T ∧ ¬ wB C T a b) ∧ (aB σ (300 * a + b) 1 = true → a < Tn T ∧ b < Tn T ∧ wB C T a b)) ∧ (A_empty σ = 0 ∨ ∀ p k, p < 90000 → k < 2 → aB σ p k = false)
theorem rA_keep {σ : StA} {C : wWc} {T : wWt} (r : rA σ C T) {a b : Nat} (ha : a < 300) (hb : b < 300) (ha' : a < Tn T) (hb' : b < Tn T) {y : Int32} (h1 : y = 1 → wB C T a b) (h0 : y = 0 → ¬ wB C T a b) (hy : y = 0 ∨ y = 1) : k_pc (f_A_keep σ (nI a) (nI b) y) (fun q => rA q.2 C T) := by
  have e : ∃ w, y = b2 w := by
    rcases hy with e | e
    · exact ⟨false, e⟩
    · exact ⟨true, e⟩
  obtain ⟨w, ew⟩ := e
  refine p_mono (r_A_keep ha hb ew) ?_
  rintro q ⟨q1, q2⟩
  refine ⟨fun c d hc hd => ?_, Or.inl q1⟩
  have b0 := q2 (300 * c + d) 0 (by omega) (by omega)
  have b1 := q2 (300 * c + d) 1 (by omega) (by omega)
  by_cases e : 300 * c + d = 300 * a + b
  · have ec : c = a := by omega
    have ed : d = b := by omega
    subst ec ed
    rw [decide_eq_true rfl, Bool.true_and] at b0 b1
    cases w with
    | false =>
      have nb := h0 ew
      refine ⟨fun _ => ⟨ha', hb', nb⟩, fun z => ?_⟩
      rw [b1] at z
      exact (r.1 c d hc hd).2 (by simpa using z)
    | true =>
      have yb := h1 ew
      refine ⟨fun z => ?_, fun _ => ⟨ha', hb', yb⟩⟩
      rw [b0] at z
      exact (r.1 c d hc hd).1 (by simpa using z)
  · rw [decide_eq_false e, Bool.false_and, Bool.or_false] at b0 b1
    rw [b0, b1]
    exact r.1 c d hc hd
