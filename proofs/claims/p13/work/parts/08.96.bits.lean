/-! Tier 3: Integer.bitCount against the reference's count: numbers by their digits. -/
def hn (w : Nat) : List Nat → Nat
  | [] => 0
  | e :: l => e + w * hn w l
theorem and_split {k a b m n : Nat} (ha : a < 2 ^ k) (hm : m < 2 ^ k) : (a + 2 ^ k * b) &&& (m + 2 ^ k * n) = (a &&& m) + 2 ^ k * (b &&& n) := by
  have ham : a &&& m < 2 ^ k := Nat.and_lt_two_pow a hm
  apply Nat.eq_of_testBit_eq
  intro i
  rw [Nat.testBit_and, Nat.add_comm a, Nat.add_comm m, Nat.add_comm (a &&& m)]
  rw [Nat.testBit_two_pow_mul_add _ ha, Nat.testBit_two_pow_mul_add _ hm, Nat.testBit_two_pow_mul_add _ ham]
  by_cases h : i < k
  · rw [if_pos h, if_pos h, if_pos h, Nat.testBit_and]
  · rw [if_neg h, if_neg h, if_neg h, Nat.testBit_and]
theorem hn_and (k : Nat) : ∀ (l m : List Nat), l.length = m.length → (∀ x, x ∈ l → x < 2 ^ k) → (∀ x, x ∈ m → x < 2 ^ k) → hn (2 ^ k) l &&& hn (2 ^ k) m = hn (2 ^ k) (List.zipWith (fun a b => a &&& b) l m) := by
  intro l
  induction l with
  | nil =>
    intro m h _ _
    cases m with
    | nil => rfl
    | cons y m => cases h
  | cons x l ih =>
    intro m h hl hm
    cases m with
    | nil => cases h
    | cons y m =>
      rw [hn, hn, List.zipWith_cons_cons, hn, and_split (hl x List.mem_cons_self) (hm y List.mem_cons_self), ih m (by simpa using h) (fun z hz => hl z (List.mem_cons_of_mem _ hz)) (fun z hz => hm z (List.mem_cons_of_mem _ hz))]
theorem hn_sh (k x : Nat) (l : List Nat) (h : x < 2 ^ k) : hn (2 ^ k) (x :: l) >>> k = hn (2 ^ k) l := by
  rw [hn, Nat.shiftRight_eq_div_pow, Nat.add_mul_div_left _ _ (Nat.two_pow_pos k), Nat.div_eq_of_lt h, Nat.zero_add]
theorem hn_bits (N : Nat) : ∀ (n k : Nat), N / 2 ^ k < 2 ^ n → N / 2 ^ k = hn 2 ((List.range' k n).map (fun i => N / 2 ^ i % 2)) := by
  intro n
  induction n with
  | zero =>
    intro k h
    have : N / 2 ^ k = 0 := by rw [Nat.pow_zero] at h; omega
    rw [this]; rfl
  | succ n ih =>
    intro k h
    have e : N / 2 ^ (k + 1) = N / 2 ^ k / 2 := by rw [Nat.pow_succ, Nat.div_div_eq_div_mul]
    have := ih (k + 1) (by rw [e]; rw [Nat.pow_succ] at h; omega)
    rw [List.range'_succ, List.map_cons, hn, ← this, e]
    omega
theorem k_and1 {x : Nat} (h : x ≤ 1) : x &&& 1 = x := by
  rcases (show x = 0 ∨ x = 1 by omega) with e | e <;> subst e <;> rfl
theorem k_and3 {x : Nat} (h : x ≤ 2) : x &&& 3 = x := by
  rcases (show x = 0 ∨ x = 1 ∨ x = 2 by omega) with e | e | e <;> subst e <;> rfl
theorem k_and15 {x : Nat} (h : x ≤ 15) : x &&& 15 = x := by
  rw [show (15 : Nat) = 2 ^ 4 - 1 from rfl, Nat.and_two_pow_sub_one_eq_mod]; omega
theorem k_and63 {x : Nat} (h : x ≤ 63) : x &&& 63 = x := by
  rw [show (63 : Nat) = 2 ^ 6 - 1 from rfl, Nat.and_two_pow_sub_one_eq_mod]; omega
theorem bc_1 {c : Nat → Nat} (hc : ∀ i, c i ≤ 1) : (hn 2 [c 0, c 1, c 2, c 3, c 4, c 5, c 6, c 7, c 8, c 9, c 10, c 11, c 12, c 13, c 14, c 15, c 16, c 17, c 18, c 19, c 20, c 21, c 22, c 23, c 24, c 25, c 26, c 27, c 28, c 29, c 30, c 31] >>> 1) &&& 1431655765 = hn 4 [c 1, c 3, c 5, c 7, c 9, c 11, c 13, c 15, c 17, c 19, c 21, c 23, c 25, c 27, c 29, c 31] := by
  have e1 : hn 2 [c 0, c 1, c 2, c 3, c 4, c 5, c 6, c 7, c 8, c 9, c 10, c 11, c 12, c 13, c 14, c 15, c 16, c 17, c 18, c 19, c 20, c 21, c 22, c 23, c 24, c 25, c 26, c 27, c 28, c 29, c 30, c 31] >>> 1 = hn 2 [c 1, c 2, c 3, c 4, c 5, c 6, c 7, c 8, c 9, c 10, c 11, c 12, c 13, c 14, c 15, c 16, c 17, c 18, c 19, c 20, c 21, c 22, c 23, c 24, c 25, c 26, c 27, c 28, c 29, c 30, c 31, 0] := by
    rw [show hn 2 [c 0, c 1, c 2, c 3, c 4, c 5, c 6, c 7, c 8, c 9, c 10, c 11, c 12, c 13, c 14, c 15, c 16, c 17, c 18, c 19, c 20, c 21, c 22, c 23, c 24, c 25, c 26, c 27, c 28, c 29, c 30, c 31] >>> 1 = hn (2 ^ 1) [c 0, c 1, c 2, c 3, c 4, c 5, c 6, c 7, c 8, c 9, c 10, c 11, c 12, c 13, c 14, c 15, c 16, c 17, c 18, c 19, c 20, c 21, c 22, c 23, c 24, c 25, c 26, c 27, c 28, c 29, c 30, c 31] >>> 1 from rfl, hn_sh 1 _ _ (by have := hc 0; omega)]
    simp only [hn]
  have e2 : (1431655765 : Nat) = hn 2 [1, 0, 1, 0, 1, 0, 1, 0, 1, 0, 1, 0, 1, 0, 1, 0, 1, 0, 1, 0, 1, 0, 1, 0, 1, 0, 1, 0, 1, 0, 1, 0] := by decide
  rw [e1, e2]
  refine (hn_and 1 [c 1, c 2, c 3, c 4, c 5, c 6, c 7, c 8, c 9, c 10, c 11, c 12, c 13, c 14, c 15, c 16, c 17, c 18, c 19, c 20, c 21, c 22, c 23, c 24, c 25, c 26, c 27, c 28, c 29, c 30, c 31, 0] [1, 0, 1, 0, 1, 0, 1, 0, 1, 0, 1, 0, 1, 0, 1, 0, 1, 0, 1, 0, 1, 0, 1, 0, 1, 0, 1, 0, 1, 0, 1, 0] rfl ?_ ?_).trans ?_
  · intro x hx
    simp only [List.mem_cons, List.not_mem_nil, or_false] at hx
    rcases hx with rfl | rfl | rfl | rfl | rfl | rfl | rfl | rfl | rfl | rfl | rfl | rfl | rfl | rfl | rfl | rfl | rfl | rfl | rfl | rfl | rfl | rfl | rfl | rfl | rfl | rfl | rfl | rfl | rfl | rfl | rfl | rfl
    · exact Nat.lt_succ_of_le (hc 1)
    · exact Nat.lt_succ_of_le (hc 2)
    · exact Nat.lt_succ_of_le (hc 3)
    · exact Nat.lt_succ_of_le (hc 4)
    · exact Nat.lt_succ_of_le (hc 5)
    · exact Nat.lt_succ_of_le (hc 6)
    · exact Nat.lt_succ_of_le (hc 7)
    · exact Nat.lt_succ_of_le (hc 8)
    · exact Nat.lt_succ_of_le (hc 9)
    · exact Nat.lt_succ_of_le (hc 10)
    · exact Nat.lt_succ_of_le (hc 11)
    · exact Nat.lt_succ_of_le (hc 12)
    · exact Nat.lt_succ_of_le (hc 13)
    · exact Nat.lt_succ_of_le (hc 14)
    · exact Nat.lt_succ_of_le (hc 15)
    · exact Nat.lt_succ_of_le (hc 16)
    · exact Nat.lt_succ_of_le (hc 17)
    · exact Nat.lt_succ_of_le (hc 18)
    · exact Nat.lt_succ_of_le (hc 19)
    · exact Nat.lt_succ_of_le (hc 20)
    · exact Nat.lt_succ_of_le (hc 21)
    · exact Nat.lt_succ_of_le (hc 22)
    · exact Nat.lt_succ_of_le (hc 23)
    · exact Nat.lt_succ_of_le (hc 24)
    · exact Nat.lt_succ_of_le (hc 25)
    · exact Nat.lt_succ_of_le (hc 26)
    · exact Nat.lt_succ_of_le (hc 27)
    · exact Nat.lt_succ_of_le (hc 28)
    · exact Nat.lt_succ_of_le (hc 29)
    · exact Nat.lt_succ_of_le (hc 30)
    · exact Nat.lt_succ_of_le (hc 31)
    · decide
  · decide
  · simp only [List.zipWith, k_and1 (hc _), Nat.and_zero, hn]
    omega
theorem bc_2 {d : Nat → Nat} (hd : ∀ i, d i ≤ 2) : (hn 4 [d 0, d 1, d 2, d 3, d 4, d 5, d 6, d 7, d 8, d 9, d 10, d 11, d 12, d 13, d 14, d 15] &&& 858993459) + ((hn 4 [d 0, d 1, d 2, d 3, d 4, d 5, d 6, d 7, d 8, d 9, d 10, d 11, d 12, d 13, d 14, d 15] >>> 2) &&& 858993459) = hn 16 [(d 0 + d 1), (d 2 + d 3), (d 4 + d 5), (d 6 + d 7), (d 8 + d 9), (d 10 + d 11), (d 12 + d 13), (d 14 + d 15)] := by
  have e1 : hn 4 [d 0, d 1, d 2, d 3, d 4, d 5, d 6, d 7, d 8, d 9, d 10, d 11, d 12, d 13, d 14, d 15] >>> 2 = hn 4 [d 1, d 2, d 3, d 4, d 5, d 6, d 7, d 8, d 9, d 10, d 11, d 12, d 13, d 14, d 15, 0] := by
    rw [show hn 4 [d 0, d 1, d 2, d 3, d 4, d 5, d 6, d 7, d 8, d 9, d 10, d 11, d 12, d 13, d 14, d 15] >>> 2 = hn (2 ^ 2) [d 0, d 1, d 2, d 3, d 4, d 5, d 6, d 7, d 8, d 9, d 10, d 11, d 12, d 13, d 14, d 15] >>> 2 from rfl, hn_sh 2 _ _ (by have := hd 0; omega)]
    simp only [hn]
  have e2 : (858993459 : Nat) = hn 4 [3, 0, 3, 0, 3, 0, 3, 0, 3, 0, 3, 0, 3, 0, 3, 0] := by decide
  have a1 : hn 4 [d 0, d 1, d 2, d 3, d 4, d 5, d 6, d 7, d 8, d 9, d 10, d 11, d 12, d 13, d 14, d 15] &&& hn 4 [3, 0, 3, 0, 3, 0, 3, 0, 3, 0, 3, 0, 3, 0, 3, 0] = hn 16 [d 0, d 2, d 4, d 6, d 8, d 10, d 12, d 14] := by
    refine (hn_and 2 [d 0, d 1, d 2, d 3, d 4, d 5, d 6, d 7, d 8, d 9, d 10, d 11, d 12, d 13, d 14, d 15] [3, 0, 3, 0, 3, 0, 3, 0, 3, 0, 3, 0, 3, 0, 3, 0] rfl ?_ ?_).trans ?_
    · intro x hx
      simp only [List.mem_cons, List.not_mem_nil, or_false] at hx
      rcases hx with rfl | rfl | rfl | rfl | rfl | rfl | rfl | rfl | rfl | rfl | rfl | rfl | rfl | rfl | rfl | rfl
      · have := hd 0; omega
      · have := hd 1; omega
      · have := hd 2; omega
      · have := hd 3; omega
      · have := hd 4; omega
      · have := hd 5; omega
      · have := hd 6; omega
      · have := hd 7; omega
      · have := hd 8; omega
      · have := hd 9; omega
      · have := hd 10; omega
      · have := hd 11; omega
      · have := hd 12; omega
      · have := hd 13; omega
      · have := hd 14; omega
      · have := hd 15; omega
    · decide
    · simp only [List.zipWith, k_and3 (hd _), Nat.and_zero, hn]
      omega
  have a2 : hn 4 [d 1, d 2, d 3, d 4, d 5, d 6, d 7, d 8, d 9, d 10, d 11, d 12, d 13, d 14, d 15, 0] &&& hn 4 [3, 0, 3, 0, 3, 0, 3, 0, 3, 0, 3, 0, 3, 0, 3, 0] = hn 16 [d 1, d 3, d 5, d 7, d 9, d 11, d 13, d 15] := by
    refine (hn_and 2 [d 1, d 2, d 3, d 4, d 5, d 6, d 7, d 8, d 9, d 10, d 11, d 12, d 13, d 14, d 15, 0] [3, 0, 3, 0, 3, 0, 3, 0, 3, 0, 3, 0, 3, 0, 3, 0] rfl ?_ ?_).trans ?_
    · intro x hx
      simp only [List.mem_cons, List.not_mem_nil, or_false] at hx
      rcases hx with rfl | rfl | rfl | rfl | rfl | rfl | rfl | rfl | rfl | rfl | rfl | rfl | rfl | rfl | rfl | rfl
      · have := hd 1; omega
      · have := hd 2; omega
      · have := hd 3; omega
      · have := hd 4; omega
      · have := hd 5; omega
      · have := hd 6; omega
      · have := hd 7; omega
      · have := hd 8; omega
      · have := hd 9; omega
      · have := hd 10; omega
      · have := hd 11; omega
      · have := hd 12; omega
      · have := hd 13; omega
      · have := hd 14; omega
      · have := hd 15; omega
      · decide
    · decide
    · simp only [List.zipWith, k_and3 (hd _), Nat.and_zero, hn]
      omega
  rw [e1, e2, a1, a2]
  simp only [hn]
  omega
theorem bc_3 {e : Nat → Nat} (he : ∀ i, e i ≤ 4) : (hn 16 [e 0, e 1, e 2, e 3, e 4, e 5, e 6, e 7] + (hn 16 [e 0, e 1, e 2, e 3, e 4, e 5, e 6, e 7] >>> 4)) &&& 252645135 = hn 256 [(e 0 + e 1), (e 2 + e 3), (e 4 + e 5), (e 6 + e 7)] := by
  have e1 : hn 16 [e 0, e 1, e 2, e 3, e 4, e 5, e 6, e 7] >>> 4 = hn 16 [e 1, e 2, e 3, e 4, e 5, e 6, e 7, 0] := by
    rw [show hn 16 [e 0, e 1, e 2, e 3, e 4, e 5, e 6, e 7] >>> 4 = hn (2 ^ 4) [e 0, e 1, e 2, e 3, e 4, e 5, e 6, e 7] >>> 4 from rfl, hn_sh 4 _ _ (by have := he 0; omega)]
    simp only [hn]
  have e2 : (252645135 : Nat) = hn 16 [15, 0, 15, 0, 15, 0, 15, 0] := by decide
  have e3 : hn 16 [e 0, e 1, e 2, e 3, e 4, e 5, e 6, e 7] + hn 16 [e 1, e 2, e 3, e 4, e 5, e 6, e 7, 0] = hn 16 [e 0 + e 1, e 1 + e 2, e 2 + e 3, e 3 + e 4, e 4 + e 5, e 5 + e 6, e 6 + e 7, e 7] := by
    simp only [hn]
    omega
  rw [e1, e2, e3]
  refine (hn_and 4 [e 0 + e 1, e 1 + e 2, e 2 + e 3, e 3 + e 4, e 4 + e 5, e 5 + e 6, e 6 + e 7, e 7] [15, 0, 15, 0, 15, 0, 15, 0] rfl ?_ ?_).trans ?_
  · intro x hx
    simp only [List.mem_cons, List.not_mem_nil, or_false] at hx
    rcases hx with rfl | rfl | rfl | rfl | rfl | rfl | rfl | rfl
    · have := he 0; have := he 1; omega
    · have := he 1; have := he 2; omega
    · have := he 2; have := he 3; omega
    · have := he 3; have := he 4; omega
    · have := he 4; have := he 5; omega
    · have := he 5; have := he 6; omega
    · have := he 6; have := he 7; omega
    · have := he 7; omega
  · decide
  · have k : ∀ i, e i + e (i + 1) ≤ 15 := fun i => by have := he i; have := he (i + 1); omega
    simp only [List.zipWith, k_and15 (k 0), k_and15 (k 2), k_and15 (k 4), k_and15 (k 6), Nat.and_zero, hn]
    omega
theorem bc_4 {f : Nat → Nat} (hf : ∀ i, f i ≤ 8) : hn 256 [f 0, f 1, f 2, f 3] + (hn 256 [f 0, f 1, f 2, f 3] >>> 8) = hn 256 [f 0 + f 1, f 1 + f 2, f 2 + f 3, f 3] := by
  rw [show hn 256 [f 0, f 1, f 2, f 3] >>> 8 = hn (2 ^ 8) [f 0, f 1, f 2, f 3] >>> 8 from rfl, hn_sh 8 _ _ (by have := hf 0; omega)]
  simp only [hn]
  omega
theorem bc_5 {f : Nat → Nat} (hf : ∀ i, f i ≤ 16) : (hn 256 [f 0, f 1, f 2, f 3] + (hn 256 [f 0, f 1, f 2, f 3] >>> 16)) &&& 63 = (f 0 + f 2) &&& 63 := by
  have e1 : hn 256 [f 0, f 1, f 2, f 3] >>> 16 = hn 256 [f 2, f 3] := by
    rw [Nat.shiftRight_eq_div_pow]
    simp only [hn]
    have h0 := hf 0
    have h1 := hf 1
    omega
  rw [e1, show (63 : Nat) = 2 ^ 6 - 1 from rfl, Nat.and_two_pow_sub_one_eq_mod, Nat.and_two_pow_sub_one_eq_mod]
  simp only [hn]
  omega
def bcF (v : BitVec 32) : BitVec 32 :=
  let i1 := v - ((v >>> 1) &&& 1431655765#32)
  let i2 := (i1 &&& 858993459#32) + ((i1 >>> 2) &&& 858993459#32)
  let i3 := (i2 + (i2 >>> 4)) &&& 252645135#32
  let i4 := i3 + (i3 >>> 8)
  let i5 := i4 + (i4 >>> 16)
  i5 &&& 63#32
theorem bcF_sum {c : Nat → Nat} (hc : ∀ i, c i ≤ 1) (v : BitVec 32) (hv : v.toNat = hn 2 [c 0, c 1, c 2, c 3, c 4, c 5, c 6, c 7, c 8, c 9, c 10, c 11, c 12, c 13, c 14, c 15, c 16, c 17, c 18, c 19, c 20, c 21, c 22, c 23, c 24, c 25, c 26, c 27, c 28, c 29, c 30, c 31]) : (bcF v).toNat = c 0 + c 1 + c 2 + c 3 + c 4 + c 5 + c 6 + c 7 + c 8 + c 9 + c 10 + c 11 + c 12 + c 13 + c 14 + c 15 + c 16 + c 17 + c 18 + c 19 + c 20 + c 21 + c 22 + c 23 + c 24 + c 25 + c 26 + c 27 + c 28 + c 29 + c 30 + c 31 := by
  have b1 := bc_1 hc
  obtain ⟨i1, e1⟩ : ∃ i1, i1 = v - ((v >>> 1) &&& 1431655765#32) := ⟨_, rfl⟩
  obtain ⟨i2, e2⟩ : ∃ i2, i2 = (i1 &&& 858993459#32) + ((i1 >>> 2) &&& 858993459#32) := ⟨_, rfl⟩
  obtain ⟨i3, e3⟩ : ∃ i3, i3 = (i2 + (i2 >>> 4)) &&& 252645135#32 := ⟨_, rfl⟩
  obtain ⟨i4, e4⟩ : ∃ i4, i4 = i3 + (i3 >>> 8) := ⟨_, rfl⟩
  obtain ⟨i5, e5⟩ : ∃ i5, i5 = i4 + (i4 >>> 16) := ⟨_, rfl⟩
  have eF : bcF v = i5 &&& 63#32 := by
    rw [e5, e4, e3, e2, e1]; rfl
  have n1 : i1.toNat = hn 4 [(fun j => c (2 * j) + c (2 * j + 1)) 0, (fun j => c (2 * j) + c (2 * j + 1)) 1, (fun j => c (2 * j) + c (2 * j + 1)) 2, (fun j => c (2 * j) + c (2 * j + 1)) 3, (fun j => c (2 * j) + c (2 * j + 1)) 4, (fun j => c (2 * j) + c (2 * j + 1)) 5, (fun j => c (2 * j) + c (2 * j + 1)) 6, (fun j => c (2 * j) + c (2 * j + 1)) 7, (fun j => c (2 * j) + c (2 * j + 1)) 8, (fun j => c (2 * j) + c (2 * j + 1)) 9, (fun j => c (2 * j) + c (2 * j + 1)) 10, (fun j => c (2 * j) + c (2 * j + 1)) 11, (fun j => c (2 * j) + c (2 * j + 1)) 12, (fun j => c (2 * j) + c (2 * j + 1)) 13, (fun j => c (2 * j) + c (2 * j + 1)) 14, (fun j => c (2 * j) + c (2 * j + 1)) 15] := by
    rw [e1, BitVec.toNat_sub, BitVec.toNat_and, BitVec.toNat_ushiftRight, BitVec.toNat_ofNat, hv, show 1431655765 % 2 ^ 32 = 1431655765 from rfl, b1]
    simp only [hn]
    have h0 := hc 0; have h1 := hc 1; have h2 := hc 2; have h3 := hc 3; have h4 := hc 4; have h5 := hc 5; have h6 := hc 6; have h7 := hc 7; have h8 := hc 8; have h9 := hc 9; have h10 := hc 10; have h11 := hc 11; have h12 := hc 12; have h13 := hc 13; have h14 := hc 14; have h15 := hc 15; have h16 := hc 16; have h17 := hc 17; have h18 := hc 18; have h19 := hc 19; have h20 := hc 20; have h21 := hc 21; have h22 := hc 22; have h23 := hc 23; have h24 := hc 24; have h25 := hc 25; have h26 := hc 26; have h27 := hc 27; have h28 := hc 28; have h29 := hc 29; have h30 := hc 30; have h31 := hc 31
    omega
  have hd : ∀ j, (fun j => c (2 * j) + c (2 * j + 1)) j ≤ 2 := fun j => by
    have := hc (2 * j)
    have := hc (2 * j + 1)
    show c (2 * j) + c (2 * j + 1) ≤ 2
    omega
  have b2' := bc_2 hd
  revert n1 b2' hd
  generalize hdd : (fun j => c (2 * j) + c (2 * j + 1)) = d
  intro n1 hd b2'
  have n2 : i2.toNat = hn 16 [(fun j => d (2 * j) + d (2 * j + 1)) 0, (fun j => d (2 * j) + d (2 * j + 1)) 1, (fun j => d (2 * j) + d (2 * j + 1)) 2, (fun j => d (2 * j) + d (2 * j + 1)) 3, (fun j => d (2 * j) + d (2 * j + 1)) 4, (fun j => d (2 * j) + d (2 * j + 1)) 5, (fun j => d (2 * j) + d (2 * j + 1)) 6, (fun j => d (2 * j) + d (2 * j + 1)) 7] := by
    rw [e2, BitVec.toNat_add, BitVec.toNat_and, BitVec.toNat_and, BitVec.toNat_ushiftRight, BitVec.toNat_ofNat, n1, show 858993459 % 2 ^ 32 = 858993459 from rfl, b2']
    simp only [hn]
    have h0 := hd 0; have h1 := hd 1; have h2 := hd 2; have h3 := hd 3; have h4 := hd 4; have h5 := hd 5; have h6 := hd 6; have h7 := hd 7; have h8 := hd 8; have h9 := hd 9; have h10 := hd 10; have h11 := hd 11; have h12 := hd 12; have h13 := hd 13; have h14 := hd 14; have h15 := hd 15
    omega
  have he : ∀ j, (fun j => d (2 * j) + d (2 * j + 1)) j ≤ 4 := fun j => by
    have := hd (2 * j)
    have := hd (2 * j + 1)
    show d (2 * j) + d (2 * j + 1) ≤ 4
    omega
  have b3 := bc_3 he
  revert n2 b3 he
  generalize hee : (fun j => d (2 * j) + d (2 * j + 1)) = e
  intro n2 he b3
  have n3 : i3.toNat = hn 256 [(fun j => e (2 * j) + e (2 * j + 1)) 0, (fun j => e (2 * j) + e (2 * j + 1)) 1, (fun j => e (2 * j) + e (2 * j + 1)) 2, (fun j => e (2 * j) + e (2 * j + 1)) 3] := by
    have w : (i2 + (i2 >>> 4)).toNat = i2.toNat + (i2.toNat >>> 4) := by
      rw [BitVec.toNat_add, BitVec.toNat_ushiftRight, n2]
      rw [show hn 16 [e 0, e 1, e 2, e 3, e 4, e 5, e 6, e 7] >>> 4 = hn (2 ^ 4) [e 0, e 1, e 2, e 3, e 4, e 5, e 6, e 7] >>> 4 from rfl, hn_sh 4 _ _ (by have := he 0; omega)]
      simp only [hn]
      have h0 := he 0; have h1 := he 1; have h2 := he 2; have h3 := he 3; have h4 := he 4; have h5 := he 5; have h6 := he 6; have h7 := he 7
      omega
    rw [e3, BitVec.toNat_and, w, BitVec.toNat_ofNat, n2, show 252645135 % 2 ^ 32 = 252645135 from rfl, b3]
  have hf : ∀ j, (fun j => e (2 * j) + e (2 * j + 1)) j ≤ 8 := fun j => by
    have := he (2 * j)
    have := he (2 * j + 1)
    show e (2 * j) + e (2 * j + 1) ≤ 8
    omega
  have b4 := bc_4 hf
  revert n3 b4 hf
  generalize hff : (fun j => e (2 * j) + e (2 * j + 1)) = f
  intro n3 hf b4
  have n4 : i4.toNat = hn 256 [(fun j => f j + (if j = 3 then 0 else f (j + 1))) 0, (fun j => f j + (if j = 3 then 0 else f (j + 1))) 1, (fun j => f j + (if j = 3 then 0 else f (j + 1))) 2, (fun j => f j + (if j = 3 then 0 else f (j + 1))) 3] := by
    rw [e4, BitVec.toNat_add, BitVec.toNat_ushiftRight, n3, b4]
    simp only [hn]
    have h0 := hf 0; have h1 := hf 1; have h2 := hf 2; have h3 := hf 3
    simp
    omega
  have hg : ∀ j, (fun j => f j + (if j = 3 then 0 else f (j + 1))) j ≤ 16 := fun j => by
    have := hf j
    have := hf (j + 1)
    show f j + (if j = 3 then 0 else f (j + 1)) ≤ 16
    split <;> omega
  have b5 := bc_5 hg
  revert n4 b5 hg
  generalize hgg : (fun j => f j + (if j = 3 then 0 else f (j + 1))) = g
  intro n4 hg b5
  have w5 : i5.toNat = i4.toNat + (i4.toNat >>> 16) := by
    rw [e5, BitVec.toNat_add, BitVec.toNat_ushiftRight, n4, Nat.shiftRight_eq_div_pow]
    simp only [hn]
    have h0 := hg 0; have h1 := hg 1; have h2 := hg 2; have h3 := hg 3
    omega
  rw [eF, BitVec.toNat_and, BitVec.toNat_ofNat, w5, n4, show 63 % 2 ^ 32 = 63 from rfl, b5]
  have g0 : g 0 = f 0 + f 1 := by rw [← hgg]; rfl
  have g2 : g 2 = f 2 + f 3 := by rw [← hgg]; rfl
  have f0 := hf 0; have f1 := hf 1; have f2 := hf 2; have f3 := hf 3
  rw [k_and63 (by omega), g0, g2]
  have q : ∀ j, f j = e (2 * j) + e (2 * j + 1) := fun j => by rw [← hff]
  have q2 : ∀ j, e j = d (2 * j) + d (2 * j + 1) := fun j => by rw [← hee]
  have q3 : ∀ j, d j = c (2 * j) + c (2 * j + 1) := fun j => by rw [← hdd]
  simp only [q, q2, q3]
  omega
theorem bc_s1 (y : Int32) : ((y.toUInt32 >>> ((1 : Int32).toUInt32 &&& Int32.toUInt32 31)).toInt32).toBitVec = y.toBitVec >>> 1 := rfl
theorem bc_s2 (y : Int32) : ((y.toUInt32 >>> ((2 : Int32).toUInt32 &&& Int32.toUInt32 31)).toInt32).toBitVec = y.toBitVec >>> 2 := rfl
theorem bc_s4 (y : Int32) : ((y.toUInt32 >>> ((4 : Int32).toUInt32 &&& Int32.toUInt32 31)).toInt32).toBitVec = y.toBitVec >>> 4 := rfl
theorem bc_s8 (y : Int32) : ((y.toUInt32 >>> ((8 : Int32).toUInt32 &&& Int32.toUInt32 31)).toInt32).toBitVec = y.toBitVec >>> 8 := rfl
theorem bc_s16 (y : Int32) : ((y.toUInt32 >>> ((16 : Int32).toUInt32 &&& Int32.toUInt32 31)).toInt32).toBitVec = y.toBitVec >>> 16 := rfl
theorem bcF_of (x : Int32) : (f_J_bitCount x).toBitVec = bcF x.toBitVec := by
  unfold f_J_bitCount bcF
  simp only [Int32.toBitVec_and, Int32.toBitVec_add, Int32.toBitVec_sub, bc_s1, bc_s2, bc_s4, bc_s8, bc_s16]
  rfl
theorem k_cnt {x : Int32} {c : Nat → Nat} (hc : ∀ i, i < 32 → c i = if bt x i = true then 1 else 0) : ∀ (f k s : Nat), k ≤ 31 → 31 < f + k → f_M_count_4 f x (nI s) (nI k) = some (nI (s + ((List.range' k (31 - k)).map c).sum)) := by
  intro f
  induction f with
  | zero => intro k s h1 h2; omega
  | succ f ih =>
    intro k s h1 h2
    rw [f_M_count_4]
    unfold f_M_count_4_s
    by_cases z : k = 31
    · subst z
      rw [if_pos (by decide)]; rfl
    · have n : ¬ (31 : Int32) ≤ nI k := by
        show ¬ nI 31 ≤ nI k
        rw [nI_leI (by decide) (by omega)]; omega
      rw [if_neg n, k_bit x k (by omega), nI_1, show 31 - k = (31 - (k + 1)) + 1 by omega, List.range'_succ, List.map_cons, List.sum_cons, ← Nat.add_assoc, ← ih (k + 1) (s + c k) (by omega) (by omega)]
      congr 1
      rw [hc k (by omega)]
      by_cases w : bt x k = true
      · rw [if_pos w, if_pos w]; exact nI_add s 1
      · rw [if_neg w, if_neg w]; exact nI_add s 0
theorem k_bits {x : Int32} (h : bt x 31 = false) : f_M_count x = some (f_J_bitCount x) := by
  obtain ⟨N, hN⟩ : ∃ N, N = x.toBitVec.toNat := ⟨_, rfl⟩
  have lt : N < 2 ^ 32 := by rw [hN]; exact x.toBitVec.isLt
  obtain ⟨c, hcd⟩ : ∃ c : Nat → Nat, c = fun i => N / 2 ^ i % 2 := ⟨_, rfl⟩
  have hc1 : ∀ i, c i ≤ 1 := fun i => by rw [hcd]; show N / 2 ^ i % 2 ≤ 1; omega
  have hcb : ∀ i, i < 32 → c i = if bt x i = true then 1 else 0 := by
    intro i _
    have e : bt x i = decide (N / 2 ^ i % 2 = 1) := by
      unfold bt
      rw [BitVec.getLsbD, ← hN, Nat.testBit_eq_decide_div_mod_eq]
    rw [e, hcd]
    show N / 2 ^ i % 2 = _
    by_cases w : N / 2 ^ i % 2 = 1
    · rw [if_pos (decide_eq_true w)]; exact w
    · rw [if_neg (by rw [decide_eq_false w]; decide)]; omega
  have hv : x.toBitVec.toNat = hn 2 [c 0, c 1, c 2, c 3, c 4, c 5, c 6, c 7, c 8, c 9, c 10, c 11, c 12, c 13, c 14, c 15, c 16, c 17, c 18, c 19, c 20, c 21, c 22, c 23, c 24, c 25, c 26, c 27, c 28, c 29, c 30, c 31] := by
    have := hn_bits N 32 0 (by rw [Nat.pow_zero, Nat.div_one]; exact lt)
    rw [Nat.pow_zero, Nat.div_one] at this
    rw [← hN, this, hcd]; rfl
  have hs := bcF_sum hc1 x.toBitVec hv
  have c31 : c 31 = 0 := by rw [hcb 31 (by decide), h]; rfl
  unfold f_M_count
  rw [show f_M_count_4 1000 x 0 0 = f_M_count_4 1000 x (nI 0) (nI 0) from rfl, k_cnt hcb 1000 0 0 (by decide) (by decide)]
  congr 1
  apply Int32.toBitVec_inj.mp
  apply BitVec.eq_of_toNat_eq
  rw [bcF_of, hs, c31]
  show (Int32.ofNat _).toBitVec.toNat = _
  rw [Int32.toBitVec_ofNat', BitVec.toNat_ofNat]
  have e : 0 + ((List.range' 0 (31 - 0)).map c).sum = c 0 + c 1 + c 2 + c 3 + c 4 + c 5 + c 6 + c 7 + c 8 + c 9 + c 10 + c 11 + c 12 + c 13 + c 14 + c 15 + c 16 + c 17 + c 18 + c 19 + c 20 + c 21 + c 22 + c 23 + c 24 + c 25 + c 26 + c 27 + c 28 + c 29 + c 30 := by
    simp [List.range']
    omega
  rw [e]
  have h0 := hc1 0; have h1 := hc1 1; have h2 := hc1 2; have h3 := hc1 3; have h4 := hc1 4; have h5 := hc1 5; have h6 := hc1 6; have h7 := hc1 7; have h8 := hc1 8; have h9 := hc1 9; have h10 := hc1 10; have h11 := hc1 11; have h12 := hc1 12; have h13 := hc1 13; have h14 := hc1 14; have h15 := hc1 15; have h16 := hc1 16; have h17 := hc1 17; have h18 := hc1 18; have h19 := hc1 19; have h20 := hc1 20; have h21 := hc1 21; have h22 := hc1 22; have h23 := hc1 23; have h24 := hc1 24; have h25 := hc1 25; have h26 := hc1 26; have h27 := hc1 27; have h28 := hc1 28; have h29 := hc1 29; have h30 := hc1 30
  omega
