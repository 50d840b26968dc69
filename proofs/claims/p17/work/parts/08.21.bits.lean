/-! Int32 by its bits (the first rows: the kit's laws/BITS.to-paste, as given for pasting) -/
def bt (x : Int32) (i : Nat) : Bool := x.toBitVec.getLsbD i
theorem b_ext {x y : Int32} (h : ∀ i, i < 32 → bt x i = bt y i) : x = y := Int32.toBitVec_inj.mp (BitVec.eq_of_getLsbD_eq (fun i hi => h i hi))
theorem b_or (x y : Int32) (i : Nat) : bt (x ||| y) i = (bt x i || bt y i) := by unfold bt; rw [Int32.toBitVec_or, BitVec.getLsbD_or]
theorem b_and (x y : Int32) (i : Nat) : bt (x &&& y) i = (bt x i && bt y i) := by unfold bt; rw [Int32.toBitVec_and, BitVec.getLsbD_and]
theorem b_xor (x y : Int32) (i : Nat) : bt (x ^^^ y) i = (bt x i ^^ bt y i) := by unfold bt; rw [Int32.toBitVec_xor, BitVec.getLsbD_xor]
theorem b_big {x : Int32} {i : Nat} (h : 32 ≤ i) : bt x i = false := BitVec.getLsbD_of_ge _ _ h
theorem b_m1 : ∀ i, i < 32 → bt (-1) i = true := by decide +kernel
theorem b_0 (i : Nat) : bt 0 i = false := BitVec.getLsbD_zero
theorem s_l : ∀ n, n < 32 → ((nI n &&& 31).toBitVec.smod 32).toNat = n := by decide +kernel
theorem b_shl (n : Nat) (hn : n < 32) (x : Int32) {i : Nat} (hi : i < 32) : bt (x <<< (nI n &&& 31)) i = (decide (n ≤ i) && bt x (i - n)) := by
  unfold bt
  rw [Int32.toBitVec_shiftLeft]
  show (x.toBitVec <<< ((nI n &&& 31).toBitVec.smod 32).toNat).getLsbD i = _
  rw [s_l n hn, BitVec.getLsbD_shiftLeft]
  rcases Nat.lt_or_ge i n with h | h
  · simp [h, Nat.not_le.mpr h]
  · simp [hi, h, Nat.not_lt.mpr h]
theorem b_sshr (n : Nat) (hn : n < 32) (x : Int32) {i : Nat} (hi : i < 32) : bt (x >>> (nI n &&& 31)) i = if n + i < 32 then bt x (n + i) else bt x 31 := by
  unfold bt
  rw [Int32.toBitVec_shiftRight]
  show (x.toBitVec.sshiftRight ((nI n &&& 31).toBitVec.smod 32).toNat).getLsbD i = _
  rw [s_l n hn, BitVec.getLsbD_sshiftRight, BitVec.msb_eq_getLsbD_last]
  simp [hi]
theorem b_one (i : Nat) : bt 1 i = decide (i = 0) := by
  rcases Nat.lt_or_ge i 32 with h | h
  · exact (by decide +kernel : ∀ i, i < 32 → bt 1 i = decide (i = 0)) i h
  · rw [b_big h, decide_eq_false (by omega)]
theorem k_bit (x : Int32) (b : Nat) (hb : b < 32) : (x >>> (nI b &&& 31)) &&& 1 = if bt x b = true then 1 else 0 := by
  apply b_ext
  intro i hi
  rw [b_and, b_sshr b hb x hi, b_one]
  by_cases h0 : i = 0
  · subst h0
    rw [if_pos (by omega), Nat.add_zero]
    cases hx : bt x b
    · simp [b_0]
    · simp [b_one]
  · rw [decide_eq_false h0, Bool.and_false]
    split
    · rw [b_one, decide_eq_false h0]
    · rw [b_0]
theorem k_bit1 (x : Int32) (b : Nat) (hb : b < 32) : ((x >>> (nI b &&& 31)) &&& 1 = 1) ↔ bt x b = true := by
  rw [k_bit x b hb]
  split
  · rename_i h; exact ⟨fun _ => h, fun _ => rfl⟩
  · rename_i h; exact ⟨fun q => absurd q (by decide), fun q => absurd q h⟩
theorem k_bit0 (x : Int32) (b : Nat) (hb : b < 32) : ((x >>> (nI b &&& 31)) &&& 1 = 0) ↔ bt x b = false := by
  rw [k_bit x b hb]
  split
  · rename_i h; exact ⟨fun q => absurd q (by decide), fun q => by rw [h] at q; cases q⟩
  · rename_i h
    refine ⟨fun _ => ?_, fun _ => rfl⟩
    cases hx : bt x b
    · rfl
    · exact absurd hx h
theorem k_shl1 (b : Nat) (hb : b < 32) {i : Nat} (hi : i < 32) : bt ((1 : Int32) <<< (nI b &&& 31)) i = decide (i = b) := by
  rw [b_shl b hb 1 hi, b_one]
  by_cases h : i = b
  · subst h; simp
  · rw [decide_eq_false h]
    by_cases h2 : b ≤ i
    · rw [decide_eq_true h2, decide_eq_false (by omega), Bool.and_false]
    · rw [decide_eq_false h2, Bool.false_and]
