/-! Tier 3: Integer.bitCount against the reference's count: fields of a number, halved step by step. -/
theorem and_split {k a b m n : Nat} (ha : a < 2 ^ k) (hm : m < 2 ^ k) : (a + 2 ^ k * b) &&& (m + 2 ^ k * n) = (a &&& m) + 2 ^ k * (b &&& n) := by
  have ham : a &&& m < 2 ^ k := Nat.and_lt_two_pow a hm
  apply Nat.eq_of_testBit_eq
  intro i
  rw [Nat.testBit_and, Nat.add_comm a, Nat.add_comm m, Nat.add_comm (a &&& m)]
  rw [Nat.testBit_two_pow_mul_add _ ha, Nat.testBit_two_pow_mul_add _ hm, Nat.testBit_two_pow_mul_add _ ham]
  by_cases h : i < k
  · rw [if_pos h, if_pos h, if_pos h, Nat.testBit_and]
  · rw [if_neg h, if_neg h, if_neg h, Nat.testBit_and]
theorem and_cut (k X m M : Nat) (hm : m < 2 ^ k) : X &&& (m + 2 ^ k * M) = (X % 2 ^ k &&& m) + 2 ^ k * (X / 2 ^ k &&& M) := by
  have e := and_split (k := k) (a := X % 2 ^ k) (b := X / 2 ^ k) (m := m) (n := M) (Nat.mod_lt _ (Nat.two_pow_pos k)) hm
  rw [Nat.mod_add_div] at e
  exact e
def q_m (W m : Nat) : Nat → Nat
  | 0 => 0
  | n + 1 => m + W * q_m W m n
def q_s (w : Nat) : Nat → Nat → Nat
  | 0, _ => 0
  | n + 1, X => X % w + q_s w n (X / w)
def q_d (w B : Nat) : Nat → Nat → Prop
  | 0, X => X = 0
  | n + 1, X => X % w ≤ B ∧ q_d w B n (X / w)
def q_y (w : Nat) : Nat → Nat → Nat
  | 0, _ => 0
  | n + 1, X => (X % w + X / w % w) + (w * w) * q_y w n (X / w / w)
theorem q_m_rec {k w : Nat} (hk : w = 2 ^ k) (n X : Nat) : X &&& q_m (w * w) (w - 1) (n + 1) = X % w + (w * w) * (X / w / w &&& q_m (w * w) (w - 1) n) := by
  have hp : w * w = 2 ^ (k + k) := by rw [hk, Nat.pow_add]
  have lt : w - 1 < 2 ^ (k + k) := by
    have h1 : 2 ^ k ≤ 2 ^ (k + k) := Nat.pow_le_pow_right (by decide) (Nat.le_add_right k k)
    have h2 : 0 < 2 ^ k := Nat.two_pow_pos k
    rw [hk]; omega
  have dv : w ∣ w * w := Nat.dvd_mul_right w w
  show X &&& ((w - 1) + (w * w) * q_m (w * w) (w - 1) n) = _
  have e := and_cut (k + k) X (w - 1) (q_m (w * w) (w - 1) n) lt
  rw [← hp] at e
  rw [e, Nat.div_div_eq_div_mul]
  congr 1
  have e2 : X % (w * w) &&& (w - 1) = X % (w * w) % w := by
    rw [hk]; exact Nat.and_two_pow_sub_one_eq_mod _ k
  rw [e2]
  exact Nat.mod_mod_of_dvd X dv
theorem q_y_eo {k w : Nat} (hk : w = 2 ^ k) : ∀ (n X : Nat), (X &&& q_m (w * w) (w - 1) n) + (X / w &&& q_m (w * w) (w - 1) n) = q_y w n X := by
  intro n
  induction n with
  | zero =>
    intro X
    show (X &&& 0) + (X / w &&& 0) = 0
    rw [Nat.and_zero, Nat.and_zero]
  | succ n ih =>
    intro X
    rw [q_m_rec hk, q_m_rec hk]
    show _ = (X % w + X / w % w) + (w * w) * q_y w n (X / w / w)
    rw [← ih (X / w / w), Nat.mul_add]
    exact Nat.add_add_add_comm _ _ _ _
theorem q_y_bs {w B : Nat} (hw : 0 < w * w) (hB : B + B < w * w) : ∀ (n X : Nat), q_d w B (2 * n) X → q_d (w * w) (B + B) n (q_y w n X) ∧ q_s (w * w) n (q_y w n X) = q_s w (2 * n) X := by
  intro n
  induction n with
  | zero => intro X _; exact ⟨(show (0 : Nat) = 0 from rfl), rfl⟩
  | succ n ih =>
    intro X h
    obtain ⟨h1, h2, h3⟩ := (show X % w ≤ B ∧ X / w % w ≤ B ∧ q_d w B (2 * n) (X / w / w) from h)
    obtain ⟨i1, i2⟩ := ih (X / w / w) h3
    have hs : X % w + X / w % w < w * w := Nat.lt_of_le_of_lt (Nat.add_le_add h1 h2) hB
    have q1 : ((X % w + X / w % w) + (w * w) * q_y w n (X / w / w)) % (w * w) = X % w + X / w % w := by
      rw [Nat.add_mul_mod_self_left, Nat.mod_eq_of_lt hs]
    have q2 : ((X % w + X / w % w) + (w * w) * q_y w n (X / w / w)) / (w * w) = q_y w n (X / w / w) := by
      rw [Nat.add_mul_div_left _ _ hw, Nat.div_eq_of_lt hs, Nat.zero_add]
    show (((X % w + X / w % w) + (w * w) * q_y w n (X / w / w)) % (w * w) ≤ B + B ∧ q_d (w * w) (B + B) n (((X % w + X / w % w) + (w * w) * q_y w n (X / w / w)) / (w * w))) ∧ ((X % w + X / w % w) + (w * w) * q_y w n (X / w / w)) % (w * w) + q_s (w * w) n (((X % w + X / w % w) + (w * w) * q_y w n (X / w / w)) / (w * w)) = X % w + (X / w % w + q_s w (2 * n) (X / w / w))
    rw [q1, q2, i2]
    exact ⟨⟨Nat.add_le_add h1 h2, i1⟩, Nat.add_assoc _ _ _⟩
theorem q_d_0 {w B n X : Nat} (h : q_d w B n X) : X % w ≤ B := by
  cases n with
  | zero =>
    have e : X = 0 := h
    rw [e, Nat.zero_mod]; exact Nat.zero_le B
  | succ n => exact (show X % w ≤ B ∧ q_d w B n (X / w) from h).1
theorem q_dv {w a b : Nat} (h0 : 0 < w) (h : a % w + b % w < w) : (a + b) / w = a / w + b / w := by
  have e : a + b = (a % w + b % w) + w * (a / w + b / w) := by
    have e1 : a + b = (a % w + w * (a / w)) + (b % w + w * (b / w)) := by rw [Nat.mod_add_div, Nat.mod_add_div]
    rw [Nat.mul_add]
    exact e1.trans (Nat.add_add_add_comm _ _ _ _)
  have e3 : (a + b) / w = ((a % w + b % w) + w * (a / w + b / w)) / w := congrArg (fun z => z / w) e
  rw [e3, Nat.add_mul_div_left _ _ h0, Nat.div_eq_of_lt h, Nat.zero_add]
theorem q_y_z {k w B : Nat} (hk : w = 2 ^ k) (hB : B + B < w) : ∀ (n X : Nat), q_d w B (2 * n) X → (X + X / w) &&& q_m (w * w) (w - 1) n = q_y w n X := by
  have h0 : 0 < w := by rw [hk]; exact Nat.two_pow_pos k
  intro n
  induction n with
  | zero => intro X _; exact Nat.and_zero _
  | succ n ih =>
    intro X h
    obtain ⟨h1, h2, h3⟩ := (show X % w ≤ B ∧ X / w % w ≤ B ∧ q_d w B (2 * n) (X / w / w) from h)
    have h4 := q_d_0 h3
    have s1 : X % w + X / w % w < w := Nat.lt_of_le_of_lt (Nat.add_le_add h1 h2) hB
    have s2 : X / w % w + X / w / w % w < w := Nat.lt_of_le_of_lt (Nat.add_le_add h2 h4) hB
    have q1 : (X + X / w) % w = X % w + X / w % w := by rw [Nat.add_mod, Nat.mod_eq_of_lt s1]
    have q2 : (X + X / w) / w / w = X / w / w + X / w / w / w := by rw [q_dv h0 s1, q_dv h0 s2]
    show (X + X / w) &&& q_m (w * w) (w - 1) (n + 1) = (X % w + X / w % w) + (w * w) * q_y w n (X / w / w)
    rw [q_m_rec hk, q1, q2, ih (X / w / w) h3]
theorem q_y_a : ∀ (n X : Nat), q_d 2 1 (2 * n) X → X = q_y 2 n X + (X / 2 &&& q_m (2 * 2) (2 - 1) n) := by
  intro n
  induction n with
  | zero =>
    intro X h
    have e : X = 0 := h
    subst e
    show 0 = 0 + (0 / 2 &&& 0)
    exact (congrArg (fun z => 0 + z) (Nat.and_zero (0 / 2))).symm
  | succ n ih =>
    intro X h
    obtain ⟨h1, h2, h3⟩ := (show X % 2 ≤ 1 ∧ X / 2 % 2 ≤ 1 ∧ q_d 2 1 (2 * n) (X / 2 / 2) from h)
    have i := ih (X / 2 / 2) h3
    rw [q_m_rec (k := 1) (w := 2) rfl]
    show X = (X % 2 + X / 2 % 2) + (2 * 2) * q_y 2 n (X / 2 / 2) + _
    revert i
    generalize q_y 2 n (X / 2 / 2) = Y
    generalize (X / 2 / 2 / 2 &&& q_m (2 * 2) (2 - 1) n) = Q
    intro i
    omega
theorem q_d_1 : ∀ (n X : Nat), X < 2 ^ n → q_d 2 1 n X := by
  intro n
  induction n with
  | zero =>
    intro X h
    show X = 0
    exact Nat.lt_one_iff.mp h
  | succ n ih =>
    intro X h
    show X % 2 ≤ 1 ∧ q_d 2 1 n (X / 2)
    refine ⟨by omega, ih (X / 2) ?_⟩
    rw [Nat.pow_succ] at h
    omega
theorem q_s_last : ∀ (n X : Nat), q_s 2 (n + 1) X = q_s 2 n X + X / 2 ^ n % 2 := by
  intro n
  induction n with
  | zero =>
    intro X
    show X % 2 + 0 = 0 + X / 2 ^ 0 % 2
    rw [Nat.pow_zero, Nat.div_one, Nat.add_zero, Nat.zero_add]
  | succ n ih =>
    intro X
    show X % 2 + q_s 2 (n + 1) (X / 2) = (X % 2 + q_s 2 n (X / 2)) + X / 2 ^ (n + 1) % 2
    rw [ih (X / 2), Nat.pow_succ, Nat.mul_comm (2 ^ n) 2, ← Nat.div_div_eq_div_mul, Nat.add_assoc]
theorem q_s_sum (N : Nat) : ∀ (n k : Nat), q_s 2 n (N / 2 ^ k) = ((List.range' k n).map (fun i => N / 2 ^ i % 2)).sum := by
  intro n
  induction n with
  | zero => intro k; rfl
  | succ n ih =>
    intro k
    rw [List.range'_succ, List.map_cons, List.sum_cons, ← ih (k + 1)]
    show N / 2 ^ k % 2 + q_s 2 n (N / 2 ^ k / 2) = N / 2 ^ k % 2 + q_s 2 n (N / 2 ^ (k + 1))
    rw [Nat.pow_succ, ← Nat.div_div_eq_div_mul]
theorem q_fin {Y : Nat} (h : q_d 256 8 4 Y) : Y < 4294967296 ∧ Y + Y / 256 < 4294967296 ∧ (Y + Y / 256) + (Y + Y / 256) / 65536 < 4294967296 ∧ ((Y + Y / 256) + (Y + Y / 256) / 65536) % 64 = q_s 256 4 Y := by
  obtain ⟨h0, h1, h2, h3, h4⟩ := (show Y % 256 ≤ 8 ∧ Y / 256 % 256 ≤ 8 ∧ Y / 256 / 256 % 256 ≤ 8 ∧ Y / 256 / 256 / 256 % 256 ≤ 8 ∧ Y / 256 / 256 / 256 / 256 = 0 from h)
  show _ ∧ _ ∧ _ ∧ _ = Y % 256 + (Y / 256 % 256 + (Y / 256 / 256 % 256 + (Y / 256 / 256 / 256 % 256 + 0)))
  obtain ⟨a, ea⟩ : ∃ a, a = Y % 256 := ⟨_, rfl⟩
  obtain ⟨b, eb⟩ : ∃ b, b = Y / 256 % 256 := ⟨_, rfl⟩
  obtain ⟨c, ec⟩ : ∃ c, c = Y / 256 / 256 % 256 := ⟨_, rfl⟩
  obtain ⟨d, ed⟩ : ∃ d, d = Y / 256 / 256 / 256 % 256 := ⟨_, rfl⟩
  rw [← ea] at h0
  rw [← eb] at h1
  rw [← ec] at h2
  rw [← ed] at h3
  rw [← ea, ← eb, ← ec, ← ed]
  have f3 : Y / 256 / 256 / 256 = d := by omega
  have f2 : Y / 256 / 256 = c + 256 * d := by omega
  have f1 : Y / 256 = b + 256 * (c + 256 * d) := by omega
  have f0 : Y = a + 256 * (b + 256 * (c + 256 * d)) := by omega
  clear h4 ea eb ec ed f3 f2
  have g1 : Y + Y / 256 = (a + b) + 256 * ((b + c) + 256 * ((c + d) + 256 * d)) := by omega
  have g2 : (Y + Y / 256) / 65536 = (c + d) + 256 * d := by rw [g1]; omega
  rw [g2, g1]
  refine ⟨by omega, by omega, by omega, by omega⟩
def bcF (v : BitVec 32) : BitVec 32 :=
  let i1 := v - ((v >>> 1) &&& 1431655765#32)
  let i2 := (i1 &&& 858993459#32) + ((i1 >>> 2) &&& 858993459#32)
  let i3 := (i2 + (i2 >>> 4)) &&& 252645135#32
  let i4 := i3 + (i3 >>> 8)
  let i5 := i4 + (i4 >>> 16)
  i5 &&& 63#32
theorem bcF_sum (v : BitVec 32) : (bcF v).toNat = q_s 2 32 v.toNat := by
  obtain ⟨i1, e1⟩ : ∃ i1, i1 = v - ((v >>> 1) &&& 1431655765#32) := ⟨_, rfl⟩
  obtain ⟨i2, e2⟩ : ∃ i2, i2 = (i1 &&& 858993459#32) + ((i1 >>> 2) &&& 858993459#32) := ⟨_, rfl⟩
  obtain ⟨i3, e3⟩ : ∃ i3, i3 = (i2 + (i2 >>> 4)) &&& 252645135#32 := ⟨_, rfl⟩
  obtain ⟨i4, e4⟩ : ∃ i4, i4 = i3 + (i3 >>> 8) := ⟨_, rfl⟩
  obtain ⟨i5, e5⟩ : ∃ i5, i5 = i4 + (i4 >>> 16) := ⟨_, rfl⟩
  have eF : bcF v = i5 &&& 63#32 := by
    rw [e5, e4, e3, e2, e1]; rfl
  obtain ⟨N, hN⟩ : ∃ N, N = v.toNat := ⟨_, rfl⟩
  have lt : N < 4294967296 := by rw [hN]; exact v.isLt
  have b0 : q_d 2 1 (2 * 16) N := q_d_1 32 N lt
  have m1 : q_m (2 * 2) (2 - 1) 16 = 1431655765 := by decide +kernel
  have m2 : q_m (4 * 4) (4 - 1) 8 = 858993459 := by decide +kernel
  have m3 : q_m (16 * 16) (16 - 1) 4 = 252645135 := by decide +kernel
  have a1 := q_y_a 16 N b0
  rw [m1] at a1
  obtain ⟨b1, c1⟩ := q_y_bs (w := 2) (B := 1) (by decide) (by decide) 16 N b0
  have n1 : i1.toNat = q_y 2 16 N := by
    have t : ((v >>> 1) &&& 1431655765#32).toNat = N / 2 &&& 1431655765 := by
      rw [BitVec.toNat_and, BitVec.toNat_ushiftRight, Nat.shiftRight_eq_div_pow, ← hN]; rfl
    rw [e1, BitVec.toNat_sub, t, ← hN]
    revert a1
    generalize (N / 2 &&& 1431655765) = O
    generalize q_y 2 16 N = Y
    intro a1
    show (4294967296 - O + N) % 4294967296 = Y
    omega
  obtain ⟨Y1, hY1⟩ : ∃ y, y = q_y 2 16 N := ⟨_, rfl⟩
  rw [← hY1] at n1 b1 c1
  have b1' : q_d 4 2 (2 * 8) Y1 := b1
  obtain ⟨b2, c2⟩ := q_y_bs (w := 4) (B := 2) (by decide) (by decide) 8 Y1 b1'
  have a2 := q_y_eo (k := 2) (w := 4) rfl 8 Y1
  rw [m2] at a2
  have l1 : Y1 &&& 858993459 ≤ 858993459 := Nat.and_le_right
  have l2 : Y1 / 4 &&& 858993459 ≤ 858993459 := Nat.and_le_right
  have n2 : i2.toNat = q_y 4 8 Y1 := by
    have t1 : (i1 &&& 858993459#32).toNat = Y1 &&& 858993459 := by rw [BitVec.toNat_and, n1]; rfl
    have t2 : ((i1 >>> 2) &&& 858993459#32).toNat = Y1 / 4 &&& 858993459 := by
      rw [BitVec.toNat_and, BitVec.toNat_ushiftRight, Nat.shiftRight_eq_div_pow, n1]; rfl
    rw [e2, BitVec.toNat_add, t1, t2, ← a2]
    exact Nat.mod_eq_of_lt (Nat.lt_of_le_of_lt (Nat.add_le_add l1 l2) (by decide))
  have l3 : q_y 4 8 Y1 ≤ 1717986918 := by rw [← a2]; exact Nat.le_trans (Nat.add_le_add l1 l2) (by decide)
  obtain ⟨Y2, hY2⟩ : ∃ y, y = q_y 4 8 Y1 := ⟨_, rfl⟩
  rw [← hY2] at n2 b2 c2 l3
  have b2' : q_d 16 4 (2 * 4) Y2 := b2
  obtain ⟨b3, c3⟩ := q_y_bs (w := 16) (B := 4) (by decide) (by decide) 4 Y2 b2'
  have a3 := q_y_z (k := 4) (w := 16) (B := 4) rfl (by decide) 4 Y2 b2'
  rw [m3] at a3
  have n3 : i3.toNat = q_y 16 4 Y2 := by
    have t : (i2 + (i2 >>> 4)).toNat = Y2 + Y2 / 16 := by
      rw [BitVec.toNat_add, BitVec.toNat_ushiftRight, Nat.shiftRight_eq_div_pow, n2]
      show (Y2 + Y2 / 16) % 4294967296 = _
      exact Nat.mod_eq_of_lt (by omega)
    rw [e3, BitVec.toNat_and, t, ← a3]; rfl
  obtain ⟨Y3, hY3⟩ : ∃ y, y = q_y 16 4 Y2 := ⟨_, rfl⟩
  rw [← hY3] at n3 b3 c3
  have b3' : q_d 256 8 4 Y3 := b3
  obtain ⟨z0, z1, z2, z3⟩ := q_fin b3'
  have n4 : i4.toNat = Y3 + Y3 / 256 := by
    rw [e4, BitVec.toNat_add, BitVec.toNat_ushiftRight, Nat.shiftRight_eq_div_pow, n3]
    show (Y3 + Y3 / 256) % 4294967296 = _
    exact Nat.mod_eq_of_lt z1
  have n5 : i5.toNat = (Y3 + Y3 / 256) + (Y3 + Y3 / 256) / 65536 := by
    rw [e5, BitVec.toNat_add, BitVec.toNat_ushiftRight, Nat.shiftRight_eq_div_pow, n4]
    show ((Y3 + Y3 / 256) + (Y3 + Y3 / 256) / 65536) % 4294967296 = _
    exact Nat.mod_eq_of_lt z2
  have t5 : (i5 &&& 63#32).toNat = i5.toNat % 64 := by
    rw [BitVec.toNat_and]
    exact Nat.and_two_pow_sub_one_eq_mod i5.toNat 6
  rw [eF, t5, n5, z3, ← hN]
  exact (c3.trans c2).trans c1
theorem bc_s1 (y : Int32) : ((y.toUInt32 >>> ((1 : Int32).toUInt32 &&& Int32.toUInt32 31)).toInt32).toBitVec = y.toBitVec >>> 1 := rfl
theorem bc_s2 (y : Int32) : ((y.toUInt32 >>> ((2 : Int32).toUInt32 &&& Int32.toUInt32 31)).toInt32).toBitVec = y.toBitVec >>> 2 := rfl
theorem bc_s4 (y : Int32) : ((y.toUInt32 >>> ((4 : Int32).toUInt32 &&& Int32.toUInt32 31)).toInt32).toBitVec = y.toBitVec >>> 4 := rfl
theorem bc_s8 (y : Int32) : ((y.toUInt32 >>> ((8 : Int32).toUInt32 &&& Int32.toUInt32 31)).toInt32).toBitVec = y.toBitVec >>> 8 := rfl
theorem bc_s16 (y : Int32) : ((y.toUInt32 >>> ((16 : Int32).toUInt32 &&& Int32.toUInt32 31)).toInt32).toBitVec = y.toBitVec >>> 16 := rfl
theorem bcF_of (x : Int32) : (f_J_bitCount x).toBitVec = bcF x.toBitVec := by
  unfold f_J_bitCount bcF
  simp only [Int32.toBitVec_and, Int32.toBitVec_add, Int32.toBitVec_sub, bc_s1, bc_s2, bc_s4, bc_s8, bc_s16]
  rfl
theorem k_cnt {x : Int32} {c : Nat → Nat} (hc : ∀ i, i < 32 → c i = if bt x i = true then 1 else 0) : ∀ (f k s : Nat), k ≤ 31 → 31 < f + k → f_M_count_4 f x (nI s) (nI k) = some (nI (s + ((List.range' k (31 - k)).map c).sum)) := by
  intro f
  induction f with
  | zero => intro k s h1 h2; omega
  | succ f ih =>
    intro k s h1 h2
    rw [f_M_count_4]
    unfold f_M_count_4_s
    by_cases z : k = 31
    · subst z
      rw [if_pos (by decide)]; rfl
    · have n : ¬ (31 : Int32) ≤ nI k := by
        show ¬ nI 31 ≤ nI k
        rw [nI_leI (by decide) (by omega)]; omega
      rw [if_neg n, k_bit x k (by omega), nI_1, show 31 - k = (31 - (k + 1)) + 1 by omega, List.range'_succ, List.map_cons, List.sum_cons, ← Nat.add_assoc, ← ih (k + 1) (s + c k) (by omega) (by omega)]
      congr 1
      rw [hc k (by omega)]
      by_cases w : bt x k = true
      · rw [if_pos w, if_pos w]; exact nI_add s 1
      · rw [if_neg w, if_neg w]; exact nI_add s 0
theorem k_bits {x : Int32} (h : bt x 31 = false) : f_M_count x = some (f_J_bitCount x) := by
  obtain ⟨N, hN⟩ : ∃ N, N = x.toBitVec.toNat := ⟨_, rfl⟩
  have hcb : ∀ i, i < 32 → (fun i => N / 2 ^ i % 2) i = if bt x i = true then 1 else 0 := by
    intro i _
    have e : bt x i = decide (N / 2 ^ i % 2 = 1) := by
      unfold bt
      rw [BitVec.getLsbD, ← hN, Nat.testBit_eq_decide_div_mod_eq]
    rw [e]
    show N / 2 ^ i % 2 = _
    by_cases w : N / 2 ^ i % 2 = 1
    · rw [if_pos (decide_eq_true w)]; exact w
    · rw [if_neg (by rw [decide_eq_false w]; decide)]
      exact (Nat.mod_two_eq_zero_or_one _).resolve_right w
  have hs := bcF_sum x.toBitVec
  have c31 : N / 2 ^ 31 % 2 = 0 := by
    have := hcb 31 (by decide)
    rw [h] at this
    exact this
  have s1 : q_s 2 32 N = q_s 2 31 N := by rw [q_s_last 31 N, c31, Nat.add_zero]
  have s2 := q_s_sum N 31 0
  rw [Nat.pow_zero, Nat.div_one] at s2
  have z : (0 : Int32) = nI 0 := rfl
  have val : nI (q_s 2 31 N) = f_J_bitCount x := by
    apply Int32.toBitVec_inj.mp
    apply BitVec.eq_of_toNat_eq
    rw [bcF_of, hs, ← hN, s1]
    have lt := (bcF x.toBitVec).isLt
    rw [hs, ← hN, s1] at lt
    have e1 : (nI (q_s 2 31 N)).toBitVec.toNat = q_s 2 31 N % 2 ^ 32 := BitVec.toNat_ofNat _ _
    rw [e1]
    exact Nat.mod_eq_of_lt lt
  have key : ∀ F, 31 < F → f_M_count_4 F x 0 0 = some (f_J_bitCount x) := by
    intro F hF
    rw [z, k_cnt (c := fun i => N / 2 ^ i % 2) hcb F 0 0 (Nat.zero_le _) hF, Nat.zero_add, Nat.sub_zero, ← s2, val]
  unfold f_M_count
  exact key 1000 (by decide)
