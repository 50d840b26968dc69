/-! The law's own methods answer. -/
def kWq (u : StO) (n g d : Nat) (r : Int32 × StO × Nat × Nat) : Prop := kL r.2.1.1 n g d ∧ r.2.2.1 + (T_parts (L_types u.1)).1 ≤ 1 + (T_parts (L_types r.2.1.1)).1 ∧ r.2.2.2 + 2 * (T_parts (L_types u.1)).1 ≤ 6 + 2 * (T_parts (L_types r.2.1.1)).1
theorem s_W_above {u : StO} {n g d : Nat} (h : kL u.1 n g d) (x1 x2 : Int32) : k_ok (f_W_above u x1 x2) (kWq u n g d) := by
  unfold f_W_above
  refine k_bind (s_L_above h x1 x2) ?_
  rintro ⟨v, τ, K, N⟩ ⟨he, hk, h1, h2⟩
  cases v with
  | inl v => exact k_some ⟨hk, h1, h2⟩
  | inr k =>
    have hm := he k rfl
    simp only [List.mem_cons, List.not_mem_nil, or_false] at hm
    rcases hm with rfl | rfl | rfl
    · exact ⟨_, rfl, hk, h1, h2⟩
    · exact ⟨_, rfl, hk, h1, h2⟩
    · exact ⟨_, rfl, hk, h1, h2⟩
theorem s_W_named {u : StO} {n g d : Nat} (h : kL u.1 n g d) (x1 x2 x3 : Int32) : k_ok (f_W_named u x1 x2 x3) (kWq u n g d) := by
  unfold f_W_named
  refine k_bind (s_L_named h x1 x2 x3) ?_
  rintro ⟨v, τ, K, N⟩ ⟨he, hk, h1, h2⟩
  cases v with
  | inl v => exact k_some ⟨hk, h1, h2⟩
  | inr k =>
    have hm := he k rfl
    simp only [List.mem_cons, List.not_mem_nil, or_false] at hm
    rcases hm with rfl | rfl | rfl
    · exact ⟨_, rfl, hk, h1, h2⟩
    · exact ⟨_, rfl, hk, h1, h2⟩
    · exact ⟨_, rfl, hk, h1, h2⟩
theorem s_W_array {u : StO} {n g d : Nat} (h : kL u.1 n g d) (x1 : Int32) : k_ok (f_W_array u x1) (kWq u n g d) := by
  unfold f_W_array
  refine k_bind (s_L_array h x1) ?_
  rintro ⟨v, τ, K, N⟩ ⟨he, hk, h1, h2⟩
  cases v with
  | inl v => exact k_some ⟨hk, h1, h2⟩
  | inr k =>
    have hm := he k rfl
    simp only [List.mem_cons, List.not_mem_nil, or_false] at hm
    rcases hm with rfl | rfl
    · exact ⟨_, rfl, hk, h1, h2⟩
    · exact ⟨_, rfl, hk, h1, h2⟩
theorem s_W_upper {u : StO} {n g d : Nat} (h : kL u.1 n g d) (x1 x2 : Int32) : k_ok (f_W_upper u x1 x2) (kWq u n g d) := by
  unfold f_W_upper
  refine k_bind (s_L_upper h x1 x2) ?_
  rintro ⟨v, τ, K, N⟩ ⟨he, hk, h1, h2⟩
  cases v with
  | inl v => exact k_some ⟨hk, h1, h2⟩
  | inr k =>
    have hm := he k rfl
    simp only [List.mem_cons, List.not_mem_nil, or_false] at hm
    rcases hm with rfl | rfl
    · exact ⟨_, rfl, hk, h1, h2⟩
    · exact ⟨_, rfl, hk, h1, h2⟩
theorem s_W_lower {u : StO} {n g d : Nat} (h : kL u.1 n g d) (x1 x2 : Int32) : k_ok (f_W_lower u x1 x2) (kWq u n g d) := by
  unfold f_W_lower
  refine k_bind (s_L_lower h x1 x2) ?_
  rintro ⟨v, τ, K, N⟩ ⟨he, hk, h1, h2⟩
  cases v with
  | inl v => exact k_some ⟨hk, h1, h2⟩
  | inr k =>
    have hm := he k rfl
    simp only [List.mem_cons, List.not_mem_nil, or_false] at hm
    rcases hm with rfl | rfl
    · exact ⟨_, rfl, hk, h1, h2⟩
    · exact ⟨_, rfl, hk, h1, h2⟩
theorem s_W_isBelow {u : StO} {n g d : Nat} (h : kL u.1 n g d) (x1 x2 : Int32) : k_ok (f_W_isBelow u x1 x2) (kWq u n g d) := by
  unfold f_W_isBelow
  refine k_bind (s_L_isBelow h x1 x2) ?_
  rintro ⟨v, τ, K, N⟩ ⟨he, hk, h1, h2⟩
  cases v with
  | inl v => exact k_some ⟨hk, h1, h2⟩
  | inr k =>
    have hm := he k rfl
    simp only [List.mem_cons, List.not_mem_nil, or_false] at hm
    subst hm
    exact ⟨_, rfl, hk, h1, h2⟩
theorem s_W_look {u : StO} {n g d : Nat} (h : kL u.1 n g d) (x1 x2 : Int32) : k_ok (f_W_look u x1 x2) (kWq u n g d) := by
  unfold f_W_look
  refine k_bind (s_L_look h x1 x2) ?_
  rintro ⟨v, τ, K, N⟩ ⟨he, hk, h1, h2⟩
  cases v with
  | inl v => exact k_some ⟨hk, h1, h2⟩
  | inr k =>
    have hm := he k rfl
    simp only [List.mem_cons, List.not_mem_nil, or_false] at hm
    rcases hm with rfl | rfl
    · exact ⟨_, rfl, hk, h1, h2⟩
    · exact ⟨_, rfl, hk, h1, h2⟩
theorem s_W_box {u : StO} {n g d : Nat} (h : kL u.1 n g d) (x1 : Int32) : k_ok (f_W_box u x1) (kWq u n g d) := by
  unfold f_W_box
  refine k_bind (s_L_box h x1) ?_
  rintro ⟨v, τ, K, N⟩ ⟨he, hk, h1, h2⟩
  cases v with
  | inl v => exact k_some ⟨hk, h1, h2⟩
  | inr k =>
    have hm := he k rfl
    simp only [List.mem_cons, List.not_mem_nil, or_false] at hm
    subst hm
    exact ⟨_, rfl, hk, h1, h2⟩
theorem s_W_type {u : StO} {n g d : Nat} (h : kL u.1 n g d) (x1 x2 : Int32) : k_ok (f_W_type u x1 x2) (kWq u n g d) := by
  unfold f_W_type
  refine k_bind (s_L_type h x1 x2) ?_
  rintro ⟨v, τ, K, N⟩ ⟨he, hk, h1, h2⟩
  cases v with
  | inl v => exact k_some ⟨hk, h1, h2⟩
  | inr k =>
    have hm := he k rfl
    simp only [List.mem_cons, List.not_mem_nil, or_false] at hm
    rcases hm with rfl | rfl
    · exact ⟨_, rfl, hk, h1, h2⟩
    · exact ⟨_, rfl, hk, h1, h2⟩
theorem s_W_part {u : StO} {n g d : Nat} (h : kL u.1 n g d) (x1 x2 : Int32) : k_ok (f_W_part u x1 x2) (kWq u n g d) := by
  unfold f_W_part
  refine k_bind (s_L_part h x1 x2) ?_
  rintro ⟨v, τ, K, N⟩ ⟨he, hk, h1, h2⟩
  cases v with
  | inl v => exact k_some ⟨hk, h1, h2⟩
  | inr k =>
    have hm := he k rfl
    simp only [List.mem_cons, List.not_mem_nil, or_false] at hm
    subst hm
    exact ⟨_, rfl, hk, h1, h2⟩
theorem s_W_common {u : StO} {n g d : Nat} (h : kL u.1 n g d) (x1 x2 x3 : Int32) : k_ok (f_W_common u x1 x2 x3) (kWq u n g d) := by
  unfold f_W_common
  refine k_bind (s_L_common h x1 x2 x3) ?_
  rintro ⟨v, τ, K, N⟩ ⟨he, hk, h1, h2⟩
  cases v with
  | inl v => exact k_some ⟨hk, h1, h2⟩
  | inr k =>
    have hm := he k rfl
    simp only [List.mem_cons, List.not_mem_nil, or_false] at hm
    rcases hm with rfl | rfl
    · exact ⟨_, rfl, hk, h1, h2⟩
    · exact ⟨_, rfl, hk, h1, h2⟩
theorem s_W_isUnder {u : StO} {n g d : Nat} (h : kL u.1 n g d) (x1 x2 : Int32) : k_ok (f_W_isUnder u x1 x2) (kWq u n g d) := by
  unfold f_W_isUnder
  refine k_bind (s_L_isUnder h x1 x2) ?_
  rintro ⟨v, τ, K, N⟩ ⟨he, hk, h1, h2⟩
  cases v with
  | inl v => exact k_some ⟨hk, h1, h2⟩
  | inr k =>
    have hm := he k rfl
    simp only [List.mem_cons, List.not_mem_nil, or_false] at hm
    subst hm
    exact ⟨_, rfl, hk, h1, h2⟩
theorem s_W_classed {u : StO} {n g d : Nat} (h : kL u.1 n g d) (x1 x2 : Int32) : k_ok (f_W_classed u x1 x2) (kWq u n g d) := by
  unfold f_W_classed
  refine k_bind (s_L_classed h x1 x2) ?_
  rintro ⟨v, τ, K, N⟩ ⟨he, hk, h1, h2⟩
  cases v with
  | inl v => exact k_some ⟨hk, h1, h2⟩
  | inr k =>
    have hm := he k rfl
    simp only [List.mem_cons, List.not_mem_nil, or_false] at hm
    rcases hm with rfl | rfl
    · exact ⟨_, rfl, hk, h1, h2⟩
    · exact ⟨_, rfl, hk, h1, h2⟩
theorem s_W_direct {u : StO} {n g d : Nat} (h : kL u.1 n g d) (x1 x2 x3 : Int32) : k_ok (f_W_direct u x1 x2 x3) (kWq u n g d) := by
  unfold f_W_direct
  refine k_bind (s_L_direct h x1 x2 x3) ?_
  rintro ⟨v, τ, K, N⟩ ⟨he, hk, h1, h2⟩
  cases v with
  | inl v => exact k_some ⟨hk, h1, h2⟩
  | inr k =>
    have hm := he k rfl
    simp only [List.mem_cons, List.not_mem_nil, or_false] at hm
    rcases hm with rfl | rfl
    · exact ⟨_, rfl, hk, h1, h2⟩
    · exact ⟨_, rfl, hk, h1, h2⟩
theorem s_W_told {u : StO} {n g d : Nat} (h : kL u.1 n g d) (x1 : Int32) : k_ok (f_W_told u x1) (kWq u n g d) := by
  unfold f_W_told
  refine k_bind (s_L_told h x1) ?_
  rintro ⟨v, τ, K, N⟩ ⟨he, hk, h1, h2⟩
  cases v with
  | inl v => exact k_some ⟨hk, h1, h2⟩
  | inr k =>
    have hm := he k rfl
    simp only [List.mem_cons, List.not_mem_nil, or_false] at hm
    subst hm
    exact ⟨_, rfl, hk, h1, h2⟩
