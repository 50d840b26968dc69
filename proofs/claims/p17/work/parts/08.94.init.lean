/-! Tier 3: the first states, side by side. -/
abbrev c0f (c : Nat) : Bool := decide (c = 1 ∨ c = 2 ∨ c = 3)
abbrev c0g (c : Nat) : Bool := decide (c = 3)
abbrev c0d (c : Nat) : Nat := if c = 0 then 0 else if c ≤ 3 then 1 else if c = 4 then 2 else 3
abbrev c0o (c k : Nat) : Nat := if c ≤ 3 then 0 else if c = 4 then (if k = 0 then 0 else 2) else if k = 0 then (if c = 5 ∨ c = 8 then 0 else 4) else if k = 1 then 2 else 3
abbrev c0a (c k : Nat) : Nat := if 5 ≤ c ∧ k = 2 then 4 * (c + 3) + 1 else 0
abbrev c0u (c b : Nat) : Bool := if c = 0 then false else if c ≤ 3 then decide (b = 0) else if c = 4 then decide (b = 0 ∨ b = 2) else decide (b = 0 ∨ b = 2 ∨ b = 3 ∨ (b = 4 ∧ c ≠ 5 ∧ c ≠ 8))
def wC0 : wWc := (13, c0f, c0g, c0d, c0o, c0a, c0u)
def wT0 : wWt := (16, (fun i => if i < 8 then (0, 0, 0, []) else (1, i - 3, 0, [])), fun _ => 1)
theorem c0_lt {c b : Nat} (h : c0u c b = true) : b < 5 := by
  unfold c0u at h
  by_cases h0 : c = 0
  · rw [if_pos h0] at h; cases h
  · rw [if_neg h0] at h
    by_cases h1 : c ≤ 3
    · rw [if_pos h1] at h
      have := of_decide_eq_true h
      omega
    · rw [if_neg h1] at h
      by_cases h2 : c = 4
      · rw [if_pos h2] at h
        have := of_decide_eq_true h
        omega
      · rw [if_neg h2] at h
        have := of_decide_eq_true h
        omega
theorem c0_3 : ∀ c, c < 13 → c0d c ≤ c ∧ (0 < c → 0 < c0d c) := by decide
theorem c0_4 : ∀ c, c < 13 → ∀ k, k < c0d c → c0o c k < c ∧ ((c0g (c0o c k) = false ∧ c0a c k = 0) ∨ (c0g (c0o c k) = true ∧ 5 ≤ c ∧ c0a c k = 4 * (c + 3) + 1)) := by decide +kernel
theorem c0_5 : ∀ c, c < 13 → ∀ l, l < c0d c → ∀ k, k < l → c0o c k ≠ c0o c l := by decide +kernel
theorem c0_6 : ∀ c, c < 13 → ∀ b, b < 13 → (c0u c b = true ↔ (List.range (c0d c)).any (fun k => decide (c0o c k = b) || c0u (c0o c k) b) = true) := by decide +kernel
theorem c0_7' : ∀ c, c < 13 → ∀ b, b < 13 → ∀ k, k < c0d c → ((!(c0g b) || !(wTw wC0 (c0o c k) b)) || decide (wCl wC0 c 3 b = wCl wC0 (c0o c k) (c0a c k) b)) = true := by decide +kernel
theorem c0_7 (c : Nat) (hc : c < 13) (b : Nat) (hb : b < 13) (k : Nat) (hk : k < c0d c) (h1 : c0g b = true) (h2 : wTw wC0 (c0o c k) b = true) : wCl wC0 c 3 b = wCl wC0 (c0o c k) (c0a c k) b := by
  have h := c0_7' c hc b hb k hk
  rw [h1, h2] at h
  exact of_decide_eq_true h
theorem wC0_ok : wCok wC0 16 := by
  refine ⟨Nat.le_refl _, by show 13 ≤ 30; omega, c0_3, fun c k hc hk => ?_, fun c k l hc hkl hl => c0_5 c hc l hl k hkl, fun c b hc => ?_, fun c b k hc hb hg hk hu => c0_7 c hc b hb k hk hg hu, fun c hc => ?_, fun c b hc hu => ?_⟩
  · obtain ⟨h1, h2 | ⟨h2, h3, h4⟩⟩ := c0_4 c hc k hk
    · exact ⟨h1, Or.inl h2⟩
    · replace hc : c < 13 := hc
      exact ⟨h1, Or.inr ⟨h2, Or.inl ⟨c + 3, by omega, by omega, h4⟩⟩⟩
  · have key : ∀ k, wTw wC0 (c0o c k) b = (decide (c0o c k = b) || c0u (c0o c k) b) := fun _ => rfl
    by_cases hb : b < 13
    · show c0u c b = true ↔ _
      rw [c0_6 c hc b hb, List.any_eq_true]
      constructor
      · rintro ⟨k, k1, k2⟩
        exact ⟨k, List.mem_range.mp k1, k2⟩
      · rintro ⟨k, k1, k2⟩
        exact ⟨k, List.mem_range.mpr k1, k2⟩
    · constructor
      · intro q
        have := c0_lt (c := c) (b := b) q
        omega
      · rintro ⟨k, k1, k2⟩
        have k3 : (decide (c0o c k = b) || c0u (c0o c k) b) = true := k2
        have k4 := (c0_4 c hc k k1).1
        replace hc : c < 13 := hc
        rw [Bool.or_eq_true, decide_eq_true_eq] at k3
        rcases k3 with e | e
        · omega
        · have := c0_lt e
          omega
  · show c0g c = false
    exact decide_eq_false (by omega)
  · have : c0u c b = true := hu
    rcases (show c = 0 ∨ c = 1 ∨ c = 2 by omega) with e | e | e
    · subst e; cases this
    · subst e
      have h2 : decide (b = 0) = true := this
      have := of_decide_eq_true h2
      omega
    · subst e
      have h2 : decide (b = 0) = true := this
      have := of_decide_eq_true h2
      omega
theorem wT0_ty {i : Nat} (h : i < 8) : Ty wT0 i = (0, 0, 0, []) := if_pos h
theorem wT0_ty2 {i : Nat} (h : 8 ≤ i) : Ty wT0 i = (1, i - 3, 0, []) := if_neg (by omega)
theorem c0_g {i : Nat} (h : 5 ≤ i) : c0g i = false := decide_eq_false (by omega)
theorem wT0_ok : wTok wC0 wT0 := by
  refine ⟨Nat.le_refl _, by show 16 ≤ 300; omega, fun i hi => ⟨Nat.le_refl _, by show 1 ≤ 100; omega, ?_⟩, fun i h8 _ => wT0_ty2 h8⟩
  replace hi : i < 16 := hi
  by_cases h : i < 8
  · exact Or.inl ⟨h, wT0_ty h, rfl⟩
  · exact Or.inr (Or.inl ⟨by omega, i - 3, 0, wT0_ty2 (by omega), by show i - 3 < 13; omega, Or.inl ⟨c0_g (by omega), rfl⟩, rfl⟩)
theorem RW_0 {d : Nat} (hd : d ≤ 2) : RW wC0 1 wT0 d := by
  refine ⟨⟨wC0_ok, wT0_ok⟩, by omega, hd, rfl, fun c h1 h2 => ?_⟩
  replace h2 : c < 13 := h2
  omega
/-! the reference -/
abbrev zA (σ : StM) (c : Nat) : Prop := M_face σ c = b2 (c0f c) ∧ M_generic σ c = b2 (c0g c) ∧ M_directs σ c = nI (c0d c)
abbrev zB (σ : StM) (c k : Nat) : Prop := M_directTo σ (30 * c + k) = nI (c0o c k) ∧ M_directArg σ (30 * c + k) = wTd (c0a c k)
abbrev zC (σ : StM) (c b : Nat) : Prop := bt (M_over σ c) b = c0u c b
abbrev zT (σ : StM) (i : Nat) : Prop := M_made σ i = 1 ∧ ((i < 8 ∧ M_kind σ i = 0 ∧ M_classOf σ i = -1 ∧ M_how σ i = -1 ∧ M_inner σ i = -1 ∧ M_partCount σ i = 0) ∨ (8 ≤ i ∧ M_kind σ i = 1 ∧ M_classOf σ i = nI (i - 3) ∧ M_how σ i = 0 ∧ M_inner σ i = -1 ∧ M_partCount σ i = 1 ∧ M_partRow σ (30 * i) = nI i))
abbrev zS (σ : StM) (x : Int32) : Prop := M_classes σ = nI 13 ∧ M_generics σ = nI 1 ∧ M_types σ = nI 16 ∧ M_reckoned σ = 0 ∧ M_full σ = 0 ∧ M_depth σ = x
theorem z_S0 : zS (M1 (nI 0)) (nI 0) := by decide +kernel
theorem z_S1 : zS (M1 (nI 1)) (nI 1) := by decide +kernel
theorem z_S2 : zS (M1 (nI 2)) (nI 2) := by decide +kernel
theorem z_A0 : ∀ c, c < 13 → zA (M1 (nI 0)) c := by decide +kernel
theorem z_A1 : ∀ c, c < 13 → zA (M1 (nI 1)) c := by decide +kernel
theorem z_A2 : ∀ c, c < 13 → zA (M1 (nI 2)) c := by decide +kernel
theorem z_B0 : ∀ c, c < 13 → ∀ k, k < c0d c → zB (M1 (nI 0)) c k := by decide +kernel
theorem z_B1 : ∀ c, c < 13 → ∀ k, k < c0d c → zB (M1 (nI 1)) c k := by decide +kernel
theorem z_B2 : ∀ c, c < 13 → ∀ k, k < c0d c → zB (M1 (nI 2)) c k := by decide +kernel
theorem z_C0 : ∀ c, c < 13 → ∀ b, b < 32 → zC (M1 (nI 0)) c b := by decide +kernel
theorem z_C1 : ∀ c, c < 13 → ∀ b, b < 32 → zC (M1 (nI 1)) c b := by decide +kernel
theorem z_C2 : ∀ c, c < 13 → ∀ b, b < 32 → zC (M1 (nI 2)) c b := by decide +kernel
theorem z_T0 : ∀ i, i < 16 → zT (M1 (nI 0)) i := by decide +kernel
theorem z_T1 : ∀ i, i < 16 → zT (M1 (nI 1)) i := by decide +kernel
theorem z_T2 : ∀ i, i < 16 → zT (M1 (nI 2)) i := by decide +kernel
theorem z_RM {σ : StM} {d : Nat} (h1 : zS σ (nI d)) (h2 : ∀ c, c < 13 → zA σ c) (h3 : ∀ c, c < 13 → ∀ k, k < c0d c → zB σ c k) (h4 : ∀ c, c < 13 → ∀ b, b < 32 → zC σ c b) (h5 : ∀ i, i < 16 → zT σ i) : RM σ wC0 1 wT0 d := by
  obtain ⟨s1, s2, s3, s4, s5, s6⟩ := h1
  refine ⟨⟨s1, s2, fun c hc => ⟨(h2 c hc).1, (h2 c hc).2.1, (h2 c hc).2.2, fun k hk => h3 c hc k hk, fun b hb => h4 c hc b hb⟩⟩, ⟨s3, fun i hi => ?_⟩, ⟨0, Nat.zero_le _, s4, fun e => ?_⟩, s5, s6⟩
  · obtain ⟨m, ⟨a1, a2, a3, a4, a5, a6⟩ | ⟨a1, a2, a3, a4, a5, a6, a7⟩⟩ := h5 i hi
    · have e := wT0_ty a1
      unfold rMtr
      rw [e]
      refine ⟨a2, a3, a4, a5, m, a6, fun k hk => ?_⟩
      have : (wPs wT0 i).length = 0 := by unfold wPs; rw [e]; rfl
      omega
    · have e := wT0_ty2 a1
      unfold rMtr
      have ep : wPs wT0 i = [i] := by unfold wPs; rw [e]; rfl
      rw [e]
      refine ⟨a2, a3, a4, a5, m, a6, fun k hk => ?_⟩
      have hk' : k < 1 := by rw [ep] at hk; exact hk
      have k0 : k = 0 := by omega
      subst k0
      have e2 : (wPs wT0 i)[0] = i := by simp [ep]
      rw [e2]; exact a7
  · replace e : (0 : Nat) = 16 := e
    omega
theorem z_M0 : RM (M1 (nI 0)) wC0 1 wT0 0 := z_RM (σ := M1 (nI 0)) (d := 0) z_S0 z_A0 z_B0 z_C0 z_T0
theorem z_M1 : RM (M1 (nI 1)) wC0 1 wT0 1 := z_RM (σ := M1 (nI 1)) (d := 1) z_S1 z_A1 z_B1 z_C1 z_T1
theorem z_M2 : RM (M1 (nI 2)) wC0 1 wT0 2 := z_RM (σ := M1 (nI 2)) (d := 2) z_S2 z_A2 z_B2 z_C2 z_T2
theorem z_pc {o : Option (Int32 × StM)} {z : Int32 × StM} {P : StM → Prop} (hp : P (o.getD z).2) : k_pc o (fun r => P r.2) := by
  intro r e
  rw [e] at hp; exact hp
theorem R0_M (x1 : Int32) {d : Nat} (hd : d ≤ 2) (hx : (0 ≤ x1 ∧ x1 ≤ 2 ∧ x1 = nI d) ∨ (0 ≤ x1 ∧ ¬ x1 ≤ 2 ∧ d = 2) ∨ (¬ 0 ≤ x1 ∧ d = 0)) : k_pc (f_M_init_205 (M0 0) x1) (fun r => RM r.2 wC0 1 wT0 d) := by
  have all : ∀ d, d ≤ 2 → k_pc (f_M_init_229 1000 (M0 (nI d)) 0) (fun r => RM r.2 wC0 1 wT0 d) := by
    intro d hd
    rcases (show d = 0 ∨ d = 1 ∨ d = 2 by omega) with e | e | e
    · subst e; exact z_pc (P := fun σ => RM σ wC0 1 wT0 0) (z := (0, M0 (nI 0))) z_M0
    · subst e; exact z_pc (P := fun σ => RM σ wC0 1 wT0 1) (z := (0, M0 (nI 1))) z_M1
    · subst e; exact z_pc (P := fun σ => RM σ wC0 1 wT0 2) (z := (0, M0 (nI 2))) z_M2
  unfold f_M_init_205
  rcases hx with ⟨w1, w2, w3⟩ | ⟨w1, w2, w3⟩ | ⟨w1, w3⟩
  · rw [if_pos w1, if_pos w2, w3]
    exact all d hd
  · rw [if_pos w1, if_neg w2]
    subst w3
    exact all 2 hd
  · rw [if_neg w1]
    subst w3
    exact all 0 hd
/-! the class -/
abbrev C1 : StC := ((f_C_init_54 C0).getD (0, C0)).2
abbrev T1 : StT := ((f_T_init_75 T0).getD (0, T0)).2
abbrev yA (σ : StC) (c : Nat) : Prop := C_faces σ c = b2 (c0f c) ∧ C_generics σ c = b2 (c0g c) ∧ C_directCounts σ c = nI (c0d c)
abbrev yB (σ : StC) (c k : Nat) : Prop := C_directs σ (c * 30 + k) = nI (c0o c k) ∧ C_tolds σ (c * 30 + k) = wTd (c0a c k)
abbrev yC (σ : StC) (c b : Nat) : Prop := bt (C_above σ c) b = c0u c b
abbrev yT (σ : StT) (i : Nat) : Prop := T_arguments σ i = 0 ∧ T_elements σ i = -1 ∧ T_sizes σ i = 1 ∧ ((i < 8 ∧ T_kinds σ i = 0 ∧ T_named σ i = -1 ∧ T_partCounts σ i = 0) ∨ (8 ≤ i ∧ T_kinds σ i = 1 ∧ T_named σ i = nI (i - 3) ∧ T_partCounts σ i = 1))
theorem y_S : C_count C1 = nI 13 ∧ C_countGeneric C1 = nI 1 := by decide +kernel
theorem y_A : ∀ c, c < 13 → yA C1 c := by decide +kernel
theorem y_B : ∀ c, c < 13 → ∀ k, k < c0d c → yB C1 c k := by decide +kernel
theorem y_C : ∀ c, c < 13 → ∀ b, b < 32 → yC C1 c b := by decide +kernel
theorem y_D : ∀ c, c < 30 → 13 ≤ c → C_directCounts C1 c = 0 ∧ C_above C1 c = 0 := by decide +kernel
theorem y_TS : T_count T1 = nI 16 ∧ T_partsUsed T1 = nI 0 ∧ T_settledCount T1 = nI 16 ∧ T_settledParts T1 = nI 0 ∧ (T_parts T1).1 = 64 := by decide +kernel
theorem y_T : ∀ i, i < 16 → yT T1 i := by decide +kernel
theorem y_rC : rC C1 wC0 1 := ⟨y_S.1, y_S.2, fun c hc => ⟨(y_A c hc).1, (y_A c hc).2.1, (y_A c hc).2.2, fun k hk => y_B c hc k hk, fun b hb => y_C c hc b hb⟩, fun c h1 h2 => y_D c h2 h1⟩
theorem y_rT : rT T1 wT0 wT0 := by
  obtain ⟨s1, s2, s3, s4, s5⟩ := y_TS
  have rows : ∀ i, i < Tn wT0 → rTr T1 wT0 0 i := by
    intro i hi
    obtain ⟨a, b, c, ⟨a1, a2, a3, a4⟩ | ⟨a1, a2, a3, a4⟩⟩ := y_T i hi
    · unfold rTr
      rw [wT0_ty a1]
      exact ⟨a2, a3, a, b, c, a4, fun q => by cases q⟩
    · unfold rTr
      rw [wT0_ty2 a1]
      exact ⟨a2, a3, a, b, c, a4, fun q => by cases q⟩
  exact ⟨0, 0, s1, s2, s3, s4, Nat.le_refl _, Nat.zero_le _, Nat.zero_le _, Nat.zero_le _, by rw [s5]; exact Nat.le_refl _, by rw [s5]; omega, Nat.le_refl _, rows, rows⟩
theorem R0_C : k_pc (f_C_init_54 C0) (fun r => rC r.2 wC0 1) := by
  intro r e
  have h := y_rC
  unfold C1 at h
  rw [e] at h; exact h
theorem R0_T : k_pc (f_T_init_75 T0) (fun r => rT r.2 wT0 wT0) := by
  intro r e
  have h := y_rT
  unfold T1 at h
  rw [e] at h; exact h
theorem R0_A : k_pc (f_A_init_13 ((fun _ => 0), 0)) (fun r => rA r.2 wC0 wT0) := by
  refine p_some ⟨fun a b _ _ => ⟨fun q => ?_, fun q => ?_⟩, Or.inr (fun p k _ _ => ?_)⟩
  · have : aB (A_set_empty ((fun _ => 0), 0) 1) (300 * a + b) 0 = false := b_0 _
    rw [this] at q; cases q
  · have : aB (A_set_empty ((fun _ => 0), 0) 1) (300 * a + b) 1 = false := b_0 _
    rw [this] at q; cases q
  · exact b_0 _
