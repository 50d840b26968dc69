/-! Tier 3: LOOK, of both. -/
def rL (σ : StL) (C : wWc) (g : Nat) (T0 T : wWt) : Prop := rC (L_classes σ) C g ∧ rT (L_types σ) T0 T
theorem wIo_m1 {o : Option Nat} (h : ∀ r, o = some r → r < 2 ^ 31) : wIo o = -1 ↔ o = none := by
  cases o with
  | none => exact ⟨fun _ => rfl, fun _ => rfl⟩
  | some r => exact ⟨fun e => absurd e (k_ne1 (h r rfl)), fun e => by cases e⟩
theorem wOk_b {t : Nat} {g : Bool} {a : Nat} (h : wOk t g a) : a ≠ 3 ∧ a ≤ 4 * t + 2 := by
  rcases h with ⟨_, h⟩ | ⟨_, x, x1, x2, x3⟩
  · omega
  · omega
section
variable {σ : StL} {C : wWc} {T0 T : wWt} {g : Nat}
theorem r_L_find_75 (h : wOK C T) (r : rL σ C g T0 T) {i b p : Nat} (hp : p < Tn T) (hk : dK (Ty T p) = 1) (hb : b < Wn C) (x1 x3 x4 : Int32) (k41 : StL → Int32 → Int32 → Int32 → Int32 → Option Int32) {Q : Int32 → Prop}
    (h1 : wCl C (dX (Ty T p)) (dA (Ty T p)) b = none → k_pc (k41 σ x1 (nI b) x3 (x4 + 1)) Q) (h2 : ∀ s, wCl C (dX (Ty T p)) (dA (Ty T p)) b = some s → Q (nI s)) : k_pc (f_L_find_75 k41 σ x1 (nI b) x3 x4 (nI p)) Q := by
  have hn := h.2.2.1
  obtain ⟨_, p1, p2, _⟩ := wT_named h.2 hp hk
  unfold f_L_find_75
  rw [r_T_classOf h.2 r.2 hp, if_pos hk]
  show k_pc ((f_T_argumentAt (L_types σ) (nI p)).bind _) Q
  rw [r_T_argumentAt h.2 r.2 hp]
  show k_pc ((f_C_climb (L_classes σ) (nI (dX (Ty T p))) (nI (dA (Ty T p))) (nI b)).bind _) Q
  rw [← wEn_n (wOk_b p2).1, r_C_climb h.1 hn r.1 _ p1 hb]
  cases hc : wCl C (dX (Ty T p)) (dA (Ty T p)) b with
  | none =>
    show k_pc (if wEo none = -1 then k41 σ x1 (nI b) x3 (x4 + 1) else some (wEo none)) Q
    exact p_if (fun _ => h1 hc) (fun z => absurd rfl z)
  | some s =>
    have so := wCl_ok h.1 _ _ _ _ p1 (wOk_mono p2 (by omega)) hc
    have sb := wOk_b so
    show k_pc (if wEn s = -1 then _ else some (wEn s)) Q
    rw [wEn_n sb.1]
    exact p_if (fun z => absurd z (k_ne1 (by omega))) (fun _ => p_some (h2 s hc))
theorem wHo_len (h : wTok C T) {i : Nat} (hi : i < Tn T) (h2 : dK (Ty T i) ≠ 2) : (wHo T i).length = if 1 < wPc (Ty T i) then wPc (Ty T i) else 1 := by
  unfold wHo wPc
  rcases wT_kind h hi with ⟨q1, q2⟩ | ⟨q1, q2 | q2 | q2⟩
  · rw [if_pos q1]
    obtain ⟨_, _, h1 | ⟨h0, _⟩ | ⟨h0, _⟩ | ⟨h0, _⟩⟩ := h.2.2.1 i hi
    · rw [h1.2.1]; rfl
    · omega
    · omega
    · omega
  · rw [if_neg (by omega), if_pos q2, if_pos q2]; rfl
  · exact absurd q2 h2
  · obtain ⟨_, w1, _⟩ := wT_both h hi q2
    have n1 : ¬ dK (Ty T i) = 1 := by omega
    have n0 : ¬ dK (Ty T i) = 0 := by omega
    rw [if_neg n0, if_neg n1, if_neg n1, if_pos (by omega)]
theorem r_L_find_41 (h : wOK C T) (r : rL σ C g T0 T) {i b : Nat} (hi : i < Tn T) (h2 : dK (Ty T i) ≠ 2) (hb : b < Wn C) : ∀ (f k : Nat), k ≤ (wHo T i).length → k_pc (f_L_find_41 f σ (nI i) (nI b) (nI (wHo T i).length) (nI k)) (fun v => v = wIo (wLs C T b ((wHo T i).drop k))) := by
  have hn := h.2.2.1
  have hl : (wHo T i).length ≤ 30 := by
    rw [wHo_len h.2 hi h2]
    have := wPc_le h.2 hi
    split <;> omega
  intro f
  induction f with
  | zero => intro k _; exact p_none
  | succ f ih =>
    intro k hk
    rw [f_L_find_41]
    unfold f_L_find_41_s
    refine p_if (fun z => p_some ?_) (fun z => ?_)
    · rw [nI_leI (by omega) (by omega)] at z
      rw [show k = (wHo T i).length by omega, List.drop_length]; rfl
    · rw [nI_leI (by omega) (by omega)] at z
      have hk' : k < (wHo T i).length := by omega
      have hp := wHo_ok h.2 hi h2 (List.getElem_mem hk')
      have key : k_pc (f_L_find_75 (f_L_find_41 f) σ (nI i) (nI b) (nI (wHo T i).length) (nI k) (nI (wHo T i)[k])) (fun v => v = wIo (wLs C T b ((wHo T i).drop k))) := by
        rw [List.drop_eq_getElem_cons hk', wLs]
        refine r_L_find_75 (i := i) h r hp.2.1 hp.2.2 hb _ _ _ _ (fun e => ?_) (fun s e => ?_)
        · rw [e, nI_1]; exact ih (k + 1) (by omega)
        · rw [e]; rfl
      rw [r_T_kindOf h.2 r.2 hi]
      show k_pc (if nI (dK (Ty T i)) = 0 then _ else _) _
      have kl := wK_lt h.2 hi
      refine p_if (fun y => ?_) (fun y => ?_)
      · have y2 : nI (dK (Ty T i)) = nI 0 := y
        rw [nI_eq (by omega) (by decide)] at y2
        have e : (wHo T i)[k] = 8 + i := by
          have e1 : wHo T i = [i + 8] := by unfold wHo; rw [if_pos y2]
          have e2 : k = 0 := by rw [e1] at hk'; simpa using hk'
          subst e2
          simp [e1]; omega
        rw [e] at key
        show k_pc (f_L_find_75 (f_L_find_41 f) σ (nI i) (nI b) (nI (wHo T i).length) (nI k) (nI 8 + nI i)) _
        rw [nI_add]; exact key
      · have y2 : ¬ nI (dK (Ty T i)) = nI 0 := y
        rw [nI_eq (by omega) (by decide)] at y2
        have ep : wPs T i = wHo T i := by
          unfold wPs wHo; rw [if_neg y2]
        rw [r_T_partOf h.2 r.2 hi (k := k) (by rw [ep]; exact hk')]
        have e : (wPs T i)[k]'(by rw [ep]; exact hk') = (wHo T i)[k] := by simp [ep]
        rw [e]
        exact key
theorem r_L_find (h : wOK C T) (r : rL σ C g T0 T) {i b : Nat} (hi : i < Tn T) (hb : b < Wn C) : k_pc (f_L_find σ (nI i) (nI b)) (fun v => v = wIo (wLk C T i b)) := by
  have hn := h.2.2.1
  have hC := h.1.2.1
  have kl := wK_lt h.2 hi
  unfold f_L_find
  rw [r_T_kindOf h.2 r.2 hi]
  show k_pc (if nI (dK (Ty T i)) = 2 then _ else _) _
  refine p_if (fun z => ?_) (fun z => ?_)
  · have z2 : nI (dK (Ty T i)) = nI 2 := z
    rw [nI_eq (by omega) (by decide)] at z2
    have yes : b < 3 → k_pc (f_L_find_26 σ) (fun v => v = wIo (wLk C T i b)) := by
      intro y
      refine p_some ?_
      unfold wLk; rw [if_pos z2, if_pos y]; rfl
    have cmp : ∀ m, m < 3 → (nI b = nI m ↔ b = m) := fun m hm => nI_eq (by omega) (by omega)
    refine p_if (fun y => yes ?_) (fun y1 => p_if (fun y => yes ?_) (fun y2 => p_if (fun y => yes ?_) (fun y3 => p_some ?_)))
    · have := (cmp 0 (by omega)).mp y; omega
    · have := (cmp 1 (by omega)).mp y; omega
    · have := (cmp 2 (by omega)).mp y; omega
    · have n0 : ¬ b = 0 := fun e => y1 ((cmp 0 (by omega)).mpr e)
      have n1 : ¬ b = 1 := fun e => y2 ((cmp 1 (by omega)).mpr e)
      have n2 : ¬ b = 2 := fun e => y3 ((cmp 2 (by omega)).mpr e)
      unfold wLk; rw [if_pos z2, if_neg (by omega)]; rfl
  · have z2 : ¬ nI (dK (Ty T i)) = nI 2 := z
    rw [nI_eq (by omega) (by decide)] at z2
    unfold f_L_countHolders
    rw [r_T_countParts h.2 r.2 hi]
    show k_pc (f_L_find_41 1000 σ (nI i) (nI b) (if (1 : Int32) < nI (wPc (Ty T i)) then nI (wPc (Ty T i)) else 1) 0) _
    have w30 := wPc_le h.2 hi
    have e : (if (1 : Int32) < nI (wPc (Ty T i)) then nI (wPc (Ty T i)) else 1) = nI (wHo T i).length := by
      rw [wHo_len h.2 hi z2]
      by_cases y : 1 < wPc (Ty T i)
      · have y2 : (1 : Int32) < nI (wPc (Ty T i)) := by show nI 1 < nI (wPc (Ty T i)); rw [nI_ltI (by decide) (by omega)]; exact y
        rw [if_pos y, if_pos y2]
      · have y2 : ¬ (1 : Int32) < nI (wPc (Ty T i)) := by show ¬ nI 1 < nI (wPc (Ty T i)); rw [nI_ltI (by decide) (by omega)]; exact y
        rw [if_neg y, if_neg y2]; rfl
    rw [e]
    refine p_mono (r_L_find_41 h r hi z2 hb 1000 0 (by omega)) (fun v hv => ?_)
    rw [hv, List.drop_zero]
    unfold wLk; rw [if_neg z2]
end
/-- what a LOOK leaves in the reference's state -/
def rFd (σ : StM) (o : Option Nat) (r : Int32 × StM) : Prop := match o with
  | some s => r.2 = mF σ 1 (wH s) (wTd s)
  | none => ∃ h g, r.2 = mF σ 0 h g
section
variable {σ : StM} {C : wWc} {T : wWt} {g : Nat}
theorem wHx_sb (a s : Nat) : wHx (wH a) s = wH (wSb a s) := by
  unfold wHx wSb
  by_cases h : s = 3
  · rw [if_pos h, if_pos h]
  · rw [if_neg h, if_neg h]
theorem wGx_sb (a s : Nat) : wGx (wTd a) s = wTd (wSb a s) := by
  unfold wGx wSb
  by_cases h : s = 3
  · rw [if_pos h, if_pos h]
  · rw [if_neg h, if_neg h]
theorem r_M_climb_at (h : wOK C T) (r : rMc σ C g) (q : rMt σ T) {p b : Nat} (hp : p < Tn T) (hk : dK (Ty T p) = 1) (hb : b < Wn C) : k_pc (f_M_climb σ (M_classOf σ p) (M_how σ p) (M_inner σ p) (nI b)) (rFd σ (wCl C (dX (Ty T p)) (dA (Ty T p)) b)) := by
  obtain ⟨_, p1, p2, _⟩ := wT_named h.2 hp hk
  obtain ⟨_, q2, q3, q4, _⟩ := q.2 p hp
  rw [q2, q3, q4, if_pos hk, if_pos hk, if_pos hk, wCl_sub h.1 _ _ _ p1]
  obtain ⟨c1, c2⟩ := r_M_climb h.1 h.2.2.1 r p1 hb (wH (dA (Ty T p))) (wTd (dA (Ty T p)))
  cases hc : wCl C (dX (Ty T p)) 3 b with
  | none =>
    refine p_mono (p_ok (c2 hc)) (fun r hr => ?_)
    exact ⟨_, _, hr⟩
  | some s =>
    refine p_mono (p_ok (c1 s hc)) (fun r hr => ?_)
    rw [wHx_sb, wGx_sb] at hr
    exact hr
theorem r_M_lookAt_57 (h : wOK C T) (r : rMc σ C g) (q : rMt σ T) {i b : Nat} (hi : i < Tn T) (hb : b < Wn C) :
    ∀ (f k : Nat) (hh gg : Int32), k ≤ (wPs T i).length → k_pc (f_M_lookAt_57 f (mF σ 0 hh gg) (nI b) (nI i) (nI k)) (rFd σ (wLs C T b ((wPs T i).drop k))) := by
  have hn := h.2.2.1
  have hl : (wPs T i).length ≤ 30 := by rw [wPs_len h.2 hi]; exact wPc_le h.2 hi
  intro f
  induction f with
  | zero => intro k hh gg _; exact p_none
  | succ f ih =>
    intro k hh gg hk
    rw [f_M_lookAt_57]
    unfold f_M_lookAt_57_s
    rw [nI_clamp (show i < 2 ^ 31 by omega), show M_partCount (mF σ 0 hh gg) i = nI (wPs T i).length from by rw [wPs_len h.2 hi]; exact (q.2 i hi).2.2.2.2.2.1]
    refine p_guard (fun _ => p_if (fun z => p_some ?_) (fun z => ?_))
    · rw [nI_leI (by omega) (by omega)] at z
      rw [show k = (wPs T i).length by omega, List.drop_length]
      exact ⟨hh, gg, rfl⟩
    · rw [nI_leI (by omega) (by omega)] at z
      have hk' : k < (wPs T i).length := by omega
      obtain ⟨p1, p2, p3⟩ := wPs_ok h.2 hi (List.getElem_mem hk')
      refine p_if (fun _ => ?_) (fun z => absurd rfl z)
      have cl : (30 * nI i + nI k).toNatClampNeg = 30 * i + k := by rw [k_30ix]; exact nI_clamp (by omega)
      rw [cl, show M_partRow (mF σ 0 hh gg) (30 * i + k) = nI (wPs T i)[k] from (q.2 i hi).2.2.2.2.2.2 k hk', nI_clamp (show (wPs T i)[k] < 2 ^ 31 by omega)]
      refine p_guard (fun _ => p_guard (fun _ => p_guard (fun _ => p_guard (fun _ => ?_))))
      rw [List.drop_eq_getElem_cons hk', wLs]
      refine p_bind (r_M_climb_at (σ := mF σ 0 hh gg) (g := g) h r q p2 p3 hb) ?_
      rintro ⟨v, τ⟩ hv
      rw [nI_1]
      cases hc : wCl C (dX (Ty T (wPs T i)[k])) (dA (Ty T (wPs T i)[k])) b with
      | none =>
        rw [hc] at hv
        obtain ⟨h', g', e⟩ := hv
        replace e : τ = mF σ 0 h' g' := e
        rw [e]
        exact ih (k + 1) h' g' (by omega)
      | some s =>
        rw [hc] at hv
        replace hv : τ = mF σ 1 (wH s) (wTd s) := hv
        rw [hv]
        show k_pc (f_M_lookAt_57 f (mF σ 1 (wH s) (wTd s)) (nI b) (nI i) (nI (k + 1))) _
        cases f with
        | zero => exact p_none
        | succ f =>
          rw [f_M_lookAt_57]
          unfold f_M_lookAt_57_s
          refine p_guard (fun _ => p_if (fun _ => p_some rfl) (fun _ => p_if (fun z => absurd z (by decide : ¬ (1 : Int32) = 0)) (fun _ => p_some rfl)))
theorem wLk_box (h : wTok C T) {i : Nat} (hi : i < 8) (b : Nat) : wLk C T i b = wLk C T (i + 8) b := by
  have h16 := h.1
  have k0 : dK (Ty T i) = 0 := by
    rcases wT_kind h (show i < Tn T by omega) with ⟨q, _⟩ | ⟨q, _⟩
    · exact q
    · omega
  have k1 : dK (Ty T (i + 8)) = 1 := by rw [h.2.2.2 (i + 8) (by omega) (by omega)]
  rw [wLk_one T (q := i + 8) (by omega) (by unfold wHo; rw [if_pos k0]), wLk_named T k1]
theorem r_M_lookAt_14 (h : wOK C T) (r : rMc σ C g) (q : rMt σ T) {i b : Nat} (h8 : 8 ≤ i) (hi : i < Tn T) (hb : b < Wn C) : k_pc (f_M_lookAt_14 σ (nI b) (nI i)) (rFd σ (wLk C T i b)) := by
  have hn := h.2.2.1
  have hC := h.1.2.1
  have kl := wK_lt h.2 hi
  have ek : M_kind (M_set_found σ 0) i = nI (dK (Ty T i)) := (q.2 i hi).1
  unfold f_M_lookAt_14
  rw [nI_clamp (show i < 2 ^ 31 by omega), ek]
  refine p_guard (fun _ => p_if (fun z => ?_) (fun z => ?_))
  · have z2 : nI (dK (Ty T i)) = nI 2 := z
    rw [nI_eq (by omega) (by decide)] at z2
    have el : wPs T i = [] := by
      obtain ⟨_, _, h1 | ⟨_, _, _, h0, _⟩ | ⟨_, _, h0, _⟩ | ⟨_, _, h0, _⟩⟩ := h.2.2.2.1 i hi
      · omega
      · rw [h0] at z2; cases z2
      · unfold wPs; rw [h0]; rfl
      · rw [h0] at z2; cases z2
    have ec : M_partCount σ i = nI 0 := by
      rw [(q.2 i hi).2.2.2.2.2.1, ← wPs_len h.2 hi, el]; rfl
    have go : ∀ a : Int32, k_pc (f_M_lookAt_41 (M_set_found σ 0) (nI b) (nI i) a) (fun r => r.2 = mF σ a 0 (-1)) := by
      intro a
      unfold f_M_lookAt_41
      refine p_guard (fun _ => ?_)
      rw [f_M_lookAt_57]
      unfold f_M_lookAt_57_s
      rw [nI_clamp (show i < 2 ^ 31 by omega)]
      refine p_guard (fun _ => p_if (fun _ => p_some rfl) (fun y => ?_))
      replace y : ¬ M_partCount σ i ≤ 0 := y
      rw [ec] at y
      exact absurd (show nI 0 ≤ nI 0 by rw [nI_leI (by decide) (by decide)]; omega) y
    refine p_if (fun y => ?_) (fun y => ?_)
    · have y2 : nI 3 ≤ nI b := y
      rw [nI_leI (by decide) (by omega)] at y2
      unfold wLk
      rw [if_pos z2, if_neg (by omega)]
      exact p_mono (go 0) (fun r hr => ⟨_, _, hr⟩)
    · have y2 : ¬ nI 3 ≤ nI b := y
      rw [nI_leI (by decide) (by omega)] at y2
      unfold wLk
      rw [if_pos z2, if_pos (by omega)]
      exact go 1
  · have z2 : ¬ nI (dK (Ty T i)) = nI 2 := z
    rw [nI_eq (by omega) (by decide)] at z2
    have ep : wHo T i = wPs T i := by
      rcases wT_kind h.2 hi with ⟨_, w⟩ | ⟨_, w⟩
      · omega
      · unfold wPs wHo; rw [if_neg (by omega)]
    unfold wLk
    rw [if_neg z2, ep]
    have := r_M_lookAt_57 h r q hi hb 1000 0 (M_foundHow σ) (M_foundType σ) (by omega)
    rw [List.drop_zero] at this
    exact this
theorem r_M_lookAt (h : wOK C T) (r : rMc σ C g) (q : rMt σ T) {i b : Nat} (hi : i < Tn T) (hb : b < Wn C) : k_pc (f_M_lookAt σ (nI i) (nI b)) (rFd σ (wLk C T i b)) := by
  have hn := h.2.2.1
  have h16 := h.2.1
  unfold f_M_lookAt
  refine p_if (fun z => ?_) (fun z => ?_)
  · have z2 : nI 8 ≤ nI i := z
    rw [nI_leI (by decide) (by omega)] at z2
    exact r_M_lookAt_14 h r q z2 hi hb
  · have z2 : ¬ nI 8 ≤ nI i := z
    rw [nI_leI (by decide) (by omega)] at z2
    have e : nI i + 8 = nI (i + 8) := nI_add i 8
    rw [e, wLk_box h.2 (by omega)]
    exact r_M_lookAt_14 h r q (by omega) (by omega) hb
end
