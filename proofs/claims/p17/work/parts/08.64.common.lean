/-! Tier 3: COMMON and LEAST classes, of both. -/
def wSee (C : wWc) (T : wWt) (i b : Nat) : Bool := (wLk C T i b).isSome
def wAny (C : wWc) (T : wWt) (b : Nat) (l : List Nat) : Bool := l.any (fun p => wTw C (dX (Ty T p)) b)
def wLea (C : wWc) (s : Nat → Bool) (b : Nat) : Bool := s b && !((wfs (fun c => s c && Wu C c b) (Wn C) 0).isSome)
theorem wLs_any {C : wWc} {T : wWt} (h : wOK C T) (b : Nat) : ∀ (l : List Nat), (∀ p, p ∈ l → p < Tn T ∧ dK (Ty T p) = 1) → (wLs C T b l).isSome = wAny C T b l := by
  intro l
  induction l with
  | nil => intro _; rfl
  | cons p l ih =>
    intro hl
    obtain ⟨p1, p2⟩ := hl p (by simp)
    obtain ⟨_, p3, _⟩ := wT_named h.2 p1 p2
    have ih' := ih (fun q hq => hl q (by simp [hq]))
    rw [wLs]
    unfold wAny at ih' ⊢
    rw [List.any_cons]
    cases hu : wTw C (dX (Ty T p)) b with
    | true =>
      obtain ⟨r, hr⟩ := wCl_some h.1 _ (dA (Ty T p)) b p3 hu
      rw [hr]; rfl
    | false => rw [wCl_none h.1 _ p3 hu, Bool.false_or]; exact ih'
section
variable {σ : StL} {C : wWc} {T0 T : wWt} {g : Nat}
theorem r_L_foundIn_72 (h : wOK C T) (r : rL σ C g T0 T) {i : Nat} (hi : i < Tn T) : ∀ (f k : Nat) (x2 : Int32), k ≤ (wPs T i).length → k_pc (f_L_foundIn_72 f σ (nI i) x2 (nI (wPs T i).length) (nI k)) (fun v => ∀ b, b < 32 → bt v b = (bt x2 b || wAny C T b ((wPs T i).drop k))) := by
  have hn := h.2.2.1
  have hl : (wPs T i).length ≤ 30 := by rw [wPs_len h.2 hi]; exact wPc_le h.2 hi
  intro f
  induction f with
  | zero => intro k x2 _; exact p_none
  | succ f ih =>
    intro k x2 hk
    rw [f_L_foundIn_72]
    unfold f_L_foundIn_72_s
    refine p_if (fun z => p_some (fun b hb => ?_)) (fun z => ?_)
    · rw [nI_leI (by omega) (by omega)] at z
      rw [show k = (wPs T i).length by omega, List.drop_length]
      show bt x2 b = (bt x2 b || false)
      rw [Bool.or_false]
    · rw [nI_leI (by omega) (by omega)] at z
      have hk' : k < (wPs T i).length := by omega
      obtain ⟨p1, p2, p3⟩ := wPs_ok h.2 hi (List.getElem_mem hk')
      rw [r_T_partOf h.2 r.2 hi hk']
      show k_pc ((f_T_classOf (L_types σ) (nI (wPs T i)[k])).bind _) _
      rw [r_T_classOf h.2 r.2 p2, if_pos p3]
      obtain ⟨v, v1, v2⟩ := r_C_withAbove h.1 r.1 (wT_named h.2 p2 p3).2.1
      show k_pc ((f_C_withAbove (L_classes σ) (nI (dX (Ty T (wPs T i)[k])))).bind _) _
      rw [v1]
      show k_pc (f_L_foundIn_72 f σ (nI i) (x2 ||| v) (nI (wPs T i).length) (nI k + 1)) _
      rw [nI_1]
      refine p_mono (ih (k + 1) (x2 ||| v) (by omega)) (fun w hw b hb => ?_)
      rw [hw b hb, b_or, v2 b hb, List.drop_eq_getElem_cons hk']
      unfold wAny
      rw [List.any_cons, Bool.or_assoc]
theorem bt_7 : ∀ b, b < 32 → bt 7 b = decide (b < 3) := by decide +kernel
theorem r_L_foundIn (h : wOK C T) (r : rL σ C g T0 T) {i : Nat} (hi : i < Tn T) : k_pc (f_L_foundIn σ (nI i)) (fun v => ∀ b, b < 32 → bt v b = wSee C T i b) := by
  have hn := h.2.2.1
  have h16 := h.2.1
  have kl := wK_lt h.2 hi
  unfold f_L_foundIn
  rw [r_T_kindOf h.2 r.2 hi]
  show k_pc (if nI (dK (Ty T i)) = 0 then _ else _) _
  refine p_if (fun z => ?_) (fun z => ?_)
  · have z2 : nI (dK (Ty T i)) = nI 0 := z
    rw [nI_eq (by omega) (by decide)] at z2
    have i8 : i < 8 := by
      rcases wT_kind h.2 hi with ⟨_, w⟩ | ⟨_, w⟩
      · exact w
      · omega
    have k1 : dK (Ty T (8 + i)) = 1 := by rw [h.2.2.2.2 (8 + i) (by omega) (by omega)]
    have e : f_L_boxTypeOf (nI i) = nI (8 + i) := nI_add 8 i
    rw [e, r_T_classOf h.2 r.2 (by omega), if_pos k1]
    have p3 := (wT_named h.2 (show 8 + i < Tn T by omega) k1).2.1
    obtain ⟨v, v1, v2⟩ := r_C_withAbove h.1 r.1 p3
    show k_pc ((f_C_withAbove (L_classes σ) (nI (dX (Ty T (8 + i))))).bind _) _
    rw [v1]
    refine p_some (fun b hb => ?_)
    rw [v2 b hb]
    have eh : wHo T i = [8 + i] := by unfold wHo; rw [if_pos z2, Nat.add_comm]
    unfold wSee wLk
    rw [if_neg (by omega), wLs_any h b _ (fun p hp => (wHo_ok h.2 hi (by omega) hp).2), eh]
    unfold wAny
    simp
  · have z2 : ¬ nI (dK (Ty T i)) = nI 0 := z
    rw [nI_eq (by omega) (by decide)] at z2
    refine p_if (fun y => ?_) (fun y => ?_)
    · have y2 : nI (dK (Ty T i)) = nI 2 := y
      rw [nI_eq (by omega) (by decide)] at y2
      refine p_some (fun b hb => ?_)
      rw [bt_7 b hb]
      unfold wSee wLk
      rw [if_pos y2]
      by_cases w : b < 3
      · rw [if_pos w, decide_eq_true w]; rfl
      · rw [if_neg w, decide_eq_false w]; rfl
    · have y2 : ¬ nI (dK (Ty T i)) = nI 2 := y
      rw [nI_eq (by omega) (by decide)] at y2
      rw [r_T_countParts h.2 r.2 hi, ← wPs_len h.2 hi]
      show k_pc (f_L_foundIn_72 1000 σ (nI i) 0 (nI (wPs T i).length) 0) _
      refine p_mono (r_L_foundIn_72 h r hi 1000 0 0 (by omega)) (fun v hv b hb => ?_)
      rw [hv b hb, b_0, Bool.false_or, List.drop_zero]
      have ep : wHo T i = wPs T i := by unfold wPs wHo; rw [if_neg z2]
      unfold wSee wLk
      rw [if_neg y2, wLs_any h b _ (fun p hp => (wHo_ok h.2 hi y2 hp).2), ep]
theorem r_L_commonOf (h : wOK C T) (r : rL σ C g T0 T) {i j : Nat} (hi : i < Tn T) (hj : j < Tn T) : k_pc (f_L_commonOf σ (nI i) (nI j)) (fun v => ∀ b, b < 32 → bt v b = (wSee C T i b && wSee C T j b)) := by
  unfold f_L_commonOf
  refine p_bind (r_L_foundIn h r hi) (fun v hv => p_bind (r_L_foundIn h r hj) (fun w hw => p_some (fun b hb => ?_)))
  rw [b_and, hv b hb, hw b hb]
theorem wLea_cov {s : Nat → Bool} {b : Nat} (k : Nat) (p : Nat → Bool) (hp : p = fun c => s c && Wu C c b) : (wfs p (k + 1) 0).isSome = ((wfs p k 0).isSome || p k) := by
  clear hp
  cases e : wfs p k 0 with
  | some m =>
    obtain ⟨m1, m2, m3, m4⟩ := wfs_some e
    rw [wfs_is (f := k + 1) (k := m) (by omega) (by omega) m3 m4]; rfl
  | none =>
    have hk := wfs_none e
    cases q : p k with
    | true => rw [wfs_is (f := k + 1) (k := k) (by omega) (by omega) q (fun j j1 j2 => hk j j1 (by omega))]; rfl
    | false =>
      rw [wfs_no (fun j j1 j2 => ?_)]
      · rfl
      · by_cases ej : j = k
        · rw [ej]; exact q
        · exact hk j j1 (by omega)
theorem b_not (x : Int32) (i : Nat) (hi : i < 32) : bt (x ^^^ (-1)) i = !(bt x i) := by
  rw [b_xor, b_m1 i hi, Bool.xor_true]
theorem r_C_leastOf_4 {σ : StC} {t : Nat} (h : wCok C t) (r : rC σ C g) {x1 : Int32} {s : Nat → Bool} (hs : ∀ b, b < 32 → bt x1 b = s b) : ∀ (f k : Nat) (x2 : Int32), k ≤ Wn C → (∀ b, b < 32 → bt x2 b = (wfs (fun c => s c && Wu C c b) k 0).isSome) → k_pc (f_C_leastOf_4 f σ x1 x2 (nI k)) (fun v => ∀ b, b < 32 → bt v b = wLea C s b) := by
  have hn := h.2.1
  intro f
  induction f with
  | zero => intro k x2 _ _; exact p_none
  | succ f ih =>
    intro k x2 hk h2
    rw [f_C_leastOf_4]
    unfold f_C_leastOf_4_s
    rw [r.1]
    refine p_if (fun z => p_some (fun b hb => ?_)) (fun z => ?_)
    · rw [nI_leI (by omega) (by omega)] at z
      have ek : k = Wn C := by omega
      subst ek
      rw [b_and, b_not _ _ hb, hs b hb, h2 b hb]; rfl
    · rw [nI_leI (by omega) (by omega)] at z
      rw [k_has _ (show k < 32 by omega), hs k (by omega), nI_1, nI_clamp (show k < 2 ^ 31 by omega)]
      refine p_if (fun y => ih (k + 1) x2 (by omega) (fun b hb => ?_)) (fun y => p_guard (fun _ => ih (k + 1) _ (by omega) (fun b hb => ?_)))
      · rw [wLea_cov k _ rfl, ← h2 b hb, b2_0.mp y, Bool.false_and, Bool.or_false]
      · have sk : s k = true := by
          cases q : s k with
          | true => rfl
          | false => rw [q] at y; exact absurd rfl y
        rw [b_or, wLea_cov k _ rfl, h2 b hb, sk, Bool.true_and, (r.2.2.1 k (by omega)).2.2.2.2 b hb]
theorem r_C_leastOf {σ : StC} {t : Nat} (h : wCok C t) (r : rC σ C g) {x1 : Int32} {s : Nat → Bool} (hs : ∀ b, b < 32 → bt x1 b = s b) : k_pc (f_C_leastOf σ x1) (fun v => ∀ b, b < 32 → bt v b = wLea C s b) := by
  unfold f_C_leastOf
  exact r_C_leastOf_4 h r hs 1000 0 0 (by omega) (fun b hb => by rw [b_0]; rfl)
end
section
variable {σ : StM} {C : wWc} {T : wWt} {g : Nat}
theorem rFd_f {o : Option Nat} {r : Int32 × StM} (h : rFd σ o r) : (∃ h g, r.2 = mF σ (b2 o.isSome) h g) := by
  cases o with
  | none => exact h
  | some s => exact ⟨_, _, h⟩
theorem wSee_lt (h : wOK C T) {i b : Nat} (hi : i < Tn T) (q : wSee C T i b = true) : b < Wn C := by
  have h13 := h.1.1
  unfold wSee at q
  cases e : wLk C T i b with
  | none => rw [e] at q; cases q
  | some r =>
    unfold wLk at e
    by_cases k2 : dK (Ty T i) = 2
    · rw [if_pos k2] at e
      by_cases b3 : b < 3
      · omega
      · rw [if_neg b3] at e; cases e
    · rw [if_neg k2] at e
      obtain ⟨_, p, p1, p2⟩ := wLs_ok h _ (fun p hp => (wHo_ok h.2 hi k2 hp).2) e
      obtain ⟨_, w2, w3⟩ := wHo_ok h.2 hi k2 p1
      have c1 := (wT_named h.2 w2 w3).2.1
      have := wTw_le h.1 c1 (wCl_tw h.1 c1 p2)
      omega
theorem r_M_commonOf_5 (h : wOK C T) (r : rMc σ C g) (q : rMt σ T) {i j : Nat} (hi : i < Tn T) (hj : j < Tn T) :
    ∀ (f k : Nat) (x3 a hh gg : Int32), k ≤ Wn C → (∀ b, b < 32 → bt x3 b = (decide (b < k) && (wSee C T i b && wSee C T j b))) → k_pc (f_M_commonOf_5 f (mF σ a hh gg) (nI i) (nI j) x3 (nI k)) (fun v => (∃ a h g, v.2 = mF σ a h g) ∧ ∀ b, b < 32 → bt v.1 b = (wSee C T i b && wSee C T j b)) := by
  have hn := h.1.2.1
  intro f
  induction f with
  | zero => intro k x3 a hh gg _ _; exact p_none
  | succ f ih =>
    intro k x3 a hh gg hk hx
    rw [f_M_commonOf_5]
    unfold f_M_commonOf_5_s
    rw [show M_classes (mF σ a hh gg) = nI (Wn C) from r.1]
    refine p_if (fun z => p_some ⟨⟨a, hh, gg, rfl⟩, fun b hb => ?_⟩) (fun z => ?_)
    · rw [nI_leI (by omega) (by omega)] at z
      rw [hx b hb]
      by_cases w : b < k
      · rw [decide_eq_true w, Bool.true_and]
      · rw [decide_eq_false w, Bool.false_and]
        cases e : wSee C T i b with
        | false => rfl
        | true => have := wSee_lt h hi e; omega
    · rw [nI_leI (by omega) (by omega)] at z
      have hk' : k < Wn C := by omega
      refine p_bind (r_M_lookAt (σ := mF σ a hh gg) (g := g) h r q hi hk') ?_
      rintro ⟨v, τ⟩ hv
      obtain ⟨h1, g1, e1⟩ := rFd_f hv
      replace e1 : τ = mF σ (b2 (wSee C T i k)) h1 g1 := e1
      subst e1
      refine p_bind (r_M_lookAt (σ := mF σ (b2 (wSee C T i k)) h1 g1) (g := g) h r q hj hk') ?_
      rintro ⟨w, τ⟩ hw
      obtain ⟨h2, g2, e2⟩ := rFd_f hw
      replace e2 : τ = mF σ (b2 (wSee C T j k)) h2 g2 := e2
      subst e2
      have f1 : M_found (mF σ (b2 (wSee C T i k)) h1 g1) = b2 (wSee C T i k) := rfl
      have f2 : M_found (mF σ (b2 (wSee C T j k)) h2 g2) = b2 (wSee C T j k) := rfl
      have nx : ∀ y : Int32, (∀ b, b < 32 → bt y b = (decide (b < k + 1) && (wSee C T i b && wSee C T j b))) → k_pc (f_M_commonOf_5 f (mF σ (b2 (wSee C T j k)) h2 g2) (nI i) (nI j) y (nI k + 1)) (fun v => (∃ a h g, v.2 = mF σ a h g) ∧ ∀ b, b < 32 → bt v.1 b = (wSee C T i b && wSee C T j b)) := by
        intro y hy
        rw [nI_1]
        exact ih (k + 1) y _ _ _ (by omega) hy
      have no : (wSee C T i k && wSee C T j k) = false → k_pc (f_M_commonOf_54 (f_M_commonOf_5 f) (mF σ (b2 (wSee C T j k)) h2 g2) (nI i) (nI j) (nI k) x3) (fun v => (∃ a h g, v.2 = mF σ a h g) ∧ ∀ b, b < 32 → bt v.1 b = (wSee C T i b && wSee C T j b)) := by
        intro e
        unfold f_M_commonOf_54
        refine nx _ (fun b hb => ?_)
        rw [b_or, b_0, Bool.or_false, hx b hb]
        by_cases w : b = k
        · subst w; rw [e, Bool.and_false, Bool.and_false]
        · by_cases w2 : b < k
          · rw [decide_eq_true w2, decide_eq_true (by omega)]
          · rw [decide_eq_false w2, decide_eq_false (by omega)]
      show k_pc (if M_found (mF σ (b2 (wSee C T i k)) h1 g1) = 0 then _ else _) _
      rw [f1]
      refine p_if (fun y => no (by rw [b2_0.mp y]; rfl)) (fun y => ?_)
      show k_pc (if M_found (mF σ (b2 (wSee C T j k)) h2 g2) = 0 then _ else _) _
      rw [f2]
      refine p_if (fun y2 => no (by rw [b2_0.mp y2, Bool.and_false])) (fun y2 => ?_)
      have s1 : wSee C T i k = true := by
        cases e : wSee C T i k with
        | true => rfl
        | false => rw [e] at y; exact absurd rfl y
      have s2 : wSee C T j k = true := by
        cases e : wSee C T j k with
        | true => rfl
        | false => rw [e] at y2; exact absurd rfl y2
      refine nx _ (fun b hb => ?_)
      rw [b_or, k_shl1 k (by omega) hb, hx b hb]
      by_cases w : b = k
      · subst w; rw [s1, s2, decide_eq_true (show b = b from rfl), decide_eq_true (show b < b + 1 by omega), Bool.or_true]; rfl
      · rw [decide_eq_false w, Bool.or_false]
        by_cases w2 : b < k
        · rw [decide_eq_true w2, decide_eq_true (by omega)]
        · rw [decide_eq_false w2, decide_eq_false (by omega)]
theorem r_M_commonOf (h : wOK C T) (r : rMc σ C g) (q : rMt σ T) {i j : Nat} (hi : i < Tn T) (hj : j < Tn T) : k_pc (f_M_commonOf σ (nI i) (nI j)) (fun v => (∃ a h g, v.2 = mF σ a h g) ∧ ∀ b, b < 32 → bt v.1 b = (wSee C T i b && wSee C T j b)) := by
  unfold f_M_commonOf
  exact r_M_commonOf_5 h r q hi hj 1000 0 0 (M_found σ) (M_foundHow σ) (M_foundType σ) (by omega) (fun b hb => by rw [b_0]; rfl)
theorem r_M_leastOf_4 {t : Nat} (h : wCok C t) (r : rMc σ C g) {x1 : Int32} {s : Nat → Bool} (hs : ∀ b, b < 32 → bt x1 b = s b) : ∀ (f k : Nat) (x2 : Int32), k ≤ Wn C → (∀ b, b < 32 → bt x2 b = (s b && !((wfs (fun c => s c && Wu C c b) k 0).isSome))) → k_pc (f_M_leastOf_4 f σ x1 x2 (nI k)) (fun v => ∀ b, b < 32 → bt v b = wLea C s b) := by
  have hn := h.2.1
  intro f
  induction f with
  | zero => intro k x2 _ _; exact p_none
  | succ f ih =>
    intro k x2 hk h2
    rw [f_M_leastOf_4]
    unfold f_M_leastOf_4_s
    rw [r.1]
    refine p_if (fun z => p_some (fun b hb => ?_)) (fun z => ?_)
    · rw [nI_leI (by omega) (by omega)] at z
      have ek : k = Wn C := by omega
      subst ek
      exact h2 b hb
    · rw [nI_leI (by omega) (by omega)] at z
      rw [nI_1, nI_clamp (show k < 2 ^ 31 by omega)]
      refine p_if (fun y => p_guard (fun _ => ih (k + 1) _ (by omega) (fun b hb => ?_))) (fun y => ih (k + 1) x2 (by omega) (fun b hb => ?_))
      · have sk := (k_bit1 x1 k (by omega)).mp y
        rw [hs k (by omega)] at sk
        rw [b_and, b_not _ _ hb, h2 b hb, wLea_cov k _ rfl, sk, Bool.true_and, (r.2.2 k (by omega)).2.2.2.2 b hb, Bool.not_or, Bool.and_assoc]
      · have sk : s k = false := by
          cases e : s k with
          | false => rfl
          | true => exact absurd ((k_bit1 x1 k (by omega)).mpr (by rw [hs k (by omega)]; exact e)) y
        rw [h2 b hb, wLea_cov k _ rfl, sk, Bool.false_and, Bool.or_false]
theorem r_M_leastOf {t : Nat} (h : wCok C t) (r : rMc σ C g) {x1 : Int32} {s : Nat → Bool} (hs : ∀ b, b < 32 → bt x1 b = s b) : k_pc (f_M_leastOf σ x1) (fun v => ∀ b, b < 32 → bt v b = wLea C s b) := by
  unfold f_M_leastOf
  exact r_M_leastOf_4 h r hs 1000 0 x1 (by omega) (fun b hb => by rw [hs b hb]; simp [wfs])
end
