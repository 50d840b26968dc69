/-! Tier 3: the reference's tables of classes hold the numbers; its climb. -/
def rMr (μ : StM) (C : wWc) (c : Nat) : Prop := M_face μ c = b2 (Wf C c) ∧ M_generic μ c = b2 (Wg C c) ∧ M_directs μ c = nI (Wd C c) ∧
  (∀ k, k < Wd C c → M_directTo μ (30 * c + k) = nI (Wo C c k) ∧ M_directArg μ (30 * c + k) = wTd (Wa C c k)) ∧ (∀ b, b < 32 → bt (M_over μ c) b = Wu C c b)
def rMc (μ : StM) (C : wWc) (g : Nat) : Prop := M_classes μ = nI (Wn C) ∧ M_generics μ = nI g ∧ (∀ c, c < Wn C → rMr μ C c)
def wH (a : Nat) : Int32 := if a = 0 then 0 else if a = 3 then 1 else nI (a % 4)
def wHx (hh : Int32) (s : Nat) : Int32 := if s = 3 then hh else wH s
def wGx (gg : Int32) (s : Nat) : Int32 := if s = 3 then gg else wTd s
section
variable {σ : StM} {C : wWc} {t g : Nat}
theorem r_M_climb_55 (h : wCok C t) (r : rMc σ C g) {c b : Nat} (hc : c < Wn C) (hb : b < Wn C) (k38 : StM → Int32 → Int32 → Option (Int32 × StM)) {k1 : Nat} :
    ∀ (f k : Nat), k ≤ k1 → k1 < Wd C c → wTw C (Wo C c k1) b = true → (∀ j, j < k1 → wTw C (Wo C c j) b = false) → k1 < f + k → f_M_climb_55 k38 f σ (nI b) (nI c) (nI k) = f_M_climb_101 k38 σ (nI b) (nI c) (nI k1) := by
  have hn := h.2.1
  have hd := (h.2.2.1 c hc).1
  intro f
  induction f with
  | zero => intro k h1 h2 h3 h4 h5; omega
  | succ f ih =>
    intro k h1 h2 h3 h4 h5
    rw [f_M_climb_55]
    unfold f_M_climb_55_s
    have lt := (h.2.2.2.1 c k hc (by omega)).1
    have et := ((r.2.2 c hc).2.2.2.1 k (by omega)).1
    have ix : ¬ ((30 * nI c + nI k) < 0 ∨ 900 ≤ (30 * nI c + nI k).toNatClampNeg) := by
      rw [k_30ix]; exact nI_in (by omega) (by decide)
    have cl : (30 * nI c + nI k).toNatClampNeg = 30 * c + k := by rw [k_30ix]; exact nI_clamp (by omega)
    rw [if_neg ix, if_neg ix, cl, et, s_M_under (by omega) (by omega), (r.2.2 _ (show Wo C c k < Wn C by omega)).2.2.2.2 b (by omega)]
    by_cases e : k = k1
    · subst e
      by_cases q : Wo C c k = b
      · rw [if_pos (by rw [q])]
      · rw [if_neg (by rw [nI_eq (by omega) (by omega)]; exact q), if_pos (wTw_ne h3 q)]; rfl
    · have w := h4 k (by omega)
      have q1 : ¬ Wo C c k = b := by intro q; rw [q, wTw_self] at w; cases w
      have q2 : ¬ Wu C (Wo C c k) b = true := by intro q; rw [wTw_up q] at w; cases w
      rw [if_neg (by rw [nI_eq (by omega) (by omega)]; exact q1), if_neg q2, ← ih (k + 1) (by omega) h2 h3 h4 (by omega), ← nI_1]; rfl
theorem r_M_climb_38 (h : wCok C t) (ht : t ≤ 300) (r : rMc σ C g) {b : Nat} (hb : b < Wn C) (hh gg : Int32) :
    ∀ (f c d s : Nat), c < Wn C → c < f → wCl C c d b = some s → k_ok (f_M_climb_38 f (mF σ 1 (wHx hh d) (wGx gg d)) (nI b) (nI c)) (fun r => r.2 = mF σ 1 (wHx hh s) (wGx gg s)) := by
  have hn := h.2.1
  intro f
  induction f with
  | zero => intro c d s h1 h2; omega
  | succ f ih =>
    intro c d s h1 h2 h3
    rw [f_M_climb_38]
    unfold f_M_climb_38_s
    refine k_if (fun q => absurd q (by decide : ¬ (1 : Int32) = 0)) (fun _ => ?_)
    refine k_if (fun q => ?_) (fun q => ?_)
    · rw [nI_eq (by omega) (by omega)] at q
      subst q
      rw [wCl_here] at h3
      cases h3
      exact k_some rfl
    · rw [nI_eq (by omega) (by omega)] at q
      obtain ⟨k1, p1, p2, p3, p4⟩ := wFe_some h h1 (wCl_tw h h1 h3) q
      have lt := (h.2.2.2.1 c k1 h1 p2).1
      have hd := (h.2.2.1 c h1).1
      have r5 : f_M_climb_55 (f_M_climb_38 f) 1000 (mF σ 1 (wHx hh d) (wGx gg d)) (nI b) (nI c) 0 = f_M_climb_101 (f_M_climb_38 f) (mF σ 1 (wHx hh d) (wGx gg d)) (nI b) (nI c) (nI k1) :=
        r_M_climb_55 (σ := mF σ 1 (wHx hh d) (wGx gg d)) (g := g) h r h1 hb (f_M_climb_38 f) 1000 0 (by omega) p2 p3 p4 (by omega)
      rw [r5]
      obtain ⟨e1, e2⟩ := (r.2.2 c h1).2.2.2.1 k1 p2
      have ix : ¬ ((30 * nI c + nI k1) < 0 ∨ 900 ≤ (30 * nI c + nI k1).toNatClampNeg) := by
        rw [k_30ix]; exact nI_in (by omega) (by decide)
      have cl : (30 * nI c + nI k1).toNatClampNeg = 30 * c + k1 := by rw [k_30ix]; exact nI_clamp (by omega)
      rw [wCl_step h d h1 q p1] at h3
      have nx := ih (Wo C c k1) _ s (by omega) (by omega) h3
      have k144 : ∀ (hh' gg' : Int32), hh' = wHx hh (wSb d (Wa C c k1)) → gg' = wGx gg (wSb d (Wa C c k1)) → k_ok (f_M_climb_144 (f_M_climb_38 f) (mF σ 1 hh' gg') (nI b) (nI c) (nI k1)) (fun r => r.2 = mF σ 1 (wHx hh s) (wGx gg s)) := by
        intro hh' gg' z1 z2
        unfold f_M_climb_144
        refine k_guard ix ?_
        rw [cl, show M_directTo (mF σ 1 hh' gg') (30 * c + k1) = nI (Wo C c k1) from e1, z1, z2]
        exact nx
      unfold f_M_climb_101 f_M_climb_135
      refine k_guard ix ?_
      rw [cl]
      rcases wA_in h h1 p2 with x | x | ⟨y, y1, y2⟩
      · have z : M_directArg σ (30 * c + k1) = -1 := by rw [e2, x]; rfl
        refine k_if (fun q1 => ?_) (fun q1 => ?_)
        · replace q1 : M_directArg σ (30 * c + k1) = -2 := q1
          rw [z] at q1; exact absurd q1 (by decide)
        · refine k_if (fun q2 => ?_) (fun q2 => ?_)
          · refine k144 0 _ (by rw [x]; rfl) ?_
            show M_directArg σ (30 * c + k1) = _
            rw [z, x]; rfl
          · exact absurd z q2
      · have z : M_directArg σ (30 * c + k1) = -2 := by rw [e2, x]; rfl
        refine k_if (fun q1 => ?_) (fun q1 => absurd z q1)
        exact k144 _ _ (by rw [x]; rfl) (by rw [x]; rfl)
      · have z : M_directArg σ (30 * c + k1) = nI y := by
          rw [e2, y2]; unfold wTd; rw [if_neg (by omega), if_neg (by omega)]; congr 1; omega
        have w : wSb d (Wa C c k1) = 4 * y + 1 := by unfold wSb; rw [if_neg (by omega), y2]
        refine k_if (fun q1 => ?_) (fun q1 => ?_)
        · replace q1 : M_directArg σ (30 * c + k1) = -2 := q1
          rw [z] at q1; exact absurd q1 (k_ne2 (by omega))
        · refine k_if (fun q2 => ?_) (fun q2 => ?_)
          · replace q2 : M_directArg σ (30 * c + k1) = -1 := q2
            rw [z] at q2; exact absurd q2 (k_ne1 (by omega))
          · refine k144 1 _ ?_ ?_
            · rw [w]
              unfold wHx wH
              rw [if_neg (by omega), if_neg (by omega), if_neg (by omega), show (4 * y + 1) % 4 = 1 by omega]; rfl
            · show M_directArg σ (30 * c + k1) = _
              rw [z, w]
              unfold wGx wTd
              rw [if_neg (by omega), if_neg (by omega), if_neg (by omega)]; congr 1; omega
theorem r_M_climb (h : wCok C t) (ht : t ≤ 300) (r : rMc σ C g) {b c : Nat} (hc : c < Wn C) (hb : b < Wn C) (hh gg : Int32) :
    (∀ s, wCl C c 3 b = some s → k_ok (f_M_climb σ (nI c) hh gg (nI b)) (fun r => r.2 = mF σ 1 (wHx hh s) (wGx gg s))) ∧ (wCl C c 3 b = none → k_ok (f_M_climb σ (nI c) hh gg (nI b)) (fun r => r.2 = mF σ 0 hh gg)) := by
  have hn := h.2.1
  refine ⟨fun s hs => ?_, fun hs => ?_⟩
  · have k17 : k_ok (f_M_climb_22 σ (nI c) hh gg (nI b) 1) (fun r => r.2 = mF σ 1 (wHx hh s) (wGx gg s)) := by
      unfold f_M_climb_22
      refine k_guard (by decide) ?_
      exact r_M_climb_38 h ht r hb hh gg 1000 c 3 s hc (by omega) hs
    have tw := wCl_tw h hc hs
    unfold f_M_climb f_M_climb_17
    refine k_if (fun q => k17) (fun q => ?_)
    rw [nI_eq (by omega) (by omega)] at q
    rw [s_M_under (by omega) (by omega), (r.2.2 c hc).2.2.2.2 b (by omega), if_pos (wTw_ne tw q)]
    exact k17
  · have tw : wTw C c b = false := by
      cases w : wTw C c b with
      | false => rfl
      | true => obtain ⟨z, hz⟩ := wCl_some h c 3 b hc w; rw [hz] at hs; cases hs
    have q : ¬ c = b := by intro q; rw [q, wTw_self] at tw; cases tw
    have q2 : ¬ Wu C c b = true := by intro q; rw [wTw_up q] at tw; cases tw
    unfold f_M_climb f_M_climb_17
    refine k_if (fun q3 => ?_) (fun _ => ?_)
    · rw [nI_eq (by omega) (by omega)] at q3; exact absurd q3 q
    · rw [s_M_under (by omega) (by omega), (r.2.2 c hc).2.2.2.2 b (by omega), if_neg q2]
      show k_ok (f_M_climb_22 σ (nI c) hh gg (nI b) 0) _
      unfold f_M_climb_22
      refine k_guard (by decide) ?_
      exact k_some rfl
end
