/-! Tier 3: BELOW is transitive; of the PARTS of two types, neither BELOW the other, two stay at least. -/
section
variable {C : wWc} {T : wWt}
theorem wLk_one (T : wWt) {y q : Nat} (h2 : dK (Ty T y) ≠ 2) (e : wHo T y = [q]) (b : Nat) : wLk C T y b = wCl C (dX (Ty T q)) (dA (Ty T q)) b := by
  unfold wLk
  rw [if_neg h2, e, wLs]
  cases wCl C (dX (Ty T q)) (dA (Ty T q)) b with
  | some r => rfl
  | none => rfl
theorem wHo_one (h : wTok C T) {y : Nat} (hy : y < Tn T) (h2 : dK (Ty T y) ≠ 2) (h3 : dK (Ty T y) ≠ 3) : ∃ q, wHo T y = [q] ∧ q < Tn T ∧ dK (Ty T q) = 1 := by
  have key : ∃ q, wHo T y = [q] := by
    unfold wHo
    rcases wT_kind h hy with ⟨q1, q2⟩ | ⟨q1, q2 | q2 | q2⟩
    · rw [if_pos q1]; exact ⟨_, rfl⟩
    · rw [if_neg (by omega), if_pos q2]; exact ⟨_, rfl⟩
    · exact absurd q2 h2
    · exact absurd q2 h3
  obtain ⟨q, e⟩ := key
  exact ⟨q, e, (wHo_ok h hy h2 (by rw [e]; simp)).2⟩
theorem wPt_named (T : wWt) {b : Nat} (hb : dK (Ty T b) ≠ 3) : wPt T b = [b] := by
  unfold wPt; rw [if_neg hb]
theorem wLk_named (T : wWt) {b : Nat} (hb : dK (Ty T b) = 1) (c : Nat) : wLk C T b c = wCl C (dX (Ty T b)) (dA (Ty T b)) c :=
  wLk_one T (by omega) (by unfold wHo; rw [if_neg (by omega), if_pos hb]) c
/-- what is found FITS into the ARGUMENT z -/
def wFit (C : wWc) (T : wWt) (r z : Nat) : Prop := r = z ∨ z % 4 = 2 ∧ wB C T (r / 4) (z / 4)
theorem wB_named (h : wOK C T) {a b : Nat} (ha : a < Tn T) (hb : b < Tn T) (hk : dK (Ty T b) = 1) : wB C T a b ↔ (a = b ∨ ∃ x r, x ∈ wPt T a ∧ wLk C T x (dX (Ty T b)) = some r ∧ wFit C T r (dA (Ty T b))) := by
  rw [wB_iff h ha hb]
  constructor
  · rintro (q | ⟨q1, _⟩ | ⟨_, q⟩ | ⟨_, q, _⟩)
    · exact Or.inl q
    · omega
    · exact Or.inr q
    · omega
  · rintro (q | q)
    · exact Or.inl q
    · exact Or.inr (Or.inr (Or.inl ⟨hk, q⟩))
theorem wB_trans (h : wOK C T) : ∀ c a b, a < Tn T → b < Tn T → c < Tn T → wB C T a b → wB C T b c → wB C T a c := by
  intro c
  induction c using Nat.strongRecOn with
  | ind c ih =>
    -- b NAMED, c NAMED
    have main : ∀ a b, a < Tn T → b < Tn T → c < Tn T → dK (Ty T b) = 1 → dK (Ty T c) = 1 → wB C T a b → wB C T b c → wB C T a c := by
      intro a b ha hb hc kb kc q1 q2
      by_cases e1 : a = b
      · rw [e1]; exact q2
      by_cases e2 : b = c
      · rw [← e2]; exact q1
      obtain ⟨y, α, y1, y2, y3⟩ := ((wB_named h ha hb kb).mp q1).resolve_left e1
      obtain ⟨x, r, x1, x2, x3⟩ := ((wB_named h hb hc kc).mp q2).resolve_left e2
      rw [wPt_named T (by omega), List.mem_singleton] at x1
      subst x1
      rw [wLk_named T kb] at x2
      obtain ⟨_, b1, b2, _⟩ := wT_named h.2 hb kb
      obtain ⟨_, c1, c2, _⟩ := wT_named h.2 hc kc
      have tw := wCl_tw h.1 b1 x2
      have ok2 := wCl_ok h.1 _ _ _ _ b1 (wOk_mono b2 (by omega)) x2
      obtain ⟨y4, y5⟩ := wPt_ok h.2 ha y1
      refine (wB_named h ha hc kc).mpr (Or.inr ?_)
      by_cases y6 : dK (Ty T y) = 2
      · unfold wLk at y2
        rw [if_pos y6] at y2
        by_cases y7 : dX (Ty T x) < 3
        · have y8 : dX (Ty T c) < 3 := by
            by_cases e : dX (Ty T x) = dX (Ty T c)
            · omega
            · exact h.1.2.2.2.2.2.2.2.2 _ _ y7 (wTw_ne tw e)
          have g0 := h.1.2.2.2.2.2.2.2.1 _ y8
          refine ⟨y, 0, y1, ?_, Or.inl ?_⟩
          · unfold wLk; rw [if_pos y6, if_pos y8]
          · rcases c2 with ⟨_, w⟩ | ⟨w, _⟩
            · exact w.symm
            · rw [g0] at w; cases w
        · rw [if_neg y7] at y2; cases y2
      · obtain ⟨q, e, q4, q5⟩ := wHo_one h.2 y4 y6 y5
        rw [wLk_one T y6 e] at y2
        obtain ⟨_, w1, w2, _⟩ := wT_named h.2 q4 q5
        have twq := wTw_tr h.1 w1 (wCl_tw h.1 w1 y2) tw
        cases hg : Wg C (dX (Ty T c)) with
        | false =>
          obtain ⟨β, hβ⟩ := wCl_some h.1 _ (dA (Ty T q)) _ w1 twq
          refine ⟨y, β, y1, by rw [wLk_one T y6 e]; exact hβ, Or.inl ?_⟩
          have okβ := wCl_ok h.1 _ _ _ _ w1 (wOk_mono w2 (by omega)) hβ
          rcases okβ with ⟨_, z1⟩ | ⟨z1, _⟩
          · rcases c2 with ⟨_, z2⟩ | ⟨z2, _⟩
            · omega
            · rw [hg] at z2; cases z2
          · rw [hg] at z1; cases z1
        | true =>
          have ep := wCl_path h.1 _ _ _ _ _ w1 y2 tw hg
          obtain ⟨s, hs⟩ := wCl_some h.1 (dX (Ty T x)) 3 _ b1 tw
          have er : wCl C (dX (Ty T x)) (dA (Ty T x)) (dX (Ty T c)) = some (wSb (dA (Ty T x)) s) := by
            rw [wCl_sub h.1 _ _ _ b1, hs]; rfl
          have ea : wCl C (dX (Ty T x)) α (dX (Ty T c)) = some (wSb α s) := by
            rw [wCl_sub h.1 _ _ _ b1, hs]; rfl
          rw [er] at x2
          have x2' := (Option.some.inj x2)
          refine ⟨y, wSb α s, y1, by rw [wLk_one T y6 e, ep]; exact ea, ?_⟩
          by_cases s3 : s = 3
          · rw [s3] at x2' ⊢
            unfold wSb at x2' ⊢
            rw [if_pos rfl] at x2' ⊢
            subst x2'
            have okα := wCl_ok h.1 _ _ _ _ w1 (wOk_mono w2 (by omega)) y2
            rcases x3 with x3 | ⟨x3, x4⟩
            · rw [← x3]; exact y3
            · rcases y3 with y3 | ⟨y3, y7⟩
              · rw [y3]; exact Or.inr ⟨x3, x4⟩
              · refine Or.inr ⟨x3, ?_⟩
                rcases c2 with ⟨_, z⟩ | ⟨_, z, z1, z2, z3⟩
                · omega
                · rcases b2 with ⟨_, v⟩ | ⟨g1, v, v1, v2, v3⟩
                  · omega
                  · rcases okα with ⟨g2, _⟩ | ⟨_, u, u1, u2, u3⟩
                    · rw [g1] at g2; cases g2
                    · exact ih (dA (Ty T c) / 4) (by omega) (α / 4) (dA (Ty T x) / 4) (by omega) (by omega) (by omega) y7 x4
          · have : wSb α s = r := by
              rw [← x2']; unfold wSb; rw [if_neg s3, if_neg s3]
            rw [this]; exact x3
    intro a b ha hb hc q1 q2
    by_cases e1 : a = b
    · rw [e1]; exact q2
    by_cases e2 : b = c
    · rw [← e2]; exact q1
    rcases ((wB_iff h hb hc).mp q2).resolve_left e2 with ⟨k3, w⟩ | ⟨k1, x, r, x1, x2, x3⟩ | ⟨k2, k2', w1, w2, w3⟩
    · refine (wB_iff h ha hc).mpr (Or.inr (Or.inl ⟨k3, fun p hp => ?_⟩))
      obtain ⟨_, _, _, z, _⟩ := wT_both h.2 hc k3
      have := z p hp
      exact ih p (by omega) a b ha hb (by omega) q1 (w p hp)
    · rcases wT_kind h.2 hb with ⟨b1, b2⟩ | ⟨b1, b2 | b2 | b2⟩
      · rcases ((wB_iff h ha hb).mp q1).resolve_left e1 with ⟨z, _⟩ | ⟨z, _⟩ | ⟨_, z, _⟩
        · omega
        · omega
        · omega
      · exact main a b ha hb hc b2 k1 q1 q2
      · rw [wPt_named T (by omega), List.mem_singleton] at x1
        subst x1
        rcases ((wB_iff h ha hb).mp q1).resolve_left e1 with ⟨z, _⟩ | ⟨z, _⟩ | ⟨z, _⟩
        · omega
        · omega
        · refine (wB_named h ha hc k1).mpr (Or.inr ⟨a, r, ?_, ?_, x3⟩)
          · rw [wPt_named T (by omega)]; simp
          · unfold wLk at x2 ⊢
            rw [if_pos b2] at x2
            rw [if_pos z]; exact x2
      · have x1' := x1
        unfold wPt at x1'
        rw [if_pos b2] at x1'
        obtain ⟨_, _, _, z, _⟩ := wT_both h.2 hb b2
        obtain ⟨z1, z2, z3⟩ := z x x1'
        have qa : wB C T a x := by
          rcases ((wB_iff h ha hb).mp q1).resolve_left e1 with ⟨_, v⟩ | ⟨v, _⟩ | ⟨_, v, _⟩
          · exact v x x1'
          · omega
          · omega
        refine main a x ha (by omega) hc z3 k1 qa ?_
        exact (wB_named h (by omega) hc k1).mpr (Or.inr ⟨x, r, by rw [wPt_named T (by omega)]; simp, x2, x3⟩)
    · rcases ((wB_iff h ha hb).mp q1).resolve_left e1 with ⟨z, _⟩ | ⟨z, _⟩ | ⟨z1, z2, z3, z4, z5⟩
      · omega
      · omega
      · refine (wB_iff h ha hc).mpr (Or.inr (Or.inr (Or.inr ⟨z1, k2', z3, w2, ?_⟩)))
        obtain ⟨_, v1, _⟩ := wT_arr h.2 ha z1
        obtain ⟨_, v2, _⟩ := wT_arr h.2 hb k2
        obtain ⟨_, v3, _⟩ := wT_arr h.2 hc k2'
        exact ih _ v3 _ _ (by omega) (by omega) (by omega) z5 w3
theorem wB_refl (h : wOK C T) {a : Nat} (ha : a < Tn T) : wB C T a a := (wB_iff h ha ha).mpr (Or.inl rfl)
/-- the PARTS of a type -/
def wPs (T : wWt) (a : Nat) : List Nat := if dK (Ty T a) = 1 then [a] else dL (Ty T a)
theorem wPs_ok (h : wTok C T) {a p : Nat} (ha : a < Tn T) (hp : p ∈ wPs T a) : 8 ≤ p ∧ p < Tn T ∧ dK (Ty T p) = 1 := by
  unfold wPs at hp
  rcases wT_kind h ha with ⟨q1, q2⟩ | ⟨q1, q2 | q2 | q2⟩
  · rw [if_neg (by omega)] at hp
    obtain ⟨_, _, h1 | ⟨h0, _⟩ | ⟨h0, _⟩ | ⟨h0, _⟩⟩ := h.2.2.1 a ha
    · rw [h1.2.1] at hp; cases hp
    · omega
    · omega
    · omega
  · rw [if_pos q2, List.mem_singleton] at hp
    subst hp
    exact ⟨q1, ha, q2⟩
  · rw [if_neg (by omega)] at hp
    obtain ⟨_, _, h1 | ⟨_, _, _, h0, _⟩ | ⟨_, _, h0, _⟩ | ⟨_, _, h0, _⟩⟩ := h.2.2.1 a ha
    · omega
    · rw [h0] at q2; cases q2
    · rw [h0] at hp; cases hp
    · rw [h0] at q2; cases q2
  · rw [if_neg (by omega)] at hp
    obtain ⟨_, _, _, w, _⟩ := wT_both h ha q2
    have := w p hp
    exact ⟨this.1, by omega, this.2.2⟩
theorem wPs_inj (h : wTok C T) {a p q : Nat} (ha : a < Tn T) (hp : p ∈ wPs T a) (hq : q ∈ wPs T a) (e : dX (Ty T p) = dX (Ty T q)) : p = q := by
  rcases wT_kind h ha with ⟨q1, q2⟩ | ⟨q1, q2 | q2 | q2⟩
  · have := wPs_ok h ha hp
    unfold wPs at hp
    rw [if_neg (by omega)] at hp
    obtain ⟨_, _, h1 | ⟨h0, _⟩ | ⟨h0, _⟩ | ⟨h0, _⟩⟩ := h.2.2.1 a ha
    · rw [h1.2.1] at hp; cases hp
    · omega
    · omega
    · omega
  · unfold wPs at hp hq
    rw [if_pos q2, List.mem_singleton] at hp hq
    rw [hp, hq]
  · unfold wPs at hp
    rw [if_neg (by omega)] at hp
    obtain ⟨_, _, h1 | ⟨_, _, _, h0, _⟩ | ⟨_, _, h0, _⟩ | ⟨_, _, h0, _⟩⟩ := h.2.2.1 a ha
    · omega
    · rw [h0] at q2; cases q2
    · rw [h0] at hp; cases hp
    · rw [h0] at q2; cases q2
  · unfold wPs at hp hq
    rw [if_neg (by omega)] at hp hq
    obtain ⟨_, _, _, _, w, _⟩ := wT_both h ha q2
    obtain ⟨i, i1, i2⟩ := List.mem_iff_getElem.mp hp
    obtain ⟨j, j1, j2⟩ := List.mem_iff_getElem.mp hq
    have hij : i = j := by
      rcases Nat.lt_trichotomy i j with z | z | z
      · have := w i j i1 j1 z; rw [i2, j2] at this; omega
      · exact z
      · have := w j i j1 i1 z; rw [i2, j2] at this; omega
    subst hij
    rw [← i2, ← j2]
theorem wB_cls (h : wOK C T) {a b : Nat} (ha : a < Tn T) (hb : b < Tn T) (ka : dK (Ty T a) = 1) (kb : dK (Ty T b) = 1) (q : wB C T a b) : wTw C (dX (Ty T a)) (dX (Ty T b)) = true := by
  by_cases e : a = b
  · rw [e]; exact wTw_self _
  · obtain ⟨x, r, x1, x2, _⟩ := ((wB_named h ha hb kb).mp q).resolve_left e
    rw [wPt_named T (by omega), List.mem_singleton] at x1
    subst x1
    rw [wLk_named T ka] at x2
    exact wCl_tw h.1 (wT_named h.2 ha ka).2.1 x2
/-- a is BELOW b, if of each PART of b a PART of a is -/
theorem wB_parts (h : wOK C T) {a b : Nat} (ha : a < Tn T) (hb : b < Tn T) (hpa : wPs T a ≠ []) (hpb : wPs T b ≠ []) (q : ∀ p, p ∈ wPs T b → ∃ x, x ∈ wPs T a ∧ wB C T x p) : wB C T a b := by
  have one : ∀ p, p ∈ wPs T b → wB C T a p := by
    intro p hp
    obtain ⟨x, x1, x2⟩ := q p hp
    obtain ⟨p1, p2, p3⟩ := wPs_ok h.2 hb hp
    obtain ⟨y1, y2, y3⟩ := wPs_ok h.2 ha x1
    unfold wPs at x1
    by_cases k : dK (Ty T a) = 1
    · rw [if_pos k, List.mem_singleton] at x1
      subst x1; exact x2
    · rw [if_neg k] at x1
      have k3 : dK (Ty T a) = 3 := by
        obtain ⟨_, _, h1 | ⟨_, _, _, h0, _⟩ | ⟨_, _, h0, _⟩ | ⟨_, _, h0, _⟩⟩ := h.2.2.2.1 a ha
        · rw [h1.2.1] at x1; cases x1
        · rw [h0] at x1; cases x1
        · rw [h0] at x1; cases x1
        · rw [h0]
      have xp : x ∈ wPt T a := by unfold wPt; rw [if_pos k3]; exact x1
      refine (wB_named h ha p2 p3).mpr (Or.inr ?_)
      by_cases e : x = p
      · subst e
        exact ⟨x, dA (Ty T x), xp, by rw [wLk_named T y3, wCl_here], Or.inl rfl⟩
      · obtain ⟨z, r, z1, z2, z3⟩ := ((wB_named h y2 p2 p3).mp x2).resolve_left e
        rw [wPt_named T (by omega), List.mem_singleton] at z1
        subst z1
        exact ⟨z, r, xp, z2, z3⟩
  by_cases k : dK (Ty T b) = 1
  · exact one b (by unfold wPs; rw [if_pos k]; simp)
  · have k3 : dK (Ty T b) = 3 := by
      obtain ⟨_, _, h1 | ⟨_, _, _, h0, _⟩ | ⟨_, _, h0, _⟩ | ⟨_, _, h0, _⟩⟩ := h.2.2.2.1 b hb
      · exact absurd (by unfold wPs; rw [h1.2.1]; rfl) hpb
      · rw [h0] at k; exact absurd rfl k
      · exact absurd (by unfold wPs; rw [h0]; rfl) hpb
      · rw [h0]
    refine (wB_iff h ha hb).mpr (Or.inr (Or.inl ⟨k3, fun p hp => one p ?_⟩))
    unfold wPs; rw [if_neg k]; exact hp
/-- if a is not BELOW b, a PART of b stays, that is none of a's -/
theorem wB_stays (h : wOK C T) {a b : Nat} (ha : a < Tn T) (hb : b < Tn T) (hpa : wPs T a ≠ []) (hpb : wPs T b ≠ []) (hn : ¬ wB C T a b) : ∃ m, m ∈ wPs T b ∧ (∀ x, x ∈ wPs T a → ¬ wB C T x m) ∧ (∀ x, x ∈ wPs T b → x ≠ m → ¬ wB C T x m) := by
  have go : ∀ N p, p ∈ wPs T b → (∀ x, x ∈ wPs T a → ¬ wB C T x p) → Wn C - dX (Ty T p) ≤ N → ∃ m, m ∈ wPs T b ∧ (∀ x, x ∈ wPs T a → ¬ wB C T x m) ∧ (∀ x, x ∈ wPs T b → x ≠ m → ¬ wB C T x m) := by
    intro N
    induction N with
    | zero =>
      intro p hp _ hN
      obtain ⟨p1, p2, p3⟩ := wPs_ok h.2 hb hp
      have := (wT_named h.2 p2 p3).2.1
      omega
    | succ N ih =>
      intro p hp hx hN
      obtain ⟨p1, p2, p3⟩ := wPs_ok h.2 hb hp
      by_cases ex : ∃ y, y ∈ wPs T b ∧ y ≠ p ∧ wB C T y p
      · obtain ⟨y, y1, y2, y3⟩ := ex
        obtain ⟨z1, z2, z3⟩ := wPs_ok h.2 hb y1
        have w1 := (wT_named h.2 z2 z3).2.1
        have le := wTw_le h.1 w1 (wB_cls h z2 p2 z3 p3 y3)
        have ne : dX (Ty T y) ≠ dX (Ty T p) := fun e => y2 (wPs_inj h.2 hb y1 hp e)
        refine ih y y1 (fun x hxa q => ?_) (by omega)
        exact hx x hxa (wB_trans h p x y (wPs_ok h.2 ha hxa).2.1 z2 p2 q y3)
      · exact ⟨p, hp, hx, fun x x1 x2 x3 => ex ⟨x, x1, x2, x3⟩⟩
  by_cases ex : ∃ p, p ∈ wPs T b ∧ ∀ x, x ∈ wPs T a → ¬ wB C T x p
  · obtain ⟨p, p1, p2⟩ := ex
    exact go _ p p1 p2 (Nat.le_refl _)
  · refine absurd (wB_parts h ha hb hpa hpb (fun p hp => ?_)) hn
    refine Classical.byContradiction (fun q => ex ⟨p, hp, fun x hx w => q ⟨x, hx, w⟩⟩)
end
