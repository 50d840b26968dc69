/-! Tier 3: the class's own tables of classes hold the numbers; what its methods answer. -/
def b2 (b : Bool) : Int32 := if b = true then 1 else 0
def wTd (a : Nat) : Int32 := if a = 0 then -1 else if a = 3 then -2 else nI (a / 4)
def wEn (a : Nat) : Int32 := if a = 3 then -2 else nI a
def wEo (o : Option Nat) : Int32 := match o with
  | some r => wEn r
  | none => -1
def wIo (o : Option Nat) : Int32 := match o with
  | some r => nI r
  | none => -1
theorem b2_0 {b : Bool} : b2 b = 0 ↔ b = false := by cases b <;> decide
theorem b2_1 {b : Bool} : b2 b = 1 ↔ b = true := by cases b <;> decide
theorem wEn_3 : wEn 3 = -2 := rfl
theorem wEn_n {a : Nat} (h : a ≠ 3) : wEn a = nI a := by unfold wEn; rw [if_neg h]
/-- class c's row in the class's tables -/
def rCr (σ : StC) (C : wWc) (c : Nat) : Prop := C_faces σ c = b2 (Wf C c) ∧ C_generics σ c = b2 (Wg C c) ∧ C_directCounts σ c = nI (Wd C c) ∧
  (∀ k, k < Wd C c → C_directs σ (c * 30 + k) = nI (Wo C c k) ∧ C_tolds σ (c * 30 + k) = wTd (Wa C c k)) ∧ (∀ b, b < 32 → bt (C_above σ c) b = Wu C c b)
def rC (σ : StC) (C : wWc) (g : Nat) : Prop := C_count σ = nI (Wn C) ∧ C_countGeneric σ = nI g ∧ (∀ c, c < Wn C → rCr σ C c) ∧ (∀ c, Wn C ≤ c → c < 30 → C_directCounts σ c = 0 ∧ C_above σ c = 0)
theorem k_has (x : Int32) {b : Nat} (hb : b < 32) : f_L_has x (nI b) = b2 (bt x b) := by
  unfold f_L_has
  cases h : bt x b with
  | true => rw [if_neg (fun q => by rw [(k_bit0 x b hb).mp q] at h; cases h)]; rfl
  | false => rw [if_pos ((k_bit0 x b hb).mpr h)]; rfl
theorem k_inn {j m : Nat} (hj : j < m) (h : j < 2 ^ 31) : ¬ (nI j < 0 ∨ m ≤ j) := by
  rintro (q | q)
  · exact nI_pos h q
  · omega
section
variable {σ : StC} {C : wWc} {t g : Nat}
theorem rC_there (h : wCok C t) (r : rC σ C g) {j : Nat} (hj : j < Wn C) : ¬ f_C_isThere σ (nI j) = 0 := by
  have hn := h.2.1
  unfold f_C_isThere
  rw [if_neg (nI_pos (by omega)), r.1, if_neg (by rw [nI_leI (by omega) (by omega)]; omega)]
  decide
theorem rC_not (h : wCok C t) (r : rC σ C g) {x : Int32} (hx : ¬ ∃ j, j < Wn C ∧ x = nI j) : f_C_isThere σ x = 0 := by
  have hn := h.2.1
  unfold f_C_isThere
  by_cases q : x < 0
  · rw [if_pos q]
  · rw [if_neg q]
    obtain ⟨j, hj, rfl⟩ := nI_of q
    rw [r.1]
    by_cases q2 : nI (Wn C) ≤ nI j
    · rw [if_pos q2]
    · rw [nI_leI (by omega) hj] at q2
      exact absurd ⟨j, by omega, rfl⟩ hx
theorem r_C_isFace (h : wCok C t) (r : rC σ C g) {j : Nat} (hj : j < Wn C) : f_C_isFace σ (nI j) = some (b2 (Wf C j)) := by
  have hn := h.2.1
  unfold f_C_isFace
  rw [if_neg (rC_there h r hj), if_neg (nI_in (by omega) (by decide)), nI_clamp (by omega), (r.2.2.1 j hj).1]
  cases Wf C j <;> rfl
theorem r_C_isGeneric (h : wCok C t) (r : rC σ C g) {j : Nat} (hj : j < Wn C) : f_C_isGeneric σ (nI j) = some (b2 (Wg C j)) := by
  have hn := h.2.1
  unfold f_C_isGeneric
  rw [if_neg (rC_there h r hj), if_neg (nI_in (by omega) (by decide)), nI_clamp (by omega), (r.2.2.1 j hj).2.1]
  cases Wg C j <;> rfl
theorem r_C_aboveOf (h : wCok C t) (r : rC σ C g) {j : Nat} (hj : j < Wn C) : f_C_aboveOf σ (nI j) = some (C_above σ j) := by
  have hn := h.2.1
  unfold f_C_aboveOf
  rw [if_neg (rC_there h r hj), if_neg (nI_in (by omega) (by decide)), nI_clamp (by omega)]
theorem r_C_withAbove (h : wCok C t) (r : rC σ C g) {j : Nat} (hj : j < Wn C) : ∃ v, f_C_withAbove σ (nI j) = some v ∧ ∀ b, b < 32 → bt v b = wTw C j b := by
  have hn := h.2.1
  refine ⟨C_above σ j ||| ((1 : Int32) <<< (nI j &&& 31)), ?_, fun b hb => ?_⟩
  · unfold f_C_withAbove
    rw [if_neg (rC_there h r hj), if_neg (nI_in (by omega) (by decide)), nI_clamp (by omega)]
  · rw [b_or, k_shl1 j (by omega) hb, (r.2.2.1 j hj).2.2.2.2 b hb, Bool.or_comm]
    unfold wTw
    congr 1
    by_cases e : b = j
    · rw [decide_eq_true e, decide_eq_true e.symm]
    · rw [decide_eq_false e, decide_eq_false (fun q => e q.symm)]
theorem r_C_countDirect (h : wCok C t) (r : rC σ C g) {j : Nat} (hj : j < Wn C) : f_C_countDirect σ (nI j) = some (nI (Wd C j)) := by
  have hn := h.2.1
  unfold f_C_countDirect
  rw [if_neg (rC_there h r hj), if_neg (nI_in (by omega) (by decide)), nI_clamp (by omega), (r.2.2.1 j hj).2.2.1]
theorem r_C_directAt (h : wCok C t) (r : rC σ C g) {j k : Nat} (hj : j < Wn C) (hk : k < Wd C j) : f_C_directAt σ (nI j) (nI k) = some (nI (Wo C j k)) := by
  have hn := h.2.1
  have hd := (h.2.2.1 j hj).1
  unfold f_C_directAt
  rw [if_neg (rC_there h r hj), if_neg (nI_pos (by omega)), if_neg (nI_in (by omega) (by decide)), nI_clamp (show j < 2 ^ 31 by omega), (r.2.2.1 j hj).2.2.1, if_neg (by rw [nI_leI (by omega) (by omega)]; omega), if_neg (k_in2 (by omega) (by omega)), k_at2 (by omega) (by omega), ((r.2.2.1 j hj).2.2.2.1 k hk).1]
theorem r_C_toldAt (h : wCok C t) (r : rC σ C g) {j k : Nat} (hj : j < Wn C) (hk : k < Wd C j) : f_C_toldAt σ (nI j) (nI k) = some (wTd (Wa C j k)) := by
  have hn := h.2.1
  have hd := (h.2.2.1 j hj).1
  unfold f_C_toldAt
  rw [if_neg (rC_there h r hj), if_neg (nI_pos (by omega)), if_neg (nI_in (by omega) (by decide)), nI_clamp (show j < 2 ^ 31 by omega), (r.2.2.1 j hj).2.2.1, if_neg (by rw [nI_leI (by omega) (by omega)]; omega), if_neg (k_in2 (by omega) (by omega)), k_at2 (by omega) (by omega), ((r.2.2.1 j hj).2.2.2.1 k hk).2]
theorem r_C_isDirectly_9 (h : wCok C t) (r : rC σ C g) {c s : Nat} (hc : c < Wn C) (hs : s < Wn C) : ∀ (f i : Nat), i ≤ Wd C c → Wd C c < f + i → f_C_isDirectly_9 f σ (nI c) (nI s) (nI (Wd C c)) (nI i) = some (b2 ((wfs (fun k => decide (Wo C c k = s)) (Wd C c - i) i).isSome)) := by
  have hn := h.2.1
  have hd := (h.2.2.1 c hc).1
  intro f
  induction f with
  | zero => intro i h1 h2; omega
  | succ f ih =>
    intro i h1 h2
    rw [f_C_isDirectly_9]
    unfold f_C_isDirectly_9_s
    by_cases e : Wd C c ≤ i
    · rw [if_pos (by rw [nI_leI (by omega) (by omega)]; exact e), show Wd C c - i = 0 by omega]
      rfl
    · rw [if_neg (by rw [nI_leI (by omega) (by omega)]; exact e), r_C_directAt h r hc (by omega), show Wd C c - i = (Wd C c - (i + 1)) + 1 by omega, wfs]
      have := (h.2.2.2.1 c i hc (by omega)).1
      by_cases q : Wo C c i = s
      · rw [if_pos (decide_eq_true q)]
        show (if nI (Wo C c i) = nI s then some (1 : Int32) else _) = _
        rw [if_pos (by rw [q])]; rfl
      · rw [if_neg (by rw [decide_eq_false q]; decide)]
        show (if nI (Wo C c i) = nI s then some (1 : Int32) else _) = _
        rw [if_neg (by rw [nI_eq (by omega) (by omega)]; exact q), nI_1]
        exact ih (i + 1) (by omega) (by omega)
theorem r_C_isDirectly (h : wCok C t) (r : rC σ C g) {c s : Nat} (hc : c < Wn C) (hs : s < Wn C) : ∃ v, f_C_isDirectly σ (nI c) (nI s) = some (b2 v) ∧ (v = true ↔ ∃ k, k < Wd C c ∧ Wo C c k = s) := by
  have hn := h.2.1
  have hd := (h.2.2.1 c hc).1
  refine ⟨(wfs (fun k => decide (Wo C c k = s)) (Wd C c - 0) 0).isSome, ?_, ?_⟩
  · unfold f_C_isDirectly
    rw [r_C_countDirect h r hc]
    exact r_C_isDirectly_9 h r hc hs 1000 0 (by omega) (by omega)
  · cases q : wfs (fun k => decide (Wo C c k = s)) (Wd C c - 0) 0 with
    | some k =>
      obtain ⟨_, q2, q3, _⟩ := wfs_some q
      exact ⟨fun _ => ⟨k, by omega, of_decide_eq_true q3⟩, fun _ => rfl⟩
    | none =>
      refine ⟨fun z => (by cases z), fun ⟨k, k1, k2⟩ => ?_⟩
      have := wfs_none q k (by omega) (by omega)
      exact absurd k2 (of_decide_eq_false this)
theorem r_C_firstToward_12 (h : wCok C t) (r : rC σ C g) {c b : Nat} (hc : c < Wn C) (hb : b < Wn C) : ∀ (f i : Nat), i ≤ Wd C c → Wd C c < f + i → f_C_firstToward_12 f σ (nI c) (nI b) (nI i) = some (wIo (wfs (fun k => wTw C (Wo C c k) b) (Wd C c - i) i)) := by
  have hn := h.2.1
  have hd := (h.2.2.1 c hc).1
  intro f
  induction f with
  | zero => intro i h1 h2; omega
  | succ f ih =>
    intro i h1 h2
    rw [f_C_firstToward_12]
    unfold f_C_firstToward_12_s
    rw [if_neg (nI_in (by omega) (by decide)), nI_clamp (show c < 2 ^ 31 by omega), (r.2.2.1 c hc).2.2.1]
    by_cases e : Wd C c ≤ i
    · rw [if_pos (by rw [nI_leI (by omega) (by omega)]; exact e), show Wd C c - i = 0 by omega]
      rfl
    · have lt := (h.2.2.2.1 c i hc (by omega)).1
      rw [if_neg (by rw [nI_leI (by omega) (by omega)]; exact e), if_neg (k_in2 (by omega) (by omega)), k_at2 (by omega) (by omega), ((r.2.2.1 c hc).2.2.2.1 i (by omega)).1, if_neg (rC_there h r (show Wo C c i < Wn C by omega)), nI_clamp (show Wo C c i < 2 ^ 31 by omega), if_neg (k_inn (show Wo C c i < 30 by omega) (by omega)), k_has _ (show b < 32 by omega), (r.2.2.1 (Wo C c i) (by omega)).2.2.2.2 b (by omega)]
      rw [show Wd C c - i = (Wd C c - (i + 1)) + 1 by omega, wfs, nI_1, ih (i + 1) (by omega) (by omega)]
      by_cases q : Wo C c i = b
      · rw [if_pos (by rw [q]), if_pos (by rw [q]; exact wTw_self b)]; rfl
      · rw [if_neg (by rw [nI_eq (by omega) (by omega)]; exact q)]
        cases w : Wu C (Wo C c i) b with
        | true => rw [if_neg (by decide), if_pos (wTw_up w)]; rfl
        | false => rw [if_pos (b2_0.mpr rfl), if_neg (fun z => by rw [wTw_ne z q] at w; cases w)]
theorem r_C_firstToward (h : wCok C t) (r : rC σ C g) {c b : Nat} (hc : c < Wn C) (hb : b < Wn C) : f_C_firstToward σ (nI c) (nI b) = some (wIo (wFe C c b)) := by
  have hn := h.2.1
  have hd := (h.2.2.1 c hc).1
  unfold f_C_firstToward
  rw [if_neg (rC_there h r hc)]
  exact r_C_firstToward_12 h r hc hb 1000 0 (by omega) (by omega)
theorem k_pass {t : Nat} (ht : t ≤ 300) {x : Nat} (a : Nat) (hx : x = 0 ∨ x = 3 ∨ ∃ y, y < t ∧ x = 4 * y + 1) : f_C_passOn (wTd x) (wEn a) = wEn (wSb a x) := by
  unfold f_C_passOn
  rcases hx with e | e | ⟨y, y1, y2⟩
  · subst e; rfl
  · subst e; rfl
  · have e1 : wTd x = nI y := by
      unfold wTd; rw [if_neg (by omega), if_neg (by omega)]; congr 1; omega
    rw [e1, if_neg (k_ne2 (by omega)), if_neg (k_ne1 (by omega))]
    unfold f_L_argumentOf wSb
    rw [if_neg (by decide), if_neg (show ¬ x = 3 by omega), wEn_n (by omega), y2]
    show nI y * nI 4 + nI 1 = _
    rw [k_mul, nI_add]; congr 1; omega
theorem wA_in (h : wCok C t) {c k : Nat} (hc : c < Wn C) (hk : k < Wd C c) : Wa C c k = 0 ∨ Wa C c k = 3 ∨ ∃ y, y < t ∧ Wa C c k = 4 * y + 1 := by
  rcases (h.2.2.2.1 c k hc hk).2 with ⟨_, q⟩ | ⟨_, ⟨x, _, q1, q2⟩ | ⟨q, _⟩⟩
  · exact Or.inl q
  · exact Or.inr (Or.inr ⟨x, q1, q2⟩)
  · exact Or.inr (Or.inl q)
theorem r_C_climb_9 (h : wCok C t) (ht : t ≤ 300) (r : rC σ C g) {b : Nat} (hb : b < Wn C) : ∀ (f i c a : Nat), c < Wn C → c + i < 30 → 30 < f + i → f_C_climb_9 f σ (nI b) (nI c) (wEn a) (nI i) = some (wEo (wCl C c a b)) := by
  have hn := h.2.1
  intro f
  induction f with
  | zero => intro i c a h1 h2; omega
  | succ f ih =>
    intro i c a hc h1 h2
    rw [f_C_climb_9]
    unfold f_C_climb_9_s f_C_climb_70
    have e30 : ¬ (30 : Int32) ≤ nI i := by
      show ¬ nI 30 ≤ nI i
      rw [nI_leI (by decide) (by omega)]; omega
    rw [if_neg e30]
    by_cases e : c = b
    · rw [if_pos (by rw [e]), if_pos (by rw [e]), e, wCl_here]; rfl
    · rw [if_neg (by rw [nI_eq (by omega) (by omega)]; exact e), r_C_firstToward h r hc hb]
      cases hu : wTw C c b with
      | false =>
        rw [wFe_none h hc hu, wCl_none h a hc hu]; rfl
      | true =>
        obtain ⟨k, k1, k2, k3, _⟩ := wFe_some h hc hu e
        have k4 := (h.2.2.2.1 c k hc k2).1
        have k5 := (h.2.2.1 c hc).1
        rw [k1, wCl_step h a hc e k1]
        show (if nI k = -1 then some (-1 : Int32) else _) = _
        rw [if_neg (k_ne1 (by omega))]
        show (f_C_toldAt σ (nI c) (nI k)).bind _ = _
        rw [r_C_toldAt h r hc k2]
        show (f_C_directAt σ (nI c) (nI k)).bind _ = _
        rw [r_C_directAt h r hc k2]
        show f_C_climb_9 f σ (nI b) (nI (Wo C c k)) (f_C_passOn (wTd (Wa C c k)) (wEn a)) (nI i + 1) = _
        rw [k_pass ht a (wA_in h hc k2), nI_1]
        exact ih (i + 1) _ _ (by omega) (by omega) (by omega)
theorem r_C_climb (h : wCok C t) (ht : t ≤ 300) (r : rC σ C g) {b c : Nat} (a : Nat) (hc : c < Wn C) (hb : b < Wn C) : f_C_climb σ (nI c) (wEn a) (nI b) = some (wEo (wCl C c a b)) := by
  have hn := h.2.1
  unfold f_C_climb
  exact r_C_climb_9 h ht r hb 1000 0 c a hc (by omega) (by omega)
end
