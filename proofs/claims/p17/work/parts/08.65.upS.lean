/-! Tier 3: THE UPPER BOUND over the tables. -/
def wAO (T : wWt) (a : Nat) : Bool := decide (dK (Ty T a) = 2) && decide (8 ≤ dX (Ty T a))
def wNm (T : wWt) (c a : Nat) : Option (Nat × wWt) := wAdd T (1, c, a, []) (1 + (if a = 0 then 0 else Tm T (a / 4)))
def wArr (q : Nat × wWt) : Option (Nat × wWt) := wAdd q.2 (2, q.1, 0, []) (1 + Tm q.2 q.1)
/-- the ARGUMENT that holds both -/
def wAr2 (F : wWt → Nat → Nat → Option (Nat × wWt)) (T : wWt) (x y : Nat) : Option (Nat × wWt) :=
  if x = y ∧ x % 4 ≠ 2 then some (x, T) else (F T (x / 4) (y / 4)).map (fun q => (4 * q.1 + 2, q.2))
def wLg (C : wWc) (T : wWt) (a c : Nat) : Nat := (wLk C T a c).getD 0
def wCls (C : wWc) (F : wWt → Nat → Nat → Option (Nat × wWt)) (a b : Nat) (s : Nat → Bool) : Nat → Nat → wWt → List Nat → Option (Nat × wWt)
  | 0, _, T, l => wInt T l
  | f + 1, c, T, l => if s c = true then (wAr2 F T (wLg C T a c) (wLg C T b c)).bind (fun q => (wNm q.2 c q.1).bind (fun p => wCls C F a b s f (c + 1) p.2 (l ++ [p.1]))) else wCls C F a b s f (c + 1) T l
def wLs2 (C : wWc) (T : wWt) (a b : Nat) : Nat → Bool := wLea C (fun c => wSee C T a c && wSee C T b c)
def wUb (C : wWc) (F : wWt → Nat → Nat → Option (Nat × wWt)) : Nat → wWt → Nat → Nat → Option (Nat × wWt)
  | 0, _, _, _ => none
  | f + 1, T, a, b => if a = b then some (a, T) else if wAO T a = true ∧ wAO T b = true then (wUb C F f T (dX (Ty T a)) (dX (Ty T b))).bind wArr else wCls C F a b (wLs2 C T a b) 30 0 T []
def wRoot (T : wWt) (_ _ : Nat) : Option (Nat × wWt) := wNm T 0 0
def wFd (C : wWc) : Nat → wWt → Nat → Nat → Option (Nat × wWt)
  | 0 => wRoot
  | d + 1 => wUb C (wFd C d) 101
/-- to depth d -/
def wUpp (C : wWc) (d : Nat) : wWt → Nat → Nat → Option (Nat × wWt) := wUb C (wFd C d) 101
/-- what a bound leaves -/
def wGd (C : wWc) (T : wWt) (a : Nat) (o : Option (Nat × wWt)) : Prop := ∀ q, o = some q → wOK C q.2 ∧ wEx T q.2 ∧ q.1 < Tn q.2 ∧ (8 ≤ a → 8 ≤ q.1)
def wFok (C : wWc) (F : wWt → Nat → Nat → Option (Nat × wWt)) : Prop := ∀ T a b, wOK C T → a < Tn T → b < Tn T → wGd C T a (F T a b)
/-- the PARTS so far: NAMED types of classes ahead of c, in order -/
def wLok (T : wWt) (c : Nat) (l : List Nat) : Prop := l.length ≤ c ∧ (∀ p, p ∈ l → 8 ≤ p ∧ p < Tn T ∧ dK (Ty T p) = 1 ∧ dX (Ty T p) < c) ∧ (∀ j k (hj : j < l.length) (hk : k < l.length), j < k → dX (Ty T l[j]) < dX (Ty T l[k]))
section
variable {C : wWc} {T : wWt}
theorem wNm_ok (h : wOK C T) {c a : Nat} (hc : c < Wn C) (ho : wOk (Tn T) (Wg C c) a) {q : Nat × wWt} (e : wNm T c a = some q) : wOK C q.2 ∧ wEx T q.2 ∧ q.1 < Tn q.2 ∧ 8 ≤ q.1 ∧ Ty q.2 q.1 = (1, c, a, []) := by
  obtain ⟨i, T'⟩ := q
  obtain ⟨h1, h2, h3, h4, h5, _⟩ := wAdd_ok h (Or.inl ⟨c, a, rfl, hc, ho, rfl⟩) e
  exact ⟨h1, h2, h3, h4, h5⟩
theorem wRoot_ok : wFok C wRoot := by
  intro T a b h _ _ q e
  have h13 := h.1.1
  obtain ⟨h1, h2, h3, h4, _⟩ := wNm_ok h (show 0 < Wn C by omega) (Or.inl ⟨h.1.2.2.2.2.2.2.2.1 0 (by omega), rfl⟩) e
  exact ⟨h1, h2, h3, fun _ => h4⟩
theorem wAr2_ok {F : wWt → Nat → Nat → Option (Nat × wWt)} (hF : wFok C F) (h : wOK C T) {g : Bool} {x y : Nat} (hx : wOk (Tn T) g x) (hy : wOk (Tn T) g y) {q : Nat × wWt} (e : wAr2 F T x y = some q) : wOK C q.2 ∧ wEx T q.2 ∧ wOk (Tn q.2) g q.1 := by
  unfold wAr2 at e
  by_cases z : x = y ∧ x % 4 ≠ 2
  · rw [if_pos z] at e
    cases e
    exact ⟨h, wEx_refl T, hx⟩
  · rw [if_neg z] at e
    rcases hx with ⟨g1, x1⟩ | ⟨g1, x0, x1, x2, x3⟩
    · rcases hy with ⟨_, y1⟩ | ⟨g2, _⟩
      · exact absurd ⟨by omega, by omega⟩ z
      · rw [g1] at g2; cases g2
    · rcases hy with ⟨g2, _⟩ | ⟨_, y0, y1, y2, y3⟩
      · rw [g1] at g2; cases g2
      · cases hq : F T (x / 4) (y / 4) with
        | none => rw [hq] at e; cases e
        | some p =>
          rw [hq] at e
          cases e
          obtain ⟨w1, w2, w3, w4⟩ := hF T (x / 4) (y / 4) h (by omega) (by omega) p hq
          exact ⟨w1, w2, Or.inr ⟨g1, p.1, w4 (by omega), w3, Or.inr rfl⟩⟩
theorem wLok_nil (T : wWt) : wLok T 0 [] := by
  refine ⟨Nat.le_refl 0, fun p hp => ?_, fun j k hj => ?_⟩
  · exact absurd hp (by simp)
  · exact absurd hj (by simp)
theorem wLok_ex {T' : wWt} {c : Nat} {l : List Nat} (hx : wEx T T') (h : wLok T c l) : wLok T' c l := by
  obtain ⟨h1, h2, h3⟩ := h
  refine ⟨h1, fun p hp => ?_, fun j k hj hk jk => ?_⟩
  · obtain ⟨p1, p2, p3, p4⟩ := h2 p hp
    rw [(hx.2 p p2).1]
    exact ⟨p1, Nat.lt_of_lt_of_le p2 hx.1, p3, p4⟩
  · rw [(hx.2 _ (h2 _ (List.getElem_mem hj)).2.1).1, (hx.2 _ (h2 _ (List.getElem_mem hk)).2.1).1]
    exact h3 j k hj hk jk
theorem wLok_mono {c c' : Nat} {l : List Nat} (h : wLok T c l) (hc : c ≤ c') : wLok T c' l := by
  obtain ⟨h1, h2, h3⟩ := h
  refine ⟨by omega, fun p hp => ?_, h3⟩
  obtain ⟨p1, p2, p3, p4⟩ := h2 p hp
  exact ⟨p1, p2, p3, by omega⟩
theorem wLok_add {c p a : Nat} {l : List Nat} (h : wLok T c l) (h8 : 8 ≤ p) (hp : p < Tn T) (e : Ty T p = (1, c, a, [])) : wLok T (c + 1) (l ++ [p]) := by
  obtain ⟨h1, h2, h3⟩ := h
  refine ⟨by rw [List.length_append]; show l.length + 1 ≤ c + 1; omega, fun q hq => ?_, fun j k hj hk jk => ?_⟩
  · rcases List.mem_append.mp hq with w | w
    · obtain ⟨p1, p2, p3, p4⟩ := h2 q w
      exact ⟨p1, p2, p3, by omega⟩
    · rw [List.mem_singleton] at w
      subst w
      rw [e]
      exact ⟨h8, hp, rfl, Nat.lt_succ_self c⟩
  · have hj' : j < l.length + 1 := by rw [List.length_append] at hj; exact hj
    have hk' : k < l.length + 1 := by rw [List.length_append] at hk; exact hk
    have jl : j < l.length := by omega
    have e1 : (l ++ [p])[j] = l[j] := List.getElem_append_left jl
    rw [e1]
    by_cases w : k < l.length
    · have e2 : (l ++ [p])[k] = l[k] := List.getElem_append_left w
      rw [e2]; exact h3 j k jl w jk
    · have ek : k = l.length := by omega
      subst ek
      have e2 : (l ++ [p])[l.length] = p := by simp
      rw [e2, e]
      exact (h2 _ (List.getElem_mem jl)).2.2.2
theorem wInt_ok (h : wOK C T) {l : List Nat} (hl : wLok T 30 l) (hne : l ≠ []) {q : Nat × wWt} (e : wInt T l = some q) : wOK C q.2 ∧ wEx T q.2 ∧ q.1 < Tn q.2 ∧ 8 ≤ q.1 := by
  obtain ⟨h1, h2, h3⟩ := hl
  match l, hne with
  | [p], _ =>
    unfold wInt at e
    cases e
    obtain ⟨p1, p2, _⟩ := h2 p (by simp)
    exact ⟨h, wEx_refl T, p2, p1⟩
  | x :: y :: l, _ =>
    rw [wInt_many (by simp)] at e
    obtain ⟨i, T'⟩ := q
    obtain ⟨a1, a2, a3, a4, _⟩ := wAdd_ok h (Or.inr (Or.inr ⟨_, rfl, by simp, h1, fun p hp => ⟨(h2 p hp).1, (h2 p hp).2.1, (h2 p hp).2.2.1⟩, h3, rfl⟩)) e
    exact ⟨a1, a2, a3, a4⟩
/-- what the set of LEAST classes holds -/
def wSok (C : wWc) (T : wWt) (a b : Nat) (s : Nat → Bool) : Prop := ∀ c, s c = true → c < Wn C ∧ wSee C T a c = true ∧ wSee C T b c = true
theorem wSee_ex (h : wTok C T) {T' : wWt} (hx : wEx T T') {i : Nat} (hi : i < Tn T) (b : Nat) : wSee C T' i b = wSee C T i b := by
  unfold wSee; rw [wLk_ex h hx hi]
theorem wSok_ex (h : wTok C T) {T' : wWt} (hx : wEx T T') {a b : Nat} (ha : a < Tn T) (hb : b < Tn T) {s : Nat → Bool} (hs : wSok C T a b s) : wSok C T' a b s := by
  intro c hc
  rw [wSee_ex h hx ha, wSee_ex h hx hb]
  exact hs c hc
theorem wLg_ok (h : wOK C T) {a c : Nat} (ha : a < Tn T) (hs : wSee C T a c = true) : wLk C T a c = some (wLg C T a c) ∧ wOk (Tn T) (Wg C c) (wLg C T a c) := by
  unfold wSee at hs
  cases e : wLk C T a c with
  | none => rw [e] at hs; cases hs
  | some r =>
    have : wLg C T a c = r := by unfold wLg; rw [e]; rfl
    rw [this]
    exact ⟨rfl, wLk_ok h ha e⟩
theorem wCls_ok {F : wWt → Nat → Nat → Option (Nat × wWt)} (hF : wFok C F) {a b : Nat} {s : Nat → Bool} : ∀ (f c : Nat) (T : wWt) (l : List Nat), wOK C T → a < Tn T → b < Tn T → wSok C T a b s → wLok T c l → c + f ≤ 30 → (l ≠ [] ∨ ∃ k, c ≤ k ∧ k < c + f ∧ s k = true) → ∀ q, wCls C F a b s f c T l = some q → wOK C q.2 ∧ wEx T q.2 ∧ q.1 < Tn q.2 ∧ 8 ≤ q.1 := by
  intro f
  induction f with
  | zero =>
    intro c T l h _ _ _ hl hc hne q e
    rw [wCls] at e
    refine wInt_ok h (wLok_mono hl (by omega)) ?_ e
    rcases hne with w | ⟨k, k1, k2, _⟩
    · exact w
    · omega
  | succ f ih =>
    intro c T l h ha hb hs hl hc hne q e
    rw [wCls] at e
    by_cases z : s c = true
    · rw [if_pos z] at e
      obtain ⟨s1, s2, s3⟩ := hs c z
      obtain ⟨_, o1⟩ := wLg_ok h ha s2
      obtain ⟨_, o2⟩ := wLg_ok h hb s3
      cases e1 : wAr2 F T (wLg C T a c) (wLg C T b c) with
      | none => rw [e1] at e; cases e
      | some x =>
        rw [e1] at e
        obtain ⟨x1, x2, x3⟩ := wAr2_ok hF h o1 o2 e1
        replace e : (wNm x.2 c x.1).bind (fun p => wCls C F a b s f (c + 1) p.2 (l ++ [p.1])) = some q := e
        cases e2 : wNm x.2 c x.1 with
        | none => rw [e2] at e; cases e
        | some p =>
          rw [e2] at e
          obtain ⟨p1, p2, p3, p4, p5⟩ := wNm_ok x1 s1 x3 e2
          have hx := wEx_trans x2 p2
          obtain ⟨r1, r2, r3⟩ := ih (c + 1) p.2 (l ++ [p.1]) p1 (Nat.lt_of_lt_of_le ha hx.1) (Nat.lt_of_lt_of_le hb hx.1) (wSok_ex h.2 hx ha hb hs) (wLok_add (wLok_ex hx hl) p4 p3 p5) (by omega) (Or.inl (by simp)) q e
          exact ⟨r1, wEx_trans hx r2, r3⟩
    · rw [if_neg z] at e
      refine ih (c + 1) T l h ha hb hs (wLok_mono hl (by omega)) (by omega) ?_ q e
      rcases hne with w | ⟨k, k1, k2, k3⟩
      · exact Or.inl w
      · refine Or.inr ⟨k, ?_, by omega, k3⟩
        by_cases ek : k = c
        · rw [ek] at k3; exact absurd k3 z
        · omega
theorem wTw_0 (h : wCok C (Tn T)) : ∀ c, c < Wn C → wTw C c 0 = true := by
  intro c
  induction c using Nat.strongRecOn with
  | ind c ih =>
    intro hc
    by_cases e : c = 0
    · rw [e]; exact wTw_self 0
    · have hd := (h.2.2.1 c hc).2 (by omega)
      have lt := (h.2.2.2.1 c 0 hc hd).1
      exact wTw_up ((h.2.2.2.2.2.1 c 0 hc).mpr ⟨0, hd, ih _ lt (by omega)⟩)
theorem wSee_0 (h : wOK C T) {i : Nat} (hi : i < Tn T) : wSee C T i 0 = true := by
  unfold wSee wLk
  by_cases k2 : dK (Ty T i) = 2
  · rw [if_pos k2]; rfl
  · rw [if_neg k2, wLs_any h 0 _ (fun p hp => (wHo_ok h.2 hi k2 hp).2)]
    have hl := wHo_len h.2 hi k2
    have : 0 < (wHo T i).length := by rw [hl]; split <;> omega
    have hp := wHo_ok h.2 hi k2 (List.getElem_mem this)
    unfold wAny
    rw [List.any_eq_true]
    exact ⟨_, List.getElem_mem this, wTw_0 h.1 _ (wT_named h.2 hp.2.1 hp.2.2).2.1⟩
theorem wLs2_ok (h : wOK C T) {a b : Nat} (ha : a < Tn T) (hb : b < Tn T) : wSok C T a b (wLs2 C T a b) ∧ ∃ k, k < Wn C ∧ wLs2 C T a b k = true := by
  refine ⟨fun c hc => ?_, ?_⟩
  · unfold wLs2 wLea at hc
    have w := (Bool.and_eq_true_iff.mp hc).1
    have w2 := Bool.and_eq_true_iff.mp w
    exact ⟨wSee_lt h ha w2.1, w2⟩
  · have go : ∀ N m, Wn C - m ≤ N → m < Wn C → (wSee C T a m && wSee C T b m) = true → ∃ k, k < Wn C ∧ wLs2 C T a b k = true := by
      intro N
      induction N with
      | zero => intro m h1 h2; omega
      | succ N ih =>
        intro m h1 h2 h3
        cases e : wfs (fun c => (wSee C T a c && wSee C T b c) && Wu C c m) (Wn C) 0 with
        | none =>
          refine ⟨m, h2, ?_⟩
          show ((wSee C T a m && wSee C T b m) && !((wfs (fun c => (wSee C T a c && wSee C T b c) && Wu C c m) (Wn C) 0).isSome)) = true
          rw [e, h3]; rfl
        | some c =>
          obtain ⟨c1, c2, c3, _⟩ := wfs_some e
          have c4 := Bool.and_eq_true_iff.mp c3
          have c5 := wUp_lt h.1 c m (by omega) c4.2
          exact ih c (by omega) (by omega) c4.1
    exact go _ 0 (Nat.le_refl _) (by have := h.1.1; omega) (by rw [wSee_0 h ha, wSee_0 h hb]; rfl)
theorem wAO_el (h : wTok C T) {a : Nat} (ha : a < Tn T) (q : wAO T a = true) : dK (Ty T a) = 2 ∧ 8 ≤ dX (Ty T a) ∧ dX (Ty T a) < a ∧ Tm T a = 1 + Tm T (dX (Ty T a)) := by
  unfold wAO at q
  obtain ⟨q1, q2⟩ := Bool.and_eq_true_iff.mp q
  have q1 := of_decide_eq_true q1
  have q2 := of_decide_eq_true q2
  obtain ⟨_, w1, w2⟩ := wT_arr h ha q1
  exact ⟨q1, q2, w1, w2⟩
theorem wArr_ok (h : wOK C T) {x : Nat} (hx : x < Tn T) {q : Nat × wWt} (e : wArr (x, T) = some q) : wOK C q.2 ∧ wEx T q.2 ∧ q.1 < Tn q.2 ∧ 8 ≤ q.1 := by
  obtain ⟨i, T'⟩ := q
  obtain ⟨a1, a2, a3, a4, _⟩ := wAdd_ok h (Or.inr (Or.inl ⟨x, rfl, hx, rfl⟩)) e
  exact ⟨a1, a2, a3, a4⟩
theorem wUb_ok {F : wWt → Nat → Nat → Option (Nat × wWt)} (hF : wFok C F) (f : Nat) : wFok C (wUb C F f) := by
  induction f with
  | zero => intro T a b _ _ _ q e; cases e
  | succ f ih =>
    intro T a b h ha hb q e
    rw [wUb] at e
    by_cases z : a = b
    · rw [if_pos z] at e
      cases e
      exact ⟨h, wEx_refl T, ha, fun w => w⟩
    · rw [if_neg z] at e
      by_cases y : wAO T a = true ∧ wAO T b = true
      · rw [if_pos y] at e
        obtain ⟨_, _, a1, _⟩ := wAO_el h.2 ha y.1
        obtain ⟨_, _, b1, _⟩ := wAO_el h.2 hb y.2
        cases e1 : wUb C F f T (dX (Ty T a)) (dX (Ty T b)) with
        | none => rw [e1] at e; cases e
        | some x =>
          rw [e1] at e
          obtain ⟨x1, x2, x3, _⟩ := ih T _ _ h (by omega) (by omega) x e1
          obtain ⟨r1, r2, r3, r4⟩ := wArr_ok x1 x3 e
          exact ⟨r1, wEx_trans x2 r2, r3, fun _ => r4⟩
      · rw [if_neg y] at e
        obtain ⟨s1, k, k1, k2⟩ := wLs2_ok h ha hb
        have hC := h.1.2.1
        obtain ⟨r1, r2, r3, r4⟩ := wCls_ok hF 30 0 T [] h ha hb s1 (wLok_nil T) (by omega) (Or.inr ⟨k, by omega, by omega, k2⟩) q e
        exact ⟨r1, r2, r3, fun _ => r4⟩
theorem wFd_ok (d : Nat) : wFok C (wFd C d) := by
  induction d with
  | zero => exact wRoot_ok
  | succ d ih => exact wUb_ok ih 101
theorem wUpp_ok (d : Nat) : wFok C (wUpp C d) := wUb_ok (wFd_ok d) 101
end
