/-! The reference: BELOW, safe. -/
theorem k_300ix {a b : Nat} : 300 * nI a + nI b = nI (300 * a + b) := by
  show nI 300 * nI a + nI b = _
  rw [k_mul, nI_add]
theorem k_in300 {a b : Nat} (ha : a < 300) (hb : b < 300) : ¬ ((300 * nI a + nI b) < 0 ∨ 90000 ≤ (300 * nI a + nI b).toNatClampNeg) := by
  rw [k_300ix]; exact nI_in (by omega) (by decide)
section
variable {σ : StM} {n t : Nat}
theorem s_M_isBelowAll_5 (h : kMT σ n t) {a b m : Nat} (ha : a < t) (hb : b < t) (hm : m ≤ 30) (hc : M_partCount σ b = nI m) (hp : ∀ k, k < m → ∃ p, 8 ≤ p ∧ p ≤ b ∧ M_partRow σ (30 * b + k) = nI p ∧ M_kind σ p = 1) :
    ∀ (f k : Nat) (x3 : Int32), k ≤ m → m < f + k → k_ok (f_M_isBelowAll_5 f σ (nI a) (nI b) x3 (nI k)) (fun _ => True) := by
  have ht := h.2.2.1
  intro f
  induction f with
  | zero => intro k x3 h1 h2; omega
  | succ f ih =>
    intro k x3 h1 h2
    rw [f_M_isBelowAll_5]
    unfold f_M_isBelowAll_5_s
    refine k_guard (nI_in (by omega) (by decide)) ?_
    rw [nI_clamp (show b < 2 ^ 31 by omega), hc]
    refine k_if (fun _ => k_some trivial) (fun q => ?_)
    rw [nI_leI (by omega) (by omega)] at q
    rw [nI_1]
    refine k_if (fun _ => ih (k + 1) 0 (by omega) (by omega)) (fun _ => ?_)
    obtain ⟨p, p1, p2, p3, _⟩ := hp k (by omega)
    have ix : ¬ ((30 * nI b + nI k) < 0 ∨ 9000 ≤ (30 * nI b + nI k).toNatClampNeg) := by
      rw [k_30ix]; exact nI_in (by omega) (by decide)
    have cl : (30 * nI b + nI k).toNatClampNeg = 30 * b + k := by rw [k_30ix]; exact nI_clamp (by omega)
    refine k_guard ix ?_
    rw [cl, p3]
    refine k_guard (k_in300 (by omega) (by omega)) ?_
    exact k_if (fun _ => ih (k + 1) 0 (by omega) (by omega)) (fun _ => ih (k + 1) 1 (by omega) (by omega))
theorem s_M_isBelowAll (h : kMT σ n t) {a b : Nat} (ha : a < t) (hb : b < t) : k_ok (f_M_isBelowAll σ (nI a) (nI b)) (fun _ => True) := by
  obtain ⟨m, m1, m2, m3⟩ := kTyp_part h.2 hb
  unfold f_M_isBelowAll
  exact s_M_isBelowAll_5 h ha hb m1 m2 m3 1000 0 1 (by omega) (by omega)
theorem s_M_isBelowArray (h : kMT σ n t) {a b : Nat} (ha : a < t) (hb : b < t) (hk : M_kind σ b = 2) : k_ok (f_M_isBelowArray σ (nI a) (nI b)) (fun _ => True) := by
  have ht := h.2.2.1
  have ia : ¬ (nI a < 0 ∨ 300 ≤ (nI a).toNatClampNeg) := nI_in (by omega) (by decide)
  have ib : ¬ (nI b < 0 ∨ 300 ≤ (nI b).toNatClampNeg) := nI_in (by omega) (by decide)
  unfold f_M_isBelowArray
  refine k_guard ia (k_if (fun w => ?_) (fun _ => k_some trivial))
  refine k_guard ia (k_if (fun _ => k_some trivial) (fun _ => ?_))
  refine k_guard ib (k_if (fun _ => k_some trivial) (fun _ => ?_))
  refine k_guard ia (k_guard ib ?_)
  rw [nI_clamp (show a < 2 ^ 31 by omega)] at w ⊢
  rw [nI_clamp (show b < 2 ^ 31 by omega)]
  obtain ⟨e, _, e1, e2, _, _⟩ := kTyp_array h.2 ha w
  obtain ⟨g, _, g1, g2, _, _⟩ := kTyp_array h.2 hb hk
  rw [e2, g2]
  exact k_guard (k_in300 (by omega) (by omega)) (k_if (fun _ => k_some trivial) (fun _ => k_some trivial))
/-- the state is σ, but for what a LOOK found -/
def kF (σ : StM) (r : Int32 × StM) : Prop := ∃ a h g, r.2 = mF σ a h g
theorem s_M_isBelowNamed_27 (h : kM σ n t) {a b m : Nat} (ha : a < t) (hb : b < t) (hkb : M_kind σ b = 1) (hm : m ≤ 30) (hp : M_kind σ a = 3 → ∀ k, k < m → ∃ p, p < t ∧ M_partRow σ (30 * a + k) = nI p) :
    ∀ (f k : Nat) (x3 aa hh gg : Int32), k ≤ m → m < f + k → k_ok (f_M_isBelowNamed_27 f (mF σ aa hh gg) (nI a) (nI b) x3 (nI m) (nI k)) (kF σ) := by
  have ht := h.2.2.2.1
  have ia : ¬ (nI a < 0 ∨ 300 ≤ (nI a).toNatClampNeg) := nI_in (by omega) (by decide)
  have ib : ¬ (nI b < 0 ∨ 300 ≤ (nI b).toNatClampNeg) := nI_in (by omega) (by decide)
  obtain ⟨c, c1, c2, c3⟩ := kTyp_named h.2.2 hb hkb
  intro f
  induction f with
  | zero => intro k x3 aa hh gg h1 h2; omega
  | succ f ih =>
    intro k x3 aa hh gg h1 h2
    rw [f_M_isBelowNamed_27]
    unfold f_M_isBelowNamed_27_s
    refine k_if (fun _ => k_some ⟨aa, hh, gg, rfl⟩) (fun q => ?_)
    rw [nI_leI (by omega) (by omega)] at q
    refine k_if (fun _ => ?_) (fun _ => k_some ⟨aa, hh, gg, rfl⟩)
    have nx : ∀ y a1 h1 g1 : Int32, k_ok (f_M_isBelowNamed_27 f (mF σ a1 h1 g1) (nI a) (nI b) y (nI m) (nI k + 1)) (kF σ) := by
      intro y a1 h1 g1
      rw [nI_1]
      exact ih (k + 1) y a1 h1 g1 (by omega) (by omega)
    have k64 : ∀ p, p < t → k_ok (f_M_isBelowNamed_64 (f_M_isBelowNamed_27 f) (mF σ aa hh gg) (nI a) (nI b) (nI m) (nI k) (nI p)) (kF σ) := by
      intro p hpt
      unfold f_M_isBelowNamed_64
      refine k_guard ib ?_
      rw [nI_clamp (show b < 2 ^ 31 by omega), show M_classOf (mF σ aa hh gg) b = nI c from c2]
      refine k_bind (s_M_lookAt (σ := mF σ aa hh gg) h hpt c1) ?_
      rintro ⟨v, τ⟩ ⟨a', h', g', e1, e2, e3, _⟩
      replace e1 : τ = mF σ a' h' g' := e1
      subst e1
      replace e3 : a' = 1 → kOwn t (M_generic σ c) h' g' := e3
      have ib' : ¬ (nI b < 0 ∨ 300 ≤ b) := by
        have := nI_pos (n := b) (by omega)
        rintro (q | q)
        · exact this q
        · omega
      have k125 : a' = 1 → k_ok (f_M_isBelowNamed_125 (f_M_isBelowNamed_27 f) (mF σ a' h' g') (nI a) (nI b) (nI m) (nI k)) (kF σ) := by
        intro ea
        unfold f_M_isBelowNamed_125
        refine k_guard ib (k_if (fun w => ?_) (fun _ => nx _ _ _ _))
        rw [nI_clamp (show b < 2 ^ 31 by omega)] at w ⊢
        replace w : M_how σ b = 2 := w
        rcases c3 with ⟨_, w2, _⟩ | ⟨w1, _, x, x1, x2, x3⟩
        · rw [w2] at w; exact absurd w (by decide)
        · rcases e3 ea with ⟨w4, _, _⟩ | ⟨_, _, y, y1, y2, y3⟩
          · rw [w1] at w4; exact absurd w4 (by decide)
          · rw [show M_foundType (mF σ a' h' g') = nI y from y3, show M_inner (mF σ a' h' g') b = nI x from x3]
            refine k_guard ib' (k_guard (k_in300 (by omega) (by omega)) ?_)
            exact k_if (fun _ => nx _ _ _ _) (fun _ => nx _ _ _ _)
      refine k_if (fun _ => nx _ _ _ _) (fun w => ?_)
      have ea : a' = 1 := by
        rcases e2 with e2 | e2
        · exact absurd e2 w
        · exact e2
      refine k_guard ib' (k_if (fun _ => nx _ _ _ _) (fun _ => ?_))
      refine k_guard ib' (k_if (fun _ => ?_) (fun _ => k125 ea))
      refine k_if (fun _ => ?_) (fun _ => k125 ea)
      exact k_guard ib' (k_if (fun _ => nx _ _ _ _) (fun _ => k125 ea))
    refine k_guard ia (k_if (fun w => ?_) (fun _ => k64 a ha))
    rw [nI_clamp (show a < 2 ^ 31 by omega)] at w
    obtain ⟨p, p1, p2⟩ := hp w k (by omega)
    have ix : ¬ ((30 * nI a + nI k) < 0 ∨ 9000 ≤ (30 * nI a + nI k).toNatClampNeg) := by
      rw [k_30ix]; exact nI_in (by omega) (by decide)
    have cl : (30 * nI a + nI k).toNatClampNeg = 30 * a + k := by rw [k_30ix]; exact nI_clamp (by omega)
    refine k_guard ix ?_
    rw [cl, show M_partRow (mF σ aa hh gg) (30 * a + k) = nI p from p2]
    exact k64 p p1
theorem s_M_isBelowNamed (h : kM σ n t) {a b : Nat} (ha : a < t) (hb : b < t) (hkb : M_kind σ b = 1) : k_ok (f_M_isBelowNamed σ (nI a) (nI b)) (kF σ) := by
  have ht := h.2.2.2.1
  have ia : ¬ (nI a < 0 ∨ 300 ≤ (nI a).toNatClampNeg) := nI_in (by omega) (by decide)
  obtain ⟨m, m1, m2, m3⟩ := kTyp_part h.2.2 ha
  unfold f_M_isBelowNamed
  refine k_guard ia (k_if (fun w => ?_) (fun w => ?_))
  · refine k_guard ia ?_
    rw [nI_clamp (show a < 2 ^ 31 by omega), m2]
    refine s_M_isBelowNamed_27 h ha hb hkb m1 (fun _ k hk => ?_) 1000 0 0 (M_found σ) (M_foundHow σ) (M_foundType σ) (by omega) (by omega)
    obtain ⟨p, _, p2, p3, _⟩ := m3 k hk
    exact ⟨p, by omega, p3⟩
  · rw [nI_clamp (show a < 2 ^ 31 by omega)] at w
    exact s_M_isBelowNamed_27 (m := 1) h ha hb hkb (by omega) (fun w2 => absurd w2 w) 1000 0 0 (M_found σ) (M_foundHow σ) (M_foundType σ) (by omega) (by omega)
def kK (σ : StM) (r : Int32 × StM) : Prop := ∃ a h g β ν, r.2 = mK σ a h g β ν
theorem s_M_reckonBelow_32 (h : kM σ n t) {b : Nat} (hb : b < t) (k22 : StM → Int32 → Option (Int32 × StM)) (hk : ∀ (a' h' g' : Int32) (β : Nat → Int32) (ν : Int32), k_ok (k22 (mK σ a' h' g' β ν) (nI b + 1)) (kK σ)) :
    ∀ (f a : Nat) (aa hh gg : Int32) (β : Nat → Int32) (ν : Int32), a ≤ t → t < f + a → k_ok (f_M_reckonBelow_32 k22 f (mK σ aa hh gg β ν) (nI b) (nI a)) (kK σ) := by
  have ht := h.2.2.2.1
  have et : M_types σ = nI t := h.2.1
  have ib : ¬ (nI b < 0 ∨ 300 ≤ (nI b).toNatClampNeg) := nI_in (by omega) (by decide)
  have cb : (nI b).toNatClampNeg = b := nI_clamp (by omega)
  intro f
  induction f with
  | zero => intro a aa hh gg β ν h1 h2; omega
  | succ f ih =>
    intro a aa hh gg β ν h1 h2
    rw [f_M_reckonBelow_32]
    unfold f_M_reckonBelow_32_s
    rw [show M_types (mK σ aa hh gg β ν) = nI t from et]
    refine k_if (fun _ => hk _ _ _ _ _) (fun q => ?_)
    rw [nI_leI (by omega) (by omega)] at q
    have ix : ¬ ((300 * nI a + nI b) < 0 ∨ 90000 ≤ (300 * nI a + nI b).toNatClampNeg) := k_in300 (by omega) (by omega)
    have nx : ∀ (a' h' g' : Int32) (β' : Nat → Int32) (ν' : Int32), k_ok (f_M_reckonBelow_32 k22 f (mK σ a' h' g' β' ν') (nI b) (nI a + 1)) (kK σ) := by
      intro a' h' g' β' ν'
      rw [nI_1]
      exact ih (a + 1) a' h' g' β' ν' (by omega) (by omega)
    have k113 : ∀ (a' h' g' : Int32), k_ok (f_M_reckonBelow_113 k22 (f_M_reckonBelow_32 k22 f) (mK σ a' h' g' β ν) (nI b) (nI a) (300 * nI a + nI b)) (kK σ) := by
      intro a' h' g'
      unfold f_M_reckonBelow_113
      exact k_guard ix (nx a' h' g' _ ν)
    have k94 : ∀ (a' h' g' : Int32), k_ok (f_M_reckonBelow_94 k22 (f_M_reckonBelow_32 k22 f) (mK σ a' h' g' β ν) (nI b) (nI a) (300 * nI a + nI b)) (kK σ) := by
      intro a' h' g'
      unfold f_M_reckonBelow_94
      refine k_guard ib (k_if (fun w => ?_) (fun _ => k_guard ix (nx a' h' g' _ ν)))
      rw [cb] at w
      refine k_bind (s_M_isBelowArray (σ := mK σ a' h' g' β ν) h.2 (show a < t by omega) hb w) ?_
      intro r1 _
      exact k_if (fun _ => k_guard ix (nx a' h' g' _ ν)) (fun _ => k113 a' h' g')
    have k75 : k_ok (f_M_reckonBelow_75 k22 (f_M_reckonBelow_32 k22 f) (mK σ aa hh gg β ν) (nI b) (nI a) (300 * nI a + nI b)) (kK σ) := by
      unfold f_M_reckonBelow_75
      refine k_guard ib (k_if (fun w => ?_) (fun _ => k94 aa hh gg))
      rw [cb] at w
      refine k_bind (s_M_isBelowNamed (σ := mK σ aa hh gg β ν) h (show a < t by omega) hb w) ?_
      rintro ⟨v, τ⟩ ⟨a', h', g', e1⟩
      replace e1 : τ = mK σ a' h' g' β ν := e1
      subst e1
      exact k_if (fun _ => k94 a' h' g') (fun _ => k113 a' h' g')
    refine k_if (fun _ => k113 aa hh gg) (fun _ => ?_)
    refine k_guard ib (k_if (fun _ => ?_) (fun _ => k75))
    refine k_bind (s_M_isBelowAll (σ := mK σ aa hh gg β ν) h.2 (show a < t by omega) hb) ?_
    intro r3 _
    exact k_if (fun _ => k75) (fun _ => k113 aa hh gg)
theorem s_M_reckonBelow_22 (h : kM σ n t) : ∀ (f b : Nat) (aa hh gg : Int32) (β : Nat → Int32) (ν : Int32), b ≤ t → t < f + b → k_ok (f_M_reckonBelow_22 f (mK σ aa hh gg β ν) (nI b)) (kK σ) := by
  have ht := h.2.2.2.1
  have et : M_types σ = nI t := h.2.1
  intro f
  induction f with
  | zero => intro b aa hh gg β ν h1 h2; omega
  | succ f ih =>
    intro b aa hh gg β ν h1 h2
    rw [f_M_reckonBelow_22]
    unfold f_M_reckonBelow_22_s
    rw [show M_types (mK σ aa hh gg β ν) = nI t from et]
    refine k_if (fun _ => k_some ⟨aa, hh, gg, β, ν, rfl⟩) (fun q => ?_)
    rw [nI_leI (by omega) (by omega)] at q
    refine s_M_reckonBelow_32 h (show b < t by omega) _ ?_ 1000 0 aa hh gg β ν (by omega) (by omega)
    intro a' h' g' β' ν'
    rw [nI_1]
    exact ih (b + 1) a' h' g' β' ν' (by omega) (by omega)
theorem s_M_reckonBelow (h : kM σ n t) : k_ok (f_M_reckonBelow σ) (kK σ) := by
  have ht := h.2.2.2.1
  unfold f_M_reckonBelow
  refine k_if (fun _ => k_some ⟨M_found σ, M_foundHow σ, M_foundType σ, M_below σ, M_reckoned σ, rfl⟩) (fun _ => ?_)
  exact s_M_reckonBelow_22 h 1000 0 (M_found σ) (M_foundHow σ) (M_foundType σ) (M_below σ) (M_types σ) (by omega) (by omega)
end
