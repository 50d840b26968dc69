/-! The reference's tables: what holds of them. n classes, t types. -/
def kArg (t : Nat) (ge gc a : Int32) : Prop := (ge = 0 ∧ a = -1) ∨ (ge = 1 ∧ ((∃ x, 8 ≤ x ∧ x < t ∧ a = nI x) ∨ (a = -2 ∧ gc = 1)))
def kOwn (t : Nat) (gc h g : Int32) : Prop := (gc = 0 ∧ h = 0 ∧ g = -1) ∨ (gc = 1 ∧ (h = 1 ∨ h = 2) ∧ ∃ x, 8 ≤ x ∧ x < t ∧ g = nI x)
def kClE (t : Nat) (gn dr to ar ov : Nat → Int32) (c : Nat) : Prop :=
  (gn c = 0 ∨ gn c = 1) ∧ ∃ d, d ≤ c ∧ (0 < c → 0 < d) ∧ dr c = nI d ∧
    (∀ k, k < d → ∃ e, e < c ∧ to (30 * c + k) = nI e ∧ kArg t (gn e) (gn c) (ar (30 * c + k))) ∧
    (∀ k l, k < l → l < d → to (30 * c + k) ≠ to (30 * c + l)) ∧
    (∀ b, b < 32 → (bt (ov c) b = true ↔ ∃ k e, k < d ∧ e < c ∧ to (30 * c + k) = nI e ∧ (e = b ∨ bt (ov e) b = true)))
def kCls (n t : Nat) (gn dr to ar ov : Nat → Int32) : Prop := 13 ≤ n ∧ n ≤ 30 ∧ (∀ c, c < 3 → gn c = 0) ∧ ∀ c, c < n → kClE t gn dr to ar ov c
def kTyE (n : Nat) (gn kd cl hw inn md pc pr : Nat → Int32) (i : Nat) : Prop :=
  (∃ m, 1 ≤ m ∧ m ≤ 100 ∧ md i = nI m) ∧
  ((i < 8 ∧ kd i = 0 ∧ pc i = 0) ∨
   (8 ≤ i ∧ kd i = 1 ∧ pc i = 1 ∧ pr (30 * i) = nI i ∧ ∃ c, c < n ∧ cl i = nI c ∧ kOwn i (gn c) (hw i) (inn i)) ∨
   (8 ≤ i ∧ kd i = 2 ∧ pc i = 0 ∧ ∃ e m, e < i ∧ inn i = nI e ∧ md e = nI m ∧ md i = nI (m + 1)) ∨
   (8 ≤ i ∧ kd i = 3 ∧ ∃ m, m ≤ 30 ∧ pc i = nI m ∧ ∀ k, k < m → ∃ p, p < i ∧ 8 ≤ p ∧ pr (30 * i + k) = nI p ∧ kd p = 1))
def kTyp (n t : Nat) (gn kd cl hw inn md pc pr : Nat → Int32) : Prop := 16 ≤ t ∧ t ≤ 300 ∧ (∀ i, i < t → kTyE n gn kd cl hw inn md pc pr i) ∧ ∀ i, 8 ≤ i → i < 16 → kd i = 1
def kMC (σ : StM) (n t : Nat) : Prop := M_classes σ = nI n ∧ kCls n t (M_generic σ) (M_directs σ) (M_directTo σ) (M_directArg σ) (M_over σ)
def kMT (σ : StM) (n t : Nat) : Prop := M_types σ = nI t ∧ kTyp n t (M_generic σ) (M_kind σ) (M_classOf σ) (M_how σ) (M_inner σ) (M_made σ) (M_partCount σ) (M_partRow σ)
def kM (σ : StM) (n t : Nat) : Prop := kMC σ n t ∧ kMT σ n t
theorem kArg_mono {t t' : Nat} {ge gc a : Int32} (h : kArg t ge gc a) (ht : t ≤ t') : kArg t' ge gc a := by
  rcases h with h | ⟨h1, ⟨x, hx, hx2, e⟩ | h2⟩
  · exact Or.inl h
  · exact Or.inr ⟨h1, Or.inl ⟨x, hx, by omega, e⟩⟩
  · exact Or.inr ⟨h1, Or.inr h2⟩
theorem kOwn_mono {t t' : Nat} {gc h g : Int32} (ho : kOwn t gc h g) (ht : t ≤ t') : kOwn t' gc h g := by
  rcases ho with h | ⟨h1, h2, x, hx, hx2, e⟩
  · exact Or.inl h
  · exact Or.inr ⟨h1, h2, x, hx, by omega, e⟩
theorem kCls_mono {n t t' : Nat} {gn dr to ar ov : Nat → Int32} (h : kCls n t gn dr to ar ov) (ht : t ≤ t') : kCls n t' gn dr to ar ov := by
  refine ⟨h.1, h.2.1, h.2.2.1, ?_⟩
  intro c hc
  obtain ⟨h0, d, h1, h2, h3, h4, h5, h6⟩ := h.2.2.2 c hc
  refine ⟨h0, d, h1, h2, h3, ?_, h5, h6⟩
  intro k hk
  obtain ⟨e, q1, q2, q3⟩ := h4 k hk
  exact ⟨e, q1, q2, kArg_mono q3 ht⟩
theorem kMC_mono {σ : StM} {n t t' : Nat} (h : kMC σ n t) (ht : t ≤ t') : kMC σ n t' := ⟨h.1, kCls_mono h.2 ht⟩
/-- the PARTS of a type -/
theorem kTyp_part {n t : Nat} {gn kd cl hw inn md pc pr : Nat → Int32} (h : kTyp n t gn kd cl hw inn md pc pr) {i : Nat} (hi : i < t) : ∃ m, m ≤ 30 ∧ pc i = nI m ∧ ∀ k, k < m → ∃ p, 8 ≤ p ∧ p ≤ i ∧ pr (30 * i + k) = nI p ∧ kd p = 1 := by
  obtain ⟨_, h1 | h1 | h1 | h1⟩ := h.2.2.1 i hi
  · exact ⟨0, by omega, h1.2.2, fun k hk => by omega⟩
  · refine ⟨1, by omega, h1.2.2.1, fun k hk => ⟨i, h1.1, by omega, ?_, h1.2.1⟩⟩
    have hk0 : k = 0 := by omega
    subst hk0
    exact h1.2.2.2.1
  · exact ⟨0, by omega, h1.2.2.1, fun k hk => by omega⟩
  · obtain ⟨_, _, m, hm, hp, hq⟩ := h1
    refine ⟨m, hm, hp, fun k hk => ?_⟩
    obtain ⟨p, q1, q2, q3, q4⟩ := hq k hk
    exact ⟨p, q2, by omega, q3, q4⟩
/-- a NAMED type's class and ARGUMENT -/
theorem kTyp_named {n t : Nat} {gn kd cl hw inn md pc pr : Nat → Int32} (h : kTyp n t gn kd cl hw inn md pc pr) {i : Nat} (hi : i < t) (hk : kd i = 1) : ∃ c, c < n ∧ cl i = nI c ∧ kOwn i (gn c) (hw i) (inn i) := by
  obtain ⟨_, h1 | h1 | h1 | h1⟩ := h.2.2.1 i hi
  · rw [h1.2.1] at hk; exact absurd hk (by decide)
  · exact h1.2.2.2.2
  · rw [h1.2.1] at hk; exact absurd hk (by decide)
  · rw [h1.2.1] at hk; exact absurd hk (by decide)
theorem kTyp_array {n t : Nat} {gn kd cl hw inn md pc pr : Nat → Int32} (h : kTyp n t gn kd cl hw inn md pc pr) {i : Nat} (hi : i < t) (hk : kd i = 2) : ∃ e m, e < i ∧ inn i = nI e ∧ md e = nI m ∧ md i = nI (m + 1) := by
  obtain ⟨_, h1 | h1 | h1 | h1⟩ := h.2.2.1 i hi
  · rw [h1.2.1] at hk; exact absurd hk (by decide)
  · rw [h1.2.1] at hk; exact absurd hk (by decide)
  · exact h1.2.2.2
  · rw [h1.2.1] at hk; exact absurd hk (by decide)
section
variable {σ : StM} {n t : Nat}
theorem s_M_under {e b : Nat} (he : e < 30) (hb : b < 32) : f_M_under σ (nI e) (nI b) = some (if bt (M_over σ e) b = true then 1 else 0) := by
  unfold f_M_under
  rw [if_neg (nI_in he (by decide)), nI_clamp (by omega)]
  by_cases h : bt (M_over σ e) b = true
  · rw [if_pos ((k_bit1 _ b hb).mpr h), if_pos h]
  · rw [if_neg (fun q => h ((k_bit1 _ b hb).mp q)), if_neg h]
/-- an edge k of class c leads toward class b -/
def kTo (σ : StM) (c b k : Nat) : Prop := ∃ e, e < c ∧ M_directTo σ (30 * c + k) = nI e ∧ (e = b ∨ bt (M_over σ e) b = true)
theorem s_M_climb_55 (h : kMC σ n t) {c b d : Nat} (hc : c < n) (hb : b < n) (hd : d ≤ c) (hto : ∀ k, k < d → ∃ e, e < c ∧ M_directTo σ (30 * c + k) = nI e) (k38 : StM → Int32 → Int32 → Option (Int32 × StM)) :
    ∀ (f k k0 : Nat), k ≤ k0 → k0 < d → kTo σ c b k0 → k0 < f + k → ∃ k1, k1 < d ∧ kTo σ c b k1 ∧ f_M_climb_55 k38 f σ (nI b) (nI c) (nI k) = f_M_climb_101 k38 σ (nI b) (nI c) (nI k1) := by
  have hn := h.2.2.1
  intro f
  induction f with
  | zero => intro k k0 h1 h2 h3 h4; omega
  | succ f ih =>
    intro k k0 h1 h2 h3 h4
    rw [f_M_climb_55]
    unfold f_M_climb_55_s
    obtain ⟨e, he, et⟩ := hto k (by omega)
    have ix : ¬ ((30 * nI c + nI k) < 0 ∨ 900 ≤ (30 * nI c + nI k).toNatClampNeg) := by
      rw [k_30ix]; exact nI_in (by omega) (by decide)
    have cl : (30 * nI c + nI k).toNatClampNeg = 30 * c + k := by rw [k_30ix]; exact nI_clamp (by omega)
    rw [if_neg ix, if_neg ix, cl, et, s_M_under (by omega) (by omega)]
    by_cases q1 : e = b
    · refine ⟨k, by omega, ⟨e, he, et, Or.inl q1⟩, ?_⟩
      rw [if_pos (by rw [q1])]
    · rw [if_neg (by rw [nI_eq (by omega) (by omega)]; exact q1)]
      by_cases q2 : bt (M_over σ e) b = true
      · refine ⟨k, by omega, ⟨e, he, et, Or.inr q2⟩, ?_⟩
        rw [if_pos q2]; rfl
      · have hne : k ≠ k0 := by
          rintro rfl
          obtain ⟨e2, _, et2, q3⟩ := h3
          rw [et] at et2
          rw [nI_eq (by omega) (by omega)] at et2
          subst et2
          rcases q3 with q3 | q3
          · exact q1 q3
          · exact q2 q3
        obtain ⟨k1, p1, p2, p3⟩ := ih (k + 1) k0 (by omega) h2 h3 (by omega)
        refine ⟨k1, p1, p2, ?_⟩
        rw [if_neg q2, ← p3, ← nI_1]; rfl
theorem s_M_climb_38 (h : kMC σ n t) {b : Nat} (hb : b < n) (P : Nat → Int32 → Int32 → Prop)
    (hP : ∀ (c k e : Nat) (hh gg : Int32), c < n → e < c → M_directTo σ (30 * c + k) = nI e → kArg t (M_generic σ e) (M_generic σ c) (M_directArg σ (30 * c + k)) → P c hh gg → P e (if M_directArg σ (30 * c + k) = -2 then hh else if M_directArg σ (30 * c + k) = -1 then 0 else 1) (if M_directArg σ (30 * c + k) = -2 then gg else M_directArg σ (30 * c + k))) :
    ∀ (f c : Nat) (hh gg : Int32), c < n → c < f → (c = b ∨ bt (M_over σ c) b = true) → P c hh gg → k_ok (f_M_climb_38 f (mF σ 1 hh gg) (nI b) (nI c)) (fun r => ∃ h' g', r.2 = mF σ 1 h' g' ∧ P b h' g') := by
  have hn := h.2.2.1
  intro f
  induction f with
  | zero => intro c hh gg h1 h2; omega
  | succ f ih =>
    intro c hh gg h1 h2 h3 h4
    rw [f_M_climb_38]
    unfold f_M_climb_38_s
    refine k_if (fun q => absurd q (by decide : ¬ (1 : Int32) = 0)) (fun _ => ?_)
    refine k_if (fun q => ?_) (fun q => ?_)
    · rw [nI_eq (by omega) (by omega)] at q
      subst q
      exact k_some ⟨hh, gg, rfl, h4⟩
    · rw [nI_eq (by omega) (by omega)] at q
      rcases h3 with h3 | h3
      · exact absurd h3 q
      · obtain ⟨_, d, d1, d2, d3, d4, d5, d6⟩ := h.2.2.2.2 c h1
        obtain ⟨k0, e0, p1, p2, p3, p4⟩ := (d6 b (by omega)).mp h3
        obtain ⟨k1, r1, ⟨e, r2, r3, r4⟩, r5⟩ := s_M_climb_55 (σ := mF σ 1 hh gg) h h1 hb d1 (fun k hk => by obtain ⟨e, q1, q2, _⟩ := d4 k hk; exact ⟨e, q1, q2⟩) (f_M_climb_38 f) 1000 0 k0 (by omega) p1 ⟨e0, p2, p3, p4⟩ (by omega)
        have r5' : f_M_climb_55 (f_M_climb_38 f) 1000 (mF σ 1 hh gg) (nI b) (nI c) 0 = f_M_climb_101 (f_M_climb_38 f) (mF σ 1 hh gg) (nI b) (nI c) (nI k1) := r5
        rw [r5']
        replace r3 : M_directTo σ (30 * c + k1) = nI e := r3
        replace r4 : e = b ∨ bt (M_over σ e) b = true := r4
        obtain ⟨e', s1, s2, s3⟩ := d4 k1 r1
        have ee : e' = e := by
          rw [r3] at s2
          rw [nI_eq (by omega) (by omega)] at s2
          exact s2.symm
        subst ee
        have ix : ¬ ((30 * nI c + nI k1) < 0 ∨ 900 ≤ (30 * nI c + nI k1).toNatClampNeg) := by
          rw [k_30ix]; exact nI_in (by omega) (by decide)
        have cl : (30 * nI c + nI k1).toNatClampNeg = 30 * c + k1 := by rw [k_30ix]; exact nI_clamp (by omega)
        have hnext := hP c k1 e' hh gg h1 r2 r3 s3 h4
        have k144 : ∀ (hh' gg' : Int32), P e' hh' gg' → k_ok (f_M_climb_144 (f_M_climb_38 f) (mF σ 1 hh' gg') (nI b) (nI c) (nI k1)) (fun r => ∃ h' g', r.2 = mF σ 1 h' g' ∧ P b h' g') := by
          intro hh' gg' hp
          unfold f_M_climb_144
          refine k_guard ix ?_
          rw [cl, show M_directTo (mF σ 1 hh' gg') (30 * c + k1) = nI e' from r3]
          exact ih e' hh' gg' (by omega) (by omega) r4 hp
        unfold f_M_climb_101 f_M_climb_135
        refine k_guard ix ?_
        rw [cl]
        refine k_if (fun q1 => ?_) (fun q1 => ?_)
        · replace q1 : M_directArg σ (30 * c + k1) = -2 := q1
          rw [if_pos q1, if_pos q1] at hnext
          exact k144 hh gg hnext
        · replace q1 : ¬ M_directArg σ (30 * c + k1) = -2 := q1
          rw [if_neg q1, if_neg q1] at hnext
          refine k_if (fun q2 => ?_) (fun q2 => ?_)
          · replace q2 : M_directArg σ (30 * c + k1) = -1 := q2
            rw [if_pos q2] at hnext
            exact k144 0 _ hnext
          · replace q2 : ¬ M_directArg σ (30 * c + k1) = -1 := q2
            rw [if_neg q2] at hnext
            exact k144 1 _ hnext
theorem s_M_climb (h : kMC σ n t) {c b : Nat} (hc : c < n) (hb : b < n) (P : Nat → Int32 → Int32 → Prop)
    (hP : ∀ (c k e : Nat) (hh gg : Int32), c < n → e < c → M_directTo σ (30 * c + k) = nI e → kArg t (M_generic σ e) (M_generic σ c) (M_directArg σ (30 * c + k)) → P c hh gg → P e (if M_directArg σ (30 * c + k) = -2 then hh else if M_directArg σ (30 * c + k) = -1 then 0 else 1) (if M_directArg σ (30 * c + k) = -2 then gg else M_directArg σ (30 * c + k)))
    {hh gg : Int32} (h0 : P c hh gg) : k_ok (f_M_climb σ (nI c) hh gg (nI b)) (fun r => ∃ a h' g', r.2 = mF σ a h' g' ∧ (a = 0 ∨ a = 1) ∧ (a = 1 → P b h' g') ∧ (a = 1 ↔ (c = b ∨ bt (M_over σ c) b = true))) := by
  have hn := h.2.2.1
  have k17 : (c = b ∨ bt (M_over σ c) b = true) → k_ok (f_M_climb_22 σ (nI c) hh gg (nI b) 1) (fun r => ∃ a h' g', r.2 = mF σ a h' g' ∧ (a = 0 ∨ a = 1) ∧ (a = 1 → P b h' g') ∧ (a = 1 ↔ (c = b ∨ bt (M_over σ c) b = true))) := by
    intro hq
    unfold f_M_climb_22
    refine k_guard (by decide) ?_
    refine k_mono (s_M_climb_38 h hb P hP 1000 c hh gg hc (by omega) hq h0) ?_
    rintro r ⟨h', g', e1, e2⟩
    exact ⟨1, h', g', e1, Or.inr rfl, fun _ => e2, fun _ => hq, fun _ => rfl⟩
  unfold f_M_climb f_M_climb_17
  refine k_if (fun q => ?_) (fun q => ?_)
  · rw [nI_eq (by omega) (by omega)] at q
    exact k17 (Or.inl q)
  · rw [s_M_under (by omega) (by omega)]
    show k_ok (if (if bt (M_over σ c) b = true then (1 : Int32) else 0) = 0 then f_M_climb_22 σ (nI c) hh gg (nI b) 0 else f_M_climb_22 σ (nI c) hh gg (nI b) 1) _
    by_cases q2 : bt (M_over σ c) b = true
    · rw [if_pos q2]
      rw [if_neg (by decide : ¬ (1 : Int32) = 0)]
      exact k17 (Or.inr q2)
    · rw [if_neg q2, if_pos rfl]
      unfold f_M_climb_22
      refine k_guard (by decide) ?_
      refine k_some ⟨0, hh, gg, rfl, Or.inl rfl, fun q => absurd q (by decide), fun q => absurd q (by decide), fun w => ?_⟩
      rcases w with w | w
      · exact absurd (by rw [w]) q
      · exact absurd w q2
theorem kOwn_step {σ : StM} (ht : t ≤ 300) (c k e : Nat) (hh gg : Int32) (hk : kArg t (M_generic σ e) (M_generic σ c) (M_directArg σ (30 * c + k))) (ho : kOwn t (M_generic σ c) hh gg) : kOwn t (M_generic σ e) (if M_directArg σ (30 * c + k) = -2 then hh else if M_directArg σ (30 * c + k) = -1 then 0 else 1) (if M_directArg σ (30 * c + k) = -2 then gg else M_directArg σ (30 * c + k)) := by
  rcases hk with ⟨q1, q2⟩ | ⟨q1, ⟨x, hx, hx2, q2⟩ | ⟨q2, q3⟩⟩
  · rw [q2, if_neg (by decide), if_pos rfl, if_neg (by decide)]
    exact Or.inl ⟨q1, rfl, rfl⟩
  · have n2 : ¬ M_directArg σ (30 * c + k) = -2 := by rw [q2]; exact k_ne2 (by omega)
    have n1 : ¬ M_directArg σ (30 * c + k) = -1 := by rw [q2]; exact k_ne1 (by omega)
    rw [if_neg n2, if_neg n1, if_neg n2]
    exact Or.inr ⟨q1, Or.inl rfl, x, hx, hx2, q2⟩
  · rw [if_pos q2, if_pos q2]
    rcases ho with ⟨w1, _, _⟩ | ⟨_, w2, w3⟩
    · rw [w1] at q3; exact absurd q3 (by decide)
    · exact Or.inr ⟨q1, w2, w3⟩
/-- a LOOK at class b in type i (no primitive) finds it -/
def kSees (σ : StM) (i b : Nat) : Prop := (M_kind σ i = 2 ∧ b < 3) ∨ ∃ k m p c, M_partCount σ i = nI m ∧ m ≤ 30 ∧ k < m ∧ M_partRow σ (30 * i + k) = nI p ∧ p ≤ i ∧ M_classOf σ p = nI c ∧ c < 30 ∧ (c = b ∨ bt (M_over σ c) b = true)
def kBox (i : Nat) : Nat := if i < 8 then i + 8 else i
/-- what a LOOK at class b leaves in the state -/
def kFd (σ : StM) (t i b : Nat) (r : Int32 × StM) : Prop := ∃ a h g, r.2 = mF σ a h g ∧ (a = 0 ∨ a = 1) ∧ (a = 1 → kOwn t (M_generic σ b) h g) ∧ (a = 1 ↔ kSees σ i b)
theorem s_M_lookAt_57 (h : kM σ n t) {i b : Nat} (hi : i < t) (hb : b < n) {m : Nat} (hm : m ≤ 30) (hc : M_partCount σ i = nI m) (hp : ∀ k, k < m → ∃ p, 8 ≤ p ∧ p ≤ i ∧ M_partRow σ (30 * i + k) = nI p ∧ M_kind σ p = 1) :
    ∀ (f k : Nat) (a hh gg : Int32), k ≤ m → m < f + k → (a = 0 ∨ a = 1) → (a = 1 → kOwn t (M_generic σ b) hh gg) → (a = 1 → kSees σ i b) → (a = 0 → ¬ (M_kind σ i = 2 ∧ b < 3) ∧ ∀ k' p c, k' < k → M_partRow σ (30 * i + k') = nI p → p ≤ i → M_classOf σ p = nI c → c < 30 → ¬ (c = b ∨ bt (M_over σ c) b = true)) → k_ok (f_M_lookAt_57 f (mF σ a hh gg) (nI b) (nI i) (nI k)) (kFd σ t i b) := by
  have ht := h.2.2.2.1
  have hn := h.1.2.2.1
  intro f
  induction f with
  | zero => intro k a hh gg h1 h2; omega
  | succ f ih =>
    intro k a hh gg h1 h2 h3 h4 h41 h40
    rw [f_M_lookAt_57]
    unfold f_M_lookAt_57_s
    refine k_guard (nI_in (by omega) (by decide)) ?_
    rw [nI_clamp (show i < 2 ^ 31 by omega), show M_partCount (mF σ a hh gg) i = nI m from hc]
    refine k_if (fun h5 => ?_) (fun h5 => ?_)
    · rw [nI_leI (by omega) (by omega)] at h5
      refine k_some ⟨a, hh, gg, rfl, h3, h4, h41, fun w => ?_⟩
      rcases h3 with h3 | h3
      · exfalso
        obtain ⟨q1, q2⟩ := h40 h3
        rcases w with w | ⟨k', m', p, c, w1, w2, w3, w4, w5, w6, w7, w8⟩
        · exact q1 w
        · rw [hc, nI_eq (by omega) (by omega)] at w1
          exact q2 k' p c (by omega) w4 w5 w6 w7 w8
      · exact h3
    rw [nI_leI (by omega) (by omega)] at h5
    refine k_if (fun h6 => ?_) (fun h6 => ?_)
    · replace h6 : a = 0 := h6
      obtain ⟨p, p1, p2, p3, p4⟩ := hp k (by omega)
      obtain ⟨c, c1, c2, c3⟩ := kTyp_named h.2.2 (show p < t by omega) p4
      have cl : (30 * nI i + nI k).toNatClampNeg = 30 * i + k := by rw [k_30ix]; exact nI_clamp (by omega)
      have ix : ¬ ((30 * nI i + nI k) < 0 ∨ 9000 ≤ (30 * nI i + nI k).toNatClampNeg) := by
        rw [k_30ix]; exact nI_in (by omega) (by decide)
      have ip : ¬ (nI p < 0 ∨ 300 ≤ (nI p).toNatClampNeg) := nI_in (by omega) (by decide)
      refine k_guard ix ?_
      rw [cl, show M_partRow (mF σ a hh gg) (30 * i + k) = nI p from p3]
      refine k_guard ip (k_guard ip (k_guard ip ?_))
      rw [nI_clamp (show p < 2 ^ 31 by omega), show M_classOf (mF σ a hh gg) p = nI c from c2]
      refine k_bind (s_M_climb (σ := mF σ a hh gg) h.1 c1 hb (fun c h g => kOwn t (M_generic σ c) h g) (fun c k e hh gg _ _ _ hk ho => kOwn_step ht c k e hh gg hk ho) (kOwn_mono c3 (by omega))) ?_
      rintro ⟨v, τ⟩ ⟨a', h', g', e1, e2, e3, e4⟩
      replace e1 : τ = mF σ a' h' g' := e1
      subst e1
      replace e4 : a' = 1 ↔ (c = b ∨ bt (M_over σ c) b = true) := e4
      rw [nI_1]
      refine ih (k + 1) a' h' g' (by omega) (by omega) e2 e3 (fun w => ?_) (fun w => ?_)
      · exact Or.inr ⟨k, m, p, c, hc, hm, by omega, p3, p2, c2, by omega, e4.mp w⟩
      · refine ⟨(h40 h6).1, ?_⟩
        intro k' p' c' q1 q2 q3 q4 q5 q6
        by_cases ek : k' = k
        · subst ek
          rw [p3] at q2
          rw [nI_eq (by omega) (by omega)] at q2
          subst q2
          rw [c2] at q4
          rw [nI_eq (by omega) (by omega)] at q4
          subst q4
          have w1 := e4.mpr q6
          rw [w] at w1
          exact absurd w1 (by decide)
        · exact (h40 h6).2 k' p' c' (by omega) q2 q3 q4 q5 q6
    · replace h6 : ¬ a = 0 := h6
      have ha : a = 1 := by
        rcases h3 with h3 | h3
        · exact absurd h3 h6
        · exact h3
      exact k_some ⟨a, hh, gg, rfl, h3, h4, h41, fun _ => ha⟩
theorem s_M_lookAt_14 (h : kM σ n t) {i b : Nat} (h8 : 8 ≤ i) (hi : i < t) (hb : b < n) : k_ok (f_M_lookAt_14 σ (nI b) (nI i)) (kFd σ t i b) := by
  have ht := h.2.2.2.1
  have hn := h.1.2.2.1
  obtain ⟨m, m1, m2, m3⟩ := kTyp_part h.2.2 hi
  have m3' : ∀ k, k < m → ∃ p, 8 ≤ p ∧ p ≤ i ∧ M_partRow σ (30 * i + k) = nI p ∧ M_kind σ p = 1 := m3
  have go : ∀ a hh gg : Int32, (a = 0 ∨ a = 1) → (a = 1 → kOwn t (M_generic σ b) hh gg) → (a = 1 → kSees σ i b) → (a = 0 → ¬ (M_kind σ i = 2 ∧ b < 3)) → k_ok (f_M_lookAt_57 1000 (mF σ a hh gg) (nI b) (nI i) 0) (kFd σ t i b) := by
    intro a hh gg q1 q2 q3 q4
    exact s_M_lookAt_57 h hi hb m1 m2 m3' 1000 0 a hh gg (by omega) (by omega) q1 q2 q3 (fun w => ⟨q4 w, fun k' p c hk => by omega⟩)
  unfold f_M_lookAt_14
  refine k_guard (nI_in (by omega) (by decide)) ?_
  refine k_if (fun w => ?_) (fun w => ?_)
  · rw [nI_clamp (show i < 2 ^ 31 by omega)] at w
    replace w : M_kind σ i = 2 := w
    refine k_if (fun q => ?_) (fun q => ?_)
    · unfold f_M_lookAt_41
      refine k_guard (by decide) ?_
      have q2 : nI 3 ≤ nI b := q
      rw [nI_leI (by decide) (by omega)] at q2
      exact go 0 0 (-1) (Or.inl rfl) (fun q => absurd q (by decide)) (fun q => absurd q (by decide)) (fun _ z => by omega)
    · unfold f_M_lookAt_41
      refine k_guard (by decide) ?_
      have q2 : ¬ nI 3 ≤ nI b := q
      rw [nI_leI (by decide) (by omega)] at q2
      exact go 1 0 (-1) (Or.inr rfl) (fun _ => Or.inl ⟨h.1.2.2.2.1 b (by omega), rfl, rfl⟩) (fun _ => Or.inl ⟨w, by omega⟩) (fun q => absurd q (by decide))
  · rw [nI_clamp (show i < 2 ^ 31 by omega)] at w
    exact go 0 (M_foundHow σ) (M_foundType σ) (Or.inl rfl) (fun q => absurd q (by decide)) (fun q => absurd q (by decide)) (fun _ z => w z.1)
theorem s_M_lookAt (h : kM σ n t) {i b : Nat} (hi : i < t) (hb : b < n) : k_ok (f_M_lookAt σ (nI i) (nI b)) (kFd σ t (kBox i) b) := by
  have ht := h.2.2.2.1
  have ht2 := h.2.2.1
  unfold f_M_lookAt
  refine k_if (fun q => ?_) (fun q => ?_)
  · have q2 : nI 8 ≤ nI i := q
    rw [nI_leI (by decide) (by omega)] at q2
    rw [show kBox i = i from if_neg (by omega)]
    exact s_M_lookAt_14 h q2 hi hb
  · have q2 : ¬ nI 8 ≤ nI i := q
    rw [nI_leI (by decide) (by omega)] at q2
    have e : nI i + 8 = nI (i + 8) := nI_add i 8
    rw [e, show kBox i = i + 8 from if_pos (by omega)]
    exact s_M_lookAt_14 h (by omega) (by omega) hb
end
