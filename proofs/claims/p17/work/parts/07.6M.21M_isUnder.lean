def f_M_isUnder_22 (σ : StM) (x1 x2 t1 : Int32) : Option (Int32 × StM) :=
  (f_M_good σ t1).bind fun r1 =>
  if r1.1 = 0 then
    some (0, r1.2)
  else
    (f_M_under r1.2 x1 x2).bind fun r2 =>
    if r2 = 0 then
      some (0, r1.2)
    else
      some (1, r1.2)
def f_M_isUnder_21 (σ : StM) (x1 x2 : Int32) : Option (Int32 × StM) :=
  f_M_isUnder_22 σ x1 x2 1
def f_M_isUnder (σ : StM) (x1 x2 : Int32) : Option (Int32 × StM) :=
  if (f_M_isClass σ x1) = 0 then
    f_M_isUnder_21 σ x1 x2
  else
    if (f_M_isClass σ x2) = 0 then
      f_M_isUnder_21 σ x1 x2
    else
      f_M_isUnder_22 σ x1 x2 0
set_option maxHeartbeats 4000000 in
set_option maxRecDepth 100000 in
theorem t_M_isUnder_22 {p : Program} {l : Launch} {e : Env} {s : State} {m : MethodId} {args : Array Value} {below : List Frame} {meth : Method} {c : Code} {D : va_G} {cI cZ : ClassId} {a : Nat → Nat} {A : Nat → Prop} (C0 : Am p s m args meth c b_M_isUnder (some .boolean) 3 R_M D [(cI, .int), (cZ, .boolean)]) (hA : ∀ q, s.heap.size ≤ q → A q) {res : Int32 × StM}   {q : Nat} {σ : StM} {x1 x2 t1 : Int32} (h : f_M_isUnder_22 σ x1 x2 t1 = some res) {H : Heap} {locs : List Loc} (hP : va_P D vwCl (wM cI cZ a q σ) H) (hD : va_D A (wM cI cZ a q σ)) (hS : va_S A s.heap H locs) {ls : Array Slot} (hl : lv_has ls 3 [(0, .ref (a 20)), (1, .int x1), (2, .int x2)]) : W p l e (rmK 1 22 0 0) s m args below meth c H locs 0 0 (RwQ below args s D A (fun q (σ : StM) => (wM cI cZ a q σ)) res 0 0) (F0 m 22 ls [.int t1, .ref (a 20)]) := by
  obtain ⟨hx, hb, hr, hml, hown, hts, hlk, hK⟩ := id C0
  unfold f_M_isUnder_22 at h
  replace h := bd h
  obtain ⟨r1, g1, h⟩ := h
  refine rw_V (n := 1) (ci := 4) (As := [.int t1]) (rest := []) (Wn := fun _ => (wM cI cZ a q r1.2)) C0 hA (c_M_good l D cI cZ a q σ t1 g1) wd_388 ⟨wd_389, wd_390, wd_391, wd_352⟩ (by decide +kernel) ⟨Nat.le_of_ble_eq_true rfl, Nat.le_of_ble_eq_true rfl⟩ hP hD hS [0, 1, 2, 3, 4, 5, 6, 7, 8, 9, 10, 11, 12, 13, 14, 15, 16, 17, 18, 19, 20, 21, 22, 23] [] [0, 1, 2, 3, 4, 5, 6, 7, 8, 9, 10, 11, 12, 13, 14, 15, 16, 17, 18, 19, 20, 21, 22, 23] jn_M__C (by decide) jn_M__R (by decide) (by decide) (by decide) jn_M__W rfl rfl rfl hl rfl rfl (Nat.le_of_ble_eq_true rfl) ⟨Nat.zero_le _, Nat.zero_le _⟩ d_M_isUnder_22 (fun H locs _ hP hD hS => ?_)
  try dsimp only at h
  refine lv_if_eq (tgt := 41) hx hb d_M_isUnder_25 (by decide) (fun hc => ?_) (fun hc => ?_)
  · rw [if_pos hc] at h
    refine lv_iconst (v := 0) hx hb d_M_isUnder_41 (by decide) ?_
    exact rw_retz C0 hP hD hS (by decide) (Option.some.inj h) d_M_isUnder_42
  · rw [if_neg hc] at h
    refine lv_aload_n hx hb d_M_isUnder_28 rfl (lv_at hl 0 rfl) ?_
    refine lv_iload_n hx hb d_M_isUnder_29 rfl (lv_at hl 1 rfl) ?_
    refine lv_iload_n hx hb d_M_isUnder_30 rfl (lv_at hl 2 rfl) ?_
    replace h := bd h
    obtain ⟨r2, g2, h⟩ := h
    refine ro_V (n := 2) (ci := 4) (As := [.int x1, .int x2]) (rest := []) C0 (c_M_under l D cI cZ a q r1.2 x1 x2 g2) wd_348 ⟨wd_349, wd_350, wd_351, wd_352⟩ (by decide +kernel) ⟨Nat.le_of_ble_eq_true rfl, Nat.le_of_ble_eq_true rfl⟩ hP rfl rfl rfl hl rfl rfl (Nat.le_of_ble_eq_true rfl) ⟨Nat.zero_le _, Nat.zero_le _⟩ d_M_isUnder_31 ?_
    try dsimp only at h
    refine lv_if_eq (tgt := 41) hx hb d_M_isUnder_34 (by decide) (fun hc => ?_) (fun hc => ?_)
    · rw [if_pos hc] at h
      refine lv_iconst (v := 0) hx hb d_M_isUnder_41 (by decide) ?_
      exact rw_retz C0 hP hD hS (by decide) (Option.some.inj h) d_M_isUnder_42
    · rw [if_neg hc] at h
      refine lv_iconst (v := 1) hx hb d_M_isUnder_37 (by decide) ?_
      refine lv_goto (tgt := 42) hx hb d_M_isUnder_38 (by decide) ?_
      exact rw_retz C0 hP hD hS (by decide) (Option.some.inj h) d_M_isUnder_42
set_option maxHeartbeats 4000000 in
set_option maxRecDepth 100000 in
theorem t_M_isUnder_21 {p : Program} {l : Launch} {e : Env} {s : State} {m : MethodId} {args : Array Value} {below : List Frame} {meth : Method} {c : Code} {D : va_G} {cI cZ : ClassId} {a : Nat → Nat} {A : Nat → Prop} (C0 : Am p s m args meth c b_M_isUnder (some .boolean) 3 R_M D [(cI, .int), (cZ, .boolean)]) (hA : ∀ q, s.heap.size ≤ q → A q) {res : Int32 × StM}   {q : Nat} {σ : StM} {x1 x2 : Int32} (h : f_M_isUnder_21 σ x1 x2 = some res) {H : Heap} {locs : List Loc} (hP : va_P D vwCl (wM cI cZ a q σ) H) (hD : va_D A (wM cI cZ a q σ)) (hS : va_S A s.heap H locs) {ls : Array Slot} (hl : lv_has ls 3 [(0, .ref (a 20)), (1, .int x1), (2, .int x2)]) : W p l e (rmK 1 22 0 0) s m args below meth c H locs 0 0 (RwQ below args s D A (fun q (σ : StM) => (wM cI cZ a q σ)) res 0 0) (F0 m 21 ls [.ref (a 20)]) := by
  obtain ⟨hx, hb, hr, hml, hown, hts, hlk, hK⟩ := id C0
  unfold f_M_isUnder_21 at h
  refine lv_iconst (v := 1) hx hb d_M_isUnder_21 (by decide) ?_
  exact t_M_isUnder_22 (a := a) C0 hA  h hP hD hS (lv_sub hl [0, 1, 2] rfl)
set_option maxHeartbeats 4000000 in
set_option maxRecDepth 100000 in
theorem t_M_isUnder_0 {p : Program} {l : Launch} {e : Env} {s : State} {m : MethodId} {args : Array Value} {below : List Frame} {meth : Method} {c : Code} {D : va_G} {cI cZ : ClassId} {a : Nat → Nat} {A : Nat → Prop} (C0 : Am p s m args meth c b_M_isUnder (some .boolean) 3 R_M D [(cI, .int), (cZ, .boolean)]) (hA : ∀ q, s.heap.size ≤ q → A q) {res : Int32 × StM}   {q : Nat} {σ : StM} {x1 x2 : Int32} (h : f_M_isUnder σ x1 x2 = some res) {H : Heap} {locs : List Loc} (hP : va_P D vwCl (wM cI cZ a q σ) H) (hD : va_D A (wM cI cZ a q σ)) (hS : va_S A s.heap H locs) {ls : Array Slot} (hl : lv_has ls 3 [(0, .ref (a 20)), (1, .int x1), (2, .int x2)]) : W p l e (rmK 1 22 0 0) s m args below meth c H locs 0 0 (RwQ below args s D A (fun q (σ : StM) => (wM cI cZ a q σ)) res 0 0) (F0 m 0 ls []) := by
  obtain ⟨hx, hb, hr, hml, hown, hts, hlk, hK⟩ := id C0
  unfold f_M_isUnder at h
  refine lv_aload_n hx hb d_M_isUnder_0 rfl (lv_at hl 0 rfl) ?_
  refine lv_aload_n hx hb d_M_isUnder_1 rfl (lv_at hl 0 rfl) ?_
  refine lv_iload_n hx hb d_M_isUnder_2 rfl (lv_at hl 1 rfl) ?_
  refine ro_V (n := 1) (ci := 4) (As := [.int x1]) (rest := [.ref (a 20)]) C0 (c_M_isClass l D cI cZ a q σ x1 rfl) wd_403 ⟨wd_404, wd_405, wd_406, wd_352⟩ (by decide +kernel) ⟨Nat.le_of_ble_eq_true rfl, Nat.le_of_ble_eq_true rfl⟩ hP rfl rfl rfl hl rfl rfl (Nat.le_of_ble_eq_true rfl) ⟨Nat.zero_le _, Nat.zero_le _⟩ d_M_isUnder_3 ?_
  refine lv_if_eq (tgt := 21) hx hb d_M_isUnder_6 (by decide) (fun hc => ?_) (fun hc => ?_)
  · rw [if_pos hc] at h
    exact t_M_isUnder_21 (a := a) C0 hA  h hP hD hS (lv_sub hl [0, 1, 2] rfl)
  · rw [if_neg hc] at h
    refine lv_aload_n hx hb d_M_isUnder_9 rfl (lv_at hl 0 rfl) ?_
    refine lv_iload_n hx hb d_M_isUnder_10 rfl (lv_at hl 2 rfl) ?_
    refine ro_V (n := 1) (ci := 4) (As := [.int x2]) (rest := [.ref (a 20)]) C0 (c_M_isClass l D cI cZ a q σ x2 rfl) wd_403 ⟨wd_404, wd_405, wd_406, wd_352⟩ (by decide +kernel) ⟨Nat.le_of_ble_eq_true rfl, Nat.le_of_ble_eq_true rfl⟩ hP rfl rfl rfl hl rfl rfl (Nat.le_of_ble_eq_true rfl) ⟨Nat.zero_le _, Nat.zero_le _⟩ d_M_isUnder_11 ?_
    refine lv_if_eq (tgt := 21) hx hb d_M_isUnder_14 (by decide) (fun hc => ?_) (fun hc => ?_)
    · rw [if_pos hc] at h
      exact t_M_isUnder_21 (a := a) C0 hA  h hP hD hS (lv_sub hl [0, 1, 2] rfl)
    · rw [if_neg hc] at h
      refine lv_iconst (v := 0) hx hb d_M_isUnder_17 (by decide) ?_
      refine lv_goto (tgt := 22) hx hb d_M_isUnder_18 (by decide) ?_
      exact t_M_isUnder_22 (a := a) C0 hA  h hP hD hS (lv_sub hl [0, 1, 2] rfl)
set_option maxHeartbeats 4000000 in
set_option maxRecDepth 100000 in
theorem c_M_isUnder (l : Launch) (D : va_G) (cI cZ : ClassId) (a : Nat → Nat) (q : Nat) (σ : StM) (x1 : Int32) (x2 : Int32) {res : Int32 × StM} (h : f_M_isUnder σ x1 x2 = some res) : RwM l y_M_isUnder b_M_isUnder 3 (some .boolean) 1 22 D [(cI, .int), (cZ, .boolean)] [.ref (a 20), .int x1, .int x2] (fun q (σ : StM) => (wM cI cZ a q σ)) q σ res :=
  rw_of (by decide) (Nat.le_of_ble_eq_true rfl) (fun p e s m args below meth c ls A C0 hA hP hD hS hl => t_M_isUnder_0 (a := a) C0 hA h hP hD hS (lv_sub hl [0, 1, 2] rfl))
