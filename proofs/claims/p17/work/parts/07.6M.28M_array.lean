def f_M_array_14 (σ : StM) (x1 t1 : Int32) : Option (Int32 × StM) :=
  (f_M_good σ t1).bind fun r1 =>
  if r1.1 = 0 then
    some (0, r1.2)
  else
    (f_M_addArray r1.2 x1).bind fun r2 =>
    (f_M_end r2.2 (M_types r1.2) r2.1 2).bind fun r3 =>
    some (r3.1, r3.2)
def f_M_array (σ : StM) (x1 : Int32) : Option (Int32 × StM) :=
  if (f_M_isType σ x1) = 0 then
    f_M_array_14 σ x1 1
  else
    f_M_array_14 σ x1 0
set_option maxHeartbeats 4000000 in
set_option maxRecDepth 100000 in
theorem t_M_array_14 {p : Program} {l : Launch} {e : Env} {s : State} {m : MethodId} {args : Array Value} {below : List Frame} {meth : Method} {c : Code} {D : va_G} {cI cZ : ClassId} {a : Nat → Nat} {A : Nat → Prop} (C0 : Am p s m args meth c b_M_array (some .int) 3 R_M D [(cI, .int), (cZ, .boolean)]) (hA : ∀ q, s.heap.size ≤ q → A q) {res : Int32 × StM}   {q : Nat} {σ : StM} {x1 t1 : Int32} (h : f_M_array_14 σ x1 t1 = some res) {H : Heap} {locs : List Loc} (hP : va_P D vwCl (wM cI cZ a q σ) H) (hD : va_D A (wM cI cZ a q σ)) (hS : va_S A s.heap H locs) {ls : Array Slot} (hl : lv_has ls 3 [(0, .ref (a 20)), (1, .int x1)]) : W p l e (rmK 2 46 0 0) s m args below meth c H locs 0 0 (RwQ below args s D A (fun q (σ : StM) => (wM cI cZ a q σ)) res 0 0) (F0 m 14 ls [.int t1, .ref (a 20)]) := by
  obtain ⟨hx, hb, hr, hml, hown, hts, hlk, hK⟩ := id C0
  unfold f_M_array_14 at h
  replace h := bd h
  obtain ⟨r1, g1, h⟩ := h
  refine rw_V (n := 1) (ci := 4) (As := [.int t1]) (rest := []) (Wn := fun _ => (wM cI cZ a q r1.2)) C0 hA (c_M_good l D cI cZ a q σ t1 g1) wd_388 ⟨wd_389, wd_390, wd_391, wd_352⟩ (by decide +kernel) ⟨Nat.le_of_ble_eq_true rfl, Nat.le_of_ble_eq_true rfl⟩ hP hD hS [0, 1, 2, 3, 4, 5, 6, 7, 8, 9, 10, 11, 12, 13, 14, 15, 16, 17, 18, 19, 20, 21, 22, 23] [] [0, 1, 2, 3, 4, 5, 6, 7, 8, 9, 10, 11, 12, 13, 14, 15, 16, 17, 18, 19, 20, 21, 22, 23] jn_M__C (by decide) jn_M__R (by decide) (by decide) (by decide) jn_M__W rfl rfl rfl hl rfl rfl (Nat.le_of_ble_eq_true rfl) ⟨Nat.zero_le _, Nat.zero_le _⟩ d_M_array_14 (fun H locs _ hP hD hS => ?_)
  try dsimp only at h
  refine lv_if_ne (tgt := 22) hx hb d_M_array_17 (by decide) (fun hc => ?_) (fun hc => ?_)
  · rw [if_neg hc] at h
    refine lv_aload_n hx hb d_M_array_22 rfl (lv_at hl 0 rfl) ?_
    refine va_get (ci := 4) (v := .int (M_types r1.2)) (C := R_M) (T := F_M) (N := 35) hx hb hts i_M hown hK.1 hP 0 rfl rfl 10 (by decide) (hts _ wd_344) (fun _ h9 => h9) rfl d_M_array_23 ?_
    refine lv_istore_n (lv' := [(2, .int (M_types r1.2)), (0, .ref (a 20)), (1, .int x1)]) hx hb d_M_array_26 rfl hl (by decide) rfl (fun ls hl => ?_)
    refine lv_aload_n hx hb d_M_array_27 rfl (lv_at hl 1 rfl) ?_
    refine lv_iload_n hx hb d_M_array_28 rfl (lv_at hl 0 rfl) ?_
    refine lv_aload_n hx hb d_M_array_29 rfl (lv_at hl 1 rfl) ?_
    refine lv_iload_n hx hb d_M_array_30 rfl (lv_at hl 2 rfl) ?_
    replace h := bd h
    obtain ⟨r2, g2, h⟩ := h
    refine rw_V (n := 1) (ci := 4) (As := [.int x1]) (rest := [.int (M_types r1.2), .ref (a 20)]) (Wn := fun _ => (wM cI cZ a q r2.2)) C0 hA (c_M_addArray l D cI cZ a q r1.2 x1 g2) wd_431 ⟨wd_432, wd_433, wd_434, wd_352⟩ (by decide +kernel) ⟨Nat.le_of_ble_eq_true rfl, Nat.le_of_ble_eq_true rfl⟩ hP hD hS [0, 1, 2, 3, 4, 5, 6, 7, 8, 9, 10, 11, 12, 13, 14, 15, 16, 17, 18, 19, 20, 21, 22, 23] [] [0, 1, 2, 3, 4, 5, 6, 7, 8, 9, 10, 11, 12, 13, 14, 15, 16, 17, 18, 19, 20, 21, 22, 23] jn_M__C (by decide) jn_M__R (by decide) (by decide) (by decide) jn_M__W rfl rfl rfl hl rfl rfl (Nat.le_of_ble_eq_true rfl) ⟨Nat.zero_le _, Nat.zero_le _⟩ d_M_array_31 (fun H locs _ hP hD hS => ?_)
    try dsimp only at h
    refine lv_iconst (v := 2) hx hb d_M_array_34 (by decide) ?_
    replace h := bd h
    obtain ⟨r3, g3, h⟩ := h
    refine rw_V (n := 3) (ci := 4) (As := [.int (M_types r1.2), .int r2.1, .int 2]) (rest := []) (Wn := fun _ => (wM cI cZ a q r3.2)) C0 hA (c_M_end l D cI cZ a q r2.2 (M_types r1.2) r2.1 2 g3) wd_423 ⟨wd_424, wd_425, wd_426, wd_352⟩ (by decide +kernel) ⟨Nat.le_of_ble_eq_true rfl, Nat.le_of_ble_eq_true rfl⟩ hP hD hS [0, 1, 2, 3, 4, 5, 6, 7, 8, 9, 10, 11, 12, 13, 14, 15, 16, 17, 18, 19, 20, 21, 22, 23] [] [0, 1, 2, 3, 4, 5, 6, 7, 8, 9, 10, 11, 12, 13, 14, 15, 16, 17, 18, 19, 20, 21, 22, 23] jn_M__C (by decide) jn_M__R (by decide) (by decide) (by decide) jn_M__W rfl rfl rfl hl rfl rfl (Nat.le_of_ble_eq_true rfl) ⟨Nat.zero_le _, Nat.zero_le _⟩ d_M_array_35 (fun H locs _ hP hD hS => ?_)
    try dsimp only at h
    exact rw_ret C0 hP hD hS (Option.some.inj h) d_M_array_38
  · rw [if_pos hc] at h
    refine lv_iconst (v := 0) hx hb d_M_array_20 (by decide) ?_
    exact rw_ret C0 hP hD hS (Option.some.inj h) d_M_array_21
set_option maxHeartbeats 4000000 in
set_option maxRecDepth 100000 in
theorem t_M_array_0 {p : Program} {l : Launch} {e : Env} {s : State} {m : MethodId} {args : Array Value} {below : List Frame} {meth : Method} {c : Code} {D : va_G} {cI cZ : ClassId} {a : Nat → Nat} {A : Nat → Prop} (C0 : Am p s m args meth c b_M_array (some .int) 3 R_M D [(cI, .int), (cZ, .boolean)]) (hA : ∀ q, s.heap.size ≤ q → A q) {res : Int32 × StM}   {q : Nat} {σ : StM} {x1 : Int32} (h : f_M_array σ x1 = some res) {H : Heap} {locs : List Loc} (hP : va_P D vwCl (wM cI cZ a q σ) H) (hD : va_D A (wM cI cZ a q σ)) (hS : va_S A s.heap H locs) {ls : Array Slot} (hl : lv_has ls 3 [(0, .ref (a 20)), (1, .int x1)]) : W p l e (rmK 2 46 0 0) s m args below meth c H locs 0 0 (RwQ below args s D A (fun q (σ : StM) => (wM cI cZ a q σ)) res 0 0) (F0 m 0 ls []) := by
  obtain ⟨hx, hb, hr, hml, hown, hts, hlk, hK⟩ := id C0
  unfold f_M_array at h
  refine lv_aload_n hx hb d_M_array_0 rfl (lv_at hl 0 rfl) ?_
  refine lv_aload_n hx hb d_M_array_1 rfl (lv_at hl 0 rfl) ?_
  refine lv_iload_n hx hb d_M_array_2 rfl (lv_at hl 1 rfl) ?_
  refine ro_V (n := 1) (ci := 4) (As := [.int x1]) (rest := [.ref (a 20)]) C0 (c_M_isType l D cI cZ a q σ x1 rfl) wd_427 ⟨wd_428, wd_429, wd_430, wd_352⟩ (by decide +kernel) ⟨Nat.le_of_ble_eq_true rfl, Nat.le_of_ble_eq_true rfl⟩ hP rfl rfl rfl hl rfl rfl (Nat.le_of_ble_eq_true rfl) ⟨Nat.zero_le _, Nat.zero_le _⟩ d_M_array_3 ?_
  refine lv_if_eq (tgt := 13) hx hb d_M_array_6 (by decide) (fun hc => ?_) (fun hc => ?_)
  · rw [if_pos hc] at h
    refine lv_iconst (v := 1) hx hb d_M_array_13 (by decide) ?_
    exact t_M_array_14 (a := a) C0 hA  h hP hD hS (lv_sub hl [0, 1] rfl)
  · rw [if_neg hc] at h
    refine lv_iconst (v := 0) hx hb d_M_array_9 (by decide) ?_
    refine lv_goto (tgt := 14) hx hb d_M_array_10 (by decide) ?_
    exact t_M_array_14 (a := a) C0 hA  h hP hD hS (lv_sub hl [0, 1] rfl)
set_option maxHeartbeats 4000000 in
set_option maxRecDepth 100000 in
theorem c_M_array (l : Launch) (D : va_G) (cI cZ : ClassId) (a : Nat → Nat) (q : Nat) (σ : StM) (x1 : Int32) {res : Int32 × StM} (h : f_M_array σ x1 = some res) : RwM l y_M_array b_M_array 3 (some .int) 2 46 D [(cI, .int), (cZ, .boolean)] [.ref (a 20), .int x1] (fun q (σ : StM) => (wM cI cZ a q σ)) q σ res :=
  rw_of (by decide) (Nat.le_of_ble_eq_true rfl) (fun p e s m args below meth c ls A C0 hA hP hD hS hl => t_M_array_0 (a := a) C0 hA h hP hD hS (lv_sub hl [0, 1] rfl))
