def f_M_look_22 (σ : StM) (x1 x2 t1 : Int32) : Option (Int32 × StM) :=
  (f_M_good σ t1).bind fun r1 =>
  if r1.1 = 0 then
    some (0, r1.2)
  else
    (f_M_lookAt r1.2 x1 x2).bind fun r2 =>
    if (M_found r2.2) = 0 then
      some ((-1), r2.2)
    else
      (f_M_addNamed r2.2 x2 (M_foundHow r2.2) (M_foundType r2.2)).bind fun r3 =>
      (f_M_end r3.2 (M_types r2.2) r3.1 2).bind fun r4 =>
      some (r4.1, r4.2)
def f_M_look_21 (σ : StM) (x1 x2 : Int32) : Option (Int32 × StM) :=
  f_M_look_22 σ x1 x2 1
def f_M_look (σ : StM) (x1 x2 : Int32) : Option (Int32 × StM) :=
  if (f_M_isType σ x1) = 0 then
    f_M_look_21 σ x1 x2
  else
    if (f_M_isClass σ x2) = 0 then
      f_M_look_21 σ x1 x2
    else
      f_M_look_22 σ x1 x2 0
set_option maxHeartbeats 4000000 in
set_option maxRecDepth 100000 in
theorem t_M_look_22 {p : Program} {l : Launch} {e : Env} {s : State} {m : MethodId} {args : Array Value} {below : List Frame} {meth : Method} {c : Code} {D : va_G} {cI cZ : ClassId} {a : Nat → Nat} {A : Nat → Prop} (C0 : Am p s m args meth c b_M_look (some .int) 4 R_M D [(cI, .int), (cZ, .boolean)]) (hA : ∀ q, s.heap.size ≤ q → A q) {res : Int32 × StM}   {q : Nat} {σ : StM} {x1 x2 t1 : Int32} (h : f_M_look_22 σ x1 x2 t1 = some res) {H : Heap} {locs : List Loc} (hP : va_P D vwCl (wM cI cZ a q σ) H) (hD : va_D A (wM cI cZ a q σ)) (hS : va_S A s.heap H locs) {ls : Array Slot} (hl : lv_has ls 4 [(0, .ref (a 20)), (1, .int x1), (2, .int x2)]) : W p l e (rmK 3 74 0 0) s m args below meth c H locs 0 0 (RwQ below args s D A (fun q (σ : StM) => (wM cI cZ a q σ)) res 0 0) (F0 m 22 ls [.int t1, .ref (a 20)]) := by
  obtain ⟨hx, hb, hr, hml, hown, hts, hlk, hK⟩ := id C0
  unfold f_M_look_22 at h
  replace h := bd h
  obtain ⟨r1, g1, h⟩ := h
  refine rw_V (n := 1) (ci := 4) (As := [.int t1]) (rest := []) (Wn := fun _ => (wM cI cZ a q r1.2)) C0 hA (c_M_good l D cI cZ a q σ t1 g1) wd_388 ⟨wd_389, wd_390, wd_391, wd_352⟩ (by decide +kernel) ⟨Nat.le_of_ble_eq_true rfl, Nat.le_of_ble_eq_true rfl⟩ hP hD hS [0, 1, 2, 3, 4, 5, 6, 7, 8, 9, 10, 11, 12, 13, 14, 15, 16, 17, 18, 19, 20, 21, 22, 23] [] [0, 1, 2, 3, 4, 5, 6, 7, 8, 9, 10, 11, 12, 13, 14, 15, 16, 17, 18, 19, 20, 21, 22, 23] jn_M__C (by decide) jn_M__R (by decide) (by decide) (by decide) jn_M__W rfl rfl rfl hl rfl rfl (Nat.le_of_ble_eq_true rfl) ⟨Nat.zero_le _, Nat.zero_le _⟩ d_M_look_22 (fun H locs _ hP hD hS => ?_)
  try dsimp only at h
  refine lv_if_ne (tgt := 30) hx hb d_M_look_25 (by decide) (fun hc => ?_) (fun hc => ?_)
  · rw [if_neg hc] at h
    refine lv_aload_n hx hb d_M_look_30 rfl (lv_at hl 0 rfl) ?_
    refine lv_iload_n hx hb d_M_look_31 rfl (lv_at hl 1 rfl) ?_
    refine lv_iload_n hx hb d_M_look_32 rfl (lv_at hl 2 rfl) ?_
    replace h := bd h
    obtain ⟨r2, g2, h⟩ := h
    refine rw_Vv (n := 2) (ci := 4) (As := [.int x1, .int x2]) (rest := []) (Wn := fun _ => (wM cI cZ a q r2.2)) C0 hA (c_M_lookAt l D cI cZ a q r1.2 x1 x2 g2) wd_371 ⟨wd_372, wd_373, wd_374, wd_352⟩ (by decide +kernel) ⟨Nat.le_of_ble_eq_true rfl, Nat.le_of_ble_eq_true rfl⟩ hP hD hS [0, 1, 2, 3, 4, 5, 6, 7, 8, 9, 10, 11, 12, 13, 14, 15, 16, 17, 18, 19, 20, 21, 22, 23] [] [0, 1, 2, 3, 4, 5, 6, 7, 8, 9, 10, 11, 12, 13, 14, 15, 16, 17, 18, 19, 20, 21, 22, 23] jn_M__C (by decide) jn_M__R (by decide) (by decide) (by decide) jn_M__W rfl rfl rfl hl rfl rfl (Nat.le_of_ble_eq_true rfl) ⟨Nat.zero_le _, Nat.zero_le _⟩ d_M_look_33 (fun H locs _ hP hD hS => ?_)
    try dsimp only at h
    refine lv_aload_n hx hb d_M_look_36 rfl (lv_at hl 0 rfl) ?_
    refine va_get (ci := 4) (v := .int (M_found r2.2)) (C := R_M) (T := F_M) (N := 35) hx hb hts i_M hown hK.1 hP 0 rfl rfl 19 (by decide) (hts _ wd_345) (fun _ h9 => h9) rfl d_M_look_37 ?_
    refine lv_if_ne (tgt := 45) hx hb d_M_look_40 (by decide) (fun hc => ?_) (fun hc => ?_)
    · rw [if_neg hc] at h
      refine lv_aload_n hx hb d_M_look_45 rfl (lv_at hl 0 rfl) ?_
      refine va_get (ci := 4) (v := .int (M_types r2.2)) (C := R_M) (T := F_M) (N := 35) hx hb hts i_M hown hK.1 hP 0 rfl rfl 10 (by decide) (hts _ wd_344) (fun _ h9 => h9) rfl d_M_look_46 ?_
      refine lv_istore_n (lv' := [(3, .int (M_types r2.2)), (0, .ref (a 20)), (1, .int x1), (2, .int x2)]) hx hb d_M_look_49 rfl hl (by decide) rfl (fun ls hl => ?_)
      refine lv_aload_n hx hb d_M_look_50 rfl (lv_at hl 1 rfl) ?_
      refine lv_iload_n hx hb d_M_look_51 rfl (lv_at hl 0 rfl) ?_
      refine lv_aload_n hx hb d_M_look_52 rfl (lv_at hl 1 rfl) ?_
      refine lv_iload_n hx hb d_M_look_53 rfl (lv_at hl 3 rfl) ?_
      refine lv_aload_n hx hb d_M_look_54 rfl (lv_at hl 1 rfl) ?_
      refine va_get (ci := 4) (v := .int (M_foundHow r2.2)) (C := R_M) (T := F_M) (N := 35) hx hb hts i_M hown hK.1 hP 0 rfl rfl 20 (by decide) (hts _ wd_346) (fun _ h9 => h9) rfl d_M_look_55 ?_
      refine lv_aload_n hx hb d_M_look_58 rfl (lv_at hl 1 rfl) ?_
      refine va_get (ci := 4) (v := .int (M_foundType r2.2)) (C := R_M) (T := F_M) (N := 35) hx hb hts i_M hown hK.1 hP 0 rfl rfl 21 (by decide) (hts _ wd_347) (fun _ h9 => h9) rfl d_M_look_59 ?_
      replace h := bd h
      obtain ⟨r3, g3, h⟩ := h
      refine rw_V (n := 3) (ci := 4) (As := [.int x2, .int (M_foundHow r2.2), .int (M_foundType r2.2)]) (rest := [.int (M_types r2.2), .ref (a 20)]) (Wn := fun _ => (wM cI cZ a q r3.2)) C0 hA (c_M_addNamed l D cI cZ a q r2.2 x2 (M_foundHow r2.2) (M_foundType r2.2) g3) wd_419 ⟨wd_420, wd_421, wd_422, wd_352⟩ (by decide +kernel) ⟨Nat.le_of_ble_eq_true rfl, Nat.le_of_ble_eq_true rfl⟩ hP hD hS [0, 1, 2, 3, 4, 5, 6, 7, 8, 9, 10, 11, 12, 13, 14, 15, 16, 17, 18, 19, 20, 21, 22, 23] [] [0, 1, 2, 3, 4, 5, 6, 7, 8, 9, 10, 11, 12, 13, 14, 15, 16, 17, 18, 19, 20, 21, 22, 23] jn_M__C (by decide) jn_M__R (by decide) (by decide) (by decide) jn_M__W rfl rfl rfl hl rfl rfl (Nat.le_of_ble_eq_true rfl) ⟨Nat.zero_le _, Nat.zero_le _⟩ d_M_look_62 (fun H locs _ hP hD hS => ?_)
      try dsimp only at h
      refine lv_iconst (v := 2) hx hb d_M_look_65 (by decide) ?_
      replace h := bd h
      obtain ⟨r4, g4, h⟩ := h
      refine rw_V (n := 3) (ci := 4) (As := [.int (M_types r2.2), .int r3.1, .int 2]) (rest := []) (Wn := fun _ => (wM cI cZ a q r4.2)) C0 hA (c_M_end l D cI cZ a q r3.2 (M_types r2.2) r3.1 2 g4) wd_423 ⟨wd_424, wd_425, wd_426, wd_352⟩ (by decide +kernel) ⟨Nat.le_of_ble_eq_true rfl, Nat.le_of_ble_eq_true rfl⟩ hP hD hS [0, 1, 2, 3, 4, 5, 6, 7, 8, 9, 10, 11, 12, 13, 14, 15, 16, 17, 18, 19, 20, 21, 22, 23] [] [0, 1, 2, 3, 4, 5, 6, 7, 8, 9, 10, 11, 12, 13, 14, 15, 16, 17, 18, 19, 20, 21, 22, 23] jn_M__C (by decide) jn_M__R (by decide) (by decide) (by decide) jn_M__W rfl rfl rfl hl rfl rfl (Nat.le_of_ble_eq_true rfl) ⟨Nat.zero_le _, Nat.zero_le _⟩ d_M_look_66 (fun H locs _ hP hD hS => ?_)
      try dsimp only at h
      exact rw_ret C0 hP hD hS (Option.some.inj h) d_M_look_69
    · rw [if_pos hc] at h
      refine lv_iconst (v := (-1)) hx hb d_M_look_43 (by decide) ?_
      exact rw_ret C0 hP hD hS (Option.some.inj h) d_M_look_44
  · rw [if_pos hc] at h
    refine lv_iconst (v := 0) hx hb d_M_look_28 (by decide) ?_
    exact rw_ret C0 hP hD hS (Option.some.inj h) d_M_look_29
set_option maxHeartbeats 4000000 in
set_option maxRecDepth 100000 in
theorem t_M_look_21 {p : Program} {l : Launch} {e : Env} {s : State} {m : MethodId} {args : Array Value} {below : List Frame} {meth : Method} {c : Code} {D : va_G} {cI cZ : ClassId} {a : Nat → Nat} {A : Nat → Prop} (C0 : Am p s m args meth c b_M_look (some .int) 4 R_M D [(cI, .int), (cZ, .boolean)]) (hA : ∀ q, s.heap.size ≤ q → A q) {res : Int32 × StM}   {q : Nat} {σ : StM} {x1 x2 : Int32} (h : f_M_look_21 σ x1 x2 = some res) {H : Heap} {locs : List Loc} (hP : va_P D vwCl (wM cI cZ a q σ) H) (hD : va_D A (wM cI cZ a q σ)) (hS : va_S A s.heap H locs) {ls : Array Slot} (hl : lv_has ls 4 [(0, .ref (a 20)), (1, .int x1), (2, .int x2)]) : W p l e (rmK 3 74 0 0) s m args below meth c H locs 0 0 (RwQ below args s D A (fun q (σ : StM) => (wM cI cZ a q σ)) res 0 0) (F0 m 21 ls [.ref (a 20)]) := by
  obtain ⟨hx, hb, hr, hml, hown, hts, hlk, hK⟩ := id C0
  unfold f_M_look_21 at h
  refine lv_iconst (v := 1) hx hb d_M_look_21 (by decide) ?_
  exact t_M_look_22 (a := a) C0 hA  h hP hD hS (lv_sub hl [0, 1, 2] rfl)
set_option maxHeartbeats 4000000 in
set_option maxRecDepth 100000 in
theorem t_M_look_0 {p : Program} {l : Launch} {e : Env} {s : State} {m : MethodId} {args : Array Value} {below : List Frame} {meth : Method} {c : Code} {D : va_G} {cI cZ : ClassId} {a : Nat → Nat} {A : Nat → Prop} (C0 : Am p s m args meth c b_M_look (some .int) 4 R_M D [(cI, .int), (cZ, .boolean)]) (hA : ∀ q, s.heap.size ≤ q → A q) {res : Int32 × StM}   {q : Nat} {σ : StM} {x1 x2 : Int32} (h : f_M_look σ x1 x2 = some res) {H : Heap} {locs : List Loc} (hP : va_P D vwCl (wM cI cZ a q σ) H) (hD : va_D A (wM cI cZ a q σ)) (hS : va_S A s.heap H locs) {ls : Array Slot} (hl : lv_has ls 4 [(0, .ref (a 20)), (1, .int x1), (2, .int x2)]) : W p l e (rmK 3 74 0 0) s m args below meth c H locs 0 0 (RwQ below args s D A (fun q (σ : StM) => (wM cI cZ a q σ)) res 0 0) (F0 m 0 ls []) := by
  obtain ⟨hx, hb, hr, hml, hown, hts, hlk, hK⟩ := id C0
  unfold f_M_look at h
  refine lv_aload_n hx hb d_M_look_0 rfl (lv_at hl 0 rfl) ?_
  refine lv_aload_n hx hb d_M_look_1 rfl (lv_at hl 0 rfl) ?_
  refine lv_iload_n hx hb d_M_look_2 rfl (lv_at hl 1 rfl) ?_
  refine ro_V (n := 1) (ci := 4) (As := [.int x1]) (rest := [.ref (a 20)]) C0 (c_M_isType l D cI cZ a q σ x1 rfl) wd_427 ⟨wd_428, wd_429, wd_430, wd_352⟩ (by decide +kernel) ⟨Nat.le_of_ble_eq_true rfl, Nat.le_of_ble_eq_true rfl⟩ hP rfl rfl rfl hl rfl rfl (Nat.le_of_ble_eq_true rfl) ⟨Nat.zero_le _, Nat.zero_le _⟩ d_M_look_3 ?_
  refine lv_if_eq (tgt := 21) hx hb d_M_look_6 (by decide) (fun hc => ?_) (fun hc => ?_)
  · rw [if_pos hc] at h
    exact t_M_look_21 (a := a) C0 hA  h hP hD hS (lv_sub hl [0, 1, 2] rfl)
  · rw [if_neg hc] at h
    refine lv_aload_n hx hb d_M_look_9 rfl (lv_at hl 0 rfl) ?_
    refine lv_iload_n hx hb d_M_look_10 rfl (lv_at hl 2 rfl) ?_
    refine ro_V (n := 1) (ci := 4) (As := [.int x2]) (rest := [.ref (a 20)]) C0 (c_M_isClass l D cI cZ a q σ x2 rfl) wd_403 ⟨wd_404, wd_405, wd_406, wd_352⟩ (by decide +kernel) ⟨Nat.le_of_ble_eq_true rfl, Nat.le_of_ble_eq_true rfl⟩ hP rfl rfl rfl hl rfl rfl (Nat.le_of_ble_eq_true rfl) ⟨Nat.zero_le _, Nat.zero_le _⟩ d_M_look_11 ?_
    refine lv_if_eq (tgt := 21) hx hb d_M_look_14 (by decide) (fun hc => ?_) (fun hc => ?_)
    · rw [if_pos hc] at h
      exact t_M_look_21 (a := a) C0 hA  h hP hD hS (lv_sub hl [0, 1, 2] rfl)
    · rw [if_neg hc] at h
      refine lv_iconst (v := 0) hx hb d_M_look_17 (by decide) ?_
      refine lv_goto (tgt := 22) hx hb d_M_look_18 (by decide) ?_
      exact t_M_look_22 (a := a) C0 hA  h hP hD hS (lv_sub hl [0, 1, 2] rfl)
set_option maxHeartbeats 4000000 in
set_option maxRecDepth 100000 in
theorem c_M_look (l : Launch) (D : va_G) (cI cZ : ClassId) (a : Nat → Nat) (q : Nat) (σ : StM) (x1 : Int32) (x2 : Int32) {res : Int32 × StM} (h : f_M_look σ x1 x2 = some res) : RwM l y_M_look b_M_look 4 (some .int) 3 74 D [(cI, .int), (cZ, .boolean)] [.ref (a 20), .int x1, .int x2] (fun q (σ : StM) => (wM cI cZ a q σ)) q σ res :=
  rw_of (by decide) (Nat.le_of_ble_eq_true rfl) (fun p e s m args below meth c ls A C0 hA hP hD hS hl => t_M_look_0 (a := a) C0 hA h hP hD hS (lv_sub hl [0, 1, 2] rfl))
