def f_M_lookAt_57_s (k57 : StM → Int32 → Int32 → Int32 → Option (Int32 × StM)) (σ : StM) (x2 x3 x4 : Int32) : Option (Int32 × StM) :=
  if x3 < 0 ∨ 300 ≤ x3.toNatClampNeg then none else
  if ((M_partCount σ) x3.toNatClampNeg) ≤ x4 then
    some (0, σ)
  else
    if (M_found σ) = 0 then
      if ((30 * x3) + x4) < 0 ∨ 9000 ≤ ((30 * x3) + x4).toNatClampNeg then none else
      if ((M_partRow σ) ((30 * x3) + x4).toNatClampNeg) < 0 ∨ 300 ≤ ((M_partRow σ) ((30 * x3) + x4).toNatClampNeg).toNatClampNeg then none else
      if ((M_partRow σ) ((30 * x3) + x4).toNatClampNeg) < 0 ∨ 300 ≤ ((M_partRow σ) ((30 * x3) + x4).toNatClampNeg).toNatClampNeg then none else
      if ((M_partRow σ) ((30 * x3) + x4).toNatClampNeg) < 0 ∨ 300 ≤ ((M_partRow σ) ((30 * x3) + x4).toNatClampNeg).toNatClampNeg then none else
      (f_M_climb σ ((M_classOf σ) ((M_partRow σ) ((30 * x3) + x4).toNatClampNeg).toNatClampNeg) ((M_how σ) ((M_partRow σ) ((30 * x3) + x4).toNatClampNeg).toNatClampNeg) ((M_inner σ) ((M_partRow σ) ((30 * x3) + x4).toNatClampNeg).toNatClampNeg) x2).bind fun r1 =>
      k57 r1.2 x2 x3 (x4 + 1)
    else
      some (0, σ)
def f_M_lookAt_57 : Nat → StM → Int32 → Int32 → Int32 → Option (Int32 × StM)
  | 0, _, _, _, _ => none
  | n + 1, σ, x2, x3, x4 => f_M_lookAt_57_s (f_M_lookAt_57 n) σ x2 x3 x4
def f_M_lookAt_41 (σ : StM) (x2 x3 t1 : Int32) : Option (Int32 × StM) :=
  if t1 ≠ 0 ∧ t1 ≠ 1 then none else
  f_M_lookAt_57 1000 (M_set_foundType (M_set_foundHow (M_set_found σ t1) 0) (-1)) x2 x3 0
def f_M_lookAt_14 (σ : StM) (x2 t0 : Int32) : Option (Int32 × StM) :=
  if t0 < 0 ∨ 300 ≤ t0.toNatClampNeg then none else
  if ((M_kind (M_set_found σ 0)) t0.toNatClampNeg) = 2 then
    if 3 ≤ x2 then
      f_M_lookAt_41 (M_set_found σ 0) x2 t0 0
    else
      f_M_lookAt_41 (M_set_found σ 0) x2 t0 1
  else
    f_M_lookAt_57 1000 (M_set_found σ 0) x2 t0 0
def f_M_lookAt (σ : StM) (x1 x2 : Int32) : Option (Int32 × StM) :=
  if 8 ≤ x1 then
    f_M_lookAt_14 σ x2 x1
  else
    f_M_lookAt_14 σ x2 (x1 + 8)
set_option maxHeartbeats 4000000 in
set_option maxRecDepth 100000 in
theorem t_M_lookAt_57_s {p : Program} {l : Launch} {e : Env} {s : State} {m : MethodId} {args : Array Value} {below : List Frame} {meth : Method} {c : Code} {D : va_G} {cI cZ : ClassId} {a : Nat → Nat} {A : Nat → Prop} (C0 : Am p s m args meth c b_M_lookAt none 6 R_M D [(cI, .int), (cZ, .boolean)]) (hA : ∀ q, s.heap.size ≤ q → A q) {res : Int32 × StM} {k57 : StM → Int32 → Int32 → Int32 → Option (Int32 × StM)}  (hk57 : ∀ (q : Nat) (σ : StM) (x2 x3 x4 : Int32) (H : Heap) (locs : List Loc) (ls : Array Slot), k57 σ x2 x3 x4 = some res → va_P D vwCl (wM cI cZ a q σ) H → va_D A (wM cI cZ a q σ) → va_S A s.heap H locs → lv_has ls 6 [(0, .ref (a 20)), (2, .int x2), (3, .int x3), (4, .int x4)] → W p l e (rmK 2 49 0 0) s m args below meth c H locs 0 0 (RwQv below args s D A (fun q (σ : StM) => (wM cI cZ a q σ)) res 0 0) (F0 m 57 ls [])) {q : Nat} {σ : StM} {x2 x3 x4 : Int32} (h : f_M_lookAt_57_s k57 σ x2 x3 x4 = some res) {H : Heap} {locs : List Loc} (hP : va_P D vwCl (wM cI cZ a q σ) H) (hD : va_D A (wM cI cZ a q σ)) (hS : va_S A s.heap H locs) {ls : Array Slot} (hl : lv_has ls 6 [(0, .ref (a 20)), (2, .int x2), (3, .int x3), (4, .int x4)]) : W p l e (rmK 2 49 0 0) s m args below meth c H locs 0 0 (RwQv below args s D A (fun q (σ : StM) => (wM cI cZ a q σ)) res 0 0) (F0 m 57 ls []) := by
  obtain ⟨hx, hb, hr, hml, hown, hts, hlk, hK⟩ := id C0
  unfold f_M_lookAt_57_s at h
  refine lv_iload hx hb d_M_lookAt_57 (lv_at hl 3 rfl) ?_
  refine lv_aload_n hx hb d_M_lookAt_59 rfl (lv_at hl 0 rfl) ?_
  refine va_get (ci := 4) (v := .ref (a 32)) (C := R_M) (T := F_M) (N := 35) hx hb hts i_M hown hK.1 hP 0 rfl rfl 16 (by decide) (hts _ wd_354) (fun _ h9 => h9) rfl d_M_lookAt_60 ?_
  refine lv_iload_n hx hb d_M_lookAt_63 rfl (lv_at hl 2 rfl) ?_
  replace h := gd h
  obtain ⟨hi, h⟩ := h
  refine va_iald hx hb hK.1 hP 12 0 rfl rfl hi d_M_lookAt_64 ?_
  refine lv_icmp_ge (tgt := 121) hx hb d_M_lookAt_65 (by decide) (fun hc => ?_) (fun hc => ?_)
  · rw [if_pos hc] at h
    exact rw_retv C0 hP hD hS (Option.some.inj h) d_M_lookAt_121
  · rw [if_neg hc] at h
    refine lv_aload_n hx hb d_M_lookAt_68 rfl (lv_at hl 0 rfl) ?_
    refine va_get (ci := 4) (v := .int (M_found σ)) (C := R_M) (T := F_M) (N := 35) hx hb hts i_M hown hK.1 hP 0 rfl rfl 19 (by decide) (hts _ wd_345) (fun _ h9 => h9) rfl d_M_lookAt_69 ?_
    refine lv_if_ne (tgt := 121) hx hb d_M_lookAt_72 (by decide) (fun hc => ?_) (fun hc => ?_)
    · rw [if_neg hc] at h
      exact rw_retv C0 hP hD hS (Option.some.inj h) d_M_lookAt_121
    · rw [if_pos hc] at h
      refine lv_aload_n hx hb d_M_lookAt_75 rfl (lv_at hl 0 rfl) ?_
      refine va_get (ci := 4) (v := .ref (a 33)) (C := R_M) (T := F_M) (N := 35) hx hb hts i_M hown hK.1 hP 0 rfl rfl 17 (by decide) (hts _ wd_355) (fun _ h9 => h9) rfl d_M_lookAt_76 ?_
      refine lv_bipush (v := 30) hx hb d_M_lookAt_79 (by decide) ?_
      refine lv_iload_n hx hb d_M_lookAt_81 rfl (lv_at hl 2 rfl) ?_
      refine lv_imul hx hb d_M_lookAt_82 ?_
      refine lv_iload hx hb d_M_lookAt_83 (lv_at hl 3 rfl) ?_
      refine lv_iadd hx hb d_M_lookAt_85 ?_
      replace h := gd h
      obtain ⟨hi, h⟩ := h
      refine va_iald hx hb hK.1 hP 13 0 rfl rfl hi d_M_lookAt_86 ?_
      refine lv_istore (lv' := [(5, .int ((M_partRow σ) ((30 * x3) + x4).toNatClampNeg)), (0, .ref (a 20)), (2, .int x2), (3, .int x3), (4, .int x4)]) hx hb d_M_lookAt_87 hl (by decide) rfl (fun ls hl => ?_)
      refine lv_aload_n hx hb d_M_lookAt_89 rfl (lv_at hl 1 rfl) ?_
      refine lv_aload_n hx hb d_M_lookAt_90 rfl (lv_at hl 1 rfl) ?_
      refine va_get (ci := 4) (v := .ref (a 28)) (C := R_M) (T := F_M) (N := 35) hx hb hts i_M hown hK.1 hP 0 rfl rfl 12 (by decide) (hts _ wd_356) (fun _ h9 => h9) rfl d_M_lookAt_91 ?_
      refine lv_iload hx hb d_M_lookAt_94 (lv_at hl 0 rfl) ?_
      replace h := gd h
      obtain ⟨hi, h⟩ := h
      refine va_iald hx hb hK.1 hP 8 0 rfl rfl hi d_M_lookAt_96 ?_
      refine lv_aload_n hx hb d_M_lookAt_97 rfl (lv_at hl 1 rfl) ?_
      refine va_get (ci := 4) (v := .ref (a 29)) (C := R_M) (T := F_M) (N := 35) hx hb hts i_M hown hK.1 hP 0 rfl rfl 13 (by decide) (hts _ wd_357) (fun _ h9 => h9) rfl d_M_lookAt_98 ?_
      refine lv_iload hx hb d_M_lookAt_101 (lv_at hl 0 rfl) ?_
      replace h := gd h
      obtain ⟨hi, h⟩ := h
      refine va_iald hx hb hK.1 hP 9 0 rfl rfl hi d_M_lookAt_103 ?_
      refine lv_aload_n hx hb d_M_lookAt_104 rfl (lv_at hl 1 rfl) ?_
      refine va_get (ci := 4) (v := .ref (a 30)) (C := R_M) (T := F_M) (N := 35) hx hb hts i_M hown hK.1 hP 0 rfl rfl 14 (by decide) (hts _ wd_358) (fun _ h9 => h9) rfl d_M_lookAt_105 ?_
      refine lv_iload hx hb d_M_lookAt_108 (lv_at hl 0 rfl) ?_
      replace h := gd h
      obtain ⟨hi, h⟩ := h
      refine va_iald hx hb hK.1 hP 10 0 rfl rfl hi d_M_lookAt_110 ?_
      refine lv_iload_n hx hb d_M_lookAt_111 rfl (lv_at hl 2 rfl) ?_
      replace h := bd h
      obtain ⟨r1, g1, h⟩ := h
      refine rw_Vv (n := 4) (ci := 4) (As := [.int ((M_classOf σ) ((M_partRow σ) ((30 * x3) + x4).toNatClampNeg).toNatClampNeg), .int ((M_how σ) ((M_partRow σ) ((30 * x3) + x4).toNatClampNeg).toNatClampNeg), .int ((M_inner σ) ((M_partRow σ) ((30 * x3) + x4).toNatClampNeg).toNatClampNeg), .int x2]) (rest := []) (Wn := fun _ => (wM cI cZ a q r1.2)) C0 hA (c_M_climb l D cI cZ a q σ ((M_classOf σ) ((M_partRow σ) ((30 * x3) + x4).toNatClampNeg).toNatClampNeg) ((M_how σ) ((M_partRow σ) ((30 * x3) + x4).toNatClampNeg).toNatClampNeg) ((M_inner σ) ((M_partRow σ) ((30 * x3) + x4).toNatClampNeg).toNatClampNeg) x2 g1) wd_359 ⟨wd_360, wd_361, wd_362, wd_352⟩ (by decide +kernel) ⟨Nat.le_of_ble_eq_true rfl, Nat.le_of_ble_eq_true rfl⟩ hP hD hS [0, 1, 2, 3, 4, 5, 6, 7, 8, 9, 10, 11, 12, 13, 14, 15, 16, 17, 18, 19, 20, 21, 22, 23] [] [0, 1, 2, 3, 4, 5, 6, 7, 8, 9, 10, 11, 12, 13, 14, 15, 16, 17, 18, 19, 20, 21, 22, 23] jn_M__C (by decide) jn_M__R (by decide) (by decide) (by decide) jn_M__W rfl rfl rfl hl rfl rfl (Nat.le_of_ble_eq_true rfl) ⟨Nat.zero_le _, Nat.zero_le _⟩ d_M_lookAt_112 (fun H locs _ hP hD hS => ?_)
      try dsimp only at h
      refine lv_iinc (v := (x4 + 1)) (lv' := [(4, .int (x4 + 1)), (5, .int ((M_partRow σ) ((30 * x3) + x4).toNatClampNeg)), (0, .ref (a 20)), (2, .int x2), (3, .int x3)]) hx hb d_M_lookAt_115 hl (k := 4) rfl rfl (by decide) rfl (fun ls hl => ?_)
      refine lv_goto (tgt := 57) hx hb d_M_lookAt_118 (by decide) ?_
      exact hk57 _ _ _ _ _ _ _ _ h hP hD hS (lv_sub hl [2, 3, 4, 0] rfl)
set_option maxHeartbeats 4000000 in
set_option maxRecDepth 100000 in
theorem t_M_lookAt_57 {p : Program} {l : Launch} {e : Env} {s : State} {m : MethodId} {args : Array Value} {below : List Frame} {meth : Method} {c : Code} {D : va_G} {cI cZ : ClassId} {a : Nat → Nat} {A : Nat → Prop} (C0 : Am p s m args meth c b_M_lookAt none 6 R_M D [(cI, .int), (cZ, .boolean)]) (hA : ∀ q, s.heap.size ≤ q → A q) {res : Int32 × StM}  {n : Nat} {q : Nat} {σ : StM} {x2 x3 x4 : Int32} (h : f_M_lookAt_57  n σ x2 x3 x4 = some res) {H : Heap} {locs : List Loc} (hP : va_P D vwCl (wM cI cZ a q σ) H) (hD : va_D A (wM cI cZ a q σ)) (hS : va_S A s.heap H locs) {ls : Array Slot} (hl : lv_has ls 6 [(0, .ref (a 20)), (2, .int x2), (3, .int x3), (4, .int x4)]) : W p l e (rmK 2 49 0 0) s m args below meth c H locs 0 0 (RwQv below args s D A (fun q (σ : StM) => (wM cI cZ a q σ)) res 0 0) (F0 m 57 ls []) := by
  induction n generalizing q σ x2 x3 x4 H locs ls with
  | zero => cases h
  | succ n ih => exact t_M_lookAt_57_s (a := a) C0 hA  (fun _ _ _ _ _ _ _ _ h hP hD hS hl => ih h hP hD hS hl) h hP hD hS hl
set_option maxHeartbeats 4000000 in
set_option maxRecDepth 100000 in
theorem t_M_lookAt_41 {p : Program} {l : Launch} {e : Env} {s : State} {m : MethodId} {args : Array Value} {below : List Frame} {meth : Method} {c : Code} {D : va_G} {cI cZ : ClassId} {a : Nat → Nat} {A : Nat → Prop} (C0 : Am p s m args meth c b_M_lookAt none 6 R_M D [(cI, .int), (cZ, .boolean)]) (hA : ∀ q, s.heap.size ≤ q → A q) {res : Int32 × StM}   {q : Nat} {σ : StM} {x2 x3 t1 : Int32} (h : f_M_lookAt_41 σ x2 x3 t1 = some res) {H : Heap} {locs : List Loc} (hP : va_P D vwCl (wM cI cZ a q σ) H) (hD : va_D A (wM cI cZ a q σ)) (hS : va_S A s.heap H locs) {ls : Array Slot} (hl : lv_has ls 6 [(0, .ref (a 20)), (2, .int x2), (3, .int x3)]) : W p l e (rmK 2 49 0 0) s m args below meth c H locs 0 0 (RwQv below args s D A (fun q (σ : StM) => (wM cI cZ a q σ)) res 0 0) (F0 m 41 ls [.int t1, .ref (a 20)]) := by
  obtain ⟨hx, hb, hr, hml, hown, hts, hlk, hK⟩ := id C0
  unfold f_M_lookAt_41 at h
  replace h := gd h
  obtain ⟨hi, h⟩ := h
  refine rw_put (v := .int t1) (fty := .boolean) (C := R_M) (T := F_M) (N := 35) C0 hP hD hS i_M ty_M tyok_M nn_M 0 rfl rfl 19 (by decide) (hts _ wd_345) rfl rfl (by decide +kernel) (zb_n hi) (zb_f hi) (Nat.le_of_ble_eq_true rfl) d_M_lookAt_41 (Wn := (wM cI cZ a q (M_set_found σ t1))) ws_M_set_found (fun H locs hP hD hS => ?_)
  refine lv_aload_n hx hb d_M_lookAt_44 rfl (lv_at hl 0 rfl) ?_
  refine lv_iconst (v := 0) hx hb d_M_lookAt_45 (by decide) ?_
  refine rw_put (v := .int 0) (fty := .int) (C := R_M) (T := F_M) (N := 35) C0 hP hD hS i_M ty_M tyok_M nn_M 0 rfl rfl 20 (by decide) (hts _ wd_346) rfl rfl (by decide +kernel) rfl rfl (Nat.le_of_ble_eq_true rfl) d_M_lookAt_46 (Wn := (wM cI cZ a q (M_set_foundHow (M_set_found σ t1) 0))) ws_M_set_foundHow (fun H locs hP hD hS => ?_)
  refine lv_aload_n hx hb d_M_lookAt_49 rfl (lv_at hl 0 rfl) ?_
  refine lv_iconst (v := (-1)) hx hb d_M_lookAt_50 (by decide) ?_
  refine rw_put (v := .int (-1)) (fty := .int) (C := R_M) (T := F_M) (N := 35) C0 hP hD hS i_M ty_M tyok_M nn_M 0 rfl rfl 21 (by decide) (hts _ wd_347) rfl rfl (by decide +kernel) rfl rfl (Nat.le_of_ble_eq_true rfl) d_M_lookAt_51 (Wn := (wM cI cZ a q (M_set_foundType (M_set_foundHow (M_set_found σ t1) 0) (-1)))) ws_M_set_foundType (fun H locs hP hD hS => ?_)
  refine lv_iconst (v := 0) hx hb d_M_lookAt_54 (by decide) ?_
  refine lv_istore (lv' := [(4, .int 0), (0, .ref (a 20)), (2, .int x2), (3, .int x3)]) hx hb d_M_lookAt_55 hl (by decide) rfl (fun ls hl => ?_)
  exact t_M_lookAt_57 (a := a) C0 hA  h hP hD hS (lv_sub hl [1, 2, 3, 0] rfl)
set_option maxHeartbeats 4000000 in
set_option maxRecDepth 100000 in
theorem t_M_lookAt_14 {p : Program} {l : Launch} {e : Env} {s : State} {m : MethodId} {args : Array Value} {below : List Frame} {meth : Method} {c : Code} {D : va_G} {cI cZ : ClassId} {a : Nat → Nat} {A : Nat → Prop} (C0 : Am p s m args meth c b_M_lookAt none 6 R_M D [(cI, .int), (cZ, .boolean)]) (hA : ∀ q, s.heap.size ≤ q → A q) {res : Int32 × StM}   {q : Nat} {σ : StM} {x2 t0 : Int32} (h : f_M_lookAt_14 σ x2 t0 = some res) {H : Heap} {locs : List Loc} (hP : va_P D vwCl (wM cI cZ a q σ) H) (hD : va_D A (wM cI cZ a q σ)) (hS : va_S A s.heap H locs) {ls : Array Slot} (hl : lv_has ls 6 [(0, .ref (a 20)), (2, .int x2)]) : W p l e (rmK 2 49 0 0) s m args below meth c H locs 0 0 (RwQv below args s D A (fun q (σ : StM) => (wM cI cZ a q σ)) res 0 0) (F0 m 14 ls [.int t0]) := by
  obtain ⟨hx, hb, hr, hml, hown, hts, hlk, hK⟩ := id C0
  unfold f_M_lookAt_14 at h
  refine lv_istore_n (lv' := [(3, .int t0), (0, .ref (a 20)), (2, .int x2)]) hx hb d_M_lookAt_14 rfl hl (by decide) rfl (fun ls hl => ?_)
  refine lv_aload_n hx hb d_M_lookAt_15 rfl (lv_at hl 1 rfl) ?_
  refine lv_iconst (v := 0) hx hb d_M_lookAt_16 (by decide) ?_
  refine rw_put (v := .int 0) (fty := .boolean) (C := R_M) (T := F_M) (N := 35) C0 hP hD hS i_M ty_M tyok_M nn_M 0 rfl rfl 19 (by decide) (hts _ wd_345) rfl rfl (by decide +kernel) rfl rfl (Nat.le_of_ble_eq_true rfl) d_M_lookAt_17 (Wn := (wM cI cZ a q (M_set_found σ 0))) ws_M_set_found (fun H locs hP hD hS => ?_)
  refine lv_aload_n hx hb d_M_lookAt_20 rfl (lv_at hl 1 rfl) ?_
  refine va_get (ci := 4) (v := .ref (a 27)) (C := R_M) (T := F_M) (N := 35) hx hb hts i_M hown hK.1 hP 0 rfl rfl 11 (by decide) (hts _ wd_353) (fun _ h9 => h9) rfl d_M_lookAt_21 ?_
  refine lv_iload_n hx hb d_M_lookAt_24 rfl (lv_at hl 0 rfl) ?_
  replace h := gd h
  obtain ⟨hi, h⟩ := h
  refine va_iald hx hb hK.1 hP 7 0 rfl rfl hi d_M_lookAt_25 ?_
  refine lv_iconst (v := 2) hx hb d_M_lookAt_26 (by decide) ?_
  refine lv_icmp_ne (tgt := 54) hx hb d_M_lookAt_27 (by decide) (fun hc => ?_) (fun hc => ?_)
  · rw [if_neg hc] at h
    refine lv_iconst (v := 0) hx hb d_M_lookAt_54 (by decide) ?_
    refine lv_istore (lv' := [(4, .int 0), (3, .int t0), (0, .ref (a 20)), (2, .int x2)]) hx hb d_M_lookAt_55 hl (by decide) rfl (fun ls hl => ?_)
    exact t_M_lookAt_57 (a := a) C0 hA  h hP hD hS (lv_sub hl [2, 3, 1, 0] rfl)
  · rw [if_pos hc] at h
    refine lv_aload_n hx hb d_M_lookAt_30 rfl (lv_at hl 1 rfl) ?_
    refine lv_iload_n hx hb d_M_lookAt_31 rfl (lv_at hl 2 rfl) ?_
    refine lv_iconst (v := 3) hx hb d_M_lookAt_32 (by decide) ?_
    refine lv_icmp_ge (tgt := 40) hx hb d_M_lookAt_33 (by decide) (fun hc => ?_) (fun hc => ?_)
    · rw [if_pos hc] at h
      refine lv_iconst (v := 0) hx hb d_M_lookAt_40 (by decide) ?_
      exact t_M_lookAt_41 (a := a) C0 hA  h hP hD hS (lv_sub hl [1, 2, 0] rfl)
    · rw [if_neg hc] at h
      refine lv_iconst (v := 1) hx hb d_M_lookAt_36 (by decide) ?_
      refine lv_goto (tgt := 41) hx hb d_M_lookAt_37 (by decide) ?_
      exact t_M_lookAt_41 (a := a) C0 hA  h hP hD hS (lv_sub hl [1, 2, 0] rfl)
set_option maxHeartbeats 4000000 in
set_option maxRecDepth 100000 in
theorem t_M_lookAt_0 {p : Program} {l : Launch} {e : Env} {s : State} {m : MethodId} {args : Array Value} {below : List Frame} {meth : Method} {c : Code} {D : va_G} {cI cZ : ClassId} {a : Nat → Nat} {A : Nat → Prop} (C0 : Am p s m args meth c b_M_lookAt none 6 R_M D [(cI, .int), (cZ, .boolean)]) (hA : ∀ q, s.heap.size ≤ q → A q) {res : Int32 × StM}   {q : Nat} {σ : StM} {x1 x2 : Int32} (h : f_M_lookAt σ x1 x2 = some res) {H : Heap} {locs : List Loc} (hP : va_P D vwCl (wM cI cZ a q σ) H) (hD : va_D A (wM cI cZ a q σ)) (hS : va_S A s.heap H locs) {ls : Array Slot} (hl : lv_has ls 6 [(0, .ref (a 20)), (1, .int x1), (2, .int x2)]) : W p l e (rmK 2 49 0 0) s m args below meth c H locs 0 0 (RwQv below args s D A (fun q (σ : StM) => (wM cI cZ a q σ)) res 0 0) (F0 m 0 ls []) := by
  obtain ⟨hx, hb, hr, hml, hown, hts, hlk, hK⟩ := id C0
  unfold f_M_lookAt at h
  refine lv_iload_n hx hb d_M_lookAt_0 rfl (lv_at hl 1 rfl) ?_
  refine lv_bipush (v := 8) hx hb d_M_lookAt_1 (by decide) ?_
  refine lv_icmp_ge (tgt := 13) hx hb d_M_lookAt_3 (by decide) (fun hc => ?_) (fun hc => ?_)
  · rw [if_pos hc] at h
    refine lv_iload_n hx hb d_M_lookAt_13 rfl (lv_at hl 1 rfl) ?_
    exact t_M_lookAt_14 (a := a) C0 hA  h hP hD hS (lv_sub hl [0, 2] rfl)
  · rw [if_neg hc] at h
    refine lv_iload_n hx hb d_M_lookAt_6 rfl (lv_at hl 1 rfl) ?_
    refine lv_bipush (v := 8) hx hb d_M_lookAt_7 (by decide) ?_
    refine lv_iadd hx hb d_M_lookAt_9 ?_
    refine lv_goto (tgt := 14) hx hb d_M_lookAt_10 (by decide) ?_
    exact t_M_lookAt_14 (a := a) C0 hA  h hP hD hS (lv_sub hl [0, 2] rfl)
set_option maxHeartbeats 4000000 in
set_option maxRecDepth 100000 in
theorem c_M_lookAt (l : Launch) (D : va_G) (cI cZ : ClassId) (a : Nat → Nat) (q : Nat) (σ : StM) (x1 : Int32) (x2 : Int32) {res : Int32 × StM} (h : f_M_lookAt σ x1 x2 = some res) : RwMv l y_M_lookAt b_M_lookAt 6 2 49 D [(cI, .int), (cZ, .boolean)] [.ref (a 20), .int x1, .int x2] (fun q (σ : StM) => (wM cI cZ a q σ)) q σ res :=
  rw_ofv (by decide) (Nat.le_of_ble_eq_true rfl) (fun p e s m args below meth c ls A C0 hA hP hD hS hl => t_M_lookAt_0 (a := a) C0 hA h hP hD hS (lv_sub hl [0, 1, 2] rfl))
