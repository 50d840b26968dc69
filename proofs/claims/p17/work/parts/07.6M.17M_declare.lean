def f_M_declare_70 (σ : StM) (t1 t2 : Int32) : Option (Int32 × StM) :=
  if (M_classes (M_set_generics σ (t1 + t2))) < 0 ∨ 30 ≤ (M_classes (M_set_generics σ (t1 + t2))).toNatClampNeg then none else
  (f_M_tie (M_put_directs (M_set_generics σ (t1 + t2)) (M_classes (M_set_generics σ (t1 + t2))) 0) (M_classes (M_put_directs (M_set_generics σ (t1 + t2)) (M_classes (M_set_generics σ (t1 + t2))) 0)) 0 (-1)).bind fun r2 =>
  (f_M_reckonOver r2.2 (M_classes r2.2)).bind fun r3 =>
  some (((M_classes (M_set_classes r3.2 ((M_classes r3.2) + 1))) - 1), (M_set_classes r3.2 ((M_classes r3.2) + 1)))
def f_M_declare_28 (σ : StM) (x1 x2 t1 : Int32) : Option (Int32 × StM) :=
  (f_M_good σ t1).bind fun r1 =>
  if r1.1 = 0 then
    some (0, r1.2)
  else
    if (M_classes r1.2) < 0 ∨ 30 ≤ (M_classes r1.2).toNatClampNeg then none else
    if (M_classes (M_put_face r1.2 (M_classes r1.2) (vp_nar .boolean x1))) < 0 ∨ 30 ≤ (M_classes (M_put_face r1.2 (M_classes r1.2) (vp_nar .boolean x1))).toNatClampNeg then none else
    if x2 = 0 then
      f_M_declare_70 (M_put_generic (M_put_face r1.2 (M_classes r1.2) (vp_nar .boolean x1)) (M_classes (M_put_face r1.2 (M_classes r1.2) (vp_nar .boolean x1))) (vp_nar .boolean x2)) (M_generics (M_put_generic (M_put_face r1.2 (M_classes r1.2) (vp_nar .boolean x1)) (M_classes (M_put_face r1.2 (M_classes r1.2) (vp_nar .boolean x1))) (vp_nar .boolean x2))) 0
    else
      f_M_declare_70 (M_put_generic (M_put_face r1.2 (M_classes r1.2) (vp_nar .boolean x1)) (M_classes (M_put_face r1.2 (M_classes r1.2) (vp_nar .boolean x1))) (vp_nar .boolean x2)) (M_generics (M_put_generic (M_put_face r1.2 (M_classes r1.2) (vp_nar .boolean x1)) (M_classes (M_put_face r1.2 (M_classes r1.2) (vp_nar .boolean x1))) (vp_nar .boolean x2))) 1
def f_M_declare_23 (σ : StM) (x1 x2 : Int32) : Option (Int32 × StM) :=
  f_M_declare_28 σ x1 x2 1
def f_M_declare_27 (σ : StM) (x1 x2 : Int32) : Option (Int32 × StM) :=
  f_M_declare_28 σ x1 x2 0
def f_M_declare (σ : StM) (x1 x2 : Int32) : Option (Int32 × StM) :=
  if (M_classes σ) = 30 then
    f_M_declare_23 σ x1 x2
  else
    if x2 = 0 then
      f_M_declare_27 σ x1 x2
    else
      if (M_generics σ) = 6 then
        f_M_declare_23 σ x1 x2
      else
        f_M_declare_27 σ x1 x2
set_option maxHeartbeats 4000000 in
set_option maxRecDepth 100000 in
theorem t_M_declare_70 {p : Program} {l : Launch} {e : Env} {s : State} {m : MethodId} {args : Array Value} {below : List Frame} {meth : Method} {c : Code} {D : va_G} {cI cZ : ClassId} {a : Nat → Nat} {A : Nat → Prop} (C0 : Am p s m args meth c b_M_declare (some .int) 3 R_M D [(cI, .int), (cZ, .boolean)]) (hA : ∀ q, s.heap.size ≤ q → A q) {res : Int32 × StM}   {q : Nat} {σ : StM} {t1 t2 : Int32} (h : f_M_declare_70 σ t1 t2 = some res) {H : Heap} {locs : List Loc} (hP : va_P D vwCl (wM cI cZ a q σ) H) (hD : va_D A (wM cI cZ a q σ)) (hS : va_S A s.heap H locs) {ls : Array Slot} (hl : lv_has ls 3 [(0, .ref (a 20))]) : W p l e (rmK 1 24 0 0) s m args below meth c H locs 0 0 (RwQ below args s D A (fun q (σ : StM) => (wM cI cZ a q σ)) res 0 0) (F0 m 70 ls [.int t2, .int t1, .ref (a 20)]) := by
  obtain ⟨hx, hb, hr, hml, hown, hts, hlk, hK⟩ := id C0
  unfold f_M_declare_70 at h
  refine lv_iadd hx hb d_M_declare_70 ?_
  refine rw_put (v := .int (t1 + t2)) (fty := .int) (C := R_M) (T := F_M) (N := 35) C0 hP hD hS i_M ty_M tyok_M nn_M 0 rfl rfl 3 (by decide) (hts _ wd_394) rfl rfl (by decide +kernel) rfl rfl (Nat.le_of_ble_eq_true rfl) d_M_declare_71 (Wn := (wM cI cZ a q (M_set_generics σ (t1 + t2)))) ws_M_set_generics (fun H locs hP hD hS => ?_)
  refine lv_aload_n hx hb d_M_declare_74 rfl (lv_at hl 0 rfl) ?_
  refine va_get (ci := 4) (v := .ref (a 23)) (C := R_M) (T := F_M) (N := 35) hx hb hts i_M hown hK.1 hP 0 rfl rfl 6 (by decide) (hts _ wd_339) (fun _ h9 => h9) rfl d_M_declare_75 ?_
  refine lv_aload_n hx hb d_M_declare_78 rfl (lv_at hl 0 rfl) ?_
  refine va_get (ci := 4) (v := .int (M_classes (M_set_generics σ (t1 + t2)))) (C := R_M) (T := F_M) (N := 35) hx hb hts i_M hown hK.1 hP 0 rfl rfl 2 (by decide) (hts _ wd_343) (fun _ h9 => h9) rfl d_M_declare_79 ?_
  refine lv_iconst (v := 0) hx hb d_M_declare_82 (by decide) ?_
  replace h := gd h
  obtain ⟨hi, h⟩ := h
  refine rw_iast C0 hP hD hS 3 0 rfl rfl hi d_M_declare_83 (Wn := (wM cI cZ a q (M_put_directs (M_set_generics σ (t1 + t2)) (M_classes (M_set_generics σ (t1 + t2))) 0))) ws_M_put_directs (fun H locs hP hD hS => ?_)
  refine lv_aload_n hx hb d_M_declare_84 rfl (lv_at hl 0 rfl) ?_
  refine lv_aload_n hx hb d_M_declare_85 rfl (lv_at hl 0 rfl) ?_
  refine va_get (ci := 4) (v := .int (M_classes (M_put_directs (M_set_generics σ (t1 + t2)) (M_classes (M_set_generics σ (t1 + t2))) 0))) (C := R_M) (T := F_M) (N := 35) hx hb hts i_M hown hK.1 hP 0 rfl rfl 2 (by decide) (hts _ wd_343) (fun _ h9 => h9) rfl d_M_declare_86 ?_
  refine lv_iconst (v := 0) hx hb d_M_declare_89 (by decide) ?_
  refine lv_iconst (v := (-1)) hx hb d_M_declare_90 (by decide) ?_
  replace h := bd h
  obtain ⟨r2, g2, h⟩ := h
  refine rw_Vv (n := 3) (ci := 4) (As := [.int (M_classes (M_put_directs (M_set_generics σ (t1 + t2)) (M_classes (M_set_generics σ (t1 + t2))) 0)), .int 0, .int (-1)]) (rest := []) (Wn := fun _ => (wM cI cZ a q r2.2)) C0 hA (c_M_tie l D cI cZ a q (M_put_directs (M_set_generics σ (t1 + t2)) (M_classes (M_set_generics σ (t1 + t2))) 0) (M_classes (M_put_directs (M_set_generics σ (t1 + t2)) (M_classes (M_set_generics σ (t1 + t2))) 0)) 0 (-1) g2) wd_395 ⟨wd_396, wd_397, wd_398, wd_352⟩ (by decide +kernel) ⟨Nat.le_of_ble_eq_true rfl, Nat.le_of_ble_eq_true rfl⟩ hP hD hS [0, 1, 2, 3, 4, 5, 6, 7, 8, 9, 10, 11, 12, 13, 14, 15, 16, 17, 18, 19, 20, 21, 22, 23] [] [0, 1, 2, 3, 4, 5, 6, 7, 8, 9, 10, 11, 12, 13, 14, 15, 16, 17, 18, 19, 20, 21, 22, 23] jn_M__C (by decide) jn_M__R (by decide) (by decide) (by decide) jn_M__W rfl rfl rfl hl rfl rfl (Nat.le_of_ble_eq_true rfl) ⟨Nat.zero_le _, Nat.zero_le _⟩ d_M_declare_91 (fun H locs _ hP hD hS => ?_)
  try dsimp only at h
  refine lv_aload_n hx hb d_M_declare_94 rfl (lv_at hl 0 rfl) ?_
  refine lv_aload_n hx hb d_M_declare_95 rfl (lv_at hl 0 rfl) ?_
  refine va_get (ci := 4) (v := .int (M_classes r2.2)) (C := R_M) (T := F_M) (N := 35) hx hb hts i_M hown hK.1 hP 0 rfl rfl 2 (by decide) (hts _ wd_343) (fun _ h9 => h9) rfl d_M_declare_96 ?_
  replace h := bd h
  obtain ⟨r3, g3, h⟩ := h
  refine rw_Vv (n := 1) (ci := 4) (As := [.int (M_classes r2.2)]) (rest := []) (Wn := fun _ => (wM cI cZ a q r3.2)) C0 hA (c_M_reckonOver l D cI cZ a q r2.2 (M_classes r2.2) g3) wd_399 ⟨wd_400, wd_401, wd_402, wd_352⟩ (by decide +kernel) ⟨Nat.le_of_ble_eq_true rfl, Nat.le_of_ble_eq_true rfl⟩ hP hD hS [0, 1, 2, 3, 4, 5, 6, 7, 8, 9, 10, 11, 12, 13, 14, 15, 16, 17, 18, 19, 20, 21, 22, 23] [] [0, 1, 2, 3, 4, 5, 6, 7, 8, 9, 10, 11, 12, 13, 14, 15, 16, 17, 18, 19, 20, 21, 22, 23] jn_M__C (by decide) jn_M__R (by decide) (by decide) (by decide) jn_M__W rfl rfl rfl hl rfl rfl (Nat.le_of_ble_eq_true rfl) ⟨Nat.zero_le _, Nat.zero_le _⟩ d_M_declare_99 (fun H locs _ hP hD hS => ?_)
  try dsimp only at h
  refine lv_aload_n hx hb d_M_declare_102 rfl (lv_at hl 0 rfl) ?_
  refine lv_dup hx hb d_M_declare_103 rfl ?_
  refine va_get (ci := 4) (v := .int (M_classes r3.2)) (C := R_M) (T := F_M) (N := 35) hx hb hts i_M hown hK.1 hP 0 rfl rfl 2 (by decide) (hts _ wd_343) (fun _ h9 => h9) rfl d_M_declare_104 ?_
  refine lv_iconst (v := 1) hx hb d_M_declare_107 (by decide) ?_
  refine lv_iadd hx hb d_M_declare_108 ?_
  refine rw_put (v := .int ((M_classes r3.2) + 1)) (fty := .int) (C := R_M) (T := F_M) (N := 35) C0 hP hD hS i_M ty_M tyok_M nn_M 0 rfl rfl 2 (by decide) (hts _ wd_343) rfl rfl (by decide +kernel) rfl rfl (Nat.le_of_ble_eq_true rfl) d_M_declare_109 (Wn := (wM cI cZ a q (M_set_classes r3.2 ((M_classes r3.2) + 1)))) ws_M_set_classes (fun H locs hP hD hS => ?_)
  refine lv_aload_n hx hb d_M_declare_112 rfl (lv_at hl 0 rfl) ?_
  refine va_get (ci := 4) (v := .int (M_classes (M_set_classes r3.2 ((M_classes r3.2) + 1)))) (C := R_M) (T := F_M) (N := 35) hx hb hts i_M hown hK.1 hP 0 rfl rfl 2 (by decide) (hts _ wd_343) (fun _ h9 => h9) rfl d_M_declare_113 ?_
  refine lv_iconst (v := 1) hx hb d_M_declare_116 (by decide) ?_
  refine lv_isub hx hb d_M_declare_117 ?_
  exact rw_ret C0 hP hD hS (Option.some.inj h) d_M_declare_118
set_option maxHeartbeats 4000000 in
set_option maxRecDepth 100000 in
theorem t_M_declare_28 {p : Program} {l : Launch} {e : Env} {s : State} {m : MethodId} {args : Array Value} {below : List Frame} {meth : Method} {c : Code} {D : va_G} {cI cZ : ClassId} {a : Nat → Nat} {A : Nat → Prop} (C0 : Am p s m args meth c b_M_declare (some .int) 3 R_M D [(cI, .int), (cZ, .boolean)]) (hA : ∀ q, s.heap.size ≤ q → A q) {res : Int32 × StM}   {q : Nat} {σ : StM} {x1 x2 t1 : Int32} (h : f_M_declare_28 σ x1 x2 t1 = some res) {H : Heap} {locs : List Loc} (hP : va_P D vwCl (wM cI cZ a q σ) H) (hD : va_D A (wM cI cZ a q σ)) (hS : va_S A s.heap H locs) {ls : Array Slot} (hl : lv_has ls 3 [(0, .ref (a 20)), (1, .int x1), (2, .int x2)]) : W p l e (rmK 1 24 0 0) s m args below meth c H locs 0 0 (RwQ below args s D A (fun q (σ : StM) => (wM cI cZ a q σ)) res 0 0) (F0 m 28 ls [.int t1, .ref (a 20)]) := by
  obtain ⟨hx, hb, hr, hml, hown, hts, hlk, hK⟩ := id C0
  unfold f_M_declare_28 at h
  replace h := bd h
  obtain ⟨r1, g1, h⟩ := h
  refine rw_V (n := 1) (ci := 4) (As := [.int t1]) (rest := []) (Wn := fun _ => (wM cI cZ a q r1.2)) C0 hA (c_M_good l D cI cZ a q σ t1 g1) wd_388 ⟨wd_389, wd_390, wd_391, wd_352⟩ (by decide +kernel) ⟨Nat.le_of_ble_eq_true rfl, Nat.le_of_ble_eq_true rfl⟩ hP hD hS [0, 1, 2, 3, 4, 5, 6, 7, 8, 9, 10, 11, 12, 13, 14, 15, 16, 17, 18, 19, 20, 21, 22, 23] [] [0, 1, 2, 3, 4, 5, 6, 7, 8, 9, 10, 11, 12, 13, 14, 15, 16, 17, 18, 19, 20, 21, 22, 23] jn_M__C (by decide) jn_M__R (by decide) (by decide) (by decide) jn_M__W rfl rfl rfl hl rfl rfl (Nat.le_of_ble_eq_true rfl) ⟨Nat.zero_le _, Nat.zero_le _⟩ d_M_declare_28 (fun H locs _ hP hD hS => ?_)
  try dsimp only at h
  refine lv_if_ne (tgt := 36) hx hb d_M_declare_31 (by decide) (fun hc => ?_) (fun hc => ?_)
  · rw [if_neg hc] at h
    refine lv_aload_n hx hb d_M_declare_36 rfl (lv_at hl 0 rfl) ?_
    refine va_get (ci := 4) (v := .ref (a 21)) (C := R_M) (T := F_M) (N := 35) hx hb hts i_M hown hK.1 hP 0 rfl rfl 4 (by decide) (hts _ wd_392) (fun _ h9 => h9) rfl d_M_declare_37 ?_
    refine lv_aload_n hx hb d_M_declare_40 rfl (lv_at hl 0 rfl) ?_
    refine va_get (ci := 4) (v := .int (M_classes r1.2)) (C := R_M) (T := F_M) (N := 35) hx hb hts i_M hown hK.1 hP 0 rfl rfl 2 (by decide) (hts _ wd_343) (fun _ h9 => h9) rfl d_M_declare_41 ?_
    refine lv_iload_n hx hb d_M_declare_44 rfl (lv_at hl 1 rfl) ?_
    replace h := gd h
    obtain ⟨hi, h⟩ := h
    refine rw_zast C0 hP hD hS 1 1 rfl rfl hi d_M_declare_45 (Wn := (wM cI cZ a q (M_put_face r1.2 (M_classes r1.2) (vp_nar .boolean x1)))) ws_M_put_face (fun H locs hP hD hS => ?_)
    refine lv_aload_n hx hb d_M_declare_46 rfl (lv_at hl 0 rfl) ?_
    refine va_get (ci := 4) (v := .ref (a 22)) (C := R_M) (T := F_M) (N := 35) hx hb hts i_M hown hK.1 hP 0 rfl rfl 5 (by decide) (hts _ wd_393) (fun _ h9 => h9) rfl d_M_declare_47 ?_
    refine lv_aload_n hx hb d_M_declare_50 rfl (lv_at hl 0 rfl) ?_
    refine va_get (ci := 4) (v := .int (M_classes (M_put_face r1.2 (M_classes r1.2) (vp_nar .boolean x1)))) (C := R_M) (T := F_M) (N := 35) hx hb hts i_M hown hK.1 hP 0 rfl rfl 2 (by decide) (hts _ wd_343) (fun _ h9 => h9) rfl d_M_declare_51 ?_
    refine lv_iload_n hx hb d_M_declare_54 rfl (lv_at hl 2 rfl) ?_
    replace h := gd h
    obtain ⟨hi, h⟩ := h
    refine rw_zast C0 hP hD hS 2 1 rfl rfl hi d_M_declare_55 (Wn := (wM cI cZ a q (M_put_generic (M_put_face r1.2 (M_classes r1.2) (vp_nar .boolean x1)) (M_classes (M_put_face r1.2 (M_classes r1.2) (vp_nar .boolean x1))) (vp_nar .boolean x2)))) ws_M_put_generic (fun H locs hP hD hS => ?_)
    refine lv_aload_n hx hb d_M_declare_56 rfl (lv_at hl 0 rfl) ?_
    refine lv_dup hx hb d_M_declare_57 rfl ?_
    refine va_get (ci := 4) (v := .int (M_generics (M_put_generic (M_put_face r1.2 (M_classes r1.2) (vp_nar .boolean x1)) (M_classes (M_put_face r1.2 (M_classes r1.2) (vp_nar .boolean x1))) (vp_nar .boolean x2)))) (C := R_M) (T := F_M) (N := 35) hx hb hts i_M hown hK.1 hP 0 rfl rfl 3 (by decide) (hts _ wd_394) (fun _ h9 => h9) rfl d_M_declare_58 ?_
    refine lv_iload_n hx hb d_M_declare_61 rfl (lv_at hl 2 rfl) ?_
    refine lv_if_eq (tgt := 69) hx hb d_M_declare_62 (by decide) (fun hc => ?_) (fun hc => ?_)
    · rw [if_pos hc] at h
      refine lv_iconst (v := 0) hx hb d_M_declare_69 (by decide) ?_
      exact t_M_declare_70 (a := a) C0 hA  h hP hD hS (lv_sub hl [0] rfl)
    · rw [if_neg hc] at h
      refine lv_iconst (v := 1) hx hb d_M_declare_65 (by decide) ?_
      refine lv_goto (tgt := 70) hx hb d_M_declare_66 (by decide) ?_
      exact t_M_declare_70 (a := a) C0 hA  h hP hD hS (lv_sub hl [0] rfl)
  · rw [if_pos hc] at h
    refine lv_iconst (v := 0) hx hb d_M_declare_34 (by decide) ?_
    exact rw_ret C0 hP hD hS (Option.some.inj h) d_M_declare_35
set_option maxHeartbeats 4000000 in
set_option maxRecDepth 100000 in
theorem t_M_declare_23 {p : Program} {l : Launch} {e : Env} {s : State} {m : MethodId} {args : Array Value} {below : List Frame} {meth : Method} {c : Code} {D : va_G} {cI cZ : ClassId} {a : Nat → Nat} {A : Nat → Prop} (C0 : Am p s m args meth c b_M_declare (some .int) 3 R_M D [(cI, .int), (cZ, .boolean)]) (hA : ∀ q, s.heap.size ≤ q → A q) {res : Int32 × StM}   {q : Nat} {σ : StM} {x1 x2 : Int32} (h : f_M_declare_23 σ x1 x2 = some res) {H : Heap} {locs : List Loc} (hP : va_P D vwCl (wM cI cZ a q σ) H) (hD : va_D A (wM cI cZ a q σ)) (hS : va_S A s.heap H locs) {ls : Array Slot} (hl : lv_has ls 3 [(0, .ref (a 20)), (1, .int x1), (2, .int x2)]) : W p l e (rmK 1 24 0 0) s m args below meth c H locs 0 0 (RwQ below args s D A (fun q (σ : StM) => (wM cI cZ a q σ)) res 0 0) (F0 m 23 ls [.ref (a 20)]) := by
  obtain ⟨hx, hb, hr, hml, hown, hts, hlk, hK⟩ := id C0
  unfold f_M_declare_23 at h
  refine lv_iconst (v := 1) hx hb d_M_declare_23 (by decide) ?_
  refine lv_goto (tgt := 28) hx hb d_M_declare_24 (by decide) ?_
  exact t_M_declare_28 (a := a) C0 hA  h hP hD hS (lv_sub hl [0, 1, 2] rfl)
set_option maxHeartbeats 4000000 in
set_option maxRecDepth 100000 in
theorem t_M_declare_27 {p : Program} {l : Launch} {e : Env} {s : State} {m : MethodId} {args : Array Value} {below : List Frame} {meth : Method} {c : Code} {D : va_G} {cI cZ : ClassId} {a : Nat → Nat} {A : Nat → Prop} (C0 : Am p s m args meth c b_M_declare (some .int) 3 R_M D [(cI, .int), (cZ, .boolean)]) (hA : ∀ q, s.heap.size ≤ q → A q) {res : Int32 × StM}   {q : Nat} {σ : StM} {x1 x2 : Int32} (h : f_M_declare_27 σ x1 x2 = some res) {H : Heap} {locs : List Loc} (hP : va_P D vwCl (wM cI cZ a q σ) H) (hD : va_D A (wM cI cZ a q σ)) (hS : va_S A s.heap H locs) {ls : Array Slot} (hl : lv_has ls 3 [(0, .ref (a 20)), (1, .int x1), (2, .int x2)]) : W p l e (rmK 1 24 0 0) s m args below meth c H locs 0 0 (RwQ below args s D A (fun q (σ : StM) => (wM cI cZ a q σ)) res 0 0) (F0 m 27 ls [.ref (a 20)]) := by
  obtain ⟨hx, hb, hr, hml, hown, hts, hlk, hK⟩ := id C0
  unfold f_M_declare_27 at h
  refine lv_iconst (v := 0) hx hb d_M_declare_27 (by decide) ?_
  exact t_M_declare_28 (a := a) C0 hA  h hP hD hS (lv_sub hl [0, 1, 2] rfl)
set_option maxHeartbeats 4000000 in
set_option maxRecDepth 100000 in
theorem t_M_declare_0 {p : Program} {l : Launch} {e : Env} {s : State} {m : MethodId} {args : Array Value} {below : List Frame} {meth : Method} {c : Code} {D : va_G} {cI cZ : ClassId} {a : Nat → Nat} {A : Nat → Prop} (C0 : Am p s m args meth c b_M_declare (some .int) 3 R_M D [(cI, .int), (cZ, .boolean)]) (hA : ∀ q, s.heap.size ≤ q → A q) {res : Int32 × StM}   {q : Nat} {σ : StM} {x1 x2 : Int32} (h : f_M_declare σ x1 x2 = some res) {H : Heap} {locs : List Loc} (hP : va_P D vwCl (wM cI cZ a q σ) H) (hD : va_D A (wM cI cZ a q σ)) (hS : va_S A s.heap H locs) {ls : Array Slot} (hl : lv_has ls 3 [(0, .ref (a 20)), (1, .int x1), (2, .int x2)]) : W p l e (rmK 1 24 0 0) s m args below meth c H locs 0 0 (RwQ below args s D A (fun q (σ : StM) => (wM cI cZ a q σ)) res 0 0) (F0 m 0 ls []) := by
  obtain ⟨hx, hb, hr, hml, hown, hts, hlk, hK⟩ := id C0
  unfold f_M_declare at h
  refine lv_aload_n hx hb d_M_declare_0 rfl (lv_at hl 0 rfl) ?_
  refine lv_aload_n hx hb d_M_declare_1 rfl (lv_at hl 0 rfl) ?_
  refine va_get (ci := 4) (v := .int (M_classes σ)) (C := R_M) (T := F_M) (N := 35) hx hb hts i_M hown hK.1 hP 0 rfl rfl 2 (by decide) (hts _ wd_343) (fun _ h9 => h9) rfl d_M_declare_2 ?_
  refine lv_bipush (v := 30) hx hb d_M_declare_5 (by decide) ?_
  refine lv_icmp_eq (tgt := 23) hx hb d_M_declare_7 (by decide) (fun hc => ?_) (fun hc => ?_)
  · rw [if_pos hc] at h
    exact t_M_declare_23 (a := a) C0 hA  h hP hD hS (lv_sub hl [0, 1, 2] rfl)
  · rw [if_neg hc] at h
    refine lv_iload_n hx hb d_M_declare_10 rfl (lv_at hl 2 rfl) ?_
    refine lv_if_eq (tgt := 27) hx hb d_M_declare_11 (by decide) (fun hc => ?_) (fun hc => ?_)
    · rw [if_pos hc] at h
      exact t_M_declare_27 (a := a) C0 hA  h hP hD hS (lv_sub hl [0, 1, 2] rfl)
    · rw [if_neg hc] at h
      refine lv_aload_n hx hb d_M_declare_14 rfl (lv_at hl 0 rfl) ?_
      refine va_get (ci := 4) (v := .int (M_generics σ)) (C := R_M) (T := F_M) (N := 35) hx hb hts i_M hown hK.1 hP 0 rfl rfl 3 (by decide) (hts _ wd_394) (fun _ h9 => h9) rfl d_M_declare_15 ?_
      refine lv_bipush (v := 6) hx hb d_M_declare_18 (by decide) ?_
      refine lv_icmp_ne (tgt := 27) hx hb d_M_declare_20 (by decide) (fun hc => ?_) (fun hc => ?_)
      · rw [if_neg hc] at h
        exact t_M_declare_27 (a := a) C0 hA  h hP hD hS (lv_sub hl [0, 1, 2] rfl)
      · rw [if_pos hc] at h
        exact t_M_declare_23 (a := a) C0 hA  h hP hD hS (lv_sub hl [0, 1, 2] rfl)
set_option maxHeartbeats 4000000 in
set_option maxRecDepth 100000 in
theorem c_M_declare (l : Launch) (D : va_G) (cI cZ : ClassId) (a : Nat → Nat) (q : Nat) (σ : StM) (x1 : Int32) (x2 : Int32) {res : Int32 × StM} (h : f_M_declare σ x1 x2 = some res) : RwM l y_M_declare b_M_declare 3 (some .int) 1 24 D [(cI, .int), (cZ, .boolean)] [.ref (a 20), .int x1, .int x2] (fun q (σ : StM) => (wM cI cZ a q σ)) q σ res :=
  rw_of (by decide) (Nat.le_of_ble_eq_true rfl) (fun p e s m args below meth c ls A C0 hA hP hD hS hl => t_M_declare_0 (a := a) C0 hA h hP hD hS (lv_sub hl [0, 1, 2] rfl))
