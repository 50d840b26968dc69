def f_M_keep (σ : StM) (x1 x2 : Int32) : Option (Int32 × StM) :=
  if x1 < 0 ∨ 500 ≤ x1.toNatClampNeg then none else
  if ((30 * x1) + ((M_size σ) x1.toNatClampNeg)) < 0 ∨ 15000 ≤ ((30 * x1) + ((M_size σ) x1.toNatClampNeg)).toNatClampNeg then none else
  if x1 < 0 ∨ 500 ≤ x1.toNatClampNeg then none else
  if x1 < 0 ∨ 500 ≤ x1.toNatClampNeg then none else
  if x1 < 0 ∨ 500 ≤ x1.toNatClampNeg then none else
  if x1 < 0 ∨ 500 ≤ x1.toNatClampNeg then none else
  some (0, (M_put_at (M_put_size (M_put_parts σ ((30 * x1) + ((M_size σ) x1.toNatClampNeg)) x2) x1 (((M_size (M_put_parts σ ((30 * x1) + ((M_size σ) x1.toNatClampNeg)) x2)) x1.toNatClampNeg) + 1)) x1 (((M_at (M_put_size (M_put_parts σ ((30 * x1) + ((M_size σ) x1.toNatClampNeg)) x2) x1 (((M_size (M_put_parts σ ((30 * x1) + ((M_size σ) x1.toNatClampNeg)) x2)) x1.toNatClampNeg) + 1))) x1.toNatClampNeg) + 1)))
set_option maxHeartbeats 4000000 in
set_option maxRecDepth 100000 in
theorem t_M_keep_0 {p : Program} {l : Launch} {e : Env} {s : State} {m : MethodId} {args : Array Value} {below : List Frame} {meth : Method} {c : Code} {D : va_G} {cI cZ : ClassId} {a : Nat → Nat} {A : Nat → Prop} (C0 : Am p s m args meth c b_M_keep none 3 R_M D [(cI, .int), (cZ, .boolean)]) (hA : ∀ q, s.heap.size ≤ q → A q) {res : Int32 × StM}   {q : Nat} {σ : StM} {x1 x2 : Int32} (h : f_M_keep σ x1 x2 = some res) {H : Heap} {locs : List Loc} (hP : va_P D vwCl (wM cI cZ a q σ) H) (hD : va_D A (wM cI cZ a q σ)) (hS : va_S A s.heap H locs) {ls : Array Slot} (hl : lv_has ls 3 [(0, .ref (a 20)), (1, .int x1), (2, .int x2)]) : W p l e (rmK 0 0 0 0) s m args below meth c H locs 0 0 (RwQv below args s D A (fun q (σ : StM) => (wM cI cZ a q σ)) res 0 0) (F0 m 0 ls []) := by
  obtain ⟨hx, hb, hr, hml, hown, hts, hlk, hK⟩ := id C0
  unfold f_M_keep at h
  refine lv_aload_n hx hb d_M_keep_0 rfl (lv_at hl 0 rfl) ?_
  refine va_get (ci := 4) (v := .ref (a 43)) (C := R_M) (T := F_M) (N := 35) hx hb hts i_M hown hK.1 hP 0 rfl rfl 33 (by decide) (hts _ wd_455) (fun _ h9 => h9) rfl d_M_keep_1 ?_
  refine lv_bipush (v := 30) hx hb d_M_keep_4 (by decide) ?_
  refine lv_iload_n hx hb d_M_keep_6 rfl (lv_at hl 1 rfl) ?_
  refine lv_imul hx hb d_M_keep_7 ?_
  refine lv_aload_n hx hb d_M_keep_8 rfl (lv_at hl 0 rfl) ?_
  refine va_get (ci := 4) (v := .ref (a 42)) (C := R_M) (T := F_M) (N := 35) hx hb hts i_M hown hK.1 hP 0 rfl rfl 32 (by decide) (hts _ wd_452) (fun _ h9 => h9) rfl d_M_keep_9 ?_
  refine lv_iload_n hx hb d_M_keep_12 rfl (lv_at hl 1 rfl) ?_
  replace h := gd h
  obtain ⟨hi, h⟩ := h
  refine va_iald hx hb hK.1 hP 22 0 rfl rfl hi d_M_keep_13 ?_
  refine lv_iadd hx hb d_M_keep_14 ?_
  refine lv_iload_n hx hb d_M_keep_15 rfl (lv_at hl 2 rfl) ?_
  replace h := gd h
  obtain ⟨hi, h⟩ := h
  refine rw_iast C0 hP hD hS 23 0 rfl rfl hi d_M_keep_16 (Wn := (wM cI cZ a q (M_put_parts σ ((30 * x1) + ((M_size σ) x1.toNatClampNeg)) x2))) ws_M_put_parts (fun H locs hP hD hS => ?_)
  refine lv_aload_n hx hb d_M_keep_17 rfl (lv_at hl 0 rfl) ?_
  refine va_get (ci := 4) (v := .ref (a 42)) (C := R_M) (T := F_M) (N := 35) hx hb hts i_M hown hK.1 hP 0 rfl rfl 32 (by decide) (hts _ wd_452) (fun _ h9 => h9) rfl d_M_keep_18 ?_
  refine lv_iload_n hx hb d_M_keep_21 rfl (lv_at hl 1 rfl) ?_
  refine lv_dup2_11 hx hb d_M_keep_22 rfl rfl ?_
  replace h := gd h
  obtain ⟨hi, h⟩ := h
  refine va_iald hx hb hK.1 hP 22 0 rfl rfl hi d_M_keep_23 ?_
  refine lv_iconst (v := 1) hx hb d_M_keep_24 (by decide) ?_
  refine lv_iadd hx hb d_M_keep_25 ?_
  replace h := gd h
  obtain ⟨hi, h⟩ := h
  refine rw_iast C0 hP hD hS 22 0 rfl rfl hi d_M_keep_26 (Wn := (wM cI cZ a q (M_put_size (M_put_parts σ ((30 * x1) + ((M_size σ) x1.toNatClampNeg)) x2) x1 (((M_size (M_put_parts σ ((30 * x1) + ((M_size σ) x1.toNatClampNeg)) x2)) x1.toNatClampNeg) + 1)))) ws_M_put_size (fun H locs hP hD hS => ?_)
  refine lv_aload_n hx hb d_M_keep_27 rfl (lv_at hl 0 rfl) ?_
  refine va_get (ci := 4) (v := .ref (a 41)) (C := R_M) (T := F_M) (N := 35) hx hb hts i_M hown hK.1 hP 0 rfl rfl 31 (by decide) (hts _ wd_453) (fun _ h9 => h9) rfl d_M_keep_28 ?_
  refine lv_iload_n hx hb d_M_keep_31 rfl (lv_at hl 1 rfl) ?_
  refine lv_dup2_11 hx hb d_M_keep_32 rfl rfl ?_
  replace h := gd h
  obtain ⟨hi, h⟩ := h
  refine va_iald hx hb hK.1 hP 21 0 rfl rfl hi d_M_keep_33 ?_
  refine lv_iconst (v := 1) hx hb d_M_keep_34 (by decide) ?_
  refine lv_iadd hx hb d_M_keep_35 ?_
  replace h := gd h
  obtain ⟨hi, h⟩ := h
  refine rw_iast C0 hP hD hS 21 0 rfl rfl hi d_M_keep_36 (Wn := (wM cI cZ a q (M_put_at (M_put_size (M_put_parts σ ((30 * x1) + ((M_size σ) x1.toNatClampNeg)) x2) x1 (((M_size (M_put_parts σ ((30 * x1) + ((M_size σ) x1.toNatClampNeg)) x2)) x1.toNatClampNeg) + 1)) x1 (((M_at (M_put_size (M_put_parts σ ((30 * x1) + ((M_size σ) x1.toNatClampNeg)) x2) x1 (((M_size (M_put_parts σ ((30 * x1) + ((M_size σ) x1.toNatClampNeg)) x2)) x1.toNatClampNeg) + 1))) x1.toNatClampNeg) + 1)))) ws_M_put_at (fun H locs hP hD hS => ?_)
  exact rw_retv C0 hP hD hS (Option.some.inj h) d_M_keep_37
set_option maxHeartbeats 4000000 in
set_option maxRecDepth 100000 in
theorem c_M_keep (l : Launch) (D : va_G) (cI cZ : ClassId) (a : Nat → Nat) (q : Nat) (σ : StM) (x1 : Int32) (x2 : Int32) {res : Int32 × StM} (h : f_M_keep σ x1 x2 = some res) : RwMv l y_M_keep b_M_keep 3 0 0 D [(cI, .int), (cZ, .boolean)] [.ref (a 20), .int x1, .int x2] (fun q (σ : StM) => (wM cI cZ a q σ)) q σ res :=
  rw_ofv (by decide) (Nat.le_of_ble_eq_true rfl) (fun p e s m args below meth c ls A C0 hA hP hD hS hl => t_M_keep_0 (a := a) C0 hA h hP hD hS (lv_sub hl [0, 1, 2] rfl))
