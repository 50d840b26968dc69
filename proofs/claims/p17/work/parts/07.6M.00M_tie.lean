def f_M_tie (σ : StM) (x1 x2 x3 : Int32) : Option (Int32 × StM) :=
  if x1 < 0 ∨ 30 ≤ x1.toNatClampNeg then none else
  if ((30 * x1) + ((M_directs σ) x1.toNatClampNeg)) < 0 ∨ 900 ≤ ((30 * x1) + ((M_directs σ) x1.toNatClampNeg)).toNatClampNeg then none else
  if x1 < 0 ∨ 30 ≤ x1.toNatClampNeg then none else
  if ((30 * x1) + ((M_directs (M_put_directTo σ ((30 * x1) + ((M_directs σ) x1.toNatClampNeg)) x2)) x1.toNatClampNeg)) < 0 ∨ 900 ≤ ((30 * x1) + ((M_directs (M_put_directTo σ ((30 * x1) + ((M_directs σ) x1.toNatClampNeg)) x2)) x1.toNatClampNeg)).toNatClampNeg then none else
  if x1 < 0 ∨ 30 ≤ x1.toNatClampNeg then none else
  if x1 < 0 ∨ 30 ≤ x1.toNatClampNeg then none else
  some (0, (M_put_directs (M_put_directArg (M_put_directTo σ ((30 * x1) + ((M_directs σ) x1.toNatClampNeg)) x2) ((30 * x1) + ((M_directs (M_put_directTo σ ((30 * x1) + ((M_directs σ) x1.toNatClampNeg)) x2)) x1.toNatClampNeg)) x3) x1 (((M_directs (M_put_directArg (M_put_directTo σ ((30 * x1) + ((M_directs σ) x1.toNatClampNeg)) x2) ((30 * x1) + ((M_directs (M_put_directTo σ ((30 * x1) + ((M_directs σ) x1.toNatClampNeg)) x2)) x1.toNatClampNeg)) x3)) x1.toNatClampNeg) + 1)))
set_option maxHeartbeats 4000000 in
set_option maxRecDepth 100000 in
theorem t_M_tie_0 {p : Program} {l : Launch} {e : Env} {s : State} {m : MethodId} {args : Array Value} {below : List Frame} {meth : Method} {c : Code} {D : va_G} {cI cZ : ClassId} {a : Nat → Nat} {A : Nat → Prop} (C0 : Am p s m args meth c b_M_tie none 4 R_M D [(cI, .int), (cZ, .boolean)]) (hA : ∀ q, s.heap.size ≤ q → A q) {res : Int32 × StM}   {q : Nat} {σ : StM} {x1 x2 x3 : Int32} (h : f_M_tie σ x1 x2 x3 = some res) {H : Heap} {locs : List Loc} (hP : va_P D vwCl (wM cI cZ a q σ) H) (hD : va_D A (wM cI cZ a q σ)) (hS : va_S A s.heap H locs) {ls : Array Slot} (hl : lv_has ls 4 [(0, .ref (a 20)), (1, .int x1), (2, .int x2), (3, .int x3)]) : W p l e (rmK 0 0 0 0) s m args below meth c H locs 0 0 (RwQv below args s D A (fun q (σ : StM) => (wM cI cZ a q σ)) res 0 0) (F0 m 0 ls []) := by
  obtain ⟨hx, hb, hr, hml, hown, hts, hlk, hK⟩ := id C0
  unfold f_M_tie at h
  refine lv_aload_n hx hb d_M_tie_0 rfl (lv_at hl 0 rfl) ?_
  refine va_get (ci := 4) (v := .ref (a 24)) (C := R_M) (T := F_M) (N := 35) hx hb hts i_M hown hK.1 hP 0 rfl rfl 7 (by decide) (hts _ wd_338) (fun _ h9 => h9) rfl d_M_tie_1 ?_
  refine lv_bipush (v := 30) hx hb d_M_tie_4 (by decide) ?_
  refine lv_iload_n hx hb d_M_tie_6 rfl (lv_at hl 1 rfl) ?_
  refine lv_imul hx hb d_M_tie_7 ?_
  refine lv_aload_n hx hb d_M_tie_8 rfl (lv_at hl 0 rfl) ?_
  refine va_get (ci := 4) (v := .ref (a 23)) (C := R_M) (T := F_M) (N := 35) hx hb hts i_M hown hK.1 hP 0 rfl rfl 6 (by decide) (hts _ wd_339) (fun _ h9 => h9) rfl d_M_tie_9 ?_
  refine lv_iload_n hx hb d_M_tie_12 rfl (lv_at hl 1 rfl) ?_
  replace h := gd h
  obtain ⟨hi, h⟩ := h
  refine va_iald hx hb hK.1 hP 3 0 rfl rfl hi d_M_tie_13 ?_
  refine lv_iadd hx hb d_M_tie_14 ?_
  refine lv_iload_n hx hb d_M_tie_15 rfl (lv_at hl 2 rfl) ?_
  replace h := gd h
  obtain ⟨hi, h⟩ := h
  refine rw_iast C0 hP hD hS 4 0 rfl rfl hi d_M_tie_16 (Wn := (wM cI cZ a q (M_put_directTo σ ((30 * x1) + ((M_directs σ) x1.toNatClampNeg)) x2))) ws_M_put_directTo (fun H locs hP hD hS => ?_)
  refine lv_aload_n hx hb d_M_tie_17 rfl (lv_at hl 0 rfl) ?_
  refine va_get (ci := 4) (v := .ref (a 25)) (C := R_M) (T := F_M) (N := 35) hx hb hts i_M hown hK.1 hP 0 rfl rfl 8 (by decide) (hts _ wd_340) (fun _ h9 => h9) rfl d_M_tie_18 ?_
  refine lv_bipush (v := 30) hx hb d_M_tie_21 (by decide) ?_
  refine lv_iload_n hx hb d_M_tie_23 rfl (lv_at hl 1 rfl) ?_
  refine lv_imul hx hb d_M_tie_24 ?_
  refine lv_aload_n hx hb d_M_tie_25 rfl (lv_at hl 0 rfl) ?_
  refine va_get (ci := 4) (v := .ref (a 23)) (C := R_M) (T := F_M) (N := 35) hx hb hts i_M hown hK.1 hP 0 rfl rfl 6 (by decide) (hts _ wd_339) (fun _ h9 => h9) rfl d_M_tie_26 ?_
  refine lv_iload_n hx hb d_M_tie_29 rfl (lv_at hl 1 rfl) ?_
  replace h := gd h
  obtain ⟨hi, h⟩ := h
  refine va_iald hx hb hK.1 hP 3 0 rfl rfl hi d_M_tie_30 ?_
  refine lv_iadd hx hb d_M_tie_31 ?_
  refine lv_iload_n hx hb d_M_tie_32 rfl (lv_at hl 3 rfl) ?_
  replace h := gd h
  obtain ⟨hi, h⟩ := h
  refine rw_iast C0 hP hD hS 5 0 rfl rfl hi d_M_tie_33 (Wn := (wM cI cZ a q (M_put_directArg (M_put_directTo σ ((30 * x1) + ((M_directs σ) x1.toNatClampNeg)) x2) ((30 * x1) + ((M_directs (M_put_directTo σ ((30 * x1) + ((M_directs σ) x1.toNatClampNeg)) x2)) x1.toNatClampNeg)) x3))) ws_M_put_directArg (fun H locs hP hD hS => ?_)
  refine lv_aload_n hx hb d_M_tie_34 rfl (lv_at hl 0 rfl) ?_
  refine va_get (ci := 4) (v := .ref (a 23)) (C := R_M) (T := F_M) (N := 35) hx hb hts i_M hown hK.1 hP 0 rfl rfl 6 (by decide) (hts _ wd_339) (fun _ h9 => h9) rfl d_M_tie_35 ?_
  refine lv_iload_n hx hb d_M_tie_38 rfl (lv_at hl 1 rfl) ?_
  refine lv_dup2_11 hx hb d_M_tie_39 rfl rfl ?_
  replace h := gd h
  obtain ⟨hi, h⟩ := h
  refine va_iald hx hb hK.1 hP 3 0 rfl rfl hi d_M_tie_40 ?_
  refine lv_iconst (v := 1) hx hb d_M_tie_41 (by decide) ?_
  refine lv_iadd hx hb d_M_tie_42 ?_
  replace h := gd h
  obtain ⟨hi, h⟩ := h
  refine rw_iast C0 hP hD hS 3 0 rfl rfl hi d_M_tie_43 (Wn := (wM cI cZ a q (M_put_directs (M_put_directArg (M_put_directTo σ ((30 * x1) + ((M_directs σ) x1.toNatClampNeg)) x2) ((30 * x1) + ((M_directs (M_put_directTo σ ((30 * x1) + ((M_directs σ) x1.toNatClampNeg)) x2)) x1.toNatClampNeg)) x3) x1 (((M_directs (M_put_directArg (M_put_directTo σ ((30 * x1) + ((M_directs σ) x1.toNatClampNeg)) x2) ((30 * x1) + ((M_directs (M_put_directTo σ ((30 * x1) + ((M_directs σ) x1.toNatClampNeg)) x2)) x1.toNatClampNeg)) x3)) x1.toNatClampNeg) + 1)))) ws_M_put_directs (fun H locs hP hD hS => ?_)
  exact rw_retv C0 hP hD hS (Option.some.inj h) d_M_tie_44
set_option maxHeartbeats 4000000 in
set_option maxRecDepth 100000 in
theorem c_M_tie (l : Launch) (D : va_G) (cI cZ : ClassId) (a : Nat → Nat) (q : Nat) (σ : StM) (x1 : Int32) (x2 : Int32) (x3 : Int32) {res : Int32 × StM} (h : f_M_tie σ x1 x2 x3 = some res) : RwMv l y_M_tie b_M_tie 4 0 0 D [(cI, .int), (cZ, .boolean)] [.ref (a 20), .int x1, .int x2, .int x3] (fun q (σ : StM) => (wM cI cZ a q σ)) q σ res :=
  rw_ofv (by decide) (Nat.le_of_ble_eq_true rfl) (fun p e s m args below meth c ls A C0 hA hP hD hS hl => t_M_tie_0 (a := a) C0 hA h hP hD hS (lv_sub hl [0, 1, 2, 3] rfl))
