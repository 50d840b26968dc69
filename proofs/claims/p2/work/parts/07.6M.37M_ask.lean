-- part 07.6M.37M_ask.lean.txt
def f_M_ask (σ : StM) (x1 x2 x3 : Int32) : Option (Int32 × StM) :=
  if (M_high σ) < 0 ∨ 500 ≤ (M_high σ).toNatClampNeg then none else
  if (M_high (M_put_left σ (M_high σ) x1)) < 0 ∨ 500 ≤ (M_high (M_put_left σ (M_high σ) x1)).toNatClampNeg then none else
  if (M_high (M_put_right (M_put_left σ (M_high σ) x1) (M_high (M_put_left σ (M_high σ) x1)) x2)) < 0 ∨ 500 ≤ (M_high (M_put_right (M_put_left σ (M_high σ) x1) (M_high (M_put_left σ (M_high σ) x1)) x2)).toNatClampNeg then none else
  if (M_high (M_put_deep (M_put_right (M_put_left σ (M_high σ) x1) (M_high (M_put_left σ (M_high σ) x1)) x2) (M_high (M_put_right (M_put_left σ (M_high σ) x1) (M_high (M_put_left σ (M_high σ) x1)) x2)) x3)) < 0 ∨ 500 ≤ (M_high (M_put_deep (M_put_right (M_put_left σ (M_high σ) x1) (M_high (M_put_left σ (M_high σ) x1)) x2) (M_high (M_put_right (M_put_left σ (M_high σ) x1) (M_high (M_put_left σ (M_high σ) x1)) x2)) x3)).toNatClampNeg then none else
  if (M_high (M_put_stage (M_put_deep (M_put_right (M_put_left σ (M_high σ) x1) (M_high (M_put_left σ (M_high σ) x1)) x2) (M_high (M_put_right (M_put_left σ (M_high σ) x1) (M_high (M_put_left σ (M_high σ) x1)) x2)) x3) (M_high (M_put_deep (M_put_right (M_put_left σ (M_high σ) x1) (M_high (M_put_left σ (M_high σ) x1)) x2) (M_high (M_put_right (M_put_left σ (M_high σ) x1) (M_high (M_put_left σ (M_high σ) x1)) x2)) x3)) 0)) < 0 ∨ 500 ≤ (M_high (M_put_stage (M_put_deep (M_put_right (M_put_left σ (M_high σ) x1) (M_high (M_put_left σ (M_high σ) x1)) x2) (M_high (M_put_right (M_put_left σ (M_high σ) x1) (M_high (M_put_left σ (M_high σ) x1)) x2)) x3) (M_high (M_put_deep (M_put_right (M_put_left σ (M_high σ) x1) (M_high (M_put_left σ (M_high σ) x1)) x2) (M_high (M_put_right (M_put_left σ (M_high σ) x1) (M_high (M_put_left σ (M_high σ) x1)) x2)) x3)) 0)).toNatClampNeg then none else
  if (M_high (M_put_size (M_put_stage (M_put_deep (M_put_right (M_put_left σ (M_high σ) x1) (M_high (M_put_left σ (M_high σ) x1)) x2) (M_high (M_put_right (M_put_left σ (M_high σ) x1) (M_high (M_put_left σ (M_high σ) x1)) x2)) x3) (M_high (M_put_deep (M_put_right (M_put_left σ (M_high σ) x1) (M_high (M_put_left σ (M_high σ) x1)) x2) (M_high (M_put_right (M_put_left σ (M_high σ) x1) (M_high (M_put_left σ (M_high σ) x1)) x2)) x3)) 0) (M_high (M_put_stage (M_put_deep (M_put_right (M_put_left σ (M_high σ) x1) (M_high (M_put_left σ (M_high σ) x1)) x2) (M_high (M_put_right (M_put_left σ (M_high σ) x1) (M_high (M_put_left σ (M_high σ) x1)) x2)) x3) (M_high (M_put_deep (M_put_right (M_put_left σ (M_high σ) x1) (M_high (M_put_left σ (M_high σ) x1)) x2) (M_high (M_put_right (M_put_left σ (M_high σ) x1) (M_high (M_put_left σ (M_high σ) x1)) x2)) x3)) 0)) 0)) < 0 ∨ 500 ≤ (M_high (M_put_size (M_put_stage (M_put_deep (M_put_right (M_put_left σ (M_high σ) x1) (M_high (M_put_left σ (M_high σ) x1)) x2) (M_high (M_put_right (M_put_left σ (M_high σ) x1) (M_high (M_put_left σ (M_high σ) x1)) x2)) x3) (M_high (M_put_deep (M_put_right (M_put_left σ (M_high σ) x1) (M_high (M_put_left σ (M_high σ) x1)) x2) (M_high (M_put_right (M_put_left σ (M_high σ) x1) (M_high (M_put_left σ (M_high σ) x1)) x2)) x3)) 0) (M_high (M_put_stage (M_put_deep (M_put_right (M_put_left σ (M_high σ) x1) (M_high (M_put_left σ (M_high σ) x1)) x2) (M_high (M_put_right (M_put_left σ (M_high σ) x1) (M_high (M_put_left σ (M_high σ) x1)) x2)) x3) (M_high (M_put_deep (M_put_right (M_put_left σ (M_high σ) x1) (M_high (M_put_left σ (M_high σ) x1)) x2) (M_high (M_put_right (M_put_left σ (M_high σ) x1) (M_high (M_put_left σ (M_high σ) x1)) x2)) x3)) 0)) 0)).toNatClampNeg then none else
  some (0, (M_set_high (M_put_at (M_put_size (M_put_stage (M_put_deep (M_put_right (M_put_left σ (M_high σ) x1) (M_high (M_put_left σ (M_high σ) x1)) x2) (M_high (M_put_right (M_put_left σ (M_high σ) x1) (M_high (M_put_left σ (M_high σ) x1)) x2)) x3) (M_high (M_put_deep (M_put_right (M_put_left σ (M_high σ) x1) (M_high (M_put_left σ (M_high σ) x1)) x2) (M_high (M_put_right (M_put_left σ (M_high σ) x1) (M_high (M_put_left σ (M_high σ) x1)) x2)) x3)) 0) (M_high (M_put_stage (M_put_deep (M_put_right (M_put_left σ (M_high σ) x1) (M_high (M_put_left σ (M_high σ) x1)) x2) (M_high (M_put_right (M_put_left σ (M_high σ) x1) (M_high (M_put_left σ (M_high σ) x1)) x2)) x3) (M_high (M_put_deep (M_put_right (M_put_left σ (M_high σ) x1) (M_high (M_put_left σ (M_high σ) x1)) x2) (M_high (M_put_right (M_put_left σ (M_high σ) x1) (M_high (M_put_left σ (M_high σ) x1)) x2)) x3)) 0)) 0) (M_high (M_put_size (M_put_stage (M_put_deep (M_put_right (M_put_left σ (M_high σ) x1) (M_high (M_put_left σ (M_high σ) x1)) x2) (M_high (M_put_right (M_put_left σ (M_high σ) x1) (M_high (M_put_left σ (M_high σ) x1)) x2)) x3) (M_high (M_put_deep (M_put_right (M_put_left σ (M_high σ) x1) (M_high (M_put_left σ (M_high σ) x1)) x2) (M_high (M_put_right (M_put_left σ (M_high σ) x1) (M_high (M_put_left σ (M_high σ) x1)) x2)) x3)) 0) (M_high (M_put_stage (M_put_deep (M_put_right (M_put_left σ (M_high σ) x1) (M_high (M_put_left σ (M_high σ) x1)) x2) (M_high (M_put_right (M_put_left σ (M_high σ) x1) (M_high (M_put_left σ (M_high σ) x1)) x2)) x3) (M_high (M_put_deep (M_put_right (M_put_left σ (M_high σ) x1) (M_high (M_put_left σ (M_high σ) x1)) x2) (M_high (M_put_right (M_put_left σ (M_high σ) x1) (M_high (M_put_left σ (M_high σ) x1)) x2)) x3)) 0)) 0)) 0) ((M_high (M_put_at (M_put_size (M_put_stage (M_put_deep (M_put_right (M_put_left σ (M_high σ) x1) (M_high (M_put_left σ (M_high σ) x1)) x2) (M_high (M_put_right (M_put_left σ (M_high σ) x1) (M_high (M_put_left σ (M_high σ) x1)) x2)) x3) (M_high (M_put_deep (M_put_right (M_put_left σ (M_high σ) x1) (M_high (M_put_left σ (M_high σ) x1)) x2) (M_high (M_put_right (M_put_left σ (M_high σ) x1) (M_high (M_put_left σ (M_high σ) x1)) x2)) x3)) 0) (M_high (M_put_stage (M_put_deep (M_put_right (M_put_left σ (M_high σ) x1) (M_high (M_put_left σ (M_high σ) x1)) x2) (M_high (M_put_right (M_put_left σ (M_high σ) x1) (M_high (M_put_left σ (M_high σ) x1)) x2)) x3) (M_high (M_put_deep (M_put_right (M_put_left σ (M_high σ) x1) (M_high (M_put_left σ (M_high σ) x1)) x2) (M_high (M_put_right (M_put_left σ (M_high σ) x1) (M_high (M_put_left σ (M_high σ) x1)) x2)) x3)) 0)) 0) (M_high (M_put_size (M_put_stage (M_put_deep (M_put_right (M_put_left σ (M_high σ) x1) (M_high (M_put_left σ (M_high σ) x1)) x2) (M_high (M_put_right (M_put_left σ (M_high σ) x1) (M_high (M_put_left σ (M_high σ) x1)) x2)) x3) (M_high (M_put_deep (M_put_right (M_put_left σ (M_high σ) x1) (M_high (M_put_left σ (M_high σ) x1)) x2) (M_high (M_put_right (M_put_left σ (M_high σ) x1) (M_high (M_put_left σ (M_high σ) x1)) x2)) x3)) 0) (M_high (M_put_stage (M_put_deep (M_put_right (M_put_left σ (M_high σ) x1) (M_high (M_put_left σ (M_high σ) x1)) x2) (M_high (M_put_right (M_put_left σ (M_high σ) x1) (M_high (M_put_left σ (M_high σ) x1)) x2)) x3) (M_high (M_put_deep (M_put_right (M_put_left σ (M_high σ) x1) (M_high (M_put_left σ (M_high σ) x1)) x2) (M_high (M_put_right (M_put_left σ (M_high σ) x1) (M_high (M_put_left σ (M_high σ) x1)) x2)) x3)) 0)) 0)) 0)) + 1)))
set_option maxHeartbeats 4000000 in
set_option maxRecDepth 100000 in
theorem t_M_ask_0 {p : Program} {l : Launch} {e : Env} {s : State} {m : MethodId} {args : Array Value} {below : List Frame} {meth : Method} {c : Code} {D : va_G} {cI cZ : ClassId} {a : Nat → Nat} {A : Nat → Prop} (C0 : Am p s m args meth c b_M_ask none 4 R_M D [(cI, .int), (cZ, .boolean)]) (hA : ∀ q, s.heap.size ≤ q → A q) {res : Int32 × StM}   {q : Nat} {σ : StM} {x1 x2 x3 : Int32} (h : f_M_ask σ x1 x2 x3 = some res) {H : Heap} {locs : List Loc} (hP : va_P D vwCl (wM cI cZ a q σ) H) (hD : va_D A (wM cI cZ a q σ)) (hS : va_S A s.heap H locs) {ls : Array Slot} (hl : lv_has ls 4 [(0, .ref (a 20)), (1, .int x1), (2, .int x2), (3, .int x3)]) : W p l e (rmK 0 0 0 0) s m args below meth c H locs 0 0 (RwQv below args s D A (fun q (σ : StM) => (wM cI cZ a q σ)) res 0 0) (F0 m 0 ls []) := by
  obtain ⟨hx, hb, hr, hml, hown, hts, hlk, hK⟩ := id C0
  unfold f_M_ask at h
  refine lv_aload_n hx hb d_M_ask_0 rfl (lv_at hl 0 rfl) ?_
  refine va_get (ci := 4) (v := .ref (a 36)) (C := R_M) (T := F_M) (N := 35) hx hb hts i_M hown hK.1 hP 0 rfl rfl 26 (by decide) (hts _ wd_447) (fun _ h9 => h9) rfl d_M_ask_1 ?_
  refine lv_aload_n hx hb d_M_ask_4 rfl (lv_at hl 0 rfl) ?_
  refine va_get (ci := 4) (v := .int (M_high σ)) (C := R_M) (T := F_M) (N := 35) hx hb hts i_M hown hK.1 hP 0 rfl rfl 25 (by decide) (hts _ wd_448) (fun _ h9 => h9) rfl d_M_ask_5 ?_
  refine lv_iload_n hx hb d_M_ask_8 rfl (lv_at hl 1 rfl) ?_
  replace h := gd h
  obtain ⟨hi, h⟩ := h
  refine rw_iast C0 hP hD hS 16 0 rfl rfl hi d_M_ask_9 (Wn := (wM cI cZ a q (M_put_left σ (M_high σ) x1))) ws_M_put_left (fun H locs hP hD hS => ?_)
  refine lv_aload_n hx hb d_M_ask_10 rfl (lv_at hl 0 rfl) ?_
  refine va_get (ci := 4) (v := .ref (a 37)) (C := R_M) (T := F_M) (N := 35) hx hb hts i_M hown hK.1 hP 0 rfl rfl 27 (by decide) (hts _ wd_449) (fun _ h9 => h9) rfl d_M_ask_11 ?_
  refine lv_aload_n hx hb d_M_ask_14 rfl (lv_at hl 0 rfl) ?_
  refine va_get (ci := 4) (v := .int (M_high (M_put_left σ (M_high σ) x1))) (C := R_M) (T := F_M) (N := 35) hx hb hts i_M hown hK.1 hP 0 rfl rfl 25 (by decide) (hts _ wd_448) (fun _ h9 => h9) rfl d_M_ask_15 ?_
  refine lv_iload_n hx hb d_M_ask_18 rfl (lv_at hl 2 rfl) ?_
  replace h := gd h
  obtain ⟨hi, h⟩ := h
  refine rw_iast C0 hP hD hS 17 0 rfl rfl hi d_M_ask_19 (Wn := (wM cI cZ a q (M_put_right (M_put_left σ (M_high σ) x1) (M_high (M_put_left σ (M_high σ) x1)) x2))) ws_M_put_right (fun H locs hP hD hS => ?_)
  refine lv_aload_n hx hb d_M_ask_20 rfl (lv_at hl 0 rfl) ?_
  refine va_get (ci := 4) (v := .ref (a 38)) (C := R_M) (T := F_M) (N := 35) hx hb hts i_M hown hK.1 hP 0 rfl rfl 28 (by decide) (hts _ wd_450) (fun _ h9 => h9) rfl d_M_ask_21 ?_
  refine lv_aload_n hx hb d_M_ask_24 rfl (lv_at hl 0 rfl) ?_
  refine va_get (ci := 4) (v := .int (M_high (M_put_right (M_put_left σ (M_high σ) x1) (M_high (M_put_left σ (M_high σ) x1)) x2))) (C := R_M) (T := F_M) (N := 35) hx hb hts i_M hown hK.1 hP 0 rfl rfl 25 (by decide) (hts _ wd_448) (fun _ h9 => h9) rfl d_M_ask_25 ?_
  refine lv_iload_n hx hb d_M_ask_28 rfl (lv_at hl 3 rfl) ?_
  replace h := gd h
  obtain ⟨hi, h⟩ := h
  refine rw_iast C0 hP hD hS 18 0 rfl rfl hi d_M_ask_29 (Wn := (wM cI cZ a q (M_put_deep (M_put_right (M_put_left σ (M_high σ) x1) (M_high (M_put_left σ (M_high σ) x1)) x2) (M_high (M_put_right (M_put_left σ (M_high σ) x1) (M_high (M_put_left σ (M_high σ) x1)) x2)) x3))) ws_M_put_deep (fun H locs hP hD hS => ?_)
  refine lv_aload_n hx hb d_M_ask_30 rfl (lv_at hl 0 rfl) ?_
  refine va_get (ci := 4) (v := .ref (a 39)) (C := R_M) (T := F_M) (N := 35) hx hb hts i_M hown hK.1 hP 0 rfl rfl 29 (by decide) (hts _ wd_451) (fun _ h9 => h9) rfl d_M_ask_31 ?_
  refine lv_aload_n hx hb d_M_ask_34 rfl (lv_at hl 0 rfl) ?_
  refine va_get (ci := 4) (v := .int (M_high (M_put_deep (M_put_right (M_put_left σ (M_high σ) x1) (M_high (M_put_left σ (M_high σ) x1)) x2) (M_high (M_put_right (M_put_left σ (M_high σ) x1) (M_high (M_put_left σ (M_high σ) x1)) x2)) x3))) (C := R_M) (T := F_M) (N := 35) hx hb hts i_M hown hK.1 hP 0 rfl rfl 25 (by decide) (hts _ wd_448) (fun _ h9 => h9) rfl d_M_ask_35 ?_
  refine lv_iconst (v := 0) hx hb d_M_ask_38 (by decide) ?_
  replace h := gd h
  obtain ⟨hi, h⟩ := h
  refine rw_iast C0 hP hD hS 19 0 rfl rfl hi d_M_ask_39 (Wn := (wM cI cZ a q (M_put_stage (M_put_deep (M_put_right (M_put_left σ (M_high σ) x1) (M_high (M_put_left σ (M_high σ) x1)) x2) (M_high (M_put_right (M_put_left σ (M_high σ) x1) (M_high (M_put_left σ (M_high σ) x1)) x2)) x3) (M_high (M_put_deep (M_put_right (M_put_left σ (M_high σ) x1) (M_high (M_put_left σ (M_high σ) x1)) x2) (M_high (M_put_right (M_put_left σ (M_high σ) x1) (M_high (M_put_left σ (M_high σ) x1)) x2)) x3)) 0))) ws_M_put_stage (fun H locs hP hD hS => ?_)
  refine lv_aload_n hx hb d_M_ask_40 rfl (lv_at hl 0 rfl) ?_
  refine va_get (ci := 4) (v := .ref (a 42)) (C := R_M) (T := F_M) (N := 35) hx hb hts i_M hown hK.1 hP 0 rfl rfl 32 (by decide) (hts _ wd_452) (fun _ h9 => h9) rfl d_M_ask_41 ?_
  refine lv_aload_n hx hb d_M_ask_44 rfl (lv_at hl 0 rfl) ?_
  refine va_get (ci := 4) (v := .int (M_high (M_put_stage (M_put_deep (M_put_right (M_put_left σ (M_high σ) x1) (M_high (M_put_left σ (M_high σ) x1)) x2) (M_high (M_put_right (M_put_left σ (M_high σ) x1) (M_high (M_put_left σ (M_high σ) x1)) x2)) x3) (M_high (M_put_deep (M_put_right (M_put_left σ (M_high σ) x1) (M_high (M_put_left σ (M_high σ) x1)) x2) (M_high (M_put_right (M_put_left σ (M_high σ) x1) (M_high (M_put_left σ (M_high σ) x1)) x2)) x3)) 0))) (C := R_M) (T := F_M) (N := 35) hx hb hts i_M hown hK.1 hP 0 rfl rfl 25 (by decide) (hts _ wd_448) (fun _ h9 => h9) rfl d_M_ask_45 ?_
  refine lv_iconst (v := 0) hx hb d_M_ask_48 (by decide) ?_
  replace h := gd h
  obtain ⟨hi, h⟩ := h
  refine rw_iast C0 hP hD hS 22 0 rfl rfl hi d_M_ask_49 (Wn := (wM cI cZ a q (M_put_size (M_put_stage (M_put_deep (M_put_right (M_put_left σ (M_high σ) x1) (M_high (M_put_left σ (M_high σ) x1)) x2) (M_high (M_put_right (M_put_left σ (M_high σ) x1) (M_high (M_put_left σ (M_high σ) x1)) x2)) x3) (M_high (M_put_deep (M_put_right (M_put_left σ (M_high σ) x1) (M_high (M_put_left σ (M_high σ) x1)) x2) (M_high (M_put_right (M_put_left σ (M_high σ) x1) (M_high (M_put_left σ (M_high σ) x1)) x2)) x3)) 0) (M_high (M_put_stage (M_put_deep (M_put_right (M_put_left σ (M_high σ) x1) (M_high (M_put_left σ (M_high σ) x1)) x2) (M_high (M_put_right (M_put_left σ (M_high σ) x1) (M_high (M_put_left σ (M_high σ) x1)) x2)) x3) (M_high (M_put_deep (M_put_right (M_put_left σ (M_high σ) x1) (M_high (M_put_left σ (M_high σ) x1)) x2) (M_high (M_put_right (M_put_left σ (M_high σ) x1) (M_high (M_put_left σ (M_high σ) x1)) x2)) x3)) 0)) 0))) ws_M_put_size (fun H locs hP hD hS => ?_)
  refine lv_aload_n hx hb d_M_ask_50 rfl (lv_at hl 0 rfl) ?_
  refine va_get (ci := 4) (v := .ref (a 41)) (C := R_M) (T := F_M) (N := 35) hx hb hts i_M hown hK.1 hP 0 rfl rfl 31 (by decide) (hts _ wd_453) (fun _ h9 => h9) rfl d_M_ask_51 ?_
  refine lv_aload_n hx hb d_M_ask_54 rfl (lv_at hl 0 rfl) ?_
  refine va_get (ci := 4) (v := .int (M_high (M_put_size (M_put_stage (M_put_deep (M_put_right (M_put_left σ (M_high σ) x1) (M_high (M_put_left σ (M_high σ) x1)) x2) (M_high (M_put_right (M_put_left σ (M_high σ) x1) (M_high (M_put_left σ (M_high σ) x1)) x2)) x3) (M_high (M_put_deep (M_put_right (M_put_left σ (M_high σ) x1) (M_high (M_put_left σ (M_high σ) x1)) x2) (M_high (M_put_right (M_put_left σ (M_high σ) x1) (M_high (M_put_left σ (M_high σ) x1)) x2)) x3)) 0) (M_high (M_put_stage (M_put_deep (M_put_right (M_put_left σ (M_high σ) x1) (M_high (M_put_left σ (M_high σ) x1)) x2) (M_high (M_put_right (M_put_left σ (M_high σ) x1) (M_high (M_put_left σ (M_high σ) x1)) x2)) x3) (M_high (M_put_deep (M_put_right (M_put_left σ (M_high σ) x1) (M_high (M_put_left σ (M_high σ) x1)) x2) (M_high (M_put_right (M_put_left σ (M_high σ) x1) (M_high (M_put_left σ (M_high σ) x1)) x2)) x3)) 0)) 0))) (C := R_M) (T := F_M) (N := 35) hx hb hts i_M hown hK.1 hP 0 rfl rfl 25 (by decide) (hts _ wd_448) (fun _ h9 => h9) rfl d_M_ask_55 ?_
  refine lv_iconst (v := 0) hx hb d_M_ask_58 (by decide) ?_
  replace h := gd h
  obtain ⟨hi, h⟩ := h
  refine rw_iast C0 hP hD hS 21 0 rfl rfl hi d_M_ask_59 (Wn := (wM cI cZ a q (M_put_at (M_put_size (M_put_stage (M_put_deep (M_put_right (M_put_left σ (M_high σ) x1) (M_high (M_put_left σ (M_high σ) x1)) x2) (M_high (M_put_right (M_put_left σ (M_high σ) x1) (M_high (M_put_left σ (M_high σ) x1)) x2)) x3) (M_high (M_put_deep (M_put_right (M_put_left σ (M_high σ) x1) (M_high (M_put_left σ (M_high σ) x1)) x2) (M_high (M_put_right (M_put_left σ (M_high σ) x1) (M_high (M_put_left σ (M_high σ) x1)) x2)) x3)) 0) (M_high (M_put_stage (M_put_deep (M_put_right (M_put_left σ (M_high σ) x1) (M_high (M_put_left σ (M_high σ) x1)) x2) (M_high (M_put_right (M_put_left σ (M_high σ) x1) (M_high (M_put_left σ (M_high σ) x1)) x2)) x3) (M_high (M_put_deep (M_put_right (M_put_left σ (M_high σ) x1) (M_high (M_put_left σ (M_high σ) x1)) x2) (M_high (M_put_right (M_put_left σ (M_high σ) x1) (M_high (M_put_left σ (M_high σ) x1)) x2)) x3)) 0)) 0) (M_high (M_put_size (M_put_stage (M_put_deep (M_put_right (M_put_left σ (M_high σ) x1) (M_high (M_put_left σ (M_high σ) x1)) x2) (M_high (M_put_right (M_put_left σ (M_high σ) x1) (M_high (M_put_left σ (M_high σ) x1)) x2)) x3) (M_high (M_put_deep (M_put_right (M_put_left σ (M_high σ) x1) (M_high (M_put_left σ (M_high σ) x1)) x2) (M_high (M_put_right (M_put_left σ (M_high σ) x1) (M_high (M_put_left σ (M_high σ) x1)) x2)) x3)) 0) (M_high (M_put_stage (M_put_deep (M_put_right (M_put_left σ (M_high σ) x1) (M_high (M_put_left σ (M_high σ) x1)) x2) (M_high (M_put_right (M_put_left σ (M_high σ) x1) (M_high (M_put_left σ (M_high σ) x1)) x2)) x3) (M_high (M_put_deep (M_put_right (M_put_left σ (M_high σ) x1) (M_high (M_put_left σ (M_high σ) x1)) x2) (M_high (M_put_right (M_put_left σ (M_high σ) x1) (M_high (M_put_left σ (M_high σ) x1)) x2)) x3)) 0)) 0)) 0))) ws_M_put_at (fun H locs hP hD hS => ?_)
  refine lv_aload_n hx hb d_M_ask_60 rfl (lv_at hl 0 rfl) ?_
  refine lv_dup hx hb d_M_ask_61 rfl ?_
  refine va_get (ci := 4) (v := .int (M_high (M_put_at (M_put_size (M_put_stage (M_put_deep (M_put_right (M_put_left σ (M_high σ) x1) (M_high (M_put_left σ (M_high σ) x1)) x2) (M_high (M_put_right (M_put_left σ (M_high σ) x1) (M_high (M_put_left σ (M_high σ) x1)) x2)) x3) (M_high (M_put_deep (M_put_right (M_put_left σ (M_high σ) x1) (M_high (M_put_left σ (M_high σ) x1)) x2) (M_high (M_put_right (M_put_left σ (M_high σ) x1) (M_high (M_put_left σ (M_high σ) x1)) x2)) x3)) 0) (M_high (M_put_stage (M_put_deep (M_put_right (M_put_left σ (M_high σ) x1) (M_high (M_put_left σ (M_high σ) x1)) x2) (M_high (M_put_right (M_put_left σ (M_high σ) x1) (M_high (M_put_left σ (M_high σ) x1)) x2)) x3) (M_high (M_put_deep (M_put_right (M_put_left σ (M_high σ) x1) (M_high (M_put_left σ (M_high σ) x1)) x2) (M_high (M_put_right (M_put_left σ (M_high σ) x1) (M_high (M_put_left σ (M_high σ) x1)) x2)) x3)) 0)) 0) (M_high (M_put_size (M_put_stage (M_put_deep (M_put_right (M_put_left σ (M_high σ) x1) (M_high (M_put_left σ (M_high σ) x1)) x2) (M_high (M_put_right (M_put_left σ (M_high σ) x1) (M_high (M_put_left σ (M_high σ) x1)) x2)) x3) (M_high (M_put_deep (M_put_right (M_put_left σ (M_high σ) x1) (M_high (M_put_left σ (M_high σ) x1)) x2) (M_high (M_put_right (M_put_left σ (M_high σ) x1) (M_high (M_put_left σ (M_high σ) x1)) x2)) x3)) 0) (M_high (M_put_stage (M_put_deep (M_put_right (M_put_left σ (M_high σ) x1) (M_high (M_put_left σ (M_high σ) x1)) x2) (M_high (M_put_right (M_put_left σ (M_high σ) x1) (M_high (M_put_left σ (M_high σ) x1)) x2)) x3) (M_high (M_put_deep (M_put_right (M_put_left σ (M_high σ) x1) (M_high (M_put_left σ (M_high σ) x1)) x2) (M_high (M_put_right (M_put_left σ (M_high σ) x1) (M_high (M_put_left σ (M_high σ) x1)) x2)) x3)) 0)) 0)) 0))) (C := R_M) (T := F_M) (N := 35) hx hb hts i_M hown hK.1 hP 0 rfl rfl 25 (by decide) (hts _ wd_448) (fun _ h9 => h9) rfl d_M_ask_62 ?_
  refine lv_iconst (v := 1) hx hb d_M_ask_65 (by decide) ?_
  refine lv_iadd hx hb d_M_ask_66 ?_
  refine rw_put (v := .int ((M_high (M_put_at (M_put_size (M_put_stage (M_put_deep (M_put_right (M_put_left σ (M_high σ) x1) (M_high (M_put_left σ (M_high σ) x1)) x2) (M_high (M_put_right (M_put_left σ (M_high σ) x1) (M_high (M_put_left σ (M_high σ) x1)) x2)) x3) (M_high (M_put_deep (M_put_right (M_put_left σ (M_high σ) x1) (M_high (M_put_left σ (M_high σ) x1)) x2) (M_high (M_put_right (M_put_left σ (M_high σ) x1) (M_high (M_put_left σ (M_high σ) x1)) x2)) x3)) 0) (M_high (M_put_stage (M_put_deep (M_put_right (M_put_left σ (M_high σ) x1) (M_high (M_put_left σ (M_high σ) x1)) x2) (M_high (M_put_right (M_put_left σ (M_high σ) x1) (M_high (M_put_left σ (M_high σ) x1)) x2)) x3) (M_high (M_put_deep (M_put_right (M_put_left σ (M_high σ) x1) (M_high (M_put_left σ (M_high σ) x1)) x2) (M_high (M_put_right (M_put_left σ (M_high σ) x1) (M_high (M_put_left σ (M_high σ) x1)) x2)) x3)) 0)) 0) (M_high (M_put_size (M_put_stage (M_put_deep (M_put_right (M_put_left σ (M_high σ) x1) (M_high (M_put_left σ (M_high σ) x1)) x2) (M_high (M_put_right (M_put_left σ (M_high σ) x1) (M_high (M_put_left σ (M_high σ) x1)) x2)) x3) (M_high (M_put_deep (M_put_right (M_put_left σ (M_high σ) x1) (M_high (M_put_left σ (M_high σ) x1)) x2) (M_high (M_put_right (M_put_left σ (M_high σ) x1) (M_high (M_put_left σ (M_high σ) x1)) x2)) x3)) 0) (M_high (M_put_stage (M_put_deep (M_put_right (M_put_left σ (M_high σ) x1) (M_high (M_put_left σ (M_high σ) x1)) x2) (M_high (M_put_right (M_put_left σ (M_high σ) x1) (M_high (M_put_left σ (M_high σ) x1)) x2)) x3) (M_high (M_put_deep (M_put_right (M_put_left σ (M_high σ) x1) (M_high (M_put_left σ (M_high σ) x1)) x2) (M_high (M_put_right (M_put_left σ (M_high σ) x1) (M_high (M_put_left σ (M_high σ) x1)) x2)) x3)) 0)) 0)) 0)) + 1)) (fty := .int) (C := R_M) (T := F_M) (N := 35) C0 hP hD hS i_M ty_M tyok_M nn_M 0 rfl rfl 25 (by decide) (hts _ wd_448) rfl rfl (by decide +kernel) rfl rfl (Nat.le_of_ble_eq_true rfl) d_M_ask_67 (Wn := (wM cI cZ a q (M_set_high (M_put_at (M_put_size (M_put_stage (M_put_deep (M_put_right (M_put_left σ (M_high σ) x1) (M_high (M_put_left σ (M_high σ) x1)) x2) (M_high (M_put_right (M_put_left σ (M_high σ) x1) (M_high (M_put_left σ (M_high σ) x1)) x2)) x3) (M_high (M_put_deep (M_put_right (M_put_left σ (M_high σ) x1) (M_high (M_put_left σ (M_high σ) x1)) x2) (M_high (M_put_right (M_put_left σ (M_high σ) x1) (M_high (M_put_left σ (M_high σ) x1)) x2)) x3)) 0) (M_high (M_put_stage (M_put_deep (M_put_right (M_put_left σ (M_high σ) x1) (M_high (M_put_left σ (M_high σ) x1)) x2) (M_high (M_put_right (M_put_left σ (M_high σ) x1) (M_high (M_put_left σ (M_high σ) x1)) x2)) x3) (M_high (M_put_deep (M_put_right (M_put_left σ (M_high σ) x1) (M_high (M_put_left σ (M_high σ) x1)) x2) (M_high (M_put_right (M_put_left σ (M_high σ) x1) (M_high (M_put_left σ (M_high σ) x1)) x2)) x3)) 0)) 0) (M_high (M_put_size (M_put_stage (M_put_deep (M_put_right (M_put_left σ (M_high σ) x1) (M_high (M_put_left σ (M_high σ) x1)) x2) (M_high (M_put_right (M_put_left σ (M_high σ) x1) (M_high (M_put_left σ (M_high σ) x1)) x2)) x3) (M_high (M_put_deep (M_put_right (M_put_left σ (M_high σ) x1) (M_high (M_put_left σ (M_high σ) x1)) x2) (M_high (M_put_right (M_put_left σ (M_high σ) x1) (M_high (M_put_left σ (M_high σ) x1)) x2)) x3)) 0) (M_high (M_put_stage (M_put_deep (M_put_right (M_put_left σ (M_high σ) x1) (M_high (M_put_left σ (M_high σ) x1)) x2) (M_high (M_put_right (M_put_left σ (M_high σ) x1) (M_high (M_put_left σ (M_high σ) x1)) x2)) x3) (M_high (M_put_deep (M_put_right (M_put_left σ (M_high σ) x1) (M_high (M_put_left σ (M_high σ) x1)) x2) (M_high (M_put_right (M_put_left σ (M_high σ) x1) (M_high (M_put_left σ (M_high σ) x1)) x2)) x3)) 0)) 0)) 0) ((M_high (M_put_at (M_put_size (M_put_stage (M_put_deep (M_put_right (M_put_left σ (M_high σ) x1) (M_high (M_put_left σ (M_high σ) x1)) x2) (M_high (M_put_right (M_put_left σ (M_high σ) x1) (M_high (M_put_left σ (M_high σ) x1)) x2)) x3) (M_high (M_put_deep (M_put_right (M_put_left σ (M_high σ) x1) (M_high (M_put_left σ (M_high σ) x1)) x2) (M_high (M_put_right (M_put_left σ (M_high σ) x1) (M_high (M_put_left σ (M_high σ) x1)) x2)) x3)) 0) (M_high (M_put_stage (M_put_deep (M_put_right (M_put_left σ (M_high σ) x1) (M_high (M_put_left σ (M_high σ) x1)) x2) (M_high (M_put_right (M_put_left σ (M_high σ) x1) (M_high (M_put_left σ (M_high σ) x1)) x2)) x3) (M_high (M_put_deep (M_put_right (M_put_left σ (M_high σ) x1) (M_high (M_put_left σ (M_high σ) x1)) x2) (M_high (M_put_right (M_put_left σ (M_high σ) x1) (M_high (M_put_left σ (M_high σ) x1)) x2)) x3)) 0)) 0) (M_high (M_put_size (M_put_stage (M_put_deep (M_put_right (M_put_left σ (M_high σ) x1) (M_high (M_put_left σ (M_high σ) x1)) x2) (M_high (M_put_right (M_put_left σ (M_high σ) x1) (M_high (M_put_left σ (M_high σ) x1)) x2)) x3) (M_high (M_put_deep (M_put_right (M_put_left σ (M_high σ) x1) (M_high (M_put_left σ (M_high σ) x1)) x2) (M_high (M_put_right (M_put_left σ (M_high σ) x1) (M_high (M_put_left σ (M_high σ) x1)) x2)) x3)) 0) (M_high (M_put_stage (M_put_deep (M_put_right (M_put_left σ (M_high σ) x1) (M_high (M_put_left σ (M_high σ) x1)) x2) (M_high (M_put_right (M_put_left σ (M_high σ) x1) (M_high (M_put_left σ (M_high σ) x1)) x2)) x3) (M_high (M_put_deep (M_put_right (M_put_left σ (M_high σ) x1) (M_high (M_put_left σ (M_high σ) x1)) x2) (M_high (M_put_right (M_put_left σ (M_high σ) x1) (M_high (M_put_left σ (M_high σ) x1)) x2)) x3)) 0)) 0)) 0)) + 1)))) ws_M_set_high (fun H locs hP hD hS => ?_)
  exact rw_retv C0 hP hD hS (Option.some.inj h) d_M_ask_70
set_option maxHeartbeats 4000000 in
set_option maxRecDepth 100000 in
theorem c_M_ask (l : Launch) (D : va_G) (cI cZ : ClassId) (a : Nat → Nat) (q : Nat) (σ : StM) (x1 : Int32) (x2 : Int32) (x3 : Int32) {res : Int32 × StM} (h : f_M_ask σ x1 x2 x3 = some res) : RwMv l y_M_ask b_M_ask 4 0 0 D [(cI, .int), (cZ, .boolean)] [.ref (a 20), .int x1, .int x2, .int x3] (fun q (σ : StM) => (wM cI cZ a q σ)) q σ res :=
  rw_ofv (by decide) (Nat.le_of_ble_eq_true rfl) (fun p e s m args below meth c ls A C0 hA hP hD hS hl => t_M_ask_0 (a := a) C0 hA h hP hD hS (lv_sub hl [0, 1, 2, 3] rfl))
-- part 07.6M.38M_tell.lean.txt
def f_M_tell (σ : StM) (x1 : Int32) : Option (Int32 × StM) :=
  some (0, (M_set_high (M_set_answer σ x1) ((M_high (M_set_answer σ x1)) - 1)))
set_option maxHeartbeats 4000000 in
set_option maxRecDepth 100000 in
theorem t_M_tell_0 {p : Program} {l : Launch} {e : Env} {s : State} {m : MethodId} {args : Array Value} {below : List Frame} {meth : Method} {c : Code} {D : va_G} {cI cZ : ClassId} {a : Nat → Nat} {A : Nat → Prop} (C0 : Am p s m args meth c b_M_tell none 2 R_M D [(cI, .int), (cZ, .boolean)]) (hA : ∀ q, s.heap.size ≤ q → A q) {res : Int32 × StM}   {q : Nat} {σ : StM} {x1 : Int32} (h : f_M_tell σ x1 = some res) {H : Heap} {locs : List Loc} (hP : va_P D vwCl (wM cI cZ a q σ) H) (hD : va_D A (wM cI cZ a q σ)) (hS : va_S A s.heap H locs) {ls : Array Slot} (hl : lv_has ls 2 [(0, .ref (a 20)), (1, .int x1)]) : W p l e (rmK 0 0 0 0) s m args below meth c H locs 0 0 (RwQv below args s D A (fun q (σ : StM) => (wM cI cZ a q σ)) res 0 0) (F0 m 0 ls []) := by
  obtain ⟨hx, hb, hr, hml, hown, hts, hlk, hK⟩ := id C0
  unfold f_M_tell at h
  refine lv_aload_n hx hb d_M_tell_0 rfl (lv_at hl 0 rfl) ?_
  refine lv_iload_n hx hb d_M_tell_1 rfl (lv_at hl 1 rfl) ?_
  refine rw_put (v := .int x1) (fty := .int) (C := R_M) (T := F_M) (N := 35) C0 hP hD hS i_M ty_M tyok_M nn_M 0 rfl rfl 34 (by decide) (hts _ wd_454) rfl rfl (by decide +kernel) rfl rfl (Nat.le_of_ble_eq_true rfl) d_M_tell_2 (Wn := (wM cI cZ a q (M_set_answer σ x1))) ws_M_set_answer (fun H locs hP hD hS => ?_)
  refine lv_aload_n hx hb d_M_tell_5 rfl (lv_at hl 0 rfl) ?_
  refine lv_dup hx hb d_M_tell_6 rfl ?_
  refine va_get (ci := 4) (v := .int (M_high (M_set_answer σ x1))) (C := R_M) (T := F_M) (N := 35) hx hb hts i_M hown hK.1 hP 0 rfl rfl 25 (by decide) (hts _ wd_448) (fun _ h9 => h9) rfl d_M_tell_7 ?_
  refine lv_iconst (v := 1) hx hb d_M_tell_10 (by decide) ?_
  refine lv_isub hx hb d_M_tell_11 ?_
  refine rw_put (v := .int ((M_high (M_set_answer σ x1)) - 1)) (fty := .int) (C := R_M) (T := F_M) (N := 35) C0 hP hD hS i_M ty_M tyok_M nn_M 0 rfl rfl 25 (by decide) (hts _ wd_448) rfl rfl (by decide +kernel) rfl rfl (Nat.le_of_ble_eq_true rfl) d_M_tell_12 (Wn := (wM cI cZ a q (M_set_high (M_set_answer σ x1) ((M_high (M_set_answer σ x1)) - 1)))) ws_M_set_high (fun H locs hP hD hS => ?_)
  exact rw_retv C0 hP hD hS (Option.some.inj h) d_M_tell_15
set_option maxHeartbeats 4000000 in
set_option maxRecDepth 100000 in
theorem c_M_tell (l : Launch) (D : va_G) (cI cZ : ClassId) (a : Nat → Nat) (q : Nat) (σ : StM) (x1 : Int32) {res : Int32 × StM} (h : f_M_tell σ x1 = some res) : RwMv l y_M_tell b_M_tell 2 0 0 D [(cI, .int), (cZ, .boolean)] [.ref (a 20), .int x1] (fun q (σ : StM) => (wM cI cZ a q σ)) q σ res :=
  rw_ofv (by decide) (Nat.le_of_ble_eq_true rfl) (fun p e s m args below meth c ls A C0 hA hP hD hS hl => t_M_tell_0 (a := a) C0 hA h hP hD hS (lv_sub hl [0, 1] rfl))
-- part 07.6M.39M_keep.lean.txt
def f_M_keep (σ : StM) (x1 x2 : Int32) : Option (Int32 × StM) :=
  if x1 < 0 ∨ 500 ≤ x1.toNatClampNeg then none else
  if ((30 * x1) + ((M_size σ) x1.toNatClampNeg)) < 0 ∨ 15000 ≤ ((30 * x1) + ((M_size σ) x1.toNatClampNeg)).toNatClampNeg then none else
  if x1 < 0 ∨ 500 ≤ x1.toNatClampNeg then none else
  if x1 < 0 ∨ 500 ≤ x1.toNatClampNeg then none else
  if x1 < 0 ∨ 500 ≤ x1.toNatClampNeg then none else
  if x1 < 0 ∨ 500 ≤ x1.toNatClampNeg then none else
  some (0, (M_put_at (M_put_size (M_put_parts σ ((30 * x1) + ((M_size σ) x1.toNatClampNeg)) x2) x1 (((M_size (M_put_parts σ ((30 * x1) + ((M_size σ) x1.toNatClampNeg)) x2)) x1.toNatClampNeg) + 1)) x1 (((M_at (M_put_size (M_put_parts σ ((30 * x1) + ((M_size σ) x1.toNatClampNeg)) x2) x1 (((M_size (M_put_parts σ ((30 * x1) + ((M_size σ) x1.toNatClampNeg)) x2)) x1.toNatClampNeg) + 1))) x1.toNatClampNeg) + 1)))
set_option maxHeartbeats 4000000 in
set_option maxRecDepth 100000 in
theorem t_M_keep_0 {p : Program} {l : Launch} {e : Env} {s : State} {m : MethodId} {args : Array Value} {below : List Frame} {meth : Method} {c : Code} {D : va_G} {cI cZ : ClassId} {a : Nat → Nat} {A : Nat → Prop} (C0 : Am p s m args meth c b_M_keep none 3 R_M D [(cI, .int), (cZ, .boolean)]) (hA : ∀ q, s.heap.size ≤ q → A q) {res : Int32 × StM}   {q : Nat} {σ : StM} {x1 x2 : Int32} (h : f_M_keep σ x1 x2 = some res) {H : Heap} {locs : List Loc} (hP : va_P D vwCl (wM cI cZ a q σ) H) (hD : va_D A (wM cI cZ a q σ)) (hS : va_S A s.heap H locs) {ls : Array Slot} (hl : lv_has ls 3 [(0, .ref (a 20)), (1, .int x1), (2, .int x2)]) : W p l e (rmK 0 0 0 0) s m args below meth c H locs 0 0 (RwQv below args s D A (fun q (σ : StM) => (wM cI cZ a q σ)) res 0 0) (F0 m 0 ls []) := by
  obtain ⟨hx, hb, hr, hml, hown, hts, hlk, hK⟩ := id C0
  unfold f_M_keep at h
  refine lv_aload_n hx hb d_M_keep_0 rfl (lv_at hl 0 rfl) ?_
  refine va_get (ci := 4) (v := .ref (a 43)) (C := R_M) (T := F_M) (N := 35) hx hb hts i_M hown hK.1 hP 0 rfl rfl 33 (by decide) (hts _ wd_455) (fun _ h9 => h9) rfl d_M_keep_1 ?_
  refine lv_bipush (v := 30) hx hb d_M_keep_4 (by decide) ?_
  refine lv_iload_n hx hb d_M_keep_6 rfl (lv_at hl 1 rfl) ?_
  refine lv_imul hx hb d_M_keep_7 ?_
  refine lv_aload_n hx hb d_M_keep_8 rfl (lv_at hl 0 rfl) ?_
  refine va_get (ci := 4) (v := .ref (a 42)) (C := R_M) (T := F_M) (N := 35) hx hb hts i_M hown hK.1 hP 0 rfl rfl 32 (by decide) (hts _ wd_452) (fun _ h9 => h9) rfl d_M_keep_9 ?_
  refine lv_iload_n hx hb d_M_keep_12 rfl (lv_at hl 1 rfl) ?_
  replace h := gd h
  obtain ⟨hi, h⟩ := h
  refine va_iald hx hb hK.1 hP 22 0 rfl rfl hi d_M_keep_13 ?_
  refine lv_iadd hx hb d_M_keep_14 ?_
  refine lv_iload_n hx hb d_M_keep_15 rfl (lv_at hl 2 rfl) ?_
  replace h := gd h
  obtain ⟨hi, h⟩ := h
  refine rw_iast C0 hP hD hS 23 0 rfl rfl hi d_M_keep_16 (Wn := (wM cI cZ a q (M_put_parts σ ((30 * x1) + ((M_size σ) x1.toNatClampNeg)) x2))) ws_M_put_parts (fun H locs hP hD hS => ?_)
  refine lv_aload_n hx hb d_M_keep_17 rfl (lv_at hl 0 rfl) ?_
  refine va_get (ci := 4) (v := .ref (a 42)) (C := R_M) (T := F_M) (N := 35) hx hb hts i_M hown hK.1 hP 0 rfl rfl 32 (by decide) (hts _ wd_452) (fun _ h9 => h9) rfl d_M_keep_18 ?_
  refine lv_iload_n hx hb d_M_keep_21 rfl (lv_at hl 1 rfl) ?_
  refine lv_dup2_11 hx hb d_M_keep_22 rfl rfl ?_
  replace h := gd h
  obtain ⟨hi, h⟩ := h
  refine va_iald hx hb hK.1 hP 22 0 rfl rfl hi d_M_keep_23 ?_
  refine lv_iconst (v := 1) hx hb d_M_keep_24 (by decide) ?_
  refine lv_iadd hx hb d_M_keep_25 ?_
  replace h := gd h
  obtain ⟨hi, h⟩ := h
  refine rw_iast C0 hP hD hS 22 0 rfl rfl hi d_M_keep_26 (Wn := (wM cI cZ a q (M_put_size (M_put_parts σ ((30 * x1) + ((M_size σ) x1.toNatClampNeg)) x2) x1 (((M_size (M_put_parts σ ((30 * x1) + ((M_size σ) x1.toNatClampNeg)) x2)) x1.toNatClampNeg) + 1)))) ws_M_put_size (fun H locs hP hD hS => ?_)
  refine lv_aload_n hx hb d_M_keep_27 rfl (lv_at hl 0 rfl) ?_
  refine va_get (ci := 4) (v := .ref (a 41)) (C := R_M) (T := F_M) (N := 35) hx hb hts i_M hown hK.1 hP 0 rfl rfl 31 (by decide) (hts _ wd_453) (fun _ h9 => h9) rfl d_M_keep_28 ?_
  refine lv_iload_n hx hb d_M_keep_31 rfl (lv_at hl 1 rfl) ?_
  refine lv_dup2_11 hx hb d_M_keep_32 rfl rfl ?_
  replace h := gd h
  obtain ⟨hi, h⟩ := h
  refine va_iald hx hb hK.1 hP 21 0 rfl rfl hi d_M_keep_33 ?_
  refine lv_iconst (v := 1) hx hb d_M_keep_34 (by decide) ?_
  refine lv_iadd hx hb d_M_keep_35 ?_
  replace h := gd h
  obtain ⟨hi, h⟩ := h
  refine rw_iast C0 hP hD hS 21 0 rfl rfl hi d_M_keep_36 (Wn := (wM cI cZ a q (M_put_at (M_put_size (M_put_parts σ ((30 * x1) + ((M_size σ) x1.toNatClampNeg)) x2) x1 (((M_size (M_put_parts σ ((30 * x1) + ((M_size σ) x1.toNatClampNeg)) x2)) x1.toNatClampNeg) + 1)) x1 (((M_at (M_put_size (M_put_parts σ ((30 * x1) + ((M_size σ) x1.toNatClampNeg)) x2) x1 (((M_size (M_put_parts σ ((30 * x1) + ((M_size σ) x1.toNatClampNeg)) x2)) x1.toNatClampNeg) + 1))) x1.toNatClampNeg) + 1)))) ws_M_put_at (fun H locs hP hD hS => ?_)
  exact rw_retv C0 hP hD hS (Option.some.inj h) d_M_keep_37
set_option maxHeartbeats 4000000 in
set_option maxRecDepth 100000 in
theorem c_M_keep (l : Launch) (D : va_G) (cI cZ : ClassId) (a : Nat → Nat) (q : Nat) (σ : StM) (x1 : Int32) (x2 : Int32) {res : Int32 × StM} (h : f_M_keep σ x1 x2 = some res) : RwMv l y_M_keep b_M_keep 3 0 0 D [(cI, .int), (cZ, .boolean)] [.ref (a 20), .int x1, .int x2] (fun q (σ : StM) => (wM cI cZ a q σ)) q σ res :=
  rw_ofv (by decide) (Nat.le_of_ble_eq_true rfl) (fun p e s m args below meth c ls A C0 hA hP hD hS hl => t_M_keep_0 (a := a) C0 hA h hP hD hS (lv_sub hl [0, 1, 2] rfl))
-- part 07.6M.40M_begin.lean.txt
def f_M_begin_174 (σ : StM) (x1 x2 x3 : Int32) : Option (Int32 × StM) :=
  (f_M_commonOf σ x2 x3).bind fun r1 =>
  (f_M_leastOf r1.2 r1.1).bind fun r2 =>
  if x1 < 0 ∨ 500 ≤ x1.toNatClampNeg then none else
  if x1 < 0 ∨ 500 ≤ x1.toNatClampNeg then none else
  some (0, (M_put_stage (M_put_least r1.2 x1 r2) x1 2))
def f_M_begin_85 (σ : StM) (x1 x2 t0 : Int32) : Option (Int32 × StM) :=
  if x1 < 0 ∨ 500 ≤ x1.toNatClampNeg then none else
  if x1 < 0 ∨ 500 ≤ x1.toNatClampNeg then none else
  if x2 < 0 ∨ 300 ≤ x2.toNatClampNeg then none else
  if ((M_kind (M_put_right (M_put_left σ x1 x2) x1 t0)) x2.toNatClampNeg) = 2 then
    if t0 < 0 ∨ 300 ≤ t0.toNatClampNeg then none else
    if ((M_kind (M_put_right (M_put_left σ x1 x2) x1 t0)) t0.toNatClampNeg) = 2 then
      if x2 < 0 ∨ 300 ≤ x2.toNatClampNeg then none else
      if ((M_inner (M_put_right (M_put_left σ x1 x2) x1 t0)) x2.toNatClampNeg) ≤ 7 then
        f_M_begin_174 (M_put_right (M_put_left σ x1 x2) x1 t0) x1 x2 t0
      else
        if t0 < 0 ∨ 300 ≤ t0.toNatClampNeg then none else
        if ((M_inner (M_put_right (M_put_left σ x1 x2) x1 t0)) t0.toNatClampNeg) ≤ 7 then
          f_M_begin_174 (M_put_right (M_put_left σ x1 x2) x1 t0) x1 x2 t0
        else
          if x1 < 0 ∨ 500 ≤ x1.toNatClampNeg then none else
          if x2 < 0 ∨ 300 ≤ x2.toNatClampNeg then none else
          if t0 < 0 ∨ 300 ≤ t0.toNatClampNeg then none else
          if x1 < 0 ∨ 500 ≤ x1.toNatClampNeg then none else
          (f_M_ask (M_put_stage (M_put_right (M_put_left σ x1 x2) x1 t0) x1 1) ((M_inner (M_put_stage (M_put_right (M_put_left σ x1 x2) x1 t0) x1 1)) x2.toNatClampNeg) ((M_inner (M_put_stage (M_put_right (M_put_left σ x1 x2) x1 t0) x1 1)) t0.toNatClampNeg) ((M_deep (M_put_stage (M_put_right (M_put_left σ x1 x2) x1 t0) x1 1)) x1.toNatClampNeg)).bind fun r3 =>
          some (0, r3.2)
    else
      f_M_begin_174 (M_put_right (M_put_left σ x1 x2) x1 t0) x1 x2 t0
  else
    f_M_begin_174 (M_put_right (M_put_left σ x1 x2) x1 t0) x1 x2 t0
def f_M_begin_55 (σ : StM) (x1 t0 : Int32) : Option (Int32 × StM) :=
  if x1 < 0 ∨ 500 ≤ x1.toNatClampNeg then none else
  if 8 ≤ ((M_right σ) x1.toNatClampNeg) then
    if x1 < 0 ∨ 500 ≤ x1.toNatClampNeg then none else
    f_M_begin_85 σ x1 t0 ((M_right σ) x1.toNatClampNeg)
  else
    if x1 < 0 ∨ 500 ≤ x1.toNatClampNeg then none else
    f_M_begin_85 σ x1 t0 (((M_right σ) x1.toNatClampNeg) + 8)
def f_M_begin (σ : StM) (x1 : Int32) : Option (Int32 × StM) :=
  if x1 < 0 ∨ 500 ≤ x1.toNatClampNeg then none else
  if x1 < 0 ∨ 500 ≤ x1.toNatClampNeg then none else
  if ((M_left σ) x1.toNatClampNeg) = ((M_right σ) x1.toNatClampNeg) then
    if x1 < 0 ∨ 500 ≤ x1.toNatClampNeg then none else
    (f_M_tell σ ((M_left σ) x1.toNatClampNeg)).bind fun r4 =>
    some (0, r4.2)
  else
    if x1 < 0 ∨ 500 ≤ x1.toNatClampNeg then none else
    if 8 ≤ ((M_left σ) x1.toNatClampNeg) then
      if x1 < 0 ∨ 500 ≤ x1.toNatClampNeg then none else
      f_M_begin_55 σ x1 ((M_left σ) x1.toNatClampNeg)
    else
      if x1 < 0 ∨ 500 ≤ x1.toNatClampNeg then none else
      f_M_begin_55 σ x1 (((M_left σ) x1.toNatClampNeg) + 8)
set_option maxHeartbeats 4000000 in
set_option maxRecDepth 100000 in
theorem t_M_begin_174 {p : Program} {l : Launch} {e : Env} {s : State} {m : MethodId} {args : Array Value} {below : List Frame} {meth : Method} {c : Code} {D : va_G} {cI cZ : ClassId} {a : Nat → Nat} {A : Nat → Prop} (C0 : Am p s m args meth c b_M_begin none 4 R_M D [(cI, .int), (cZ, .boolean)]) (hA : ∀ q, s.heap.size ≤ q → A q) {res : Int32 × StM}   {q : Nat} {σ : StM} {x1 x2 x3 : Int32} (h : f_M_begin_174 σ x1 x2 x3 = some res) {H : Heap} {locs : List Loc} (hP : va_P D vwCl (wM cI cZ a q σ) H) (hD : va_D A (wM cI cZ a q σ)) (hS : va_S A s.heap H locs) {ls : Array Slot} (hl : lv_has ls 4 [(0, .ref (a 20)), (1, .int x1), (2, .int x2), (3, .int x3)]) : W p l e (rmK 4 99 0 0) s m args below meth c H locs 0 0 (RwQv below args s D A (fun q (σ : StM) => (wM cI cZ a q σ)) res 0 0) (F0 m 174 ls []) := by
  obtain ⟨hx, hb, hr, hml, hown, hts, hlk, hK⟩ := id C0
  unfold f_M_begin_174 at h
  refine lv_aload_n hx hb d_M_begin_174 rfl (lv_at hl 0 rfl) ?_
  refine va_get (ci := 4) (v := .ref (a 40)) (C := R_M) (T := F_M) (N := 35) hx hb hts i_M hown hK.1 hP 0 rfl rfl 30 (by decide) (hts _ wd_456) (fun _ h9 => h9) rfl d_M_begin_175 ?_
  refine lv_iload_n hx hb d_M_begin_178 rfl (lv_at hl 1 rfl) ?_
  refine lv_aload_n hx hb d_M_begin_179 rfl (lv_at hl 0 rfl) ?_
  refine lv_aload_n hx hb d_M_begin_180 rfl (lv_at hl 0 rfl) ?_
  refine lv_iload_n hx hb d_M_begin_181 rfl (lv_at hl 2 rfl) ?_
  refine lv_iload_n hx hb d_M_begin_182 rfl (lv_at hl 3 rfl) ?_
  replace h := bd h
  obtain ⟨r1, g1, h⟩ := h
  refine rw_V (n := 2) (ci := 4) (As := [.int x2, .int x3]) (rest := [.ref (a 20), .int x1, .ref (a 40)]) (Wn := fun _ => (wM cI cZ a q r1.2)) C0 hA (c_M_commonOf l D cI cZ a q σ x2 x3 g1) wd_439 ⟨wd_440, wd_441, wd_442, wd_352⟩ (by decide +kernel) ⟨Nat.le_of_ble_eq_true rfl, Nat.le_of_ble_eq_true rfl⟩ hP hD hS [0, 1, 2, 3, 4, 5, 6, 7, 8, 9, 10, 11, 12, 13, 14, 15, 16, 17, 18, 19, 20, 21, 22, 23] [] [0, 1, 2, 3, 4, 5, 6, 7, 8, 9, 10, 11, 12, 13, 14, 15, 16, 17, 18, 19, 20, 21, 22, 23] jn_M__C (by decide) jn_M__R (by decide) (by decide) (by decide) jn_M__W rfl rfl rfl hl rfl rfl (Nat.le_of_ble_eq_true rfl) ⟨Nat.zero_le _, Nat.zero_le _⟩ d_M_begin_183 (fun H locs _ hP hD hS => ?_)
  try dsimp only at h
  replace h := bd h
  obtain ⟨r2, g2, h⟩ := h
  refine ro_V (n := 1) (ci := 4) (As := [.int r1.1]) (rest := [.int x1, .ref (a 40)]) C0 (c_M_leastOf l D cI cZ a q r1.2 r1.1 g2) wd_443 ⟨wd_444, wd_445, wd_446, wd_352⟩ (by decide +kernel) ⟨Nat.le_of_ble_eq_true rfl, Nat.le_of_ble_eq_true rfl⟩ hP rfl rfl rfl hl rfl rfl (Nat.le_of_ble_eq_true rfl) ⟨Nat.zero_le _, Nat.zero_le _⟩ d_M_begin_186 ?_
  try dsimp only at h
  replace h := gd h
  obtain ⟨hi, h⟩ := h
  refine rw_iast C0 hP hD hS 20 0 rfl rfl hi d_M_begin_189 (Wn := (wM cI cZ a q (M_put_least r1.2 x1 r2))) ws_M_put_least (fun H locs hP hD hS => ?_)
  refine lv_aload_n hx hb d_M_begin_190 rfl (lv_at hl 0 rfl) ?_
  refine va_get (ci := 4) (v := .ref (a 39)) (C := R_M) (T := F_M) (N := 35) hx hb hts i_M hown hK.1 hP 0 rfl rfl 29 (by decide) (hts _ wd_451) (fun _ h9 => h9) rfl d_M_begin_191 ?_
  refine lv_iload_n hx hb d_M_begin_194 rfl (lv_at hl 1 rfl) ?_
  refine lv_iconst (v := 2) hx hb d_M_begin_195 (by decide) ?_
  replace h := gd h
  obtain ⟨hi, h⟩ := h
  refine rw_iast C0 hP hD hS 19 0 rfl rfl hi d_M_begin_196 (Wn := (wM cI cZ a q (M_put_stage (M_put_least r1.2 x1 r2) x1 2))) ws_M_put_stage (fun H locs hP hD hS => ?_)
  exact rw_retv C0 hP hD hS (Option.some.inj h) d_M_begin_197
set_option maxHeartbeats 4000000 in
set_option maxRecDepth 100000 in
theorem t_M_begin_85 {p : Program} {l : Launch} {e : Env} {s : State} {m : MethodId} {args : Array Value} {below : List Frame} {meth : Method} {c : Code} {D : va_G} {cI cZ : ClassId} {a : Nat → Nat} {A : Nat → Prop} (C0 : Am p s m args meth c b_M_begin none 4 R_M D [(cI, .int), (cZ, .boolean)]) (hA : ∀ q, s.heap.size ≤ q → A q) {res : Int32 × StM}   {q : Nat} {σ : StM} {x1 x2 t0 : Int32} (h : f_M_begin_85 σ x1 x2 t0 = some res) {H : Heap} {locs : List Loc} (hP : va_P D vwCl (wM cI cZ a q σ) H) (hD : va_D A (wM cI cZ a q σ)) (hS : va_S A s.heap H locs) {ls : Array Slot} (hl : lv_has ls 4 [(0, .ref (a 20)), (1, .int x1), (2, .int x2)]) : W p l e (rmK 4 99 0 0) s m args below meth c H locs 0 0 (RwQv below args s D A (fun q (σ : StM) => (wM cI cZ a q σ)) res 0 0) (F0 m 85 ls [.int t0]) := by
  obtain ⟨hx, hb, hr, hml, hown, hts, hlk, hK⟩ := id C0
  unfold f_M_begin_85 at h
  refine lv_istore_n (lv' := [(3, .int t0), (0, .ref (a 20)), (1, .int x1), (2, .int x2)]) hx hb d_M_begin_85 rfl hl (by decide) rfl (fun ls hl => ?_)
  refine lv_aload_n hx hb d_M_begin_86 rfl (lv_at hl 1 rfl) ?_
  refine va_get (ci := 4) (v := .ref (a 36)) (C := R_M) (T := F_M) (N := 35) hx hb hts i_M hown hK.1 hP 0 rfl rfl 26 (by decide) (hts _ wd_447) (fun _ h9 => h9) rfl d_M_begin_87 ?_
  refine lv_iload_n hx hb d_M_begin_90 rfl (lv_at hl 2 rfl) ?_
  refine lv_iload_n hx hb d_M_begin_91 rfl (lv_at hl 3 rfl) ?_
  replace h := gd h
  obtain ⟨hi, h⟩ := h
  refine rw_iast C0 hP hD hS 16 0 rfl rfl hi d_M_begin_92 (Wn := (wM cI cZ a q (M_put_left σ x1 x2))) ws_M_put_left (fun H locs hP hD hS => ?_)
  refine lv_aload_n hx hb d_M_begin_93 rfl (lv_at hl 1 rfl) ?_
  refine va_get (ci := 4) (v := .ref (a 37)) (C := R_M) (T := F_M) (N := 35) hx hb hts i_M hown hK.1 hP 0 rfl rfl 27 (by decide) (hts _ wd_449) (fun _ h9 => h9) rfl d_M_begin_94 ?_
  refine lv_iload_n hx hb d_M_begin_97 rfl (lv_at hl 2 rfl) ?_
  refine lv_iload_n hx hb d_M_begin_98 rfl (lv_at hl 0 rfl) ?_
  replace h := gd h
  obtain ⟨hi, h⟩ := h
  refine rw_iast C0 hP hD hS 17 0 rfl rfl hi d_M_begin_99 (Wn := (wM cI cZ a q (M_put_right (M_put_left σ x1 x2) x1 t0))) ws_M_put_right (fun H locs hP hD hS => ?_)
  refine lv_aload_n hx hb d_M_begin_100 rfl (lv_at hl 1 rfl) ?_
  refine va_get (ci := 4) (v := .ref (a 27)) (C := R_M) (T := F_M) (N := 35) hx hb hts i_M hown hK.1 hP 0 rfl rfl 11 (by decide) (hts _ wd_353) (fun _ h9 => h9) rfl d_M_begin_101 ?_
  refine lv_iload_n hx hb d_M_begin_104 rfl (lv_at hl 3 rfl) ?_
  replace h := gd h
  obtain ⟨hi, h⟩ := h
  refine va_iald hx hb hK.1 hP 7 0 rfl rfl hi d_M_begin_105 ?_
  refine lv_iconst (v := 2) hx hb d_M_begin_106 (by decide) ?_
  refine lv_icmp_ne (tgt := 174) hx hb d_M_begin_107 (by decide) (fun hc => ?_) (fun hc => ?_)
  · rw [if_neg hc] at h
    exact t_M_begin_174 (a := a) C0 hA  h hP hD hS (lv_sub hl [1, 2, 3, 0] rfl)
  · rw [if_pos hc] at h
    refine lv_aload_n hx hb d_M_begin_110 rfl (lv_at hl 1 rfl) ?_
    refine va_get (ci := 4) (v := .ref (a 27)) (C := R_M) (T := F_M) (N := 35) hx hb hts i_M hown hK.1 hP 0 rfl rfl 11 (by decide) (hts _ wd_353) (fun _ h9 => h9) rfl d_M_begin_111 ?_
    refine lv_iload_n hx hb d_M_begin_114 rfl (lv_at hl 0 rfl) ?_
    replace h := gd h
    obtain ⟨hi, h⟩ := h
    refine va_iald hx hb hK.1 hP 7 0 rfl rfl hi d_M_begin_115 ?_
    refine lv_iconst (v := 2) hx hb d_M_begin_116 (by decide) ?_
    refine lv_icmp_ne (tgt := 174) hx hb d_M_begin_117 (by decide) (fun hc => ?_) (fun hc => ?_)
    · rw [if_neg hc] at h
      exact t_M_begin_174 (a := a) C0 hA  h hP hD hS (lv_sub hl [1, 2, 3, 0] rfl)
    · rw [if_pos hc] at h
      refine lv_aload_n hx hb d_M_begin_120 rfl (lv_at hl 1 rfl) ?_
      refine va_get (ci := 4) (v := .ref (a 30)) (C := R_M) (T := F_M) (N := 35) hx hb hts i_M hown hK.1 hP 0 rfl rfl 14 (by decide) (hts _ wd_358) (fun _ h9 => h9) rfl d_M_begin_121 ?_
      refine lv_iload_n hx hb d_M_begin_124 rfl (lv_at hl 3 rfl) ?_
      replace h := gd h
      obtain ⟨hi, h⟩ := h
      refine va_iald hx hb hK.1 hP 10 0 rfl rfl hi d_M_begin_125 ?_
      refine lv_bipush (v := 7) hx hb d_M_begin_126 (by decide) ?_
      refine lv_icmp_le (tgt := 174) hx hb d_M_begin_128 (by decide) (fun hc => ?_) (fun hc => ?_)
      · rw [if_pos hc] at h
        exact t_M_begin_174 (a := a) C0 hA  h hP hD hS (lv_sub hl [1, 2, 3, 0] rfl)
      · rw [if_neg hc] at h
        refine lv_aload_n hx hb d_M_begin_131 rfl (lv_at hl 1 rfl) ?_
        refine va_get (ci := 4) (v := .ref (a 30)) (C := R_M) (T := F_M) (N := 35) hx hb hts i_M hown hK.1 hP 0 rfl rfl 14 (by decide) (hts _ wd_358) (fun _ h9 => h9) rfl d_M_begin_132 ?_
        refine lv_iload_n hx hb d_M_begin_135 rfl (lv_at hl 0 rfl) ?_
        replace h := gd h
        obtain ⟨hi, h⟩ := h
        refine va_iald hx hb hK.1 hP 10 0 rfl rfl hi d_M_begin_136 ?_
        refine lv_bipush (v := 7) hx hb d_M_begin_137 (by decide) ?_
        refine lv_icmp_le (tgt := 174) hx hb d_M_begin_139 (by decide) (fun hc => ?_) (fun hc => ?_)
        · rw [if_pos hc] at h
          exact t_M_begin_174 (a := a) C0 hA  h hP hD hS (lv_sub hl [1, 2, 3, 0] rfl)
        · rw [if_neg hc] at h
          refine lv_aload_n hx hb d_M_begin_142 rfl (lv_at hl 1 rfl) ?_
          refine va_get (ci := 4) (v := .ref (a 39)) (C := R_M) (T := F_M) (N := 35) hx hb hts i_M hown hK.1 hP 0 rfl rfl 29 (by decide) (hts _ wd_451) (fun _ h9 => h9) rfl d_M_begin_143 ?_
          refine lv_iload_n hx hb d_M_begin_146 rfl (lv_at hl 2 rfl) ?_
          refine lv_iconst (v := 1) hx hb d_M_begin_147 (by decide) ?_
          replace h := gd h
          obtain ⟨hi, h⟩ := h
          refine rw_iast C0 hP hD hS 19 0 rfl rfl hi d_M_begin_148 (Wn := (wM cI cZ a q (M_put_stage (M_put_right (M_put_left σ x1 x2) x1 t0) x1 1))) ws_M_put_stage (fun H locs hP hD hS => ?_)
          refine lv_aload_n hx hb d_M_begin_149 rfl (lv_at hl 1 rfl) ?_
          refine lv_aload_n hx hb d_M_begin_150 rfl (lv_at hl 1 rfl) ?_
          refine va_get (ci := 4) (v := .ref (a 30)) (C := R_M) (T := F_M) (N := 35) hx hb hts i_M hown hK.1 hP 0 rfl rfl 14 (by decide) (hts _ wd_358) (fun _ h9 => h9) rfl d_M_begin_151 ?_
          refine lv_iload_n hx hb d_M_begin_154 rfl (lv_at hl 3 rfl) ?_
          replace h := gd h
          obtain ⟨hi, h⟩ := h
          refine va_iald hx hb hK.1 hP 10 0 rfl rfl hi d_M_begin_155 ?_
          refine lv_aload_n hx hb d_M_begin_156 rfl (lv_at hl 1 rfl) ?_
          refine va_get (ci := 4) (v := .ref (a 30)) (C := R_M) (T := F_M) (N := 35) hx hb hts i_M hown hK.1 hP 0 rfl rfl 14 (by decide) (hts _ wd_358) (fun _ h9 => h9) rfl d_M_begin_157 ?_
          refine lv_iload_n hx hb d_M_begin_160 rfl (lv_at hl 0 rfl) ?_
          replace h := gd h
          obtain ⟨hi, h⟩ := h
          refine va_iald hx hb hK.1 hP 10 0 rfl rfl hi d_M_begin_161 ?_
          refine lv_aload_n hx hb d_M_begin_162 rfl (lv_at hl 1 rfl) ?_
          refine va_get (ci := 4) (v := .ref (a 38)) (C := R_M) (T := F_M) (N := 35) hx hb hts i_M hown hK.1 hP 0 rfl rfl 28 (by decide) (hts _ wd_450) (fun _ h9 => h9) rfl d_M_begin_163 ?_
          refine lv_iload_n hx hb d_M_begin_166 rfl (lv_at hl 2 rfl) ?_
          replace h := gd h
          obtain ⟨hi, h⟩ := h
          refine va_iald hx hb hK.1 hP 18 0 rfl rfl hi d_M_begin_167 ?_
          replace h := bd h
          obtain ⟨r3, g3, h⟩ := h
          refine rw_Vv (n := 3) (ci := 4) (As := [.int ((M_inner (M_put_stage (M_put_right (M_put_left σ x1 x2) x1 t0) x1 1)) x2.toNatClampNeg), .int ((M_inner (M_put_stage (M_put_right (M_put_left σ x1 x2) x1 t0) x1 1)) t0.toNatClampNeg), .int ((M_deep (M_put_stage (M_put_right (M_put_left σ x1 x2) x1 t0) x1 1)) x1.toNatClampNeg)]) (rest := []) (Wn := fun _ => (wM cI cZ a q r3.2)) C0 hA (c_M_ask l D cI cZ a q (M_put_stage (M_put_right (M_put_left σ x1 x2) x1 t0) x1 1) ((M_inner (M_put_stage (M_put_right (M_put_left σ x1 x2) x1 t0) x1 1)) x2.toNatClampNeg) ((M_inner (M_put_stage (M_put_right (M_put_left σ x1 x2) x1 t0) x1 1)) t0.toNatClampNeg) ((M_deep (M_put_stage (M_put_right (M_put_left σ x1 x2) x1 t0) x1 1)) x1.toNatClampNeg) g3) wd_457 ⟨wd_458, wd_459, wd_460, wd_352⟩ (by decide +kernel) ⟨Nat.le_of_ble_eq_true rfl, Nat.le_of_ble_eq_true rfl⟩ hP hD hS [0, 1, 2, 3, 4, 5, 6, 7, 8, 9, 10, 11, 12, 13, 14, 15, 16, 17, 18, 19, 20, 21, 22, 23] [] [0, 1, 2, 3, 4, 5, 6, 7, 8, 9, 10, 11, 12, 13, 14, 15, 16, 17, 18, 19, 20, 21, 22, 23] jn_M__C (by decide) jn_M__R (by decide) (by decide) (by decide) jn_M__W rfl rfl rfl hl rfl rfl (Nat.le_of_ble_eq_true rfl) ⟨Nat.zero_le _, Nat.zero_le _⟩ d_M_begin_168 (fun H locs _ hP hD hS => ?_)
          try dsimp only at h
          refine lv_goto (tgt := 197) hx hb d_M_begin_171 (by decide) ?_
          exact rw_retv C0 hP hD hS (Option.some.inj h) d_M_begin_197
set_option maxHeartbeats 4000000 in
set_option maxRecDepth 100000 in
theorem t_M_begin_55 {p : Program} {l : Launch} {e : Env} {s : State} {m : MethodId} {args : Array Value} {below : List Frame} {meth : Method} {c : Code} {D : va_G} {cI cZ : ClassId} {a : Nat → Nat} {A : Nat → Prop} (C0 : Am p s m args meth c b_M_begin none 4 R_M D [(cI, .int), (cZ, .boolean)]) (hA : ∀ q, s.heap.size ≤ q → A q) {res : Int32 × StM}   {q : Nat} {σ : StM} {x1 t0 : Int32} (h : f_M_begin_55 σ x1 t0 = some res) {H : Heap} {locs : List Loc} (hP : va_P D vwCl (wM cI cZ a q σ) H) (hD : va_D A (wM cI cZ a q σ)) (hS : va_S A s.heap H locs) {ls : Array Slot} (hl : lv_has ls 4 [(0, .ref (a 20)), (1, .int x1)]) : W p l e (rmK 4 99 0 0) s m args below meth c H locs 0 0 (RwQv below args s D A (fun q (σ : StM) => (wM cI cZ a q σ)) res 0 0) (F0 m 55 ls [.int t0]) := by
  obtain ⟨hx, hb, hr, hml, hown, hts, hlk, hK⟩ := id C0
  unfold f_M_begin_55 at h
  refine lv_istore_n (lv' := [(2, .int t0), (0, .ref (a 20)), (1, .int x1)]) hx hb d_M_begin_55 rfl hl (by decide) rfl (fun ls hl => ?_)
  refine lv_aload_n hx hb d_M_begin_56 rfl (lv_at hl 1 rfl) ?_
  refine va_get (ci := 4) (v := .ref (a 37)) (C := R_M) (T := F_M) (N := 35) hx hb hts i_M hown hK.1 hP 0 rfl rfl 27 (by decide) (hts _ wd_449) (fun _ h9 => h9) rfl d_M_begin_57 ?_
  refine lv_iload_n hx hb d_M_begin_60 rfl (lv_at hl 2 rfl) ?_
  replace h := gd h
  obtain ⟨hi, h⟩ := h
  refine va_iald hx hb hK.1 hP 17 0 rfl rfl hi d_M_begin_61 ?_
  refine lv_bipush (v := 8) hx hb d_M_begin_62 (by decide) ?_
  refine lv_icmp_ge (tgt := 79) hx hb d_M_begin_64 (by decide) (fun hc => ?_) (fun hc => ?_)
  · rw [if_pos hc] at h
    refine lv_aload_n hx hb d_M_begin_79 rfl (lv_at hl 1 rfl) ?_
    refine va_get (ci := 4) (v := .ref (a 37)) (C := R_M) (T := F_M) (N := 35) hx hb hts i_M hown hK.1 hP 0 rfl rfl 27 (by decide) (hts _ wd_449) (fun _ h9 => h9) rfl d_M_begin_80 ?_
    refine lv_iload_n hx hb d_M_begin_83 rfl (lv_at hl 2 rfl) ?_
    replace h := gd h
    obtain ⟨hi, h⟩ := h
    refine va_iald hx hb hK.1 hP 17 0 rfl rfl hi d_M_begin_84 ?_
    exact t_M_begin_85 (a := a) C0 hA  h hP hD hS (lv_sub hl [1, 2, 0] rfl)
  · rw [if_neg hc] at h
    refine lv_aload_n hx hb d_M_begin_67 rfl (lv_at hl 1 rfl) ?_
    refine va_get (ci := 4) (v := .ref (a 37)) (C := R_M) (T := F_M) (N := 35) hx hb hts i_M hown hK.1 hP 0 rfl rfl 27 (by decide) (hts _ wd_449) (fun _ h9 => h9) rfl d_M_begin_68 ?_
    refine lv_iload_n hx hb d_M_begin_71 rfl (lv_at hl 2 rfl) ?_
    replace h := gd h
    obtain ⟨hi, h⟩ := h
    refine va_iald hx hb hK.1 hP 17 0 rfl rfl hi d_M_begin_72 ?_
    refine lv_bipush (v := 8) hx hb d_M_begin_73 (by decide) ?_
    refine lv_iadd hx hb d_M_begin_75 ?_
    refine lv_goto (tgt := 85) hx hb d_M_begin_76 (by decide) ?_
    exact t_M_begin_85 (a := a) C0 hA  h hP hD hS (lv_sub hl [1, 2, 0] rfl)
set_option maxHeartbeats 4000000 in
set_option maxRecDepth 100000 in
theorem t_M_begin_0 {p : Program} {l : Launch} {e : Env} {s : State} {m : MethodId} {args : Array Value} {below : List Frame} {meth : Method} {c : Code} {D : va_G} {cI cZ : ClassId} {a : Nat → Nat} {A : Nat → Prop} (C0 : Am p s m args meth c b_M_begin none 4 R_M D [(cI, .int), (cZ, .boolean)]) (hA : ∀ q, s.heap.size ≤ q → A q) {res : Int32 × StM}   {q : Nat} {σ : StM} {x1 : Int32} (h : f_M_begin σ x1 = some res) {H : Heap} {locs : List Loc} (hP : va_P D vwCl (wM cI cZ a q σ) H) (hD : va_D A (wM cI cZ a q σ)) (hS : va_S A s.heap H locs) {ls : Array Slot} (hl : lv_has ls 4 [(0, .ref (a 20)), (1, .int x1)]) : W p l e (rmK 4 99 0 0) s m args below meth c H locs 0 0 (RwQv below args s D A (fun q (σ : StM) => (wM cI cZ a q σ)) res 0 0) (F0 m 0 ls []) := by
  obtain ⟨hx, hb, hr, hml, hown, hts, hlk, hK⟩ := id C0
  unfold f_M_begin at h
  refine lv_aload_n hx hb d_M_begin_0 rfl (lv_at hl 0 rfl) ?_
  refine va_get (ci := 4) (v := .ref (a 36)) (C := R_M) (T := F_M) (N := 35) hx hb hts i_M hown hK.1 hP 0 rfl rfl 26 (by decide) (hts _ wd_447) (fun _ h9 => h9) rfl d_M_begin_1 ?_
  refine lv_iload_n hx hb d_M_begin_4 rfl (lv_at hl 1 rfl) ?_
  replace h := gd h
  obtain ⟨hi, h⟩ := h
  refine va_iald hx hb hK.1 hP 16 0 rfl rfl hi d_M_begin_5 ?_
  refine lv_aload_n hx hb d_M_begin_6 rfl (lv_at hl 0 rfl) ?_
  refine va_get (ci := 4) (v := .ref (a 37)) (C := R_M) (T := F_M) (N := 35) hx hb hts i_M hown hK.1 hP 0 rfl rfl 27 (by decide) (hts _ wd_449) (fun _ h9 => h9) rfl d_M_begin_7 ?_
  refine lv_iload_n hx hb d_M_begin_10 rfl (lv_at hl 1 rfl) ?_
  replace h := gd h
  obtain ⟨hi, h⟩ := h
  refine va_iald hx hb hK.1 hP 17 0 rfl rfl hi d_M_begin_11 ?_
  refine lv_icmp_ne (tgt := 26) hx hb d_M_begin_12 (by decide) (fun hc => ?_) (fun hc => ?_)
  · rw [if_neg hc] at h
    refine lv_aload_n hx hb d_M_begin_26 rfl (lv_at hl 0 rfl) ?_
    refine va_get (ci := 4) (v := .ref (a 36)) (C := R_M) (T := F_M) (N := 35) hx hb hts i_M hown hK.1 hP 0 rfl rfl 26 (by decide) (hts _ wd_447) (fun _ h9 => h9) rfl d_M_begin_27 ?_
    refine lv_iload_n hx hb d_M_begin_30 rfl (lv_at hl 1 rfl) ?_
    replace h := gd h
    obtain ⟨hi, h⟩ := h
    refine va_iald hx hb hK.1 hP 16 0 rfl rfl hi d_M_begin_31 ?_
    refine lv_bipush (v := 8) hx hb d_M_begin_32 (by decide) ?_
    refine lv_icmp_ge (tgt := 49) hx hb d_M_begin_34 (by decide) (fun hc => ?_) (fun hc => ?_)
    · rw [if_pos hc] at h
      refine lv_aload_n hx hb d_M_begin_49 rfl (lv_at hl 0 rfl) ?_
      refine va_get (ci := 4) (v := .ref (a 36)) (C := R_M) (T := F_M) (N := 35) hx hb hts i_M hown hK.1 hP 0 rfl rfl 26 (by decide) (hts _ wd_447) (fun _ h9 => h9) rfl d_M_begin_50 ?_
      refine lv_iload_n hx hb d_M_begin_53 rfl (lv_at hl 1 rfl) ?_
      replace h := gd h
      obtain ⟨hi, h⟩ := h
      refine va_iald hx hb hK.1 hP 16 0 rfl rfl hi d_M_begin_54 ?_
      exact t_M_begin_55 (a := a) C0 hA  h hP hD hS (lv_sub hl [0, 1] rfl)
    · rw [if_neg hc] at h
      refine lv_aload_n hx hb d_M_begin_37 rfl (lv_at hl 0 rfl) ?_
      refine va_get (ci := 4) (v := .ref (a 36)) (C := R_M) (T := F_M) (N := 35) hx hb hts i_M hown hK.1 hP 0 rfl rfl 26 (by decide) (hts _ wd_447) (fun _ h9 => h9) rfl d_M_begin_38 ?_
      refine lv_iload_n hx hb d_M_begin_41 rfl (lv_at hl 1 rfl) ?_
      replace h := gd h
      obtain ⟨hi, h⟩ := h
      refine va_iald hx hb hK.1 hP 16 0 rfl rfl hi d_M_begin_42 ?_
      refine lv_bipush (v := 8) hx hb d_M_begin_43 (by decide) ?_
      refine lv_iadd hx hb d_M_begin_45 ?_
      refine lv_goto (tgt := 55) hx hb d_M_begin_46 (by decide) ?_
      exact t_M_begin_55 (a := a) C0 hA  h hP hD hS (lv_sub hl [0, 1] rfl)
  · rw [if_pos hc] at h
    refine lv_aload_n hx hb d_M_begin_15 rfl (lv_at hl 0 rfl) ?_
    refine lv_aload_n hx hb d_M_begin_16 rfl (lv_at hl 0 rfl) ?_
    refine va_get (ci := 4) (v := .ref (a 36)) (C := R_M) (T := F_M) (N := 35) hx hb hts i_M hown hK.1 hP 0 rfl rfl 26 (by decide) (hts _ wd_447) (fun _ h9 => h9) rfl d_M_begin_17 ?_
    refine lv_iload_n hx hb d_M_begin_20 rfl (lv_at hl 1 rfl) ?_
    replace h := gd h
    obtain ⟨hi, h⟩ := h
    refine va_iald hx hb hK.1 hP 16 0 rfl rfl hi d_M_begin_21 ?_
    replace h := bd h
    obtain ⟨r4, g4, h⟩ := h
    refine rw_Vv (n := 1) (ci := 4) (As := [.int ((M_left σ) x1.toNatClampNeg)]) (rest := []) (Wn := fun _ => (wM cI cZ a q r4.2)) C0 hA (c_M_tell l D cI cZ a q σ ((M_left σ) x1.toNatClampNeg) g4) wd_461 ⟨wd_462, wd_463, wd_464, wd_352⟩ (by decide +kernel) ⟨Nat.le_of_ble_eq_true rfl, Nat.le_of_ble_eq_true rfl⟩ hP hD hS [0, 1, 2, 3, 4, 5, 6, 7, 8, 9, 10, 11, 12, 13, 14, 15, 16, 17, 18, 19, 20, 21, 22, 23] [] [0, 1, 2, 3, 4, 5, 6, 7, 8, 9, 10, 11, 12, 13, 14, 15, 16, 17, 18, 19, 20, 21, 22, 23] jn_M__C (by decide) jn_M__R (by decide) (by decide) (by decide) jn_M__W rfl rfl rfl hl rfl rfl (Nat.le_of_ble_eq_true rfl) ⟨Nat.zero_le _, Nat.zero_le _⟩ d_M_begin_22 (fun H locs _ hP hD hS => ?_)
    try dsimp only at h
    exact rw_retv C0 hP hD hS (Option.some.inj h) d_M_begin_25
set_option maxHeartbeats 4000000 in
set_option maxRecDepth 100000 in
theorem c_M_begin (l : Launch) (D : va_G) (cI cZ : ClassId) (a : Nat → Nat) (q : Nat) (σ : StM) (x1 : Int32) {res : Int32 × StM} (h : f_M_begin σ x1 = some res) : RwMv l y_M_begin b_M_begin 4 4 99 D [(cI, .int), (cZ, .boolean)] [.ref (a 20), .int x1] (fun q (σ : StM) => (wM cI cZ a q σ)) q σ res :=
  rw_ofv (by decide) (Nat.le_of_ble_eq_true rfl) (fun p e s m args below meth c ls A C0 hA hP hD hS hl => t_M_begin_0 (a := a) C0 hA h hP hD hS (lv_sub hl [0, 1] rfl))
-- part 07.6M.41M_goOn.lean.txt
def f_M_goOn_237 (σ : StM) (x1 x2 x4 : Int32) : Option (Int32 × StM) :=
  if x1 < 0 ∨ 500 ≤ x1.toNatClampNeg then none else
  if ((M_deep σ) x1.toNatClampNeg) = 0 then
    (f_M_addNamed σ 0 0 (-1)).bind fun r4 =>
    (f_M_addNamed r4.2 x2 2 r4.1).bind fun r5 =>
    (f_M_keep r5.2 x1 r5.1).bind fun r6 =>
    some (0, r6.2)
  else
    if x1 < 0 ∨ 500 ≤ x1.toNatClampNeg then none else
    if x1 < 0 ∨ 500 ≤ x1.toNatClampNeg then none else
    (f_M_ask (M_put_stage σ x1 3) x4 (M_foundType (M_put_stage σ x1 3)) (((M_deep (M_put_stage σ x1 3)) x1.toNatClampNeg) - 1)).bind fun r3 =>
    some (0, r3.2)
def f_M_goOn_133 (σ : StM) (t1 : Int32) : Option (Int32 × StM) :=
  (f_M_tell σ t1).bind fun r12 =>
  some (0, r12.2)
def f_M_goOn_59_s (k59 : StM → Int32 → Int32 → Option (Int32 × StM)) (σ : StM) (x1 x2 : Int32) : Option (Int32 × StM) :=
  if x1 < 0 ∨ 500 ≤ x1.toNatClampNeg then none else
  if ((M_size σ) x1.toNatClampNeg) ≤ x2 then
    if x1 < 0 ∨ 500 ≤ x1.toNatClampNeg then none else
    if ((M_size σ) x1.toNatClampNeg) = 1 then
      if (0 : Int32) < 0 ∨ 64 ≤ (0 : Int32).toNatClampNeg then none else
      f_M_goOn_133 σ ((M_row σ) (0 : Int32).toNatClampNeg)
    else
      if (M_full σ) = 0 then
        if x1 < 0 ∨ 500 ≤ x1.toNatClampNeg then none else
        (f_M_addBoth σ ((M_size σ) x1.toNatClampNeg)).bind fun r11 =>
        f_M_goOn_133 r11.2 r11.1
      else
        f_M_goOn_133 σ 0
  else
    if ((30 * x1) + x2) < 0 ∨ 15000 ≤ ((30 * x1) + x2).toNatClampNeg then none else
    if x2 < 0 ∨ 64 ≤ x2.toNatClampNeg then none else
    k59 (M_put_row σ x2 ((M_parts σ) ((30 * x1) + x2).toNatClampNeg)) x1 (x2 + 1)
def f_M_goOn_59 : Nat → StM → Int32 → Int32 → Option (Int32 × StM)
  | 0, _, _, _ => none
  | n + 1, σ, x1, x2 => f_M_goOn_59_s (f_M_goOn_59 n) σ x1 x2
def f_M_goOn_44 (σ : StM) (x1 : Int32) : Option (Int32 × StM) :=
  if x1 < 0 ∨ 500 ≤ x1.toNatClampNeg then none else
  if ((M_at σ) x1.toNatClampNeg) = (M_classes σ) then
    f_M_goOn_59 1000 σ x1 0
  else
    if x1 < 0 ∨ 500 ≤ x1.toNatClampNeg then none else
    if ((M_at σ) x1.toNatClampNeg) < 0 ∨ 30 ≤ ((M_at σ) x1.toNatClampNeg).toNatClampNeg then none else
    if ((M_generic σ) ((M_at σ) x1.toNatClampNeg).toNatClampNeg) = 0 then
      (f_M_addNamed σ ((M_at σ) x1.toNatClampNeg) 0 (-1)).bind fun r9 =>
      (f_M_keep r9.2 x1 r9.1).bind fun r10 =>
      some (0, r10.2)
    else
      if x1 < 0 ∨ 500 ≤ x1.toNatClampNeg then none else
      (f_M_lookAt σ ((M_left σ) x1.toNatClampNeg) ((M_at σ) x1.toNatClampNeg)).bind fun r1 =>
      if x1 < 0 ∨ 500 ≤ x1.toNatClampNeg then none else
      (f_M_lookAt r1.2 ((M_right r1.2) x1.toNatClampNeg) ((M_at σ) x1.toNatClampNeg)).bind fun r2 =>
      if (M_foundHow r1.2) = 1 then
        if (M_foundHow r2.2) = 1 then
          if (M_foundType r1.2) = (M_foundType r2.2) then
            (f_M_addNamed r2.2 ((M_at σ) x1.toNatClampNeg) 1 (M_foundType r1.2)).bind fun r7 =>
            (f_M_keep r7.2 x1 r7.1).bind fun r8 =>
            some (0, r8.2)
          else
            f_M_goOn_237 r2.2 x1 ((M_at σ) x1.toNatClampNeg) (M_foundType r1.2)
        else
          f_M_goOn_237 r2.2 x1 ((M_at σ) x1.toNatClampNeg) (M_foundType r1.2)
      else
        f_M_goOn_237 r2.2 x1 ((M_at σ) x1.toNatClampNeg) (M_foundType r1.2)
def f_M_goOn_0_s (k0 : StM → Int32 → Option (Int32 × StM)) (σ : StM) (x1 : Int32) : Option (Int32 × StM) :=
  if x1 < 0 ∨ 500 ≤ x1.toNatClampNeg then none else
  if (M_classes σ) ≤ ((M_at σ) x1.toNatClampNeg) then
    f_M_goOn_44 σ x1
  else
    if x1 < 0 ∨ 500 ≤ x1.toNatClampNeg then none else
    if x1 < 0 ∨ 500 ≤ x1.toNatClampNeg then none else
    if ((((M_least σ) x1.toNatClampNeg) >>> (((M_at σ) x1.toNatClampNeg) &&& 31)) &&& 1) = 0 then
      if x1 < 0 ∨ 500 ≤ x1.toNatClampNeg then none else
      if x1 < 0 ∨ 500 ≤ x1.toNatClampNeg then none else
      k0 (M_put_at σ x1 (((M_at σ) x1.toNatClampNeg) + 1)) x1
    else
      f_M_goOn_44 σ x1
def f_M_goOn_0 : Nat → StM → Int32 → Option (Int32 × StM)
  | 0, _, _ => none
  | n + 1, σ, x1 => f_M_goOn_0_s (f_M_goOn_0 n) σ x1
def f_M_goOn (σ : StM) (x1 : Int32) : Option (Int32 × StM) := f_M_goOn_0 1000 σ x1
set_option maxHeartbeats 4000000 in
set_option maxRecDepth 100000 in
theorem t_M_goOn_237 {p : Program} {l : Launch} {e : Env} {s : State} {m : MethodId} {args : Array Value} {below : List Frame} {meth : Method} {c : Code} {D : va_G} {cI cZ : ClassId} {a : Nat → Nat} {A : Nat → Prop} (C0 : Am p s m args meth c b_M_goOn none 6 R_M D [(cI, .int), (cZ, .boolean)]) (hA : ∀ q, s.heap.size ≤ q → A q) {res : Int32 × StM}   {q : Nat} {σ : StM} {x1 x2 x4 : Int32} (h : f_M_goOn_237 σ x1 x2 x4 = some res) {H : Heap} {locs : List Loc} (hP : va_P D vwCl (wM cI cZ a q σ) H) (hD : va_D A (wM cI cZ a q σ)) (hS : va_S A s.heap H locs) {ls : Array Slot} (hl : lv_has ls 6 [(0, .ref (a 20)), (1, .int x1), (2, .int x2), (4, .int x4)]) : W p l e (rmK 3 74 0 0) s m args below meth c H locs 0 0 (RwQv below args s D A (fun q (σ : StM) => (wM cI cZ a q σ)) res 0 0) (F0 m 237 ls []) := by
  obtain ⟨hx, hb, hr, hml, hown, hts, hlk, hK⟩ := id C0
  unfold f_M_goOn_237 at h
  refine lv_aload_n hx hb d_M_goOn_237 rfl (lv_at hl 0 rfl) ?_
  refine va_get (ci := 4) (v := .ref (a 38)) (C := R_M) (T := F_M) (N := 35) hx hb hts i_M hown hK.1 hP 0 rfl rfl 28 (by decide) (hts _ wd_450) (fun _ h9 => h9) rfl d_M_goOn_238 ?_
  refine lv_iload_n hx hb d_M_goOn_241 rfl (lv_at hl 1 rfl) ?_
  replace h := gd h
  obtain ⟨hi, h⟩ := h
  refine va_iald hx hb hK.1 hP 18 0 rfl rfl hi d_M_goOn_242 ?_
  refine lv_if_ne (tgt := 271) hx hb d_M_goOn_243 (by decide) (fun hc => ?_) (fun hc => ?_)
  · rw [if_neg hc] at h
    refine lv_aload_n hx hb d_M_goOn_271 rfl (lv_at hl 0 rfl) ?_
    refine va_get (ci := 4) (v := .ref (a 39)) (C := R_M) (T := F_M) (N := 35) hx hb hts i_M hown hK.1 hP 0 rfl rfl 29 (by decide) (hts _ wd_451) (fun _ h9 => h9) rfl d_M_goOn_272 ?_
    refine lv_iload_n hx hb d_M_goOn_275 rfl (lv_at hl 1 rfl) ?_
    refine lv_iconst (v := 3) hx hb d_M_goOn_276 (by decide) ?_
    replace h := gd h
    obtain ⟨hi, h⟩ := h
    refine rw_iast C0 hP hD hS 19 0 rfl rfl hi d_M_goOn_277 (Wn := (wM cI cZ a q (M_put_stage σ x1 3))) ws_M_put_stage (fun H locs hP hD hS => ?_)
    refine lv_aload_n hx hb d_M_goOn_278 rfl (lv_at hl 0 rfl) ?_
    refine lv_iload hx hb d_M_goOn_279 (lv_at hl 3 rfl) ?_
    refine lv_aload_n hx hb d_M_goOn_281 rfl (lv_at hl 0 rfl) ?_
    refine va_get (ci := 4) (v := .int (M_foundType (M_put_stage σ x1 3))) (C := R_M) (T := F_M) (N := 35) hx hb hts i_M hown hK.1 hP 0 rfl rfl 21 (by decide) (hts _ wd_347) (fun _ h9 => h9) rfl d_M_goOn_282 ?_
    refine lv_aload_n hx hb d_M_goOn_285 rfl (lv_at hl 0 rfl) ?_
    refine va_get (ci := 4) (v := .ref (a 38)) (C := R_M) (T := F_M) (N := 35) hx hb hts i_M hown hK.1 hP 0 rfl rfl 28 (by decide) (hts _ wd_450) (fun _ h9 => h9) rfl d_M_goOn_286 ?_
    refine lv_iload_n hx hb d_M_goOn_289 rfl (lv_at hl 1 rfl) ?_
    replace h := gd h
    obtain ⟨hi, h⟩ := h
    refine va_iald hx hb hK.1 hP 18 0 rfl rfl hi d_M_goOn_290 ?_
    refine lv_iconst (v := 1) hx hb d_M_goOn_291 (by decide) ?_
    refine lv_isub hx hb d_M_goOn_292 ?_
    replace h := bd h
    obtain ⟨r3, g3, h⟩ := h
    refine rw_Vv (n := 3) (ci := 4) (As := [.int x4, .int (M_foundType (M_put_stage σ x1 3)), .int (((M_deep (M_put_stage σ x1 3)) x1.toNatClampNeg) - 1)]) (rest := []) (Wn := fun _ => (wM cI cZ a q r3.2)) C0 hA (c_M_ask l D cI cZ a q (M_put_stage σ x1 3) x4 (M_foundType (M_put_stage σ x1 3)) (((M_deep (M_put_stage σ x1 3)) x1.toNatClampNeg) - 1) g3) wd_457 ⟨wd_458, wd_459, wd_460, wd_352⟩ (by decide +kernel) ⟨Nat.le_of_ble_eq_true rfl, Nat.le_of_ble_eq_true rfl⟩ hP hD hS [0, 1, 2, 3, 4, 5, 6, 7, 8, 9, 10, 11, 12, 13, 14, 15, 16, 17, 18, 19, 20, 21, 22, 23] [] [0, 1, 2, 3, 4, 5, 6, 7, 8, 9, 10, 11, 12, 13, 14, 15, 16, 17, 18, 19, 20, 21, 22, 23] jn_M__C (by decide) jn_M__R (by decide) (by decide) (by decide) jn_M__W rfl rfl rfl hl rfl rfl (Nat.le_of_ble_eq_true rfl) ⟨Nat.zero_le _, Nat.zero_le _⟩ d_M_goOn_293 (fun H locs _ hP hD hS => ?_)
    try dsimp only at h
    exact rw_retv C0 hP hD hS (Option.some.inj h) d_M_goOn_296
  · rw [if_pos hc] at h
    refine lv_aload_n hx hb d_M_goOn_246 rfl (lv_at hl 0 rfl) ?_
    refine lv_iconst (v := 0) hx hb d_M_goOn_247 (by decide) ?_
    refine lv_iconst (v := 0) hx hb d_M_goOn_248 (by decide) ?_
    refine lv_iconst (v := (-1)) hx hb d_M_goOn_249 (by decide) ?_
    replace h := bd h
    obtain ⟨r4, g4, h⟩ := h
    refine rw_V (n := 3) (ci := 4) (As := [.int 0, .int 0, .int (-1)]) (rest := []) (Wn := fun _ => (wM cI cZ a q r4.2)) C0 hA (c_M_addNamed l D cI cZ a q σ 0 0 (-1) g4) wd_419 ⟨wd_420, wd_421, wd_422, wd_352⟩ (by decide +kernel) ⟨Nat.le_of_ble_eq_true rfl, Nat.le_of_ble_eq_true rfl⟩ hP hD hS [0, 1, 2, 3, 4, 5, 6, 7, 8, 9, 10, 11, 12, 13, 14, 15, 16, 17, 18, 19, 20, 21, 22, 23] [] [0, 1, 2, 3, 4, 5, 6, 7, 8, 9, 10, 11, 12, 13, 14, 15, 16, 17, 18, 19, 20, 21, 22, 23] jn_M__C (by decide) jn_M__R (by decide) (by decide) (by decide) jn_M__W rfl rfl rfl hl rfl rfl (Nat.le_of_ble_eq_true rfl) ⟨Nat.zero_le _, Nat.zero_le _⟩ d_M_goOn_250 (fun H locs _ hP hD hS => ?_)
    try dsimp only at h
    refine lv_istore (lv' := [(5, .int r4.1), (0, .ref (a 20)), (1, .int x1), (2, .int x2), (4, .int x4)]) hx hb d_M_goOn_253 hl (by decide) rfl (fun ls hl => ?_)
    refine lv_aload_n hx hb d_M_goOn_255 rfl (lv_at hl 1 rfl) ?_
    refine lv_iload_n hx hb d_M_goOn_256 rfl (lv_at hl 2 rfl) ?_
    refine lv_aload_n hx hb d_M_goOn_257 rfl (lv_at hl 1 rfl) ?_
    refine lv_iload_n hx hb d_M_goOn_258 rfl (lv_at hl 3 rfl) ?_
    refine lv_iconst (v := 2) hx hb d_M_goOn_259 (by decide) ?_
    refine lv_iload hx hb d_M_goOn_260 (lv_at hl 0 rfl) ?_
    replace h := bd h
    obtain ⟨r5, g5, h⟩ := h
    refine rw_V (n := 3) (ci := 4) (As := [.int x2, .int 2, .int r4.1]) (rest := [.int x1, .ref (a 20)]) (Wn := fun _ => (wM cI cZ a q r5.2)) C0 hA (c_M_addNamed l D cI cZ a q r4.2 x2 2 r4.1 g5) wd_419 ⟨wd_420, wd_421, wd_422, wd_352⟩ (by decide +kernel) ⟨Nat.le_of_ble_eq_true rfl, Nat.le_of_ble_eq_true rfl⟩ hP hD hS [0, 1, 2, 3, 4, 5, 6, 7, 8, 9, 10, 11, 12, 13, 14, 15, 16, 17, 18, 19, 20, 21, 22, 23] [] [0, 1, 2, 3, 4, 5, 6, 7, 8, 9, 10, 11, 12, 13, 14, 15, 16, 17, 18, 19, 20, 21, 22, 23] jn_M__C (by decide) jn_M__R (by decide) (by decide) (by decide) jn_M__W rfl rfl rfl hl rfl rfl (Nat.le_of_ble_eq_true rfl) ⟨Nat.zero_le _, Nat.zero_le _⟩ d_M_goOn_262 (fun H locs _ hP hD hS => ?_)
    try dsimp only at h
    replace h := bd h
    obtain ⟨r6, g6, h⟩ := h
    refine rw_Vv (n := 2) (ci := 4) (As := [.int x1, .int r5.1]) (rest := []) (Wn := fun _ => (wM cI cZ a q r6.2)) C0 hA (c_M_keep l D cI cZ a q r5.2 x1 r5.1 g6) wd_465 ⟨wd_466, wd_467, wd_468, wd_352⟩ (by decide +kernel) ⟨Nat.le_of_ble_eq_true rfl, Nat.le_of_ble_eq_true rfl⟩ hP hD hS [0, 1, 2, 3, 4, 5, 6, 7, 8, 9, 10, 11, 12, 13, 14, 15, 16, 17, 18, 19, 20, 21, 22, 23] [] [0, 1, 2, 3, 4, 5, 6, 7, 8, 9, 10, 11, 12, 13, 14, 15, 16, 17, 18, 19, 20, 21, 22, 23] jn_M__C (by decide) jn_M__R (by decide) (by decide) (by decide) jn_M__W rfl rfl rfl hl rfl rfl (Nat.le_of_ble_eq_true rfl) ⟨Nat.zero_le _, Nat.zero_le _⟩ d_M_goOn_265 (fun H locs _ hP hD hS => ?_)
    try dsimp only at h
    refine lv_goto (tgt := 296) hx hb d_M_goOn_268 (by decide) ?_
    exact rw_retv C0 hP hD hS (Option.some.inj h) d_M_goOn_296
set_option maxHeartbeats 4000000 in
set_option maxRecDepth 100000 in
theorem t_M_goOn_133 {p : Program} {l : Launch} {e : Env} {s : State} {m : MethodId} {args : Array Value} {below : List Frame} {meth : Method} {c : Code} {D : va_G} {cI cZ : ClassId} {a : Nat → Nat} {A : Nat → Prop} (C0 : Am p s m args meth c b_M_goOn none 6 R_M D [(cI, .int), (cZ, .boolean)]) (hA : ∀ q, s.heap.size ≤ q → A q) {res : Int32 × StM}   {q : Nat} {σ : StM} {t1 : Int32} (h : f_M_goOn_133 σ t1 = some res) {H : Heap} {locs : List Loc} (hP : va_P D vwCl (wM cI cZ a q σ) H) (hD : va_D A (wM cI cZ a q σ)) (hS : va_S A s.heap H locs) {ls : Array Slot} (hl : lv_has ls 6 []) : W p l e (rmK 3 74 0 0) s m args below meth c H locs 0 0 (RwQv below args s D A (fun q (σ : StM) => (wM cI cZ a q σ)) res 0 0) (F0 m 133 ls [.int t1, .ref (a 20)]) := by
  obtain ⟨hx, hb, hr, hml, hown, hts, hlk, hK⟩ := id C0
  unfold f_M_goOn_133 at h
  replace h := bd h
  obtain ⟨r12, g12, h⟩ := h
  refine rw_Vv (n := 1) (ci := 4) (As := [.int t1]) (rest := []) (Wn := fun _ => (wM cI cZ a q r12.2)) C0 hA (c_M_tell l D cI cZ a q σ t1 g12) wd_461 ⟨wd_462, wd_463, wd_464, wd_352⟩ (by decide +kernel) ⟨Nat.le_of_ble_eq_true rfl, Nat.le_of_ble_eq_true rfl⟩ hP hD hS [0, 1, 2, 3, 4, 5, 6, 7, 8, 9, 10, 11, 12, 13, 14, 15, 16, 17, 18, 19, 20, 21, 22, 23] [] [0, 1, 2, 3, 4, 5, 6, 7, 8, 9, 10, 11, 12, 13, 14, 15, 16, 17, 18, 19, 20, 21, 22, 23] jn_M__C (by decide) jn_M__R (by decide) (by decide) (by decide) jn_M__W rfl rfl rfl hl rfl rfl (Nat.le_of_ble_eq_true rfl) ⟨Nat.zero_le _, Nat.zero_le _⟩ d_M_goOn_133 (fun H locs _ hP hD hS => ?_)
  try dsimp only at h
  exact rw_retv C0 hP hD hS (Option.some.inj h) d_M_goOn_136
set_option maxHeartbeats 4000000 in
set_option maxRecDepth 100000 in
theorem t_M_goOn_59_s {p : Program} {l : Launch} {e : Env} {s : State} {m : MethodId} {args : Array Value} {below : List Frame} {meth : Method} {c : Code} {D : va_G} {cI cZ : ClassId} {a : Nat → Nat} {A : Nat → Prop} (C0 : Am p s m args meth c b_M_goOn none 6 R_M D [(cI, .int), (cZ, .boolean)]) (hA : ∀ q, s.heap.size ≤ q → A q) {res : Int32 × StM} {k59 : StM → Int32 → Int32 → Option (Int32 × StM)}  (hk59 : ∀ (q : Nat) (σ : StM) (x1 x2 : Int32) (H : Heap) (locs : List Loc) (ls : Array Slot), k59 σ x1 x2 = some res → va_P D vwCl (wM cI cZ a q σ) H → va_D A (wM cI cZ a q σ) → va_S A s.heap H locs → lv_has ls 6 [(0, .ref (a 20)), (1, .int x1), (2, .int x2)] → W p l e (rmK 3 74 0 0) s m args below meth c H locs 0 0 (RwQv below args s D A (fun q (σ : StM) => (wM cI cZ a q σ)) res 0 0) (F0 m 59 ls [])) {q : Nat} {σ : StM} {x1 x2 : Int32} (h : f_M_goOn_59_s k59 σ x1 x2 = some res) {H : Heap} {locs : List Loc} (hP : va_P D vwCl (wM cI cZ a q σ) H) (hD : va_D A (wM cI cZ a q σ)) (hS : va_S A s.heap H locs) {ls : Array Slot} (hl : lv_has ls 6 [(0, .ref (a 20)), (1, .int x1), (2, .int x2)]) : W p l e (rmK 3 74 0 0) s m args below meth c H locs 0 0 (RwQv below args s D A (fun q (σ : StM) => (wM cI cZ a q σ)) res 0 0) (F0 m 59 ls []) := by
  obtain ⟨hx, hb, hr, hml, hown, hts, hlk, hK⟩ := id C0
  unfold f_M_goOn_59_s at h
  refine lv_iload_n hx hb d_M_goOn_59 rfl (lv_at hl 2 rfl) ?_
  refine lv_aload_n hx hb d_M_goOn_60 rfl (lv_at hl 0 rfl) ?_
  refine va_get (ci := 4) (v := .ref (a 42)) (C := R_M) (T := F_M) (N := 35) hx hb hts i_M hown hK.1 hP 0 rfl rfl 32 (by decide) (hts _ wd_452) (fun _ h9 => h9) rfl d_M_goOn_61 ?_
  refine lv_iload_n hx hb d_M_goOn_64 rfl (lv_at hl 1 rfl) ?_
  replace h := gd h
  obtain ⟨hi, h⟩ := h
  refine va_iald hx hb hK.1 hP 22 0 rfl rfl hi d_M_goOn_65 ?_
  refine lv_icmp_ge (tgt := 92) hx hb d_M_goOn_66 (by decide) (fun hc => ?_) (fun hc => ?_)
  · rw [if_pos hc] at h
    refine lv_aload_n hx hb d_M_goOn_92 rfl (lv_at hl 0 rfl) ?_
    refine lv_aload_n hx hb d_M_goOn_93 rfl (lv_at hl 0 rfl) ?_
    refine va_get (ci := 4) (v := .ref (a 42)) (C := R_M) (T := F_M) (N := 35) hx hb hts i_M hown hK.1 hP 0 rfl rfl 32 (by decide) (hts _ wd_452) (fun _ h9 => h9) rfl d_M_goOn_94 ?_
    refine lv_iload_n hx hb d_M_goOn_97 rfl (lv_at hl 1 rfl) ?_
    replace h := gd h
    obtain ⟨hi, h⟩ := h
    refine va_iald hx hb hK.1 hP 22 0 rfl rfl hi d_M_goOn_98 ?_
    refine lv_iconst (v := 1) hx hb d_M_goOn_99 (by decide) ?_
    refine lv_icmp_ne (tgt := 112) hx hb d_M_goOn_100 (by decide) (fun hc => ?_) (fun hc => ?_)
    · rw [if_neg hc] at h
      refine lv_aload_n hx hb d_M_goOn_112 rfl (lv_at hl 0 rfl) ?_
      refine va_get (ci := 4) (v := .int (M_full σ)) (C := R_M) (T := F_M) (N := 35) hx hb hts i_M hown hK.1 hP 0 rfl rfl 18 (by decide) (hts _ wd_364) (fun _ h9 => h9) rfl d_M_goOn_113 ?_
      refine lv_if_eq (tgt := 123) hx hb d_M_goOn_116 (by decide) (fun hc => ?_) (fun hc => ?_)
      · rw [if_pos hc] at h
        refine lv_aload_n hx hb d_M_goOn_123 rfl (lv_at hl 0 rfl) ?_
        refine lv_aload_n hx hb d_M_goOn_124 rfl (lv_at hl 0 rfl) ?_
        refine va_get (ci := 4) (v := .ref (a 42)) (C := R_M) (T := F_M) (N := 35) hx hb hts i_M hown hK.1 hP 0 rfl rfl 32 (by decide) (hts _ wd_452) (fun _ h9 => h9) rfl d_M_goOn_125 ?_
        refine lv_iload_n hx hb d_M_goOn_128 rfl (lv_at hl 1 rfl) ?_
        replace h := gd h
        obtain ⟨hi, h⟩ := h
        refine va_iald hx hb hK.1 hP 22 0 rfl rfl hi d_M_goOn_129 ?_
        replace h := bd h
        obtain ⟨r11, g11, h⟩ := h
        refine rw_V (n := 1) (ci := 4) (As := [.int ((M_size σ) x1.toNatClampNeg)]) (rest := [.ref (a 20)]) (Wn := fun _ => (wM cI cZ a q r11.2)) C0 hA (c_M_addBoth l D cI cZ a q σ ((M_size σ) x1.toNatClampNeg) g11) wd_469 ⟨wd_470, wd_471, wd_472, wd_352⟩ (by decide +kernel) ⟨Nat.le_of_ble_eq_true rfl, Nat.le_of_ble_eq_true rfl⟩ hP hD hS [0, 1, 2, 3, 4, 5, 6, 7, 8, 9, 10, 11, 12, 13, 14, 15, 16, 17, 18, 19, 20, 21, 22, 23] [] [0, 1, 2, 3, 4, 5, 6, 7, 8, 9, 10, 11, 12, 13, 14, 15, 16, 17, 18, 19, 20, 21, 22, 23] jn_M__C (by decide) jn_M__R (by decide) (by decide) (by decide) jn_M__W rfl rfl rfl hl rfl rfl (Nat.le_of_ble_eq_true rfl) ⟨Nat.zero_le _, Nat.zero_le _⟩ d_M_goOn_130 (fun H locs _ hP hD hS => ?_)
        try dsimp only at h
        exact t_M_goOn_133 (a := a) C0 hA  h hP hD hS (lv_sub hl [] rfl)
      · rw [if_neg hc] at h
        refine lv_iconst (v := 0) hx hb d_M_goOn_119 (by decide) ?_
        refine lv_goto (tgt := 133) hx hb d_M_goOn_120 (by decide) ?_
        exact t_M_goOn_133 (a := a) C0 hA  h hP hD hS (lv_sub hl [] rfl)
    · rw [if_pos hc] at h
      refine lv_aload_n hx hb d_M_goOn_103 rfl (lv_at hl 0 rfl) ?_
      refine va_get (ci := 4) (v := .ref (a 34)) (C := R_M) (T := F_M) (N := 35) hx hb hts i_M hown hK.1 hP 0 rfl rfl 22 (by decide) (hts _ wd_369) (fun _ h9 => h9) rfl d_M_goOn_104 ?_
      refine lv_iconst (v := 0) hx hb d_M_goOn_107 (by decide) ?_
      replace h := gd h
      obtain ⟨hi, h⟩ := h
      refine va_iald hx hb hK.1 hP 14 0 rfl rfl hi d_M_goOn_108 ?_
      refine lv_goto (tgt := 133) hx hb d_M_goOn_109 (by decide) ?_
      exact t_M_goOn_133 (a := a) C0 hA  h hP hD hS (lv_sub hl [] rfl)
  · rw [if_neg hc] at h
    refine lv_aload_n hx hb d_M_goOn_69 rfl (lv_at hl 0 rfl) ?_
    refine va_get (ci := 4) (v := .ref (a 34)) (C := R_M) (T := F_M) (N := 35) hx hb hts i_M hown hK.1 hP 0 rfl rfl 22 (by decide) (hts _ wd_369) (fun _ h9 => h9) rfl d_M_goOn_70 ?_
    refine lv_iload_n hx hb d_M_goOn_73 rfl (lv_at hl 2 rfl) ?_
    refine lv_aload_n hx hb d_M_goOn_74 rfl (lv_at hl 0 rfl) ?_
    refine va_get (ci := 4) (v := .ref (a 43)) (C := R_M) (T := F_M) (N := 35) hx hb hts i_M hown hK.1 hP 0 rfl rfl 33 (by decide) (hts _ wd_455) (fun _ h9 => h9) rfl d_M_goOn_75 ?_
    refine lv_bipush (v := 30) hx hb d_M_goOn_78 (by decide) ?_
    refine lv_iload_n hx hb d_M_goOn_80 rfl (lv_at hl 1 rfl) ?_
    refine lv_imul hx hb d_M_goOn_81 ?_
    refine lv_iload_n hx hb d_M_goOn_82 rfl (lv_at hl 2 rfl) ?_
    refine lv_iadd hx hb d_M_goOn_83 ?_
    replace h := gd h
    obtain ⟨hi, h⟩ := h
    refine va_iald hx hb hK.1 hP 23 0 rfl rfl hi d_M_goOn_84 ?_
    replace h := gd h
    obtain ⟨hi, h⟩ := h
    refine rw_iast C0 hP hD hS 14 0 rfl rfl hi d_M_goOn_85 (Wn := (wM cI cZ a q (M_put_row σ x2 ((M_parts σ) ((30 * x1) + x2).toNatClampNeg)))) ws_M_put_row (fun H locs hP hD hS => ?_)
    refine lv_iinc (v := (x2 + 1)) (lv' := [(2, .int (x2 + 1)), (0, .ref (a 20)), (1, .int x1)]) hx hb d_M_goOn_86 hl (k := 2) rfl rfl (by decide) rfl (fun ls hl => ?_)
    refine lv_goto (tgt := 59) hx hb d_M_goOn_89 (by decide) ?_
    exact hk59 _ _ _ _ _ _ _ h hP hD hS (lv_sub hl [1, 2, 0] rfl)
set_option maxHeartbeats 4000000 in
set_option maxRecDepth 100000 in
theorem t_M_goOn_59 {p : Program} {l : Launch} {e : Env} {s : State} {m : MethodId} {args : Array Value} {below : List Frame} {meth : Method} {c : Code} {D : va_G} {cI cZ : ClassId} {a : Nat → Nat} {A : Nat → Prop} (C0 : Am p s m args meth c b_M_goOn none 6 R_M D [(cI, .int), (cZ, .boolean)]) (hA : ∀ q, s.heap.size ≤ q → A q) {res : Int32 × StM}  {n : Nat} {q : Nat} {σ : StM} {x1 x2 : Int32} (h : f_M_goOn_59  n σ x1 x2 = some res) {H : Heap} {locs : List Loc} (hP : va_P D vwCl (wM cI cZ a q σ) H) (hD : va_D A (wM cI cZ a q σ)) (hS : va_S A s.heap H locs) {ls : Array Slot} (hl : lv_has ls 6 [(0, .ref (a 20)), (1, .int x1), (2, .int x2)]) : W p l e (rmK 3 74 0 0) s m args below meth c H locs 0 0 (RwQv below args s D A (fun q (σ : StM) => (wM cI cZ a q σ)) res 0 0) (F0 m 59 ls []) := by
  induction n generalizing q σ x1 x2 H locs ls with
  | zero => cases h
  | succ n ih => exact t_M_goOn_59_s (a := a) C0 hA  (fun _ _ _ _ _ _ _ h hP hD hS hl => ih h hP hD hS hl) h hP hD hS hl
set_option maxHeartbeats 4000000 in
set_option maxRecDepth 100000 in
theorem t_M_goOn_44 {p : Program} {l : Launch} {e : Env} {s : State} {m : MethodId} {args : Array Value} {below : List Frame} {meth : Method} {c : Code} {D : va_G} {cI cZ : ClassId} {a : Nat → Nat} {A : Nat → Prop} (C0 : Am p s m args meth c b_M_goOn none 6 R_M D [(cI, .int), (cZ, .boolean)]) (hA : ∀ q, s.heap.size ≤ q → A q) {res : Int32 × StM}   {q : Nat} {σ : StM} {x1 : Int32} (h : f_M_goOn_44 σ x1 = some res) {H : Heap} {locs : List Loc} (hP : va_P D vwCl (wM cI cZ a q σ) H) (hD : va_D A (wM cI cZ a q σ)) (hS : va_S A s.heap H locs) {ls : Array Slot} (hl : lv_has ls 6 [(0, .ref (a 20)), (1, .int x1)]) : W p l e (rmK 3 74 0 0) s m args below meth c H locs 0 0 (RwQv below args s D A (fun q (σ : StM) => (wM cI cZ a q σ)) res 0 0) (F0 m 44 ls []) := by
  obtain ⟨hx, hb, hr, hml, hown, hts, hlk, hK⟩ := id C0
  unfold f_M_goOn_44 at h
  refine lv_aload_n hx hb d_M_goOn_44 rfl (lv_at hl 0 rfl) ?_
  refine va_get (ci := 4) (v := .ref (a 41)) (C := R_M) (T := F_M) (N := 35) hx hb hts i_M hown hK.1 hP 0 rfl rfl 31 (by decide) (hts _ wd_453) (fun _ h9 => h9) rfl d_M_goOn_45 ?_
  refine lv_iload_n hx hb d_M_goOn_48 rfl (lv_at hl 1 rfl) ?_
  replace h := gd h
  obtain ⟨hi, h⟩ := h
  refine va_iald hx hb hK.1 hP 21 0 rfl rfl hi d_M_goOn_49 ?_
  refine lv_aload_n hx hb d_M_goOn_50 rfl (lv_at hl 0 rfl) ?_
  refine va_get (ci := 4) (v := .int (M_classes σ)) (C := R_M) (T := F_M) (N := 35) hx hb hts i_M hown hK.1 hP 0 rfl rfl 2 (by decide) (hts _ wd_343) (fun _ h9 => h9) rfl d_M_goOn_51 ?_
  refine lv_icmp_ne (tgt := 137) hx hb d_M_goOn_54 (by decide) (fun hc => ?_) (fun hc => ?_)
  · rw [if_neg hc] at h
    refine lv_aload_n hx hb d_M_goOn_137 rfl (lv_at hl 0 rfl) ?_
    refine va_get (ci := 4) (v := .ref (a 41)) (C := R_M) (T := F_M) (N := 35) hx hb hts i_M hown hK.1 hP 0 rfl rfl 31 (by decide) (hts _ wd_453) (fun _ h9 => h9) rfl d_M_goOn_138 ?_
    refine lv_iload_n hx hb d_M_goOn_141 rfl (lv_at hl 1 rfl) ?_
    replace h := gd h
    obtain ⟨hi, h⟩ := h
    refine va_iald hx hb hK.1 hP 21 0 rfl rfl hi d_M_goOn_142 ?_
    refine lv_istore_n (lv' := [(2, .int ((M_at σ) x1.toNatClampNeg)), (0, .ref (a 20)), (1, .int x1)]) hx hb d_M_goOn_143 rfl hl (by decide) rfl (fun ls hl => ?_)
    refine lv_aload_n hx hb d_M_goOn_144 rfl (lv_at hl 1 rfl) ?_
    refine va_get (ci := 4) (v := .ref (a 22)) (C := R_M) (T := F_M) (N := 35) hx hb hts i_M hown hK.1 hP 0 rfl rfl 5 (by decide) (hts _ wd_393) (fun _ h9 => h9) rfl d_M_goOn_145 ?_
    refine lv_iload_n hx hb d_M_goOn_148 rfl (lv_at hl 0 rfl) ?_
    replace h := gd h
    obtain ⟨hi, h⟩ := h
    refine va_zald hx hb hK.1 hP 2 1 rfl rfl hi d_M_goOn_149 ?_
    refine lv_if_ne (tgt := 166) hx hb d_M_goOn_150 (by decide) (fun hc => ?_) (fun hc => ?_)
    · rw [if_neg hc] at h
      refine lv_aload_n hx hb d_M_goOn_166 rfl (lv_at hl 1 rfl) ?_
      refine lv_aload_n hx hb d_M_goOn_167 rfl (lv_at hl 1 rfl) ?_
      refine va_get (ci := 4) (v := .ref (a 36)) (C := R_M) (T := F_M) (N := 35) hx hb hts i_M hown hK.1 hP 0 rfl rfl 26 (by decide) (hts _ wd_447) (fun _ h9 => h9) rfl d_M_goOn_168 ?_
      refine lv_iload_n hx hb d_M_goOn_171 rfl (lv_at hl 2 rfl) ?_
      replace h := gd h
      obtain ⟨hi, h⟩ := h
      refine va_iald hx hb hK.1 hP 16 0 rfl rfl hi d_M_goOn_172 ?_
      refine lv_iload_n hx hb d_M_goOn_173 rfl (lv_at hl 0 rfl) ?_
      replace h := bd h
      obtain ⟨r1, g1, h⟩ := h
      refine rw_Vv (n := 2) (ci := 4) (As := [.int ((M_left σ) x1.toNatClampNeg), .int ((M_at σ) x1.toNatClampNeg)]) (rest := []) (Wn := fun _ => (wM cI cZ a q r1.2)) C0 hA (c_M_lookAt l D cI cZ a q σ ((M_left σ) x1.toNatClampNeg) ((M_at σ) x1.toNatClampNeg) g1) wd_371 ⟨wd_372, wd_373, wd_374, wd_352⟩ (by decide +kernel) ⟨Nat.le_of_ble_eq_true rfl, Nat.le_of_ble_eq_true rfl⟩ hP hD hS [0, 1, 2, 3, 4, 5, 6, 7, 8, 9, 10, 11, 12, 13, 14, 15, 16, 17, 18, 19, 20, 21, 22, 23] [] [0, 1, 2, 3, 4, 5, 6, 7, 8, 9, 10, 11, 12, 13, 14, 15, 16, 17, 18, 19, 20, 21, 22, 23] jn_M__C (by decide) jn_M__R (by decide) (by decide) (by decide) jn_M__W rfl rfl rfl hl rfl rfl (Nat.le_of_ble_eq_true rfl) ⟨Nat.zero_le _, Nat.zero_le _⟩ d_M_goOn_174 (fun H locs _ hP hD hS => ?_)
      try dsimp only at h
      refine lv_aload_n hx hb d_M_goOn_177 rfl (lv_at hl 1 rfl) ?_
      refine va_get (ci := 4) (v := .int (M_foundHow r1.2)) (C := R_M) (T := F_M) (N := 35) hx hb hts i_M hown hK.1 hP 0 rfl rfl 20 (by decide) (hts _ wd_346) (fun _ h9 => h9) rfl d_M_goOn_178 ?_
      refine lv_istore_n (lv' := [(3, .int (M_foundHow r1.2)), (2, .int ((M_at σ) x1.toNatClampNeg)), (0, .ref (a 20)), (1, .int x1)]) hx hb d_M_goOn_181 rfl hl (by decide) rfl (fun ls hl => ?_)
      refine lv_aload_n hx hb d_M_goOn_182 rfl (lv_at hl 2 rfl) ?_
      refine va_get (ci := 4) (v := .int (M_foundType r1.2)) (C := R_M) (T := F_M) (N := 35) hx hb hts i_M hown hK.1 hP 0 rfl rfl 21 (by decide) (hts _ wd_347) (fun _ h9 => h9) rfl d_M_goOn_183 ?_
      refine lv_istore (lv' := [(4, .int (M_foundType r1.2)), (3, .int (M_foundHow r1.2)), (2, .int ((M_at σ) x1.toNatClampNeg)), (0, .ref (a 20)), (1, .int x1)]) hx hb d_M_goOn_186 hl (by decide) rfl (fun ls hl => ?_)
      refine lv_aload_n hx hb d_M_goOn_188 rfl (lv_at hl 3 rfl) ?_
      refine lv_aload_n hx hb d_M_goOn_189 rfl (lv_at hl 3 rfl) ?_
      refine va_get (ci := 4) (v := .ref (a 37)) (C := R_M) (T := F_M) (N := 35) hx hb hts i_M hown hK.1 hP 0 rfl rfl 27 (by decide) (hts _ wd_449) (fun _ h9 => h9) rfl d_M_goOn_190 ?_
      refine lv_iload_n hx hb d_M_goOn_193 rfl (lv_at hl 4 rfl) ?_
      replace h := gd h
      obtain ⟨hi, h⟩ := h
      refine va_iald hx hb hK.1 hP 17 0 rfl rfl hi d_M_goOn_194 ?_
      refine lv_iload_n hx hb d_M_goOn_195 rfl (lv_at hl 2 rfl) ?_
      replace h := bd h
      obtain ⟨r2, g2, h⟩ := h
      refine rw_Vv (n := 2) (ci := 4) (As := [.int ((M_right r1.2) x1.toNatClampNeg), .int ((M_at σ) x1.toNatClampNeg)]) (rest := []) (Wn := fun _ => (wM cI cZ a q r2.2)) C0 hA (c_M_lookAt l D cI cZ a q r1.2 ((M_right r1.2) x1.toNatClampNeg) ((M_at σ) x1.toNatClampNeg) g2) wd_371 ⟨wd_372, wd_373, wd_374, wd_352⟩ (by decide +kernel) ⟨Nat.le_of_ble_eq_true rfl, Nat.le_of_ble_eq_true rfl⟩ hP hD hS [0, 1, 2, 3, 4, 5, 6, 7, 8, 9, 10, 11, 12, 13, 14, 15, 16, 17, 18, 19, 20, 21, 22, 23] [] [0, 1, 2, 3, 4, 5, 6, 7, 8, 9, 10, 11, 12, 13, 14, 15, 16, 17, 18, 19, 20, 21, 22, 23] jn_M__C (by decide) jn_M__R (by decide) (by decide) (by decide) jn_M__W rfl rfl rfl hl rfl rfl (Nat.le_of_ble_eq_true rfl) ⟨Nat.zero_le _, Nat.zero_le _⟩ d_M_goOn_196 (fun H locs _ hP hD hS => ?_)
      try dsimp only at h
      refine lv_iload_n hx hb d_M_goOn_199 rfl (lv_at hl 1 rfl) ?_
      refine lv_iconst (v := 1) hx hb d_M_goOn_200 (by decide) ?_
      refine lv_icmp_ne (tgt := 237) hx hb d_M_goOn_201 (by decide) (fun hc => ?_) (fun hc => ?_)
      · rw [if_neg hc] at h
        exact t_M_goOn_237 (a := a) C0 hA  h hP hD hS (lv_sub hl [3, 4, 2, 0] rfl)
      · rw [if_pos hc] at h
        refine lv_aload_n hx hb d_M_goOn_204 rfl (lv_at hl 3 rfl) ?_
        refine va_get (ci := 4) (v := .int (M_foundHow r2.2)) (C := R_M) (T := F_M) (N := 35) hx hb hts i_M hown hK.1 hP 0 rfl rfl 20 (by decide) (hts _ wd_346) (fun _ h9 => h9) rfl d_M_goOn_205 ?_
        refine lv_iconst (v := 1) hx hb d_M_goOn_208 (by decide) ?_
        refine lv_icmp_ne (tgt := 237) hx hb d_M_goOn_209 (by decide) (fun hc => ?_) (fun hc => ?_)
        · rw [if_neg hc] at h
          exact t_M_goOn_237 (a := a) C0 hA  h hP hD hS (lv_sub hl [3, 4, 2, 0] rfl)
        · rw [if_pos hc] at h
          refine lv_iload hx hb d_M_goOn_212 (lv_at hl 0 rfl) ?_
          refine lv_aload_n hx hb d_M_goOn_214 rfl (lv_at hl 3 rfl) ?_
          refine va_get (ci := 4) (v := .int (M_foundType r2.2)) (C := R_M) (T := F_M) (N := 35) hx hb hts i_M hown hK.1 hP 0 rfl rfl 21 (by decide) (hts _ wd_347) (fun _ h9 => h9) rfl d_M_goOn_215 ?_
          refine lv_icmp_ne (tgt := 237) hx hb d_M_goOn_218 (by decide) (fun hc => ?_) (fun hc => ?_)
          · rw [if_neg hc] at h
            exact t_M_goOn_237 (a := a) C0 hA  h hP hD hS (lv_sub hl [3, 4, 2, 0] rfl)
          · rw [if_pos hc] at h
            refine lv_aload_n hx hb d_M_goOn_221 rfl (lv_at hl 3 rfl) ?_
            refine lv_iload_n hx hb d_M_goOn_222 rfl (lv_at hl 4 rfl) ?_
            refine lv_aload_n hx hb d_M_goOn_223 rfl (lv_at hl 3 rfl) ?_
            refine lv_iload_n hx hb d_M_goOn_224 rfl (lv_at hl 2 rfl) ?_
            refine lv_iconst (v := 1) hx hb d_M_goOn_225 (by decide) ?_
            refine lv_iload hx hb d_M_goOn_226 (lv_at hl 0 rfl) ?_
            replace h := bd h
            obtain ⟨r7, g7, h⟩ := h
            refine rw_V (n := 3) (ci := 4) (As := [.int ((M_at σ) x1.toNatClampNeg), .int 1, .int (M_foundType r1.2)]) (rest := [.int x1, .ref (a 20)]) (Wn := fun _ => (wM cI cZ a q r7.2)) C0 hA (c_M_addNamed l D cI cZ a q r2.2 ((M_at σ) x1.toNatClampNeg) 1 (M_foundType r1.2) g7) wd_419 ⟨wd_420, wd_421, wd_422, wd_352⟩ (by decide +kernel) ⟨Nat.le_of_ble_eq_true rfl, Nat.le_of_ble_eq_true rfl⟩ hP hD hS [0, 1, 2, 3, 4, 5, 6, 7, 8, 9, 10, 11, 12, 13, 14, 15, 16, 17, 18, 19, 20, 21, 22, 23] [] [0, 1, 2, 3, 4, 5, 6, 7, 8, 9, 10, 11, 12, 13, 14, 15, 16, 17, 18, 19, 20, 21, 22, 23] jn_M__C (by decide) jn_M__R (by decide) (by decide) (by decide) jn_M__W rfl rfl rfl hl rfl rfl (Nat.le_of_ble_eq_true rfl) ⟨Nat.zero_le _, Nat.zero_le _⟩ d_M_goOn_228 (fun H locs _ hP hD hS => ?_)
            try dsimp only at h
            replace h := bd h
            obtain ⟨r8, g8, h⟩ := h
            refine rw_Vv (n := 2) (ci := 4) (As := [.int x1, .int r7.1]) (rest := []) (Wn := fun _ => (wM cI cZ a q r8.2)) C0 hA (c_M_keep l D cI cZ a q r7.2 x1 r7.1 g8) wd_465 ⟨wd_466, wd_467, wd_468, wd_352⟩ (by decide +kernel) ⟨Nat.le_of_ble_eq_true rfl, Nat.le_of_ble_eq_true rfl⟩ hP hD hS [0, 1, 2, 3, 4, 5, 6, 7, 8, 9, 10, 11, 12, 13, 14, 15, 16, 17, 18, 19, 20, 21, 22, 23] [] [0, 1, 2, 3, 4, 5, 6, 7, 8, 9, 10, 11, 12, 13, 14, 15, 16, 17, 18, 19, 20, 21, 22, 23] jn_M__C (by decide) jn_M__R (by decide) (by decide) (by decide) jn_M__W rfl rfl rfl hl rfl rfl (Nat.le_of_ble_eq_true rfl) ⟨Nat.zero_le _, Nat.zero_le _⟩ d_M_goOn_231 (fun H locs _ hP hD hS => ?_)
            try dsimp only at h
            refine lv_goto (tgt := 296) hx hb d_M_goOn_234 (by decide) ?_
            exact rw_retv C0 hP hD hS (Option.some.inj h) d_M_goOn_296
    · rw [if_pos hc] at h
      refine lv_aload_n hx hb d_M_goOn_153 rfl (lv_at hl 1 rfl) ?_
      refine lv_iload_n hx hb d_M_goOn_154 rfl (lv_at hl 2 rfl) ?_
      refine lv_aload_n hx hb d_M_goOn_155 rfl (lv_at hl 1 rfl) ?_
      refine lv_iload_n hx hb d_M_goOn_156 rfl (lv_at hl 0 rfl) ?_
      refine lv_iconst (v := 0) hx hb d_M_goOn_157 (by decide) ?_
      refine lv_iconst (v := (-1)) hx hb d_M_goOn_158 (by decide) ?_
      replace h := bd h
      obtain ⟨r9, g9, h⟩ := h
      refine rw_V (n := 3) (ci := 4) (As := [.int ((M_at σ) x1.toNatClampNeg), .int 0, .int (-1)]) (rest := [.int x1, .ref (a 20)]) (Wn := fun _ => (wM cI cZ a q r9.2)) C0 hA (c_M_addNamed l D cI cZ a q σ ((M_at σ) x1.toNatClampNeg) 0 (-1) g9) wd_419 ⟨wd_420, wd_421, wd_422, wd_352⟩ (by decide +kernel) ⟨Nat.le_of_ble_eq_true rfl, Nat.le_of_ble_eq_true rfl⟩ hP hD hS [0, 1, 2, 3, 4, 5, 6, 7, 8, 9, 10, 11, 12, 13, 14, 15, 16, 17, 18, 19, 20, 21, 22, 23] [] [0, 1, 2, 3, 4, 5, 6, 7, 8, 9, 10, 11, 12, 13, 14, 15, 16, 17, 18, 19, 20, 21, 22, 23] jn_M__C (by decide) jn_M__R (by decide) (by decide) (by decide) jn_M__W rfl rfl rfl hl rfl rfl (Nat.le_of_ble_eq_true rfl) ⟨Nat.zero_le _, Nat.zero_le _⟩ d_M_goOn_159 (fun H locs _ hP hD hS => ?_)
      try dsimp only at h
      replace h := bd h
      obtain ⟨r10, g10, h⟩ := h
      refine rw_Vv (n := 2) (ci := 4) (As := [.int x1, .int r9.1]) (rest := []) (Wn := fun _ => (wM cI cZ a q r10.2)) C0 hA (c_M_keep l D cI cZ a q r9.2 x1 r9.1 g10) wd_465 ⟨wd_466, wd_467, wd_468, wd_352⟩ (by decide +kernel) ⟨Nat.le_of_ble_eq_true rfl, Nat.le_of_ble_eq_true rfl⟩ hP hD hS [0, 1, 2, 3, 4, 5, 6, 7, 8, 9, 10, 11, 12, 13, 14, 15, 16, 17, 18, 19, 20, 21, 22, 23] [] [0, 1, 2, 3, 4, 5, 6, 7, 8, 9, 10, 11, 12, 13, 14, 15, 16, 17, 18, 19, 20, 21, 22, 23] jn_M__C (by decide) jn_M__R (by decide) (by decide) (by decide) jn_M__W rfl rfl rfl hl rfl rfl (Nat.le_of_ble_eq_true rfl) ⟨Nat.zero_le _, Nat.zero_le _⟩ d_M_goOn_162 (fun H locs _ hP hD hS => ?_)
      try dsimp only at h
      exact rw_retv C0 hP hD hS (Option.some.inj h) d_M_goOn_165
  · rw [if_pos hc] at h
    refine lv_iconst (v := 0) hx hb d_M_goOn_57 (by decide) ?_
    refine lv_istore_n (lv' := [(2, .int 0), (0, .ref (a 20)), (1, .int x1)]) hx hb d_M_goOn_58 rfl hl (by decide) rfl (fun ls hl => ?_)
    exact t_M_goOn_59 (a := a) C0 hA  h hP hD hS (lv_sub hl [1, 2, 0] rfl)
set_option maxHeartbeats 4000000 in
set_option maxRecDepth 100000 in
theorem t_M_goOn_0_s {p : Program} {l : Launch} {e : Env} {s : State} {m : MethodId} {args : Array Value} {below : List Frame} {meth : Method} {c : Code} {D : va_G} {cI cZ : ClassId} {a : Nat → Nat} {A : Nat → Prop} (C0 : Am p s m args meth c b_M_goOn none 6 R_M D [(cI, .int), (cZ, .boolean)]) (hA : ∀ q, s.heap.size ≤ q → A q) {res : Int32 × StM} {k0 : StM → Int32 → Option (Int32 × StM)}  (hk0 : ∀ (q : Nat) (σ : StM) (x1 : Int32) (H : Heap) (locs : List Loc) (ls : Array Slot), k0 σ x1 = some res → va_P D vwCl (wM cI cZ a q σ) H → va_D A (wM cI cZ a q σ) → va_S A s.heap H locs → lv_has ls 6 [(0, .ref (a 20)), (1, .int x1)] → W p l e (rmK 3 74 0 0) s m args below meth c H locs 0 0 (RwQv below args s D A (fun q (σ : StM) => (wM cI cZ a q σ)) res 0 0) (F0 m 0 ls [])) {q : Nat} {σ : StM} {x1 : Int32} (h : f_M_goOn_0_s k0 σ x1 = some res) {H : Heap} {locs : List Loc} (hP : va_P D vwCl (wM cI cZ a q σ) H) (hD : va_D A (wM cI cZ a q σ)) (hS : va_S A s.heap H locs) {ls : Array Slot} (hl : lv_has ls 6 [(0, .ref (a 20)), (1, .int x1)]) : W p l e (rmK 3 74 0 0) s m args below meth c H locs 0 0 (RwQv below args s D A (fun q (σ : StM) => (wM cI cZ a q σ)) res 0 0) (F0 m 0 ls []) := by
  obtain ⟨hx, hb, hr, hml, hown, hts, hlk, hK⟩ := id C0
  unfold f_M_goOn_0_s at h
  refine lv_aload_n hx hb d_M_goOn_0 rfl (lv_at hl 0 rfl) ?_
  refine va_get (ci := 4) (v := .ref (a 41)) (C := R_M) (T := F_M) (N := 35) hx hb hts i_M hown hK.1 hP 0 rfl rfl 31 (by decide) (hts _ wd_453) (fun _ h9 => h9) rfl d_M_goOn_1 ?_
  refine lv_iload_n hx hb d_M_goOn_4 rfl (lv_at hl 1 rfl) ?_
  replace h := gd h
  obtain ⟨hi, h⟩ := h
  refine va_iald hx hb hK.1 hP 21 0 rfl rfl hi d_M_goOn_5 ?_
  refine lv_aload_n hx hb d_M_goOn_6 rfl (lv_at hl 0 rfl) ?_
  refine va_get (ci := 4) (v := .int (M_classes σ)) (C := R_M) (T := F_M) (N := 35) hx hb hts i_M hown hK.1 hP 0 rfl rfl 2 (by decide) (hts _ wd_343) (fun _ h9 => h9) rfl d_M_goOn_7 ?_
  refine lv_icmp_ge (tgt := 44) hx hb d_M_goOn_10 (by decide) (fun hc => ?_) (fun hc => ?_)
  · rw [if_pos hc] at h
    exact t_M_goOn_44 (a := a) C0 hA  h hP hD hS (lv_sub hl [0, 1] rfl)
  · rw [if_neg hc] at h
    refine lv_aload_n hx hb d_M_goOn_13 rfl (lv_at hl 0 rfl) ?_
    refine va_get (ci := 4) (v := .ref (a 40)) (C := R_M) (T := F_M) (N := 35) hx hb hts i_M hown hK.1 hP 0 rfl rfl 30 (by decide) (hts _ wd_456) (fun _ h9 => h9) rfl d_M_goOn_14 ?_
    refine lv_iload_n hx hb d_M_goOn_17 rfl (lv_at hl 1 rfl) ?_
    replace h := gd h
    obtain ⟨hi, h⟩ := h
    refine va_iald hx hb hK.1 hP 20 0 rfl rfl hi d_M_goOn_18 ?_
    refine lv_aload_n hx hb d_M_goOn_19 rfl (lv_at hl 0 rfl) ?_
    refine va_get (ci := 4) (v := .ref (a 41)) (C := R_M) (T := F_M) (N := 35) hx hb hts i_M hown hK.1 hP 0 rfl rfl 31 (by decide) (hts _ wd_453) (fun _ h9 => h9) rfl d_M_goOn_20 ?_
    refine lv_iload_n hx hb d_M_goOn_23 rfl (lv_at hl 1 rfl) ?_
    replace h := gd h
    obtain ⟨hi, h⟩ := h
    refine va_iald hx hb hK.1 hP 21 0 rfl rfl hi d_M_goOn_24 ?_
    refine lv_ishr hx hb d_M_goOn_25 ?_
    refine lv_iconst (v := 1) hx hb d_M_goOn_26 (by decide) ?_
    refine lv_iand hx hb d_M_goOn_27 ?_
    refine lv_if_ne (tgt := 44) hx hb d_M_goOn_28 (by decide) (fun hc => ?_) (fun hc => ?_)
    · rw [if_neg hc] at h
      exact t_M_goOn_44 (a := a) C0 hA  h hP hD hS (lv_sub hl [0, 1] rfl)
    · rw [if_pos hc] at h
      refine lv_aload_n hx hb d_M_goOn_31 rfl (lv_at hl 0 rfl) ?_
      refine va_get (ci := 4) (v := .ref (a 41)) (C := R_M) (T := F_M) (N := 35) hx hb hts i_M hown hK.1 hP 0 rfl rfl 31 (by decide) (hts _ wd_453) (fun _ h9 => h9) rfl d_M_goOn_32 ?_
      refine lv_iload_n hx hb d_M_goOn_35 rfl (lv_at hl 1 rfl) ?_
      refine lv_dup2_11 hx hb d_M_goOn_36 rfl rfl ?_
      replace h := gd h
      obtain ⟨hi, h⟩ := h
      refine va_iald hx hb hK.1 hP 21 0 rfl rfl hi d_M_goOn_37 ?_
      refine lv_iconst (v := 1) hx hb d_M_goOn_38 (by decide) ?_
      refine lv_iadd hx hb d_M_goOn_39 ?_
      replace h := gd h
      obtain ⟨hi, h⟩ := h
      refine rw_iast C0 hP hD hS 21 0 rfl rfl hi d_M_goOn_40 (Wn := (wM cI cZ a q (M_put_at σ x1 (((M_at σ) x1.toNatClampNeg) + 1)))) ws_M_put_at (fun H locs hP hD hS => ?_)
      refine lv_goto (tgt := 0) hx hb d_M_goOn_41 (by decide) ?_
      exact hk0 _ _ _ _ _ _ h hP hD hS (lv_sub hl [0, 1] rfl)
set_option maxHeartbeats 4000000 in
set_option maxRecDepth 100000 in
theorem t_M_goOn_0 {p : Program} {l : Launch} {e : Env} {s : State} {m : MethodId} {args : Array Value} {below : List Frame} {meth : Method} {c : Code} {D : va_G} {cI cZ : ClassId} {a : Nat → Nat} {A : Nat → Prop} (C0 : Am p s m args meth c b_M_goOn none 6 R_M D [(cI, .int), (cZ, .boolean)]) (hA : ∀ q, s.heap.size ≤ q → A q) {res : Int32 × StM}  {n : Nat} {q : Nat} {σ : StM} {x1 : Int32} (h : f_M_goOn_0  n σ x1 = some res) {H : Heap} {locs : List Loc} (hP : va_P D vwCl (wM cI cZ a q σ) H) (hD : va_D A (wM cI cZ a q σ)) (hS : va_S A s.heap H locs) {ls : Array Slot} (hl : lv_has ls 6 [(0, .ref (a 20)), (1, .int x1)]) : W p l e (rmK 3 74 0 0) s m args below meth c H locs 0 0 (RwQv below args s D A (fun q (σ : StM) => (wM cI cZ a q σ)) res 0 0) (F0 m 0 ls []) := by
  induction n generalizing q σ x1 H locs ls with
  | zero => cases h
  | succ n ih => exact t_M_goOn_0_s (a := a) C0 hA  (fun _ _ _ _ _ _ h hP hD hS hl => ih h hP hD hS hl) h hP hD hS hl
set_option maxHeartbeats 4000000 in
set_option maxRecDepth 100000 in
theorem c_M_goOn (l : Launch) (D : va_G) (cI cZ : ClassId) (a : Nat → Nat) (q : Nat) (σ : StM) (x1 : Int32) {res : Int32 × StM} (h : f_M_goOn σ x1 = some res) : RwMv l y_M_goOn b_M_goOn 6 3 74 D [(cI, .int), (cZ, .boolean)] [.ref (a 20), .int x1] (fun q (σ : StM) => (wM cI cZ a q σ)) q σ res :=
  rw_ofv (by decide) (Nat.le_of_ble_eq_true rfl) (fun p e s m args below meth c ls A C0 hA hP hD hS hl => t_M_goOn_0 (a := a) C0 hA h hP hD hS (lv_sub hl [0, 1] rfl))
-- part 07.6M.42M_upper.lean.txt
def f_M_upper_170 (σ : StM) (x3 : Int32) : Option (Int32 × StM) :=
  (f_M_end σ x3 (M_answer σ) 2).bind fun r3 =>
  some (r3.1, r3.2)
def f_M_upper_50_s (k50 : StM → Int32 → Option (Int32 × StM)) (σ : StM) (x3 : Int32) : Option (Int32 × StM) :=
  if (M_high σ) ≤ 0 then
    f_M_upper_170 σ x3
  else
    if (M_full σ) = 0 then
      if ((M_high σ) - 1) < 0 ∨ 500 ≤ ((M_high σ) - 1).toNatClampNeg then none else
      if ((M_stage σ) ((M_high σ) - 1).toNatClampNeg) = 0 then
        (f_M_begin σ ((M_high σ) - 1)).bind fun r4 =>
        k50 r4.2 x3
      else if ((M_stage σ) ((M_high σ) - 1).toNatClampNeg) = 1 then
        (f_M_addArray σ (M_answer σ)).bind fun r5 =>
        (f_M_tell r5.2 r5.1).bind fun r6 =>
        k50 r6.2 x3
      else if ((M_stage σ) ((M_high σ) - 1).toNatClampNeg) = 2 then
        (f_M_goOn σ ((M_high σ) - 1)).bind fun r7 =>
        k50 r7.2 x3
      else if ((M_high σ) - 1) < 0 ∨ 500 ≤ ((M_high σ) - 1).toNatClampNeg then none else
      if ((M_high σ) - 1) < 0 ∨ 500 ≤ ((M_high σ) - 1).toNatClampNeg then none else
      (f_M_addNamed (M_put_stage σ ((M_high σ) - 1) 2) ((M_at (M_put_stage σ ((M_high σ) - 1) 2)) ((M_high σ) - 1).toNatClampNeg) 2 (M_answer (M_put_stage σ ((M_high σ) - 1) 2))).bind fun r8 =>
      (f_M_keep r8.2 ((M_high σ) - 1) r8.1).bind fun r9 =>
      k50 r9.2 x3
    else
      f_M_upper_170 σ x3
def f_M_upper_50 : Nat → StM → Int32 → Option (Int32 × StM)
  | 0, _, _ => none
  | n + 1, σ, x3 => f_M_upper_50_s (f_M_upper_50 n) σ x3
def f_M_upper_22 (σ : StM) (x1 x2 t1 : Int32) : Option (Int32 × StM) :=
  (f_M_good σ t1).bind fun r1 =>
  if r1.1 = 0 then
    some (0, r1.2)
  else
    (f_M_ask (M_set_high r1.2 0) x1 x2 (M_depth (M_set_high r1.2 0))).bind fun r2 =>
    f_M_upper_50 1000000 r2.2 (M_types r1.2)
def f_M_upper_21 (σ : StM) (x1 x2 : Int32) : Option (Int32 × StM) :=
  f_M_upper_22 σ x1 x2 1
def f_M_upper (σ : StM) (x1 x2 : Int32) : Option (Int32 × StM) :=
  if (f_M_isType σ x1) = 0 then
    f_M_upper_21 σ x1 x2
  else
    if (f_M_isType σ x2) = 0 then
      f_M_upper_21 σ x1 x2
    else
      f_M_upper_22 σ x1 x2 0
set_option maxHeartbeats 4000000 in
set_option maxRecDepth 100000 in
theorem t_M_upper_170 {p : Program} {l : Launch} {e : Env} {s : State} {m : MethodId} {args : Array Value} {below : List Frame} {meth : Method} {c : Code} {D : va_G} {cI cZ : ClassId} {a : Nat → Nat} {A : Nat → Prop} (C0 : Am p s m args meth c b_M_upper (some .int) 5 R_M D [(cI, .int), (cZ, .boolean)]) (hA : ∀ q, s.heap.size ≤ q → A q) {res : Int32 × StM}   {q : Nat} {σ : StM} {x3 : Int32} (h : f_M_upper_170 σ x3 = some res) {H : Heap} {locs : List Loc} (hP : va_P D vwCl (wM cI cZ a q σ) H) (hD : va_D A (wM cI cZ a q σ)) (hS : va_S A s.heap H locs) {ls : Array Slot} (hl : lv_has ls 5 [(0, .ref (a 20)), (3, .int x3)]) : W p l e (rmK 5 122 0 0) s m args below meth c H locs 0 0 (RwQ below args s D A (fun q (σ : StM) => (wM cI cZ a q σ)) res 0 0) (F0 m 170 ls []) := by
  obtain ⟨hx, hb, hr, hml, hown, hts, hlk, hK⟩ := id C0
  unfold f_M_upper_170 at h
  refine lv_aload_n hx hb d_M_upper_170 rfl (lv_at hl 0 rfl) ?_
  refine lv_iload_n hx hb d_M_upper_171 rfl (lv_at hl 1 rfl) ?_
  refine lv_aload_n hx hb d_M_upper_172 rfl (lv_at hl 0 rfl) ?_
  refine va_get (ci := 4) (v := .int (M_answer σ)) (C := R_M) (T := F_M) (N := 35) hx hb hts i_M hown hK.1 hP 0 rfl rfl 34 (by decide) (hts _ wd_454) (fun _ h9 => h9) rfl d_M_upper_173 ?_
  refine lv_iconst (v := 2) hx hb d_M_upper_176 (by decide) ?_
  replace h := bd h
  obtain ⟨r3, g3, h⟩ := h
  refine rw_V (n := 3) (ci := 4) (As := [.int x3, .int (M_answer σ), .int 2]) (rest := []) (Wn := fun _ => (wM cI cZ a q r3.2)) C0 hA (c_M_end l D cI cZ a q σ x3 (M_answer σ) 2 g3) wd_423 ⟨wd_424, wd_425, wd_426, wd_352⟩ (by decide +kernel) ⟨Nat.le_of_ble_eq_true rfl, Nat.le_of_ble_eq_true rfl⟩ hP hD hS [0, 1, 2, 3, 4, 5, 6, 7, 8, 9, 10, 11, 12, 13, 14, 15, 16, 17, 18, 19, 20, 21, 22, 23] [] [0, 1, 2, 3, 4, 5, 6, 7, 8, 9, 10, 11, 12, 13, 14, 15, 16, 17, 18, 19, 20, 21, 22, 23] jn_M__C (by decide) jn_M__R (by decide) (by decide) (by decide) jn_M__W rfl rfl rfl hl rfl rfl (Nat.le_of_ble_eq_true rfl) ⟨Nat.zero_le _, Nat.zero_le _⟩ d_M_upper_177 (fun H locs _ hP hD hS => ?_)
  try dsimp only at h
  exact rw_ret C0 hP hD hS (Option.some.inj h) d_M_upper_180
set_option maxHeartbeats 4000000 in
set_option maxRecDepth 100000 in
theorem t_M_upper_50_s {p : Program} {l : Launch} {e : Env} {s : State} {m : MethodId} {args : Array Value} {below : List Frame} {meth : Method} {c : Code} {D : va_G} {cI cZ : ClassId} {a : Nat → Nat} {A : Nat → Prop} (C0 : Am p s m args meth c b_M_upper (some .int) 5 R_M D [(cI, .int), (cZ, .boolean)]) (hA : ∀ q, s.heap.size ≤ q → A q) {res : Int32 × StM} {k50 : StM → Int32 → Option (Int32 × StM)}  (hk50 : ∀ (q : Nat) (σ : StM) (x3 : Int32) (H : Heap) (locs : List Loc) (ls : Array Slot), k50 σ x3 = some res → va_P D vwCl (wM cI cZ a q σ) H → va_D A (wM cI cZ a q σ) → va_S A s.heap H locs → lv_has ls 5 [(0, .ref (a 20)), (3, .int x3)] → W p l e (rmK 5 122 0 0) s m args below meth c H locs 0 0 (RwQ below args s D A (fun q (σ : StM) => (wM cI cZ a q σ)) res 0 0) (F0 m 50 ls [])) {q : Nat} {σ : StM} {x3 : Int32} (h : f_M_upper_50_s k50 σ x3 = some res) {H : Heap} {locs : List Loc} (hP : va_P D vwCl (wM cI cZ a q σ) H) (hD : va_D A (wM cI cZ a q σ)) (hS : va_S A s.heap H locs) {ls : Array Slot} (hl : lv_has ls 5 [(0, .ref (a 20)), (3, .int x3)]) : W p l e (rmK 5 122 0 0) s m args below meth c H locs 0 0 (RwQ below args s D A (fun q (σ : StM) => (wM cI cZ a q σ)) res 0 0) (F0 m 50 ls []) := by
  obtain ⟨hx, hb, hr, hml, hown, hts, hlk, hK⟩ := id C0
  unfold f_M_upper_50_s at h
  refine lv_aload_n hx hb d_M_upper_50 rfl (lv_at hl 0 rfl) ?_
  refine va_get (ci := 4) (v := .int (M_high σ)) (C := R_M) (T := F_M) (N := 35) hx hb hts i_M hown hK.1 hP 0 rfl rfl 25 (by decide) (hts _ wd_448) (fun _ h9 => h9) rfl d_M_upper_51 ?_
  refine lv_if_le (tgt := 170) hx hb d_M_upper_54 (by decide) (fun hc => ?_) (fun hc => ?_)
  · rw [if_pos hc] at h
    exact t_M_upper_170 (a := a) C0 hA  h hP hD hS (lv_sub hl [0, 1] rfl)
  · rw [if_neg hc] at h
    refine lv_aload_n hx hb d_M_upper_57 rfl (lv_at hl 0 rfl) ?_
    refine va_get (ci := 4) (v := .int (M_full σ)) (C := R_M) (T := F_M) (N := 35) hx hb hts i_M hown hK.1 hP 0 rfl rfl 18 (by decide) (hts _ wd_364) (fun _ h9 => h9) rfl d_M_upper_58 ?_
    refine lv_if_ne (tgt := 170) hx hb d_M_upper_61 (by decide) (fun hc => ?_) (fun hc => ?_)
    · rw [if_neg hc] at h
      exact t_M_upper_170 (a := a) C0 hA  h hP hD hS (lv_sub hl [0, 1] rfl)
    · rw [if_pos hc] at h
      refine lv_aload_n hx hb d_M_upper_64 rfl (lv_at hl 0 rfl) ?_
      refine va_get (ci := 4) (v := .int (M_high σ)) (C := R_M) (T := F_M) (N := 35) hx hb hts i_M hown hK.1 hP 0 rfl rfl 25 (by decide) (hts _ wd_448) (fun _ h9 => h9) rfl d_M_upper_65 ?_
      refine lv_iconst (v := 1) hx hb d_M_upper_68 (by decide) ?_
      refine lv_isub hx hb d_M_upper_69 ?_
      refine lv_istore (lv' := [(4, .int ((M_high σ) - 1)), (0, .ref (a 20)), (3, .int x3)]) hx hb d_M_upper_70 hl (by decide) rfl (fun ls hl => ?_)
      refine lv_aload_n hx hb d_M_upper_72 rfl (lv_at hl 1 rfl) ?_
      refine va_get (ci := 4) (v := .ref (a 39)) (C := R_M) (T := F_M) (N := 35) hx hb hts i_M hown hK.1 hP 0 rfl rfl 29 (by decide) (hts _ wd_451) (fun _ h9 => h9) rfl d_M_upper_73 ?_
      refine lv_iload hx hb d_M_upper_76 (lv_at hl 0 rfl) ?_
      replace h := gd h
      obtain ⟨hi, h⟩ := h
      refine va_iald hx hb hK.1 hP 19 0 rfl rfl hi d_M_upper_78 ?_
      by_cases e79_0 : ((M_stage σ) ((M_high σ) - 1).toNatClampNeg) = 0
      · rw [if_pos e79_0] at h
        refine lv_tableIn (off := 25) (tgt := 104) hx hb d_M_upper_79 (by rw [e79_0]; decide) (by rw [e79_0]; decide) (by rw [e79_0]; rfl) (by decide) ?_
        refine lv_aload_n hx hb d_M_upper_104 rfl (lv_at hl 1 rfl) ?_
        refine lv_iload hx hb d_M_upper_105 (lv_at hl 0 rfl) ?_
        replace h := bd h
        obtain ⟨r4, g4, h⟩ := h
        refine rw_Vv (n := 1) (ci := 4) (As := [.int ((M_high σ) - 1)]) (rest := []) (Wn := fun _ => (wM cI cZ a q r4.2)) C0 hA (c_M_begin l D cI cZ a q σ ((M_high σ) - 1) g4) wd_473 ⟨wd_474, wd_475, wd_476, wd_352⟩ (by decide +kernel) ⟨Nat.le_of_ble_eq_true rfl, Nat.le_of_ble_eq_true rfl⟩ hP hD hS [0, 1, 2, 3, 4, 5, 6, 7, 8, 9, 10, 11, 12, 13, 14, 15, 16, 17, 18, 19, 20, 21, 22, 23] [] [0, 1, 2, 3, 4, 5, 6, 7, 8, 9, 10, 11, 12, 13, 14, 15, 16, 17, 18, 19, 20, 21, 22, 23] jn_M__C (by decide) jn_M__R (by decide) (by decide) (by decide) jn_M__W rfl rfl rfl hl rfl rfl (Nat.le_of_ble_eq_true rfl) ⟨Nat.zero_le _, Nat.zero_le _⟩ d_M_upper_107 (fun H locs _ hP hD hS => ?_)
        try dsimp only at h
        refine lv_goto (tgt := 167) hx hb d_M_upper_110 (by decide) ?_
        refine lv_goto (tgt := 50) hx hb d_M_upper_167 (by decide) ?_
        exact hk50 _ _ _ _ _ _ h hP hD hS (lv_sub hl [1, 2] rfl)
      · rw [if_neg e79_0] at h
        by_cases e79_1 : ((M_stage σ) ((M_high σ) - 1).toNatClampNeg) = 1
        · rw [if_pos e79_1] at h
          refine lv_tableIn (off := 34) (tgt := 113) hx hb d_M_upper_79 (by rw [e79_1]; decide) (by rw [e79_1]; decide) (by rw [e79_1]; rfl) (by decide) ?_
          refine lv_aload_n hx hb d_M_upper_113 rfl (lv_at hl 1 rfl) ?_
          refine lv_aload_n hx hb d_M_upper_114 rfl (lv_at hl 1 rfl) ?_
          refine lv_aload_n hx hb d_M_upper_115 rfl (lv_at hl 1 rfl) ?_
          refine va_get (ci := 4) (v := .int (M_answer σ)) (C := R_M) (T := F_M) (N := 35) hx hb hts i_M hown hK.1 hP 0 rfl rfl 34 (by decide) (hts _ wd_454) (fun _ h9 => h9) rfl d_M_upper_116 ?_
          replace h := bd h
          obtain ⟨r5, g5, h⟩ := h
          refine rw_V (n := 1) (ci := 4) (As := [.int (M_answer σ)]) (rest := [.ref (a 20)]) (Wn := fun _ => (wM cI cZ a q r5.2)) C0 hA (c_M_addArray l D cI cZ a q σ (M_answer σ) g5) wd_431 ⟨wd_432, wd_433, wd_434, wd_352⟩ (by decide +kernel) ⟨Nat.le_of_ble_eq_true rfl, Nat.le_of_ble_eq_true rfl⟩ hP hD hS [0, 1, 2, 3, 4, 5, 6, 7, 8, 9, 10, 11, 12, 13, 14, 15, 16, 17, 18, 19, 20, 21, 22, 23] [] [0, 1, 2, 3, 4, 5, 6, 7, 8, 9, 10, 11, 12, 13, 14, 15, 16, 17, 18, 19, 20, 21, 22, 23] jn_M__C (by decide) jn_M__R (by decide) (by decide) (by decide) jn_M__W rfl rfl rfl hl rfl rfl (Nat.le_of_ble_eq_true rfl) ⟨Nat.zero_le _, Nat.zero_le _⟩ d_M_upper_119 (fun H locs _ hP hD hS => ?_)
          try dsimp only at h
          replace h := bd h
          obtain ⟨r6, g6, h⟩ := h
          refine rw_Vv (n := 1) (ci := 4) (As := [.int r5.1]) (rest := []) (Wn := fun _ => (wM cI cZ a q r6.2)) C0 hA (c_M_tell l D cI cZ a q r5.2 r5.1 g6) wd_461 ⟨wd_462, wd_463, wd_464, wd_352⟩ (by decide +kernel) ⟨Nat.le_of_ble_eq_true rfl, Nat.le_of_ble_eq_true rfl⟩ hP hD hS [0, 1, 2, 3, 4, 5, 6, 7, 8, 9, 10, 11, 12, 13, 14, 15, 16, 17, 18, 19, 20, 21, 22, 23] [] [0, 1, 2, 3, 4, 5, 6, 7, 8, 9, 10, 11, 12, 13, 14, 15, 16, 17, 18, 19, 20, 21, 22, 23] jn_M__C (by decide) jn_M__R (by decide) (by decide) (by decide) jn_M__W rfl rfl rfl hl rfl rfl (Nat.le_of_ble_eq_true rfl) ⟨Nat.zero_le _, Nat.zero_le _⟩ d_M_upper_122 (fun H locs _ hP hD hS => ?_)
          try dsimp only at h
          refine lv_goto (tgt := 167) hx hb d_M_upper_125 (by decide) ?_
          refine lv_goto (tgt := 50) hx hb d_M_upper_167 (by decide) ?_
          exact hk50 _ _ _ _ _ _ h hP hD hS (lv_sub hl [1, 2] rfl)
        · rw [if_neg e79_1] at h
          by_cases e79_2 : ((M_stage σ) ((M_high σ) - 1).toNatClampNeg) = 2
          · rw [if_pos e79_2] at h
            refine lv_tableIn (off := 49) (tgt := 128) hx hb d_M_upper_79 (by rw [e79_2]; decide) (by rw [e79_2]; decide) (by rw [e79_2]; rfl) (by decide) ?_
            refine lv_aload_n hx hb d_M_upper_128 rfl (lv_at hl 1 rfl) ?_
            refine lv_iload hx hb d_M_upper_129 (lv_at hl 0 rfl) ?_
            replace h := bd h
            obtain ⟨r7, g7, h⟩ := h
            refine rw_Vv (n := 1) (ci := 4) (As := [.int ((M_high σ) - 1)]) (rest := []) (Wn := fun _ => (wM cI cZ a q r7.2)) C0 hA (c_M_goOn l D cI cZ a q σ ((M_high σ) - 1) g7) wd_477 ⟨wd_478, wd_479, wd_480, wd_352⟩ (by decide +kernel) ⟨Nat.le_of_ble_eq_true rfl, Nat.le_of_ble_eq_true rfl⟩ hP hD hS [0, 1, 2, 3, 4, 5, 6, 7, 8, 9, 10, 11, 12, 13, 14, 15, 16, 17, 18, 19, 20, 21, 22, 23] [] [0, 1, 2, 3, 4, 5, 6, 7, 8, 9, 10, 11, 12, 13, 14, 15, 16, 17, 18, 19, 20, 21, 22, 23] jn_M__C (by decide) jn_M__R (by decide) (by decide) (by decide) jn_M__W rfl rfl rfl hl rfl rfl (Nat.le_of_ble_eq_true rfl) ⟨Nat.zero_le _, Nat.zero_le _⟩ d_M_upper_131 (fun H locs _ hP hD hS => ?_)
            try dsimp only at h
            refine lv_goto (tgt := 167) hx hb d_M_upper_134 (by decide) ?_
            refine lv_goto (tgt := 50) hx hb d_M_upper_167 (by decide) ?_
            exact hk50 _ _ _ _ _ _ h hP hD hS (lv_sub hl [1, 2] rfl)
          · rw [if_neg e79_2] at h
            refine lv_tableOut (tgt := 137) hx hb d_M_upper_79 (by have n0 := lv_neT (a := 0) e79_0 (by decide); have n1 := lv_neT (a := 1) e79_1 (by decide); have n2 := lv_neT (a := 2) e79_2 (by decide); omega) (by decide) ?_
            refine lv_aload_n hx hb d_M_upper_137 rfl (lv_at hl 1 rfl) ?_
            refine va_get (ci := 4) (v := .ref (a 39)) (C := R_M) (T := F_M) (N := 35) hx hb hts i_M hown hK.1 hP 0 rfl rfl 29 (by decide) (hts _ wd_451) (fun _ h9 => h9) rfl d_M_upper_138 ?_
            refine lv_iload hx hb d_M_upper_141 (lv_at hl 0 rfl) ?_
            refine lv_iconst (v := 2) hx hb d_M_upper_143 (by decide) ?_
            replace h := gd h
            obtain ⟨hi, h⟩ := h
            refine rw_iast C0 hP hD hS 19 0 rfl rfl hi d_M_upper_144 (Wn := (wM cI cZ a q (M_put_stage σ ((M_high σ) - 1) 2))) ws_M_put_stage (fun H locs hP hD hS => ?_)
            refine lv_aload_n hx hb d_M_upper_145 rfl (lv_at hl 1 rfl) ?_
            refine lv_iload hx hb d_M_upper_146 (lv_at hl 0 rfl) ?_
            refine lv_aload_n hx hb d_M_upper_148 rfl (lv_at hl 1 rfl) ?_
            refine lv_aload_n hx hb d_M_upper_149 rfl (lv_at hl 1 rfl) ?_
            refine va_get (ci := 4) (v := .ref (a 41)) (C := R_M) (T := F_M) (N := 35) hx hb hts i_M hown hK.1 hP 0 rfl rfl 31 (by decide) (hts _ wd_453) (fun _ h9 => h9) rfl d_M_upper_150 ?_
            refine lv_iload hx hb d_M_upper_153 (lv_at hl 0 rfl) ?_
            replace h := gd h
            obtain ⟨hi, h⟩ := h
            refine va_iald hx hb hK.1 hP 21 0 rfl rfl hi d_M_upper_155 ?_
            refine lv_iconst (v := 2) hx hb d_M_upper_156 (by decide) ?_
            refine lv_aload_n hx hb d_M_upper_157 rfl (lv_at hl 1 rfl) ?_
            refine va_get (ci := 4) (v := .int (M_answer (M_put_stage σ ((M_high σ) - 1) 2))) (C := R_M) (T := F_M) (N := 35) hx hb hts i_M hown hK.1 hP 0 rfl rfl 34 (by decide) (hts _ wd_454) (fun _ h9 => h9) rfl d_M_upper_158 ?_
            replace h := bd h
            obtain ⟨r8, g8, h⟩ := h
            refine rw_V (n := 3) (ci := 4) (As := [.int ((M_at (M_put_stage σ ((M_high σ) - 1) 2)) ((M_high σ) - 1).toNatClampNeg), .int 2, .int (M_answer (M_put_stage σ ((M_high σ) - 1) 2))]) (rest := [.int ((M_high σ) - 1), .ref (a 20)]) (Wn := fun _ => (wM cI cZ a q r8.2)) C0 hA (c_M_addNamed l D cI cZ a q (M_put_stage σ ((M_high σ) - 1) 2) ((M_at (M_put_stage σ ((M_high σ) - 1) 2)) ((M_high σ) - 1).toNatClampNeg) 2 (M_answer (M_put_stage σ ((M_high σ) - 1) 2)) g8) wd_419 ⟨wd_420, wd_421, wd_422, wd_352⟩ (by decide +kernel) ⟨Nat.le_of_ble_eq_true rfl, Nat.le_of_ble_eq_true rfl⟩ hP hD hS [0, 1, 2, 3, 4, 5, 6, 7, 8, 9, 10, 11, 12, 13, 14, 15, 16, 17, 18, 19, 20, 21, 22, 23] [] [0, 1, 2, 3, 4, 5, 6, 7, 8, 9, 10, 11, 12, 13, 14, 15, 16, 17, 18, 19, 20, 21, 22, 23] jn_M__C (by decide) jn_M__R (by decide) (by decide) (by decide) jn_M__W rfl rfl rfl hl rfl rfl (Nat.le_of_ble_eq_true rfl) ⟨Nat.zero_le _, Nat.zero_le _⟩ d_M_upper_161 (fun H locs _ hP hD hS => ?_)
            try dsimp only at h
            replace h := bd h
            obtain ⟨r9, g9, h⟩ := h
            refine rw_Vv (n := 2) (ci := 4) (As := [.int ((M_high σ) - 1), .int r8.1]) (rest := []) (Wn := fun _ => (wM cI cZ a q r9.2)) C0 hA (c_M_keep l D cI cZ a q r8.2 ((M_high σ) - 1) r8.1 g9) wd_465 ⟨wd_466, wd_467, wd_468, wd_352⟩ (by decide +kernel) ⟨Nat.le_of_ble_eq_true rfl, Nat.le_of_ble_eq_true rfl⟩ hP hD hS [0, 1, 2, 3, 4, 5, 6, 7, 8, 9, 10, 11, 12, 13, 14, 15, 16, 17, 18, 19, 20, 21, 22, 23] [] [0, 1, 2, 3, 4, 5, 6, 7, 8, 9, 10, 11, 12, 13, 14, 15, 16, 17, 18, 19, 20, 21, 22, 23] jn_M__C (by decide) jn_M__R (by decide) (by decide) (by decide) jn_M__W rfl rfl rfl hl rfl rfl (Nat.le_of_ble_eq_true rfl) ⟨Nat.zero_le _, Nat.zero_le _⟩ d_M_upper_164 (fun H locs _ hP hD hS => ?_)
            try dsimp only at h
            refine lv_goto (tgt := 50) hx hb d_M_upper_167 (by decide) ?_
            exact hk50 _ _ _ _ _ _ h hP hD hS (lv_sub hl [1, 2] rfl)
set_option maxHeartbeats 4000000 in
set_option maxRecDepth 100000 in
theorem t_M_upper_50 {p : Program} {l : Launch} {e : Env} {s : State} {m : MethodId} {args : Array Value} {below : List Frame} {meth : Method} {c : Code} {D : va_G} {cI cZ : ClassId} {a : Nat → Nat} {A : Nat → Prop} (C0 : Am p s m args meth c b_M_upper (some .int) 5 R_M D [(cI, .int), (cZ, .boolean)]) (hA : ∀ q, s.heap.size ≤ q → A q) {res : Int32 × StM}  {n : Nat} {q : Nat} {σ : StM} {x3 : Int32} (h : f_M_upper_50  n σ x3 = some res) {H : Heap} {locs : List Loc} (hP : va_P D vwCl (wM cI cZ a q σ) H) (hD : va_D A (wM cI cZ a q σ)) (hS : va_S A s.heap H locs) {ls : Array Slot} (hl : lv_has ls 5 [(0, .ref (a 20)), (3, .int x3)]) : W p l e (rmK 5 122 0 0) s m args below meth c H locs 0 0 (RwQ below args s D A (fun q (σ : StM) => (wM cI cZ a q σ)) res 0 0) (F0 m 50 ls []) := by
  induction n generalizing q σ x3 H locs ls with
  | zero => cases h
  | succ n ih => exact t_M_upper_50_s (a := a) C0 hA  (fun _ _ _ _ _ _ h hP hD hS hl => ih h hP hD hS hl) h hP hD hS hl
set_option maxHeartbeats 4000000 in
set_option maxRecDepth 100000 in
theorem t_M_upper_22 {p : Program} {l : Launch} {e : Env} {s : State} {m : MethodId} {args : Array Value} {below : List Frame} {meth : Method} {c : Code} {D : va_G} {cI cZ : ClassId} {a : Nat → Nat} {A : Nat → Prop} (C0 : Am p s m args meth c b_M_upper (some .int) 5 R_M D [(cI, .int), (cZ, .boolean)]) (hA : ∀ q, s.heap.size ≤ q → A q) {res : Int32 × StM}   {q : Nat} {σ : StM} {x1 x2 t1 : Int32} (h : f_M_upper_22 σ x1 x2 t1 = some res) {H : Heap} {locs : List Loc} (hP : va_P D vwCl (wM cI cZ a q σ) H) (hD : va_D A (wM cI cZ a q σ)) (hS : va_S A s.heap H locs) {ls : Array Slot} (hl : lv_has ls 5 [(0, .ref (a 20)), (1, .int x1), (2, .int x2)]) : W p l e (rmK 5 122 0 0) s m args below meth c H locs 0 0 (RwQ below args s D A (fun q (σ : StM) => (wM cI cZ a q σ)) res 0 0) (F0 m 22 ls [.int t1, .ref (a 20)]) := by
  obtain ⟨hx, hb, hr, hml, hown, hts, hlk, hK⟩ := id C0
  unfold f_M_upper_22 at h
  replace h := bd h
  obtain ⟨r1, g1, h⟩ := h
  refine rw_V (n := 1) (ci := 4) (As := [.int t1]) (rest := []) (Wn := fun _ => (wM cI cZ a q r1.2)) C0 hA (c_M_good l D cI cZ a q σ t1 g1) wd_388 ⟨wd_389, wd_390, wd_391, wd_352⟩ (by decide +kernel) ⟨Nat.le_of_ble_eq_true rfl, Nat.le_of_ble_eq_true rfl⟩ hP hD hS [0, 1, 2, 3, 4, 5, 6, 7, 8, 9, 10, 11, 12, 13, 14, 15, 16, 17, 18, 19, 20, 21, 22, 23] [] [0, 1, 2, 3, 4, 5, 6, 7, 8, 9, 10, 11, 12, 13, 14, 15, 16, 17, 18, 19, 20, 21, 22, 23] jn_M__C (by decide) jn_M__R (by decide) (by decide) (by decide) jn_M__W rfl rfl rfl hl rfl rfl (Nat.le_of_ble_eq_true rfl) ⟨Nat.zero_le _, Nat.zero_le _⟩ d_M_upper_22 (fun H locs _ hP hD hS => ?_)
  try dsimp only at h
  refine lv_if_ne (tgt := 30) hx hb d_M_upper_25 (by decide) (fun hc => ?_) (fun hc => ?_)
  · rw [if_neg hc] at h
    refine lv_aload_n hx hb d_M_upper_30 rfl (lv_at hl 0 rfl) ?_
    refine va_get (ci := 4) (v := .int (M_types r1.2)) (C := R_M) (T := F_M) (N := 35) hx hb hts i_M hown hK.1 hP 0 rfl rfl 10 (by decide) (hts _ wd_344) (fun _ h9 => h9) rfl d_M_upper_31 ?_
    refine lv_istore_n (lv' := [(3, .int (M_types r1.2)), (0, .ref (a 20)), (1, .int x1), (2, .int x2)]) hx hb d_M_upper_34 rfl hl (by decide) rfl (fun ls hl => ?_)
    refine lv_aload_n hx hb d_M_upper_35 rfl (lv_at hl 1 rfl) ?_
    refine lv_iconst (v := 0) hx hb d_M_upper_36 (by decide) ?_
    refine rw_put (v := .int 0) (fty := .int) (C := R_M) (T := F_M) (N := 35) C0 hP hD hS i_M ty_M tyok_M nn_M 0 rfl rfl 25 (by decide) (hts _ wd_448) rfl rfl (by decide +kernel) rfl rfl (Nat.le_of_ble_eq_true rfl) d_M_upper_37 (Wn := (wM cI cZ a q (M_set_high r1.2 0))) ws_M_set_high (fun H locs hP hD hS => ?_)
    refine lv_aload_n hx hb d_M_upper_40 rfl (lv_at hl 1 rfl) ?_
    refine lv_iload_n hx hb d_M_upper_41 rfl (lv_at hl 2 rfl) ?_
    refine lv_iload_n hx hb d_M_upper_42 rfl (lv_at hl 3 rfl) ?_
    refine lv_aload_n hx hb d_M_upper_43 rfl (lv_at hl 1 rfl) ?_
    refine va_get (ci := 4) (v := .int (M_depth (M_set_high r1.2 0))) (C := R_M) (T := F_M) (N := 35) hx hb hts i_M hown hK.1 hP 0 rfl rfl 1 (by decide) (hts _ wd_418) (fun _ h9 => h9) rfl d_M_upper_44 ?_
    replace h := bd h
    obtain ⟨r2, g2, h⟩ := h
    refine rw_Vv (n := 3) (ci := 4) (As := [.int x1, .int x2, .int (M_depth (M_set_high r1.2 0))]) (rest := []) (Wn := fun _ => (wM cI cZ a q r2.2)) C0 hA (c_M_ask l D cI cZ a q (M_set_high r1.2 0) x1 x2 (M_depth (M_set_high r1.2 0)) g2) wd_457 ⟨wd_458, wd_459, wd_460, wd_352⟩ (by decide +kernel) ⟨Nat.le_of_ble_eq_true rfl, Nat.le_of_ble_eq_true rfl⟩ hP hD hS [0, 1, 2, 3, 4, 5, 6, 7, 8, 9, 10, 11, 12, 13, 14, 15, 16, 17, 18, 19, 20, 21, 22, 23] [] [0, 1, 2, 3, 4, 5, 6, 7, 8, 9, 10, 11, 12, 13, 14, 15, 16, 17, 18, 19, 20, 21, 22, 23] jn_M__C (by decide) jn_M__R (by decide) (by decide) (by decide) jn_M__W rfl rfl rfl hl rfl rfl (Nat.le_of_ble_eq_true rfl) ⟨Nat.zero_le _, Nat.zero_le _⟩ d_M_upper_47 (fun H locs _ hP hD hS => ?_)
    try dsimp only at h
    exact t_M_upper_50 (a := a) C0 hA  h hP hD hS (lv_sub hl [1, 0] rfl)
  · rw [if_pos hc] at h
    refine lv_iconst (v := 0) hx hb d_M_upper_28 (by decide) ?_
    exact rw_ret C0 hP hD hS (Option.some.inj h) d_M_upper_29
set_option maxHeartbeats 4000000 in
set_option maxRecDepth 100000 in
theorem t_M_upper_21 {p : Program} {l : Launch} {e : Env} {s : State} {m : MethodId} {args : Array Value} {below : List Frame} {meth : Method} {c : Code} {D : va_G} {cI cZ : ClassId} {a : Nat → Nat} {A : Nat → Prop} (C0 : Am p s m args meth c b_M_upper (some .int) 5 R_M D [(cI, .int), (cZ, .boolean)]) (hA : ∀ q, s.heap.size ≤ q → A q) {res : Int32 × StM}   {q : Nat} {σ : StM} {x1 x2 : Int32} (h : f_M_upper_21 σ x1 x2 = some res) {H : Heap} {locs : List Loc} (hP : va_P D vwCl (wM cI cZ a q σ) H) (hD : va_D A (wM cI cZ a q σ)) (hS : va_S A s.heap H locs) {ls : Array Slot} (hl : lv_has ls 5 [(0, .ref (a 20)), (1, .int x1), (2, .int x2)]) : W p l e (rmK 5 122 0 0) s m args below meth c H locs 0 0 (RwQ below args s D A (fun q (σ : StM) => (wM cI cZ a q σ)) res 0 0) (F0 m 21 ls [.ref (a 20)]) := by
  obtain ⟨hx, hb, hr, hml, hown, hts, hlk, hK⟩ := id C0
  unfold f_M_upper_21 at h
  refine lv_iconst (v := 1) hx hb d_M_upper_21 (by decide) ?_
  exact t_M_upper_22 (a := a) C0 hA  h hP hD hS (lv_sub hl [0, 1, 2] rfl)
set_option maxHeartbeats 4000000 in
set_option maxRecDepth 100000 in
theorem t_M_upper_0 {p : Program} {l : Launch} {e : Env} {s : State} {m : MethodId} {args : Array Value} {below : List Frame} {meth : Method} {c : Code} {D : va_G} {cI cZ : ClassId} {a : Nat → Nat} {A : Nat → Prop} (C0 : Am p s m args meth c b_M_upper (some .int) 5 R_M D [(cI, .int), (cZ, .boolean)]) (hA : ∀ q, s.heap.size ≤ q → A q) {res : Int32 × StM}   {q : Nat} {σ : StM} {x1 x2 : Int32} (h : f_M_upper σ x1 x2 = some res) {H : Heap} {locs : List Loc} (hP : va_P D vwCl (wM cI cZ a q σ) H) (hD : va_D A (wM cI cZ a q σ)) (hS : va_S A s.heap H locs) {ls : Array Slot} (hl : lv_has ls 5 [(0, .ref (a 20)), (1, .int x1), (2, .int x2)]) : W p l e (rmK 5 122 0 0) s m args below meth c H locs 0 0 (RwQ below args s D A (fun q (σ : StM) => (wM cI cZ a q σ)) res 0 0) (F0 m 0 ls []) := by
  obtain ⟨hx, hb, hr, hml, hown, hts, hlk, hK⟩ := id C0
  unfold f_M_upper at h
  refine lv_aload_n hx hb d_M_upper_0 rfl (lv_at hl 0 rfl) ?_
  refine lv_aload_n hx hb d_M_upper_1 rfl (lv_at hl 0 rfl) ?_
  refine lv_iload_n hx hb d_M_upper_2 rfl (lv_at hl 1 rfl) ?_
  refine ro_V (n := 1) (ci := 4) (As := [.int x1]) (rest := [.ref (a 20)]) C0 (c_M_isType l D cI cZ a q σ x1 rfl) wd_427 ⟨wd_428, wd_429, wd_430, wd_352⟩ (by decide +kernel) ⟨Nat.le_of_ble_eq_true rfl, Nat.le_of_ble_eq_true rfl⟩ hP rfl rfl rfl hl rfl rfl (Nat.le_of_ble_eq_true rfl) ⟨Nat.zero_le _, Nat.zero_le _⟩ d_M_upper_3 ?_
  refine lv_if_eq (tgt := 21) hx hb d_M_upper_6 (by decide) (fun hc => ?_) (fun hc => ?_)
  · rw [if_pos hc] at h
    exact t_M_upper_21 (a := a) C0 hA  h hP hD hS (lv_sub hl [0, 1, 2] rfl)
  · rw [if_neg hc] at h
    refine lv_aload_n hx hb d_M_upper_9 rfl (lv_at hl 0 rfl) ?_
    refine lv_iload_n hx hb d_M_upper_10 rfl (lv_at hl 2 rfl) ?_
    refine ro_V (n := 1) (ci := 4) (As := [.int x2]) (rest := [.ref (a 20)]) C0 (c_M_isType l D cI cZ a q σ x2 rfl) wd_427 ⟨wd_428, wd_429, wd_430, wd_352⟩ (by decide +kernel) ⟨Nat.le_of_ble_eq_true rfl, Nat.le_of_ble_eq_true rfl⟩ hP rfl rfl rfl hl rfl rfl (Nat.le_of_ble_eq_true rfl) ⟨Nat.zero_le _, Nat.zero_le _⟩ d_M_upper_11 ?_
    refine lv_if_eq (tgt := 21) hx hb d_M_upper_14 (by decide) (fun hc => ?_) (fun hc => ?_)
    · rw [if_pos hc] at h
      exact t_M_upper_21 (a := a) C0 hA  h hP hD hS (lv_sub hl [0, 1, 2] rfl)
    · rw [if_neg hc] at h
      refine lv_iconst (v := 0) hx hb d_M_upper_17 (by decide) ?_
      refine lv_goto (tgt := 22) hx hb d_M_upper_18 (by decide) ?_
      exact t_M_upper_22 (a := a) C0 hA  h hP hD hS (lv_sub hl [0, 1, 2] rfl)
set_option maxHeartbeats 4000000 in
set_option maxRecDepth 100000 in
theorem c_M_upper (l : Launch) (D : va_G) (cI cZ : ClassId) (a : Nat → Nat) (q : Nat) (σ : StM) (x1 : Int32) (x2 : Int32) {res : Int32 × StM} (h : f_M_upper σ x1 x2 = some res) : RwM l y_M_upper b_M_upper 5 (some .int) 5 122 D [(cI, .int), (cZ, .boolean)] [.ref (a 20), .int x1, .int x2] (fun q (σ : StM) => (wM cI cZ a q σ)) q σ res :=
  rw_of (by decide) (Nat.le_of_ble_eq_true rfl) (fun p e s m args below meth c ls A C0 hA hP hD hS hl => t_M_upper_0 (a := a) C0 hA h hP hD hS (lv_sub hl [0, 1, 2] rfl))
-- part 07.6M.43M_partOf.lean.txt
def f_M_partOf (σ : StM) (x1 x2 x3 : Int32) : Option Int32 :=
  if x1 < 0 ∨ 300 ≤ x1.toNatClampNeg then none else
  if ((M_partCount σ) x1.toNatClampNeg) ≤ x3 then
    if x1 < 0 ∨ 300 ≤ x1.toNatClampNeg then none else
    if (((30 * x2) + x3) - ((M_partCount σ) x1.toNatClampNeg)) < 0 ∨ 9000 ≤ (((30 * x2) + x3) - ((M_partCount σ) x1.toNatClampNeg)).toNatClampNeg then none else
    some ((M_partRow σ) (((30 * x2) + x3) - ((M_partCount σ) x1.toNatClampNeg)).toNatClampNeg)
  else
    if ((30 * x1) + x3) < 0 ∨ 9000 ≤ ((30 * x1) + x3).toNatClampNeg then none else
    some ((M_partRow σ) ((30 * x1) + x3).toNatClampNeg)
set_option maxHeartbeats 4000000 in
set_option maxRecDepth 100000 in
theorem t_M_partOf_0 {p : Program} {l : Launch} {e : Env} {s : State} {m : MethodId} {args : Array Value} {below : List Frame} {meth : Method} {c : Code} {D : va_G} {cI cZ : ClassId} {a : Nat → Nat} {q : Nat} {σ : StM} (C0 : Am p s m args meth c b_M_partOf (some .int) 4 R_M D [(cI, .int), (cZ, .boolean)]) (hP : va_P D vwCl (wM cI cZ a q σ) s.heap) {val : Int32}   {x1 x2 x3 : Int32} (h : f_M_partOf σ x1 x2 x3 = some val) {ls : Array Slot} (hl : lv_has ls 4 [(0, .ref (a 20)), (1, .int x1), (2, .int x2), (3, .int x3)]) : RoW p l e (rmK 0 0 0 0) s m args below meth c val (F0 m 0 ls []) := by
  obtain ⟨hx, hb, hr, hml, hown, hts, hlk, hK⟩ := id C0
  unfold f_M_partOf at h
  refine lv_iload_n hx hb d_M_partOf_0 rfl (lv_at hl 3 rfl) ?_
  refine lv_aload_n hx hb d_M_partOf_1 rfl (lv_at hl 0 rfl) ?_
  refine va_get (ci := 4) (v := .ref (a 32)) (C := R_M) (T := F_M) (N := 35) hx hb hts i_M hown hK.1 hP 0 rfl rfl 16 (by decide) (hts _ wd_354) (fun _ h9 => h9) rfl d_M_partOf_2 ?_
  refine lv_iload_n hx hb d_M_partOf_5 rfl (lv_at hl 1 rfl) ?_
  replace h := gd h
  obtain ⟨hi, h⟩ := h
  refine va_iald hx hb hK.1 hP 12 0 rfl rfl hi d_M_partOf_6 ?_
  refine lv_icmp_ge (tgt := 24) hx hb d_M_partOf_7 (by decide) (fun hc => ?_) (fun hc => ?_)
  · rw [if_pos hc] at h
    refine lv_aload_n hx hb d_M_partOf_24 rfl (lv_at hl 0 rfl) ?_
    refine va_get (ci := 4) (v := .ref (a 33)) (C := R_M) (T := F_M) (N := 35) hx hb hts i_M hown hK.1 hP 0 rfl rfl 17 (by decide) (hts _ wd_355) (fun _ h9 => h9) rfl d_M_partOf_25 ?_
    refine lv_bipush (v := 30) hx hb d_M_partOf_28 (by decide) ?_
    refine lv_iload_n hx hb d_M_partOf_30 rfl (lv_at hl 2 rfl) ?_
    refine lv_imul hx hb d_M_partOf_31 ?_
    refine lv_iload_n hx hb d_M_partOf_32 rfl (lv_at hl 3 rfl) ?_
    refine lv_iadd hx hb d_M_partOf_33 ?_
    refine lv_aload_n hx hb d_M_partOf_34 rfl (lv_at hl 0 rfl) ?_
    refine va_get (ci := 4) (v := .ref (a 32)) (C := R_M) (T := F_M) (N := 35) hx hb hts i_M hown hK.1 hP 0 rfl rfl 16 (by decide) (hts _ wd_354) (fun _ h9 => h9) rfl d_M_partOf_35 ?_
    refine lv_iload_n hx hb d_M_partOf_38 rfl (lv_at hl 1 rfl) ?_
    replace h := gd h
    obtain ⟨hi, h⟩ := h
    refine va_iald hx hb hK.1 hP 12 0 rfl rfl hi d_M_partOf_39 ?_
    refine lv_isub hx hb d_M_partOf_40 ?_
    replace h := gd h
    obtain ⟨hi, h⟩ := h
    refine va_iald hx hb hK.1 hP 13 0 rfl rfl hi d_M_partOf_41 ?_
    exact ro_ret C0 (Option.some.inj h) d_M_partOf_42
  · rw [if_neg hc] at h
    refine lv_aload_n hx hb d_M_partOf_10 rfl (lv_at hl 0 rfl) ?_
    refine va_get (ci := 4) (v := .ref (a 33)) (C := R_M) (T := F_M) (N := 35) hx hb hts i_M hown hK.1 hP 0 rfl rfl 17 (by decide) (hts _ wd_355) (fun _ h9 => h9) rfl d_M_partOf_11 ?_
    refine lv_bipush (v := 30) hx hb d_M_partOf_14 (by decide) ?_
    refine lv_iload_n hx hb d_M_partOf_16 rfl (lv_at hl 1 rfl) ?_
    refine lv_imul hx hb d_M_partOf_17 ?_
    refine lv_iload_n hx hb d_M_partOf_18 rfl (lv_at hl 3 rfl) ?_
    refine lv_iadd hx hb d_M_partOf_19 ?_
    replace h := gd h
    obtain ⟨hi, h⟩ := h
    refine va_iald hx hb hK.1 hP 13 0 rfl rfl hi d_M_partOf_20 ?_
    refine lv_goto (tgt := 42) hx hb d_M_partOf_21 (by decide) ?_
    exact ro_ret C0 (Option.some.inj h) d_M_partOf_42
set_option maxHeartbeats 4000000 in
set_option maxRecDepth 100000 in
theorem c_M_partOf (l : Launch) (D : va_G) (cI cZ : ClassId) (a : Nat → Nat) (q : Nat) (σ : StM) (x1 : Int32) (x2 : Int32) (x3 : Int32) {val : Int32} (h : f_M_partOf σ x1 x2 x3 = some val) : RoM l y_M_partOf b_M_partOf 4 (some .int) 0 0 D [(cI, .int), (cZ, .boolean)] [.ref (a 20), .int x1, .int x2, .int x3] (wM cI cZ a q σ) val :=
  ro_of (by decide) (Nat.le_of_ble_eq_true rfl) (fun p e s m args below meth c ls C0 hP hl => t_M_partOf_0 (a := a) C0 hP h (lv_sub hl [0, 1, 2, 3] rfl))
-- part 07.6M.44M_lower.lean.txt
def f_M_lower_64 (σ : StM) (x1 x2 : Int32) : Option (Int32 × StM) :=
  if ((300 * x1) + x2) < 0 ∨ 90000 ≤ ((300 * x1) + x2).toNatClampNeg then none else
  if ((M_below σ) ((300 * x1) + x2).toNatClampNeg) = 0 then
    some (x2, σ)
  else
    some (x1, σ)
def f_M_lower_262_s (k252 : StM → Int32 → Int32 → Option (Int32 × StM)) (k262 : StM → Int32 → Int32 → Int32 → Option (Int32 × StM)) (σ : StM) (x4 x5 x6 : Int32) : Option (Int32 × StM) :=
  if x5 ≤ x6 then
    k252 σ x4 (x5 + 1)
  else
    if x5 < 0 ∨ 64 ≤ x5.toNatClampNeg then none else
    if ((M_row σ) x5.toNatClampNeg) < 0 ∨ 300 ≤ ((M_row σ) x5.toNatClampNeg).toNatClampNeg then none else
    if x6 < 0 ∨ 64 ≤ x6.toNatClampNeg then none else
    if ((M_row σ) x6.toNatClampNeg) < 0 ∨ 300 ≤ ((M_row σ) x6.toNatClampNeg).toNatClampNeg then none else
    if ((M_classOf σ) ((M_row σ) x5.toNatClampNeg).toNatClampNeg) = ((M_classOf σ) ((M_row σ) x6.toNatClampNeg).toNatClampNeg) then
      some ((-1), σ)
    else
      if ((M_classOf σ) ((M_row σ) x5.toNatClampNeg).toNatClampNeg) < 0 ∨ 30 ≤ ((M_classOf σ) ((M_row σ) x5.toNatClampNeg).toNatClampNeg).toNatClampNeg then none else
      if ((M_face σ) ((M_classOf σ) ((M_row σ) x5.toNatClampNeg).toNatClampNeg).toNatClampNeg) = 0 then
        if ((M_classOf σ) ((M_row σ) x6.toNatClampNeg).toNatClampNeg) < 0 ∨ 30 ≤ ((M_classOf σ) ((M_row σ) x6.toNatClampNeg).toNatClampNeg).toNatClampNeg then none else
        if ((M_face σ) ((M_classOf σ) ((M_row σ) x6.toNatClampNeg).toNatClampNeg).toNatClampNeg) = 0 then
          some ((-1), σ)
        else
          k262 σ x4 x5 (x6 + 1)
      else
        k262 σ x4 x5 (x6 + 1)
def f_M_lower_262 (k252 : StM → Int32 → Int32 → Option (Int32 × StM)) : Nat → StM → Int32 → Int32 → Int32 → Option (Int32 × StM)
  | 0, _, _, _, _ => none
  | n + 1, σ, x4, x5, x6 => f_M_lower_262_s k252 (f_M_lower_262 k252 n) σ x4 x5 x6
def f_M_lower_252_s (k252 : StM → Int32 → Int32 → Option (Int32 × StM)) (σ : StM) (x4 x5 : Int32) : Option (Int32 × StM) :=
  if x4 ≤ x5 then
    (f_M_addBoth σ x4).bind fun r3 =>
    (f_M_end r3.2 (M_types σ) r3.1 2).bind fun r4 =>
    some (r4.1, r4.2)
  else
    f_M_lower_262 k252 1000 σ x4 x5 0
def f_M_lower_252 : Nat → StM → Int32 → Int32 → Option (Int32 × StM)
  | 0, _, _, _ => none
  | n + 1, σ, x4, x5 => f_M_lower_252_s (f_M_lower_252 n) σ x4 x5
def f_M_lower_213 (k125 : StM → Int32 → Int32 → Int32 → Int32 → Int32 → Option (Int32 × StM)) (k147 : StM → Int32 → Int32 → Int32 → Int32 → Int32 → Int32 → Int32 → Int32 → Option (Int32 × StM)) (σ : StM) (x1 x2 x3 x4 x5 x6 x8 : Int32) : Option (Int32 × StM) :=
  k147 σ x1 x2 x3 x4 x5 x6 1 (x8 + 1)
def f_M_lower_189 (k125 : StM → Int32 → Int32 → Int32 → Int32 → Int32 → Option (Int32 × StM)) (k147 : StM → Int32 → Int32 → Int32 → Int32 → Int32 → Int32 → Int32 → Int32 → Option (Int32 × StM)) (σ : StM) (x1 x2 x3 x4 x5 x6 x8 x9 : Int32) : Option (Int32 × StM) :=
  if x6 = x9 then
    k147 σ x1 x2 x3 x4 x5 x6 0 (x8 + 1)
  else
    if ((300 * x9) + x6) < 0 ∨ 90000 ≤ ((300 * x9) + x6).toNatClampNeg then none else
    if ((M_below σ) ((300 * x9) + x6).toNatClampNeg) = 0 then
      f_M_lower_213 k125 k147 σ x1 x2 x3 x4 x5 x6 x8
    else
      k147 σ x1 x2 x3 x4 x5 x6 0 (x8 + 1)
def f_M_lower_147_s (k125 : StM → Int32 → Int32 → Int32 → Int32 → Int32 → Option (Int32 × StM)) (k147 : StM → Int32 → Int32 → Int32 → Int32 → Int32 → Int32 → Int32 → Int32 → Option (Int32 × StM)) (σ : StM) (x1 x2 x3 x4 x5 x6 x7 x8 : Int32) : Option (Int32 × StM) :=
  if x3 ≤ x8 then
    if x7 = 0 then
      k125 σ x1 x2 x3 x4 (x5 + 1)
    else
      if x4 < 0 ∨ 64 ≤ x4.toNatClampNeg then none else
      k125 (M_put_row σ x4 x6) x1 x2 x3 (x4 + 1) (x5 + 1)
  else
    (f_M_partOf σ x1 x2 x8).bind fun r6 =>
    if x7 = 0 then
      k147 σ x1 x2 x3 x4 x5 x6 0 (x8 + 1)
    else
      if x5 = x8 then
        f_M_lower_213 k125 k147 σ x1 x2 x3 x4 x5 x6 x8
      else
        if x6 = r6 then
          if x5 < x8 then
            f_M_lower_213 k125 k147 σ x1 x2 x3 x4 x5 x6 x8
          else
            f_M_lower_189 k125 k147 σ x1 x2 x3 x4 x5 x6 x8 r6
        else
          f_M_lower_189 k125 k147 σ x1 x2 x3 x4 x5 x6 x8 r6
def f_M_lower_147 (k125 : StM → Int32 → Int32 → Int32 → Int32 → Int32 → Option (Int32 × StM)) : Nat → StM → Int32 → Int32 → Int32 → Int32 → Int32 → Int32 → Int32 → Int32 → Option (Int32 × StM)
  | 0, _, _, _, _, _, _, _, _, _ => none
  | n + 1, σ, x1, x2, x3, x4, x5, x6, x7, x8 => f_M_lower_147_s k125 (f_M_lower_147 k125 n) σ x1 x2 x3 x4 x5 x6 x7 x8
def f_M_lower_125_s (k125 : StM → Int32 → Int32 → Int32 → Int32 → Int32 → Option (Int32 × StM)) (σ : StM) (x1 x2 x3 x4 x5 : Int32) : Option (Int32 × StM) :=
  if x3 ≤ x5 then
    f_M_lower_252 1000 σ x4 0
  else
    (f_M_partOf σ x1 x2 x5).bind fun r5 =>
    f_M_lower_147 k125 1000 σ x1 x2 x3 x4 x5 r5 1 0
def f_M_lower_125 : Nat → StM → Int32 → Int32 → Int32 → Int32 → Int32 → Option (Int32 × StM)
  | 0, _, _, _, _, _, _ => none
  | n + 1, σ, x1, x2, x3, x4, x5 => f_M_lower_125_s (f_M_lower_125 n) σ x1 x2 x3 x4 x5
def f_M_lower_22 (σ : StM) (x1 x2 t1 : Int32) : Option (Int32 × StM) :=
  (f_M_good σ t1).bind fun r1 =>
  if r1.1 = 0 then
    some (0, r1.2)
  else
    (f_M_reckonBelow r1.2).bind fun r2 =>
    if ((300 * x1) + x2) < 0 ∨ 90000 ≤ ((300 * x1) + x2).toNatClampNeg then none else
    if ((M_below r2.2) ((300 * x1) + x2).toNatClampNeg) = 0 then
      if ((300 * x2) + x1) < 0 ∨ 90000 ≤ ((300 * x2) + x1).toNatClampNeg then none else
      if ((M_below r2.2) ((300 * x2) + x1).toNatClampNeg) = 0 then
        if x1 < 0 ∨ 300 ≤ x1.toNatClampNeg then none else
        if x2 < 0 ∨ 300 ≤ x2.toNatClampNeg then none else
        if x1 < 0 ∨ 300 ≤ x1.toNatClampNeg then none else
        if ((M_partCount r2.2) x1.toNatClampNeg) = 0 then
          some ((-1), r2.2)
        else
          if x2 < 0 ∨ 300 ≤ x2.toNatClampNeg then none else
          if ((M_partCount r2.2) x2.toNatClampNeg) = 0 then
            some ((-1), r2.2)
          else
            f_M_lower_125 1000 r2.2 x1 x2 (((M_partCount r2.2) x1.toNatClampNeg) + ((M_partCount r2.2) x2.toNatClampNeg)) 0 0
      else
        f_M_lower_64 r2.2 x1 x2
    else
      f_M_lower_64 r2.2 x1 x2
def f_M_lower_21 (σ : StM) (x1 x2 : Int32) : Option (Int32 × StM) :=
  f_M_lower_22 σ x1 x2 1
def f_M_lower (σ : StM) (x1 x2 : Int32) : Option (Int32 × StM) :=
  if (f_M_isType σ x1) = 0 then
    f_M_lower_21 σ x1 x2
  else
    if (f_M_isType σ x2) = 0 then
      f_M_lower_21 σ x1 x2
    else
      f_M_lower_22 σ x1 x2 0
set_option maxHeartbeats 4000000 in
set_option maxRecDepth 100000 in
theorem t_M_lower_64 {p : Program} {l : Launch} {e : Env} {s : State} {m : MethodId} {args : Array Value} {below : List Frame} {meth : Method} {c : Code} {D : va_G} {cI cZ : ClassId} {a : Nat → Nat} {A : Nat → Prop} (C0 : Am p s m args meth c b_M_lower (some .int) 10 R_M D [(cI, .int), (cZ, .boolean)]) (hA : ∀ q, s.heap.size ≤ q → A q) {res : Int32 × StM}   {q : Nat} {σ : StM} {x1 x2 : Int32} (h : f_M_lower_64 σ x1 x2 = some res) {H : Heap} {locs : List Loc} (hP : va_P D vwCl (wM cI cZ a q σ) H) (hD : va_D A (wM cI cZ a q σ)) (hS : va_S A s.heap H locs) {ls : Array Slot} (hl : lv_has ls 10 [(0, .ref (a 20)), (1, .int x1), (2, .int x2)]) : W p l e (rmK 5 122 0 0) s m args below meth c H locs 0 0 (RwQ below args s D A (fun q (σ : StM) => (wM cI cZ a q σ)) res 0 0) (F0 m 64 ls []) := by
  obtain ⟨hx, hb, hr, hml, hown, hts, hlk, hK⟩ := id C0
  unfold f_M_lower_64 at h
  refine lv_aload_n hx hb d_M_lower_64 rfl (lv_at hl 0 rfl) ?_
  refine va_get (ci := 4) (v := .ref (a 35)) (C := R_M) (T := F_M) (N := 35) hx hb hts i_M hown hK.1 hP 0 rfl rfl 23 (by decide) (hts _ wd_370) (fun _ h9 => h9) rfl d_M_lower_65 ?_
  refine lv_sipush (v := 300) hx hb d_M_lower_68 (by decide) ?_
  refine lv_iload_n hx hb d_M_lower_71 rfl (lv_at hl 1 rfl) ?_
  refine lv_imul hx hb d_M_lower_72 ?_
  refine lv_iload_n hx hb d_M_lower_73 rfl (lv_at hl 2 rfl) ?_
  refine lv_iadd hx hb d_M_lower_74 ?_
  replace h := gd h
  obtain ⟨hi, h⟩ := h
  refine va_zald hx hb hK.1 hP 15 1 rfl rfl hi d_M_lower_75 ?_
  refine lv_if_eq (tgt := 83) hx hb d_M_lower_76 (by decide) (fun hc => ?_) (fun hc => ?_)
  · rw [if_pos hc] at h
    refine lv_iload_n hx hb d_M_lower_83 rfl (lv_at hl 2 rfl) ?_
    exact rw_ret C0 hP hD hS (Option.some.inj h) d_M_lower_84
  · rw [if_neg hc] at h
    refine lv_iload_n hx hb d_M_lower_79 rfl (lv_at hl 1 rfl) ?_
    refine lv_goto (tgt := 84) hx hb d_M_lower_80 (by decide) ?_
    exact rw_ret C0 hP hD hS (Option.some.inj h) d_M_lower_84
set_option maxHeartbeats 4000000 in
set_option maxRecDepth 100000 in
theorem t_M_lower_262_s {p : Program} {l : Launch} {e : Env} {s : State} {m : MethodId} {args : Array Value} {below : List Frame} {meth : Method} {c : Code} {D : va_G} {cI cZ : ClassId} {a : Nat → Nat} {A : Nat → Prop} (C0 : Am p s m args meth c b_M_lower (some .int) 10 R_M D [(cI, .int), (cZ, .boolean)]) (hA : ∀ q, s.heap.size ≤ q → A q) {res : Int32 × StM} {k252 : StM → Int32 → Int32 → Option (Int32 × StM)} {k262 : StM → Int32 → Int32 → Int32 → Option (Int32 × StM)} (hk252 : ∀ (q : Nat) (σ : StM) (x4 x5 : Int32) (H : Heap) (locs : List Loc) (ls : Array Slot), k252 σ x4 x5 = some res → va_P D vwCl (wM cI cZ a q σ) H → va_D A (wM cI cZ a q σ) → va_S A s.heap H locs → lv_has ls 10 [(0, .ref (a 20)), (4, .int x4), (5, .int x5)] → W p l e (rmK 5 122 0 0) s m args below meth c H locs 0 0 (RwQ below args s D A (fun q (σ : StM) => (wM cI cZ a q σ)) res 0 0) (F0 m 252 ls [])) (hk262 : ∀ (q : Nat) (σ : StM) (x4 x5 x6 : Int32) (H : Heap) (locs : List Loc) (ls : Array Slot), k262 σ x4 x5 x6 = some res → va_P D vwCl (wM cI cZ a q σ) H → va_D A (wM cI cZ a q σ) → va_S A s.heap H locs → lv_has ls 10 [(0, .ref (a 20)), (4, .int x4), (5, .int x5), (6, .int x6)] → W p l e (rmK 5 122 0 0) s m args below meth c H locs 0 0 (RwQ below args s D A (fun q (σ : StM) => (wM cI cZ a q σ)) res 0 0) (F0 m 262 ls [])) {q : Nat} {σ : StM} {x4 x5 x6 : Int32} (h : f_M_lower_262_s k252 k262 σ x4 x5 x6 = some res) {H : Heap} {locs : List Loc} (hP : va_P D vwCl (wM cI cZ a q σ) H) (hD : va_D A (wM cI cZ a q σ)) (hS : va_S A s.heap H locs) {ls : Array Slot} (hl : lv_has ls 10 [(0, .ref (a 20)), (4, .int x4), (5, .int x5), (6, .int x6)]) : W p l e (rmK 5 122 0 0) s m args below meth c H locs 0 0 (RwQ below args s D A (fun q (σ : StM) => (wM cI cZ a q σ)) res 0 0) (F0 m 262 ls []) := by
  obtain ⟨hx, hb, hr, hml, hown, hts, hlk, hK⟩ := id C0
  unfold f_M_lower_262_s at h
  refine lv_iload hx hb d_M_lower_262 (lv_at hl 3 rfl) ?_
  refine lv_iload hx hb d_M_lower_264 (lv_at hl 2 rfl) ?_
  refine lv_icmp_ge (tgt := 332) hx hb d_M_lower_266 (by decide) (fun hc => ?_) (fun hc => ?_)
  · rw [if_pos hc] at h
    refine lv_iinc (v := (x5 + 1)) (lv' := [(5, .int (x5 + 1)), (0, .ref (a 20)), (4, .int x4), (6, .int x6)]) hx hb d_M_lower_332 hl (k := 2) rfl rfl (by decide) rfl (fun ls hl => ?_)
    refine lv_goto (tgt := 252) hx hb d_M_lower_335 (by decide) ?_
    exact hk252 _ _ _ _ _ _ _ h hP hD hS (lv_sub hl [1, 2, 0] rfl)
  · rw [if_neg hc] at h
    refine lv_aload_n hx hb d_M_lower_269 rfl (lv_at hl 0 rfl) ?_
    refine va_get (ci := 4) (v := .ref (a 28)) (C := R_M) (T := F_M) (N := 35) hx hb hts i_M hown hK.1 hP 0 rfl rfl 12 (by decide) (hts _ wd_356) (fun _ h9 => h9) rfl d_M_lower_270 ?_
    refine lv_aload_n hx hb d_M_lower_273 rfl (lv_at hl 0 rfl) ?_
    refine va_get (ci := 4) (v := .ref (a 34)) (C := R_M) (T := F_M) (N := 35) hx hb hts i_M hown hK.1 hP 0 rfl rfl 22 (by decide) (hts _ wd_369) (fun _ h9 => h9) rfl d_M_lower_274 ?_
    refine lv_iload hx hb d_M_lower_277 (lv_at hl 2 rfl) ?_
    replace h := gd h
    obtain ⟨hi, h⟩ := h
    refine va_iald hx hb hK.1 hP 14 0 rfl rfl hi d_M_lower_279 ?_
    replace h := gd h
    obtain ⟨hi, h⟩ := h
    refine va_iald hx hb hK.1 hP 8 0 rfl rfl hi d_M_lower_280 ?_
    refine lv_istore (lv' := [(7, .int ((M_classOf σ) ((M_row σ) x5.toNatClampNeg).toNatClampNeg)), (0, .ref (a 20)), (4, .int x4), (5, .int x5), (6, .int x6)]) hx hb d_M_lower_281 hl (by decide) rfl (fun ls hl => ?_)
    refine lv_aload_n hx hb d_M_lower_283 rfl (lv_at hl 1 rfl) ?_
    refine va_get (ci := 4) (v := .ref (a 28)) (C := R_M) (T := F_M) (N := 35) hx hb hts i_M hown hK.1 hP 0 rfl rfl 12 (by decide) (hts _ wd_356) (fun _ h9 => h9) rfl d_M_lower_284 ?_
    refine lv_aload_n hx hb d_M_lower_287 rfl (lv_at hl 1 rfl) ?_
    refine va_get (ci := 4) (v := .ref (a 34)) (C := R_M) (T := F_M) (N := 35) hx hb hts i_M hown hK.1 hP 0 rfl rfl 22 (by decide) (hts _ wd_369) (fun _ h9 => h9) rfl d_M_lower_288 ?_
    refine lv_iload hx hb d_M_lower_291 (lv_at hl 4 rfl) ?_
    replace h := gd h
    obtain ⟨hi, h⟩ := h
    refine va_iald hx hb hK.1 hP 14 0 rfl rfl hi d_M_lower_293 ?_
    replace h := gd h
    obtain ⟨hi, h⟩ := h
    refine va_iald hx hb hK.1 hP 8 0 rfl rfl hi d_M_lower_294 ?_
    refine lv_istore (lv' := [(8, .int ((M_classOf σ) ((M_row σ) x6.toNatClampNeg).toNatClampNeg)), (7, .int ((M_classOf σ) ((M_row σ) x5.toNatClampNeg).toNatClampNeg)), (0, .ref (a 20)), (4, .int x4), (5, .int x5), (6, .int x6)]) hx hb d_M_lower_295 hl (by decide) rfl (fun ls hl => ?_)
    refine lv_iload hx hb d_M_lower_297 (lv_at hl 1 rfl) ?_
    refine lv_iload hx hb d_M_lower_299 (lv_at hl 0 rfl) ?_
    refine lv_icmp_eq (tgt := 324) hx hb d_M_lower_301 (by decide) (fun hc => ?_) (fun hc => ?_)
    · rw [if_pos hc] at h
      refine lv_iconst (v := (-1)) hx hb d_M_lower_324 (by decide) ?_
      exact rw_ret C0 hP hD hS (Option.some.inj h) d_M_lower_325
    · rw [if_neg hc] at h
      refine lv_aload_n hx hb d_M_lower_304 rfl (lv_at hl 2 rfl) ?_
      refine va_get (ci := 4) (v := .ref (a 21)) (C := R_M) (T := F_M) (N := 35) hx hb hts i_M hown hK.1 hP 0 rfl rfl 4 (by decide) (hts _ wd_392) (fun _ h9 => h9) rfl d_M_lower_305 ?_
      refine lv_iload hx hb d_M_lower_308 (lv_at hl 1 rfl) ?_
      replace h := gd h
      obtain ⟨hi, h⟩ := h
      refine va_zald hx hb hK.1 hP 1 1 rfl rfl hi d_M_lower_310 ?_
      refine lv_if_ne (tgt := 326) hx hb d_M_lower_311 (by decide) (fun hc => ?_) (fun hc => ?_)
      · rw [if_neg hc] at h
        refine lv_iinc (v := (x6 + 1)) (lv' := [(6, .int (x6 + 1)), (8, .int ((M_classOf σ) ((M_row σ) x6.toNatClampNeg).toNatClampNeg)), (7, .int ((M_classOf σ) ((M_row σ) x5.toNatClampNeg).toNatClampNeg)), (0, .ref (a 20)), (4, .int x4), (5, .int x5)]) hx hb d_M_lower_326 hl (k := 5) rfl rfl (by decide) rfl (fun ls hl => ?_)
        refine lv_goto (tgt := 262) hx hb d_M_lower_329 (by decide) ?_
        exact hk262 _ _ _ _ _ _ _ _ h hP hD hS (lv_sub hl [3, 4, 5, 0] rfl)
      · rw [if_pos hc] at h
        refine lv_aload_n hx hb d_M_lower_314 rfl (lv_at hl 2 rfl) ?_
        refine va_get (ci := 4) (v := .ref (a 21)) (C := R_M) (T := F_M) (N := 35) hx hb hts i_M hown hK.1 hP 0 rfl rfl 4 (by decide) (hts _ wd_392) (fun _ h9 => h9) rfl d_M_lower_315 ?_
        refine lv_iload hx hb d_M_lower_318 (lv_at hl 0 rfl) ?_
        replace h := gd h
        obtain ⟨hi, h⟩ := h
        refine va_zald hx hb hK.1 hP 1 1 rfl rfl hi d_M_lower_320 ?_
        refine lv_if_ne (tgt := 326) hx hb d_M_lower_321 (by decide) (fun hc => ?_) (fun hc => ?_)
        · rw [if_neg hc] at h
          refine lv_iinc (v := (x6 + 1)) (lv' := [(6, .int (x6 + 1)), (8, .int ((M_classOf σ) ((M_row σ) x6.toNatClampNeg).toNatClampNeg)), (7, .int ((M_classOf σ) ((M_row σ) x5.toNatClampNeg).toNatClampNeg)), (0, .ref (a 20)), (4, .int x4), (5, .int x5)]) hx hb d_M_lower_326 hl (k := 5) rfl rfl (by decide) rfl (fun ls hl => ?_)
          refine lv_goto (tgt := 262) hx hb d_M_lower_329 (by decide) ?_
          exact hk262 _ _ _ _ _ _ _ _ h hP hD hS (lv_sub hl [3, 4, 5, 0] rfl)
        · rw [if_pos hc] at h
          refine lv_iconst (v := (-1)) hx hb d_M_lower_324 (by decide) ?_
          exact rw_ret C0 hP hD hS (Option.some.inj h) d_M_lower_325
set_option maxHeartbeats 4000000 in
set_option maxRecDepth 100000 in
theorem t_M_lower_262 {p : Program} {l : Launch} {e : Env} {s : State} {m : MethodId} {args : Array Value} {below : List Frame} {meth : Method} {c : Code} {D : va_G} {cI cZ : ClassId} {a : Nat → Nat} {A : Nat → Prop} (C0 : Am p s m args meth c b_M_lower (some .int) 10 R_M D [(cI, .int), (cZ, .boolean)]) (hA : ∀ q, s.heap.size ≤ q → A q) {res : Int32 × StM} {k252 : StM → Int32 → Int32 → Option (Int32 × StM)} (hk252 : ∀ (q : Nat) (σ : StM) (x4 x5 : Int32) (H : Heap) (locs : List Loc) (ls : Array Slot), k252 σ x4 x5 = some res → va_P D vwCl (wM cI cZ a q σ) H → va_D A (wM cI cZ a q σ) → va_S A s.heap H locs → lv_has ls 10 [(0, .ref (a 20)), (4, .int x4), (5, .int x5)] → W p l e (rmK 5 122 0 0) s m args below meth c H locs 0 0 (RwQ below args s D A (fun q (σ : StM) => (wM cI cZ a q σ)) res 0 0) (F0 m 252 ls [])) {n : Nat} {q : Nat} {σ : StM} {x4 x5 x6 : Int32} (h : f_M_lower_262 k252 n σ x4 x5 x6 = some res) {H : Heap} {locs : List Loc} (hP : va_P D vwCl (wM cI cZ a q σ) H) (hD : va_D A (wM cI cZ a q σ)) (hS : va_S A s.heap H locs) {ls : Array Slot} (hl : lv_has ls 10 [(0, .ref (a 20)), (4, .int x4), (5, .int x5), (6, .int x6)]) : W p l e (rmK 5 122 0 0) s m args below meth c H locs 0 0 (RwQ below args s D A (fun q (σ : StM) => (wM cI cZ a q σ)) res 0 0) (F0 m 262 ls []) := by
  induction n generalizing q σ x4 x5 x6 H locs ls with
  | zero => cases h
  | succ n ih => exact t_M_lower_262_s (a := a) C0 hA hk252 (fun _ _ _ _ _ _ _ _ h hP hD hS hl => ih h hP hD hS hl) h hP hD hS hl
set_option maxHeartbeats 4000000 in
set_option maxRecDepth 100000 in
theorem t_M_lower_252_s {p : Program} {l : Launch} {e : Env} {s : State} {m : MethodId} {args : Array Value} {below : List Frame} {meth : Method} {c : Code} {D : va_G} {cI cZ : ClassId} {a : Nat → Nat} {A : Nat → Prop} (C0 : Am p s m args meth c b_M_lower (some .int) 10 R_M D [(cI, .int), (cZ, .boolean)]) (hA : ∀ q, s.heap.size ≤ q → A q) {res : Int32 × StM} {k252 : StM → Int32 → Int32 → Option (Int32 × StM)}  (hk252 : ∀ (q : Nat) (σ : StM) (x4 x5 : Int32) (H : Heap) (locs : List Loc) (ls : Array Slot), k252 σ x4 x5 = some res → va_P D vwCl (wM cI cZ a q σ) H → va_D A (wM cI cZ a q σ) → va_S A s.heap H locs → lv_has ls 10 [(0, .ref (a 20)), (4, .int x4), (5, .int x5)] → W p l e (rmK 5 122 0 0) s m args below meth c H locs 0 0 (RwQ below args s D A (fun q (σ : StM) => (wM cI cZ a q σ)) res 0 0) (F0 m 252 ls [])) {q : Nat} {σ : StM} {x4 x5 : Int32} (h : f_M_lower_252_s k252 σ x4 x5 = some res) {H : Heap} {locs : List Loc} (hP : va_P D vwCl (wM cI cZ a q σ) H) (hD : va_D A (wM cI cZ a q σ)) (hS : va_S A s.heap H locs) {ls : Array Slot} (hl : lv_has ls 10 [(0, .ref (a 20)), (4, .int x4), (5, .int x5)]) : W p l e (rmK 5 122 0 0) s m args below meth c H locs 0 0 (RwQ below args s D A (fun q (σ : StM) => (wM cI cZ a q σ)) res 0 0) (F0 m 252 ls []) := by
  obtain ⟨hx, hb, hr, hml, hown, hts, hlk, hK⟩ := id C0
  unfold f_M_lower_252_s at h
  refine lv_iload hx hb d_M_lower_252 (lv_at hl 2 rfl) ?_
  refine lv_iload hx hb d_M_lower_254 (lv_at hl 1 rfl) ?_
  refine lv_icmp_ge (tgt := 338) hx hb d_M_lower_256 (by decide) (fun hc => ?_) (fun hc => ?_)
  · rw [if_pos hc] at h
    refine lv_aload_n hx hb d_M_lower_338 rfl (lv_at hl 0 rfl) ?_
    refine va_get (ci := 4) (v := .int (M_types σ)) (C := R_M) (T := F_M) (N := 35) hx hb hts i_M hown hK.1 hP 0 rfl rfl 10 (by decide) (hts _ wd_344) (fun _ h9 => h9) rfl d_M_lower_339 ?_
    refine lv_istore (lv' := [(5, .int (M_types σ)), (0, .ref (a 20)), (4, .int x4)]) hx hb d_M_lower_342 hl (by decide) rfl (fun ls hl => ?_)
    refine lv_aload_n hx hb d_M_lower_344 rfl (lv_at hl 1 rfl) ?_
    refine lv_iload hx hb d_M_lower_345 (lv_at hl 0 rfl) ?_
    refine lv_aload_n hx hb d_M_lower_347 rfl (lv_at hl 1 rfl) ?_
    refine lv_iload hx hb d_M_lower_348 (lv_at hl 2 rfl) ?_
    replace h := bd h
    obtain ⟨r3, g3, h⟩ := h
    refine rw_V (n := 1) (ci := 4) (As := [.int x4]) (rest := [.int (M_types σ), .ref (a 20)]) (Wn := fun _ => (wM cI cZ a q r3.2)) C0 hA (c_M_addBoth l D cI cZ a q σ x4 g3) wd_469 ⟨wd_470, wd_471, wd_472, wd_352⟩ (by decide +kernel) ⟨Nat.le_of_ble_eq_true rfl, Nat.le_of_ble_eq_true rfl⟩ hP hD hS [0, 1, 2, 3, 4, 5, 6, 7, 8, 9, 10, 11, 12, 13, 14, 15, 16, 17, 18, 19, 20, 21, 22, 23] [] [0, 1, 2, 3, 4, 5, 6, 7, 8, 9, 10, 11, 12, 13, 14, 15, 16, 17, 18, 19, 20, 21, 22, 23] jn_M__C (by decide) jn_M__R (by decide) (by decide) (by decide) jn_M__W rfl rfl rfl hl rfl rfl (Nat.le_of_ble_eq_true rfl) ⟨Nat.zero_le _, Nat.zero_le _⟩ d_M_lower_350 (fun H locs _ hP hD hS => ?_)
    try dsimp only at h
    refine lv_iconst (v := 2) hx hb d_M_lower_353 (by decide) ?_
    replace h := bd h
    obtain ⟨r4, g4, h⟩ := h
    refine rw_V (n := 3) (ci := 4) (As := [.int (M_types σ), .int r3.1, .int 2]) (rest := []) (Wn := fun _ => (wM cI cZ a q r4.2)) C0 hA (c_M_end l D cI cZ a q r3.2 (M_types σ) r3.1 2 g4) wd_423 ⟨wd_424, wd_425, wd_426, wd_352⟩ (by decide +kernel) ⟨Nat.le_of_ble_eq_true rfl, Nat.le_of_ble_eq_true rfl⟩ hP hD hS [0, 1, 2, 3, 4, 5, 6, 7, 8, 9, 10, 11, 12, 13, 14, 15, 16, 17, 18, 19, 20, 21, 22, 23] [] [0, 1, 2, 3, 4, 5, 6, 7, 8, 9, 10, 11, 12, 13, 14, 15, 16, 17, 18, 19, 20, 21, 22, 23] jn_M__C (by decide) jn_M__R (by decide) (by decide) (by decide) jn_M__W rfl rfl rfl hl rfl rfl (Nat.le_of_ble_eq_true rfl) ⟨Nat.zero_le _, Nat.zero_le _⟩ d_M_lower_354 (fun H locs _ hP hD hS => ?_)
    try dsimp only at h
    exact rw_ret C0 hP hD hS (Option.some.inj h) d_M_lower_357
  · rw [if_neg hc] at h
    refine lv_iconst (v := 0) hx hb d_M_lower_259 (by decide) ?_
    refine lv_istore (lv' := [(6, .int 0), (0, .ref (a 20)), (4, .int x4), (5, .int x5)]) hx hb d_M_lower_260 hl (by decide) rfl (fun ls hl => ?_)
    exact t_M_lower_262 (a := a) C0 hA hk252 h hP hD hS (lv_sub hl [1, 2, 3, 0] rfl)
set_option maxHeartbeats 4000000 in
set_option maxRecDepth 100000 in
theorem t_M_lower_252 {p : Program} {l : Launch} {e : Env} {s : State} {m : MethodId} {args : Array Value} {below : List Frame} {meth : Method} {c : Code} {D : va_G} {cI cZ : ClassId} {a : Nat → Nat} {A : Nat → Prop} (C0 : Am p s m args meth c b_M_lower (some .int) 10 R_M D [(cI, .int), (cZ, .boolean)]) (hA : ∀ q, s.heap.size ≤ q → A q) {res : Int32 × StM}  {n : Nat} {q : Nat} {σ : StM} {x4 x5 : Int32} (h : f_M_lower_252  n σ x4 x5 = some res) {H : Heap} {locs : List Loc} (hP : va_P D vwCl (wM cI cZ a q σ) H) (hD : va_D A (wM cI cZ a q σ)) (hS : va_S A s.heap H locs) {ls : Array Slot} (hl : lv_has ls 10 [(0, .ref (a 20)), (4, .int x4), (5, .int x5)]) : W p l e (rmK 5 122 0 0) s m args below meth c H locs 0 0 (RwQ below args s D A (fun q (σ : StM) => (wM cI cZ a q σ)) res 0 0) (F0 m 252 ls []) := by
  induction n generalizing q σ x4 x5 H locs ls with
  | zero => cases h
  | succ n ih => exact t_M_lower_252_s (a := a) C0 hA  (fun _ _ _ _ _ _ _ h hP hD hS hl => ih h hP hD hS hl) h hP hD hS hl
set_option maxHeartbeats 4000000 in
set_option maxRecDepth 100000 in
theorem t_M_lower_213 {p : Program} {l : Launch} {e : Env} {s : State} {m : MethodId} {args : Array Value} {below : List Frame} {meth : Method} {c : Code} {D : va_G} {cI cZ : ClassId} {a : Nat → Nat} {A : Nat → Prop} (C0 : Am p s m args meth c b_M_lower (some .int) 10 R_M D [(cI, .int), (cZ, .boolean)]) (hA : ∀ q, s.heap.size ≤ q → A q) {res : Int32 × StM} {k125 : StM → Int32 → Int32 → Int32 → Int32 → Int32 → Option (Int32 × StM)} {k147 : StM → Int32 → Int32 → Int32 → Int32 → Int32 → Int32 → Int32 → Int32 → Option (Int32 × StM)} (hk125 : ∀ (q : Nat) (σ : StM) (x1 x2 x3 x4 x5 : Int32) (H : Heap) (locs : List Loc) (ls : Array Slot), k125 σ x1 x2 x3 x4 x5 = some res → va_P D vwCl (wM cI cZ a q σ) H → va_D A (wM cI cZ a q σ) → va_S A s.heap H locs → lv_has ls 10 [(0, .ref (a 20)), (1, .int x1), (2, .int x2), (3, .int x3), (4, .int x4), (5, .int x5)] → W p l e (rmK 5 122 0 0) s m args below meth c H locs 0 0 (RwQ below args s D A (fun q (σ : StM) => (wM cI cZ a q σ)) res 0 0) (F0 m 125 ls [])) (hk147 : ∀ (q : Nat) (σ : StM) (x1 x2 x3 x4 x5 x6 x7 x8 : Int32) (H : Heap) (locs : List Loc) (ls : Array Slot), k147 σ x1 x2 x3 x4 x5 x6 x7 x8 = some res → va_P D vwCl (wM cI cZ a q σ) H → va_D A (wM cI cZ a q σ) → va_S A s.heap H locs → lv_has ls 10 [(0, .ref (a 20)), (1, .int x1), (2, .int x2), (3, .int x3), (4, .int x4), (5, .int x5), (6, .int x6), (7, .int x7), (8, .int x8)] → W p l e (rmK 5 122 0 0) s m args below meth c H locs 0 0 (RwQ below args s D A (fun q (σ : StM) => (wM cI cZ a q σ)) res 0 0) (F0 m 147 ls []))  {q : Nat} {σ : StM} {x1 x2 x3 x4 x5 x6 x8 : Int32} (h : f_M_lower_213 k125 k147 σ x1 x2 x3 x4 x5 x6 x8 = some res) {H : Heap} {locs : List Loc} (hP : va_P D vwCl (wM cI cZ a q σ) H) (hD : va_D A (wM cI cZ a q σ)) (hS : va_S A s.heap H locs) {ls : Array Slot} (hl : lv_has ls 10 [(0, .ref (a 20)), (1, .int x1), (2, .int x2), (3, .int x3), (4, .int x4), (5, .int x5), (6, .int x6), (8, .int x8)]) : W p l e (rmK 5 122 0 0) s m args below meth c H locs 0 0 (RwQ below args s D A (fun q (σ : StM) => (wM cI cZ a q σ)) res 0 0) (F0 m 213 ls []) := by
  obtain ⟨hx, hb, hr, hml, hown, hts, hlk, hK⟩ := id C0
  unfold f_M_lower_213 at h
  refine lv_iconst (v := 1) hx hb d_M_lower_213 (by decide) ?_
  refine lv_goto (tgt := 218) hx hb d_M_lower_214 (by decide) ?_
  refine lv_istore (lv' := [(7, .int 1), (0, .ref (a 20)), (1, .int x1), (2, .int x2), (3, .int x3), (4, .int x4), (5, .int x5), (6, .int x6), (8, .int x8)]) hx hb d_M_lower_218 hl (by decide) rfl (fun ls hl => ?_)
  refine lv_iinc (v := (x8 + 1)) (lv' := [(8, .int (x8 + 1)), (7, .int 1), (0, .ref (a 20)), (1, .int x1), (2, .int x2), (3, .int x3), (4, .int x4), (5, .int x5), (6, .int x6)]) hx hb d_M_lower_220 hl (k := 8) rfl rfl (by decide) rfl (fun ls hl => ?_)
  refine lv_goto (tgt := 147) hx hb d_M_lower_223 (by decide) ?_
  exact hk147 _ _ _ _ _ _ _ _ _ _ _ _ _ h hP hD hS (lv_sub hl [2, 3, 4, 5, 6, 7, 8, 1, 0] rfl)
set_option maxHeartbeats 4000000 in
set_option maxRecDepth 100000 in
theorem t_M_lower_189 {p : Program} {l : Launch} {e : Env} {s : State} {m : MethodId} {args : Array Value} {below : List Frame} {meth : Method} {c : Code} {D : va_G} {cI cZ : ClassId} {a : Nat → Nat} {A : Nat → Prop} (C0 : Am p s m args meth c b_M_lower (some .int) 10 R_M D [(cI, .int), (cZ, .boolean)]) (hA : ∀ q, s.heap.size ≤ q → A q) {res : Int32 × StM} {k125 : StM → Int32 → Int32 → Int32 → Int32 → Int32 → Option (Int32 × StM)} {k147 : StM → Int32 → Int32 → Int32 → Int32 → Int32 → Int32 → Int32 → Int32 → Option (Int32 × StM)} (hk125 : ∀ (q : Nat) (σ : StM) (x1 x2 x3 x4 x5 : Int32) (H : Heap) (locs : List Loc) (ls : Array Slot), k125 σ x1 x2 x3 x4 x5 = some res → va_P D vwCl (wM cI cZ a q σ) H → va_D A (wM cI cZ a q σ) → va_S A s.heap H locs → lv_has ls 10 [(0, .ref (a 20)), (1, .int x1), (2, .int x2), (3, .int x3), (4, .int x4), (5, .int x5)] → W p l e (rmK 5 122 0 0) s m args below meth c H locs 0 0 (RwQ below args s D A (fun q (σ : StM) => (wM cI cZ a q σ)) res 0 0) (F0 m 125 ls [])) (hk147 : ∀ (q : Nat) (σ : StM) (x1 x2 x3 x4 x5 x6 x7 x8 : Int32) (H : Heap) (locs : List Loc) (ls : Array Slot), k147 σ x1 x2 x3 x4 x5 x6 x7 x8 = some res → va_P D vwCl (wM cI cZ a q σ) H → va_D A (wM cI cZ a q σ) → va_S A s.heap H locs → lv_has ls 10 [(0, .ref (a 20)), (1, .int x1), (2, .int x2), (3, .int x3), (4, .int x4), (5, .int x5), (6, .int x6), (7, .int x7), (8, .int x8)] → W p l e (rmK 5 122 0 0) s m args below meth c H locs 0 0 (RwQ below args s D A (fun q (σ : StM) => (wM cI cZ a q σ)) res 0 0) (F0 m 147 ls []))  {q : Nat} {σ : StM} {x1 x2 x3 x4 x5 x6 x8 x9 : Int32} (h : f_M_lower_189 k125 k147 σ x1 x2 x3 x4 x5 x6 x8 x9 = some res) {H : Heap} {locs : List Loc} (hP : va_P D vwCl (wM cI cZ a q σ) H) (hD : va_D A (wM cI cZ a q σ)) (hS : va_S A s.heap H locs) {ls : Array Slot} (hl : lv_has ls 10 [(0, .ref (a 20)), (1, .int x1), (2, .int x2), (3, .int x3), (4, .int x4), (5, .int x5), (6, .int x6), (8, .int x8), (9, .int x9)]) : W p l e (rmK 5 122 0 0) s m args below meth c H locs 0 0 (RwQ below args s D A (fun q (σ : StM) => (wM cI cZ a q σ)) res 0 0) (F0 m 189 ls []) := by
  obtain ⟨hx, hb, hr, hml, hown, hts, hlk, hK⟩ := id C0
  unfold f_M_lower_189 at h
  refine lv_iload hx hb d_M_lower_189 (lv_at hl 6 rfl) ?_
  refine lv_iload hx hb d_M_lower_191 (lv_at hl 8 rfl) ?_
  refine lv_icmp_eq (tgt := 217) hx hb d_M_lower_193 (by decide) (fun hc => ?_) (fun hc => ?_)
  · rw [if_pos hc] at h
    refine lv_iconst (v := 0) hx hb d_M_lower_217 (by decide) ?_
    refine lv_istore (lv' := [(7, .int 0), (0, .ref (a 20)), (1, .int x1), (2, .int x2), (3, .int x3), (4, .int x4), (5, .int x5), (6, .int x6), (8, .int x8), (9, .int x9)]) hx hb d_M_lower_218 hl (by decide) rfl (fun ls hl => ?_)
    refine lv_iinc (v := (x8 + 1)) (lv' := [(8, .int (x8 + 1)), (7, .int 0), (0, .ref (a 20)), (1, .int x1), (2, .int x2), (3, .int x3), (4, .int x4), (5, .int x5), (6, .int x6), (9, .int x9)]) hx hb d_M_lower_220 hl (k := 8) rfl rfl (by decide) rfl (fun ls hl => ?_)
    refine lv_goto (tgt := 147) hx hb d_M_lower_223 (by decide) ?_
    exact hk147 _ _ _ _ _ _ _ _ _ _ _ _ _ h hP hD hS (lv_sub hl [2, 3, 4, 5, 6, 7, 8, 1, 0] rfl)
  · rw [if_neg hc] at h
    refine lv_aload_n hx hb d_M_lower_196 rfl (lv_at hl 0 rfl) ?_
    refine va_get (ci := 4) (v := .ref (a 35)) (C := R_M) (T := F_M) (N := 35) hx hb hts i_M hown hK.1 hP 0 rfl rfl 23 (by decide) (hts _ wd_370) (fun _ h9 => h9) rfl d_M_lower_197 ?_
    refine lv_sipush (v := 300) hx hb d_M_lower_200 (by decide) ?_
    refine lv_iload hx hb d_M_lower_203 (lv_at hl 8 rfl) ?_
    refine lv_imul hx hb d_M_lower_205 ?_
    refine lv_iload hx hb d_M_lower_206 (lv_at hl 6 rfl) ?_
    refine lv_iadd hx hb d_M_lower_208 ?_
    replace h := gd h
    obtain ⟨hi, h⟩ := h
    refine va_zald hx hb hK.1 hP 15 1 rfl rfl hi d_M_lower_209 ?_
    refine lv_if_ne (tgt := 217) hx hb d_M_lower_210 (by decide) (fun hc => ?_) (fun hc => ?_)
    · rw [if_neg hc] at h
      refine lv_iconst (v := 0) hx hb d_M_lower_217 (by decide) ?_
      refine lv_istore (lv' := [(7, .int 0), (0, .ref (a 20)), (1, .int x1), (2, .int x2), (3, .int x3), (4, .int x4), (5, .int x5), (6, .int x6), (8, .int x8), (9, .int x9)]) hx hb d_M_lower_218 hl (by decide) rfl (fun ls hl => ?_)
      refine lv_iinc (v := (x8 + 1)) (lv' := [(8, .int (x8 + 1)), (7, .int 0), (0, .ref (a 20)), (1, .int x1), (2, .int x2), (3, .int x3), (4, .int x4), (5, .int x5), (6, .int x6), (9, .int x9)]) hx hb d_M_lower_220 hl (k := 8) rfl rfl (by decide) rfl (fun ls hl => ?_)
      refine lv_goto (tgt := 147) hx hb d_M_lower_223 (by decide) ?_
      exact hk147 _ _ _ _ _ _ _ _ _ _ _ _ _ h hP hD hS (lv_sub hl [2, 3, 4, 5, 6, 7, 8, 1, 0] rfl)
    · rw [if_pos hc] at h
      exact t_M_lower_213 (a := a) C0 hA hk125 hk147 h hP hD hS (lv_sub hl [0, 1, 2, 3, 4, 5, 6, 7] rfl)
set_option maxHeartbeats 4000000 in
set_option maxRecDepth 100000 in
theorem t_M_lower_147_s {p : Program} {l : Launch} {e : Env} {s : State} {m : MethodId} {args : Array Value} {below : List Frame} {meth : Method} {c : Code} {D : va_G} {cI cZ : ClassId} {a : Nat → Nat} {A : Nat → Prop} (C0 : Am p s m args meth c b_M_lower (some .int) 10 R_M D [(cI, .int), (cZ, .boolean)]) (hA : ∀ q, s.heap.size ≤ q → A q) {res : Int32 × StM} {k125 : StM → Int32 → Int32 → Int32 → Int32 → Int32 → Option (Int32 × StM)} {k147 : StM → Int32 → Int32 → Int32 → Int32 → Int32 → Int32 → Int32 → Int32 → Option (Int32 × StM)} (hk125 : ∀ (q : Nat) (σ : StM) (x1 x2 x3 x4 x5 : Int32) (H : Heap) (locs : List Loc) (ls : Array Slot), k125 σ x1 x2 x3 x4 x5 = some res → va_P D vwCl (wM cI cZ a q σ) H → va_D A (wM cI cZ a q σ) → va_S A s.heap H locs → lv_has ls 10 [(0, .ref (a 20)), (1, .int x1), (2, .int x2), (3, .int x3), (4, .int x4), (5, .int x5)] → W p l e (rmK 5 122 0 0) s m args below meth c H locs 0 0 (RwQ below args s D A (fun q (σ : StM) => (wM cI cZ a q σ)) res 0 0) (F0 m 125 ls [])) (hk147 : ∀ (q : Nat) (σ : StM) (x1 x2 x3 x4 x5 x6 x7 x8 : Int32) (H : Heap) (locs : List Loc) (ls : Array Slot), k147 σ x1 x2 x3 x4 x5 x6 x7 x8 = some res → va_P D vwCl (wM cI cZ a q σ) H → va_D A (wM cI cZ a q σ) → va_S A s.heap H locs → lv_has ls 10 [(0, .ref (a 20)), (1, .int x1), (2, .int x2), (3, .int x3), (4, .int x4), (5, .int x5), (6, .int x6), (7, .int x7), (8, .int x8)] → W p l e (rmK 5 122 0 0) s m args below meth c H locs 0 0 (RwQ below args s D A (fun q (σ : StM) => (wM cI cZ a q σ)) res 0 0) (F0 m 147 ls [])) {q : Nat} {σ : StM} {x1 x2 x3 x4 x5 x6 x7 x8 : Int32} (h : f_M_lower_147_s k125 k147 σ x1 x2 x3 x4 x5 x6 x7 x8 = some res) {H : Heap} {locs : List Loc} (hP : va_P D vwCl (wM cI cZ a q σ) H) (hD : va_D A (wM cI cZ a q σ)) (hS : va_S A s.heap H locs) {ls : Array Slot} (hl : lv_has ls 10 [(0, .ref (a 20)), (1, .int x1), (2, .int x2), (3, .int x3), (4, .int x4), (5, .int x5), (6, .int x6), (7, .int x7), (8, .int x8)]) : W p l e (rmK 5 122 0 0) s m args below meth c H locs 0 0 (RwQ below args s D A (fun q (σ : StM) => (wM cI cZ a q σ)) res 0 0) (F0 m 147 ls []) := by
  obtain ⟨hx, hb, hr, hml, hown, hts, hlk, hK⟩ := id C0
  unfold f_M_lower_147_s at h
  refine lv_iload hx hb d_M_lower_147 (lv_at hl 8 rfl) ?_
  refine lv_iload_n hx hb d_M_lower_149 rfl (lv_at hl 3 rfl) ?_
  refine lv_icmp_ge (tgt := 226) hx hb d_M_lower_150 (by decide) (fun hc => ?_) (fun hc => ?_)
  · rw [if_pos hc] at h
    refine lv_iload hx hb d_M_lower_226 (lv_at hl 7 rfl) ?_
    refine lv_if_eq (tgt := 243) hx hb d_M_lower_228 (by decide) (fun hc => ?_) (fun hc => ?_)
    · rw [if_pos hc] at h
      refine lv_iinc (v := (x5 + 1)) (lv' := [(5, .int (x5 + 1)), (0, .ref (a 20)), (1, .int x1), (2, .int x2), (3, .int x3), (4, .int x4), (6, .int x6), (7, .int x7), (8, .int x8)]) hx hb d_M_lower_243 hl (k := 5) rfl rfl (by decide) rfl (fun ls hl => ?_)
      refine lv_goto (tgt := 125) hx hb d_M_lower_246 (by decide) ?_
      exact hk125 _ _ _ _ _ _ _ _ _ _ h hP hD hS (lv_sub hl [1, 2, 3, 4, 5, 0] rfl)
    · rw [if_neg hc] at h
      refine lv_aload_n hx hb d_M_lower_231 rfl (lv_at hl 0 rfl) ?_
      refine va_get (ci := 4) (v := .ref (a 34)) (C := R_M) (T := F_M) (N := 35) hx hb hts i_M hown hK.1 hP 0 rfl rfl 22 (by decide) (hts _ wd_369) (fun _ h9 => h9) rfl d_M_lower_232 ?_
      refine lv_iload hx hb d_M_lower_235 (lv_at hl 4 rfl) ?_
      refine lv_iload hx hb d_M_lower_237 (lv_at hl 6 rfl) ?_
      replace h := gd h
      obtain ⟨hi, h⟩ := h
      refine rw_iast C0 hP hD hS 14 0 rfl rfl hi d_M_lower_239 (Wn := (wM cI cZ a q (M_put_row σ x4 x6))) ws_M_put_row (fun H locs hP hD hS => ?_)
      refine lv_iinc (v := (x4 + 1)) (lv' := [(4, .int (x4 + 1)), (0, .ref (a 20)), (1, .int x1), (2, .int x2), (3, .int x3), (5, .int x5), (6, .int x6), (7, .int x7), (8, .int x8)]) hx hb d_M_lower_240 hl (k := 4) rfl rfl (by decide) rfl (fun ls hl => ?_)
      refine lv_iinc (v := (x5 + 1)) (lv' := [(5, .int (x5 + 1)), (4, .int (x4 + 1)), (0, .ref (a 20)), (1, .int x1), (2, .int x2), (3, .int x3), (6, .int x6), (7, .int x7), (8, .int x8)]) hx hb d_M_lower_243 hl (k := 5) rfl rfl (by decide) rfl (fun ls hl => ?_)
      refine lv_goto (tgt := 125) hx hb d_M_lower_246 (by decide) ?_
      exact hk125 _ _ _ _ _ _ _ _ _ _ h hP hD hS (lv_sub hl [2, 3, 4, 5, 1, 0] rfl)
  · rw [if_neg hc] at h
    refine lv_aload_n hx hb d_M_lower_153 rfl (lv_at hl 0 rfl) ?_
    refine lv_iload_n hx hb d_M_lower_154 rfl (lv_at hl 1 rfl) ?_
    refine lv_iload_n hx hb d_M_lower_155 rfl (lv_at hl 2 rfl) ?_
    refine lv_iload hx hb d_M_lower_156 (lv_at hl 8 rfl) ?_
    replace h := bd h
    obtain ⟨r6, g6, h⟩ := h
    refine ro_V (n := 3) (ci := 4) (As := [.int x1, .int x2, .int x8]) (rest := []) C0 (c_M_partOf l D cI cZ a q σ x1 x2 x8 g6) wd_481 ⟨wd_482, wd_483, wd_484, wd_352⟩ (by decide +kernel) ⟨Nat.le_of_ble_eq_true rfl, Nat.le_of_ble_eq_true rfl⟩ hP rfl rfl rfl hl rfl rfl (Nat.le_of_ble_eq_true rfl) ⟨Nat.zero_le _, Nat.zero_le _⟩ d_M_lower_158 ?_
    try dsimp only at h
    refine lv_istore (lv' := [(9, .int r6), (0, .ref (a 20)), (1, .int x1), (2, .int x2), (3, .int x3), (4, .int x4), (5, .int x5), (6, .int x6), (7, .int x7), (8, .int x8)]) hx hb d_M_lower_161 hl (by decide) rfl (fun ls hl => ?_)
    refine lv_iload hx hb d_M_lower_163 (lv_at hl 8 rfl) ?_
    refine lv_if_eq (tgt := 217) hx hb d_M_lower_165 (by decide) (fun hc => ?_) (fun hc => ?_)
    · rw [if_pos hc] at h
      refine lv_iconst (v := 0) hx hb d_M_lower_217 (by decide) ?_
      refine lv_istore (lv' := [(7, .int 0), (9, .int r6), (0, .ref (a 20)), (1, .int x1), (2, .int x2), (3, .int x3), (4, .int x4), (5, .int x5), (6, .int x6), (8, .int x8)]) hx hb d_M_lower_218 hl (by decide) rfl (fun ls hl => ?_)
      refine lv_iinc (v := (x8 + 1)) (lv' := [(8, .int (x8 + 1)), (7, .int 0), (9, .int r6), (0, .ref (a 20)), (1, .int x1), (2, .int x2), (3, .int x3), (4, .int x4), (5, .int x5), (6, .int x6)]) hx hb d_M_lower_220 hl (k := 9) rfl rfl (by decide) rfl (fun ls hl => ?_)
      refine lv_goto (tgt := 147) hx hb d_M_lower_223 (by decide) ?_
      exact hk147 _ _ _ _ _ _ _ _ _ _ _ _ _ h hP hD hS (lv_sub hl [3, 4, 5, 6, 7, 8, 9, 1, 0] rfl)
    · rw [if_neg hc] at h
      refine lv_iload hx hb d_M_lower_168 (lv_at hl 6 rfl) ?_
      refine lv_iload hx hb d_M_lower_170 (lv_at hl 9 rfl) ?_
      refine lv_icmp_eq (tgt := 213) hx hb d_M_lower_172 (by decide) (fun hc => ?_) (fun hc => ?_)
      · rw [if_pos hc] at h
        exact t_M_lower_213 (a := a) C0 hA hk125 hk147 h hP hD hS (lv_sub hl [1, 2, 3, 4, 5, 6, 7, 9] rfl)
      · rw [if_neg hc] at h
        refine lv_iload hx hb d_M_lower_175 (lv_at hl 7 rfl) ?_
        refine lv_iload hx hb d_M_lower_177 (lv_at hl 0 rfl) ?_
        refine lv_icmp_ne (tgt := 189) hx hb d_M_lower_179 (by decide) (fun hc => ?_) (fun hc => ?_)
        · rw [if_neg hc] at h
          exact t_M_lower_189 (a := a) C0 hA hk125 hk147 h hP hD hS (lv_sub hl [1, 2, 3, 4, 5, 6, 7, 9, 0] rfl)
        · rw [if_pos hc] at h
          refine lv_iload hx hb d_M_lower_182 (lv_at hl 6 rfl) ?_
          refine lv_iload hx hb d_M_lower_184 (lv_at hl 9 rfl) ?_
          refine lv_icmp_lt (tgt := 213) hx hb d_M_lower_186 (by decide) (fun hc => ?_) (fun hc => ?_)
          · rw [if_pos hc] at h
            exact t_M_lower_213 (a := a) C0 hA hk125 hk147 h hP hD hS (lv_sub hl [1, 2, 3, 4, 5, 6, 7, 9] rfl)
          · rw [if_neg hc] at h
            exact t_M_lower_189 (a := a) C0 hA hk125 hk147 h hP hD hS (lv_sub hl [1, 2, 3, 4, 5, 6, 7, 9, 0] rfl)
set_option maxHeartbeats 4000000 in
set_option maxRecDepth 100000 in
theorem t_M_lower_147 {p : Program} {l : Launch} {e : Env} {s : State} {m : MethodId} {args : Array Value} {below : List Frame} {meth : Method} {c : Code} {D : va_G} {cI cZ : ClassId} {a : Nat → Nat} {A : Nat → Prop} (C0 : Am p s m args meth c b_M_lower (some .int) 10 R_M D [(cI, .int), (cZ, .boolean)]) (hA : ∀ q, s.heap.size ≤ q → A q) {res : Int32 × StM} {k125 : StM → Int32 → Int32 → Int32 → Int32 → Int32 → Option (Int32 × StM)} (hk125 : ∀ (q : Nat) (σ : StM) (x1 x2 x3 x4 x5 : Int32) (H : Heap) (locs : List Loc) (ls : Array Slot), k125 σ x1 x2 x3 x4 x5 = some res → va_P D vwCl (wM cI cZ a q σ) H → va_D A (wM cI cZ a q σ) → va_S A s.heap H locs → lv_has ls 10 [(0, .ref (a 20)), (1, .int x1), (2, .int x2), (3, .int x3), (4, .int x4), (5, .int x5)] → W p l e (rmK 5 122 0 0) s m args below meth c H locs 0 0 (RwQ below args s D A (fun q (σ : StM) => (wM cI cZ a q σ)) res 0 0) (F0 m 125 ls [])) {n : Nat} {q : Nat} {σ : StM} {x1 x2 x3 x4 x5 x6 x7 x8 : Int32} (h : f_M_lower_147 k125 n σ x1 x2 x3 x4 x5 x6 x7 x8 = some res) {H : Heap} {locs : List Loc} (hP : va_P D vwCl (wM cI cZ a q σ) H) (hD : va_D A (wM cI cZ a q σ)) (hS : va_S A s.heap H locs) {ls : Array Slot} (hl : lv_has ls 10 [(0, .ref (a 20)), (1, .int x1), (2, .int x2), (3, .int x3), (4, .int x4), (5, .int x5), (6, .int x6), (7, .int x7), (8, .int x8)]) : W p l e (rmK 5 122 0 0) s m args below meth c H locs 0 0 (RwQ below args s D A (fun q (σ : StM) => (wM cI cZ a q σ)) res 0 0) (F0 m 147 ls []) := by
  induction n generalizing q σ x1 x2 x3 x4 x5 x6 x7 x8 H locs ls with
  | zero => cases h
  | succ n ih => exact t_M_lower_147_s (a := a) C0 hA hk125 (fun _ _ _ _ _ _ _ _ _ _ _ _ _ h hP hD hS hl => ih h hP hD hS hl) h hP hD hS hl
set_option maxHeartbeats 4000000 in
set_option maxRecDepth 100000 in
theorem t_M_lower_125_s {p : Program} {l : Launch} {e : Env} {s : State} {m : MethodId} {args : Array Value} {below : List Frame} {meth : Method} {c : Code} {D : va_G} {cI cZ : ClassId} {a : Nat → Nat} {A : Nat → Prop} (C0 : Am p s m args meth c b_M_lower (some .int) 10 R_M D [(cI, .int), (cZ, .boolean)]) (hA : ∀ q, s.heap.size ≤ q → A q) {res : Int32 × StM} {k125 : StM → Int32 → Int32 → Int32 → Int32 → Int32 → Option (Int32 × StM)}  (hk125 : ∀ (q : Nat) (σ : StM) (x1 x2 x3 x4 x5 : Int32) (H : Heap) (locs : List Loc) (ls : Array Slot), k125 σ x1 x2 x3 x4 x5 = some res → va_P D vwCl (wM cI cZ a q σ) H → va_D A (wM cI cZ a q σ) → va_S A s.heap H locs → lv_has ls 10 [(0, .ref (a 20)), (1, .int x1), (2, .int x2), (3, .int x3), (4, .int x4), (5, .int x5)] → W p l e (rmK 5 122 0 0) s m args below meth c H locs 0 0 (RwQ below args s D A (fun q (σ : StM) => (wM cI cZ a q σ)) res 0 0) (F0 m 125 ls [])) {q : Nat} {σ : StM} {x1 x2 x3 x4 x5 : Int32} (h : f_M_lower_125_s k125 σ x1 x2 x3 x4 x5 = some res) {H : Heap} {locs : List Loc} (hP : va_P D vwCl (wM cI cZ a q σ) H) (hD : va_D A (wM cI cZ a q σ)) (hS : va_S A s.heap H locs) {ls : Array Slot} (hl : lv_has ls 10 [(0, .ref (a 20)), (1, .int x1), (2, .int x2), (3, .int x3), (4, .int x4), (5, .int x5)]) : W p l e (rmK 5 122 0 0) s m args below meth c H locs 0 0 (RwQ below args s D A (fun q (σ : StM) => (wM cI cZ a q σ)) res 0 0) (F0 m 125 ls []) := by
  obtain ⟨hx, hb, hr, hml, hown, hts, hlk, hK⟩ := id C0
  unfold f_M_lower_125_s at h
  refine lv_iload hx hb d_M_lower_125 (lv_at hl 5 rfl) ?_
  refine lv_iload_n hx hb d_M_lower_127 rfl (lv_at hl 3 rfl) ?_
  refine lv_icmp_ge (tgt := 249) hx hb d_M_lower_128 (by decide) (fun hc => ?_) (fun hc => ?_)
  · rw [if_pos hc] at h
    refine lv_iconst (v := 0) hx hb d_M_lower_249 (by decide) ?_
    refine lv_istore (lv' := [(5, .int 0), (0, .ref (a 20)), (1, .int x1), (2, .int x2), (3, .int x3), (4, .int x4)]) hx hb d_M_lower_250 hl (by decide) rfl (fun ls hl => ?_)
    exact t_M_lower_252 (a := a) C0 hA  h hP hD hS (lv_sub hl [1, 5, 0] rfl)
  · rw [if_neg hc] at h
    refine lv_aload_n hx hb d_M_lower_131 rfl (lv_at hl 0 rfl) ?_
    refine lv_iload_n hx hb d_M_lower_132 rfl (lv_at hl 1 rfl) ?_
    refine lv_iload_n hx hb d_M_lower_133 rfl (lv_at hl 2 rfl) ?_
    refine lv_iload hx hb d_M_lower_134 (lv_at hl 5 rfl) ?_
    replace h := bd h
    obtain ⟨r5, g5, h⟩ := h
    refine ro_V (n := 3) (ci := 4) (As := [.int x1, .int x2, .int x5]) (rest := []) C0 (c_M_partOf l D cI cZ a q σ x1 x2 x5 g5) wd_481 ⟨wd_482, wd_483, wd_484, wd_352⟩ (by decide +kernel) ⟨Nat.le_of_ble_eq_true rfl, Nat.le_of_ble_eq_true rfl⟩ hP rfl rfl rfl hl rfl rfl (Nat.le_of_ble_eq_true rfl) ⟨Nat.zero_le _, Nat.zero_le _⟩ d_M_lower_136 ?_
    try dsimp only at h
    refine lv_istore (lv' := [(6, .int r5), (0, .ref (a 20)), (1, .int x1), (2, .int x2), (3, .int x3), (4, .int x4), (5, .int x5)]) hx hb d_M_lower_139 hl (by decide) rfl (fun ls hl => ?_)
    refine lv_iconst (v := 1) hx hb d_M_lower_141 (by decide) ?_
    refine lv_istore (lv' := [(7, .int 1), (6, .int r5), (0, .ref (a 20)), (1, .int x1), (2, .int x2), (3, .int x3), (4, .int x4), (5, .int x5)]) hx hb d_M_lower_142 hl (by decide) rfl (fun ls hl => ?_)
    refine lv_iconst (v := 0) hx hb d_M_lower_144 (by decide) ?_
    refine lv_istore (lv' := [(8, .int 0), (7, .int 1), (6, .int r5), (0, .ref (a 20)), (1, .int x1), (2, .int x2), (3, .int x3), (4, .int x4), (5, .int x5)]) hx hb d_M_lower_145 hl (by decide) rfl (fun ls hl => ?_)
    exact t_M_lower_147 (a := a) C0 hA hk125 h hP hD hS (lv_sub hl [3, 4, 5, 6, 7, 8, 2, 1, 0] rfl)
set_option maxHeartbeats 4000000 in
set_option maxRecDepth 100000 in
theorem t_M_lower_125 {p : Program} {l : Launch} {e : Env} {s : State} {m : MethodId} {args : Array Value} {below : List Frame} {meth : Method} {c : Code} {D : va_G} {cI cZ : ClassId} {a : Nat → Nat} {A : Nat → Prop} (C0 : Am p s m args meth c b_M_lower (some .int) 10 R_M D [(cI, .int), (cZ, .boolean)]) (hA : ∀ q, s.heap.size ≤ q → A q) {res : Int32 × StM}  {n : Nat} {q : Nat} {σ : StM} {x1 x2 x3 x4 x5 : Int32} (h : f_M_lower_125  n σ x1 x2 x3 x4 x5 = some res) {H : Heap} {locs : List Loc} (hP : va_P D vwCl (wM cI cZ a q σ) H) (hD : va_D A (wM cI cZ a q σ)) (hS : va_S A s.heap H locs) {ls : Array Slot} (hl : lv_has ls 10 [(0, .ref (a 20)), (1, .int x1), (2, .int x2), (3, .int x3), (4, .int x4), (5, .int x5)]) : W p l e (rmK 5 122 0 0) s m args below meth c H locs 0 0 (RwQ below args s D A (fun q (σ : StM) => (wM cI cZ a q σ)) res 0 0) (F0 m 125 ls []) := by
  induction n generalizing q σ x1 x2 x3 x4 x5 H locs ls with
  | zero => cases h
  | succ n ih => exact t_M_lower_125_s (a := a) C0 hA  (fun _ _ _ _ _ _ _ _ _ _ h hP hD hS hl => ih h hP hD hS hl) h hP hD hS hl
set_option maxHeartbeats 4000000 in
set_option maxRecDepth 100000 in
theorem t_M_lower_22 {p : Program} {l : Launch} {e : Env} {s : State} {m : MethodId} {args : Array Value} {below : List Frame} {meth : Method} {c : Code} {D : va_G} {cI cZ : ClassId} {a : Nat → Nat} {A : Nat → Prop} (C0 : Am p s m args meth c b_M_lower (some .int) 10 R_M D [(cI, .int), (cZ, .boolean)]) (hA : ∀ q, s.heap.size ≤ q → A q) {res : Int32 × StM}   {q : Nat} {σ : StM} {x1 x2 t1 : Int32} (h : f_M_lower_22 σ x1 x2 t1 = some res) {H : Heap} {locs : List Loc} (hP : va_P D vwCl (wM cI cZ a q σ) H) (hD : va_D A (wM cI cZ a q σ)) (hS : va_S A s.heap H locs) {ls : Array Slot} (hl : lv_has ls 10 [(0, .ref (a 20)), (1, .int x1), (2, .int x2)]) : W p l e (rmK 5 122 0 0) s m args below meth c H locs 0 0 (RwQ below args s D A (fun q (σ : StM) => (wM cI cZ a q σ)) res 0 0) (F0 m 22 ls [.int t1, .ref (a 20)]) := by
  obtain ⟨hx, hb, hr, hml, hown, hts, hlk, hK⟩ := id C0
  unfold f_M_lower_22 at h
  replace h := bd h
  obtain ⟨r1, g1, h⟩ := h
  refine rw_V (n := 1) (ci := 4) (As := [.int t1]) (rest := []) (Wn := fun _ => (wM cI cZ a q r1.2)) C0 hA (c_M_good l D cI cZ a q σ t1 g1) wd_388 ⟨wd_389, wd_390, wd_391, wd_352⟩ (by decide +kernel) ⟨Nat.le_of_ble_eq_true rfl, Nat.le_of_ble_eq_true rfl⟩ hP hD hS [0, 1, 2, 3, 4, 5, 6, 7, 8, 9, 10, 11, 12, 13, 14, 15, 16, 17, 18, 19, 20, 21, 22, 23] [] [0, 1, 2, 3, 4, 5, 6, 7, 8, 9, 10, 11, 12, 13, 14, 15, 16, 17, 18, 19, 20, 21, 22, 23] jn_M__C (by decide) jn_M__R (by decide) (by decide) (by decide) jn_M__W rfl rfl rfl hl rfl rfl (Nat.le_of_ble_eq_true rfl) ⟨Nat.zero_le _, Nat.zero_le _⟩ d_M_lower_22 (fun H locs _ hP hD hS => ?_)
  try dsimp only at h
  refine lv_if_ne (tgt := 30) hx hb d_M_lower_25 (by decide) (fun hc => ?_) (fun hc => ?_)
  · rw [if_neg hc] at h
    refine lv_aload_n hx hb d_M_lower_30 rfl (lv_at hl 0 rfl) ?_
    replace h := bd h
    obtain ⟨r2, g2, h⟩ := h
    refine rw_Vv (n := 0) (ci := 4) (As := []) (rest := []) (Wn := fun _ => (wM cI cZ a q r2.2)) C0 hA (c_M_reckonBelow l D cI cZ a q r1.2 g2) wd_435 ⟨wd_436, wd_437, wd_438, wd_352⟩ (by decide +kernel) ⟨Nat.le_of_ble_eq_true rfl, Nat.le_of_ble_eq_true rfl⟩ hP hD hS [0, 1, 2, 3, 4, 5, 6, 7, 8, 9, 10, 11, 12, 13, 14, 15, 16, 17, 18, 19, 20, 21, 22, 23] [] [0, 1, 2, 3, 4, 5, 6, 7, 8, 9, 10, 11, 12, 13, 14, 15, 16, 17, 18, 19, 20, 21, 22, 23] jn_M__C (by decide) jn_M__R (by decide) (by decide) (by decide) jn_M__W rfl rfl rfl hl rfl rfl (Nat.le_of_ble_eq_true rfl) ⟨Nat.zero_le _, Nat.zero_le _⟩ d_M_lower_31 (fun H locs _ hP hD hS => ?_)
    try dsimp only at h
    refine lv_aload_n hx hb d_M_lower_34 rfl (lv_at hl 0 rfl) ?_
    refine va_get (ci := 4) (v := .ref (a 35)) (C := R_M) (T := F_M) (N := 35) hx hb hts i_M hown hK.1 hP 0 rfl rfl 23 (by decide) (hts _ wd_370) (fun _ h9 => h9) rfl d_M_lower_35 ?_
    refine lv_sipush (v := 300) hx hb d_M_lower_38 (by decide) ?_
    refine lv_iload_n hx hb d_M_lower_41 rfl (lv_at hl 1 rfl) ?_
    refine lv_imul hx hb d_M_lower_42 ?_
    refine lv_iload_n hx hb d_M_lower_43 rfl (lv_at hl 2 rfl) ?_
    refine lv_iadd hx hb d_M_lower_44 ?_
    replace h := gd h
    obtain ⟨hi, h⟩ := h
    refine va_zald hx hb hK.1 hP 15 1 rfl rfl hi d_M_lower_45 ?_
    refine lv_if_ne (tgt := 64) hx hb d_M_lower_46 (by decide) (fun hc => ?_) (fun hc => ?_)
    · rw [if_neg hc] at h
      exact t_M_lower_64 (a := a) C0 hA  h hP hD hS (lv_sub hl [0, 1, 2] rfl)
    · rw [if_pos hc] at h
      refine lv_aload_n hx hb d_M_lower_49 rfl (lv_at hl 0 rfl) ?_
      refine va_get (ci := 4) (v := .ref (a 35)) (C := R_M) (T := F_M) (N := 35) hx hb hts i_M hown hK.1 hP 0 rfl rfl 23 (by decide) (hts _ wd_370) (fun _ h9 => h9) rfl d_M_lower_50 ?_
      refine lv_sipush (v := 300) hx hb d_M_lower_53 (by decide) ?_
      refine lv_iload_n hx hb d_M_lower_56 rfl (lv_at hl 2 rfl) ?_
      refine lv_imul hx hb d_M_lower_57 ?_
      refine lv_iload_n hx hb d_M_lower_58 rfl (lv_at hl 1 rfl) ?_
      refine lv_iadd hx hb d_M_lower_59 ?_
      replace h := gd h
      obtain ⟨hi, h⟩ := h
      refine va_zald hx hb hK.1 hP 15 1 rfl rfl hi d_M_lower_60 ?_
      refine lv_if_eq (tgt := 85) hx hb d_M_lower_61 (by decide) (fun hc => ?_) (fun hc => ?_)
      · rw [if_pos hc] at h
        refine lv_aload_n hx hb d_M_lower_85 rfl (lv_at hl 0 rfl) ?_
        refine va_get (ci := 4) (v := .ref (a 32)) (C := R_M) (T := F_M) (N := 35) hx hb hts i_M hown hK.1 hP 0 rfl rfl 16 (by decide) (hts _ wd_354) (fun _ h9 => h9) rfl d_M_lower_86 ?_
        refine lv_iload_n hx hb d_M_lower_89 rfl (lv_at hl 1 rfl) ?_
        replace h := gd h
        obtain ⟨hi, h⟩ := h
        refine va_iald hx hb hK.1 hP 12 0 rfl rfl hi d_M_lower_90 ?_
        refine lv_aload_n hx hb d_M_lower_91 rfl (lv_at hl 0 rfl) ?_
        refine va_get (ci := 4) (v := .ref (a 32)) (C := R_M) (T := F_M) (N := 35) hx hb hts i_M hown hK.1 hP 0 rfl rfl 16 (by decide) (hts _ wd_354) (fun _ h9 => h9) rfl d_M_lower_92 ?_
        refine lv_iload_n hx hb d_M_lower_95 rfl (lv_at hl 2 rfl) ?_
        replace h := gd h
        obtain ⟨hi, h⟩ := h
        refine va_iald hx hb hK.1 hP 12 0 rfl rfl hi d_M_lower_96 ?_
        refine lv_iadd hx hb d_M_lower_97 ?_
        refine lv_istore_n (lv' := [(3, .int (((M_partCount r2.2) x1.toNatClampNeg) + ((M_partCount r2.2) x2.toNatClampNeg))), (0, .ref (a 20)), (1, .int x1), (2, .int x2)]) hx hb d_M_lower_98 rfl hl (by decide) rfl (fun ls hl => ?_)
        refine lv_aload_n hx hb d_M_lower_99 rfl (lv_at hl 1 rfl) ?_
        refine va_get (ci := 4) (v := .ref (a 32)) (C := R_M) (T := F_M) (N := 35) hx hb hts i_M hown hK.1 hP 0 rfl rfl 16 (by decide) (hts _ wd_354) (fun _ h9 => h9) rfl d_M_lower_100 ?_
        refine lv_iload_n hx hb d_M_lower_103 rfl (lv_at hl 2 rfl) ?_
        replace h := gd h
        obtain ⟨hi, h⟩ := h
        refine va_iald hx hb hK.1 hP 12 0 rfl rfl hi d_M_lower_104 ?_
        refine lv_if_eq (tgt := 117) hx hb d_M_lower_105 (by decide) (fun hc => ?_) (fun hc => ?_)
        · rw [if_pos hc] at h
          refine lv_iconst (v := (-1)) hx hb d_M_lower_117 (by decide) ?_
          exact rw_ret C0 hP hD hS (Option.some.inj h) d_M_lower_118
        · rw [if_neg hc] at h
          refine lv_aload_n hx hb d_M_lower_108 rfl (lv_at hl 1 rfl) ?_
          refine va_get (ci := 4) (v := .ref (a 32)) (C := R_M) (T := F_M) (N := 35) hx hb hts i_M hown hK.1 hP 0 rfl rfl 16 (by decide) (hts _ wd_354) (fun _ h9 => h9) rfl d_M_lower_109 ?_
          refine lv_iload_n hx hb d_M_lower_112 rfl (lv_at hl 3 rfl) ?_
          replace h := gd h
          obtain ⟨hi, h⟩ := h
          refine va_iald hx hb hK.1 hP 12 0 rfl rfl hi d_M_lower_113 ?_
          refine lv_if_ne (tgt := 119) hx hb d_M_lower_114 (by decide) (fun hc => ?_) (fun hc => ?_)
          · rw [if_neg hc] at h
            refine lv_iconst (v := 0) hx hb d_M_lower_119 (by decide) ?_
            refine lv_istore (lv' := [(4, .int 0), (3, .int (((M_partCount r2.2) x1.toNatClampNeg) + ((M_partCount r2.2) x2.toNatClampNeg))), (0, .ref (a 20)), (1, .int x1), (2, .int x2)]) hx hb d_M_lower_120 hl (by decide) rfl (fun ls hl => ?_)
            refine lv_iconst (v := 0) hx hb d_M_lower_122 (by decide) ?_
            refine lv_istore (lv' := [(5, .int 0), (4, .int 0), (3, .int (((M_partCount r2.2) x1.toNatClampNeg) + ((M_partCount r2.2) x2.toNatClampNeg))), (0, .ref (a 20)), (1, .int x1), (2, .int x2)]) hx hb d_M_lower_123 hl (by decide) rfl (fun ls hl => ?_)
            exact t_M_lower_125 (a := a) C0 hA  h hP hD hS (lv_sub hl [3, 4, 5, 2, 1, 0] rfl)
          · rw [if_pos hc] at h
            refine lv_iconst (v := (-1)) hx hb d_M_lower_117 (by decide) ?_
            exact rw_ret C0 hP hD hS (Option.some.inj h) d_M_lower_118
      · rw [if_neg hc] at h
        exact t_M_lower_64 (a := a) C0 hA  h hP hD hS (lv_sub hl [0, 1, 2] rfl)
  · rw [if_pos hc] at h
    refine lv_iconst (v := 0) hx hb d_M_lower_28 (by decide) ?_
    exact rw_ret C0 hP hD hS (Option.some.inj h) d_M_lower_29
set_option maxHeartbeats 4000000 in
set_option maxRecDepth 100000 in
theorem t_M_lower_21 {p : Program} {l : Launch} {e : Env} {s : State} {m : MethodId} {args : Array Value} {below : List Frame} {meth : Method} {c : Code} {D : va_G} {cI cZ : ClassId} {a : Nat → Nat} {A : Nat → Prop} (C0 : Am p s m args meth c b_M_lower (some .int) 10 R_M D [(cI, .int), (cZ, .boolean)]) (hA : ∀ q, s.heap.size ≤ q → A q) {res : Int32 × StM}   {q : Nat} {σ : StM} {x1 x2 : Int32} (h : f_M_lower_21 σ x1 x2 = some res) {H : Heap} {locs : List Loc} (hP : va_P D vwCl (wM cI cZ a q σ) H) (hD : va_D A (wM cI cZ a q σ)) (hS : va_S A s.heap H locs) {ls : Array Slot} (hl : lv_has ls 10 [(0, .ref (a 20)), (1, .int x1), (2, .int x2)]) : W p l e (rmK 5 122 0 0) s m args below meth c H locs 0 0 (RwQ below args s D A (fun q (σ : StM) => (wM cI cZ a q σ)) res 0 0) (F0 m 21 ls [.ref (a 20)]) := by
  obtain ⟨hx, hb, hr, hml, hown, hts, hlk, hK⟩ := id C0
  unfold f_M_lower_21 at h
  refine lv_iconst (v := 1) hx hb d_M_lower_21 (by decide) ?_
  exact t_M_lower_22 (a := a) C0 hA  h hP hD hS (lv_sub hl [0, 1, 2] rfl)
set_option maxHeartbeats 4000000 in
set_option maxRecDepth 100000 in
theorem t_M_lower_0 {p : Program} {l : Launch} {e : Env} {s : State} {m : MethodId} {args : Array Value} {below : List Frame} {meth : Method} {c : Code} {D : va_G} {cI cZ : ClassId} {a : Nat → Nat} {A : Nat → Prop} (C0 : Am p s m args meth c b_M_lower (some .int) 10 R_M D [(cI, .int), (cZ, .boolean)]) (hA : ∀ q, s.heap.size ≤ q → A q) {res : Int32 × StM}   {q : Nat} {σ : StM} {x1 x2 : Int32} (h : f_M_lower σ x1 x2 = some res) {H : Heap} {locs : List Loc} (hP : va_P D vwCl (wM cI cZ a q σ) H) (hD : va_D A (wM cI cZ a q σ)) (hS : va_S A s.heap H locs) {ls : Array Slot} (hl : lv_has ls 10 [(0, .ref (a 20)), (1, .int x1), (2, .int x2)]) : W p l e (rmK 5 122 0 0) s m args below meth c H locs 0 0 (RwQ below args s D A (fun q (σ : StM) => (wM cI cZ a q σ)) res 0 0) (F0 m 0 ls []) := by
  obtain ⟨hx, hb, hr, hml, hown, hts, hlk, hK⟩ := id C0
  unfold f_M_lower at h
  refine lv_aload_n hx hb d_M_lower_0 rfl (lv_at hl 0 rfl) ?_
  refine lv_aload_n hx hb d_M_lower_1 rfl (lv_at hl 0 rfl) ?_
  refine lv_iload_n hx hb d_M_lower_2 rfl (lv_at hl 1 rfl) ?_
  refine ro_V (n := 1) (ci := 4) (As := [.int x1]) (rest := [.ref (a 20)]) C0 (c_M_isType l D cI cZ a q σ x1 rfl) wd_427 ⟨wd_428, wd_429, wd_430, wd_352⟩ (by decide +kernel) ⟨Nat.le_of_ble_eq_true rfl, Nat.le_of_ble_eq_true rfl⟩ hP rfl rfl rfl hl rfl rfl (Nat.le_of_ble_eq_true rfl) ⟨Nat.zero_le _, Nat.zero_le _⟩ d_M_lower_3 ?_
  refine lv_if_eq (tgt := 21) hx hb d_M_lower_6 (by decide) (fun hc => ?_) (fun hc => ?_)
  · rw [if_pos hc] at h
    exact t_M_lower_21 (a := a) C0 hA  h hP hD hS (lv_sub hl [0, 1, 2] rfl)
  · rw [if_neg hc] at h
    refine lv_aload_n hx hb d_M_lower_9 rfl (lv_at hl 0 rfl) ?_
    refine lv_iload_n hx hb d_M_lower_10 rfl (lv_at hl 2 rfl) ?_
    refine ro_V (n := 1) (ci := 4) (As := [.int x2]) (rest := [.ref (a 20)]) C0 (c_M_isType l D cI cZ a q σ x2 rfl) wd_427 ⟨wd_428, wd_429, wd_430, wd_352⟩ (by decide +kernel) ⟨Nat.le_of_ble_eq_true rfl, Nat.le_of_ble_eq_true rfl⟩ hP rfl rfl rfl hl rfl rfl (Nat.le_of_ble_eq_true rfl) ⟨Nat.zero_le _, Nat.zero_le _⟩ d_M_lower_11 ?_
    refine lv_if_eq (tgt := 21) hx hb d_M_lower_14 (by decide) (fun hc => ?_) (fun hc => ?_)
    · rw [if_pos hc] at h
      exact t_M_lower_21 (a := a) C0 hA  h hP hD hS (lv_sub hl [0, 1, 2] rfl)
    · rw [if_neg hc] at h
      refine lv_iconst (v := 0) hx hb d_M_lower_17 (by decide) ?_
      refine lv_goto (tgt := 22) hx hb d_M_lower_18 (by decide) ?_
      exact t_M_lower_22 (a := a) C0 hA  h hP hD hS (lv_sub hl [0, 1, 2] rfl)
set_option maxHeartbeats 4000000 in
set_option maxRecDepth 100000 in
theorem c_M_lower (l : Launch) (D : va_G) (cI cZ : ClassId) (a : Nat → Nat) (q : Nat) (σ : StM) (x1 : Int32) (x2 : Int32) {res : Int32 × StM} (h : f_M_lower σ x1 x2 = some res) : RwM l y_M_lower b_M_lower 10 (some .int) 5 122 D [(cI, .int), (cZ, .boolean)] [.ref (a 20), .int x1, .int x2] (fun q (σ : StM) => (wM cI cZ a q σ)) q σ res :=
  rw_of (by decide) (Nat.le_of_ble_eq_true rfl) (fun p e s m args below meth c ls A C0 hA hP hD hS hl => t_M_lower_0 (a := a) C0 hA h hP hD hS (lv_sub hl [0, 1, 2] rfl))
-- part 07.700x.lean.txt
theorem wd_487 : Cond.methodLink "LeastBounds$Classes" 38 ⟨"LeastBounds$Classes", "add", "(ZZ)I"⟩ ∈ tb := mt1 (List.mem_of_getElem? (i := 36) rfl) rfl
theorem wd_488 : Cond.methodLink "LeastBounds$Classes" 42 ⟨"LeastBounds$Classes", "put", "(II)I"⟩ ∈ tb := mt1 (List.mem_of_getElem? (i := 53) rfl) rfl
theorem wd_489 : Cond.methodLink "LeastBounds$Classes" 3 ⟨"java/lang/Object", "<init>", "()V"⟩ ∈ tb := mt1 (List.mem_of_getElem? (i := 35) rfl) rfl
theorem wd_490 : Cond.instanceMethod ⟨"java/lang/Object", "<init>", "()V"⟩ ∈ tb := mt1 (List.mem_of_getElem? (i := 22) rfl) rfl
theorem wd_491 : Cond.code ⟨"java/lang/Object", "<init>", "()V"⟩ object_method_1_code 1 none ∈ tb := mt1 (List.mem_of_getElem? (i := 23) rfl) rfl
theorem wd_492 : Cond.methodLink "LeastBounds$Types" 56 ⟨"LeastBounds$Types", "settle", "()V"⟩ ∈ tb := mt1 (List.mem_of_getElem? (i := 124) rfl) rfl
theorem wd_493 : Cond.methodLink "LeastBounds$Types" 53 ⟨"LeastBounds$Types", "makeNamed", "(II)I"⟩ ∈ tb := mt1 (List.mem_of_getElem? (i := 109) rfl) rfl
theorem wd_494 : Cond.methodLink "LeastBounds$Types" 3 ⟨"java/lang/Object", "<init>", "()V"⟩ ∈ tb := mt1 (List.mem_of_getElem? (i := 104) rfl) rfl
theorem wd_495 : Cond.methodLink "LeastBounds$Answers" 3 ⟨"java/lang/Object", "<init>", "()V"⟩ ∈ tb := mt1 (List.mem_of_getElem? (i := 170) rfl) rfl
theorem wd_496 : Cond.methodLink "LeastBoundsModel" 1 ⟨"java/lang/Object", "<init>", "()V"⟩ ∈ tb := mt3 (List.mem_of_getElem? (i := 202) rfl) rfl
theorem wd_497 : Cond.constant "LeastBoundsModel" 53 (90000) ∈ tb := mt3 (List.mem_of_getElem? (i := 203) rfl) rfl
theorem wd_498 : Cond.methodLink "LeastBounds" 1 ⟨"java/lang/Object", "<init>", "()V"⟩ ∈ tb := mt1 (List.mem_of_getElem? (i := 21) rfl) rfl
theorem wd_499 : Cond.instantiable "LeastBounds$Classes" 8 ∈ tb := mt1 (List.mem_of_getElem? (i := 31) rfl) rfl
theorem wd_500 : Cond.classLink "LeastBounds" 22 "LeastBounds$Classes" ∈ tb := mt1 (List.mem_of_getElem? (i := 30) rfl) rfl
theorem wd_501 : Cond.code ⟨"LeastBounds$Classes", "<init>", "()V"⟩ prog_3_method_1_code 2 none ∈ tb := mt1 (List.mem_of_getElem? (i := 34) rfl) rfl
theorem wd_502 : Cond.instanceMethod ⟨"LeastBounds$Classes", "<init>", "()V"⟩ ∈ tb := mt1 (List.mem_of_getElem? (i := 33) rfl) rfl
theorem wd_503 : Cond.methodLink "LeastBounds" 24 ⟨"LeastBounds$Classes", "<init>", "()V"⟩ ∈ tb := mt1 (List.mem_of_getElem? (i := 32) rfl) rfl
theorem wd_504 : Cond.instantiable "LeastBounds$Types" 12 ∈ tb := mt1 (List.mem_of_getElem? (i := 100) rfl) rfl
theorem wd_505 : Cond.classLink "LeastBounds" 29 "LeastBounds$Types" ∈ tb := mt1 (List.mem_of_getElem? (i := 99) rfl) rfl
theorem wd_506 : Cond.code ⟨"LeastBounds$Types", "<init>", "()V"⟩ prog_4_method_1_code 2 none ∈ tb := mt1 (List.mem_of_getElem? (i := 103) rfl) rfl
theorem wd_507 : Cond.instanceMethod ⟨"LeastBounds$Types", "<init>", "()V"⟩ ∈ tb := mt1 (List.mem_of_getElem? (i := 102) rfl) rfl
theorem wd_508 : Cond.methodLink "LeastBounds" 31 ⟨"LeastBounds$Types", "<init>", "()V"⟩ ∈ tb := mt1 (List.mem_of_getElem? (i := 101) rfl) rfl
theorem wd_509 : Cond.instantiable "LeastBounds$Answers" 2 ∈ tb := mt1 (List.mem_of_getElem? (i := 166) rfl) rfl
theorem wd_510 : Cond.classLink "LeastBounds" 36 "LeastBounds$Answers" ∈ tb := mt1 (List.mem_of_getElem? (i := 165) rfl) rfl
theorem wd_511 : Cond.code ⟨"LeastBounds$Answers", "<init>", "()V"⟩ prog_2_method_1_code 1 none ∈ tb := mt1 (List.mem_of_getElem? (i := 169) rfl) rfl
theorem wd_512 : Cond.instanceMethod ⟨"LeastBounds$Answers", "<init>", "()V"⟩ ∈ tb := mt1 (List.mem_of_getElem? (i := 168) rfl) rfl
theorem wd_513 : Cond.methodLink "LeastBoundsLaw" 7 ⟨"LeastBounds", "declare", "(ZZ)I"⟩ ∈ tb := mt1 (List.mem_of_getElem? (i := 204) rfl) rfl
theorem wd_514 : Cond.code ⟨"LeastBounds", "declare", "(ZZ)I"⟩ prog_1_method_2_code 3 (some FieldType.int) ∈ tb := mt1 (List.mem_of_getElem? (i := 207) rfl) rfl
theorem wd_515 : Cond.instanceMethod ⟨"LeastBounds", "declare", "(ZZ)I"⟩ ∈ tb := mt1 (List.mem_of_getElem? (i := 205) rfl) rfl
theorem wd_516 : Cond.selects "LeastBounds" ⟨"LeastBounds", "declare", "(ZZ)I"⟩ ⟨"LeastBounds", "declare", "(ZZ)I"⟩ ∈ tb := mt1 (List.mem_of_getElem? (i := 206) rfl) rfl
theorem wd_517 : Cond.classLink "LeastBoundsLaw" 13 "java/lang/IllegalStateException" ∈ tb := mt1 (List.mem_of_getElem? (i := 203) rfl) rfl
theorem wd_518 : Cond.methodLink "LeastBoundsLaw" 15 ⟨"LeastBounds", "above", "(II)I"⟩ ∈ tb := mt2 (List.mem_of_getElem? (i := 51) rfl) rfl
theorem wd_519 : Cond.code ⟨"LeastBounds", "above", "(II)I"⟩ prog_1_method_3_code 3 (some FieldType.int) ∈ tb := mt2 (List.mem_of_getElem? (i := 54) rfl) rfl
theorem wd_520 : Cond.instanceMethod ⟨"LeastBounds", "above", "(II)I"⟩ ∈ tb := mt2 (List.mem_of_getElem? (i := 52) rfl) rfl
theorem wd_521 : Cond.selects "LeastBounds" ⟨"LeastBounds", "above", "(II)I"⟩ ⟨"LeastBounds", "above", "(II)I"⟩ ∈ tb := mt2 (List.mem_of_getElem? (i := 53) rfl) rfl
theorem wd_522 : Cond.classLink "LeastBoundsLaw" 19 "java/lang/IndexOutOfBoundsException" ∈ tb := mt2 (List.mem_of_getElem? (i := 49) rfl) rfl
theorem wd_523 : Cond.classLink "LeastBoundsLaw" 21 "java/lang/IllegalArgumentException" ∈ tb := mt2 (List.mem_of_getElem? (i := 50) rfl) rfl
theorem wd_524 : Cond.methodLink "LeastBoundsLaw" 23 ⟨"LeastBounds", "named", "(III)I"⟩ ∈ tb := mt2 (List.mem_of_getElem? (i := 166) rfl) rfl
theorem wd_525 : Cond.code ⟨"LeastBounds", "named", "(III)I"⟩ prog_1_method_4_code 5 (some FieldType.int) ∈ tb := mt2 (List.mem_of_getElem? (i := 169) rfl) rfl
theorem wd_526 : Cond.instanceMethod ⟨"LeastBounds", "named", "(III)I"⟩ ∈ tb := mt2 (List.mem_of_getElem? (i := 167) rfl) rfl
theorem wd_527 : Cond.selects "LeastBounds" ⟨"LeastBounds", "named", "(III)I"⟩ ⟨"LeastBounds", "named", "(III)I"⟩ ∈ tb := mt2 (List.mem_of_getElem? (i := 168) rfl) rfl
theorem wd_528 : Cond.methodLink "LeastBoundsLaw" 27 ⟨"LeastBounds", "array", "(I)I"⟩ ∈ tb := mt2 (List.mem_of_getElem? (i := 187) rfl) rfl
theorem wd_529 : Cond.code ⟨"LeastBounds", "array", "(I)I"⟩ prog_1_method_5_code 2 (some FieldType.int) ∈ tb := mt2 (List.mem_of_getElem? (i := 190) rfl) rfl
theorem wd_530 : Cond.instanceMethod ⟨"LeastBounds", "array", "(I)I"⟩ ∈ tb := mt2 (List.mem_of_getElem? (i := 188) rfl) rfl
theorem wd_531 : Cond.selects "LeastBounds" ⟨"LeastBounds", "array", "(I)I"⟩ ⟨"LeastBounds", "array", "(I)I"⟩ ∈ tb := mt2 (List.mem_of_getElem? (i := 189) rfl) rfl
theorem wd_532 : Cond.methodLink "LeastBoundsLaw" 31 ⟨"LeastBounds", "upper", "(II)I"⟩ ∈ tb := mt2 (List.mem_of_getElem? (i := 198) rfl) rfl
theorem wd_533 : Cond.code ⟨"LeastBounds", "upper", "(II)I"⟩ prog_1_method_6_code 3 (some FieldType.int) ∈ tb := mt2 (List.mem_of_getElem? (i := 201) rfl) rfl
theorem wd_534 : Cond.instanceMethod ⟨"LeastBounds", "upper", "(II)I"⟩ ∈ tb := mt2 (List.mem_of_getElem? (i := 199) rfl) rfl
theorem wd_535 : Cond.selects "LeastBounds" ⟨"LeastBounds", "upper", "(II)I"⟩ ⟨"LeastBounds", "upper", "(II)I"⟩ ∈ tb := mt2 (List.mem_of_getElem? (i := 200) rfl) rfl
theorem wd_536 : Cond.methodLink "LeastBoundsLaw" 34 ⟨"LeastBounds", "lower", "(II)I"⟩ ∈ tb := mt3 (List.mem_of_getElem? (i := 61) rfl) rfl
theorem wd_537 : Cond.code ⟨"LeastBounds", "lower", "(II)I"⟩ prog_1_method_7_code 4 (some FieldType.int) ∈ tb := mt3 (List.mem_of_getElem? (i := 64) rfl) rfl
theorem wd_538 : Cond.instanceMethod ⟨"LeastBounds", "lower", "(II)I"⟩ ∈ tb := mt3 (List.mem_of_getElem? (i := 62) rfl) rfl
theorem wd_539 : Cond.selects "LeastBounds" ⟨"LeastBounds", "lower", "(II)I"⟩ ⟨"LeastBounds", "lower", "(II)I"⟩ ∈ tb := mt3 (List.mem_of_getElem? (i := 63) rfl) rfl
theorem wd_540 : Cond.methodLink "LeastBoundsLaw" 37 ⟨"LeastBounds", "isBelow", "(II)Z"⟩ ∈ tb := mt3 (List.mem_of_getElem? (i := 110) rfl) rfl
theorem wd_541 : Cond.code ⟨"LeastBounds", "isBelow", "(II)Z"⟩ prog_1_method_8_code 3 (some FieldType.boolean) ∈ tb := mt3 (List.mem_of_getElem? (i := 113) rfl) rfl
theorem wd_542 : Cond.instanceMethod ⟨"LeastBounds", "isBelow", "(II)Z"⟩ ∈ tb := mt3 (List.mem_of_getElem? (i := 111) rfl) rfl
theorem wd_543 : Cond.selects "LeastBounds" ⟨"LeastBounds", "isBelow", "(II)Z"⟩ ⟨"LeastBounds", "isBelow", "(II)Z"⟩ ∈ tb := mt3 (List.mem_of_getElem? (i := 112) rfl) rfl
theorem wd_544 : Cond.methodLink "LeastBoundsLaw" 41 ⟨"LeastBounds", "look", "(II)I"⟩ ∈ tb := mt3 (List.mem_of_getElem? (i := 117) rfl) rfl
theorem wd_545 : Cond.code ⟨"LeastBounds", "look", "(II)I"⟩ prog_1_method_9_code 4 (some FieldType.int) ∈ tb := mt3 (List.mem_of_getElem? (i := 120) rfl) rfl
theorem wd_546 : Cond.instanceMethod ⟨"LeastBounds", "look", "(II)I"⟩ ∈ tb := mt3 (List.mem_of_getElem? (i := 118) rfl) rfl
theorem wd_547 : Cond.selects "LeastBounds" ⟨"LeastBounds", "look", "(II)I"⟩ ⟨"LeastBounds", "look", "(II)I"⟩ ∈ tb := mt3 (List.mem_of_getElem? (i := 119) rfl) rfl
theorem wd_548 : Cond.methodLink "LeastBoundsLaw" 44 ⟨"LeastBounds", "box", "(I)I"⟩ ∈ tb := mt3 (List.mem_of_getElem? (i := 124) rfl) rfl
theorem wd_549 : Cond.code ⟨"LeastBounds", "box", "(I)I"⟩ prog_1_method_10_code 2 (some FieldType.int) ∈ tb := mt3 (List.mem_of_getElem? (i := 127) rfl) rfl
theorem wd_550 : Cond.instanceMethod ⟨"LeastBounds", "box", "(I)I"⟩ ∈ tb := mt3 (List.mem_of_getElem? (i := 125) rfl) rfl
theorem wd_551 : Cond.selects "LeastBounds" ⟨"LeastBounds", "box", "(I)I"⟩ ⟨"LeastBounds", "box", "(I)I"⟩ ∈ tb := mt3 (List.mem_of_getElem? (i := 126) rfl) rfl
theorem wd_552 : Cond.methodLink "LeastBoundsLaw" 47 ⟨"LeastBounds", "type", "(II)I"⟩ ∈ tb := mt3 (List.mem_of_getElem? (i := 131) rfl) rfl
theorem wd_553 : Cond.code ⟨"LeastBounds", "type", "(II)I"⟩ prog_1_method_11_code 3 (some FieldType.int) ∈ tb := mt3 (List.mem_of_getElem? (i := 134) rfl) rfl
theorem wd_554 : Cond.instanceMethod ⟨"LeastBounds", "type", "(II)I"⟩ ∈ tb := mt3 (List.mem_of_getElem? (i := 132) rfl) rfl
theorem wd_555 : Cond.selects "LeastBounds" ⟨"LeastBounds", "type", "(II)I"⟩ ⟨"LeastBounds", "type", "(II)I"⟩ ∈ tb := mt3 (List.mem_of_getElem? (i := 133) rfl) rfl
theorem wd_556 : Cond.methodLink "LeastBoundsLaw" 50 ⟨"LeastBounds", "part", "(II)I"⟩ ∈ tb := mt3 (List.mem_of_getElem? (i := 140) rfl) rfl
theorem wd_557 : Cond.code ⟨"LeastBounds", "part", "(II)I"⟩ prog_1_method_12_code 3 (some FieldType.int) ∈ tb := mt3 (List.mem_of_getElem? (i := 143) rfl) rfl
theorem wd_558 : Cond.instanceMethod ⟨"LeastBounds", "part", "(II)I"⟩ ∈ tb := mt3 (List.mem_of_getElem? (i := 141) rfl) rfl
theorem wd_559 : Cond.selects "LeastBounds" ⟨"LeastBounds", "part", "(II)I"⟩ ⟨"LeastBounds", "part", "(II)I"⟩ ∈ tb := mt3 (List.mem_of_getElem? (i := 142) rfl) rfl
theorem wd_560 : Cond.methodLink "LeastBoundsLaw" 53 ⟨"LeastBounds", "common", "(III)I"⟩ ∈ tb := mt3 (List.mem_of_getElem? (i := 148) rfl) rfl
theorem wd_561 : Cond.code ⟨"LeastBounds", "common", "(III)I"⟩ prog_1_method_13_code 4 (some FieldType.int) ∈ tb := mt3 (List.mem_of_getElem? (i := 151) rfl) rfl
theorem wd_562 : Cond.instanceMethod ⟨"LeastBounds", "common", "(III)I"⟩ ∈ tb := mt3 (List.mem_of_getElem? (i := 149) rfl) rfl
theorem wd_563 : Cond.selects "LeastBounds" ⟨"LeastBounds", "common", "(III)I"⟩ ⟨"LeastBounds", "common", "(III)I"⟩ ∈ tb := mt3 (List.mem_of_getElem? (i := 150) rfl) rfl
theorem wd_564 : Cond.methodLink "LeastBoundsLaw" 56 ⟨"LeastBounds", "isUnder", "(II)Z"⟩ ∈ tb := mt3 (List.mem_of_getElem? (i := 162) rfl) rfl
theorem wd_565 : Cond.code ⟨"LeastBounds", "isUnder", "(II)Z"⟩ prog_1_method_14_code 3 (some FieldType.boolean) ∈ tb := mt3 (List.mem_of_getElem? (i := 165) rfl) rfl
theorem wd_566 : Cond.instanceMethod ⟨"LeastBounds", "isUnder", "(II)Z"⟩ ∈ tb := mt3 (List.mem_of_getElem? (i := 163) rfl) rfl
theorem wd_567 : Cond.selects "LeastBounds" ⟨"LeastBounds", "isUnder", "(II)Z"⟩ ⟨"LeastBounds", "isUnder", "(II)Z"⟩ ∈ tb := mt3 (List.mem_of_getElem? (i := 164) rfl) rfl
theorem wd_568 : Cond.methodLink "LeastBoundsLaw" 59 ⟨"LeastBounds", "classed", "(II)I"⟩ ∈ tb := mt3 (List.mem_of_getElem? (i := 170) rfl) rfl
theorem wd_569 : Cond.code ⟨"LeastBounds", "classed", "(II)I"⟩ prog_1_method_15_code 3 (some FieldType.int) ∈ tb := mt3 (List.mem_of_getElem? (i := 173) rfl) rfl
theorem wd_570 : Cond.instanceMethod ⟨"LeastBounds", "classed", "(II)I"⟩ ∈ tb := mt3 (List.mem_of_getElem? (i := 171) rfl) rfl
theorem wd_571 : Cond.selects "LeastBounds" ⟨"LeastBounds", "classed", "(II)I"⟩ ⟨"LeastBounds", "classed", "(II)I"⟩ ∈ tb := mt3 (List.mem_of_getElem? (i := 172) rfl) rfl
theorem wd_572 : Cond.methodLink "LeastBoundsLaw" 62 ⟨"LeastBounds", "direct", "(III)I"⟩ ∈ tb := mt3 (List.mem_of_getElem? (i := 179) rfl) rfl
theorem wd_573 : Cond.code ⟨"LeastBounds", "direct", "(III)I"⟩ prog_1_method_16_code 4 (some FieldType.int) ∈ tb := mt3 (List.mem_of_getElem? (i := 182) rfl) rfl
theorem wd_574 : Cond.instanceMethod ⟨"LeastBounds", "direct", "(III)I"⟩ ∈ tb := mt3 (List.mem_of_getElem? (i := 180) rfl) rfl
theorem wd_575 : Cond.selects "LeastBounds" ⟨"LeastBounds", "direct", "(III)I"⟩ ⟨"LeastBounds", "direct", "(III)I"⟩ ∈ tb := mt3 (List.mem_of_getElem? (i := 181) rfl) rfl
theorem wd_576 : Cond.methodLink "LeastBoundsLaw" 65 ⟨"LeastBounds", "told", "(I)I"⟩ ∈ tb := mt3 (List.mem_of_getElem? (i := 189) rfl) rfl
theorem wd_577 : Cond.code ⟨"LeastBounds", "told", "(I)I"⟩ prog_1_method_17_code 2 (some FieldType.int) ∈ tb := mt3 (List.mem_of_getElem? (i := 192) rfl) rfl
theorem wd_578 : Cond.instanceMethod ⟨"LeastBounds", "told", "(I)I"⟩ ∈ tb := mt3 (List.mem_of_getElem? (i := 190) rfl) rfl
theorem wd_579 : Cond.selects "LeastBounds" ⟨"LeastBounds", "told", "(I)I"⟩ ⟨"LeastBounds", "told", "(I)I"⟩ ∈ tb := mt3 (List.mem_of_getElem? (i := 191) rfl) rfl
theorem ws_M_set_depth {cI cZ : ClassId} {a : Nat → Nat} {q : Nat} {σ : StM} {v : Int32} : (wM cI cZ a q σ).set 0 ((a 20), .inr (4, [.int (M_code σ), .int (M_depth σ), .int (M_classes σ), .int (M_generics σ), .ref (a 21), .ref (a 22), .ref (a 23), .ref (a 24), .ref (a 25), .ref (a 26), .int (M_types σ), .ref (a 27), .ref (a 28), .ref (a 29), .ref (a 30), .ref (a 31), .ref (a 32), .ref (a 33), .int (M_full σ), .int (M_found σ), .int (M_foundHow σ), .int (M_foundType σ), .ref (a 34), .ref (a 35), .int (M_reckoned σ), .int (M_high σ), .ref (a 36), .ref (a 37), .ref (a 38), .ref (a 39), .ref (a 40), .ref (a 41), .ref (a 42), .ref (a 43), .int (M_answer σ)].set 1 (.int v))) = (wM cI cZ a q (M_set_depth σ v)) := rfl
