def f_M_partOf (σ : StM) (x1 x2 x3 : Int32) : Option Int32 :=
  if x1 < 0 ∨ 300 ≤ x1.toNatClampNeg then none else
  if ((M_partCount σ) x1.toNatClampNeg) ≤ x3 then
    if x1 < 0 ∨ 300 ≤ x1.toNatClampNeg then none else
    if (((30 * x2) + x3) - ((M_partCount σ) x1.toNatClampNeg)) < 0 ∨ 9000 ≤ (((30 * x2) + x3) - ((M_partCount σ) x1.toNatClampNeg)).toNatClampNeg then none else
    some ((M_partRow σ) (((30 * x2) + x3) - ((M_partCount σ) x1.toNatClampNeg)).toNatClampNeg)
  else
    if ((30 * x1) + x3) < 0 ∨ 9000 ≤ ((30 * x1) + x3).toNatClampNeg then none else
    some ((M_partRow σ) ((30 * x1) + x3).toNatClampNeg)
set_option maxHeartbeats 4000000 in
set_option maxRecDepth 100000 in
theorem t_M_partOf_0 {p : Program} {l : Launch} {e : Env} {s : State} {m : MethodId} {args : Array Value} {below : List Frame} {meth : Method} {c : Code} {D : va_G} {cI cZ : ClassId} {a : Nat → Nat} {q : Nat} {σ : StM} (C0 : Am p s m args meth c b_M_partOf (some .int) 4 R_M D [(cI, .int), (cZ, .boolean)]) (hP : va_P D vwCl (wM cI cZ a q σ) s.heap) {val : Int32}   {x1 x2 x3 : Int32} (h : f_M_partOf σ x1 x2 x3 = some val) {ls : Array Slot} (hl : lv_has ls 4 [(0, .ref (a 20)), (1, .int x1), (2, .int x2), (3, .int x3)]) : RoW p l e (rmK 0 0 0 0) s m args below meth c val (F0 m 0 ls []) := by
  obtain ⟨hx, hb, hr, hml, hown, hts, hlk, hK⟩ := id C0
  unfold f_M_partOf at h
  refine lv_iload_n hx hb d_M_partOf_0 rfl (lv_at hl 3 rfl) ?_
  refine lv_aload_n hx hb d_M_partOf_1 rfl (lv_at hl 0 rfl) ?_
  refine va_get (ci := 4) (v := .ref (a 32)) (C := R_M) (T := F_M) (N := 35) hx hb hts i_M hown hK.1 hP 0 rfl rfl 16 (by decide) (hts _ wd_354) (fun _ h9 => h9) rfl d_M_partOf_2 ?_
  refine lv_iload_n hx hb d_M_partOf_5 rfl (lv_at hl 1 rfl) ?_
  replace h := gd h
  obtain ⟨hi, h⟩ := h
  refine va_iald hx hb hK.1 hP 12 0 rfl rfl hi d_M_partOf_6 ?_
  refine lv_icmp_ge (tgt := 24) hx hb d_M_partOf_7 (by decide) (fun hc => ?_) (fun hc => ?_)
  · rw [if_pos hc] at h
    refine lv_aload_n hx hb d_M_partOf_24 rfl (lv_at hl 0 rfl) ?_
    refine va_get (ci := 4) (v := .ref (a 33)) (C := R_M) (T := F_M) (N := 35) hx hb hts i_M hown hK.1 hP 0 rfl rfl 17 (by decide) (hts _ wd_355) (fun _ h9 => h9) rfl d_M_partOf_25 ?_
    refine lv_bipush (v := 30) hx hb d_M_partOf_28 (by decide) ?_
    refine lv_iload_n hx hb d_M_partOf_30 rfl (lv_at hl 2 rfl) ?_
    refine lv_imul hx hb d_M_partOf_31 ?_
    refine lv_iload_n hx hb d_M_partOf_32 rfl (lv_at hl 3 rfl) ?_
    refine lv_iadd hx hb d_M_partOf_33 ?_
    refine lv_aload_n hx hb d_M_partOf_34 rfl (lv_at hl 0 rfl) ?_
    refine va_get (ci := 4) (v := .ref (a 32)) (C := R_M) (T := F_M) (N := 35) hx hb hts i_M hown hK.1 hP 0 rfl rfl 16 (by decide) (hts _ wd_354) (fun _ h9 => h9) rfl d_M_partOf_35 ?_
    refine lv_iload_n hx hb d_M_partOf_38 rfl (lv_at hl 1 rfl) ?_
    replace h := gd h
    obtain ⟨hi, h⟩ := h
    refine va_iald hx hb hK.1 hP 12 0 rfl rfl hi d_M_partOf_39 ?_
    refine lv_isub hx hb d_M_partOf_40 ?_
    replace h := gd h
    obtain ⟨hi, h⟩ := h
    refine va_iald hx hb hK.1 hP 13 0 rfl rfl hi d_M_partOf_41 ?_
    exact ro_ret C0 (Option.some.inj h) d_M_partOf_42
  · rw [if_neg hc] at h
    refine lv_aload_n hx hb d_M_partOf_10 rfl (lv_at hl 0 rfl) ?_
    refine va_get (ci := 4) (v := .ref (a 33)) (C := R_M) (T := F_M) (N := 35) hx hb hts i_M hown hK.1 hP 0 rfl rfl 17 (by decide) (hts _ wd_355) (fun _ h9 => h9) rfl d_M_partOf_11 ?_
    refine lv_bipush (v := 30) hx hb d_M_partOf_14 (by decide) ?_
    refine lv_iload_n hx hb d_M_partOf_16 rfl (lv_at hl 1 rfl) ?_
    refine lv_imul hx hb d_M_partOf_17 ?_
    refine lv_iload_n hx hb d_M_partOf_18 rfl (lv_at hl 3 rfl) ?_
    refine lv_iadd hx hb d_M_partOf_19 ?_
    replace h := gd h
    obtain ⟨hi, h⟩ := h
    refine va_iald hx hb hK.1 hP 13 0 rfl rfl hi d_M_partOf_20 ?_
    refine lv_goto (tgt := 42) hx hb d_M_partOf_21 (by decide) ?_
    exact ro_ret C0 (Option.some.inj h) d_M_partOf_42
set_option maxHeartbeats 4000000 in
set_option maxRecDepth 100000 in
theorem c_M_partOf (l : Launch) (D : va_G) (cI cZ : ClassId) (a : Nat → Nat) (q : Nat) (σ : StM) (x1 : Int32) (x2 : Int32) (x3 : Int32) {val : Int32} (h : f_M_partOf σ x1 x2 x3 = some val) : RoM l y_M_partOf b_M_partOf 4 (some .int) 0 0 D [(cI, .int), (cZ, .boolean)] [.ref (a 20), .int x1, .int x2, .int x3] (wM cI cZ a q σ) val :=
  ro_of (by decide) (Nat.le_of_ble_eq_true rfl) (fun p e s m args below meth c ls C0 hP hl => t_M_partOf_0 (a := a) C0 hP h (lv_sub hl [0, 1, 2, 3] rfl))
