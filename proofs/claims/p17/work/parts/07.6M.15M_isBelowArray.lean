def f_M_isBelowArray (σ : StM) (x1 x2 : Int32) : Option Int32 :=
  if x1 < 0 ∨ 300 ≤ x1.toNatClampNeg then none else
  if ((M_kind σ) x1.toNatClampNeg) = 2 then
    if x1 < 0 ∨ 300 ≤ x1.toNatClampNeg then none else
    if ((M_inner σ) x1.toNatClampNeg) ≤ 7 then
      some 0
    else
      if x2 < 0 ∨ 300 ≤ x2.toNatClampNeg then none else
      if ((M_inner σ) x2.toNatClampNeg) ≤ 7 then
        some 0
      else
        if x1 < 0 ∨ 300 ≤ x1.toNatClampNeg then none else
        if x2 < 0 ∨ 300 ≤ x2.toNatClampNeg then none else
        if ((300 * ((M_inner σ) x1.toNatClampNeg)) + ((M_inner σ) x2.toNatClampNeg)) < 0 ∨ 90000 ≤ ((300 * ((M_inner σ) x1.toNatClampNeg)) + ((M_inner σ) x2.toNatClampNeg)).toNatClampNeg then none else
        if ((M_below σ) ((300 * ((M_inner σ) x1.toNatClampNeg)) + ((M_inner σ) x2.toNatClampNeg)).toNatClampNeg) = 0 then
          some 0
        else
          some 1
  else
    some 0
set_option maxHeartbeats 4000000 in
set_option maxRecDepth 100000 in
theorem t_M_isBelowArray_0 {p : Program} {l : Launch} {e : Env} {s : State} {m : MethodId} {args : Array Value} {below : List Frame} {meth : Method} {c : Code} {D : va_G} {cI cZ : ClassId} {a : Nat → Nat} {q : Nat} {σ : StM} (C0 : Am p s m args meth c b_M_isBelowArray (some .boolean) 3 R_M D [(cI, .int), (cZ, .boolean)]) (hP : va_P D vwCl (wM cI cZ a q σ) s.heap) {val : Int32}   {x1 x2 : Int32} (h : f_M_isBelowArray σ x1 x2 = some val) {ls : Array Slot} (hl : lv_has ls 3 [(0, .ref (a 20)), (1, .int x1), (2, .int x2)]) : RoW p l e (rmK 0 0 0 0) s m args below meth c val (F0 m 0 ls []) := by
  obtain ⟨hx, hb, hr, hml, hown, hts, hlk, hK⟩ := id C0
  unfold f_M_isBelowArray at h
  refine lv_aload_n hx hb d_M_isBelowArray_0 rfl (lv_at hl 0 rfl) ?_
  refine va_get (ci := 4) (v := .ref (a 27)) (C := R_M) (T := F_M) (N := 35) hx hb hts i_M hown hK.1 hP 0 rfl rfl 11 (by decide) (hts _ wd_353) (fun _ h9 => h9) rfl d_M_isBelowArray_1 ?_
  refine lv_iload_n hx hb d_M_isBelowArray_4 rfl (lv_at hl 1 rfl) ?_
  replace h := gd h
  obtain ⟨hi, h⟩ := h
  refine va_iald hx hb hK.1 hP 7 0 rfl rfl hi d_M_isBelowArray_5 ?_
  refine lv_iconst (v := 2) hx hb d_M_isBelowArray_6 (by decide) ?_
  refine lv_icmp_ne (tgt := 61) hx hb d_M_isBelowArray_7 (by decide) (fun hc => ?_) (fun hc => ?_)
  · rw [if_neg hc] at h
    refine lv_iconst (v := 0) hx hb d_M_isBelowArray_61 (by decide) ?_
    exact ro_retz C0 (by decide) (Option.some.inj h) d_M_isBelowArray_62
  · rw [if_pos hc] at h
    refine lv_aload_n hx hb d_M_isBelowArray_10 rfl (lv_at hl 0 rfl) ?_
    refine va_get (ci := 4) (v := .ref (a 30)) (C := R_M) (T := F_M) (N := 35) hx hb hts i_M hown hK.1 hP 0 rfl rfl 14 (by decide) (hts _ wd_358) (fun _ h9 => h9) rfl d_M_isBelowArray_11 ?_
    refine lv_iload_n hx hb d_M_isBelowArray_14 rfl (lv_at hl 1 rfl) ?_
    replace h := gd h
    obtain ⟨hi, h⟩ := h
    refine va_iald hx hb hK.1 hP 10 0 rfl rfl hi d_M_isBelowArray_15 ?_
    refine lv_bipush (v := 7) hx hb d_M_isBelowArray_16 (by decide) ?_
    refine lv_icmp_le (tgt := 61) hx hb d_M_isBelowArray_18 (by decide) (fun hc => ?_) (fun hc => ?_)
    · rw [if_pos hc] at h
      refine lv_iconst (v := 0) hx hb d_M_isBelowArray_61 (by decide) ?_
      exact ro_retz C0 (by decide) (Option.some.inj h) d_M_isBelowArray_62
    · rw [if_neg hc] at h
      refine lv_aload_n hx hb d_M_isBelowArray_21 rfl (lv_at hl 0 rfl) ?_
      refine va_get (ci := 4) (v := .ref (a 30)) (C := R_M) (T := F_M) (N := 35) hx hb hts i_M hown hK.1 hP 0 rfl rfl 14 (by decide) (hts _ wd_358) (fun _ h9 => h9) rfl d_M_isBelowArray_22 ?_
      refine lv_iload_n hx hb d_M_isBelowArray_25 rfl (lv_at hl 2 rfl) ?_
      replace h := gd h
      obtain ⟨hi, h⟩ := h
      refine va_iald hx hb hK.1 hP 10 0 rfl rfl hi d_M_isBelowArray_26 ?_
      refine lv_bipush (v := 7) hx hb d_M_isBelowArray_27 (by decide) ?_
      refine lv_icmp_le (tgt := 61) hx hb d_M_isBelowArray_29 (by decide) (fun hc => ?_) (fun hc => ?_)
      · rw [if_pos hc] at h
        refine lv_iconst (v := 0) hx hb d_M_isBelowArray_61 (by decide) ?_
        exact ro_retz C0 (by decide) (Option.some.inj h) d_M_isBelowArray_62
      · rw [if_neg hc] at h
        refine lv_aload_n hx hb d_M_isBelowArray_32 rfl (lv_at hl 0 rfl) ?_
        refine va_get (ci := 4) (v := .ref (a 35)) (C := R_M) (T := F_M) (N := 35) hx hb hts i_M hown hK.1 hP 0 rfl rfl 23 (by decide) (hts _ wd_370) (fun _ h9 => h9) rfl d_M_isBelowArray_33 ?_
        refine lv_sipush (v := 300) hx hb d_M_isBelowArray_36 (by decide) ?_
        refine lv_aload_n hx hb d_M_isBelowArray_39 rfl (lv_at hl 0 rfl) ?_
        refine va_get (ci := 4) (v := .ref (a 30)) (C := R_M) (T := F_M) (N := 35) hx hb hts i_M hown hK.1 hP 0 rfl rfl 14 (by decide) (hts _ wd_358) (fun _ h9 => h9) rfl d_M_isBelowArray_40 ?_
        refine lv_iload_n hx hb d_M_isBelowArray_43 rfl (lv_at hl 1 rfl) ?_
        replace h := gd h
        obtain ⟨hi, h⟩ := h
        refine va_iald hx hb hK.1 hP 10 0 rfl rfl hi d_M_isBelowArray_44 ?_
        refine lv_imul hx hb d_M_isBelowArray_45 ?_
        refine lv_aload_n hx hb d_M_isBelowArray_46 rfl (lv_at hl 0 rfl) ?_
        refine va_get (ci := 4) (v := .ref (a 30)) (C := R_M) (T := F_M) (N := 35) hx hb hts i_M hown hK.1 hP 0 rfl rfl 14 (by decide) (hts _ wd_358) (fun _ h9 => h9) rfl d_M_isBelowArray_47 ?_
        refine lv_iload_n hx hb d_M_isBelowArray_50 rfl (lv_at hl 2 rfl) ?_
        replace h := gd h
        obtain ⟨hi, h⟩ := h
        refine va_iald hx hb hK.1 hP 10 0 rfl rfl hi d_M_isBelowArray_51 ?_
        refine lv_iadd hx hb d_M_isBelowArray_52 ?_
        replace h := gd h
        obtain ⟨hi, h⟩ := h
        refine va_zald hx hb hK.1 hP 15 1 rfl rfl hi d_M_isBelowArray_53 ?_
        refine lv_if_eq (tgt := 61) hx hb d_M_isBelowArray_54 (by decide) (fun hc => ?_) (fun hc => ?_)
        · rw [if_pos hc] at h
          refine lv_iconst (v := 0) hx hb d_M_isBelowArray_61 (by decide) ?_
          exact ro_retz C0 (by decide) (Option.some.inj h) d_M_isBelowArray_62
        · rw [if_neg hc] at h
          refine lv_iconst (v := 1) hx hb d_M_isBelowArray_57 (by decide) ?_
          refine lv_goto (tgt := 62) hx hb d_M_isBelowArray_58 (by decide) ?_
          exact ro_retz C0 (by decide) (Option.some.inj h) d_M_isBelowArray_62
set_option maxHeartbeats 4000000 in
set_option maxRecDepth 100000 in
theorem c_M_isBelowArray (l : Launch) (D : va_G) (cI cZ : ClassId) (a : Nat → Nat) (q : Nat) (σ : StM) (x1 : Int32) (x2 : Int32) {val : Int32} (h : f_M_isBelowArray σ x1 x2 = some val) : RoM l y_M_isBelowArray b_M_isBelowArray 3 (some .boolean) 0 0 D [(cI, .int), (cZ, .boolean)] [.ref (a 20), .int x1, .int x2] (wM cI cZ a q σ) val :=
  ro_of (by decide) (Nat.le_of_ble_eq_true rfl) (fun p e s m args below meth c ls C0 hP hl => t_M_isBelowArray_0 (a := a) C0 hP h (lv_sub hl [0, 1, 2] rfl))
