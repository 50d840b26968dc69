def f_T_partOf (σ : StT) (x1 x2 : Int32) : Option Int32 :=
  if (f_T_isThere σ x1) = 0 then
    some (-1)
  else
    if x2 < 0 then
      some (-1)
    else
      if x1 < 0 ∨ 300 ≤ x1.toNatClampNeg then none else
      if x2 < ((T_partCounts σ) x1.toNatClampNeg) then
        if x1 < 0 ∨ 300 ≤ x1.toNatClampNeg then none else
        if ((T_kinds σ) x1.toNatClampNeg) = 1 then
          some x1
        else
          if x1 < 0 ∨ 300 ≤ x1.toNatClampNeg then none else
          if (((T_partStarts σ) x1.toNatClampNeg) + x2) < 0 then
            some (-1)
          else
            if (T_partsUsed σ) ≤ (((T_partStarts σ) x1.toNatClampNeg) + x2) then
              some (-1)
            else
              if (Int32.ofNat (T_parts σ).1) ≤ (((T_partStarts σ) x1.toNatClampNeg) + x2) then
                some (-1)
              else
                if (((T_partStarts σ) x1.toNatClampNeg) + x2) < 0 ∨ (T_parts σ).1 ≤ (((T_partStarts σ) x1.toNatClampNeg) + x2).toNatClampNeg then none else
                some ((T_parts σ).2 (((T_partStarts σ) x1.toNatClampNeg) + x2).toNatClampNeg)
      else
        some (-1)
set_option maxHeartbeats 4000000 in
set_option maxRecDepth 100000 in
theorem t_T_partOf_0 {p : Program} {l : Launch} {e : Env} {s : State} {m : MethodId} {args : Array Value} {below : List Frame} {meth : Method} {c : Code} {D : va_G} {cI cZ : ClassId} {a : Nat → Nat} {q : Nat} {σ : StT} (C0 : Am p s m args meth c b_T_partOf (some .int) 4 R_T D [(cI, .int), (cZ, .boolean)]) (hP : va_P D vwCl (wT cI cZ a q σ) s.heap) {val : Int32}   {x1 x2 : Int32} (h : f_T_partOf σ x1 x2 = some val) {ls : Array Slot} (hl : lv_has ls 4 [(0, .ref (a 10)), (1, .int x1), (2, .int x2)]) : RoW p l e (rmK 1 21 0 0) s m args below meth c val (F0 m 0 ls []) := by
  obtain ⟨hx, hb, hr, hml, hown, hts, hlk, hK⟩ := id C0
  unfold f_T_partOf at h
  refine lv_aload_n hx hb d_T_partOf_0 rfl (lv_at hl 0 rfl) ?_
  refine lv_iload_n hx hb d_T_partOf_1 rfl (lv_at hl 1 rfl) ?_
  refine ro_V (n := 1) (ci := 2) (As := [.int x1]) (rest := []) C0 (c_T_isThere l D cI cZ a q σ x1 rfl) wd_45 ⟨wd_46, wd_47, wd_48, wd_49⟩ (by decide +kernel) ⟨Nat.le_of_ble_eq_true rfl, Nat.le_of_ble_eq_true rfl⟩ hP rfl rfl rfl hl rfl rfl (Nat.le_of_ble_eq_true rfl) ⟨Nat.zero_le _, Nat.zero_le _⟩ d_T_partOf_2 ?_
  refine lv_if_eq (tgt := 22) hx hb d_T_partOf_5 (by decide) (fun hc => ?_) (fun hc => ?_)
  · rw [if_pos hc] at h
    refine lv_iconst (v := (-1)) hx hb d_T_partOf_22 (by decide) ?_
    exact ro_ret C0 (Option.some.inj h) d_T_partOf_23
  · rw [if_neg hc] at h
    refine lv_iload_n hx hb d_T_partOf_8 rfl (lv_at hl 2 rfl) ?_
    refine lv_if_lt (tgt := 22) hx hb d_T_partOf_9 (by decide) (fun hc => ?_) (fun hc => ?_)
    · rw [if_pos hc] at h
      refine lv_iconst (v := (-1)) hx hb d_T_partOf_22 (by decide) ?_
      exact ro_ret C0 (Option.some.inj h) d_T_partOf_23
    · rw [if_neg hc] at h
      refine lv_iload_n hx hb d_T_partOf_12 rfl (lv_at hl 2 rfl) ?_
      refine lv_aload_n hx hb d_T_partOf_13 rfl (lv_at hl 0 rfl) ?_
      refine va_get (ci := 2) (v := .ref (a 17)) (C := R_T) (T := F_T) (N := 12) hx hb hts i_T hown hK.1 hP 0 rfl rfl 6 (by decide) (hts _ wd_44) (fun _ h9 => h9) rfl d_T_partOf_14 ?_
      refine lv_iload_n hx hb d_T_partOf_17 rfl (lv_at hl 1 rfl) ?_
      obtain ⟨hi, h⟩ := gd h
      refine va_iald hx hb hK.1 hP 7 0 rfl rfl hi d_T_partOf_18 ?_
      refine lv_icmp_lt (tgt := 24) hx hb d_T_partOf_19 (by decide) (fun hc => ?_) (fun hc => ?_)
      · rw [if_pos hc] at h
        refine lv_aload_n hx hb d_T_partOf_24 rfl (lv_at hl 0 rfl) ?_
        refine va_get (ci := 2) (v := .ref (a 11)) (C := R_T) (T := F_T) (N := 12) hx hb hts i_T hown hK.1 hP 0 rfl rfl 0 (by decide) (hts _ wd_38) (fun _ h9 => h9) rfl d_T_partOf_25 ?_
        refine lv_iload_n hx hb d_T_partOf_28 rfl (lv_at hl 1 rfl) ?_
        obtain ⟨hi, h⟩ := gd h
        refine va_iald hx hb hK.1 hP 1 0 rfl rfl hi d_T_partOf_29 ?_
        refine lv_iconst (v := 1) hx hb d_T_partOf_30 (by decide) ?_
        refine lv_icmp_ne (tgt := 36) hx hb d_T_partOf_31 (by decide) (fun hc => ?_) (fun hc => ?_)
        · rw [if_neg hc] at h
          refine lv_aload_n hx hb d_T_partOf_36 rfl (lv_at hl 0 rfl) ?_
          refine va_get (ci := 2) (v := .ref (a 16)) (C := R_T) (T := F_T) (N := 12) hx hb hts i_T hown hK.1 hP 0 rfl rfl 5 (by decide) (hts _ wd_43) (fun _ h9 => h9) rfl d_T_partOf_37 ?_
          refine lv_iload_n hx hb d_T_partOf_40 rfl (lv_at hl 1 rfl) ?_
          obtain ⟨hi, h⟩ := gd h
          refine va_iald hx hb hK.1 hP 6 0 rfl rfl hi d_T_partOf_41 ?_
          refine lv_iload_n hx hb d_T_partOf_42 rfl (lv_at hl 2 rfl) ?_
          refine lv_iadd hx hb d_T_partOf_43 ?_
          refine lv_istore_n (lv' := [(3, .int (((T_partStarts σ) x1.toNatClampNeg) + x2)), (0, .ref (a 10)), (1, .int x1), (2, .int x2)]) hx hb d_T_partOf_44 rfl hl (by decide) rfl (fun ls hl => ?_)
          refine lv_iload_n hx hb d_T_partOf_45 rfl (lv_at hl 0 rfl) ?_
          refine lv_if_lt (tgt := 75) hx hb d_T_partOf_46 (by decide) (fun hc => ?_) (fun hc => ?_)
          · rw [if_pos hc] at h
            refine lv_iconst (v := (-1)) hx hb d_T_partOf_75 (by decide) ?_
            exact ro_ret C0 (Option.some.inj h) d_T_partOf_76
          · rw [if_neg hc] at h
            refine lv_iload_n hx hb d_T_partOf_49 rfl (lv_at hl 0 rfl) ?_
            refine lv_aload_n hx hb d_T_partOf_50 rfl (lv_at hl 1 rfl) ?_
            refine va_get (ci := 2) (v := .int (T_partsUsed σ)) (C := R_T) (T := F_T) (N := 12) hx hb hts i_T hown hK.1 hP 0 rfl rfl 8 (by decide) (hts _ wd_62) (fun _ h9 => h9) rfl d_T_partOf_51 ?_
            refine lv_icmp_ge (tgt := 75) hx hb d_T_partOf_54 (by decide) (fun hc => ?_) (fun hc => ?_)
            · rw [if_pos hc] at h
              refine lv_iconst (v := (-1)) hx hb d_T_partOf_75 (by decide) ?_
              exact ro_ret C0 (Option.some.inj h) d_T_partOf_76
            · rw [if_neg hc] at h
              refine lv_iload_n hx hb d_T_partOf_57 rfl (lv_at hl 0 rfl) ?_
              refine lv_aload_n hx hb d_T_partOf_58 rfl (lv_at hl 1 rfl) ?_
              refine va_get (ci := 2) (v := .ref q) (C := R_T) (T := F_T) (N := 12) hx hb hts i_T hown hK.1 hP 0 rfl rfl 7 (by decide) (hts _ wd_101) (fun _ h9 => h9) rfl d_T_partOf_59 ?_
              refine va_alen hx hb hK.1 hP 8 0 rfl rfl rfl d_T_partOf_62 ?_
              refine lv_icmp_ge (tgt := 75) hx hb d_T_partOf_63 (by decide) (fun hc => ?_) (fun hc => ?_)
              · rw [if_pos hc] at h
                refine lv_iconst (v := (-1)) hx hb d_T_partOf_75 (by decide) ?_
                exact ro_ret C0 (Option.some.inj h) d_T_partOf_76
              · rw [if_neg hc] at h
                refine lv_aload_n hx hb d_T_partOf_66 rfl (lv_at hl 1 rfl) ?_
                refine va_get (ci := 2) (v := .ref q) (C := R_T) (T := F_T) (N := 12) hx hb hts i_T hown hK.1 hP 0 rfl rfl 7 (by decide) (hts _ wd_101) (fun _ h9 => h9) rfl d_T_partOf_67 ?_
                refine lv_iload_n hx hb d_T_partOf_70 rfl (lv_at hl 0 rfl) ?_
                obtain ⟨hi, h⟩ := gd h
                refine va_iald hx hb hK.1 hP 8 0 rfl rfl hi d_T_partOf_71 ?_
                refine lv_goto (tgt := 76) hx hb d_T_partOf_72 (by decide) ?_
                exact ro_ret C0 (Option.some.inj h) d_T_partOf_76
        · rw [if_pos hc] at h
          refine lv_iload_n hx hb d_T_partOf_34 rfl (lv_at hl 1 rfl) ?_
          exact ro_ret C0 (Option.some.inj h) d_T_partOf_35
      · rw [if_neg hc] at h
        refine lv_iconst (v := (-1)) hx hb d_T_partOf_22 (by decide) ?_
        exact ro_ret C0 (Option.some.inj h) d_T_partOf_23
set_option maxHeartbeats 4000000 in
set_option maxRecDepth 100000 in
theorem c_T_partOf (l : Launch) (D : va_G) (cI cZ : ClassId) (a : Nat → Nat) (q : Nat) (σ : StT) (x1 : Int32) (x2 : Int32) {val : Int32} (h : f_T_partOf σ x1 x2 = some val) : RoM l y_T_partOf b_T_partOf 4 (some .int) 1 21 D [(cI, .int), (cZ, .boolean)] [.ref (a 10), .int x1, .int x2] (wT cI cZ a q σ) val :=
  ro_of (by decide) (Nat.le_of_ble_eq_true rfl) (fun p e s m args below meth c ls C0 hP hl => t_T_partOf_0 (a := a) C0 hP h (lv_sub hl [0, 1, 2] rfl))
