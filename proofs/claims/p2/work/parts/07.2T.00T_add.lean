def f_T_add (σ : StT) (x1 x2 : Int32) : Option (Int32 × StT) :=
  if 300 ≤ (T_count σ) then
    some ((-1), σ)
  else
    if x2 ≤ 100 then
      if (T_count σ) < 0 ∨ 300 ≤ (T_count σ).toNatClampNeg then none else
      if (T_count σ) < 0 ∨ 300 ≤ (T_count σ).toNatClampNeg then none else
      if (T_count σ) < 0 ∨ 300 ≤ (T_count σ).toNatClampNeg then none else
      if (T_count σ) < 0 ∨ 300 ≤ (T_count σ).toNatClampNeg then none else
      if (T_count σ) < 0 ∨ 300 ≤ (T_count σ).toNatClampNeg then none else
      if (T_count σ) < 0 ∨ 300 ≤ (T_count σ).toNatClampNeg then none else
      if (T_count σ) < 0 ∨ 300 ≤ (T_count σ).toNatClampNeg then none else
      some ((T_count σ), (T_put_partCounts (T_put_partStarts (T_put_sizes (T_put_elements (T_put_arguments (T_put_named (T_put_kinds (T_set_count σ ((T_count σ) + 1)) (T_count σ) x1) (T_count σ) (-1)) (T_count σ) 0) (T_count σ) (-1)) (T_count σ) x2) (T_count σ) 0) (T_count σ) 0))
    else
      some ((-1), σ)
set_option maxHeartbeats 4000000 in
set_option maxRecDepth 100000 in
theorem t_T_add_0 {p : Program} {l : Launch} {e : Env} {s : State} {m : MethodId} {args : Array Value} {below : List Frame} {meth : Method} {c : Code} {D : va_G} {cI cZ : ClassId} {a : Nat → Nat} {A : Nat → Prop} (C0 : Am p s m args meth c b_T_add (some .int) 4 R_T D [(cI, .int), (cZ, .boolean)]) (hA : ∀ q, s.heap.size ≤ q → A q) {res : Int32 × StT}   {q : Nat} {σ : StT} {x1 x2 : Int32} (h : f_T_add σ x1 x2 = some res) {H : Heap} {locs : List Loc} (hP : va_P D vwCl (wT cI cZ a q σ) H) (hD : va_D A (wT cI cZ a q σ)) (hS : va_S A s.heap H locs) {ls : Array Slot} (hl : lv_has ls 4 [(0, .ref (a 10)), (1, .int x1), (2, .int x2)]) : W p l e (rmK 0 0 0 0) s m args below meth c H locs 0 0 (RwQ below args s D A (fun q (σ : StT) => (wT cI cZ a q σ)) res 0 0) (F0 m 0 ls []) := by
  obtain ⟨hx, hb, hr, hml, hown, hts, hlk, hK⟩ := id C0
  unfold f_T_add at h
  refine lv_aload_n hx hb d_T_add_0 rfl (lv_at hl 0 rfl) ?_
  refine va_get (ci := 2) (v := .int (T_count σ)) (C := R_T) (T := F_T) (N := 12) hx hb hts i_T hown hK.1 hP 0 rfl rfl 9 (by decide) (hts _ wd_37) (fun _ h9 => h9) rfl d_T_add_1 ?_
  refine lv_sipush (v := 300) hx hb d_T_add_4 (by decide) ?_
  refine lv_icmp_ge (tgt := 16) hx hb d_T_add_7 (by decide) (fun hc => ?_) (fun hc => ?_)
  · rw [if_pos hc] at h
    refine lv_iconst (v := (-1)) hx hb d_T_add_16 (by decide) ?_
    exact rw_ret C0 hP hD hS (Option.some.inj h) d_T_add_17
  · rw [if_neg hc] at h
    refine lv_iload_n hx hb d_T_add_10 rfl (lv_at hl 2 rfl) ?_
    refine lv_bipush (v := 100) hx hb d_T_add_11 (by decide) ?_
    refine lv_icmp_le (tgt := 18) hx hb d_T_add_13 (by decide) (fun hc => ?_) (fun hc => ?_)
    · rw [if_pos hc] at h
      refine lv_aload_n hx hb d_T_add_18 rfl (lv_at hl 0 rfl) ?_
      refine va_get (ci := 2) (v := .int (T_count σ)) (C := R_T) (T := F_T) (N := 12) hx hb hts i_T hown hK.1 hP 0 rfl rfl 9 (by decide) (hts _ wd_37) (fun _ h9 => h9) rfl d_T_add_19 ?_
      refine lv_istore_n (lv' := [(3, .int (T_count σ)), (0, .ref (a 10)), (1, .int x1), (2, .int x2)]) hx hb d_T_add_22 rfl hl (by decide) rfl (fun ls hl => ?_)
      refine lv_aload_n hx hb d_T_add_23 rfl (lv_at hl 1 rfl) ?_
      refine lv_dup hx hb d_T_add_24 rfl ?_
      refine va_get (ci := 2) (v := .int (T_count σ)) (C := R_T) (T := F_T) (N := 12) hx hb hts i_T hown hK.1 hP 0 rfl rfl 9 (by decide) (hts _ wd_37) (fun _ h9 => h9) rfl d_T_add_25 ?_
      refine lv_iconst (v := 1) hx hb d_T_add_28 (by decide) ?_
      refine lv_iadd hx hb d_T_add_29 ?_
      refine rw_put (v := .int ((T_count σ) + 1)) (fty := .int) (C := R_T) (T := F_T) (N := 12) C0 hP hD hS i_T ty_T tyok_T nn_T 0 rfl rfl 9 (by decide) (hts _ wd_37) rfl rfl (by decide +kernel) rfl rfl (Nat.le_of_ble_eq_true rfl) d_T_add_30 (Wn := (wT cI cZ a q (T_set_count σ ((T_count σ) + 1)))) ws_T_set_count (fun H locs hP hD hS => ?_)
      refine lv_aload_n hx hb d_T_add_33 rfl (lv_at hl 1 rfl) ?_
      refine va_get (ci := 2) (v := .ref (a 11)) (C := R_T) (T := F_T) (N := 12) hx hb hts i_T hown hK.1 hP 0 rfl rfl 0 (by decide) (hts _ wd_38) (fun _ h9 => h9) rfl d_T_add_34 ?_
      refine lv_iload_n hx hb d_T_add_37 rfl (lv_at hl 0 rfl) ?_
      refine lv_iload_n hx hb d_T_add_38 rfl (lv_at hl 2 rfl) ?_
      obtain ⟨hi, h⟩ := gd h
      refine rw_iast C0 hP hD hS 1 0 rfl rfl hi d_T_add_39 (Wn := (wT cI cZ a q (T_put_kinds (T_set_count σ ((T_count σ) + 1)) (T_count σ) x1))) ws_T_put_kinds (fun H locs hP hD hS => ?_)
      refine lv_aload_n hx hb d_T_add_40 rfl (lv_at hl 1 rfl) ?_
      refine va_get (ci := 2) (v := .ref (a 12)) (C := R_T) (T := F_T) (N := 12) hx hb hts i_T hown hK.1 hP 0 rfl rfl 1 (by decide) (hts _ wd_39) (fun _ h9 => h9) rfl d_T_add_41 ?_
      refine lv_iload_n hx hb d_T_add_44 rfl (lv_at hl 0 rfl) ?_
      refine lv_iconst (v := (-1)) hx hb d_T_add_45 (by decide) ?_
      obtain ⟨hi, h⟩ := gd h
      refine rw_iast C0 hP hD hS 2 0 rfl rfl hi d_T_add_46 (Wn := (wT cI cZ a q (T_put_named (T_put_kinds (T_set_count σ ((T_count σ) + 1)) (T_count σ) x1) (T_count σ) (-1)))) ws_T_put_named (fun H locs hP hD hS => ?_)
      refine lv_aload_n hx hb d_T_add_47 rfl (lv_at hl 1 rfl) ?_
      refine va_get (ci := 2) (v := .ref (a 13)) (C := R_T) (T := F_T) (N := 12) hx hb hts i_T hown hK.1 hP 0 rfl rfl 2 (by decide) (hts _ wd_40) (fun _ h9 => h9) rfl d_T_add_48 ?_
      refine lv_iload_n hx hb d_T_add_51 rfl (lv_at hl 0 rfl) ?_
      refine lv_iconst (v := 0) hx hb d_T_add_52 (by decide) ?_
      obtain ⟨hi, h⟩ := gd h
      refine rw_iast C0 hP hD hS 3 0 rfl rfl hi d_T_add_53 (Wn := (wT cI cZ a q (T_put_arguments (T_put_named (T_put_kinds (T_set_count σ ((T_count σ) + 1)) (T_count σ) x1) (T_count σ) (-1)) (T_count σ) 0))) ws_T_put_arguments (fun H locs hP hD hS => ?_)
      refine lv_aload_n hx hb d_T_add_54 rfl (lv_at hl 1 rfl) ?_
      refine va_get (ci := 2) (v := .ref (a 14)) (C := R_T) (T := F_T) (N := 12) hx hb hts i_T hown hK.1 hP 0 rfl rfl 3 (by decide) (hts _ wd_41) (fun _ h9 => h9) rfl d_T_add_55 ?_
      refine lv_iload_n hx hb d_T_add_58 rfl (lv_at hl 0 rfl) ?_
      refine lv_iconst (v := (-1)) hx hb d_T_add_59 (by decide) ?_
      obtain ⟨hi, h⟩ := gd h
      refine rw_iast C0 hP hD hS 4 0 rfl rfl hi d_T_add_60 (Wn := (wT cI cZ a q (T_put_elements (T_put_arguments (T_put_named (T_put_kinds (T_set_count σ ((T_count σ) + 1)) (T_count σ) x1) (T_count σ) (-1)) (T_count σ) 0) (T_count σ) (-1)))) ws_T_put_elements (fun H locs hP hD hS => ?_)
      refine lv_aload_n hx hb d_T_add_61 rfl (lv_at hl 1 rfl) ?_
      refine va_get (ci := 2) (v := .ref (a 15)) (C := R_T) (T := F_T) (N := 12) hx hb hts i_T hown hK.1 hP 0 rfl rfl 4 (by decide) (hts _ wd_42) (fun _ h9 => h9) rfl d_T_add_62 ?_
      refine lv_iload_n hx hb d_T_add_65 rfl (lv_at hl 0 rfl) ?_
      refine lv_iload_n hx hb d_T_add_66 rfl (lv_at hl 3 rfl) ?_
      obtain ⟨hi, h⟩ := gd h
      refine rw_iast C0 hP hD hS 5 0 rfl rfl hi d_T_add_67 (Wn := (wT cI cZ a q (T_put_sizes (T_put_elements (T_put_arguments (T_put_named (T_put_kinds (T_set_count σ ((T_count σ) + 1)) (T_count σ) x1) (T_count σ) (-1)) (T_count σ) 0) (T_count σ) (-1)) (T_count σ) x2))) ws_T_put_sizes (fun H locs hP hD hS => ?_)
      refine lv_aload_n hx hb d_T_add_68 rfl (lv_at hl 1 rfl) ?_
      refine va_get (ci := 2) (v := .ref (a 16)) (C := R_T) (T := F_T) (N := 12) hx hb hts i_T hown hK.1 hP 0 rfl rfl 5 (by decide) (hts _ wd_43) (fun _ h9 => h9) rfl d_T_add_69 ?_
      refine lv_iload_n hx hb d_T_add_72 rfl (lv_at hl 0 rfl) ?_
      refine lv_iconst (v := 0) hx hb d_T_add_73 (by decide) ?_
      obtain ⟨hi, h⟩ := gd h
      refine rw_iast C0 hP hD hS 6 0 rfl rfl hi d_T_add_74 (Wn := (wT cI cZ a q (T_put_partStarts (T_put_sizes (T_put_elements (T_put_arguments (T_put_named (T_put_kinds (T_set_count σ ((T_count σ) + 1)) (T_count σ) x1) (T_count σ) (-1)) (T_count σ) 0) (T_count σ) (-1)) (T_count σ) x2) (T_count σ) 0))) ws_T_put_partStarts (fun H locs hP hD hS => ?_)
      refine lv_aload_n hx hb d_T_add_75 rfl (lv_at hl 1 rfl) ?_
      refine va_get (ci := 2) (v := .ref (a 17)) (C := R_T) (T := F_T) (N := 12) hx hb hts i_T hown hK.1 hP 0 rfl rfl 6 (by decide) (hts _ wd_44) (fun _ h9 => h9) rfl d_T_add_76 ?_
      refine lv_iload_n hx hb d_T_add_79 rfl (lv_at hl 0 rfl) ?_
      refine lv_iconst (v := 0) hx hb d_T_add_80 (by decide) ?_
      obtain ⟨hi, h⟩ := gd h
      refine rw_iast C0 hP hD hS 7 0 rfl rfl hi d_T_add_81 (Wn := (wT cI cZ a q (T_put_partCounts (T_put_partStarts (T_put_sizes (T_put_elements (T_put_arguments (T_put_named (T_put_kinds (T_set_count σ ((T_count σ) + 1)) (T_count σ) x1) (T_count σ) (-1)) (T_count σ) 0) (T_count σ) (-1)) (T_count σ) x2) (T_count σ) 0) (T_count σ) 0))) ws_T_put_partCounts (fun H locs hP hD hS => ?_)
      refine lv_iload_n hx hb d_T_add_82 rfl (lv_at hl 0 rfl) ?_
      exact rw_ret C0 hP hD hS (Option.some.inj h) d_T_add_83
    · rw [if_neg hc] at h
      refine lv_iconst (v := (-1)) hx hb d_T_add_16 (by decide) ?_
      exact rw_ret C0 hP hD hS (Option.some.inj h) d_T_add_17
set_option maxHeartbeats 4000000 in
set_option maxRecDepth 100000 in
theorem c_T_add (l : Launch) (D : va_G) (cI cZ : ClassId) (a : Nat → Nat) (q : Nat) (σ : StT) (x1 : Int32) (x2 : Int32) {res : Int32 × StT} (h : f_T_add σ x1 x2 = some res) : RwM l y_T_add b_T_add 4 (some .int) 0 0 D [(cI, .int), (cZ, .boolean)] [.ref (a 10), .int x1, .int x2] (fun q (σ : StT) => (wT cI cZ a q σ)) q σ res :=
  rw_of (by decide) (Nat.le_of_ble_eq_true rfl) (fun p e s m args below meth c ls A C0 hA hP hD hS hl => t_T_add_0 (a := a) C0 hA h hP hD hS (lv_sub hl [0, 1, 2] rfl))
