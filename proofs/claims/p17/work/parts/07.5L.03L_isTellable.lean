def f_L_isTellable (σ : StL) (x1 x2 : Int32) : Option Int32 :=
  (f_C_isGeneric (L_classes σ) x1).bind fun r1 =>
  if r1 = 0 then
    if x2 = (-1) then
      some 1
    else
      some 0
  else
    if x2 = (-2) then
      (f_C_isGeneric (L_classes σ) (f_C_newest (L_classes σ))).bind fun r3 =>
      some (r3 &&& 1)
    else
      if x2 < 0 then
        some 0
      else
        (f_T_kindOf (L_types σ) x2).bind fun r2 =>
        if r2 = 0 then
          some 0
        else
          some 1
set_option maxHeartbeats 4000000 in
set_option maxRecDepth 100000 in
theorem t_L_isTellable_0 {p : Program} {l : Launch} {e : Env} {s : State} {m : MethodId} {args : Array Value} {below : List Frame} {meth : Method} {c : Code} {D : va_G} {cI cZ : ClassId} {a : Nat → Nat} {q : Nat} {σ : StL} (C0 : Am p s m args meth c b_L_isTellable (some .boolean) 3 R_L D [(cI, .int), (cZ, .boolean)]) (hP : va_P D vwCl (wL cI cZ a q σ) s.heap) {val : Int32}   {x1 x2 : Int32} (h : f_L_isTellable σ x1 x2 = some val) {ls : Array Slot} (hl : lv_has ls 3 [(0, .ref (a 0)), (1, .int x1), (2, .int x2)]) : RoW p l e (rmK 2 42 0 0) s m args below meth c val (F0 m 0 ls []) := by
  obtain ⟨hx, hb, hr, hml, hown, hts, hlk, hK⟩ := id C0
  unfold f_L_isTellable at h
  refine lv_aload_n hx hb d_L_isTellable_0 rfl (lv_at hl 0 rfl) ?_
  refine va_get (ci := 0) (v := .ref (a 3)) (C := R_L) (T := F_L) (N := 6) hx hb hts i_L hown hK.1 hP 0 rfl rfl 1 (by decide) (hts _ wd_67) (fun _ h9 => h9) rfl d_L_isTellable_1 ?_
  refine lv_iload_n hx hb d_L_isTellable_4 rfl (lv_at hl 1 rfl) ?_
  replace h := bd h
  obtain ⟨r1, g1, h⟩ := h
  refine ro_V (n := 1) (ci := 1) (As := [.int x1]) (rest := []) C0 (c_C_isGeneric l D cI cZ a q (L_classes σ) x1 g1) wd_95 ⟨wd_96, wd_97, wd_98, wd_8⟩ (by decide +kernel) ⟨Nat.le_of_ble_eq_true rfl, Nat.le_of_ble_eq_true rfl⟩ (hP.pick [3, 4, 5, 6, 7, 8, 9] rfl) rfl rfl rfl hl rfl rfl (Nat.le_of_ble_eq_true rfl) ⟨Nat.zero_le _, Nat.zero_le _⟩ d_L_isTellable_5 ?_
  try dsimp only at h
  refine lv_if_ne (tgt := 22) hx hb d_L_isTellable_8 (by decide) (fun hc => ?_) (fun hc => ?_)
  · rw [if_neg hc] at h
    refine lv_iload_n hx hb d_L_isTellable_22 rfl (lv_at hl 2 rfl) ?_
    refine lv_bipush (v := (-2)) hx hb d_L_isTellable_23 (by decide) ?_
    refine lv_icmp_ne (tgt := 43) hx hb d_L_isTellable_25 (by decide) (fun hc => ?_) (fun hc => ?_)
    · rw [if_neg hc] at h
      refine lv_iload_n hx hb d_L_isTellable_43 rfl (lv_at hl 2 rfl) ?_
      refine lv_if_lt (tgt := 62) hx hb d_L_isTellable_44 (by decide) (fun hc => ?_) (fun hc => ?_)
      · rw [if_pos hc] at h
        refine lv_iconst (v := 0) hx hb d_L_isTellable_62 (by decide) ?_
        exact ro_retz C0 (by decide) (Option.some.inj h) d_L_isTellable_63
      · rw [if_neg hc] at h
        refine lv_aload_n hx hb d_L_isTellable_47 rfl (lv_at hl 0 rfl) ?_
        refine va_get (ci := 0) (v := .ref (a 10)) (C := R_L) (T := F_L) (N := 6) hx hb hts i_L hown hK.1 hP 0 rfl rfl 2 (by decide) (hts _ wd_85) (fun _ h9 => h9) rfl d_L_isTellable_48 ?_
        refine lv_iload_n hx hb d_L_isTellable_51 rfl (lv_at hl 2 rfl) ?_
        replace h := bd h
        obtain ⟨r2, g2, h⟩ := h
        refine ro_V (n := 1) (ci := 2) (As := [.int x2]) (rest := []) C0 (c_T_kindOf l D cI cZ a q (L_types σ) x2 g2) wd_99 ⟨wd_100, wd_101, wd_102, wd_52⟩ (by decide +kernel) ⟨Nat.le_of_ble_eq_true rfl, Nat.le_of_ble_eq_true rfl⟩ (hP.pick [10, 11, 12, 13, 14, 15, 16, 17, 18] rfl) rfl rfl rfl hl rfl rfl (Nat.le_of_ble_eq_true rfl) ⟨Nat.zero_le _, Nat.zero_le _⟩ d_L_isTellable_52 ?_
        try dsimp only at h
        refine lv_if_eq (tgt := 62) hx hb d_L_isTellable_55 (by decide) (fun hc => ?_) (fun hc => ?_)
        · rw [if_pos hc] at h
          refine lv_iconst (v := 0) hx hb d_L_isTellable_62 (by decide) ?_
          exact ro_retz C0 (by decide) (Option.some.inj h) d_L_isTellable_63
        · rw [if_neg hc] at h
          refine lv_iconst (v := 1) hx hb d_L_isTellable_58 (by decide) ?_
          refine lv_goto (tgt := 63) hx hb d_L_isTellable_59 (by decide) ?_
          exact ro_retz C0 (by decide) (Option.some.inj h) d_L_isTellable_63
    · rw [if_pos hc] at h
      refine lv_aload_n hx hb d_L_isTellable_28 rfl (lv_at hl 0 rfl) ?_
      refine va_get (ci := 0) (v := .ref (a 3)) (C := R_L) (T := F_L) (N := 6) hx hb hts i_L hown hK.1 hP 0 rfl rfl 1 (by decide) (hts _ wd_67) (fun _ h9 => h9) rfl d_L_isTellable_29 ?_
      refine lv_aload_n hx hb d_L_isTellable_32 rfl (lv_at hl 0 rfl) ?_
      refine va_get (ci := 0) (v := .ref (a 3)) (C := R_L) (T := F_L) (N := 6) hx hb hts i_L hown hK.1 hP 0 rfl rfl 1 (by decide) (hts _ wd_67) (fun _ h9 => h9) rfl d_L_isTellable_33 ?_
      refine ro_V (n := 0) (ci := 1) (As := []) (rest := [.ref (a 3)]) C0 (c_C_newest l D cI cZ a q (L_classes σ) rfl) wd_103 ⟨wd_29, wd_30, wd_31, wd_8⟩ (by decide +kernel) ⟨Nat.le_of_ble_eq_true rfl, Nat.le_of_ble_eq_true rfl⟩ (hP.pick [3, 4, 5, 6, 7, 8, 9] rfl) rfl rfl rfl hl rfl rfl (Nat.le_of_ble_eq_true rfl) ⟨Nat.zero_le _, Nat.zero_le _⟩ d_L_isTellable_36 ?_
      replace h := bd h
      obtain ⟨r3, g3, h⟩ := h
      refine ro_V (n := 1) (ci := 1) (As := [.int (f_C_newest (L_classes σ))]) (rest := []) C0 (c_C_isGeneric l D cI cZ a q (L_classes σ) (f_C_newest (L_classes σ)) g3) wd_95 ⟨wd_96, wd_97, wd_98, wd_8⟩ (by decide +kernel) ⟨Nat.le_of_ble_eq_true rfl, Nat.le_of_ble_eq_true rfl⟩ (hP.pick [3, 4, 5, 6, 7, 8, 9] rfl) rfl rfl rfl hl rfl rfl (Nat.le_of_ble_eq_true rfl) ⟨Nat.zero_le _, Nat.zero_le _⟩ d_L_isTellable_39 ?_
      try dsimp only at h
      exact ro_retz C0 rfl (Option.some.inj h) d_L_isTellable_42
  · rw [if_pos hc] at h
    refine lv_iload_n hx hb d_L_isTellable_11 rfl (lv_at hl 2 rfl) ?_
    refine lv_iconst (v := (-1)) hx hb d_L_isTellable_12 (by decide) ?_
    refine lv_icmp_ne (tgt := 20) hx hb d_L_isTellable_13 (by decide) (fun hc => ?_) (fun hc => ?_)
    · rw [if_neg hc] at h
      refine lv_iconst (v := 0) hx hb d_L_isTellable_20 (by decide) ?_
      exact ro_retz C0 (by decide) (Option.some.inj h) d_L_isTellable_21
    · rw [if_pos hc] at h
      refine lv_iconst (v := 1) hx hb d_L_isTellable_16 (by decide) ?_
      refine lv_goto (tgt := 21) hx hb d_L_isTellable_17 (by decide) ?_
      exact ro_retz C0 (by decide) (Option.some.inj h) d_L_isTellable_21
set_option maxHeartbeats 4000000 in
set_option maxRecDepth 100000 in
theorem c_L_isTellable (l : Launch) (D : va_G) (cI cZ : ClassId) (a : Nat → Nat) (q : Nat) (σ : StL) (x1 : Int32) (x2 : Int32) {val : Int32} (h : f_L_isTellable σ x1 x2 = some val) : RoM l y_L_isTellable b_L_isTellable 3 (some .boolean) 2 42 D [(cI, .int), (cZ, .boolean)] [.ref (a 0), .int x1, .int x2] (wL cI cZ a q σ) val :=
  ro_of (by decide) (Nat.le_of_ble_eq_true rfl) (fun p e s m args below meth c ls C0 hP hl => t_L_isTellable_0 (a := a) C0 hP h (lv_sub hl [0, 1, 2] rfl))
