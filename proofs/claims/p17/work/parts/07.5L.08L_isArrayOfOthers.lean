def f_L_isArrayOfOthers (σ : StL) (x1 : Int32) : Option Int32 :=
  (f_T_kindOf (L_types σ) x1).bind fun r1 =>
  if r1 = 2 then
    (f_T_elementOf (L_types σ) x1).bind fun r2 =>
    (f_T_kindOf (L_types σ) r2).bind fun r3 =>
    if r3 = 0 then
      some 0
    else
      some 1
  else
    some 0
set_option maxHeartbeats 4000000 in
set_option maxRecDepth 100000 in
theorem t_L_isArrayOfOthers_0 {p : Program} {l : Launch} {e : Env} {s : State} {m : MethodId} {args : Array Value} {below : List Frame} {meth : Method} {c : Code} {D : va_G} {cI cZ : ClassId} {a : Nat → Nat} {q : Nat} {σ : StL} (C0 : Am p s m args meth c b_L_isArrayOfOthers (some .boolean) 2 R_L D [(cI, .int), (cZ, .boolean)]) (hP : va_P D vwCl (wL cI cZ a q σ) s.heap) {val : Int32}   {x1 : Int32} (h : f_L_isArrayOfOthers σ x1 = some val) {ls : Array Slot} (hl : lv_has ls 2 [(0, .ref (a 0)), (1, .int x1)]) : RoW p l e (rmK 2 42 0 0) s m args below meth c val (F0 m 0 ls []) := by
  obtain ⟨hx, hb, hr, hml, hown, hts, hlk, hK⟩ := id C0
  unfold f_L_isArrayOfOthers at h
  refine lv_aload_n hx hb d_L_isArrayOfOthers_0 rfl (lv_at hl 0 rfl) ?_
  refine va_get (ci := 0) (v := .ref (a 10)) (C := R_L) (T := F_L) (N := 6) hx hb hts i_L hown hK.1 hP 0 rfl rfl 2 (by decide) (hts _ wd_85) (fun _ h9 => h9) rfl d_L_isArrayOfOthers_1 ?_
  refine lv_iload_n hx hb d_L_isArrayOfOthers_4 rfl (lv_at hl 1 rfl) ?_
  replace h := bd h
  obtain ⟨r1, g1, h⟩ := h
  refine ro_V (n := 1) (ci := 2) (As := [.int x1]) (rest := []) C0 (c_T_kindOf l D cI cZ a q (L_types σ) x1 g1) wd_99 ⟨wd_100, wd_101, wd_102, wd_52⟩ (by decide +kernel) ⟨Nat.le_of_ble_eq_true rfl, Nat.le_of_ble_eq_true rfl⟩ (hP.pick [10, 11, 12, 13, 14, 15, 16, 17, 18] rfl) rfl rfl rfl hl rfl rfl (Nat.le_of_ble_eq_true rfl) ⟨Nat.zero_le _, Nat.zero_le _⟩ d_L_isArrayOfOthers_5 ?_
  try dsimp only at h
  refine lv_iconst (v := 2) hx hb d_L_isArrayOfOthers_8 (by decide) ?_
  refine lv_icmp_ne (tgt := 34) hx hb d_L_isArrayOfOthers_9 (by decide) (fun hc => ?_) (fun hc => ?_)
  · rw [if_neg hc] at h
    refine lv_iconst (v := 0) hx hb d_L_isArrayOfOthers_34 (by decide) ?_
    exact ro_retz C0 (by decide) (Option.some.inj h) d_L_isArrayOfOthers_35
  · rw [if_pos hc] at h
    refine lv_aload_n hx hb d_L_isArrayOfOthers_12 rfl (lv_at hl 0 rfl) ?_
    refine va_get (ci := 0) (v := .ref (a 10)) (C := R_L) (T := F_L) (N := 6) hx hb hts i_L hown hK.1 hP 0 rfl rfl 2 (by decide) (hts _ wd_85) (fun _ h9 => h9) rfl d_L_isArrayOfOthers_13 ?_
    refine lv_aload_n hx hb d_L_isArrayOfOthers_16 rfl (lv_at hl 0 rfl) ?_
    refine va_get (ci := 0) (v := .ref (a 10)) (C := R_L) (T := F_L) (N := 6) hx hb hts i_L hown hK.1 hP 0 rfl rfl 2 (by decide) (hts _ wd_85) (fun _ h9 => h9) rfl d_L_isArrayOfOthers_17 ?_
    refine lv_iload_n hx hb d_L_isArrayOfOthers_20 rfl (lv_at hl 1 rfl) ?_
    replace h := bd h
    obtain ⟨r2, g2, h⟩ := h
    refine ro_V (n := 1) (ci := 2) (As := [.int x1]) (rest := [.ref (a 10)]) C0 (c_T_elementOf l D cI cZ a q (L_types σ) x1 g2) wd_187 ⟨wd_188, wd_189, wd_190, wd_52⟩ (by decide +kernel) ⟨Nat.le_of_ble_eq_true rfl, Nat.le_of_ble_eq_true rfl⟩ (hP.pick [10, 11, 12, 13, 14, 15, 16, 17, 18] rfl) rfl rfl rfl hl rfl rfl (Nat.le_of_ble_eq_true rfl) ⟨Nat.zero_le _, Nat.zero_le _⟩ d_L_isArrayOfOthers_21 ?_
    try dsimp only at h
    replace h := bd h
    obtain ⟨r3, g3, h⟩ := h
    refine ro_V (n := 1) (ci := 2) (As := [.int r2]) (rest := []) C0 (c_T_kindOf l D cI cZ a q (L_types σ) r2 g3) wd_99 ⟨wd_100, wd_101, wd_102, wd_52⟩ (by decide +kernel) ⟨Nat.le_of_ble_eq_true rfl, Nat.le_of_ble_eq_true rfl⟩ (hP.pick [10, 11, 12, 13, 14, 15, 16, 17, 18] rfl) rfl rfl rfl hl rfl rfl (Nat.le_of_ble_eq_true rfl) ⟨Nat.zero_le _, Nat.zero_le _⟩ d_L_isArrayOfOthers_24 ?_
    try dsimp only at h
    refine lv_if_eq (tgt := 34) hx hb d_L_isArrayOfOthers_27 (by decide) (fun hc => ?_) (fun hc => ?_)
    · rw [if_pos hc] at h
      refine lv_iconst (v := 0) hx hb d_L_isArrayOfOthers_34 (by decide) ?_
      exact ro_retz C0 (by decide) (Option.some.inj h) d_L_isArrayOfOthers_35
    · rw [if_neg hc] at h
      refine lv_iconst (v := 1) hx hb d_L_isArrayOfOthers_30 (by decide) ?_
      refine lv_goto (tgt := 35) hx hb d_L_isArrayOfOthers_31 (by decide) ?_
      exact ro_retz C0 (by decide) (Option.some.inj h) d_L_isArrayOfOthers_35
set_option maxHeartbeats 4000000 in
set_option maxRecDepth 100000 in
theorem c_L_isArrayOfOthers (l : Launch) (D : va_G) (cI cZ : ClassId) (a : Nat → Nat) (q : Nat) (σ : StL) (x1 : Int32) {val : Int32} (h : f_L_isArrayOfOthers σ x1 = some val) : RoM l y_L_isArrayOfOthers b_L_isArrayOfOthers 2 (some .boolean) 2 42 D [(cI, .int), (cZ, .boolean)] [.ref (a 0), .int x1] (wL cI cZ a q σ) val :=
  ro_of (by decide) (Nat.le_of_ble_eq_true rfl) (fun p e s m args below meth c ls C0 hP hl => t_L_isArrayOfOthers_0 (a := a) C0 hP h (lv_sub hl [0, 1] rfl))
