def f_T_elementOf (σ : StT) (x1 : Int32) : Option Int32 :=
  if (f_T_isThere σ x1) = 0 then
    some (-1)
  else
    if x1 < 0 ∨ 300 ≤ x1.toNatClampNeg then none else
    some ((T_elements σ) x1.toNatClampNeg)
set_option maxHeartbeats 4000000 in
set_option maxRecDepth 100000 in
theorem t_T_elementOf_0 {p : Program} {l : Launch} {e : Env} {s : State} {m : MethodId} {args : Array Value} {below : List Frame} {meth : Method} {c : Code} {D : va_G} {cI cZ : ClassId} {a : Nat → Nat} {q : Nat} {σ : StT} (C0 : Am p s m args meth c b_T_elementOf (some .int) 2 R_T D [(cI, .int), (cZ, .boolean)]) (hP : va_P D vwCl (wT cI cZ a q σ) s.heap) {val : Int32}   {x1 : Int32} (h : f_T_elementOf σ x1 = some val) {ls : Array Slot} (hl : lv_has ls 2 [(0, .ref (a 10)), (1, .int x1)]) : RoW p l e (rmK 1 21 0 0) s m args below meth c val (F0 m 0 ls []) := by
  obtain ⟨hx, hb, hr, hml, hown, hts, hlk, hK⟩ := id C0
  unfold f_T_elementOf at h
  refine lv_aload_n hx hb d_T_elementOf_0 rfl (lv_at hl 0 rfl) ?_
  refine lv_iload_n hx hb d_T_elementOf_1 rfl (lv_at hl 1 rfl) ?_
  refine ro_V (n := 1) (ci := 2) (As := [.int x1]) (rest := []) C0 (c_T_isThere l D cI cZ a q σ x1 rfl) wd_45 ⟨wd_46, wd_47, wd_48, wd_49⟩ (by decide +kernel) ⟨Nat.le_of_ble_eq_true rfl, Nat.le_of_ble_eq_true rfl⟩ hP rfl rfl rfl hl rfl rfl (Nat.le_of_ble_eq_true rfl) ⟨Nat.zero_le _, Nat.zero_le _⟩ d_T_elementOf_2 ?_
  refine lv_if_eq (tgt := 17) hx hb d_T_elementOf_5 (by decide) (fun hc => ?_) (fun hc => ?_)
  · rw [if_pos hc] at h
    refine lv_iconst (v := (-1)) hx hb d_T_elementOf_17 (by decide) ?_
    exact ro_ret C0 (Option.some.inj h) d_T_elementOf_18
  · rw [if_neg hc] at h
    refine lv_aload_n hx hb d_T_elementOf_8 rfl (lv_at hl 0 rfl) ?_
    refine va_get (ci := 2) (v := .ref (a 14)) (C := R_T) (T := F_T) (N := 12) hx hb hts i_T hown hK.1 hP 0 rfl rfl 3 (by decide) (hts _ wd_41) (fun _ h9 => h9) rfl d_T_elementOf_9 ?_
    refine lv_iload_n hx hb d_T_elementOf_12 rfl (lv_at hl 1 rfl) ?_
    obtain ⟨hi, h⟩ := gd h
    refine va_iald hx hb hK.1 hP 4 0 rfl rfl hi d_T_elementOf_13 ?_
    refine lv_goto (tgt := 18) hx hb d_T_elementOf_14 (by decide) ?_
    exact ro_ret C0 (Option.some.inj h) d_T_elementOf_18
set_option maxHeartbeats 4000000 in
set_option maxRecDepth 100000 in
theorem c_T_elementOf (l : Launch) (D : va_G) (cI cZ : ClassId) (a : Nat → Nat) (q : Nat) (σ : StT) (x1 : Int32) {val : Int32} (h : f_T_elementOf σ x1 = some val) : RoM l y_T_elementOf b_T_elementOf 2 (some .int) 1 21 D [(cI, .int), (cZ, .boolean)] [.ref (a 10), .int x1] (wT cI cZ a q σ) val :=
  ro_of (by decide) (Nat.le_of_ble_eq_true rfl) (fun p e s m args below meth c ls C0 hP hl => t_T_elementOf_0 (a := a) C0 hP h (lv_sub hl [0, 1] rfl))
