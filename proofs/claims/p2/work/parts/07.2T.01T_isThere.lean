def f_T_isThere (σ : StT) (x1 : Int32) : Int32 :=
  if x1 < 0 then
    0
  else
    if (T_count σ) ≤ x1 then
      0
    else
      1
set_option maxHeartbeats 4000000 in
set_option maxRecDepth 100000 in
theorem t_T_isThere_0 {p : Program} {l : Launch} {e : Env} {s : State} {m : MethodId} {args : Array Value} {below : List Frame} {meth : Method} {c : Code} {D : va_G} {cI cZ : ClassId} {a : Nat → Nat} {q : Nat} {σ : StT} (C0 : Am p s m args meth c b_T_isThere (some .boolean) 2 R_T D [(cI, .int), (cZ, .boolean)]) (hP : va_P D vwCl (wT cI cZ a q σ) s.heap) {val : Int32}   {x1 : Int32} (h : f_T_isThere σ x1 = val) {ls : Array Slot} (hl : lv_has ls 2 [(0, .ref (a 10)), (1, .int x1)]) : RoW p l e (rmK 0 0 0 0) s m args below meth c val (F0 m 0 ls []) := by
  obtain ⟨hx, hb, hr, hml, hown, hts, hlk, hK⟩ := id C0
  unfold f_T_isThere at h
  refine lv_iload_n hx hb d_T_isThere_0 rfl (lv_at hl 1 rfl) ?_
  refine lv_if_lt (tgt := 16) hx hb d_T_isThere_1 (by decide) (fun hc => ?_) (fun hc => ?_)
  · rw [if_pos hc] at h
    refine lv_iconst (v := 0) hx hb d_T_isThere_16 (by decide) ?_
    exact ro_retz C0 (by decide) h d_T_isThere_17
  · rw [if_neg hc] at h
    refine lv_iload_n hx hb d_T_isThere_4 rfl (lv_at hl 1 rfl) ?_
    refine lv_aload_n hx hb d_T_isThere_5 rfl (lv_at hl 0 rfl) ?_
    refine va_get (ci := 2) (v := .int (T_count σ)) (C := R_T) (T := F_T) (N := 12) hx hb hts i_T hown hK.1 hP 0 rfl rfl 9 (by decide) (hts _ wd_37) (fun _ h9 => h9) rfl d_T_isThere_6 ?_
    refine lv_icmp_ge (tgt := 16) hx hb d_T_isThere_9 (by decide) (fun hc => ?_) (fun hc => ?_)
    · rw [if_pos hc] at h
      refine lv_iconst (v := 0) hx hb d_T_isThere_16 (by decide) ?_
      exact ro_retz C0 (by decide) h d_T_isThere_17
    · rw [if_neg hc] at h
      refine lv_iconst (v := 1) hx hb d_T_isThere_12 (by decide) ?_
      refine lv_goto (tgt := 17) hx hb d_T_isThere_13 (by decide) ?_
      exact ro_retz C0 (by decide) h d_T_isThere_17
set_option maxHeartbeats 4000000 in
set_option maxRecDepth 100000 in
theorem c_T_isThere (l : Launch) (D : va_G) (cI cZ : ClassId) (a : Nat → Nat) (q : Nat) (σ : StT) (x1 : Int32) {val : Int32} (h : f_T_isThere σ x1 = val) : RoM l y_T_isThere b_T_isThere 2 (some .boolean) 0 0 D [(cI, .int), (cZ, .boolean)] [.ref (a 10), .int x1] (wT cI cZ a q σ) val :=
  ro_of (by decide) (Nat.le_of_ble_eq_true rfl) (fun p e s m args below meth c ls C0 hP hl => t_T_isThere_0 (a := a) C0 hP h (lv_sub hl [0, 1] rfl))
