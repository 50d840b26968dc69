def f_M_isClass (σ : StM) (x1 : Int32) : Int32 :=
  if x1 < 0 then
    0
  else
    if (M_classes σ) ≤ x1 then
      0
    else
      1
set_option maxHeartbeats 4000000 in
set_option maxRecDepth 100000 in
theorem t_M_isClass_0 {p : Program} {l : Launch} {e : Env} {s : State} {m : MethodId} {args : Array Value} {below : List Frame} {meth : Method} {c : Code} {D : va_G} {cI cZ : ClassId} {a : Nat → Nat} {q : Nat} {σ : StM} (C0 : Am p s m args meth c b_M_isClass (some .boolean) 2 R_M D [(cI, .int), (cZ, .boolean)]) (hP : va_P D vwCl (wM cI cZ a q σ) s.heap) {val : Int32}   {x1 : Int32} (h : f_M_isClass σ x1 = val) {ls : Array Slot} (hl : lv_has ls 2 [(0, .ref (a 20)), (1, .int x1)]) : RoW p l e (rmK 0 0 0 0) s m args below meth c val (F0 m 0 ls []) := by
  obtain ⟨hx, hb, hr, hml, hown, hts, hlk, hK⟩ := id C0
  unfold f_M_isClass at h
  refine lv_iload_n hx hb d_M_isClass_0 rfl (lv_at hl 1 rfl) ?_
  refine lv_if_lt (tgt := 16) hx hb d_M_isClass_1 (by decide) (fun hc => ?_) (fun hc => ?_)
  · rw [if_pos hc] at h
    refine lv_iconst (v := 0) hx hb d_M_isClass_16 (by decide) ?_
    exact ro_retz C0 (by decide) h d_M_isClass_17
  · rw [if_neg hc] at h
    refine lv_iload_n hx hb d_M_isClass_4 rfl (lv_at hl 1 rfl) ?_
    refine lv_aload_n hx hb d_M_isClass_5 rfl (lv_at hl 0 rfl) ?_
    refine va_get (ci := 4) (v := .int (M_classes σ)) (C := R_M) (T := F_M) (N := 35) hx hb hts i_M hown hK.1 hP 0 rfl rfl 2 (by decide) (hts _ wd_343) (fun _ h9 => h9) rfl d_M_isClass_6 ?_
    refine lv_icmp_ge (tgt := 16) hx hb d_M_isClass_9 (by decide) (fun hc => ?_) (fun hc => ?_)
    · rw [if_pos hc] at h
      refine lv_iconst (v := 0) hx hb d_M_isClass_16 (by decide) ?_
      exact ro_retz C0 (by decide) h d_M_isClass_17
    · rw [if_neg hc] at h
      refine lv_iconst (v := 1) hx hb d_M_isClass_12 (by decide) ?_
      refine lv_goto (tgt := 17) hx hb d_M_isClass_13 (by decide) ?_
      exact ro_retz C0 (by decide) h d_M_isClass_17
set_option maxHeartbeats 4000000 in
set_option maxRecDepth 100000 in
theorem c_M_isClass (l : Launch) (D : va_G) (cI cZ : ClassId) (a : Nat → Nat) (q : Nat) (σ : StM) (x1 : Int32) {val : Int32} (h : f_M_isClass σ x1 = val) : RoM l y_M_isClass b_M_isClass 2 (some .boolean) 0 0 D [(cI, .int), (cZ, .boolean)] [.ref (a 20), .int x1] (wM cI cZ a q σ) val :=
  ro_of (by decide) (Nat.le_of_ble_eq_true rfl) (fun p e s m args below meth c ls C0 hP hl => t_M_isClass_0 (a := a) C0 hP h (lv_sub hl [0, 1] rfl))
