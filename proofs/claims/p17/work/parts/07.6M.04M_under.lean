def f_M_under (σ : StM) (x1 x2 : Int32) : Option Int32 :=
  if x1 < 0 ∨ 30 ≤ x1.toNatClampNeg then none else
  if ((((M_over σ) x1.toNatClampNeg) >>> (x2 &&& 31)) &&& 1) = 1 then
    some 1
  else
    some 0
set_option maxHeartbeats 4000000 in
set_option maxRecDepth 100000 in
theorem t_M_under_0 {p : Program} {l : Launch} {e : Env} {s : State} {m : MethodId} {args : Array Value} {below : List Frame} {meth : Method} {c : Code} {D : va_G} {cI cZ : ClassId} {a : Nat → Nat} {q : Nat} {σ : StM} (C0 : Am p s m args meth c b_M_under (some .boolean) 3 R_M D [(cI, .int), (cZ, .boolean)]) (hP : va_P D vwCl (wM cI cZ a q σ) s.heap) {val : Int32}   {x1 x2 : Int32} (h : f_M_under σ x1 x2 = some val) {ls : Array Slot} (hl : lv_has ls 3 [(0, .ref (a 20)), (1, .int x1), (2, .int x2)]) : RoW p l e (rmK 0 0 0 0) s m args below meth c val (F0 m 0 ls []) := by
  obtain ⟨hx, hb, hr, hml, hown, hts, hlk, hK⟩ := id C0
  unfold f_M_under at h
  refine lv_aload_n hx hb d_M_under_0 rfl (lv_at hl 0 rfl) ?_
  refine va_get (ci := 4) (v := .ref (a 26)) (C := R_M) (T := F_M) (N := 35) hx hb hts i_M hown hK.1 hP 0 rfl rfl 9 (by decide) (hts _ wd_341) (fun _ h9 => h9) rfl d_M_under_1 ?_
  refine lv_iload_n hx hb d_M_under_4 rfl (lv_at hl 1 rfl) ?_
  replace h := gd h
  obtain ⟨hi, h⟩ := h
  refine va_iald hx hb hK.1 hP 6 0 rfl rfl hi d_M_under_5 ?_
  refine lv_iload_n hx hb d_M_under_6 rfl (lv_at hl 2 rfl) ?_
  refine lv_ishr hx hb d_M_under_7 ?_
  refine lv_iconst (v := 1) hx hb d_M_under_8 (by decide) ?_
  refine lv_iand hx hb d_M_under_9 ?_
  refine lv_iconst (v := 1) hx hb d_M_under_10 (by decide) ?_
  refine lv_icmp_ne (tgt := 18) hx hb d_M_under_11 (by decide) (fun hc => ?_) (fun hc => ?_)
  · rw [if_neg hc] at h
    refine lv_iconst (v := 0) hx hb d_M_under_18 (by decide) ?_
    exact ro_retz C0 (by decide) (Option.some.inj h) d_M_under_19
  · rw [if_pos hc] at h
    refine lv_iconst (v := 1) hx hb d_M_under_14 (by decide) ?_
    refine lv_goto (tgt := 19) hx hb d_M_under_15 (by decide) ?_
    exact ro_retz C0 (by decide) (Option.some.inj h) d_M_under_19
set_option maxHeartbeats 4000000 in
set_option maxRecDepth 100000 in
theorem c_M_under (l : Launch) (D : va_G) (cI cZ : ClassId) (a : Nat → Nat) (q : Nat) (σ : StM) (x1 : Int32) (x2 : Int32) {val : Int32} (h : f_M_under σ x1 x2 = some val) : RoM l y_M_under b_M_under 3 (some .boolean) 0 0 D [(cI, .int), (cZ, .boolean)] [.ref (a 20), .int x1, .int x2] (wM cI cZ a q σ) val :=
  ro_of (by decide) (Nat.le_of_ble_eq_true rfl) (fun p e s m args below meth c ls C0 hP hl => t_M_under_0 (a := a) C0 hP h (lv_sub hl [0, 1, 2] rfl))
