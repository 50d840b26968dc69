def f_M_thrown (σ : StM) : Int32 :=
  (M_code σ)
set_option maxHeartbeats 4000000 in
set_option maxRecDepth 100000 in
theorem t_M_thrown_0 {p : Program} {l : Launch} {e : Env} {s : State} {m : MethodId} {args : Array Value} {below : List Frame} {meth : Method} {c : Code} {D : va_G} {cI cZ : ClassId} {a : Nat → Nat} {q : Nat} {σ : StM} (C0 : Am p s m args meth c b_M_thrown (some .int) 1 R_M D [(cI, .int), (cZ, .boolean)]) (hP : va_P D vwCl (wM cI cZ a q σ) s.heap) {val : Int32}   (h : f_M_thrown σ = val) {ls : Array Slot} (hl : lv_has ls 1 [(0, .ref (a 20))]) : RoW p l e (rmK 0 0 0 0) s m args below meth c val (F0 m 0 ls []) := by
  obtain ⟨hx, hb, hr, hml, hown, hts, hlk, hK⟩ := id C0
  unfold f_M_thrown at h
  refine lv_aload_n hx hb d_M_thrown_0 rfl (lv_at hl 0 rfl) ?_
  refine va_get (ci := 4) (v := .int (M_code σ)) (C := R_M) (T := F_M) (N := 35) hx hb hts i_M hown hK.1 hP 0 rfl rfl 0 (by decide) (hts _ wd_342) (fun _ h9 => h9) rfl d_M_thrown_1 ?_
  exact ro_ret C0 h d_M_thrown_4
set_option maxHeartbeats 4000000 in
set_option maxRecDepth 100000 in
theorem c_M_thrown (l : Launch) (D : va_G) (cI cZ : ClassId) (a : Nat → Nat) (q : Nat) (σ : StM) {val : Int32} (h : f_M_thrown σ = val) : RoM l y_M_thrown b_M_thrown 1 (some .int) 0 0 D [(cI, .int), (cZ, .boolean)] [.ref (a 20)] (wM cI cZ a q σ) val :=
  ro_of (by decide) (Nat.le_of_ble_eq_true rfl) (fun p e s m args below meth c ls C0 hP hl => t_M_thrown_0 (a := a) C0 hP h (lv_sub hl [0] rfl))
