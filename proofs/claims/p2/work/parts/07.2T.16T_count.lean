def f_T_count (σ : StT) : Int32 :=
  (T_count σ)
set_option maxHeartbeats 4000000 in
set_option maxRecDepth 100000 in
theorem t_T_count_0 {p : Program} {l : Launch} {e : Env} {s : State} {m : MethodId} {args : Array Value} {below : List Frame} {meth : Method} {c : Code} {D : va_G} {cI cZ : ClassId} {a : Nat → Nat} {q : Nat} {σ : StT} (C0 : Am p s m args meth c b_T_count (some .int) 1 R_T D [(cI, .int), (cZ, .boolean)]) (hP : va_P D vwCl (wT cI cZ a q σ) s.heap) {val : Int32}   (h : f_T_count σ = val) {ls : Array Slot} (hl : lv_has ls 1 [(0, .ref (a 10))]) : RoW p l e (rmK 0 0 0 0) s m args below meth c val (F0 m 0 ls []) := by
  obtain ⟨hx, hb, hr, hml, hown, hts, hlk, hK⟩ := id C0
  unfold f_T_count at h
  refine lv_aload_n hx hb d_T_count_0 rfl (lv_at hl 0 rfl) ?_
  refine va_get (ci := 2) (v := .int (T_count σ)) (C := R_T) (T := F_T) (N := 12) hx hb hts i_T hown hK.1 hP 0 rfl rfl 9 (by decide) (hts _ wd_37) (fun _ h9 => h9) rfl d_T_count_1 ?_
  exact ro_ret C0 h d_T_count_4
set_option maxHeartbeats 4000000 in
set_option maxRecDepth 100000 in
theorem c_T_count (l : Launch) (D : va_G) (cI cZ : ClassId) (a : Nat → Nat) (q : Nat) (σ : StT) {val : Int32} (h : f_T_count σ = val) : RoM l y_T_count b_T_count 1 (some .int) 0 0 D [(cI, .int), (cZ, .boolean)] [.ref (a 10)] (wT cI cZ a q σ) val :=
  ro_of (by decide) (Nat.le_of_ble_eq_true rfl) (fun p e s m args below meth c ls C0 hP hl => t_T_count_0 (a := a) C0 hP h (lv_sub hl [0] rfl))
