def f_L_commonOf (σ : StL) (x1 x2 : Int32) : Option Int32 :=
  (f_L_foundIn σ x1).bind fun r1 =>
  (f_L_foundIn σ x2).bind fun r2 =>
  some (r1 &&& r2)
set_option maxHeartbeats 4000000 in
set_option maxRecDepth 100000 in
theorem t_L_commonOf_0 {p : Program} {l : Launch} {e : Env} {s : State} {m : MethodId} {args : Array Value} {below : List Frame} {meth : Method} {c : Code} {D : va_G} {cI cZ : ClassId} {a : Nat → Nat} {q : Nat} {σ : StL} (C0 : Am p s m args meth c b_L_commonOf (some .int) 3 R_L D [(cI, .int), (cZ, .boolean)]) (hP : va_P D vwCl (wL cI cZ a q σ) s.heap) {val : Int32}   {x1 x2 : Int32} (h : f_L_commonOf σ x1 x2 = some val) {ls : Array Slot} (hl : lv_has ls 3 [(0, .ref (a 0)), (1, .int x1), (2, .int x2)]) : RoW p l e (rmK 3 68 0 0) s m args below meth c val (F0 m 0 ls []) := by
  obtain ⟨hx, hb, hr, hml, hown, hts, hlk, hK⟩ := id C0
  unfold f_L_commonOf at h
  refine lv_aload_n hx hb d_L_commonOf_0 rfl (lv_at hl 0 rfl) ?_
  refine lv_iload_n hx hb d_L_commonOf_1 rfl (lv_at hl 1 rfl) ?_
  replace h := bd h
  obtain ⟨r1, g1, h⟩ := h
  refine ro_V (n := 1) (ci := 0) (As := [.int x1]) (rest := []) C0 (c_L_foundIn l D cI cZ a q σ x1 g1) wd_208 ⟨wd_209, wd_210, wd_211, wd_55⟩ (by decide +kernel) ⟨Nat.le_of_ble_eq_true rfl, Nat.le_of_ble_eq_true rfl⟩ hP rfl rfl rfl hl rfl rfl (Nat.le_of_ble_eq_true rfl) ⟨Nat.zero_le _, Nat.zero_le _⟩ d_L_commonOf_2 ?_
  try dsimp only at h
  refine lv_aload_n hx hb d_L_commonOf_5 rfl (lv_at hl 0 rfl) ?_
  refine lv_iload_n hx hb d_L_commonOf_6 rfl (lv_at hl 2 rfl) ?_
  replace h := bd h
  obtain ⟨r2, g2, h⟩ := h
  refine ro_V (n := 1) (ci := 0) (As := [.int x2]) (rest := [.int r1]) C0 (c_L_foundIn l D cI cZ a q σ x2 g2) wd_208 ⟨wd_209, wd_210, wd_211, wd_55⟩ (by decide +kernel) ⟨Nat.le_of_ble_eq_true rfl, Nat.le_of_ble_eq_true rfl⟩ hP rfl rfl rfl hl rfl rfl (Nat.le_of_ble_eq_true rfl) ⟨Nat.zero_le _, Nat.zero_le _⟩ d_L_commonOf_7 ?_
  try dsimp only at h
  refine lv_iand hx hb d_L_commonOf_10 ?_
  exact ro_ret C0 (Option.some.inj h) d_L_commonOf_11
set_option maxHeartbeats 4000000 in
set_option maxRecDepth 100000 in
theorem c_L_commonOf (l : Launch) (D : va_G) (cI cZ : ClassId) (a : Nat → Nat) (q : Nat) (σ : StL) (x1 : Int32) (x2 : Int32) {val : Int32} (h : f_L_commonOf σ x1 x2 = some val) : RoM l y_L_commonOf b_L_commonOf 3 (some .int) 3 68 D [(cI, .int), (cZ, .boolean)] [.ref (a 0), .int x1, .int x2] (wL cI cZ a q σ) val :=
  ro_of (by decide) (Nat.le_of_ble_eq_true rfl) (fun p e s m args below meth c ls C0 hP hl => t_L_commonOf_0 (a := a) C0 hP h (lv_sub hl [0, 1, 2] rfl))
