def f_L_countHolders (σ : StL) (x1 : Int32) : Option Int32 :=
  (f_T_countParts (L_types σ) x1).bind fun r1 =>
  some (if 1 < r1 then r1 else 1)
set_option maxHeartbeats 4000000 in
set_option maxRecDepth 100000 in
theorem t_L_countHolders_0 {p : Program} {l : Launch} {e : Env} {s : State} {m : MethodId} {args : Array Value} {below : List Frame} {meth : Method} {c : Code} {D : va_G} {cI cZ : ClassId} {a : Nat → Nat} {q : Nat} {σ : StL} (C0 : Am p s m args meth c b_L_countHolders (some .int) 2 R_L D [(cI, .int), (cZ, .boolean)]) (hP : va_P D vwCl (wL cI cZ a q σ) s.heap) {val : Int32}   {x1 : Int32} (h : f_L_countHolders σ x1 = some val) {ls : Array Slot} (hl : lv_has ls 2 [(0, .ref (a 0)), (1, .int x1)]) : RoW p l e (rmK 2 42 0 0) s m args below meth c val (F0 m 0 ls []) := by
  obtain ⟨hx, hb, hr, hml, hown, hts, hlk, hK⟩ := id C0
  unfold f_L_countHolders at h
  refine lv_iconst (v := 1) hx hb d_L_countHolders_0 (by decide) ?_
  refine lv_aload_n hx hb d_L_countHolders_1 rfl (lv_at hl 0 rfl) ?_
  refine va_get (ci := 0) (v := .ref (a 10)) (C := R_L) (T := F_L) (N := 6) hx hb hts i_L hown hK.1 hP 0 rfl rfl 2 (by decide) (hts _ wd_85) (fun _ h9 => h9) rfl d_L_countHolders_2 ?_
  refine lv_iload_n hx hb d_L_countHolders_5 rfl (lv_at hl 1 rfl) ?_
  replace h := bd h
  obtain ⟨r1, g1, h⟩ := h
  refine ro_V (n := 1) (ci := 2) (As := [.int x1]) (rest := [.int 1]) C0 (c_T_countParts l D cI cZ a q (L_types σ) x1 g1) wd_200 ⟨wd_201, wd_202, wd_203, wd_52⟩ (by decide +kernel) ⟨Nat.le_of_ble_eq_true rfl, Nat.le_of_ble_eq_true rfl⟩ (hP.pick [10, 11, 12, 13, 14, 15, 16, 17, 18] rfl) rfl rfl rfl hl rfl rfl (Nat.le_of_ble_eq_true rfl) ⟨Nat.zero_le _, Nat.zero_le _⟩ d_L_countHolders_6 ?_
  try dsimp only at h
  refine va_mmax hx hb (by rw [hml]; exact hl.1.symm) hown (hts _ wd_212) (hts _ wd_14) (hts _ wd_15) (hts _ wd_16) (Nat.le_of_ble_eq_true rfl) (Nat.le_of_ble_eq_true rfl) (Nat.zero_le _) (Nat.zero_le _) d_L_countHolders_9 ?_
  exact ro_ret C0 (Option.some.inj h) d_L_countHolders_12
set_option maxHeartbeats 4000000 in
set_option maxRecDepth 100000 in
theorem c_L_countHolders (l : Launch) (D : va_G) (cI cZ : ClassId) (a : Nat → Nat) (q : Nat) (σ : StL) (x1 : Int32) {val : Int32} (h : f_L_countHolders σ x1 = some val) : RoM l y_L_countHolders b_L_countHolders 2 (some .int) 2 42 D [(cI, .int), (cZ, .boolean)] [.ref (a 0), .int x1] (wL cI cZ a q σ) val :=
  ro_of (by decide) (Nat.le_of_ble_eq_true rfl) (fun p e s m args below meth c ls C0 hP hl => t_L_countHolders_0 (a := a) C0 hP h (lv_sub hl [0, 1] rfl))
