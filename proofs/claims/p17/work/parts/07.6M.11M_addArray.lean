def f_M_addArray (σ : StM) (x1 : Int32) : Option (Int32 × StM) :=
  if (M_full σ) = 0 then
    (f_M_add σ 2 (-1) (-1) x1).bind fun r1 =>
    some (r1.1, r1.2)
  else
    some (0, σ)
set_option maxHeartbeats 4000000 in
set_option maxRecDepth 100000 in
theorem t_M_addArray_0 {p : Program} {l : Launch} {e : Env} {s : State} {m : MethodId} {args : Array Value} {below : List Frame} {meth : Method} {c : Code} {D : va_G} {cI cZ : ClassId} {a : Nat → Nat} {A : Nat → Prop} (C0 : Am p s m args meth c b_M_addArray (some .int) 2 R_M D [(cI, .int), (cZ, .boolean)]) (hA : ∀ q, s.heap.size ≤ q → A q) {res : Int32 × StM}   {q : Nat} {σ : StM} {x1 : Int32} (h : f_M_addArray σ x1 = some res) {H : Heap} {locs : List Loc} (hP : va_P D vwCl (wM cI cZ a q σ) H) (hD : va_D A (wM cI cZ a q σ)) (hS : va_S A s.heap H locs) {ls : Array Slot} (hl : lv_has ls 2 [(0, .ref (a 20)), (1, .int x1)]) : W p l e (rmK 1 25 0 0) s m args below meth c H locs 0 0 (RwQ below args s D A (fun q (σ : StM) => (wM cI cZ a q σ)) res 0 0) (F0 m 0 ls []) := by
  obtain ⟨hx, hb, hr, hml, hown, hts, hlk, hK⟩ := id C0
  unfold f_M_addArray at h
  refine lv_aload_n hx hb d_M_addArray_0 rfl (lv_at hl 0 rfl) ?_
  refine va_get (ci := 4) (v := .int (M_full σ)) (C := R_M) (T := F_M) (N := 35) hx hb hts i_M hown hK.1 hP 0 rfl rfl 18 (by decide) (hts _ wd_364) (fun _ h9 => h9) rfl d_M_addArray_1 ?_
  refine lv_if_eq (tgt := 11) hx hb d_M_addArray_4 (by decide) (fun hc => ?_) (fun hc => ?_)
  · rw [if_pos hc] at h
    refine lv_aload_n hx hb d_M_addArray_11 rfl (lv_at hl 0 rfl) ?_
    refine lv_iconst (v := 2) hx hb d_M_addArray_12 (by decide) ?_
    refine lv_iconst (v := (-1)) hx hb d_M_addArray_13 (by decide) ?_
    refine lv_iconst (v := (-1)) hx hb d_M_addArray_14 (by decide) ?_
    refine lv_iload_n hx hb d_M_addArray_15 rfl (lv_at hl 1 rfl) ?_
    replace h := bd h
    obtain ⟨r1, g1, h⟩ := h
    refine rw_V (n := 4) (ci := 4) (As := [.int 2, .int (-1), .int (-1), .int x1]) (rest := []) (Wn := fun _ => (wM cI cZ a q r1.2)) C0 hA (c_M_add l D cI cZ a q σ 2 (-1) (-1) x1 g1) wd_365 ⟨wd_366, wd_367, wd_368, wd_352⟩ (by decide +kernel) ⟨Nat.le_of_ble_eq_true rfl, Nat.le_of_ble_eq_true rfl⟩ hP hD hS [0, 1, 2, 3, 4, 5, 6, 7, 8, 9, 10, 11, 12, 13, 14, 15, 16, 17, 18, 19, 20, 21, 22, 23] [] [0, 1, 2, 3, 4, 5, 6, 7, 8, 9, 10, 11, 12, 13, 14, 15, 16, 17, 18, 19, 20, 21, 22, 23] jn_M__C (by decide) jn_M__R (by decide) (by decide) (by decide) jn_M__W rfl rfl rfl hl rfl rfl (Nat.le_of_ble_eq_true rfl) ⟨Nat.zero_le _, Nat.zero_le _⟩ d_M_addArray_16 (fun H locs _ hP hD hS => ?_)
    try dsimp only at h
    exact rw_ret C0 hP hD hS (Option.some.inj h) d_M_addArray_19
  · rw [if_neg hc] at h
    refine lv_iconst (v := 0) hx hb d_M_addArray_7 (by decide) ?_
    refine lv_goto (tgt := 19) hx hb d_M_addArray_8 (by decide) ?_
    exact rw_ret C0 hP hD hS (Option.some.inj h) d_M_addArray_19
set_option maxHeartbeats 4000000 in
set_option maxRecDepth 100000 in
theorem c_M_addArray (l : Launch) (D : va_G) (cI cZ : ClassId) (a : Nat → Nat) (q : Nat) (σ : StM) (x1 : Int32) {res : Int32 × StM} (h : f_M_addArray σ x1 = some res) : RwM l y_M_addArray b_M_addArray 2 (some .int) 1 25 D [(cI, .int), (cZ, .boolean)] [.ref (a 20), .int x1] (fun q (σ : StM) => (wM cI cZ a q σ)) q σ res :=
  rw_of (by decide) (Nat.le_of_ble_eq_true rfl) (fun p e s m args below meth c ls A C0 hA hP hD hS hl => t_M_addArray_0 (a := a) C0 hA h hP hD hS (lv_sub hl [0, 1] rfl))
