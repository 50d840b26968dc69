def f_M_end (σ : StM) (x1 x2 x3 : Int32) : Option (Int32 × StM) :=
  if (M_full σ) = 0 then
    some (x2, σ)
  else
    some (0, (M_set_code (M_set_full (M_set_types σ x1) 0) x3))
set_option maxHeartbeats 4000000 in
set_option maxRecDepth 100000 in
theorem t_M_end_0 {p : Program} {l : Launch} {e : Env} {s : State} {m : MethodId} {args : Array Value} {below : List Frame} {meth : Method} {c : Code} {D : va_G} {cI cZ : ClassId} {a : Nat → Nat} {A : Nat → Prop} (C0 : Am p s m args meth c b_M_end (some .int) 4 R_M D [(cI, .int), (cZ, .boolean)]) (hA : ∀ q, s.heap.size ≤ q → A q) {res : Int32 × StM}   {q : Nat} {σ : StM} {x1 x2 x3 : Int32} (h : f_M_end σ x1 x2 x3 = some res) {H : Heap} {locs : List Loc} (hP : va_P D vwCl (wM cI cZ a q σ) H) (hD : va_D A (wM cI cZ a q σ)) (hS : va_S A s.heap H locs) {ls : Array Slot} (hl : lv_has ls 4 [(0, .ref (a 20)), (1, .int x1), (2, .int x2), (3, .int x3)]) : W p l e (rmK 0 0 0 0) s m args below meth c H locs 0 0 (RwQ below args s D A (fun q (σ : StM) => (wM cI cZ a q σ)) res 0 0) (F0 m 0 ls []) := by
  obtain ⟨hx, hb, hr, hml, hown, hts, hlk, hK⟩ := id C0
  unfold f_M_end at h
  refine lv_aload_n hx hb d_M_end_0 rfl (lv_at hl 0 rfl) ?_
  refine va_get (ci := 4) (v := .int (M_full σ)) (C := R_M) (T := F_M) (N := 35) hx hb hts i_M hown hK.1 hP 0 rfl rfl 18 (by decide) (hts _ wd_364) (fun _ h9 => h9) rfl d_M_end_1 ?_
  refine lv_if_eq (tgt := 24) hx hb d_M_end_4 (by decide) (fun hc => ?_) (fun hc => ?_)
  · rw [if_pos hc] at h
    refine lv_iload_n hx hb d_M_end_24 rfl (lv_at hl 2 rfl) ?_
    exact rw_ret C0 hP hD hS (Option.some.inj h) d_M_end_25
  · rw [if_neg hc] at h
    refine lv_aload_n hx hb d_M_end_7 rfl (lv_at hl 0 rfl) ?_
    refine lv_iload_n hx hb d_M_end_8 rfl (lv_at hl 1 rfl) ?_
    refine rw_put (v := .int x1) (fty := .int) (C := R_M) (T := F_M) (N := 35) C0 hP hD hS i_M ty_M tyok_M nn_M 0 rfl rfl 10 (by decide) (hts _ wd_344) rfl rfl (by decide +kernel) rfl rfl (Nat.le_of_ble_eq_true rfl) d_M_end_9 (Wn := (wM cI cZ a q (M_set_types σ x1))) ws_M_set_types (fun H locs hP hD hS => ?_)
    refine lv_aload_n hx hb d_M_end_12 rfl (lv_at hl 0 rfl) ?_
    refine lv_iconst (v := 0) hx hb d_M_end_13 (by decide) ?_
    refine rw_put (v := .int 0) (fty := .boolean) (C := R_M) (T := F_M) (N := 35) C0 hP hD hS i_M ty_M tyok_M nn_M 0 rfl rfl 18 (by decide) (hts _ wd_364) rfl rfl (by decide +kernel) rfl rfl (Nat.le_of_ble_eq_true rfl) d_M_end_14 (Wn := (wM cI cZ a q (M_set_full (M_set_types σ x1) 0))) ws_M_set_full (fun H locs hP hD hS => ?_)
    refine lv_aload_n hx hb d_M_end_17 rfl (lv_at hl 0 rfl) ?_
    refine lv_iload_n hx hb d_M_end_18 rfl (lv_at hl 3 rfl) ?_
    refine rw_put (v := .int x3) (fty := .int) (C := R_M) (T := F_M) (N := 35) C0 hP hD hS i_M ty_M tyok_M nn_M 0 rfl rfl 0 (by decide) (hts _ wd_342) rfl rfl (by decide +kernel) rfl rfl (Nat.le_of_ble_eq_true rfl) d_M_end_19 (Wn := (wM cI cZ a q (M_set_code (M_set_full (M_set_types σ x1) 0) x3))) ws_M_set_code (fun H locs hP hD hS => ?_)
    refine lv_iconst (v := 0) hx hb d_M_end_22 (by decide) ?_
    exact rw_ret C0 hP hD hS (Option.some.inj h) d_M_end_23
set_option maxHeartbeats 4000000 in
set_option maxRecDepth 100000 in
theorem c_M_end (l : Launch) (D : va_G) (cI cZ : ClassId) (a : Nat → Nat) (q : Nat) (σ : StM) (x1 : Int32) (x2 : Int32) (x3 : Int32) {res : Int32 × StM} (h : f_M_end σ x1 x2 x3 = some res) : RwM l y_M_end b_M_end 4 (some .int) 0 0 D [(cI, .int), (cZ, .boolean)] [.ref (a 20), .int x1, .int x2, .int x3] (fun q (σ : StM) => (wM cI cZ a q σ)) q σ res :=
  rw_of (by decide) (Nat.le_of_ble_eq_true rfl) (fun p e s m args below meth c ls A C0 hA hP hD hS hl => t_M_end_0 (a := a) C0 hA h hP hD hS (lv_sub hl [0, 1, 2, 3] rfl))
