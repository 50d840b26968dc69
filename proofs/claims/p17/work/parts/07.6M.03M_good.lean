def f_M_good (σ : StM) (x1 : Int32) : Option (Int32 × StM) :=
  if x1 = 0 then
    some (1, (M_set_code σ x1))
  else
    some (0, (M_set_code σ x1))
set_option maxHeartbeats 4000000 in
set_option maxRecDepth 100000 in
theorem t_M_good_0 {p : Program} {l : Launch} {e : Env} {s : State} {m : MethodId} {args : Array Value} {below : List Frame} {meth : Method} {c : Code} {D : va_G} {cI cZ : ClassId} {a : Nat → Nat} {A : Nat → Prop} (C0 : Am p s m args meth c b_M_good (some .boolean) 2 R_M D [(cI, .int), (cZ, .boolean)]) (hA : ∀ q, s.heap.size ≤ q → A q) {res : Int32 × StM}   {q : Nat} {σ : StM} {x1 : Int32} (h : f_M_good σ x1 = some res) {H : Heap} {locs : List Loc} (hP : va_P D vwCl (wM cI cZ a q σ) H) (hD : va_D A (wM cI cZ a q σ)) (hS : va_S A s.heap H locs) {ls : Array Slot} (hl : lv_has ls 2 [(0, .ref (a 20)), (1, .int x1)]) : W p l e (rmK 0 0 0 0) s m args below meth c H locs 0 0 (RwQ below args s D A (fun q (σ : StM) => (wM cI cZ a q σ)) res 0 0) (F0 m 0 ls []) := by
  obtain ⟨hx, hb, hr, hml, hown, hts, hlk, hK⟩ := id C0
  unfold f_M_good at h
  refine lv_aload_n hx hb d_M_good_0 rfl (lv_at hl 0 rfl) ?_
  refine lv_iload_n hx hb d_M_good_1 rfl (lv_at hl 1 rfl) ?_
  refine rw_put (v := .int x1) (fty := .int) (C := R_M) (T := F_M) (N := 35) C0 hP hD hS i_M ty_M tyok_M nn_M 0 rfl rfl 0 (by decide) (hts _ wd_342) rfl rfl (by decide +kernel) rfl rfl (Nat.le_of_ble_eq_true rfl) d_M_good_2 (Wn := (wM cI cZ a q (M_set_code σ x1))) ws_M_set_code (fun H locs hP hD hS => ?_)
  refine lv_iload_n hx hb d_M_good_5 rfl (lv_at hl 1 rfl) ?_
  refine lv_if_ne (tgt := 13) hx hb d_M_good_6 (by decide) (fun hc => ?_) (fun hc => ?_)
  · rw [if_neg hc] at h
    refine lv_iconst (v := 0) hx hb d_M_good_13 (by decide) ?_
    exact rw_retz C0 hP hD hS (by decide) (Option.some.inj h) d_M_good_14
  · rw [if_pos hc] at h
    refine lv_iconst (v := 1) hx hb d_M_good_9 (by decide) ?_
    refine lv_goto (tgt := 14) hx hb d_M_good_10 (by decide) ?_
    exact rw_retz C0 hP hD hS (by decide) (Option.some.inj h) d_M_good_14
set_option maxHeartbeats 4000000 in
set_option maxRecDepth 100000 in
theorem c_M_good (l : Launch) (D : va_G) (cI cZ : ClassId) (a : Nat → Nat) (q : Nat) (σ : StM) (x1 : Int32) {res : Int32 × StM} (h : f_M_good σ x1 = some res) : RwM l y_M_good b_M_good 2 (some .boolean) 0 0 D [(cI, .int), (cZ, .boolean)] [.ref (a 20), .int x1] (fun q (σ : StM) => (wM cI cZ a q σ)) q σ res :=
  rw_of (by decide) (Nat.le_of_ble_eq_true rfl) (fun p e s m args below meth c ls A C0 hA hP hD hS hl => t_M_good_0 (a := a) C0 hA h hP hD hS (lv_sub hl [0, 1] rfl))
