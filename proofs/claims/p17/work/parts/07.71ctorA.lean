def f_A_init_13 (σ : StA) : Option (Int32 × StA) :=
  some (0, (A_set_empty σ 1))
set_option maxHeartbeats 4000000 in
set_option maxRecDepth 100000 in
theorem t_A_init_13 {p : Program} {l : Launch} {e : Env} {s : State} {m : MethodId} {args : Array Value} {below : List Frame} {meth : Method} {c : Code} {D : va_G} {cI cZ : ClassId} {a : Nat → Nat} {A : Nat → Prop} (C0 : Am p s m args meth c b_A_init none 1 R_A D [(cI, .int), (cZ, .boolean)]) {kc ks : Nat} (hin2 : meth.name = "<init>") (hA : ∀ q, s.heap.size ≤ q → A q) {res : Int32 × StA}   {q : Nat} {σ : StA} (h : f_A_init_13 σ = some res) {H : Heap} {locs : List Loc} (hP : va_P D vwCl (wA cI cZ a q σ) H) (hD : va_D A (wA cI cZ a q σ)) (hS : va_S A s.heap H locs) {ls : Array Slot} (hl : lv_has ls 1 [(0, .ref (a 18))]) : W p l e (rmK 1 20 kc ks) s m args below meth c H locs kc ks (RwQv below args s D A (fun q (σ : StA) => (wA cI cZ a q σ)) res kc ks) (F0 m 13 ls []) := by
  obtain ⟨hx, hb, hr, hml, hown, hts, hlk, hK⟩ := id C0
  unfold f_A_init_13 at h
  refine lv_aload_n hx hb d_A_init_13 rfl (lv_at hl 0 rfl) ?_
  refine lv_iconst (v := 1) hx hb d_A_init_14 (by decide) ?_
  refine rw_put (v := .int 1) (fty := .boolean) (C := R_A) (T := F_A) (N := 2) C0 hP hD hS i_A ty_A tyok_A nn_A 0 rfl rfl 1 (by decide) (hts _ wd_128) rfl rfl (by decide +kernel) rfl rfl (Nat.le_of_ble_eq_true rfl) d_A_init_15 (Wn := (wA cI cZ a q (A_set_empty σ 1))) ws_A_set_empty (fun H locs hP hD hS => ?_)
  exact rw_retv C0 hP hD hS (Option.some.inj h) d_A_init_18
