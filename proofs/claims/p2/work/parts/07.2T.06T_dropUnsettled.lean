def f_T_dropUnsettled (σ : StT) : Option (Int32 × StT) :=
  some (0, (T_set_partsUsed (T_set_count σ (T_settledCount σ)) (T_settledParts (T_set_count σ (T_settledCount σ)))))
set_option maxHeartbeats 4000000 in
set_option maxRecDepth 100000 in
theorem t_T_dropUnsettled_0 {p : Program} {l : Launch} {e : Env} {s : State} {m : MethodId} {args : Array Value} {below : List Frame} {meth : Method} {c : Code} {D : va_G} {cI cZ : ClassId} {a : Nat → Nat} {A : Nat → Prop} (C0 : Am p s m args meth c b_T_dropUnsettled none 1 R_T D [(cI, .int), (cZ, .boolean)]) (hA : ∀ q, s.heap.size ≤ q → A q) {res : Int32 × StT}   {q : Nat} {σ : StT} (h : f_T_dropUnsettled σ = some res) {H : Heap} {locs : List Loc} (hP : va_P D vwCl (wT cI cZ a q σ) H) (hD : va_D A (wT cI cZ a q σ)) (hS : va_S A s.heap H locs) {ls : Array Slot} (hl : lv_has ls 1 [(0, .ref (a 10))]) : W p l e (rmK 0 0 0 0) s m args below meth c H locs 0 0 (RwQv below args s D A (fun q (σ : StT) => (wT cI cZ a q σ)) res 0 0) (F0 m 0 ls []) := by
  obtain ⟨hx, hb, hr, hml, hown, hts, hlk, hK⟩ := id C0
  unfold f_T_dropUnsettled at h
  refine lv_aload_n hx hb d_T_dropUnsettled_0 rfl (lv_at hl 0 rfl) ?_
  refine lv_aload_n hx hb d_T_dropUnsettled_1 rfl (lv_at hl 0 rfl) ?_
  refine va_get (ci := 2) (v := .int (T_settledCount σ)) (C := R_T) (T := F_T) (N := 12) hx hb hts i_T hown hK.1 hP 0 rfl rfl 11 (by decide) (hts _ wd_61) (fun _ h9 => h9) rfl d_T_dropUnsettled_2 ?_
  refine rw_put (v := .int (T_settledCount σ)) (fty := .int) (C := R_T) (T := F_T) (N := 12) C0 hP hD hS i_T ty_T tyok_T nn_T 0 rfl rfl 9 (by decide) (hts _ wd_37) rfl rfl (by decide +kernel) rfl rfl (Nat.le_of_ble_eq_true rfl) d_T_dropUnsettled_5 (Wn := (wT cI cZ a q (T_set_count σ (T_settledCount σ)))) ws_T_set_count (fun H locs hP hD hS => ?_)
  refine lv_aload_n hx hb d_T_dropUnsettled_8 rfl (lv_at hl 0 rfl) ?_
  refine lv_aload_n hx hb d_T_dropUnsettled_9 rfl (lv_at hl 0 rfl) ?_
  refine va_get (ci := 2) (v := .int (T_settledParts (T_set_count σ (T_settledCount σ)))) (C := R_T) (T := F_T) (N := 12) hx hb hts i_T hown hK.1 hP 0 rfl rfl 10 (by decide) (hts _ wd_63) (fun _ h9 => h9) rfl d_T_dropUnsettled_10 ?_
  refine rw_put (v := .int (T_settledParts (T_set_count σ (T_settledCount σ)))) (fty := .int) (C := R_T) (T := F_T) (N := 12) C0 hP hD hS i_T ty_T tyok_T nn_T 0 rfl rfl 8 (by decide) (hts _ wd_62) rfl rfl (by decide +kernel) rfl rfl (Nat.le_of_ble_eq_true rfl) d_T_dropUnsettled_13 (Wn := (wT cI cZ a q (T_set_partsUsed (T_set_count σ (T_settledCount σ)) (T_settledParts (T_set_count σ (T_settledCount σ)))))) ws_T_set_partsUsed (fun H locs hP hD hS => ?_)
  exact rw_retv C0 hP hD hS (Option.some.inj h) d_T_dropUnsettled_16
set_option maxHeartbeats 4000000 in
set_option maxRecDepth 100000 in
theorem c_T_dropUnsettled (l : Launch) (D : va_G) (cI cZ : ClassId) (a : Nat → Nat) (q : Nat) (σ : StT) {res : Int32 × StT} (h : f_T_dropUnsettled σ = some res) : RwMv l y_T_dropUnsettled b_T_dropUnsettled 1 0 0 D [(cI, .int), (cZ, .boolean)] [.ref (a 10)] (fun q (σ : StT) => (wT cI cZ a q σ)) q σ res :=
  rw_ofv (by decide) (Nat.le_of_ble_eq_true rfl) (fun p e s m args below meth c ls A C0 hA hP hD hS hl => t_T_dropUnsettled_0 (a := a) C0 hA h hP hD hS (lv_sub hl [0] rfl))
