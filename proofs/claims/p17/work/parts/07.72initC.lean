set_option maxHeartbeats 4000000 in
set_option maxRecDepth 100000 in
theorem c_C_init (l : Launch) (D : va_G) (cI cZ : ClassId) (h : Nat) {res : Int32 × StC} (hf : f_C_init_54 ((fun _ => 0), (fun _ => 0), (fun _ => 0), (fun _ => 0), (fun _ => 0), (fun _ => 0), 0, 0) = some res) : ∀ sz, Met l y_C_init (Cond.code y_C_init b_C_init 2 none :: tb) (rmK 4 90 6 1920) (va_Pc [.ref h] (fun U => U.heap.size = sz ∧ va_P D vwCl [(h, .inr (1, [.null, .null, .null, .null, .null, .null, .int 0, .int 0]))] U.heap ∧ KN D [(cI, .int), (cZ, .boolean)] U ∧ va_D (fun _ => True) [(h, .inr (1, [.null, .null, .null, .null, .null, .null, .int 0, .int 0]))])) (va_Qv (fun u => u = res.2) (fun u t => ∃ a q, a 3 = h ∧ va_P D vwCl (wC cI cZ a q u) t.heap ∧ va_D (va_A [(h, .inr (1, [.null, .null, .null, .null, .null, .null, .int 0, .int 0]))] sz) (wC cI cZ a q u)) (va_A [(h, .inr (1, [.null, .null, .null, .null, .null, .null, .int 0, .int 0]))] sz)) 6 1920 (va_A [(h, .inr (1, [.null, .null, .null, .null, .null, .null, .int 0, .int 0]))] sz) := by
  intro sz
  refine Met.ofW (cc := b_C_init) (maxL := 2) (ret := none) (by decide) rfl ?_
  intro p e s m args below meth c s₁ B hml hv
  obtain ⟨rfl, hsz, hP, hK, hD0⟩ := hv
  subst hsz
  have hin2 : meth.name = "<init>" := (name_of_methodNamed B.named B.method).1
  have hts0 := atoms_spec (ws := Cond.code y_C_init b_C_init 2 none :: tb) B.pre
  have hl := lv_entry [.ref h] (n := 2) (Nat.le_of_ble_eq_true rfl)
  rw [lg_entry_eq]
  generalize (lg_sl [.ref h] ++ List.replicate (2 - (lg_sl [.ref h]).length) Slot.unset).toArray = ls at hl ⊢
  have hl : lv_has ls 2 [(0, .ref h)] := hl
  have C0 : Am p s m ([.ref h] : List Value).toArray meth c b_C_init none 2 R_C D [(cI, .int), (cZ, .boolean)] := ⟨B.exec, B.bytes, B.returns, hml, findClass_of_methodNamed B.named, fun w h => hts0 w (List.mem_cons_of_mem _ h), B.notSynchronized, hK⟩
  obtain ⟨hx, hb, hr, hml, hown, hts, hlk, hK⟩ := id C0
  have hD := hD0.self (sz := s.heap.size)
  generalize hAe : va_A [(h, .inr (1, [.null, .null, .null, .null, .null, .null, .int 0, .int 0]))] s.heap.size = A at hD ⊢
  have hA : ∀ q, s.heap.size ≤ q → A q := fun q h => by rw [← hAe]; exact Or.inr h
  have hS : va_S A s.heap s.heap [] := va_S.rf
  refine lv_aload_n hx hb d_C_init_0 rfl (lv_at hl 0 rfl) ?_
  refine W.objInit hx hb hown (hts _ wd_489) (hts _ wd_490) (hts _ wd_491) rfl (by rw [hml]; exact hl.1) rfl d_C_init_1 (Nat.le_of_ble_eq_true rfl) (Nat.le_of_ble_eq_true rfl) ?_
  refine W.eq (g2 := F0 m 4 ls []) rfl ?_
  refine lv_aload_n hx hb d_C_init_4 rfl (lv_at hl 0 rfl) ?_
  refine lv_bipush (v := 30) hx hb d_C_init_5 (by decide) ?_
  refine mk_bool (N := 30) C0 1 rfl wd_arrZ hP hD hS hA (by decide) rfl (by decide) (Nat.le_of_ble_eq_true rfl) (Nat.le_of_ble_eq_true rfl) d_C_init_7 (fun q0 H hP hD hS => ?_)
  refine rw_putF (v := .ref q0) (fty := (.array .boolean)) (C := R_C) (T := F_C) (N := 8) C0 hin2 hP hD hS i_C ty_C tyok_C nn_C 0 rfl rfl 0 (by decide) (hts _ wd_21) rfl rfl rfl (by decide +kernel) rfl rfl (Nat.le_of_ble_eq_true rfl) d_C_init_9 (Wn := [(h, .inr (1, [.ref q0, .null, .null, .null, .null, .null, .int 0, .int 0])), (q0, .inl (cZ, 30, .inl (fun _ => 0)))]) rfl (fun H locs hP hD hS => ?_)
  refine lv_aload_n hx hb d_C_init_12 rfl (lv_at hl 0 rfl) ?_
  refine lv_bipush (v := 30) hx hb d_C_init_13 (by decide) ?_
  refine mk_bool (N := 30) C0 1 rfl wd_arrZ hP hD hS hA (by decide) rfl (by decide) (Nat.le_of_ble_eq_true rfl) (Nat.le_of_ble_eq_true rfl) d_C_init_15 (fun q1 H hP hD hS => ?_)
  refine rw_putF (v := .ref q1) (fty := (.array .boolean)) (C := R_C) (T := F_C) (N := 8) C0 hin2 hP hD hS i_C ty_C tyok_C nn_C 0 rfl rfl 1 (by decide) (hts _ wd_22) rfl rfl rfl (by decide +kernel) rfl rfl (Nat.le_of_ble_eq_true rfl) d_C_init_17 (Wn := [(h, .inr (1, [.ref q0, .ref q1, .null, .null, .null, .null, .int 0, .int 0])), (q0, .inl (cZ, 30, .inl (fun _ => 0))), (q1, .inl (cZ, 30, .inl (fun _ => 0)))]) rfl (fun H locs hP hD hS => ?_)
  refine lv_aload_n hx hb d_C_init_20 rfl (lv_at hl 0 rfl) ?_
  refine lv_bipush (v := 30) hx hb d_C_init_21 (by decide) ?_
  refine mk_int (N := 30) C0 0 rfl wd_arrI hP hD hS hA (by decide) rfl (by decide) (Nat.le_of_ble_eq_true rfl) (Nat.le_of_ble_eq_true rfl) d_C_init_23 (fun q2 H hP hD hS => ?_)
  refine rw_putF (v := .ref q2) (fty := (.array .int)) (C := R_C) (T := F_C) (N := 8) C0 hin2 hP hD hS i_C ty_C tyok_C nn_C 0 rfl rfl 2 (by decide) (hts _ wd_9) rfl rfl rfl (by decide +kernel) rfl rfl (Nat.le_of_ble_eq_true rfl) d_C_init_25 (Wn := [(h, .inr (1, [.ref q0, .ref q1, .ref q2, .null, .null, .null, .int 0, .int 0])), (q0, .inl (cZ, 30, .inl (fun _ => 0))), (q1, .inl (cZ, 30, .inl (fun _ => 0))), (q2, .inl (cI, 30, .inl (fun _ => 0)))]) rfl (fun H locs hP hD hS => ?_)
  refine lv_aload_n hx hb d_C_init_28 rfl (lv_at hl 0 rfl) ?_
  refine lv_bipush (v := 30) hx hb d_C_init_29 (by decide) ?_
  refine mk_int (N := 30) C0 0 rfl wd_arrI hP hD hS hA (by decide) rfl (by decide) (Nat.le_of_ble_eq_true rfl) (Nat.le_of_ble_eq_true rfl) d_C_init_31 (fun q3 H hP hD hS => ?_)
  refine rw_putF (v := .ref q3) (fty := (.array .int)) (C := R_C) (T := F_C) (N := 8) C0 hin2 hP hD hS i_C ty_C tyok_C nn_C 0 rfl rfl 3 (by decide) (hts _ wd_12) rfl rfl rfl (by decide +kernel) rfl rfl (Nat.le_of_ble_eq_true rfl) d_C_init_33 (Wn := [(h, .inr (1, [.ref q0, .ref q1, .ref q2, .ref q3, .null, .null, .int 0, .int 0])), (q0, .inl (cZ, 30, .inl (fun _ => 0))), (q1, .inl (cZ, 30, .inl (fun _ => 0))), (q2, .inl (cI, 30, .inl (fun _ => 0))), (q3, .inl (cI, 30, .inl (fun _ => 0)))]) rfl (fun H locs hP hD hS => ?_)
  refine lv_aload_n hx hb d_C_init_36 rfl (lv_at hl 0 rfl) ?_
  refine lv_sipush (v := 900) hx hb d_C_init_37 (by decide) ?_
  refine mk_int (N := 900) C0 0 rfl wd_arrI hP hD hS hA (by decide) rfl (by decide) (Nat.le_of_ble_eq_true rfl) (Nat.le_of_ble_eq_true rfl) d_C_init_40 (fun q4 H hP hD hS => ?_)
  refine rw_putF (v := .ref q4) (fty := (.array .int)) (C := R_C) (T := F_C) (N := 8) C0 hin2 hP hD hS i_C ty_C tyok_C nn_C 0 rfl rfl 4 (by decide) (hts _ wd_10) rfl rfl rfl (by decide +kernel) rfl rfl (Nat.le_of_ble_eq_true rfl) d_C_init_42 (Wn := [(h, .inr (1, [.ref q0, .ref q1, .ref q2, .ref q3, .ref q4, .null, .int 0, .int 0])), (q0, .inl (cZ, 30, .inl (fun _ => 0))), (q1, .inl (cZ, 30, .inl (fun _ => 0))), (q2, .inl (cI, 30, .inl (fun _ => 0))), (q3, .inl (cI, 30, .inl (fun _ => 0))), (q4, .inl (cI, 900, .inl (fun _ => 0)))]) rfl (fun H locs hP hD hS => ?_)
  refine lv_aload_n hx hb d_C_init_45 rfl (lv_at hl 0 rfl) ?_
  refine lv_sipush (v := 900) hx hb d_C_init_46 (by decide) ?_
  refine mk_int (N := 900) C0 0 rfl wd_arrI hP hD hS hA (by decide) rfl (by decide) (Nat.le_of_ble_eq_true rfl) (Nat.le_of_ble_eq_true rfl) d_C_init_49 (fun q5 H hP hD hS => ?_)
  refine rw_putF (v := .ref q5) (fty := (.array .int)) (C := R_C) (T := F_C) (N := 8) C0 hin2 hP hD hS i_C ty_C tyok_C nn_C 0 rfl rfl 5 (by decide) (hts _ wd_11) rfl rfl rfl (by decide +kernel) rfl rfl (Nat.le_of_ble_eq_true rfl) d_C_init_51 (Wn := [(h, .inr (1, [.ref q0, .ref q1, .ref q2, .ref q3, .ref q4, .ref q5, .int 0, .int 0])), (q0, .inl (cZ, 30, .inl (fun _ => 0))), (q1, .inl (cZ, 30, .inl (fun _ => 0))), (q2, .inl (cI, 30, .inl (fun _ => 0))), (q3, .inl (cI, 30, .inl (fun _ => 0))), (q4, .inl (cI, 900, .inl (fun _ => 0))), (q5, .inl (cI, 900, .inl (fun _ => 0)))]) rfl (fun H locs hP hD hS => ?_)
  have hP : va_P D vwCl (wC cI cZ (fun k => if k = 3 then h else if k = 4 then q0 else if k = 5 then q1 else if k = 6 then q2 else if k = 7 then q3 else if k = 8 then q4 else if k = 9 then q5 else 0) 0 ((fun _ => 0), (fun _ => 0), (fun _ => 0), (fun _ => 0), (fun _ => 0), (fun _ => 0), 0, 0)) H := hP.pick [0, 1, 2, 3, 4, 5, 6] rfl
  have hD : va_D A (wC cI cZ (fun k => if k = 3 then h else if k = 4 then q0 else if k = 5 then q1 else if k = 6 then q2 else if k = 7 then q3 else if k = 8 then q4 else if k = 9 then q5 else 0) 0 ((fun _ => 0), (fun _ => 0), (fun _ => 0), (fun _ => 0), (fun _ => 0), (fun _ => 0), 0, 0)) := hD.sub [0, 1, 2, 3, 4, 5, 6] (by decide) rfl
  refine W.widen (k := 6) (n := 1920) (Nat.le_of_ble_eq_true rfl) (Nat.le_of_ble_eq_true rfl) ?_
  refine W.imp (fun t ht => ?_) (t_C_init_54 (a := (fun k => if k = 3 then h else if k = 4 then q0 else if k = 5 then q1 else if k = 6 then q2 else if k = 7 then q3 else if k = 8 then q4 else if k = 9 then q5 else 0)) (kc := 6) (ks := 1920) C0 hin2 hA hf hP hD hS (lv_sub hl [0] rfl))
  obtain ⟨o, g1, g2, ⟨⟨u, g3, g4, q9, g5, g6⟩, g7⟩, g8⟩ := ht
  exact ⟨o, g1, g2, ⟨⟨u, g3, by rw [← g4], _, q9, rfl, g5, g6⟩, g7⟩, g8⟩
