set_option maxHeartbeats 4000000 in
set_option maxRecDepth 100000 in
theorem c_T_init (l : Launch) (D : va_G) (cI cZ : ClassId) (h : Nat) {res : Int32 × StT} (hf : f_T_init_75 ((fun _ => 0), (fun _ => 0), (fun _ => 0), (fun _ => 0), (fun _ => 0), (fun _ => 0), (fun _ => 0), (64, (fun _ => 0)), 0, 0, 0, 0) = some res) : ∀ sz, Met l y_T_init (Cond.code y_T_init b_T_init 2 none :: tb) (rmK 3 65 8 2164) (va_Pc [.ref h] (fun U => U.heap.size = sz ∧ va_P D vwCl [(h, .inr (2, [.null, .null, .null, .null, .null, .null, .null, .null, .int 0, .int 0, .int 0, .int 0]))] U.heap ∧ KN D [(cI, .int), (cZ, .boolean)] U ∧ va_D (fun _ => True) [(h, .inr (2, [.null, .null, .null, .null, .null, .null, .null, .null, .int 0, .int 0, .int 0, .int 0]))])) (va_Qv (fun u => u = res.2) (fun u t => ∃ a q, a 10 = h ∧ va_P D vwCl (wT cI cZ a q u) t.heap ∧ va_D (va_A [(h, .inr (2, [.null, .null, .null, .null, .null, .null, .null, .null, .int 0, .int 0, .int 0, .int 0]))] sz) (wT cI cZ a q u)) (va_A [(h, .inr (2, [.null, .null, .null, .null, .null, .null, .null, .null, .int 0, .int 0, .int 0, .int 0]))] sz)) 8 2164 (va_A [(h, .inr (2, [.null, .null, .null, .null, .null, .null, .null, .null, .int 0, .int 0, .int 0, .int 0]))] sz) := by
  intro sz
  refine Met.ofW (cc := b_T_init) (maxL := 2) (ret := none) (by decide) rfl ?_
  intro p e s m args below meth c s₁ B hml hv
  obtain ⟨rfl, hsz, hP, hK, hD0⟩ := hv
  subst hsz
  have hin2 : meth.name = "<init>" := (name_of_methodNamed B.named B.method).1
  have hts0 := atoms_spec (ws := Cond.code y_T_init b_T_init 2 none :: tb) B.pre
  have hl := lv_entry [.ref h] (n := 2) (Nat.le_of_ble_eq_true rfl)
  rw [lg_entry_eq]
  generalize (lg_sl [.ref h] ++ List.replicate (2 - (lg_sl [.ref h]).length) Slot.unset).toArray = ls at hl ⊢
  have hl : lv_has ls 2 [(0, .ref h)] := hl
  have C0 : Am p s m ([.ref h] : List Value).toArray meth c b_T_init none 2 R_T D [(cI, .int), (cZ, .boolean)] := ⟨B.exec, B.bytes, B.returns, hml, findClass_of_methodNamed B.named, fun w h => hts0 w (List.mem_cons_of_mem _ h), B.notSynchronized, hK⟩
  obtain ⟨hx, hb, hr, hml, hown, hts, hlk, hK⟩ := id C0
  have hD := hD0.self (sz := s.heap.size)
  generalize hAe : va_A [(h, .inr (2, [.null, .null, .null, .null, .null, .null, .null, .null, .int 0, .int 0, .int 0, .int 0]))] s.heap.size = A at hD ⊢
  have hA : ∀ q, s.heap.size ≤ q → A q := fun q h => by rw [← hAe]; exact Or.inr h
  have hS : va_S A s.heap s.heap [] := va_S.rf
  refine lv_aload_n hx hb d_T_init_0 rfl (lv_at hl 0 rfl) ?_
  refine W.objInit hx hb hown (hts _ wd_494) (hts _ wd_490) (hts _ wd_491) rfl (by rw [hml]; exact hl.1) rfl d_T_init_1 (Nat.le_of_ble_eq_true rfl) (Nat.le_of_ble_eq_true rfl) ?_
  refine W.eq (g2 := F0 m 4 ls []) rfl ?_
  refine lv_aload_n hx hb d_T_init_4 rfl (lv_at hl 0 rfl) ?_
  refine lv_sipush (v := 300) hx hb d_T_init_5 (by decide) ?_
  refine mk_int (N := 300) C0 0 rfl wd_arrI hP hD hS hA (by decide) rfl (by decide) (Nat.le_of_ble_eq_true rfl) (Nat.le_of_ble_eq_true rfl) d_T_init_8 (fun q0 H hP hD hS => ?_)
  refine rw_putF (v := .ref q0) (fty := (.array .int)) (C := R_T) (T := F_T) (N := 12) C0 hin2 hP hD hS i_T ty_T tyok_T nn_T 0 rfl rfl 0 (by decide) (hts _ wd_41) rfl rfl rfl (by decide +kernel) rfl rfl (Nat.le_of_ble_eq_true rfl) d_T_init_10 (Wn := [(h, .inr (2, [.ref q0, .null, .null, .null, .null, .null, .null, .null, .int 0, .int 0, .int 0, .int 0])), (q0, .inl (cI, 300, .inl (fun _ => 0)))]) rfl (fun H locs hP hD hS => ?_)
  refine lv_aload_n hx hb d_T_init_13 rfl (lv_at hl 0 rfl) ?_
  refine lv_sipush (v := 300) hx hb d_T_init_14 (by decide) ?_
  refine mk_int (N := 300) C0 0 rfl wd_arrI hP hD hS hA (by decide) rfl (by decide) (Nat.le_of_ble_eq_true rfl) (Nat.le_of_ble_eq_true rfl) d_T_init_17 (fun q1 H hP hD hS => ?_)
  refine rw_putF (v := .ref q1) (fty := (.array .int)) (C := R_T) (T := F_T) (N := 12) C0 hin2 hP hD hS i_T ty_T tyok_T nn_T 0 rfl rfl 1 (by decide) (hts _ wd_42) rfl rfl rfl (by decide +kernel) rfl rfl (Nat.le_of_ble_eq_true rfl) d_T_init_19 (Wn := [(h, .inr (2, [.ref q0, .ref q1, .null, .null, .null, .null, .null, .null, .int 0, .int 0, .int 0, .int 0])), (q0, .inl (cI, 300, .inl (fun _ => 0))), (q1, .inl (cI, 300, .inl (fun _ => 0)))]) rfl (fun H locs hP hD hS => ?_)
  refine lv_aload_n hx hb d_T_init_22 rfl (lv_at hl 0 rfl) ?_
  refine lv_sipush (v := 300) hx hb d_T_init_23 (by decide) ?_
  refine mk_int (N := 300) C0 0 rfl wd_arrI hP hD hS hA (by decide) rfl (by decide) (Nat.le_of_ble_eq_true rfl) (Nat.le_of_ble_eq_true rfl) d_T_init_26 (fun q2 H hP hD hS => ?_)
  refine rw_putF (v := .ref q2) (fty := (.array .int)) (C := R_T) (T := F_T) (N := 12) C0 hin2 hP hD hS i_T ty_T tyok_T nn_T 0 rfl rfl 2 (by decide) (hts _ wd_43) rfl rfl rfl (by decide +kernel) rfl rfl (Nat.le_of_ble_eq_true rfl) d_T_init_28 (Wn := [(h, .inr (2, [.ref q0, .ref q1, .ref q2, .null, .null, .null, .null, .null, .int 0, .int 0, .int 0, .int 0])), (q0, .inl (cI, 300, .inl (fun _ => 0))), (q1, .inl (cI, 300, .inl (fun _ => 0))), (q2, .inl (cI, 300, .inl (fun _ => 0)))]) rfl (fun H locs hP hD hS => ?_)
  refine lv_aload_n hx hb d_T_init_31 rfl (lv_at hl 0 rfl) ?_
  refine lv_sipush (v := 300) hx hb d_T_init_32 (by decide) ?_
  refine mk_int (N := 300) C0 0 rfl wd_arrI hP hD hS hA (by decide) rfl (by decide) (Nat.le_of_ble_eq_true rfl) (Nat.le_of_ble_eq_true rfl) d_T_init_35 (fun q3 H hP hD hS => ?_)
  refine rw_putF (v := .ref q3) (fty := (.array .int)) (C := R_T) (T := F_T) (N := 12) C0 hin2 hP hD hS i_T ty_T tyok_T nn_T 0 rfl rfl 3 (by decide) (hts _ wd_44) rfl rfl rfl (by decide +kernel) rfl rfl (Nat.le_of_ble_eq_true rfl) d_T_init_37 (Wn := [(h, .inr (2, [.ref q0, .ref q1, .ref q2, .ref q3, .null, .null, .null, .null, .int 0, .int 0, .int 0, .int 0])), (q0, .inl (cI, 300, .inl (fun _ => 0))), (q1, .inl (cI, 300, .inl (fun _ => 0))), (q2, .inl (cI, 300, .inl (fun _ => 0))), (q3, .inl (cI, 300, .inl (fun _ => 0)))]) rfl (fun H locs hP hD hS => ?_)
  refine lv_aload_n hx hb d_T_init_40 rfl (lv_at hl 0 rfl) ?_
  refine lv_sipush (v := 300) hx hb d_T_init_41 (by decide) ?_
  refine mk_int (N := 300) C0 0 rfl wd_arrI hP hD hS hA (by decide) rfl (by decide) (Nat.le_of_ble_eq_true rfl) (Nat.le_of_ble_eq_true rfl) d_T_init_44 (fun q4 H hP hD hS => ?_)
  refine rw_putF (v := .ref q4) (fty := (.array .int)) (C := R_T) (T := F_T) (N := 12) C0 hin2 hP hD hS i_T ty_T tyok_T nn_T 0 rfl rfl 4 (by decide) (hts _ wd_45) rfl rfl rfl (by decide +kernel) rfl rfl (Nat.le_of_ble_eq_true rfl) d_T_init_46 (Wn := [(h, .inr (2, [.ref q0, .ref q1, .ref q2, .ref q3, .ref q4, .null, .null, .null, .int 0, .int 0, .int 0, .int 0])), (q0, .inl (cI, 300, .inl (fun _ => 0))), (q1, .inl (cI, 300, .inl (fun _ => 0))), (q2, .inl (cI, 300, .inl (fun _ => 0))), (q3, .inl (cI, 300, .inl (fun _ => 0))), (q4, .inl (cI, 300, .inl (fun _ => 0)))]) rfl (fun H locs hP hD hS => ?_)
  refine lv_aload_n hx hb d_T_init_49 rfl (lv_at hl 0 rfl) ?_
  refine lv_sipush (v := 300) hx hb d_T_init_50 (by decide) ?_
  refine mk_int (N := 300) C0 0 rfl wd_arrI hP hD hS hA (by decide) rfl (by decide) (Nat.le_of_ble_eq_true rfl) (Nat.le_of_ble_eq_true rfl) d_T_init_53 (fun q5 H hP hD hS => ?_)
  refine rw_putF (v := .ref q5) (fty := (.array .int)) (C := R_T) (T := F_T) (N := 12) C0 hin2 hP hD hS i_T ty_T tyok_T nn_T 0 rfl rfl 5 (by decide) (hts _ wd_46) rfl rfl rfl (by decide +kernel) rfl rfl (Nat.le_of_ble_eq_true rfl) d_T_init_55 (Wn := [(h, .inr (2, [.ref q0, .ref q1, .ref q2, .ref q3, .ref q4, .ref q5, .null, .null, .int 0, .int 0, .int 0, .int 0])), (q0, .inl (cI, 300, .inl (fun _ => 0))), (q1, .inl (cI, 300, .inl (fun _ => 0))), (q2, .inl (cI, 300, .inl (fun _ => 0))), (q3, .inl (cI, 300, .inl (fun _ => 0))), (q4, .inl (cI, 300, .inl (fun _ => 0))), (q5, .inl (cI, 300, .inl (fun _ => 0)))]) rfl (fun H locs hP hD hS => ?_)
  refine lv_aload_n hx hb d_T_init_58 rfl (lv_at hl 0 rfl) ?_
  refine lv_sipush (v := 300) hx hb d_T_init_59 (by decide) ?_
  refine mk_int (N := 300) C0 0 rfl wd_arrI hP hD hS hA (by decide) rfl (by decide) (Nat.le_of_ble_eq_true rfl) (Nat.le_of_ble_eq_true rfl) d_T_init_62 (fun q6 H hP hD hS => ?_)
  refine rw_putF (v := .ref q6) (fty := (.array .int)) (C := R_T) (T := F_T) (N := 12) C0 hin2 hP hD hS i_T ty_T tyok_T nn_T 0 rfl rfl 6 (by decide) (hts _ wd_47) rfl rfl rfl (by decide +kernel) rfl rfl (Nat.le_of_ble_eq_true rfl) d_T_init_64 (Wn := [(h, .inr (2, [.ref q0, .ref q1, .ref q2, .ref q3, .ref q4, .ref q5, .ref q6, .null, .int 0, .int 0, .int 0, .int 0])), (q0, .inl (cI, 300, .inl (fun _ => 0))), (q1, .inl (cI, 300, .inl (fun _ => 0))), (q2, .inl (cI, 300, .inl (fun _ => 0))), (q3, .inl (cI, 300, .inl (fun _ => 0))), (q4, .inl (cI, 300, .inl (fun _ => 0))), (q5, .inl (cI, 300, .inl (fun _ => 0))), (q6, .inl (cI, 300, .inl (fun _ => 0)))]) rfl (fun H locs hP hD hS => ?_)
  refine lv_aload_n hx hb d_T_init_67 rfl (lv_at hl 0 rfl) ?_
  refine lv_bipush (v := 64) hx hb d_T_init_68 (by decide) ?_
  refine mk_int (N := 64) C0 0 rfl wd_arrI hP hD hS hA (by decide) rfl (by decide) (Nat.le_of_ble_eq_true rfl) (Nat.le_of_ble_eq_true rfl) d_T_init_70 (fun q7 H hP hD hS => ?_)
  refine rw_put (v := .ref q7) (fty := (.array .int)) (C := R_T) (T := F_T) (N := 12) C0 hP hD hS i_T ty_T tyok_T nn_T 0 rfl rfl 7 (by decide) (hts _ wd_191) rfl rfl (by decide +kernel) rfl rfl (Nat.le_of_ble_eq_true rfl) d_T_init_72 (Wn := [(h, .inr (2, [.ref q0, .ref q1, .ref q2, .ref q3, .ref q4, .ref q5, .ref q6, .ref q7, .int 0, .int 0, .int 0, .int 0])), (q0, .inl (cI, 300, .inl (fun _ => 0))), (q1, .inl (cI, 300, .inl (fun _ => 0))), (q2, .inl (cI, 300, .inl (fun _ => 0))), (q3, .inl (cI, 300, .inl (fun _ => 0))), (q4, .inl (cI, 300, .inl (fun _ => 0))), (q5, .inl (cI, 300, .inl (fun _ => 0))), (q6, .inl (cI, 300, .inl (fun _ => 0))), (q7, .inl (cI, 64, .inl (fun _ => 0)))]) rfl (fun H locs hP hD hS => ?_)
  have hP : va_P D vwCl (wT cI cZ (fun k => if k = 10 then h else if k = 11 then q0 else if k = 12 then q1 else if k = 13 then q2 else if k = 14 then q3 else if k = 15 then q4 else if k = 16 then q5 else if k = 17 then q6 else 0) q7 ((fun _ => 0), (fun _ => 0), (fun _ => 0), (fun _ => 0), (fun _ => 0), (fun _ => 0), (fun _ => 0), (64, (fun _ => 0)), 0, 0, 0, 0)) H := hP.pick [0, 1, 2, 3, 4, 5, 6, 7, 8] rfl
  have hD : va_D A (wT cI cZ (fun k => if k = 10 then h else if k = 11 then q0 else if k = 12 then q1 else if k = 13 then q2 else if k = 14 then q3 else if k = 15 then q4 else if k = 16 then q5 else if k = 17 then q6 else 0) q7 ((fun _ => 0), (fun _ => 0), (fun _ => 0), (fun _ => 0), (fun _ => 0), (fun _ => 0), (fun _ => 0), (64, (fun _ => 0)), 0, 0, 0, 0)) := hD.sub [0, 1, 2, 3, 4, 5, 6, 7, 8] (by decide) rfl
  refine W.widen (k := 8) (n := 2164) (Nat.le_of_ble_eq_true rfl) (Nat.le_of_ble_eq_true rfl) ?_
  refine W.imp (fun t ht => ?_) (t_T_init_75 (a := (fun k => if k = 10 then h else if k = 11 then q0 else if k = 12 then q1 else if k = 13 then q2 else if k = 14 then q3 else if k = 15 then q4 else if k = 16 then q5 else if k = 17 then q6 else 0)) (kc := 8) (ks := 2164) C0 hin2 hA hf hP hD hS (lv_sub hl [0] rfl))
  obtain ⟨o, g1, g2, ⟨⟨u, g3, g4, q9, g5, g6⟩, g7⟩, g8⟩ := ht
  exact ⟨o, g1, g2, ⟨⟨u, g3, by rw [← g4], _, q9, rfl, g5, g6⟩, g7⟩, g8⟩
