set_option maxHeartbeats 4000000 in
set_option maxRecDepth 100000 in
theorem c_A_init (l : Launch) (D : va_G) (cI cZ : ClassId) (h : Nat) {res : Int32 × StA} (hf : f_A_init_13 ((fun _ => 0), 0) = some res) : ∀ sz, Met l y_A_init (Cond.code y_A_init b_A_init 1 none :: tb) (rmK 1 20 1 5625) (va_Pc [.ref h] (fun U => U.heap.size = sz ∧ va_P D vwCl [(h, .inr (3, [.null, .int 0]))] U.heap ∧ KN D [(cI, .int), (cZ, .boolean)] U ∧ va_D (fun _ => True) [(h, .inr (3, [.null, .int 0]))])) (va_Qv (fun u => u = res.2) (fun u t => ∃ a q, a 18 = h ∧ va_P D vwCl (wA cI cZ a q u) t.heap ∧ va_D (va_A [(h, .inr (3, [.null, .int 0]))] sz) (wA cI cZ a q u)) (va_A [(h, .inr (3, [.null, .int 0]))] sz)) 1 5625 (va_A [(h, .inr (3, [.null, .int 0]))] sz) := by
  intro sz
  refine Met.ofW (cc := b_A_init) (maxL := 1) (ret := none) (by decide) rfl ?_
  intro p e s m args below meth c s₁ B hml hv
  obtain ⟨rfl, hsz, hP, hK, hD0⟩ := hv
  subst hsz
  have hin2 : meth.name = "<init>" := (name_of_methodNamed B.named B.method).1
  have hts0 := atoms_spec (ws := Cond.code y_A_init b_A_init 1 none :: tb) B.pre
  have hl := lv_entry [.ref h] (n := 1) (Nat.le_of_ble_eq_true rfl)
  rw [lg_entry_eq]
  generalize (lg_sl [.ref h] ++ List.replicate (1 - (lg_sl [.ref h]).length) Slot.unset).toArray = ls at hl ⊢
  have hl : lv_has ls 1 [(0, .ref h)] := hl
  have C0 : Am p s m ([.ref h] : List Value).toArray meth c b_A_init none 1 R_A D [(cI, .int), (cZ, .boolean)] := ⟨B.exec, B.bytes, B.returns, hml, findClass_of_methodNamed B.named, fun w h => hts0 w (List.mem_cons_of_mem _ h), B.notSynchronized, hK⟩
  obtain ⟨hx, hb, hr, hml, hown, hts, hlk, hK⟩ := id C0
  have hD := hD0.self (sz := s.heap.size)
  generalize hAe : va_A [(h, .inr (3, [.null, .int 0]))] s.heap.size = A at hD ⊢
  have hA : ∀ q, s.heap.size ≤ q → A q := fun q h => by rw [← hAe]; exact Or.inr h
  have hS : va_S A s.heap s.heap [] := va_S.rf
  refine lv_aload_n hx hb d_A_init_0 rfl (lv_at hl 0 rfl) ?_
  refine W.objInit hx hb hown (hts _ wd_495) (hts _ wd_490) (hts _ wd_491) rfl (by rw [hml]; exact hl.1) rfl d_A_init_1 (Nat.le_of_ble_eq_true rfl) (Nat.le_of_ble_eq_true rfl) ?_
  refine W.eq (g2 := F0 m 4 ls []) rfl ?_
  refine lv_aload_n hx hb d_A_init_4 rfl (lv_at hl 0 rfl) ?_
  refine lv_sipush (v := 5625) hx hb d_A_init_5 (by decide) ?_
  refine mk_int (N := 5625) C0 0 rfl wd_arrI hP hD hS hA (by decide) rfl (by decide) (Nat.le_of_ble_eq_true rfl) (Nat.le_of_ble_eq_true rfl) d_A_init_8 (fun q0 H hP hD hS => ?_)
  refine rw_putF (v := .ref q0) (fty := (.array .int)) (C := R_A) (T := F_A) (N := 2) C0 hin2 hP hD hS i_A ty_A tyok_A nn_A 0 rfl rfl 0 (by decide) (hts _ wd_129) rfl rfl rfl (by decide +kernel) rfl rfl (Nat.le_of_ble_eq_true rfl) d_A_init_10 (Wn := [(h, .inr (3, [.ref q0, .int 0])), (q0, .inl (cI, 5625, .inl (fun _ => 0)))]) rfl (fun H locs hP hD hS => ?_)
  have hP : va_P D vwCl (wA cI cZ (fun k => if k = 18 then h else if k = 19 then q0 else 0) 0 ((fun _ => 0), 0)) H := hP.pick [0, 1] rfl
  have hD : va_D A (wA cI cZ (fun k => if k = 18 then h else if k = 19 then q0 else 0) 0 ((fun _ => 0), 0)) := hD.sub [0, 1] (by decide) rfl
  refine W.widen (k := 1) (n := 5625) (Nat.le_of_ble_eq_true rfl) (Nat.le_of_ble_eq_true rfl) ?_
  refine W.imp (fun t ht => ?_) (t_A_init_13 (a := (fun k => if k = 18 then h else if k = 19 then q0 else 0)) (kc := 1) (ks := 5625) C0 hin2 hA hf hP hD hS (lv_sub hl [0] rfl))
  obtain ⟨o, g1, g2, ⟨⟨u, g3, g4, q9, g5, g6⟩, g7⟩, g8⟩ := ht
  exact ⟨o, g1, g2, ⟨⟨u, g3, by rw [← g4], _, q9, rfl, g5, g6⟩, g7⟩, g8⟩
