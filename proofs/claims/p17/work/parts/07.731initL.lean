set_option maxHeartbeats 4000000 in
set_option maxRecDepth 100000 in
theorem c_L_init (l : Launch) (D : va_G) (cI cZ : ClassId) (h : Nat) (x1 dp : Int32) (hdp : (if (0 : Int32) < (if x1 < 2 then x1 else 2) then (if x1 < 2 then x1 else 2) else 0) = dp) {rC : Int32 × StC} (hfC : f_C_init_54 ((fun _ => 0), (fun _ => 0), (fun _ => 0), (fun _ => 0), (fun _ => 0), (fun _ => 0), 0, 0) = some rC) {rT : Int32 × StT} (hfT : f_T_init_75 ((fun _ => 0), (fun _ => 0), (fun _ => 0), (fun _ => 0), (fun _ => 0), (fun _ => 0), (fun _ => 0), (64, (fun _ => 0)), 0, 0, 0, 0) = some rT) {rA : Int32 × StA} (hfA : f_A_init_13 ((fun _ => 0), 0) = some rA) : CtM l y_L_init b_L_init 2 5 111 20 9881 D [(cI, .int), (cZ, .boolean)] h [.int x1] (.inr (0, [.int 0, .null, .null, .null, .null, .null])) 0 (fun a q u => wL cI cZ a q u) (dp, rC.2, rT.2, rA.2, (fun _ => 0), (fun _ => 0)) := by
  intro sz
  refine Met.ofW (cc := b_L_init) (maxL := 2) (ret := none) (by decide) rfl ?_
  intro p e s m args below meth c s₁ B hml hv
  obtain ⟨rfl, hsz, hP, hK, hD0⟩ := hv
  subst hsz
  have hin2 : meth.name = "<init>" := (name_of_methodNamed B.named B.method).1
  have hts0 := atoms_spec (ws := Cond.code y_L_init b_L_init 2 none :: tb) B.pre
  have hl := lv_entry [.ref h, .int x1] (n := 2) (Nat.le_of_ble_eq_true rfl)
  rw [lg_entry_eq]
  generalize (lg_sl [.ref h, .int x1] ++ List.replicate (2 - (lg_sl [.ref h, .int x1]).length) Slot.unset).toArray = ls at hl ⊢
  have hl : lv_has ls 2 [(0, .ref h), (1, .int x1)] := hl
  have C0 : Am p s m ([.ref h, .int x1] : List Value).toArray meth c b_L_init none 2 R_L D [(cI, .int), (cZ, .boolean)] := ⟨B.exec, B.bytes, B.returns, hml, findClass_of_methodNamed B.named, fun w h => hts0 w (List.mem_cons_of_mem _ h), B.notSynchronized, hK⟩
  obtain ⟨hx, hb, hr, hml, hown, hts, hlk, hK⟩ := id C0
  have hD := hD0.self (sz := s.heap.size)
  generalize hAe : va_A [(h, .inr (0, [.int 0, .null, .null, .null, .null, .null]))] s.heap.size = A at hD ⊢
  have hA : ∀ q, s.heap.size ≤ q → A q := fun q h => by rw [← hAe]; exact Or.inr h
  have hS : va_S A s.heap s.heap [] := va_S.rf
  refine lv_aload_n hx hb d_L_init_0 rfl (lv_at hl 0 rfl) ?_
  refine W.objInit hx hb hown (hts _ wd_498) (hts _ wd_490) (hts _ wd_491) rfl (by rw [hml]; exact hl.1) rfl d_L_init_1 (Nat.le_of_ble_eq_true rfl) (Nat.le_of_ble_eq_true rfl) ?_
  refine W.eq (g2 := F0 m 4 ls []) rfl ?_
  refine lv_aload_n hx hb d_L_init_4 rfl (lv_at hl 0 rfl) ?_
  refine lv_iconst (v := 0) hx hb d_L_init_5 (by decide) ?_
  refine lv_iconst (v := 2) hx hb d_L_init_6 (by decide) ?_
  refine lv_iload_n hx hb d_L_init_7 rfl (lv_at hl 1 rfl) ?_
  refine va_mmin hx hb (by rw [hml]; exact hl.1.symm) hown (hts _ wd_302) (hts _ wd_303) (hts _ wd_15) (hts _ wd_304) (Nat.le_of_ble_eq_true rfl) (Nat.le_of_ble_eq_true rfl) (Nat.zero_le _) (Nat.zero_le _) d_L_init_8 ?_
  refine va_mmax hx hb (by rw [hml]; exact hl.1.symm) hown (hts _ wd_212) (hts _ wd_14) (hts _ wd_15) (hts _ wd_16) (Nat.le_of_ble_eq_true rfl) (Nat.le_of_ble_eq_true rfl) (Nat.zero_le _) (Nat.zero_le _) d_L_init_11 ?_
  rw [hdp]
  refine rw_putF (v := .int dp) (fty := .int) (C := R_L) (T := F_L) (N := 6) C0 hin2 hP hD hS i_L ty_L tyok_L nn_L 0 rfl rfl 0 (by decide) (hts _ wd_278) rfl rfl rfl (by decide +kernel) rfl rfl (Nat.le_of_ble_eq_true rfl) d_L_init_14 (Wn := ((h, .inr (0, [.int dp, .null, .null, .null, .null, .null])) :: (([] : va_W)))) rfl (fun H locs hP hD hS => ?_)
  try dsimp only [List.nil_append] at hP hD
  refine lv_aload_n hx hb d_L_init_17 rfl (lv_at hl 0 rfl) ?_
  refine va_new (ci := 1) (fs := [.null, .null, .null, .null, .null, .null, .int 0, .int 0]) (C := R_C) (T := F_C) (N := 8) hx hb hts i_C ty_C tyok_C hown (hts _ wd_500) (hts _ wd_499) (hts _ wd_8) hK.1 hP hD hS hA rfl (by decide +kernel) (Nat.le_of_ble_eq_true rfl) (Nat.le_of_ble_eq_true rfl) d_L_init_18 (fun qC H hP hD hS => ?_)
  refine lv_dup hx hb d_L_init_21 rfl ?_
  refine ct_I (n := 0) (As := []) (rest := [.ref qC, .ref h]) (wr := ((h, .inr (0, [.int dp, .null, .null, .null, .null, .null])) :: (([] : va_W)))) (w := fun a q (u : StC) => wC cI cZ a q u) (u0 := rC.2) (k0 := 3) C0 hA (c_C_init l D cI cZ qC hfC) wd_503 ⟨wd_501, wd_502, wd_8⟩ (by decide +kernel) rfl ⟨Nat.le_of_ble_eq_true rfl, Nat.le_of_ble_eq_true rfl⟩ hP hD hS [1] [0] rfl (by decide) rfl (by decide) (by decide) hl rfl rfl (Nat.le_of_ble_eq_true rfl) ⟨Nat.le_of_ble_eq_true rfl, Nat.le_of_ble_eq_true rfl⟩ d_L_init_22 (fun H locs aC pC eC hP hD hS => ?_)
  refine rw_putF (v := .ref qC) (fty := (.object "LeastBounds$Classes")) (C := R_L) (T := F_L) (N := 6) C0 hin2 hP hD hS i_L ty_L tyok_L nn_L 0 rfl rfl 1 (by decide) (hts _ wd_67) rfl rfl rfl (by decide +kernel) rfl rfl (Nat.le_of_ble_eq_true rfl) d_L_init_25 (Wn := ((h, .inr (0, [.int dp, .ref qC, .null, .null, .null, .null])) :: (wC cI cZ aC pC rC.2))) rfl (fun H locs hP hD hS => ?_)
  refine lv_aload_n hx hb d_L_init_28 rfl (lv_at hl 0 rfl) ?_
  refine va_new (ci := 2) (fs := [.null, .null, .null, .null, .null, .null, .null, .null, .int 0, .int 0, .int 0, .int 0]) (C := R_T) (T := F_T) (N := 12) hx hb hts i_T ty_T tyok_T hown (hts _ wd_505) (hts _ wd_504) (hts _ wd_52) hK.1 hP hD hS hA rfl (by decide +kernel) (Nat.le_of_ble_eq_true rfl) (Nat.le_of_ble_eq_true rfl) d_L_init_29 (fun qT H hP hD hS => ?_)
  refine lv_dup hx hb d_L_init_32 rfl ?_
  refine ct_I (n := 0) (As := []) (rest := [.ref qT, .ref h]) (wr := ((h, .inr (0, [.int dp, .ref qC, .null, .null, .null, .null])) :: (wC cI cZ aC pC rC.2))) (w := fun a q (u : StT) => wT cI cZ a q u) (u0 := rT.2) (k0 := 10) C0 hA (c_T_init l D cI cZ qT hfT) wd_508 ⟨wd_506, wd_507, wd_52⟩ (by decide +kernel) rfl ⟨Nat.le_of_ble_eq_true rfl, Nat.le_of_ble_eq_true rfl⟩ hP hD hS [8] [0, 1, 2, 3, 4, 5, 6, 7] rfl (by decide) rfl (by decide) (by decide) hl rfl rfl (Nat.le_of_ble_eq_true rfl) ⟨Nat.le_of_ble_eq_true rfl, Nat.le_of_ble_eq_true rfl⟩ d_L_init_33 (fun H locs aT pT eT hP hD hS => ?_)
  refine rw_putF (v := .ref qT) (fty := (.object "LeastBounds$Types")) (C := R_L) (T := F_L) (N := 6) C0 hin2 hP hD hS i_L ty_L tyok_L nn_L 0 rfl rfl 2 (by decide) (hts _ wd_85) rfl rfl rfl (by decide +kernel) rfl rfl (Nat.le_of_ble_eq_true rfl) d_L_init_36 (Wn := ((h, .inr (0, [.int dp, .ref qC, .ref qT, .null, .null, .null])) :: (wC cI cZ aC pC rC.2 ++ wT cI cZ aT pT rT.2))) rfl (fun H locs hP hD hS => ?_)
  refine lv_aload_n hx hb d_L_init_39 rfl (lv_at hl 0 rfl) ?_
  refine va_new (ci := 3) (fs := [.null, .int 0]) (C := R_A) (T := F_A) (N := 2) hx hb hts i_A ty_A tyok_A hown (hts _ wd_510) (hts _ wd_509) (hts _ wd_155) hK.1 hP hD hS hA rfl (by decide +kernel) (Nat.le_of_ble_eq_true rfl) (Nat.le_of_ble_eq_true rfl) d_L_init_40 (fun qA H hP hD hS => ?_)
  refine lv_dup hx hb d_L_init_43 rfl ?_
  refine ct_IN (n := 0) (As := []) (rest := [.ref qA, .ref h]) (wr := ((h, .inr (0, [.int dp, .ref qC, .ref qT, .null, .null, .null])) :: (wC cI cZ aC pC rC.2 ++ wT cI cZ aT pT rT.2))) (w := fun a q (u : StA) => wA cI cZ a q u) (u0 := rA.2) (k0 := 18) C0 hA (c_A_init l D cI cZ qA hfA) (List.mem_of_getElem? (i := 2) rfl) ⟨wd_511, wd_512, wd_155⟩ (by decide +kernel) rfl ⟨Nat.le_of_ble_eq_true rfl, Nat.le_of_ble_eq_true rfl⟩ hP hD hS [17] [0, 1, 2, 3, 4, 5, 6, 7, 8, 9, 10, 11, 12, 13, 14, 15, 16] rfl (by decide) rfl (by decide) (by decide) hl rfl rfl (Nat.le_of_ble_eq_true rfl) ⟨Nat.le_of_ble_eq_true rfl, Nat.le_of_ble_eq_true rfl⟩ d_L_init_44 (fun H locs aA pA eA hP hD hS => ?_)
  refine rw_putF (v := .ref qA) (fty := (.object "LeastBounds$Answers")) (C := R_L) (T := F_L) (N := 6) C0 hin2 hP hD hS i_L ty_L tyok_L nn_L 0 rfl rfl 3 (by decide) (hts _ wd_150) rfl rfl rfl (by decide +kernel) rfl rfl (Nat.le_of_ble_eq_true rfl) d_L_init_47 (Wn := ((h, .inr (0, [.int dp, .ref qC, .ref qT, .ref qA, .null, .null])) :: (wC cI cZ aC pC rC.2 ++ wT cI cZ aT pT rT.2 ++ wA cI cZ aA pA rA.2))) rfl (fun H locs hP hD hS => ?_)
  refine lv_aload_n hx hb d_L_init_50 rfl (lv_at hl 0 rfl) ?_
  refine lv_bipush (v := 90) hx hb d_L_init_51 (by decide) ?_
  refine mk_int (N := 90) C0 0 rfl wd_arrI hP hD hS hA (by decide) rfl (by decide) (Nat.le_of_ble_eq_true rfl) (Nat.le_of_ble_eq_true rfl) d_L_init_53 (fun q_row H hP hD hS => ?_)
  refine rw_putF (v := .ref q_row) (fty := (.array .int)) (C := R_L) (T := F_L) (N := 6) C0 hin2 hP hD hS i_L ty_L tyok_L nn_L 0 rfl rfl 4 (by decide) (hts _ wd_256) rfl rfl rfl (by decide +kernel) rfl rfl (Nat.le_of_ble_eq_true rfl) d_L_init_55 (Wn := ((h, .inr (0, [.int dp, .ref qC, .ref qT, .ref qA, .ref q_row, .null])) :: (wC cI cZ aC pC rC.2 ++ wT cI cZ aT pT rT.2 ++ wA cI cZ aA pA rA.2 ++ [(q_row, .inl (cI, 90, .inl (fun _ => 0)))]))) rfl (fun H locs hP hD hS => ?_)
  refine lv_aload_n hx hb d_L_init_58 rfl (lv_at hl 0 rfl) ?_
  refine lv_bipush (v := 60) hx hb d_L_init_59 (by decide) ?_
  refine mk_int (N := 60) C0 0 rfl wd_arrI hP hD hS hA (by decide) rfl (by decide) (Nat.le_of_ble_eq_true rfl) (Nat.le_of_ble_eq_true rfl) d_L_init_61 (fun q_gathered H hP hD hS => ?_)
  refine rw_putF (v := .ref q_gathered) (fty := (.array .int)) (C := R_L) (T := F_L) (N := 6) C0 hin2 hP hD hS i_L ty_L tyok_L nn_L 0 rfl rfl 5 (by decide) (hts _ wd_305) rfl rfl rfl (by decide +kernel) rfl rfl (Nat.le_of_ble_eq_true rfl) d_L_init_63 (Wn := ((h, .inr (0, [.int dp, .ref qC, .ref qT, .ref qA, .ref q_row, .ref q_gathered])) :: (wC cI cZ aC pC rC.2 ++ wT cI cZ aT pT rT.2 ++ wA cI cZ aA pA rA.2 ++ [(q_row, .inl (cI, 90, .inl (fun _ => 0)))] ++ [(q_gathered, .inl (cI, 60, .inl (fun _ => 0)))]))) rfl (fun H locs hP hD hS => ?_)
  subst eC eT eA
  have hP : va_P D vwCl (wL cI cZ (fun k => if k = 0 then h else if k = 1 then q_row else if k = 2 then q_gathered else if k < 10 then aC k else if k < 18 then aT k else aA k) pT (dp, rC.2, rT.2, rA.2, (fun _ => 0), (fun _ => 0))) H := hP.pick [0, 19, 20, 1, 2, 3, 4, 5, 6, 7, 8, 9, 10, 11, 12, 13, 14, 15, 16, 17, 18] rfl
  have hD : va_D A (wL cI cZ (fun k => if k = 0 then h else if k = 1 then q_row else if k = 2 then q_gathered else if k < 10 then aC k else if k < 18 then aT k else aA k) pT (dp, rC.2, rT.2, rA.2, (fun _ => 0), (fun _ => 0))) := hD.sub [0, 19, 20, 1, 2, 3, 4, 5, 6, 7, 8, 9, 10, 11, 12, 13, 14, 15, 16, 17, 18] (by decide) rfl
  refine W.widen (k := 20) (n := 9881) (Nat.le_of_ble_eq_true rfl) (Nat.le_of_ble_eq_true rfl) ?_
  exact W.vret hx hb hr (fun t ht _ => ⟨⟨(dp, rC.2, rT.2, rA.2, (fun _ => 0), (fun _ => 0)), rfl, rfl, (fun k => if k = 0 then h else if k = 1 then q_row else if k = 2 then q_gathered else if k < 10 then aC k else if k < 18 then aT k else aA k), pT, rfl, by rw [ht]; exact hP, hD⟩, hS.F ht⟩) hS.2.2 d_L_init_66 hlk
