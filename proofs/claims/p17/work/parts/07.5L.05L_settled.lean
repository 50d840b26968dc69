def f_L_settled (σ : StL) (x1 : Int32) : Option ((Int32 ⊕ Nat) × StL × Nat × Nat) :=
  if x1 = (-1) then
    (f_T_dropUnsettled (L_types σ)).bind fun r2 =>
    some (.inr 2, (L_set_types σ r2.2), 1, 6)
  else
    (f_T_settle (L_types σ)).bind fun r1 =>
    some (.inl x1, (L_set_types σ r1.2), 0, 0)
set_option maxHeartbeats 4000000 in
set_option maxRecDepth 100000 in
theorem t_L_settled_0 {p : Program} {l : Launch} {e : Env} {s : State} {m : MethodId} {args : Array Value} {below : List Frame} {meth : Method} {c : Code} {D : va_G} {cI cZ : ClassId} {a : Nat → Nat} {A : Nat → Prop} (C0 : Am p s m args meth c b_L_settled (some .int) 2 R_L D [(cI, .int), (cZ, .boolean)]) (hA : ∀ q, s.heap.size ≤ q → A q) (hT : ∀ x ∈ c.exceptionTable.toList, False) (hl0 : l.stackTraces = false) (hZ : Zs A s s.heap) {v : Int32 ⊕ Nat} {u : StL} {K N : Nat}   {q : Nat} {σ : StL} {x1 : Int32} {kc ks mc ms : Nat} (h : f_L_settled σ x1 = some (v, u, mc, ms)) (hkc : kc + mc = K) (hks : ks + ms = N) {H : Heap} {locs : List Loc} (hP : va_P D vwCl (wL cI cZ a q σ) H) (hD : va_D A (wL cI cZ a q σ)) (hS : va_S A s.heap H locs) {ls : Array Slot} (hl : lv_has ls 2 [(0, .ref (a 0)), (1, .int x1)]) : W p l e (rmK 8 120 K N) s m args below meth c H locs kc ks (TxQ below args s D A (fun q (σ : StL) => (wL cI cZ a q σ)) v u K N) (F0 m 0 ls []) := by
  obtain ⟨hx, hb, hr, hml, hown, hts, hlk, hK⟩ := id C0
  have hcs : kc ≤ K ∧ ks ≤ N := ⟨by omega, by omega⟩
  unfold f_L_settled at h
  refine lv_iload_n hx hb d_L_settled_0 rfl (lv_at hl 1 rfl) ?_
  refine lv_iconst (v := (-1)) hx hb d_L_settled_1 (by decide) ?_
  refine lv_icmp_ne (tgt := 22) hx hb d_L_settled_2 (by decide) (fun hc => ?_) (fun hc => ?_)
  · rw [if_neg hc] at h
    refine lv_aload_n hx hb d_L_settled_22 rfl (lv_at hl 0 rfl) ?_
    refine va_get (ci := 0) (v := .ref (a 10)) (C := R_L) (T := F_L) (N := 6) hx hb hts i_L hown hK.1 hP 0 rfl rfl 2 (by decide) (hts _ wd_85) (fun _ h9 => h9) rfl d_L_settled_23 ?_
    replace h := bd h
    obtain ⟨r1, g1, h⟩ := h
    refine rw_Vv (n := 0) (ci := 2) (As := []) (rest := []) (Wn := fun q => (wL cI cZ a q (L_set_types σ r1.2))) C0 hA (c_T_settle l D cI cZ a q (L_types σ) g1) wd_166 ⟨wd_167, wd_168, wd_169, wd_52⟩ (by decide +kernel) ⟨Nat.le_of_ble_eq_true rfl, Nat.le_of_ble_eq_true rfl⟩ hP hD hS [10, 11, 12, 13, 14, 15, 16, 17, 18] [0, 1, 2, 3, 4, 5, 6, 7, 8, 9, 19, 20] [0, 1, 2, 3, 4, 5, 6, 7, 8, 9, 12, 13, 14, 15, 16, 17, 18, 19, 20, 10, 11] jn_L_types_C (by decide) jn_L_types_R (by decide) (by decide) (by decide) jn_L_types_W rfl rfl rfl hl rfl rfl (Nat.le_of_ble_eq_true rfl) hcs d_L_settled_26 (fun H locs q hP hD hS => ?_)
    try dsimp only at h
    refine lv_iload_n hx hb d_L_settled_29 rfl (lv_at hl 1 rfl) ?_
    cases h; exact tx_ret C0 hP hD hS (by omega) (by omega) d_L_settled_30
  · rw [if_pos hc] at h
    refine lv_aload_n hx hb d_L_settled_5 rfl (lv_at hl 0 rfl) ?_
    refine va_get (ci := 0) (v := .ref (a 10)) (C := R_L) (T := F_L) (N := 6) hx hb hts i_L hown hK.1 hP 0 rfl rfl 2 (by decide) (hts _ wd_85) (fun _ h9 => h9) rfl d_L_settled_6 ?_
    replace h := bd h
    obtain ⟨r2, g2, h⟩ := h
    refine rw_Vv (n := 0) (ci := 2) (As := []) (rest := []) (Wn := fun q => (wL cI cZ a q (L_set_types σ r2.2))) C0 hA (c_T_dropUnsettled l D cI cZ a q (L_types σ) g2) wd_170 ⟨wd_171, wd_172, wd_173, wd_52⟩ (by decide +kernel) ⟨Nat.le_of_ble_eq_true rfl, Nat.le_of_ble_eq_true rfl⟩ hP hD hS [10, 11, 12, 13, 14, 15, 16, 17, 18] [0, 1, 2, 3, 4, 5, 6, 7, 8, 9, 19, 20] [0, 1, 2, 3, 4, 5, 6, 7, 8, 9, 12, 13, 14, 15, 16, 17, 18, 19, 20, 10, 11] jn_L_types_C (by decide) jn_L_types_R (by decide) (by decide) (by decide) jn_L_types_W rfl rfl rfl hl rfl rfl (Nat.le_of_ble_eq_true rfl) hcs d_L_settled_9 (fun H locs q hP hD hS => ?_)
    try dsimp only at h
    cases h
    exact tx_throw (k := 2) C0 hT hl0 hZ hP hD hS wd_80 wd_81 (List.mem_of_getElem? (i := 9) rfl) th_2_54_58_a th_2_54_58_b thI_2 d_L_settled_12 d_L_settled_15 d_L_settled_16 d_L_settled_18 d_L_settled_21 hl (Nat.le_of_ble_eq_true rfl) (Nat.le_of_ble_eq_true rfl) (by show kc + 1 ≤ K; omega) (by show ks + 6 ≤ N; omega) (by omega) (by omega)
set_option maxHeartbeats 4000000 in
set_option maxRecDepth 100000 in
theorem c_L_settled (l : Launch) (D : va_G) (cI cZ : ClassId) (a : Nat → Nat) (hl0 : l.stackTraces = false) (q : Nat) (σ : StL) (x1 : Int32) {res : (Int32 ⊕ Nat) × StL × Nat × Nat} (h : f_L_settled σ x1 = some res) : TxM l y_L_settled b_L_settled 2 (some .int) 8 120 D [(cI, .int), (cZ, .boolean)] [.ref (a 0), .int x1] (fun q (σ : StL) => (wL cI cZ a q σ)) q σ res :=
  tx_of (by decide) (Nat.le_of_ble_eq_true rfl) (fun p e s m args below meth c ls A C0 hA hT hZ hP hD hS hl => t_L_settled_0 (a := a) (kc := 0) (ks := 0) C0 hA hT hl0 hZ h (Nat.zero_add _) (Nat.zero_add _) hP hD hS (lv_sub hl [0, 1] rfl))
