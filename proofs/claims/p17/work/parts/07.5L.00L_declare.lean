def f_L_declare_48 (σ : StL) (x1 x2 : Int32) : Option ((Int32 ⊕ Nat) × StL × Nat × Nat) :=
  (f_C_add (L_classes σ) x1 x2).bind fun r1 =>
  some (.inl r1.1, (L_set_classes σ r1.2), 0, 0)
def f_L_declare (σ : StL) (x1 x2 : Int32) : Option ((Int32 ⊕ Nat) × StL × Nat × Nat) :=
  if (f_C_count (L_classes σ)) < 30 then
    if x2 = 0 then
      f_L_declare_48 σ x1 x2
    else
      if (f_C_countGeneric (L_classes σ)) < 6 then
        f_L_declare_48 σ x1 x2
      else
        some (.inr 2, σ, 1, 6)
  else
    some (.inr 2, σ, 1, 6)
set_option maxHeartbeats 4000000 in
set_option maxRecDepth 100000 in
theorem t_L_declare_48 {p : Program} {l : Launch} {e : Env} {s : State} {m : MethodId} {args : Array Value} {below : List Frame} {meth : Method} {c : Code} {D : va_G} {cI cZ : ClassId} {a : Nat → Nat} {A : Nat → Prop} (C0 : Am p s m args meth c b_L_declare (some .int) 3 R_L D [(cI, .int), (cZ, .boolean)]) (hA : ∀ q, s.heap.size ≤ q → A q) (hT : ∀ x ∈ c.exceptionTable.toList, False) (hl0 : l.stackTraces = false) (hZ : Zs A s s.heap) {v : Int32 ⊕ Nat} {u : StL} {K N : Nat}   {q : Nat} {σ : StL} {x1 x2 : Int32} {kc ks mc ms : Nat} (h : f_L_declare_48 σ x1 x2 = some (v, u, mc, ms)) (hkc : kc + mc = K) (hks : ks + ms = N) {H : Heap} {locs : List Loc} (hP : va_P D vwCl (wL cI cZ a q σ) H) (hD : va_D A (wL cI cZ a q σ)) (hS : va_S A s.heap H locs) {ls : Array Slot} (hl : lv_has ls 3 [(0, .ref (a 0)), (1, .int x1), (2, .int x2)]) : W p l e (rmK 8 120 K N) s m args below meth c H locs kc ks (TxQ below args s D A (fun q (σ : StL) => (wL cI cZ a q σ)) v u K N) (F0 m 48 ls []) := by
  obtain ⟨hx, hb, hr, hml, hown, hts, hlk, hK⟩ := id C0
  have hcs : kc ≤ K ∧ ks ≤ N := ⟨by omega, by omega⟩
  unfold f_L_declare_48 at h
  refine lv_aload_n hx hb d_L_declare_48 rfl (lv_at hl 0 rfl) ?_
  refine va_get (ci := 0) (v := .ref (a 3)) (C := R_L) (T := F_L) (N := 6) hx hb hts i_L hown hK.1 hP 0 rfl rfl 1 (by decide) (hts _ wd_67) (fun _ h9 => h9) rfl d_L_declare_49 ?_
  refine lv_iload_n hx hb d_L_declare_52 rfl (lv_at hl 1 rfl) ?_
  refine lv_iload_n hx hb d_L_declare_53 rfl (lv_at hl 2 rfl) ?_
  replace h := bd h
  obtain ⟨r1, g1, h⟩ := h
  refine rw_V (n := 2) (ci := 1) (As := [.int x1, .int x2]) (rest := []) (Wn := fun _ => (wL cI cZ a q (L_set_classes σ r1.2))) C0 hA (c_C_add l D cI cZ a q (L_classes σ) x1 x2 g1) wd_72 ⟨wd_73, wd_74, wd_75, wd_8⟩ (by decide +kernel) ⟨Nat.le_of_ble_eq_true rfl, Nat.le_of_ble_eq_true rfl⟩ hP hD hS [3, 4, 5, 6, 7, 8, 9] [0, 1, 2, 10, 11, 12, 13, 14, 15, 16, 17, 18, 19, 20] [0, 1, 2, 14, 15, 16, 17, 18, 19, 20, 3, 4, 5, 6, 7, 8, 9, 10, 11, 12, 13] jn_L_classes_C (by decide) jn_L_classes_R (by decide) (by decide) (by decide) jn_L_classes_W rfl rfl rfl hl rfl rfl (Nat.le_of_ble_eq_true rfl) hcs d_L_declare_54 (fun H locs _ hP hD hS => ?_)
  try dsimp only at h
  cases h; exact tx_ret C0 hP hD hS (by omega) (by omega) d_L_declare_57
set_option maxHeartbeats 4000000 in
set_option maxRecDepth 100000 in
theorem t_L_declare_0 {p : Program} {l : Launch} {e : Env} {s : State} {m : MethodId} {args : Array Value} {below : List Frame} {meth : Method} {c : Code} {D : va_G} {cI cZ : ClassId} {a : Nat → Nat} {A : Nat → Prop} (C0 : Am p s m args meth c b_L_declare (some .int) 3 R_L D [(cI, .int), (cZ, .boolean)]) (hA : ∀ q, s.heap.size ≤ q → A q) (hT : ∀ x ∈ c.exceptionTable.toList, False) (hl0 : l.stackTraces = false) (hZ : Zs A s s.heap) {v : Int32 ⊕ Nat} {u : StL} {K N : Nat}   {q : Nat} {σ : StL} {x1 x2 : Int32} {kc ks mc ms : Nat} (h : f_L_declare σ x1 x2 = some (v, u, mc, ms)) (hkc : kc + mc = K) (hks : ks + ms = N) {H : Heap} {locs : List Loc} (hP : va_P D vwCl (wL cI cZ a q σ) H) (hD : va_D A (wL cI cZ a q σ)) (hS : va_S A s.heap H locs) {ls : Array Slot} (hl : lv_has ls 3 [(0, .ref (a 0)), (1, .int x1), (2, .int x2)]) : W p l e (rmK 8 120 K N) s m args below meth c H locs kc ks (TxQ below args s D A (fun q (σ : StL) => (wL cI cZ a q σ)) v u K N) (F0 m 0 ls []) := by
  obtain ⟨hx, hb, hr, hml, hown, hts, hlk, hK⟩ := id C0
  have hcs : kc ≤ K ∧ ks ≤ N := ⟨by omega, by omega⟩
  unfold f_L_declare at h
  refine lv_aload_n hx hb d_L_declare_0 rfl (lv_at hl 0 rfl) ?_
  refine va_get (ci := 0) (v := .ref (a 3)) (C := R_L) (T := F_L) (N := 6) hx hb hts i_L hown hK.1 hP 0 rfl rfl 1 (by decide) (hts _ wd_67) (fun _ h9 => h9) rfl d_L_declare_1 ?_
  refine ro_V (n := 0) (ci := 1) (As := []) (rest := []) C0 (c_C_count l D cI cZ a q (L_classes σ) rfl) wd_68 ⟨wd_69, wd_70, wd_71, wd_8⟩ (by decide +kernel) ⟨Nat.le_of_ble_eq_true rfl, Nat.le_of_ble_eq_true rfl⟩ (hP.pick [3, 4, 5, 6, 7, 8, 9] rfl) rfl rfl rfl hl rfl rfl (Nat.le_of_ble_eq_true rfl) hcs d_L_declare_4 ?_
  refine lv_bipush (v := 30) hx hb d_L_declare_7 (by decide) ?_
  refine lv_icmp_lt (tgt := 22) hx hb d_L_declare_9 (by decide) (fun hc => ?_) (fun hc => ?_)
  · rw [if_pos hc] at h
    refine lv_iload_n hx hb d_L_declare_22 rfl (lv_at hl 2 rfl) ?_
    refine lv_if_eq (tgt := 48) hx hb d_L_declare_23 (by decide) (fun hc => ?_) (fun hc => ?_)
    · rw [if_pos hc] at h
      exact t_L_declare_48 (a := a) C0 hA hT hl0 hZ  h hkc hks hP hD hS (lv_sub hl [0, 1, 2] rfl)
    · rw [if_neg hc] at h
      refine lv_aload_n hx hb d_L_declare_26 rfl (lv_at hl 0 rfl) ?_
      refine va_get (ci := 0) (v := .ref (a 3)) (C := R_L) (T := F_L) (N := 6) hx hb hts i_L hown hK.1 hP 0 rfl rfl 1 (by decide) (hts _ wd_67) (fun _ h9 => h9) rfl d_L_declare_27 ?_
      refine ro_V (n := 0) (ci := 1) (As := []) (rest := []) C0 (c_C_countGeneric l D cI cZ a q (L_classes σ) rfl) wd_76 ⟨wd_77, wd_78, wd_79, wd_8⟩ (by decide +kernel) ⟨Nat.le_of_ble_eq_true rfl, Nat.le_of_ble_eq_true rfl⟩ (hP.pick [3, 4, 5, 6, 7, 8, 9] rfl) rfl rfl rfl hl rfl rfl (Nat.le_of_ble_eq_true rfl) hcs d_L_declare_30 ?_
      refine lv_bipush (v := 6) hx hb d_L_declare_33 (by decide) ?_
      refine lv_icmp_lt (tgt := 48) hx hb d_L_declare_35 (by decide) (fun hc => ?_) (fun hc => ?_)
      · rw [if_pos hc] at h
        exact t_L_declare_48 (a := a) C0 hA hT hl0 hZ  h hkc hks hP hD hS (lv_sub hl [0, 1, 2] rfl)
      · rw [if_neg hc] at h
        cases h
        exact tx_throw (k := 2) C0 hT hl0 hZ hP hD hS wd_80 wd_81 (List.mem_of_getElem? (i := 1) rfl) th_2_54_58_a th_2_54_58_b thI_2 d_L_declare_38 d_L_declare_41 d_L_declare_42 d_L_declare_44 d_L_declare_47 hl (Nat.le_of_ble_eq_true rfl) (Nat.le_of_ble_eq_true rfl) (by show kc + 1 ≤ K; omega) (by show ks + 6 ≤ N; omega) (by omega) (by omega)
  · rw [if_neg hc] at h
    cases h
    exact tx_throw (k := 2) C0 hT hl0 hZ hP hD hS wd_80 wd_81 (List.mem_of_getElem? (i := 0) rfl) th_2_54_58_a th_2_54_58_b thI_2 d_L_declare_12 d_L_declare_15 d_L_declare_16 d_L_declare_18 d_L_declare_21 hl (Nat.le_of_ble_eq_true rfl) (Nat.le_of_ble_eq_true rfl) (by show kc + 1 ≤ K; omega) (by show ks + 6 ≤ N; omega) (by omega) (by omega)
set_option maxHeartbeats 4000000 in
set_option maxRecDepth 100000 in
theorem c_L_declare (l : Launch) (D : va_G) (cI cZ : ClassId) (a : Nat → Nat) (hl0 : l.stackTraces = false) (q : Nat) (σ : StL) (x1 : Int32) (x2 : Int32) {res : (Int32 ⊕ Nat) × StL × Nat × Nat} (h : f_L_declare σ x1 x2 = some res) : TxM l y_L_declare b_L_declare 3 (some .int) 8 120 D [(cI, .int), (cZ, .boolean)] [.ref (a 0), .int x1, .int x2] (fun q (σ : StL) => (wL cI cZ a q σ)) q σ res :=
  tx_of (by decide) (Nat.le_of_ble_eq_true rfl) (fun p e s m args below meth c ls A C0 hA hT hZ hP hD hS hl => t_L_declare_0 (a := a) (kc := 0) (ks := 0) C0 hA hT hl0 hZ h (Nat.zero_add _) (Nat.zero_add _) hP hD hS (lv_sub hl [0, 1, 2] rfl))
