def f_L_common (σ : StL) (x1 x2 x3 : Int32) : Option ((Int32 ⊕ Nat) × StL × Nat × Nat) :=
  (f_L_requireType σ x1).bind fun r1 => ad_ r1.2.2.1 r1.2.2.2 <| match r1.1 with
  | .inr e => some (.inr e, r1.2.1, 0, 0)
  | .inl r1v =>
  (f_L_requireType r1.2.1 x2).bind fun r2 => ad_ r2.2.2.1 r2.2.2.2 <| match r2.1 with
  | .inr e => some (.inr e, r2.2.1, 0, 0)
  | .inl r2v =>
  if x3 = 0 then
    (f_L_commonOf r2.2.1 x1 x2).bind fun r3 =>
    some (.inl (f_J_bitCount r3), r2.2.1, 0, 0)
  else if x3 = 1 then
    (f_L_commonOf r2.2.1 x1 x2).bind fun r4 =>
    (f_C_leastOf (L_classes r2.2.1) r4).bind fun r5 =>
    some (.inl (f_J_bitCount r5), r2.2.1, 0, 0)
  else some (.inr 3, r2.2.1, 1, 6)
set_option maxHeartbeats 4000000 in
set_option maxRecDepth 100000 in
theorem t_L_common_0 {p : Program} {l : Launch} {e : Env} {s : State} {m : MethodId} {args : Array Value} {below : List Frame} {meth : Method} {c : Code} {D : va_G} {cI cZ : ClassId} {a : Nat → Nat} {A : Nat → Prop} (C0 : Am p s m args meth c b_L_common (some .int) 4 R_L D [(cI, .int), (cZ, .boolean)]) (hA : ∀ q, s.heap.size ≤ q → A q) (hT : ∀ x ∈ c.exceptionTable.toList, False) (hl0 : l.stackTraces = false) (hZ : Zs A s s.heap) {v : Int32 ⊕ Nat} {u : StL} {K N : Nat}   {q : Nat} {σ : StL} {x1 x2 x3 : Int32} {kc ks mc ms : Nat} (h : f_L_common σ x1 x2 x3 = some (v, u, mc, ms)) (hkc : kc + mc = K) (hks : ks + ms = N) {H : Heap} {locs : List Loc} (hP : va_P D vwCl (wL cI cZ a q σ) H) (hD : va_D A (wL cI cZ a q σ)) (hS : va_S A s.heap H locs) {ls : Array Slot} (hl : lv_has ls 4 [(0, .ref (a 0)), (1, .int x1), (2, .int x2), (3, .int x3)]) : W p l e (rmK 9 141 K N) s m args below meth c H locs kc ks (TxQ below args s D A (fun q (σ : StL) => (wL cI cZ a q σ)) v u K N) (F0 m 0 ls []) := by
  obtain ⟨hx, hb, hr, hml, hown, hts, hlk, hK⟩ := id C0
  have hcs : kc ≤ K ∧ ks ≤ N := ⟨by omega, by omega⟩
  unfold f_L_common at h
  refine lv_aload_n hx hb d_L_common_0 rfl (lv_at hl 0 rfl) ?_
  refine lv_iload_n hx hb d_L_common_1 rfl (lv_at hl 1 rfl) ?_
  replace h := bd h
  obtain ⟨r1, g1, h⟩ := h
  try dsimp only at h
  replace h := ad_s h
  obtain ⟨mc, ms, h, rfl, rfl⟩ := h
  refine tx_Vv (n := 1) (ci := 0) (As := [.int x1]) (rest := []) (Wn := fun q => (wL cI cZ a q r1.2.1)) C0 hA hZ (c_L_requireType l D cI cZ a hl0 q σ x1 g1) wd_160 ⟨wd_161, wd_162, wd_163, wd_55⟩ (by decide +kernel) ⟨Nat.le_of_ble_eq_true rfl, Nat.le_of_ble_eq_true rfl⟩ hP hD hS [0, 1, 2, 3, 4, 5, 6, 7, 8, 9, 10, 11, 12, 13, 14, 15, 16, 17, 18, 19, 20] [] [0, 1, 2, 3, 4, 5, 6, 7, 8, 9, 10, 11, 12, 13, 14, 15, 16, 17, 18, 19, 20] jn_L__C (by decide) jn_L__R (by decide) (by decide) (by decide) jn_L__W rfl rfl rfl hl rfl rfl (Nat.le_of_ble_eq_true rfl) ⟨by show kc + _ ≤ K; omega, by show ks + _ ≤ N; omega⟩ d_L_common_2 (fun ek H locs q q9 ce hv hP hD hS h1 h2 h3 => ?_) (fun r1v H locs q hv hP hD hS => ?_)
  · rw [hv] at h
    cases h
    exact tx_out C0 hT hP hD hS h1 h2 h3 (by omega) (by omega)
  · rw [hv] at h
    try dsimp only at h
    have hkc : (kc + r1.2.2.1) + mc = K := by omega
    have hks : (ks + r1.2.2.2) + ms = N := by omega
    have hcs : (kc + r1.2.2.1) ≤ K ∧ (ks + r1.2.2.2) ≤ N := ⟨by omega, by omega⟩
    refine lv_aload_n hx hb d_L_common_5 rfl (lv_at hl 0 rfl) ?_
    refine lv_iload_n hx hb d_L_common_6 rfl (lv_at hl 2 rfl) ?_
    replace h := bd h
    obtain ⟨r2, g2, h⟩ := h
    try dsimp only at h
    replace h := ad_s h
    obtain ⟨mc, ms, h, rfl, rfl⟩ := h
    refine tx_Vv (n := 1) (ci := 0) (As := [.int x2]) (rest := []) (Wn := fun q => (wL cI cZ a q r2.2.1)) C0 hA hZ (c_L_requireType l D cI cZ a hl0 q r1.2.1 x2 g2) wd_160 ⟨wd_161, wd_162, wd_163, wd_55⟩ (by decide +kernel) ⟨Nat.le_of_ble_eq_true rfl, Nat.le_of_ble_eq_true rfl⟩ hP hD hS [0, 1, 2, 3, 4, 5, 6, 7, 8, 9, 10, 11, 12, 13, 14, 15, 16, 17, 18, 19, 20] [] [0, 1, 2, 3, 4, 5, 6, 7, 8, 9, 10, 11, 12, 13, 14, 15, 16, 17, 18, 19, 20] jn_L__C (by decide) jn_L__R (by decide) (by decide) (by decide) jn_L__W rfl rfl rfl hl rfl rfl (Nat.le_of_ble_eq_true rfl) ⟨by show (kc + r1.2.2.1) + _ ≤ K; omega, by show (ks + r1.2.2.2) + _ ≤ N; omega⟩ d_L_common_7 (fun ek H locs q q9 ce hv hP hD hS h1 h2 h3 => ?_) (fun r2v H locs q hv hP hD hS => ?_)
    · rw [hv] at h
      cases h
      exact tx_out C0 hT hP hD hS h1 h2 h3 (by omega) (by omega)
    · rw [hv] at h
      try dsimp only at h
      have hkc : ((kc + r1.2.2.1) + r2.2.2.1) + mc = K := by omega
      have hks : ((ks + r1.2.2.2) + r2.2.2.2) + ms = N := by omega
      have hcs : ((kc + r1.2.2.1) + r2.2.2.1) ≤ K ∧ ((ks + r1.2.2.2) + r2.2.2.2) ≤ N := ⟨by omega, by omega⟩
      refine lv_iload_n hx hb d_L_common_10 rfl (lv_at hl 3 rfl) ?_
      by_cases e11_0 : x3 = 0
      · rw [if_pos e11_0] at h
        refine lv_lookup (off := 25) (tgt := 36) hx hb d_L_common_11 (by decide) (by rw [e11_0]; rfl) (by decide) ?_
        refine lv_aload_n hx hb d_L_common_36 rfl (lv_at hl 0 rfl) ?_
        refine lv_iload_n hx hb d_L_common_37 rfl (lv_at hl 1 rfl) ?_
        refine lv_iload_n hx hb d_L_common_38 rfl (lv_at hl 2 rfl) ?_
        replace h := bd h
        obtain ⟨r3, g3, h⟩ := h
        refine ro_V (n := 2) (ci := 0) (As := [.int x1, .int x2]) (rest := []) C0 (c_L_commonOf l D cI cZ a q r2.2.1 x1 x2 g3) wd_248 ⟨wd_249, wd_250, wd_251, wd_55⟩ (by decide +kernel) ⟨Nat.le_of_ble_eq_true rfl, Nat.le_of_ble_eq_true rfl⟩ hP rfl rfl rfl hl rfl rfl (Nat.le_of_ble_eq_true rfl) hcs d_L_common_39 ?_
        try dsimp only at h
        refine ro_S (n := 1) (As := [.int r3]) (rest := []) C0 (c_J_bitCount l D cI cZ a r3 rfl) wd_326 ⟨wd_327, wd_328, wd_329⟩ (by decide +kernel) ⟨Nat.le_of_ble_eq_true rfl, Nat.le_of_ble_eq_true rfl⟩ pnil hl rfl rfl (Nat.le_of_ble_eq_true rfl) hcs d_L_common_42 ?_
        cases h; exact tx_ret C0 hP hD hS (by omega) (by omega) d_L_common_45
      · rw [if_neg e11_0] at h
        by_cases e11_1 : x3 = 1
        · rw [if_pos e11_1] at h
          refine lv_lookup (off := 35) (tgt := 46) hx hb d_L_common_11 (by decide) (by rw [e11_1]; rfl) (by decide) ?_
          refine lv_aload_n hx hb d_L_common_46 rfl (lv_at hl 0 rfl) ?_
          refine va_get (ci := 0) (v := .ref (a 3)) (C := R_L) (T := F_L) (N := 6) hx hb hts i_L hown hK.1 hP 0 rfl rfl 1 (by decide) (hts _ wd_67) (fun _ h9 => h9) rfl d_L_common_47 ?_
          refine lv_aload_n hx hb d_L_common_50 rfl (lv_at hl 0 rfl) ?_
          refine lv_iload_n hx hb d_L_common_51 rfl (lv_at hl 1 rfl) ?_
          refine lv_iload_n hx hb d_L_common_52 rfl (lv_at hl 2 rfl) ?_
          replace h := bd h
          obtain ⟨r4, g4, h⟩ := h
          refine ro_V (n := 2) (ci := 0) (As := [.int x1, .int x2]) (rest := [.ref (a 3)]) C0 (c_L_commonOf l D cI cZ a q r2.2.1 x1 x2 g4) wd_248 ⟨wd_249, wd_250, wd_251, wd_55⟩ (by decide +kernel) ⟨Nat.le_of_ble_eq_true rfl, Nat.le_of_ble_eq_true rfl⟩ hP rfl rfl rfl hl rfl rfl (Nat.le_of_ble_eq_true rfl) hcs d_L_common_53 ?_
          try dsimp only at h
          replace h := bd h
          obtain ⟨r5, g5, h⟩ := h
          refine ro_V (n := 1) (ci := 1) (As := [.int r4]) (rest := []) C0 (c_C_leastOf l D cI cZ a q (L_classes r2.2.1) r4 g5) wd_252 ⟨wd_253, wd_254, wd_255, wd_8⟩ (by decide +kernel) ⟨Nat.le_of_ble_eq_true rfl, Nat.le_of_ble_eq_true rfl⟩ (hP.pick [3, 4, 5, 6, 7, 8, 9] rfl) rfl rfl rfl hl rfl rfl (Nat.le_of_ble_eq_true rfl) hcs d_L_common_56 ?_
          try dsimp only at h
          refine ro_S (n := 1) (As := [.int r5]) (rest := []) C0 (c_J_bitCount l D cI cZ a r5 rfl) wd_326 ⟨wd_327, wd_328, wd_329⟩ (by decide +kernel) ⟨Nat.le_of_ble_eq_true rfl, Nat.le_of_ble_eq_true rfl⟩ pnil hl rfl rfl (Nat.le_of_ble_eq_true rfl) hcs d_L_common_59 ?_
          cases h; exact tx_ret C0 hP hD hS (by omega) (by omega) d_L_common_62
        · rw [if_neg e11_1] at h
          refine lv_lookup (off := 52) (tgt := 63) hx hb d_L_common_11 (by decide) (by show Op.lookupswitch.offset [(0, 25), (1, 35)] 52 _ = _; rw [lv_osw e11_0 (by decide), lv_osw e11_1 (by decide)]; rfl) (by decide) ?_
          cases h
          exact tx_throw (k := 3) C0 hT hl0 hZ hP hD hS wd_164 wd_165 (List.mem_of_getElem? (i := 12) rfl) th_3_87_91_a th_3_87_91_b thI_3 d_L_common_63 d_L_common_66 d_L_common_67 d_L_common_69 d_L_common_72 hl (Nat.le_of_ble_eq_true rfl) (Nat.le_of_ble_eq_true rfl) (by show ((kc + r1.2.2.1) + r2.2.2.1) + 1 ≤ K; omega) (by show ((ks + r1.2.2.2) + r2.2.2.2) + 6 ≤ N; omega) (by omega) (by omega)
set_option maxHeartbeats 4000000 in
set_option maxRecDepth 100000 in
theorem c_L_common (l : Launch) (D : va_G) (cI cZ : ClassId) (a : Nat → Nat) (hl0 : l.stackTraces = false) (q : Nat) (σ : StL) (x1 : Int32) (x2 : Int32) (x3 : Int32) {res : (Int32 ⊕ Nat) × StL × Nat × Nat} (h : f_L_common σ x1 x2 x3 = some res) : TxM l y_L_common b_L_common 4 (some .int) 9 141 D [(cI, .int), (cZ, .boolean)] [.ref (a 0), .int x1, .int x2, .int x3] (fun q (σ : StL) => (wL cI cZ a q σ)) q σ res :=
  tx_of (by decide) (Nat.le_of_ble_eq_true rfl) (fun p e s m args below meth c ls A C0 hA hT hZ hP hD hS hl => t_L_common_0 (a := a) (kc := 0) (ks := 0) C0 hA hT hl0 hZ h (Nat.zero_add _) (Nat.zero_add _) hP hD hS (lv_sub hl [0, 1, 2, 3] rfl))
