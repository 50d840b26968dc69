def f_L_lower (σ : StL) (x1 x2 : Int32) : Option ((Int32 ⊕ Nat) × StL × Nat × Nat) :=
  (f_L_requireType σ x1).bind fun r1 => ad_ r1.2.2.1 r1.2.2.2 <| match r1.1 with
  | .inr e => some (.inr e, r1.2.1, 0, 0)
  | .inl r1v =>
  (f_L_requireType r1.2.1 x2).bind fun r2 => ad_ r2.2.2.1 r2.2.2.2 <| match r2.1 with
  | .inr e => some (.inr e, r2.2.1, 0, 0)
  | .inl r2v =>
  (f_L_liesBelow 101 r2.2.1 x1 x2 100).bind fun r3 =>
  if r3.1 = 0 then
    (f_L_liesBelow 101 r3.2 x2 x1 100).bind fun r4 =>
    if r4.1 = 0 then
      (f_L_gatherParts r4.2 x1 x2).bind fun r5 =>
      (f_L_dropNeedless r5.2 r5.1).bind fun r6 =>
      (f_L_orderByClass r6.2 r6.1).bind fun r7 =>
      if r7.1 = 0 then
        some (.inl (-1), r7.2, 0, 0)
      else
        (f_T_makeIntersection (90, (L_row r7.2)) (L_types r7.2) 0 r7.1).bind fun r8 => ad_ r8.2.2.1 r8.2.2.2 <| match r8.1 with
        | .inr e => some (.inr e, (L_set_types r7.2 r8.2.1), 0, 0)
        | .inl r8v =>
        (f_L_settled (L_set_types r7.2 r8.2.1) r8v).bind fun r9 => ad_ r9.2.2.1 r9.2.2.2 <| match r9.1 with
        | .inr e => some (.inr e, r9.2.1, 0, 0)
        | .inl r9v =>
        some (.inl r9v, r9.2.1, 0, 0)
    else
      some (.inl x2, r4.2, 0, 0)
  else
    some (.inl x1, r3.2, 0, 0)
set_option maxHeartbeats 4000000 in
set_option maxRecDepth 100000 in
theorem t_L_lower_0 {p : Program} {l : Launch} {e : Env} {s : State} {m : MethodId} {args : Array Value} {below : List Frame} {meth : Method} {c : Code} {D : va_G} {cI cZ : ClassId} {a : Nat → Nat} {A : Nat → Prop} (C0 : Am p s m args meth c b_L_lower (some .int) 4 R_L D [(cI, .int), (cZ, .boolean)]) (hA : ∀ q, s.heap.size ≤ q → A q) (hT : ∀ x ∈ c.exceptionTable.toList, False) (hl0 : l.stackTraces = false) (hZ : Zs A s s.heap) {v : Int32 ⊕ Nat} {u : StL} {K N : Nat}   {q : Nat} {σ : StL} {x1 x2 : Int32} {kc ks mc ms : Nat} (h : f_L_lower σ x1 x2 = some (v, u, mc, ms)) (hkc : kc + mc = K) (hks : ks + ms = N) {H : Heap} {locs : List Loc} (hP : va_P D vwCl (wL cI cZ a q σ) H) (hD : va_D A (wL cI cZ a q σ)) (hS : va_S A s.heap H locs) {ls : Array Slot} (hl : lv_has ls 4 [(0, .ref (a 0)), (1, .int x1), (2, .int x2)]) : W p l e (rmK 208 5502 K N) s m args below meth c H locs kc ks (TxQ below args s D A (fun q (σ : StL) => (wL cI cZ a q σ)) v u K N) (F0 m 0 ls []) := by
  obtain ⟨hx, hb, hr, hml, hown, hts, hlk, hK⟩ := id C0
  have hcs : kc ≤ K ∧ ks ≤ N := ⟨by omega, by omega⟩
  unfold f_L_lower at h
  refine lv_aload_n hx hb d_L_lower_0 rfl (lv_at hl 0 rfl) ?_
  refine lv_iload_n hx hb d_L_lower_1 rfl (lv_at hl 1 rfl) ?_
  replace h := bd h
  obtain ⟨r1, g1, h⟩ := h
  try dsimp only at h
  replace h := ad_s h
  obtain ⟨mc, ms, h, rfl, rfl⟩ := h
  refine tx_Vv (n := 1) (ci := 0) (As := [.int x1]) (rest := []) (Wn := fun q => (wL cI cZ a q r1.2.1)) C0 hA hZ (c_L_requireType l D cI cZ a hl0 q σ x1 g1) wd_160 ⟨wd_161, wd_162, wd_163, wd_55⟩ (by decide +kernel) ⟨Nat.le_of_ble_eq_true rfl, Nat.le_of_ble_eq_true rfl⟩ hP hD hS [0, 1, 2, 3, 4, 5, 6, 7, 8, 9, 10, 11, 12, 13, 14, 15, 16, 17, 18, 19, 20] [] [0, 1, 2, 3, 4, 5, 6, 7, 8, 9, 10, 11, 12, 13, 14, 15, 16, 17, 18, 19, 20] jn_L__C (by decide) jn_L__R (by decide) (by decide) (by decide) jn_L__W rfl rfl rfl hl rfl rfl (Nat.le_of_ble_eq_true rfl) ⟨by show kc + _ ≤ K; omega, by show ks + _ ≤ N; omega⟩ d_L_lower_2 (fun ek H locs q q9 ce hv hP hD hS h1 h2 h3 => ?_) (fun r1v H locs q hv hP hD hS => ?_)
  · rw [hv] at h
    cases h
    exact tx_out C0 hT hP hD hS h1 h2 h3 (by omega) (by omega)
  · rw [hv] at h
    try dsimp only at h
    have hkc : (kc + r1.2.2.1) + mc = K := by omega
    have hks : (ks + r1.2.2.2) + ms = N := by omega
    have hcs : (kc + r1.2.2.1) ≤ K ∧ (ks + r1.2.2.2) ≤ N := ⟨by omega, by omega⟩
    refine lv_aload_n hx hb d_L_lower_5 rfl (lv_at hl 0 rfl) ?_
    refine lv_iload_n hx hb d_L_lower_6 rfl (lv_at hl 2 rfl) ?_
    replace h := bd h
    obtain ⟨r2, g2, h⟩ := h
    try dsimp only at h
    replace h := ad_s h
    obtain ⟨mc, ms, h, rfl, rfl⟩ := h
    refine tx_Vv (n := 1) (ci := 0) (As := [.int x2]) (rest := []) (Wn := fun q => (wL cI cZ a q r2.2.1)) C0 hA hZ (c_L_requireType l D cI cZ a hl0 q r1.2.1 x2 g2) wd_160 ⟨wd_161, wd_162, wd_163, wd_55⟩ (by decide +kernel) ⟨Nat.le_of_ble_eq_true rfl, Nat.le_of_ble_eq_true rfl⟩ hP hD hS [0, 1, 2, 3, 4, 5, 6, 7, 8, 9, 10, 11, 12, 13, 14, 15, 16, 17, 18, 19, 20] [] [0, 1, 2, 3, 4, 5, 6, 7, 8, 9, 10, 11, 12, 13, 14, 15, 16, 17, 18, 19, 20] jn_L__C (by decide) jn_L__R (by decide) (by decide) (by decide) jn_L__W rfl rfl rfl hl rfl rfl (Nat.le_of_ble_eq_true rfl) ⟨by show (kc + r1.2.2.1) + _ ≤ K; omega, by show (ks + r1.2.2.2) + _ ≤ N; omega⟩ d_L_lower_7 (fun ek H locs q q9 ce hv hP hD hS h1 h2 h3 => ?_) (fun r2v H locs q hv hP hD hS => ?_)
    · rw [hv] at h
      cases h
      exact tx_out C0 hT hP hD hS h1 h2 h3 (by omega) (by omega)
    · rw [hv] at h
      try dsimp only at h
      have hkc : ((kc + r1.2.2.1) + r2.2.2.1) + mc = K := by omega
      have hks : ((ks + r1.2.2.2) + r2.2.2.2) + ms = N := by omega
      have hcs : ((kc + r1.2.2.1) + r2.2.2.1) ≤ K ∧ ((ks + r1.2.2.2) + r2.2.2.2) ≤ N := ⟨by omega, by omega⟩
      refine lv_aload_n hx hb d_L_lower_10 rfl (lv_at hl 0 rfl) ?_
      refine lv_iload_n hx hb d_L_lower_11 rfl (lv_at hl 1 rfl) ?_
      refine lv_iload_n hx hb d_L_lower_12 rfl (lv_at hl 2 rfl) ?_
      refine lv_bipush (v := 100) hx hb d_L_lower_13 (by decide) ?_
      replace h := bd h
      obtain ⟨r3, g3, h⟩ := h
      refine rw_V (n := 3) (ci := 0) (As := [.int x1, .int x2, .int 100]) (rest := []) (Wn := fun q => (wL cI cZ a q r3.2)) C0 hA (c_L_liesBelow (n := 101) l D cI cZ a q r2.2.1 x1 x2 100 g3) wd_282 ⟨wd_283, wd_284, wd_285, wd_55⟩ (by decide +kernel) ⟨Nat.le_of_ble_eq_true rfl, Nat.le_of_ble_eq_true rfl⟩ hP hD hS [0, 1, 2, 3, 4, 5, 6, 7, 8, 9, 10, 11, 12, 13, 14, 15, 16, 17, 18, 19, 20] [] [0, 1, 2, 3, 4, 5, 6, 7, 8, 9, 10, 11, 12, 13, 14, 15, 16, 17, 18, 19, 20] jn_L__C (by decide) jn_L__R (by decide) (by decide) (by decide) jn_L__W rfl rfl rfl hl rfl rfl (Nat.le_of_ble_eq_true rfl) hcs d_L_lower_15 (fun H locs q hP hD hS => ?_)
      try dsimp only at h
      refine lv_if_eq (tgt := 23) hx hb d_L_lower_18 (by decide) (fun hc => ?_) (fun hc => ?_)
      · rw [if_pos hc] at h
        refine lv_aload_n hx hb d_L_lower_23 rfl (lv_at hl 0 rfl) ?_
        refine lv_iload_n hx hb d_L_lower_24 rfl (lv_at hl 2 rfl) ?_
        refine lv_iload_n hx hb d_L_lower_25 rfl (lv_at hl 1 rfl) ?_
        refine lv_bipush (v := 100) hx hb d_L_lower_26 (by decide) ?_
        replace h := bd h
        obtain ⟨r4, g4, h⟩ := h
        refine rw_V (n := 3) (ci := 0) (As := [.int x2, .int x1, .int 100]) (rest := []) (Wn := fun q => (wL cI cZ a q r4.2)) C0 hA (c_L_liesBelow (n := 101) l D cI cZ a q r3.2 x2 x1 100 g4) wd_282 ⟨wd_283, wd_284, wd_285, wd_55⟩ (by decide +kernel) ⟨Nat.le_of_ble_eq_true rfl, Nat.le_of_ble_eq_true rfl⟩ hP hD hS [0, 1, 2, 3, 4, 5, 6, 7, 8, 9, 10, 11, 12, 13, 14, 15, 16, 17, 18, 19, 20] [] [0, 1, 2, 3, 4, 5, 6, 7, 8, 9, 10, 11, 12, 13, 14, 15, 16, 17, 18, 19, 20] jn_L__C (by decide) jn_L__R (by decide) (by decide) (by decide) jn_L__W rfl rfl rfl hl rfl rfl (Nat.le_of_ble_eq_true rfl) hcs d_L_lower_28 (fun H locs q hP hD hS => ?_)
        try dsimp only at h
        refine lv_if_eq (tgt := 36) hx hb d_L_lower_31 (by decide) (fun hc => ?_) (fun hc => ?_)
        · rw [if_pos hc] at h
          refine lv_aload_n hx hb d_L_lower_36 rfl (lv_at hl 0 rfl) ?_
          refine lv_aload_n hx hb d_L_lower_37 rfl (lv_at hl 0 rfl) ?_
          refine lv_aload_n hx hb d_L_lower_38 rfl (lv_at hl 0 rfl) ?_
          refine lv_iload_n hx hb d_L_lower_39 rfl (lv_at hl 1 rfl) ?_
          refine lv_iload_n hx hb d_L_lower_40 rfl (lv_at hl 2 rfl) ?_
          replace h := bd h
          obtain ⟨r5, g5, h⟩ := h
          refine rw_V (n := 2) (ci := 0) (As := [.int x1, .int x2]) (rest := [.ref (a 0), .ref (a 0)]) (Wn := fun q => (wL cI cZ a q r5.2)) C0 hA (c_L_gatherParts l D cI cZ a q r4.2 x1 x2 g5) wd_313 ⟨wd_314, wd_315, wd_316, wd_55⟩ (by decide +kernel) ⟨Nat.le_of_ble_eq_true rfl, Nat.le_of_ble_eq_true rfl⟩ hP hD hS [0, 1, 2, 3, 4, 5, 6, 7, 8, 9, 10, 11, 12, 13, 14, 15, 16, 17, 18, 19, 20] [] [0, 1, 2, 3, 4, 5, 6, 7, 8, 9, 10, 11, 12, 13, 14, 15, 16, 17, 18, 19, 20] jn_L__C (by decide) jn_L__R (by decide) (by decide) (by decide) jn_L__W rfl rfl rfl hl rfl rfl (Nat.le_of_ble_eq_true rfl) hcs d_L_lower_41 (fun H locs q hP hD hS => ?_)
          try dsimp only at h
          replace h := bd h
          obtain ⟨r6, g6, h⟩ := h
          refine rw_V (n := 1) (ci := 0) (As := [.int r5.1]) (rest := [.ref (a 0)]) (Wn := fun q => (wL cI cZ a q r6.2)) C0 hA (c_L_dropNeedless l D cI cZ a q r5.2 r5.1 g6) wd_317 ⟨wd_318, wd_319, wd_320, wd_55⟩ (by decide +kernel) ⟨Nat.le_of_ble_eq_true rfl, Nat.le_of_ble_eq_true rfl⟩ hP hD hS [0, 1, 2, 3, 4, 5, 6, 7, 8, 9, 10, 11, 12, 13, 14, 15, 16, 17, 18, 19, 20] [] [0, 1, 2, 3, 4, 5, 6, 7, 8, 9, 10, 11, 12, 13, 14, 15, 16, 17, 18, 19, 20] jn_L__C (by decide) jn_L__R (by decide) (by decide) (by decide) jn_L__W rfl rfl rfl hl rfl rfl (Nat.le_of_ble_eq_true rfl) hcs d_L_lower_44 (fun H locs q hP hD hS => ?_)
          try dsimp only at h
          replace h := bd h
          obtain ⟨r7, g7, h⟩ := h
          refine rw_V (n := 1) (ci := 0) (As := [.int r6.1]) (rest := []) (Wn := fun q => (wL cI cZ a q r7.2)) C0 hA (c_L_orderByClass l D cI cZ a q r6.2 r6.1 g7) wd_321 ⟨wd_322, wd_323, wd_324, wd_55⟩ (by decide +kernel) ⟨Nat.le_of_ble_eq_true rfl, Nat.le_of_ble_eq_true rfl⟩ hP hD hS [0, 1, 2, 3, 4, 5, 6, 7, 8, 9, 10, 11, 12, 13, 14, 15, 16, 17, 18, 19, 20] [] [0, 1, 2, 3, 4, 5, 6, 7, 8, 9, 10, 11, 12, 13, 14, 15, 16, 17, 18, 19, 20] jn_L__C (by decide) jn_L__R (by decide) (by decide) (by decide) jn_L__W rfl rfl rfl hl rfl rfl (Nat.le_of_ble_eq_true rfl) hcs d_L_lower_47 (fun H locs q hP hD hS => ?_)
          try dsimp only at h
          refine lv_istore_n (lv' := [(3, .int r7.1), (0, .ref (a 0)), (1, .int x1), (2, .int x2)]) hx hb d_L_lower_50 rfl hl (by decide) rfl (fun ls hl => ?_)
          refine lv_iload_n hx hb d_L_lower_51 rfl (lv_at hl 0 rfl) ?_
          refine lv_if_ne (tgt := 59) hx hb d_L_lower_52 (by decide) (fun hc => ?_) (fun hc => ?_)
          · rw [if_neg hc] at h
            refine lv_aload_n hx hb d_L_lower_59 rfl (lv_at hl 1 rfl) ?_
            refine lv_aload_n hx hb d_L_lower_60 rfl (lv_at hl 1 rfl) ?_
            refine va_get (ci := 0) (v := .ref (a 10)) (C := R_L) (T := F_L) (N := 6) hx hb hts i_L hown hK.1 hP 0 rfl rfl 2 (by decide) (hts _ wd_85) (fun _ h9 => h9) rfl d_L_lower_61 ?_
            refine lv_aload_n hx hb d_L_lower_64 rfl (lv_at hl 1 rfl) ?_
            refine va_get (ci := 0) (v := .ref (a 1)) (C := R_L) (T := F_L) (N := 6) hx hb hts i_L hown hK.1 hP 0 rfl rfl 4 (by decide) (hts _ wd_256) (fun _ h9 => h9) rfl d_L_lower_65 ?_
            refine lv_iconst (v := 0) hx hb d_L_lower_68 (by decide) ?_
            refine lv_iload_n hx hb d_L_lower_69 rfl (lv_at hl 0 rfl) ?_
            replace h := bd h
            obtain ⟨r8, g8, h⟩ := h
            try dsimp only at h
            replace h := ad_s h
            obtain ⟨mc, ms, h, rfl, rfl⟩ := h
            refine tx_V (n := 3) (ci := 2) (As := [.ref (a 1), .int 0, .int r7.1]) (rest := [.ref (a 0)]) (Wn := fun q => (wL cI cZ a q (L_set_types r7.2 r8.2.1))) C0 hA hZ (c_T_makeIntersection l D cI cZ a hl0 q (L_types r7.2) (90, (L_row (L_set_types r7.2 r8.2.1))) (a 1) 0 r7.1 g8) wd_257 ⟨wd_258, wd_259, wd_260, wd_52⟩ (by decide +kernel) ⟨Nat.le_of_ble_eq_true rfl, Nat.le_of_ble_eq_true rfl⟩ hP hD hS [10, 11, 12, 13, 14, 15, 16, 17, 18, 1] [0, 2, 3, 4, 5, 6, 7, 8, 9, 19, 20] [0, 20, 1, 2, 3, 4, 5, 6, 7, 8, 11, 12, 13, 14, 15, 16, 17, 18, 19, 9, 10] jn_L_types_row_C (by decide) jn_L_types_row_R (by decide) (by decide) (by decide) jn_L_types_row_W rfl rfl rfl hl rfl rfl (Nat.le_of_ble_eq_true rfl) ⟨by show ((kc + r1.2.2.1) + r2.2.2.1) + _ ≤ K; omega, by show ((ks + r1.2.2.2) + r2.2.2.2) + _ ≤ N; omega⟩ d_L_lower_70 (fun ek H locs q q9 ce hv hP hD hS h1 h2 h3 => ?_) (fun r8v H locs q hv hP hD hS => ?_)
            · rw [hv] at h
              cases h
              exact tx_out C0 hT hP hD hS h1 h2 h3 (by omega) (by omega)
            · rw [hv] at h
              try dsimp only at h
              have hkc : (((kc + r1.2.2.1) + r2.2.2.1) + r8.2.2.1) + mc = K := by omega
              have hks : (((ks + r1.2.2.2) + r2.2.2.2) + r8.2.2.2) + ms = N := by omega
              have hcs : (((kc + r1.2.2.1) + r2.2.2.1) + r8.2.2.1) ≤ K ∧ (((ks + r1.2.2.2) + r2.2.2.2) + r8.2.2.2) ≤ N := ⟨by omega, by omega⟩
              replace h := bd h
              obtain ⟨r9, g9, h⟩ := h
              try dsimp only at h
              replace h := ad_s h
              obtain ⟨mc, ms, h, rfl, rfl⟩ := h
              refine tx_V (n := 1) (ci := 0) (As := [.int r8v]) (rest := []) (Wn := fun q => (wL cI cZ a q r9.2.1)) C0 hA hZ (c_L_settled l D cI cZ a hl0 q (L_set_types r7.2 r8.2.1) r8v g9) wd_179 ⟨wd_180, wd_181, wd_182, wd_55⟩ (by decide +kernel) ⟨Nat.le_of_ble_eq_true rfl, Nat.le_of_ble_eq_true rfl⟩ hP hD hS [0, 1, 2, 3, 4, 5, 6, 7, 8, 9, 10, 11, 12, 13, 14, 15, 16, 17, 18, 19, 20] [] [0, 1, 2, 3, 4, 5, 6, 7, 8, 9, 10, 11, 12, 13, 14, 15, 16, 17, 18, 19, 20] jn_L__C (by decide) jn_L__R (by decide) (by decide) (by decide) jn_L__W rfl rfl rfl hl rfl rfl (Nat.le_of_ble_eq_true rfl) ⟨by show (((kc + r1.2.2.1) + r2.2.2.1) + r8.2.2.1) + _ ≤ K; omega, by show (((ks + r1.2.2.2) + r2.2.2.2) + r8.2.2.2) + _ ≤ N; omega⟩ d_L_lower_73 (fun ek H locs q q9 ce hv hP hD hS h1 h2 h3 => ?_) (fun r9v H locs q hv hP hD hS => ?_)
              · rw [hv] at h
                cases h
                exact tx_out C0 hT hP hD hS h1 h2 h3 (by omega) (by omega)
              · rw [hv] at h
                try dsimp only at h
                have hkc : ((((kc + r1.2.2.1) + r2.2.2.1) + r8.2.2.1) + r9.2.2.1) + mc = K := by omega
                have hks : ((((ks + r1.2.2.2) + r2.2.2.2) + r8.2.2.2) + r9.2.2.2) + ms = N := by omega
                have hcs : ((((kc + r1.2.2.1) + r2.2.2.1) + r8.2.2.1) + r9.2.2.1) ≤ K ∧ ((((ks + r1.2.2.2) + r2.2.2.2) + r8.2.2.2) + r9.2.2.2) ≤ N := ⟨by omega, by omega⟩
                cases h; exact tx_ret C0 hP hD hS (by omega) (by omega) d_L_lower_76
          · rw [if_pos hc] at h
            refine lv_iconst (v := (-1)) hx hb d_L_lower_55 (by decide) ?_
            refine lv_goto (tgt := 76) hx hb d_L_lower_56 (by decide) ?_
            cases h; exact tx_ret C0 hP hD hS (by omega) (by omega) d_L_lower_76
        · rw [if_neg hc] at h
          refine lv_iload_n hx hb d_L_lower_34 rfl (lv_at hl 2 rfl) ?_
          cases h; exact tx_ret C0 hP hD hS (by omega) (by omega) d_L_lower_35
      · rw [if_neg hc] at h
        refine lv_iload_n hx hb d_L_lower_21 rfl (lv_at hl 1 rfl) ?_
        cases h; exact tx_ret C0 hP hD hS (by omega) (by omega) d_L_lower_22
set_option maxHeartbeats 4000000 in
set_option maxRecDepth 100000 in
theorem c_L_lower (l : Launch) (D : va_G) (cI cZ : ClassId) (a : Nat → Nat) (hl0 : l.stackTraces = false) (q : Nat) (σ : StL) (x1 : Int32) (x2 : Int32) {res : (Int32 ⊕ Nat) × StL × Nat × Nat} (h : f_L_lower σ x1 x2 = some res) : TxM l y_L_lower b_L_lower 4 (some .int) 208 5502 D [(cI, .int), (cZ, .boolean)] [.ref (a 0), .int x1, .int x2] (fun q (σ : StL) => (wL cI cZ a q σ)) q σ res :=
  tx_of (by decide) (Nat.le_of_ble_eq_true rfl) (fun p e s m args below meth c ls A C0 hA hT hZ hP hD hS hl => t_L_lower_0 (a := a) (kc := 0) (ks := 0) C0 hA hT hl0 hZ h (Nat.zero_add _) (Nat.zero_add _) hP hD hS (lv_sub hl [0, 1, 2] rfl))
