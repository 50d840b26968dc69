def f_L_type (σ : StL) (x1 x2 : Int32) : Option ((Int32 ⊕ Nat) × StL × Nat × Nat) :=
  (f_L_requireType σ x1).bind fun r1 => ad_ r1.2.2.1 r1.2.2.2 <| match r1.1 with
  | .inr e => some (.inr e, r1.2.1, 0, 0)
  | .inl r1v =>
  if x2 = 0 then
    (f_T_kindOf (L_types r1.2.1) x1).bind fun r2 =>
    some (.inl r2, r1.2.1, 0, 0)
  else if x2 = 1 then
    (f_T_classOf (L_types r1.2.1) x1).bind fun r3 =>
    some (.inl r3, r1.2.1, 0, 0)
  else if x2 = 2 then
    (f_T_argumentAt (L_types r1.2.1) x1).bind fun r4 =>
    some (.inl (f_L_howOf r4), r1.2.1, 0, 0)
  else if x2 = 3 then
    (f_T_kindOf (L_types r1.2.1) x1).bind fun r5 =>
    if r5 = 2 then
      (f_T_elementOf (L_types r1.2.1) x1).bind fun r7 =>
      some (.inl r7, r1.2.1, 0, 0)
    else
      (f_T_argumentAt (L_types r1.2.1) x1).bind fun r6 =>
      some (.inl (f_L_typeOf r6), r1.2.1, 0, 0)
  else if x2 = 4 then
    (f_T_countParts (L_types r1.2.1) x1).bind fun r8 =>
    some (.inl r8, r1.2.1, 0, 0)
  else if x2 = 5 then
    (f_T_sizeOf (L_types r1.2.1) x1).bind fun r9 =>
    some (.inl r9, r1.2.1, 0, 0)
  else some (.inr 3, r1.2.1, 1, 6)
set_option maxHeartbeats 4000000 in
set_option maxRecDepth 100000 in
theorem t_L_type_0 {p : Program} {l : Launch} {e : Env} {s : State} {m : MethodId} {args : Array Value} {below : List Frame} {meth : Method} {c : Code} {D : va_G} {cI cZ : ClassId} {a : Nat → Nat} {A : Nat → Prop} (C0 : Am p s m args meth c b_L_type (some .int) 3 R_L D [(cI, .int), (cZ, .boolean)]) (hA : ∀ q, s.heap.size ≤ q → A q) (hT : ∀ x ∈ c.exceptionTable.toList, False) (hl0 : l.stackTraces = false) (hZ : Zs A s s.heap) {v : Int32 ⊕ Nat} {u : StL} {K N : Nat}   {q : Nat} {σ : StL} {x1 x2 : Int32} {kc ks mc ms : Nat} (h : f_L_type σ x1 x2 = some (v, u, mc, ms)) (hkc : kc + mc = K) (hks : ks + ms = N) {H : Heap} {locs : List Loc} (hP : va_P D vwCl (wL cI cZ a q σ) H) (hD : va_D A (wL cI cZ a q σ)) (hS : va_S A s.heap H locs) {ls : Array Slot} (hl : lv_has ls 3 [(0, .ref (a 0)), (1, .int x1), (2, .int x2)]) : W p l e (rmK 9 141 K N) s m args below meth c H locs kc ks (TxQ below args s D A (fun q (σ : StL) => (wL cI cZ a q σ)) v u K N) (F0 m 0 ls []) := by
  obtain ⟨hx, hb, hr, hml, hown, hts, hlk, hK⟩ := id C0
  have hcs : kc ≤ K ∧ ks ≤ N := ⟨by omega, by omega⟩
  unfold f_L_type at h
  refine lv_aload_n hx hb d_L_type_0 rfl (lv_at hl 0 rfl) ?_
  refine lv_iload_n hx hb d_L_type_1 rfl (lv_at hl 1 rfl) ?_
  replace h := bd h
  obtain ⟨r1, g1, h⟩ := h
  try dsimp only at h
  replace h := ad_s h
  obtain ⟨mc, ms, h, rfl, rfl⟩ := h
  refine tx_Vv (n := 1) (ci := 0) (As := [.int x1]) (rest := []) (Wn := fun q => (wL cI cZ a q r1.2.1)) C0 hA hZ (c_L_requireType l D cI cZ a hl0 q σ x1 g1) wd_160 ⟨wd_161, wd_162, wd_163, wd_55⟩ (by decide +kernel) ⟨Nat.le_of_ble_eq_true rfl, Nat.le_of_ble_eq_true rfl⟩ hP hD hS [0, 1, 2, 3, 4, 5, 6, 7, 8, 9, 10, 11, 12, 13, 14, 15, 16, 17, 18, 19, 20] [] [0, 1, 2, 3, 4, 5, 6, 7, 8, 9, 10, 11, 12, 13, 14, 15, 16, 17, 18, 19, 20] jn_L__C (by decide) jn_L__R (by decide) (by decide) (by decide) jn_L__W rfl rfl rfl hl rfl rfl (Nat.le_of_ble_eq_true rfl) ⟨by show kc + _ ≤ K; omega, by show ks + _ ≤ N; omega⟩ d_L_type_2 (fun ek H locs q q9 ce hv hP hD hS h1 h2 h3 => ?_) (fun r1v H locs q hv hP hD hS => ?_)
  · rw [hv] at h
    cases h
    exact tx_out C0 hT hP hD hS h1 h2 h3 (by omega) (by omega)
  · rw [hv] at h
    try dsimp only at h
    have hkc : (kc + r1.2.2.1) + mc = K := by omega
    have hks : (ks + r1.2.2.2) + ms = N := by omega
    have hcs : (kc + r1.2.2.1) ≤ K ∧ (ks + r1.2.2.2) ≤ N := ⟨by omega, by omega⟩
    refine lv_iload_n hx hb d_L_type_5 rfl (lv_at hl 2 rfl) ?_
    by_cases e6_0 : x2 = 0
    · rw [if_pos e6_0] at h
      refine lv_tableIn (off := 38) (tgt := 44) hx hb d_L_type_6 (by rw [e6_0]; decide) (by rw [e6_0]; decide) (by rw [e6_0]; rfl) (by decide) ?_
      refine lv_aload_n hx hb d_L_type_44 rfl (lv_at hl 0 rfl) ?_
      refine va_get (ci := 0) (v := .ref (a 10)) (C := R_L) (T := F_L) (N := 6) hx hb hts i_L hown hK.1 hP 0 rfl rfl 2 (by decide) (hts _ wd_85) (fun _ h9 => h9) rfl d_L_type_45 ?_
      refine lv_iload_n hx hb d_L_type_48 rfl (lv_at hl 1 rfl) ?_
      replace h := bd h
      obtain ⟨r2, g2, h⟩ := h
      refine ro_V (n := 1) (ci := 2) (As := [.int x1]) (rest := []) C0 (c_T_kindOf l D cI cZ a q (L_types r1.2.1) x1 g2) wd_99 ⟨wd_100, wd_101, wd_102, wd_52⟩ (by decide +kernel) ⟨Nat.le_of_ble_eq_true rfl, Nat.le_of_ble_eq_true rfl⟩ (hP.pick [10, 11, 12, 13, 14, 15, 16, 17, 18] rfl) rfl rfl rfl hl rfl rfl (Nat.le_of_ble_eq_true rfl) hcs d_L_type_49 ?_
      try dsimp only at h
      cases h; exact tx_ret C0 hP hD hS (by omega) (by omega) d_L_type_52
    · rw [if_neg e6_0] at h
      by_cases e6_1 : x2 = 1
      · rw [if_pos e6_1] at h
        refine lv_tableIn (off := 47) (tgt := 53) hx hb d_L_type_6 (by rw [e6_1]; decide) (by rw [e6_1]; decide) (by rw [e6_1]; rfl) (by decide) ?_
        refine lv_aload_n hx hb d_L_type_53 rfl (lv_at hl 0 rfl) ?_
        refine va_get (ci := 0) (v := .ref (a 10)) (C := R_L) (T := F_L) (N := 6) hx hb hts i_L hown hK.1 hP 0 rfl rfl 2 (by decide) (hts _ wd_85) (fun _ h9 => h9) rfl d_L_type_54 ?_
        refine lv_iload_n hx hb d_L_type_57 rfl (lv_at hl 1 rfl) ?_
        replace h := bd h
        obtain ⟨r3, g3, h⟩ := h
        refine ro_V (n := 1) (ci := 2) (As := [.int x1]) (rest := []) C0 (c_T_classOf l D cI cZ a q (L_types r1.2.1) x1 g3) wd_195 ⟨wd_196, wd_197, wd_198, wd_52⟩ (by decide +kernel) ⟨Nat.le_of_ble_eq_true rfl, Nat.le_of_ble_eq_true rfl⟩ (hP.pick [10, 11, 12, 13, 14, 15, 16, 17, 18] rfl) rfl rfl rfl hl rfl rfl (Nat.le_of_ble_eq_true rfl) hcs d_L_type_58 ?_
        try dsimp only at h
        cases h; exact tx_ret C0 hP hD hS (by omega) (by omega) d_L_type_61
      · rw [if_neg e6_1] at h
        by_cases e6_2 : x2 = 2
        · rw [if_pos e6_2] at h
          refine lv_tableIn (off := 56) (tgt := 62) hx hb d_L_type_6 (by rw [e6_2]; decide) (by rw [e6_2]; decide) (by rw [e6_2]; rfl) (by decide) ?_
          refine lv_aload_n hx hb d_L_type_62 rfl (lv_at hl 0 rfl) ?_
          refine va_get (ci := 0) (v := .ref (a 10)) (C := R_L) (T := F_L) (N := 6) hx hb hts i_L hown hK.1 hP 0 rfl rfl 2 (by decide) (hts _ wd_85) (fun _ h9 => h9) rfl d_L_type_63 ?_
          refine lv_iload_n hx hb d_L_type_66 rfl (lv_at hl 1 rfl) ?_
          replace h := bd h
          obtain ⟨r4, g4, h⟩ := h
          refine ro_V (n := 1) (ci := 2) (As := [.int x1]) (rest := []) C0 (c_T_argumentAt l D cI cZ a q (L_types r1.2.1) x1 g4) wd_217 ⟨wd_218, wd_219, wd_220, wd_52⟩ (by decide +kernel) ⟨Nat.le_of_ble_eq_true rfl, Nat.le_of_ble_eq_true rfl⟩ (hP.pick [10, 11, 12, 13, 14, 15, 16, 17, 18] rfl) rfl rfl rfl hl rfl rfl (Nat.le_of_ble_eq_true rfl) hcs d_L_type_67 ?_
          try dsimp only at h
          refine ro_S (n := 1) (As := [.int r4]) (rest := []) C0 (c_L_howOf l D cI cZ a r4 rfl) wd_245 ⟨wd_246, wd_247, wd_55⟩ (by decide +kernel) ⟨Nat.le_of_ble_eq_true rfl, Nat.le_of_ble_eq_true rfl⟩ pnil hl rfl rfl (Nat.le_of_ble_eq_true rfl) hcs d_L_type_70 ?_
          cases h; exact tx_ret C0 hP hD hS (by omega) (by omega) d_L_type_73
        · rw [if_neg e6_2] at h
          by_cases e6_3 : x2 = 3
          · rw [if_pos e6_3] at h
            refine lv_tableIn (off := 68) (tgt := 74) hx hb d_L_type_6 (by rw [e6_3]; decide) (by rw [e6_3]; decide) (by rw [e6_3]; rfl) (by decide) ?_
            refine lv_aload_n hx hb d_L_type_74 rfl (lv_at hl 0 rfl) ?_
            refine va_get (ci := 0) (v := .ref (a 10)) (C := R_L) (T := F_L) (N := 6) hx hb hts i_L hown hK.1 hP 0 rfl rfl 2 (by decide) (hts _ wd_85) (fun _ h9 => h9) rfl d_L_type_75 ?_
            refine lv_iload_n hx hb d_L_type_78 rfl (lv_at hl 1 rfl) ?_
            replace h := bd h
            obtain ⟨r5, g5, h⟩ := h
            refine ro_V (n := 1) (ci := 2) (As := [.int x1]) (rest := []) C0 (c_T_kindOf l D cI cZ a q (L_types r1.2.1) x1 g5) wd_99 ⟨wd_100, wd_101, wd_102, wd_52⟩ (by decide +kernel) ⟨Nat.le_of_ble_eq_true rfl, Nat.le_of_ble_eq_true rfl⟩ (hP.pick [10, 11, 12, 13, 14, 15, 16, 17, 18] rfl) rfl rfl rfl hl rfl rfl (Nat.le_of_ble_eq_true rfl) hcs d_L_type_79 ?_
            try dsimp only at h
            refine lv_iconst (v := 2) hx hb d_L_type_82 (by decide) ?_
            refine lv_icmp_ne (tgt := 97) hx hb d_L_type_83 (by decide) (fun hc => ?_) (fun hc => ?_)
            · rw [if_neg hc] at h
              refine lv_aload_n hx hb d_L_type_97 rfl (lv_at hl 0 rfl) ?_
              refine va_get (ci := 0) (v := .ref (a 10)) (C := R_L) (T := F_L) (N := 6) hx hb hts i_L hown hK.1 hP 0 rfl rfl 2 (by decide) (hts _ wd_85) (fun _ h9 => h9) rfl d_L_type_98 ?_
              refine lv_iload_n hx hb d_L_type_101 rfl (lv_at hl 1 rfl) ?_
              replace h := bd h
              obtain ⟨r6, g6, h⟩ := h
              refine ro_V (n := 1) (ci := 2) (As := [.int x1]) (rest := []) C0 (c_T_argumentAt l D cI cZ a q (L_types r1.2.1) x1 g6) wd_217 ⟨wd_218, wd_219, wd_220, wd_52⟩ (by decide +kernel) ⟨Nat.le_of_ble_eq_true rfl, Nat.le_of_ble_eq_true rfl⟩ (hP.pick [10, 11, 12, 13, 14, 15, 16, 17, 18] rfl) rfl rfl rfl hl rfl rfl (Nat.le_of_ble_eq_true rfl) hcs d_L_type_102 ?_
              try dsimp only at h
              refine ro_S (n := 1) (As := [.int r6]) (rest := []) C0 (c_L_typeOf l D cI cZ a r6 rfl) wd_240 ⟨wd_53, wd_54, wd_55⟩ (by decide +kernel) ⟨Nat.le_of_ble_eq_true rfl, Nat.le_of_ble_eq_true rfl⟩ pnil hl rfl rfl (Nat.le_of_ble_eq_true rfl) hcs d_L_type_105 ?_
              cases h; exact tx_ret C0 hP hD hS (by omega) (by omega) d_L_type_108
            · rw [if_pos hc] at h
              refine lv_aload_n hx hb d_L_type_86 rfl (lv_at hl 0 rfl) ?_
              refine va_get (ci := 0) (v := .ref (a 10)) (C := R_L) (T := F_L) (N := 6) hx hb hts i_L hown hK.1 hP 0 rfl rfl 2 (by decide) (hts _ wd_85) (fun _ h9 => h9) rfl d_L_type_87 ?_
              refine lv_iload_n hx hb d_L_type_90 rfl (lv_at hl 1 rfl) ?_
              replace h := bd h
              obtain ⟨r7, g7, h⟩ := h
              refine ro_V (n := 1) (ci := 2) (As := [.int x1]) (rest := []) C0 (c_T_elementOf l D cI cZ a q (L_types r1.2.1) x1 g7) wd_187 ⟨wd_188, wd_189, wd_190, wd_52⟩ (by decide +kernel) ⟨Nat.le_of_ble_eq_true rfl, Nat.le_of_ble_eq_true rfl⟩ (hP.pick [10, 11, 12, 13, 14, 15, 16, 17, 18] rfl) rfl rfl rfl hl rfl rfl (Nat.le_of_ble_eq_true rfl) hcs d_L_type_91 ?_
              try dsimp only at h
              refine lv_goto (tgt := 108) hx hb d_L_type_94 (by decide) ?_
              cases h; exact tx_ret C0 hP hD hS (by omega) (by omega) d_L_type_108
          · rw [if_neg e6_3] at h
            by_cases e6_4 : x2 = 4
            · rw [if_pos e6_4] at h
              refine lv_tableIn (off := 103) (tgt := 109) hx hb d_L_type_6 (by rw [e6_4]; decide) (by rw [e6_4]; decide) (by rw [e6_4]; rfl) (by decide) ?_
              refine lv_aload_n hx hb d_L_type_109 rfl (lv_at hl 0 rfl) ?_
              refine va_get (ci := 0) (v := .ref (a 10)) (C := R_L) (T := F_L) (N := 6) hx hb hts i_L hown hK.1 hP 0 rfl rfl 2 (by decide) (hts _ wd_85) (fun _ h9 => h9) rfl d_L_type_110 ?_
              refine lv_iload_n hx hb d_L_type_113 rfl (lv_at hl 1 rfl) ?_
              replace h := bd h
              obtain ⟨r8, g8, h⟩ := h
              refine ro_V (n := 1) (ci := 2) (As := [.int x1]) (rest := []) C0 (c_T_countParts l D cI cZ a q (L_types r1.2.1) x1 g8) wd_200 ⟨wd_201, wd_202, wd_203, wd_52⟩ (by decide +kernel) ⟨Nat.le_of_ble_eq_true rfl, Nat.le_of_ble_eq_true rfl⟩ (hP.pick [10, 11, 12, 13, 14, 15, 16, 17, 18] rfl) rfl rfl rfl hl rfl rfl (Nat.le_of_ble_eq_true rfl) hcs d_L_type_114 ?_
              try dsimp only at h
              cases h; exact tx_ret C0 hP hD hS (by omega) (by omega) d_L_type_117
            · rw [if_neg e6_4] at h
              by_cases e6_5 : x2 = 5
              · rw [if_pos e6_5] at h
                refine lv_tableIn (off := 112) (tgt := 118) hx hb d_L_type_6 (by rw [e6_5]; decide) (by rw [e6_5]; decide) (by rw [e6_5]; rfl) (by decide) ?_
                refine lv_aload_n hx hb d_L_type_118 rfl (lv_at hl 0 rfl) ?_
                refine va_get (ci := 0) (v := .ref (a 10)) (C := R_L) (T := F_L) (N := 6) hx hb hts i_L hown hK.1 hP 0 rfl rfl 2 (by decide) (hts _ wd_85) (fun _ h9 => h9) rfl d_L_type_119 ?_
                refine lv_iload_n hx hb d_L_type_122 rfl (lv_at hl 1 rfl) ?_
                replace h := bd h
                obtain ⟨r9, g9, h⟩ := h
                refine ro_V (n := 1) (ci := 2) (As := [.int x1]) (rest := []) C0 (c_T_sizeOf l D cI cZ a q (L_types r1.2.1) x1 g9) wd_325 ⟨wd_57, wd_58, wd_59, wd_52⟩ (by decide +kernel) ⟨Nat.le_of_ble_eq_true rfl, Nat.le_of_ble_eq_true rfl⟩ (hP.pick [10, 11, 12, 13, 14, 15, 16, 17, 18] rfl) rfl rfl rfl hl rfl rfl (Nat.le_of_ble_eq_true rfl) hcs d_L_type_123 ?_
                try dsimp only at h
                cases h; exact tx_ret C0 hP hD hS (by omega) (by omega) d_L_type_126
              · rw [if_neg e6_5] at h
                refine lv_tableOut (tgt := 127) hx hb d_L_type_6 (by have n0 := lv_neT (a := 0) e6_0 (by decide); have n1 := lv_neT (a := 1) e6_1 (by decide); have n2 := lv_neT (a := 2) e6_2 (by decide); have n3 := lv_neT (a := 3) e6_3 (by decide); have n4 := lv_neT (a := 4) e6_4 (by decide); have n5 := lv_neT (a := 5) e6_5 (by decide); omega) (by decide) ?_
                cases h
                exact tx_throw (k := 3) C0 hT hl0 hZ hP hD hS wd_164 wd_165 (List.mem_of_getElem? (i := 10) rfl) th_3_87_91_a th_3_87_91_b thI_3 d_L_type_127 d_L_type_130 d_L_type_131 d_L_type_133 d_L_type_136 hl (Nat.le_of_ble_eq_true rfl) (Nat.le_of_ble_eq_true rfl) (by show (kc + r1.2.2.1) + 1 ≤ K; omega) (by show (ks + r1.2.2.2) + 6 ≤ N; omega) (by omega) (by omega)
set_option maxHeartbeats 4000000 in
set_option maxRecDepth 100000 in
theorem c_L_type (l : Launch) (D : va_G) (cI cZ : ClassId) (a : Nat → Nat) (hl0 : l.stackTraces = false) (q : Nat) (σ : StL) (x1 : Int32) (x2 : Int32) {res : (Int32 ⊕ Nat) × StL × Nat × Nat} (h : f_L_type σ x1 x2 = some res) : TxM l y_L_type b_L_type 3 (some .int) 9 141 D [(cI, .int), (cZ, .boolean)] [.ref (a 0), .int x1, .int x2] (fun q (σ : StL) => (wL cI cZ a q σ)) q σ res :=
  tx_of (by decide) (Nat.le_of_ble_eq_true rfl) (fun p e s m args below meth c ls A C0 hA hT hZ hP hD hS hl => t_L_type_0 (a := a) (kc := 0) (ks := 0) C0 hA hT hl0 hZ h (Nat.zero_add _) (Nat.zero_add _) hP hD hS (lv_sub hl [0, 1, 2] rfl))
