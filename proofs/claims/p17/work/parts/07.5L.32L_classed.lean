def f_L_classed (σ : StL) (x1 x2 : Int32) : Option ((Int32 ⊕ Nat) × StL × Nat × Nat) :=
  (f_L_requireClass σ x1).bind fun r1 => ad_ r1.2.2.1 r1.2.2.2 <| match r1.1 with
  | .inr e => some (.inr e, r1.2.1, 0, 0)
  | .inl r1v =>
  if x2 = 0 then
    (f_C_isFace (L_classes r1.2.1) x1).bind fun r2 =>
    if r2 = 0 then
      some (.inl 0, r1.2.1, 0, 0)
    else
      some (.inl 1, r1.2.1, 0, 0)
  else if x2 = 1 then
    (f_C_isGeneric (L_classes r1.2.1) x1).bind fun r3 =>
    if r3 = 0 then
      some (.inl 0, r1.2.1, 0, 0)
    else
      some (.inl 1, r1.2.1, 0, 0)
  else if x2 = 2 then
    (f_C_countDirect (L_classes r1.2.1) x1).bind fun r4 =>
    some (.inl r4, r1.2.1, 0, 0)
  else if x2 = 3 then
    (f_C_aboveOf (L_classes r1.2.1) x1).bind fun r5 =>
    some (.inl (f_J_bitCount r5), r1.2.1, 0, 0)
  else some (.inr 3, r1.2.1, 1, 6)
set_option maxHeartbeats 4000000 in
set_option maxRecDepth 100000 in
theorem t_L_classed_0 {p : Program} {l : Launch} {e : Env} {s : State} {m : MethodId} {args : Array Value} {below : List Frame} {meth : Method} {c : Code} {D : va_G} {cI cZ : ClassId} {a : Nat → Nat} {A : Nat → Prop} (C0 : Am p s m args meth c b_L_classed (some .int) 3 R_L D [(cI, .int), (cZ, .boolean)]) (hA : ∀ q, s.heap.size ≤ q → A q) (hT : ∀ x ∈ c.exceptionTable.toList, False) (hl0 : l.stackTraces = false) (hZ : Zs A s s.heap) {v : Int32 ⊕ Nat} {u : StL} {K N : Nat}   {q : Nat} {σ : StL} {x1 x2 : Int32} {kc ks mc ms : Nat} (h : f_L_classed σ x1 x2 = some (v, u, mc, ms)) (hkc : kc + mc = K) (hks : ks + ms = N) {H : Heap} {locs : List Loc} (hP : va_P D vwCl (wL cI cZ a q σ) H) (hD : va_D A (wL cI cZ a q σ)) (hS : va_S A s.heap H locs) {ls : Array Slot} (hl : lv_has ls 3 [(0, .ref (a 0)), (1, .int x1), (2, .int x2)]) : W p l e (rmK 9 141 K N) s m args below meth c H locs kc ks (TxQ below args s D A (fun q (σ : StL) => (wL cI cZ a q σ)) v u K N) (F0 m 0 ls []) := by
  obtain ⟨hx, hb, hr, hml, hown, hts, hlk, hK⟩ := id C0
  have hcs : kc ≤ K ∧ ks ≤ N := ⟨by omega, by omega⟩
  unfold f_L_classed at h
  refine lv_aload_n hx hb d_L_classed_0 rfl (lv_at hl 0 rfl) ?_
  refine lv_iload_n hx hb d_L_classed_1 rfl (lv_at hl 1 rfl) ?_
  replace h := bd h
  obtain ⟨r1, g1, h⟩ := h
  try dsimp only at h
  replace h := ad_s h
  obtain ⟨mc, ms, h, rfl, rfl⟩ := h
  refine tx_Vv (n := 1) (ci := 0) (As := [.int x1]) (rest := []) (Wn := fun q => (wL cI cZ a q r1.2.1)) C0 hA hZ (c_L_requireClass l D cI cZ a hl0 q σ x1 g1) wd_134 ⟨wd_135, wd_136, wd_137, wd_55⟩ (by decide +kernel) ⟨Nat.le_of_ble_eq_true rfl, Nat.le_of_ble_eq_true rfl⟩ hP hD hS [0, 1, 2, 3, 4, 5, 6, 7, 8, 9, 10, 11, 12, 13, 14, 15, 16, 17, 18, 19, 20] [] [0, 1, 2, 3, 4, 5, 6, 7, 8, 9, 10, 11, 12, 13, 14, 15, 16, 17, 18, 19, 20] jn_L__C (by decide) jn_L__R (by decide) (by decide) (by decide) jn_L__W rfl rfl rfl hl rfl rfl (Nat.le_of_ble_eq_true rfl) ⟨by show kc + _ ≤ K; omega, by show ks + _ ≤ N; omega⟩ d_L_classed_2 (fun ek H locs q q9 ce hv hP hD hS h1 h2 h3 => ?_) (fun r1v H locs q hv hP hD hS => ?_)
  · rw [hv] at h
    cases h
    exact tx_out C0 hT hP hD hS h1 h2 h3 (by omega) (by omega)
  · rw [hv] at h
    try dsimp only at h
    have hkc : (kc + r1.2.2.1) + mc = K := by omega
    have hks : (ks + r1.2.2.2) + ms = N := by omega
    have hcs : (kc + r1.2.2.1) ≤ K ∧ (ks + r1.2.2.2) ≤ N := ⟨by omega, by omega⟩
    refine lv_iload_n hx hb d_L_classed_5 rfl (lv_at hl 2 rfl) ?_
    by_cases e6_0 : x2 = 0
    · rw [if_pos e6_0] at h
      refine lv_tableIn (off := 30) (tgt := 36) hx hb d_L_classed_6 (by rw [e6_0]; decide) (by rw [e6_0]; decide) (by rw [e6_0]; rfl) (by decide) ?_
      refine lv_aload_n hx hb d_L_classed_36 rfl (lv_at hl 0 rfl) ?_
      refine va_get (ci := 0) (v := .ref (a 3)) (C := R_L) (T := F_L) (N := 6) hx hb hts i_L hown hK.1 hP 0 rfl rfl 1 (by decide) (hts _ wd_67) (fun _ h9 => h9) rfl d_L_classed_37 ?_
      refine lv_iload_n hx hb d_L_classed_40 rfl (lv_at hl 1 rfl) ?_
      replace h := bd h
      obtain ⟨r2, g2, h⟩ := h
      refine ro_V (n := 1) (ci := 1) (As := [.int x1]) (rest := []) C0 (c_C_isFace l D cI cZ a q (L_classes r1.2.1) x1 g2) wd_312 ⟨wd_33, wd_34, wd_35, wd_8⟩ (by decide +kernel) ⟨Nat.le_of_ble_eq_true rfl, Nat.le_of_ble_eq_true rfl⟩ (hP.pick [3, 4, 5, 6, 7, 8, 9] rfl) rfl rfl rfl hl rfl rfl (Nat.le_of_ble_eq_true rfl) hcs d_L_classed_41 ?_
      try dsimp only at h
      refine lv_if_eq (tgt := 51) hx hb d_L_classed_44 (by decide) (fun hc => ?_) (fun hc => ?_)
      · rw [if_pos hc] at h
        refine lv_iconst (v := 0) hx hb d_L_classed_51 (by decide) ?_
        cases h; exact tx_ret C0 hP hD hS (by omega) (by omega) d_L_classed_52
      · rw [if_neg hc] at h
        refine lv_iconst (v := 1) hx hb d_L_classed_47 (by decide) ?_
        refine lv_goto (tgt := 52) hx hb d_L_classed_48 (by decide) ?_
        cases h; exact tx_ret C0 hP hD hS (by omega) (by omega) d_L_classed_52
    · rw [if_neg e6_0] at h
      by_cases e6_1 : x2 = 1
      · rw [if_pos e6_1] at h
        refine lv_tableIn (off := 47) (tgt := 53) hx hb d_L_classed_6 (by rw [e6_1]; decide) (by rw [e6_1]; decide) (by rw [e6_1]; rfl) (by decide) ?_
        refine lv_aload_n hx hb d_L_classed_53 rfl (lv_at hl 0 rfl) ?_
        refine va_get (ci := 0) (v := .ref (a 3)) (C := R_L) (T := F_L) (N := 6) hx hb hts i_L hown hK.1 hP 0 rfl rfl 1 (by decide) (hts _ wd_67) (fun _ h9 => h9) rfl d_L_classed_54 ?_
        refine lv_iload_n hx hb d_L_classed_57 rfl (lv_at hl 1 rfl) ?_
        replace h := bd h
        obtain ⟨r3, g3, h⟩ := h
        refine ro_V (n := 1) (ci := 1) (As := [.int x1]) (rest := []) C0 (c_C_isGeneric l D cI cZ a q (L_classes r1.2.1) x1 g3) wd_95 ⟨wd_96, wd_97, wd_98, wd_8⟩ (by decide +kernel) ⟨Nat.le_of_ble_eq_true rfl, Nat.le_of_ble_eq_true rfl⟩ (hP.pick [3, 4, 5, 6, 7, 8, 9] rfl) rfl rfl rfl hl rfl rfl (Nat.le_of_ble_eq_true rfl) hcs d_L_classed_58 ?_
        try dsimp only at h
        refine lv_if_eq (tgt := 68) hx hb d_L_classed_61 (by decide) (fun hc => ?_) (fun hc => ?_)
        · rw [if_pos hc] at h
          refine lv_iconst (v := 0) hx hb d_L_classed_68 (by decide) ?_
          cases h; exact tx_ret C0 hP hD hS (by omega) (by omega) d_L_classed_69
        · rw [if_neg hc] at h
          refine lv_iconst (v := 1) hx hb d_L_classed_64 (by decide) ?_
          refine lv_goto (tgt := 69) hx hb d_L_classed_65 (by decide) ?_
          cases h; exact tx_ret C0 hP hD hS (by omega) (by omega) d_L_classed_69
      · rw [if_neg e6_1] at h
        by_cases e6_2 : x2 = 2
        · rw [if_pos e6_2] at h
          refine lv_tableIn (off := 64) (tgt := 70) hx hb d_L_classed_6 (by rw [e6_2]; decide) (by rw [e6_2]; decide) (by rw [e6_2]; rfl) (by decide) ?_
          refine lv_aload_n hx hb d_L_classed_70 rfl (lv_at hl 0 rfl) ?_
          refine va_get (ci := 0) (v := .ref (a 3)) (C := R_L) (T := F_L) (N := 6) hx hb hts i_L hown hK.1 hP 0 rfl rfl 1 (by decide) (hts _ wd_67) (fun _ h9 => h9) rfl d_L_classed_71 ?_
          refine lv_iload_n hx hb d_L_classed_74 rfl (lv_at hl 1 rfl) ?_
          replace h := bd h
          obtain ⟨r4, g4, h⟩ := h
          refine ro_V (n := 1) (ci := 1) (As := [.int x1]) (rest := []) C0 (c_C_countDirect l D cI cZ a q (L_classes r1.2.1) x1 g4) wd_331 ⟨wd_37, wd_38, wd_39, wd_8⟩ (by decide +kernel) ⟨Nat.le_of_ble_eq_true rfl, Nat.le_of_ble_eq_true rfl⟩ (hP.pick [3, 4, 5, 6, 7, 8, 9] rfl) rfl rfl rfl hl rfl rfl (Nat.le_of_ble_eq_true rfl) hcs d_L_classed_75 ?_
          try dsimp only at h
          cases h; exact tx_ret C0 hP hD hS (by omega) (by omega) d_L_classed_78
        · rw [if_neg e6_2] at h
          by_cases e6_3 : x2 = 3
          · rw [if_pos e6_3] at h
            refine lv_tableIn (off := 73) (tgt := 79) hx hb d_L_classed_6 (by rw [e6_3]; decide) (by rw [e6_3]; decide) (by rw [e6_3]; rfl) (by decide) ?_
            refine lv_aload_n hx hb d_L_classed_79 rfl (lv_at hl 0 rfl) ?_
            refine va_get (ci := 0) (v := .ref (a 3)) (C := R_L) (T := F_L) (N := 6) hx hb hts i_L hown hK.1 hP 0 rfl rfl 1 (by decide) (hts _ wd_67) (fun _ h9 => h9) rfl d_L_classed_80 ?_
            refine lv_iload_n hx hb d_L_classed_83 rfl (lv_at hl 1 rfl) ?_
            replace h := bd h
            obtain ⟨r5, g5, h⟩ := h
            refine ro_V (n := 1) (ci := 1) (As := [.int x1]) (rest := []) C0 (c_C_aboveOf l D cI cZ a q (L_classes r1.2.1) x1 g5) wd_330 ⟨wd_120, wd_121, wd_122, wd_8⟩ (by decide +kernel) ⟨Nat.le_of_ble_eq_true rfl, Nat.le_of_ble_eq_true rfl⟩ (hP.pick [3, 4, 5, 6, 7, 8, 9] rfl) rfl rfl rfl hl rfl rfl (Nat.le_of_ble_eq_true rfl) hcs d_L_classed_84 ?_
            try dsimp only at h
            refine ro_S (n := 1) (As := [.int r5]) (rest := []) C0 (c_J_bitCount l D cI cZ a r5 rfl) wd_326 ⟨wd_327, wd_328, wd_329⟩ (by decide +kernel) ⟨Nat.le_of_ble_eq_true rfl, Nat.le_of_ble_eq_true rfl⟩ pnil hl rfl rfl (Nat.le_of_ble_eq_true rfl) hcs d_L_classed_87 ?_
            cases h; exact tx_ret C0 hP hD hS (by omega) (by omega) d_L_classed_90
          · rw [if_neg e6_3] at h
            refine lv_tableOut (tgt := 91) hx hb d_L_classed_6 (by have n0 := lv_neT (a := 0) e6_0 (by decide); have n1 := lv_neT (a := 1) e6_1 (by decide); have n2 := lv_neT (a := 2) e6_2 (by decide); have n3 := lv_neT (a := 3) e6_3 (by decide); omega) (by decide) ?_
            cases h
            exact tx_throw (k := 3) C0 hT hl0 hZ hP hD hS wd_164 wd_165 (List.mem_of_getElem? (i := 13) rfl) th_3_87_91_a th_3_87_91_b thI_3 d_L_classed_91 d_L_classed_94 d_L_classed_95 d_L_classed_97 d_L_classed_100 hl (Nat.le_of_ble_eq_true rfl) (Nat.le_of_ble_eq_true rfl) (by show (kc + r1.2.2.1) + 1 ≤ K; omega) (by show (ks + r1.2.2.2) + 6 ≤ N; omega) (by omega) (by omega)
set_option maxHeartbeats 4000000 in
set_option maxRecDepth 100000 in
theorem c_L_classed (l : Launch) (D : va_G) (cI cZ : ClassId) (a : Nat → Nat) (hl0 : l.stackTraces = false) (q : Nat) (σ : StL) (x1 : Int32) (x2 : Int32) {res : (Int32 ⊕ Nat) × StL × Nat × Nat} (h : f_L_classed σ x1 x2 = some res) : TxM l y_L_classed b_L_classed 3 (some .int) 9 141 D [(cI, .int), (cZ, .boolean)] [.ref (a 0), .int x1, .int x2] (fun q (σ : StL) => (wL cI cZ a q σ)) q σ res :=
  tx_of (by decide) (Nat.le_of_ble_eq_true rfl) (fun p e s m args below meth c ls A C0 hA hT hZ hP hD hS hl => t_L_classed_0 (a := a) (kc := 0) (ks := 0) C0 hA hT hl0 hZ h (Nat.zero_add _) (Nat.zero_add _) hP hD hS (lv_sub hl [0, 1, 2] rfl))
