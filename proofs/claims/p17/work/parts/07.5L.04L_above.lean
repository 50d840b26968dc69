def f_L_above_14 (σ : StL) (x1 x2 : Int32) : Option ((Int32 ⊕ Nat) × StL × Nat × Nat) :=
  (f_C_mayGet (L_classes σ) x1).bind fun r2 =>
  if r2 = 0 then
    some (.inr 2, σ, 1, 6)
  else
    (f_L_isTellable σ x1 x2).bind fun r3 =>
    if r3 = 0 then
      some (.inr 3, σ, 1, 6)
    else
      (f_C_clashes (L_classes σ) x1 x2).bind fun r4 =>
      if r4 = 0 then
        (f_A_forget (L_answers σ)).bind fun r5 =>
        (f_C_put (L_classes (L_set_answers σ r5.2)) x1 x2).bind fun r6 =>
        some (.inl r6.1, (L_set_classes (L_set_answers σ r5.2) r6.2), 0, 0)
      else
        some (.inr 2, σ, 1, 6)
def f_L_above (σ : StL) (x1 x2 : Int32) : Option ((Int32 ⊕ Nat) × StL × Nat × Nat) :=
  (f_L_requireClass σ x1).bind fun r1 => ad_ r1.2.2.1 r1.2.2.2 <| match r1.1 with
  | .inr e => some (.inr e, r1.2.1, 0, 0)
  | .inl r1v =>
  if x2 < 0 then
    f_L_above_14 r1.2.1 x1 x2
  else
    (f_L_requireType r1.2.1 x2).bind fun r7 => ad_ r7.2.2.1 r7.2.2.2 <| match r7.1 with
    | .inr e => some (.inr e, r7.2.1, 0, 0)
    | .inl r7v =>
    f_L_above_14 r7.2.1 x1 x2
set_option maxHeartbeats 4000000 in
set_option maxRecDepth 100000 in
theorem t_L_above_14 {p : Program} {l : Launch} {e : Env} {s : State} {m : MethodId} {args : Array Value} {below : List Frame} {meth : Method} {c : Code} {D : va_G} {cI cZ : ClassId} {a : Nat → Nat} {A : Nat → Prop} (C0 : Am p s m args meth c b_L_above (some .int) 3 R_L D [(cI, .int), (cZ, .boolean)]) (hA : ∀ q, s.heap.size ≤ q → A q) (hT : ∀ x ∈ c.exceptionTable.toList, False) (hl0 : l.stackTraces = false) (hZ : Zs A s s.heap) {v : Int32 ⊕ Nat} {u : StL} {K N : Nat}   {q : Nat} {σ : StL} {x1 x2 : Int32} {kc ks mc ms : Nat} (h : f_L_above_14 σ x1 x2 = some (v, u, mc, ms)) (hkc : kc + mc = K) (hks : ks + ms = N) {H : Heap} {locs : List Loc} (hP : va_P D vwCl (wL cI cZ a q σ) H) (hD : va_D A (wL cI cZ a q σ)) (hS : va_S A s.heap H locs) {ls : Array Slot} (hl : lv_has ls 3 [(0, .ref (a 0)), (1, .int x1), (2, .int x2)]) : W p l e (rmK 9 141 K N) s m args below meth c H locs kc ks (TxQ below args s D A (fun q (σ : StL) => (wL cI cZ a q σ)) v u K N) (F0 m 14 ls []) := by
  obtain ⟨hx, hb, hr, hml, hown, hts, hlk, hK⟩ := id C0
  have hcs : kc ≤ K ∧ ks ≤ N := ⟨by omega, by omega⟩
  unfold f_L_above_14 at h
  refine lv_aload_n hx hb d_L_above_14 rfl (lv_at hl 0 rfl) ?_
  refine va_get (ci := 0) (v := .ref (a 3)) (C := R_L) (T := F_L) (N := 6) hx hb hts i_L hown hK.1 hP 0 rfl rfl 1 (by decide) (hts _ wd_67) (fun _ h9 => h9) rfl d_L_above_15 ?_
  refine lv_iload_n hx hb d_L_above_18 rfl (lv_at hl 1 rfl) ?_
  replace h := bd h
  obtain ⟨r2, g2, h⟩ := h
  refine ro_V (n := 1) (ci := 1) (As := [.int x1]) (rest := []) C0 (c_C_mayGet l D cI cZ a q (L_classes σ) x1 g2) wd_138 ⟨wd_139, wd_140, wd_141, wd_8⟩ (by decide +kernel) ⟨Nat.le_of_ble_eq_true rfl, Nat.le_of_ble_eq_true rfl⟩ (hP.pick [3, 4, 5, 6, 7, 8, 9] rfl) rfl rfl rfl hl rfl rfl (Nat.le_of_ble_eq_true rfl) hcs d_L_above_19 ?_
  try dsimp only at h
  refine lv_if_ne (tgt := 35) hx hb d_L_above_22 (by decide) (fun hc => ?_) (fun hc => ?_)
  · rw [if_neg hc] at h
    refine lv_aload_n hx hb d_L_above_35 rfl (lv_at hl 0 rfl) ?_
    refine lv_iload_n hx hb d_L_above_36 rfl (lv_at hl 1 rfl) ?_
    refine lv_iload_n hx hb d_L_above_37 rfl (lv_at hl 2 rfl) ?_
    replace h := bd h
    obtain ⟨r3, g3, h⟩ := h
    refine ro_V (n := 2) (ci := 0) (As := [.int x1, .int x2]) (rest := []) C0 (c_L_isTellable l D cI cZ a q σ x1 x2 g3) wd_142 ⟨wd_143, wd_144, wd_145, wd_55⟩ (by decide +kernel) ⟨Nat.le_of_ble_eq_true rfl, Nat.le_of_ble_eq_true rfl⟩ hP rfl rfl rfl hl rfl rfl (Nat.le_of_ble_eq_true rfl) hcs d_L_above_38 ?_
    try dsimp only at h
    refine lv_if_ne (tgt := 54) hx hb d_L_above_41 (by decide) (fun hc => ?_) (fun hc => ?_)
    · rw [if_neg hc] at h
      refine lv_aload_n hx hb d_L_above_54 rfl (lv_at hl 0 rfl) ?_
      refine va_get (ci := 0) (v := .ref (a 3)) (C := R_L) (T := F_L) (N := 6) hx hb hts i_L hown hK.1 hP 0 rfl rfl 1 (by decide) (hts _ wd_67) (fun _ h9 => h9) rfl d_L_above_55 ?_
      refine lv_iload_n hx hb d_L_above_58 rfl (lv_at hl 1 rfl) ?_
      refine lv_iload_n hx hb d_L_above_59 rfl (lv_at hl 2 rfl) ?_
      replace h := bd h
      obtain ⟨r4, g4, h⟩ := h
      refine ro_V (n := 2) (ci := 1) (As := [.int x1, .int x2]) (rest := []) C0 (c_C_clashes l D cI cZ a q (L_classes σ) x1 x2 g4) wd_146 ⟨wd_147, wd_148, wd_149, wd_8⟩ (by decide +kernel) ⟨Nat.le_of_ble_eq_true rfl, Nat.le_of_ble_eq_true rfl⟩ (hP.pick [3, 4, 5, 6, 7, 8, 9] rfl) rfl rfl rfl hl rfl rfl (Nat.le_of_ble_eq_true rfl) hcs d_L_above_60 ?_
      try dsimp only at h
      refine lv_if_eq (tgt := 76) hx hb d_L_above_63 (by decide) (fun hc => ?_) (fun hc => ?_)
      · rw [if_pos hc] at h
        refine lv_aload_n hx hb d_L_above_76 rfl (lv_at hl 0 rfl) ?_
        refine va_get (ci := 0) (v := .ref (a 18)) (C := R_L) (T := F_L) (N := 6) hx hb hts i_L hown hK.1 hP 0 rfl rfl 3 (by decide) (hts _ wd_150) (fun _ h9 => h9) rfl d_L_above_77 ?_
        replace h := bd h
        obtain ⟨r5, g5, h⟩ := h
        refine rw_Vv (n := 0) (ci := 3) (As := []) (rest := []) (Wn := fun _ => (wL cI cZ a q (L_set_answers σ r5.2))) C0 hA (c_A_forget l D cI cZ a q (L_answers σ) g5) wd_151 ⟨wd_152, wd_153, wd_154, wd_155⟩ (by decide +kernel) ⟨Nat.le_of_ble_eq_true rfl, Nat.le_of_ble_eq_true rfl⟩ hP hD hS [19, 20] [0, 1, 2, 3, 4, 5, 6, 7, 8, 9, 10, 11, 12, 13, 14, 15, 16, 17, 18] [0, 1, 2, 3, 4, 5, 6, 7, 8, 9, 10, 11, 12, 13, 14, 15, 16, 17, 18, 19, 20] jn_L_answers_C (by decide) jn_L_answers_R (by decide) (by decide) (by decide) jn_L_answers_W rfl rfl rfl hl rfl rfl (Nat.le_of_ble_eq_true rfl) hcs d_L_above_80 (fun H locs _ hP hD hS => ?_)
        try dsimp only at h
        refine lv_aload_n hx hb d_L_above_83 rfl (lv_at hl 0 rfl) ?_
        refine va_get (ci := 0) (v := .ref (a 3)) (C := R_L) (T := F_L) (N := 6) hx hb hts i_L hown hK.1 hP 0 rfl rfl 1 (by decide) (hts _ wd_67) (fun _ h9 => h9) rfl d_L_above_84 ?_
        refine lv_iload_n hx hb d_L_above_87 rfl (lv_at hl 1 rfl) ?_
        refine lv_iload_n hx hb d_L_above_88 rfl (lv_at hl 2 rfl) ?_
        replace h := bd h
        obtain ⟨r6, g6, h⟩ := h
        refine rw_V (n := 2) (ci := 1) (As := [.int x1, .int x2]) (rest := []) (Wn := fun _ => (wL cI cZ a q (L_set_classes (L_set_answers σ r5.2) r6.2))) C0 hA (c_C_put l D cI cZ a q (L_classes (L_set_answers σ r5.2)) x1 x2 g6) wd_156 ⟨wd_157, wd_158, wd_159, wd_8⟩ (by decide +kernel) ⟨Nat.le_of_ble_eq_true rfl, Nat.le_of_ble_eq_true rfl⟩ hP hD hS [3, 4, 5, 6, 7, 8, 9] [0, 1, 2, 10, 11, 12, 13, 14, 15, 16, 17, 18, 19, 20] [0, 1, 2, 14, 15, 16, 17, 18, 19, 20, 3, 4, 5, 6, 7, 8, 9, 10, 11, 12, 13] jn_L_classes_C (by decide) jn_L_classes_R (by decide) (by decide) (by decide) jn_L_classes_W rfl rfl rfl hl rfl rfl (Nat.le_of_ble_eq_true rfl) hcs d_L_above_89 (fun H locs _ hP hD hS => ?_)
        try dsimp only at h
        cases h; exact tx_ret C0 hP hD hS (by omega) (by omega) d_L_above_92
      · rw [if_neg hc] at h
        cases h
        exact tx_throw (k := 2) C0 hT hl0 hZ hP hD hS wd_80 wd_81 (List.mem_of_getElem? (i := 6) rfl) th_2_54_58_a th_2_54_58_b thI_2 d_L_above_66 d_L_above_69 d_L_above_70 d_L_above_72 d_L_above_75 hl (Nat.le_of_ble_eq_true rfl) (Nat.le_of_ble_eq_true rfl) (by show kc + 1 ≤ K; omega) (by show ks + 6 ≤ N; omega) (by omega) (by omega)
    · rw [if_pos hc] at h
      cases h
      exact tx_throw (k := 3) C0 hT hl0 hZ hP hD hS wd_164 wd_165 (List.mem_of_getElem? (i := 5) rfl) th_3_87_91_a th_3_87_91_b thI_3 d_L_above_44 d_L_above_47 d_L_above_48 d_L_above_50 d_L_above_53 hl (Nat.le_of_ble_eq_true rfl) (Nat.le_of_ble_eq_true rfl) (by show kc + 1 ≤ K; omega) (by show ks + 6 ≤ N; omega) (by omega) (by omega)
  · rw [if_pos hc] at h
    cases h
    exact tx_throw (k := 2) C0 hT hl0 hZ hP hD hS wd_80 wd_81 (List.mem_of_getElem? (i := 4) rfl) th_2_54_58_a th_2_54_58_b thI_2 d_L_above_25 d_L_above_28 d_L_above_29 d_L_above_31 d_L_above_34 hl (Nat.le_of_ble_eq_true rfl) (Nat.le_of_ble_eq_true rfl) (by show kc + 1 ≤ K; omega) (by show ks + 6 ≤ N; omega) (by omega) (by omega)
set_option maxHeartbeats 4000000 in
set_option maxRecDepth 100000 in
theorem t_L_above_0 {p : Program} {l : Launch} {e : Env} {s : State} {m : MethodId} {args : Array Value} {below : List Frame} {meth : Method} {c : Code} {D : va_G} {cI cZ : ClassId} {a : Nat → Nat} {A : Nat → Prop} (C0 : Am p s m args meth c b_L_above (some .int) 3 R_L D [(cI, .int), (cZ, .boolean)]) (hA : ∀ q, s.heap.size ≤ q → A q) (hT : ∀ x ∈ c.exceptionTable.toList, False) (hl0 : l.stackTraces = false) (hZ : Zs A s s.heap) {v : Int32 ⊕ Nat} {u : StL} {K N : Nat}   {q : Nat} {σ : StL} {x1 x2 : Int32} {kc ks mc ms : Nat} (h : f_L_above σ x1 x2 = some (v, u, mc, ms)) (hkc : kc + mc = K) (hks : ks + ms = N) {H : Heap} {locs : List Loc} (hP : va_P D vwCl (wL cI cZ a q σ) H) (hD : va_D A (wL cI cZ a q σ)) (hS : va_S A s.heap H locs) {ls : Array Slot} (hl : lv_has ls 3 [(0, .ref (a 0)), (1, .int x1), (2, .int x2)]) : W p l e (rmK 9 141 K N) s m args below meth c H locs kc ks (TxQ below args s D A (fun q (σ : StL) => (wL cI cZ a q σ)) v u K N) (F0 m 0 ls []) := by
  obtain ⟨hx, hb, hr, hml, hown, hts, hlk, hK⟩ := id C0
  have hcs : kc ≤ K ∧ ks ≤ N := ⟨by omega, by omega⟩
  unfold f_L_above at h
  refine lv_aload_n hx hb d_L_above_0 rfl (lv_at hl 0 rfl) ?_
  refine lv_iload_n hx hb d_L_above_1 rfl (lv_at hl 1 rfl) ?_
  replace h := bd h
  obtain ⟨r1, g1, h⟩ := h
  try dsimp only at h
  replace h := ad_s h
  obtain ⟨mc, ms, h, rfl, rfl⟩ := h
  refine tx_Vv (n := 1) (ci := 0) (As := [.int x1]) (rest := []) (Wn := fun q => (wL cI cZ a q r1.2.1)) C0 hA hZ (c_L_requireClass l D cI cZ a hl0 q σ x1 g1) wd_134 ⟨wd_135, wd_136, wd_137, wd_55⟩ (by decide +kernel) ⟨Nat.le_of_ble_eq_true rfl, Nat.le_of_ble_eq_true rfl⟩ hP hD hS [0, 1, 2, 3, 4, 5, 6, 7, 8, 9, 10, 11, 12, 13, 14, 15, 16, 17, 18, 19, 20] [] [0, 1, 2, 3, 4, 5, 6, 7, 8, 9, 10, 11, 12, 13, 14, 15, 16, 17, 18, 19, 20] jn_L__C (by decide) jn_L__R (by decide) (by decide) (by decide) jn_L__W rfl rfl rfl hl rfl rfl (Nat.le_of_ble_eq_true rfl) ⟨by show kc + _ ≤ K; omega, by show ks + _ ≤ N; omega⟩ d_L_above_2 (fun ek H locs q q9 ce hv hP hD hS h1 h2 h3 => ?_) (fun r1v H locs q hv hP hD hS => ?_)
  · rw [hv] at h
    cases h
    exact tx_out C0 hT hP hD hS h1 h2 h3 (by omega) (by omega)
  · rw [hv] at h
    try dsimp only at h
    have hkc : (kc + r1.2.2.1) + mc = K := by omega
    have hks : (ks + r1.2.2.2) + ms = N := by omega
    have hcs : (kc + r1.2.2.1) ≤ K ∧ (ks + r1.2.2.2) ≤ N := ⟨by omega, by omega⟩
    refine lv_iload_n hx hb d_L_above_5 rfl (lv_at hl 2 rfl) ?_
    refine lv_if_lt (tgt := 14) hx hb d_L_above_6 (by decide) (fun hc => ?_) (fun hc => ?_)
    · rw [if_pos hc] at h
      exact t_L_above_14 (a := a) C0 hA hT hl0 hZ  h hkc hks hP hD hS (lv_sub hl [0, 1, 2] rfl)
    · rw [if_neg hc] at h
      refine lv_aload_n hx hb d_L_above_9 rfl (lv_at hl 0 rfl) ?_
      refine lv_iload_n hx hb d_L_above_10 rfl (lv_at hl 2 rfl) ?_
      replace h := bd h
      obtain ⟨r7, g7, h⟩ := h
      try dsimp only at h
      replace h := ad_s h
      obtain ⟨mc, ms, h, rfl, rfl⟩ := h
      refine tx_Vv (n := 1) (ci := 0) (As := [.int x2]) (rest := []) (Wn := fun q => (wL cI cZ a q r7.2.1)) C0 hA hZ (c_L_requireType l D cI cZ a hl0 q r1.2.1 x2 g7) wd_160 ⟨wd_161, wd_162, wd_163, wd_55⟩ (by decide +kernel) ⟨Nat.le_of_ble_eq_true rfl, Nat.le_of_ble_eq_true rfl⟩ hP hD hS [0, 1, 2, 3, 4, 5, 6, 7, 8, 9, 10, 11, 12, 13, 14, 15, 16, 17, 18, 19, 20] [] [0, 1, 2, 3, 4, 5, 6, 7, 8, 9, 10, 11, 12, 13, 14, 15, 16, 17, 18, 19, 20] jn_L__C (by decide) jn_L__R (by decide) (by decide) (by decide) jn_L__W rfl rfl rfl hl rfl rfl (Nat.le_of_ble_eq_true rfl) ⟨by show (kc + r1.2.2.1) + _ ≤ K; omega, by show (ks + r1.2.2.2) + _ ≤ N; omega⟩ d_L_above_11 (fun ek H locs q q9 ce hv hP hD hS h1 h2 h3 => ?_) (fun r7v H locs q hv hP hD hS => ?_)
      · rw [hv] at h
        cases h
        exact tx_out C0 hT hP hD hS h1 h2 h3 (by omega) (by omega)
      · rw [hv] at h
        try dsimp only at h
        have hkc : ((kc + r1.2.2.1) + r7.2.2.1) + mc = K := by omega
        have hks : ((ks + r1.2.2.2) + r7.2.2.2) + ms = N := by omega
        have hcs : ((kc + r1.2.2.1) + r7.2.2.1) ≤ K ∧ ((ks + r1.2.2.2) + r7.2.2.2) ≤ N := ⟨by omega, by omega⟩
        exact t_L_above_14 (a := a) C0 hA hT hl0 hZ  h hkc hks hP hD hS (lv_sub hl [0, 1, 2] rfl)
set_option maxHeartbeats 4000000 in
set_option maxRecDepth 100000 in
theorem c_L_above (l : Launch) (D : va_G) (cI cZ : ClassId) (a : Nat → Nat) (hl0 : l.stackTraces = false) (q : Nat) (σ : StL) (x1 : Int32) (x2 : Int32) {res : (Int32 ⊕ Nat) × StL × Nat × Nat} (h : f_L_above σ x1 x2 = some res) : TxM l y_L_above b_L_above 3 (some .int) 9 141 D [(cI, .int), (cZ, .boolean)] [.ref (a 0), .int x1, .int x2] (fun q (σ : StL) => (wL cI cZ a q σ)) q σ res :=
  tx_of (by decide) (Nat.le_of_ble_eq_true rfl) (fun p e s m args below meth c ls A C0 hA hT hZ hP hD hS hl => t_L_above_0 (a := a) (kc := 0) (ks := 0) C0 hA hT hl0 hZ h (Nat.zero_add _) (Nat.zero_add _) hP hD hS (lv_sub hl [0, 1, 2] rfl))
