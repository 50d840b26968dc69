def f_L_boundByClasses_38_s (rec : StL → Int32 → Int32 → Int32 → Option ((Int32 ⊕ Nat) × StL × Nat × Nat)) (k38 : StL → Int32 → Int32 → Int32 → Int32 → Int32 → Int32 → Int32 → Option ((Int32 ⊕ Nat) × StL × Nat × Nat)) (σ : StL) (x1 x2 x3 x4 x5 x6 x7 : Int32) : Option ((Int32 ⊕ Nat) × StL × Nat × Nat) :=
  if 30 ≤ x7 then
    (f_T_makeIntersection (90, (L_row σ)) (L_types σ) x5 x6).bind fun r3 => ad_ r3.2.2.1 r3.2.2.2 <| match r3.1 with
    | .inr e => some (.inr e, (L_set_types σ r3.2.1), 0, 0)
    | .inl r3v =>
    some (.inl r3v, (L_set_types σ r3.2.1), 0, 0)
  else
    if (f_L_has x4 x7) = 0 then
      k38 σ x1 x2 x3 x4 x5 x6 (x7 + 1)
    else
      (f_L_find σ x1 x7).bind fun r4 =>
      (f_L_find σ x2 x7).bind fun r5 =>
      (f_L_boundArgument rec σ r4 r5 x3).bind fun r6 => ad_ r6.2.2.1 r6.2.2.2 <| match r6.1 with
      | .inr e => some (.inr e, r6.2.1, 0, 0)
      | .inl r6v =>
      (f_T_makeNamed (L_types r6.2.1) x7 r6v).bind fun r7 =>
      if r7.1 = (-1) then
        some (.inl (-1), (L_set_types r6.2.1 r7.2), 0, 0)
      else
        if (x5 + x6) < 0 ∨ 90 ≤ (x5 + x6).toNatClampNeg then none else
        k38 (L_put_row (L_set_types r6.2.1 r7.2) (x5 + x6) r7.1) x1 x2 x3 x4 x5 (x6 + 1) (x7 + 1)
def f_L_boundByClasses_38 (rec : StL → Int32 → Int32 → Int32 → Option ((Int32 ⊕ Nat) × StL × Nat × Nat)) : Nat → StL → Int32 → Int32 → Int32 → Int32 → Int32 → Int32 → Int32 → Option ((Int32 ⊕ Nat) × StL × Nat × Nat)
  | 0, _, _, _, _, _, _, _, _ => none
  | n + 1, σ, x1, x2, x3, x4, x5, x6, x7 => f_L_boundByClasses_38_s rec (f_L_boundByClasses_38 rec n) σ x1 x2 x3 x4 x5 x6 x7
def f_L_boundByClasses (rec : StL → Int32 → Int32 → Int32 → Option ((Int32 ⊕ Nat) × StL × Nat × Nat)) (σ : StL) (x1 x2 x3 : Int32) : Option ((Int32 ⊕ Nat) × StL × Nat × Nat) :=
  if x3 < 0 then
    some (.inl (-1), σ, 0, 0)
  else
    if x3 ≤ 2 then
      (f_L_commonOf σ x1 x2).bind fun r1 =>
      (f_C_leastOf (L_classes σ) r1).bind fun r2 =>
      f_L_boundByClasses_38 rec 1000 σ x1 x2 x3 r2 (x3 * 30) 0 0
    else
      some (.inl (-1), σ, 0, 0)
set_option maxHeartbeats 4000000 in
set_option maxRecDepth 100000 in
theorem t_L_boundByClasses_38_s {p : Program} {l : Launch} {e : Env} {s : State} {m : MethodId} {args : Array Value} {below : List Frame} {meth : Method} {c : Code} {D : va_G} {cI cZ : ClassId} {a : Nat → Nat} {A : Nat → Prop} (C0 : Am p s m args meth c b_L_boundByClasses (some .int) 9 R_L D [(cI, .int), (cZ, .boolean)]) (hA : ∀ q, s.heap.size ≤ q → A q) (hT : ∀ x ∈ c.exceptionTable.toList, False) (hl0 : l.stackTraces = false) (hZ : Zs A s s.heap) {v : Int32 ⊕ Nat} {u : StL} {K N : Nat} {rec : StL → Int32 → Int32 → Int32 → Option ((Int32 ⊕ Nat) × StL × Nat × Nat)} {fr0 lc0 : Nat} (hfr : 5 ≤ fr0) (hlc : 132 ≤ lc0) (hrec : ∀ (q : Nat) (σ : StL) (z0 z1 z2 : Int32) (r : (Int32 ⊕ Nat) × StL × Nat × Nat), rec σ z0 z1 z2 = some r → TxM l y_L_upperBound b_L_upperBound 9 (some .int) fr0 lc0 D [(cI, .int), (cZ, .boolean)] [.ref (a 0), .int z0, .int z1, .int z2] (fun q (σ : StL) => wL cI cZ a q σ) q σ r) {k38 : StL → Int32 → Int32 → Int32 → Int32 → Int32 → Int32 → Int32 → Option ((Int32 ⊕ Nat) × StL × Nat × Nat)}  (hk38 : ∀ (q : Nat) (σ : StL) (x1 x2 x3 x4 x5 x6 x7 : Int32) (kc ks mc ms : Nat) (H : Heap) (locs : List Loc) (ls : Array Slot), k38 σ x1 x2 x3 x4 x5 x6 x7 = some (v, u, mc, ms) → kc + mc = K → ks + ms = N → va_P D vwCl (wL cI cZ a q σ) H → va_D A (wL cI cZ a q σ) → va_S A s.heap H locs → lv_has ls 9 [(0, .ref (a 0)), (1, .int x1), (2, .int x2), (3, .int x3), (4, .int x4), (5, .int x5), (6, .int x6), (7, .int x7)] → W p l e (rmK (fr0 + 2) (lc0 + 52) K N) s m args below meth c H locs kc ks (TxQ below args s D A (fun q (σ : StL) => (wL cI cZ a q σ)) v u K N) (F0 m 38 ls [])) {q : Nat} {σ : StL} {x1 x2 x3 x4 x5 x6 x7 : Int32} {kc ks mc ms : Nat} (h : f_L_boundByClasses_38_s rec k38 σ x1 x2 x3 x4 x5 x6 x7 = some (v, u, mc, ms)) (hkc : kc + mc = K) (hks : ks + ms = N) {H : Heap} {locs : List Loc} (hP : va_P D vwCl (wL cI cZ a q σ) H) (hD : va_D A (wL cI cZ a q σ)) (hS : va_S A s.heap H locs) {ls : Array Slot} (hl : lv_has ls 9 [(0, .ref (a 0)), (1, .int x1), (2, .int x2), (3, .int x3), (4, .int x4), (5, .int x5), (6, .int x6), (7, .int x7)]) : W p l e (rmK (fr0 + 2) (lc0 + 52) K N) s m args below meth c H locs kc ks (TxQ below args s D A (fun q (σ : StL) => (wL cI cZ a q σ)) v u K N) (F0 m 38 ls []) := by
  obtain ⟨hx, hb, hr, hml, hown, hts, hlk, hK⟩ := id C0
  have hcs : kc ≤ K ∧ ks ≤ N := ⟨by omega, by omega⟩
  unfold f_L_boundByClasses_38_s at h
  refine lv_iload hx hb d_L_boundByClasses_38 (lv_at hl 7 rfl) ?_
  refine lv_bipush (v := 30) hx hb d_L_boundByClasses_40 (by decide) ?_
  refine lv_icmp_ge (tgt := 114) hx hb d_L_boundByClasses_42 (by decide) (fun hc => ?_) (fun hc => ?_)
  · rw [if_pos hc] at h
    refine lv_aload_n hx hb d_L_boundByClasses_114 rfl (lv_at hl 0 rfl) ?_
    refine va_get (ci := 0) (v := .ref (a 10)) (C := R_L) (T := F_L) (N := 6) hx hb hts i_L hown hK.1 hP 0 rfl rfl 2 (by decide) (hts _ wd_85) (fun _ h9 => h9) rfl d_L_boundByClasses_115 ?_
    refine lv_aload_n hx hb d_L_boundByClasses_118 rfl (lv_at hl 0 rfl) ?_
    refine va_get (ci := 0) (v := .ref (a 1)) (C := R_L) (T := F_L) (N := 6) hx hb hts i_L hown hK.1 hP 0 rfl rfl 4 (by decide) (hts _ wd_256) (fun _ h9 => h9) rfl d_L_boundByClasses_119 ?_
    refine lv_iload hx hb d_L_boundByClasses_122 (lv_at hl 5 rfl) ?_
    refine lv_iload hx hb d_L_boundByClasses_124 (lv_at hl 6 rfl) ?_
    replace h := bd h
    obtain ⟨r3, g3, h⟩ := h
    try dsimp only at h
    replace h := ad_s h
    obtain ⟨mc, ms, h, rfl, rfl⟩ := h
    refine tx_V (n := 3) (ci := 2) (As := [.ref (a 1), .int x5, .int x6]) (rest := []) (Wn := fun q => (wL cI cZ a q (L_set_types σ r3.2.1))) C0 hA hZ (c_T_makeIntersection l D cI cZ a hl0 q (L_types σ) (90, (L_row (L_set_types σ r3.2.1))) (a 1) x5 x6 g3) wd_257 ⟨wd_258, wd_259, wd_260, wd_52⟩ (by decide +kernel) ⟨by show 4 + 1 ≤ fr0 + 2; omega, by show 8 + (7 + 11) + 106 ≤ lc0 + 52; omega⟩ hP hD hS [10, 11, 12, 13, 14, 15, 16, 17, 18, 1] [0, 2, 3, 4, 5, 6, 7, 8, 9, 19, 20] [0, 20, 1, 2, 3, 4, 5, 6, 7, 8, 11, 12, 13, 14, 15, 16, 17, 18, 19, 9, 10] jn_L_types_row_C (by decide) jn_L_types_row_R (by decide) (by decide) (by decide) jn_L_types_row_W rfl rfl rfl hl rfl rfl (Nat.le_of_ble_eq_true rfl) ⟨by show kc + _ ≤ K; omega, by show ks + _ ≤ N; omega⟩ d_L_boundByClasses_126 (fun ek H locs q q9 ce hv hP hD hS h1 h2 h3 => ?_) (fun r3v H locs q hv hP hD hS => ?_)
    · rw [hv] at h
      cases h
      exact tx_out C0 hT hP hD hS h1 h2 h3 (by omega) (by omega)
    · rw [hv] at h
      try dsimp only at h
      have hkc : (kc + r3.2.2.1) + mc = K := by omega
      have hks : (ks + r3.2.2.2) + ms = N := by omega
      have hcs : (kc + r3.2.2.1) ≤ K ∧ (ks + r3.2.2.2) ≤ N := ⟨by omega, by omega⟩
      cases h; exact tx_ret C0 hP hD hS (by omega) (by omega) d_L_boundByClasses_129
  · rw [if_neg hc] at h
    refine lv_iload hx hb d_L_boundByClasses_45 (lv_at hl 4 rfl) ?_
    refine lv_iload hx hb d_L_boundByClasses_47 (lv_at hl 7 rfl) ?_
    refine ro_S (n := 2) (As := [.int x4, .int x7]) (rest := []) C0 (c_L_has l D cI cZ a x4 x7 rfl) wd_261 ⟨wd_104, wd_105, wd_55⟩ (by decide +kernel) ⟨by show 0 + 1 ≤ fr0 + 2; omega, by show 8 + (2 + 11) + 0 ≤ lc0 + 52; omega⟩ pnil hl rfl rfl (Nat.le_of_ble_eq_true rfl) hcs d_L_boundByClasses_49 ?_
    refine lv_if_eq (tgt := 108) hx hb d_L_boundByClasses_52 (by decide) (fun hc => ?_) (fun hc => ?_)
    · rw [if_pos hc] at h
      refine lv_iinc (v := (x7 + 1)) (lv' := [(7, .int (x7 + 1)), (0, .ref (a 0)), (1, .int x1), (2, .int x2), (3, .int x3), (4, .int x4), (5, .int x5), (6, .int x6)]) hx hb d_L_boundByClasses_108 hl (k := 7) rfl rfl (by decide) rfl (fun ls hl => ?_)
      refine lv_goto (tgt := 38) hx hb d_L_boundByClasses_111 (by decide) ?_
      exact hk38 _ _ _ _ _ _ _ _ _ _ _ _ _ _ _ _ h hkc hks hP hD hS (lv_sub hl [1, 2, 3, 4, 5, 6, 7, 0] rfl)
    · rw [if_neg hc] at h
      refine lv_aload_n hx hb d_L_boundByClasses_55 rfl (lv_at hl 0 rfl) ?_
      refine va_get (ci := 0) (v := .ref (a 10)) (C := R_L) (T := F_L) (N := 6) hx hb hts i_L hown hK.1 hP 0 rfl rfl 2 (by decide) (hts _ wd_85) (fun _ h9 => h9) rfl d_L_boundByClasses_56 ?_
      refine lv_iload hx hb d_L_boundByClasses_59 (lv_at hl 7 rfl) ?_
      refine lv_aload_n hx hb d_L_boundByClasses_61 rfl (lv_at hl 0 rfl) ?_
      refine lv_aload_n hx hb d_L_boundByClasses_62 rfl (lv_at hl 0 rfl) ?_
      refine lv_iload_n hx hb d_L_boundByClasses_63 rfl (lv_at hl 1 rfl) ?_
      refine lv_iload hx hb d_L_boundByClasses_64 (lv_at hl 7 rfl) ?_
      replace h := bd h
      obtain ⟨r4, g4, h⟩ := h
      refine ro_V (n := 2) (ci := 0) (As := [.int x1, .int x7]) (rest := [.ref (a 0), .int x7, .ref (a 10)]) C0 (c_L_find l D cI cZ a q σ x1 x7 g4) wd_262 ⟨wd_263, wd_264, wd_265, wd_55⟩ (by decide +kernel) ⟨by show 3 + 1 ≤ fr0 + 2; omega, by show 8 + (7 + 11) + 72 ≤ lc0 + 52; omega⟩ hP rfl rfl rfl hl rfl rfl (Nat.le_of_ble_eq_true rfl) hcs d_L_boundByClasses_66 ?_
      try dsimp only at h
      refine lv_aload_n hx hb d_L_boundByClasses_69 rfl (lv_at hl 0 rfl) ?_
      refine lv_iload_n hx hb d_L_boundByClasses_70 rfl (lv_at hl 2 rfl) ?_
      refine lv_iload hx hb d_L_boundByClasses_71 (lv_at hl 7 rfl) ?_
      replace h := bd h
      obtain ⟨r5, g5, h⟩ := h
      refine ro_V (n := 2) (ci := 0) (As := [.int x2, .int x7]) (rest := [.int r4, .ref (a 0), .int x7, .ref (a 10)]) C0 (c_L_find l D cI cZ a q σ x2 x7 g5) wd_262 ⟨wd_263, wd_264, wd_265, wd_55⟩ (by decide +kernel) ⟨by show 3 + 1 ≤ fr0 + 2; omega, by show 8 + (7 + 11) + 72 ≤ lc0 + 52; omega⟩ hP rfl rfl rfl hl rfl rfl (Nat.le_of_ble_eq_true rfl) hcs d_L_boundByClasses_73 ?_
      try dsimp only at h
      refine lv_iload_n hx hb d_L_boundByClasses_76 rfl (lv_at hl 3 rfl) ?_
      replace h := bd h
      obtain ⟨r6, g6, h⟩ := h
      try dsimp only at h
      replace h := ad_s h
      obtain ⟨mc, ms, h, rfl, rfl⟩ := h
      refine tx_V (n := 3) (ci := 0) (As := [.int r4, .int r5, .int x3]) (rest := [.int x7, .ref (a 10)]) (Wn := fun q => (wL cI cZ a q r6.2.1)) C0 hA hZ (c_L_boundArgument hl0 hfr hlc hrec q σ r4 r5 x3 g6) wd_266 ⟨wd_267, wd_268, wd_269, wd_55⟩ (by decide +kernel) ⟨by show fr0 + 1 + 1 ≤ fr0 + 2; omega, by show 8 + (5 + 11) + (lc0 + 28) ≤ lc0 + 52; omega⟩ hP hD hS [0, 1, 2, 3, 4, 5, 6, 7, 8, 9, 10, 11, 12, 13, 14, 15, 16, 17, 18, 19, 20] [] [0, 1, 2, 3, 4, 5, 6, 7, 8, 9, 10, 11, 12, 13, 14, 15, 16, 17, 18, 19, 20] jn_L__C (by decide) jn_L__R (by decide) (by decide) (by decide) jn_L__W rfl rfl rfl hl rfl rfl (Nat.le_of_ble_eq_true rfl) ⟨by show kc + _ ≤ K; omega, by show ks + _ ≤ N; omega⟩ d_L_boundByClasses_77 (fun ek H locs q q9 ce hv hP hD hS h1 h2 h3 => ?_) (fun r6v H locs q hv hP hD hS => ?_)
      · rw [hv] at h
        cases h
        exact tx_out C0 hT hP hD hS h1 h2 h3 (by omega) (by omega)
      · rw [hv] at h
        try dsimp only at h
        have hkc : (kc + r6.2.2.1) + mc = K := by omega
        have hks : (ks + r6.2.2.2) + ms = N := by omega
        have hcs : (kc + r6.2.2.1) ≤ K ∧ (ks + r6.2.2.2) ≤ N := ⟨by omega, by omega⟩
        replace h := bd h
        obtain ⟨r7, g7, h⟩ := h
        refine rw_V (n := 2) (ci := 2) (As := [.int x7, .int r6v]) (rest := []) (Wn := fun q => (wL cI cZ a q (L_set_types r6.2.1 r7.2))) C0 hA (c_T_makeNamed l D cI cZ a q (L_types r6.2.1) x7 r6v g7) wd_175 ⟨wd_176, wd_177, wd_178, wd_52⟩ (by decide +kernel) ⟨by show 2 + 1 ≤ fr0 + 2; omega, by show 8 + (4 + 11) + 42 ≤ lc0 + 52; omega⟩ hP hD hS [10, 11, 12, 13, 14, 15, 16, 17, 18] [0, 1, 2, 3, 4, 5, 6, 7, 8, 9, 19, 20] [0, 1, 2, 3, 4, 5, 6, 7, 8, 9, 12, 13, 14, 15, 16, 17, 18, 19, 20, 10, 11] jn_L_types_C (by decide) jn_L_types_R (by decide) (by decide) (by decide) jn_L_types_W rfl rfl rfl hl rfl rfl (Nat.le_of_ble_eq_true rfl) hcs d_L_boundByClasses_80 (fun H locs q hP hD hS => ?_)
        try dsimp only at h
        refine lv_istore (lv' := [(8, .int r7.1), (0, .ref (a 0)), (1, .int x1), (2, .int x2), (3, .int x3), (4, .int x4), (5, .int x5), (6, .int x6), (7, .int x7)]) hx hb d_L_boundByClasses_83 hl (by decide) rfl (fun ls hl => ?_)
        refine lv_iload hx hb d_L_boundByClasses_85 (lv_at hl 0 rfl) ?_
        refine lv_iconst (v := (-1)) hx hb d_L_boundByClasses_87 (by decide) ?_
        refine lv_icmp_ne (tgt := 93) hx hb d_L_boundByClasses_88 (by decide) (fun hc => ?_) (fun hc => ?_)
        · rw [if_neg hc] at h
          refine lv_aload_n hx hb d_L_boundByClasses_93 rfl (lv_at hl 1 rfl) ?_
          refine va_get (ci := 0) (v := .ref (a 1)) (C := R_L) (T := F_L) (N := 6) hx hb hts i_L hown hK.1 hP 0 rfl rfl 4 (by decide) (hts _ wd_256) (fun _ h9 => h9) rfl d_L_boundByClasses_94 ?_
          refine lv_iload hx hb d_L_boundByClasses_97 (lv_at hl 6 rfl) ?_
          refine lv_iload hx hb d_L_boundByClasses_99 (lv_at hl 7 rfl) ?_
          refine lv_iadd hx hb d_L_boundByClasses_101 ?_
          refine lv_iload hx hb d_L_boundByClasses_102 (lv_at hl 0 rfl) ?_
          replace h := gd h
          obtain ⟨hi, h⟩ := h
          refine rw_iast C0 hP hD hS 1 0 rfl rfl hi d_L_boundByClasses_104 (Wn := (wL cI cZ a q (L_put_row (L_set_types r6.2.1 r7.2) (x5 + x6) r7.1))) ws_L_put_row (fun H locs hP hD hS => ?_)
          refine lv_iinc (v := (x6 + 1)) (lv' := [(6, .int (x6 + 1)), (8, .int r7.1), (0, .ref (a 0)), (1, .int x1), (2, .int x2), (3, .int x3), (4, .int x4), (5, .int x5), (7, .int x7)]) hx hb d_L_boundByClasses_105 hl (k := 7) rfl rfl (by decide) rfl (fun ls hl => ?_)
          refine lv_iinc (v := (x7 + 1)) (lv' := [(7, .int (x7 + 1)), (6, .int (x6 + 1)), (8, .int r7.1), (0, .ref (a 0)), (1, .int x1), (2, .int x2), (3, .int x3), (4, .int x4), (5, .int x5)]) hx hb d_L_boundByClasses_108 hl (k := 8) rfl rfl (by decide) rfl (fun ls hl => ?_)
          refine lv_goto (tgt := 38) hx hb d_L_boundByClasses_111 (by decide) ?_
          exact hk38 _ _ _ _ _ _ _ _ _ _ _ _ _ _ _ _ h hkc hks hP hD hS (lv_sub hl [3, 4, 5, 6, 7, 8, 1, 0] rfl)
        · rw [if_pos hc] at h
          refine lv_iconst (v := (-1)) hx hb d_L_boundByClasses_91 (by decide) ?_
          cases h; exact tx_ret C0 hP hD hS (by omega) (by omega) d_L_boundByClasses_92
set_option maxHeartbeats 4000000 in
set_option maxRecDepth 100000 in
theorem t_L_boundByClasses_38 {p : Program} {l : Launch} {e : Env} {s : State} {m : MethodId} {args : Array Value} {below : List Frame} {meth : Method} {c : Code} {D : va_G} {cI cZ : ClassId} {a : Nat → Nat} {A : Nat → Prop} (C0 : Am p s m args meth c b_L_boundByClasses (some .int) 9 R_L D [(cI, .int), (cZ, .boolean)]) (hA : ∀ q, s.heap.size ≤ q → A q) (hT : ∀ x ∈ c.exceptionTable.toList, False) (hl0 : l.stackTraces = false) (hZ : Zs A s s.heap) {v : Int32 ⊕ Nat} {u : StL} {K N : Nat} {rec : StL → Int32 → Int32 → Int32 → Option ((Int32 ⊕ Nat) × StL × Nat × Nat)} {fr0 lc0 : Nat} (hfr : 5 ≤ fr0) (hlc : 132 ≤ lc0) (hrec : ∀ (q : Nat) (σ : StL) (z0 z1 z2 : Int32) (r : (Int32 ⊕ Nat) × StL × Nat × Nat), rec σ z0 z1 z2 = some r → TxM l y_L_upperBound b_L_upperBound 9 (some .int) fr0 lc0 D [(cI, .int), (cZ, .boolean)] [.ref (a 0), .int z0, .int z1, .int z2] (fun q (σ : StL) => wL cI cZ a q σ) q σ r)  {n : Nat} {q : Nat} {σ : StL} {x1 x2 x3 x4 x5 x6 x7 : Int32} {kc ks mc ms : Nat} (h : f_L_boundByClasses_38 rec n σ x1 x2 x3 x4 x5 x6 x7 = some (v, u, mc, ms)) (hkc : kc + mc = K) (hks : ks + ms = N) {H : Heap} {locs : List Loc} (hP : va_P D vwCl (wL cI cZ a q σ) H) (hD : va_D A (wL cI cZ a q σ)) (hS : va_S A s.heap H locs) {ls : Array Slot} (hl : lv_has ls 9 [(0, .ref (a 0)), (1, .int x1), (2, .int x2), (3, .int x3), (4, .int x4), (5, .int x5), (6, .int x6), (7, .int x7)]) : W p l e (rmK (fr0 + 2) (lc0 + 52) K N) s m args below meth c H locs kc ks (TxQ below args s D A (fun q (σ : StL) => (wL cI cZ a q σ)) v u K N) (F0 m 38 ls []) := by
  induction n generalizing q σ x1 x2 x3 x4 x5 x6 x7 kc ks mc ms H locs ls with
  | zero => cases h
  | succ n ih => exact t_L_boundByClasses_38_s (a := a) C0 hA hT hl0 hZ hfr hlc hrec  (fun _ _ _ _ _ _ _ _ _ _ _ _ _ _ _ _ h hkc hks hP hD hS hl => ih h hkc hks hP hD hS hl) h hkc hks hP hD hS hl
set_option maxHeartbeats 4000000 in
set_option maxRecDepth 100000 in
theorem t_L_boundByClasses_0 {p : Program} {l : Launch} {e : Env} {s : State} {m : MethodId} {args : Array Value} {below : List Frame} {meth : Method} {c : Code} {D : va_G} {cI cZ : ClassId} {a : Nat → Nat} {A : Nat → Prop} (C0 : Am p s m args meth c b_L_boundByClasses (some .int) 9 R_L D [(cI, .int), (cZ, .boolean)]) (hA : ∀ q, s.heap.size ≤ q → A q) (hT : ∀ x ∈ c.exceptionTable.toList, False) (hl0 : l.stackTraces = false) (hZ : Zs A s s.heap) {v : Int32 ⊕ Nat} {u : StL} {K N : Nat} {rec : StL → Int32 → Int32 → Int32 → Option ((Int32 ⊕ Nat) × StL × Nat × Nat)} {fr0 lc0 : Nat} (hfr : 5 ≤ fr0) (hlc : 132 ≤ lc0) (hrec : ∀ (q : Nat) (σ : StL) (z0 z1 z2 : Int32) (r : (Int32 ⊕ Nat) × StL × Nat × Nat), rec σ z0 z1 z2 = some r → TxM l y_L_upperBound b_L_upperBound 9 (some .int) fr0 lc0 D [(cI, .int), (cZ, .boolean)] [.ref (a 0), .int z0, .int z1, .int z2] (fun q (σ : StL) => wL cI cZ a q σ) q σ r)   {q : Nat} {σ : StL} {x1 x2 x3 : Int32} {kc ks mc ms : Nat} (h : f_L_boundByClasses rec σ x1 x2 x3 = some (v, u, mc, ms)) (hkc : kc + mc = K) (hks : ks + ms = N) {H : Heap} {locs : List Loc} (hP : va_P D vwCl (wL cI cZ a q σ) H) (hD : va_D A (wL cI cZ a q σ)) (hS : va_S A s.heap H locs) {ls : Array Slot} (hl : lv_has ls 9 [(0, .ref (a 0)), (1, .int x1), (2, .int x2), (3, .int x3)]) : W p l e (rmK (fr0 + 2) (lc0 + 52) K N) s m args below meth c H locs kc ks (TxQ below args s D A (fun q (σ : StL) => (wL cI cZ a q σ)) v u K N) (F0 m 0 ls []) := by
  obtain ⟨hx, hb, hr, hml, hown, hts, hlk, hK⟩ := id C0
  have hcs : kc ≤ K ∧ ks ≤ N := ⟨by omega, by omega⟩
  unfold f_L_boundByClasses at h
  refine lv_iload_n hx hb d_L_boundByClasses_0 rfl (lv_at hl 3 rfl) ?_
  refine lv_if_lt (tgt := 9) hx hb d_L_boundByClasses_1 (by decide) (fun hc => ?_) (fun hc => ?_)
  · rw [if_pos hc] at h
    refine lv_iconst (v := (-1)) hx hb d_L_boundByClasses_9 (by decide) ?_
    cases h; exact tx_ret C0 hP hD hS (by omega) (by omega) d_L_boundByClasses_10
  · rw [if_neg hc] at h
    refine lv_iload_n hx hb d_L_boundByClasses_4 rfl (lv_at hl 3 rfl) ?_
    refine lv_iconst (v := 2) hx hb d_L_boundByClasses_5 (by decide) ?_
    refine lv_icmp_le (tgt := 11) hx hb d_L_boundByClasses_6 (by decide) (fun hc => ?_) (fun hc => ?_)
    · rw [if_pos hc] at h
      refine lv_aload_n hx hb d_L_boundByClasses_11 rfl (lv_at hl 0 rfl) ?_
      refine va_get (ci := 0) (v := .ref (a 3)) (C := R_L) (T := F_L) (N := 6) hx hb hts i_L hown hK.1 hP 0 rfl rfl 1 (by decide) (hts _ wd_67) (fun _ h9 => h9) rfl d_L_boundByClasses_12 ?_
      refine lv_aload_n hx hb d_L_boundByClasses_15 rfl (lv_at hl 0 rfl) ?_
      refine lv_iload_n hx hb d_L_boundByClasses_16 rfl (lv_at hl 1 rfl) ?_
      refine lv_iload_n hx hb d_L_boundByClasses_17 rfl (lv_at hl 2 rfl) ?_
      replace h := bd h
      obtain ⟨r1, g1, h⟩ := h
      refine ro_V (n := 2) (ci := 0) (As := [.int x1, .int x2]) (rest := [.ref (a 3)]) C0 (c_L_commonOf l D cI cZ a q σ x1 x2 g1) wd_248 ⟨wd_249, wd_250, wd_251, wd_55⟩ (by decide +kernel) ⟨by show 3 + 1 ≤ fr0 + 2; omega, by show 8 + (3 + 11) + 68 ≤ lc0 + 52; omega⟩ hP rfl rfl rfl hl rfl rfl (Nat.le_of_ble_eq_true rfl) hcs d_L_boundByClasses_18 ?_
      try dsimp only at h
      replace h := bd h
      obtain ⟨r2, g2, h⟩ := h
      refine ro_V (n := 1) (ci := 1) (As := [.int r1]) (rest := []) C0 (c_C_leastOf l D cI cZ a q (L_classes σ) r1 g2) wd_252 ⟨wd_253, wd_254, wd_255, wd_8⟩ (by decide +kernel) ⟨by show 1 + 1 ≤ fr0 + 2; omega, by show 8 + (4 + 11) + 21 ≤ lc0 + 52; omega⟩ (hP.pick [3, 4, 5, 6, 7, 8, 9] rfl) rfl rfl rfl hl rfl rfl (Nat.le_of_ble_eq_true rfl) hcs d_L_boundByClasses_21 ?_
      try dsimp only at h
      refine lv_istore (lv' := [(4, .int r2), (0, .ref (a 0)), (1, .int x1), (2, .int x2), (3, .int x3)]) hx hb d_L_boundByClasses_24 hl (by decide) rfl (fun ls hl => ?_)
      refine lv_iload_n hx hb d_L_boundByClasses_26 rfl (lv_at hl 4 rfl) ?_
      refine lv_bipush (v := 30) hx hb d_L_boundByClasses_27 (by decide) ?_
      refine lv_imul hx hb d_L_boundByClasses_29 ?_
      refine lv_istore (lv' := [(5, .int (x3 * 30)), (4, .int r2), (0, .ref (a 0)), (1, .int x1), (2, .int x2), (3, .int x3)]) hx hb d_L_boundByClasses_30 hl (by decide) rfl (fun ls hl => ?_)
      refine lv_iconst (v := 0) hx hb d_L_boundByClasses_32 (by decide) ?_
      refine lv_istore (lv' := [(6, .int 0), (5, .int (x3 * 30)), (4, .int r2), (0, .ref (a 0)), (1, .int x1), (2, .int x2), (3, .int x3)]) hx hb d_L_boundByClasses_33 hl (by decide) rfl (fun ls hl => ?_)
      refine lv_iconst (v := 0) hx hb d_L_boundByClasses_35 (by decide) ?_
      refine lv_istore (lv' := [(7, .int 0), (6, .int 0), (5, .int (x3 * 30)), (4, .int r2), (0, .ref (a 0)), (1, .int x1), (2, .int x2), (3, .int x3)]) hx hb d_L_boundByClasses_36 hl (by decide) rfl (fun ls hl => ?_)
      exact t_L_boundByClasses_38 (a := a) C0 hA hT hl0 hZ hfr hlc hrec  h hkc hks hP hD hS (lv_sub hl [4, 5, 6, 7, 3, 2, 1, 0] rfl)
    · rw [if_neg hc] at h
      refine lv_iconst (v := (-1)) hx hb d_L_boundByClasses_9 (by decide) ?_
      cases h; exact tx_ret C0 hP hD hS (by omega) (by omega) d_L_boundByClasses_10
set_option maxHeartbeats 4000000 in
set_option maxRecDepth 100000 in
theorem c_L_boundByClasses {l : Launch} {D : va_G} {cI cZ : ClassId} {a : Nat → Nat} (hl0 : l.stackTraces = false) {rec : StL → Int32 → Int32 → Int32 → Option ((Int32 ⊕ Nat) × StL × Nat × Nat)} {fr0 lc0 : Nat} (hfr : 5 ≤ fr0) (hlc : 132 ≤ lc0) (hrec : ∀ (q : Nat) (σ : StL) (z0 z1 z2 : Int32) (r : (Int32 ⊕ Nat) × StL × Nat × Nat), rec σ z0 z1 z2 = some r → TxM l y_L_upperBound b_L_upperBound 9 (some .int) fr0 lc0 D [(cI, .int), (cZ, .boolean)] [.ref (a 0), .int z0, .int z1, .int z2] (fun q (σ : StL) => wL cI cZ a q σ) q σ r) (q : Nat) (σ : StL) (x1 : Int32) (x2 : Int32) (x3 : Int32) {res : (Int32 ⊕ Nat) × StL × Nat × Nat} (h : f_L_boundByClasses rec σ x1 x2 x3 = some res) : TxM l y_L_boundByClasses b_L_boundByClasses 9 (some .int) (fr0 + 2) (lc0 + 52) D [(cI, .int), (cZ, .boolean)] [.ref (a 0), .int x1, .int x2, .int x3] (fun q (σ : StL) => (wL cI cZ a q σ)) q σ res :=
  tx_of (by decide) (Nat.le_of_ble_eq_true rfl) (fun p e s m args below meth c ls A C0 hA hT hZ hP hD hS hl => t_L_boundByClasses_0 (a := a) (kc := 0) (ks := 0) C0 hA hT hl0 hZ hfr hlc hrec h (Nat.zero_add _) (Nat.zero_add _) hP hD hS (lv_sub hl [0, 1, 2, 3] rfl))
