def f_T_makeIntersection_38_s (k38 : StT → Int32 → Int32 → Int32 → Int32 → Option ((Int32 ⊕ Nat) × StT × Nat × Nat)) (pa1 : Nat × (Nat → Int32)) (σ : StT) (x2 x3 x4 x5 : Int32) : Option ((Int32 ⊕ Nat) × StT × Nat × Nat) :=
  if x3 ≤ x5 then
    (f_T_findIntersection pa1 σ x2 x3).bind fun r1 =>
    if r1 = (-1) then
      (f_T_add σ 3 x4).bind fun r2 =>
      if r2.1 = (-1) then
        some (.inl r2.1, r2.2, 0, 0)
      else
        (f_T_appendParts pa1 r2.2 r2.1 x2 x3).bind fun r3 => ad_ r3.2.2.1 r3.2.2.2 <| match r3.1 with
        | .inr e => some (.inr e, r3.2.1, 0, 0)
        | .inl r3v =>
        some (.inl r2.1, r3.2.1, 0, 0)
    else
      some (.inl r1, σ, 0, 0)
  else
    if (x2 + x5) < 0 ∨ pa1.1 ≤ (x2 + x5).toNatClampNeg then none else
    (f_T_sizeOf σ (pa1.2 (x2 + x5).toNatClampNeg)).bind fun r4 =>
    k38 σ x2 x3 (x4 + r4) (x5 + 1)
def f_T_makeIntersection_38 (pa1 : Nat × (Nat → Int32)) : Nat → StT → Int32 → Int32 → Int32 → Int32 → Option ((Int32 ⊕ Nat) × StT × Nat × Nat)
  | 0, _, _, _, _, _ => none
  | n + 1, σ, x2, x3, x4, x5 => f_T_makeIntersection_38_s (f_T_makeIntersection_38 pa1 n) pa1 σ x2 x3 x4 x5
def f_T_makeIntersection (pa1 : Nat × (Nat → Int32)) (σ : StT) (x2 x3 : Int32) : Option ((Int32 ⊕ Nat) × StT × Nat × Nat) :=
  if x2 < 0 then
    some (.inl (-1), σ, 0, 0)
  else
    if x3 < 1 then
      some (.inl (-1), σ, 0, 0)
    else
      if x3 ≤ ((Int32.ofNat pa1.1) - x2) then
        if x3 = 1 then
          if x2 < 0 ∨ pa1.1 ≤ x2.toNatClampNeg then none else
          some (.inl (pa1.2 x2.toNatClampNeg), σ, 0, 0)
        else
          f_T_makeIntersection_38 pa1 1000 σ x2 x3 1 0
      else
        some (.inl (-1), σ, 0, 0)
set_option maxHeartbeats 4000000 in
set_option maxRecDepth 100000 in
theorem t_T_makeIntersection_38_s {p : Program} {l : Launch} {e : Env} {s : State} {m : MethodId} {args : Array Value} {below : List Frame} {meth : Method} {c : Code} {D : va_G} {cI cZ : ClassId} {a : Nat → Nat} {pa1 : Nat × (Nat → Int32)} {b1 : Nat} {A : Nat → Prop} (C0 : Am p s m args meth c b_T_makeIntersection (some .int) 7 R_T D [(cI, .int), (cZ, .boolean)]) (hA : ∀ q, s.heap.size ≤ q → A q) (hT : ∀ x ∈ c.exceptionTable.toList, False) (hl0 : l.stackTraces = false) (hZ : Zs A s s.heap) {v : Int32 ⊕ Nat} {u : StT} {K N : Nat} {k38 : StT → Int32 → Int32 → Int32 → Int32 → Option ((Int32 ⊕ Nat) × StT × Nat × Nat)}  (hk38 : ∀ (q : Nat) (σ : StT) (x2 x3 x4 x5 : Int32) (kc ks mc ms : Nat) (H : Heap) (locs : List Loc) (ls : Array Slot), k38 σ x2 x3 x4 x5 = some (v, u, mc, ms) → kc + mc = K → ks + ms = N → va_P D vwCl ((wT cI cZ a q σ) ++ [(b1, .inl (cI, pa1.1, .inl pa1.2))]) H → va_D A ((wT cI cZ a q σ) ++ [(b1, .inl (cI, pa1.1, .inl pa1.2))]) → va_S A s.heap H locs → lv_has ls 7 [(0, .ref (a 10)), (1, .ref b1), (2, .int x2), (3, .int x3), (4, .int x4), (5, .int x5)] → W p l e (rmK 4 92 K N) s m args below meth c H locs kc ks (TxQ below args s D A (fun q (σ : StT) => ((wT cI cZ a q σ) ++ [(b1, .inl (cI, pa1.1, .inl pa1.2))])) v u K N) (F0 m 38 ls [])) {q : Nat} {σ : StT} {x2 x3 x4 x5 : Int32} {kc ks mc ms : Nat} (h : f_T_makeIntersection_38_s k38 pa1 σ x2 x3 x4 x5 = some (v, u, mc, ms)) (hkc : kc + mc = K) (hks : ks + ms = N) {H : Heap} {locs : List Loc} (hP : va_P D vwCl ((wT cI cZ a q σ) ++ [(b1, .inl (cI, pa1.1, .inl pa1.2))]) H) (hD : va_D A ((wT cI cZ a q σ) ++ [(b1, .inl (cI, pa1.1, .inl pa1.2))])) (hS : va_S A s.heap H locs) {ls : Array Slot} (hl : lv_has ls 7 [(0, .ref (a 10)), (1, .ref b1), (2, .int x2), (3, .int x3), (4, .int x4), (5, .int x5)]) : W p l e (rmK 4 92 K N) s m args below meth c H locs kc ks (TxQ below args s D A (fun q (σ : StT) => ((wT cI cZ a q σ) ++ [(b1, .inl (cI, pa1.1, .inl pa1.2))])) v u K N) (F0 m 38 ls []) := by
  obtain ⟨hx, hb, hr, hml, hown, hts, hlk, hK⟩ := id C0
  have hcs : kc ≤ K ∧ ks ≤ N := ⟨by omega, by omega⟩
  unfold f_T_makeIntersection_38_s at h
  refine lv_iload hx hb d_T_makeIntersection_38 (lv_at hl 5 rfl) ?_
  refine lv_iload_n hx hb d_T_makeIntersection_40 rfl (lv_at hl 3 rfl) ?_
  refine lv_icmp_ge (tgt := 65) hx hb d_T_makeIntersection_41 (by decide) (fun hc => ?_) (fun hc => ?_)
  · rw [if_pos hc] at h
    refine lv_aload_n hx hb d_T_makeIntersection_65 rfl (lv_at hl 0 rfl) ?_
    refine lv_aload_n hx hb d_T_makeIntersection_66 rfl (lv_at hl 1 rfl) ?_
    refine lv_iload_n hx hb d_T_makeIntersection_67 rfl (lv_at hl 2 rfl) ?_
    refine lv_iload_n hx hb d_T_makeIntersection_68 rfl (lv_at hl 3 rfl) ?_
    obtain ⟨r1, g1, h⟩ := bd h
    refine ro_V (n := 3) (ci := 2) (As := [.ref b1, .int x2, .int x3]) (rest := []) C0 (c_T_findIntersection l D cI cZ a q σ pa1 b1 x2 x3 g1) wd_114 ⟨wd_115, wd_116, wd_117, wd_49⟩ (by decide +kernel) ⟨Nat.le_of_ble_eq_true rfl, Nat.le_of_ble_eq_true rfl⟩ hP rfl rfl rfl hl rfl rfl (Nat.le_of_ble_eq_true rfl) hcs d_T_makeIntersection_69 ?_
    try dsimp only at h
    refine lv_istore (lv' := [(5, .int r1), (0, .ref (a 10)), (1, .ref b1), (2, .int x2), (3, .int x3), (4, .int x4)]) hx hb d_T_makeIntersection_72 hl (by decide) rfl (fun ls hl => ?_)
    refine lv_iload hx hb d_T_makeIntersection_74 (lv_at hl 0 rfl) ?_
    refine lv_iconst (v := (-1)) hx hb d_T_makeIntersection_76 (by decide) ?_
    refine lv_icmp_eq (tgt := 83) hx hb d_T_makeIntersection_77 (by decide) (fun hc => ?_) (fun hc => ?_)
    · rw [if_pos hc] at h
      refine lv_aload_n hx hb d_T_makeIntersection_83 rfl (lv_at hl 1 rfl) ?_
      refine lv_iconst (v := 3) hx hb d_T_makeIntersection_84 (by decide) ?_
      refine lv_iload hx hb d_T_makeIntersection_85 (lv_at hl 5 rfl) ?_
      obtain ⟨r2, g2, h⟩ := bd h
      refine rw_V (n := 2) (ci := 2) (As := [.int 3, .int x4]) (rest := []) (Wn := fun q => ((wT cI cZ a q r2.2) ++ [(b1, .inl (cI, pa1.1, .inl pa1.2))])) C0 hA (c_T_add l D cI cZ a q σ 3 x4 g2) wd_57 ⟨wd_58, wd_59, wd_60, wd_49⟩ (by decide +kernel) ⟨Nat.le_of_ble_eq_true rfl, Nat.le_of_ble_eq_true rfl⟩ hP hD hS [0, 1, 2, 3, 4, 5, 6, 7, 8] [9] [1, 2, 3, 4, 5, 6, 7, 8, 9, 0] jn_Tp__C (by decide) jn_Tp__R (by decide) (by decide) (by decide) jn_Tp__W rfl rfl rfl hl rfl rfl (Nat.le_of_ble_eq_true rfl) hcs d_T_makeIntersection_87 (fun H locs q hP hD hS => ?_)
      try dsimp only at h
      refine lv_istore (lv' := [(6, .int r2.1), (5, .int r1), (0, .ref (a 10)), (1, .ref b1), (2, .int x2), (3, .int x3), (4, .int x4)]) hx hb d_T_makeIntersection_90 hl (by decide) rfl (fun ls hl => ?_)
      refine lv_iload hx hb d_T_makeIntersection_92 (lv_at hl 0 rfl) ?_
      refine lv_iconst (v := (-1)) hx hb d_T_makeIntersection_94 (by decide) ?_
      refine lv_icmp_eq (tgt := 107) hx hb d_T_makeIntersection_95 (by decide) (fun hc => ?_) (fun hc => ?_)
      · rw [if_pos hc] at h
        refine lv_iload hx hb d_T_makeIntersection_107 (lv_at hl 0 rfl) ?_
        cases h; exact tx_ret C0 hP hD hS (by omega) (by omega) d_T_makeIntersection_109
      · rw [if_neg hc] at h
        refine lv_aload_n hx hb d_T_makeIntersection_98 rfl (lv_at hl 2 rfl) ?_
        refine lv_iload hx hb d_T_makeIntersection_99 (lv_at hl 0 rfl) ?_
        refine lv_aload_n hx hb d_T_makeIntersection_101 rfl (lv_at hl 3 rfl) ?_
        refine lv_iload_n hx hb d_T_makeIntersection_102 rfl (lv_at hl 4 rfl) ?_
        refine lv_iload_n hx hb d_T_makeIntersection_103 rfl (lv_at hl 5 rfl) ?_
        obtain ⟨r3, g3, h⟩ := bd h
        try dsimp only at h
        obtain ⟨mc, ms, h, rfl, rfl⟩ := ad_s h
        refine tx_Vv (n := 4) (ci := 2) (As := [.int r2.1, .ref b1, .int x2, .int x3]) (rest := []) (Wn := fun q => ((wT cI cZ a q r3.2.1) ++ [(b1, .inl (cI, pa1.1, .inl pa1.2))])) C0 hA hZ (c_T_appendParts l D cI cZ a hl0 q r2.2 r2.1 pa1 b1 x2 x3 g3) wd_118 ⟨wd_119, wd_120, wd_121, wd_49⟩ (by decide +kernel) ⟨Nat.le_of_ble_eq_true rfl, Nat.le_of_ble_eq_true rfl⟩ hP hD hS [0, 1, 2, 3, 4, 5, 6, 7, 8, 9] [] [0, 1, 2, 3, 4, 5, 6, 7, 8, 9] jn_Tp__p_C (by decide) jn_Tp__p_R (by decide) (by decide) (by decide) jn_Tp__p_W rfl rfl rfl hl rfl rfl (Nat.le_of_ble_eq_true rfl) ⟨by show kc + _ ≤ K; omega, by show ks + _ ≤ N; omega⟩ d_T_makeIntersection_104 (fun ek H locs q q9 ce hv hP hD hS h1 h2 h3 => ?_) (fun r3v H locs q hv hP hD hS => ?_)
        · rw [hv] at h
          cases h
          exact tx_out C0 hT hP hD hS h1 h2 h3 (by omega) (by omega)
        · rw [hv] at h
          try dsimp only at h
          have hkc : (kc + r3.2.2.1) + mc = K := by omega
          have hks : (ks + r3.2.2.2) + ms = N := by omega
          have hcs : (kc + r3.2.2.1) ≤ K ∧ (ks + r3.2.2.2) ≤ N := ⟨by omega, by omega⟩
          refine lv_iload hx hb d_T_makeIntersection_107 (lv_at hl 0 rfl) ?_
          cases h; exact tx_ret C0 hP hD hS (by omega) (by omega) d_T_makeIntersection_109
    · rw [if_neg hc] at h
      refine lv_iload hx hb d_T_makeIntersection_80 (lv_at hl 0 rfl) ?_
      cases h; exact tx_ret C0 hP hD hS (by omega) (by omega) d_T_makeIntersection_82
  · rw [if_neg hc] at h
    refine lv_iload hx hb d_T_makeIntersection_44 (lv_at hl 4 rfl) ?_
    refine lv_aload_n hx hb d_T_makeIntersection_46 rfl (lv_at hl 0 rfl) ?_
    refine lv_aload_n hx hb d_T_makeIntersection_47 rfl (lv_at hl 1 rfl) ?_
    refine lv_iload_n hx hb d_T_makeIntersection_48 rfl (lv_at hl 2 rfl) ?_
    refine lv_iload hx hb d_T_makeIntersection_49 (lv_at hl 5 rfl) ?_
    refine lv_iadd hx hb d_T_makeIntersection_51 ?_
    obtain ⟨hi, h⟩ := gd h
    refine va_iald hx hb hK.1 hP 9 0 rfl rfl hi d_T_makeIntersection_52 ?_
    obtain ⟨r4, g4, h⟩ := bd h
    refine ro_V (n := 1) (ci := 2) (As := [.int (pa1.2 (x2 + x5).toNatClampNeg)]) (rest := [.int x4]) C0 (c_T_sizeOf l D cI cZ a q σ (pa1.2 (x2 + x5).toNatClampNeg) g4) wd_53 ⟨wd_54, wd_55, wd_56, wd_49⟩ (by decide +kernel) ⟨Nat.le_of_ble_eq_true rfl, Nat.le_of_ble_eq_true rfl⟩ (hP.pick [0, 1, 2, 3, 4, 5, 6, 7, 8] rfl) rfl rfl rfl hl rfl rfl (Nat.le_of_ble_eq_true rfl) hcs d_T_makeIntersection_53 ?_
    try dsimp only at h
    refine lv_iadd hx hb d_T_makeIntersection_56 ?_
    refine lv_istore (lv' := [(4, .int (x4 + r4)), (0, .ref (a 10)), (1, .ref b1), (2, .int x2), (3, .int x3), (5, .int x5)]) hx hb d_T_makeIntersection_57 hl (by decide) rfl (fun ls hl => ?_)
    refine lv_iinc (v := (x5 + 1)) (lv' := [(5, .int (x5 + 1)), (4, .int (x4 + r4)), (0, .ref (a 10)), (1, .ref b1), (2, .int x2), (3, .int x3)]) hx hb d_T_makeIntersection_59 hl (k := 5) rfl rfl (by decide) rfl (fun ls hl => ?_)
    refine lv_goto (tgt := 38) hx hb d_T_makeIntersection_62 (by decide) ?_
    exact hk38 _ _ _ _ _ _ _ _ _ _ _ _ _ h hkc hks hP hD hS (lv_sub hl [2, 3, 4, 5, 1, 0] rfl)
set_option maxHeartbeats 4000000 in
set_option maxRecDepth 100000 in
theorem t_T_makeIntersection_38 {p : Program} {l : Launch} {e : Env} {s : State} {m : MethodId} {args : Array Value} {below : List Frame} {meth : Method} {c : Code} {D : va_G} {cI cZ : ClassId} {a : Nat → Nat} {pa1 : Nat × (Nat → Int32)} {b1 : Nat} {A : Nat → Prop} (C0 : Am p s m args meth c b_T_makeIntersection (some .int) 7 R_T D [(cI, .int), (cZ, .boolean)]) (hA : ∀ q, s.heap.size ≤ q → A q) (hT : ∀ x ∈ c.exceptionTable.toList, False) (hl0 : l.stackTraces = false) (hZ : Zs A s s.heap) {v : Int32 ⊕ Nat} {u : StT} {K N : Nat}  {n : Nat} {q : Nat} {σ : StT} {x2 x3 x4 x5 : Int32} {kc ks mc ms : Nat} (h : f_T_makeIntersection_38 pa1 n σ x2 x3 x4 x5 = some (v, u, mc, ms)) (hkc : kc + mc = K) (hks : ks + ms = N) {H : Heap} {locs : List Loc} (hP : va_P D vwCl ((wT cI cZ a q σ) ++ [(b1, .inl (cI, pa1.1, .inl pa1.2))]) H) (hD : va_D A ((wT cI cZ a q σ) ++ [(b1, .inl (cI, pa1.1, .inl pa1.2))])) (hS : va_S A s.heap H locs) {ls : Array Slot} (hl : lv_has ls 7 [(0, .ref (a 10)), (1, .ref b1), (2, .int x2), (3, .int x3), (4, .int x4), (5, .int x5)]) : W p l e (rmK 4 92 K N) s m args below meth c H locs kc ks (TxQ below args s D A (fun q (σ : StT) => ((wT cI cZ a q σ) ++ [(b1, .inl (cI, pa1.1, .inl pa1.2))])) v u K N) (F0 m 38 ls []) := by
  induction n generalizing q σ x2 x3 x4 x5 kc ks mc ms H locs ls with
  | zero => cases h
  | succ n ih => exact t_T_makeIntersection_38_s (a := a) C0 hA hT hl0 hZ  (fun _ _ _ _ _ _ _ _ _ _ _ _ _ h hkc hks hP hD hS hl => ih h hkc hks hP hD hS hl) h hkc hks hP hD hS hl
set_option maxHeartbeats 4000000 in
set_option maxRecDepth 100000 in
theorem t_T_makeIntersection_0 {p : Program} {l : Launch} {e : Env} {s : State} {m : MethodId} {args : Array Value} {below : List Frame} {meth : Method} {c : Code} {D : va_G} {cI cZ : ClassId} {a : Nat → Nat} {pa1 : Nat × (Nat → Int32)} {b1 : Nat} {A : Nat → Prop} (C0 : Am p s m args meth c b_T_makeIntersection (some .int) 7 R_T D [(cI, .int), (cZ, .boolean)]) (hA : ∀ q, s.heap.size ≤ q → A q) (hT : ∀ x ∈ c.exceptionTable.toList, False) (hl0 : l.stackTraces = false) (hZ : Zs A s s.heap) {v : Int32 ⊕ Nat} {u : StT} {K N : Nat}   {q : Nat} {σ : StT} {x2 x3 : Int32} {kc ks mc ms : Nat} (h : f_T_makeIntersection pa1 σ x2 x3 = some (v, u, mc, ms)) (hkc : kc + mc = K) (hks : ks + ms = N) {H : Heap} {locs : List Loc} (hP : va_P D vwCl ((wT cI cZ a q σ) ++ [(b1, .inl (cI, pa1.1, .inl pa1.2))]) H) (hD : va_D A ((wT cI cZ a q σ) ++ [(b1, .inl (cI, pa1.1, .inl pa1.2))])) (hS : va_S A s.heap H locs) {ls : Array Slot} (hl : lv_has ls 7 [(0, .ref (a 10)), (1, .ref b1), (2, .int x2), (3, .int x3)]) : W p l e (rmK 4 92 K N) s m args below meth c H locs kc ks (TxQ below args s D A (fun q (σ : StT) => ((wT cI cZ a q σ) ++ [(b1, .inl (cI, pa1.1, .inl pa1.2))])) v u K N) (F0 m 0 ls []) := by
  obtain ⟨hx, hb, hr, hml, hown, hts, hlk, hK⟩ := id C0
  have hcs : kc ≤ K ∧ ks ≤ N := ⟨by omega, by omega⟩
  unfold f_T_makeIntersection at h
  refine lv_aload_n hx hb d_T_makeIntersection_0 rfl (lv_at hl 1 rfl) ?_
  refine lv_ifnull hx hb d_T_makeIntersection_1 ?_
  refine lv_iload_n hx hb d_T_makeIntersection_4 rfl (lv_at hl 2 rfl) ?_
  refine lv_if_lt (tgt := 21) hx hb d_T_makeIntersection_5 (by decide) (fun hc => ?_) (fun hc => ?_)
  · rw [if_pos hc] at h
    refine lv_iconst (v := (-1)) hx hb d_T_makeIntersection_21 (by decide) ?_
    cases h; exact tx_ret C0 hP hD hS (by omega) (by omega) d_T_makeIntersection_22
  · rw [if_neg hc] at h
    refine lv_iload_n hx hb d_T_makeIntersection_8 rfl (lv_at hl 3 rfl) ?_
    refine lv_iconst (v := 1) hx hb d_T_makeIntersection_9 (by decide) ?_
    refine lv_icmp_lt (tgt := 21) hx hb d_T_makeIntersection_10 (by decide) (fun hc => ?_) (fun hc => ?_)
    · rw [if_pos hc] at h
      refine lv_iconst (v := (-1)) hx hb d_T_makeIntersection_21 (by decide) ?_
      cases h; exact tx_ret C0 hP hD hS (by omega) (by omega) d_T_makeIntersection_22
    · rw [if_neg hc] at h
      refine lv_iload_n hx hb d_T_makeIntersection_13 rfl (lv_at hl 3 rfl) ?_
      refine lv_aload_n hx hb d_T_makeIntersection_14 rfl (lv_at hl 1 rfl) ?_
      refine va_alen hx hb hK.1 hP 9 0 rfl rfl rfl d_T_makeIntersection_15 ?_
      refine lv_iload_n hx hb d_T_makeIntersection_16 rfl (lv_at hl 2 rfl) ?_
      refine lv_isub hx hb d_T_makeIntersection_17 ?_
      refine lv_icmp_le (tgt := 23) hx hb d_T_makeIntersection_18 (by decide) (fun hc => ?_) (fun hc => ?_)
      · rw [if_pos hc] at h
        refine lv_iload_n hx hb d_T_makeIntersection_23 rfl (lv_at hl 3 rfl) ?_
        refine lv_iconst (v := 1) hx hb d_T_makeIntersection_24 (by decide) ?_
        refine lv_icmp_ne (tgt := 32) hx hb d_T_makeIntersection_25 (by decide) (fun hc => ?_) (fun hc => ?_)
        · rw [if_neg hc] at h
          refine lv_iconst (v := 1) hx hb d_T_makeIntersection_32 (by decide) ?_
          refine lv_istore (lv' := [(4, .int 1), (0, .ref (a 10)), (1, .ref b1), (2, .int x2), (3, .int x3)]) hx hb d_T_makeIntersection_33 hl (by decide) rfl (fun ls hl => ?_)
          refine lv_iconst (v := 0) hx hb d_T_makeIntersection_35 (by decide) ?_
          refine lv_istore (lv' := [(5, .int 0), (4, .int 1), (0, .ref (a 10)), (1, .ref b1), (2, .int x2), (3, .int x3)]) hx hb d_T_makeIntersection_36 hl (by decide) rfl (fun ls hl => ?_)
          exact t_T_makeIntersection_38 (a := a) C0 hA hT hl0 hZ  h hkc hks hP hD hS (lv_sub hl [2, 3, 4, 5, 1, 0] rfl)
        · rw [if_pos hc] at h
          refine lv_aload_n hx hb d_T_makeIntersection_28 rfl (lv_at hl 1 rfl) ?_
          refine lv_iload_n hx hb d_T_makeIntersection_29 rfl (lv_at hl 2 rfl) ?_
          obtain ⟨hi, h⟩ := gd h
          refine va_iald hx hb hK.1 hP 9 0 rfl rfl hi d_T_makeIntersection_30 ?_
          cases h; exact tx_ret C0 hP hD hS (by omega) (by omega) d_T_makeIntersection_31
      · rw [if_neg hc] at h
        refine lv_iconst (v := (-1)) hx hb d_T_makeIntersection_21 (by decide) ?_
        cases h; exact tx_ret C0 hP hD hS (by omega) (by omega) d_T_makeIntersection_22
set_option maxHeartbeats 4000000 in
set_option maxRecDepth 100000 in
theorem c_T_makeIntersection (l : Launch) (D : va_G) (cI cZ : ClassId) (a : Nat → Nat) (hl0 : l.stackTraces = false) (q : Nat) (σ : StT) (pa1 : Nat × (Nat → Int32)) (b1 : Nat) (x2 : Int32) (x3 : Int32) {res : (Int32 ⊕ Nat) × StT × Nat × Nat} (h : f_T_makeIntersection pa1 σ x2 x3 = some res) : TxM l y_T_makeIntersection b_T_makeIntersection 7 (some .int) 4 92 D [(cI, .int), (cZ, .boolean)] [.ref (a 10), .ref b1, .int x2, .int x3] (fun q (σ : StT) => ((wT cI cZ a q σ) ++ [(b1, .inl (cI, pa1.1, .inl pa1.2))])) q σ res :=
  tx_of (by decide) (Nat.le_of_ble_eq_true rfl) (fun p e s m args below meth c ls A C0 hA hT hZ hP hD hS hl => t_T_makeIntersection_0 (a := a) (kc := 0) (ks := 0) C0 hA hT hl0 hZ h (Nat.zero_add _) (Nat.zero_add _) hP hD hS (lv_sub hl [0, 1, 2, 3] rfl))
