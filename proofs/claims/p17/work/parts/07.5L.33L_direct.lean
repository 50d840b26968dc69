def f_L_direct_21 (σ : StL) : Option ((Int32 ⊕ Nat) × StL × Nat × Nat) :=
  some (.inr 1, σ, 1, 6)
def f_L_direct (σ : StL) (x1 x2 x3 : Int32) : Option ((Int32 ⊕ Nat) × StL × Nat × Nat) :=
  (f_L_requireClass σ x1).bind fun r1 => ad_ r1.2.2.1 r1.2.2.2 <| match r1.1 with
  | .inr e => some (.inr e, r1.2.1, 0, 0)
  | .inl r1v =>
  if x2 < 0 then
    f_L_direct_21 r1.2.1
  else
    (f_C_countDirect (L_classes r1.2.1) x1).bind fun r2 =>
    if x2 < r2 then
      if x3 = 0 then
        (f_C_directAt (L_classes r1.2.1) x1 x2).bind fun r3 =>
        some (.inl r3, r1.2.1, 0, 0)
      else if x3 = 1 then
        (f_C_toldAt (L_classes r1.2.1) x1 x2).bind fun r4 =>
        some (.inl r4, r1.2.1, 0, 0)
      else some (.inr 3, r1.2.1, 1, 6)
    else
      f_L_direct_21 r1.2.1
set_option maxHeartbeats 4000000 in
set_option maxRecDepth 100000 in
theorem t_L_direct_21 {p : Program} {l : Launch} {e : Env} {s : State} {m : MethodId} {args : Array Value} {below : List Frame} {meth : Method} {c : Code} {D : va_G} {cI cZ : ClassId} {a : Nat → Nat} {A : Nat → Prop} (C0 : Am p s m args meth c b_L_direct (some .int) 4 R_L D [(cI, .int), (cZ, .boolean)]) (hA : ∀ q, s.heap.size ≤ q → A q) (hT : ∀ x ∈ c.exceptionTable.toList, False) (hl0 : l.stackTraces = false) (hZ : Zs A s s.heap) {v : Int32 ⊕ Nat} {u : StL} {K N : Nat}   {q : Nat} {σ : StL} {kc ks mc ms : Nat} (h : f_L_direct_21 σ = some (v, u, mc, ms)) (hkc : kc + mc = K) (hks : ks + ms = N) {H : Heap} {locs : List Loc} (hP : va_P D vwCl (wL cI cZ a q σ) H) (hD : va_D A (wL cI cZ a q σ)) (hS : va_S A s.heap H locs) {ls : Array Slot} (hl : lv_has ls 4 []) : W p l e (rmK 9 141 K N) s m args below meth c H locs kc ks (TxQ below args s D A (fun q (σ : StL) => (wL cI cZ a q σ)) v u K N) (F0 m 21 ls []) := by
  obtain ⟨hx, hb, hr, hml, hown, hts, hlk, hK⟩ := id C0
  have hcs : kc ≤ K ∧ ks ≤ N := ⟨by omega, by omega⟩
  unfold f_L_direct_21 at h
  cases h
  exact tx_throw (k := 1) C0 hT hl0 hZ hP hD hS wd_83 wd_84 (List.mem_of_getElem? (i := 14) rfl) th_1_176_180_a th_1_176_180_b thI_1 d_L_direct_21 d_L_direct_24 d_L_direct_25 d_L_direct_27 d_L_direct_30 hl (Nat.le_of_ble_eq_true rfl) (Nat.le_of_ble_eq_true rfl) (by show kc + 1 ≤ K; omega) (by show ks + 6 ≤ N; omega) (by omega) (by omega)
set_option maxHeartbeats 4000000 in
set_option maxRecDepth 100000 in
theorem t_L_direct_0 {p : Program} {l : Launch} {e : Env} {s : State} {m : MethodId} {args : Array Value} {below : List Frame} {meth : Method} {c : Code} {D : va_G} {cI cZ : ClassId} {a : Nat → Nat} {A : Nat → Prop} (C0 : Am p s m args meth c b_L_direct (some .int) 4 R_L D [(cI, .int), (cZ, .boolean)]) (hA : ∀ q, s.heap.size ≤ q → A q) (hT : ∀ x ∈ c.exceptionTable.toList, False) (hl0 : l.stackTraces = false) (hZ : Zs A s s.heap) {v : Int32 ⊕ Nat} {u : StL} {K N : Nat}   {q : Nat} {σ : StL} {x1 x2 x3 : Int32} {kc ks mc ms : Nat} (h : f_L_direct σ x1 x2 x3 = some (v, u, mc, ms)) (hkc : kc + mc = K) (hks : ks + ms = N) {H : Heap} {locs : List Loc} (hP : va_P D vwCl (wL cI cZ a q σ) H) (hD : va_D A (wL cI cZ a q σ)) (hS : va_S A s.heap H locs) {ls : Array Slot} (hl : lv_has ls 4 [(0, .ref (a 0)), (1, .int x1), (2, .int x2), (3, .int x3)]) : W p l e (rmK 9 141 K N) s m args below meth c H locs kc ks (TxQ below args s D A (fun q (σ : StL) => (wL cI cZ a q σ)) v u K N) (F0 m 0 ls []) := by
  obtain ⟨hx, hb, hr, hml, hown, hts, hlk, hK⟩ := id C0
  have hcs : kc ≤ K ∧ ks ≤ N := ⟨by omega, by omega⟩
  unfold f_L_direct at h
  refine lv_aload_n hx hb d_L_direct_0 rfl (lv_at hl 0 rfl) ?_
  refine lv_iload_n hx hb d_L_direct_1 rfl (lv_at hl 1 rfl) ?_
  replace h := bd h
  obtain ⟨r1, g1, h⟩ := h
  try dsimp only at h
  replace h := ad_s h
  obtain ⟨mc, ms, h, rfl, rfl⟩ := h
  refine tx_Vv (n := 1) (ci := 0) (As := [.int x1]) (rest := []) (Wn := fun q => (wL cI cZ a q r1.2.1)) C0 hA hZ (c_L_requireClass l D cI cZ a hl0 q σ x1 g1) wd_134 ⟨wd_135, wd_136, wd_137, wd_55⟩ (by decide +kernel) ⟨Nat.le_of_ble_eq_true rfl, Nat.le_of_ble_eq_true rfl⟩ hP hD hS [0, 1, 2, 3, 4, 5, 6, 7, 8, 9, 10, 11, 12, 13, 14, 15, 16, 17, 18, 19, 20] [] [0, 1, 2, 3, 4, 5, 6, 7, 8, 9, 10, 11, 12, 13, 14, 15, 16, 17, 18, 19, 20] jn_L__C (by decide) jn_L__R (by decide) (by decide) (by decide) jn_L__W rfl rfl rfl hl rfl rfl (Nat.le_of_ble_eq_true rfl) ⟨by show kc + _ ≤ K; omega, by show ks + _ ≤ N; omega⟩ d_L_direct_2 (fun ek H locs q q9 ce hv hP hD hS h1 h2 h3 => ?_) (fun r1v H locs q hv hP hD hS => ?_)
  · rw [hv] at h
    cases h
    exact tx_out C0 hT hP hD hS h1 h2 h3 (by omega) (by omega)
  · rw [hv] at h
    try dsimp only at h
    have hkc : (kc + r1.2.2.1) + mc = K := by omega
    have hks : (ks + r1.2.2.2) + ms = N := by omega
    have hcs : (kc + r1.2.2.1) ≤ K ∧ (ks + r1.2.2.2) ≤ N := ⟨by omega, by omega⟩
    refine lv_iload_n hx hb d_L_direct_5 rfl (lv_at hl 2 rfl) ?_
    refine lv_if_lt (tgt := 21) hx hb d_L_direct_6 (by decide) (fun hc => ?_) (fun hc => ?_)
    · rw [if_pos hc] at h
      exact t_L_direct_21 (a := a) C0 hA hT hl0 hZ  h hkc hks hP hD hS (lv_sub hl [] rfl)
    · rw [if_neg hc] at h
      refine lv_iload_n hx hb d_L_direct_9 rfl (lv_at hl 2 rfl) ?_
      refine lv_aload_n hx hb d_L_direct_10 rfl (lv_at hl 0 rfl) ?_
      refine va_get (ci := 0) (v := .ref (a 3)) (C := R_L) (T := F_L) (N := 6) hx hb hts i_L hown hK.1 hP 0 rfl rfl 1 (by decide) (hts _ wd_67) (fun _ h9 => h9) rfl d_L_direct_11 ?_
      refine lv_iload_n hx hb d_L_direct_14 rfl (lv_at hl 1 rfl) ?_
      replace h := bd h
      obtain ⟨r2, g2, h⟩ := h
      refine ro_V (n := 1) (ci := 1) (As := [.int x1]) (rest := [.int x2]) C0 (c_C_countDirect l D cI cZ a q (L_classes r1.2.1) x1 g2) wd_331 ⟨wd_37, wd_38, wd_39, wd_8⟩ (by decide +kernel) ⟨Nat.le_of_ble_eq_true rfl, Nat.le_of_ble_eq_true rfl⟩ (hP.pick [3, 4, 5, 6, 7, 8, 9] rfl) rfl rfl rfl hl rfl rfl (Nat.le_of_ble_eq_true rfl) hcs d_L_direct_15 ?_
      try dsimp only at h
      refine lv_icmp_lt (tgt := 31) hx hb d_L_direct_18 (by decide) (fun hc => ?_) (fun hc => ?_)
      · rw [if_pos hc] at h
        refine lv_iload_n hx hb d_L_direct_31 rfl (lv_at hl 3 rfl) ?_
        by_cases e32_0 : x3 = 0
        · rw [if_pos e32_0] at h
          refine lv_lookup (off := 28) (tgt := 60) hx hb d_L_direct_32 (by decide) (by rw [e32_0]; rfl) (by decide) ?_
          refine lv_aload_n hx hb d_L_direct_60 rfl (lv_at hl 0 rfl) ?_
          refine va_get (ci := 0) (v := .ref (a 3)) (C := R_L) (T := F_L) (N := 6) hx hb hts i_L hown hK.1 hP 0 rfl rfl 1 (by decide) (hts _ wd_67) (fun _ h9 => h9) rfl d_L_direct_61 ?_
          refine lv_iload_n hx hb d_L_direct_64 rfl (lv_at hl 1 rfl) ?_
          refine lv_iload_n hx hb d_L_direct_65 rfl (lv_at hl 2 rfl) ?_
          replace h := bd h
          obtain ⟨r3, g3, h⟩ := h
          refine ro_V (n := 2) (ci := 1) (As := [.int x1, .int x2]) (rest := []) C0 (c_C_directAt l D cI cZ a q (L_classes r1.2.1) x1 x2 g3) wd_332 ⟨wd_88, wd_89, wd_90, wd_8⟩ (by decide +kernel) ⟨Nat.le_of_ble_eq_true rfl, Nat.le_of_ble_eq_true rfl⟩ (hP.pick [3, 4, 5, 6, 7, 8, 9] rfl) rfl rfl rfl hl rfl rfl (Nat.le_of_ble_eq_true rfl) hcs d_L_direct_66 ?_
          try dsimp only at h
          cases h; exact tx_ret C0 hP hD hS (by omega) (by omega) d_L_direct_69
        · rw [if_neg e32_0] at h
          by_cases e32_1 : x3 = 1
          · rw [if_pos e32_1] at h
            refine lv_lookup (off := 38) (tgt := 70) hx hb d_L_direct_32 (by decide) (by rw [e32_1]; rfl) (by decide) ?_
            refine lv_aload_n hx hb d_L_direct_70 rfl (lv_at hl 0 rfl) ?_
            refine va_get (ci := 0) (v := .ref (a 3)) (C := R_L) (T := F_L) (N := 6) hx hb hts i_L hown hK.1 hP 0 rfl rfl 1 (by decide) (hts _ wd_67) (fun _ h9 => h9) rfl d_L_direct_71 ?_
            refine lv_iload_n hx hb d_L_direct_74 rfl (lv_at hl 1 rfl) ?_
            refine lv_iload_n hx hb d_L_direct_75 rfl (lv_at hl 2 rfl) ?_
            replace h := bd h
            obtain ⟨r4, g4, h⟩ := h
            refine ro_V (n := 2) (ci := 1) (As := [.int x1, .int x2]) (rest := []) C0 (c_C_toldAt l D cI cZ a q (L_classes r1.2.1) x1 x2 g4) wd_333 ⟨wd_113, wd_114, wd_115, wd_8⟩ (by decide +kernel) ⟨Nat.le_of_ble_eq_true rfl, Nat.le_of_ble_eq_true rfl⟩ (hP.pick [3, 4, 5, 6, 7, 8, 9] rfl) rfl rfl rfl hl rfl rfl (Nat.le_of_ble_eq_true rfl) hcs d_L_direct_76 ?_
            try dsimp only at h
            cases h; exact tx_ret C0 hP hD hS (by omega) (by omega) d_L_direct_79
          · rw [if_neg e32_1] at h
            refine lv_lookup (off := 48) (tgt := 80) hx hb d_L_direct_32 (by decide) (by show Op.lookupswitch.offset [(0, 28), (1, 38)] 48 _ = _; rw [lv_osw e32_0 (by decide), lv_osw e32_1 (by decide)]; rfl) (by decide) ?_
            cases h
            exact tx_throw (k := 3) C0 hT hl0 hZ hP hD hS wd_164 wd_165 (List.mem_of_getElem? (i := 12) rfl) th_3_87_91_a th_3_87_91_b thI_3 d_L_direct_80 d_L_direct_83 d_L_direct_84 d_L_direct_86 d_L_direct_89 hl (Nat.le_of_ble_eq_true rfl) (Nat.le_of_ble_eq_true rfl) (by show (kc + r1.2.2.1) + 1 ≤ K; omega) (by show (ks + r1.2.2.2) + 6 ≤ N; omega) (by omega) (by omega)
      · rw [if_neg hc] at h
        exact t_L_direct_21 (a := a) C0 hA hT hl0 hZ  h hkc hks hP hD hS (lv_sub hl [] rfl)
set_option maxHeartbeats 4000000 in
set_option maxRecDepth 100000 in
theorem c_L_direct (l : Launch) (D : va_G) (cI cZ : ClassId) (a : Nat → Nat) (hl0 : l.stackTraces = false) (q : Nat) (σ : StL) (x1 : Int32) (x2 : Int32) (x3 : Int32) {res : (Int32 ⊕ Nat) × StL × Nat × Nat} (h : f_L_direct σ x1 x2 x3 = some res) : TxM l y_L_direct b_L_direct 4 (some .int) 9 141 D [(cI, .int), (cZ, .boolean)] [.ref (a 0), .int x1, .int x2, .int x3] (fun q (σ : StL) => (wL cI cZ a q σ)) q σ res :=
  tx_of (by decide) (Nat.le_of_ble_eq_true rfl) (fun p e s m args below meth c ls A C0 hA hT hZ hP hD hS hl => t_L_direct_0 (a := a) (kc := 0) (ks := 0) C0 hA hT hl0 hZ h (Nat.zero_add _) (Nat.zero_add _) hP hD hS (lv_sub hl [0, 1, 2, 3] rfl))
