def f_L_boundArgument_46 (rec : StL → Int32 → Int32 → Int32 → Option ((Int32 ⊕ Nat) × StL × Nat × Nat)) (σ : StL) (t0 : Int32) : Option ((Int32 ⊕ Nat) × StL × Nat × Nat) :=
  if t0 = (-1) then
    some (.inl (-1), σ, 0, 0)
  else
    some (.inl (f_L_argumentOf 2 t0), σ, 0, 0)
def f_L_boundArgument_15 (rec : StL → Int32 → Int32 → Int32 → Option ((Int32 ⊕ Nat) × StL × Nat × Nat)) (σ : StL) (x1 x2 x3 : Int32) : Option ((Int32 ⊕ Nat) × StL × Nat × Nat) :=
  if x3 = 0 then
    (f_T_makeNamed (L_types σ) 0 0).bind fun r2 =>
    f_L_boundArgument_46 rec (L_set_types σ r2.2) r2.1
  else
    (rec σ (f_L_typeOf x1) (f_L_typeOf x2) (x3 - 1)).bind fun r1 => ad_ r1.2.2.1 r1.2.2.2 <| match r1.1 with
    | .inr e => some (.inr e, r1.2.1, 0, 0)
    | .inl r1v =>
    f_L_boundArgument_46 rec r1.2.1 r1v
def f_L_boundArgument (rec : StL → Int32 → Int32 → Int32 → Option ((Int32 ⊕ Nat) × StL × Nat × Nat)) (σ : StL) (x1 x2 x3 : Int32) : Option ((Int32 ⊕ Nat) × StL × Nat × Nat) :=
  if x1 = x2 then
    if (f_L_howOf x1) = 2 then
      f_L_boundArgument_15 rec σ x1 x2 x3
    else
      some (.inl x1, σ, 0, 0)
  else
    f_L_boundArgument_15 rec σ x1 x2 x3
set_option maxHeartbeats 4000000 in
set_option maxRecDepth 100000 in
theorem t_L_boundArgument_46 {p : Program} {l : Launch} {e : Env} {s : State} {m : MethodId} {args : Array Value} {below : List Frame} {meth : Method} {c : Code} {D : va_G} {cI cZ : ClassId} {a : Nat → Nat} {A : Nat → Prop} (C0 : Am p s m args meth c b_L_boundArgument (some .int) 5 R_L D [(cI, .int), (cZ, .boolean)]) (hA : ∀ q, s.heap.size ≤ q → A q) (hT : ∀ x ∈ c.exceptionTable.toList, False) (hl0 : l.stackTraces = false) (hZ : Zs A s s.heap) {v : Int32 ⊕ Nat} {u : StL} {K N : Nat} {rec : StL → Int32 → Int32 → Int32 → Option ((Int32 ⊕ Nat) × StL × Nat × Nat)} {fr0 lc0 : Nat} (hfr : 5 ≤ fr0) (hlc : 132 ≤ lc0) (hrec : ∀ (q : Nat) (σ : StL) (z0 z1 z2 : Int32) (r : (Int32 ⊕ Nat) × StL × Nat × Nat), rec σ z0 z1 z2 = some r → TxM l y_L_upperBound b_L_upperBound 9 (some .int) fr0 lc0 D [(cI, .int), (cZ, .boolean)] [.ref (a 0), .int z0, .int z1, .int z2] (fun q (σ : StL) => wL cI cZ a q σ) q σ r)   {q : Nat} {σ : StL} {t0 : Int32} {kc ks mc ms : Nat} (h : f_L_boundArgument_46 rec σ t0 = some (v, u, mc, ms)) (hkc : kc + mc = K) (hks : ks + ms = N) {H : Heap} {locs : List Loc} (hP : va_P D vwCl (wL cI cZ a q σ) H) (hD : va_D A (wL cI cZ a q σ)) (hS : va_S A s.heap H locs) {ls : Array Slot} (hl : lv_has ls 5 []) : W p l e (rmK (fr0 + 1) (lc0 + 28) K N) s m args below meth c H locs kc ks (TxQ below args s D A (fun q (σ : StL) => (wL cI cZ a q σ)) v u K N) (F0 m 46 ls [.int t0]) := by
  obtain ⟨hx, hb, hr, hml, hown, hts, hlk, hK⟩ := id C0
  have hcs : kc ≤ K ∧ ks ≤ N := ⟨by omega, by omega⟩
  unfold f_L_boundArgument_46 at h
  refine lv_istore (lv' := [(4, .int t0)]) hx hb d_L_boundArgument_46 hl (by decide) rfl (fun ls hl => ?_)
  refine lv_iload hx hb d_L_boundArgument_48 (lv_at hl 0 rfl) ?_
  refine lv_iconst (v := (-1)) hx hb d_L_boundArgument_50 (by decide) ?_
  refine lv_icmp_ne (tgt := 58) hx hb d_L_boundArgument_51 (by decide) (fun hc => ?_) (fun hc => ?_)
  · rw [if_neg hc] at h
    refine lv_iconst (v := 2) hx hb d_L_boundArgument_58 (by decide) ?_
    refine lv_iload hx hb d_L_boundArgument_59 (lv_at hl 0 rfl) ?_
    refine ro_S (n := 2) (As := [.int 2, .int t0]) (rest := []) C0 (c_L_argumentOf l D cI cZ a 2 t0 rfl) wd_174 ⟨wd_106, wd_107, wd_55⟩ (by decide +kernel) ⟨by show 0 + 1 ≤ fr0 + 1; omega, by show 8 + (2 + 11) + 0 ≤ lc0 + 28; omega⟩ pnil hl rfl rfl (Nat.le_of_ble_eq_true rfl) hcs d_L_boundArgument_61 ?_
    cases h; exact tx_ret C0 hP hD hS (by omega) (by omega) d_L_boundArgument_64
  · rw [if_pos hc] at h
    refine lv_iconst (v := (-1)) hx hb d_L_boundArgument_54 (by decide) ?_
    refine lv_goto (tgt := 64) hx hb d_L_boundArgument_55 (by decide) ?_
    cases h; exact tx_ret C0 hP hD hS (by omega) (by omega) d_L_boundArgument_64
set_option maxHeartbeats 4000000 in
set_option maxRecDepth 100000 in
theorem t_L_boundArgument_15 {p : Program} {l : Launch} {e : Env} {s : State} {m : MethodId} {args : Array Value} {below : List Frame} {meth : Method} {c : Code} {D : va_G} {cI cZ : ClassId} {a : Nat → Nat} {A : Nat → Prop} (C0 : Am p s m args meth c b_L_boundArgument (some .int) 5 R_L D [(cI, .int), (cZ, .boolean)]) (hA : ∀ q, s.heap.size ≤ q → A q) (hT : ∀ x ∈ c.exceptionTable.toList, False) (hl0 : l.stackTraces = false) (hZ : Zs A s s.heap) {v : Int32 ⊕ Nat} {u : StL} {K N : Nat} {rec : StL → Int32 → Int32 → Int32 → Option ((Int32 ⊕ Nat) × StL × Nat × Nat)} {fr0 lc0 : Nat} (hfr : 5 ≤ fr0) (hlc : 132 ≤ lc0) (hrec : ∀ (q : Nat) (σ : StL) (z0 z1 z2 : Int32) (r : (Int32 ⊕ Nat) × StL × Nat × Nat), rec σ z0 z1 z2 = some r → TxM l y_L_upperBound b_L_upperBound 9 (some .int) fr0 lc0 D [(cI, .int), (cZ, .boolean)] [.ref (a 0), .int z0, .int z1, .int z2] (fun q (σ : StL) => wL cI cZ a q σ) q σ r)   {q : Nat} {σ : StL} {x1 x2 x3 : Int32} {kc ks mc ms : Nat} (h : f_L_boundArgument_15 rec σ x1 x2 x3 = some (v, u, mc, ms)) (hkc : kc + mc = K) (hks : ks + ms = N) {H : Heap} {locs : List Loc} (hP : va_P D vwCl (wL cI cZ a q σ) H) (hD : va_D A (wL cI cZ a q σ)) (hS : va_S A s.heap H locs) {ls : Array Slot} (hl : lv_has ls 5 [(0, .ref (a 0)), (1, .int x1), (2, .int x2), (3, .int x3)]) : W p l e (rmK (fr0 + 1) (lc0 + 28) K N) s m args below meth c H locs kc ks (TxQ below args s D A (fun q (σ : StL) => (wL cI cZ a q σ)) v u K N) (F0 m 15 ls []) := by
  obtain ⟨hx, hb, hr, hml, hown, hts, hlk, hK⟩ := id C0
  have hcs : kc ≤ K ∧ ks ≤ N := ⟨by omega, by omega⟩
  unfold f_L_boundArgument_15 at h
  refine lv_iload_n hx hb d_L_boundArgument_15 rfl (lv_at hl 3 rfl) ?_
  refine lv_if_ne (tgt := 31) hx hb d_L_boundArgument_16 (by decide) (fun hc => ?_) (fun hc => ?_)
  · rw [if_neg hc] at h
    refine lv_aload_n hx hb d_L_boundArgument_31 rfl (lv_at hl 0 rfl) ?_
    refine lv_iload_n hx hb d_L_boundArgument_32 rfl (lv_at hl 1 rfl) ?_
    refine ro_S (n := 1) (As := [.int x1]) (rest := [.ref (a 0)]) C0 (c_L_typeOf l D cI cZ a x1 rfl) wd_240 ⟨wd_53, wd_54, wd_55⟩ (by decide +kernel) ⟨by show 0 + 1 ≤ fr0 + 1; omega, by show 8 + (1 + 11) + 0 ≤ lc0 + 28; omega⟩ pnil hl rfl rfl (Nat.le_of_ble_eq_true rfl) hcs d_L_boundArgument_33 ?_
    refine lv_iload_n hx hb d_L_boundArgument_36 rfl (lv_at hl 2 rfl) ?_
    refine ro_S (n := 1) (As := [.int x2]) (rest := [.int (f_L_typeOf x1), .ref (a 0)]) C0 (c_L_typeOf l D cI cZ a x2 rfl) wd_240 ⟨wd_53, wd_54, wd_55⟩ (by decide +kernel) ⟨by show 0 + 1 ≤ fr0 + 1; omega, by show 8 + (1 + 11) + 0 ≤ lc0 + 28; omega⟩ pnil hl rfl rfl (Nat.le_of_ble_eq_true rfl) hcs d_L_boundArgument_37 ?_
    refine lv_iload_n hx hb d_L_boundArgument_40 rfl (lv_at hl 3 rfl) ?_
    refine lv_iconst (v := 1) hx hb d_L_boundArgument_41 (by decide) ?_
    refine lv_isub hx hb d_L_boundArgument_42 ?_
    replace h := bd h
    obtain ⟨r1, g1, h⟩ := h
    try dsimp only at h
    replace h := ad_s h
    obtain ⟨mc, ms, h, rfl, rfl⟩ := h
    refine tx_V (n := 3) (ci := 0) (As := [.int (f_L_typeOf x1), .int (f_L_typeOf x2), .int (x3 - 1)]) (rest := []) (Wn := fun q => (wL cI cZ a q r1.2.1)) C0 hA hZ (hrec q σ (f_L_typeOf x1) (f_L_typeOf x2) (x3 - 1) _ g1) wd_241 ⟨wd_242, wd_243, wd_244, wd_55⟩ (by decide +kernel) ⟨by show fr0 + 1 ≤ fr0 + 1; omega, by show 8 + (9 + 11) + (lc0) ≤ lc0 + 28; omega⟩ hP hD hS [0, 1, 2, 3, 4, 5, 6, 7, 8, 9, 10, 11, 12, 13, 14, 15, 16, 17, 18, 19, 20] [] [0, 1, 2, 3, 4, 5, 6, 7, 8, 9, 10, 11, 12, 13, 14, 15, 16, 17, 18, 19, 20] jn_L__C (by decide) jn_L__R (by decide) (by decide) (by decide) jn_L__W rfl rfl rfl hl rfl rfl (Nat.le_of_ble_eq_true rfl) ⟨by show kc + _ ≤ K; omega, by show ks + _ ≤ N; omega⟩ d_L_boundArgument_43 (fun ek H locs q q9 ce hv hP hD hS h1 h2 h3 => ?_) (fun r1v H locs q hv hP hD hS => ?_)
    · rw [hv] at h
      cases h
      exact tx_out C0 hT hP hD hS h1 h2 h3 (by omega) (by omega)
    · rw [hv] at h
      try dsimp only at h
      have hkc : (kc + r1.2.2.1) + mc = K := by omega
      have hks : (ks + r1.2.2.2) + ms = N := by omega
      have hcs : (kc + r1.2.2.1) ≤ K ∧ (ks + r1.2.2.2) ≤ N := ⟨by omega, by omega⟩
      exact t_L_boundArgument_46 (a := a) C0 hA hT hl0 hZ hfr hlc hrec  h hkc hks hP hD hS (lv_sub hl [] rfl)
  · rw [if_pos hc] at h
    refine lv_aload_n hx hb d_L_boundArgument_19 rfl (lv_at hl 0 rfl) ?_
    refine va_get (ci := 0) (v := .ref (a 10)) (C := R_L) (T := F_L) (N := 6) hx hb hts i_L hown hK.1 hP 0 rfl rfl 2 (by decide) (hts _ wd_85) (fun _ h9 => h9) rfl d_L_boundArgument_20 ?_
    refine lv_iconst (v := 0) hx hb d_L_boundArgument_23 (by decide) ?_
    refine lv_iconst (v := 0) hx hb d_L_boundArgument_24 (by decide) ?_
    replace h := bd h
    obtain ⟨r2, g2, h⟩ := h
    refine rw_V (n := 2) (ci := 2) (As := [.int 0, .int 0]) (rest := []) (Wn := fun q => (wL cI cZ a q (L_set_types σ r2.2))) C0 hA (c_T_makeNamed l D cI cZ a q (L_types σ) 0 0 g2) wd_175 ⟨wd_176, wd_177, wd_178, wd_52⟩ (by decide +kernel) ⟨by show 2 + 1 ≤ fr0 + 1; omega, by show 8 + (4 + 11) + 42 ≤ lc0 + 28; omega⟩ hP hD hS [10, 11, 12, 13, 14, 15, 16, 17, 18] [0, 1, 2, 3, 4, 5, 6, 7, 8, 9, 19, 20] [0, 1, 2, 3, 4, 5, 6, 7, 8, 9, 12, 13, 14, 15, 16, 17, 18, 19, 20, 10, 11] jn_L_types_C (by decide) jn_L_types_R (by decide) (by decide) (by decide) jn_L_types_W rfl rfl rfl hl rfl rfl (Nat.le_of_ble_eq_true rfl) hcs d_L_boundArgument_25 (fun H locs q hP hD hS => ?_)
    try dsimp only at h
    refine lv_goto (tgt := 46) hx hb d_L_boundArgument_28 (by decide) ?_
    exact t_L_boundArgument_46 (a := a) C0 hA hT hl0 hZ hfr hlc hrec  h hkc hks hP hD hS (lv_sub hl [] rfl)
set_option maxHeartbeats 4000000 in
set_option maxRecDepth 100000 in
theorem t_L_boundArgument_0 {p : Program} {l : Launch} {e : Env} {s : State} {m : MethodId} {args : Array Value} {below : List Frame} {meth : Method} {c : Code} {D : va_G} {cI cZ : ClassId} {a : Nat → Nat} {A : Nat → Prop} (C0 : Am p s m args meth c b_L_boundArgument (some .int) 5 R_L D [(cI, .int), (cZ, .boolean)]) (hA : ∀ q, s.heap.size ≤ q → A q) (hT : ∀ x ∈ c.exceptionTable.toList, False) (hl0 : l.stackTraces = false) (hZ : Zs A s s.heap) {v : Int32 ⊕ Nat} {u : StL} {K N : Nat} {rec : StL → Int32 → Int32 → Int32 → Option ((Int32 ⊕ Nat) × StL × Nat × Nat)} {fr0 lc0 : Nat} (hfr : 5 ≤ fr0) (hlc : 132 ≤ lc0) (hrec : ∀ (q : Nat) (σ : StL) (z0 z1 z2 : Int32) (r : (Int32 ⊕ Nat) × StL × Nat × Nat), rec σ z0 z1 z2 = some r → TxM l y_L_upperBound b_L_upperBound 9 (some .int) fr0 lc0 D [(cI, .int), (cZ, .boolean)] [.ref (a 0), .int z0, .int z1, .int z2] (fun q (σ : StL) => wL cI cZ a q σ) q σ r)   {q : Nat} {σ : StL} {x1 x2 x3 : Int32} {kc ks mc ms : Nat} (h : f_L_boundArgument rec σ x1 x2 x3 = some (v, u, mc, ms)) (hkc : kc + mc = K) (hks : ks + ms = N) {H : Heap} {locs : List Loc} (hP : va_P D vwCl (wL cI cZ a q σ) H) (hD : va_D A (wL cI cZ a q σ)) (hS : va_S A s.heap H locs) {ls : Array Slot} (hl : lv_has ls 5 [(0, .ref (a 0)), (1, .int x1), (2, .int x2), (3, .int x3)]) : W p l e (rmK (fr0 + 1) (lc0 + 28) K N) s m args below meth c H locs kc ks (TxQ below args s D A (fun q (σ : StL) => (wL cI cZ a q σ)) v u K N) (F0 m 0 ls []) := by
  obtain ⟨hx, hb, hr, hml, hown, hts, hlk, hK⟩ := id C0
  have hcs : kc ≤ K ∧ ks ≤ N := ⟨by omega, by omega⟩
  unfold f_L_boundArgument at h
  refine lv_iload_n hx hb d_L_boundArgument_0 rfl (lv_at hl 1 rfl) ?_
  refine lv_iload_n hx hb d_L_boundArgument_1 rfl (lv_at hl 2 rfl) ?_
  refine lv_icmp_ne (tgt := 15) hx hb d_L_boundArgument_2 (by decide) (fun hc => ?_) (fun hc => ?_)
  · rw [if_neg hc] at h
    exact t_L_boundArgument_15 (a := a) C0 hA hT hl0 hZ hfr hlc hrec  h hkc hks hP hD hS (lv_sub hl [0, 1, 2, 3] rfl)
  · rw [if_pos hc] at h
    refine lv_iload_n hx hb d_L_boundArgument_5 rfl (lv_at hl 1 rfl) ?_
    refine ro_S (n := 1) (As := [.int x1]) (rest := []) C0 (c_L_howOf l D cI cZ a x1 rfl) wd_245 ⟨wd_246, wd_247, wd_55⟩ (by decide +kernel) ⟨by show 0 + 1 ≤ fr0 + 1; omega, by show 8 + (1 + 11) + 0 ≤ lc0 + 28; omega⟩ pnil hl rfl rfl (Nat.le_of_ble_eq_true rfl) hcs d_L_boundArgument_6 ?_
    refine lv_iconst (v := 2) hx hb d_L_boundArgument_9 (by decide) ?_
    refine lv_icmp_eq (tgt := 15) hx hb d_L_boundArgument_10 (by decide) (fun hc => ?_) (fun hc => ?_)
    · rw [if_pos hc] at h
      exact t_L_boundArgument_15 (a := a) C0 hA hT hl0 hZ hfr hlc hrec  h hkc hks hP hD hS (lv_sub hl [0, 1, 2, 3] rfl)
    · rw [if_neg hc] at h
      refine lv_iload_n hx hb d_L_boundArgument_13 rfl (lv_at hl 1 rfl) ?_
      cases h; exact tx_ret C0 hP hD hS (by omega) (by omega) d_L_boundArgument_14
set_option maxHeartbeats 4000000 in
set_option maxRecDepth 100000 in
theorem c_L_boundArgument {l : Launch} {D : va_G} {cI cZ : ClassId} {a : Nat → Nat} (hl0 : l.stackTraces = false) {rec : StL → Int32 → Int32 → Int32 → Option ((Int32 ⊕ Nat) × StL × Nat × Nat)} {fr0 lc0 : Nat} (hfr : 5 ≤ fr0) (hlc : 132 ≤ lc0) (hrec : ∀ (q : Nat) (σ : StL) (z0 z1 z2 : Int32) (r : (Int32 ⊕ Nat) × StL × Nat × Nat), rec σ z0 z1 z2 = some r → TxM l y_L_upperBound b_L_upperBound 9 (some .int) fr0 lc0 D [(cI, .int), (cZ, .boolean)] [.ref (a 0), .int z0, .int z1, .int z2] (fun q (σ : StL) => wL cI cZ a q σ) q σ r) (q : Nat) (σ : StL) (x1 : Int32) (x2 : Int32) (x3 : Int32) {res : (Int32 ⊕ Nat) × StL × Nat × Nat} (h : f_L_boundArgument rec σ x1 x2 x3 = some res) : TxM l y_L_boundArgument b_L_boundArgument 5 (some .int) (fr0 + 1) (lc0 + 28) D [(cI, .int), (cZ, .boolean)] [.ref (a 0), .int x1, .int x2, .int x3] (fun q (σ : StL) => (wL cI cZ a q σ)) q σ res :=
  tx_of (by decide) (Nat.le_of_ble_eq_true rfl) (fun p e s m args below meth c ls A C0 hA hT hZ hP hD hS hl => t_L_boundArgument_0 (a := a) (kc := 0) (ks := 0) C0 hA hT hl0 hZ hfr hlc hrec h (Nat.zero_add _) (Nat.zero_add _) hP hD hS (lv_sub hl [0, 1, 2, 3] rfl))
