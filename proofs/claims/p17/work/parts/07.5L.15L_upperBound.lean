def f_L_upperBound_95_s (rec : StL → Int32 → Int32 → Int32 → Option ((Int32 ⊕ Nat) × StL × Nat × Nat)) (k95 : StL → Int32 → Int32 → Int32 → Option ((Int32 ⊕ Nat) × StL × Nat × Nat)) (σ : StL) (x6 x7 x8 : Int32) : Option ((Int32 ⊕ Nat) × StL × Nat × Nat) :=
  if x6 ≤ x8 then
    some (.inl x7, σ, 0, 0)
  else
    if x7 = (-1) then
      some (.inl x7, σ, 0, 0)
    else
      (f_T_makeArray (L_types σ) x7).bind fun r2 =>
      k95 (L_set_types σ r2.2) x6 r2.1 (x8 + 1)
def f_L_upperBound_95 (rec : StL → Int32 → Int32 → Int32 → Option ((Int32 ⊕ Nat) × StL × Nat × Nat)) : Nat → StL → Int32 → Int32 → Int32 → Option ((Int32 ⊕ Nat) × StL × Nat × Nat)
  | 0, _, _, _, _ => none
  | n + 1, σ, x6, x7, x8 => f_L_upperBound_95_s rec (f_L_upperBound_95 rec n) σ x6 x7 x8
def f_L_upperBound_69 (rec : StL → Int32 → Int32 → Int32 → Option ((Int32 ⊕ Nat) × StL × Nat × Nat)) (σ : StL) (x3 x4 x5 x6 : Int32) : Option ((Int32 ⊕ Nat) × StL × Nat × Nat) :=
  if x4 = x5 then
    f_L_upperBound_95 rec 1000 σ x6 x4 0
  else
    (f_L_boundByClasses rec σ x4 x5 x3).bind fun r1 => ad_ r1.2.2.1 r1.2.2.2 <| match r1.1 with
    | .inr e => some (.inr e, r1.2.1, 0, 0)
    | .inl r1v =>
    f_L_upperBound_95 rec 1000 r1.2.1 x6 r1v 0
def f_L_upperBound_9_s (rec : StL → Int32 → Int32 → Int32 → Option ((Int32 ⊕ Nat) × StL × Nat × Nat)) (k9 : StL → Int32 → Int32 → Int32 → Int32 → Option ((Int32 ⊕ Nat) × StL × Nat × Nat)) (σ : StL) (x3 x4 x5 x6 : Int32) : Option ((Int32 ⊕ Nat) × StL × Nat × Nat) :=
  if 100 ≤ x6 then
    f_L_upperBound_69 rec σ x3 x4 x5 x6
  else
    if x4 = x5 then
      f_L_upperBound_69 rec σ x3 x4 x5 x6
    else
      (f_L_isArrayOfOthers σ x4).bind fun r3 =>
      if r3 = 0 then
        f_L_upperBound_69 rec σ x3 x4 x5 x6
      else
        (f_L_isArrayOfOthers σ x5).bind fun r4 =>
        if r4 = 0 then
          f_L_upperBound_69 rec σ x3 x4 x5 x6
        else
          (f_T_elementOf (L_types σ) x4).bind fun r5 =>
          (f_T_elementOf (L_types σ) x5).bind fun r6 =>
          k9 σ x3 r5 r6 (x6 + 1)
def f_L_upperBound_9 (rec : StL → Int32 → Int32 → Int32 → Option ((Int32 ⊕ Nat) × StL × Nat × Nat)) : Nat → StL → Int32 → Int32 → Int32 → Int32 → Option ((Int32 ⊕ Nat) × StL × Nat × Nat)
  | 0, _, _, _, _, _ => none
  | n + 1, σ, x3, x4, x5, x6 => f_L_upperBound_9_s rec (f_L_upperBound_9 rec n) σ x3 x4 x5 x6
def f_L_upperBound_s (rec : StL → Int32 → Int32 → Int32 → Option ((Int32 ⊕ Nat) × StL × Nat × Nat)) (σ : StL) (x1 x2 x3 : Int32) : Option ((Int32 ⊕ Nat) × StL × Nat × Nat) :=
  f_L_upperBound_9 rec 1000 σ x3 x1 x2 0
def f_L_upperBound : Nat → StL → Int32 → Int32 → Int32 → Option ((Int32 ⊕ Nat) × StL × Nat × Nat)
  | 0, _, _, _, _ => none
  | n + 1, σ, x1, x2, x3 => f_L_upperBound_s (f_L_upperBound n) σ x1 x2 x3
set_option maxHeartbeats 4000000 in
set_option maxRecDepth 100000 in
theorem t_L_upperBound_95_s {p : Program} {l : Launch} {e : Env} {s : State} {m : MethodId} {args : Array Value} {below : List Frame} {meth : Method} {c : Code} {D : va_G} {cI cZ : ClassId} {a : Nat → Nat} {A : Nat → Prop} (C0 : Am p s m args meth c b_L_upperBound (some .int) 9 R_L D [(cI, .int), (cZ, .boolean)]) (hA : ∀ q, s.heap.size ≤ q → A q) (hT : ∀ x ∈ c.exceptionTable.toList, False) (hl0 : l.stackTraces = false) (hZ : Zs A s s.heap) {v : Int32 ⊕ Nat} {u : StL} {K N : Nat} {rec : StL → Int32 → Int32 → Int32 → Option ((Int32 ⊕ Nat) × StL × Nat × Nat)} {fr0 lc0 : Nat} (hfr : 5 ≤ fr0) (hlc : 132 ≤ lc0) (hrec : ∀ (q : Nat) (σ : StL) (z0 z1 z2 : Int32) (r : (Int32 ⊕ Nat) × StL × Nat × Nat), rec σ z0 z1 z2 = some r → TxM l y_L_upperBound b_L_upperBound 9 (some .int) fr0 lc0 D [(cI, .int), (cZ, .boolean)] [.ref (a 0), .int z0, .int z1, .int z2] (fun q (σ : StL) => wL cI cZ a q σ) q σ r) {k95 : StL → Int32 → Int32 → Int32 → Option ((Int32 ⊕ Nat) × StL × Nat × Nat)}  (hk95 : ∀ (q : Nat) (σ : StL) (x6 x7 x8 : Int32) (kc ks mc ms : Nat) (H : Heap) (locs : List Loc) (ls : Array Slot), k95 σ x6 x7 x8 = some (v, u, mc, ms) → kc + mc = K → ks + ms = N → va_P D vwCl (wL cI cZ a q σ) H → va_D A (wL cI cZ a q σ) → va_S A s.heap H locs → lv_has ls 9 [(0, .ref (a 0)), (6, .int x6), (7, .int x7), (8, .int x8)] → W p l e (rmK (fr0 + 3) (lc0 + 80) K N) s m args below meth c H locs kc ks (TxQ below args s D A (fun q (σ : StL) => (wL cI cZ a q σ)) v u K N) (F0 m 95 ls [])) {q : Nat} {σ : StL} {x6 x7 x8 : Int32} {kc ks mc ms : Nat} (h : f_L_upperBound_95_s rec k95 σ x6 x7 x8 = some (v, u, mc, ms)) (hkc : kc + mc = K) (hks : ks + ms = N) {H : Heap} {locs : List Loc} (hP : va_P D vwCl (wL cI cZ a q σ) H) (hD : va_D A (wL cI cZ a q σ)) (hS : va_S A s.heap H locs) {ls : Array Slot} (hl : lv_has ls 9 [(0, .ref (a 0)), (6, .int x6), (7, .int x7), (8, .int x8)]) : W p l e (rmK (fr0 + 3) (lc0 + 80) K N) s m args below meth c H locs kc ks (TxQ below args s D A (fun q (σ : StL) => (wL cI cZ a q σ)) v u K N) (F0 m 95 ls []) := by
  obtain ⟨hx, hb, hr, hml, hown, hts, hlk, hK⟩ := id C0
  have hcs : kc ≤ K ∧ ks ≤ N := ⟨by omega, by omega⟩
  unfold f_L_upperBound_95_s at h
  refine lv_iload hx hb d_L_upperBound_95 (lv_at hl 3 rfl) ?_
  refine lv_iload hx hb d_L_upperBound_97 (lv_at hl 1 rfl) ?_
  refine lv_icmp_ge (tgt := 125) hx hb d_L_upperBound_99 (by decide) (fun hc => ?_) (fun hc => ?_)
  · rw [if_pos hc] at h
    refine lv_iload hx hb d_L_upperBound_125 (lv_at hl 2 rfl) ?_
    cases h; exact tx_ret C0 hP hD hS (by omega) (by omega) d_L_upperBound_127
  · rw [if_neg hc] at h
    refine lv_iload hx hb d_L_upperBound_102 (lv_at hl 2 rfl) ?_
    refine lv_iconst (v := (-1)) hx hb d_L_upperBound_104 (by decide) ?_
    refine lv_icmp_eq (tgt := 125) hx hb d_L_upperBound_105 (by decide) (fun hc => ?_) (fun hc => ?_)
    · rw [if_pos hc] at h
      refine lv_iload hx hb d_L_upperBound_125 (lv_at hl 2 rfl) ?_
      cases h; exact tx_ret C0 hP hD hS (by omega) (by omega) d_L_upperBound_127
    · rw [if_neg hc] at h
      refine lv_aload_n hx hb d_L_upperBound_108 rfl (lv_at hl 0 rfl) ?_
      refine va_get (ci := 0) (v := .ref (a 10)) (C := R_L) (T := F_L) (N := 6) hx hb hts i_L hown hK.1 hP 0 rfl rfl 2 (by decide) (hts _ wd_85) (fun _ h9 => h9) rfl d_L_upperBound_109 ?_
      refine lv_iload hx hb d_L_upperBound_112 (lv_at hl 2 rfl) ?_
      replace h := bd h
      obtain ⟨r2, g2, h⟩ := h
      refine rw_V (n := 1) (ci := 2) (As := [.int x7]) (rest := []) (Wn := fun q => (wL cI cZ a q (L_set_types σ r2.2))) C0 hA (c_T_makeArray l D cI cZ a q (L_types σ) x7 g2) wd_183 ⟨wd_184, wd_185, wd_186, wd_52⟩ (by decide +kernel) ⟨by show 2 + 1 ≤ fr0 + 3; omega, by show 8 + (3 + 11) + 42 ≤ lc0 + 80; omega⟩ hP hD hS [10, 11, 12, 13, 14, 15, 16, 17, 18] [0, 1, 2, 3, 4, 5, 6, 7, 8, 9, 19, 20] [0, 1, 2, 3, 4, 5, 6, 7, 8, 9, 12, 13, 14, 15, 16, 17, 18, 19, 20, 10, 11] jn_L_types_C (by decide) jn_L_types_R (by decide) (by decide) (by decide) jn_L_types_W rfl rfl rfl hl rfl rfl (Nat.le_of_ble_eq_true rfl) hcs d_L_upperBound_114 (fun H locs q hP hD hS => ?_)
      try dsimp only at h
      refine lv_istore (lv' := [(7, .int r2.1), (0, .ref (a 0)), (6, .int x6), (8, .int x8)]) hx hb d_L_upperBound_117 hl (by decide) rfl (fun ls hl => ?_)
      refine lv_iinc (v := (x8 + 1)) (lv' := [(8, .int (x8 + 1)), (7, .int r2.1), (0, .ref (a 0)), (6, .int x6)]) hx hb d_L_upperBound_119 hl (k := 3) rfl rfl (by decide) rfl (fun ls hl => ?_)
      refine lv_goto (tgt := 95) hx hb d_L_upperBound_122 (by decide) ?_
      exact hk95 _ _ _ _ _ _ _ _ _ _ _ _ h hkc hks hP hD hS (lv_sub hl [2, 3, 1, 0] rfl)
set_option maxHeartbeats 4000000 in
set_option maxRecDepth 100000 in
theorem t_L_upperBound_95 {p : Program} {l : Launch} {e : Env} {s : State} {m : MethodId} {args : Array Value} {below : List Frame} {meth : Method} {c : Code} {D : va_G} {cI cZ : ClassId} {a : Nat → Nat} {A : Nat → Prop} (C0 : Am p s m args meth c b_L_upperBound (some .int) 9 R_L D [(cI, .int), (cZ, .boolean)]) (hA : ∀ q, s.heap.size ≤ q → A q) (hT : ∀ x ∈ c.exceptionTable.toList, False) (hl0 : l.stackTraces = false) (hZ : Zs A s s.heap) {v : Int32 ⊕ Nat} {u : StL} {K N : Nat} {rec : StL → Int32 → Int32 → Int32 → Option ((Int32 ⊕ Nat) × StL × Nat × Nat)} {fr0 lc0 : Nat} (hfr : 5 ≤ fr0) (hlc : 132 ≤ lc0) (hrec : ∀ (q : Nat) (σ : StL) (z0 z1 z2 : Int32) (r : (Int32 ⊕ Nat) × StL × Nat × Nat), rec σ z0 z1 z2 = some r → TxM l y_L_upperBound b_L_upperBound 9 (some .int) fr0 lc0 D [(cI, .int), (cZ, .boolean)] [.ref (a 0), .int z0, .int z1, .int z2] (fun q (σ : StL) => wL cI cZ a q σ) q σ r)  {n : Nat} {q : Nat} {σ : StL} {x6 x7 x8 : Int32} {kc ks mc ms : Nat} (h : f_L_upperBound_95 rec n σ x6 x7 x8 = some (v, u, mc, ms)) (hkc : kc + mc = K) (hks : ks + ms = N) {H : Heap} {locs : List Loc} (hP : va_P D vwCl (wL cI cZ a q σ) H) (hD : va_D A (wL cI cZ a q σ)) (hS : va_S A s.heap H locs) {ls : Array Slot} (hl : lv_has ls 9 [(0, .ref (a 0)), (6, .int x6), (7, .int x7), (8, .int x8)]) : W p l e (rmK (fr0 + 3) (lc0 + 80) K N) s m args below meth c H locs kc ks (TxQ below args s D A (fun q (σ : StL) => (wL cI cZ a q σ)) v u K N) (F0 m 95 ls []) := by
  induction n generalizing q σ x6 x7 x8 kc ks mc ms H locs ls with
  | zero => cases h
  | succ n ih => exact t_L_upperBound_95_s (a := a) C0 hA hT hl0 hZ hfr hlc hrec  (fun _ _ _ _ _ _ _ _ _ _ _ _ h hkc hks hP hD hS hl => ih h hkc hks hP hD hS hl) h hkc hks hP hD hS hl
set_option maxHeartbeats 4000000 in
set_option maxRecDepth 100000 in
theorem t_L_upperBound_69 {p : Program} {l : Launch} {e : Env} {s : State} {m : MethodId} {args : Array Value} {below : List Frame} {meth : Method} {c : Code} {D : va_G} {cI cZ : ClassId} {a : Nat → Nat} {A : Nat → Prop} (C0 : Am p s m args meth c b_L_upperBound (some .int) 9 R_L D [(cI, .int), (cZ, .boolean)]) (hA : ∀ q, s.heap.size ≤ q → A q) (hT : ∀ x ∈ c.exceptionTable.toList, False) (hl0 : l.stackTraces = false) (hZ : Zs A s s.heap) {v : Int32 ⊕ Nat} {u : StL} {K N : Nat} {rec : StL → Int32 → Int32 → Int32 → Option ((Int32 ⊕ Nat) × StL × Nat × Nat)} {fr0 lc0 : Nat} (hfr : 5 ≤ fr0) (hlc : 132 ≤ lc0) (hrec : ∀ (q : Nat) (σ : StL) (z0 z1 z2 : Int32) (r : (Int32 ⊕ Nat) × StL × Nat × Nat), rec σ z0 z1 z2 = some r → TxM l y_L_upperBound b_L_upperBound 9 (some .int) fr0 lc0 D [(cI, .int), (cZ, .boolean)] [.ref (a 0), .int z0, .int z1, .int z2] (fun q (σ : StL) => wL cI cZ a q σ) q σ r)   {q : Nat} {σ : StL} {x3 x4 x5 x6 : Int32} {kc ks mc ms : Nat} (h : f_L_upperBound_69 rec σ x3 x4 x5 x6 = some (v, u, mc, ms)) (hkc : kc + mc = K) (hks : ks + ms = N) {H : Heap} {locs : List Loc} (hP : va_P D vwCl (wL cI cZ a q σ) H) (hD : va_D A (wL cI cZ a q σ)) (hS : va_S A s.heap H locs) {ls : Array Slot} (hl : lv_has ls 9 [(0, .ref (a 0)), (3, .int x3), (4, .int x4), (5, .int x5), (6, .int x6)]) : W p l e (rmK (fr0 + 3) (lc0 + 80) K N) s m args below meth c H locs kc ks (TxQ below args s D A (fun q (σ : StL) => (wL cI cZ a q σ)) v u K N) (F0 m 69 ls []) := by
  obtain ⟨hx, hb, hr, hml, hown, hts, hlk, hK⟩ := id C0
  have hcs : kc ≤ K ∧ ks ≤ N := ⟨by omega, by omega⟩
  unfold f_L_upperBound_69 at h
  refine lv_iload hx hb d_L_upperBound_69 (lv_at hl 2 rfl) ?_
  refine lv_iload hx hb d_L_upperBound_71 (lv_at hl 3 rfl) ?_
  refine lv_icmp_ne (tgt := 81) hx hb d_L_upperBound_73 (by decide) (fun hc => ?_) (fun hc => ?_)
  · rw [if_neg hc] at h
    refine lv_aload_n hx hb d_L_upperBound_81 rfl (lv_at hl 0 rfl) ?_
    refine lv_iload hx hb d_L_upperBound_82 (lv_at hl 2 rfl) ?_
    refine lv_iload hx hb d_L_upperBound_84 (lv_at hl 3 rfl) ?_
    refine lv_iload_n hx hb d_L_upperBound_86 rfl (lv_at hl 1 rfl) ?_
    replace h := bd h
    obtain ⟨r1, g1, h⟩ := h
    try dsimp only at h
    replace h := ad_s h
    obtain ⟨mc, ms, h, rfl, rfl⟩ := h
    refine tx_V (n := 3) (ci := 0) (As := [.int x4, .int x5, .int x3]) (rest := []) (Wn := fun q => (wL cI cZ a q r1.2.1)) C0 hA hZ (c_L_boundByClasses hl0 hfr hlc hrec q σ x4 x5 x3 g1) wd_270 ⟨wd_271, wd_272, wd_273, wd_55⟩ (by decide +kernel) ⟨by show fr0 + 2 + 1 ≤ fr0 + 3; omega, by show 8 + (9 + 11) + (lc0 + 52) ≤ lc0 + 80; omega⟩ hP hD hS [0, 1, 2, 3, 4, 5, 6, 7, 8, 9, 10, 11, 12, 13, 14, 15, 16, 17, 18, 19, 20] [] [0, 1, 2, 3, 4, 5, 6, 7, 8, 9, 10, 11, 12, 13, 14, 15, 16, 17, 18, 19, 20] jn_L__C (by decide) jn_L__R (by decide) (by decide) (by decide) jn_L__W rfl rfl rfl hl rfl rfl (Nat.le_of_ble_eq_true rfl) ⟨by show kc + _ ≤ K; omega, by show ks + _ ≤ N; omega⟩ d_L_upperBound_87 (fun ek H locs q q9 ce hv hP hD hS h1 h2 h3 => ?_) (fun r1v H locs q hv hP hD hS => ?_)
    · rw [hv] at h
      cases h
      exact tx_out C0 hT hP hD hS h1 h2 h3 (by omega) (by omega)
    · rw [hv] at h
      try dsimp only at h
      have hkc : (kc + r1.2.2.1) + mc = K := by omega
      have hks : (ks + r1.2.2.2) + ms = N := by omega
      have hcs : (kc + r1.2.2.1) ≤ K ∧ (ks + r1.2.2.2) ≤ N := ⟨by omega, by omega⟩
      refine lv_istore (lv' := [(7, .int r1v), (0, .ref (a 0)), (3, .int x3), (4, .int x4), (5, .int x5), (6, .int x6)]) hx hb d_L_upperBound_90 hl (by decide) rfl (fun ls hl => ?_)
      refine lv_iconst (v := 0) hx hb d_L_upperBound_92 (by decide) ?_
      refine lv_istore (lv' := [(8, .int 0), (7, .int r1v), (0, .ref (a 0)), (3, .int x3), (4, .int x4), (5, .int x5), (6, .int x6)]) hx hb d_L_upperBound_93 hl (by decide) rfl (fun ls hl => ?_)
      exact t_L_upperBound_95 (a := a) C0 hA hT hl0 hZ hfr hlc hrec  h hkc hks hP hD hS (lv_sub hl [2, 6, 1, 0] rfl)
  · rw [if_pos hc] at h
    refine lv_iload hx hb d_L_upperBound_76 (lv_at hl 2 rfl) ?_
    refine lv_goto (tgt := 90) hx hb d_L_upperBound_78 (by decide) ?_
    refine lv_istore (lv' := [(7, .int x4), (0, .ref (a 0)), (3, .int x3), (4, .int x4), (5, .int x5), (6, .int x6)]) hx hb d_L_upperBound_90 hl (by decide) rfl (fun ls hl => ?_)
    refine lv_iconst (v := 0) hx hb d_L_upperBound_92 (by decide) ?_
    refine lv_istore (lv' := [(8, .int 0), (7, .int x4), (0, .ref (a 0)), (3, .int x3), (4, .int x4), (5, .int x5), (6, .int x6)]) hx hb d_L_upperBound_93 hl (by decide) rfl (fun ls hl => ?_)
    exact t_L_upperBound_95 (a := a) C0 hA hT hl0 hZ hfr hlc hrec  h hkc hks hP hD hS (lv_sub hl [2, 6, 1, 0] rfl)
set_option maxHeartbeats 4000000 in
set_option maxRecDepth 100000 in
theorem t_L_upperBound_9_s {p : Program} {l : Launch} {e : Env} {s : State} {m : MethodId} {args : Array Value} {below : List Frame} {meth : Method} {c : Code} {D : va_G} {cI cZ : ClassId} {a : Nat → Nat} {A : Nat → Prop} (C0 : Am p s m args meth c b_L_upperBound (some .int) 9 R_L D [(cI, .int), (cZ, .boolean)]) (hA : ∀ q, s.heap.size ≤ q → A q) (hT : ∀ x ∈ c.exceptionTable.toList, False) (hl0 : l.stackTraces = false) (hZ : Zs A s s.heap) {v : Int32 ⊕ Nat} {u : StL} {K N : Nat} {rec : StL → Int32 → Int32 → Int32 → Option ((Int32 ⊕ Nat) × StL × Nat × Nat)} {fr0 lc0 : Nat} (hfr : 5 ≤ fr0) (hlc : 132 ≤ lc0) (hrec : ∀ (q : Nat) (σ : StL) (z0 z1 z2 : Int32) (r : (Int32 ⊕ Nat) × StL × Nat × Nat), rec σ z0 z1 z2 = some r → TxM l y_L_upperBound b_L_upperBound 9 (some .int) fr0 lc0 D [(cI, .int), (cZ, .boolean)] [.ref (a 0), .int z0, .int z1, .int z2] (fun q (σ : StL) => wL cI cZ a q σ) q σ r) {k9 : StL → Int32 → Int32 → Int32 → Int32 → Option ((Int32 ⊕ Nat) × StL × Nat × Nat)}  (hk9 : ∀ (q : Nat) (σ : StL) (x3 x4 x5 x6 : Int32) (kc ks mc ms : Nat) (H : Heap) (locs : List Loc) (ls : Array Slot), k9 σ x3 x4 x5 x6 = some (v, u, mc, ms) → kc + mc = K → ks + ms = N → va_P D vwCl (wL cI cZ a q σ) H → va_D A (wL cI cZ a q σ) → va_S A s.heap H locs → lv_has ls 9 [(0, .ref (a 0)), (3, .int x3), (4, .int x4), (5, .int x5), (6, .int x6)] → W p l e (rmK (fr0 + 3) (lc0 + 80) K N) s m args below meth c H locs kc ks (TxQ below args s D A (fun q (σ : StL) => (wL cI cZ a q σ)) v u K N) (F0 m 9 ls [])) {q : Nat} {σ : StL} {x3 x4 x5 x6 : Int32} {kc ks mc ms : Nat} (h : f_L_upperBound_9_s rec k9 σ x3 x4 x5 x6 = some (v, u, mc, ms)) (hkc : kc + mc = K) (hks : ks + ms = N) {H : Heap} {locs : List Loc} (hP : va_P D vwCl (wL cI cZ a q σ) H) (hD : va_D A (wL cI cZ a q σ)) (hS : va_S A s.heap H locs) {ls : Array Slot} (hl : lv_has ls 9 [(0, .ref (a 0)), (3, .int x3), (4, .int x4), (5, .int x5), (6, .int x6)]) : W p l e (rmK (fr0 + 3) (lc0 + 80) K N) s m args below meth c H locs kc ks (TxQ below args s D A (fun q (σ : StL) => (wL cI cZ a q σ)) v u K N) (F0 m 9 ls []) := by
  obtain ⟨hx, hb, hr, hml, hown, hts, hlk, hK⟩ := id C0
  have hcs : kc ≤ K ∧ ks ≤ N := ⟨by omega, by omega⟩
  unfold f_L_upperBound_9_s at h
  refine lv_iload hx hb d_L_upperBound_9 (lv_at hl 4 rfl) ?_
  refine lv_bipush (v := 100) hx hb d_L_upperBound_11 (by decide) ?_
  refine lv_icmp_ge (tgt := 69) hx hb d_L_upperBound_13 (by decide) (fun hc => ?_) (fun hc => ?_)
  · rw [if_pos hc] at h
    exact t_L_upperBound_69 (a := a) C0 hA hT hl0 hZ hfr hlc hrec  h hkc hks hP hD hS (lv_sub hl [0, 1, 2, 3, 4] rfl)
  · rw [if_neg hc] at h
    refine lv_iload hx hb d_L_upperBound_16 (lv_at hl 2 rfl) ?_
    refine lv_iload hx hb d_L_upperBound_18 (lv_at hl 3 rfl) ?_
    refine lv_icmp_eq (tgt := 69) hx hb d_L_upperBound_20 (by decide) (fun hc => ?_) (fun hc => ?_)
    · rw [if_pos hc] at h
      exact t_L_upperBound_69 (a := a) C0 hA hT hl0 hZ hfr hlc hrec  h hkc hks hP hD hS (lv_sub hl [0, 1, 2, 3, 4] rfl)
    · rw [if_neg hc] at h
      refine lv_aload_n hx hb d_L_upperBound_23 rfl (lv_at hl 0 rfl) ?_
      refine lv_iload hx hb d_L_upperBound_24 (lv_at hl 2 rfl) ?_
      replace h := bd h
      obtain ⟨r3, g3, h⟩ := h
      refine ro_V (n := 1) (ci := 0) (As := [.int x4]) (rest := []) C0 (c_L_isArrayOfOthers l D cI cZ a q σ x4 g3) wd_274 ⟨wd_275, wd_276, wd_277, wd_55⟩ (by decide +kernel) ⟨by show 2 + 1 ≤ fr0 + 3; omega, by show 8 + (2 + 11) + 42 ≤ lc0 + 80; omega⟩ hP rfl rfl rfl hl rfl rfl (Nat.le_of_ble_eq_true rfl) hcs d_L_upperBound_26 ?_
      try dsimp only at h
      refine lv_if_eq (tgt := 69) hx hb d_L_upperBound_29 (by decide) (fun hc => ?_) (fun hc => ?_)
      · rw [if_pos hc] at h
        exact t_L_upperBound_69 (a := a) C0 hA hT hl0 hZ hfr hlc hrec  h hkc hks hP hD hS (lv_sub hl [0, 1, 2, 3, 4] rfl)
      · rw [if_neg hc] at h
        refine lv_aload_n hx hb d_L_upperBound_32 rfl (lv_at hl 0 rfl) ?_
        refine lv_iload hx hb d_L_upperBound_33 (lv_at hl 3 rfl) ?_
        replace h := bd h
        obtain ⟨r4, g4, h⟩ := h
        refine ro_V (n := 1) (ci := 0) (As := [.int x5]) (rest := []) C0 (c_L_isArrayOfOthers l D cI cZ a q σ x5 g4) wd_274 ⟨wd_275, wd_276, wd_277, wd_55⟩ (by decide +kernel) ⟨by show 2 + 1 ≤ fr0 + 3; omega, by show 8 + (2 + 11) + 42 ≤ lc0 + 80; omega⟩ hP rfl rfl rfl hl rfl rfl (Nat.le_of_ble_eq_true rfl) hcs d_L_upperBound_35 ?_
        try dsimp only at h
        refine lv_if_eq (tgt := 69) hx hb d_L_upperBound_38 (by decide) (fun hc => ?_) (fun hc => ?_)
        · rw [if_pos hc] at h
          exact t_L_upperBound_69 (a := a) C0 hA hT hl0 hZ hfr hlc hrec  h hkc hks hP hD hS (lv_sub hl [0, 1, 2, 3, 4] rfl)
        · rw [if_neg hc] at h
          refine lv_aload_n hx hb d_L_upperBound_41 rfl (lv_at hl 0 rfl) ?_
          refine va_get (ci := 0) (v := .ref (a 10)) (C := R_L) (T := F_L) (N := 6) hx hb hts i_L hown hK.1 hP 0 rfl rfl 2 (by decide) (hts _ wd_85) (fun _ h9 => h9) rfl d_L_upperBound_42 ?_
          refine lv_iload hx hb d_L_upperBound_45 (lv_at hl 2 rfl) ?_
          replace h := bd h
          obtain ⟨r5, g5, h⟩ := h
          refine ro_V (n := 1) (ci := 2) (As := [.int x4]) (rest := []) C0 (c_T_elementOf l D cI cZ a q (L_types σ) x4 g5) wd_187 ⟨wd_188, wd_189, wd_190, wd_52⟩ (by decide +kernel) ⟨by show 1 + 1 ≤ fr0 + 3; omega, by show 8 + (2 + 11) + 21 ≤ lc0 + 80; omega⟩ (hP.pick [10, 11, 12, 13, 14, 15, 16, 17, 18] rfl) rfl rfl rfl hl rfl rfl (Nat.le_of_ble_eq_true rfl) hcs d_L_upperBound_47 ?_
          try dsimp only at h
          refine lv_istore (lv' := [(4, .int r5), (0, .ref (a 0)), (3, .int x3), (5, .int x5), (6, .int x6)]) hx hb d_L_upperBound_50 hl (by decide) rfl (fun ls hl => ?_)
          refine lv_aload_n hx hb d_L_upperBound_52 rfl (lv_at hl 1 rfl) ?_
          refine va_get (ci := 0) (v := .ref (a 10)) (C := R_L) (T := F_L) (N := 6) hx hb hts i_L hown hK.1 hP 0 rfl rfl 2 (by decide) (hts _ wd_85) (fun _ h9 => h9) rfl d_L_upperBound_53 ?_
          refine lv_iload hx hb d_L_upperBound_56 (lv_at hl 3 rfl) ?_
          replace h := bd h
          obtain ⟨r6, g6, h⟩ := h
          refine ro_V (n := 1) (ci := 2) (As := [.int x5]) (rest := []) C0 (c_T_elementOf l D cI cZ a q (L_types σ) x5 g6) wd_187 ⟨wd_188, wd_189, wd_190, wd_52⟩ (by decide +kernel) ⟨by show 1 + 1 ≤ fr0 + 3; omega, by show 8 + (2 + 11) + 21 ≤ lc0 + 80; omega⟩ (hP.pick [10, 11, 12, 13, 14, 15, 16, 17, 18] rfl) rfl rfl rfl hl rfl rfl (Nat.le_of_ble_eq_true rfl) hcs d_L_upperBound_58 ?_
          try dsimp only at h
          refine lv_istore (lv' := [(5, .int r6), (4, .int r5), (0, .ref (a 0)), (3, .int x3), (6, .int x6)]) hx hb d_L_upperBound_61 hl (by decide) rfl (fun ls hl => ?_)
          refine lv_iinc (v := (x6 + 1)) (lv' := [(6, .int (x6 + 1)), (5, .int r6), (4, .int r5), (0, .ref (a 0)), (3, .int x3)]) hx hb d_L_upperBound_63 hl (k := 4) rfl rfl (by decide) rfl (fun ls hl => ?_)
          refine lv_goto (tgt := 9) hx hb d_L_upperBound_66 (by decide) ?_
          exact hk9 _ _ _ _ _ _ _ _ _ _ _ _ _ h hkc hks hP hD hS (lv_sub hl [3, 4, 2, 1, 0] rfl)
set_option maxHeartbeats 4000000 in
set_option maxRecDepth 100000 in
theorem t_L_upperBound_9 {p : Program} {l : Launch} {e : Env} {s : State} {m : MethodId} {args : Array Value} {below : List Frame} {meth : Method} {c : Code} {D : va_G} {cI cZ : ClassId} {a : Nat → Nat} {A : Nat → Prop} (C0 : Am p s m args meth c b_L_upperBound (some .int) 9 R_L D [(cI, .int), (cZ, .boolean)]) (hA : ∀ q, s.heap.size ≤ q → A q) (hT : ∀ x ∈ c.exceptionTable.toList, False) (hl0 : l.stackTraces = false) (hZ : Zs A s s.heap) {v : Int32 ⊕ Nat} {u : StL} {K N : Nat} {rec : StL → Int32 → Int32 → Int32 → Option ((Int32 ⊕ Nat) × StL × Nat × Nat)} {fr0 lc0 : Nat} (hfr : 5 ≤ fr0) (hlc : 132 ≤ lc0) (hrec : ∀ (q : Nat) (σ : StL) (z0 z1 z2 : Int32) (r : (Int32 ⊕ Nat) × StL × Nat × Nat), rec σ z0 z1 z2 = some r → TxM l y_L_upperBound b_L_upperBound 9 (some .int) fr0 lc0 D [(cI, .int), (cZ, .boolean)] [.ref (a 0), .int z0, .int z1, .int z2] (fun q (σ : StL) => wL cI cZ a q σ) q σ r)  {n : Nat} {q : Nat} {σ : StL} {x3 x4 x5 x6 : Int32} {kc ks mc ms : Nat} (h : f_L_upperBound_9 rec n σ x3 x4 x5 x6 = some (v, u, mc, ms)) (hkc : kc + mc = K) (hks : ks + ms = N) {H : Heap} {locs : List Loc} (hP : va_P D vwCl (wL cI cZ a q σ) H) (hD : va_D A (wL cI cZ a q σ)) (hS : va_S A s.heap H locs) {ls : Array Slot} (hl : lv_has ls 9 [(0, .ref (a 0)), (3, .int x3), (4, .int x4), (5, .int x5), (6, .int x6)]) : W p l e (rmK (fr0 + 3) (lc0 + 80) K N) s m args below meth c H locs kc ks (TxQ below args s D A (fun q (σ : StL) => (wL cI cZ a q σ)) v u K N) (F0 m 9 ls []) := by
  induction n generalizing q σ x3 x4 x5 x6 kc ks mc ms H locs ls with
  | zero => cases h
  | succ n ih => exact t_L_upperBound_9_s (a := a) C0 hA hT hl0 hZ hfr hlc hrec  (fun _ _ _ _ _ _ _ _ _ _ _ _ _ h hkc hks hP hD hS hl => ih h hkc hks hP hD hS hl) h hkc hks hP hD hS hl
set_option maxHeartbeats 4000000 in
set_option maxRecDepth 100000 in
theorem t_L_upperBound_0 {p : Program} {l : Launch} {e : Env} {s : State} {m : MethodId} {args : Array Value} {below : List Frame} {meth : Method} {c : Code} {D : va_G} {cI cZ : ClassId} {a : Nat → Nat} {A : Nat → Prop} (C0 : Am p s m args meth c b_L_upperBound (some .int) 9 R_L D [(cI, .int), (cZ, .boolean)]) (hA : ∀ q, s.heap.size ≤ q → A q) (hT : ∀ x ∈ c.exceptionTable.toList, False) (hl0 : l.stackTraces = false) (hZ : Zs A s s.heap) {v : Int32 ⊕ Nat} {u : StL} {K N : Nat} {rec : StL → Int32 → Int32 → Int32 → Option ((Int32 ⊕ Nat) × StL × Nat × Nat)} {fr0 lc0 : Nat} (hfr : 5 ≤ fr0) (hlc : 132 ≤ lc0) (hrec : ∀ (q : Nat) (σ : StL) (z0 z1 z2 : Int32) (r : (Int32 ⊕ Nat) × StL × Nat × Nat), rec σ z0 z1 z2 = some r → TxM l y_L_upperBound b_L_upperBound 9 (some .int) fr0 lc0 D [(cI, .int), (cZ, .boolean)] [.ref (a 0), .int z0, .int z1, .int z2] (fun q (σ : StL) => wL cI cZ a q σ) q σ r)   {q : Nat} {σ : StL} {x1 x2 x3 : Int32} {kc ks mc ms : Nat} (h : f_L_upperBound_s rec σ x1 x2 x3 = some (v, u, mc, ms)) (hkc : kc + mc = K) (hks : ks + ms = N) {H : Heap} {locs : List Loc} (hP : va_P D vwCl (wL cI cZ a q σ) H) (hD : va_D A (wL cI cZ a q σ)) (hS : va_S A s.heap H locs) {ls : Array Slot} (hl : lv_has ls 9 [(0, .ref (a 0)), (1, .int x1), (2, .int x2), (3, .int x3)]) : W p l e (rmK (fr0 + 3) (lc0 + 80) K N) s m args below meth c H locs kc ks (TxQ below args s D A (fun q (σ : StL) => (wL cI cZ a q σ)) v u K N) (F0 m 0 ls []) := by
  obtain ⟨hx, hb, hr, hml, hown, hts, hlk, hK⟩ := id C0
  have hcs : kc ≤ K ∧ ks ≤ N := ⟨by omega, by omega⟩
  unfold f_L_upperBound_s at h
  refine lv_iload_n hx hb d_L_upperBound_0 rfl (lv_at hl 1 rfl) ?_
  refine lv_istore (lv' := [(4, .int x1), (0, .ref (a 0)), (1, .int x1), (2, .int x2), (3, .int x3)]) hx hb d_L_upperBound_1 hl (by decide) rfl (fun ls hl => ?_)
  refine lv_iload_n hx hb d_L_upperBound_3 rfl (lv_at hl 3 rfl) ?_
  refine lv_istore (lv' := [(5, .int x2), (4, .int x1), (0, .ref (a 0)), (1, .int x1), (2, .int x2), (3, .int x3)]) hx hb d_L_upperBound_4 hl (by decide) rfl (fun ls hl => ?_)
  refine lv_iconst (v := 0) hx hb d_L_upperBound_6 (by decide) ?_
  refine lv_istore (lv' := [(6, .int 0), (5, .int x2), (4, .int x1), (0, .ref (a 0)), (1, .int x1), (2, .int x2), (3, .int x3)]) hx hb d_L_upperBound_7 hl (by decide) rfl (fun ls hl => ?_)
  exact t_L_upperBound_9 (a := a) C0 hA hT hl0 hZ hfr hlc hrec  h hkc hks hP hD hS (lv_sub hl [3, 6, 2, 1, 0] rfl)
set_option maxHeartbeats 4000000 in
set_option maxRecDepth 100000 in
theorem c_L_upperBound_s {l : Launch} {D : va_G} {cI cZ : ClassId} {a : Nat → Nat} (hl0 : l.stackTraces = false) {rec : StL → Int32 → Int32 → Int32 → Option ((Int32 ⊕ Nat) × StL × Nat × Nat)} {fr0 lc0 : Nat} (hfr : 5 ≤ fr0) (hlc : 132 ≤ lc0) (hrec : ∀ (q : Nat) (σ : StL) (z0 z1 z2 : Int32) (r : (Int32 ⊕ Nat) × StL × Nat × Nat), rec σ z0 z1 z2 = some r → TxM l y_L_upperBound b_L_upperBound 9 (some .int) fr0 lc0 D [(cI, .int), (cZ, .boolean)] [.ref (a 0), .int z0, .int z1, .int z2] (fun q (σ : StL) => wL cI cZ a q σ) q σ r) (q : Nat) (σ : StL) (x1 : Int32) (x2 : Int32) (x3 : Int32) {res : (Int32 ⊕ Nat) × StL × Nat × Nat} (h : f_L_upperBound_s rec σ x1 x2 x3 = some res) : TxM l y_L_upperBound b_L_upperBound 9 (some .int) (fr0 + 3) (lc0 + 80) D [(cI, .int), (cZ, .boolean)] [.ref (a 0), .int x1, .int x2, .int x3] (fun q (σ : StL) => (wL cI cZ a q σ)) q σ res :=
  tx_of (by decide) (Nat.le_of_ble_eq_true rfl) (fun p e s m args below meth c ls A C0 hA hT hZ hP hD hS hl => t_L_upperBound_0 (a := a) (kc := 0) (ks := 0) C0 hA hT hl0 hZ hfr hlc hrec h (Nat.zero_add _) (Nat.zero_add _) hP hD hS (lv_sub hl [0, 1, 2, 3] rfl))
set_option maxHeartbeats 4000000 in
set_option maxRecDepth 100000 in
theorem c_L_upperBound {n : Nat} (l : Launch) (D : va_G) (cI cZ : ClassId) (a : Nat → Nat) (hl0 : l.stackTraces = false) (q : Nat) (σ : StL) (x1 x2 x3 : Int32) {res : (Int32 ⊕ Nat) × StL × Nat × Nat} (h : f_L_upperBound n σ x1 x2 x3 = some res) : TxM l y_L_upperBound b_L_upperBound 9 (some .int) (5 + 3 * n) (132 + 80 * n) D [(cI, .int), (cZ, .boolean)] [.ref (a 0), .int x1, .int x2, .int x3] (fun q (σ : StL) => (wL cI cZ a q σ)) q σ res := by
  induction n generalizing q σ x1 x2 x3 res with
  | zero => cases h
  | succ n ih =>
    have hh := c_L_upperBound_s hl0 (fr0 := (5 + 3 * n)) (lc0 := (132 + 80 * n)) (Nat.le_add_right _ _) (Nat.le_add_right _ _) (fun q σ x1 x2 x3 r g => ih q σ x1 x2 x3 g) q σ x1 x2 x3 h
    rw [show 5 + 3 * (n + 1) = 5 + 3 * n + 3 by omega, show 132 + 80 * (n + 1) = 132 + 80 * n + 80 by omega]
    exact hh
