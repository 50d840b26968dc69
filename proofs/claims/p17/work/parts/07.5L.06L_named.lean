def f_L_named_89 (σ : StL) (x1 x2 x3 : Int32) : Option ((Int32 ⊕ Nat) × StL × Nat × Nat) :=
  (f_T_makeNamed (L_types σ) x1 (f_L_argumentOf x2 x3)).bind fun r3 =>
  (f_L_settled (L_set_types σ r3.2) r3.1).bind fun r4 => ad_ r4.2.2.1 r4.2.2.2 <| match r4.1 with
  | .inr e => some (.inr e, r4.2.1, 0, 0)
  | .inl r4v =>
  some (.inl r4v, r4.2.1, 0, 0)
def f_L_named_53 (σ : StL) : Option ((Int32 ⊕ Nat) × StL × Nat × Nat) :=
  some (.inr 3, σ, 1, 6)
def f_L_named_40 (σ : StL) (x1 x2 x3 x4 : Int32) : Option ((Int32 ⊕ Nat) × StL × Nat × Nat) :=
  (f_C_isGeneric (L_classes σ) x1).bind fun r2 =>
  if x4 = r2 then
    if x4 = 0 then
      f_L_named_89 σ x1 x2 x3
    else
      (f_T_kindOf (L_types σ) x3).bind fun r5 =>
      if r5 = 0 then
        some (.inr 3, σ, 1, 6)
      else
        f_L_named_89 σ x1 x2 x3
  else
    f_L_named_53 σ
def f_L_named_29 (σ : StL) (x1 x2 x3 t0 : Int32) : Option ((Int32 ⊕ Nat) × StL × Nat × Nat) :=
  if t0 = 0 then
    if x2 = 0 then
      f_L_named_40 σ x1 x2 x3 t0
    else
      f_L_named_53 σ
  else
    f_L_named_40 σ x1 x2 x3 t0
def f_L_named_24 (σ : StL) (x1 x2 x3 : Int32) : Option ((Int32 ⊕ Nat) × StL × Nat × Nat) :=
  f_L_named_29 σ x1 x2 x3 1
def f_L_named_14 (σ : StL) (x1 x2 x3 : Int32) : Option ((Int32 ⊕ Nat) × StL × Nat × Nat) :=
  if x2 = 1 then
    f_L_named_24 σ x1 x2 x3
  else
    if x2 = 2 then
      f_L_named_24 σ x1 x2 x3
    else
      f_L_named_29 σ x1 x2 x3 0
def f_L_named (σ : StL) (x1 x2 x3 : Int32) : Option ((Int32 ⊕ Nat) × StL × Nat × Nat) :=
  (f_L_requireClass σ x1).bind fun r1 => ad_ r1.2.2.1 r1.2.2.2 <| match r1.1 with
  | .inr e => some (.inr e, r1.2.1, 0, 0)
  | .inl r1v =>
  if x2 = 0 then
    f_L_named_14 r1.2.1 x1 x2 x3
  else
    (f_L_requireType r1.2.1 x3).bind fun r6 => ad_ r6.2.2.1 r6.2.2.2 <| match r6.1 with
    | .inr e => some (.inr e, r6.2.1, 0, 0)
    | .inl r6v =>
    f_L_named_14 r6.2.1 x1 x2 x3
set_option maxHeartbeats 4000000 in
set_option maxRecDepth 100000 in
theorem t_L_named_89 {p : Program} {l : Launch} {e : Env} {s : State} {m : MethodId} {args : Array Value} {below : List Frame} {meth : Method} {c : Code} {D : va_G} {cI cZ : ClassId} {a : Nat → Nat} {A : Nat → Prop} (C0 : Am p s m args meth c b_L_named (some .int) 5 R_L D [(cI, .int), (cZ, .boolean)]) (hA : ∀ q, s.heap.size ≤ q → A q) (hT : ∀ x ∈ c.exceptionTable.toList, False) (hl0 : l.stackTraces = false) (hZ : Zs A s s.heap) {v : Int32 ⊕ Nat} {u : StL} {K N : Nat}   {q : Nat} {σ : StL} {x1 x2 x3 : Int32} {kc ks mc ms : Nat} (h : f_L_named_89 σ x1 x2 x3 = some (v, u, mc, ms)) (hkc : kc + mc = K) (hks : ks + ms = N) {H : Heap} {locs : List Loc} (hP : va_P D vwCl (wL cI cZ a q σ) H) (hD : va_D A (wL cI cZ a q σ)) (hS : va_S A s.heap H locs) {ls : Array Slot} (hl : lv_has ls 5 [(0, .ref (a 0)), (1, .int x1), (2, .int x2), (3, .int x3)]) : W p l e (rmK 9 141 K N) s m args below meth c H locs kc ks (TxQ below args s D A (fun q (σ : StL) => (wL cI cZ a q σ)) v u K N) (F0 m 89 ls []) := by
  obtain ⟨hx, hb, hr, hml, hown, hts, hlk, hK⟩ := id C0
  have hcs : kc ≤ K ∧ ks ≤ N := ⟨by omega, by omega⟩
  unfold f_L_named_89 at h
  refine lv_aload_n hx hb d_L_named_89 rfl (lv_at hl 0 rfl) ?_
  refine lv_aload_n hx hb d_L_named_90 rfl (lv_at hl 0 rfl) ?_
  refine va_get (ci := 0) (v := .ref (a 10)) (C := R_L) (T := F_L) (N := 6) hx hb hts i_L hown hK.1 hP 0 rfl rfl 2 (by decide) (hts _ wd_85) (fun _ h9 => h9) rfl d_L_named_91 ?_
  refine lv_iload_n hx hb d_L_named_94 rfl (lv_at hl 1 rfl) ?_
  refine lv_iload_n hx hb d_L_named_95 rfl (lv_at hl 2 rfl) ?_
  refine lv_iload_n hx hb d_L_named_96 rfl (lv_at hl 3 rfl) ?_
  refine ro_S (n := 2) (As := [.int x2, .int x3]) (rest := [.int x1, .ref (a 10), .ref (a 0)]) C0 (c_L_argumentOf l D cI cZ a x2 x3 rfl) wd_174 ⟨wd_106, wd_107, wd_55⟩ (by decide +kernel) ⟨Nat.le_of_ble_eq_true rfl, Nat.le_of_ble_eq_true rfl⟩ pnil hl rfl rfl (Nat.le_of_ble_eq_true rfl) hcs d_L_named_97 ?_
  replace h := bd h
  obtain ⟨r3, g3, h⟩ := h
  refine rw_V (n := 2) (ci := 2) (As := [.int x1, .int (f_L_argumentOf x2 x3)]) (rest := [.ref (a 0)]) (Wn := fun q => (wL cI cZ a q (L_set_types σ r3.2))) C0 hA (c_T_makeNamed l D cI cZ a q (L_types σ) x1 (f_L_argumentOf x2 x3) g3) wd_175 ⟨wd_176, wd_177, wd_178, wd_52⟩ (by decide +kernel) ⟨Nat.le_of_ble_eq_true rfl, Nat.le_of_ble_eq_true rfl⟩ hP hD hS [10, 11, 12, 13, 14, 15, 16, 17, 18] [0, 1, 2, 3, 4, 5, 6, 7, 8, 9, 19, 20] [0, 1, 2, 3, 4, 5, 6, 7, 8, 9, 12, 13, 14, 15, 16, 17, 18, 19, 20, 10, 11] jn_L_types_C (by decide) jn_L_types_R (by decide) (by decide) (by decide) jn_L_types_W rfl rfl rfl hl rfl rfl (Nat.le_of_ble_eq_true rfl) hcs d_L_named_100 (fun H locs q hP hD hS => ?_)
  try dsimp only at h
  replace h := bd h
  obtain ⟨r4, g4, h⟩ := h
  try dsimp only at h
  replace h := ad_s h
  obtain ⟨mc, ms, h, rfl, rfl⟩ := h
  refine tx_V (n := 1) (ci := 0) (As := [.int r3.1]) (rest := []) (Wn := fun q => (wL cI cZ a q r4.2.1)) C0 hA hZ (c_L_settled l D cI cZ a hl0 q (L_set_types σ r3.2) r3.1 g4) wd_179 ⟨wd_180, wd_181, wd_182, wd_55⟩ (by decide +kernel) ⟨Nat.le_of_ble_eq_true rfl, Nat.le_of_ble_eq_true rfl⟩ hP hD hS [0, 1, 2, 3, 4, 5, 6, 7, 8, 9, 10, 11, 12, 13, 14, 15, 16, 17, 18, 19, 20] [] [0, 1, 2, 3, 4, 5, 6, 7, 8, 9, 10, 11, 12, 13, 14, 15, 16, 17, 18, 19, 20] jn_L__C (by decide) jn_L__R (by decide) (by decide) (by decide) jn_L__W rfl rfl rfl hl rfl rfl (Nat.le_of_ble_eq_true rfl) ⟨by show kc + _ ≤ K; omega, by show ks + _ ≤ N; omega⟩ d_L_named_103 (fun ek H locs q q9 ce hv hP hD hS h1 h2 h3 => ?_) (fun r4v H locs q hv hP hD hS => ?_)
  · rw [hv] at h
    cases h
    exact tx_out C0 hT hP hD hS h1 h2 h3 (by omega) (by omega)
  · rw [hv] at h
    try dsimp only at h
    have hkc : (kc + r4.2.2.1) + mc = K := by omega
    have hks : (ks + r4.2.2.2) + ms = N := by omega
    have hcs : (kc + r4.2.2.1) ≤ K ∧ (ks + r4.2.2.2) ≤ N := ⟨by omega, by omega⟩
    cases h; exact tx_ret C0 hP hD hS (by omega) (by omega) d_L_named_106
set_option maxHeartbeats 4000000 in
set_option maxRecDepth 100000 in
theorem t_L_named_53 {p : Program} {l : Launch} {e : Env} {s : State} {m : MethodId} {args : Array Value} {below : List Frame} {meth : Method} {c : Code} {D : va_G} {cI cZ : ClassId} {a : Nat → Nat} {A : Nat → Prop} (C0 : Am p s m args meth c b_L_named (some .int) 5 R_L D [(cI, .int), (cZ, .boolean)]) (hA : ∀ q, s.heap.size ≤ q → A q) (hT : ∀ x ∈ c.exceptionTable.toList, False) (hl0 : l.stackTraces = false) (hZ : Zs A s s.heap) {v : Int32 ⊕ Nat} {u : StL} {K N : Nat}   {q : Nat} {σ : StL} {kc ks mc ms : Nat} (h : f_L_named_53 σ = some (v, u, mc, ms)) (hkc : kc + mc = K) (hks : ks + ms = N) {H : Heap} {locs : List Loc} (hP : va_P D vwCl (wL cI cZ a q σ) H) (hD : va_D A (wL cI cZ a q σ)) (hS : va_S A s.heap H locs) {ls : Array Slot} (hl : lv_has ls 5 []) : W p l e (rmK 9 141 K N) s m args below meth c H locs kc ks (TxQ below args s D A (fun q (σ : StL) => (wL cI cZ a q σ)) v u K N) (F0 m 53 ls []) := by
  obtain ⟨hx, hb, hr, hml, hown, hts, hlk, hK⟩ := id C0
  have hcs : kc ≤ K ∧ ks ≤ N := ⟨by omega, by omega⟩
  unfold f_L_named_53 at h
  cases h
  exact tx_throw (k := 3) C0 hT hl0 hZ hP hD hS wd_164 wd_165 (List.mem_of_getElem? (i := 7) rfl) th_3_87_91_a th_3_87_91_b thI_3 d_L_named_53 d_L_named_56 d_L_named_57 d_L_named_59 d_L_named_62 hl (Nat.le_of_ble_eq_true rfl) (Nat.le_of_ble_eq_true rfl) (by show kc + 1 ≤ K; omega) (by show ks + 6 ≤ N; omega) (by omega) (by omega)
set_option maxHeartbeats 4000000 in
set_option maxRecDepth 100000 in
theorem t_L_named_40 {p : Program} {l : Launch} {e : Env} {s : State} {m : MethodId} {args : Array Value} {below : List Frame} {meth : Method} {c : Code} {D : va_G} {cI cZ : ClassId} {a : Nat → Nat} {A : Nat → Prop} (C0 : Am p s m args meth c b_L_named (some .int) 5 R_L D [(cI, .int), (cZ, .boolean)]) (hA : ∀ q, s.heap.size ≤ q → A q) (hT : ∀ x ∈ c.exceptionTable.toList, False) (hl0 : l.stackTraces = false) (hZ : Zs A s s.heap) {v : Int32 ⊕ Nat} {u : StL} {K N : Nat}   {q : Nat} {σ : StL} {x1 x2 x3 x4 : Int32} {kc ks mc ms : Nat} (h : f_L_named_40 σ x1 x2 x3 x4 = some (v, u, mc, ms)) (hkc : kc + mc = K) (hks : ks + ms = N) {H : Heap} {locs : List Loc} (hP : va_P D vwCl (wL cI cZ a q σ) H) (hD : va_D A (wL cI cZ a q σ)) (hS : va_S A s.heap H locs) {ls : Array Slot} (hl : lv_has ls 5 [(0, .ref (a 0)), (1, .int x1), (2, .int x2), (3, .int x3), (4, .int x4)]) : W p l e (rmK 9 141 K N) s m args below meth c H locs kc ks (TxQ below args s D A (fun q (σ : StL) => (wL cI cZ a q σ)) v u K N) (F0 m 40 ls []) := by
  obtain ⟨hx, hb, hr, hml, hown, hts, hlk, hK⟩ := id C0
  have hcs : kc ≤ K ∧ ks ≤ N := ⟨by omega, by omega⟩
  unfold f_L_named_40 at h
  refine lv_iload hx hb d_L_named_40 (lv_at hl 4 rfl) ?_
  refine lv_aload_n hx hb d_L_named_42 rfl (lv_at hl 0 rfl) ?_
  refine va_get (ci := 0) (v := .ref (a 3)) (C := R_L) (T := F_L) (N := 6) hx hb hts i_L hown hK.1 hP 0 rfl rfl 1 (by decide) (hts _ wd_67) (fun _ h9 => h9) rfl d_L_named_43 ?_
  refine lv_iload_n hx hb d_L_named_46 rfl (lv_at hl 1 rfl) ?_
  replace h := bd h
  obtain ⟨r2, g2, h⟩ := h
  refine ro_V (n := 1) (ci := 1) (As := [.int x1]) (rest := [.int x4]) C0 (c_C_isGeneric l D cI cZ a q (L_classes σ) x1 g2) wd_95 ⟨wd_96, wd_97, wd_98, wd_8⟩ (by decide +kernel) ⟨Nat.le_of_ble_eq_true rfl, Nat.le_of_ble_eq_true rfl⟩ (hP.pick [3, 4, 5, 6, 7, 8, 9] rfl) rfl rfl rfl hl rfl rfl (Nat.le_of_ble_eq_true rfl) hcs d_L_named_47 ?_
  try dsimp only at h
  refine lv_icmp_eq (tgt := 63) hx hb d_L_named_50 (by decide) (fun hc => ?_) (fun hc => ?_)
  · rw [if_pos hc] at h
    refine lv_iload hx hb d_L_named_63 (lv_at hl 4 rfl) ?_
    refine lv_if_eq (tgt := 89) hx hb d_L_named_65 (by decide) (fun hc => ?_) (fun hc => ?_)
    · rw [if_pos hc] at h
      exact t_L_named_89 (a := a) C0 hA hT hl0 hZ  h hkc hks hP hD hS (lv_sub hl [0, 1, 2, 3] rfl)
    · rw [if_neg hc] at h
      refine lv_aload_n hx hb d_L_named_68 rfl (lv_at hl 0 rfl) ?_
      refine va_get (ci := 0) (v := .ref (a 10)) (C := R_L) (T := F_L) (N := 6) hx hb hts i_L hown hK.1 hP 0 rfl rfl 2 (by decide) (hts _ wd_85) (fun _ h9 => h9) rfl d_L_named_69 ?_
      refine lv_iload_n hx hb d_L_named_72 rfl (lv_at hl 3 rfl) ?_
      replace h := bd h
      obtain ⟨r5, g5, h⟩ := h
      refine ro_V (n := 1) (ci := 2) (As := [.int x3]) (rest := []) C0 (c_T_kindOf l D cI cZ a q (L_types σ) x3 g5) wd_99 ⟨wd_100, wd_101, wd_102, wd_52⟩ (by decide +kernel) ⟨Nat.le_of_ble_eq_true rfl, Nat.le_of_ble_eq_true rfl⟩ (hP.pick [10, 11, 12, 13, 14, 15, 16, 17, 18] rfl) rfl rfl rfl hl rfl rfl (Nat.le_of_ble_eq_true rfl) hcs d_L_named_73 ?_
      try dsimp only at h
      refine lv_if_ne (tgt := 89) hx hb d_L_named_76 (by decide) (fun hc => ?_) (fun hc => ?_)
      · rw [if_neg hc] at h
        exact t_L_named_89 (a := a) C0 hA hT hl0 hZ  h hkc hks hP hD hS (lv_sub hl [0, 1, 2, 3] rfl)
      · rw [if_pos hc] at h
        cases h
        exact tx_throw (k := 3) C0 hT hl0 hZ hP hD hS wd_164 wd_165 (List.mem_of_getElem? (i := 8) rfl) th_3_87_91_a th_3_87_91_b thI_3 d_L_named_79 d_L_named_82 d_L_named_83 d_L_named_85 d_L_named_88 hl (Nat.le_of_ble_eq_true rfl) (Nat.le_of_ble_eq_true rfl) (by show kc + 1 ≤ K; omega) (by show ks + 6 ≤ N; omega) (by omega) (by omega)
  · rw [if_neg hc] at h
    exact t_L_named_53 (a := a) C0 hA hT hl0 hZ  h hkc hks hP hD hS (lv_sub hl [] rfl)
set_option maxHeartbeats 4000000 in
set_option maxRecDepth 100000 in
theorem t_L_named_29 {p : Program} {l : Launch} {e : Env} {s : State} {m : MethodId} {args : Array Value} {below : List Frame} {meth : Method} {c : Code} {D : va_G} {cI cZ : ClassId} {a : Nat → Nat} {A : Nat → Prop} (C0 : Am p s m args meth c b_L_named (some .int) 5 R_L D [(cI, .int), (cZ, .boolean)]) (hA : ∀ q, s.heap.size ≤ q → A q) (hT : ∀ x ∈ c.exceptionTable.toList, False) (hl0 : l.stackTraces = false) (hZ : Zs A s s.heap) {v : Int32 ⊕ Nat} {u : StL} {K N : Nat}   {q : Nat} {σ : StL} {x1 x2 x3 t0 : Int32} {kc ks mc ms : Nat} (h : f_L_named_29 σ x1 x2 x3 t0 = some (v, u, mc, ms)) (hkc : kc + mc = K) (hks : ks + ms = N) {H : Heap} {locs : List Loc} (hP : va_P D vwCl (wL cI cZ a q σ) H) (hD : va_D A (wL cI cZ a q σ)) (hS : va_S A s.heap H locs) {ls : Array Slot} (hl : lv_has ls 5 [(0, .ref (a 0)), (1, .int x1), (2, .int x2), (3, .int x3)]) : W p l e (rmK 9 141 K N) s m args below meth c H locs kc ks (TxQ below args s D A (fun q (σ : StL) => (wL cI cZ a q σ)) v u K N) (F0 m 29 ls [.int t0]) := by
  obtain ⟨hx, hb, hr, hml, hown, hts, hlk, hK⟩ := id C0
  have hcs : kc ≤ K ∧ ks ≤ N := ⟨by omega, by omega⟩
  unfold f_L_named_29 at h
  refine lv_istore (lv' := [(4, .int t0), (0, .ref (a 0)), (1, .int x1), (2, .int x2), (3, .int x3)]) hx hb d_L_named_29 hl (by decide) rfl (fun ls hl => ?_)
  refine lv_iload hx hb d_L_named_31 (lv_at hl 0 rfl) ?_
  refine lv_if_ne (tgt := 40) hx hb d_L_named_33 (by decide) (fun hc => ?_) (fun hc => ?_)
  · rw [if_neg hc] at h
    exact t_L_named_40 (a := a) C0 hA hT hl0 hZ  h hkc hks hP hD hS (lv_sub hl [1, 2, 3, 4, 0] rfl)
  · rw [if_pos hc] at h
    refine lv_iload_n hx hb d_L_named_36 rfl (lv_at hl 3 rfl) ?_
    refine lv_if_ne (tgt := 53) hx hb d_L_named_37 (by decide) (fun hc => ?_) (fun hc => ?_)
    · rw [if_neg hc] at h
      exact t_L_named_53 (a := a) C0 hA hT hl0 hZ  h hkc hks hP hD hS (lv_sub hl [] rfl)
    · rw [if_pos hc] at h
      exact t_L_named_40 (a := a) C0 hA hT hl0 hZ  h hkc hks hP hD hS (lv_sub hl [1, 2, 3, 4, 0] rfl)
set_option maxHeartbeats 4000000 in
set_option maxRecDepth 100000 in
theorem t_L_named_24 {p : Program} {l : Launch} {e : Env} {s : State} {m : MethodId} {args : Array Value} {below : List Frame} {meth : Method} {c : Code} {D : va_G} {cI cZ : ClassId} {a : Nat → Nat} {A : Nat → Prop} (C0 : Am p s m args meth c b_L_named (some .int) 5 R_L D [(cI, .int), (cZ, .boolean)]) (hA : ∀ q, s.heap.size ≤ q → A q) (hT : ∀ x ∈ c.exceptionTable.toList, False) (hl0 : l.stackTraces = false) (hZ : Zs A s s.heap) {v : Int32 ⊕ Nat} {u : StL} {K N : Nat}   {q : Nat} {σ : StL} {x1 x2 x3 : Int32} {kc ks mc ms : Nat} (h : f_L_named_24 σ x1 x2 x3 = some (v, u, mc, ms)) (hkc : kc + mc = K) (hks : ks + ms = N) {H : Heap} {locs : List Loc} (hP : va_P D vwCl (wL cI cZ a q σ) H) (hD : va_D A (wL cI cZ a q σ)) (hS : va_S A s.heap H locs) {ls : Array Slot} (hl : lv_has ls 5 [(0, .ref (a 0)), (1, .int x1), (2, .int x2), (3, .int x3)]) : W p l e (rmK 9 141 K N) s m args below meth c H locs kc ks (TxQ below args s D A (fun q (σ : StL) => (wL cI cZ a q σ)) v u K N) (F0 m 24 ls []) := by
  obtain ⟨hx, hb, hr, hml, hown, hts, hlk, hK⟩ := id C0
  have hcs : kc ≤ K ∧ ks ≤ N := ⟨by omega, by omega⟩
  unfold f_L_named_24 at h
  refine lv_iconst (v := 1) hx hb d_L_named_24 (by decide) ?_
  refine lv_goto (tgt := 29) hx hb d_L_named_25 (by decide) ?_
  exact t_L_named_29 (a := a) C0 hA hT hl0 hZ  h hkc hks hP hD hS (lv_sub hl [0, 1, 2, 3] rfl)
set_option maxHeartbeats 4000000 in
set_option maxRecDepth 100000 in
theorem t_L_named_14 {p : Program} {l : Launch} {e : Env} {s : State} {m : MethodId} {args : Array Value} {below : List Frame} {meth : Method} {c : Code} {D : va_G} {cI cZ : ClassId} {a : Nat → Nat} {A : Nat → Prop} (C0 : Am p s m args meth c b_L_named (some .int) 5 R_L D [(cI, .int), (cZ, .boolean)]) (hA : ∀ q, s.heap.size ≤ q → A q) (hT : ∀ x ∈ c.exceptionTable.toList, False) (hl0 : l.stackTraces = false) (hZ : Zs A s s.heap) {v : Int32 ⊕ Nat} {u : StL} {K N : Nat}   {q : Nat} {σ : StL} {x1 x2 x3 : Int32} {kc ks mc ms : Nat} (h : f_L_named_14 σ x1 x2 x3 = some (v, u, mc, ms)) (hkc : kc + mc = K) (hks : ks + ms = N) {H : Heap} {locs : List Loc} (hP : va_P D vwCl (wL cI cZ a q σ) H) (hD : va_D A (wL cI cZ a q σ)) (hS : va_S A s.heap H locs) {ls : Array Slot} (hl : lv_has ls 5 [(0, .ref (a 0)), (1, .int x1), (2, .int x2), (3, .int x3)]) : W p l e (rmK 9 141 K N) s m args below meth c H locs kc ks (TxQ below args s D A (fun q (σ : StL) => (wL cI cZ a q σ)) v u K N) (F0 m 14 ls []) := by
  obtain ⟨hx, hb, hr, hml, hown, hts, hlk, hK⟩ := id C0
  have hcs : kc ≤ K ∧ ks ≤ N := ⟨by omega, by omega⟩
  unfold f_L_named_14 at h
  refine lv_iload_n hx hb d_L_named_14 rfl (lv_at hl 2 rfl) ?_
  refine lv_iconst (v := 1) hx hb d_L_named_15 (by decide) ?_
  refine lv_icmp_eq (tgt := 24) hx hb d_L_named_16 (by decide) (fun hc => ?_) (fun hc => ?_)
  · rw [if_pos hc] at h
    exact t_L_named_24 (a := a) C0 hA hT hl0 hZ  h hkc hks hP hD hS (lv_sub hl [0, 1, 2, 3] rfl)
  · rw [if_neg hc] at h
    refine lv_iload_n hx hb d_L_named_19 rfl (lv_at hl 2 rfl) ?_
    refine lv_iconst (v := 2) hx hb d_L_named_20 (by decide) ?_
    refine lv_icmp_ne (tgt := 28) hx hb d_L_named_21 (by decide) (fun hc => ?_) (fun hc => ?_)
    · rw [if_neg hc] at h
      refine lv_iconst (v := 0) hx hb d_L_named_28 (by decide) ?_
      exact t_L_named_29 (a := a) C0 hA hT hl0 hZ  h hkc hks hP hD hS (lv_sub hl [0, 1, 2, 3] rfl)
    · rw [if_pos hc] at h
      exact t_L_named_24 (a := a) C0 hA hT hl0 hZ  h hkc hks hP hD hS (lv_sub hl [0, 1, 2, 3] rfl)
set_option maxHeartbeats 4000000 in
set_option maxRecDepth 100000 in
theorem t_L_named_0 {p : Program} {l : Launch} {e : Env} {s : State} {m : MethodId} {args : Array Value} {below : List Frame} {meth : Method} {c : Code} {D : va_G} {cI cZ : ClassId} {a : Nat → Nat} {A : Nat → Prop} (C0 : Am p s m args meth c b_L_named (some .int) 5 R_L D [(cI, .int), (cZ, .boolean)]) (hA : ∀ q, s.heap.size ≤ q → A q) (hT : ∀ x ∈ c.exceptionTable.toList, False) (hl0 : l.stackTraces = false) (hZ : Zs A s s.heap) {v : Int32 ⊕ Nat} {u : StL} {K N : Nat}   {q : Nat} {σ : StL} {x1 x2 x3 : Int32} {kc ks mc ms : Nat} (h : f_L_named σ x1 x2 x3 = some (v, u, mc, ms)) (hkc : kc + mc = K) (hks : ks + ms = N) {H : Heap} {locs : List Loc} (hP : va_P D vwCl (wL cI cZ a q σ) H) (hD : va_D A (wL cI cZ a q σ)) (hS : va_S A s.heap H locs) {ls : Array Slot} (hl : lv_has ls 5 [(0, .ref (a 0)), (1, .int x1), (2, .int x2), (3, .int x3)]) : W p l e (rmK 9 141 K N) s m args below meth c H locs kc ks (TxQ below args s D A (fun q (σ : StL) => (wL cI cZ a q σ)) v u K N) (F0 m 0 ls []) := by
  obtain ⟨hx, hb, hr, hml, hown, hts, hlk, hK⟩ := id C0
  have hcs : kc ≤ K ∧ ks ≤ N := ⟨by omega, by omega⟩
  unfold f_L_named at h
  refine lv_aload_n hx hb d_L_named_0 rfl (lv_at hl 0 rfl) ?_
  refine lv_iload_n hx hb d_L_named_1 rfl (lv_at hl 1 rfl) ?_
  replace h := bd h
  obtain ⟨r1, g1, h⟩ := h
  try dsimp only at h
  replace h := ad_s h
  obtain ⟨mc, ms, h, rfl, rfl⟩ := h
  refine tx_Vv (n := 1) (ci := 0) (As := [.int x1]) (rest := []) (Wn := fun q => (wL cI cZ a q r1.2.1)) C0 hA hZ (c_L_requireClass l D cI cZ a hl0 q σ x1 g1) wd_134 ⟨wd_135, wd_136, wd_137, wd_55⟩ (by decide +kernel) ⟨Nat.le_of_ble_eq_true rfl, Nat.le_of_ble_eq_true rfl⟩ hP hD hS [0, 1, 2, 3, 4, 5, 6, 7, 8, 9, 10, 11, 12, 13, 14, 15, 16, 17, 18, 19, 20] [] [0, 1, 2, 3, 4, 5, 6, 7, 8, 9, 10, 11, 12, 13, 14, 15, 16, 17, 18, 19, 20] jn_L__C (by decide) jn_L__R (by decide) (by decide) (by decide) jn_L__W rfl rfl rfl hl rfl rfl (Nat.le_of_ble_eq_true rfl) ⟨by show kc + _ ≤ K; omega, by show ks + _ ≤ N; omega⟩ d_L_named_2 (fun ek H locs q q9 ce hv hP hD hS h1 h2 h3 => ?_) (fun r1v H locs q hv hP hD hS => ?_)
  · rw [hv] at h
    cases h
    exact tx_out C0 hT hP hD hS h1 h2 h3 (by omega) (by omega)
  · rw [hv] at h
    try dsimp only at h
    have hkc : (kc + r1.2.2.1) + mc = K := by omega
    have hks : (ks + r1.2.2.2) + ms = N := by omega
    have hcs : (kc + r1.2.2.1) ≤ K ∧ (ks + r1.2.2.2) ≤ N := ⟨by omega, by omega⟩
    refine lv_iload_n hx hb d_L_named_5 rfl (lv_at hl 2 rfl) ?_
    refine lv_if_eq (tgt := 14) hx hb d_L_named_6 (by decide) (fun hc => ?_) (fun hc => ?_)
    · rw [if_pos hc] at h
      exact t_L_named_14 (a := a) C0 hA hT hl0 hZ  h hkc hks hP hD hS (lv_sub hl [0, 1, 2, 3] rfl)
    · rw [if_neg hc] at h
      refine lv_aload_n hx hb d_L_named_9 rfl (lv_at hl 0 rfl) ?_
      refine lv_iload_n hx hb d_L_named_10 rfl (lv_at hl 3 rfl) ?_
      replace h := bd h
      obtain ⟨r6, g6, h⟩ := h
      try dsimp only at h
      replace h := ad_s h
      obtain ⟨mc, ms, h, rfl, rfl⟩ := h
      refine tx_Vv (n := 1) (ci := 0) (As := [.int x3]) (rest := []) (Wn := fun q => (wL cI cZ a q r6.2.1)) C0 hA hZ (c_L_requireType l D cI cZ a hl0 q r1.2.1 x3 g6) wd_160 ⟨wd_161, wd_162, wd_163, wd_55⟩ (by decide +kernel) ⟨Nat.le_of_ble_eq_true rfl, Nat.le_of_ble_eq_true rfl⟩ hP hD hS [0, 1, 2, 3, 4, 5, 6, 7, 8, 9, 10, 11, 12, 13, 14, 15, 16, 17, 18, 19, 20] [] [0, 1, 2, 3, 4, 5, 6, 7, 8, 9, 10, 11, 12, 13, 14, 15, 16, 17, 18, 19, 20] jn_L__C (by decide) jn_L__R (by decide) (by decide) (by decide) jn_L__W rfl rfl rfl hl rfl rfl (Nat.le_of_ble_eq_true rfl) ⟨by show (kc + r1.2.2.1) + _ ≤ K; omega, by show (ks + r1.2.2.2) + _ ≤ N; omega⟩ d_L_named_11 (fun ek H locs q q9 ce hv hP hD hS h1 h2 h3 => ?_) (fun r6v H locs q hv hP hD hS => ?_)
      · rw [hv] at h
        cases h
        exact tx_out C0 hT hP hD hS h1 h2 h3 (by omega) (by omega)
      · rw [hv] at h
        try dsimp only at h
        have hkc : ((kc + r1.2.2.1) + r6.2.2.1) + mc = K := by omega
        have hks : ((ks + r1.2.2.2) + r6.2.2.2) + ms = N := by omega
        have hcs : ((kc + r1.2.2.1) + r6.2.2.1) ≤ K ∧ ((ks + r1.2.2.2) + r6.2.2.2) ≤ N := ⟨by omega, by omega⟩
        exact t_L_named_14 (a := a) C0 hA hT hl0 hZ  h hkc hks hP hD hS (lv_sub hl [0, 1, 2, 3] rfl)
set_option maxHeartbeats 4000000 in
set_option maxRecDepth 100000 in
theorem c_L_named (l : Launch) (D : va_G) (cI cZ : ClassId) (a : Nat → Nat) (hl0 : l.stackTraces = false) (q : Nat) (σ : StL) (x1 : Int32) (x2 : Int32) (x3 : Int32) {res : (Int32 ⊕ Nat) × StL × Nat × Nat} (h : f_L_named σ x1 x2 x3 = some res) : TxM l y_L_named b_L_named 5 (some .int) 9 141 D [(cI, .int), (cZ, .boolean)] [.ref (a 0), .int x1, .int x2, .int x3] (fun q (σ : StL) => (wL cI cZ a q σ)) q σ res :=
  tx_of (by decide) (Nat.le_of_ble_eq_true rfl) (fun p e s m args below meth c ls A C0 hA hT hZ hP hD hS hl => t_L_named_0 (a := a) (kc := 0) (ks := 0) C0 hA hT hl0 hZ h (Nat.zero_add _) (Nat.zero_add _) hP hD hS (lv_sub hl [0, 1, 2, 3] rfl))
