def f_T_makeArray_2_s (k2 : StT → Int32 → Int32 → Option (Int32 × StT)) (σ : StT) (x1 x2 : Int32) : Option (Int32 × StT) :=
  if (T_count σ) ≤ x2 then
    (f_T_sizeOf σ x1).bind fun r1 =>
    (f_T_add σ 2 (1 + r1)).bind fun r2 =>
    if r2.1 = (-1) then
      some (r2.1, r2.2)
    else
      if r2.1 < 0 ∨ 300 ≤ r2.1.toNatClampNeg then none else
      some (r2.1, (T_put_elements r2.2 r2.1 x1))
  else
    if x2 < 0 ∨ 300 ≤ x2.toNatClampNeg then none else
    if ((T_kinds σ) x2.toNatClampNeg) = 2 then
      if x2 < 0 ∨ 300 ≤ x2.toNatClampNeg then none else
      if ((T_elements σ) x2.toNatClampNeg) = x1 then
        some (x2, σ)
      else
        k2 σ x1 (x2 + 1)
    else
      k2 σ x1 (x2 + 1)
def f_T_makeArray_2 : Nat → StT → Int32 → Int32 → Option (Int32 × StT)
  | 0, _, _, _ => none
  | n + 1, σ, x1, x2 => f_T_makeArray_2_s (f_T_makeArray_2 n) σ x1 x2
def f_T_makeArray (σ : StT) (x1 : Int32) : Option (Int32 × StT) :=
  f_T_makeArray_2 1000 σ x1 0
set_option maxHeartbeats 4000000 in
set_option maxRecDepth 100000 in
theorem t_T_makeArray_2_s {p : Program} {l : Launch} {e : Env} {s : State} {m : MethodId} {args : Array Value} {below : List Frame} {meth : Method} {c : Code} {D : va_G} {cI cZ : ClassId} {a : Nat → Nat} {A : Nat → Prop} (C0 : Am p s m args meth c b_T_makeArray (some .int) 3 R_T D [(cI, .int), (cZ, .boolean)]) (hA : ∀ q, s.heap.size ≤ q → A q) {res : Int32 × StT} {k2 : StT → Int32 → Int32 → Option (Int32 × StT)}  (hk2 : ∀ (q : Nat) (σ : StT) (x1 x2 : Int32) (H : Heap) (locs : List Loc) (ls : Array Slot), k2 σ x1 x2 = some res → va_P D vwCl (wT cI cZ a q σ) H → va_D A (wT cI cZ a q σ) → va_S A s.heap H locs → lv_has ls 3 [(0, .ref (a 10)), (1, .int x1), (2, .int x2)] → W p l e (rmK 2 42 0 0) s m args below meth c H locs 0 0 (RwQ below args s D A (fun q (σ : StT) => (wT cI cZ a q σ)) res 0 0) (F0 m 2 ls [])) {q : Nat} {σ : StT} {x1 x2 : Int32} (h : f_T_makeArray_2_s k2 σ x1 x2 = some res) {H : Heap} {locs : List Loc} (hP : va_P D vwCl (wT cI cZ a q σ) H) (hD : va_D A (wT cI cZ a q σ)) (hS : va_S A s.heap H locs) {ls : Array Slot} (hl : lv_has ls 3 [(0, .ref (a 10)), (1, .int x1), (2, .int x2)]) : W p l e (rmK 2 42 0 0) s m args below meth c H locs 0 0 (RwQ below args s D A (fun q (σ : StT) => (wT cI cZ a q σ)) res 0 0) (F0 m 2 ls []) := by
  obtain ⟨hx, hb, hr, hml, hown, hts, hlk, hK⟩ := id C0
  unfold f_T_makeArray_2_s at h
  refine lv_iload_n hx hb d_T_makeArray_2 rfl (lv_at hl 2 rfl) ?_
  refine lv_aload_n hx hb d_T_makeArray_3 rfl (lv_at hl 0 rfl) ?_
  refine va_get (ci := 2) (v := .int (T_count σ)) (C := R_T) (T := F_T) (N := 12) hx hb hts i_T hown hK.1 hP 0 rfl rfl 9 (by decide) (hts _ wd_37) (fun _ h9 => h9) rfl d_T_makeArray_4 ?_
  refine lv_icmp_ge (tgt := 38) hx hb d_T_makeArray_7 (by decide) (fun hc => ?_) (fun hc => ?_)
  · rw [if_pos hc] at h
    refine lv_aload_n hx hb d_T_makeArray_38 rfl (lv_at hl 0 rfl) ?_
    refine lv_iconst (v := 2) hx hb d_T_makeArray_39 (by decide) ?_
    refine lv_iconst (v := 1) hx hb d_T_makeArray_40 (by decide) ?_
    refine lv_aload_n hx hb d_T_makeArray_41 rfl (lv_at hl 0 rfl) ?_
    refine lv_iload_n hx hb d_T_makeArray_42 rfl (lv_at hl 1 rfl) ?_
    obtain ⟨r1, g1, h⟩ := bd h
    refine ro_V (n := 1) (ci := 2) (As := [.int x1]) (rest := [.int 1, .int 2, .ref (a 10)]) C0 (c_T_sizeOf l D cI cZ a q σ x1 g1) wd_53 ⟨wd_54, wd_55, wd_56, wd_49⟩ (by decide +kernel) ⟨Nat.le_of_ble_eq_true rfl, Nat.le_of_ble_eq_true rfl⟩ hP rfl rfl rfl hl rfl rfl (Nat.le_of_ble_eq_true rfl) ⟨Nat.zero_le _, Nat.zero_le _⟩ d_T_makeArray_43 ?_
    try dsimp only at h
    refine lv_iadd hx hb d_T_makeArray_46 ?_
    obtain ⟨r2, g2, h⟩ := bd h
    refine rw_V (n := 2) (ci := 2) (As := [.int 2, .int (1 + r1)]) (rest := []) (Wn := fun q => (wT cI cZ a q r2.2)) C0 hA (c_T_add l D cI cZ a q σ 2 (1 + r1) g2) wd_57 ⟨wd_58, wd_59, wd_60, wd_49⟩ (by decide +kernel) ⟨Nat.le_of_ble_eq_true rfl, Nat.le_of_ble_eq_true rfl⟩ hP hD hS [0, 1, 2, 3, 4, 5, 6, 7, 8] [] [0, 1, 2, 3, 4, 5, 6, 7, 8] jn_T__C (by decide) jn_T__R (by decide) (by decide) (by decide) jn_T__W rfl rfl rfl hl rfl rfl (Nat.le_of_ble_eq_true rfl) ⟨Nat.zero_le _, Nat.zero_le _⟩ d_T_makeArray_47 (fun H locs q hP hD hS => ?_)
    try dsimp only at h
    refine lv_istore_n (lv' := [(2, .int r2.1), (0, .ref (a 10)), (1, .int x1)]) hx hb d_T_makeArray_50 rfl hl (by decide) rfl (fun ls hl => ?_)
    refine lv_iload_n hx hb d_T_makeArray_51 rfl (lv_at hl 0 rfl) ?_
    refine lv_iconst (v := (-1)) hx hb d_T_makeArray_52 (by decide) ?_
    refine lv_icmp_eq (tgt := 63) hx hb d_T_makeArray_53 (by decide) (fun hc => ?_) (fun hc => ?_)
    · rw [if_pos hc] at h
      refine lv_iload_n hx hb d_T_makeArray_63 rfl (lv_at hl 0 rfl) ?_
      exact rw_ret C0 hP hD hS (Option.some.inj h) d_T_makeArray_64
    · rw [if_neg hc] at h
      refine lv_aload_n hx hb d_T_makeArray_56 rfl (lv_at hl 1 rfl) ?_
      refine va_get (ci := 2) (v := .ref (a 14)) (C := R_T) (T := F_T) (N := 12) hx hb hts i_T hown hK.1 hP 0 rfl rfl 3 (by decide) (hts _ wd_41) (fun _ h9 => h9) rfl d_T_makeArray_57 ?_
      refine lv_iload_n hx hb d_T_makeArray_60 rfl (lv_at hl 0 rfl) ?_
      refine lv_iload_n hx hb d_T_makeArray_61 rfl (lv_at hl 2 rfl) ?_
      obtain ⟨hi, h⟩ := gd h
      refine rw_iast C0 hP hD hS 4 0 rfl rfl hi d_T_makeArray_62 (Wn := (wT cI cZ a q (T_put_elements r2.2 r2.1 x1))) ws_T_put_elements (fun H locs hP hD hS => ?_)
      refine lv_iload_n hx hb d_T_makeArray_63 rfl (lv_at hl 0 rfl) ?_
      exact rw_ret C0 hP hD hS (Option.some.inj h) d_T_makeArray_64
  · rw [if_neg hc] at h
    refine lv_aload_n hx hb d_T_makeArray_10 rfl (lv_at hl 0 rfl) ?_
    refine va_get (ci := 2) (v := .ref (a 11)) (C := R_T) (T := F_T) (N := 12) hx hb hts i_T hown hK.1 hP 0 rfl rfl 0 (by decide) (hts _ wd_38) (fun _ h9 => h9) rfl d_T_makeArray_11 ?_
    refine lv_iload_n hx hb d_T_makeArray_14 rfl (lv_at hl 2 rfl) ?_
    obtain ⟨hi, h⟩ := gd h
    refine va_iald hx hb hK.1 hP 1 0 rfl rfl hi d_T_makeArray_15 ?_
    refine lv_iconst (v := 2) hx hb d_T_makeArray_16 (by decide) ?_
    refine lv_icmp_ne (tgt := 32) hx hb d_T_makeArray_17 (by decide) (fun hc => ?_) (fun hc => ?_)
    · rw [if_neg hc] at h
      refine lv_iinc (v := (x2 + 1)) (lv' := [(2, .int (x2 + 1)), (0, .ref (a 10)), (1, .int x1)]) hx hb d_T_makeArray_32 hl (k := 2) rfl rfl (by decide) rfl (fun ls hl => ?_)
      refine lv_goto (tgt := 2) hx hb d_T_makeArray_35 (by decide) ?_
      exact hk2 _ _ _ _ _ _ _ h hP hD hS (lv_sub hl [1, 2, 0] rfl)
    · rw [if_pos hc] at h
      refine lv_aload_n hx hb d_T_makeArray_20 rfl (lv_at hl 0 rfl) ?_
      refine va_get (ci := 2) (v := .ref (a 14)) (C := R_T) (T := F_T) (N := 12) hx hb hts i_T hown hK.1 hP 0 rfl rfl 3 (by decide) (hts _ wd_41) (fun _ h9 => h9) rfl d_T_makeArray_21 ?_
      refine lv_iload_n hx hb d_T_makeArray_24 rfl (lv_at hl 2 rfl) ?_
      obtain ⟨hi, h⟩ := gd h
      refine va_iald hx hb hK.1 hP 4 0 rfl rfl hi d_T_makeArray_25 ?_
      refine lv_iload_n hx hb d_T_makeArray_26 rfl (lv_at hl 1 rfl) ?_
      refine lv_icmp_ne (tgt := 32) hx hb d_T_makeArray_27 (by decide) (fun hc => ?_) (fun hc => ?_)
      · rw [if_neg hc] at h
        refine lv_iinc (v := (x2 + 1)) (lv' := [(2, .int (x2 + 1)), (0, .ref (a 10)), (1, .int x1)]) hx hb d_T_makeArray_32 hl (k := 2) rfl rfl (by decide) rfl (fun ls hl => ?_)
        refine lv_goto (tgt := 2) hx hb d_T_makeArray_35 (by decide) ?_
        exact hk2 _ _ _ _ _ _ _ h hP hD hS (lv_sub hl [1, 2, 0] rfl)
      · rw [if_pos hc] at h
        refine lv_iload_n hx hb d_T_makeArray_30 rfl (lv_at hl 2 rfl) ?_
        exact rw_ret C0 hP hD hS (Option.some.inj h) d_T_makeArray_31
set_option maxHeartbeats 4000000 in
set_option maxRecDepth 100000 in
theorem t_T_makeArray_2 {p : Program} {l : Launch} {e : Env} {s : State} {m : MethodId} {args : Array Value} {below : List Frame} {meth : Method} {c : Code} {D : va_G} {cI cZ : ClassId} {a : Nat → Nat} {A : Nat → Prop} (C0 : Am p s m args meth c b_T_makeArray (some .int) 3 R_T D [(cI, .int), (cZ, .boolean)]) (hA : ∀ q, s.heap.size ≤ q → A q) {res : Int32 × StT}  {n : Nat} {q : Nat} {σ : StT} {x1 x2 : Int32} (h : f_T_makeArray_2  n σ x1 x2 = some res) {H : Heap} {locs : List Loc} (hP : va_P D vwCl (wT cI cZ a q σ) H) (hD : va_D A (wT cI cZ a q σ)) (hS : va_S A s.heap H locs) {ls : Array Slot} (hl : lv_has ls 3 [(0, .ref (a 10)), (1, .int x1), (2, .int x2)]) : W p l e (rmK 2 42 0 0) s m args below meth c H locs 0 0 (RwQ below args s D A (fun q (σ : StT) => (wT cI cZ a q σ)) res 0 0) (F0 m 2 ls []) := by
  induction n generalizing q σ x1 x2 H locs ls with
  | zero => cases h
  | succ n ih => exact t_T_makeArray_2_s (a := a) C0 hA  (fun _ _ _ _ _ _ _ h hP hD hS hl => ih h hP hD hS hl) h hP hD hS hl
set_option maxHeartbeats 4000000 in
set_option maxRecDepth 100000 in
theorem t_T_makeArray_0 {p : Program} {l : Launch} {e : Env} {s : State} {m : MethodId} {args : Array Value} {below : List Frame} {meth : Method} {c : Code} {D : va_G} {cI cZ : ClassId} {a : Nat → Nat} {A : Nat → Prop} (C0 : Am p s m args meth c b_T_makeArray (some .int) 3 R_T D [(cI, .int), (cZ, .boolean)]) (hA : ∀ q, s.heap.size ≤ q → A q) {res : Int32 × StT}   {q : Nat} {σ : StT} {x1 : Int32} (h : f_T_makeArray σ x1 = some res) {H : Heap} {locs : List Loc} (hP : va_P D vwCl (wT cI cZ a q σ) H) (hD : va_D A (wT cI cZ a q σ)) (hS : va_S A s.heap H locs) {ls : Array Slot} (hl : lv_has ls 3 [(0, .ref (a 10)), (1, .int x1)]) : W p l e (rmK 2 42 0 0) s m args below meth c H locs 0 0 (RwQ below args s D A (fun q (σ : StT) => (wT cI cZ a q σ)) res 0 0) (F0 m 0 ls []) := by
  obtain ⟨hx, hb, hr, hml, hown, hts, hlk, hK⟩ := id C0
  unfold f_T_makeArray at h
  refine lv_iconst (v := 0) hx hb d_T_makeArray_0 (by decide) ?_
  refine lv_istore_n (lv' := [(2, .int 0), (0, .ref (a 10)), (1, .int x1)]) hx hb d_T_makeArray_1 rfl hl (by decide) rfl (fun ls hl => ?_)
  exact t_T_makeArray_2 (a := a) C0 hA  h hP hD hS (lv_sub hl [1, 2, 0] rfl)
set_option maxHeartbeats 4000000 in
set_option maxRecDepth 100000 in
theorem c_T_makeArray (l : Launch) (D : va_G) (cI cZ : ClassId) (a : Nat → Nat) (q : Nat) (σ : StT) (x1 : Int32) {res : Int32 × StT} (h : f_T_makeArray σ x1 = some res) : RwM l y_T_makeArray b_T_makeArray 3 (some .int) 2 42 D [(cI, .int), (cZ, .boolean)] [.ref (a 10), .int x1] (fun q (σ : StT) => (wT cI cZ a q σ)) q σ res :=
  rw_of (by decide) (Nat.le_of_ble_eq_true rfl) (fun p e s m args below meth c ls A C0 hA hP hD hS hl => t_T_makeArray_0 (a := a) C0 hA h hP hD hS (lv_sub hl [0, 1] rfl))
