def f_T_makeNamed_8_s (k8 : StT → Int32 → Int32 → Int32 → Option (Int32 × StT)) (σ : StT) (x1 x2 x3 : Int32) : Option (Int32 × StT) :=
  if (T_count σ) ≤ x3 then
    (f_T_sizeOf σ (f_L_typeOf x2)).bind fun r1 =>
    (f_T_add σ 1 (1 + r1)).bind fun r2 =>
    if r2.1 = (-1) then
      some (r2.1, r2.2)
    else
      if r2.1 < 0 ∨ 300 ≤ r2.1.toNatClampNeg then none else
      if r2.1 < 0 ∨ 300 ≤ r2.1.toNatClampNeg then none else
      if r2.1 < 0 ∨ 300 ≤ r2.1.toNatClampNeg then none else
      some (r2.1, (T_put_partCounts (T_put_arguments (T_put_named r2.2 r2.1 x1) r2.1 x2) r2.1 1))
  else
    if x3 < 0 ∨ 300 ≤ x3.toNatClampNeg then none else
    if ((T_kinds σ) x3.toNatClampNeg) = 1 then
      if x3 < 0 ∨ 300 ≤ x3.toNatClampNeg then none else
      if ((T_named σ) x3.toNatClampNeg) = x1 then
        if x3 < 0 ∨ 300 ≤ x3.toNatClampNeg then none else
        if ((T_arguments σ) x3.toNatClampNeg) = x2 then
          some (x3, σ)
        else
          k8 σ x1 x2 (x3 + 1)
      else
        k8 σ x1 x2 (x3 + 1)
    else
      k8 σ x1 x2 (x3 + 1)
def f_T_makeNamed_8 : Nat → StT → Int32 → Int32 → Int32 → Option (Int32 × StT)
  | 0, _, _, _, _ => none
  | n + 1, σ, x1, x2, x3 => f_T_makeNamed_8_s (f_T_makeNamed_8 n) σ x1 x2 x3
def f_T_makeNamed (σ : StT) (x1 x2 : Int32) : Option (Int32 × StT) :=
  if 0 ≤ x2 then
    f_T_makeNamed_8 1000 σ x1 x2 0
  else
    some ((-1), σ)
set_option maxHeartbeats 4000000 in
set_option maxRecDepth 100000 in
theorem t_T_makeNamed_8_s {p : Program} {l : Launch} {e : Env} {s : State} {m : MethodId} {args : Array Value} {below : List Frame} {meth : Method} {c : Code} {D : va_G} {cI cZ : ClassId} {a : Nat → Nat} {A : Nat → Prop} (C0 : Am p s m args meth c b_T_makeNamed (some .int) 4 R_T D [(cI, .int), (cZ, .boolean)]) (hA : ∀ q, s.heap.size ≤ q → A q) {res : Int32 × StT} {k8 : StT → Int32 → Int32 → Int32 → Option (Int32 × StT)}  (hk8 : ∀ (q : Nat) (σ : StT) (x1 x2 x3 : Int32) (H : Heap) (locs : List Loc) (ls : Array Slot), k8 σ x1 x2 x3 = some res → va_P D vwCl (wT cI cZ a q σ) H → va_D A (wT cI cZ a q σ) → va_S A s.heap H locs → lv_has ls 4 [(0, .ref (a 10)), (1, .int x1), (2, .int x2), (3, .int x3)] → W p l e (rmK 2 42 0 0) s m args below meth c H locs 0 0 (RwQ below args s D A (fun q (σ : StT) => (wT cI cZ a q σ)) res 0 0) (F0 m 8 ls [])) {q : Nat} {σ : StT} {x1 x2 x3 : Int32} (h : f_T_makeNamed_8_s k8 σ x1 x2 x3 = some res) {H : Heap} {locs : List Loc} (hP : va_P D vwCl (wT cI cZ a q σ) H) (hD : va_D A (wT cI cZ a q σ)) (hS : va_S A s.heap H locs) {ls : Array Slot} (hl : lv_has ls 4 [(0, .ref (a 10)), (1, .int x1), (2, .int x2), (3, .int x3)]) : W p l e (rmK 2 42 0 0) s m args below meth c H locs 0 0 (RwQ below args s D A (fun q (σ : StT) => (wT cI cZ a q σ)) res 0 0) (F0 m 8 ls []) := by
  obtain ⟨hx, hb, hr, hml, hown, hts, hlk, hK⟩ := id C0
  unfold f_T_makeNamed_8_s at h
  refine lv_iload_n hx hb d_T_makeNamed_8 rfl (lv_at hl 3 rfl) ?_
  refine lv_aload_n hx hb d_T_makeNamed_9 rfl (lv_at hl 0 rfl) ?_
  refine va_get (ci := 2) (v := .int (T_count σ)) (C := R_T) (T := F_T) (N := 12) hx hb hts i_T hown hK.1 hP 0 rfl rfl 9 (by decide) (hts _ wd_37) (fun _ h9 => h9) rfl d_T_makeNamed_10 ?_
  refine lv_icmp_ge (tgt := 54) hx hb d_T_makeNamed_13 (by decide) (fun hc => ?_) (fun hc => ?_)
  · rw [if_pos hc] at h
    refine lv_aload_n hx hb d_T_makeNamed_54 rfl (lv_at hl 0 rfl) ?_
    refine lv_iconst (v := 1) hx hb d_T_makeNamed_55 (by decide) ?_
    refine lv_iconst (v := 1) hx hb d_T_makeNamed_56 (by decide) ?_
    refine lv_aload_n hx hb d_T_makeNamed_57 rfl (lv_at hl 0 rfl) ?_
    refine lv_iload_n hx hb d_T_makeNamed_58 rfl (lv_at hl 2 rfl) ?_
    refine ro_SN (n := 1) (As := [.int x2]) (rest := [.ref (a 10), .int 1, .int 1, .ref (a 10)]) C0 (c_L_typeOf l D cI cZ a x2 rfl) (List.mem_of_getElem? (i := 1) rfl) ⟨wd_50, wd_51, wd_52⟩ (by decide +kernel) ⟨Nat.le_of_ble_eq_true rfl, Nat.le_of_ble_eq_true rfl⟩ pnil hl rfl rfl (Nat.le_of_ble_eq_true rfl) ⟨Nat.zero_le _, Nat.zero_le _⟩ d_T_makeNamed_59 ?_
    obtain ⟨r1, g1, h⟩ := bd h
    refine ro_V (n := 1) (ci := 2) (As := [.int (f_L_typeOf x2)]) (rest := [.int 1, .int 1, .ref (a 10)]) C0 (c_T_sizeOf l D cI cZ a q σ (f_L_typeOf x2) g1) wd_53 ⟨wd_54, wd_55, wd_56, wd_49⟩ (by decide +kernel) ⟨Nat.le_of_ble_eq_true rfl, Nat.le_of_ble_eq_true rfl⟩ hP rfl rfl rfl hl rfl rfl (Nat.le_of_ble_eq_true rfl) ⟨Nat.zero_le _, Nat.zero_le _⟩ d_T_makeNamed_62 ?_
    try dsimp only at h
    refine lv_iadd hx hb d_T_makeNamed_65 ?_
    obtain ⟨r2, g2, h⟩ := bd h
    refine rw_V (n := 2) (ci := 2) (As := [.int 1, .int (1 + r1)]) (rest := []) (Wn := fun q => (wT cI cZ a q r2.2)) C0 hA (c_T_add l D cI cZ a q σ 1 (1 + r1) g2) wd_57 ⟨wd_58, wd_59, wd_60, wd_49⟩ (by decide +kernel) ⟨Nat.le_of_ble_eq_true rfl, Nat.le_of_ble_eq_true rfl⟩ hP hD hS [0, 1, 2, 3, 4, 5, 6, 7, 8] [] [0, 1, 2, 3, 4, 5, 6, 7, 8] jn_T__C (by decide) jn_T__R (by decide) (by decide) (by decide) jn_T__W rfl rfl rfl hl rfl rfl (Nat.le_of_ble_eq_true rfl) ⟨Nat.zero_le _, Nat.zero_le _⟩ d_T_makeNamed_66 (fun H locs q hP hD hS => ?_)
    try dsimp only at h
    refine lv_istore_n (lv' := [(3, .int r2.1), (0, .ref (a 10)), (1, .int x1), (2, .int x2)]) hx hb d_T_makeNamed_69 rfl hl (by decide) rfl (fun ls hl => ?_)
    refine lv_iload_n hx hb d_T_makeNamed_70 rfl (lv_at hl 0 rfl) ?_
    refine lv_iconst (v := (-1)) hx hb d_T_makeNamed_71 (by decide) ?_
    refine lv_icmp_eq (tgt := 96) hx hb d_T_makeNamed_72 (by decide) (fun hc => ?_) (fun hc => ?_)
    · rw [if_pos hc] at h
      refine lv_iload_n hx hb d_T_makeNamed_96 rfl (lv_at hl 0 rfl) ?_
      exact rw_ret C0 hP hD hS (Option.some.inj h) d_T_makeNamed_97
    · rw [if_neg hc] at h
      refine lv_aload_n hx hb d_T_makeNamed_75 rfl (lv_at hl 1 rfl) ?_
      refine va_get (ci := 2) (v := .ref (a 12)) (C := R_T) (T := F_T) (N := 12) hx hb hts i_T hown hK.1 hP 0 rfl rfl 1 (by decide) (hts _ wd_39) (fun _ h9 => h9) rfl d_T_makeNamed_76 ?_
      refine lv_iload_n hx hb d_T_makeNamed_79 rfl (lv_at hl 0 rfl) ?_
      refine lv_iload_n hx hb d_T_makeNamed_80 rfl (lv_at hl 2 rfl) ?_
      obtain ⟨hi, h⟩ := gd h
      refine rw_iast C0 hP hD hS 2 0 rfl rfl hi d_T_makeNamed_81 (Wn := (wT cI cZ a q (T_put_named r2.2 r2.1 x1))) ws_T_put_named (fun H locs hP hD hS => ?_)
      refine lv_aload_n hx hb d_T_makeNamed_82 rfl (lv_at hl 1 rfl) ?_
      refine va_get (ci := 2) (v := .ref (a 13)) (C := R_T) (T := F_T) (N := 12) hx hb hts i_T hown hK.1 hP 0 rfl rfl 2 (by decide) (hts _ wd_40) (fun _ h9 => h9) rfl d_T_makeNamed_83 ?_
      refine lv_iload_n hx hb d_T_makeNamed_86 rfl (lv_at hl 0 rfl) ?_
      refine lv_iload_n hx hb d_T_makeNamed_87 rfl (lv_at hl 3 rfl) ?_
      obtain ⟨hi, h⟩ := gd h
      refine rw_iast C0 hP hD hS 3 0 rfl rfl hi d_T_makeNamed_88 (Wn := (wT cI cZ a q (T_put_arguments (T_put_named r2.2 r2.1 x1) r2.1 x2))) ws_T_put_arguments (fun H locs hP hD hS => ?_)
      refine lv_aload_n hx hb d_T_makeNamed_89 rfl (lv_at hl 1 rfl) ?_
      refine va_get (ci := 2) (v := .ref (a 17)) (C := R_T) (T := F_T) (N := 12) hx hb hts i_T hown hK.1 hP 0 rfl rfl 6 (by decide) (hts _ wd_44) (fun _ h9 => h9) rfl d_T_makeNamed_90 ?_
      refine lv_iload_n hx hb d_T_makeNamed_93 rfl (lv_at hl 0 rfl) ?_
      refine lv_iconst (v := 1) hx hb d_T_makeNamed_94 (by decide) ?_
      obtain ⟨hi, h⟩ := gd h
      refine rw_iast C0 hP hD hS 7 0 rfl rfl hi d_T_makeNamed_95 (Wn := (wT cI cZ a q (T_put_partCounts (T_put_arguments (T_put_named r2.2 r2.1 x1) r2.1 x2) r2.1 1))) ws_T_put_partCounts (fun H locs hP hD hS => ?_)
      refine lv_iload_n hx hb d_T_makeNamed_96 rfl (lv_at hl 0 rfl) ?_
      exact rw_ret C0 hP hD hS (Option.some.inj h) d_T_makeNamed_97
  · rw [if_neg hc] at h
    refine lv_aload_n hx hb d_T_makeNamed_16 rfl (lv_at hl 0 rfl) ?_
    refine va_get (ci := 2) (v := .ref (a 11)) (C := R_T) (T := F_T) (N := 12) hx hb hts i_T hown hK.1 hP 0 rfl rfl 0 (by decide) (hts _ wd_38) (fun _ h9 => h9) rfl d_T_makeNamed_17 ?_
    refine lv_iload_n hx hb d_T_makeNamed_20 rfl (lv_at hl 3 rfl) ?_
    obtain ⟨hi, h⟩ := gd h
    refine va_iald hx hb hK.1 hP 1 0 rfl rfl hi d_T_makeNamed_21 ?_
    refine lv_iconst (v := 1) hx hb d_T_makeNamed_22 (by decide) ?_
    refine lv_icmp_ne (tgt := 48) hx hb d_T_makeNamed_23 (by decide) (fun hc => ?_) (fun hc => ?_)
    · rw [if_neg hc] at h
      refine lv_iinc (v := (x3 + 1)) (lv' := [(3, .int (x3 + 1)), (0, .ref (a 10)), (1, .int x1), (2, .int x2)]) hx hb d_T_makeNamed_48 hl (k := 3) rfl rfl (by decide) rfl (fun ls hl => ?_)
      refine lv_goto (tgt := 8) hx hb d_T_makeNamed_51 (by decide) ?_
      exact hk8 _ _ _ _ _ _ _ _ h hP hD hS (lv_sub hl [1, 2, 3, 0] rfl)
    · rw [if_pos hc] at h
      refine lv_aload_n hx hb d_T_makeNamed_26 rfl (lv_at hl 0 rfl) ?_
      refine va_get (ci := 2) (v := .ref (a 12)) (C := R_T) (T := F_T) (N := 12) hx hb hts i_T hown hK.1 hP 0 rfl rfl 1 (by decide) (hts _ wd_39) (fun _ h9 => h9) rfl d_T_makeNamed_27 ?_
      refine lv_iload_n hx hb d_T_makeNamed_30 rfl (lv_at hl 3 rfl) ?_
      obtain ⟨hi, h⟩ := gd h
      refine va_iald hx hb hK.1 hP 2 0 rfl rfl hi d_T_makeNamed_31 ?_
      refine lv_iload_n hx hb d_T_makeNamed_32 rfl (lv_at hl 1 rfl) ?_
      refine lv_icmp_ne (tgt := 48) hx hb d_T_makeNamed_33 (by decide) (fun hc => ?_) (fun hc => ?_)
      · rw [if_neg hc] at h
        refine lv_iinc (v := (x3 + 1)) (lv' := [(3, .int (x3 + 1)), (0, .ref (a 10)), (1, .int x1), (2, .int x2)]) hx hb d_T_makeNamed_48 hl (k := 3) rfl rfl (by decide) rfl (fun ls hl => ?_)
        refine lv_goto (tgt := 8) hx hb d_T_makeNamed_51 (by decide) ?_
        exact hk8 _ _ _ _ _ _ _ _ h hP hD hS (lv_sub hl [1, 2, 3, 0] rfl)
      · rw [if_pos hc] at h
        refine lv_aload_n hx hb d_T_makeNamed_36 rfl (lv_at hl 0 rfl) ?_
        refine va_get (ci := 2) (v := .ref (a 13)) (C := R_T) (T := F_T) (N := 12) hx hb hts i_T hown hK.1 hP 0 rfl rfl 2 (by decide) (hts _ wd_40) (fun _ h9 => h9) rfl d_T_makeNamed_37 ?_
        refine lv_iload_n hx hb d_T_makeNamed_40 rfl (lv_at hl 3 rfl) ?_
        obtain ⟨hi, h⟩ := gd h
        refine va_iald hx hb hK.1 hP 3 0 rfl rfl hi d_T_makeNamed_41 ?_
        refine lv_iload_n hx hb d_T_makeNamed_42 rfl (lv_at hl 2 rfl) ?_
        refine lv_icmp_ne (tgt := 48) hx hb d_T_makeNamed_43 (by decide) (fun hc => ?_) (fun hc => ?_)
        · rw [if_neg hc] at h
          refine lv_iinc (v := (x3 + 1)) (lv' := [(3, .int (x3 + 1)), (0, .ref (a 10)), (1, .int x1), (2, .int x2)]) hx hb d_T_makeNamed_48 hl (k := 3) rfl rfl (by decide) rfl (fun ls hl => ?_)
          refine lv_goto (tgt := 8) hx hb d_T_makeNamed_51 (by decide) ?_
          exact hk8 _ _ _ _ _ _ _ _ h hP hD hS (lv_sub hl [1, 2, 3, 0] rfl)
        · rw [if_pos hc] at h
          refine lv_iload_n hx hb d_T_makeNamed_46 rfl (lv_at hl 3 rfl) ?_
          exact rw_ret C0 hP hD hS (Option.some.inj h) d_T_makeNamed_47
set_option maxHeartbeats 4000000 in
set_option maxRecDepth 100000 in
theorem t_T_makeNamed_8 {p : Program} {l : Launch} {e : Env} {s : State} {m : MethodId} {args : Array Value} {below : List Frame} {meth : Method} {c : Code} {D : va_G} {cI cZ : ClassId} {a : Nat → Nat} {A : Nat → Prop} (C0 : Am p s m args meth c b_T_makeNamed (some .int) 4 R_T D [(cI, .int), (cZ, .boolean)]) (hA : ∀ q, s.heap.size ≤ q → A q) {res : Int32 × StT}  {n : Nat} {q : Nat} {σ : StT} {x1 x2 x3 : Int32} (h : f_T_makeNamed_8  n σ x1 x2 x3 = some res) {H : Heap} {locs : List Loc} (hP : va_P D vwCl (wT cI cZ a q σ) H) (hD : va_D A (wT cI cZ a q σ)) (hS : va_S A s.heap H locs) {ls : Array Slot} (hl : lv_has ls 4 [(0, .ref (a 10)), (1, .int x1), (2, .int x2), (3, .int x3)]) : W p l e (rmK 2 42 0 0) s m args below meth c H locs 0 0 (RwQ below args s D A (fun q (σ : StT) => (wT cI cZ a q σ)) res 0 0) (F0 m 8 ls []) := by
  induction n generalizing q σ x1 x2 x3 H locs ls with
  | zero => cases h
  | succ n ih => exact t_T_makeNamed_8_s (a := a) C0 hA  (fun _ _ _ _ _ _ _ _ h hP hD hS hl => ih h hP hD hS hl) h hP hD hS hl
set_option maxHeartbeats 4000000 in
set_option maxRecDepth 100000 in
theorem t_T_makeNamed_0 {p : Program} {l : Launch} {e : Env} {s : State} {m : MethodId} {args : Array Value} {below : List Frame} {meth : Method} {c : Code} {D : va_G} {cI cZ : ClassId} {a : Nat → Nat} {A : Nat → Prop} (C0 : Am p s m args meth c b_T_makeNamed (some .int) 4 R_T D [(cI, .int), (cZ, .boolean)]) (hA : ∀ q, s.heap.size ≤ q → A q) {res : Int32 × StT}   {q : Nat} {σ : StT} {x1 x2 : Int32} (h : f_T_makeNamed σ x1 x2 = some res) {H : Heap} {locs : List Loc} (hP : va_P D vwCl (wT cI cZ a q σ) H) (hD : va_D A (wT cI cZ a q σ)) (hS : va_S A s.heap H locs) {ls : Array Slot} (hl : lv_has ls 4 [(0, .ref (a 10)), (1, .int x1), (2, .int x2)]) : W p l e (rmK 2 42 0 0) s m args below meth c H locs 0 0 (RwQ below args s D A (fun q (σ : StT) => (wT cI cZ a q σ)) res 0 0) (F0 m 0 ls []) := by
  obtain ⟨hx, hb, hr, hml, hown, hts, hlk, hK⟩ := id C0
  unfold f_T_makeNamed at h
  refine lv_iload_n hx hb d_T_makeNamed_0 rfl (lv_at hl 2 rfl) ?_
  refine lv_if_ge (tgt := 6) hx hb d_T_makeNamed_1 (by decide) (fun hc => ?_) (fun hc => ?_)
  · rw [if_pos hc] at h
    refine lv_iconst (v := 0) hx hb d_T_makeNamed_6 (by decide) ?_
    refine lv_istore_n (lv' := [(3, .int 0), (0, .ref (a 10)), (1, .int x1), (2, .int x2)]) hx hb d_T_makeNamed_7 rfl hl (by decide) rfl (fun ls hl => ?_)
    exact t_T_makeNamed_8 (a := a) C0 hA  h hP hD hS (lv_sub hl [1, 2, 3, 0] rfl)
  · rw [if_neg hc] at h
    refine lv_iconst (v := (-1)) hx hb d_T_makeNamed_4 (by decide) ?_
    exact rw_ret C0 hP hD hS (Option.some.inj h) d_T_makeNamed_5
set_option maxHeartbeats 4000000 in
set_option maxRecDepth 100000 in
theorem c_T_makeNamed (l : Launch) (D : va_G) (cI cZ : ClassId) (a : Nat → Nat) (q : Nat) (σ : StT) (x1 : Int32) (x2 : Int32) {res : Int32 × StT} (h : f_T_makeNamed σ x1 x2 = some res) : RwM l y_T_makeNamed b_T_makeNamed 4 (some .int) 2 42 D [(cI, .int), (cZ, .boolean)] [.ref (a 10), .int x1, .int x2] (fun q (σ : StT) => (wT cI cZ a q σ)) q σ res :=
  rw_of (by decide) (Nat.le_of_ble_eq_true rfl) (fun p e s m args below meth c ls A C0 hA hP hD hS hl => t_T_makeNamed_0 (a := a) C0 hA h hP hD hS (lv_sub hl [0, 1, 2] rfl))
