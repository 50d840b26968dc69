-- part 07.3T.lean.txt
def f_T_append (σ : StT) (x1 x2 : Int32) : Option (Int32 × StT) :=
  if 300 ≤ (T_count σ) then
    some ((-1), σ)
  else
    if x2 ≤ 100 then
      if (T_count σ) < 0 ∨ 300 ≤ (T_count σ).toNatClampNeg then none else
      if (T_count σ) < 0 ∨ 300 ≤ (T_count σ).toNatClampNeg then none else
      if (T_count σ) < 0 ∨ 300 ≤ (T_count σ).toNatClampNeg then none else
      if (T_count σ) < 0 ∨ 300 ≤ (T_count σ).toNatClampNeg then none else
      if (T_count σ) < 0 ∨ 300 ≤ (T_count σ).toNatClampNeg then none else
      if (T_count σ) < 0 ∨ 300 ≤ (T_count σ).toNatClampNeg then none else
      if (T_count σ) < 0 ∨ 300 ≤ (T_count σ).toNatClampNeg then none else
      some ((T_count σ), (T_put_partCounts (T_put_partStarts (T_put_sizes (T_put_elements (T_put_arguments (T_put_named (T_put_kinds (T_set_count σ ((T_count σ) + 1)) (T_count σ) x1) (T_count σ) (-1)) (T_count σ) 0) (T_count σ) (-1)) (T_count σ) x2) (T_count σ) 0) (T_count σ) 0))
    else
      some ((-1), σ)
set_option maxHeartbeats 4000000 in
set_option maxRecDepth 100000 in
theorem t_T_append_0 {p : Program} {l : Launch} {e : Env} {s : State} {m : MethodId} {args : Array Value} {below : List Frame} {meth : Method} {c : Code} {D : va_G} {cI cZ : ClassId} {a : Nat → Nat} {A : Nat → Prop} (C0 : Am p s m args meth c b_T_append (some .int) 4 R_T D [(cI, .int), (cZ, .boolean)]) (hA : ∀ q, s.heap.size ≤ q → A q) {res : Int32 × StT}   {q : Nat} {σ : StT} {x1 x2 : Int32} (h : f_T_append σ x1 x2 = some res) {H : Heap} {locs : List Loc} (hP : va_P D vwCl (wT cI cZ a q σ) H) (hD : va_D A (wT cI cZ a q σ)) (hS : va_S A s.heap H locs) {ls : Array Slot} (hl : lv_has ls 4 [(0, .ref (a 10)), (1, .int x1), (2, .int x2)]) : W p l e (rmK 0 0 0 0) s m args below meth c H locs 0 0 (RwQ below args s D A (fun q (σ : StT) => (wT cI cZ a q σ)) res 0 0) (F0 m 0 ls []) := by
  obtain ⟨hx, hb, hr, hml, hown, hts, hlk, hK⟩ := id C0
  unfold f_T_append at h
  refine lv_aload_n hx hb d_T_append_0 rfl (lv_at hl 0 rfl) ?_
  refine va_get (ci := 2) (v := .int (T_count σ)) (C := R_T) (T := F_T) (N := 12) hx hb hts i_T hown hK.1 hP 0 rfl rfl 9 (by decide) (hts _ wd_40) (fun _ h9 => h9) rfl d_T_append_1 ?_
  refine lv_sipush (v := 300) hx hb d_T_append_4 (by decide) ?_
  refine lv_icmp_ge (tgt := 16) hx hb d_T_append_7 (by decide) (fun hc => ?_) (fun hc => ?_)
  · rw [if_pos hc] at h
    refine lv_iconst (v := (-1)) hx hb d_T_append_16 (by decide) ?_
    exact rw_ret C0 hP hD hS (Option.some.inj h) d_T_append_17
  · rw [if_neg hc] at h
    refine lv_iload_n hx hb d_T_append_10 rfl (lv_at hl 2 rfl) ?_
    refine lv_bipush (v := 100) hx hb d_T_append_11 (by decide) ?_
    refine lv_icmp_le (tgt := 18) hx hb d_T_append_13 (by decide) (fun hc => ?_) (fun hc => ?_)
    · rw [if_pos hc] at h
      refine lv_aload_n hx hb d_T_append_18 rfl (lv_at hl 0 rfl) ?_
      refine va_get (ci := 2) (v := .int (T_count σ)) (C := R_T) (T := F_T) (N := 12) hx hb hts i_T hown hK.1 hP 0 rfl rfl 9 (by decide) (hts _ wd_40) (fun _ h9 => h9) rfl d_T_append_19 ?_
      refine lv_istore_n (lv' := [(3, .int (T_count σ)), (0, .ref (a 10)), (1, .int x1), (2, .int x2)]) hx hb d_T_append_22 rfl hl (by decide) rfl (fun ls hl => ?_)
      refine lv_aload_n hx hb d_T_append_23 rfl (lv_at hl 1 rfl) ?_
      refine lv_dup hx hb d_T_append_24 rfl ?_
      refine va_get (ci := 2) (v := .int (T_count σ)) (C := R_T) (T := F_T) (N := 12) hx hb hts i_T hown hK.1 hP 0 rfl rfl 9 (by decide) (hts _ wd_40) (fun _ h9 => h9) rfl d_T_append_25 ?_
      refine lv_iconst (v := 1) hx hb d_T_append_28 (by decide) ?_
      refine lv_iadd hx hb d_T_append_29 ?_
      refine rw_put (v := .int ((T_count σ) + 1)) (fty := .int) (C := R_T) (T := F_T) (N := 12) C0 hP hD hS i_T ty_T tyok_T nn_T 0 rfl rfl 9 (by decide) (hts _ wd_40) rfl rfl (by decide +kernel) rfl rfl (Nat.le_of_ble_eq_true rfl) d_T_append_30 (Wn := (wT cI cZ a q (T_set_count σ ((T_count σ) + 1)))) ws_T_set_count (fun H locs hP hD hS => ?_)
      refine lv_aload_n hx hb d_T_append_33 rfl (lv_at hl 1 rfl) ?_
      refine va_get (ci := 2) (v := .ref (a 11)) (C := R_T) (T := F_T) (N := 12) hx hb hts i_T hown hK.1 hP 0 rfl rfl 0 (by decide) (hts _ wd_41) (fun _ h9 => h9) rfl d_T_append_34 ?_
      refine lv_iload_n hx hb d_T_append_37 rfl (lv_at hl 0 rfl) ?_
      refine lv_iload_n hx hb d_T_append_38 rfl (lv_at hl 2 rfl) ?_
      replace h := gd h
      obtain ⟨hi, h⟩ := h
      refine rw_iast C0 hP hD hS 1 0 rfl rfl hi d_T_append_39 (Wn := (wT cI cZ a q (T_put_kinds (T_set_count σ ((T_count σ) + 1)) (T_count σ) x1))) ws_T_put_kinds (fun H locs hP hD hS => ?_)
      refine lv_aload_n hx hb d_T_append_40 rfl (lv_at hl 1 rfl) ?_
      refine va_get (ci := 2) (v := .ref (a 12)) (C := R_T) (T := F_T) (N := 12) hx hb hts i_T hown hK.1 hP 0 rfl rfl 1 (by decide) (hts _ wd_42) (fun _ h9 => h9) rfl d_T_append_41 ?_
      refine lv_iload_n hx hb d_T_append_44 rfl (lv_at hl 0 rfl) ?_
      refine lv_iconst (v := (-1)) hx hb d_T_append_45 (by decide) ?_
      replace h := gd h
      obtain ⟨hi, h⟩ := h
      refine rw_iast C0 hP hD hS 2 0 rfl rfl hi d_T_append_46 (Wn := (wT cI cZ a q (T_put_named (T_put_kinds (T_set_count σ ((T_count σ) + 1)) (T_count σ) x1) (T_count σ) (-1)))) ws_T_put_named (fun H locs hP hD hS => ?_)
      refine lv_aload_n hx hb d_T_append_47 rfl (lv_at hl 1 rfl) ?_
      refine va_get (ci := 2) (v := .ref (a 13)) (C := R_T) (T := F_T) (N := 12) hx hb hts i_T hown hK.1 hP 0 rfl rfl 2 (by decide) (hts _ wd_43) (fun _ h9 => h9) rfl d_T_append_48 ?_
      refine lv_iload_n hx hb d_T_append_51 rfl (lv_at hl 0 rfl) ?_
      refine lv_iconst (v := 0) hx hb d_T_append_52 (by decide) ?_
      replace h := gd h
      obtain ⟨hi, h⟩ := h
      refine rw_iast C0 hP hD hS 3 0 rfl rfl hi d_T_append_53 (Wn := (wT cI cZ a q (T_put_arguments (T_put_named (T_put_kinds (T_set_count σ ((T_count σ) + 1)) (T_count σ) x1) (T_count σ) (-1)) (T_count σ) 0))) ws_T_put_arguments (fun H locs hP hD hS => ?_)
      refine lv_aload_n hx hb d_T_append_54 rfl (lv_at hl 1 rfl) ?_
      refine va_get (ci := 2) (v := .ref (a 14)) (C := R_T) (T := F_T) (N := 12) hx hb hts i_T hown hK.1 hP 0 rfl rfl 3 (by decide) (hts _ wd_44) (fun _ h9 => h9) rfl d_T_append_55 ?_
      refine lv_iload_n hx hb d_T_append_58 rfl (lv_at hl 0 rfl) ?_
      refine lv_iconst (v := (-1)) hx hb d_T_append_59 (by decide) ?_
      replace h := gd h
      obtain ⟨hi, h⟩ := h
      refine rw_iast C0 hP hD hS 4 0 rfl rfl hi d_T_append_60 (Wn := (wT cI cZ a q (T_put_elements (T_put_arguments (T_put_named (T_put_kinds (T_set_count σ ((T_count σ) + 1)) (T_count σ) x1) (T_count σ) (-1)) (T_count σ) 0) (T_count σ) (-1)))) ws_T_put_elements (fun H locs hP hD hS => ?_)
      refine lv_aload_n hx hb d_T_append_61 rfl (lv_at hl 1 rfl) ?_
      refine va_get (ci := 2) (v := .ref (a 15)) (C := R_T) (T := F_T) (N := 12) hx hb hts i_T hown hK.1 hP 0 rfl rfl 4 (by decide) (hts _ wd_45) (fun _ h9 => h9) rfl d_T_append_62 ?_
      refine lv_iload_n hx hb d_T_append_65 rfl (lv_at hl 0 rfl) ?_
      refine lv_iload_n hx hb d_T_append_66 rfl (lv_at hl 3 rfl) ?_
      replace h := gd h
      obtain ⟨hi, h⟩ := h
      refine rw_iast C0 hP hD hS 5 0 rfl rfl hi d_T_append_67 (Wn := (wT cI cZ a q (T_put_sizes (T_put_elements (T_put_arguments (T_put_named (T_put_kinds (T_set_count σ ((T_count σ) + 1)) (T_count σ) x1) (T_count σ) (-1)) (T_count σ) 0) (T_count σ) (-1)) (T_count σ) x2))) ws_T_put_sizes (fun H locs hP hD hS => ?_)
      refine lv_aload_n hx hb d_T_append_68 rfl (lv_at hl 1 rfl) ?_
      refine va_get (ci := 2) (v := .ref (a 16)) (C := R_T) (T := F_T) (N := 12) hx hb hts i_T hown hK.1 hP 0 rfl rfl 5 (by decide) (hts _ wd_46) (fun _ h9 => h9) rfl d_T_append_69 ?_
      refine lv_iload_n hx hb d_T_append_72 rfl (lv_at hl 0 rfl) ?_
      refine lv_iconst (v := 0) hx hb d_T_append_73 (by decide) ?_
      replace h := gd h
      obtain ⟨hi, h⟩ := h
      refine rw_iast C0 hP hD hS 6 0 rfl rfl hi d_T_append_74 (Wn := (wT cI cZ a q (T_put_partStarts (T_put_sizes (T_put_elements (T_put_arguments (T_put_named (T_put_kinds (T_set_count σ ((T_count σ) + 1)) (T_count σ) x1) (T_count σ) (-1)) (T_count σ) 0) (T_count σ) (-1)) (T_count σ) x2) (T_count σ) 0))) ws_T_put_partStarts (fun H locs hP hD hS => ?_)
      refine lv_aload_n hx hb d_T_append_75 rfl (lv_at hl 1 rfl) ?_
      refine va_get (ci := 2) (v := .ref (a 17)) (C := R_T) (T := F_T) (N := 12) hx hb hts i_T hown hK.1 hP 0 rfl rfl 6 (by decide) (hts _ wd_47) (fun _ h9 => h9) rfl d_T_append_76 ?_
      refine lv_iload_n hx hb d_T_append_79 rfl (lv_at hl 0 rfl) ?_
      refine lv_iconst (v := 0) hx hb d_T_append_80 (by decide) ?_
      replace h := gd h
      obtain ⟨hi, h⟩ := h
      refine rw_iast C0 hP hD hS 7 0 rfl rfl hi d_T_append_81 (Wn := (wT cI cZ a q (T_put_partCounts (T_put_partStarts (T_put_sizes (T_put_elements (T_put_arguments (T_put_named (T_put_kinds (T_set_count σ ((T_count σ) + 1)) (T_count σ) x1) (T_count σ) (-1)) (T_count σ) 0) (T_count σ) (-1)) (T_count σ) x2) (T_count σ) 0) (T_count σ) 0))) ws_T_put_partCounts (fun H locs hP hD hS => ?_)
      refine lv_iload_n hx hb d_T_append_82 rfl (lv_at hl 0 rfl) ?_
      exact rw_ret C0 hP hD hS (Option.some.inj h) d_T_append_83
    · rw [if_neg hc] at h
      refine lv_iconst (v := (-1)) hx hb d_T_append_16 (by decide) ?_
      exact rw_ret C0 hP hD hS (Option.some.inj h) d_T_append_17
set_option maxHeartbeats 4000000 in
set_option maxRecDepth 100000 in
theorem c_T_append (l : Launch) (D : va_G) (cI cZ : ClassId) (a : Nat → Nat) (q : Nat) (σ : StT) (x1 : Int32) (x2 : Int32) {res : Int32 × StT} (h : f_T_append σ x1 x2 = some res) : RwM l y_T_append b_T_append 4 (some .int) 0 0 D [(cI, .int), (cZ, .boolean)] [.ref (a 10), .int x1, .int x2] (fun q (σ : StT) => (wT cI cZ a q σ)) q σ res :=
  rw_of (by decide) (Nat.le_of_ble_eq_true rfl) (fun p e s m args below meth c ls A C0 hA hP hD hS hl => t_T_append_0 (a := a) C0 hA h hP hD hS (lv_sub hl [0, 1, 2] rfl))
def f_T_isThere (σ : StT) (x1 : Int32) : Int32 :=
  if x1 < 0 then
    0
  else
    if (T_count σ) ≤ x1 then
      0
    else
      1
set_option maxHeartbeats 4000000 in
set_option maxRecDepth 100000 in
theorem t_T_isThere_0 {p : Program} {l : Launch} {e : Env} {s : State} {m : MethodId} {args : Array Value} {below : List Frame} {meth : Method} {c : Code} {D : va_G} {cI cZ : ClassId} {a : Nat → Nat} {q : Nat} {σ : StT} (C0 : Am p s m args meth c b_T_isThere (some .boolean) 2 R_T D [(cI, .int), (cZ, .boolean)]) (hP : va_P D vwCl (wT cI cZ a q σ) s.heap) {val : Int32}   {x1 : Int32} (h : f_T_isThere σ x1 = val) {ls : Array Slot} (hl : lv_has ls 2 [(0, .ref (a 10)), (1, .int x1)]) : RoW p l e (rmK 0 0 0 0) s m args below meth c val (F0 m 0 ls []) := by
  obtain ⟨hx, hb, hr, hml, hown, hts, hlk, hK⟩ := id C0
  unfold f_T_isThere at h
  refine lv_iload_n hx hb d_T_isThere_0 rfl (lv_at hl 1 rfl) ?_
  refine lv_if_lt (tgt := 16) hx hb d_T_isThere_1 (by decide) (fun hc => ?_) (fun hc => ?_)
  · rw [if_pos hc] at h
    refine lv_iconst (v := 0) hx hb d_T_isThere_16 (by decide) ?_
    exact ro_retz C0 (by decide) h d_T_isThere_17
  · rw [if_neg hc] at h
    refine lv_iload_n hx hb d_T_isThere_4 rfl (lv_at hl 1 rfl) ?_
    refine lv_aload_n hx hb d_T_isThere_5 rfl (lv_at hl 0 rfl) ?_
    refine va_get (ci := 2) (v := .int (T_count σ)) (C := R_T) (T := F_T) (N := 12) hx hb hts i_T hown hK.1 hP 0 rfl rfl 9 (by decide) (hts _ wd_40) (fun _ h9 => h9) rfl d_T_isThere_6 ?_
    refine lv_icmp_ge (tgt := 16) hx hb d_T_isThere_9 (by decide) (fun hc => ?_) (fun hc => ?_)
    · rw [if_pos hc] at h
      refine lv_iconst (v := 0) hx hb d_T_isThere_16 (by decide) ?_
      exact ro_retz C0 (by decide) h d_T_isThere_17
    · rw [if_neg hc] at h
      refine lv_iconst (v := 1) hx hb d_T_isThere_12 (by decide) ?_
      refine lv_goto (tgt := 17) hx hb d_T_isThere_13 (by decide) ?_
      exact ro_retz C0 (by decide) h d_T_isThere_17
set_option maxHeartbeats 4000000 in
set_option maxRecDepth 100000 in
theorem c_T_isThere (l : Launch) (D : va_G) (cI cZ : ClassId) (a : Nat → Nat) (q : Nat) (σ : StT) (x1 : Int32) {val : Int32} (h : f_T_isThere σ x1 = val) : RoM l y_T_isThere b_T_isThere 2 (some .boolean) 0 0 D [(cI, .int), (cZ, .boolean)] [.ref (a 10), .int x1] (wT cI cZ a q σ) val :=
  ro_of (by decide) (Nat.le_of_ble_eq_true rfl) (fun p e s m args below meth c ls C0 hP hl => t_T_isThere_0 (a := a) C0 hP h (lv_sub hl [0, 1] rfl))
def f_T_sizeOf (σ : StT) (x1 : Int32) : Option Int32 :=
  if (f_T_isThere σ x1) = 0 then
    some 0
  else
    if x1 < 0 ∨ 300 ≤ x1.toNatClampNeg then none else
    some ((T_sizes σ) x1.toNatClampNeg)
set_option maxHeartbeats 4000000 in
set_option maxRecDepth 100000 in
theorem t_T_sizeOf_0 {p : Program} {l : Launch} {e : Env} {s : State} {m : MethodId} {args : Array Value} {below : List Frame} {meth : Method} {c : Code} {D : va_G} {cI cZ : ClassId} {a : Nat → Nat} {q : Nat} {σ : StT} (C0 : Am p s m args meth c b_T_sizeOf (some .int) 2 R_T D [(cI, .int), (cZ, .boolean)]) (hP : va_P D vwCl (wT cI cZ a q σ) s.heap) {val : Int32}   {x1 : Int32} (h : f_T_sizeOf σ x1 = some val) {ls : Array Slot} (hl : lv_has ls 2 [(0, .ref (a 10)), (1, .int x1)]) : RoW p l e (rmK 1 21 0 0) s m args below meth c val (F0 m 0 ls []) := by
  obtain ⟨hx, hb, hr, hml, hown, hts, hlk, hK⟩ := id C0
  unfold f_T_sizeOf at h
  refine lv_aload_n hx hb d_T_sizeOf_0 rfl (lv_at hl 0 rfl) ?_
  refine lv_iload_n hx hb d_T_sizeOf_1 rfl (lv_at hl 1 rfl) ?_
  refine ro_V (n := 1) (ci := 2) (As := [.int x1]) (rest := []) C0 (c_T_isThere l D cI cZ a q σ x1 rfl) wd_48 ⟨wd_49, wd_50, wd_51, wd_52⟩ (by decide +kernel) ⟨Nat.le_of_ble_eq_true rfl, Nat.le_of_ble_eq_true rfl⟩ hP rfl rfl rfl hl rfl rfl (Nat.le_of_ble_eq_true rfl) ⟨Nat.zero_le _, Nat.zero_le _⟩ d_T_sizeOf_2 ?_
  refine lv_if_eq (tgt := 17) hx hb d_T_sizeOf_5 (by decide) (fun hc => ?_) (fun hc => ?_)
  · rw [if_pos hc] at h
    refine lv_iconst (v := 0) hx hb d_T_sizeOf_17 (by decide) ?_
    exact ro_ret C0 (Option.some.inj h) d_T_sizeOf_18
  · rw [if_neg hc] at h
    refine lv_aload_n hx hb d_T_sizeOf_8 rfl (lv_at hl 0 rfl) ?_
    refine va_get (ci := 2) (v := .ref (a 15)) (C := R_T) (T := F_T) (N := 12) hx hb hts i_T hown hK.1 hP 0 rfl rfl 4 (by decide) (hts _ wd_45) (fun _ h9 => h9) rfl d_T_sizeOf_9 ?_
    refine lv_iload_n hx hb d_T_sizeOf_12 rfl (lv_at hl 1 rfl) ?_
    replace h := gd h
    obtain ⟨hi, h⟩ := h
    refine va_iald hx hb hK.1 hP 5 0 rfl rfl hi d_T_sizeOf_13 ?_
    refine lv_goto (tgt := 18) hx hb d_T_sizeOf_14 (by decide) ?_
    exact ro_ret C0 (Option.some.inj h) d_T_sizeOf_18
set_option maxHeartbeats 4000000 in
set_option maxRecDepth 100000 in
theorem c_T_sizeOf (l : Launch) (D : va_G) (cI cZ : ClassId) (a : Nat → Nat) (q : Nat) (σ : StT) (x1 : Int32) {val : Int32} (h : f_T_sizeOf σ x1 = some val) : RoM l y_T_sizeOf b_T_sizeOf 2 (some .int) 1 21 D [(cI, .int), (cZ, .boolean)] [.ref (a 10), .int x1] (wT cI cZ a q σ) val :=
  ro_of (by decide) (Nat.le_of_ble_eq_true rfl) (fun p e s m args below meth c ls C0 hP hl => t_T_sizeOf_0 (a := a) C0 hP h (lv_sub hl [0, 1] rfl))
def f_T_makeNamed_8_s (k8 : StT → Int32 → Int32 → Int32 → Option (Int32 × StT)) (σ : StT) (x1 x2 x3 : Int32) : Option (Int32 × StT) :=
  if (T_count σ) ≤ x3 then
    (f_T_sizeOf σ (f_L_typeOf x2)).bind fun r1 =>
    (f_T_append σ 1 (1 + r1)).bind fun r2 =>
    if r2.1 = (-1) then
      some (r2.1, r2.2)
    else
      if r2.1 < 0 ∨ 300 ≤ r2.1.toNatClampNeg then none else
      if r2.1 < 0 ∨ 300 ≤ r2.1.toNatClampNeg then none else
      if r2.1 < 0 ∨ 300 ≤ r2.1.toNatClampNeg then none else
      some (r2.1, (T_put_partCounts (T_put_arguments (T_put_named r2.2 r2.1 x1) r2.1 x2) r2.1 1))
  else
    if x3 < 0 ∨ 300 ≤ x3.toNatClampNeg then none else
    if ((T_kinds σ) x3.toNatClampNeg) = 1 then
      if x3 < 0 ∨ 300 ≤ x3.toNatClampNeg then none else
      if ((T_named σ) x3.toNatClampNeg) = x1 then
        if x3 < 0 ∨ 300 ≤ x3.toNatClampNeg then none else
        if ((T_arguments σ) x3.toNatClampNeg) = x2 then
          some (x3, σ)
        else
          k8 σ x1 x2 (x3 + 1)
      else
        k8 σ x1 x2 (x3 + 1)
    else
      k8 σ x1 x2 (x3 + 1)
def f_T_makeNamed_8 : Nat → StT → Int32 → Int32 → Int32 → Option (Int32 × StT)
  | 0, _, _, _, _ => none
  | n + 1, σ, x1, x2, x3 => f_T_makeNamed_8_s (f_T_makeNamed_8 n) σ x1 x2 x3
def f_T_makeNamed (σ : StT) (x1 x2 : Int32) : Option (Int32 × StT) :=
  if 0 ≤ x2 then
    f_T_makeNamed_8 1000 σ x1 x2 0
  else
    some ((-1), σ)
set_option maxHeartbeats 4000000 in
set_option maxRecDepth 100000 in
theorem t_T_makeNamed_8_s {p : Program} {l : Launch} {e : Env} {s : State} {m : MethodId} {args : Array Value} {below : List Frame} {meth : Method} {c : Code} {D : va_G} {cI cZ : ClassId} {a : Nat → Nat} {A : Nat → Prop} (C0 : Am p s m args meth c b_T_makeNamed (some .int) 4 R_T D [(cI, .int), (cZ, .boolean)]) (hA : ∀ q, s.heap.size ≤ q → A q) {res : Int32 × StT} {k8 : StT → Int32 → Int32 → Int32 → Option (Int32 × StT)}  (hk8 : ∀ (q : Nat) (σ : StT) (x1 x2 x3 : Int32) (H : Heap) (locs : List Loc) (ls : Array Slot), k8 σ x1 x2 x3 = some res → va_P D vwCl (wT cI cZ a q σ) H → va_D A (wT cI cZ a q σ) → va_S A s.heap H locs → lv_has ls 4 [(0, .ref (a 10)), (1, .int x1), (2, .int x2), (3, .int x3)] → W p l e (rmK 2 42 0 0) s m args below meth c H locs 0 0 (RwQ below args s D A (fun q (σ : StT) => (wT cI cZ a q σ)) res 0 0) (F0 m 8 ls [])) {q : Nat} {σ : StT} {x1 x2 x3 : Int32} (h : f_T_makeNamed_8_s k8 σ x1 x2 x3 = some res) {H : Heap} {locs : List Loc} (hP : va_P D vwCl (wT cI cZ a q σ) H) (hD : va_D A (wT cI cZ a q σ)) (hS : va_S A s.heap H locs) {ls : Array Slot} (hl : lv_has ls 4 [(0, .ref (a 10)), (1, .int x1), (2, .int x2), (3, .int x3)]) : W p l e (rmK 2 42 0 0) s m args below meth c H locs 0 0 (RwQ below args s D A (fun q (σ : StT) => (wT cI cZ a q σ)) res 0 0) (F0 m 8 ls []) := by
  obtain ⟨hx, hb, hr, hml, hown, hts, hlk, hK⟩ := id C0
  unfold f_T_makeNamed_8_s at h
  refine lv_iload_n hx hb d_T_makeNamed_8 rfl (lv_at hl 3 rfl) ?_
  refine lv_aload_n hx hb d_T_makeNamed_9 rfl (lv_at hl 0 rfl) ?_
  refine va_get (ci := 2) (v := .int (T_count σ)) (C := R_T) (T := F_T) (N := 12) hx hb hts i_T hown hK.1 hP 0 rfl rfl 9 (by decide) (hts _ wd_40) (fun _ h9 => h9) rfl d_T_makeNamed_10 ?_
  refine lv_icmp_ge (tgt := 54) hx hb d_T_makeNamed_13 (by decide) (fun hc => ?_) (fun hc => ?_)
  · rw [if_pos hc] at h
    refine lv_aload_n hx hb d_T_makeNamed_54 rfl (lv_at hl 0 rfl) ?_
    refine lv_iconst (v := 1) hx hb d_T_makeNamed_55 (by decide) ?_
    refine lv_iconst (v := 1) hx hb d_T_makeNamed_56 (by decide) ?_
    refine lv_aload_n hx hb d_T_makeNamed_57 rfl (lv_at hl 0 rfl) ?_
    refine lv_iload_n hx hb d_T_makeNamed_58 rfl (lv_at hl 2 rfl) ?_
    refine ro_SN (n := 1) (As := [.int x2]) (rest := [.ref (a 10), .int 1, .int 1, .ref (a 10)]) C0 (c_L_typeOf l D cI cZ a x2 rfl) (List.mem_of_getElem? (i := 1) rfl) ⟨wd_53, wd_54, wd_55⟩ (by decide +kernel) ⟨Nat.le_of_ble_eq_true rfl, Nat.le_of_ble_eq_true rfl⟩ pnil hl rfl rfl (Nat.le_of_ble_eq_true rfl) ⟨Nat.zero_le _, Nat.zero_le _⟩ d_T_makeNamed_59 ?_
    replace h := bd h
    obtain ⟨r1, g1, h⟩ := h
    refine ro_V (n := 1) (ci := 2) (As := [.int (f_L_typeOf x2)]) (rest := [.int 1, .int 1, .ref (a 10)]) C0 (c_T_sizeOf l D cI cZ a q σ (f_L_typeOf x2) g1) wd_56 ⟨wd_57, wd_58, wd_59, wd_52⟩ (by decide +kernel) ⟨Nat.le_of_ble_eq_true rfl, Nat.le_of_ble_eq_true rfl⟩ hP rfl rfl rfl hl rfl rfl (Nat.le_of_ble_eq_true rfl) ⟨Nat.zero_le _, Nat.zero_le _⟩ d_T_makeNamed_62 ?_
    try dsimp only at h
    refine lv_iadd hx hb d_T_makeNamed_65 ?_
    replace h := bd h
    obtain ⟨r2, g2, h⟩ := h
    refine rw_V (n := 2) (ci := 2) (As := [.int 1, .int (1 + r1)]) (rest := []) (Wn := fun q => (wT cI cZ a q r2.2)) C0 hA (c_T_append l D cI cZ a q σ 1 (1 + r1) g2) wd_60 ⟨wd_61, wd_62, wd_63, wd_52⟩ (by decide +kernel) ⟨Nat.le_of_ble_eq_true rfl, Nat.le_of_ble_eq_true rfl⟩ hP hD hS [0, 1, 2, 3, 4, 5, 6, 7, 8] [] [0, 1, 2, 3, 4, 5, 6, 7, 8] jn_T__C (by decide) jn_T__R (by decide) (by decide) (by decide) jn_T__W rfl rfl rfl hl rfl rfl (Nat.le_of_ble_eq_true rfl) ⟨Nat.zero_le _, Nat.zero_le _⟩ d_T_makeNamed_66 (fun H locs q hP hD hS => ?_)
    try dsimp only at h
    refine lv_istore_n (lv' := [(3, .int r2.1), (0, .ref (a 10)), (1, .int x1), (2, .int x2)]) hx hb d_T_makeNamed_69 rfl hl (by decide) rfl (fun ls hl => ?_)
    refine lv_iload_n hx hb d_T_makeNamed_70 rfl (lv_at hl 0 rfl) ?_
    refine lv_iconst (v := (-1)) hx hb d_T_makeNamed_71 (by decide) ?_
    refine lv_icmp_eq (tgt := 96) hx hb d_T_makeNamed_72 (by decide) (fun hc => ?_) (fun hc => ?_)
    · rw [if_pos hc] at h
      refine lv_iload_n hx hb d_T_makeNamed_96 rfl (lv_at hl 0 rfl) ?_
      exact rw_ret C0 hP hD hS (Option.some.inj h) d_T_makeNamed_97
    · rw [if_neg hc] at h
      refine lv_aload_n hx hb d_T_makeNamed_75 rfl (lv_at hl 1 rfl) ?_
      refine va_get (ci := 2) (v := .ref (a 12)) (C := R_T) (T := F_T) (N := 12) hx hb hts i_T hown hK.1 hP 0 rfl rfl 1 (by decide) (hts _ wd_42) (fun _ h9 => h9) rfl d_T_makeNamed_76 ?_
      refine lv_iload_n hx hb d_T_makeNamed_79 rfl (lv_at hl 0 rfl) ?_
      refine lv_iload_n hx hb d_T_makeNamed_80 rfl (lv_at hl 2 rfl) ?_
      replace h := gd h
      obtain ⟨hi, h⟩ := h
      refine rw_iast C0 hP hD hS 2 0 rfl rfl hi d_T_makeNamed_81 (Wn := (wT cI cZ a q (T_put_named r2.2 r2.1 x1))) ws_T_put_named (fun H locs hP hD hS => ?_)
      refine lv_aload_n hx hb d_T_makeNamed_82 rfl (lv_at hl 1 rfl) ?_
      refine va_get (ci := 2) (v := .ref (a 13)) (C := R_T) (T := F_T) (N := 12) hx hb hts i_T hown hK.1 hP 0 rfl rfl 2 (by decide) (hts _ wd_43) (fun _ h9 => h9) rfl d_T_makeNamed_83 ?_
      refine lv_iload_n hx hb d_T_makeNamed_86 rfl (lv_at hl 0 rfl) ?_
      refine lv_iload_n hx hb d_T_makeNamed_87 rfl (lv_at hl 3 rfl) ?_
      replace h := gd h
      obtain ⟨hi, h⟩ := h
      refine rw_iast C0 hP hD hS 3 0 rfl rfl hi d_T_makeNamed_88 (Wn := (wT cI cZ a q (T_put_arguments (T_put_named r2.2 r2.1 x1) r2.1 x2))) ws_T_put_arguments (fun H locs hP hD hS => ?_)
      refine lv_aload_n hx hb d_T_makeNamed_89 rfl (lv_at hl 1 rfl) ?_
      refine va_get (ci := 2) (v := .ref (a 17)) (C := R_T) (T := F_T) (N := 12) hx hb hts i_T hown hK.1 hP 0 rfl rfl 6 (by decide) (hts _ wd_47) (fun _ h9 => h9) rfl d_T_makeNamed_90 ?_
      refine lv_iload_n hx hb d_T_makeNamed_93 rfl (lv_at hl 0 rfl) ?_
      refine lv_iconst (v := 1) hx hb d_T_makeNamed_94 (by decide) ?_
      replace h := gd h
      obtain ⟨hi, h⟩ := h
      refine rw_iast C0 hP hD hS 7 0 rfl rfl hi d_T_makeNamed_95 (Wn := (wT cI cZ a q (T_put_partCounts (T_put_arguments (T_put_named r2.2 r2.1 x1) r2.1 x2) r2.1 1))) ws_T_put_partCounts (fun H locs hP hD hS => ?_)
      refine lv_iload_n hx hb d_T_makeNamed_96 rfl (lv_at hl 0 rfl) ?_
      exact rw_ret C0 hP hD hS (Option.some.inj h) d_T_makeNamed_97
  · rw [if_neg hc] at h
    refine lv_aload_n hx hb d_T_makeNamed_16 rfl (lv_at hl 0 rfl) ?_
    refine va_get (ci := 2) (v := .ref (a 11)) (C := R_T) (T := F_T) (N := 12) hx hb hts i_T hown hK.1 hP 0 rfl rfl 0 (by decide) (hts _ wd_41) (fun _ h9 => h9) rfl d_T_makeNamed_17 ?_
    refine lv_iload_n hx hb d_T_makeNamed_20 rfl (lv_at hl 3 rfl) ?_
    replace h := gd h
    obtain ⟨hi, h⟩ := h
    refine va_iald hx hb hK.1 hP 1 0 rfl rfl hi d_T_makeNamed_21 ?_
    refine lv_iconst (v := 1) hx hb d_T_makeNamed_22 (by decide) ?_
    refine lv_icmp_ne (tgt := 48) hx hb d_T_makeNamed_23 (by decide) (fun hc => ?_) (fun hc => ?_)
    · rw [if_neg hc] at h
      refine lv_iinc (v := (x3 + 1)) (lv' := [(3, .int (x3 + 1)), (0, .ref (a 10)), (1, .int x1), (2, .int x2)]) hx hb d_T_makeNamed_48 hl (k := 3) rfl rfl (by decide) rfl (fun ls hl => ?_)
      refine lv_goto (tgt := 8) hx hb d_T_makeNamed_51 (by decide) ?_
      exact hk8 _ _ _ _ _ _ _ _ h hP hD hS (lv_sub hl [1, 2, 3, 0] rfl)
    · rw [if_pos hc] at h
      refine lv_aload_n hx hb d_T_makeNamed_26 rfl (lv_at hl 0 rfl) ?_
      refine va_get (ci := 2) (v := .ref (a 12)) (C := R_T) (T := F_T) (N := 12) hx hb hts i_T hown hK.1 hP 0 rfl rfl 1 (by decide) (hts _ wd_42) (fun _ h9 => h9) rfl d_T_makeNamed_27 ?_
      refine lv_iload_n hx hb d_T_makeNamed_30 rfl (lv_at hl 3 rfl) ?_
      replace h := gd h
      obtain ⟨hi, h⟩ := h
      refine va_iald hx hb hK.1 hP 2 0 rfl rfl hi d_T_makeNamed_31 ?_
      refine lv_iload_n hx hb d_T_makeNamed_32 rfl (lv_at hl 1 rfl) ?_
      refine lv_icmp_ne (tgt := 48) hx hb d_T_makeNamed_33 (by decide) (fun hc => ?_) (fun hc => ?_)
      · rw [if_neg hc] at h
        refine lv_iinc (v := (x3 + 1)) (lv' := [(3, .int (x3 + 1)), (0, .ref (a 10)), (1, .int x1), (2, .int x2)]) hx hb d_T_makeNamed_48 hl (k := 3) rfl rfl (by decide) rfl (fun ls hl => ?_)
        refine lv_goto (tgt := 8) hx hb d_T_makeNamed_51 (by decide) ?_
        exact hk8 _ _ _ _ _ _ _ _ h hP hD hS (lv_sub hl [1, 2, 3, 0] rfl)
      · rw [if_pos hc] at h
        refine lv_aload_n hx hb d_T_makeNamed_36 rfl (lv_at hl 0 rfl) ?_
        refine va_get (ci := 2) (v := .ref (a 13)) (C := R_T) (T := F_T) (N := 12) hx hb hts i_T hown hK.1 hP 0 rfl rfl 2 (by decide) (hts _ wd_43) (fun _ h9 => h9) rfl d_T_makeNamed_37 ?_
        refine lv_iload_n hx hb d_T_makeNamed_40 rfl (lv_at hl 3 rfl) ?_
        replace h := gd h
        obtain ⟨hi, h⟩ := h
        refine va_iald hx hb hK.1 hP 3 0 rfl rfl hi d_T_makeNamed_41 ?_
        refine lv_iload_n hx hb d_T_makeNamed_42 rfl (lv_at hl 2 rfl) ?_
        refine lv_icmp_ne (tgt := 48) hx hb d_T_makeNamed_43 (by decide) (fun hc => ?_) (fun hc => ?_)
        · rw [if_neg hc] at h
          refine lv_iinc (v := (x3 + 1)) (lv' := [(3, .int (x3 + 1)), (0, .ref (a 10)), (1, .int x1), (2, .int x2)]) hx hb d_T_makeNamed_48 hl (k := 3) rfl rfl (by decide) rfl (fun ls hl => ?_)
          refine lv_goto (tgt := 8) hx hb d_T_makeNamed_51 (by decide) ?_
          exact hk8 _ _ _ _ _ _ _ _ h hP hD hS (lv_sub hl [1, 2, 3, 0] rfl)
        · rw [if_pos hc] at h
          refine lv_iload_n hx hb d_T_makeNamed_46 rfl (lv_at hl 3 rfl) ?_
          exact rw_ret C0 hP hD hS (Option.some.inj h) d_T_makeNamed_47
set_option maxHeartbeats 4000000 in
set_option maxRecDepth 100000 in
theorem t_T_makeNamed_8 {p : Program} {l : Launch} {e : Env} {s : State} {m : MethodId} {args : Array Value} {below : List Frame} {meth : Method} {c : Code} {D : va_G} {cI cZ : ClassId} {a : Nat → Nat} {A : Nat → Prop} (C0 : Am p s m args meth c b_T_makeNamed (some .int) 4 R_T D [(cI, .int), (cZ, .boolean)]) (hA : ∀ q, s.heap.size ≤ q → A q) {res : Int32 × StT}  {n : Nat} {q : Nat} {σ : StT} {x1 x2 x3 : Int32} (h : f_T_makeNamed_8  n σ x1 x2 x3 = some res) {H : Heap} {locs : List Loc} (hP : va_P D vwCl (wT cI cZ a q σ) H) (hD : va_D A (wT cI cZ a q σ)) (hS : va_S A s.heap H locs) {ls : Array Slot} (hl : lv_has ls 4 [(0, .ref (a 10)), (1, .int x1), (2, .int x2), (3, .int x3)]) : W p l e (rmK 2 42 0 0) s m args below meth c H locs 0 0 (RwQ below args s D A (fun q (σ : StT) => (wT cI cZ a q σ)) res 0 0) (F0 m 8 ls []) := by
  induction n generalizing q σ x1 x2 x3 H locs ls with
  | zero => cases h
  | succ n ih => exact t_T_makeNamed_8_s (a := a) C0 hA  (fun _ _ _ _ _ _ _ _ h hP hD hS hl => ih h hP hD hS hl) h hP hD hS hl
set_option maxHeartbeats 4000000 in
set_option maxRecDepth 100000 in
theorem t_T_makeNamed_0 {p : Program} {l : Launch} {e : Env} {s : State} {m : MethodId} {args : Array Value} {below : List Frame} {meth : Method} {c : Code} {D : va_G} {cI cZ : ClassId} {a : Nat → Nat} {A : Nat → Prop} (C0 : Am p s m args meth c b_T_makeNamed (some .int) 4 R_T D [(cI, .int), (cZ, .boolean)]) (hA : ∀ q, s.heap.size ≤ q → A q) {res : Int32 × StT}   {q : Nat} {σ : StT} {x1 x2 : Int32} (h : f_T_makeNamed σ x1 x2 = some res) {H : Heap} {locs : List Loc} (hP : va_P D vwCl (wT cI cZ a q σ) H) (hD : va_D A (wT cI cZ a q σ)) (hS : va_S A s.heap H locs) {ls : Array Slot} (hl : lv_has ls 4 [(0, .ref (a 10)), (1, .int x1), (2, .int x2)]) : W p l e (rmK 2 42 0 0) s m args below meth c H locs 0 0 (RwQ below args s D A (fun q (σ : StT) => (wT cI cZ a q σ)) res 0 0) (F0 m 0 ls []) := by
  obtain ⟨hx, hb, hr, hml, hown, hts, hlk, hK⟩ := id C0
  unfold f_T_makeNamed at h
  refine lv_iload_n hx hb d_T_makeNamed_0 rfl (lv_at hl 2 rfl) ?_
  refine lv_if_ge (tgt := 6) hx hb d_T_makeNamed_1 (by decide) (fun hc => ?_) (fun hc => ?_)
  · rw [if_pos hc] at h
    refine lv_iconst (v := 0) hx hb d_T_makeNamed_6 (by decide) ?_
    refine lv_istore_n (lv' := [(3, .int 0), (0, .ref (a 10)), (1, .int x1), (2, .int x2)]) hx hb d_T_makeNamed_7 rfl hl (by decide) rfl (fun ls hl => ?_)
    exact t_T_makeNamed_8 (a := a) C0 hA  h hP hD hS (lv_sub hl [1, 2, 3, 0] rfl)
  · rw [if_neg hc] at h
    refine lv_iconst (v := (-1)) hx hb d_T_makeNamed_4 (by decide) ?_
    exact rw_ret C0 hP hD hS (Option.some.inj h) d_T_makeNamed_5
set_option maxHeartbeats 4000000 in
set_option maxRecDepth 100000 in
theorem c_T_makeNamed (l : Launch) (D : va_G) (cI cZ : ClassId) (a : Nat → Nat) (q : Nat) (σ : StT) (x1 : Int32) (x2 : Int32) {res : Int32 × StT} (h : f_T_makeNamed σ x1 x2 = some res) : RwM l y_T_makeNamed b_T_makeNamed 4 (some .int) 2 42 D [(cI, .int), (cZ, .boolean)] [.ref (a 10), .int x1, .int x2] (fun q (σ : StT) => (wT cI cZ a q σ)) q σ res :=
  rw_of (by decide) (Nat.le_of_ble_eq_true rfl) (fun p e s m args below meth c ls A C0 hA hP hD hS hl => t_T_makeNamed_0 (a := a) C0 hA h hP hD hS (lv_sub hl [0, 1, 2] rfl))
def f_T_settle (σ : StT) : Option (Int32 × StT) :=
  some (0, (T_set_settledParts (T_set_settledCount σ (T_count σ)) (T_partsUsed (T_set_settledCount σ (T_count σ)))))
set_option maxHeartbeats 4000000 in
set_option maxRecDepth 100000 in
theorem t_T_settle_0 {p : Program} {l : Launch} {e : Env} {s : State} {m : MethodId} {args : Array Value} {below : List Frame} {meth : Method} {c : Code} {D : va_G} {cI cZ : ClassId} {a : Nat → Nat} {A : Nat → Prop} (C0 : Am p s m args meth c b_T_settle none 1 R_T D [(cI, .int), (cZ, .boolean)]) (hA : ∀ q, s.heap.size ≤ q → A q) {res : Int32 × StT}   {q : Nat} {σ : StT} (h : f_T_settle σ = some res) {H : Heap} {locs : List Loc} (hP : va_P D vwCl (wT cI cZ a q σ) H) (hD : va_D A (wT cI cZ a q σ)) (hS : va_S A s.heap H locs) {ls : Array Slot} (hl : lv_has ls 1 [(0, .ref (a 10))]) : W p l e (rmK 0 0 0 0) s m args below meth c H locs 0 0 (RwQv below args s D A (fun q (σ : StT) => (wT cI cZ a q σ)) res 0 0) (F0 m 0 ls []) := by
  obtain ⟨hx, hb, hr, hml, hown, hts, hlk, hK⟩ := id C0
  unfold f_T_settle at h
  refine lv_aload_n hx hb d_T_settle_0 rfl (lv_at hl 0 rfl) ?_
  refine lv_aload_n hx hb d_T_settle_1 rfl (lv_at hl 0 rfl) ?_
  refine va_get (ci := 2) (v := .int (T_count σ)) (C := R_T) (T := F_T) (N := 12) hx hb hts i_T hown hK.1 hP 0 rfl rfl 9 (by decide) (hts _ wd_40) (fun _ h9 => h9) rfl d_T_settle_2 ?_
  refine rw_put (v := .int (T_count σ)) (fty := .int) (C := R_T) (T := F_T) (N := 12) C0 hP hD hS i_T ty_T tyok_T nn_T 0 rfl rfl 11 (by decide) (hts _ wd_64) rfl rfl (by decide +kernel) rfl rfl (Nat.le_of_ble_eq_true rfl) d_T_settle_5 (Wn := (wT cI cZ a q (T_set_settledCount σ (T_count σ)))) ws_T_set_settledCount (fun H locs hP hD hS => ?_)
  refine lv_aload_n hx hb d_T_settle_8 rfl (lv_at hl 0 rfl) ?_
  refine lv_aload_n hx hb d_T_settle_9 rfl (lv_at hl 0 rfl) ?_
  refine va_get (ci := 2) (v := .int (T_partsUsed (T_set_settledCount σ (T_count σ)))) (C := R_T) (T := F_T) (N := 12) hx hb hts i_T hown hK.1 hP 0 rfl rfl 8 (by decide) (hts _ wd_65) (fun _ h9 => h9) rfl d_T_settle_10 ?_
  refine rw_put (v := .int (T_partsUsed (T_set_settledCount σ (T_count σ)))) (fty := .int) (C := R_T) (T := F_T) (N := 12) C0 hP hD hS i_T ty_T tyok_T nn_T 0 rfl rfl 10 (by decide) (hts _ wd_66) rfl rfl (by decide +kernel) rfl rfl (Nat.le_of_ble_eq_true rfl) d_T_settle_13 (Wn := (wT cI cZ a q (T_set_settledParts (T_set_settledCount σ (T_count σ)) (T_partsUsed (T_set_settledCount σ (T_count σ)))))) ws_T_set_settledParts (fun H locs hP hD hS => ?_)
  exact rw_retv C0 hP hD hS (Option.some.inj h) d_T_settle_16
set_option maxHeartbeats 4000000 in
set_option maxRecDepth 100000 in
theorem c_T_settle (l : Launch) (D : va_G) (cI cZ : ClassId) (a : Nat → Nat) (q : Nat) (σ : StT) {res : Int32 × StT} (h : f_T_settle σ = some res) : RwMv l y_T_settle b_T_settle 1 0 0 D [(cI, .int), (cZ, .boolean)] [.ref (a 10)] (fun q (σ : StT) => (wT cI cZ a q σ)) q σ res :=
  rw_ofv (by decide) (Nat.le_of_ble_eq_true rfl) (fun p e s m args below meth c ls A C0 hA hP hD hS hl => t_T_settle_0 (a := a) C0 hA h hP hD hS (lv_sub hl [0] rfl))
def f_T_kindOf (σ : StT) (x1 : Int32) : Option Int32 :=
  if (f_T_isThere σ x1) = 0 then
    some (-1)
  else
    if x1 < 0 ∨ 300 ≤ x1.toNatClampNeg then none else
    some ((T_kinds σ) x1.toNatClampNeg)
set_option maxHeartbeats 4000000 in
set_option maxRecDepth 100000 in
theorem t_T_kindOf_0 {p : Program} {l : Launch} {e : Env} {s : State} {m : MethodId} {args : Array Value} {below : List Frame} {meth : Method} {c : Code} {D : va_G} {cI cZ : ClassId} {a : Nat → Nat} {q : Nat} {σ : StT} (C0 : Am p s m args meth c b_T_kindOf (some .int) 2 R_T D [(cI, .int), (cZ, .boolean)]) (hP : va_P D vwCl (wT cI cZ a q σ) s.heap) {val : Int32}   {x1 : Int32} (h : f_T_kindOf σ x1 = some val) {ls : Array Slot} (hl : lv_has ls 2 [(0, .ref (a 10)), (1, .int x1)]) : RoW p l e (rmK 1 21 0 0) s m args below meth c val (F0 m 0 ls []) := by
  obtain ⟨hx, hb, hr, hml, hown, hts, hlk, hK⟩ := id C0
  unfold f_T_kindOf at h
  refine lv_aload_n hx hb d_T_kindOf_0 rfl (lv_at hl 0 rfl) ?_
  refine lv_iload_n hx hb d_T_kindOf_1 rfl (lv_at hl 1 rfl) ?_
  refine ro_V (n := 1) (ci := 2) (As := [.int x1]) (rest := []) C0 (c_T_isThere l D cI cZ a q σ x1 rfl) wd_48 ⟨wd_49, wd_50, wd_51, wd_52⟩ (by decide +kernel) ⟨Nat.le_of_ble_eq_true rfl, Nat.le_of_ble_eq_true rfl⟩ hP rfl rfl rfl hl rfl rfl (Nat.le_of_ble_eq_true rfl) ⟨Nat.zero_le _, Nat.zero_le _⟩ d_T_kindOf_2 ?_
  refine lv_if_eq (tgt := 17) hx hb d_T_kindOf_5 (by decide) (fun hc => ?_) (fun hc => ?_)
  · rw [if_pos hc] at h
    refine lv_iconst (v := (-1)) hx hb d_T_kindOf_17 (by decide) ?_
    exact ro_ret C0 (Option.some.inj h) d_T_kindOf_18
  · rw [if_neg hc] at h
    refine lv_aload_n hx hb d_T_kindOf_8 rfl (lv_at hl 0 rfl) ?_
    refine va_get (ci := 2) (v := .ref (a 11)) (C := R_T) (T := F_T) (N := 12) hx hb hts i_T hown hK.1 hP 0 rfl rfl 0 (by decide) (hts _ wd_41) (fun _ h9 => h9) rfl d_T_kindOf_9 ?_
    refine lv_iload_n hx hb d_T_kindOf_12 rfl (lv_at hl 1 rfl) ?_
    replace h := gd h
    obtain ⟨hi, h⟩ := h
    refine va_iald hx hb hK.1 hP 1 0 rfl rfl hi d_T_kindOf_13 ?_
    refine lv_goto (tgt := 18) hx hb d_T_kindOf_14 (by decide) ?_
    exact ro_ret C0 (Option.some.inj h) d_T_kindOf_18
set_option maxHeartbeats 4000000 in
set_option maxRecDepth 100000 in
theorem c_T_kindOf (l : Launch) (D : va_G) (cI cZ : ClassId) (a : Nat → Nat) (q : Nat) (σ : StT) (x1 : Int32) {val : Int32} (h : f_T_kindOf σ x1 = some val) : RoM l y_T_kindOf b_T_kindOf 2 (some .int) 1 21 D [(cI, .int), (cZ, .boolean)] [.ref (a 10), .int x1] (wT cI cZ a q σ) val :=
  ro_of (by decide) (Nat.le_of_ble_eq_true rfl) (fun p e s m args below meth c ls C0 hP hl => t_T_kindOf_0 (a := a) C0 hP h (lv_sub hl [0, 1] rfl))
def f_T_dropUnsettled (σ : StT) : Option (Int32 × StT) :=
  some (0, (T_set_partsUsed (T_set_count σ (T_settledCount σ)) (T_settledParts (T_set_count σ (T_settledCount σ)))))
set_option maxHeartbeats 4000000 in
set_option maxRecDepth 100000 in
theorem t_T_dropUnsettled_0 {p : Program} {l : Launch} {e : Env} {s : State} {m : MethodId} {args : Array Value} {below : List Frame} {meth : Method} {c : Code} {D : va_G} {cI cZ : ClassId} {a : Nat → Nat} {A : Nat → Prop} (C0 : Am p s m args meth c b_T_dropUnsettled none 1 R_T D [(cI, .int), (cZ, .boolean)]) (hA : ∀ q, s.heap.size ≤ q → A q) {res : Int32 × StT}   {q : Nat} {σ : StT} (h : f_T_dropUnsettled σ = some res) {H : Heap} {locs : List Loc} (hP : va_P D vwCl (wT cI cZ a q σ) H) (hD : va_D A (wT cI cZ a q σ)) (hS : va_S A s.heap H locs) {ls : Array Slot} (hl : lv_has ls 1 [(0, .ref (a 10))]) : W p l e (rmK 0 0 0 0) s m args below meth c H locs 0 0 (RwQv below args s D A (fun q (σ : StT) => (wT cI cZ a q σ)) res 0 0) (F0 m 0 ls []) := by
  obtain ⟨hx, hb, hr, hml, hown, hts, hlk, hK⟩ := id C0
  unfold f_T_dropUnsettled at h
  refine lv_aload_n hx hb d_T_dropUnsettled_0 rfl (lv_at hl 0 rfl) ?_
  refine lv_aload_n hx hb d_T_dropUnsettled_1 rfl (lv_at hl 0 rfl) ?_
  refine va_get (ci := 2) (v := .int (T_settledCount σ)) (C := R_T) (T := F_T) (N := 12) hx hb hts i_T hown hK.1 hP 0 rfl rfl 11 (by decide) (hts _ wd_64) (fun _ h9 => h9) rfl d_T_dropUnsettled_2 ?_
  refine rw_put (v := .int (T_settledCount σ)) (fty := .int) (C := R_T) (T := F_T) (N := 12) C0 hP hD hS i_T ty_T tyok_T nn_T 0 rfl rfl 9 (by decide) (hts _ wd_40) rfl rfl (by decide +kernel) rfl rfl (Nat.le_of_ble_eq_true rfl) d_T_dropUnsettled_5 (Wn := (wT cI cZ a q (T_set_count σ (T_settledCount σ)))) ws_T_set_count (fun H locs hP hD hS => ?_)
  refine lv_aload_n hx hb d_T_dropUnsettled_8 rfl (lv_at hl 0 rfl) ?_
  refine lv_aload_n hx hb d_T_dropUnsettled_9 rfl (lv_at hl 0 rfl) ?_
  refine va_get (ci := 2) (v := .int (T_settledParts (T_set_count σ (T_settledCount σ)))) (C := R_T) (T := F_T) (N := 12) hx hb hts i_T hown hK.1 hP 0 rfl rfl 10 (by decide) (hts _ wd_66) (fun _ h9 => h9) rfl d_T_dropUnsettled_10 ?_
  refine rw_put (v := .int (T_settledParts (T_set_count σ (T_settledCount σ)))) (fty := .int) (C := R_T) (T := F_T) (N := 12) C0 hP hD hS i_T ty_T tyok_T nn_T 0 rfl rfl 8 (by decide) (hts _ wd_65) rfl rfl (by decide +kernel) rfl rfl (Nat.le_of_ble_eq_true rfl) d_T_dropUnsettled_13 (Wn := (wT cI cZ a q (T_set_partsUsed (T_set_count σ (T_settledCount σ)) (T_settledParts (T_set_count σ (T_settledCount σ)))))) ws_T_set_partsUsed (fun H locs hP hD hS => ?_)
  exact rw_retv C0 hP hD hS (Option.some.inj h) d_T_dropUnsettled_16
set_option maxHeartbeats 4000000 in
set_option maxRecDepth 100000 in
theorem c_T_dropUnsettled (l : Launch) (D : va_G) (cI cZ : ClassId) (a : Nat → Nat) (q : Nat) (σ : StT) {res : Int32 × StT} (h : f_T_dropUnsettled σ = some res) : RwMv l y_T_dropUnsettled b_T_dropUnsettled 1 0 0 D [(cI, .int), (cZ, .boolean)] [.ref (a 10)] (fun q (σ : StT) => (wT cI cZ a q σ)) q σ res :=
  rw_ofv (by decide) (Nat.le_of_ble_eq_true rfl) (fun p e s m args below meth c ls A C0 hA hP hD hS hl => t_T_dropUnsettled_0 (a := a) C0 hA h hP hD hS (lv_sub hl [0] rfl))
def f_T_makeArray_2_s (k2 : StT → Int32 → Int32 → Option (Int32 × StT)) (σ : StT) (x1 x2 : Int32) : Option (Int32 × StT) :=
  if (T_count σ) ≤ x2 then
    (f_T_sizeOf σ x1).bind fun r1 =>
    (f_T_append σ 2 (1 + r1)).bind fun r2 =>
    if r2.1 = (-1) then
      some (r2.1, r2.2)
    else
      if r2.1 < 0 ∨ 300 ≤ r2.1.toNatClampNeg then none else
      some (r2.1, (T_put_elements r2.2 r2.1 x1))
  else
    if x2 < 0 ∨ 300 ≤ x2.toNatClampNeg then none else
    if ((T_kinds σ) x2.toNatClampNeg) = 2 then
      if x2 < 0 ∨ 300 ≤ x2.toNatClampNeg then none else
      if ((T_elements σ) x2.toNatClampNeg) = x1 then
        some (x2, σ)
      else
        k2 σ x1 (x2 + 1)
    else
      k2 σ x1 (x2 + 1)
def f_T_makeArray_2 : Nat → StT → Int32 → Int32 → Option (Int32 × StT)
  | 0, _, _, _ => none
  | n + 1, σ, x1, x2 => f_T_makeArray_2_s (f_T_makeArray_2 n) σ x1 x2
def f_T_makeArray (σ : StT) (x1 : Int32) : Option (Int32 × StT) :=
  f_T_makeArray_2 1000 σ x1 0
set_option maxHeartbeats 4000000 in
set_option maxRecDepth 100000 in
theorem t_T_makeArray_2_s {p : Program} {l : Launch} {e : Env} {s : State} {m : MethodId} {args : Array Value} {below : List Frame} {meth : Method} {c : Code} {D : va_G} {cI cZ : ClassId} {a : Nat → Nat} {A : Nat → Prop} (C0 : Am p s m args meth c b_T_makeArray (some .int) 3 R_T D [(cI, .int), (cZ, .boolean)]) (hA : ∀ q, s.heap.size ≤ q → A q) {res : Int32 × StT} {k2 : StT → Int32 → Int32 → Option (Int32 × StT)}  (hk2 : ∀ (q : Nat) (σ : StT) (x1 x2 : Int32) (H : Heap) (locs : List Loc) (ls : Array Slot), k2 σ x1 x2 = some res → va_P D vwCl (wT cI cZ a q σ) H → va_D A (wT cI cZ a q σ) → va_S A s.heap H locs → lv_has ls 3 [(0, .ref (a 10)), (1, .int x1), (2, .int x2)] → W p l e (rmK 2 42 0 0) s m args below meth c H locs 0 0 (RwQ below args s D A (fun q (σ : StT) => (wT cI cZ a q σ)) res 0 0) (F0 m 2 ls [])) {q : Nat} {σ : StT} {x1 x2 : Int32} (h : f_T_makeArray_2_s k2 σ x1 x2 = some res) {H : Heap} {locs : List Loc} (hP : va_P D vwCl (wT cI cZ a q σ) H) (hD : va_D A (wT cI cZ a q σ)) (hS : va_S A s.heap H locs) {ls : Array Slot} (hl : lv_has ls 3 [(0, .ref (a 10)), (1, .int x1), (2, .int x2)]) : W p l e (rmK 2 42 0 0) s m args below meth c H locs 0 0 (RwQ below args s D A (fun q (σ : StT) => (wT cI cZ a q σ)) res 0 0) (F0 m 2 ls []) := by
  obtain ⟨hx, hb, hr, hml, hown, hts, hlk, hK⟩ := id C0
  unfold f_T_makeArray_2_s at h
  refine lv_iload_n hx hb d_T_makeArray_2 rfl (lv_at hl 2 rfl) ?_
  refine lv_aload_n hx hb d_T_makeArray_3 rfl (lv_at hl 0 rfl) ?_
  refine va_get (ci := 2) (v := .int (T_count σ)) (C := R_T) (T := F_T) (N := 12) hx hb hts i_T hown hK.1 hP 0 rfl rfl 9 (by decide) (hts _ wd_40) (fun _ h9 => h9) rfl d_T_makeArray_4 ?_
  refine lv_icmp_ge (tgt := 38) hx hb d_T_makeArray_7 (by decide) (fun hc => ?_) (fun hc => ?_)
  · rw [if_pos hc] at h
    refine lv_aload_n hx hb d_T_makeArray_38 rfl (lv_at hl 0 rfl) ?_
    refine lv_iconst (v := 2) hx hb d_T_makeArray_39 (by decide) ?_
    refine lv_iconst (v := 1) hx hb d_T_makeArray_40 (by decide) ?_
    refine lv_aload_n hx hb d_T_makeArray_41 rfl (lv_at hl 0 rfl) ?_
    refine lv_iload_n hx hb d_T_makeArray_42 rfl (lv_at hl 1 rfl) ?_
    replace h := bd h
    obtain ⟨r1, g1, h⟩ := h
    refine ro_V (n := 1) (ci := 2) (As := [.int x1]) (rest := [.int 1, .int 2, .ref (a 10)]) C0 (c_T_sizeOf l D cI cZ a q σ x1 g1) wd_56 ⟨wd_57, wd_58, wd_59, wd_52⟩ (by decide +kernel) ⟨Nat.le_of_ble_eq_true rfl, Nat.le_of_ble_eq_true rfl⟩ hP rfl rfl rfl hl rfl rfl (Nat.le_of_ble_eq_true rfl) ⟨Nat.zero_le _, Nat.zero_le _⟩ d_T_makeArray_43 ?_
    try dsimp only at h
    refine lv_iadd hx hb d_T_makeArray_46 ?_
    replace h := bd h
    obtain ⟨r2, g2, h⟩ := h
    refine rw_V (n := 2) (ci := 2) (As := [.int 2, .int (1 + r1)]) (rest := []) (Wn := fun q => (wT cI cZ a q r2.2)) C0 hA (c_T_append l D cI cZ a q σ 2 (1 + r1) g2) wd_60 ⟨wd_61, wd_62, wd_63, wd_52⟩ (by decide +kernel) ⟨Nat.le_of_ble_eq_true rfl, Nat.le_of_ble_eq_true rfl⟩ hP hD hS [0, 1, 2, 3, 4, 5, 6, 7, 8] [] [0, 1, 2, 3, 4, 5, 6, 7, 8] jn_T__C (by decide) jn_T__R (by decide) (by decide) (by decide) jn_T__W rfl rfl rfl hl rfl rfl (Nat.le_of_ble_eq_true rfl) ⟨Nat.zero_le _, Nat.zero_le _⟩ d_T_makeArray_47 (fun H locs q hP hD hS => ?_)
    try dsimp only at h
    refine lv_istore_n (lv' := [(2, .int r2.1), (0, .ref (a 10)), (1, .int x1)]) hx hb d_T_makeArray_50 rfl hl (by decide) rfl (fun ls hl => ?_)
    refine lv_iload_n hx hb d_T_makeArray_51 rfl (lv_at hl 0 rfl) ?_
    refine lv_iconst (v := (-1)) hx hb d_T_makeArray_52 (by decide) ?_
    refine lv_icmp_eq (tgt := 63) hx hb d_T_makeArray_53 (by decide) (fun hc => ?_) (fun hc => ?_)
    · rw [if_pos hc] at h
      refine lv_iload_n hx hb d_T_makeArray_63 rfl (lv_at hl 0 rfl) ?_
      exact rw_ret C0 hP hD hS (Option.some.inj h) d_T_makeArray_64
    · rw [if_neg hc] at h
      refine lv_aload_n hx hb d_T_makeArray_56 rfl (lv_at hl 1 rfl) ?_
      refine va_get (ci := 2) (v := .ref (a 14)) (C := R_T) (T := F_T) (N := 12) hx hb hts i_T hown hK.1 hP 0 rfl rfl 3 (by decide) (hts _ wd_44) (fun _ h9 => h9) rfl d_T_makeArray_57 ?_
      refine lv_iload_n hx hb d_T_makeArray_60 rfl (lv_at hl 0 rfl) ?_
      refine lv_iload_n hx hb d_T_makeArray_61 rfl (lv_at hl 2 rfl) ?_
      replace h := gd h
      obtain ⟨hi, h⟩ := h
      refine rw_iast C0 hP hD hS 4 0 rfl rfl hi d_T_makeArray_62 (Wn := (wT cI cZ a q (T_put_elements r2.2 r2.1 x1))) ws_T_put_elements (fun H locs hP hD hS => ?_)
      refine lv_iload_n hx hb d_T_makeArray_63 rfl (lv_at hl 0 rfl) ?_
      exact rw_ret C0 hP hD hS (Option.some.inj h) d_T_makeArray_64
  · rw [if_neg hc] at h
    refine lv_aload_n hx hb d_T_makeArray_10 rfl (lv_at hl 0 rfl) ?_
    refine va_get (ci := 2) (v := .ref (a 11)) (C := R_T) (T := F_T) (N := 12) hx hb hts i_T hown hK.1 hP 0 rfl rfl 0 (by decide) (hts _ wd_41) (fun _ h9 => h9) rfl d_T_makeArray_11 ?_
    refine lv_iload_n hx hb d_T_makeArray_14 rfl (lv_at hl 2 rfl) ?_
    replace h := gd h
    obtain ⟨hi, h⟩ := h
    refine va_iald hx hb hK.1 hP 1 0 rfl rfl hi d_T_makeArray_15 ?_
    refine lv_iconst (v := 2) hx hb d_T_makeArray_16 (by decide) ?_
    refine lv_icmp_ne (tgt := 32) hx hb d_T_makeArray_17 (by decide) (fun hc => ?_) (fun hc => ?_)
    · rw [if_neg hc] at h
      refine lv_iinc (v := (x2 + 1)) (lv' := [(2, .int (x2 + 1)), (0, .ref (a 10)), (1, .int x1)]) hx hb d_T_makeArray_32 hl (k := 2) rfl rfl (by decide) rfl (fun ls hl => ?_)
      refine lv_goto (tgt := 2) hx hb d_T_makeArray_35 (by decide) ?_
      exact hk2 _ _ _ _ _ _ _ h hP hD hS (lv_sub hl [1, 2, 0] rfl)
    · rw [if_pos hc] at h
      refine lv_aload_n hx hb d_T_makeArray_20 rfl (lv_at hl 0 rfl) ?_
      refine va_get (ci := 2) (v := .ref (a 14)) (C := R_T) (T := F_T) (N := 12) hx hb hts i_T hown hK.1 hP 0 rfl rfl 3 (by decide) (hts _ wd_44) (fun _ h9 => h9) rfl d_T_makeArray_21 ?_
      refine lv_iload_n hx hb d_T_makeArray_24 rfl (lv_at hl 2 rfl) ?_
      replace h := gd h
      obtain ⟨hi, h⟩ := h
      refine va_iald hx hb hK.1 hP 4 0 rfl rfl hi d_T_makeArray_25 ?_
      refine lv_iload_n hx hb d_T_makeArray_26 rfl (lv_at hl 1 rfl) ?_
      refine lv_icmp_ne (tgt := 32) hx hb d_T_makeArray_27 (by decide) (fun hc => ?_) (fun hc => ?_)
      · rw [if_neg hc] at h
        refine lv_iinc (v := (x2 + 1)) (lv' := [(2, .int (x2 + 1)), (0, .ref (a 10)), (1, .int x1)]) hx hb d_T_makeArray_32 hl (k := 2) rfl rfl (by decide) rfl (fun ls hl => ?_)
        refine lv_goto (tgt := 2) hx hb d_T_makeArray_35 (by decide) ?_
        exact hk2 _ _ _ _ _ _ _ h hP hD hS (lv_sub hl [1, 2, 0] rfl)
      · rw [if_pos hc] at h
        refine lv_iload_n hx hb d_T_makeArray_30 rfl (lv_at hl 2 rfl) ?_
        exact rw_ret C0 hP hD hS (Option.some.inj h) d_T_makeArray_31
set_option maxHeartbeats 4000000 in
set_option maxRecDepth 100000 in
theorem t_T_makeArray_2 {p : Program} {l : Launch} {e : Env} {s : State} {m : MethodId} {args : Array Value} {below : List Frame} {meth : Method} {c : Code} {D : va_G} {cI cZ : ClassId} {a : Nat → Nat} {A : Nat → Prop} (C0 : Am p s m args meth c b_T_makeArray (some .int) 3 R_T D [(cI, .int), (cZ, .boolean)]) (hA : ∀ q, s.heap.size ≤ q → A q) {res : Int32 × StT}  {n : Nat} {q : Nat} {σ : StT} {x1 x2 : Int32} (h : f_T_makeArray_2  n σ x1 x2 = some res) {H : Heap} {locs : List Loc} (hP : va_P D vwCl (wT cI cZ a q σ) H) (hD : va_D A (wT cI cZ a q σ)) (hS : va_S A s.heap H locs) {ls : Array Slot} (hl : lv_has ls 3 [(0, .ref (a 10)), (1, .int x1), (2, .int x2)]) : W p l e (rmK 2 42 0 0) s m args below meth c H locs 0 0 (RwQ below args s D A (fun q (σ : StT) => (wT cI cZ a q σ)) res 0 0) (F0 m 2 ls []) := by
  induction n generalizing q σ x1 x2 H locs ls with
  | zero => cases h
  | succ n ih => exact t_T_makeArray_2_s (a := a) C0 hA  (fun _ _ _ _ _ _ _ h hP hD hS hl => ih h hP hD hS hl) h hP hD hS hl
set_option maxHeartbeats 4000000 in
set_option maxRecDepth 100000 in
theorem t_T_makeArray_0 {p : Program} {l : Launch} {e : Env} {s : State} {m : MethodId} {args : Array Value} {below : List Frame} {meth : Method} {c : Code} {D : va_G} {cI cZ : ClassId} {a : Nat → Nat} {A : Nat → Prop} (C0 : Am p s m args meth c b_T_makeArray (some .int) 3 R_T D [(cI, .int), (cZ, .boolean)]) (hA : ∀ q, s.heap.size ≤ q → A q) {res : Int32 × StT}   {q : Nat} {σ : StT} {x1 : Int32} (h : f_T_makeArray σ x1 = some res) {H : Heap} {locs : List Loc} (hP : va_P D vwCl (wT cI cZ a q σ) H) (hD : va_D A (wT cI cZ a q σ)) (hS : va_S A s.heap H locs) {ls : Array Slot} (hl : lv_has ls 3 [(0, .ref (a 10)), (1, .int x1)]) : W p l e (rmK 2 42 0 0) s m args below meth c H locs 0 0 (RwQ below args s D A (fun q (σ : StT) => (wT cI cZ a q σ)) res 0 0) (F0 m 0 ls []) := by
  obtain ⟨hx, hb, hr, hml, hown, hts, hlk, hK⟩ := id C0
  unfold f_T_makeArray at h
  refine lv_iconst (v := 0) hx hb d_T_makeArray_0 (by decide) ?_
  refine lv_istore_n (lv' := [(2, .int 0), (0, .ref (a 10)), (1, .int x1)]) hx hb d_T_makeArray_1 rfl hl (by decide) rfl (fun ls hl => ?_)
  exact t_T_makeArray_2 (a := a) C0 hA  h hP hD hS (lv_sub hl [1, 2, 0] rfl)
set_option maxHeartbeats 4000000 in
set_option maxRecDepth 100000 in
theorem c_T_makeArray (l : Launch) (D : va_G) (cI cZ : ClassId) (a : Nat → Nat) (q : Nat) (σ : StT) (x1 : Int32) {res : Int32 × StT} (h : f_T_makeArray σ x1 = some res) : RwM l y_T_makeArray b_T_makeArray 3 (some .int) 2 42 D [(cI, .int), (cZ, .boolean)] [.ref (a 10), .int x1] (fun q (σ : StT) => (wT cI cZ a q σ)) q σ res :=
  rw_of (by decide) (Nat.le_of_ble_eq_true rfl) (fun p e s m args below meth c ls A C0 hA hP hD hS hl => t_T_makeArray_0 (a := a) C0 hA h hP hD hS (lv_sub hl [0, 1] rfl))
def f_T_elementOf (σ : StT) (x1 : Int32) : Option Int32 :=
  if (f_T_isThere σ x1) = 0 then
    some (-1)
  else
    if x1 < 0 ∨ 300 ≤ x1.toNatClampNeg then none else
    some ((T_elements σ) x1.toNatClampNeg)
set_option maxHeartbeats 4000000 in
set_option maxRecDepth 100000 in
theorem t_T_elementOf_0 {p : Program} {l : Launch} {e : Env} {s : State} {m : MethodId} {args : Array Value} {below : List Frame} {meth : Method} {c : Code} {D : va_G} {cI cZ : ClassId} {a : Nat → Nat} {q : Nat} {σ : StT} (C0 : Am p s m args meth c b_T_elementOf (some .int) 2 R_T D [(cI, .int), (cZ, .boolean)]) (hP : va_P D vwCl (wT cI cZ a q σ) s.heap) {val : Int32}   {x1 : Int32} (h : f_T_elementOf σ x1 = some val) {ls : Array Slot} (hl : lv_has ls 2 [(0, .ref (a 10)), (1, .int x1)]) : RoW p l e (rmK 1 21 0 0) s m args below meth c val (F0 m 0 ls []) := by
  obtain ⟨hx, hb, hr, hml, hown, hts, hlk, hK⟩ := id C0
  unfold f_T_elementOf at h
  refine lv_aload_n hx hb d_T_elementOf_0 rfl (lv_at hl 0 rfl) ?_
  refine lv_iload_n hx hb d_T_elementOf_1 rfl (lv_at hl 1 rfl) ?_
  refine ro_V (n := 1) (ci := 2) (As := [.int x1]) (rest := []) C0 (c_T_isThere l D cI cZ a q σ x1 rfl) wd_48 ⟨wd_49, wd_50, wd_51, wd_52⟩ (by decide +kernel) ⟨Nat.le_of_ble_eq_true rfl, Nat.le_of_ble_eq_true rfl⟩ hP rfl rfl rfl hl rfl rfl (Nat.le_of_ble_eq_true rfl) ⟨Nat.zero_le _, Nat.zero_le _⟩ d_T_elementOf_2 ?_
  refine lv_if_eq (tgt := 17) hx hb d_T_elementOf_5 (by decide) (fun hc => ?_) (fun hc => ?_)
  · rw [if_pos hc] at h
    refine lv_iconst (v := (-1)) hx hb d_T_elementOf_17 (by decide) ?_
    exact ro_ret C0 (Option.some.inj h) d_T_elementOf_18
  · rw [if_neg hc] at h
    refine lv_aload_n hx hb d_T_elementOf_8 rfl (lv_at hl 0 rfl) ?_
    refine va_get (ci := 2) (v := .ref (a 14)) (C := R_T) (T := F_T) (N := 12) hx hb hts i_T hown hK.1 hP 0 rfl rfl 3 (by decide) (hts _ wd_44) (fun _ h9 => h9) rfl d_T_elementOf_9 ?_
    refine lv_iload_n hx hb d_T_elementOf_12 rfl (lv_at hl 1 rfl) ?_
    replace h := gd h
    obtain ⟨hi, h⟩ := h
    refine va_iald hx hb hK.1 hP 4 0 rfl rfl hi d_T_elementOf_13 ?_
    refine lv_goto (tgt := 18) hx hb d_T_elementOf_14 (by decide) ?_
    exact ro_ret C0 (Option.some.inj h) d_T_elementOf_18
set_option maxHeartbeats 4000000 in
set_option maxRecDepth 100000 in
theorem c_T_elementOf (l : Launch) (D : va_G) (cI cZ : ClassId) (a : Nat → Nat) (q : Nat) (σ : StT) (x1 : Int32) {val : Int32} (h : f_T_elementOf σ x1 = some val) : RoM l y_T_elementOf b_T_elementOf 2 (some .int) 1 21 D [(cI, .int), (cZ, .boolean)] [.ref (a 10), .int x1] (wT cI cZ a q σ) val :=
  ro_of (by decide) (Nat.le_of_ble_eq_true rfl) (fun p e s m args below meth c ls C0 hP hl => t_T_elementOf_0 (a := a) C0 hP h (lv_sub hl [0, 1] rfl))
def f_T_classOf (σ : StT) (x1 : Int32) : Option Int32 :=
  if (f_T_isThere σ x1) = 0 then
    some (-1)
  else
    if x1 < 0 ∨ 300 ≤ x1.toNatClampNeg then none else
    some ((T_named σ) x1.toNatClampNeg)
set_option maxHeartbeats 4000000 in
set_option maxRecDepth 100000 in
theorem t_T_classOf_0 {p : Program} {l : Launch} {e : Env} {s : State} {m : MethodId} {args : Array Value} {below : List Frame} {meth : Method} {c : Code} {D : va_G} {cI cZ : ClassId} {a : Nat → Nat} {q : Nat} {σ : StT} (C0 : Am p s m args meth c b_T_classOf (some .int) 2 R_T D [(cI, .int), (cZ, .boolean)]) (hP : va_P D vwCl (wT cI cZ a q σ) s.heap) {val : Int32}   {x1 : Int32} (h : f_T_classOf σ x1 = some val) {ls : Array Slot} (hl : lv_has ls 2 [(0, .ref (a 10)), (1, .int x1)]) : RoW p l e (rmK 1 21 0 0) s m args below meth c val (F0 m 0 ls []) := by
  obtain ⟨hx, hb, hr, hml, hown, hts, hlk, hK⟩ := id C0
  unfold f_T_classOf at h
  refine lv_aload_n hx hb d_T_classOf_0 rfl (lv_at hl 0 rfl) ?_
  refine lv_iload_n hx hb d_T_classOf_1 rfl (lv_at hl 1 rfl) ?_
  refine ro_V (n := 1) (ci := 2) (As := [.int x1]) (rest := []) C0 (c_T_isThere l D cI cZ a q σ x1 rfl) wd_48 ⟨wd_49, wd_50, wd_51, wd_52⟩ (by decide +kernel) ⟨Nat.le_of_ble_eq_true rfl, Nat.le_of_ble_eq_true rfl⟩ hP rfl rfl rfl hl rfl rfl (Nat.le_of_ble_eq_true rfl) ⟨Nat.zero_le _, Nat.zero_le _⟩ d_T_classOf_2 ?_
  refine lv_if_eq (tgt := 17) hx hb d_T_classOf_5 (by decide) (fun hc => ?_) (fun hc => ?_)
  · rw [if_pos hc] at h
    refine lv_iconst (v := (-1)) hx hb d_T_classOf_17 (by decide) ?_
    exact ro_ret C0 (Option.some.inj h) d_T_classOf_18
  · rw [if_neg hc] at h
    refine lv_aload_n hx hb d_T_classOf_8 rfl (lv_at hl 0 rfl) ?_
    refine va_get (ci := 2) (v := .ref (a 12)) (C := R_T) (T := F_T) (N := 12) hx hb hts i_T hown hK.1 hP 0 rfl rfl 1 (by decide) (hts _ wd_42) (fun _ h9 => h9) rfl d_T_classOf_9 ?_
    refine lv_iload_n hx hb d_T_classOf_12 rfl (lv_at hl 1 rfl) ?_
    replace h := gd h
    obtain ⟨hi, h⟩ := h
    refine va_iald hx hb hK.1 hP 2 0 rfl rfl hi d_T_classOf_13 ?_
    refine lv_goto (tgt := 18) hx hb d_T_classOf_14 (by decide) ?_
    exact ro_ret C0 (Option.some.inj h) d_T_classOf_18
set_option maxHeartbeats 4000000 in
set_option maxRecDepth 100000 in
theorem c_T_classOf (l : Launch) (D : va_G) (cI cZ : ClassId) (a : Nat → Nat) (q : Nat) (σ : StT) (x1 : Int32) {val : Int32} (h : f_T_classOf σ x1 = some val) : RoM l y_T_classOf b_T_classOf 2 (some .int) 1 21 D [(cI, .int), (cZ, .boolean)] [.ref (a 10), .int x1] (wT cI cZ a q σ) val :=
  ro_of (by decide) (Nat.le_of_ble_eq_true rfl) (fun p e s m args below meth c ls C0 hP hl => t_T_classOf_0 (a := a) C0 hP h (lv_sub hl [0, 1] rfl))
def f_T_countParts (σ : StT) (x1 : Int32) : Option Int32 :=
  if (f_T_isThere σ x1) = 0 then
    some 0
  else
    if x1 < 0 ∨ 300 ≤ x1.toNatClampNeg then none else
    some ((T_partCounts σ) x1.toNatClampNeg)
set_option maxHeartbeats 4000000 in
set_option maxRecDepth 100000 in
theorem t_T_countParts_0 {p : Program} {l : Launch} {e : Env} {s : State} {m : MethodId} {args : Array Value} {below : List Frame} {meth : Method} {c : Code} {D : va_G} {cI cZ : ClassId} {a : Nat → Nat} {q : Nat} {σ : StT} (C0 : Am p s m args meth c b_T_countParts (some .int) 2 R_T D [(cI, .int), (cZ, .boolean)]) (hP : va_P D vwCl (wT cI cZ a q σ) s.heap) {val : Int32}   {x1 : Int32} (h : f_T_countParts σ x1 = some val) {ls : Array Slot} (hl : lv_has ls 2 [(0, .ref (a 10)), (1, .int x1)]) : RoW p l e (rmK 1 21 0 0) s m args below meth c val (F0 m 0 ls []) := by
  obtain ⟨hx, hb, hr, hml, hown, hts, hlk, hK⟩ := id C0
  unfold f_T_countParts at h
  refine lv_aload_n hx hb d_T_countParts_0 rfl (lv_at hl 0 rfl) ?_
  refine lv_iload_n hx hb d_T_countParts_1 rfl (lv_at hl 1 rfl) ?_
  refine ro_V (n := 1) (ci := 2) (As := [.int x1]) (rest := []) C0 (c_T_isThere l D cI cZ a q σ x1 rfl) wd_48 ⟨wd_49, wd_50, wd_51, wd_52⟩ (by decide +kernel) ⟨Nat.le_of_ble_eq_true rfl, Nat.le_of_ble_eq_true rfl⟩ hP rfl rfl rfl hl rfl rfl (Nat.le_of_ble_eq_true rfl) ⟨Nat.zero_le _, Nat.zero_le _⟩ d_T_countParts_2 ?_
  refine lv_if_eq (tgt := 17) hx hb d_T_countParts_5 (by decide) (fun hc => ?_) (fun hc => ?_)
  · rw [if_pos hc] at h
    refine lv_iconst (v := 0) hx hb d_T_countParts_17 (by decide) ?_
    exact ro_ret C0 (Option.some.inj h) d_T_countParts_18
  · rw [if_neg hc] at h
    refine lv_aload_n hx hb d_T_countParts_8 rfl (lv_at hl 0 rfl) ?_
    refine va_get (ci := 2) (v := .ref (a 17)) (C := R_T) (T := F_T) (N := 12) hx hb hts i_T hown hK.1 hP 0 rfl rfl 6 (by decide) (hts _ wd_47) (fun _ h9 => h9) rfl d_T_countParts_9 ?_
    refine lv_iload_n hx hb d_T_countParts_12 rfl (lv_at hl 1 rfl) ?_
    replace h := gd h
    obtain ⟨hi, h⟩ := h
    refine va_iald hx hb hK.1 hP 7 0 rfl rfl hi d_T_countParts_13 ?_
    refine lv_goto (tgt := 18) hx hb d_T_countParts_14 (by decide) ?_
    exact ro_ret C0 (Option.some.inj h) d_T_countParts_18
set_option maxHeartbeats 4000000 in
set_option maxRecDepth 100000 in
theorem c_T_countParts (l : Launch) (D : va_G) (cI cZ : ClassId) (a : Nat → Nat) (q : Nat) (σ : StT) (x1 : Int32) {val : Int32} (h : f_T_countParts σ x1 = some val) : RoM l y_T_countParts b_T_countParts 2 (some .int) 1 21 D [(cI, .int), (cZ, .boolean)] [.ref (a 10), .int x1] (wT cI cZ a q σ) val :=
  ro_of (by decide) (Nat.le_of_ble_eq_true rfl) (fun p e s m args below meth c ls C0 hP hl => t_T_countParts_0 (a := a) C0 hP h (lv_sub hl [0, 1] rfl))
def f_T_partOf (σ : StT) (x1 x2 : Int32) : Option Int32 :=
  if (f_T_isThere σ x1) = 0 then
    some (-1)
  else
    if x2 < 0 then
      some (-1)
    else
      if x1 < 0 ∨ 300 ≤ x1.toNatClampNeg then none else
      if x2 < ((T_partCounts σ) x1.toNatClampNeg) then
        if x1 < 0 ∨ 300 ≤ x1.toNatClampNeg then none else
        if ((T_kinds σ) x1.toNatClampNeg) = 1 then
          some x1
        else
          if x1 < 0 ∨ 300 ≤ x1.toNatClampNeg then none else
          if (((T_partStarts σ) x1.toNatClampNeg) + x2) < 0 then
            some (-1)
          else
            if (T_partsUsed σ) ≤ (((T_partStarts σ) x1.toNatClampNeg) + x2) then
              some (-1)
            else
              if (Int32.ofNat (T_parts σ).1) ≤ (((T_partStarts σ) x1.toNatClampNeg) + x2) then
                some (-1)
              else
                if (((T_partStarts σ) x1.toNatClampNeg) + x2) < 0 ∨ (T_parts σ).1 ≤ (((T_partStarts σ) x1.toNatClampNeg) + x2).toNatClampNeg then none else
                some ((T_parts σ).2 (((T_partStarts σ) x1.toNatClampNeg) + x2).toNatClampNeg)
      else
        some (-1)
set_option maxHeartbeats 4000000 in
set_option maxRecDepth 100000 in
theorem t_T_partOf_0 {p : Program} {l : Launch} {e : Env} {s : State} {m : MethodId} {args : Array Value} {below : List Frame} {meth : Method} {c : Code} {D : va_G} {cI cZ : ClassId} {a : Nat → Nat} {q : Nat} {σ : StT} (C0 : Am p s m args meth c b_T_partOf (some .int) 4 R_T D [(cI, .int), (cZ, .boolean)]) (hP : va_P D vwCl (wT cI cZ a q σ) s.heap) {val : Int32}   {x1 x2 : Int32} (h : f_T_partOf σ x1 x2 = some val) {ls : Array Slot} (hl : lv_has ls 4 [(0, .ref (a 10)), (1, .int x1), (2, .int x2)]) : RoW p l e (rmK 1 21 0 0) s m args below meth c val (F0 m 0 ls []) := by
  obtain ⟨hx, hb, hr, hml, hown, hts, hlk, hK⟩ := id C0
  unfold f_T_partOf at h
  refine lv_aload_n hx hb d_T_partOf_0 rfl (lv_at hl 0 rfl) ?_
  refine lv_iload_n hx hb d_T_partOf_1 rfl (lv_at hl 1 rfl) ?_
  refine ro_V (n := 1) (ci := 2) (As := [.int x1]) (rest := []) C0 (c_T_isThere l D cI cZ a q σ x1 rfl) wd_48 ⟨wd_49, wd_50, wd_51, wd_52⟩ (by decide +kernel) ⟨Nat.le_of_ble_eq_true rfl, Nat.le_of_ble_eq_true rfl⟩ hP rfl rfl rfl hl rfl rfl (Nat.le_of_ble_eq_true rfl) ⟨Nat.zero_le _, Nat.zero_le _⟩ d_T_partOf_2 ?_
  refine lv_if_eq (tgt := 22) hx hb d_T_partOf_5 (by decide) (fun hc => ?_) (fun hc => ?_)
  · rw [if_pos hc] at h
    refine lv_iconst (v := (-1)) hx hb d_T_partOf_22 (by decide) ?_
    exact ro_ret C0 (Option.some.inj h) d_T_partOf_23
  · rw [if_neg hc] at h
    refine lv_iload_n hx hb d_T_partOf_8 rfl (lv_at hl 2 rfl) ?_
    refine lv_if_lt (tgt := 22) hx hb d_T_partOf_9 (by decide) (fun hc => ?_) (fun hc => ?_)
    · rw [if_pos hc] at h
      refine lv_iconst (v := (-1)) hx hb d_T_partOf_22 (by decide) ?_
      exact ro_ret C0 (Option.some.inj h) d_T_partOf_23
    · rw [if_neg hc] at h
      refine lv_iload_n hx hb d_T_partOf_12 rfl (lv_at hl 2 rfl) ?_
      refine lv_aload_n hx hb d_T_partOf_13 rfl (lv_at hl 0 rfl) ?_
      refine va_get (ci := 2) (v := .ref (a 17)) (C := R_T) (T := F_T) (N := 12) hx hb hts i_T hown hK.1 hP 0 rfl rfl 6 (by decide) (hts _ wd_47) (fun _ h9 => h9) rfl d_T_partOf_14 ?_
      refine lv_iload_n hx hb d_T_partOf_17 rfl (lv_at hl 1 rfl) ?_
      replace h := gd h
      obtain ⟨hi, h⟩ := h
      refine va_iald hx hb hK.1 hP 7 0 rfl rfl hi d_T_partOf_18 ?_
      refine lv_icmp_lt (tgt := 24) hx hb d_T_partOf_19 (by decide) (fun hc => ?_) (fun hc => ?_)
      · rw [if_pos hc] at h
        refine lv_aload_n hx hb d_T_partOf_24 rfl (lv_at hl 0 rfl) ?_
        refine va_get (ci := 2) (v := .ref (a 11)) (C := R_T) (T := F_T) (N := 12) hx hb hts i_T hown hK.1 hP 0 rfl rfl 0 (by decide) (hts _ wd_41) (fun _ h9 => h9) rfl d_T_partOf_25 ?_
        refine lv_iload_n hx hb d_T_partOf_28 rfl (lv_at hl 1 rfl) ?_
        replace h := gd h
        obtain ⟨hi, h⟩ := h
        refine va_iald hx hb hK.1 hP 1 0 rfl rfl hi d_T_partOf_29 ?_
        refine lv_iconst (v := 1) hx hb d_T_partOf_30 (by decide) ?_
        refine lv_icmp_ne (tgt := 36) hx hb d_T_partOf_31 (by decide) (fun hc => ?_) (fun hc => ?_)
        · rw [if_neg hc] at h
          refine lv_aload_n hx hb d_T_partOf_36 rfl (lv_at hl 0 rfl) ?_
          refine va_get (ci := 2) (v := .ref (a 16)) (C := R_T) (T := F_T) (N := 12) hx hb hts i_T hown hK.1 hP 0 rfl rfl 5 (by decide) (hts _ wd_46) (fun _ h9 => h9) rfl d_T_partOf_37 ?_
          refine lv_iload_n hx hb d_T_partOf_40 rfl (lv_at hl 1 rfl) ?_
          replace h := gd h
          obtain ⟨hi, h⟩ := h
          refine va_iald hx hb hK.1 hP 6 0 rfl rfl hi d_T_partOf_41 ?_
          refine lv_iload_n hx hb d_T_partOf_42 rfl (lv_at hl 2 rfl) ?_
          refine lv_iadd hx hb d_T_partOf_43 ?_
          refine lv_istore_n (lv' := [(3, .int (((T_partStarts σ) x1.toNatClampNeg) + x2)), (0, .ref (a 10)), (1, .int x1), (2, .int x2)]) hx hb d_T_partOf_44 rfl hl (by decide) rfl (fun ls hl => ?_)
          refine lv_iload_n hx hb d_T_partOf_45 rfl (lv_at hl 0 rfl) ?_
          refine lv_if_lt (tgt := 75) hx hb d_T_partOf_46 (by decide) (fun hc => ?_) (fun hc => ?_)
          · rw [if_pos hc] at h
            refine lv_iconst (v := (-1)) hx hb d_T_partOf_75 (by decide) ?_
            exact ro_ret C0 (Option.some.inj h) d_T_partOf_76
          · rw [if_neg hc] at h
            refine lv_iload_n hx hb d_T_partOf_49 rfl (lv_at hl 0 rfl) ?_
            refine lv_aload_n hx hb d_T_partOf_50 rfl (lv_at hl 1 rfl) ?_
            refine va_get (ci := 2) (v := .int (T_partsUsed σ)) (C := R_T) (T := F_T) (N := 12) hx hb hts i_T hown hK.1 hP 0 rfl rfl 8 (by decide) (hts _ wd_65) (fun _ h9 => h9) rfl d_T_partOf_51 ?_
            refine lv_icmp_ge (tgt := 75) hx hb d_T_partOf_54 (by decide) (fun hc => ?_) (fun hc => ?_)
            · rw [if_pos hc] at h
              refine lv_iconst (v := (-1)) hx hb d_T_partOf_75 (by decide) ?_
              exact ro_ret C0 (Option.some.inj h) d_T_partOf_76
            · rw [if_neg hc] at h
              refine lv_iload_n hx hb d_T_partOf_57 rfl (lv_at hl 0 rfl) ?_
              refine lv_aload_n hx hb d_T_partOf_58 rfl (lv_at hl 1 rfl) ?_
              refine va_get (ci := 2) (v := .ref q) (C := R_T) (T := F_T) (N := 12) hx hb hts i_T hown hK.1 hP 0 rfl rfl 7 (by decide) (hts _ wd_191) (fun _ h9 => h9) rfl d_T_partOf_59 ?_
              refine va_alen hx hb hK.1 hP 8 0 rfl rfl rfl d_T_partOf_62 ?_
              refine lv_icmp_ge (tgt := 75) hx hb d_T_partOf_63 (by decide) (fun hc => ?_) (fun hc => ?_)
              · rw [if_pos hc] at h
                refine lv_iconst (v := (-1)) hx hb d_T_partOf_75 (by decide) ?_
                exact ro_ret C0 (Option.some.inj h) d_T_partOf_76
              · rw [if_neg hc] at h
                refine lv_aload_n hx hb d_T_partOf_66 rfl (lv_at hl 1 rfl) ?_
                refine va_get (ci := 2) (v := .ref q) (C := R_T) (T := F_T) (N := 12) hx hb hts i_T hown hK.1 hP 0 rfl rfl 7 (by decide) (hts _ wd_191) (fun _ h9 => h9) rfl d_T_partOf_67 ?_
                refine lv_iload_n hx hb d_T_partOf_70 rfl (lv_at hl 0 rfl) ?_
                replace h := gd h
                obtain ⟨hi, h⟩ := h
                refine va_iald hx hb hK.1 hP 8 0 rfl rfl hi d_T_partOf_71 ?_
                refine lv_goto (tgt := 76) hx hb d_T_partOf_72 (by decide) ?_
                exact ro_ret C0 (Option.some.inj h) d_T_partOf_76
        · rw [if_pos hc] at h
          refine lv_iload_n hx hb d_T_partOf_34 rfl (lv_at hl 1 rfl) ?_
          exact ro_ret C0 (Option.some.inj h) d_T_partOf_35
      · rw [if_neg hc] at h
        refine lv_iconst (v := (-1)) hx hb d_T_partOf_22 (by decide) ?_
        exact ro_ret C0 (Option.some.inj h) d_T_partOf_23
set_option maxHeartbeats 4000000 in
set_option maxRecDepth 100000 in
theorem c_T_partOf (l : Launch) (D : va_G) (cI cZ : ClassId) (a : Nat → Nat) (q : Nat) (σ : StT) (x1 : Int32) (x2 : Int32) {val : Int32} (h : f_T_partOf σ x1 x2 = some val) : RoM l y_T_partOf b_T_partOf 4 (some .int) 1 21 D [(cI, .int), (cZ, .boolean)] [.ref (a 10), .int x1, .int x2] (wT cI cZ a q σ) val :=
  ro_of (by decide) (Nat.le_of_ble_eq_true rfl) (fun p e s m args below meth c ls C0 hP hl => t_T_partOf_0 (a := a) C0 hP h (lv_sub hl [0, 1, 2] rfl))
def f_T_argumentAt (σ : StT) (x1 : Int32) : Option Int32 :=
  if (f_T_isThere σ x1) = 0 then
    some 0
  else
    if x1 < 0 ∨ 300 ≤ x1.toNatClampNeg then none else
    some ((T_arguments σ) x1.toNatClampNeg)
set_option maxHeartbeats 4000000 in
set_option maxRecDepth 100000 in
theorem t_T_argumentAt_0 {p : Program} {l : Launch} {e : Env} {s : State} {m : MethodId} {args : Array Value} {below : List Frame} {meth : Method} {c : Code} {D : va_G} {cI cZ : ClassId} {a : Nat → Nat} {q : Nat} {σ : StT} (C0 : Am p s m args meth c b_T_argumentAt (some .int) 2 R_T D [(cI, .int), (cZ, .boolean)]) (hP : va_P D vwCl (wT cI cZ a q σ) s.heap) {val : Int32}   {x1 : Int32} (h : f_T_argumentAt σ x1 = some val) {ls : Array Slot} (hl : lv_has ls 2 [(0, .ref (a 10)), (1, .int x1)]) : RoW p l e (rmK 1 21 0 0) s m args below meth c val (F0 m 0 ls []) := by
  obtain ⟨hx, hb, hr, hml, hown, hts, hlk, hK⟩ := id C0
  unfold f_T_argumentAt at h
  refine lv_aload_n hx hb d_T_argumentAt_0 rfl (lv_at hl 0 rfl) ?_
  refine lv_iload_n hx hb d_T_argumentAt_1 rfl (lv_at hl 1 rfl) ?_
  refine ro_V (n := 1) (ci := 2) (As := [.int x1]) (rest := []) C0 (c_T_isThere l D cI cZ a q σ x1 rfl) wd_48 ⟨wd_49, wd_50, wd_51, wd_52⟩ (by decide +kernel) ⟨Nat.le_of_ble_eq_true rfl, Nat.le_of_ble_eq_true rfl⟩ hP rfl rfl rfl hl rfl rfl (Nat.le_of_ble_eq_true rfl) ⟨Nat.zero_le _, Nat.zero_le _⟩ d_T_argumentAt_2 ?_
  refine lv_if_eq (tgt := 17) hx hb d_T_argumentAt_5 (by decide) (fun hc => ?_) (fun hc => ?_)
  · rw [if_pos hc] at h
    refine lv_iconst (v := 0) hx hb d_T_argumentAt_17 (by decide) ?_
    exact ro_ret C0 (Option.some.inj h) d_T_argumentAt_18
  · rw [if_neg hc] at h
    refine lv_aload_n hx hb d_T_argumentAt_8 rfl (lv_at hl 0 rfl) ?_
    refine va_get (ci := 2) (v := .ref (a 13)) (C := R_T) (T := F_T) (N := 12) hx hb hts i_T hown hK.1 hP 0 rfl rfl 2 (by decide) (hts _ wd_43) (fun _ h9 => h9) rfl d_T_argumentAt_9 ?_
    refine lv_iload_n hx hb d_T_argumentAt_12 rfl (lv_at hl 1 rfl) ?_
    replace h := gd h
    obtain ⟨hi, h⟩ := h
    refine va_iald hx hb hK.1 hP 3 0 rfl rfl hi d_T_argumentAt_13 ?_
    refine lv_goto (tgt := 18) hx hb d_T_argumentAt_14 (by decide) ?_
    exact ro_ret C0 (Option.some.inj h) d_T_argumentAt_18
set_option maxHeartbeats 4000000 in
set_option maxRecDepth 100000 in
theorem c_T_argumentAt (l : Launch) (D : va_G) (cI cZ : ClassId) (a : Nat → Nat) (q : Nat) (σ : StT) (x1 : Int32) {val : Int32} (h : f_T_argumentAt σ x1 = some val) : RoM l y_T_argumentAt b_T_argumentAt 2 (some .int) 1 21 D [(cI, .int), (cZ, .boolean)] [.ref (a 10), .int x1] (wT cI cZ a q σ) val :=
  ro_of (by decide) (Nat.le_of_ble_eq_true rfl) (fun p e s m args below meth c ls C0 hP hl => t_T_argumentAt_0 (a := a) C0 hP h (lv_sub hl [0, 1] rfl))
def f_T_hasParts_3_s (k3 : StT → Int32 → Int32 → Int32 → Option Int32) (pa2 : Nat × (Nat → Int32)) (σ : StT) (x1 x3 x4 : Int32) : Option Int32 :=
  if x1 < 0 ∨ 300 ≤ x1.toNatClampNeg then none else
  if ((T_partCounts σ) x1.toNatClampNeg) ≤ x4 then
    some 1
  else
    if (Int32.ofNat pa2.1) ≤ (x3 + x4) then
      some 1
    else
      (f_T_partOf σ x1 x4).bind fun r1 =>
      if (x3 + x4) < 0 ∨ pa2.1 ≤ (x3 + x4).toNatClampNeg then none else
      if r1 = (pa2.2 (x3 + x4).toNatClampNeg) then
        k3 σ x1 x3 (x4 + 1)
      else
        some 0
def f_T_hasParts_3 (pa2 : Nat × (Nat → Int32)) : Nat → StT → Int32 → Int32 → Int32 → Option Int32
  | 0, _, _, _, _ => none
  | n + 1, σ, x1, x3, x4 => f_T_hasParts_3_s (f_T_hasParts_3 pa2 n) pa2 σ x1 x3 x4
def f_T_hasParts (pa2 : Nat × (Nat → Int32)) (σ : StT) (x1 x3 : Int32) : Option Int32 :=
  f_T_hasParts_3 pa2 1000 σ x1 x3 0
set_option maxHeartbeats 4000000 in
set_option maxRecDepth 100000 in
theorem t_T_hasParts_3_s {p : Program} {l : Launch} {e : Env} {s : State} {m : MethodId} {args : Array Value} {below : List Frame} {meth : Method} {c : Code} {D : va_G} {cI cZ : ClassId} {a : Nat → Nat} {q : Nat} {σ : StT} {pa2 : Nat × (Nat → Int32)} {b2 : Nat} (C0 : Am p s m args meth c b_T_hasParts (some .boolean) 5 R_T D [(cI, .int), (cZ, .boolean)]) (hP : va_P D vwCl ((wT cI cZ a q σ) ++ [(b2, .inl (cI, pa2.1, .inl pa2.2))]) s.heap) {val : Int32} {k3 : StT → Int32 → Int32 → Int32 → Option Int32}  (hk3 : ∀ (x1 x3 x4 : Int32) (ls : Array Slot), k3 σ x1 x3 x4 = some val → lv_has ls 5 [(0, .ref (a 10)), (1, .int x1), (2, .ref b2), (3, .int x3), (4, .int x4)] → RoW p l e (rmK 2 44 0 0) s m args below meth c val (F0 m 3 ls [])) {x1 x3 x4 : Int32} (h : f_T_hasParts_3_s k3 pa2 σ x1 x3 x4 = some val) {ls : Array Slot} (hl : lv_has ls 5 [(0, .ref (a 10)), (1, .int x1), (2, .ref b2), (3, .int x3), (4, .int x4)]) : RoW p l e (rmK 2 44 0 0) s m args below meth c val (F0 m 3 ls []) := by
  obtain ⟨hx, hb, hr, hml, hown, hts, hlk, hK⟩ := id C0
  unfold f_T_hasParts_3_s at h
  refine lv_iload hx hb d_T_hasParts_3 (lv_at hl 4 rfl) ?_
  refine lv_aload_n hx hb d_T_hasParts_5 rfl (lv_at hl 0 rfl) ?_
  refine va_get (ci := 2) (v := .ref (a 17)) (C := R_T) (T := F_T) (N := 12) hx hb hts i_T hown hK.1 hP 0 rfl rfl 6 (by decide) (hts _ wd_47) (fun _ h9 => h9) rfl d_T_hasParts_6 ?_
  refine lv_iload_n hx hb d_T_hasParts_9 rfl (lv_at hl 1 rfl) ?_
  replace h := gd h
  obtain ⟨hi, h⟩ := h
  refine va_iald hx hb hK.1 hP 7 0 rfl rfl hi d_T_hasParts_10 ?_
  refine lv_icmp_ge (tgt := 47) hx hb d_T_hasParts_11 (by decide) (fun hc => ?_) (fun hc => ?_)
  · rw [if_pos hc] at h
    refine lv_iconst (v := 1) hx hb d_T_hasParts_47 (by decide) ?_
    exact ro_retz C0 (by decide) (Option.some.inj h) d_T_hasParts_48
  · rw [if_neg hc] at h
    refine lv_iload_n hx hb d_T_hasParts_14 rfl (lv_at hl 3 rfl) ?_
    refine lv_iload hx hb d_T_hasParts_15 (lv_at hl 4 rfl) ?_
    refine lv_iadd hx hb d_T_hasParts_17 ?_
    refine lv_aload_n hx hb d_T_hasParts_18 rfl (lv_at hl 2 rfl) ?_
    refine va_alen hx hb hK.1 hP 9 0 rfl rfl rfl d_T_hasParts_19 ?_
    refine lv_icmp_ge (tgt := 47) hx hb d_T_hasParts_20 (by decide) (fun hc => ?_) (fun hc => ?_)
    · rw [if_pos hc] at h
      refine lv_iconst (v := 1) hx hb d_T_hasParts_47 (by decide) ?_
      exact ro_retz C0 (by decide) (Option.some.inj h) d_T_hasParts_48
    · rw [if_neg hc] at h
      refine lv_aload_n hx hb d_T_hasParts_23 rfl (lv_at hl 0 rfl) ?_
      refine lv_iload_n hx hb d_T_hasParts_24 rfl (lv_at hl 1 rfl) ?_
      refine lv_iload hx hb d_T_hasParts_25 (lv_at hl 4 rfl) ?_
      replace h := bd h
      obtain ⟨r1, g1, h⟩ := h
      refine ro_V (n := 2) (ci := 2) (As := [.int x1, .int x4]) (rest := []) C0 (c_T_partOf l D cI cZ a q σ x1 x4 g1) wd_222 ⟨wd_205, wd_206, wd_207, wd_52⟩ (by decide +kernel) ⟨Nat.le_of_ble_eq_true rfl, Nat.le_of_ble_eq_true rfl⟩ (hP.pick [0, 1, 2, 3, 4, 5, 6, 7, 8] rfl) rfl rfl rfl hl rfl rfl (Nat.le_of_ble_eq_true rfl) ⟨Nat.zero_le _, Nat.zero_le _⟩ d_T_hasParts_27 ?_
      try dsimp only at h
      refine lv_aload_n hx hb d_T_hasParts_30 rfl (lv_at hl 2 rfl) ?_
      refine lv_iload_n hx hb d_T_hasParts_31 rfl (lv_at hl 3 rfl) ?_
      refine lv_iload hx hb d_T_hasParts_32 (lv_at hl 4 rfl) ?_
      refine lv_iadd hx hb d_T_hasParts_34 ?_
      replace h := gd h
      obtain ⟨hi, h⟩ := h
      refine va_iald hx hb hK.1 hP 9 0 rfl rfl hi d_T_hasParts_35 ?_
      refine lv_icmp_eq (tgt := 41) hx hb d_T_hasParts_36 (by decide) (fun hc => ?_) (fun hc => ?_)
      · rw [if_pos hc] at h
        refine lv_iinc (v := (x4 + 1)) (lv' := [(4, .int (x4 + 1)), (0, .ref (a 10)), (1, .int x1), (2, .ref b2), (3, .int x3)]) hx hb d_T_hasParts_41 hl (k := 4) rfl rfl (by decide) rfl (fun ls hl => ?_)
        refine lv_goto (tgt := 3) hx hb d_T_hasParts_44 (by decide) ?_
        exact hk3 _ _ _ _ h (lv_sub hl [1, 2, 3, 4, 0] rfl)
      · rw [if_neg hc] at h
        refine lv_iconst (v := 0) hx hb d_T_hasParts_39 (by decide) ?_
        exact ro_retz C0 (by decide) (Option.some.inj h) d_T_hasParts_40
set_option maxHeartbeats 4000000 in
set_option maxRecDepth 100000 in
theorem t_T_hasParts_3 {p : Program} {l : Launch} {e : Env} {s : State} {m : MethodId} {args : Array Value} {below : List Frame} {meth : Method} {c : Code} {D : va_G} {cI cZ : ClassId} {a : Nat → Nat} {q : Nat} {σ : StT} {pa2 : Nat × (Nat → Int32)} {b2 : Nat} (C0 : Am p s m args meth c b_T_hasParts (some .boolean) 5 R_T D [(cI, .int), (cZ, .boolean)]) (hP : va_P D vwCl ((wT cI cZ a q σ) ++ [(b2, .inl (cI, pa2.1, .inl pa2.2))]) s.heap) {val : Int32}  {n : Nat} {x1 x3 x4 : Int32} (h : f_T_hasParts_3 pa2 n σ x1 x3 x4 = some val) {ls : Array Slot} (hl : lv_has ls 5 [(0, .ref (a 10)), (1, .int x1), (2, .ref b2), (3, .int x3), (4, .int x4)]) : RoW p l e (rmK 2 44 0 0) s m args below meth c val (F0 m 3 ls []) := by
  induction n generalizing x1 x3 x4 ls with
  | zero => cases h
  | succ n ih => exact t_T_hasParts_3_s (a := a) C0 hP  (fun _ _ _ _ h hl => ih h hl) h hl
set_option maxHeartbeats 4000000 in
set_option maxRecDepth 100000 in
theorem t_T_hasParts_0 {p : Program} {l : Launch} {e : Env} {s : State} {m : MethodId} {args : Array Value} {below : List Frame} {meth : Method} {c : Code} {D : va_G} {cI cZ : ClassId} {a : Nat → Nat} {q : Nat} {σ : StT} {pa2 : Nat × (Nat → Int32)} {b2 : Nat} (C0 : Am p s m args meth c b_T_hasParts (some .boolean) 5 R_T D [(cI, .int), (cZ, .boolean)]) (hP : va_P D vwCl ((wT cI cZ a q σ) ++ [(b2, .inl (cI, pa2.1, .inl pa2.2))]) s.heap) {val : Int32}   {x1 x3 : Int32} (h : f_T_hasParts pa2 σ x1 x3 = some val) {ls : Array Slot} (hl : lv_has ls 5 [(0, .ref (a 10)), (1, .int x1), (2, .ref b2), (3, .int x3)]) : RoW p l e (rmK 2 44 0 0) s m args below meth c val (F0 m 0 ls []) := by
  obtain ⟨hx, hb, hr, hml, hown, hts, hlk, hK⟩ := id C0
  unfold f_T_hasParts at h
  refine lv_iconst (v := 0) hx hb d_T_hasParts_0 (by decide) ?_
  refine lv_istore (lv' := [(4, .int 0), (0, .ref (a 10)), (1, .int x1), (2, .ref b2), (3, .int x3)]) hx hb d_T_hasParts_1 hl (by decide) rfl (fun ls hl => ?_)
  exact t_T_hasParts_3 (a := a) C0 hP  h (lv_sub hl [1, 2, 3, 4, 0] rfl)
set_option maxHeartbeats 4000000 in
set_option maxRecDepth 100000 in
theorem c_T_hasParts (l : Launch) (D : va_G) (cI cZ : ClassId) (a : Nat → Nat) (q : Nat) (σ : StT) (x1 : Int32) (pa2 : Nat × (Nat → Int32)) (b2 : Nat) (x3 : Int32) {val : Int32} (h : f_T_hasParts pa2 σ x1 x3 = some val) : RoM l y_T_hasParts b_T_hasParts 5 (some .boolean) 2 44 D [(cI, .int), (cZ, .boolean)] [.ref (a 10), .int x1, .ref b2, .int x3] ((wT cI cZ a q σ) ++ [(b2, .inl (cI, pa2.1, .inl pa2.2))]) val :=
  ro_of (by decide) (Nat.le_of_ble_eq_true rfl) (fun p e s m args below meth c ls C0 hP hl => t_T_hasParts_0 (a := a) C0 hP h (lv_sub hl [0, 1, 2, 3] rfl))
def f_T_findIntersection_3_s (k3 : StT → Int32 → Int32 → Int32 → Option Int32) (pa1 : Nat × (Nat → Int32)) (σ : StT) (x2 x3 x4 : Int32) : Option Int32 :=
  if (T_count σ) ≤ x4 then
    some (-1)
  else
    if x4 < 0 ∨ 300 ≤ x4.toNatClampNeg then none else
    if ((T_kinds σ) x4.toNatClampNeg) = 3 then
      if x4 < 0 ∨ 300 ≤ x4.toNatClampNeg then none else
      if ((T_partCounts σ) x4.toNatClampNeg) = x3 then
        (f_T_hasParts pa1 σ x4 x2).bind fun r1 =>
        if r1 = 0 then
          k3 σ x2 x3 (x4 + 1)
        else
          some x4
      else
        k3 σ x2 x3 (x4 + 1)
    else
      k3 σ x2 x3 (x4 + 1)
def f_T_findIntersection_3 (pa1 : Nat × (Nat → Int32)) : Nat → StT → Int32 → Int32 → Int32 → Option Int32
  | 0, _, _, _, _ => none
  | n + 1, σ, x2, x3, x4 => f_T_findIntersection_3_s (f_T_findIntersection_3 pa1 n) pa1 σ x2 x3 x4
def f_T_findIntersection (pa1 : Nat × (Nat → Int32)) (σ : StT) (x2 x3 : Int32) : Option Int32 :=
  f_T_findIntersection_3 pa1 1000 σ x2 x3 0
set_option maxHeartbeats 4000000 in
set_option maxRecDepth 100000 in
theorem t_T_findIntersection_3_s {p : Program} {l : Launch} {e : Env} {s : State} {m : MethodId} {args : Array Value} {below : List Frame} {meth : Method} {c : Code} {D : va_G} {cI cZ : ClassId} {a : Nat → Nat} {q : Nat} {σ : StT} {pa1 : Nat × (Nat → Int32)} {b1 : Nat} (C0 : Am p s m args meth c b_T_findIntersection (some .int) 5 R_T D [(cI, .int), (cZ, .boolean)]) (hP : va_P D vwCl ((wT cI cZ a q σ) ++ [(b1, .inl (cI, pa1.1, .inl pa1.2))]) s.heap) {val : Int32} {k3 : StT → Int32 → Int32 → Int32 → Option Int32}  (hk3 : ∀ (x2 x3 x4 : Int32) (ls : Array Slot), k3 σ x2 x3 x4 = some val → lv_has ls 5 [(0, .ref (a 10)), (1, .ref b1), (2, .int x2), (3, .int x3), (4, .int x4)] → RoW p l e (rmK 3 68 0 0) s m args below meth c val (F0 m 3 ls [])) {x2 x3 x4 : Int32} (h : f_T_findIntersection_3_s k3 pa1 σ x2 x3 x4 = some val) {ls : Array Slot} (hl : lv_has ls 5 [(0, .ref (a 10)), (1, .ref b1), (2, .int x2), (3, .int x3), (4, .int x4)]) : RoW p l e (rmK 3 68 0 0) s m args below meth c val (F0 m 3 ls []) := by
  obtain ⟨hx, hb, hr, hml, hown, hts, hlk, hK⟩ := id C0
  unfold f_T_findIntersection_3_s at h
  refine lv_iload hx hb d_T_findIntersection_3 (lv_at hl 4 rfl) ?_
  refine lv_aload_n hx hb d_T_findIntersection_5 rfl (lv_at hl 0 rfl) ?_
  refine va_get (ci := 2) (v := .int (T_count σ)) (C := R_T) (T := F_T) (N := 12) hx hb hts i_T hown hK.1 hP 0 rfl rfl 9 (by decide) (hts _ wd_40) (fun _ h9 => h9) rfl d_T_findIntersection_6 ?_
  refine lv_icmp_ge (tgt := 54) hx hb d_T_findIntersection_9 (by decide) (fun hc => ?_) (fun hc => ?_)
  · rw [if_pos hc] at h
    refine lv_iconst (v := (-1)) hx hb d_T_findIntersection_54 (by decide) ?_
    exact ro_ret C0 (Option.some.inj h) d_T_findIntersection_55
  · rw [if_neg hc] at h
    refine lv_aload_n hx hb d_T_findIntersection_12 rfl (lv_at hl 0 rfl) ?_
    refine va_get (ci := 2) (v := .ref (a 11)) (C := R_T) (T := F_T) (N := 12) hx hb hts i_T hown hK.1 hP 0 rfl rfl 0 (by decide) (hts _ wd_41) (fun _ h9 => h9) rfl d_T_findIntersection_13 ?_
    refine lv_iload hx hb d_T_findIntersection_16 (lv_at hl 4 rfl) ?_
    replace h := gd h
    obtain ⟨hi, h⟩ := h
    refine va_iald hx hb hK.1 hP 1 0 rfl rfl hi d_T_findIntersection_18 ?_
    refine lv_iconst (v := 3) hx hb d_T_findIntersection_19 (by decide) ?_
    refine lv_icmp_ne (tgt := 48) hx hb d_T_findIntersection_20 (by decide) (fun hc => ?_) (fun hc => ?_)
    · rw [if_neg hc] at h
      refine lv_iinc (v := (x4 + 1)) (lv' := [(4, .int (x4 + 1)), (0, .ref (a 10)), (1, .ref b1), (2, .int x2), (3, .int x3)]) hx hb d_T_findIntersection_48 hl (k := 4) rfl rfl (by decide) rfl (fun ls hl => ?_)
      refine lv_goto (tgt := 3) hx hb d_T_findIntersection_51 (by decide) ?_
      exact hk3 _ _ _ _ h (lv_sub hl [1, 2, 3, 4, 0] rfl)
    · rw [if_pos hc] at h
      refine lv_aload_n hx hb d_T_findIntersection_23 rfl (lv_at hl 0 rfl) ?_
      refine va_get (ci := 2) (v := .ref (a 17)) (C := R_T) (T := F_T) (N := 12) hx hb hts i_T hown hK.1 hP 0 rfl rfl 6 (by decide) (hts _ wd_47) (fun _ h9 => h9) rfl d_T_findIntersection_24 ?_
      refine lv_iload hx hb d_T_findIntersection_27 (lv_at hl 4 rfl) ?_
      replace h := gd h
      obtain ⟨hi, h⟩ := h
      refine va_iald hx hb hK.1 hP 7 0 rfl rfl hi d_T_findIntersection_29 ?_
      refine lv_iload_n hx hb d_T_findIntersection_30 rfl (lv_at hl 3 rfl) ?_
      refine lv_icmp_ne (tgt := 48) hx hb d_T_findIntersection_31 (by decide) (fun hc => ?_) (fun hc => ?_)
      · rw [if_neg hc] at h
        refine lv_iinc (v := (x4 + 1)) (lv' := [(4, .int (x4 + 1)), (0, .ref (a 10)), (1, .ref b1), (2, .int x2), (3, .int x3)]) hx hb d_T_findIntersection_48 hl (k := 4) rfl rfl (by decide) rfl (fun ls hl => ?_)
        refine lv_goto (tgt := 3) hx hb d_T_findIntersection_51 (by decide) ?_
        exact hk3 _ _ _ _ h (lv_sub hl [1, 2, 3, 4, 0] rfl)
      · rw [if_pos hc] at h
        refine lv_aload_n hx hb d_T_findIntersection_34 rfl (lv_at hl 0 rfl) ?_
        refine lv_iload hx hb d_T_findIntersection_35 (lv_at hl 4 rfl) ?_
        refine lv_aload_n hx hb d_T_findIntersection_37 rfl (lv_at hl 1 rfl) ?_
        refine lv_iload_n hx hb d_T_findIntersection_38 rfl (lv_at hl 2 rfl) ?_
        replace h := bd h
        obtain ⟨r1, g1, h⟩ := h
        refine ro_V (n := 3) (ci := 2) (As := [.int x4, .ref b1, .int x2]) (rest := []) C0 (c_T_hasParts l D cI cZ a q σ x4 pa1 b1 x2 g1) wd_223 ⟨wd_224, wd_225, wd_226, wd_52⟩ (by decide +kernel) ⟨Nat.le_of_ble_eq_true rfl, Nat.le_of_ble_eq_true rfl⟩ hP rfl rfl rfl hl rfl rfl (Nat.le_of_ble_eq_true rfl) ⟨Nat.zero_le _, Nat.zero_le _⟩ d_T_findIntersection_39 ?_
        try dsimp only at h
        refine lv_if_eq (tgt := 48) hx hb d_T_findIntersection_42 (by decide) (fun hc => ?_) (fun hc => ?_)
        · rw [if_pos hc] at h
          refine lv_iinc (v := (x4 + 1)) (lv' := [(4, .int (x4 + 1)), (0, .ref (a 10)), (1, .ref b1), (2, .int x2), (3, .int x3)]) hx hb d_T_findIntersection_48 hl (k := 4) rfl rfl (by decide) rfl (fun ls hl => ?_)
          refine lv_goto (tgt := 3) hx hb d_T_findIntersection_51 (by decide) ?_
          exact hk3 _ _ _ _ h (lv_sub hl [1, 2, 3, 4, 0] rfl)
        · rw [if_neg hc] at h
          refine lv_iload hx hb d_T_findIntersection_45 (lv_at hl 4 rfl) ?_
          exact ro_ret C0 (Option.some.inj h) d_T_findIntersection_47
set_option maxHeartbeats 4000000 in
set_option maxRecDepth 100000 in
theorem t_T_findIntersection_3 {p : Program} {l : Launch} {e : Env} {s : State} {m : MethodId} {args : Array Value} {below : List Frame} {meth : Method} {c : Code} {D : va_G} {cI cZ : ClassId} {a : Nat → Nat} {q : Nat} {σ : StT} {pa1 : Nat × (Nat → Int32)} {b1 : Nat} (C0 : Am p s m args meth c b_T_findIntersection (some .int) 5 R_T D [(cI, .int), (cZ, .boolean)]) (hP : va_P D vwCl ((wT cI cZ a q σ) ++ [(b1, .inl (cI, pa1.1, .inl pa1.2))]) s.heap) {val : Int32}  {n : Nat} {x2 x3 x4 : Int32} (h : f_T_findIntersection_3 pa1 n σ x2 x3 x4 = some val) {ls : Array Slot} (hl : lv_has ls 5 [(0, .ref (a 10)), (1, .ref b1), (2, .int x2), (3, .int x3), (4, .int x4)]) : RoW p l e (rmK 3 68 0 0) s m args below meth c val (F0 m 3 ls []) := by
  induction n generalizing x2 x3 x4 ls with
  | zero => cases h
  | succ n ih => exact t_T_findIntersection_3_s (a := a) C0 hP  (fun _ _ _ _ h hl => ih h hl) h hl
set_option maxHeartbeats 4000000 in
set_option maxRecDepth 100000 in
theorem t_T_findIntersection_0 {p : Program} {l : Launch} {e : Env} {s : State} {m : MethodId} {args : Array Value} {below : List Frame} {meth : Method} {c : Code} {D : va_G} {cI cZ : ClassId} {a : Nat → Nat} {q : Nat} {σ : StT} {pa1 : Nat × (Nat → Int32)} {b1 : Nat} (C0 : Am p s m args meth c b_T_findIntersection (some .int) 5 R_T D [(cI, .int), (cZ, .boolean)]) (hP : va_P D vwCl ((wT cI cZ a q σ) ++ [(b1, .inl (cI, pa1.1, .inl pa1.2))]) s.heap) {val : Int32}   {x2 x3 : Int32} (h : f_T_findIntersection pa1 σ x2 x3 = some val) {ls : Array Slot} (hl : lv_has ls 5 [(0, .ref (a 10)), (1, .ref b1), (2, .int x2), (3, .int x3)]) : RoW p l e (rmK 3 68 0 0) s m args below meth c val (F0 m 0 ls []) := by
  obtain ⟨hx, hb, hr, hml, hown, hts, hlk, hK⟩ := id C0
  unfold f_T_findIntersection at h
  refine lv_iconst (v := 0) hx hb d_T_findIntersection_0 (by decide) ?_
  refine lv_istore (lv' := [(4, .int 0), (0, .ref (a 10)), (1, .ref b1), (2, .int x2), (3, .int x3)]) hx hb d_T_findIntersection_1 hl (by decide) rfl (fun ls hl => ?_)
  exact t_T_findIntersection_3 (a := a) C0 hP  h (lv_sub hl [1, 2, 3, 4, 0] rfl)
set_option maxHeartbeats 4000000 in
set_option maxRecDepth 100000 in
theorem c_T_findIntersection (l : Launch) (D : va_G) (cI cZ : ClassId) (a : Nat → Nat) (q : Nat) (σ : StT) (pa1 : Nat × (Nat → Int32)) (b1 : Nat) (x2 : Int32) (x3 : Int32) {val : Int32} (h : f_T_findIntersection pa1 σ x2 x3 = some val) : RoM l y_T_findIntersection b_T_findIntersection 5 (some .int) 3 68 D [(cI, .int), (cZ, .boolean)] [.ref (a 10), .ref b1, .int x2, .int x3] ((wT cI cZ a q σ) ++ [(b1, .inl (cI, pa1.1, .inl pa1.2))]) val :=
  ro_of (by decide) (Nat.le_of_ble_eq_true rfl) (fun p e s m args below meth c ls C0 hP hl => t_T_findIntersection_0 (a := a) C0 hP h (lv_sub hl [0, 1, 2, 3] rfl))
def f_T_appendParts_35 (pa2 : Nat × (Nat → Int32)) (σ : StT) (x1 x3 x4 : Int32) : Option ((Int32 ⊕ Nat) × StT × Nat × Nat) :=
  if x3 < 0 ∨ (T_partsUsed σ) < 0 ∨ x4 < 0 ∨ pa2.1 < x3.toNatClampNeg + x4.toNatClampNeg ∨ (T_parts σ).1 < (T_partsUsed σ).toNatClampNeg + x4.toNatClampNeg then none else
  if x1 < 0 ∨ 300 ≤ x1.toNatClampNeg then none else
  if x1 < 0 ∨ 300 ≤ x1.toNatClampNeg then none else
  some (.inl 0, (T_set_partsUsed (T_put_partCounts (T_put_partStarts (T_set_parts σ ((T_parts σ).1, va_cpy pa2.2 (T_parts σ).2 x3.toNatClampNeg (T_partsUsed σ).toNatClampNeg x4.toNatClampNeg)) x1 (T_partsUsed (T_set_parts σ ((T_parts σ).1, va_cpy pa2.2 (T_parts σ).2 x3.toNatClampNeg (T_partsUsed σ).toNatClampNeg x4.toNatClampNeg)))) x1 x4) ((T_partsUsed (T_put_partCounts (T_put_partStarts (T_set_parts σ ((T_parts σ).1, va_cpy pa2.2 (T_parts σ).2 x3.toNatClampNeg (T_partsUsed σ).toNatClampNeg x4.toNatClampNeg)) x1 (T_partsUsed (T_set_parts σ ((T_parts σ).1, va_cpy pa2.2 (T_parts σ).2 x3.toNatClampNeg (T_partsUsed σ).toNatClampNeg x4.toNatClampNeg)))) x1 x4)) + x4)), 0, 0)
def f_T_appendParts (pa2 : Nat × (Nat → Int32)) (σ : StT) (x1 x3 x4 : Int32) : Option ((Int32 ⊕ Nat) × StT × Nat × Nat) :=
  if ((T_partsUsed σ) + x4) ≤ (Int32.ofNat (T_parts σ).1) then
    f_T_appendParts_35 pa2 σ x1 x3 x4
  else
    if (2 * ((T_partsUsed σ) + x4)) < 0 ∨ (2 * ((T_partsUsed σ) + x4)) = Int32.ofNat (T_parts σ).1 ∨ 134217728 < (2 * ((T_partsUsed σ) + x4)).toNatClampNeg ∨ 2147483648 ≤ (T_parts σ).1 then none else ad_ 1 ((2 * ((T_partsUsed σ) + x4)).toNatClampNeg) <|
    f_T_appendParts_35 pa2 (T_set_parts σ ((2 * ((T_partsUsed σ) + x4)).toNatClampNeg, J_copyOf (T_parts σ).2 (T_parts σ).1 (2 * ((T_partsUsed σ) + x4)))) x1 x3 x4
set_option maxHeartbeats 4000000 in
set_option maxRecDepth 100000 in
theorem t_T_appendParts_35 {p : Program} {l : Launch} {e : Env} {s : State} {m : MethodId} {args : Array Value} {below : List Frame} {meth : Method} {c : Code} {D : va_G} {cI cZ : ClassId} {a : Nat → Nat} {pa2 : Nat × (Nat → Int32)} {b2 : Nat} {A : Nat → Prop} (C0 : Am p s m args meth c b_T_appendParts none 5 R_T D [(cI, .int), (cZ, .boolean)]) (hA : ∀ q, s.heap.size ≤ q → A q) (hT : ∀ x ∈ c.exceptionTable.toList, False) (hl0 : l.stackTraces = false) (hZ : Zs A s s.heap) {v : Int32 ⊕ Nat} {u : StT} {K N : Nat}   {q : Nat} {σ : StT} {x1 x3 x4 : Int32} {kc ks mc ms : Nat} (h : f_T_appendParts_35 pa2 σ x1 x3 x4 = some (v, u, mc, ms)) (hkc : kc + mc = K) (hks : ks + ms = N) {H : Heap} {locs : List Loc} (hP : va_P D vwCl ((wT cI cZ a q σ) ++ [(b2, .inl (cI, pa2.1, .inl pa2.2))]) H) (hD : va_D A ((wT cI cZ a q σ) ++ [(b2, .inl (cI, pa2.1, .inl pa2.2))])) (hS : va_S A s.heap H locs) {ls : Array Slot} (hl : lv_has ls 5 [(0, .ref (a 10)), (1, .int x1), (2, .ref b2), (3, .int x3), (4, .int x4)]) : W p l e (rmK 2 82 K N) s m args below meth c H locs kc ks (TxQv below args s D A (fun q (σ : StT) => ((wT cI cZ a q σ) ++ [(b2, .inl (cI, pa2.1, .inl pa2.2))])) v u K N) (F0 m 35 ls []) := by
  obtain ⟨hx, hb, hr, hml, hown, hts, hlk, hK⟩ := id C0
  have hcs : kc ≤ K ∧ ks ≤ N := ⟨by omega, by omega⟩
  unfold f_T_appendParts_35 at h
  refine lv_aload_n hx hb d_T_appendParts_35 rfl (lv_at hl 2 rfl) ?_
  refine lv_iload_n hx hb d_T_appendParts_36 rfl (lv_at hl 3 rfl) ?_
  refine lv_aload_n hx hb d_T_appendParts_37 rfl (lv_at hl 0 rfl) ?_
  refine va_get (ci := 2) (v := .ref q) (C := R_T) (T := F_T) (N := 12) hx hb hts i_T hown hK.1 hP 0 rfl rfl 7 (by decide) (hts _ wd_191) (fun _ h9 => h9) rfl d_T_appendParts_38 ?_
  refine lv_aload_n hx hb d_T_appendParts_41 rfl (lv_at hl 0 rfl) ?_
  refine va_get (ci := 2) (v := .int (T_partsUsed σ)) (C := R_T) (T := F_T) (N := 12) hx hb hts i_T hown hK.1 hP 0 rfl rfl 8 (by decide) (hts _ wd_65) (fun _ h9 => h9) rfl d_T_appendParts_42 ?_
  refine lv_iload hx hb d_T_appendParts_45 (lv_at hl 4 rfl) ?_
  replace h := gd h
  obtain ⟨hi, h⟩ := h
  refine rw_copy C0 hl hP hD hS 9 8 0 0 rfl rfl rfl rfl hi (hts _ wd_227) (hts _ wd_228) (hts _ wd_229) (hts _ wd_230) (Nat.le_of_ble_eq_true rfl) (Nat.le_of_ble_eq_true rfl) d_T_appendParts_47 (Wn := ((wT cI cZ a q (T_set_parts σ ((T_parts σ).1, va_cpy pa2.2 (T_parts σ).2 x3.toNatClampNeg (T_partsUsed σ).toNatClampNeg x4.toNatClampNeg))) ++ [(b2, .inl (cI, pa2.1, .inl pa2.2))])) wsp_T_seta_parts (fun H locs hP hD hS => ?_)
  refine lv_aload_n hx hb d_T_appendParts_50 rfl (lv_at hl 0 rfl) ?_
  refine va_get (ci := 2) (v := .ref (a 16)) (C := R_T) (T := F_T) (N := 12) hx hb hts i_T hown hK.1 hP 0 rfl rfl 5 (by decide) (hts _ wd_46) (fun _ h9 => h9) rfl d_T_appendParts_51 ?_
  refine lv_iload_n hx hb d_T_appendParts_54 rfl (lv_at hl 1 rfl) ?_
  refine lv_aload_n hx hb d_T_appendParts_55 rfl (lv_at hl 0 rfl) ?_
  refine va_get (ci := 2) (v := .int (T_partsUsed (T_set_parts σ ((T_parts σ).1, va_cpy pa2.2 (T_parts σ).2 x3.toNatClampNeg (T_partsUsed σ).toNatClampNeg x4.toNatClampNeg)))) (C := R_T) (T := F_T) (N := 12) hx hb hts i_T hown hK.1 hP 0 rfl rfl 8 (by decide) (hts _ wd_65) (fun _ h9 => h9) rfl d_T_appendParts_56 ?_
  replace h := gd h
  obtain ⟨hi, h⟩ := h
  refine rw_iast C0 hP hD hS 6 0 rfl rfl hi d_T_appendParts_59 (Wn := ((wT cI cZ a q (T_put_partStarts (T_set_parts σ ((T_parts σ).1, va_cpy pa2.2 (T_parts σ).2 x3.toNatClampNeg (T_partsUsed σ).toNatClampNeg x4.toNatClampNeg)) x1 (T_partsUsed (T_set_parts σ ((T_parts σ).1, va_cpy pa2.2 (T_parts σ).2 x3.toNatClampNeg (T_partsUsed σ).toNatClampNeg x4.toNatClampNeg))))) ++ [(b2, .inl (cI, pa2.1, .inl pa2.2))])) wsp_T_put_partStarts (fun H locs hP hD hS => ?_)
  refine lv_aload_n hx hb d_T_appendParts_60 rfl (lv_at hl 0 rfl) ?_
  refine va_get (ci := 2) (v := .ref (a 17)) (C := R_T) (T := F_T) (N := 12) hx hb hts i_T hown hK.1 hP 0 rfl rfl 6 (by decide) (hts _ wd_47) (fun _ h9 => h9) rfl d_T_appendParts_61 ?_
  refine lv_iload_n hx hb d_T_appendParts_64 rfl (lv_at hl 1 rfl) ?_
  refine lv_iload hx hb d_T_appendParts_65 (lv_at hl 4 rfl) ?_
  replace h := gd h
  obtain ⟨hi, h⟩ := h
  refine rw_iast C0 hP hD hS 7 0 rfl rfl hi d_T_appendParts_67 (Wn := ((wT cI cZ a q (T_put_partCounts (T_put_partStarts (T_set_parts σ ((T_parts σ).1, va_cpy pa2.2 (T_parts σ).2 x3.toNatClampNeg (T_partsUsed σ).toNatClampNeg x4.toNatClampNeg)) x1 (T_partsUsed (T_set_parts σ ((T_parts σ).1, va_cpy pa2.2 (T_parts σ).2 x3.toNatClampNeg (T_partsUsed σ).toNatClampNeg x4.toNatClampNeg)))) x1 x4)) ++ [(b2, .inl (cI, pa2.1, .inl pa2.2))])) wsp_T_put_partCounts (fun H locs hP hD hS => ?_)
  refine lv_aload_n hx hb d_T_appendParts_68 rfl (lv_at hl 0 rfl) ?_
  refine lv_dup hx hb d_T_appendParts_69 rfl ?_
  refine va_get (ci := 2) (v := .int (T_partsUsed (T_put_partCounts (T_put_partStarts (T_set_parts σ ((T_parts σ).1, va_cpy pa2.2 (T_parts σ).2 x3.toNatClampNeg (T_partsUsed σ).toNatClampNeg x4.toNatClampNeg)) x1 (T_partsUsed (T_set_parts σ ((T_parts σ).1, va_cpy pa2.2 (T_parts σ).2 x3.toNatClampNeg (T_partsUsed σ).toNatClampNeg x4.toNatClampNeg)))) x1 x4))) (C := R_T) (T := F_T) (N := 12) hx hb hts i_T hown hK.1 hP 0 rfl rfl 8 (by decide) (hts _ wd_65) (fun _ h9 => h9) rfl d_T_appendParts_70 ?_
  refine lv_iload hx hb d_T_appendParts_73 (lv_at hl 4 rfl) ?_
  refine lv_iadd hx hb d_T_appendParts_75 ?_
  refine rw_put (v := .int ((T_partsUsed (T_put_partCounts (T_put_partStarts (T_set_parts σ ((T_parts σ).1, va_cpy pa2.2 (T_parts σ).2 x3.toNatClampNeg (T_partsUsed σ).toNatClampNeg x4.toNatClampNeg)) x1 (T_partsUsed (T_set_parts σ ((T_parts σ).1, va_cpy pa2.2 (T_parts σ).2 x3.toNatClampNeg (T_partsUsed σ).toNatClampNeg x4.toNatClampNeg)))) x1 x4)) + x4)) (fty := .int) (C := R_T) (T := F_T) (N := 12) C0 hP hD hS i_T ty_T tyok_T nn_T 0 rfl rfl 8 (by decide) (hts _ wd_65) rfl rfl (by decide +kernel) rfl rfl (Nat.le_of_ble_eq_true rfl) d_T_appendParts_76 (Wn := ((wT cI cZ a q (T_set_partsUsed (T_put_partCounts (T_put_partStarts (T_set_parts σ ((T_parts σ).1, va_cpy pa2.2 (T_parts σ).2 x3.toNatClampNeg (T_partsUsed σ).toNatClampNeg x4.toNatClampNeg)) x1 (T_partsUsed (T_set_parts σ ((T_parts σ).1, va_cpy pa2.2 (T_parts σ).2 x3.toNatClampNeg (T_partsUsed σ).toNatClampNeg x4.toNatClampNeg)))) x1 x4) ((T_partsUsed (T_put_partCounts (T_put_partStarts (T_set_parts σ ((T_parts σ).1, va_cpy pa2.2 (T_parts σ).2 x3.toNatClampNeg (T_partsUsed σ).toNatClampNeg x4.toNatClampNeg)) x1 (T_partsUsed (T_set_parts σ ((T_parts σ).1, va_cpy pa2.2 (T_parts σ).2 x3.toNatClampNeg (T_partsUsed σ).toNatClampNeg x4.toNatClampNeg)))) x1 x4)) + x4))) ++ [(b2, .inl (cI, pa2.1, .inl pa2.2))])) wsp_T_set_partsUsed (fun H locs hP hD hS => ?_)
  cases h; exact tx_retv C0 hP hD hS (by omega) (by omega) d_T_appendParts_79
set_option maxHeartbeats 4000000 in
set_option maxRecDepth 100000 in
theorem t_T_appendParts_0 {p : Program} {l : Launch} {e : Env} {s : State} {m : MethodId} {args : Array Value} {below : List Frame} {meth : Method} {c : Code} {D : va_G} {cI cZ : ClassId} {a : Nat → Nat} {pa2 : Nat × (Nat → Int32)} {b2 : Nat} {A : Nat → Prop} (C0 : Am p s m args meth c b_T_appendParts none 5 R_T D [(cI, .int), (cZ, .boolean)]) (hA : ∀ q, s.heap.size ≤ q → A q) (hT : ∀ x ∈ c.exceptionTable.toList, False) (hl0 : l.stackTraces = false) (hZ : Zs A s s.heap) {v : Int32 ⊕ Nat} {u : StT} {K N : Nat}   {q : Nat} {σ : StT} {x1 x3 x4 : Int32} {kc ks mc ms : Nat} (h : f_T_appendParts pa2 σ x1 x3 x4 = some (v, u, mc, ms)) (hkc : kc + mc = K) (hks : ks + ms = N) {H : Heap} {locs : List Loc} (hP : va_P D vwCl ((wT cI cZ a q σ) ++ [(b2, .inl (cI, pa2.1, .inl pa2.2))]) H) (hD : va_D A ((wT cI cZ a q σ) ++ [(b2, .inl (cI, pa2.1, .inl pa2.2))])) (hS : va_S A s.heap H locs) {ls : Array Slot} (hl : lv_has ls 5 [(0, .ref (a 10)), (1, .int x1), (2, .ref b2), (3, .int x3), (4, .int x4)]) : W p l e (rmK 2 82 K N) s m args below meth c H locs kc ks (TxQv below args s D A (fun q (σ : StT) => ((wT cI cZ a q σ) ++ [(b2, .inl (cI, pa2.1, .inl pa2.2))])) v u K N) (F0 m 0 ls []) := by
  obtain ⟨hx, hb, hr, hml, hown, hts, hlk, hK⟩ := id C0
  have hcs : kc ≤ K ∧ ks ≤ N := ⟨by omega, by omega⟩
  unfold f_T_appendParts at h
  refine lv_aload_n hx hb d_T_appendParts_0 rfl (lv_at hl 0 rfl) ?_
  refine va_get (ci := 2) (v := .int (T_partsUsed σ)) (C := R_T) (T := F_T) (N := 12) hx hb hts i_T hown hK.1 hP 0 rfl rfl 8 (by decide) (hts _ wd_65) (fun _ h9 => h9) rfl d_T_appendParts_1 ?_
  refine lv_iload hx hb d_T_appendParts_4 (lv_at hl 4 rfl) ?_
  refine lv_iadd hx hb d_T_appendParts_6 ?_
  refine lv_aload_n hx hb d_T_appendParts_7 rfl (lv_at hl 0 rfl) ?_
  refine va_get (ci := 2) (v := .ref q) (C := R_T) (T := F_T) (N := 12) hx hb hts i_T hown hK.1 hP 0 rfl rfl 7 (by decide) (hts _ wd_191) (fun _ h9 => h9) rfl d_T_appendParts_8 ?_
  refine va_alen hx hb hK.1 hP 8 0 rfl rfl rfl d_T_appendParts_11 ?_
  refine lv_icmp_le (tgt := 35) hx hb d_T_appendParts_12 (by decide) (fun hc => ?_) (fun hc => ?_)
  · rw [if_pos hc] at h
    exact t_T_appendParts_35 (a := a) C0 hA hT hl0 hZ  h hkc hks hP hD hS (lv_sub hl [0, 1, 2, 3, 4] rfl)
  · rw [if_neg hc] at h
    refine lv_aload_n hx hb d_T_appendParts_15 rfl (lv_at hl 0 rfl) ?_
    refine lv_aload_n hx hb d_T_appendParts_16 rfl (lv_at hl 0 rfl) ?_
    refine va_get (ci := 2) (v := .ref q) (C := R_T) (T := F_T) (N := 12) hx hb hts i_T hown hK.1 hP 0 rfl rfl 7 (by decide) (hts _ wd_191) (fun _ h9 => h9) rfl d_T_appendParts_17 ?_
    refine lv_iconst (v := 2) hx hb d_T_appendParts_20 (by decide) ?_
    refine lv_aload_n hx hb d_T_appendParts_21 rfl (lv_at hl 0 rfl) ?_
    refine va_get (ci := 2) (v := .int (T_partsUsed σ)) (C := R_T) (T := F_T) (N := 12) hx hb hts i_T hown hK.1 hP 0 rfl rfl 8 (by decide) (hts _ wd_65) (fun _ h9 => h9) rfl d_T_appendParts_22 ?_
    refine lv_iload hx hb d_T_appendParts_25 (lv_at hl 4 rfl) ?_
    refine lv_iadd hx hb d_T_appendParts_27 ?_
    refine lv_imul hx hb d_T_appendParts_28 ?_
    replace h := gd h
    obtain ⟨hi, h⟩ := h
    replace h := ad_s h
    obtain ⟨mc, ms, h, rfl, rfl⟩ := h
    refine tx_copyOf (n := (2 * ((T_partsUsed σ) + x4))) (ln := (T_parts σ).1) (f := (T_parts σ).2) (b := q) (rest := [.ref (a 10)]) C0 hA hi wd_231 ⟨Nat.le_of_ble_eq_true rfl, Nat.le_of_ble_eq_true rfl⟩ hP hD hS [8] [0, 1, 2, 3, 4, 5, 6, 7, 9] [0, 1, 2, 3, 4, 5, 6, 7, 9, 8, 10] rfl (by decide) rfl (by decide) (by decide) (by decide) (fun _ => rfl) hl rfl (Nat.le_of_ble_eq_true rfl) ⟨by show kc + 1 ≤ K; omega, by show ks + _ ≤ N; omega⟩ d_T_appendParts_29 (fun H locs q2 hP hD hS => ?_)
    have hkc : (kc + 1) + mc = K := by omega
    have hks : (ks + (2 * ((T_partsUsed σ) + x4)).toNatClampNeg) + ms = N := by omega
    have hcs : (kc + 1) ≤ K ∧ (ks + (2 * ((T_partsUsed σ) + x4)).toNatClampNeg) ≤ N := ⟨by omega, by omega⟩
    refine rw_put (v := .ref q2) (fty := (.array .int)) (C := R_T) (T := F_T) (N := 12) C0 hP hD hS i_T ty_T tyok_T nn_T 0 rfl rfl 7 (by decide) (hts _ wd_191) rfl rfl (by decide +kernel) rfl rfl (Nat.le_of_ble_eq_true rfl) d_T_appendParts_32 rfl (fun H locs hP hD hS => ?_)
    obtain ⟨q, hq⟩ : ∃ z, z = q2 := ⟨_, rfl⟩
    subst hq
    have hP : va_P D vwCl ((wT cI cZ a q (T_set_parts σ ((2 * ((T_partsUsed σ) + x4)).toNatClampNeg, J_copyOf (T_parts σ).2 (T_parts σ).1 (2 * ((T_partsUsed σ) + x4))))) ++ [(b2, .inl (cI, pa2.1, .inl pa2.2))]) H := hP.pick [0, 1, 2, 3, 4, 5, 6, 7, 10, 9] rfl
    have hD : va_D A ((wT cI cZ a q (T_set_parts σ ((2 * ((T_partsUsed σ) + x4)).toNatClampNeg, J_copyOf (T_parts σ).2 (T_parts σ).1 (2 * ((T_partsUsed σ) + x4))))) ++ [(b2, .inl (cI, pa2.1, .inl pa2.2))]) := hD.sub [0, 1, 2, 3, 4, 5, 6, 7, 10, 9] (by decide) rfl
    exact t_T_appendParts_35 (a := a) C0 hA hT hl0 hZ  h hkc hks hP hD hS (lv_sub hl [0, 1, 2, 3, 4] rfl)
set_option maxHeartbeats 4000000 in
set_option maxRecDepth 100000 in
theorem c_T_appendParts (l : Launch) (D : va_G) (cI cZ : ClassId) (a : Nat → Nat) (hl0 : l.stackTraces = false) (q : Nat) (σ : StT) (x1 : Int32) (pa2 : Nat × (Nat → Int32)) (b2 : Nat) (x3 : Int32) (x4 : Int32) {res : (Int32 ⊕ Nat) × StT × Nat × Nat} (h : f_T_appendParts pa2 σ x1 x3 x4 = some res) : TxMv l y_T_appendParts b_T_appendParts 5 2 82 D [(cI, .int), (cZ, .boolean)] [.ref (a 10), .int x1, .ref b2, .int x3, .int x4] (fun q (σ : StT) => ((wT cI cZ a q σ) ++ [(b2, .inl (cI, pa2.1, .inl pa2.2))])) q σ res :=
  tx_ofv (by decide) (Nat.le_of_ble_eq_true rfl) (fun p e s m args below meth c ls A C0 hA hT hZ hP hD hS hl => t_T_appendParts_0 (a := a) (kc := 0) (ks := 0) C0 hA hT hl0 hZ h (Nat.zero_add _) (Nat.zero_add _) hP hD hS (lv_sub hl [0, 1, 2, 3, 4] rfl))
def f_T_makeIntersection_38_s (k38 : StT → Int32 → Int32 → Int32 → Int32 → Option ((Int32 ⊕ Nat) × StT × Nat × Nat)) (pa1 : Nat × (Nat → Int32)) (σ : StT) (x2 x3 x4 x5 : Int32) : Option ((Int32 ⊕ Nat) × StT × Nat × Nat) :=
  if x3 ≤ x5 then
    (f_T_findIntersection pa1 σ x2 x3).bind fun r1 =>
    if r1 = (-1) then
      (f_T_append σ 3 x4).bind fun r2 =>
      if r2.1 = (-1) then
        some (.inl r2.1, r2.2, 0, 0)
      else
        (f_T_appendParts pa1 r2.2 r2.1 x2 x3).bind fun r3 => ad_ r3.2.2.1 r3.2.2.2 <| match r3.1 with
        | .inr e => some (.inr e, r3.2.1, 0, 0)
        | .inl r3v =>
        some (.inl r2.1, r3.2.1, 0, 0)
    else
      some (.inl r1, σ, 0, 0)
  else
    if (x2 + x5) < 0 ∨ pa1.1 ≤ (x2 + x5).toNatClampNeg then none else
    (f_T_sizeOf σ (pa1.2 (x2 + x5).toNatClampNeg)).bind fun r4 =>
    k38 σ x2 x3 (x4 + r4) (x5 + 1)
def f_T_makeIntersection_38 (pa1 : Nat × (Nat → Int32)) : Nat → StT → Int32 → Int32 → Int32 → Int32 → Option ((Int32 ⊕ Nat) × StT × Nat × Nat)
  | 0, _, _, _, _, _ => none
  | n + 1, σ, x2, x3, x4, x5 => f_T_makeIntersection_38_s (f_T_makeIntersection_38 pa1 n) pa1 σ x2 x3 x4 x5
def f_T_makeIntersection (pa1 : Nat × (Nat → Int32)) (σ : StT) (x2 x3 : Int32) : Option ((Int32 ⊕ Nat) × StT × Nat × Nat) :=
  if x2 < 0 then
    some (.inl (-1), σ, 0, 0)
  else
    if x3 < 1 then
      some (.inl (-1), σ, 0, 0)
    else
      if x3 ≤ ((Int32.ofNat pa1.1) - x2) then
        if x3 = 1 then
          if x2 < 0 ∨ pa1.1 ≤ x2.toNatClampNeg then none else
          some (.inl (pa1.2 x2.toNatClampNeg), σ, 0, 0)
        else
          f_T_makeIntersection_38 pa1 1000 σ x2 x3 1 0
      else
        some (.inl (-1), σ, 0, 0)
set_option maxHeartbeats 4000000 in
set_option maxRecDepth 100000 in
theorem t_T_makeIntersection_38_s {p : Program} {l : Launch} {e : Env} {s : State} {m : MethodId} {args : Array Value} {below : List Frame} {meth : Method} {c : Code} {D : va_G} {cI cZ : ClassId} {a : Nat → Nat} {pa1 : Nat × (Nat → Int32)} {b1 : Nat} {A : Nat → Prop} (C0 : Am p s m args meth c b_T_makeIntersection (some .int) 7 R_T D [(cI, .int), (cZ, .boolean)]) (hA : ∀ q, s.heap.size ≤ q → A q) (hT : ∀ x ∈ c.exceptionTable.toList, False) (hl0 : l.stackTraces = false) (hZ : Zs A s s.heap) {v : Int32 ⊕ Nat} {u : StT} {K N : Nat} {k38 : StT → Int32 → Int32 → Int32 → Int32 → Option ((Int32 ⊕ Nat) × StT × Nat × Nat)}  (hk38 : ∀ (q : Nat) (σ : StT) (x2 x3 x4 x5 : Int32) (kc ks mc ms : Nat) (H : Heap) (locs : List Loc) (ls : Array Slot), k38 σ x2 x3 x4 x5 = some (v, u, mc, ms) → kc + mc = K → ks + ms = N → va_P D vwCl ((wT cI cZ a q σ) ++ [(b1, .inl (cI, pa1.1, .inl pa1.2))]) H → va_D A ((wT cI cZ a q σ) ++ [(b1, .inl (cI, pa1.1, .inl pa1.2))]) → va_S A s.heap H locs → lv_has ls 7 [(0, .ref (a 10)), (1, .ref b1), (2, .int x2), (3, .int x3), (4, .int x4), (5, .int x5)] → W p l e (rmK 4 106 K N) s m args below meth c H locs kc ks (TxQ below args s D A (fun q (σ : StT) => ((wT cI cZ a q σ) ++ [(b1, .inl (cI, pa1.1, .inl pa1.2))])) v u K N) (F0 m 38 ls [])) {q : Nat} {σ : StT} {x2 x3 x4 x5 : Int32} {kc ks mc ms : Nat} (h : f_T_makeIntersection_38_s k38 pa1 σ x2 x3 x4 x5 = some (v, u, mc, ms)) (hkc : kc + mc = K) (hks : ks + ms = N) {H : Heap} {locs : List Loc} (hP : va_P D vwCl ((wT cI cZ a q σ) ++ [(b1, .inl (cI, pa1.1, .inl pa1.2))]) H) (hD : va_D A ((wT cI cZ a q σ) ++ [(b1, .inl (cI, pa1.1, .inl pa1.2))])) (hS : va_S A s.heap H locs) {ls : Array Slot} (hl : lv_has ls 7 [(0, .ref (a 10)), (1, .ref b1), (2, .int x2), (3, .int x3), (4, .int x4), (5, .int x5)]) : W p l e (rmK 4 106 K N) s m args below meth c H locs kc ks (TxQ below args s D A (fun q (σ : StT) => ((wT cI cZ a q σ) ++ [(b1, .inl (cI, pa1.1, .inl pa1.2))])) v u K N) (F0 m 38 ls []) := by
  obtain ⟨hx, hb, hr, hml, hown, hts, hlk, hK⟩ := id C0
  have hcs : kc ≤ K ∧ ks ≤ N := ⟨by omega, by omega⟩
  unfold f_T_makeIntersection_38_s at h
  refine lv_iload hx hb d_T_makeIntersection_38 (lv_at hl 5 rfl) ?_
  refine lv_iload_n hx hb d_T_makeIntersection_40 rfl (lv_at hl 3 rfl) ?_
  refine lv_icmp_ge (tgt := 65) hx hb d_T_makeIntersection_41 (by decide) (fun hc => ?_) (fun hc => ?_)
  · rw [if_pos hc] at h
    refine lv_aload_n hx hb d_T_makeIntersection_65 rfl (lv_at hl 0 rfl) ?_
    refine lv_aload_n hx hb d_T_makeIntersection_66 rfl (lv_at hl 1 rfl) ?_
    refine lv_iload_n hx hb d_T_makeIntersection_67 rfl (lv_at hl 2 rfl) ?_
    refine lv_iload_n hx hb d_T_makeIntersection_68 rfl (lv_at hl 3 rfl) ?_
    replace h := bd h
    obtain ⟨r1, g1, h⟩ := h
    refine ro_V (n := 3) (ci := 2) (As := [.ref b1, .int x2, .int x3]) (rest := []) C0 (c_T_findIntersection l D cI cZ a q σ pa1 b1 x2 x3 g1) wd_232 ⟨wd_233, wd_234, wd_235, wd_52⟩ (by decide +kernel) ⟨Nat.le_of_ble_eq_true rfl, Nat.le_of_ble_eq_true rfl⟩ hP rfl rfl rfl hl rfl rfl (Nat.le_of_ble_eq_true rfl) hcs d_T_makeIntersection_69 ?_
    try dsimp only at h
    refine lv_istore (lv' := [(5, .int r1), (0, .ref (a 10)), (1, .ref b1), (2, .int x2), (3, .int x3), (4, .int x4)]) hx hb d_T_makeIntersection_72 hl (by decide) rfl (fun ls hl => ?_)
    refine lv_iload hx hb d_T_makeIntersection_74 (lv_at hl 0 rfl) ?_
    refine lv_iconst (v := (-1)) hx hb d_T_makeIntersection_76 (by decide) ?_
    refine lv_icmp_eq (tgt := 83) hx hb d_T_makeIntersection_77 (by decide) (fun hc => ?_) (fun hc => ?_)
    · rw [if_pos hc] at h
      refine lv_aload_n hx hb d_T_makeIntersection_83 rfl (lv_at hl 1 rfl) ?_
      refine lv_iconst (v := 3) hx hb d_T_makeIntersection_84 (by decide) ?_
      refine lv_iload hx hb d_T_makeIntersection_85 (lv_at hl 5 rfl) ?_
      replace h := bd h
      obtain ⟨r2, g2, h⟩ := h
      refine rw_V (n := 2) (ci := 2) (As := [.int 3, .int x4]) (rest := []) (Wn := fun q => ((wT cI cZ a q r2.2) ++ [(b1, .inl (cI, pa1.1, .inl pa1.2))])) C0 hA (c_T_append l D cI cZ a q σ 3 x4 g2) wd_60 ⟨wd_61, wd_62, wd_63, wd_52⟩ (by decide +kernel) ⟨Nat.le_of_ble_eq_true rfl, Nat.le_of_ble_eq_true rfl⟩ hP hD hS [0, 1, 2, 3, 4, 5, 6, 7, 8] [9] [1, 2, 3, 4, 5, 6, 7, 8, 9, 0] jn_Tp__C (by decide) jn_Tp__R (by decide) (by decide) (by decide) jn_Tp__W rfl rfl rfl hl rfl rfl (Nat.le_of_ble_eq_true rfl) hcs d_T_makeIntersection_87 (fun H locs q hP hD hS => ?_)
      try dsimp only at h
      refine lv_istore (lv' := [(6, .int r2.1), (5, .int r1), (0, .ref (a 10)), (1, .ref b1), (2, .int x2), (3, .int x3), (4, .int x4)]) hx hb d_T_makeIntersection_90 hl (by decide) rfl (fun ls hl => ?_)
      refine lv_iload hx hb d_T_makeIntersection_92 (lv_at hl 0 rfl) ?_
      refine lv_iconst (v := (-1)) hx hb d_T_makeIntersection_94 (by decide) ?_
      refine lv_icmp_eq (tgt := 107) hx hb d_T_makeIntersection_95 (by decide) (fun hc => ?_) (fun hc => ?_)
      · rw [if_pos hc] at h
        refine lv_iload hx hb d_T_makeIntersection_107 (lv_at hl 0 rfl) ?_
        cases h; exact tx_ret C0 hP hD hS (by omega) (by omega) d_T_makeIntersection_109
      · rw [if_neg hc] at h
        refine lv_aload_n hx hb d_T_makeIntersection_98 rfl (lv_at hl 2 rfl) ?_
        refine lv_iload hx hb d_T_makeIntersection_99 (lv_at hl 0 rfl) ?_
        refine lv_aload_n hx hb d_T_makeIntersection_101 rfl (lv_at hl 3 rfl) ?_
        refine lv_iload_n hx hb d_T_makeIntersection_102 rfl (lv_at hl 4 rfl) ?_
        refine lv_iload_n hx hb d_T_makeIntersection_103 rfl (lv_at hl 5 rfl) ?_
        replace h := bd h
        obtain ⟨r3, g3, h⟩ := h
        try dsimp only at h
        replace h := ad_s h
        obtain ⟨mc, ms, h, rfl, rfl⟩ := h
        refine tx_Vv (n := 4) (ci := 2) (As := [.int r2.1, .ref b1, .int x2, .int x3]) (rest := []) (Wn := fun q => ((wT cI cZ a q r3.2.1) ++ [(b1, .inl (cI, pa1.1, .inl pa1.2))])) C0 hA hZ (c_T_appendParts l D cI cZ a hl0 q r2.2 r2.1 pa1 b1 x2 x3 g3) wd_236 ⟨wd_237, wd_238, wd_239, wd_52⟩ (by decide +kernel) ⟨Nat.le_of_ble_eq_true rfl, Nat.le_of_ble_eq_true rfl⟩ hP hD hS [0, 1, 2, 3, 4, 5, 6, 7, 8, 9] [] [0, 1, 2, 3, 4, 5, 6, 7, 8, 9] jn_Tp__p_C (by decide) jn_Tp__p_R (by decide) (by decide) (by decide) jn_Tp__p_W rfl rfl rfl hl rfl rfl (Nat.le_of_ble_eq_true rfl) ⟨by show kc + _ ≤ K; omega, by show ks + _ ≤ N; omega⟩ d_T_makeIntersection_104 (fun ek H locs q q9 ce hv hP hD hS h1 h2 h3 => ?_) (fun r3v H locs q hv hP hD hS => ?_)
        · rw [hv] at h
          cases h
          exact tx_out C0 hT hP hD hS h1 h2 h3 (by omega) (by omega)
        · rw [hv] at h
          try dsimp only at h
          have hkc : (kc + r3.2.2.1) + mc = K := by omega
          have hks : (ks + r3.2.2.2) + ms = N := by omega
          have hcs : (kc + r3.2.2.1) ≤ K ∧ (ks + r3.2.2.2) ≤ N := ⟨by omega, by omega⟩
          refine lv_iload hx hb d_T_makeIntersection_107 (lv_at hl 0 rfl) ?_
          cases h; exact tx_ret C0 hP hD hS (by omega) (by omega) d_T_makeIntersection_109
    · rw [if_neg hc] at h
      refine lv_iload hx hb d_T_makeIntersection_80 (lv_at hl 0 rfl) ?_
      cases h; exact tx_ret C0 hP hD hS (by omega) (by omega) d_T_makeIntersection_82
  · rw [if_neg hc] at h
    refine lv_iload hx hb d_T_makeIntersection_44 (lv_at hl 4 rfl) ?_
    refine lv_aload_n hx hb d_T_makeIntersection_46 rfl (lv_at hl 0 rfl) ?_
    refine lv_aload_n hx hb d_T_makeIntersection_47 rfl (lv_at hl 1 rfl) ?_
    refine lv_iload_n hx hb d_T_makeIntersection_48 rfl (lv_at hl 2 rfl) ?_
    refine lv_iload hx hb d_T_makeIntersection_49 (lv_at hl 5 rfl) ?_
    refine lv_iadd hx hb d_T_makeIntersection_51 ?_
    replace h := gd h
    obtain ⟨hi, h⟩ := h
    refine va_iald hx hb hK.1 hP 9 0 rfl rfl hi d_T_makeIntersection_52 ?_
    replace h := bd h
    obtain ⟨r4, g4, h⟩ := h
    refine ro_V (n := 1) (ci := 2) (As := [.int (pa1.2 (x2 + x5).toNatClampNeg)]) (rest := [.int x4]) C0 (c_T_sizeOf l D cI cZ a q σ (pa1.2 (x2 + x5).toNatClampNeg) g4) wd_56 ⟨wd_57, wd_58, wd_59, wd_52⟩ (by decide +kernel) ⟨Nat.le_of_ble_eq_true rfl, Nat.le_of_ble_eq_true rfl⟩ (hP.pick [0, 1, 2, 3, 4, 5, 6, 7, 8] rfl) rfl rfl rfl hl rfl rfl (Nat.le_of_ble_eq_true rfl) hcs d_T_makeIntersection_53 ?_
    try dsimp only at h
    refine lv_iadd hx hb d_T_makeIntersection_56 ?_
    refine lv_istore (lv' := [(4, .int (x4 + r4)), (0, .ref (a 10)), (1, .ref b1), (2, .int x2), (3, .int x3), (5, .int x5)]) hx hb d_T_makeIntersection_57 hl (by decide) rfl (fun ls hl => ?_)
    refine lv_iinc (v := (x5 + 1)) (lv' := [(5, .int (x5 + 1)), (4, .int (x4 + r4)), (0, .ref (a 10)), (1, .ref b1), (2, .int x2), (3, .int x3)]) hx hb d_T_makeIntersection_59 hl (k := 5) rfl rfl (by decide) rfl (fun ls hl => ?_)
    refine lv_goto (tgt := 38) hx hb d_T_makeIntersection_62 (by decide) ?_
    exact hk38 _ _ _ _ _ _ _ _ _ _ _ _ _ h hkc hks hP hD hS (lv_sub hl [2, 3, 4, 5, 1, 0] rfl)
set_option maxHeartbeats 4000000 in
set_option maxRecDepth 100000 in
theorem t_T_makeIntersection_38 {p : Program} {l : Launch} {e : Env} {s : State} {m : MethodId} {args : Array Value} {below : List Frame} {meth : Method} {c : Code} {D : va_G} {cI cZ : ClassId} {a : Nat → Nat} {pa1 : Nat × (Nat → Int32)} {b1 : Nat} {A : Nat → Prop} (C0 : Am p s m args meth c b_T_makeIntersection (some .int) 7 R_T D [(cI, .int), (cZ, .boolean)]) (hA : ∀ q, s.heap.size ≤ q → A q) (hT : ∀ x ∈ c.exceptionTable.toList, False) (hl0 : l.stackTraces = false) (hZ : Zs A s s.heap) {v : Int32 ⊕ Nat} {u : StT} {K N : Nat}  {n : Nat} {q : Nat} {σ : StT} {x2 x3 x4 x5 : Int32} {kc ks mc ms : Nat} (h : f_T_makeIntersection_38 pa1 n σ x2 x3 x4 x5 = some (v, u, mc, ms)) (hkc : kc + mc = K) (hks : ks + ms = N) {H : Heap} {locs : List Loc} (hP : va_P D vwCl ((wT cI cZ a q σ) ++ [(b1, .inl (cI, pa1.1, .inl pa1.2))]) H) (hD : va_D A ((wT cI cZ a q σ) ++ [(b1, .inl (cI, pa1.1, .inl pa1.2))])) (hS : va_S A s.heap H locs) {ls : Array Slot} (hl : lv_has ls 7 [(0, .ref (a 10)), (1, .ref b1), (2, .int x2), (3, .int x3), (4, .int x4), (5, .int x5)]) : W p l e (rmK 4 106 K N) s m args below meth c H locs kc ks (TxQ below args s D A (fun q (σ : StT) => ((wT cI cZ a q σ) ++ [(b1, .inl (cI, pa1.1, .inl pa1.2))])) v u K N) (F0 m 38 ls []) := by
  induction n generalizing q σ x2 x3 x4 x5 kc ks mc ms H locs ls with
  | zero => cases h
  | succ n ih => exact t_T_makeIntersection_38_s (a := a) C0 hA hT hl0 hZ  (fun _ _ _ _ _ _ _ _ _ _ _ _ _ h hkc hks hP hD hS hl => ih h hkc hks hP hD hS hl) h hkc hks hP hD hS hl
set_option maxHeartbeats 4000000 in
set_option maxRecDepth 100000 in
theorem t_T_makeIntersection_0 {p : Program} {l : Launch} {e : Env} {s : State} {m : MethodId} {args : Array Value} {below : List Frame} {meth : Method} {c : Code} {D : va_G} {cI cZ : ClassId} {a : Nat → Nat} {pa1 : Nat × (Nat → Int32)} {b1 : Nat} {A : Nat → Prop} (C0 : Am p s m args meth c b_T_makeIntersection (some .int) 7 R_T D [(cI, .int), (cZ, .boolean)]) (hA : ∀ q, s.heap.size ≤ q → A q) (hT : ∀ x ∈ c.exceptionTable.toList, False) (hl0 : l.stackTraces = false) (hZ : Zs A s s.heap) {v : Int32 ⊕ Nat} {u : StT} {K N : Nat}   {q : Nat} {σ : StT} {x2 x3 : Int32} {kc ks mc ms : Nat} (h : f_T_makeIntersection pa1 σ x2 x3 = some (v, u, mc, ms)) (hkc : kc + mc = K) (hks : ks + ms = N) {H : Heap} {locs : List Loc} (hP : va_P D vwCl ((wT cI cZ a q σ) ++ [(b1, .inl (cI, pa1.1, .inl pa1.2))]) H) (hD : va_D A ((wT cI cZ a q σ) ++ [(b1, .inl (cI, pa1.1, .inl pa1.2))])) (hS : va_S A s.heap H locs) {ls : Array Slot} (hl : lv_has ls 7 [(0, .ref (a 10)), (1, .ref b1), (2, .int x2), (3, .int x3)]) : W p l e (rmK 4 106 K N) s m args below meth c H locs kc ks (TxQ below args s D A (fun q (σ : StT) => ((wT cI cZ a q σ) ++ [(b1, .inl (cI, pa1.1, .inl pa1.2))])) v u K N) (F0 m 0 ls []) := by
  obtain ⟨hx, hb, hr, hml, hown, hts, hlk, hK⟩ := id C0
  have hcs : kc ≤ K ∧ ks ≤ N := ⟨by omega, by omega⟩
  unfold f_T_makeIntersection at h
  refine lv_aload_n hx hb d_T_makeIntersection_0 rfl (lv_at hl 1 rfl) ?_
  refine lv_ifnull hx hb d_T_makeIntersection_1 ?_
  refine lv_iload_n hx hb d_T_makeIntersection_4 rfl (lv_at hl 2 rfl) ?_
  refine lv_if_lt (tgt := 21) hx hb d_T_makeIntersection_5 (by decide) (fun hc => ?_) (fun hc => ?_)
  · rw [if_pos hc] at h
    refine lv_iconst (v := (-1)) hx hb d_T_makeIntersection_21 (by decide) ?_
    cases h; exact tx_ret C0 hP hD hS (by omega) (by omega) d_T_makeIntersection_22
  · rw [if_neg hc] at h
    refine lv_iload_n hx hb d_T_makeIntersection_8 rfl (lv_at hl 3 rfl) ?_
    refine lv_iconst (v := 1) hx hb d_T_makeIntersection_9 (by decide) ?_
    refine lv_icmp_lt (tgt := 21) hx hb d_T_makeIntersection_10 (by decide) (fun hc => ?_) (fun hc => ?_)
    · rw [if_pos hc] at h
      refine lv_iconst (v := (-1)) hx hb d_T_makeIntersection_21 (by decide) ?_
      cases h; exact tx_ret C0 hP hD hS (by omega) (by omega) d_T_makeIntersection_22
    · rw [if_neg hc] at h
      refine lv_iload_n hx hb d_T_makeIntersection_13 rfl (lv_at hl 3 rfl) ?_
      refine lv_aload_n hx hb d_T_makeIntersection_14 rfl (lv_at hl 1 rfl) ?_
      refine va_alen hx hb hK.1 hP 9 0 rfl rfl rfl d_T_makeIntersection_15 ?_
      refine lv_iload_n hx hb d_T_makeIntersection_16 rfl (lv_at hl 2 rfl) ?_
      refine lv_isub hx hb d_T_makeIntersection_17 ?_
      refine lv_icmp_le (tgt := 23) hx hb d_T_makeIntersection_18 (by decide) (fun hc => ?_) (fun hc => ?_)
      · rw [if_pos hc] at h
        refine lv_iload_n hx hb d_T_makeIntersection_23 rfl (lv_at hl 3 rfl) ?_
        refine lv_iconst (v := 1) hx hb d_T_makeIntersection_24 (by decide) ?_
        refine lv_icmp_ne (tgt := 32) hx hb d_T_makeIntersection_25 (by decide) (fun hc => ?_) (fun hc => ?_)
        · rw [if_neg hc] at h
          refine lv_iconst (v := 1) hx hb d_T_makeIntersection_32 (by decide) ?_
          refine lv_istore (lv' := [(4, .int 1), (0, .ref (a 10)), (1, .ref b1), (2, .int x2), (3, .int x3)]) hx hb d_T_makeIntersection_33 hl (by decide) rfl (fun ls hl => ?_)
          refine lv_iconst (v := 0) hx hb d_T_makeIntersection_35 (by decide) ?_
          refine lv_istore (lv' := [(5, .int 0), (4, .int 1), (0, .ref (a 10)), (1, .ref b1), (2, .int x2), (3, .int x3)]) hx hb d_T_makeIntersection_36 hl (by decide) rfl (fun ls hl => ?_)
          exact t_T_makeIntersection_38 (a := a) C0 hA hT hl0 hZ  h hkc hks hP hD hS (lv_sub hl [2, 3, 4, 5, 1, 0] rfl)
        · rw [if_pos hc] at h
          refine lv_aload_n hx hb d_T_makeIntersection_28 rfl (lv_at hl 1 rfl) ?_
          refine lv_iload_n hx hb d_T_makeIntersection_29 rfl (lv_at hl 2 rfl) ?_
          replace h := gd h
          obtain ⟨hi, h⟩ := h
          refine va_iald hx hb hK.1 hP 9 0 rfl rfl hi d_T_makeIntersection_30 ?_
          cases h; exact tx_ret C0 hP hD hS (by omega) (by omega) d_T_makeIntersection_31
      · rw [if_neg hc] at h
        refine lv_iconst (v := (-1)) hx hb d_T_makeIntersection_21 (by decide) ?_
        cases h; exact tx_ret C0 hP hD hS (by omega) (by omega) d_T_makeIntersection_22
set_option maxHeartbeats 4000000 in
set_option maxRecDepth 100000 in
theorem c_T_makeIntersection (l : Launch) (D : va_G) (cI cZ : ClassId) (a : Nat → Nat) (hl0 : l.stackTraces = false) (q : Nat) (σ : StT) (pa1 : Nat × (Nat → Int32)) (b1 : Nat) (x2 : Int32) (x3 : Int32) {res : (Int32 ⊕ Nat) × StT × Nat × Nat} (h : f_T_makeIntersection pa1 σ x2 x3 = some res) : TxM l y_T_makeIntersection b_T_makeIntersection 7 (some .int) 4 106 D [(cI, .int), (cZ, .boolean)] [.ref (a 10), .ref b1, .int x2, .int x3] (fun q (σ : StT) => ((wT cI cZ a q σ) ++ [(b1, .inl (cI, pa1.1, .inl pa1.2))])) q σ res :=
  tx_of (by decide) (Nat.le_of_ble_eq_true rfl) (fun p e s m args below meth c ls A C0 hA hT hZ hP hD hS hl => t_T_makeIntersection_0 (a := a) (kc := 0) (ks := 0) C0 hA hT hl0 hZ h (Nat.zero_add _) (Nat.zero_add _) hP hD hS (lv_sub hl [0, 1, 2, 3] rfl))
def f_T_count (σ : StT) : Int32 :=
  (T_count σ)
set_option maxHeartbeats 4000000 in
set_option maxRecDepth 100000 in
theorem t_T_count_0 {p : Program} {l : Launch} {e : Env} {s : State} {m : MethodId} {args : Array Value} {below : List Frame} {meth : Method} {c : Code} {D : va_G} {cI cZ : ClassId} {a : Nat → Nat} {q : Nat} {σ : StT} (C0 : Am p s m args meth c b_T_count (some .int) 1 R_T D [(cI, .int), (cZ, .boolean)]) (hP : va_P D vwCl (wT cI cZ a q σ) s.heap) {val : Int32}   (h : f_T_count σ = val) {ls : Array Slot} (hl : lv_has ls 1 [(0, .ref (a 10))]) : RoW p l e (rmK 0 0 0 0) s m args below meth c val (F0 m 0 ls []) := by
  obtain ⟨hx, hb, hr, hml, hown, hts, hlk, hK⟩ := id C0
  unfold f_T_count at h
  refine lv_aload_n hx hb d_T_count_0 rfl (lv_at hl 0 rfl) ?_
  refine va_get (ci := 2) (v := .int (T_count σ)) (C := R_T) (T := F_T) (N := 12) hx hb hts i_T hown hK.1 hP 0 rfl rfl 9 (by decide) (hts _ wd_40) (fun _ h9 => h9) rfl d_T_count_1 ?_
  exact ro_ret C0 h d_T_count_4
set_option maxHeartbeats 4000000 in
set_option maxRecDepth 100000 in
theorem c_T_count (l : Launch) (D : va_G) (cI cZ : ClassId) (a : Nat → Nat) (q : Nat) (σ : StT) {val : Int32} (h : f_T_count σ = val) : RoM l y_T_count b_T_count 1 (some .int) 0 0 D [(cI, .int), (cZ, .boolean)] [.ref (a 10)] (wT cI cZ a q σ) val :=
  ro_of (by decide) (Nat.le_of_ble_eq_true rfl) (fun p e s m args below meth c ls C0 hP hl => t_T_count_0 (a := a) C0 hP h (lv_sub hl [0] rfl))
-- part 07.4A.lean.txt
def f_A_forget (σ : StA) : Option (Int32 × StA) :=
  if (A_empty σ) = 0 then
    some (0, (A_set_empty (A_set_cells σ (J_fill (A_cells σ) 5625 (0 : Int32))) 1))
  else
    some (0, σ)
set_option maxHeartbeats 4000000 in
set_option maxRecDepth 100000 in
theorem t_A_forget_0 {p : Program} {l : Launch} {e : Env} {s : State} {m : MethodId} {args : Array Value} {below : List Frame} {meth : Method} {c : Code} {D : va_G} {cI cZ : ClassId} {a : Nat → Nat} {A : Nat → Prop} (C0 : Am p s m args meth c b_A_forget none 1 R_A D [(cI, .int), (cZ, .boolean)]) (hA : ∀ q, s.heap.size ≤ q → A q) {res : Int32 × StA}   {q : Nat} {σ : StA} (h : f_A_forget σ = some res) {H : Heap} {locs : List Loc} (hP : va_P D vwCl (wA cI cZ a q σ) H) (hD : va_D A (wA cI cZ a q σ)) (hS : va_S A s.heap H locs) {ls : Array Slot} (hl : lv_has ls 1 [(0, .ref (a 18))]) : W p l e (rmK 2 82 0 0) s m args below meth c H locs 0 0 (RwQv below args s D A (fun q (σ : StA) => (wA cI cZ a q σ)) res 0 0) (F0 m 0 ls []) := by
  obtain ⟨hx, hb, hr, hml, hown, hts, hlk, hK⟩ := id C0
  unfold f_A_forget at h
  refine lv_aload_n hx hb d_A_forget_0 rfl (lv_at hl 0 rfl) ?_
  refine va_get (ci := 3) (v := .int (A_empty σ)) (C := R_A) (T := F_A) (N := 2) hx hb hts i_A hown hK.1 hP 0 rfl rfl 1 (by decide) (hts _ wd_128) (fun _ h9 => h9) rfl d_A_forget_1 ?_
  refine lv_if_ne (tgt := 20) hx hb d_A_forget_4 (by decide) (fun hc => ?_) (fun hc => ?_)
  · rw [if_neg hc] at h
    exact rw_retv C0 hP hD hS (Option.some.inj h) d_A_forget_20
  · rw [if_pos hc] at h
    refine lv_aload_n hx hb d_A_forget_7 rfl (lv_at hl 0 rfl) ?_
    refine va_get (ci := 3) (v := .ref (a 19)) (C := R_A) (T := F_A) (N := 2) hx hb hts i_A hown hK.1 hP 0 rfl rfl 0 (by decide) (hts _ wd_129) (fun _ h9 => h9) rfl d_A_forget_8 ?_
    refine lv_iconst (v := 0) hx hb d_A_forget_11 (by decide) ?_
    refine rw_Sv (n := 2) (As := [.ref (a 19), .int 0]) (rest := []) (Wn := fun _ => (wA cI cZ a q (A_set_cells σ (J_fill (A_cells σ) 5625 (0 : Int32))))) C0 hA (c_J_fill l D cI cZ (a 19) 5625 (A_cells σ) (0 : Int32) (by decide)) wd_130 ⟨wd_131, wd_132, wd_133⟩ (by decide +kernel) ⟨Nat.le_of_ble_eq_true rfl, Nat.le_of_ble_eq_true rfl⟩ hP hD hS [1] [0] [0, 1] jf_A_cells_C (by decide) jf_A_cells_R (by decide) (by decide) (by decide) jf_A_cells_W hl rfl rfl (Nat.le_of_ble_eq_true rfl) ⟨Nat.zero_le _, Nat.zero_le _⟩ d_A_forget_12 (fun H locs _ hP hD hS => ?_)
    refine lv_aload_n hx hb d_A_forget_15 rfl (lv_at hl 0 rfl) ?_
    refine lv_iconst (v := 1) hx hb d_A_forget_16 (by decide) ?_
    refine rw_put (v := .int 1) (fty := .boolean) (C := R_A) (T := F_A) (N := 2) C0 hP hD hS i_A ty_A tyok_A nn_A 0 rfl rfl 1 (by decide) (hts _ wd_128) rfl rfl (by decide +kernel) rfl rfl (Nat.le_of_ble_eq_true rfl) d_A_forget_17 (Wn := (wA cI cZ a q (A_set_empty (A_set_cells σ (J_fill (A_cells σ) 5625 (0 : Int32))) 1))) ws_A_set_empty (fun H locs hP hD hS => ?_)
    exact rw_retv C0 hP hD hS (Option.some.inj h) d_A_forget_20
set_option maxHeartbeats 4000000 in
set_option maxRecDepth 100000 in
theorem c_A_forget (l : Launch) (D : va_G) (cI cZ : ClassId) (a : Nat → Nat) (q : Nat) (σ : StA) {res : Int32 × StA} (h : f_A_forget σ = some res) : RwMv l y_A_forget b_A_forget 1 2 82 D [(cI, .int), (cZ, .boolean)] [.ref (a 18)] (fun q (σ : StA) => (wA cI cZ a q σ)) q σ res :=
  rw_ofv (by decide) (Nat.le_of_ble_eq_true rfl) (fun p e s m args below meth c ls A C0 hA hP hD hS hl => t_A_forget_0 (a := a) C0 hA h hP hD hS (lv_sub hl [0] rfl))
def f_A_isPair (x0 x1 : Int32) : Int32 :=
  if x0 < 0 then
    0
  else
    if 300 ≤ x0 then
      0
    else
      if x1 < 0 then
        0
      else
        if 300 ≤ x1 then
          0
        else
          1
set_option maxHeartbeats 4000000 in
set_option maxRecDepth 100000 in
theorem t_A_isPair_0 {p : Program} {l : Launch} {e : Env} {s : State} {m : MethodId} {args : Array Value} {below : List Frame} {meth : Method} {c : Code} {D : va_G} {cI cZ : ClassId} {a : Nat → Nat} (C0 : Am p s m args meth c b_A_isPair (some .boolean) 2 R_A D [(cI, .int), (cZ, .boolean)]) {val : Int32}   {x0 x1 : Int32} (h : f_A_isPair x0 x1 = val) {ls : Array Slot} (hl : lv_has ls 2 [(0, .int x0), (1, .int x1)]) : RoW p l e (rmK 0 0 0 0) s m args below meth c val (F0 m 0 ls []) := by
  obtain ⟨hx, hb, hr, hml, hown, hts, hlk, hK⟩ := id C0
  unfold f_A_isPair at h
  refine lv_iload_n hx hb d_A_isPair_0 rfl (lv_at hl 0 rfl) ?_
  refine lv_if_lt (tgt := 26) hx hb d_A_isPair_1 (by decide) (fun hc => ?_) (fun hc => ?_)
  · rw [if_pos hc] at h
    refine lv_iconst (v := 0) hx hb d_A_isPair_26 (by decide) ?_
    exact ro_retz C0 (by decide) h d_A_isPair_27
  · rw [if_neg hc] at h
    refine lv_iload_n hx hb d_A_isPair_4 rfl (lv_at hl 0 rfl) ?_
    refine lv_sipush (v := 300) hx hb d_A_isPair_5 (by decide) ?_
    refine lv_icmp_ge (tgt := 26) hx hb d_A_isPair_8 (by decide) (fun hc => ?_) (fun hc => ?_)
    · rw [if_pos hc] at h
      refine lv_iconst (v := 0) hx hb d_A_isPair_26 (by decide) ?_
      exact ro_retz C0 (by decide) h d_A_isPair_27
    · rw [if_neg hc] at h
      refine lv_iload_n hx hb d_A_isPair_11 rfl (lv_at hl 1 rfl) ?_
      refine lv_if_lt (tgt := 26) hx hb d_A_isPair_12 (by decide) (fun hc => ?_) (fun hc => ?_)
      · rw [if_pos hc] at h
        refine lv_iconst (v := 0) hx hb d_A_isPair_26 (by decide) ?_
        exact ro_retz C0 (by decide) h d_A_isPair_27
      · rw [if_neg hc] at h
        refine lv_iload_n hx hb d_A_isPair_15 rfl (lv_at hl 1 rfl) ?_
        refine lv_sipush (v := 300) hx hb d_A_isPair_16 (by decide) ?_
        refine lv_icmp_ge (tgt := 26) hx hb d_A_isPair_19 (by decide) (fun hc => ?_) (fun hc => ?_)
        · rw [if_pos hc] at h
          refine lv_iconst (v := 0) hx hb d_A_isPair_26 (by decide) ?_
          exact ro_retz C0 (by decide) h d_A_isPair_27
        · rw [if_neg hc] at h
          refine lv_iconst (v := 1) hx hb d_A_isPair_22 (by decide) ?_
          refine lv_goto (tgt := 27) hx hb d_A_isPair_23 (by decide) ?_
          exact ro_retz C0 (by decide) h d_A_isPair_27
set_option maxHeartbeats 4000000 in
set_option maxRecDepth 100000 in
theorem c_A_isPair (l : Launch) (D : va_G) (cI cZ : ClassId) (a : Nat → Nat) (x0 : Int32) (x1 : Int32) {val : Int32} (h : f_A_isPair x0 x1 = val) : RoM l y_A_isPair b_A_isPair 2 (some .boolean) 0 0 D [(cI, .int), (cZ, .boolean)] [.int x0, .int x1] [] val :=
  ro_of (by decide) (Nat.le_of_ble_eq_true rfl) (fun p e s m args below meth c ls C0 hP hl => t_A_isPair_0 (a := a) C0 h (lv_sub hl [0, 1] rfl))
def f_A_read (σ : StA) (x1 x2 : Int32) : Option Int32 :=
  if (f_A_isPair x1 x2) = 0 then
    some 0
  else
    if (((x1 * 300) + x2) >>> (4 &&& 31)) < 0 ∨ 5625 ≤ (((x1 * 300) + x2) >>> (4 &&& 31)).toNatClampNeg then none else
    some ((((A_cells σ) (((x1 * 300) + x2) >>> (4 &&& 31)).toNatClampNeg) >>> ((2 * (((x1 * 300) + x2) &&& 15)) &&& 31)) &&& 3)
set_option maxHeartbeats 4000000 in
set_option maxRecDepth 100000 in
theorem t_A_read_0 {p : Program} {l : Launch} {e : Env} {s : State} {m : MethodId} {args : Array Value} {below : List Frame} {meth : Method} {c : Code} {D : va_G} {cI cZ : ClassId} {a : Nat → Nat} {q : Nat} {σ : StA} (C0 : Am p s m args meth c b_A_read (some .int) 4 R_A D [(cI, .int), (cZ, .boolean)]) (hP : va_P D vwCl (wA cI cZ a q σ) s.heap) {val : Int32}   {x1 x2 : Int32} (h : f_A_read σ x1 x2 = some val) {ls : Array Slot} (hl : lv_has ls 4 [(0, .ref (a 18)), (1, .int x1), (2, .int x2)]) : RoW p l e (rmK 1 21 0 0) s m args below meth c val (F0 m 0 ls []) := by
  obtain ⟨hx, hb, hr, hml, hown, hts, hlk, hK⟩ := id C0
  unfold f_A_read at h
  refine lv_iload_n hx hb d_A_read_0 rfl (lv_at hl 1 rfl) ?_
  refine lv_iload_n hx hb d_A_read_1 rfl (lv_at hl 2 rfl) ?_
  refine ro_S (n := 2) (As := [.int x1, .int x2]) (rest := []) C0 (c_A_isPair l D cI cZ a x1 x2 rfl) wd_279 ⟨wd_280, wd_281, wd_155⟩ (by decide +kernel) ⟨Nat.le_of_ble_eq_true rfl, Nat.le_of_ble_eq_true rfl⟩ pnil hl rfl rfl (Nat.le_of_ble_eq_true rfl) ⟨Nat.zero_le _, Nat.zero_le _⟩ d_A_read_2 ?_
  refine lv_if_ne (tgt := 10) hx hb d_A_read_5 (by decide) (fun hc => ?_) (fun hc => ?_)
  · rw [if_neg hc] at h
    refine lv_iload_n hx hb d_A_read_10 rfl (lv_at hl 1 rfl) ?_
    refine lv_sipush (v := 300) hx hb d_A_read_11 (by decide) ?_
    refine lv_imul hx hb d_A_read_14 ?_
    refine lv_iload_n hx hb d_A_read_15 rfl (lv_at hl 2 rfl) ?_
    refine lv_iadd hx hb d_A_read_16 ?_
    refine lv_istore_n (lv' := [(3, .int ((x1 * 300) + x2)), (0, .ref (a 18)), (1, .int x1), (2, .int x2)]) hx hb d_A_read_17 rfl hl (by decide) rfl (fun ls hl => ?_)
    refine lv_aload_n hx hb d_A_read_18 rfl (lv_at hl 1 rfl) ?_
    refine va_get (ci := 3) (v := .ref (a 19)) (C := R_A) (T := F_A) (N := 2) hx hb hts i_A hown hK.1 hP 0 rfl rfl 0 (by decide) (hts _ wd_129) (fun _ h9 => h9) rfl d_A_read_19 ?_
    refine lv_iload_n hx hb d_A_read_22 rfl (lv_at hl 0 rfl) ?_
    refine lv_iconst (v := 4) hx hb d_A_read_23 (by decide) ?_
    refine lv_ishr hx hb d_A_read_24 ?_
    replace h := gd h
    obtain ⟨hi, h⟩ := h
    refine va_iald hx hb hK.1 hP 1 0 rfl rfl hi d_A_read_25 ?_
    refine lv_iconst (v := 2) hx hb d_A_read_26 (by decide) ?_
    refine lv_iload_n hx hb d_A_read_27 rfl (lv_at hl 0 rfl) ?_
    refine lv_bipush (v := 15) hx hb d_A_read_28 (by decide) ?_
    refine lv_iand hx hb d_A_read_30 ?_
    refine lv_imul hx hb d_A_read_31 ?_
    refine lv_ishr hx hb d_A_read_32 ?_
    refine lv_iconst (v := 3) hx hb d_A_read_33 (by decide) ?_
    refine lv_iand hx hb d_A_read_34 ?_
    exact ro_ret C0 (Option.some.inj h) d_A_read_35
  · rw [if_pos hc] at h
    refine lv_iconst (v := 0) hx hb d_A_read_8 (by decide) ?_
    exact ro_ret C0 (Option.some.inj h) d_A_read_9
set_option maxHeartbeats 4000000 in
set_option maxRecDepth 100000 in
theorem c_A_read (l : Launch) (D : va_G) (cI cZ : ClassId) (a : Nat → Nat) (q : Nat) (σ : StA) (x1 : Int32) (x2 : Int32) {val : Int32} (h : f_A_read σ x1 x2 = some val) : RoM l y_A_read b_A_read 4 (some .int) 1 21 D [(cI, .int), (cZ, .boolean)] [.ref (a 18), .int x1, .int x2] (wA cI cZ a q σ) val :=
  ro_of (by decide) (Nat.le_of_ble_eq_true rfl) (fun p e s m args below meth c ls C0 hP hl => t_A_read_0 (a := a) C0 hP h (lv_sub hl [0, 1, 2] rfl))
def f_A_keep_37 (σ : StA) (x4 t1 t2 t3 : Int32) : Option (Int32 × StA) :=
  if t1 < 0 ∨ 5625 ≤ t1.toNatClampNeg then none else
  some (0, (A_set_empty (A_put_cells σ t1 (t2 ||| (t3 <<< ((2 * (x4 &&& 15)) &&& 31)))) 0))
def f_A_keep (σ : StA) (x1 x2 x3 : Int32) : Option (Int32 × StA) :=
  if (f_A_isPair x1 x2) = 0 then
    some (0, σ)
  else
    if (((x1 * 300) + x2) >>> (4 &&& 31)) < 0 ∨ 5625 ≤ (((x1 * 300) + x2) >>> (4 &&& 31)).toNatClampNeg then none else
    if x3 = 0 then
      f_A_keep_37 σ ((x1 * 300) + x2) (((x1 * 300) + x2) >>> (4 &&& 31)) ((A_cells σ) (((x1 * 300) + x2) >>> (4 &&& 31)).toNatClampNeg) 1
    else
      f_A_keep_37 σ ((x1 * 300) + x2) (((x1 * 300) + x2) >>> (4 &&& 31)) ((A_cells σ) (((x1 * 300) + x2) >>> (4 &&& 31)).toNatClampNeg) 2
set_option maxHeartbeats 4000000 in
set_option maxRecDepth 100000 in
theorem t_A_keep_37 {p : Program} {l : Launch} {e : Env} {s : State} {m : MethodId} {args : Array Value} {below : List Frame} {meth : Method} {c : Code} {D : va_G} {cI cZ : ClassId} {a : Nat → Nat} {A : Nat → Prop} (C0 : Am p s m args meth c b_A_keep none 5 R_A D [(cI, .int), (cZ, .boolean)]) (hA : ∀ q, s.heap.size ≤ q → A q) {res : Int32 × StA}   {q : Nat} {σ : StA} {x4 t1 t2 t3 : Int32} (h : f_A_keep_37 σ x4 t1 t2 t3 = some res) {H : Heap} {locs : List Loc} (hP : va_P D vwCl (wA cI cZ a q σ) H) (hD : va_D A (wA cI cZ a q σ)) (hS : va_S A s.heap H locs) {ls : Array Slot} (hl : lv_has ls 5 [(0, .ref (a 18)), (4, .int x4)]) : W p l e (rmK 1 21 0 0) s m args below meth c H locs 0 0 (RwQv below args s D A (fun q (σ : StA) => (wA cI cZ a q σ)) res 0 0) (F0 m 37 ls [.int t3, .int t2, .int t1, .ref (a 19)]) := by
  obtain ⟨hx, hb, hr, hml, hown, hts, hlk, hK⟩ := id C0
  unfold f_A_keep_37 at h
  refine lv_iconst (v := 2) hx hb d_A_keep_37 (by decide) ?_
  refine lv_iload hx hb d_A_keep_38 (lv_at hl 1 rfl) ?_
  refine lv_bipush (v := 15) hx hb d_A_keep_40 (by decide) ?_
  refine lv_iand hx hb d_A_keep_42 ?_
  refine lv_imul hx hb d_A_keep_43 ?_
  refine lv_ishl hx hb d_A_keep_44 ?_
  refine lv_ior hx hb d_A_keep_45 ?_
  replace h := gd h
  obtain ⟨hi, h⟩ := h
  refine rw_iast C0 hP hD hS 1 0 rfl rfl hi d_A_keep_46 (Wn := (wA cI cZ a q (A_put_cells σ t1 (t2 ||| (t3 <<< ((2 * (x4 &&& 15)) &&& 31)))))) ws_A_put_cells (fun H locs hP hD hS => ?_)
  refine lv_aload_n hx hb d_A_keep_47 rfl (lv_at hl 0 rfl) ?_
  refine lv_iconst (v := 0) hx hb d_A_keep_48 (by decide) ?_
  refine rw_put (v := .int 0) (fty := .boolean) (C := R_A) (T := F_A) (N := 2) C0 hP hD hS i_A ty_A tyok_A nn_A 0 rfl rfl 1 (by decide) (hts _ wd_128) rfl rfl (by decide +kernel) rfl rfl (Nat.le_of_ble_eq_true rfl) d_A_keep_49 (Wn := (wA cI cZ a q (A_set_empty (A_put_cells σ t1 (t2 ||| (t3 <<< ((2 * (x4 &&& 15)) &&& 31)))) 0))) ws_A_set_empty (fun H locs hP hD hS => ?_)
  exact rw_retv C0 hP hD hS (Option.some.inj h) d_A_keep_52
set_option maxHeartbeats 4000000 in
set_option maxRecDepth 100000 in
theorem t_A_keep_0 {p : Program} {l : Launch} {e : Env} {s : State} {m : MethodId} {args : Array Value} {below : List Frame} {meth : Method} {c : Code} {D : va_G} {cI cZ : ClassId} {a : Nat → Nat} {A : Nat → Prop} (C0 : Am p s m args meth c b_A_keep none 5 R_A D [(cI, .int), (cZ, .boolean)]) (hA : ∀ q, s.heap.size ≤ q → A q) {res : Int32 × StA}   {q : Nat} {σ : StA} {x1 x2 x3 : Int32} (h : f_A_keep σ x1 x2 x3 = some res) {H : Heap} {locs : List Loc} (hP : va_P D vwCl (wA cI cZ a q σ) H) (hD : va_D A (wA cI cZ a q σ)) (hS : va_S A s.heap H locs) {ls : Array Slot} (hl : lv_has ls 5 [(0, .ref (a 18)), (1, .int x1), (2, .int x2), (3, .int x3)]) : W p l e (rmK 1 21 0 0) s m args below meth c H locs 0 0 (RwQv below args s D A (fun q (σ : StA) => (wA cI cZ a q σ)) res 0 0) (F0 m 0 ls []) := by
  obtain ⟨hx, hb, hr, hml, hown, hts, hlk, hK⟩ := id C0
  unfold f_A_keep at h
  refine lv_iload_n hx hb d_A_keep_0 rfl (lv_at hl 1 rfl) ?_
  refine lv_iload_n hx hb d_A_keep_1 rfl (lv_at hl 2 rfl) ?_
  refine ro_S (n := 2) (As := [.int x1, .int x2]) (rest := []) C0 (c_A_isPair l D cI cZ a x1 x2 rfl) wd_279 ⟨wd_280, wd_281, wd_155⟩ (by decide +kernel) ⟨Nat.le_of_ble_eq_true rfl, Nat.le_of_ble_eq_true rfl⟩ pnil hl rfl rfl (Nat.le_of_ble_eq_true rfl) ⟨Nat.zero_le _, Nat.zero_le _⟩ d_A_keep_2 ?_
  refine lv_if_ne (tgt := 9) hx hb d_A_keep_5 (by decide) (fun hc => ?_) (fun hc => ?_)
  · rw [if_neg hc] at h
    refine lv_iload_n hx hb d_A_keep_9 rfl (lv_at hl 1 rfl) ?_
    refine lv_sipush (v := 300) hx hb d_A_keep_10 (by decide) ?_
    refine lv_imul hx hb d_A_keep_13 ?_
    refine lv_iload_n hx hb d_A_keep_14 rfl (lv_at hl 2 rfl) ?_
    refine lv_iadd hx hb d_A_keep_15 ?_
    refine lv_istore (lv' := [(4, .int ((x1 * 300) + x2)), (0, .ref (a 18)), (1, .int x1), (2, .int x2), (3, .int x3)]) hx hb d_A_keep_16 hl (by decide) rfl (fun ls hl => ?_)
    refine lv_aload_n hx hb d_A_keep_18 rfl (lv_at hl 1 rfl) ?_
    refine va_get (ci := 3) (v := .ref (a 19)) (C := R_A) (T := F_A) (N := 2) hx hb hts i_A hown hK.1 hP 0 rfl rfl 0 (by decide) (hts _ wd_129) (fun _ h9 => h9) rfl d_A_keep_19 ?_
    refine lv_iload hx hb d_A_keep_22 (lv_at hl 0 rfl) ?_
    refine lv_iconst (v := 4) hx hb d_A_keep_24 (by decide) ?_
    refine lv_ishr hx hb d_A_keep_25 ?_
    refine lv_dup2_11 hx hb d_A_keep_26 rfl rfl ?_
    replace h := gd h
    obtain ⟨hi, h⟩ := h
    refine va_iald hx hb hK.1 hP 1 0 rfl rfl hi d_A_keep_27 ?_
    refine lv_iload_n hx hb d_A_keep_28 rfl (lv_at hl 4 rfl) ?_
    refine lv_if_eq (tgt := 36) hx hb d_A_keep_29 (by decide) (fun hc => ?_) (fun hc => ?_)
    · rw [if_pos hc] at h
      refine lv_iconst (v := 1) hx hb d_A_keep_36 (by decide) ?_
      exact t_A_keep_37 (a := a) C0 hA  h hP hD hS (lv_sub hl [1, 0] rfl)
    · rw [if_neg hc] at h
      refine lv_iconst (v := 2) hx hb d_A_keep_32 (by decide) ?_
      refine lv_goto (tgt := 37) hx hb d_A_keep_33 (by decide) ?_
      exact t_A_keep_37 (a := a) C0 hA  h hP hD hS (lv_sub hl [1, 0] rfl)
  · rw [if_pos hc] at h
    exact rw_retv C0 hP hD hS (Option.some.inj h) d_A_keep_8
set_option maxHeartbeats 4000000 in
set_option maxRecDepth 100000 in
theorem c_A_keep (l : Launch) (D : va_G) (cI cZ : ClassId) (a : Nat → Nat) (q : Nat) (σ : StA) (x1 : Int32) (x2 : Int32) (x3 : Int32) {res : Int32 × StA} (h : f_A_keep σ x1 x2 x3 = some res) : RwMv l y_A_keep b_A_keep 5 1 21 D [(cI, .int), (cZ, .boolean)] [.ref (a 18), .int x1, .int x2, .int x3] (fun q (σ : StA) => (wA cI cZ a q σ)) q σ res :=
  rw_ofv (by decide) (Nat.le_of_ble_eq_true rfl) (fun p e s m args below meth c ls A C0 hA hP hD hS hl => t_A_keep_0 (a := a) C0 hA h hP hD hS (lv_sub hl [0, 1, 2, 3] rfl))
-- part 07.5L.00L_declare.lean.txt
def f_L_declare_48 (σ : StL) (x1 x2 : Int32) : Option ((Int32 ⊕ Nat) × StL × Nat × Nat) :=
  (f_C_add (L_classes σ) x1 x2).bind fun r1 =>
  some (.inl r1.1, (L_set_classes σ r1.2), 0, 0)
def f_L_declare (σ : StL) (x1 x2 : Int32) : Option ((Int32 ⊕ Nat) × StL × Nat × Nat) :=
  if (f_C_count (L_classes σ)) < 30 then
    if x2 = 0 then
      f_L_declare_48 σ x1 x2
    else
      if (f_C_countGeneric (L_classes σ)) < 6 then
        f_L_declare_48 σ x1 x2
      else
        some (.inr 2, σ, 1, 6)
  else
    some (.inr 2, σ, 1, 6)
set_option maxHeartbeats 4000000 in
set_option maxRecDepth 100000 in
theorem t_L_declare_48 {p : Program} {l : Launch} {e : Env} {s : State} {m : MethodId} {args : Array Value} {below : List Frame} {meth : Method} {c : Code} {D : va_G} {cI cZ : ClassId} {a : Nat → Nat} {A : Nat → Prop} (C0 : Am p s m args meth c b_L_declare (some .int) 3 R_L D [(cI, .int), (cZ, .boolean)]) (hA : ∀ q, s.heap.size ≤ q → A q) (hT : ∀ x ∈ c.exceptionTable.toList, False) (hl0 : l.stackTraces = false) (hZ : Zs A s s.heap) {v : Int32 ⊕ Nat} {u : StL} {K N : Nat}   {q : Nat} {σ : StL} {x1 x2 : Int32} {kc ks mc ms : Nat} (h : f_L_declare_48 σ x1 x2 = some (v, u, mc, ms)) (hkc : kc + mc = K) (hks : ks + ms = N) {H : Heap} {locs : List Loc} (hP : va_P D vwCl (wL cI cZ a q σ) H) (hD : va_D A (wL cI cZ a q σ)) (hS : va_S A s.heap H locs) {ls : Array Slot} (hl : lv_has ls 3 [(0, .ref (a 0)), (1, .int x1), (2, .int x2)]) : W p l e (rmK 8 120 K N) s m args below meth c H locs kc ks (TxQ below args s D A (fun q (σ : StL) => (wL cI cZ a q σ)) v u K N) (F0 m 48 ls []) := by
  obtain ⟨hx, hb, hr, hml, hown, hts, hlk, hK⟩ := id C0
  have hcs : kc ≤ K ∧ ks ≤ N := ⟨by omega, by omega⟩
  unfold f_L_declare_48 at h
  refine lv_aload_n hx hb d_L_declare_48 rfl (lv_at hl 0 rfl) ?_
  refine va_get (ci := 0) (v := .ref (a 3)) (C := R_L) (T := F_L) (N := 6) hx hb hts i_L hown hK.1 hP 0 rfl rfl 1 (by decide) (hts _ wd_67) (fun _ h9 => h9) rfl d_L_declare_49 ?_
  refine lv_iload_n hx hb d_L_declare_52 rfl (lv_at hl 1 rfl) ?_
  refine lv_iload_n hx hb d_L_declare_53 rfl (lv_at hl 2 rfl) ?_
  replace h := bd h
  obtain ⟨r1, g1, h⟩ := h
  refine rw_V (n := 2) (ci := 1) (As := [.int x1, .int x2]) (rest := []) (Wn := fun _ => (wL cI cZ a q (L_set_classes σ r1.2))) C0 hA (c_C_add l D cI cZ a q (L_classes σ) x1 x2 g1) wd_72 ⟨wd_73, wd_74, wd_75, wd_8⟩ (by decide +kernel) ⟨Nat.le_of_ble_eq_true rfl, Nat.le_of_ble_eq_true rfl⟩ hP hD hS [3, 4, 5, 6, 7, 8, 9] [0, 1, 2, 10, 11, 12, 13, 14, 15, 16, 17, 18, 19, 20] [0, 1, 2, 14, 15, 16, 17, 18, 19, 20, 3, 4, 5, 6, 7, 8, 9, 10, 11, 12, 13] jn_L_classes_C (by decide) jn_L_classes_R (by decide) (by decide) (by decide) jn_L_classes_W rfl rfl rfl hl rfl rfl (Nat.le_of_ble_eq_true rfl) hcs d_L_declare_54 (fun H locs _ hP hD hS => ?_)
  try dsimp only at h
  cases h; exact tx_ret C0 hP hD hS (by omega) (by omega) d_L_declare_57
set_option maxHeartbeats 4000000 in
set_option maxRecDepth 100000 in
theorem t_L_declare_0 {p : Program} {l : Launch} {e : Env} {s : State} {m : MethodId} {args : Array Value} {below : List Frame} {meth : Method} {c : Code} {D : va_G} {cI cZ : ClassId} {a : Nat → Nat} {A : Nat → Prop} (C0 : Am p s m args meth c b_L_declare (some .int) 3 R_L D [(cI, .int), (cZ, .boolean)]) (hA : ∀ q, s.heap.size ≤ q → A q) (hT : ∀ x ∈ c.exceptionTable.toList, False) (hl0 : l.stackTraces = false) (hZ : Zs A s s.heap) {v : Int32 ⊕ Nat} {u : StL} {K N : Nat}   {q : Nat} {σ : StL} {x1 x2 : Int32} {kc ks mc ms : Nat} (h : f_L_declare σ x1 x2 = some (v, u, mc, ms)) (hkc : kc + mc = K) (hks : ks + ms = N) {H : Heap} {locs : List Loc} (hP : va_P D vwCl (wL cI cZ a q σ) H) (hD : va_D A (wL cI cZ a q σ)) (hS : va_S A s.heap H locs) {ls : Array Slot} (hl : lv_has ls 3 [(0, .ref (a 0)), (1, .int x1), (2, .int x2)]) : W p l e (rmK 8 120 K N) s m args below meth c H locs kc ks (TxQ below args s D A (fun q (σ : StL) => (wL cI cZ a q σ)) v u K N) (F0 m 0 ls []) := by
  obtain ⟨hx, hb, hr, hml, hown, hts, hlk, hK⟩ := id C0
  have hcs : kc ≤ K ∧ ks ≤ N := ⟨by omega, by omega⟩
  unfold f_L_declare at h
  refine lv_aload_n hx hb d_L_declare_0 rfl (lv_at hl 0 rfl) ?_
  refine va_get (ci := 0) (v := .ref (a 3)) (C := R_L) (T := F_L) (N := 6) hx hb hts i_L hown hK.1 hP 0 rfl rfl 1 (by decide) (hts _ wd_67) (fun _ h9 => h9) rfl d_L_declare_1 ?_
  refine ro_V (n := 0) (ci := 1) (As := []) (rest := []) C0 (c_C_count l D cI cZ a q (L_classes σ) rfl) wd_68 ⟨wd_69, wd_70, wd_71, wd_8⟩ (by decide +kernel) ⟨Nat.le_of_ble_eq_true rfl, Nat.le_of_ble_eq_true rfl⟩ (hP.pick [3, 4, 5, 6, 7, 8, 9] rfl) rfl rfl rfl hl rfl rfl (Nat.le_of_ble_eq_true rfl) hcs d_L_declare_4 ?_
  refine lv_bipush (v := 30) hx hb d_L_declare_7 (by decide) ?_
  refine lv_icmp_lt (tgt := 22) hx hb d_L_declare_9 (by decide) (fun hc => ?_) (fun hc => ?_)
  · rw [if_pos hc] at h
    refine lv_iload_n hx hb d_L_declare_22 rfl (lv_at hl 2 rfl) ?_
    refine lv_if_eq (tgt := 48) hx hb d_L_declare_23 (by decide) (fun hc => ?_) (fun hc => ?_)
    · rw [if_pos hc] at h
      exact t_L_declare_48 (a := a) C0 hA hT hl0 hZ  h hkc hks hP hD hS (lv_sub hl [0, 1, 2] rfl)
    · rw [if_neg hc] at h
      refine lv_aload_n hx hb d_L_declare_26 rfl (lv_at hl 0 rfl) ?_
      refine va_get (ci := 0) (v := .ref (a 3)) (C := R_L) (T := F_L) (N := 6) hx hb hts i_L hown hK.1 hP 0 rfl rfl 1 (by decide) (hts _ wd_67) (fun _ h9 => h9) rfl d_L_declare_27 ?_
      refine ro_V (n := 0) (ci := 1) (As := []) (rest := []) C0 (c_C_countGeneric l D cI cZ a q (L_classes σ) rfl) wd_76 ⟨wd_77, wd_78, wd_79, wd_8⟩ (by decide +kernel) ⟨Nat.le_of_ble_eq_true rfl, Nat.le_of_ble_eq_true rfl⟩ (hP.pick [3, 4, 5, 6, 7, 8, 9] rfl) rfl rfl rfl hl rfl rfl (Nat.le_of_ble_eq_true rfl) hcs d_L_declare_30 ?_
      refine lv_bipush (v := 6) hx hb d_L_declare_33 (by decide) ?_
      refine lv_icmp_lt (tgt := 48) hx hb d_L_declare_35 (by decide) (fun hc => ?_) (fun hc => ?_)
      · rw [if_pos hc] at h
        exact t_L_declare_48 (a := a) C0 hA hT hl0 hZ  h hkc hks hP hD hS (lv_sub hl [0, 1, 2] rfl)
      · rw [if_neg hc] at h
        cases h
        exact tx_throw (k := 2) C0 hT hl0 hZ hP hD hS wd_80 wd_81 (List.mem_of_getElem? (i := 1) rfl) th_2_54_58_a th_2_54_58_b thI_2 d_L_declare_38 d_L_declare_41 d_L_declare_42 d_L_declare_44 d_L_declare_47 hl (Nat.le_of_ble_eq_true rfl) (Nat.le_of_ble_eq_true rfl) (by show kc + 1 ≤ K; omega) (by show ks + 6 ≤ N; omega) (by omega) (by omega)
  · rw [if_neg hc] at h
    cases h
    exact tx_throw (k := 2) C0 hT hl0 hZ hP hD hS wd_80 wd_81 (List.mem_of_getElem? (i := 0) rfl) th_2_54_58_a th_2_54_58_b thI_2 d_L_declare_12 d_L_declare_15 d_L_declare_16 d_L_declare_18 d_L_declare_21 hl (Nat.le_of_ble_eq_true rfl) (Nat.le_of_ble_eq_true rfl) (by show kc + 1 ≤ K; omega) (by show ks + 6 ≤ N; omega) (by omega) (by omega)
set_option maxHeartbeats 4000000 in
set_option maxRecDepth 100000 in
theorem c_L_declare (l : Launch) (D : va_G) (cI cZ : ClassId) (a : Nat → Nat) (hl0 : l.stackTraces = false) (q : Nat) (σ : StL) (x1 : Int32) (x2 : Int32) {res : (Int32 ⊕ Nat) × StL × Nat × Nat} (h : f_L_declare σ x1 x2 = some res) : TxM l y_L_declare b_L_declare 3 (some .int) 8 120 D [(cI, .int), (cZ, .boolean)] [.ref (a 0), .int x1, .int x2] (fun q (σ : StL) => (wL cI cZ a q σ)) q σ res :=
  tx_of (by decide) (Nat.le_of_ble_eq_true rfl) (fun p e s m args below meth c ls A C0 hA hT hZ hP hD hS hl => t_L_declare_0 (a := a) (kc := 0) (ks := 0) C0 hA hT hl0 hZ h (Nat.zero_add _) (Nat.zero_add _) hP hD hS (lv_sub hl [0, 1, 2] rfl))
-- part 07.5L.01L_requireClass.lean.txt
def f_L_requireClass (σ : StL) (x1 : Int32) : Option ((Int32 ⊕ Nat) × StL × Nat × Nat) :=
  if (f_C_isThere (L_classes σ) x1) = 0 then
    some (.inr 1, σ, 1, 6)
  else
    some (.inl 0, σ, 0, 0)
set_option maxHeartbeats 4000000 in
set_option maxRecDepth 100000 in
theorem t_L_requireClass_0 {p : Program} {l : Launch} {e : Env} {s : State} {m : MethodId} {args : Array Value} {below : List Frame} {meth : Method} {c : Code} {D : va_G} {cI cZ : ClassId} {a : Nat → Nat} {A : Nat → Prop} (C0 : Am p s m args meth c b_L_requireClass none 2 R_L D [(cI, .int), (cZ, .boolean)]) (hA : ∀ q, s.heap.size ≤ q → A q) (hT : ∀ x ∈ c.exceptionTable.toList, False) (hl0 : l.stackTraces = false) (hZ : Zs A s s.heap) {v : Int32 ⊕ Nat} {u : StL} {K N : Nat}   {q : Nat} {σ : StL} {x1 : Int32} {kc ks mc ms : Nat} (h : f_L_requireClass σ x1 = some (v, u, mc, ms)) (hkc : kc + mc = K) (hks : ks + ms = N) {H : Heap} {locs : List Loc} (hP : va_P D vwCl (wL cI cZ a q σ) H) (hD : va_D A (wL cI cZ a q σ)) (hS : va_S A s.heap H locs) {ls : Array Slot} (hl : lv_has ls 2 [(0, .ref (a 0)), (1, .int x1)]) : W p l e (rmK 8 120 K N) s m args below meth c H locs kc ks (TxQv below args s D A (fun q (σ : StL) => (wL cI cZ a q σ)) v u K N) (F0 m 0 ls []) := by
  obtain ⟨hx, hb, hr, hml, hown, hts, hlk, hK⟩ := id C0
  have hcs : kc ≤ K ∧ ks ≤ N := ⟨by omega, by omega⟩
  unfold f_L_requireClass at h
  refine lv_aload_n hx hb d_L_requireClass_0 rfl (lv_at hl 0 rfl) ?_
  refine va_get (ci := 0) (v := .ref (a 3)) (C := R_L) (T := F_L) (N := 6) hx hb hts i_L hown hK.1 hP 0 rfl rfl 1 (by decide) (hts _ wd_67) (fun _ h9 => h9) rfl d_L_requireClass_1 ?_
  refine lv_iload_n hx hb d_L_requireClass_4 rfl (lv_at hl 1 rfl) ?_
  refine ro_V (n := 1) (ci := 1) (As := [.int x1]) (rest := []) C0 (c_C_isThere l D cI cZ a q (L_classes σ) x1 rfl) wd_82 ⟨wd_5, wd_6, wd_7, wd_8⟩ (by decide +kernel) ⟨Nat.le_of_ble_eq_true rfl, Nat.le_of_ble_eq_true rfl⟩ (hP.pick [3, 4, 5, 6, 7, 8, 9] rfl) rfl rfl rfl hl rfl rfl (Nat.le_of_ble_eq_true rfl) hcs d_L_requireClass_5 ?_
  refine lv_if_ne (tgt := 21) hx hb d_L_requireClass_8 (by decide) (fun hc => ?_) (fun hc => ?_)
  · rw [if_neg hc] at h
    cases h; exact tx_retv C0 hP hD hS (by omega) (by omega) d_L_requireClass_21
  · rw [if_pos hc] at h
    cases h
    exact tx_throw (k := 1) C0 hT hl0 hZ hP hD hS wd_83 wd_84 (List.mem_of_getElem? (i := 2) rfl) th_1_176_180_a th_1_176_180_b thI_1 d_L_requireClass_11 d_L_requireClass_14 d_L_requireClass_15 d_L_requireClass_17 d_L_requireClass_20 hl (Nat.le_of_ble_eq_true rfl) (Nat.le_of_ble_eq_true rfl) (by show kc + 1 ≤ K; omega) (by show ks + 6 ≤ N; omega) (by omega) (by omega)
set_option maxHeartbeats 4000000 in
set_option maxRecDepth 100000 in
theorem c_L_requireClass (l : Launch) (D : va_G) (cI cZ : ClassId) (a : Nat → Nat) (hl0 : l.stackTraces = false) (q : Nat) (σ : StL) (x1 : Int32) {res : (Int32 ⊕ Nat) × StL × Nat × Nat} (h : f_L_requireClass σ x1 = some res) : TxMv l y_L_requireClass b_L_requireClass 2 8 120 D [(cI, .int), (cZ, .boolean)] [.ref (a 0), .int x1] (fun q (σ : StL) => (wL cI cZ a q σ)) q σ res :=
  tx_ofv (by decide) (Nat.le_of_ble_eq_true rfl) (fun p e s m args below meth c ls A C0 hA hT hZ hP hD hS hl => t_L_requireClass_0 (a := a) (kc := 0) (ks := 0) C0 hA hT hl0 hZ h (Nat.zero_add _) (Nat.zero_add _) hP hD hS (lv_sub hl [0, 1] rfl))
-- part 07.5L.02L_requireType.lean.txt
def f_L_requireType (σ : StL) (x1 : Int32) : Option ((Int32 ⊕ Nat) × StL × Nat × Nat) :=
  if (f_T_isThere (L_types σ) x1) = 0 then
    some (.inr 1, σ, 1, 6)
  else
    some (.inl 0, σ, 0, 0)
set_option maxHeartbeats 4000000 in
set_option maxRecDepth 100000 in
theorem t_L_requireType_0 {p : Program} {l : Launch} {e : Env} {s : State} {m : MethodId} {args : Array Value} {below : List Frame} {meth : Method} {c : Code} {D : va_G} {cI cZ : ClassId} {a : Nat → Nat} {A : Nat → Prop} (C0 : Am p s m args meth c b_L_requireType none 2 R_L D [(cI, .int), (cZ, .boolean)]) (hA : ∀ q, s.heap.size ≤ q → A q) (hT : ∀ x ∈ c.exceptionTable.toList, False) (hl0 : l.stackTraces = false) (hZ : Zs A s s.heap) {v : Int32 ⊕ Nat} {u : StL} {K N : Nat}   {q : Nat} {σ : StL} {x1 : Int32} {kc ks mc ms : Nat} (h : f_L_requireType σ x1 = some (v, u, mc, ms)) (hkc : kc + mc = K) (hks : ks + ms = N) {H : Heap} {locs : List Loc} (hP : va_P D vwCl (wL cI cZ a q σ) H) (hD : va_D A (wL cI cZ a q σ)) (hS : va_S A s.heap H locs) {ls : Array Slot} (hl : lv_has ls 2 [(0, .ref (a 0)), (1, .int x1)]) : W p l e (rmK 8 120 K N) s m args below meth c H locs kc ks (TxQv below args s D A (fun q (σ : StL) => (wL cI cZ a q σ)) v u K N) (F0 m 0 ls []) := by
  obtain ⟨hx, hb, hr, hml, hown, hts, hlk, hK⟩ := id C0
  have hcs : kc ≤ K ∧ ks ≤ N := ⟨by omega, by omega⟩
  unfold f_L_requireType at h
  refine lv_aload_n hx hb d_L_requireType_0 rfl (lv_at hl 0 rfl) ?_
  refine va_get (ci := 0) (v := .ref (a 10)) (C := R_L) (T := F_L) (N := 6) hx hb hts i_L hown hK.1 hP 0 rfl rfl 2 (by decide) (hts _ wd_85) (fun _ h9 => h9) rfl d_L_requireType_1 ?_
  refine lv_iload_n hx hb d_L_requireType_4 rfl (lv_at hl 1 rfl) ?_
  refine ro_V (n := 1) (ci := 2) (As := [.int x1]) (rest := []) C0 (c_T_isThere l D cI cZ a q (L_types σ) x1 rfl) wd_86 ⟨wd_49, wd_50, wd_51, wd_52⟩ (by decide +kernel) ⟨Nat.le_of_ble_eq_true rfl, Nat.le_of_ble_eq_true rfl⟩ (hP.pick [10, 11, 12, 13, 14, 15, 16, 17, 18] rfl) rfl rfl rfl hl rfl rfl (Nat.le_of_ble_eq_true rfl) hcs d_L_requireType_5 ?_
  refine lv_if_ne (tgt := 21) hx hb d_L_requireType_8 (by decide) (fun hc => ?_) (fun hc => ?_)
  · rw [if_neg hc] at h
    cases h; exact tx_retv C0 hP hD hS (by omega) (by omega) d_L_requireType_21
  · rw [if_pos hc] at h
    cases h
    exact tx_throw (k := 1) C0 hT hl0 hZ hP hD hS wd_83 wd_84 (List.mem_of_getElem? (i := 3) rfl) th_1_176_180_a th_1_176_180_b thI_1 d_L_requireType_11 d_L_requireType_14 d_L_requireType_15 d_L_requireType_17 d_L_requireType_20 hl (Nat.le_of_ble_eq_true rfl) (Nat.le_of_ble_eq_true rfl) (by show kc + 1 ≤ K; omega) (by show ks + 6 ≤ N; omega) (by omega) (by omega)
set_option maxHeartbeats 4000000 in
set_option maxRecDepth 100000 in
theorem c_L_requireType (l : Launch) (D : va_G) (cI cZ : ClassId) (a : Nat → Nat) (hl0 : l.stackTraces = false) (q : Nat) (σ : StL) (x1 : Int32) {res : (Int32 ⊕ Nat) × StL × Nat × Nat} (h : f_L_requireType σ x1 = some res) : TxMv l y_L_requireType b_L_requireType 2 8 120 D [(cI, .int), (cZ, .boolean)] [.ref (a 0), .int x1] (fun q (σ : StL) => (wL cI cZ a q σ)) q σ res :=
  tx_ofv (by decide) (Nat.le_of_ble_eq_true rfl) (fun p e s m args below meth c ls A C0 hA hT hZ hP hD hS hl => t_L_requireType_0 (a := a) (kc := 0) (ks := 0) C0 hA hT hl0 hZ h (Nat.zero_add _) (Nat.zero_add _) hP hD hS (lv_sub hl [0, 1] rfl))
-- part 07.5L.03L_isTellable.lean.txt
def f_L_isTellable (σ : StL) (x1 x2 : Int32) : Option Int32 :=
  (f_C_isGeneric (L_classes σ) x1).bind fun r1 =>
  if r1 = 0 then
    if x2 = (-1) then
      some 1
    else
      some 0
  else
    if x2 = (-2) then
      (f_C_isGeneric (L_classes σ) (f_C_newest (L_classes σ))).bind fun r3 =>
      some (r3 &&& 1)
    else
      if x2 < 0 then
        some 0
      else
        (f_T_kindOf (L_types σ) x2).bind fun r2 =>
        if r2 = 0 then
          some 0
        else
          some 1
set_option maxHeartbeats 4000000 in
set_option maxRecDepth 100000 in
theorem t_L_isTellable_0 {p : Program} {l : Launch} {e : Env} {s : State} {m : MethodId} {args : Array Value} {below : List Frame} {meth : Method} {c : Code} {D : va_G} {cI cZ : ClassId} {a : Nat → Nat} {q : Nat} {σ : StL} (C0 : Am p s m args meth c b_L_isTellable (some .boolean) 3 R_L D [(cI, .int), (cZ, .boolean)]) (hP : va_P D vwCl (wL cI cZ a q σ) s.heap) {val : Int32}   {x1 x2 : Int32} (h : f_L_isTellable σ x1 x2 = some val) {ls : Array Slot} (hl : lv_has ls 3 [(0, .ref (a 0)), (1, .int x1), (2, .int x2)]) : RoW p l e (rmK 2 42 0 0) s m args below meth c val (F0 m 0 ls []) := by
  obtain ⟨hx, hb, hr, hml, hown, hts, hlk, hK⟩ := id C0
  unfold f_L_isTellable at h
  refine lv_aload_n hx hb d_L_isTellable_0 rfl (lv_at hl 0 rfl) ?_
  refine va_get (ci := 0) (v := .ref (a 3)) (C := R_L) (T := F_L) (N := 6) hx hb hts i_L hown hK.1 hP 0 rfl rfl 1 (by decide) (hts _ wd_67) (fun _ h9 => h9) rfl d_L_isTellable_1 ?_
  refine lv_iload_n hx hb d_L_isTellable_4 rfl (lv_at hl 1 rfl) ?_
  replace h := bd h
  obtain ⟨r1, g1, h⟩ := h
  refine ro_V (n := 1) (ci := 1) (As := [.int x1]) (rest := []) C0 (c_C_isGeneric l D cI cZ a q (L_classes σ) x1 g1) wd_95 ⟨wd_96, wd_97, wd_98, wd_8⟩ (by decide +kernel) ⟨Nat.le_of_ble_eq_true rfl, Nat.le_of_ble_eq_true rfl⟩ (hP.pick [3, 4, 5, 6, 7, 8, 9] rfl) rfl rfl rfl hl rfl rfl (Nat.le_of_ble_eq_true rfl) ⟨Nat.zero_le _, Nat.zero_le _⟩ d_L_isTellable_5 ?_
  try dsimp only at h
  refine lv_if_ne (tgt := 22) hx hb d_L_isTellable_8 (by decide) (fun hc => ?_) (fun hc => ?_)
  · rw [if_neg hc] at h
    refine lv_iload_n hx hb d_L_isTellable_22 rfl (lv_at hl 2 rfl) ?_
    refine lv_bipush (v := (-2)) hx hb d_L_isTellable_23 (by decide) ?_
    refine lv_icmp_ne (tgt := 43) hx hb d_L_isTellable_25 (by decide) (fun hc => ?_) (fun hc => ?_)
    · rw [if_neg hc] at h
      refine lv_iload_n hx hb d_L_isTellable_43 rfl (lv_at hl 2 rfl) ?_
      refine lv_if_lt (tgt := 62) hx hb d_L_isTellable_44 (by decide) (fun hc => ?_) (fun hc => ?_)
      · rw [if_pos hc] at h
        refine lv_iconst (v := 0) hx hb d_L_isTellable_62 (by decide) ?_
        exact ro_retz C0 (by decide) (Option.some.inj h) d_L_isTellable_63
      · rw [if_neg hc] at h
        refine lv_aload_n hx hb d_L_isTellable_47 rfl (lv_at hl 0 rfl) ?_
        refine va_get (ci := 0) (v := .ref (a 10)) (C := R_L) (T := F_L) (N := 6) hx hb hts i_L hown hK.1 hP 0 rfl rfl 2 (by decide) (hts _ wd_85) (fun _ h9 => h9) rfl d_L_isTellable_48 ?_
        refine lv_iload_n hx hb d_L_isTellable_51 rfl (lv_at hl 2 rfl) ?_
        replace h := bd h
        obtain ⟨r2, g2, h⟩ := h
        refine ro_V (n := 1) (ci := 2) (As := [.int x2]) (rest := []) C0 (c_T_kindOf l D cI cZ a q (L_types σ) x2 g2) wd_99 ⟨wd_100, wd_101, wd_102, wd_52⟩ (by decide +kernel) ⟨Nat.le_of_ble_eq_true rfl, Nat.le_of_ble_eq_true rfl⟩ (hP.pick [10, 11, 12, 13, 14, 15, 16, 17, 18] rfl) rfl rfl rfl hl rfl rfl (Nat.le_of_ble_eq_true rfl) ⟨Nat.zero_le _, Nat.zero_le _⟩ d_L_isTellable_52 ?_
        try dsimp only at h
        refine lv_if_eq (tgt := 62) hx hb d_L_isTellable_55 (by decide) (fun hc => ?_) (fun hc => ?_)
        · rw [if_pos hc] at h
          refine lv_iconst (v := 0) hx hb d_L_isTellable_62 (by decide) ?_
          exact ro_retz C0 (by decide) (Option.some.inj h) d_L_isTellable_63
        · rw [if_neg hc] at h
          refine lv_iconst (v := 1) hx hb d_L_isTellable_58 (by decide) ?_
          refine lv_goto (tgt := 63) hx hb d_L_isTellable_59 (by decide) ?_
          exact ro_retz C0 (by decide) (Option.some.inj h) d_L_isTellable_63
    · rw [if_pos hc] at h
      refine lv_aload_n hx hb d_L_isTellable_28 rfl (lv_at hl 0 rfl) ?_
      refine va_get (ci := 0) (v := .ref (a 3)) (C := R_L) (T := F_L) (N := 6) hx hb hts i_L hown hK.1 hP 0 rfl rfl 1 (by decide) (hts _ wd_67) (fun _ h9 => h9) rfl d_L_isTellable_29 ?_
      refine lv_aload_n hx hb d_L_isTellable_32 rfl (lv_at hl 0 rfl) ?_
      refine va_get (ci := 0) (v := .ref (a 3)) (C := R_L) (T := F_L) (N := 6) hx hb hts i_L hown hK.1 hP 0 rfl rfl 1 (by decide) (hts _ wd_67) (fun _ h9 => h9) rfl d_L_isTellable_33 ?_
      refine ro_V (n := 0) (ci := 1) (As := []) (rest := [.ref (a 3)]) C0 (c_C_newest l D cI cZ a q (L_classes σ) rfl) wd_103 ⟨wd_29, wd_30, wd_31, wd_8⟩ (by decide +kernel) ⟨Nat.le_of_ble_eq_true rfl, Nat.le_of_ble_eq_true rfl⟩ (hP.pick [3, 4, 5, 6, 7, 8, 9] rfl) rfl rfl rfl hl rfl rfl (Nat.le_of_ble_eq_true rfl) ⟨Nat.zero_le _, Nat.zero_le _⟩ d_L_isTellable_36 ?_
      replace h := bd h
      obtain ⟨r3, g3, h⟩ := h
      refine ro_V (n := 1) (ci := 1) (As := [.int (f_C_newest (L_classes σ))]) (rest := []) C0 (c_C_isGeneric l D cI cZ a q (L_classes σ) (f_C_newest (L_classes σ)) g3) wd_95 ⟨wd_96, wd_97, wd_98, wd_8⟩ (by decide +kernel) ⟨Nat.le_of_ble_eq_true rfl, Nat.le_of_ble_eq_true rfl⟩ (hP.pick [3, 4, 5, 6, 7, 8, 9] rfl) rfl rfl rfl hl rfl rfl (Nat.le_of_ble_eq_true rfl) ⟨Nat.zero_le _, Nat.zero_le _⟩ d_L_isTellable_39 ?_
      try dsimp only at h
      exact ro_retz C0 rfl (Option.some.inj h) d_L_isTellable_42
  · rw [if_pos hc] at h
    refine lv_iload_n hx hb d_L_isTellable_11 rfl (lv_at hl 2 rfl) ?_
    refine lv_iconst (v := (-1)) hx hb d_L_isTellable_12 (by decide) ?_
    refine lv_icmp_ne (tgt := 20) hx hb d_L_isTellable_13 (by decide) (fun hc => ?_) (fun hc => ?_)
    · rw [if_neg hc] at h
      refine lv_iconst (v := 0) hx hb d_L_isTellable_20 (by decide) ?_
      exact ro_retz C0 (by decide) (Option.some.inj h) d_L_isTellable_21
    · rw [if_pos hc] at h
      refine lv_iconst (v := 1) hx hb d_L_isTellable_16 (by decide) ?_
      refine lv_goto (tgt := 21) hx hb d_L_isTellable_17 (by decide) ?_
      exact ro_retz C0 (by decide) (Option.some.inj h) d_L_isTellable_21
set_option maxHeartbeats 4000000 in
set_option maxRecDepth 100000 in
theorem c_L_isTellable (l : Launch) (D : va_G) (cI cZ : ClassId) (a : Nat → Nat) (q : Nat) (σ : StL) (x1 : Int32) (x2 : Int32) {val : Int32} (h : f_L_isTellable σ x1 x2 = some val) : RoM l y_L_isTellable b_L_isTellable 3 (some .boolean) 2 42 D [(cI, .int), (cZ, .boolean)] [.ref (a 0), .int x1, .int x2] (wL cI cZ a q σ) val :=
  ro_of (by decide) (Nat.le_of_ble_eq_true rfl) (fun p e s m args below meth c ls C0 hP hl => t_L_isTellable_0 (a := a) C0 hP h (lv_sub hl [0, 1, 2] rfl))
-- part 07.5L.04L_above.lean.txt
def f_L_above_14 (σ : StL) (x1 x2 : Int32) : Option ((Int32 ⊕ Nat) × StL × Nat × Nat) :=
  (f_C_mayGet (L_classes σ) x1).bind fun r2 =>
  if r2 = 0 then
    some (.inr 2, σ, 1, 6)
  else
    (f_L_isTellable σ x1 x2).bind fun r3 =>
    if r3 = 0 then
      some (.inr 3, σ, 1, 6)
    else
      (f_C_clashes (L_classes σ) x1 x2).bind fun r4 =>
      if r4 = 0 then
        (f_A_forget (L_answers σ)).bind fun r5 =>
        (f_C_put (L_classes (L_set_answers σ r5.2)) x1 x2).bind fun r6 =>
        some (.inl r6.1, (L_set_classes (L_set_answers σ r5.2) r6.2), 0, 0)
      else
        some (.inr 2, σ, 1, 6)
def f_L_above (σ : StL) (x1 x2 : Int32) : Option ((Int32 ⊕ Nat) × StL × Nat × Nat) :=
  (f_L_requireClass σ x1).bind fun r1 => ad_ r1.2.2.1 r1.2.2.2 <| match r1.1 with
  | .inr e => some (.inr e, r1.2.1, 0, 0)
  | .inl r1v =>
  if x2 < 0 then
    f_L_above_14 r1.2.1 x1 x2
  else
    (f_L_requireType r1.2.1 x2).bind fun r7 => ad_ r7.2.2.1 r7.2.2.2 <| match r7.1 with
    | .inr e => some (.inr e, r7.2.1, 0, 0)
    | .inl r7v =>
    f_L_above_14 r7.2.1 x1 x2
set_option maxHeartbeats 4000000 in
set_option maxRecDepth 100000 in
theorem t_L_above_14 {p : Program} {l : Launch} {e : Env} {s : State} {m : MethodId} {args : Array Value} {below : List Frame} {meth : Method} {c : Code} {D : va_G} {cI cZ : ClassId} {a : Nat → Nat} {A : Nat → Prop} (C0 : Am p s m args meth c b_L_above (some .int) 3 R_L D [(cI, .int), (cZ, .boolean)]) (hA : ∀ q, s.heap.size ≤ q → A q) (hT : ∀ x ∈ c.exceptionTable.toList, False) (hl0 : l.stackTraces = false) (hZ : Zs A s s.heap) {v : Int32 ⊕ Nat} {u : StL} {K N : Nat}   {q : Nat} {σ : StL} {x1 x2 : Int32} {kc ks mc ms : Nat} (h : f_L_above_14 σ x1 x2 = some (v, u, mc, ms)) (hkc : kc + mc = K) (hks : ks + ms = N) {H : Heap} {locs : List Loc} (hP : va_P D vwCl (wL cI cZ a q σ) H) (hD : va_D A (wL cI cZ a q σ)) (hS : va_S A s.heap H locs) {ls : Array Slot} (hl : lv_has ls 3 [(0, .ref (a 0)), (1, .int x1), (2, .int x2)]) : W p l e (rmK 9 141 K N) s m args below meth c H locs kc ks (TxQ below args s D A (fun q (σ : StL) => (wL cI cZ a q σ)) v u K N) (F0 m 14 ls []) := by
  obtain ⟨hx, hb, hr, hml, hown, hts, hlk, hK⟩ := id C0
  have hcs : kc ≤ K ∧ ks ≤ N := ⟨by omega, by omega⟩
  unfold f_L_above_14 at h
  refine lv_aload_n hx hb d_L_above_14 rfl (lv_at hl 0 rfl) ?_
  refine va_get (ci := 0) (v := .ref (a 3)) (C := R_L) (T := F_L) (N := 6) hx hb hts i_L hown hK.1 hP 0 rfl rfl 1 (by decide) (hts _ wd_67) (fun _ h9 => h9) rfl d_L_above_15 ?_
  refine lv_iload_n hx hb d_L_above_18 rfl (lv_at hl 1 rfl) ?_
  replace h := bd h
  obtain ⟨r2, g2, h⟩ := h
  refine ro_V (n := 1) (ci := 1) (As := [.int x1]) (rest := []) C0 (c_C_mayGet l D cI cZ a q (L_classes σ) x1 g2) wd_138 ⟨wd_139, wd_140, wd_141, wd_8⟩ (by decide +kernel) ⟨Nat.le_of_ble_eq_true rfl, Nat.le_of_ble_eq_true rfl⟩ (hP.pick [3, 4, 5, 6, 7, 8, 9] rfl) rfl rfl rfl hl rfl rfl (Nat.le_of_ble_eq_true rfl) hcs d_L_above_19 ?_
  try dsimp only at h
  refine lv_if_ne (tgt := 35) hx hb d_L_above_22 (by decide) (fun hc => ?_) (fun hc => ?_)
  · rw [if_neg hc] at h
    refine lv_aload_n hx hb d_L_above_35 rfl (lv_at hl 0 rfl) ?_
    refine lv_iload_n hx hb d_L_above_36 rfl (lv_at hl 1 rfl) ?_
    refine lv_iload_n hx hb d_L_above_37 rfl (lv_at hl 2 rfl) ?_
    replace h := bd h
    obtain ⟨r3, g3, h⟩ := h
    refine ro_V (n := 2) (ci := 0) (As := [.int x1, .int x2]) (rest := []) C0 (c_L_isTellable l D cI cZ a q σ x1 x2 g3) wd_142 ⟨wd_143, wd_144, wd_145, wd_55⟩ (by decide +kernel) ⟨Nat.le_of_ble_eq_true rfl, Nat.le_of_ble_eq_true rfl⟩ hP rfl rfl rfl hl rfl rfl (Nat.le_of_ble_eq_true rfl) hcs d_L_above_38 ?_
    try dsimp only at h
    refine lv_if_ne (tgt := 54) hx hb d_L_above_41 (by decide) (fun hc => ?_) (fun hc => ?_)
    · rw [if_neg hc] at h
      refine lv_aload_n hx hb d_L_above_54 rfl (lv_at hl 0 rfl) ?_
      refine va_get (ci := 0) (v := .ref (a 3)) (C := R_L) (T := F_L) (N := 6) hx hb hts i_L hown hK.1 hP 0 rfl rfl 1 (by decide) (hts _ wd_67) (fun _ h9 => h9) rfl d_L_above_55 ?_
      refine lv_iload_n hx hb d_L_above_58 rfl (lv_at hl 1 rfl) ?_
      refine lv_iload_n hx hb d_L_above_59 rfl (lv_at hl 2 rfl) ?_
      replace h := bd h
      obtain ⟨r4, g4, h⟩ := h
      refine ro_V (n := 2) (ci := 1) (As := [.int x1, .int x2]) (rest := []) C0 (c_C_clashes l D cI cZ a q (L_classes σ) x1 x2 g4) wd_146 ⟨wd_147, wd_148, wd_149, wd_8⟩ (by decide +kernel) ⟨Nat.le_of_ble_eq_true rfl, Nat.le_of_ble_eq_true rfl⟩ (hP.pick [3, 4, 5, 6, 7, 8, 9] rfl) rfl rfl rfl hl rfl rfl (Nat.le_of_ble_eq_true rfl) hcs d_L_above_60 ?_
      try dsimp only at h
      refine lv_if_eq (tgt := 76) hx hb d_L_above_63 (by decide) (fun hc => ?_) (fun hc => ?_)
      · rw [if_pos hc] at h
        refine lv_aload_n hx hb d_L_above_76 rfl (lv_at hl 0 rfl) ?_
        refine va_get (ci := 0) (v := .ref (a 18)) (C := R_L) (T := F_L) (N := 6) hx hb hts i_L hown hK.1 hP 0 rfl rfl 3 (by decide) (hts _ wd_150) (fun _ h9 => h9) rfl d_L_above_77 ?_
        replace h := bd h
        obtain ⟨r5, g5, h⟩ := h
        refine rw_Vv (n := 0) (ci := 3) (As := []) (rest := []) (Wn := fun _ => (wL cI cZ a q (L_set_answers σ r5.2))) C0 hA (c_A_forget l D cI cZ a q (L_answers σ) g5) wd_151 ⟨wd_152, wd_153, wd_154, wd_155⟩ (by decide +kernel) ⟨Nat.le_of_ble_eq_true rfl, Nat.le_of_ble_eq_true rfl⟩ hP hD hS [19, 20] [0, 1, 2, 3, 4, 5, 6, 7, 8, 9, 10, 11, 12, 13, 14, 15, 16, 17, 18] [0, 1, 2, 3, 4, 5, 6, 7, 8, 9, 10, 11, 12, 13, 14, 15, 16, 17, 18, 19, 20] jn_L_answers_C (by decide) jn_L_answers_R (by decide) (by decide) (by decide) jn_L_answers_W rfl rfl rfl hl rfl rfl (Nat.le_of_ble_eq_true rfl) hcs d_L_above_80 (fun H locs _ hP hD hS => ?_)
        try dsimp only at h
        refine lv_aload_n hx hb d_L_above_83 rfl (lv_at hl 0 rfl) ?_
        refine va_get (ci := 0) (v := .ref (a 3)) (C := R_L) (T := F_L) (N := 6) hx hb hts i_L hown hK.1 hP 0 rfl rfl 1 (by decide) (hts _ wd_67) (fun _ h9 => h9) rfl d_L_above_84 ?_
        refine lv_iload_n hx hb d_L_above_87 rfl (lv_at hl 1 rfl) ?_
        refine lv_iload_n hx hb d_L_above_88 rfl (lv_at hl 2 rfl) ?_
        replace h := bd h
        obtain ⟨r6, g6, h⟩ := h
        refine rw_V (n := 2) (ci := 1) (As := [.int x1, .int x2]) (rest := []) (Wn := fun _ => (wL cI cZ a q (L_set_classes (L_set_answers σ r5.2) r6.2))) C0 hA (c_C_put l D cI cZ a q (L_classes (L_set_answers σ r5.2)) x1 x2 g6) wd_156 ⟨wd_157, wd_158, wd_159, wd_8⟩ (by decide +kernel) ⟨Nat.le_of_ble_eq_true rfl, Nat.le_of_ble_eq_true rfl⟩ hP hD hS [3, 4, 5, 6, 7, 8, 9] [0, 1, 2, 10, 11, 12, 13, 14, 15, 16, 17, 18, 19, 20] [0, 1, 2, 14, 15, 16, 17, 18, 19, 20, 3, 4, 5, 6, 7, 8, 9, 10, 11, 12, 13] jn_L_classes_C (by decide) jn_L_classes_R (by decide) (by decide) (by decide) jn_L_classes_W rfl rfl rfl hl rfl rfl (Nat.le_of_ble_eq_true rfl) hcs d_L_above_89 (fun H locs _ hP hD hS => ?_)
        try dsimp only at h
        cases h; exact tx_ret C0 hP hD hS (by omega) (by omega) d_L_above_92
      · rw [if_neg hc] at h
        cases h
        exact tx_throw (k := 2) C0 hT hl0 hZ hP hD hS wd_80 wd_81 (List.mem_of_getElem? (i := 6) rfl) th_2_54_58_a th_2_54_58_b thI_2 d_L_above_66 d_L_above_69 d_L_above_70 d_L_above_72 d_L_above_75 hl (Nat.le_of_ble_eq_true rfl) (Nat.le_of_ble_eq_true rfl) (by show kc + 1 ≤ K; omega) (by show ks + 6 ≤ N; omega) (by omega) (by omega)
    · rw [if_pos hc] at h
      cases h
      exact tx_throw (k := 3) C0 hT hl0 hZ hP hD hS wd_164 wd_165 (List.mem_of_getElem? (i := 5) rfl) th_3_87_91_a th_3_87_91_b thI_3 d_L_above_44 d_L_above_47 d_L_above_48 d_L_above_50 d_L_above_53 hl (Nat.le_of_ble_eq_true rfl) (Nat.le_of_ble_eq_true rfl) (by show kc + 1 ≤ K; omega) (by show ks + 6 ≤ N; omega) (by omega) (by omega)
  · rw [if_pos hc] at h
    cases h
    exact tx_throw (k := 2) C0 hT hl0 hZ hP hD hS wd_80 wd_81 (List.mem_of_getElem? (i := 4) rfl) th_2_54_58_a th_2_54_58_b thI_2 d_L_above_25 d_L_above_28 d_L_above_29 d_L_above_31 d_L_above_34 hl (Nat.le_of_ble_eq_true rfl) (Nat.le_of_ble_eq_true rfl) (by show kc + 1 ≤ K; omega) (by show ks + 6 ≤ N; omega) (by omega) (by omega)
set_option maxHeartbeats 4000000 in
set_option maxRecDepth 100000 in
theorem t_L_above_0 {p : Program} {l : Launch} {e : Env} {s : State} {m : MethodId} {args : Array Value} {below : List Frame} {meth : Method} {c : Code} {D : va_G} {cI cZ : ClassId} {a : Nat → Nat} {A : Nat → Prop} (C0 : Am p s m args meth c b_L_above (some .int) 3 R_L D [(cI, .int), (cZ, .boolean)]) (hA : ∀ q, s.heap.size ≤ q → A q) (hT : ∀ x ∈ c.exceptionTable.toList, False) (hl0 : l.stackTraces = false) (hZ : Zs A s s.heap) {v : Int32 ⊕ Nat} {u : StL} {K N : Nat}   {q : Nat} {σ : StL} {x1 x2 : Int32} {kc ks mc ms : Nat} (h : f_L_above σ x1 x2 = some (v, u, mc, ms)) (hkc : kc + mc = K) (hks : ks + ms = N) {H : Heap} {locs : List Loc} (hP : va_P D vwCl (wL cI cZ a q σ) H) (hD : va_D A (wL cI cZ a q σ)) (hS : va_S A s.heap H locs) {ls : Array Slot} (hl : lv_has ls 3 [(0, .ref (a 0)), (1, .int x1), (2, .int x2)]) : W p l e (rmK 9 141 K N) s m args below meth c H locs kc ks (TxQ below args s D A (fun q (σ : StL) => (wL cI cZ a q σ)) v u K N) (F0 m 0 ls []) := by
  obtain ⟨hx, hb, hr, hml, hown, hts, hlk, hK⟩ := id C0
  have hcs : kc ≤ K ∧ ks ≤ N := ⟨by omega, by omega⟩
  unfold f_L_above at h
  refine lv_aload_n hx hb d_L_above_0 rfl (lv_at hl 0 rfl) ?_
  refine lv_iload_n hx hb d_L_above_1 rfl (lv_at hl 1 rfl) ?_
  replace h := bd h
  obtain ⟨r1, g1, h⟩ := h
  try dsimp only at h
  replace h := ad_s h
  obtain ⟨mc, ms, h, rfl, rfl⟩ := h
  refine tx_Vv (n := 1) (ci := 0) (As := [.int x1]) (rest := []) (Wn := fun q => (wL cI cZ a q r1.2.1)) C0 hA hZ (c_L_requireClass l D cI cZ a hl0 q σ x1 g1) wd_134 ⟨wd_135, wd_136, wd_137, wd_55⟩ (by decide +kernel) ⟨Nat.le_of_ble_eq_true rfl, Nat.le_of_ble_eq_true rfl⟩ hP hD hS [0, 1, 2, 3, 4, 5, 6, 7, 8, 9, 10, 11, 12, 13, 14, 15, 16, 17, 18, 19, 20] [] [0, 1, 2, 3, 4, 5, 6, 7, 8, 9, 10, 11, 12, 13, 14, 15, 16, 17, 18, 19, 20] jn_L__C (by decide) jn_L__R (by decide) (by decide) (by decide) jn_L__W rfl rfl rfl hl rfl rfl (Nat.le_of_ble_eq_true rfl) ⟨by show kc + _ ≤ K; omega, by show ks + _ ≤ N; omega⟩ d_L_above_2 (fun ek H locs q q9 ce hv hP hD hS h1 h2 h3 => ?_) (fun r1v H locs q hv hP hD hS => ?_)
  · rw [hv] at h
    cases h
    exact tx_out C0 hT hP hD hS h1 h2 h3 (by omega) (by omega)
  · rw [hv] at h
    try dsimp only at h
    have hkc : (kc + r1.2.2.1) + mc = K := by omega
    have hks : (ks + r1.2.2.2) + ms = N := by omega
    have hcs : (kc + r1.2.2.1) ≤ K ∧ (ks + r1.2.2.2) ≤ N := ⟨by omega, by omega⟩
    refine lv_iload_n hx hb d_L_above_5 rfl (lv_at hl 2 rfl) ?_
    refine lv_if_lt (tgt := 14) hx hb d_L_above_6 (by decide) (fun hc => ?_) (fun hc => ?_)
    · rw [if_pos hc] at h
      exact t_L_above_14 (a := a) C0 hA hT hl0 hZ  h hkc hks hP hD hS (lv_sub hl [0, 1, 2] rfl)
    · rw [if_neg hc] at h
      refine lv_aload_n hx hb d_L_above_9 rfl (lv_at hl 0 rfl) ?_
      refine lv_iload_n hx hb d_L_above_10 rfl (lv_at hl 2 rfl) ?_
      replace h := bd h
      obtain ⟨r7, g7, h⟩ := h
      try dsimp only at h
      replace h := ad_s h
      obtain ⟨mc, ms, h, rfl, rfl⟩ := h
      refine tx_Vv (n := 1) (ci := 0) (As := [.int x2]) (rest := []) (Wn := fun q => (wL cI cZ a q r7.2.1)) C0 hA hZ (c_L_requireType l D cI cZ a hl0 q r1.2.1 x2 g7) wd_160 ⟨wd_161, wd_162, wd_163, wd_55⟩ (by decide +kernel) ⟨Nat.le_of_ble_eq_true rfl, Nat.le_of_ble_eq_true rfl⟩ hP hD hS [0, 1, 2, 3, 4, 5, 6, 7, 8, 9, 10, 11, 12, 13, 14, 15, 16, 17, 18, 19, 20] [] [0, 1, 2, 3, 4, 5, 6, 7, 8, 9, 10, 11, 12, 13, 14, 15, 16, 17, 18, 19, 20] jn_L__C (by decide) jn_L__R (by decide) (by decide) (by decide) jn_L__W rfl rfl rfl hl rfl rfl (Nat.le_of_ble_eq_true rfl) ⟨by show (kc + r1.2.2.1) + _ ≤ K; omega, by show (ks + r1.2.2.2) + _ ≤ N; omega⟩ d_L_above_11 (fun ek H locs q q9 ce hv hP hD hS h1 h2 h3 => ?_) (fun r7v H locs q hv hP hD hS => ?_)
      · rw [hv] at h
        cases h
        exact tx_out C0 hT hP hD hS h1 h2 h3 (by omega) (by omega)
      · rw [hv] at h
        try dsimp only at h
        have hkc : ((kc + r1.2.2.1) + r7.2.2.1) + mc = K := by omega
        have hks : ((ks + r1.2.2.2) + r7.2.2.2) + ms = N := by omega
        have hcs : ((kc + r1.2.2.1) + r7.2.2.1) ≤ K ∧ ((ks + r1.2.2.2) + r7.2.2.2) ≤ N := ⟨by omega, by omega⟩
        exact t_L_above_14 (a := a) C0 hA hT hl0 hZ  h hkc hks hP hD hS (lv_sub hl [0, 1, 2] rfl)
set_option maxHeartbeats 4000000 in
set_option maxRecDepth 100000 in
theorem c_L_above (l : Launch) (D : va_G) (cI cZ : ClassId) (a : Nat → Nat) (hl0 : l.stackTraces = false) (q : Nat) (σ : StL) (x1 : Int32) (x2 : Int32) {res : (Int32 ⊕ Nat) × StL × Nat × Nat} (h : f_L_above σ x1 x2 = some res) : TxM l y_L_above b_L_above 3 (some .int) 9 141 D [(cI, .int), (cZ, .boolean)] [.ref (a 0), .int x1, .int x2] (fun q (σ : StL) => (wL cI cZ a q σ)) q σ res :=
  tx_of (by decide) (Nat.le_of_ble_eq_true rfl) (fun p e s m args below meth c ls A C0 hA hT hZ hP hD hS hl => t_L_above_0 (a := a) (kc := 0) (ks := 0) C0 hA hT hl0 hZ h (Nat.zero_add _) (Nat.zero_add _) hP hD hS (lv_sub hl [0, 1, 2] rfl))
-- part 07.5L.05L_settled.lean.txt
def f_L_settled (σ : StL) (x1 : Int32) : Option ((Int32 ⊕ Nat) × StL × Nat × Nat) :=
  if x1 = (-1) then
    (f_T_dropUnsettled (L_types σ)).bind fun r2 =>
    some (.inr 2, (L_set_types σ r2.2), 1, 6)
  else
    (f_T_settle (L_types σ)).bind fun r1 =>
    some (.inl x1, (L_set_types σ r1.2), 0, 0)
set_option maxHeartbeats 4000000 in
set_option maxRecDepth 100000 in
theorem t_L_settled_0 {p : Program} {l : Launch} {e : Env} {s : State} {m : MethodId} {args : Array Value} {below : List Frame} {meth : Method} {c : Code} {D : va_G} {cI cZ : ClassId} {a : Nat → Nat} {A : Nat → Prop} (C0 : Am p s m args meth c b_L_settled (some .int) 2 R_L D [(cI, .int), (cZ, .boolean)]) (hA : ∀ q, s.heap.size ≤ q → A q) (hT : ∀ x ∈ c.exceptionTable.toList, False) (hl0 : l.stackTraces = false) (hZ : Zs A s s.heap) {v : Int32 ⊕ Nat} {u : StL} {K N : Nat}   {q : Nat} {σ : StL} {x1 : Int32} {kc ks mc ms : Nat} (h : f_L_settled σ x1 = some (v, u, mc, ms)) (hkc : kc + mc = K) (hks : ks + ms = N) {H : Heap} {locs : List Loc} (hP : va_P D vwCl (wL cI cZ a q σ) H) (hD : va_D A (wL cI cZ a q σ)) (hS : va_S A s.heap H locs) {ls : Array Slot} (hl : lv_has ls 2 [(0, .ref (a 0)), (1, .int x1)]) : W p l e (rmK 8 120 K N) s m args below meth c H locs kc ks (TxQ below args s D A (fun q (σ : StL) => (wL cI cZ a q σ)) v u K N) (F0 m 0 ls []) := by
  obtain ⟨hx, hb, hr, hml, hown, hts, hlk, hK⟩ := id C0
  have hcs : kc ≤ K ∧ ks ≤ N := ⟨by omega, by omega⟩
  unfold f_L_settled at h
  refine lv_iload_n hx hb d_L_settled_0 rfl (lv_at hl 1 rfl) ?_
  refine lv_iconst (v := (-1)) hx hb d_L_settled_1 (by decide) ?_
  refine lv_icmp_ne (tgt := 22) hx hb d_L_settled_2 (by decide) (fun hc => ?_) (fun hc => ?_)
  · rw [if_neg hc] at h
    refine lv_aload_n hx hb d_L_settled_22 rfl (lv_at hl 0 rfl) ?_
    refine va_get (ci := 0) (v := .ref (a 10)) (C := R_L) (T := F_L) (N := 6) hx hb hts i_L hown hK.1 hP 0 rfl rfl 2 (by decide) (hts _ wd_85) (fun _ h9 => h9) rfl d_L_settled_23 ?_
    replace h := bd h
    obtain ⟨r1, g1, h⟩ := h
    refine rw_Vv (n := 0) (ci := 2) (As := []) (rest := []) (Wn := fun q => (wL cI cZ a q (L_set_types σ r1.2))) C0 hA (c_T_settle l D cI cZ a q (L_types σ) g1) wd_166 ⟨wd_167, wd_168, wd_169, wd_52⟩ (by decide +kernel) ⟨Nat.le_of_ble_eq_true rfl, Nat.le_of_ble_eq_true rfl⟩ hP hD hS [10, 11, 12, 13, 14, 15, 16, 17, 18] [0, 1, 2, 3, 4, 5, 6, 7, 8, 9, 19, 20] [0, 1, 2, 3, 4, 5, 6, 7, 8, 9, 12, 13, 14, 15, 16, 17, 18, 19, 20, 10, 11] jn_L_types_C (by decide) jn_L_types_R (by decide) (by decide) (by decide) jn_L_types_W rfl rfl rfl hl rfl rfl (Nat.le_of_ble_eq_true rfl) hcs d_L_settled_26 (fun H locs q hP hD hS => ?_)
    try dsimp only at h
    refine lv_iload_n hx hb d_L_settled_29 rfl (lv_at hl 1 rfl) ?_
    cases h; exact tx_ret C0 hP hD hS (by omega) (by omega) d_L_settled_30
  · rw [if_pos hc] at h
    refine lv_aload_n hx hb d_L_settled_5 rfl (lv_at hl 0 rfl) ?_
    refine va_get (ci := 0) (v := .ref (a 10)) (C := R_L) (T := F_L) (N := 6) hx hb hts i_L hown hK.1 hP 0 rfl rfl 2 (by decide) (hts _ wd_85) (fun _ h9 => h9) rfl d_L_settled_6 ?_
    replace h := bd h
    obtain ⟨r2, g2, h⟩ := h
    refine rw_Vv (n := 0) (ci := 2) (As := []) (rest := []) (Wn := fun q => (wL cI cZ a q (L_set_types σ r2.2))) C0 hA (c_T_dropUnsettled l D cI cZ a q (L_types σ) g2) wd_170 ⟨wd_171, wd_172, wd_173, wd_52⟩ (by decide +kernel) ⟨Nat.le_of_ble_eq_true rfl, Nat.le_of_ble_eq_true rfl⟩ hP hD hS [10, 11, 12, 13, 14, 15, 16, 17, 18] [0, 1, 2, 3, 4, 5, 6, 7, 8, 9, 19, 20] [0, 1, 2, 3, 4, 5, 6, 7, 8, 9, 12, 13, 14, 15, 16, 17, 18, 19, 20, 10, 11] jn_L_types_C (by decide) jn_L_types_R (by decide) (by decide) (by decide) jn_L_types_W rfl rfl rfl hl rfl rfl (Nat.le_of_ble_eq_true rfl) hcs d_L_settled_9 (fun H locs q hP hD hS => ?_)
    try dsimp only at h
    cases h
    exact tx_throw (k := 2) C0 hT hl0 hZ hP hD hS wd_80 wd_81 (List.mem_of_getElem? (i := 9) rfl) th_2_54_58_a th_2_54_58_b thI_2 d_L_settled_12 d_L_settled_15 d_L_settled_16 d_L_settled_18 d_L_settled_21 hl (Nat.le_of_ble_eq_true rfl) (Nat.le_of_ble_eq_true rfl) (by show kc + 1 ≤ K; omega) (by show ks + 6 ≤ N; omega) (by omega) (by omega)
set_option maxHeartbeats 4000000 in
set_option maxRecDepth 100000 in
theorem c_L_settled (l : Launch) (D : va_G) (cI cZ : ClassId) (a : Nat → Nat) (hl0 : l.stackTraces = false) (q : Nat) (σ : StL) (x1 : Int32) {res : (Int32 ⊕ Nat) × StL × Nat × Nat} (h : f_L_settled σ x1 = some res) : TxM l y_L_settled b_L_settled 2 (some .int) 8 120 D [(cI, .int), (cZ, .boolean)] [.ref (a 0), .int x1] (fun q (σ : StL) => (wL cI cZ a q σ)) q σ res :=
  tx_of (by decide) (Nat.le_of_ble_eq_true rfl) (fun p e s m args below meth c ls A C0 hA hT hZ hP hD hS hl => t_L_settled_0 (a := a) (kc := 0) (ks := 0) C0 hA hT hl0 hZ h (Nat.zero_add _) (Nat.zero_add _) hP hD hS (lv_sub hl [0, 1] rfl))
-- part 07.5L.06L_named.lean.txt
def f_L_named_89 (σ : StL) (x1 x2 x3 : Int32) : Option ((Int32 ⊕ Nat) × StL × Nat × Nat) :=
  (f_T_makeNamed (L_types σ) x1 (f_L_argumentOf x2 x3)).bind fun r3 =>
  (f_L_settled (L_set_types σ r3.2) r3.1).bind fun r4 => ad_ r4.2.2.1 r4.2.2.2 <| match r4.1 with
  | .inr e => some (.inr e, r4.2.1, 0, 0)
  | .inl r4v =>
  some (.inl r4v, r4.2.1, 0, 0)
def f_L_named_53 (σ : StL) : Option ((Int32 ⊕ Nat) × StL × Nat × Nat) :=
  some (.inr 3, σ, 1, 6)
def f_L_named_40 (σ : StL) (x1 x2 x3 x4 : Int32) : Option ((Int32 ⊕ Nat) × StL × Nat × Nat) :=
  (f_C_isGeneric (L_classes σ) x1).bind fun r2 =>
  if x4 = r2 then
    if x4 = 0 then
      f_L_named_89 σ x1 x2 x3
    else
      (f_T_kindOf (L_types σ) x3).bind fun r5 =>
      if r5 = 0 then
        some (.inr 3, σ, 1, 6)
      else
        f_L_named_89 σ x1 x2 x3
  else
    f_L_named_53 σ
def f_L_named_29 (σ : StL) (x1 x2 x3 t0 : Int32) : Option ((Int32 ⊕ Nat) × StL × Nat × Nat) :=
  if t0 = 0 then
    if x2 = 0 then
      f_L_named_40 σ x1 x2 x3 t0
    else
      f_L_named_53 σ
  else
    f_L_named_40 σ x1 x2 x3 t0
def f_L_named_24 (σ : StL) (x1 x2 x3 : Int32) : Option ((Int32 ⊕ Nat) × StL × Nat × Nat) :=
  f_L_named_29 σ x1 x2 x3 1
def f_L_named_14 (σ : StL) (x1 x2 x3 : Int32) : Option ((Int32 ⊕ Nat) × StL × Nat × Nat) :=
  if x2 = 1 then
    f_L_named_24 σ x1 x2 x3
  else
    if x2 = 2 then
      f_L_named_24 σ x1 x2 x3
    else
      f_L_named_29 σ x1 x2 x3 0
def f_L_named (σ : StL) (x1 x2 x3 : Int32) : Option ((Int32 ⊕ Nat) × StL × Nat × Nat) :=
  (f_L_requireClass σ x1).bind fun r1 => ad_ r1.2.2.1 r1.2.2.2 <| match r1.1 with
  | .inr e => some (.inr e, r1.2.1, 0, 0)
  | .inl r1v =>
  if x2 = 0 then
    f_L_named_14 r1.2.1 x1 x2 x3
  else
    (f_L_requireType r1.2.1 x3).bind fun r6 => ad_ r6.2.2.1 r6.2.2.2 <| match r6.1 with
    | .inr e => some (.inr e, r6.2.1, 0, 0)
    | .inl r6v =>
    f_L_named_14 r6.2.1 x1 x2 x3
set_option maxHeartbeats 4000000 in
set_option maxRecDepth 100000 in
theorem t_L_named_89 {p : Program} {l : Launch} {e : Env} {s : State} {m : MethodId} {args : Array Value} {below : List Frame} {meth : Method} {c : Code} {D : va_G} {cI cZ : ClassId} {a : Nat → Nat} {A : Nat → Prop} (C0 : Am p s m args meth c b_L_named (some .int) 5 R_L D [(cI, .int), (cZ, .boolean)]) (hA : ∀ q, s.heap.size ≤ q → A q) (hT : ∀ x ∈ c.exceptionTable.toList, False) (hl0 : l.stackTraces = false) (hZ : Zs A s s.heap) {v : Int32 ⊕ Nat} {u : StL} {K N : Nat}   {q : Nat} {σ : StL} {x1 x2 x3 : Int32} {kc ks mc ms : Nat} (h : f_L_named_89 σ x1 x2 x3 = some (v, u, mc, ms)) (hkc : kc + mc = K) (hks : ks + ms = N) {H : Heap} {locs : List Loc} (hP : va_P D vwCl (wL cI cZ a q σ) H) (hD : va_D A (wL cI cZ a q σ)) (hS : va_S A s.heap H locs) {ls : Array Slot} (hl : lv_has ls 5 [(0, .ref (a 0)), (1, .int x1), (2, .int x2), (3, .int x3)]) : W p l e (rmK 9 141 K N) s m args below meth c H locs kc ks (TxQ below args s D A (fun q (σ : StL) => (wL cI cZ a q σ)) v u K N) (F0 m 89 ls []) := by
  obtain ⟨hx, hb, hr, hml, hown, hts, hlk, hK⟩ := id C0
  have hcs : kc ≤ K ∧ ks ≤ N := ⟨by omega, by omega⟩
  unfold f_L_named_89 at h
  refine lv_aload_n hx hb d_L_named_89 rfl (lv_at hl 0 rfl) ?_
  refine lv_aload_n hx hb d_L_named_90 rfl (lv_at hl 0 rfl) ?_
  refine va_get (ci := 0) (v := .ref (a 10)) (C := R_L) (T := F_L) (N := 6) hx hb hts i_L hown hK.1 hP 0 rfl rfl 2 (by decide) (hts _ wd_85) (fun _ h9 => h9) rfl d_L_named_91 ?_
  refine lv_iload_n hx hb d_L_named_94 rfl (lv_at hl 1 rfl) ?_
  refine lv_iload_n hx hb d_L_named_95 rfl (lv_at hl 2 rfl) ?_
  refine lv_iload_n hx hb d_L_named_96 rfl (lv_at hl 3 rfl) ?_
  refine ro_S (n := 2) (As := [.int x2, .int x3]) (rest := [.int x1, .ref (a 10), .ref (a 0)]) C0 (c_L_argumentOf l D cI cZ a x2 x3 rfl) wd_174 ⟨wd_106, wd_107, wd_55⟩ (by decide +kernel) ⟨Nat.le_of_ble_eq_true rfl, Nat.le_of_ble_eq_true rfl⟩ pnil hl rfl rfl (Nat.le_of_ble_eq_true rfl) hcs d_L_named_97 ?_
  replace h := bd h
  obtain ⟨r3, g3, h⟩ := h
  refine rw_V (n := 2) (ci := 2) (As := [.int x1, .int (f_L_argumentOf x2 x3)]) (rest := [.ref (a 0)]) (Wn := fun q => (wL cI cZ a q (L_set_types σ r3.2))) C0 hA (c_T_makeNamed l D cI cZ a q (L_types σ) x1 (f_L_argumentOf x2 x3) g3) wd_175 ⟨wd_176, wd_177, wd_178, wd_52⟩ (by decide +kernel) ⟨Nat.le_of_ble_eq_true rfl, Nat.le_of_ble_eq_true rfl⟩ hP hD hS [10, 11, 12, 13, 14, 15, 16, 17, 18] [0, 1, 2, 3, 4, 5, 6, 7, 8, 9, 19, 20] [0, 1, 2, 3, 4, 5, 6, 7, 8, 9, 12, 13, 14, 15, 16, 17, 18, 19, 20, 10, 11] jn_L_types_C (by decide) jn_L_types_R (by decide) (by decide) (by decide) jn_L_types_W rfl rfl rfl hl rfl rfl (Nat.le_of_ble_eq_true rfl) hcs d_L_named_100 (fun H locs q hP hD hS => ?_)
  try dsimp only at h
  replace h := bd h
  obtain ⟨r4, g4, h⟩ := h
  try dsimp only at h
  replace h := ad_s h
  obtain ⟨mc, ms, h, rfl, rfl⟩ := h
  refine tx_V (n := 1) (ci := 0) (As := [.int r3.1]) (rest := []) (Wn := fun q => (wL cI cZ a q r4.2.1)) C0 hA hZ (c_L_settled l D cI cZ a hl0 q (L_set_types σ r3.2) r3.1 g4) wd_179 ⟨wd_180, wd_181, wd_182, wd_55⟩ (by decide +kernel) ⟨Nat.le_of_ble_eq_true rfl, Nat.le_of_ble_eq_true rfl⟩ hP hD hS [0, 1, 2, 3, 4, 5, 6, 7, 8, 9, 10, 11, 12, 13, 14, 15, 16, 17, 18, 19, 20] [] [0, 1, 2, 3, 4, 5, 6, 7, 8, 9, 10, 11, 12, 13, 14, 15, 16, 17, 18, 19, 20] jn_L__C (by decide) jn_L__R (by decide) (by decide) (by decide) jn_L__W rfl rfl rfl hl rfl rfl (Nat.le_of_ble_eq_true rfl) ⟨by show kc + _ ≤ K; omega, by show ks + _ ≤ N; omega⟩ d_L_named_103 (fun ek H locs q q9 ce hv hP hD hS h1 h2 h3 => ?_) (fun r4v H locs q hv hP hD hS => ?_)
  · rw [hv] at h
    cases h
    exact tx_out C0 hT hP hD hS h1 h2 h3 (by omega) (by omega)
  · rw [hv] at h
    try dsimp only at h
    have hkc : (kc + r4.2.2.1) + mc = K := by omega
    have hks : (ks + r4.2.2.2) + ms = N := by omega
    have hcs : (kc + r4.2.2.1) ≤ K ∧ (ks + r4.2.2.2) ≤ N := ⟨by omega, by omega⟩
    cases h; exact tx_ret C0 hP hD hS (by omega) (by omega) d_L_named_106
set_option maxHeartbeats 4000000 in
set_option maxRecDepth 100000 in
theorem t_L_named_53 {p : Program} {l : Launch} {e : Env} {s : State} {m : MethodId} {args : Array Value} {below : List Frame} {meth : Method} {c : Code} {D : va_G} {cI cZ : ClassId} {a : Nat → Nat} {A : Nat → Prop} (C0 : Am p s m args meth c b_L_named (some .int) 5 R_L D [(cI, .int), (cZ, .boolean)]) (hA : ∀ q, s.heap.size ≤ q → A q) (hT : ∀ x ∈ c.exceptionTable.toList, False) (hl0 : l.stackTraces = false) (hZ : Zs A s s.heap) {v : Int32 ⊕ Nat} {u : StL} {K N : Nat}   {q : Nat} {σ : StL} {kc ks mc ms : Nat} (h : f_L_named_53 σ = some (v, u, mc, ms)) (hkc : kc + mc = K) (hks : ks + ms = N) {H : Heap} {locs : List Loc} (hP : va_P D vwCl (wL cI cZ a q σ) H) (hD : va_D A (wL cI cZ a q σ)) (hS : va_S A s.heap H locs) {ls : Array Slot} (hl : lv_has ls 5 []) : W p l e (rmK 9 141 K N) s m args below meth c H locs kc ks (TxQ below args s D A (fun q (σ : StL) => (wL cI cZ a q σ)) v u K N) (F0 m 53 ls []) := by
  obtain ⟨hx, hb, hr, hml, hown, hts, hlk, hK⟩ := id C0
  have hcs : kc ≤ K ∧ ks ≤ N := ⟨by omega, by omega⟩
  unfold f_L_named_53 at h
  cases h
  exact tx_throw (k := 3) C0 hT hl0 hZ hP hD hS wd_164 wd_165 (List.mem_of_getElem? (i := 7) rfl) th_3_87_91_a th_3_87_91_b thI_3 d_L_named_53 d_L_named_56 d_L_named_57 d_L_named_59 d_L_named_62 hl (Nat.le_of_ble_eq_true rfl) (Nat.le_of_ble_eq_true rfl) (by show kc + 1 ≤ K; omega) (by show ks + 6 ≤ N; omega) (by omega) (by omega)
set_option maxHeartbeats 4000000 in
set_option maxRecDepth 100000 in
theorem t_L_named_40 {p : Program} {l : Launch} {e : Env} {s : State} {m : MethodId} {args : Array Value} {below : List Frame} {meth : Method} {c : Code} {D : va_G} {cI cZ : ClassId} {a : Nat → Nat} {A : Nat → Prop} (C0 : Am p s m args meth c b_L_named (some .int) 5 R_L D [(cI, .int), (cZ, .boolean)]) (hA : ∀ q, s.heap.size ≤ q → A q) (hT : ∀ x ∈ c.exceptionTable.toList, False) (hl0 : l.stackTraces = false) (hZ : Zs A s s.heap) {v : Int32 ⊕ Nat} {u : StL} {K N : Nat}   {q : Nat} {σ : StL} {x1 x2 x3 x4 : Int32} {kc ks mc ms : Nat} (h : f_L_named_40 σ x1 x2 x3 x4 = some (v, u, mc, ms)) (hkc : kc + mc = K) (hks : ks + ms = N) {H : Heap} {locs : List Loc} (hP : va_P D vwCl (wL cI cZ a q σ) H) (hD : va_D A (wL cI cZ a q σ)) (hS : va_S A s.heap H locs) {ls : Array Slot} (hl : lv_has ls 5 [(0, .ref (a 0)), (1, .int x1), (2, .int x2), (3, .int x3), (4, .int x4)]) : W p l e (rmK 9 141 K N) s m args below meth c H locs kc ks (TxQ below args s D A (fun q (σ : StL) => (wL cI cZ a q σ)) v u K N) (F0 m 40 ls []) := by
  obtain ⟨hx, hb, hr, hml, hown, hts, hlk, hK⟩ := id C0
  have hcs : kc ≤ K ∧ ks ≤ N := ⟨by omega, by omega⟩
  unfold f_L_named_40 at h
  refine lv_iload hx hb d_L_named_40 (lv_at hl 4 rfl) ?_
  refine lv_aload_n hx hb d_L_named_42 rfl (lv_at hl 0 rfl) ?_
  refine va_get (ci := 0) (v := .ref (a 3)) (C := R_L) (T := F_L) (N := 6) hx hb hts i_L hown hK.1 hP 0 rfl rfl 1 (by decide) (hts _ wd_67) (fun _ h9 => h9) rfl d_L_named_43 ?_
  refine lv_iload_n hx hb d_L_named_46 rfl (lv_at hl 1 rfl) ?_
  replace h := bd h
  obtain ⟨r2, g2, h⟩ := h
  refine ro_V (n := 1) (ci := 1) (As := [.int x1]) (rest := [.int x4]) C0 (c_C_isGeneric l D cI cZ a q (L_classes σ) x1 g2) wd_95 ⟨wd_96, wd_97, wd_98, wd_8⟩ (by decide +kernel) ⟨Nat.le_of_ble_eq_true rfl, Nat.le_of_ble_eq_true rfl⟩ (hP.pick [3, 4, 5, 6, 7, 8, 9] rfl) rfl rfl rfl hl rfl rfl (Nat.le_of_ble_eq_true rfl) hcs d_L_named_47 ?_
  try dsimp only at h
  refine lv_icmp_eq (tgt := 63) hx hb d_L_named_50 (by decide) (fun hc => ?_) (fun hc => ?_)
  · rw [if_pos hc] at h
    refine lv_iload hx hb d_L_named_63 (lv_at hl 4 rfl) ?_
    refine lv_if_eq (tgt := 89) hx hb d_L_named_65 (by decide) (fun hc => ?_) (fun hc => ?_)
    · rw [if_pos hc] at h
      exact t_L_named_89 (a := a) C0 hA hT hl0 hZ  h hkc hks hP hD hS (lv_sub hl [0, 1, 2, 3] rfl)
    · rw [if_neg hc] at h
      refine lv_aload_n hx hb d_L_named_68 rfl (lv_at hl 0 rfl) ?_
      refine va_get (ci := 0) (v := .ref (a 10)) (C := R_L) (T := F_L) (N := 6) hx hb hts i_L hown hK.1 hP 0 rfl rfl 2 (by decide) (hts _ wd_85) (fun _ h9 => h9) rfl d_L_named_69 ?_
      refine lv_iload_n hx hb d_L_named_72 rfl (lv_at hl 3 rfl) ?_
      replace h := bd h
      obtain ⟨r5, g5, h⟩ := h
      refine ro_V (n := 1) (ci := 2) (As := [.int x3]) (rest := []) C0 (c_T_kindOf l D cI cZ a q (L_types σ) x3 g5) wd_99 ⟨wd_100, wd_101, wd_102, wd_52⟩ (by decide +kernel) ⟨Nat.le_of_ble_eq_true rfl, Nat.le_of_ble_eq_true rfl⟩ (hP.pick [10, 11, 12, 13, 14, 15, 16, 17, 18] rfl) rfl rfl rfl hl rfl rfl (Nat.le_of_ble_eq_true rfl) hcs d_L_named_73 ?_
      try dsimp only at h
      refine lv_if_ne (tgt := 89) hx hb d_L_named_76 (by decide) (fun hc => ?_) (fun hc => ?_)
      · rw [if_neg hc] at h
        exact t_L_named_89 (a := a) C0 hA hT hl0 hZ  h hkc hks hP hD hS (lv_sub hl [0, 1, 2, 3] rfl)
      · rw [if_pos hc] at h
        cases h
        exact tx_throw (k := 3) C0 hT hl0 hZ hP hD hS wd_164 wd_165 (List.mem_of_getElem? (i := 8) rfl) th_3_87_91_a th_3_87_91_b thI_3 d_L_named_79 d_L_named_82 d_L_named_83 d_L_named_85 d_L_named_88 hl (Nat.le_of_ble_eq_true rfl) (Nat.le_of_ble_eq_true rfl) (by show kc + 1 ≤ K; omega) (by show ks + 6 ≤ N; omega) (by omega) (by omega)
  · rw [if_neg hc] at h
    exact t_L_named_53 (a := a) C0 hA hT hl0 hZ  h hkc hks hP hD hS (lv_sub hl [] rfl)
set_option maxHeartbeats 4000000 in
set_option maxRecDepth 100000 in
theorem t_L_named_29 {p : Program} {l : Launch} {e : Env} {s : State} {m : MethodId} {args : Array Value} {below : List Frame} {meth : Method} {c : Code} {D : va_G} {cI cZ : ClassId} {a : Nat → Nat} {A : Nat → Prop} (C0 : Am p s m args meth c b_L_named (some .int) 5 R_L D [(cI, .int), (cZ, .boolean)]) (hA : ∀ q, s.heap.size ≤ q → A q) (hT : ∀ x ∈ c.exceptionTable.toList, False) (hl0 : l.stackTraces = false) (hZ : Zs A s s.heap) {v : Int32 ⊕ Nat} {u : StL} {K N : Nat}   {q : Nat} {σ : StL} {x1 x2 x3 t0 : Int32} {kc ks mc ms : Nat} (h : f_L_named_29 σ x1 x2 x3 t0 = some (v, u, mc, ms)) (hkc : kc + mc = K) (hks : ks + ms = N) {H : Heap} {locs : List Loc} (hP : va_P D vwCl (wL cI cZ a q σ) H) (hD : va_D A (wL cI cZ a q σ)) (hS : va_S A s.heap H locs) {ls : Array Slot} (hl : lv_has ls 5 [(0, .ref (a 0)), (1, .int x1), (2, .int x2), (3, .int x3)]) : W p l e (rmK 9 141 K N) s m args below meth c H locs kc ks (TxQ below args s D A (fun q (σ : StL) => (wL cI cZ a q σ)) v u K N) (F0 m 29 ls [.int t0]) := by
  obtain ⟨hx, hb, hr, hml, hown, hts, hlk, hK⟩ := id C0
  have hcs : kc ≤ K ∧ ks ≤ N := ⟨by omega, by omega⟩
  unfold f_L_named_29 at h
  refine lv_istore (lv' := [(4, .int t0), (0, .ref (a 0)), (1, .int x1), (2, .int x2), (3, .int x3)]) hx hb d_L_named_29 hl (by decide) rfl (fun ls hl => ?_)
  refine lv_iload hx hb d_L_named_31 (lv_at hl 0 rfl) ?_
  refine lv_if_ne (tgt := 40) hx hb d_L_named_33 (by decide) (fun hc => ?_) (fun hc => ?_)
  · rw [if_neg hc] at h
    exact t_L_named_40 (a := a) C0 hA hT hl0 hZ  h hkc hks hP hD hS (lv_sub hl [1, 2, 3, 4, 0] rfl)
  · rw [if_pos hc] at h
    refine lv_iload_n hx hb d_L_named_36 rfl (lv_at hl 3 rfl) ?_
    refine lv_if_ne (tgt := 53) hx hb d_L_named_37 (by decide) (fun hc => ?_) (fun hc => ?_)
    · rw [if_neg hc] at h
      exact t_L_named_53 (a := a) C0 hA hT hl0 hZ  h hkc hks hP hD hS (lv_sub hl [] rfl)
    · rw [if_pos hc] at h
      exact t_L_named_40 (a := a) C0 hA hT hl0 hZ  h hkc hks hP hD hS (lv_sub hl [1, 2, 3, 4, 0] rfl)
set_option maxHeartbeats 4000000 in
set_option maxRecDepth 100000 in
theorem t_L_named_24 {p : Program} {l : Launch} {e : Env} {s : State} {m : MethodId} {args : Array Value} {below : List Frame} {meth : Method} {c : Code} {D : va_G} {cI cZ : ClassId} {a : Nat → Nat} {A : Nat → Prop} (C0 : Am p s m args meth c b_L_named (some .int) 5 R_L D [(cI, .int), (cZ, .boolean)]) (hA : ∀ q, s.heap.size ≤ q → A q) (hT : ∀ x ∈ c.exceptionTable.toList, False) (hl0 : l.stackTraces = false) (hZ : Zs A s s.heap) {v : Int32 ⊕ Nat} {u : StL} {K N : Nat}   {q : Nat} {σ : StL} {x1 x2 x3 : Int32} {kc ks mc ms : Nat} (h : f_L_named_24 σ x1 x2 x3 = some (v, u, mc, ms)) (hkc : kc + mc = K) (hks : ks + ms = N) {H : Heap} {locs : List Loc} (hP : va_P D vwCl (wL cI cZ a q σ) H) (hD : va_D A (wL cI cZ a q σ)) (hS : va_S A s.heap H locs) {ls : Array Slot} (hl : lv_has ls 5 [(0, .ref (a 0)), (1, .int x1), (2, .int x2), (3, .int x3)]) : W p l e (rmK 9 141 K N) s m args below meth c H locs kc ks (TxQ below args s D A (fun q (σ : StL) => (wL cI cZ a q σ)) v u K N) (F0 m 24 ls []) := by
  obtain ⟨hx, hb, hr, hml, hown, hts, hlk, hK⟩ := id C0
  have hcs : kc ≤ K ∧ ks ≤ N := ⟨by omega, by omega⟩
  unfold f_L_named_24 at h
  refine lv_iconst (v := 1) hx hb d_L_named_24 (by decide) ?_
  refine lv_goto (tgt := 29) hx hb d_L_named_25 (by decide) ?_
  exact t_L_named_29 (a := a) C0 hA hT hl0 hZ  h hkc hks hP hD hS (lv_sub hl [0, 1, 2, 3] rfl)
set_option maxHeartbeats 4000000 in
set_option maxRecDepth 100000 in
theorem t_L_named_14 {p : Program} {l : Launch} {e : Env} {s : State} {m : MethodId} {args : Array Value} {below : List Frame} {meth : Method} {c : Code} {D : va_G} {cI cZ : ClassId} {a : Nat → Nat} {A : Nat → Prop} (C0 : Am p s m args meth c b_L_named (some .int) 5 R_L D [(cI, .int), (cZ, .boolean)]) (hA : ∀ q, s.heap.size ≤ q → A q) (hT : ∀ x ∈ c.exceptionTable.toList, False) (hl0 : l.stackTraces = false) (hZ : Zs A s s.heap) {v : Int32 ⊕ Nat} {u : StL} {K N : Nat}   {q : Nat} {σ : StL} {x1 x2 x3 : Int32} {kc ks mc ms : Nat} (h : f_L_named_14 σ x1 x2 x3 = some (v, u, mc, ms)) (hkc : kc + mc = K) (hks : ks + ms = N) {H : Heap} {locs : List Loc} (hP : va_P D vwCl (wL cI cZ a q σ) H) (hD : va_D A (wL cI cZ a q σ)) (hS : va_S A s.heap H locs) {ls : Array Slot} (hl : lv_has ls 5 [(0, .ref (a 0)), (1, .int x1), (2, .int x2), (3, .int x3)]) : W p l e (rmK 9 141 K N) s m args below meth c H locs kc ks (TxQ below args s D A (fun q (σ : StL) => (wL cI cZ a q σ)) v u K N) (F0 m 14 ls []) := by
  obtain ⟨hx, hb, hr, hml, hown, hts, hlk, hK⟩ := id C0
  have hcs : kc ≤ K ∧ ks ≤ N := ⟨by omega, by omega⟩
  unfold f_L_named_14 at h
  refine lv_iload_n hx hb d_L_named_14 rfl (lv_at hl 2 rfl) ?_
  refine lv_iconst (v := 1) hx hb d_L_named_15 (by decide) ?_
  refine lv_icmp_eq (tgt := 24) hx hb d_L_named_16 (by decide) (fun hc => ?_) (fun hc => ?_)
  · rw [if_pos hc] at h
    exact t_L_named_24 (a := a) C0 hA hT hl0 hZ  h hkc hks hP hD hS (lv_sub hl [0, 1, 2, 3] rfl)
  · rw [if_neg hc] at h
    refine lv_iload_n hx hb d_L_named_19 rfl (lv_at hl 2 rfl) ?_
    refine lv_iconst (v := 2) hx hb d_L_named_20 (by decide) ?_
    refine lv_icmp_ne (tgt := 28) hx hb d_L_named_21 (by decide) (fun hc => ?_) (fun hc => ?_)
    · rw [if_neg hc] at h
      refine lv_iconst (v := 0) hx hb d_L_named_28 (by decide) ?_
      exact t_L_named_29 (a := a) C0 hA hT hl0 hZ  h hkc hks hP hD hS (lv_sub hl [0, 1, 2, 3] rfl)
    · rw [if_pos hc] at h
      exact t_L_named_24 (a := a) C0 hA hT hl0 hZ  h hkc hks hP hD hS (lv_sub hl [0, 1, 2, 3] rfl)
set_option maxHeartbeats 4000000 in
set_option maxRecDepth 100000 in
theorem t_L_named_0 {p : Program} {l : Launch} {e : Env} {s : State} {m : MethodId} {args : Array Value} {below : List Frame} {meth : Method} {c : Code} {D : va_G} {cI cZ : ClassId} {a : Nat → Nat} {A : Nat → Prop} (C0 : Am p s m args meth c b_L_named (some .int) 5 R_L D [(cI, .int), (cZ, .boolean)]) (hA : ∀ q, s.heap.size ≤ q → A q) (hT : ∀ x ∈ c.exceptionTable.toList, False) (hl0 : l.stackTraces = false) (hZ : Zs A s s.heap) {v : Int32 ⊕ Nat} {u : StL} {K N : Nat}   {q : Nat} {σ : StL} {x1 x2 x3 : Int32} {kc ks mc ms : Nat} (h : f_L_named σ x1 x2 x3 = some (v, u, mc, ms)) (hkc : kc + mc = K) (hks : ks + ms = N) {H : Heap} {locs : List Loc} (hP : va_P D vwCl (wL cI cZ a q σ) H) (hD : va_D A (wL cI cZ a q σ)) (hS : va_S A s.heap H locs) {ls : Array Slot} (hl : lv_has ls 5 [(0, .ref (a 0)), (1, .int x1), (2, .int x2), (3, .int x3)]) : W p l e (rmK 9 141 K N) s m args below meth c H locs kc ks (TxQ below args s D A (fun q (σ : StL) => (wL cI cZ a q σ)) v u K N) (F0 m 0 ls []) := by
  obtain ⟨hx, hb, hr, hml, hown, hts, hlk, hK⟩ := id C0
  have hcs : kc ≤ K ∧ ks ≤ N := ⟨by omega, by omega⟩
  unfold f_L_named at h
  refine lv_aload_n hx hb d_L_named_0 rfl (lv_at hl 0 rfl) ?_
  refine lv_iload_n hx hb d_L_named_1 rfl (lv_at hl 1 rfl) ?_
  replace h := bd h
  obtain ⟨r1, g1, h⟩ := h
  try dsimp only at h
  replace h := ad_s h
  obtain ⟨mc, ms, h, rfl, rfl⟩ := h
  refine tx_Vv (n := 1) (ci := 0) (As := [.int x1]) (rest := []) (Wn := fun q => (wL cI cZ a q r1.2.1)) C0 hA hZ (c_L_requireClass l D cI cZ a hl0 q σ x1 g1) wd_134 ⟨wd_135, wd_136, wd_137, wd_55⟩ (by decide +kernel) ⟨Nat.le_of_ble_eq_true rfl, Nat.le_of_ble_eq_true rfl⟩ hP hD hS [0, 1, 2, 3, 4, 5, 6, 7, 8, 9, 10, 11, 12, 13, 14, 15, 16, 17, 18, 19, 20] [] [0, 1, 2, 3, 4, 5, 6, 7, 8, 9, 10, 11, 12, 13, 14, 15, 16, 17, 18, 19, 20] jn_L__C (by decide) jn_L__R (by decide) (by decide) (by decide) jn_L__W rfl rfl rfl hl rfl rfl (Nat.le_of_ble_eq_true rfl) ⟨by show kc + _ ≤ K; omega, by show ks + _ ≤ N; omega⟩ d_L_named_2 (fun ek H locs q q9 ce hv hP hD hS h1 h2 h3 => ?_) (fun r1v H locs q hv hP hD hS => ?_)
  · rw [hv] at h
    cases h
    exact tx_out C0 hT hP hD hS h1 h2 h3 (by omega) (by omega)
  · rw [hv] at h
    try dsimp only at h
    have hkc : (kc + r1.2.2.1) + mc = K := by omega
    have hks : (ks + r1.2.2.2) + ms = N := by omega
    have hcs : (kc + r1.2.2.1) ≤ K ∧ (ks + r1.2.2.2) ≤ N := ⟨by omega, by omega⟩
    refine lv_iload_n hx hb d_L_named_5 rfl (lv_at hl 2 rfl) ?_
    refine lv_if_eq (tgt := 14) hx hb d_L_named_6 (by decide) (fun hc => ?_) (fun hc => ?_)
    · rw [if_pos hc] at h
      exact t_L_named_14 (a := a) C0 hA hT hl0 hZ  h hkc hks hP hD hS (lv_sub hl [0, 1, 2, 3] rfl)
    · rw [if_neg hc] at h
      refine lv_aload_n hx hb d_L_named_9 rfl (lv_at hl 0 rfl) ?_
      refine lv_iload_n hx hb d_L_named_10 rfl (lv_at hl 3 rfl) ?_
      replace h := bd h
      obtain ⟨r6, g6, h⟩ := h
      try dsimp only at h
      replace h := ad_s h
      obtain ⟨mc, ms, h, rfl, rfl⟩ := h
      refine tx_Vv (n := 1) (ci := 0) (As := [.int x3]) (rest := []) (Wn := fun q => (wL cI cZ a q r6.2.1)) C0 hA hZ (c_L_requireType l D cI cZ a hl0 q r1.2.1 x3 g6) wd_160 ⟨wd_161, wd_162, wd_163, wd_55⟩ (by decide +kernel) ⟨Nat.le_of_ble_eq_true rfl, Nat.le_of_ble_eq_true rfl⟩ hP hD hS [0, 1, 2, 3, 4, 5, 6, 7, 8, 9, 10, 11, 12, 13, 14, 15, 16, 17, 18, 19, 20] [] [0, 1, 2, 3, 4, 5, 6, 7, 8, 9, 10, 11, 12, 13, 14, 15, 16, 17, 18, 19, 20] jn_L__C (by decide) jn_L__R (by decide) (by decide) (by decide) jn_L__W rfl rfl rfl hl rfl rfl (Nat.le_of_ble_eq_true rfl) ⟨by show (kc + r1.2.2.1) + _ ≤ K; omega, by show (ks + r1.2.2.2) + _ ≤ N; omega⟩ d_L_named_11 (fun ek H locs q q9 ce hv hP hD hS h1 h2 h3 => ?_) (fun r6v H locs q hv hP hD hS => ?_)
      · rw [hv] at h
        cases h
        exact tx_out C0 hT hP hD hS h1 h2 h3 (by omega) (by omega)
      · rw [hv] at h
        try dsimp only at h
        have hkc : ((kc + r1.2.2.1) + r6.2.2.1) + mc = K := by omega
        have hks : ((ks + r1.2.2.2) + r6.2.2.2) + ms = N := by omega
        have hcs : ((kc + r1.2.2.1) + r6.2.2.1) ≤ K ∧ ((ks + r1.2.2.2) + r6.2.2.2) ≤ N := ⟨by omega, by omega⟩
        exact t_L_named_14 (a := a) C0 hA hT hl0 hZ  h hkc hks hP hD hS (lv_sub hl [0, 1, 2, 3] rfl)
set_option maxHeartbeats 4000000 in
set_option maxRecDepth 100000 in
theorem c_L_named (l : Launch) (D : va_G) (cI cZ : ClassId) (a : Nat → Nat) (hl0 : l.stackTraces = false) (q : Nat) (σ : StL) (x1 : Int32) (x2 : Int32) (x3 : Int32) {res : (Int32 ⊕ Nat) × StL × Nat × Nat} (h : f_L_named σ x1 x2 x3 = some res) : TxM l y_L_named b_L_named 5 (some .int) 9 141 D [(cI, .int), (cZ, .boolean)] [.ref (a 0), .int x1, .int x2, .int x3] (fun q (σ : StL) => (wL cI cZ a q σ)) q σ res :=
  tx_of (by decide) (Nat.le_of_ble_eq_true rfl) (fun p e s m args below meth c ls A C0 hA hT hZ hP hD hS hl => t_L_named_0 (a := a) (kc := 0) (ks := 0) C0 hA hT hl0 hZ h (Nat.zero_add _) (Nat.zero_add _) hP hD hS (lv_sub hl [0, 1, 2, 3] rfl))
-- part 07.5L.07L_array.lean.txt
def f_L_array (σ : StL) (x1 : Int32) : Option ((Int32 ⊕ Nat) × StL × Nat × Nat) :=
  (f_L_requireType σ x1).bind fun r1 => ad_ r1.2.2.1 r1.2.2.2 <| match r1.1 with
  | .inr e => some (.inr e, r1.2.1, 0, 0)
  | .inl r1v =>
  (f_T_makeArray (L_types r1.2.1) x1).bind fun r2 =>
  (f_L_settled (L_set_types r1.2.1 r2.2) r2.1).bind fun r3 => ad_ r3.2.2.1 r3.2.2.2 <| match r3.1 with
  | .inr e => some (.inr e, r3.2.1, 0, 0)
  | .inl r3v =>
  some (.inl r3v, r3.2.1, 0, 0)
set_option maxHeartbeats 4000000 in
set_option maxRecDepth 100000 in
theorem t_L_array_0 {p : Program} {l : Launch} {e : Env} {s : State} {m : MethodId} {args : Array Value} {below : List Frame} {meth : Method} {c : Code} {D : va_G} {cI cZ : ClassId} {a : Nat → Nat} {A : Nat → Prop} (C0 : Am p s m args meth c b_L_array (some .int) 2 R_L D [(cI, .int), (cZ, .boolean)]) (hA : ∀ q, s.heap.size ≤ q → A q) (hT : ∀ x ∈ c.exceptionTable.toList, False) (hl0 : l.stackTraces = false) (hZ : Zs A s s.heap) {v : Int32 ⊕ Nat} {u : StL} {K N : Nat}   {q : Nat} {σ : StL} {x1 : Int32} {kc ks mc ms : Nat} (h : f_L_array σ x1 = some (v, u, mc, ms)) (hkc : kc + mc = K) (hks : ks + ms = N) {H : Heap} {locs : List Loc} (hP : va_P D vwCl (wL cI cZ a q σ) H) (hD : va_D A (wL cI cZ a q σ)) (hS : va_S A s.heap H locs) {ls : Array Slot} (hl : lv_has ls 2 [(0, .ref (a 0)), (1, .int x1)]) : W p l e (rmK 9 141 K N) s m args below meth c H locs kc ks (TxQ below args s D A (fun q (σ : StL) => (wL cI cZ a q σ)) v u K N) (F0 m 0 ls []) := by
  obtain ⟨hx, hb, hr, hml, hown, hts, hlk, hK⟩ := id C0
  have hcs : kc ≤ K ∧ ks ≤ N := ⟨by omega, by omega⟩
  unfold f_L_array at h
  refine lv_aload_n hx hb d_L_array_0 rfl (lv_at hl 0 rfl) ?_
  refine lv_iload_n hx hb d_L_array_1 rfl (lv_at hl 1 rfl) ?_
  replace h := bd h
  obtain ⟨r1, g1, h⟩ := h
  try dsimp only at h
  replace h := ad_s h
  obtain ⟨mc, ms, h, rfl, rfl⟩ := h
  refine tx_Vv (n := 1) (ci := 0) (As := [.int x1]) (rest := []) (Wn := fun q => (wL cI cZ a q r1.2.1)) C0 hA hZ (c_L_requireType l D cI cZ a hl0 q σ x1 g1) wd_160 ⟨wd_161, wd_162, wd_163, wd_55⟩ (by decide +kernel) ⟨Nat.le_of_ble_eq_true rfl, Nat.le_of_ble_eq_true rfl⟩ hP hD hS [0, 1, 2, 3, 4, 5, 6, 7, 8, 9, 10, 11, 12, 13, 14, 15, 16, 17, 18, 19, 20] [] [0, 1, 2, 3, 4, 5, 6, 7, 8, 9, 10, 11, 12, 13, 14, 15, 16, 17, 18, 19, 20] jn_L__C (by decide) jn_L__R (by decide) (by decide) (by decide) jn_L__W rfl rfl rfl hl rfl rfl (Nat.le_of_ble_eq_true rfl) ⟨by show kc + _ ≤ K; omega, by show ks + _ ≤ N; omega⟩ d_L_array_2 (fun ek H locs q q9 ce hv hP hD hS h1 h2 h3 => ?_) (fun r1v H locs q hv hP hD hS => ?_)
  · rw [hv] at h
    cases h
    exact tx_out C0 hT hP hD hS h1 h2 h3 (by omega) (by omega)
  · rw [hv] at h
    try dsimp only at h
    have hkc : (kc + r1.2.2.1) + mc = K := by omega
    have hks : (ks + r1.2.2.2) + ms = N := by omega
    have hcs : (kc + r1.2.2.1) ≤ K ∧ (ks + r1.2.2.2) ≤ N := ⟨by omega, by omega⟩
    refine lv_aload_n hx hb d_L_array_5 rfl (lv_at hl 0 rfl) ?_
    refine lv_aload_n hx hb d_L_array_6 rfl (lv_at hl 0 rfl) ?_
    refine va_get (ci := 0) (v := .ref (a 10)) (C := R_L) (T := F_L) (N := 6) hx hb hts i_L hown hK.1 hP 0 rfl rfl 2 (by decide) (hts _ wd_85) (fun _ h9 => h9) rfl d_L_array_7 ?_
    refine lv_iload_n hx hb d_L_array_10 rfl (lv_at hl 1 rfl) ?_
    replace h := bd h
    obtain ⟨r2, g2, h⟩ := h
    refine rw_V (n := 1) (ci := 2) (As := [.int x1]) (rest := [.ref (a 0)]) (Wn := fun q => (wL cI cZ a q (L_set_types r1.2.1 r2.2))) C0 hA (c_T_makeArray l D cI cZ a q (L_types r1.2.1) x1 g2) wd_183 ⟨wd_184, wd_185, wd_186, wd_52⟩ (by decide +kernel) ⟨Nat.le_of_ble_eq_true rfl, Nat.le_of_ble_eq_true rfl⟩ hP hD hS [10, 11, 12, 13, 14, 15, 16, 17, 18] [0, 1, 2, 3, 4, 5, 6, 7, 8, 9, 19, 20] [0, 1, 2, 3, 4, 5, 6, 7, 8, 9, 12, 13, 14, 15, 16, 17, 18, 19, 20, 10, 11] jn_L_types_C (by decide) jn_L_types_R (by decide) (by decide) (by decide) jn_L_types_W rfl rfl rfl hl rfl rfl (Nat.le_of_ble_eq_true rfl) hcs d_L_array_11 (fun H locs q hP hD hS => ?_)
    try dsimp only at h
    replace h := bd h
    obtain ⟨r3, g3, h⟩ := h
    try dsimp only at h
    replace h := ad_s h
    obtain ⟨mc, ms, h, rfl, rfl⟩ := h
    refine tx_V (n := 1) (ci := 0) (As := [.int r2.1]) (rest := []) (Wn := fun q => (wL cI cZ a q r3.2.1)) C0 hA hZ (c_L_settled l D cI cZ a hl0 q (L_set_types r1.2.1 r2.2) r2.1 g3) wd_179 ⟨wd_180, wd_181, wd_182, wd_55⟩ (by decide +kernel) ⟨Nat.le_of_ble_eq_true rfl, Nat.le_of_ble_eq_true rfl⟩ hP hD hS [0, 1, 2, 3, 4, 5, 6, 7, 8, 9, 10, 11, 12, 13, 14, 15, 16, 17, 18, 19, 20] [] [0, 1, 2, 3, 4, 5, 6, 7, 8, 9, 10, 11, 12, 13, 14, 15, 16, 17, 18, 19, 20] jn_L__C (by decide) jn_L__R (by decide) (by decide) (by decide) jn_L__W rfl rfl rfl hl rfl rfl (Nat.le_of_ble_eq_true rfl) ⟨by show (kc + r1.2.2.1) + _ ≤ K; omega, by show (ks + r1.2.2.2) + _ ≤ N; omega⟩ d_L_array_14 (fun ek H locs q q9 ce hv hP hD hS h1 h2 h3 => ?_) (fun r3v H locs q hv hP hD hS => ?_)
    · rw [hv] at h
      cases h
      exact tx_out C0 hT hP hD hS h1 h2 h3 (by omega) (by omega)
    · rw [hv] at h
      try dsimp only at h
      have hkc : ((kc + r1.2.2.1) + r3.2.2.1) + mc = K := by omega
      have hks : ((ks + r1.2.2.2) + r3.2.2.2) + ms = N := by omega
      have hcs : ((kc + r1.2.2.1) + r3.2.2.1) ≤ K ∧ ((ks + r1.2.2.2) + r3.2.2.2) ≤ N := ⟨by omega, by omega⟩
      cases h; exact tx_ret C0 hP hD hS (by omega) (by omega) d_L_array_17
set_option maxHeartbeats 4000000 in
set_option maxRecDepth 100000 in
theorem c_L_array (l : Launch) (D : va_G) (cI cZ : ClassId) (a : Nat → Nat) (hl0 : l.stackTraces = false) (q : Nat) (σ : StL) (x1 : Int32) {res : (Int32 ⊕ Nat) × StL × Nat × Nat} (h : f_L_array σ x1 = some res) : TxM l y_L_array b_L_array 2 (some .int) 9 141 D [(cI, .int), (cZ, .boolean)] [.ref (a 0), .int x1] (fun q (σ : StL) => (wL cI cZ a q σ)) q σ res :=
  tx_of (by decide) (Nat.le_of_ble_eq_true rfl) (fun p e s m args below meth c ls A C0 hA hT hZ hP hD hS hl => t_L_array_0 (a := a) (kc := 0) (ks := 0) C0 hA hT hl0 hZ h (Nat.zero_add _) (Nat.zero_add _) hP hD hS (lv_sub hl [0, 1] rfl))
-- part 07.5L.08L_isArrayOfOthers.lean.txt
def f_L_isArrayOfOthers (σ : StL) (x1 : Int32) : Option Int32 :=
  (f_T_kindOf (L_types σ) x1).bind fun r1 =>
  if r1 = 2 then
    (f_T_elementOf (L_types σ) x1).bind fun r2 =>
    (f_T_kindOf (L_types σ) r2).bind fun r3 =>
    if r3 = 0 then
      some 0
    else
      some 1
  else
    some 0
set_option maxHeartbeats 4000000 in
set_option maxRecDepth 100000 in
theorem t_L_isArrayOfOthers_0 {p : Program} {l : Launch} {e : Env} {s : State} {m : MethodId} {args : Array Value} {below : List Frame} {meth : Method} {c : Code} {D : va_G} {cI cZ : ClassId} {a : Nat → Nat} {q : Nat} {σ : StL} (C0 : Am p s m args meth c b_L_isArrayOfOthers (some .boolean) 2 R_L D [(cI, .int), (cZ, .boolean)]) (hP : va_P D vwCl (wL cI cZ a q σ) s.heap) {val : Int32}   {x1 : Int32} (h : f_L_isArrayOfOthers σ x1 = some val) {ls : Array Slot} (hl : lv_has ls 2 [(0, .ref (a 0)), (1, .int x1)]) : RoW p l e (rmK 2 42 0 0) s m args below meth c val (F0 m 0 ls []) := by
  obtain ⟨hx, hb, hr, hml, hown, hts, hlk, hK⟩ := id C0
  unfold f_L_isArrayOfOthers at h
  refine lv_aload_n hx hb d_L_isArrayOfOthers_0 rfl (lv_at hl 0 rfl) ?_
  refine va_get (ci := 0) (v := .ref (a 10)) (C := R_L) (T := F_L) (N := 6) hx hb hts i_L hown hK.1 hP 0 rfl rfl 2 (by decide) (hts _ wd_85) (fun _ h9 => h9) rfl d_L_isArrayOfOthers_1 ?_
  refine lv_iload_n hx hb d_L_isArrayOfOthers_4 rfl (lv_at hl 1 rfl) ?_
  replace h := bd h
  obtain ⟨r1, g1, h⟩ := h
  refine ro_V (n := 1) (ci := 2) (As := [.int x1]) (rest := []) C0 (c_T_kindOf l D cI cZ a q (L_types σ) x1 g1) wd_99 ⟨wd_100, wd_101, wd_102, wd_52⟩ (by decide +kernel) ⟨Nat.le_of_ble_eq_true rfl, Nat.le_of_ble_eq_true rfl⟩ (hP.pick [10, 11, 12, 13, 14, 15, 16, 17, 18] rfl) rfl rfl rfl hl rfl rfl (Nat.le_of_ble_eq_true rfl) ⟨Nat.zero_le _, Nat.zero_le _⟩ d_L_isArrayOfOthers_5 ?_
  try dsimp only at h
  refine lv_iconst (v := 2) hx hb d_L_isArrayOfOthers_8 (by decide) ?_
  refine lv_icmp_ne (tgt := 34) hx hb d_L_isArrayOfOthers_9 (by decide) (fun hc => ?_) (fun hc => ?_)
  · rw [if_neg hc] at h
    refine lv_iconst (v := 0) hx hb d_L_isArrayOfOthers_34 (by decide) ?_
    exact ro_retz C0 (by decide) (Option.some.inj h) d_L_isArrayOfOthers_35
  · rw [if_pos hc] at h
    refine lv_aload_n hx hb d_L_isArrayOfOthers_12 rfl (lv_at hl 0 rfl) ?_
    refine va_get (ci := 0) (v := .ref (a 10)) (C := R_L) (T := F_L) (N := 6) hx hb hts i_L hown hK.1 hP 0 rfl rfl 2 (by decide) (hts _ wd_85) (fun _ h9 => h9) rfl d_L_isArrayOfOthers_13 ?_
    refine lv_aload_n hx hb d_L_isArrayOfOthers_16 rfl (lv_at hl 0 rfl) ?_
    refine va_get (ci := 0) (v := .ref (a 10)) (C := R_L) (T := F_L) (N := 6) hx hb hts i_L hown hK.1 hP 0 rfl rfl 2 (by decide) (hts _ wd_85) (fun _ h9 => h9) rfl d_L_isArrayOfOthers_17 ?_
    refine lv_iload_n hx hb d_L_isArrayOfOthers_20 rfl (lv_at hl 1 rfl) ?_
    replace h := bd h
    obtain ⟨r2, g2, h⟩ := h
    refine ro_V (n := 1) (ci := 2) (As := [.int x1]) (rest := [.ref (a 10)]) C0 (c_T_elementOf l D cI cZ a q (L_types σ) x1 g2) wd_187 ⟨wd_188, wd_189, wd_190, wd_52⟩ (by decide +kernel) ⟨Nat.le_of_ble_eq_true rfl, Nat.le_of_ble_eq_true rfl⟩ (hP.pick [10, 11, 12, 13, 14, 15, 16, 17, 18] rfl) rfl rfl rfl hl rfl rfl (Nat.le_of_ble_eq_true rfl) ⟨Nat.zero_le _, Nat.zero_le _⟩ d_L_isArrayOfOthers_21 ?_
    try dsimp only at h
    replace h := bd h
    obtain ⟨r3, g3, h⟩ := h
    refine ro_V (n := 1) (ci := 2) (As := [.int r2]) (rest := []) C0 (c_T_kindOf l D cI cZ a q (L_types σ) r2 g3) wd_99 ⟨wd_100, wd_101, wd_102, wd_52⟩ (by decide +kernel) ⟨Nat.le_of_ble_eq_true rfl, Nat.le_of_ble_eq_true rfl⟩ (hP.pick [10, 11, 12, 13, 14, 15, 16, 17, 18] rfl) rfl rfl rfl hl rfl rfl (Nat.le_of_ble_eq_true rfl) ⟨Nat.zero_le _, Nat.zero_le _⟩ d_L_isArrayOfOthers_24 ?_
    try dsimp only at h
    refine lv_if_eq (tgt := 34) hx hb d_L_isArrayOfOthers_27 (by decide) (fun hc => ?_) (fun hc => ?_)
    · rw [if_pos hc] at h
      refine lv_iconst (v := 0) hx hb d_L_isArrayOfOthers_34 (by decide) ?_
      exact ro_retz C0 (by decide) (Option.some.inj h) d_L_isArrayOfOthers_35
    · rw [if_neg hc] at h
      refine lv_iconst (v := 1) hx hb d_L_isArrayOfOthers_30 (by decide) ?_
      refine lv_goto (tgt := 35) hx hb d_L_isArrayOfOthers_31 (by decide) ?_
      exact ro_retz C0 (by decide) (Option.some.inj h) d_L_isArrayOfOthers_35
set_option maxHeartbeats 4000000 in
set_option maxRecDepth 100000 in
theorem c_L_isArrayOfOthers (l : Launch) (D : va_G) (cI cZ : ClassId) (a : Nat → Nat) (q : Nat) (σ : StL) (x1 : Int32) {val : Int32} (h : f_L_isArrayOfOthers σ x1 = some val) : RoM l y_L_isArrayOfOthers b_L_isArrayOfOthers 2 (some .boolean) 2 42 D [(cI, .int), (cZ, .boolean)] [.ref (a 0), .int x1] (wL cI cZ a q σ) val :=
  ro_of (by decide) (Nat.le_of_ble_eq_true rfl) (fun p e s m args below meth c ls C0 hP hl => t_L_isArrayOfOthers_0 (a := a) C0 hP h (lv_sub hl [0, 1] rfl))
