-- part 07.0J.lean.txt
def f_J_bitCount (x0 : Int32) : Int32 :=
  ((((((((x0 - (((x0).toUInt32 >>> ((1 : Int32).toUInt32 &&& Int32.toUInt32 31)).toInt32 &&& 1431655765)) &&& 858993459) + ((((x0 - (((x0).toUInt32 >>> ((1 : Int32).toUInt32 &&& Int32.toUInt32 31)).toInt32 &&& 1431655765))).toUInt32 >>> ((2 : Int32).toUInt32 &&& Int32.toUInt32 31)).toInt32 &&& 858993459)) + (((((x0 - (((x0).toUInt32 >>> ((1 : Int32).toUInt32 &&& Int32.toUInt32 31)).toInt32 &&& 1431655765)) &&& 858993459) + ((((x0 - (((x0).toUInt32 >>> ((1 : Int32).toUInt32 &&& Int32.toUInt32 31)).toInt32 &&& 1431655765))).toUInt32 >>> ((2 : Int32).toUInt32 &&& Int32.toUInt32 31)).toInt32 &&& 858993459))).toUInt32 >>> ((4 : Int32).toUInt32 &&& Int32.toUInt32 31)).toInt32) &&& 252645135) + (((((((x0 - (((x0).toUInt32 >>> ((1 : Int32).toUInt32 &&& Int32.toUInt32 31)).toInt32 &&& 1431655765)) &&& 858993459) + ((((x0 - (((x0).toUInt32 >>> ((1 : Int32).toUInt32 &&& Int32.toUInt32 31)).toInt32 &&& 1431655765))).toUInt32 >>> ((2 : Int32).toUInt32 &&& Int32.toUInt32 31)).toInt32 &&& 858993459)) + (((((x0 - (((x0).toUInt32 >>> ((1 : Int32).toUInt32 &&& Int32.toUInt32 31)).toInt32 &&& 1431655765)) &&& 858993459) + ((((x0 - (((x0).toUInt32 >>> ((1 : Int32).toUInt32 &&& Int32.toUInt32 31)).toInt32 &&& 1431655765))).toUInt32 >>> ((2 : Int32).toUInt32 &&& Int32.toUInt32 31)).toInt32 &&& 858993459))).toUInt32 >>> ((4 : Int32).toUInt32 &&& Int32.toUInt32 31)).toInt32) &&& 252645135)).toUInt32 >>> ((8 : Int32).toUInt32 &&& Int32.toUInt32 31)).toInt32) + ((((((((x0 - (((x0).toUInt32 >>> ((1 : Int32).toUInt32 &&& Int32.toUInt32 31)).toInt32 &&& 1431655765)) &&& 858993459) + ((((x0 - (((x0).toUInt32 >>> ((1 : Int32).toUInt32 &&& Int32.toUInt32 31)).toInt32 &&& 1431655765))).toUInt32 >>> ((2 : Int32).toUInt32 &&& Int32.toUInt32 31)).toInt32 &&& 858993459)) + (((((x0 - (((x0).toUInt32 >>> ((1 : Int32).toUInt32 &&& Int32.toUInt32 31)).toInt32 &&& 1431655765)) &&& 858993459) + ((((x0 - (((x0).toUInt32 >>> ((1 : Int32).toUInt32 &&& Int32.toUInt32 31)).toInt32 &&& 1431655765))).toUInt32 >>> ((2 : Int32).toUInt32 &&& Int32.toUInt32 31)).toInt32 &&& 858993459))).toUInt32 >>> ((4 : Int32).toUInt32 &&& Int32.toUInt32 31)).toInt32) &&& 252645135) + (((((((x0 - (((x0).toUInt32 >>> ((1 : Int32).toUInt32 &&& Int32.toUInt32 31)).toInt32 &&& 1431655765)) &&& 858993459) + ((((x0 - (((x0).toUInt32 >>> ((1 : Int32).toUInt32 &&& Int32.toUInt32 31)).toInt32 &&& 1431655765))).toUInt32 >>> ((2 : Int32).toUInt32 &&& Int32.toUInt32 31)).toInt32 &&& 858993459)) + (((((x0 - (((x0).toUInt32 >>> ((1 : Int32).toUInt32 &&& Int32.toUInt32 31)).toInt32 &&& 1431655765)) &&& 858993459) + ((((x0 - (((x0).toUInt32 >>> ((1 : Int32).toUInt32 &&& Int32.toUInt32 31)).toInt32 &&& 1431655765))).toUInt32 >>> ((2 : Int32).toUInt32 &&& Int32.toUInt32 31)).toInt32 &&& 858993459))).toUInt32 >>> ((4 : Int32).toUInt32 &&& Int32.toUInt32 31)).toInt32) &&& 252645135)).toUInt32 >>> ((8 : Int32).toUInt32 &&& Int32.toUInt32 31)).toInt32)).toUInt32 >>> ((16 : Int32).toUInt32 &&& Int32.toUInt32 31)).toInt32) &&& 63)
set_option maxHeartbeats 4000000 in
set_option maxRecDepth 100000 in
theorem t_J_bitCount_0 {p : Program} {l : Launch} {e : Env} {s : State} {m : MethodId} {args : Array Value} {below : List Frame} {meth : Method} {c : Code} {D : va_G} {cI cZ : ClassId} {a : Nat → Nat} (C0 : Am p s m args meth c b_J_bitCount (some .int) 1 R_J D [(cI, .int), (cZ, .boolean)]) {val : Int32}   {x0 : Int32} (h : f_J_bitCount x0 = val) {ls : Array Slot} (hl : lv_has ls 1 [(0, .int x0)]) : RoW p l e (rmK 0 0 0 0) s m args below meth c val (F0 m 0 ls []) := by
  obtain ⟨hx, hb, hr, hml, hown, hts, hlk, hK⟩ := id C0
  unfold f_J_bitCount at h
  refine lv_iload_n hx hb d_J_bitCount_0 rfl (lv_at hl 0 rfl) ?_
  refine lv_iload_n hx hb d_J_bitCount_1 rfl (lv_at hl 0 rfl) ?_
  refine lv_iconst (v := 1) hx hb d_J_bitCount_2 (by decide) ?_
  refine lv_iushr hx hb d_J_bitCount_3 rfl ?_
  refine lv_ldcw (v := 1431655765) hx hb hown (hts _ wd_0) d_J_bitCount_4 ?_
  refine lv_iand hx hb d_J_bitCount_7 ?_
  refine lv_isub hx hb d_J_bitCount_8 ?_
  refine lv_istore_n (lv' := [(0, .int (x0 - (((x0).toUInt32 >>> ((1 : Int32).toUInt32 &&& Int32.toUInt32 31)).toInt32 &&& 1431655765)))]) hx hb d_J_bitCount_9 rfl hl (by decide) rfl (fun ls hl => ?_)
  refine lv_iload_n hx hb d_J_bitCount_10 rfl (lv_at hl 0 rfl) ?_
  refine lv_ldcw (v := 858993459) hx hb hown (hts _ wd_1) d_J_bitCount_11 ?_
  refine lv_iand hx hb d_J_bitCount_14 ?_
  refine lv_iload_n hx hb d_J_bitCount_15 rfl (lv_at hl 0 rfl) ?_
  refine lv_iconst (v := 2) hx hb d_J_bitCount_16 (by decide) ?_
  refine lv_iushr hx hb d_J_bitCount_17 rfl ?_
  refine lv_ldcw (v := 858993459) hx hb hown (hts _ wd_1) d_J_bitCount_18 ?_
  refine lv_iand hx hb d_J_bitCount_21 ?_
  refine lv_iadd hx hb d_J_bitCount_22 ?_
  refine lv_istore_n (lv' := [(0, .int (((x0 - (((x0).toUInt32 >>> ((1 : Int32).toUInt32 &&& Int32.toUInt32 31)).toInt32 &&& 1431655765)) &&& 858993459) + ((((x0 - (((x0).toUInt32 >>> ((1 : Int32).toUInt32 &&& Int32.toUInt32 31)).toInt32 &&& 1431655765))).toUInt32 >>> ((2 : Int32).toUInt32 &&& Int32.toUInt32 31)).toInt32 &&& 858993459)))]) hx hb d_J_bitCount_23 rfl hl (by decide) rfl (fun ls hl => ?_)
  refine lv_iload_n hx hb d_J_bitCount_24 rfl (lv_at hl 0 rfl) ?_
  refine lv_iload_n hx hb d_J_bitCount_25 rfl (lv_at hl 0 rfl) ?_
  refine lv_iconst (v := 4) hx hb d_J_bitCount_26 (by decide) ?_
  refine lv_iushr hx hb d_J_bitCount_27 rfl ?_
  refine lv_iadd hx hb d_J_bitCount_28 ?_
  refine lv_ldcw (v := 252645135) hx hb hown (hts _ wd_2) d_J_bitCount_29 ?_
  refine lv_iand hx hb d_J_bitCount_32 ?_
  refine lv_istore_n (lv' := [(0, .int (((((x0 - (((x0).toUInt32 >>> ((1 : Int32).toUInt32 &&& Int32.toUInt32 31)).toInt32 &&& 1431655765)) &&& 858993459) + ((((x0 - (((x0).toUInt32 >>> ((1 : Int32).toUInt32 &&& Int32.toUInt32 31)).toInt32 &&& 1431655765))).toUInt32 >>> ((2 : Int32).toUInt32 &&& Int32.toUInt32 31)).toInt32 &&& 858993459)) + (((((x0 - (((x0).toUInt32 >>> ((1 : Int32).toUInt32 &&& Int32.toUInt32 31)).toInt32 &&& 1431655765)) &&& 858993459) + ((((x0 - (((x0).toUInt32 >>> ((1 : Int32).toUInt32 &&& Int32.toUInt32 31)).toInt32 &&& 1431655765))).toUInt32 >>> ((2 : Int32).toUInt32 &&& Int32.toUInt32 31)).toInt32 &&& 858993459))).toUInt32 >>> ((4 : Int32).toUInt32 &&& Int32.toUInt32 31)).toInt32) &&& 252645135))]) hx hb d_J_bitCount_33 rfl hl (by decide) rfl (fun ls hl => ?_)
  refine lv_iload_n hx hb d_J_bitCount_34 rfl (lv_at hl 0 rfl) ?_
  refine lv_iload_n hx hb d_J_bitCount_35 rfl (lv_at hl 0 rfl) ?_
  refine lv_bipush (v := 8) hx hb d_J_bitCount_36 (by decide) ?_
  refine lv_iushr hx hb d_J_bitCount_38 rfl ?_
  refine lv_iadd hx hb d_J_bitCount_39 ?_
  refine lv_istore_n (lv' := [(0, .int ((((((x0 - (((x0).toUInt32 >>> ((1 : Int32).toUInt32 &&& Int32.toUInt32 31)).toInt32 &&& 1431655765)) &&& 858993459) + ((((x0 - (((x0).toUInt32 >>> ((1 : Int32).toUInt32 &&& Int32.toUInt32 31)).toInt32 &&& 1431655765))).toUInt32 >>> ((2 : Int32).toUInt32 &&& Int32.toUInt32 31)).toInt32 &&& 858993459)) + (((((x0 - (((x0).toUInt32 >>> ((1 : Int32).toUInt32 &&& Int32.toUInt32 31)).toInt32 &&& 1431655765)) &&& 858993459) + ((((x0 - (((x0).toUInt32 >>> ((1 : Int32).toUInt32 &&& Int32.toUInt32 31)).toInt32 &&& 1431655765))).toUInt32 >>> ((2 : Int32).toUInt32 &&& Int32.toUInt32 31)).toInt32 &&& 858993459))).toUInt32 >>> ((4 : Int32).toUInt32 &&& Int32.toUInt32 31)).toInt32) &&& 252645135) + (((((((x0 - (((x0).toUInt32 >>> ((1 : Int32).toUInt32 &&& Int32.toUInt32 31)).toInt32 &&& 1431655765)) &&& 858993459) + ((((x0 - (((x0).toUInt32 >>> ((1 : Int32).toUInt32 &&& Int32.toUInt32 31)).toInt32 &&& 1431655765))).toUInt32 >>> ((2 : Int32).toUInt32 &&& Int32.toUInt32 31)).toInt32 &&& 858993459)) + (((((x0 - (((x0).toUInt32 >>> ((1 : Int32).toUInt32 &&& Int32.toUInt32 31)).toInt32 &&& 1431655765)) &&& 858993459) + ((((x0 - (((x0).toUInt32 >>> ((1 : Int32).toUInt32 &&& Int32.toUInt32 31)).toInt32 &&& 1431655765))).toUInt32 >>> ((2 : Int32).toUInt32 &&& Int32.toUInt32 31)).toInt32 &&& 858993459))).toUInt32 >>> ((4 : Int32).toUInt32 &&& Int32.toUInt32 31)).toInt32) &&& 252645135)).toUInt32 >>> ((8 : Int32).toUInt32 &&& Int32.toUInt32 31)).toInt32))]) hx hb d_J_bitCount_40 rfl hl (by decide) rfl (fun ls hl => ?_)
  refine lv_iload_n hx hb d_J_bitCount_41 rfl (lv_at hl 0 rfl) ?_
  refine lv_iload_n hx hb d_J_bitCount_42 rfl (lv_at hl 0 rfl) ?_
  refine lv_bipush (v := 16) hx hb d_J_bitCount_43 (by decide) ?_
  refine lv_iushr hx hb d_J_bitCount_45 rfl ?_
  refine lv_iadd hx hb d_J_bitCount_46 ?_
  refine lv_istore_n (lv' := [(0, .int (((((((x0 - (((x0).toUInt32 >>> ((1 : Int32).toUInt32 &&& Int32.toUInt32 31)).toInt32 &&& 1431655765)) &&& 858993459) + ((((x0 - (((x0).toUInt32 >>> ((1 : Int32).toUInt32 &&& Int32.toUInt32 31)).toInt32 &&& 1431655765))).toUInt32 >>> ((2 : Int32).toUInt32 &&& Int32.toUInt32 31)).toInt32 &&& 858993459)) + (((((x0 - (((x0).toUInt32 >>> ((1 : Int32).toUInt32 &&& Int32.toUInt32 31)).toInt32 &&& 1431655765)) &&& 858993459) + ((((x0 - (((x0).toUInt32 >>> ((1 : Int32).toUInt32 &&& Int32.toUInt32 31)).toInt32 &&& 1431655765))).toUInt32 >>> ((2 : Int32).toUInt32 &&& Int32.toUInt32 31)).toInt32 &&& 858993459))).toUInt32 >>> ((4 : Int32).toUInt32 &&& Int32.toUInt32 31)).toInt32) &&& 252645135) + (((((((x0 - (((x0).toUInt32 >>> ((1 : Int32).toUInt32 &&& Int32.toUInt32 31)).toInt32 &&& 1431655765)) &&& 858993459) + ((((x0 - (((x0).toUInt32 >>> ((1 : Int32).toUInt32 &&& Int32.toUInt32 31)).toInt32 &&& 1431655765))).toUInt32 >>> ((2 : Int32).toUInt32 &&& Int32.toUInt32 31)).toInt32 &&& 858993459)) + (((((x0 - (((x0).toUInt32 >>> ((1 : Int32).toUInt32 &&& Int32.toUInt32 31)).toInt32 &&& 1431655765)) &&& 858993459) + ((((x0 - (((x0).toUInt32 >>> ((1 : Int32).toUInt32 &&& Int32.toUInt32 31)).toInt32 &&& 1431655765))).toUInt32 >>> ((2 : Int32).toUInt32 &&& Int32.toUInt32 31)).toInt32 &&& 858993459))).toUInt32 >>> ((4 : Int32).toUInt32 &&& Int32.toUInt32 31)).toInt32) &&& 252645135)).toUInt32 >>> ((8 : Int32).toUInt32 &&& Int32.toUInt32 31)).toInt32) + ((((((((x0 - (((x0).toUInt32 >>> ((1 : Int32).toUInt32 &&& Int32.toUInt32 31)).toInt32 &&& 1431655765)) &&& 858993459) + ((((x0 - (((x0).toUInt32 >>> ((1 : Int32).toUInt32 &&& Int32.toUInt32 31)).toInt32 &&& 1431655765))).toUInt32 >>> ((2 : Int32).toUInt32 &&& Int32.toUInt32 31)).toInt32 &&& 858993459)) + (((((x0 - (((x0).toUInt32 >>> ((1 : Int32).toUInt32 &&& Int32.toUInt32 31)).toInt32 &&& 1431655765)) &&& 858993459) + ((((x0 - (((x0).toUInt32 >>> ((1 : Int32).toUInt32 &&& Int32.toUInt32 31)).toInt32 &&& 1431655765))).toUInt32 >>> ((2 : Int32).toUInt32 &&& Int32.toUInt32 31)).toInt32 &&& 858993459))).toUInt32 >>> ((4 : Int32).toUInt32 &&& Int32.toUInt32 31)).toInt32) &&& 252645135) + (((((((x0 - (((x0).toUInt32 >>> ((1 : Int32).toUInt32 &&& Int32.toUInt32 31)).toInt32 &&& 1431655765)) &&& 858993459) + ((((x0 - (((x0).toUInt32 >>> ((1 : Int32).toUInt32 &&& Int32.toUInt32 31)).toInt32 &&& 1431655765))).toUInt32 >>> ((2 : Int32).toUInt32 &&& Int32.toUInt32 31)).toInt32 &&& 858993459)) + (((((x0 - (((x0).toUInt32 >>> ((1 : Int32).toUInt32 &&& Int32.toUInt32 31)).toInt32 &&& 1431655765)) &&& 858993459) + ((((x0 - (((x0).toUInt32 >>> ((1 : Int32).toUInt32 &&& Int32.toUInt32 31)).toInt32 &&& 1431655765))).toUInt32 >>> ((2 : Int32).toUInt32 &&& Int32.toUInt32 31)).toInt32 &&& 858993459))).toUInt32 >>> ((4 : Int32).toUInt32 &&& Int32.toUInt32 31)).toInt32) &&& 252645135)).toUInt32 >>> ((8 : Int32).toUInt32 &&& Int32.toUInt32 31)).toInt32)).toUInt32 >>> ((16 : Int32).toUInt32 &&& Int32.toUInt32 31)).toInt32))]) hx hb d_J_bitCount_47 rfl hl (by decide) rfl (fun ls hl => ?_)
  refine lv_iload_n hx hb d_J_bitCount_48 rfl (lv_at hl 0 rfl) ?_
  refine lv_bipush (v := 63) hx hb d_J_bitCount_49 (by decide) ?_
  refine lv_iand hx hb d_J_bitCount_51 ?_
  exact ro_ret C0 h d_J_bitCount_52
set_option maxHeartbeats 4000000 in
set_option maxRecDepth 100000 in
theorem c_J_bitCount (l : Launch) (D : va_G) (cI cZ : ClassId) (a : Nat → Nat) (x0 : Int32) {val : Int32} (h : f_J_bitCount x0 = val) : RoM l y_J_bitCount b_J_bitCount 1 (some .int) 0 0 D [(cI, .int), (cZ, .boolean)] [.int x0] [] val :=
  ro_of (by decide) (Nat.le_of_ble_eq_true rfl) (fun p e s m args below meth c ls C0 hP hl => t_J_bitCount_0 (a := a) C0 h (lv_sub hl [0] rfl))
-- part 07.1S.lean.txt
def f_L_boxTypeOf (x0 : Int32) : Int32 :=
  (8 + x0)
set_option maxHeartbeats 4000000 in
set_option maxRecDepth 100000 in
theorem t_L_boxTypeOf_0 {p : Program} {l : Launch} {e : Env} {s : State} {m : MethodId} {args : Array Value} {below : List Frame} {meth : Method} {c : Code} {D : va_G} {cI cZ : ClassId} {a : Nat → Nat} (C0 : Am p s m args meth c b_L_boxTypeOf (some .int) 1 R_L D [(cI, .int), (cZ, .boolean)]) {val : Int32}   {x0 : Int32} (h : f_L_boxTypeOf x0 = val) {ls : Array Slot} (hl : lv_has ls 1 [(0, .int x0)]) : RoW p l e (rmK 0 0 0 0) s m args below meth c val (F0 m 0 ls []) := by
  obtain ⟨hx, hb, hr, hml, hown, hts, hlk, hK⟩ := id C0
  unfold f_L_boxTypeOf at h
  refine lv_bipush (v := 8) hx hb d_L_boxTypeOf_0 (by decide) ?_
  refine lv_iload_n hx hb d_L_boxTypeOf_2 rfl (lv_at hl 0 rfl) ?_
  refine lv_iadd hx hb d_L_boxTypeOf_3 ?_
  exact ro_ret C0 h d_L_boxTypeOf_4
set_option maxHeartbeats 4000000 in
set_option maxRecDepth 100000 in
theorem c_L_boxTypeOf (l : Launch) (D : va_G) (cI cZ : ClassId) (a : Nat → Nat) (x0 : Int32) {val : Int32} (h : f_L_boxTypeOf x0 = val) : RoM l y_L_boxTypeOf b_L_boxTypeOf 1 (some .int) 0 0 D [(cI, .int), (cZ, .boolean)] [.int x0] [] val :=
  ro_of (by decide) (Nat.le_of_ble_eq_true rfl) (fun p e s m args below meth c ls C0 hP hl => t_L_boxTypeOf_0 (a := a) C0 h (lv_sub hl [0] rfl))
def f_L_typeOf (x0 : Int32) : Int32 :=
  if 0 < x0 then
    (x0 >>> (2 &&& 31))
  else
    (-1)
set_option maxHeartbeats 4000000 in
set_option maxRecDepth 100000 in
theorem t_L_typeOf_0 {p : Program} {l : Launch} {e : Env} {s : State} {m : MethodId} {args : Array Value} {below : List Frame} {meth : Method} {c : Code} {D : va_G} {cI cZ : ClassId} {a : Nat → Nat} (C0 : Am p s m args meth c b_L_typeOf (some .int) 1 R_L D [(cI, .int), (cZ, .boolean)]) {val : Int32}   {x0 : Int32} (h : f_L_typeOf x0 = val) {ls : Array Slot} (hl : lv_has ls 1 [(0, .int x0)]) : RoW p l e (rmK 0 0 0 0) s m args below meth c val (F0 m 0 ls []) := by
  obtain ⟨hx, hb, hr, hml, hown, hts, hlk, hK⟩ := id C0
  unfold f_L_typeOf at h
  refine lv_iload_n hx hb d_L_typeOf_0 rfl (lv_at hl 0 rfl) ?_
  refine lv_if_gt (tgt := 8) hx hb d_L_typeOf_1 (by decide) (fun hc => ?_) (fun hc => ?_)
  · rw [if_pos hc] at h
    refine lv_iload_n hx hb d_L_typeOf_8 rfl (lv_at hl 0 rfl) ?_
    refine lv_iconst (v := 2) hx hb d_L_typeOf_9 (by decide) ?_
    refine lv_ishr hx hb d_L_typeOf_10 ?_
    exact ro_ret C0 h d_L_typeOf_11
  · rw [if_neg hc] at h
    refine lv_iconst (v := (-1)) hx hb d_L_typeOf_4 (by decide) ?_
    refine lv_goto (tgt := 11) hx hb d_L_typeOf_5 (by decide) ?_
    exact ro_ret C0 h d_L_typeOf_11
set_option maxHeartbeats 4000000 in
set_option maxRecDepth 100000 in
theorem c_L_typeOf (l : Launch) (D : va_G) (cI cZ : ClassId) (a : Nat → Nat) (x0 : Int32) {val : Int32} (h : f_L_typeOf x0 = val) : RoM l y_L_typeOf b_L_typeOf 1 (some .int) 0 0 D [(cI, .int), (cZ, .boolean)] [.int x0] [] val :=
  ro_of (by decide) (Nat.le_of_ble_eq_true rfl) (fun p e s m args below meth c ls C0 hP hl => t_L_typeOf_0 (a := a) C0 h (lv_sub hl [0] rfl))
def f_L_has (x0 x1 : Int32) : Int32 :=
  if ((x0 >>> (x1 &&& 31)) &&& 1) = 0 then
    0
  else
    1
set_option maxHeartbeats 4000000 in
set_option maxRecDepth 100000 in
theorem t_L_has_0 {p : Program} {l : Launch} {e : Env} {s : State} {m : MethodId} {args : Array Value} {below : List Frame} {meth : Method} {c : Code} {D : va_G} {cI cZ : ClassId} {a : Nat → Nat} (C0 : Am p s m args meth c b_L_has (some .boolean) 2 R_L D [(cI, .int), (cZ, .boolean)]) {val : Int32}   {x0 x1 : Int32} (h : f_L_has x0 x1 = val) {ls : Array Slot} (hl : lv_has ls 2 [(0, .int x0), (1, .int x1)]) : RoW p l e (rmK 0 0 0 0) s m args below meth c val (F0 m 0 ls []) := by
  obtain ⟨hx, hb, hr, hml, hown, hts, hlk, hK⟩ := id C0
  unfold f_L_has at h
  refine lv_iload_n hx hb d_L_has_0 rfl (lv_at hl 0 rfl) ?_
  refine lv_iload_n hx hb d_L_has_1 rfl (lv_at hl 1 rfl) ?_
  refine lv_ishr hx hb d_L_has_2 ?_
  refine lv_iconst (v := 1) hx hb d_L_has_3 (by decide) ?_
  refine lv_iand hx hb d_L_has_4 ?_
  refine lv_if_eq (tgt := 12) hx hb d_L_has_5 (by decide) (fun hc => ?_) (fun hc => ?_)
  · rw [if_pos hc] at h
    refine lv_iconst (v := 0) hx hb d_L_has_12 (by decide) ?_
    exact ro_retz C0 (by decide) h d_L_has_13
  · rw [if_neg hc] at h
    refine lv_iconst (v := 1) hx hb d_L_has_8 (by decide) ?_
    refine lv_goto (tgt := 13) hx hb d_L_has_9 (by decide) ?_
    exact ro_retz C0 (by decide) h d_L_has_13
set_option maxHeartbeats 4000000 in
set_option maxRecDepth 100000 in
theorem c_L_has (l : Launch) (D : va_G) (cI cZ : ClassId) (a : Nat → Nat) (x0 : Int32) (x1 : Int32) {val : Int32} (h : f_L_has x0 x1 = val) : RoM l y_L_has b_L_has 2 (some .boolean) 0 0 D [(cI, .int), (cZ, .boolean)] [.int x0, .int x1] [] val :=
  ro_of (by decide) (Nat.le_of_ble_eq_true rfl) (fun p e s m args below meth c ls C0 hP hl => t_L_has_0 (a := a) C0 h (lv_sub hl [0, 1] rfl))
def f_L_argumentOf (x0 x1 : Int32) : Int32 :=
  if x0 = 0 then
    0
  else
    ((x1 * 4) + x0)
set_option maxHeartbeats 4000000 in
set_option maxRecDepth 100000 in
theorem t_L_argumentOf_0 {p : Program} {l : Launch} {e : Env} {s : State} {m : MethodId} {args : Array Value} {below : List Frame} {meth : Method} {c : Code} {D : va_G} {cI cZ : ClassId} {a : Nat → Nat} (C0 : Am p s m args meth c b_L_argumentOf (some .int) 2 R_L D [(cI, .int), (cZ, .boolean)]) {val : Int32}   {x0 x1 : Int32} (h : f_L_argumentOf x0 x1 = val) {ls : Array Slot} (hl : lv_has ls 2 [(0, .int x0), (1, .int x1)]) : RoW p l e (rmK 0 0 0 0) s m args below meth c val (F0 m 0 ls []) := by
  obtain ⟨hx, hb, hr, hml, hown, hts, hlk, hK⟩ := id C0
  unfold f_L_argumentOf at h
  refine lv_iload_n hx hb d_L_argumentOf_0 rfl (lv_at hl 0 rfl) ?_
  refine lv_if_ne (tgt := 8) hx hb d_L_argumentOf_1 (by decide) (fun hc => ?_) (fun hc => ?_)
  · rw [if_neg hc] at h
    refine lv_iload_n hx hb d_L_argumentOf_8 rfl (lv_at hl 1 rfl) ?_
    refine lv_iconst (v := 4) hx hb d_L_argumentOf_9 (by decide) ?_
    refine lv_imul hx hb d_L_argumentOf_10 ?_
    refine lv_iload_n hx hb d_L_argumentOf_11 rfl (lv_at hl 0 rfl) ?_
    refine lv_iadd hx hb d_L_argumentOf_12 ?_
    exact ro_ret C0 h d_L_argumentOf_13
  · rw [if_pos hc] at h
    refine lv_iconst (v := 0) hx hb d_L_argumentOf_4 (by decide) ?_
    refine lv_goto (tgt := 13) hx hb d_L_argumentOf_5 (by decide) ?_
    exact ro_ret C0 h d_L_argumentOf_13
set_option maxHeartbeats 4000000 in
set_option maxRecDepth 100000 in
theorem c_L_argumentOf (l : Launch) (D : va_G) (cI cZ : ClassId) (a : Nat → Nat) (x0 : Int32) (x1 : Int32) {val : Int32} (h : f_L_argumentOf x0 x1 = val) : RoM l y_L_argumentOf b_L_argumentOf 2 (some .int) 0 0 D [(cI, .int), (cZ, .boolean)] [.int x0, .int x1] [] val :=
  ro_of (by decide) (Nat.le_of_ble_eq_true rfl) (fun p e s m args below meth c ls C0 hP hl => t_L_argumentOf_0 (a := a) C0 h (lv_sub hl [0, 1] rfl))
def f_L_howOf (x0 : Int32) : Int32 :=
  if 0 < x0 then
    (x0 &&& 3)
  else
    0
set_option maxHeartbeats 4000000 in
set_option maxRecDepth 100000 in
theorem t_L_howOf_0 {p : Program} {l : Launch} {e : Env} {s : State} {m : MethodId} {args : Array Value} {below : List Frame} {meth : Method} {c : Code} {D : va_G} {cI cZ : ClassId} {a : Nat → Nat} (C0 : Am p s m args meth c b_L_howOf (some .int) 1 R_L D [(cI, .int), (cZ, .boolean)]) {val : Int32}   {x0 : Int32} (h : f_L_howOf x0 = val) {ls : Array Slot} (hl : lv_has ls 1 [(0, .int x0)]) : RoW p l e (rmK 0 0 0 0) s m args below meth c val (F0 m 0 ls []) := by
  obtain ⟨hx, hb, hr, hml, hown, hts, hlk, hK⟩ := id C0
  unfold f_L_howOf at h
  refine lv_iload_n hx hb d_L_howOf_0 rfl (lv_at hl 0 rfl) ?_
  refine lv_if_gt (tgt := 8) hx hb d_L_howOf_1 (by decide) (fun hc => ?_) (fun hc => ?_)
  · rw [if_pos hc] at h
    refine lv_iload_n hx hb d_L_howOf_8 rfl (lv_at hl 0 rfl) ?_
    refine lv_iconst (v := 3) hx hb d_L_howOf_9 (by decide) ?_
    refine lv_iand hx hb d_L_howOf_10 ?_
    exact ro_ret C0 h d_L_howOf_11
  · rw [if_neg hc] at h
    refine lv_iconst (v := 0) hx hb d_L_howOf_4 (by decide) ?_
    refine lv_goto (tgt := 11) hx hb d_L_howOf_5 (by decide) ?_
    exact ro_ret C0 h d_L_howOf_11
set_option maxHeartbeats 4000000 in
set_option maxRecDepth 100000 in
theorem c_L_howOf (l : Launch) (D : va_G) (cI cZ : ClassId) (a : Nat → Nat) (x0 : Int32) {val : Int32} (h : f_L_howOf x0 = val) : RoM l y_L_howOf b_L_howOf 1 (some .int) 0 0 D [(cI, .int), (cZ, .boolean)] [.int x0] [] val :=
  ro_of (by decide) (Nat.le_of_ble_eq_true rfl) (fun p e s m args below meth c ls C0 hP hl => t_L_howOf_0 (a := a) C0 h (lv_sub hl [0] rfl))
-- part 07.2C.lean.txt
def f_C_isThere (σ : StC) (x1 : Int32) : Int32 :=
  if x1 < 0 then
    0
  else
    if (C_count σ) ≤ x1 then
      0
    else
      1
set_option maxHeartbeats 4000000 in
set_option maxRecDepth 100000 in
theorem t_C_isThere_0 {p : Program} {l : Launch} {e : Env} {s : State} {m : MethodId} {args : Array Value} {below : List Frame} {meth : Method} {c : Code} {D : va_G} {cI cZ : ClassId} {a : Nat → Nat} {q : Nat} {σ : StC} (C0 : Am p s m args meth c b_C_isThere (some .boolean) 2 R_C D [(cI, .int), (cZ, .boolean)]) (hP : va_P D vwCl (wC cI cZ a q σ) s.heap) {val : Int32}   {x1 : Int32} (h : f_C_isThere σ x1 = val) {ls : Array Slot} (hl : lv_has ls 2 [(0, .ref (a 3)), (1, .int x1)]) : RoW p l e (rmK 0 0 0 0) s m args below meth c val (F0 m 0 ls []) := by
  obtain ⟨hx, hb, hr, hml, hown, hts, hlk, hK⟩ := id C0
  unfold f_C_isThere at h
  refine lv_iload_n hx hb d_C_isThere_0 rfl (lv_at hl 1 rfl) ?_
  refine lv_if_lt (tgt := 16) hx hb d_C_isThere_1 (by decide) (fun hc => ?_) (fun hc => ?_)
  · rw [if_pos hc] at h
    refine lv_iconst (v := 0) hx hb d_C_isThere_16 (by decide) ?_
    exact ro_retz C0 (by decide) h d_C_isThere_17
  · rw [if_neg hc] at h
    refine lv_iload_n hx hb d_C_isThere_4 rfl (lv_at hl 1 rfl) ?_
    refine lv_aload_n hx hb d_C_isThere_5 rfl (lv_at hl 0 rfl) ?_
    refine va_get (ci := 1) (v := .int (C_count σ)) (C := R_C) (T := F_C) (N := 8) hx hb hts i_C hown hK.1 hP 0 rfl rfl 6 (by decide) (hts _ wd_3) (fun _ h9 => h9) rfl d_C_isThere_6 ?_
    refine lv_icmp_ge (tgt := 16) hx hb d_C_isThere_9 (by decide) (fun hc => ?_) (fun hc => ?_)
    · rw [if_pos hc] at h
      refine lv_iconst (v := 0) hx hb d_C_isThere_16 (by decide) ?_
      exact ro_retz C0 (by decide) h d_C_isThere_17
    · rw [if_neg hc] at h
      refine lv_iconst (v := 1) hx hb d_C_isThere_12 (by decide) ?_
      refine lv_goto (tgt := 17) hx hb d_C_isThere_13 (by decide) ?_
      exact ro_retz C0 (by decide) h d_C_isThere_17
set_option maxHeartbeats 4000000 in
set_option maxRecDepth 100000 in
theorem c_C_isThere (l : Launch) (D : va_G) (cI cZ : ClassId) (a : Nat → Nat) (q : Nat) (σ : StC) (x1 : Int32) {val : Int32} (h : f_C_isThere σ x1 = val) : RoM l y_C_isThere b_C_isThere 2 (some .boolean) 0 0 D [(cI, .int), (cZ, .boolean)] [.ref (a 3), .int x1] (wC cI cZ a q σ) val :=
  ro_of (by decide) (Nat.le_of_ble_eq_true rfl) (fun p e s m args below meth c ls C0 hP hl => t_C_isThere_0 (a := a) C0 hP h (lv_sub hl [0, 1] rfl))
def f_C_withAbove (σ : StC) (x1 : Int32) : Option Int32 :=
  if (f_C_isThere σ x1) = 0 then
    some 0
  else
    if x1 < 0 ∨ 30 ≤ x1.toNatClampNeg then none else
    some (((C_above σ) x1.toNatClampNeg) ||| ((1 : Int32) <<< (x1 &&& 31)))
set_option maxHeartbeats 4000000 in
set_option maxRecDepth 100000 in
theorem t_C_withAbove_0 {p : Program} {l : Launch} {e : Env} {s : State} {m : MethodId} {args : Array Value} {below : List Frame} {meth : Method} {c : Code} {D : va_G} {cI cZ : ClassId} {a : Nat → Nat} {q : Nat} {σ : StC} (C0 : Am p s m args meth c b_C_withAbove (some .int) 2 R_C D [(cI, .int), (cZ, .boolean)]) (hP : va_P D vwCl (wC cI cZ a q σ) s.heap) {val : Int32}   {x1 : Int32} (h : f_C_withAbove σ x1 = some val) {ls : Array Slot} (hl : lv_has ls 2 [(0, .ref (a 3)), (1, .int x1)]) : RoW p l e (rmK 1 21 0 0) s m args below meth c val (F0 m 0 ls []) := by
  obtain ⟨hx, hb, hr, hml, hown, hts, hlk, hK⟩ := id C0
  unfold f_C_withAbove at h
  refine lv_aload_n hx hb d_C_withAbove_0 rfl (lv_at hl 0 rfl) ?_
  refine lv_iload_n hx hb d_C_withAbove_1 rfl (lv_at hl 1 rfl) ?_
  refine ro_V (n := 1) (ci := 1) (As := [.int x1]) (rest := []) C0 (c_C_isThere l D cI cZ a q σ x1 rfl) wd_4 ⟨wd_5, wd_6, wd_7, wd_8⟩ (by decide +kernel) ⟨Nat.le_of_ble_eq_true rfl, Nat.le_of_ble_eq_true rfl⟩ hP rfl rfl rfl hl rfl rfl (Nat.le_of_ble_eq_true rfl) ⟨Nat.zero_le _, Nat.zero_le _⟩ d_C_withAbove_2 ?_
  refine lv_if_eq (tgt := 21) hx hb d_C_withAbove_5 (by decide) (fun hc => ?_) (fun hc => ?_)
  · rw [if_pos hc] at h
    refine lv_iconst (v := 0) hx hb d_C_withAbove_21 (by decide) ?_
    exact ro_ret C0 (Option.some.inj h) d_C_withAbove_22
  · rw [if_neg hc] at h
    refine lv_aload_n hx hb d_C_withAbove_8 rfl (lv_at hl 0 rfl) ?_
    refine va_get (ci := 1) (v := .ref (a 6)) (C := R_C) (T := F_C) (N := 8) hx hb hts i_C hown hK.1 hP 0 rfl rfl 2 (by decide) (hts _ wd_9) (fun _ h9 => h9) rfl d_C_withAbove_9 ?_
    refine lv_iload_n hx hb d_C_withAbove_12 rfl (lv_at hl 1 rfl) ?_
    replace h := gd h
    obtain ⟨hi, h⟩ := h
    refine va_iald hx hb hK.1 hP 3 0 rfl rfl hi d_C_withAbove_13 ?_
    refine lv_iconst (v := 1) hx hb d_C_withAbove_14 (by decide) ?_
    refine lv_iload_n hx hb d_C_withAbove_15 rfl (lv_at hl 1 rfl) ?_
    refine lv_ishl hx hb d_C_withAbove_16 ?_
    refine lv_ior hx hb d_C_withAbove_17 ?_
    refine lv_goto (tgt := 22) hx hb d_C_withAbove_18 (by decide) ?_
    exact ro_ret C0 (Option.some.inj h) d_C_withAbove_22
set_option maxHeartbeats 4000000 in
set_option maxRecDepth 100000 in
theorem c_C_withAbove (l : Launch) (D : va_G) (cI cZ : ClassId) (a : Nat → Nat) (q : Nat) (σ : StC) (x1 : Int32) {val : Int32} (h : f_C_withAbove σ x1 = some val) : RoM l y_C_withAbove b_C_withAbove 2 (some .int) 1 21 D [(cI, .int), (cZ, .boolean)] [.ref (a 3), .int x1] (wC cI cZ a q σ) val :=
  ro_of (by decide) (Nat.le_of_ble_eq_true rfl) (fun p e s m args below meth c ls C0 hP hl => t_C_withAbove_0 (a := a) C0 hP h (lv_sub hl [0, 1] rfl))
def f_C_write (σ : StC) (x1 x2 x3 x4 : Int32) : Option (Int32 × StC) :=
  if (f_C_isThere σ x1) = 0 then
    some (0, σ)
  else
    if (f_C_isThere σ x3) = 0 then
      some (0, σ)
    else
      if x2 < 0 then
        some (0, σ)
      else
        if x2 < 30 then
          if ((x1 * 30) + x2) < 0 ∨ 900 ≤ ((x1 * 30) + x2).toNatClampNeg then none else
          if ((x1 * 30) + x2) < 0 ∨ 900 ≤ ((x1 * 30) + x2).toNatClampNeg then none else
          if x1 < 0 ∨ 30 ≤ x1.toNatClampNeg then none else
          if x1 < 0 ∨ 30 ≤ x1.toNatClampNeg then none else
          if x1 < 0 ∨ 30 ≤ x1.toNatClampNeg then none else
          (f_C_withAbove (C_put_directCounts (C_put_tolds (C_put_directs σ ((x1 * 30) + x2) x3) ((x1 * 30) + x2) x4) x1 (if ((C_directCounts (C_put_tolds (C_put_directs σ ((x1 * 30) + x2) x3) ((x1 * 30) + x2) x4)) x1.toNatClampNeg) < (x2 + 1) then (x2 + 1) else ((C_directCounts (C_put_tolds (C_put_directs σ ((x1 * 30) + x2) x3) ((x1 * 30) + x2) x4)) x1.toNatClampNeg))) x3).bind fun r1 =>
          if x1 < 0 ∨ 30 ≤ x1.toNatClampNeg then none else
          some (0, (C_put_above (C_put_directCounts (C_put_tolds (C_put_directs σ ((x1 * 30) + x2) x3) ((x1 * 30) + x2) x4) x1 (if ((C_directCounts (C_put_tolds (C_put_directs σ ((x1 * 30) + x2) x3) ((x1 * 30) + x2) x4)) x1.toNatClampNeg) < (x2 + 1) then (x2 + 1) else ((C_directCounts (C_put_tolds (C_put_directs σ ((x1 * 30) + x2) x3) ((x1 * 30) + x2) x4)) x1.toNatClampNeg))) x1 (((C_above (C_put_directCounts (C_put_tolds (C_put_directs σ ((x1 * 30) + x2) x3) ((x1 * 30) + x2) x4) x1 (if ((C_directCounts (C_put_tolds (C_put_directs σ ((x1 * 30) + x2) x3) ((x1 * 30) + x2) x4)) x1.toNatClampNeg) < (x2 + 1) then (x2 + 1) else ((C_directCounts (C_put_tolds (C_put_directs σ ((x1 * 30) + x2) x3) ((x1 * 30) + x2) x4)) x1.toNatClampNeg)))) x1.toNatClampNeg) ||| r1)))
        else
          some (0, σ)
set_option maxHeartbeats 4000000 in
set_option maxRecDepth 100000 in
theorem t_C_write_0 {p : Program} {l : Launch} {e : Env} {s : State} {m : MethodId} {args : Array Value} {below : List Frame} {meth : Method} {c : Code} {D : va_G} {cI cZ : ClassId} {a : Nat → Nat} {A : Nat → Prop} (C0 : Am p s m args meth c b_C_write none 5 R_C D [(cI, .int), (cZ, .boolean)]) (hA : ∀ q, s.heap.size ≤ q → A q) {res : Int32 × StC}   {q : Nat} {σ : StC} {x1 x2 x3 x4 : Int32} (h : f_C_write σ x1 x2 x3 x4 = some res) {H : Heap} {locs : List Loc} (hP : va_P D vwCl (wC cI cZ a q σ) H) (hD : va_D A (wC cI cZ a q σ)) (hS : va_S A s.heap H locs) {ls : Array Slot} (hl : lv_has ls 5 [(0, .ref (a 3)), (1, .int x1), (2, .int x2), (3, .int x3), (4, .int x4)]) : W p l e (rmK 2 42 0 0) s m args below meth c H locs 0 0 (RwQv below args s D A (fun q (σ : StC) => (wC cI cZ a q σ)) res 0 0) (F0 m 0 ls []) := by
  obtain ⟨hx, hb, hr, hml, hown, hts, hlk, hK⟩ := id C0
  unfold f_C_write at h
  refine lv_aload_n hx hb d_C_write_0 rfl (lv_at hl 0 rfl) ?_
  refine lv_iload_n hx hb d_C_write_1 rfl (lv_at hl 1 rfl) ?_
  refine ro_V (n := 1) (ci := 1) (As := [.int x1]) (rest := []) C0 (c_C_isThere l D cI cZ a q σ x1 rfl) wd_4 ⟨wd_5, wd_6, wd_7, wd_8⟩ (by decide +kernel) ⟨Nat.le_of_ble_eq_true rfl, Nat.le_of_ble_eq_true rfl⟩ hP rfl rfl rfl hl rfl rfl (Nat.le_of_ble_eq_true rfl) ⟨Nat.zero_le _, Nat.zero_le _⟩ d_C_write_2 ?_
  refine lv_if_eq (tgt := 26) hx hb d_C_write_5 (by decide) (fun hc => ?_) (fun hc => ?_)
  · rw [if_pos hc] at h
    exact rw_retv C0 hP hD hS (Option.some.inj h) d_C_write_26
  · rw [if_neg hc] at h
    refine lv_aload_n hx hb d_C_write_8 rfl (lv_at hl 0 rfl) ?_
    refine lv_iload_n hx hb d_C_write_9 rfl (lv_at hl 3 rfl) ?_
    refine ro_V (n := 1) (ci := 1) (As := [.int x3]) (rest := []) C0 (c_C_isThere l D cI cZ a q σ x3 rfl) wd_4 ⟨wd_5, wd_6, wd_7, wd_8⟩ (by decide +kernel) ⟨Nat.le_of_ble_eq_true rfl, Nat.le_of_ble_eq_true rfl⟩ hP rfl rfl rfl hl rfl rfl (Nat.le_of_ble_eq_true rfl) ⟨Nat.zero_le _, Nat.zero_le _⟩ d_C_write_10 ?_
    refine lv_if_eq (tgt := 26) hx hb d_C_write_13 (by decide) (fun hc => ?_) (fun hc => ?_)
    · rw [if_pos hc] at h
      exact rw_retv C0 hP hD hS (Option.some.inj h) d_C_write_26
    · rw [if_neg hc] at h
      refine lv_iload_n hx hb d_C_write_16 rfl (lv_at hl 2 rfl) ?_
      refine lv_if_lt (tgt := 26) hx hb d_C_write_17 (by decide) (fun hc => ?_) (fun hc => ?_)
      · rw [if_pos hc] at h
        exact rw_retv C0 hP hD hS (Option.some.inj h) d_C_write_26
      · rw [if_neg hc] at h
        refine lv_iload_n hx hb d_C_write_20 rfl (lv_at hl 2 rfl) ?_
        refine lv_bipush (v := 30) hx hb d_C_write_21 (by decide) ?_
        refine lv_icmp_lt (tgt := 27) hx hb d_C_write_23 (by decide) (fun hc => ?_) (fun hc => ?_)
        · rw [if_pos hc] at h
          refine lv_aload_n hx hb d_C_write_27 rfl (lv_at hl 0 rfl) ?_
          refine va_get (ci := 1) (v := .ref (a 8)) (C := R_C) (T := F_C) (N := 8) hx hb hts i_C hown hK.1 hP 0 rfl rfl 4 (by decide) (hts _ wd_10) (fun _ h9 => h9) rfl d_C_write_28 ?_
          refine lv_iload_n hx hb d_C_write_31 rfl (lv_at hl 1 rfl) ?_
          refine lv_bipush (v := 30) hx hb d_C_write_32 (by decide) ?_
          refine lv_imul hx hb d_C_write_34 ?_
          refine lv_iload_n hx hb d_C_write_35 rfl (lv_at hl 2 rfl) ?_
          refine lv_iadd hx hb d_C_write_36 ?_
          refine lv_iload_n hx hb d_C_write_37 rfl (lv_at hl 3 rfl) ?_
          replace h := gd h
          obtain ⟨hi, h⟩ := h
          refine rw_iast C0 hP hD hS 5 0 rfl rfl hi d_C_write_38 (Wn := (wC cI cZ a q (C_put_directs σ ((x1 * 30) + x2) x3))) ws_C_put_directs (fun H locs hP hD hS => ?_)
          refine lv_aload_n hx hb d_C_write_39 rfl (lv_at hl 0 rfl) ?_
          refine va_get (ci := 1) (v := .ref (a 9)) (C := R_C) (T := F_C) (N := 8) hx hb hts i_C hown hK.1 hP 0 rfl rfl 5 (by decide) (hts _ wd_11) (fun _ h9 => h9) rfl d_C_write_40 ?_
          refine lv_iload_n hx hb d_C_write_43 rfl (lv_at hl 1 rfl) ?_
          refine lv_bipush (v := 30) hx hb d_C_write_44 (by decide) ?_
          refine lv_imul hx hb d_C_write_46 ?_
          refine lv_iload_n hx hb d_C_write_47 rfl (lv_at hl 2 rfl) ?_
          refine lv_iadd hx hb d_C_write_48 ?_
          refine lv_iload hx hb d_C_write_49 (lv_at hl 4 rfl) ?_
          replace h := gd h
          obtain ⟨hi, h⟩ := h
          refine rw_iast C0 hP hD hS 6 0 rfl rfl hi d_C_write_51 (Wn := (wC cI cZ a q (C_put_tolds (C_put_directs σ ((x1 * 30) + x2) x3) ((x1 * 30) + x2) x4))) ws_C_put_tolds (fun H locs hP hD hS => ?_)
          refine lv_aload_n hx hb d_C_write_52 rfl (lv_at hl 0 rfl) ?_
          refine va_get (ci := 1) (v := .ref (a 7)) (C := R_C) (T := F_C) (N := 8) hx hb hts i_C hown hK.1 hP 0 rfl rfl 3 (by decide) (hts _ wd_12) (fun _ h9 => h9) rfl d_C_write_53 ?_
          refine lv_iload_n hx hb d_C_write_56 rfl (lv_at hl 1 rfl) ?_
          refine lv_aload_n hx hb d_C_write_57 rfl (lv_at hl 0 rfl) ?_
          refine va_get (ci := 1) (v := .ref (a 7)) (C := R_C) (T := F_C) (N := 8) hx hb hts i_C hown hK.1 hP 0 rfl rfl 3 (by decide) (hts _ wd_12) (fun _ h9 => h9) rfl d_C_write_58 ?_
          refine lv_iload_n hx hb d_C_write_61 rfl (lv_at hl 1 rfl) ?_
          replace h := gd h
          obtain ⟨hi, h⟩ := h
          refine va_iald hx hb hK.1 hP 4 0 rfl rfl hi d_C_write_62 ?_
          refine lv_iload_n hx hb d_C_write_63 rfl (lv_at hl 2 rfl) ?_
          refine lv_iconst (v := 1) hx hb d_C_write_64 (by decide) ?_
          refine lv_iadd hx hb d_C_write_65 ?_
          refine va_mmax hx hb (by rw [hml]; exact hl.1.symm) hown (hts _ wd_13) (hts _ wd_14) (hts _ wd_15) (hts _ wd_16) (Nat.le_of_ble_eq_true rfl) (Nat.le_of_ble_eq_true rfl) (Nat.zero_le _) (Nat.zero_le _) d_C_write_66 ?_
          replace h := gd h
          obtain ⟨hi, h⟩ := h
          refine rw_iast C0 hP hD hS 4 0 rfl rfl hi d_C_write_69 (Wn := (wC cI cZ a q (C_put_directCounts (C_put_tolds (C_put_directs σ ((x1 * 30) + x2) x3) ((x1 * 30) + x2) x4) x1 (if ((C_directCounts (C_put_tolds (C_put_directs σ ((x1 * 30) + x2) x3) ((x1 * 30) + x2) x4)) x1.toNatClampNeg) < (x2 + 1) then (x2 + 1) else ((C_directCounts (C_put_tolds (C_put_directs σ ((x1 * 30) + x2) x3) ((x1 * 30) + x2) x4)) x1.toNatClampNeg))))) ws_C_put_directCounts (fun H locs hP hD hS => ?_)
          refine lv_aload_n hx hb d_C_write_70 rfl (lv_at hl 0 rfl) ?_
          refine va_get (ci := 1) (v := .ref (a 6)) (C := R_C) (T := F_C) (N := 8) hx hb hts i_C hown hK.1 hP 0 rfl rfl 2 (by decide) (hts _ wd_9) (fun _ h9 => h9) rfl d_C_write_71 ?_
          refine lv_iload_n hx hb d_C_write_74 rfl (lv_at hl 1 rfl) ?_
          refine lv_dup2_11 hx hb d_C_write_75 rfl rfl ?_
          replace h := gd h
          obtain ⟨hi, h⟩ := h
          refine va_iald hx hb hK.1 hP 3 0 rfl rfl hi d_C_write_76 ?_
          refine lv_aload_n hx hb d_C_write_77 rfl (lv_at hl 0 rfl) ?_
          refine lv_iload_n hx hb d_C_write_78 rfl (lv_at hl 3 rfl) ?_
          replace h := bd h
          obtain ⟨r1, g1, h⟩ := h
          refine ro_V (n := 1) (ci := 1) (As := [.int x3]) (rest := [.int ((C_above (C_put_directCounts (C_put_tolds (C_put_directs σ ((x1 * 30) + x2) x3) ((x1 * 30) + x2) x4) x1 (if ((C_directCounts (C_put_tolds (C_put_directs σ ((x1 * 30) + x2) x3) ((x1 * 30) + x2) x4)) x1.toNatClampNeg) < (x2 + 1) then (x2 + 1) else ((C_directCounts (C_put_tolds (C_put_directs σ ((x1 * 30) + x2) x3) ((x1 * 30) + x2) x4)) x1.toNatClampNeg)))) x1.toNatClampNeg), .int x1, .ref (a 6)]) C0 (c_C_withAbove l D cI cZ a q (C_put_directCounts (C_put_tolds (C_put_directs σ ((x1 * 30) + x2) x3) ((x1 * 30) + x2) x4) x1 (if ((C_directCounts (C_put_tolds (C_put_directs σ ((x1 * 30) + x2) x3) ((x1 * 30) + x2) x4)) x1.toNatClampNeg) < (x2 + 1) then (x2 + 1) else ((C_directCounts (C_put_tolds (C_put_directs σ ((x1 * 30) + x2) x3) ((x1 * 30) + x2) x4)) x1.toNatClampNeg))) x3 g1) wd_17 ⟨wd_18, wd_19, wd_20, wd_8⟩ (by decide +kernel) ⟨Nat.le_of_ble_eq_true rfl, Nat.le_of_ble_eq_true rfl⟩ hP rfl rfl rfl hl rfl rfl (Nat.le_of_ble_eq_true rfl) ⟨Nat.zero_le _, Nat.zero_le _⟩ d_C_write_79 ?_
          try dsimp only at h
          refine lv_ior hx hb d_C_write_82 ?_
          replace h := gd h
          obtain ⟨hi, h⟩ := h
          refine rw_iast C0 hP hD hS 3 0 rfl rfl hi d_C_write_83 (Wn := (wC cI cZ a q (C_put_above (C_put_directCounts (C_put_tolds (C_put_directs σ ((x1 * 30) + x2) x3) ((x1 * 30) + x2) x4) x1 (if ((C_directCounts (C_put_tolds (C_put_directs σ ((x1 * 30) + x2) x3) ((x1 * 30) + x2) x4)) x1.toNatClampNeg) < (x2 + 1) then (x2 + 1) else ((C_directCounts (C_put_tolds (C_put_directs σ ((x1 * 30) + x2) x3) ((x1 * 30) + x2) x4)) x1.toNatClampNeg))) x1 (((C_above (C_put_directCounts (C_put_tolds (C_put_directs σ ((x1 * 30) + x2) x3) ((x1 * 30) + x2) x4) x1 (if ((C_directCounts (C_put_tolds (C_put_directs σ ((x1 * 30) + x2) x3) ((x1 * 30) + x2) x4)) x1.toNatClampNeg) < (x2 + 1) then (x2 + 1) else ((C_directCounts (C_put_tolds (C_put_directs σ ((x1 * 30) + x2) x3) ((x1 * 30) + x2) x4)) x1.toNatClampNeg)))) x1.toNatClampNeg) ||| r1)))) ws_C_put_above (fun H locs hP hD hS => ?_)
          exact rw_retv C0 hP hD hS (Option.some.inj h) d_C_write_84
        · rw [if_neg hc] at h
          exact rw_retv C0 hP hD hS (Option.some.inj h) d_C_write_26
set_option maxHeartbeats 4000000 in
set_option maxRecDepth 100000 in
theorem c_C_write (l : Launch) (D : va_G) (cI cZ : ClassId) (a : Nat → Nat) (q : Nat) (σ : StC) (x1 : Int32) (x2 : Int32) (x3 : Int32) (x4 : Int32) {res : Int32 × StC} (h : f_C_write σ x1 x2 x3 x4 = some res) : RwMv l y_C_write b_C_write 5 2 42 D [(cI, .int), (cZ, .boolean)] [.ref (a 3), .int x1, .int x2, .int x3, .int x4] (fun q (σ : StC) => (wC cI cZ a q σ)) q σ res :=
  rw_ofv (by decide) (Nat.le_of_ble_eq_true rfl) (fun p e s m args below meth c ls A C0 hA hP hD hS hl => t_C_write_0 (a := a) C0 hA h hP hD hS (lv_sub hl [0, 1, 2, 3, 4] rfl))
def f_C_add_54 (σ : StC) (x3 : Int32) : Option (Int32 × StC) :=
  if x3 = 0 then
    some (x3, σ)
  else
    (f_C_write σ x3 0 0 (-1)).bind fun r1 =>
    some (x3, r1.2)
def f_C_add (σ : StC) (x1 x2 : Int32) : Option (Int32 × StC) :=
  if (C_count σ) < 30 then
    if (C_count σ) < 0 ∨ 30 ≤ (C_count σ).toNatClampNeg then none else
    if (C_count σ) < 0 ∨ 30 ≤ (C_count σ).toNatClampNeg then none else
    if x2 = 0 then
      f_C_add_54 (C_put_generics (C_put_faces (C_set_count σ ((C_count σ) + 1)) (C_count σ) (vp_nar .boolean x1)) (C_count σ) (vp_nar .boolean x2)) (C_count σ)
    else
      f_C_add_54 (C_set_countGeneric (C_put_generics (C_put_faces (C_set_count σ ((C_count σ) + 1)) (C_count σ) (vp_nar .boolean x1)) (C_count σ) (vp_nar .boolean x2)) ((C_countGeneric (C_put_generics (C_put_faces (C_set_count σ ((C_count σ) + 1)) (C_count σ) (vp_nar .boolean x1)) (C_count σ) (vp_nar .boolean x2))) + 1)) (C_count σ)
  else
    some ((-1), σ)
set_option maxHeartbeats 4000000 in
set_option maxRecDepth 100000 in
theorem t_C_add_54 {p : Program} {l : Launch} {e : Env} {s : State} {m : MethodId} {args : Array Value} {below : List Frame} {meth : Method} {c : Code} {D : va_G} {cI cZ : ClassId} {a : Nat → Nat} {A : Nat → Prop} (C0 : Am p s m args meth c b_C_add (some .int) 4 R_C D [(cI, .int), (cZ, .boolean)]) (hA : ∀ q, s.heap.size ≤ q → A q) {res : Int32 × StC}   {q : Nat} {σ : StC} {x3 : Int32} (h : f_C_add_54 σ x3 = some res) {H : Heap} {locs : List Loc} (hP : va_P D vwCl (wC cI cZ a q σ) H) (hD : va_D A (wC cI cZ a q σ)) (hS : va_S A s.heap H locs) {ls : Array Slot} (hl : lv_has ls 4 [(0, .ref (a 3)), (3, .int x3)]) : W p l e (rmK 3 66 0 0) s m args below meth c H locs 0 0 (RwQ below args s D A (fun q (σ : StC) => (wC cI cZ a q σ)) res 0 0) (F0 m 54 ls []) := by
  obtain ⟨hx, hb, hr, hml, hown, hts, hlk, hK⟩ := id C0
  unfold f_C_add_54 at h
  refine lv_iload_n hx hb d_C_add_54 rfl (lv_at hl 1 rfl) ?_
  refine lv_if_eq (tgt := 66) hx hb d_C_add_55 (by decide) (fun hc => ?_) (fun hc => ?_)
  · rw [if_pos hc] at h
    refine lv_iload_n hx hb d_C_add_66 rfl (lv_at hl 1 rfl) ?_
    exact rw_ret C0 hP hD hS (Option.some.inj h) d_C_add_67
  · rw [if_neg hc] at h
    refine lv_aload_n hx hb d_C_add_58 rfl (lv_at hl 0 rfl) ?_
    refine lv_iload_n hx hb d_C_add_59 rfl (lv_at hl 1 rfl) ?_
    refine lv_iconst (v := 0) hx hb d_C_add_60 (by decide) ?_
    refine lv_iconst (v := 0) hx hb d_C_add_61 (by decide) ?_
    refine lv_iconst (v := (-1)) hx hb d_C_add_62 (by decide) ?_
    replace h := bd h
    obtain ⟨r1, g1, h⟩ := h
    refine rw_Vv (n := 4) (ci := 1) (As := [.int x3, .int 0, .int 0, .int (-1)]) (rest := []) (Wn := fun _ => (wC cI cZ a q r1.2)) C0 hA (c_C_write l D cI cZ a q σ x3 0 0 (-1) g1) wd_23 ⟨wd_24, wd_25, wd_26, wd_8⟩ (by decide +kernel) ⟨Nat.le_of_ble_eq_true rfl, Nat.le_of_ble_eq_true rfl⟩ hP hD hS [0, 1, 2, 3, 4, 5, 6] [] [0, 1, 2, 3, 4, 5, 6] jn_C__C (by decide) jn_C__R (by decide) (by decide) (by decide) jn_C__W rfl rfl rfl hl rfl rfl (Nat.le_of_ble_eq_true rfl) ⟨Nat.zero_le _, Nat.zero_le _⟩ d_C_add_63 (fun H locs _ hP hD hS => ?_)
    try dsimp only at h
    refine lv_iload_n hx hb d_C_add_66 rfl (lv_at hl 1 rfl) ?_
    exact rw_ret C0 hP hD hS (Option.some.inj h) d_C_add_67
set_option maxHeartbeats 4000000 in
set_option maxRecDepth 100000 in
theorem t_C_add_0 {p : Program} {l : Launch} {e : Env} {s : State} {m : MethodId} {args : Array Value} {below : List Frame} {meth : Method} {c : Code} {D : va_G} {cI cZ : ClassId} {a : Nat → Nat} {A : Nat → Prop} (C0 : Am p s m args meth c b_C_add (some .int) 4 R_C D [(cI, .int), (cZ, .boolean)]) (hA : ∀ q, s.heap.size ≤ q → A q) {res : Int32 × StC}   {q : Nat} {σ : StC} {x1 x2 : Int32} (h : f_C_add σ x1 x2 = some res) {H : Heap} {locs : List Loc} (hP : va_P D vwCl (wC cI cZ a q σ) H) (hD : va_D A (wC cI cZ a q σ)) (hS : va_S A s.heap H locs) {ls : Array Slot} (hl : lv_has ls 4 [(0, .ref (a 3)), (1, .int x1), (2, .int x2)]) : W p l e (rmK 3 66 0 0) s m args below meth c H locs 0 0 (RwQ below args s D A (fun q (σ : StC) => (wC cI cZ a q σ)) res 0 0) (F0 m 0 ls []) := by
  obtain ⟨hx, hb, hr, hml, hown, hts, hlk, hK⟩ := id C0
  unfold f_C_add at h
  refine lv_aload_n hx hb d_C_add_0 rfl (lv_at hl 0 rfl) ?_
  refine va_get (ci := 1) (v := .int (C_count σ)) (C := R_C) (T := F_C) (N := 8) hx hb hts i_C hown hK.1 hP 0 rfl rfl 6 (by decide) (hts _ wd_3) (fun _ h9 => h9) rfl d_C_add_1 ?_
  refine lv_bipush (v := 30) hx hb d_C_add_4 (by decide) ?_
  refine lv_icmp_lt (tgt := 11) hx hb d_C_add_6 (by decide) (fun hc => ?_) (fun hc => ?_)
  · rw [if_pos hc] at h
    refine lv_aload_n hx hb d_C_add_11 rfl (lv_at hl 0 rfl) ?_
    refine va_get (ci := 1) (v := .int (C_count σ)) (C := R_C) (T := F_C) (N := 8) hx hb hts i_C hown hK.1 hP 0 rfl rfl 6 (by decide) (hts _ wd_3) (fun _ h9 => h9) rfl d_C_add_12 ?_
    refine lv_istore_n (lv' := [(3, .int (C_count σ)), (0, .ref (a 3)), (1, .int x1), (2, .int x2)]) hx hb d_C_add_15 rfl hl (by decide) rfl (fun ls hl => ?_)
    refine lv_aload_n hx hb d_C_add_16 rfl (lv_at hl 1 rfl) ?_
    refine lv_dup hx hb d_C_add_17 rfl ?_
    refine va_get (ci := 1) (v := .int (C_count σ)) (C := R_C) (T := F_C) (N := 8) hx hb hts i_C hown hK.1 hP 0 rfl rfl 6 (by decide) (hts _ wd_3) (fun _ h9 => h9) rfl d_C_add_18 ?_
    refine lv_iconst (v := 1) hx hb d_C_add_21 (by decide) ?_
    refine lv_iadd hx hb d_C_add_22 ?_
    refine rw_put (v := .int ((C_count σ) + 1)) (fty := .int) (C := R_C) (T := F_C) (N := 8) C0 hP hD hS i_C ty_C tyok_C nn_C 0 rfl rfl 6 (by decide) (hts _ wd_3) rfl rfl (by decide +kernel) rfl rfl (Nat.le_of_ble_eq_true rfl) d_C_add_23 (Wn := (wC cI cZ a q (C_set_count σ ((C_count σ) + 1)))) ws_C_set_count (fun H locs hP hD hS => ?_)
    refine lv_aload_n hx hb d_C_add_26 rfl (lv_at hl 1 rfl) ?_
    refine va_get (ci := 1) (v := .ref (a 4)) (C := R_C) (T := F_C) (N := 8) hx hb hts i_C hown hK.1 hP 0 rfl rfl 0 (by decide) (hts _ wd_21) (fun _ h9 => h9) rfl d_C_add_27 ?_
    refine lv_iload_n hx hb d_C_add_30 rfl (lv_at hl 0 rfl) ?_
    refine lv_iload_n hx hb d_C_add_31 rfl (lv_at hl 2 rfl) ?_
    replace h := gd h
    obtain ⟨hi, h⟩ := h
    refine rw_zast C0 hP hD hS 1 1 rfl rfl hi d_C_add_32 (Wn := (wC cI cZ a q (C_put_faces (C_set_count σ ((C_count σ) + 1)) (C_count σ) (vp_nar .boolean x1)))) ws_C_put_faces (fun H locs hP hD hS => ?_)
    refine lv_aload_n hx hb d_C_add_33 rfl (lv_at hl 1 rfl) ?_
    refine va_get (ci := 1) (v := .ref (a 5)) (C := R_C) (T := F_C) (N := 8) hx hb hts i_C hown hK.1 hP 0 rfl rfl 1 (by decide) (hts _ wd_22) (fun _ h9 => h9) rfl d_C_add_34 ?_
    refine lv_iload_n hx hb d_C_add_37 rfl (lv_at hl 0 rfl) ?_
    refine lv_iload_n hx hb d_C_add_38 rfl (lv_at hl 3 rfl) ?_
    replace h := gd h
    obtain ⟨hi, h⟩ := h
    refine rw_zast C0 hP hD hS 2 1 rfl rfl hi d_C_add_39 (Wn := (wC cI cZ a q (C_put_generics (C_put_faces (C_set_count σ ((C_count σ) + 1)) (C_count σ) (vp_nar .boolean x1)) (C_count σ) (vp_nar .boolean x2)))) ws_C_put_generics (fun H locs hP hD hS => ?_)
    refine lv_iload_n hx hb d_C_add_40 rfl (lv_at hl 3 rfl) ?_
    refine lv_if_eq (tgt := 54) hx hb d_C_add_41 (by decide) (fun hc => ?_) (fun hc => ?_)
    · rw [if_pos hc] at h
      exact t_C_add_54 (a := a) C0 hA  h hP hD hS (lv_sub hl [1, 0] rfl)
    · rw [if_neg hc] at h
      refine lv_aload_n hx hb d_C_add_44 rfl (lv_at hl 1 rfl) ?_
      refine lv_dup hx hb d_C_add_45 rfl ?_
      refine va_get (ci := 1) (v := .int (C_countGeneric (C_put_generics (C_put_faces (C_set_count σ ((C_count σ) + 1)) (C_count σ) (vp_nar .boolean x1)) (C_count σ) (vp_nar .boolean x2)))) (C := R_C) (T := F_C) (N := 8) hx hb hts i_C hown hK.1 hP 0 rfl rfl 7 (by decide) (hts _ wd_27) (fun _ h9 => h9) rfl d_C_add_46 ?_
      refine lv_iconst (v := 1) hx hb d_C_add_49 (by decide) ?_
      refine lv_iadd hx hb d_C_add_50 ?_
      refine rw_put (v := .int ((C_countGeneric (C_put_generics (C_put_faces (C_set_count σ ((C_count σ) + 1)) (C_count σ) (vp_nar .boolean x1)) (C_count σ) (vp_nar .boolean x2))) + 1)) (fty := .int) (C := R_C) (T := F_C) (N := 8) C0 hP hD hS i_C ty_C tyok_C nn_C 0 rfl rfl 7 (by decide) (hts _ wd_27) rfl rfl (by decide +kernel) rfl rfl (Nat.le_of_ble_eq_true rfl) d_C_add_51 (Wn := (wC cI cZ a q (C_set_countGeneric (C_put_generics (C_put_faces (C_set_count σ ((C_count σ) + 1)) (C_count σ) (vp_nar .boolean x1)) (C_count σ) (vp_nar .boolean x2)) ((C_countGeneric (C_put_generics (C_put_faces (C_set_count σ ((C_count σ) + 1)) (C_count σ) (vp_nar .boolean x1)) (C_count σ) (vp_nar .boolean x2))) + 1)))) ws_C_set_countGeneric (fun H locs hP hD hS => ?_)
      exact t_C_add_54 (a := a) C0 hA  h hP hD hS (lv_sub hl [1, 0] rfl)
  · rw [if_neg hc] at h
    refine lv_iconst (v := (-1)) hx hb d_C_add_9 (by decide) ?_
    exact rw_ret C0 hP hD hS (Option.some.inj h) d_C_add_10
set_option maxHeartbeats 4000000 in
set_option maxRecDepth 100000 in
theorem c_C_add (l : Launch) (D : va_G) (cI cZ : ClassId) (a : Nat → Nat) (q : Nat) (σ : StC) (x1 : Int32) (x2 : Int32) {res : Int32 × StC} (h : f_C_add σ x1 x2 = some res) : RwM l y_C_add b_C_add 4 (some .int) 3 66 D [(cI, .int), (cZ, .boolean)] [.ref (a 3), .int x1, .int x2] (fun q (σ : StC) => (wC cI cZ a q σ)) q σ res :=
  rw_of (by decide) (Nat.le_of_ble_eq_true rfl) (fun p e s m args below meth c ls A C0 hA hP hD hS hl => t_C_add_0 (a := a) C0 hA h hP hD hS (lv_sub hl [0, 1, 2] rfl))
def f_C_newest (σ : StC) : Int32 :=
  ((C_count σ) - 1)
set_option maxHeartbeats 4000000 in
set_option maxRecDepth 100000 in
theorem t_C_newest_0 {p : Program} {l : Launch} {e : Env} {s : State} {m : MethodId} {args : Array Value} {below : List Frame} {meth : Method} {c : Code} {D : va_G} {cI cZ : ClassId} {a : Nat → Nat} {q : Nat} {σ : StC} (C0 : Am p s m args meth c b_C_newest (some .int) 1 R_C D [(cI, .int), (cZ, .boolean)]) (hP : va_P D vwCl (wC cI cZ a q σ) s.heap) {val : Int32}   (h : f_C_newest σ = val) {ls : Array Slot} (hl : lv_has ls 1 [(0, .ref (a 3))]) : RoW p l e (rmK 0 0 0 0) s m args below meth c val (F0 m 0 ls []) := by
  obtain ⟨hx, hb, hr, hml, hown, hts, hlk, hK⟩ := id C0
  unfold f_C_newest at h
  refine lv_aload_n hx hb d_C_newest_0 rfl (lv_at hl 0 rfl) ?_
  refine va_get (ci := 1) (v := .int (C_count σ)) (C := R_C) (T := F_C) (N := 8) hx hb hts i_C hown hK.1 hP 0 rfl rfl 6 (by decide) (hts _ wd_3) (fun _ h9 => h9) rfl d_C_newest_1 ?_
  refine lv_iconst (v := 1) hx hb d_C_newest_4 (by decide) ?_
  refine lv_isub hx hb d_C_newest_5 ?_
  exact ro_ret C0 h d_C_newest_6
set_option maxHeartbeats 4000000 in
set_option maxRecDepth 100000 in
theorem c_C_newest (l : Launch) (D : va_G) (cI cZ : ClassId) (a : Nat → Nat) (q : Nat) (σ : StC) {val : Int32} (h : f_C_newest σ = val) : RoM l y_C_newest b_C_newest 1 (some .int) 0 0 D [(cI, .int), (cZ, .boolean)] [.ref (a 3)] (wC cI cZ a q σ) val :=
  ro_of (by decide) (Nat.le_of_ble_eq_true rfl) (fun p e s m args below meth c ls C0 hP hl => t_C_newest_0 (a := a) C0 hP h (lv_sub hl [0] rfl))
def f_C_isFace (σ : StC) (x1 : Int32) : Option Int32 :=
  if (f_C_isThere σ x1) = 0 then
    some 0
  else
    if x1 < 0 ∨ 30 ≤ x1.toNatClampNeg then none else
    if ((C_faces σ) x1.toNatClampNeg) = 0 then
      some 0
    else
      some 1
set_option maxHeartbeats 4000000 in
set_option maxRecDepth 100000 in
theorem t_C_isFace_0 {p : Program} {l : Launch} {e : Env} {s : State} {m : MethodId} {args : Array Value} {below : List Frame} {meth : Method} {c : Code} {D : va_G} {cI cZ : ClassId} {a : Nat → Nat} {q : Nat} {σ : StC} (C0 : Am p s m args meth c b_C_isFace (some .boolean) 2 R_C D [(cI, .int), (cZ, .boolean)]) (hP : va_P D vwCl (wC cI cZ a q σ) s.heap) {val : Int32}   {x1 : Int32} (h : f_C_isFace σ x1 = some val) {ls : Array Slot} (hl : lv_has ls 2 [(0, .ref (a 3)), (1, .int x1)]) : RoW p l e (rmK 1 21 0 0) s m args below meth c val (F0 m 0 ls []) := by
  obtain ⟨hx, hb, hr, hml, hown, hts, hlk, hK⟩ := id C0
  unfold f_C_isFace at h
  refine lv_aload_n hx hb d_C_isFace_0 rfl (lv_at hl 0 rfl) ?_
  refine lv_iload_n hx hb d_C_isFace_1 rfl (lv_at hl 1 rfl) ?_
  refine ro_V (n := 1) (ci := 1) (As := [.int x1]) (rest := []) C0 (c_C_isThere l D cI cZ a q σ x1 rfl) wd_4 ⟨wd_5, wd_6, wd_7, wd_8⟩ (by decide +kernel) ⟨Nat.le_of_ble_eq_true rfl, Nat.le_of_ble_eq_true rfl⟩ hP rfl rfl rfl hl rfl rfl (Nat.le_of_ble_eq_true rfl) ⟨Nat.zero_le _, Nat.zero_le _⟩ d_C_isFace_2 ?_
  refine lv_if_eq (tgt := 21) hx hb d_C_isFace_5 (by decide) (fun hc => ?_) (fun hc => ?_)
  · rw [if_pos hc] at h
    refine lv_iconst (v := 0) hx hb d_C_isFace_21 (by decide) ?_
    exact ro_retz C0 (by decide) (Option.some.inj h) d_C_isFace_22
  · rw [if_neg hc] at h
    refine lv_aload_n hx hb d_C_isFace_8 rfl (lv_at hl 0 rfl) ?_
    refine va_get (ci := 1) (v := .ref (a 4)) (C := R_C) (T := F_C) (N := 8) hx hb hts i_C hown hK.1 hP 0 rfl rfl 0 (by decide) (hts _ wd_21) (fun _ h9 => h9) rfl d_C_isFace_9 ?_
    refine lv_iload_n hx hb d_C_isFace_12 rfl (lv_at hl 1 rfl) ?_
    replace h := gd h
    obtain ⟨hi, h⟩ := h
    refine va_zald hx hb hK.1 hP 1 1 rfl rfl hi d_C_isFace_13 ?_
    refine lv_if_eq (tgt := 21) hx hb d_C_isFace_14 (by decide) (fun hc => ?_) (fun hc => ?_)
    · rw [if_pos hc] at h
      refine lv_iconst (v := 0) hx hb d_C_isFace_21 (by decide) ?_
      exact ro_retz C0 (by decide) (Option.some.inj h) d_C_isFace_22
    · rw [if_neg hc] at h
      refine lv_iconst (v := 1) hx hb d_C_isFace_17 (by decide) ?_
      refine lv_goto (tgt := 22) hx hb d_C_isFace_18 (by decide) ?_
      exact ro_retz C0 (by decide) (Option.some.inj h) d_C_isFace_22
set_option maxHeartbeats 4000000 in
set_option maxRecDepth 100000 in
theorem c_C_isFace (l : Launch) (D : va_G) (cI cZ : ClassId) (a : Nat → Nat) (q : Nat) (σ : StC) (x1 : Int32) {val : Int32} (h : f_C_isFace σ x1 = some val) : RoM l y_C_isFace b_C_isFace 2 (some .boolean) 1 21 D [(cI, .int), (cZ, .boolean)] [.ref (a 3), .int x1] (wC cI cZ a q σ) val :=
  ro_of (by decide) (Nat.le_of_ble_eq_true rfl) (fun p e s m args below meth c ls C0 hP hl => t_C_isFace_0 (a := a) C0 hP h (lv_sub hl [0, 1] rfl))
def f_C_countDirect (σ : StC) (x1 : Int32) : Option Int32 :=
  if (f_C_isThere σ x1) = 0 then
    some 0
  else
    if x1 < 0 ∨ 30 ≤ x1.toNatClampNeg then none else
    some ((C_directCounts σ) x1.toNatClampNeg)
set_option maxHeartbeats 4000000 in
set_option maxRecDepth 100000 in
theorem t_C_countDirect_0 {p : Program} {l : Launch} {e : Env} {s : State} {m : MethodId} {args : Array Value} {below : List Frame} {meth : Method} {c : Code} {D : va_G} {cI cZ : ClassId} {a : Nat → Nat} {q : Nat} {σ : StC} (C0 : Am p s m args meth c b_C_countDirect (some .int) 2 R_C D [(cI, .int), (cZ, .boolean)]) (hP : va_P D vwCl (wC cI cZ a q σ) s.heap) {val : Int32}   {x1 : Int32} (h : f_C_countDirect σ x1 = some val) {ls : Array Slot} (hl : lv_has ls 2 [(0, .ref (a 3)), (1, .int x1)]) : RoW p l e (rmK 1 21 0 0) s m args below meth c val (F0 m 0 ls []) := by
  obtain ⟨hx, hb, hr, hml, hown, hts, hlk, hK⟩ := id C0
  unfold f_C_countDirect at h
  refine lv_aload_n hx hb d_C_countDirect_0 rfl (lv_at hl 0 rfl) ?_
  refine lv_iload_n hx hb d_C_countDirect_1 rfl (lv_at hl 1 rfl) ?_
  refine ro_V (n := 1) (ci := 1) (As := [.int x1]) (rest := []) C0 (c_C_isThere l D cI cZ a q σ x1 rfl) wd_4 ⟨wd_5, wd_6, wd_7, wd_8⟩ (by decide +kernel) ⟨Nat.le_of_ble_eq_true rfl, Nat.le_of_ble_eq_true rfl⟩ hP rfl rfl rfl hl rfl rfl (Nat.le_of_ble_eq_true rfl) ⟨Nat.zero_le _, Nat.zero_le _⟩ d_C_countDirect_2 ?_
  refine lv_if_eq (tgt := 17) hx hb d_C_countDirect_5 (by decide) (fun hc => ?_) (fun hc => ?_)
  · rw [if_pos hc] at h
    refine lv_iconst (v := 0) hx hb d_C_countDirect_17 (by decide) ?_
    exact ro_ret C0 (Option.some.inj h) d_C_countDirect_18
  · rw [if_neg hc] at h
    refine lv_aload_n hx hb d_C_countDirect_8 rfl (lv_at hl 0 rfl) ?_
    refine va_get (ci := 1) (v := .ref (a 7)) (C := R_C) (T := F_C) (N := 8) hx hb hts i_C hown hK.1 hP 0 rfl rfl 3 (by decide) (hts _ wd_12) (fun _ h9 => h9) rfl d_C_countDirect_9 ?_
    refine lv_iload_n hx hb d_C_countDirect_12 rfl (lv_at hl 1 rfl) ?_
    replace h := gd h
    obtain ⟨hi, h⟩ := h
    refine va_iald hx hb hK.1 hP 4 0 rfl rfl hi d_C_countDirect_13 ?_
    refine lv_goto (tgt := 18) hx hb d_C_countDirect_14 (by decide) ?_
    exact ro_ret C0 (Option.some.inj h) d_C_countDirect_18
set_option maxHeartbeats 4000000 in
set_option maxRecDepth 100000 in
theorem c_C_countDirect (l : Launch) (D : va_G) (cI cZ : ClassId) (a : Nat → Nat) (q : Nat) (σ : StC) (x1 : Int32) {val : Int32} (h : f_C_countDirect σ x1 = some val) : RoM l y_C_countDirect b_C_countDirect 2 (some .int) 1 21 D [(cI, .int), (cZ, .boolean)] [.ref (a 3), .int x1] (wC cI cZ a q σ) val :=
  ro_of (by decide) (Nat.le_of_ble_eq_true rfl) (fun p e s m args below meth c ls C0 hP hl => t_C_countDirect_0 (a := a) C0 hP h (lv_sub hl [0, 1] rfl))
def f_C_put_22 (σ : StC) (x1 x2 x3 t0 : Int32) : Option (Int32 × StC) :=
  (f_C_write σ x3 t0 x1 x2).bind fun r2 =>
  (f_C_countDirect r2.2 x3).bind fun r3 =>
  some (r3, r2.2)
def f_C_put (σ : StC) (x1 x2 : Int32) : Option (Int32 × StC) :=
  (f_C_isFace σ x1).bind fun r1 =>
  if r1 = 0 then
    f_C_put_22 σ x1 x2 (f_C_newest σ) 0
  else
    (f_C_countDirect σ (f_C_newest σ)).bind fun r4 =>
    f_C_put_22 σ x1 x2 (f_C_newest σ) r4
set_option maxHeartbeats 4000000 in
set_option maxRecDepth 100000 in
theorem t_C_put_22 {p : Program} {l : Launch} {e : Env} {s : State} {m : MethodId} {args : Array Value} {below : List Frame} {meth : Method} {c : Code} {D : va_G} {cI cZ : ClassId} {a : Nat → Nat} {A : Nat → Prop} (C0 : Am p s m args meth c b_C_put (some .int) 5 R_C D [(cI, .int), (cZ, .boolean)]) (hA : ∀ q, s.heap.size ≤ q → A q) {res : Int32 × StC}   {q : Nat} {σ : StC} {x1 x2 x3 t0 : Int32} (h : f_C_put_22 σ x1 x2 x3 t0 = some res) {H : Heap} {locs : List Loc} (hP : va_P D vwCl (wC cI cZ a q σ) H) (hD : va_D A (wC cI cZ a q σ)) (hS : va_S A s.heap H locs) {ls : Array Slot} (hl : lv_has ls 5 [(0, .ref (a 3)), (1, .int x1), (2, .int x2), (3, .int x3)]) : W p l e (rmK 3 66 0 0) s m args below meth c H locs 0 0 (RwQ below args s D A (fun q (σ : StC) => (wC cI cZ a q σ)) res 0 0) (F0 m 22 ls [.int t0]) := by
  obtain ⟨hx, hb, hr, hml, hown, hts, hlk, hK⟩ := id C0
  unfold f_C_put_22 at h
  refine lv_istore (lv' := [(4, .int t0), (0, .ref (a 3)), (1, .int x1), (2, .int x2), (3, .int x3)]) hx hb d_C_put_22 hl (by decide) rfl (fun ls hl => ?_)
  refine lv_aload_n hx hb d_C_put_24 rfl (lv_at hl 1 rfl) ?_
  refine lv_iload_n hx hb d_C_put_25 rfl (lv_at hl 4 rfl) ?_
  refine lv_iload hx hb d_C_put_26 (lv_at hl 0 rfl) ?_
  refine lv_iload_n hx hb d_C_put_28 rfl (lv_at hl 2 rfl) ?_
  refine lv_iload_n hx hb d_C_put_29 rfl (lv_at hl 3 rfl) ?_
  replace h := bd h
  obtain ⟨r2, g2, h⟩ := h
  refine rw_Vv (n := 4) (ci := 1) (As := [.int x3, .int t0, .int x1, .int x2]) (rest := []) (Wn := fun _ => (wC cI cZ a q r2.2)) C0 hA (c_C_write l D cI cZ a q σ x3 t0 x1 x2 g2) wd_23 ⟨wd_24, wd_25, wd_26, wd_8⟩ (by decide +kernel) ⟨Nat.le_of_ble_eq_true rfl, Nat.le_of_ble_eq_true rfl⟩ hP hD hS [0, 1, 2, 3, 4, 5, 6] [] [0, 1, 2, 3, 4, 5, 6] jn_C__C (by decide) jn_C__R (by decide) (by decide) (by decide) jn_C__W rfl rfl rfl hl rfl rfl (Nat.le_of_ble_eq_true rfl) ⟨Nat.zero_le _, Nat.zero_le _⟩ d_C_put_30 (fun H locs _ hP hD hS => ?_)
  try dsimp only at h
  refine lv_aload_n hx hb d_C_put_33 rfl (lv_at hl 1 rfl) ?_
  refine lv_iload_n hx hb d_C_put_34 rfl (lv_at hl 4 rfl) ?_
  replace h := bd h
  obtain ⟨r3, g3, h⟩ := h
  refine ro_V (n := 1) (ci := 1) (As := [.int x3]) (rest := []) C0 (c_C_countDirect l D cI cZ a q r2.2 x3 g3) wd_36 ⟨wd_37, wd_38, wd_39, wd_8⟩ (by decide +kernel) ⟨Nat.le_of_ble_eq_true rfl, Nat.le_of_ble_eq_true rfl⟩ hP rfl rfl rfl hl rfl rfl (Nat.le_of_ble_eq_true rfl) ⟨Nat.zero_le _, Nat.zero_le _⟩ d_C_put_35 ?_
  try dsimp only at h
  exact rw_ret C0 hP hD hS (Option.some.inj h) d_C_put_38
set_option maxHeartbeats 4000000 in
set_option maxRecDepth 100000 in
theorem t_C_put_0 {p : Program} {l : Launch} {e : Env} {s : State} {m : MethodId} {args : Array Value} {below : List Frame} {meth : Method} {c : Code} {D : va_G} {cI cZ : ClassId} {a : Nat → Nat} {A : Nat → Prop} (C0 : Am p s m args meth c b_C_put (some .int) 5 R_C D [(cI, .int), (cZ, .boolean)]) (hA : ∀ q, s.heap.size ≤ q → A q) {res : Int32 × StC}   {q : Nat} {σ : StC} {x1 x2 : Int32} (h : f_C_put σ x1 x2 = some res) {H : Heap} {locs : List Loc} (hP : va_P D vwCl (wC cI cZ a q σ) H) (hD : va_D A (wC cI cZ a q σ)) (hS : va_S A s.heap H locs) {ls : Array Slot} (hl : lv_has ls 5 [(0, .ref (a 3)), (1, .int x1), (2, .int x2)]) : W p l e (rmK 3 66 0 0) s m args below meth c H locs 0 0 (RwQ below args s D A (fun q (σ : StC) => (wC cI cZ a q σ)) res 0 0) (F0 m 0 ls []) := by
  obtain ⟨hx, hb, hr, hml, hown, hts, hlk, hK⟩ := id C0
  unfold f_C_put at h
  refine lv_aload_n hx hb d_C_put_0 rfl (lv_at hl 0 rfl) ?_
  refine ro_V (n := 0) (ci := 1) (As := []) (rest := []) C0 (c_C_newest l D cI cZ a q σ rfl) wd_28 ⟨wd_29, wd_30, wd_31, wd_8⟩ (by decide +kernel) ⟨Nat.le_of_ble_eq_true rfl, Nat.le_of_ble_eq_true rfl⟩ hP rfl rfl rfl hl rfl rfl (Nat.le_of_ble_eq_true rfl) ⟨Nat.zero_le _, Nat.zero_le _⟩ d_C_put_1 ?_
  refine lv_istore_n (lv' := [(3, .int (f_C_newest σ)), (0, .ref (a 3)), (1, .int x1), (2, .int x2)]) hx hb d_C_put_4 rfl hl (by decide) rfl (fun ls hl => ?_)
  refine lv_aload_n hx hb d_C_put_5 rfl (lv_at hl 1 rfl) ?_
  refine lv_iload_n hx hb d_C_put_6 rfl (lv_at hl 2 rfl) ?_
  replace h := bd h
  obtain ⟨r1, g1, h⟩ := h
  refine ro_V (n := 1) (ci := 1) (As := [.int x1]) (rest := []) C0 (c_C_isFace l D cI cZ a q σ x1 g1) wd_32 ⟨wd_33, wd_34, wd_35, wd_8⟩ (by decide +kernel) ⟨Nat.le_of_ble_eq_true rfl, Nat.le_of_ble_eq_true rfl⟩ hP rfl rfl rfl hl rfl rfl (Nat.le_of_ble_eq_true rfl) ⟨Nat.zero_le _, Nat.zero_le _⟩ d_C_put_7 ?_
  try dsimp only at h
  refine lv_if_eq (tgt := 21) hx hb d_C_put_10 (by decide) (fun hc => ?_) (fun hc => ?_)
  · rw [if_pos hc] at h
    refine lv_iconst (v := 0) hx hb d_C_put_21 (by decide) ?_
    exact t_C_put_22 (a := a) C0 hA  h hP hD hS (lv_sub hl [1, 2, 3, 0] rfl)
  · rw [if_neg hc] at h
    refine lv_aload_n hx hb d_C_put_13 rfl (lv_at hl 1 rfl) ?_
    refine lv_iload_n hx hb d_C_put_14 rfl (lv_at hl 0 rfl) ?_
    replace h := bd h
    obtain ⟨r4, g4, h⟩ := h
    refine ro_V (n := 1) (ci := 1) (As := [.int (f_C_newest σ)]) (rest := []) C0 (c_C_countDirect l D cI cZ a q σ (f_C_newest σ) g4) wd_36 ⟨wd_37, wd_38, wd_39, wd_8⟩ (by decide +kernel) ⟨Nat.le_of_ble_eq_true rfl, Nat.le_of_ble_eq_true rfl⟩ hP rfl rfl rfl hl rfl rfl (Nat.le_of_ble_eq_true rfl) ⟨Nat.zero_le _, Nat.zero_le _⟩ d_C_put_15 ?_
    try dsimp only at h
    refine lv_goto (tgt := 22) hx hb d_C_put_18 (by decide) ?_
    exact t_C_put_22 (a := a) C0 hA  h hP hD hS (lv_sub hl [1, 2, 3, 0] rfl)
set_option maxHeartbeats 4000000 in
set_option maxRecDepth 100000 in
theorem c_C_put (l : Launch) (D : va_G) (cI cZ : ClassId) (a : Nat → Nat) (q : Nat) (σ : StC) (x1 : Int32) (x2 : Int32) {res : Int32 × StC} (h : f_C_put σ x1 x2 = some res) : RwM l y_C_put b_C_put 5 (some .int) 3 66 D [(cI, .int), (cZ, .boolean)] [.ref (a 3), .int x1, .int x2] (fun q (σ : StC) => (wC cI cZ a q σ)) q σ res :=
  rw_of (by decide) (Nat.le_of_ble_eq_true rfl) (fun p e s m args below meth c ls A C0 hA hP hD hS hl => t_C_put_0 (a := a) C0 hA h hP hD hS (lv_sub hl [0, 1, 2] rfl))
def f_C_count (σ : StC) : Int32 :=
  (C_count σ)
set_option maxHeartbeats 4000000 in
set_option maxRecDepth 100000 in
theorem t_C_count_0 {p : Program} {l : Launch} {e : Env} {s : State} {m : MethodId} {args : Array Value} {below : List Frame} {meth : Method} {c : Code} {D : va_G} {cI cZ : ClassId} {a : Nat → Nat} {q : Nat} {σ : StC} (C0 : Am p s m args meth c b_C_count (some .int) 1 R_C D [(cI, .int), (cZ, .boolean)]) (hP : va_P D vwCl (wC cI cZ a q σ) s.heap) {val : Int32}   (h : f_C_count σ = val) {ls : Array Slot} (hl : lv_has ls 1 [(0, .ref (a 3))]) : RoW p l e (rmK 0 0 0 0) s m args below meth c val (F0 m 0 ls []) := by
  obtain ⟨hx, hb, hr, hml, hown, hts, hlk, hK⟩ := id C0
  unfold f_C_count at h
  refine lv_aload_n hx hb d_C_count_0 rfl (lv_at hl 0 rfl) ?_
  refine va_get (ci := 1) (v := .int (C_count σ)) (C := R_C) (T := F_C) (N := 8) hx hb hts i_C hown hK.1 hP 0 rfl rfl 6 (by decide) (hts _ wd_3) (fun _ h9 => h9) rfl d_C_count_1 ?_
  exact ro_ret C0 h d_C_count_4
set_option maxHeartbeats 4000000 in
set_option maxRecDepth 100000 in
theorem c_C_count (l : Launch) (D : va_G) (cI cZ : ClassId) (a : Nat → Nat) (q : Nat) (σ : StC) {val : Int32} (h : f_C_count σ = val) : RoM l y_C_count b_C_count 1 (some .int) 0 0 D [(cI, .int), (cZ, .boolean)] [.ref (a 3)] (wC cI cZ a q σ) val :=
  ro_of (by decide) (Nat.le_of_ble_eq_true rfl) (fun p e s m args below meth c ls C0 hP hl => t_C_count_0 (a := a) C0 hP h (lv_sub hl [0] rfl))
def f_C_countGeneric (σ : StC) : Int32 :=
  (C_countGeneric σ)
set_option maxHeartbeats 4000000 in
set_option maxRecDepth 100000 in
theorem t_C_countGeneric_0 {p : Program} {l : Launch} {e : Env} {s : State} {m : MethodId} {args : Array Value} {below : List Frame} {meth : Method} {c : Code} {D : va_G} {cI cZ : ClassId} {a : Nat → Nat} {q : Nat} {σ : StC} (C0 : Am p s m args meth c b_C_countGeneric (some .int) 1 R_C D [(cI, .int), (cZ, .boolean)]) (hP : va_P D vwCl (wC cI cZ a q σ) s.heap) {val : Int32}   (h : f_C_countGeneric σ = val) {ls : Array Slot} (hl : lv_has ls 1 [(0, .ref (a 3))]) : RoW p l e (rmK 0 0 0 0) s m args below meth c val (F0 m 0 ls []) := by
  obtain ⟨hx, hb, hr, hml, hown, hts, hlk, hK⟩ := id C0
  unfold f_C_countGeneric at h
  refine lv_aload_n hx hb d_C_countGeneric_0 rfl (lv_at hl 0 rfl) ?_
  refine va_get (ci := 1) (v := .int (C_countGeneric σ)) (C := R_C) (T := F_C) (N := 8) hx hb hts i_C hown hK.1 hP 0 rfl rfl 7 (by decide) (hts _ wd_27) (fun _ h9 => h9) rfl d_C_countGeneric_1 ?_
  exact ro_ret C0 h d_C_countGeneric_4
set_option maxHeartbeats 4000000 in
set_option maxRecDepth 100000 in
theorem c_C_countGeneric (l : Launch) (D : va_G) (cI cZ : ClassId) (a : Nat → Nat) (q : Nat) (σ : StC) {val : Int32} (h : f_C_countGeneric σ = val) : RoM l y_C_countGeneric b_C_countGeneric 1 (some .int) 0 0 D [(cI, .int), (cZ, .boolean)] [.ref (a 3)] (wC cI cZ a q σ) val :=
  ro_of (by decide) (Nat.le_of_ble_eq_true rfl) (fun p e s m args below meth c ls C0 hP hl => t_C_countGeneric_0 (a := a) C0 hP h (lv_sub hl [0] rfl))
def f_C_directAt (σ : StC) (x1 x2 : Int32) : Option Int32 :=
  if (f_C_isThere σ x1) = 0 then
    some (-1)
  else
    if x2 < 0 then
      some (-1)
    else
      if x1 < 0 ∨ 30 ≤ x1.toNatClampNeg then none else
      if ((C_directCounts σ) x1.toNatClampNeg) ≤ x2 then
        some (-1)
      else
        if ((x1 * 30) + x2) < 0 ∨ 900 ≤ ((x1 * 30) + x2).toNatClampNeg then none else
        some ((C_directs σ) ((x1 * 30) + x2).toNatClampNeg)
set_option maxHeartbeats 4000000 in
set_option maxRecDepth 100000 in
theorem t_C_directAt_0 {p : Program} {l : Launch} {e : Env} {s : State} {m : MethodId} {args : Array Value} {below : List Frame} {meth : Method} {c : Code} {D : va_G} {cI cZ : ClassId} {a : Nat → Nat} {q : Nat} {σ : StC} (C0 : Am p s m args meth c b_C_directAt (some .int) 3 R_C D [(cI, .int), (cZ, .boolean)]) (hP : va_P D vwCl (wC cI cZ a q σ) s.heap) {val : Int32}   {x1 x2 : Int32} (h : f_C_directAt σ x1 x2 = some val) {ls : Array Slot} (hl : lv_has ls 3 [(0, .ref (a 3)), (1, .int x1), (2, .int x2)]) : RoW p l e (rmK 1 21 0 0) s m args below meth c val (F0 m 0 ls []) := by
  obtain ⟨hx, hb, hr, hml, hown, hts, hlk, hK⟩ := id C0
  unfold f_C_directAt at h
  refine lv_aload_n hx hb d_C_directAt_0 rfl (lv_at hl 0 rfl) ?_
  refine lv_iload_n hx hb d_C_directAt_1 rfl (lv_at hl 1 rfl) ?_
  refine ro_V (n := 1) (ci := 1) (As := [.int x1]) (rest := []) C0 (c_C_isThere l D cI cZ a q σ x1 rfl) wd_4 ⟨wd_5, wd_6, wd_7, wd_8⟩ (by decide +kernel) ⟨Nat.le_of_ble_eq_true rfl, Nat.le_of_ble_eq_true rfl⟩ hP rfl rfl rfl hl rfl rfl (Nat.le_of_ble_eq_true rfl) ⟨Nat.zero_le _, Nat.zero_le _⟩ d_C_directAt_2 ?_
  refine lv_if_eq (tgt := 36) hx hb d_C_directAt_5 (by decide) (fun hc => ?_) (fun hc => ?_)
  · rw [if_pos hc] at h
    refine lv_iconst (v := (-1)) hx hb d_C_directAt_36 (by decide) ?_
    exact ro_ret C0 (Option.some.inj h) d_C_directAt_37
  · rw [if_neg hc] at h
    refine lv_iload_n hx hb d_C_directAt_8 rfl (lv_at hl 2 rfl) ?_
    refine lv_if_lt (tgt := 36) hx hb d_C_directAt_9 (by decide) (fun hc => ?_) (fun hc => ?_)
    · rw [if_pos hc] at h
      refine lv_iconst (v := (-1)) hx hb d_C_directAt_36 (by decide) ?_
      exact ro_ret C0 (Option.some.inj h) d_C_directAt_37
    · rw [if_neg hc] at h
      refine lv_iload_n hx hb d_C_directAt_12 rfl (lv_at hl 2 rfl) ?_
      refine lv_aload_n hx hb d_C_directAt_13 rfl (lv_at hl 0 rfl) ?_
      refine va_get (ci := 1) (v := .ref (a 7)) (C := R_C) (T := F_C) (N := 8) hx hb hts i_C hown hK.1 hP 0 rfl rfl 3 (by decide) (hts _ wd_12) (fun _ h9 => h9) rfl d_C_directAt_14 ?_
      refine lv_iload_n hx hb d_C_directAt_17 rfl (lv_at hl 1 rfl) ?_
      replace h := gd h
      obtain ⟨hi, h⟩ := h
      refine va_iald hx hb hK.1 hP 4 0 rfl rfl hi d_C_directAt_18 ?_
      refine lv_icmp_ge (tgt := 36) hx hb d_C_directAt_19 (by decide) (fun hc => ?_) (fun hc => ?_)
      · rw [if_pos hc] at h
        refine lv_iconst (v := (-1)) hx hb d_C_directAt_36 (by decide) ?_
        exact ro_ret C0 (Option.some.inj h) d_C_directAt_37
      · rw [if_neg hc] at h
        refine lv_aload_n hx hb d_C_directAt_22 rfl (lv_at hl 0 rfl) ?_
        refine va_get (ci := 1) (v := .ref (a 8)) (C := R_C) (T := F_C) (N := 8) hx hb hts i_C hown hK.1 hP 0 rfl rfl 4 (by decide) (hts _ wd_10) (fun _ h9 => h9) rfl d_C_directAt_23 ?_
        refine lv_iload_n hx hb d_C_directAt_26 rfl (lv_at hl 1 rfl) ?_
        refine lv_bipush (v := 30) hx hb d_C_directAt_27 (by decide) ?_
        refine lv_imul hx hb d_C_directAt_29 ?_
        refine lv_iload_n hx hb d_C_directAt_30 rfl (lv_at hl 2 rfl) ?_
        refine lv_iadd hx hb d_C_directAt_31 ?_
        replace h := gd h
        obtain ⟨hi, h⟩ := h
        refine va_iald hx hb hK.1 hP 5 0 rfl rfl hi d_C_directAt_32 ?_
        refine lv_goto (tgt := 37) hx hb d_C_directAt_33 (by decide) ?_
        exact ro_ret C0 (Option.some.inj h) d_C_directAt_37
set_option maxHeartbeats 4000000 in
set_option maxRecDepth 100000 in
theorem c_C_directAt (l : Launch) (D : va_G) (cI cZ : ClassId) (a : Nat → Nat) (q : Nat) (σ : StC) (x1 : Int32) (x2 : Int32) {val : Int32} (h : f_C_directAt σ x1 x2 = some val) : RoM l y_C_directAt b_C_directAt 3 (some .int) 1 21 D [(cI, .int), (cZ, .boolean)] [.ref (a 3), .int x1, .int x2] (wC cI cZ a q σ) val :=
  ro_of (by decide) (Nat.le_of_ble_eq_true rfl) (fun p e s m args below meth c ls C0 hP hl => t_C_directAt_0 (a := a) C0 hP h (lv_sub hl [0, 1, 2] rfl))
def f_C_isDirectly_9_s (k9 : StC → Int32 → Int32 → Int32 → Int32 → Option Int32) (σ : StC) (x1 x2 x3 x4 : Int32) : Option Int32 :=
  if x3 ≤ x4 then
    some 0
  else
    (f_C_directAt σ x1 x4).bind fun r2 =>
    if r2 = x2 then
      some 1
    else
      k9 σ x1 x2 x3 (x4 + 1)
def f_C_isDirectly_9 : Nat → StC → Int32 → Int32 → Int32 → Int32 → Option Int32
  | 0, _, _, _, _, _ => none
  | n + 1, σ, x1, x2, x3, x4 => f_C_isDirectly_9_s (f_C_isDirectly_9 n) σ x1 x2 x3 x4
def f_C_isDirectly (σ : StC) (x1 x2 : Int32) : Option Int32 :=
  (f_C_countDirect σ x1).bind fun r1 =>
  f_C_isDirectly_9 1000 σ x1 x2 r1 0
set_option maxHeartbeats 4000000 in
set_option maxRecDepth 100000 in
theorem t_C_isDirectly_9_s {p : Program} {l : Launch} {e : Env} {s : State} {m : MethodId} {args : Array Value} {below : List Frame} {meth : Method} {c : Code} {D : va_G} {cI cZ : ClassId} {a : Nat → Nat} {q : Nat} {σ : StC} (C0 : Am p s m args meth c b_C_isDirectly (some .boolean) 5 R_C D [(cI, .int), (cZ, .boolean)]) (hP : va_P D vwCl (wC cI cZ a q σ) s.heap) {val : Int32} {k9 : StC → Int32 → Int32 → Int32 → Int32 → Option Int32}  (hk9 : ∀ (x1 x2 x3 x4 : Int32) (ls : Array Slot), k9 σ x1 x2 x3 x4 = some val → lv_has ls 5 [(0, .ref (a 3)), (1, .int x1), (2, .int x2), (3, .int x3), (4, .int x4)] → RoW p l e (rmK 2 43 0 0) s m args below meth c val (F0 m 9 ls [])) {x1 x2 x3 x4 : Int32} (h : f_C_isDirectly_9_s k9 σ x1 x2 x3 x4 = some val) {ls : Array Slot} (hl : lv_has ls 5 [(0, .ref (a 3)), (1, .int x1), (2, .int x2), (3, .int x3), (4, .int x4)]) : RoW p l e (rmK 2 43 0 0) s m args below meth c val (F0 m 9 ls []) := by
  obtain ⟨hx, hb, hr, hml, hown, hts, hlk, hK⟩ := id C0
  unfold f_C_isDirectly_9_s at h
  refine lv_iload hx hb d_C_isDirectly_9 (lv_at hl 4 rfl) ?_
  refine lv_iload_n hx hb d_C_isDirectly_11 rfl (lv_at hl 3 rfl) ?_
  refine lv_icmp_ge (tgt := 34) hx hb d_C_isDirectly_12 (by decide) (fun hc => ?_) (fun hc => ?_)
  · rw [if_pos hc] at h
    refine lv_iconst (v := 0) hx hb d_C_isDirectly_34 (by decide) ?_
    exact ro_retz C0 (by decide) (Option.some.inj h) d_C_isDirectly_35
  · rw [if_neg hc] at h
    refine lv_aload_n hx hb d_C_isDirectly_15 rfl (lv_at hl 0 rfl) ?_
    refine lv_iload_n hx hb d_C_isDirectly_16 rfl (lv_at hl 1 rfl) ?_
    refine lv_iload hx hb d_C_isDirectly_17 (lv_at hl 4 rfl) ?_
    replace h := bd h
    obtain ⟨r2, g2, h⟩ := h
    refine ro_V (n := 2) (ci := 1) (As := [.int x1, .int x4]) (rest := []) C0 (c_C_directAt l D cI cZ a q σ x1 x4 g2) wd_87 ⟨wd_88, wd_89, wd_90, wd_8⟩ (by decide +kernel) ⟨Nat.le_of_ble_eq_true rfl, Nat.le_of_ble_eq_true rfl⟩ hP rfl rfl rfl hl rfl rfl (Nat.le_of_ble_eq_true rfl) ⟨Nat.zero_le _, Nat.zero_le _⟩ d_C_isDirectly_19 ?_
    try dsimp only at h
    refine lv_iload_n hx hb d_C_isDirectly_22 rfl (lv_at hl 2 rfl) ?_
    refine lv_icmp_ne (tgt := 28) hx hb d_C_isDirectly_23 (by decide) (fun hc => ?_) (fun hc => ?_)
    · rw [if_neg hc] at h
      refine lv_iinc (v := (x4 + 1)) (lv' := [(4, .int (x4 + 1)), (0, .ref (a 3)), (1, .int x1), (2, .int x2), (3, .int x3)]) hx hb d_C_isDirectly_28 hl (k := 4) rfl rfl (by decide) rfl (fun ls hl => ?_)
      refine lv_goto (tgt := 9) hx hb d_C_isDirectly_31 (by decide) ?_
      exact hk9 _ _ _ _ _ h (lv_sub hl [1, 2, 3, 4, 0] rfl)
    · rw [if_pos hc] at h
      refine lv_iconst (v := 1) hx hb d_C_isDirectly_26 (by decide) ?_
      exact ro_retz C0 (by decide) (Option.some.inj h) d_C_isDirectly_27
set_option maxHeartbeats 4000000 in
set_option maxRecDepth 100000 in
theorem t_C_isDirectly_9 {p : Program} {l : Launch} {e : Env} {s : State} {m : MethodId} {args : Array Value} {below : List Frame} {meth : Method} {c : Code} {D : va_G} {cI cZ : ClassId} {a : Nat → Nat} {q : Nat} {σ : StC} (C0 : Am p s m args meth c b_C_isDirectly (some .boolean) 5 R_C D [(cI, .int), (cZ, .boolean)]) (hP : va_P D vwCl (wC cI cZ a q σ) s.heap) {val : Int32}  {n : Nat} {x1 x2 x3 x4 : Int32} (h : f_C_isDirectly_9  n σ x1 x2 x3 x4 = some val) {ls : Array Slot} (hl : lv_has ls 5 [(0, .ref (a 3)), (1, .int x1), (2, .int x2), (3, .int x3), (4, .int x4)]) : RoW p l e (rmK 2 43 0 0) s m args below meth c val (F0 m 9 ls []) := by
  induction n generalizing x1 x2 x3 x4 ls with
  | zero => cases h
  | succ n ih => exact t_C_isDirectly_9_s (a := a) C0 hP  (fun _ _ _ _ _ h hl => ih h hl) h hl
set_option maxHeartbeats 4000000 in
set_option maxRecDepth 100000 in
theorem t_C_isDirectly_0 {p : Program} {l : Launch} {e : Env} {s : State} {m : MethodId} {args : Array Value} {below : List Frame} {meth : Method} {c : Code} {D : va_G} {cI cZ : ClassId} {a : Nat → Nat} {q : Nat} {σ : StC} (C0 : Am p s m args meth c b_C_isDirectly (some .boolean) 5 R_C D [(cI, .int), (cZ, .boolean)]) (hP : va_P D vwCl (wC cI cZ a q σ) s.heap) {val : Int32}   {x1 x2 : Int32} (h : f_C_isDirectly σ x1 x2 = some val) {ls : Array Slot} (hl : lv_has ls 5 [(0, .ref (a 3)), (1, .int x1), (2, .int x2)]) : RoW p l e (rmK 2 43 0 0) s m args below meth c val (F0 m 0 ls []) := by
  obtain ⟨hx, hb, hr, hml, hown, hts, hlk, hK⟩ := id C0
  unfold f_C_isDirectly at h
  refine lv_aload_n hx hb d_C_isDirectly_0 rfl (lv_at hl 0 rfl) ?_
  refine lv_iload_n hx hb d_C_isDirectly_1 rfl (lv_at hl 1 rfl) ?_
  replace h := bd h
  obtain ⟨r1, g1, h⟩ := h
  refine ro_V (n := 1) (ci := 1) (As := [.int x1]) (rest := []) C0 (c_C_countDirect l D cI cZ a q σ x1 g1) wd_36 ⟨wd_37, wd_38, wd_39, wd_8⟩ (by decide +kernel) ⟨Nat.le_of_ble_eq_true rfl, Nat.le_of_ble_eq_true rfl⟩ hP rfl rfl rfl hl rfl rfl (Nat.le_of_ble_eq_true rfl) ⟨Nat.zero_le _, Nat.zero_le _⟩ d_C_isDirectly_2 ?_
  try dsimp only at h
  refine lv_istore_n (lv' := [(3, .int r1), (0, .ref (a 3)), (1, .int x1), (2, .int x2)]) hx hb d_C_isDirectly_5 rfl hl (by decide) rfl (fun ls hl => ?_)
  refine lv_iconst (v := 0) hx hb d_C_isDirectly_6 (by decide) ?_
  refine lv_istore (lv' := [(4, .int 0), (3, .int r1), (0, .ref (a 3)), (1, .int x1), (2, .int x2)]) hx hb d_C_isDirectly_7 hl (by decide) rfl (fun ls hl => ?_)
  exact t_C_isDirectly_9 (a := a) C0 hP  h (lv_sub hl [2, 3, 4, 1, 0] rfl)
set_option maxHeartbeats 4000000 in
set_option maxRecDepth 100000 in
theorem c_C_isDirectly (l : Launch) (D : va_G) (cI cZ : ClassId) (a : Nat → Nat) (q : Nat) (σ : StC) (x1 : Int32) (x2 : Int32) {val : Int32} (h : f_C_isDirectly σ x1 x2 = some val) : RoM l y_C_isDirectly b_C_isDirectly 5 (some .boolean) 2 43 D [(cI, .int), (cZ, .boolean)] [.ref (a 3), .int x1, .int x2] (wC cI cZ a q σ) val :=
  ro_of (by decide) (Nat.le_of_ble_eq_true rfl) (fun p e s m args below meth c ls C0 hP hl => t_C_isDirectly_0 (a := a) C0 hP h (lv_sub hl [0, 1, 2] rfl))
def f_C_mayGet_55 (σ : StC) (x1 x2 : Int32) : Option Int32 :=
  (f_C_isDirectly σ x2 x1).bind fun r2 =>
  if r2 = 0 then
    some 1
  else
    some 0
def f_C_mayGet_31 (σ : StC) (x1 x2 t0 : Int32) : Option Int32 :=
  if t0 = 0 then
    f_C_mayGet_55 σ x1 x2
  else
    (f_C_isFace σ x2).bind fun r3 =>
    if r3 = 0 then
      (f_C_directAt σ x2 0).bind fun r4 =>
      if r4 = 0 then
        f_C_mayGet_55 σ x1 x2
      else
        some 0
    else
      some 0
def f_C_mayGet (σ : StC) (x1 : Int32) : Option Int32 :=
  if (f_C_newest σ) < 13 then
    some 0
  else
    if x1 = (f_C_newest σ) then
      some 0
    else
      (f_C_isFace σ x1).bind fun r1 =>
      if r1 = 0 then
        f_C_mayGet_31 σ x1 (f_C_newest σ) 1
      else
        f_C_mayGet_31 σ x1 (f_C_newest σ) 0
set_option maxHeartbeats 4000000 in
set_option maxRecDepth 100000 in
theorem t_C_mayGet_55 {p : Program} {l : Launch} {e : Env} {s : State} {m : MethodId} {args : Array Value} {below : List Frame} {meth : Method} {c : Code} {D : va_G} {cI cZ : ClassId} {a : Nat → Nat} {q : Nat} {σ : StC} (C0 : Am p s m args meth c b_C_mayGet (some .boolean) 4 R_C D [(cI, .int), (cZ, .boolean)]) (hP : va_P D vwCl (wC cI cZ a q σ) s.heap) {val : Int32}   {x1 x2 : Int32} (h : f_C_mayGet_55 σ x1 x2 = some val) {ls : Array Slot} (hl : lv_has ls 4 [(0, .ref (a 3)), (1, .int x1), (2, .int x2)]) : RoW p l e (rmK 3 67 0 0) s m args below meth c val (F0 m 55 ls []) := by
  obtain ⟨hx, hb, hr, hml, hown, hts, hlk, hK⟩ := id C0
  unfold f_C_mayGet_55 at h
  refine lv_aload_n hx hb d_C_mayGet_55 rfl (lv_at hl 0 rfl) ?_
  refine lv_iload_n hx hb d_C_mayGet_56 rfl (lv_at hl 2 rfl) ?_
  refine lv_iload_n hx hb d_C_mayGet_57 rfl (lv_at hl 1 rfl) ?_
  replace h := bd h
  obtain ⟨r2, g2, h⟩ := h
  refine ro_V (n := 2) (ci := 1) (As := [.int x2, .int x1]) (rest := []) C0 (c_C_isDirectly l D cI cZ a q σ x2 x1 g2) wd_91 ⟨wd_92, wd_93, wd_94, wd_8⟩ (by decide +kernel) ⟨Nat.le_of_ble_eq_true rfl, Nat.le_of_ble_eq_true rfl⟩ hP rfl rfl rfl hl rfl rfl (Nat.le_of_ble_eq_true rfl) ⟨Nat.zero_le _, Nat.zero_le _⟩ d_C_mayGet_58 ?_
  try dsimp only at h
  refine lv_if_ne (tgt := 68) hx hb d_C_mayGet_61 (by decide) (fun hc => ?_) (fun hc => ?_)
  · rw [if_neg hc] at h
    refine lv_iconst (v := 0) hx hb d_C_mayGet_68 (by decide) ?_
    exact ro_retz C0 (by decide) (Option.some.inj h) d_C_mayGet_69
  · rw [if_pos hc] at h
    refine lv_iconst (v := 1) hx hb d_C_mayGet_64 (by decide) ?_
    refine lv_goto (tgt := 69) hx hb d_C_mayGet_65 (by decide) ?_
    exact ro_retz C0 (by decide) (Option.some.inj h) d_C_mayGet_69
set_option maxHeartbeats 4000000 in
set_option maxRecDepth 100000 in
theorem t_C_mayGet_31 {p : Program} {l : Launch} {e : Env} {s : State} {m : MethodId} {args : Array Value} {below : List Frame} {meth : Method} {c : Code} {D : va_G} {cI cZ : ClassId} {a : Nat → Nat} {q : Nat} {σ : StC} (C0 : Am p s m args meth c b_C_mayGet (some .boolean) 4 R_C D [(cI, .int), (cZ, .boolean)]) (hP : va_P D vwCl (wC cI cZ a q σ) s.heap) {val : Int32}   {x1 x2 t0 : Int32} (h : f_C_mayGet_31 σ x1 x2 t0 = some val) {ls : Array Slot} (hl : lv_has ls 4 [(0, .ref (a 3)), (1, .int x1), (2, .int x2)]) : RoW p l e (rmK 3 67 0 0) s m args below meth c val (F0 m 31 ls [.int t0]) := by
  obtain ⟨hx, hb, hr, hml, hown, hts, hlk, hK⟩ := id C0
  unfold f_C_mayGet_31 at h
  refine lv_istore_n (lv' := [(3, .int t0), (0, .ref (a 3)), (1, .int x1), (2, .int x2)]) hx hb d_C_mayGet_31 rfl hl (by decide) rfl (fun ls hl => ?_)
  refine lv_iload_n hx hb d_C_mayGet_32 rfl (lv_at hl 0 rfl) ?_
  refine lv_if_eq (tgt := 55) hx hb d_C_mayGet_33 (by decide) (fun hc => ?_) (fun hc => ?_)
  · rw [if_pos hc] at h
    exact t_C_mayGet_55 (a := a) C0 hP  h (lv_sub hl [1, 2, 3] rfl)
  · rw [if_neg hc] at h
    refine lv_aload_n hx hb d_C_mayGet_36 rfl (lv_at hl 1 rfl) ?_
    refine lv_iload_n hx hb d_C_mayGet_37 rfl (lv_at hl 3 rfl) ?_
    replace h := bd h
    obtain ⟨r3, g3, h⟩ := h
    refine ro_V (n := 1) (ci := 1) (As := [.int x2]) (rest := []) C0 (c_C_isFace l D cI cZ a q σ x2 g3) wd_32 ⟨wd_33, wd_34, wd_35, wd_8⟩ (by decide +kernel) ⟨Nat.le_of_ble_eq_true rfl, Nat.le_of_ble_eq_true rfl⟩ hP rfl rfl rfl hl rfl rfl (Nat.le_of_ble_eq_true rfl) ⟨Nat.zero_le _, Nat.zero_le _⟩ d_C_mayGet_38 ?_
    try dsimp only at h
    refine lv_if_ne (tgt := 53) hx hb d_C_mayGet_41 (by decide) (fun hc => ?_) (fun hc => ?_)
    · rw [if_neg hc] at h
      refine lv_iconst (v := 0) hx hb d_C_mayGet_53 (by decide) ?_
      exact ro_retz C0 (by decide) (Option.some.inj h) d_C_mayGet_54
    · rw [if_pos hc] at h
      refine lv_aload_n hx hb d_C_mayGet_44 rfl (lv_at hl 1 rfl) ?_
      refine lv_iload_n hx hb d_C_mayGet_45 rfl (lv_at hl 3 rfl) ?_
      refine lv_iconst (v := 0) hx hb d_C_mayGet_46 (by decide) ?_
      replace h := bd h
      obtain ⟨r4, g4, h⟩ := h
      refine ro_V (n := 2) (ci := 1) (As := [.int x2, .int 0]) (rest := []) C0 (c_C_directAt l D cI cZ a q σ x2 0 g4) wd_87 ⟨wd_88, wd_89, wd_90, wd_8⟩ (by decide +kernel) ⟨Nat.le_of_ble_eq_true rfl, Nat.le_of_ble_eq_true rfl⟩ hP rfl rfl rfl hl rfl rfl (Nat.le_of_ble_eq_true rfl) ⟨Nat.zero_le _, Nat.zero_le _⟩ d_C_mayGet_47 ?_
      try dsimp only at h
      refine lv_if_eq (tgt := 55) hx hb d_C_mayGet_50 (by decide) (fun hc => ?_) (fun hc => ?_)
      · rw [if_pos hc] at h
        exact t_C_mayGet_55 (a := a) C0 hP  h (lv_sub hl [1, 2, 3] rfl)
      · rw [if_neg hc] at h
        refine lv_iconst (v := 0) hx hb d_C_mayGet_53 (by decide) ?_
        exact ro_retz C0 (by decide) (Option.some.inj h) d_C_mayGet_54
set_option maxHeartbeats 4000000 in
set_option maxRecDepth 100000 in
theorem t_C_mayGet_0 {p : Program} {l : Launch} {e : Env} {s : State} {m : MethodId} {args : Array Value} {below : List Frame} {meth : Method} {c : Code} {D : va_G} {cI cZ : ClassId} {a : Nat → Nat} {q : Nat} {σ : StC} (C0 : Am p s m args meth c b_C_mayGet (some .boolean) 4 R_C D [(cI, .int), (cZ, .boolean)]) (hP : va_P D vwCl (wC cI cZ a q σ) s.heap) {val : Int32}   {x1 : Int32} (h : f_C_mayGet σ x1 = some val) {ls : Array Slot} (hl : lv_has ls 4 [(0, .ref (a 3)), (1, .int x1)]) : RoW p l e (rmK 3 67 0 0) s m args below meth c val (F0 m 0 ls []) := by
  obtain ⟨hx, hb, hr, hml, hown, hts, hlk, hK⟩ := id C0
  unfold f_C_mayGet at h
  refine lv_aload_n hx hb d_C_mayGet_0 rfl (lv_at hl 0 rfl) ?_
  refine ro_V (n := 0) (ci := 1) (As := []) (rest := []) C0 (c_C_newest l D cI cZ a q σ rfl) wd_28 ⟨wd_29, wd_30, wd_31, wd_8⟩ (by decide +kernel) ⟨Nat.le_of_ble_eq_true rfl, Nat.le_of_ble_eq_true rfl⟩ hP rfl rfl rfl hl rfl rfl (Nat.le_of_ble_eq_true rfl) ⟨Nat.zero_le _, Nat.zero_le _⟩ d_C_mayGet_1 ?_
  refine lv_istore_n (lv' := [(2, .int (f_C_newest σ)), (0, .ref (a 3)), (1, .int x1)]) hx hb d_C_mayGet_4 rfl hl (by decide) rfl (fun ls hl => ?_)
  refine lv_iload_n hx hb d_C_mayGet_5 rfl (lv_at hl 0 rfl) ?_
  refine lv_bipush (v := 13) hx hb d_C_mayGet_6 (by decide) ?_
  refine lv_icmp_lt (tgt := 16) hx hb d_C_mayGet_8 (by decide) (fun hc => ?_) (fun hc => ?_)
  · rw [if_pos hc] at h
    refine lv_iconst (v := 0) hx hb d_C_mayGet_16 (by decide) ?_
    exact ro_retz C0 (by decide) (Option.some.inj h) d_C_mayGet_17
  · rw [if_neg hc] at h
    refine lv_iload_n hx hb d_C_mayGet_11 rfl (lv_at hl 2 rfl) ?_
    refine lv_iload_n hx hb d_C_mayGet_12 rfl (lv_at hl 0 rfl) ?_
    refine lv_icmp_ne (tgt := 18) hx hb d_C_mayGet_13 (by decide) (fun hc => ?_) (fun hc => ?_)
    · rw [if_neg hc] at h
      refine lv_aload_n hx hb d_C_mayGet_18 rfl (lv_at hl 1 rfl) ?_
      refine lv_iload_n hx hb d_C_mayGet_19 rfl (lv_at hl 2 rfl) ?_
      replace h := bd h
      obtain ⟨r1, g1, h⟩ := h
      refine ro_V (n := 1) (ci := 1) (As := [.int x1]) (rest := []) C0 (c_C_isFace l D cI cZ a q σ x1 g1) wd_32 ⟨wd_33, wd_34, wd_35, wd_8⟩ (by decide +kernel) ⟨Nat.le_of_ble_eq_true rfl, Nat.le_of_ble_eq_true rfl⟩ hP rfl rfl rfl hl rfl rfl (Nat.le_of_ble_eq_true rfl) ⟨Nat.zero_le _, Nat.zero_le _⟩ d_C_mayGet_20 ?_
      try dsimp only at h
      refine lv_if_ne (tgt := 30) hx hb d_C_mayGet_23 (by decide) (fun hc => ?_) (fun hc => ?_)
      · rw [if_neg hc] at h
        refine lv_iconst (v := 0) hx hb d_C_mayGet_30 (by decide) ?_
        exact t_C_mayGet_31 (a := a) C0 hP  h (lv_sub hl [1, 2, 0] rfl)
      · rw [if_pos hc] at h
        refine lv_iconst (v := 1) hx hb d_C_mayGet_26 (by decide) ?_
        refine lv_goto (tgt := 31) hx hb d_C_mayGet_27 (by decide) ?_
        exact t_C_mayGet_31 (a := a) C0 hP  h (lv_sub hl [1, 2, 0] rfl)
    · rw [if_pos hc] at h
      refine lv_iconst (v := 0) hx hb d_C_mayGet_16 (by decide) ?_
      exact ro_retz C0 (by decide) (Option.some.inj h) d_C_mayGet_17
set_option maxHeartbeats 4000000 in
set_option maxRecDepth 100000 in
theorem c_C_mayGet (l : Launch) (D : va_G) (cI cZ : ClassId) (a : Nat → Nat) (q : Nat) (σ : StC) (x1 : Int32) {val : Int32} (h : f_C_mayGet σ x1 = some val) : RoM l y_C_mayGet b_C_mayGet 4 (some .boolean) 3 67 D [(cI, .int), (cZ, .boolean)] [.ref (a 3), .int x1] (wC cI cZ a q σ) val :=
  ro_of (by decide) (Nat.le_of_ble_eq_true rfl) (fun p e s m args below meth c ls C0 hP hl => t_C_mayGet_0 (a := a) C0 hP h (lv_sub hl [0, 1] rfl))
def f_C_isGeneric (σ : StC) (x1 : Int32) : Option Int32 :=
  if (f_C_isThere σ x1) = 0 then
    some 0
  else
    if x1 < 0 ∨ 30 ≤ x1.toNatClampNeg then none else
    if ((C_generics σ) x1.toNatClampNeg) = 0 then
      some 0
    else
      some 1
set_option maxHeartbeats 4000000 in
set_option maxRecDepth 100000 in
theorem t_C_isGeneric_0 {p : Program} {l : Launch} {e : Env} {s : State} {m : MethodId} {args : Array Value} {below : List Frame} {meth : Method} {c : Code} {D : va_G} {cI cZ : ClassId} {a : Nat → Nat} {q : Nat} {σ : StC} (C0 : Am p s m args meth c b_C_isGeneric (some .boolean) 2 R_C D [(cI, .int), (cZ, .boolean)]) (hP : va_P D vwCl (wC cI cZ a q σ) s.heap) {val : Int32}   {x1 : Int32} (h : f_C_isGeneric σ x1 = some val) {ls : Array Slot} (hl : lv_has ls 2 [(0, .ref (a 3)), (1, .int x1)]) : RoW p l e (rmK 1 21 0 0) s m args below meth c val (F0 m 0 ls []) := by
  obtain ⟨hx, hb, hr, hml, hown, hts, hlk, hK⟩ := id C0
  unfold f_C_isGeneric at h
  refine lv_aload_n hx hb d_C_isGeneric_0 rfl (lv_at hl 0 rfl) ?_
  refine lv_iload_n hx hb d_C_isGeneric_1 rfl (lv_at hl 1 rfl) ?_
  refine ro_V (n := 1) (ci := 1) (As := [.int x1]) (rest := []) C0 (c_C_isThere l D cI cZ a q σ x1 rfl) wd_4 ⟨wd_5, wd_6, wd_7, wd_8⟩ (by decide +kernel) ⟨Nat.le_of_ble_eq_true rfl, Nat.le_of_ble_eq_true rfl⟩ hP rfl rfl rfl hl rfl rfl (Nat.le_of_ble_eq_true rfl) ⟨Nat.zero_le _, Nat.zero_le _⟩ d_C_isGeneric_2 ?_
  refine lv_if_eq (tgt := 21) hx hb d_C_isGeneric_5 (by decide) (fun hc => ?_) (fun hc => ?_)
  · rw [if_pos hc] at h
    refine lv_iconst (v := 0) hx hb d_C_isGeneric_21 (by decide) ?_
    exact ro_retz C0 (by decide) (Option.some.inj h) d_C_isGeneric_22
  · rw [if_neg hc] at h
    refine lv_aload_n hx hb d_C_isGeneric_8 rfl (lv_at hl 0 rfl) ?_
    refine va_get (ci := 1) (v := .ref (a 5)) (C := R_C) (T := F_C) (N := 8) hx hb hts i_C hown hK.1 hP 0 rfl rfl 1 (by decide) (hts _ wd_22) (fun _ h9 => h9) rfl d_C_isGeneric_9 ?_
    refine lv_iload_n hx hb d_C_isGeneric_12 rfl (lv_at hl 1 rfl) ?_
    replace h := gd h
    obtain ⟨hi, h⟩ := h
    refine va_zald hx hb hK.1 hP 2 1 rfl rfl hi d_C_isGeneric_13 ?_
    refine lv_if_eq (tgt := 21) hx hb d_C_isGeneric_14 (by decide) (fun hc => ?_) (fun hc => ?_)
    · rw [if_pos hc] at h
      refine lv_iconst (v := 0) hx hb d_C_isGeneric_21 (by decide) ?_
      exact ro_retz C0 (by decide) (Option.some.inj h) d_C_isGeneric_22
    · rw [if_neg hc] at h
      refine lv_iconst (v := 1) hx hb d_C_isGeneric_17 (by decide) ?_
      refine lv_goto (tgt := 22) hx hb d_C_isGeneric_18 (by decide) ?_
      exact ro_retz C0 (by decide) (Option.some.inj h) d_C_isGeneric_22
set_option maxHeartbeats 4000000 in
set_option maxRecDepth 100000 in
theorem c_C_isGeneric (l : Launch) (D : va_G) (cI cZ : ClassId) (a : Nat → Nat) (q : Nat) (σ : StC) (x1 : Int32) {val : Int32} (h : f_C_isGeneric σ x1 = some val) : RoM l y_C_isGeneric b_C_isGeneric 2 (some .boolean) 1 21 D [(cI, .int), (cZ, .boolean)] [.ref (a 3), .int x1] (wC cI cZ a q σ) val :=
  ro_of (by decide) (Nat.le_of_ble_eq_true rfl) (fun p e s m args below meth c ls C0 hP hl => t_C_isGeneric_0 (a := a) C0 hP h (lv_sub hl [0, 1] rfl))
def f_C_aboveOf (σ : StC) (x1 : Int32) : Option Int32 :=
  if (f_C_isThere σ x1) = 0 then
    some 0
  else
    if x1 < 0 ∨ 30 ≤ x1.toNatClampNeg then none else
    some ((C_above σ) x1.toNatClampNeg)
set_option maxHeartbeats 4000000 in
set_option maxRecDepth 100000 in
theorem t_C_aboveOf_0 {p : Program} {l : Launch} {e : Env} {s : State} {m : MethodId} {args : Array Value} {below : List Frame} {meth : Method} {c : Code} {D : va_G} {cI cZ : ClassId} {a : Nat → Nat} {q : Nat} {σ : StC} (C0 : Am p s m args meth c b_C_aboveOf (some .int) 2 R_C D [(cI, .int), (cZ, .boolean)]) (hP : va_P D vwCl (wC cI cZ a q σ) s.heap) {val : Int32}   {x1 : Int32} (h : f_C_aboveOf σ x1 = some val) {ls : Array Slot} (hl : lv_has ls 2 [(0, .ref (a 3)), (1, .int x1)]) : RoW p l e (rmK 1 21 0 0) s m args below meth c val (F0 m 0 ls []) := by
  obtain ⟨hx, hb, hr, hml, hown, hts, hlk, hK⟩ := id C0
  unfold f_C_aboveOf at h
  refine lv_aload_n hx hb d_C_aboveOf_0 rfl (lv_at hl 0 rfl) ?_
  refine lv_iload_n hx hb d_C_aboveOf_1 rfl (lv_at hl 1 rfl) ?_
  refine ro_V (n := 1) (ci := 1) (As := [.int x1]) (rest := []) C0 (c_C_isThere l D cI cZ a q σ x1 rfl) wd_4 ⟨wd_5, wd_6, wd_7, wd_8⟩ (by decide +kernel) ⟨Nat.le_of_ble_eq_true rfl, Nat.le_of_ble_eq_true rfl⟩ hP rfl rfl rfl hl rfl rfl (Nat.le_of_ble_eq_true rfl) ⟨Nat.zero_le _, Nat.zero_le _⟩ d_C_aboveOf_2 ?_
  refine lv_if_eq (tgt := 17) hx hb d_C_aboveOf_5 (by decide) (fun hc => ?_) (fun hc => ?_)
  · rw [if_pos hc] at h
    refine lv_iconst (v := 0) hx hb d_C_aboveOf_17 (by decide) ?_
    exact ro_ret C0 (Option.some.inj h) d_C_aboveOf_18
  · rw [if_neg hc] at h
    refine lv_aload_n hx hb d_C_aboveOf_8 rfl (lv_at hl 0 rfl) ?_
    refine va_get (ci := 1) (v := .ref (a 6)) (C := R_C) (T := F_C) (N := 8) hx hb hts i_C hown hK.1 hP 0 rfl rfl 2 (by decide) (hts _ wd_9) (fun _ h9 => h9) rfl d_C_aboveOf_9 ?_
    refine lv_iload_n hx hb d_C_aboveOf_12 rfl (lv_at hl 1 rfl) ?_
    replace h := gd h
    obtain ⟨hi, h⟩ := h
    refine va_iald hx hb hK.1 hP 3 0 rfl rfl hi d_C_aboveOf_13 ?_
    refine lv_goto (tgt := 18) hx hb d_C_aboveOf_14 (by decide) ?_
    exact ro_ret C0 (Option.some.inj h) d_C_aboveOf_18
set_option maxHeartbeats 4000000 in
set_option maxRecDepth 100000 in
theorem c_C_aboveOf (l : Launch) (D : va_G) (cI cZ : ClassId) (a : Nat → Nat) (q : Nat) (σ : StC) (x1 : Int32) {val : Int32} (h : f_C_aboveOf σ x1 = some val) : RoM l y_C_aboveOf b_C_aboveOf 2 (some .int) 1 21 D [(cI, .int), (cZ, .boolean)] [.ref (a 3), .int x1] (wC cI cZ a q σ) val :=
  ro_of (by decide) (Nat.le_of_ble_eq_true rfl) (fun p e s m args below meth c ls C0 hP hl => t_C_aboveOf_0 (a := a) C0 hP h (lv_sub hl [0, 1] rfl))
def f_C_firstToward_12_s (k12 : StC → Int32 → Int32 → Int32 → Option Int32) (σ : StC) (x1 x2 x3 : Int32) : Option Int32 :=
  if x1 < 0 ∨ 30 ≤ x1.toNatClampNeg then none else
  if ((C_directCounts σ) x1.toNatClampNeg) ≤ x3 then
    some (-1)
  else
    if ((x1 * 30) + x3) < 0 ∨ 900 ≤ ((x1 * 30) + x3).toNatClampNeg then none else
    if ((C_directs σ) ((x1 * 30) + x3).toNatClampNeg) = x2 then
      some x3
    else
      if (f_C_isThere σ ((C_directs σ) ((x1 * 30) + x3).toNatClampNeg)) = 0 then
        k12 σ x1 x2 (x3 + 1)
      else
        if ((C_directs σ) ((x1 * 30) + x3).toNatClampNeg) < 0 ∨ 30 ≤ ((C_directs σ) ((x1 * 30) + x3).toNatClampNeg).toNatClampNeg then none else
        if (f_L_has ((C_above σ) ((C_directs σ) ((x1 * 30) + x3).toNatClampNeg).toNatClampNeg) x2) = 0 then
          k12 σ x1 x2 (x3 + 1)
        else
          some x3
def f_C_firstToward_12 : Nat → StC → Int32 → Int32 → Int32 → Option Int32
  | 0, _, _, _, _ => none
  | n + 1, σ, x1, x2, x3 => f_C_firstToward_12_s (f_C_firstToward_12 n) σ x1 x2 x3
def f_C_firstToward (σ : StC) (x1 x2 : Int32) : Option Int32 :=
  if (f_C_isThere σ x1) = 0 then
    some (-1)
  else
    f_C_firstToward_12 1000 σ x1 x2 0
set_option maxHeartbeats 4000000 in
set_option maxRecDepth 100000 in
theorem t_C_firstToward_12_s {p : Program} {l : Launch} {e : Env} {s : State} {m : MethodId} {args : Array Value} {below : List Frame} {meth : Method} {c : Code} {D : va_G} {cI cZ : ClassId} {a : Nat → Nat} {q : Nat} {σ : StC} (C0 : Am p s m args meth c b_C_firstToward (some .int) 5 R_C D [(cI, .int), (cZ, .boolean)]) (hP : va_P D vwCl (wC cI cZ a q σ) s.heap) {val : Int32} {k12 : StC → Int32 → Int32 → Int32 → Option Int32}  (hk12 : ∀ (x1 x2 x3 : Int32) (ls : Array Slot), k12 σ x1 x2 x3 = some val → lv_has ls 5 [(0, .ref (a 3)), (1, .int x1), (2, .int x2), (3, .int x3)] → RoW p l e (rmK 1 21 0 0) s m args below meth c val (F0 m 12 ls [])) {x1 x2 x3 : Int32} (h : f_C_firstToward_12_s k12 σ x1 x2 x3 = some val) {ls : Array Slot} (hl : lv_has ls 5 [(0, .ref (a 3)), (1, .int x1), (2, .int x2), (3, .int x3)]) : RoW p l e (rmK 1 21 0 0) s m args below meth c val (F0 m 12 ls []) := by
  obtain ⟨hx, hb, hr, hml, hown, hts, hlk, hK⟩ := id C0
  unfold f_C_firstToward_12_s at h
  refine lv_iload_n hx hb d_C_firstToward_12 rfl (lv_at hl 3 rfl) ?_
  refine lv_aload_n hx hb d_C_firstToward_13 rfl (lv_at hl 0 rfl) ?_
  refine va_get (ci := 1) (v := .ref (a 7)) (C := R_C) (T := F_C) (N := 8) hx hb hts i_C hown hK.1 hP 0 rfl rfl 3 (by decide) (hts _ wd_12) (fun _ h9 => h9) rfl d_C_firstToward_14 ?_
  refine lv_iload_n hx hb d_C_firstToward_17 rfl (lv_at hl 1 rfl) ?_
  replace h := gd h
  obtain ⟨hi, h⟩ := h
  refine va_iald hx hb hK.1 hP 4 0 rfl rfl hi d_C_firstToward_18 ?_
  refine lv_icmp_ge (tgt := 72) hx hb d_C_firstToward_19 (by decide) (fun hc => ?_) (fun hc => ?_)
  · rw [if_pos hc] at h
    refine lv_iconst (v := (-1)) hx hb d_C_firstToward_72 (by decide) ?_
    exact ro_ret C0 (Option.some.inj h) d_C_firstToward_73
  · rw [if_neg hc] at h
    refine lv_aload_n hx hb d_C_firstToward_22 rfl (lv_at hl 0 rfl) ?_
    refine va_get (ci := 1) (v := .ref (a 8)) (C := R_C) (T := F_C) (N := 8) hx hb hts i_C hown hK.1 hP 0 rfl rfl 4 (by decide) (hts _ wd_10) (fun _ h9 => h9) rfl d_C_firstToward_23 ?_
    refine lv_iload_n hx hb d_C_firstToward_26 rfl (lv_at hl 1 rfl) ?_
    refine lv_bipush (v := 30) hx hb d_C_firstToward_27 (by decide) ?_
    refine lv_imul hx hb d_C_firstToward_29 ?_
    refine lv_iload_n hx hb d_C_firstToward_30 rfl (lv_at hl 3 rfl) ?_
    refine lv_iadd hx hb d_C_firstToward_31 ?_
    replace h := gd h
    obtain ⟨hi, h⟩ := h
    refine va_iald hx hb hK.1 hP 5 0 rfl rfl hi d_C_firstToward_32 ?_
    refine lv_istore (lv' := [(4, .int ((C_directs σ) ((x1 * 30) + x3).toNatClampNeg)), (0, .ref (a 3)), (1, .int x1), (2, .int x2), (3, .int x3)]) hx hb d_C_firstToward_33 hl (by decide) rfl (fun ls hl => ?_)
    refine lv_iload hx hb d_C_firstToward_35 (lv_at hl 0 rfl) ?_
    refine lv_iload_n hx hb d_C_firstToward_37 rfl (lv_at hl 3 rfl) ?_
    refine lv_icmp_eq (tgt := 64) hx hb d_C_firstToward_38 (by decide) (fun hc => ?_) (fun hc => ?_)
    · rw [if_pos hc] at h
      refine lv_iload_n hx hb d_C_firstToward_64 rfl (lv_at hl 4 rfl) ?_
      exact ro_ret C0 (Option.some.inj h) d_C_firstToward_65
    · rw [if_neg hc] at h
      refine lv_aload_n hx hb d_C_firstToward_41 rfl (lv_at hl 1 rfl) ?_
      refine lv_iload hx hb d_C_firstToward_42 (lv_at hl 0 rfl) ?_
      refine ro_V (n := 1) (ci := 1) (As := [.int ((C_directs σ) ((x1 * 30) + x3).toNatClampNeg)]) (rest := []) C0 (c_C_isThere l D cI cZ a q σ ((C_directs σ) ((x1 * 30) + x3).toNatClampNeg) rfl) wd_4 ⟨wd_5, wd_6, wd_7, wd_8⟩ (by decide +kernel) ⟨Nat.le_of_ble_eq_true rfl, Nat.le_of_ble_eq_true rfl⟩ hP rfl rfl rfl hl rfl rfl (Nat.le_of_ble_eq_true rfl) ⟨Nat.zero_le _, Nat.zero_le _⟩ d_C_firstToward_44 ?_
      refine lv_if_eq (tgt := 66) hx hb d_C_firstToward_47 (by decide) (fun hc => ?_) (fun hc => ?_)
      · rw [if_pos hc] at h
        refine lv_iinc (v := (x3 + 1)) (lv' := [(3, .int (x3 + 1)), (4, .int ((C_directs σ) ((x1 * 30) + x3).toNatClampNeg)), (0, .ref (a 3)), (1, .int x1), (2, .int x2)]) hx hb d_C_firstToward_66 hl (k := 4) rfl rfl (by decide) rfl (fun ls hl => ?_)
        refine lv_goto (tgt := 12) hx hb d_C_firstToward_69 (by decide) ?_
        exact hk12 _ _ _ _ h (lv_sub hl [2, 3, 4, 0] rfl)
      · rw [if_neg hc] at h
        refine lv_aload_n hx hb d_C_firstToward_50 rfl (lv_at hl 1 rfl) ?_
        refine va_get (ci := 1) (v := .ref (a 6)) (C := R_C) (T := F_C) (N := 8) hx hb hts i_C hown hK.1 hP 0 rfl rfl 2 (by decide) (hts _ wd_9) (fun _ h9 => h9) rfl d_C_firstToward_51 ?_
        refine lv_iload hx hb d_C_firstToward_54 (lv_at hl 0 rfl) ?_
        replace h := gd h
        obtain ⟨hi, h⟩ := h
        refine va_iald hx hb hK.1 hP 3 0 rfl rfl hi d_C_firstToward_56 ?_
        refine lv_iload_n hx hb d_C_firstToward_57 rfl (lv_at hl 3 rfl) ?_
        refine ro_SN (n := 2) (As := [.int ((C_above σ) ((C_directs σ) ((x1 * 30) + x3).toNatClampNeg).toNatClampNeg), .int x2]) (rest := []) C0 (c_L_has l D cI cZ a ((C_above σ) ((C_directs σ) ((x1 * 30) + x3).toNatClampNeg).toNatClampNeg) x2 rfl) (List.mem_of_getElem? (i := 3) rfl) ⟨wd_104, wd_105, wd_55⟩ (by decide +kernel) ⟨Nat.le_of_ble_eq_true rfl, Nat.le_of_ble_eq_true rfl⟩ pnil hl rfl rfl (Nat.le_of_ble_eq_true rfl) ⟨Nat.zero_le _, Nat.zero_le _⟩ d_C_firstToward_58 ?_
        refine lv_if_eq (tgt := 66) hx hb d_C_firstToward_61 (by decide) (fun hc => ?_) (fun hc => ?_)
        · rw [if_pos hc] at h
          refine lv_iinc (v := (x3 + 1)) (lv' := [(3, .int (x3 + 1)), (4, .int ((C_directs σ) ((x1 * 30) + x3).toNatClampNeg)), (0, .ref (a 3)), (1, .int x1), (2, .int x2)]) hx hb d_C_firstToward_66 hl (k := 4) rfl rfl (by decide) rfl (fun ls hl => ?_)
          refine lv_goto (tgt := 12) hx hb d_C_firstToward_69 (by decide) ?_
          exact hk12 _ _ _ _ h (lv_sub hl [2, 3, 4, 0] rfl)
        · rw [if_neg hc] at h
          refine lv_iload_n hx hb d_C_firstToward_64 rfl (lv_at hl 4 rfl) ?_
          exact ro_ret C0 (Option.some.inj h) d_C_firstToward_65
set_option maxHeartbeats 4000000 in
set_option maxRecDepth 100000 in
theorem t_C_firstToward_12 {p : Program} {l : Launch} {e : Env} {s : State} {m : MethodId} {args : Array Value} {below : List Frame} {meth : Method} {c : Code} {D : va_G} {cI cZ : ClassId} {a : Nat → Nat} {q : Nat} {σ : StC} (C0 : Am p s m args meth c b_C_firstToward (some .int) 5 R_C D [(cI, .int), (cZ, .boolean)]) (hP : va_P D vwCl (wC cI cZ a q σ) s.heap) {val : Int32}  {n : Nat} {x1 x2 x3 : Int32} (h : f_C_firstToward_12  n σ x1 x2 x3 = some val) {ls : Array Slot} (hl : lv_has ls 5 [(0, .ref (a 3)), (1, .int x1), (2, .int x2), (3, .int x3)]) : RoW p l e (rmK 1 21 0 0) s m args below meth c val (F0 m 12 ls []) := by
  induction n generalizing x1 x2 x3 ls with
  | zero => cases h
  | succ n ih => exact t_C_firstToward_12_s (a := a) C0 hP  (fun _ _ _ _ h hl => ih h hl) h hl
set_option maxHeartbeats 4000000 in
set_option maxRecDepth 100000 in
theorem t_C_firstToward_0 {p : Program} {l : Launch} {e : Env} {s : State} {m : MethodId} {args : Array Value} {below : List Frame} {meth : Method} {c : Code} {D : va_G} {cI cZ : ClassId} {a : Nat → Nat} {q : Nat} {σ : StC} (C0 : Am p s m args meth c b_C_firstToward (some .int) 5 R_C D [(cI, .int), (cZ, .boolean)]) (hP : va_P D vwCl (wC cI cZ a q σ) s.heap) {val : Int32}   {x1 x2 : Int32} (h : f_C_firstToward σ x1 x2 = some val) {ls : Array Slot} (hl : lv_has ls 5 [(0, .ref (a 3)), (1, .int x1), (2, .int x2)]) : RoW p l e (rmK 1 21 0 0) s m args below meth c val (F0 m 0 ls []) := by
  obtain ⟨hx, hb, hr, hml, hown, hts, hlk, hK⟩ := id C0
  unfold f_C_firstToward at h
  refine lv_aload_n hx hb d_C_firstToward_0 rfl (lv_at hl 0 rfl) ?_
  refine lv_iload_n hx hb d_C_firstToward_1 rfl (lv_at hl 1 rfl) ?_
  refine ro_V (n := 1) (ci := 1) (As := [.int x1]) (rest := []) C0 (c_C_isThere l D cI cZ a q σ x1 rfl) wd_4 ⟨wd_5, wd_6, wd_7, wd_8⟩ (by decide +kernel) ⟨Nat.le_of_ble_eq_true rfl, Nat.le_of_ble_eq_true rfl⟩ hP rfl rfl rfl hl rfl rfl (Nat.le_of_ble_eq_true rfl) ⟨Nat.zero_le _, Nat.zero_le _⟩ d_C_firstToward_2 ?_
  refine lv_if_ne (tgt := 10) hx hb d_C_firstToward_5 (by decide) (fun hc => ?_) (fun hc => ?_)
  · rw [if_neg hc] at h
    refine lv_iconst (v := 0) hx hb d_C_firstToward_10 (by decide) ?_
    refine lv_istore_n (lv' := [(3, .int 0), (0, .ref (a 3)), (1, .int x1), (2, .int x2)]) hx hb d_C_firstToward_11 rfl hl (by decide) rfl (fun ls hl => ?_)
    exact t_C_firstToward_12 (a := a) C0 hP  h (lv_sub hl [1, 2, 3, 0] rfl)
  · rw [if_pos hc] at h
    refine lv_iconst (v := (-1)) hx hb d_C_firstToward_8 (by decide) ?_
    exact ro_ret C0 (Option.some.inj h) d_C_firstToward_9
set_option maxHeartbeats 4000000 in
set_option maxRecDepth 100000 in
theorem c_C_firstToward (l : Launch) (D : va_G) (cI cZ : ClassId) (a : Nat → Nat) (q : Nat) (σ : StC) (x1 : Int32) (x2 : Int32) {val : Int32} (h : f_C_firstToward σ x1 x2 = some val) : RoM l y_C_firstToward b_C_firstToward 5 (some .int) 1 21 D [(cI, .int), (cZ, .boolean)] [.ref (a 3), .int x1, .int x2] (wC cI cZ a q σ) val :=
  ro_of (by decide) (Nat.le_of_ble_eq_true rfl) (fun p e s m args below meth c ls C0 hP hl => t_C_firstToward_0 (a := a) C0 hP h (lv_sub hl [0, 1, 2] rfl))
def f_C_toldAt (σ : StC) (x1 x2 : Int32) : Option Int32 :=
  if (f_C_isThere σ x1) = 0 then
    some (-1)
  else
    if x2 < 0 then
      some (-1)
    else
      if x1 < 0 ∨ 30 ≤ x1.toNatClampNeg then none else
      if ((C_directCounts σ) x1.toNatClampNeg) ≤ x2 then
        some (-1)
      else
        if ((x1 * 30) + x2) < 0 ∨ 900 ≤ ((x1 * 30) + x2).toNatClampNeg then none else
        some ((C_tolds σ) ((x1 * 30) + x2).toNatClampNeg)
set_option maxHeartbeats 4000000 in
set_option maxRecDepth 100000 in
theorem t_C_toldAt_0 {p : Program} {l : Launch} {e : Env} {s : State} {m : MethodId} {args : Array Value} {below : List Frame} {meth : Method} {c : Code} {D : va_G} {cI cZ : ClassId} {a : Nat → Nat} {q : Nat} {σ : StC} (C0 : Am p s m args meth c b_C_toldAt (some .int) 3 R_C D [(cI, .int), (cZ, .boolean)]) (hP : va_P D vwCl (wC cI cZ a q σ) s.heap) {val : Int32}   {x1 x2 : Int32} (h : f_C_toldAt σ x1 x2 = some val) {ls : Array Slot} (hl : lv_has ls 3 [(0, .ref (a 3)), (1, .int x1), (2, .int x2)]) : RoW p l e (rmK 1 21 0 0) s m args below meth c val (F0 m 0 ls []) := by
  obtain ⟨hx, hb, hr, hml, hown, hts, hlk, hK⟩ := id C0
  unfold f_C_toldAt at h
  refine lv_aload_n hx hb d_C_toldAt_0 rfl (lv_at hl 0 rfl) ?_
  refine lv_iload_n hx hb d_C_toldAt_1 rfl (lv_at hl 1 rfl) ?_
  refine ro_V (n := 1) (ci := 1) (As := [.int x1]) (rest := []) C0 (c_C_isThere l D cI cZ a q σ x1 rfl) wd_4 ⟨wd_5, wd_6, wd_7, wd_8⟩ (by decide +kernel) ⟨Nat.le_of_ble_eq_true rfl, Nat.le_of_ble_eq_true rfl⟩ hP rfl rfl rfl hl rfl rfl (Nat.le_of_ble_eq_true rfl) ⟨Nat.zero_le _, Nat.zero_le _⟩ d_C_toldAt_2 ?_
  refine lv_if_eq (tgt := 36) hx hb d_C_toldAt_5 (by decide) (fun hc => ?_) (fun hc => ?_)
  · rw [if_pos hc] at h
    refine lv_iconst (v := (-1)) hx hb d_C_toldAt_36 (by decide) ?_
    exact ro_ret C0 (Option.some.inj h) d_C_toldAt_37
  · rw [if_neg hc] at h
    refine lv_iload_n hx hb d_C_toldAt_8 rfl (lv_at hl 2 rfl) ?_
    refine lv_if_lt (tgt := 36) hx hb d_C_toldAt_9 (by decide) (fun hc => ?_) (fun hc => ?_)
    · rw [if_pos hc] at h
      refine lv_iconst (v := (-1)) hx hb d_C_toldAt_36 (by decide) ?_
      exact ro_ret C0 (Option.some.inj h) d_C_toldAt_37
    · rw [if_neg hc] at h
      refine lv_iload_n hx hb d_C_toldAt_12 rfl (lv_at hl 2 rfl) ?_
      refine lv_aload_n hx hb d_C_toldAt_13 rfl (lv_at hl 0 rfl) ?_
      refine va_get (ci := 1) (v := .ref (a 7)) (C := R_C) (T := F_C) (N := 8) hx hb hts i_C hown hK.1 hP 0 rfl rfl 3 (by decide) (hts _ wd_12) (fun _ h9 => h9) rfl d_C_toldAt_14 ?_
      refine lv_iload_n hx hb d_C_toldAt_17 rfl (lv_at hl 1 rfl) ?_
      replace h := gd h
      obtain ⟨hi, h⟩ := h
      refine va_iald hx hb hK.1 hP 4 0 rfl rfl hi d_C_toldAt_18 ?_
      refine lv_icmp_ge (tgt := 36) hx hb d_C_toldAt_19 (by decide) (fun hc => ?_) (fun hc => ?_)
      · rw [if_pos hc] at h
        refine lv_iconst (v := (-1)) hx hb d_C_toldAt_36 (by decide) ?_
        exact ro_ret C0 (Option.some.inj h) d_C_toldAt_37
      · rw [if_neg hc] at h
        refine lv_aload_n hx hb d_C_toldAt_22 rfl (lv_at hl 0 rfl) ?_
        refine va_get (ci := 1) (v := .ref (a 9)) (C := R_C) (T := F_C) (N := 8) hx hb hts i_C hown hK.1 hP 0 rfl rfl 5 (by decide) (hts _ wd_11) (fun _ h9 => h9) rfl d_C_toldAt_23 ?_
        refine lv_iload_n hx hb d_C_toldAt_26 rfl (lv_at hl 1 rfl) ?_
        refine lv_bipush (v := 30) hx hb d_C_toldAt_27 (by decide) ?_
        refine lv_imul hx hb d_C_toldAt_29 ?_
        refine lv_iload_n hx hb d_C_toldAt_30 rfl (lv_at hl 2 rfl) ?_
        refine lv_iadd hx hb d_C_toldAt_31 ?_
        replace h := gd h
        obtain ⟨hi, h⟩ := h
        refine va_iald hx hb hK.1 hP 6 0 rfl rfl hi d_C_toldAt_32 ?_
        refine lv_goto (tgt := 37) hx hb d_C_toldAt_33 (by decide) ?_
        exact ro_ret C0 (Option.some.inj h) d_C_toldAt_37
set_option maxHeartbeats 4000000 in
set_option maxRecDepth 100000 in
theorem c_C_toldAt (l : Launch) (D : va_G) (cI cZ : ClassId) (a : Nat → Nat) (q : Nat) (σ : StC) (x1 : Int32) (x2 : Int32) {val : Int32} (h : f_C_toldAt σ x1 x2 = some val) : RoM l y_C_toldAt b_C_toldAt 3 (some .int) 1 21 D [(cI, .int), (cZ, .boolean)] [.ref (a 3), .int x1, .int x2] (wC cI cZ a q σ) val :=
  ro_of (by decide) (Nat.le_of_ble_eq_true rfl) (fun p e s m args below meth c ls C0 hP hl => t_C_toldAt_0 (a := a) C0 hP h (lv_sub hl [0, 1, 2] rfl))
def f_C_passOn (x0 x1 : Int32) : Int32 :=
  if x0 = (-2) then
    x1
  else
    if x0 = (-1) then
      0
    else
      (f_L_argumentOf 1 x0)
set_option maxHeartbeats 4000000 in
set_option maxRecDepth 100000 in
theorem t_C_passOn_0 {p : Program} {l : Launch} {e : Env} {s : State} {m : MethodId} {args : Array Value} {below : List Frame} {meth : Method} {c : Code} {D : va_G} {cI cZ : ClassId} {a : Nat → Nat} (C0 : Am p s m args meth c b_C_passOn (some .int) 2 R_C D [(cI, .int), (cZ, .boolean)]) {val : Int32}   {x0 x1 : Int32} (h : f_C_passOn x0 x1 = val) {ls : Array Slot} (hl : lv_has ls 2 [(0, .int x0), (1, .int x1)]) : RoW p l e (rmK 1 21 0 0) s m args below meth c val (F0 m 0 ls []) := by
  obtain ⟨hx, hb, hr, hml, hown, hts, hlk, hK⟩ := id C0
  unfold f_C_passOn at h
  refine lv_iload_n hx hb d_C_passOn_0 rfl (lv_at hl 0 rfl) ?_
  refine lv_bipush (v := (-2)) hx hb d_C_passOn_1 (by decide) ?_
  refine lv_icmp_ne (tgt := 8) hx hb d_C_passOn_3 (by decide) (fun hc => ?_) (fun hc => ?_)
  · rw [if_neg hc] at h
    refine lv_iload_n hx hb d_C_passOn_8 rfl (lv_at hl 0 rfl) ?_
    refine lv_iconst (v := (-1)) hx hb d_C_passOn_9 (by decide) ?_
    refine lv_icmp_ne (tgt := 17) hx hb d_C_passOn_10 (by decide) (fun hc => ?_) (fun hc => ?_)
    · rw [if_neg hc] at h
      refine lv_iconst (v := 1) hx hb d_C_passOn_17 (by decide) ?_
      refine lv_iload_n hx hb d_C_passOn_18 rfl (lv_at hl 0 rfl) ?_
      refine ro_SN (n := 2) (As := [.int 1, .int x0]) (rest := []) C0 (c_L_argumentOf l D cI cZ a 1 x0 rfl) (List.mem_of_getElem? (i := 4) rfl) ⟨wd_106, wd_107, wd_55⟩ (by decide +kernel) ⟨Nat.le_of_ble_eq_true rfl, Nat.le_of_ble_eq_true rfl⟩ pnil hl rfl rfl (Nat.le_of_ble_eq_true rfl) ⟨Nat.zero_le _, Nat.zero_le _⟩ d_C_passOn_19 ?_
      exact ro_ret C0 h d_C_passOn_22
    · rw [if_pos hc] at h
      refine lv_iconst (v := 0) hx hb d_C_passOn_13 (by decide) ?_
      refine lv_goto (tgt := 22) hx hb d_C_passOn_14 (by decide) ?_
      exact ro_ret C0 h d_C_passOn_22
  · rw [if_pos hc] at h
    refine lv_iload_n hx hb d_C_passOn_6 rfl (lv_at hl 1 rfl) ?_
    exact ro_ret C0 h d_C_passOn_7
set_option maxHeartbeats 4000000 in
set_option maxRecDepth 100000 in
theorem c_C_passOn (l : Launch) (D : va_G) (cI cZ : ClassId) (a : Nat → Nat) (x0 : Int32) (x1 : Int32) {val : Int32} (h : f_C_passOn x0 x1 = val) : RoM l y_C_passOn b_C_passOn 2 (some .int) 1 21 D [(cI, .int), (cZ, .boolean)] [.int x0, .int x1] [] val :=
  ro_of (by decide) (Nat.le_of_ble_eq_true rfl) (fun p e s m args below meth c ls C0 hP hl => t_C_passOn_0 (a := a) C0 h (lv_sub hl [0, 1] rfl))
def f_C_climb_70 (σ : StC) (x3 x4 x5 : Int32) : Option Int32 :=
  if x4 = x3 then
    some x5
  else
    some (-1)
def f_C_climb_9_s (k9 : StC → Int32 → Int32 → Int32 → Int32 → Option Int32) (σ : StC) (x3 x4 x5 x6 : Int32) : Option Int32 :=
  if 30 ≤ x6 then
    f_C_climb_70 σ x3 x4 x5
  else
    if x4 = x3 then
      f_C_climb_70 σ x3 x4 x5
    else
      (f_C_firstToward σ x4 x3).bind fun r1 =>
      if r1 = (-1) then
        some (-1)
      else
        (f_C_toldAt σ x4 r1).bind fun r2 =>
        (f_C_directAt σ x4 r1).bind fun r3 =>
        k9 σ x3 r3 (f_C_passOn r2 x5) (x6 + 1)
def f_C_climb_9 : Nat → StC → Int32 → Int32 → Int32 → Int32 → Option Int32
  | 0, _, _, _, _, _ => none
  | n + 1, σ, x3, x4, x5, x6 => f_C_climb_9_s (f_C_climb_9 n) σ x3 x4 x5 x6
def f_C_climb (σ : StC) (x1 x2 x3 : Int32) : Option Int32 :=
  f_C_climb_9 1000 σ x3 x1 x2 0
set_option maxHeartbeats 4000000 in
set_option maxRecDepth 100000 in
theorem t_C_climb_70 {p : Program} {l : Launch} {e : Env} {s : State} {m : MethodId} {args : Array Value} {below : List Frame} {meth : Method} {c : Code} {D : va_G} {cI cZ : ClassId} {a : Nat → Nat} {q : Nat} {σ : StC} (C0 : Am p s m args meth c b_C_climb (some .int) 8 R_C D [(cI, .int), (cZ, .boolean)]) (hP : va_P D vwCl (wC cI cZ a q σ) s.heap) {val : Int32}   {x3 x4 x5 : Int32} (h : f_C_climb_70 σ x3 x4 x5 = some val) {ls : Array Slot} (hl : lv_has ls 8 [(3, .int x3), (4, .int x4), (5, .int x5)]) : RoW p l e (rmK 2 45 0 0) s m args below meth c val (F0 m 70 ls []) := by
  obtain ⟨hx, hb, hr, hml, hown, hts, hlk, hK⟩ := id C0
  unfold f_C_climb_70 at h
  refine lv_iload hx hb d_C_climb_70 (lv_at hl 1 rfl) ?_
  refine lv_iload_n hx hb d_C_climb_72 rfl (lv_at hl 0 rfl) ?_
  refine lv_icmp_ne (tgt := 81) hx hb d_C_climb_73 (by decide) (fun hc => ?_) (fun hc => ?_)
  · rw [if_neg hc] at h
    refine lv_iconst (v := (-1)) hx hb d_C_climb_81 (by decide) ?_
    exact ro_ret C0 (Option.some.inj h) d_C_climb_82
  · rw [if_pos hc] at h
    refine lv_iload hx hb d_C_climb_76 (lv_at hl 2 rfl) ?_
    refine lv_goto (tgt := 82) hx hb d_C_climb_78 (by decide) ?_
    exact ro_ret C0 (Option.some.inj h) d_C_climb_82
set_option maxHeartbeats 4000000 in
set_option maxRecDepth 100000 in
theorem t_C_climb_9_s {p : Program} {l : Launch} {e : Env} {s : State} {m : MethodId} {args : Array Value} {below : List Frame} {meth : Method} {c : Code} {D : va_G} {cI cZ : ClassId} {a : Nat → Nat} {q : Nat} {σ : StC} (C0 : Am p s m args meth c b_C_climb (some .int) 8 R_C D [(cI, .int), (cZ, .boolean)]) (hP : va_P D vwCl (wC cI cZ a q σ) s.heap) {val : Int32} {k9 : StC → Int32 → Int32 → Int32 → Int32 → Option Int32}  (hk9 : ∀ (x3 x4 x5 x6 : Int32) (ls : Array Slot), k9 σ x3 x4 x5 x6 = some val → lv_has ls 8 [(0, .ref (a 3)), (3, .int x3), (4, .int x4), (5, .int x5), (6, .int x6)] → RoW p l e (rmK 2 45 0 0) s m args below meth c val (F0 m 9 ls [])) {x3 x4 x5 x6 : Int32} (h : f_C_climb_9_s k9 σ x3 x4 x5 x6 = some val) {ls : Array Slot} (hl : lv_has ls 8 [(0, .ref (a 3)), (3, .int x3), (4, .int x4), (5, .int x5), (6, .int x6)]) : RoW p l e (rmK 2 45 0 0) s m args below meth c val (F0 m 9 ls []) := by
  obtain ⟨hx, hb, hr, hml, hown, hts, hlk, hK⟩ := id C0
  unfold f_C_climb_9_s at h
  refine lv_iload hx hb d_C_climb_9 (lv_at hl 4 rfl) ?_
  refine lv_bipush (v := 30) hx hb d_C_climb_11 (by decide) ?_
  refine lv_icmp_ge (tgt := 70) hx hb d_C_climb_13 (by decide) (fun hc => ?_) (fun hc => ?_)
  · rw [if_pos hc] at h
    exact t_C_climb_70 (a := a) C0 hP  h (lv_sub hl [1, 2, 3] rfl)
  · rw [if_neg hc] at h
    refine lv_iload hx hb d_C_climb_16 (lv_at hl 2 rfl) ?_
    refine lv_iload_n hx hb d_C_climb_18 rfl (lv_at hl 1 rfl) ?_
    refine lv_icmp_eq (tgt := 70) hx hb d_C_climb_19 (by decide) (fun hc => ?_) (fun hc => ?_)
    · rw [if_pos hc] at h
      exact t_C_climb_70 (a := a) C0 hP  h (lv_sub hl [1, 2, 3] rfl)
    · rw [if_neg hc] at h
      refine lv_aload_n hx hb d_C_climb_22 rfl (lv_at hl 0 rfl) ?_
      refine lv_iload hx hb d_C_climb_23 (lv_at hl 2 rfl) ?_
      refine lv_iload_n hx hb d_C_climb_25 rfl (lv_at hl 1 rfl) ?_
      replace h := bd h
      obtain ⟨r1, g1, h⟩ := h
      refine ro_V (n := 2) (ci := 1) (As := [.int x4, .int x3]) (rest := []) C0 (c_C_firstToward l D cI cZ a q σ x4 x3 g1) wd_108 ⟨wd_109, wd_110, wd_111, wd_8⟩ (by decide +kernel) ⟨Nat.le_of_ble_eq_true rfl, Nat.le_of_ble_eq_true rfl⟩ hP rfl rfl rfl hl rfl rfl (Nat.le_of_ble_eq_true rfl) ⟨Nat.zero_le _, Nat.zero_le _⟩ d_C_climb_26 ?_
      try dsimp only at h
      refine lv_istore (lv' := [(7, .int r1), (0, .ref (a 3)), (3, .int x3), (4, .int x4), (5, .int x5), (6, .int x6)]) hx hb d_C_climb_29 hl (by decide) rfl (fun ls hl => ?_)
      refine lv_iload hx hb d_C_climb_31 (lv_at hl 0 rfl) ?_
      refine lv_iconst (v := (-1)) hx hb d_C_climb_33 (by decide) ?_
      refine lv_icmp_ne (tgt := 39) hx hb d_C_climb_34 (by decide) (fun hc => ?_) (fun hc => ?_)
      · rw [if_neg hc] at h
        refine lv_aload_n hx hb d_C_climb_39 rfl (lv_at hl 1 rfl) ?_
        refine lv_iload hx hb d_C_climb_40 (lv_at hl 3 rfl) ?_
        refine lv_iload hx hb d_C_climb_42 (lv_at hl 0 rfl) ?_
        replace h := bd h
        obtain ⟨r2, g2, h⟩ := h
        refine ro_V (n := 2) (ci := 1) (As := [.int x4, .int r1]) (rest := []) C0 (c_C_toldAt l D cI cZ a q σ x4 r1 g2) wd_112 ⟨wd_113, wd_114, wd_115, wd_8⟩ (by decide +kernel) ⟨Nat.le_of_ble_eq_true rfl, Nat.le_of_ble_eq_true rfl⟩ hP rfl rfl rfl hl rfl rfl (Nat.le_of_ble_eq_true rfl) ⟨Nat.zero_le _, Nat.zero_le _⟩ d_C_climb_44 ?_
        try dsimp only at h
        refine lv_iload hx hb d_C_climb_47 (lv_at hl 4 rfl) ?_
        refine ro_S (n := 2) (As := [.int r2, .int x5]) (rest := []) C0 (c_C_passOn l D cI cZ a r2 x5 rfl) wd_116 ⟨wd_117, wd_118, wd_8⟩ (by decide +kernel) ⟨Nat.le_of_ble_eq_true rfl, Nat.le_of_ble_eq_true rfl⟩ pnil hl rfl rfl (Nat.le_of_ble_eq_true rfl) ⟨Nat.zero_le _, Nat.zero_le _⟩ d_C_climb_49 ?_
        refine lv_istore (lv' := [(5, .int (f_C_passOn r2 x5)), (7, .int r1), (0, .ref (a 3)), (3, .int x3), (4, .int x4), (6, .int x6)]) hx hb d_C_climb_52 hl (by decide) rfl (fun ls hl => ?_)
        refine lv_aload_n hx hb d_C_climb_54 rfl (lv_at hl 2 rfl) ?_
        refine lv_iload hx hb d_C_climb_55 (lv_at hl 4 rfl) ?_
        refine lv_iload hx hb d_C_climb_57 (lv_at hl 1 rfl) ?_
        replace h := bd h
        obtain ⟨r3, g3, h⟩ := h
        refine ro_V (n := 2) (ci := 1) (As := [.int x4, .int r1]) (rest := []) C0 (c_C_directAt l D cI cZ a q σ x4 r1 g3) wd_87 ⟨wd_88, wd_89, wd_90, wd_8⟩ (by decide +kernel) ⟨Nat.le_of_ble_eq_true rfl, Nat.le_of_ble_eq_true rfl⟩ hP rfl rfl rfl hl rfl rfl (Nat.le_of_ble_eq_true rfl) ⟨Nat.zero_le _, Nat.zero_le _⟩ d_C_climb_59 ?_
        try dsimp only at h
        refine lv_istore (lv' := [(4, .int r3), (5, .int (f_C_passOn r2 x5)), (7, .int r1), (0, .ref (a 3)), (3, .int x3), (6, .int x6)]) hx hb d_C_climb_62 hl (by decide) rfl (fun ls hl => ?_)
        refine lv_iinc (v := (x6 + 1)) (lv' := [(6, .int (x6 + 1)), (4, .int r3), (5, .int (f_C_passOn r2 x5)), (7, .int r1), (0, .ref (a 3)), (3, .int x3)]) hx hb d_C_climb_64 hl (k := 5) rfl rfl (by decide) rfl (fun ls hl => ?_)
        refine lv_goto (tgt := 9) hx hb d_C_climb_67 (by decide) ?_
        exact hk9 _ _ _ _ _ h (lv_sub hl [4, 5, 1, 2, 0] rfl)
      · rw [if_pos hc] at h
        refine lv_iconst (v := (-1)) hx hb d_C_climb_37 (by decide) ?_
        exact ro_ret C0 (Option.some.inj h) d_C_climb_38
set_option maxHeartbeats 4000000 in
set_option maxRecDepth 100000 in
theorem t_C_climb_9 {p : Program} {l : Launch} {e : Env} {s : State} {m : MethodId} {args : Array Value} {below : List Frame} {meth : Method} {c : Code} {D : va_G} {cI cZ : ClassId} {a : Nat → Nat} {q : Nat} {σ : StC} (C0 : Am p s m args meth c b_C_climb (some .int) 8 R_C D [(cI, .int), (cZ, .boolean)]) (hP : va_P D vwCl (wC cI cZ a q σ) s.heap) {val : Int32}  {n : Nat} {x3 x4 x5 x6 : Int32} (h : f_C_climb_9  n σ x3 x4 x5 x6 = some val) {ls : Array Slot} (hl : lv_has ls 8 [(0, .ref (a 3)), (3, .int x3), (4, .int x4), (5, .int x5), (6, .int x6)]) : RoW p l e (rmK 2 45 0 0) s m args below meth c val (F0 m 9 ls []) := by
  induction n generalizing x3 x4 x5 x6 ls with
  | zero => cases h
  | succ n ih => exact t_C_climb_9_s (a := a) C0 hP  (fun _ _ _ _ _ h hl => ih h hl) h hl
set_option maxHeartbeats 4000000 in
set_option maxRecDepth 100000 in
theorem t_C_climb_0 {p : Program} {l : Launch} {e : Env} {s : State} {m : MethodId} {args : Array Value} {below : List Frame} {meth : Method} {c : Code} {D : va_G} {cI cZ : ClassId} {a : Nat → Nat} {q : Nat} {σ : StC} (C0 : Am p s m args meth c b_C_climb (some .int) 8 R_C D [(cI, .int), (cZ, .boolean)]) (hP : va_P D vwCl (wC cI cZ a q σ) s.heap) {val : Int32}   {x1 x2 x3 : Int32} (h : f_C_climb σ x1 x2 x3 = some val) {ls : Array Slot} (hl : lv_has ls 8 [(0, .ref (a 3)), (1, .int x1), (2, .int x2), (3, .int x3)]) : RoW p l e (rmK 2 45 0 0) s m args below meth c val (F0 m 0 ls []) := by
  obtain ⟨hx, hb, hr, hml, hown, hts, hlk, hK⟩ := id C0
  unfold f_C_climb at h
  refine lv_iload_n hx hb d_C_climb_0 rfl (lv_at hl 1 rfl) ?_
  refine lv_istore (lv' := [(4, .int x1), (0, .ref (a 3)), (1, .int x1), (2, .int x2), (3, .int x3)]) hx hb d_C_climb_1 hl (by decide) rfl (fun ls hl => ?_)
  refine lv_iload_n hx hb d_C_climb_3 rfl (lv_at hl 3 rfl) ?_
  refine lv_istore (lv' := [(5, .int x2), (4, .int x1), (0, .ref (a 3)), (1, .int x1), (2, .int x2), (3, .int x3)]) hx hb d_C_climb_4 hl (by decide) rfl (fun ls hl => ?_)
  refine lv_iconst (v := 0) hx hb d_C_climb_6 (by decide) ?_
  refine lv_istore (lv' := [(6, .int 0), (5, .int x2), (4, .int x1), (0, .ref (a 3)), (1, .int x1), (2, .int x2), (3, .int x3)]) hx hb d_C_climb_7 hl (by decide) rfl (fun ls hl => ?_)
  exact t_C_climb_9 (a := a) C0 hP  h (lv_sub hl [3, 6, 2, 1, 0] rfl)
set_option maxHeartbeats 4000000 in
set_option maxRecDepth 100000 in
theorem c_C_climb (l : Launch) (D : va_G) (cI cZ : ClassId) (a : Nat → Nat) (q : Nat) (σ : StC) (x1 : Int32) (x2 : Int32) (x3 : Int32) {val : Int32} (h : f_C_climb σ x1 x2 x3 = some val) : RoM l y_C_climb b_C_climb 8 (some .int) 2 45 D [(cI, .int), (cZ, .boolean)] [.ref (a 3), .int x1, .int x2, .int x3] (wC cI cZ a q σ) val :=
  ro_of (by decide) (Nat.le_of_ble_eq_true rfl) (fun p e s m args below meth c ls C0 hP hl => t_C_climb_0 (a := a) C0 hP h (lv_sub hl [0, 1, 2, 3] rfl))
def f_C_clashes_21_s (k21 : StC → Int32 → Int32 → Int32 → Int32 → Int32 → Option Int32) (σ : StC) (x1 x2 x3 x4 x5 : Int32) : Option Int32 :=
  if (C_count σ) ≤ x5 then
    some 0
  else
    if (f_L_has x4 x5) = 0 then
      k21 σ x1 x2 x3 x4 (x5 + 1)
    else
      (f_C_isGeneric σ x5).bind fun r3 =>
      if r3 = 0 then
        k21 σ x1 x2 x3 x4 (x5 + 1)
      else
        (f_C_climb σ x3 (-2) x5).bind fun r4 =>
        (f_C_climb σ x1 (f_C_passOn x2 (-2)) x5).bind fun r5 =>
        if r4 = r5 then
          k21 σ x1 x2 x3 x4 (x5 + 1)
        else
          some 1
def f_C_clashes_21 : Nat → StC → Int32 → Int32 → Int32 → Int32 → Int32 → Option Int32
  | 0, _, _, _, _, _, _ => none
  | n + 1, σ, x1, x2, x3, x4, x5 => f_C_clashes_21_s (f_C_clashes_21 n) σ x1 x2 x3 x4 x5
def f_C_clashes (σ : StC) (x1 x2 : Int32) : Option Int32 :=
  (f_C_aboveOf σ (f_C_newest σ)).bind fun r1 =>
  (f_C_withAbove σ x1).bind fun r2 =>
  f_C_clashes_21 1000 σ x1 x2 (f_C_newest σ) (r1 &&& r2) 0
set_option maxHeartbeats 4000000 in
set_option maxRecDepth 100000 in
theorem t_C_clashes_21_s {p : Program} {l : Launch} {e : Env} {s : State} {m : MethodId} {args : Array Value} {below : List Frame} {meth : Method} {c : Code} {D : va_G} {cI cZ : ClassId} {a : Nat → Nat} {q : Nat} {σ : StC} (C0 : Am p s m args meth c b_C_clashes (some .boolean) 6 R_C D [(cI, .int), (cZ, .boolean)]) (hP : va_P D vwCl (wC cI cZ a q σ) s.heap) {val : Int32} {k21 : StC → Int32 → Int32 → Int32 → Int32 → Int32 → Option Int32}  (hk21 : ∀ (x1 x2 x3 x4 x5 : Int32) (ls : Array Slot), k21 σ x1 x2 x3 x4 x5 = some val → lv_has ls 6 [(0, .ref (a 3)), (1, .int x1), (2, .int x2), (3, .int x3), (4, .int x4), (5, .int x5)] → RoW p l e (rmK 3 72 0 0) s m args below meth c val (F0 m 21 ls [])) {x1 x2 x3 x4 x5 : Int32} (h : f_C_clashes_21_s k21 σ x1 x2 x3 x4 x5 = some val) {ls : Array Slot} (hl : lv_has ls 6 [(0, .ref (a 3)), (1, .int x1), (2, .int x2), (3, .int x3), (4, .int x4), (5, .int x5)]) : RoW p l e (rmK 3 72 0 0) s m args below meth c val (F0 m 21 ls []) := by
  obtain ⟨hx, hb, hr, hml, hown, hts, hlk, hK⟩ := id C0
  unfold f_C_clashes_21_s at h
  refine lv_iload hx hb d_C_clashes_21 (lv_at hl 5 rfl) ?_
  refine lv_aload_n hx hb d_C_clashes_23 rfl (lv_at hl 0 rfl) ?_
  refine va_get (ci := 1) (v := .int (C_count σ)) (C := R_C) (T := F_C) (N := 8) hx hb hts i_C hown hK.1 hP 0 rfl rfl 6 (by decide) (hts _ wd_3) (fun _ h9 => h9) rfl d_C_clashes_24 ?_
  refine lv_icmp_ge (tgt := 82) hx hb d_C_clashes_27 (by decide) (fun hc => ?_) (fun hc => ?_)
  · rw [if_pos hc] at h
    refine lv_iconst (v := 0) hx hb d_C_clashes_82 (by decide) ?_
    exact ro_retz C0 (by decide) (Option.some.inj h) d_C_clashes_83
  · rw [if_neg hc] at h
    refine lv_iload hx hb d_C_clashes_30 (lv_at hl 4 rfl) ?_
    refine lv_iload hx hb d_C_clashes_32 (lv_at hl 5 rfl) ?_
    refine ro_SN (n := 2) (As := [.int x4, .int x5]) (rest := []) C0 (c_L_has l D cI cZ a x4 x5 rfl) (List.mem_of_getElem? (i := 3) rfl) ⟨wd_104, wd_105, wd_55⟩ (by decide +kernel) ⟨Nat.le_of_ble_eq_true rfl, Nat.le_of_ble_eq_true rfl⟩ pnil hl rfl rfl (Nat.le_of_ble_eq_true rfl) ⟨Nat.zero_le _, Nat.zero_le _⟩ d_C_clashes_34 ?_
    refine lv_if_eq (tgt := 76) hx hb d_C_clashes_37 (by decide) (fun hc => ?_) (fun hc => ?_)
    · rw [if_pos hc] at h
      refine lv_iinc (v := (x5 + 1)) (lv' := [(5, .int (x5 + 1)), (0, .ref (a 3)), (1, .int x1), (2, .int x2), (3, .int x3), (4, .int x4)]) hx hb d_C_clashes_76 hl (k := 5) rfl rfl (by decide) rfl (fun ls hl => ?_)
      refine lv_goto (tgt := 21) hx hb d_C_clashes_79 (by decide) ?_
      exact hk21 _ _ _ _ _ _ h (lv_sub hl [1, 2, 3, 4, 5, 0] rfl)
    · rw [if_neg hc] at h
      refine lv_aload_n hx hb d_C_clashes_40 rfl (lv_at hl 0 rfl) ?_
      refine lv_iload hx hb d_C_clashes_41 (lv_at hl 5 rfl) ?_
      replace h := bd h
      obtain ⟨r3, g3, h⟩ := h
      refine ro_V (n := 1) (ci := 1) (As := [.int x5]) (rest := []) C0 (c_C_isGeneric l D cI cZ a q σ x5 g3) wd_123 ⟨wd_96, wd_97, wd_98, wd_8⟩ (by decide +kernel) ⟨Nat.le_of_ble_eq_true rfl, Nat.le_of_ble_eq_true rfl⟩ hP rfl rfl rfl hl rfl rfl (Nat.le_of_ble_eq_true rfl) ⟨Nat.zero_le _, Nat.zero_le _⟩ d_C_clashes_43 ?_
      try dsimp only at h
      refine lv_if_eq (tgt := 76) hx hb d_C_clashes_46 (by decide) (fun hc => ?_) (fun hc => ?_)
      · rw [if_pos hc] at h
        refine lv_iinc (v := (x5 + 1)) (lv' := [(5, .int (x5 + 1)), (0, .ref (a 3)), (1, .int x1), (2, .int x2), (3, .int x3), (4, .int x4)]) hx hb d_C_clashes_76 hl (k := 5) rfl rfl (by decide) rfl (fun ls hl => ?_)
        refine lv_goto (tgt := 21) hx hb d_C_clashes_79 (by decide) ?_
        exact hk21 _ _ _ _ _ _ h (lv_sub hl [1, 2, 3, 4, 5, 0] rfl)
      · rw [if_neg hc] at h
        refine lv_aload_n hx hb d_C_clashes_49 rfl (lv_at hl 0 rfl) ?_
        refine lv_iload_n hx hb d_C_clashes_50 rfl (lv_at hl 3 rfl) ?_
        refine lv_bipush (v := (-2)) hx hb d_C_clashes_51 (by decide) ?_
        refine lv_iload hx hb d_C_clashes_53 (lv_at hl 5 rfl) ?_
        replace h := bd h
        obtain ⟨r4, g4, h⟩ := h
        refine ro_V (n := 3) (ci := 1) (As := [.int x3, .int (-2), .int x5]) (rest := []) C0 (c_C_climb l D cI cZ a q σ x3 (-2) x5 g4) wd_124 ⟨wd_125, wd_126, wd_127, wd_8⟩ (by decide +kernel) ⟨Nat.le_of_ble_eq_true rfl, Nat.le_of_ble_eq_true rfl⟩ hP rfl rfl rfl hl rfl rfl (Nat.le_of_ble_eq_true rfl) ⟨Nat.zero_le _, Nat.zero_le _⟩ d_C_clashes_55 ?_
        try dsimp only at h
        refine lv_aload_n hx hb d_C_clashes_58 rfl (lv_at hl 0 rfl) ?_
        refine lv_iload_n hx hb d_C_clashes_59 rfl (lv_at hl 1 rfl) ?_
        refine lv_iload_n hx hb d_C_clashes_60 rfl (lv_at hl 2 rfl) ?_
        refine lv_bipush (v := (-2)) hx hb d_C_clashes_61 (by decide) ?_
        refine ro_S (n := 2) (As := [.int x2, .int (-2)]) (rest := [.int x1, .ref (a 3), .int r4]) C0 (c_C_passOn l D cI cZ a x2 (-2) rfl) wd_116 ⟨wd_117, wd_118, wd_8⟩ (by decide +kernel) ⟨Nat.le_of_ble_eq_true rfl, Nat.le_of_ble_eq_true rfl⟩ pnil hl rfl rfl (Nat.le_of_ble_eq_true rfl) ⟨Nat.zero_le _, Nat.zero_le _⟩ d_C_clashes_63 ?_
        refine lv_iload hx hb d_C_clashes_66 (lv_at hl 5 rfl) ?_
        replace h := bd h
        obtain ⟨r5, g5, h⟩ := h
        refine ro_V (n := 3) (ci := 1) (As := [.int x1, .int (f_C_passOn x2 (-2)), .int x5]) (rest := [.int r4]) C0 (c_C_climb l D cI cZ a q σ x1 (f_C_passOn x2 (-2)) x5 g5) wd_124 ⟨wd_125, wd_126, wd_127, wd_8⟩ (by decide +kernel) ⟨Nat.le_of_ble_eq_true rfl, Nat.le_of_ble_eq_true rfl⟩ hP rfl rfl rfl hl rfl rfl (Nat.le_of_ble_eq_true rfl) ⟨Nat.zero_le _, Nat.zero_le _⟩ d_C_clashes_68 ?_
        try dsimp only at h
        refine lv_icmp_eq (tgt := 76) hx hb d_C_clashes_71 (by decide) (fun hc => ?_) (fun hc => ?_)
        · rw [if_pos hc] at h
          refine lv_iinc (v := (x5 + 1)) (lv' := [(5, .int (x5 + 1)), (0, .ref (a 3)), (1, .int x1), (2, .int x2), (3, .int x3), (4, .int x4)]) hx hb d_C_clashes_76 hl (k := 5) rfl rfl (by decide) rfl (fun ls hl => ?_)
          refine lv_goto (tgt := 21) hx hb d_C_clashes_79 (by decide) ?_
          exact hk21 _ _ _ _ _ _ h (lv_sub hl [1, 2, 3, 4, 5, 0] rfl)
        · rw [if_neg hc] at h
          refine lv_iconst (v := 1) hx hb d_C_clashes_74 (by decide) ?_
          exact ro_retz C0 (by decide) (Option.some.inj h) d_C_clashes_75
set_option maxHeartbeats 4000000 in
set_option maxRecDepth 100000 in
theorem t_C_clashes_21 {p : Program} {l : Launch} {e : Env} {s : State} {m : MethodId} {args : Array Value} {below : List Frame} {meth : Method} {c : Code} {D : va_G} {cI cZ : ClassId} {a : Nat → Nat} {q : Nat} {σ : StC} (C0 : Am p s m args meth c b_C_clashes (some .boolean) 6 R_C D [(cI, .int), (cZ, .boolean)]) (hP : va_P D vwCl (wC cI cZ a q σ) s.heap) {val : Int32}  {n : Nat} {x1 x2 x3 x4 x5 : Int32} (h : f_C_clashes_21  n σ x1 x2 x3 x4 x5 = some val) {ls : Array Slot} (hl : lv_has ls 6 [(0, .ref (a 3)), (1, .int x1), (2, .int x2), (3, .int x3), (4, .int x4), (5, .int x5)]) : RoW p l e (rmK 3 72 0 0) s m args below meth c val (F0 m 21 ls []) := by
  induction n generalizing x1 x2 x3 x4 x5 ls with
  | zero => cases h
  | succ n ih => exact t_C_clashes_21_s (a := a) C0 hP  (fun _ _ _ _ _ _ h hl => ih h hl) h hl
set_option maxHeartbeats 4000000 in
set_option maxRecDepth 100000 in
theorem t_C_clashes_0 {p : Program} {l : Launch} {e : Env} {s : State} {m : MethodId} {args : Array Value} {below : List Frame} {meth : Method} {c : Code} {D : va_G} {cI cZ : ClassId} {a : Nat → Nat} {q : Nat} {σ : StC} (C0 : Am p s m args meth c b_C_clashes (some .boolean) 6 R_C D [(cI, .int), (cZ, .boolean)]) (hP : va_P D vwCl (wC cI cZ a q σ) s.heap) {val : Int32}   {x1 x2 : Int32} (h : f_C_clashes σ x1 x2 = some val) {ls : Array Slot} (hl : lv_has ls 6 [(0, .ref (a 3)), (1, .int x1), (2, .int x2)]) : RoW p l e (rmK 3 72 0 0) s m args below meth c val (F0 m 0 ls []) := by
  obtain ⟨hx, hb, hr, hml, hown, hts, hlk, hK⟩ := id C0
  unfold f_C_clashes at h
  refine lv_aload_n hx hb d_C_clashes_0 rfl (lv_at hl 0 rfl) ?_
  refine ro_V (n := 0) (ci := 1) (As := []) (rest := []) C0 (c_C_newest l D cI cZ a q σ rfl) wd_28 ⟨wd_29, wd_30, wd_31, wd_8⟩ (by decide +kernel) ⟨Nat.le_of_ble_eq_true rfl, Nat.le_of_ble_eq_true rfl⟩ hP rfl rfl rfl hl rfl rfl (Nat.le_of_ble_eq_true rfl) ⟨Nat.zero_le _, Nat.zero_le _⟩ d_C_clashes_1 ?_
  refine lv_istore_n (lv' := [(3, .int (f_C_newest σ)), (0, .ref (a 3)), (1, .int x1), (2, .int x2)]) hx hb d_C_clashes_4 rfl hl (by decide) rfl (fun ls hl => ?_)
  refine lv_aload_n hx hb d_C_clashes_5 rfl (lv_at hl 1 rfl) ?_
  refine lv_iload_n hx hb d_C_clashes_6 rfl (lv_at hl 0 rfl) ?_
  replace h := bd h
  obtain ⟨r1, g1, h⟩ := h
  refine ro_V (n := 1) (ci := 1) (As := [.int (f_C_newest σ)]) (rest := []) C0 (c_C_aboveOf l D cI cZ a q σ (f_C_newest σ) g1) wd_119 ⟨wd_120, wd_121, wd_122, wd_8⟩ (by decide +kernel) ⟨Nat.le_of_ble_eq_true rfl, Nat.le_of_ble_eq_true rfl⟩ hP rfl rfl rfl hl rfl rfl (Nat.le_of_ble_eq_true rfl) ⟨Nat.zero_le _, Nat.zero_le _⟩ d_C_clashes_7 ?_
  try dsimp only at h
  refine lv_aload_n hx hb d_C_clashes_10 rfl (lv_at hl 1 rfl) ?_
  refine lv_iload_n hx hb d_C_clashes_11 rfl (lv_at hl 2 rfl) ?_
  replace h := bd h
  obtain ⟨r2, g2, h⟩ := h
  refine ro_V (n := 1) (ci := 1) (As := [.int x1]) (rest := [.int r1]) C0 (c_C_withAbove l D cI cZ a q σ x1 g2) wd_17 ⟨wd_18, wd_19, wd_20, wd_8⟩ (by decide +kernel) ⟨Nat.le_of_ble_eq_true rfl, Nat.le_of_ble_eq_true rfl⟩ hP rfl rfl rfl hl rfl rfl (Nat.le_of_ble_eq_true rfl) ⟨Nat.zero_le _, Nat.zero_le _⟩ d_C_clashes_12 ?_
  try dsimp only at h
  refine lv_iand hx hb d_C_clashes_15 ?_
  refine lv_istore (lv' := [(4, .int (r1 &&& r2)), (3, .int (f_C_newest σ)), (0, .ref (a 3)), (1, .int x1), (2, .int x2)]) hx hb d_C_clashes_16 hl (by decide) rfl (fun ls hl => ?_)
  refine lv_iconst (v := 0) hx hb d_C_clashes_18 (by decide) ?_
  refine lv_istore (lv' := [(5, .int 0), (4, .int (r1 &&& r2)), (3, .int (f_C_newest σ)), (0, .ref (a 3)), (1, .int x1), (2, .int x2)]) hx hb d_C_clashes_19 hl (by decide) rfl (fun ls hl => ?_)
  exact t_C_clashes_21 (a := a) C0 hP  h (lv_sub hl [3, 4, 5, 2, 1, 0] rfl)
set_option maxHeartbeats 4000000 in
set_option maxRecDepth 100000 in
theorem c_C_clashes (l : Launch) (D : va_G) (cI cZ : ClassId) (a : Nat → Nat) (q : Nat) (σ : StC) (x1 : Int32) (x2 : Int32) {val : Int32} (h : f_C_clashes σ x1 x2 = some val) : RoM l y_C_clashes b_C_clashes 6 (some .boolean) 3 72 D [(cI, .int), (cZ, .boolean)] [.ref (a 3), .int x1, .int x2] (wC cI cZ a q σ) val :=
  ro_of (by decide) (Nat.le_of_ble_eq_true rfl) (fun p e s m args below meth c ls C0 hP hl => t_C_clashes_0 (a := a) C0 hP h (lv_sub hl [0, 1, 2] rfl))
def f_C_leastOf_4_s (k4 : StC → Int32 → Int32 → Int32 → Option Int32) (σ : StC) (x1 x2 x3 : Int32) : Option Int32 :=
  if (C_count σ) ≤ x3 then
    some (x1 &&& (x2 ^^^ (-1)))
  else
    if (f_L_has x1 x3) = 0 then
      k4 σ x1 x2 (x3 + 1)
    else
      if x3 < 0 ∨ 30 ≤ x3.toNatClampNeg then none else
      k4 σ x1 (x2 ||| ((C_above σ) x3.toNatClampNeg)) (x3 + 1)
def f_C_leastOf_4 : Nat → StC → Int32 → Int32 → Int32 → Option Int32
  | 0, _, _, _, _ => none
  | n + 1, σ, x1, x2, x3 => f_C_leastOf_4_s (f_C_leastOf_4 n) σ x1 x2 x3
def f_C_leastOf (σ : StC) (x1 : Int32) : Option Int32 :=
  f_C_leastOf_4 1000 σ x1 0 0
set_option maxHeartbeats 4000000 in
set_option maxRecDepth 100000 in
theorem t_C_leastOf_4_s {p : Program} {l : Launch} {e : Env} {s : State} {m : MethodId} {args : Array Value} {below : List Frame} {meth : Method} {c : Code} {D : va_G} {cI cZ : ClassId} {a : Nat → Nat} {q : Nat} {σ : StC} (C0 : Am p s m args meth c b_C_leastOf (some .int) 4 R_C D [(cI, .int), (cZ, .boolean)]) (hP : va_P D vwCl (wC cI cZ a q σ) s.heap) {val : Int32} {k4 : StC → Int32 → Int32 → Int32 → Option Int32}  (hk4 : ∀ (x1 x2 x3 : Int32) (ls : Array Slot), k4 σ x1 x2 x3 = some val → lv_has ls 4 [(0, .ref (a 3)), (1, .int x1), (2, .int x2), (3, .int x3)] → RoW p l e (rmK 1 21 0 0) s m args below meth c val (F0 m 4 ls [])) {x1 x2 x3 : Int32} (h : f_C_leastOf_4_s k4 σ x1 x2 x3 = some val) {ls : Array Slot} (hl : lv_has ls 4 [(0, .ref (a 3)), (1, .int x1), (2, .int x2), (3, .int x3)]) : RoW p l e (rmK 1 21 0 0) s m args below meth c val (F0 m 4 ls []) := by
  obtain ⟨hx, hb, hr, hml, hown, hts, hlk, hK⟩ := id C0
  unfold f_C_leastOf_4_s at h
  refine lv_iload_n hx hb d_C_leastOf_4 rfl (lv_at hl 3 rfl) ?_
  refine lv_aload_n hx hb d_C_leastOf_5 rfl (lv_at hl 0 rfl) ?_
  refine va_get (ci := 1) (v := .int (C_count σ)) (C := R_C) (T := F_C) (N := 8) hx hb hts i_C hown hK.1 hP 0 rfl rfl 6 (by decide) (hts _ wd_3) (fun _ h9 => h9) rfl d_C_leastOf_6 ?_
  refine lv_icmp_ge (tgt := 35) hx hb d_C_leastOf_9 (by decide) (fun hc => ?_) (fun hc => ?_)
  · rw [if_pos hc] at h
    refine lv_iload_n hx hb d_C_leastOf_35 rfl (lv_at hl 1 rfl) ?_
    refine lv_iload_n hx hb d_C_leastOf_36 rfl (lv_at hl 2 rfl) ?_
    refine lv_iconst (v := (-1)) hx hb d_C_leastOf_37 (by decide) ?_
    refine lv_ixor hx hb d_C_leastOf_38 ?_
    refine lv_iand hx hb d_C_leastOf_39 ?_
    exact ro_ret C0 (Option.some.inj h) d_C_leastOf_40
  · rw [if_neg hc] at h
    refine lv_iload_n hx hb d_C_leastOf_12 rfl (lv_at hl 1 rfl) ?_
    refine lv_iload_n hx hb d_C_leastOf_13 rfl (lv_at hl 3 rfl) ?_
    refine ro_SN (n := 2) (As := [.int x1, .int x3]) (rest := []) C0 (c_L_has l D cI cZ a x1 x3 rfl) (List.mem_of_getElem? (i := 3) rfl) ⟨wd_104, wd_105, wd_55⟩ (by decide +kernel) ⟨Nat.le_of_ble_eq_true rfl, Nat.le_of_ble_eq_true rfl⟩ pnil hl rfl rfl (Nat.le_of_ble_eq_true rfl) ⟨Nat.zero_le _, Nat.zero_le _⟩ d_C_leastOf_14 ?_
    refine lv_if_eq (tgt := 29) hx hb d_C_leastOf_17 (by decide) (fun hc => ?_) (fun hc => ?_)
    · rw [if_pos hc] at h
      refine lv_iinc (v := (x3 + 1)) (lv' := [(3, .int (x3 + 1)), (0, .ref (a 3)), (1, .int x1), (2, .int x2)]) hx hb d_C_leastOf_29 hl (k := 3) rfl rfl (by decide) rfl (fun ls hl => ?_)
      refine lv_goto (tgt := 4) hx hb d_C_leastOf_32 (by decide) ?_
      exact hk4 _ _ _ _ h (lv_sub hl [1, 2, 3, 0] rfl)
    · rw [if_neg hc] at h
      refine lv_iload_n hx hb d_C_leastOf_20 rfl (lv_at hl 2 rfl) ?_
      refine lv_aload_n hx hb d_C_leastOf_21 rfl (lv_at hl 0 rfl) ?_
      refine va_get (ci := 1) (v := .ref (a 6)) (C := R_C) (T := F_C) (N := 8) hx hb hts i_C hown hK.1 hP 0 rfl rfl 2 (by decide) (hts _ wd_9) (fun _ h9 => h9) rfl d_C_leastOf_22 ?_
      refine lv_iload_n hx hb d_C_leastOf_25 rfl (lv_at hl 3 rfl) ?_
      replace h := gd h
      obtain ⟨hi, h⟩ := h
      refine va_iald hx hb hK.1 hP 3 0 rfl rfl hi d_C_leastOf_26 ?_
      refine lv_ior hx hb d_C_leastOf_27 ?_
      refine lv_istore_n (lv' := [(2, .int (x2 ||| ((C_above σ) x3.toNatClampNeg))), (0, .ref (a 3)), (1, .int x1), (3, .int x3)]) hx hb d_C_leastOf_28 rfl hl (by decide) rfl (fun ls hl => ?_)
      refine lv_iinc (v := (x3 + 1)) (lv' := [(3, .int (x3 + 1)), (2, .int (x2 ||| ((C_above σ) x3.toNatClampNeg))), (0, .ref (a 3)), (1, .int x1)]) hx hb d_C_leastOf_29 hl (k := 3) rfl rfl (by decide) rfl (fun ls hl => ?_)
      refine lv_goto (tgt := 4) hx hb d_C_leastOf_32 (by decide) ?_
      exact hk4 _ _ _ _ h (lv_sub hl [2, 3, 1, 0] rfl)
set_option maxHeartbeats 4000000 in
set_option maxRecDepth 100000 in
theorem t_C_leastOf_4 {p : Program} {l : Launch} {e : Env} {s : State} {m : MethodId} {args : Array Value} {below : List Frame} {meth : Method} {c : Code} {D : va_G} {cI cZ : ClassId} {a : Nat → Nat} {q : Nat} {σ : StC} (C0 : Am p s m args meth c b_C_leastOf (some .int) 4 R_C D [(cI, .int), (cZ, .boolean)]) (hP : va_P D vwCl (wC cI cZ a q σ) s.heap) {val : Int32}  {n : Nat} {x1 x2 x3 : Int32} (h : f_C_leastOf_4  n σ x1 x2 x3 = some val) {ls : Array Slot} (hl : lv_has ls 4 [(0, .ref (a 3)), (1, .int x1), (2, .int x2), (3, .int x3)]) : RoW p l e (rmK 1 21 0 0) s m args below meth c val (F0 m 4 ls []) := by
  induction n generalizing x1 x2 x3 ls with
  | zero => cases h
  | succ n ih => exact t_C_leastOf_4_s (a := a) C0 hP  (fun _ _ _ _ h hl => ih h hl) h hl
set_option maxHeartbeats 4000000 in
set_option maxRecDepth 100000 in
theorem t_C_leastOf_0 {p : Program} {l : Launch} {e : Env} {s : State} {m : MethodId} {args : Array Value} {below : List Frame} {meth : Method} {c : Code} {D : va_G} {cI cZ : ClassId} {a : Nat → Nat} {q : Nat} {σ : StC} (C0 : Am p s m args meth c b_C_leastOf (some .int) 4 R_C D [(cI, .int), (cZ, .boolean)]) (hP : va_P D vwCl (wC cI cZ a q σ) s.heap) {val : Int32}   {x1 : Int32} (h : f_C_leastOf σ x1 = some val) {ls : Array Slot} (hl : lv_has ls 4 [(0, .ref (a 3)), (1, .int x1)]) : RoW p l e (rmK 1 21 0 0) s m args below meth c val (F0 m 0 ls []) := by
  obtain ⟨hx, hb, hr, hml, hown, hts, hlk, hK⟩ := id C0
  unfold f_C_leastOf at h
  refine lv_iconst (v := 0) hx hb d_C_leastOf_0 (by decide) ?_
  refine lv_istore_n (lv' := [(2, .int 0), (0, .ref (a 3)), (1, .int x1)]) hx hb d_C_leastOf_1 rfl hl (by decide) rfl (fun ls hl => ?_)
  refine lv_iconst (v := 0) hx hb d_C_leastOf_2 (by decide) ?_
  refine lv_istore_n (lv' := [(3, .int 0), (2, .int 0), (0, .ref (a 3)), (1, .int x1)]) hx hb d_C_leastOf_3 rfl hl (by decide) rfl (fun ls hl => ?_)
  exact t_C_leastOf_4 (a := a) C0 hP  h (lv_sub hl [2, 3, 1, 0] rfl)
set_option maxHeartbeats 4000000 in
set_option maxRecDepth 100000 in
theorem c_C_leastOf (l : Launch) (D : va_G) (cI cZ : ClassId) (a : Nat → Nat) (q : Nat) (σ : StC) (x1 : Int32) {val : Int32} (h : f_C_leastOf σ x1 = some val) : RoM l y_C_leastOf b_C_leastOf 4 (some .int) 1 21 D [(cI, .int), (cZ, .boolean)] [.ref (a 3), .int x1] (wC cI cZ a q σ) val :=
  ro_of (by decide) (Nat.le_of_ble_eq_true rfl) (fun p e s m args below meth c ls C0 hP hl => t_C_leastOf_0 (a := a) C0 hP h (lv_sub hl [0, 1] rfl))
