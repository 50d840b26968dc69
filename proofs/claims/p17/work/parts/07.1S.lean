def f_L_boxTypeOf (x0 : Int32) : Int32 :=
  (8 + x0)
set_option maxHeartbeats 4000000 in
set_option maxRecDepth 100000 in
theorem t_L_boxTypeOf_0 {p : Program} {l : Launch} {e : Env} {s : State} {m : MethodId} {args : Array Value} {below : List Frame} {meth : Method} {c : Code} {D : va_G} {cI cZ : ClassId} {a : Nat → Nat} (C0 : Am p s m args meth c b_L_boxTypeOf (some .int) 1 R_L D [(cI, .int), (cZ, .boolean)]) {val : Int32}   {x0 : Int32} (h : f_L_boxTypeOf x0 = val) {ls : Array Slot} (hl : lv_has ls 1 [(0, .int x0)]) : RoW p l e (rmK 0 0 0 0) s m args below meth c val (F0 m 0 ls []) := by
  obtain ⟨hx, hb, hr, hml, hown, hts, hlk, hK⟩ := id C0
  unfold f_L_boxTypeOf at h
  refine lv_bipush (v := 8) hx hb d_L_boxTypeOf_0 (by decide) ?_
  refine lv_iload_n hx hb d_L_boxTypeOf_2 rfl (lv_at hl 0 rfl) ?_
  refine lv_iadd hx hb d_L_boxTypeOf_3 ?_
  exact ro_ret C0 h d_L_boxTypeOf_4
set_option maxHeartbeats 4000000 in
set_option maxRecDepth 100000 in
theorem c_L_boxTypeOf (l : Launch) (D : va_G) (cI cZ : ClassId) (a : Nat → Nat) (x0 : Int32) {val : Int32} (h : f_L_boxTypeOf x0 = val) : RoM l y_L_boxTypeOf b_L_boxTypeOf 1 (some .int) 0 0 D [(cI, .int), (cZ, .boolean)] [.int x0] [] val :=
  ro_of (by decide) (Nat.le_of_ble_eq_true rfl) (fun p e s m args below meth c ls C0 hP hl => t_L_boxTypeOf_0 (a := a) C0 h (lv_sub hl [0] rfl))
def f_L_typeOf (x0 : Int32) : Int32 :=
  if 0 < x0 then
    (x0 >>> (2 &&& 31))
  else
    (-1)
set_option maxHeartbeats 4000000 in
set_option maxRecDepth 100000 in
theorem t_L_typeOf_0 {p : Program} {l : Launch} {e : Env} {s : State} {m : MethodId} {args : Array Value} {below : List Frame} {meth : Method} {c : Code} {D : va_G} {cI cZ : ClassId} {a : Nat → Nat} (C0 : Am p s m args meth c b_L_typeOf (some .int) 1 R_L D [(cI, .int), (cZ, .boolean)]) {val : Int32}   {x0 : Int32} (h : f_L_typeOf x0 = val) {ls : Array Slot} (hl : lv_has ls 1 [(0, .int x0)]) : RoW p l e (rmK 0 0 0 0) s m args below meth c val (F0 m 0 ls []) := by
  obtain ⟨hx, hb, hr, hml, hown, hts, hlk, hK⟩ := id C0
  unfold f_L_typeOf at h
  refine lv_iload_n hx hb d_L_typeOf_0 rfl (lv_at hl 0 rfl) ?_
  refine lv_if_gt (tgt := 8) hx hb d_L_typeOf_1 (by decide) (fun hc => ?_) (fun hc => ?_)
  · rw [if_pos hc] at h
    refine lv_iload_n hx hb d_L_typeOf_8 rfl (lv_at hl 0 rfl) ?_
    refine lv_iconst (v := 2) hx hb d_L_typeOf_9 (by decide) ?_
    refine lv_ishr hx hb d_L_typeOf_10 ?_
    exact ro_ret C0 h d_L_typeOf_11
  · rw [if_neg hc] at h
    refine lv_iconst (v := (-1)) hx hb d_L_typeOf_4 (by decide) ?_
    refine lv_goto (tgt := 11) hx hb d_L_typeOf_5 (by decide) ?_
    exact ro_ret C0 h d_L_typeOf_11
set_option maxHeartbeats 4000000 in
set_option maxRecDepth 100000 in
theorem c_L_typeOf (l : Launch) (D : va_G) (cI cZ : ClassId) (a : Nat → Nat) (x0 : Int32) {val : Int32} (h : f_L_typeOf x0 = val) : RoM l y_L_typeOf b_L_typeOf 1 (some .int) 0 0 D [(cI, .int), (cZ, .boolean)] [.int x0] [] val :=
  ro_of (by decide) (Nat.le_of_ble_eq_true rfl) (fun p e s m args below meth c ls C0 hP hl => t_L_typeOf_0 (a := a) C0 h (lv_sub hl [0] rfl))
def f_L_has (x0 x1 : Int32) : Int32 :=
  if ((x0 >>> (x1 &&& 31)) &&& 1) = 0 then
    0
  else
    1
set_option maxHeartbeats 4000000 in
set_option maxRecDepth 100000 in
theorem t_L_has_0 {p : Program} {l : Launch} {e : Env} {s : State} {m : MethodId} {args : Array Value} {below : List Frame} {meth : Method} {c : Code} {D : va_G} {cI cZ : ClassId} {a : Nat → Nat} (C0 : Am p s m args meth c b_L_has (some .boolean) 2 R_L D [(cI, .int), (cZ, .boolean)]) {val : Int32}   {x0 x1 : Int32} (h : f_L_has x0 x1 = val) {ls : Array Slot} (hl : lv_has ls 2 [(0, .int x0), (1, .int x1)]) : RoW p l e (rmK 0 0 0 0) s m args below meth c val (F0 m 0 ls []) := by
  obtain ⟨hx, hb, hr, hml, hown, hts, hlk, hK⟩ := id C0
  unfold f_L_has at h
  refine lv_iload_n hx hb d_L_has_0 rfl (lv_at hl 0 rfl) ?_
  refine lv_iload_n hx hb d_L_has_1 rfl (lv_at hl 1 rfl) ?_
  refine lv_ishr hx hb d_L_has_2 ?_
  refine lv_iconst (v := 1) hx hb d_L_has_3 (by decide) ?_
  refine lv_iand hx hb d_L_has_4 ?_
  refine lv_if_eq (tgt := 12) hx hb d_L_has_5 (by decide) (fun hc => ?_) (fun hc => ?_)
  · rw [if_pos hc] at h
    refine lv_iconst (v := 0) hx hb d_L_has_12 (by decide) ?_
    exact ro_retz C0 (by decide) h d_L_has_13
  · rw [if_neg hc] at h
    refine lv_iconst (v := 1) hx hb d_L_has_8 (by decide) ?_
    refine lv_goto (tgt := 13) hx hb d_L_has_9 (by decide) ?_
    exact ro_retz C0 (by decide) h d_L_has_13
set_option maxHeartbeats 4000000 in
set_option maxRecDepth 100000 in
theorem c_L_has (l : Launch) (D : va_G) (cI cZ : ClassId) (a : Nat → Nat) (x0 : Int32) (x1 : Int32) {val : Int32} (h : f_L_has x0 x1 = val) : RoM l y_L_has b_L_has 2 (some .boolean) 0 0 D [(cI, .int), (cZ, .boolean)] [.int x0, .int x1] [] val :=
  ro_of (by decide) (Nat.le_of_ble_eq_true rfl) (fun p e s m args below meth c ls C0 hP hl => t_L_has_0 (a := a) C0 h (lv_sub hl [0, 1] rfl))
def f_L_argumentOf (x0 x1 : Int32) : Int32 :=
  if x0 = 0 then
    0
  else
    ((x1 * 4) + x0)
set_option maxHeartbeats 4000000 in
set_option maxRecDepth 100000 in
theorem t_L_argumentOf_0 {p : Program} {l : Launch} {e : Env} {s : State} {m : MethodId} {args : Array Value} {below : List Frame} {meth : Method} {c : Code} {D : va_G} {cI cZ : ClassId} {a : Nat → Nat} (C0 : Am p s m args meth c b_L_argumentOf (some .int) 2 R_L D [(cI, .int), (cZ, .boolean)]) {val : Int32}   {x0 x1 : Int32} (h : f_L_argumentOf x0 x1 = val) {ls : Array Slot} (hl : lv_has ls 2 [(0, .int x0), (1, .int x1)]) : RoW p l e (rmK 0 0 0 0) s m args below meth c val (F0 m 0 ls []) := by
  obtain ⟨hx, hb, hr, hml, hown, hts, hlk, hK⟩ := id C0
  unfold f_L_argumentOf at h
  refine lv_iload_n hx hb d_L_argumentOf_0 rfl (lv_at hl 0 rfl) ?_
  refine lv_if_ne (tgt := 8) hx hb d_L_argumentOf_1 (by decide) (fun hc => ?_) (fun hc => ?_)
  · rw [if_neg hc] at h
    refine lv_iload_n hx hb d_L_argumentOf_8 rfl (lv_at hl 1 rfl) ?_
    refine lv_iconst (v := 4) hx hb d_L_argumentOf_9 (by decide) ?_
    refine lv_imul hx hb d_L_argumentOf_10 ?_
    refine lv_iload_n hx hb d_L_argumentOf_11 rfl (lv_at hl 0 rfl) ?_
    refine lv_iadd hx hb d_L_argumentOf_12 ?_
    exact ro_ret C0 h d_L_argumentOf_13
  · rw [if_pos hc] at h
    refine lv_iconst (v := 0) hx hb d_L_argumentOf_4 (by decide) ?_
    refine lv_goto (tgt := 13) hx hb d_L_argumentOf_5 (by decide) ?_
    exact ro_ret C0 h d_L_argumentOf_13
set_option maxHeartbeats 4000000 in
set_option maxRecDepth 100000 in
theorem c_L_argumentOf (l : Launch) (D : va_G) (cI cZ : ClassId) (a : Nat → Nat) (x0 : Int32) (x1 : Int32) {val : Int32} (h : f_L_argumentOf x0 x1 = val) : RoM l y_L_argumentOf b_L_argumentOf 2 (some .int) 0 0 D [(cI, .int), (cZ, .boolean)] [.int x0, .int x1] [] val :=
  ro_of (by decide) (Nat.le_of_ble_eq_true rfl) (fun p e s m args below meth c ls C0 hP hl => t_L_argumentOf_0 (a := a) C0 h (lv_sub hl [0, 1] rfl))
def f_L_howOf (x0 : Int32) : Int32 :=
  if 0 < x0 then
    (x0 &&& 3)
  else
    0
set_option maxHeartbeats 4000000 in
set_option maxRecDepth 100000 in
theorem t_L_howOf_0 {p : Program} {l : Launch} {e : Env} {s : State} {m : MethodId} {args : Array Value} {below : List Frame} {meth : Method} {c : Code} {D : va_G} {cI cZ : ClassId} {a : Nat → Nat} (C0 : Am p s m args meth c b_L_howOf (some .int) 1 R_L D [(cI, .int), (cZ, .boolean)]) {val : Int32}   {x0 : Int32} (h : f_L_howOf x0 = val) {ls : Array Slot} (hl : lv_has ls 1 [(0, .int x0)]) : RoW p l e (rmK 0 0 0 0) s m args below meth c val (F0 m 0 ls []) := by
  obtain ⟨hx, hb, hr, hml, hown, hts, hlk, hK⟩ := id C0
  unfold f_L_howOf at h
  refine lv_iload_n hx hb d_L_howOf_0 rfl (lv_at hl 0 rfl) ?_
  refine lv_if_gt (tgt := 8) hx hb d_L_howOf_1 (by decide) (fun hc => ?_) (fun hc => ?_)
  · rw [if_pos hc] at h
    refine lv_iload_n hx hb d_L_howOf_8 rfl (lv_at hl 0 rfl) ?_
    refine lv_iconst (v := 3) hx hb d_L_howOf_9 (by decide) ?_
    refine lv_iand hx hb d_L_howOf_10 ?_
    exact ro_ret C0 h d_L_howOf_11
  · rw [if_neg hc] at h
    refine lv_iconst (v := 0) hx hb d_L_howOf_4 (by decide) ?_
    refine lv_goto (tgt := 11) hx hb d_L_howOf_5 (by decide) ?_
    exact ro_ret C0 h d_L_howOf_11
set_option maxHeartbeats 4000000 in
set_option maxRecDepth 100000 in
theorem c_L_howOf (l : Launch) (D : va_G) (cI cZ : ClassId) (a : Nat → Nat) (x0 : Int32) {val : Int32} (h : f_L_howOf x0 = val) : RoM l y_L_howOf b_L_howOf 1 (some .int) 0 0 D [(cI, .int), (cZ, .boolean)] [.int x0] [] val :=
  ro_of (by decide) (Nat.le_of_ble_eq_true rfl) (fun p e s m args below meth c ls C0 hP hl => t_L_howOf_0 (a := a) C0 h (lv_sub hl [0] rfl))
