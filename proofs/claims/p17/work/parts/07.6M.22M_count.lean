def f_M_count_4_s (k4 : Int32 → Int32 → Int32 → Option Int32) (x0 x1 x2 : Int32) : Option Int32 :=
  if 31 ≤ x2 then
    some x1
  else
    k4 x0 (x1 + ((x0 >>> (x2 &&& 31)) &&& 1)) (x2 + 1)
def f_M_count_4 : Nat → Int32 → Int32 → Int32 → Option Int32
  | 0, _, _, _ => none
  | n + 1, x0, x1, x2 => f_M_count_4_s (f_M_count_4 n) x0 x1 x2
def f_M_count (x0 : Int32) : Option Int32 :=
  f_M_count_4 1000 x0 0 0
set_option maxHeartbeats 4000000 in
set_option maxRecDepth 100000 in
theorem t_M_count_4_s {p : Program} {l : Launch} {e : Env} {s : State} {m : MethodId} {args : Array Value} {below : List Frame} {meth : Method} {c : Code} {D : va_G} {cI cZ : ClassId} {a : Nat → Nat} (C0 : Am p s m args meth c b_M_count (some .int) 3 R_M D [(cI, .int), (cZ, .boolean)]) {val : Int32} {k4 : Int32 → Int32 → Int32 → Option Int32}  (hk4 : ∀ (x0 x1 x2 : Int32) (ls : Array Slot), k4 x0 x1 x2 = some val → lv_has ls 3 [(0, .int x0), (1, .int x1), (2, .int x2)] → RoW p l e (rmK 0 0 0 0) s m args below meth c val (F0 m 4 ls [])) {x0 x1 x2 : Int32} (h : f_M_count_4_s k4 x0 x1 x2 = some val) {ls : Array Slot} (hl : lv_has ls 3 [(0, .int x0), (1, .int x1), (2, .int x2)]) : RoW p l e (rmK 0 0 0 0) s m args below meth c val (F0 m 4 ls []) := by
  obtain ⟨hx, hb, hr, hml, hown, hts, hlk, hK⟩ := id C0
  unfold f_M_count_4_s at h
  refine lv_iload_n hx hb d_M_count_4 rfl (lv_at hl 2 rfl) ?_
  refine lv_bipush (v := 31) hx hb d_M_count_5 (by decide) ?_
  refine lv_icmp_ge (tgt := 24) hx hb d_M_count_7 (by decide) (fun hc => ?_) (fun hc => ?_)
  · rw [if_pos hc] at h
    refine lv_iload_n hx hb d_M_count_24 rfl (lv_at hl 1 rfl) ?_
    exact ro_ret C0 (Option.some.inj h) d_M_count_25
  · rw [if_neg hc] at h
    refine lv_iload_n hx hb d_M_count_10 rfl (lv_at hl 1 rfl) ?_
    refine lv_iload_n hx hb d_M_count_11 rfl (lv_at hl 0 rfl) ?_
    refine lv_iload_n hx hb d_M_count_12 rfl (lv_at hl 2 rfl) ?_
    refine lv_ishr hx hb d_M_count_13 ?_
    refine lv_iconst (v := 1) hx hb d_M_count_14 (by decide) ?_
    refine lv_iand hx hb d_M_count_15 ?_
    refine lv_iadd hx hb d_M_count_16 ?_
    refine lv_istore_n (lv' := [(1, .int (x1 + ((x0 >>> (x2 &&& 31)) &&& 1))), (0, .int x0), (2, .int x2)]) hx hb d_M_count_17 rfl hl (by decide) rfl (fun ls hl => ?_)
    refine lv_iinc (v := (x2 + 1)) (lv' := [(2, .int (x2 + 1)), (1, .int (x1 + ((x0 >>> (x2 &&& 31)) &&& 1))), (0, .int x0)]) hx hb d_M_count_18 hl (k := 2) rfl rfl (by decide) rfl (fun ls hl => ?_)
    refine lv_goto (tgt := 4) hx hb d_M_count_21 (by decide) ?_
    exact hk4 _ _ _ _ h (lv_sub hl [2, 1, 0] rfl)
set_option maxHeartbeats 4000000 in
set_option maxRecDepth 100000 in
theorem t_M_count_4 {p : Program} {l : Launch} {e : Env} {s : State} {m : MethodId} {args : Array Value} {below : List Frame} {meth : Method} {c : Code} {D : va_G} {cI cZ : ClassId} {a : Nat → Nat} (C0 : Am p s m args meth c b_M_count (some .int) 3 R_M D [(cI, .int), (cZ, .boolean)]) {val : Int32}  {n : Nat} {x0 x1 x2 : Int32} (h : f_M_count_4  n x0 x1 x2 = some val) {ls : Array Slot} (hl : lv_has ls 3 [(0, .int x0), (1, .int x1), (2, .int x2)]) : RoW p l e (rmK 0 0 0 0) s m args below meth c val (F0 m 4 ls []) := by
  induction n generalizing x0 x1 x2 ls with
  | zero => cases h
  | succ n ih => exact t_M_count_4_s (a := a) C0  (fun _ _ _ _ h hl => ih h hl) h hl
set_option maxHeartbeats 4000000 in
set_option maxRecDepth 100000 in
theorem t_M_count_0 {p : Program} {l : Launch} {e : Env} {s : State} {m : MethodId} {args : Array Value} {below : List Frame} {meth : Method} {c : Code} {D : va_G} {cI cZ : ClassId} {a : Nat → Nat} (C0 : Am p s m args meth c b_M_count (some .int) 3 R_M D [(cI, .int), (cZ, .boolean)]) {val : Int32}   {x0 : Int32} (h : f_M_count x0 = some val) {ls : Array Slot} (hl : lv_has ls 3 [(0, .int x0)]) : RoW p l e (rmK 0 0 0 0) s m args below meth c val (F0 m 0 ls []) := by
  obtain ⟨hx, hb, hr, hml, hown, hts, hlk, hK⟩ := id C0
  unfold f_M_count at h
  refine lv_iconst (v := 0) hx hb d_M_count_0 (by decide) ?_
  refine lv_istore_n (lv' := [(1, .int 0), (0, .int x0)]) hx hb d_M_count_1 rfl hl (by decide) rfl (fun ls hl => ?_)
  refine lv_iconst (v := 0) hx hb d_M_count_2 (by decide) ?_
  refine lv_istore_n (lv' := [(2, .int 0), (1, .int 0), (0, .int x0)]) hx hb d_M_count_3 rfl hl (by decide) rfl (fun ls hl => ?_)
  exact t_M_count_4 (a := a) C0  h (lv_sub hl [2, 1, 0] rfl)
set_option maxHeartbeats 4000000 in
set_option maxRecDepth 100000 in
theorem c_M_count (l : Launch) (D : va_G) (cI cZ : ClassId) (a : Nat → Nat) (x0 : Int32) {val : Int32} (h : f_M_count x0 = some val) : RoM l y_M_count b_M_count 3 (some .int) 0 0 D [(cI, .int), (cZ, .boolean)] [.int x0] [] val :=
  ro_of (by decide) (Nat.le_of_ble_eq_true rfl) (fun p e s m args below meth c ls C0 hP hl => t_M_count_0 (a := a) C0 h (lv_sub hl [0] rfl))
