def f_M_leastOf_4_s (k4 : StM → Int32 → Int32 → Int32 → Option Int32) (σ : StM) (x1 x2 x3 : Int32) : Option Int32 :=
  if (M_classes σ) ≤ x3 then
    some x2
  else
    if ((x1 >>> (x3 &&& 31)) &&& 1) = 1 then
      if x3 < 0 ∨ 30 ≤ x3.toNatClampNeg then none else
      k4 σ x1 (x2 &&& (((M_over σ) x3.toNatClampNeg) ^^^ (-1))) (x3 + 1)
    else
      k4 σ x1 x2 (x3 + 1)
def f_M_leastOf_4 : Nat → StM → Int32 → Int32 → Int32 → Option Int32
  | 0, _, _, _, _ => none
  | n + 1, σ, x1, x2, x3 => f_M_leastOf_4_s (f_M_leastOf_4 n) σ x1 x2 x3
def f_M_leastOf (σ : StM) (x1 : Int32) : Option Int32 :=
  f_M_leastOf_4 1000 σ x1 x1 0
set_option maxHeartbeats 4000000 in
set_option maxRecDepth 100000 in
theorem t_M_leastOf_4_s {p : Program} {l : Launch} {e : Env} {s : State} {m : MethodId} {args : Array Value} {below : List Frame} {meth : Method} {c : Code} {D : va_G} {cI cZ : ClassId} {a : Nat → Nat} {q : Nat} {σ : StM} (C0 : Am p s m args meth c b_M_leastOf (some .int) 4 R_M D [(cI, .int), (cZ, .boolean)]) (hP : va_P D vwCl (wM cI cZ a q σ) s.heap) {val : Int32} {k4 : StM → Int32 → Int32 → Int32 → Option Int32}  (hk4 : ∀ (x1 x2 x3 : Int32) (ls : Array Slot), k4 σ x1 x2 x3 = some val → lv_has ls 4 [(0, .ref (a 20)), (1, .int x1), (2, .int x2), (3, .int x3)] → RoW p l e (rmK 0 0 0 0) s m args below meth c val (F0 m 4 ls [])) {x1 x2 x3 : Int32} (h : f_M_leastOf_4_s k4 σ x1 x2 x3 = some val) {ls : Array Slot} (hl : lv_has ls 4 [(0, .ref (a 20)), (1, .int x1), (2, .int x2), (3, .int x3)]) : RoW p l e (rmK 0 0 0 0) s m args below meth c val (F0 m 4 ls []) := by
  obtain ⟨hx, hb, hr, hml, hown, hts, hlk, hK⟩ := id C0
  unfold f_M_leastOf_4_s at h
  refine lv_iload_n hx hb d_M_leastOf_4 rfl (lv_at hl 3 rfl) ?_
  refine lv_aload_n hx hb d_M_leastOf_5 rfl (lv_at hl 0 rfl) ?_
  refine va_get (ci := 4) (v := .int (M_classes σ)) (C := R_M) (T := F_M) (N := 35) hx hb hts i_M hown hK.1 hP 0 rfl rfl 2 (by decide) (hts _ wd_343) (fun _ h9 => h9) rfl d_M_leastOf_6 ?_
  refine lv_icmp_ge (tgt := 38) hx hb d_M_leastOf_9 (by decide) (fun hc => ?_) (fun hc => ?_)
  · rw [if_pos hc] at h
    refine lv_iload_n hx hb d_M_leastOf_38 rfl (lv_at hl 2 rfl) ?_
    exact ro_ret C0 (Option.some.inj h) d_M_leastOf_39
  · rw [if_neg hc] at h
    refine lv_iload_n hx hb d_M_leastOf_12 rfl (lv_at hl 1 rfl) ?_
    refine lv_iload_n hx hb d_M_leastOf_13 rfl (lv_at hl 3 rfl) ?_
    refine lv_ishr hx hb d_M_leastOf_14 ?_
    refine lv_iconst (v := 1) hx hb d_M_leastOf_15 (by decide) ?_
    refine lv_iand hx hb d_M_leastOf_16 ?_
    refine lv_iconst (v := 1) hx hb d_M_leastOf_17 (by decide) ?_
    refine lv_icmp_ne (tgt := 32) hx hb d_M_leastOf_18 (by decide) (fun hc => ?_) (fun hc => ?_)
    · rw [if_neg hc] at h
      refine lv_iinc (v := (x3 + 1)) (lv' := [(3, .int (x3 + 1)), (0, .ref (a 20)), (1, .int x1), (2, .int x2)]) hx hb d_M_leastOf_32 hl (k := 3) rfl rfl (by decide) rfl (fun ls hl => ?_)
      refine lv_goto (tgt := 4) hx hb d_M_leastOf_35 (by decide) ?_
      exact hk4 _ _ _ _ h (lv_sub hl [1, 2, 3, 0] rfl)
    · rw [if_pos hc] at h
      refine lv_iload_n hx hb d_M_leastOf_21 rfl (lv_at hl 2 rfl) ?_
      refine lv_aload_n hx hb d_M_leastOf_22 rfl (lv_at hl 0 rfl) ?_
      refine va_get (ci := 4) (v := .ref (a 26)) (C := R_M) (T := F_M) (N := 35) hx hb hts i_M hown hK.1 hP 0 rfl rfl 9 (by decide) (hts _ wd_341) (fun _ h9 => h9) rfl d_M_leastOf_23 ?_
      refine lv_iload_n hx hb d_M_leastOf_26 rfl (lv_at hl 3 rfl) ?_
      replace h := gd h
      obtain ⟨hi, h⟩ := h
      refine va_iald hx hb hK.1 hP 6 0 rfl rfl hi d_M_leastOf_27 ?_
      refine lv_iconst (v := (-1)) hx hb d_M_leastOf_28 (by decide) ?_
      refine lv_ixor hx hb d_M_leastOf_29 ?_
      refine lv_iand hx hb d_M_leastOf_30 ?_
      refine lv_istore_n (lv' := [(2, .int (x2 &&& (((M_over σ) x3.toNatClampNeg) ^^^ (-1)))), (0, .ref (a 20)), (1, .int x1), (3, .int x3)]) hx hb d_M_leastOf_31 rfl hl (by decide) rfl (fun ls hl => ?_)
      refine lv_iinc (v := (x3 + 1)) (lv' := [(3, .int (x3 + 1)), (2, .int (x2 &&& (((M_over σ) x3.toNatClampNeg) ^^^ (-1)))), (0, .ref (a 20)), (1, .int x1)]) hx hb d_M_leastOf_32 hl (k := 3) rfl rfl (by decide) rfl (fun ls hl => ?_)
      refine lv_goto (tgt := 4) hx hb d_M_leastOf_35 (by decide) ?_
      exact hk4 _ _ _ _ h (lv_sub hl [2, 3, 1, 0] rfl)
set_option maxHeartbeats 4000000 in
set_option maxRecDepth 100000 in
theorem t_M_leastOf_4 {p : Program} {l : Launch} {e : Env} {s : State} {m : MethodId} {args : Array Value} {below : List Frame} {meth : Method} {c : Code} {D : va_G} {cI cZ : ClassId} {a : Nat → Nat} {q : Nat} {σ : StM} (C0 : Am p s m args meth c b_M_leastOf (some .int) 4 R_M D [(cI, .int), (cZ, .boolean)]) (hP : va_P D vwCl (wM cI cZ a q σ) s.heap) {val : Int32}  {n : Nat} {x1 x2 x3 : Int32} (h : f_M_leastOf_4  n σ x1 x2 x3 = some val) {ls : Array Slot} (hl : lv_has ls 4 [(0, .ref (a 20)), (1, .int x1), (2, .int x2), (3, .int x3)]) : RoW p l e (rmK 0 0 0 0) s m args below meth c val (F0 m 4 ls []) := by
  induction n generalizing x1 x2 x3 ls with
  | zero => cases h
  | succ n ih => exact t_M_leastOf_4_s (a := a) C0 hP  (fun _ _ _ _ h hl => ih h hl) h hl
set_option maxHeartbeats 4000000 in
set_option maxRecDepth 100000 in
theorem t_M_leastOf_0 {p : Program} {l : Launch} {e : Env} {s : State} {m : MethodId} {args : Array Value} {below : List Frame} {meth : Method} {c : Code} {D : va_G} {cI cZ : ClassId} {a : Nat → Nat} {q : Nat} {σ : StM} (C0 : Am p s m args meth c b_M_leastOf (some .int) 4 R_M D [(cI, .int), (cZ, .boolean)]) (hP : va_P D vwCl (wM cI cZ a q σ) s.heap) {val : Int32}   {x1 : Int32} (h : f_M_leastOf σ x1 = some val) {ls : Array Slot} (hl : lv_has ls 4 [(0, .ref (a 20)), (1, .int x1)]) : RoW p l e (rmK 0 0 0 0) s m args below meth c val (F0 m 0 ls []) := by
  obtain ⟨hx, hb, hr, hml, hown, hts, hlk, hK⟩ := id C0
  unfold f_M_leastOf at h
  refine lv_iload_n hx hb d_M_leastOf_0 rfl (lv_at hl 1 rfl) ?_
  refine lv_istore_n (lv' := [(2, .int x1), (0, .ref (a 20)), (1, .int x1)]) hx hb d_M_leastOf_1 rfl hl (by decide) rfl (fun ls hl => ?_)
  refine lv_iconst (v := 0) hx hb d_M_leastOf_2 (by decide) ?_
  refine lv_istore_n (lv' := [(3, .int 0), (2, .int x1), (0, .ref (a 20)), (1, .int x1)]) hx hb d_M_leastOf_3 rfl hl (by decide) rfl (fun ls hl => ?_)
  exact t_M_leastOf_4 (a := a) C0 hP  h (lv_sub hl [2, 3, 1, 0] rfl)
set_option maxHeartbeats 4000000 in
set_option maxRecDepth 100000 in
theorem c_M_leastOf (l : Launch) (D : va_G) (cI cZ : ClassId) (a : Nat → Nat) (q : Nat) (σ : StM) (x1 : Int32) {val : Int32} (h : f_M_leastOf σ x1 = some val) : RoM l y_M_leastOf b_M_leastOf 4 (some .int) 0 0 D [(cI, .int), (cZ, .boolean)] [.ref (a 20), .int x1] (wM cI cZ a q σ) val :=
  ro_of (by decide) (Nat.le_of_ble_eq_true rfl) (fun p e s m args below meth c ls C0 hP hl => t_M_leastOf_0 (a := a) C0 hP h (lv_sub hl [0, 1] rfl))
