def f_M_isBelowAll_5_s (k5 : StM → Int32 → Int32 → Int32 → Int32 → Option Int32) (σ : StM) (x1 x2 x3 x4 : Int32) : Option Int32 :=
  if x2 < 0 ∨ 300 ≤ x2.toNatClampNeg then none else
  if ((M_partCount σ) x2.toNatClampNeg) ≤ x4 then
    some (x3 &&& 1)
  else
    if x3 = 0 then
      k5 σ x1 x2 0 (x4 + 1)
    else
      if ((30 * x2) + x4) < 0 ∨ 9000 ≤ ((30 * x2) + x4).toNatClampNeg then none else
      if ((300 * x1) + ((M_partRow σ) ((30 * x2) + x4).toNatClampNeg)) < 0 ∨ 90000 ≤ ((300 * x1) + ((M_partRow σ) ((30 * x2) + x4).toNatClampNeg)).toNatClampNeg then none else
      if ((M_below σ) ((300 * x1) + ((M_partRow σ) ((30 * x2) + x4).toNatClampNeg)).toNatClampNeg) = 0 then
        k5 σ x1 x2 0 (x4 + 1)
      else
        k5 σ x1 x2 1 (x4 + 1)
def f_M_isBelowAll_5 : Nat → StM → Int32 → Int32 → Int32 → Int32 → Option Int32
  | 0, _, _, _, _, _ => none
  | n + 1, σ, x1, x2, x3, x4 => f_M_isBelowAll_5_s (f_M_isBelowAll_5 n) σ x1 x2 x3 x4
def f_M_isBelowAll (σ : StM) (x1 x2 : Int32) : Option Int32 :=
  f_M_isBelowAll_5 1000 σ x1 x2 1 0
set_option maxHeartbeats 4000000 in
set_option maxRecDepth 100000 in
theorem t_M_isBelowAll_5_s {p : Program} {l : Launch} {e : Env} {s : State} {m : MethodId} {args : Array Value} {below : List Frame} {meth : Method} {c : Code} {D : va_G} {cI cZ : ClassId} {a : Nat → Nat} {q : Nat} {σ : StM} (C0 : Am p s m args meth c b_M_isBelowAll (some .boolean) 5 R_M D [(cI, .int), (cZ, .boolean)]) (hP : va_P D vwCl (wM cI cZ a q σ) s.heap) {val : Int32} {k5 : StM → Int32 → Int32 → Int32 → Int32 → Option Int32}  (hk5 : ∀ (x1 x2 x3 x4 : Int32) (ls : Array Slot), k5 σ x1 x2 x3 x4 = some val → lv_has ls 5 [(0, .ref (a 20)), (1, .int x1), (2, .int x2), (3, .int x3), (4, .int x4)] → RoW p l e (rmK 0 0 0 0) s m args below meth c val (F0 m 5 ls [])) {x1 x2 x3 x4 : Int32} (h : f_M_isBelowAll_5_s k5 σ x1 x2 x3 x4 = some val) {ls : Array Slot} (hl : lv_has ls 5 [(0, .ref (a 20)), (1, .int x1), (2, .int x2), (3, .int x3), (4, .int x4)]) : RoW p l e (rmK 0 0 0 0) s m args below meth c val (F0 m 5 ls []) := by
  obtain ⟨hx, hb, hr, hml, hown, hts, hlk, hK⟩ := id C0
  unfold f_M_isBelowAll_5_s at h
  refine lv_iload hx hb d_M_isBelowAll_5 (lv_at hl 4 rfl) ?_
  refine lv_aload_n hx hb d_M_isBelowAll_7 rfl (lv_at hl 0 rfl) ?_
  refine va_get (ci := 4) (v := .ref (a 32)) (C := R_M) (T := F_M) (N := 35) hx hb hts i_M hown hK.1 hP 0 rfl rfl 16 (by decide) (hts _ wd_354) (fun _ h9 => h9) rfl d_M_isBelowAll_8 ?_
  refine lv_iload_n hx hb d_M_isBelowAll_11 rfl (lv_at hl 2 rfl) ?_
  replace h := gd h
  obtain ⟨hi, h⟩ := h
  refine va_iald hx hb hK.1 hP 12 0 rfl rfl hi d_M_isBelowAll_12 ?_
  refine lv_icmp_ge (tgt := 58) hx hb d_M_isBelowAll_13 (by decide) (fun hc => ?_) (fun hc => ?_)
  · rw [if_pos hc] at h
    refine lv_iload_n hx hb d_M_isBelowAll_58 rfl (lv_at hl 3 rfl) ?_
    exact ro_retz C0 rfl (Option.some.inj h) d_M_isBelowAll_59
  · rw [if_neg hc] at h
    refine lv_iload_n hx hb d_M_isBelowAll_16 rfl (lv_at hl 3 rfl) ?_
    refine lv_if_eq (tgt := 50) hx hb d_M_isBelowAll_17 (by decide) (fun hc => ?_) (fun hc => ?_)
    · rw [if_pos hc] at h
      refine lv_iconst (v := 0) hx hb d_M_isBelowAll_50 (by decide) ?_
      refine lv_istore_n (lv' := [(3, .int 0), (0, .ref (a 20)), (1, .int x1), (2, .int x2), (4, .int x4)]) hx hb d_M_isBelowAll_51 rfl hl (by decide) rfl (fun ls hl => ?_)
      refine lv_iinc (v := (x4 + 1)) (lv' := [(4, .int (x4 + 1)), (3, .int 0), (0, .ref (a 20)), (1, .int x1), (2, .int x2)]) hx hb d_M_isBelowAll_52 hl (k := 4) rfl rfl (by decide) rfl (fun ls hl => ?_)
      refine lv_goto (tgt := 5) hx hb d_M_isBelowAll_55 (by decide) ?_
      exact hk5 _ _ _ _ _ h (lv_sub hl [2, 3, 4, 1, 0] rfl)
    · rw [if_neg hc] at h
      refine lv_aload_n hx hb d_M_isBelowAll_20 rfl (lv_at hl 0 rfl) ?_
      refine va_get (ci := 4) (v := .ref (a 35)) (C := R_M) (T := F_M) (N := 35) hx hb hts i_M hown hK.1 hP 0 rfl rfl 23 (by decide) (hts _ wd_370) (fun _ h9 => h9) rfl d_M_isBelowAll_21 ?_
      refine lv_sipush (v := 300) hx hb d_M_isBelowAll_24 (by decide) ?_
      refine lv_iload_n hx hb d_M_isBelowAll_27 rfl (lv_at hl 1 rfl) ?_
      refine lv_imul hx hb d_M_isBelowAll_28 ?_
      refine lv_aload_n hx hb d_M_isBelowAll_29 rfl (lv_at hl 0 rfl) ?_
      refine va_get (ci := 4) (v := .ref (a 33)) (C := R_M) (T := F_M) (N := 35) hx hb hts i_M hown hK.1 hP 0 rfl rfl 17 (by decide) (hts _ wd_355) (fun _ h9 => h9) rfl d_M_isBelowAll_30 ?_
      refine lv_bipush (v := 30) hx hb d_M_isBelowAll_33 (by decide) ?_
      refine lv_iload_n hx hb d_M_isBelowAll_35 rfl (lv_at hl 2 rfl) ?_
      refine lv_imul hx hb d_M_isBelowAll_36 ?_
      refine lv_iload hx hb d_M_isBelowAll_37 (lv_at hl 4 rfl) ?_
      refine lv_iadd hx hb d_M_isBelowAll_39 ?_
      replace h := gd h
      obtain ⟨hi, h⟩ := h
      refine va_iald hx hb hK.1 hP 13 0 rfl rfl hi d_M_isBelowAll_40 ?_
      refine lv_iadd hx hb d_M_isBelowAll_41 ?_
      replace h := gd h
      obtain ⟨hi, h⟩ := h
      refine va_zald hx hb hK.1 hP 15 1 rfl rfl hi d_M_isBelowAll_42 ?_
      refine lv_if_eq (tgt := 50) hx hb d_M_isBelowAll_43 (by decide) (fun hc => ?_) (fun hc => ?_)
      · rw [if_pos hc] at h
        refine lv_iconst (v := 0) hx hb d_M_isBelowAll_50 (by decide) ?_
        refine lv_istore_n (lv' := [(3, .int 0), (0, .ref (a 20)), (1, .int x1), (2, .int x2), (4, .int x4)]) hx hb d_M_isBelowAll_51 rfl hl (by decide) rfl (fun ls hl => ?_)
        refine lv_iinc (v := (x4 + 1)) (lv' := [(4, .int (x4 + 1)), (3, .int 0), (0, .ref (a 20)), (1, .int x1), (2, .int x2)]) hx hb d_M_isBelowAll_52 hl (k := 4) rfl rfl (by decide) rfl (fun ls hl => ?_)
        refine lv_goto (tgt := 5) hx hb d_M_isBelowAll_55 (by decide) ?_
        exact hk5 _ _ _ _ _ h (lv_sub hl [2, 3, 4, 1, 0] rfl)
      · rw [if_neg hc] at h
        refine lv_iconst (v := 1) hx hb d_M_isBelowAll_46 (by decide) ?_
        refine lv_goto (tgt := 51) hx hb d_M_isBelowAll_47 (by decide) ?_
        refine lv_istore_n (lv' := [(3, .int 1), (0, .ref (a 20)), (1, .int x1), (2, .int x2), (4, .int x4)]) hx hb d_M_isBelowAll_51 rfl hl (by decide) rfl (fun ls hl => ?_)
        refine lv_iinc (v := (x4 + 1)) (lv' := [(4, .int (x4 + 1)), (3, .int 1), (0, .ref (a 20)), (1, .int x1), (2, .int x2)]) hx hb d_M_isBelowAll_52 hl (k := 4) rfl rfl (by decide) rfl (fun ls hl => ?_)
        refine lv_goto (tgt := 5) hx hb d_M_isBelowAll_55 (by decide) ?_
        exact hk5 _ _ _ _ _ h (lv_sub hl [2, 3, 4, 1, 0] rfl)
set_option maxHeartbeats 4000000 in
set_option maxRecDepth 100000 in
theorem t_M_isBelowAll_5 {p : Program} {l : Launch} {e : Env} {s : State} {m : MethodId} {args : Array Value} {below : List Frame} {meth : Method} {c : Code} {D : va_G} {cI cZ : ClassId} {a : Nat → Nat} {q : Nat} {σ : StM} (C0 : Am p s m args meth c b_M_isBelowAll (some .boolean) 5 R_M D [(cI, .int), (cZ, .boolean)]) (hP : va_P D vwCl (wM cI cZ a q σ) s.heap) {val : Int32}  {n : Nat} {x1 x2 x3 x4 : Int32} (h : f_M_isBelowAll_5  n σ x1 x2 x3 x4 = some val) {ls : Array Slot} (hl : lv_has ls 5 [(0, .ref (a 20)), (1, .int x1), (2, .int x2), (3, .int x3), (4, .int x4)]) : RoW p l e (rmK 0 0 0 0) s m args below meth c val (F0 m 5 ls []) := by
  induction n generalizing x1 x2 x3 x4 ls with
  | zero => cases h
  | succ n ih => exact t_M_isBelowAll_5_s (a := a) C0 hP  (fun _ _ _ _ _ h hl => ih h hl) h hl
set_option maxHeartbeats 4000000 in
set_option maxRecDepth 100000 in
theorem t_M_isBelowAll_0 {p : Program} {l : Launch} {e : Env} {s : State} {m : MethodId} {args : Array Value} {below : List Frame} {meth : Method} {c : Code} {D : va_G} {cI cZ : ClassId} {a : Nat → Nat} {q : Nat} {σ : StM} (C0 : Am p s m args meth c b_M_isBelowAll (some .boolean) 5 R_M D [(cI, .int), (cZ, .boolean)]) (hP : va_P D vwCl (wM cI cZ a q σ) s.heap) {val : Int32}   {x1 x2 : Int32} (h : f_M_isBelowAll σ x1 x2 = some val) {ls : Array Slot} (hl : lv_has ls 5 [(0, .ref (a 20)), (1, .int x1), (2, .int x2)]) : RoW p l e (rmK 0 0 0 0) s m args below meth c val (F0 m 0 ls []) := by
  obtain ⟨hx, hb, hr, hml, hown, hts, hlk, hK⟩ := id C0
  unfold f_M_isBelowAll at h
  refine lv_iconst (v := 1) hx hb d_M_isBelowAll_0 (by decide) ?_
  refine lv_istore_n (lv' := [(3, .int 1), (0, .ref (a 20)), (1, .int x1), (2, .int x2)]) hx hb d_M_isBelowAll_1 rfl hl (by decide) rfl (fun ls hl => ?_)
  refine lv_iconst (v := 0) hx hb d_M_isBelowAll_2 (by decide) ?_
  refine lv_istore (lv' := [(4, .int 0), (3, .int 1), (0, .ref (a 20)), (1, .int x1), (2, .int x2)]) hx hb d_M_isBelowAll_3 hl (by decide) rfl (fun ls hl => ?_)
  exact t_M_isBelowAll_5 (a := a) C0 hP  h (lv_sub hl [2, 3, 4, 1, 0] rfl)
set_option maxHeartbeats 4000000 in
set_option maxRecDepth 100000 in
theorem c_M_isBelowAll (l : Launch) (D : va_G) (cI cZ : ClassId) (a : Nat → Nat) (q : Nat) (σ : StM) (x1 : Int32) (x2 : Int32) {val : Int32} (h : f_M_isBelowAll σ x1 x2 = some val) : RoM l y_M_isBelowAll b_M_isBelowAll 5 (some .boolean) 0 0 D [(cI, .int), (cZ, .boolean)] [.ref (a 20), .int x1, .int x2] (wM cI cZ a q σ) val :=
  ro_of (by decide) (Nat.le_of_ble_eq_true rfl) (fun p e s m args below meth c ls C0 hP hl => t_M_isBelowAll_0 (a := a) C0 hP h (lv_sub hl [0, 1, 2] rfl))
