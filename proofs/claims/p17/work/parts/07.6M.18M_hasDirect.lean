def f_M_hasDirect_36 (k5 : StM → Int32 → Int32 → Int32 → Int32 → Option Int32) (σ : StM) (x1 x2 x4 : Int32) : Option Int32 :=
  k5 σ x1 x2 1 (x4 + 1)
def f_M_hasDirect_5_s (k5 : StM → Int32 → Int32 → Int32 → Int32 → Option Int32) (σ : StM) (x1 x2 x3 x4 : Int32) : Option Int32 :=
  if x1 < 0 ∨ 30 ≤ x1.toNatClampNeg then none else
  if ((M_directs σ) x1.toNatClampNeg) ≤ x4 then
    some (x3 &&& 1)
  else
    if x3 = 0 then
      if ((30 * x1) + x4) < 0 ∨ 900 ≤ ((30 * x1) + x4).toNatClampNeg then none else
      if ((M_directTo σ) ((30 * x1) + x4).toNatClampNeg) = x2 then
        f_M_hasDirect_36 k5 σ x1 x2 x4
      else
        k5 σ x1 x2 0 (x4 + 1)
    else
      f_M_hasDirect_36 k5 σ x1 x2 x4
def f_M_hasDirect_5 : Nat → StM → Int32 → Int32 → Int32 → Int32 → Option Int32
  | 0, _, _, _, _, _ => none
  | n + 1, σ, x1, x2, x3, x4 => f_M_hasDirect_5_s (f_M_hasDirect_5 n) σ x1 x2 x3 x4
def f_M_hasDirect (σ : StM) (x1 x2 : Int32) : Option Int32 :=
  f_M_hasDirect_5 1000 σ x1 x2 0 0
set_option maxHeartbeats 4000000 in
set_option maxRecDepth 100000 in
theorem t_M_hasDirect_36 {p : Program} {l : Launch} {e : Env} {s : State} {m : MethodId} {args : Array Value} {below : List Frame} {meth : Method} {c : Code} {D : va_G} {cI cZ : ClassId} {a : Nat → Nat} {q : Nat} {σ : StM} (C0 : Am p s m args meth c b_M_hasDirect (some .boolean) 5 R_M D [(cI, .int), (cZ, .boolean)]) (hP : va_P D vwCl (wM cI cZ a q σ) s.heap) {val : Int32} {k5 : StM → Int32 → Int32 → Int32 → Int32 → Option Int32} (hk5 : ∀ (x1 x2 x3 x4 : Int32) (ls : Array Slot), k5 σ x1 x2 x3 x4 = some val → lv_has ls 5 [(0, .ref (a 20)), (1, .int x1), (2, .int x2), (3, .int x3), (4, .int x4)] → RoW p l e (rmK 0 0 0 0) s m args below meth c val (F0 m 5 ls []))  {x1 x2 x4 : Int32} (h : f_M_hasDirect_36 k5 σ x1 x2 x4 = some val) {ls : Array Slot} (hl : lv_has ls 5 [(0, .ref (a 20)), (1, .int x1), (2, .int x2), (4, .int x4)]) : RoW p l e (rmK 0 0 0 0) s m args below meth c val (F0 m 36 ls []) := by
  obtain ⟨hx, hb, hr, hml, hown, hts, hlk, hK⟩ := id C0
  unfold f_M_hasDirect_36 at h
  refine lv_iconst (v := 1) hx hb d_M_hasDirect_36 (by decide) ?_
  refine lv_goto (tgt := 41) hx hb d_M_hasDirect_37 (by decide) ?_
  refine lv_istore_n (lv' := [(3, .int 1), (0, .ref (a 20)), (1, .int x1), (2, .int x2), (4, .int x4)]) hx hb d_M_hasDirect_41 rfl hl (by decide) rfl (fun ls hl => ?_)
  refine lv_iinc (v := (x4 + 1)) (lv' := [(4, .int (x4 + 1)), (3, .int 1), (0, .ref (a 20)), (1, .int x1), (2, .int x2)]) hx hb d_M_hasDirect_42 hl (k := 4) rfl rfl (by decide) rfl (fun ls hl => ?_)
  refine lv_goto (tgt := 5) hx hb d_M_hasDirect_45 (by decide) ?_
  exact hk5 _ _ _ _ _ h (lv_sub hl [2, 3, 4, 1, 0] rfl)
set_option maxHeartbeats 4000000 in
set_option maxRecDepth 100000 in
theorem t_M_hasDirect_5_s {p : Program} {l : Launch} {e : Env} {s : State} {m : MethodId} {args : Array Value} {below : List Frame} {meth : Method} {c : Code} {D : va_G} {cI cZ : ClassId} {a : Nat → Nat} {q : Nat} {σ : StM} (C0 : Am p s m args meth c b_M_hasDirect (some .boolean) 5 R_M D [(cI, .int), (cZ, .boolean)]) (hP : va_P D vwCl (wM cI cZ a q σ) s.heap) {val : Int32} {k5 : StM → Int32 → Int32 → Int32 → Int32 → Option Int32}  (hk5 : ∀ (x1 x2 x3 x4 : Int32) (ls : Array Slot), k5 σ x1 x2 x3 x4 = some val → lv_has ls 5 [(0, .ref (a 20)), (1, .int x1), (2, .int x2), (3, .int x3), (4, .int x4)] → RoW p l e (rmK 0 0 0 0) s m args below meth c val (F0 m 5 ls [])) {x1 x2 x3 x4 : Int32} (h : f_M_hasDirect_5_s k5 σ x1 x2 x3 x4 = some val) {ls : Array Slot} (hl : lv_has ls 5 [(0, .ref (a 20)), (1, .int x1), (2, .int x2), (3, .int x3), (4, .int x4)]) : RoW p l e (rmK 0 0 0 0) s m args below meth c val (F0 m 5 ls []) := by
  obtain ⟨hx, hb, hr, hml, hown, hts, hlk, hK⟩ := id C0
  unfold f_M_hasDirect_5_s at h
  refine lv_iload hx hb d_M_hasDirect_5 (lv_at hl 4 rfl) ?_
  refine lv_aload_n hx hb d_M_hasDirect_7 rfl (lv_at hl 0 rfl) ?_
  refine va_get (ci := 4) (v := .ref (a 23)) (C := R_M) (T := F_M) (N := 35) hx hb hts i_M hown hK.1 hP 0 rfl rfl 6 (by decide) (hts _ wd_339) (fun _ h9 => h9) rfl d_M_hasDirect_8 ?_
  refine lv_iload_n hx hb d_M_hasDirect_11 rfl (lv_at hl 1 rfl) ?_
  replace h := gd h
  obtain ⟨hi, h⟩ := h
  refine va_iald hx hb hK.1 hP 3 0 rfl rfl hi d_M_hasDirect_12 ?_
  refine lv_icmp_ge (tgt := 48) hx hb d_M_hasDirect_13 (by decide) (fun hc => ?_) (fun hc => ?_)
  · rw [if_pos hc] at h
    refine lv_iload_n hx hb d_M_hasDirect_48 rfl (lv_at hl 3 rfl) ?_
    exact ro_retz C0 rfl (Option.some.inj h) d_M_hasDirect_49
  · rw [if_neg hc] at h
    refine lv_iload_n hx hb d_M_hasDirect_16 rfl (lv_at hl 3 rfl) ?_
    refine lv_if_ne (tgt := 36) hx hb d_M_hasDirect_17 (by decide) (fun hc => ?_) (fun hc => ?_)
    · rw [if_neg hc] at h
      exact t_M_hasDirect_36 (a := a) C0 hP hk5 h (lv_sub hl [0, 1, 2, 4] rfl)
    · rw [if_pos hc] at h
      refine lv_aload_n hx hb d_M_hasDirect_20 rfl (lv_at hl 0 rfl) ?_
      refine va_get (ci := 4) (v := .ref (a 24)) (C := R_M) (T := F_M) (N := 35) hx hb hts i_M hown hK.1 hP 0 rfl rfl 7 (by decide) (hts _ wd_338) (fun _ h9 => h9) rfl d_M_hasDirect_21 ?_
      refine lv_bipush (v := 30) hx hb d_M_hasDirect_24 (by decide) ?_
      refine lv_iload_n hx hb d_M_hasDirect_26 rfl (lv_at hl 1 rfl) ?_
      refine lv_imul hx hb d_M_hasDirect_27 ?_
      refine lv_iload hx hb d_M_hasDirect_28 (lv_at hl 4 rfl) ?_
      refine lv_iadd hx hb d_M_hasDirect_30 ?_
      replace h := gd h
      obtain ⟨hi, h⟩ := h
      refine va_iald hx hb hK.1 hP 4 0 rfl rfl hi d_M_hasDirect_31 ?_
      refine lv_iload_n hx hb d_M_hasDirect_32 rfl (lv_at hl 2 rfl) ?_
      refine lv_icmp_ne (tgt := 40) hx hb d_M_hasDirect_33 (by decide) (fun hc => ?_) (fun hc => ?_)
      · rw [if_neg hc] at h
        refine lv_iconst (v := 0) hx hb d_M_hasDirect_40 (by decide) ?_
        refine lv_istore_n (lv' := [(3, .int 0), (0, .ref (a 20)), (1, .int x1), (2, .int x2), (4, .int x4)]) hx hb d_M_hasDirect_41 rfl hl (by decide) rfl (fun ls hl => ?_)
        refine lv_iinc (v := (x4 + 1)) (lv' := [(4, .int (x4 + 1)), (3, .int 0), (0, .ref (a 20)), (1, .int x1), (2, .int x2)]) hx hb d_M_hasDirect_42 hl (k := 4) rfl rfl (by decide) rfl (fun ls hl => ?_)
        refine lv_goto (tgt := 5) hx hb d_M_hasDirect_45 (by decide) ?_
        exact hk5 _ _ _ _ _ h (lv_sub hl [2, 3, 4, 1, 0] rfl)
      · rw [if_pos hc] at h
        exact t_M_hasDirect_36 (a := a) C0 hP hk5 h (lv_sub hl [0, 1, 2, 4] rfl)
set_option maxHeartbeats 4000000 in
set_option maxRecDepth 100000 in
theorem t_M_hasDirect_5 {p : Program} {l : Launch} {e : Env} {s : State} {m : MethodId} {args : Array Value} {below : List Frame} {meth : Method} {c : Code} {D : va_G} {cI cZ : ClassId} {a : Nat → Nat} {q : Nat} {σ : StM} (C0 : Am p s m args meth c b_M_hasDirect (some .boolean) 5 R_M D [(cI, .int), (cZ, .boolean)]) (hP : va_P D vwCl (wM cI cZ a q σ) s.heap) {val : Int32}  {n : Nat} {x1 x2 x3 x4 : Int32} (h : f_M_hasDirect_5  n σ x1 x2 x3 x4 = some val) {ls : Array Slot} (hl : lv_has ls 5 [(0, .ref (a 20)), (1, .int x1), (2, .int x2), (3, .int x3), (4, .int x4)]) : RoW p l e (rmK 0 0 0 0) s m args below meth c val (F0 m 5 ls []) := by
  induction n generalizing x1 x2 x3 x4 ls with
  | zero => cases h
  | succ n ih => exact t_M_hasDirect_5_s (a := a) C0 hP  (fun _ _ _ _ _ h hl => ih h hl) h hl
set_option maxHeartbeats 4000000 in
set_option maxRecDepth 100000 in
theorem t_M_hasDirect_0 {p : Program} {l : Launch} {e : Env} {s : State} {m : MethodId} {args : Array Value} {below : List Frame} {meth : Method} {c : Code} {D : va_G} {cI cZ : ClassId} {a : Nat → Nat} {q : Nat} {σ : StM} (C0 : Am p s m args meth c b_M_hasDirect (some .boolean) 5 R_M D [(cI, .int), (cZ, .boolean)]) (hP : va_P D vwCl (wM cI cZ a q σ) s.heap) {val : Int32}   {x1 x2 : Int32} (h : f_M_hasDirect σ x1 x2 = some val) {ls : Array Slot} (hl : lv_has ls 5 [(0, .ref (a 20)), (1, .int x1), (2, .int x2)]) : RoW p l e (rmK 0 0 0 0) s m args below meth c val (F0 m 0 ls []) := by
  obtain ⟨hx, hb, hr, hml, hown, hts, hlk, hK⟩ := id C0
  unfold f_M_hasDirect at h
  refine lv_iconst (v := 0) hx hb d_M_hasDirect_0 (by decide) ?_
  refine lv_istore_n (lv' := [(3, .int 0), (0, .ref (a 20)), (1, .int x1), (2, .int x2)]) hx hb d_M_hasDirect_1 rfl hl (by decide) rfl (fun ls hl => ?_)
  refine lv_iconst (v := 0) hx hb d_M_hasDirect_2 (by decide) ?_
  refine lv_istore (lv' := [(4, .int 0), (3, .int 0), (0, .ref (a 20)), (1, .int x1), (2, .int x2)]) hx hb d_M_hasDirect_3 hl (by decide) rfl (fun ls hl => ?_)
  exact t_M_hasDirect_5 (a := a) C0 hP  h (lv_sub hl [2, 3, 4, 1, 0] rfl)
set_option maxHeartbeats 4000000 in
set_option maxRecDepth 100000 in
theorem c_M_hasDirect (l : Launch) (D : va_G) (cI cZ : ClassId) (a : Nat → Nat) (q : Nat) (σ : StM) (x1 : Int32) (x2 : Int32) {val : Int32} (h : f_M_hasDirect σ x1 x2 = some val) : RoM l y_M_hasDirect b_M_hasDirect 5 (some .boolean) 0 0 D [(cI, .int), (cZ, .boolean)] [.ref (a 20), .int x1, .int x2] (wM cI cZ a q σ) val :=
  ro_of (by decide) (Nat.le_of_ble_eq_true rfl) (fun p e s m args below meth c ls C0 hP hl => t_M_hasDirect_0 (a := a) C0 hP h (lv_sub hl [0, 1, 2] rfl))
