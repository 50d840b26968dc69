def f_T_hasParts_3_s (k3 : StT → Int32 → Int32 → Int32 → Option Int32) (pa2 : Nat × (Nat → Int32)) (σ : StT) (x1 x3 x4 : Int32) : Option Int32 :=
  if x1 < 0 ∨ 300 ≤ x1.toNatClampNeg then none else
  if ((T_partCounts σ) x1.toNatClampNeg) ≤ x4 then
    some 1
  else
    if (Int32.ofNat pa2.1) ≤ (x3 + x4) then
      some 1
    else
      (f_T_partOf σ x1 x4).bind fun r1 =>
      if (x3 + x4) < 0 ∨ pa2.1 ≤ (x3 + x4).toNatClampNeg then none else
      if r1 = (pa2.2 (x3 + x4).toNatClampNeg) then
        k3 σ x1 x3 (x4 + 1)
      else
        some 0
def f_T_hasParts_3 (pa2 : Nat × (Nat → Int32)) : Nat → StT → Int32 → Int32 → Int32 → Option Int32
  | 0, _, _, _, _ => none
  | n + 1, σ, x1, x3, x4 => f_T_hasParts_3_s (f_T_hasParts_3 pa2 n) pa2 σ x1 x3 x4
def f_T_hasParts (pa2 : Nat × (Nat → Int32)) (σ : StT) (x1 x3 : Int32) : Option Int32 :=
  f_T_hasParts_3 pa2 1000 σ x1 x3 0
set_option maxHeartbeats 4000000 in
set_option maxRecDepth 100000 in
theorem t_T_hasParts_3_s {p : Program} {l : Launch} {e : Env} {s : State} {m : MethodId} {args : Array Value} {below : List Frame} {meth : Method} {c : Code} {D : va_G} {cI cZ : ClassId} {a : Nat → Nat} {q : Nat} {σ : StT} {pa2 : Nat × (Nat → Int32)} {b2 : Nat} (C0 : Am p s m args meth c b_T_hasParts (some .boolean) 5 R_T D [(cI, .int), (cZ, .boolean)]) (hP : va_P D vwCl ((wT cI cZ a q σ) ++ [(b2, .inl (cI, pa2.1, .inl pa2.2))]) s.heap) {val : Int32} {k3 : StT → Int32 → Int32 → Int32 → Option Int32}  (hk3 : ∀ (x1 x3 x4 : Int32) (ls : Array Slot), k3 σ x1 x3 x4 = some val → lv_has ls 5 [(0, .ref (a 10)), (1, .int x1), (2, .ref b2), (3, .int x3), (4, .int x4)] → RoW p l e (rmK 2 44 0 0) s m args below meth c val (F0 m 3 ls [])) {x1 x3 x4 : Int32} (h : f_T_hasParts_3_s k3 pa2 σ x1 x3 x4 = some val) {ls : Array Slot} (hl : lv_has ls 5 [(0, .ref (a 10)), (1, .int x1), (2, .ref b2), (3, .int x3), (4, .int x4)]) : RoW p l e (rmK 2 44 0 0) s m args below meth c val (F0 m 3 ls []) := by
  obtain ⟨hx, hb, hr, hml, hown, hts, hlk, hK⟩ := id C0
  unfold f_T_hasParts_3_s at h
  refine lv_iload hx hb d_T_hasParts_3 (lv_at hl 4 rfl) ?_
  refine lv_aload_n hx hb d_T_hasParts_5 rfl (lv_at hl 0 rfl) ?_
  refine va_get (ci := 2) (v := .ref (a 17)) (C := R_T) (T := F_T) (N := 12) hx hb hts i_T hown hK.1 hP 0 rfl rfl 6 (by decide) (hts _ wd_44) (fun _ h9 => h9) rfl d_T_hasParts_6 ?_
  refine lv_iload_n hx hb d_T_hasParts_9 rfl (lv_at hl 1 rfl) ?_
  obtain ⟨hi, h⟩ := gd h
  refine va_iald hx hb hK.1 hP 7 0 rfl rfl hi d_T_hasParts_10 ?_
  refine lv_icmp_ge (tgt := 47) hx hb d_T_hasParts_11 (by decide) (fun hc => ?_) (fun hc => ?_)
  · rw [if_pos hc] at h
    refine lv_iconst (v := 1) hx hb d_T_hasParts_47 (by decide) ?_
    exact ro_retz C0 (by decide) (Option.some.inj h) d_T_hasParts_48
  · rw [if_neg hc] at h
    refine lv_iload_n hx hb d_T_hasParts_14 rfl (lv_at hl 3 rfl) ?_
    refine lv_iload hx hb d_T_hasParts_15 (lv_at hl 4 rfl) ?_
    refine lv_iadd hx hb d_T_hasParts_17 ?_
    refine lv_aload_n hx hb d_T_hasParts_18 rfl (lv_at hl 2 rfl) ?_
    refine va_alen hx hb hK.1 hP 9 0 rfl rfl rfl d_T_hasParts_19 ?_
    refine lv_icmp_ge (tgt := 47) hx hb d_T_hasParts_20 (by decide) (fun hc => ?_) (fun hc => ?_)
    · rw [if_pos hc] at h
      refine lv_iconst (v := 1) hx hb d_T_hasParts_47 (by decide) ?_
      exact ro_retz C0 (by decide) (Option.some.inj h) d_T_hasParts_48
    · rw [if_neg hc] at h
      refine lv_aload_n hx hb d_T_hasParts_23 rfl (lv_at hl 0 rfl) ?_
      refine lv_iload_n hx hb d_T_hasParts_24 rfl (lv_at hl 1 rfl) ?_
      refine lv_iload hx hb d_T_hasParts_25 (lv_at hl 4 rfl) ?_
      obtain ⟨r1, g1, h⟩ := bd h
      refine ro_V (n := 2) (ci := 2) (As := [.int x1, .int x4]) (rest := []) C0 (c_T_partOf l D cI cZ a q σ x1 x4 g1) wd_102 ⟨wd_103, wd_104, wd_105, wd_49⟩ (by decide +kernel) ⟨Nat.le_of_ble_eq_true rfl, Nat.le_of_ble_eq_true rfl⟩ (hP.pick [0, 1, 2, 3, 4, 5, 6, 7, 8] rfl) rfl rfl rfl hl rfl rfl (Nat.le_of_ble_eq_true rfl) ⟨Nat.zero_le _, Nat.zero_le _⟩ d_T_hasParts_27 ?_
      try dsimp only at h
      refine lv_aload_n hx hb d_T_hasParts_30 rfl (lv_at hl 2 rfl) ?_
      refine lv_iload_n hx hb d_T_hasParts_31 rfl (lv_at hl 3 rfl) ?_
      refine lv_iload hx hb d_T_hasParts_32 (lv_at hl 4 rfl) ?_
      refine lv_iadd hx hb d_T_hasParts_34 ?_
      obtain ⟨hi, h⟩ := gd h
      refine va_iald hx hb hK.1 hP 9 0 rfl rfl hi d_T_hasParts_35 ?_
      refine lv_icmp_eq (tgt := 41) hx hb d_T_hasParts_36 (by decide) (fun hc => ?_) (fun hc => ?_)
      · rw [if_pos hc] at h
        refine lv_iinc (v := (x4 + 1)) (lv' := [(4, .int (x4 + 1)), (0, .ref (a 10)), (1, .int x1), (2, .ref b2), (3, .int x3)]) hx hb d_T_hasParts_41 hl (k := 4) rfl rfl (by decide) rfl (fun ls hl => ?_)
        refine lv_goto (tgt := 3) hx hb d_T_hasParts_44 (by decide) ?_
        exact hk3 _ _ _ _ h (lv_sub hl [1, 2, 3, 4, 0] rfl)
      · rw [if_neg hc] at h
        refine lv_iconst (v := 0) hx hb d_T_hasParts_39 (by decide) ?_
        exact ro_retz C0 (by decide) (Option.some.inj h) d_T_hasParts_40
set_option maxHeartbeats 4000000 in
set_option maxRecDepth 100000 in
theorem t_T_hasParts_3 {p : Program} {l : Launch} {e : Env} {s : State} {m : MethodId} {args : Array Value} {below : List Frame} {meth : Method} {c : Code} {D : va_G} {cI cZ : ClassId} {a : Nat → Nat} {q : Nat} {σ : StT} {pa2 : Nat × (Nat → Int32)} {b2 : Nat} (C0 : Am p s m args meth c b_T_hasParts (some .boolean) 5 R_T D [(cI, .int), (cZ, .boolean)]) (hP : va_P D vwCl ((wT cI cZ a q σ) ++ [(b2, .inl (cI, pa2.1, .inl pa2.2))]) s.heap) {val : Int32}  {n : Nat} {x1 x3 x4 : Int32} (h : f_T_hasParts_3 pa2 n σ x1 x3 x4 = some val) {ls : Array Slot} (hl : lv_has ls 5 [(0, .ref (a 10)), (1, .int x1), (2, .ref b2), (3, .int x3), (4, .int x4)]) : RoW p l e (rmK 2 44 0 0) s m args below meth c val (F0 m 3 ls []) := by
  induction n generalizing x1 x3 x4 ls with
  | zero => cases h
  | succ n ih => exact t_T_hasParts_3_s (a := a) C0 hP  (fun _ _ _ _ h hl => ih h hl) h hl
set_option maxHeartbeats 4000000 in
set_option maxRecDepth 100000 in
theorem t_T_hasParts_0 {p : Program} {l : Launch} {e : Env} {s : State} {m : MethodId} {args : Array Value} {below : List Frame} {meth : Method} {c : Code} {D : va_G} {cI cZ : ClassId} {a : Nat → Nat} {q : Nat} {σ : StT} {pa2 : Nat × (Nat → Int32)} {b2 : Nat} (C0 : Am p s m args meth c b_T_hasParts (some .boolean) 5 R_T D [(cI, .int), (cZ, .boolean)]) (hP : va_P D vwCl ((wT cI cZ a q σ) ++ [(b2, .inl (cI, pa2.1, .inl pa2.2))]) s.heap) {val : Int32}   {x1 x3 : Int32} (h : f_T_hasParts pa2 σ x1 x3 = some val) {ls : Array Slot} (hl : lv_has ls 5 [(0, .ref (a 10)), (1, .int x1), (2, .ref b2), (3, .int x3)]) : RoW p l e (rmK 2 44 0 0) s m args below meth c val (F0 m 0 ls []) := by
  obtain ⟨hx, hb, hr, hml, hown, hts, hlk, hK⟩ := id C0
  unfold f_T_hasParts at h
  refine lv_iconst (v := 0) hx hb d_T_hasParts_0 (by decide) ?_
  refine lv_istore (lv' := [(4, .int 0), (0, .ref (a 10)), (1, .int x1), (2, .ref b2), (3, .int x3)]) hx hb d_T_hasParts_1 hl (by decide) rfl (fun ls hl => ?_)
  exact t_T_hasParts_3 (a := a) C0 hP  h (lv_sub hl [1, 2, 3, 4, 0] rfl)
set_option maxHeartbeats 4000000 in
set_option maxRecDepth 100000 in
theorem c_T_hasParts (l : Launch) (D : va_G) (cI cZ : ClassId) (a : Nat → Nat) (q : Nat) (σ : StT) (x1 : Int32) (pa2 : Nat × (Nat → Int32)) (b2 : Nat) (x3 : Int32) {val : Int32} (h : f_T_hasParts pa2 σ x1 x3 = some val) : RoM l y_T_hasParts b_T_hasParts 5 (some .boolean) 2 44 D [(cI, .int), (cZ, .boolean)] [.ref (a 10), .int x1, .ref b2, .int x3] ((wT cI cZ a q σ) ++ [(b2, .inl (cI, pa2.1, .inl pa2.2))]) val :=
  ro_of (by decide) (Nat.le_of_ble_eq_true rfl) (fun p e s m args below meth c ls C0 hP hl => t_T_hasParts_0 (a := a) C0 hP h (lv_sub hl [0, 1, 2, 3] rfl))
