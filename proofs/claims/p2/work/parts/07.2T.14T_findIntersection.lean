def f_T_findIntersection_3_s (k3 : StT → Int32 → Int32 → Int32 → Option Int32) (pa1 : Nat × (Nat → Int32)) (σ : StT) (x2 x3 x4 : Int32) : Option Int32 :=
  if (T_count σ) ≤ x4 then
    some (-1)
  else
    if x4 < 0 ∨ 300 ≤ x4.toNatClampNeg then none else
    if ((T_kinds σ) x4.toNatClampNeg) = 3 then
      if x4 < 0 ∨ 300 ≤ x4.toNatClampNeg then none else
      if ((T_partCounts σ) x4.toNatClampNeg) = x3 then
        (f_T_hasParts pa1 σ x4 x2).bind fun r1 =>
        if r1 = 0 then
          k3 σ x2 x3 (x4 + 1)
        else
          some x4
      else
        k3 σ x2 x3 (x4 + 1)
    else
      k3 σ x2 x3 (x4 + 1)
def f_T_findIntersection_3 (pa1 : Nat × (Nat → Int32)) : Nat → StT → Int32 → Int32 → Int32 → Option Int32
  | 0, _, _, _, _ => none
  | n + 1, σ, x2, x3, x4 => f_T_findIntersection_3_s (f_T_findIntersection_3 pa1 n) pa1 σ x2 x3 x4
def f_T_findIntersection (pa1 : Nat × (Nat → Int32)) (σ : StT) (x2 x3 : Int32) : Option Int32 :=
  f_T_findIntersection_3 pa1 1000 σ x2 x3 0
set_option maxHeartbeats 4000000 in
set_option maxRecDepth 100000 in
theorem t_T_findIntersection_3_s {p : Program} {l : Launch} {e : Env} {s : State} {m : MethodId} {args : Array Value} {below : List Frame} {meth : Method} {c : Code} {D : va_G} {cI cZ : ClassId} {a : Nat → Nat} {q : Nat} {σ : StT} {pa1 : Nat × (Nat → Int32)} {b1 : Nat} (C0 : Am p s m args meth c b_T_findIntersection (some .int) 5 R_T D [(cI, .int), (cZ, .boolean)]) (hP : va_P D vwCl ((wT cI cZ a q σ) ++ [(b1, .inl (cI, pa1.1, .inl pa1.2))]) s.heap) {val : Int32} {k3 : StT → Int32 → Int32 → Int32 → Option Int32}  (hk3 : ∀ (x2 x3 x4 : Int32) (ls : Array Slot), k3 σ x2 x3 x4 = some val → lv_has ls 5 [(0, .ref (a 10)), (1, .ref b1), (2, .int x2), (3, .int x3), (4, .int x4)] → RoW p l e (rmK 3 68 0 0) s m args below meth c val (F0 m 3 ls [])) {x2 x3 x4 : Int32} (h : f_T_findIntersection_3_s k3 pa1 σ x2 x3 x4 = some val) {ls : Array Slot} (hl : lv_has ls 5 [(0, .ref (a 10)), (1, .ref b1), (2, .int x2), (3, .int x3), (4, .int x4)]) : RoW p l e (rmK 3 68 0 0) s m args below meth c val (F0 m 3 ls []) := by
  obtain ⟨hx, hb, hr, hml, hown, hts, hlk, hK⟩ := id C0
  unfold f_T_findIntersection_3_s at h
  refine lv_iload hx hb d_T_findIntersection_3 (lv_at hl 4 rfl) ?_
  refine lv_aload_n hx hb d_T_findIntersection_5 rfl (lv_at hl 0 rfl) ?_
  refine va_get (ci := 2) (v := .int (T_count σ)) (C := R_T) (T := F_T) (N := 12) hx hb hts i_T hown hK.1 hP 0 rfl rfl 9 (by decide) (hts _ wd_37) (fun _ h9 => h9) rfl d_T_findIntersection_6 ?_
  refine lv_icmp_ge (tgt := 54) hx hb d_T_findIntersection_9 (by decide) (fun hc => ?_) (fun hc => ?_)
  · rw [if_pos hc] at h
    refine lv_iconst (v := (-1)) hx hb d_T_findIntersection_54 (by decide) ?_
    exact ro_ret C0 (Option.some.inj h) d_T_findIntersection_55
  · rw [if_neg hc] at h
    refine lv_aload_n hx hb d_T_findIntersection_12 rfl (lv_at hl 0 rfl) ?_
    refine va_get (ci := 2) (v := .ref (a 11)) (C := R_T) (T := F_T) (N := 12) hx hb hts i_T hown hK.1 hP 0 rfl rfl 0 (by decide) (hts _ wd_38) (fun _ h9 => h9) rfl d_T_findIntersection_13 ?_
    refine lv_iload hx hb d_T_findIntersection_16 (lv_at hl 4 rfl) ?_
    obtain ⟨hi, h⟩ := gd h
    refine va_iald hx hb hK.1 hP 1 0 rfl rfl hi d_T_findIntersection_18 ?_
    refine lv_iconst (v := 3) hx hb d_T_findIntersection_19 (by decide) ?_
    refine lv_icmp_ne (tgt := 48) hx hb d_T_findIntersection_20 (by decide) (fun hc => ?_) (fun hc => ?_)
    · rw [if_neg hc] at h
      refine lv_iinc (v := (x4 + 1)) (lv' := [(4, .int (x4 + 1)), (0, .ref (a 10)), (1, .ref b1), (2, .int x2), (3, .int x3)]) hx hb d_T_findIntersection_48 hl (k := 4) rfl rfl (by decide) rfl (fun ls hl => ?_)
      refine lv_goto (tgt := 3) hx hb d_T_findIntersection_51 (by decide) ?_
      exact hk3 _ _ _ _ h (lv_sub hl [1, 2, 3, 4, 0] rfl)
    · rw [if_pos hc] at h
      refine lv_aload_n hx hb d_T_findIntersection_23 rfl (lv_at hl 0 rfl) ?_
      refine va_get (ci := 2) (v := .ref (a 17)) (C := R_T) (T := F_T) (N := 12) hx hb hts i_T hown hK.1 hP 0 rfl rfl 6 (by decide) (hts _ wd_44) (fun _ h9 => h9) rfl d_T_findIntersection_24 ?_
      refine lv_iload hx hb d_T_findIntersection_27 (lv_at hl 4 rfl) ?_
      obtain ⟨hi, h⟩ := gd h
      refine va_iald hx hb hK.1 hP 7 0 rfl rfl hi d_T_findIntersection_29 ?_
      refine lv_iload_n hx hb d_T_findIntersection_30 rfl (lv_at hl 3 rfl) ?_
      refine lv_icmp_ne (tgt := 48) hx hb d_T_findIntersection_31 (by decide) (fun hc => ?_) (fun hc => ?_)
      · rw [if_neg hc] at h
        refine lv_iinc (v := (x4 + 1)) (lv' := [(4, .int (x4 + 1)), (0, .ref (a 10)), (1, .ref b1), (2, .int x2), (3, .int x3)]) hx hb d_T_findIntersection_48 hl (k := 4) rfl rfl (by decide) rfl (fun ls hl => ?_)
        refine lv_goto (tgt := 3) hx hb d_T_findIntersection_51 (by decide) ?_
        exact hk3 _ _ _ _ h (lv_sub hl [1, 2, 3, 4, 0] rfl)
      · rw [if_pos hc] at h
        refine lv_aload_n hx hb d_T_findIntersection_34 rfl (lv_at hl 0 rfl) ?_
        refine lv_iload hx hb d_T_findIntersection_35 (lv_at hl 4 rfl) ?_
        refine lv_aload_n hx hb d_T_findIntersection_37 rfl (lv_at hl 1 rfl) ?_
        refine lv_iload_n hx hb d_T_findIntersection_38 rfl (lv_at hl 2 rfl) ?_
        obtain ⟨r1, g1, h⟩ := bd h
        refine ro_V (n := 3) (ci := 2) (As := [.int x4, .ref b1, .int x2]) (rest := []) C0 (c_T_hasParts l D cI cZ a q σ x4 pa1 b1 x2 g1) wd_106 ⟨wd_107, wd_108, wd_109, wd_49⟩ (by decide +kernel) ⟨Nat.le_of_ble_eq_true rfl, Nat.le_of_ble_eq_true rfl⟩ hP rfl rfl rfl hl rfl rfl (Nat.le_of_ble_eq_true rfl) ⟨Nat.zero_le _, Nat.zero_le _⟩ d_T_findIntersection_39 ?_
        try dsimp only at h
        refine lv_if_eq (tgt := 48) hx hb d_T_findIntersection_42 (by decide) (fun hc => ?_) (fun hc => ?_)
        · rw [if_pos hc] at h
          refine lv_iinc (v := (x4 + 1)) (lv' := [(4, .int (x4 + 1)), (0, .ref (a 10)), (1, .ref b1), (2, .int x2), (3, .int x3)]) hx hb d_T_findIntersection_48 hl (k := 4) rfl rfl (by decide) rfl (fun ls hl => ?_)
          refine lv_goto (tgt := 3) hx hb d_T_findIntersection_51 (by decide) ?_
          exact hk3 _ _ _ _ h (lv_sub hl [1, 2, 3, 4, 0] rfl)
        · rw [if_neg hc] at h
          refine lv_iload hx hb d_T_findIntersection_45 (lv_at hl 4 rfl) ?_
          exact ro_ret C0 (Option.some.inj h) d_T_findIntersection_47
set_option maxHeartbeats 4000000 in
set_option maxRecDepth 100000 in
theorem t_T_findIntersection_3 {p : Program} {l : Launch} {e : Env} {s : State} {m : MethodId} {args : Array Value} {below : List Frame} {meth : Method} {c : Code} {D : va_G} {cI cZ : ClassId} {a : Nat → Nat} {q : Nat} {σ : StT} {pa1 : Nat × (Nat → Int32)} {b1 : Nat} (C0 : Am p s m args meth c b_T_findIntersection (some .int) 5 R_T D [(cI, .int), (cZ, .boolean)]) (hP : va_P D vwCl ((wT cI cZ a q σ) ++ [(b1, .inl (cI, pa1.1, .inl pa1.2))]) s.heap) {val : Int32}  {n : Nat} {x2 x3 x4 : Int32} (h : f_T_findIntersection_3 pa1 n σ x2 x3 x4 = some val) {ls : Array Slot} (hl : lv_has ls 5 [(0, .ref (a 10)), (1, .ref b1), (2, .int x2), (3, .int x3), (4, .int x4)]) : RoW p l e (rmK 3 68 0 0) s m args below meth c val (F0 m 3 ls []) := by
  induction n generalizing x2 x3 x4 ls with
  | zero => cases h
  | succ n ih => exact t_T_findIntersection_3_s (a := a) C0 hP  (fun _ _ _ _ h hl => ih h hl) h hl
set_option maxHeartbeats 4000000 in
set_option maxRecDepth 100000 in
theorem t_T_findIntersection_0 {p : Program} {l : Launch} {e : Env} {s : State} {m : MethodId} {args : Array Value} {below : List Frame} {meth : Method} {c : Code} {D : va_G} {cI cZ : ClassId} {a : Nat → Nat} {q : Nat} {σ : StT} {pa1 : Nat × (Nat → Int32)} {b1 : Nat} (C0 : Am p s m args meth c b_T_findIntersection (some .int) 5 R_T D [(cI, .int), (cZ, .boolean)]) (hP : va_P D vwCl ((wT cI cZ a q σ) ++ [(b1, .inl (cI, pa1.1, .inl pa1.2))]) s.heap) {val : Int32}   {x2 x3 : Int32} (h : f_T_findIntersection pa1 σ x2 x3 = some val) {ls : Array Slot} (hl : lv_has ls 5 [(0, .ref (a 10)), (1, .ref b1), (2, .int x2), (3, .int x3)]) : RoW p l e (rmK 3 68 0 0) s m args below meth c val (F0 m 0 ls []) := by
  obtain ⟨hx, hb, hr, hml, hown, hts, hlk, hK⟩ := id C0
  unfold f_T_findIntersection at h
  refine lv_iconst (v := 0) hx hb d_T_findIntersection_0 (by decide) ?_
  refine lv_istore (lv' := [(4, .int 0), (0, .ref (a 10)), (1, .ref b1), (2, .int x2), (3, .int x3)]) hx hb d_T_findIntersection_1 hl (by decide) rfl (fun ls hl => ?_)
  exact t_T_findIntersection_3 (a := a) C0 hP  h (lv_sub hl [1, 2, 3, 4, 0] rfl)
set_option maxHeartbeats 4000000 in
set_option maxRecDepth 100000 in
theorem c_T_findIntersection (l : Launch) (D : va_G) (cI cZ : ClassId) (a : Nat → Nat) (q : Nat) (σ : StT) (pa1 : Nat × (Nat → Int32)) (b1 : Nat) (x2 : Int32) (x3 : Int32) {val : Int32} (h : f_T_findIntersection pa1 σ x2 x3 = some val) : RoM l y_T_findIntersection b_T_findIntersection 5 (some .int) 3 68 D [(cI, .int), (cZ, .boolean)] [.ref (a 10), .ref b1, .int x2, .int x3] ((wT cI cZ a q σ) ++ [(b1, .inl (cI, pa1.1, .inl pa1.2))]) val :=
  ro_of (by decide) (Nat.le_of_ble_eq_true rfl) (fun p e s m args below meth c ls C0 hP hl => t_T_findIntersection_0 (a := a) C0 hP h (lv_sub hl [0, 1, 2, 3] rfl))
