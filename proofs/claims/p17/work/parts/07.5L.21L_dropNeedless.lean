def f_L_dropNeedless_20_s (k4 : StL → Int32 → Int32 → Int32 → Option (Int32 × StL)) (k20 : StL → Int32 → Int32 → Int32 → Int32 → Int32 → Option (Int32 × StL)) (σ : StL) (x1 x2 x3 x4 x5 : Int32) : Option (Int32 × StL) :=
  if x1 ≤ x5 then
    if x2 < 0 ∨ 90 ≤ x2.toNatClampNeg then none else
    k4 (L_put_row σ x2 x4) x1 (x2 + 1) (x3 + 1)
  else
    if x5 < 0 ∨ 60 ≤ x5.toNatClampNeg then none else
    if ((L_gathered σ) x5.toNatClampNeg) = x4 then
      if x3 ≤ x5 then
        k20 σ x1 x2 x3 x4 (x5 + 1)
      else
        k4 σ x1 x2 (x3 + 1)
    else
      (f_L_liesBelow 101 σ ((L_gathered σ) x5.toNatClampNeg) x4 100).bind fun r1 =>
      if r1.1 = 0 then
        k20 r1.2 x1 x2 x3 x4 (x5 + 1)
      else
        k4 r1.2 x1 x2 (x3 + 1)
def f_L_dropNeedless_20 (k4 : StL → Int32 → Int32 → Int32 → Option (Int32 × StL)) : Nat → StL → Int32 → Int32 → Int32 → Int32 → Int32 → Option (Int32 × StL)
  | 0, _, _, _, _, _, _ => none
  | n + 1, σ, x1, x2, x3, x4, x5 => f_L_dropNeedless_20_s k4 (f_L_dropNeedless_20 k4 n) σ x1 x2 x3 x4 x5
def f_L_dropNeedless_4_s (k4 : StL → Int32 → Int32 → Int32 → Option (Int32 × StL)) (σ : StL) (x1 x2 x3 : Int32) : Option (Int32 × StL) :=
  if x1 ≤ x3 then
    if (0 : Int32) < 0 ∨ (0 : Int32) < 0 ∨ x2 < 0 ∨ 90 < (0 : Int32).toNatClampNeg + x2.toNatClampNeg ∨ 60 < (0 : Int32).toNatClampNeg + x2.toNatClampNeg then none else
    some (x2, (L_set_gathered σ (va_cpy (L_row σ) (L_gathered σ) (0 : Int32).toNatClampNeg (0 : Int32).toNatClampNeg x2.toNatClampNeg)))
  else
    if x3 < 0 ∨ 60 ≤ x3.toNatClampNeg then none else
    f_L_dropNeedless_20 k4 1000 σ x1 x2 x3 ((L_gathered σ) x3.toNatClampNeg) 0
def f_L_dropNeedless_4 : Nat → StL → Int32 → Int32 → Int32 → Option (Int32 × StL)
  | 0, _, _, _, _ => none
  | n + 1, σ, x1, x2, x3 => f_L_dropNeedless_4_s (f_L_dropNeedless_4 n) σ x1 x2 x3
def f_L_dropNeedless (σ : StL) (x1 : Int32) : Option (Int32 × StL) :=
  f_L_dropNeedless_4 1000 σ x1 0 0
set_option maxHeartbeats 4000000 in
set_option maxRecDepth 100000 in
theorem t_L_dropNeedless_20_s {p : Program} {l : Launch} {e : Env} {s : State} {m : MethodId} {args : Array Value} {below : List Frame} {meth : Method} {c : Code} {D : va_G} {cI cZ : ClassId} {a : Nat → Nat} {A : Nat → Prop} (C0 : Am p s m args meth c b_L_dropNeedless (some .int) 7 R_L D [(cI, .int), (cZ, .boolean)]) (hA : ∀ q, s.heap.size ≤ q → A q) {res : Int32 × StL} {k4 : StL → Int32 → Int32 → Int32 → Option (Int32 × StL)} {k20 : StL → Int32 → Int32 → Int32 → Int32 → Int32 → Option (Int32 × StL)} (hk4 : ∀ (q : Nat) (σ : StL) (x1 x2 x3 : Int32) (H : Heap) (locs : List Loc) (ls : Array Slot), k4 σ x1 x2 x3 = some res → va_P D vwCl (wL cI cZ a q σ) H → va_D A (wL cI cZ a q σ) → va_S A s.heap H locs → lv_has ls 7 [(0, .ref (a 0)), (1, .int x1), (2, .int x2), (3, .int x3)] → W p l e (rmK 207 5476 0 0) s m args below meth c H locs 0 0 (RwQ below args s D A (fun q (σ : StL) => (wL cI cZ a q σ)) res 0 0) (F0 m 4 ls [])) (hk20 : ∀ (q : Nat) (σ : StL) (x1 x2 x3 x4 x5 : Int32) (H : Heap) (locs : List Loc) (ls : Array Slot), k20 σ x1 x2 x3 x4 x5 = some res → va_P D vwCl (wL cI cZ a q σ) H → va_D A (wL cI cZ a q σ) → va_S A s.heap H locs → lv_has ls 7 [(0, .ref (a 0)), (1, .int x1), (2, .int x2), (3, .int x3), (4, .int x4), (5, .int x5)] → W p l e (rmK 207 5476 0 0) s m args below meth c H locs 0 0 (RwQ below args s D A (fun q (σ : StL) => (wL cI cZ a q σ)) res 0 0) (F0 m 20 ls [])) {q : Nat} {σ : StL} {x1 x2 x3 x4 x5 : Int32} (h : f_L_dropNeedless_20_s k4 k20 σ x1 x2 x3 x4 x5 = some res) {H : Heap} {locs : List Loc} (hP : va_P D vwCl (wL cI cZ a q σ) H) (hD : va_D A (wL cI cZ a q σ)) (hS : va_S A s.heap H locs) {ls : Array Slot} (hl : lv_has ls 7 [(0, .ref (a 0)), (1, .int x1), (2, .int x2), (3, .int x3), (4, .int x4), (5, .int x5)]) : W p l e (rmK 207 5476 0 0) s m args below meth c H locs 0 0 (RwQ below args s D A (fun q (σ : StL) => (wL cI cZ a q σ)) res 0 0) (F0 m 20 ls []) := by
  obtain ⟨hx, hb, hr, hml, hown, hts, hlk, hK⟩ := id C0
  unfold f_L_dropNeedless_20_s at h
  refine lv_iload hx hb d_L_dropNeedless_20 (lv_at hl 5 rfl) ?_
  refine lv_iload_n hx hb d_L_dropNeedless_22 rfl (lv_at hl 1 rfl) ?_
  refine lv_icmp_ge (tgt := 73) hx hb d_L_dropNeedless_23 (by decide) (fun hc => ?_) (fun hc => ?_)
  · rw [if_pos hc] at h
    refine lv_aload_n hx hb d_L_dropNeedless_73 rfl (lv_at hl 0 rfl) ?_
    refine va_get (ci := 0) (v := .ref (a 1)) (C := R_L) (T := F_L) (N := 6) hx hb hts i_L hown hK.1 hP 0 rfl rfl 4 (by decide) (hts _ wd_256) (fun _ h9 => h9) rfl d_L_dropNeedless_74 ?_
    refine lv_iload_n hx hb d_L_dropNeedless_77 rfl (lv_at hl 2 rfl) ?_
    refine lv_iload hx hb d_L_dropNeedless_78 (lv_at hl 4 rfl) ?_
    replace h := gd h
    obtain ⟨hi, h⟩ := h
    refine rw_iast C0 hP hD hS 1 0 rfl rfl hi d_L_dropNeedless_80 (Wn := (wL cI cZ a q (L_put_row σ x2 x4))) ws_L_put_row (fun H locs hP hD hS => ?_)
    refine lv_iinc (v := (x2 + 1)) (lv' := [(2, .int (x2 + 1)), (0, .ref (a 0)), (1, .int x1), (3, .int x3), (4, .int x4), (5, .int x5)]) hx hb d_L_dropNeedless_81 hl (k := 2) rfl rfl (by decide) rfl (fun ls hl => ?_)
    refine lv_iinc (v := (x3 + 1)) (lv' := [(3, .int (x3 + 1)), (2, .int (x2 + 1)), (0, .ref (a 0)), (1, .int x1), (4, .int x4), (5, .int x5)]) hx hb d_L_dropNeedless_84 hl (k := 3) rfl rfl (by decide) rfl (fun ls hl => ?_)
    refine lv_goto (tgt := 4) hx hb d_L_dropNeedless_87 (by decide) ?_
    exact hk4 _ _ _ _ _ _ _ _ h hP hD hS (lv_sub hl [2, 3, 1, 0] rfl)
  · rw [if_neg hc] at h
    refine lv_aload_n hx hb d_L_dropNeedless_26 rfl (lv_at hl 0 rfl) ?_
    refine va_get (ci := 0) (v := .ref (a 2)) (C := R_L) (T := F_L) (N := 6) hx hb hts i_L hown hK.1 hP 0 rfl rfl 5 (by decide) (hts _ wd_305) (fun _ h9 => h9) rfl d_L_dropNeedless_27 ?_
    refine lv_iload hx hb d_L_dropNeedless_30 (lv_at hl 5 rfl) ?_
    replace h := gd h
    obtain ⟨hi, h⟩ := h
    refine va_iald hx hb hK.1 hP 2 0 rfl rfl hi d_L_dropNeedless_32 ?_
    refine lv_istore (lv' := [(6, .int ((L_gathered σ) x5.toNatClampNeg)), (0, .ref (a 0)), (1, .int x1), (2, .int x2), (3, .int x3), (4, .int x4), (5, .int x5)]) hx hb d_L_dropNeedless_33 hl (by decide) rfl (fun ls hl => ?_)
    refine lv_iload hx hb d_L_dropNeedless_35 (lv_at hl 0 rfl) ?_
    refine lv_iload hx hb d_L_dropNeedless_37 (lv_at hl 5 rfl) ?_
    refine lv_icmp_ne (tgt := 51) hx hb d_L_dropNeedless_39 (by decide) (fun hc => ?_) (fun hc => ?_)
    · rw [if_neg hc] at h
      refine lv_aload_n hx hb d_L_dropNeedless_51 rfl (lv_at hl 1 rfl) ?_
      refine lv_iload hx hb d_L_dropNeedless_52 (lv_at hl 0 rfl) ?_
      refine lv_iload hx hb d_L_dropNeedless_54 (lv_at hl 5 rfl) ?_
      refine lv_bipush (v := 100) hx hb d_L_dropNeedless_56 (by decide) ?_
      replace h := bd h
      obtain ⟨r1, g1, h⟩ := h
      refine rw_V (n := 3) (ci := 0) (As := [.int ((L_gathered σ) x5.toNatClampNeg), .int x4, .int 100]) (rest := []) (Wn := fun q => (wL cI cZ a q r1.2)) C0 hA (c_L_liesBelow (n := 101) l D cI cZ a q σ ((L_gathered σ) x5.toNatClampNeg) x4 100 g1) wd_282 ⟨wd_283, wd_284, wd_285, wd_55⟩ (by decide +kernel) ⟨Nat.le_of_ble_eq_true rfl, Nat.le_of_ble_eq_true rfl⟩ hP hD hS [0, 1, 2, 3, 4, 5, 6, 7, 8, 9, 10, 11, 12, 13, 14, 15, 16, 17, 18, 19, 20] [] [0, 1, 2, 3, 4, 5, 6, 7, 8, 9, 10, 11, 12, 13, 14, 15, 16, 17, 18, 19, 20] jn_L__C (by decide) jn_L__R (by decide) (by decide) (by decide) jn_L__W rfl rfl rfl hl rfl rfl (Nat.le_of_ble_eq_true rfl) ⟨Nat.zero_le _, Nat.zero_le _⟩ d_L_dropNeedless_58 (fun H locs q hP hD hS => ?_)
      try dsimp only at h
      refine lv_if_eq (tgt := 67) hx hb d_L_dropNeedless_61 (by decide) (fun hc => ?_) (fun hc => ?_)
      · rw [if_pos hc] at h
        refine lv_iinc (v := (x5 + 1)) (lv' := [(5, .int (x5 + 1)), (6, .int ((L_gathered σ) x5.toNatClampNeg)), (0, .ref (a 0)), (1, .int x1), (2, .int x2), (3, .int x3), (4, .int x4)]) hx hb d_L_dropNeedless_67 hl (k := 6) rfl rfl (by decide) rfl (fun ls hl => ?_)
        refine lv_goto (tgt := 20) hx hb d_L_dropNeedless_70 (by decide) ?_
        exact hk20 _ _ _ _ _ _ _ _ _ _ h hP hD hS (lv_sub hl [2, 3, 4, 5, 6, 0] rfl)
      · rw [if_neg hc] at h
        refine lv_goto (tgt := 84) hx hb d_L_dropNeedless_64 (by decide) ?_
        refine lv_iinc (v := (x3 + 1)) (lv' := [(3, .int (x3 + 1)), (6, .int ((L_gathered σ) x5.toNatClampNeg)), (0, .ref (a 0)), (1, .int x1), (2, .int x2), (4, .int x4), (5, .int x5)]) hx hb d_L_dropNeedless_84 hl (k := 4) rfl rfl (by decide) rfl (fun ls hl => ?_)
        refine lv_goto (tgt := 4) hx hb d_L_dropNeedless_87 (by decide) ?_
        exact hk4 _ _ _ _ _ _ _ _ h hP hD hS (lv_sub hl [2, 3, 4, 0] rfl)
    · rw [if_pos hc] at h
      refine lv_iload hx hb d_L_dropNeedless_42 (lv_at hl 6 rfl) ?_
      refine lv_iload_n hx hb d_L_dropNeedless_44 rfl (lv_at hl 4 rfl) ?_
      refine lv_icmp_ge (tgt := 67) hx hb d_L_dropNeedless_45 (by decide) (fun hc => ?_) (fun hc => ?_)
      · rw [if_pos hc] at h
        refine lv_iinc (v := (x5 + 1)) (lv' := [(5, .int (x5 + 1)), (6, .int ((L_gathered σ) x5.toNatClampNeg)), (0, .ref (a 0)), (1, .int x1), (2, .int x2), (3, .int x3), (4, .int x4)]) hx hb d_L_dropNeedless_67 hl (k := 6) rfl rfl (by decide) rfl (fun ls hl => ?_)
        refine lv_goto (tgt := 20) hx hb d_L_dropNeedless_70 (by decide) ?_
        exact hk20 _ _ _ _ _ _ _ _ _ _ h hP hD hS (lv_sub hl [2, 3, 4, 5, 6, 0] rfl)
      · rw [if_neg hc] at h
        refine lv_goto (tgt := 84) hx hb d_L_dropNeedless_48 (by decide) ?_
        refine lv_iinc (v := (x3 + 1)) (lv' := [(3, .int (x3 + 1)), (6, .int ((L_gathered σ) x5.toNatClampNeg)), (0, .ref (a 0)), (1, .int x1), (2, .int x2), (4, .int x4), (5, .int x5)]) hx hb d_L_dropNeedless_84 hl (k := 4) rfl rfl (by decide) rfl (fun ls hl => ?_)
        refine lv_goto (tgt := 4) hx hb d_L_dropNeedless_87 (by decide) ?_
        exact hk4 _ _ _ _ _ _ _ _ h hP hD hS (lv_sub hl [2, 3, 4, 0] rfl)
set_option maxHeartbeats 4000000 in
set_option maxRecDepth 100000 in
theorem t_L_dropNeedless_20 {p : Program} {l : Launch} {e : Env} {s : State} {m : MethodId} {args : Array Value} {below : List Frame} {meth : Method} {c : Code} {D : va_G} {cI cZ : ClassId} {a : Nat → Nat} {A : Nat → Prop} (C0 : Am p s m args meth c b_L_dropNeedless (some .int) 7 R_L D [(cI, .int), (cZ, .boolean)]) (hA : ∀ q, s.heap.size ≤ q → A q) {res : Int32 × StL} {k4 : StL → Int32 → Int32 → Int32 → Option (Int32 × StL)} (hk4 : ∀ (q : Nat) (σ : StL) (x1 x2 x3 : Int32) (H : Heap) (locs : List Loc) (ls : Array Slot), k4 σ x1 x2 x3 = some res → va_P D vwCl (wL cI cZ a q σ) H → va_D A (wL cI cZ a q σ) → va_S A s.heap H locs → lv_has ls 7 [(0, .ref (a 0)), (1, .int x1), (2, .int x2), (3, .int x3)] → W p l e (rmK 207 5476 0 0) s m args below meth c H locs 0 0 (RwQ below args s D A (fun q (σ : StL) => (wL cI cZ a q σ)) res 0 0) (F0 m 4 ls [])) {n : Nat} {q : Nat} {σ : StL} {x1 x2 x3 x4 x5 : Int32} (h : f_L_dropNeedless_20 k4 n σ x1 x2 x3 x4 x5 = some res) {H : Heap} {locs : List Loc} (hP : va_P D vwCl (wL cI cZ a q σ) H) (hD : va_D A (wL cI cZ a q σ)) (hS : va_S A s.heap H locs) {ls : Array Slot} (hl : lv_has ls 7 [(0, .ref (a 0)), (1, .int x1), (2, .int x2), (3, .int x3), (4, .int x4), (5, .int x5)]) : W p l e (rmK 207 5476 0 0) s m args below meth c H locs 0 0 (RwQ below args s D A (fun q (σ : StL) => (wL cI cZ a q σ)) res 0 0) (F0 m 20 ls []) := by
  induction n generalizing q σ x1 x2 x3 x4 x5 H locs ls with
  | zero => cases h
  | succ n ih => exact t_L_dropNeedless_20_s (a := a) C0 hA hk4 (fun _ _ _ _ _ _ _ _ _ _ h hP hD hS hl => ih h hP hD hS hl) h hP hD hS hl
set_option maxHeartbeats 4000000 in
set_option maxRecDepth 100000 in
theorem t_L_dropNeedless_4_s {p : Program} {l : Launch} {e : Env} {s : State} {m : MethodId} {args : Array Value} {below : List Frame} {meth : Method} {c : Code} {D : va_G} {cI cZ : ClassId} {a : Nat → Nat} {A : Nat → Prop} (C0 : Am p s m args meth c b_L_dropNeedless (some .int) 7 R_L D [(cI, .int), (cZ, .boolean)]) (hA : ∀ q, s.heap.size ≤ q → A q) {res : Int32 × StL} {k4 : StL → Int32 → Int32 → Int32 → Option (Int32 × StL)}  (hk4 : ∀ (q : Nat) (σ : StL) (x1 x2 x3 : Int32) (H : Heap) (locs : List Loc) (ls : Array Slot), k4 σ x1 x2 x3 = some res → va_P D vwCl (wL cI cZ a q σ) H → va_D A (wL cI cZ a q σ) → va_S A s.heap H locs → lv_has ls 7 [(0, .ref (a 0)), (1, .int x1), (2, .int x2), (3, .int x3)] → W p l e (rmK 207 5476 0 0) s m args below meth c H locs 0 0 (RwQ below args s D A (fun q (σ : StL) => (wL cI cZ a q σ)) res 0 0) (F0 m 4 ls [])) {q : Nat} {σ : StL} {x1 x2 x3 : Int32} (h : f_L_dropNeedless_4_s k4 σ x1 x2 x3 = some res) {H : Heap} {locs : List Loc} (hP : va_P D vwCl (wL cI cZ a q σ) H) (hD : va_D A (wL cI cZ a q σ)) (hS : va_S A s.heap H locs) {ls : Array Slot} (hl : lv_has ls 7 [(0, .ref (a 0)), (1, .int x1), (2, .int x2), (3, .int x3)]) : W p l e (rmK 207 5476 0 0) s m args below meth c H locs 0 0 (RwQ below args s D A (fun q (σ : StL) => (wL cI cZ a q σ)) res 0 0) (F0 m 4 ls []) := by
  obtain ⟨hx, hb, hr, hml, hown, hts, hlk, hK⟩ := id C0
  unfold f_L_dropNeedless_4_s at h
  refine lv_iload_n hx hb d_L_dropNeedless_4 rfl (lv_at hl 3 rfl) ?_
  refine lv_iload_n hx hb d_L_dropNeedless_5 rfl (lv_at hl 1 rfl) ?_
  refine lv_icmp_ge (tgt := 90) hx hb d_L_dropNeedless_6 (by decide) (fun hc => ?_) (fun hc => ?_)
  · rw [if_pos hc] at h
    refine lv_aload_n hx hb d_L_dropNeedless_90 rfl (lv_at hl 0 rfl) ?_
    refine va_get (ci := 0) (v := .ref (a 1)) (C := R_L) (T := F_L) (N := 6) hx hb hts i_L hown hK.1 hP 0 rfl rfl 4 (by decide) (hts _ wd_256) (fun _ h9 => h9) rfl d_L_dropNeedless_91 ?_
    refine lv_iconst (v := 0) hx hb d_L_dropNeedless_94 (by decide) ?_
    refine lv_aload_n hx hb d_L_dropNeedless_95 rfl (lv_at hl 0 rfl) ?_
    refine va_get (ci := 0) (v := .ref (a 2)) (C := R_L) (T := F_L) (N := 6) hx hb hts i_L hown hK.1 hP 0 rfl rfl 5 (by decide) (hts _ wd_305) (fun _ h9 => h9) rfl d_L_dropNeedless_96 ?_
    refine lv_iconst (v := 0) hx hb d_L_dropNeedless_99 (by decide) ?_
    refine lv_iload_n hx hb d_L_dropNeedless_100 rfl (lv_at hl 2 rfl) ?_
    replace h := gd h
    obtain ⟨hi, h⟩ := h
    refine rw_copy C0 hl hP hD hS 1 2 0 0 rfl rfl rfl rfl hi (hts _ wd_306) (hts _ wd_228) (hts _ wd_229) (hts _ wd_230) (Nat.le_of_ble_eq_true rfl) (Nat.le_of_ble_eq_true rfl) d_L_dropNeedless_101 (Wn := (wL cI cZ a q (L_set_gathered σ (va_cpy (L_row σ) (L_gathered σ) (0 : Int32).toNatClampNeg (0 : Int32).toNatClampNeg x2.toNatClampNeg)))) ws_L_seta_gathered (fun H locs hP hD hS => ?_)
    refine lv_iload_n hx hb d_L_dropNeedless_104 rfl (lv_at hl 2 rfl) ?_
    exact rw_ret C0 hP hD hS (Option.some.inj h) d_L_dropNeedless_105
  · rw [if_neg hc] at h
    refine lv_aload_n hx hb d_L_dropNeedless_9 rfl (lv_at hl 0 rfl) ?_
    refine va_get (ci := 0) (v := .ref (a 2)) (C := R_L) (T := F_L) (N := 6) hx hb hts i_L hown hK.1 hP 0 rfl rfl 5 (by decide) (hts _ wd_305) (fun _ h9 => h9) rfl d_L_dropNeedless_10 ?_
    refine lv_iload_n hx hb d_L_dropNeedless_13 rfl (lv_at hl 3 rfl) ?_
    replace h := gd h
    obtain ⟨hi, h⟩ := h
    refine va_iald hx hb hK.1 hP 2 0 rfl rfl hi d_L_dropNeedless_14 ?_
    refine lv_istore (lv' := [(4, .int ((L_gathered σ) x3.toNatClampNeg)), (0, .ref (a 0)), (1, .int x1), (2, .int x2), (3, .int x3)]) hx hb d_L_dropNeedless_15 hl (by decide) rfl (fun ls hl => ?_)
    refine lv_iconst (v := 0) hx hb d_L_dropNeedless_17 (by decide) ?_
    refine lv_istore (lv' := [(5, .int 0), (4, .int ((L_gathered σ) x3.toNatClampNeg)), (0, .ref (a 0)), (1, .int x1), (2, .int x2), (3, .int x3)]) hx hb d_L_dropNeedless_18 hl (by decide) rfl (fun ls hl => ?_)
    exact t_L_dropNeedless_20 (a := a) C0 hA hk4 h hP hD hS (lv_sub hl [2, 3, 4, 5, 1, 0] rfl)
set_option maxHeartbeats 4000000 in
set_option maxRecDepth 100000 in
theorem t_L_dropNeedless_4 {p : Program} {l : Launch} {e : Env} {s : State} {m : MethodId} {args : Array Value} {below : List Frame} {meth : Method} {c : Code} {D : va_G} {cI cZ : ClassId} {a : Nat → Nat} {A : Nat → Prop} (C0 : Am p s m args meth c b_L_dropNeedless (some .int) 7 R_L D [(cI, .int), (cZ, .boolean)]) (hA : ∀ q, s.heap.size ≤ q → A q) {res : Int32 × StL}  {n : Nat} {q : Nat} {σ : StL} {x1 x2 x3 : Int32} (h : f_L_dropNeedless_4  n σ x1 x2 x3 = some res) {H : Heap} {locs : List Loc} (hP : va_P D vwCl (wL cI cZ a q σ) H) (hD : va_D A (wL cI cZ a q σ)) (hS : va_S A s.heap H locs) {ls : Array Slot} (hl : lv_has ls 7 [(0, .ref (a 0)), (1, .int x1), (2, .int x2), (3, .int x3)]) : W p l e (rmK 207 5476 0 0) s m args below meth c H locs 0 0 (RwQ below args s D A (fun q (σ : StL) => (wL cI cZ a q σ)) res 0 0) (F0 m 4 ls []) := by
  induction n generalizing q σ x1 x2 x3 H locs ls with
  | zero => cases h
  | succ n ih => exact t_L_dropNeedless_4_s (a := a) C0 hA  (fun _ _ _ _ _ _ _ _ h hP hD hS hl => ih h hP hD hS hl) h hP hD hS hl
set_option maxHeartbeats 4000000 in
set_option maxRecDepth 100000 in
theorem t_L_dropNeedless_0 {p : Program} {l : Launch} {e : Env} {s : State} {m : MethodId} {args : Array Value} {below : List Frame} {meth : Method} {c : Code} {D : va_G} {cI cZ : ClassId} {a : Nat → Nat} {A : Nat → Prop} (C0 : Am p s m args meth c b_L_dropNeedless (some .int) 7 R_L D [(cI, .int), (cZ, .boolean)]) (hA : ∀ q, s.heap.size ≤ q → A q) {res : Int32 × StL}   {q : Nat} {σ : StL} {x1 : Int32} (h : f_L_dropNeedless σ x1 = some res) {H : Heap} {locs : List Loc} (hP : va_P D vwCl (wL cI cZ a q σ) H) (hD : va_D A (wL cI cZ a q σ)) (hS : va_S A s.heap H locs) {ls : Array Slot} (hl : lv_has ls 7 [(0, .ref (a 0)), (1, .int x1)]) : W p l e (rmK 207 5476 0 0) s m args below meth c H locs 0 0 (RwQ below args s D A (fun q (σ : StL) => (wL cI cZ a q σ)) res 0 0) (F0 m 0 ls []) := by
  obtain ⟨hx, hb, hr, hml, hown, hts, hlk, hK⟩ := id C0
  unfold f_L_dropNeedless at h
  refine lv_iconst (v := 0) hx hb d_L_dropNeedless_0 (by decide) ?_
  refine lv_istore_n (lv' := [(2, .int 0), (0, .ref (a 0)), (1, .int x1)]) hx hb d_L_dropNeedless_1 rfl hl (by decide) rfl (fun ls hl => ?_)
  refine lv_iconst (v := 0) hx hb d_L_dropNeedless_2 (by decide) ?_
  refine lv_istore_n (lv' := [(3, .int 0), (2, .int 0), (0, .ref (a 0)), (1, .int x1)]) hx hb d_L_dropNeedless_3 rfl hl (by decide) rfl (fun ls hl => ?_)
  exact t_L_dropNeedless_4 (a := a) C0 hA  h hP hD hS (lv_sub hl [2, 3, 1, 0] rfl)
set_option maxHeartbeats 4000000 in
set_option maxRecDepth 100000 in
theorem c_L_dropNeedless (l : Launch) (D : va_G) (cI cZ : ClassId) (a : Nat → Nat) (q : Nat) (σ : StL) (x1 : Int32) {res : Int32 × StL} (h : f_L_dropNeedless σ x1 = some res) : RwM l y_L_dropNeedless b_L_dropNeedless 7 (some .int) 207 5476 D [(cI, .int), (cZ, .boolean)] [.ref (a 0), .int x1] (fun q (σ : StL) => (wL cI cZ a q σ)) q σ res :=
  rw_of (by decide) (Nat.le_of_ble_eq_true rfl) (fun p e s m args below meth c ls A C0 hA hP hD hS hl => t_L_dropNeedless_0 (a := a) C0 hA h hP hD hS (lv_sub hl [0, 1] rfl))
