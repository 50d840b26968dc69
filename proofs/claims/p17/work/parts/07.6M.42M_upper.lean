def f_M_upper_170 (σ : StM) (x3 : Int32) : Option (Int32 × StM) :=
  (f_M_end σ x3 (M_answer σ) 2).bind fun r3 =>
  some (r3.1, r3.2)
def f_M_upper_50_s (k50 : StM → Int32 → Option (Int32 × StM)) (σ : StM) (x3 : Int32) : Option (Int32 × StM) :=
  if (M_high σ) ≤ 0 then
    f_M_upper_170 σ x3
  else
    if (M_full σ) = 0 then
      if ((M_high σ) - 1) < 0 ∨ 500 ≤ ((M_high σ) - 1).toNatClampNeg then none else
      if ((M_stage σ) ((M_high σ) - 1).toNatClampNeg) = 0 then
        (f_M_begin σ ((M_high σ) - 1)).bind fun r4 =>
        k50 r4.2 x3
      else if ((M_stage σ) ((M_high σ) - 1).toNatClampNeg) = 1 then
        (f_M_addArray σ (M_answer σ)).bind fun r5 =>
        (f_M_tell r5.2 r5.1).bind fun r6 =>
        k50 r6.2 x3
      else if ((M_stage σ) ((M_high σ) - 1).toNatClampNeg) = 2 then
        (f_M_goOn σ ((M_high σ) - 1)).bind fun r7 =>
        k50 r7.2 x3
      else if ((M_high σ) - 1) < 0 ∨ 500 ≤ ((M_high σ) - 1).toNatClampNeg then none else
      if ((M_high σ) - 1) < 0 ∨ 500 ≤ ((M_high σ) - 1).toNatClampNeg then none else
      (f_M_addNamed (M_put_stage σ ((M_high σ) - 1) 2) ((M_at (M_put_stage σ ((M_high σ) - 1) 2)) ((M_high σ) - 1).toNatClampNeg) 2 (M_answer (M_put_stage σ ((M_high σ) - 1) 2))).bind fun r8 =>
      (f_M_keep r8.2 ((M_high σ) - 1) r8.1).bind fun r9 =>
      k50 r9.2 x3
    else
      f_M_upper_170 σ x3
def f_M_upper_50 : Nat → StM → Int32 → Option (Int32 × StM)
  | 0, _, _ => none
  | n + 1, σ, x3 => f_M_upper_50_s (f_M_upper_50 n) σ x3
def f_M_upper_22 (σ : StM) (x1 x2 t1 : Int32) : Option (Int32 × StM) :=
  (f_M_good σ t1).bind fun r1 =>
  if r1.1 = 0 then
    some (0, r1.2)
  else
    (f_M_ask (M_set_high r1.2 0) x1 x2 (M_depth (M_set_high r1.2 0))).bind fun r2 =>
    f_M_upper_50 1000000 r2.2 (M_types r1.2)
def f_M_upper_21 (σ : StM) (x1 x2 : Int32) : Option (Int32 × StM) :=
  f_M_upper_22 σ x1 x2 1
def f_M_upper (σ : StM) (x1 x2 : Int32) : Option (Int32 × StM) :=
  if (f_M_isType σ x1) = 0 then
    f_M_upper_21 σ x1 x2
  else
    if (f_M_isType σ x2) = 0 then
      f_M_upper_21 σ x1 x2
    else
      f_M_upper_22 σ x1 x2 0
set_option maxHeartbeats 4000000 in
set_option maxRecDepth 100000 in
theorem t_M_upper_170 {p : Program} {l : Launch} {e : Env} {s : State} {m : MethodId} {args : Array Value} {below : List Frame} {meth : Method} {c : Code} {D : va_G} {cI cZ : ClassId} {a : Nat → Nat} {A : Nat → Prop} (C0 : Am p s m args meth c b_M_upper (some .int) 5 R_M D [(cI, .int), (cZ, .boolean)]) (hA : ∀ q, s.heap.size ≤ q → A q) {res : Int32 × StM}   {q : Nat} {σ : StM} {x3 : Int32} (h : f_M_upper_170 σ x3 = some res) {H : Heap} {locs : List Loc} (hP : va_P D vwCl (wM cI cZ a q σ) H) (hD : va_D A (wM cI cZ a q σ)) (hS : va_S A s.heap H locs) {ls : Array Slot} (hl : lv_has ls 5 [(0, .ref (a 20)), (3, .int x3)]) : W p l e (rmK 5 122 0 0) s m args below meth c H locs 0 0 (RwQ below args s D A (fun q (σ : StM) => (wM cI cZ a q σ)) res 0 0) (F0 m 170 ls []) := by
  obtain ⟨hx, hb, hr, hml, hown, hts, hlk, hK⟩ := id C0
  unfold f_M_upper_170 at h
  refine lv_aload_n hx hb d_M_upper_170 rfl (lv_at hl 0 rfl) ?_
  refine lv_iload_n hx hb d_M_upper_171 rfl (lv_at hl 1 rfl) ?_
  refine lv_aload_n hx hb d_M_upper_172 rfl (lv_at hl 0 rfl) ?_
  refine va_get (ci := 4) (v := .int (M_answer σ)) (C := R_M) (T := F_M) (N := 35) hx hb hts i_M hown hK.1 hP 0 rfl rfl 34 (by decide) (hts _ wd_454) (fun _ h9 => h9) rfl d_M_upper_173 ?_
  refine lv_iconst (v := 2) hx hb d_M_upper_176 (by decide) ?_
  replace h := bd h
  obtain ⟨r3, g3, h⟩ := h
  refine rw_V (n := 3) (ci := 4) (As := [.int x3, .int (M_answer σ), .int 2]) (rest := []) (Wn := fun _ => (wM cI cZ a q r3.2)) C0 hA (c_M_end l D cI cZ a q σ x3 (M_answer σ) 2 g3) wd_423 ⟨wd_424, wd_425, wd_426, wd_352⟩ (by decide +kernel) ⟨Nat.le_of_ble_eq_true rfl, Nat.le_of_ble_eq_true rfl⟩ hP hD hS [0, 1, 2, 3, 4, 5, 6, 7, 8, 9, 10, 11, 12, 13, 14, 15, 16, 17, 18, 19, 20, 21, 22, 23] [] [0, 1, 2, 3, 4, 5, 6, 7, 8, 9, 10, 11, 12, 13, 14, 15, 16, 17, 18, 19, 20, 21, 22, 23] jn_M__C (by decide) jn_M__R (by decide) (by decide) (by decide) jn_M__W rfl rfl rfl hl rfl rfl (Nat.le_of_ble_eq_true rfl) ⟨Nat.zero_le _, Nat.zero_le _⟩ d_M_upper_177 (fun H locs _ hP hD hS => ?_)
  try dsimp only at h
  exact rw_ret C0 hP hD hS (Option.some.inj h) d_M_upper_180
set_option maxHeartbeats 4000000 in
set_option maxRecDepth 100000 in
theorem t_M_upper_50_s {p : Program} {l : Launch} {e : Env} {s : State} {m : MethodId} {args : Array Value} {below : List Frame} {meth : Method} {c : Code} {D : va_G} {cI cZ : ClassId} {a : Nat → Nat} {A : Nat → Prop} (C0 : Am p s m args meth c b_M_upper (some .int) 5 R_M D [(cI, .int), (cZ, .boolean)]) (hA : ∀ q, s.heap.size ≤ q → A q) {res : Int32 × StM} {k50 : StM → Int32 → Option (Int32 × StM)}  (hk50 : ∀ (q : Nat) (σ : StM) (x3 : Int32) (H : Heap) (locs : List Loc) (ls : Array Slot), k50 σ x3 = some res → va_P D vwCl (wM cI cZ a q σ) H → va_D A (wM cI cZ a q σ) → va_S A s.heap H locs → lv_has ls 5 [(0, .ref (a 20)), (3, .int x3)] → W p l e (rmK 5 122 0 0) s m args below meth c H locs 0 0 (RwQ below args s D A (fun q (σ : StM) => (wM cI cZ a q σ)) res 0 0) (F0 m 50 ls [])) {q : Nat} {σ : StM} {x3 : Int32} (h : f_M_upper_50_s k50 σ x3 = some res) {H : Heap} {locs : List Loc} (hP : va_P D vwCl (wM cI cZ a q σ) H) (hD : va_D A (wM cI cZ a q σ)) (hS : va_S A s.heap H locs) {ls : Array Slot} (hl : lv_has ls 5 [(0, .ref (a 20)), (3, .int x3)]) : W p l e (rmK 5 122 0 0) s m args below meth c H locs 0 0 (RwQ below args s D A (fun q (σ : StM) => (wM cI cZ a q σ)) res 0 0) (F0 m 50 ls []) := by
  obtain ⟨hx, hb, hr, hml, hown, hts, hlk, hK⟩ := id C0
  unfold f_M_upper_50_s at h
  refine lv_aload_n hx hb d_M_upper_50 rfl (lv_at hl 0 rfl) ?_
  refine va_get (ci := 4) (v := .int (M_high σ)) (C := R_M) (T := F_M) (N := 35) hx hb hts i_M hown hK.1 hP 0 rfl rfl 25 (by decide) (hts _ wd_448) (fun _ h9 => h9) rfl d_M_upper_51 ?_
  refine lv_if_le (tgt := 170) hx hb d_M_upper_54 (by decide) (fun hc => ?_) (fun hc => ?_)
  · rw [if_pos hc] at h
    exact t_M_upper_170 (a := a) C0 hA  h hP hD hS (lv_sub hl [0, 1] rfl)
  · rw [if_neg hc] at h
    refine lv_aload_n hx hb d_M_upper_57 rfl (lv_at hl 0 rfl) ?_
    refine va_get (ci := 4) (v := .int (M_full σ)) (C := R_M) (T := F_M) (N := 35) hx hb hts i_M hown hK.1 hP 0 rfl rfl 18 (by decide) (hts _ wd_364) (fun _ h9 => h9) rfl d_M_upper_58 ?_
    refine lv_if_ne (tgt := 170) hx hb d_M_upper_61 (by decide) (fun hc => ?_) (fun hc => ?_)
    · rw [if_neg hc] at h
      exact t_M_upper_170 (a := a) C0 hA  h hP hD hS (lv_sub hl [0, 1] rfl)
    · rw [if_pos hc] at h
      refine lv_aload_n hx hb d_M_upper_64 rfl (lv_at hl 0 rfl) ?_
      refine va_get (ci := 4) (v := .int (M_high σ)) (C := R_M) (T := F_M) (N := 35) hx hb hts i_M hown hK.1 hP 0 rfl rfl 25 (by decide) (hts _ wd_448) (fun _ h9 => h9) rfl d_M_upper_65 ?_
      refine lv_iconst (v := 1) hx hb d_M_upper_68 (by decide) ?_
      refine lv_isub hx hb d_M_upper_69 ?_
      refine lv_istore (lv' := [(4, .int ((M_high σ) - 1)), (0, .ref (a 20)), (3, .int x3)]) hx hb d_M_upper_70 hl (by decide) rfl (fun ls hl => ?_)
      refine lv_aload_n hx hb d_M_upper_72 rfl (lv_at hl 1 rfl) ?_
      refine va_get (ci := 4) (v := .ref (a 39)) (C := R_M) (T := F_M) (N := 35) hx hb hts i_M hown hK.1 hP 0 rfl rfl 29 (by decide) (hts _ wd_451) (fun _ h9 => h9) rfl d_M_upper_73 ?_
      refine lv_iload hx hb d_M_upper_76 (lv_at hl 0 rfl) ?_
      replace h := gd h
      obtain ⟨hi, h⟩ := h
      refine va_iald hx hb hK.1 hP 19 0 rfl rfl hi d_M_upper_78 ?_
      by_cases e79_0 : ((M_stage σ) ((M_high σ) - 1).toNatClampNeg) = 0
      · rw [if_pos e79_0] at h
        refine lv_tableIn (off := 25) (tgt := 104) hx hb d_M_upper_79 (by rw [e79_0]; decide) (by rw [e79_0]; decide) (by rw [e79_0]; rfl) (by decide) ?_
        refine lv_aload_n hx hb d_M_upper_104 rfl (lv_at hl 1 rfl) ?_
        refine lv_iload hx hb d_M_upper_105 (lv_at hl 0 rfl) ?_
        replace h := bd h
        obtain ⟨r4, g4, h⟩ := h
        refine rw_Vv (n := 1) (ci := 4) (As := [.int ((M_high σ) - 1)]) (rest := []) (Wn := fun _ => (wM cI cZ a q r4.2)) C0 hA (c_M_begin l D cI cZ a q σ ((M_high σ) - 1) g4) wd_473 ⟨wd_474, wd_475, wd_476, wd_352⟩ (by decide +kernel) ⟨Nat.le_of_ble_eq_true rfl, Nat.le_of_ble_eq_true rfl⟩ hP hD hS [0, 1, 2, 3, 4, 5, 6, 7, 8, 9, 10, 11, 12, 13, 14, 15, 16, 17, 18, 19, 20, 21, 22, 23] [] [0, 1, 2, 3, 4, 5, 6, 7, 8, 9, 10, 11, 12, 13, 14, 15, 16, 17, 18, 19, 20, 21, 22, 23] jn_M__C (by decide) jn_M__R (by decide) (by decide) (by decide) jn_M__W rfl rfl rfl hl rfl rfl (Nat.le_of_ble_eq_true rfl) ⟨Nat.zero_le _, Nat.zero_le _⟩ d_M_upper_107 (fun H locs _ hP hD hS => ?_)
        try dsimp only at h
        refine lv_goto (tgt := 167) hx hb d_M_upper_110 (by decide) ?_
        refine lv_goto (tgt := 50) hx hb d_M_upper_167 (by decide) ?_
        exact hk50 _ _ _ _ _ _ h hP hD hS (lv_sub hl [1, 2] rfl)
      · rw [if_neg e79_0] at h
        by_cases e79_1 : ((M_stage σ) ((M_high σ) - 1).toNatClampNeg) = 1
        · rw [if_pos e79_1] at h
          refine lv_tableIn (off := 34) (tgt := 113) hx hb d_M_upper_79 (by rw [e79_1]; decide) (by rw [e79_1]; decide) (by rw [e79_1]; rfl) (by decide) ?_
          refine lv_aload_n hx hb d_M_upper_113 rfl (lv_at hl 1 rfl) ?_
          refine lv_aload_n hx hb d_M_upper_114 rfl (lv_at hl 1 rfl) ?_
          refine lv_aload_n hx hb d_M_upper_115 rfl (lv_at hl 1 rfl) ?_
          refine va_get (ci := 4) (v := .int (M_answer σ)) (C := R_M) (T := F_M) (N := 35) hx hb hts i_M hown hK.1 hP 0 rfl rfl 34 (by decide) (hts _ wd_454) (fun _ h9 => h9) rfl d_M_upper_116 ?_
          replace h := bd h
          obtain ⟨r5, g5, h⟩ := h
          refine rw_V (n := 1) (ci := 4) (As := [.int (M_answer σ)]) (rest := [.ref (a 20)]) (Wn := fun _ => (wM cI cZ a q r5.2)) C0 hA (c_M_addArray l D cI cZ a q σ (M_answer σ) g5) wd_431 ⟨wd_432, wd_433, wd_434, wd_352⟩ (by decide +kernel) ⟨Nat.le_of_ble_eq_true rfl, Nat.le_of_ble_eq_true rfl⟩ hP hD hS [0, 1, 2, 3, 4, 5, 6, 7, 8, 9, 10, 11, 12, 13, 14, 15, 16, 17, 18, 19, 20, 21, 22, 23] [] [0, 1, 2, 3, 4, 5, 6, 7, 8, 9, 10, 11, 12, 13, 14, 15, 16, 17, 18, 19, 20, 21, 22, 23] jn_M__C (by decide) jn_M__R (by decide) (by decide) (by decide) jn_M__W rfl rfl rfl hl rfl rfl (Nat.le_of_ble_eq_true rfl) ⟨Nat.zero_le _, Nat.zero_le _⟩ d_M_upper_119 (fun H locs _ hP hD hS => ?_)
          try dsimp only at h
          replace h := bd h
          obtain ⟨r6, g6, h⟩ := h
          refine rw_Vv (n := 1) (ci := 4) (As := [.int r5.1]) (rest := []) (Wn := fun _ => (wM cI cZ a q r6.2)) C0 hA (c_M_tell l D cI cZ a q r5.2 r5.1 g6) wd_461 ⟨wd_462, wd_463, wd_464, wd_352⟩ (by decide +kernel) ⟨Nat.le_of_ble_eq_true rfl, Nat.le_of_ble_eq_true rfl⟩ hP hD hS [0, 1, 2, 3, 4, 5, 6, 7, 8, 9, 10, 11, 12, 13, 14, 15, 16, 17, 18, 19, 20, 21, 22, 23] [] [0, 1, 2, 3, 4, 5, 6, 7, 8, 9, 10, 11, 12, 13, 14, 15, 16, 17, 18, 19, 20, 21, 22, 23] jn_M__C (by decide) jn_M__R (by decide) (by decide) (by decide) jn_M__W rfl rfl rfl hl rfl rfl (Nat.le_of_ble_eq_true rfl) ⟨Nat.zero_le _, Nat.zero_le _⟩ d_M_upper_122 (fun H locs _ hP hD hS => ?_)
          try dsimp only at h
          refine lv_goto (tgt := 167) hx hb d_M_upper_125 (by decide) ?_
          refine lv_goto (tgt := 50) hx hb d_M_upper_167 (by decide) ?_
          exact hk50 _ _ _ _ _ _ h hP hD hS (lv_sub hl [1, 2] rfl)
        · rw [if_neg e79_1] at h
          by_cases e79_2 : ((M_stage σ) ((M_high σ) - 1).toNatClampNeg) = 2
          · rw [if_pos e79_2] at h
            refine lv_tableIn (off := 49) (tgt := 128) hx hb d_M_upper_79 (by rw [e79_2]; decide) (by rw [e79_2]; decide) (by rw [e79_2]; rfl) (by decide) ?_
            refine lv_aload_n hx hb d_M_upper_128 rfl (lv_at hl 1 rfl) ?_
            refine lv_iload hx hb d_M_upper_129 (lv_at hl 0 rfl) ?_
            replace h := bd h
            obtain ⟨r7, g7, h⟩ := h
            refine rw_Vv (n := 1) (ci := 4) (As := [.int ((M_high σ) - 1)]) (rest := []) (Wn := fun _ => (wM cI cZ a q r7.2)) C0 hA (c_M_goOn l D cI cZ a q σ ((M_high σ) - 1) g7) wd_477 ⟨wd_478, wd_479, wd_480, wd_352⟩ (by decide +kernel) ⟨Nat.le_of_ble_eq_true rfl, Nat.le_of_ble_eq_true rfl⟩ hP hD hS [0, 1, 2, 3, 4, 5, 6, 7, 8, 9, 10, 11, 12, 13, 14, 15, 16, 17, 18, 19, 20, 21, 22, 23] [] [0, 1, 2, 3, 4, 5, 6, 7, 8, 9, 10, 11, 12, 13, 14, 15, 16, 17, 18, 19, 20, 21, 22, 23] jn_M__C (by decide) jn_M__R (by decide) (by decide) (by decide) jn_M__W rfl rfl rfl hl rfl rfl (Nat.le_of_ble_eq_true rfl) ⟨Nat.zero_le _, Nat.zero_le _⟩ d_M_upper_131 (fun H locs _ hP hD hS => ?_)
            try dsimp only at h
            refine lv_goto (tgt := 167) hx hb d_M_upper_134 (by decide) ?_
            refine lv_goto (tgt := 50) hx hb d_M_upper_167 (by decide) ?_
            exact hk50 _ _ _ _ _ _ h hP hD hS (lv_sub hl [1, 2] rfl)
          · rw [if_neg e79_2] at h
            refine lv_tableOut (tgt := 137) hx hb d_M_upper_79 (by have n0 := lv_neT (a := 0) e79_0 (by decide); have n1 := lv_neT (a := 1) e79_1 (by decide); have n2 := lv_neT (a := 2) e79_2 (by decide); omega) (by decide) ?_
            refine lv_aload_n hx hb d_M_upper_137 rfl (lv_at hl 1 rfl) ?_
            refine va_get (ci := 4) (v := .ref (a 39)) (C := R_M) (T := F_M) (N := 35) hx hb hts i_M hown hK.1 hP 0 rfl rfl 29 (by decide) (hts _ wd_451) (fun _ h9 => h9) rfl d_M_upper_138 ?_
            refine lv_iload hx hb d_M_upper_141 (lv_at hl 0 rfl) ?_
            refine lv_iconst (v := 2) hx hb d_M_upper_143 (by decide) ?_
            replace h := gd h
            obtain ⟨hi, h⟩ := h
            refine rw_iast C0 hP hD hS 19 0 rfl rfl hi d_M_upper_144 (Wn := (wM cI cZ a q (M_put_stage σ ((M_high σ) - 1) 2))) ws_M_put_stage (fun H locs hP hD hS => ?_)
            refine lv_aload_n hx hb d_M_upper_145 rfl (lv_at hl 1 rfl) ?_
            refine lv_iload hx hb d_M_upper_146 (lv_at hl 0 rfl) ?_
            refine lv_aload_n hx hb d_M_upper_148 rfl (lv_at hl 1 rfl) ?_
            refine lv_aload_n hx hb d_M_upper_149 rfl (lv_at hl 1 rfl) ?_
            refine va_get (ci := 4) (v := .ref (a 41)) (C := R_M) (T := F_M) (N := 35) hx hb hts i_M hown hK.1 hP 0 rfl rfl 31 (by decide) (hts _ wd_453) (fun _ h9 => h9) rfl d_M_upper_150 ?_
            refine lv_iload hx hb d_M_upper_153 (lv_at hl 0 rfl) ?_
            replace h := gd h
            obtain ⟨hi, h⟩ := h
            refine va_iald hx hb hK.1 hP 21 0 rfl rfl hi d_M_upper_155 ?_
            refine lv_iconst (v := 2) hx hb d_M_upper_156 (by decide) ?_
            refine lv_aload_n hx hb d_M_upper_157 rfl (lv_at hl 1 rfl) ?_
            refine va_get (ci := 4) (v := .int (M_answer (M_put_stage σ ((M_high σ) - 1) 2))) (C := R_M) (T := F_M) (N := 35) hx hb hts i_M hown hK.1 hP 0 rfl rfl 34 (by decide) (hts _ wd_454) (fun _ h9 => h9) rfl d_M_upper_158 ?_
            replace h := bd h
            obtain ⟨r8, g8, h⟩ := h
            refine rw_V (n := 3) (ci := 4) (As := [.int ((M_at (M_put_stage σ ((M_high σ) - 1) 2)) ((M_high σ) - 1).toNatClampNeg), .int 2, .int (M_answer (M_put_stage σ ((M_high σ) - 1) 2))]) (rest := [.int ((M_high σ) - 1), .ref (a 20)]) (Wn := fun _ => (wM cI cZ a q r8.2)) C0 hA (c_M_addNamed l D cI cZ a q (M_put_stage σ ((M_high σ) - 1) 2) ((M_at (M_put_stage σ ((M_high σ) - 1) 2)) ((M_high σ) - 1).toNatClampNeg) 2 (M_answer (M_put_stage σ ((M_high σ) - 1) 2)) g8) wd_419 ⟨wd_420, wd_421, wd_422, wd_352⟩ (by decide +kernel) ⟨Nat.le_of_ble_eq_true rfl, Nat.le_of_ble_eq_true rfl⟩ hP hD hS [0, 1, 2, 3, 4, 5, 6, 7, 8, 9, 10, 11, 12, 13, 14, 15, 16, 17, 18, 19, 20, 21, 22, 23] [] [0, 1, 2, 3, 4, 5, 6, 7, 8, 9, 10, 11, 12, 13, 14, 15, 16, 17, 18, 19, 20, 21, 22, 23] jn_M__C (by decide) jn_M__R (by decide) (by decide) (by decide) jn_M__W rfl rfl rfl hl rfl rfl (Nat.le_of_ble_eq_true rfl) ⟨Nat.zero_le _, Nat.zero_le _⟩ d_M_upper_161 (fun H locs _ hP hD hS => ?_)
            try dsimp only at h
            replace h := bd h
            obtain ⟨r9, g9, h⟩ := h
            refine rw_Vv (n := 2) (ci := 4) (As := [.int ((M_high σ) - 1), .int r8.1]) (rest := []) (Wn := fun _ => (wM cI cZ a q r9.2)) C0 hA (c_M_keep l D cI cZ a q r8.2 ((M_high σ) - 1) r8.1 g9) wd_465 ⟨wd_466, wd_467, wd_468, wd_352⟩ (by decide +kernel) ⟨Nat.le_of_ble_eq_true rfl, Nat.le_of_ble_eq_true rfl⟩ hP hD hS [0, 1, 2, 3, 4, 5, 6, 7, 8, 9, 10, 11, 12, 13, 14, 15, 16, 17, 18, 19, 20, 21, 22, 23] [] [0, 1, 2, 3, 4, 5, 6, 7, 8, 9, 10, 11, 12, 13, 14, 15, 16, 17, 18, 19, 20, 21, 22, 23] jn_M__C (by decide) jn_M__R (by decide) (by decide) (by decide) jn_M__W rfl rfl rfl hl rfl rfl (Nat.le_of_ble_eq_true rfl) ⟨Nat.zero_le _, Nat.zero_le _⟩ d_M_upper_164 (fun H locs _ hP hD hS => ?_)
            try dsimp only at h
            refine lv_goto (tgt := 50) hx hb d_M_upper_167 (by decide) ?_
            exact hk50 _ _ _ _ _ _ h hP hD hS (lv_sub hl [1, 2] rfl)
set_option maxHeartbeats 4000000 in
set_option maxRecDepth 100000 in
theorem t_M_upper_50 {p : Program} {l : Launch} {e : Env} {s : State} {m : MethodId} {args : Array Value} {below : List Frame} {meth : Method} {c : Code} {D : va_G} {cI cZ : ClassId} {a : Nat → Nat} {A : Nat → Prop} (C0 : Am p s m args meth c b_M_upper (some .int) 5 R_M D [(cI, .int), (cZ, .boolean)]) (hA : ∀ q, s.heap.size ≤ q → A q) {res : Int32 × StM}  {n : Nat} {q : Nat} {σ : StM} {x3 : Int32} (h : f_M_upper_50  n σ x3 = some res) {H : Heap} {locs : List Loc} (hP : va_P D vwCl (wM cI cZ a q σ) H) (hD : va_D A (wM cI cZ a q σ)) (hS : va_S A s.heap H locs) {ls : Array Slot} (hl : lv_has ls 5 [(0, .ref (a 20)), (3, .int x3)]) : W p l e (rmK 5 122 0 0) s m args below meth c H locs 0 0 (RwQ below args s D A (fun q (σ : StM) => (wM cI cZ a q σ)) res 0 0) (F0 m 50 ls []) := by
  induction n generalizing q σ x3 H locs ls with
  | zero => cases h
  | succ n ih => exact t_M_upper_50_s (a := a) C0 hA  (fun _ _ _ _ _ _ h hP hD hS hl => ih h hP hD hS hl) h hP hD hS hl
set_option maxHeartbeats 4000000 in
set_option maxRecDepth 100000 in
theorem t_M_upper_22 {p : Program} {l : Launch} {e : Env} {s : State} {m : MethodId} {args : Array Value} {below : List Frame} {meth : Method} {c : Code} {D : va_G} {cI cZ : ClassId} {a : Nat → Nat} {A : Nat → Prop} (C0 : Am p s m args meth c b_M_upper (some .int) 5 R_M D [(cI, .int), (cZ, .boolean)]) (hA : ∀ q, s.heap.size ≤ q → A q) {res : Int32 × StM}   {q : Nat} {σ : StM} {x1 x2 t1 : Int32} (h : f_M_upper_22 σ x1 x2 t1 = some res) {H : Heap} {locs : List Loc} (hP : va_P D vwCl (wM cI cZ a q σ) H) (hD : va_D A (wM cI cZ a q σ)) (hS : va_S A s.heap H locs) {ls : Array Slot} (hl : lv_has ls 5 [(0, .ref (a 20)), (1, .int x1), (2, .int x2)]) : W p l e (rmK 5 122 0 0) s m args below meth c H locs 0 0 (RwQ below args s D A (fun q (σ : StM) => (wM cI cZ a q σ)) res 0 0) (F0 m 22 ls [.int t1, .ref (a 20)]) := by
  obtain ⟨hx, hb, hr, hml, hown, hts, hlk, hK⟩ := id C0
  unfold f_M_upper_22 at h
  replace h := bd h
  obtain ⟨r1, g1, h⟩ := h
  refine rw_V (n := 1) (ci := 4) (As := [.int t1]) (rest := []) (Wn := fun _ => (wM cI cZ a q r1.2)) C0 hA (c_M_good l D cI cZ a q σ t1 g1) wd_388 ⟨wd_389, wd_390, wd_391, wd_352⟩ (by decide +kernel) ⟨Nat.le_of_ble_eq_true rfl, Nat.le_of_ble_eq_true rfl⟩ hP hD hS [0, 1, 2, 3, 4, 5, 6, 7, 8, 9, 10, 11, 12, 13, 14, 15, 16, 17, 18, 19, 20, 21, 22, 23] [] [0, 1, 2, 3, 4, 5, 6, 7, 8, 9, 10, 11, 12, 13, 14, 15, 16, 17, 18, 19, 20, 21, 22, 23] jn_M__C (by decide) jn_M__R (by decide) (by decide) (by decide) jn_M__W rfl rfl rfl hl rfl rfl (Nat.le_of_ble_eq_true rfl) ⟨Nat.zero_le _, Nat.zero_le _⟩ d_M_upper_22 (fun H locs _ hP hD hS => ?_)
  try dsimp only at h
  refine lv_if_ne (tgt := 30) hx hb d_M_upper_25 (by decide) (fun hc => ?_) (fun hc => ?_)
  · rw [if_neg hc] at h
    refine lv_aload_n hx hb d_M_upper_30 rfl (lv_at hl 0 rfl) ?_
    refine va_get (ci := 4) (v := .int (M_types r1.2)) (C := R_M) (T := F_M) (N := 35) hx hb hts i_M hown hK.1 hP 0 rfl rfl 10 (by decide) (hts _ wd_344) (fun _ h9 => h9) rfl d_M_upper_31 ?_
    refine lv_istore_n (lv' := [(3, .int (M_types r1.2)), (0, .ref (a 20)), (1, .int x1), (2, .int x2)]) hx hb d_M_upper_34 rfl hl (by decide) rfl (fun ls hl => ?_)
    refine lv_aload_n hx hb d_M_upper_35 rfl (lv_at hl 1 rfl) ?_
    refine lv_iconst (v := 0) hx hb d_M_upper_36 (by decide) ?_
    refine rw_put (v := .int 0) (fty := .int) (C := R_M) (T := F_M) (N := 35) C0 hP hD hS i_M ty_M tyok_M nn_M 0 rfl rfl 25 (by decide) (hts _ wd_448) rfl rfl (by decide +kernel) rfl rfl (Nat.le_of_ble_eq_true rfl) d_M_upper_37 (Wn := (wM cI cZ a q (M_set_high r1.2 0))) ws_M_set_high (fun H locs hP hD hS => ?_)
    refine lv_aload_n hx hb d_M_upper_40 rfl (lv_at hl 1 rfl) ?_
    refine lv_iload_n hx hb d_M_upper_41 rfl (lv_at hl 2 rfl) ?_
    refine lv_iload_n hx hb d_M_upper_42 rfl (lv_at hl 3 rfl) ?_
    refine lv_aload_n hx hb d_M_upper_43 rfl (lv_at hl 1 rfl) ?_
    refine va_get (ci := 4) (v := .int (M_depth (M_set_high r1.2 0))) (C := R_M) (T := F_M) (N := 35) hx hb hts i_M hown hK.1 hP 0 rfl rfl 1 (by decide) (hts _ wd_418) (fun _ h9 => h9) rfl d_M_upper_44 ?_
    replace h := bd h
    obtain ⟨r2, g2, h⟩ := h
    refine rw_Vv (n := 3) (ci := 4) (As := [.int x1, .int x2, .int (M_depth (M_set_high r1.2 0))]) (rest := []) (Wn := fun _ => (wM cI cZ a q r2.2)) C0 hA (c_M_ask l D cI cZ a q (M_set_high r1.2 0) x1 x2 (M_depth (M_set_high r1.2 0)) g2) wd_457 ⟨wd_458, wd_459, wd_460, wd_352⟩ (by decide +kernel) ⟨Nat.le_of_ble_eq_true rfl, Nat.le_of_ble_eq_true rfl⟩ hP hD hS [0, 1, 2, 3, 4, 5, 6, 7, 8, 9, 10, 11, 12, 13, 14, 15, 16, 17, 18, 19, 20, 21, 22, 23] [] [0, 1, 2, 3, 4, 5, 6, 7, 8, 9, 10, 11, 12, 13, 14, 15, 16, 17, 18, 19, 20, 21, 22, 23] jn_M__C (by decide) jn_M__R (by decide) (by decide) (by decide) jn_M__W rfl rfl rfl hl rfl rfl (Nat.le_of_ble_eq_true rfl) ⟨Nat.zero_le _, Nat.zero_le _⟩ d_M_upper_47 (fun H locs _ hP hD hS => ?_)
    try dsimp only at h
    exact t_M_upper_50 (a := a) C0 hA  h hP hD hS (lv_sub hl [1, 0] rfl)
  · rw [if_pos hc] at h
    refine lv_iconst (v := 0) hx hb d_M_upper_28 (by decide) ?_
    exact rw_ret C0 hP hD hS (Option.some.inj h) d_M_upper_29
set_option maxHeartbeats 4000000 in
set_option maxRecDepth 100000 in
theorem t_M_upper_21 {p : Program} {l : Launch} {e : Env} {s : State} {m : MethodId} {args : Array Value} {below : List Frame} {meth : Method} {c : Code} {D : va_G} {cI cZ : ClassId} {a : Nat → Nat} {A : Nat → Prop} (C0 : Am p s m args meth c b_M_upper (some .int) 5 R_M D [(cI, .int), (cZ, .boolean)]) (hA : ∀ q, s.heap.size ≤ q → A q) {res : Int32 × StM}   {q : Nat} {σ : StM} {x1 x2 : Int32} (h : f_M_upper_21 σ x1 x2 = some res) {H : Heap} {locs : List Loc} (hP : va_P D vwCl (wM cI cZ a q σ) H) (hD : va_D A (wM cI cZ a q σ)) (hS : va_S A s.heap H locs) {ls : Array Slot} (hl : lv_has ls 5 [(0, .ref (a 20)), (1, .int x1), (2, .int x2)]) : W p l e (rmK 5 122 0 0) s m args below meth c H locs 0 0 (RwQ below args s D A (fun q (σ : StM) => (wM cI cZ a q σ)) res 0 0) (F0 m 21 ls [.ref (a 20)]) := by
  obtain ⟨hx, hb, hr, hml, hown, hts, hlk, hK⟩ := id C0
  unfold f_M_upper_21 at h
  refine lv_iconst (v := 1) hx hb d_M_upper_21 (by decide) ?_
  exact t_M_upper_22 (a := a) C0 hA  h hP hD hS (lv_sub hl [0, 1, 2] rfl)
set_option maxHeartbeats 4000000 in
set_option maxRecDepth 100000 in
theorem t_M_upper_0 {p : Program} {l : Launch} {e : Env} {s : State} {m : MethodId} {args : Array Value} {below : List Frame} {meth : Method} {c : Code} {D : va_G} {cI cZ : ClassId} {a : Nat → Nat} {A : Nat → Prop} (C0 : Am p s m args meth c b_M_upper (some .int) 5 R_M D [(cI, .int), (cZ, .boolean)]) (hA : ∀ q, s.heap.size ≤ q → A q) {res : Int32 × StM}   {q : Nat} {σ : StM} {x1 x2 : Int32} (h : f_M_upper σ x1 x2 = some res) {H : Heap} {locs : List Loc} (hP : va_P D vwCl (wM cI cZ a q σ) H) (hD : va_D A (wM cI cZ a q σ)) (hS : va_S A s.heap H locs) {ls : Array Slot} (hl : lv_has ls 5 [(0, .ref (a 20)), (1, .int x1), (2, .int x2)]) : W p l e (rmK 5 122 0 0) s m args below meth c H locs 0 0 (RwQ below args s D A (fun q (σ : StM) => (wM cI cZ a q σ)) res 0 0) (F0 m 0 ls []) := by
  obtain ⟨hx, hb, hr, hml, hown, hts, hlk, hK⟩ := id C0
  unfold f_M_upper at h
  refine lv_aload_n hx hb d_M_upper_0 rfl (lv_at hl 0 rfl) ?_
  refine lv_aload_n hx hb d_M_upper_1 rfl (lv_at hl 0 rfl) ?_
  refine lv_iload_n hx hb d_M_upper_2 rfl (lv_at hl 1 rfl) ?_
  refine ro_V (n := 1) (ci := 4) (As := [.int x1]) (rest := [.ref (a 20)]) C0 (c_M_isType l D cI cZ a q σ x1 rfl) wd_427 ⟨wd_428, wd_429, wd_430, wd_352⟩ (by decide +kernel) ⟨Nat.le_of_ble_eq_true rfl, Nat.le_of_ble_eq_true rfl⟩ hP rfl rfl rfl hl rfl rfl (Nat.le_of_ble_eq_true rfl) ⟨Nat.zero_le _, Nat.zero_le _⟩ d_M_upper_3 ?_
  refine lv_if_eq (tgt := 21) hx hb d_M_upper_6 (by decide) (fun hc => ?_) (fun hc => ?_)
  · rw [if_pos hc] at h
    exact t_M_upper_21 (a := a) C0 hA  h hP hD hS (lv_sub hl [0, 1, 2] rfl)
  · rw [if_neg hc] at h
    refine lv_aload_n hx hb d_M_upper_9 rfl (lv_at hl 0 rfl) ?_
    refine lv_iload_n hx hb d_M_upper_10 rfl (lv_at hl 2 rfl) ?_
    refine ro_V (n := 1) (ci := 4) (As := [.int x2]) (rest := [.ref (a 20)]) C0 (c_M_isType l D cI cZ a q σ x2 rfl) wd_427 ⟨wd_428, wd_429, wd_430, wd_352⟩ (by decide +kernel) ⟨Nat.le_of_ble_eq_true rfl, Nat.le_of_ble_eq_true rfl⟩ hP rfl rfl rfl hl rfl rfl (Nat.le_of_ble_eq_true rfl) ⟨Nat.zero_le _, Nat.zero_le _⟩ d_M_upper_11 ?_
    refine lv_if_eq (tgt := 21) hx hb d_M_upper_14 (by decide) (fun hc => ?_) (fun hc => ?_)
    · rw [if_pos hc] at h
      exact t_M_upper_21 (a := a) C0 hA  h hP hD hS (lv_sub hl [0, 1, 2] rfl)
    · rw [if_neg hc] at h
      refine lv_iconst (v := 0) hx hb d_M_upper_17 (by decide) ?_
      refine lv_goto (tgt := 22) hx hb d_M_upper_18 (by decide) ?_
      exact t_M_upper_22 (a := a) C0 hA  h hP hD hS (lv_sub hl [0, 1, 2] rfl)
set_option maxHeartbeats 4000000 in
set_option maxRecDepth 100000 in
theorem c_M_upper (l : Launch) (D : va_G) (cI cZ : ClassId) (a : Nat → Nat) (q : Nat) (σ : StM) (x1 : Int32) (x2 : Int32) {res : Int32 × StM} (h : f_M_upper σ x1 x2 = some res) : RwM l y_M_upper b_M_upper 5 (some .int) 5 122 D [(cI, .int), (cZ, .boolean)] [.ref (a 20), .int x1, .int x2] (fun q (σ : StM) => (wM cI cZ a q σ)) q σ res :=
  rw_of (by decide) (Nat.le_of_ble_eq_true rfl) (fun p e s m args below meth c ls A C0 hA hP hD hS hl => t_M_upper_0 (a := a) C0 hA h hP hD hS (lv_sub hl [0, 1, 2] rfl))
