def f_L_foundIn_72_s (k72 : StL → Int32 → Int32 → Int32 → Int32 → Option Int32) (σ : StL) (x1 x2 x3 x4 : Int32) : Option Int32 :=
  if x3 ≤ x4 then
    some x2
  else
    (f_T_partOf (L_types σ) x1 x4).bind fun r5 =>
    (f_T_classOf (L_types σ) r5).bind fun r6 =>
    (f_C_withAbove (L_classes σ) r6).bind fun r7 =>
    k72 σ x1 (x2 ||| r7) x3 (x4 + 1)
def f_L_foundIn_72 : Nat → StL → Int32 → Int32 → Int32 → Int32 → Option Int32
  | 0, _, _, _, _, _ => none
  | n + 1, σ, x1, x2, x3, x4 => f_L_foundIn_72_s (f_L_foundIn_72 n) σ x1 x2 x3 x4
def f_L_foundIn (σ : StL) (x1 : Int32) : Option Int32 :=
  (f_T_kindOf (L_types σ) x1).bind fun r1 =>
  if r1 = 0 then
    (f_T_classOf (L_types σ) (f_L_boxTypeOf x1)).bind fun r2 =>
    (f_C_withAbove (L_classes σ) r2).bind fun r3 =>
    some r3
  else if r1 = 2 then
    some 7
  else (f_T_countParts (L_types σ) x1).bind fun r4 =>
  f_L_foundIn_72 1000 σ x1 0 r4 0
set_option maxHeartbeats 4000000 in
set_option maxRecDepth 100000 in
theorem t_L_foundIn_72_s {p : Program} {l : Launch} {e : Env} {s : State} {m : MethodId} {args : Array Value} {below : List Frame} {meth : Method} {c : Code} {D : va_G} {cI cZ : ClassId} {a : Nat → Nat} {q : Nat} {σ : StL} (C0 : Am p s m args meth c b_L_foundIn (some .int) 5 R_L D [(cI, .int), (cZ, .boolean)]) (hP : va_P D vwCl (wL cI cZ a q σ) s.heap) {val : Int32} {k72 : StL → Int32 → Int32 → Int32 → Int32 → Option Int32}  (hk72 : ∀ (x1 x2 x3 x4 : Int32) (ls : Array Slot), k72 σ x1 x2 x3 x4 = some val → lv_has ls 5 [(0, .ref (a 0)), (1, .int x1), (2, .int x2), (3, .int x3), (4, .int x4)] → RoW p l e (rmK 2 44 0 0) s m args below meth c val (F0 m 72 ls [])) {x1 x2 x3 x4 : Int32} (h : f_L_foundIn_72_s k72 σ x1 x2 x3 x4 = some val) {ls : Array Slot} (hl : lv_has ls 5 [(0, .ref (a 0)), (1, .int x1), (2, .int x2), (3, .int x3), (4, .int x4)]) : RoW p l e (rmK 2 44 0 0) s m args below meth c val (F0 m 72 ls []) := by
  obtain ⟨hx, hb, hr, hml, hown, hts, hlk, hK⟩ := id C0
  unfold f_L_foundIn_72_s at h
  refine lv_iload hx hb d_L_foundIn_72 (lv_at hl 4 rfl) ?_
  refine lv_iload_n hx hb d_L_foundIn_74 rfl (lv_at hl 3 rfl) ?_
  refine lv_icmp_ge (tgt := 111) hx hb d_L_foundIn_75 (by decide) (fun hc => ?_) (fun hc => ?_)
  · rw [if_pos hc] at h
    refine lv_iload_n hx hb d_L_foundIn_111 rfl (lv_at hl 2 rfl) ?_
    exact ro_ret C0 (Option.some.inj h) d_L_foundIn_112
  · rw [if_neg hc] at h
    refine lv_iload_n hx hb d_L_foundIn_78 rfl (lv_at hl 2 rfl) ?_
    refine lv_aload_n hx hb d_L_foundIn_79 rfl (lv_at hl 0 rfl) ?_
    refine va_get (ci := 0) (v := .ref (a 3)) (C := R_L) (T := F_L) (N := 6) hx hb hts i_L hown hK.1 hP 0 rfl rfl 1 (by decide) (hts _ wd_67) (fun _ h9 => h9) rfl d_L_foundIn_80 ?_
    refine lv_aload_n hx hb d_L_foundIn_83 rfl (lv_at hl 0 rfl) ?_
    refine va_get (ci := 0) (v := .ref (a 10)) (C := R_L) (T := F_L) (N := 6) hx hb hts i_L hown hK.1 hP 0 rfl rfl 2 (by decide) (hts _ wd_85) (fun _ h9 => h9) rfl d_L_foundIn_84 ?_
    refine lv_aload_n hx hb d_L_foundIn_87 rfl (lv_at hl 0 rfl) ?_
    refine va_get (ci := 0) (v := .ref (a 10)) (C := R_L) (T := F_L) (N := 6) hx hb hts i_L hown hK.1 hP 0 rfl rfl 2 (by decide) (hts _ wd_85) (fun _ h9 => h9) rfl d_L_foundIn_88 ?_
    refine lv_iload_n hx hb d_L_foundIn_91 rfl (lv_at hl 1 rfl) ?_
    refine lv_iload hx hb d_L_foundIn_92 (lv_at hl 4 rfl) ?_
    replace h := bd h
    obtain ⟨r5, g5, h⟩ := h
    refine ro_V (n := 2) (ci := 2) (As := [.int x1, .int x4]) (rest := [.ref (a 10), .ref (a 3), .int x2]) C0 (c_T_partOf l D cI cZ a q (L_types σ) x1 x4 g5) wd_204 ⟨wd_205, wd_206, wd_207, wd_52⟩ (by decide +kernel) ⟨Nat.le_of_ble_eq_true rfl, Nat.le_of_ble_eq_true rfl⟩ (hP.pick [10, 11, 12, 13, 14, 15, 16, 17, 18] rfl) rfl rfl rfl hl rfl rfl (Nat.le_of_ble_eq_true rfl) ⟨Nat.zero_le _, Nat.zero_le _⟩ d_L_foundIn_94 ?_
    try dsimp only at h
    replace h := bd h
    obtain ⟨r6, g6, h⟩ := h
    refine ro_V (n := 1) (ci := 2) (As := [.int r5]) (rest := [.ref (a 3), .int x2]) C0 (c_T_classOf l D cI cZ a q (L_types σ) r5 g6) wd_195 ⟨wd_196, wd_197, wd_198, wd_52⟩ (by decide +kernel) ⟨Nat.le_of_ble_eq_true rfl, Nat.le_of_ble_eq_true rfl⟩ (hP.pick [10, 11, 12, 13, 14, 15, 16, 17, 18] rfl) rfl rfl rfl hl rfl rfl (Nat.le_of_ble_eq_true rfl) ⟨Nat.zero_le _, Nat.zero_le _⟩ d_L_foundIn_97 ?_
    try dsimp only at h
    replace h := bd h
    obtain ⟨r7, g7, h⟩ := h
    refine ro_V (n := 1) (ci := 1) (As := [.int r6]) (rest := [.int x2]) C0 (c_C_withAbove l D cI cZ a q (L_classes σ) r6 g7) wd_199 ⟨wd_18, wd_19, wd_20, wd_8⟩ (by decide +kernel) ⟨Nat.le_of_ble_eq_true rfl, Nat.le_of_ble_eq_true rfl⟩ (hP.pick [3, 4, 5, 6, 7, 8, 9] rfl) rfl rfl rfl hl rfl rfl (Nat.le_of_ble_eq_true rfl) ⟨Nat.zero_le _, Nat.zero_le _⟩ d_L_foundIn_100 ?_
    try dsimp only at h
    refine lv_ior hx hb d_L_foundIn_103 ?_
    refine lv_istore_n (lv' := [(2, .int (x2 ||| r7)), (0, .ref (a 0)), (1, .int x1), (3, .int x3), (4, .int x4)]) hx hb d_L_foundIn_104 rfl hl (by decide) rfl (fun ls hl => ?_)
    refine lv_iinc (v := (x4 + 1)) (lv' := [(4, .int (x4 + 1)), (2, .int (x2 ||| r7)), (0, .ref (a 0)), (1, .int x1), (3, .int x3)]) hx hb d_L_foundIn_105 hl (k := 4) rfl rfl (by decide) rfl (fun ls hl => ?_)
    refine lv_goto (tgt := 72) hx hb d_L_foundIn_108 (by decide) ?_
    exact hk72 _ _ _ _ _ h (lv_sub hl [2, 3, 1, 4, 0] rfl)
set_option maxHeartbeats 4000000 in
set_option maxRecDepth 100000 in
theorem t_L_foundIn_72 {p : Program} {l : Launch} {e : Env} {s : State} {m : MethodId} {args : Array Value} {below : List Frame} {meth : Method} {c : Code} {D : va_G} {cI cZ : ClassId} {a : Nat → Nat} {q : Nat} {σ : StL} (C0 : Am p s m args meth c b_L_foundIn (some .int) 5 R_L D [(cI, .int), (cZ, .boolean)]) (hP : va_P D vwCl (wL cI cZ a q σ) s.heap) {val : Int32}  {n : Nat} {x1 x2 x3 x4 : Int32} (h : f_L_foundIn_72  n σ x1 x2 x3 x4 = some val) {ls : Array Slot} (hl : lv_has ls 5 [(0, .ref (a 0)), (1, .int x1), (2, .int x2), (3, .int x3), (4, .int x4)]) : RoW p l e (rmK 2 44 0 0) s m args below meth c val (F0 m 72 ls []) := by
  induction n generalizing x1 x2 x3 x4 ls with
  | zero => cases h
  | succ n ih => exact t_L_foundIn_72_s (a := a) C0 hP  (fun _ _ _ _ _ h hl => ih h hl) h hl
set_option maxHeartbeats 4000000 in
set_option maxRecDepth 100000 in
theorem t_L_foundIn_0 {p : Program} {l : Launch} {e : Env} {s : State} {m : MethodId} {args : Array Value} {below : List Frame} {meth : Method} {c : Code} {D : va_G} {cI cZ : ClassId} {a : Nat → Nat} {q : Nat} {σ : StL} (C0 : Am p s m args meth c b_L_foundIn (some .int) 5 R_L D [(cI, .int), (cZ, .boolean)]) (hP : va_P D vwCl (wL cI cZ a q σ) s.heap) {val : Int32}   {x1 : Int32} (h : f_L_foundIn σ x1 = some val) {ls : Array Slot} (hl : lv_has ls 5 [(0, .ref (a 0)), (1, .int x1)]) : RoW p l e (rmK 2 44 0 0) s m args below meth c val (F0 m 0 ls []) := by
  obtain ⟨hx, hb, hr, hml, hown, hts, hlk, hK⟩ := id C0
  unfold f_L_foundIn at h
  refine lv_aload_n hx hb d_L_foundIn_0 rfl (lv_at hl 0 rfl) ?_
  refine va_get (ci := 0) (v := .ref (a 10)) (C := R_L) (T := F_L) (N := 6) hx hb hts i_L hown hK.1 hP 0 rfl rfl 2 (by decide) (hts _ wd_85) (fun _ h9 => h9) rfl d_L_foundIn_1 ?_
  refine lv_iload_n hx hb d_L_foundIn_4 rfl (lv_at hl 1 rfl) ?_
  replace h := bd h
  obtain ⟨r1, g1, h⟩ := h
  refine ro_V (n := 1) (ci := 2) (As := [.int x1]) (rest := []) C0 (c_T_kindOf l D cI cZ a q (L_types σ) x1 g1) wd_99 ⟨wd_100, wd_101, wd_102, wd_52⟩ (by decide +kernel) ⟨Nat.le_of_ble_eq_true rfl, Nat.le_of_ble_eq_true rfl⟩ (hP.pick [10, 11, 12, 13, 14, 15, 16, 17, 18] rfl) rfl rfl rfl hl rfl rfl (Nat.le_of_ble_eq_true rfl) ⟨Nat.zero_le _, Nat.zero_le _⟩ d_L_foundIn_5 ?_
  try dsimp only at h
  by_cases e8_0 : r1 = 0
  · rw [if_pos e8_0] at h
    refine lv_lookup (off := 28) (tgt := 36) hx hb d_L_foundIn_8 (by decide) (by rw [e8_0]; rfl) (by decide) ?_
    refine lv_aload_n hx hb d_L_foundIn_36 rfl (lv_at hl 0 rfl) ?_
    refine va_get (ci := 0) (v := .ref (a 3)) (C := R_L) (T := F_L) (N := 6) hx hb hts i_L hown hK.1 hP 0 rfl rfl 1 (by decide) (hts _ wd_67) (fun _ h9 => h9) rfl d_L_foundIn_37 ?_
    refine lv_aload_n hx hb d_L_foundIn_40 rfl (lv_at hl 0 rfl) ?_
    refine va_get (ci := 0) (v := .ref (a 10)) (C := R_L) (T := F_L) (N := 6) hx hb hts i_L hown hK.1 hP 0 rfl rfl 2 (by decide) (hts _ wd_85) (fun _ h9 => h9) rfl d_L_foundIn_41 ?_
    refine lv_iload_n hx hb d_L_foundIn_44 rfl (lv_at hl 1 rfl) ?_
    refine ro_S (n := 1) (As := [.int x1]) (rest := [.ref (a 10), .ref (a 3)]) C0 (c_L_boxTypeOf l D cI cZ a x1 rfl) wd_192 ⟨wd_193, wd_194, wd_55⟩ (by decide +kernel) ⟨Nat.le_of_ble_eq_true rfl, Nat.le_of_ble_eq_true rfl⟩ pnil hl rfl rfl (Nat.le_of_ble_eq_true rfl) ⟨Nat.zero_le _, Nat.zero_le _⟩ d_L_foundIn_45 ?_
    replace h := bd h
    obtain ⟨r2, g2, h⟩ := h
    refine ro_V (n := 1) (ci := 2) (As := [.int (f_L_boxTypeOf x1)]) (rest := [.ref (a 3)]) C0 (c_T_classOf l D cI cZ a q (L_types σ) (f_L_boxTypeOf x1) g2) wd_195 ⟨wd_196, wd_197, wd_198, wd_52⟩ (by decide +kernel) ⟨Nat.le_of_ble_eq_true rfl, Nat.le_of_ble_eq_true rfl⟩ (hP.pick [10, 11, 12, 13, 14, 15, 16, 17, 18] rfl) rfl rfl rfl hl rfl rfl (Nat.le_of_ble_eq_true rfl) ⟨Nat.zero_le _, Nat.zero_le _⟩ d_L_foundIn_48 ?_
    try dsimp only at h
    replace h := bd h
    obtain ⟨r3, g3, h⟩ := h
    refine ro_V (n := 1) (ci := 1) (As := [.int r2]) (rest := []) C0 (c_C_withAbove l D cI cZ a q (L_classes σ) r2 g3) wd_199 ⟨wd_18, wd_19, wd_20, wd_8⟩ (by decide +kernel) ⟨Nat.le_of_ble_eq_true rfl, Nat.le_of_ble_eq_true rfl⟩ (hP.pick [3, 4, 5, 6, 7, 8, 9] rfl) rfl rfl rfl hl rfl rfl (Nat.le_of_ble_eq_true rfl) ⟨Nat.zero_le _, Nat.zero_le _⟩ d_L_foundIn_51 ?_
    try dsimp only at h
    exact ro_ret C0 (Option.some.inj h) d_L_foundIn_54
  · rw [if_neg e8_0] at h
    by_cases e8_1 : r1 = 2
    · rw [if_pos e8_1] at h
      refine lv_lookup (off := 47) (tgt := 55) hx hb d_L_foundIn_8 (by decide) (by rw [e8_1]; rfl) (by decide) ?_
      refine lv_bipush (v := 7) hx hb d_L_foundIn_55 (by decide) ?_
      exact ro_ret C0 (Option.some.inj h) d_L_foundIn_57
    · rw [if_neg e8_1] at h
      refine lv_lookup (off := 50) (tgt := 58) hx hb d_L_foundIn_8 (by decide) (by show Op.lookupswitch.offset [(0, 28), (2, 47)] 50 _ = _; rw [lv_osw e8_0 (by decide), lv_osw e8_1 (by decide)]; rfl) (by decide) ?_
      refine lv_iconst (v := 0) hx hb d_L_foundIn_58 (by decide) ?_
      refine lv_istore_n (lv' := [(2, .int 0), (0, .ref (a 0)), (1, .int x1)]) hx hb d_L_foundIn_59 rfl hl (by decide) rfl (fun ls hl => ?_)
      refine lv_aload_n hx hb d_L_foundIn_60 rfl (lv_at hl 1 rfl) ?_
      refine va_get (ci := 0) (v := .ref (a 10)) (C := R_L) (T := F_L) (N := 6) hx hb hts i_L hown hK.1 hP 0 rfl rfl 2 (by decide) (hts _ wd_85) (fun _ h9 => h9) rfl d_L_foundIn_61 ?_
      refine lv_iload_n hx hb d_L_foundIn_64 rfl (lv_at hl 2 rfl) ?_
      replace h := bd h
      obtain ⟨r4, g4, h⟩ := h
      refine ro_V (n := 1) (ci := 2) (As := [.int x1]) (rest := []) C0 (c_T_countParts l D cI cZ a q (L_types σ) x1 g4) wd_200 ⟨wd_201, wd_202, wd_203, wd_52⟩ (by decide +kernel) ⟨Nat.le_of_ble_eq_true rfl, Nat.le_of_ble_eq_true rfl⟩ (hP.pick [10, 11, 12, 13, 14, 15, 16, 17, 18] rfl) rfl rfl rfl hl rfl rfl (Nat.le_of_ble_eq_true rfl) ⟨Nat.zero_le _, Nat.zero_le _⟩ d_L_foundIn_65 ?_
      try dsimp only at h
      refine lv_istore_n (lv' := [(3, .int r4), (2, .int 0), (0, .ref (a 0)), (1, .int x1)]) hx hb d_L_foundIn_68 rfl hl (by decide) rfl (fun ls hl => ?_)
      refine lv_iconst (v := 0) hx hb d_L_foundIn_69 (by decide) ?_
      refine lv_istore (lv' := [(4, .int 0), (3, .int r4), (2, .int 0), (0, .ref (a 0)), (1, .int x1)]) hx hb d_L_foundIn_70 hl (by decide) rfl (fun ls hl => ?_)
      exact t_L_foundIn_72 (a := a) C0 hP  h (lv_sub hl [3, 4, 2, 1, 0] rfl)
set_option maxHeartbeats 4000000 in
set_option maxRecDepth 100000 in
theorem c_L_foundIn (l : Launch) (D : va_G) (cI cZ : ClassId) (a : Nat → Nat) (q : Nat) (σ : StL) (x1 : Int32) {val : Int32} (h : f_L_foundIn σ x1 = some val) : RoM l y_L_foundIn b_L_foundIn 5 (some .int) 2 44 D [(cI, .int), (cZ, .boolean)] [.ref (a 0), .int x1] (wL cI cZ a q σ) val :=
  ro_of (by decide) (Nat.le_of_ble_eq_true rfl) (fun p e s m args below meth c ls C0 hP hl => t_L_foundIn_0 (a := a) C0 hP h (lv_sub hl [0, 1] rfl))
