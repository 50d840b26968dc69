-- part 07.5L.09L_foundIn.lean.txt
def f_L_foundIn_72_s (k72 : StL → Int32 → Int32 → Int32 → Int32 → Option Int32) (σ : StL) (x1 x2 x3 x4 : Int32) : Option Int32 :=
  if x3 ≤ x4 then
    some x2
  else
    (f_T_partOf (L_types σ) x1 x4).bind fun r5 =>
    (f_T_classOf (L_types σ) r5).bind fun r6 =>
    (f_C_withAbove (L_classes σ) r6).bind fun r7 =>
    k72 σ x1 (x2 ||| r7) x3 (x4 + 1)
def f_L_foundIn_72 : Nat → StL → Int32 → Int32 → Int32 → Int32 → Option Int32
  | 0, _, _, _, _, _ => none
  | n + 1, σ, x1, x2, x3, x4 => f_L_foundIn_72_s (f_L_foundIn_72 n) σ x1 x2 x3 x4
def f_L_foundIn (σ : StL) (x1 : Int32) : Option Int32 :=
  (f_T_kindOf (L_types σ) x1).bind fun r1 =>
  if r1 = 0 then
    (f_T_classOf (L_types σ) (f_L_boxTypeOf x1)).bind fun r2 =>
    (f_C_withAbove (L_classes σ) r2).bind fun r3 =>
    some r3
  else if r1 = 2 then
    some 7
  else (f_T_countParts (L_types σ) x1).bind fun r4 =>
  f_L_foundIn_72 1000 σ x1 0 r4 0
set_option maxHeartbeats 4000000 in
set_option maxRecDepth 100000 in
theorem t_L_foundIn_72_s {p : Program} {l : Launch} {e : Env} {s : State} {m : MethodId} {args : Array Value} {below : List Frame} {meth : Method} {c : Code} {D : va_G} {cI cZ : ClassId} {a : Nat → Nat} {q : Nat} {σ : StL} (C0 : Am p s m args meth c b_L_foundIn (some .int) 5 R_L D [(cI, .int), (cZ, .boolean)]) (hP : va_P D vwCl (wL cI cZ a q σ) s.heap) {val : Int32} {k72 : StL → Int32 → Int32 → Int32 → Int32 → Option Int32}  (hk72 : ∀ (x1 x2 x3 x4 : Int32) (ls : Array Slot), k72 σ x1 x2 x3 x4 = some val → lv_has ls 5 [(0, .ref (a 0)), (1, .int x1), (2, .int x2), (3, .int x3), (4, .int x4)] → RoW p l e (rmK 2 44 0 0) s m args below meth c val (F0 m 72 ls [])) {x1 x2 x3 x4 : Int32} (h : f_L_foundIn_72_s k72 σ x1 x2 x3 x4 = some val) {ls : Array Slot} (hl : lv_has ls 5 [(0, .ref (a 0)), (1, .int x1), (2, .int x2), (3, .int x3), (4, .int x4)]) : RoW p l e (rmK 2 44 0 0) s m args below meth c val (F0 m 72 ls []) := by
  obtain ⟨hx, hb, hr, hml, hown, hts, hlk, hK⟩ := id C0
  unfold f_L_foundIn_72_s at h
  refine lv_iload hx hb d_L_foundIn_72 (lv_at hl 4 rfl) ?_
  refine lv_iload_n hx hb d_L_foundIn_74 rfl (lv_at hl 3 rfl) ?_
  refine lv_icmp_ge (tgt := 111) hx hb d_L_foundIn_75 (by decide) (fun hc => ?_) (fun hc => ?_)
  · rw [if_pos hc] at h
    refine lv_iload_n hx hb d_L_foundIn_111 rfl (lv_at hl 2 rfl) ?_
    exact ro_ret C0 (Option.some.inj h) d_L_foundIn_112
  · rw [if_neg hc] at h
    refine lv_iload_n hx hb d_L_foundIn_78 rfl (lv_at hl 2 rfl) ?_
    refine lv_aload_n hx hb d_L_foundIn_79 rfl (lv_at hl 0 rfl) ?_
    refine va_get (ci := 0) (v := .ref (a 3)) (C := R_L) (T := F_L) (N := 6) hx hb hts i_L hown hK.1 hP 0 rfl rfl 1 (by decide) (hts _ wd_67) (fun _ h9 => h9) rfl d_L_foundIn_80 ?_
    refine lv_aload_n hx hb d_L_foundIn_83 rfl (lv_at hl 0 rfl) ?_
    refine va_get (ci := 0) (v := .ref (a 10)) (C := R_L) (T := F_L) (N := 6) hx hb hts i_L hown hK.1 hP 0 rfl rfl 2 (by decide) (hts _ wd_85) (fun _ h9 => h9) rfl d_L_foundIn_84 ?_
    refine lv_aload_n hx hb d_L_foundIn_87 rfl (lv_at hl 0 rfl) ?_
    refine va_get (ci := 0) (v := .ref (a 10)) (C := R_L) (T := F_L) (N := 6) hx hb hts i_L hown hK.1 hP 0 rfl rfl 2 (by decide) (hts _ wd_85) (fun _ h9 => h9) rfl d_L_foundIn_88 ?_
    refine lv_iload_n hx hb d_L_foundIn_91 rfl (lv_at hl 1 rfl) ?_
    refine lv_iload hx hb d_L_foundIn_92 (lv_at hl 4 rfl) ?_
    replace h := bd h
    obtain ⟨r5, g5, h⟩ := h
    refine ro_V (n := 2) (ci := 2) (As := [.int x1, .int x4]) (rest := [.ref (a 10), .ref (a 3), .int x2]) C0 (c_T_partOf l D cI cZ a q (L_types σ) x1 x4 g5) wd_204 ⟨wd_205, wd_206, wd_207, wd_52⟩ (by decide +kernel) ⟨Nat.le_of_ble_eq_true rfl, Nat.le_of_ble_eq_true rfl⟩ (hP.pick [10, 11, 12, 13, 14, 15, 16, 17, 18] rfl) rfl rfl rfl hl rfl rfl (Nat.le_of_ble_eq_true rfl) ⟨Nat.zero_le _, Nat.zero_le _⟩ d_L_foundIn_94 ?_
    try dsimp only at h
    replace h := bd h
    obtain ⟨r6, g6, h⟩ := h
    refine ro_V (n := 1) (ci := 2) (As := [.int r5]) (rest := [.ref (a 3), .int x2]) C0 (c_T_classOf l D cI cZ a q (L_types σ) r5 g6) wd_195 ⟨wd_196, wd_197, wd_198, wd_52⟩ (by decide +kernel) ⟨Nat.le_of_ble_eq_true rfl, Nat.le_of_ble_eq_true rfl⟩ (hP.pick [10, 11, 12, 13, 14, 15, 16, 17, 18] rfl) rfl rfl rfl hl rfl rfl (Nat.le_of_ble_eq_true rfl) ⟨Nat.zero_le _, Nat.zero_le _⟩ d_L_foundIn_97 ?_
    try dsimp only at h
    replace h := bd h
    obtain ⟨r7, g7, h⟩ := h
    refine ro_V (n := 1) (ci := 1) (As := [.int r6]) (rest := [.int x2]) C0 (c_C_withAbove l D cI cZ a q (L_classes σ) r6 g7) wd_199 ⟨wd_18, wd_19, wd_20, wd_8⟩ (by decide +kernel) ⟨Nat.le_of_ble_eq_true rfl, Nat.le_of_ble_eq_true rfl⟩ (hP.pick [3, 4, 5, 6, 7, 8, 9] rfl) rfl rfl rfl hl rfl rfl (Nat.le_of_ble_eq_true rfl) ⟨Nat.zero_le _, Nat.zero_le _⟩ d_L_foundIn_100 ?_
    try dsimp only at h
    refine lv_ior hx hb d_L_foundIn_103 ?_
    refine lv_istore_n (lv' := [(2, .int (x2 ||| r7)), (0, .ref (a 0)), (1, .int x1), (3, .int x3), (4, .int x4)]) hx hb d_L_foundIn_104 rfl hl (by decide) rfl (fun ls hl => ?_)
    refine lv_iinc (v := (x4 + 1)) (lv' := [(4, .int (x4 + 1)), (2, .int (x2 ||| r7)), (0, .ref (a 0)), (1, .int x1), (3, .int x3)]) hx hb d_L_foundIn_105 hl (k := 4) rfl rfl (by decide) rfl (fun ls hl => ?_)
    refine lv_goto (tgt := 72) hx hb d_L_foundIn_108 (by decide) ?_
    exact hk72 _ _ _ _ _ h (lv_sub hl [2, 3, 1, 4, 0] rfl)
set_option maxHeartbeats 4000000 in
set_option maxRecDepth 100000 in
theorem t_L_foundIn_72 {p : Program} {l : Launch} {e : Env} {s : State} {m : MethodId} {args : Array Value} {below : List Frame} {meth : Method} {c : Code} {D : va_G} {cI cZ : ClassId} {a : Nat → Nat} {q : Nat} {σ : StL} (C0 : Am p s m args meth c b_L_foundIn (some .int) 5 R_L D [(cI, .int), (cZ, .boolean)]) (hP : va_P D vwCl (wL cI cZ a q σ) s.heap) {val : Int32}  {n : Nat} {x1 x2 x3 x4 : Int32} (h : f_L_foundIn_72  n σ x1 x2 x3 x4 = some val) {ls : Array Slot} (hl : lv_has ls 5 [(0, .ref (a 0)), (1, .int x1), (2, .int x2), (3, .int x3), (4, .int x4)]) : RoW p l e (rmK 2 44 0 0) s m args below meth c val (F0 m 72 ls []) := by
  induction n generalizing x1 x2 x3 x4 ls with
  | zero => cases h
  | succ n ih => exact t_L_foundIn_72_s (a := a) C0 hP  (fun _ _ _ _ _ h hl => ih h hl) h hl
set_option maxHeartbeats 4000000 in
set_option maxRecDepth 100000 in
theorem t_L_foundIn_0 {p : Program} {l : Launch} {e : Env} {s : State} {m : MethodId} {args : Array Value} {below : List Frame} {meth : Method} {c : Code} {D : va_G} {cI cZ : ClassId} {a : Nat → Nat} {q : Nat} {σ : StL} (C0 : Am p s m args meth c b_L_foundIn (some .int) 5 R_L D [(cI, .int), (cZ, .boolean)]) (hP : va_P D vwCl (wL cI cZ a q σ) s.heap) {val : Int32}   {x1 : Int32} (h : f_L_foundIn σ x1 = some val) {ls : Array Slot} (hl : lv_has ls 5 [(0, .ref (a 0)), (1, .int x1)]) : RoW p l e (rmK 2 44 0 0) s m args below meth c val (F0 m 0 ls []) := by
  obtain ⟨hx, hb, hr, hml, hown, hts, hlk, hK⟩ := id C0
  unfold f_L_foundIn at h
  refine lv_aload_n hx hb d_L_foundIn_0 rfl (lv_at hl 0 rfl) ?_
  refine va_get (ci := 0) (v := .ref (a 10)) (C := R_L) (T := F_L) (N := 6) hx hb hts i_L hown hK.1 hP 0 rfl rfl 2 (by decide) (hts _ wd_85) (fun _ h9 => h9) rfl d_L_foundIn_1 ?_
  refine lv_iload_n hx hb d_L_foundIn_4 rfl (lv_at hl 1 rfl) ?_
  replace h := bd h
  obtain ⟨r1, g1, h⟩ := h
  refine ro_V (n := 1) (ci := 2) (As := [.int x1]) (rest := []) C0 (c_T_kindOf l D cI cZ a q (L_types σ) x1 g1) wd_99 ⟨wd_100, wd_101, wd_102, wd_52⟩ (by decide +kernel) ⟨Nat.le_of_ble_eq_true rfl, Nat.le_of_ble_eq_true rfl⟩ (hP.pick [10, 11, 12, 13, 14, 15, 16, 17, 18] rfl) rfl rfl rfl hl rfl rfl (Nat.le_of_ble_eq_true rfl) ⟨Nat.zero_le _, Nat.zero_le _⟩ d_L_foundIn_5 ?_
  try dsimp only at h
  by_cases e8_0 : r1 = 0
  · rw [if_pos e8_0] at h
    refine lv_lookup (off := 28) (tgt := 36) hx hb d_L_foundIn_8 (by decide) (by rw [e8_0]; rfl) (by decide) ?_
    refine lv_aload_n hx hb d_L_foundIn_36 rfl (lv_at hl 0 rfl) ?_
    refine va_get (ci := 0) (v := .ref (a 3)) (C := R_L) (T := F_L) (N := 6) hx hb hts i_L hown hK.1 hP 0 rfl rfl 1 (by decide) (hts _ wd_67) (fun _ h9 => h9) rfl d_L_foundIn_37 ?_
    refine lv_aload_n hx hb d_L_foundIn_40 rfl (lv_at hl 0 rfl) ?_
    refine va_get (ci := 0) (v := .ref (a 10)) (C := R_L) (T := F_L) (N := 6) hx hb hts i_L hown hK.1 hP 0 rfl rfl 2 (by decide) (hts _ wd_85) (fun _ h9 => h9) rfl d_L_foundIn_41 ?_
    refine lv_iload_n hx hb d_L_foundIn_44 rfl (lv_at hl 1 rfl) ?_
    refine ro_S (n := 1) (As := [.int x1]) (rest := [.ref (a 10), .ref (a 3)]) C0 (c_L_boxTypeOf l D cI cZ a x1 rfl) wd_192 ⟨wd_193, wd_194, wd_55⟩ (by decide +kernel) ⟨Nat.le_of_ble_eq_true rfl, Nat.le_of_ble_eq_true rfl⟩ pnil hl rfl rfl (Nat.le_of_ble_eq_true rfl) ⟨Nat.zero_le _, Nat.zero_le _⟩ d_L_foundIn_45 ?_
    replace h := bd h
    obtain ⟨r2, g2, h⟩ := h
    refine ro_V (n := 1) (ci := 2) (As := [.int (f_L_boxTypeOf x1)]) (rest := [.ref (a 3)]) C0 (c_T_classOf l D cI cZ a q (L_types σ) (f_L_boxTypeOf x1) g2) wd_195 ⟨wd_196, wd_197, wd_198, wd_52⟩ (by decide +kernel) ⟨Nat.le_of_ble_eq_true rfl, Nat.le_of_ble_eq_true rfl⟩ (hP.pick [10, 11, 12, 13, 14, 15, 16, 17, 18] rfl) rfl rfl rfl hl rfl rfl (Nat.le_of_ble_eq_true rfl) ⟨Nat.zero_le _, Nat.zero_le _⟩ d_L_foundIn_48 ?_
    try dsimp only at h
    replace h := bd h
    obtain ⟨r3, g3, h⟩ := h
    refine ro_V (n := 1) (ci := 1) (As := [.int r2]) (rest := []) C0 (c_C_withAbove l D cI cZ a q (L_classes σ) r2 g3) wd_199 ⟨wd_18, wd_19, wd_20, wd_8⟩ (by decide +kernel) ⟨Nat.le_of_ble_eq_true rfl, Nat.le_of_ble_eq_true rfl⟩ (hP.pick [3, 4, 5, 6, 7, 8, 9] rfl) rfl rfl rfl hl rfl rfl (Nat.le_of_ble_eq_true rfl) ⟨Nat.zero_le _, Nat.zero_le _⟩ d_L_foundIn_51 ?_
    try dsimp only at h
    exact ro_ret C0 (Option.some.inj h) d_L_foundIn_54
  · rw [if_neg e8_0] at h
    by_cases e8_1 : r1 = 2
    · rw [if_pos e8_1] at h
      refine lv_lookup (off := 47) (tgt := 55) hx hb d_L_foundIn_8 (by decide) (by rw [e8_1]; rfl) (by decide) ?_
      refine lv_bipush (v := 7) hx hb d_L_foundIn_55 (by decide) ?_
      exact ro_ret C0 (Option.some.inj h) d_L_foundIn_57
    · rw [if_neg e8_1] at h
      refine lv_lookup (off := 50) (tgt := 58) hx hb d_L_foundIn_8 (by decide) (by show Op.lookupswitch.offset [(0, 28), (2, 47)] 50 _ = _; rw [lv_osw e8_0 (by decide), lv_osw e8_1 (by decide)]; rfl) (by decide) ?_
      refine lv_iconst (v := 0) hx hb d_L_foundIn_58 (by decide) ?_
      refine lv_istore_n (lv' := [(2, .int 0), (0, .ref (a 0)), (1, .int x1)]) hx hb d_L_foundIn_59 rfl hl (by decide) rfl (fun ls hl => ?_)
      refine lv_aload_n hx hb d_L_foundIn_60 rfl (lv_at hl 1 rfl) ?_
      refine va_get (ci := 0) (v := .ref (a 10)) (C := R_L) (T := F_L) (N := 6) hx hb hts i_L hown hK.1 hP 0 rfl rfl 2 (by decide) (hts _ wd_85) (fun _ h9 => h9) rfl d_L_foundIn_61 ?_
      refine lv_iload_n hx hb d_L_foundIn_64 rfl (lv_at hl 2 rfl) ?_
      replace h := bd h
      obtain ⟨r4, g4, h⟩ := h
      refine ro_V (n := 1) (ci := 2) (As := [.int x1]) (rest := []) C0 (c_T_countParts l D cI cZ a q (L_types σ) x1 g4) wd_200 ⟨wd_201, wd_202, wd_203, wd_52⟩ (by decide +kernel) ⟨Nat.le_of_ble_eq_true rfl, Nat.le_of_ble_eq_true rfl⟩ (hP.pick [10, 11, 12, 13, 14, 15, 16, 17, 18] rfl) rfl rfl rfl hl rfl rfl (Nat.le_of_ble_eq_true rfl) ⟨Nat.zero_le _, Nat.zero_le _⟩ d_L_foundIn_65 ?_
      try dsimp only at h
      refine lv_istore_n (lv' := [(3, .int r4), (2, .int 0), (0, .ref (a 0)), (1, .int x1)]) hx hb d_L_foundIn_68 rfl hl (by decide) rfl (fun ls hl => ?_)
      refine lv_iconst (v := 0) hx hb d_L_foundIn_69 (by decide) ?_
      refine lv_istore (lv' := [(4, .int 0), (3, .int r4), (2, .int 0), (0, .ref (a 0)), (1, .int x1)]) hx hb d_L_foundIn_70 hl (by decide) rfl (fun ls hl => ?_)
      exact t_L_foundIn_72 (a := a) C0 hP  h (lv_sub hl [3, 4, 2, 1, 0] rfl)
set_option maxHeartbeats 4000000 in
set_option maxRecDepth 100000 in
theorem c_L_foundIn (l : Launch) (D : va_G) (cI cZ : ClassId) (a : Nat → Nat) (q : Nat) (σ : StL) (x1 : Int32) {val : Int32} (h : f_L_foundIn σ x1 = some val) : RoM l y_L_foundIn b_L_foundIn 5 (some .int) 2 44 D [(cI, .int), (cZ, .boolean)] [.ref (a 0), .int x1] (wL cI cZ a q σ) val :=
  ro_of (by decide) (Nat.le_of_ble_eq_true rfl) (fun p e s m args below meth c ls C0 hP hl => t_L_foundIn_0 (a := a) C0 hP h (lv_sub hl [0, 1] rfl))
-- part 07.5L.10L_commonOf.lean.txt
def f_L_commonOf (σ : StL) (x1 x2 : Int32) : Option Int32 :=
  (f_L_foundIn σ x1).bind fun r1 =>
  (f_L_foundIn σ x2).bind fun r2 =>
  some (r1 &&& r2)
set_option maxHeartbeats 4000000 in
set_option maxRecDepth 100000 in
theorem t_L_commonOf_0 {p : Program} {l : Launch} {e : Env} {s : State} {m : MethodId} {args : Array Value} {below : List Frame} {meth : Method} {c : Code} {D : va_G} {cI cZ : ClassId} {a : Nat → Nat} {q : Nat} {σ : StL} (C0 : Am p s m args meth c b_L_commonOf (some .int) 3 R_L D [(cI, .int), (cZ, .boolean)]) (hP : va_P D vwCl (wL cI cZ a q σ) s.heap) {val : Int32}   {x1 x2 : Int32} (h : f_L_commonOf σ x1 x2 = some val) {ls : Array Slot} (hl : lv_has ls 3 [(0, .ref (a 0)), (1, .int x1), (2, .int x2)]) : RoW p l e (rmK 3 68 0 0) s m args below meth c val (F0 m 0 ls []) := by
  obtain ⟨hx, hb, hr, hml, hown, hts, hlk, hK⟩ := id C0
  unfold f_L_commonOf at h
  refine lv_aload_n hx hb d_L_commonOf_0 rfl (lv_at hl 0 rfl) ?_
  refine lv_iload_n hx hb d_L_commonOf_1 rfl (lv_at hl 1 rfl) ?_
  replace h := bd h
  obtain ⟨r1, g1, h⟩ := h
  refine ro_V (n := 1) (ci := 0) (As := [.int x1]) (rest := []) C0 (c_L_foundIn l D cI cZ a q σ x1 g1) wd_208 ⟨wd_209, wd_210, wd_211, wd_55⟩ (by decide +kernel) ⟨Nat.le_of_ble_eq_true rfl, Nat.le_of_ble_eq_true rfl⟩ hP rfl rfl rfl hl rfl rfl (Nat.le_of_ble_eq_true rfl) ⟨Nat.zero_le _, Nat.zero_le _⟩ d_L_commonOf_2 ?_
  try dsimp only at h
  refine lv_aload_n hx hb d_L_commonOf_5 rfl (lv_at hl 0 rfl) ?_
  refine lv_iload_n hx hb d_L_commonOf_6 rfl (lv_at hl 2 rfl) ?_
  replace h := bd h
  obtain ⟨r2, g2, h⟩ := h
  refine ro_V (n := 1) (ci := 0) (As := [.int x2]) (rest := [.int r1]) C0 (c_L_foundIn l D cI cZ a q σ x2 g2) wd_208 ⟨wd_209, wd_210, wd_211, wd_55⟩ (by decide +kernel) ⟨Nat.le_of_ble_eq_true rfl, Nat.le_of_ble_eq_true rfl⟩ hP rfl rfl rfl hl rfl rfl (Nat.le_of_ble_eq_true rfl) ⟨Nat.zero_le _, Nat.zero_le _⟩ d_L_commonOf_7 ?_
  try dsimp only at h
  refine lv_iand hx hb d_L_commonOf_10 ?_
  exact ro_ret C0 (Option.some.inj h) d_L_commonOf_11
set_option maxHeartbeats 4000000 in
set_option maxRecDepth 100000 in
theorem c_L_commonOf (l : Launch) (D : va_G) (cI cZ : ClassId) (a : Nat → Nat) (q : Nat) (σ : StL) (x1 : Int32) (x2 : Int32) {val : Int32} (h : f_L_commonOf σ x1 x2 = some val) : RoM l y_L_commonOf b_L_commonOf 3 (some .int) 3 68 D [(cI, .int), (cZ, .boolean)] [.ref (a 0), .int x1, .int x2] (wL cI cZ a q σ) val :=
  ro_of (by decide) (Nat.le_of_ble_eq_true rfl) (fun p e s m args below meth c ls C0 hP hl => t_L_commonOf_0 (a := a) C0 hP h (lv_sub hl [0, 1, 2] rfl))
-- part 07.5L.11L_countHolders.lean.txt
def f_L_countHolders (σ : StL) (x1 : Int32) : Option Int32 :=
  (f_T_countParts (L_types σ) x1).bind fun r1 =>
  some (if 1 < r1 then r1 else 1)
set_option maxHeartbeats 4000000 in
set_option maxRecDepth 100000 in
theorem t_L_countHolders_0 {p : Program} {l : Launch} {e : Env} {s : State} {m : MethodId} {args : Array Value} {below : List Frame} {meth : Method} {c : Code} {D : va_G} {cI cZ : ClassId} {a : Nat → Nat} {q : Nat} {σ : StL} (C0 : Am p s m args meth c b_L_countHolders (some .int) 2 R_L D [(cI, .int), (cZ, .boolean)]) (hP : va_P D vwCl (wL cI cZ a q σ) s.heap) {val : Int32}   {x1 : Int32} (h : f_L_countHolders σ x1 = some val) {ls : Array Slot} (hl : lv_has ls 2 [(0, .ref (a 0)), (1, .int x1)]) : RoW p l e (rmK 2 42 0 0) s m args below meth c val (F0 m 0 ls []) := by
  obtain ⟨hx, hb, hr, hml, hown, hts, hlk, hK⟩ := id C0
  unfold f_L_countHolders at h
  refine lv_iconst (v := 1) hx hb d_L_countHolders_0 (by decide) ?_
  refine lv_aload_n hx hb d_L_countHolders_1 rfl (lv_at hl 0 rfl) ?_
  refine va_get (ci := 0) (v := .ref (a 10)) (C := R_L) (T := F_L) (N := 6) hx hb hts i_L hown hK.1 hP 0 rfl rfl 2 (by decide) (hts _ wd_85) (fun _ h9 => h9) rfl d_L_countHolders_2 ?_
  refine lv_iload_n hx hb d_L_countHolders_5 rfl (lv_at hl 1 rfl) ?_
  replace h := bd h
  obtain ⟨r1, g1, h⟩ := h
  refine ro_V (n := 1) (ci := 2) (As := [.int x1]) (rest := [.int 1]) C0 (c_T_countParts l D cI cZ a q (L_types σ) x1 g1) wd_200 ⟨wd_201, wd_202, wd_203, wd_52⟩ (by decide +kernel) ⟨Nat.le_of_ble_eq_true rfl, Nat.le_of_ble_eq_true rfl⟩ (hP.pick [10, 11, 12, 13, 14, 15, 16, 17, 18] rfl) rfl rfl rfl hl rfl rfl (Nat.le_of_ble_eq_true rfl) ⟨Nat.zero_le _, Nat.zero_le _⟩ d_L_countHolders_6 ?_
  try dsimp only at h
  refine va_mmax hx hb (by rw [hml]; exact hl.1.symm) hown (hts _ wd_212) (hts _ wd_14) (hts _ wd_15) (hts _ wd_16) (Nat.le_of_ble_eq_true rfl) (Nat.le_of_ble_eq_true rfl) (Nat.zero_le _) (Nat.zero_le _) d_L_countHolders_9 ?_
  exact ro_ret C0 (Option.some.inj h) d_L_countHolders_12
set_option maxHeartbeats 4000000 in
set_option maxRecDepth 100000 in
theorem c_L_countHolders (l : Launch) (D : va_G) (cI cZ : ClassId) (a : Nat → Nat) (q : Nat) (σ : StL) (x1 : Int32) {val : Int32} (h : f_L_countHolders σ x1 = some val) : RoM l y_L_countHolders b_L_countHolders 2 (some .int) 2 42 D [(cI, .int), (cZ, .boolean)] [.ref (a 0), .int x1] (wL cI cZ a q σ) val :=
  ro_of (by decide) (Nat.le_of_ble_eq_true rfl) (fun p e s m args below meth c ls C0 hP hl => t_L_countHolders_0 (a := a) C0 hP h (lv_sub hl [0, 1] rfl))
-- part 07.5L.12L_find.lean.txt
def f_L_find_75 (k41 : StL → Int32 → Int32 → Int32 → Int32 → Option Int32) (σ : StL) (x1 x2 x3 x4 t0 : Int32) : Option Int32 :=
  (f_T_classOf (L_types σ) t0).bind fun r5 =>
  (f_T_argumentAt (L_types σ) t0).bind fun r6 =>
  (f_C_climb (L_classes σ) r5 r6 x2).bind fun r7 =>
  if r7 = (-1) then
    k41 σ x1 x2 x3 (x4 + 1)
  else
    some r7
def f_L_find_41_s (k41 : StL → Int32 → Int32 → Int32 → Int32 → Option Int32) (σ : StL) (x1 x2 x3 x4 : Int32) : Option Int32 :=
  if x3 ≤ x4 then
    some (-1)
  else
    (f_T_kindOf (L_types σ) x1).bind fun r3 =>
    if r3 = 0 then
      f_L_find_75 k41 σ x1 x2 x3 x4 (f_L_boxTypeOf x1)
    else
      (f_T_partOf (L_types σ) x1 x4).bind fun r4 =>
      f_L_find_75 k41 σ x1 x2 x3 x4 r4
def f_L_find_41 : Nat → StL → Int32 → Int32 → Int32 → Int32 → Option Int32
  | 0, _, _, _, _, _ => none
  | n + 1, σ, x1, x2, x3, x4 => f_L_find_41_s (f_L_find_41 n) σ x1 x2 x3 x4
def f_L_find_26 (σ : StL) : Option Int32 :=
  some 0
def f_L_find (σ : StL) (x1 x2 : Int32) : Option Int32 :=
  (f_T_kindOf (L_types σ) x1).bind fun r1 =>
  if r1 = 2 then
    if x2 = 0 then
      f_L_find_26 σ
    else
      if x2 = 1 then
        f_L_find_26 σ
      else
        if x2 = 2 then
          f_L_find_26 σ
        else
          some (-1)
  else
    (f_L_countHolders σ x1).bind fun r2 =>
    f_L_find_41 1000 σ x1 x2 r2 0
set_option maxHeartbeats 4000000 in
set_option maxRecDepth 100000 in
theorem t_L_find_75 {p : Program} {l : Launch} {e : Env} {s : State} {m : MethodId} {args : Array Value} {below : List Frame} {meth : Method} {c : Code} {D : va_G} {cI cZ : ClassId} {a : Nat → Nat} {q : Nat} {σ : StL} (C0 : Am p s m args meth c b_L_find (some .int) 7 R_L D [(cI, .int), (cZ, .boolean)]) (hP : va_P D vwCl (wL cI cZ a q σ) s.heap) {val : Int32} {k41 : StL → Int32 → Int32 → Int32 → Int32 → Option Int32} (hk41 : ∀ (x1 x2 x3 x4 : Int32) (ls : Array Slot), k41 σ x1 x2 x3 x4 = some val → lv_has ls 7 [(0, .ref (a 0)), (1, .int x1), (2, .int x2), (3, .int x3), (4, .int x4)] → RoW p l e (rmK 3 72 0 0) s m args below meth c val (F0 m 41 ls []))  {x1 x2 x3 x4 t0 : Int32} (h : f_L_find_75 k41 σ x1 x2 x3 x4 t0 = some val) {ls : Array Slot} (hl : lv_has ls 7 [(0, .ref (a 0)), (1, .int x1), (2, .int x2), (3, .int x3), (4, .int x4)]) : RoW p l e (rmK 3 72 0 0) s m args below meth c val (F0 m 75 ls [.int t0]) := by
  obtain ⟨hx, hb, hr, hml, hown, hts, hlk, hK⟩ := id C0
  unfold f_L_find_75 at h
  refine lv_istore (lv' := [(5, .int t0), (0, .ref (a 0)), (1, .int x1), (2, .int x2), (3, .int x3), (4, .int x4)]) hx hb d_L_find_75 hl (by decide) rfl (fun ls hl => ?_)
  refine lv_aload_n hx hb d_L_find_77 rfl (lv_at hl 1 rfl) ?_
  refine va_get (ci := 0) (v := .ref (a 3)) (C := R_L) (T := F_L) (N := 6) hx hb hts i_L hown hK.1 hP 0 rfl rfl 1 (by decide) (hts _ wd_67) (fun _ h9 => h9) rfl d_L_find_78 ?_
  refine lv_aload_n hx hb d_L_find_81 rfl (lv_at hl 1 rfl) ?_
  refine va_get (ci := 0) (v := .ref (a 10)) (C := R_L) (T := F_L) (N := 6) hx hb hts i_L hown hK.1 hP 0 rfl rfl 2 (by decide) (hts _ wd_85) (fun _ h9 => h9) rfl d_L_find_82 ?_
  refine lv_iload hx hb d_L_find_85 (lv_at hl 0 rfl) ?_
  replace h := bd h
  obtain ⟨r5, g5, h⟩ := h
  refine ro_V (n := 1) (ci := 2) (As := [.int t0]) (rest := [.ref (a 3)]) C0 (c_T_classOf l D cI cZ a q (L_types σ) t0 g5) wd_195 ⟨wd_196, wd_197, wd_198, wd_52⟩ (by decide +kernel) ⟨Nat.le_of_ble_eq_true rfl, Nat.le_of_ble_eq_true rfl⟩ (hP.pick [10, 11, 12, 13, 14, 15, 16, 17, 18] rfl) rfl rfl rfl hl rfl rfl (Nat.le_of_ble_eq_true rfl) ⟨Nat.zero_le _, Nat.zero_le _⟩ d_L_find_87 ?_
  try dsimp only at h
  refine lv_aload_n hx hb d_L_find_90 rfl (lv_at hl 1 rfl) ?_
  refine va_get (ci := 0) (v := .ref (a 10)) (C := R_L) (T := F_L) (N := 6) hx hb hts i_L hown hK.1 hP 0 rfl rfl 2 (by decide) (hts _ wd_85) (fun _ h9 => h9) rfl d_L_find_91 ?_
  refine lv_iload hx hb d_L_find_94 (lv_at hl 0 rfl) ?_
  replace h := bd h
  obtain ⟨r6, g6, h⟩ := h
  refine ro_V (n := 1) (ci := 2) (As := [.int t0]) (rest := [.int r5, .ref (a 3)]) C0 (c_T_argumentAt l D cI cZ a q (L_types σ) t0 g6) wd_217 ⟨wd_218, wd_219, wd_220, wd_52⟩ (by decide +kernel) ⟨Nat.le_of_ble_eq_true rfl, Nat.le_of_ble_eq_true rfl⟩ (hP.pick [10, 11, 12, 13, 14, 15, 16, 17, 18] rfl) rfl rfl rfl hl rfl rfl (Nat.le_of_ble_eq_true rfl) ⟨Nat.zero_le _, Nat.zero_le _⟩ d_L_find_96 ?_
  try dsimp only at h
  refine lv_iload_n hx hb d_L_find_99 rfl (lv_at hl 3 rfl) ?_
  replace h := bd h
  obtain ⟨r7, g7, h⟩ := h
  refine ro_V (n := 3) (ci := 1) (As := [.int r5, .int r6, .int x2]) (rest := []) C0 (c_C_climb l D cI cZ a q (L_classes σ) r5 r6 x2 g7) wd_221 ⟨wd_125, wd_126, wd_127, wd_8⟩ (by decide +kernel) ⟨Nat.le_of_ble_eq_true rfl, Nat.le_of_ble_eq_true rfl⟩ (hP.pick [3, 4, 5, 6, 7, 8, 9] rfl) rfl rfl rfl hl rfl rfl (Nat.le_of_ble_eq_true rfl) ⟨Nat.zero_le _, Nat.zero_le _⟩ d_L_find_100 ?_
  try dsimp only at h
  refine lv_istore (lv' := [(6, .int r7), (5, .int t0), (0, .ref (a 0)), (1, .int x1), (2, .int x2), (3, .int x3), (4, .int x4)]) hx hb d_L_find_103 hl (by decide) rfl (fun ls hl => ?_)
  refine lv_iload hx hb d_L_find_105 (lv_at hl 0 rfl) ?_
  refine lv_iconst (v := (-1)) hx hb d_L_find_107 (by decide) ?_
  refine lv_icmp_eq (tgt := 114) hx hb d_L_find_108 (by decide) (fun hc => ?_) (fun hc => ?_)
  · rw [if_pos hc] at h
    refine lv_iinc (v := (x4 + 1)) (lv' := [(4, .int (x4 + 1)), (6, .int r7), (5, .int t0), (0, .ref (a 0)), (1, .int x1), (2, .int x2), (3, .int x3)]) hx hb d_L_find_114 hl (k := 6) rfl rfl (by decide) rfl (fun ls hl => ?_)
    refine lv_goto (tgt := 41) hx hb d_L_find_117 (by decide) ?_
    exact hk41 _ _ _ _ _ h (lv_sub hl [3, 4, 5, 6, 0] rfl)
  · rw [if_neg hc] at h
    refine lv_iload hx hb d_L_find_111 (lv_at hl 0 rfl) ?_
    exact ro_ret C0 (Option.some.inj h) d_L_find_113
set_option maxHeartbeats 4000000 in
set_option maxRecDepth 100000 in
theorem t_L_find_41_s {p : Program} {l : Launch} {e : Env} {s : State} {m : MethodId} {args : Array Value} {below : List Frame} {meth : Method} {c : Code} {D : va_G} {cI cZ : ClassId} {a : Nat → Nat} {q : Nat} {σ : StL} (C0 : Am p s m args meth c b_L_find (some .int) 7 R_L D [(cI, .int), (cZ, .boolean)]) (hP : va_P D vwCl (wL cI cZ a q σ) s.heap) {val : Int32} {k41 : StL → Int32 → Int32 → Int32 → Int32 → Option Int32}  (hk41 : ∀ (x1 x2 x3 x4 : Int32) (ls : Array Slot), k41 σ x1 x2 x3 x4 = some val → lv_has ls 7 [(0, .ref (a 0)), (1, .int x1), (2, .int x2), (3, .int x3), (4, .int x4)] → RoW p l e (rmK 3 72 0 0) s m args below meth c val (F0 m 41 ls [])) {x1 x2 x3 x4 : Int32} (h : f_L_find_41_s k41 σ x1 x2 x3 x4 = some val) {ls : Array Slot} (hl : lv_has ls 7 [(0, .ref (a 0)), (1, .int x1), (2, .int x2), (3, .int x3), (4, .int x4)]) : RoW p l e (rmK 3 72 0 0) s m args below meth c val (F0 m 41 ls []) := by
  obtain ⟨hx, hb, hr, hml, hown, hts, hlk, hK⟩ := id C0
  unfold f_L_find_41_s at h
  refine lv_iload hx hb d_L_find_41 (lv_at hl 4 rfl) ?_
  refine lv_iload_n hx hb d_L_find_43 rfl (lv_at hl 3 rfl) ?_
  refine lv_icmp_ge (tgt := 120) hx hb d_L_find_44 (by decide) (fun hc => ?_) (fun hc => ?_)
  · rw [if_pos hc] at h
    refine lv_iconst (v := (-1)) hx hb d_L_find_120 (by decide) ?_
    exact ro_ret C0 (Option.some.inj h) d_L_find_121
  · rw [if_neg hc] at h
    refine lv_aload_n hx hb d_L_find_47 rfl (lv_at hl 0 rfl) ?_
    refine va_get (ci := 0) (v := .ref (a 10)) (C := R_L) (T := F_L) (N := 6) hx hb hts i_L hown hK.1 hP 0 rfl rfl 2 (by decide) (hts _ wd_85) (fun _ h9 => h9) rfl d_L_find_48 ?_
    refine lv_iload_n hx hb d_L_find_51 rfl (lv_at hl 1 rfl) ?_
    replace h := bd h
    obtain ⟨r3, g3, h⟩ := h
    refine ro_V (n := 1) (ci := 2) (As := [.int x1]) (rest := []) C0 (c_T_kindOf l D cI cZ a q (L_types σ) x1 g3) wd_99 ⟨wd_100, wd_101, wd_102, wd_52⟩ (by decide +kernel) ⟨Nat.le_of_ble_eq_true rfl, Nat.le_of_ble_eq_true rfl⟩ (hP.pick [10, 11, 12, 13, 14, 15, 16, 17, 18] rfl) rfl rfl rfl hl rfl rfl (Nat.le_of_ble_eq_true rfl) ⟨Nat.zero_le _, Nat.zero_le _⟩ d_L_find_52 ?_
    try dsimp only at h
    refine lv_if_ne (tgt := 65) hx hb d_L_find_55 (by decide) (fun hc => ?_) (fun hc => ?_)
    · rw [if_neg hc] at h
      refine lv_aload_n hx hb d_L_find_65 rfl (lv_at hl 0 rfl) ?_
      refine va_get (ci := 0) (v := .ref (a 10)) (C := R_L) (T := F_L) (N := 6) hx hb hts i_L hown hK.1 hP 0 rfl rfl 2 (by decide) (hts _ wd_85) (fun _ h9 => h9) rfl d_L_find_66 ?_
      refine lv_iload_n hx hb d_L_find_69 rfl (lv_at hl 1 rfl) ?_
      refine lv_iload hx hb d_L_find_70 (lv_at hl 4 rfl) ?_
      replace h := bd h
      obtain ⟨r4, g4, h⟩ := h
      refine ro_V (n := 2) (ci := 2) (As := [.int x1, .int x4]) (rest := []) C0 (c_T_partOf l D cI cZ a q (L_types σ) x1 x4 g4) wd_204 ⟨wd_205, wd_206, wd_207, wd_52⟩ (by decide +kernel) ⟨Nat.le_of_ble_eq_true rfl, Nat.le_of_ble_eq_true rfl⟩ (hP.pick [10, 11, 12, 13, 14, 15, 16, 17, 18] rfl) rfl rfl rfl hl rfl rfl (Nat.le_of_ble_eq_true rfl) ⟨Nat.zero_le _, Nat.zero_le _⟩ d_L_find_72 ?_
      try dsimp only at h
      exact t_L_find_75 (a := a) C0 hP hk41 h (lv_sub hl [0, 1, 2, 3, 4] rfl)
    · rw [if_pos hc] at h
      refine lv_iload_n hx hb d_L_find_58 rfl (lv_at hl 1 rfl) ?_
      refine ro_S (n := 1) (As := [.int x1]) (rest := []) C0 (c_L_boxTypeOf l D cI cZ a x1 rfl) wd_192 ⟨wd_193, wd_194, wd_55⟩ (by decide +kernel) ⟨Nat.le_of_ble_eq_true rfl, Nat.le_of_ble_eq_true rfl⟩ pnil hl rfl rfl (Nat.le_of_ble_eq_true rfl) ⟨Nat.zero_le _, Nat.zero_le _⟩ d_L_find_59 ?_
      refine lv_goto (tgt := 75) hx hb d_L_find_62 (by decide) ?_
      exact t_L_find_75 (a := a) C0 hP hk41 h (lv_sub hl [0, 1, 2, 3, 4] rfl)
set_option maxHeartbeats 4000000 in
set_option maxRecDepth 100000 in
theorem t_L_find_41 {p : Program} {l : Launch} {e : Env} {s : State} {m : MethodId} {args : Array Value} {below : List Frame} {meth : Method} {c : Code} {D : va_G} {cI cZ : ClassId} {a : Nat → Nat} {q : Nat} {σ : StL} (C0 : Am p s m args meth c b_L_find (some .int) 7 R_L D [(cI, .int), (cZ, .boolean)]) (hP : va_P D vwCl (wL cI cZ a q σ) s.heap) {val : Int32}  {n : Nat} {x1 x2 x3 x4 : Int32} (h : f_L_find_41  n σ x1 x2 x3 x4 = some val) {ls : Array Slot} (hl : lv_has ls 7 [(0, .ref (a 0)), (1, .int x1), (2, .int x2), (3, .int x3), (4, .int x4)]) : RoW p l e (rmK 3 72 0 0) s m args below meth c val (F0 m 41 ls []) := by
  induction n generalizing x1 x2 x3 x4 ls with
  | zero => cases h
  | succ n ih => exact t_L_find_41_s (a := a) C0 hP  (fun _ _ _ _ _ h hl => ih h hl) h hl
set_option maxHeartbeats 4000000 in
set_option maxRecDepth 100000 in
theorem t_L_find_26 {p : Program} {l : Launch} {e : Env} {s : State} {m : MethodId} {args : Array Value} {below : List Frame} {meth : Method} {c : Code} {D : va_G} {cI cZ : ClassId} {a : Nat → Nat} {q : Nat} {σ : StL} (C0 : Am p s m args meth c b_L_find (some .int) 7 R_L D [(cI, .int), (cZ, .boolean)]) (hP : va_P D vwCl (wL cI cZ a q σ) s.heap) {val : Int32}   (h : f_L_find_26 σ = some val) {ls : Array Slot} (hl : lv_has ls 7 []) : RoW p l e (rmK 3 72 0 0) s m args below meth c val (F0 m 26 ls []) := by
  obtain ⟨hx, hb, hr, hml, hown, hts, hlk, hK⟩ := id C0
  unfold f_L_find_26 at h
  refine lv_iconst (v := 0) hx hb d_L_find_26 (by decide) ?_
  refine lv_goto (tgt := 31) hx hb d_L_find_27 (by decide) ?_
  exact ro_ret C0 (Option.some.inj h) d_L_find_31
set_option maxHeartbeats 4000000 in
set_option maxRecDepth 100000 in
theorem t_L_find_0 {p : Program} {l : Launch} {e : Env} {s : State} {m : MethodId} {args : Array Value} {below : List Frame} {meth : Method} {c : Code} {D : va_G} {cI cZ : ClassId} {a : Nat → Nat} {q : Nat} {σ : StL} (C0 : Am p s m args meth c b_L_find (some .int) 7 R_L D [(cI, .int), (cZ, .boolean)]) (hP : va_P D vwCl (wL cI cZ a q σ) s.heap) {val : Int32}   {x1 x2 : Int32} (h : f_L_find σ x1 x2 = some val) {ls : Array Slot} (hl : lv_has ls 7 [(0, .ref (a 0)), (1, .int x1), (2, .int x2)]) : RoW p l e (rmK 3 72 0 0) s m args below meth c val (F0 m 0 ls []) := by
  obtain ⟨hx, hb, hr, hml, hown, hts, hlk, hK⟩ := id C0
  unfold f_L_find at h
  refine lv_aload_n hx hb d_L_find_0 rfl (lv_at hl 0 rfl) ?_
  refine va_get (ci := 0) (v := .ref (a 10)) (C := R_L) (T := F_L) (N := 6) hx hb hts i_L hown hK.1 hP 0 rfl rfl 2 (by decide) (hts _ wd_85) (fun _ h9 => h9) rfl d_L_find_1 ?_
  refine lv_iload_n hx hb d_L_find_4 rfl (lv_at hl 1 rfl) ?_
  replace h := bd h
  obtain ⟨r1, g1, h⟩ := h
  refine ro_V (n := 1) (ci := 2) (As := [.int x1]) (rest := []) C0 (c_T_kindOf l D cI cZ a q (L_types σ) x1 g1) wd_99 ⟨wd_100, wd_101, wd_102, wd_52⟩ (by decide +kernel) ⟨Nat.le_of_ble_eq_true rfl, Nat.le_of_ble_eq_true rfl⟩ (hP.pick [10, 11, 12, 13, 14, 15, 16, 17, 18] rfl) rfl rfl rfl hl rfl rfl (Nat.le_of_ble_eq_true rfl) ⟨Nat.zero_le _, Nat.zero_le _⟩ d_L_find_5 ?_
  try dsimp only at h
  refine lv_iconst (v := 2) hx hb d_L_find_8 (by decide) ?_
  refine lv_icmp_ne (tgt := 32) hx hb d_L_find_9 (by decide) (fun hc => ?_) (fun hc => ?_)
  · rw [if_neg hc] at h
    refine lv_aload_n hx hb d_L_find_32 rfl (lv_at hl 0 rfl) ?_
    refine lv_iload_n hx hb d_L_find_33 rfl (lv_at hl 1 rfl) ?_
    replace h := bd h
    obtain ⟨r2, g2, h⟩ := h
    refine ro_V (n := 1) (ci := 0) (As := [.int x1]) (rest := []) C0 (c_L_countHolders l D cI cZ a q σ x1 g2) wd_213 ⟨wd_214, wd_215, wd_216, wd_55⟩ (by decide +kernel) ⟨Nat.le_of_ble_eq_true rfl, Nat.le_of_ble_eq_true rfl⟩ hP rfl rfl rfl hl rfl rfl (Nat.le_of_ble_eq_true rfl) ⟨Nat.zero_le _, Nat.zero_le _⟩ d_L_find_34 ?_
    try dsimp only at h
    refine lv_istore_n (lv' := [(3, .int r2), (0, .ref (a 0)), (1, .int x1), (2, .int x2)]) hx hb d_L_find_37 rfl hl (by decide) rfl (fun ls hl => ?_)
    refine lv_iconst (v := 0) hx hb d_L_find_38 (by decide) ?_
    refine lv_istore (lv' := [(4, .int 0), (3, .int r2), (0, .ref (a 0)), (1, .int x1), (2, .int x2)]) hx hb d_L_find_39 hl (by decide) rfl (fun ls hl => ?_)
    exact t_L_find_41 (a := a) C0 hP  h (lv_sub hl [2, 3, 4, 1, 0] rfl)
  · rw [if_pos hc] at h
    refine lv_iload_n hx hb d_L_find_12 rfl (lv_at hl 2 rfl) ?_
    refine lv_if_eq (tgt := 26) hx hb d_L_find_13 (by decide) (fun hc => ?_) (fun hc => ?_)
    · rw [if_pos hc] at h
      exact t_L_find_26 (a := a) C0 hP  h (lv_sub hl [] rfl)
    · rw [if_neg hc] at h
      refine lv_iload_n hx hb d_L_find_16 rfl (lv_at hl 2 rfl) ?_
      refine lv_iconst (v := 1) hx hb d_L_find_17 (by decide) ?_
      refine lv_icmp_eq (tgt := 26) hx hb d_L_find_18 (by decide) (fun hc => ?_) (fun hc => ?_)
      · rw [if_pos hc] at h
        exact t_L_find_26 (a := a) C0 hP  h (lv_sub hl [] rfl)
      · rw [if_neg hc] at h
        refine lv_iload_n hx hb d_L_find_21 rfl (lv_at hl 2 rfl) ?_
        refine lv_iconst (v := 2) hx hb d_L_find_22 (by decide) ?_
        refine lv_icmp_ne (tgt := 30) hx hb d_L_find_23 (by decide) (fun hc => ?_) (fun hc => ?_)
        · rw [if_neg hc] at h
          refine lv_iconst (v := (-1)) hx hb d_L_find_30 (by decide) ?_
          exact ro_ret C0 (Option.some.inj h) d_L_find_31
        · rw [if_pos hc] at h
          exact t_L_find_26 (a := a) C0 hP  h (lv_sub hl [] rfl)
set_option maxHeartbeats 4000000 in
set_option maxRecDepth 100000 in
theorem c_L_find (l : Launch) (D : va_G) (cI cZ : ClassId) (a : Nat → Nat) (q : Nat) (σ : StL) (x1 : Int32) (x2 : Int32) {val : Int32} (h : f_L_find σ x1 x2 = some val) : RoM l y_L_find b_L_find 7 (some .int) 3 72 D [(cI, .int), (cZ, .boolean)] [.ref (a 0), .int x1, .int x2] (wL cI cZ a q σ) val :=
  ro_of (by decide) (Nat.le_of_ble_eq_true rfl) (fun p e s m args below meth c ls C0 hP hl => t_L_find_0 (a := a) C0 hP h (lv_sub hl [0, 1, 2] rfl))
-- part 07.5L.13L_boundArgument.lean.txt
def f_L_boundArgument_46 (rec : StL → Int32 → Int32 → Int32 → Option ((Int32 ⊕ Nat) × StL × Nat × Nat)) (σ : StL) (t0 : Int32) : Option ((Int32 ⊕ Nat) × StL × Nat × Nat) :=
  if t0 = (-1) then
    some (.inl (-1), σ, 0, 0)
  else
    some (.inl (f_L_argumentOf 2 t0), σ, 0, 0)
def f_L_boundArgument_15 (rec : StL → Int32 → Int32 → Int32 → Option ((Int32 ⊕ Nat) × StL × Nat × Nat)) (σ : StL) (x1 x2 x3 : Int32) : Option ((Int32 ⊕ Nat) × StL × Nat × Nat) :=
  if x3 = 0 then
    (f_T_makeNamed (L_types σ) 0 0).bind fun r2 =>
    f_L_boundArgument_46 rec (L_set_types σ r2.2) r2.1
  else
    (rec σ (f_L_typeOf x1) (f_L_typeOf x2) (x3 - 1)).bind fun r1 => ad_ r1.2.2.1 r1.2.2.2 <| match r1.1 with
    | .inr e => some (.inr e, r1.2.1, 0, 0)
    | .inl r1v =>
    f_L_boundArgument_46 rec r1.2.1 r1v
def f_L_boundArgument (rec : StL → Int32 → Int32 → Int32 → Option ((Int32 ⊕ Nat) × StL × Nat × Nat)) (σ : StL) (x1 x2 x3 : Int32) : Option ((Int32 ⊕ Nat) × StL × Nat × Nat) :=
  if x1 = x2 then
    if (f_L_howOf x1) = 2 then
      f_L_boundArgument_15 rec σ x1 x2 x3
    else
      some (.inl x1, σ, 0, 0)
  else
    f_L_boundArgument_15 rec σ x1 x2 x3
set_option maxHeartbeats 4000000 in
set_option maxRecDepth 100000 in
theorem t_L_boundArgument_46 {p : Program} {l : Launch} {e : Env} {s : State} {m : MethodId} {args : Array Value} {below : List Frame} {meth : Method} {c : Code} {D : va_G} {cI cZ : ClassId} {a : Nat → Nat} {A : Nat → Prop} (C0 : Am p s m args meth c b_L_boundArgument (some .int) 5 R_L D [(cI, .int), (cZ, .boolean)]) (hA : ∀ q, s.heap.size ≤ q → A q) (hT : ∀ x ∈ c.exceptionTable.toList, False) (hl0 : l.stackTraces = false) (hZ : Zs A s s.heap) {v : Int32 ⊕ Nat} {u : StL} {K N : Nat} {rec : StL → Int32 → Int32 → Int32 → Option ((Int32 ⊕ Nat) × StL × Nat × Nat)} {fr0 lc0 : Nat} (hfr : 5 ≤ fr0) (hlc : 132 ≤ lc0) (hrec : ∀ (q : Nat) (σ : StL) (z0 z1 z2 : Int32) (r : (Int32 ⊕ Nat) × StL × Nat × Nat), rec σ z0 z1 z2 = some r → TxM l y_L_upperBound b_L_upperBound 9 (some .int) fr0 lc0 D [(cI, .int), (cZ, .boolean)] [.ref (a 0), .int z0, .int z1, .int z2] (fun q (σ : StL) => wL cI cZ a q σ) q σ r)   {q : Nat} {σ : StL} {t0 : Int32} {kc ks mc ms : Nat} (h : f_L_boundArgument_46 rec σ t0 = some (v, u, mc, ms)) (hkc : kc + mc = K) (hks : ks + ms = N) {H : Heap} {locs : List Loc} (hP : va_P D vwCl (wL cI cZ a q σ) H) (hD : va_D A (wL cI cZ a q σ)) (hS : va_S A s.heap H locs) {ls : Array Slot} (hl : lv_has ls 5 []) : W p l e (rmK (fr0 + 1) (lc0 + 28) K N) s m args below meth c H locs kc ks (TxQ below args s D A (fun q (σ : StL) => (wL cI cZ a q σ)) v u K N) (F0 m 46 ls [.int t0]) := by
  obtain ⟨hx, hb, hr, hml, hown, hts, hlk, hK⟩ := id C0
  have hcs : kc ≤ K ∧ ks ≤ N := ⟨by omega, by omega⟩
  unfold f_L_boundArgument_46 at h
  refine lv_istore (lv' := [(4, .int t0)]) hx hb d_L_boundArgument_46 hl (by decide) rfl (fun ls hl => ?_)
  refine lv_iload hx hb d_L_boundArgument_48 (lv_at hl 0 rfl) ?_
  refine lv_iconst (v := (-1)) hx hb d_L_boundArgument_50 (by decide) ?_
  refine lv_icmp_ne (tgt := 58) hx hb d_L_boundArgument_51 (by decide) (fun hc => ?_) (fun hc => ?_)
  · rw [if_neg hc] at h
    refine lv_iconst (v := 2) hx hb d_L_boundArgument_58 (by decide) ?_
    refine lv_iload hx hb d_L_boundArgument_59 (lv_at hl 0 rfl) ?_
    refine ro_S (n := 2) (As := [.int 2, .int t0]) (rest := []) C0 (c_L_argumentOf l D cI cZ a 2 t0 rfl) wd_174 ⟨wd_106, wd_107, wd_55⟩ (by decide +kernel) ⟨by show 0 + 1 ≤ fr0 + 1; omega, by show 8 + (2 + 11) + 0 ≤ lc0 + 28; omega⟩ pnil hl rfl rfl (Nat.le_of_ble_eq_true rfl) hcs d_L_boundArgument_61 ?_
    cases h; exact tx_ret C0 hP hD hS (by omega) (by omega) d_L_boundArgument_64
  · rw [if_pos hc] at h
    refine lv_iconst (v := (-1)) hx hb d_L_boundArgument_54 (by decide) ?_
    refine lv_goto (tgt := 64) hx hb d_L_boundArgument_55 (by decide) ?_
    cases h; exact tx_ret C0 hP hD hS (by omega) (by omega) d_L_boundArgument_64
set_option maxHeartbeats 4000000 in
set_option maxRecDepth 100000 in
theorem t_L_boundArgument_15 {p : Program} {l : Launch} {e : Env} {s : State} {m : MethodId} {args : Array Value} {below : List Frame} {meth : Method} {c : Code} {D : va_G} {cI cZ : ClassId} {a : Nat → Nat} {A : Nat → Prop} (C0 : Am p s m args meth c b_L_boundArgument (some .int) 5 R_L D [(cI, .int), (cZ, .boolean)]) (hA : ∀ q, s.heap.size ≤ q → A q) (hT : ∀ x ∈ c.exceptionTable.toList, False) (hl0 : l.stackTraces = false) (hZ : Zs A s s.heap) {v : Int32 ⊕ Nat} {u : StL} {K N : Nat} {rec : StL → Int32 → Int32 → Int32 → Option ((Int32 ⊕ Nat) × StL × Nat × Nat)} {fr0 lc0 : Nat} (hfr : 5 ≤ fr0) (hlc : 132 ≤ lc0) (hrec : ∀ (q : Nat) (σ : StL) (z0 z1 z2 : Int32) (r : (Int32 ⊕ Nat) × StL × Nat × Nat), rec σ z0 z1 z2 = some r → TxM l y_L_upperBound b_L_upperBound 9 (some .int) fr0 lc0 D [(cI, .int), (cZ, .boolean)] [.ref (a 0), .int z0, .int z1, .int z2] (fun q (σ : StL) => wL cI cZ a q σ) q σ r)   {q : Nat} {σ : StL} {x1 x2 x3 : Int32} {kc ks mc ms : Nat} (h : f_L_boundArgument_15 rec σ x1 x2 x3 = some (v, u, mc, ms)) (hkc : kc + mc = K) (hks : ks + ms = N) {H : Heap} {locs : List Loc} (hP : va_P D vwCl (wL cI cZ a q σ) H) (hD : va_D A (wL cI cZ a q σ)) (hS : va_S A s.heap H locs) {ls : Array Slot} (hl : lv_has ls 5 [(0, .ref (a 0)), (1, .int x1), (2, .int x2), (3, .int x3)]) : W p l e (rmK (fr0 + 1) (lc0 + 28) K N) s m args below meth c H locs kc ks (TxQ below args s D A (fun q (σ : StL) => (wL cI cZ a q σ)) v u K N) (F0 m 15 ls []) := by
  obtain ⟨hx, hb, hr, hml, hown, hts, hlk, hK⟩ := id C0
  have hcs : kc ≤ K ∧ ks ≤ N := ⟨by omega, by omega⟩
  unfold f_L_boundArgument_15 at h
  refine lv_iload_n hx hb d_L_boundArgument_15 rfl (lv_at hl 3 rfl) ?_
  refine lv_if_ne (tgt := 31) hx hb d_L_boundArgument_16 (by decide) (fun hc => ?_) (fun hc => ?_)
  · rw [if_neg hc] at h
    refine lv_aload_n hx hb d_L_boundArgument_31 rfl (lv_at hl 0 rfl) ?_
    refine lv_iload_n hx hb d_L_boundArgument_32 rfl (lv_at hl 1 rfl) ?_
    refine ro_S (n := 1) (As := [.int x1]) (rest := [.ref (a 0)]) C0 (c_L_typeOf l D cI cZ a x1 rfl) wd_240 ⟨wd_53, wd_54, wd_55⟩ (by decide +kernel) ⟨by show 0 + 1 ≤ fr0 + 1; omega, by show 8 + (1 + 11) + 0 ≤ lc0 + 28; omega⟩ pnil hl rfl rfl (Nat.le_of_ble_eq_true rfl) hcs d_L_boundArgument_33 ?_
    refine lv_iload_n hx hb d_L_boundArgument_36 rfl (lv_at hl 2 rfl) ?_
    refine ro_S (n := 1) (As := [.int x2]) (rest := [.int (f_L_typeOf x1), .ref (a 0)]) C0 (c_L_typeOf l D cI cZ a x2 rfl) wd_240 ⟨wd_53, wd_54, wd_55⟩ (by decide +kernel) ⟨by show 0 + 1 ≤ fr0 + 1; omega, by show 8 + (1 + 11) + 0 ≤ lc0 + 28; omega⟩ pnil hl rfl rfl (Nat.le_of_ble_eq_true rfl) hcs d_L_boundArgument_37 ?_
    refine lv_iload_n hx hb d_L_boundArgument_40 rfl (lv_at hl 3 rfl) ?_
    refine lv_iconst (v := 1) hx hb d_L_boundArgument_41 (by decide) ?_
    refine lv_isub hx hb d_L_boundArgument_42 ?_
    replace h := bd h
    obtain ⟨r1, g1, h⟩ := h
    try dsimp only at h
    replace h := ad_s h
    obtain ⟨mc, ms, h, rfl, rfl⟩ := h
    refine tx_V (n := 3) (ci := 0) (As := [.int (f_L_typeOf x1), .int (f_L_typeOf x2), .int (x3 - 1)]) (rest := []) (Wn := fun q => (wL cI cZ a q r1.2.1)) C0 hA hZ (hrec q σ (f_L_typeOf x1) (f_L_typeOf x2) (x3 - 1) _ g1) wd_241 ⟨wd_242, wd_243, wd_244, wd_55⟩ (by decide +kernel) ⟨by show fr0 + 1 ≤ fr0 + 1; omega, by show 8 + (9 + 11) + (lc0) ≤ lc0 + 28; omega⟩ hP hD hS [0, 1, 2, 3, 4, 5, 6, 7, 8, 9, 10, 11, 12, 13, 14, 15, 16, 17, 18, 19, 20] [] [0, 1, 2, 3, 4, 5, 6, 7, 8, 9, 10, 11, 12, 13, 14, 15, 16, 17, 18, 19, 20] jn_L__C (by decide) jn_L__R (by decide) (by decide) (by decide) jn_L__W rfl rfl rfl hl rfl rfl (Nat.le_of_ble_eq_true rfl) ⟨by show kc + _ ≤ K; omega, by show ks + _ ≤ N; omega⟩ d_L_boundArgument_43 (fun ek H locs q q9 ce hv hP hD hS h1 h2 h3 => ?_) (fun r1v H locs q hv hP hD hS => ?_)
    · rw [hv] at h
      cases h
      exact tx_out C0 hT hP hD hS h1 h2 h3 (by omega) (by omega)
    · rw [hv] at h
      try dsimp only at h
      have hkc : (kc + r1.2.2.1) + mc = K := by omega
      have hks : (ks + r1.2.2.2) + ms = N := by omega
      have hcs : (kc + r1.2.2.1) ≤ K ∧ (ks + r1.2.2.2) ≤ N := ⟨by omega, by omega⟩
      exact t_L_boundArgument_46 (a := a) C0 hA hT hl0 hZ hfr hlc hrec  h hkc hks hP hD hS (lv_sub hl [] rfl)
  · rw [if_pos hc] at h
    refine lv_aload_n hx hb d_L_boundArgument_19 rfl (lv_at hl 0 rfl) ?_
    refine va_get (ci := 0) (v := .ref (a 10)) (C := R_L) (T := F_L) (N := 6) hx hb hts i_L hown hK.1 hP 0 rfl rfl 2 (by decide) (hts _ wd_85) (fun _ h9 => h9) rfl d_L_boundArgument_20 ?_
    refine lv_iconst (v := 0) hx hb d_L_boundArgument_23 (by decide) ?_
    refine lv_iconst (v := 0) hx hb d_L_boundArgument_24 (by decide) ?_
    replace h := bd h
    obtain ⟨r2, g2, h⟩ := h
    refine rw_V (n := 2) (ci := 2) (As := [.int 0, .int 0]) (rest := []) (Wn := fun q => (wL cI cZ a q (L_set_types σ r2.2))) C0 hA (c_T_makeNamed l D cI cZ a q (L_types σ) 0 0 g2) wd_175 ⟨wd_176, wd_177, wd_178, wd_52⟩ (by decide +kernel) ⟨by show 2 + 1 ≤ fr0 + 1; omega, by show 8 + (4 + 11) + 42 ≤ lc0 + 28; omega⟩ hP hD hS [10, 11, 12, 13, 14, 15, 16, 17, 18] [0, 1, 2, 3, 4, 5, 6, 7, 8, 9, 19, 20] [0, 1, 2, 3, 4, 5, 6, 7, 8, 9, 12, 13, 14, 15, 16, 17, 18, 19, 20, 10, 11] jn_L_types_C (by decide) jn_L_types_R (by decide) (by decide) (by decide) jn_L_types_W rfl rfl rfl hl rfl rfl (Nat.le_of_ble_eq_true rfl) hcs d_L_boundArgument_25 (fun H locs q hP hD hS => ?_)
    try dsimp only at h
    refine lv_goto (tgt := 46) hx hb d_L_boundArgument_28 (by decide) ?_
    exact t_L_boundArgument_46 (a := a) C0 hA hT hl0 hZ hfr hlc hrec  h hkc hks hP hD hS (lv_sub hl [] rfl)
set_option maxHeartbeats 4000000 in
set_option maxRecDepth 100000 in
theorem t_L_boundArgument_0 {p : Program} {l : Launch} {e : Env} {s : State} {m : MethodId} {args : Array Value} {below : List Frame} {meth : Method} {c : Code} {D : va_G} {cI cZ : ClassId} {a : Nat → Nat} {A : Nat → Prop} (C0 : Am p s m args meth c b_L_boundArgument (some .int) 5 R_L D [(cI, .int), (cZ, .boolean)]) (hA : ∀ q, s.heap.size ≤ q → A q) (hT : ∀ x ∈ c.exceptionTable.toList, False) (hl0 : l.stackTraces = false) (hZ : Zs A s s.heap) {v : Int32 ⊕ Nat} {u : StL} {K N : Nat} {rec : StL → Int32 → Int32 → Int32 → Option ((Int32 ⊕ Nat) × StL × Nat × Nat)} {fr0 lc0 : Nat} (hfr : 5 ≤ fr0) (hlc : 132 ≤ lc0) (hrec : ∀ (q : Nat) (σ : StL) (z0 z1 z2 : Int32) (r : (Int32 ⊕ Nat) × StL × Nat × Nat), rec σ z0 z1 z2 = some r → TxM l y_L_upperBound b_L_upperBound 9 (some .int) fr0 lc0 D [(cI, .int), (cZ, .boolean)] [.ref (a 0), .int z0, .int z1, .int z2] (fun q (σ : StL) => wL cI cZ a q σ) q σ r)   {q : Nat} {σ : StL} {x1 x2 x3 : Int32} {kc ks mc ms : Nat} (h : f_L_boundArgument rec σ x1 x2 x3 = some (v, u, mc, ms)) (hkc : kc + mc = K) (hks : ks + ms = N) {H : Heap} {locs : List Loc} (hP : va_P D vwCl (wL cI cZ a q σ) H) (hD : va_D A (wL cI cZ a q σ)) (hS : va_S A s.heap H locs) {ls : Array Slot} (hl : lv_has ls 5 [(0, .ref (a 0)), (1, .int x1), (2, .int x2), (3, .int x3)]) : W p l e (rmK (fr0 + 1) (lc0 + 28) K N) s m args below meth c H locs kc ks (TxQ below args s D A (fun q (σ : StL) => (wL cI cZ a q σ)) v u K N) (F0 m 0 ls []) := by
  obtain ⟨hx, hb, hr, hml, hown, hts, hlk, hK⟩ := id C0
  have hcs : kc ≤ K ∧ ks ≤ N := ⟨by omega, by omega⟩
  unfold f_L_boundArgument at h
  refine lv_iload_n hx hb d_L_boundArgument_0 rfl (lv_at hl 1 rfl) ?_
  refine lv_iload_n hx hb d_L_boundArgument_1 rfl (lv_at hl 2 rfl) ?_
  refine lv_icmp_ne (tgt := 15) hx hb d_L_boundArgument_2 (by decide) (fun hc => ?_) (fun hc => ?_)
  · rw [if_neg hc] at h
    exact t_L_boundArgument_15 (a := a) C0 hA hT hl0 hZ hfr hlc hrec  h hkc hks hP hD hS (lv_sub hl [0, 1, 2, 3] rfl)
  · rw [if_pos hc] at h
    refine lv_iload_n hx hb d_L_boundArgument_5 rfl (lv_at hl 1 rfl) ?_
    refine ro_S (n := 1) (As := [.int x1]) (rest := []) C0 (c_L_howOf l D cI cZ a x1 rfl) wd_245 ⟨wd_246, wd_247, wd_55⟩ (by decide +kernel) ⟨by show 0 + 1 ≤ fr0 + 1; omega, by show 8 + (1 + 11) + 0 ≤ lc0 + 28; omega⟩ pnil hl rfl rfl (Nat.le_of_ble_eq_true rfl) hcs d_L_boundArgument_6 ?_
    refine lv_iconst (v := 2) hx hb d_L_boundArgument_9 (by decide) ?_
    refine lv_icmp_eq (tgt := 15) hx hb d_L_boundArgument_10 (by decide) (fun hc => ?_) (fun hc => ?_)
    · rw [if_pos hc] at h
      exact t_L_boundArgument_15 (a := a) C0 hA hT hl0 hZ hfr hlc hrec  h hkc hks hP hD hS (lv_sub hl [0, 1, 2, 3] rfl)
    · rw [if_neg hc] at h
      refine lv_iload_n hx hb d_L_boundArgument_13 rfl (lv_at hl 1 rfl) ?_
      cases h; exact tx_ret C0 hP hD hS (by omega) (by omega) d_L_boundArgument_14
set_option maxHeartbeats 4000000 in
set_option maxRecDepth 100000 in
theorem c_L_boundArgument {l : Launch} {D : va_G} {cI cZ : ClassId} {a : Nat → Nat} (hl0 : l.stackTraces = false) {rec : StL → Int32 → Int32 → Int32 → Option ((Int32 ⊕ Nat) × StL × Nat × Nat)} {fr0 lc0 : Nat} (hfr : 5 ≤ fr0) (hlc : 132 ≤ lc0) (hrec : ∀ (q : Nat) (σ : StL) (z0 z1 z2 : Int32) (r : (Int32 ⊕ Nat) × StL × Nat × Nat), rec σ z0 z1 z2 = some r → TxM l y_L_upperBound b_L_upperBound 9 (some .int) fr0 lc0 D [(cI, .int), (cZ, .boolean)] [.ref (a 0), .int z0, .int z1, .int z2] (fun q (σ : StL) => wL cI cZ a q σ) q σ r) (q : Nat) (σ : StL) (x1 : Int32) (x2 : Int32) (x3 : Int32) {res : (Int32 ⊕ Nat) × StL × Nat × Nat} (h : f_L_boundArgument rec σ x1 x2 x3 = some res) : TxM l y_L_boundArgument b_L_boundArgument 5 (some .int) (fr0 + 1) (lc0 + 28) D [(cI, .int), (cZ, .boolean)] [.ref (a 0), .int x1, .int x2, .int x3] (fun q (σ : StL) => (wL cI cZ a q σ)) q σ res :=
  tx_of (by decide) (Nat.le_of_ble_eq_true rfl) (fun p e s m args below meth c ls A C0 hA hT hZ hP hD hS hl => t_L_boundArgument_0 (a := a) (kc := 0) (ks := 0) C0 hA hT hl0 hZ hfr hlc hrec h (Nat.zero_add _) (Nat.zero_add _) hP hD hS (lv_sub hl [0, 1, 2, 3] rfl))
-- part 07.5L.14L_boundByClasses.lean.txt
def f_L_boundByClasses_38_s (rec : StL → Int32 → Int32 → Int32 → Option ((Int32 ⊕ Nat) × StL × Nat × Nat)) (k38 : StL → Int32 → Int32 → Int32 → Int32 → Int32 → Int32 → Int32 → Option ((Int32 ⊕ Nat) × StL × Nat × Nat)) (σ : StL) (x1 x2 x3 x4 x5 x6 x7 : Int32) : Option ((Int32 ⊕ Nat) × StL × Nat × Nat) :=
  if 30 ≤ x7 then
    (f_T_makeIntersection (90, (L_row σ)) (L_types σ) x5 x6).bind fun r3 => ad_ r3.2.2.1 r3.2.2.2 <| match r3.1 with
    | .inr e => some (.inr e, (L_set_types σ r3.2.1), 0, 0)
    | .inl r3v =>
    some (.inl r3v, (L_set_types σ r3.2.1), 0, 0)
  else
    if (f_L_has x4 x7) = 0 then
      k38 σ x1 x2 x3 x4 x5 x6 (x7 + 1)
    else
      (f_L_find σ x1 x7).bind fun r4 =>
      (f_L_find σ x2 x7).bind fun r5 =>
      (f_L_boundArgument rec σ r4 r5 x3).bind fun r6 => ad_ r6.2.2.1 r6.2.2.2 <| match r6.1 with
      | .inr e => some (.inr e, r6.2.1, 0, 0)
      | .inl r6v =>
      (f_T_makeNamed (L_types r6.2.1) x7 r6v).bind fun r7 =>
      if r7.1 = (-1) then
        some (.inl (-1), (L_set_types r6.2.1 r7.2), 0, 0)
      else
        if (x5 + x6) < 0 ∨ 90 ≤ (x5 + x6).toNatClampNeg then none else
        k38 (L_put_row (L_set_types r6.2.1 r7.2) (x5 + x6) r7.1) x1 x2 x3 x4 x5 (x6 + 1) (x7 + 1)
def f_L_boundByClasses_38 (rec : StL → Int32 → Int32 → Int32 → Option ((Int32 ⊕ Nat) × StL × Nat × Nat)) : Nat → StL → Int32 → Int32 → Int32 → Int32 → Int32 → Int32 → Int32 → Option ((Int32 ⊕ Nat) × StL × Nat × Nat)
  | 0, _, _, _, _, _, _, _, _ => none
  | n + 1, σ, x1, x2, x3, x4, x5, x6, x7 => f_L_boundByClasses_38_s rec (f_L_boundByClasses_38 rec n) σ x1 x2 x3 x4 x5 x6 x7
def f_L_boundByClasses (rec : StL → Int32 → Int32 → Int32 → Option ((Int32 ⊕ Nat) × StL × Nat × Nat)) (σ : StL) (x1 x2 x3 : Int32) : Option ((Int32 ⊕ Nat) × StL × Nat × Nat) :=
  if x3 < 0 then
    some (.inl (-1), σ, 0, 0)
  else
    if x3 ≤ 2 then
      (f_L_commonOf σ x1 x2).bind fun r1 =>
      (f_C_leastOf (L_classes σ) r1).bind fun r2 =>
      f_L_boundByClasses_38 rec 1000 σ x1 x2 x3 r2 (x3 * 30) 0 0
    else
      some (.inl (-1), σ, 0, 0)
set_option maxHeartbeats 4000000 in
set_option maxRecDepth 100000 in
theorem t_L_boundByClasses_38_s {p : Program} {l : Launch} {e : Env} {s : State} {m : MethodId} {args : Array Value} {below : List Frame} {meth : Method} {c : Code} {D : va_G} {cI cZ : ClassId} {a : Nat → Nat} {A : Nat → Prop} (C0 : Am p s m args meth c b_L_boundByClasses (some .int) 9 R_L D [(cI, .int), (cZ, .boolean)]) (hA : ∀ q, s.heap.size ≤ q → A q) (hT : ∀ x ∈ c.exceptionTable.toList, False) (hl0 : l.stackTraces = false) (hZ : Zs A s s.heap) {v : Int32 ⊕ Nat} {u : StL} {K N : Nat} {rec : StL → Int32 → Int32 → Int32 → Option ((Int32 ⊕ Nat) × StL × Nat × Nat)} {fr0 lc0 : Nat} (hfr : 5 ≤ fr0) (hlc : 132 ≤ lc0) (hrec : ∀ (q : Nat) (σ : StL) (z0 z1 z2 : Int32) (r : (Int32 ⊕ Nat) × StL × Nat × Nat), rec σ z0 z1 z2 = some r → TxM l y_L_upperBound b_L_upperBound 9 (some .int) fr0 lc0 D [(cI, .int), (cZ, .boolean)] [.ref (a 0), .int z0, .int z1, .int z2] (fun q (σ : StL) => wL cI cZ a q σ) q σ r) {k38 : StL → Int32 → Int32 → Int32 → Int32 → Int32 → Int32 → Int32 → Option ((Int32 ⊕ Nat) × StL × Nat × Nat)}  (hk38 : ∀ (q : Nat) (σ : StL) (x1 x2 x3 x4 x5 x6 x7 : Int32) (kc ks mc ms : Nat) (H : Heap) (locs : List Loc) (ls : Array Slot), k38 σ x1 x2 x3 x4 x5 x6 x7 = some (v, u, mc, ms) → kc + mc = K → ks + ms = N → va_P D vwCl (wL cI cZ a q σ) H → va_D A (wL cI cZ a q σ) → va_S A s.heap H locs → lv_has ls 9 [(0, .ref (a 0)), (1, .int x1), (2, .int x2), (3, .int x3), (4, .int x4), (5, .int x5), (6, .int x6), (7, .int x7)] → W p l e (rmK (fr0 + 2) (lc0 + 52) K N) s m args below meth c H locs kc ks (TxQ below args s D A (fun q (σ : StL) => (wL cI cZ a q σ)) v u K N) (F0 m 38 ls [])) {q : Nat} {σ : StL} {x1 x2 x3 x4 x5 x6 x7 : Int32} {kc ks mc ms : Nat} (h : f_L_boundByClasses_38_s rec k38 σ x1 x2 x3 x4 x5 x6 x7 = some (v, u, mc, ms)) (hkc : kc + mc = K) (hks : ks + ms = N) {H : Heap} {locs : List Loc} (hP : va_P D vwCl (wL cI cZ a q σ) H) (hD : va_D A (wL cI cZ a q σ)) (hS : va_S A s.heap H locs) {ls : Array Slot} (hl : lv_has ls 9 [(0, .ref (a 0)), (1, .int x1), (2, .int x2), (3, .int x3), (4, .int x4), (5, .int x5), (6, .int x6), (7, .int x7)]) : W p l e (rmK (fr0 + 2) (lc0 + 52) K N) s m args below meth c H locs kc ks (TxQ below args s D A (fun q (σ : StL) => (wL cI cZ a q σ)) v u K N) (F0 m 38 ls []) := by
  obtain ⟨hx, hb, hr, hml, hown, hts, hlk, hK⟩ := id C0
  have hcs : kc ≤ K ∧ ks ≤ N := ⟨by omega, by omega⟩
  unfold f_L_boundByClasses_38_s at h
  refine lv_iload hx hb d_L_boundByClasses_38 (lv_at hl 7 rfl) ?_
  refine lv_bipush (v := 30) hx hb d_L_boundByClasses_40 (by decide) ?_
  refine lv_icmp_ge (tgt := 114) hx hb d_L_boundByClasses_42 (by decide) (fun hc => ?_) (fun hc => ?_)
  · rw [if_pos hc] at h
    refine lv_aload_n hx hb d_L_boundByClasses_114 rfl (lv_at hl 0 rfl) ?_
    refine va_get (ci := 0) (v := .ref (a 10)) (C := R_L) (T := F_L) (N := 6) hx hb hts i_L hown hK.1 hP 0 rfl rfl 2 (by decide) (hts _ wd_85) (fun _ h9 => h9) rfl d_L_boundByClasses_115 ?_
    refine lv_aload_n hx hb d_L_boundByClasses_118 rfl (lv_at hl 0 rfl) ?_
    refine va_get (ci := 0) (v := .ref (a 1)) (C := R_L) (T := F_L) (N := 6) hx hb hts i_L hown hK.1 hP 0 rfl rfl 4 (by decide) (hts _ wd_256) (fun _ h9 => h9) rfl d_L_boundByClasses_119 ?_
    refine lv_iload hx hb d_L_boundByClasses_122 (lv_at hl 5 rfl) ?_
    refine lv_iload hx hb d_L_boundByClasses_124 (lv_at hl 6 rfl) ?_
    replace h := bd h
    obtain ⟨r3, g3, h⟩ := h
    try dsimp only at h
    replace h := ad_s h
    obtain ⟨mc, ms, h, rfl, rfl⟩ := h
    refine tx_V (n := 3) (ci := 2) (As := [.ref (a 1), .int x5, .int x6]) (rest := []) (Wn := fun q => (wL cI cZ a q (L_set_types σ r3.2.1))) C0 hA hZ (c_T_makeIntersection l D cI cZ a hl0 q (L_types σ) (90, (L_row (L_set_types σ r3.2.1))) (a 1) x5 x6 g3) wd_257 ⟨wd_258, wd_259, wd_260, wd_52⟩ (by decide +kernel) ⟨by show 4 + 1 ≤ fr0 + 2; omega, by show 8 + (7 + 11) + 106 ≤ lc0 + 52; omega⟩ hP hD hS [10, 11, 12, 13, 14, 15, 16, 17, 18, 1] [0, 2, 3, 4, 5, 6, 7, 8, 9, 19, 20] [0, 20, 1, 2, 3, 4, 5, 6, 7, 8, 11, 12, 13, 14, 15, 16, 17, 18, 19, 9, 10] jn_L_types_row_C (by decide) jn_L_types_row_R (by decide) (by decide) (by decide) jn_L_types_row_W rfl rfl rfl hl rfl rfl (Nat.le_of_ble_eq_true rfl) ⟨by show kc + _ ≤ K; omega, by show ks + _ ≤ N; omega⟩ d_L_boundByClasses_126 (fun ek H locs q q9 ce hv hP hD hS h1 h2 h3 => ?_) (fun r3v H locs q hv hP hD hS => ?_)
    · rw [hv] at h
      cases h
      exact tx_out C0 hT hP hD hS h1 h2 h3 (by omega) (by omega)
    · rw [hv] at h
      try dsimp only at h
      have hkc : (kc + r3.2.2.1) + mc = K := by omega
      have hks : (ks + r3.2.2.2) + ms = N := by omega
      have hcs : (kc + r3.2.2.1) ≤ K ∧ (ks + r3.2.2.2) ≤ N := ⟨by omega, by omega⟩
      cases h; exact tx_ret C0 hP hD hS (by omega) (by omega) d_L_boundByClasses_129
  · rw [if_neg hc] at h
    refine lv_iload hx hb d_L_boundByClasses_45 (lv_at hl 4 rfl) ?_
    refine lv_iload hx hb d_L_boundByClasses_47 (lv_at hl 7 rfl) ?_
    refine ro_S (n := 2) (As := [.int x4, .int x7]) (rest := []) C0 (c_L_has l D cI cZ a x4 x7 rfl) wd_261 ⟨wd_104, wd_105, wd_55⟩ (by decide +kernel) ⟨by show 0 + 1 ≤ fr0 + 2; omega, by show 8 + (2 + 11) + 0 ≤ lc0 + 52; omega⟩ pnil hl rfl rfl (Nat.le_of_ble_eq_true rfl) hcs d_L_boundByClasses_49 ?_
    refine lv_if_eq (tgt := 108) hx hb d_L_boundByClasses_52 (by decide) (fun hc => ?_) (fun hc => ?_)
    · rw [if_pos hc] at h
      refine lv_iinc (v := (x7 + 1)) (lv' := [(7, .int (x7 + 1)), (0, .ref (a 0)), (1, .int x1), (2, .int x2), (3, .int x3), (4, .int x4), (5, .int x5), (6, .int x6)]) hx hb d_L_boundByClasses_108 hl (k := 7) rfl rfl (by decide) rfl (fun ls hl => ?_)
      refine lv_goto (tgt := 38) hx hb d_L_boundByClasses_111 (by decide) ?_
      exact hk38 _ _ _ _ _ _ _ _ _ _ _ _ _ _ _ _ h hkc hks hP hD hS (lv_sub hl [1, 2, 3, 4, 5, 6, 7, 0] rfl)
    · rw [if_neg hc] at h
      refine lv_aload_n hx hb d_L_boundByClasses_55 rfl (lv_at hl 0 rfl) ?_
      refine va_get (ci := 0) (v := .ref (a 10)) (C := R_L) (T := F_L) (N := 6) hx hb hts i_L hown hK.1 hP 0 rfl rfl 2 (by decide) (hts _ wd_85) (fun _ h9 => h9) rfl d_L_boundByClasses_56 ?_
      refine lv_iload hx hb d_L_boundByClasses_59 (lv_at hl 7 rfl) ?_
      refine lv_aload_n hx hb d_L_boundByClasses_61 rfl (lv_at hl 0 rfl) ?_
      refine lv_aload_n hx hb d_L_boundByClasses_62 rfl (lv_at hl 0 rfl) ?_
      refine lv_iload_n hx hb d_L_boundByClasses_63 rfl (lv_at hl 1 rfl) ?_
      refine lv_iload hx hb d_L_boundByClasses_64 (lv_at hl 7 rfl) ?_
      replace h := bd h
      obtain ⟨r4, g4, h⟩ := h
      refine ro_V (n := 2) (ci := 0) (As := [.int x1, .int x7]) (rest := [.ref (a 0), .int x7, .ref (a 10)]) C0 (c_L_find l D cI cZ a q σ x1 x7 g4) wd_262 ⟨wd_263, wd_264, wd_265, wd_55⟩ (by decide +kernel) ⟨by show 3 + 1 ≤ fr0 + 2; omega, by show 8 + (7 + 11) + 72 ≤ lc0 + 52; omega⟩ hP rfl rfl rfl hl rfl rfl (Nat.le_of_ble_eq_true rfl) hcs d_L_boundByClasses_66 ?_
      try dsimp only at h
      refine lv_aload_n hx hb d_L_boundByClasses_69 rfl (lv_at hl 0 rfl) ?_
      refine lv_iload_n hx hb d_L_boundByClasses_70 rfl (lv_at hl 2 rfl) ?_
      refine lv_iload hx hb d_L_boundByClasses_71 (lv_at hl 7 rfl) ?_
      replace h := bd h
      obtain ⟨r5, g5, h⟩ := h
      refine ro_V (n := 2) (ci := 0) (As := [.int x2, .int x7]) (rest := [.int r4, .ref (a 0), .int x7, .ref (a 10)]) C0 (c_L_find l D cI cZ a q σ x2 x7 g5) wd_262 ⟨wd_263, wd_264, wd_265, wd_55⟩ (by decide +kernel) ⟨by show 3 + 1 ≤ fr0 + 2; omega, by show 8 + (7 + 11) + 72 ≤ lc0 + 52; omega⟩ hP rfl rfl rfl hl rfl rfl (Nat.le_of_ble_eq_true rfl) hcs d_L_boundByClasses_73 ?_
      try dsimp only at h
      refine lv_iload_n hx hb d_L_boundByClasses_76 rfl (lv_at hl 3 rfl) ?_
      replace h := bd h
      obtain ⟨r6, g6, h⟩ := h
      try dsimp only at h
      replace h := ad_s h
      obtain ⟨mc, ms, h, rfl, rfl⟩ := h
      refine tx_V (n := 3) (ci := 0) (As := [.int r4, .int r5, .int x3]) (rest := [.int x7, .ref (a 10)]) (Wn := fun q => (wL cI cZ a q r6.2.1)) C0 hA hZ (c_L_boundArgument hl0 hfr hlc hrec q σ r4 r5 x3 g6) wd_266 ⟨wd_267, wd_268, wd_269, wd_55⟩ (by decide +kernel) ⟨by show fr0 + 1 + 1 ≤ fr0 + 2; omega, by show 8 + (5 + 11) + (lc0 + 28) ≤ lc0 + 52; omega⟩ hP hD hS [0, 1, 2, 3, 4, 5, 6, 7, 8, 9, 10, 11, 12, 13, 14, 15, 16, 17, 18, 19, 20] [] [0, 1, 2, 3, 4, 5, 6, 7, 8, 9, 10, 11, 12, 13, 14, 15, 16, 17, 18, 19, 20] jn_L__C (by decide) jn_L__R (by decide) (by decide) (by decide) jn_L__W rfl rfl rfl hl rfl rfl (Nat.le_of_ble_eq_true rfl) ⟨by show kc + _ ≤ K; omega, by show ks + _ ≤ N; omega⟩ d_L_boundByClasses_77 (fun ek H locs q q9 ce hv hP hD hS h1 h2 h3 => ?_) (fun r6v H locs q hv hP hD hS => ?_)
      · rw [hv] at h
        cases h
        exact tx_out C0 hT hP hD hS h1 h2 h3 (by omega) (by omega)
      · rw [hv] at h
        try dsimp only at h
        have hkc : (kc + r6.2.2.1) + mc = K := by omega
        have hks : (ks + r6.2.2.2) + ms = N := by omega
        have hcs : (kc + r6.2.2.1) ≤ K ∧ (ks + r6.2.2.2) ≤ N := ⟨by omega, by omega⟩
        replace h := bd h
        obtain ⟨r7, g7, h⟩ := h
        refine rw_V (n := 2) (ci := 2) (As := [.int x7, .int r6v]) (rest := []) (Wn := fun q => (wL cI cZ a q (L_set_types r6.2.1 r7.2))) C0 hA (c_T_makeNamed l D cI cZ a q (L_types r6.2.1) x7 r6v g7) wd_175 ⟨wd_176, wd_177, wd_178, wd_52⟩ (by decide +kernel) ⟨by show 2 + 1 ≤ fr0 + 2; omega, by show 8 + (4 + 11) + 42 ≤ lc0 + 52; omega⟩ hP hD hS [10, 11, 12, 13, 14, 15, 16, 17, 18] [0, 1, 2, 3, 4, 5, 6, 7, 8, 9, 19, 20] [0, 1, 2, 3, 4, 5, 6, 7, 8, 9, 12, 13, 14, 15, 16, 17, 18, 19, 20, 10, 11] jn_L_types_C (by decide) jn_L_types_R (by decide) (by decide) (by decide) jn_L_types_W rfl rfl rfl hl rfl rfl (Nat.le_of_ble_eq_true rfl) hcs d_L_boundByClasses_80 (fun H locs q hP hD hS => ?_)
        try dsimp only at h
        refine lv_istore (lv' := [(8, .int r7.1), (0, .ref (a 0)), (1, .int x1), (2, .int x2), (3, .int x3), (4, .int x4), (5, .int x5), (6, .int x6), (7, .int x7)]) hx hb d_L_boundByClasses_83 hl (by decide) rfl (fun ls hl => ?_)
        refine lv_iload hx hb d_L_boundByClasses_85 (lv_at hl 0 rfl) ?_
        refine lv_iconst (v := (-1)) hx hb d_L_boundByClasses_87 (by decide) ?_
        refine lv_icmp_ne (tgt := 93) hx hb d_L_boundByClasses_88 (by decide) (fun hc => ?_) (fun hc => ?_)
        · rw [if_neg hc] at h
          refine lv_aload_n hx hb d_L_boundByClasses_93 rfl (lv_at hl 1 rfl) ?_
          refine va_get (ci := 0) (v := .ref (a 1)) (C := R_L) (T := F_L) (N := 6) hx hb hts i_L hown hK.1 hP 0 rfl rfl 4 (by decide) (hts _ wd_256) (fun _ h9 => h9) rfl d_L_boundByClasses_94 ?_
          refine lv_iload hx hb d_L_boundByClasses_97 (lv_at hl 6 rfl) ?_
          refine lv_iload hx hb d_L_boundByClasses_99 (lv_at hl 7 rfl) ?_
          refine lv_iadd hx hb d_L_boundByClasses_101 ?_
          refine lv_iload hx hb d_L_boundByClasses_102 (lv_at hl 0 rfl) ?_
          replace h := gd h
          obtain ⟨hi, h⟩ := h
          refine rw_iast C0 hP hD hS 1 0 rfl rfl hi d_L_boundByClasses_104 (Wn := (wL cI cZ a q (L_put_row (L_set_types r6.2.1 r7.2) (x5 + x6) r7.1))) ws_L_put_row (fun H locs hP hD hS => ?_)
          refine lv_iinc (v := (x6 + 1)) (lv' := [(6, .int (x6 + 1)), (8, .int r7.1), (0, .ref (a 0)), (1, .int x1), (2, .int x2), (3, .int x3), (4, .int x4), (5, .int x5), (7, .int x7)]) hx hb d_L_boundByClasses_105 hl (k := 7) rfl rfl (by decide) rfl (fun ls hl => ?_)
          refine lv_iinc (v := (x7 + 1)) (lv' := [(7, .int (x7 + 1)), (6, .int (x6 + 1)), (8, .int r7.1), (0, .ref (a 0)), (1, .int x1), (2, .int x2), (3, .int x3), (4, .int x4), (5, .int x5)]) hx hb d_L_boundByClasses_108 hl (k := 8) rfl rfl (by decide) rfl (fun ls hl => ?_)
          refine lv_goto (tgt := 38) hx hb d_L_boundByClasses_111 (by decide) ?_
          exact hk38 _ _ _ _ _ _ _ _ _ _ _ _ _ _ _ _ h hkc hks hP hD hS (lv_sub hl [3, 4, 5, 6, 7, 8, 1, 0] rfl)
        · rw [if_pos hc] at h
          refine lv_iconst (v := (-1)) hx hb d_L_boundByClasses_91 (by decide) ?_
          cases h; exact tx_ret C0 hP hD hS (by omega) (by omega) d_L_boundByClasses_92
set_option maxHeartbeats 4000000 in
set_option maxRecDepth 100000 in
theorem t_L_boundByClasses_38 {p : Program} {l : Launch} {e : Env} {s : State} {m : MethodId} {args : Array Value} {below : List Frame} {meth : Method} {c : Code} {D : va_G} {cI cZ : ClassId} {a : Nat → Nat} {A : Nat → Prop} (C0 : Am p s m args meth c b_L_boundByClasses (some .int) 9 R_L D [(cI, .int), (cZ, .boolean)]) (hA : ∀ q, s.heap.size ≤ q → A q) (hT : ∀ x ∈ c.exceptionTable.toList, False) (hl0 : l.stackTraces = false) (hZ : Zs A s s.heap) {v : Int32 ⊕ Nat} {u : StL} {K N : Nat} {rec : StL → Int32 → Int32 → Int32 → Option ((Int32 ⊕ Nat) × StL × Nat × Nat)} {fr0 lc0 : Nat} (hfr : 5 ≤ fr0) (hlc : 132 ≤ lc0) (hrec : ∀ (q : Nat) (σ : StL) (z0 z1 z2 : Int32) (r : (Int32 ⊕ Nat) × StL × Nat × Nat), rec σ z0 z1 z2 = some r → TxM l y_L_upperBound b_L_upperBound 9 (some .int) fr0 lc0 D [(cI, .int), (cZ, .boolean)] [.ref (a 0), .int z0, .int z1, .int z2] (fun q (σ : StL) => wL cI cZ a q σ) q σ r)  {n : Nat} {q : Nat} {σ : StL} {x1 x2 x3 x4 x5 x6 x7 : Int32} {kc ks mc ms : Nat} (h : f_L_boundByClasses_38 rec n σ x1 x2 x3 x4 x5 x6 x7 = some (v, u, mc, ms)) (hkc : kc + mc = K) (hks : ks + ms = N) {H : Heap} {locs : List Loc} (hP : va_P D vwCl (wL cI cZ a q σ) H) (hD : va_D A (wL cI cZ a q σ)) (hS : va_S A s.heap H locs) {ls : Array Slot} (hl : lv_has ls 9 [(0, .ref (a 0)), (1, .int x1), (2, .int x2), (3, .int x3), (4, .int x4), (5, .int x5), (6, .int x6), (7, .int x7)]) : W p l e (rmK (fr0 + 2) (lc0 + 52) K N) s m args below meth c H locs kc ks (TxQ below args s D A (fun q (σ : StL) => (wL cI cZ a q σ)) v u K N) (F0 m 38 ls []) := by
  induction n generalizing q σ x1 x2 x3 x4 x5 x6 x7 kc ks mc ms H locs ls with
  | zero => cases h
  | succ n ih => exact t_L_boundByClasses_38_s (a := a) C0 hA hT hl0 hZ hfr hlc hrec  (fun _ _ _ _ _ _ _ _ _ _ _ _ _ _ _ _ h hkc hks hP hD hS hl => ih h hkc hks hP hD hS hl) h hkc hks hP hD hS hl
set_option maxHeartbeats 4000000 in
set_option maxRecDepth 100000 in
theorem t_L_boundByClasses_0 {p : Program} {l : Launch} {e : Env} {s : State} {m : MethodId} {args : Array Value} {below : List Frame} {meth : Method} {c : Code} {D : va_G} {cI cZ : ClassId} {a : Nat → Nat} {A : Nat → Prop} (C0 : Am p s m args meth c b_L_boundByClasses (some .int) 9 R_L D [(cI, .int), (cZ, .boolean)]) (hA : ∀ q, s.heap.size ≤ q → A q) (hT : ∀ x ∈ c.exceptionTable.toList, False) (hl0 : l.stackTraces = false) (hZ : Zs A s s.heap) {v : Int32 ⊕ Nat} {u : StL} {K N : Nat} {rec : StL → Int32 → Int32 → Int32 → Option ((Int32 ⊕ Nat) × StL × Nat × Nat)} {fr0 lc0 : Nat} (hfr : 5 ≤ fr0) (hlc : 132 ≤ lc0) (hrec : ∀ (q : Nat) (σ : StL) (z0 z1 z2 : Int32) (r : (Int32 ⊕ Nat) × StL × Nat × Nat), rec σ z0 z1 z2 = some r → TxM l y_L_upperBound b_L_upperBound 9 (some .int) fr0 lc0 D [(cI, .int), (cZ, .boolean)] [.ref (a 0), .int z0, .int z1, .int z2] (fun q (σ : StL) => wL cI cZ a q σ) q σ r)   {q : Nat} {σ : StL} {x1 x2 x3 : Int32} {kc ks mc ms : Nat} (h : f_L_boundByClasses rec σ x1 x2 x3 = some (v, u, mc, ms)) (hkc : kc + mc = K) (hks : ks + ms = N) {H : Heap} {locs : List Loc} (hP : va_P D vwCl (wL cI cZ a q σ) H) (hD : va_D A (wL cI cZ a q σ)) (hS : va_S A s.heap H locs) {ls : Array Slot} (hl : lv_has ls 9 [(0, .ref (a 0)), (1, .int x1), (2, .int x2), (3, .int x3)]) : W p l e (rmK (fr0 + 2) (lc0 + 52) K N) s m args below meth c H locs kc ks (TxQ below args s D A (fun q (σ : StL) => (wL cI cZ a q σ)) v u K N) (F0 m 0 ls []) := by
  obtain ⟨hx, hb, hr, hml, hown, hts, hlk, hK⟩ := id C0
  have hcs : kc ≤ K ∧ ks ≤ N := ⟨by omega, by omega⟩
  unfold f_L_boundByClasses at h
  refine lv_iload_n hx hb d_L_boundByClasses_0 rfl (lv_at hl 3 rfl) ?_
  refine lv_if_lt (tgt := 9) hx hb d_L_boundByClasses_1 (by decide) (fun hc => ?_) (fun hc => ?_)
  · rw [if_pos hc] at h
    refine lv_iconst (v := (-1)) hx hb d_L_boundByClasses_9 (by decide) ?_
    cases h; exact tx_ret C0 hP hD hS (by omega) (by omega) d_L_boundByClasses_10
  · rw [if_neg hc] at h
    refine lv_iload_n hx hb d_L_boundByClasses_4 rfl (lv_at hl 3 rfl) ?_
    refine lv_iconst (v := 2) hx hb d_L_boundByClasses_5 (by decide) ?_
    refine lv_icmp_le (tgt := 11) hx hb d_L_boundByClasses_6 (by decide) (fun hc => ?_) (fun hc => ?_)
    · rw [if_pos hc] at h
      refine lv_aload_n hx hb d_L_boundByClasses_11 rfl (lv_at hl 0 rfl) ?_
      refine va_get (ci := 0) (v := .ref (a 3)) (C := R_L) (T := F_L) (N := 6) hx hb hts i_L hown hK.1 hP 0 rfl rfl 1 (by decide) (hts _ wd_67) (fun _ h9 => h9) rfl d_L_boundByClasses_12 ?_
      refine lv_aload_n hx hb d_L_boundByClasses_15 rfl (lv_at hl 0 rfl) ?_
      refine lv_iload_n hx hb d_L_boundByClasses_16 rfl (lv_at hl 1 rfl) ?_
      refine lv_iload_n hx hb d_L_boundByClasses_17 rfl (lv_at hl 2 rfl) ?_
      replace h := bd h
      obtain ⟨r1, g1, h⟩ := h
      refine ro_V (n := 2) (ci := 0) (As := [.int x1, .int x2]) (rest := [.ref (a 3)]) C0 (c_L_commonOf l D cI cZ a q σ x1 x2 g1) wd_248 ⟨wd_249, wd_250, wd_251, wd_55⟩ (by decide +kernel) ⟨by show 3 + 1 ≤ fr0 + 2; omega, by show 8 + (3 + 11) + 68 ≤ lc0 + 52; omega⟩ hP rfl rfl rfl hl rfl rfl (Nat.le_of_ble_eq_true rfl) hcs d_L_boundByClasses_18 ?_
      try dsimp only at h
      replace h := bd h
      obtain ⟨r2, g2, h⟩ := h
      refine ro_V (n := 1) (ci := 1) (As := [.int r1]) (rest := []) C0 (c_C_leastOf l D cI cZ a q (L_classes σ) r1 g2) wd_252 ⟨wd_253, wd_254, wd_255, wd_8⟩ (by decide +kernel) ⟨by show 1 + 1 ≤ fr0 + 2; omega, by show 8 + (4 + 11) + 21 ≤ lc0 + 52; omega⟩ (hP.pick [3, 4, 5, 6, 7, 8, 9] rfl) rfl rfl rfl hl rfl rfl (Nat.le_of_ble_eq_true rfl) hcs d_L_boundByClasses_21 ?_
      try dsimp only at h
      refine lv_istore (lv' := [(4, .int r2), (0, .ref (a 0)), (1, .int x1), (2, .int x2), (3, .int x3)]) hx hb d_L_boundByClasses_24 hl (by decide) rfl (fun ls hl => ?_)
      refine lv_iload_n hx hb d_L_boundByClasses_26 rfl (lv_at hl 4 rfl) ?_
      refine lv_bipush (v := 30) hx hb d_L_boundByClasses_27 (by decide) ?_
      refine lv_imul hx hb d_L_boundByClasses_29 ?_
      refine lv_istore (lv' := [(5, .int (x3 * 30)), (4, .int r2), (0, .ref (a 0)), (1, .int x1), (2, .int x2), (3, .int x3)]) hx hb d_L_boundByClasses_30 hl (by decide) rfl (fun ls hl => ?_)
      refine lv_iconst (v := 0) hx hb d_L_boundByClasses_32 (by decide) ?_
      refine lv_istore (lv' := [(6, .int 0), (5, .int (x3 * 30)), (4, .int r2), (0, .ref (a 0)), (1, .int x1), (2, .int x2), (3, .int x3)]) hx hb d_L_boundByClasses_33 hl (by decide) rfl (fun ls hl => ?_)
      refine lv_iconst (v := 0) hx hb d_L_boundByClasses_35 (by decide) ?_
      refine lv_istore (lv' := [(7, .int 0), (6, .int 0), (5, .int (x3 * 30)), (4, .int r2), (0, .ref (a 0)), (1, .int x1), (2, .int x2), (3, .int x3)]) hx hb d_L_boundByClasses_36 hl (by decide) rfl (fun ls hl => ?_)
      exact t_L_boundByClasses_38 (a := a) C0 hA hT hl0 hZ hfr hlc hrec  h hkc hks hP hD hS (lv_sub hl [4, 5, 6, 7, 3, 2, 1, 0] rfl)
    · rw [if_neg hc] at h
      refine lv_iconst (v := (-1)) hx hb d_L_boundByClasses_9 (by decide) ?_
      cases h; exact tx_ret C0 hP hD hS (by omega) (by omega) d_L_boundByClasses_10
set_option maxHeartbeats 4000000 in
set_option maxRecDepth 100000 in
theorem c_L_boundByClasses {l : Launch} {D : va_G} {cI cZ : ClassId} {a : Nat → Nat} (hl0 : l.stackTraces = false) {rec : StL → Int32 → Int32 → Int32 → Option ((Int32 ⊕ Nat) × StL × Nat × Nat)} {fr0 lc0 : Nat} (hfr : 5 ≤ fr0) (hlc : 132 ≤ lc0) (hrec : ∀ (q : Nat) (σ : StL) (z0 z1 z2 : Int32) (r : (Int32 ⊕ Nat) × StL × Nat × Nat), rec σ z0 z1 z2 = some r → TxM l y_L_upperBound b_L_upperBound 9 (some .int) fr0 lc0 D [(cI, .int), (cZ, .boolean)] [.ref (a 0), .int z0, .int z1, .int z2] (fun q (σ : StL) => wL cI cZ a q σ) q σ r) (q : Nat) (σ : StL) (x1 : Int32) (x2 : Int32) (x3 : Int32) {res : (Int32 ⊕ Nat) × StL × Nat × Nat} (h : f_L_boundByClasses rec σ x1 x2 x3 = some res) : TxM l y_L_boundByClasses b_L_boundByClasses 9 (some .int) (fr0 + 2) (lc0 + 52) D [(cI, .int), (cZ, .boolean)] [.ref (a 0), .int x1, .int x2, .int x3] (fun q (σ : StL) => (wL cI cZ a q σ)) q σ res :=
  tx_of (by decide) (Nat.le_of_ble_eq_true rfl) (fun p e s m args below meth c ls A C0 hA hT hZ hP hD hS hl => t_L_boundByClasses_0 (a := a) (kc := 0) (ks := 0) C0 hA hT hl0 hZ hfr hlc hrec h (Nat.zero_add _) (Nat.zero_add _) hP hD hS (lv_sub hl [0, 1, 2, 3] rfl))
-- part 07.5L.15L_upperBound.lean.txt
def f_L_upperBound_95_s (rec : StL → Int32 → Int32 → Int32 → Option ((Int32 ⊕ Nat) × StL × Nat × Nat)) (k95 : StL → Int32 → Int32 → Int32 → Option ((Int32 ⊕ Nat) × StL × Nat × Nat)) (σ : StL) (x6 x7 x8 : Int32) : Option ((Int32 ⊕ Nat) × StL × Nat × Nat) :=
  if x6 ≤ x8 then
    some (.inl x7, σ, 0, 0)
  else
    if x7 = (-1) then
      some (.inl x7, σ, 0, 0)
    else
      (f_T_makeArray (L_types σ) x7).bind fun r2 =>
      k95 (L_set_types σ r2.2) x6 r2.1 (x8 + 1)
def f_L_upperBound_95 (rec : StL → Int32 → Int32 → Int32 → Option ((Int32 ⊕ Nat) × StL × Nat × Nat)) : Nat → StL → Int32 → Int32 → Int32 → Option ((Int32 ⊕ Nat) × StL × Nat × Nat)
  | 0, _, _, _, _ => none
  | n + 1, σ, x6, x7, x8 => f_L_upperBound_95_s rec (f_L_upperBound_95 rec n) σ x6 x7 x8
def f_L_upperBound_69 (rec : StL → Int32 → Int32 → Int32 → Option ((Int32 ⊕ Nat) × StL × Nat × Nat)) (σ : StL) (x3 x4 x5 x6 : Int32) : Option ((Int32 ⊕ Nat) × StL × Nat × Nat) :=
  if x4 = x5 then
    f_L_upperBound_95 rec 1000 σ x6 x4 0
  else
    (f_L_boundByClasses rec σ x4 x5 x3).bind fun r1 => ad_ r1.2.2.1 r1.2.2.2 <| match r1.1 with
    | .inr e => some (.inr e, r1.2.1, 0, 0)
    | .inl r1v =>
    f_L_upperBound_95 rec 1000 r1.2.1 x6 r1v 0
def f_L_upperBound_9_s (rec : StL → Int32 → Int32 → Int32 → Option ((Int32 ⊕ Nat) × StL × Nat × Nat)) (k9 : StL → Int32 → Int32 → Int32 → Int32 → Option ((Int32 ⊕ Nat) × StL × Nat × Nat)) (σ : StL) (x3 x4 x5 x6 : Int32) : Option ((Int32 ⊕ Nat) × StL × Nat × Nat) :=
  if 100 ≤ x6 then
    f_L_upperBound_69 rec σ x3 x4 x5 x6
  else
    if x4 = x5 then
      f_L_upperBound_69 rec σ x3 x4 x5 x6
    else
      (f_L_isArrayOfOthers σ x4).bind fun r3 =>
      if r3 = 0 then
        f_L_upperBound_69 rec σ x3 x4 x5 x6
      else
        (f_L_isArrayOfOthers σ x5).bind fun r4 =>
        if r4 = 0 then
          f_L_upperBound_69 rec σ x3 x4 x5 x6
        else
          (f_T_elementOf (L_types σ) x4).bind fun r5 =>
          (f_T_elementOf (L_types σ) x5).bind fun r6 =>
          k9 σ x3 r5 r6 (x6 + 1)
def f_L_upperBound_9 (rec : StL → Int32 → Int32 → Int32 → Option ((Int32 ⊕ Nat) × StL × Nat × Nat)) : Nat → StL → Int32 → Int32 → Int32 → Int32 → Option ((Int32 ⊕ Nat) × StL × Nat × Nat)
  | 0, _, _, _, _, _ => none
  | n + 1, σ, x3, x4, x5, x6 => f_L_upperBound_9_s rec (f_L_upperBound_9 rec n) σ x3 x4 x5 x6
def f_L_upperBound_s (rec : StL → Int32 → Int32 → Int32 → Option ((Int32 ⊕ Nat) × StL × Nat × Nat)) (σ : StL) (x1 x2 x3 : Int32) : Option ((Int32 ⊕ Nat) × StL × Nat × Nat) :=
  f_L_upperBound_9 rec 1000 σ x3 x1 x2 0
def f_L_upperBound : Nat → StL → Int32 → Int32 → Int32 → Option ((Int32 ⊕ Nat) × StL × Nat × Nat)
  | 0, _, _, _, _ => none
  | n + 1, σ, x1, x2, x3 => f_L_upperBound_s (f_L_upperBound n) σ x1 x2 x3
set_option maxHeartbeats 4000000 in
set_option maxRecDepth 100000 in
theorem t_L_upperBound_95_s {p : Program} {l : Launch} {e : Env} {s : State} {m : MethodId} {args : Array Value} {below : List Frame} {meth : Method} {c : Code} {D : va_G} {cI cZ : ClassId} {a : Nat → Nat} {A : Nat → Prop} (C0 : Am p s m args meth c b_L_upperBound (some .int) 9 R_L D [(cI, .int), (cZ, .boolean)]) (hA : ∀ q, s.heap.size ≤ q → A q) (hT : ∀ x ∈ c.exceptionTable.toList, False) (hl0 : l.stackTraces = false) (hZ : Zs A s s.heap) {v : Int32 ⊕ Nat} {u : StL} {K N : Nat} {rec : StL → Int32 → Int32 → Int32 → Option ((Int32 ⊕ Nat) × StL × Nat × Nat)} {fr0 lc0 : Nat} (hfr : 5 ≤ fr0) (hlc : 132 ≤ lc0) (hrec : ∀ (q : Nat) (σ : StL) (z0 z1 z2 : Int32) (r : (Int32 ⊕ Nat) × StL × Nat × Nat), rec σ z0 z1 z2 = some r → TxM l y_L_upperBound b_L_upperBound 9 (some .int) fr0 lc0 D [(cI, .int), (cZ, .boolean)] [.ref (a 0), .int z0, .int z1, .int z2] (fun q (σ : StL) => wL cI cZ a q σ) q σ r) {k95 : StL → Int32 → Int32 → Int32 → Option ((Int32 ⊕ Nat) × StL × Nat × Nat)}  (hk95 : ∀ (q : Nat) (σ : StL) (x6 x7 x8 : Int32) (kc ks mc ms : Nat) (H : Heap) (locs : List Loc) (ls : Array Slot), k95 σ x6 x7 x8 = some (v, u, mc, ms) → kc + mc = K → ks + ms = N → va_P D vwCl (wL cI cZ a q σ) H → va_D A (wL cI cZ a q σ) → va_S A s.heap H locs → lv_has ls 9 [(0, .ref (a 0)), (6, .int x6), (7, .int x7), (8, .int x8)] → W p l e (rmK (fr0 + 3) (lc0 + 80) K N) s m args below meth c H locs kc ks (TxQ below args s D A (fun q (σ : StL) => (wL cI cZ a q σ)) v u K N) (F0 m 95 ls [])) {q : Nat} {σ : StL} {x6 x7 x8 : Int32} {kc ks mc ms : Nat} (h : f_L_upperBound_95_s rec k95 σ x6 x7 x8 = some (v, u, mc, ms)) (hkc : kc + mc = K) (hks : ks + ms = N) {H : Heap} {locs : List Loc} (hP : va_P D vwCl (wL cI cZ a q σ) H) (hD : va_D A (wL cI cZ a q σ)) (hS : va_S A s.heap H locs) {ls : Array Slot} (hl : lv_has ls 9 [(0, .ref (a 0)), (6, .int x6), (7, .int x7), (8, .int x8)]) : W p l e (rmK (fr0 + 3) (lc0 + 80) K N) s m args below meth c H locs kc ks (TxQ below args s D A (fun q (σ : StL) => (wL cI cZ a q σ)) v u K N) (F0 m 95 ls []) := by
  obtain ⟨hx, hb, hr, hml, hown, hts, hlk, hK⟩ := id C0
  have hcs : kc ≤ K ∧ ks ≤ N := ⟨by omega, by omega⟩
  unfold f_L_upperBound_95_s at h
  refine lv_iload hx hb d_L_upperBound_95 (lv_at hl 3 rfl) ?_
  refine lv_iload hx hb d_L_upperBound_97 (lv_at hl 1 rfl) ?_
  refine lv_icmp_ge (tgt := 125) hx hb d_L_upperBound_99 (by decide) (fun hc => ?_) (fun hc => ?_)
  · rw [if_pos hc] at h
    refine lv_iload hx hb d_L_upperBound_125 (lv_at hl 2 rfl) ?_
    cases h; exact tx_ret C0 hP hD hS (by omega) (by omega) d_L_upperBound_127
  · rw [if_neg hc] at h
    refine lv_iload hx hb d_L_upperBound_102 (lv_at hl 2 rfl) ?_
    refine lv_iconst (v := (-1)) hx hb d_L_upperBound_104 (by decide) ?_
    refine lv_icmp_eq (tgt := 125) hx hb d_L_upperBound_105 (by decide) (fun hc => ?_) (fun hc => ?_)
    · rw [if_pos hc] at h
      refine lv_iload hx hb d_L_upperBound_125 (lv_at hl 2 rfl) ?_
      cases h; exact tx_ret C0 hP hD hS (by omega) (by omega) d_L_upperBound_127
    · rw [if_neg hc] at h
      refine lv_aload_n hx hb d_L_upperBound_108 rfl (lv_at hl 0 rfl) ?_
      refine va_get (ci := 0) (v := .ref (a 10)) (C := R_L) (T := F_L) (N := 6) hx hb hts i_L hown hK.1 hP 0 rfl rfl 2 (by decide) (hts _ wd_85) (fun _ h9 => h9) rfl d_L_upperBound_109 ?_
      refine lv_iload hx hb d_L_upperBound_112 (lv_at hl 2 rfl) ?_
      replace h := bd h
      obtain ⟨r2, g2, h⟩ := h
      refine rw_V (n := 1) (ci := 2) (As := [.int x7]) (rest := []) (Wn := fun q => (wL cI cZ a q (L_set_types σ r2.2))) C0 hA (c_T_makeArray l D cI cZ a q (L_types σ) x7 g2) wd_183 ⟨wd_184, wd_185, wd_186, wd_52⟩ (by decide +kernel) ⟨by show 2 + 1 ≤ fr0 + 3; omega, by show 8 + (3 + 11) + 42 ≤ lc0 + 80; omega⟩ hP hD hS [10, 11, 12, 13, 14, 15, 16, 17, 18] [0, 1, 2, 3, 4, 5, 6, 7, 8, 9, 19, 20] [0, 1, 2, 3, 4, 5, 6, 7, 8, 9, 12, 13, 14, 15, 16, 17, 18, 19, 20, 10, 11] jn_L_types_C (by decide) jn_L_types_R (by decide) (by decide) (by decide) jn_L_types_W rfl rfl rfl hl rfl rfl (Nat.le_of_ble_eq_true rfl) hcs d_L_upperBound_114 (fun H locs q hP hD hS => ?_)
      try dsimp only at h
      refine lv_istore (lv' := [(7, .int r2.1), (0, .ref (a 0)), (6, .int x6), (8, .int x8)]) hx hb d_L_upperBound_117 hl (by decide) rfl (fun ls hl => ?_)
      refine lv_iinc (v := (x8 + 1)) (lv' := [(8, .int (x8 + 1)), (7, .int r2.1), (0, .ref (a 0)), (6, .int x6)]) hx hb d_L_upperBound_119 hl (k := 3) rfl rfl (by decide) rfl (fun ls hl => ?_)
      refine lv_goto (tgt := 95) hx hb d_L_upperBound_122 (by decide) ?_
      exact hk95 _ _ _ _ _ _ _ _ _ _ _ _ h hkc hks hP hD hS (lv_sub hl [2, 3, 1, 0] rfl)
set_option maxHeartbeats 4000000 in
set_option maxRecDepth 100000 in
theorem t_L_upperBound_95 {p : Program} {l : Launch} {e : Env} {s : State} {m : MethodId} {args : Array Value} {below : List Frame} {meth : Method} {c : Code} {D : va_G} {cI cZ : ClassId} {a : Nat → Nat} {A : Nat → Prop} (C0 : Am p s m args meth c b_L_upperBound (some .int) 9 R_L D [(cI, .int), (cZ, .boolean)]) (hA : ∀ q, s.heap.size ≤ q → A q) (hT : ∀ x ∈ c.exceptionTable.toList, False) (hl0 : l.stackTraces = false) (hZ : Zs A s s.heap) {v : Int32 ⊕ Nat} {u : StL} {K N : Nat} {rec : StL → Int32 → Int32 → Int32 → Option ((Int32 ⊕ Nat) × StL × Nat × Nat)} {fr0 lc0 : Nat} (hfr : 5 ≤ fr0) (hlc : 132 ≤ lc0) (hrec : ∀ (q : Nat) (σ : StL) (z0 z1 z2 : Int32) (r : (Int32 ⊕ Nat) × StL × Nat × Nat), rec σ z0 z1 z2 = some r → TxM l y_L_upperBound b_L_upperBound 9 (some .int) fr0 lc0 D [(cI, .int), (cZ, .boolean)] [.ref (a 0), .int z0, .int z1, .int z2] (fun q (σ : StL) => wL cI cZ a q σ) q σ r)  {n : Nat} {q : Nat} {σ : StL} {x6 x7 x8 : Int32} {kc ks mc ms : Nat} (h : f_L_upperBound_95 rec n σ x6 x7 x8 = some (v, u, mc, ms)) (hkc : kc + mc = K) (hks : ks + ms = N) {H : Heap} {locs : List Loc} (hP : va_P D vwCl (wL cI cZ a q σ) H) (hD : va_D A (wL cI cZ a q σ)) (hS : va_S A s.heap H locs) {ls : Array Slot} (hl : lv_has ls 9 [(0, .ref (a 0)), (6, .int x6), (7, .int x7), (8, .int x8)]) : W p l e (rmK (fr0 + 3) (lc0 + 80) K N) s m args below meth c H locs kc ks (TxQ below args s D A (fun q (σ : StL) => (wL cI cZ a q σ)) v u K N) (F0 m 95 ls []) := by
  induction n generalizing q σ x6 x7 x8 kc ks mc ms H locs ls with
  | zero => cases h
  | succ n ih => exact t_L_upperBound_95_s (a := a) C0 hA hT hl0 hZ hfr hlc hrec  (fun _ _ _ _ _ _ _ _ _ _ _ _ h hkc hks hP hD hS hl => ih h hkc hks hP hD hS hl) h hkc hks hP hD hS hl
set_option maxHeartbeats 4000000 in
set_option maxRecDepth 100000 in
theorem t_L_upperBound_69 {p : Program} {l : Launch} {e : Env} {s : State} {m : MethodId} {args : Array Value} {below : List Frame} {meth : Method} {c : Code} {D : va_G} {cI cZ : ClassId} {a : Nat → Nat} {A : Nat → Prop} (C0 : Am p s m args meth c b_L_upperBound (some .int) 9 R_L D [(cI, .int), (cZ, .boolean)]) (hA : ∀ q, s.heap.size ≤ q → A q) (hT : ∀ x ∈ c.exceptionTable.toList, False) (hl0 : l.stackTraces = false) (hZ : Zs A s s.heap) {v : Int32 ⊕ Nat} {u : StL} {K N : Nat} {rec : StL → Int32 → Int32 → Int32 → Option ((Int32 ⊕ Nat) × StL × Nat × Nat)} {fr0 lc0 : Nat} (hfr : 5 ≤ fr0) (hlc : 132 ≤ lc0) (hrec : ∀ (q : Nat) (σ : StL) (z0 z1 z2 : Int32) (r : (Int32 ⊕ Nat) × StL × Nat × Nat), rec σ z0 z1 z2 = some r → TxM l y_L_upperBound b_L_upperBound 9 (some .int) fr0 lc0 D [(cI, .int), (cZ, .boolean)] [.ref (a 0), .int z0, .int z1, .int z2] (fun q (σ : StL) => wL cI cZ a q σ) q σ r)   {q : Nat} {σ : StL} {x3 x4 x5 x6 : Int32} {kc ks mc ms : Nat} (h : f_L_upperBound_69 rec σ x3 x4 x5 x6 = some (v, u, mc, ms)) (hkc : kc + mc = K) (hks : ks + ms = N) {H : Heap} {locs : List Loc} (hP : va_P D vwCl (wL cI cZ a q σ) H) (hD : va_D A (wL cI cZ a q σ)) (hS : va_S A s.heap H locs) {ls : Array Slot} (hl : lv_has ls 9 [(0, .ref (a 0)), (3, .int x3), (4, .int x4), (5, .int x5), (6, .int x6)]) : W p l e (rmK (fr0 + 3) (lc0 + 80) K N) s m args below meth c H locs kc ks (TxQ below args s D A (fun q (σ : StL) => (wL cI cZ a q σ)) v u K N) (F0 m 69 ls []) := by
  obtain ⟨hx, hb, hr, hml, hown, hts, hlk, hK⟩ := id C0
  have hcs : kc ≤ K ∧ ks ≤ N := ⟨by omega, by omega⟩
  unfold f_L_upperBound_69 at h
  refine lv_iload hx hb d_L_upperBound_69 (lv_at hl 2 rfl) ?_
  refine lv_iload hx hb d_L_upperBound_71 (lv_at hl 3 rfl) ?_
  refine lv_icmp_ne (tgt := 81) hx hb d_L_upperBound_73 (by decide) (fun hc => ?_) (fun hc => ?_)
  · rw [if_neg hc] at h
    refine lv_aload_n hx hb d_L_upperBound_81 rfl (lv_at hl 0 rfl) ?_
    refine lv_iload hx hb d_L_upperBound_82 (lv_at hl 2 rfl) ?_
    refine lv_iload hx hb d_L_upperBound_84 (lv_at hl 3 rfl) ?_
    refine lv_iload_n hx hb d_L_upperBound_86 rfl (lv_at hl 1 rfl) ?_
    replace h := bd h
    obtain ⟨r1, g1, h⟩ := h
    try dsimp only at h
    replace h := ad_s h
    obtain ⟨mc, ms, h, rfl, rfl⟩ := h
    refine tx_V (n := 3) (ci := 0) (As := [.int x4, .int x5, .int x3]) (rest := []) (Wn := fun q => (wL cI cZ a q r1.2.1)) C0 hA hZ (c_L_boundByClasses hl0 hfr hlc hrec q σ x4 x5 x3 g1) wd_270 ⟨wd_271, wd_272, wd_273, wd_55⟩ (by decide +kernel) ⟨by show fr0 + 2 + 1 ≤ fr0 + 3; omega, by show 8 + (9 + 11) + (lc0 + 52) ≤ lc0 + 80; omega⟩ hP hD hS [0, 1, 2, 3, 4, 5, 6, 7, 8, 9, 10, 11, 12, 13, 14, 15, 16, 17, 18, 19, 20] [] [0, 1, 2, 3, 4, 5, 6, 7, 8, 9, 10, 11, 12, 13, 14, 15, 16, 17, 18, 19, 20] jn_L__C (by decide) jn_L__R (by decide) (by decide) (by decide) jn_L__W rfl rfl rfl hl rfl rfl (Nat.le_of_ble_eq_true rfl) ⟨by show kc + _ ≤ K; omega, by show ks + _ ≤ N; omega⟩ d_L_upperBound_87 (fun ek H locs q q9 ce hv hP hD hS h1 h2 h3 => ?_) (fun r1v H locs q hv hP hD hS => ?_)
    · rw [hv] at h
      cases h
      exact tx_out C0 hT hP hD hS h1 h2 h3 (by omega) (by omega)
    · rw [hv] at h
      try dsimp only at h
      have hkc : (kc + r1.2.2.1) + mc = K := by omega
      have hks : (ks + r1.2.2.2) + ms = N := by omega
      have hcs : (kc + r1.2.2.1) ≤ K ∧ (ks + r1.2.2.2) ≤ N := ⟨by omega, by omega⟩
      refine lv_istore (lv' := [(7, .int r1v), (0, .ref (a 0)), (3, .int x3), (4, .int x4), (5, .int x5), (6, .int x6)]) hx hb d_L_upperBound_90 hl (by decide) rfl (fun ls hl => ?_)
      refine lv_iconst (v := 0) hx hb d_L_upperBound_92 (by decide) ?_
      refine lv_istore (lv' := [(8, .int 0), (7, .int r1v), (0, .ref (a 0)), (3, .int x3), (4, .int x4), (5, .int x5), (6, .int x6)]) hx hb d_L_upperBound_93 hl (by decide) rfl (fun ls hl => ?_)
      exact t_L_upperBound_95 (a := a) C0 hA hT hl0 hZ hfr hlc hrec  h hkc hks hP hD hS (lv_sub hl [2, 6, 1, 0] rfl)
  · rw [if_pos hc] at h
    refine lv_iload hx hb d_L_upperBound_76 (lv_at hl 2 rfl) ?_
    refine lv_goto (tgt := 90) hx hb d_L_upperBound_78 (by decide) ?_
    refine lv_istore (lv' := [(7, .int x4), (0, .ref (a 0)), (3, .int x3), (4, .int x4), (5, .int x5), (6, .int x6)]) hx hb d_L_upperBound_90 hl (by decide) rfl (fun ls hl => ?_)
    refine lv_iconst (v := 0) hx hb d_L_upperBound_92 (by decide) ?_
    refine lv_istore (lv' := [(8, .int 0), (7, .int x4), (0, .ref (a 0)), (3, .int x3), (4, .int x4), (5, .int x5), (6, .int x6)]) hx hb d_L_upperBound_93 hl (by decide) rfl (fun ls hl => ?_)
    exact t_L_upperBound_95 (a := a) C0 hA hT hl0 hZ hfr hlc hrec  h hkc hks hP hD hS (lv_sub hl [2, 6, 1, 0] rfl)
set_option maxHeartbeats 4000000 in
set_option maxRecDepth 100000 in
theorem t_L_upperBound_9_s {p : Program} {l : Launch} {e : Env} {s : State} {m : MethodId} {args : Array Value} {below : List Frame} {meth : Method} {c : Code} {D : va_G} {cI cZ : ClassId} {a : Nat → Nat} {A : Nat → Prop} (C0 : Am p s m args meth c b_L_upperBound (some .int) 9 R_L D [(cI, .int), (cZ, .boolean)]) (hA : ∀ q, s.heap.size ≤ q → A q) (hT : ∀ x ∈ c.exceptionTable.toList, False) (hl0 : l.stackTraces = false) (hZ : Zs A s s.heap) {v : Int32 ⊕ Nat} {u : StL} {K N : Nat} {rec : StL → Int32 → Int32 → Int32 → Option ((Int32 ⊕ Nat) × StL × Nat × Nat)} {fr0 lc0 : Nat} (hfr : 5 ≤ fr0) (hlc : 132 ≤ lc0) (hrec : ∀ (q : Nat) (σ : StL) (z0 z1 z2 : Int32) (r : (Int32 ⊕ Nat) × StL × Nat × Nat), rec σ z0 z1 z2 = some r → TxM l y_L_upperBound b_L_upperBound 9 (some .int) fr0 lc0 D [(cI, .int), (cZ, .boolean)] [.ref (a 0), .int z0, .int z1, .int z2] (fun q (σ : StL) => wL cI cZ a q σ) q σ r) {k9 : StL → Int32 → Int32 → Int32 → Int32 → Option ((Int32 ⊕ Nat) × StL × Nat × Nat)}  (hk9 : ∀ (q : Nat) (σ : StL) (x3 x4 x5 x6 : Int32) (kc ks mc ms : Nat) (H : Heap) (locs : List Loc) (ls : Array Slot), k9 σ x3 x4 x5 x6 = some (v, u, mc, ms) → kc + mc = K → ks + ms = N → va_P D vwCl (wL cI cZ a q σ) H → va_D A (wL cI cZ a q σ) → va_S A s.heap H locs → lv_has ls 9 [(0, .ref (a 0)), (3, .int x3), (4, .int x4), (5, .int x5), (6, .int x6)] → W p l e (rmK (fr0 + 3) (lc0 + 80) K N) s m args below meth c H locs kc ks (TxQ below args s D A (fun q (σ : StL) => (wL cI cZ a q σ)) v u K N) (F0 m 9 ls [])) {q : Nat} {σ : StL} {x3 x4 x5 x6 : Int32} {kc ks mc ms : Nat} (h : f_L_upperBound_9_s rec k9 σ x3 x4 x5 x6 = some (v, u, mc, ms)) (hkc : kc + mc = K) (hks : ks + ms = N) {H : Heap} {locs : List Loc} (hP : va_P D vwCl (wL cI cZ a q σ) H) (hD : va_D A (wL cI cZ a q σ)) (hS : va_S A s.heap H locs) {ls : Array Slot} (hl : lv_has ls 9 [(0, .ref (a 0)), (3, .int x3), (4, .int x4), (5, .int x5), (6, .int x6)]) : W p l e (rmK (fr0 + 3) (lc0 + 80) K N) s m args below meth c H locs kc ks (TxQ below args s D A (fun q (σ : StL) => (wL cI cZ a q σ)) v u K N) (F0 m 9 ls []) := by
  obtain ⟨hx, hb, hr, hml, hown, hts, hlk, hK⟩ := id C0
  have hcs : kc ≤ K ∧ ks ≤ N := ⟨by omega, by omega⟩
  unfold f_L_upperBound_9_s at h
  refine lv_iload hx hb d_L_upperBound_9 (lv_at hl 4 rfl) ?_
  refine lv_bipush (v := 100) hx hb d_L_upperBound_11 (by decide) ?_
  refine lv_icmp_ge (tgt := 69) hx hb d_L_upperBound_13 (by decide) (fun hc => ?_) (fun hc => ?_)
  · rw [if_pos hc] at h
    exact t_L_upperBound_69 (a := a) C0 hA hT hl0 hZ hfr hlc hrec  h hkc hks hP hD hS (lv_sub hl [0, 1, 2, 3, 4] rfl)
  · rw [if_neg hc] at h
    refine lv_iload hx hb d_L_upperBound_16 (lv_at hl 2 rfl) ?_
    refine lv_iload hx hb d_L_upperBound_18 (lv_at hl 3 rfl) ?_
    refine lv_icmp_eq (tgt := 69) hx hb d_L_upperBound_20 (by decide) (fun hc => ?_) (fun hc => ?_)
    · rw [if_pos hc] at h
      exact t_L_upperBound_69 (a := a) C0 hA hT hl0 hZ hfr hlc hrec  h hkc hks hP hD hS (lv_sub hl [0, 1, 2, 3, 4] rfl)
    · rw [if_neg hc] at h
      refine lv_aload_n hx hb d_L_upperBound_23 rfl (lv_at hl 0 rfl) ?_
      refine lv_iload hx hb d_L_upperBound_24 (lv_at hl 2 rfl) ?_
      replace h := bd h
      obtain ⟨r3, g3, h⟩ := h
      refine ro_V (n := 1) (ci := 0) (As := [.int x4]) (rest := []) C0 (c_L_isArrayOfOthers l D cI cZ a q σ x4 g3) wd_274 ⟨wd_275, wd_276, wd_277, wd_55⟩ (by decide +kernel) ⟨by show 2 + 1 ≤ fr0 + 3; omega, by show 8 + (2 + 11) + 42 ≤ lc0 + 80; omega⟩ hP rfl rfl rfl hl rfl rfl (Nat.le_of_ble_eq_true rfl) hcs d_L_upperBound_26 ?_
      try dsimp only at h
      refine lv_if_eq (tgt := 69) hx hb d_L_upperBound_29 (by decide) (fun hc => ?_) (fun hc => ?_)
      · rw [if_pos hc] at h
        exact t_L_upperBound_69 (a := a) C0 hA hT hl0 hZ hfr hlc hrec  h hkc hks hP hD hS (lv_sub hl [0, 1, 2, 3, 4] rfl)
      · rw [if_neg hc] at h
        refine lv_aload_n hx hb d_L_upperBound_32 rfl (lv_at hl 0 rfl) ?_
        refine lv_iload hx hb d_L_upperBound_33 (lv_at hl 3 rfl) ?_
        replace h := bd h
        obtain ⟨r4, g4, h⟩ := h
        refine ro_V (n := 1) (ci := 0) (As := [.int x5]) (rest := []) C0 (c_L_isArrayOfOthers l D cI cZ a q σ x5 g4) wd_274 ⟨wd_275, wd_276, wd_277, wd_55⟩ (by decide +kernel) ⟨by show 2 + 1 ≤ fr0 + 3; omega, by show 8 + (2 + 11) + 42 ≤ lc0 + 80; omega⟩ hP rfl rfl rfl hl rfl rfl (Nat.le_of_ble_eq_true rfl) hcs d_L_upperBound_35 ?_
        try dsimp only at h
        refine lv_if_eq (tgt := 69) hx hb d_L_upperBound_38 (by decide) (fun hc => ?_) (fun hc => ?_)
        · rw [if_pos hc] at h
          exact t_L_upperBound_69 (a := a) C0 hA hT hl0 hZ hfr hlc hrec  h hkc hks hP hD hS (lv_sub hl [0, 1, 2, 3, 4] rfl)
        · rw [if_neg hc] at h
          refine lv_aload_n hx hb d_L_upperBound_41 rfl (lv_at hl 0 rfl) ?_
          refine va_get (ci := 0) (v := .ref (a 10)) (C := R_L) (T := F_L) (N := 6) hx hb hts i_L hown hK.1 hP 0 rfl rfl 2 (by decide) (hts _ wd_85) (fun _ h9 => h9) rfl d_L_upperBound_42 ?_
          refine lv_iload hx hb d_L_upperBound_45 (lv_at hl 2 rfl) ?_
          replace h := bd h
          obtain ⟨r5, g5, h⟩ := h
          refine ro_V (n := 1) (ci := 2) (As := [.int x4]) (rest := []) C0 (c_T_elementOf l D cI cZ a q (L_types σ) x4 g5) wd_187 ⟨wd_188, wd_189, wd_190, wd_52⟩ (by decide +kernel) ⟨by show 1 + 1 ≤ fr0 + 3; omega, by show 8 + (2 + 11) + 21 ≤ lc0 + 80; omega⟩ (hP.pick [10, 11, 12, 13, 14, 15, 16, 17, 18] rfl) rfl rfl rfl hl rfl rfl (Nat.le_of_ble_eq_true rfl) hcs d_L_upperBound_47 ?_
          try dsimp only at h
          refine lv_istore (lv' := [(4, .int r5), (0, .ref (a 0)), (3, .int x3), (5, .int x5), (6, .int x6)]) hx hb d_L_upperBound_50 hl (by decide) rfl (fun ls hl => ?_)
          refine lv_aload_n hx hb d_L_upperBound_52 rfl (lv_at hl 1 rfl) ?_
          refine va_get (ci := 0) (v := .ref (a 10)) (C := R_L) (T := F_L) (N := 6) hx hb hts i_L hown hK.1 hP 0 rfl rfl 2 (by decide) (hts _ wd_85) (fun _ h9 => h9) rfl d_L_upperBound_53 ?_
          refine lv_iload hx hb d_L_upperBound_56 (lv_at hl 3 rfl) ?_
          replace h := bd h
          obtain ⟨r6, g6, h⟩ := h
          refine ro_V (n := 1) (ci := 2) (As := [.int x5]) (rest := []) C0 (c_T_elementOf l D cI cZ a q (L_types σ) x5 g6) wd_187 ⟨wd_188, wd_189, wd_190, wd_52⟩ (by decide +kernel) ⟨by show 1 + 1 ≤ fr0 + 3; omega, by show 8 + (2 + 11) + 21 ≤ lc0 + 80; omega⟩ (hP.pick [10, 11, 12, 13, 14, 15, 16, 17, 18] rfl) rfl rfl rfl hl rfl rfl (Nat.le_of_ble_eq_true rfl) hcs d_L_upperBound_58 ?_
          try dsimp only at h
          refine lv_istore (lv' := [(5, .int r6), (4, .int r5), (0, .ref (a 0)), (3, .int x3), (6, .int x6)]) hx hb d_L_upperBound_61 hl (by decide) rfl (fun ls hl => ?_)
          refine lv_iinc (v := (x6 + 1)) (lv' := [(6, .int (x6 + 1)), (5, .int r6), (4, .int r5), (0, .ref (a 0)), (3, .int x3)]) hx hb d_L_upperBound_63 hl (k := 4) rfl rfl (by decide) rfl (fun ls hl => ?_)
          refine lv_goto (tgt := 9) hx hb d_L_upperBound_66 (by decide) ?_
          exact hk9 _ _ _ _ _ _ _ _ _ _ _ _ _ h hkc hks hP hD hS (lv_sub hl [3, 4, 2, 1, 0] rfl)
set_option maxHeartbeats 4000000 in
set_option maxRecDepth 100000 in
theorem t_L_upperBound_9 {p : Program} {l : Launch} {e : Env} {s : State} {m : MethodId} {args : Array Value} {below : List Frame} {meth : Method} {c : Code} {D : va_G} {cI cZ : ClassId} {a : Nat → Nat} {A : Nat → Prop} (C0 : Am p s m args meth c b_L_upperBound (some .int) 9 R_L D [(cI, .int), (cZ, .boolean)]) (hA : ∀ q, s.heap.size ≤ q → A q) (hT : ∀ x ∈ c.exceptionTable.toList, False) (hl0 : l.stackTraces = false) (hZ : Zs A s s.heap) {v : Int32 ⊕ Nat} {u : StL} {K N : Nat} {rec : StL → Int32 → Int32 → Int32 → Option ((Int32 ⊕ Nat) × StL × Nat × Nat)} {fr0 lc0 : Nat} (hfr : 5 ≤ fr0) (hlc : 132 ≤ lc0) (hrec : ∀ (q : Nat) (σ : StL) (z0 z1 z2 : Int32) (r : (Int32 ⊕ Nat) × StL × Nat × Nat), rec σ z0 z1 z2 = some r → TxM l y_L_upperBound b_L_upperBound 9 (some .int) fr0 lc0 D [(cI, .int), (cZ, .boolean)] [.ref (a 0), .int z0, .int z1, .int z2] (fun q (σ : StL) => wL cI cZ a q σ) q σ r)  {n : Nat} {q : Nat} {σ : StL} {x3 x4 x5 x6 : Int32} {kc ks mc ms : Nat} (h : f_L_upperBound_9 rec n σ x3 x4 x5 x6 = some (v, u, mc, ms)) (hkc : kc + mc = K) (hks : ks + ms = N) {H : Heap} {locs : List Loc} (hP : va_P D vwCl (wL cI cZ a q σ) H) (hD : va_D A (wL cI cZ a q σ)) (hS : va_S A s.heap H locs) {ls : Array Slot} (hl : lv_has ls 9 [(0, .ref (a 0)), (3, .int x3), (4, .int x4), (5, .int x5), (6, .int x6)]) : W p l e (rmK (fr0 + 3) (lc0 + 80) K N) s m args below meth c H locs kc ks (TxQ below args s D A (fun q (σ : StL) => (wL cI cZ a q σ)) v u K N) (F0 m 9 ls []) := by
  induction n generalizing q σ x3 x4 x5 x6 kc ks mc ms H locs ls with
  | zero => cases h
  | succ n ih => exact t_L_upperBound_9_s (a := a) C0 hA hT hl0 hZ hfr hlc hrec  (fun _ _ _ _ _ _ _ _ _ _ _ _ _ h hkc hks hP hD hS hl => ih h hkc hks hP hD hS hl) h hkc hks hP hD hS hl
set_option maxHeartbeats 4000000 in
set_option maxRecDepth 100000 in
theorem t_L_upperBound_0 {p : Program} {l : Launch} {e : Env} {s : State} {m : MethodId} {args : Array Value} {below : List Frame} {meth : Method} {c : Code} {D : va_G} {cI cZ : ClassId} {a : Nat → Nat} {A : Nat → Prop} (C0 : Am p s m args meth c b_L_upperBound (some .int) 9 R_L D [(cI, .int), (cZ, .boolean)]) (hA : ∀ q, s.heap.size ≤ q → A q) (hT : ∀ x ∈ c.exceptionTable.toList, False) (hl0 : l.stackTraces = false) (hZ : Zs A s s.heap) {v : Int32 ⊕ Nat} {u : StL} {K N : Nat} {rec : StL → Int32 → Int32 → Int32 → Option ((Int32 ⊕ Nat) × StL × Nat × Nat)} {fr0 lc0 : Nat} (hfr : 5 ≤ fr0) (hlc : 132 ≤ lc0) (hrec : ∀ (q : Nat) (σ : StL) (z0 z1 z2 : Int32) (r : (Int32 ⊕ Nat) × StL × Nat × Nat), rec σ z0 z1 z2 = some r → TxM l y_L_upperBound b_L_upperBound 9 (some .int) fr0 lc0 D [(cI, .int), (cZ, .boolean)] [.ref (a 0), .int z0, .int z1, .int z2] (fun q (σ : StL) => wL cI cZ a q σ) q σ r)   {q : Nat} {σ : StL} {x1 x2 x3 : Int32} {kc ks mc ms : Nat} (h : f_L_upperBound_s rec σ x1 x2 x3 = some (v, u, mc, ms)) (hkc : kc + mc = K) (hks : ks + ms = N) {H : Heap} {locs : List Loc} (hP : va_P D vwCl (wL cI cZ a q σ) H) (hD : va_D A (wL cI cZ a q σ)) (hS : va_S A s.heap H locs) {ls : Array Slot} (hl : lv_has ls 9 [(0, .ref (a 0)), (1, .int x1), (2, .int x2), (3, .int x3)]) : W p l e (rmK (fr0 + 3) (lc0 + 80) K N) s m args below meth c H locs kc ks (TxQ below args s D A (fun q (σ : StL) => (wL cI cZ a q σ)) v u K N) (F0 m 0 ls []) := by
  obtain ⟨hx, hb, hr, hml, hown, hts, hlk, hK⟩ := id C0
  have hcs : kc ≤ K ∧ ks ≤ N := ⟨by omega, by omega⟩
  unfold f_L_upperBound_s at h
  refine lv_iload_n hx hb d_L_upperBound_0 rfl (lv_at hl 1 rfl) ?_
  refine lv_istore (lv' := [(4, .int x1), (0, .ref (a 0)), (1, .int x1), (2, .int x2), (3, .int x3)]) hx hb d_L_upperBound_1 hl (by decide) rfl (fun ls hl => ?_)
  refine lv_iload_n hx hb d_L_upperBound_3 rfl (lv_at hl 3 rfl) ?_
  refine lv_istore (lv' := [(5, .int x2), (4, .int x1), (0, .ref (a 0)), (1, .int x1), (2, .int x2), (3, .int x3)]) hx hb d_L_upperBound_4 hl (by decide) rfl (fun ls hl => ?_)
  refine lv_iconst (v := 0) hx hb d_L_upperBound_6 (by decide) ?_
  refine lv_istore (lv' := [(6, .int 0), (5, .int x2), (4, .int x1), (0, .ref (a 0)), (1, .int x1), (2, .int x2), (3, .int x3)]) hx hb d_L_upperBound_7 hl (by decide) rfl (fun ls hl => ?_)
  exact t_L_upperBound_9 (a := a) C0 hA hT hl0 hZ hfr hlc hrec  h hkc hks hP hD hS (lv_sub hl [3, 6, 2, 1, 0] rfl)
set_option maxHeartbeats 4000000 in
set_option maxRecDepth 100000 in
theorem c_L_upperBound_s {l : Launch} {D : va_G} {cI cZ : ClassId} {a : Nat → Nat} (hl0 : l.stackTraces = false) {rec : StL → Int32 → Int32 → Int32 → Option ((Int32 ⊕ Nat) × StL × Nat × Nat)} {fr0 lc0 : Nat} (hfr : 5 ≤ fr0) (hlc : 132 ≤ lc0) (hrec : ∀ (q : Nat) (σ : StL) (z0 z1 z2 : Int32) (r : (Int32 ⊕ Nat) × StL × Nat × Nat), rec σ z0 z1 z2 = some r → TxM l y_L_upperBound b_L_upperBound 9 (some .int) fr0 lc0 D [(cI, .int), (cZ, .boolean)] [.ref (a 0), .int z0, .int z1, .int z2] (fun q (σ : StL) => wL cI cZ a q σ) q σ r) (q : Nat) (σ : StL) (x1 : Int32) (x2 : Int32) (x3 : Int32) {res : (Int32 ⊕ Nat) × StL × Nat × Nat} (h : f_L_upperBound_s rec σ x1 x2 x3 = some res) : TxM l y_L_upperBound b_L_upperBound 9 (some .int) (fr0 + 3) (lc0 + 80) D [(cI, .int), (cZ, .boolean)] [.ref (a 0), .int x1, .int x2, .int x3] (fun q (σ : StL) => (wL cI cZ a q σ)) q σ res :=
  tx_of (by decide) (Nat.le_of_ble_eq_true rfl) (fun p e s m args below meth c ls A C0 hA hT hZ hP hD hS hl => t_L_upperBound_0 (a := a) (kc := 0) (ks := 0) C0 hA hT hl0 hZ hfr hlc hrec h (Nat.zero_add _) (Nat.zero_add _) hP hD hS (lv_sub hl [0, 1, 2, 3] rfl))
set_option maxHeartbeats 4000000 in
set_option maxRecDepth 100000 in
theorem c_L_upperBound {n : Nat} (l : Launch) (D : va_G) (cI cZ : ClassId) (a : Nat → Nat) (hl0 : l.stackTraces = false) (q : Nat) (σ : StL) (x1 x2 x3 : Int32) {res : (Int32 ⊕ Nat) × StL × Nat × Nat} (h : f_L_upperBound n σ x1 x2 x3 = some res) : TxM l y_L_upperBound b_L_upperBound 9 (some .int) (5 + 3 * n) (132 + 80 * n) D [(cI, .int), (cZ, .boolean)] [.ref (a 0), .int x1, .int x2, .int x3] (fun q (σ : StL) => (wL cI cZ a q σ)) q σ res := by
  induction n generalizing q σ x1 x2 x3 res with
  | zero => cases h
  | succ n ih =>
    have hh := c_L_upperBound_s hl0 (fr0 := (5 + 3 * n)) (lc0 := (132 + 80 * n)) (Nat.le_add_right _ _) (Nat.le_add_right _ _) (fun q σ x1 x2 x3 r g => ih q σ x1 x2 x3 g) q σ x1 x2 x3 h
    rw [show 5 + 3 * (n + 1) = 5 + 3 * n + 3 by omega, show 132 + 80 * (n + 1) = 132 + 80 * n + 80 by omega]
    exact hh
-- part 07.5L.16L_upper.lean.txt
def f_L_upper (σ : StL) (x1 x2 : Int32) : Option ((Int32 ⊕ Nat) × StL × Nat × Nat) :=
  (f_L_requireType σ x1).bind fun r1 => ad_ r1.2.2.1 r1.2.2.2 <| match r1.1 with
  | .inr e => some (.inr e, r1.2.1, 0, 0)
  | .inl r1v =>
  (f_L_requireType r1.2.1 x2).bind fun r2 => ad_ r2.2.2.1 r2.2.2.2 <| match r2.1 with
  | .inr e => some (.inr e, r2.2.1, 0, 0)
  | .inl r2v =>
  (f_L_upperBound 3 r2.2.1 x1 x2 (L_depth r2.2.1)).bind fun r3 => ad_ r3.2.2.1 r3.2.2.2 <| match r3.1 with
  | .inr e => some (.inr e, r3.2.1, 0, 0)
  | .inl r3v =>
  (f_L_settled r3.2.1 r3v).bind fun r4 => ad_ r4.2.2.1 r4.2.2.2 <| match r4.1 with
  | .inr e => some (.inr e, r4.2.1, 0, 0)
  | .inl r4v =>
  some (.inl r4v, r4.2.1, 0, 0)
set_option maxHeartbeats 4000000 in
set_option maxRecDepth 100000 in
theorem t_L_upper_0 {p : Program} {l : Launch} {e : Env} {s : State} {m : MethodId} {args : Array Value} {below : List Frame} {meth : Method} {c : Code} {D : va_G} {cI cZ : ClassId} {a : Nat → Nat} {A : Nat → Prop} (C0 : Am p s m args meth c b_L_upper (some .int) 3 R_L D [(cI, .int), (cZ, .boolean)]) (hA : ∀ q, s.heap.size ≤ q → A q) (hT : ∀ x ∈ c.exceptionTable.toList, False) (hl0 : l.stackTraces = false) (hZ : Zs A s s.heap) {v : Int32 ⊕ Nat} {u : StL} {K N : Nat}   {q : Nat} {σ : StL} {x1 x2 : Int32} {kc ks mc ms : Nat} (h : f_L_upper σ x1 x2 = some (v, u, mc, ms)) (hkc : kc + mc = K) (hks : ks + ms = N) {H : Heap} {locs : List Loc} (hP : va_P D vwCl (wL cI cZ a q σ) H) (hD : va_D A (wL cI cZ a q σ)) (hS : va_S A s.heap H locs) {ls : Array Slot} (hl : lv_has ls 3 [(0, .ref (a 0)), (1, .int x1), (2, .int x2)]) : W p l e (rmK 15 400 K N) s m args below meth c H locs kc ks (TxQ below args s D A (fun q (σ : StL) => (wL cI cZ a q σ)) v u K N) (F0 m 0 ls []) := by
  obtain ⟨hx, hb, hr, hml, hown, hts, hlk, hK⟩ := id C0
  have hcs : kc ≤ K ∧ ks ≤ N := ⟨by omega, by omega⟩
  unfold f_L_upper at h
  refine lv_aload_n hx hb d_L_upper_0 rfl (lv_at hl 0 rfl) ?_
  refine lv_iload_n hx hb d_L_upper_1 rfl (lv_at hl 1 rfl) ?_
  replace h := bd h
  obtain ⟨r1, g1, h⟩ := h
  try dsimp only at h
  replace h := ad_s h
  obtain ⟨mc, ms, h, rfl, rfl⟩ := h
  refine tx_Vv (n := 1) (ci := 0) (As := [.int x1]) (rest := []) (Wn := fun q => (wL cI cZ a q r1.2.1)) C0 hA hZ (c_L_requireType l D cI cZ a hl0 q σ x1 g1) wd_160 ⟨wd_161, wd_162, wd_163, wd_55⟩ (by decide +kernel) ⟨Nat.le_of_ble_eq_true rfl, Nat.le_of_ble_eq_true rfl⟩ hP hD hS [0, 1, 2, 3, 4, 5, 6, 7, 8, 9, 10, 11, 12, 13, 14, 15, 16, 17, 18, 19, 20] [] [0, 1, 2, 3, 4, 5, 6, 7, 8, 9, 10, 11, 12, 13, 14, 15, 16, 17, 18, 19, 20] jn_L__C (by decide) jn_L__R (by decide) (by decide) (by decide) jn_L__W rfl rfl rfl hl rfl rfl (Nat.le_of_ble_eq_true rfl) ⟨by show kc + _ ≤ K; omega, by show ks + _ ≤ N; omega⟩ d_L_upper_2 (fun ek H locs q q9 ce hv hP hD hS h1 h2 h3 => ?_) (fun r1v H locs q hv hP hD hS => ?_)
  · rw [hv] at h
    cases h
    exact tx_out C0 hT hP hD hS h1 h2 h3 (by omega) (by omega)
  · rw [hv] at h
    try dsimp only at h
    have hkc : (kc + r1.2.2.1) + mc = K := by omega
    have hks : (ks + r1.2.2.2) + ms = N := by omega
    have hcs : (kc + r1.2.2.1) ≤ K ∧ (ks + r1.2.2.2) ≤ N := ⟨by omega, by omega⟩
    refine lv_aload_n hx hb d_L_upper_5 rfl (lv_at hl 0 rfl) ?_
    refine lv_iload_n hx hb d_L_upper_6 rfl (lv_at hl 2 rfl) ?_
    replace h := bd h
    obtain ⟨r2, g2, h⟩ := h
    try dsimp only at h
    replace h := ad_s h
    obtain ⟨mc, ms, h, rfl, rfl⟩ := h
    refine tx_Vv (n := 1) (ci := 0) (As := [.int x2]) (rest := []) (Wn := fun q => (wL cI cZ a q r2.2.1)) C0 hA hZ (c_L_requireType l D cI cZ a hl0 q r1.2.1 x2 g2) wd_160 ⟨wd_161, wd_162, wd_163, wd_55⟩ (by decide +kernel) ⟨Nat.le_of_ble_eq_true rfl, Nat.le_of_ble_eq_true rfl⟩ hP hD hS [0, 1, 2, 3, 4, 5, 6, 7, 8, 9, 10, 11, 12, 13, 14, 15, 16, 17, 18, 19, 20] [] [0, 1, 2, 3, 4, 5, 6, 7, 8, 9, 10, 11, 12, 13, 14, 15, 16, 17, 18, 19, 20] jn_L__C (by decide) jn_L__R (by decide) (by decide) (by decide) jn_L__W rfl rfl rfl hl rfl rfl (Nat.le_of_ble_eq_true rfl) ⟨by show (kc + r1.2.2.1) + _ ≤ K; omega, by show (ks + r1.2.2.2) + _ ≤ N; omega⟩ d_L_upper_7 (fun ek H locs q q9 ce hv hP hD hS h1 h2 h3 => ?_) (fun r2v H locs q hv hP hD hS => ?_)
    · rw [hv] at h
      cases h
      exact tx_out C0 hT hP hD hS h1 h2 h3 (by omega) (by omega)
    · rw [hv] at h
      try dsimp only at h
      have hkc : ((kc + r1.2.2.1) + r2.2.2.1) + mc = K := by omega
      have hks : ((ks + r1.2.2.2) + r2.2.2.2) + ms = N := by omega
      have hcs : ((kc + r1.2.2.1) + r2.2.2.1) ≤ K ∧ ((ks + r1.2.2.2) + r2.2.2.2) ≤ N := ⟨by omega, by omega⟩
      refine lv_aload_n hx hb d_L_upper_10 rfl (lv_at hl 0 rfl) ?_
      refine lv_aload_n hx hb d_L_upper_11 rfl (lv_at hl 0 rfl) ?_
      refine lv_iload_n hx hb d_L_upper_12 rfl (lv_at hl 1 rfl) ?_
      refine lv_iload_n hx hb d_L_upper_13 rfl (lv_at hl 2 rfl) ?_
      refine lv_aload_n hx hb d_L_upper_14 rfl (lv_at hl 0 rfl) ?_
      refine va_get (ci := 0) (v := .int (L_depth r2.2.1)) (C := R_L) (T := F_L) (N := 6) hx hb hts i_L hown hK.1 hP 0 rfl rfl 0 (by decide) (hts _ wd_278) (fun _ h9 => h9) rfl d_L_upper_15 ?_
      replace h := bd h
      obtain ⟨r3, g3, h⟩ := h
      try dsimp only at h
      replace h := ad_s h
      obtain ⟨mc, ms, h, rfl, rfl⟩ := h
      refine tx_V (n := 3) (ci := 0) (As := [.int x1, .int x2, .int (L_depth r2.2.1)]) (rest := [.ref (a 0)]) (Wn := fun q => (wL cI cZ a q r3.2.1)) C0 hA hZ (c_L_upperBound (n := 3) l D cI cZ a hl0 q r2.2.1 x1 x2 (L_depth r2.2.1) g3) wd_241 ⟨wd_242, wd_243, wd_244, wd_55⟩ (by decide +kernel) ⟨Nat.le_of_ble_eq_true rfl, Nat.le_of_ble_eq_true rfl⟩ hP hD hS [0, 1, 2, 3, 4, 5, 6, 7, 8, 9, 10, 11, 12, 13, 14, 15, 16, 17, 18, 19, 20] [] [0, 1, 2, 3, 4, 5, 6, 7, 8, 9, 10, 11, 12, 13, 14, 15, 16, 17, 18, 19, 20] jn_L__C (by decide) jn_L__R (by decide) (by decide) (by decide) jn_L__W rfl rfl rfl hl rfl rfl (Nat.le_of_ble_eq_true rfl) ⟨by show ((kc + r1.2.2.1) + r2.2.2.1) + _ ≤ K; omega, by show ((ks + r1.2.2.2) + r2.2.2.2) + _ ≤ N; omega⟩ d_L_upper_18 (fun ek H locs q q9 ce hv hP hD hS h1 h2 h3 => ?_) (fun r3v H locs q hv hP hD hS => ?_)
      · rw [hv] at h
        cases h
        exact tx_out C0 hT hP hD hS h1 h2 h3 (by omega) (by omega)
      · rw [hv] at h
        try dsimp only at h
        have hkc : (((kc + r1.2.2.1) + r2.2.2.1) + r3.2.2.1) + mc = K := by omega
        have hks : (((ks + r1.2.2.2) + r2.2.2.2) + r3.2.2.2) + ms = N := by omega
        have hcs : (((kc + r1.2.2.1) + r2.2.2.1) + r3.2.2.1) ≤ K ∧ (((ks + r1.2.2.2) + r2.2.2.2) + r3.2.2.2) ≤ N := ⟨by omega, by omega⟩
        replace h := bd h
        obtain ⟨r4, g4, h⟩ := h
        try dsimp only at h
        replace h := ad_s h
        obtain ⟨mc, ms, h, rfl, rfl⟩ := h
        refine tx_V (n := 1) (ci := 0) (As := [.int r3v]) (rest := []) (Wn := fun q => (wL cI cZ a q r4.2.1)) C0 hA hZ (c_L_settled l D cI cZ a hl0 q r3.2.1 r3v g4) wd_179 ⟨wd_180, wd_181, wd_182, wd_55⟩ (by decide +kernel) ⟨Nat.le_of_ble_eq_true rfl, Nat.le_of_ble_eq_true rfl⟩ hP hD hS [0, 1, 2, 3, 4, 5, 6, 7, 8, 9, 10, 11, 12, 13, 14, 15, 16, 17, 18, 19, 20] [] [0, 1, 2, 3, 4, 5, 6, 7, 8, 9, 10, 11, 12, 13, 14, 15, 16, 17, 18, 19, 20] jn_L__C (by decide) jn_L__R (by decide) (by decide) (by decide) jn_L__W rfl rfl rfl hl rfl rfl (Nat.le_of_ble_eq_true rfl) ⟨by show (((kc + r1.2.2.1) + r2.2.2.1) + r3.2.2.1) + _ ≤ K; omega, by show (((ks + r1.2.2.2) + r2.2.2.2) + r3.2.2.2) + _ ≤ N; omega⟩ d_L_upper_21 (fun ek H locs q q9 ce hv hP hD hS h1 h2 h3 => ?_) (fun r4v H locs q hv hP hD hS => ?_)
        · rw [hv] at h
          cases h
          exact tx_out C0 hT hP hD hS h1 h2 h3 (by omega) (by omega)
        · rw [hv] at h
          try dsimp only at h
          have hkc : ((((kc + r1.2.2.1) + r2.2.2.1) + r3.2.2.1) + r4.2.2.1) + mc = K := by omega
          have hks : ((((ks + r1.2.2.2) + r2.2.2.2) + r3.2.2.2) + r4.2.2.2) + ms = N := by omega
          have hcs : ((((kc + r1.2.2.1) + r2.2.2.1) + r3.2.2.1) + r4.2.2.1) ≤ K ∧ ((((ks + r1.2.2.2) + r2.2.2.2) + r3.2.2.2) + r4.2.2.2) ≤ N := ⟨by omega, by omega⟩
          cases h; exact tx_ret C0 hP hD hS (by omega) (by omega) d_L_upper_24
set_option maxHeartbeats 4000000 in
set_option maxRecDepth 100000 in
theorem c_L_upper (l : Launch) (D : va_G) (cI cZ : ClassId) (a : Nat → Nat) (hl0 : l.stackTraces = false) (q : Nat) (σ : StL) (x1 : Int32) (x2 : Int32) {res : (Int32 ⊕ Nat) × StL × Nat × Nat} (h : f_L_upper σ x1 x2 = some res) : TxM l y_L_upper b_L_upper 3 (some .int) 15 400 D [(cI, .int), (cZ, .boolean)] [.ref (a 0), .int x1, .int x2] (fun q (σ : StL) => (wL cI cZ a q σ)) q σ res :=
  tx_of (by decide) (Nat.le_of_ble_eq_true rfl) (fun p e s m args below meth c ls A C0 hA hT hZ hP hD hS hl => t_L_upper_0 (a := a) (kc := 0) (ks := 0) C0 hA hT hl0 hZ h (Nat.zero_add _) (Nat.zero_add _) hP hD hS (lv_sub hl [0, 1, 2] rfl))
-- part 07.5L.17L_liesBelowParts.lean.txt
def f_L_liesBelowParts_13_s (rec : StL → Int32 → Int32 → Int32 → Option (Int32 × StL)) (k13 : StL → Int32 → Int32 → Int32 → Int32 → Int32 → Option (Int32 × StL)) (σ : StL) (x1 x2 x3 x4 x5 : Int32) : Option (Int32 × StL) :=
  if x4 ≤ x5 then
    some (1, σ)
  else
    (f_T_partOf (L_types σ) x2 x5).bind fun r2 =>
    (rec σ x1 r2 x3).bind fun r3 =>
    if r3.1 = 0 then
      some (0, r3.2)
    else
      k13 r3.2 x1 x2 x3 x4 (x5 + 1)
def f_L_liesBelowParts_13 (rec : StL → Int32 → Int32 → Int32 → Option (Int32 × StL)) : Nat → StL → Int32 → Int32 → Int32 → Int32 → Int32 → Option (Int32 × StL)
  | 0, _, _, _, _, _, _ => none
  | n + 1, σ, x1, x2, x3, x4, x5 => f_L_liesBelowParts_13_s rec (f_L_liesBelowParts_13 rec n) σ x1 x2 x3 x4 x5
def f_L_liesBelowParts (rec : StL → Int32 → Int32 → Int32 → Option (Int32 × StL)) (σ : StL) (x1 x2 x3 : Int32) : Option (Int32 × StL) :=
  (f_T_countParts (L_types σ) x2).bind fun r1 =>
  f_L_liesBelowParts_13 rec 1000 σ x1 x2 x3 r1 0
set_option maxHeartbeats 4000000 in
set_option maxRecDepth 100000 in
theorem t_L_liesBelowParts_13_s {p : Program} {l : Launch} {e : Env} {s : State} {m : MethodId} {args : Array Value} {below : List Frame} {meth : Method} {c : Code} {D : va_G} {cI cZ : ClassId} {a : Nat → Nat} {A : Nat → Prop} (C0 : Am p s m args meth c b_L_liesBelowParts (some .boolean) 6 R_L D [(cI, .int), (cZ, .boolean)]) (hA : ∀ q, s.heap.size ≤ q → A q) {res : Int32 × StL} {rec : StL → Int32 → Int32 → Int32 → Option (Int32 × StL)} {fr0 lc0 : Nat} (hfr : 4 ≤ fr0) (hlc : 98 ≤ lc0) (hrec : ∀ (q : Nat) (σ : StL) (z0 z1 z2 : Int32) (r : Int32 × StL), rec σ z0 z1 z2 = some r → RwM l y_L_liesBelow b_L_liesBelow 6 (some .boolean) fr0 lc0 D [(cI, .int), (cZ, .boolean)] [.ref (a 0), .int z0, .int z1, .int z2] (fun q (σ : StL) => wL cI cZ a q σ) q σ r) {k13 : StL → Int32 → Int32 → Int32 → Int32 → Int32 → Option (Int32 × StL)}  (hk13 : ∀ (q : Nat) (σ : StL) (x1 x2 x3 x4 x5 : Int32) (H : Heap) (locs : List Loc) (ls : Array Slot), k13 σ x1 x2 x3 x4 x5 = some res → va_P D vwCl (wL cI cZ a q σ) H → va_D A (wL cI cZ a q σ) → va_S A s.heap H locs → lv_has ls 6 [(0, .ref (a 0)), (1, .int x1), (2, .int x2), (3, .int x3), (4, .int x4), (5, .int x5)] → W p l e (rmK (fr0 + 1) (lc0 + 25) 0 0) s m args below meth c H locs 0 0 (RwQ below args s D A (fun q (σ : StL) => (wL cI cZ a q σ)) res 0 0) (F0 m 13 ls [])) {q : Nat} {σ : StL} {x1 x2 x3 x4 x5 : Int32} (h : f_L_liesBelowParts_13_s rec k13 σ x1 x2 x3 x4 x5 = some res) {H : Heap} {locs : List Loc} (hP : va_P D vwCl (wL cI cZ a q σ) H) (hD : va_D A (wL cI cZ a q σ)) (hS : va_S A s.heap H locs) {ls : Array Slot} (hl : lv_has ls 6 [(0, .ref (a 0)), (1, .int x1), (2, .int x2), (3, .int x3), (4, .int x4), (5, .int x5)]) : W p l e (rmK (fr0 + 1) (lc0 + 25) 0 0) s m args below meth c H locs 0 0 (RwQ below args s D A (fun q (σ : StL) => (wL cI cZ a q σ)) res 0 0) (F0 m 13 ls []) := by
  obtain ⟨hx, hb, hr, hml, hown, hts, hlk, hK⟩ := id C0
  unfold f_L_liesBelowParts_13_s at h
  refine lv_iload hx hb d_L_liesBelowParts_13 (lv_at hl 5 rfl) ?_
  refine lv_iload hx hb d_L_liesBelowParts_15 (lv_at hl 4 rfl) ?_
  refine lv_icmp_ge (tgt := 47) hx hb d_L_liesBelowParts_17 (by decide) (fun hc => ?_) (fun hc => ?_)
  · rw [if_pos hc] at h
    refine lv_iconst (v := 1) hx hb d_L_liesBelowParts_47 (by decide) ?_
    exact rw_retz C0 hP hD hS (by decide) (Option.some.inj h) d_L_liesBelowParts_48
  · rw [if_neg hc] at h
    refine lv_aload_n hx hb d_L_liesBelowParts_20 rfl (lv_at hl 0 rfl) ?_
    refine lv_iload_n hx hb d_L_liesBelowParts_21 rfl (lv_at hl 1 rfl) ?_
    refine lv_aload_n hx hb d_L_liesBelowParts_22 rfl (lv_at hl 0 rfl) ?_
    refine va_get (ci := 0) (v := .ref (a 10)) (C := R_L) (T := F_L) (N := 6) hx hb hts i_L hown hK.1 hP 0 rfl rfl 2 (by decide) (hts _ wd_85) (fun _ h9 => h9) rfl d_L_liesBelowParts_23 ?_
    refine lv_iload_n hx hb d_L_liesBelowParts_26 rfl (lv_at hl 2 rfl) ?_
    refine lv_iload hx hb d_L_liesBelowParts_27 (lv_at hl 5 rfl) ?_
    replace h := bd h
    obtain ⟨r2, g2, h⟩ := h
    refine ro_V (n := 2) (ci := 2) (As := [.int x2, .int x5]) (rest := [.int x1, .ref (a 0)]) C0 (c_T_partOf l D cI cZ a q (L_types σ) x2 x5 g2) wd_204 ⟨wd_205, wd_206, wd_207, wd_52⟩ (by decide +kernel) ⟨by show 1 + 1 ≤ fr0 + 1; omega, by show 8 + (4 + 11) + 21 ≤ lc0 + 25; omega⟩ (hP.pick [10, 11, 12, 13, 14, 15, 16, 17, 18] rfl) rfl rfl rfl hl rfl rfl (Nat.le_of_ble_eq_true rfl) ⟨Nat.zero_le _, Nat.zero_le _⟩ d_L_liesBelowParts_29 ?_
    try dsimp only at h
    refine lv_iload_n hx hb d_L_liesBelowParts_32 rfl (lv_at hl 3 rfl) ?_
    replace h := bd h
    obtain ⟨r3, g3, h⟩ := h
    refine rw_V (n := 3) (ci := 0) (As := [.int x1, .int r2, .int x3]) (rest := []) (Wn := fun q => (wL cI cZ a q r3.2)) C0 hA (hrec q σ x1 r2 x3 _ g3) wd_282 ⟨wd_283, wd_284, wd_285, wd_55⟩ (by decide +kernel) ⟨by show fr0 + 1 ≤ fr0 + 1; omega, by show 8 + (6 + 11) + (lc0) ≤ lc0 + 25; omega⟩ hP hD hS [0, 1, 2, 3, 4, 5, 6, 7, 8, 9, 10, 11, 12, 13, 14, 15, 16, 17, 18, 19, 20] [] [0, 1, 2, 3, 4, 5, 6, 7, 8, 9, 10, 11, 12, 13, 14, 15, 16, 17, 18, 19, 20] jn_L__C (by decide) jn_L__R (by decide) (by decide) (by decide) jn_L__W rfl rfl rfl hl rfl rfl (Nat.le_of_ble_eq_true rfl) ⟨Nat.zero_le _, Nat.zero_le _⟩ d_L_liesBelowParts_33 (fun H locs q hP hD hS => ?_)
    try dsimp only at h
    refine lv_if_ne (tgt := 41) hx hb d_L_liesBelowParts_36 (by decide) (fun hc => ?_) (fun hc => ?_)
    · rw [if_neg hc] at h
      refine lv_iinc (v := (x5 + 1)) (lv' := [(5, .int (x5 + 1)), (0, .ref (a 0)), (1, .int x1), (2, .int x2), (3, .int x3), (4, .int x4)]) hx hb d_L_liesBelowParts_41 hl (k := 5) rfl rfl (by decide) rfl (fun ls hl => ?_)
      refine lv_goto (tgt := 13) hx hb d_L_liesBelowParts_44 (by decide) ?_
      exact hk13 _ _ _ _ _ _ _ _ _ _ h hP hD hS (lv_sub hl [1, 2, 3, 4, 5, 0] rfl)
    · rw [if_pos hc] at h
      refine lv_iconst (v := 0) hx hb d_L_liesBelowParts_39 (by decide) ?_
      exact rw_retz C0 hP hD hS (by decide) (Option.some.inj h) d_L_liesBelowParts_40
set_option maxHeartbeats 4000000 in
set_option maxRecDepth 100000 in
theorem t_L_liesBelowParts_13 {p : Program} {l : Launch} {e : Env} {s : State} {m : MethodId} {args : Array Value} {below : List Frame} {meth : Method} {c : Code} {D : va_G} {cI cZ : ClassId} {a : Nat → Nat} {A : Nat → Prop} (C0 : Am p s m args meth c b_L_liesBelowParts (some .boolean) 6 R_L D [(cI, .int), (cZ, .boolean)]) (hA : ∀ q, s.heap.size ≤ q → A q) {res : Int32 × StL} {rec : StL → Int32 → Int32 → Int32 → Option (Int32 × StL)} {fr0 lc0 : Nat} (hfr : 4 ≤ fr0) (hlc : 98 ≤ lc0) (hrec : ∀ (q : Nat) (σ : StL) (z0 z1 z2 : Int32) (r : Int32 × StL), rec σ z0 z1 z2 = some r → RwM l y_L_liesBelow b_L_liesBelow 6 (some .boolean) fr0 lc0 D [(cI, .int), (cZ, .boolean)] [.ref (a 0), .int z0, .int z1, .int z2] (fun q (σ : StL) => wL cI cZ a q σ) q σ r)  {n : Nat} {q : Nat} {σ : StL} {x1 x2 x3 x4 x5 : Int32} (h : f_L_liesBelowParts_13 rec n σ x1 x2 x3 x4 x5 = some res) {H : Heap} {locs : List Loc} (hP : va_P D vwCl (wL cI cZ a q σ) H) (hD : va_D A (wL cI cZ a q σ)) (hS : va_S A s.heap H locs) {ls : Array Slot} (hl : lv_has ls 6 [(0, .ref (a 0)), (1, .int x1), (2, .int x2), (3, .int x3), (4, .int x4), (5, .int x5)]) : W p l e (rmK (fr0 + 1) (lc0 + 25) 0 0) s m args below meth c H locs 0 0 (RwQ below args s D A (fun q (σ : StL) => (wL cI cZ a q σ)) res 0 0) (F0 m 13 ls []) := by
  induction n generalizing q σ x1 x2 x3 x4 x5 H locs ls with
  | zero => cases h
  | succ n ih => exact t_L_liesBelowParts_13_s (a := a) C0 hA hfr hlc hrec  (fun _ _ _ _ _ _ _ _ _ _ h hP hD hS hl => ih h hP hD hS hl) h hP hD hS hl
set_option maxHeartbeats 4000000 in
set_option maxRecDepth 100000 in
theorem t_L_liesBelowParts_0 {p : Program} {l : Launch} {e : Env} {s : State} {m : MethodId} {args : Array Value} {below : List Frame} {meth : Method} {c : Code} {D : va_G} {cI cZ : ClassId} {a : Nat → Nat} {A : Nat → Prop} (C0 : Am p s m args meth c b_L_liesBelowParts (some .boolean) 6 R_L D [(cI, .int), (cZ, .boolean)]) (hA : ∀ q, s.heap.size ≤ q → A q) {res : Int32 × StL} {rec : StL → Int32 → Int32 → Int32 → Option (Int32 × StL)} {fr0 lc0 : Nat} (hfr : 4 ≤ fr0) (hlc : 98 ≤ lc0) (hrec : ∀ (q : Nat) (σ : StL) (z0 z1 z2 : Int32) (r : Int32 × StL), rec σ z0 z1 z2 = some r → RwM l y_L_liesBelow b_L_liesBelow 6 (some .boolean) fr0 lc0 D [(cI, .int), (cZ, .boolean)] [.ref (a 0), .int z0, .int z1, .int z2] (fun q (σ : StL) => wL cI cZ a q σ) q σ r)   {q : Nat} {σ : StL} {x1 x2 x3 : Int32} (h : f_L_liesBelowParts rec σ x1 x2 x3 = some res) {H : Heap} {locs : List Loc} (hP : va_P D vwCl (wL cI cZ a q σ) H) (hD : va_D A (wL cI cZ a q σ)) (hS : va_S A s.heap H locs) {ls : Array Slot} (hl : lv_has ls 6 [(0, .ref (a 0)), (1, .int x1), (2, .int x2), (3, .int x3)]) : W p l e (rmK (fr0 + 1) (lc0 + 25) 0 0) s m args below meth c H locs 0 0 (RwQ below args s D A (fun q (σ : StL) => (wL cI cZ a q σ)) res 0 0) (F0 m 0 ls []) := by
  obtain ⟨hx, hb, hr, hml, hown, hts, hlk, hK⟩ := id C0
  unfold f_L_liesBelowParts at h
  refine lv_aload_n hx hb d_L_liesBelowParts_0 rfl (lv_at hl 0 rfl) ?_
  refine va_get (ci := 0) (v := .ref (a 10)) (C := R_L) (T := F_L) (N := 6) hx hb hts i_L hown hK.1 hP 0 rfl rfl 2 (by decide) (hts _ wd_85) (fun _ h9 => h9) rfl d_L_liesBelowParts_1 ?_
  refine lv_iload_n hx hb d_L_liesBelowParts_4 rfl (lv_at hl 2 rfl) ?_
  replace h := bd h
  obtain ⟨r1, g1, h⟩ := h
  refine ro_V (n := 1) (ci := 2) (As := [.int x2]) (rest := []) C0 (c_T_countParts l D cI cZ a q (L_types σ) x2 g1) wd_200 ⟨wd_201, wd_202, wd_203, wd_52⟩ (by decide +kernel) ⟨by show 1 + 1 ≤ fr0 + 1; omega, by show 8 + (2 + 11) + 21 ≤ lc0 + 25; omega⟩ (hP.pick [10, 11, 12, 13, 14, 15, 16, 17, 18] rfl) rfl rfl rfl hl rfl rfl (Nat.le_of_ble_eq_true rfl) ⟨Nat.zero_le _, Nat.zero_le _⟩ d_L_liesBelowParts_5 ?_
  try dsimp only at h
  refine lv_istore (lv' := [(4, .int r1), (0, .ref (a 0)), (1, .int x1), (2, .int x2), (3, .int x3)]) hx hb d_L_liesBelowParts_8 hl (by decide) rfl (fun ls hl => ?_)
  refine lv_iconst (v := 0) hx hb d_L_liesBelowParts_10 (by decide) ?_
  refine lv_istore (lv' := [(5, .int 0), (4, .int r1), (0, .ref (a 0)), (1, .int x1), (2, .int x2), (3, .int x3)]) hx hb d_L_liesBelowParts_11 hl (by decide) rfl (fun ls hl => ?_)
  exact t_L_liesBelowParts_13 (a := a) C0 hA hfr hlc hrec  h hP hD hS (lv_sub hl [2, 3, 4, 5, 1, 0] rfl)
set_option maxHeartbeats 4000000 in
set_option maxRecDepth 100000 in
theorem c_L_liesBelowParts {l : Launch} {D : va_G} {cI cZ : ClassId} {a : Nat → Nat} {rec : StL → Int32 → Int32 → Int32 → Option (Int32 × StL)} {fr0 lc0 : Nat} (hfr : 4 ≤ fr0) (hlc : 98 ≤ lc0) (hrec : ∀ (q : Nat) (σ : StL) (z0 z1 z2 : Int32) (r : Int32 × StL), rec σ z0 z1 z2 = some r → RwM l y_L_liesBelow b_L_liesBelow 6 (some .boolean) fr0 lc0 D [(cI, .int), (cZ, .boolean)] [.ref (a 0), .int z0, .int z1, .int z2] (fun q (σ : StL) => wL cI cZ a q σ) q σ r) (q : Nat) (σ : StL) (x1 : Int32) (x2 : Int32) (x3 : Int32) {res : Int32 × StL} (h : f_L_liesBelowParts rec σ x1 x2 x3 = some res) : RwM l y_L_liesBelowParts b_L_liesBelowParts 6 (some .boolean) (fr0 + 1) (lc0 + 25) D [(cI, .int), (cZ, .boolean)] [.ref (a 0), .int x1, .int x2, .int x3] (fun q (σ : StL) => (wL cI cZ a q σ)) q σ res :=
  rw_of (by decide) (Nat.le_of_ble_eq_true rfl) (fun p e s m args below meth c ls A C0 hA hP hD hS hl => t_L_liesBelowParts_0 (a := a) C0 hA hfr hlc hrec h hP hD hS (lv_sub hl [0, 1, 2, 3] rfl))
-- part 07.5L.18L_hasFittingPart.lean.txt
def f_L_hasFittingPart_63 (rec : StL → Int32 → Int32 → Int32 → Option (Int32 × StL)) (k30 : StL → Int32 → Int32 → Int32 → Int32 → Int32 → Int32 → Option (Int32 × StL)) (σ : StL) (x1 x3 x4 x5 x6 x7 t1 : Int32) : Option (Int32 × StL) :=
  (f_L_find σ t1 x4).bind fun r6 =>
  if r6 = (-1) then
    k30 σ x1 x3 x4 x5 x6 (x7 + 1)
  else
    if r6 = x5 then
      some (1, σ)
    else
      if (f_L_howOf x5) = 2 then
        (rec σ (f_L_typeOf r6) (f_L_typeOf x5) x3).bind fun r7 =>
        if r7.1 = 0 then
          k30 r7.2 x1 x3 x4 x5 x6 (x7 + 1)
        else
          some (1, r7.2)
      else
        k30 σ x1 x3 x4 x5 x6 (x7 + 1)
def f_L_hasFittingPart_30_s (rec : StL → Int32 → Int32 → Int32 → Option (Int32 × StL)) (k30 : StL → Int32 → Int32 → Int32 → Int32 → Int32 → Int32 → Option (Int32 × StL)) (σ : StL) (x1 x3 x4 x5 x6 x7 : Int32) : Option (Int32 × StL) :=
  if x6 ≤ x7 then
    some (0, σ)
  else
    (f_T_countParts (L_types σ) x1).bind fun r4 =>
    if r4 = 0 then
      f_L_hasFittingPart_63 rec k30 σ x1 x3 x4 x5 x6 x7 x1
    else
      (f_T_partOf (L_types σ) x1 x7).bind fun r5 =>
      f_L_hasFittingPart_63 rec k30 σ x1 x3 x4 x5 x6 x7 r5
def f_L_hasFittingPart_30 (rec : StL → Int32 → Int32 → Int32 → Option (Int32 × StL)) : Nat → StL → Int32 → Int32 → Int32 → Int32 → Int32 → Int32 → Option (Int32 × StL)
  | 0, _, _, _, _, _, _, _ => none
  | n + 1, σ, x1, x3, x4, x5, x6, x7 => f_L_hasFittingPart_30_s rec (f_L_hasFittingPart_30 rec n) σ x1 x3 x4 x5 x6 x7
def f_L_hasFittingPart (rec : StL → Int32 → Int32 → Int32 → Option (Int32 × StL)) (σ : StL) (x1 x2 x3 : Int32) : Option (Int32 × StL) :=
  (f_T_classOf (L_types σ) x2).bind fun r1 =>
  (f_T_argumentAt (L_types σ) x2).bind fun r2 =>
  (f_L_countHolders σ x1).bind fun r3 =>
  f_L_hasFittingPart_30 rec 1000 σ x1 x3 r1 r2 r3 0
set_option maxHeartbeats 4000000 in
set_option maxRecDepth 100000 in
theorem t_L_hasFittingPart_63 {p : Program} {l : Launch} {e : Env} {s : State} {m : MethodId} {args : Array Value} {below : List Frame} {meth : Method} {c : Code} {D : va_G} {cI cZ : ClassId} {a : Nat → Nat} {A : Nat → Prop} (C0 : Am p s m args meth c b_L_hasFittingPart (some .boolean) 9 R_L D [(cI, .int), (cZ, .boolean)]) (hA : ∀ q, s.heap.size ≤ q → A q) {res : Int32 × StL} {rec : StL → Int32 → Int32 → Int32 → Option (Int32 × StL)} {fr0 lc0 : Nat} (hfr : 4 ≤ fr0) (hlc : 98 ≤ lc0) (hrec : ∀ (q : Nat) (σ : StL) (z0 z1 z2 : Int32) (r : Int32 × StL), rec σ z0 z1 z2 = some r → RwM l y_L_liesBelow b_L_liesBelow 6 (some .boolean) fr0 lc0 D [(cI, .int), (cZ, .boolean)] [.ref (a 0), .int z0, .int z1, .int z2] (fun q (σ : StL) => wL cI cZ a q σ) q σ r) {k30 : StL → Int32 → Int32 → Int32 → Int32 → Int32 → Int32 → Option (Int32 × StL)} (hk30 : ∀ (q : Nat) (σ : StL) (x1 x3 x4 x5 x6 x7 : Int32) (H : Heap) (locs : List Loc) (ls : Array Slot), k30 σ x1 x3 x4 x5 x6 x7 = some res → va_P D vwCl (wL cI cZ a q σ) H → va_D A (wL cI cZ a q σ) → va_S A s.heap H locs → lv_has ls 9 [(0, .ref (a 0)), (1, .int x1), (3, .int x3), (4, .int x4), (5, .int x5), (6, .int x6), (7, .int x7)] → W p l e (rmK (fr0 + 1) (lc0 + 25) 0 0) s m args below meth c H locs 0 0 (RwQ below args s D A (fun q (σ : StL) => (wL cI cZ a q σ)) res 0 0) (F0 m 30 ls []))  {q : Nat} {σ : StL} {x1 x3 x4 x5 x6 x7 t1 : Int32} (h : f_L_hasFittingPart_63 rec k30 σ x1 x3 x4 x5 x6 x7 t1 = some res) {H : Heap} {locs : List Loc} (hP : va_P D vwCl (wL cI cZ a q σ) H) (hD : va_D A (wL cI cZ a q σ)) (hS : va_S A s.heap H locs) {ls : Array Slot} (hl : lv_has ls 9 [(0, .ref (a 0)), (1, .int x1), (3, .int x3), (4, .int x4), (5, .int x5), (6, .int x6), (7, .int x7)]) : W p l e (rmK (fr0 + 1) (lc0 + 25) 0 0) s m args below meth c H locs 0 0 (RwQ below args s D A (fun q (σ : StL) => (wL cI cZ a q σ)) res 0 0) (F0 m 63 ls [.int t1, .ref (a 0)]) := by
  obtain ⟨hx, hb, hr, hml, hown, hts, hlk, hK⟩ := id C0
  unfold f_L_hasFittingPart_63 at h
  refine lv_iload hx hb d_L_hasFittingPart_63 (lv_at hl 3 rfl) ?_
  replace h := bd h
  obtain ⟨r6, g6, h⟩ := h
  refine ro_V (n := 2) (ci := 0) (As := [.int t1, .int x4]) (rest := []) C0 (c_L_find l D cI cZ a q σ t1 x4 g6) wd_262 ⟨wd_263, wd_264, wd_265, wd_55⟩ (by decide +kernel) ⟨by show 3 + 1 ≤ fr0 + 1; omega, by show 8 + (7 + 11) + 72 ≤ lc0 + 25; omega⟩ hP rfl rfl rfl hl rfl rfl (Nat.le_of_ble_eq_true rfl) ⟨Nat.zero_le _, Nat.zero_le _⟩ d_L_hasFittingPart_65 ?_
  try dsimp only at h
  refine lv_istore (lv' := [(8, .int r6), (0, .ref (a 0)), (1, .int x1), (3, .int x3), (4, .int x4), (5, .int x5), (6, .int x6), (7, .int x7)]) hx hb d_L_hasFittingPart_68 hl (by decide) rfl (fun ls hl => ?_)
  refine lv_iload hx hb d_L_hasFittingPart_70 (lv_at hl 0 rfl) ?_
  refine lv_iconst (v := (-1)) hx hb d_L_hasFittingPart_72 (by decide) ?_
  refine lv_icmp_ne (tgt := 79) hx hb d_L_hasFittingPart_73 (by decide) (fun hc => ?_) (fun hc => ?_)
  · rw [if_neg hc] at h
    refine lv_iload hx hb d_L_hasFittingPart_79 (lv_at hl 0 rfl) ?_
    refine lv_iload hx hb d_L_hasFittingPart_81 (lv_at hl 5 rfl) ?_
    refine lv_icmp_eq (tgt := 113) hx hb d_L_hasFittingPart_83 (by decide) (fun hc => ?_) (fun hc => ?_)
    · rw [if_pos hc] at h
      refine lv_iconst (v := 1) hx hb d_L_hasFittingPart_113 (by decide) ?_
      exact rw_retz C0 hP hD hS (by decide) (Option.some.inj h) d_L_hasFittingPart_114
    · rw [if_neg hc] at h
      refine lv_iload hx hb d_L_hasFittingPart_86 (lv_at hl 5 rfl) ?_
      refine ro_S (n := 1) (As := [.int x5]) (rest := []) C0 (c_L_howOf l D cI cZ a x5 rfl) wd_245 ⟨wd_246, wd_247, wd_55⟩ (by decide +kernel) ⟨by show 0 + 1 ≤ fr0 + 1; omega, by show 8 + (1 + 11) + 0 ≤ lc0 + 25; omega⟩ pnil hl rfl rfl (Nat.le_of_ble_eq_true rfl) ⟨Nat.zero_le _, Nat.zero_le _⟩ d_L_hasFittingPart_88 ?_
      refine lv_iconst (v := 2) hx hb d_L_hasFittingPart_91 (by decide) ?_
      refine lv_icmp_ne (tgt := 115) hx hb d_L_hasFittingPart_92 (by decide) (fun hc => ?_) (fun hc => ?_)
      · rw [if_neg hc] at h
        refine lv_iinc (v := (x7 + 1)) (lv' := [(7, .int (x7 + 1)), (8, .int r6), (0, .ref (a 0)), (1, .int x1), (3, .int x3), (4, .int x4), (5, .int x5), (6, .int x6)]) hx hb d_L_hasFittingPart_115 hl (k := 7) rfl rfl (by decide) rfl (fun ls hl => ?_)
        refine lv_goto (tgt := 30) hx hb d_L_hasFittingPart_118 (by decide) ?_
        exact hk30 _ _ _ _ _ _ _ _ _ _ _ h hP hD hS (lv_sub hl [2, 3, 4, 5, 6, 7, 0] rfl)
      · rw [if_pos hc] at h
        refine lv_aload_n hx hb d_L_hasFittingPart_95 rfl (lv_at hl 1 rfl) ?_
        refine lv_iload hx hb d_L_hasFittingPart_96 (lv_at hl 0 rfl) ?_
        refine ro_S (n := 1) (As := [.int r6]) (rest := [.ref (a 0)]) C0 (c_L_typeOf l D cI cZ a r6 rfl) wd_240 ⟨wd_53, wd_54, wd_55⟩ (by decide +kernel) ⟨by show 0 + 1 ≤ fr0 + 1; omega, by show 8 + (1 + 11) + 0 ≤ lc0 + 25; omega⟩ pnil hl rfl rfl (Nat.le_of_ble_eq_true rfl) ⟨Nat.zero_le _, Nat.zero_le _⟩ d_L_hasFittingPart_98 ?_
        refine lv_iload hx hb d_L_hasFittingPart_101 (lv_at hl 5 rfl) ?_
        refine ro_S (n := 1) (As := [.int x5]) (rest := [.int (f_L_typeOf r6), .ref (a 0)]) C0 (c_L_typeOf l D cI cZ a x5 rfl) wd_240 ⟨wd_53, wd_54, wd_55⟩ (by decide +kernel) ⟨by show 0 + 1 ≤ fr0 + 1; omega, by show 8 + (1 + 11) + 0 ≤ lc0 + 25; omega⟩ pnil hl rfl rfl (Nat.le_of_ble_eq_true rfl) ⟨Nat.zero_le _, Nat.zero_le _⟩ d_L_hasFittingPart_103 ?_
        refine lv_iload_n hx hb d_L_hasFittingPart_106 rfl (lv_at hl 3 rfl) ?_
        replace h := bd h
        obtain ⟨r7, g7, h⟩ := h
        refine rw_V (n := 3) (ci := 0) (As := [.int (f_L_typeOf r6), .int (f_L_typeOf x5), .int x3]) (rest := []) (Wn := fun q => (wL cI cZ a q r7.2)) C0 hA (hrec q σ (f_L_typeOf r6) (f_L_typeOf x5) x3 _ g7) wd_282 ⟨wd_283, wd_284, wd_285, wd_55⟩ (by decide +kernel) ⟨by show fr0 + 1 ≤ fr0 + 1; omega, by show 8 + (6 + 11) + (lc0) ≤ lc0 + 25; omega⟩ hP hD hS [0, 1, 2, 3, 4, 5, 6, 7, 8, 9, 10, 11, 12, 13, 14, 15, 16, 17, 18, 19, 20] [] [0, 1, 2, 3, 4, 5, 6, 7, 8, 9, 10, 11, 12, 13, 14, 15, 16, 17, 18, 19, 20] jn_L__C (by decide) jn_L__R (by decide) (by decide) (by decide) jn_L__W rfl rfl rfl hl rfl rfl (Nat.le_of_ble_eq_true rfl) ⟨Nat.zero_le _, Nat.zero_le _⟩ d_L_hasFittingPart_107 (fun H locs q hP hD hS => ?_)
        try dsimp only at h
        refine lv_if_eq (tgt := 115) hx hb d_L_hasFittingPart_110 (by decide) (fun hc => ?_) (fun hc => ?_)
        · rw [if_pos hc] at h
          refine lv_iinc (v := (x7 + 1)) (lv' := [(7, .int (x7 + 1)), (8, .int r6), (0, .ref (a 0)), (1, .int x1), (3, .int x3), (4, .int x4), (5, .int x5), (6, .int x6)]) hx hb d_L_hasFittingPart_115 hl (k := 7) rfl rfl (by decide) rfl (fun ls hl => ?_)
          refine lv_goto (tgt := 30) hx hb d_L_hasFittingPart_118 (by decide) ?_
          exact hk30 _ _ _ _ _ _ _ _ _ _ _ h hP hD hS (lv_sub hl [2, 3, 4, 5, 6, 7, 0] rfl)
        · rw [if_neg hc] at h
          refine lv_iconst (v := 1) hx hb d_L_hasFittingPart_113 (by decide) ?_
          exact rw_retz C0 hP hD hS (by decide) (Option.some.inj h) d_L_hasFittingPart_114
  · rw [if_pos hc] at h
    refine lv_goto (tgt := 115) hx hb d_L_hasFittingPart_76 (by decide) ?_
    refine lv_iinc (v := (x7 + 1)) (lv' := [(7, .int (x7 + 1)), (8, .int r6), (0, .ref (a 0)), (1, .int x1), (3, .int x3), (4, .int x4), (5, .int x5), (6, .int x6)]) hx hb d_L_hasFittingPart_115 hl (k := 7) rfl rfl (by decide) rfl (fun ls hl => ?_)
    refine lv_goto (tgt := 30) hx hb d_L_hasFittingPart_118 (by decide) ?_
    exact hk30 _ _ _ _ _ _ _ _ _ _ _ h hP hD hS (lv_sub hl [2, 3, 4, 5, 6, 7, 0] rfl)
set_option maxHeartbeats 4000000 in
set_option maxRecDepth 100000 in
theorem t_L_hasFittingPart_30_s {p : Program} {l : Launch} {e : Env} {s : State} {m : MethodId} {args : Array Value} {below : List Frame} {meth : Method} {c : Code} {D : va_G} {cI cZ : ClassId} {a : Nat → Nat} {A : Nat → Prop} (C0 : Am p s m args meth c b_L_hasFittingPart (some .boolean) 9 R_L D [(cI, .int), (cZ, .boolean)]) (hA : ∀ q, s.heap.size ≤ q → A q) {res : Int32 × StL} {rec : StL → Int32 → Int32 → Int32 → Option (Int32 × StL)} {fr0 lc0 : Nat} (hfr : 4 ≤ fr0) (hlc : 98 ≤ lc0) (hrec : ∀ (q : Nat) (σ : StL) (z0 z1 z2 : Int32) (r : Int32 × StL), rec σ z0 z1 z2 = some r → RwM l y_L_liesBelow b_L_liesBelow 6 (some .boolean) fr0 lc0 D [(cI, .int), (cZ, .boolean)] [.ref (a 0), .int z0, .int z1, .int z2] (fun q (σ : StL) => wL cI cZ a q σ) q σ r) {k30 : StL → Int32 → Int32 → Int32 → Int32 → Int32 → Int32 → Option (Int32 × StL)}  (hk30 : ∀ (q : Nat) (σ : StL) (x1 x3 x4 x5 x6 x7 : Int32) (H : Heap) (locs : List Loc) (ls : Array Slot), k30 σ x1 x3 x4 x5 x6 x7 = some res → va_P D vwCl (wL cI cZ a q σ) H → va_D A (wL cI cZ a q σ) → va_S A s.heap H locs → lv_has ls 9 [(0, .ref (a 0)), (1, .int x1), (3, .int x3), (4, .int x4), (5, .int x5), (6, .int x6), (7, .int x7)] → W p l e (rmK (fr0 + 1) (lc0 + 25) 0 0) s m args below meth c H locs 0 0 (RwQ below args s D A (fun q (σ : StL) => (wL cI cZ a q σ)) res 0 0) (F0 m 30 ls [])) {q : Nat} {σ : StL} {x1 x3 x4 x5 x6 x7 : Int32} (h : f_L_hasFittingPart_30_s rec k30 σ x1 x3 x4 x5 x6 x7 = some res) {H : Heap} {locs : List Loc} (hP : va_P D vwCl (wL cI cZ a q σ) H) (hD : va_D A (wL cI cZ a q σ)) (hS : va_S A s.heap H locs) {ls : Array Slot} (hl : lv_has ls 9 [(0, .ref (a 0)), (1, .int x1), (3, .int x3), (4, .int x4), (5, .int x5), (6, .int x6), (7, .int x7)]) : W p l e (rmK (fr0 + 1) (lc0 + 25) 0 0) s m args below meth c H locs 0 0 (RwQ below args s D A (fun q (σ : StL) => (wL cI cZ a q σ)) res 0 0) (F0 m 30 ls []) := by
  obtain ⟨hx, hb, hr, hml, hown, hts, hlk, hK⟩ := id C0
  unfold f_L_hasFittingPart_30_s at h
  refine lv_iload hx hb d_L_hasFittingPart_30 (lv_at hl 6 rfl) ?_
  refine lv_iload hx hb d_L_hasFittingPart_32 (lv_at hl 5 rfl) ?_
  refine lv_icmp_ge (tgt := 121) hx hb d_L_hasFittingPart_34 (by decide) (fun hc => ?_) (fun hc => ?_)
  · rw [if_pos hc] at h
    refine lv_iconst (v := 0) hx hb d_L_hasFittingPart_121 (by decide) ?_
    exact rw_retz C0 hP hD hS (by decide) (Option.some.inj h) d_L_hasFittingPart_122
  · rw [if_neg hc] at h
    refine lv_aload_n hx hb d_L_hasFittingPart_37 rfl (lv_at hl 0 rfl) ?_
    refine lv_aload_n hx hb d_L_hasFittingPart_38 rfl (lv_at hl 0 rfl) ?_
    refine va_get (ci := 0) (v := .ref (a 10)) (C := R_L) (T := F_L) (N := 6) hx hb hts i_L hown hK.1 hP 0 rfl rfl 2 (by decide) (hts _ wd_85) (fun _ h9 => h9) rfl d_L_hasFittingPart_39 ?_
    refine lv_iload_n hx hb d_L_hasFittingPart_42 rfl (lv_at hl 1 rfl) ?_
    replace h := bd h
    obtain ⟨r4, g4, h⟩ := h
    refine ro_V (n := 1) (ci := 2) (As := [.int x1]) (rest := [.ref (a 0)]) C0 (c_T_countParts l D cI cZ a q (L_types σ) x1 g4) wd_200 ⟨wd_201, wd_202, wd_203, wd_52⟩ (by decide +kernel) ⟨by show 1 + 1 ≤ fr0 + 1; omega, by show 8 + (2 + 11) + 21 ≤ lc0 + 25; omega⟩ (hP.pick [10, 11, 12, 13, 14, 15, 16, 17, 18] rfl) rfl rfl rfl hl rfl rfl (Nat.le_of_ble_eq_true rfl) ⟨Nat.zero_le _, Nat.zero_le _⟩ d_L_hasFittingPart_43 ?_
    try dsimp only at h
    refine lv_if_ne (tgt := 53) hx hb d_L_hasFittingPart_46 (by decide) (fun hc => ?_) (fun hc => ?_)
    · rw [if_neg hc] at h
      refine lv_aload_n hx hb d_L_hasFittingPart_53 rfl (lv_at hl 0 rfl) ?_
      refine va_get (ci := 0) (v := .ref (a 10)) (C := R_L) (T := F_L) (N := 6) hx hb hts i_L hown hK.1 hP 0 rfl rfl 2 (by decide) (hts _ wd_85) (fun _ h9 => h9) rfl d_L_hasFittingPart_54 ?_
      refine lv_iload_n hx hb d_L_hasFittingPart_57 rfl (lv_at hl 1 rfl) ?_
      refine lv_iload hx hb d_L_hasFittingPart_58 (lv_at hl 6 rfl) ?_
      replace h := bd h
      obtain ⟨r5, g5, h⟩ := h
      refine ro_V (n := 2) (ci := 2) (As := [.int x1, .int x7]) (rest := [.ref (a 0)]) C0 (c_T_partOf l D cI cZ a q (L_types σ) x1 x7 g5) wd_204 ⟨wd_205, wd_206, wd_207, wd_52⟩ (by decide +kernel) ⟨by show 1 + 1 ≤ fr0 + 1; omega, by show 8 + (4 + 11) + 21 ≤ lc0 + 25; omega⟩ (hP.pick [10, 11, 12, 13, 14, 15, 16, 17, 18] rfl) rfl rfl rfl hl rfl rfl (Nat.le_of_ble_eq_true rfl) ⟨Nat.zero_le _, Nat.zero_le _⟩ d_L_hasFittingPart_60 ?_
      try dsimp only at h
      exact t_L_hasFittingPart_63 (a := a) C0 hA hfr hlc hrec hk30 h hP hD hS (lv_sub hl [0, 1, 2, 3, 4, 5, 6] rfl)
    · rw [if_pos hc] at h
      refine lv_iload_n hx hb d_L_hasFittingPart_49 rfl (lv_at hl 1 rfl) ?_
      refine lv_goto (tgt := 63) hx hb d_L_hasFittingPart_50 (by decide) ?_
      exact t_L_hasFittingPart_63 (a := a) C0 hA hfr hlc hrec hk30 h hP hD hS (lv_sub hl [0, 1, 2, 3, 4, 5, 6] rfl)
set_option maxHeartbeats 4000000 in
set_option maxRecDepth 100000 in
theorem t_L_hasFittingPart_30 {p : Program} {l : Launch} {e : Env} {s : State} {m : MethodId} {args : Array Value} {below : List Frame} {meth : Method} {c : Code} {D : va_G} {cI cZ : ClassId} {a : Nat → Nat} {A : Nat → Prop} (C0 : Am p s m args meth c b_L_hasFittingPart (some .boolean) 9 R_L D [(cI, .int), (cZ, .boolean)]) (hA : ∀ q, s.heap.size ≤ q → A q) {res : Int32 × StL} {rec : StL → Int32 → Int32 → Int32 → Option (Int32 × StL)} {fr0 lc0 : Nat} (hfr : 4 ≤ fr0) (hlc : 98 ≤ lc0) (hrec : ∀ (q : Nat) (σ : StL) (z0 z1 z2 : Int32) (r : Int32 × StL), rec σ z0 z1 z2 = some r → RwM l y_L_liesBelow b_L_liesBelow 6 (some .boolean) fr0 lc0 D [(cI, .int), (cZ, .boolean)] [.ref (a 0), .int z0, .int z1, .int z2] (fun q (σ : StL) => wL cI cZ a q σ) q σ r)  {n : Nat} {q : Nat} {σ : StL} {x1 x3 x4 x5 x6 x7 : Int32} (h : f_L_hasFittingPart_30 rec n σ x1 x3 x4 x5 x6 x7 = some res) {H : Heap} {locs : List Loc} (hP : va_P D vwCl (wL cI cZ a q σ) H) (hD : va_D A (wL cI cZ a q σ)) (hS : va_S A s.heap H locs) {ls : Array Slot} (hl : lv_has ls 9 [(0, .ref (a 0)), (1, .int x1), (3, .int x3), (4, .int x4), (5, .int x5), (6, .int x6), (7, .int x7)]) : W p l e (rmK (fr0 + 1) (lc0 + 25) 0 0) s m args below meth c H locs 0 0 (RwQ below args s D A (fun q (σ : StL) => (wL cI cZ a q σ)) res 0 0) (F0 m 30 ls []) := by
  induction n generalizing q σ x1 x3 x4 x5 x6 x7 H locs ls with
  | zero => cases h
  | succ n ih => exact t_L_hasFittingPart_30_s (a := a) C0 hA hfr hlc hrec  (fun _ _ _ _ _ _ _ _ _ _ _ h hP hD hS hl => ih h hP hD hS hl) h hP hD hS hl
set_option maxHeartbeats 4000000 in
set_option maxRecDepth 100000 in
theorem t_L_hasFittingPart_0 {p : Program} {l : Launch} {e : Env} {s : State} {m : MethodId} {args : Array Value} {below : List Frame} {meth : Method} {c : Code} {D : va_G} {cI cZ : ClassId} {a : Nat → Nat} {A : Nat → Prop} (C0 : Am p s m args meth c b_L_hasFittingPart (some .boolean) 9 R_L D [(cI, .int), (cZ, .boolean)]) (hA : ∀ q, s.heap.size ≤ q → A q) {res : Int32 × StL} {rec : StL → Int32 → Int32 → Int32 → Option (Int32 × StL)} {fr0 lc0 : Nat} (hfr : 4 ≤ fr0) (hlc : 98 ≤ lc0) (hrec : ∀ (q : Nat) (σ : StL) (z0 z1 z2 : Int32) (r : Int32 × StL), rec σ z0 z1 z2 = some r → RwM l y_L_liesBelow b_L_liesBelow 6 (some .boolean) fr0 lc0 D [(cI, .int), (cZ, .boolean)] [.ref (a 0), .int z0, .int z1, .int z2] (fun q (σ : StL) => wL cI cZ a q σ) q σ r)   {q : Nat} {σ : StL} {x1 x2 x3 : Int32} (h : f_L_hasFittingPart rec σ x1 x2 x3 = some res) {H : Heap} {locs : List Loc} (hP : va_P D vwCl (wL cI cZ a q σ) H) (hD : va_D A (wL cI cZ a q σ)) (hS : va_S A s.heap H locs) {ls : Array Slot} (hl : lv_has ls 9 [(0, .ref (a 0)), (1, .int x1), (2, .int x2), (3, .int x3)]) : W p l e (rmK (fr0 + 1) (lc0 + 25) 0 0) s m args below meth c H locs 0 0 (RwQ below args s D A (fun q (σ : StL) => (wL cI cZ a q σ)) res 0 0) (F0 m 0 ls []) := by
  obtain ⟨hx, hb, hr, hml, hown, hts, hlk, hK⟩ := id C0
  unfold f_L_hasFittingPart at h
  refine lv_aload_n hx hb d_L_hasFittingPart_0 rfl (lv_at hl 0 rfl) ?_
  refine va_get (ci := 0) (v := .ref (a 10)) (C := R_L) (T := F_L) (N := 6) hx hb hts i_L hown hK.1 hP 0 rfl rfl 2 (by decide) (hts _ wd_85) (fun _ h9 => h9) rfl d_L_hasFittingPart_1 ?_
  refine lv_iload_n hx hb d_L_hasFittingPart_4 rfl (lv_at hl 2 rfl) ?_
  replace h := bd h
  obtain ⟨r1, g1, h⟩ := h
  refine ro_V (n := 1) (ci := 2) (As := [.int x2]) (rest := []) C0 (c_T_classOf l D cI cZ a q (L_types σ) x2 g1) wd_195 ⟨wd_196, wd_197, wd_198, wd_52⟩ (by decide +kernel) ⟨by show 1 + 1 ≤ fr0 + 1; omega, by show 8 + (2 + 11) + 21 ≤ lc0 + 25; omega⟩ (hP.pick [10, 11, 12, 13, 14, 15, 16, 17, 18] rfl) rfl rfl rfl hl rfl rfl (Nat.le_of_ble_eq_true rfl) ⟨Nat.zero_le _, Nat.zero_le _⟩ d_L_hasFittingPart_5 ?_
  try dsimp only at h
  refine lv_istore (lv' := [(4, .int r1), (0, .ref (a 0)), (1, .int x1), (2, .int x2), (3, .int x3)]) hx hb d_L_hasFittingPart_8 hl (by decide) rfl (fun ls hl => ?_)
  refine lv_aload_n hx hb d_L_hasFittingPart_10 rfl (lv_at hl 1 rfl) ?_
  refine va_get (ci := 0) (v := .ref (a 10)) (C := R_L) (T := F_L) (N := 6) hx hb hts i_L hown hK.1 hP 0 rfl rfl 2 (by decide) (hts _ wd_85) (fun _ h9 => h9) rfl d_L_hasFittingPart_11 ?_
  refine lv_iload_n hx hb d_L_hasFittingPart_14 rfl (lv_at hl 3 rfl) ?_
  replace h := bd h
  obtain ⟨r2, g2, h⟩ := h
  refine ro_V (n := 1) (ci := 2) (As := [.int x2]) (rest := []) C0 (c_T_argumentAt l D cI cZ a q (L_types σ) x2 g2) wd_217 ⟨wd_218, wd_219, wd_220, wd_52⟩ (by decide +kernel) ⟨by show 1 + 1 ≤ fr0 + 1; omega, by show 8 + (2 + 11) + 21 ≤ lc0 + 25; omega⟩ (hP.pick [10, 11, 12, 13, 14, 15, 16, 17, 18] rfl) rfl rfl rfl hl rfl rfl (Nat.le_of_ble_eq_true rfl) ⟨Nat.zero_le _, Nat.zero_le _⟩ d_L_hasFittingPart_15 ?_
  try dsimp only at h
  refine lv_istore (lv' := [(5, .int r2), (4, .int r1), (0, .ref (a 0)), (1, .int x1), (2, .int x2), (3, .int x3)]) hx hb d_L_hasFittingPart_18 hl (by decide) rfl (fun ls hl => ?_)
  refine lv_aload_n hx hb d_L_hasFittingPart_20 rfl (lv_at hl 2 rfl) ?_
  refine lv_iload_n hx hb d_L_hasFittingPart_21 rfl (lv_at hl 3 rfl) ?_
  replace h := bd h
  obtain ⟨r3, g3, h⟩ := h
  refine ro_V (n := 1) (ci := 0) (As := [.int x1]) (rest := []) C0 (c_L_countHolders l D cI cZ a q σ x1 g3) wd_213 ⟨wd_214, wd_215, wd_216, wd_55⟩ (by decide +kernel) ⟨by show 2 + 1 ≤ fr0 + 1; omega, by show 8 + (2 + 11) + 42 ≤ lc0 + 25; omega⟩ hP rfl rfl rfl hl rfl rfl (Nat.le_of_ble_eq_true rfl) ⟨Nat.zero_le _, Nat.zero_le _⟩ d_L_hasFittingPart_22 ?_
  try dsimp only at h
  refine lv_istore (lv' := [(6, .int r3), (5, .int r2), (4, .int r1), (0, .ref (a 0)), (1, .int x1), (2, .int x2), (3, .int x3)]) hx hb d_L_hasFittingPart_25 hl (by decide) rfl (fun ls hl => ?_)
  refine lv_iconst (v := 0) hx hb d_L_hasFittingPart_27 (by decide) ?_
  refine lv_istore (lv' := [(7, .int 0), (6, .int r3), (5, .int r2), (4, .int r1), (0, .ref (a 0)), (1, .int x1), (2, .int x2), (3, .int x3)]) hx hb d_L_hasFittingPart_28 hl (by decide) rfl (fun ls hl => ?_)
  exact t_L_hasFittingPart_30 (a := a) C0 hA hfr hlc hrec  h hP hD hS (lv_sub hl [4, 5, 7, 3, 2, 1, 0] rfl)
set_option maxHeartbeats 4000000 in
set_option maxRecDepth 100000 in
theorem c_L_hasFittingPart {l : Launch} {D : va_G} {cI cZ : ClassId} {a : Nat → Nat} {rec : StL → Int32 → Int32 → Int32 → Option (Int32 × StL)} {fr0 lc0 : Nat} (hfr : 4 ≤ fr0) (hlc : 98 ≤ lc0) (hrec : ∀ (q : Nat) (σ : StL) (z0 z1 z2 : Int32) (r : Int32 × StL), rec σ z0 z1 z2 = some r → RwM l y_L_liesBelow b_L_liesBelow 6 (some .boolean) fr0 lc0 D [(cI, .int), (cZ, .boolean)] [.ref (a 0), .int z0, .int z1, .int z2] (fun q (σ : StL) => wL cI cZ a q σ) q σ r) (q : Nat) (σ : StL) (x1 : Int32) (x2 : Int32) (x3 : Int32) {res : Int32 × StL} (h : f_L_hasFittingPart rec σ x1 x2 x3 = some res) : RwM l y_L_hasFittingPart b_L_hasFittingPart 9 (some .boolean) (fr0 + 1) (lc0 + 25) D [(cI, .int), (cZ, .boolean)] [.ref (a 0), .int x1, .int x2, .int x3] (fun q (σ : StL) => (wL cI cZ a q σ)) q σ res :=
  rw_of (by decide) (Nat.le_of_ble_eq_true rfl) (fun p e s m args below meth c ls A C0 hA hP hD hS hl => t_L_hasFittingPart_0 (a := a) C0 hA hfr hlc hrec h hP hD hS (lv_sub hl [0, 1, 2, 3] rfl))
-- part 07.5L.19L_liesBelow.lean.txt
def f_L_liesBelow_159 (rec : StL → Int32 → Int32 → Int32 → Option (Int32 × StL)) (σ : StL) (x1 x2 x5 : Int32) : Option (Int32 × StL) :=
  (f_A_keep (L_answers σ) x1 x2 x5).bind fun r4 =>
  some ((x5 &&& 1), (L_set_answers σ r4.2))
def f_L_liesBelow_137 (rec : StL → Int32 → Int32 → Int32 → Option (Int32 × StL)) (σ : StL) (x1 x2 t0 : Int32) : Option (Int32 × StL) :=
  f_L_liesBelow_159 rec σ x1 x2 t0
def f_L_liesBelow_136 (rec : StL → Int32 → Int32 → Int32 → Option (Int32 × StL)) (σ : StL) (x1 x2 : Int32) : Option (Int32 × StL) :=
  f_L_liesBelow_137 rec σ x1 x2 0
def f_L_liesBelow_s (rec : StL → Int32 → Int32 → Int32 → Option (Int32 × StL)) (σ : StL) (x1 x2 x3 : Int32) : Option (Int32 × StL) :=
  if x1 = x2 then
    some (1, σ)
  else
    if 0 < x3 then
      (f_A_read (L_answers σ) x1 x2).bind fun r1 =>
      if r1 = 0 then
        (f_T_kindOf (L_types σ) x2).bind fun r2 =>
        if r2 = 1 then
          (f_L_hasFittingPart rec σ x1 x2 (x3 - 1)).bind fun r3 =>
          f_L_liesBelow_159 rec r3.2 x1 x2 r3.1
        else if r2 = 2 then
          (f_L_isArrayOfOthers σ x1).bind fun r5 =>
          if r5 = 0 then
            f_L_liesBelow_136 rec σ x1 x2
          else
            (f_L_isArrayOfOthers σ x2).bind fun r6 =>
            if r6 = 0 then
              f_L_liesBelow_136 rec σ x1 x2
            else
              (f_T_elementOf (L_types σ) x1).bind fun r7 =>
              (f_T_elementOf (L_types σ) x2).bind fun r8 =>
              (rec σ r7 r8 (x3 - 1)).bind fun r9 =>
              if r9.1 = 0 then
                f_L_liesBelow_136 rec r9.2 x1 x2
              else
                f_L_liesBelow_137 rec r9.2 x1 x2 1
        else if r2 = 3 then
          (f_L_liesBelowParts rec σ x1 x2 (x3 - 1)).bind fun r10 =>
          f_L_liesBelow_159 rec r10.2 x1 x2 r10.1
        else f_L_liesBelow_159 rec σ x1 x2 0
      else
        if r1 = 2 then
          some (1, σ)
        else
          some (0, σ)
    else
      some (0, σ)
def f_L_liesBelow : Nat → StL → Int32 → Int32 → Int32 → Option (Int32 × StL)
  | 0, _, _, _, _ => none
  | n + 1, σ, x1, x2, x3 => f_L_liesBelow_s (f_L_liesBelow n) σ x1 x2 x3
set_option maxHeartbeats 4000000 in
set_option maxRecDepth 100000 in
theorem t_L_liesBelow_159 {p : Program} {l : Launch} {e : Env} {s : State} {m : MethodId} {args : Array Value} {below : List Frame} {meth : Method} {c : Code} {D : va_G} {cI cZ : ClassId} {a : Nat → Nat} {A : Nat → Prop} (C0 : Am p s m args meth c b_L_liesBelow (some .boolean) 6 R_L D [(cI, .int), (cZ, .boolean)]) (hA : ∀ q, s.heap.size ≤ q → A q) {res : Int32 × StL} {rec : StL → Int32 → Int32 → Int32 → Option (Int32 × StL)} {fr0 lc0 : Nat} (hfr : 4 ≤ fr0) (hlc : 98 ≤ lc0) (hrec : ∀ (q : Nat) (σ : StL) (z0 z1 z2 : Int32) (r : Int32 × StL), rec σ z0 z1 z2 = some r → RwM l y_L_liesBelow b_L_liesBelow 6 (some .boolean) fr0 lc0 D [(cI, .int), (cZ, .boolean)] [.ref (a 0), .int z0, .int z1, .int z2] (fun q (σ : StL) => wL cI cZ a q σ) q σ r)   {q : Nat} {σ : StL} {x1 x2 x5 : Int32} (h : f_L_liesBelow_159 rec σ x1 x2 x5 = some res) {H : Heap} {locs : List Loc} (hP : va_P D vwCl (wL cI cZ a q σ) H) (hD : va_D A (wL cI cZ a q σ)) (hS : va_S A s.heap H locs) {ls : Array Slot} (hl : lv_has ls 6 [(0, .ref (a 0)), (1, .int x1), (2, .int x2), (5, .int x5)]) : W p l e (rmK (fr0 + 2) (lc0 + 53) 0 0) s m args below meth c H locs 0 0 (RwQ below args s D A (fun q (σ : StL) => (wL cI cZ a q σ)) res 0 0) (F0 m 159 ls []) := by
  obtain ⟨hx, hb, hr, hml, hown, hts, hlk, hK⟩ := id C0
  unfold f_L_liesBelow_159 at h
  refine lv_aload_n hx hb d_L_liesBelow_159 rfl (lv_at hl 0 rfl) ?_
  refine va_get (ci := 0) (v := .ref (a 18)) (C := R_L) (T := F_L) (N := 6) hx hb hts i_L hown hK.1 hP 0 rfl rfl 3 (by decide) (hts _ wd_150) (fun _ h9 => h9) rfl d_L_liesBelow_160 ?_
  refine lv_iload_n hx hb d_L_liesBelow_163 rfl (lv_at hl 1 rfl) ?_
  refine lv_iload_n hx hb d_L_liesBelow_164 rfl (lv_at hl 2 rfl) ?_
  refine lv_iload hx hb d_L_liesBelow_165 (lv_at hl 3 rfl) ?_
  replace h := bd h
  obtain ⟨r4, g4, h⟩ := h
  refine rw_Vv (n := 3) (ci := 3) (As := [.int x1, .int x2, .int x5]) (rest := []) (Wn := fun _ => (wL cI cZ a q (L_set_answers σ r4.2))) C0 hA (c_A_keep l D cI cZ a q (L_answers σ) x1 x2 x5 g4) wd_294 ⟨wd_295, wd_296, wd_297, wd_155⟩ (by decide +kernel) ⟨by show 1 + 1 ≤ fr0 + 2; omega, by show 8 + (5 + 11) + 21 ≤ lc0 + 53; omega⟩ hP hD hS [19, 20] [0, 1, 2, 3, 4, 5, 6, 7, 8, 9, 10, 11, 12, 13, 14, 15, 16, 17, 18] [0, 1, 2, 3, 4, 5, 6, 7, 8, 9, 10, 11, 12, 13, 14, 15, 16, 17, 18, 19, 20] jn_L_answers_C (by decide) jn_L_answers_R (by decide) (by decide) (by decide) jn_L_answers_W rfl rfl rfl hl rfl rfl (Nat.le_of_ble_eq_true rfl) ⟨Nat.zero_le _, Nat.zero_le _⟩ d_L_liesBelow_167 (fun H locs _ hP hD hS => ?_)
  try dsimp only at h
  refine lv_iload hx hb d_L_liesBelow_170 (lv_at hl 3 rfl) ?_
  exact rw_retz C0 hP hD hS rfl (Option.some.inj h) d_L_liesBelow_172
set_option maxHeartbeats 4000000 in
set_option maxRecDepth 100000 in
theorem t_L_liesBelow_137 {p : Program} {l : Launch} {e : Env} {s : State} {m : MethodId} {args : Array Value} {below : List Frame} {meth : Method} {c : Code} {D : va_G} {cI cZ : ClassId} {a : Nat → Nat} {A : Nat → Prop} (C0 : Am p s m args meth c b_L_liesBelow (some .boolean) 6 R_L D [(cI, .int), (cZ, .boolean)]) (hA : ∀ q, s.heap.size ≤ q → A q) {res : Int32 × StL} {rec : StL → Int32 → Int32 → Int32 → Option (Int32 × StL)} {fr0 lc0 : Nat} (hfr : 4 ≤ fr0) (hlc : 98 ≤ lc0) (hrec : ∀ (q : Nat) (σ : StL) (z0 z1 z2 : Int32) (r : Int32 × StL), rec σ z0 z1 z2 = some r → RwM l y_L_liesBelow b_L_liesBelow 6 (some .boolean) fr0 lc0 D [(cI, .int), (cZ, .boolean)] [.ref (a 0), .int z0, .int z1, .int z2] (fun q (σ : StL) => wL cI cZ a q σ) q σ r)   {q : Nat} {σ : StL} {x1 x2 t0 : Int32} (h : f_L_liesBelow_137 rec σ x1 x2 t0 = some res) {H : Heap} {locs : List Loc} (hP : va_P D vwCl (wL cI cZ a q σ) H) (hD : va_D A (wL cI cZ a q σ)) (hS : va_S A s.heap H locs) {ls : Array Slot} (hl : lv_has ls 6 [(0, .ref (a 0)), (1, .int x1), (2, .int x2)]) : W p l e (rmK (fr0 + 2) (lc0 + 53) 0 0) s m args below meth c H locs 0 0 (RwQ below args s D A (fun q (σ : StL) => (wL cI cZ a q σ)) res 0 0) (F0 m 137 ls [.int t0]) := by
  obtain ⟨hx, hb, hr, hml, hown, hts, hlk, hK⟩ := id C0
  unfold f_L_liesBelow_137 at h
  refine lv_istore (lv' := [(5, .int t0), (0, .ref (a 0)), (1, .int x1), (2, .int x2)]) hx hb d_L_liesBelow_137 hl (by decide) rfl (fun ls hl => ?_)
  refine lv_goto (tgt := 159) hx hb d_L_liesBelow_139 (by decide) ?_
  exact t_L_liesBelow_159 (a := a) C0 hA hfr hlc hrec  h hP hD hS (lv_sub hl [1, 2, 3, 0] rfl)
set_option maxHeartbeats 4000000 in
set_option maxRecDepth 100000 in
theorem t_L_liesBelow_136 {p : Program} {l : Launch} {e : Env} {s : State} {m : MethodId} {args : Array Value} {below : List Frame} {meth : Method} {c : Code} {D : va_G} {cI cZ : ClassId} {a : Nat → Nat} {A : Nat → Prop} (C0 : Am p s m args meth c b_L_liesBelow (some .boolean) 6 R_L D [(cI, .int), (cZ, .boolean)]) (hA : ∀ q, s.heap.size ≤ q → A q) {res : Int32 × StL} {rec : StL → Int32 → Int32 → Int32 → Option (Int32 × StL)} {fr0 lc0 : Nat} (hfr : 4 ≤ fr0) (hlc : 98 ≤ lc0) (hrec : ∀ (q : Nat) (σ : StL) (z0 z1 z2 : Int32) (r : Int32 × StL), rec σ z0 z1 z2 = some r → RwM l y_L_liesBelow b_L_liesBelow 6 (some .boolean) fr0 lc0 D [(cI, .int), (cZ, .boolean)] [.ref (a 0), .int z0, .int z1, .int z2] (fun q (σ : StL) => wL cI cZ a q σ) q σ r)   {q : Nat} {σ : StL} {x1 x2 : Int32} (h : f_L_liesBelow_136 rec σ x1 x2 = some res) {H : Heap} {locs : List Loc} (hP : va_P D vwCl (wL cI cZ a q σ) H) (hD : va_D A (wL cI cZ a q σ)) (hS : va_S A s.heap H locs) {ls : Array Slot} (hl : lv_has ls 6 [(0, .ref (a 0)), (1, .int x1), (2, .int x2)]) : W p l e (rmK (fr0 + 2) (lc0 + 53) 0 0) s m args below meth c H locs 0 0 (RwQ below args s D A (fun q (σ : StL) => (wL cI cZ a q σ)) res 0 0) (F0 m 136 ls []) := by
  obtain ⟨hx, hb, hr, hml, hown, hts, hlk, hK⟩ := id C0
  unfold f_L_liesBelow_136 at h
  refine lv_iconst (v := 0) hx hb d_L_liesBelow_136 (by decide) ?_
  exact t_L_liesBelow_137 (a := a) C0 hA hfr hlc hrec  h hP hD hS (lv_sub hl [0, 1, 2] rfl)
set_option maxHeartbeats 4000000 in
set_option maxRecDepth 100000 in
theorem t_L_liesBelow_0 {p : Program} {l : Launch} {e : Env} {s : State} {m : MethodId} {args : Array Value} {below : List Frame} {meth : Method} {c : Code} {D : va_G} {cI cZ : ClassId} {a : Nat → Nat} {A : Nat → Prop} (C0 : Am p s m args meth c b_L_liesBelow (some .boolean) 6 R_L D [(cI, .int), (cZ, .boolean)]) (hA : ∀ q, s.heap.size ≤ q → A q) {res : Int32 × StL} {rec : StL → Int32 → Int32 → Int32 → Option (Int32 × StL)} {fr0 lc0 : Nat} (hfr : 4 ≤ fr0) (hlc : 98 ≤ lc0) (hrec : ∀ (q : Nat) (σ : StL) (z0 z1 z2 : Int32) (r : Int32 × StL), rec σ z0 z1 z2 = some r → RwM l y_L_liesBelow b_L_liesBelow 6 (some .boolean) fr0 lc0 D [(cI, .int), (cZ, .boolean)] [.ref (a 0), .int z0, .int z1, .int z2] (fun q (σ : StL) => wL cI cZ a q σ) q σ r)   {q : Nat} {σ : StL} {x1 x2 x3 : Int32} (h : f_L_liesBelow_s rec σ x1 x2 x3 = some res) {H : Heap} {locs : List Loc} (hP : va_P D vwCl (wL cI cZ a q σ) H) (hD : va_D A (wL cI cZ a q σ)) (hS : va_S A s.heap H locs) {ls : Array Slot} (hl : lv_has ls 6 [(0, .ref (a 0)), (1, .int x1), (2, .int x2), (3, .int x3)]) : W p l e (rmK (fr0 + 2) (lc0 + 53) 0 0) s m args below meth c H locs 0 0 (RwQ below args s D A (fun q (σ : StL) => (wL cI cZ a q σ)) res 0 0) (F0 m 0 ls []) := by
  obtain ⟨hx, hb, hr, hml, hown, hts, hlk, hK⟩ := id C0
  unfold f_L_liesBelow_s at h
  refine lv_iload_n hx hb d_L_liesBelow_0 rfl (lv_at hl 1 rfl) ?_
  refine lv_iload_n hx hb d_L_liesBelow_1 rfl (lv_at hl 2 rfl) ?_
  refine lv_icmp_ne (tgt := 7) hx hb d_L_liesBelow_2 (by decide) (fun hc => ?_) (fun hc => ?_)
  · rw [if_neg hc] at h
    refine lv_iload_n hx hb d_L_liesBelow_7 rfl (lv_at hl 3 rfl) ?_
    refine lv_if_gt (tgt := 13) hx hb d_L_liesBelow_8 (by decide) (fun hc => ?_) (fun hc => ?_)
    · rw [if_pos hc] at h
      refine lv_aload_n hx hb d_L_liesBelow_13 rfl (lv_at hl 0 rfl) ?_
      refine va_get (ci := 0) (v := .ref (a 18)) (C := R_L) (T := F_L) (N := 6) hx hb hts i_L hown hK.1 hP 0 rfl rfl 3 (by decide) (hts _ wd_150) (fun _ h9 => h9) rfl d_L_liesBelow_14 ?_
      refine lv_iload_n hx hb d_L_liesBelow_17 rfl (lv_at hl 1 rfl) ?_
      refine lv_iload_n hx hb d_L_liesBelow_18 rfl (lv_at hl 2 rfl) ?_
      replace h := bd h
      obtain ⟨r1, g1, h⟩ := h
      refine ro_V (n := 2) (ci := 3) (As := [.int x1, .int x2]) (rest := []) C0 (c_A_read l D cI cZ a q (L_answers σ) x1 x2 g1) wd_286 ⟨wd_287, wd_288, wd_289, wd_155⟩ (by decide +kernel) ⟨by show 1 + 1 ≤ fr0 + 2; omega, by show 8 + (4 + 11) + 21 ≤ lc0 + 53; omega⟩ (hP.pick [19, 20] rfl) rfl rfl rfl hl rfl rfl (Nat.le_of_ble_eq_true rfl) ⟨Nat.zero_le _, Nat.zero_le _⟩ d_L_liesBelow_19 ?_
      try dsimp only at h
      refine lv_istore (lv' := [(4, .int r1), (0, .ref (a 0)), (1, .int x1), (2, .int x2), (3, .int x3)]) hx hb d_L_liesBelow_22 hl (by decide) rfl (fun ls hl => ?_)
      refine lv_iload hx hb d_L_liesBelow_24 (lv_at hl 0 rfl) ?_
      refine lv_if_eq (tgt := 41) hx hb d_L_liesBelow_26 (by decide) (fun hc => ?_) (fun hc => ?_)
      · rw [if_pos hc] at h
        refine lv_aload_n hx hb d_L_liesBelow_41 rfl (lv_at hl 1 rfl) ?_
        refine va_get (ci := 0) (v := .ref (a 10)) (C := R_L) (T := F_L) (N := 6) hx hb hts i_L hown hK.1 hP 0 rfl rfl 2 (by decide) (hts _ wd_85) (fun _ h9 => h9) rfl d_L_liesBelow_42 ?_
        refine lv_iload_n hx hb d_L_liesBelow_45 rfl (lv_at hl 3 rfl) ?_
        replace h := bd h
        obtain ⟨r2, g2, h⟩ := h
        refine ro_V (n := 1) (ci := 2) (As := [.int x2]) (rest := []) C0 (c_T_kindOf l D cI cZ a q (L_types σ) x2 g2) wd_99 ⟨wd_100, wd_101, wd_102, wd_52⟩ (by decide +kernel) ⟨by show 1 + 1 ≤ fr0 + 2; omega, by show 8 + (2 + 11) + 21 ≤ lc0 + 53; omega⟩ (hP.pick [10, 11, 12, 13, 14, 15, 16, 17, 18] rfl) rfl rfl rfl hl rfl rfl (Nat.le_of_ble_eq_true rfl) ⟨Nat.zero_le _, Nat.zero_le _⟩ d_L_liesBelow_46 ?_
        try dsimp only at h
        by_cases e49_0 : r2 = 1
        · rw [if_pos e49_0] at h
          refine lv_tableIn (off := 27) (tgt := 76) hx hb d_L_liesBelow_49 (by rw [e49_0]; decide) (by rw [e49_0]; decide) (by rw [e49_0]; rfl) (by decide) ?_
          refine lv_aload_n hx hb d_L_liesBelow_76 rfl (lv_at hl 1 rfl) ?_
          refine lv_iload_n hx hb d_L_liesBelow_77 rfl (lv_at hl 2 rfl) ?_
          refine lv_iload_n hx hb d_L_liesBelow_78 rfl (lv_at hl 3 rfl) ?_
          refine lv_iload_n hx hb d_L_liesBelow_79 rfl (lv_at hl 4 rfl) ?_
          refine lv_iconst (v := 1) hx hb d_L_liesBelow_80 (by decide) ?_
          refine lv_isub hx hb d_L_liesBelow_81 ?_
          replace h := bd h
          obtain ⟨r3, g3, h⟩ := h
          refine rw_V (n := 3) (ci := 0) (As := [.int x1, .int x2, .int (x3 - 1)]) (rest := []) (Wn := fun q => (wL cI cZ a q r3.2)) C0 hA (c_L_hasFittingPart hfr hlc hrec q σ x1 x2 (x3 - 1) g3) wd_290 ⟨wd_291, wd_292, wd_293, wd_55⟩ (by decide +kernel) ⟨by show fr0 + 1 + 1 ≤ fr0 + 2; omega, by show 8 + (9 + 11) + (lc0 + 25) ≤ lc0 + 53; omega⟩ hP hD hS [0, 1, 2, 3, 4, 5, 6, 7, 8, 9, 10, 11, 12, 13, 14, 15, 16, 17, 18, 19, 20] [] [0, 1, 2, 3, 4, 5, 6, 7, 8, 9, 10, 11, 12, 13, 14, 15, 16, 17, 18, 19, 20] jn_L__C (by decide) jn_L__R (by decide) (by decide) (by decide) jn_L__W rfl rfl rfl hl rfl rfl (Nat.le_of_ble_eq_true rfl) ⟨Nat.zero_le _, Nat.zero_le _⟩ d_L_liesBelow_82 (fun H locs q hP hD hS => ?_)
          try dsimp only at h
          refine lv_istore (lv' := [(5, .int r3.1), (4, .int r1), (0, .ref (a 0)), (1, .int x1), (2, .int x2), (3, .int x3)]) hx hb d_L_liesBelow_85 hl (by decide) rfl (fun ls hl => ?_)
          refine lv_goto (tgt := 159) hx hb d_L_liesBelow_87 (by decide) ?_
          exact t_L_liesBelow_159 (a := a) C0 hA hfr hlc hrec  h hP hD hS (lv_sub hl [2, 3, 4, 0] rfl)
        · rw [if_neg e49_0] at h
          by_cases e49_1 : r2 = 2
          · rw [if_pos e49_1] at h
            refine lv_tableIn (off := 41) (tgt := 90) hx hb d_L_liesBelow_49 (by rw [e49_1]; decide) (by rw [e49_1]; decide) (by rw [e49_1]; rfl) (by decide) ?_
            refine lv_aload_n hx hb d_L_liesBelow_90 rfl (lv_at hl 1 rfl) ?_
            refine lv_iload_n hx hb d_L_liesBelow_91 rfl (lv_at hl 2 rfl) ?_
            replace h := bd h
            obtain ⟨r5, g5, h⟩ := h
            refine ro_V (n := 1) (ci := 0) (As := [.int x1]) (rest := []) C0 (c_L_isArrayOfOthers l D cI cZ a q σ x1 g5) wd_274 ⟨wd_275, wd_276, wd_277, wd_55⟩ (by decide +kernel) ⟨by show 2 + 1 ≤ fr0 + 2; omega, by show 8 + (2 + 11) + 42 ≤ lc0 + 53; omega⟩ hP rfl rfl rfl hl rfl rfl (Nat.le_of_ble_eq_true rfl) ⟨Nat.zero_le _, Nat.zero_le _⟩ d_L_liesBelow_92 ?_
            try dsimp only at h
            refine lv_if_eq (tgt := 136) hx hb d_L_liesBelow_95 (by decide) (fun hc => ?_) (fun hc => ?_)
            · rw [if_pos hc] at h
              exact t_L_liesBelow_136 (a := a) C0 hA hfr hlc hrec  h hP hD hS (lv_sub hl [1, 2, 3] rfl)
            · rw [if_neg hc] at h
              refine lv_aload_n hx hb d_L_liesBelow_98 rfl (lv_at hl 1 rfl) ?_
              refine lv_iload_n hx hb d_L_liesBelow_99 rfl (lv_at hl 3 rfl) ?_
              replace h := bd h
              obtain ⟨r6, g6, h⟩ := h
              refine ro_V (n := 1) (ci := 0) (As := [.int x2]) (rest := []) C0 (c_L_isArrayOfOthers l D cI cZ a q σ x2 g6) wd_274 ⟨wd_275, wd_276, wd_277, wd_55⟩ (by decide +kernel) ⟨by show 2 + 1 ≤ fr0 + 2; omega, by show 8 + (2 + 11) + 42 ≤ lc0 + 53; omega⟩ hP rfl rfl rfl hl rfl rfl (Nat.le_of_ble_eq_true rfl) ⟨Nat.zero_le _, Nat.zero_le _⟩ d_L_liesBelow_100 ?_
              try dsimp only at h
              refine lv_if_eq (tgt := 136) hx hb d_L_liesBelow_103 (by decide) (fun hc => ?_) (fun hc => ?_)
              · rw [if_pos hc] at h
                exact t_L_liesBelow_136 (a := a) C0 hA hfr hlc hrec  h hP hD hS (lv_sub hl [1, 2, 3] rfl)
              · rw [if_neg hc] at h
                refine lv_aload_n hx hb d_L_liesBelow_106 rfl (lv_at hl 1 rfl) ?_
                refine lv_aload_n hx hb d_L_liesBelow_107 rfl (lv_at hl 1 rfl) ?_
                refine va_get (ci := 0) (v := .ref (a 10)) (C := R_L) (T := F_L) (N := 6) hx hb hts i_L hown hK.1 hP 0 rfl rfl 2 (by decide) (hts _ wd_85) (fun _ h9 => h9) rfl d_L_liesBelow_108 ?_
                refine lv_iload_n hx hb d_L_liesBelow_111 rfl (lv_at hl 2 rfl) ?_
                replace h := bd h
                obtain ⟨r7, g7, h⟩ := h
                refine ro_V (n := 1) (ci := 2) (As := [.int x1]) (rest := [.ref (a 0)]) C0 (c_T_elementOf l D cI cZ a q (L_types σ) x1 g7) wd_187 ⟨wd_188, wd_189, wd_190, wd_52⟩ (by decide +kernel) ⟨by show 1 + 1 ≤ fr0 + 2; omega, by show 8 + (2 + 11) + 21 ≤ lc0 + 53; omega⟩ (hP.pick [10, 11, 12, 13, 14, 15, 16, 17, 18] rfl) rfl rfl rfl hl rfl rfl (Nat.le_of_ble_eq_true rfl) ⟨Nat.zero_le _, Nat.zero_le _⟩ d_L_liesBelow_112 ?_
                try dsimp only at h
                refine lv_aload_n hx hb d_L_liesBelow_115 rfl (lv_at hl 1 rfl) ?_
                refine va_get (ci := 0) (v := .ref (a 10)) (C := R_L) (T := F_L) (N := 6) hx hb hts i_L hown hK.1 hP 0 rfl rfl 2 (by decide) (hts _ wd_85) (fun _ h9 => h9) rfl d_L_liesBelow_116 ?_
                refine lv_iload_n hx hb d_L_liesBelow_119 rfl (lv_at hl 3 rfl) ?_
                replace h := bd h
                obtain ⟨r8, g8, h⟩ := h
                refine ro_V (n := 1) (ci := 2) (As := [.int x2]) (rest := [.int r7, .ref (a 0)]) C0 (c_T_elementOf l D cI cZ a q (L_types σ) x2 g8) wd_187 ⟨wd_188, wd_189, wd_190, wd_52⟩ (by decide +kernel) ⟨by show 1 + 1 ≤ fr0 + 2; omega, by show 8 + (2 + 11) + 21 ≤ lc0 + 53; omega⟩ (hP.pick [10, 11, 12, 13, 14, 15, 16, 17, 18] rfl) rfl rfl rfl hl rfl rfl (Nat.le_of_ble_eq_true rfl) ⟨Nat.zero_le _, Nat.zero_le _⟩ d_L_liesBelow_120 ?_
                try dsimp only at h
                refine lv_iload_n hx hb d_L_liesBelow_123 rfl (lv_at hl 4 rfl) ?_
                refine lv_iconst (v := 1) hx hb d_L_liesBelow_124 (by decide) ?_
                refine lv_isub hx hb d_L_liesBelow_125 ?_
                replace h := bd h
                obtain ⟨r9, g9, h⟩ := h
                refine rw_V (n := 3) (ci := 0) (As := [.int r7, .int r8, .int (x3 - 1)]) (rest := []) (Wn := fun q => (wL cI cZ a q r9.2)) C0 hA (hrec q σ r7 r8 (x3 - 1) _ g9) wd_282 ⟨wd_283, wd_284, wd_285, wd_55⟩ (by decide +kernel) ⟨by show fr0 + 1 ≤ fr0 + 2; omega, by show 8 + (6 + 11) + (lc0) ≤ lc0 + 53; omega⟩ hP hD hS [0, 1, 2, 3, 4, 5, 6, 7, 8, 9, 10, 11, 12, 13, 14, 15, 16, 17, 18, 19, 20] [] [0, 1, 2, 3, 4, 5, 6, 7, 8, 9, 10, 11, 12, 13, 14, 15, 16, 17, 18, 19, 20] jn_L__C (by decide) jn_L__R (by decide) (by decide) (by decide) jn_L__W rfl rfl rfl hl rfl rfl (Nat.le_of_ble_eq_true rfl) ⟨Nat.zero_le _, Nat.zero_le _⟩ d_L_liesBelow_126 (fun H locs q hP hD hS => ?_)
                try dsimp only at h
                refine lv_if_eq (tgt := 136) hx hb d_L_liesBelow_129 (by decide) (fun hc => ?_) (fun hc => ?_)
                · rw [if_pos hc] at h
                  exact t_L_liesBelow_136 (a := a) C0 hA hfr hlc hrec  h hP hD hS (lv_sub hl [1, 2, 3] rfl)
                · rw [if_neg hc] at h
                  refine lv_iconst (v := 1) hx hb d_L_liesBelow_132 (by decide) ?_
                  refine lv_goto (tgt := 137) hx hb d_L_liesBelow_133 (by decide) ?_
                  exact t_L_liesBelow_137 (a := a) C0 hA hfr hlc hrec  h hP hD hS (lv_sub hl [1, 2, 3] rfl)
          · rw [if_neg e49_1] at h
            by_cases e49_2 : r2 = 3
            · rw [if_pos e49_2] at h
              refine lv_tableIn (off := 93) (tgt := 142) hx hb d_L_liesBelow_49 (by rw [e49_2]; decide) (by rw [e49_2]; decide) (by rw [e49_2]; rfl) (by decide) ?_
              refine lv_aload_n hx hb d_L_liesBelow_142 rfl (lv_at hl 1 rfl) ?_
              refine lv_iload_n hx hb d_L_liesBelow_143 rfl (lv_at hl 2 rfl) ?_
              refine lv_iload_n hx hb d_L_liesBelow_144 rfl (lv_at hl 3 rfl) ?_
              refine lv_iload_n hx hb d_L_liesBelow_145 rfl (lv_at hl 4 rfl) ?_
              refine lv_iconst (v := 1) hx hb d_L_liesBelow_146 (by decide) ?_
              refine lv_isub hx hb d_L_liesBelow_147 ?_
              replace h := bd h
              obtain ⟨r10, g10, h⟩ := h
              refine rw_V (n := 3) (ci := 0) (As := [.int x1, .int x2, .int (x3 - 1)]) (rest := []) (Wn := fun q => (wL cI cZ a q r10.2)) C0 hA (c_L_liesBelowParts hfr hlc hrec q σ x1 x2 (x3 - 1) g10) wd_298 ⟨wd_299, wd_300, wd_301, wd_55⟩ (by decide +kernel) ⟨by show fr0 + 1 + 1 ≤ fr0 + 2; omega, by show 8 + (6 + 11) + (lc0 + 25) ≤ lc0 + 53; omega⟩ hP hD hS [0, 1, 2, 3, 4, 5, 6, 7, 8, 9, 10, 11, 12, 13, 14, 15, 16, 17, 18, 19, 20] [] [0, 1, 2, 3, 4, 5, 6, 7, 8, 9, 10, 11, 12, 13, 14, 15, 16, 17, 18, 19, 20] jn_L__C (by decide) jn_L__R (by decide) (by decide) (by decide) jn_L__W rfl rfl rfl hl rfl rfl (Nat.le_of_ble_eq_true rfl) ⟨Nat.zero_le _, Nat.zero_le _⟩ d_L_liesBelow_148 (fun H locs q hP hD hS => ?_)
              try dsimp only at h
              refine lv_istore (lv' := [(5, .int r10.1), (4, .int r1), (0, .ref (a 0)), (1, .int x1), (2, .int x2), (3, .int x3)]) hx hb d_L_liesBelow_151 hl (by decide) rfl (fun ls hl => ?_)
              refine lv_goto (tgt := 159) hx hb d_L_liesBelow_153 (by decide) ?_
              exact t_L_liesBelow_159 (a := a) C0 hA hfr hlc hrec  h hP hD hS (lv_sub hl [2, 3, 4, 0] rfl)
            · rw [if_neg e49_2] at h
              refine lv_tableOut (tgt := 156) hx hb d_L_liesBelow_49 (by have n0 := lv_neT (a := 1) e49_0 (by decide); have n1 := lv_neT (a := 2) e49_1 (by decide); have n2 := lv_neT (a := 3) e49_2 (by decide); omega) (by decide) ?_
              refine lv_iconst (v := 0) hx hb d_L_liesBelow_156 (by decide) ?_
              refine lv_istore (lv' := [(5, .int 0), (4, .int r1), (0, .ref (a 0)), (1, .int x1), (2, .int x2), (3, .int x3)]) hx hb d_L_liesBelow_157 hl (by decide) rfl (fun ls hl => ?_)
              exact t_L_liesBelow_159 (a := a) C0 hA hfr hlc hrec  h hP hD hS (lv_sub hl [2, 3, 4, 0] rfl)
      · rw [if_neg hc] at h
        refine lv_iload hx hb d_L_liesBelow_29 (lv_at hl 0 rfl) ?_
        refine lv_iconst (v := 2) hx hb d_L_liesBelow_31 (by decide) ?_
        refine lv_icmp_ne (tgt := 39) hx hb d_L_liesBelow_32 (by decide) (fun hc => ?_) (fun hc => ?_)
        · rw [if_neg hc] at h
          refine lv_iconst (v := 0) hx hb d_L_liesBelow_39 (by decide) ?_
          exact rw_retz C0 hP hD hS (by decide) (Option.some.inj h) d_L_liesBelow_40
        · rw [if_pos hc] at h
          refine lv_iconst (v := 1) hx hb d_L_liesBelow_35 (by decide) ?_
          refine lv_goto (tgt := 40) hx hb d_L_liesBelow_36 (by decide) ?_
          exact rw_retz C0 hP hD hS (by decide) (Option.some.inj h) d_L_liesBelow_40
    · rw [if_neg hc] at h
      refine lv_iconst (v := 0) hx hb d_L_liesBelow_11 (by decide) ?_
      exact rw_retz C0 hP hD hS (by decide) (Option.some.inj h) d_L_liesBelow_12
  · rw [if_pos hc] at h
    refine lv_iconst (v := 1) hx hb d_L_liesBelow_5 (by decide) ?_
    exact rw_retz C0 hP hD hS (by decide) (Option.some.inj h) d_L_liesBelow_6
set_option maxHeartbeats 4000000 in
set_option maxRecDepth 100000 in
theorem c_L_liesBelow_s {l : Launch} {D : va_G} {cI cZ : ClassId} {a : Nat → Nat} {rec : StL → Int32 → Int32 → Int32 → Option (Int32 × StL)} {fr0 lc0 : Nat} (hfr : 4 ≤ fr0) (hlc : 98 ≤ lc0) (hrec : ∀ (q : Nat) (σ : StL) (z0 z1 z2 : Int32) (r : Int32 × StL), rec σ z0 z1 z2 = some r → RwM l y_L_liesBelow b_L_liesBelow 6 (some .boolean) fr0 lc0 D [(cI, .int), (cZ, .boolean)] [.ref (a 0), .int z0, .int z1, .int z2] (fun q (σ : StL) => wL cI cZ a q σ) q σ r) (q : Nat) (σ : StL) (x1 : Int32) (x2 : Int32) (x3 : Int32) {res : Int32 × StL} (h : f_L_liesBelow_s rec σ x1 x2 x3 = some res) : RwM l y_L_liesBelow b_L_liesBelow 6 (some .boolean) (fr0 + 2) (lc0 + 53) D [(cI, .int), (cZ, .boolean)] [.ref (a 0), .int x1, .int x2, .int x3] (fun q (σ : StL) => (wL cI cZ a q σ)) q σ res :=
  rw_of (by decide) (Nat.le_of_ble_eq_true rfl) (fun p e s m args below meth c ls A C0 hA hP hD hS hl => t_L_liesBelow_0 (a := a) C0 hA hfr hlc hrec h hP hD hS (lv_sub hl [0, 1, 2, 3] rfl))
set_option maxHeartbeats 4000000 in
set_option maxRecDepth 100000 in
theorem c_L_liesBelow {n : Nat} (l : Launch) (D : va_G) (cI cZ : ClassId) (a : Nat → Nat) (q : Nat) (σ : StL) (x1 x2 x3 : Int32) {res : Int32 × StL} (h : f_L_liesBelow n σ x1 x2 x3 = some res) : RwM l y_L_liesBelow b_L_liesBelow 6 (some .boolean) (4 + 2 * n) (98 + 53 * n) D [(cI, .int), (cZ, .boolean)] [.ref (a 0), .int x1, .int x2, .int x3] (fun q (σ : StL) => (wL cI cZ a q σ)) q σ res := by
  induction n generalizing q σ x1 x2 x3 res with
  | zero => cases h
  | succ n ih =>
    have hh := c_L_liesBelow_s (fr0 := (4 + 2 * n)) (lc0 := (98 + 53 * n)) (Nat.le_add_right _ _) (Nat.le_add_right _ _) (fun q σ x1 x2 x3 r g => ih q σ x1 x2 x3 g) q σ x1 x2 x3 h
    rw [show 4 + 2 * (n + 1) = 4 + 2 * n + 2 by omega, show 98 + 53 * (n + 1) = 98 + 53 * n + 53 by omega]
    exact hh
-- part 07.5L.20L_gatherParts.lean.txt
def f_L_gatherParts_75_s (k75 : StL → Int32 → Int32 → Int32 → Int32 → Option (Int32 × StL)) (σ : StL) (x2 x3 x4 x5 : Int32) : Option (Int32 × StL) :=
  if x4 ≤ x5 then
    some ((x3 + x4), σ)
  else
    (f_T_partOf (L_types σ) x2 x5).bind fun r3 =>
    if (x3 + x5) < 0 ∨ 60 ≤ (x3 + x5).toNatClampNeg then none else
    k75 (L_put_gathered σ (x3 + x5) r3) x2 x3 x4 (x5 + 1)
def f_L_gatherParts_75 : Nat → StL → Int32 → Int32 → Int32 → Int32 → Option (Int32 × StL)
  | 0, _, _, _, _, _ => none
  | n + 1, σ, x2, x3, x4, x5 => f_L_gatherParts_75_s (f_L_gatherParts_75 n) σ x2 x3 x4 x5
def f_L_gatherParts_43_s (k43 : StL → Int32 → Int32 → Int32 → Int32 → Int32 → Option (Int32 × StL)) (σ : StL) (x1 x2 x3 x4 x5 : Int32) : Option (Int32 × StL) :=
  if x3 ≤ x5 then
    f_L_gatherParts_75 1000 σ x2 x3 x4 0
  else
    (f_T_partOf (L_types σ) x1 x5).bind fun r4 =>
    if x5 < 0 ∨ 60 ≤ x5.toNatClampNeg then none else
    k43 (L_put_gathered σ x5 r4) x1 x2 x3 x4 (x5 + 1)
def f_L_gatherParts_43 : Nat → StL → Int32 → Int32 → Int32 → Int32 → Int32 → Option (Int32 × StL)
  | 0, _, _, _, _, _, _ => none
  | n + 1, σ, x1, x2, x3, x4, x5 => f_L_gatherParts_43_s (f_L_gatherParts_43 n) σ x1 x2 x3 x4 x5
def f_L_gatherParts (σ : StL) (x1 x2 : Int32) : Option (Int32 × StL) :=
  (f_T_countParts (L_types σ) x1).bind fun r1 =>
  (f_T_countParts (L_types σ) x2).bind fun r2 =>
  if (if r1 < 30 then r1 else 30) = 0 then
    some (0, σ)
  else
    if (if r2 < 30 then r2 else 30) = 0 then
      some (0, σ)
    else
      f_L_gatherParts_43 1000 σ x1 x2 (if r1 < 30 then r1 else 30) (if r2 < 30 then r2 else 30) 0
set_option maxHeartbeats 4000000 in
set_option maxRecDepth 100000 in
theorem t_L_gatherParts_75_s {p : Program} {l : Launch} {e : Env} {s : State} {m : MethodId} {args : Array Value} {below : List Frame} {meth : Method} {c : Code} {D : va_G} {cI cZ : ClassId} {a : Nat → Nat} {A : Nat → Prop} (C0 : Am p s m args meth c b_L_gatherParts (some .int) 6 R_L D [(cI, .int), (cZ, .boolean)]) (hA : ∀ q, s.heap.size ≤ q → A q) {res : Int32 × StL} {k75 : StL → Int32 → Int32 → Int32 → Int32 → Option (Int32 × StL)}  (hk75 : ∀ (q : Nat) (σ : StL) (x2 x3 x4 x5 : Int32) (H : Heap) (locs : List Loc) (ls : Array Slot), k75 σ x2 x3 x4 x5 = some res → va_P D vwCl (wL cI cZ a q σ) H → va_D A (wL cI cZ a q σ) → va_S A s.heap H locs → lv_has ls 6 [(0, .ref (a 0)), (2, .int x2), (3, .int x3), (4, .int x4), (5, .int x5)] → W p l e (rmK 2 44 0 0) s m args below meth c H locs 0 0 (RwQ below args s D A (fun q (σ : StL) => (wL cI cZ a q σ)) res 0 0) (F0 m 75 ls [])) {q : Nat} {σ : StL} {x2 x3 x4 x5 : Int32} (h : f_L_gatherParts_75_s k75 σ x2 x3 x4 x5 = some res) {H : Heap} {locs : List Loc} (hP : va_P D vwCl (wL cI cZ a q σ) H) (hD : va_D A (wL cI cZ a q σ)) (hS : va_S A s.heap H locs) {ls : Array Slot} (hl : lv_has ls 6 [(0, .ref (a 0)), (2, .int x2), (3, .int x3), (4, .int x4), (5, .int x5)]) : W p l e (rmK 2 44 0 0) s m args below meth c H locs 0 0 (RwQ below args s D A (fun q (σ : StL) => (wL cI cZ a q σ)) res 0 0) (F0 m 75 ls []) := by
  obtain ⟨hx, hb, hr, hml, hown, hts, hlk, hK⟩ := id C0
  unfold f_L_gatherParts_75_s at h
  refine lv_iload hx hb d_L_gatherParts_75 (lv_at hl 4 rfl) ?_
  refine lv_iload hx hb d_L_gatherParts_77 (lv_at hl 3 rfl) ?_
  refine lv_icmp_ge (tgt := 107) hx hb d_L_gatherParts_79 (by decide) (fun hc => ?_) (fun hc => ?_)
  · rw [if_pos hc] at h
    refine lv_iload_n hx hb d_L_gatherParts_107 rfl (lv_at hl 2 rfl) ?_
    refine lv_iload hx hb d_L_gatherParts_108 (lv_at hl 3 rfl) ?_
    refine lv_iadd hx hb d_L_gatherParts_110 ?_
    exact rw_ret C0 hP hD hS (Option.some.inj h) d_L_gatherParts_111
  · rw [if_neg hc] at h
    refine lv_aload_n hx hb d_L_gatherParts_82 rfl (lv_at hl 0 rfl) ?_
    refine va_get (ci := 0) (v := .ref (a 2)) (C := R_L) (T := F_L) (N := 6) hx hb hts i_L hown hK.1 hP 0 rfl rfl 5 (by decide) (hts _ wd_305) (fun _ h9 => h9) rfl d_L_gatherParts_83 ?_
    refine lv_iload_n hx hb d_L_gatherParts_86 rfl (lv_at hl 2 rfl) ?_
    refine lv_iload hx hb d_L_gatherParts_87 (lv_at hl 4 rfl) ?_
    refine lv_iadd hx hb d_L_gatherParts_89 ?_
    refine lv_aload_n hx hb d_L_gatherParts_90 rfl (lv_at hl 0 rfl) ?_
    refine va_get (ci := 0) (v := .ref (a 10)) (C := R_L) (T := F_L) (N := 6) hx hb hts i_L hown hK.1 hP 0 rfl rfl 2 (by decide) (hts _ wd_85) (fun _ h9 => h9) rfl d_L_gatherParts_91 ?_
    refine lv_iload_n hx hb d_L_gatherParts_94 rfl (lv_at hl 1 rfl) ?_
    refine lv_iload hx hb d_L_gatherParts_95 (lv_at hl 4 rfl) ?_
    replace h := bd h
    obtain ⟨r3, g3, h⟩ := h
    refine ro_V (n := 2) (ci := 2) (As := [.int x2, .int x5]) (rest := [.int (x3 + x5), .ref (a 2)]) C0 (c_T_partOf l D cI cZ a q (L_types σ) x2 x5 g3) wd_204 ⟨wd_205, wd_206, wd_207, wd_52⟩ (by decide +kernel) ⟨Nat.le_of_ble_eq_true rfl, Nat.le_of_ble_eq_true rfl⟩ (hP.pick [10, 11, 12, 13, 14, 15, 16, 17, 18] rfl) rfl rfl rfl hl rfl rfl (Nat.le_of_ble_eq_true rfl) ⟨Nat.zero_le _, Nat.zero_le _⟩ d_L_gatherParts_97 ?_
    try dsimp only at h
    replace h := gd h
    obtain ⟨hi, h⟩ := h
    refine rw_iast C0 hP hD hS 2 0 rfl rfl hi d_L_gatherParts_100 (Wn := (wL cI cZ a q (L_put_gathered σ (x3 + x5) r3))) ws_L_put_gathered (fun H locs hP hD hS => ?_)
    refine lv_iinc (v := (x5 + 1)) (lv' := [(5, .int (x5 + 1)), (0, .ref (a 0)), (2, .int x2), (3, .int x3), (4, .int x4)]) hx hb d_L_gatherParts_101 hl (k := 4) rfl rfl (by decide) rfl (fun ls hl => ?_)
    refine lv_goto (tgt := 75) hx hb d_L_gatherParts_104 (by decide) ?_
    exact hk75 _ _ _ _ _ _ _ _ _ h hP hD hS (lv_sub hl [1, 2, 3, 4, 0] rfl)
set_option maxHeartbeats 4000000 in
set_option maxRecDepth 100000 in
theorem t_L_gatherParts_75 {p : Program} {l : Launch} {e : Env} {s : State} {m : MethodId} {args : Array Value} {below : List Frame} {meth : Method} {c : Code} {D : va_G} {cI cZ : ClassId} {a : Nat → Nat} {A : Nat → Prop} (C0 : Am p s m args meth c b_L_gatherParts (some .int) 6 R_L D [(cI, .int), (cZ, .boolean)]) (hA : ∀ q, s.heap.size ≤ q → A q) {res : Int32 × StL}  {n : Nat} {q : Nat} {σ : StL} {x2 x3 x4 x5 : Int32} (h : f_L_gatherParts_75  n σ x2 x3 x4 x5 = some res) {H : Heap} {locs : List Loc} (hP : va_P D vwCl (wL cI cZ a q σ) H) (hD : va_D A (wL cI cZ a q σ)) (hS : va_S A s.heap H locs) {ls : Array Slot} (hl : lv_has ls 6 [(0, .ref (a 0)), (2, .int x2), (3, .int x3), (4, .int x4), (5, .int x5)]) : W p l e (rmK 2 44 0 0) s m args below meth c H locs 0 0 (RwQ below args s D A (fun q (σ : StL) => (wL cI cZ a q σ)) res 0 0) (F0 m 75 ls []) := by
  induction n generalizing q σ x2 x3 x4 x5 H locs ls with
  | zero => cases h
  | succ n ih => exact t_L_gatherParts_75_s (a := a) C0 hA  (fun _ _ _ _ _ _ _ _ _ h hP hD hS hl => ih h hP hD hS hl) h hP hD hS hl
set_option maxHeartbeats 4000000 in
set_option maxRecDepth 100000 in
theorem t_L_gatherParts_43_s {p : Program} {l : Launch} {e : Env} {s : State} {m : MethodId} {args : Array Value} {below : List Frame} {meth : Method} {c : Code} {D : va_G} {cI cZ : ClassId} {a : Nat → Nat} {A : Nat → Prop} (C0 : Am p s m args meth c b_L_gatherParts (some .int) 6 R_L D [(cI, .int), (cZ, .boolean)]) (hA : ∀ q, s.heap.size ≤ q → A q) {res : Int32 × StL} {k43 : StL → Int32 → Int32 → Int32 → Int32 → Int32 → Option (Int32 × StL)}  (hk43 : ∀ (q : Nat) (σ : StL) (x1 x2 x3 x4 x5 : Int32) (H : Heap) (locs : List Loc) (ls : Array Slot), k43 σ x1 x2 x3 x4 x5 = some res → va_P D vwCl (wL cI cZ a q σ) H → va_D A (wL cI cZ a q σ) → va_S A s.heap H locs → lv_has ls 6 [(0, .ref (a 0)), (1, .int x1), (2, .int x2), (3, .int x3), (4, .int x4), (5, .int x5)] → W p l e (rmK 2 44 0 0) s m args below meth c H locs 0 0 (RwQ below args s D A (fun q (σ : StL) => (wL cI cZ a q σ)) res 0 0) (F0 m 43 ls [])) {q : Nat} {σ : StL} {x1 x2 x3 x4 x5 : Int32} (h : f_L_gatherParts_43_s k43 σ x1 x2 x3 x4 x5 = some res) {H : Heap} {locs : List Loc} (hP : va_P D vwCl (wL cI cZ a q σ) H) (hD : va_D A (wL cI cZ a q σ)) (hS : va_S A s.heap H locs) {ls : Array Slot} (hl : lv_has ls 6 [(0, .ref (a 0)), (1, .int x1), (2, .int x2), (3, .int x3), (4, .int x4), (5, .int x5)]) : W p l e (rmK 2 44 0 0) s m args below meth c H locs 0 0 (RwQ below args s D A (fun q (σ : StL) => (wL cI cZ a q σ)) res 0 0) (F0 m 43 ls []) := by
  obtain ⟨hx, hb, hr, hml, hown, hts, hlk, hK⟩ := id C0
  unfold f_L_gatherParts_43_s at h
  refine lv_iload hx hb d_L_gatherParts_43 (lv_at hl 5 rfl) ?_
  refine lv_iload_n hx hb d_L_gatherParts_45 rfl (lv_at hl 3 rfl) ?_
  refine lv_icmp_ge (tgt := 72) hx hb d_L_gatherParts_46 (by decide) (fun hc => ?_) (fun hc => ?_)
  · rw [if_pos hc] at h
    refine lv_iconst (v := 0) hx hb d_L_gatherParts_72 (by decide) ?_
    refine lv_istore (lv' := [(5, .int 0), (0, .ref (a 0)), (1, .int x1), (2, .int x2), (3, .int x3), (4, .int x4)]) hx hb d_L_gatherParts_73 hl (by decide) rfl (fun ls hl => ?_)
    exact t_L_gatherParts_75 (a := a) C0 hA  h hP hD hS (lv_sub hl [1, 3, 4, 5, 0] rfl)
  · rw [if_neg hc] at h
    refine lv_aload_n hx hb d_L_gatherParts_49 rfl (lv_at hl 0 rfl) ?_
    refine va_get (ci := 0) (v := .ref (a 2)) (C := R_L) (T := F_L) (N := 6) hx hb hts i_L hown hK.1 hP 0 rfl rfl 5 (by decide) (hts _ wd_305) (fun _ h9 => h9) rfl d_L_gatherParts_50 ?_
    refine lv_iload hx hb d_L_gatherParts_53 (lv_at hl 5 rfl) ?_
    refine lv_aload_n hx hb d_L_gatherParts_55 rfl (lv_at hl 0 rfl) ?_
    refine va_get (ci := 0) (v := .ref (a 10)) (C := R_L) (T := F_L) (N := 6) hx hb hts i_L hown hK.1 hP 0 rfl rfl 2 (by decide) (hts _ wd_85) (fun _ h9 => h9) rfl d_L_gatherParts_56 ?_
    refine lv_iload_n hx hb d_L_gatherParts_59 rfl (lv_at hl 1 rfl) ?_
    refine lv_iload hx hb d_L_gatherParts_60 (lv_at hl 5 rfl) ?_
    replace h := bd h
    obtain ⟨r4, g4, h⟩ := h
    refine ro_V (n := 2) (ci := 2) (As := [.int x1, .int x5]) (rest := [.int x5, .ref (a 2)]) C0 (c_T_partOf l D cI cZ a q (L_types σ) x1 x5 g4) wd_204 ⟨wd_205, wd_206, wd_207, wd_52⟩ (by decide +kernel) ⟨Nat.le_of_ble_eq_true rfl, Nat.le_of_ble_eq_true rfl⟩ (hP.pick [10, 11, 12, 13, 14, 15, 16, 17, 18] rfl) rfl rfl rfl hl rfl rfl (Nat.le_of_ble_eq_true rfl) ⟨Nat.zero_le _, Nat.zero_le _⟩ d_L_gatherParts_62 ?_
    try dsimp only at h
    replace h := gd h
    obtain ⟨hi, h⟩ := h
    refine rw_iast C0 hP hD hS 2 0 rfl rfl hi d_L_gatherParts_65 (Wn := (wL cI cZ a q (L_put_gathered σ x5 r4))) ws_L_put_gathered (fun H locs hP hD hS => ?_)
    refine lv_iinc (v := (x5 + 1)) (lv' := [(5, .int (x5 + 1)), (0, .ref (a 0)), (1, .int x1), (2, .int x2), (3, .int x3), (4, .int x4)]) hx hb d_L_gatherParts_66 hl (k := 5) rfl rfl (by decide) rfl (fun ls hl => ?_)
    refine lv_goto (tgt := 43) hx hb d_L_gatherParts_69 (by decide) ?_
    exact hk43 _ _ _ _ _ _ _ _ _ _ h hP hD hS (lv_sub hl [1, 2, 3, 4, 5, 0] rfl)
set_option maxHeartbeats 4000000 in
set_option maxRecDepth 100000 in
theorem t_L_gatherParts_43 {p : Program} {l : Launch} {e : Env} {s : State} {m : MethodId} {args : Array Value} {below : List Frame} {meth : Method} {c : Code} {D : va_G} {cI cZ : ClassId} {a : Nat → Nat} {A : Nat → Prop} (C0 : Am p s m args meth c b_L_gatherParts (some .int) 6 R_L D [(cI, .int), (cZ, .boolean)]) (hA : ∀ q, s.heap.size ≤ q → A q) {res : Int32 × StL}  {n : Nat} {q : Nat} {σ : StL} {x1 x2 x3 x4 x5 : Int32} (h : f_L_gatherParts_43  n σ x1 x2 x3 x4 x5 = some res) {H : Heap} {locs : List Loc} (hP : va_P D vwCl (wL cI cZ a q σ) H) (hD : va_D A (wL cI cZ a q σ)) (hS : va_S A s.heap H locs) {ls : Array Slot} (hl : lv_has ls 6 [(0, .ref (a 0)), (1, .int x1), (2, .int x2), (3, .int x3), (4, .int x4), (5, .int x5)]) : W p l e (rmK 2 44 0 0) s m args below meth c H locs 0 0 (RwQ below args s D A (fun q (σ : StL) => (wL cI cZ a q σ)) res 0 0) (F0 m 43 ls []) := by
  induction n generalizing q σ x1 x2 x3 x4 x5 H locs ls with
  | zero => cases h
  | succ n ih => exact t_L_gatherParts_43_s (a := a) C0 hA  (fun _ _ _ _ _ _ _ _ _ _ h hP hD hS hl => ih h hP hD hS hl) h hP hD hS hl
set_option maxHeartbeats 4000000 in
set_option maxRecDepth 100000 in
theorem t_L_gatherParts_0 {p : Program} {l : Launch} {e : Env} {s : State} {m : MethodId} {args : Array Value} {below : List Frame} {meth : Method} {c : Code} {D : va_G} {cI cZ : ClassId} {a : Nat → Nat} {A : Nat → Prop} (C0 : Am p s m args meth c b_L_gatherParts (some .int) 6 R_L D [(cI, .int), (cZ, .boolean)]) (hA : ∀ q, s.heap.size ≤ q → A q) {res : Int32 × StL}   {q : Nat} {σ : StL} {x1 x2 : Int32} (h : f_L_gatherParts σ x1 x2 = some res) {H : Heap} {locs : List Loc} (hP : va_P D vwCl (wL cI cZ a q σ) H) (hD : va_D A (wL cI cZ a q σ)) (hS : va_S A s.heap H locs) {ls : Array Slot} (hl : lv_has ls 6 [(0, .ref (a 0)), (1, .int x1), (2, .int x2)]) : W p l e (rmK 2 44 0 0) s m args below meth c H locs 0 0 (RwQ below args s D A (fun q (σ : StL) => (wL cI cZ a q σ)) res 0 0) (F0 m 0 ls []) := by
  obtain ⟨hx, hb, hr, hml, hown, hts, hlk, hK⟩ := id C0
  unfold f_L_gatherParts at h
  refine lv_bipush (v := 30) hx hb d_L_gatherParts_0 (by decide) ?_
  refine lv_aload_n hx hb d_L_gatherParts_2 rfl (lv_at hl 0 rfl) ?_
  refine va_get (ci := 0) (v := .ref (a 10)) (C := R_L) (T := F_L) (N := 6) hx hb hts i_L hown hK.1 hP 0 rfl rfl 2 (by decide) (hts _ wd_85) (fun _ h9 => h9) rfl d_L_gatherParts_3 ?_
  refine lv_iload_n hx hb d_L_gatherParts_6 rfl (lv_at hl 1 rfl) ?_
  replace h := bd h
  obtain ⟨r1, g1, h⟩ := h
  refine ro_V (n := 1) (ci := 2) (As := [.int x1]) (rest := [.int 30]) C0 (c_T_countParts l D cI cZ a q (L_types σ) x1 g1) wd_200 ⟨wd_201, wd_202, wd_203, wd_52⟩ (by decide +kernel) ⟨Nat.le_of_ble_eq_true rfl, Nat.le_of_ble_eq_true rfl⟩ (hP.pick [10, 11, 12, 13, 14, 15, 16, 17, 18] rfl) rfl rfl rfl hl rfl rfl (Nat.le_of_ble_eq_true rfl) ⟨Nat.zero_le _, Nat.zero_le _⟩ d_L_gatherParts_7 ?_
  try dsimp only at h
  refine va_mmin hx hb (by rw [hml]; exact hl.1.symm) hown (hts _ wd_302) (hts _ wd_303) (hts _ wd_15) (hts _ wd_304) (Nat.le_of_ble_eq_true rfl) (Nat.le_of_ble_eq_true rfl) (Nat.zero_le _) (Nat.zero_le _) d_L_gatherParts_10 ?_
  refine lv_istore_n (lv' := [(3, .int (if r1 < 30 then r1 else 30)), (0, .ref (a 0)), (1, .int x1), (2, .int x2)]) hx hb d_L_gatherParts_13 rfl hl (by decide) rfl (fun ls hl => ?_)
  refine lv_bipush (v := 30) hx hb d_L_gatherParts_14 (by decide) ?_
  refine lv_aload_n hx hb d_L_gatherParts_16 rfl (lv_at hl 1 rfl) ?_
  refine va_get (ci := 0) (v := .ref (a 10)) (C := R_L) (T := F_L) (N := 6) hx hb hts i_L hown hK.1 hP 0 rfl rfl 2 (by decide) (hts _ wd_85) (fun _ h9 => h9) rfl d_L_gatherParts_17 ?_
  refine lv_iload_n hx hb d_L_gatherParts_20 rfl (lv_at hl 3 rfl) ?_
  replace h := bd h
  obtain ⟨r2, g2, h⟩ := h
  refine ro_V (n := 1) (ci := 2) (As := [.int x2]) (rest := [.int 30]) C0 (c_T_countParts l D cI cZ a q (L_types σ) x2 g2) wd_200 ⟨wd_201, wd_202, wd_203, wd_52⟩ (by decide +kernel) ⟨Nat.le_of_ble_eq_true rfl, Nat.le_of_ble_eq_true rfl⟩ (hP.pick [10, 11, 12, 13, 14, 15, 16, 17, 18] rfl) rfl rfl rfl hl rfl rfl (Nat.le_of_ble_eq_true rfl) ⟨Nat.zero_le _, Nat.zero_le _⟩ d_L_gatherParts_21 ?_
  try dsimp only at h
  refine va_mmin hx hb (by rw [hml]; exact hl.1.symm) hown (hts _ wd_302) (hts _ wd_303) (hts _ wd_15) (hts _ wd_304) (Nat.le_of_ble_eq_true rfl) (Nat.le_of_ble_eq_true rfl) (Nat.zero_le _) (Nat.zero_le _) d_L_gatherParts_24 ?_
  refine lv_istore (lv' := [(4, .int (if r2 < 30 then r2 else 30)), (3, .int (if r1 < 30 then r1 else 30)), (0, .ref (a 0)), (1, .int x1), (2, .int x2)]) hx hb d_L_gatherParts_27 hl (by decide) rfl (fun ls hl => ?_)
  refine lv_iload_n hx hb d_L_gatherParts_29 rfl (lv_at hl 1 rfl) ?_
  refine lv_if_eq (tgt := 38) hx hb d_L_gatherParts_30 (by decide) (fun hc => ?_) (fun hc => ?_)
  · rw [if_pos hc] at h
    refine lv_iconst (v := 0) hx hb d_L_gatherParts_38 (by decide) ?_
    exact rw_ret C0 hP hD hS (Option.some.inj h) d_L_gatherParts_39
  · rw [if_neg hc] at h
    refine lv_iload hx hb d_L_gatherParts_33 (lv_at hl 0 rfl) ?_
    refine lv_if_ne (tgt := 40) hx hb d_L_gatherParts_35 (by decide) (fun hc => ?_) (fun hc => ?_)
    · rw [if_neg hc] at h
      refine lv_iconst (v := 0) hx hb d_L_gatherParts_40 (by decide) ?_
      refine lv_istore (lv' := [(5, .int 0), (4, .int (if r2 < 30 then r2 else 30)), (3, .int (if r1 < 30 then r1 else 30)), (0, .ref (a 0)), (1, .int x1), (2, .int x2)]) hx hb d_L_gatherParts_41 hl (by decide) rfl (fun ls hl => ?_)
      exact t_L_gatherParts_43 (a := a) C0 hA  h hP hD hS (lv_sub hl [3, 4, 5, 2, 1, 0] rfl)
    · rw [if_pos hc] at h
      refine lv_iconst (v := 0) hx hb d_L_gatherParts_38 (by decide) ?_
      exact rw_ret C0 hP hD hS (Option.some.inj h) d_L_gatherParts_39
set_option maxHeartbeats 4000000 in
set_option maxRecDepth 100000 in
theorem c_L_gatherParts (l : Launch) (D : va_G) (cI cZ : ClassId) (a : Nat → Nat) (q : Nat) (σ : StL) (x1 : Int32) (x2 : Int32) {res : Int32 × StL} (h : f_L_gatherParts σ x1 x2 = some res) : RwM l y_L_gatherParts b_L_gatherParts 6 (some .int) 2 44 D [(cI, .int), (cZ, .boolean)] [.ref (a 0), .int x1, .int x2] (fun q (σ : StL) => (wL cI cZ a q σ)) q σ res :=
  rw_of (by decide) (Nat.le_of_ble_eq_true rfl) (fun p e s m args below meth c ls A C0 hA hP hD hS hl => t_L_gatherParts_0 (a := a) C0 hA h hP hD hS (lv_sub hl [0, 1, 2] rfl))
-- part 07.5L.21L_dropNeedless.lean.txt
def f_L_dropNeedless_20_s (k4 : StL → Int32 → Int32 → Int32 → Option (Int32 × StL)) (k20 : StL → Int32 → Int32 → Int32 → Int32 → Int32 → Option (Int32 × StL)) (σ : StL) (x1 x2 x3 x4 x5 : Int32) : Option (Int32 × StL) :=
  if x1 ≤ x5 then
    if x2 < 0 ∨ 90 ≤ x2.toNatClampNeg then none else
    k4 (L_put_row σ x2 x4) x1 (x2 + 1) (x3 + 1)
  else
    if x5 < 0 ∨ 60 ≤ x5.toNatClampNeg then none else
    if ((L_gathered σ) x5.toNatClampNeg) = x4 then
      if x3 ≤ x5 then
        k20 σ x1 x2 x3 x4 (x5 + 1)
      else
        k4 σ x1 x2 (x3 + 1)
    else
      (f_L_liesBelow 101 σ ((L_gathered σ) x5.toNatClampNeg) x4 100).bind fun r1 =>
      if r1.1 = 0 then
        k20 r1.2 x1 x2 x3 x4 (x5 + 1)
      else
        k4 r1.2 x1 x2 (x3 + 1)
def f_L_dropNeedless_20 (k4 : StL → Int32 → Int32 → Int32 → Option (Int32 × StL)) : Nat → StL → Int32 → Int32 → Int32 → Int32 → Int32 → Option (Int32 × StL)
  | 0, _, _, _, _, _, _ => none
  | n + 1, σ, x1, x2, x3, x4, x5 => f_L_dropNeedless_20_s k4 (f_L_dropNeedless_20 k4 n) σ x1 x2 x3 x4 x5
def f_L_dropNeedless_4_s (k4 : StL → Int32 → Int32 → Int32 → Option (Int32 × StL)) (σ : StL) (x1 x2 x3 : Int32) : Option (Int32 × StL) :=
  if x1 ≤ x3 then
    if (0 : Int32) < 0 ∨ (0 : Int32) < 0 ∨ x2 < 0 ∨ 90 < (0 : Int32).toNatClampNeg + x2.toNatClampNeg ∨ 60 < (0 : Int32).toNatClampNeg + x2.toNatClampNeg then none else
    some (x2, (L_set_gathered σ (va_cpy (L_row σ) (L_gathered σ) (0 : Int32).toNatClampNeg (0 : Int32).toNatClampNeg x2.toNatClampNeg)))
  else
    if x3 < 0 ∨ 60 ≤ x3.toNatClampNeg then none else
    f_L_dropNeedless_20 k4 1000 σ x1 x2 x3 ((L_gathered σ) x3.toNatClampNeg) 0
def f_L_dropNeedless_4 : Nat → StL → Int32 → Int32 → Int32 → Option (Int32 × StL)
  | 0, _, _, _, _ => none
  | n + 1, σ, x1, x2, x3 => f_L_dropNeedless_4_s (f_L_dropNeedless_4 n) σ x1 x2 x3
def f_L_dropNeedless (σ : StL) (x1 : Int32) : Option (Int32 × StL) :=
  f_L_dropNeedless_4 1000 σ x1 0 0
set_option maxHeartbeats 4000000 in
set_option maxRecDepth 100000 in
theorem t_L_dropNeedless_20_s {p : Program} {l : Launch} {e : Env} {s : State} {m : MethodId} {args : Array Value} {below : List Frame} {meth : Method} {c : Code} {D : va_G} {cI cZ : ClassId} {a : Nat → Nat} {A : Nat → Prop} (C0 : Am p s m args meth c b_L_dropNeedless (some .int) 7 R_L D [(cI, .int), (cZ, .boolean)]) (hA : ∀ q, s.heap.size ≤ q → A q) {res : Int32 × StL} {k4 : StL → Int32 → Int32 → Int32 → Option (Int32 × StL)} {k20 : StL → Int32 → Int32 → Int32 → Int32 → Int32 → Option (Int32 × StL)} (hk4 : ∀ (q : Nat) (σ : StL) (x1 x2 x3 : Int32) (H : Heap) (locs : List Loc) (ls : Array Slot), k4 σ x1 x2 x3 = some res → va_P D vwCl (wL cI cZ a q σ) H → va_D A (wL cI cZ a q σ) → va_S A s.heap H locs → lv_has ls 7 [(0, .ref (a 0)), (1, .int x1), (2, .int x2), (3, .int x3)] → W p l e (rmK 207 5476 0 0) s m args below meth c H locs 0 0 (RwQ below args s D A (fun q (σ : StL) => (wL cI cZ a q σ)) res 0 0) (F0 m 4 ls [])) (hk20 : ∀ (q : Nat) (σ : StL) (x1 x2 x3 x4 x5 : Int32) (H : Heap) (locs : List Loc) (ls : Array Slot), k20 σ x1 x2 x3 x4 x5 = some res → va_P D vwCl (wL cI cZ a q σ) H → va_D A (wL cI cZ a q σ) → va_S A s.heap H locs → lv_has ls 7 [(0, .ref (a 0)), (1, .int x1), (2, .int x2), (3, .int x3), (4, .int x4), (5, .int x5)] → W p l e (rmK 207 5476 0 0) s m args below meth c H locs 0 0 (RwQ below args s D A (fun q (σ : StL) => (wL cI cZ a q σ)) res 0 0) (F0 m 20 ls [])) {q : Nat} {σ : StL} {x1 x2 x3 x4 x5 : Int32} (h : f_L_dropNeedless_20_s k4 k20 σ x1 x2 x3 x4 x5 = some res) {H : Heap} {locs : List Loc} (hP : va_P D vwCl (wL cI cZ a q σ) H) (hD : va_D A (wL cI cZ a q σ)) (hS : va_S A s.heap H locs) {ls : Array Slot} (hl : lv_has ls 7 [(0, .ref (a 0)), (1, .int x1), (2, .int x2), (3, .int x3), (4, .int x4), (5, .int x5)]) : W p l e (rmK 207 5476 0 0) s m args below meth c H locs 0 0 (RwQ below args s D A (fun q (σ : StL) => (wL cI cZ a q σ)) res 0 0) (F0 m 20 ls []) := by
  obtain ⟨hx, hb, hr, hml, hown, hts, hlk, hK⟩ := id C0
  unfold f_L_dropNeedless_20_s at h
  refine lv_iload hx hb d_L_dropNeedless_20 (lv_at hl 5 rfl) ?_
  refine lv_iload_n hx hb d_L_dropNeedless_22 rfl (lv_at hl 1 rfl) ?_
  refine lv_icmp_ge (tgt := 73) hx hb d_L_dropNeedless_23 (by decide) (fun hc => ?_) (fun hc => ?_)
  · rw [if_pos hc] at h
    refine lv_aload_n hx hb d_L_dropNeedless_73 rfl (lv_at hl 0 rfl) ?_
    refine va_get (ci := 0) (v := .ref (a 1)) (C := R_L) (T := F_L) (N := 6) hx hb hts i_L hown hK.1 hP 0 rfl rfl 4 (by decide) (hts _ wd_256) (fun _ h9 => h9) rfl d_L_dropNeedless_74 ?_
    refine lv_iload_n hx hb d_L_dropNeedless_77 rfl (lv_at hl 2 rfl) ?_
    refine lv_iload hx hb d_L_dropNeedless_78 (lv_at hl 4 rfl) ?_
    replace h := gd h
    obtain ⟨hi, h⟩ := h
    refine rw_iast C0 hP hD hS 1 0 rfl rfl hi d_L_dropNeedless_80 (Wn := (wL cI cZ a q (L_put_row σ x2 x4))) ws_L_put_row (fun H locs hP hD hS => ?_)
    refine lv_iinc (v := (x2 + 1)) (lv' := [(2, .int (x2 + 1)), (0, .ref (a 0)), (1, .int x1), (3, .int x3), (4, .int x4), (5, .int x5)]) hx hb d_L_dropNeedless_81 hl (k := 2) rfl rfl (by decide) rfl (fun ls hl => ?_)
    refine lv_iinc (v := (x3 + 1)) (lv' := [(3, .int (x3 + 1)), (2, .int (x2 + 1)), (0, .ref (a 0)), (1, .int x1), (4, .int x4), (5, .int x5)]) hx hb d_L_dropNeedless_84 hl (k := 3) rfl rfl (by decide) rfl (fun ls hl => ?_)
    refine lv_goto (tgt := 4) hx hb d_L_dropNeedless_87 (by decide) ?_
    exact hk4 _ _ _ _ _ _ _ _ h hP hD hS (lv_sub hl [2, 3, 1, 0] rfl)
  · rw [if_neg hc] at h
    refine lv_aload_n hx hb d_L_dropNeedless_26 rfl (lv_at hl 0 rfl) ?_
    refine va_get (ci := 0) (v := .ref (a 2)) (C := R_L) (T := F_L) (N := 6) hx hb hts i_L hown hK.1 hP 0 rfl rfl 5 (by decide) (hts _ wd_305) (fun _ h9 => h9) rfl d_L_dropNeedless_27 ?_
    refine lv_iload hx hb d_L_dropNeedless_30 (lv_at hl 5 rfl) ?_
    replace h := gd h
    obtain ⟨hi, h⟩ := h
    refine va_iald hx hb hK.1 hP 2 0 rfl rfl hi d_L_dropNeedless_32 ?_
    refine lv_istore (lv' := [(6, .int ((L_gathered σ) x5.toNatClampNeg)), (0, .ref (a 0)), (1, .int x1), (2, .int x2), (3, .int x3), (4, .int x4), (5, .int x5)]) hx hb d_L_dropNeedless_33 hl (by decide) rfl (fun ls hl => ?_)
    refine lv_iload hx hb d_L_dropNeedless_35 (lv_at hl 0 rfl) ?_
    refine lv_iload hx hb d_L_dropNeedless_37 (lv_at hl 5 rfl) ?_
    refine lv_icmp_ne (tgt := 51) hx hb d_L_dropNeedless_39 (by decide) (fun hc => ?_) (fun hc => ?_)
    · rw [if_neg hc] at h
      refine lv_aload_n hx hb d_L_dropNeedless_51 rfl (lv_at hl 1 rfl) ?_
      refine lv_iload hx hb d_L_dropNeedless_52 (lv_at hl 0 rfl) ?_
      refine lv_iload hx hb d_L_dropNeedless_54 (lv_at hl 5 rfl) ?_
      refine lv_bipush (v := 100) hx hb d_L_dropNeedless_56 (by decide) ?_
      replace h := bd h
      obtain ⟨r1, g1, h⟩ := h
      refine rw_V (n := 3) (ci := 0) (As := [.int ((L_gathered σ) x5.toNatClampNeg), .int x4, .int 100]) (rest := []) (Wn := fun q => (wL cI cZ a q r1.2)) C0 hA (c_L_liesBelow (n := 101) l D cI cZ a q σ ((L_gathered σ) x5.toNatClampNeg) x4 100 g1) wd_282 ⟨wd_283, wd_284, wd_285, wd_55⟩ (by decide +kernel) ⟨Nat.le_of_ble_eq_true rfl, Nat.le_of_ble_eq_true rfl⟩ hP hD hS [0, 1, 2, 3, 4, 5, 6, 7, 8, 9, 10, 11, 12, 13, 14, 15, 16, 17, 18, 19, 20] [] [0, 1, 2, 3, 4, 5, 6, 7, 8, 9, 10, 11, 12, 13, 14, 15, 16, 17, 18, 19, 20] jn_L__C (by decide) jn_L__R (by decide) (by decide) (by decide) jn_L__W rfl rfl rfl hl rfl rfl (Nat.le_of_ble_eq_true rfl) ⟨Nat.zero_le _, Nat.zero_le _⟩ d_L_dropNeedless_58 (fun H locs q hP hD hS => ?_)
      try dsimp only at h
      refine lv_if_eq (tgt := 67) hx hb d_L_dropNeedless_61 (by decide) (fun hc => ?_) (fun hc => ?_)
      · rw [if_pos hc] at h
        refine lv_iinc (v := (x5 + 1)) (lv' := [(5, .int (x5 + 1)), (6, .int ((L_gathered σ) x5.toNatClampNeg)), (0, .ref (a 0)), (1, .int x1), (2, .int x2), (3, .int x3), (4, .int x4)]) hx hb d_L_dropNeedless_67 hl (k := 6) rfl rfl (by decide) rfl (fun ls hl => ?_)
        refine lv_goto (tgt := 20) hx hb d_L_dropNeedless_70 (by decide) ?_
        exact hk20 _ _ _ _ _ _ _ _ _ _ h hP hD hS (lv_sub hl [2, 3, 4, 5, 6, 0] rfl)
      · rw [if_neg hc] at h
        refine lv_goto (tgt := 84) hx hb d_L_dropNeedless_64 (by decide) ?_
        refine lv_iinc (v := (x3 + 1)) (lv' := [(3, .int (x3 + 1)), (6, .int ((L_gathered σ) x5.toNatClampNeg)), (0, .ref (a 0)), (1, .int x1), (2, .int x2), (4, .int x4), (5, .int x5)]) hx hb d_L_dropNeedless_84 hl (k := 4) rfl rfl (by decide) rfl (fun ls hl => ?_)
        refine lv_goto (tgt := 4) hx hb d_L_dropNeedless_87 (by decide) ?_
        exact hk4 _ _ _ _ _ _ _ _ h hP hD hS (lv_sub hl [2, 3, 4, 0] rfl)
    · rw [if_pos hc] at h
      refine lv_iload hx hb d_L_dropNeedless_42 (lv_at hl 6 rfl) ?_
      refine lv_iload_n hx hb d_L_dropNeedless_44 rfl (lv_at hl 4 rfl) ?_
      refine lv_icmp_ge (tgt := 67) hx hb d_L_dropNeedless_45 (by decide) (fun hc => ?_) (fun hc => ?_)
      · rw [if_pos hc] at h
        refine lv_iinc (v := (x5 + 1)) (lv' := [(5, .int (x5 + 1)), (6, .int ((L_gathered σ) x5.toNatClampNeg)), (0, .ref (a 0)), (1, .int x1), (2, .int x2), (3, .int x3), (4, .int x4)]) hx hb d_L_dropNeedless_67 hl (k := 6) rfl rfl (by decide) rfl (fun ls hl => ?_)
        refine lv_goto (tgt := 20) hx hb d_L_dropNeedless_70 (by decide) ?_
        exact hk20 _ _ _ _ _ _ _ _ _ _ h hP hD hS (lv_sub hl [2, 3, 4, 5, 6, 0] rfl)
      · rw [if_neg hc] at h
        refine lv_goto (tgt := 84) hx hb d_L_dropNeedless_48 (by decide) ?_
        refine lv_iinc (v := (x3 + 1)) (lv' := [(3, .int (x3 + 1)), (6, .int ((L_gathered σ) x5.toNatClampNeg)), (0, .ref (a 0)), (1, .int x1), (2, .int x2), (4, .int x4), (5, .int x5)]) hx hb d_L_dropNeedless_84 hl (k := 4) rfl rfl (by decide) rfl (fun ls hl => ?_)
        refine lv_goto (tgt := 4) hx hb d_L_dropNeedless_87 (by decide) ?_
        exact hk4 _ _ _ _ _ _ _ _ h hP hD hS (lv_sub hl [2, 3, 4, 0] rfl)
set_option maxHeartbeats 4000000 in
set_option maxRecDepth 100000 in
theorem t_L_dropNeedless_20 {p : Program} {l : Launch} {e : Env} {s : State} {m : MethodId} {args : Array Value} {below : List Frame} {meth : Method} {c : Code} {D : va_G} {cI cZ : ClassId} {a : Nat → Nat} {A : Nat → Prop} (C0 : Am p s m args meth c b_L_dropNeedless (some .int) 7 R_L D [(cI, .int), (cZ, .boolean)]) (hA : ∀ q, s.heap.size ≤ q → A q) {res : Int32 × StL} {k4 : StL → Int32 → Int32 → Int32 → Option (Int32 × StL)} (hk4 : ∀ (q : Nat) (σ : StL) (x1 x2 x3 : Int32) (H : Heap) (locs : List Loc) (ls : Array Slot), k4 σ x1 x2 x3 = some res → va_P D vwCl (wL cI cZ a q σ) H → va_D A (wL cI cZ a q σ) → va_S A s.heap H locs → lv_has ls 7 [(0, .ref (a 0)), (1, .int x1), (2, .int x2), (3, .int x3)] → W p l e (rmK 207 5476 0 0) s m args below meth c H locs 0 0 (RwQ below args s D A (fun q (σ : StL) => (wL cI cZ a q σ)) res 0 0) (F0 m 4 ls [])) {n : Nat} {q : Nat} {σ : StL} {x1 x2 x3 x4 x5 : Int32} (h : f_L_dropNeedless_20 k4 n σ x1 x2 x3 x4 x5 = some res) {H : Heap} {locs : List Loc} (hP : va_P D vwCl (wL cI cZ a q σ) H) (hD : va_D A (wL cI cZ a q σ)) (hS : va_S A s.heap H locs) {ls : Array Slot} (hl : lv_has ls 7 [(0, .ref (a 0)), (1, .int x1), (2, .int x2), (3, .int x3), (4, .int x4), (5, .int x5)]) : W p l e (rmK 207 5476 0 0) s m args below meth c H locs 0 0 (RwQ below args s D A (fun q (σ : StL) => (wL cI cZ a q σ)) res 0 0) (F0 m 20 ls []) := by
  induction n generalizing q σ x1 x2 x3 x4 x5 H locs ls with
  | zero => cases h
  | succ n ih => exact t_L_dropNeedless_20_s (a := a) C0 hA hk4 (fun _ _ _ _ _ _ _ _ _ _ h hP hD hS hl => ih h hP hD hS hl) h hP hD hS hl
set_option maxHeartbeats 4000000 in
set_option maxRecDepth 100000 in
theorem t_L_dropNeedless_4_s {p : Program} {l : Launch} {e : Env} {s : State} {m : MethodId} {args : Array Value} {below : List Frame} {meth : Method} {c : Code} {D : va_G} {cI cZ : ClassId} {a : Nat → Nat} {A : Nat → Prop} (C0 : Am p s m args meth c b_L_dropNeedless (some .int) 7 R_L D [(cI, .int), (cZ, .boolean)]) (hA : ∀ q, s.heap.size ≤ q → A q) {res : Int32 × StL} {k4 : StL → Int32 → Int32 → Int32 → Option (Int32 × StL)}  (hk4 : ∀ (q : Nat) (σ : StL) (x1 x2 x3 : Int32) (H : Heap) (locs : List Loc) (ls : Array Slot), k4 σ x1 x2 x3 = some res → va_P D vwCl (wL cI cZ a q σ) H → va_D A (wL cI cZ a q σ) → va_S A s.heap H locs → lv_has ls 7 [(0, .ref (a 0)), (1, .int x1), (2, .int x2), (3, .int x3)] → W p l e (rmK 207 5476 0 0) s m args below meth c H locs 0 0 (RwQ below args s D A (fun q (σ : StL) => (wL cI cZ a q σ)) res 0 0) (F0 m 4 ls [])) {q : Nat} {σ : StL} {x1 x2 x3 : Int32} (h : f_L_dropNeedless_4_s k4 σ x1 x2 x3 = some res) {H : Heap} {locs : List Loc} (hP : va_P D vwCl (wL cI cZ a q σ) H) (hD : va_D A (wL cI cZ a q σ)) (hS : va_S A s.heap H locs) {ls : Array Slot} (hl : lv_has ls 7 [(0, .ref (a 0)), (1, .int x1), (2, .int x2), (3, .int x3)]) : W p l e (rmK 207 5476 0 0) s m args below meth c H locs 0 0 (RwQ below args s D A (fun q (σ : StL) => (wL cI cZ a q σ)) res 0 0) (F0 m 4 ls []) := by
  obtain ⟨hx, hb, hr, hml, hown, hts, hlk, hK⟩ := id C0
  unfold f_L_dropNeedless_4_s at h
  refine lv_iload_n hx hb d_L_dropNeedless_4 rfl (lv_at hl 3 rfl) ?_
  refine lv_iload_n hx hb d_L_dropNeedless_5 rfl (lv_at hl 1 rfl) ?_
  refine lv_icmp_ge (tgt := 90) hx hb d_L_dropNeedless_6 (by decide) (fun hc => ?_) (fun hc => ?_)
  · rw [if_pos hc] at h
    refine lv_aload_n hx hb d_L_dropNeedless_90 rfl (lv_at hl 0 rfl) ?_
    refine va_get (ci := 0) (v := .ref (a 1)) (C := R_L) (T := F_L) (N := 6) hx hb hts i_L hown hK.1 hP 0 rfl rfl 4 (by decide) (hts _ wd_256) (fun _ h9 => h9) rfl d_L_dropNeedless_91 ?_
    refine lv_iconst (v := 0) hx hb d_L_dropNeedless_94 (by decide) ?_
    refine lv_aload_n hx hb d_L_dropNeedless_95 rfl (lv_at hl 0 rfl) ?_
    refine va_get (ci := 0) (v := .ref (a 2)) (C := R_L) (T := F_L) (N := 6) hx hb hts i_L hown hK.1 hP 0 rfl rfl 5 (by decide) (hts _ wd_305) (fun _ h9 => h9) rfl d_L_dropNeedless_96 ?_
    refine lv_iconst (v := 0) hx hb d_L_dropNeedless_99 (by decide) ?_
    refine lv_iload_n hx hb d_L_dropNeedless_100 rfl (lv_at hl 2 rfl) ?_
    replace h := gd h
    obtain ⟨hi, h⟩ := h
    refine rw_copy C0 hl hP hD hS 1 2 0 0 rfl rfl rfl rfl hi (hts _ wd_306) (hts _ wd_228) (hts _ wd_229) (hts _ wd_230) (Nat.le_of_ble_eq_true rfl) (Nat.le_of_ble_eq_true rfl) d_L_dropNeedless_101 (Wn := (wL cI cZ a q (L_set_gathered σ (va_cpy (L_row σ) (L_gathered σ) (0 : Int32).toNatClampNeg (0 : Int32).toNatClampNeg x2.toNatClampNeg)))) ws_L_seta_gathered (fun H locs hP hD hS => ?_)
    refine lv_iload_n hx hb d_L_dropNeedless_104 rfl (lv_at hl 2 rfl) ?_
    exact rw_ret C0 hP hD hS (Option.some.inj h) d_L_dropNeedless_105
  · rw [if_neg hc] at h
    refine lv_aload_n hx hb d_L_dropNeedless_9 rfl (lv_at hl 0 rfl) ?_
    refine va_get (ci := 0) (v := .ref (a 2)) (C := R_L) (T := F_L) (N := 6) hx hb hts i_L hown hK.1 hP 0 rfl rfl 5 (by decide) (hts _ wd_305) (fun _ h9 => h9) rfl d_L_dropNeedless_10 ?_
    refine lv_iload_n hx hb d_L_dropNeedless_13 rfl (lv_at hl 3 rfl) ?_
    replace h := gd h
    obtain ⟨hi, h⟩ := h
    refine va_iald hx hb hK.1 hP 2 0 rfl rfl hi d_L_dropNeedless_14 ?_
    refine lv_istore (lv' := [(4, .int ((L_gathered σ) x3.toNatClampNeg)), (0, .ref (a 0)), (1, .int x1), (2, .int x2), (3, .int x3)]) hx hb d_L_dropNeedless_15 hl (by decide) rfl (fun ls hl => ?_)
    refine lv_iconst (v := 0) hx hb d_L_dropNeedless_17 (by decide) ?_
    refine lv_istore (lv' := [(5, .int 0), (4, .int ((L_gathered σ) x3.toNatClampNeg)), (0, .ref (a 0)), (1, .int x1), (2, .int x2), (3, .int x3)]) hx hb d_L_dropNeedless_18 hl (by decide) rfl (fun ls hl => ?_)
    exact t_L_dropNeedless_20 (a := a) C0 hA hk4 h hP hD hS (lv_sub hl [2, 3, 4, 5, 1, 0] rfl)
set_option maxHeartbeats 4000000 in
set_option maxRecDepth 100000 in
theorem t_L_dropNeedless_4 {p : Program} {l : Launch} {e : Env} {s : State} {m : MethodId} {args : Array Value} {below : List Frame} {meth : Method} {c : Code} {D : va_G} {cI cZ : ClassId} {a : Nat → Nat} {A : Nat → Prop} (C0 : Am p s m args meth c b_L_dropNeedless (some .int) 7 R_L D [(cI, .int), (cZ, .boolean)]) (hA : ∀ q, s.heap.size ≤ q → A q) {res : Int32 × StL}  {n : Nat} {q : Nat} {σ : StL} {x1 x2 x3 : Int32} (h : f_L_dropNeedless_4  n σ x1 x2 x3 = some res) {H : Heap} {locs : List Loc} (hP : va_P D vwCl (wL cI cZ a q σ) H) (hD : va_D A (wL cI cZ a q σ)) (hS : va_S A s.heap H locs) {ls : Array Slot} (hl : lv_has ls 7 [(0, .ref (a 0)), (1, .int x1), (2, .int x2), (3, .int x3)]) : W p l e (rmK 207 5476 0 0) s m args below meth c H locs 0 0 (RwQ below args s D A (fun q (σ : StL) => (wL cI cZ a q σ)) res 0 0) (F0 m 4 ls []) := by
  induction n generalizing q σ x1 x2 x3 H locs ls with
  | zero => cases h
  | succ n ih => exact t_L_dropNeedless_4_s (a := a) C0 hA  (fun _ _ _ _ _ _ _ _ h hP hD hS hl => ih h hP hD hS hl) h hP hD hS hl
set_option maxHeartbeats 4000000 in
set_option maxRecDepth 100000 in
theorem t_L_dropNeedless_0 {p : Program} {l : Launch} {e : Env} {s : State} {m : MethodId} {args : Array Value} {below : List Frame} {meth : Method} {c : Code} {D : va_G} {cI cZ : ClassId} {a : Nat → Nat} {A : Nat → Prop} (C0 : Am p s m args meth c b_L_dropNeedless (some .int) 7 R_L D [(cI, .int), (cZ, .boolean)]) (hA : ∀ q, s.heap.size ≤ q → A q) {res : Int32 × StL}   {q : Nat} {σ : StL} {x1 : Int32} (h : f_L_dropNeedless σ x1 = some res) {H : Heap} {locs : List Loc} (hP : va_P D vwCl (wL cI cZ a q σ) H) (hD : va_D A (wL cI cZ a q σ)) (hS : va_S A s.heap H locs) {ls : Array Slot} (hl : lv_has ls 7 [(0, .ref (a 0)), (1, .int x1)]) : W p l e (rmK 207 5476 0 0) s m args below meth c H locs 0 0 (RwQ below args s D A (fun q (σ : StL) => (wL cI cZ a q σ)) res 0 0) (F0 m 0 ls []) := by
  obtain ⟨hx, hb, hr, hml, hown, hts, hlk, hK⟩ := id C0
  unfold f_L_dropNeedless at h
  refine lv_iconst (v := 0) hx hb d_L_dropNeedless_0 (by decide) ?_
  refine lv_istore_n (lv' := [(2, .int 0), (0, .ref (a 0)), (1, .int x1)]) hx hb d_L_dropNeedless_1 rfl hl (by decide) rfl (fun ls hl => ?_)
  refine lv_iconst (v := 0) hx hb d_L_dropNeedless_2 (by decide) ?_
  refine lv_istore_n (lv' := [(3, .int 0), (2, .int 0), (0, .ref (a 0)), (1, .int x1)]) hx hb d_L_dropNeedless_3 rfl hl (by decide) rfl (fun ls hl => ?_)
  exact t_L_dropNeedless_4 (a := a) C0 hA  h hP hD hS (lv_sub hl [2, 3, 1, 0] rfl)
set_option maxHeartbeats 4000000 in
set_option maxRecDepth 100000 in
theorem c_L_dropNeedless (l : Launch) (D : va_G) (cI cZ : ClassId) (a : Nat → Nat) (q : Nat) (σ : StL) (x1 : Int32) {res : Int32 × StL} (h : f_L_dropNeedless σ x1 = some res) : RwM l y_L_dropNeedless b_L_dropNeedless 7 (some .int) 207 5476 D [(cI, .int), (cZ, .boolean)] [.ref (a 0), .int x1] (fun q (σ : StL) => (wL cI cZ a q σ)) q σ res :=
  rw_of (by decide) (Nat.le_of_ble_eq_true rfl) (fun p e s m args below meth c ls A C0 hA hP hD hS hl => t_L_dropNeedless_0 (a := a) C0 hA h hP hD hS (lv_sub hl [0, 1] rfl))
-- part 07.5L.22L_closeRow.lean.txt
def f_L_closeRow_4_s (k4 : StL → Int32 → Int32 → Option (Int32 × StL)) (σ : StL) (x1 x2 : Int32) : Option (Int32 × StL) :=
  if 30 ≤ x2 then
    some (x1, σ)
  else
    if x2 < 0 ∨ 90 ≤ x2.toNatClampNeg then none else
    if ((L_row σ) x2.toNatClampNeg) = (-1) then
      k4 σ x1 (x2 + 1)
    else
      if x2 < 0 ∨ 90 ≤ x2.toNatClampNeg then none else
      if x1 < 0 ∨ 90 ≤ x1.toNatClampNeg then none else
      k4 (L_put_row σ x1 ((L_row σ) x2.toNatClampNeg)) (x1 + 1) (x2 + 1)
def f_L_closeRow_4 : Nat → StL → Int32 → Int32 → Option (Int32 × StL)
  | 0, _, _, _ => none
  | n + 1, σ, x1, x2 => f_L_closeRow_4_s (f_L_closeRow_4 n) σ x1 x2
def f_L_closeRow (σ : StL) : Option (Int32 × StL) :=
  f_L_closeRow_4 1000 σ 0 0
set_option maxHeartbeats 4000000 in
set_option maxRecDepth 100000 in
theorem t_L_closeRow_4_s {p : Program} {l : Launch} {e : Env} {s : State} {m : MethodId} {args : Array Value} {below : List Frame} {meth : Method} {c : Code} {D : va_G} {cI cZ : ClassId} {a : Nat → Nat} {A : Nat → Prop} (C0 : Am p s m args meth c b_L_closeRow (some .int) 3 R_L D [(cI, .int), (cZ, .boolean)]) (hA : ∀ q, s.heap.size ≤ q → A q) {res : Int32 × StL} {k4 : StL → Int32 → Int32 → Option (Int32 × StL)}  (hk4 : ∀ (q : Nat) (σ : StL) (x1 x2 : Int32) (H : Heap) (locs : List Loc) (ls : Array Slot), k4 σ x1 x2 = some res → va_P D vwCl (wL cI cZ a q σ) H → va_D A (wL cI cZ a q σ) → va_S A s.heap H locs → lv_has ls 3 [(0, .ref (a 0)), (1, .int x1), (2, .int x2)] → W p l e (rmK 0 0 0 0) s m args below meth c H locs 0 0 (RwQ below args s D A (fun q (σ : StL) => (wL cI cZ a q σ)) res 0 0) (F0 m 4 ls [])) {q : Nat} {σ : StL} {x1 x2 : Int32} (h : f_L_closeRow_4_s k4 σ x1 x2 = some res) {H : Heap} {locs : List Loc} (hP : va_P D vwCl (wL cI cZ a q σ) H) (hD : va_D A (wL cI cZ a q σ)) (hS : va_S A s.heap H locs) {ls : Array Slot} (hl : lv_has ls 3 [(0, .ref (a 0)), (1, .int x1), (2, .int x2)]) : W p l e (rmK 0 0 0 0) s m args below meth c H locs 0 0 (RwQ below args s D A (fun q (σ : StL) => (wL cI cZ a q σ)) res 0 0) (F0 m 4 ls []) := by
  obtain ⟨hx, hb, hr, hml, hown, hts, hlk, hK⟩ := id C0
  unfold f_L_closeRow_4_s at h
  refine lv_iload_n hx hb d_L_closeRow_4 rfl (lv_at hl 2 rfl) ?_
  refine lv_bipush (v := 30) hx hb d_L_closeRow_5 (by decide) ?_
  refine lv_icmp_ge (tgt := 41) hx hb d_L_closeRow_7 (by decide) (fun hc => ?_) (fun hc => ?_)
  · rw [if_pos hc] at h
    refine lv_iload_n hx hb d_L_closeRow_41 rfl (lv_at hl 1 rfl) ?_
    exact rw_ret C0 hP hD hS (Option.some.inj h) d_L_closeRow_42
  · rw [if_neg hc] at h
    refine lv_aload_n hx hb d_L_closeRow_10 rfl (lv_at hl 0 rfl) ?_
    refine va_get (ci := 0) (v := .ref (a 1)) (C := R_L) (T := F_L) (N := 6) hx hb hts i_L hown hK.1 hP 0 rfl rfl 4 (by decide) (hts _ wd_256) (fun _ h9 => h9) rfl d_L_closeRow_11 ?_
    refine lv_iload_n hx hb d_L_closeRow_14 rfl (lv_at hl 2 rfl) ?_
    replace h := gd h
    obtain ⟨hi, h⟩ := h
    refine va_iald hx hb hK.1 hP 1 0 rfl rfl hi d_L_closeRow_15 ?_
    refine lv_iconst (v := (-1)) hx hb d_L_closeRow_16 (by decide) ?_
    refine lv_icmp_eq (tgt := 35) hx hb d_L_closeRow_17 (by decide) (fun hc => ?_) (fun hc => ?_)
    · rw [if_pos hc] at h
      refine lv_iinc (v := (x2 + 1)) (lv' := [(2, .int (x2 + 1)), (0, .ref (a 0)), (1, .int x1)]) hx hb d_L_closeRow_35 hl (k := 2) rfl rfl (by decide) rfl (fun ls hl => ?_)
      refine lv_goto (tgt := 4) hx hb d_L_closeRow_38 (by decide) ?_
      exact hk4 _ _ _ _ _ _ _ h hP hD hS (lv_sub hl [1, 2, 0] rfl)
    · rw [if_neg hc] at h
      refine lv_aload_n hx hb d_L_closeRow_20 rfl (lv_at hl 0 rfl) ?_
      refine va_get (ci := 0) (v := .ref (a 1)) (C := R_L) (T := F_L) (N := 6) hx hb hts i_L hown hK.1 hP 0 rfl rfl 4 (by decide) (hts _ wd_256) (fun _ h9 => h9) rfl d_L_closeRow_21 ?_
      refine lv_iload_n hx hb d_L_closeRow_24 rfl (lv_at hl 1 rfl) ?_
      refine lv_aload_n hx hb d_L_closeRow_25 rfl (lv_at hl 0 rfl) ?_
      refine va_get (ci := 0) (v := .ref (a 1)) (C := R_L) (T := F_L) (N := 6) hx hb hts i_L hown hK.1 hP 0 rfl rfl 4 (by decide) (hts _ wd_256) (fun _ h9 => h9) rfl d_L_closeRow_26 ?_
      refine lv_iload_n hx hb d_L_closeRow_29 rfl (lv_at hl 2 rfl) ?_
      replace h := gd h
      obtain ⟨hi, h⟩ := h
      refine va_iald hx hb hK.1 hP 1 0 rfl rfl hi d_L_closeRow_30 ?_
      replace h := gd h
      obtain ⟨hi, h⟩ := h
      refine rw_iast C0 hP hD hS 1 0 rfl rfl hi d_L_closeRow_31 (Wn := (wL cI cZ a q (L_put_row σ x1 ((L_row σ) x2.toNatClampNeg)))) ws_L_put_row (fun H locs hP hD hS => ?_)
      refine lv_iinc (v := (x1 + 1)) (lv' := [(1, .int (x1 + 1)), (0, .ref (a 0)), (2, .int x2)]) hx hb d_L_closeRow_32 hl (k := 1) rfl rfl (by decide) rfl (fun ls hl => ?_)
      refine lv_iinc (v := (x2 + 1)) (lv' := [(2, .int (x2 + 1)), (1, .int (x1 + 1)), (0, .ref (a 0))]) hx hb d_L_closeRow_35 hl (k := 2) rfl rfl (by decide) rfl (fun ls hl => ?_)
      refine lv_goto (tgt := 4) hx hb d_L_closeRow_38 (by decide) ?_
      exact hk4 _ _ _ _ _ _ _ h hP hD hS (lv_sub hl [2, 1, 0] rfl)
set_option maxHeartbeats 4000000 in
set_option maxRecDepth 100000 in
theorem t_L_closeRow_4 {p : Program} {l : Launch} {e : Env} {s : State} {m : MethodId} {args : Array Value} {below : List Frame} {meth : Method} {c : Code} {D : va_G} {cI cZ : ClassId} {a : Nat → Nat} {A : Nat → Prop} (C0 : Am p s m args meth c b_L_closeRow (some .int) 3 R_L D [(cI, .int), (cZ, .boolean)]) (hA : ∀ q, s.heap.size ≤ q → A q) {res : Int32 × StL}  {n : Nat} {q : Nat} {σ : StL} {x1 x2 : Int32} (h : f_L_closeRow_4  n σ x1 x2 = some res) {H : Heap} {locs : List Loc} (hP : va_P D vwCl (wL cI cZ a q σ) H) (hD : va_D A (wL cI cZ a q σ)) (hS : va_S A s.heap H locs) {ls : Array Slot} (hl : lv_has ls 3 [(0, .ref (a 0)), (1, .int x1), (2, .int x2)]) : W p l e (rmK 0 0 0 0) s m args below meth c H locs 0 0 (RwQ below args s D A (fun q (σ : StL) => (wL cI cZ a q σ)) res 0 0) (F0 m 4 ls []) := by
  induction n generalizing q σ x1 x2 H locs ls with
  | zero => cases h
  | succ n ih => exact t_L_closeRow_4_s (a := a) C0 hA  (fun _ _ _ _ _ _ _ h hP hD hS hl => ih h hP hD hS hl) h hP hD hS hl
set_option maxHeartbeats 4000000 in
set_option maxRecDepth 100000 in
theorem t_L_closeRow_0 {p : Program} {l : Launch} {e : Env} {s : State} {m : MethodId} {args : Array Value} {below : List Frame} {meth : Method} {c : Code} {D : va_G} {cI cZ : ClassId} {a : Nat → Nat} {A : Nat → Prop} (C0 : Am p s m args meth c b_L_closeRow (some .int) 3 R_L D [(cI, .int), (cZ, .boolean)]) (hA : ∀ q, s.heap.size ≤ q → A q) {res : Int32 × StL}   {q : Nat} {σ : StL} (h : f_L_closeRow σ = some res) {H : Heap} {locs : List Loc} (hP : va_P D vwCl (wL cI cZ a q σ) H) (hD : va_D A (wL cI cZ a q σ)) (hS : va_S A s.heap H locs) {ls : Array Slot} (hl : lv_has ls 3 [(0, .ref (a 0))]) : W p l e (rmK 0 0 0 0) s m args below meth c H locs 0 0 (RwQ below args s D A (fun q (σ : StL) => (wL cI cZ a q σ)) res 0 0) (F0 m 0 ls []) := by
  obtain ⟨hx, hb, hr, hml, hown, hts, hlk, hK⟩ := id C0
  unfold f_L_closeRow at h
  refine lv_iconst (v := 0) hx hb d_L_closeRow_0 (by decide) ?_
  refine lv_istore_n (lv' := [(1, .int 0), (0, .ref (a 0))]) hx hb d_L_closeRow_1 rfl hl (by decide) rfl (fun ls hl => ?_)
  refine lv_iconst (v := 0) hx hb d_L_closeRow_2 (by decide) ?_
  refine lv_istore_n (lv' := [(2, .int 0), (1, .int 0), (0, .ref (a 0))]) hx hb d_L_closeRow_3 rfl hl (by decide) rfl (fun ls hl => ?_)
  exact t_L_closeRow_4 (a := a) C0 hA  h hP hD hS (lv_sub hl [2, 1, 0] rfl)
set_option maxHeartbeats 4000000 in
set_option maxRecDepth 100000 in
theorem c_L_closeRow (l : Launch) (D : va_G) (cI cZ : ClassId) (a : Nat → Nat) (q : Nat) (σ : StL) {res : Int32 × StL} (h : f_L_closeRow σ = some res) : RwM l y_L_closeRow b_L_closeRow 3 (some .int) 0 0 D [(cI, .int), (cZ, .boolean)] [.ref (a 0)] (fun q (σ : StL) => (wL cI cZ a q σ)) q σ res :=
  rw_of (by decide) (Nat.le_of_ble_eq_true rfl) (fun p e s m args below meth c ls A C0 hA hP hD hS hl => t_L_closeRow_0 (a := a) C0 hA h hP hD hS (lv_sub hl [0] rfl))
