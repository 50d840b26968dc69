def f_L_find_75 (k41 : StL → Int32 → Int32 → Int32 → Int32 → Option Int32) (σ : StL) (x1 x2 x3 x4 t0 : Int32) : Option Int32 :=
  (f_T_classOf (L_types σ) t0).bind fun r5 =>
  (f_T_argumentAt (L_types σ) t0).bind fun r6 =>
  (f_C_climb (L_classes σ) r5 r6 x2).bind fun r7 =>
  if r7 = (-1) then
    k41 σ x1 x2 x3 (x4 + 1)
  else
    some r7
def f_L_find_41_s (k41 : StL → Int32 → Int32 → Int32 → Int32 → Option Int32) (σ : StL) (x1 x2 x3 x4 : Int32) : Option Int32 :=
  if x3 ≤ x4 then
    some (-1)
  else
    (f_T_kindOf (L_types σ) x1).bind fun r3 =>
    if r3 = 0 then
      f_L_find_75 k41 σ x1 x2 x3 x4 (f_L_boxTypeOf x1)
    else
      (f_T_partOf (L_types σ) x1 x4).bind fun r4 =>
      f_L_find_75 k41 σ x1 x2 x3 x4 r4
def f_L_find_41 : Nat → StL → Int32 → Int32 → Int32 → Int32 → Option Int32
  | 0, _, _, _, _, _ => none
  | n + 1, σ, x1, x2, x3, x4 => f_L_find_41_s (f_L_find_41 n) σ x1 x2 x3 x4
def f_L_find_26 (σ : StL) : Option Int32 :=
  some 0
def f_L_find (σ : StL) (x1 x2 : Int32) : Option Int32 :=
  (f_T_kindOf (L_types σ) x1).bind fun r1 =>
  if r1 = 2 then
    if x2 = 0 then
      f_L_find_26 σ
    else
      if x2 = 1 then
        f_L_find_26 σ
      else
        if x2 = 2 then
          f_L_find_26 σ
        else
          some (-1)
  else
    (f_L_countHolders σ x1).bind fun r2 =>
    f_L_find_41 1000 σ x1 x2 r2 0
set_option maxHeartbeats 4000000 in
set_option maxRecDepth 100000 in
theorem t_L_find_75 {p : Program} {l : Launch} {e : Env} {s : State} {m : MethodId} {args : Array Value} {below : List Frame} {meth : Method} {c : Code} {D : va_G} {cI cZ : ClassId} {a : Nat → Nat} {q : Nat} {σ : StL} (C0 : Am p s m args meth c b_L_find (some .int) 7 R_L D [(cI, .int), (cZ, .boolean)]) (hP : va_P D vwCl (wL cI cZ a q σ) s.heap) {val : Int32} {k41 : StL → Int32 → Int32 → Int32 → Int32 → Option Int32} (hk41 : ∀ (x1 x2 x3 x4 : Int32) (ls : Array Slot), k41 σ x1 x2 x3 x4 = some val → lv_has ls 7 [(0, .ref (a 0)), (1, .int x1), (2, .int x2), (3, .int x3), (4, .int x4)] → RoW p l e (rmK 3 72 0 0) s m args below meth c val (F0 m 41 ls []))  {x1 x2 x3 x4 t0 : Int32} (h : f_L_find_75 k41 σ x1 x2 x3 x4 t0 = some val) {ls : Array Slot} (hl : lv_has ls 7 [(0, .ref (a 0)), (1, .int x1), (2, .int x2), (3, .int x3), (4, .int x4)]) : RoW p l e (rmK 3 72 0 0) s m args below meth c val (F0 m 75 ls [.int t0]) := by
  obtain ⟨hx, hb, hr, hml, hown, hts, hlk, hK⟩ := id C0
  unfold f_L_find_75 at h
  refine lv_istore (lv' := [(5, .int t0), (0, .ref (a 0)), (1, .int x1), (2, .int x2), (3, .int x3), (4, .int x4)]) hx hb d_L_find_75 hl (by decide) rfl (fun ls hl => ?_)
  refine lv_aload_n hx hb d_L_find_77 rfl (lv_at hl 1 rfl) ?_
  refine va_get (ci := 0) (v := .ref (a 3)) (C := R_L) (T := F_L) (N := 6) hx hb hts i_L hown hK.1 hP 0 rfl rfl 1 (by decide) (hts _ wd_67) (fun _ h9 => h9) rfl d_L_find_78 ?_
  refine lv_aload_n hx hb d_L_find_81 rfl (lv_at hl 1 rfl) ?_
  refine va_get (ci := 0) (v := .ref (a 10)) (C := R_L) (T := F_L) (N := 6) hx hb hts i_L hown hK.1 hP 0 rfl rfl 2 (by decide) (hts _ wd_85) (fun _ h9 => h9) rfl d_L_find_82 ?_
  refine lv_iload hx hb d_L_find_85 (lv_at hl 0 rfl) ?_
  replace h := bd h
  obtain ⟨r5, g5, h⟩ := h
  refine ro_V (n := 1) (ci := 2) (As := [.int t0]) (rest := [.ref (a 3)]) C0 (c_T_classOf l D cI cZ a q (L_types σ) t0 g5) wd_195 ⟨wd_196, wd_197, wd_198, wd_52⟩ (by decide +kernel) ⟨Nat.le_of_ble_eq_true rfl, Nat.le_of_ble_eq_true rfl⟩ (hP.pick [10, 11, 12, 13, 14, 15, 16, 17, 18] rfl) rfl rfl rfl hl rfl rfl (Nat.le_of_ble_eq_true rfl) ⟨Nat.zero_le _, Nat.zero_le _⟩ d_L_find_87 ?_
  try dsimp only at h
  refine lv_aload_n hx hb d_L_find_90 rfl (lv_at hl 1 rfl) ?_
  refine va_get (ci := 0) (v := .ref (a 10)) (C := R_L) (T := F_L) (N := 6) hx hb hts i_L hown hK.1 hP 0 rfl rfl 2 (by decide) (hts _ wd_85) (fun _ h9 => h9) rfl d_L_find_91 ?_
  refine lv_iload hx hb d_L_find_94 (lv_at hl 0 rfl) ?_
  replace h := bd h
  obtain ⟨r6, g6, h⟩ := h
  refine ro_V (n := 1) (ci := 2) (As := [.int t0]) (rest := [.int r5, .ref (a 3)]) C0 (c_T_argumentAt l D cI cZ a q (L_types σ) t0 g6) wd_217 ⟨wd_218, wd_219, wd_220, wd_52⟩ (by decide +kernel) ⟨Nat.le_of_ble_eq_true rfl, Nat.le_of_ble_eq_true rfl⟩ (hP.pick [10, 11, 12, 13, 14, 15, 16, 17, 18] rfl) rfl rfl rfl hl rfl rfl (Nat.le_of_ble_eq_true rfl) ⟨Nat.zero_le _, Nat.zero_le _⟩ d_L_find_96 ?_
  try dsimp only at h
  refine lv_iload_n hx hb d_L_find_99 rfl (lv_at hl 3 rfl) ?_
  replace h := bd h
  obtain ⟨r7, g7, h⟩ := h
  refine ro_V (n := 3) (ci := 1) (As := [.int r5, .int r6, .int x2]) (rest := []) C0 (c_C_climb l D cI cZ a q (L_classes σ) r5 r6 x2 g7) wd_221 ⟨wd_125, wd_126, wd_127, wd_8⟩ (by decide +kernel) ⟨Nat.le_of_ble_eq_true rfl, Nat.le_of_ble_eq_true rfl⟩ (hP.pick [3, 4, 5, 6, 7, 8, 9] rfl) rfl rfl rfl hl rfl rfl (Nat.le_of_ble_eq_true rfl) ⟨Nat.zero_le _, Nat.zero_le _⟩ d_L_find_100 ?_
  try dsimp only at h
  refine lv_istore (lv' := [(6, .int r7), (5, .int t0), (0, .ref (a 0)), (1, .int x1), (2, .int x2), (3, .int x3), (4, .int x4)]) hx hb d_L_find_103 hl (by decide) rfl (fun ls hl => ?_)
  refine lv_iload hx hb d_L_find_105 (lv_at hl 0 rfl) ?_
  refine lv_iconst (v := (-1)) hx hb d_L_find_107 (by decide) ?_
  refine lv_icmp_eq (tgt := 114) hx hb d_L_find_108 (by decide) (fun hc => ?_) (fun hc => ?_)
  · rw [if_pos hc] at h
    refine lv_iinc (v := (x4 + 1)) (lv' := [(4, .int (x4 + 1)), (6, .int r7), (5, .int t0), (0, .ref (a 0)), (1, .int x1), (2, .int x2), (3, .int x3)]) hx hb d_L_find_114 hl (k := 6) rfl rfl (by decide) rfl (fun ls hl => ?_)
    refine lv_goto (tgt := 41) hx hb d_L_find_117 (by decide) ?_
    exact hk41 _ _ _ _ _ h (lv_sub hl [3, 4, 5, 6, 0] rfl)
  · rw [if_neg hc] at h
    refine lv_iload hx hb d_L_find_111 (lv_at hl 0 rfl) ?_
    exact ro_ret C0 (Option.some.inj h) d_L_find_113
set_option maxHeartbeats 4000000 in
set_option maxRecDepth 100000 in
theorem t_L_find_41_s {p : Program} {l : Launch} {e : Env} {s : State} {m : MethodId} {args : Array Value} {below : List Frame} {meth : Method} {c : Code} {D : va_G} {cI cZ : ClassId} {a : Nat → Nat} {q : Nat} {σ : StL} (C0 : Am p s m args meth c b_L_find (some .int) 7 R_L D [(cI, .int), (cZ, .boolean)]) (hP : va_P D vwCl (wL cI cZ a q σ) s.heap) {val : Int32} {k41 : StL → Int32 → Int32 → Int32 → Int32 → Option Int32}  (hk41 : ∀ (x1 x2 x3 x4 : Int32) (ls : Array Slot), k41 σ x1 x2 x3 x4 = some val → lv_has ls 7 [(0, .ref (a 0)), (1, .int x1), (2, .int x2), (3, .int x3), (4, .int x4)] → RoW p l e (rmK 3 72 0 0) s m args below meth c val (F0 m 41 ls [])) {x1 x2 x3 x4 : Int32} (h : f_L_find_41_s k41 σ x1 x2 x3 x4 = some val) {ls : Array Slot} (hl : lv_has ls 7 [(0, .ref (a 0)), (1, .int x1), (2, .int x2), (3, .int x3), (4, .int x4)]) : RoW p l e (rmK 3 72 0 0) s m args below meth c val (F0 m 41 ls []) := by
  obtain ⟨hx, hb, hr, hml, hown, hts, hlk, hK⟩ := id C0
  unfold f_L_find_41_s at h
  refine lv_iload hx hb d_L_find_41 (lv_at hl 4 rfl) ?_
  refine lv_iload_n hx hb d_L_find_43 rfl (lv_at hl 3 rfl) ?_
  refine lv_icmp_ge (tgt := 120) hx hb d_L_find_44 (by decide) (fun hc => ?_) (fun hc => ?_)
  · rw [if_pos hc] at h
    refine lv_iconst (v := (-1)) hx hb d_L_find_120 (by decide) ?_
    exact ro_ret C0 (Option.some.inj h) d_L_find_121
  · rw [if_neg hc] at h
    refine lv_aload_n hx hb d_L_find_47 rfl (lv_at hl 0 rfl) ?_
    refine va_get (ci := 0) (v := .ref (a 10)) (C := R_L) (T := F_L) (N := 6) hx hb hts i_L hown hK.1 hP 0 rfl rfl 2 (by decide) (hts _ wd_85) (fun _ h9 => h9) rfl d_L_find_48 ?_
    refine lv_iload_n hx hb d_L_find_51 rfl (lv_at hl 1 rfl) ?_
    replace h := bd h
    obtain ⟨r3, g3, h⟩ := h
    refine ro_V (n := 1) (ci := 2) (As := [.int x1]) (rest := []) C0 (c_T_kindOf l D cI cZ a q (L_types σ) x1 g3) wd_99 ⟨wd_100, wd_101, wd_102, wd_52⟩ (by decide +kernel) ⟨Nat.le_of_ble_eq_true rfl, Nat.le_of_ble_eq_true rfl⟩ (hP.pick [10, 11, 12, 13, 14, 15, 16, 17, 18] rfl) rfl rfl rfl hl rfl rfl (Nat.le_of_ble_eq_true rfl) ⟨Nat.zero_le _, Nat.zero_le _⟩ d_L_find_52 ?_
    try dsimp only at h
    refine lv_if_ne (tgt := 65) hx hb d_L_find_55 (by decide) (fun hc => ?_) (fun hc => ?_)
    · rw [if_neg hc] at h
      refine lv_aload_n hx hb d_L_find_65 rfl (lv_at hl 0 rfl) ?_
      refine va_get (ci := 0) (v := .ref (a 10)) (C := R_L) (T := F_L) (N := 6) hx hb hts i_L hown hK.1 hP 0 rfl rfl 2 (by decide) (hts _ wd_85) (fun _ h9 => h9) rfl d_L_find_66 ?_
      refine lv_iload_n hx hb d_L_find_69 rfl (lv_at hl 1 rfl) ?_
      refine lv_iload hx hb d_L_find_70 (lv_at hl 4 rfl) ?_
      replace h := bd h
      obtain ⟨r4, g4, h⟩ := h
      refine ro_V (n := 2) (ci := 2) (As := [.int x1, .int x4]) (rest := []) C0 (c_T_partOf l D cI cZ a q (L_types σ) x1 x4 g4) wd_204 ⟨wd_205, wd_206, wd_207, wd_52⟩ (by decide +kernel) ⟨Nat.le_of_ble_eq_true rfl, Nat.le_of_ble_eq_true rfl⟩ (hP.pick [10, 11, 12, 13, 14, 15, 16, 17, 18] rfl) rfl rfl rfl hl rfl rfl (Nat.le_of_ble_eq_true rfl) ⟨Nat.zero_le _, Nat.zero_le _⟩ d_L_find_72 ?_
      try dsimp only at h
      exact t_L_find_75 (a := a) C0 hP hk41 h (lv_sub hl [0, 1, 2, 3, 4] rfl)
    · rw [if_pos hc] at h
      refine lv_iload_n hx hb d_L_find_58 rfl (lv_at hl 1 rfl) ?_
      refine ro_S (n := 1) (As := [.int x1]) (rest := []) C0 (c_L_boxTypeOf l D cI cZ a x1 rfl) wd_192 ⟨wd_193, wd_194, wd_55⟩ (by decide +kernel) ⟨Nat.le_of_ble_eq_true rfl, Nat.le_of_ble_eq_true rfl⟩ pnil hl rfl rfl (Nat.le_of_ble_eq_true rfl) ⟨Nat.zero_le _, Nat.zero_le _⟩ d_L_find_59 ?_
      refine lv_goto (tgt := 75) hx hb d_L_find_62 (by decide) ?_
      exact t_L_find_75 (a := a) C0 hP hk41 h (lv_sub hl [0, 1, 2, 3, 4] rfl)
set_option maxHeartbeats 4000000 in
set_option maxRecDepth 100000 in
theorem t_L_find_41 {p : Program} {l : Launch} {e : Env} {s : State} {m : MethodId} {args : Array Value} {below : List Frame} {meth : Method} {c : Code} {D : va_G} {cI cZ : ClassId} {a : Nat → Nat} {q : Nat} {σ : StL} (C0 : Am p s m args meth c b_L_find (some .int) 7 R_L D [(cI, .int), (cZ, .boolean)]) (hP : va_P D vwCl (wL cI cZ a q σ) s.heap) {val : Int32}  {n : Nat} {x1 x2 x3 x4 : Int32} (h : f_L_find_41  n σ x1 x2 x3 x4 = some val) {ls : Array Slot} (hl : lv_has ls 7 [(0, .ref (a 0)), (1, .int x1), (2, .int x2), (3, .int x3), (4, .int x4)]) : RoW p l e (rmK 3 72 0 0) s m args below meth c val (F0 m 41 ls []) := by
  induction n generalizing x1 x2 x3 x4 ls with
  | zero => cases h
  | succ n ih => exact t_L_find_41_s (a := a) C0 hP  (fun _ _ _ _ _ h hl => ih h hl) h hl
set_option maxHeartbeats 4000000 in
set_option maxRecDepth 100000 in
theorem t_L_find_26 {p : Program} {l : Launch} {e : Env} {s : State} {m : MethodId} {args : Array Value} {below : List Frame} {meth : Method} {c : Code} {D : va_G} {cI cZ : ClassId} {a : Nat → Nat} {q : Nat} {σ : StL} (C0 : Am p s m args meth c b_L_find (some .int) 7 R_L D [(cI, .int), (cZ, .boolean)]) (hP : va_P D vwCl (wL cI cZ a q σ) s.heap) {val : Int32}   (h : f_L_find_26 σ = some val) {ls : Array Slot} (hl : lv_has ls 7 []) : RoW p l e (rmK 3 72 0 0) s m args below meth c val (F0 m 26 ls []) := by
  obtain ⟨hx, hb, hr, hml, hown, hts, hlk, hK⟩ := id C0
  unfold f_L_find_26 at h
  refine lv_iconst (v := 0) hx hb d_L_find_26 (by decide) ?_
  refine lv_goto (tgt := 31) hx hb d_L_find_27 (by decide) ?_
  exact ro_ret C0 (Option.some.inj h) d_L_find_31
set_option maxHeartbeats 4000000 in
set_option maxRecDepth 100000 in
theorem t_L_find_0 {p : Program} {l : Launch} {e : Env} {s : State} {m : MethodId} {args : Array Value} {below : List Frame} {meth : Method} {c : Code} {D : va_G} {cI cZ : ClassId} {a : Nat → Nat} {q : Nat} {σ : StL} (C0 : Am p s m args meth c b_L_find (some .int) 7 R_L D [(cI, .int), (cZ, .boolean)]) (hP : va_P D vwCl (wL cI cZ a q σ) s.heap) {val : Int32}   {x1 x2 : Int32} (h : f_L_find σ x1 x2 = some val) {ls : Array Slot} (hl : lv_has ls 7 [(0, .ref (a 0)), (1, .int x1), (2, .int x2)]) : RoW p l e (rmK 3 72 0 0) s m args below meth c val (F0 m 0 ls []) := by
  obtain ⟨hx, hb, hr, hml, hown, hts, hlk, hK⟩ := id C0
  unfold f_L_find at h
  refine lv_aload_n hx hb d_L_find_0 rfl (lv_at hl 0 rfl) ?_
  refine va_get (ci := 0) (v := .ref (a 10)) (C := R_L) (T := F_L) (N := 6) hx hb hts i_L hown hK.1 hP 0 rfl rfl 2 (by decide) (hts _ wd_85) (fun _ h9 => h9) rfl d_L_find_1 ?_
  refine lv_iload_n hx hb d_L_find_4 rfl (lv_at hl 1 rfl) ?_
  replace h := bd h
  obtain ⟨r1, g1, h⟩ := h
  refine ro_V (n := 1) (ci := 2) (As := [.int x1]) (rest := []) C0 (c_T_kindOf l D cI cZ a q (L_types σ) x1 g1) wd_99 ⟨wd_100, wd_101, wd_102, wd_52⟩ (by decide +kernel) ⟨Nat.le_of_ble_eq_true rfl, Nat.le_of_ble_eq_true rfl⟩ (hP.pick [10, 11, 12, 13, 14, 15, 16, 17, 18] rfl) rfl rfl rfl hl rfl rfl (Nat.le_of_ble_eq_true rfl) ⟨Nat.zero_le _, Nat.zero_le _⟩ d_L_find_5 ?_
  try dsimp only at h
  refine lv_iconst (v := 2) hx hb d_L_find_8 (by decide) ?_
  refine lv_icmp_ne (tgt := 32) hx hb d_L_find_9 (by decide) (fun hc => ?_) (fun hc => ?_)
  · rw [if_neg hc] at h
    refine lv_aload_n hx hb d_L_find_32 rfl (lv_at hl 0 rfl) ?_
    refine lv_iload_n hx hb d_L_find_33 rfl (lv_at hl 1 rfl) ?_
    replace h := bd h
    obtain ⟨r2, g2, h⟩ := h
    refine ro_V (n := 1) (ci := 0) (As := [.int x1]) (rest := []) C0 (c_L_countHolders l D cI cZ a q σ x1 g2) wd_213 ⟨wd_214, wd_215, wd_216, wd_55⟩ (by decide +kernel) ⟨Nat.le_of_ble_eq_true rfl, Nat.le_of_ble_eq_true rfl⟩ hP rfl rfl rfl hl rfl rfl (Nat.le_of_ble_eq_true rfl) ⟨Nat.zero_le _, Nat.zero_le _⟩ d_L_find_34 ?_
    try dsimp only at h
    refine lv_istore_n (lv' := [(3, .int r2), (0, .ref (a 0)), (1, .int x1), (2, .int x2)]) hx hb d_L_find_37 rfl hl (by decide) rfl (fun ls hl => ?_)
    refine lv_iconst (v := 0) hx hb d_L_find_38 (by decide) ?_
    refine lv_istore (lv' := [(4, .int 0), (3, .int r2), (0, .ref (a 0)), (1, .int x1), (2, .int x2)]) hx hb d_L_find_39 hl (by decide) rfl (fun ls hl => ?_)
    exact t_L_find_41 (a := a) C0 hP  h (lv_sub hl [2, 3, 4, 1, 0] rfl)
  · rw [if_pos hc] at h
    refine lv_iload_n hx hb d_L_find_12 rfl (lv_at hl 2 rfl) ?_
    refine lv_if_eq (tgt := 26) hx hb d_L_find_13 (by decide) (fun hc => ?_) (fun hc => ?_)
    · rw [if_pos hc] at h
      exact t_L_find_26 (a := a) C0 hP  h (lv_sub hl [] rfl)
    · rw [if_neg hc] at h
      refine lv_iload_n hx hb d_L_find_16 rfl (lv_at hl 2 rfl) ?_
      refine lv_iconst (v := 1) hx hb d_L_find_17 (by decide) ?_
      refine lv_icmp_eq (tgt := 26) hx hb d_L_find_18 (by decide) (fun hc => ?_) (fun hc => ?_)
      · rw [if_pos hc] at h
        exact t_L_find_26 (a := a) C0 hP  h (lv_sub hl [] rfl)
      · rw [if_neg hc] at h
        refine lv_iload_n hx hb d_L_find_21 rfl (lv_at hl 2 rfl) ?_
        refine lv_iconst (v := 2) hx hb d_L_find_22 (by decide) ?_
        refine lv_icmp_ne (tgt := 30) hx hb d_L_find_23 (by decide) (fun hc => ?_) (fun hc => ?_)
        · rw [if_neg hc] at h
          refine lv_iconst (v := (-1)) hx hb d_L_find_30 (by decide) ?_
          exact ro_ret C0 (Option.some.inj h) d_L_find_31
        · rw [if_pos hc] at h
          exact t_L_find_26 (a := a) C0 hP  h (lv_sub hl [] rfl)
set_option maxHeartbeats 4000000 in
set_option maxRecDepth 100000 in
theorem c_L_find (l : Launch) (D : va_G) (cI cZ : ClassId) (a : Nat → Nat) (q : Nat) (σ : StL) (x1 : Int32) (x2 : Int32) {val : Int32} (h : f_L_find σ x1 x2 = some val) : RoM l y_L_find b_L_find 7 (some .int) 3 72 D [(cI, .int), (cZ, .boolean)] [.ref (a 0), .int x1, .int x2] (wL cI cZ a q σ) val :=
  ro_of (by decide) (Nat.le_of_ble_eq_true rfl) (fun p e s m args below meth c ls C0 hP hl => t_L_find_0 (a := a) C0 hP h (lv_sub hl [0, 1, 2] rfl))
