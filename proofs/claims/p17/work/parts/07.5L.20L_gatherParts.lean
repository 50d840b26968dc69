def f_L_gatherParts_75_s (k75 : StL → Int32 → Int32 → Int32 → Int32 → Option (Int32 × StL)) (σ : StL) (x2 x3 x4 x5 : Int32) : Option (Int32 × StL) :=
  if x4 ≤ x5 then
    some ((x3 + x4), σ)
  else
    (f_T_partOf (L_types σ) x2 x5).bind fun r3 =>
    if (x3 + x5) < 0 ∨ 60 ≤ (x3 + x5).toNatClampNeg then none else
    k75 (L_put_gathered σ (x3 + x5) r3) x2 x3 x4 (x5 + 1)
def f_L_gatherParts_75 : Nat → StL → Int32 → Int32 → Int32 → Int32 → Option (Int32 × StL)
  | 0, _, _, _, _, _ => none
  | n + 1, σ, x2, x3, x4, x5 => f_L_gatherParts_75_s (f_L_gatherParts_75 n) σ x2 x3 x4 x5
def f_L_gatherParts_43_s (k43 : StL → Int32 → Int32 → Int32 → Int32 → Int32 → Option (Int32 × StL)) (σ : StL) (x1 x2 x3 x4 x5 : Int32) : Option (Int32 × StL) :=
  if x3 ≤ x5 then
    f_L_gatherParts_75 1000 σ x2 x3 x4 0
  else
    (f_T_partOf (L_types σ) x1 x5).bind fun r4 =>
    if x5 < 0 ∨ 60 ≤ x5.toNatClampNeg then none else
    k43 (L_put_gathered σ x5 r4) x1 x2 x3 x4 (x5 + 1)
def f_L_gatherParts_43 : Nat → StL → Int32 → Int32 → Int32 → Int32 → Int32 → Option (Int32 × StL)
  | 0, _, _, _, _, _, _ => none
  | n + 1, σ, x1, x2, x3, x4, x5 => f_L_gatherParts_43_s (f_L_gatherParts_43 n) σ x1 x2 x3 x4 x5
def f_L_gatherParts (σ : StL) (x1 x2 : Int32) : Option (Int32 × StL) :=
  (f_T_countParts (L_types σ) x1).bind fun r1 =>
  (f_T_countParts (L_types σ) x2).bind fun r2 =>
  if (if r1 < 30 then r1 else 30) = 0 then
    some (0, σ)
  else
    if (if r2 < 30 then r2 else 30) = 0 then
      some (0, σ)
    else
      f_L_gatherParts_43 1000 σ x1 x2 (if r1 < 30 then r1 else 30) (if r2 < 30 then r2 else 30) 0
set_option maxHeartbeats 4000000 in
set_option maxRecDepth 100000 in
theorem t_L_gatherParts_75_s {p : Program} {l : Launch} {e : Env} {s : State} {m : MethodId} {args : Array Value} {below : List Frame} {meth : Method} {c : Code} {D : va_G} {cI cZ : ClassId} {a : Nat → Nat} {A : Nat → Prop} (C0 : Am p s m args meth c b_L_gatherParts (some .int) 6 R_L D [(cI, .int), (cZ, .boolean)]) (hA : ∀ q, s.heap.size ≤ q → A q) {res : Int32 × StL} {k75 : StL → Int32 → Int32 → Int32 → Int32 → Option (Int32 × StL)}  (hk75 : ∀ (q : Nat) (σ : StL) (x2 x3 x4 x5 : Int32) (H : Heap) (locs : List Loc) (ls : Array Slot), k75 σ x2 x3 x4 x5 = some res → va_P D vwCl (wL cI cZ a q σ) H → va_D A (wL cI cZ a q σ) → va_S A s.heap H locs → lv_has ls 6 [(0, .ref (a 0)), (2, .int x2), (3, .int x3), (4, .int x4), (5, .int x5)] → W p l e (rmK 2 44 0 0) s m args below meth c H locs 0 0 (RwQ below args s D A (fun q (σ : StL) => (wL cI cZ a q σ)) res 0 0) (F0 m 75 ls [])) {q : Nat} {σ : StL} {x2 x3 x4 x5 : Int32} (h : f_L_gatherParts_75_s k75 σ x2 x3 x4 x5 = some res) {H : Heap} {locs : List Loc} (hP : va_P D vwCl (wL cI cZ a q σ) H) (hD : va_D A (wL cI cZ a q σ)) (hS : va_S A s.heap H locs) {ls : Array Slot} (hl : lv_has ls 6 [(0, .ref (a 0)), (2, .int x2), (3, .int x3), (4, .int x4), (5, .int x5)]) : W p l e (rmK 2 44 0 0) s m args below meth c H locs 0 0 (RwQ below args s D A (fun q (σ : StL) => (wL cI cZ a q σ)) res 0 0) (F0 m 75 ls []) := by
  obtain ⟨hx, hb, hr, hml, hown, hts, hlk, hK⟩ := id C0
  unfold f_L_gatherParts_75_s at h
  refine lv_iload hx hb d_L_gatherParts_75 (lv_at hl 4 rfl) ?_
  refine lv_iload hx hb d_L_gatherParts_77 (lv_at hl 3 rfl) ?_
  refine lv_icmp_ge (tgt := 107) hx hb d_L_gatherParts_79 (by decide) (fun hc => ?_) (fun hc => ?_)
  · rw [if_pos hc] at h
    refine lv_iload_n hx hb d_L_gatherParts_107 rfl (lv_at hl 2 rfl) ?_
    refine lv_iload hx hb d_L_gatherParts_108 (lv_at hl 3 rfl) ?_
    refine lv_iadd hx hb d_L_gatherParts_110 ?_
    exact rw_ret C0 hP hD hS (Option.some.inj h) d_L_gatherParts_111
  · rw [if_neg hc] at h
    refine lv_aload_n hx hb d_L_gatherParts_82 rfl (lv_at hl 0 rfl) ?_
    refine va_get (ci := 0) (v := .ref (a 2)) (C := R_L) (T := F_L) (N := 6) hx hb hts i_L hown hK.1 hP 0 rfl rfl 5 (by decide) (hts _ wd_305) (fun _ h9 => h9) rfl d_L_gatherParts_83 ?_
    refine lv_iload_n hx hb d_L_gatherParts_86 rfl (lv_at hl 2 rfl) ?_
    refine lv_iload hx hb d_L_gatherParts_87 (lv_at hl 4 rfl) ?_
    refine lv_iadd hx hb d_L_gatherParts_89 ?_
    refine lv_aload_n hx hb d_L_gatherParts_90 rfl (lv_at hl 0 rfl) ?_
    refine va_get (ci := 0) (v := .ref (a 10)) (C := R_L) (T := F_L) (N := 6) hx hb hts i_L hown hK.1 hP 0 rfl rfl 2 (by decide) (hts _ wd_85) (fun _ h9 => h9) rfl d_L_gatherParts_91 ?_
    refine lv_iload_n hx hb d_L_gatherParts_94 rfl (lv_at hl 1 rfl) ?_
    refine lv_iload hx hb d_L_gatherParts_95 (lv_at hl 4 rfl) ?_
    replace h := bd h
    obtain ⟨r3, g3, h⟩ := h
    refine ro_V (n := 2) (ci := 2) (As := [.int x2, .int x5]) (rest := [.int (x3 + x5), .ref (a 2)]) C0 (c_T_partOf l D cI cZ a q (L_types σ) x2 x5 g3) wd_204 ⟨wd_205, wd_206, wd_207, wd_52⟩ (by decide +kernel) ⟨Nat.le_of_ble_eq_true rfl, Nat.le_of_ble_eq_true rfl⟩ (hP.pick [10, 11, 12, 13, 14, 15, 16, 17, 18] rfl) rfl rfl rfl hl rfl rfl (Nat.le_of_ble_eq_true rfl) ⟨Nat.zero_le _, Nat.zero_le _⟩ d_L_gatherParts_97 ?_
    try dsimp only at h
    replace h := gd h
    obtain ⟨hi, h⟩ := h
    refine rw_iast C0 hP hD hS 2 0 rfl rfl hi d_L_gatherParts_100 (Wn := (wL cI cZ a q (L_put_gathered σ (x3 + x5) r3))) ws_L_put_gathered (fun H locs hP hD hS => ?_)
    refine lv_iinc (v := (x5 + 1)) (lv' := [(5, .int (x5 + 1)), (0, .ref (a 0)), (2, .int x2), (3, .int x3), (4, .int x4)]) hx hb d_L_gatherParts_101 hl (k := 4) rfl rfl (by decide) rfl (fun ls hl => ?_)
    refine lv_goto (tgt := 75) hx hb d_L_gatherParts_104 (by decide) ?_
    exact hk75 _ _ _ _ _ _ _ _ _ h hP hD hS (lv_sub hl [1, 2, 3, 4, 0] rfl)
set_option maxHeartbeats 4000000 in
set_option maxRecDepth 100000 in
theorem t_L_gatherParts_75 {p : Program} {l : Launch} {e : Env} {s : State} {m : MethodId} {args : Array Value} {below : List Frame} {meth : Method} {c : Code} {D : va_G} {cI cZ : ClassId} {a : Nat → Nat} {A : Nat → Prop} (C0 : Am p s m args meth c b_L_gatherParts (some .int) 6 R_L D [(cI, .int), (cZ, .boolean)]) (hA : ∀ q, s.heap.size ≤ q → A q) {res : Int32 × StL}  {n : Nat} {q : Nat} {σ : StL} {x2 x3 x4 x5 : Int32} (h : f_L_gatherParts_75  n σ x2 x3 x4 x5 = some res) {H : Heap} {locs : List Loc} (hP : va_P D vwCl (wL cI cZ a q σ) H) (hD : va_D A (wL cI cZ a q σ)) (hS : va_S A s.heap H locs) {ls : Array Slot} (hl : lv_has ls 6 [(0, .ref (a 0)), (2, .int x2), (3, .int x3), (4, .int x4), (5, .int x5)]) : W p l e (rmK 2 44 0 0) s m args below meth c H locs 0 0 (RwQ below args s D A (fun q (σ : StL) => (wL cI cZ a q σ)) res 0 0) (F0 m 75 ls []) := by
  induction n generalizing q σ x2 x3 x4 x5 H locs ls with
  | zero => cases h
  | succ n ih => exact t_L_gatherParts_75_s (a := a) C0 hA  (fun _ _ _ _ _ _ _ _ _ h hP hD hS hl => ih h hP hD hS hl) h hP hD hS hl
set_option maxHeartbeats 4000000 in
set_option maxRecDepth 100000 in
theorem t_L_gatherParts_43_s {p : Program} {l : Launch} {e : Env} {s : State} {m : MethodId} {args : Array Value} {below : List Frame} {meth : Method} {c : Code} {D : va_G} {cI cZ : ClassId} {a : Nat → Nat} {A : Nat → Prop} (C0 : Am p s m args meth c b_L_gatherParts (some .int) 6 R_L D [(cI, .int), (cZ, .boolean)]) (hA : ∀ q, s.heap.size ≤ q → A q) {res : Int32 × StL} {k43 : StL → Int32 → Int32 → Int32 → Int32 → Int32 → Option (Int32 × StL)}  (hk43 : ∀ (q : Nat) (σ : StL) (x1 x2 x3 x4 x5 : Int32) (H : Heap) (locs : List Loc) (ls : Array Slot), k43 σ x1 x2 x3 x4 x5 = some res → va_P D vwCl (wL cI cZ a q σ) H → va_D A (wL cI cZ a q σ) → va_S A s.heap H locs → lv_has ls 6 [(0, .ref (a 0)), (1, .int x1), (2, .int x2), (3, .int x3), (4, .int x4), (5, .int x5)] → W p l e (rmK 2 44 0 0) s m args below meth c H locs 0 0 (RwQ below args s D A (fun q (σ : StL) => (wL cI cZ a q σ)) res 0 0) (F0 m 43 ls [])) {q : Nat} {σ : StL} {x1 x2 x3 x4 x5 : Int32} (h : f_L_gatherParts_43_s k43 σ x1 x2 x3 x4 x5 = some res) {H : Heap} {locs : List Loc} (hP : va_P D vwCl (wL cI cZ a q σ) H) (hD : va_D A (wL cI cZ a q σ)) (hS : va_S A s.heap H locs) {ls : Array Slot} (hl : lv_has ls 6 [(0, .ref (a 0)), (1, .int x1), (2, .int x2), (3, .int x3), (4, .int x4), (5, .int x5)]) : W p l e (rmK 2 44 0 0) s m args below meth c H locs 0 0 (RwQ below args s D A (fun q (σ : StL) => (wL cI cZ a q σ)) res 0 0) (F0 m 43 ls []) := by
  obtain ⟨hx, hb, hr, hml, hown, hts, hlk, hK⟩ := id C0
  unfold f_L_gatherParts_43_s at h
  refine lv_iload hx hb d_L_gatherParts_43 (lv_at hl 5 rfl) ?_
  refine lv_iload_n hx hb d_L_gatherParts_45 rfl (lv_at hl 3 rfl) ?_
  refine lv_icmp_ge (tgt := 72) hx hb d_L_gatherParts_46 (by decide) (fun hc => ?_) (fun hc => ?_)
  · rw [if_pos hc] at h
    refine lv_iconst (v := 0) hx hb d_L_gatherParts_72 (by decide) ?_
    refine lv_istore (lv' := [(5, .int 0), (0, .ref (a 0)), (1, .int x1), (2, .int x2), (3, .int x3), (4, .int x4)]) hx hb d_L_gatherParts_73 hl (by decide) rfl (fun ls hl => ?_)
    exact t_L_gatherParts_75 (a := a) C0 hA  h hP hD hS (lv_sub hl [1, 3, 4, 5, 0] rfl)
  · rw [if_neg hc] at h
    refine lv_aload_n hx hb d_L_gatherParts_49 rfl (lv_at hl 0 rfl) ?_
    refine va_get (ci := 0) (v := .ref (a 2)) (C := R_L) (T := F_L) (N := 6) hx hb hts i_L hown hK.1 hP 0 rfl rfl 5 (by decide) (hts _ wd_305) (fun _ h9 => h9) rfl d_L_gatherParts_50 ?_
    refine lv_iload hx hb d_L_gatherParts_53 (lv_at hl 5 rfl) ?_
    refine lv_aload_n hx hb d_L_gatherParts_55 rfl (lv_at hl 0 rfl) ?_
    refine va_get (ci := 0) (v := .ref (a 10)) (C := R_L) (T := F_L) (N := 6) hx hb hts i_L hown hK.1 hP 0 rfl rfl 2 (by decide) (hts _ wd_85) (fun _ h9 => h9) rfl d_L_gatherParts_56 ?_
    refine lv_iload_n hx hb d_L_gatherParts_59 rfl (lv_at hl 1 rfl) ?_
    refine lv_iload hx hb d_L_gatherParts_60 (lv_at hl 5 rfl) ?_
    replace h := bd h
    obtain ⟨r4, g4, h⟩ := h
    refine ro_V (n := 2) (ci := 2) (As := [.int x1, .int x5]) (rest := [.int x5, .ref (a 2)]) C0 (c_T_partOf l D cI cZ a q (L_types σ) x1 x5 g4) wd_204 ⟨wd_205, wd_206, wd_207, wd_52⟩ (by decide +kernel) ⟨Nat.le_of_ble_eq_true rfl, Nat.le_of_ble_eq_true rfl⟩ (hP.pick [10, 11, 12, 13, 14, 15, 16, 17, 18] rfl) rfl rfl rfl hl rfl rfl (Nat.le_of_ble_eq_true rfl) ⟨Nat.zero_le _, Nat.zero_le _⟩ d_L_gatherParts_62 ?_
    try dsimp only at h
    replace h := gd h
    obtain ⟨hi, h⟩ := h
    refine rw_iast C0 hP hD hS 2 0 rfl rfl hi d_L_gatherParts_65 (Wn := (wL cI cZ a q (L_put_gathered σ x5 r4))) ws_L_put_gathered (fun H locs hP hD hS => ?_)
    refine lv_iinc (v := (x5 + 1)) (lv' := [(5, .int (x5 + 1)), (0, .ref (a 0)), (1, .int x1), (2, .int x2), (3, .int x3), (4, .int x4)]) hx hb d_L_gatherParts_66 hl (k := 5) rfl rfl (by decide) rfl (fun ls hl => ?_)
    refine lv_goto (tgt := 43) hx hb d_L_gatherParts_69 (by decide) ?_
    exact hk43 _ _ _ _ _ _ _ _ _ _ h hP hD hS (lv_sub hl [1, 2, 3, 4, 5, 0] rfl)
set_option maxHeartbeats 4000000 in
set_option maxRecDepth 100000 in
theorem t_L_gatherParts_43 {p : Program} {l : Launch} {e : Env} {s : State} {m : MethodId} {args : Array Value} {below : List Frame} {meth : Method} {c : Code} {D : va_G} {cI cZ : ClassId} {a : Nat → Nat} {A : Nat → Prop} (C0 : Am p s m args meth c b_L_gatherParts (some .int) 6 R_L D [(cI, .int), (cZ, .boolean)]) (hA : ∀ q, s.heap.size ≤ q → A q) {res : Int32 × StL}  {n : Nat} {q : Nat} {σ : StL} {x1 x2 x3 x4 x5 : Int32} (h : f_L_gatherParts_43  n σ x1 x2 x3 x4 x5 = some res) {H : Heap} {locs : List Loc} (hP : va_P D vwCl (wL cI cZ a q σ) H) (hD : va_D A (wL cI cZ a q σ)) (hS : va_S A s.heap H locs) {ls : Array Slot} (hl : lv_has ls 6 [(0, .ref (a 0)), (1, .int x1), (2, .int x2), (3, .int x3), (4, .int x4), (5, .int x5)]) : W p l e (rmK 2 44 0 0) s m args below meth c H locs 0 0 (RwQ below args s D A (fun q (σ : StL) => (wL cI cZ a q σ)) res 0 0) (F0 m 43 ls []) := by
  induction n generalizing q σ x1 x2 x3 x4 x5 H locs ls with
  | zero => cases h
  | succ n ih => exact t_L_gatherParts_43_s (a := a) C0 hA  (fun _ _ _ _ _ _ _ _ _ _ h hP hD hS hl => ih h hP hD hS hl) h hP hD hS hl
set_option maxHeartbeats 4000000 in
set_option maxRecDepth 100000 in
theorem t_L_gatherParts_0 {p : Program} {l : Launch} {e : Env} {s : State} {m : MethodId} {args : Array Value} {below : List Frame} {meth : Method} {c : Code} {D : va_G} {cI cZ : ClassId} {a : Nat → Nat} {A : Nat → Prop} (C0 : Am p s m args meth c b_L_gatherParts (some .int) 6 R_L D [(cI, .int), (cZ, .boolean)]) (hA : ∀ q, s.heap.size ≤ q → A q) {res : Int32 × StL}   {q : Nat} {σ : StL} {x1 x2 : Int32} (h : f_L_gatherParts σ x1 x2 = some res) {H : Heap} {locs : List Loc} (hP : va_P D vwCl (wL cI cZ a q σ) H) (hD : va_D A (wL cI cZ a q σ)) (hS : va_S A s.heap H locs) {ls : Array Slot} (hl : lv_has ls 6 [(0, .ref (a 0)), (1, .int x1), (2, .int x2)]) : W p l e (rmK 2 44 0 0) s m args below meth c H locs 0 0 (RwQ below args s D A (fun q (σ : StL) => (wL cI cZ a q σ)) res 0 0) (F0 m 0 ls []) := by
  obtain ⟨hx, hb, hr, hml, hown, hts, hlk, hK⟩ := id C0
  unfold f_L_gatherParts at h
  refine lv_bipush (v := 30) hx hb d_L_gatherParts_0 (by decide) ?_
  refine lv_aload_n hx hb d_L_gatherParts_2 rfl (lv_at hl 0 rfl) ?_
  refine va_get (ci := 0) (v := .ref (a 10)) (C := R_L) (T := F_L) (N := 6) hx hb hts i_L hown hK.1 hP 0 rfl rfl 2 (by decide) (hts _ wd_85) (fun _ h9 => h9) rfl d_L_gatherParts_3 ?_
  refine lv_iload_n hx hb d_L_gatherParts_6 rfl (lv_at hl 1 rfl) ?_
  replace h := bd h
  obtain ⟨r1, g1, h⟩ := h
  refine ro_V (n := 1) (ci := 2) (As := [.int x1]) (rest := [.int 30]) C0 (c_T_countParts l D cI cZ a q (L_types σ) x1 g1) wd_200 ⟨wd_201, wd_202, wd_203, wd_52⟩ (by decide +kernel) ⟨Nat.le_of_ble_eq_true rfl, Nat.le_of_ble_eq_true rfl⟩ (hP.pick [10, 11, 12, 13, 14, 15, 16, 17, 18] rfl) rfl rfl rfl hl rfl rfl (Nat.le_of_ble_eq_true rfl) ⟨Nat.zero_le _, Nat.zero_le _⟩ d_L_gatherParts_7 ?_
  try dsimp only at h
  refine va_mmin hx hb (by rw [hml]; exact hl.1.symm) hown (hts _ wd_302) (hts _ wd_303) (hts _ wd_15) (hts _ wd_304) (Nat.le_of_ble_eq_true rfl) (Nat.le_of_ble_eq_true rfl) (Nat.zero_le _) (Nat.zero_le _) d_L_gatherParts_10 ?_
  refine lv_istore_n (lv' := [(3, .int (if r1 < 30 then r1 else 30)), (0, .ref (a 0)), (1, .int x1), (2, .int x2)]) hx hb d_L_gatherParts_13 rfl hl (by decide) rfl (fun ls hl => ?_)
  refine lv_bipush (v := 30) hx hb d_L_gatherParts_14 (by decide) ?_
  refine lv_aload_n hx hb d_L_gatherParts_16 rfl (lv_at hl 1 rfl) ?_
  refine va_get (ci := 0) (v := .ref (a 10)) (C := R_L) (T := F_L) (N := 6) hx hb hts i_L hown hK.1 hP 0 rfl rfl 2 (by decide) (hts _ wd_85) (fun _ h9 => h9) rfl d_L_gatherParts_17 ?_
  refine lv_iload_n hx hb d_L_gatherParts_20 rfl (lv_at hl 3 rfl) ?_
  replace h := bd h
  obtain ⟨r2, g2, h⟩ := h
  refine ro_V (n := 1) (ci := 2) (As := [.int x2]) (rest := [.int 30]) C0 (c_T_countParts l D cI cZ a q (L_types σ) x2 g2) wd_200 ⟨wd_201, wd_202, wd_203, wd_52⟩ (by decide +kernel) ⟨Nat.le_of_ble_eq_true rfl, Nat.le_of_ble_eq_true rfl⟩ (hP.pick [10, 11, 12, 13, 14, 15, 16, 17, 18] rfl) rfl rfl rfl hl rfl rfl (Nat.le_of_ble_eq_true rfl) ⟨Nat.zero_le _, Nat.zero_le _⟩ d_L_gatherParts_21 ?_
  try dsimp only at h
  refine va_mmin hx hb (by rw [hml]; exact hl.1.symm) hown (hts _ wd_302) (hts _ wd_303) (hts _ wd_15) (hts _ wd_304) (Nat.le_of_ble_eq_true rfl) (Nat.le_of_ble_eq_true rfl) (Nat.zero_le _) (Nat.zero_le _) d_L_gatherParts_24 ?_
  refine lv_istore (lv' := [(4, .int (if r2 < 30 then r2 else 30)), (3, .int (if r1 < 30 then r1 else 30)), (0, .ref (a 0)), (1, .int x1), (2, .int x2)]) hx hb d_L_gatherParts_27 hl (by decide) rfl (fun ls hl => ?_)
  refine lv_iload_n hx hb d_L_gatherParts_29 rfl (lv_at hl 1 rfl) ?_
  refine lv_if_eq (tgt := 38) hx hb d_L_gatherParts_30 (by decide) (fun hc => ?_) (fun hc => ?_)
  · rw [if_pos hc] at h
    refine lv_iconst (v := 0) hx hb d_L_gatherParts_38 (by decide) ?_
    exact rw_ret C0 hP hD hS (Option.some.inj h) d_L_gatherParts_39
  · rw [if_neg hc] at h
    refine lv_iload hx hb d_L_gatherParts_33 (lv_at hl 0 rfl) ?_
    refine lv_if_ne (tgt := 40) hx hb d_L_gatherParts_35 (by decide) (fun hc => ?_) (fun hc => ?_)
    · rw [if_neg hc] at h
      refine lv_iconst (v := 0) hx hb d_L_gatherParts_40 (by decide) ?_
      refine lv_istore (lv' := [(5, .int 0), (4, .int (if r2 < 30 then r2 else 30)), (3, .int (if r1 < 30 then r1 else 30)), (0, .ref (a 0)), (1, .int x1), (2, .int x2)]) hx hb d_L_gatherParts_41 hl (by decide) rfl (fun ls hl => ?_)
      exact t_L_gatherParts_43 (a := a) C0 hA  h hP hD hS (lv_sub hl [3, 4, 5, 2, 1, 0] rfl)
    · rw [if_pos hc] at h
      refine lv_iconst (v := 0) hx hb d_L_gatherParts_38 (by decide) ?_
      exact rw_ret C0 hP hD hS (Option.some.inj h) d_L_gatherParts_39
set_option maxHeartbeats 4000000 in
set_option maxRecDepth 100000 in
theorem c_L_gatherParts (l : Launch) (D : va_G) (cI cZ : ClassId) (a : Nat → Nat) (q : Nat) (σ : StL) (x1 : Int32) (x2 : Int32) {res : Int32 × StL} (h : f_L_gatherParts σ x1 x2 = some res) : RwM l y_L_gatherParts b_L_gatherParts 6 (some .int) 2 44 D [(cI, .int), (cZ, .boolean)] [.ref (a 0), .int x1, .int x2] (fun q (σ : StL) => (wL cI cZ a q σ)) q σ res :=
  rw_of (by decide) (Nat.le_of_ble_eq_true rfl) (fun p e s m args below meth c ls A C0 hA hP hD hS hl => t_L_gatherParts_0 (a := a) C0 hA h hP hD hS (lv_sub hl [0, 1, 2] rfl))
