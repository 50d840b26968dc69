def f_M_goOn_237 (σ : StM) (x1 x2 x4 : Int32) : Option (Int32 × StM) :=
  if x1 < 0 ∨ 500 ≤ x1.toNatClampNeg then none else
  if ((M_deep σ) x1.toNatClampNeg) = 0 then
    (f_M_addNamed σ 0 0 (-1)).bind fun r4 =>
    (f_M_addNamed r4.2 x2 2 r4.1).bind fun r5 =>
    (f_M_keep r5.2 x1 r5.1).bind fun r6 =>
    some (0, r6.2)
  else
    if x1 < 0 ∨ 500 ≤ x1.toNatClampNeg then none else
    if x1 < 0 ∨ 500 ≤ x1.toNatClampNeg then none else
    (f_M_ask (M_put_stage σ x1 3) x4 (M_foundType (M_put_stage σ x1 3)) (((M_deep (M_put_stage σ x1 3)) x1.toNatClampNeg) - 1)).bind fun r3 =>
    some (0, r3.2)
def f_M_goOn_133 (σ : StM) (t1 : Int32) : Option (Int32 × StM) :=
  (f_M_tell σ t1).bind fun r12 =>
  some (0, r12.2)
def f_M_goOn_59_s (k59 : StM → Int32 → Int32 → Option (Int32 × StM)) (σ : StM) (x1 x2 : Int32) : Option (Int32 × StM) :=
  if x1 < 0 ∨ 500 ≤ x1.toNatClampNeg then none else
  if ((M_size σ) x1.toNatClampNeg) ≤ x2 then
    if x1 < 0 ∨ 500 ≤ x1.toNatClampNeg then none else
    if ((M_size σ) x1.toNatClampNeg) = 1 then
      if (0 : Int32) < 0 ∨ 64 ≤ (0 : Int32).toNatClampNeg then none else
      f_M_goOn_133 σ ((M_row σ) (0 : Int32).toNatClampNeg)
    else
      if (M_full σ) = 0 then
        if x1 < 0 ∨ 500 ≤ x1.toNatClampNeg then none else
        (f_M_addBoth σ ((M_size σ) x1.toNatClampNeg)).bind fun r11 =>
        f_M_goOn_133 r11.2 r11.1
      else
        f_M_goOn_133 σ 0
  else
    if ((30 * x1) + x2) < 0 ∨ 15000 ≤ ((30 * x1) + x2).toNatClampNeg then none else
    if x2 < 0 ∨ 64 ≤ x2.toNatClampNeg then none else
    k59 (M_put_row σ x2 ((M_parts σ) ((30 * x1) + x2).toNatClampNeg)) x1 (x2 + 1)
def f_M_goOn_59 : Nat → StM → Int32 → Int32 → Option (Int32 × StM)
  | 0, _, _, _ => none
  | n + 1, σ, x1, x2 => f_M_goOn_59_s (f_M_goOn_59 n) σ x1 x2
def f_M_goOn_44 (σ : StM) (x1 : Int32) : Option (Int32 × StM) :=
  if x1 < 0 ∨ 500 ≤ x1.toNatClampNeg then none else
  if ((M_at σ) x1.toNatClampNeg) = (M_classes σ) then
    f_M_goOn_59 1000 σ x1 0
  else
    if x1 < 0 ∨ 500 ≤ x1.toNatClampNeg then none else
    if ((M_at σ) x1.toNatClampNeg) < 0 ∨ 30 ≤ ((M_at σ) x1.toNatClampNeg).toNatClampNeg then none else
    if ((M_generic σ) ((M_at σ) x1.toNatClampNeg).toNatClampNeg) = 0 then
      (f_M_addNamed σ ((M_at σ) x1.toNatClampNeg) 0 (-1)).bind fun r9 =>
      (f_M_keep r9.2 x1 r9.1).bind fun r10 =>
      some (0, r10.2)
    else
      if x1 < 0 ∨ 500 ≤ x1.toNatClampNeg then none else
      (f_M_lookAt σ ((M_left σ) x1.toNatClampNeg) ((M_at σ) x1.toNatClampNeg)).bind fun r1 =>
      if x1 < 0 ∨ 500 ≤ x1.toNatClampNeg then none else
      (f_M_lookAt r1.2 ((M_right r1.2) x1.toNatClampNeg) ((M_at σ) x1.toNatClampNeg)).bind fun r2 =>
      if (M_foundHow r1.2) = 1 then
        if (M_foundHow r2.2) = 1 then
          if (M_foundType r1.2) = (M_foundType r2.2) then
            (f_M_addNamed r2.2 ((M_at σ) x1.toNatClampNeg) 1 (M_foundType r1.2)).bind fun r7 =>
            (f_M_keep r7.2 x1 r7.1).bind fun r8 =>
            some (0, r8.2)
          else
            f_M_goOn_237 r2.2 x1 ((M_at σ) x1.toNatClampNeg) (M_foundType r1.2)
        else
          f_M_goOn_237 r2.2 x1 ((M_at σ) x1.toNatClampNeg) (M_foundType r1.2)
      else
        f_M_goOn_237 r2.2 x1 ((M_at σ) x1.toNatClampNeg) (M_foundType r1.2)
def f_M_goOn_0_s (k0 : StM → Int32 → Option (Int32 × StM)) (σ : StM) (x1 : Int32) : Option (Int32 × StM) :=
  if x1 < 0 ∨ 500 ≤ x1.toNatClampNeg then none else
  if (M_classes σ) ≤ ((M_at σ) x1.toNatClampNeg) then
    f_M_goOn_44 σ x1
  else
    if x1 < 0 ∨ 500 ≤ x1.toNatClampNeg then none else
    if x1 < 0 ∨ 500 ≤ x1.toNatClampNeg then none else
    if ((((M_least σ) x1.toNatClampNeg) >>> (((M_at σ) x1.toNatClampNeg) &&& 31)) &&& 1) = 0 then
      if x1 < 0 ∨ 500 ≤ x1.toNatClampNeg then none else
      if x1 < 0 ∨ 500 ≤ x1.toNatClampNeg then none else
      k0 (M_put_at σ x1 (((M_at σ) x1.toNatClampNeg) + 1)) x1
    else
      f_M_goOn_44 σ x1
def f_M_goOn_0 : Nat → StM → Int32 → Option (Int32 × StM)
  | 0, _, _ => none
  | n + 1, σ, x1 => f_M_goOn_0_s (f_M_goOn_0 n) σ x1
def f_M_goOn (σ : StM) (x1 : Int32) : Option (Int32 × StM) := f_M_goOn_0 1000 σ x1
set_option maxHeartbeats 4000000 in
set_option maxRecDepth 100000 in
theorem t_M_goOn_237 {p : Program} {l : Launch} {e : Env} {s : State} {m : MethodId} {args : Array Value} {below : List Frame} {meth : Method} {c : Code} {D : va_G} {cI cZ : ClassId} {a : Nat → Nat} {A : Nat → Prop} (C0 : Am p s m args meth c b_M_goOn none 6 R_M D [(cI, .int), (cZ, .boolean)]) (hA : ∀ q, s.heap.size ≤ q → A q) {res : Int32 × StM}   {q : Nat} {σ : StM} {x1 x2 x4 : Int32} (h : f_M_goOn_237 σ x1 x2 x4 = some res) {H : Heap} {locs : List Loc} (hP : va_P D vwCl (wM cI cZ a q σ) H) (hD : va_D A (wM cI cZ a q σ)) (hS : va_S A s.heap H locs) {ls : Array Slot} (hl : lv_has ls 6 [(0, .ref (a 20)), (1, .int x1), (2, .int x2), (4, .int x4)]) : W p l e (rmK 3 74 0 0) s m args below meth c H locs 0 0 (RwQv below args s D A (fun q (σ : StM) => (wM cI cZ a q σ)) res 0 0) (F0 m 237 ls []) := by
  obtain ⟨hx, hb, hr, hml, hown, hts, hlk, hK⟩ := id C0
  unfold f_M_goOn_237 at h
  refine lv_aload_n hx hb d_M_goOn_237 rfl (lv_at hl 0 rfl) ?_
  refine va_get (ci := 4) (v := .ref (a 38)) (C := R_M) (T := F_M) (N := 35) hx hb hts i_M hown hK.1 hP 0 rfl rfl 28 (by decide) (hts _ wd_450) (fun _ h9 => h9) rfl d_M_goOn_238 ?_
  refine lv_iload_n hx hb d_M_goOn_241 rfl (lv_at hl 1 rfl) ?_
  replace h := gd h
  obtain ⟨hi, h⟩ := h
  refine va_iald hx hb hK.1 hP 18 0 rfl rfl hi d_M_goOn_242 ?_
  refine lv_if_ne (tgt := 271) hx hb d_M_goOn_243 (by decide) (fun hc => ?_) (fun hc => ?_)
  · rw [if_neg hc] at h
    refine lv_aload_n hx hb d_M_goOn_271 rfl (lv_at hl 0 rfl) ?_
    refine va_get (ci := 4) (v := .ref (a 39)) (C := R_M) (T := F_M) (N := 35) hx hb hts i_M hown hK.1 hP 0 rfl rfl 29 (by decide) (hts _ wd_451) (fun _ h9 => h9) rfl d_M_goOn_272 ?_
    refine lv_iload_n hx hb d_M_goOn_275 rfl (lv_at hl 1 rfl) ?_
    refine lv_iconst (v := 3) hx hb d_M_goOn_276 (by decide) ?_
    replace h := gd h
    obtain ⟨hi, h⟩ := h
    refine rw_iast C0 hP hD hS 19 0 rfl rfl hi d_M_goOn_277 (Wn := (wM cI cZ a q (M_put_stage σ x1 3))) ws_M_put_stage (fun H locs hP hD hS => ?_)
    refine lv_aload_n hx hb d_M_goOn_278 rfl (lv_at hl 0 rfl) ?_
    refine lv_iload hx hb d_M_goOn_279 (lv_at hl 3 rfl) ?_
    refine lv_aload_n hx hb d_M_goOn_281 rfl (lv_at hl 0 rfl) ?_
    refine va_get (ci := 4) (v := .int (M_foundType (M_put_stage σ x1 3))) (C := R_M) (T := F_M) (N := 35) hx hb hts i_M hown hK.1 hP 0 rfl rfl 21 (by decide) (hts _ wd_347) (fun _ h9 => h9) rfl d_M_goOn_282 ?_
    refine lv_aload_n hx hb d_M_goOn_285 rfl (lv_at hl 0 rfl) ?_
    refine va_get (ci := 4) (v := .ref (a 38)) (C := R_M) (T := F_M) (N := 35) hx hb hts i_M hown hK.1 hP 0 rfl rfl 28 (by decide) (hts _ wd_450) (fun _ h9 => h9) rfl d_M_goOn_286 ?_
    refine lv_iload_n hx hb d_M_goOn_289 rfl (lv_at hl 1 rfl) ?_
    replace h := gd h
    obtain ⟨hi, h⟩ := h
    refine va_iald hx hb hK.1 hP 18 0 rfl rfl hi d_M_goOn_290 ?_
    refine lv_iconst (v := 1) hx hb d_M_goOn_291 (by decide) ?_
    refine lv_isub hx hb d_M_goOn_292 ?_
    replace h := bd h
    obtain ⟨r3, g3, h⟩ := h
    refine rw_Vv (n := 3) (ci := 4) (As := [.int x4, .int (M_foundType (M_put_stage σ x1 3)), .int (((M_deep (M_put_stage σ x1 3)) x1.toNatClampNeg) - 1)]) (rest := []) (Wn := fun _ => (wM cI cZ a q r3.2)) C0 hA (c_M_ask l D cI cZ a q (M_put_stage σ x1 3) x4 (M_foundType (M_put_stage σ x1 3)) (((M_deep (M_put_stage σ x1 3)) x1.toNatClampNeg) - 1) g3) wd_457 ⟨wd_458, wd_459, wd_460, wd_352⟩ (by decide +kernel) ⟨Nat.le_of_ble_eq_true rfl, Nat.le_of_ble_eq_true rfl⟩ hP hD hS [0, 1, 2, 3, 4, 5, 6, 7, 8, 9, 10, 11, 12, 13, 14, 15, 16, 17, 18, 19, 20, 21, 22, 23] [] [0, 1, 2, 3, 4, 5, 6, 7, 8, 9, 10, 11, 12, 13, 14, 15, 16, 17, 18, 19, 20, 21, 22, 23] jn_M__C (by decide) jn_M__R (by decide) (by decide) (by decide) jn_M__W rfl rfl rfl hl rfl rfl (Nat.le_of_ble_eq_true rfl) ⟨Nat.zero_le _, Nat.zero_le _⟩ d_M_goOn_293 (fun H locs _ hP hD hS => ?_)
    try dsimp only at h
    exact rw_retv C0 hP hD hS (Option.some.inj h) d_M_goOn_296
  · rw [if_pos hc] at h
    refine lv_aload_n hx hb d_M_goOn_246 rfl (lv_at hl 0 rfl) ?_
    refine lv_iconst (v := 0) hx hb d_M_goOn_247 (by decide) ?_
    refine lv_iconst (v := 0) hx hb d_M_goOn_248 (by decide) ?_
    refine lv_iconst (v := (-1)) hx hb d_M_goOn_249 (by decide) ?_
    replace h := bd h
    obtain ⟨r4, g4, h⟩ := h
    refine rw_V (n := 3) (ci := 4) (As := [.int 0, .int 0, .int (-1)]) (rest := []) (Wn := fun _ => (wM cI cZ a q r4.2)) C0 hA (c_M_addNamed l D cI cZ a q σ 0 0 (-1) g4) wd_419 ⟨wd_420, wd_421, wd_422, wd_352⟩ (by decide +kernel) ⟨Nat.le_of_ble_eq_true rfl, Nat.le_of_ble_eq_true rfl⟩ hP hD hS [0, 1, 2, 3, 4, 5, 6, 7, 8, 9, 10, 11, 12, 13, 14, 15, 16, 17, 18, 19, 20, 21, 22, 23] [] [0, 1, 2, 3, 4, 5, 6, 7, 8, 9, 10, 11, 12, 13, 14, 15, 16, 17, 18, 19, 20, 21, 22, 23] jn_M__C (by decide) jn_M__R (by decide) (by decide) (by decide) jn_M__W rfl rfl rfl hl rfl rfl (Nat.le_of_ble_eq_true rfl) ⟨Nat.zero_le _, Nat.zero_le _⟩ d_M_goOn_250 (fun H locs _ hP hD hS => ?_)
    try dsimp only at h
    refine lv_istore (lv' := [(5, .int r4.1), (0, .ref (a 20)), (1, .int x1), (2, .int x2), (4, .int x4)]) hx hb d_M_goOn_253 hl (by decide) rfl (fun ls hl => ?_)
    refine lv_aload_n hx hb d_M_goOn_255 rfl (lv_at hl 1 rfl) ?_
    refine lv_iload_n hx hb d_M_goOn_256 rfl (lv_at hl 2 rfl) ?_
    refine lv_aload_n hx hb d_M_goOn_257 rfl (lv_at hl 1 rfl) ?_
    refine lv_iload_n hx hb d_M_goOn_258 rfl (lv_at hl 3 rfl) ?_
    refine lv_iconst (v := 2) hx hb d_M_goOn_259 (by decide) ?_
    refine lv_iload hx hb d_M_goOn_260 (lv_at hl 0 rfl) ?_
    replace h := bd h
    obtain ⟨r5, g5, h⟩ := h
    refine rw_V (n := 3) (ci := 4) (As := [.int x2, .int 2, .int r4.1]) (rest := [.int x1, .ref (a 20)]) (Wn := fun _ => (wM cI cZ a q r5.2)) C0 hA (c_M_addNamed l D cI cZ a q r4.2 x2 2 r4.1 g5) wd_419 ⟨wd_420, wd_421, wd_422, wd_352⟩ (by decide +kernel) ⟨Nat.le_of_ble_eq_true rfl, Nat.le_of_ble_eq_true rfl⟩ hP hD hS [0, 1, 2, 3, 4, 5, 6, 7, 8, 9, 10, 11, 12, 13, 14, 15, 16, 17, 18, 19, 20, 21, 22, 23] [] [0, 1, 2, 3, 4, 5, 6, 7, 8, 9, 10, 11, 12, 13, 14, 15, 16, 17, 18, 19, 20, 21, 22, 23] jn_M__C (by decide) jn_M__R (by decide) (by decide) (by decide) jn_M__W rfl rfl rfl hl rfl rfl (Nat.le_of_ble_eq_true rfl) ⟨Nat.zero_le _, Nat.zero_le _⟩ d_M_goOn_262 (fun H locs _ hP hD hS => ?_)
    try dsimp only at h
    replace h := bd h
    obtain ⟨r6, g6, h⟩ := h
    refine rw_Vv (n := 2) (ci := 4) (As := [.int x1, .int r5.1]) (rest := []) (Wn := fun _ => (wM cI cZ a q r6.2)) C0 hA (c_M_keep l D cI cZ a q r5.2 x1 r5.1 g6) wd_465 ⟨wd_466, wd_467, wd_468, wd_352⟩ (by decide +kernel) ⟨Nat.le_of_ble_eq_true rfl, Nat.le_of_ble_eq_true rfl⟩ hP hD hS [0, 1, 2, 3, 4, 5, 6, 7, 8, 9, 10, 11, 12, 13, 14, 15, 16, 17, 18, 19, 20, 21, 22, 23] [] [0, 1, 2, 3, 4, 5, 6, 7, 8, 9, 10, 11, 12, 13, 14, 15, 16, 17, 18, 19, 20, 21, 22, 23] jn_M__C (by decide) jn_M__R (by decide) (by decide) (by decide) jn_M__W rfl rfl rfl hl rfl rfl (Nat.le_of_ble_eq_true rfl) ⟨Nat.zero_le _, Nat.zero_le _⟩ d_M_goOn_265 (fun H locs _ hP hD hS => ?_)
    try dsimp only at h
    refine lv_goto (tgt := 296) hx hb d_M_goOn_268 (by decide) ?_
    exact rw_retv C0 hP hD hS (Option.some.inj h) d_M_goOn_296
set_option maxHeartbeats 4000000 in
set_option maxRecDepth 100000 in
theorem t_M_goOn_133 {p : Program} {l : Launch} {e : Env} {s : State} {m : MethodId} {args : Array Value} {below : List Frame} {meth : Method} {c : Code} {D : va_G} {cI cZ : ClassId} {a : Nat → Nat} {A : Nat → Prop} (C0 : Am p s m args meth c b_M_goOn none 6 R_M D [(cI, .int), (cZ, .boolean)]) (hA : ∀ q, s.heap.size ≤ q → A q) {res : Int32 × StM}   {q : Nat} {σ : StM} {t1 : Int32} (h : f_M_goOn_133 σ t1 = some res) {H : Heap} {locs : List Loc} (hP : va_P D vwCl (wM cI cZ a q σ) H) (hD : va_D A (wM cI cZ a q σ)) (hS : va_S A s.heap H locs) {ls : Array Slot} (hl : lv_has ls 6 []) : W p l e (rmK 3 74 0 0) s m args below meth c H locs 0 0 (RwQv below args s D A (fun q (σ : StM) => (wM cI cZ a q σ)) res 0 0) (F0 m 133 ls [.int t1, .ref (a 20)]) := by
  obtain ⟨hx, hb, hr, hml, hown, hts, hlk, hK⟩ := id C0
  unfold f_M_goOn_133 at h
  replace h := bd h
  obtain ⟨r12, g12, h⟩ := h
  refine rw_Vv (n := 1) (ci := 4) (As := [.int t1]) (rest := []) (Wn := fun _ => (wM cI cZ a q r12.2)) C0 hA (c_M_tell l D cI cZ a q σ t1 g12) wd_461 ⟨wd_462, wd_463, wd_464, wd_352⟩ (by decide +kernel) ⟨Nat.le_of_ble_eq_true rfl, Nat.le_of_ble_eq_true rfl⟩ hP hD hS [0, 1, 2, 3, 4, 5, 6, 7, 8, 9, 10, 11, 12, 13, 14, 15, 16, 17, 18, 19, 20, 21, 22, 23] [] [0, 1, 2, 3, 4, 5, 6, 7, 8, 9, 10, 11, 12, 13, 14, 15, 16, 17, 18, 19, 20, 21, 22, 23] jn_M__C (by decide) jn_M__R (by decide) (by decide) (by decide) jn_M__W rfl rfl rfl hl rfl rfl (Nat.le_of_ble_eq_true rfl) ⟨Nat.zero_le _, Nat.zero_le _⟩ d_M_goOn_133 (fun H locs _ hP hD hS => ?_)
  try dsimp only at h
  exact rw_retv C0 hP hD hS (Option.some.inj h) d_M_goOn_136
set_option maxHeartbeats 4000000 in
set_option maxRecDepth 100000 in
theorem t_M_goOn_59_s {p : Program} {l : Launch} {e : Env} {s : State} {m : MethodId} {args : Array Value} {below : List Frame} {meth : Method} {c : Code} {D : va_G} {cI cZ : ClassId} {a : Nat → Nat} {A : Nat → Prop} (C0 : Am p s m args meth c b_M_goOn none 6 R_M D [(cI, .int), (cZ, .boolean)]) (hA : ∀ q, s.heap.size ≤ q → A q) {res : Int32 × StM} {k59 : StM → Int32 → Int32 → Option (Int32 × StM)}  (hk59 : ∀ (q : Nat) (σ : StM) (x1 x2 : Int32) (H : Heap) (locs : List Loc) (ls : Array Slot), k59 σ x1 x2 = some res → va_P D vwCl (wM cI cZ a q σ) H → va_D A (wM cI cZ a q σ) → va_S A s.heap H locs → lv_has ls 6 [(0, .ref (a 20)), (1, .int x1), (2, .int x2)] → W p l e (rmK 3 74 0 0) s m args below meth c H locs 0 0 (RwQv below args s D A (fun q (σ : StM) => (wM cI cZ a q σ)) res 0 0) (F0 m 59 ls [])) {q : Nat} {σ : StM} {x1 x2 : Int32} (h : f_M_goOn_59_s k59 σ x1 x2 = some res) {H : Heap} {locs : List Loc} (hP : va_P D vwCl (wM cI cZ a q σ) H) (hD : va_D A (wM cI cZ a q σ)) (hS : va_S A s.heap H locs) {ls : Array Slot} (hl : lv_has ls 6 [(0, .ref (a 20)), (1, .int x1), (2, .int x2)]) : W p l e (rmK 3 74 0 0) s m args below meth c H locs 0 0 (RwQv below args s D A (fun q (σ : StM) => (wM cI cZ a q σ)) res 0 0) (F0 m 59 ls []) := by
  obtain ⟨hx, hb, hr, hml, hown, hts, hlk, hK⟩ := id C0
  unfold f_M_goOn_59_s at h
  refine lv_iload_n hx hb d_M_goOn_59 rfl (lv_at hl 2 rfl) ?_
  refine lv_aload_n hx hb d_M_goOn_60 rfl (lv_at hl 0 rfl) ?_
  refine va_get (ci := 4) (v := .ref (a 42)) (C := R_M) (T := F_M) (N := 35) hx hb hts i_M hown hK.1 hP 0 rfl rfl 32 (by decide) (hts _ wd_452) (fun _ h9 => h9) rfl d_M_goOn_61 ?_
  refine lv_iload_n hx hb d_M_goOn_64 rfl (lv_at hl 1 rfl) ?_
  replace h := gd h
  obtain ⟨hi, h⟩ := h
  refine va_iald hx hb hK.1 hP 22 0 rfl rfl hi d_M_goOn_65 ?_
  refine lv_icmp_ge (tgt := 92) hx hb d_M_goOn_66 (by decide) (fun hc => ?_) (fun hc => ?_)
  · rw [if_pos hc] at h
    refine lv_aload_n hx hb d_M_goOn_92 rfl (lv_at hl 0 rfl) ?_
    refine lv_aload_n hx hb d_M_goOn_93 rfl (lv_at hl 0 rfl) ?_
    refine va_get (ci := 4) (v := .ref (a 42)) (C := R_M) (T := F_M) (N := 35) hx hb hts i_M hown hK.1 hP 0 rfl rfl 32 (by decide) (hts _ wd_452) (fun _ h9 => h9) rfl d_M_goOn_94 ?_
    refine lv_iload_n hx hb d_M_goOn_97 rfl (lv_at hl 1 rfl) ?_
    replace h := gd h
    obtain ⟨hi, h⟩ := h
    refine va_iald hx hb hK.1 hP 22 0 rfl rfl hi d_M_goOn_98 ?_
    refine lv_iconst (v := 1) hx hb d_M_goOn_99 (by decide) ?_
    refine lv_icmp_ne (tgt := 112) hx hb d_M_goOn_100 (by decide) (fun hc => ?_) (fun hc => ?_)
    · rw [if_neg hc] at h
      refine lv_aload_n hx hb d_M_goOn_112 rfl (lv_at hl 0 rfl) ?_
      refine va_get (ci := 4) (v := .int (M_full σ)) (C := R_M) (T := F_M) (N := 35) hx hb hts i_M hown hK.1 hP 0 rfl rfl 18 (by decide) (hts _ wd_364) (fun _ h9 => h9) rfl d_M_goOn_113 ?_
      refine lv_if_eq (tgt := 123) hx hb d_M_goOn_116 (by decide) (fun hc => ?_) (fun hc => ?_)
      · rw [if_pos hc] at h
        refine lv_aload_n hx hb d_M_goOn_123 rfl (lv_at hl 0 rfl) ?_
        refine lv_aload_n hx hb d_M_goOn_124 rfl (lv_at hl 0 rfl) ?_
        refine va_get (ci := 4) (v := .ref (a 42)) (C := R_M) (T := F_M) (N := 35) hx hb hts i_M hown hK.1 hP 0 rfl rfl 32 (by decide) (hts _ wd_452) (fun _ h9 => h9) rfl d_M_goOn_125 ?_
        refine lv_iload_n hx hb d_M_goOn_128 rfl (lv_at hl 1 rfl) ?_
        replace h := gd h
        obtain ⟨hi, h⟩ := h
        refine va_iald hx hb hK.1 hP 22 0 rfl rfl hi d_M_goOn_129 ?_
        replace h := bd h
        obtain ⟨r11, g11, h⟩ := h
        refine rw_V (n := 1) (ci := 4) (As := [.int ((M_size σ) x1.toNatClampNeg)]) (rest := [.ref (a 20)]) (Wn := fun _ => (wM cI cZ a q r11.2)) C0 hA (c_M_addBoth l D cI cZ a q σ ((M_size σ) x1.toNatClampNeg) g11) wd_469 ⟨wd_470, wd_471, wd_472, wd_352⟩ (by decide +kernel) ⟨Nat.le_of_ble_eq_true rfl, Nat.le_of_ble_eq_true rfl⟩ hP hD hS [0, 1, 2, 3, 4, 5, 6, 7, 8, 9, 10, 11, 12, 13, 14, 15, 16, 17, 18, 19, 20, 21, 22, 23] [] [0, 1, 2, 3, 4, 5, 6, 7, 8, 9, 10, 11, 12, 13, 14, 15, 16, 17, 18, 19, 20, 21, 22, 23] jn_M__C (by decide) jn_M__R (by decide) (by decide) (by decide) jn_M__W rfl rfl rfl hl rfl rfl (Nat.le_of_ble_eq_true rfl) ⟨Nat.zero_le _, Nat.zero_le _⟩ d_M_goOn_130 (fun H locs _ hP hD hS => ?_)
        try dsimp only at h
        exact t_M_goOn_133 (a := a) C0 hA  h hP hD hS (lv_sub hl [] rfl)
      · rw [if_neg hc] at h
        refine lv_iconst (v := 0) hx hb d_M_goOn_119 (by decide) ?_
        refine lv_goto (tgt := 133) hx hb d_M_goOn_120 (by decide) ?_
        exact t_M_goOn_133 (a := a) C0 hA  h hP hD hS (lv_sub hl [] rfl)
    · rw [if_pos hc] at h
      refine lv_aload_n hx hb d_M_goOn_103 rfl (lv_at hl 0 rfl) ?_
      refine va_get (ci := 4) (v := .ref (a 34)) (C := R_M) (T := F_M) (N := 35) hx hb hts i_M hown hK.1 hP 0 rfl rfl 22 (by decide) (hts _ wd_369) (fun _ h9 => h9) rfl d_M_goOn_104 ?_
      refine lv_iconst (v := 0) hx hb d_M_goOn_107 (by decide) ?_
      replace h := gd h
      obtain ⟨hi, h⟩ := h
      refine va_iald hx hb hK.1 hP 14 0 rfl rfl hi d_M_goOn_108 ?_
      refine lv_goto (tgt := 133) hx hb d_M_goOn_109 (by decide) ?_
      exact t_M_goOn_133 (a := a) C0 hA  h hP hD hS (lv_sub hl [] rfl)
  · rw [if_neg hc] at h
    refine lv_aload_n hx hb d_M_goOn_69 rfl (lv_at hl 0 rfl) ?_
    refine va_get (ci := 4) (v := .ref (a 34)) (C := R_M) (T := F_M) (N := 35) hx hb hts i_M hown hK.1 hP 0 rfl rfl 22 (by decide) (hts _ wd_369) (fun _ h9 => h9) rfl d_M_goOn_70 ?_
    refine lv_iload_n hx hb d_M_goOn_73 rfl (lv_at hl 2 rfl) ?_
    refine lv_aload_n hx hb d_M_goOn_74 rfl (lv_at hl 0 rfl) ?_
    refine va_get (ci := 4) (v := .ref (a 43)) (C := R_M) (T := F_M) (N := 35) hx hb hts i_M hown hK.1 hP 0 rfl rfl 33 (by decide) (hts _ wd_455) (fun _ h9 => h9) rfl d_M_goOn_75 ?_
    refine lv_bipush (v := 30) hx hb d_M_goOn_78 (by decide) ?_
    refine lv_iload_n hx hb d_M_goOn_80 rfl (lv_at hl 1 rfl) ?_
    refine lv_imul hx hb d_M_goOn_81 ?_
    refine lv_iload_n hx hb d_M_goOn_82 rfl (lv_at hl 2 rfl) ?_
    refine lv_iadd hx hb d_M_goOn_83 ?_
    replace h := gd h
    obtain ⟨hi, h⟩ := h
    refine va_iald hx hb hK.1 hP 23 0 rfl rfl hi d_M_goOn_84 ?_
    replace h := gd h
    obtain ⟨hi, h⟩ := h
    refine rw_iast C0 hP hD hS 14 0 rfl rfl hi d_M_goOn_85 (Wn := (wM cI cZ a q (M_put_row σ x2 ((M_parts σ) ((30 * x1) + x2).toNatClampNeg)))) ws_M_put_row (fun H locs hP hD hS => ?_)
    refine lv_iinc (v := (x2 + 1)) (lv' := [(2, .int (x2 + 1)), (0, .ref (a 20)), (1, .int x1)]) hx hb d_M_goOn_86 hl (k := 2) rfl rfl (by decide) rfl (fun ls hl => ?_)
    refine lv_goto (tgt := 59) hx hb d_M_goOn_89 (by decide) ?_
    exact hk59 _ _ _ _ _ _ _ h hP hD hS (lv_sub hl [1, 2, 0] rfl)
set_option maxHeartbeats 4000000 in
set_option maxRecDepth 100000 in
theorem t_M_goOn_59 {p : Program} {l : Launch} {e : Env} {s : State} {m : MethodId} {args : Array Value} {below : List Frame} {meth : Method} {c : Code} {D : va_G} {cI cZ : ClassId} {a : Nat → Nat} {A : Nat → Prop} (C0 : Am p s m args meth c b_M_goOn none 6 R_M D [(cI, .int), (cZ, .boolean)]) (hA : ∀ q, s.heap.size ≤ q → A q) {res : Int32 × StM}  {n : Nat} {q : Nat} {σ : StM} {x1 x2 : Int32} (h : f_M_goOn_59  n σ x1 x2 = some res) {H : Heap} {locs : List Loc} (hP : va_P D vwCl (wM cI cZ a q σ) H) (hD : va_D A (wM cI cZ a q σ)) (hS : va_S A s.heap H locs) {ls : Array Slot} (hl : lv_has ls 6 [(0, .ref (a 20)), (1, .int x1), (2, .int x2)]) : W p l e (rmK 3 74 0 0) s m args below meth c H locs 0 0 (RwQv below args s D A (fun q (σ : StM) => (wM cI cZ a q σ)) res 0 0) (F0 m 59 ls []) := by
  induction n generalizing q σ x1 x2 H locs ls with
  | zero => cases h
  | succ n ih => exact t_M_goOn_59_s (a := a) C0 hA  (fun _ _ _ _ _ _ _ h hP hD hS hl => ih h hP hD hS hl) h hP hD hS hl
set_option maxHeartbeats 4000000 in
set_option maxRecDepth 100000 in
theorem t_M_goOn_44 {p : Program} {l : Launch} {e : Env} {s : State} {m : MethodId} {args : Array Value} {below : List Frame} {meth : Method} {c : Code} {D : va_G} {cI cZ : ClassId} {a : Nat → Nat} {A : Nat → Prop} (C0 : Am p s m args meth c b_M_goOn none 6 R_M D [(cI, .int), (cZ, .boolean)]) (hA : ∀ q, s.heap.size ≤ q → A q) {res : Int32 × StM}   {q : Nat} {σ : StM} {x1 : Int32} (h : f_M_goOn_44 σ x1 = some res) {H : Heap} {locs : List Loc} (hP : va_P D vwCl (wM cI cZ a q σ) H) (hD : va_D A (wM cI cZ a q σ)) (hS : va_S A s.heap H locs) {ls : Array Slot} (hl : lv_has ls 6 [(0, .ref (a 20)), (1, .int x1)]) : W p l e (rmK 3 74 0 0) s m args below meth c H locs 0 0 (RwQv below args s D A (fun q (σ : StM) => (wM cI cZ a q σ)) res 0 0) (F0 m 44 ls []) := by
  obtain ⟨hx, hb, hr, hml, hown, hts, hlk, hK⟩ := id C0
  unfold f_M_goOn_44 at h
  refine lv_aload_n hx hb d_M_goOn_44 rfl (lv_at hl 0 rfl) ?_
  refine va_get (ci := 4) (v := .ref (a 41)) (C := R_M) (T := F_M) (N := 35) hx hb hts i_M hown hK.1 hP 0 rfl rfl 31 (by decide) (hts _ wd_453) (fun _ h9 => h9) rfl d_M_goOn_45 ?_
  refine lv_iload_n hx hb d_M_goOn_48 rfl (lv_at hl 1 rfl) ?_
  replace h := gd h
  obtain ⟨hi, h⟩ := h
  refine va_iald hx hb hK.1 hP 21 0 rfl rfl hi d_M_goOn_49 ?_
  refine lv_aload_n hx hb d_M_goOn_50 rfl (lv_at hl 0 rfl) ?_
  refine va_get (ci := 4) (v := .int (M_classes σ)) (C := R_M) (T := F_M) (N := 35) hx hb hts i_M hown hK.1 hP 0 rfl rfl 2 (by decide) (hts _ wd_343) (fun _ h9 => h9) rfl d_M_goOn_51 ?_
  refine lv_icmp_ne (tgt := 137) hx hb d_M_goOn_54 (by decide) (fun hc => ?_) (fun hc => ?_)
  · rw [if_neg hc] at h
    refine lv_aload_n hx hb d_M_goOn_137 rfl (lv_at hl 0 rfl) ?_
    refine va_get (ci := 4) (v := .ref (a 41)) (C := R_M) (T := F_M) (N := 35) hx hb hts i_M hown hK.1 hP 0 rfl rfl 31 (by decide) (hts _ wd_453) (fun _ h9 => h9) rfl d_M_goOn_138 ?_
    refine lv_iload_n hx hb d_M_goOn_141 rfl (lv_at hl 1 rfl) ?_
    replace h := gd h
    obtain ⟨hi, h⟩ := h
    refine va_iald hx hb hK.1 hP 21 0 rfl rfl hi d_M_goOn_142 ?_
    refine lv_istore_n (lv' := [(2, .int ((M_at σ) x1.toNatClampNeg)), (0, .ref (a 20)), (1, .int x1)]) hx hb d_M_goOn_143 rfl hl (by decide) rfl (fun ls hl => ?_)
    refine lv_aload_n hx hb d_M_goOn_144 rfl (lv_at hl 1 rfl) ?_
    refine va_get (ci := 4) (v := .ref (a 22)) (C := R_M) (T := F_M) (N := 35) hx hb hts i_M hown hK.1 hP 0 rfl rfl 5 (by decide) (hts _ wd_393) (fun _ h9 => h9) rfl d_M_goOn_145 ?_
    refine lv_iload_n hx hb d_M_goOn_148 rfl (lv_at hl 0 rfl) ?_
    replace h := gd h
    obtain ⟨hi, h⟩ := h
    refine va_zald hx hb hK.1 hP 2 1 rfl rfl hi d_M_goOn_149 ?_
    refine lv_if_ne (tgt := 166) hx hb d_M_goOn_150 (by decide) (fun hc => ?_) (fun hc => ?_)
    · rw [if_neg hc] at h
      refine lv_aload_n hx hb d_M_goOn_166 rfl (lv_at hl 1 rfl) ?_
      refine lv_aload_n hx hb d_M_goOn_167 rfl (lv_at hl 1 rfl) ?_
      refine va_get (ci := 4) (v := .ref (a 36)) (C := R_M) (T := F_M) (N := 35) hx hb hts i_M hown hK.1 hP 0 rfl rfl 26 (by decide) (hts _ wd_447) (fun _ h9 => h9) rfl d_M_goOn_168 ?_
      refine lv_iload_n hx hb d_M_goOn_171 rfl (lv_at hl 2 rfl) ?_
      replace h := gd h
      obtain ⟨hi, h⟩ := h
      refine va_iald hx hb hK.1 hP 16 0 rfl rfl hi d_M_goOn_172 ?_
      refine lv_iload_n hx hb d_M_goOn_173 rfl (lv_at hl 0 rfl) ?_
      replace h := bd h
      obtain ⟨r1, g1, h⟩ := h
      refine rw_Vv (n := 2) (ci := 4) (As := [.int ((M_left σ) x1.toNatClampNeg), .int ((M_at σ) x1.toNatClampNeg)]) (rest := []) (Wn := fun _ => (wM cI cZ a q r1.2)) C0 hA (c_M_lookAt l D cI cZ a q σ ((M_left σ) x1.toNatClampNeg) ((M_at σ) x1.toNatClampNeg) g1) wd_371 ⟨wd_372, wd_373, wd_374, wd_352⟩ (by decide +kernel) ⟨Nat.le_of_ble_eq_true rfl, Nat.le_of_ble_eq_true rfl⟩ hP hD hS [0, 1, 2, 3, 4, 5, 6, 7, 8, 9, 10, 11, 12, 13, 14, 15, 16, 17, 18, 19, 20, 21, 22, 23] [] [0, 1, 2, 3, 4, 5, 6, 7, 8, 9, 10, 11, 12, 13, 14, 15, 16, 17, 18, 19, 20, 21, 22, 23] jn_M__C (by decide) jn_M__R (by decide) (by decide) (by decide) jn_M__W rfl rfl rfl hl rfl rfl (Nat.le_of_ble_eq_true rfl) ⟨Nat.zero_le _, Nat.zero_le _⟩ d_M_goOn_174 (fun H locs _ hP hD hS => ?_)
      try dsimp only at h
      refine lv_aload_n hx hb d_M_goOn_177 rfl (lv_at hl 1 rfl) ?_
      refine va_get (ci := 4) (v := .int (M_foundHow r1.2)) (C := R_M) (T := F_M) (N := 35) hx hb hts i_M hown hK.1 hP 0 rfl rfl 20 (by decide) (hts _ wd_346) (fun _ h9 => h9) rfl d_M_goOn_178 ?_
      refine lv_istore_n (lv' := [(3, .int (M_foundHow r1.2)), (2, .int ((M_at σ) x1.toNatClampNeg)), (0, .ref (a 20)), (1, .int x1)]) hx hb d_M_goOn_181 rfl hl (by decide) rfl (fun ls hl => ?_)
      refine lv_aload_n hx hb d_M_goOn_182 rfl (lv_at hl 2 rfl) ?_
      refine va_get (ci := 4) (v := .int (M_foundType r1.2)) (C := R_M) (T := F_M) (N := 35) hx hb hts i_M hown hK.1 hP 0 rfl rfl 21 (by decide) (hts _ wd_347) (fun _ h9 => h9) rfl d_M_goOn_183 ?_
      refine lv_istore (lv' := [(4, .int (M_foundType r1.2)), (3, .int (M_foundHow r1.2)), (2, .int ((M_at σ) x1.toNatClampNeg)), (0, .ref (a 20)), (1, .int x1)]) hx hb d_M_goOn_186 hl (by decide) rfl (fun ls hl => ?_)
      refine lv_aload_n hx hb d_M_goOn_188 rfl (lv_at hl 3 rfl) ?_
      refine lv_aload_n hx hb d_M_goOn_189 rfl (lv_at hl 3 rfl) ?_
      refine va_get (ci := 4) (v := .ref (a 37)) (C := R_M) (T := F_M) (N := 35) hx hb hts i_M hown hK.1 hP 0 rfl rfl 27 (by decide) (hts _ wd_449) (fun _ h9 => h9) rfl d_M_goOn_190 ?_
      refine lv_iload_n hx hb d_M_goOn_193 rfl (lv_at hl 4 rfl) ?_
      replace h := gd h
      obtain ⟨hi, h⟩ := h
      refine va_iald hx hb hK.1 hP 17 0 rfl rfl hi d_M_goOn_194 ?_
      refine lv_iload_n hx hb d_M_goOn_195 rfl (lv_at hl 2 rfl) ?_
      replace h := bd h
      obtain ⟨r2, g2, h⟩ := h
      refine rw_Vv (n := 2) (ci := 4) (As := [.int ((M_right r1.2) x1.toNatClampNeg), .int ((M_at σ) x1.toNatClampNeg)]) (rest := []) (Wn := fun _ => (wM cI cZ a q r2.2)) C0 hA (c_M_lookAt l D cI cZ a q r1.2 ((M_right r1.2) x1.toNatClampNeg) ((M_at σ) x1.toNatClampNeg) g2) wd_371 ⟨wd_372, wd_373, wd_374, wd_352⟩ (by decide +kernel) ⟨Nat.le_of_ble_eq_true rfl, Nat.le_of_ble_eq_true rfl⟩ hP hD hS [0, 1, 2, 3, 4, 5, 6, 7, 8, 9, 10, 11, 12, 13, 14, 15, 16, 17, 18, 19, 20, 21, 22, 23] [] [0, 1, 2, 3, 4, 5, 6, 7, 8, 9, 10, 11, 12, 13, 14, 15, 16, 17, 18, 19, 20, 21, 22, 23] jn_M__C (by decide) jn_M__R (by decide) (by decide) (by decide) jn_M__W rfl rfl rfl hl rfl rfl (Nat.le_of_ble_eq_true rfl) ⟨Nat.zero_le _, Nat.zero_le _⟩ d_M_goOn_196 (fun H locs _ hP hD hS => ?_)
      try dsimp only at h
      refine lv_iload_n hx hb d_M_goOn_199 rfl (lv_at hl 1 rfl) ?_
      refine lv_iconst (v := 1) hx hb d_M_goOn_200 (by decide) ?_
      refine lv_icmp_ne (tgt := 237) hx hb d_M_goOn_201 (by decide) (fun hc => ?_) (fun hc => ?_)
      · rw [if_neg hc] at h
        exact t_M_goOn_237 (a := a) C0 hA  h hP hD hS (lv_sub hl [3, 4, 2, 0] rfl)
      · rw [if_pos hc] at h
        refine lv_aload_n hx hb d_M_goOn_204 rfl (lv_at hl 3 rfl) ?_
        refine va_get (ci := 4) (v := .int (M_foundHow r2.2)) (C := R_M) (T := F_M) (N := 35) hx hb hts i_M hown hK.1 hP 0 rfl rfl 20 (by decide) (hts _ wd_346) (fun _ h9 => h9) rfl d_M_goOn_205 ?_
        refine lv_iconst (v := 1) hx hb d_M_goOn_208 (by decide) ?_
        refine lv_icmp_ne (tgt := 237) hx hb d_M_goOn_209 (by decide) (fun hc => ?_) (fun hc => ?_)
        · rw [if_neg hc] at h
          exact t_M_goOn_237 (a := a) C0 hA  h hP hD hS (lv_sub hl [3, 4, 2, 0] rfl)
        · rw [if_pos hc] at h
          refine lv_iload hx hb d_M_goOn_212 (lv_at hl 0 rfl) ?_
          refine lv_aload_n hx hb d_M_goOn_214 rfl (lv_at hl 3 rfl) ?_
          refine va_get (ci := 4) (v := .int (M_foundType r2.2)) (C := R_M) (T := F_M) (N := 35) hx hb hts i_M hown hK.1 hP 0 rfl rfl 21 (by decide) (hts _ wd_347) (fun _ h9 => h9) rfl d_M_goOn_215 ?_
          refine lv_icmp_ne (tgt := 237) hx hb d_M_goOn_218 (by decide) (fun hc => ?_) (fun hc => ?_)
          · rw [if_neg hc] at h
            exact t_M_goOn_237 (a := a) C0 hA  h hP hD hS (lv_sub hl [3, 4, 2, 0] rfl)
          · rw [if_pos hc] at h
            refine lv_aload_n hx hb d_M_goOn_221 rfl (lv_at hl 3 rfl) ?_
            refine lv_iload_n hx hb d_M_goOn_222 rfl (lv_at hl 4 rfl) ?_
            refine lv_aload_n hx hb d_M_goOn_223 rfl (lv_at hl 3 rfl) ?_
            refine lv_iload_n hx hb d_M_goOn_224 rfl (lv_at hl 2 rfl) ?_
            refine lv_iconst (v := 1) hx hb d_M_goOn_225 (by decide) ?_
            refine lv_iload hx hb d_M_goOn_226 (lv_at hl 0 rfl) ?_
            replace h := bd h
            obtain ⟨r7, g7, h⟩ := h
            refine rw_V (n := 3) (ci := 4) (As := [.int ((M_at σ) x1.toNatClampNeg), .int 1, .int (M_foundType r1.2)]) (rest := [.int x1, .ref (a 20)]) (Wn := fun _ => (wM cI cZ a q r7.2)) C0 hA (c_M_addNamed l D cI cZ a q r2.2 ((M_at σ) x1.toNatClampNeg) 1 (M_foundType r1.2) g7) wd_419 ⟨wd_420, wd_421, wd_422, wd_352⟩ (by decide +kernel) ⟨Nat.le_of_ble_eq_true rfl, Nat.le_of_ble_eq_true rfl⟩ hP hD hS [0, 1, 2, 3, 4, 5, 6, 7, 8, 9, 10, 11, 12, 13, 14, 15, 16, 17, 18, 19, 20, 21, 22, 23] [] [0, 1, 2, 3, 4, 5, 6, 7, 8, 9, 10, 11, 12, 13, 14, 15, 16, 17, 18, 19, 20, 21, 22, 23] jn_M__C (by decide) jn_M__R (by decide) (by decide) (by decide) jn_M__W rfl rfl rfl hl rfl rfl (Nat.le_of_ble_eq_true rfl) ⟨Nat.zero_le _, Nat.zero_le _⟩ d_M_goOn_228 (fun H locs _ hP hD hS => ?_)
            try dsimp only at h
            replace h := bd h
            obtain ⟨r8, g8, h⟩ := h
            refine rw_Vv (n := 2) (ci := 4) (As := [.int x1, .int r7.1]) (rest := []) (Wn := fun _ => (wM cI cZ a q r8.2)) C0 hA (c_M_keep l D cI cZ a q r7.2 x1 r7.1 g8) wd_465 ⟨wd_466, wd_467, wd_468, wd_352⟩ (by decide +kernel) ⟨Nat.le_of_ble_eq_true rfl, Nat.le_of_ble_eq_true rfl⟩ hP hD hS [0, 1, 2, 3, 4, 5, 6, 7, 8, 9, 10, 11, 12, 13, 14, 15, 16, 17, 18, 19, 20, 21, 22, 23] [] [0, 1, 2, 3, 4, 5, 6, 7, 8, 9, 10, 11, 12, 13, 14, 15, 16, 17, 18, 19, 20, 21, 22, 23] jn_M__C (by decide) jn_M__R (by decide) (by decide) (by decide) jn_M__W rfl rfl rfl hl rfl rfl (Nat.le_of_ble_eq_true rfl) ⟨Nat.zero_le _, Nat.zero_le _⟩ d_M_goOn_231 (fun H locs _ hP hD hS => ?_)
            try dsimp only at h
            refine lv_goto (tgt := 296) hx hb d_M_goOn_234 (by decide) ?_
            exact rw_retv C0 hP hD hS (Option.some.inj h) d_M_goOn_296
    · rw [if_pos hc] at h
      refine lv_aload_n hx hb d_M_goOn_153 rfl (lv_at hl 1 rfl) ?_
      refine lv_iload_n hx hb d_M_goOn_154 rfl (lv_at hl 2 rfl) ?_
      refine lv_aload_n hx hb d_M_goOn_155 rfl (lv_at hl 1 rfl) ?_
      refine lv_iload_n hx hb d_M_goOn_156 rfl (lv_at hl 0 rfl) ?_
      refine lv_iconst (v := 0) hx hb d_M_goOn_157 (by decide) ?_
      refine lv_iconst (v := (-1)) hx hb d_M_goOn_158 (by decide) ?_
      replace h := bd h
      obtain ⟨r9, g9, h⟩ := h
      refine rw_V (n := 3) (ci := 4) (As := [.int ((M_at σ) x1.toNatClampNeg), .int 0, .int (-1)]) (rest := [.int x1, .ref (a 20)]) (Wn := fun _ => (wM cI cZ a q r9.2)) C0 hA (c_M_addNamed l D cI cZ a q σ ((M_at σ) x1.toNatClampNeg) 0 (-1) g9) wd_419 ⟨wd_420, wd_421, wd_422, wd_352⟩ (by decide +kernel) ⟨Nat.le_of_ble_eq_true rfl, Nat.le_of_ble_eq_true rfl⟩ hP hD hS [0, 1, 2, 3, 4, 5, 6, 7, 8, 9, 10, 11, 12, 13, 14, 15, 16, 17, 18, 19, 20, 21, 22, 23] [] [0, 1, 2, 3, 4, 5, 6, 7, 8, 9, 10, 11, 12, 13, 14, 15, 16, 17, 18, 19, 20, 21, 22, 23] jn_M__C (by decide) jn_M__R (by decide) (by decide) (by decide) jn_M__W rfl rfl rfl hl rfl rfl (Nat.le_of_ble_eq_true rfl) ⟨Nat.zero_le _, Nat.zero_le _⟩ d_M_goOn_159 (fun H locs _ hP hD hS => ?_)
      try dsimp only at h
      replace h := bd h
      obtain ⟨r10, g10, h⟩ := h
      refine rw_Vv (n := 2) (ci := 4) (As := [.int x1, .int r9.1]) (rest := []) (Wn := fun _ => (wM cI cZ a q r10.2)) C0 hA (c_M_keep l D cI cZ a q r9.2 x1 r9.1 g10) wd_465 ⟨wd_466, wd_467, wd_468, wd_352⟩ (by decide +kernel) ⟨Nat.le_of_ble_eq_true rfl, Nat.le_of_ble_eq_true rfl⟩ hP hD hS [0, 1, 2, 3, 4, 5, 6, 7, 8, 9, 10, 11, 12, 13, 14, 15, 16, 17, 18, 19, 20, 21, 22, 23] [] [0, 1, 2, 3, 4, 5, 6, 7, 8, 9, 10, 11, 12, 13, 14, 15, 16, 17, 18, 19, 20, 21, 22, 23] jn_M__C (by decide) jn_M__R (by decide) (by decide) (by decide) jn_M__W rfl rfl rfl hl rfl rfl (Nat.le_of_ble_eq_true rfl) ⟨Nat.zero_le _, Nat.zero_le _⟩ d_M_goOn_162 (fun H locs _ hP hD hS => ?_)
      try dsimp only at h
      exact rw_retv C0 hP hD hS (Option.some.inj h) d_M_goOn_165
  · rw [if_pos hc] at h
    refine lv_iconst (v := 0) hx hb d_M_goOn_57 (by decide) ?_
    refine lv_istore_n (lv' := [(2, .int 0), (0, .ref (a 20)), (1, .int x1)]) hx hb d_M_goOn_58 rfl hl (by decide) rfl (fun ls hl => ?_)
    exact t_M_goOn_59 (a := a) C0 hA  h hP hD hS (lv_sub hl [1, 2, 0] rfl)
set_option maxHeartbeats 4000000 in
set_option maxRecDepth 100000 in
theorem t_M_goOn_0_s {p : Program} {l : Launch} {e : Env} {s : State} {m : MethodId} {args : Array Value} {below : List Frame} {meth : Method} {c : Code} {D : va_G} {cI cZ : ClassId} {a : Nat → Nat} {A : Nat → Prop} (C0 : Am p s m args meth c b_M_goOn none 6 R_M D [(cI, .int), (cZ, .boolean)]) (hA : ∀ q, s.heap.size ≤ q → A q) {res : Int32 × StM} {k0 : StM → Int32 → Option (Int32 × StM)}  (hk0 : ∀ (q : Nat) (σ : StM) (x1 : Int32) (H : Heap) (locs : List Loc) (ls : Array Slot), k0 σ x1 = some res → va_P D vwCl (wM cI cZ a q σ) H → va_D A (wM cI cZ a q σ) → va_S A s.heap H locs → lv_has ls 6 [(0, .ref (a 20)), (1, .int x1)] → W p l e (rmK 3 74 0 0) s m args below meth c H locs 0 0 (RwQv below args s D A (fun q (σ : StM) => (wM cI cZ a q σ)) res 0 0) (F0 m 0 ls [])) {q : Nat} {σ : StM} {x1 : Int32} (h : f_M_goOn_0_s k0 σ x1 = some res) {H : Heap} {locs : List Loc} (hP : va_P D vwCl (wM cI cZ a q σ) H) (hD : va_D A (wM cI cZ a q σ)) (hS : va_S A s.heap H locs) {ls : Array Slot} (hl : lv_has ls 6 [(0, .ref (a 20)), (1, .int x1)]) : W p l e (rmK 3 74 0 0) s m args below meth c H locs 0 0 (RwQv below args s D A (fun q (σ : StM) => (wM cI cZ a q σ)) res 0 0) (F0 m 0 ls []) := by
  obtain ⟨hx, hb, hr, hml, hown, hts, hlk, hK⟩ := id C0
  unfold f_M_goOn_0_s at h
  refine lv_aload_n hx hb d_M_goOn_0 rfl (lv_at hl 0 rfl) ?_
  refine va_get (ci := 4) (v := .ref (a 41)) (C := R_M) (T := F_M) (N := 35) hx hb hts i_M hown hK.1 hP 0 rfl rfl 31 (by decide) (hts _ wd_453) (fun _ h9 => h9) rfl d_M_goOn_1 ?_
  refine lv_iload_n hx hb d_M_goOn_4 rfl (lv_at hl 1 rfl) ?_
  replace h := gd h
  obtain ⟨hi, h⟩ := h
  refine va_iald hx hb hK.1 hP 21 0 rfl rfl hi d_M_goOn_5 ?_
  refine lv_aload_n hx hb d_M_goOn_6 rfl (lv_at hl 0 rfl) ?_
  refine va_get (ci := 4) (v := .int (M_classes σ)) (C := R_M) (T := F_M) (N := 35) hx hb hts i_M hown hK.1 hP 0 rfl rfl 2 (by decide) (hts _ wd_343) (fun _ h9 => h9) rfl d_M_goOn_7 ?_
  refine lv_icmp_ge (tgt := 44) hx hb d_M_goOn_10 (by decide) (fun hc => ?_) (fun hc => ?_)
  · rw [if_pos hc] at h
    exact t_M_goOn_44 (a := a) C0 hA  h hP hD hS (lv_sub hl [0, 1] rfl)
  · rw [if_neg hc] at h
    refine lv_aload_n hx hb d_M_goOn_13 rfl (lv_at hl 0 rfl) ?_
    refine va_get (ci := 4) (v := .ref (a 40)) (C := R_M) (T := F_M) (N := 35) hx hb hts i_M hown hK.1 hP 0 rfl rfl 30 (by decide) (hts _ wd_456) (fun _ h9 => h9) rfl d_M_goOn_14 ?_
    refine lv_iload_n hx hb d_M_goOn_17 rfl (lv_at hl 1 rfl) ?_
    replace h := gd h
    obtain ⟨hi, h⟩ := h
    refine va_iald hx hb hK.1 hP 20 0 rfl rfl hi d_M_goOn_18 ?_
    refine lv_aload_n hx hb d_M_goOn_19 rfl (lv_at hl 0 rfl) ?_
    refine va_get (ci := 4) (v := .ref (a 41)) (C := R_M) (T := F_M) (N := 35) hx hb hts i_M hown hK.1 hP 0 rfl rfl 31 (by decide) (hts _ wd_453) (fun _ h9 => h9) rfl d_M_goOn_20 ?_
    refine lv_iload_n hx hb d_M_goOn_23 rfl (lv_at hl 1 rfl) ?_
    replace h := gd h
    obtain ⟨hi, h⟩ := h
    refine va_iald hx hb hK.1 hP 21 0 rfl rfl hi d_M_goOn_24 ?_
    refine lv_ishr hx hb d_M_goOn_25 ?_
    refine lv_iconst (v := 1) hx hb d_M_goOn_26 (by decide) ?_
    refine lv_iand hx hb d_M_goOn_27 ?_
    refine lv_if_ne (tgt := 44) hx hb d_M_goOn_28 (by decide) (fun hc => ?_) (fun hc => ?_)
    · rw [if_neg hc] at h
      exact t_M_goOn_44 (a := a) C0 hA  h hP hD hS (lv_sub hl [0, 1] rfl)
    · rw [if_pos hc] at h
      refine lv_aload_n hx hb d_M_goOn_31 rfl (lv_at hl 0 rfl) ?_
      refine va_get (ci := 4) (v := .ref (a 41)) (C := R_M) (T := F_M) (N := 35) hx hb hts i_M hown hK.1 hP 0 rfl rfl 31 (by decide) (hts _ wd_453) (fun _ h9 => h9) rfl d_M_goOn_32 ?_
      refine lv_iload_n hx hb d_M_goOn_35 rfl (lv_at hl 1 rfl) ?_
      refine lv_dup2_11 hx hb d_M_goOn_36 rfl rfl ?_
      replace h := gd h
      obtain ⟨hi, h⟩ := h
      refine va_iald hx hb hK.1 hP 21 0 rfl rfl hi d_M_goOn_37 ?_
      refine lv_iconst (v := 1) hx hb d_M_goOn_38 (by decide) ?_
      refine lv_iadd hx hb d_M_goOn_39 ?_
      replace h := gd h
      obtain ⟨hi, h⟩ := h
      refine rw_iast C0 hP hD hS 21 0 rfl rfl hi d_M_goOn_40 (Wn := (wM cI cZ a q (M_put_at σ x1 (((M_at σ) x1.toNatClampNeg) + 1)))) ws_M_put_at (fun H locs hP hD hS => ?_)
      refine lv_goto (tgt := 0) hx hb d_M_goOn_41 (by decide) ?_
      exact hk0 _ _ _ _ _ _ h hP hD hS (lv_sub hl [0, 1] rfl)
set_option maxHeartbeats 4000000 in
set_option maxRecDepth 100000 in
theorem t_M_goOn_0 {p : Program} {l : Launch} {e : Env} {s : State} {m : MethodId} {args : Array Value} {below : List Frame} {meth : Method} {c : Code} {D : va_G} {cI cZ : ClassId} {a : Nat → Nat} {A : Nat → Prop} (C0 : Am p s m args meth c b_M_goOn none 6 R_M D [(cI, .int), (cZ, .boolean)]) (hA : ∀ q, s.heap.size ≤ q → A q) {res : Int32 × StM}  {n : Nat} {q : Nat} {σ : StM} {x1 : Int32} (h : f_M_goOn_0  n σ x1 = some res) {H : Heap} {locs : List Loc} (hP : va_P D vwCl (wM cI cZ a q σ) H) (hD : va_D A (wM cI cZ a q σ)) (hS : va_S A s.heap H locs) {ls : Array Slot} (hl : lv_has ls 6 [(0, .ref (a 20)), (1, .int x1)]) : W p l e (rmK 3 74 0 0) s m args below meth c H locs 0 0 (RwQv below args s D A (fun q (σ : StM) => (wM cI cZ a q σ)) res 0 0) (F0 m 0 ls []) := by
  induction n generalizing q σ x1 H locs ls with
  | zero => cases h
  | succ n ih => exact t_M_goOn_0_s (a := a) C0 hA  (fun _ _ _ _ _ _ h hP hD hS hl => ih h hP hD hS hl) h hP hD hS hl
set_option maxHeartbeats 4000000 in
set_option maxRecDepth 100000 in
theorem c_M_goOn (l : Launch) (D : va_G) (cI cZ : ClassId) (a : Nat → Nat) (q : Nat) (σ : StM) (x1 : Int32) {res : Int32 × StM} (h : f_M_goOn σ x1 = some res) : RwMv l y_M_goOn b_M_goOn 6 3 74 D [(cI, .int), (cZ, .boolean)] [.ref (a 20), .int x1] (fun q (σ : StM) => (wM cI cZ a q σ)) q σ res :=
  rw_ofv (by decide) (Nat.le_of_ble_eq_true rfl) (fun p e s m args below meth c ls A C0 hA hP hD hS hl => t_M_goOn_0 (a := a) C0 hA h hP hD hS (lv_sub hl [0, 1] rfl))
