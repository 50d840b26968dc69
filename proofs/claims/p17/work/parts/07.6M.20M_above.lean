def f_M_above_266 (σ : StM) (x3 : Int32) : Option (Int32 × StM) :=
  (f_M_reckonOver σ x3).bind fun r2 =>
  if x3 < 0 ∨ 30 ≤ x3.toNatClampNeg then none else
  some (((M_directs (M_set_reckoned r2.2 0)) x3.toNatClampNeg), (M_set_reckoned r2.2 0))
def f_M_above_216 (σ : StM) (x1 x2 x3 x6 : Int32) : Option (Int32 × StM) :=
  (f_M_good σ x6).bind fun r1 =>
  if r1.1 = 0 then
    some (0, r1.2)
  else
    if x1 < 0 ∨ 30 ≤ x1.toNatClampNeg then none else
    if ((M_face r1.2) x1.toNatClampNeg) = 0 then
      if (30 * x3) < 0 ∨ 900 ≤ (30 * x3).toNatClampNeg then none else
      if (30 * x3) < 0 ∨ 900 ≤ (30 * x3).toNatClampNeg then none else
      f_M_above_266 (M_put_directArg (M_put_directTo r1.2 (30 * x3) x1) (30 * x3) x2) x3
    else
      (f_M_tie r1.2 x3 x1 x2).bind fun r3 =>
      f_M_above_266 r3.2 x3
def f_M_above_141 (σ : StM) (x1 x2 x3 : Int32) : Option (Int32 × StM) :=
  f_M_above_216 σ x1 x2 x3 2
def f_M_above_197 (σ : StM) (x1 x2 x3 : Int32) : Option (Int32 × StM) :=
  f_M_above_216 σ x1 x2 x3 3
def f_M_above_203 (σ : StM) (x1 x2 x3 x6 : Int32) : Option (Int32 × StM) :=
  (f_M_partsWay σ x3 x1 x2).bind fun r5 =>
  if r5.1 = 0 then
    f_M_above_216 r5.2 x1 x2 x3 x6
  else
    f_M_above_216 r5.2 x1 x2 x3 2
def f_M_above_179 (σ : StM) (x1 x2 x3 x6 t0 t1 : Int32) : Option (Int32 × StM) :=
  if t0 = t1 then
    f_M_above_197 σ x1 x2 x3
  else
    if x2 = (-2) then
      if x3 < 0 ∨ 30 ≤ x3.toNatClampNeg then none else
      if ((M_generic σ) x3.toNatClampNeg) = 0 then
        f_M_above_197 σ x1 x2 x3
      else
        f_M_above_203 σ x1 x2 x3 x6
    else
      f_M_above_203 σ x1 x2 x3 x6
def f_M_above_163 (σ : StM) (x1 x2 x3 x6 : Int32) : Option (Int32 × StM) :=
  if x1 < 0 ∨ 30 ≤ x1.toNatClampNeg then none else
  if x2 = (-1) then
    f_M_above_179 σ x1 x2 x3 x6 ((M_generic σ) x1.toNatClampNeg) 1
  else
    f_M_above_179 σ x1 x2 x3 x6 ((M_generic σ) x1.toNatClampNeg) 0
def f_M_above_132 (σ : StM) (x1 x2 x3 x6 : Int32) : Option (Int32 × StM) :=
  (f_M_hasDirect σ x3 x1).bind fun r4 =>
  if r4 = 0 then
    if x2 < (-2) then
      f_M_above_197 σ x1 x2 x3
    else
      if x2 < 0 then
        f_M_above_163 σ x1 x2 x3 x6
      else
        if x2 < 8 then
          f_M_above_197 σ x1 x2 x3
        else
          f_M_above_163 σ x1 x2 x3 x6
  else
    f_M_above_141 σ x1 x2 x3
def f_M_above_118 (σ : StM) (x1 x2 x3 x5 x6 : Int32) : Option (Int32 × StM) :=
  if x5 = 0 then
    f_M_above_132 σ x1 x2 x3 x6
  else
    if x1 < 0 ∨ 30 ≤ x1.toNatClampNeg then none else
    if ((M_face σ) x1.toNatClampNeg) = 0 then
      f_M_above_141 σ x1 x2 x3
    else
      f_M_above_132 σ x1 x2 x3 x6
def f_M_above_73 (σ : StM) (x1 x2 x3 x4 t0 : Int32) : Option (Int32 × StM) :=
  if x4 = 0 then
    f_M_above_216 σ x1 x2 x3 1
  else
    if x3 < 13 then
      f_M_above_141 σ x1 x2 x3
    else
      if x1 = x3 then
        f_M_above_141 σ x1 x2 x3
      else
        if x3 < 0 ∨ 30 ≤ x3.toNatClampNeg then none else
        if ((M_face σ) x3.toNatClampNeg) = 0 then
          f_M_above_118 σ x1 x2 x3 t0 0
        else
          if x1 < 0 ∨ 30 ≤ x1.toNatClampNeg then none else
          if ((M_face σ) x1.toNatClampNeg) = 0 then
            f_M_above_141 σ x1 x2 x3
          else
            f_M_above_118 σ x1 x2 x3 t0 0
def f_M_above_72 (σ : StM) (x1 x2 x3 x4 : Int32) : Option (Int32 × StM) :=
  f_M_above_73 σ x1 x2 x3 x4 0
def f_M_above_28 (σ : StM) (x1 x2 x3 t0 : Int32) : Option (Int32 × StM) :=
  if x3 < 0 ∨ 30 ≤ x3.toNatClampNeg then none else
  if ((M_directs σ) x3.toNatClampNeg) ≤ 0 then
    f_M_above_72 σ x1 x2 x3 t0
  else
    if (30 * x3) < 0 ∨ 900 ≤ (30 * x3).toNatClampNeg then none else
    if ((M_directTo σ) (30 * x3).toNatClampNeg) = 0 then
      f_M_above_72 σ x1 x2 x3 t0
    else
      if (30 * x3) < 0 ∨ 900 ≤ (30 * x3).toNatClampNeg then none else
      if ((M_directTo σ) (30 * x3).toNatClampNeg) < 0 ∨ 30 ≤ ((M_directTo σ) (30 * x3).toNatClampNeg).toNatClampNeg then none else
      if ((M_face σ) ((M_directTo σ) (30 * x3).toNatClampNeg).toNatClampNeg) = 0 then
        f_M_above_73 σ x1 x2 x3 t0 1
      else
        f_M_above_72 σ x1 x2 x3 t0
def f_M_above_27 (σ : StM) (x1 x2 x3 : Int32) : Option (Int32 × StM) :=
  f_M_above_28 σ x1 x2 x3 0
def f_M_above (σ : StM) (x1 x2 : Int32) : Option (Int32 × StM) :=
  if (f_M_isClass σ x1) = 0 then
    f_M_above_27 σ x1 x2 ((M_classes σ) - 1)
  else
    if (M_types σ) ≤ x2 then
      f_M_above_27 σ x1 x2 ((M_classes σ) - 1)
    else
      f_M_above_28 σ x1 x2 ((M_classes σ) - 1) 1
set_option maxHeartbeats 4000000 in
set_option maxRecDepth 100000 in
theorem t_M_above_266 {p : Program} {l : Launch} {e : Env} {s : State} {m : MethodId} {args : Array Value} {below : List Frame} {meth : Method} {c : Code} {D : va_G} {cI cZ : ClassId} {a : Nat → Nat} {A : Nat → Prop} (C0 : Am p s m args meth c b_M_above (some .int) 7 R_M D [(cI, .int), (cZ, .boolean)]) (hA : ∀ q, s.heap.size ≤ q → A q) {res : Int32 × StM}   {q : Nat} {σ : StM} {x3 : Int32} (h : f_M_above_266 σ x3 = some res) {H : Heap} {locs : List Loc} (hP : va_P D vwCl (wM cI cZ a q σ) H) (hD : va_D A (wM cI cZ a q σ)) (hS : va_S A s.heap H locs) {ls : Array Slot} (hl : lv_has ls 7 [(0, .ref (a 20)), (3, .int x3)]) : W p l e (rmK 3 76 0 0) s m args below meth c H locs 0 0 (RwQ below args s D A (fun q (σ : StM) => (wM cI cZ a q σ)) res 0 0) (F0 m 266 ls []) := by
  obtain ⟨hx, hb, hr, hml, hown, hts, hlk, hK⟩ := id C0
  unfold f_M_above_266 at h
  refine lv_aload_n hx hb d_M_above_266 rfl (lv_at hl 0 rfl) ?_
  refine lv_iload_n hx hb d_M_above_267 rfl (lv_at hl 1 rfl) ?_
  replace h := bd h
  obtain ⟨r2, g2, h⟩ := h
  refine rw_Vv (n := 1) (ci := 4) (As := [.int x3]) (rest := []) (Wn := fun _ => (wM cI cZ a q r2.2)) C0 hA (c_M_reckonOver l D cI cZ a q σ x3 g2) wd_399 ⟨wd_400, wd_401, wd_402, wd_352⟩ (by decide +kernel) ⟨Nat.le_of_ble_eq_true rfl, Nat.le_of_ble_eq_true rfl⟩ hP hD hS [0, 1, 2, 3, 4, 5, 6, 7, 8, 9, 10, 11, 12, 13, 14, 15, 16, 17, 18, 19, 20, 21, 22, 23] [] [0, 1, 2, 3, 4, 5, 6, 7, 8, 9, 10, 11, 12, 13, 14, 15, 16, 17, 18, 19, 20, 21, 22, 23] jn_M__C (by decide) jn_M__R (by decide) (by decide) (by decide) jn_M__W rfl rfl rfl hl rfl rfl (Nat.le_of_ble_eq_true rfl) ⟨Nat.zero_le _, Nat.zero_le _⟩ d_M_above_268 (fun H locs _ hP hD hS => ?_)
  try dsimp only at h
  refine lv_aload_n hx hb d_M_above_271 rfl (lv_at hl 0 rfl) ?_
  refine lv_iconst (v := 0) hx hb d_M_above_272 (by decide) ?_
  refine rw_put (v := .int 0) (fty := .int) (C := R_M) (T := F_M) (N := 35) C0 hP hD hS i_M ty_M tyok_M nn_M 0 rfl rfl 24 (by decide) (hts _ wd_375) rfl rfl (by decide +kernel) rfl rfl (Nat.le_of_ble_eq_true rfl) d_M_above_273 (Wn := (wM cI cZ a q (M_set_reckoned r2.2 0))) ws_M_set_reckoned (fun H locs hP hD hS => ?_)
  refine lv_aload_n hx hb d_M_above_276 rfl (lv_at hl 0 rfl) ?_
  refine va_get (ci := 4) (v := .ref (a 23)) (C := R_M) (T := F_M) (N := 35) hx hb hts i_M hown hK.1 hP 0 rfl rfl 6 (by decide) (hts _ wd_339) (fun _ h9 => h9) rfl d_M_above_277 ?_
  refine lv_iload_n hx hb d_M_above_280 rfl (lv_at hl 1 rfl) ?_
  replace h := gd h
  obtain ⟨hi, h⟩ := h
  refine va_iald hx hb hK.1 hP 3 0 rfl rfl hi d_M_above_281 ?_
  exact rw_ret C0 hP hD hS (Option.some.inj h) d_M_above_282
set_option maxHeartbeats 4000000 in
set_option maxRecDepth 100000 in
theorem t_M_above_216 {p : Program} {l : Launch} {e : Env} {s : State} {m : MethodId} {args : Array Value} {below : List Frame} {meth : Method} {c : Code} {D : va_G} {cI cZ : ClassId} {a : Nat → Nat} {A : Nat → Prop} (C0 : Am p s m args meth c b_M_above (some .int) 7 R_M D [(cI, .int), (cZ, .boolean)]) (hA : ∀ q, s.heap.size ≤ q → A q) {res : Int32 × StM}   {q : Nat} {σ : StM} {x1 x2 x3 x6 : Int32} (h : f_M_above_216 σ x1 x2 x3 x6 = some res) {H : Heap} {locs : List Loc} (hP : va_P D vwCl (wM cI cZ a q σ) H) (hD : va_D A (wM cI cZ a q σ)) (hS : va_S A s.heap H locs) {ls : Array Slot} (hl : lv_has ls 7 [(0, .ref (a 20)), (1, .int x1), (2, .int x2), (3, .int x3), (6, .int x6)]) : W p l e (rmK 3 76 0 0) s m args below meth c H locs 0 0 (RwQ below args s D A (fun q (σ : StM) => (wM cI cZ a q σ)) res 0 0) (F0 m 216 ls []) := by
  obtain ⟨hx, hb, hr, hml, hown, hts, hlk, hK⟩ := id C0
  unfold f_M_above_216 at h
  refine lv_aload_n hx hb d_M_above_216 rfl (lv_at hl 0 rfl) ?_
  refine lv_iload hx hb d_M_above_217 (lv_at hl 4 rfl) ?_
  replace h := bd h
  obtain ⟨r1, g1, h⟩ := h
  refine rw_V (n := 1) (ci := 4) (As := [.int x6]) (rest := []) (Wn := fun _ => (wM cI cZ a q r1.2)) C0 hA (c_M_good l D cI cZ a q σ x6 g1) wd_388 ⟨wd_389, wd_390, wd_391, wd_352⟩ (by decide +kernel) ⟨Nat.le_of_ble_eq_true rfl, Nat.le_of_ble_eq_true rfl⟩ hP hD hS [0, 1, 2, 3, 4, 5, 6, 7, 8, 9, 10, 11, 12, 13, 14, 15, 16, 17, 18, 19, 20, 21, 22, 23] [] [0, 1, 2, 3, 4, 5, 6, 7, 8, 9, 10, 11, 12, 13, 14, 15, 16, 17, 18, 19, 20, 21, 22, 23] jn_M__C (by decide) jn_M__R (by decide) (by decide) (by decide) jn_M__W rfl rfl rfl hl rfl rfl (Nat.le_of_ble_eq_true rfl) ⟨Nat.zero_le _, Nat.zero_le _⟩ d_M_above_219 (fun H locs _ hP hD hS => ?_)
  try dsimp only at h
  refine lv_if_ne (tgt := 227) hx hb d_M_above_222 (by decide) (fun hc => ?_) (fun hc => ?_)
  · rw [if_neg hc] at h
    refine lv_aload_n hx hb d_M_above_227 rfl (lv_at hl 0 rfl) ?_
    refine va_get (ci := 4) (v := .ref (a 21)) (C := R_M) (T := F_M) (N := 35) hx hb hts i_M hown hK.1 hP 0 rfl rfl 4 (by decide) (hts _ wd_392) (fun _ h9 => h9) rfl d_M_above_228 ?_
    refine lv_iload_n hx hb d_M_above_231 rfl (lv_at hl 1 rfl) ?_
    replace h := gd h
    obtain ⟨hi, h⟩ := h
    refine va_zald hx hb hK.1 hP 1 1 rfl rfl hi d_M_above_232 ?_
    refine lv_if_eq (tgt := 246) hx hb d_M_above_233 (by decide) (fun hc => ?_) (fun hc => ?_)
    · rw [if_pos hc] at h
      refine lv_aload_n hx hb d_M_above_246 rfl (lv_at hl 0 rfl) ?_
      refine va_get (ci := 4) (v := .ref (a 24)) (C := R_M) (T := F_M) (N := 35) hx hb hts i_M hown hK.1 hP 0 rfl rfl 7 (by decide) (hts _ wd_338) (fun _ h9 => h9) rfl d_M_above_247 ?_
      refine lv_bipush (v := 30) hx hb d_M_above_250 (by decide) ?_
      refine lv_iload_n hx hb d_M_above_252 rfl (lv_at hl 3 rfl) ?_
      refine lv_imul hx hb d_M_above_253 ?_
      refine lv_iload_n hx hb d_M_above_254 rfl (lv_at hl 1 rfl) ?_
      replace h := gd h
      obtain ⟨hi, h⟩ := h
      refine rw_iast C0 hP hD hS 4 0 rfl rfl hi d_M_above_255 (Wn := (wM cI cZ a q (M_put_directTo r1.2 (30 * x3) x1))) ws_M_put_directTo (fun H locs hP hD hS => ?_)
      refine lv_aload_n hx hb d_M_above_256 rfl (lv_at hl 0 rfl) ?_
      refine va_get (ci := 4) (v := .ref (a 25)) (C := R_M) (T := F_M) (N := 35) hx hb hts i_M hown hK.1 hP 0 rfl rfl 8 (by decide) (hts _ wd_340) (fun _ h9 => h9) rfl d_M_above_257 ?_
      refine lv_bipush (v := 30) hx hb d_M_above_260 (by decide) ?_
      refine lv_iload_n hx hb d_M_above_262 rfl (lv_at hl 3 rfl) ?_
      refine lv_imul hx hb d_M_above_263 ?_
      refine lv_iload_n hx hb d_M_above_264 rfl (lv_at hl 2 rfl) ?_
      replace h := gd h
      obtain ⟨hi, h⟩ := h
      refine rw_iast C0 hP hD hS 5 0 rfl rfl hi d_M_above_265 (Wn := (wM cI cZ a q (M_put_directArg (M_put_directTo r1.2 (30 * x3) x1) (30 * x3) x2))) ws_M_put_directArg (fun H locs hP hD hS => ?_)
      exact t_M_above_266 (a := a) C0 hA  h hP hD hS (lv_sub hl [0, 3] rfl)
    · rw [if_neg hc] at h
      refine lv_aload_n hx hb d_M_above_236 rfl (lv_at hl 0 rfl) ?_
      refine lv_iload_n hx hb d_M_above_237 rfl (lv_at hl 3 rfl) ?_
      refine lv_iload_n hx hb d_M_above_238 rfl (lv_at hl 1 rfl) ?_
      refine lv_iload_n hx hb d_M_above_239 rfl (lv_at hl 2 rfl) ?_
      replace h := bd h
      obtain ⟨r3, g3, h⟩ := h
      refine rw_Vv (n := 3) (ci := 4) (As := [.int x3, .int x1, .int x2]) (rest := []) (Wn := fun _ => (wM cI cZ a q r3.2)) C0 hA (c_M_tie l D cI cZ a q r1.2 x3 x1 x2 g3) wd_395 ⟨wd_396, wd_397, wd_398, wd_352⟩ (by decide +kernel) ⟨Nat.le_of_ble_eq_true rfl, Nat.le_of_ble_eq_true rfl⟩ hP hD hS [0, 1, 2, 3, 4, 5, 6, 7, 8, 9, 10, 11, 12, 13, 14, 15, 16, 17, 18, 19, 20, 21, 22, 23] [] [0, 1, 2, 3, 4, 5, 6, 7, 8, 9, 10, 11, 12, 13, 14, 15, 16, 17, 18, 19, 20, 21, 22, 23] jn_M__C (by decide) jn_M__R (by decide) (by decide) (by decide) jn_M__W rfl rfl rfl hl rfl rfl (Nat.le_of_ble_eq_true rfl) ⟨Nat.zero_le _, Nat.zero_le _⟩ d_M_above_240 (fun H locs _ hP hD hS => ?_)
      try dsimp only at h
      refine lv_goto (tgt := 266) hx hb d_M_above_243 (by decide) ?_
      exact t_M_above_266 (a := a) C0 hA  h hP hD hS (lv_sub hl [0, 3] rfl)
  · rw [if_pos hc] at h
    refine lv_iconst (v := 0) hx hb d_M_above_225 (by decide) ?_
    exact rw_ret C0 hP hD hS (Option.some.inj h) d_M_above_226
set_option maxHeartbeats 4000000 in
set_option maxRecDepth 100000 in
theorem t_M_above_141 {p : Program} {l : Launch} {e : Env} {s : State} {m : MethodId} {args : Array Value} {below : List Frame} {meth : Method} {c : Code} {D : va_G} {cI cZ : ClassId} {a : Nat → Nat} {A : Nat → Prop} (C0 : Am p s m args meth c b_M_above (some .int) 7 R_M D [(cI, .int), (cZ, .boolean)]) (hA : ∀ q, s.heap.size ≤ q → A q) {res : Int32 × StM}   {q : Nat} {σ : StM} {x1 x2 x3 : Int32} (h : f_M_above_141 σ x1 x2 x3 = some res) {H : Heap} {locs : List Loc} (hP : va_P D vwCl (wM cI cZ a q σ) H) (hD : va_D A (wM cI cZ a q σ)) (hS : va_S A s.heap H locs) {ls : Array Slot} (hl : lv_has ls 7 [(0, .ref (a 20)), (1, .int x1), (2, .int x2), (3, .int x3)]) : W p l e (rmK 3 76 0 0) s m args below meth c H locs 0 0 (RwQ below args s D A (fun q (σ : StM) => (wM cI cZ a q σ)) res 0 0) (F0 m 141 ls []) := by
  obtain ⟨hx, hb, hr, hml, hown, hts, hlk, hK⟩ := id C0
  unfold f_M_above_141 at h
  refine lv_iconst (v := 2) hx hb d_M_above_141 (by decide) ?_
  refine lv_istore (lv' := [(6, .int 2), (0, .ref (a 20)), (1, .int x1), (2, .int x2), (3, .int x3)]) hx hb d_M_above_142 hl (by decide) rfl (fun ls hl => ?_)
  refine lv_goto (tgt := 216) hx hb d_M_above_144 (by decide) ?_
  exact t_M_above_216 (a := a) C0 hA  h hP hD hS (lv_sub hl [1, 2, 3, 4, 0] rfl)
set_option maxHeartbeats 4000000 in
set_option maxRecDepth 100000 in
theorem t_M_above_197 {p : Program} {l : Launch} {e : Env} {s : State} {m : MethodId} {args : Array Value} {below : List Frame} {meth : Method} {c : Code} {D : va_G} {cI cZ : ClassId} {a : Nat → Nat} {A : Nat → Prop} (C0 : Am p s m args meth c b_M_above (some .int) 7 R_M D [(cI, .int), (cZ, .boolean)]) (hA : ∀ q, s.heap.size ≤ q → A q) {res : Int32 × StM}   {q : Nat} {σ : StM} {x1 x2 x3 : Int32} (h : f_M_above_197 σ x1 x2 x3 = some res) {H : Heap} {locs : List Loc} (hP : va_P D vwCl (wM cI cZ a q σ) H) (hD : va_D A (wM cI cZ a q σ)) (hS : va_S A s.heap H locs) {ls : Array Slot} (hl : lv_has ls 7 [(0, .ref (a 20)), (1, .int x1), (2, .int x2), (3, .int x3)]) : W p l e (rmK 3 76 0 0) s m args below meth c H locs 0 0 (RwQ below args s D A (fun q (σ : StM) => (wM cI cZ a q σ)) res 0 0) (F0 m 197 ls []) := by
  obtain ⟨hx, hb, hr, hml, hown, hts, hlk, hK⟩ := id C0
  unfold f_M_above_197 at h
  refine lv_iconst (v := 3) hx hb d_M_above_197 (by decide) ?_
  refine lv_istore (lv' := [(6, .int 3), (0, .ref (a 20)), (1, .int x1), (2, .int x2), (3, .int x3)]) hx hb d_M_above_198 hl (by decide) rfl (fun ls hl => ?_)
  refine lv_goto (tgt := 216) hx hb d_M_above_200 (by decide) ?_
  exact t_M_above_216 (a := a) C0 hA  h hP hD hS (lv_sub hl [1, 2, 3, 4, 0] rfl)
set_option maxHeartbeats 4000000 in
set_option maxRecDepth 100000 in
theorem t_M_above_203 {p : Program} {l : Launch} {e : Env} {s : State} {m : MethodId} {args : Array Value} {below : List Frame} {meth : Method} {c : Code} {D : va_G} {cI cZ : ClassId} {a : Nat → Nat} {A : Nat → Prop} (C0 : Am p s m args meth c b_M_above (some .int) 7 R_M D [(cI, .int), (cZ, .boolean)]) (hA : ∀ q, s.heap.size ≤ q → A q) {res : Int32 × StM}   {q : Nat} {σ : StM} {x1 x2 x3 x6 : Int32} (h : f_M_above_203 σ x1 x2 x3 x6 = some res) {H : Heap} {locs : List Loc} (hP : va_P D vwCl (wM cI cZ a q σ) H) (hD : va_D A (wM cI cZ a q σ)) (hS : va_S A s.heap H locs) {ls : Array Slot} (hl : lv_has ls 7 [(0, .ref (a 20)), (1, .int x1), (2, .int x2), (3, .int x3), (6, .int x6)]) : W p l e (rmK 3 76 0 0) s m args below meth c H locs 0 0 (RwQ below args s D A (fun q (σ : StM) => (wM cI cZ a q σ)) res 0 0) (F0 m 203 ls []) := by
  obtain ⟨hx, hb, hr, hml, hown, hts, hlk, hK⟩ := id C0
  unfold f_M_above_203 at h
  refine lv_aload_n hx hb d_M_above_203 rfl (lv_at hl 0 rfl) ?_
  refine lv_iload_n hx hb d_M_above_204 rfl (lv_at hl 3 rfl) ?_
  refine lv_iload_n hx hb d_M_above_205 rfl (lv_at hl 1 rfl) ?_
  refine lv_iload_n hx hb d_M_above_206 rfl (lv_at hl 2 rfl) ?_
  replace h := bd h
  obtain ⟨r5, g5, h⟩ := h
  refine rw_V (n := 3) (ci := 4) (As := [.int x3, .int x1, .int x2]) (rest := []) (Wn := fun _ => (wM cI cZ a q r5.2)) C0 hA (c_M_partsWay l D cI cZ a q σ x3 x1 x2 g5) wd_411 ⟨wd_412, wd_413, wd_414, wd_352⟩ (by decide +kernel) ⟨Nat.le_of_ble_eq_true rfl, Nat.le_of_ble_eq_true rfl⟩ hP hD hS [0, 1, 2, 3, 4, 5, 6, 7, 8, 9, 10, 11, 12, 13, 14, 15, 16, 17, 18, 19, 20, 21, 22, 23] [] [0, 1, 2, 3, 4, 5, 6, 7, 8, 9, 10, 11, 12, 13, 14, 15, 16, 17, 18, 19, 20, 21, 22, 23] jn_M__C (by decide) jn_M__R (by decide) (by decide) (by decide) jn_M__W rfl rfl rfl hl rfl rfl (Nat.le_of_ble_eq_true rfl) ⟨Nat.zero_le _, Nat.zero_le _⟩ d_M_above_207 (fun H locs _ hP hD hS => ?_)
  try dsimp only at h
  refine lv_if_eq (tgt := 216) hx hb d_M_above_210 (by decide) (fun hc => ?_) (fun hc => ?_)
  · rw [if_pos hc] at h
    exact t_M_above_216 (a := a) C0 hA  h hP hD hS (lv_sub hl [0, 1, 2, 3, 4] rfl)
  · rw [if_neg hc] at h
    refine lv_iconst (v := 2) hx hb d_M_above_213 (by decide) ?_
    refine lv_istore (lv' := [(6, .int 2), (0, .ref (a 20)), (1, .int x1), (2, .int x2), (3, .int x3)]) hx hb d_M_above_214 hl (by decide) rfl (fun ls hl => ?_)
    exact t_M_above_216 (a := a) C0 hA  h hP hD hS (lv_sub hl [1, 2, 3, 4, 0] rfl)
set_option maxHeartbeats 4000000 in
set_option maxRecDepth 100000 in
theorem t_M_above_179 {p : Program} {l : Launch} {e : Env} {s : State} {m : MethodId} {args : Array Value} {below : List Frame} {meth : Method} {c : Code} {D : va_G} {cI cZ : ClassId} {a : Nat → Nat} {A : Nat → Prop} (C0 : Am p s m args meth c b_M_above (some .int) 7 R_M D [(cI, .int), (cZ, .boolean)]) (hA : ∀ q, s.heap.size ≤ q → A q) {res : Int32 × StM}   {q : Nat} {σ : StM} {x1 x2 x3 x6 t0 t1 : Int32} (h : f_M_above_179 σ x1 x2 x3 x6 t0 t1 = some res) {H : Heap} {locs : List Loc} (hP : va_P D vwCl (wM cI cZ a q σ) H) (hD : va_D A (wM cI cZ a q σ)) (hS : va_S A s.heap H locs) {ls : Array Slot} (hl : lv_has ls 7 [(0, .ref (a 20)), (1, .int x1), (2, .int x2), (3, .int x3), (6, .int x6)]) : W p l e (rmK 3 76 0 0) s m args below meth c H locs 0 0 (RwQ below args s D A (fun q (σ : StM) => (wM cI cZ a q σ)) res 0 0) (F0 m 179 ls [.int t1, .int t0]) := by
  obtain ⟨hx, hb, hr, hml, hown, hts, hlk, hK⟩ := id C0
  unfold f_M_above_179 at h
  refine lv_icmp_eq (tgt := 197) hx hb d_M_above_179 (by decide) (fun hc => ?_) (fun hc => ?_)
  · rw [if_pos hc] at h
    exact t_M_above_197 (a := a) C0 hA  h hP hD hS (lv_sub hl [0, 1, 2, 3] rfl)
  · rw [if_neg hc] at h
    refine lv_iload_n hx hb d_M_above_182 rfl (lv_at hl 2 rfl) ?_
    refine lv_bipush (v := (-2)) hx hb d_M_above_183 (by decide) ?_
    refine lv_icmp_ne (tgt := 203) hx hb d_M_above_185 (by decide) (fun hc => ?_) (fun hc => ?_)
    · rw [if_neg hc] at h
      exact t_M_above_203 (a := a) C0 hA  h hP hD hS (lv_sub hl [0, 1, 2, 3, 4] rfl)
    · rw [if_pos hc] at h
      refine lv_aload_n hx hb d_M_above_188 rfl (lv_at hl 0 rfl) ?_
      refine va_get (ci := 4) (v := .ref (a 22)) (C := R_M) (T := F_M) (N := 35) hx hb hts i_M hown hK.1 hP 0 rfl rfl 5 (by decide) (hts _ wd_393) (fun _ h9 => h9) rfl d_M_above_189 ?_
      refine lv_iload_n hx hb d_M_above_192 rfl (lv_at hl 3 rfl) ?_
      replace h := gd h
      obtain ⟨hi, h⟩ := h
      refine va_zald hx hb hK.1 hP 2 1 rfl rfl hi d_M_above_193 ?_
      refine lv_if_ne (tgt := 203) hx hb d_M_above_194 (by decide) (fun hc => ?_) (fun hc => ?_)
      · rw [if_neg hc] at h
        exact t_M_above_203 (a := a) C0 hA  h hP hD hS (lv_sub hl [0, 1, 2, 3, 4] rfl)
      · rw [if_pos hc] at h
        exact t_M_above_197 (a := a) C0 hA  h hP hD hS (lv_sub hl [0, 1, 2, 3] rfl)
set_option maxHeartbeats 4000000 in
set_option maxRecDepth 100000 in
theorem t_M_above_163 {p : Program} {l : Launch} {e : Env} {s : State} {m : MethodId} {args : Array Value} {below : List Frame} {meth : Method} {c : Code} {D : va_G} {cI cZ : ClassId} {a : Nat → Nat} {A : Nat → Prop} (C0 : Am p s m args meth c b_M_above (some .int) 7 R_M D [(cI, .int), (cZ, .boolean)]) (hA : ∀ q, s.heap.size ≤ q → A q) {res : Int32 × StM}   {q : Nat} {σ : StM} {x1 x2 x3 x6 : Int32} (h : f_M_above_163 σ x1 x2 x3 x6 = some res) {H : Heap} {locs : List Loc} (hP : va_P D vwCl (wM cI cZ a q σ) H) (hD : va_D A (wM cI cZ a q σ)) (hS : va_S A s.heap H locs) {ls : Array Slot} (hl : lv_has ls 7 [(0, .ref (a 20)), (1, .int x1), (2, .int x2), (3, .int x3), (6, .int x6)]) : W p l e (rmK 3 76 0 0) s m args below meth c H locs 0 0 (RwQ below args s D A (fun q (σ : StM) => (wM cI cZ a q σ)) res 0 0) (F0 m 163 ls []) := by
  obtain ⟨hx, hb, hr, hml, hown, hts, hlk, hK⟩ := id C0
  unfold f_M_above_163 at h
  refine lv_aload_n hx hb d_M_above_163 rfl (lv_at hl 0 rfl) ?_
  refine va_get (ci := 4) (v := .ref (a 22)) (C := R_M) (T := F_M) (N := 35) hx hb hts i_M hown hK.1 hP 0 rfl rfl 5 (by decide) (hts _ wd_393) (fun _ h9 => h9) rfl d_M_above_164 ?_
  refine lv_iload_n hx hb d_M_above_167 rfl (lv_at hl 1 rfl) ?_
  replace h := gd h
  obtain ⟨hi, h⟩ := h
  refine va_zald hx hb hK.1 hP 2 1 rfl rfl hi d_M_above_168 ?_
  refine lv_iload_n hx hb d_M_above_169 rfl (lv_at hl 2 rfl) ?_
  refine lv_iconst (v := (-1)) hx hb d_M_above_170 (by decide) ?_
  refine lv_icmp_ne (tgt := 178) hx hb d_M_above_171 (by decide) (fun hc => ?_) (fun hc => ?_)
  · rw [if_neg hc] at h
    refine lv_iconst (v := 0) hx hb d_M_above_178 (by decide) ?_
    exact t_M_above_179 (a := a) C0 hA  h hP hD hS (lv_sub hl [0, 1, 2, 3, 4] rfl)
  · rw [if_pos hc] at h
    refine lv_iconst (v := 1) hx hb d_M_above_174 (by decide) ?_
    refine lv_goto (tgt := 179) hx hb d_M_above_175 (by decide) ?_
    exact t_M_above_179 (a := a) C0 hA  h hP hD hS (lv_sub hl [0, 1, 2, 3, 4] rfl)
set_option maxHeartbeats 4000000 in
set_option maxRecDepth 100000 in
theorem t_M_above_132 {p : Program} {l : Launch} {e : Env} {s : State} {m : MethodId} {args : Array Value} {below : List Frame} {meth : Method} {c : Code} {D : va_G} {cI cZ : ClassId} {a : Nat → Nat} {A : Nat → Prop} (C0 : Am p s m args meth c b_M_above (some .int) 7 R_M D [(cI, .int), (cZ, .boolean)]) (hA : ∀ q, s.heap.size ≤ q → A q) {res : Int32 × StM}   {q : Nat} {σ : StM} {x1 x2 x3 x6 : Int32} (h : f_M_above_132 σ x1 x2 x3 x6 = some res) {H : Heap} {locs : List Loc} (hP : va_P D vwCl (wM cI cZ a q σ) H) (hD : va_D A (wM cI cZ a q σ)) (hS : va_S A s.heap H locs) {ls : Array Slot} (hl : lv_has ls 7 [(0, .ref (a 20)), (1, .int x1), (2, .int x2), (3, .int x3), (6, .int x6)]) : W p l e (rmK 3 76 0 0) s m args below meth c H locs 0 0 (RwQ below args s D A (fun q (σ : StM) => (wM cI cZ a q σ)) res 0 0) (F0 m 132 ls []) := by
  obtain ⟨hx, hb, hr, hml, hown, hts, hlk, hK⟩ := id C0
  unfold f_M_above_132 at h
  refine lv_aload_n hx hb d_M_above_132 rfl (lv_at hl 0 rfl) ?_
  refine lv_iload_n hx hb d_M_above_133 rfl (lv_at hl 3 rfl) ?_
  refine lv_iload_n hx hb d_M_above_134 rfl (lv_at hl 1 rfl) ?_
  replace h := bd h
  obtain ⟨r4, g4, h⟩ := h
  refine ro_V (n := 2) (ci := 4) (As := [.int x3, .int x1]) (rest := []) C0 (c_M_hasDirect l D cI cZ a q σ x3 x1 g4) wd_407 ⟨wd_408, wd_409, wd_410, wd_352⟩ (by decide +kernel) ⟨Nat.le_of_ble_eq_true rfl, Nat.le_of_ble_eq_true rfl⟩ hP rfl rfl rfl hl rfl rfl (Nat.le_of_ble_eq_true rfl) ⟨Nat.zero_le _, Nat.zero_le _⟩ d_M_above_135 ?_
  try dsimp only at h
  refine lv_if_eq (tgt := 147) hx hb d_M_above_138 (by decide) (fun hc => ?_) (fun hc => ?_)
  · rw [if_pos hc] at h
    refine lv_iload_n hx hb d_M_above_147 rfl (lv_at hl 2 rfl) ?_
    refine lv_bipush (v := (-2)) hx hb d_M_above_148 (by decide) ?_
    refine lv_icmp_lt (tgt := 197) hx hb d_M_above_150 (by decide) (fun hc => ?_) (fun hc => ?_)
    · rw [if_pos hc] at h
      exact t_M_above_197 (a := a) C0 hA  h hP hD hS (lv_sub hl [0, 1, 2, 3] rfl)
    · rw [if_neg hc] at h
      refine lv_iload_n hx hb d_M_above_153 rfl (lv_at hl 2 rfl) ?_
      refine lv_if_lt (tgt := 163) hx hb d_M_above_154 (by decide) (fun hc => ?_) (fun hc => ?_)
      · rw [if_pos hc] at h
        exact t_M_above_163 (a := a) C0 hA  h hP hD hS (lv_sub hl [0, 1, 2, 3, 4] rfl)
      · rw [if_neg hc] at h
        refine lv_iload_n hx hb d_M_above_157 rfl (lv_at hl 2 rfl) ?_
        refine lv_bipush (v := 8) hx hb d_M_above_158 (by decide) ?_
        refine lv_icmp_lt (tgt := 197) hx hb d_M_above_160 (by decide) (fun hc => ?_) (fun hc => ?_)
        · rw [if_pos hc] at h
          exact t_M_above_197 (a := a) C0 hA  h hP hD hS (lv_sub hl [0, 1, 2, 3] rfl)
        · rw [if_neg hc] at h
          exact t_M_above_163 (a := a) C0 hA  h hP hD hS (lv_sub hl [0, 1, 2, 3, 4] rfl)
  · rw [if_neg hc] at h
    exact t_M_above_141 (a := a) C0 hA  h hP hD hS (lv_sub hl [0, 1, 2, 3] rfl)
set_option maxHeartbeats 4000000 in
set_option maxRecDepth 100000 in
theorem t_M_above_118 {p : Program} {l : Launch} {e : Env} {s : State} {m : MethodId} {args : Array Value} {below : List Frame} {meth : Method} {c : Code} {D : va_G} {cI cZ : ClassId} {a : Nat → Nat} {A : Nat → Prop} (C0 : Am p s m args meth c b_M_above (some .int) 7 R_M D [(cI, .int), (cZ, .boolean)]) (hA : ∀ q, s.heap.size ≤ q → A q) {res : Int32 × StM}   {q : Nat} {σ : StM} {x1 x2 x3 x5 x6 : Int32} (h : f_M_above_118 σ x1 x2 x3 x5 x6 = some res) {H : Heap} {locs : List Loc} (hP : va_P D vwCl (wM cI cZ a q σ) H) (hD : va_D A (wM cI cZ a q σ)) (hS : va_S A s.heap H locs) {ls : Array Slot} (hl : lv_has ls 7 [(0, .ref (a 20)), (1, .int x1), (2, .int x2), (3, .int x3), (5, .int x5), (6, .int x6)]) : W p l e (rmK 3 76 0 0) s m args below meth c H locs 0 0 (RwQ below args s D A (fun q (σ : StM) => (wM cI cZ a q σ)) res 0 0) (F0 m 118 ls []) := by
  obtain ⟨hx, hb, hr, hml, hown, hts, hlk, hK⟩ := id C0
  unfold f_M_above_118 at h
  refine lv_iload hx hb d_M_above_118 (lv_at hl 4 rfl) ?_
  refine lv_if_eq (tgt := 132) hx hb d_M_above_120 (by decide) (fun hc => ?_) (fun hc => ?_)
  · rw [if_pos hc] at h
    exact t_M_above_132 (a := a) C0 hA  h hP hD hS (lv_sub hl [0, 1, 2, 3, 5] rfl)
  · rw [if_neg hc] at h
    refine lv_aload_n hx hb d_M_above_123 rfl (lv_at hl 0 rfl) ?_
    refine va_get (ci := 4) (v := .ref (a 21)) (C := R_M) (T := F_M) (N := 35) hx hb hts i_M hown hK.1 hP 0 rfl rfl 4 (by decide) (hts _ wd_392) (fun _ h9 => h9) rfl d_M_above_124 ?_
    refine lv_iload_n hx hb d_M_above_127 rfl (lv_at hl 1 rfl) ?_
    replace h := gd h
    obtain ⟨hi, h⟩ := h
    refine va_zald hx hb hK.1 hP 1 1 rfl rfl hi d_M_above_128 ?_
    refine lv_if_eq (tgt := 141) hx hb d_M_above_129 (by decide) (fun hc => ?_) (fun hc => ?_)
    · rw [if_pos hc] at h
      exact t_M_above_141 (a := a) C0 hA  h hP hD hS (lv_sub hl [0, 1, 2, 3] rfl)
    · rw [if_neg hc] at h
      exact t_M_above_132 (a := a) C0 hA  h hP hD hS (lv_sub hl [0, 1, 2, 3, 5] rfl)
set_option maxHeartbeats 4000000 in
set_option maxRecDepth 100000 in
theorem t_M_above_73 {p : Program} {l : Launch} {e : Env} {s : State} {m : MethodId} {args : Array Value} {below : List Frame} {meth : Method} {c : Code} {D : va_G} {cI cZ : ClassId} {a : Nat → Nat} {A : Nat → Prop} (C0 : Am p s m args meth c b_M_above (some .int) 7 R_M D [(cI, .int), (cZ, .boolean)]) (hA : ∀ q, s.heap.size ≤ q → A q) {res : Int32 × StM}   {q : Nat} {σ : StM} {x1 x2 x3 x4 t0 : Int32} (h : f_M_above_73 σ x1 x2 x3 x4 t0 = some res) {H : Heap} {locs : List Loc} (hP : va_P D vwCl (wM cI cZ a q σ) H) (hD : va_D A (wM cI cZ a q σ)) (hS : va_S A s.heap H locs) {ls : Array Slot} (hl : lv_has ls 7 [(0, .ref (a 20)), (1, .int x1), (2, .int x2), (3, .int x3), (4, .int x4)]) : W p l e (rmK 3 76 0 0) s m args below meth c H locs 0 0 (RwQ below args s D A (fun q (σ : StM) => (wM cI cZ a q σ)) res 0 0) (F0 m 73 ls [.int t0]) := by
  obtain ⟨hx, hb, hr, hml, hown, hts, hlk, hK⟩ := id C0
  unfold f_M_above_73 at h
  refine lv_istore (lv' := [(5, .int t0), (0, .ref (a 20)), (1, .int x1), (2, .int x2), (3, .int x3), (4, .int x4)]) hx hb d_M_above_73 hl (by decide) rfl (fun ls hl => ?_)
  refine lv_iconst (v := 0) hx hb d_M_above_75 (by decide) ?_
  refine lv_istore (lv' := [(6, .int 0), (5, .int t0), (0, .ref (a 20)), (1, .int x1), (2, .int x2), (3, .int x3), (4, .int x4)]) hx hb d_M_above_76 hl (by decide) rfl (fun ls hl => ?_)
  refine lv_iload hx hb d_M_above_78 (lv_at hl 6 rfl) ?_
  refine lv_if_ne (tgt := 89) hx hb d_M_above_80 (by decide) (fun hc => ?_) (fun hc => ?_)
  · rw [if_neg hc] at h
    refine lv_iload_n hx hb d_M_above_89 rfl (lv_at hl 5 rfl) ?_
    refine lv_bipush (v := 13) hx hb d_M_above_90 (by decide) ?_
    refine lv_icmp_lt (tgt := 141) hx hb d_M_above_92 (by decide) (fun hc => ?_) (fun hc => ?_)
    · rw [if_pos hc] at h
      exact t_M_above_141 (a := a) C0 hA  h hP hD hS (lv_sub hl [2, 3, 4, 5] rfl)
    · rw [if_neg hc] at h
      refine lv_iload_n hx hb d_M_above_95 rfl (lv_at hl 3 rfl) ?_
      refine lv_iload_n hx hb d_M_above_96 rfl (lv_at hl 5 rfl) ?_
      refine lv_icmp_eq (tgt := 141) hx hb d_M_above_97 (by decide) (fun hc => ?_) (fun hc => ?_)
      · rw [if_pos hc] at h
        exact t_M_above_141 (a := a) C0 hA  h hP hD hS (lv_sub hl [2, 3, 4, 5] rfl)
      · rw [if_neg hc] at h
        refine lv_aload_n hx hb d_M_above_100 rfl (lv_at hl 2 rfl) ?_
        refine va_get (ci := 4) (v := .ref (a 21)) (C := R_M) (T := F_M) (N := 35) hx hb hts i_M hown hK.1 hP 0 rfl rfl 4 (by decide) (hts _ wd_392) (fun _ h9 => h9) rfl d_M_above_101 ?_
        refine lv_iload_n hx hb d_M_above_104 rfl (lv_at hl 5 rfl) ?_
        replace h := gd h
        obtain ⟨hi, h⟩ := h
        refine va_zald hx hb hK.1 hP 1 1 rfl rfl hi d_M_above_105 ?_
        refine lv_if_eq (tgt := 118) hx hb d_M_above_106 (by decide) (fun hc => ?_) (fun hc => ?_)
        · rw [if_pos hc] at h
          exact t_M_above_118 (a := a) C0 hA  h hP hD hS (lv_sub hl [2, 3, 4, 5, 1, 0] rfl)
        · rw [if_neg hc] at h
          refine lv_aload_n hx hb d_M_above_109 rfl (lv_at hl 2 rfl) ?_
          refine va_get (ci := 4) (v := .ref (a 21)) (C := R_M) (T := F_M) (N := 35) hx hb hts i_M hown hK.1 hP 0 rfl rfl 4 (by decide) (hts _ wd_392) (fun _ h9 => h9) rfl d_M_above_110 ?_
          refine lv_iload_n hx hb d_M_above_113 rfl (lv_at hl 3 rfl) ?_
          replace h := gd h
          obtain ⟨hi, h⟩ := h
          refine va_zald hx hb hK.1 hP 1 1 rfl rfl hi d_M_above_114 ?_
          refine lv_if_eq (tgt := 141) hx hb d_M_above_115 (by decide) (fun hc => ?_) (fun hc => ?_)
          · rw [if_pos hc] at h
            exact t_M_above_141 (a := a) C0 hA  h hP hD hS (lv_sub hl [2, 3, 4, 5] rfl)
          · rw [if_neg hc] at h
            exact t_M_above_118 (a := a) C0 hA  h hP hD hS (lv_sub hl [2, 3, 4, 5, 1, 0] rfl)
  · rw [if_pos hc] at h
    refine lv_iconst (v := 1) hx hb d_M_above_83 (by decide) ?_
    refine lv_istore (lv' := [(6, .int 1), (5, .int t0), (0, .ref (a 20)), (1, .int x1), (2, .int x2), (3, .int x3), (4, .int x4)]) hx hb d_M_above_84 hl (by decide) rfl (fun ls hl => ?_)
    refine lv_goto (tgt := 216) hx hb d_M_above_86 (by decide) ?_
    exact t_M_above_216 (a := a) C0 hA  h hP hD hS (lv_sub hl [2, 3, 4, 5, 0] rfl)
set_option maxHeartbeats 4000000 in
set_option maxRecDepth 100000 in
theorem t_M_above_72 {p : Program} {l : Launch} {e : Env} {s : State} {m : MethodId} {args : Array Value} {below : List Frame} {meth : Method} {c : Code} {D : va_G} {cI cZ : ClassId} {a : Nat → Nat} {A : Nat → Prop} (C0 : Am p s m args meth c b_M_above (some .int) 7 R_M D [(cI, .int), (cZ, .boolean)]) (hA : ∀ q, s.heap.size ≤ q → A q) {res : Int32 × StM}   {q : Nat} {σ : StM} {x1 x2 x3 x4 : Int32} (h : f_M_above_72 σ x1 x2 x3 x4 = some res) {H : Heap} {locs : List Loc} (hP : va_P D vwCl (wM cI cZ a q σ) H) (hD : va_D A (wM cI cZ a q σ)) (hS : va_S A s.heap H locs) {ls : Array Slot} (hl : lv_has ls 7 [(0, .ref (a 20)), (1, .int x1), (2, .int x2), (3, .int x3), (4, .int x4)]) : W p l e (rmK 3 76 0 0) s m args below meth c H locs 0 0 (RwQ below args s D A (fun q (σ : StM) => (wM cI cZ a q σ)) res 0 0) (F0 m 72 ls []) := by
  obtain ⟨hx, hb, hr, hml, hown, hts, hlk, hK⟩ := id C0
  unfold f_M_above_72 at h
  refine lv_iconst (v := 0) hx hb d_M_above_72 (by decide) ?_
  exact t_M_above_73 (a := a) C0 hA  h hP hD hS (lv_sub hl [0, 1, 2, 3, 4] rfl)
set_option maxHeartbeats 4000000 in
set_option maxRecDepth 100000 in
theorem t_M_above_28 {p : Program} {l : Launch} {e : Env} {s : State} {m : MethodId} {args : Array Value} {below : List Frame} {meth : Method} {c : Code} {D : va_G} {cI cZ : ClassId} {a : Nat → Nat} {A : Nat → Prop} (C0 : Am p s m args meth c b_M_above (some .int) 7 R_M D [(cI, .int), (cZ, .boolean)]) (hA : ∀ q, s.heap.size ≤ q → A q) {res : Int32 × StM}   {q : Nat} {σ : StM} {x1 x2 x3 t0 : Int32} (h : f_M_above_28 σ x1 x2 x3 t0 = some res) {H : Heap} {locs : List Loc} (hP : va_P D vwCl (wM cI cZ a q σ) H) (hD : va_D A (wM cI cZ a q σ)) (hS : va_S A s.heap H locs) {ls : Array Slot} (hl : lv_has ls 7 [(0, .ref (a 20)), (1, .int x1), (2, .int x2), (3, .int x3)]) : W p l e (rmK 3 76 0 0) s m args below meth c H locs 0 0 (RwQ below args s D A (fun q (σ : StM) => (wM cI cZ a q σ)) res 0 0) (F0 m 28 ls [.int t0]) := by
  obtain ⟨hx, hb, hr, hml, hown, hts, hlk, hK⟩ := id C0
  unfold f_M_above_28 at h
  refine lv_istore (lv' := [(4, .int t0), (0, .ref (a 20)), (1, .int x1), (2, .int x2), (3, .int x3)]) hx hb d_M_above_28 hl (by decide) rfl (fun ls hl => ?_)
  refine lv_aload_n hx hb d_M_above_30 rfl (lv_at hl 1 rfl) ?_
  refine va_get (ci := 4) (v := .ref (a 23)) (C := R_M) (T := F_M) (N := 35) hx hb hts i_M hown hK.1 hP 0 rfl rfl 6 (by decide) (hts _ wd_339) (fun _ h9 => h9) rfl d_M_above_31 ?_
  refine lv_iload_n hx hb d_M_above_34 rfl (lv_at hl 4 rfl) ?_
  replace h := gd h
  obtain ⟨hi, h⟩ := h
  refine va_iald hx hb hK.1 hP 3 0 rfl rfl hi d_M_above_35 ?_
  refine lv_if_le (tgt := 72) hx hb d_M_above_36 (by decide) (fun hc => ?_) (fun hc => ?_)
  · rw [if_pos hc] at h
    exact t_M_above_72 (a := a) C0 hA  h hP hD hS (lv_sub hl [1, 2, 3, 4, 0] rfl)
  · rw [if_neg hc] at h
    refine lv_aload_n hx hb d_M_above_39 rfl (lv_at hl 1 rfl) ?_
    refine va_get (ci := 4) (v := .ref (a 24)) (C := R_M) (T := F_M) (N := 35) hx hb hts i_M hown hK.1 hP 0 rfl rfl 7 (by decide) (hts _ wd_338) (fun _ h9 => h9) rfl d_M_above_40 ?_
    refine lv_bipush (v := 30) hx hb d_M_above_43 (by decide) ?_
    refine lv_iload_n hx hb d_M_above_45 rfl (lv_at hl 4 rfl) ?_
    refine lv_imul hx hb d_M_above_46 ?_
    replace h := gd h
    obtain ⟨hi, h⟩ := h
    refine va_iald hx hb hK.1 hP 4 0 rfl rfl hi d_M_above_47 ?_
    refine lv_if_eq (tgt := 72) hx hb d_M_above_48 (by decide) (fun hc => ?_) (fun hc => ?_)
    · rw [if_pos hc] at h
      exact t_M_above_72 (a := a) C0 hA  h hP hD hS (lv_sub hl [1, 2, 3, 4, 0] rfl)
    · rw [if_neg hc] at h
      refine lv_aload_n hx hb d_M_above_51 rfl (lv_at hl 1 rfl) ?_
      refine va_get (ci := 4) (v := .ref (a 21)) (C := R_M) (T := F_M) (N := 35) hx hb hts i_M hown hK.1 hP 0 rfl rfl 4 (by decide) (hts _ wd_392) (fun _ h9 => h9) rfl d_M_above_52 ?_
      refine lv_aload_n hx hb d_M_above_55 rfl (lv_at hl 1 rfl) ?_
      refine va_get (ci := 4) (v := .ref (a 24)) (C := R_M) (T := F_M) (N := 35) hx hb hts i_M hown hK.1 hP 0 rfl rfl 7 (by decide) (hts _ wd_338) (fun _ h9 => h9) rfl d_M_above_56 ?_
      refine lv_bipush (v := 30) hx hb d_M_above_59 (by decide) ?_
      refine lv_iload_n hx hb d_M_above_61 rfl (lv_at hl 4 rfl) ?_
      refine lv_imul hx hb d_M_above_62 ?_
      replace h := gd h
      obtain ⟨hi, h⟩ := h
      refine va_iald hx hb hK.1 hP 4 0 rfl rfl hi d_M_above_63 ?_
      replace h := gd h
      obtain ⟨hi, h⟩ := h
      refine va_zald hx hb hK.1 hP 1 1 rfl rfl hi d_M_above_64 ?_
      refine lv_if_ne (tgt := 72) hx hb d_M_above_65 (by decide) (fun hc => ?_) (fun hc => ?_)
      · rw [if_neg hc] at h
        exact t_M_above_72 (a := a) C0 hA  h hP hD hS (lv_sub hl [1, 2, 3, 4, 0] rfl)
      · rw [if_pos hc] at h
        refine lv_iconst (v := 1) hx hb d_M_above_68 (by decide) ?_
        refine lv_goto (tgt := 73) hx hb d_M_above_69 (by decide) ?_
        exact t_M_above_73 (a := a) C0 hA  h hP hD hS (lv_sub hl [1, 2, 3, 4, 0] rfl)
set_option maxHeartbeats 4000000 in
set_option maxRecDepth 100000 in
theorem t_M_above_27 {p : Program} {l : Launch} {e : Env} {s : State} {m : MethodId} {args : Array Value} {below : List Frame} {meth : Method} {c : Code} {D : va_G} {cI cZ : ClassId} {a : Nat → Nat} {A : Nat → Prop} (C0 : Am p s m args meth c b_M_above (some .int) 7 R_M D [(cI, .int), (cZ, .boolean)]) (hA : ∀ q, s.heap.size ≤ q → A q) {res : Int32 × StM}   {q : Nat} {σ : StM} {x1 x2 x3 : Int32} (h : f_M_above_27 σ x1 x2 x3 = some res) {H : Heap} {locs : List Loc} (hP : va_P D vwCl (wM cI cZ a q σ) H) (hD : va_D A (wM cI cZ a q σ)) (hS : va_S A s.heap H locs) {ls : Array Slot} (hl : lv_has ls 7 [(0, .ref (a 20)), (1, .int x1), (2, .int x2), (3, .int x3)]) : W p l e (rmK 3 76 0 0) s m args below meth c H locs 0 0 (RwQ below args s D A (fun q (σ : StM) => (wM cI cZ a q σ)) res 0 0) (F0 m 27 ls []) := by
  obtain ⟨hx, hb, hr, hml, hown, hts, hlk, hK⟩ := id C0
  unfold f_M_above_27 at h
  refine lv_iconst (v := 0) hx hb d_M_above_27 (by decide) ?_
  exact t_M_above_28 (a := a) C0 hA  h hP hD hS (lv_sub hl [0, 1, 2, 3] rfl)
set_option maxHeartbeats 4000000 in
set_option maxRecDepth 100000 in
theorem t_M_above_0 {p : Program} {l : Launch} {e : Env} {s : State} {m : MethodId} {args : Array Value} {below : List Frame} {meth : Method} {c : Code} {D : va_G} {cI cZ : ClassId} {a : Nat → Nat} {A : Nat → Prop} (C0 : Am p s m args meth c b_M_above (some .int) 7 R_M D [(cI, .int), (cZ, .boolean)]) (hA : ∀ q, s.heap.size ≤ q → A q) {res : Int32 × StM}   {q : Nat} {σ : StM} {x1 x2 : Int32} (h : f_M_above σ x1 x2 = some res) {H : Heap} {locs : List Loc} (hP : va_P D vwCl (wM cI cZ a q σ) H) (hD : va_D A (wM cI cZ a q σ)) (hS : va_S A s.heap H locs) {ls : Array Slot} (hl : lv_has ls 7 [(0, .ref (a 20)), (1, .int x1), (2, .int x2)]) : W p l e (rmK 3 76 0 0) s m args below meth c H locs 0 0 (RwQ below args s D A (fun q (σ : StM) => (wM cI cZ a q σ)) res 0 0) (F0 m 0 ls []) := by
  obtain ⟨hx, hb, hr, hml, hown, hts, hlk, hK⟩ := id C0
  unfold f_M_above at h
  refine lv_aload_n hx hb d_M_above_0 rfl (lv_at hl 0 rfl) ?_
  refine va_get (ci := 4) (v := .int (M_classes σ)) (C := R_M) (T := F_M) (N := 35) hx hb hts i_M hown hK.1 hP 0 rfl rfl 2 (by decide) (hts _ wd_343) (fun _ h9 => h9) rfl d_M_above_1 ?_
  refine lv_iconst (v := 1) hx hb d_M_above_4 (by decide) ?_
  refine lv_isub hx hb d_M_above_5 ?_
  refine lv_istore_n (lv' := [(3, .int ((M_classes σ) - 1)), (0, .ref (a 20)), (1, .int x1), (2, .int x2)]) hx hb d_M_above_6 rfl hl (by decide) rfl (fun ls hl => ?_)
  refine lv_aload_n hx hb d_M_above_7 rfl (lv_at hl 1 rfl) ?_
  refine lv_iload_n hx hb d_M_above_8 rfl (lv_at hl 2 rfl) ?_
  refine ro_V (n := 1) (ci := 4) (As := [.int x1]) (rest := []) C0 (c_M_isClass l D cI cZ a q σ x1 rfl) wd_403 ⟨wd_404, wd_405, wd_406, wd_352⟩ (by decide +kernel) ⟨Nat.le_of_ble_eq_true rfl, Nat.le_of_ble_eq_true rfl⟩ hP rfl rfl rfl hl rfl rfl (Nat.le_of_ble_eq_true rfl) ⟨Nat.zero_le _, Nat.zero_le _⟩ d_M_above_9 ?_
  refine lv_if_eq (tgt := 27) hx hb d_M_above_12 (by decide) (fun hc => ?_) (fun hc => ?_)
  · rw [if_pos hc] at h
    exact t_M_above_27 (a := a) C0 hA  h hP hD hS (lv_sub hl [1, 2, 3, 0] rfl)
  · rw [if_neg hc] at h
    refine lv_iload_n hx hb d_M_above_15 rfl (lv_at hl 3 rfl) ?_
    refine lv_aload_n hx hb d_M_above_16 rfl (lv_at hl 1 rfl) ?_
    refine va_get (ci := 4) (v := .int (M_types σ)) (C := R_M) (T := F_M) (N := 35) hx hb hts i_M hown hK.1 hP 0 rfl rfl 10 (by decide) (hts _ wd_344) (fun _ h9 => h9) rfl d_M_above_17 ?_
    refine lv_icmp_ge (tgt := 27) hx hb d_M_above_20 (by decide) (fun hc => ?_) (fun hc => ?_)
    · rw [if_pos hc] at h
      exact t_M_above_27 (a := a) C0 hA  h hP hD hS (lv_sub hl [1, 2, 3, 0] rfl)
    · rw [if_neg hc] at h
      refine lv_iconst (v := 1) hx hb d_M_above_23 (by decide) ?_
      refine lv_goto (tgt := 28) hx hb d_M_above_24 (by decide) ?_
      exact t_M_above_28 (a := a) C0 hA  h hP hD hS (lv_sub hl [1, 2, 3, 0] rfl)
set_option maxHeartbeats 4000000 in
set_option maxRecDepth 100000 in
theorem c_M_above (l : Launch) (D : va_G) (cI cZ : ClassId) (a : Nat → Nat) (q : Nat) (σ : StM) (x1 : Int32) (x2 : Int32) {res : Int32 × StM} (h : f_M_above σ x1 x2 = some res) : RwM l y_M_above b_M_above 7 (some .int) 3 76 D [(cI, .int), (cZ, .boolean)] [.ref (a 20), .int x1, .int x2] (fun q (σ : StM) => (wM cI cZ a q σ)) q σ res :=
  rw_of (by decide) (Nat.le_of_ble_eq_true rfl) (fun p e s m args below meth c ls A C0 hA hP hD hS hl => t_M_above_0 (a := a) C0 hA h hP hD hS (lv_sub hl [0, 1, 2] rfl))
