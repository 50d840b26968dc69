def f_M_init_453 (k364 : StM → Int32 → Option (Int32 × StM)) (σ : StM) (x2 t1 t2 : Int32) : Option (Int32 × StM) :=
  if t1 < 0 ∨ 300 ≤ t1.toNatClampNeg then none else
  if (30 * x2) < 0 ∨ 9000 ≤ (30 * x2).toNatClampNeg then none else
  k364 (M_put_partRow (M_put_partCount σ t1 t2) (30 * x2) x2) (x2 + 1)
def f_M_init_422 (k364 : StM → Int32 → Option (Int32 × StM)) (σ : StM) (x2 t1 t2 : Int32) : Option (Int32 × StM) :=
  if t1 < 0 ∨ 300 ≤ t1.toNatClampNeg then none else
  if x2 < 0 ∨ 300 ≤ x2.toNatClampNeg then none else
  if x2 < 0 ∨ 300 ≤ x2.toNatClampNeg then none else
  if 8 ≤ x2 then
    f_M_init_453 k364 (M_put_made (M_put_inner (M_put_how σ t1 t2) x2 (-1)) x2 1) x2 x2 1
  else
    f_M_init_453 k364 (M_put_made (M_put_inner (M_put_how σ t1 t2) x2 (-1)) x2 1) x2 x2 0
def f_M_init_405 (k364 : StM → Int32 → Option (Int32 × StM)) (σ : StM) (x2 t1 t2 : Int32) : Option (Int32 × StM) :=
  if t1 < 0 ∨ 300 ≤ t1.toNatClampNeg then none else
  if 8 ≤ x2 then
    f_M_init_422 k364 (M_put_classOf σ t1 t2) x2 x2 0
  else
    f_M_init_422 k364 (M_put_classOf σ t1 t2) x2 x2 (-1)
def f_M_init_386 (k364 : StM → Int32 → Option (Int32 × StM)) (σ : StM) (x2 t1 t2 : Int32) : Option (Int32 × StM) :=
  if t1 < 0 ∨ 300 ≤ t1.toNatClampNeg then none else
  if 8 ≤ x2 then
    f_M_init_405 k364 (M_put_kind σ t1 t2) x2 x2 (x2 - 3)
  else
    f_M_init_405 k364 (M_put_kind σ t1 t2) x2 x2 (-1)
def f_M_init_364_s (k364 : StM → Int32 → Option (Int32 × StM)) (σ : StM) (x2 : Int32) : Option (Int32 × StM) :=
  if 16 ≤ x2 then
    some (0, (M_set_types σ 16))
  else
    if 8 ≤ x2 then
      f_M_init_386 k364 σ x2 x2 1
    else
      f_M_init_386 k364 σ x2 x2 0
def f_M_init_364 : Nat → StM → Int32 → Option (Int32 × StM)
  | 0, _, _ => none
  | n + 1, σ, x2 => f_M_init_364_s (f_M_init_364 n) σ x2
def f_M_init_343_s (k343 : StM → Int32 → Option (Int32 × StM)) (σ : StM) (x2 : Int32) : Option (Int32 × StM) :=
  if (M_classes σ) ≤ x2 then
    f_M_init_364 1000 σ 0
  else
    (f_M_reckonOver σ x2).bind fun r1 =>
    k343 r1.2 (x2 + 1)
def f_M_init_343 : Nat → StM → Int32 → Option (Int32 × StM)
  | 0, _, _ => none
  | n + 1, σ, x2 => f_M_init_343_s (f_M_init_343 n) σ x2
def f_M_init_310 (k229 : StM → Int32 → Option (Int32 × StM)) (σ : StM) (x2 : Int32) : Option (Int32 × StM) :=
  if x2 ≤ 4 then
    k229 σ (x2 + 1)
  else
    (f_M_tie σ x2 3 (x2 + 3)).bind fun r2 =>
    k229 r2.2 (x2 + 1)
def f_M_init_298 (k229 : StM → Int32 → Option (Int32 × StM)) (σ : StM) (x2 : Int32) : Option (Int32 × StM) :=
  if x2 ≤ 3 then
    f_M_init_310 k229 σ x2
  else
    (f_M_tie σ x2 2 (-1)).bind fun r3 =>
    f_M_init_310 k229 r3.2 x2
def f_M_init_294 (k229 : StM → Int32 → Option (Int32 × StM)) (σ : StM) (x2 t1 t2 : Int32) : Option (Int32 × StM) :=
  (f_M_tie σ t1 t2 (-1)).bind fun r4 =>
  f_M_init_298 k229 r4.2 x2
def f_M_init_289 (k229 : StM → Int32 → Option (Int32 × StM)) (σ : StM) (x2 t1 : Int32) : Option (Int32 × StM) :=
  f_M_init_294 k229 σ x2 t1 0
def f_M_init_270 (k229 : StM → Int32 → Option (Int32 × StM)) (σ : StM) (x2 t1 t2 : Int32) : Option (Int32 × StM) :=
  if t1 < 0 ∨ 30 ≤ t1.toNatClampNeg then none else
  if x2 ≤ 0 then
    f_M_init_298 k229 (M_put_generic σ t1 (vp_nar .boolean t2)) x2
  else
    if x2 < 6 then
      f_M_init_289 k229 (M_put_generic σ t1 (vp_nar .boolean t2)) x2 x2
    else
      if x2 = 8 then
        f_M_init_289 k229 (M_put_generic σ t1 (vp_nar .boolean t2)) x2 x2
      else
        f_M_init_294 k229 (M_put_generic σ t1 (vp_nar .boolean t2)) x2 x2 4
def f_M_init_254 (k229 : StM → Int32 → Option (Int32 × StM)) (σ : StM) (x2 t1 t2 : Int32) : Option (Int32 × StM) :=
  if t1 < 0 ∨ 30 ≤ t1.toNatClampNeg then none else
  if x2 = 3 then
    f_M_init_270 k229 (M_put_face σ t1 (vp_nar .boolean t2)) x2 x2 1
  else
    f_M_init_270 k229 (M_put_face σ t1 (vp_nar .boolean t2)) x2 x2 0
def f_M_init_253 (k229 : StM → Int32 → Option (Int32 × StM)) (σ : StM) (x2 t1 : Int32) : Option (Int32 × StM) :=
  f_M_init_254 k229 σ x2 t1 0
def f_M_init_229_s (k229 : StM → Int32 → Option (Int32 × StM)) (σ : StM) (x2 : Int32) : Option (Int32 × StM) :=
  if 13 ≤ x2 then
    f_M_init_343 1000 (M_set_generics (M_set_classes σ 13) 1) 0
  else
    if x2 ≤ 0 then
      f_M_init_253 k229 σ x2 x2
    else
      if 4 ≤ x2 then
        f_M_init_253 k229 σ x2 x2
      else
        f_M_init_254 k229 σ x2 x2 1
def f_M_init_229 : Nat → StM → Int32 → Option (Int32 × StM)
  | 0, _, _ => none
  | n + 1, σ, x2 => f_M_init_229_s (f_M_init_229 n) σ x2
def f_M_init_205 (σ : StM) (x1 : Int32) : Option (Int32 × StM) :=
  if 0 ≤ x1 then
    if x1 ≤ 2 then
      f_M_init_229 1000 (M_set_depth σ x1) 0
    else
      f_M_init_229 1000 (M_set_depth σ 2) 0
  else
    f_M_init_229 1000 (M_set_depth σ 0) 0
set_option maxHeartbeats 4000000 in
set_option maxRecDepth 100000 in
theorem t_M_init_453 {p : Program} {l : Launch} {e : Env} {s : State} {m : MethodId} {args : Array Value} {below : List Frame} {meth : Method} {c : Code} {D : va_G} {cI cZ : ClassId} {a : Nat → Nat} {A : Nat → Prop} (C0 : Am p s m args meth c b_M_init none 3 R_M D [(cI, .int), (cZ, .boolean)]) {kc ks : Nat} (hin2 : meth.name = "<init>") (hA : ∀ q, s.heap.size ≤ q → A q) {res : Int32 × StM} {k364 : StM → Int32 → Option (Int32 × StM)} (hk364 : ∀ (q : Nat) (σ : StM) (x2 : Int32) (H : Heap) (locs : List Loc) (ls : Array Slot), k364 σ x2 = some res → va_P D vwCl (wM cI cZ a q σ) H → va_D A (wM cI cZ a q σ) → va_S A s.heap H locs → lv_has ls 3 [(0, .ref (a 20)), (2, .int x2)] → W p l e (rmK 1 24 kc ks) s m args below meth c H locs kc ks (RwQv below args s D A (fun q (σ : StM) => (wM cI cZ a q σ)) res kc ks) (F0 m 364 ls []))  {q : Nat} {σ : StM} {x2 t1 t2 : Int32} (h : f_M_init_453 k364 σ x2 t1 t2 = some res) {H : Heap} {locs : List Loc} (hP : va_P D vwCl (wM cI cZ a q σ) H) (hD : va_D A (wM cI cZ a q σ)) (hS : va_S A s.heap H locs) {ls : Array Slot} (hl : lv_has ls 3 [(0, .ref (a 20)), (2, .int x2)]) : W p l e (rmK 1 24 kc ks) s m args below meth c H locs kc ks (RwQv below args s D A (fun q (σ : StM) => (wM cI cZ a q σ)) res kc ks) (F0 m 453 ls [.int t2, .int t1, .ref (a 32)]) := by
  obtain ⟨hx, hb, hr, hml, hown, hts, hlk, hK⟩ := id C0
  unfold f_M_init_453 at h
  replace h := gd h
  obtain ⟨hi, h⟩ := h
  refine rw_iast C0 hP hD hS 12 0 rfl rfl hi d_M_init_453 (Wn := (wM cI cZ a q (M_put_partCount σ t1 t2))) ws_M_put_partCount (fun H locs hP hD hS => ?_)
  refine lv_aload_n hx hb d_M_init_454 rfl (lv_at hl 0 rfl) ?_
  refine va_get (ci := 4) (v := .ref (a 33)) (C := R_M) (T := F_M) (N := 35) hx hb hts i_M hown hK.1 hP 0 rfl rfl 17 (by decide) (hts _ wd_355) (fun _ h9 => h9) rfl d_M_init_455 ?_
  refine lv_bipush (v := 30) hx hb d_M_init_458 (by decide) ?_
  refine lv_iload_n hx hb d_M_init_460 rfl (lv_at hl 1 rfl) ?_
  refine lv_imul hx hb d_M_init_461 ?_
  refine lv_iload_n hx hb d_M_init_462 rfl (lv_at hl 1 rfl) ?_
  replace h := gd h
  obtain ⟨hi, h⟩ := h
  refine rw_iast C0 hP hD hS 13 0 rfl rfl hi d_M_init_463 (Wn := (wM cI cZ a q (M_put_partRow (M_put_partCount σ t1 t2) (30 * x2) x2))) ws_M_put_partRow (fun H locs hP hD hS => ?_)
  refine lv_iinc (v := (x2 + 1)) (lv' := [(2, .int (x2 + 1)), (0, .ref (a 20))]) hx hb d_M_init_464 hl (k := 1) rfl rfl (by decide) rfl (fun ls hl => ?_)
  refine lv_goto (tgt := 364) hx hb d_M_init_467 (by decide) ?_
  exact hk364 _ _ _ _ _ _ h hP hD hS (lv_sub hl [1, 0] rfl)
set_option maxHeartbeats 4000000 in
set_option maxRecDepth 100000 in
theorem t_M_init_422 {p : Program} {l : Launch} {e : Env} {s : State} {m : MethodId} {args : Array Value} {below : List Frame} {meth : Method} {c : Code} {D : va_G} {cI cZ : ClassId} {a : Nat → Nat} {A : Nat → Prop} (C0 : Am p s m args meth c b_M_init none 3 R_M D [(cI, .int), (cZ, .boolean)]) {kc ks : Nat} (hin2 : meth.name = "<init>") (hA : ∀ q, s.heap.size ≤ q → A q) {res : Int32 × StM} {k364 : StM → Int32 → Option (Int32 × StM)} (hk364 : ∀ (q : Nat) (σ : StM) (x2 : Int32) (H : Heap) (locs : List Loc) (ls : Array Slot), k364 σ x2 = some res → va_P D vwCl (wM cI cZ a q σ) H → va_D A (wM cI cZ a q σ) → va_S A s.heap H locs → lv_has ls 3 [(0, .ref (a 20)), (2, .int x2)] → W p l e (rmK 1 24 kc ks) s m args below meth c H locs kc ks (RwQv below args s D A (fun q (σ : StM) => (wM cI cZ a q σ)) res kc ks) (F0 m 364 ls []))  {q : Nat} {σ : StM} {x2 t1 t2 : Int32} (h : f_M_init_422 k364 σ x2 t1 t2 = some res) {H : Heap} {locs : List Loc} (hP : va_P D vwCl (wM cI cZ a q σ) H) (hD : va_D A (wM cI cZ a q σ)) (hS : va_S A s.heap H locs) {ls : Array Slot} (hl : lv_has ls 3 [(0, .ref (a 20)), (2, .int x2)]) : W p l e (rmK 1 24 kc ks) s m args below meth c H locs kc ks (RwQv below args s D A (fun q (σ : StM) => (wM cI cZ a q σ)) res kc ks) (F0 m 422 ls [.int t2, .int t1, .ref (a 29)]) := by
  obtain ⟨hx, hb, hr, hml, hown, hts, hlk, hK⟩ := id C0
  unfold f_M_init_422 at h
  replace h := gd h
  obtain ⟨hi, h⟩ := h
  refine rw_iast C0 hP hD hS 9 0 rfl rfl hi d_M_init_422 (Wn := (wM cI cZ a q (M_put_how σ t1 t2))) ws_M_put_how (fun H locs hP hD hS => ?_)
  refine lv_aload_n hx hb d_M_init_423 rfl (lv_at hl 0 rfl) ?_
  refine va_get (ci := 4) (v := .ref (a 30)) (C := R_M) (T := F_M) (N := 35) hx hb hts i_M hown hK.1 hP 0 rfl rfl 14 (by decide) (hts _ wd_358) (fun _ h9 => h9) rfl d_M_init_424 ?_
  refine lv_iload_n hx hb d_M_init_427 rfl (lv_at hl 1 rfl) ?_
  refine lv_iconst (v := (-1)) hx hb d_M_init_428 (by decide) ?_
  replace h := gd h
  obtain ⟨hi, h⟩ := h
  refine rw_iast C0 hP hD hS 10 0 rfl rfl hi d_M_init_429 (Wn := (wM cI cZ a q (M_put_inner (M_put_how σ t1 t2) x2 (-1)))) ws_M_put_inner (fun H locs hP hD hS => ?_)
  refine lv_aload_n hx hb d_M_init_430 rfl (lv_at hl 0 rfl) ?_
  refine va_get (ci := 4) (v := .ref (a 31)) (C := R_M) (T := F_M) (N := 35) hx hb hts i_M hown hK.1 hP 0 rfl rfl 15 (by decide) (hts _ wd_363) (fun _ h9 => h9) rfl d_M_init_431 ?_
  refine lv_iload_n hx hb d_M_init_434 rfl (lv_at hl 1 rfl) ?_
  refine lv_iconst (v := 1) hx hb d_M_init_435 (by decide) ?_
  replace h := gd h
  obtain ⟨hi, h⟩ := h
  refine rw_iast C0 hP hD hS 11 0 rfl rfl hi d_M_init_436 (Wn := (wM cI cZ a q (M_put_made (M_put_inner (M_put_how σ t1 t2) x2 (-1)) x2 1))) ws_M_put_made (fun H locs hP hD hS => ?_)
  refine lv_aload_n hx hb d_M_init_437 rfl (lv_at hl 0 rfl) ?_
  refine va_get (ci := 4) (v := .ref (a 32)) (C := R_M) (T := F_M) (N := 35) hx hb hts i_M hown hK.1 hP 0 rfl rfl 16 (by decide) (hts _ wd_354) (fun _ h9 => h9) rfl d_M_init_438 ?_
  refine lv_iload_n hx hb d_M_init_441 rfl (lv_at hl 1 rfl) ?_
  refine lv_iload_n hx hb d_M_init_442 rfl (lv_at hl 1 rfl) ?_
  refine lv_bipush (v := 8) hx hb d_M_init_443 (by decide) ?_
  refine lv_icmp_ge (tgt := 452) hx hb d_M_init_445 (by decide) (fun hc => ?_) (fun hc => ?_)
  · rw [if_pos hc] at h
    refine lv_iconst (v := 1) hx hb d_M_init_452 (by decide) ?_
    exact t_M_init_453 (a := a) C0 hin2 hA hk364 h hP hD hS (lv_sub hl [0, 1] rfl)
  · rw [if_neg hc] at h
    refine lv_iconst (v := 0) hx hb d_M_init_448 (by decide) ?_
    refine lv_goto (tgt := 453) hx hb d_M_init_449 (by decide) ?_
    exact t_M_init_453 (a := a) C0 hin2 hA hk364 h hP hD hS (lv_sub hl [0, 1] rfl)
set_option maxHeartbeats 4000000 in
set_option maxRecDepth 100000 in
theorem t_M_init_405 {p : Program} {l : Launch} {e : Env} {s : State} {m : MethodId} {args : Array Value} {below : List Frame} {meth : Method} {c : Code} {D : va_G} {cI cZ : ClassId} {a : Nat → Nat} {A : Nat → Prop} (C0 : Am p s m args meth c b_M_init none 3 R_M D [(cI, .int), (cZ, .boolean)]) {kc ks : Nat} (hin2 : meth.name = "<init>") (hA : ∀ q, s.heap.size ≤ q → A q) {res : Int32 × StM} {k364 : StM → Int32 → Option (Int32 × StM)} (hk364 : ∀ (q : Nat) (σ : StM) (x2 : Int32) (H : Heap) (locs : List Loc) (ls : Array Slot), k364 σ x2 = some res → va_P D vwCl (wM cI cZ a q σ) H → va_D A (wM cI cZ a q σ) → va_S A s.heap H locs → lv_has ls 3 [(0, .ref (a 20)), (2, .int x2)] → W p l e (rmK 1 24 kc ks) s m args below meth c H locs kc ks (RwQv below args s D A (fun q (σ : StM) => (wM cI cZ a q σ)) res kc ks) (F0 m 364 ls []))  {q : Nat} {σ : StM} {x2 t1 t2 : Int32} (h : f_M_init_405 k364 σ x2 t1 t2 = some res) {H : Heap} {locs : List Loc} (hP : va_P D vwCl (wM cI cZ a q σ) H) (hD : va_D A (wM cI cZ a q σ)) (hS : va_S A s.heap H locs) {ls : Array Slot} (hl : lv_has ls 3 [(0, .ref (a 20)), (2, .int x2)]) : W p l e (rmK 1 24 kc ks) s m args below meth c H locs kc ks (RwQv below args s D A (fun q (σ : StM) => (wM cI cZ a q σ)) res kc ks) (F0 m 405 ls [.int t2, .int t1, .ref (a 28)]) := by
  obtain ⟨hx, hb, hr, hml, hown, hts, hlk, hK⟩ := id C0
  unfold f_M_init_405 at h
  replace h := gd h
  obtain ⟨hi, h⟩ := h
  refine rw_iast C0 hP hD hS 8 0 rfl rfl hi d_M_init_405 (Wn := (wM cI cZ a q (M_put_classOf σ t1 t2))) ws_M_put_classOf (fun H locs hP hD hS => ?_)
  refine lv_aload_n hx hb d_M_init_406 rfl (lv_at hl 0 rfl) ?_
  refine va_get (ci := 4) (v := .ref (a 29)) (C := R_M) (T := F_M) (N := 35) hx hb hts i_M hown hK.1 hP 0 rfl rfl 13 (by decide) (hts _ wd_357) (fun _ h9 => h9) rfl d_M_init_407 ?_
  refine lv_iload_n hx hb d_M_init_410 rfl (lv_at hl 1 rfl) ?_
  refine lv_iload_n hx hb d_M_init_411 rfl (lv_at hl 1 rfl) ?_
  refine lv_bipush (v := 8) hx hb d_M_init_412 (by decide) ?_
  refine lv_icmp_ge (tgt := 421) hx hb d_M_init_414 (by decide) (fun hc => ?_) (fun hc => ?_)
  · rw [if_pos hc] at h
    refine lv_iconst (v := 0) hx hb d_M_init_421 (by decide) ?_
    exact t_M_init_422 (a := a) C0 hin2 hA hk364 h hP hD hS (lv_sub hl [0, 1] rfl)
  · rw [if_neg hc] at h
    refine lv_iconst (v := (-1)) hx hb d_M_init_417 (by decide) ?_
    refine lv_goto (tgt := 422) hx hb d_M_init_418 (by decide) ?_
    exact t_M_init_422 (a := a) C0 hin2 hA hk364 h hP hD hS (lv_sub hl [0, 1] rfl)
set_option maxHeartbeats 4000000 in
set_option maxRecDepth 100000 in
theorem t_M_init_386 {p : Program} {l : Launch} {e : Env} {s : State} {m : MethodId} {args : Array Value} {below : List Frame} {meth : Method} {c : Code} {D : va_G} {cI cZ : ClassId} {a : Nat → Nat} {A : Nat → Prop} (C0 : Am p s m args meth c b_M_init none 3 R_M D [(cI, .int), (cZ, .boolean)]) {kc ks : Nat} (hin2 : meth.name = "<init>") (hA : ∀ q, s.heap.size ≤ q → A q) {res : Int32 × StM} {k364 : StM → Int32 → Option (Int32 × StM)} (hk364 : ∀ (q : Nat) (σ : StM) (x2 : Int32) (H : Heap) (locs : List Loc) (ls : Array Slot), k364 σ x2 = some res → va_P D vwCl (wM cI cZ a q σ) H → va_D A (wM cI cZ a q σ) → va_S A s.heap H locs → lv_has ls 3 [(0, .ref (a 20)), (2, .int x2)] → W p l e (rmK 1 24 kc ks) s m args below meth c H locs kc ks (RwQv below args s D A (fun q (σ : StM) => (wM cI cZ a q σ)) res kc ks) (F0 m 364 ls []))  {q : Nat} {σ : StM} {x2 t1 t2 : Int32} (h : f_M_init_386 k364 σ x2 t1 t2 = some res) {H : Heap} {locs : List Loc} (hP : va_P D vwCl (wM cI cZ a q σ) H) (hD : va_D A (wM cI cZ a q σ)) (hS : va_S A s.heap H locs) {ls : Array Slot} (hl : lv_has ls 3 [(0, .ref (a 20)), (2, .int x2)]) : W p l e (rmK 1 24 kc ks) s m args below meth c H locs kc ks (RwQv below args s D A (fun q (σ : StM) => (wM cI cZ a q σ)) res kc ks) (F0 m 386 ls [.int t2, .int t1, .ref (a 27)]) := by
  obtain ⟨hx, hb, hr, hml, hown, hts, hlk, hK⟩ := id C0
  unfold f_M_init_386 at h
  replace h := gd h
  obtain ⟨hi, h⟩ := h
  refine rw_iast C0 hP hD hS 7 0 rfl rfl hi d_M_init_386 (Wn := (wM cI cZ a q (M_put_kind σ t1 t2))) ws_M_put_kind (fun H locs hP hD hS => ?_)
  refine lv_aload_n hx hb d_M_init_387 rfl (lv_at hl 0 rfl) ?_
  refine va_get (ci := 4) (v := .ref (a 28)) (C := R_M) (T := F_M) (N := 35) hx hb hts i_M hown hK.1 hP 0 rfl rfl 12 (by decide) (hts _ wd_356) (fun _ h9 => h9) rfl d_M_init_388 ?_
  refine lv_iload_n hx hb d_M_init_391 rfl (lv_at hl 1 rfl) ?_
  refine lv_iload_n hx hb d_M_init_392 rfl (lv_at hl 1 rfl) ?_
  refine lv_bipush (v := 8) hx hb d_M_init_393 (by decide) ?_
  refine lv_icmp_ge (tgt := 402) hx hb d_M_init_395 (by decide) (fun hc => ?_) (fun hc => ?_)
  · rw [if_pos hc] at h
    refine lv_iload_n hx hb d_M_init_402 rfl (lv_at hl 1 rfl) ?_
    refine lv_iconst (v := 3) hx hb d_M_init_403 (by decide) ?_
    refine lv_isub hx hb d_M_init_404 ?_
    exact t_M_init_405 (a := a) C0 hin2 hA hk364 h hP hD hS (lv_sub hl [0, 1] rfl)
  · rw [if_neg hc] at h
    refine lv_iconst (v := (-1)) hx hb d_M_init_398 (by decide) ?_
    refine lv_goto (tgt := 405) hx hb d_M_init_399 (by decide) ?_
    exact t_M_init_405 (a := a) C0 hin2 hA hk364 h hP hD hS (lv_sub hl [0, 1] rfl)
set_option maxHeartbeats 4000000 in
set_option maxRecDepth 100000 in
theorem t_M_init_364_s {p : Program} {l : Launch} {e : Env} {s : State} {m : MethodId} {args : Array Value} {below : List Frame} {meth : Method} {c : Code} {D : va_G} {cI cZ : ClassId} {a : Nat → Nat} {A : Nat → Prop} (C0 : Am p s m args meth c b_M_init none 3 R_M D [(cI, .int), (cZ, .boolean)]) {kc ks : Nat} (hin2 : meth.name = "<init>") (hA : ∀ q, s.heap.size ≤ q → A q) {res : Int32 × StM} {k364 : StM → Int32 → Option (Int32 × StM)}  (hk364 : ∀ (q : Nat) (σ : StM) (x2 : Int32) (H : Heap) (locs : List Loc) (ls : Array Slot), k364 σ x2 = some res → va_P D vwCl (wM cI cZ a q σ) H → va_D A (wM cI cZ a q σ) → va_S A s.heap H locs → lv_has ls 3 [(0, .ref (a 20)), (2, .int x2)] → W p l e (rmK 1 24 kc ks) s m args below meth c H locs kc ks (RwQv below args s D A (fun q (σ : StM) => (wM cI cZ a q σ)) res kc ks) (F0 m 364 ls [])) {q : Nat} {σ : StM} {x2 : Int32} (h : f_M_init_364_s k364 σ x2 = some res) {H : Heap} {locs : List Loc} (hP : va_P D vwCl (wM cI cZ a q σ) H) (hD : va_D A (wM cI cZ a q σ)) (hS : va_S A s.heap H locs) {ls : Array Slot} (hl : lv_has ls 3 [(0, .ref (a 20)), (2, .int x2)]) : W p l e (rmK 1 24 kc ks) s m args below meth c H locs kc ks (RwQv below args s D A (fun q (σ : StM) => (wM cI cZ a q σ)) res kc ks) (F0 m 364 ls []) := by
  obtain ⟨hx, hb, hr, hml, hown, hts, hlk, hK⟩ := id C0
  unfold f_M_init_364_s at h
  refine lv_iload_n hx hb d_M_init_364 rfl (lv_at hl 1 rfl) ?_
  refine lv_bipush (v := 16) hx hb d_M_init_365 (by decide) ?_
  refine lv_icmp_ge (tgt := 470) hx hb d_M_init_367 (by decide) (fun hc => ?_) (fun hc => ?_)
  · rw [if_pos hc] at h
    refine lv_aload_n hx hb d_M_init_470 rfl (lv_at hl 0 rfl) ?_
    refine lv_bipush (v := 16) hx hb d_M_init_471 (by decide) ?_
    refine rw_put (v := .int 16) (fty := .int) (C := R_M) (T := F_M) (N := 35) C0 hP hD hS i_M ty_M tyok_M nn_M 0 rfl rfl 10 (by decide) (hts _ wd_344) rfl rfl (by decide +kernel) rfl rfl (Nat.le_of_ble_eq_true rfl) d_M_init_473 (Wn := (wM cI cZ a q (M_set_types σ 16))) ws_M_set_types (fun H locs hP hD hS => ?_)
    exact rw_retv C0 hP hD hS (Option.some.inj h) d_M_init_476
  · rw [if_neg hc] at h
    refine lv_aload_n hx hb d_M_init_370 rfl (lv_at hl 0 rfl) ?_
    refine va_get (ci := 4) (v := .ref (a 27)) (C := R_M) (T := F_M) (N := 35) hx hb hts i_M hown hK.1 hP 0 rfl rfl 11 (by decide) (hts _ wd_353) (fun _ h9 => h9) rfl d_M_init_371 ?_
    refine lv_iload_n hx hb d_M_init_374 rfl (lv_at hl 1 rfl) ?_
    refine lv_iload_n hx hb d_M_init_375 rfl (lv_at hl 1 rfl) ?_
    refine lv_bipush (v := 8) hx hb d_M_init_376 (by decide) ?_
    refine lv_icmp_ge (tgt := 385) hx hb d_M_init_378 (by decide) (fun hc => ?_) (fun hc => ?_)
    · rw [if_pos hc] at h
      refine lv_iconst (v := 1) hx hb d_M_init_385 (by decide) ?_
      exact t_M_init_386 (a := a) C0 hin2 hA hk364 h hP hD hS (lv_sub hl [0, 1] rfl)
    · rw [if_neg hc] at h
      refine lv_iconst (v := 0) hx hb d_M_init_381 (by decide) ?_
      refine lv_goto (tgt := 386) hx hb d_M_init_382 (by decide) ?_
      exact t_M_init_386 (a := a) C0 hin2 hA hk364 h hP hD hS (lv_sub hl [0, 1] rfl)
set_option maxHeartbeats 4000000 in
set_option maxRecDepth 100000 in
theorem t_M_init_364 {p : Program} {l : Launch} {e : Env} {s : State} {m : MethodId} {args : Array Value} {below : List Frame} {meth : Method} {c : Code} {D : va_G} {cI cZ : ClassId} {a : Nat → Nat} {A : Nat → Prop} (C0 : Am p s m args meth c b_M_init none 3 R_M D [(cI, .int), (cZ, .boolean)]) {kc ks : Nat} (hin2 : meth.name = "<init>") (hA : ∀ q, s.heap.size ≤ q → A q) {res : Int32 × StM}  {n : Nat} {q : Nat} {σ : StM} {x2 : Int32} (h : f_M_init_364  n σ x2 = some res) {H : Heap} {locs : List Loc} (hP : va_P D vwCl (wM cI cZ a q σ) H) (hD : va_D A (wM cI cZ a q σ)) (hS : va_S A s.heap H locs) {ls : Array Slot} (hl : lv_has ls 3 [(0, .ref (a 20)), (2, .int x2)]) : W p l e (rmK 1 24 kc ks) s m args below meth c H locs kc ks (RwQv below args s D A (fun q (σ : StM) => (wM cI cZ a q σ)) res kc ks) (F0 m 364 ls []) := by
  induction n generalizing q σ x2 H locs ls with
  | zero => cases h
  | succ n ih => exact t_M_init_364_s (a := a) C0 hin2 hA  (fun _ _ _ _ _ _ h hP hD hS hl => ih h hP hD hS hl) h hP hD hS hl
set_option maxHeartbeats 4000000 in
set_option maxRecDepth 100000 in
theorem t_M_init_343_s {p : Program} {l : Launch} {e : Env} {s : State} {m : MethodId} {args : Array Value} {below : List Frame} {meth : Method} {c : Code} {D : va_G} {cI cZ : ClassId} {a : Nat → Nat} {A : Nat → Prop} (C0 : Am p s m args meth c b_M_init none 3 R_M D [(cI, .int), (cZ, .boolean)]) {kc ks : Nat} (hin2 : meth.name = "<init>") (hA : ∀ q, s.heap.size ≤ q → A q) {res : Int32 × StM} {k343 : StM → Int32 → Option (Int32 × StM)}  (hk343 : ∀ (q : Nat) (σ : StM) (x2 : Int32) (H : Heap) (locs : List Loc) (ls : Array Slot), k343 σ x2 = some res → va_P D vwCl (wM cI cZ a q σ) H → va_D A (wM cI cZ a q σ) → va_S A s.heap H locs → lv_has ls 3 [(0, .ref (a 20)), (2, .int x2)] → W p l e (rmK 1 24 kc ks) s m args below meth c H locs kc ks (RwQv below args s D A (fun q (σ : StM) => (wM cI cZ a q σ)) res kc ks) (F0 m 343 ls [])) {q : Nat} {σ : StM} {x2 : Int32} (h : f_M_init_343_s k343 σ x2 = some res) {H : Heap} {locs : List Loc} (hP : va_P D vwCl (wM cI cZ a q σ) H) (hD : va_D A (wM cI cZ a q σ)) (hS : va_S A s.heap H locs) {ls : Array Slot} (hl : lv_has ls 3 [(0, .ref (a 20)), (2, .int x2)]) : W p l e (rmK 1 24 kc ks) s m args below meth c H locs kc ks (RwQv below args s D A (fun q (σ : StM) => (wM cI cZ a q σ)) res kc ks) (F0 m 343 ls []) := by
  obtain ⟨hx, hb, hr, hml, hown, hts, hlk, hK⟩ := id C0
  unfold f_M_init_343_s at h
  refine lv_iload_n hx hb d_M_init_343 rfl (lv_at hl 1 rfl) ?_
  refine lv_aload_n hx hb d_M_init_344 rfl (lv_at hl 0 rfl) ?_
  refine va_get (ci := 4) (v := .int (M_classes σ)) (C := R_M) (T := F_M) (N := 35) hx hb hts i_M hown hK.1 hP 0 rfl rfl 2 (by decide) (hts _ wd_343) (fun _ h9 => h9) rfl d_M_init_345 ?_
  refine lv_icmp_ge (tgt := 362) hx hb d_M_init_348 (by decide) (fun hc => ?_) (fun hc => ?_)
  · rw [if_pos hc] at h
    refine lv_iconst (v := 0) hx hb d_M_init_362 (by decide) ?_
    refine lv_istore_n (lv' := [(2, .int 0), (0, .ref (a 20))]) hx hb d_M_init_363 rfl hl (by decide) rfl (fun ls hl => ?_)
    exact t_M_init_364 (a := a) C0 hin2 hA  h hP hD hS (lv_sub hl [1, 0] rfl)
  · rw [if_neg hc] at h
    refine lv_aload_n hx hb d_M_init_351 rfl (lv_at hl 0 rfl) ?_
    refine lv_iload_n hx hb d_M_init_352 rfl (lv_at hl 1 rfl) ?_
    replace h := bd h
    obtain ⟨r1, g1, h⟩ := h
    refine rw_Vv (n := 1) (ci := 4) (As := [.int x2]) (rest := []) (Wn := fun _ => (wM cI cZ a q r1.2)) C0 hA (c_M_reckonOver l D cI cZ a q σ x2 g1) wd_399 ⟨wd_400, wd_401, wd_402, wd_352⟩ (by decide +kernel) ⟨Nat.le_of_ble_eq_true rfl, Nat.le_of_ble_eq_true rfl⟩ hP hD hS [0, 1, 2, 3, 4, 5, 6, 7, 8, 9, 10, 11, 12, 13, 14, 15, 16, 17, 18, 19, 20, 21, 22, 23] [] [0, 1, 2, 3, 4, 5, 6, 7, 8, 9, 10, 11, 12, 13, 14, 15, 16, 17, 18, 19, 20, 21, 22, 23] jn_M__C (by decide) jn_M__R (by decide) (by decide) (by decide) jn_M__W rfl rfl rfl hl rfl rfl (Nat.le_of_ble_eq_true rfl) ⟨Nat.le_refl _, Nat.le_refl _⟩ d_M_init_353 (fun H locs _ hP hD hS => ?_)
    try dsimp only at h
    refine lv_iinc (v := (x2 + 1)) (lv' := [(2, .int (x2 + 1)), (0, .ref (a 20))]) hx hb d_M_init_356 hl (k := 1) rfl rfl (by decide) rfl (fun ls hl => ?_)
    refine lv_goto (tgt := 343) hx hb d_M_init_359 (by decide) ?_
    exact hk343 _ _ _ _ _ _ h hP hD hS (lv_sub hl [1, 0] rfl)
set_option maxHeartbeats 4000000 in
set_option maxRecDepth 100000 in
theorem t_M_init_343 {p : Program} {l : Launch} {e : Env} {s : State} {m : MethodId} {args : Array Value} {below : List Frame} {meth : Method} {c : Code} {D : va_G} {cI cZ : ClassId} {a : Nat → Nat} {A : Nat → Prop} (C0 : Am p s m args meth c b_M_init none 3 R_M D [(cI, .int), (cZ, .boolean)]) {kc ks : Nat} (hin2 : meth.name = "<init>") (hA : ∀ q, s.heap.size ≤ q → A q) {res : Int32 × StM}  {n : Nat} {q : Nat} {σ : StM} {x2 : Int32} (h : f_M_init_343  n σ x2 = some res) {H : Heap} {locs : List Loc} (hP : va_P D vwCl (wM cI cZ a q σ) H) (hD : va_D A (wM cI cZ a q σ)) (hS : va_S A s.heap H locs) {ls : Array Slot} (hl : lv_has ls 3 [(0, .ref (a 20)), (2, .int x2)]) : W p l e (rmK 1 24 kc ks) s m args below meth c H locs kc ks (RwQv below args s D A (fun q (σ : StM) => (wM cI cZ a q σ)) res kc ks) (F0 m 343 ls []) := by
  induction n generalizing q σ x2 H locs ls with
  | zero => cases h
  | succ n ih => exact t_M_init_343_s (a := a) C0 hin2 hA  (fun _ _ _ _ _ _ h hP hD hS hl => ih h hP hD hS hl) h hP hD hS hl
set_option maxHeartbeats 4000000 in
set_option maxRecDepth 100000 in
theorem t_M_init_310 {p : Program} {l : Launch} {e : Env} {s : State} {m : MethodId} {args : Array Value} {below : List Frame} {meth : Method} {c : Code} {D : va_G} {cI cZ : ClassId} {a : Nat → Nat} {A : Nat → Prop} (C0 : Am p s m args meth c b_M_init none 3 R_M D [(cI, .int), (cZ, .boolean)]) {kc ks : Nat} (hin2 : meth.name = "<init>") (hA : ∀ q, s.heap.size ≤ q → A q) {res : Int32 × StM} {k229 : StM → Int32 → Option (Int32 × StM)} (hk229 : ∀ (q : Nat) (σ : StM) (x2 : Int32) (H : Heap) (locs : List Loc) (ls : Array Slot), k229 σ x2 = some res → va_P D vwCl (wM cI cZ a q σ) H → va_D A (wM cI cZ a q σ) → va_S A s.heap H locs → lv_has ls 3 [(0, .ref (a 20)), (2, .int x2)] → W p l e (rmK 1 24 kc ks) s m args below meth c H locs kc ks (RwQv below args s D A (fun q (σ : StM) => (wM cI cZ a q σ)) res kc ks) (F0 m 229 ls []))  {q : Nat} {σ : StM} {x2 : Int32} (h : f_M_init_310 k229 σ x2 = some res) {H : Heap} {locs : List Loc} (hP : va_P D vwCl (wM cI cZ a q σ) H) (hD : va_D A (wM cI cZ a q σ)) (hS : va_S A s.heap H locs) {ls : Array Slot} (hl : lv_has ls 3 [(0, .ref (a 20)), (2, .int x2)]) : W p l e (rmK 1 24 kc ks) s m args below meth c H locs kc ks (RwQv below args s D A (fun q (σ : StM) => (wM cI cZ a q σ)) res kc ks) (F0 m 310 ls []) := by
  obtain ⟨hx, hb, hr, hml, hown, hts, hlk, hK⟩ := id C0
  unfold f_M_init_310 at h
  refine lv_iload_n hx hb d_M_init_310 rfl (lv_at hl 1 rfl) ?_
  refine lv_iconst (v := 4) hx hb d_M_init_311 (by decide) ?_
  refine lv_icmp_le (tgt := 324) hx hb d_M_init_312 (by decide) (fun hc => ?_) (fun hc => ?_)
  · rw [if_pos hc] at h
    refine lv_iinc (v := (x2 + 1)) (lv' := [(2, .int (x2 + 1)), (0, .ref (a 20))]) hx hb d_M_init_324 hl (k := 1) rfl rfl (by decide) rfl (fun ls hl => ?_)
    refine lv_goto (tgt := 229) hx hb d_M_init_327 (by decide) ?_
    exact hk229 _ _ _ _ _ _ h hP hD hS (lv_sub hl [1, 0] rfl)
  · rw [if_neg hc] at h
    refine lv_aload_n hx hb d_M_init_315 rfl (lv_at hl 0 rfl) ?_
    refine lv_iload_n hx hb d_M_init_316 rfl (lv_at hl 1 rfl) ?_
    refine lv_iconst (v := 3) hx hb d_M_init_317 (by decide) ?_
    refine lv_iload_n hx hb d_M_init_318 rfl (lv_at hl 1 rfl) ?_
    refine lv_iconst (v := 3) hx hb d_M_init_319 (by decide) ?_
    refine lv_iadd hx hb d_M_init_320 ?_
    replace h := bd h
    obtain ⟨r2, g2, h⟩ := h
    refine rw_Vv (n := 3) (ci := 4) (As := [.int x2, .int 3, .int (x2 + 3)]) (rest := []) (Wn := fun _ => (wM cI cZ a q r2.2)) C0 hA (c_M_tie l D cI cZ a q σ x2 3 (x2 + 3) g2) wd_395 ⟨wd_396, wd_397, wd_398, wd_352⟩ (by decide +kernel) ⟨Nat.le_of_ble_eq_true rfl, Nat.le_of_ble_eq_true rfl⟩ hP hD hS [0, 1, 2, 3, 4, 5, 6, 7, 8, 9, 10, 11, 12, 13, 14, 15, 16, 17, 18, 19, 20, 21, 22, 23] [] [0, 1, 2, 3, 4, 5, 6, 7, 8, 9, 10, 11, 12, 13, 14, 15, 16, 17, 18, 19, 20, 21, 22, 23] jn_M__C (by decide) jn_M__R (by decide) (by decide) (by decide) jn_M__W rfl rfl rfl hl rfl rfl (Nat.le_of_ble_eq_true rfl) ⟨Nat.le_refl _, Nat.le_refl _⟩ d_M_init_321 (fun H locs _ hP hD hS => ?_)
    try dsimp only at h
    refine lv_iinc (v := (x2 + 1)) (lv' := [(2, .int (x2 + 1)), (0, .ref (a 20))]) hx hb d_M_init_324 hl (k := 1) rfl rfl (by decide) rfl (fun ls hl => ?_)
    refine lv_goto (tgt := 229) hx hb d_M_init_327 (by decide) ?_
    exact hk229 _ _ _ _ _ _ h hP hD hS (lv_sub hl [1, 0] rfl)
set_option maxHeartbeats 4000000 in
set_option maxRecDepth 100000 in
theorem t_M_init_298 {p : Program} {l : Launch} {e : Env} {s : State} {m : MethodId} {args : Array Value} {below : List Frame} {meth : Method} {c : Code} {D : va_G} {cI cZ : ClassId} {a : Nat → Nat} {A : Nat → Prop} (C0 : Am p s m args meth c b_M_init none 3 R_M D [(cI, .int), (cZ, .boolean)]) {kc ks : Nat} (hin2 : meth.name = "<init>") (hA : ∀ q, s.heap.size ≤ q → A q) {res : Int32 × StM} {k229 : StM → Int32 → Option (Int32 × StM)} (hk229 : ∀ (q : Nat) (σ : StM) (x2 : Int32) (H : Heap) (locs : List Loc) (ls : Array Slot), k229 σ x2 = some res → va_P D vwCl (wM cI cZ a q σ) H → va_D A (wM cI cZ a q σ) → va_S A s.heap H locs → lv_has ls 3 [(0, .ref (a 20)), (2, .int x2)] → W p l e (rmK 1 24 kc ks) s m args below meth c H locs kc ks (RwQv below args s D A (fun q (σ : StM) => (wM cI cZ a q σ)) res kc ks) (F0 m 229 ls []))  {q : Nat} {σ : StM} {x2 : Int32} (h : f_M_init_298 k229 σ x2 = some res) {H : Heap} {locs : List Loc} (hP : va_P D vwCl (wM cI cZ a q σ) H) (hD : va_D A (wM cI cZ a q σ)) (hS : va_S A s.heap H locs) {ls : Array Slot} (hl : lv_has ls 3 [(0, .ref (a 20)), (2, .int x2)]) : W p l e (rmK 1 24 kc ks) s m args below meth c H locs kc ks (RwQv below args s D A (fun q (σ : StM) => (wM cI cZ a q σ)) res kc ks) (F0 m 298 ls []) := by
  obtain ⟨hx, hb, hr, hml, hown, hts, hlk, hK⟩ := id C0
  unfold f_M_init_298 at h
  refine lv_iload_n hx hb d_M_init_298 rfl (lv_at hl 1 rfl) ?_
  refine lv_iconst (v := 3) hx hb d_M_init_299 (by decide) ?_
  refine lv_icmp_le (tgt := 310) hx hb d_M_init_300 (by decide) (fun hc => ?_) (fun hc => ?_)
  · rw [if_pos hc] at h
    exact t_M_init_310 (a := a) C0 hin2 hA hk229 h hP hD hS (lv_sub hl [0, 1] rfl)
  · rw [if_neg hc] at h
    refine lv_aload_n hx hb d_M_init_303 rfl (lv_at hl 0 rfl) ?_
    refine lv_iload_n hx hb d_M_init_304 rfl (lv_at hl 1 rfl) ?_
    refine lv_iconst (v := 2) hx hb d_M_init_305 (by decide) ?_
    refine lv_iconst (v := (-1)) hx hb d_M_init_306 (by decide) ?_
    replace h := bd h
    obtain ⟨r3, g3, h⟩ := h
    refine rw_Vv (n := 3) (ci := 4) (As := [.int x2, .int 2, .int (-1)]) (rest := []) (Wn := fun _ => (wM cI cZ a q r3.2)) C0 hA (c_M_tie l D cI cZ a q σ x2 2 (-1) g3) wd_395 ⟨wd_396, wd_397, wd_398, wd_352⟩ (by decide +kernel) ⟨Nat.le_of_ble_eq_true rfl, Nat.le_of_ble_eq_true rfl⟩ hP hD hS [0, 1, 2, 3, 4, 5, 6, 7, 8, 9, 10, 11, 12, 13, 14, 15, 16, 17, 18, 19, 20, 21, 22, 23] [] [0, 1, 2, 3, 4, 5, 6, 7, 8, 9, 10, 11, 12, 13, 14, 15, 16, 17, 18, 19, 20, 21, 22, 23] jn_M__C (by decide) jn_M__R (by decide) (by decide) (by decide) jn_M__W rfl rfl rfl hl rfl rfl (Nat.le_of_ble_eq_true rfl) ⟨Nat.le_refl _, Nat.le_refl _⟩ d_M_init_307 (fun H locs _ hP hD hS => ?_)
    try dsimp only at h
    exact t_M_init_310 (a := a) C0 hin2 hA hk229 h hP hD hS (lv_sub hl [0, 1] rfl)
set_option maxHeartbeats 4000000 in
set_option maxRecDepth 100000 in
theorem t_M_init_294 {p : Program} {l : Launch} {e : Env} {s : State} {m : MethodId} {args : Array Value} {below : List Frame} {meth : Method} {c : Code} {D : va_G} {cI cZ : ClassId} {a : Nat → Nat} {A : Nat → Prop} (C0 : Am p s m args meth c b_M_init none 3 R_M D [(cI, .int), (cZ, .boolean)]) {kc ks : Nat} (hin2 : meth.name = "<init>") (hA : ∀ q, s.heap.size ≤ q → A q) {res : Int32 × StM} {k229 : StM → Int32 → Option (Int32 × StM)} (hk229 : ∀ (q : Nat) (σ : StM) (x2 : Int32) (H : Heap) (locs : List Loc) (ls : Array Slot), k229 σ x2 = some res → va_P D vwCl (wM cI cZ a q σ) H → va_D A (wM cI cZ a q σ) → va_S A s.heap H locs → lv_has ls 3 [(0, .ref (a 20)), (2, .int x2)] → W p l e (rmK 1 24 kc ks) s m args below meth c H locs kc ks (RwQv below args s D A (fun q (σ : StM) => (wM cI cZ a q σ)) res kc ks) (F0 m 229 ls []))  {q : Nat} {σ : StM} {x2 t1 t2 : Int32} (h : f_M_init_294 k229 σ x2 t1 t2 = some res) {H : Heap} {locs : List Loc} (hP : va_P D vwCl (wM cI cZ a q σ) H) (hD : va_D A (wM cI cZ a q σ)) (hS : va_S A s.heap H locs) {ls : Array Slot} (hl : lv_has ls 3 [(0, .ref (a 20)), (2, .int x2)]) : W p l e (rmK 1 24 kc ks) s m args below meth c H locs kc ks (RwQv below args s D A (fun q (σ : StM) => (wM cI cZ a q σ)) res kc ks) (F0 m 294 ls [.int t2, .int t1, .ref (a 20)]) := by
  obtain ⟨hx, hb, hr, hml, hown, hts, hlk, hK⟩ := id C0
  unfold f_M_init_294 at h
  refine lv_iconst (v := (-1)) hx hb d_M_init_294 (by decide) ?_
  replace h := bd h
  obtain ⟨r4, g4, h⟩ := h
  refine rw_Vv (n := 3) (ci := 4) (As := [.int t1, .int t2, .int (-1)]) (rest := []) (Wn := fun _ => (wM cI cZ a q r4.2)) C0 hA (c_M_tie l D cI cZ a q σ t1 t2 (-1) g4) wd_395 ⟨wd_396, wd_397, wd_398, wd_352⟩ (by decide +kernel) ⟨Nat.le_of_ble_eq_true rfl, Nat.le_of_ble_eq_true rfl⟩ hP hD hS [0, 1, 2, 3, 4, 5, 6, 7, 8, 9, 10, 11, 12, 13, 14, 15, 16, 17, 18, 19, 20, 21, 22, 23] [] [0, 1, 2, 3, 4, 5, 6, 7, 8, 9, 10, 11, 12, 13, 14, 15, 16, 17, 18, 19, 20, 21, 22, 23] jn_M__C (by decide) jn_M__R (by decide) (by decide) (by decide) jn_M__W rfl rfl rfl hl rfl rfl (Nat.le_of_ble_eq_true rfl) ⟨Nat.le_refl _, Nat.le_refl _⟩ d_M_init_295 (fun H locs _ hP hD hS => ?_)
  try dsimp only at h
  exact t_M_init_298 (a := a) C0 hin2 hA hk229 h hP hD hS (lv_sub hl [0, 1] rfl)
set_option maxHeartbeats 4000000 in
set_option maxRecDepth 100000 in
theorem t_M_init_289 {p : Program} {l : Launch} {e : Env} {s : State} {m : MethodId} {args : Array Value} {below : List Frame} {meth : Method} {c : Code} {D : va_G} {cI cZ : ClassId} {a : Nat → Nat} {A : Nat → Prop} (C0 : Am p s m args meth c b_M_init none 3 R_M D [(cI, .int), (cZ, .boolean)]) {kc ks : Nat} (hin2 : meth.name = "<init>") (hA : ∀ q, s.heap.size ≤ q → A q) {res : Int32 × StM} {k229 : StM → Int32 → Option (Int32 × StM)} (hk229 : ∀ (q : Nat) (σ : StM) (x2 : Int32) (H : Heap) (locs : List Loc) (ls : Array Slot), k229 σ x2 = some res → va_P D vwCl (wM cI cZ a q σ) H → va_D A (wM cI cZ a q σ) → va_S A s.heap H locs → lv_has ls 3 [(0, .ref (a 20)), (2, .int x2)] → W p l e (rmK 1 24 kc ks) s m args below meth c H locs kc ks (RwQv below args s D A (fun q (σ : StM) => (wM cI cZ a q σ)) res kc ks) (F0 m 229 ls []))  {q : Nat} {σ : StM} {x2 t1 : Int32} (h : f_M_init_289 k229 σ x2 t1 = some res) {H : Heap} {locs : List Loc} (hP : va_P D vwCl (wM cI cZ a q σ) H) (hD : va_D A (wM cI cZ a q σ)) (hS : va_S A s.heap H locs) {ls : Array Slot} (hl : lv_has ls 3 [(0, .ref (a 20)), (2, .int x2)]) : W p l e (rmK 1 24 kc ks) s m args below meth c H locs kc ks (RwQv below args s D A (fun q (σ : StM) => (wM cI cZ a q σ)) res kc ks) (F0 m 289 ls [.int t1, .ref (a 20)]) := by
  obtain ⟨hx, hb, hr, hml, hown, hts, hlk, hK⟩ := id C0
  unfold f_M_init_289 at h
  refine lv_iconst (v := 0) hx hb d_M_init_289 (by decide) ?_
  refine lv_goto (tgt := 294) hx hb d_M_init_290 (by decide) ?_
  exact t_M_init_294 (a := a) C0 hin2 hA hk229 h hP hD hS (lv_sub hl [0, 1] rfl)
set_option maxHeartbeats 4000000 in
set_option maxRecDepth 100000 in
theorem t_M_init_270 {p : Program} {l : Launch} {e : Env} {s : State} {m : MethodId} {args : Array Value} {below : List Frame} {meth : Method} {c : Code} {D : va_G} {cI cZ : ClassId} {a : Nat → Nat} {A : Nat → Prop} (C0 : Am p s m args meth c b_M_init none 3 R_M D [(cI, .int), (cZ, .boolean)]) {kc ks : Nat} (hin2 : meth.name = "<init>") (hA : ∀ q, s.heap.size ≤ q → A q) {res : Int32 × StM} {k229 : StM → Int32 → Option (Int32 × StM)} (hk229 : ∀ (q : Nat) (σ : StM) (x2 : Int32) (H : Heap) (locs : List Loc) (ls : Array Slot), k229 σ x2 = some res → va_P D vwCl (wM cI cZ a q σ) H → va_D A (wM cI cZ a q σ) → va_S A s.heap H locs → lv_has ls 3 [(0, .ref (a 20)), (2, .int x2)] → W p l e (rmK 1 24 kc ks) s m args below meth c H locs kc ks (RwQv below args s D A (fun q (σ : StM) => (wM cI cZ a q σ)) res kc ks) (F0 m 229 ls []))  {q : Nat} {σ : StM} {x2 t1 t2 : Int32} (h : f_M_init_270 k229 σ x2 t1 t2 = some res) {H : Heap} {locs : List Loc} (hP : va_P D vwCl (wM cI cZ a q σ) H) (hD : va_D A (wM cI cZ a q σ)) (hS : va_S A s.heap H locs) {ls : Array Slot} (hl : lv_has ls 3 [(0, .ref (a 20)), (2, .int x2)]) : W p l e (rmK 1 24 kc ks) s m args below meth c H locs kc ks (RwQv below args s D A (fun q (σ : StM) => (wM cI cZ a q σ)) res kc ks) (F0 m 270 ls [.int t2, .int t1, .ref (a 22)]) := by
  obtain ⟨hx, hb, hr, hml, hown, hts, hlk, hK⟩ := id C0
  unfold f_M_init_270 at h
  replace h := gd h
  obtain ⟨hi, h⟩ := h
  refine rw_zast C0 hP hD hS 2 1 rfl rfl hi d_M_init_270 (Wn := (wM cI cZ a q (M_put_generic σ t1 (vp_nar .boolean t2)))) ws_M_put_generic (fun H locs hP hD hS => ?_)
  refine lv_iload_n hx hb d_M_init_271 rfl (lv_at hl 1 rfl) ?_
  refine lv_if_le (tgt := 298) hx hb d_M_init_272 (by decide) (fun hc => ?_) (fun hc => ?_)
  · rw [if_pos hc] at h
    exact t_M_init_298 (a := a) C0 hin2 hA hk229 h hP hD hS (lv_sub hl [0, 1] rfl)
  · rw [if_neg hc] at h
    refine lv_aload_n hx hb d_M_init_275 rfl (lv_at hl 0 rfl) ?_
    refine lv_iload_n hx hb d_M_init_276 rfl (lv_at hl 1 rfl) ?_
    refine lv_iload_n hx hb d_M_init_277 rfl (lv_at hl 1 rfl) ?_
    refine lv_bipush (v := 6) hx hb d_M_init_278 (by decide) ?_
    refine lv_icmp_lt (tgt := 289) hx hb d_M_init_280 (by decide) (fun hc => ?_) (fun hc => ?_)
    · rw [if_pos hc] at h
      exact t_M_init_289 (a := a) C0 hin2 hA hk229 h hP hD hS (lv_sub hl [0, 1] rfl)
    · rw [if_neg hc] at h
      refine lv_iload_n hx hb d_M_init_283 rfl (lv_at hl 1 rfl) ?_
      refine lv_bipush (v := 8) hx hb d_M_init_284 (by decide) ?_
      refine lv_icmp_ne (tgt := 293) hx hb d_M_init_286 (by decide) (fun hc => ?_) (fun hc => ?_)
      · rw [if_neg hc] at h
        refine lv_iconst (v := 4) hx hb d_M_init_293 (by decide) ?_
        exact t_M_init_294 (a := a) C0 hin2 hA hk229 h hP hD hS (lv_sub hl [0, 1] rfl)
      · rw [if_pos hc] at h
        exact t_M_init_289 (a := a) C0 hin2 hA hk229 h hP hD hS (lv_sub hl [0, 1] rfl)
set_option maxHeartbeats 4000000 in
set_option maxRecDepth 100000 in
theorem t_M_init_254 {p : Program} {l : Launch} {e : Env} {s : State} {m : MethodId} {args : Array Value} {below : List Frame} {meth : Method} {c : Code} {D : va_G} {cI cZ : ClassId} {a : Nat → Nat} {A : Nat → Prop} (C0 : Am p s m args meth c b_M_init none 3 R_M D [(cI, .int), (cZ, .boolean)]) {kc ks : Nat} (hin2 : meth.name = "<init>") (hA : ∀ q, s.heap.size ≤ q → A q) {res : Int32 × StM} {k229 : StM → Int32 → Option (Int32 × StM)} (hk229 : ∀ (q : Nat) (σ : StM) (x2 : Int32) (H : Heap) (locs : List Loc) (ls : Array Slot), k229 σ x2 = some res → va_P D vwCl (wM cI cZ a q σ) H → va_D A (wM cI cZ a q σ) → va_S A s.heap H locs → lv_has ls 3 [(0, .ref (a 20)), (2, .int x2)] → W p l e (rmK 1 24 kc ks) s m args below meth c H locs kc ks (RwQv below args s D A (fun q (σ : StM) => (wM cI cZ a q σ)) res kc ks) (F0 m 229 ls []))  {q : Nat} {σ : StM} {x2 t1 t2 : Int32} (h : f_M_init_254 k229 σ x2 t1 t2 = some res) {H : Heap} {locs : List Loc} (hP : va_P D vwCl (wM cI cZ a q σ) H) (hD : va_D A (wM cI cZ a q σ)) (hS : va_S A s.heap H locs) {ls : Array Slot} (hl : lv_has ls 3 [(0, .ref (a 20)), (2, .int x2)]) : W p l e (rmK 1 24 kc ks) s m args below meth c H locs kc ks (RwQv below args s D A (fun q (σ : StM) => (wM cI cZ a q σ)) res kc ks) (F0 m 254 ls [.int t2, .int t1, .ref (a 21)]) := by
  obtain ⟨hx, hb, hr, hml, hown, hts, hlk, hK⟩ := id C0
  unfold f_M_init_254 at h
  replace h := gd h
  obtain ⟨hi, h⟩ := h
  refine rw_zast C0 hP hD hS 1 1 rfl rfl hi d_M_init_254 (Wn := (wM cI cZ a q (M_put_face σ t1 (vp_nar .boolean t2)))) ws_M_put_face (fun H locs hP hD hS => ?_)
  refine lv_aload_n hx hb d_M_init_255 rfl (lv_at hl 0 rfl) ?_
  refine va_get (ci := 4) (v := .ref (a 22)) (C := R_M) (T := F_M) (N := 35) hx hb hts i_M hown hK.1 hP 0 rfl rfl 5 (by decide) (hts _ wd_393) (fun _ h9 => h9) rfl d_M_init_256 ?_
  refine lv_iload_n hx hb d_M_init_259 rfl (lv_at hl 1 rfl) ?_
  refine lv_iload_n hx hb d_M_init_260 rfl (lv_at hl 1 rfl) ?_
  refine lv_iconst (v := 3) hx hb d_M_init_261 (by decide) ?_
  refine lv_icmp_ne (tgt := 269) hx hb d_M_init_262 (by decide) (fun hc => ?_) (fun hc => ?_)
  · rw [if_neg hc] at h
    refine lv_iconst (v := 0) hx hb d_M_init_269 (by decide) ?_
    exact t_M_init_270 (a := a) C0 hin2 hA hk229 h hP hD hS (lv_sub hl [0, 1] rfl)
  · rw [if_pos hc] at h
    refine lv_iconst (v := 1) hx hb d_M_init_265 (by decide) ?_
    refine lv_goto (tgt := 270) hx hb d_M_init_266 (by decide) ?_
    exact t_M_init_270 (a := a) C0 hin2 hA hk229 h hP hD hS (lv_sub hl [0, 1] rfl)
set_option maxHeartbeats 4000000 in
set_option maxRecDepth 100000 in
theorem t_M_init_253 {p : Program} {l : Launch} {e : Env} {s : State} {m : MethodId} {args : Array Value} {below : List Frame} {meth : Method} {c : Code} {D : va_G} {cI cZ : ClassId} {a : Nat → Nat} {A : Nat → Prop} (C0 : Am p s m args meth c b_M_init none 3 R_M D [(cI, .int), (cZ, .boolean)]) {kc ks : Nat} (hin2 : meth.name = "<init>") (hA : ∀ q, s.heap.size ≤ q → A q) {res : Int32 × StM} {k229 : StM → Int32 → Option (Int32 × StM)} (hk229 : ∀ (q : Nat) (σ : StM) (x2 : Int32) (H : Heap) (locs : List Loc) (ls : Array Slot), k229 σ x2 = some res → va_P D vwCl (wM cI cZ a q σ) H → va_D A (wM cI cZ a q σ) → va_S A s.heap H locs → lv_has ls 3 [(0, .ref (a 20)), (2, .int x2)] → W p l e (rmK 1 24 kc ks) s m args below meth c H locs kc ks (RwQv below args s D A (fun q (σ : StM) => (wM cI cZ a q σ)) res kc ks) (F0 m 229 ls []))  {q : Nat} {σ : StM} {x2 t1 : Int32} (h : f_M_init_253 k229 σ x2 t1 = some res) {H : Heap} {locs : List Loc} (hP : va_P D vwCl (wM cI cZ a q σ) H) (hD : va_D A (wM cI cZ a q σ)) (hS : va_S A s.heap H locs) {ls : Array Slot} (hl : lv_has ls 3 [(0, .ref (a 20)), (2, .int x2)]) : W p l e (rmK 1 24 kc ks) s m args below meth c H locs kc ks (RwQv below args s D A (fun q (σ : StM) => (wM cI cZ a q σ)) res kc ks) (F0 m 253 ls [.int t1, .ref (a 21)]) := by
  obtain ⟨hx, hb, hr, hml, hown, hts, hlk, hK⟩ := id C0
  unfold f_M_init_253 at h
  refine lv_iconst (v := 0) hx hb d_M_init_253 (by decide) ?_
  exact t_M_init_254 (a := a) C0 hin2 hA hk229 h hP hD hS (lv_sub hl [0, 1] rfl)
set_option maxHeartbeats 4000000 in
set_option maxRecDepth 100000 in
theorem t_M_init_229_s {p : Program} {l : Launch} {e : Env} {s : State} {m : MethodId} {args : Array Value} {below : List Frame} {meth : Method} {c : Code} {D : va_G} {cI cZ : ClassId} {a : Nat → Nat} {A : Nat → Prop} (C0 : Am p s m args meth c b_M_init none 3 R_M D [(cI, .int), (cZ, .boolean)]) {kc ks : Nat} (hin2 : meth.name = "<init>") (hA : ∀ q, s.heap.size ≤ q → A q) {res : Int32 × StM} {k229 : StM → Int32 → Option (Int32 × StM)}  (hk229 : ∀ (q : Nat) (σ : StM) (x2 : Int32) (H : Heap) (locs : List Loc) (ls : Array Slot), k229 σ x2 = some res → va_P D vwCl (wM cI cZ a q σ) H → va_D A (wM cI cZ a q σ) → va_S A s.heap H locs → lv_has ls 3 [(0, .ref (a 20)), (2, .int x2)] → W p l e (rmK 1 24 kc ks) s m args below meth c H locs kc ks (RwQv below args s D A (fun q (σ : StM) => (wM cI cZ a q σ)) res kc ks) (F0 m 229 ls [])) {q : Nat} {σ : StM} {x2 : Int32} (h : f_M_init_229_s k229 σ x2 = some res) {H : Heap} {locs : List Loc} (hP : va_P D vwCl (wM cI cZ a q σ) H) (hD : va_D A (wM cI cZ a q σ)) (hS : va_S A s.heap H locs) {ls : Array Slot} (hl : lv_has ls 3 [(0, .ref (a 20)), (2, .int x2)]) : W p l e (rmK 1 24 kc ks) s m args below meth c H locs kc ks (RwQv below args s D A (fun q (σ : StM) => (wM cI cZ a q σ)) res kc ks) (F0 m 229 ls []) := by
  obtain ⟨hx, hb, hr, hml, hown, hts, hlk, hK⟩ := id C0
  unfold f_M_init_229_s at h
  refine lv_iload_n hx hb d_M_init_229 rfl (lv_at hl 1 rfl) ?_
  refine lv_bipush (v := 13) hx hb d_M_init_230 (by decide) ?_
  refine lv_icmp_ge (tgt := 330) hx hb d_M_init_232 (by decide) (fun hc => ?_) (fun hc => ?_)
  · rw [if_pos hc] at h
    refine lv_aload_n hx hb d_M_init_330 rfl (lv_at hl 0 rfl) ?_
    refine lv_bipush (v := 13) hx hb d_M_init_331 (by decide) ?_
    refine rw_put (v := .int 13) (fty := .int) (C := R_M) (T := F_M) (N := 35) C0 hP hD hS i_M ty_M tyok_M nn_M 0 rfl rfl 2 (by decide) (hts _ wd_343) rfl rfl (by decide +kernel) rfl rfl (Nat.le_of_ble_eq_true rfl) d_M_init_333 (Wn := (wM cI cZ a q (M_set_classes σ 13))) ws_M_set_classes (fun H locs hP hD hS => ?_)
    refine lv_aload_n hx hb d_M_init_336 rfl (lv_at hl 0 rfl) ?_
    refine lv_iconst (v := 1) hx hb d_M_init_337 (by decide) ?_
    refine rw_put (v := .int 1) (fty := .int) (C := R_M) (T := F_M) (N := 35) C0 hP hD hS i_M ty_M tyok_M nn_M 0 rfl rfl 3 (by decide) (hts _ wd_394) rfl rfl (by decide +kernel) rfl rfl (Nat.le_of_ble_eq_true rfl) d_M_init_338 (Wn := (wM cI cZ a q (M_set_generics (M_set_classes σ 13) 1))) ws_M_set_generics (fun H locs hP hD hS => ?_)
    refine lv_iconst (v := 0) hx hb d_M_init_341 (by decide) ?_
    refine lv_istore_n (lv' := [(2, .int 0), (0, .ref (a 20))]) hx hb d_M_init_342 rfl hl (by decide) rfl (fun ls hl => ?_)
    exact t_M_init_343 (a := a) C0 hin2 hA  h hP hD hS (lv_sub hl [1, 0] rfl)
  · rw [if_neg hc] at h
    refine lv_aload_n hx hb d_M_init_235 rfl (lv_at hl 0 rfl) ?_
    refine va_get (ci := 4) (v := .ref (a 21)) (C := R_M) (T := F_M) (N := 35) hx hb hts i_M hown hK.1 hP 0 rfl rfl 4 (by decide) (hts _ wd_392) (fun _ h9 => h9) rfl d_M_init_236 ?_
    refine lv_iload_n hx hb d_M_init_239 rfl (lv_at hl 1 rfl) ?_
    refine lv_iload_n hx hb d_M_init_240 rfl (lv_at hl 1 rfl) ?_
    refine lv_if_le (tgt := 253) hx hb d_M_init_241 (by decide) (fun hc => ?_) (fun hc => ?_)
    · rw [if_pos hc] at h
      exact t_M_init_253 (a := a) C0 hin2 hA hk229 h hP hD hS (lv_sub hl [0, 1] rfl)
    · rw [if_neg hc] at h
      refine lv_iload_n hx hb d_M_init_244 rfl (lv_at hl 1 rfl) ?_
      refine lv_iconst (v := 4) hx hb d_M_init_245 (by decide) ?_
      refine lv_icmp_ge (tgt := 253) hx hb d_M_init_246 (by decide) (fun hc => ?_) (fun hc => ?_)
      · rw [if_pos hc] at h
        exact t_M_init_253 (a := a) C0 hin2 hA hk229 h hP hD hS (lv_sub hl [0, 1] rfl)
      · rw [if_neg hc] at h
        refine lv_iconst (v := 1) hx hb d_M_init_249 (by decide) ?_
        refine lv_goto (tgt := 254) hx hb d_M_init_250 (by decide) ?_
        exact t_M_init_254 (a := a) C0 hin2 hA hk229 h hP hD hS (lv_sub hl [0, 1] rfl)
set_option maxHeartbeats 4000000 in
set_option maxRecDepth 100000 in
theorem t_M_init_229 {p : Program} {l : Launch} {e : Env} {s : State} {m : MethodId} {args : Array Value} {below : List Frame} {meth : Method} {c : Code} {D : va_G} {cI cZ : ClassId} {a : Nat → Nat} {A : Nat → Prop} (C0 : Am p s m args meth c b_M_init none 3 R_M D [(cI, .int), (cZ, .boolean)]) {kc ks : Nat} (hin2 : meth.name = "<init>") (hA : ∀ q, s.heap.size ≤ q → A q) {res : Int32 × StM}  {n : Nat} {q : Nat} {σ : StM} {x2 : Int32} (h : f_M_init_229  n σ x2 = some res) {H : Heap} {locs : List Loc} (hP : va_P D vwCl (wM cI cZ a q σ) H) (hD : va_D A (wM cI cZ a q σ)) (hS : va_S A s.heap H locs) {ls : Array Slot} (hl : lv_has ls 3 [(0, .ref (a 20)), (2, .int x2)]) : W p l e (rmK 1 24 kc ks) s m args below meth c H locs kc ks (RwQv below args s D A (fun q (σ : StM) => (wM cI cZ a q σ)) res kc ks) (F0 m 229 ls []) := by
  induction n generalizing q σ x2 H locs ls with
  | zero => cases h
  | succ n ih => exact t_M_init_229_s (a := a) C0 hin2 hA  (fun _ _ _ _ _ _ h hP hD hS hl => ih h hP hD hS hl) h hP hD hS hl
set_option maxHeartbeats 4000000 in
set_option maxRecDepth 100000 in
theorem t_M_init_205 {p : Program} {l : Launch} {e : Env} {s : State} {m : MethodId} {args : Array Value} {below : List Frame} {meth : Method} {c : Code} {D : va_G} {cI cZ : ClassId} {a : Nat → Nat} {A : Nat → Prop} (C0 : Am p s m args meth c b_M_init none 3 R_M D [(cI, .int), (cZ, .boolean)]) {kc ks : Nat} (hin2 : meth.name = "<init>") (hA : ∀ q, s.heap.size ≤ q → A q) {res : Int32 × StM}   {q : Nat} {σ : StM} {x1 : Int32} (h : f_M_init_205 σ x1 = some res) {H : Heap} {locs : List Loc} (hP : va_P D vwCl (wM cI cZ a q σ) H) (hD : va_D A (wM cI cZ a q σ)) (hS : va_S A s.heap H locs) {ls : Array Slot} (hl : lv_has ls 3 [(0, .ref (a 20)), (1, .int x1)]) : W p l e (rmK 1 24 kc ks) s m args below meth c H locs kc ks (RwQv below args s D A (fun q (σ : StM) => (wM cI cZ a q σ)) res kc ks) (F0 m 205 ls []) := by
  obtain ⟨hx, hb, hr, hml, hown, hts, hlk, hK⟩ := id C0
  unfold f_M_init_205 at h
  refine lv_aload_n hx hb d_M_init_205 rfl (lv_at hl 0 rfl) ?_
  refine lv_iload_n hx hb d_M_init_206 rfl (lv_at hl 1 rfl) ?_
  refine lv_if_ge (tgt := 214) hx hb d_M_init_207 (by decide) (fun hc => ?_) (fun hc => ?_)
  · rw [if_pos hc] at h
    refine lv_iload_n hx hb d_M_init_214 rfl (lv_at hl 1 rfl) ?_
    refine lv_iconst (v := 2) hx hb d_M_init_215 (by decide) ?_
    refine lv_icmp_le (tgt := 223) hx hb d_M_init_216 (by decide) (fun hc => ?_) (fun hc => ?_)
    · rw [if_pos hc] at h
      refine lv_iload_n hx hb d_M_init_223 rfl (lv_at hl 1 rfl) ?_
      refine rw_putF (v := .int x1) (fty := .int) (C := R_M) (T := F_M) (N := 35) C0 hin2 hP hD hS i_M ty_M tyok_M nn_M 0 rfl rfl 1 (by decide) (hts _ wd_418) rfl rfl rfl (by decide +kernel) rfl rfl (Nat.le_of_ble_eq_true rfl) d_M_init_224 (Wn := (wM cI cZ a q (M_set_depth σ x1))) ws_M_set_depth (fun H locs hP hD hS => ?_)
      refine lv_iconst (v := 0) hx hb d_M_init_227 (by decide) ?_
      refine lv_istore_n (lv' := [(2, .int 0), (0, .ref (a 20)), (1, .int x1)]) hx hb d_M_init_228 rfl hl (by decide) rfl (fun ls hl => ?_)
      exact t_M_init_229 (a := a) C0 hin2 hA  h hP hD hS (lv_sub hl [1, 0] rfl)
    · rw [if_neg hc] at h
      refine lv_iconst (v := 2) hx hb d_M_init_219 (by decide) ?_
      refine lv_goto (tgt := 224) hx hb d_M_init_220 (by decide) ?_
      refine rw_putF (v := .int 2) (fty := .int) (C := R_M) (T := F_M) (N := 35) C0 hin2 hP hD hS i_M ty_M tyok_M nn_M 0 rfl rfl 1 (by decide) (hts _ wd_418) rfl rfl rfl (by decide +kernel) rfl rfl (Nat.le_of_ble_eq_true rfl) d_M_init_224 (Wn := (wM cI cZ a q (M_set_depth σ 2))) ws_M_set_depth (fun H locs hP hD hS => ?_)
      refine lv_iconst (v := 0) hx hb d_M_init_227 (by decide) ?_
      refine lv_istore_n (lv' := [(2, .int 0), (0, .ref (a 20)), (1, .int x1)]) hx hb d_M_init_228 rfl hl (by decide) rfl (fun ls hl => ?_)
      exact t_M_init_229 (a := a) C0 hin2 hA  h hP hD hS (lv_sub hl [1, 0] rfl)
  · rw [if_neg hc] at h
    refine lv_iconst (v := 0) hx hb d_M_init_210 (by decide) ?_
    refine lv_goto (tgt := 224) hx hb d_M_init_211 (by decide) ?_
    refine rw_putF (v := .int 0) (fty := .int) (C := R_M) (T := F_M) (N := 35) C0 hin2 hP hD hS i_M ty_M tyok_M nn_M 0 rfl rfl 1 (by decide) (hts _ wd_418) rfl rfl rfl (by decide +kernel) rfl rfl (Nat.le_of_ble_eq_true rfl) d_M_init_224 (Wn := (wM cI cZ a q (M_set_depth σ 0))) ws_M_set_depth (fun H locs hP hD hS => ?_)
    refine lv_iconst (v := 0) hx hb d_M_init_227 (by decide) ?_
    refine lv_istore_n (lv' := [(2, .int 0), (0, .ref (a 20)), (1, .int x1)]) hx hb d_M_init_228 rfl hl (by decide) rfl (fun ls hl => ?_)
    exact t_M_init_229 (a := a) C0 hin2 hA  h hP hD hS (lv_sub hl [1, 0] rfl)
