def f_M_addBoth_228 (σ : StM) : Option (Int32 × StM) :=
  some (0, (M_set_full σ 1))
def f_M_addBoth_297_s (k297 : StM → Int32 → Int32 → Option (Int32 × StM)) (σ : StM) (x1 x3 : Int32) : Option (Int32 × StM) :=
  if x1 ≤ x3 then
    some (((M_types (M_set_types σ ((M_types σ) + 1))) - 1), (M_set_types σ ((M_types σ) + 1)))
  else
    if x3 < 0 ∨ 64 ≤ x3.toNatClampNeg then none else
    if ((30 * (M_types σ)) + x3) < 0 ∨ 9000 ≤ ((30 * (M_types σ)) + x3).toNatClampNeg then none else
    k297 (M_put_partRow σ ((30 * (M_types σ)) + x3) ((M_row σ) x3.toNatClampNeg)) x1 (x3 + 1)
def f_M_addBoth_297 : Nat → StM → Int32 → Int32 → Option (Int32 × StM)
  | 0, _, _, _ => none
  | n + 1, σ, x1, x3 => f_M_addBoth_297_s (f_M_addBoth_297 n) σ x1 x3
def f_M_addBoth_199 (k115 : StM → Int32 → Int32 → Int32 → Option (Int32 × StM)) (σ : StM) (x1 x2 x3 x4 : Int32) : Option (Int32 × StM) :=
  if x4 = 0 then
    k115 σ x1 x2 (x3 + 1)
  else
    some (x3, σ)
def f_M_addBoth_153_s (k115 : StM → Int32 → Int32 → Int32 → Option (Int32 × StM)) (k153 : StM → Int32 → Int32 → Int32 → Int32 → Int32 → Option (Int32 × StM)) (σ : StM) (x1 x2 x3 x4 x5 : Int32) : Option (Int32 × StM) :=
  if x1 ≤ x5 then
    f_M_addBoth_199 k115 σ x1 x2 x3 x4
  else
    if x4 = 0 then
      f_M_addBoth_199 k115 σ x1 x2 x3 x4
    else
      if ((30 * x3) + x5) < 0 ∨ 9000 ≤ ((30 * x3) + x5).toNatClampNeg then none else
      if x5 < 0 ∨ 64 ≤ x5.toNatClampNeg then none else
      if ((M_partRow σ) ((30 * x3) + x5).toNatClampNeg) = ((M_row σ) x5.toNatClampNeg) then
        k153 σ x1 x2 x3 1 (x5 + 1)
      else
        k153 σ x1 x2 x3 0 (x5 + 1)
def f_M_addBoth_153 (k115 : StM → Int32 → Int32 → Int32 → Option (Int32 × StM)) : Nat → StM → Int32 → Int32 → Int32 → Int32 → Int32 → Option (Int32 × StM)
  | 0, _, _, _, _, _, _ => none
  | n + 1, σ, x1, x2, x3, x4, x5 => f_M_addBoth_153_s k115 (f_M_addBoth_153 k115 n) σ x1 x2 x3 x4 x5
def f_M_addBoth_115_s (k115 : StM → Int32 → Int32 → Int32 → Option (Int32 × StM)) (σ : StM) (x1 x2 x3 : Int32) : Option (Int32 × StM) :=
  if (M_types σ) ≤ x3 then
    if (M_types σ) = 300 then
      f_M_addBoth_228 σ
    else
      if x2 ≤ 100 then
        if (M_types σ) < 0 ∨ 300 ≤ (M_types σ).toNatClampNeg then none else
        if (M_types (M_put_kind σ (M_types σ) 3)) < 0 ∨ 300 ≤ (M_types (M_put_kind σ (M_types σ) 3)).toNatClampNeg then none else
        if (M_types (M_put_classOf (M_put_kind σ (M_types σ) 3) (M_types (M_put_kind σ (M_types σ) 3)) (-1))) < 0 ∨ 300 ≤ (M_types (M_put_classOf (M_put_kind σ (M_types σ) 3) (M_types (M_put_kind σ (M_types σ) 3)) (-1))).toNatClampNeg then none else
        if (M_types (M_put_how (M_put_classOf (M_put_kind σ (M_types σ) 3) (M_types (M_put_kind σ (M_types σ) 3)) (-1)) (M_types (M_put_classOf (M_put_kind σ (M_types σ) 3) (M_types (M_put_kind σ (M_types σ) 3)) (-1))) (-1))) < 0 ∨ 300 ≤ (M_types (M_put_how (M_put_classOf (M_put_kind σ (M_types σ) 3) (M_types (M_put_kind σ (M_types σ) 3)) (-1)) (M_types (M_put_classOf (M_put_kind σ (M_types σ) 3) (M_types (M_put_kind σ (M_types σ) 3)) (-1))) (-1))).toNatClampNeg then none else
        if (M_types (M_put_inner (M_put_how (M_put_classOf (M_put_kind σ (M_types σ) 3) (M_types (M_put_kind σ (M_types σ) 3)) (-1)) (M_types (M_put_classOf (M_put_kind σ (M_types σ) 3) (M_types (M_put_kind σ (M_types σ) 3)) (-1))) (-1)) (M_types (M_put_how (M_put_classOf (M_put_kind σ (M_types σ) 3) (M_types (M_put_kind σ (M_types σ) 3)) (-1)) (M_types (M_put_classOf (M_put_kind σ (M_types σ) 3) (M_types (M_put_kind σ (M_types σ) 3)) (-1))) (-1))) (-1))) < 0 ∨ 300 ≤ (M_types (M_put_inner (M_put_how (M_put_classOf (M_put_kind σ (M_types σ) 3) (M_types (M_put_kind σ (M_types σ) 3)) (-1)) (M_types (M_put_classOf (M_put_kind σ (M_types σ) 3) (M_types (M_put_kind σ (M_types σ) 3)) (-1))) (-1)) (M_types (M_put_how (M_put_classOf (M_put_kind σ (M_types σ) 3) (M_types (M_put_kind σ (M_types σ) 3)) (-1)) (M_types (M_put_classOf (M_put_kind σ (M_types σ) 3) (M_types (M_put_kind σ (M_types σ) 3)) (-1))) (-1))) (-1))).toNatClampNeg then none else
        if (M_types (M_put_made (M_put_inner (M_put_how (M_put_classOf (M_put_kind σ (M_types σ) 3) (M_types (M_put_kind σ (M_types σ) 3)) (-1)) (M_types (M_put_classOf (M_put_kind σ (M_types σ) 3) (M_types (M_put_kind σ (M_types σ) 3)) (-1))) (-1)) (M_types (M_put_how (M_put_classOf (M_put_kind σ (M_types σ) 3) (M_types (M_put_kind σ (M_types σ) 3)) (-1)) (M_types (M_put_classOf (M_put_kind σ (M_types σ) 3) (M_types (M_put_kind σ (M_types σ) 3)) (-1))) (-1))) (-1)) (M_types (M_put_inner (M_put_how (M_put_classOf (M_put_kind σ (M_types σ) 3) (M_types (M_put_kind σ (M_types σ) 3)) (-1)) (M_types (M_put_classOf (M_put_kind σ (M_types σ) 3) (M_types (M_put_kind σ (M_types σ) 3)) (-1))) (-1)) (M_types (M_put_how (M_put_classOf (M_put_kind σ (M_types σ) 3) (M_types (M_put_kind σ (M_types σ) 3)) (-1)) (M_types (M_put_classOf (M_put_kind σ (M_types σ) 3) (M_types (M_put_kind σ (M_types σ) 3)) (-1))) (-1))) (-1))) x2)) < 0 ∨ 300 ≤ (M_types (M_put_made (M_put_inner (M_put_how (M_put_classOf (M_put_kind σ (M_types σ) 3) (M_types (M_put_kind σ (M_types σ) 3)) (-1)) (M_types (M_put_classOf (M_put_kind σ (M_types σ) 3) (M_types (M_put_kind σ (M_types σ) 3)) (-1))) (-1)) (M_types (M_put_how (M_put_classOf (M_put_kind σ (M_types σ) 3) (M_types (M_put_kind σ (M_types σ) 3)) (-1)) (M_types (M_put_classOf (M_put_kind σ (M_types σ) 3) (M_types (M_put_kind σ (M_types σ) 3)) (-1))) (-1))) (-1)) (M_types (M_put_inner (M_put_how (M_put_classOf (M_put_kind σ (M_types σ) 3) (M_types (M_put_kind σ (M_types σ) 3)) (-1)) (M_types (M_put_classOf (M_put_kind σ (M_types σ) 3) (M_types (M_put_kind σ (M_types σ) 3)) (-1))) (-1)) (M_types (M_put_how (M_put_classOf (M_put_kind σ (M_types σ) 3) (M_types (M_put_kind σ (M_types σ) 3)) (-1)) (M_types (M_put_classOf (M_put_kind σ (M_types σ) 3) (M_types (M_put_kind σ (M_types σ) 3)) (-1))) (-1))) (-1))) x2)).toNatClampNeg then none else
        f_M_addBoth_297 1000 (M_put_partCount (M_put_made (M_put_inner (M_put_how (M_put_classOf (M_put_kind σ (M_types σ) 3) (M_types (M_put_kind σ (M_types σ) 3)) (-1)) (M_types (M_put_classOf (M_put_kind σ (M_types σ) 3) (M_types (M_put_kind σ (M_types σ) 3)) (-1))) (-1)) (M_types (M_put_how (M_put_classOf (M_put_kind σ (M_types σ) 3) (M_types (M_put_kind σ (M_types σ) 3)) (-1)) (M_types (M_put_classOf (M_put_kind σ (M_types σ) 3) (M_types (M_put_kind σ (M_types σ) 3)) (-1))) (-1))) (-1)) (M_types (M_put_inner (M_put_how (M_put_classOf (M_put_kind σ (M_types σ) 3) (M_types (M_put_kind σ (M_types σ) 3)) (-1)) (M_types (M_put_classOf (M_put_kind σ (M_types σ) 3) (M_types (M_put_kind σ (M_types σ) 3)) (-1))) (-1)) (M_types (M_put_how (M_put_classOf (M_put_kind σ (M_types σ) 3) (M_types (M_put_kind σ (M_types σ) 3)) (-1)) (M_types (M_put_classOf (M_put_kind σ (M_types σ) 3) (M_types (M_put_kind σ (M_types σ) 3)) (-1))) (-1))) (-1))) x2) (M_types (M_put_made (M_put_inner (M_put_how (M_put_classOf (M_put_kind σ (M_types σ) 3) (M_types (M_put_kind σ (M_types σ) 3)) (-1)) (M_types (M_put_classOf (M_put_kind σ (M_types σ) 3) (M_types (M_put_kind σ (M_types σ) 3)) (-1))) (-1)) (M_types (M_put_how (M_put_classOf (M_put_kind σ (M_types σ) 3) (M_types (M_put_kind σ (M_types σ) 3)) (-1)) (M_types (M_put_classOf (M_put_kind σ (M_types σ) 3) (M_types (M_put_kind σ (M_types σ) 3)) (-1))) (-1))) (-1)) (M_types (M_put_inner (M_put_how (M_put_classOf (M_put_kind σ (M_types σ) 3) (M_types (M_put_kind σ (M_types σ) 3)) (-1)) (M_types (M_put_classOf (M_put_kind σ (M_types σ) 3) (M_types (M_put_kind σ (M_types σ) 3)) (-1))) (-1)) (M_types (M_put_how (M_put_classOf (M_put_kind σ (M_types σ) 3) (M_types (M_put_kind σ (M_types σ) 3)) (-1)) (M_types (M_put_classOf (M_put_kind σ (M_types σ) 3) (M_types (M_put_kind σ (M_types σ) 3)) (-1))) (-1))) (-1))) x2)) x1) x1 0
      else
        f_M_addBoth_228 σ
  else
    if x3 < 0 ∨ 300 ≤ x3.toNatClampNeg then none else
    if ((M_kind σ) x3.toNatClampNeg) = 3 then
      if x3 < 0 ∨ 300 ≤ x3.toNatClampNeg then none else
      if ((M_partCount σ) x3.toNatClampNeg) = x1 then
        f_M_addBoth_153 k115 1000 σ x1 x2 x3 1 0
      else
        f_M_addBoth_153 k115 1000 σ x1 x2 x3 0 0
    else
      f_M_addBoth_153 k115 1000 σ x1 x2 x3 0 0
def f_M_addBoth_115 : Nat → StM → Int32 → Int32 → Int32 → Option (Int32 × StM)
  | 0, _, _, _, _ => none
  | n + 1, σ, x1, x2, x3 => f_M_addBoth_115_s (f_M_addBoth_115 n) σ x1 x2 x3
def f_M_addBoth_88_s (k88 : StM → Int32 → Int32 → Int32 → Option (Int32 × StM)) (σ : StM) (x1 x2 x3 : Int32) : Option (Int32 × StM) :=
  if x1 ≤ x3 then
    f_M_addBoth_115 1000 σ x1 x2 0
  else
    if x3 < 0 ∨ 64 ≤ x3.toNatClampNeg then none else
    if ((M_row σ) x3.toNatClampNeg) < 0 ∨ 300 ≤ ((M_row σ) x3.toNatClampNeg).toNatClampNeg then none else
    k88 σ x1 (x2 + ((M_made σ) ((M_row σ) x3.toNatClampNeg).toNatClampNeg)) (x3 + 1)
def f_M_addBoth_88 : Nat → StM → Int32 → Int32 → Int32 → Option (Int32 × StM)
  | 0, _, _, _, _ => none
  | n + 1, σ, x1, x2, x3 => f_M_addBoth_88_s (f_M_addBoth_88 n) σ x1 x2 x3
def f_M_addBoth_9_s (k2 : StM → Int32 → Int32 → Option (Int32 × StM)) (k9 : StM → Int32 → Int32 → Int32 → Option (Int32 × StM)) (σ : StM) (x1 x2 x3 : Int32) : Option (Int32 × StM) :=
  if x3 ≤ 0 then
    k2 σ x1 (x2 + 1)
  else
    if (x3 - 1) < 0 ∨ 64 ≤ (x3 - 1).toNatClampNeg then none else
    if ((M_row σ) (x3 - 1).toNatClampNeg) < 0 ∨ 300 ≤ ((M_row σ) (x3 - 1).toNatClampNeg).toNatClampNeg then none else
    if x3 < 0 ∨ 64 ≤ x3.toNatClampNeg then none else
    if ((M_row σ) x3.toNatClampNeg) < 0 ∨ 300 ≤ ((M_row σ) x3.toNatClampNeg).toNatClampNeg then none else
    if ((M_classOf σ) ((M_row σ) (x3 - 1).toNatClampNeg).toNatClampNeg) ≤ ((M_classOf σ) ((M_row σ) x3.toNatClampNeg).toNatClampNeg) then
      k2 σ x1 (x2 + 1)
    else
      if x3 < 0 ∨ 64 ≤ x3.toNatClampNeg then none else
      if (x3 - 1) < 0 ∨ 64 ≤ (x3 - 1).toNatClampNeg then none else
      if x3 < 0 ∨ 64 ≤ x3.toNatClampNeg then none else
      if (x3 - 1) < 0 ∨ 64 ≤ (x3 - 1).toNatClampNeg then none else
      k9 (M_put_row (M_put_row σ x3 ((M_row σ) (x3 - 1).toNatClampNeg)) (x3 - 1) ((M_row σ) x3.toNatClampNeg)) x1 x2 (x3 + (-1))
def f_M_addBoth_9 (k2 : StM → Int32 → Int32 → Option (Int32 × StM)) : Nat → StM → Int32 → Int32 → Int32 → Option (Int32 × StM)
  | 0, _, _, _, _ => none
  | n + 1, σ, x1, x2, x3 => f_M_addBoth_9_s k2 (f_M_addBoth_9 k2 n) σ x1 x2 x3
def f_M_addBoth_2_s (k2 : StM → Int32 → Int32 → Option (Int32 × StM)) (σ : StM) (x1 x2 : Int32) : Option (Int32 × StM) :=
  if x1 ≤ x2 then
    f_M_addBoth_88 1000 σ x1 1 0
  else
    f_M_addBoth_9 k2 1000 σ x1 x2 x2
def f_M_addBoth_2 : Nat → StM → Int32 → Int32 → Option (Int32 × StM)
  | 0, _, _, _ => none
  | n + 1, σ, x1, x2 => f_M_addBoth_2_s (f_M_addBoth_2 n) σ x1 x2
def f_M_addBoth (σ : StM) (x1 : Int32) : Option (Int32 × StM) :=
  f_M_addBoth_2 1000 σ x1 1
set_option maxHeartbeats 4000000 in
set_option maxRecDepth 100000 in
theorem t_M_addBoth_228 {p : Program} {l : Launch} {e : Env} {s : State} {m : MethodId} {args : Array Value} {below : List Frame} {meth : Method} {c : Code} {D : va_G} {cI cZ : ClassId} {a : Nat → Nat} {A : Nat → Prop} (C0 : Am p s m args meth c b_M_addBoth (some .int) 6 R_M D [(cI, .int), (cZ, .boolean)]) (hA : ∀ q, s.heap.size ≤ q → A q) {res : Int32 × StM}   {q : Nat} {σ : StM} (h : f_M_addBoth_228 σ = some res) {H : Heap} {locs : List Loc} (hP : va_P D vwCl (wM cI cZ a q σ) H) (hD : va_D A (wM cI cZ a q σ)) (hS : va_S A s.heap H locs) {ls : Array Slot} (hl : lv_has ls 6 [(0, .ref (a 20))]) : W p l e (rmK 0 0 0 0) s m args below meth c H locs 0 0 (RwQ below args s D A (fun q (σ : StM) => (wM cI cZ a q σ)) res 0 0) (F0 m 228 ls []) := by
  obtain ⟨hx, hb, hr, hml, hown, hts, hlk, hK⟩ := id C0
  unfold f_M_addBoth_228 at h
  refine lv_aload_n hx hb d_M_addBoth_228 rfl (lv_at hl 0 rfl) ?_
  refine lv_iconst (v := 1) hx hb d_M_addBoth_229 (by decide) ?_
  refine rw_put (v := .int 1) (fty := .boolean) (C := R_M) (T := F_M) (N := 35) C0 hP hD hS i_M ty_M tyok_M nn_M 0 rfl rfl 18 (by decide) (hts _ wd_364) rfl rfl (by decide +kernel) rfl rfl (Nat.le_of_ble_eq_true rfl) d_M_addBoth_230 (Wn := (wM cI cZ a q (M_set_full σ 1))) ws_M_set_full (fun H locs hP hD hS => ?_)
  refine lv_iconst (v := 0) hx hb d_M_addBoth_233 (by decide) ?_
  exact rw_ret C0 hP hD hS (Option.some.inj h) d_M_addBoth_234
set_option maxHeartbeats 4000000 in
set_option maxRecDepth 100000 in
theorem t_M_addBoth_297_s {p : Program} {l : Launch} {e : Env} {s : State} {m : MethodId} {args : Array Value} {below : List Frame} {meth : Method} {c : Code} {D : va_G} {cI cZ : ClassId} {a : Nat → Nat} {A : Nat → Prop} (C0 : Am p s m args meth c b_M_addBoth (some .int) 6 R_M D [(cI, .int), (cZ, .boolean)]) (hA : ∀ q, s.heap.size ≤ q → A q) {res : Int32 × StM} {k297 : StM → Int32 → Int32 → Option (Int32 × StM)}  (hk297 : ∀ (q : Nat) (σ : StM) (x1 x3 : Int32) (H : Heap) (locs : List Loc) (ls : Array Slot), k297 σ x1 x3 = some res → va_P D vwCl (wM cI cZ a q σ) H → va_D A (wM cI cZ a q σ) → va_S A s.heap H locs → lv_has ls 6 [(0, .ref (a 20)), (1, .int x1), (3, .int x3)] → W p l e (rmK 0 0 0 0) s m args below meth c H locs 0 0 (RwQ below args s D A (fun q (σ : StM) => (wM cI cZ a q σ)) res 0 0) (F0 m 297 ls [])) {q : Nat} {σ : StM} {x1 x3 : Int32} (h : f_M_addBoth_297_s k297 σ x1 x3 = some res) {H : Heap} {locs : List Loc} (hP : va_P D vwCl (wM cI cZ a q σ) H) (hD : va_D A (wM cI cZ a q σ)) (hS : va_S A s.heap H locs) {ls : Array Slot} (hl : lv_has ls 6 [(0, .ref (a 20)), (1, .int x1), (3, .int x3)]) : W p l e (rmK 0 0 0 0) s m args below meth c H locs 0 0 (RwQ below args s D A (fun q (σ : StM) => (wM cI cZ a q σ)) res 0 0) (F0 m 297 ls []) := by
  obtain ⟨hx, hb, hr, hml, hown, hts, hlk, hK⟩ := id C0
  unfold f_M_addBoth_297_s at h
  refine lv_iload_n hx hb d_M_addBoth_297 rfl (lv_at hl 2 rfl) ?_
  refine lv_iload_n hx hb d_M_addBoth_298 rfl (lv_at hl 1 rfl) ?_
  refine lv_icmp_ge (tgt := 328) hx hb d_M_addBoth_299 (by decide) (fun hc => ?_) (fun hc => ?_)
  · rw [if_pos hc] at h
    refine lv_aload_n hx hb d_M_addBoth_328 rfl (lv_at hl 0 rfl) ?_
    refine lv_dup hx hb d_M_addBoth_329 rfl ?_
    refine va_get (ci := 4) (v := .int (M_types σ)) (C := R_M) (T := F_M) (N := 35) hx hb hts i_M hown hK.1 hP 0 rfl rfl 10 (by decide) (hts _ wd_344) (fun _ h9 => h9) rfl d_M_addBoth_330 ?_
    refine lv_iconst (v := 1) hx hb d_M_addBoth_333 (by decide) ?_
    refine lv_iadd hx hb d_M_addBoth_334 ?_
    refine rw_put (v := .int ((M_types σ) + 1)) (fty := .int) (C := R_M) (T := F_M) (N := 35) C0 hP hD hS i_M ty_M tyok_M nn_M 0 rfl rfl 10 (by decide) (hts _ wd_344) rfl rfl (by decide +kernel) rfl rfl (Nat.le_of_ble_eq_true rfl) d_M_addBoth_335 (Wn := (wM cI cZ a q (M_set_types σ ((M_types σ) + 1)))) ws_M_set_types (fun H locs hP hD hS => ?_)
    refine lv_aload_n hx hb d_M_addBoth_338 rfl (lv_at hl 0 rfl) ?_
    refine va_get (ci := 4) (v := .int (M_types (M_set_types σ ((M_types σ) + 1)))) (C := R_M) (T := F_M) (N := 35) hx hb hts i_M hown hK.1 hP 0 rfl rfl 10 (by decide) (hts _ wd_344) (fun _ h9 => h9) rfl d_M_addBoth_339 ?_
    refine lv_iconst (v := 1) hx hb d_M_addBoth_342 (by decide) ?_
    refine lv_isub hx hb d_M_addBoth_343 ?_
    exact rw_ret C0 hP hD hS (Option.some.inj h) d_M_addBoth_344
  · rw [if_neg hc] at h
    refine lv_aload_n hx hb d_M_addBoth_302 rfl (lv_at hl 0 rfl) ?_
    refine va_get (ci := 4) (v := .ref (a 33)) (C := R_M) (T := F_M) (N := 35) hx hb hts i_M hown hK.1 hP 0 rfl rfl 17 (by decide) (hts _ wd_355) (fun _ h9 => h9) rfl d_M_addBoth_303 ?_
    refine lv_bipush (v := 30) hx hb d_M_addBoth_306 (by decide) ?_
    refine lv_aload_n hx hb d_M_addBoth_308 rfl (lv_at hl 0 rfl) ?_
    refine va_get (ci := 4) (v := .int (M_types σ)) (C := R_M) (T := F_M) (N := 35) hx hb hts i_M hown hK.1 hP 0 rfl rfl 10 (by decide) (hts _ wd_344) (fun _ h9 => h9) rfl d_M_addBoth_309 ?_
    refine lv_imul hx hb d_M_addBoth_312 ?_
    refine lv_iload_n hx hb d_M_addBoth_313 rfl (lv_at hl 2 rfl) ?_
    refine lv_iadd hx hb d_M_addBoth_314 ?_
    refine lv_aload_n hx hb d_M_addBoth_315 rfl (lv_at hl 0 rfl) ?_
    refine va_get (ci := 4) (v := .ref (a 34)) (C := R_M) (T := F_M) (N := 35) hx hb hts i_M hown hK.1 hP 0 rfl rfl 22 (by decide) (hts _ wd_369) (fun _ h9 => h9) rfl d_M_addBoth_316 ?_
    refine lv_iload_n hx hb d_M_addBoth_319 rfl (lv_at hl 2 rfl) ?_
    replace h := gd h
    obtain ⟨hi, h⟩ := h
    refine va_iald hx hb hK.1 hP 14 0 rfl rfl hi d_M_addBoth_320 ?_
    replace h := gd h
    obtain ⟨hi, h⟩ := h
    refine rw_iast C0 hP hD hS 13 0 rfl rfl hi d_M_addBoth_321 (Wn := (wM cI cZ a q (M_put_partRow σ ((30 * (M_types σ)) + x3) ((M_row σ) x3.toNatClampNeg)))) ws_M_put_partRow (fun H locs hP hD hS => ?_)
    refine lv_iinc (v := (x3 + 1)) (lv' := [(3, .int (x3 + 1)), (0, .ref (a 20)), (1, .int x1)]) hx hb d_M_addBoth_322 hl (k := 2) rfl rfl (by decide) rfl (fun ls hl => ?_)
    refine lv_goto (tgt := 297) hx hb d_M_addBoth_325 (by decide) ?_
    exact hk297 _ _ _ _ _ _ _ h hP hD hS (lv_sub hl [1, 2, 0] rfl)
set_option maxHeartbeats 4000000 in
set_option maxRecDepth 100000 in
theorem t_M_addBoth_297 {p : Program} {l : Launch} {e : Env} {s : State} {m : MethodId} {args : Array Value} {below : List Frame} {meth : Method} {c : Code} {D : va_G} {cI cZ : ClassId} {a : Nat → Nat} {A : Nat → Prop} (C0 : Am p s m args meth c b_M_addBoth (some .int) 6 R_M D [(cI, .int), (cZ, .boolean)]) (hA : ∀ q, s.heap.size ≤ q → A q) {res : Int32 × StM}  {n : Nat} {q : Nat} {σ : StM} {x1 x3 : Int32} (h : f_M_addBoth_297  n σ x1 x3 = some res) {H : Heap} {locs : List Loc} (hP : va_P D vwCl (wM cI cZ a q σ) H) (hD : va_D A (wM cI cZ a q σ)) (hS : va_S A s.heap H locs) {ls : Array Slot} (hl : lv_has ls 6 [(0, .ref (a 20)), (1, .int x1), (3, .int x3)]) : W p l e (rmK 0 0 0 0) s m args below meth c H locs 0 0 (RwQ below args s D A (fun q (σ : StM) => (wM cI cZ a q σ)) res 0 0) (F0 m 297 ls []) := by
  induction n generalizing q σ x1 x3 H locs ls with
  | zero => cases h
  | succ n ih => exact t_M_addBoth_297_s (a := a) C0 hA  (fun _ _ _ _ _ _ _ h hP hD hS hl => ih h hP hD hS hl) h hP hD hS hl
set_option maxHeartbeats 4000000 in
set_option maxRecDepth 100000 in
theorem t_M_addBoth_199 {p : Program} {l : Launch} {e : Env} {s : State} {m : MethodId} {args : Array Value} {below : List Frame} {meth : Method} {c : Code} {D : va_G} {cI cZ : ClassId} {a : Nat → Nat} {A : Nat → Prop} (C0 : Am p s m args meth c b_M_addBoth (some .int) 6 R_M D [(cI, .int), (cZ, .boolean)]) (hA : ∀ q, s.heap.size ≤ q → A q) {res : Int32 × StM} {k115 : StM → Int32 → Int32 → Int32 → Option (Int32 × StM)} (hk115 : ∀ (q : Nat) (σ : StM) (x1 x2 x3 : Int32) (H : Heap) (locs : List Loc) (ls : Array Slot), k115 σ x1 x2 x3 = some res → va_P D vwCl (wM cI cZ a q σ) H → va_D A (wM cI cZ a q σ) → va_S A s.heap H locs → lv_has ls 6 [(0, .ref (a 20)), (1, .int x1), (2, .int x2), (3, .int x3)] → W p l e (rmK 0 0 0 0) s m args below meth c H locs 0 0 (RwQ below args s D A (fun q (σ : StM) => (wM cI cZ a q σ)) res 0 0) (F0 m 115 ls []))  {q : Nat} {σ : StM} {x1 x2 x3 x4 : Int32} (h : f_M_addBoth_199 k115 σ x1 x2 x3 x4 = some res) {H : Heap} {locs : List Loc} (hP : va_P D vwCl (wM cI cZ a q σ) H) (hD : va_D A (wM cI cZ a q σ)) (hS : va_S A s.heap H locs) {ls : Array Slot} (hl : lv_has ls 6 [(0, .ref (a 20)), (1, .int x1), (2, .int x2), (3, .int x3), (4, .int x4)]) : W p l e (rmK 0 0 0 0) s m args below meth c H locs 0 0 (RwQ below args s D A (fun q (σ : StM) => (wM cI cZ a q σ)) res 0 0) (F0 m 199 ls []) := by
  obtain ⟨hx, hb, hr, hml, hown, hts, hlk, hK⟩ := id C0
  unfold f_M_addBoth_199 at h
  refine lv_iload hx hb d_M_addBoth_199 (lv_at hl 4 rfl) ?_
  refine lv_if_eq (tgt := 206) hx hb d_M_addBoth_201 (by decide) (fun hc => ?_) (fun hc => ?_)
  · rw [if_pos hc] at h
    refine lv_iinc (v := (x3 + 1)) (lv' := [(3, .int (x3 + 1)), (0, .ref (a 20)), (1, .int x1), (2, .int x2), (4, .int x4)]) hx hb d_M_addBoth_206 hl (k := 3) rfl rfl (by decide) rfl (fun ls hl => ?_)
    refine lv_goto (tgt := 115) hx hb d_M_addBoth_209 (by decide) ?_
    exact hk115 _ _ _ _ _ _ _ _ h hP hD hS (lv_sub hl [1, 2, 3, 0] rfl)
  · rw [if_neg hc] at h
    refine lv_iload_n hx hb d_M_addBoth_204 rfl (lv_at hl 3 rfl) ?_
    exact rw_ret C0 hP hD hS (Option.some.inj h) d_M_addBoth_205
set_option maxHeartbeats 4000000 in
set_option maxRecDepth 100000 in
theorem t_M_addBoth_153_s {p : Program} {l : Launch} {e : Env} {s : State} {m : MethodId} {args : Array Value} {below : List Frame} {meth : Method} {c : Code} {D : va_G} {cI cZ : ClassId} {a : Nat → Nat} {A : Nat → Prop} (C0 : Am p s m args meth c b_M_addBoth (some .int) 6 R_M D [(cI, .int), (cZ, .boolean)]) (hA : ∀ q, s.heap.size ≤ q → A q) {res : Int32 × StM} {k115 : StM → Int32 → Int32 → Int32 → Option (Int32 × StM)} {k153 : StM → Int32 → Int32 → Int32 → Int32 → Int32 → Option (Int32 × StM)} (hk115 : ∀ (q : Nat) (σ : StM) (x1 x2 x3 : Int32) (H : Heap) (locs : List Loc) (ls : Array Slot), k115 σ x1 x2 x3 = some res → va_P D vwCl (wM cI cZ a q σ) H → va_D A (wM cI cZ a q σ) → va_S A s.heap H locs → lv_has ls 6 [(0, .ref (a 20)), (1, .int x1), (2, .int x2), (3, .int x3)] → W p l e (rmK 0 0 0 0) s m args below meth c H locs 0 0 (RwQ below args s D A (fun q (σ : StM) => (wM cI cZ a q σ)) res 0 0) (F0 m 115 ls [])) (hk153 : ∀ (q : Nat) (σ : StM) (x1 x2 x3 x4 x5 : Int32) (H : Heap) (locs : List Loc) (ls : Array Slot), k153 σ x1 x2 x3 x4 x5 = some res → va_P D vwCl (wM cI cZ a q σ) H → va_D A (wM cI cZ a q σ) → va_S A s.heap H locs → lv_has ls 6 [(0, .ref (a 20)), (1, .int x1), (2, .int x2), (3, .int x3), (4, .int x4), (5, .int x5)] → W p l e (rmK 0 0 0 0) s m args below meth c H locs 0 0 (RwQ below args s D A (fun q (σ : StM) => (wM cI cZ a q σ)) res 0 0) (F0 m 153 ls [])) {q : Nat} {σ : StM} {x1 x2 x3 x4 x5 : Int32} (h : f_M_addBoth_153_s k115 k153 σ x1 x2 x3 x4 x5 = some res) {H : Heap} {locs : List Loc} (hP : va_P D vwCl (wM cI cZ a q σ) H) (hD : va_D A (wM cI cZ a q σ)) (hS : va_S A s.heap H locs) {ls : Array Slot} (hl : lv_has ls 6 [(0, .ref (a 20)), (1, .int x1), (2, .int x2), (3, .int x3), (4, .int x4), (5, .int x5)]) : W p l e (rmK 0 0 0 0) s m args below meth c H locs 0 0 (RwQ below args s D A (fun q (σ : StM) => (wM cI cZ a q σ)) res 0 0) (F0 m 153 ls []) := by
  obtain ⟨hx, hb, hr, hml, hown, hts, hlk, hK⟩ := id C0
  unfold f_M_addBoth_153_s at h
  refine lv_iload hx hb d_M_addBoth_153 (lv_at hl 5 rfl) ?_
  refine lv_iload_n hx hb d_M_addBoth_155 rfl (lv_at hl 1 rfl) ?_
  refine lv_icmp_ge (tgt := 199) hx hb d_M_addBoth_156 (by decide) (fun hc => ?_) (fun hc => ?_)
  · rw [if_pos hc] at h
    exact t_M_addBoth_199 (a := a) C0 hA hk115 h hP hD hS (lv_sub hl [0, 1, 2, 3, 4] rfl)
  · rw [if_neg hc] at h
    refine lv_iload hx hb d_M_addBoth_159 (lv_at hl 4 rfl) ?_
    refine lv_if_eq (tgt := 199) hx hb d_M_addBoth_161 (by decide) (fun hc => ?_) (fun hc => ?_)
    · rw [if_pos hc] at h
      exact t_M_addBoth_199 (a := a) C0 hA hk115 h hP hD hS (lv_sub hl [0, 1, 2, 3, 4] rfl)
    · rw [if_neg hc] at h
      refine lv_aload_n hx hb d_M_addBoth_164 rfl (lv_at hl 0 rfl) ?_
      refine va_get (ci := 4) (v := .ref (a 33)) (C := R_M) (T := F_M) (N := 35) hx hb hts i_M hown hK.1 hP 0 rfl rfl 17 (by decide) (hts _ wd_355) (fun _ h9 => h9) rfl d_M_addBoth_165 ?_
      refine lv_bipush (v := 30) hx hb d_M_addBoth_168 (by decide) ?_
      refine lv_iload_n hx hb d_M_addBoth_170 rfl (lv_at hl 3 rfl) ?_
      refine lv_imul hx hb d_M_addBoth_171 ?_
      refine lv_iload hx hb d_M_addBoth_172 (lv_at hl 5 rfl) ?_
      refine lv_iadd hx hb d_M_addBoth_174 ?_
      replace h := gd h
      obtain ⟨hi, h⟩ := h
      refine va_iald hx hb hK.1 hP 13 0 rfl rfl hi d_M_addBoth_175 ?_
      refine lv_aload_n hx hb d_M_addBoth_176 rfl (lv_at hl 0 rfl) ?_
      refine va_get (ci := 4) (v := .ref (a 34)) (C := R_M) (T := F_M) (N := 35) hx hb hts i_M hown hK.1 hP 0 rfl rfl 22 (by decide) (hts _ wd_369) (fun _ h9 => h9) rfl d_M_addBoth_177 ?_
      refine lv_iload hx hb d_M_addBoth_180 (lv_at hl 5 rfl) ?_
      replace h := gd h
      obtain ⟨hi, h⟩ := h
      refine va_iald hx hb hK.1 hP 14 0 rfl rfl hi d_M_addBoth_182 ?_
      refine lv_icmp_ne (tgt := 190) hx hb d_M_addBoth_183 (by decide) (fun hc => ?_) (fun hc => ?_)
      · rw [if_neg hc] at h
        refine lv_iconst (v := 0) hx hb d_M_addBoth_190 (by decide) ?_
        refine lv_istore (lv' := [(4, .int 0), (0, .ref (a 20)), (1, .int x1), (2, .int x2), (3, .int x3), (5, .int x5)]) hx hb d_M_addBoth_191 hl (by decide) rfl (fun ls hl => ?_)
        refine lv_iinc (v := (x5 + 1)) (lv' := [(5, .int (x5 + 1)), (4, .int 0), (0, .ref (a 20)), (1, .int x1), (2, .int x2), (3, .int x3)]) hx hb d_M_addBoth_193 hl (k := 5) rfl rfl (by decide) rfl (fun ls hl => ?_)
        refine lv_goto (tgt := 153) hx hb d_M_addBoth_196 (by decide) ?_
        exact hk153 _ _ _ _ _ _ _ _ _ _ h hP hD hS (lv_sub hl [2, 3, 4, 5, 1, 0] rfl)
      · rw [if_pos hc] at h
        refine lv_iconst (v := 1) hx hb d_M_addBoth_186 (by decide) ?_
        refine lv_goto (tgt := 191) hx hb d_M_addBoth_187 (by decide) ?_
        refine lv_istore (lv' := [(4, .int 1), (0, .ref (a 20)), (1, .int x1), (2, .int x2), (3, .int x3), (5, .int x5)]) hx hb d_M_addBoth_191 hl (by decide) rfl (fun ls hl => ?_)
        refine lv_iinc (v := (x5 + 1)) (lv' := [(5, .int (x5 + 1)), (4, .int 1), (0, .ref (a 20)), (1, .int x1), (2, .int x2), (3, .int x3)]) hx hb d_M_addBoth_193 hl (k := 5) rfl rfl (by decide) rfl (fun ls hl => ?_)
        refine lv_goto (tgt := 153) hx hb d_M_addBoth_196 (by decide) ?_
        exact hk153 _ _ _ _ _ _ _ _ _ _ h hP hD hS (lv_sub hl [2, 3, 4, 5, 1, 0] rfl)
set_option maxHeartbeats 4000000 in
set_option maxRecDepth 100000 in
theorem t_M_addBoth_153 {p : Program} {l : Launch} {e : Env} {s : State} {m : MethodId} {args : Array Value} {below : List Frame} {meth : Method} {c : Code} {D : va_G} {cI cZ : ClassId} {a : Nat → Nat} {A : Nat → Prop} (C0 : Am p s m args meth c b_M_addBoth (some .int) 6 R_M D [(cI, .int), (cZ, .boolean)]) (hA : ∀ q, s.heap.size ≤ q → A q) {res : Int32 × StM} {k115 : StM → Int32 → Int32 → Int32 → Option (Int32 × StM)} (hk115 : ∀ (q : Nat) (σ : StM) (x1 x2 x3 : Int32) (H : Heap) (locs : List Loc) (ls : Array Slot), k115 σ x1 x2 x3 = some res → va_P D vwCl (wM cI cZ a q σ) H → va_D A (wM cI cZ a q σ) → va_S A s.heap H locs → lv_has ls 6 [(0, .ref (a 20)), (1, .int x1), (2, .int x2), (3, .int x3)] → W p l e (rmK 0 0 0 0) s m args below meth c H locs 0 0 (RwQ below args s D A (fun q (σ : StM) => (wM cI cZ a q σ)) res 0 0) (F0 m 115 ls [])) {n : Nat} {q : Nat} {σ : StM} {x1 x2 x3 x4 x5 : Int32} (h : f_M_addBoth_153 k115 n σ x1 x2 x3 x4 x5 = some res) {H : Heap} {locs : List Loc} (hP : va_P D vwCl (wM cI cZ a q σ) H) (hD : va_D A (wM cI cZ a q σ)) (hS : va_S A s.heap H locs) {ls : Array Slot} (hl : lv_has ls 6 [(0, .ref (a 20)), (1, .int x1), (2, .int x2), (3, .int x3), (4, .int x4), (5, .int x5)]) : W p l e (rmK 0 0 0 0) s m args below meth c H locs 0 0 (RwQ below args s D A (fun q (σ : StM) => (wM cI cZ a q σ)) res 0 0) (F0 m 153 ls []) := by
  induction n generalizing q σ x1 x2 x3 x4 x5 H locs ls with
  | zero => cases h
  | succ n ih => exact t_M_addBoth_153_s (a := a) C0 hA hk115 (fun _ _ _ _ _ _ _ _ _ _ h hP hD hS hl => ih h hP hD hS hl) h hP hD hS hl
set_option maxHeartbeats 4000000 in
set_option maxRecDepth 100000 in
theorem t_M_addBoth_115_s {p : Program} {l : Launch} {e : Env} {s : State} {m : MethodId} {args : Array Value} {below : List Frame} {meth : Method} {c : Code} {D : va_G} {cI cZ : ClassId} {a : Nat → Nat} {A : Nat → Prop} (C0 : Am p s m args meth c b_M_addBoth (some .int) 6 R_M D [(cI, .int), (cZ, .boolean)]) (hA : ∀ q, s.heap.size ≤ q → A q) {res : Int32 × StM} {k115 : StM → Int32 → Int32 → Int32 → Option (Int32 × StM)}  (hk115 : ∀ (q : Nat) (σ : StM) (x1 x2 x3 : Int32) (H : Heap) (locs : List Loc) (ls : Array Slot), k115 σ x1 x2 x3 = some res → va_P D vwCl (wM cI cZ a q σ) H → va_D A (wM cI cZ a q σ) → va_S A s.heap H locs → lv_has ls 6 [(0, .ref (a 20)), (1, .int x1), (2, .int x2), (3, .int x3)] → W p l e (rmK 0 0 0 0) s m args below meth c H locs 0 0 (RwQ below args s D A (fun q (σ : StM) => (wM cI cZ a q σ)) res 0 0) (F0 m 115 ls [])) {q : Nat} {σ : StM} {x1 x2 x3 : Int32} (h : f_M_addBoth_115_s k115 σ x1 x2 x3 = some res) {H : Heap} {locs : List Loc} (hP : va_P D vwCl (wM cI cZ a q σ) H) (hD : va_D A (wM cI cZ a q σ)) (hS : va_S A s.heap H locs) {ls : Array Slot} (hl : lv_has ls 6 [(0, .ref (a 20)), (1, .int x1), (2, .int x2), (3, .int x3)]) : W p l e (rmK 0 0 0 0) s m args below meth c H locs 0 0 (RwQ below args s D A (fun q (σ : StM) => (wM cI cZ a q σ)) res 0 0) (F0 m 115 ls []) := by
  obtain ⟨hx, hb, hr, hml, hown, hts, hlk, hK⟩ := id C0
  unfold f_M_addBoth_115_s at h
  refine lv_iload_n hx hb d_M_addBoth_115 rfl (lv_at hl 3 rfl) ?_
  refine lv_aload_n hx hb d_M_addBoth_116 rfl (lv_at hl 0 rfl) ?_
  refine va_get (ci := 4) (v := .int (M_types σ)) (C := R_M) (T := F_M) (N := 35) hx hb hts i_M hown hK.1 hP 0 rfl rfl 10 (by decide) (hts _ wd_344) (fun _ h9 => h9) rfl d_M_addBoth_117 ?_
  refine lv_icmp_ge (tgt := 212) hx hb d_M_addBoth_120 (by decide) (fun hc => ?_) (fun hc => ?_)
  · rw [if_pos hc] at h
    refine lv_aload_n hx hb d_M_addBoth_212 rfl (lv_at hl 0 rfl) ?_
    refine va_get (ci := 4) (v := .int (M_types σ)) (C := R_M) (T := F_M) (N := 35) hx hb hts i_M hown hK.1 hP 0 rfl rfl 10 (by decide) (hts _ wd_344) (fun _ h9 => h9) rfl d_M_addBoth_213 ?_
    refine lv_sipush (v := 300) hx hb d_M_addBoth_216 (by decide) ?_
    refine lv_icmp_eq (tgt := 228) hx hb d_M_addBoth_219 (by decide) (fun hc => ?_) (fun hc => ?_)
    · rw [if_pos hc] at h
      exact t_M_addBoth_228 (a := a) C0 hA  h hP hD hS (lv_sub hl [0] rfl)
    · rw [if_neg hc] at h
      refine lv_iload_n hx hb d_M_addBoth_222 rfl (lv_at hl 2 rfl) ?_
      refine lv_bipush (v := 100) hx hb d_M_addBoth_223 (by decide) ?_
      refine lv_icmp_le (tgt := 235) hx hb d_M_addBoth_225 (by decide) (fun hc => ?_) (fun hc => ?_)
      · rw [if_pos hc] at h
        refine lv_aload_n hx hb d_M_addBoth_235 rfl (lv_at hl 0 rfl) ?_
        refine va_get (ci := 4) (v := .ref (a 27)) (C := R_M) (T := F_M) (N := 35) hx hb hts i_M hown hK.1 hP 0 rfl rfl 11 (by decide) (hts _ wd_353) (fun _ h9 => h9) rfl d_M_addBoth_236 ?_
        refine lv_aload_n hx hb d_M_addBoth_239 rfl (lv_at hl 0 rfl) ?_
        refine va_get (ci := 4) (v := .int (M_types σ)) (C := R_M) (T := F_M) (N := 35) hx hb hts i_M hown hK.1 hP 0 rfl rfl 10 (by decide) (hts _ wd_344) (fun _ h9 => h9) rfl d_M_addBoth_240 ?_
        refine lv_iconst (v := 3) hx hb d_M_addBoth_243 (by decide) ?_
        replace h := gd h
        obtain ⟨hi, h⟩ := h
        refine rw_iast C0 hP hD hS 7 0 rfl rfl hi d_M_addBoth_244 (Wn := (wM cI cZ a q (M_put_kind σ (M_types σ) 3))) ws_M_put_kind (fun H locs hP hD hS => ?_)
        refine lv_aload_n hx hb d_M_addBoth_245 rfl (lv_at hl 0 rfl) ?_
        refine va_get (ci := 4) (v := .ref (a 28)) (C := R_M) (T := F_M) (N := 35) hx hb hts i_M hown hK.1 hP 0 rfl rfl 12 (by decide) (hts _ wd_356) (fun _ h9 => h9) rfl d_M_addBoth_246 ?_
        refine lv_aload_n hx hb d_M_addBoth_249 rfl (lv_at hl 0 rfl) ?_
        refine va_get (ci := 4) (v := .int (M_types (M_put_kind σ (M_types σ) 3))) (C := R_M) (T := F_M) (N := 35) hx hb hts i_M hown hK.1 hP 0 rfl rfl 10 (by decide) (hts _ wd_344) (fun _ h9 => h9) rfl d_M_addBoth_250 ?_
        refine lv_iconst (v := (-1)) hx hb d_M_addBoth_253 (by decide) ?_
        replace h := gd h
        obtain ⟨hi, h⟩ := h
        refine rw_iast C0 hP hD hS 8 0 rfl rfl hi d_M_addBoth_254 (Wn := (wM cI cZ a q (M_put_classOf (M_put_kind σ (M_types σ) 3) (M_types (M_put_kind σ (M_types σ) 3)) (-1)))) ws_M_put_classOf (fun H locs hP hD hS => ?_)
        refine lv_aload_n hx hb d_M_addBoth_255 rfl (lv_at hl 0 rfl) ?_
        refine va_get (ci := 4) (v := .ref (a 29)) (C := R_M) (T := F_M) (N := 35) hx hb hts i_M hown hK.1 hP 0 rfl rfl 13 (by decide) (hts _ wd_357) (fun _ h9 => h9) rfl d_M_addBoth_256 ?_
        refine lv_aload_n hx hb d_M_addBoth_259 rfl (lv_at hl 0 rfl) ?_
        refine va_get (ci := 4) (v := .int (M_types (M_put_classOf (M_put_kind σ (M_types σ) 3) (M_types (M_put_kind σ (M_types σ) 3)) (-1)))) (C := R_M) (T := F_M) (N := 35) hx hb hts i_M hown hK.1 hP 0 rfl rfl 10 (by decide) (hts _ wd_344) (fun _ h9 => h9) rfl d_M_addBoth_260 ?_
        refine lv_iconst (v := (-1)) hx hb d_M_addBoth_263 (by decide) ?_
        replace h := gd h
        obtain ⟨hi, h⟩ := h
        refine rw_iast C0 hP hD hS 9 0 rfl rfl hi d_M_addBoth_264 (Wn := (wM cI cZ a q (M_put_how (M_put_classOf (M_put_kind σ (M_types σ) 3) (M_types (M_put_kind σ (M_types σ) 3)) (-1)) (M_types (M_put_classOf (M_put_kind σ (M_types σ) 3) (M_types (M_put_kind σ (M_types σ) 3)) (-1))) (-1)))) ws_M_put_how (fun H locs hP hD hS => ?_)
        refine lv_aload_n hx hb d_M_addBoth_265 rfl (lv_at hl 0 rfl) ?_
        refine va_get (ci := 4) (v := .ref (a 30)) (C := R_M) (T := F_M) (N := 35) hx hb hts i_M hown hK.1 hP 0 rfl rfl 14 (by decide) (hts _ wd_358) (fun _ h9 => h9) rfl d_M_addBoth_266 ?_
        refine lv_aload_n hx hb d_M_addBoth_269 rfl (lv_at hl 0 rfl) ?_
        refine va_get (ci := 4) (v := .int (M_types (M_put_how (M_put_classOf (M_put_kind σ (M_types σ) 3) (M_types (M_put_kind σ (M_types σ) 3)) (-1)) (M_types (M_put_classOf (M_put_kind σ (M_types σ) 3) (M_types (M_put_kind σ (M_types σ) 3)) (-1))) (-1)))) (C := R_M) (T := F_M) (N := 35) hx hb hts i_M hown hK.1 hP 0 rfl rfl 10 (by decide) (hts _ wd_344) (fun _ h9 => h9) rfl d_M_addBoth_270 ?_
        refine lv_iconst (v := (-1)) hx hb d_M_addBoth_273 (by decide) ?_
        replace h := gd h
        obtain ⟨hi, h⟩ := h
        refine rw_iast C0 hP hD hS 10 0 rfl rfl hi d_M_addBoth_274 (Wn := (wM cI cZ a q (M_put_inner (M_put_how (M_put_classOf (M_put_kind σ (M_types σ) 3) (M_types (M_put_kind σ (M_types σ) 3)) (-1)) (M_types (M_put_classOf (M_put_kind σ (M_types σ) 3) (M_types (M_put_kind σ (M_types σ) 3)) (-1))) (-1)) (M_types (M_put_how (M_put_classOf (M_put_kind σ (M_types σ) 3) (M_types (M_put_kind σ (M_types σ) 3)) (-1)) (M_types (M_put_classOf (M_put_kind σ (M_types σ) 3) (M_types (M_put_kind σ (M_types σ) 3)) (-1))) (-1))) (-1)))) ws_M_put_inner (fun H locs hP hD hS => ?_)
        refine lv_aload_n hx hb d_M_addBoth_275 rfl (lv_at hl 0 rfl) ?_
        refine va_get (ci := 4) (v := .ref (a 31)) (C := R_M) (T := F_M) (N := 35) hx hb hts i_M hown hK.1 hP 0 rfl rfl 15 (by decide) (hts _ wd_363) (fun _ h9 => h9) rfl d_M_addBoth_276 ?_
        refine lv_aload_n hx hb d_M_addBoth_279 rfl (lv_at hl 0 rfl) ?_
        refine va_get (ci := 4) (v := .int (M_types (M_put_inner (M_put_how (M_put_classOf (M_put_kind σ (M_types σ) 3) (M_types (M_put_kind σ (M_types σ) 3)) (-1)) (M_types (M_put_classOf (M_put_kind σ (M_types σ) 3) (M_types (M_put_kind σ (M_types σ) 3)) (-1))) (-1)) (M_types (M_put_how (M_put_classOf (M_put_kind σ (M_types σ) 3) (M_types (M_put_kind σ (M_types σ) 3)) (-1)) (M_types (M_put_classOf (M_put_kind σ (M_types σ) 3) (M_types (M_put_kind σ (M_types σ) 3)) (-1))) (-1))) (-1)))) (C := R_M) (T := F_M) (N := 35) hx hb hts i_M hown hK.1 hP 0 rfl rfl 10 (by decide) (hts _ wd_344) (fun _ h9 => h9) rfl d_M_addBoth_280 ?_
        refine lv_iload_n hx hb d_M_addBoth_283 rfl (lv_at hl 2 rfl) ?_
        replace h := gd h
        obtain ⟨hi, h⟩ := h
        refine rw_iast C0 hP hD hS 11 0 rfl rfl hi d_M_addBoth_284 (Wn := (wM cI cZ a q (M_put_made (M_put_inner (M_put_how (M_put_classOf (M_put_kind σ (M_types σ) 3) (M_types (M_put_kind σ (M_types σ) 3)) (-1)) (M_types (M_put_classOf (M_put_kind σ (M_types σ) 3) (M_types (M_put_kind σ (M_types σ) 3)) (-1))) (-1)) (M_types (M_put_how (M_put_classOf (M_put_kind σ (M_types σ) 3) (M_types (M_put_kind σ (M_types σ) 3)) (-1)) (M_types (M_put_classOf (M_put_kind σ (M_types σ) 3) (M_types (M_put_kind σ (M_types σ) 3)) (-1))) (-1))) (-1)) (M_types (M_put_inner (M_put_how (M_put_classOf (M_put_kind σ (M_types σ) 3) (M_types (M_put_kind σ (M_types σ) 3)) (-1)) (M_types (M_put_classOf (M_put_kind σ (M_types σ) 3) (M_types (M_put_kind σ (M_types σ) 3)) (-1))) (-1)) (M_types (M_put_how (M_put_classOf (M_put_kind σ (M_types σ) 3) (M_types (M_put_kind σ (M_types σ) 3)) (-1)) (M_types (M_put_classOf (M_put_kind σ (M_types σ) 3) (M_types (M_put_kind σ (M_types σ) 3)) (-1))) (-1))) (-1))) x2))) ws_M_put_made (fun H locs hP hD hS => ?_)
        refine lv_aload_n hx hb d_M_addBoth_285 rfl (lv_at hl 0 rfl) ?_
        refine va_get (ci := 4) (v := .ref (a 32)) (C := R_M) (T := F_M) (N := 35) hx hb hts i_M hown hK.1 hP 0 rfl rfl 16 (by decide) (hts _ wd_354) (fun _ h9 => h9) rfl d_M_addBoth_286 ?_
        refine lv_aload_n hx hb d_M_addBoth_289 rfl (lv_at hl 0 rfl) ?_
        refine va_get (ci := 4) (v := .int (M_types (M_put_made (M_put_inner (M_put_how (M_put_classOf (M_put_kind σ (M_types σ) 3) (M_types (M_put_kind σ (M_types σ) 3)) (-1)) (M_types (M_put_classOf (M_put_kind σ (M_types σ) 3) (M_types (M_put_kind σ (M_types σ) 3)) (-1))) (-1)) (M_types (M_put_how (M_put_classOf (M_put_kind σ (M_types σ) 3) (M_types (M_put_kind σ (M_types σ) 3)) (-1)) (M_types (M_put_classOf (M_put_kind σ (M_types σ) 3) (M_types (M_put_kind σ (M_types σ) 3)) (-1))) (-1))) (-1)) (M_types (M_put_inner (M_put_how (M_put_classOf (M_put_kind σ (M_types σ) 3) (M_types (M_put_kind σ (M_types σ) 3)) (-1)) (M_types (M_put_classOf (M_put_kind σ (M_types σ) 3) (M_types (M_put_kind σ (M_types σ) 3)) (-1))) (-1)) (M_types (M_put_how (M_put_classOf (M_put_kind σ (M_types σ) 3) (M_types (M_put_kind σ (M_types σ) 3)) (-1)) (M_types (M_put_classOf (M_put_kind σ (M_types σ) 3) (M_types (M_put_kind σ (M_types σ) 3)) (-1))) (-1))) (-1))) x2))) (C := R_M) (T := F_M) (N := 35) hx hb hts i_M hown hK.1 hP 0 rfl rfl 10 (by decide) (hts _ wd_344) (fun _ h9 => h9) rfl d_M_addBoth_290 ?_
        refine lv_iload_n hx hb d_M_addBoth_293 rfl (lv_at hl 1 rfl) ?_
        replace h := gd h
        obtain ⟨hi, h⟩ := h
        refine rw_iast C0 hP hD hS 12 0 rfl rfl hi d_M_addBoth_294 (Wn := (wM cI cZ a q (M_put_partCount (M_put_made (M_put_inner (M_put_how (M_put_classOf (M_put_kind σ (M_types σ) 3) (M_types (M_put_kind σ (M_types σ) 3)) (-1)) (M_types (M_put_classOf (M_put_kind σ (M_types σ) 3) (M_types (M_put_kind σ (M_types σ) 3)) (-1))) (-1)) (M_types (M_put_how (M_put_classOf (M_put_kind σ (M_types σ) 3) (M_types (M_put_kind σ (M_types σ) 3)) (-1)) (M_types (M_put_classOf (M_put_kind σ (M_types σ) 3) (M_types (M_put_kind σ (M_types σ) 3)) (-1))) (-1))) (-1)) (M_types (M_put_inner (M_put_how (M_put_classOf (M_put_kind σ (M_types σ) 3) (M_types (M_put_kind σ (M_types σ) 3)) (-1)) (M_types (M_put_classOf (M_put_kind σ (M_types σ) 3) (M_types (M_put_kind σ (M_types σ) 3)) (-1))) (-1)) (M_types (M_put_how (M_put_classOf (M_put_kind σ (M_types σ) 3) (M_types (M_put_kind σ (M_types σ) 3)) (-1)) (M_types (M_put_classOf (M_put_kind σ (M_types σ) 3) (M_types (M_put_kind σ (M_types σ) 3)) (-1))) (-1))) (-1))) x2) (M_types (M_put_made (M_put_inner (M_put_how (M_put_classOf (M_put_kind σ (M_types σ) 3) (M_types (M_put_kind σ (M_types σ) 3)) (-1)) (M_types (M_put_classOf (M_put_kind σ (M_types σ) 3) (M_types (M_put_kind σ (M_types σ) 3)) (-1))) (-1)) (M_types (M_put_how (M_put_classOf (M_put_kind σ (M_types σ) 3) (M_types (M_put_kind σ (M_types σ) 3)) (-1)) (M_types (M_put_classOf (M_put_kind σ (M_types σ) 3) (M_types (M_put_kind σ (M_types σ) 3)) (-1))) (-1))) (-1)) (M_types (M_put_inner (M_put_how (M_put_classOf (M_put_kind σ (M_types σ) 3) (M_types (M_put_kind σ (M_types σ) 3)) (-1)) (M_types (M_put_classOf (M_put_kind σ (M_types σ) 3) (M_types (M_put_kind σ (M_types σ) 3)) (-1))) (-1)) (M_types (M_put_how (M_put_classOf (M_put_kind σ (M_types σ) 3) (M_types (M_put_kind σ (M_types σ) 3)) (-1)) (M_types (M_put_classOf (M_put_kind σ (M_types σ) 3) (M_types (M_put_kind σ (M_types σ) 3)) (-1))) (-1))) (-1))) x2)) x1))) ws_M_put_partCount (fun H locs hP hD hS => ?_)
        refine lv_iconst (v := 0) hx hb d_M_addBoth_295 (by decide) ?_
        refine lv_istore_n (lv' := [(3, .int 0), (0, .ref (a 20)), (1, .int x1), (2, .int x2)]) hx hb d_M_addBoth_296 rfl hl (by decide) rfl (fun ls hl => ?_)
        exact t_M_addBoth_297 (a := a) C0 hA  h hP hD hS (lv_sub hl [1, 2, 0] rfl)
      · rw [if_neg hc] at h
        exact t_M_addBoth_228 (a := a) C0 hA  h hP hD hS (lv_sub hl [0] rfl)
  · rw [if_neg hc] at h
    refine lv_aload_n hx hb d_M_addBoth_123 rfl (lv_at hl 0 rfl) ?_
    refine va_get (ci := 4) (v := .ref (a 27)) (C := R_M) (T := F_M) (N := 35) hx hb hts i_M hown hK.1 hP 0 rfl rfl 11 (by decide) (hts _ wd_353) (fun _ h9 => h9) rfl d_M_addBoth_124 ?_
    refine lv_iload_n hx hb d_M_addBoth_127 rfl (lv_at hl 3 rfl) ?_
    replace h := gd h
    obtain ⟨hi, h⟩ := h
    refine va_iald hx hb hK.1 hP 7 0 rfl rfl hi d_M_addBoth_128 ?_
    refine lv_iconst (v := 3) hx hb d_M_addBoth_129 (by decide) ?_
    refine lv_icmp_ne (tgt := 147) hx hb d_M_addBoth_130 (by decide) (fun hc => ?_) (fun hc => ?_)
    · rw [if_neg hc] at h
      refine lv_iconst (v := 0) hx hb d_M_addBoth_147 (by decide) ?_
      refine lv_istore (lv' := [(4, .int 0), (0, .ref (a 20)), (1, .int x1), (2, .int x2), (3, .int x3)]) hx hb d_M_addBoth_148 hl (by decide) rfl (fun ls hl => ?_)
      refine lv_iconst (v := 0) hx hb d_M_addBoth_150 (by decide) ?_
      refine lv_istore (lv' := [(5, .int 0), (4, .int 0), (0, .ref (a 20)), (1, .int x1), (2, .int x2), (3, .int x3)]) hx hb d_M_addBoth_151 hl (by decide) rfl (fun ls hl => ?_)
      exact t_M_addBoth_153 (a := a) C0 hA hk115 h hP hD hS (lv_sub hl [2, 3, 4, 5, 1, 0] rfl)
    · rw [if_pos hc] at h
      refine lv_aload_n hx hb d_M_addBoth_133 rfl (lv_at hl 0 rfl) ?_
      refine va_get (ci := 4) (v := .ref (a 32)) (C := R_M) (T := F_M) (N := 35) hx hb hts i_M hown hK.1 hP 0 rfl rfl 16 (by decide) (hts _ wd_354) (fun _ h9 => h9) rfl d_M_addBoth_134 ?_
      refine lv_iload_n hx hb d_M_addBoth_137 rfl (lv_at hl 3 rfl) ?_
      replace h := gd h
      obtain ⟨hi, h⟩ := h
      refine va_iald hx hb hK.1 hP 12 0 rfl rfl hi d_M_addBoth_138 ?_
      refine lv_iload_n hx hb d_M_addBoth_139 rfl (lv_at hl 1 rfl) ?_
      refine lv_icmp_ne (tgt := 147) hx hb d_M_addBoth_140 (by decide) (fun hc => ?_) (fun hc => ?_)
      · rw [if_neg hc] at h
        refine lv_iconst (v := 0) hx hb d_M_addBoth_147 (by decide) ?_
        refine lv_istore (lv' := [(4, .int 0), (0, .ref (a 20)), (1, .int x1), (2, .int x2), (3, .int x3)]) hx hb d_M_addBoth_148 hl (by decide) rfl (fun ls hl => ?_)
        refine lv_iconst (v := 0) hx hb d_M_addBoth_150 (by decide) ?_
        refine lv_istore (lv' := [(5, .int 0), (4, .int 0), (0, .ref (a 20)), (1, .int x1), (2, .int x2), (3, .int x3)]) hx hb d_M_addBoth_151 hl (by decide) rfl (fun ls hl => ?_)
        exact t_M_addBoth_153 (a := a) C0 hA hk115 h hP hD hS (lv_sub hl [2, 3, 4, 5, 1, 0] rfl)
      · rw [if_pos hc] at h
        refine lv_iconst (v := 1) hx hb d_M_addBoth_143 (by decide) ?_
        refine lv_goto (tgt := 148) hx hb d_M_addBoth_144 (by decide) ?_
        refine lv_istore (lv' := [(4, .int 1), (0, .ref (a 20)), (1, .int x1), (2, .int x2), (3, .int x3)]) hx hb d_M_addBoth_148 hl (by decide) rfl (fun ls hl => ?_)
        refine lv_iconst (v := 0) hx hb d_M_addBoth_150 (by decide) ?_
        refine lv_istore (lv' := [(5, .int 0), (4, .int 1), (0, .ref (a 20)), (1, .int x1), (2, .int x2), (3, .int x3)]) hx hb d_M_addBoth_151 hl (by decide) rfl (fun ls hl => ?_)
        exact t_M_addBoth_153 (a := a) C0 hA hk115 h hP hD hS (lv_sub hl [2, 3, 4, 5, 1, 0] rfl)
set_option maxHeartbeats 4000000 in
set_option maxRecDepth 100000 in
theorem t_M_addBoth_115 {p : Program} {l : Launch} {e : Env} {s : State} {m : MethodId} {args : Array Value} {below : List Frame} {meth : Method} {c : Code} {D : va_G} {cI cZ : ClassId} {a : Nat → Nat} {A : Nat → Prop} (C0 : Am p s m args meth c b_M_addBoth (some .int) 6 R_M D [(cI, .int), (cZ, .boolean)]) (hA : ∀ q, s.heap.size ≤ q → A q) {res : Int32 × StM}  {n : Nat} {q : Nat} {σ : StM} {x1 x2 x3 : Int32} (h : f_M_addBoth_115  n σ x1 x2 x3 = some res) {H : Heap} {locs : List Loc} (hP : va_P D vwCl (wM cI cZ a q σ) H) (hD : va_D A (wM cI cZ a q σ)) (hS : va_S A s.heap H locs) {ls : Array Slot} (hl : lv_has ls 6 [(0, .ref (a 20)), (1, .int x1), (2, .int x2), (3, .int x3)]) : W p l e (rmK 0 0 0 0) s m args below meth c H locs 0 0 (RwQ below args s D A (fun q (σ : StM) => (wM cI cZ a q σ)) res 0 0) (F0 m 115 ls []) := by
  induction n generalizing q σ x1 x2 x3 H locs ls with
  | zero => cases h
  | succ n ih => exact t_M_addBoth_115_s (a := a) C0 hA  (fun _ _ _ _ _ _ _ _ h hP hD hS hl => ih h hP hD hS hl) h hP hD hS hl
set_option maxHeartbeats 4000000 in
set_option maxRecDepth 100000 in
theorem t_M_addBoth_88_s {p : Program} {l : Launch} {e : Env} {s : State} {m : MethodId} {args : Array Value} {below : List Frame} {meth : Method} {c : Code} {D : va_G} {cI cZ : ClassId} {a : Nat → Nat} {A : Nat → Prop} (C0 : Am p s m args meth c b_M_addBoth (some .int) 6 R_M D [(cI, .int), (cZ, .boolean)]) (hA : ∀ q, s.heap.size ≤ q → A q) {res : Int32 × StM} {k88 : StM → Int32 → Int32 → Int32 → Option (Int32 × StM)}  (hk88 : ∀ (q : Nat) (σ : StM) (x1 x2 x3 : Int32) (H : Heap) (locs : List Loc) (ls : Array Slot), k88 σ x1 x2 x3 = some res → va_P D vwCl (wM cI cZ a q σ) H → va_D A (wM cI cZ a q σ) → va_S A s.heap H locs → lv_has ls 6 [(0, .ref (a 20)), (1, .int x1), (2, .int x2), (3, .int x3)] → W p l e (rmK 0 0 0 0) s m args below meth c H locs 0 0 (RwQ below args s D A (fun q (σ : StM) => (wM cI cZ a q σ)) res 0 0) (F0 m 88 ls [])) {q : Nat} {σ : StM} {x1 x2 x3 : Int32} (h : f_M_addBoth_88_s k88 σ x1 x2 x3 = some res) {H : Heap} {locs : List Loc} (hP : va_P D vwCl (wM cI cZ a q σ) H) (hD : va_D A (wM cI cZ a q σ)) (hS : va_S A s.heap H locs) {ls : Array Slot} (hl : lv_has ls 6 [(0, .ref (a 20)), (1, .int x1), (2, .int x2), (3, .int x3)]) : W p l e (rmK 0 0 0 0) s m args below meth c H locs 0 0 (RwQ below args s D A (fun q (σ : StM) => (wM cI cZ a q σ)) res 0 0) (F0 m 88 ls []) := by
  obtain ⟨hx, hb, hr, hml, hown, hts, hlk, hK⟩ := id C0
  unfold f_M_addBoth_88_s at h
  refine lv_iload_n hx hb d_M_addBoth_88 rfl (lv_at hl 3 rfl) ?_
  refine lv_iload_n hx hb d_M_addBoth_89 rfl (lv_at hl 1 rfl) ?_
  refine lv_icmp_ge (tgt := 113) hx hb d_M_addBoth_90 (by decide) (fun hc => ?_) (fun hc => ?_)
  · rw [if_pos hc] at h
    refine lv_iconst (v := 0) hx hb d_M_addBoth_113 (by decide) ?_
    refine lv_istore_n (lv' := [(3, .int 0), (0, .ref (a 20)), (1, .int x1), (2, .int x2)]) hx hb d_M_addBoth_114 rfl hl (by decide) rfl (fun ls hl => ?_)
    exact t_M_addBoth_115 (a := a) C0 hA  h hP hD hS (lv_sub hl [1, 2, 3, 0] rfl)
  · rw [if_neg hc] at h
    refine lv_iload_n hx hb d_M_addBoth_93 rfl (lv_at hl 2 rfl) ?_
    refine lv_aload_n hx hb d_M_addBoth_94 rfl (lv_at hl 0 rfl) ?_
    refine va_get (ci := 4) (v := .ref (a 31)) (C := R_M) (T := F_M) (N := 35) hx hb hts i_M hown hK.1 hP 0 rfl rfl 15 (by decide) (hts _ wd_363) (fun _ h9 => h9) rfl d_M_addBoth_95 ?_
    refine lv_aload_n hx hb d_M_addBoth_98 rfl (lv_at hl 0 rfl) ?_
    refine va_get (ci := 4) (v := .ref (a 34)) (C := R_M) (T := F_M) (N := 35) hx hb hts i_M hown hK.1 hP 0 rfl rfl 22 (by decide) (hts _ wd_369) (fun _ h9 => h9) rfl d_M_addBoth_99 ?_
    refine lv_iload_n hx hb d_M_addBoth_102 rfl (lv_at hl 3 rfl) ?_
    replace h := gd h
    obtain ⟨hi, h⟩ := h
    refine va_iald hx hb hK.1 hP 14 0 rfl rfl hi d_M_addBoth_103 ?_
    replace h := gd h
    obtain ⟨hi, h⟩ := h
    refine va_iald hx hb hK.1 hP 11 0 rfl rfl hi d_M_addBoth_104 ?_
    refine lv_iadd hx hb d_M_addBoth_105 ?_
    refine lv_istore_n (lv' := [(2, .int (x2 + ((M_made σ) ((M_row σ) x3.toNatClampNeg).toNatClampNeg))), (0, .ref (a 20)), (1, .int x1), (3, .int x3)]) hx hb d_M_addBoth_106 rfl hl (by decide) rfl (fun ls hl => ?_)
    refine lv_iinc (v := (x3 + 1)) (lv' := [(3, .int (x3 + 1)), (2, .int (x2 + ((M_made σ) ((M_row σ) x3.toNatClampNeg).toNatClampNeg))), (0, .ref (a 20)), (1, .int x1)]) hx hb d_M_addBoth_107 hl (k := 3) rfl rfl (by decide) rfl (fun ls hl => ?_)
    refine lv_goto (tgt := 88) hx hb d_M_addBoth_110 (by decide) ?_
    exact hk88 _ _ _ _ _ _ _ _ h hP hD hS (lv_sub hl [2, 3, 1, 0] rfl)
set_option maxHeartbeats 4000000 in
set_option maxRecDepth 100000 in
theorem t_M_addBoth_88 {p : Program} {l : Launch} {e : Env} {s : State} {m : MethodId} {args : Array Value} {below : List Frame} {meth : Method} {c : Code} {D : va_G} {cI cZ : ClassId} {a : Nat → Nat} {A : Nat → Prop} (C0 : Am p s m args meth c b_M_addBoth (some .int) 6 R_M D [(cI, .int), (cZ, .boolean)]) (hA : ∀ q, s.heap.size ≤ q → A q) {res : Int32 × StM}  {n : Nat} {q : Nat} {σ : StM} {x1 x2 x3 : Int32} (h : f_M_addBoth_88  n σ x1 x2 x3 = some res) {H : Heap} {locs : List Loc} (hP : va_P D vwCl (wM cI cZ a q σ) H) (hD : va_D A (wM cI cZ a q σ)) (hS : va_S A s.heap H locs) {ls : Array Slot} (hl : lv_has ls 6 [(0, .ref (a 20)), (1, .int x1), (2, .int x2), (3, .int x3)]) : W p l e (rmK 0 0 0 0) s m args below meth c H locs 0 0 (RwQ below args s D A (fun q (σ : StM) => (wM cI cZ a q σ)) res 0 0) (F0 m 88 ls []) := by
  induction n generalizing q σ x1 x2 x3 H locs ls with
  | zero => cases h
  | succ n ih => exact t_M_addBoth_88_s (a := a) C0 hA  (fun _ _ _ _ _ _ _ _ h hP hD hS hl => ih h hP hD hS hl) h hP hD hS hl
set_option maxHeartbeats 4000000 in
set_option maxRecDepth 100000 in
theorem t_M_addBoth_9_s {p : Program} {l : Launch} {e : Env} {s : State} {m : MethodId} {args : Array Value} {below : List Frame} {meth : Method} {c : Code} {D : va_G} {cI cZ : ClassId} {a : Nat → Nat} {A : Nat → Prop} (C0 : Am p s m args meth c b_M_addBoth (some .int) 6 R_M D [(cI, .int), (cZ, .boolean)]) (hA : ∀ q, s.heap.size ≤ q → A q) {res : Int32 × StM} {k2 : StM → Int32 → Int32 → Option (Int32 × StM)} {k9 : StM → Int32 → Int32 → Int32 → Option (Int32 × StM)} (hk2 : ∀ (q : Nat) (σ : StM) (x1 x2 : Int32) (H : Heap) (locs : List Loc) (ls : Array Slot), k2 σ x1 x2 = some res → va_P D vwCl (wM cI cZ a q σ) H → va_D A (wM cI cZ a q σ) → va_S A s.heap H locs → lv_has ls 6 [(0, .ref (a 20)), (1, .int x1), (2, .int x2)] → W p l e (rmK 0 0 0 0) s m args below meth c H locs 0 0 (RwQ below args s D A (fun q (σ : StM) => (wM cI cZ a q σ)) res 0 0) (F0 m 2 ls [])) (hk9 : ∀ (q : Nat) (σ : StM) (x1 x2 x3 : Int32) (H : Heap) (locs : List Loc) (ls : Array Slot), k9 σ x1 x2 x3 = some res → va_P D vwCl (wM cI cZ a q σ) H → va_D A (wM cI cZ a q σ) → va_S A s.heap H locs → lv_has ls 6 [(0, .ref (a 20)), (1, .int x1), (2, .int x2), (3, .int x3)] → W p l e (rmK 0 0 0 0) s m args below meth c H locs 0 0 (RwQ below args s D A (fun q (σ : StM) => (wM cI cZ a q σ)) res 0 0) (F0 m 9 ls [])) {q : Nat} {σ : StM} {x1 x2 x3 : Int32} (h : f_M_addBoth_9_s k2 k9 σ x1 x2 x3 = some res) {H : Heap} {locs : List Loc} (hP : va_P D vwCl (wM cI cZ a q σ) H) (hD : va_D A (wM cI cZ a q σ)) (hS : va_S A s.heap H locs) {ls : Array Slot} (hl : lv_has ls 6 [(0, .ref (a 20)), (1, .int x1), (2, .int x2), (3, .int x3)]) : W p l e (rmK 0 0 0 0) s m args below meth c H locs 0 0 (RwQ below args s D A (fun q (σ : StM) => (wM cI cZ a q σ)) res 0 0) (F0 m 9 ls []) := by
  obtain ⟨hx, hb, hr, hml, hown, hts, hlk, hK⟩ := id C0
  unfold f_M_addBoth_9_s at h
  refine lv_iload_n hx hb d_M_addBoth_9 rfl (lv_at hl 3 rfl) ?_
  refine lv_if_le (tgt := 78) hx hb d_M_addBoth_10 (by decide) (fun hc => ?_) (fun hc => ?_)
  · rw [if_pos hc] at h
    refine lv_iinc (v := (x2 + 1)) (lv' := [(2, .int (x2 + 1)), (0, .ref (a 20)), (1, .int x1), (3, .int x3)]) hx hb d_M_addBoth_78 hl (k := 2) rfl rfl (by decide) rfl (fun ls hl => ?_)
    refine lv_goto (tgt := 2) hx hb d_M_addBoth_81 (by decide) ?_
    exact hk2 _ _ _ _ _ _ _ h hP hD hS (lv_sub hl [1, 2, 0] rfl)
  · rw [if_neg hc] at h
    refine lv_aload_n hx hb d_M_addBoth_13 rfl (lv_at hl 0 rfl) ?_
    refine va_get (ci := 4) (v := .ref (a 28)) (C := R_M) (T := F_M) (N := 35) hx hb hts i_M hown hK.1 hP 0 rfl rfl 12 (by decide) (hts _ wd_356) (fun _ h9 => h9) rfl d_M_addBoth_14 ?_
    refine lv_aload_n hx hb d_M_addBoth_17 rfl (lv_at hl 0 rfl) ?_
    refine va_get (ci := 4) (v := .ref (a 34)) (C := R_M) (T := F_M) (N := 35) hx hb hts i_M hown hK.1 hP 0 rfl rfl 22 (by decide) (hts _ wd_369) (fun _ h9 => h9) rfl d_M_addBoth_18 ?_
    refine lv_iload_n hx hb d_M_addBoth_21 rfl (lv_at hl 3 rfl) ?_
    refine lv_iconst (v := 1) hx hb d_M_addBoth_22 (by decide) ?_
    refine lv_isub hx hb d_M_addBoth_23 ?_
    replace h := gd h
    obtain ⟨hi, h⟩ := h
    refine va_iald hx hb hK.1 hP 14 0 rfl rfl hi d_M_addBoth_24 ?_
    replace h := gd h
    obtain ⟨hi, h⟩ := h
    refine va_iald hx hb hK.1 hP 8 0 rfl rfl hi d_M_addBoth_25 ?_
    refine lv_aload_n hx hb d_M_addBoth_26 rfl (lv_at hl 0 rfl) ?_
    refine va_get (ci := 4) (v := .ref (a 28)) (C := R_M) (T := F_M) (N := 35) hx hb hts i_M hown hK.1 hP 0 rfl rfl 12 (by decide) (hts _ wd_356) (fun _ h9 => h9) rfl d_M_addBoth_27 ?_
    refine lv_aload_n hx hb d_M_addBoth_30 rfl (lv_at hl 0 rfl) ?_
    refine va_get (ci := 4) (v := .ref (a 34)) (C := R_M) (T := F_M) (N := 35) hx hb hts i_M hown hK.1 hP 0 rfl rfl 22 (by decide) (hts _ wd_369) (fun _ h9 => h9) rfl d_M_addBoth_31 ?_
    refine lv_iload_n hx hb d_M_addBoth_34 rfl (lv_at hl 3 rfl) ?_
    replace h := gd h
    obtain ⟨hi, h⟩ := h
    refine va_iald hx hb hK.1 hP 14 0 rfl rfl hi d_M_addBoth_35 ?_
    replace h := gd h
    obtain ⟨hi, h⟩ := h
    refine va_iald hx hb hK.1 hP 8 0 rfl rfl hi d_M_addBoth_36 ?_
    refine lv_icmp_le (tgt := 78) hx hb d_M_addBoth_37 (by decide) (fun hc => ?_) (fun hc => ?_)
    · rw [if_pos hc] at h
      refine lv_iinc (v := (x2 + 1)) (lv' := [(2, .int (x2 + 1)), (0, .ref (a 20)), (1, .int x1), (3, .int x3)]) hx hb d_M_addBoth_78 hl (k := 2) rfl rfl (by decide) rfl (fun ls hl => ?_)
      refine lv_goto (tgt := 2) hx hb d_M_addBoth_81 (by decide) ?_
      exact hk2 _ _ _ _ _ _ _ h hP hD hS (lv_sub hl [1, 2, 0] rfl)
    · rw [if_neg hc] at h
      refine lv_aload_n hx hb d_M_addBoth_40 rfl (lv_at hl 0 rfl) ?_
      refine va_get (ci := 4) (v := .ref (a 34)) (C := R_M) (T := F_M) (N := 35) hx hb hts i_M hown hK.1 hP 0 rfl rfl 22 (by decide) (hts _ wd_369) (fun _ h9 => h9) rfl d_M_addBoth_41 ?_
      refine lv_iload_n hx hb d_M_addBoth_44 rfl (lv_at hl 3 rfl) ?_
      replace h := gd h
      obtain ⟨hi, h⟩ := h
      refine va_iald hx hb hK.1 hP 14 0 rfl rfl hi d_M_addBoth_45 ?_
      refine lv_istore (lv' := [(4, .int ((M_row σ) x3.toNatClampNeg)), (0, .ref (a 20)), (1, .int x1), (2, .int x2), (3, .int x3)]) hx hb d_M_addBoth_46 hl (by decide) rfl (fun ls hl => ?_)
      refine lv_aload_n hx hb d_M_addBoth_48 rfl (lv_at hl 1 rfl) ?_
      refine va_get (ci := 4) (v := .ref (a 34)) (C := R_M) (T := F_M) (N := 35) hx hb hts i_M hown hK.1 hP 0 rfl rfl 22 (by decide) (hts _ wd_369) (fun _ h9 => h9) rfl d_M_addBoth_49 ?_
      refine lv_iload_n hx hb d_M_addBoth_52 rfl (lv_at hl 4 rfl) ?_
      refine lv_aload_n hx hb d_M_addBoth_53 rfl (lv_at hl 1 rfl) ?_
      refine va_get (ci := 4) (v := .ref (a 34)) (C := R_M) (T := F_M) (N := 35) hx hb hts i_M hown hK.1 hP 0 rfl rfl 22 (by decide) (hts _ wd_369) (fun _ h9 => h9) rfl d_M_addBoth_54 ?_
      refine lv_iload_n hx hb d_M_addBoth_57 rfl (lv_at hl 4 rfl) ?_
      refine lv_iconst (v := 1) hx hb d_M_addBoth_58 (by decide) ?_
      refine lv_isub hx hb d_M_addBoth_59 ?_
      replace h := gd h
      obtain ⟨hi, h⟩ := h
      refine va_iald hx hb hK.1 hP 14 0 rfl rfl hi d_M_addBoth_60 ?_
      replace h := gd h
      obtain ⟨hi, h⟩ := h
      refine rw_iast C0 hP hD hS 14 0 rfl rfl hi d_M_addBoth_61 (Wn := (wM cI cZ a q (M_put_row σ x3 ((M_row σ) (x3 - 1).toNatClampNeg)))) ws_M_put_row (fun H locs hP hD hS => ?_)
      refine lv_aload_n hx hb d_M_addBoth_62 rfl (lv_at hl 1 rfl) ?_
      refine va_get (ci := 4) (v := .ref (a 34)) (C := R_M) (T := F_M) (N := 35) hx hb hts i_M hown hK.1 hP 0 rfl rfl 22 (by decide) (hts _ wd_369) (fun _ h9 => h9) rfl d_M_addBoth_63 ?_
      refine lv_iload_n hx hb d_M_addBoth_66 rfl (lv_at hl 4 rfl) ?_
      refine lv_iconst (v := 1) hx hb d_M_addBoth_67 (by decide) ?_
      refine lv_isub hx hb d_M_addBoth_68 ?_
      refine lv_iload hx hb d_M_addBoth_69 (lv_at hl 0 rfl) ?_
      replace h := gd h
      obtain ⟨hi, h⟩ := h
      refine rw_iast C0 hP hD hS 14 0 rfl rfl hi d_M_addBoth_71 (Wn := (wM cI cZ a q (M_put_row (M_put_row σ x3 ((M_row σ) (x3 - 1).toNatClampNeg)) (x3 - 1) ((M_row σ) x3.toNatClampNeg)))) ws_M_put_row (fun H locs hP hD hS => ?_)
      refine lv_iinc (v := (x3 + (-1))) (lv' := [(3, .int (x3 + (-1))), (4, .int ((M_row σ) x3.toNatClampNeg)), (0, .ref (a 20)), (1, .int x1), (2, .int x2)]) hx hb d_M_addBoth_72 hl (k := 4) rfl rfl (by decide) rfl (fun ls hl => ?_)
      refine lv_goto (tgt := 9) hx hb d_M_addBoth_75 (by decide) ?_
      exact hk9 _ _ _ _ _ _ _ _ h hP hD hS (lv_sub hl [2, 3, 4, 0] rfl)
set_option maxHeartbeats 4000000 in
set_option maxRecDepth 100000 in
theorem t_M_addBoth_9 {p : Program} {l : Launch} {e : Env} {s : State} {m : MethodId} {args : Array Value} {below : List Frame} {meth : Method} {c : Code} {D : va_G} {cI cZ : ClassId} {a : Nat → Nat} {A : Nat → Prop} (C0 : Am p s m args meth c b_M_addBoth (some .int) 6 R_M D [(cI, .int), (cZ, .boolean)]) (hA : ∀ q, s.heap.size ≤ q → A q) {res : Int32 × StM} {k2 : StM → Int32 → Int32 → Option (Int32 × StM)} (hk2 : ∀ (q : Nat) (σ : StM) (x1 x2 : Int32) (H : Heap) (locs : List Loc) (ls : Array Slot), k2 σ x1 x2 = some res → va_P D vwCl (wM cI cZ a q σ) H → va_D A (wM cI cZ a q σ) → va_S A s.heap H locs → lv_has ls 6 [(0, .ref (a 20)), (1, .int x1), (2, .int x2)] → W p l e (rmK 0 0 0 0) s m args below meth c H locs 0 0 (RwQ below args s D A (fun q (σ : StM) => (wM cI cZ a q σ)) res 0 0) (F0 m 2 ls [])) {n : Nat} {q : Nat} {σ : StM} {x1 x2 x3 : Int32} (h : f_M_addBoth_9 k2 n σ x1 x2 x3 = some res) {H : Heap} {locs : List Loc} (hP : va_P D vwCl (wM cI cZ a q σ) H) (hD : va_D A (wM cI cZ a q σ)) (hS : va_S A s.heap H locs) {ls : Array Slot} (hl : lv_has ls 6 [(0, .ref (a 20)), (1, .int x1), (2, .int x2), (3, .int x3)]) : W p l e (rmK 0 0 0 0) s m args below meth c H locs 0 0 (RwQ below args s D A (fun q (σ : StM) => (wM cI cZ a q σ)) res 0 0) (F0 m 9 ls []) := by
  induction n generalizing q σ x1 x2 x3 H locs ls with
  | zero => cases h
  | succ n ih => exact t_M_addBoth_9_s (a := a) C0 hA hk2 (fun _ _ _ _ _ _ _ _ h hP hD hS hl => ih h hP hD hS hl) h hP hD hS hl
set_option maxHeartbeats 4000000 in
set_option maxRecDepth 100000 in
theorem t_M_addBoth_2_s {p : Program} {l : Launch} {e : Env} {s : State} {m : MethodId} {args : Array Value} {below : List Frame} {meth : Method} {c : Code} {D : va_G} {cI cZ : ClassId} {a : Nat → Nat} {A : Nat → Prop} (C0 : Am p s m args meth c b_M_addBoth (some .int) 6 R_M D [(cI, .int), (cZ, .boolean)]) (hA : ∀ q, s.heap.size ≤ q → A q) {res : Int32 × StM} {k2 : StM → Int32 → Int32 → Option (Int32 × StM)}  (hk2 : ∀ (q : Nat) (σ : StM) (x1 x2 : Int32) (H : Heap) (locs : List Loc) (ls : Array Slot), k2 σ x1 x2 = some res → va_P D vwCl (wM cI cZ a q σ) H → va_D A (wM cI cZ a q σ) → va_S A s.heap H locs → lv_has ls 6 [(0, .ref (a 20)), (1, .int x1), (2, .int x2)] → W p l e (rmK 0 0 0 0) s m args below meth c H locs 0 0 (RwQ below args s D A (fun q (σ : StM) => (wM cI cZ a q σ)) res 0 0) (F0 m 2 ls [])) {q : Nat} {σ : StM} {x1 x2 : Int32} (h : f_M_addBoth_2_s k2 σ x1 x2 = some res) {H : Heap} {locs : List Loc} (hP : va_P D vwCl (wM cI cZ a q σ) H) (hD : va_D A (wM cI cZ a q σ)) (hS : va_S A s.heap H locs) {ls : Array Slot} (hl : lv_has ls 6 [(0, .ref (a 20)), (1, .int x1), (2, .int x2)]) : W p l e (rmK 0 0 0 0) s m args below meth c H locs 0 0 (RwQ below args s D A (fun q (σ : StM) => (wM cI cZ a q σ)) res 0 0) (F0 m 2 ls []) := by
  obtain ⟨hx, hb, hr, hml, hown, hts, hlk, hK⟩ := id C0
  unfold f_M_addBoth_2_s at h
  refine lv_iload_n hx hb d_M_addBoth_2 rfl (lv_at hl 2 rfl) ?_
  refine lv_iload_n hx hb d_M_addBoth_3 rfl (lv_at hl 1 rfl) ?_
  refine lv_icmp_ge (tgt := 84) hx hb d_M_addBoth_4 (by decide) (fun hc => ?_) (fun hc => ?_)
  · rw [if_pos hc] at h
    refine lv_iconst (v := 1) hx hb d_M_addBoth_84 (by decide) ?_
    refine lv_istore_n (lv' := [(2, .int 1), (0, .ref (a 20)), (1, .int x1)]) hx hb d_M_addBoth_85 rfl hl (by decide) rfl (fun ls hl => ?_)
    refine lv_iconst (v := 0) hx hb d_M_addBoth_86 (by decide) ?_
    refine lv_istore_n (lv' := [(3, .int 0), (2, .int 1), (0, .ref (a 20)), (1, .int x1)]) hx hb d_M_addBoth_87 rfl hl (by decide) rfl (fun ls hl => ?_)
    exact t_M_addBoth_88 (a := a) C0 hA  h hP hD hS (lv_sub hl [2, 3, 1, 0] rfl)
  · rw [if_neg hc] at h
    refine lv_iload_n hx hb d_M_addBoth_7 rfl (lv_at hl 2 rfl) ?_
    refine lv_istore_n (lv' := [(3, .int x2), (0, .ref (a 20)), (1, .int x1), (2, .int x2)]) hx hb d_M_addBoth_8 rfl hl (by decide) rfl (fun ls hl => ?_)
    exact t_M_addBoth_9 (a := a) C0 hA hk2 h hP hD hS (lv_sub hl [1, 2, 3, 0] rfl)
set_option maxHeartbeats 4000000 in
set_option maxRecDepth 100000 in
theorem t_M_addBoth_2 {p : Program} {l : Launch} {e : Env} {s : State} {m : MethodId} {args : Array Value} {below : List Frame} {meth : Method} {c : Code} {D : va_G} {cI cZ : ClassId} {a : Nat → Nat} {A : Nat → Prop} (C0 : Am p s m args meth c b_M_addBoth (some .int) 6 R_M D [(cI, .int), (cZ, .boolean)]) (hA : ∀ q, s.heap.size ≤ q → A q) {res : Int32 × StM}  {n : Nat} {q : Nat} {σ : StM} {x1 x2 : Int32} (h : f_M_addBoth_2  n σ x1 x2 = some res) {H : Heap} {locs : List Loc} (hP : va_P D vwCl (wM cI cZ a q σ) H) (hD : va_D A (wM cI cZ a q σ)) (hS : va_S A s.heap H locs) {ls : Array Slot} (hl : lv_has ls 6 [(0, .ref (a 20)), (1, .int x1), (2, .int x2)]) : W p l e (rmK 0 0 0 0) s m args below meth c H locs 0 0 (RwQ below args s D A (fun q (σ : StM) => (wM cI cZ a q σ)) res 0 0) (F0 m 2 ls []) := by
  induction n generalizing q σ x1 x2 H locs ls with
  | zero => cases h
  | succ n ih => exact t_M_addBoth_2_s (a := a) C0 hA  (fun _ _ _ _ _ _ _ h hP hD hS hl => ih h hP hD hS hl) h hP hD hS hl
set_option maxHeartbeats 4000000 in
set_option maxRecDepth 100000 in
theorem t_M_addBoth_0 {p : Program} {l : Launch} {e : Env} {s : State} {m : MethodId} {args : Array Value} {below : List Frame} {meth : Method} {c : Code} {D : va_G} {cI cZ : ClassId} {a : Nat → Nat} {A : Nat → Prop} (C0 : Am p s m args meth c b_M_addBoth (some .int) 6 R_M D [(cI, .int), (cZ, .boolean)]) (hA : ∀ q, s.heap.size ≤ q → A q) {res : Int32 × StM}   {q : Nat} {σ : StM} {x1 : Int32} (h : f_M_addBoth σ x1 = some res) {H : Heap} {locs : List Loc} (hP : va_P D vwCl (wM cI cZ a q σ) H) (hD : va_D A (wM cI cZ a q σ)) (hS : va_S A s.heap H locs) {ls : Array Slot} (hl : lv_has ls 6 [(0, .ref (a 20)), (1, .int x1)]) : W p l e (rmK 0 0 0 0) s m args below meth c H locs 0 0 (RwQ below args s D A (fun q (σ : StM) => (wM cI cZ a q σ)) res 0 0) (F0 m 0 ls []) := by
  obtain ⟨hx, hb, hr, hml, hown, hts, hlk, hK⟩ := id C0
  unfold f_M_addBoth at h
  refine lv_iconst (v := 1) hx hb d_M_addBoth_0 (by decide) ?_
  refine lv_istore_n (lv' := [(2, .int 1), (0, .ref (a 20)), (1, .int x1)]) hx hb d_M_addBoth_1 rfl hl (by decide) rfl (fun ls hl => ?_)
  exact t_M_addBoth_2 (a := a) C0 hA  h hP hD hS (lv_sub hl [1, 2, 0] rfl)
set_option maxHeartbeats 4000000 in
set_option maxRecDepth 100000 in
theorem c_M_addBoth (l : Launch) (D : va_G) (cI cZ : ClassId) (a : Nat → Nat) (q : Nat) (σ : StM) (x1 : Int32) {res : Int32 × StM} (h : f_M_addBoth σ x1 = some res) : RwM l y_M_addBoth b_M_addBoth 6 (some .int) 0 0 D [(cI, .int), (cZ, .boolean)] [.ref (a 20), .int x1] (fun q (σ : StM) => (wM cI cZ a q σ)) q σ res :=
  rw_of (by decide) (Nat.le_of_ble_eq_true rfl) (fun p e s m args below meth c ls A C0 hA hP hD hS hl => t_M_addBoth_0 (a := a) C0 hA h hP hD hS (lv_sub hl [0, 1] rfl))
