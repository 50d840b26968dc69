def f_M_add_104 (σ : StM) : Option (Int32 × StM) :=
  some (0, (M_set_full σ 1))
def f_M_add_181 (σ : StM) (t1 t2 : Int32) : Option (Int32 × StM) :=
  if t1 < 0 ∨ 300 ≤ t1.toNatClampNeg then none else
  if (30 * (M_types (M_put_partCount σ t1 t2))) < 0 ∨ 9000 ≤ (30 * (M_types (M_put_partCount σ t1 t2))).toNatClampNeg then none else
  some (((M_types (M_set_types (M_put_partRow (M_put_partCount σ t1 t2) (30 * (M_types (M_put_partCount σ t1 t2))) (M_types (M_put_partCount σ t1 t2))) ((M_types (M_put_partRow (M_put_partCount σ t1 t2) (30 * (M_types (M_put_partCount σ t1 t2))) (M_types (M_put_partCount σ t1 t2)))) + 1))) - 1), (M_set_types (M_put_partRow (M_put_partCount σ t1 t2) (30 * (M_types (M_put_partCount σ t1 t2))) (M_types (M_put_partCount σ t1 t2))) ((M_types (M_put_partRow (M_put_partCount σ t1 t2) (30 * (M_types (M_put_partCount σ t1 t2))) (M_types (M_put_partCount σ t1 t2)))) + 1)))
def f_M_add_84 (σ : StM) (x1 x2 x3 x4 t0 t1 : Int32) : Option (Int32 × StM) :=
  if (M_types σ) = 300 then
    f_M_add_104 σ
  else
    if (t0 + t1) ≤ 100 then
      if (M_types σ) < 0 ∨ 300 ≤ (M_types σ).toNatClampNeg then none else
      if (M_types (M_put_kind σ (M_types σ) x1)) < 0 ∨ 300 ≤ (M_types (M_put_kind σ (M_types σ) x1)).toNatClampNeg then none else
      if (M_types (M_put_classOf (M_put_kind σ (M_types σ) x1) (M_types (M_put_kind σ (M_types σ) x1)) x2)) < 0 ∨ 300 ≤ (M_types (M_put_classOf (M_put_kind σ (M_types σ) x1) (M_types (M_put_kind σ (M_types σ) x1)) x2)).toNatClampNeg then none else
      if (M_types (M_put_how (M_put_classOf (M_put_kind σ (M_types σ) x1) (M_types (M_put_kind σ (M_types σ) x1)) x2) (M_types (M_put_classOf (M_put_kind σ (M_types σ) x1) (M_types (M_put_kind σ (M_types σ) x1)) x2)) x3)) < 0 ∨ 300 ≤ (M_types (M_put_how (M_put_classOf (M_put_kind σ (M_types σ) x1) (M_types (M_put_kind σ (M_types σ) x1)) x2) (M_types (M_put_classOf (M_put_kind σ (M_types σ) x1) (M_types (M_put_kind σ (M_types σ) x1)) x2)) x3)).toNatClampNeg then none else
      if (M_types (M_put_inner (M_put_how (M_put_classOf (M_put_kind σ (M_types σ) x1) (M_types (M_put_kind σ (M_types σ) x1)) x2) (M_types (M_put_classOf (M_put_kind σ (M_types σ) x1) (M_types (M_put_kind σ (M_types σ) x1)) x2)) x3) (M_types (M_put_how (M_put_classOf (M_put_kind σ (M_types σ) x1) (M_types (M_put_kind σ (M_types σ) x1)) x2) (M_types (M_put_classOf (M_put_kind σ (M_types σ) x1) (M_types (M_put_kind σ (M_types σ) x1)) x2)) x3)) x4)) < 0 ∨ 300 ≤ (M_types (M_put_inner (M_put_how (M_put_classOf (M_put_kind σ (M_types σ) x1) (M_types (M_put_kind σ (M_types σ) x1)) x2) (M_types (M_put_classOf (M_put_kind σ (M_types σ) x1) (M_types (M_put_kind σ (M_types σ) x1)) x2)) x3) (M_types (M_put_how (M_put_classOf (M_put_kind σ (M_types σ) x1) (M_types (M_put_kind σ (M_types σ) x1)) x2) (M_types (M_put_classOf (M_put_kind σ (M_types σ) x1) (M_types (M_put_kind σ (M_types σ) x1)) x2)) x3)) x4)).toNatClampNeg then none else
      if x1 = 1 then
        f_M_add_181 (M_put_made (M_put_inner (M_put_how (M_put_classOf (M_put_kind σ (M_types σ) x1) (M_types (M_put_kind σ (M_types σ) x1)) x2) (M_types (M_put_classOf (M_put_kind σ (M_types σ) x1) (M_types (M_put_kind σ (M_types σ) x1)) x2)) x3) (M_types (M_put_how (M_put_classOf (M_put_kind σ (M_types σ) x1) (M_types (M_put_kind σ (M_types σ) x1)) x2) (M_types (M_put_classOf (M_put_kind σ (M_types σ) x1) (M_types (M_put_kind σ (M_types σ) x1)) x2)) x3)) x4) (M_types (M_put_inner (M_put_how (M_put_classOf (M_put_kind σ (M_types σ) x1) (M_types (M_put_kind σ (M_types σ) x1)) x2) (M_types (M_put_classOf (M_put_kind σ (M_types σ) x1) (M_types (M_put_kind σ (M_types σ) x1)) x2)) x3) (M_types (M_put_how (M_put_classOf (M_put_kind σ (M_types σ) x1) (M_types (M_put_kind σ (M_types σ) x1)) x2) (M_types (M_put_classOf (M_put_kind σ (M_types σ) x1) (M_types (M_put_kind σ (M_types σ) x1)) x2)) x3)) x4)) (t0 + t1)) (M_types (M_put_made (M_put_inner (M_put_how (M_put_classOf (M_put_kind σ (M_types σ) x1) (M_types (M_put_kind σ (M_types σ) x1)) x2) (M_types (M_put_classOf (M_put_kind σ (M_types σ) x1) (M_types (M_put_kind σ (M_types σ) x1)) x2)) x3) (M_types (M_put_how (M_put_classOf (M_put_kind σ (M_types σ) x1) (M_types (M_put_kind σ (M_types σ) x1)) x2) (M_types (M_put_classOf (M_put_kind σ (M_types σ) x1) (M_types (M_put_kind σ (M_types σ) x1)) x2)) x3)) x4) (M_types (M_put_inner (M_put_how (M_put_classOf (M_put_kind σ (M_types σ) x1) (M_types (M_put_kind σ (M_types σ) x1)) x2) (M_types (M_put_classOf (M_put_kind σ (M_types σ) x1) (M_types (M_put_kind σ (M_types σ) x1)) x2)) x3) (M_types (M_put_how (M_put_classOf (M_put_kind σ (M_types σ) x1) (M_types (M_put_kind σ (M_types σ) x1)) x2) (M_types (M_put_classOf (M_put_kind σ (M_types σ) x1) (M_types (M_put_kind σ (M_types σ) x1)) x2)) x3)) x4)) (t0 + t1))) 1
      else
        f_M_add_181 (M_put_made (M_put_inner (M_put_how (M_put_classOf (M_put_kind σ (M_types σ) x1) (M_types (M_put_kind σ (M_types σ) x1)) x2) (M_types (M_put_classOf (M_put_kind σ (M_types σ) x1) (M_types (M_put_kind σ (M_types σ) x1)) x2)) x3) (M_types (M_put_how (M_put_classOf (M_put_kind σ (M_types σ) x1) (M_types (M_put_kind σ (M_types σ) x1)) x2) (M_types (M_put_classOf (M_put_kind σ (M_types σ) x1) (M_types (M_put_kind σ (M_types σ) x1)) x2)) x3)) x4) (M_types (M_put_inner (M_put_how (M_put_classOf (M_put_kind σ (M_types σ) x1) (M_types (M_put_kind σ (M_types σ) x1)) x2) (M_types (M_put_classOf (M_put_kind σ (M_types σ) x1) (M_types (M_put_kind σ (M_types σ) x1)) x2)) x3) (M_types (M_put_how (M_put_classOf (M_put_kind σ (M_types σ) x1) (M_types (M_put_kind σ (M_types σ) x1)) x2) (M_types (M_put_classOf (M_put_kind σ (M_types σ) x1) (M_types (M_put_kind σ (M_types σ) x1)) x2)) x3)) x4)) (t0 + t1)) (M_types (M_put_made (M_put_inner (M_put_how (M_put_classOf (M_put_kind σ (M_types σ) x1) (M_types (M_put_kind σ (M_types σ) x1)) x2) (M_types (M_put_classOf (M_put_kind σ (M_types σ) x1) (M_types (M_put_kind σ (M_types σ) x1)) x2)) x3) (M_types (M_put_how (M_put_classOf (M_put_kind σ (M_types σ) x1) (M_types (M_put_kind σ (M_types σ) x1)) x2) (M_types (M_put_classOf (M_put_kind σ (M_types σ) x1) (M_types (M_put_kind σ (M_types σ) x1)) x2)) x3)) x4) (M_types (M_put_inner (M_put_how (M_put_classOf (M_put_kind σ (M_types σ) x1) (M_types (M_put_kind σ (M_types σ) x1)) x2) (M_types (M_put_classOf (M_put_kind σ (M_types σ) x1) (M_types (M_put_kind σ (M_types σ) x1)) x2)) x3) (M_types (M_put_how (M_put_classOf (M_put_kind σ (M_types σ) x1) (M_types (M_put_kind σ (M_types σ) x1)) x2) (M_types (M_put_classOf (M_put_kind σ (M_types σ) x1) (M_types (M_put_kind σ (M_types σ) x1)) x2)) x3)) x4)) (t0 + t1))) 0
    else
      f_M_add_104 σ
def f_M_add_3_s (k3 : StM → Int32 → Int32 → Int32 → Int32 → Int32 → Option (Int32 × StM)) (σ : StM) (x1 x2 x3 x4 x5 : Int32) : Option (Int32 × StM) :=
  if (M_types σ) ≤ x5 then
    if x4 = (-1) then
      f_M_add_84 σ x1 x2 x3 x4 1 0
    else
      if x4 < 0 ∨ 300 ≤ x4.toNatClampNeg then none else
      f_M_add_84 σ x1 x2 x3 x4 1 ((M_made σ) x4.toNatClampNeg)
  else
    if x5 < 0 ∨ 300 ≤ x5.toNatClampNeg then none else
    if ((M_kind σ) x5.toNatClampNeg) = x1 then
      if x5 < 0 ∨ 300 ≤ x5.toNatClampNeg then none else
      if ((M_classOf σ) x5.toNatClampNeg) = x2 then
        if x5 < 0 ∨ 300 ≤ x5.toNatClampNeg then none else
        if ((M_how σ) x5.toNatClampNeg) = x3 then
          if x5 < 0 ∨ 300 ≤ x5.toNatClampNeg then none else
          if ((M_inner σ) x5.toNatClampNeg) = x4 then
            some (x5, σ)
          else
            k3 σ x1 x2 x3 x4 (x5 + 1)
        else
          k3 σ x1 x2 x3 x4 (x5 + 1)
      else
        k3 σ x1 x2 x3 x4 (x5 + 1)
    else
      k3 σ x1 x2 x3 x4 (x5 + 1)
def f_M_add_3 : Nat → StM → Int32 → Int32 → Int32 → Int32 → Int32 → Option (Int32 × StM)
  | 0, _, _, _, _, _, _ => none
  | n + 1, σ, x1, x2, x3, x4, x5 => f_M_add_3_s (f_M_add_3 n) σ x1 x2 x3 x4 x5
def f_M_add (σ : StM) (x1 x2 x3 x4 : Int32) : Option (Int32 × StM) :=
  f_M_add_3 1000 σ x1 x2 x3 x4 0
set_option maxHeartbeats 4000000 in
set_option maxRecDepth 100000 in
theorem t_M_add_104 {p : Program} {l : Launch} {e : Env} {s : State} {m : MethodId} {args : Array Value} {below : List Frame} {meth : Method} {c : Code} {D : va_G} {cI cZ : ClassId} {a : Nat → Nat} {A : Nat → Prop} (C0 : Am p s m args meth c b_M_add (some .int) 6 R_M D [(cI, .int), (cZ, .boolean)]) (hA : ∀ q, s.heap.size ≤ q → A q) {res : Int32 × StM}   {q : Nat} {σ : StM} (h : f_M_add_104 σ = some res) {H : Heap} {locs : List Loc} (hP : va_P D vwCl (wM cI cZ a q σ) H) (hD : va_D A (wM cI cZ a q σ)) (hS : va_S A s.heap H locs) {ls : Array Slot} (hl : lv_has ls 6 [(0, .ref (a 20))]) : W p l e (rmK 0 0 0 0) s m args below meth c H locs 0 0 (RwQ below args s D A (fun q (σ : StM) => (wM cI cZ a q σ)) res 0 0) (F0 m 104 ls []) := by
  obtain ⟨hx, hb, hr, hml, hown, hts, hlk, hK⟩ := id C0
  unfold f_M_add_104 at h
  refine lv_aload_n hx hb d_M_add_104 rfl (lv_at hl 0 rfl) ?_
  refine lv_iconst (v := 1) hx hb d_M_add_105 (by decide) ?_
  refine rw_put (v := .int 1) (fty := .boolean) (C := R_M) (T := F_M) (N := 35) C0 hP hD hS i_M ty_M tyok_M nn_M 0 rfl rfl 18 (by decide) (hts _ wd_364) rfl rfl (by decide +kernel) rfl rfl (Nat.le_of_ble_eq_true rfl) d_M_add_106 (Wn := (wM cI cZ a q (M_set_full σ 1))) ws_M_set_full (fun H locs hP hD hS => ?_)
  refine lv_iconst (v := 0) hx hb d_M_add_109 (by decide) ?_
  exact rw_ret C0 hP hD hS (Option.some.inj h) d_M_add_110
set_option maxHeartbeats 4000000 in
set_option maxRecDepth 100000 in
theorem t_M_add_181 {p : Program} {l : Launch} {e : Env} {s : State} {m : MethodId} {args : Array Value} {below : List Frame} {meth : Method} {c : Code} {D : va_G} {cI cZ : ClassId} {a : Nat → Nat} {A : Nat → Prop} (C0 : Am p s m args meth c b_M_add (some .int) 6 R_M D [(cI, .int), (cZ, .boolean)]) (hA : ∀ q, s.heap.size ≤ q → A q) {res : Int32 × StM}   {q : Nat} {σ : StM} {t1 t2 : Int32} (h : f_M_add_181 σ t1 t2 = some res) {H : Heap} {locs : List Loc} (hP : va_P D vwCl (wM cI cZ a q σ) H) (hD : va_D A (wM cI cZ a q σ)) (hS : va_S A s.heap H locs) {ls : Array Slot} (hl : lv_has ls 6 [(0, .ref (a 20))]) : W p l e (rmK 0 0 0 0) s m args below meth c H locs 0 0 (RwQ below args s D A (fun q (σ : StM) => (wM cI cZ a q σ)) res 0 0) (F0 m 181 ls [.int t2, .int t1, .ref (a 32)]) := by
  obtain ⟨hx, hb, hr, hml, hown, hts, hlk, hK⟩ := id C0
  unfold f_M_add_181 at h
  replace h := gd h
  obtain ⟨hi, h⟩ := h
  refine rw_iast C0 hP hD hS 12 0 rfl rfl hi d_M_add_181 (Wn := (wM cI cZ a q (M_put_partCount σ t1 t2))) ws_M_put_partCount (fun H locs hP hD hS => ?_)
  refine lv_aload_n hx hb d_M_add_182 rfl (lv_at hl 0 rfl) ?_
  refine va_get (ci := 4) (v := .ref (a 33)) (C := R_M) (T := F_M) (N := 35) hx hb hts i_M hown hK.1 hP 0 rfl rfl 17 (by decide) (hts _ wd_355) (fun _ h9 => h9) rfl d_M_add_183 ?_
  refine lv_bipush (v := 30) hx hb d_M_add_186 (by decide) ?_
  refine lv_aload_n hx hb d_M_add_188 rfl (lv_at hl 0 rfl) ?_
  refine va_get (ci := 4) (v := .int (M_types (M_put_partCount σ t1 t2))) (C := R_M) (T := F_M) (N := 35) hx hb hts i_M hown hK.1 hP 0 rfl rfl 10 (by decide) (hts _ wd_344) (fun _ h9 => h9) rfl d_M_add_189 ?_
  refine lv_imul hx hb d_M_add_192 ?_
  refine lv_aload_n hx hb d_M_add_193 rfl (lv_at hl 0 rfl) ?_
  refine va_get (ci := 4) (v := .int (M_types (M_put_partCount σ t1 t2))) (C := R_M) (T := F_M) (N := 35) hx hb hts i_M hown hK.1 hP 0 rfl rfl 10 (by decide) (hts _ wd_344) (fun _ h9 => h9) rfl d_M_add_194 ?_
  replace h := gd h
  obtain ⟨hi, h⟩ := h
  refine rw_iast C0 hP hD hS 13 0 rfl rfl hi d_M_add_197 (Wn := (wM cI cZ a q (M_put_partRow (M_put_partCount σ t1 t2) (30 * (M_types (M_put_partCount σ t1 t2))) (M_types (M_put_partCount σ t1 t2))))) ws_M_put_partRow (fun H locs hP hD hS => ?_)
  refine lv_aload_n hx hb d_M_add_198 rfl (lv_at hl 0 rfl) ?_
  refine lv_dup hx hb d_M_add_199 rfl ?_
  refine va_get (ci := 4) (v := .int (M_types (M_put_partRow (M_put_partCount σ t1 t2) (30 * (M_types (M_put_partCount σ t1 t2))) (M_types (M_put_partCount σ t1 t2))))) (C := R_M) (T := F_M) (N := 35) hx hb hts i_M hown hK.1 hP 0 rfl rfl 10 (by decide) (hts _ wd_344) (fun _ h9 => h9) rfl d_M_add_200 ?_
  refine lv_iconst (v := 1) hx hb d_M_add_203 (by decide) ?_
  refine lv_iadd hx hb d_M_add_204 ?_
  refine rw_put (v := .int ((M_types (M_put_partRow (M_put_partCount σ t1 t2) (30 * (M_types (M_put_partCount σ t1 t2))) (M_types (M_put_partCount σ t1 t2)))) + 1)) (fty := .int) (C := R_M) (T := F_M) (N := 35) C0 hP hD hS i_M ty_M tyok_M nn_M 0 rfl rfl 10 (by decide) (hts _ wd_344) rfl rfl (by decide +kernel) rfl rfl (Nat.le_of_ble_eq_true rfl) d_M_add_205 (Wn := (wM cI cZ a q (M_set_types (M_put_partRow (M_put_partCount σ t1 t2) (30 * (M_types (M_put_partCount σ t1 t2))) (M_types (M_put_partCount σ t1 t2))) ((M_types (M_put_partRow (M_put_partCount σ t1 t2) (30 * (M_types (M_put_partCount σ t1 t2))) (M_types (M_put_partCount σ t1 t2)))) + 1)))) ws_M_set_types (fun H locs hP hD hS => ?_)
  refine lv_aload_n hx hb d_M_add_208 rfl (lv_at hl 0 rfl) ?_
  refine va_get (ci := 4) (v := .int (M_types (M_set_types (M_put_partRow (M_put_partCount σ t1 t2) (30 * (M_types (M_put_partCount σ t1 t2))) (M_types (M_put_partCount σ t1 t2))) ((M_types (M_put_partRow (M_put_partCount σ t1 t2) (30 * (M_types (M_put_partCount σ t1 t2))) (M_types (M_put_partCount σ t1 t2)))) + 1)))) (C := R_M) (T := F_M) (N := 35) hx hb hts i_M hown hK.1 hP 0 rfl rfl 10 (by decide) (hts _ wd_344) (fun _ h9 => h9) rfl d_M_add_209 ?_
  refine lv_iconst (v := 1) hx hb d_M_add_212 (by decide) ?_
  refine lv_isub hx hb d_M_add_213 ?_
  exact rw_ret C0 hP hD hS (Option.some.inj h) d_M_add_214
set_option maxHeartbeats 4000000 in
set_option maxRecDepth 100000 in
theorem t_M_add_84 {p : Program} {l : Launch} {e : Env} {s : State} {m : MethodId} {args : Array Value} {below : List Frame} {meth : Method} {c : Code} {D : va_G} {cI cZ : ClassId} {a : Nat → Nat} {A : Nat → Prop} (C0 : Am p s m args meth c b_M_add (some .int) 6 R_M D [(cI, .int), (cZ, .boolean)]) (hA : ∀ q, s.heap.size ≤ q → A q) {res : Int32 × StM}   {q : Nat} {σ : StM} {x1 x2 x3 x4 t0 t1 : Int32} (h : f_M_add_84 σ x1 x2 x3 x4 t0 t1 = some res) {H : Heap} {locs : List Loc} (hP : va_P D vwCl (wM cI cZ a q σ) H) (hD : va_D A (wM cI cZ a q σ)) (hS : va_S A s.heap H locs) {ls : Array Slot} (hl : lv_has ls 6 [(0, .ref (a 20)), (1, .int x1), (2, .int x2), (3, .int x3), (4, .int x4)]) : W p l e (rmK 0 0 0 0) s m args below meth c H locs 0 0 (RwQ below args s D A (fun q (σ : StM) => (wM cI cZ a q σ)) res 0 0) (F0 m 84 ls [.int t1, .int t0]) := by
  obtain ⟨hx, hb, hr, hml, hown, hts, hlk, hK⟩ := id C0
  unfold f_M_add_84 at h
  refine lv_iadd hx hb d_M_add_84 ?_
  refine lv_istore (lv' := [(5, .int (t0 + t1)), (0, .ref (a 20)), (1, .int x1), (2, .int x2), (3, .int x3), (4, .int x4)]) hx hb d_M_add_85 hl (by decide) rfl (fun ls hl => ?_)
  refine lv_aload_n hx hb d_M_add_87 rfl (lv_at hl 1 rfl) ?_
  refine va_get (ci := 4) (v := .int (M_types σ)) (C := R_M) (T := F_M) (N := 35) hx hb hts i_M hown hK.1 hP 0 rfl rfl 10 (by decide) (hts _ wd_344) (fun _ h9 => h9) rfl d_M_add_88 ?_
  refine lv_sipush (v := 300) hx hb d_M_add_91 (by decide) ?_
  refine lv_icmp_eq (tgt := 104) hx hb d_M_add_94 (by decide) (fun hc => ?_) (fun hc => ?_)
  · rw [if_pos hc] at h
    exact t_M_add_104 (a := a) C0 hA  h hP hD hS (lv_sub hl [1] rfl)
  · rw [if_neg hc] at h
    refine lv_iload hx hb d_M_add_97 (lv_at hl 0 rfl) ?_
    refine lv_bipush (v := 100) hx hb d_M_add_99 (by decide) ?_
    refine lv_icmp_le (tgt := 111) hx hb d_M_add_101 (by decide) (fun hc => ?_) (fun hc => ?_)
    · rw [if_pos hc] at h
      refine lv_aload_n hx hb d_M_add_111 rfl (lv_at hl 1 rfl) ?_
      refine va_get (ci := 4) (v := .ref (a 27)) (C := R_M) (T := F_M) (N := 35) hx hb hts i_M hown hK.1 hP 0 rfl rfl 11 (by decide) (hts _ wd_353) (fun _ h9 => h9) rfl d_M_add_112 ?_
      refine lv_aload_n hx hb d_M_add_115 rfl (lv_at hl 1 rfl) ?_
      refine va_get (ci := 4) (v := .int (M_types σ)) (C := R_M) (T := F_M) (N := 35) hx hb hts i_M hown hK.1 hP 0 rfl rfl 10 (by decide) (hts _ wd_344) (fun _ h9 => h9) rfl d_M_add_116 ?_
      refine lv_iload_n hx hb d_M_add_119 rfl (lv_at hl 2 rfl) ?_
      replace h := gd h
      obtain ⟨hi, h⟩ := h
      refine rw_iast C0 hP hD hS 7 0 rfl rfl hi d_M_add_120 (Wn := (wM cI cZ a q (M_put_kind σ (M_types σ) x1))) ws_M_put_kind (fun H locs hP hD hS => ?_)
      refine lv_aload_n hx hb d_M_add_121 rfl (lv_at hl 1 rfl) ?_
      refine va_get (ci := 4) (v := .ref (a 28)) (C := R_M) (T := F_M) (N := 35) hx hb hts i_M hown hK.1 hP 0 rfl rfl 12 (by decide) (hts _ wd_356) (fun _ h9 => h9) rfl d_M_add_122 ?_
      refine lv_aload_n hx hb d_M_add_125 rfl (lv_at hl 1 rfl) ?_
      refine va_get (ci := 4) (v := .int (M_types (M_put_kind σ (M_types σ) x1))) (C := R_M) (T := F_M) (N := 35) hx hb hts i_M hown hK.1 hP 0 rfl rfl 10 (by decide) (hts _ wd_344) (fun _ h9 => h9) rfl d_M_add_126 ?_
      refine lv_iload_n hx hb d_M_add_129 rfl (lv_at hl 3 rfl) ?_
      replace h := gd h
      obtain ⟨hi, h⟩ := h
      refine rw_iast C0 hP hD hS 8 0 rfl rfl hi d_M_add_130 (Wn := (wM cI cZ a q (M_put_classOf (M_put_kind σ (M_types σ) x1) (M_types (M_put_kind σ (M_types σ) x1)) x2))) ws_M_put_classOf (fun H locs hP hD hS => ?_)
      refine lv_aload_n hx hb d_M_add_131 rfl (lv_at hl 1 rfl) ?_
      refine va_get (ci := 4) (v := .ref (a 29)) (C := R_M) (T := F_M) (N := 35) hx hb hts i_M hown hK.1 hP 0 rfl rfl 13 (by decide) (hts _ wd_357) (fun _ h9 => h9) rfl d_M_add_132 ?_
      refine lv_aload_n hx hb d_M_add_135 rfl (lv_at hl 1 rfl) ?_
      refine va_get (ci := 4) (v := .int (M_types (M_put_classOf (M_put_kind σ (M_types σ) x1) (M_types (M_put_kind σ (M_types σ) x1)) x2))) (C := R_M) (T := F_M) (N := 35) hx hb hts i_M hown hK.1 hP 0 rfl rfl 10 (by decide) (hts _ wd_344) (fun _ h9 => h9) rfl d_M_add_136 ?_
      refine lv_iload_n hx hb d_M_add_139 rfl (lv_at hl 4 rfl) ?_
      replace h := gd h
      obtain ⟨hi, h⟩ := h
      refine rw_iast C0 hP hD hS 9 0 rfl rfl hi d_M_add_140 (Wn := (wM cI cZ a q (M_put_how (M_put_classOf (M_put_kind σ (M_types σ) x1) (M_types (M_put_kind σ (M_types σ) x1)) x2) (M_types (M_put_classOf (M_put_kind σ (M_types σ) x1) (M_types (M_put_kind σ (M_types σ) x1)) x2)) x3))) ws_M_put_how (fun H locs hP hD hS => ?_)
      refine lv_aload_n hx hb d_M_add_141 rfl (lv_at hl 1 rfl) ?_
      refine va_get (ci := 4) (v := .ref (a 30)) (C := R_M) (T := F_M) (N := 35) hx hb hts i_M hown hK.1 hP 0 rfl rfl 14 (by decide) (hts _ wd_358) (fun _ h9 => h9) rfl d_M_add_142 ?_
      refine lv_aload_n hx hb d_M_add_145 rfl (lv_at hl 1 rfl) ?_
      refine va_get (ci := 4) (v := .int (M_types (M_put_how (M_put_classOf (M_put_kind σ (M_types σ) x1) (M_types (M_put_kind σ (M_types σ) x1)) x2) (M_types (M_put_classOf (M_put_kind σ (M_types σ) x1) (M_types (M_put_kind σ (M_types σ) x1)) x2)) x3))) (C := R_M) (T := F_M) (N := 35) hx hb hts i_M hown hK.1 hP 0 rfl rfl 10 (by decide) (hts _ wd_344) (fun _ h9 => h9) rfl d_M_add_146 ?_
      refine lv_iload hx hb d_M_add_149 (lv_at hl 5 rfl) ?_
      replace h := gd h
      obtain ⟨hi, h⟩ := h
      refine rw_iast C0 hP hD hS 10 0 rfl rfl hi d_M_add_151 (Wn := (wM cI cZ a q (M_put_inner (M_put_how (M_put_classOf (M_put_kind σ (M_types σ) x1) (M_types (M_put_kind σ (M_types σ) x1)) x2) (M_types (M_put_classOf (M_put_kind σ (M_types σ) x1) (M_types (M_put_kind σ (M_types σ) x1)) x2)) x3) (M_types (M_put_how (M_put_classOf (M_put_kind σ (M_types σ) x1) (M_types (M_put_kind σ (M_types σ) x1)) x2) (M_types (M_put_classOf (M_put_kind σ (M_types σ) x1) (M_types (M_put_kind σ (M_types σ) x1)) x2)) x3)) x4))) ws_M_put_inner (fun H locs hP hD hS => ?_)
      refine lv_aload_n hx hb d_M_add_152 rfl (lv_at hl 1 rfl) ?_
      refine va_get (ci := 4) (v := .ref (a 31)) (C := R_M) (T := F_M) (N := 35) hx hb hts i_M hown hK.1 hP 0 rfl rfl 15 (by decide) (hts _ wd_363) (fun _ h9 => h9) rfl d_M_add_153 ?_
      refine lv_aload_n hx hb d_M_add_156 rfl (lv_at hl 1 rfl) ?_
      refine va_get (ci := 4) (v := .int (M_types (M_put_inner (M_put_how (M_put_classOf (M_put_kind σ (M_types σ) x1) (M_types (M_put_kind σ (M_types σ) x1)) x2) (M_types (M_put_classOf (M_put_kind σ (M_types σ) x1) (M_types (M_put_kind σ (M_types σ) x1)) x2)) x3) (M_types (M_put_how (M_put_classOf (M_put_kind σ (M_types σ) x1) (M_types (M_put_kind σ (M_types σ) x1)) x2) (M_types (M_put_classOf (M_put_kind σ (M_types σ) x1) (M_types (M_put_kind σ (M_types σ) x1)) x2)) x3)) x4))) (C := R_M) (T := F_M) (N := 35) hx hb hts i_M hown hK.1 hP 0 rfl rfl 10 (by decide) (hts _ wd_344) (fun _ h9 => h9) rfl d_M_add_157 ?_
      refine lv_iload hx hb d_M_add_160 (lv_at hl 0 rfl) ?_
      replace h := gd h
      obtain ⟨hi, h⟩ := h
      refine rw_iast C0 hP hD hS 11 0 rfl rfl hi d_M_add_162 (Wn := (wM cI cZ a q (M_put_made (M_put_inner (M_put_how (M_put_classOf (M_put_kind σ (M_types σ) x1) (M_types (M_put_kind σ (M_types σ) x1)) x2) (M_types (M_put_classOf (M_put_kind σ (M_types σ) x1) (M_types (M_put_kind σ (M_types σ) x1)) x2)) x3) (M_types (M_put_how (M_put_classOf (M_put_kind σ (M_types σ) x1) (M_types (M_put_kind σ (M_types σ) x1)) x2) (M_types (M_put_classOf (M_put_kind σ (M_types σ) x1) (M_types (M_put_kind σ (M_types σ) x1)) x2)) x3)) x4) (M_types (M_put_inner (M_put_how (M_put_classOf (M_put_kind σ (M_types σ) x1) (M_types (M_put_kind σ (M_types σ) x1)) x2) (M_types (M_put_classOf (M_put_kind σ (M_types σ) x1) (M_types (M_put_kind σ (M_types σ) x1)) x2)) x3) (M_types (M_put_how (M_put_classOf (M_put_kind σ (M_types σ) x1) (M_types (M_put_kind σ (M_types σ) x1)) x2) (M_types (M_put_classOf (M_put_kind σ (M_types σ) x1) (M_types (M_put_kind σ (M_types σ) x1)) x2)) x3)) x4)) (t0 + t1)))) ws_M_put_made (fun H locs hP hD hS => ?_)
      refine lv_aload_n hx hb d_M_add_163 rfl (lv_at hl 1 rfl) ?_
      refine va_get (ci := 4) (v := .ref (a 32)) (C := R_M) (T := F_M) (N := 35) hx hb hts i_M hown hK.1 hP 0 rfl rfl 16 (by decide) (hts _ wd_354) (fun _ h9 => h9) rfl d_M_add_164 ?_
      refine lv_aload_n hx hb d_M_add_167 rfl (lv_at hl 1 rfl) ?_
      refine va_get (ci := 4) (v := .int (M_types (M_put_made (M_put_inner (M_put_how (M_put_classOf (M_put_kind σ (M_types σ) x1) (M_types (M_put_kind σ (M_types σ) x1)) x2) (M_types (M_put_classOf (M_put_kind σ (M_types σ) x1) (M_types (M_put_kind σ (M_types σ) x1)) x2)) x3) (M_types (M_put_how (M_put_classOf (M_put_kind σ (M_types σ) x1) (M_types (M_put_kind σ (M_types σ) x1)) x2) (M_types (M_put_classOf (M_put_kind σ (M_types σ) x1) (M_types (M_put_kind σ (M_types σ) x1)) x2)) x3)) x4) (M_types (M_put_inner (M_put_how (M_put_classOf (M_put_kind σ (M_types σ) x1) (M_types (M_put_kind σ (M_types σ) x1)) x2) (M_types (M_put_classOf (M_put_kind σ (M_types σ) x1) (M_types (M_put_kind σ (M_types σ) x1)) x2)) x3) (M_types (M_put_how (M_put_classOf (M_put_kind σ (M_types σ) x1) (M_types (M_put_kind σ (M_types σ) x1)) x2) (M_types (M_put_classOf (M_put_kind σ (M_types σ) x1) (M_types (M_put_kind σ (M_types σ) x1)) x2)) x3)) x4)) (t0 + t1)))) (C := R_M) (T := F_M) (N := 35) hx hb hts i_M hown hK.1 hP 0 rfl rfl 10 (by decide) (hts _ wd_344) (fun _ h9 => h9) rfl d_M_add_168 ?_
      refine lv_iload_n hx hb d_M_add_171 rfl (lv_at hl 2 rfl) ?_
      refine lv_iconst (v := 1) hx hb d_M_add_172 (by decide) ?_
      refine lv_icmp_ne (tgt := 180) hx hb d_M_add_173 (by decide) (fun hc => ?_) (fun hc => ?_)
      · rw [if_neg hc] at h
        refine lv_iconst (v := 0) hx hb d_M_add_180 (by decide) ?_
        exact t_M_add_181 (a := a) C0 hA  h hP hD hS (lv_sub hl [1] rfl)
      · rw [if_pos hc] at h
        refine lv_iconst (v := 1) hx hb d_M_add_176 (by decide) ?_
        refine lv_goto (tgt := 181) hx hb d_M_add_177 (by decide) ?_
        exact t_M_add_181 (a := a) C0 hA  h hP hD hS (lv_sub hl [1] rfl)
    · rw [if_neg hc] at h
      exact t_M_add_104 (a := a) C0 hA  h hP hD hS (lv_sub hl [1] rfl)
set_option maxHeartbeats 4000000 in
set_option maxRecDepth 100000 in
theorem t_M_add_3_s {p : Program} {l : Launch} {e : Env} {s : State} {m : MethodId} {args : Array Value} {below : List Frame} {meth : Method} {c : Code} {D : va_G} {cI cZ : ClassId} {a : Nat → Nat} {A : Nat → Prop} (C0 : Am p s m args meth c b_M_add (some .int) 6 R_M D [(cI, .int), (cZ, .boolean)]) (hA : ∀ q, s.heap.size ≤ q → A q) {res : Int32 × StM} {k3 : StM → Int32 → Int32 → Int32 → Int32 → Int32 → Option (Int32 × StM)}  (hk3 : ∀ (q : Nat) (σ : StM) (x1 x2 x3 x4 x5 : Int32) (H : Heap) (locs : List Loc) (ls : Array Slot), k3 σ x1 x2 x3 x4 x5 = some res → va_P D vwCl (wM cI cZ a q σ) H → va_D A (wM cI cZ a q σ) → va_S A s.heap H locs → lv_has ls 6 [(0, .ref (a 20)), (1, .int x1), (2, .int x2), (3, .int x3), (4, .int x4), (5, .int x5)] → W p l e (rmK 0 0 0 0) s m args below meth c H locs 0 0 (RwQ below args s D A (fun q (σ : StM) => (wM cI cZ a q σ)) res 0 0) (F0 m 3 ls [])) {q : Nat} {σ : StM} {x1 x2 x3 x4 x5 : Int32} (h : f_M_add_3_s k3 σ x1 x2 x3 x4 x5 = some res) {H : Heap} {locs : List Loc} (hP : va_P D vwCl (wM cI cZ a q σ) H) (hD : va_D A (wM cI cZ a q σ)) (hS : va_S A s.heap H locs) {ls : Array Slot} (hl : lv_has ls 6 [(0, .ref (a 20)), (1, .int x1), (2, .int x2), (3, .int x3), (4, .int x4), (5, .int x5)]) : W p l e (rmK 0 0 0 0) s m args below meth c H locs 0 0 (RwQ below args s D A (fun q (σ : StM) => (wM cI cZ a q σ)) res 0 0) (F0 m 3 ls []) := by
  obtain ⟨hx, hb, hr, hml, hown, hts, hlk, hK⟩ := id C0
  unfold f_M_add_3_s at h
  refine lv_iload hx hb d_M_add_3 (lv_at hl 5 rfl) ?_
  refine lv_aload_n hx hb d_M_add_5 rfl (lv_at hl 0 rfl) ?_
  refine va_get (ci := 4) (v := .int (M_types σ)) (C := R_M) (T := F_M) (N := 35) hx hb hts i_M hown hK.1 hP 0 rfl rfl 10 (by decide) (hts _ wd_344) (fun _ h9 => h9) rfl d_M_add_6 ?_
  refine lv_icmp_ge (tgt := 66) hx hb d_M_add_9 (by decide) (fun hc => ?_) (fun hc => ?_)
  · rw [if_pos hc] at h
    refine lv_iconst (v := 1) hx hb d_M_add_66 (by decide) ?_
    refine lv_iload hx hb d_M_add_67 (lv_at hl 4 rfl) ?_
    refine lv_iconst (v := (-1)) hx hb d_M_add_69 (by decide) ?_
    refine lv_icmp_ne (tgt := 77) hx hb d_M_add_70 (by decide) (fun hc => ?_) (fun hc => ?_)
    · rw [if_neg hc] at h
      refine lv_aload_n hx hb d_M_add_77 rfl (lv_at hl 0 rfl) ?_
      refine va_get (ci := 4) (v := .ref (a 31)) (C := R_M) (T := F_M) (N := 35) hx hb hts i_M hown hK.1 hP 0 rfl rfl 15 (by decide) (hts _ wd_363) (fun _ h9 => h9) rfl d_M_add_78 ?_
      refine lv_iload hx hb d_M_add_81 (lv_at hl 4 rfl) ?_
      replace h := gd h
      obtain ⟨hi, h⟩ := h
      refine va_iald hx hb hK.1 hP 11 0 rfl rfl hi d_M_add_83 ?_
      exact t_M_add_84 (a := a) C0 hA  h hP hD hS (lv_sub hl [0, 1, 2, 3, 4] rfl)
    · rw [if_pos hc] at h
      refine lv_iconst (v := 0) hx hb d_M_add_73 (by decide) ?_
      refine lv_goto (tgt := 84) hx hb d_M_add_74 (by decide) ?_
      exact t_M_add_84 (a := a) C0 hA  h hP hD hS (lv_sub hl [0, 1, 2, 3, 4] rfl)
  · rw [if_neg hc] at h
    refine lv_aload_n hx hb d_M_add_12 rfl (lv_at hl 0 rfl) ?_
    refine va_get (ci := 4) (v := .ref (a 27)) (C := R_M) (T := F_M) (N := 35) hx hb hts i_M hown hK.1 hP 0 rfl rfl 11 (by decide) (hts _ wd_353) (fun _ h9 => h9) rfl d_M_add_13 ?_
    refine lv_iload hx hb d_M_add_16 (lv_at hl 5 rfl) ?_
    replace h := gd h
    obtain ⟨hi, h⟩ := h
    refine va_iald hx hb hK.1 hP 7 0 rfl rfl hi d_M_add_18 ?_
    refine lv_iload_n hx hb d_M_add_19 rfl (lv_at hl 1 rfl) ?_
    refine lv_icmp_ne (tgt := 60) hx hb d_M_add_20 (by decide) (fun hc => ?_) (fun hc => ?_)
    · rw [if_neg hc] at h
      refine lv_iinc (v := (x5 + 1)) (lv' := [(5, .int (x5 + 1)), (0, .ref (a 20)), (1, .int x1), (2, .int x2), (3, .int x3), (4, .int x4)]) hx hb d_M_add_60 hl (k := 5) rfl rfl (by decide) rfl (fun ls hl => ?_)
      refine lv_goto (tgt := 3) hx hb d_M_add_63 (by decide) ?_
      exact hk3 _ _ _ _ _ _ _ _ _ _ h hP hD hS (lv_sub hl [1, 2, 3, 4, 5, 0] rfl)
    · rw [if_pos hc] at h
      refine lv_aload_n hx hb d_M_add_23 rfl (lv_at hl 0 rfl) ?_
      refine va_get (ci := 4) (v := .ref (a 28)) (C := R_M) (T := F_M) (N := 35) hx hb hts i_M hown hK.1 hP 0 rfl rfl 12 (by decide) (hts _ wd_356) (fun _ h9 => h9) rfl d_M_add_24 ?_
      refine lv_iload hx hb d_M_add_27 (lv_at hl 5 rfl) ?_
      replace h := gd h
      obtain ⟨hi, h⟩ := h
      refine va_iald hx hb hK.1 hP 8 0 rfl rfl hi d_M_add_29 ?_
      refine lv_iload_n hx hb d_M_add_30 rfl (lv_at hl 2 rfl) ?_
      refine lv_icmp_ne (tgt := 60) hx hb d_M_add_31 (by decide) (fun hc => ?_) (fun hc => ?_)
      · rw [if_neg hc] at h
        refine lv_iinc (v := (x5 + 1)) (lv' := [(5, .int (x5 + 1)), (0, .ref (a 20)), (1, .int x1), (2, .int x2), (3, .int x3), (4, .int x4)]) hx hb d_M_add_60 hl (k := 5) rfl rfl (by decide) rfl (fun ls hl => ?_)
        refine lv_goto (tgt := 3) hx hb d_M_add_63 (by decide) ?_
        exact hk3 _ _ _ _ _ _ _ _ _ _ h hP hD hS (lv_sub hl [1, 2, 3, 4, 5, 0] rfl)
      · rw [if_pos hc] at h
        refine lv_aload_n hx hb d_M_add_34 rfl (lv_at hl 0 rfl) ?_
        refine va_get (ci := 4) (v := .ref (a 29)) (C := R_M) (T := F_M) (N := 35) hx hb hts i_M hown hK.1 hP 0 rfl rfl 13 (by decide) (hts _ wd_357) (fun _ h9 => h9) rfl d_M_add_35 ?_
        refine lv_iload hx hb d_M_add_38 (lv_at hl 5 rfl) ?_
        replace h := gd h
        obtain ⟨hi, h⟩ := h
        refine va_iald hx hb hK.1 hP 9 0 rfl rfl hi d_M_add_40 ?_
        refine lv_iload_n hx hb d_M_add_41 rfl (lv_at hl 3 rfl) ?_
        refine lv_icmp_ne (tgt := 60) hx hb d_M_add_42 (by decide) (fun hc => ?_) (fun hc => ?_)
        · rw [if_neg hc] at h
          refine lv_iinc (v := (x5 + 1)) (lv' := [(5, .int (x5 + 1)), (0, .ref (a 20)), (1, .int x1), (2, .int x2), (3, .int x3), (4, .int x4)]) hx hb d_M_add_60 hl (k := 5) rfl rfl (by decide) rfl (fun ls hl => ?_)
          refine lv_goto (tgt := 3) hx hb d_M_add_63 (by decide) ?_
          exact hk3 _ _ _ _ _ _ _ _ _ _ h hP hD hS (lv_sub hl [1, 2, 3, 4, 5, 0] rfl)
        · rw [if_pos hc] at h
          refine lv_aload_n hx hb d_M_add_45 rfl (lv_at hl 0 rfl) ?_
          refine va_get (ci := 4) (v := .ref (a 30)) (C := R_M) (T := F_M) (N := 35) hx hb hts i_M hown hK.1 hP 0 rfl rfl 14 (by decide) (hts _ wd_358) (fun _ h9 => h9) rfl d_M_add_46 ?_
          refine lv_iload hx hb d_M_add_49 (lv_at hl 5 rfl) ?_
          replace h := gd h
          obtain ⟨hi, h⟩ := h
          refine va_iald hx hb hK.1 hP 10 0 rfl rfl hi d_M_add_51 ?_
          refine lv_iload hx hb d_M_add_52 (lv_at hl 4 rfl) ?_
          refine lv_icmp_ne (tgt := 60) hx hb d_M_add_54 (by decide) (fun hc => ?_) (fun hc => ?_)
          · rw [if_neg hc] at h
            refine lv_iinc (v := (x5 + 1)) (lv' := [(5, .int (x5 + 1)), (0, .ref (a 20)), (1, .int x1), (2, .int x2), (3, .int x3), (4, .int x4)]) hx hb d_M_add_60 hl (k := 5) rfl rfl (by decide) rfl (fun ls hl => ?_)
            refine lv_goto (tgt := 3) hx hb d_M_add_63 (by decide) ?_
            exact hk3 _ _ _ _ _ _ _ _ _ _ h hP hD hS (lv_sub hl [1, 2, 3, 4, 5, 0] rfl)
          · rw [if_pos hc] at h
            refine lv_iload hx hb d_M_add_57 (lv_at hl 5 rfl) ?_
            exact rw_ret C0 hP hD hS (Option.some.inj h) d_M_add_59
set_option maxHeartbeats 4000000 in
set_option maxRecDepth 100000 in
theorem t_M_add_3 {p : Program} {l : Launch} {e : Env} {s : State} {m : MethodId} {args : Array Value} {below : List Frame} {meth : Method} {c : Code} {D : va_G} {cI cZ : ClassId} {a : Nat → Nat} {A : Nat → Prop} (C0 : Am p s m args meth c b_M_add (some .int) 6 R_M D [(cI, .int), (cZ, .boolean)]) (hA : ∀ q, s.heap.size ≤ q → A q) {res : Int32 × StM}  {n : Nat} {q : Nat} {σ : StM} {x1 x2 x3 x4 x5 : Int32} (h : f_M_add_3  n σ x1 x2 x3 x4 x5 = some res) {H : Heap} {locs : List Loc} (hP : va_P D vwCl (wM cI cZ a q σ) H) (hD : va_D A (wM cI cZ a q σ)) (hS : va_S A s.heap H locs) {ls : Array Slot} (hl : lv_has ls 6 [(0, .ref (a 20)), (1, .int x1), (2, .int x2), (3, .int x3), (4, .int x4), (5, .int x5)]) : W p l e (rmK 0 0 0 0) s m args below meth c H locs 0 0 (RwQ below args s D A (fun q (σ : StM) => (wM cI cZ a q σ)) res 0 0) (F0 m 3 ls []) := by
  induction n generalizing q σ x1 x2 x3 x4 x5 H locs ls with
  | zero => cases h
  | succ n ih => exact t_M_add_3_s (a := a) C0 hA  (fun _ _ _ _ _ _ _ _ _ _ h hP hD hS hl => ih h hP hD hS hl) h hP hD hS hl
set_option maxHeartbeats 4000000 in
set_option maxRecDepth 100000 in
theorem t_M_add_0 {p : Program} {l : Launch} {e : Env} {s : State} {m : MethodId} {args : Array Value} {below : List Frame} {meth : Method} {c : Code} {D : va_G} {cI cZ : ClassId} {a : Nat → Nat} {A : Nat → Prop} (C0 : Am p s m args meth c b_M_add (some .int) 6 R_M D [(cI, .int), (cZ, .boolean)]) (hA : ∀ q, s.heap.size ≤ q → A q) {res : Int32 × StM}   {q : Nat} {σ : StM} {x1 x2 x3 x4 : Int32} (h : f_M_add σ x1 x2 x3 x4 = some res) {H : Heap} {locs : List Loc} (hP : va_P D vwCl (wM cI cZ a q σ) H) (hD : va_D A (wM cI cZ a q σ)) (hS : va_S A s.heap H locs) {ls : Array Slot} (hl : lv_has ls 6 [(0, .ref (a 20)), (1, .int x1), (2, .int x2), (3, .int x3), (4, .int x4)]) : W p l e (rmK 0 0 0 0) s m args below meth c H locs 0 0 (RwQ below args s D A (fun q (σ : StM) => (wM cI cZ a q σ)) res 0 0) (F0 m 0 ls []) := by
  obtain ⟨hx, hb, hr, hml, hown, hts, hlk, hK⟩ := id C0
  unfold f_M_add at h
  refine lv_iconst (v := 0) hx hb d_M_add_0 (by decide) ?_
  refine lv_istore (lv' := [(5, .int 0), (0, .ref (a 20)), (1, .int x1), (2, .int x2), (3, .int x3), (4, .int x4)]) hx hb d_M_add_1 hl (by decide) rfl (fun ls hl => ?_)
  exact t_M_add_3 (a := a) C0 hA  h hP hD hS (lv_sub hl [1, 2, 3, 4, 5, 0] rfl)
set_option maxHeartbeats 4000000 in
set_option maxRecDepth 100000 in
theorem c_M_add (l : Launch) (D : va_G) (cI cZ : ClassId) (a : Nat → Nat) (q : Nat) (σ : StM) (x1 : Int32) (x2 : Int32) (x3 : Int32) (x4 : Int32) {res : Int32 × StM} (h : f_M_add σ x1 x2 x3 x4 = some res) : RwM l y_M_add b_M_add 6 (some .int) 0 0 D [(cI, .int), (cZ, .boolean)] [.ref (a 20), .int x1, .int x2, .int x3, .int x4] (fun q (σ : StM) => (wM cI cZ a q σ)) q σ res :=
  rw_of (by decide) (Nat.le_of_ble_eq_true rfl) (fun p e s m args below meth c ls A C0 hA hP hD hS hl => t_M_add_0 (a := a) C0 hA h hP hD hS (lv_sub hl [0, 1, 2, 3, 4] rfl))
