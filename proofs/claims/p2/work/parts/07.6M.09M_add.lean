-- part 07.6M.09M_add.lean.txt
def f_M_add_104 (σ : StM) : Option (Int32 × StM) :=
  some (0, (M_set_full σ 1))
def f_M_add_181 (σ : StM) (t1 t2 : Int32) : Option (Int32 × StM) :=
  if t1 < 0 ∨ 300 ≤ t1.toNatClampNeg then none else
  if (30 * (M_types (M_put_partCount σ t1 t2))) < 0 ∨ 9000 ≤ (30 * (M_types (M_put_partCount σ t1 t2))).toNatClampNeg then none else
  some (((M_types (M_set_types (M_put_partRow (M_put_partCount σ t1 t2) (30 * (M_types (M_put_partCount σ t1 t2))) (M_types (M_put_partCount σ t1 t2))) ((M_types (M_put_partRow (M_put_partCount σ t1 t2) (30 * (M_types (M_put_partCount σ t1 t2))) (M_types (M_put_partCount σ t1 t2)))) + 1))) - 1), (M_set_types (M_put_partRow (M_put_partCount σ t1 t2) (30 * (M_types (M_put_partCount σ t1 t2))) (M_types (M_put_partCount σ t1 t2))) ((M_types (M_put_partRow (M_put_partCount σ t1 t2) (30 * (M_types (M_put_partCount σ t1 t2))) (M_types (M_put_partCount σ t1 t2)))) + 1)))
def f_M_add_84 (σ : StM) (x1 x2 x3 x4 t0 t1 : Int32) : Option (Int32 × StM) :=
  if (M_types σ) = 300 then
    f_M_add_104 σ
  else
    if (t0 + t1) ≤ 100 then
      if (M_types σ) < 0 ∨ 300 ≤ (M_types σ).toNatClampNeg then none else
      if (M_types (M_put_kind σ (M_types σ) x1)) < 0 ∨ 300 ≤ (M_types (M_put_kind σ (M_types σ) x1)).toNatClampNeg then none else
      if (M_types (M_put_classOf (M_put_kind σ (M_types σ) x1) (M_types (M_put_kind σ (M_types σ) x1)) x2)) < 0 ∨ 300 ≤ (M_types (M_put_classOf (M_put_kind σ (M_types σ) x1) (M_types (M_put_kind σ (M_types σ) x1)) x2)).toNatClampNeg then none else
      if (M_types (M_put_how (M_put_classOf (M_put_kind σ (M_types σ) x1) (M_types (M_put_kind σ (M_types σ) x1)) x2) (M_types (M_put_classOf (M_put_kind σ (M_types σ) x1) (M_types (M_put_kind σ (M_types σ) x1)) x2)) x3)) < 0 ∨ 300 ≤ (M_types (M_put_how (M_put_classOf (M_put_kind σ (M_types σ) x1) (M_types (M_put_kind σ (M_types σ) x1)) x2) (M_types (M_put_classOf (M_put_kind σ (M_types σ) x1) (M_types (M_put_kind σ (M_types σ) x1)) x2)) x3)).toNatClampNeg then none else
      if (M_types (M_put_inner (M_put_how (M_put_classOf (M_put_kind σ (M_types σ) x1) (M_types (M_put_kind σ (M_types σ) x1)) x2) (M_types (M_put_classOf (M_put_kind σ (M_types σ) x1) (M_types (M_put_kind σ (M_types σ) x1)) x2)) x3) (M_types (M_put_how (M_put_classOf (M_put_kind σ (M_types σ) x1) (M_types (M_put_kind σ (M_types σ) x1)) x2) (M_types (M_put_classOf (M_put_kind σ (M_types σ) x1) (M_types (M_put_kind σ (M_types σ) x1)) x2)) x3)) x4)) < 0 ∨ 300 ≤ (M_types (M_put_inner (M_put_how (M_put_classOf (M_put_kind σ (M_types σ) x1) (M_types (M_put_kind σ (M_types σ) x1)) x2) (M_types (M_put_classOf (M_put_kind σ (M_types σ) x1) (M_types (M_put_kind σ (M_types σ) x1)) x2)) x3) (M_types (M_put_how (M_put_classOf (M_put_kind σ (M_types σ) x1) (M_types (M_put_kind σ (M_types σ) x1)) x2) (M_types (M_put_classOf (M_put_kind σ (M_types σ) x1) (M_types (M_put_kind σ (M_types σ) x1)) x2)) x3)) x4)).toNatClampNeg then none else
      if x1 = 1 then
        f_M_add_181 (M_put_made (M_put_inner (M_put_how (M_put_classOf (M_put_kind σ (M_types σ) x1) (M_types (M_put_kind σ (M_types σ) x1)) x2) (M_types (M_put_classOf (M_put_kind σ (M_types σ) x1) (M_types (M_put_kind σ (M_types σ) x1)) x2)) x3) (M_types (M_put_how (M_put_classOf (M_put_kind σ (M_types σ) x1) (M_types (M_put_kind σ (M_types σ) x1)) x2) (M_types (M_put_classOf (M_put_kind σ (M_types σ) x1) (M_types (M_put_kind σ (M_types σ) x1)) x2)) x3)) x4) (M_types (M_put_inner (M_put_how (M_put_classOf (M_put_kind σ (M_types σ) x1) (M_types (M_put_kind σ (M_types σ) x1)) x2) (M_types (M_put_classOf (M_put_kind σ (M_types σ) x1) (M_types (M_put_kind σ (M_types σ) x1)) x2)) x3) (M_types (M_put_how (M_put_classOf (M_put_kind σ (M_types σ) x1) (M_types (M_put_kind σ (M_types σ) x1)) x2) (M_types (M_put_classOf (M_put_kind σ (M_types σ) x1) (M_types (M_put_kind σ (M_types σ) x1)) x2)) x3)) x4)) (t0 + t1)) (M_types (M_put_made (M_put_inner (M_put_how (M_put_classOf (M_put_kind σ (M_types σ) x1) (M_types (M_put_kind σ (M_types σ) x1)) x2) (M_types (M_put_classOf (M_put_kind σ (M_types σ) x1) (M_types (M_put_kind σ (M_types σ) x1)) x2)) x3) (M_types (M_put_how (M_put_classOf (M_put_kind σ (M_types σ) x1) (M_types (M_put_kind σ (M_types σ) x1)) x2) (M_types (M_put_classOf (M_put_kind σ (M_types σ) x1) (M_types (M_put_kind σ (M_types σ) x1)) x2)) x3)) x4) (M_types (M_put_inner (M_put_how (M_put_classOf (M_put_kind σ (M_types σ) x1) (M_types (M_put_kind σ (M_types σ) x1)) x2) (M_types (M_put_classOf (M_put_kind σ (M_types σ) x1) (M_types (M_put_kind σ (M_types σ) x1)) x2)) x3) (M_types (M_put_how (M_put_classOf (M_put_kind σ (M_types σ) x1) (M_types (M_put_kind σ (M_types σ) x1)) x2) (M_types (M_put_classOf (M_put_kind σ (M_types σ) x1) (M_types (M_put_kind σ (M_types σ) x1)) x2)) x3)) x4)) (t0 + t1))) 1
      else
        f_M_add_181 (M_put_made (M_put_inner (M_put_how (M_put_classOf (M_put_kind σ (M_types σ) x1) (M_types (M_put_kind σ (M_types σ) x1)) x2) (M_types (M_put_classOf (M_put_kind σ (M_types σ) x1) (M_types (M_put_kind σ (M_types σ) x1)) x2)) x3) (M_types (M_put_how (M_put_classOf (M_put_kind σ (M_types σ) x1) (M_types (M_put_kind σ (M_types σ) x1)) x2) (M_types (M_put_classOf (M_put_kind σ (M_types σ) x1) (M_types (M_put_kind σ (M_types σ) x1)) x2)) x3)) x4) (M_types (M_put_inner (M_put_how (M_put_classOf (M_put_kind σ (M_types σ) x1) (M_types (M_put_kind σ (M_types σ) x1)) x2) (M_types (M_put_classOf (M_put_kind σ (M_types σ) x1) (M_types (M_put_kind σ (M_types σ) x1)) x2)) x3) (M_types (M_put_how (M_put_classOf (M_put_kind σ (M_types σ) x1) (M_types (M_put_kind σ (M_types σ) x1)) x2) (M_types (M_put_classOf (M_put_kind σ (M_types σ) x1) (M_types (M_put_kind σ (M_types σ) x1)) x2)) x3)) x4)) (t0 + t1)) (M_types (M_put_made (M_put_inner (M_put_how (M_put_classOf (M_put_kind σ (M_types σ) x1) (M_types (M_put_kind σ (M_types σ) x1)) x2) (M_types (M_put_classOf (M_put_kind σ (M_types σ) x1) (M_types (M_put_kind σ (M_types σ) x1)) x2)) x3) (M_types (M_put_how (M_put_classOf (M_put_kind σ (M_types σ) x1) (M_types (M_put_kind σ (M_types σ) x1)) x2) (M_types (M_put_classOf (M_put_kind σ (M_types σ) x1) (M_types (M_put_kind σ (M_types σ) x1)) x2)) x3)) x4) (M_types (M_put_inner (M_put_how (M_put_classOf (M_put_kind σ (M_types σ) x1) (M_types (M_put_kind σ (M_types σ) x1)) x2) (M_types (M_put_classOf (M_put_kind σ (M_types σ) x1) (M_types (M_put_kind σ (M_types σ) x1)) x2)) x3) (M_types (M_put_how (M_put_classOf (M_put_kind σ (M_types σ) x1) (M_types (M_put_kind σ (M_types σ) x1)) x2) (M_types (M_put_classOf (M_put_kind σ (M_types σ) x1) (M_types (M_put_kind σ (M_types σ) x1)) x2)) x3)) x4)) (t0 + t1))) 0
    else
      f_M_add_104 σ
def f_M_add_3_s (k3 : StM → Int32 → Int32 → Int32 → Int32 → Int32 → Option (Int32 × StM)) (σ : StM) (x1 x2 x3 x4 x5 : Int32) : Option (Int32 × StM) :=
  if (M_types σ) ≤ x5 then
    if x4 = (-1) then
      f_M_add_84 σ x1 x2 x3 x4 1 0
    else
      if x4 < 0 ∨ 300 ≤ x4.toNatClampNeg then none else
      f_M_add_84 σ x1 x2 x3 x4 1 ((M_made σ) x4.toNatClampNeg)
  else
    if x5 < 0 ∨ 300 ≤ x5.toNatClampNeg then none else
    if ((M_kind σ) x5.toNatClampNeg) = x1 then
      if x5 < 0 ∨ 300 ≤ x5.toNatClampNeg then none else
      if ((M_classOf σ) x5.toNatClampNeg) = x2 then
        if x5 < 0 ∨ 300 ≤ x5.toNatClampNeg then none else
        if ((M_how σ) x5.toNatClampNeg) = x3 then
          if x5 < 0 ∨ 300 ≤ x5.toNatClampNeg then none else
          if ((M_inner σ) x5.toNatClampNeg) = x4 then
            some (x5, σ)
          else
            k3 σ x1 x2 x3 x4 (x5 + 1)
        else
          k3 σ x1 x2 x3 x4 (x5 + 1)
      else
        k3 σ x1 x2 x3 x4 (x5 + 1)
    else
      k3 σ x1 x2 x3 x4 (x5 + 1)
def f_M_add_3 : Nat → StM → Int32 → Int32 → Int32 → Int32 → Int32 → Option (Int32 × StM)
  | 0, _, _, _, _, _, _ => none
  | n + 1, σ, x1, x2, x3, x4, x5 => f_M_add_3_s (f_M_add_3 n) σ x1 x2 x3 x4 x5
def f_M_add (σ : StM) (x1 x2 x3 x4 : Int32) : Option (Int32 × StM) :=
  f_M_add_3 1000 σ x1 x2 x3 x4 0
set_option maxHeartbeats 4000000 in
set_option maxRecDepth 100000 in
theorem t_M_add_104 {p : Program} {l : Launch} {e : Env} {s : State} {m : MethodId} {args : Array Value} {below : List Frame} {meth : Method} {c : Code} {D : va_G} {cI cZ : ClassId} {a : Nat → Nat} {A : Nat → Prop} (C0 : Am p s m args meth c b_M_add (some .int) 6 R_M D [(cI, .int), (cZ, .boolean)]) (hA : ∀ q, s.heap.size ≤ q → A q) {res : Int32 × StM}   {q : Nat} {σ : StM} (h : f_M_add_104 σ = some res) {H : Heap} {locs : List Loc} (hP : va_P D vwCl (wM cI cZ a q σ) H) (hD : va_D A (wM cI cZ a q σ)) (hS : va_S A s.heap H locs) {ls : Array Slot} (hl : lv_has ls 6 [(0, .ref (a 20))]) : W p l e (rmK 0 0 0 0) s m args below meth c H locs 0 0 (RwQ below args s D A (fun q (σ : StM) => (wM cI cZ a q σ)) res 0 0) (F0 m 104 ls []) := by
  obtain ⟨hx, hb, hr, hml, hown, hts, hlk, hK⟩ := id C0
  unfold f_M_add_104 at h
  refine lv_aload_n hx hb d_M_add_104 rfl (lv_at hl 0 rfl) ?_
  refine lv_iconst (v := 1) hx hb d_M_add_105 (by decide) ?_
  refine rw_put (v := .int 1) (fty := .boolean) (C := R_M) (T := F_M) (N := 35) C0 hP hD hS i_M ty_M tyok_M nn_M 0 rfl rfl 18 (by decide) (hts _ wd_364) rfl rfl (by decide +kernel) rfl rfl (Nat.le_of_ble_eq_true rfl) d_M_add_106 (Wn := (wM cI cZ a q (M_set_full σ 1))) ws_M_set_full (fun H locs hP hD hS => ?_)
  refine lv_iconst (v := 0) hx hb d_M_add_109 (by decide) ?_
  exact rw_ret C0 hP hD hS (Option.some.inj h) d_M_add_110
set_option maxHeartbeats 4000000 in
set_option maxRecDepth 100000 in
theorem t_M_add_181 {p : Program} {l : Launch} {e : Env} {s : State} {m : MethodId} {args : Array Value} {below : List Frame} {meth : Method} {c : Code} {D : va_G} {cI cZ : ClassId} {a : Nat → Nat} {A : Nat → Prop} (C0 : Am p s m args meth c b_M_add (some .int) 6 R_M D [(cI, .int), (cZ, .boolean)]) (hA : ∀ q, s.heap.size ≤ q → A q) {res : Int32 × StM}   {q : Nat} {σ : StM} {t1 t2 : Int32} (h : f_M_add_181 σ t1 t2 = some res) {H : Heap} {locs : List Loc} (hP : va_P D vwCl (wM cI cZ a q σ) H) (hD : va_D A (wM cI cZ a q σ)) (hS : va_S A s.heap H locs) {ls : Array Slot} (hl : lv_has ls 6 [(0, .ref (a 20))]) : W p l e (rmK 0 0 0 0) s m args below meth c H locs 0 0 (RwQ below args s D A (fun q (σ : StM) => (wM cI cZ a q σ)) res 0 0) (F0 m 181 ls [.int t2, .int t1, .ref (a 32)]) := by
  obtain ⟨hx, hb, hr, hml, hown, hts, hlk, hK⟩ := id C0
  unfold f_M_add_181 at h
  replace h := gd h
  obtain ⟨hi, h⟩ := h
  refine rw_iast C0 hP hD hS 12 0 rfl rfl hi d_M_add_181 (Wn := (wM cI cZ a q (M_put_partCount σ t1 t2))) ws_M_put_partCount (fun H locs hP hD hS => ?_)
  refine lv_aload_n hx hb d_M_add_182 rfl (lv_at hl 0 rfl) ?_
  refine va_get (ci := 4) (v := .ref (a 33)) (C := R_M) (T := F_M) (N := 35) hx hb hts i_M hown hK.1 hP 0 rfl rfl 17 (by decide) (hts _ wd_355) (fun _ h9 => h9) rfl d_M_add_183 ?_
  refine lv_bipush (v := 30) hx hb d_M_add_186 (by decide) ?_
  refine lv_aload_n hx hb d_M_add_188 rfl (lv_at hl 0 rfl) ?_
  refine va_get (ci := 4) (v := .int (M_types (M_put_partCount σ t1 t2))) (C := R_M) (T := F_M) (N := 35) hx hb hts i_M hown hK.1 hP 0 rfl rfl 10 (by decide) (hts _ wd_344) (fun _ h9 => h9) rfl d_M_add_189 ?_
  refine lv_imul hx hb d_M_add_192 ?_
  refine lv_aload_n hx hb d_M_add_193 rfl (lv_at hl 0 rfl) ?_
  refine va_get (ci := 4) (v := .int (M_types (M_put_partCount σ t1 t2))) (C := R_M) (T := F_M) (N := 35) hx hb hts i_M hown hK.1 hP 0 rfl rfl 10 (by decide) (hts _ wd_344) (fun _ h9 => h9) rfl d_M_add_194 ?_
  replace h := gd h
  obtain ⟨hi, h⟩ := h
  refine rw_iast C0 hP hD hS 13 0 rfl rfl hi d_M_add_197 (Wn := (wM cI cZ a q (M_put_partRow (M_put_partCount σ t1 t2) (30 * (M_types (M_put_partCount σ t1 t2))) (M_types (M_put_partCount σ t1 t2))))) ws_M_put_partRow (fun H locs hP hD hS => ?_)
  refine lv_aload_n hx hb d_M_add_198 rfl (lv_at hl 0 rfl) ?_
  refine lv_dup hx hb d_M_add_199 rfl ?_
  refine va_get (ci := 4) (v := .int (M_types (M_put_partRow (M_put_partCount σ t1 t2) (30 * (M_types (M_put_partCount σ t1 t2))) (M_types (M_put_partCount σ t1 t2))))) (C := R_M) (T := F_M) (N := 35) hx hb hts i_M hown hK.1 hP 0 rfl rfl 10 (by decide) (hts _ wd_344) (fun _ h9 => h9) rfl d_M_add_200 ?_
  refine lv_iconst (v := 1) hx hb d_M_add_203 (by decide) ?_
  refine lv_iadd hx hb d_M_add_204 ?_
  refine rw_put (v := .int ((M_types (M_put_partRow (M_put_partCount σ t1 t2) (30 * (M_types (M_put_partCount σ t1 t2))) (M_types (M_put_partCount σ t1 t2)))) + 1)) (fty := .int) (C := R_M) (T := F_M) (N := 35) C0 hP hD hS i_M ty_M tyok_M nn_M 0 rfl rfl 10 (by decide) (hts _ wd_344) rfl rfl (by decide +kernel) rfl rfl (Nat.le_of_ble_eq_true rfl) d_M_add_205 (Wn := (wM cI cZ a q (M_set_types (M_put_partRow (M_put_partCount σ t1 t2) (30 * (M_types (M_put_partCount σ t1 t2))) (M_types (M_put_partCount σ t1 t2))) ((M_types (M_put_partRow (M_put_partCount σ t1 t2) (30 * (M_types (M_put_partCount σ t1 t2))) (M_types (M_put_partCount σ t1 t2)))) + 1)))) ws_M_set_types (fun H locs hP hD hS => ?_)
  refine lv_aload_n hx hb d_M_add_208 rfl (lv_at hl 0 rfl) ?_
  refine va_get (ci := 4) (v := .int (M_types (M_set_types (M_put_partRow (M_put_partCount σ t1 t2) (30 * (M_types (M_put_partCount σ t1 t2))) (M_types (M_put_partCount σ t1 t2))) ((M_types (M_put_partRow (M_put_partCount σ t1 t2) (30 * (M_types (M_put_partCount σ t1 t2))) (M_types (M_put_partCount σ t1 t2)))) + 1)))) (C := R_M) (T := F_M) (N := 35) hx hb hts i_M hown hK.1 hP 0 rfl rfl 10 (by decide) (hts _ wd_344) (fun _ h9 => h9) rfl d_M_add_209 ?_
  refine lv_iconst (v := 1) hx hb d_M_add_212 (by decide) ?_
  refine lv_isub hx hb d_M_add_213 ?_
  exact rw_ret C0 hP hD hS (Option.some.inj h) d_M_add_214
set_option maxHeartbeats 4000000 in
set_option maxRecDepth 100000 in
theorem t_M_add_84 {p : Program} {l : Launch} {e : Env} {s : State} {m : MethodId} {args : Array Value} {below : List Frame} {meth : Method} {c : Code} {D : va_G} {cI cZ : ClassId} {a : Nat → Nat} {A : Nat → Prop} (C0 : Am p s m args meth c b_M_add (some .int) 6 R_M D [(cI, .int), (cZ, .boolean)]) (hA : ∀ q, s.heap.size ≤ q → A q) {res : Int32 × StM}   {q : Nat} {σ : StM} {x1 x2 x3 x4 t0 t1 : Int32} (h : f_M_add_84 σ x1 x2 x3 x4 t0 t1 = some res) {H : Heap} {locs : List Loc} (hP : va_P D vwCl (wM cI cZ a q σ) H) (hD : va_D A (wM cI cZ a q σ)) (hS : va_S A s.heap H locs) {ls : Array Slot} (hl : lv_has ls 6 [(0, .ref (a 20)), (1, .int x1), (2, .int x2), (3, .int x3), (4, .int x4)]) : W p l e (rmK 0 0 0 0) s m args below meth c H locs 0 0 (RwQ below args s D A (fun q (σ : StM) => (wM cI cZ a q σ)) res 0 0) (F0 m 84 ls [.int t1, .int t0]) := by
  obtain ⟨hx, hb, hr, hml, hown, hts, hlk, hK⟩ := id C0
  unfold f_M_add_84 at h
  refine lv_iadd hx hb d_M_add_84 ?_
  refine lv_istore (lv' := [(5, .int (t0 + t1)), (0, .ref (a 20)), (1, .int x1), (2, .int x2), (3, .int x3), (4, .int x4)]) hx hb d_M_add_85 hl (by decide) rfl (fun ls hl => ?_)
  refine lv_aload_n hx hb d_M_add_87 rfl (lv_at hl 1 rfl) ?_
  refine va_get (ci := 4) (v := .int (M_types σ)) (C := R_M) (T := F_M) (N := 35) hx hb hts i_M hown hK.1 hP 0 rfl rfl 10 (by decide) (hts _ wd_344) (fun _ h9 => h9) rfl d_M_add_88 ?_
  refine lv_sipush (v := 300) hx hb d_M_add_91 (by decide) ?_
  refine lv_icmp_eq (tgt := 104) hx hb d_M_add_94 (by decide) (fun hc => ?_) (fun hc => ?_)
  · rw [if_pos hc] at h
    exact t_M_add_104 (a := a) C0 hA  h hP hD hS (lv_sub hl [1] rfl)
  · rw [if_neg hc] at h
    refine lv_iload hx hb d_M_add_97 (lv_at hl 0 rfl) ?_
    refine lv_bipush (v := 100) hx hb d_M_add_99 (by decide) ?_
    refine lv_icmp_le (tgt := 111) hx hb d_M_add_101 (by decide) (fun hc => ?_) (fun hc => ?_)
    · rw [if_pos hc] at h
      refine lv_aload_n hx hb d_M_add_111 rfl (lv_at hl 1 rfl) ?_
      refine va_get (ci := 4) (v := .ref (a 27)) (C := R_M) (T := F_M) (N := 35) hx hb hts i_M hown hK.1 hP 0 rfl rfl 11 (by decide) (hts _ wd_353) (fun _ h9 => h9) rfl d_M_add_112 ?_
      refine lv_aload_n hx hb d_M_add_115 rfl (lv_at hl 1 rfl) ?_
      refine va_get (ci := 4) (v := .int (M_types σ)) (C := R_M) (T := F_M) (N := 35) hx hb hts i_M hown hK.1 hP 0 rfl rfl 10 (by decide) (hts _ wd_344) (fun _ h9 => h9) rfl d_M_add_116 ?_
      refine lv_iload_n hx hb d_M_add_119 rfl (lv_at hl 2 rfl) ?_
      replace h := gd h
      obtain ⟨hi, h⟩ := h
      refine rw_iast C0 hP hD hS 7 0 rfl rfl hi d_M_add_120 (Wn := (wM cI cZ a q (M_put_kind σ (M_types σ) x1))) ws_M_put_kind (fun H locs hP hD hS => ?_)
      refine lv_aload_n hx hb d_M_add_121 rfl (lv_at hl 1 rfl) ?_
      refine va_get (ci := 4) (v := .ref (a 28)) (C := R_M) (T := F_M) (N := 35) hx hb hts i_M hown hK.1 hP 0 rfl rfl 12 (by decide) (hts _ wd_356) (fun _ h9 => h9) rfl d_M_add_122 ?_
      refine lv_aload_n hx hb d_M_add_125 rfl (lv_at hl 1 rfl) ?_
      refine va_get (ci := 4) (v := .int (M_types (M_put_kind σ (M_types σ) x1))) (C := R_M) (T := F_M) (N := 35) hx hb hts i_M hown hK.1 hP 0 rfl rfl 10 (by decide) (hts _ wd_344) (fun _ h9 => h9) rfl d_M_add_126 ?_
      refine lv_iload_n hx hb d_M_add_129 rfl (lv_at hl 3 rfl) ?_
      replace h := gd h
      obtain ⟨hi, h⟩ := h
      refine rw_iast C0 hP hD hS 8 0 rfl rfl hi d_M_add_130 (Wn := (wM cI cZ a q (M_put_classOf (M_put_kind σ (M_types σ) x1) (M_types (M_put_kind σ (M_types σ) x1)) x2))) ws_M_put_classOf (fun H locs hP hD hS => ?_)
      refine lv_aload_n hx hb d_M_add_131 rfl (lv_at hl 1 rfl) ?_
      refine va_get (ci := 4) (v := .ref (a 29)) (C := R_M) (T := F_M) (N := 35) hx hb hts i_M hown hK.1 hP 0 rfl rfl 13 (by decide) (hts _ wd_357) (fun _ h9 => h9) rfl d_M_add_132 ?_
      refine lv_aload_n hx hb d_M_add_135 rfl (lv_at hl 1 rfl) ?_
      refine va_get (ci := 4) (v := .int (M_types (M_put_classOf (M_put_kind σ (M_types σ) x1) (M_types (M_put_kind σ (M_types σ) x1)) x2))) (C := R_M) (T := F_M) (N := 35) hx hb hts i_M hown hK.1 hP 0 rfl rfl 10 (by decide) (hts _ wd_344) (fun _ h9 => h9) rfl d_M_add_136 ?_
      refine lv_iload_n hx hb d_M_add_139 rfl (lv_at hl 4 rfl) ?_
      replace h := gd h
      obtain ⟨hi, h⟩ := h
      refine rw_iast C0 hP hD hS 9 0 rfl rfl hi d_M_add_140 (Wn := (wM cI cZ a q (M_put_how (M_put_classOf (M_put_kind σ (M_types σ) x1) (M_types (M_put_kind σ (M_types σ) x1)) x2) (M_types (M_put_classOf (M_put_kind σ (M_types σ) x1) (M_types (M_put_kind σ (M_types σ) x1)) x2)) x3))) ws_M_put_how (fun H locs hP hD hS => ?_)
      refine lv_aload_n hx hb d_M_add_141 rfl (lv_at hl 1 rfl) ?_
      refine va_get (ci := 4) (v := .ref (a 30)) (C := R_M) (T := F_M) (N := 35) hx hb hts i_M hown hK.1 hP 0 rfl rfl 14 (by decide) (hts _ wd_358) (fun _ h9 => h9) rfl d_M_add_142 ?_
      refine lv_aload_n hx hb d_M_add_145 rfl (lv_at hl 1 rfl) ?_
      refine va_get (ci := 4) (v := .int (M_types (M_put_how (M_put_classOf (M_put_kind σ (M_types σ) x1) (M_types (M_put_kind σ (M_types σ) x1)) x2) (M_types (M_put_classOf (M_put_kind σ (M_types σ) x1) (M_types (M_put_kind σ (M_types σ) x1)) x2)) x3))) (C := R_M) (T := F_M) (N := 35) hx hb hts i_M hown hK.1 hP 0 rfl rfl 10 (by decide) (hts _ wd_344) (fun _ h9 => h9) rfl d_M_add_146 ?_
      refine lv_iload hx hb d_M_add_149 (lv_at hl 5 rfl) ?_
      replace h := gd h
      obtain ⟨hi, h⟩ := h
      refine rw_iast C0 hP hD hS 10 0 rfl rfl hi d_M_add_151 (Wn := (wM cI cZ a q (M_put_inner (M_put_how (M_put_classOf (M_put_kind σ (M_types σ) x1) (M_types (M_put_kind σ (M_types σ) x1)) x2) (M_types (M_put_classOf (M_put_kind σ (M_types σ) x1) (M_types (M_put_kind σ (M_types σ) x1)) x2)) x3) (M_types (M_put_how (M_put_classOf (M_put_kind σ (M_types σ) x1) (M_types (M_put_kind σ (M_types σ) x1)) x2) (M_types (M_put_classOf (M_put_kind σ (M_types σ) x1) (M_types (M_put_kind σ (M_types σ) x1)) x2)) x3)) x4))) ws_M_put_inner (fun H locs hP hD hS => ?_)
      refine lv_aload_n hx hb d_M_add_152 rfl (lv_at hl 1 rfl) ?_
      refine va_get (ci := 4) (v := .ref (a 31)) (C := R_M) (T := F_M) (N := 35) hx hb hts i_M hown hK.1 hP 0 rfl rfl 15 (by decide) (hts _ wd_363) (fun _ h9 => h9) rfl d_M_add_153 ?_
      refine lv_aload_n hx hb d_M_add_156 rfl (lv_at hl 1 rfl) ?_
      refine va_get (ci := 4) (v := .int (M_types (M_put_inner (M_put_how (M_put_classOf (M_put_kind σ (M_types σ) x1) (M_types (M_put_kind σ (M_types σ) x1)) x2) (M_types (M_put_classOf (M_put_kind σ (M_types σ) x1) (M_types (M_put_kind σ (M_types σ) x1)) x2)) x3) (M_types (M_put_how (M_put_classOf (M_put_kind σ (M_types σ) x1) (M_types (M_put_kind σ (M_types σ) x1)) x2) (M_types (M_put_classOf (M_put_kind σ (M_types σ) x1) (M_types (M_put_kind σ (M_types σ) x1)) x2)) x3)) x4))) (C := R_M) (T := F_M) (N := 35) hx hb hts i_M hown hK.1 hP 0 rfl rfl 10 (by decide) (hts _ wd_344) (fun _ h9 => h9) rfl d_M_add_157 ?_
      refine lv_iload hx hb d_M_add_160 (lv_at hl 0 rfl) ?_
      replace h := gd h
      obtain ⟨hi, h⟩ := h
      refine rw_iast C0 hP hD hS 11 0 rfl rfl hi d_M_add_162 (Wn := (wM cI cZ a q (M_put_made (M_put_inner (M_put_how (M_put_classOf (M_put_kind σ (M_types σ) x1) (M_types (M_put_kind σ (M_types σ) x1)) x2) (M_types (M_put_classOf (M_put_kind σ (M_types σ) x1) (M_types (M_put_kind σ (M_types σ) x1)) x2)) x3) (M_types (M_put_how (M_put_classOf (M_put_kind σ (M_types σ) x1) (M_types (M_put_kind σ (M_types σ) x1)) x2) (M_types (M_put_classOf (M_put_kind σ (M_types σ) x1) (M_types (M_put_kind σ (M_types σ) x1)) x2)) x3)) x4) (M_types (M_put_inner (M_put_how (M_put_classOf (M_put_kind σ (M_types σ) x1) (M_types (M_put_kind σ (M_types σ) x1)) x2) (M_types (M_put_classOf (M_put_kind σ (M_types σ) x1) (M_types (M_put_kind σ (M_types σ) x1)) x2)) x3) (M_types (M_put_how (M_put_classOf (M_put_kind σ (M_types σ) x1) (M_types (M_put_kind σ (M_types σ) x1)) x2) (M_types (M_put_classOf (M_put_kind σ (M_types σ) x1) (M_types (M_put_kind σ (M_types σ) x1)) x2)) x3)) x4)) (t0 + t1)))) ws_M_put_made (fun H locs hP hD hS => ?_)
      refine lv_aload_n hx hb d_M_add_163 rfl (lv_at hl 1 rfl) ?_
      refine va_get (ci := 4) (v := .ref (a 32)) (C := R_M) (T := F_M) (N := 35) hx hb hts i_M hown hK.1 hP 0 rfl rfl 16 (by decide) (hts _ wd_354) (fun _ h9 => h9) rfl d_M_add_164 ?_
      refine lv_aload_n hx hb d_M_add_167 rfl (lv_at hl 1 rfl) ?_
      refine va_get (ci := 4) (v := .int (M_types (M_put_made (M_put_inner (M_put_how (M_put_classOf (M_put_kind σ (M_types σ) x1) (M_types (M_put_kind σ (M_types σ) x1)) x2) (M_types (M_put_classOf (M_put_kind σ (M_types σ) x1) (M_types (M_put_kind σ (M_types σ) x1)) x2)) x3) (M_types (M_put_how (M_put_classOf (M_put_kind σ (M_types σ) x1) (M_types (M_put_kind σ (M_types σ) x1)) x2) (M_types (M_put_classOf (M_put_kind σ (M_types σ) x1) (M_types (M_put_kind σ (M_types σ) x1)) x2)) x3)) x4) (M_types (M_put_inner (M_put_how (M_put_classOf (M_put_kind σ (M_types σ) x1) (M_types (M_put_kind σ (M_types σ) x1)) x2) (M_types (M_put_classOf (M_put_kind σ (M_types σ) x1) (M_types (M_put_kind σ (M_types σ) x1)) x2)) x3) (M_types (M_put_how (M_put_classOf (M_put_kind σ (M_types σ) x1) (M_types (M_put_kind σ (M_types σ) x1)) x2) (M_types (M_put_classOf (M_put_kind σ (M_types σ) x1) (M_types (M_put_kind σ (M_types σ) x1)) x2)) x3)) x4)) (t0 + t1)))) (C := R_M) (T := F_M) (N := 35) hx hb hts i_M hown hK.1 hP 0 rfl rfl 10 (by decide) (hts _ wd_344) (fun _ h9 => h9) rfl d_M_add_168 ?_
      refine lv_iload_n hx hb d_M_add_171 rfl (lv_at hl 2 rfl) ?_
      refine lv_iconst (v := 1) hx hb d_M_add_172 (by decide) ?_
      refine lv_icmp_ne (tgt := 180) hx hb d_M_add_173 (by decide) (fun hc => ?_) (fun hc => ?_)
      · rw [if_neg hc] at h
        refine lv_iconst (v := 0) hx hb d_M_add_180 (by decide) ?_
        exact t_M_add_181 (a := a) C0 hA  h hP hD hS (lv_sub hl [1] rfl)
      · rw [if_pos hc] at h
        refine lv_iconst (v := 1) hx hb d_M_add_176 (by decide) ?_
        refine lv_goto (tgt := 181) hx hb d_M_add_177 (by decide) ?_
        exact t_M_add_181 (a := a) C0 hA  h hP hD hS (lv_sub hl [1] rfl)
    · rw [if_neg hc] at h
      exact t_M_add_104 (a := a) C0 hA  h hP hD hS (lv_sub hl [1] rfl)
set_option maxHeartbeats 4000000 in
set_option maxRecDepth 100000 in
theorem t_M_add_3_s {p : Program} {l : Launch} {e : Env} {s : State} {m : MethodId} {args : Array Value} {below : List Frame} {meth : Method} {c : Code} {D : va_G} {cI cZ : ClassId} {a : Nat → Nat} {A : Nat → Prop} (C0 : Am p s m args meth c b_M_add (some .int) 6 R_M D [(cI, .int), (cZ, .boolean)]) (hA : ∀ q, s.heap.size ≤ q → A q) {res : Int32 × StM} {k3 : StM → Int32 → Int32 → Int32 → Int32 → Int32 → Option (Int32 × StM)}  (hk3 : ∀ (q : Nat) (σ : StM) (x1 x2 x3 x4 x5 : Int32) (H : Heap) (locs : List Loc) (ls : Array Slot), k3 σ x1 x2 x3 x4 x5 = some res → va_P D vwCl (wM cI cZ a q σ) H → va_D A (wM cI cZ a q σ) → va_S A s.heap H locs → lv_has ls 6 [(0, .ref (a 20)), (1, .int x1), (2, .int x2), (3, .int x3), (4, .int x4), (5, .int x5)] → W p l e (rmK 0 0 0 0) s m args below meth c H locs 0 0 (RwQ below args s D A (fun q (σ : StM) => (wM cI cZ a q σ)) res 0 0) (F0 m 3 ls [])) {q : Nat} {σ : StM} {x1 x2 x3 x4 x5 : Int32} (h : f_M_add_3_s k3 σ x1 x2 x3 x4 x5 = some res) {H : Heap} {locs : List Loc} (hP : va_P D vwCl (wM cI cZ a q σ) H) (hD : va_D A (wM cI cZ a q σ)) (hS : va_S A s.heap H locs) {ls : Array Slot} (hl : lv_has ls 6 [(0, .ref (a 20)), (1, .int x1), (2, .int x2), (3, .int x3), (4, .int x4), (5, .int x5)]) : W p l e (rmK 0 0 0 0) s m args below meth c H locs 0 0 (RwQ below args s D A (fun q (σ : StM) => (wM cI cZ a q σ)) res 0 0) (F0 m 3 ls []) := by
  obtain ⟨hx, hb, hr, hml, hown, hts, hlk, hK⟩ := id C0
  unfold f_M_add_3_s at h
  refine lv_iload hx hb d_M_add_3 (lv_at hl 5 rfl) ?_
  refine lv_aload_n hx hb d_M_add_5 rfl (lv_at hl 0 rfl) ?_
  refine va_get (ci := 4) (v := .int (M_types σ)) (C := R_M) (T := F_M) (N := 35) hx hb hts i_M hown hK.1 hP 0 rfl rfl 10 (by decide) (hts _ wd_344) (fun _ h9 => h9) rfl d_M_add_6 ?_
  refine lv_icmp_ge (tgt := 66) hx hb d_M_add_9 (by decide) (fun hc => ?_) (fun hc => ?_)
  · rw [if_pos hc] at h
    refine lv_iconst (v := 1) hx hb d_M_add_66 (by decide) ?_
    refine lv_iload hx hb d_M_add_67 (lv_at hl 4 rfl) ?_
    refine lv_iconst (v := (-1)) hx hb d_M_add_69 (by decide) ?_
    refine lv_icmp_ne (tgt := 77) hx hb d_M_add_70 (by decide) (fun hc => ?_) (fun hc => ?_)
    · rw [if_neg hc] at h
      refine lv_aload_n hx hb d_M_add_77 rfl (lv_at hl 0 rfl) ?_
      refine va_get (ci := 4) (v := .ref (a 31)) (C := R_M) (T := F_M) (N := 35) hx hb hts i_M hown hK.1 hP 0 rfl rfl 15 (by decide) (hts _ wd_363) (fun _ h9 => h9) rfl d_M_add_78 ?_
      refine lv_iload hx hb d_M_add_81 (lv_at hl 4 rfl) ?_
      replace h := gd h
      obtain ⟨hi, h⟩ := h
      refine va_iald hx hb hK.1 hP 11 0 rfl rfl hi d_M_add_83 ?_
      exact t_M_add_84 (a := a) C0 hA  h hP hD hS (lv_sub hl [0, 1, 2, 3, 4] rfl)
    · rw [if_pos hc] at h
      refine lv_iconst (v := 0) hx hb d_M_add_73 (by decide) ?_
      refine lv_goto (tgt := 84) hx hb d_M_add_74 (by decide) ?_
      exact t_M_add_84 (a := a) C0 hA  h hP hD hS (lv_sub hl [0, 1, 2, 3, 4] rfl)
  · rw [if_neg hc] at h
    refine lv_aload_n hx hb d_M_add_12 rfl (lv_at hl 0 rfl) ?_
    refine va_get (ci := 4) (v := .ref (a 27)) (C := R_M) (T := F_M) (N := 35) hx hb hts i_M hown hK.1 hP 0 rfl rfl 11 (by decide) (hts _ wd_353) (fun _ h9 => h9) rfl d_M_add_13 ?_
    refine lv_iload hx hb d_M_add_16 (lv_at hl 5 rfl) ?_
    replace h := gd h
    obtain ⟨hi, h⟩ := h
    refine va_iald hx hb hK.1 hP 7 0 rfl rfl hi d_M_add_18 ?_
    refine lv_iload_n hx hb d_M_add_19 rfl (lv_at hl 1 rfl) ?_
    refine lv_icmp_ne (tgt := 60) hx hb d_M_add_20 (by decide) (fun hc => ?_) (fun hc => ?_)
    · rw [if_neg hc] at h
      refine lv_iinc (v := (x5 + 1)) (lv' := [(5, .int (x5 + 1)), (0, .ref (a 20)), (1, .int x1), (2, .int x2), (3, .int x3), (4, .int x4)]) hx hb d_M_add_60 hl (k := 5) rfl rfl (by decide) rfl (fun ls hl => ?_)
      refine lv_goto (tgt := 3) hx hb d_M_add_63 (by decide) ?_
      exact hk3 _ _ _ _ _ _ _ _ _ _ h hP hD hS (lv_sub hl [1, 2, 3, 4, 5, 0] rfl)
    · rw [if_pos hc] at h
      refine lv_aload_n hx hb d_M_add_23 rfl (lv_at hl 0 rfl) ?_
      refine va_get (ci := 4) (v := .ref (a 28)) (C := R_M) (T := F_M) (N := 35) hx hb hts i_M hown hK.1 hP 0 rfl rfl 12 (by decide) (hts _ wd_356) (fun _ h9 => h9) rfl d_M_add_24 ?_
      refine lv_iload hx hb d_M_add_27 (lv_at hl 5 rfl) ?_
      replace h := gd h
      obtain ⟨hi, h⟩ := h
      refine va_iald hx hb hK.1 hP 8 0 rfl rfl hi d_M_add_29 ?_
      refine lv_iload_n hx hb d_M_add_30 rfl (lv_at hl 2 rfl) ?_
      refine lv_icmp_ne (tgt := 60) hx hb d_M_add_31 (by decide) (fun hc => ?_) (fun hc => ?_)
      · rw [if_neg hc] at h
        refine lv_iinc (v := (x5 + 1)) (lv' := [(5, .int (x5 + 1)), (0, .ref (a 20)), (1, .int x1), (2, .int x2), (3, .int x3), (4, .int x4)]) hx hb d_M_add_60 hl (k := 5) rfl rfl (by decide) rfl (fun ls hl => ?_)
        refine lv_goto (tgt := 3) hx hb d_M_add_63 (by decide) ?_
        exact hk3 _ _ _ _ _ _ _ _ _ _ h hP hD hS (lv_sub hl [1, 2, 3, 4, 5, 0] rfl)
      · rw [if_pos hc] at h
        refine lv_aload_n hx hb d_M_add_34 rfl (lv_at hl 0 rfl) ?_
        refine va_get (ci := 4) (v := .ref (a 29)) (C := R_M) (T := F_M) (N := 35) hx hb hts i_M hown hK.1 hP 0 rfl rfl 13 (by decide) (hts _ wd_357) (fun _ h9 => h9) rfl d_M_add_35 ?_
        refine lv_iload hx hb d_M_add_38 (lv_at hl 5 rfl) ?_
        replace h := gd h
        obtain ⟨hi, h⟩ := h
        refine va_iald hx hb hK.1 hP 9 0 rfl rfl hi d_M_add_40 ?_
        refine lv_iload_n hx hb d_M_add_41 rfl (lv_at hl 3 rfl) ?_
        refine lv_icmp_ne (tgt := 60) hx hb d_M_add_42 (by decide) (fun hc => ?_) (fun hc => ?_)
        · rw [if_neg hc] at h
          refine lv_iinc (v := (x5 + 1)) (lv' := [(5, .int (x5 + 1)), (0, .ref (a 20)), (1, .int x1), (2, .int x2), (3, .int x3), (4, .int x4)]) hx hb d_M_add_60 hl (k := 5) rfl rfl (by decide) rfl (fun ls hl => ?_)
          refine lv_goto (tgt := 3) hx hb d_M_add_63 (by decide) ?_
          exact hk3 _ _ _ _ _ _ _ _ _ _ h hP hD hS (lv_sub hl [1, 2, 3, 4, 5, 0] rfl)
        · rw [if_pos hc] at h
          refine lv_aload_n hx hb d_M_add_45 rfl (lv_at hl 0 rfl) ?_
          refine va_get (ci := 4) (v := .ref (a 30)) (C := R_M) (T := F_M) (N := 35) hx hb hts i_M hown hK.1 hP 0 rfl rfl 14 (by decide) (hts _ wd_358) (fun _ h9 => h9) rfl d_M_add_46 ?_
          refine lv_iload hx hb d_M_add_49 (lv_at hl 5 rfl) ?_
          replace h := gd h
          obtain ⟨hi, h⟩ := h
          refine va_iald hx hb hK.1 hP 10 0 rfl rfl hi d_M_add_51 ?_
          refine lv_iload hx hb d_M_add_52 (lv_at hl 4 rfl) ?_
          refine lv_icmp_ne (tgt := 60) hx hb d_M_add_54 (by decide) (fun hc => ?_) (fun hc => ?_)
          · rw [if_neg hc] at h
            refine lv_iinc (v := (x5 + 1)) (lv' := [(5, .int (x5 + 1)), (0, .ref (a 20)), (1, .int x1), (2, .int x2), (3, .int x3), (4, .int x4)]) hx hb d_M_add_60 hl (k := 5) rfl rfl (by decide) rfl (fun ls hl => ?_)
            refine lv_goto (tgt := 3) hx hb d_M_add_63 (by decide) ?_
            exact hk3 _ _ _ _ _ _ _ _ _ _ h hP hD hS (lv_sub hl [1, 2, 3, 4, 5, 0] rfl)
          · rw [if_pos hc] at h
            refine lv_iload hx hb d_M_add_57 (lv_at hl 5 rfl) ?_
            exact rw_ret C0 hP hD hS (Option.some.inj h) d_M_add_59
set_option maxHeartbeats 4000000 in
set_option maxRecDepth 100000 in
theorem t_M_add_3 {p : Program} {l : Launch} {e : Env} {s : State} {m : MethodId} {args : Array Value} {below : List Frame} {meth : Method} {c : Code} {D : va_G} {cI cZ : ClassId} {a : Nat → Nat} {A : Nat → Prop} (C0 : Am p s m args meth c b_M_add (some .int) 6 R_M D [(cI, .int), (cZ, .boolean)]) (hA : ∀ q, s.heap.size ≤ q → A q) {res : Int32 × StM}  {n : Nat} {q : Nat} {σ : StM} {x1 x2 x3 x4 x5 : Int32} (h : f_M_add_3  n σ x1 x2 x3 x4 x5 = some res) {H : Heap} {locs : List Loc} (hP : va_P D vwCl (wM cI cZ a q σ) H) (hD : va_D A (wM cI cZ a q σ)) (hS : va_S A s.heap H locs) {ls : Array Slot} (hl : lv_has ls 6 [(0, .ref (a 20)), (1, .int x1), (2, .int x2), (3, .int x3), (4, .int x4), (5, .int x5)]) : W p l e (rmK 0 0 0 0) s m args below meth c H locs 0 0 (RwQ below args s D A (fun q (σ : StM) => (wM cI cZ a q σ)) res 0 0) (F0 m 3 ls []) := by
  induction n generalizing q σ x1 x2 x3 x4 x5 H locs ls with
  | zero => cases h
  | succ n ih => exact t_M_add_3_s (a := a) C0 hA  (fun _ _ _ _ _ _ _ _ _ _ h hP hD hS hl => ih h hP hD hS hl) h hP hD hS hl
set_option maxHeartbeats 4000000 in
set_option maxRecDepth 100000 in
theorem t_M_add_0 {p : Program} {l : Launch} {e : Env} {s : State} {m : MethodId} {args : Array Value} {below : List Frame} {meth : Method} {c : Code} {D : va_G} {cI cZ : ClassId} {a : Nat → Nat} {A : Nat → Prop} (C0 : Am p s m args meth c b_M_add (some .int) 6 R_M D [(cI, .int), (cZ, .boolean)]) (hA : ∀ q, s.heap.size ≤ q → A q) {res : Int32 × StM}   {q : Nat} {σ : StM} {x1 x2 x3 x4 : Int32} (h : f_M_add σ x1 x2 x3 x4 = some res) {H : Heap} {locs : List Loc} (hP : va_P D vwCl (wM cI cZ a q σ) H) (hD : va_D A (wM cI cZ a q σ)) (hS : va_S A s.heap H locs) {ls : Array Slot} (hl : lv_has ls 6 [(0, .ref (a 20)), (1, .int x1), (2, .int x2), (3, .int x3), (4, .int x4)]) : W p l e (rmK 0 0 0 0) s m args below meth c H locs 0 0 (RwQ below args s D A (fun q (σ : StM) => (wM cI cZ a q σ)) res 0 0) (F0 m 0 ls []) := by
  obtain ⟨hx, hb, hr, hml, hown, hts, hlk, hK⟩ := id C0
  unfold f_M_add at h
  refine lv_iconst (v := 0) hx hb d_M_add_0 (by decide) ?_
  refine lv_istore (lv' := [(5, .int 0), (0, .ref (a 20)), (1, .int x1), (2, .int x2), (3, .int x3), (4, .int x4)]) hx hb d_M_add_1 hl (by decide) rfl (fun ls hl => ?_)
  exact t_M_add_3 (a := a) C0 hA  h hP hD hS (lv_sub hl [1, 2, 3, 4, 5, 0] rfl)
set_option maxHeartbeats 4000000 in
set_option maxRecDepth 100000 in
theorem c_M_add (l : Launch) (D : va_G) (cI cZ : ClassId) (a : Nat → Nat) (q : Nat) (σ : StM) (x1 : Int32) (x2 : Int32) (x3 : Int32) (x4 : Int32) {res : Int32 × StM} (h : f_M_add σ x1 x2 x3 x4 = some res) : RwM l y_M_add b_M_add 6 (some .int) 0 0 D [(cI, .int), (cZ, .boolean)] [.ref (a 20), .int x1, .int x2, .int x3, .int x4] (fun q (σ : StM) => (wM cI cZ a q σ)) q σ res :=
  rw_of (by decide) (Nat.le_of_ble_eq_true rfl) (fun p e s m args below meth c ls A C0 hA hP hD hS hl => t_M_add_0 (a := a) C0 hA h hP hD hS (lv_sub hl [0, 1, 2, 3, 4] rfl))
-- part 07.6M.10M_addNamed.lean.txt
def f_M_addNamed (σ : StM) (x1 x2 x3 : Int32) : Option (Int32 × StM) :=
  if (M_full σ) = 0 then
    (f_M_add σ 1 x1 x2 x3).bind fun r1 =>
    some (r1.1, r1.2)
  else
    some (0, σ)
set_option maxHeartbeats 4000000 in
set_option maxRecDepth 100000 in
theorem t_M_addNamed_0 {p : Program} {l : Launch} {e : Env} {s : State} {m : MethodId} {args : Array Value} {below : List Frame} {meth : Method} {c : Code} {D : va_G} {cI cZ : ClassId} {a : Nat → Nat} {A : Nat → Prop} (C0 : Am p s m args meth c b_M_addNamed (some .int) 4 R_M D [(cI, .int), (cZ, .boolean)]) (hA : ∀ q, s.heap.size ≤ q → A q) {res : Int32 × StM}   {q : Nat} {σ : StM} {x1 x2 x3 : Int32} (h : f_M_addNamed σ x1 x2 x3 = some res) {H : Heap} {locs : List Loc} (hP : va_P D vwCl (wM cI cZ a q σ) H) (hD : va_D A (wM cI cZ a q σ)) (hS : va_S A s.heap H locs) {ls : Array Slot} (hl : lv_has ls 4 [(0, .ref (a 20)), (1, .int x1), (2, .int x2), (3, .int x3)]) : W p l e (rmK 1 25 0 0) s m args below meth c H locs 0 0 (RwQ below args s D A (fun q (σ : StM) => (wM cI cZ a q σ)) res 0 0) (F0 m 0 ls []) := by
  obtain ⟨hx, hb, hr, hml, hown, hts, hlk, hK⟩ := id C0
  unfold f_M_addNamed at h
  refine lv_aload_n hx hb d_M_addNamed_0 rfl (lv_at hl 0 rfl) ?_
  refine va_get (ci := 4) (v := .int (M_full σ)) (C := R_M) (T := F_M) (N := 35) hx hb hts i_M hown hK.1 hP 0 rfl rfl 18 (by decide) (hts _ wd_364) (fun _ h9 => h9) rfl d_M_addNamed_1 ?_
  refine lv_if_eq (tgt := 11) hx hb d_M_addNamed_4 (by decide) (fun hc => ?_) (fun hc => ?_)
  · rw [if_pos hc] at h
    refine lv_aload_n hx hb d_M_addNamed_11 rfl (lv_at hl 0 rfl) ?_
    refine lv_iconst (v := 1) hx hb d_M_addNamed_12 (by decide) ?_
    refine lv_iload_n hx hb d_M_addNamed_13 rfl (lv_at hl 1 rfl) ?_
    refine lv_iload_n hx hb d_M_addNamed_14 rfl (lv_at hl 2 rfl) ?_
    refine lv_iload_n hx hb d_M_addNamed_15 rfl (lv_at hl 3 rfl) ?_
    replace h := bd h
    obtain ⟨r1, g1, h⟩ := h
    refine rw_V (n := 4) (ci := 4) (As := [.int 1, .int x1, .int x2, .int x3]) (rest := []) (Wn := fun _ => (wM cI cZ a q r1.2)) C0 hA (c_M_add l D cI cZ a q σ 1 x1 x2 x3 g1) wd_365 ⟨wd_366, wd_367, wd_368, wd_352⟩ (by decide +kernel) ⟨Nat.le_of_ble_eq_true rfl, Nat.le_of_ble_eq_true rfl⟩ hP hD hS [0, 1, 2, 3, 4, 5, 6, 7, 8, 9, 10, 11, 12, 13, 14, 15, 16, 17, 18, 19, 20, 21, 22, 23] [] [0, 1, 2, 3, 4, 5, 6, 7, 8, 9, 10, 11, 12, 13, 14, 15, 16, 17, 18, 19, 20, 21, 22, 23] jn_M__C (by decide) jn_M__R (by decide) (by decide) (by decide) jn_M__W rfl rfl rfl hl rfl rfl (Nat.le_of_ble_eq_true rfl) ⟨Nat.zero_le _, Nat.zero_le _⟩ d_M_addNamed_16 (fun H locs _ hP hD hS => ?_)
    try dsimp only at h
    exact rw_ret C0 hP hD hS (Option.some.inj h) d_M_addNamed_19
  · rw [if_neg hc] at h
    refine lv_iconst (v := 0) hx hb d_M_addNamed_7 (by decide) ?_
    refine lv_goto (tgt := 19) hx hb d_M_addNamed_8 (by decide) ?_
    exact rw_ret C0 hP hD hS (Option.some.inj h) d_M_addNamed_19
set_option maxHeartbeats 4000000 in
set_option maxRecDepth 100000 in
theorem c_M_addNamed (l : Launch) (D : va_G) (cI cZ : ClassId) (a : Nat → Nat) (q : Nat) (σ : StM) (x1 : Int32) (x2 : Int32) (x3 : Int32) {res : Int32 × StM} (h : f_M_addNamed σ x1 x2 x3 = some res) : RwM l y_M_addNamed b_M_addNamed 4 (some .int) 1 25 D [(cI, .int), (cZ, .boolean)] [.ref (a 20), .int x1, .int x2, .int x3] (fun q (σ : StM) => (wM cI cZ a q σ)) q σ res :=
  rw_of (by decide) (Nat.le_of_ble_eq_true rfl) (fun p e s m args below meth c ls A C0 hA hP hD hS hl => t_M_addNamed_0 (a := a) C0 hA h hP hD hS (lv_sub hl [0, 1, 2, 3] rfl))
-- part 07.6M.11M_addArray.lean.txt
def f_M_addArray (σ : StM) (x1 : Int32) : Option (Int32 × StM) :=
  if (M_full σ) = 0 then
    (f_M_add σ 2 (-1) (-1) x1).bind fun r1 =>
    some (r1.1, r1.2)
  else
    some (0, σ)
set_option maxHeartbeats 4000000 in
set_option maxRecDepth 100000 in
theorem t_M_addArray_0 {p : Program} {l : Launch} {e : Env} {s : State} {m : MethodId} {args : Array Value} {below : List Frame} {meth : Method} {c : Code} {D : va_G} {cI cZ : ClassId} {a : Nat → Nat} {A : Nat → Prop} (C0 : Am p s m args meth c b_M_addArray (some .int) 2 R_M D [(cI, .int), (cZ, .boolean)]) (hA : ∀ q, s.heap.size ≤ q → A q) {res : Int32 × StM}   {q : Nat} {σ : StM} {x1 : Int32} (h : f_M_addArray σ x1 = some res) {H : Heap} {locs : List Loc} (hP : va_P D vwCl (wM cI cZ a q σ) H) (hD : va_D A (wM cI cZ a q σ)) (hS : va_S A s.heap H locs) {ls : Array Slot} (hl : lv_has ls 2 [(0, .ref (a 20)), (1, .int x1)]) : W p l e (rmK 1 25 0 0) s m args below meth c H locs 0 0 (RwQ below args s D A (fun q (σ : StM) => (wM cI cZ a q σ)) res 0 0) (F0 m 0 ls []) := by
  obtain ⟨hx, hb, hr, hml, hown, hts, hlk, hK⟩ := id C0
  unfold f_M_addArray at h
  refine lv_aload_n hx hb d_M_addArray_0 rfl (lv_at hl 0 rfl) ?_
  refine va_get (ci := 4) (v := .int (M_full σ)) (C := R_M) (T := F_M) (N := 35) hx hb hts i_M hown hK.1 hP 0 rfl rfl 18 (by decide) (hts _ wd_364) (fun _ h9 => h9) rfl d_M_addArray_1 ?_
  refine lv_if_eq (tgt := 11) hx hb d_M_addArray_4 (by decide) (fun hc => ?_) (fun hc => ?_)
  · rw [if_pos hc] at h
    refine lv_aload_n hx hb d_M_addArray_11 rfl (lv_at hl 0 rfl) ?_
    refine lv_iconst (v := 2) hx hb d_M_addArray_12 (by decide) ?_
    refine lv_iconst (v := (-1)) hx hb d_M_addArray_13 (by decide) ?_
    refine lv_iconst (v := (-1)) hx hb d_M_addArray_14 (by decide) ?_
    refine lv_iload_n hx hb d_M_addArray_15 rfl (lv_at hl 1 rfl) ?_
    replace h := bd h
    obtain ⟨r1, g1, h⟩ := h
    refine rw_V (n := 4) (ci := 4) (As := [.int 2, .int (-1), .int (-1), .int x1]) (rest := []) (Wn := fun _ => (wM cI cZ a q r1.2)) C0 hA (c_M_add l D cI cZ a q σ 2 (-1) (-1) x1 g1) wd_365 ⟨wd_366, wd_367, wd_368, wd_352⟩ (by decide +kernel) ⟨Nat.le_of_ble_eq_true rfl, Nat.le_of_ble_eq_true rfl⟩ hP hD hS [0, 1, 2, 3, 4, 5, 6, 7, 8, 9, 10, 11, 12, 13, 14, 15, 16, 17, 18, 19, 20, 21, 22, 23] [] [0, 1, 2, 3, 4, 5, 6, 7, 8, 9, 10, 11, 12, 13, 14, 15, 16, 17, 18, 19, 20, 21, 22, 23] jn_M__C (by decide) jn_M__R (by decide) (by decide) (by decide) jn_M__W rfl rfl rfl hl rfl rfl (Nat.le_of_ble_eq_true rfl) ⟨Nat.zero_le _, Nat.zero_le _⟩ d_M_addArray_16 (fun H locs _ hP hD hS => ?_)
    try dsimp only at h
    exact rw_ret C0 hP hD hS (Option.some.inj h) d_M_addArray_19
  · rw [if_neg hc] at h
    refine lv_iconst (v := 0) hx hb d_M_addArray_7 (by decide) ?_
    refine lv_goto (tgt := 19) hx hb d_M_addArray_8 (by decide) ?_
    exact rw_ret C0 hP hD hS (Option.some.inj h) d_M_addArray_19
set_option maxHeartbeats 4000000 in
set_option maxRecDepth 100000 in
theorem c_M_addArray (l : Launch) (D : va_G) (cI cZ : ClassId) (a : Nat → Nat) (q : Nat) (σ : StM) (x1 : Int32) {res : Int32 × StM} (h : f_M_addArray σ x1 = some res) : RwM l y_M_addArray b_M_addArray 2 (some .int) 1 25 D [(cI, .int), (cZ, .boolean)] [.ref (a 20), .int x1] (fun q (σ : StM) => (wM cI cZ a q σ)) q σ res :=
  rw_of (by decide) (Nat.le_of_ble_eq_true rfl) (fun p e s m args below meth c ls A C0 hA hP hD hS hl => t_M_addArray_0 (a := a) C0 hA h hP hD hS (lv_sub hl [0, 1] rfl))
-- part 07.6M.12M_addBoth.lean.txt
def f_M_addBoth_228 (σ : StM) : Option (Int32 × StM) :=
  some (0, (M_set_full σ 1))
def f_M_addBoth_297_s (k297 : StM → Int32 → Int32 → Option (Int32 × StM)) (σ : StM) (x1 x3 : Int32) : Option (Int32 × StM) :=
  if x1 ≤ x3 then
    some (((M_types (M_set_types σ ((M_types σ) + 1))) - 1), (M_set_types σ ((M_types σ) + 1)))
  else
    if x3 < 0 ∨ 64 ≤ x3.toNatClampNeg then none else
    if ((30 * (M_types σ)) + x3) < 0 ∨ 9000 ≤ ((30 * (M_types σ)) + x3).toNatClampNeg then none else
    k297 (M_put_partRow σ ((30 * (M_types σ)) + x3) ((M_row σ) x3.toNatClampNeg)) x1 (x3 + 1)
def f_M_addBoth_297 : Nat → StM → Int32 → Int32 → Option (Int32 × StM)
  | 0, _, _, _ => none
  | n + 1, σ, x1, x3 => f_M_addBoth_297_s (f_M_addBoth_297 n) σ x1 x3
def f_M_addBoth_199 (k115 : StM → Int32 → Int32 → Int32 → Option (Int32 × StM)) (σ : StM) (x1 x2 x3 x4 : Int32) : Option (Int32 × StM) :=
  if x4 = 0 then
    k115 σ x1 x2 (x3 + 1)
  else
    some (x3, σ)
def f_M_addBoth_153_s (k115 : StM → Int32 → Int32 → Int32 → Option (Int32 × StM)) (k153 : StM → Int32 → Int32 → Int32 → Int32 → Int32 → Option (Int32 × StM)) (σ : StM) (x1 x2 x3 x4 x5 : Int32) : Option (Int32 × StM) :=
  if x1 ≤ x5 then
    f_M_addBoth_199 k115 σ x1 x2 x3 x4
  else
    if x4 = 0 then
      f_M_addBoth_199 k115 σ x1 x2 x3 x4
    else
      if ((30 * x3) + x5) < 0 ∨ 9000 ≤ ((30 * x3) + x5).toNatClampNeg then none else
      if x5 < 0 ∨ 64 ≤ x5.toNatClampNeg then none else
      if ((M_partRow σ) ((30 * x3) + x5).toNatClampNeg) = ((M_row σ) x5.toNatClampNeg) then
        k153 σ x1 x2 x3 1 (x5 + 1)
      else
        k153 σ x1 x2 x3 0 (x5 + 1)
def f_M_addBoth_153 (k115 : StM → Int32 → Int32 → Int32 → Option (Int32 × StM)) : Nat → StM → Int32 → Int32 → Int32 → Int32 → Int32 → Option (Int32 × StM)
  | 0, _, _, _, _, _, _ => none
  | n + 1, σ, x1, x2, x3, x4, x5 => f_M_addBoth_153_s k115 (f_M_addBoth_153 k115 n) σ x1 x2 x3 x4 x5
def f_M_addBoth_115_s (k115 : StM → Int32 → Int32 → Int32 → Option (Int32 × StM)) (σ : StM) (x1 x2 x3 : Int32) : Option (Int32 × StM) :=
  if (M_types σ) ≤ x3 then
    if (M_types σ) = 300 then
      f_M_addBoth_228 σ
    else
      if x2 ≤ 100 then
        if (M_types σ) < 0 ∨ 300 ≤ (M_types σ).toNatClampNeg then none else
        if (M_types (M_put_kind σ (M_types σ) 3)) < 0 ∨ 300 ≤ (M_types (M_put_kind σ (M_types σ) 3)).toNatClampNeg then none else
        if (M_types (M_put_classOf (M_put_kind σ (M_types σ) 3) (M_types (M_put_kind σ (M_types σ) 3)) (-1))) < 0 ∨ 300 ≤ (M_types (M_put_classOf (M_put_kind σ (M_types σ) 3) (M_types (M_put_kind σ (M_types σ) 3)) (-1))).toNatClampNeg then none else
        if (M_types (M_put_how (M_put_classOf (M_put_kind σ (M_types σ) 3) (M_types (M_put_kind σ (M_types σ) 3)) (-1)) (M_types (M_put_classOf (M_put_kind σ (M_types σ) 3) (M_types (M_put_kind σ (M_types σ) 3)) (-1))) (-1))) < 0 ∨ 300 ≤ (M_types (M_put_how (M_put_classOf (M_put_kind σ (M_types σ) 3) (M_types (M_put_kind σ (M_types σ) 3)) (-1)) (M_types (M_put_classOf (M_put_kind σ (M_types σ) 3) (M_types (M_put_kind σ (M_types σ) 3)) (-1))) (-1))).toNatClampNeg then none else
        if (M_types (M_put_inner (M_put_how (M_put_classOf (M_put_kind σ (M_types σ) 3) (M_types (M_put_kind σ (M_types σ) 3)) (-1)) (M_types (M_put_classOf (M_put_kind σ (M_types σ) 3) (M_types (M_put_kind σ (M_types σ) 3)) (-1))) (-1)) (M_types (M_put_how (M_put_classOf (M_put_kind σ (M_types σ) 3) (M_types (M_put_kind σ (M_types σ) 3)) (-1)) (M_types (M_put_classOf (M_put_kind σ (M_types σ) 3) (M_types (M_put_kind σ (M_types σ) 3)) (-1))) (-1))) (-1))) < 0 ∨ 300 ≤ (M_types (M_put_inner (M_put_how (M_put_classOf (M_put_kind σ (M_types σ) 3) (M_types (M_put_kind σ (M_types σ) 3)) (-1)) (M_types (M_put_classOf (M_put_kind σ (M_types σ) 3) (M_types (M_put_kind σ (M_types σ) 3)) (-1))) (-1)) (M_types (M_put_how (M_put_classOf (M_put_kind σ (M_types σ) 3) (M_types (M_put_kind σ (M_types σ) 3)) (-1)) (M_types (M_put_classOf (M_put_kind σ (M_types σ) 3) (M_types (M_put_kind σ (M_types σ) 3)) (-1))) (-1))) (-1))).toNatClampNeg then none else
        if (M_types (M_put_made (M_put_inner (M_put_how (M_put_classOf (M_put_kind σ (M_types σ) 3) (M_types (M_put_kind σ (M_types σ) 3)) (-1)) (M_types (M_put_classOf (M_put_kind σ (M_types σ) 3) (M_types (M_put_kind σ (M_types σ) 3)) (-1))) (-1)) (M_types (M_put_how (M_put_classOf (M_put_kind σ (M_types σ) 3) (M_types (M_put_kind σ (M_types σ) 3)) (-1)) (M_types (M_put_classOf (M_put_kind σ (M_types σ) 3) (M_types (M_put_kind σ (M_types σ) 3)) (-1))) (-1))) (-1)) (M_types (M_put_inner (M_put_how (M_put_classOf (M_put_kind σ (M_types σ) 3) (M_types (M_put_kind σ (M_types σ) 3)) (-1)) (M_types (M_put_classOf (M_put_kind σ (M_types σ) 3) (M_types (M_put_kind σ (M_types σ) 3)) (-1))) (-1)) (M_types (M_put_how (M_put_classOf (M_put_kind σ (M_types σ) 3) (M_types (M_put_kind σ (M_types σ) 3)) (-1)) (M_types (M_put_classOf (M_put_kind σ (M_types σ) 3) (M_types (M_put_kind σ (M_types σ) 3)) (-1))) (-1))) (-1))) x2)) < 0 ∨ 300 ≤ (M_types (M_put_made (M_put_inner (M_put_how (M_put_classOf (M_put_kind σ (M_types σ) 3) (M_types (M_put_kind σ (M_types σ) 3)) (-1)) (M_types (M_put_classOf (M_put_kind σ (M_types σ) 3) (M_types (M_put_kind σ (M_types σ) 3)) (-1))) (-1)) (M_types (M_put_how (M_put_classOf (M_put_kind σ (M_types σ) 3) (M_types (M_put_kind σ (M_types σ) 3)) (-1)) (M_types (M_put_classOf (M_put_kind σ (M_types σ) 3) (M_types (M_put_kind σ (M_types σ) 3)) (-1))) (-1))) (-1)) (M_types (M_put_inner (M_put_how (M_put_classOf (M_put_kind σ (M_types σ) 3) (M_types (M_put_kind σ (M_types σ) 3)) (-1)) (M_types (M_put_classOf (M_put_kind σ (M_types σ) 3) (M_types (M_put_kind σ (M_types σ) 3)) (-1))) (-1)) (M_types (M_put_how (M_put_classOf (M_put_kind σ (M_types σ) 3) (M_types (M_put_kind σ (M_types σ) 3)) (-1)) (M_types (M_put_classOf (M_put_kind σ (M_types σ) 3) (M_types (M_put_kind σ (M_types σ) 3)) (-1))) (-1))) (-1))) x2)).toNatClampNeg then none else
        f_M_addBoth_297 1000 (M_put_partCount (M_put_made (M_put_inner (M_put_how (M_put_classOf (M_put_kind σ (M_types σ) 3) (M_types (M_put_kind σ (M_types σ) 3)) (-1)) (M_types (M_put_classOf (M_put_kind σ (M_types σ) 3) (M_types (M_put_kind σ (M_types σ) 3)) (-1))) (-1)) (M_types (M_put_how (M_put_classOf (M_put_kind σ (M_types σ) 3) (M_types (M_put_kind σ (M_types σ) 3)) (-1)) (M_types (M_put_classOf (M_put_kind σ (M_types σ) 3) (M_types (M_put_kind σ (M_types σ) 3)) (-1))) (-1))) (-1)) (M_types (M_put_inner (M_put_how (M_put_classOf (M_put_kind σ (M_types σ) 3) (M_types (M_put_kind σ (M_types σ) 3)) (-1)) (M_types (M_put_classOf (M_put_kind σ (M_types σ) 3) (M_types (M_put_kind σ (M_types σ) 3)) (-1))) (-1)) (M_types (M_put_how (M_put_classOf (M_put_kind σ (M_types σ) 3) (M_types (M_put_kind σ (M_types σ) 3)) (-1)) (M_types (M_put_classOf (M_put_kind σ (M_types σ) 3) (M_types (M_put_kind σ (M_types σ) 3)) (-1))) (-1))) (-1))) x2) (M_types (M_put_made (M_put_inner (M_put_how (M_put_classOf (M_put_kind σ (M_types σ) 3) (M_types (M_put_kind σ (M_types σ) 3)) (-1)) (M_types (M_put_classOf (M_put_kind σ (M_types σ) 3) (M_types (M_put_kind σ (M_types σ) 3)) (-1))) (-1)) (M_types (M_put_how (M_put_classOf (M_put_kind σ (M_types σ) 3) (M_types (M_put_kind σ (M_types σ) 3)) (-1)) (M_types (M_put_classOf (M_put_kind σ (M_types σ) 3) (M_types (M_put_kind σ (M_types σ) 3)) (-1))) (-1))) (-1)) (M_types (M_put_inner (M_put_how (M_put_classOf (M_put_kind σ (M_types σ) 3) (M_types (M_put_kind σ (M_types σ) 3)) (-1)) (M_types (M_put_classOf (M_put_kind σ (M_types σ) 3) (M_types (M_put_kind σ (M_types σ) 3)) (-1))) (-1)) (M_types (M_put_how (M_put_classOf (M_put_kind σ (M_types σ) 3) (M_types (M_put_kind σ (M_types σ) 3)) (-1)) (M_types (M_put_classOf (M_put_kind σ (M_types σ) 3) (M_types (M_put_kind σ (M_types σ) 3)) (-1))) (-1))) (-1))) x2)) x1) x1 0
      else
        f_M_addBoth_228 σ
  else
    if x3 < 0 ∨ 300 ≤ x3.toNatClampNeg then none else
    if ((M_kind σ) x3.toNatClampNeg) = 3 then
      if x3 < 0 ∨ 300 ≤ x3.toNatClampNeg then none else
      if ((M_partCount σ) x3.toNatClampNeg) = x1 then
        f_M_addBoth_153 k115 1000 σ x1 x2 x3 1 0
      else
        f_M_addBoth_153 k115 1000 σ x1 x2 x3 0 0
    else
      f_M_addBoth_153 k115 1000 σ x1 x2 x3 0 0
def f_M_addBoth_115 : Nat → StM → Int32 → Int32 → Int32 → Option (Int32 × StM)
  | 0, _, _, _, _ => none
  | n + 1, σ, x1, x2, x3 => f_M_addBoth_115_s (f_M_addBoth_115 n) σ x1 x2 x3
def f_M_addBoth_88_s (k88 : StM → Int32 → Int32 → Int32 → Option (Int32 × StM)) (σ : StM) (x1 x2 x3 : Int32) : Option (Int32 × StM) :=
  if x1 ≤ x3 then
    f_M_addBoth_115 1000 σ x1 x2 0
  else
    if x3 < 0 ∨ 64 ≤ x3.toNatClampNeg then none else
    if ((M_row σ) x3.toNatClampNeg) < 0 ∨ 300 ≤ ((M_row σ) x3.toNatClampNeg).toNatClampNeg then none else
    k88 σ x1 (x2 + ((M_made σ) ((M_row σ) x3.toNatClampNeg).toNatClampNeg)) (x3 + 1)
def f_M_addBoth_88 : Nat → StM → Int32 → Int32 → Int32 → Option (Int32 × StM)
  | 0, _, _, _, _ => none
  | n + 1, σ, x1, x2, x3 => f_M_addBoth_88_s (f_M_addBoth_88 n) σ x1 x2 x3
def f_M_addBoth_9_s (k2 : StM → Int32 → Int32 → Option (Int32 × StM)) (k9 : StM → Int32 → Int32 → Int32 → Option (Int32 × StM)) (σ : StM) (x1 x2 x3 : Int32) : Option (Int32 × StM) :=
  if x3 ≤ 0 then
    k2 σ x1 (x2 + 1)
  else
    if (x3 - 1) < 0 ∨ 64 ≤ (x3 - 1).toNatClampNeg then none else
    if ((M_row σ) (x3 - 1).toNatClampNeg) < 0 ∨ 300 ≤ ((M_row σ) (x3 - 1).toNatClampNeg).toNatClampNeg then none else
    if x3 < 0 ∨ 64 ≤ x3.toNatClampNeg then none else
    if ((M_row σ) x3.toNatClampNeg) < 0 ∨ 300 ≤ ((M_row σ) x3.toNatClampNeg).toNatClampNeg then none else
    if ((M_classOf σ) ((M_row σ) (x3 - 1).toNatClampNeg).toNatClampNeg) ≤ ((M_classOf σ) ((M_row σ) x3.toNatClampNeg).toNatClampNeg) then
      k2 σ x1 (x2 + 1)
    else
      if x3 < 0 ∨ 64 ≤ x3.toNatClampNeg then none else
      if (x3 - 1) < 0 ∨ 64 ≤ (x3 - 1).toNatClampNeg then none else
      if x3 < 0 ∨ 64 ≤ x3.toNatClampNeg then none else
      if (x3 - 1) < 0 ∨ 64 ≤ (x3 - 1).toNatClampNeg then none else
      k9 (M_put_row (M_put_row σ x3 ((M_row σ) (x3 - 1).toNatClampNeg)) (x3 - 1) ((M_row σ) x3.toNatClampNeg)) x1 x2 (x3 + (-1))
def f_M_addBoth_9 (k2 : StM → Int32 → Int32 → Option (Int32 × StM)) : Nat → StM → Int32 → Int32 → Int32 → Option (Int32 × StM)
  | 0, _, _, _, _ => none
  | n + 1, σ, x1, x2, x3 => f_M_addBoth_9_s k2 (f_M_addBoth_9 k2 n) σ x1 x2 x3
def f_M_addBoth_2_s (k2 : StM → Int32 → Int32 → Option (Int32 × StM)) (σ : StM) (x1 x2 : Int32) : Option (Int32 × StM) :=
  if x1 ≤ x2 then
    f_M_addBoth_88 1000 σ x1 1 0
  else
    f_M_addBoth_9 k2 1000 σ x1 x2 x2
def f_M_addBoth_2 : Nat → StM → Int32 → Int32 → Option (Int32 × StM)
  | 0, _, _, _ => none
  | n + 1, σ, x1, x2 => f_M_addBoth_2_s (f_M_addBoth_2 n) σ x1 x2
def f_M_addBoth (σ : StM) (x1 : Int32) : Option (Int32 × StM) :=
  f_M_addBoth_2 1000 σ x1 1
set_option maxHeartbeats 4000000 in
set_option maxRecDepth 100000 in
theorem t_M_addBoth_228 {p : Program} {l : Launch} {e : Env} {s : State} {m : MethodId} {args : Array Value} {below : List Frame} {meth : Method} {c : Code} {D : va_G} {cI cZ : ClassId} {a : Nat → Nat} {A : Nat → Prop} (C0 : Am p s m args meth c b_M_addBoth (some .int) 6 R_M D [(cI, .int), (cZ, .boolean)]) (hA : ∀ q, s.heap.size ≤ q → A q) {res : Int32 × StM}   {q : Nat} {σ : StM} (h : f_M_addBoth_228 σ = some res) {H : Heap} {locs : List Loc} (hP : va_P D vwCl (wM cI cZ a q σ) H) (hD : va_D A (wM cI cZ a q σ)) (hS : va_S A s.heap H locs) {ls : Array Slot} (hl : lv_has ls 6 [(0, .ref (a 20))]) : W p l e (rmK 0 0 0 0) s m args below meth c H locs 0 0 (RwQ below args s D A (fun q (σ : StM) => (wM cI cZ a q σ)) res 0 0) (F0 m 228 ls []) := by
  obtain ⟨hx, hb, hr, hml, hown, hts, hlk, hK⟩ := id C0
  unfold f_M_addBoth_228 at h
  refine lv_aload_n hx hb d_M_addBoth_228 rfl (lv_at hl 0 rfl) ?_
  refine lv_iconst (v := 1) hx hb d_M_addBoth_229 (by decide) ?_
  refine rw_put (v := .int 1) (fty := .boolean) (C := R_M) (T := F_M) (N := 35) C0 hP hD hS i_M ty_M tyok_M nn_M 0 rfl rfl 18 (by decide) (hts _ wd_364) rfl rfl (by decide +kernel) rfl rfl (Nat.le_of_ble_eq_true rfl) d_M_addBoth_230 (Wn := (wM cI cZ a q (M_set_full σ 1))) ws_M_set_full (fun H locs hP hD hS => ?_)
  refine lv_iconst (v := 0) hx hb d_M_addBoth_233 (by decide) ?_
  exact rw_ret C0 hP hD hS (Option.some.inj h) d_M_addBoth_234
set_option maxHeartbeats 4000000 in
set_option maxRecDepth 100000 in
theorem t_M_addBoth_297_s {p : Program} {l : Launch} {e : Env} {s : State} {m : MethodId} {args : Array Value} {below : List Frame} {meth : Method} {c : Code} {D : va_G} {cI cZ : ClassId} {a : Nat → Nat} {A : Nat → Prop} (C0 : Am p s m args meth c b_M_addBoth (some .int) 6 R_M D [(cI, .int), (cZ, .boolean)]) (hA : ∀ q, s.heap.size ≤ q → A q) {res : Int32 × StM} {k297 : StM → Int32 → Int32 → Option (Int32 × StM)}  (hk297 : ∀ (q : Nat) (σ : StM) (x1 x3 : Int32) (H : Heap) (locs : List Loc) (ls : Array Slot), k297 σ x1 x3 = some res → va_P D vwCl (wM cI cZ a q σ) H → va_D A (wM cI cZ a q σ) → va_S A s.heap H locs → lv_has ls 6 [(0, .ref (a 20)), (1, .int x1), (3, .int x3)] → W p l e (rmK 0 0 0 0) s m args below meth c H locs 0 0 (RwQ below args s D A (fun q (σ : StM) => (wM cI cZ a q σ)) res 0 0) (F0 m 297 ls [])) {q : Nat} {σ : StM} {x1 x3 : Int32} (h : f_M_addBoth_297_s k297 σ x1 x3 = some res) {H : Heap} {locs : List Loc} (hP : va_P D vwCl (wM cI cZ a q σ) H) (hD : va_D A (wM cI cZ a q σ)) (hS : va_S A s.heap H locs) {ls : Array Slot} (hl : lv_has ls 6 [(0, .ref (a 20)), (1, .int x1), (3, .int x3)]) : W p l e (rmK 0 0 0 0) s m args below meth c H locs 0 0 (RwQ below args s D A (fun q (σ : StM) => (wM cI cZ a q σ)) res 0 0) (F0 m 297 ls []) := by
  obtain ⟨hx, hb, hr, hml, hown, hts, hlk, hK⟩ := id C0
  unfold f_M_addBoth_297_s at h
  refine lv_iload_n hx hb d_M_addBoth_297 rfl (lv_at hl 2 rfl) ?_
  refine lv_iload_n hx hb d_M_addBoth_298 rfl (lv_at hl 1 rfl) ?_
  refine lv_icmp_ge (tgt := 328) hx hb d_M_addBoth_299 (by decide) (fun hc => ?_) (fun hc => ?_)
  · rw [if_pos hc] at h
    refine lv_aload_n hx hb d_M_addBoth_328 rfl (lv_at hl 0 rfl) ?_
    refine lv_dup hx hb d_M_addBoth_329 rfl ?_
    refine va_get (ci := 4) (v := .int (M_types σ)) (C := R_M) (T := F_M) (N := 35) hx hb hts i_M hown hK.1 hP 0 rfl rfl 10 (by decide) (hts _ wd_344) (fun _ h9 => h9) rfl d_M_addBoth_330 ?_
    refine lv_iconst (v := 1) hx hb d_M_addBoth_333 (by decide) ?_
    refine lv_iadd hx hb d_M_addBoth_334 ?_
    refine rw_put (v := .int ((M_types σ) + 1)) (fty := .int) (C := R_M) (T := F_M) (N := 35) C0 hP hD hS i_M ty_M tyok_M nn_M 0 rfl rfl 10 (by decide) (hts _ wd_344) rfl rfl (by decide +kernel) rfl rfl (Nat.le_of_ble_eq_true rfl) d_M_addBoth_335 (Wn := (wM cI cZ a q (M_set_types σ ((M_types σ) + 1)))) ws_M_set_types (fun H locs hP hD hS => ?_)
    refine lv_aload_n hx hb d_M_addBoth_338 rfl (lv_at hl 0 rfl) ?_
    refine va_get (ci := 4) (v := .int (M_types (M_set_types σ ((M_types σ) + 1)))) (C := R_M) (T := F_M) (N := 35) hx hb hts i_M hown hK.1 hP 0 rfl rfl 10 (by decide) (hts _ wd_344) (fun _ h9 => h9) rfl d_M_addBoth_339 ?_
    refine lv_iconst (v := 1) hx hb d_M_addBoth_342 (by decide) ?_
    refine lv_isub hx hb d_M_addBoth_343 ?_
    exact rw_ret C0 hP hD hS (Option.some.inj h) d_M_addBoth_344
  · rw [if_neg hc] at h
    refine lv_aload_n hx hb d_M_addBoth_302 rfl (lv_at hl 0 rfl) ?_
    refine va_get (ci := 4) (v := .ref (a 33)) (C := R_M) (T := F_M) (N := 35) hx hb hts i_M hown hK.1 hP 0 rfl rfl 17 (by decide) (hts _ wd_355) (fun _ h9 => h9) rfl d_M_addBoth_303 ?_
    refine lv_bipush (v := 30) hx hb d_M_addBoth_306 (by decide) ?_
    refine lv_aload_n hx hb d_M_addBoth_308 rfl (lv_at hl 0 rfl) ?_
    refine va_get (ci := 4) (v := .int (M_types σ)) (C := R_M) (T := F_M) (N := 35) hx hb hts i_M hown hK.1 hP 0 rfl rfl 10 (by decide) (hts _ wd_344) (fun _ h9 => h9) rfl d_M_addBoth_309 ?_
    refine lv_imul hx hb d_M_addBoth_312 ?_
    refine lv_iload_n hx hb d_M_addBoth_313 rfl (lv_at hl 2 rfl) ?_
    refine lv_iadd hx hb d_M_addBoth_314 ?_
    refine lv_aload_n hx hb d_M_addBoth_315 rfl (lv_at hl 0 rfl) ?_
    refine va_get (ci := 4) (v := .ref (a 34)) (C := R_M) (T := F_M) (N := 35) hx hb hts i_M hown hK.1 hP 0 rfl rfl 22 (by decide) (hts _ wd_369) (fun _ h9 => h9) rfl d_M_addBoth_316 ?_
    refine lv_iload_n hx hb d_M_addBoth_319 rfl (lv_at hl 2 rfl) ?_
    replace h := gd h
    obtain ⟨hi, h⟩ := h
    refine va_iald hx hb hK.1 hP 14 0 rfl rfl hi d_M_addBoth_320 ?_
    replace h := gd h
    obtain ⟨hi, h⟩ := h
    refine rw_iast C0 hP hD hS 13 0 rfl rfl hi d_M_addBoth_321 (Wn := (wM cI cZ a q (M_put_partRow σ ((30 * (M_types σ)) + x3) ((M_row σ) x3.toNatClampNeg)))) ws_M_put_partRow (fun H locs hP hD hS => ?_)
    refine lv_iinc (v := (x3 + 1)) (lv' := [(3, .int (x3 + 1)), (0, .ref (a 20)), (1, .int x1)]) hx hb d_M_addBoth_322 hl (k := 2) rfl rfl (by decide) rfl (fun ls hl => ?_)
    refine lv_goto (tgt := 297) hx hb d_M_addBoth_325 (by decide) ?_
    exact hk297 _ _ _ _ _ _ _ h hP hD hS (lv_sub hl [1, 2, 0] rfl)
set_option maxHeartbeats 4000000 in
set_option maxRecDepth 100000 in
theorem t_M_addBoth_297 {p : Program} {l : Launch} {e : Env} {s : State} {m : MethodId} {args : Array Value} {below : List Frame} {meth : Method} {c : Code} {D : va_G} {cI cZ : ClassId} {a : Nat → Nat} {A : Nat → Prop} (C0 : Am p s m args meth c b_M_addBoth (some .int) 6 R_M D [(cI, .int), (cZ, .boolean)]) (hA : ∀ q, s.heap.size ≤ q → A q) {res : Int32 × StM}  {n : Nat} {q : Nat} {σ : StM} {x1 x3 : Int32} (h : f_M_addBoth_297  n σ x1 x3 = some res) {H : Heap} {locs : List Loc} (hP : va_P D vwCl (wM cI cZ a q σ) H) (hD : va_D A (wM cI cZ a q σ)) (hS : va_S A s.heap H locs) {ls : Array Slot} (hl : lv_has ls 6 [(0, .ref (a 20)), (1, .int x1), (3, .int x3)]) : W p l e (rmK 0 0 0 0) s m args below meth c H locs 0 0 (RwQ below args s D A (fun q (σ : StM) => (wM cI cZ a q σ)) res 0 0) (F0 m 297 ls []) := by
  induction n generalizing q σ x1 x3 H locs ls with
  | zero => cases h
  | succ n ih => exact t_M_addBoth_297_s (a := a) C0 hA  (fun _ _ _ _ _ _ _ h hP hD hS hl => ih h hP hD hS hl) h hP hD hS hl
set_option maxHeartbeats 4000000 in
set_option maxRecDepth 100000 in
theorem t_M_addBoth_199 {p : Program} {l : Launch} {e : Env} {s : State} {m : MethodId} {args : Array Value} {below : List Frame} {meth : Method} {c : Code} {D : va_G} {cI cZ : ClassId} {a : Nat → Nat} {A : Nat → Prop} (C0 : Am p s m args meth c b_M_addBoth (some .int) 6 R_M D [(cI, .int), (cZ, .boolean)]) (hA : ∀ q, s.heap.size ≤ q → A q) {res : Int32 × StM} {k115 : StM → Int32 → Int32 → Int32 → Option (Int32 × StM)} (hk115 : ∀ (q : Nat) (σ : StM) (x1 x2 x3 : Int32) (H : Heap) (locs : List Loc) (ls : Array Slot), k115 σ x1 x2 x3 = some res → va_P D vwCl (wM cI cZ a q σ) H → va_D A (wM cI cZ a q σ) → va_S A s.heap H locs → lv_has ls 6 [(0, .ref (a 20)), (1, .int x1), (2, .int x2), (3, .int x3)] → W p l e (rmK 0 0 0 0) s m args below meth c H locs 0 0 (RwQ below args s D A (fun q (σ : StM) => (wM cI cZ a q σ)) res 0 0) (F0 m 115 ls []))  {q : Nat} {σ : StM} {x1 x2 x3 x4 : Int32} (h : f_M_addBoth_199 k115 σ x1 x2 x3 x4 = some res) {H : Heap} {locs : List Loc} (hP : va_P D vwCl (wM cI cZ a q σ) H) (hD : va_D A (wM cI cZ a q σ)) (hS : va_S A s.heap H locs) {ls : Array Slot} (hl : lv_has ls 6 [(0, .ref (a 20)), (1, .int x1), (2, .int x2), (3, .int x3), (4, .int x4)]) : W p l e (rmK 0 0 0 0) s m args below meth c H locs 0 0 (RwQ below args s D A (fun q (σ : StM) => (wM cI cZ a q σ)) res 0 0) (F0 m 199 ls []) := by
  obtain ⟨hx, hb, hr, hml, hown, hts, hlk, hK⟩ := id C0
  unfold f_M_addBoth_199 at h
  refine lv_iload hx hb d_M_addBoth_199 (lv_at hl 4 rfl) ?_
  refine lv_if_eq (tgt := 206) hx hb d_M_addBoth_201 (by decide) (fun hc => ?_) (fun hc => ?_)
  · rw [if_pos hc] at h
    refine lv_iinc (v := (x3 + 1)) (lv' := [(3, .int (x3 + 1)), (0, .ref (a 20)), (1, .int x1), (2, .int x2), (4, .int x4)]) hx hb d_M_addBoth_206 hl (k := 3) rfl rfl (by decide) rfl (fun ls hl => ?_)
    refine lv_goto (tgt := 115) hx hb d_M_addBoth_209 (by decide) ?_
    exact hk115 _ _ _ _ _ _ _ _ h hP hD hS (lv_sub hl [1, 2, 3, 0] rfl)
  · rw [if_neg hc] at h
    refine lv_iload_n hx hb d_M_addBoth_204 rfl (lv_at hl 3 rfl) ?_
    exact rw_ret C0 hP hD hS (Option.some.inj h) d_M_addBoth_205
set_option maxHeartbeats 4000000 in
set_option maxRecDepth 100000 in
theorem t_M_addBoth_153_s {p : Program} {l : Launch} {e : Env} {s : State} {m : MethodId} {args : Array Value} {below : List Frame} {meth : Method} {c : Code} {D : va_G} {cI cZ : ClassId} {a : Nat → Nat} {A : Nat → Prop} (C0 : Am p s m args meth c b_M_addBoth (some .int) 6 R_M D [(cI, .int), (cZ, .boolean)]) (hA : ∀ q, s.heap.size ≤ q → A q) {res : Int32 × StM} {k115 : StM → Int32 → Int32 → Int32 → Option (Int32 × StM)} {k153 : StM → Int32 → Int32 → Int32 → Int32 → Int32 → Option (Int32 × StM)} (hk115 : ∀ (q : Nat) (σ : StM) (x1 x2 x3 : Int32) (H : Heap) (locs : List Loc) (ls : Array Slot), k115 σ x1 x2 x3 = some res → va_P D vwCl (wM cI cZ a q σ) H → va_D A (wM cI cZ a q σ) → va_S A s.heap H locs → lv_has ls 6 [(0, .ref (a 20)), (1, .int x1), (2, .int x2), (3, .int x3)] → W p l e (rmK 0 0 0 0) s m args below meth c H locs 0 0 (RwQ below args s D A (fun q (σ : StM) => (wM cI cZ a q σ)) res 0 0) (F0 m 115 ls [])) (hk153 : ∀ (q : Nat) (σ : StM) (x1 x2 x3 x4 x5 : Int32) (H : Heap) (locs : List Loc) (ls : Array Slot), k153 σ x1 x2 x3 x4 x5 = some res → va_P D vwCl (wM cI cZ a q σ) H → va_D A (wM cI cZ a q σ) → va_S A s.heap H locs → lv_has ls 6 [(0, .ref (a 20)), (1, .int x1), (2, .int x2), (3, .int x3), (4, .int x4), (5, .int x5)] → W p l e (rmK 0 0 0 0) s m args below meth c H locs 0 0 (RwQ below args s D A (fun q (σ : StM) => (wM cI cZ a q σ)) res 0 0) (F0 m 153 ls [])) {q : Nat} {σ : StM} {x1 x2 x3 x4 x5 : Int32} (h : f_M_addBoth_153_s k115 k153 σ x1 x2 x3 x4 x5 = some res) {H : Heap} {locs : List Loc} (hP : va_P D vwCl (wM cI cZ a q σ) H) (hD : va_D A (wM cI cZ a q σ)) (hS : va_S A s.heap H locs) {ls : Array Slot} (hl : lv_has ls 6 [(0, .ref (a 20)), (1, .int x1), (2, .int x2), (3, .int x3), (4, .int x4), (5, .int x5)]) : W p l e (rmK 0 0 0 0) s m args below meth c H locs 0 0 (RwQ below args s D A (fun q (σ : StM) => (wM cI cZ a q σ)) res 0 0) (F0 m 153 ls []) := by
  obtain ⟨hx, hb, hr, hml, hown, hts, hlk, hK⟩ := id C0
  unfold f_M_addBoth_153_s at h
  refine lv_iload hx hb d_M_addBoth_153 (lv_at hl 5 rfl) ?_
  refine lv_iload_n hx hb d_M_addBoth_155 rfl (lv_at hl 1 rfl) ?_
  refine lv_icmp_ge (tgt := 199) hx hb d_M_addBoth_156 (by decide) (fun hc => ?_) (fun hc => ?_)
  · rw [if_pos hc] at h
    exact t_M_addBoth_199 (a := a) C0 hA hk115 h hP hD hS (lv_sub hl [0, 1, 2, 3, 4] rfl)
  · rw [if_neg hc] at h
    refine lv_iload hx hb d_M_addBoth_159 (lv_at hl 4 rfl) ?_
    refine lv_if_eq (tgt := 199) hx hb d_M_addBoth_161 (by decide) (fun hc => ?_) (fun hc => ?_)
    · rw [if_pos hc] at h
      exact t_M_addBoth_199 (a := a) C0 hA hk115 h hP hD hS (lv_sub hl [0, 1, 2, 3, 4] rfl)
    · rw [if_neg hc] at h
      refine lv_aload_n hx hb d_M_addBoth_164 rfl (lv_at hl 0 rfl) ?_
      refine va_get (ci := 4) (v := .ref (a 33)) (C := R_M) (T := F_M) (N := 35) hx hb hts i_M hown hK.1 hP 0 rfl rfl 17 (by decide) (hts _ wd_355) (fun _ h9 => h9) rfl d_M_addBoth_165 ?_
      refine lv_bipush (v := 30) hx hb d_M_addBoth_168 (by decide) ?_
      refine lv_iload_n hx hb d_M_addBoth_170 rfl (lv_at hl 3 rfl) ?_
      refine lv_imul hx hb d_M_addBoth_171 ?_
      refine lv_iload hx hb d_M_addBoth_172 (lv_at hl 5 rfl) ?_
      refine lv_iadd hx hb d_M_addBoth_174 ?_
      replace h := gd h
      obtain ⟨hi, h⟩ := h
      refine va_iald hx hb hK.1 hP 13 0 rfl rfl hi d_M_addBoth_175 ?_
      refine lv_aload_n hx hb d_M_addBoth_176 rfl (lv_at hl 0 rfl) ?_
      refine va_get (ci := 4) (v := .ref (a 34)) (C := R_M) (T := F_M) (N := 35) hx hb hts i_M hown hK.1 hP 0 rfl rfl 22 (by decide) (hts _ wd_369) (fun _ h9 => h9) rfl d_M_addBoth_177 ?_
      refine lv_iload hx hb d_M_addBoth_180 (lv_at hl 5 rfl) ?_
      replace h := gd h
      obtain ⟨hi, h⟩ := h
      refine va_iald hx hb hK.1 hP 14 0 rfl rfl hi d_M_addBoth_182 ?_
      refine lv_icmp_ne (tgt := 190) hx hb d_M_addBoth_183 (by decide) (fun hc => ?_) (fun hc => ?_)
      · rw [if_neg hc] at h
        refine lv_iconst (v := 0) hx hb d_M_addBoth_190 (by decide) ?_
        refine lv_istore (lv' := [(4, .int 0), (0, .ref (a 20)), (1, .int x1), (2, .int x2), (3, .int x3), (5, .int x5)]) hx hb d_M_addBoth_191 hl (by decide) rfl (fun ls hl => ?_)
        refine lv_iinc (v := (x5 + 1)) (lv' := [(5, .int (x5 + 1)), (4, .int 0), (0, .ref (a 20)), (1, .int x1), (2, .int x2), (3, .int x3)]) hx hb d_M_addBoth_193 hl (k := 5) rfl rfl (by decide) rfl (fun ls hl => ?_)
        refine lv_goto (tgt := 153) hx hb d_M_addBoth_196 (by decide) ?_
        exact hk153 _ _ _ _ _ _ _ _ _ _ h hP hD hS (lv_sub hl [2, 3, 4, 5, 1, 0] rfl)
      · rw [if_pos hc] at h
        refine lv_iconst (v := 1) hx hb d_M_addBoth_186 (by decide) ?_
        refine lv_goto (tgt := 191) hx hb d_M_addBoth_187 (by decide) ?_
        refine lv_istore (lv' := [(4, .int 1), (0, .ref (a 20)), (1, .int x1), (2, .int x2), (3, .int x3), (5, .int x5)]) hx hb d_M_addBoth_191 hl (by decide) rfl (fun ls hl => ?_)
        refine lv_iinc (v := (x5 + 1)) (lv' := [(5, .int (x5 + 1)), (4, .int 1), (0, .ref (a 20)), (1, .int x1), (2, .int x2), (3, .int x3)]) hx hb d_M_addBoth_193 hl (k := 5) rfl rfl (by decide) rfl (fun ls hl => ?_)
        refine lv_goto (tgt := 153) hx hb d_M_addBoth_196 (by decide) ?_
        exact hk153 _ _ _ _ _ _ _ _ _ _ h hP hD hS (lv_sub hl [2, 3, 4, 5, 1, 0] rfl)
set_option maxHeartbeats 4000000 in
set_option maxRecDepth 100000 in
theorem t_M_addBoth_153 {p : Program} {l : Launch} {e : Env} {s : State} {m : MethodId} {args : Array Value} {below : List Frame} {meth : Method} {c : Code} {D : va_G} {cI cZ : ClassId} {a : Nat → Nat} {A : Nat → Prop} (C0 : Am p s m args meth c b_M_addBoth (some .int) 6 R_M D [(cI, .int), (cZ, .boolean)]) (hA : ∀ q, s.heap.size ≤ q → A q) {res : Int32 × StM} {k115 : StM → Int32 → Int32 → Int32 → Option (Int32 × StM)} (hk115 : ∀ (q : Nat) (σ : StM) (x1 x2 x3 : Int32) (H : Heap) (locs : List Loc) (ls : Array Slot), k115 σ x1 x2 x3 = some res → va_P D vwCl (wM cI cZ a q σ) H → va_D A (wM cI cZ a q σ) → va_S A s.heap H locs → lv_has ls 6 [(0, .ref (a 20)), (1, .int x1), (2, .int x2), (3, .int x3)] → W p l e (rmK 0 0 0 0) s m args below meth c H locs 0 0 (RwQ below args s D A (fun q (σ : StM) => (wM cI cZ a q σ)) res 0 0) (F0 m 115 ls [])) {n : Nat} {q : Nat} {σ : StM} {x1 x2 x3 x4 x5 : Int32} (h : f_M_addBoth_153 k115 n σ x1 x2 x3 x4 x5 = some res) {H : Heap} {locs : List Loc} (hP : va_P D vwCl (wM cI cZ a q σ) H) (hD : va_D A (wM cI cZ a q σ)) (hS : va_S A s.heap H locs) {ls : Array Slot} (hl : lv_has ls 6 [(0, .ref (a 20)), (1, .int x1), (2, .int x2), (3, .int x3), (4, .int x4), (5, .int x5)]) : W p l e (rmK 0 0 0 0) s m args below meth c H locs 0 0 (RwQ below args s D A (fun q (σ : StM) => (wM cI cZ a q σ)) res 0 0) (F0 m 153 ls []) := by
  induction n generalizing q σ x1 x2 x3 x4 x5 H locs ls with
  | zero => cases h
  | succ n ih => exact t_M_addBoth_153_s (a := a) C0 hA hk115 (fun _ _ _ _ _ _ _ _ _ _ h hP hD hS hl => ih h hP hD hS hl) h hP hD hS hl
set_option maxHeartbeats 4000000 in
set_option maxRecDepth 100000 in
theorem t_M_addBoth_115_s {p : Program} {l : Launch} {e : Env} {s : State} {m : MethodId} {args : Array Value} {below : List Frame} {meth : Method} {c : Code} {D : va_G} {cI cZ : ClassId} {a : Nat → Nat} {A : Nat → Prop} (C0 : Am p s m args meth c b_M_addBoth (some .int) 6 R_M D [(cI, .int), (cZ, .boolean)]) (hA : ∀ q, s.heap.size ≤ q → A q) {res : Int32 × StM} {k115 : StM → Int32 → Int32 → Int32 → Option (Int32 × StM)}  (hk115 : ∀ (q : Nat) (σ : StM) (x1 x2 x3 : Int32) (H : Heap) (locs : List Loc) (ls : Array Slot), k115 σ x1 x2 x3 = some res → va_P D vwCl (wM cI cZ a q σ) H → va_D A (wM cI cZ a q σ) → va_S A s.heap H locs → lv_has ls 6 [(0, .ref (a 20)), (1, .int x1), (2, .int x2), (3, .int x3)] → W p l e (rmK 0 0 0 0) s m args below meth c H locs 0 0 (RwQ below args s D A (fun q (σ : StM) => (wM cI cZ a q σ)) res 0 0) (F0 m 115 ls [])) {q : Nat} {σ : StM} {x1 x2 x3 : Int32} (h : f_M_addBoth_115_s k115 σ x1 x2 x3 = some res) {H : Heap} {locs : List Loc} (hP : va_P D vwCl (wM cI cZ a q σ) H) (hD : va_D A (wM cI cZ a q σ)) (hS : va_S A s.heap H locs) {ls : Array Slot} (hl : lv_has ls 6 [(0, .ref (a 20)), (1, .int x1), (2, .int x2), (3, .int x3)]) : W p l e (rmK 0 0 0 0) s m args below meth c H locs 0 0 (RwQ below args s D A (fun q (σ : StM) => (wM cI cZ a q σ)) res 0 0) (F0 m 115 ls []) := by
  obtain ⟨hx, hb, hr, hml, hown, hts, hlk, hK⟩ := id C0
  unfold f_M_addBoth_115_s at h
  refine lv_iload_n hx hb d_M_addBoth_115 rfl (lv_at hl 3 rfl) ?_
  refine lv_aload_n hx hb d_M_addBoth_116 rfl (lv_at hl 0 rfl) ?_
  refine va_get (ci := 4) (v := .int (M_types σ)) (C := R_M) (T := F_M) (N := 35) hx hb hts i_M hown hK.1 hP 0 rfl rfl 10 (by decide) (hts _ wd_344) (fun _ h9 => h9) rfl d_M_addBoth_117 ?_
  refine lv_icmp_ge (tgt := 212) hx hb d_M_addBoth_120 (by decide) (fun hc => ?_) (fun hc => ?_)
  · rw [if_pos hc] at h
    refine lv_aload_n hx hb d_M_addBoth_212 rfl (lv_at hl 0 rfl) ?_
    refine va_get (ci := 4) (v := .int (M_types σ)) (C := R_M) (T := F_M) (N := 35) hx hb hts i_M hown hK.1 hP 0 rfl rfl 10 (by decide) (hts _ wd_344) (fun _ h9 => h9) rfl d_M_addBoth_213 ?_
    refine lv_sipush (v := 300) hx hb d_M_addBoth_216 (by decide) ?_
    refine lv_icmp_eq (tgt := 228) hx hb d_M_addBoth_219 (by decide) (fun hc => ?_) (fun hc => ?_)
    · rw [if_pos hc] at h
      exact t_M_addBoth_228 (a := a) C0 hA  h hP hD hS (lv_sub hl [0] rfl)
    · rw [if_neg hc] at h
      refine lv_iload_n hx hb d_M_addBoth_222 rfl (lv_at hl 2 rfl) ?_
      refine lv_bipush (v := 100) hx hb d_M_addBoth_223 (by decide) ?_
      refine lv_icmp_le (tgt := 235) hx hb d_M_addBoth_225 (by decide) (fun hc => ?_) (fun hc => ?_)
      · rw [if_pos hc] at h
        refine lv_aload_n hx hb d_M_addBoth_235 rfl (lv_at hl 0 rfl) ?_
        refine va_get (ci := 4) (v := .ref (a 27)) (C := R_M) (T := F_M) (N := 35) hx hb hts i_M hown hK.1 hP 0 rfl rfl 11 (by decide) (hts _ wd_353) (fun _ h9 => h9) rfl d_M_addBoth_236 ?_
        refine lv_aload_n hx hb d_M_addBoth_239 rfl (lv_at hl 0 rfl) ?_
        refine va_get (ci := 4) (v := .int (M_types σ)) (C := R_M) (T := F_M) (N := 35) hx hb hts i_M hown hK.1 hP 0 rfl rfl 10 (by decide) (hts _ wd_344) (fun _ h9 => h9) rfl d_M_addBoth_240 ?_
        refine lv_iconst (v := 3) hx hb d_M_addBoth_243 (by decide) ?_
        replace h := gd h
        obtain ⟨hi, h⟩ := h
        refine rw_iast C0 hP hD hS 7 0 rfl rfl hi d_M_addBoth_244 (Wn := (wM cI cZ a q (M_put_kind σ (M_types σ) 3))) ws_M_put_kind (fun H locs hP hD hS => ?_)
        refine lv_aload_n hx hb d_M_addBoth_245 rfl (lv_at hl 0 rfl) ?_
        refine va_get (ci := 4) (v := .ref (a 28)) (C := R_M) (T := F_M) (N := 35) hx hb hts i_M hown hK.1 hP 0 rfl rfl 12 (by decide) (hts _ wd_356) (fun _ h9 => h9) rfl d_M_addBoth_246 ?_
        refine lv_aload_n hx hb d_M_addBoth_249 rfl (lv_at hl 0 rfl) ?_
        refine va_get (ci := 4) (v := .int (M_types (M_put_kind σ (M_types σ) 3))) (C := R_M) (T := F_M) (N := 35) hx hb hts i_M hown hK.1 hP 0 rfl rfl 10 (by decide) (hts _ wd_344) (fun _ h9 => h9) rfl d_M_addBoth_250 ?_
        refine lv_iconst (v := (-1)) hx hb d_M_addBoth_253 (by decide) ?_
        replace h := gd h
        obtain ⟨hi, h⟩ := h
        refine rw_iast C0 hP hD hS 8 0 rfl rfl hi d_M_addBoth_254 (Wn := (wM cI cZ a q (M_put_classOf (M_put_kind σ (M_types σ) 3) (M_types (M_put_kind σ (M_types σ) 3)) (-1)))) ws_M_put_classOf (fun H locs hP hD hS => ?_)
        refine lv_aload_n hx hb d_M_addBoth_255 rfl (lv_at hl 0 rfl) ?_
        refine va_get (ci := 4) (v := .ref (a 29)) (C := R_M) (T := F_M) (N := 35) hx hb hts i_M hown hK.1 hP 0 rfl rfl 13 (by decide) (hts _ wd_357) (fun _ h9 => h9) rfl d_M_addBoth_256 ?_
        refine lv_aload_n hx hb d_M_addBoth_259 rfl (lv_at hl 0 rfl) ?_
        refine va_get (ci := 4) (v := .int (M_types (M_put_classOf (M_put_kind σ (M_types σ) 3) (M_types (M_put_kind σ (M_types σ) 3)) (-1)))) (C := R_M) (T := F_M) (N := 35) hx hb hts i_M hown hK.1 hP 0 rfl rfl 10 (by decide) (hts _ wd_344) (fun _ h9 => h9) rfl d_M_addBoth_260 ?_
        refine lv_iconst (v := (-1)) hx hb d_M_addBoth_263 (by decide) ?_
        replace h := gd h
        obtain ⟨hi, h⟩ := h
        refine rw_iast C0 hP hD hS 9 0 rfl rfl hi d_M_addBoth_264 (Wn := (wM cI cZ a q (M_put_how (M_put_classOf (M_put_kind σ (M_types σ) 3) (M_types (M_put_kind σ (M_types σ) 3)) (-1)) (M_types (M_put_classOf (M_put_kind σ (M_types σ) 3) (M_types (M_put_kind σ (M_types σ) 3)) (-1))) (-1)))) ws_M_put_how (fun H locs hP hD hS => ?_)
        refine lv_aload_n hx hb d_M_addBoth_265 rfl (lv_at hl 0 rfl) ?_
        refine va_get (ci := 4) (v := .ref (a 30)) (C := R_M) (T := F_M) (N := 35) hx hb hts i_M hown hK.1 hP 0 rfl rfl 14 (by decide) (hts _ wd_358) (fun _ h9 => h9) rfl d_M_addBoth_266 ?_
        refine lv_aload_n hx hb d_M_addBoth_269 rfl (lv_at hl 0 rfl) ?_
        refine va_get (ci := 4) (v := .int (M_types (M_put_how (M_put_classOf (M_put_kind σ (M_types σ) 3) (M_types (M_put_kind σ (M_types σ) 3)) (-1)) (M_types (M_put_classOf (M_put_kind σ (M_types σ) 3) (M_types (M_put_kind σ (M_types σ) 3)) (-1))) (-1)))) (C := R_M) (T := F_M) (N := 35) hx hb hts i_M hown hK.1 hP 0 rfl rfl 10 (by decide) (hts _ wd_344) (fun _ h9 => h9) rfl d_M_addBoth_270 ?_
        refine lv_iconst (v := (-1)) hx hb d_M_addBoth_273 (by decide) ?_
        replace h := gd h
        obtain ⟨hi, h⟩ := h
        refine rw_iast C0 hP hD hS 10 0 rfl rfl hi d_M_addBoth_274 (Wn := (wM cI cZ a q (M_put_inner (M_put_how (M_put_classOf (M_put_kind σ (M_types σ) 3) (M_types (M_put_kind σ (M_types σ) 3)) (-1)) (M_types (M_put_classOf (M_put_kind σ (M_types σ) 3) (M_types (M_put_kind σ (M_types σ) 3)) (-1))) (-1)) (M_types (M_put_how (M_put_classOf (M_put_kind σ (M_types σ) 3) (M_types (M_put_kind σ (M_types σ) 3)) (-1)) (M_types (M_put_classOf (M_put_kind σ (M_types σ) 3) (M_types (M_put_kind σ (M_types σ) 3)) (-1))) (-1))) (-1)))) ws_M_put_inner (fun H locs hP hD hS => ?_)
        refine lv_aload_n hx hb d_M_addBoth_275 rfl (lv_at hl 0 rfl) ?_
        refine va_get (ci := 4) (v := .ref (a 31)) (C := R_M) (T := F_M) (N := 35) hx hb hts i_M hown hK.1 hP 0 rfl rfl 15 (by decide) (hts _ wd_363) (fun _ h9 => h9) rfl d_M_addBoth_276 ?_
        refine lv_aload_n hx hb d_M_addBoth_279 rfl (lv_at hl 0 rfl) ?_
        refine va_get (ci := 4) (v := .int (M_types (M_put_inner (M_put_how (M_put_classOf (M_put_kind σ (M_types σ) 3) (M_types (M_put_kind σ (M_types σ) 3)) (-1)) (M_types (M_put_classOf (M_put_kind σ (M_types σ) 3) (M_types (M_put_kind σ (M_types σ) 3)) (-1))) (-1)) (M_types (M_put_how (M_put_classOf (M_put_kind σ (M_types σ) 3) (M_types (M_put_kind σ (M_types σ) 3)) (-1)) (M_types (M_put_classOf (M_put_kind σ (M_types σ) 3) (M_types (M_put_kind σ (M_types σ) 3)) (-1))) (-1))) (-1)))) (C := R_M) (T := F_M) (N := 35) hx hb hts i_M hown hK.1 hP 0 rfl rfl 10 (by decide) (hts _ wd_344) (fun _ h9 => h9) rfl d_M_addBoth_280 ?_
        refine lv_iload_n hx hb d_M_addBoth_283 rfl (lv_at hl 2 rfl) ?_
        replace h := gd h
        obtain ⟨hi, h⟩ := h
        refine rw_iast C0 hP hD hS 11 0 rfl rfl hi d_M_addBoth_284 (Wn := (wM cI cZ a q (M_put_made (M_put_inner (M_put_how (M_put_classOf (M_put_kind σ (M_types σ) 3) (M_types (M_put_kind σ (M_types σ) 3)) (-1)) (M_types (M_put_classOf (M_put_kind σ (M_types σ) 3) (M_types (M_put_kind σ (M_types σ) 3)) (-1))) (-1)) (M_types (M_put_how (M_put_classOf (M_put_kind σ (M_types σ) 3) (M_types (M_put_kind σ (M_types σ) 3)) (-1)) (M_types (M_put_classOf (M_put_kind σ (M_types σ) 3) (M_types (M_put_kind σ (M_types σ) 3)) (-1))) (-1))) (-1)) (M_types (M_put_inner (M_put_how (M_put_classOf (M_put_kind σ (M_types σ) 3) (M_types (M_put_kind σ (M_types σ) 3)) (-1)) (M_types (M_put_classOf (M_put_kind σ (M_types σ) 3) (M_types (M_put_kind σ (M_types σ) 3)) (-1))) (-1)) (M_types (M_put_how (M_put_classOf (M_put_kind σ (M_types σ) 3) (M_types (M_put_kind σ (M_types σ) 3)) (-1)) (M_types (M_put_classOf (M_put_kind σ (M_types σ) 3) (M_types (M_put_kind σ (M_types σ) 3)) (-1))) (-1))) (-1))) x2))) ws_M_put_made (fun H locs hP hD hS => ?_)
        refine lv_aload_n hx hb d_M_addBoth_285 rfl (lv_at hl 0 rfl) ?_
        refine va_get (ci := 4) (v := .ref (a 32)) (C := R_M) (T := F_M) (N := 35) hx hb hts i_M hown hK.1 hP 0 rfl rfl 16 (by decide) (hts _ wd_354) (fun _ h9 => h9) rfl d_M_addBoth_286 ?_
        refine lv_aload_n hx hb d_M_addBoth_289 rfl (lv_at hl 0 rfl) ?_
        refine va_get (ci := 4) (v := .int (M_types (M_put_made (M_put_inner (M_put_how (M_put_classOf (M_put_kind σ (M_types σ) 3) (M_types (M_put_kind σ (M_types σ) 3)) (-1)) (M_types (M_put_classOf (M_put_kind σ (M_types σ) 3) (M_types (M_put_kind σ (M_types σ) 3)) (-1))) (-1)) (M_types (M_put_how (M_put_classOf (M_put_kind σ (M_types σ) 3) (M_types (M_put_kind σ (M_types σ) 3)) (-1)) (M_types (M_put_classOf (M_put_kind σ (M_types σ) 3) (M_types (M_put_kind σ (M_types σ) 3)) (-1))) (-1))) (-1)) (M_types (M_put_inner (M_put_how (M_put_classOf (M_put_kind σ (M_types σ) 3) (M_types (M_put_kind σ (M_types σ) 3)) (-1)) (M_types (M_put_classOf (M_put_kind σ (M_types σ) 3) (M_types (M_put_kind σ (M_types σ) 3)) (-1))) (-1)) (M_types (M_put_how (M_put_classOf (M_put_kind σ (M_types σ) 3) (M_types (M_put_kind σ (M_types σ) 3)) (-1)) (M_types (M_put_classOf (M_put_kind σ (M_types σ) 3) (M_types (M_put_kind σ (M_types σ) 3)) (-1))) (-1))) (-1))) x2))) (C := R_M) (T := F_M) (N := 35) hx hb hts i_M hown hK.1 hP 0 rfl rfl 10 (by decide) (hts _ wd_344) (fun _ h9 => h9) rfl d_M_addBoth_290 ?_
        refine lv_iload_n hx hb d_M_addBoth_293 rfl (lv_at hl 1 rfl) ?_
        replace h := gd h
        obtain ⟨hi, h⟩ := h
        refine rw_iast C0 hP hD hS 12 0 rfl rfl hi d_M_addBoth_294 (Wn := (wM cI cZ a q (M_put_partCount (M_put_made (M_put_inner (M_put_how (M_put_classOf (M_put_kind σ (M_types σ) 3) (M_types (M_put_kind σ (M_types σ) 3)) (-1)) (M_types (M_put_classOf (M_put_kind σ (M_types σ) 3) (M_types (M_put_kind σ (M_types σ) 3)) (-1))) (-1)) (M_types (M_put_how (M_put_classOf (M_put_kind σ (M_types σ) 3) (M_types (M_put_kind σ (M_types σ) 3)) (-1)) (M_types (M_put_classOf (M_put_kind σ (M_types σ) 3) (M_types (M_put_kind σ (M_types σ) 3)) (-1))) (-1))) (-1)) (M_types (M_put_inner (M_put_how (M_put_classOf (M_put_kind σ (M_types σ) 3) (M_types (M_put_kind σ (M_types σ) 3)) (-1)) (M_types (M_put_classOf (M_put_kind σ (M_types σ) 3) (M_types (M_put_kind σ (M_types σ) 3)) (-1))) (-1)) (M_types (M_put_how (M_put_classOf (M_put_kind σ (M_types σ) 3) (M_types (M_put_kind σ (M_types σ) 3)) (-1)) (M_types (M_put_classOf (M_put_kind σ (M_types σ) 3) (M_types (M_put_kind σ (M_types σ) 3)) (-1))) (-1))) (-1))) x2) (M_types (M_put_made (M_put_inner (M_put_how (M_put_classOf (M_put_kind σ (M_types σ) 3) (M_types (M_put_kind σ (M_types σ) 3)) (-1)) (M_types (M_put_classOf (M_put_kind σ (M_types σ) 3) (M_types (M_put_kind σ (M_types σ) 3)) (-1))) (-1)) (M_types (M_put_how (M_put_classOf (M_put_kind σ (M_types σ) 3) (M_types (M_put_kind σ (M_types σ) 3)) (-1)) (M_types (M_put_classOf (M_put_kind σ (M_types σ) 3) (M_types (M_put_kind σ (M_types σ) 3)) (-1))) (-1))) (-1)) (M_types (M_put_inner (M_put_how (M_put_classOf (M_put_kind σ (M_types σ) 3) (M_types (M_put_kind σ (M_types σ) 3)) (-1)) (M_types (M_put_classOf (M_put_kind σ (M_types σ) 3) (M_types (M_put_kind σ (M_types σ) 3)) (-1))) (-1)) (M_types (M_put_how (M_put_classOf (M_put_kind σ (M_types σ) 3) (M_types (M_put_kind σ (M_types σ) 3)) (-1)) (M_types (M_put_classOf (M_put_kind σ (M_types σ) 3) (M_types (M_put_kind σ (M_types σ) 3)) (-1))) (-1))) (-1))) x2)) x1))) ws_M_put_partCount (fun H locs hP hD hS => ?_)
        refine lv_iconst (v := 0) hx hb d_M_addBoth_295 (by decide) ?_
        refine lv_istore_n (lv' := [(3, .int 0), (0, .ref (a 20)), (1, .int x1), (2, .int x2)]) hx hb d_M_addBoth_296 rfl hl (by decide) rfl (fun ls hl => ?_)
        exact t_M_addBoth_297 (a := a) C0 hA  h hP hD hS (lv_sub hl [1, 2, 0] rfl)
      · rw [if_neg hc] at h
        exact t_M_addBoth_228 (a := a) C0 hA  h hP hD hS (lv_sub hl [0] rfl)
  · rw [if_neg hc] at h
    refine lv_aload_n hx hb d_M_addBoth_123 rfl (lv_at hl 0 rfl) ?_
    refine va_get (ci := 4) (v := .ref (a 27)) (C := R_M) (T := F_M) (N := 35) hx hb hts i_M hown hK.1 hP 0 rfl rfl 11 (by decide) (hts _ wd_353) (fun _ h9 => h9) rfl d_M_addBoth_124 ?_
    refine lv_iload_n hx hb d_M_addBoth_127 rfl (lv_at hl 3 rfl) ?_
    replace h := gd h
    obtain ⟨hi, h⟩ := h
    refine va_iald hx hb hK.1 hP 7 0 rfl rfl hi d_M_addBoth_128 ?_
    refine lv_iconst (v := 3) hx hb d_M_addBoth_129 (by decide) ?_
    refine lv_icmp_ne (tgt := 147) hx hb d_M_addBoth_130 (by decide) (fun hc => ?_) (fun hc => ?_)
    · rw [if_neg hc] at h
      refine lv_iconst (v := 0) hx hb d_M_addBoth_147 (by decide) ?_
      refine lv_istore (lv' := [(4, .int 0), (0, .ref (a 20)), (1, .int x1), (2, .int x2), (3, .int x3)]) hx hb d_M_addBoth_148 hl (by decide) rfl (fun ls hl => ?_)
      refine lv_iconst (v := 0) hx hb d_M_addBoth_150 (by decide) ?_
      refine lv_istore (lv' := [(5, .int 0), (4, .int 0), (0, .ref (a 20)), (1, .int x1), (2, .int x2), (3, .int x3)]) hx hb d_M_addBoth_151 hl (by decide) rfl (fun ls hl => ?_)
      exact t_M_addBoth_153 (a := a) C0 hA hk115 h hP hD hS (lv_sub hl [2, 3, 4, 5, 1, 0] rfl)
    · rw [if_pos hc] at h
      refine lv_aload_n hx hb d_M_addBoth_133 rfl (lv_at hl 0 rfl) ?_
      refine va_get (ci := 4) (v := .ref (a 32)) (C := R_M) (T := F_M) (N := 35) hx hb hts i_M hown hK.1 hP 0 rfl rfl 16 (by decide) (hts _ wd_354) (fun _ h9 => h9) rfl d_M_addBoth_134 ?_
      refine lv_iload_n hx hb d_M_addBoth_137 rfl (lv_at hl 3 rfl) ?_
      replace h := gd h
      obtain ⟨hi, h⟩ := h
      refine va_iald hx hb hK.1 hP 12 0 rfl rfl hi d_M_addBoth_138 ?_
      refine lv_iload_n hx hb d_M_addBoth_139 rfl (lv_at hl 1 rfl) ?_
      refine lv_icmp_ne (tgt := 147) hx hb d_M_addBoth_140 (by decide) (fun hc => ?_) (fun hc => ?_)
      · rw [if_neg hc] at h
        refine lv_iconst (v := 0) hx hb d_M_addBoth_147 (by decide) ?_
        refine lv_istore (lv' := [(4, .int 0), (0, .ref (a 20)), (1, .int x1), (2, .int x2), (3, .int x3)]) hx hb d_M_addBoth_148 hl (by decide) rfl (fun ls hl => ?_)
        refine lv_iconst (v := 0) hx hb d_M_addBoth_150 (by decide) ?_
        refine lv_istore (lv' := [(5, .int 0), (4, .int 0), (0, .ref (a 20)), (1, .int x1), (2, .int x2), (3, .int x3)]) hx hb d_M_addBoth_151 hl (by decide) rfl (fun ls hl => ?_)
        exact t_M_addBoth_153 (a := a) C0 hA hk115 h hP hD hS (lv_sub hl [2, 3, 4, 5, 1, 0] rfl)
      · rw [if_pos hc] at h
        refine lv_iconst (v := 1) hx hb d_M_addBoth_143 (by decide) ?_
        refine lv_goto (tgt := 148) hx hb d_M_addBoth_144 (by decide) ?_
        refine lv_istore (lv' := [(4, .int 1), (0, .ref (a 20)), (1, .int x1), (2, .int x2), (3, .int x3)]) hx hb d_M_addBoth_148 hl (by decide) rfl (fun ls hl => ?_)
        refine lv_iconst (v := 0) hx hb d_M_addBoth_150 (by decide) ?_
        refine lv_istore (lv' := [(5, .int 0), (4, .int 1), (0, .ref (a 20)), (1, .int x1), (2, .int x2), (3, .int x3)]) hx hb d_M_addBoth_151 hl (by decide) rfl (fun ls hl => ?_)
        exact t_M_addBoth_153 (a := a) C0 hA hk115 h hP hD hS (lv_sub hl [2, 3, 4, 5, 1, 0] rfl)
set_option maxHeartbeats 4000000 in
set_option maxRecDepth 100000 in
theorem t_M_addBoth_115 {p : Program} {l : Launch} {e : Env} {s : State} {m : MethodId} {args : Array Value} {below : List Frame} {meth : Method} {c : Code} {D : va_G} {cI cZ : ClassId} {a : Nat → Nat} {A : Nat → Prop} (C0 : Am p s m args meth c b_M_addBoth (some .int) 6 R_M D [(cI, .int), (cZ, .boolean)]) (hA : ∀ q, s.heap.size ≤ q → A q) {res : Int32 × StM}  {n : Nat} {q : Nat} {σ : StM} {x1 x2 x3 : Int32} (h : f_M_addBoth_115  n σ x1 x2 x3 = some res) {H : Heap} {locs : List Loc} (hP : va_P D vwCl (wM cI cZ a q σ) H) (hD : va_D A (wM cI cZ a q σ)) (hS : va_S A s.heap H locs) {ls : Array Slot} (hl : lv_has ls 6 [(0, .ref (a 20)), (1, .int x1), (2, .int x2), (3, .int x3)]) : W p l e (rmK 0 0 0 0) s m args below meth c H locs 0 0 (RwQ below args s D A (fun q (σ : StM) => (wM cI cZ a q σ)) res 0 0) (F0 m 115 ls []) := by
  induction n generalizing q σ x1 x2 x3 H locs ls with
  | zero => cases h
  | succ n ih => exact t_M_addBoth_115_s (a := a) C0 hA  (fun _ _ _ _ _ _ _ _ h hP hD hS hl => ih h hP hD hS hl) h hP hD hS hl
set_option maxHeartbeats 4000000 in
set_option maxRecDepth 100000 in
theorem t_M_addBoth_88_s {p : Program} {l : Launch} {e : Env} {s : State} {m : MethodId} {args : Array Value} {below : List Frame} {meth : Method} {c : Code} {D : va_G} {cI cZ : ClassId} {a : Nat → Nat} {A : Nat → Prop} (C0 : Am p s m args meth c b_M_addBoth (some .int) 6 R_M D [(cI, .int), (cZ, .boolean)]) (hA : ∀ q, s.heap.size ≤ q → A q) {res : Int32 × StM} {k88 : StM → Int32 → Int32 → Int32 → Option (Int32 × StM)}  (hk88 : ∀ (q : Nat) (σ : StM) (x1 x2 x3 : Int32) (H : Heap) (locs : List Loc) (ls : Array Slot), k88 σ x1 x2 x3 = some res → va_P D vwCl (wM cI cZ a q σ) H → va_D A (wM cI cZ a q σ) → va_S A s.heap H locs → lv_has ls 6 [(0, .ref (a 20)), (1, .int x1), (2, .int x2), (3, .int x3)] → W p l e (rmK 0 0 0 0) s m args below meth c H locs 0 0 (RwQ below args s D A (fun q (σ : StM) => (wM cI cZ a q σ)) res 0 0) (F0 m 88 ls [])) {q : Nat} {σ : StM} {x1 x2 x3 : Int32} (h : f_M_addBoth_88_s k88 σ x1 x2 x3 = some res) {H : Heap} {locs : List Loc} (hP : va_P D vwCl (wM cI cZ a q σ) H) (hD : va_D A (wM cI cZ a q σ)) (hS : va_S A s.heap H locs) {ls : Array Slot} (hl : lv_has ls 6 [(0, .ref (a 20)), (1, .int x1), (2, .int x2), (3, .int x3)]) : W p l e (rmK 0 0 0 0) s m args below meth c H locs 0 0 (RwQ below args s D A (fun q (σ : StM) => (wM cI cZ a q σ)) res 0 0) (F0 m 88 ls []) := by
  obtain ⟨hx, hb, hr, hml, hown, hts, hlk, hK⟩ := id C0
  unfold f_M_addBoth_88_s at h
  refine lv_iload_n hx hb d_M_addBoth_88 rfl (lv_at hl 3 rfl) ?_
  refine lv_iload_n hx hb d_M_addBoth_89 rfl (lv_at hl 1 rfl) ?_
  refine lv_icmp_ge (tgt := 113) hx hb d_M_addBoth_90 (by decide) (fun hc => ?_) (fun hc => ?_)
  · rw [if_pos hc] at h
    refine lv_iconst (v := 0) hx hb d_M_addBoth_113 (by decide) ?_
    refine lv_istore_n (lv' := [(3, .int 0), (0, .ref (a 20)), (1, .int x1), (2, .int x2)]) hx hb d_M_addBoth_114 rfl hl (by decide) rfl (fun ls hl => ?_)
    exact t_M_addBoth_115 (a := a) C0 hA  h hP hD hS (lv_sub hl [1, 2, 3, 0] rfl)
  · rw [if_neg hc] at h
    refine lv_iload_n hx hb d_M_addBoth_93 rfl (lv_at hl 2 rfl) ?_
    refine lv_aload_n hx hb d_M_addBoth_94 rfl (lv_at hl 0 rfl) ?_
    refine va_get (ci := 4) (v := .ref (a 31)) (C := R_M) (T := F_M) (N := 35) hx hb hts i_M hown hK.1 hP 0 rfl rfl 15 (by decide) (hts _ wd_363) (fun _ h9 => h9) rfl d_M_addBoth_95 ?_
    refine lv_aload_n hx hb d_M_addBoth_98 rfl (lv_at hl 0 rfl) ?_
    refine va_get (ci := 4) (v := .ref (a 34)) (C := R_M) (T := F_M) (N := 35) hx hb hts i_M hown hK.1 hP 0 rfl rfl 22 (by decide) (hts _ wd_369) (fun _ h9 => h9) rfl d_M_addBoth_99 ?_
    refine lv_iload_n hx hb d_M_addBoth_102 rfl (lv_at hl 3 rfl) ?_
    replace h := gd h
    obtain ⟨hi, h⟩ := h
    refine va_iald hx hb hK.1 hP 14 0 rfl rfl hi d_M_addBoth_103 ?_
    replace h := gd h
    obtain ⟨hi, h⟩ := h
    refine va_iald hx hb hK.1 hP 11 0 rfl rfl hi d_M_addBoth_104 ?_
    refine lv_iadd hx hb d_M_addBoth_105 ?_
    refine lv_istore_n (lv' := [(2, .int (x2 + ((M_made σ) ((M_row σ) x3.toNatClampNeg).toNatClampNeg))), (0, .ref (a 20)), (1, .int x1), (3, .int x3)]) hx hb d_M_addBoth_106 rfl hl (by decide) rfl (fun ls hl => ?_)
    refine lv_iinc (v := (x3 + 1)) (lv' := [(3, .int (x3 + 1)), (2, .int (x2 + ((M_made σ) ((M_row σ) x3.toNatClampNeg).toNatClampNeg))), (0, .ref (a 20)), (1, .int x1)]) hx hb d_M_addBoth_107 hl (k := 3) rfl rfl (by decide) rfl (fun ls hl => ?_)
    refine lv_goto (tgt := 88) hx hb d_M_addBoth_110 (by decide) ?_
    exact hk88 _ _ _ _ _ _ _ _ h hP hD hS (lv_sub hl [2, 3, 1, 0] rfl)
set_option maxHeartbeats 4000000 in
set_option maxRecDepth 100000 in
theorem t_M_addBoth_88 {p : Program} {l : Launch} {e : Env} {s : State} {m : MethodId} {args : Array Value} {below : List Frame} {meth : Method} {c : Code} {D : va_G} {cI cZ : ClassId} {a : Nat → Nat} {A : Nat → Prop} (C0 : Am p s m args meth c b_M_addBoth (some .int) 6 R_M D [(cI, .int), (cZ, .boolean)]) (hA : ∀ q, s.heap.size ≤ q → A q) {res : Int32 × StM}  {n : Nat} {q : Nat} {σ : StM} {x1 x2 x3 : Int32} (h : f_M_addBoth_88  n σ x1 x2 x3 = some res) {H : Heap} {locs : List Loc} (hP : va_P D vwCl (wM cI cZ a q σ) H) (hD : va_D A (wM cI cZ a q σ)) (hS : va_S A s.heap H locs) {ls : Array Slot} (hl : lv_has ls 6 [(0, .ref (a 20)), (1, .int x1), (2, .int x2), (3, .int x3)]) : W p l e (rmK 0 0 0 0) s m args below meth c H locs 0 0 (RwQ below args s D A (fun q (σ : StM) => (wM cI cZ a q σ)) res 0 0) (F0 m 88 ls []) := by
  induction n generalizing q σ x1 x2 x3 H locs ls with
  | zero => cases h
  | succ n ih => exact t_M_addBoth_88_s (a := a) C0 hA  (fun _ _ _ _ _ _ _ _ h hP hD hS hl => ih h hP hD hS hl) h hP hD hS hl
set_option maxHeartbeats 4000000 in
set_option maxRecDepth 100000 in
theorem t_M_addBoth_9_s {p : Program} {l : Launch} {e : Env} {s : State} {m : MethodId} {args : Array Value} {below : List Frame} {meth : Method} {c : Code} {D : va_G} {cI cZ : ClassId} {a : Nat → Nat} {A : Nat → Prop} (C0 : Am p s m args meth c b_M_addBoth (some .int) 6 R_M D [(cI, .int), (cZ, .boolean)]) (hA : ∀ q, s.heap.size ≤ q → A q) {res : Int32 × StM} {k2 : StM → Int32 → Int32 → Option (Int32 × StM)} {k9 : StM → Int32 → Int32 → Int32 → Option (Int32 × StM)} (hk2 : ∀ (q : Nat) (σ : StM) (x1 x2 : Int32) (H : Heap) (locs : List Loc) (ls : Array Slot), k2 σ x1 x2 = some res → va_P D vwCl (wM cI cZ a q σ) H → va_D A (wM cI cZ a q σ) → va_S A s.heap H locs → lv_has ls 6 [(0, .ref (a 20)), (1, .int x1), (2, .int x2)] → W p l e (rmK 0 0 0 0) s m args below meth c H locs 0 0 (RwQ below args s D A (fun q (σ : StM) => (wM cI cZ a q σ)) res 0 0) (F0 m 2 ls [])) (hk9 : ∀ (q : Nat) (σ : StM) (x1 x2 x3 : Int32) (H : Heap) (locs : List Loc) (ls : Array Slot), k9 σ x1 x2 x3 = some res → va_P D vwCl (wM cI cZ a q σ) H → va_D A (wM cI cZ a q σ) → va_S A s.heap H locs → lv_has ls 6 [(0, .ref (a 20)), (1, .int x1), (2, .int x2), (3, .int x3)] → W p l e (rmK 0 0 0 0) s m args below meth c H locs 0 0 (RwQ below args s D A (fun q (σ : StM) => (wM cI cZ a q σ)) res 0 0) (F0 m 9 ls [])) {q : Nat} {σ : StM} {x1 x2 x3 : Int32} (h : f_M_addBoth_9_s k2 k9 σ x1 x2 x3 = some res) {H : Heap} {locs : List Loc} (hP : va_P D vwCl (wM cI cZ a q σ) H) (hD : va_D A (wM cI cZ a q σ)) (hS : va_S A s.heap H locs) {ls : Array Slot} (hl : lv_has ls 6 [(0, .ref (a 20)), (1, .int x1), (2, .int x2), (3, .int x3)]) : W p l e (rmK 0 0 0 0) s m args below meth c H locs 0 0 (RwQ below args s D A (fun q (σ : StM) => (wM cI cZ a q σ)) res 0 0) (F0 m 9 ls []) := by
  obtain ⟨hx, hb, hr, hml, hown, hts, hlk, hK⟩ := id C0
  unfold f_M_addBoth_9_s at h
  refine lv_iload_n hx hb d_M_addBoth_9 rfl (lv_at hl 3 rfl) ?_
  refine lv_if_le (tgt := 78) hx hb d_M_addBoth_10 (by decide) (fun hc => ?_) (fun hc => ?_)
  · rw [if_pos hc] at h
    refine lv_iinc (v := (x2 + 1)) (lv' := [(2, .int (x2 + 1)), (0, .ref (a 20)), (1, .int x1), (3, .int x3)]) hx hb d_M_addBoth_78 hl (k := 2) rfl rfl (by decide) rfl (fun ls hl => ?_)
    refine lv_goto (tgt := 2) hx hb d_M_addBoth_81 (by decide) ?_
    exact hk2 _ _ _ _ _ _ _ h hP hD hS (lv_sub hl [1, 2, 0] rfl)
  · rw [if_neg hc] at h
    refine lv_aload_n hx hb d_M_addBoth_13 rfl (lv_at hl 0 rfl) ?_
    refine va_get (ci := 4) (v := .ref (a 28)) (C := R_M) (T := F_M) (N := 35) hx hb hts i_M hown hK.1 hP 0 rfl rfl 12 (by decide) (hts _ wd_356) (fun _ h9 => h9) rfl d_M_addBoth_14 ?_
    refine lv_aload_n hx hb d_M_addBoth_17 rfl (lv_at hl 0 rfl) ?_
    refine va_get (ci := 4) (v := .ref (a 34)) (C := R_M) (T := F_M) (N := 35) hx hb hts i_M hown hK.1 hP 0 rfl rfl 22 (by decide) (hts _ wd_369) (fun _ h9 => h9) rfl d_M_addBoth_18 ?_
    refine lv_iload_n hx hb d_M_addBoth_21 rfl (lv_at hl 3 rfl) ?_
    refine lv_iconst (v := 1) hx hb d_M_addBoth_22 (by decide) ?_
    refine lv_isub hx hb d_M_addBoth_23 ?_
    replace h := gd h
    obtain ⟨hi, h⟩ := h
    refine va_iald hx hb hK.1 hP 14 0 rfl rfl hi d_M_addBoth_24 ?_
    replace h := gd h
    obtain ⟨hi, h⟩ := h
    refine va_iald hx hb hK.1 hP 8 0 rfl rfl hi d_M_addBoth_25 ?_
    refine lv_aload_n hx hb d_M_addBoth_26 rfl (lv_at hl 0 rfl) ?_
    refine va_get (ci := 4) (v := .ref (a 28)) (C := R_M) (T := F_M) (N := 35) hx hb hts i_M hown hK.1 hP 0 rfl rfl 12 (by decide) (hts _ wd_356) (fun _ h9 => h9) rfl d_M_addBoth_27 ?_
    refine lv_aload_n hx hb d_M_addBoth_30 rfl (lv_at hl 0 rfl) ?_
    refine va_get (ci := 4) (v := .ref (a 34)) (C := R_M) (T := F_M) (N := 35) hx hb hts i_M hown hK.1 hP 0 rfl rfl 22 (by decide) (hts _ wd_369) (fun _ h9 => h9) rfl d_M_addBoth_31 ?_
    refine lv_iload_n hx hb d_M_addBoth_34 rfl (lv_at hl 3 rfl) ?_
    replace h := gd h
    obtain ⟨hi, h⟩ := h
    refine va_iald hx hb hK.1 hP 14 0 rfl rfl hi d_M_addBoth_35 ?_
    replace h := gd h
    obtain ⟨hi, h⟩ := h
    refine va_iald hx hb hK.1 hP 8 0 rfl rfl hi d_M_addBoth_36 ?_
    refine lv_icmp_le (tgt := 78) hx hb d_M_addBoth_37 (by decide) (fun hc => ?_) (fun hc => ?_)
    · rw [if_pos hc] at h
      refine lv_iinc (v := (x2 + 1)) (lv' := [(2, .int (x2 + 1)), (0, .ref (a 20)), (1, .int x1), (3, .int x3)]) hx hb d_M_addBoth_78 hl (k := 2) rfl rfl (by decide) rfl (fun ls hl => ?_)
      refine lv_goto (tgt := 2) hx hb d_M_addBoth_81 (by decide) ?_
      exact hk2 _ _ _ _ _ _ _ h hP hD hS (lv_sub hl [1, 2, 0] rfl)
    · rw [if_neg hc] at h
      refine lv_aload_n hx hb d_M_addBoth_40 rfl (lv_at hl 0 rfl) ?_
      refine va_get (ci := 4) (v := .ref (a 34)) (C := R_M) (T := F_M) (N := 35) hx hb hts i_M hown hK.1 hP 0 rfl rfl 22 (by decide) (hts _ wd_369) (fun _ h9 => h9) rfl d_M_addBoth_41 ?_
      refine lv_iload_n hx hb d_M_addBoth_44 rfl (lv_at hl 3 rfl) ?_
      replace h := gd h
      obtain ⟨hi, h⟩ := h
      refine va_iald hx hb hK.1 hP 14 0 rfl rfl hi d_M_addBoth_45 ?_
      refine lv_istore (lv' := [(4, .int ((M_row σ) x3.toNatClampNeg)), (0, .ref (a 20)), (1, .int x1), (2, .int x2), (3, .int x3)]) hx hb d_M_addBoth_46 hl (by decide) rfl (fun ls hl => ?_)
      refine lv_aload_n hx hb d_M_addBoth_48 rfl (lv_at hl 1 rfl) ?_
      refine va_get (ci := 4) (v := .ref (a 34)) (C := R_M) (T := F_M) (N := 35) hx hb hts i_M hown hK.1 hP 0 rfl rfl 22 (by decide) (hts _ wd_369) (fun _ h9 => h9) rfl d_M_addBoth_49 ?_
      refine lv_iload_n hx hb d_M_addBoth_52 rfl (lv_at hl 4 rfl) ?_
      refine lv_aload_n hx hb d_M_addBoth_53 rfl (lv_at hl 1 rfl) ?_
      refine va_get (ci := 4) (v := .ref (a 34)) (C := R_M) (T := F_M) (N := 35) hx hb hts i_M hown hK.1 hP 0 rfl rfl 22 (by decide) (hts _ wd_369) (fun _ h9 => h9) rfl d_M_addBoth_54 ?_
      refine lv_iload_n hx hb d_M_addBoth_57 rfl (lv_at hl 4 rfl) ?_
      refine lv_iconst (v := 1) hx hb d_M_addBoth_58 (by decide) ?_
      refine lv_isub hx hb d_M_addBoth_59 ?_
      replace h := gd h
      obtain ⟨hi, h⟩ := h
      refine va_iald hx hb hK.1 hP 14 0 rfl rfl hi d_M_addBoth_60 ?_
      replace h := gd h
      obtain ⟨hi, h⟩ := h
      refine rw_iast C0 hP hD hS 14 0 rfl rfl hi d_M_addBoth_61 (Wn := (wM cI cZ a q (M_put_row σ x3 ((M_row σ) (x3 - 1).toNatClampNeg)))) ws_M_put_row (fun H locs hP hD hS => ?_)
      refine lv_aload_n hx hb d_M_addBoth_62 rfl (lv_at hl 1 rfl) ?_
      refine va_get (ci := 4) (v := .ref (a 34)) (C := R_M) (T := F_M) (N := 35) hx hb hts i_M hown hK.1 hP 0 rfl rfl 22 (by decide) (hts _ wd_369) (fun _ h9 => h9) rfl d_M_addBoth_63 ?_
      refine lv_iload_n hx hb d_M_addBoth_66 rfl (lv_at hl 4 rfl) ?_
      refine lv_iconst (v := 1) hx hb d_M_addBoth_67 (by decide) ?_
      refine lv_isub hx hb d_M_addBoth_68 ?_
      refine lv_iload hx hb d_M_addBoth_69 (lv_at hl 0 rfl) ?_
      replace h := gd h
      obtain ⟨hi, h⟩ := h
      refine rw_iast C0 hP hD hS 14 0 rfl rfl hi d_M_addBoth_71 (Wn := (wM cI cZ a q (M_put_row (M_put_row σ x3 ((M_row σ) (x3 - 1).toNatClampNeg)) (x3 - 1) ((M_row σ) x3.toNatClampNeg)))) ws_M_put_row (fun H locs hP hD hS => ?_)
      refine lv_iinc (v := (x3 + (-1))) (lv' := [(3, .int (x3 + (-1))), (4, .int ((M_row σ) x3.toNatClampNeg)), (0, .ref (a 20)), (1, .int x1), (2, .int x2)]) hx hb d_M_addBoth_72 hl (k := 4) rfl rfl (by decide) rfl (fun ls hl => ?_)
      refine lv_goto (tgt := 9) hx hb d_M_addBoth_75 (by decide) ?_
      exact hk9 _ _ _ _ _ _ _ _ h hP hD hS (lv_sub hl [2, 3, 4, 0] rfl)
set_option maxHeartbeats 4000000 in
set_option maxRecDepth 100000 in
theorem t_M_addBoth_9 {p : Program} {l : Launch} {e : Env} {s : State} {m : MethodId} {args : Array Value} {below : List Frame} {meth : Method} {c : Code} {D : va_G} {cI cZ : ClassId} {a : Nat → Nat} {A : Nat → Prop} (C0 : Am p s m args meth c b_M_addBoth (some .int) 6 R_M D [(cI, .int), (cZ, .boolean)]) (hA : ∀ q, s.heap.size ≤ q → A q) {res : Int32 × StM} {k2 : StM → Int32 → Int32 → Option (Int32 × StM)} (hk2 : ∀ (q : Nat) (σ : StM) (x1 x2 : Int32) (H : Heap) (locs : List Loc) (ls : Array Slot), k2 σ x1 x2 = some res → va_P D vwCl (wM cI cZ a q σ) H → va_D A (wM cI cZ a q σ) → va_S A s.heap H locs → lv_has ls 6 [(0, .ref (a 20)), (1, .int x1), (2, .int x2)] → W p l e (rmK 0 0 0 0) s m args below meth c H locs 0 0 (RwQ below args s D A (fun q (σ : StM) => (wM cI cZ a q σ)) res 0 0) (F0 m 2 ls [])) {n : Nat} {q : Nat} {σ : StM} {x1 x2 x3 : Int32} (h : f_M_addBoth_9 k2 n σ x1 x2 x3 = some res) {H : Heap} {locs : List Loc} (hP : va_P D vwCl (wM cI cZ a q σ) H) (hD : va_D A (wM cI cZ a q σ)) (hS : va_S A s.heap H locs) {ls : Array Slot} (hl : lv_has ls 6 [(0, .ref (a 20)), (1, .int x1), (2, .int x2), (3, .int x3)]) : W p l e (rmK 0 0 0 0) s m args below meth c H locs 0 0 (RwQ below args s D A (fun q (σ : StM) => (wM cI cZ a q σ)) res 0 0) (F0 m 9 ls []) := by
  induction n generalizing q σ x1 x2 x3 H locs ls with
  | zero => cases h
  | succ n ih => exact t_M_addBoth_9_s (a := a) C0 hA hk2 (fun _ _ _ _ _ _ _ _ h hP hD hS hl => ih h hP hD hS hl) h hP hD hS hl
set_option maxHeartbeats 4000000 in
set_option maxRecDepth 100000 in
theorem t_M_addBoth_2_s {p : Program} {l : Launch} {e : Env} {s : State} {m : MethodId} {args : Array Value} {below : List Frame} {meth : Method} {c : Code} {D : va_G} {cI cZ : ClassId} {a : Nat → Nat} {A : Nat → Prop} (C0 : Am p s m args meth c b_M_addBoth (some .int) 6 R_M D [(cI, .int), (cZ, .boolean)]) (hA : ∀ q, s.heap.size ≤ q → A q) {res : Int32 × StM} {k2 : StM → Int32 → Int32 → Option (Int32 × StM)}  (hk2 : ∀ (q : Nat) (σ : StM) (x1 x2 : Int32) (H : Heap) (locs : List Loc) (ls : Array Slot), k2 σ x1 x2 = some res → va_P D vwCl (wM cI cZ a q σ) H → va_D A (wM cI cZ a q σ) → va_S A s.heap H locs → lv_has ls 6 [(0, .ref (a 20)), (1, .int x1), (2, .int x2)] → W p l e (rmK 0 0 0 0) s m args below meth c H locs 0 0 (RwQ below args s D A (fun q (σ : StM) => (wM cI cZ a q σ)) res 0 0) (F0 m 2 ls [])) {q : Nat} {σ : StM} {x1 x2 : Int32} (h : f_M_addBoth_2_s k2 σ x1 x2 = some res) {H : Heap} {locs : List Loc} (hP : va_P D vwCl (wM cI cZ a q σ) H) (hD : va_D A (wM cI cZ a q σ)) (hS : va_S A s.heap H locs) {ls : Array Slot} (hl : lv_has ls 6 [(0, .ref (a 20)), (1, .int x1), (2, .int x2)]) : W p l e (rmK 0 0 0 0) s m args below meth c H locs 0 0 (RwQ below args s D A (fun q (σ : StM) => (wM cI cZ a q σ)) res 0 0) (F0 m 2 ls []) := by
  obtain ⟨hx, hb, hr, hml, hown, hts, hlk, hK⟩ := id C0
  unfold f_M_addBoth_2_s at h
  refine lv_iload_n hx hb d_M_addBoth_2 rfl (lv_at hl 2 rfl) ?_
  refine lv_iload_n hx hb d_M_addBoth_3 rfl (lv_at hl 1 rfl) ?_
  refine lv_icmp_ge (tgt := 84) hx hb d_M_addBoth_4 (by decide) (fun hc => ?_) (fun hc => ?_)
  · rw [if_pos hc] at h
    refine lv_iconst (v := 1) hx hb d_M_addBoth_84 (by decide) ?_
    refine lv_istore_n (lv' := [(2, .int 1), (0, .ref (a 20)), (1, .int x1)]) hx hb d_M_addBoth_85 rfl hl (by decide) rfl (fun ls hl => ?_)
    refine lv_iconst (v := 0) hx hb d_M_addBoth_86 (by decide) ?_
    refine lv_istore_n (lv' := [(3, .int 0), (2, .int 1), (0, .ref (a 20)), (1, .int x1)]) hx hb d_M_addBoth_87 rfl hl (by decide) rfl (fun ls hl => ?_)
    exact t_M_addBoth_88 (a := a) C0 hA  h hP hD hS (lv_sub hl [2, 3, 1, 0] rfl)
  · rw [if_neg hc] at h
    refine lv_iload_n hx hb d_M_addBoth_7 rfl (lv_at hl 2 rfl) ?_
    refine lv_istore_n (lv' := [(3, .int x2), (0, .ref (a 20)), (1, .int x1), (2, .int x2)]) hx hb d_M_addBoth_8 rfl hl (by decide) rfl (fun ls hl => ?_)
    exact t_M_addBoth_9 (a := a) C0 hA hk2 h hP hD hS (lv_sub hl [1, 2, 3, 0] rfl)
set_option maxHeartbeats 4000000 in
set_option maxRecDepth 100000 in
theorem t_M_addBoth_2 {p : Program} {l : Launch} {e : Env} {s : State} {m : MethodId} {args : Array Value} {below : List Frame} {meth : Method} {c : Code} {D : va_G} {cI cZ : ClassId} {a : Nat → Nat} {A : Nat → Prop} (C0 : Am p s m args meth c b_M_addBoth (some .int) 6 R_M D [(cI, .int), (cZ, .boolean)]) (hA : ∀ q, s.heap.size ≤ q → A q) {res : Int32 × StM}  {n : Nat} {q : Nat} {σ : StM} {x1 x2 : Int32} (h : f_M_addBoth_2  n σ x1 x2 = some res) {H : Heap} {locs : List Loc} (hP : va_P D vwCl (wM cI cZ a q σ) H) (hD : va_D A (wM cI cZ a q σ)) (hS : va_S A s.heap H locs) {ls : Array Slot} (hl : lv_has ls 6 [(0, .ref (a 20)), (1, .int x1), (2, .int x2)]) : W p l e (rmK 0 0 0 0) s m args below meth c H locs 0 0 (RwQ below args s D A (fun q (σ : StM) => (wM cI cZ a q σ)) res 0 0) (F0 m 2 ls []) := by
  induction n generalizing q σ x1 x2 H locs ls with
  | zero => cases h
  | succ n ih => exact t_M_addBoth_2_s (a := a) C0 hA  (fun _ _ _ _ _ _ _ h hP hD hS hl => ih h hP hD hS hl) h hP hD hS hl
set_option maxHeartbeats 4000000 in
set_option maxRecDepth 100000 in
theorem t_M_addBoth_0 {p : Program} {l : Launch} {e : Env} {s : State} {m : MethodId} {args : Array Value} {below : List Frame} {meth : Method} {c : Code} {D : va_G} {cI cZ : ClassId} {a : Nat → Nat} {A : Nat → Prop} (C0 : Am p s m args meth c b_M_addBoth (some .int) 6 R_M D [(cI, .int), (cZ, .boolean)]) (hA : ∀ q, s.heap.size ≤ q → A q) {res : Int32 × StM}   {q : Nat} {σ : StM} {x1 : Int32} (h : f_M_addBoth σ x1 = some res) {H : Heap} {locs : List Loc} (hP : va_P D vwCl (wM cI cZ a q σ) H) (hD : va_D A (wM cI cZ a q σ)) (hS : va_S A s.heap H locs) {ls : Array Slot} (hl : lv_has ls 6 [(0, .ref (a 20)), (1, .int x1)]) : W p l e (rmK 0 0 0 0) s m args below meth c H locs 0 0 (RwQ below args s D A (fun q (σ : StM) => (wM cI cZ a q σ)) res 0 0) (F0 m 0 ls []) := by
  obtain ⟨hx, hb, hr, hml, hown, hts, hlk, hK⟩ := id C0
  unfold f_M_addBoth at h
  refine lv_iconst (v := 1) hx hb d_M_addBoth_0 (by decide) ?_
  refine lv_istore_n (lv' := [(2, .int 1), (0, .ref (a 20)), (1, .int x1)]) hx hb d_M_addBoth_1 rfl hl (by decide) rfl (fun ls hl => ?_)
  exact t_M_addBoth_2 (a := a) C0 hA  h hP hD hS (lv_sub hl [1, 2, 0] rfl)
set_option maxHeartbeats 4000000 in
set_option maxRecDepth 100000 in
theorem c_M_addBoth (l : Launch) (D : va_G) (cI cZ : ClassId) (a : Nat → Nat) (q : Nat) (σ : StM) (x1 : Int32) {res : Int32 × StM} (h : f_M_addBoth σ x1 = some res) : RwM l y_M_addBoth b_M_addBoth 6 (some .int) 0 0 D [(cI, .int), (cZ, .boolean)] [.ref (a 20), .int x1] (fun q (σ : StM) => (wM cI cZ a q σ)) q σ res :=
  rw_of (by decide) (Nat.le_of_ble_eq_true rfl) (fun p e s m args below meth c ls A C0 hA hP hD hS hl => t_M_addBoth_0 (a := a) C0 hA h hP hD hS (lv_sub hl [0, 1] rfl))
-- part 07.6M.13M_isBelowAll.lean.txt
def f_M_isBelowAll_5_s (k5 : StM → Int32 → Int32 → Int32 → Int32 → Option Int32) (σ : StM) (x1 x2 x3 x4 : Int32) : Option Int32 :=
  if x2 < 0 ∨ 300 ≤ x2.toNatClampNeg then none else
  if ((M_partCount σ) x2.toNatClampNeg) ≤ x4 then
    some (x3 &&& 1)
  else
    if x3 = 0 then
      k5 σ x1 x2 0 (x4 + 1)
    else
      if ((30 * x2) + x4) < 0 ∨ 9000 ≤ ((30 * x2) + x4).toNatClampNeg then none else
      if ((300 * x1) + ((M_partRow σ) ((30 * x2) + x4).toNatClampNeg)) < 0 ∨ 90000 ≤ ((300 * x1) + ((M_partRow σ) ((30 * x2) + x4).toNatClampNeg)).toNatClampNeg then none else
      if ((M_below σ) ((300 * x1) + ((M_partRow σ) ((30 * x2) + x4).toNatClampNeg)).toNatClampNeg) = 0 then
        k5 σ x1 x2 0 (x4 + 1)
      else
        k5 σ x1 x2 1 (x4 + 1)
def f_M_isBelowAll_5 : Nat → StM → Int32 → Int32 → Int32 → Int32 → Option Int32
  | 0, _, _, _, _, _ => none
  | n + 1, σ, x1, x2, x3, x4 => f_M_isBelowAll_5_s (f_M_isBelowAll_5 n) σ x1 x2 x3 x4
def f_M_isBelowAll (σ : StM) (x1 x2 : Int32) : Option Int32 :=
  f_M_isBelowAll_5 1000 σ x1 x2 1 0
set_option maxHeartbeats 4000000 in
set_option maxRecDepth 100000 in
theorem t_M_isBelowAll_5_s {p : Program} {l : Launch} {e : Env} {s : State} {m : MethodId} {args : Array Value} {below : List Frame} {meth : Method} {c : Code} {D : va_G} {cI cZ : ClassId} {a : Nat → Nat} {q : Nat} {σ : StM} (C0 : Am p s m args meth c b_M_isBelowAll (some .boolean) 5 R_M D [(cI, .int), (cZ, .boolean)]) (hP : va_P D vwCl (wM cI cZ a q σ) s.heap) {val : Int32} {k5 : StM → Int32 → Int32 → Int32 → Int32 → Option Int32}  (hk5 : ∀ (x1 x2 x3 x4 : Int32) (ls : Array Slot), k5 σ x1 x2 x3 x4 = some val → lv_has ls 5 [(0, .ref (a 20)), (1, .int x1), (2, .int x2), (3, .int x3), (4, .int x4)] → RoW p l e (rmK 0 0 0 0) s m args below meth c val (F0 m 5 ls [])) {x1 x2 x3 x4 : Int32} (h : f_M_isBelowAll_5_s k5 σ x1 x2 x3 x4 = some val) {ls : Array Slot} (hl : lv_has ls 5 [(0, .ref (a 20)), (1, .int x1), (2, .int x2), (3, .int x3), (4, .int x4)]) : RoW p l e (rmK 0 0 0 0) s m args below meth c val (F0 m 5 ls []) := by
  obtain ⟨hx, hb, hr, hml, hown, hts, hlk, hK⟩ := id C0
  unfold f_M_isBelowAll_5_s at h
  refine lv_iload hx hb d_M_isBelowAll_5 (lv_at hl 4 rfl) ?_
  refine lv_aload_n hx hb d_M_isBelowAll_7 rfl (lv_at hl 0 rfl) ?_
  refine va_get (ci := 4) (v := .ref (a 32)) (C := R_M) (T := F_M) (N := 35) hx hb hts i_M hown hK.1 hP 0 rfl rfl 16 (by decide) (hts _ wd_354) (fun _ h9 => h9) rfl d_M_isBelowAll_8 ?_
  refine lv_iload_n hx hb d_M_isBelowAll_11 rfl (lv_at hl 2 rfl) ?_
  replace h := gd h
  obtain ⟨hi, h⟩ := h
  refine va_iald hx hb hK.1 hP 12 0 rfl rfl hi d_M_isBelowAll_12 ?_
  refine lv_icmp_ge (tgt := 58) hx hb d_M_isBelowAll_13 (by decide) (fun hc => ?_) (fun hc => ?_)
  · rw [if_pos hc] at h
    refine lv_iload_n hx hb d_M_isBelowAll_58 rfl (lv_at hl 3 rfl) ?_
    exact ro_retz C0 rfl (Option.some.inj h) d_M_isBelowAll_59
  · rw [if_neg hc] at h
    refine lv_iload_n hx hb d_M_isBelowAll_16 rfl (lv_at hl 3 rfl) ?_
    refine lv_if_eq (tgt := 50) hx hb d_M_isBelowAll_17 (by decide) (fun hc => ?_) (fun hc => ?_)
    · rw [if_pos hc] at h
      refine lv_iconst (v := 0) hx hb d_M_isBelowAll_50 (by decide) ?_
      refine lv_istore_n (lv' := [(3, .int 0), (0, .ref (a 20)), (1, .int x1), (2, .int x2), (4, .int x4)]) hx hb d_M_isBelowAll_51 rfl hl (by decide) rfl (fun ls hl => ?_)
      refine lv_iinc (v := (x4 + 1)) (lv' := [(4, .int (x4 + 1)), (3, .int 0), (0, .ref (a 20)), (1, .int x1), (2, .int x2)]) hx hb d_M_isBelowAll_52 hl (k := 4) rfl rfl (by decide) rfl (fun ls hl => ?_)
      refine lv_goto (tgt := 5) hx hb d_M_isBelowAll_55 (by decide) ?_
      exact hk5 _ _ _ _ _ h (lv_sub hl [2, 3, 4, 1, 0] rfl)
    · rw [if_neg hc] at h
      refine lv_aload_n hx hb d_M_isBelowAll_20 rfl (lv_at hl 0 rfl) ?_
      refine va_get (ci := 4) (v := .ref (a 35)) (C := R_M) (T := F_M) (N := 35) hx hb hts i_M hown hK.1 hP 0 rfl rfl 23 (by decide) (hts _ wd_370) (fun _ h9 => h9) rfl d_M_isBelowAll_21 ?_
      refine lv_sipush (v := 300) hx hb d_M_isBelowAll_24 (by decide) ?_
      refine lv_iload_n hx hb d_M_isBelowAll_27 rfl (lv_at hl 1 rfl) ?_
      refine lv_imul hx hb d_M_isBelowAll_28 ?_
      refine lv_aload_n hx hb d_M_isBelowAll_29 rfl (lv_at hl 0 rfl) ?_
      refine va_get (ci := 4) (v := .ref (a 33)) (C := R_M) (T := F_M) (N := 35) hx hb hts i_M hown hK.1 hP 0 rfl rfl 17 (by decide) (hts _ wd_355) (fun _ h9 => h9) rfl d_M_isBelowAll_30 ?_
      refine lv_bipush (v := 30) hx hb d_M_isBelowAll_33 (by decide) ?_
      refine lv_iload_n hx hb d_M_isBelowAll_35 rfl (lv_at hl 2 rfl) ?_
      refine lv_imul hx hb d_M_isBelowAll_36 ?_
      refine lv_iload hx hb d_M_isBelowAll_37 (lv_at hl 4 rfl) ?_
      refine lv_iadd hx hb d_M_isBelowAll_39 ?_
      replace h := gd h
      obtain ⟨hi, h⟩ := h
      refine va_iald hx hb hK.1 hP 13 0 rfl rfl hi d_M_isBelowAll_40 ?_
      refine lv_iadd hx hb d_M_isBelowAll_41 ?_
      replace h := gd h
      obtain ⟨hi, h⟩ := h
      refine va_zald hx hb hK.1 hP 15 1 rfl rfl hi d_M_isBelowAll_42 ?_
      refine lv_if_eq (tgt := 50) hx hb d_M_isBelowAll_43 (by decide) (fun hc => ?_) (fun hc => ?_)
      · rw [if_pos hc] at h
        refine lv_iconst (v := 0) hx hb d_M_isBelowAll_50 (by decide) ?_
        refine lv_istore_n (lv' := [(3, .int 0), (0, .ref (a 20)), (1, .int x1), (2, .int x2), (4, .int x4)]) hx hb d_M_isBelowAll_51 rfl hl (by decide) rfl (fun ls hl => ?_)
        refine lv_iinc (v := (x4 + 1)) (lv' := [(4, .int (x4 + 1)), (3, .int 0), (0, .ref (a 20)), (1, .int x1), (2, .int x2)]) hx hb d_M_isBelowAll_52 hl (k := 4) rfl rfl (by decide) rfl (fun ls hl => ?_)
        refine lv_goto (tgt := 5) hx hb d_M_isBelowAll_55 (by decide) ?_
        exact hk5 _ _ _ _ _ h (lv_sub hl [2, 3, 4, 1, 0] rfl)
      · rw [if_neg hc] at h
        refine lv_iconst (v := 1) hx hb d_M_isBelowAll_46 (by decide) ?_
        refine lv_goto (tgt := 51) hx hb d_M_isBelowAll_47 (by decide) ?_
        refine lv_istore_n (lv' := [(3, .int 1), (0, .ref (a 20)), (1, .int x1), (2, .int x2), (4, .int x4)]) hx hb d_M_isBelowAll_51 rfl hl (by decide) rfl (fun ls hl => ?_)
        refine lv_iinc (v := (x4 + 1)) (lv' := [(4, .int (x4 + 1)), (3, .int 1), (0, .ref (a 20)), (1, .int x1), (2, .int x2)]) hx hb d_M_isBelowAll_52 hl (k := 4) rfl rfl (by decide) rfl (fun ls hl => ?_)
        refine lv_goto (tgt := 5) hx hb d_M_isBelowAll_55 (by decide) ?_
        exact hk5 _ _ _ _ _ h (lv_sub hl [2, 3, 4, 1, 0] rfl)
set_option maxHeartbeats 4000000 in
set_option maxRecDepth 100000 in
theorem t_M_isBelowAll_5 {p : Program} {l : Launch} {e : Env} {s : State} {m : MethodId} {args : Array Value} {below : List Frame} {meth : Method} {c : Code} {D : va_G} {cI cZ : ClassId} {a : Nat → Nat} {q : Nat} {σ : StM} (C0 : Am p s m args meth c b_M_isBelowAll (some .boolean) 5 R_M D [(cI, .int), (cZ, .boolean)]) (hP : va_P D vwCl (wM cI cZ a q σ) s.heap) {val : Int32}  {n : Nat} {x1 x2 x3 x4 : Int32} (h : f_M_isBelowAll_5  n σ x1 x2 x3 x4 = some val) {ls : Array Slot} (hl : lv_has ls 5 [(0, .ref (a 20)), (1, .int x1), (2, .int x2), (3, .int x3), (4, .int x4)]) : RoW p l e (rmK 0 0 0 0) s m args below meth c val (F0 m 5 ls []) := by
  induction n generalizing x1 x2 x3 x4 ls with
  | zero => cases h
  | succ n ih => exact t_M_isBelowAll_5_s (a := a) C0 hP  (fun _ _ _ _ _ h hl => ih h hl) h hl
set_option maxHeartbeats 4000000 in
set_option maxRecDepth 100000 in
theorem t_M_isBelowAll_0 {p : Program} {l : Launch} {e : Env} {s : State} {m : MethodId} {args : Array Value} {below : List Frame} {meth : Method} {c : Code} {D : va_G} {cI cZ : ClassId} {a : Nat → Nat} {q : Nat} {σ : StM} (C0 : Am p s m args meth c b_M_isBelowAll (some .boolean) 5 R_M D [(cI, .int), (cZ, .boolean)]) (hP : va_P D vwCl (wM cI cZ a q σ) s.heap) {val : Int32}   {x1 x2 : Int32} (h : f_M_isBelowAll σ x1 x2 = some val) {ls : Array Slot} (hl : lv_has ls 5 [(0, .ref (a 20)), (1, .int x1), (2, .int x2)]) : RoW p l e (rmK 0 0 0 0) s m args below meth c val (F0 m 0 ls []) := by
  obtain ⟨hx, hb, hr, hml, hown, hts, hlk, hK⟩ := id C0
  unfold f_M_isBelowAll at h
  refine lv_iconst (v := 1) hx hb d_M_isBelowAll_0 (by decide) ?_
  refine lv_istore_n (lv' := [(3, .int 1), (0, .ref (a 20)), (1, .int x1), (2, .int x2)]) hx hb d_M_isBelowAll_1 rfl hl (by decide) rfl (fun ls hl => ?_)
  refine lv_iconst (v := 0) hx hb d_M_isBelowAll_2 (by decide) ?_
  refine lv_istore (lv' := [(4, .int 0), (3, .int 1), (0, .ref (a 20)), (1, .int x1), (2, .int x2)]) hx hb d_M_isBelowAll_3 hl (by decide) rfl (fun ls hl => ?_)
  exact t_M_isBelowAll_5 (a := a) C0 hP  h (lv_sub hl [2, 3, 4, 1, 0] rfl)
set_option maxHeartbeats 4000000 in
set_option maxRecDepth 100000 in
theorem c_M_isBelowAll (l : Launch) (D : va_G) (cI cZ : ClassId) (a : Nat → Nat) (q : Nat) (σ : StM) (x1 : Int32) (x2 : Int32) {val : Int32} (h : f_M_isBelowAll σ x1 x2 = some val) : RoM l y_M_isBelowAll b_M_isBelowAll 5 (some .boolean) 0 0 D [(cI, .int), (cZ, .boolean)] [.ref (a 20), .int x1, .int x2] (wM cI cZ a q σ) val :=
  ro_of (by decide) (Nat.le_of_ble_eq_true rfl) (fun p e s m args below meth c ls C0 hP hl => t_M_isBelowAll_0 (a := a) C0 hP h (lv_sub hl [0, 1, 2] rfl))
-- part 07.6M.14M_isBelowNamed.lean.txt
def f_M_isBelowNamed_158 (k27 : StM → Int32 → Int32 → Int32 → Int32 → Int32 → Option (Int32 × StM)) (σ : StM) (x1 x2 x4 x5 : Int32) : Option (Int32 × StM) :=
  k27 σ x1 x2 1 x4 (x5 + 1)
def f_M_isBelowNamed_125 (k27 : StM → Int32 → Int32 → Int32 → Int32 → Int32 → Option (Int32 × StM)) (σ : StM) (x1 x2 x4 x5 : Int32) : Option (Int32 × StM) :=
  if x2 < 0 ∨ 300 ≤ x2.toNatClampNeg then none else
  if ((M_how σ) x2.toNatClampNeg) = 2 then
    if x2 < 0 ∨ 300 ≤ x2.toNatClampNeg then none else
    if ((300 * (M_foundType σ)) + ((M_inner σ) x2.toNatClampNeg)) < 0 ∨ 90000 ≤ ((300 * (M_foundType σ)) + ((M_inner σ) x2.toNatClampNeg)).toNatClampNeg then none else
    if ((M_below σ) ((300 * (M_foundType σ)) + ((M_inner σ) x2.toNatClampNeg)).toNatClampNeg) = 0 then
      k27 σ x1 x2 0 x4 (x5 + 1)
    else
      f_M_isBelowNamed_158 k27 σ x1 x2 x4 x5
  else
    k27 σ x1 x2 0 x4 (x5 + 1)
def f_M_isBelowNamed_64 (k27 : StM → Int32 → Int32 → Int32 → Int32 → Int32 → Option (Int32 × StM)) (σ : StM) (x1 x2 x4 x5 t0 : Int32) : Option (Int32 × StM) :=
  if x2 < 0 ∨ 300 ≤ x2.toNatClampNeg then none else
  (f_M_lookAt σ t0 ((M_classOf σ) x2.toNatClampNeg)).bind fun r1 =>
  if (M_found r1.2) = 0 then
    k27 r1.2 x1 x2 0 x4 (x5 + 1)
  else
    if x2 < 0 ∨ 300 ≤ x2.toNatClampNeg then none else
    if ((M_how r1.2) x2.toNatClampNeg) = 0 then
      f_M_isBelowNamed_158 k27 r1.2 x1 x2 x4 x5
    else
      if x2 < 0 ∨ 300 ≤ x2.toNatClampNeg then none else
      if ((M_how r1.2) x2.toNatClampNeg) = 1 then
        if (M_foundHow r1.2) = 1 then
          if x2 < 0 ∨ 300 ≤ x2.toNatClampNeg then none else
          if (M_foundType r1.2) = ((M_inner r1.2) x2.toNatClampNeg) then
            f_M_isBelowNamed_158 k27 r1.2 x1 x2 x4 x5
          else
            f_M_isBelowNamed_125 k27 r1.2 x1 x2 x4 x5
        else
          f_M_isBelowNamed_125 k27 r1.2 x1 x2 x4 x5
      else
        f_M_isBelowNamed_125 k27 r1.2 x1 x2 x4 x5
def f_M_isBelowNamed_27_s (k27 : StM → Int32 → Int32 → Int32 → Int32 → Int32 → Option (Int32 × StM)) (σ : StM) (x1 x2 x3 x4 x5 : Int32) : Option (Int32 × StM) :=
  if x4 ≤ x5 then
    some ((x3 &&& 1), σ)
  else
    if x3 = 0 then
      if x1 < 0 ∨ 300 ≤ x1.toNatClampNeg then none else
      if ((M_kind σ) x1.toNatClampNeg) = 3 then
        if ((30 * x1) + x5) < 0 ∨ 9000 ≤ ((30 * x1) + x5).toNatClampNeg then none else
        f_M_isBelowNamed_64 k27 σ x1 x2 x4 x5 ((M_partRow σ) ((30 * x1) + x5).toNatClampNeg)
      else
        f_M_isBelowNamed_64 k27 σ x1 x2 x4 x5 x1
    else
      some ((x3 &&& 1), σ)
def f_M_isBelowNamed_27 : Nat → StM → Int32 → Int32 → Int32 → Int32 → Int32 → Option (Int32 × StM)
  | 0, _, _, _, _, _, _ => none
  | n + 1, σ, x1, x2, x3, x4, x5 => f_M_isBelowNamed_27_s (f_M_isBelowNamed_27 n) σ x1 x2 x3 x4 x5
def f_M_isBelowNamed (σ : StM) (x1 x2 : Int32) : Option (Int32 × StM) :=
  if x1 < 0 ∨ 300 ≤ x1.toNatClampNeg then none else
  if ((M_kind σ) x1.toNatClampNeg) = 3 then
    if x1 < 0 ∨ 300 ≤ x1.toNatClampNeg then none else
    f_M_isBelowNamed_27 1000 σ x1 x2 0 ((M_partCount σ) x1.toNatClampNeg) 0
  else
    f_M_isBelowNamed_27 1000 σ x1 x2 0 1 0
set_option maxHeartbeats 4000000 in
set_option maxRecDepth 100000 in
theorem t_M_isBelowNamed_158 {p : Program} {l : Launch} {e : Env} {s : State} {m : MethodId} {args : Array Value} {below : List Frame} {meth : Method} {c : Code} {D : va_G} {cI cZ : ClassId} {a : Nat → Nat} {A : Nat → Prop} (C0 : Am p s m args meth c b_M_isBelowNamed (some .boolean) 7 R_M D [(cI, .int), (cZ, .boolean)]) (hA : ∀ q, s.heap.size ≤ q → A q) {res : Int32 × StM} {k27 : StM → Int32 → Int32 → Int32 → Int32 → Int32 → Option (Int32 × StM)} (hk27 : ∀ (q : Nat) (σ : StM) (x1 x2 x3 x4 x5 : Int32) (H : Heap) (locs : List Loc) (ls : Array Slot), k27 σ x1 x2 x3 x4 x5 = some res → va_P D vwCl (wM cI cZ a q σ) H → va_D A (wM cI cZ a q σ) → va_S A s.heap H locs → lv_has ls 7 [(0, .ref (a 20)), (1, .int x1), (2, .int x2), (3, .int x3), (4, .int x4), (5, .int x5)] → W p l e (rmK 3 74 0 0) s m args below meth c H locs 0 0 (RwQ below args s D A (fun q (σ : StM) => (wM cI cZ a q σ)) res 0 0) (F0 m 27 ls []))  {q : Nat} {σ : StM} {x1 x2 x4 x5 : Int32} (h : f_M_isBelowNamed_158 k27 σ x1 x2 x4 x5 = some res) {H : Heap} {locs : List Loc} (hP : va_P D vwCl (wM cI cZ a q σ) H) (hD : va_D A (wM cI cZ a q σ)) (hS : va_S A s.heap H locs) {ls : Array Slot} (hl : lv_has ls 7 [(0, .ref (a 20)), (1, .int x1), (2, .int x2), (4, .int x4), (5, .int x5)]) : W p l e (rmK 3 74 0 0) s m args below meth c H locs 0 0 (RwQ below args s D A (fun q (σ : StM) => (wM cI cZ a q σ)) res 0 0) (F0 m 158 ls []) := by
  obtain ⟨hx, hb, hr, hml, hown, hts, hlk, hK⟩ := id C0
  unfold f_M_isBelowNamed_158 at h
  refine lv_iconst (v := 1) hx hb d_M_isBelowNamed_158 (by decide) ?_
  refine lv_goto (tgt := 163) hx hb d_M_isBelowNamed_159 (by decide) ?_
  refine lv_istore_n (lv' := [(3, .int 1), (0, .ref (a 20)), (1, .int x1), (2, .int x2), (4, .int x4), (5, .int x5)]) hx hb d_M_isBelowNamed_163 rfl hl (by decide) rfl (fun ls hl => ?_)
  refine lv_iinc (v := (x5 + 1)) (lv' := [(5, .int (x5 + 1)), (3, .int 1), (0, .ref (a 20)), (1, .int x1), (2, .int x2), (4, .int x4)]) hx hb d_M_isBelowNamed_164 hl (k := 5) rfl rfl (by decide) rfl (fun ls hl => ?_)
  refine lv_goto (tgt := 27) hx hb d_M_isBelowNamed_167 (by decide) ?_
  exact hk27 _ _ _ _ _ _ _ _ _ _ h hP hD hS (lv_sub hl [2, 3, 4, 1, 5, 0] rfl)
set_option maxHeartbeats 4000000 in
set_option maxRecDepth 100000 in
theorem t_M_isBelowNamed_125 {p : Program} {l : Launch} {e : Env} {s : State} {m : MethodId} {args : Array Value} {below : List Frame} {meth : Method} {c : Code} {D : va_G} {cI cZ : ClassId} {a : Nat → Nat} {A : Nat → Prop} (C0 : Am p s m args meth c b_M_isBelowNamed (some .boolean) 7 R_M D [(cI, .int), (cZ, .boolean)]) (hA : ∀ q, s.heap.size ≤ q → A q) {res : Int32 × StM} {k27 : StM → Int32 → Int32 → Int32 → Int32 → Int32 → Option (Int32 × StM)} (hk27 : ∀ (q : Nat) (σ : StM) (x1 x2 x3 x4 x5 : Int32) (H : Heap) (locs : List Loc) (ls : Array Slot), k27 σ x1 x2 x3 x4 x5 = some res → va_P D vwCl (wM cI cZ a q σ) H → va_D A (wM cI cZ a q σ) → va_S A s.heap H locs → lv_has ls 7 [(0, .ref (a 20)), (1, .int x1), (2, .int x2), (3, .int x3), (4, .int x4), (5, .int x5)] → W p l e (rmK 3 74 0 0) s m args below meth c H locs 0 0 (RwQ below args s D A (fun q (σ : StM) => (wM cI cZ a q σ)) res 0 0) (F0 m 27 ls []))  {q : Nat} {σ : StM} {x1 x2 x4 x5 : Int32} (h : f_M_isBelowNamed_125 k27 σ x1 x2 x4 x5 = some res) {H : Heap} {locs : List Loc} (hP : va_P D vwCl (wM cI cZ a q σ) H) (hD : va_D A (wM cI cZ a q σ)) (hS : va_S A s.heap H locs) {ls : Array Slot} (hl : lv_has ls 7 [(0, .ref (a 20)), (1, .int x1), (2, .int x2), (4, .int x4), (5, .int x5)]) : W p l e (rmK 3 74 0 0) s m args below meth c H locs 0 0 (RwQ below args s D A (fun q (σ : StM) => (wM cI cZ a q σ)) res 0 0) (F0 m 125 ls []) := by
  obtain ⟨hx, hb, hr, hml, hown, hts, hlk, hK⟩ := id C0
  unfold f_M_isBelowNamed_125 at h
  refine lv_aload_n hx hb d_M_isBelowNamed_125 rfl (lv_at hl 0 rfl) ?_
  refine va_get (ci := 4) (v := .ref (a 29)) (C := R_M) (T := F_M) (N := 35) hx hb hts i_M hown hK.1 hP 0 rfl rfl 13 (by decide) (hts _ wd_357) (fun _ h9 => h9) rfl d_M_isBelowNamed_126 ?_
  refine lv_iload_n hx hb d_M_isBelowNamed_129 rfl (lv_at hl 2 rfl) ?_
  replace h := gd h
  obtain ⟨hi, h⟩ := h
  refine va_iald hx hb hK.1 hP 9 0 rfl rfl hi d_M_isBelowNamed_130 ?_
  refine lv_iconst (v := 2) hx hb d_M_isBelowNamed_131 (by decide) ?_
  refine lv_icmp_ne (tgt := 162) hx hb d_M_isBelowNamed_132 (by decide) (fun hc => ?_) (fun hc => ?_)
  · rw [if_neg hc] at h
    refine lv_iconst (v := 0) hx hb d_M_isBelowNamed_162 (by decide) ?_
    refine lv_istore_n (lv' := [(3, .int 0), (0, .ref (a 20)), (1, .int x1), (2, .int x2), (4, .int x4), (5, .int x5)]) hx hb d_M_isBelowNamed_163 rfl hl (by decide) rfl (fun ls hl => ?_)
    refine lv_iinc (v := (x5 + 1)) (lv' := [(5, .int (x5 + 1)), (3, .int 0), (0, .ref (a 20)), (1, .int x1), (2, .int x2), (4, .int x4)]) hx hb d_M_isBelowNamed_164 hl (k := 5) rfl rfl (by decide) rfl (fun ls hl => ?_)
    refine lv_goto (tgt := 27) hx hb d_M_isBelowNamed_167 (by decide) ?_
    exact hk27 _ _ _ _ _ _ _ _ _ _ h hP hD hS (lv_sub hl [2, 3, 4, 1, 5, 0] rfl)
  · rw [if_pos hc] at h
    refine lv_aload_n hx hb d_M_isBelowNamed_135 rfl (lv_at hl 0 rfl) ?_
    refine va_get (ci := 4) (v := .ref (a 35)) (C := R_M) (T := F_M) (N := 35) hx hb hts i_M hown hK.1 hP 0 rfl rfl 23 (by decide) (hts _ wd_370) (fun _ h9 => h9) rfl d_M_isBelowNamed_136 ?_
    refine lv_sipush (v := 300) hx hb d_M_isBelowNamed_139 (by decide) ?_
    refine lv_aload_n hx hb d_M_isBelowNamed_142 rfl (lv_at hl 0 rfl) ?_
    refine va_get (ci := 4) (v := .int (M_foundType σ)) (C := R_M) (T := F_M) (N := 35) hx hb hts i_M hown hK.1 hP 0 rfl rfl 21 (by decide) (hts _ wd_347) (fun _ h9 => h9) rfl d_M_isBelowNamed_143 ?_
    refine lv_imul hx hb d_M_isBelowNamed_146 ?_
    refine lv_aload_n hx hb d_M_isBelowNamed_147 rfl (lv_at hl 0 rfl) ?_
    refine va_get (ci := 4) (v := .ref (a 30)) (C := R_M) (T := F_M) (N := 35) hx hb hts i_M hown hK.1 hP 0 rfl rfl 14 (by decide) (hts _ wd_358) (fun _ h9 => h9) rfl d_M_isBelowNamed_148 ?_
    refine lv_iload_n hx hb d_M_isBelowNamed_151 rfl (lv_at hl 2 rfl) ?_
    replace h := gd h
    obtain ⟨hi, h⟩ := h
    refine va_iald hx hb hK.1 hP 10 0 rfl rfl hi d_M_isBelowNamed_152 ?_
    refine lv_iadd hx hb d_M_isBelowNamed_153 ?_
    replace h := gd h
    obtain ⟨hi, h⟩ := h
    refine va_zald hx hb hK.1 hP 15 1 rfl rfl hi d_M_isBelowNamed_154 ?_
    refine lv_if_eq (tgt := 162) hx hb d_M_isBelowNamed_155 (by decide) (fun hc => ?_) (fun hc => ?_)
    · rw [if_pos hc] at h
      refine lv_iconst (v := 0) hx hb d_M_isBelowNamed_162 (by decide) ?_
      refine lv_istore_n (lv' := [(3, .int 0), (0, .ref (a 20)), (1, .int x1), (2, .int x2), (4, .int x4), (5, .int x5)]) hx hb d_M_isBelowNamed_163 rfl hl (by decide) rfl (fun ls hl => ?_)
      refine lv_iinc (v := (x5 + 1)) (lv' := [(5, .int (x5 + 1)), (3, .int 0), (0, .ref (a 20)), (1, .int x1), (2, .int x2), (4, .int x4)]) hx hb d_M_isBelowNamed_164 hl (k := 5) rfl rfl (by decide) rfl (fun ls hl => ?_)
      refine lv_goto (tgt := 27) hx hb d_M_isBelowNamed_167 (by decide) ?_
      exact hk27 _ _ _ _ _ _ _ _ _ _ h hP hD hS (lv_sub hl [2, 3, 4, 1, 5, 0] rfl)
    · rw [if_neg hc] at h
      exact t_M_isBelowNamed_158 (a := a) C0 hA hk27 h hP hD hS (lv_sub hl [0, 1, 2, 3, 4] rfl)
set_option maxHeartbeats 4000000 in
set_option maxRecDepth 100000 in
theorem t_M_isBelowNamed_64 {p : Program} {l : Launch} {e : Env} {s : State} {m : MethodId} {args : Array Value} {below : List Frame} {meth : Method} {c : Code} {D : va_G} {cI cZ : ClassId} {a : Nat → Nat} {A : Nat → Prop} (C0 : Am p s m args meth c b_M_isBelowNamed (some .boolean) 7 R_M D [(cI, .int), (cZ, .boolean)]) (hA : ∀ q, s.heap.size ≤ q → A q) {res : Int32 × StM} {k27 : StM → Int32 → Int32 → Int32 → Int32 → Int32 → Option (Int32 × StM)} (hk27 : ∀ (q : Nat) (σ : StM) (x1 x2 x3 x4 x5 : Int32) (H : Heap) (locs : List Loc) (ls : Array Slot), k27 σ x1 x2 x3 x4 x5 = some res → va_P D vwCl (wM cI cZ a q σ) H → va_D A (wM cI cZ a q σ) → va_S A s.heap H locs → lv_has ls 7 [(0, .ref (a 20)), (1, .int x1), (2, .int x2), (3, .int x3), (4, .int x4), (5, .int x5)] → W p l e (rmK 3 74 0 0) s m args below meth c H locs 0 0 (RwQ below args s D A (fun q (σ : StM) => (wM cI cZ a q σ)) res 0 0) (F0 m 27 ls []))  {q : Nat} {σ : StM} {x1 x2 x4 x5 t0 : Int32} (h : f_M_isBelowNamed_64 k27 σ x1 x2 x4 x5 t0 = some res) {H : Heap} {locs : List Loc} (hP : va_P D vwCl (wM cI cZ a q σ) H) (hD : va_D A (wM cI cZ a q σ)) (hS : va_S A s.heap H locs) {ls : Array Slot} (hl : lv_has ls 7 [(0, .ref (a 20)), (1, .int x1), (2, .int x2), (4, .int x4), (5, .int x5)]) : W p l e (rmK 3 74 0 0) s m args below meth c H locs 0 0 (RwQ below args s D A (fun q (σ : StM) => (wM cI cZ a q σ)) res 0 0) (F0 m 64 ls [.int t0]) := by
  obtain ⟨hx, hb, hr, hml, hown, hts, hlk, hK⟩ := id C0
  unfold f_M_isBelowNamed_64 at h
  refine lv_istore (lv' := [(6, .int t0), (0, .ref (a 20)), (1, .int x1), (2, .int x2), (4, .int x4), (5, .int x5)]) hx hb d_M_isBelowNamed_64 hl (by decide) rfl (fun ls hl => ?_)
  refine lv_aload_n hx hb d_M_isBelowNamed_66 rfl (lv_at hl 1 rfl) ?_
  refine lv_iload hx hb d_M_isBelowNamed_67 (lv_at hl 0 rfl) ?_
  refine lv_aload_n hx hb d_M_isBelowNamed_69 rfl (lv_at hl 1 rfl) ?_
  refine va_get (ci := 4) (v := .ref (a 28)) (C := R_M) (T := F_M) (N := 35) hx hb hts i_M hown hK.1 hP 0 rfl rfl 12 (by decide) (hts _ wd_356) (fun _ h9 => h9) rfl d_M_isBelowNamed_70 ?_
  refine lv_iload_n hx hb d_M_isBelowNamed_73 rfl (lv_at hl 3 rfl) ?_
  replace h := gd h
  obtain ⟨hi, h⟩ := h
  refine va_iald hx hb hK.1 hP 8 0 rfl rfl hi d_M_isBelowNamed_74 ?_
  replace h := bd h
  obtain ⟨r1, g1, h⟩ := h
  refine rw_Vv (n := 2) (ci := 4) (As := [.int t0, .int ((M_classOf σ) x2.toNatClampNeg)]) (rest := []) (Wn := fun _ => (wM cI cZ a q r1.2)) C0 hA (c_M_lookAt l D cI cZ a q σ t0 ((M_classOf σ) x2.toNatClampNeg) g1) wd_371 ⟨wd_372, wd_373, wd_374, wd_352⟩ (by decide +kernel) ⟨Nat.le_of_ble_eq_true rfl, Nat.le_of_ble_eq_true rfl⟩ hP hD hS [0, 1, 2, 3, 4, 5, 6, 7, 8, 9, 10, 11, 12, 13, 14, 15, 16, 17, 18, 19, 20, 21, 22, 23] [] [0, 1, 2, 3, 4, 5, 6, 7, 8, 9, 10, 11, 12, 13, 14, 15, 16, 17, 18, 19, 20, 21, 22, 23] jn_M__C (by decide) jn_M__R (by decide) (by decide) (by decide) jn_M__W rfl rfl rfl hl rfl rfl (Nat.le_of_ble_eq_true rfl) ⟨Nat.zero_le _, Nat.zero_le _⟩ d_M_isBelowNamed_75 (fun H locs _ hP hD hS => ?_)
  try dsimp only at h
  refine lv_aload_n hx hb d_M_isBelowNamed_78 rfl (lv_at hl 1 rfl) ?_
  refine va_get (ci := 4) (v := .int (M_found r1.2)) (C := R_M) (T := F_M) (N := 35) hx hb hts i_M hown hK.1 hP 0 rfl rfl 19 (by decide) (hts _ wd_345) (fun _ h9 => h9) rfl d_M_isBelowNamed_79 ?_
  refine lv_if_eq (tgt := 162) hx hb d_M_isBelowNamed_82 (by decide) (fun hc => ?_) (fun hc => ?_)
  · rw [if_pos hc] at h
    refine lv_iconst (v := 0) hx hb d_M_isBelowNamed_162 (by decide) ?_
    refine lv_istore_n (lv' := [(3, .int 0), (6, .int t0), (0, .ref (a 20)), (1, .int x1), (2, .int x2), (4, .int x4), (5, .int x5)]) hx hb d_M_isBelowNamed_163 rfl hl (by decide) rfl (fun ls hl => ?_)
    refine lv_iinc (v := (x5 + 1)) (lv' := [(5, .int (x5 + 1)), (3, .int 0), (6, .int t0), (0, .ref (a 20)), (1, .int x1), (2, .int x2), (4, .int x4)]) hx hb d_M_isBelowNamed_164 hl (k := 6) rfl rfl (by decide) rfl (fun ls hl => ?_)
    refine lv_goto (tgt := 27) hx hb d_M_isBelowNamed_167 (by decide) ?_
    exact hk27 _ _ _ _ _ _ _ _ _ _ h hP hD hS (lv_sub hl [3, 4, 5, 1, 6, 0] rfl)
  · rw [if_neg hc] at h
    refine lv_aload_n hx hb d_M_isBelowNamed_85 rfl (lv_at hl 1 rfl) ?_
    refine va_get (ci := 4) (v := .ref (a 29)) (C := R_M) (T := F_M) (N := 35) hx hb hts i_M hown hK.1 hP 0 rfl rfl 13 (by decide) (hts _ wd_357) (fun _ h9 => h9) rfl d_M_isBelowNamed_86 ?_
    refine lv_iload_n hx hb d_M_isBelowNamed_89 rfl (lv_at hl 3 rfl) ?_
    replace h := gd h
    obtain ⟨hi, h⟩ := h
    refine va_iald hx hb hK.1 hP 9 0 rfl rfl hi d_M_isBelowNamed_90 ?_
    refine lv_if_eq (tgt := 158) hx hb d_M_isBelowNamed_91 (by decide) (fun hc => ?_) (fun hc => ?_)
    · rw [if_pos hc] at h
      exact t_M_isBelowNamed_158 (a := a) C0 hA hk27 h hP hD hS (lv_sub hl [1, 2, 3, 4, 5] rfl)
    · rw [if_neg hc] at h
      refine lv_aload_n hx hb d_M_isBelowNamed_94 rfl (lv_at hl 1 rfl) ?_
      refine va_get (ci := 4) (v := .ref (a 29)) (C := R_M) (T := F_M) (N := 35) hx hb hts i_M hown hK.1 hP 0 rfl rfl 13 (by decide) (hts _ wd_357) (fun _ h9 => h9) rfl d_M_isBelowNamed_95 ?_
      refine lv_iload_n hx hb d_M_isBelowNamed_98 rfl (lv_at hl 3 rfl) ?_
      replace h := gd h
      obtain ⟨hi, h⟩ := h
      refine va_iald hx hb hK.1 hP 9 0 rfl rfl hi d_M_isBelowNamed_99 ?_
      refine lv_iconst (v := 1) hx hb d_M_isBelowNamed_100 (by decide) ?_
      refine lv_icmp_ne (tgt := 125) hx hb d_M_isBelowNamed_101 (by decide) (fun hc => ?_) (fun hc => ?_)
      · rw [if_neg hc] at h
        exact t_M_isBelowNamed_125 (a := a) C0 hA hk27 h hP hD hS (lv_sub hl [1, 2, 3, 4, 5] rfl)
      · rw [if_pos hc] at h
        refine lv_aload_n hx hb d_M_isBelowNamed_104 rfl (lv_at hl 1 rfl) ?_
        refine va_get (ci := 4) (v := .int (M_foundHow r1.2)) (C := R_M) (T := F_M) (N := 35) hx hb hts i_M hown hK.1 hP 0 rfl rfl 20 (by decide) (hts _ wd_346) (fun _ h9 => h9) rfl d_M_isBelowNamed_105 ?_
        refine lv_iconst (v := 1) hx hb d_M_isBelowNamed_108 (by decide) ?_
        refine lv_icmp_ne (tgt := 125) hx hb d_M_isBelowNamed_109 (by decide) (fun hc => ?_) (fun hc => ?_)
        · rw [if_neg hc] at h
          exact t_M_isBelowNamed_125 (a := a) C0 hA hk27 h hP hD hS (lv_sub hl [1, 2, 3, 4, 5] rfl)
        · rw [if_pos hc] at h
          refine lv_aload_n hx hb d_M_isBelowNamed_112 rfl (lv_at hl 1 rfl) ?_
          refine va_get (ci := 4) (v := .int (M_foundType r1.2)) (C := R_M) (T := F_M) (N := 35) hx hb hts i_M hown hK.1 hP 0 rfl rfl 21 (by decide) (hts _ wd_347) (fun _ h9 => h9) rfl d_M_isBelowNamed_113 ?_
          refine lv_aload_n hx hb d_M_isBelowNamed_116 rfl (lv_at hl 1 rfl) ?_
          refine va_get (ci := 4) (v := .ref (a 30)) (C := R_M) (T := F_M) (N := 35) hx hb hts i_M hown hK.1 hP 0 rfl rfl 14 (by decide) (hts _ wd_358) (fun _ h9 => h9) rfl d_M_isBelowNamed_117 ?_
          refine lv_iload_n hx hb d_M_isBelowNamed_120 rfl (lv_at hl 3 rfl) ?_
          replace h := gd h
          obtain ⟨hi, h⟩ := h
          refine va_iald hx hb hK.1 hP 10 0 rfl rfl hi d_M_isBelowNamed_121 ?_
          refine lv_icmp_eq (tgt := 158) hx hb d_M_isBelowNamed_122 (by decide) (fun hc => ?_) (fun hc => ?_)
          · rw [if_pos hc] at h
            exact t_M_isBelowNamed_158 (a := a) C0 hA hk27 h hP hD hS (lv_sub hl [1, 2, 3, 4, 5] rfl)
          · rw [if_neg hc] at h
            exact t_M_isBelowNamed_125 (a := a) C0 hA hk27 h hP hD hS (lv_sub hl [1, 2, 3, 4, 5] rfl)
set_option maxHeartbeats 4000000 in
set_option maxRecDepth 100000 in
theorem t_M_isBelowNamed_27_s {p : Program} {l : Launch} {e : Env} {s : State} {m : MethodId} {args : Array Value} {below : List Frame} {meth : Method} {c : Code} {D : va_G} {cI cZ : ClassId} {a : Nat → Nat} {A : Nat → Prop} (C0 : Am p s m args meth c b_M_isBelowNamed (some .boolean) 7 R_M D [(cI, .int), (cZ, .boolean)]) (hA : ∀ q, s.heap.size ≤ q → A q) {res : Int32 × StM} {k27 : StM → Int32 → Int32 → Int32 → Int32 → Int32 → Option (Int32 × StM)}  (hk27 : ∀ (q : Nat) (σ : StM) (x1 x2 x3 x4 x5 : Int32) (H : Heap) (locs : List Loc) (ls : Array Slot), k27 σ x1 x2 x3 x4 x5 = some res → va_P D vwCl (wM cI cZ a q σ) H → va_D A (wM cI cZ a q σ) → va_S A s.heap H locs → lv_has ls 7 [(0, .ref (a 20)), (1, .int x1), (2, .int x2), (3, .int x3), (4, .int x4), (5, .int x5)] → W p l e (rmK 3 74 0 0) s m args below meth c H locs 0 0 (RwQ below args s D A (fun q (σ : StM) => (wM cI cZ a q σ)) res 0 0) (F0 m 27 ls [])) {q : Nat} {σ : StM} {x1 x2 x3 x4 x5 : Int32} (h : f_M_isBelowNamed_27_s k27 σ x1 x2 x3 x4 x5 = some res) {H : Heap} {locs : List Loc} (hP : va_P D vwCl (wM cI cZ a q σ) H) (hD : va_D A (wM cI cZ a q σ)) (hS : va_S A s.heap H locs) {ls : Array Slot} (hl : lv_has ls 7 [(0, .ref (a 20)), (1, .int x1), (2, .int x2), (3, .int x3), (4, .int x4), (5, .int x5)]) : W p l e (rmK 3 74 0 0) s m args below meth c H locs 0 0 (RwQ below args s D A (fun q (σ : StM) => (wM cI cZ a q σ)) res 0 0) (F0 m 27 ls []) := by
  obtain ⟨hx, hb, hr, hml, hown, hts, hlk, hK⟩ := id C0
  unfold f_M_isBelowNamed_27_s at h
  refine lv_iload hx hb d_M_isBelowNamed_27 (lv_at hl 5 rfl) ?_
  refine lv_iload hx hb d_M_isBelowNamed_29 (lv_at hl 4 rfl) ?_
  refine lv_icmp_ge (tgt := 170) hx hb d_M_isBelowNamed_31 (by decide) (fun hc => ?_) (fun hc => ?_)
  · rw [if_pos hc] at h
    refine lv_iload_n hx hb d_M_isBelowNamed_170 rfl (lv_at hl 3 rfl) ?_
    exact rw_retz C0 hP hD hS rfl (Option.some.inj h) d_M_isBelowNamed_171
  · rw [if_neg hc] at h
    refine lv_iload_n hx hb d_M_isBelowNamed_34 rfl (lv_at hl 3 rfl) ?_
    refine lv_if_ne (tgt := 170) hx hb d_M_isBelowNamed_35 (by decide) (fun hc => ?_) (fun hc => ?_)
    · rw [if_neg hc] at h
      refine lv_iload_n hx hb d_M_isBelowNamed_170 rfl (lv_at hl 3 rfl) ?_
      exact rw_retz C0 hP hD hS rfl (Option.some.inj h) d_M_isBelowNamed_171
    · rw [if_pos hc] at h
      refine lv_aload_n hx hb d_M_isBelowNamed_38 rfl (lv_at hl 0 rfl) ?_
      refine va_get (ci := 4) (v := .ref (a 27)) (C := R_M) (T := F_M) (N := 35) hx hb hts i_M hown hK.1 hP 0 rfl rfl 11 (by decide) (hts _ wd_353) (fun _ h9 => h9) rfl d_M_isBelowNamed_39 ?_
      refine lv_iload_n hx hb d_M_isBelowNamed_42 rfl (lv_at hl 1 rfl) ?_
      replace h := gd h
      obtain ⟨hi, h⟩ := h
      refine va_iald hx hb hK.1 hP 7 0 rfl rfl hi d_M_isBelowNamed_43 ?_
      refine lv_iconst (v := 3) hx hb d_M_isBelowNamed_44 (by decide) ?_
      refine lv_icmp_ne (tgt := 63) hx hb d_M_isBelowNamed_45 (by decide) (fun hc => ?_) (fun hc => ?_)
      · rw [if_neg hc] at h
        refine lv_iload_n hx hb d_M_isBelowNamed_63 rfl (lv_at hl 1 rfl) ?_
        exact t_M_isBelowNamed_64 (a := a) C0 hA hk27 h hP hD hS (lv_sub hl [0, 1, 2, 4, 5] rfl)
      · rw [if_pos hc] at h
        refine lv_aload_n hx hb d_M_isBelowNamed_48 rfl (lv_at hl 0 rfl) ?_
        refine va_get (ci := 4) (v := .ref (a 33)) (C := R_M) (T := F_M) (N := 35) hx hb hts i_M hown hK.1 hP 0 rfl rfl 17 (by decide) (hts _ wd_355) (fun _ h9 => h9) rfl d_M_isBelowNamed_49 ?_
        refine lv_bipush (v := 30) hx hb d_M_isBelowNamed_52 (by decide) ?_
        refine lv_iload_n hx hb d_M_isBelowNamed_54 rfl (lv_at hl 1 rfl) ?_
        refine lv_imul hx hb d_M_isBelowNamed_55 ?_
        refine lv_iload hx hb d_M_isBelowNamed_56 (lv_at hl 5 rfl) ?_
        refine lv_iadd hx hb d_M_isBelowNamed_58 ?_
        replace h := gd h
        obtain ⟨hi, h⟩ := h
        refine va_iald hx hb hK.1 hP 13 0 rfl rfl hi d_M_isBelowNamed_59 ?_
        refine lv_goto (tgt := 64) hx hb d_M_isBelowNamed_60 (by decide) ?_
        exact t_M_isBelowNamed_64 (a := a) C0 hA hk27 h hP hD hS (lv_sub hl [0, 1, 2, 4, 5] rfl)
set_option maxHeartbeats 4000000 in
set_option maxRecDepth 100000 in
theorem t_M_isBelowNamed_27 {p : Program} {l : Launch} {e : Env} {s : State} {m : MethodId} {args : Array Value} {below : List Frame} {meth : Method} {c : Code} {D : va_G} {cI cZ : ClassId} {a : Nat → Nat} {A : Nat → Prop} (C0 : Am p s m args meth c b_M_isBelowNamed (some .boolean) 7 R_M D [(cI, .int), (cZ, .boolean)]) (hA : ∀ q, s.heap.size ≤ q → A q) {res : Int32 × StM}  {n : Nat} {q : Nat} {σ : StM} {x1 x2 x3 x4 x5 : Int32} (h : f_M_isBelowNamed_27  n σ x1 x2 x3 x4 x5 = some res) {H : Heap} {locs : List Loc} (hP : va_P D vwCl (wM cI cZ a q σ) H) (hD : va_D A (wM cI cZ a q σ)) (hS : va_S A s.heap H locs) {ls : Array Slot} (hl : lv_has ls 7 [(0, .ref (a 20)), (1, .int x1), (2, .int x2), (3, .int x3), (4, .int x4), (5, .int x5)]) : W p l e (rmK 3 74 0 0) s m args below meth c H locs 0 0 (RwQ below args s D A (fun q (σ : StM) => (wM cI cZ a q σ)) res 0 0) (F0 m 27 ls []) := by
  induction n generalizing q σ x1 x2 x3 x4 x5 H locs ls with
  | zero => cases h
  | succ n ih => exact t_M_isBelowNamed_27_s (a := a) C0 hA  (fun _ _ _ _ _ _ _ _ _ _ h hP hD hS hl => ih h hP hD hS hl) h hP hD hS hl
set_option maxHeartbeats 4000000 in
set_option maxRecDepth 100000 in
theorem t_M_isBelowNamed_0 {p : Program} {l : Launch} {e : Env} {s : State} {m : MethodId} {args : Array Value} {below : List Frame} {meth : Method} {c : Code} {D : va_G} {cI cZ : ClassId} {a : Nat → Nat} {A : Nat → Prop} (C0 : Am p s m args meth c b_M_isBelowNamed (some .boolean) 7 R_M D [(cI, .int), (cZ, .boolean)]) (hA : ∀ q, s.heap.size ≤ q → A q) {res : Int32 × StM}   {q : Nat} {σ : StM} {x1 x2 : Int32} (h : f_M_isBelowNamed σ x1 x2 = some res) {H : Heap} {locs : List Loc} (hP : va_P D vwCl (wM cI cZ a q σ) H) (hD : va_D A (wM cI cZ a q σ)) (hS : va_S A s.heap H locs) {ls : Array Slot} (hl : lv_has ls 7 [(0, .ref (a 20)), (1, .int x1), (2, .int x2)]) : W p l e (rmK 3 74 0 0) s m args below meth c H locs 0 0 (RwQ below args s D A (fun q (σ : StM) => (wM cI cZ a q σ)) res 0 0) (F0 m 0 ls []) := by
  obtain ⟨hx, hb, hr, hml, hown, hts, hlk, hK⟩ := id C0
  unfold f_M_isBelowNamed at h
  refine lv_iconst (v := 0) hx hb d_M_isBelowNamed_0 (by decide) ?_
  refine lv_istore_n (lv' := [(3, .int 0), (0, .ref (a 20)), (1, .int x1), (2, .int x2)]) hx hb d_M_isBelowNamed_1 rfl hl (by decide) rfl (fun ls hl => ?_)
  refine lv_aload_n hx hb d_M_isBelowNamed_2 rfl (lv_at hl 1 rfl) ?_
  refine va_get (ci := 4) (v := .ref (a 27)) (C := R_M) (T := F_M) (N := 35) hx hb hts i_M hown hK.1 hP 0 rfl rfl 11 (by decide) (hts _ wd_353) (fun _ h9 => h9) rfl d_M_isBelowNamed_3 ?_
  refine lv_iload_n hx hb d_M_isBelowNamed_6 rfl (lv_at hl 2 rfl) ?_
  replace h := gd h
  obtain ⟨hi, h⟩ := h
  refine va_iald hx hb hK.1 hP 7 0 rfl rfl hi d_M_isBelowNamed_7 ?_
  refine lv_iconst (v := 3) hx hb d_M_isBelowNamed_8 (by decide) ?_
  refine lv_icmp_ne (tgt := 21) hx hb d_M_isBelowNamed_9 (by decide) (fun hc => ?_) (fun hc => ?_)
  · rw [if_neg hc] at h
    refine lv_iconst (v := 1) hx hb d_M_isBelowNamed_21 (by decide) ?_
    refine lv_istore (lv' := [(4, .int 1), (3, .int 0), (0, .ref (a 20)), (1, .int x1), (2, .int x2)]) hx hb d_M_isBelowNamed_22 hl (by decide) rfl (fun ls hl => ?_)
    refine lv_iconst (v := 0) hx hb d_M_isBelowNamed_24 (by decide) ?_
    refine lv_istore (lv' := [(5, .int 0), (4, .int 1), (3, .int 0), (0, .ref (a 20)), (1, .int x1), (2, .int x2)]) hx hb d_M_isBelowNamed_25 hl (by decide) rfl (fun ls hl => ?_)
    exact t_M_isBelowNamed_27 (a := a) C0 hA  h hP hD hS (lv_sub hl [3, 4, 5, 2, 1, 0] rfl)
  · rw [if_pos hc] at h
    refine lv_aload_n hx hb d_M_isBelowNamed_12 rfl (lv_at hl 1 rfl) ?_
    refine va_get (ci := 4) (v := .ref (a 32)) (C := R_M) (T := F_M) (N := 35) hx hb hts i_M hown hK.1 hP 0 rfl rfl 16 (by decide) (hts _ wd_354) (fun _ h9 => h9) rfl d_M_isBelowNamed_13 ?_
    refine lv_iload_n hx hb d_M_isBelowNamed_16 rfl (lv_at hl 2 rfl) ?_
    replace h := gd h
    obtain ⟨hi, h⟩ := h
    refine va_iald hx hb hK.1 hP 12 0 rfl rfl hi d_M_isBelowNamed_17 ?_
    refine lv_goto (tgt := 22) hx hb d_M_isBelowNamed_18 (by decide) ?_
    refine lv_istore (lv' := [(4, .int ((M_partCount σ) x1.toNatClampNeg)), (3, .int 0), (0, .ref (a 20)), (1, .int x1), (2, .int x2)]) hx hb d_M_isBelowNamed_22 hl (by decide) rfl (fun ls hl => ?_)
    refine lv_iconst (v := 0) hx hb d_M_isBelowNamed_24 (by decide) ?_
    refine lv_istore (lv' := [(5, .int 0), (4, .int ((M_partCount σ) x1.toNatClampNeg)), (3, .int 0), (0, .ref (a 20)), (1, .int x1), (2, .int x2)]) hx hb d_M_isBelowNamed_25 hl (by decide) rfl (fun ls hl => ?_)
    exact t_M_isBelowNamed_27 (a := a) C0 hA  h hP hD hS (lv_sub hl [3, 4, 5, 2, 1, 0] rfl)
set_option maxHeartbeats 4000000 in
set_option maxRecDepth 100000 in
theorem c_M_isBelowNamed (l : Launch) (D : va_G) (cI cZ : ClassId) (a : Nat → Nat) (q : Nat) (σ : StM) (x1 : Int32) (x2 : Int32) {res : Int32 × StM} (h : f_M_isBelowNamed σ x1 x2 = some res) : RwM l y_M_isBelowNamed b_M_isBelowNamed 7 (some .boolean) 3 74 D [(cI, .int), (cZ, .boolean)] [.ref (a 20), .int x1, .int x2] (fun q (σ : StM) => (wM cI cZ a q σ)) q σ res :=
  rw_of (by decide) (Nat.le_of_ble_eq_true rfl) (fun p e s m args below meth c ls A C0 hA hP hD hS hl => t_M_isBelowNamed_0 (a := a) C0 hA h hP hD hS (lv_sub hl [0, 1, 2] rfl))
-- part 07.6M.15M_isBelowArray.lean.txt
def f_M_isBelowArray (σ : StM) (x1 x2 : Int32) : Option Int32 :=
  if x1 < 0 ∨ 300 ≤ x1.toNatClampNeg then none else
  if ((M_kind σ) x1.toNatClampNeg) = 2 then
    if x1 < 0 ∨ 300 ≤ x1.toNatClampNeg then none else
    if ((M_inner σ) x1.toNatClampNeg) ≤ 7 then
      some 0
    else
      if x2 < 0 ∨ 300 ≤ x2.toNatClampNeg then none else
      if ((M_inner σ) x2.toNatClampNeg) ≤ 7 then
        some 0
      else
        if x1 < 0 ∨ 300 ≤ x1.toNatClampNeg then none else
        if x2 < 0 ∨ 300 ≤ x2.toNatClampNeg then none else
        if ((300 * ((M_inner σ) x1.toNatClampNeg)) + ((M_inner σ) x2.toNatClampNeg)) < 0 ∨ 90000 ≤ ((300 * ((M_inner σ) x1.toNatClampNeg)) + ((M_inner σ) x2.toNatClampNeg)).toNatClampNeg then none else
        if ((M_below σ) ((300 * ((M_inner σ) x1.toNatClampNeg)) + ((M_inner σ) x2.toNatClampNeg)).toNatClampNeg) = 0 then
          some 0
        else
          some 1
  else
    some 0
set_option maxHeartbeats 4000000 in
set_option maxRecDepth 100000 in
theorem t_M_isBelowArray_0 {p : Program} {l : Launch} {e : Env} {s : State} {m : MethodId} {args : Array Value} {below : List Frame} {meth : Method} {c : Code} {D : va_G} {cI cZ : ClassId} {a : Nat → Nat} {q : Nat} {σ : StM} (C0 : Am p s m args meth c b_M_isBelowArray (some .boolean) 3 R_M D [(cI, .int), (cZ, .boolean)]) (hP : va_P D vwCl (wM cI cZ a q σ) s.heap) {val : Int32}   {x1 x2 : Int32} (h : f_M_isBelowArray σ x1 x2 = some val) {ls : Array Slot} (hl : lv_has ls 3 [(0, .ref (a 20)), (1, .int x1), (2, .int x2)]) : RoW p l e (rmK 0 0 0 0) s m args below meth c val (F0 m 0 ls []) := by
  obtain ⟨hx, hb, hr, hml, hown, hts, hlk, hK⟩ := id C0
  unfold f_M_isBelowArray at h
  refine lv_aload_n hx hb d_M_isBelowArray_0 rfl (lv_at hl 0 rfl) ?_
  refine va_get (ci := 4) (v := .ref (a 27)) (C := R_M) (T := F_M) (N := 35) hx hb hts i_M hown hK.1 hP 0 rfl rfl 11 (by decide) (hts _ wd_353) (fun _ h9 => h9) rfl d_M_isBelowArray_1 ?_
  refine lv_iload_n hx hb d_M_isBelowArray_4 rfl (lv_at hl 1 rfl) ?_
  replace h := gd h
  obtain ⟨hi, h⟩ := h
  refine va_iald hx hb hK.1 hP 7 0 rfl rfl hi d_M_isBelowArray_5 ?_
  refine lv_iconst (v := 2) hx hb d_M_isBelowArray_6 (by decide) ?_
  refine lv_icmp_ne (tgt := 61) hx hb d_M_isBelowArray_7 (by decide) (fun hc => ?_) (fun hc => ?_)
  · rw [if_neg hc] at h
    refine lv_iconst (v := 0) hx hb d_M_isBelowArray_61 (by decide) ?_
    exact ro_retz C0 (by decide) (Option.some.inj h) d_M_isBelowArray_62
  · rw [if_pos hc] at h
    refine lv_aload_n hx hb d_M_isBelowArray_10 rfl (lv_at hl 0 rfl) ?_
    refine va_get (ci := 4) (v := .ref (a 30)) (C := R_M) (T := F_M) (N := 35) hx hb hts i_M hown hK.1 hP 0 rfl rfl 14 (by decide) (hts _ wd_358) (fun _ h9 => h9) rfl d_M_isBelowArray_11 ?_
    refine lv_iload_n hx hb d_M_isBelowArray_14 rfl (lv_at hl 1 rfl) ?_
    replace h := gd h
    obtain ⟨hi, h⟩ := h
    refine va_iald hx hb hK.1 hP 10 0 rfl rfl hi d_M_isBelowArray_15 ?_
    refine lv_bipush (v := 7) hx hb d_M_isBelowArray_16 (by decide) ?_
    refine lv_icmp_le (tgt := 61) hx hb d_M_isBelowArray_18 (by decide) (fun hc => ?_) (fun hc => ?_)
    · rw [if_pos hc] at h
      refine lv_iconst (v := 0) hx hb d_M_isBelowArray_61 (by decide) ?_
      exact ro_retz C0 (by decide) (Option.some.inj h) d_M_isBelowArray_62
    · rw [if_neg hc] at h
      refine lv_aload_n hx hb d_M_isBelowArray_21 rfl (lv_at hl 0 rfl) ?_
      refine va_get (ci := 4) (v := .ref (a 30)) (C := R_M) (T := F_M) (N := 35) hx hb hts i_M hown hK.1 hP 0 rfl rfl 14 (by decide) (hts _ wd_358) (fun _ h9 => h9) rfl d_M_isBelowArray_22 ?_
      refine lv_iload_n hx hb d_M_isBelowArray_25 rfl (lv_at hl 2 rfl) ?_
      replace h := gd h
      obtain ⟨hi, h⟩ := h
      refine va_iald hx hb hK.1 hP 10 0 rfl rfl hi d_M_isBelowArray_26 ?_
      refine lv_bipush (v := 7) hx hb d_M_isBelowArray_27 (by decide) ?_
      refine lv_icmp_le (tgt := 61) hx hb d_M_isBelowArray_29 (by decide) (fun hc => ?_) (fun hc => ?_)
      · rw [if_pos hc] at h
        refine lv_iconst (v := 0) hx hb d_M_isBelowArray_61 (by decide) ?_
        exact ro_retz C0 (by decide) (Option.some.inj h) d_M_isBelowArray_62
      · rw [if_neg hc] at h
        refine lv_aload_n hx hb d_M_isBelowArray_32 rfl (lv_at hl 0 rfl) ?_
        refine va_get (ci := 4) (v := .ref (a 35)) (C := R_M) (T := F_M) (N := 35) hx hb hts i_M hown hK.1 hP 0 rfl rfl 23 (by decide) (hts _ wd_370) (fun _ h9 => h9) rfl d_M_isBelowArray_33 ?_
        refine lv_sipush (v := 300) hx hb d_M_isBelowArray_36 (by decide) ?_
        refine lv_aload_n hx hb d_M_isBelowArray_39 rfl (lv_at hl 0 rfl) ?_
        refine va_get (ci := 4) (v := .ref (a 30)) (C := R_M) (T := F_M) (N := 35) hx hb hts i_M hown hK.1 hP 0 rfl rfl 14 (by decide) (hts _ wd_358) (fun _ h9 => h9) rfl d_M_isBelowArray_40 ?_
        refine lv_iload_n hx hb d_M_isBelowArray_43 rfl (lv_at hl 1 rfl) ?_
        replace h := gd h
        obtain ⟨hi, h⟩ := h
        refine va_iald hx hb hK.1 hP 10 0 rfl rfl hi d_M_isBelowArray_44 ?_
        refine lv_imul hx hb d_M_isBelowArray_45 ?_
        refine lv_aload_n hx hb d_M_isBelowArray_46 rfl (lv_at hl 0 rfl) ?_
        refine va_get (ci := 4) (v := .ref (a 30)) (C := R_M) (T := F_M) (N := 35) hx hb hts i_M hown hK.1 hP 0 rfl rfl 14 (by decide) (hts _ wd_358) (fun _ h9 => h9) rfl d_M_isBelowArray_47 ?_
        refine lv_iload_n hx hb d_M_isBelowArray_50 rfl (lv_at hl 2 rfl) ?_
        replace h := gd h
        obtain ⟨hi, h⟩ := h
        refine va_iald hx hb hK.1 hP 10 0 rfl rfl hi d_M_isBelowArray_51 ?_
        refine lv_iadd hx hb d_M_isBelowArray_52 ?_
        replace h := gd h
        obtain ⟨hi, h⟩ := h
        refine va_zald hx hb hK.1 hP 15 1 rfl rfl hi d_M_isBelowArray_53 ?_
        refine lv_if_eq (tgt := 61) hx hb d_M_isBelowArray_54 (by decide) (fun hc => ?_) (fun hc => ?_)
        · rw [if_pos hc] at h
          refine lv_iconst (v := 0) hx hb d_M_isBelowArray_61 (by decide) ?_
          exact ro_retz C0 (by decide) (Option.some.inj h) d_M_isBelowArray_62
        · rw [if_neg hc] at h
          refine lv_iconst (v := 1) hx hb d_M_isBelowArray_57 (by decide) ?_
          refine lv_goto (tgt := 62) hx hb d_M_isBelowArray_58 (by decide) ?_
          exact ro_retz C0 (by decide) (Option.some.inj h) d_M_isBelowArray_62
set_option maxHeartbeats 4000000 in
set_option maxRecDepth 100000 in
theorem c_M_isBelowArray (l : Launch) (D : va_G) (cI cZ : ClassId) (a : Nat → Nat) (q : Nat) (σ : StM) (x1 : Int32) (x2 : Int32) {val : Int32} (h : f_M_isBelowArray σ x1 x2 = some val) : RoM l y_M_isBelowArray b_M_isBelowArray 3 (some .boolean) 0 0 D [(cI, .int), (cZ, .boolean)] [.ref (a 20), .int x1, .int x2] (wM cI cZ a q σ) val :=
  ro_of (by decide) (Nat.le_of_ble_eq_true rfl) (fun p e s m args below meth c ls C0 hP hl => t_M_isBelowArray_0 (a := a) C0 hP h (lv_sub hl [0, 1, 2] rfl))
-- part 07.6M.16M_reckonBelow.lean.txt
def f_M_reckonBelow_113 (k22 : StM → Int32 → Option (Int32 × StM)) (k32 : StM → Int32 → Int32 → Option (Int32 × StM)) (σ : StM) (x1 x2 t1 : Int32) : Option (Int32 × StM) :=
  if t1 < 0 ∨ 90000 ≤ t1.toNatClampNeg then none else
  k32 (M_put_below σ t1 (vp_nar .boolean 1)) x1 (x2 + 1)
def f_M_reckonBelow_94 (k22 : StM → Int32 → Option (Int32 × StM)) (k32 : StM → Int32 → Int32 → Option (Int32 × StM)) (σ : StM) (x1 x2 t1 : Int32) : Option (Int32 × StM) :=
  if x1 < 0 ∨ 300 ≤ x1.toNatClampNeg then none else
  if ((M_kind σ) x1.toNatClampNeg) = 2 then
    (f_M_isBelowArray σ x2 x1).bind fun r1 =>
    if r1 = 0 then
      if t1 < 0 ∨ 90000 ≤ t1.toNatClampNeg then none else
      k32 (M_put_below σ t1 (vp_nar .boolean 0)) x1 (x2 + 1)
    else
      f_M_reckonBelow_113 k22 k32 σ x1 x2 t1
  else
    if t1 < 0 ∨ 90000 ≤ t1.toNatClampNeg then none else
    k32 (M_put_below σ t1 (vp_nar .boolean 0)) x1 (x2 + 1)
def f_M_reckonBelow_75 (k22 : StM → Int32 → Option (Int32 × StM)) (k32 : StM → Int32 → Int32 → Option (Int32 × StM)) (σ : StM) (x1 x2 t1 : Int32) : Option (Int32 × StM) :=
  if x1 < 0 ∨ 300 ≤ x1.toNatClampNeg then none else
  if ((M_kind σ) x1.toNatClampNeg) = 1 then
    (f_M_isBelowNamed σ x2 x1).bind fun r2 =>
    if r2.1 = 0 then
      f_M_reckonBelow_94 k22 k32 r2.2 x1 x2 t1
    else
      f_M_reckonBelow_113 k22 k32 r2.2 x1 x2 t1
  else
    f_M_reckonBelow_94 k22 k32 σ x1 x2 t1
def f_M_reckonBelow_32_s (k22 : StM → Int32 → Option (Int32 × StM)) (k32 : StM → Int32 → Int32 → Option (Int32 × StM)) (σ : StM) (x1 x2 : Int32) : Option (Int32 × StM) :=
  if (M_types σ) ≤ x2 then
    k22 σ (x1 + 1)
  else
    if x2 = x1 then
      f_M_reckonBelow_113 k22 k32 σ x1 x2 ((300 * x2) + x1)
    else
      if x1 < 0 ∨ 300 ≤ x1.toNatClampNeg then none else
      if ((M_kind σ) x1.toNatClampNeg) = 3 then
        (f_M_isBelowAll σ x2 x1).bind fun r3 =>
        if r3 = 0 then
          f_M_reckonBelow_75 k22 k32 σ x1 x2 ((300 * x2) + x1)
        else
          f_M_reckonBelow_113 k22 k32 σ x1 x2 ((300 * x2) + x1)
      else
        f_M_reckonBelow_75 k22 k32 σ x1 x2 ((300 * x2) + x1)
def f_M_reckonBelow_32 (k22 : StM → Int32 → Option (Int32 × StM)) : Nat → StM → Int32 → Int32 → Option (Int32 × StM)
  | 0, _, _, _ => none
  | n + 1, σ, x1, x2 => f_M_reckonBelow_32_s k22 (f_M_reckonBelow_32 k22 n) σ x1 x2
def f_M_reckonBelow_22_s (k22 : StM → Int32 → Option (Int32 × StM)) (σ : StM) (x1 : Int32) : Option (Int32 × StM) :=
  if (M_types σ) ≤ x1 then
    some (0, σ)
  else
    f_M_reckonBelow_32 k22 1000 σ x1 0
def f_M_reckonBelow_22 : Nat → StM → Int32 → Option (Int32 × StM)
  | 0, _, _ => none
  | n + 1, σ, x1 => f_M_reckonBelow_22_s (f_M_reckonBelow_22 n) σ x1
def f_M_reckonBelow (σ : StM) : Option (Int32 × StM) :=
  if (M_reckoned σ) = (M_types σ) then
    some (0, σ)
  else
    f_M_reckonBelow_22 1000 (M_set_reckoned σ (M_types σ)) 0
set_option maxHeartbeats 4000000 in
set_option maxRecDepth 100000 in
theorem t_M_reckonBelow_113 {p : Program} {l : Launch} {e : Env} {s : State} {m : MethodId} {args : Array Value} {below : List Frame} {meth : Method} {c : Code} {D : va_G} {cI cZ : ClassId} {a : Nat → Nat} {A : Nat → Prop} (C0 : Am p s m args meth c b_M_reckonBelow none 3 R_M D [(cI, .int), (cZ, .boolean)]) (hA : ∀ q, s.heap.size ≤ q → A q) {res : Int32 × StM} {k22 : StM → Int32 → Option (Int32 × StM)} {k32 : StM → Int32 → Int32 → Option (Int32 × StM)} (hk22 : ∀ (q : Nat) (σ : StM) (x1 : Int32) (H : Heap) (locs : List Loc) (ls : Array Slot), k22 σ x1 = some res → va_P D vwCl (wM cI cZ a q σ) H → va_D A (wM cI cZ a q σ) → va_S A s.heap H locs → lv_has ls 3 [(0, .ref (a 20)), (1, .int x1)] → W p l e (rmK 4 100 0 0) s m args below meth c H locs 0 0 (RwQv below args s D A (fun q (σ : StM) => (wM cI cZ a q σ)) res 0 0) (F0 m 22 ls [])) (hk32 : ∀ (q : Nat) (σ : StM) (x1 x2 : Int32) (H : Heap) (locs : List Loc) (ls : Array Slot), k32 σ x1 x2 = some res → va_P D vwCl (wM cI cZ a q σ) H → va_D A (wM cI cZ a q σ) → va_S A s.heap H locs → lv_has ls 3 [(0, .ref (a 20)), (1, .int x1), (2, .int x2)] → W p l e (rmK 4 100 0 0) s m args below meth c H locs 0 0 (RwQv below args s D A (fun q (σ : StM) => (wM cI cZ a q σ)) res 0 0) (F0 m 32 ls []))  {q : Nat} {σ : StM} {x1 x2 t1 : Int32} (h : f_M_reckonBelow_113 k22 k32 σ x1 x2 t1 = some res) {H : Heap} {locs : List Loc} (hP : va_P D vwCl (wM cI cZ a q σ) H) (hD : va_D A (wM cI cZ a q σ)) (hS : va_S A s.heap H locs) {ls : Array Slot} (hl : lv_has ls 3 [(0, .ref (a 20)), (1, .int x1), (2, .int x2)]) : W p l e (rmK 4 100 0 0) s m args below meth c H locs 0 0 (RwQv below args s D A (fun q (σ : StM) => (wM cI cZ a q σ)) res 0 0) (F0 m 113 ls [.int t1, .ref (a 35)]) := by
  obtain ⟨hx, hb, hr, hml, hown, hts, hlk, hK⟩ := id C0
  unfold f_M_reckonBelow_113 at h
  refine lv_iconst (v := 1) hx hb d_M_reckonBelow_113 (by decide) ?_
  refine lv_goto (tgt := 118) hx hb d_M_reckonBelow_114 (by decide) ?_
  replace h := gd h
  obtain ⟨hi, h⟩ := h
  refine rw_zast C0 hP hD hS 15 1 rfl rfl hi d_M_reckonBelow_118 (Wn := (wM cI cZ a q (M_put_below σ t1 (vp_nar .boolean 1)))) ws_M_put_below (fun H locs hP hD hS => ?_)
  refine lv_iinc (v := (x2 + 1)) (lv' := [(2, .int (x2 + 1)), (0, .ref (a 20)), (1, .int x1)]) hx hb d_M_reckonBelow_119 hl (k := 2) rfl rfl (by decide) rfl (fun ls hl => ?_)
  refine lv_goto (tgt := 32) hx hb d_M_reckonBelow_122 (by decide) ?_
  exact hk32 _ _ _ _ _ _ _ h hP hD hS (lv_sub hl [1, 2, 0] rfl)
set_option maxHeartbeats 4000000 in
set_option maxRecDepth 100000 in
theorem t_M_reckonBelow_94 {p : Program} {l : Launch} {e : Env} {s : State} {m : MethodId} {args : Array Value} {below : List Frame} {meth : Method} {c : Code} {D : va_G} {cI cZ : ClassId} {a : Nat → Nat} {A : Nat → Prop} (C0 : Am p s m args meth c b_M_reckonBelow none 3 R_M D [(cI, .int), (cZ, .boolean)]) (hA : ∀ q, s.heap.size ≤ q → A q) {res : Int32 × StM} {k22 : StM → Int32 → Option (Int32 × StM)} {k32 : StM → Int32 → Int32 → Option (Int32 × StM)} (hk22 : ∀ (q : Nat) (σ : StM) (x1 : Int32) (H : Heap) (locs : List Loc) (ls : Array Slot), k22 σ x1 = some res → va_P D vwCl (wM cI cZ a q σ) H → va_D A (wM cI cZ a q σ) → va_S A s.heap H locs → lv_has ls 3 [(0, .ref (a 20)), (1, .int x1)] → W p l e (rmK 4 100 0 0) s m args below meth c H locs 0 0 (RwQv below args s D A (fun q (σ : StM) => (wM cI cZ a q σ)) res 0 0) (F0 m 22 ls [])) (hk32 : ∀ (q : Nat) (σ : StM) (x1 x2 : Int32) (H : Heap) (locs : List Loc) (ls : Array Slot), k32 σ x1 x2 = some res → va_P D vwCl (wM cI cZ a q σ) H → va_D A (wM cI cZ a q σ) → va_S A s.heap H locs → lv_has ls 3 [(0, .ref (a 20)), (1, .int x1), (2, .int x2)] → W p l e (rmK 4 100 0 0) s m args below meth c H locs 0 0 (RwQv below args s D A (fun q (σ : StM) => (wM cI cZ a q σ)) res 0 0) (F0 m 32 ls []))  {q : Nat} {σ : StM} {x1 x2 t1 : Int32} (h : f_M_reckonBelow_94 k22 k32 σ x1 x2 t1 = some res) {H : Heap} {locs : List Loc} (hP : va_P D vwCl (wM cI cZ a q σ) H) (hD : va_D A (wM cI cZ a q σ)) (hS : va_S A s.heap H locs) {ls : Array Slot} (hl : lv_has ls 3 [(0, .ref (a 20)), (1, .int x1), (2, .int x2)]) : W p l e (rmK 4 100 0 0) s m args below meth c H locs 0 0 (RwQv below args s D A (fun q (σ : StM) => (wM cI cZ a q σ)) res 0 0) (F0 m 94 ls [.int t1, .ref (a 35)]) := by
  obtain ⟨hx, hb, hr, hml, hown, hts, hlk, hK⟩ := id C0
  unfold f_M_reckonBelow_94 at h
  refine lv_aload_n hx hb d_M_reckonBelow_94 rfl (lv_at hl 0 rfl) ?_
  refine va_get (ci := 4) (v := .ref (a 27)) (C := R_M) (T := F_M) (N := 35) hx hb hts i_M hown hK.1 hP 0 rfl rfl 11 (by decide) (hts _ wd_353) (fun _ h9 => h9) rfl d_M_reckonBelow_95 ?_
  refine lv_iload_n hx hb d_M_reckonBelow_98 rfl (lv_at hl 1 rfl) ?_
  replace h := gd h
  obtain ⟨hi, h⟩ := h
  refine va_iald hx hb hK.1 hP 7 0 rfl rfl hi d_M_reckonBelow_99 ?_
  refine lv_iconst (v := 2) hx hb d_M_reckonBelow_100 (by decide) ?_
  refine lv_icmp_ne (tgt := 117) hx hb d_M_reckonBelow_101 (by decide) (fun hc => ?_) (fun hc => ?_)
  · rw [if_neg hc] at h
    refine lv_iconst (v := 0) hx hb d_M_reckonBelow_117 (by decide) ?_
    replace h := gd h
    obtain ⟨hi, h⟩ := h
    refine rw_zast C0 hP hD hS 15 1 rfl rfl hi d_M_reckonBelow_118 (Wn := (wM cI cZ a q (M_put_below σ t1 (vp_nar .boolean 0)))) ws_M_put_below (fun H locs hP hD hS => ?_)
    refine lv_iinc (v := (x2 + 1)) (lv' := [(2, .int (x2 + 1)), (0, .ref (a 20)), (1, .int x1)]) hx hb d_M_reckonBelow_119 hl (k := 2) rfl rfl (by decide) rfl (fun ls hl => ?_)
    refine lv_goto (tgt := 32) hx hb d_M_reckonBelow_122 (by decide) ?_
    exact hk32 _ _ _ _ _ _ _ h hP hD hS (lv_sub hl [1, 2, 0] rfl)
  · rw [if_pos hc] at h
    refine lv_aload_n hx hb d_M_reckonBelow_104 rfl (lv_at hl 0 rfl) ?_
    refine lv_iload_n hx hb d_M_reckonBelow_105 rfl (lv_at hl 2 rfl) ?_
    refine lv_iload_n hx hb d_M_reckonBelow_106 rfl (lv_at hl 1 rfl) ?_
    replace h := bd h
    obtain ⟨r1, g1, h⟩ := h
    refine ro_V (n := 2) (ci := 4) (As := [.int x2, .int x1]) (rest := [.int t1, .ref (a 35)]) C0 (c_M_isBelowArray l D cI cZ a q σ x2 x1 g1) wd_376 ⟨wd_377, wd_378, wd_379, wd_352⟩ (by decide +kernel) ⟨Nat.le_of_ble_eq_true rfl, Nat.le_of_ble_eq_true rfl⟩ hP rfl rfl rfl hl rfl rfl (Nat.le_of_ble_eq_true rfl) ⟨Nat.zero_le _, Nat.zero_le _⟩ d_M_reckonBelow_107 ?_
    try dsimp only at h
    refine lv_if_eq (tgt := 117) hx hb d_M_reckonBelow_110 (by decide) (fun hc => ?_) (fun hc => ?_)
    · rw [if_pos hc] at h
      refine lv_iconst (v := 0) hx hb d_M_reckonBelow_117 (by decide) ?_
      replace h := gd h
      obtain ⟨hi, h⟩ := h
      refine rw_zast C0 hP hD hS 15 1 rfl rfl hi d_M_reckonBelow_118 (Wn := (wM cI cZ a q (M_put_below σ t1 (vp_nar .boolean 0)))) ws_M_put_below (fun H locs hP hD hS => ?_)
      refine lv_iinc (v := (x2 + 1)) (lv' := [(2, .int (x2 + 1)), (0, .ref (a 20)), (1, .int x1)]) hx hb d_M_reckonBelow_119 hl (k := 2) rfl rfl (by decide) rfl (fun ls hl => ?_)
      refine lv_goto (tgt := 32) hx hb d_M_reckonBelow_122 (by decide) ?_
      exact hk32 _ _ _ _ _ _ _ h hP hD hS (lv_sub hl [1, 2, 0] rfl)
    · rw [if_neg hc] at h
      exact t_M_reckonBelow_113 (a := a) C0 hA hk22 hk32 h hP hD hS (lv_sub hl [0, 1, 2] rfl)
set_option maxHeartbeats 4000000 in
set_option maxRecDepth 100000 in
theorem t_M_reckonBelow_75 {p : Program} {l : Launch} {e : Env} {s : State} {m : MethodId} {args : Array Value} {below : List Frame} {meth : Method} {c : Code} {D : va_G} {cI cZ : ClassId} {a : Nat → Nat} {A : Nat → Prop} (C0 : Am p s m args meth c b_M_reckonBelow none 3 R_M D [(cI, .int), (cZ, .boolean)]) (hA : ∀ q, s.heap.size ≤ q → A q) {res : Int32 × StM} {k22 : StM → Int32 → Option (Int32 × StM)} {k32 : StM → Int32 → Int32 → Option (Int32 × StM)} (hk22 : ∀ (q : Nat) (σ : StM) (x1 : Int32) (H : Heap) (locs : List Loc) (ls : Array Slot), k22 σ x1 = some res → va_P D vwCl (wM cI cZ a q σ) H → va_D A (wM cI cZ a q σ) → va_S A s.heap H locs → lv_has ls 3 [(0, .ref (a 20)), (1, .int x1)] → W p l e (rmK 4 100 0 0) s m args below meth c H locs 0 0 (RwQv below args s D A (fun q (σ : StM) => (wM cI cZ a q σ)) res 0 0) (F0 m 22 ls [])) (hk32 : ∀ (q : Nat) (σ : StM) (x1 x2 : Int32) (H : Heap) (locs : List Loc) (ls : Array Slot), k32 σ x1 x2 = some res → va_P D vwCl (wM cI cZ a q σ) H → va_D A (wM cI cZ a q σ) → va_S A s.heap H locs → lv_has ls 3 [(0, .ref (a 20)), (1, .int x1), (2, .int x2)] → W p l e (rmK 4 100 0 0) s m args below meth c H locs 0 0 (RwQv below args s D A (fun q (σ : StM) => (wM cI cZ a q σ)) res 0 0) (F0 m 32 ls []))  {q : Nat} {σ : StM} {x1 x2 t1 : Int32} (h : f_M_reckonBelow_75 k22 k32 σ x1 x2 t1 = some res) {H : Heap} {locs : List Loc} (hP : va_P D vwCl (wM cI cZ a q σ) H) (hD : va_D A (wM cI cZ a q σ)) (hS : va_S A s.heap H locs) {ls : Array Slot} (hl : lv_has ls 3 [(0, .ref (a 20)), (1, .int x1), (2, .int x2)]) : W p l e (rmK 4 100 0 0) s m args below meth c H locs 0 0 (RwQv below args s D A (fun q (σ : StM) => (wM cI cZ a q σ)) res 0 0) (F0 m 75 ls [.int t1, .ref (a 35)]) := by
  obtain ⟨hx, hb, hr, hml, hown, hts, hlk, hK⟩ := id C0
  unfold f_M_reckonBelow_75 at h
  refine lv_aload_n hx hb d_M_reckonBelow_75 rfl (lv_at hl 0 rfl) ?_
  refine va_get (ci := 4) (v := .ref (a 27)) (C := R_M) (T := F_M) (N := 35) hx hb hts i_M hown hK.1 hP 0 rfl rfl 11 (by decide) (hts _ wd_353) (fun _ h9 => h9) rfl d_M_reckonBelow_76 ?_
  refine lv_iload_n hx hb d_M_reckonBelow_79 rfl (lv_at hl 1 rfl) ?_
  replace h := gd h
  obtain ⟨hi, h⟩ := h
  refine va_iald hx hb hK.1 hP 7 0 rfl rfl hi d_M_reckonBelow_80 ?_
  refine lv_iconst (v := 1) hx hb d_M_reckonBelow_81 (by decide) ?_
  refine lv_icmp_ne (tgt := 94) hx hb d_M_reckonBelow_82 (by decide) (fun hc => ?_) (fun hc => ?_)
  · rw [if_neg hc] at h
    exact t_M_reckonBelow_94 (a := a) C0 hA hk22 hk32 h hP hD hS (lv_sub hl [0, 1, 2] rfl)
  · rw [if_pos hc] at h
    refine lv_aload_n hx hb d_M_reckonBelow_85 rfl (lv_at hl 0 rfl) ?_
    refine lv_iload_n hx hb d_M_reckonBelow_86 rfl (lv_at hl 2 rfl) ?_
    refine lv_iload_n hx hb d_M_reckonBelow_87 rfl (lv_at hl 1 rfl) ?_
    replace h := bd h
    obtain ⟨r2, g2, h⟩ := h
    refine rw_V (n := 2) (ci := 4) (As := [.int x2, .int x1]) (rest := [.int t1, .ref (a 35)]) (Wn := fun _ => (wM cI cZ a q r2.2)) C0 hA (c_M_isBelowNamed l D cI cZ a q σ x2 x1 g2) wd_380 ⟨wd_381, wd_382, wd_383, wd_352⟩ (by decide +kernel) ⟨Nat.le_of_ble_eq_true rfl, Nat.le_of_ble_eq_true rfl⟩ hP hD hS [0, 1, 2, 3, 4, 5, 6, 7, 8, 9, 10, 11, 12, 13, 14, 15, 16, 17, 18, 19, 20, 21, 22, 23] [] [0, 1, 2, 3, 4, 5, 6, 7, 8, 9, 10, 11, 12, 13, 14, 15, 16, 17, 18, 19, 20, 21, 22, 23] jn_M__C (by decide) jn_M__R (by decide) (by decide) (by decide) jn_M__W rfl rfl rfl hl rfl rfl (Nat.le_of_ble_eq_true rfl) ⟨Nat.zero_le _, Nat.zero_le _⟩ d_M_reckonBelow_88 (fun H locs _ hP hD hS => ?_)
    try dsimp only at h
    refine lv_if_ne (tgt := 113) hx hb d_M_reckonBelow_91 (by decide) (fun hc => ?_) (fun hc => ?_)
    · rw [if_neg hc] at h
      exact t_M_reckonBelow_113 (a := a) C0 hA hk22 hk32 h hP hD hS (lv_sub hl [0, 1, 2] rfl)
    · rw [if_pos hc] at h
      exact t_M_reckonBelow_94 (a := a) C0 hA hk22 hk32 h hP hD hS (lv_sub hl [0, 1, 2] rfl)
set_option maxHeartbeats 4000000 in
set_option maxRecDepth 100000 in
theorem t_M_reckonBelow_32_s {p : Program} {l : Launch} {e : Env} {s : State} {m : MethodId} {args : Array Value} {below : List Frame} {meth : Method} {c : Code} {D : va_G} {cI cZ : ClassId} {a : Nat → Nat} {A : Nat → Prop} (C0 : Am p s m args meth c b_M_reckonBelow none 3 R_M D [(cI, .int), (cZ, .boolean)]) (hA : ∀ q, s.heap.size ≤ q → A q) {res : Int32 × StM} {k22 : StM → Int32 → Option (Int32 × StM)} {k32 : StM → Int32 → Int32 → Option (Int32 × StM)} (hk22 : ∀ (q : Nat) (σ : StM) (x1 : Int32) (H : Heap) (locs : List Loc) (ls : Array Slot), k22 σ x1 = some res → va_P D vwCl (wM cI cZ a q σ) H → va_D A (wM cI cZ a q σ) → va_S A s.heap H locs → lv_has ls 3 [(0, .ref (a 20)), (1, .int x1)] → W p l e (rmK 4 100 0 0) s m args below meth c H locs 0 0 (RwQv below args s D A (fun q (σ : StM) => (wM cI cZ a q σ)) res 0 0) (F0 m 22 ls [])) (hk32 : ∀ (q : Nat) (σ : StM) (x1 x2 : Int32) (H : Heap) (locs : List Loc) (ls : Array Slot), k32 σ x1 x2 = some res → va_P D vwCl (wM cI cZ a q σ) H → va_D A (wM cI cZ a q σ) → va_S A s.heap H locs → lv_has ls 3 [(0, .ref (a 20)), (1, .int x1), (2, .int x2)] → W p l e (rmK 4 100 0 0) s m args below meth c H locs 0 0 (RwQv below args s D A (fun q (σ : StM) => (wM cI cZ a q σ)) res 0 0) (F0 m 32 ls [])) {q : Nat} {σ : StM} {x1 x2 : Int32} (h : f_M_reckonBelow_32_s k22 k32 σ x1 x2 = some res) {H : Heap} {locs : List Loc} (hP : va_P D vwCl (wM cI cZ a q σ) H) (hD : va_D A (wM cI cZ a q σ)) (hS : va_S A s.heap H locs) {ls : Array Slot} (hl : lv_has ls 3 [(0, .ref (a 20)), (1, .int x1), (2, .int x2)]) : W p l e (rmK 4 100 0 0) s m args below meth c H locs 0 0 (RwQv below args s D A (fun q (σ : StM) => (wM cI cZ a q σ)) res 0 0) (F0 m 32 ls []) := by
  obtain ⟨hx, hb, hr, hml, hown, hts, hlk, hK⟩ := id C0
  unfold f_M_reckonBelow_32_s at h
  refine lv_iload_n hx hb d_M_reckonBelow_32 rfl (lv_at hl 2 rfl) ?_
  refine lv_aload_n hx hb d_M_reckonBelow_33 rfl (lv_at hl 0 rfl) ?_
  refine va_get (ci := 4) (v := .int (M_types σ)) (C := R_M) (T := F_M) (N := 35) hx hb hts i_M hown hK.1 hP 0 rfl rfl 10 (by decide) (hts _ wd_344) (fun _ h9 => h9) rfl d_M_reckonBelow_34 ?_
  refine lv_icmp_ge (tgt := 125) hx hb d_M_reckonBelow_37 (by decide) (fun hc => ?_) (fun hc => ?_)
  · rw [if_pos hc] at h
    refine lv_iinc (v := (x1 + 1)) (lv' := [(1, .int (x1 + 1)), (0, .ref (a 20)), (2, .int x2)]) hx hb d_M_reckonBelow_125 hl (k := 1) rfl rfl (by decide) rfl (fun ls hl => ?_)
    refine lv_goto (tgt := 22) hx hb d_M_reckonBelow_128 (by decide) ?_
    exact hk22 _ _ _ _ _ _ h hP hD hS (lv_sub hl [1, 0] rfl)
  · rw [if_neg hc] at h
    refine lv_aload_n hx hb d_M_reckonBelow_40 rfl (lv_at hl 0 rfl) ?_
    refine va_get (ci := 4) (v := .ref (a 35)) (C := R_M) (T := F_M) (N := 35) hx hb hts i_M hown hK.1 hP 0 rfl rfl 23 (by decide) (hts _ wd_370) (fun _ h9 => h9) rfl d_M_reckonBelow_41 ?_
    refine lv_sipush (v := 300) hx hb d_M_reckonBelow_44 (by decide) ?_
    refine lv_iload_n hx hb d_M_reckonBelow_47 rfl (lv_at hl 2 rfl) ?_
    refine lv_imul hx hb d_M_reckonBelow_48 ?_
    refine lv_iload_n hx hb d_M_reckonBelow_49 rfl (lv_at hl 1 rfl) ?_
    refine lv_iadd hx hb d_M_reckonBelow_50 ?_
    refine lv_iload_n hx hb d_M_reckonBelow_51 rfl (lv_at hl 2 rfl) ?_
    refine lv_iload_n hx hb d_M_reckonBelow_52 rfl (lv_at hl 1 rfl) ?_
    refine lv_icmp_eq (tgt := 113) hx hb d_M_reckonBelow_53 (by decide) (fun hc => ?_) (fun hc => ?_)
    · rw [if_pos hc] at h
      exact t_M_reckonBelow_113 (a := a) C0 hA hk22 hk32 h hP hD hS (lv_sub hl [0, 1, 2] rfl)
    · rw [if_neg hc] at h
      refine lv_aload_n hx hb d_M_reckonBelow_56 rfl (lv_at hl 0 rfl) ?_
      refine va_get (ci := 4) (v := .ref (a 27)) (C := R_M) (T := F_M) (N := 35) hx hb hts i_M hown hK.1 hP 0 rfl rfl 11 (by decide) (hts _ wd_353) (fun _ h9 => h9) rfl d_M_reckonBelow_57 ?_
      refine lv_iload_n hx hb d_M_reckonBelow_60 rfl (lv_at hl 1 rfl) ?_
      replace h := gd h
      obtain ⟨hi, h⟩ := h
      refine va_iald hx hb hK.1 hP 7 0 rfl rfl hi d_M_reckonBelow_61 ?_
      refine lv_iconst (v := 3) hx hb d_M_reckonBelow_62 (by decide) ?_
      refine lv_icmp_ne (tgt := 75) hx hb d_M_reckonBelow_63 (by decide) (fun hc => ?_) (fun hc => ?_)
      · rw [if_neg hc] at h
        exact t_M_reckonBelow_75 (a := a) C0 hA hk22 hk32 h hP hD hS (lv_sub hl [0, 1, 2] rfl)
      · rw [if_pos hc] at h
        refine lv_aload_n hx hb d_M_reckonBelow_66 rfl (lv_at hl 0 rfl) ?_
        refine lv_iload_n hx hb d_M_reckonBelow_67 rfl (lv_at hl 2 rfl) ?_
        refine lv_iload_n hx hb d_M_reckonBelow_68 rfl (lv_at hl 1 rfl) ?_
        replace h := bd h
        obtain ⟨r3, g3, h⟩ := h
        refine ro_V (n := 2) (ci := 4) (As := [.int x2, .int x1]) (rest := [.int ((300 * x2) + x1), .ref (a 35)]) C0 (c_M_isBelowAll l D cI cZ a q σ x2 x1 g3) wd_384 ⟨wd_385, wd_386, wd_387, wd_352⟩ (by decide +kernel) ⟨Nat.le_of_ble_eq_true rfl, Nat.le_of_ble_eq_true rfl⟩ hP rfl rfl rfl hl rfl rfl (Nat.le_of_ble_eq_true rfl) ⟨Nat.zero_le _, Nat.zero_le _⟩ d_M_reckonBelow_69 ?_
        try dsimp only at h
        refine lv_if_ne (tgt := 113) hx hb d_M_reckonBelow_72 (by decide) (fun hc => ?_) (fun hc => ?_)
        · rw [if_neg hc] at h
          exact t_M_reckonBelow_113 (a := a) C0 hA hk22 hk32 h hP hD hS (lv_sub hl [0, 1, 2] rfl)
        · rw [if_pos hc] at h
          exact t_M_reckonBelow_75 (a := a) C0 hA hk22 hk32 h hP hD hS (lv_sub hl [0, 1, 2] rfl)
set_option maxHeartbeats 4000000 in
set_option maxRecDepth 100000 in
theorem t_M_reckonBelow_32 {p : Program} {l : Launch} {e : Env} {s : State} {m : MethodId} {args : Array Value} {below : List Frame} {meth : Method} {c : Code} {D : va_G} {cI cZ : ClassId} {a : Nat → Nat} {A : Nat → Prop} (C0 : Am p s m args meth c b_M_reckonBelow none 3 R_M D [(cI, .int), (cZ, .boolean)]) (hA : ∀ q, s.heap.size ≤ q → A q) {res : Int32 × StM} {k22 : StM → Int32 → Option (Int32 × StM)} (hk22 : ∀ (q : Nat) (σ : StM) (x1 : Int32) (H : Heap) (locs : List Loc) (ls : Array Slot), k22 σ x1 = some res → va_P D vwCl (wM cI cZ a q σ) H → va_D A (wM cI cZ a q σ) → va_S A s.heap H locs → lv_has ls 3 [(0, .ref (a 20)), (1, .int x1)] → W p l e (rmK 4 100 0 0) s m args below meth c H locs 0 0 (RwQv below args s D A (fun q (σ : StM) => (wM cI cZ a q σ)) res 0 0) (F0 m 22 ls [])) {n : Nat} {q : Nat} {σ : StM} {x1 x2 : Int32} (h : f_M_reckonBelow_32 k22 n σ x1 x2 = some res) {H : Heap} {locs : List Loc} (hP : va_P D vwCl (wM cI cZ a q σ) H) (hD : va_D A (wM cI cZ a q σ)) (hS : va_S A s.heap H locs) {ls : Array Slot} (hl : lv_has ls 3 [(0, .ref (a 20)), (1, .int x1), (2, .int x2)]) : W p l e (rmK 4 100 0 0) s m args below meth c H locs 0 0 (RwQv below args s D A (fun q (σ : StM) => (wM cI cZ a q σ)) res 0 0) (F0 m 32 ls []) := by
  induction n generalizing q σ x1 x2 H locs ls with
  | zero => cases h
  | succ n ih => exact t_M_reckonBelow_32_s (a := a) C0 hA hk22 (fun _ _ _ _ _ _ _ h hP hD hS hl => ih h hP hD hS hl) h hP hD hS hl
set_option maxHeartbeats 4000000 in
set_option maxRecDepth 100000 in
theorem t_M_reckonBelow_22_s {p : Program} {l : Launch} {e : Env} {s : State} {m : MethodId} {args : Array Value} {below : List Frame} {meth : Method} {c : Code} {D : va_G} {cI cZ : ClassId} {a : Nat → Nat} {A : Nat → Prop} (C0 : Am p s m args meth c b_M_reckonBelow none 3 R_M D [(cI, .int), (cZ, .boolean)]) (hA : ∀ q, s.heap.size ≤ q → A q) {res : Int32 × StM} {k22 : StM → Int32 → Option (Int32 × StM)}  (hk22 : ∀ (q : Nat) (σ : StM) (x1 : Int32) (H : Heap) (locs : List Loc) (ls : Array Slot), k22 σ x1 = some res → va_P D vwCl (wM cI cZ a q σ) H → va_D A (wM cI cZ a q σ) → va_S A s.heap H locs → lv_has ls 3 [(0, .ref (a 20)), (1, .int x1)] → W p l e (rmK 4 100 0 0) s m args below meth c H locs 0 0 (RwQv below args s D A (fun q (σ : StM) => (wM cI cZ a q σ)) res 0 0) (F0 m 22 ls [])) {q : Nat} {σ : StM} {x1 : Int32} (h : f_M_reckonBelow_22_s k22 σ x1 = some res) {H : Heap} {locs : List Loc} (hP : va_P D vwCl (wM cI cZ a q σ) H) (hD : va_D A (wM cI cZ a q σ)) (hS : va_S A s.heap H locs) {ls : Array Slot} (hl : lv_has ls 3 [(0, .ref (a 20)), (1, .int x1)]) : W p l e (rmK 4 100 0 0) s m args below meth c H locs 0 0 (RwQv below args s D A (fun q (σ : StM) => (wM cI cZ a q σ)) res 0 0) (F0 m 22 ls []) := by
  obtain ⟨hx, hb, hr, hml, hown, hts, hlk, hK⟩ := id C0
  unfold f_M_reckonBelow_22_s at h
  refine lv_iload_n hx hb d_M_reckonBelow_22 rfl (lv_at hl 1 rfl) ?_
  refine lv_aload_n hx hb d_M_reckonBelow_23 rfl (lv_at hl 0 rfl) ?_
  refine va_get (ci := 4) (v := .int (M_types σ)) (C := R_M) (T := F_M) (N := 35) hx hb hts i_M hown hK.1 hP 0 rfl rfl 10 (by decide) (hts _ wd_344) (fun _ h9 => h9) rfl d_M_reckonBelow_24 ?_
  refine lv_icmp_ge (tgt := 131) hx hb d_M_reckonBelow_27 (by decide) (fun hc => ?_) (fun hc => ?_)
  · rw [if_pos hc] at h
    exact rw_retv C0 hP hD hS (Option.some.inj h) d_M_reckonBelow_131
  · rw [if_neg hc] at h
    refine lv_iconst (v := 0) hx hb d_M_reckonBelow_30 (by decide) ?_
    refine lv_istore_n (lv' := [(2, .int 0), (0, .ref (a 20)), (1, .int x1)]) hx hb d_M_reckonBelow_31 rfl hl (by decide) rfl (fun ls hl => ?_)
    exact t_M_reckonBelow_32 (a := a) C0 hA hk22 h hP hD hS (lv_sub hl [1, 2, 0] rfl)
set_option maxHeartbeats 4000000 in
set_option maxRecDepth 100000 in
theorem t_M_reckonBelow_22 {p : Program} {l : Launch} {e : Env} {s : State} {m : MethodId} {args : Array Value} {below : List Frame} {meth : Method} {c : Code} {D : va_G} {cI cZ : ClassId} {a : Nat → Nat} {A : Nat → Prop} (C0 : Am p s m args meth c b_M_reckonBelow none 3 R_M D [(cI, .int), (cZ, .boolean)]) (hA : ∀ q, s.heap.size ≤ q → A q) {res : Int32 × StM}  {n : Nat} {q : Nat} {σ : StM} {x1 : Int32} (h : f_M_reckonBelow_22  n σ x1 = some res) {H : Heap} {locs : List Loc} (hP : va_P D vwCl (wM cI cZ a q σ) H) (hD : va_D A (wM cI cZ a q σ)) (hS : va_S A s.heap H locs) {ls : Array Slot} (hl : lv_has ls 3 [(0, .ref (a 20)), (1, .int x1)]) : W p l e (rmK 4 100 0 0) s m args below meth c H locs 0 0 (RwQv below args s D A (fun q (σ : StM) => (wM cI cZ a q σ)) res 0 0) (F0 m 22 ls []) := by
  induction n generalizing q σ x1 H locs ls with
  | zero => cases h
  | succ n ih => exact t_M_reckonBelow_22_s (a := a) C0 hA  (fun _ _ _ _ _ _ h hP hD hS hl => ih h hP hD hS hl) h hP hD hS hl
set_option maxHeartbeats 4000000 in
set_option maxRecDepth 100000 in
theorem t_M_reckonBelow_0 {p : Program} {l : Launch} {e : Env} {s : State} {m : MethodId} {args : Array Value} {below : List Frame} {meth : Method} {c : Code} {D : va_G} {cI cZ : ClassId} {a : Nat → Nat} {A : Nat → Prop} (C0 : Am p s m args meth c b_M_reckonBelow none 3 R_M D [(cI, .int), (cZ, .boolean)]) (hA : ∀ q, s.heap.size ≤ q → A q) {res : Int32 × StM}   {q : Nat} {σ : StM} (h : f_M_reckonBelow σ = some res) {H : Heap} {locs : List Loc} (hP : va_P D vwCl (wM cI cZ a q σ) H) (hD : va_D A (wM cI cZ a q σ)) (hS : va_S A s.heap H locs) {ls : Array Slot} (hl : lv_has ls 3 [(0, .ref (a 20))]) : W p l e (rmK 4 100 0 0) s m args below meth c H locs 0 0 (RwQv below args s D A (fun q (σ : StM) => (wM cI cZ a q σ)) res 0 0) (F0 m 0 ls []) := by
  obtain ⟨hx, hb, hr, hml, hown, hts, hlk, hK⟩ := id C0
  unfold f_M_reckonBelow at h
  refine lv_aload_n hx hb d_M_reckonBelow_0 rfl (lv_at hl 0 rfl) ?_
  refine va_get (ci := 4) (v := .int (M_reckoned σ)) (C := R_M) (T := F_M) (N := 35) hx hb hts i_M hown hK.1 hP 0 rfl rfl 24 (by decide) (hts _ wd_375) (fun _ h9 => h9) rfl d_M_reckonBelow_1 ?_
  refine lv_aload_n hx hb d_M_reckonBelow_4 rfl (lv_at hl 0 rfl) ?_
  refine va_get (ci := 4) (v := .int (M_types σ)) (C := R_M) (T := F_M) (N := 35) hx hb hts i_M hown hK.1 hP 0 rfl rfl 10 (by decide) (hts _ wd_344) (fun _ h9 => h9) rfl d_M_reckonBelow_5 ?_
  refine lv_icmp_ne (tgt := 12) hx hb d_M_reckonBelow_8 (by decide) (fun hc => ?_) (fun hc => ?_)
  · rw [if_neg hc] at h
    refine lv_aload_n hx hb d_M_reckonBelow_12 rfl (lv_at hl 0 rfl) ?_
    refine lv_aload_n hx hb d_M_reckonBelow_13 rfl (lv_at hl 0 rfl) ?_
    refine va_get (ci := 4) (v := .int (M_types σ)) (C := R_M) (T := F_M) (N := 35) hx hb hts i_M hown hK.1 hP 0 rfl rfl 10 (by decide) (hts _ wd_344) (fun _ h9 => h9) rfl d_M_reckonBelow_14 ?_
    refine rw_put (v := .int (M_types σ)) (fty := .int) (C := R_M) (T := F_M) (N := 35) C0 hP hD hS i_M ty_M tyok_M nn_M 0 rfl rfl 24 (by decide) (hts _ wd_375) rfl rfl (by decide +kernel) rfl rfl (Nat.le_of_ble_eq_true rfl) d_M_reckonBelow_17 (Wn := (wM cI cZ a q (M_set_reckoned σ (M_types σ)))) ws_M_set_reckoned (fun H locs hP hD hS => ?_)
    refine lv_iconst (v := 0) hx hb d_M_reckonBelow_20 (by decide) ?_
    refine lv_istore_n (lv' := [(1, .int 0), (0, .ref (a 20))]) hx hb d_M_reckonBelow_21 rfl hl (by decide) rfl (fun ls hl => ?_)
    exact t_M_reckonBelow_22 (a := a) C0 hA  h hP hD hS (lv_sub hl [1, 0] rfl)
  · rw [if_pos hc] at h
    exact rw_retv C0 hP hD hS (Option.some.inj h) d_M_reckonBelow_11
set_option maxHeartbeats 4000000 in
set_option maxRecDepth 100000 in
theorem c_M_reckonBelow (l : Launch) (D : va_G) (cI cZ : ClassId) (a : Nat → Nat) (q : Nat) (σ : StM) {res : Int32 × StM} (h : f_M_reckonBelow σ = some res) : RwMv l y_M_reckonBelow b_M_reckonBelow 3 4 100 D [(cI, .int), (cZ, .boolean)] [.ref (a 20)] (fun q (σ : StM) => (wM cI cZ a q σ)) q σ res :=
  rw_ofv (by decide) (Nat.le_of_ble_eq_true rfl) (fun p e s m args below meth c ls A C0 hA hP hD hS hl => t_M_reckonBelow_0 (a := a) C0 hA h hP hD hS (lv_sub hl [0] rfl))
-- part 07.6M.17M_declare.lean.txt
def f_M_declare_70 (σ : StM) (t1 t2 : Int32) : Option (Int32 × StM) :=
  if (M_classes (M_set_generics σ (t1 + t2))) < 0 ∨ 30 ≤ (M_classes (M_set_generics σ (t1 + t2))).toNatClampNeg then none else
  (f_M_tie (M_put_directs (M_set_generics σ (t1 + t2)) (M_classes (M_set_generics σ (t1 + t2))) 0) (M_classes (M_put_directs (M_set_generics σ (t1 + t2)) (M_classes (M_set_generics σ (t1 + t2))) 0)) 0 (-1)).bind fun r2 =>
  (f_M_reckonOver r2.2 (M_classes r2.2)).bind fun r3 =>
  some (((M_classes (M_set_classes r3.2 ((M_classes r3.2) + 1))) - 1), (M_set_classes r3.2 ((M_classes r3.2) + 1)))
def f_M_declare_28 (σ : StM) (x1 x2 t1 : Int32) : Option (Int32 × StM) :=
  (f_M_good σ t1).bind fun r1 =>
  if r1.1 = 0 then
    some (0, r1.2)
  else
    if (M_classes r1.2) < 0 ∨ 30 ≤ (M_classes r1.2).toNatClampNeg then none else
    if (M_classes (M_put_face r1.2 (M_classes r1.2) (vp_nar .boolean x1))) < 0 ∨ 30 ≤ (M_classes (M_put_face r1.2 (M_classes r1.2) (vp_nar .boolean x1))).toNatClampNeg then none else
    if x2 = 0 then
      f_M_declare_70 (M_put_generic (M_put_face r1.2 (M_classes r1.2) (vp_nar .boolean x1)) (M_classes (M_put_face r1.2 (M_classes r1.2) (vp_nar .boolean x1))) (vp_nar .boolean x2)) (M_generics (M_put_generic (M_put_face r1.2 (M_classes r1.2) (vp_nar .boolean x1)) (M_classes (M_put_face r1.2 (M_classes r1.2) (vp_nar .boolean x1))) (vp_nar .boolean x2))) 0
    else
      f_M_declare_70 (M_put_generic (M_put_face r1.2 (M_classes r1.2) (vp_nar .boolean x1)) (M_classes (M_put_face r1.2 (M_classes r1.2) (vp_nar .boolean x1))) (vp_nar .boolean x2)) (M_generics (M_put_generic (M_put_face r1.2 (M_classes r1.2) (vp_nar .boolean x1)) (M_classes (M_put_face r1.2 (M_classes r1.2) (vp_nar .boolean x1))) (vp_nar .boolean x2))) 1
def f_M_declare_23 (σ : StM) (x1 x2 : Int32) : Option (Int32 × StM) :=
  f_M_declare_28 σ x1 x2 1
def f_M_declare_27 (σ : StM) (x1 x2 : Int32) : Option (Int32 × StM) :=
  f_M_declare_28 σ x1 x2 0
def f_M_declare (σ : StM) (x1 x2 : Int32) : Option (Int32 × StM) :=
  if (M_classes σ) = 30 then
    f_M_declare_23 σ x1 x2
  else
    if x2 = 0 then
      f_M_declare_27 σ x1 x2
    else
      if (M_generics σ) = 6 then
        f_M_declare_23 σ x1 x2
      else
        f_M_declare_27 σ x1 x2
set_option maxHeartbeats 4000000 in
set_option maxRecDepth 100000 in
theorem t_M_declare_70 {p : Program} {l : Launch} {e : Env} {s : State} {m : MethodId} {args : Array Value} {below : List Frame} {meth : Method} {c : Code} {D : va_G} {cI cZ : ClassId} {a : Nat → Nat} {A : Nat → Prop} (C0 : Am p s m args meth c b_M_declare (some .int) 3 R_M D [(cI, .int), (cZ, .boolean)]) (hA : ∀ q, s.heap.size ≤ q → A q) {res : Int32 × StM}   {q : Nat} {σ : StM} {t1 t2 : Int32} (h : f_M_declare_70 σ t1 t2 = some res) {H : Heap} {locs : List Loc} (hP : va_P D vwCl (wM cI cZ a q σ) H) (hD : va_D A (wM cI cZ a q σ)) (hS : va_S A s.heap H locs) {ls : Array Slot} (hl : lv_has ls 3 [(0, .ref (a 20))]) : W p l e (rmK 1 24 0 0) s m args below meth c H locs 0 0 (RwQ below args s D A (fun q (σ : StM) => (wM cI cZ a q σ)) res 0 0) (F0 m 70 ls [.int t2, .int t1, .ref (a 20)]) := by
  obtain ⟨hx, hb, hr, hml, hown, hts, hlk, hK⟩ := id C0
  unfold f_M_declare_70 at h
  refine lv_iadd hx hb d_M_declare_70 ?_
  refine rw_put (v := .int (t1 + t2)) (fty := .int) (C := R_M) (T := F_M) (N := 35) C0 hP hD hS i_M ty_M tyok_M nn_M 0 rfl rfl 3 (by decide) (hts _ wd_394) rfl rfl (by decide +kernel) rfl rfl (Nat.le_of_ble_eq_true rfl) d_M_declare_71 (Wn := (wM cI cZ a q (M_set_generics σ (t1 + t2)))) ws_M_set_generics (fun H locs hP hD hS => ?_)
  refine lv_aload_n hx hb d_M_declare_74 rfl (lv_at hl 0 rfl) ?_
  refine va_get (ci := 4) (v := .ref (a 23)) (C := R_M) (T := F_M) (N := 35) hx hb hts i_M hown hK.1 hP 0 rfl rfl 6 (by decide) (hts _ wd_339) (fun _ h9 => h9) rfl d_M_declare_75 ?_
  refine lv_aload_n hx hb d_M_declare_78 rfl (lv_at hl 0 rfl) ?_
  refine va_get (ci := 4) (v := .int (M_classes (M_set_generics σ (t1 + t2)))) (C := R_M) (T := F_M) (N := 35) hx hb hts i_M hown hK.1 hP 0 rfl rfl 2 (by decide) (hts _ wd_343) (fun _ h9 => h9) rfl d_M_declare_79 ?_
  refine lv_iconst (v := 0) hx hb d_M_declare_82 (by decide) ?_
  replace h := gd h
  obtain ⟨hi, h⟩ := h
  refine rw_iast C0 hP hD hS 3 0 rfl rfl hi d_M_declare_83 (Wn := (wM cI cZ a q (M_put_directs (M_set_generics σ (t1 + t2)) (M_classes (M_set_generics σ (t1 + t2))) 0))) ws_M_put_directs (fun H locs hP hD hS => ?_)
  refine lv_aload_n hx hb d_M_declare_84 rfl (lv_at hl 0 rfl) ?_
  refine lv_aload_n hx hb d_M_declare_85 rfl (lv_at hl 0 rfl) ?_
  refine va_get (ci := 4) (v := .int (M_classes (M_put_directs (M_set_generics σ (t1 + t2)) (M_classes (M_set_generics σ (t1 + t2))) 0))) (C := R_M) (T := F_M) (N := 35) hx hb hts i_M hown hK.1 hP 0 rfl rfl 2 (by decide) (hts _ wd_343) (fun _ h9 => h9) rfl d_M_declare_86 ?_
  refine lv_iconst (v := 0) hx hb d_M_declare_89 (by decide) ?_
  refine lv_iconst (v := (-1)) hx hb d_M_declare_90 (by decide) ?_
  replace h := bd h
  obtain ⟨r2, g2, h⟩ := h
  refine rw_Vv (n := 3) (ci := 4) (As := [.int (M_classes (M_put_directs (M_set_generics σ (t1 + t2)) (M_classes (M_set_generics σ (t1 + t2))) 0)), .int 0, .int (-1)]) (rest := []) (Wn := fun _ => (wM cI cZ a q r2.2)) C0 hA (c_M_tie l D cI cZ a q (M_put_directs (M_set_generics σ (t1 + t2)) (M_classes (M_set_generics σ (t1 + t2))) 0) (M_classes (M_put_directs (M_set_generics σ (t1 + t2)) (M_classes (M_set_generics σ (t1 + t2))) 0)) 0 (-1) g2) wd_395 ⟨wd_396, wd_397, wd_398, wd_352⟩ (by decide +kernel) ⟨Nat.le_of_ble_eq_true rfl, Nat.le_of_ble_eq_true rfl⟩ hP hD hS [0, 1, 2, 3, 4, 5, 6, 7, 8, 9, 10, 11, 12, 13, 14, 15, 16, 17, 18, 19, 20, 21, 22, 23] [] [0, 1, 2, 3, 4, 5, 6, 7, 8, 9, 10, 11, 12, 13, 14, 15, 16, 17, 18, 19, 20, 21, 22, 23] jn_M__C (by decide) jn_M__R (by decide) (by decide) (by decide) jn_M__W rfl rfl rfl hl rfl rfl (Nat.le_of_ble_eq_true rfl) ⟨Nat.zero_le _, Nat.zero_le _⟩ d_M_declare_91 (fun H locs _ hP hD hS => ?_)
  try dsimp only at h
  refine lv_aload_n hx hb d_M_declare_94 rfl (lv_at hl 0 rfl) ?_
  refine lv_aload_n hx hb d_M_declare_95 rfl (lv_at hl 0 rfl) ?_
  refine va_get (ci := 4) (v := .int (M_classes r2.2)) (C := R_M) (T := F_M) (N := 35) hx hb hts i_M hown hK.1 hP 0 rfl rfl 2 (by decide) (hts _ wd_343) (fun _ h9 => h9) rfl d_M_declare_96 ?_
  replace h := bd h
  obtain ⟨r3, g3, h⟩ := h
  refine rw_Vv (n := 1) (ci := 4) (As := [.int (M_classes r2.2)]) (rest := []) (Wn := fun _ => (wM cI cZ a q r3.2)) C0 hA (c_M_reckonOver l D cI cZ a q r2.2 (M_classes r2.2) g3) wd_399 ⟨wd_400, wd_401, wd_402, wd_352⟩ (by decide +kernel) ⟨Nat.le_of_ble_eq_true rfl, Nat.le_of_ble_eq_true rfl⟩ hP hD hS [0, 1, 2, 3, 4, 5, 6, 7, 8, 9, 10, 11, 12, 13, 14, 15, 16, 17, 18, 19, 20, 21, 22, 23] [] [0, 1, 2, 3, 4, 5, 6, 7, 8, 9, 10, 11, 12, 13, 14, 15, 16, 17, 18, 19, 20, 21, 22, 23] jn_M__C (by decide) jn_M__R (by decide) (by decide) (by decide) jn_M__W rfl rfl rfl hl rfl rfl (Nat.le_of_ble_eq_true rfl) ⟨Nat.zero_le _, Nat.zero_le _⟩ d_M_declare_99 (fun H locs _ hP hD hS => ?_)
  try dsimp only at h
  refine lv_aload_n hx hb d_M_declare_102 rfl (lv_at hl 0 rfl) ?_
  refine lv_dup hx hb d_M_declare_103 rfl ?_
  refine va_get (ci := 4) (v := .int (M_classes r3.2)) (C := R_M) (T := F_M) (N := 35) hx hb hts i_M hown hK.1 hP 0 rfl rfl 2 (by decide) (hts _ wd_343) (fun _ h9 => h9) rfl d_M_declare_104 ?_
  refine lv_iconst (v := 1) hx hb d_M_declare_107 (by decide) ?_
  refine lv_iadd hx hb d_M_declare_108 ?_
  refine rw_put (v := .int ((M_classes r3.2) + 1)) (fty := .int) (C := R_M) (T := F_M) (N := 35) C0 hP hD hS i_M ty_M tyok_M nn_M 0 rfl rfl 2 (by decide) (hts _ wd_343) rfl rfl (by decide +kernel) rfl rfl (Nat.le_of_ble_eq_true rfl) d_M_declare_109 (Wn := (wM cI cZ a q (M_set_classes r3.2 ((M_classes r3.2) + 1)))) ws_M_set_classes (fun H locs hP hD hS => ?_)
  refine lv_aload_n hx hb d_M_declare_112 rfl (lv_at hl 0 rfl) ?_
  refine va_get (ci := 4) (v := .int (M_classes (M_set_classes r3.2 ((M_classes r3.2) + 1)))) (C := R_M) (T := F_M) (N := 35) hx hb hts i_M hown hK.1 hP 0 rfl rfl 2 (by decide) (hts _ wd_343) (fun _ h9 => h9) rfl d_M_declare_113 ?_
  refine lv_iconst (v := 1) hx hb d_M_declare_116 (by decide) ?_
  refine lv_isub hx hb d_M_declare_117 ?_
  exact rw_ret C0 hP hD hS (Option.some.inj h) d_M_declare_118
set_option maxHeartbeats 4000000 in
set_option maxRecDepth 100000 in
theorem t_M_declare_28 {p : Program} {l : Launch} {e : Env} {s : State} {m : MethodId} {args : Array Value} {below : List Frame} {meth : Method} {c : Code} {D : va_G} {cI cZ : ClassId} {a : Nat → Nat} {A : Nat → Prop} (C0 : Am p s m args meth c b_M_declare (some .int) 3 R_M D [(cI, .int), (cZ, .boolean)]) (hA : ∀ q, s.heap.size ≤ q → A q) {res : Int32 × StM}   {q : Nat} {σ : StM} {x1 x2 t1 : Int32} (h : f_M_declare_28 σ x1 x2 t1 = some res) {H : Heap} {locs : List Loc} (hP : va_P D vwCl (wM cI cZ a q σ) H) (hD : va_D A (wM cI cZ a q σ)) (hS : va_S A s.heap H locs) {ls : Array Slot} (hl : lv_has ls 3 [(0, .ref (a 20)), (1, .int x1), (2, .int x2)]) : W p l e (rmK 1 24 0 0) s m args below meth c H locs 0 0 (RwQ below args s D A (fun q (σ : StM) => (wM cI cZ a q σ)) res 0 0) (F0 m 28 ls [.int t1, .ref (a 20)]) := by
  obtain ⟨hx, hb, hr, hml, hown, hts, hlk, hK⟩ := id C0
  unfold f_M_declare_28 at h
  replace h := bd h
  obtain ⟨r1, g1, h⟩ := h
  refine rw_V (n := 1) (ci := 4) (As := [.int t1]) (rest := []) (Wn := fun _ => (wM cI cZ a q r1.2)) C0 hA (c_M_good l D cI cZ a q σ t1 g1) wd_388 ⟨wd_389, wd_390, wd_391, wd_352⟩ (by decide +kernel) ⟨Nat.le_of_ble_eq_true rfl, Nat.le_of_ble_eq_true rfl⟩ hP hD hS [0, 1, 2, 3, 4, 5, 6, 7, 8, 9, 10, 11, 12, 13, 14, 15, 16, 17, 18, 19, 20, 21, 22, 23] [] [0, 1, 2, 3, 4, 5, 6, 7, 8, 9, 10, 11, 12, 13, 14, 15, 16, 17, 18, 19, 20, 21, 22, 23] jn_M__C (by decide) jn_M__R (by decide) (by decide) (by decide) jn_M__W rfl rfl rfl hl rfl rfl (Nat.le_of_ble_eq_true rfl) ⟨Nat.zero_le _, Nat.zero_le _⟩ d_M_declare_28 (fun H locs _ hP hD hS => ?_)
  try dsimp only at h
  refine lv_if_ne (tgt := 36) hx hb d_M_declare_31 (by decide) (fun hc => ?_) (fun hc => ?_)
  · rw [if_neg hc] at h
    refine lv_aload_n hx hb d_M_declare_36 rfl (lv_at hl 0 rfl) ?_
    refine va_get (ci := 4) (v := .ref (a 21)) (C := R_M) (T := F_M) (N := 35) hx hb hts i_M hown hK.1 hP 0 rfl rfl 4 (by decide) (hts _ wd_392) (fun _ h9 => h9) rfl d_M_declare_37 ?_
    refine lv_aload_n hx hb d_M_declare_40 rfl (lv_at hl 0 rfl) ?_
    refine va_get (ci := 4) (v := .int (M_classes r1.2)) (C := R_M) (T := F_M) (N := 35) hx hb hts i_M hown hK.1 hP 0 rfl rfl 2 (by decide) (hts _ wd_343) (fun _ h9 => h9) rfl d_M_declare_41 ?_
    refine lv_iload_n hx hb d_M_declare_44 rfl (lv_at hl 1 rfl) ?_
    replace h := gd h
    obtain ⟨hi, h⟩ := h
    refine rw_zast C0 hP hD hS 1 1 rfl rfl hi d_M_declare_45 (Wn := (wM cI cZ a q (M_put_face r1.2 (M_classes r1.2) (vp_nar .boolean x1)))) ws_M_put_face (fun H locs hP hD hS => ?_)
    refine lv_aload_n hx hb d_M_declare_46 rfl (lv_at hl 0 rfl) ?_
    refine va_get (ci := 4) (v := .ref (a 22)) (C := R_M) (T := F_M) (N := 35) hx hb hts i_M hown hK.1 hP 0 rfl rfl 5 (by decide) (hts _ wd_393) (fun _ h9 => h9) rfl d_M_declare_47 ?_
    refine lv_aload_n hx hb d_M_declare_50 rfl (lv_at hl 0 rfl) ?_
    refine va_get (ci := 4) (v := .int (M_classes (M_put_face r1.2 (M_classes r1.2) (vp_nar .boolean x1)))) (C := R_M) (T := F_M) (N := 35) hx hb hts i_M hown hK.1 hP 0 rfl rfl 2 (by decide) (hts _ wd_343) (fun _ h9 => h9) rfl d_M_declare_51 ?_
    refine lv_iload_n hx hb d_M_declare_54 rfl (lv_at hl 2 rfl) ?_
    replace h := gd h
    obtain ⟨hi, h⟩ := h
    refine rw_zast C0 hP hD hS 2 1 rfl rfl hi d_M_declare_55 (Wn := (wM cI cZ a q (M_put_generic (M_put_face r1.2 (M_classes r1.2) (vp_nar .boolean x1)) (M_classes (M_put_face r1.2 (M_classes r1.2) (vp_nar .boolean x1))) (vp_nar .boolean x2)))) ws_M_put_generic (fun H locs hP hD hS => ?_)
    refine lv_aload_n hx hb d_M_declare_56 rfl (lv_at hl 0 rfl) ?_
    refine lv_dup hx hb d_M_declare_57 rfl ?_
    refine va_get (ci := 4) (v := .int (M_generics (M_put_generic (M_put_face r1.2 (M_classes r1.2) (vp_nar .boolean x1)) (M_classes (M_put_face r1.2 (M_classes r1.2) (vp_nar .boolean x1))) (vp_nar .boolean x2)))) (C := R_M) (T := F_M) (N := 35) hx hb hts i_M hown hK.1 hP 0 rfl rfl 3 (by decide) (hts _ wd_394) (fun _ h9 => h9) rfl d_M_declare_58 ?_
    refine lv_iload_n hx hb d_M_declare_61 rfl (lv_at hl 2 rfl) ?_
    refine lv_if_eq (tgt := 69) hx hb d_M_declare_62 (by decide) (fun hc => ?_) (fun hc => ?_)
    · rw [if_pos hc] at h
      refine lv_iconst (v := 0) hx hb d_M_declare_69 (by decide) ?_
      exact t_M_declare_70 (a := a) C0 hA  h hP hD hS (lv_sub hl [0] rfl)
    · rw [if_neg hc] at h
      refine lv_iconst (v := 1) hx hb d_M_declare_65 (by decide) ?_
      refine lv_goto (tgt := 70) hx hb d_M_declare_66 (by decide) ?_
      exact t_M_declare_70 (a := a) C0 hA  h hP hD hS (lv_sub hl [0] rfl)
  · rw [if_pos hc] at h
    refine lv_iconst (v := 0) hx hb d_M_declare_34 (by decide) ?_
    exact rw_ret C0 hP hD hS (Option.some.inj h) d_M_declare_35
set_option maxHeartbeats 4000000 in
set_option maxRecDepth 100000 in
theorem t_M_declare_23 {p : Program} {l : Launch} {e : Env} {s : State} {m : MethodId} {args : Array Value} {below : List Frame} {meth : Method} {c : Code} {D : va_G} {cI cZ : ClassId} {a : Nat → Nat} {A : Nat → Prop} (C0 : Am p s m args meth c b_M_declare (some .int) 3 R_M D [(cI, .int), (cZ, .boolean)]) (hA : ∀ q, s.heap.size ≤ q → A q) {res : Int32 × StM}   {q : Nat} {σ : StM} {x1 x2 : Int32} (h : f_M_declare_23 σ x1 x2 = some res) {H : Heap} {locs : List Loc} (hP : va_P D vwCl (wM cI cZ a q σ) H) (hD : va_D A (wM cI cZ a q σ)) (hS : va_S A s.heap H locs) {ls : Array Slot} (hl : lv_has ls 3 [(0, .ref (a 20)), (1, .int x1), (2, .int x2)]) : W p l e (rmK 1 24 0 0) s m args below meth c H locs 0 0 (RwQ below args s D A (fun q (σ : StM) => (wM cI cZ a q σ)) res 0 0) (F0 m 23 ls [.ref (a 20)]) := by
  obtain ⟨hx, hb, hr, hml, hown, hts, hlk, hK⟩ := id C0
  unfold f_M_declare_23 at h
  refine lv_iconst (v := 1) hx hb d_M_declare_23 (by decide) ?_
  refine lv_goto (tgt := 28) hx hb d_M_declare_24 (by decide) ?_
  exact t_M_declare_28 (a := a) C0 hA  h hP hD hS (lv_sub hl [0, 1, 2] rfl)
set_option maxHeartbeats 4000000 in
set_option maxRecDepth 100000 in
theorem t_M_declare_27 {p : Program} {l : Launch} {e : Env} {s : State} {m : MethodId} {args : Array Value} {below : List Frame} {meth : Method} {c : Code} {D : va_G} {cI cZ : ClassId} {a : Nat → Nat} {A : Nat → Prop} (C0 : Am p s m args meth c b_M_declare (some .int) 3 R_M D [(cI, .int), (cZ, .boolean)]) (hA : ∀ q, s.heap.size ≤ q → A q) {res : Int32 × StM}   {q : Nat} {σ : StM} {x1 x2 : Int32} (h : f_M_declare_27 σ x1 x2 = some res) {H : Heap} {locs : List Loc} (hP : va_P D vwCl (wM cI cZ a q σ) H) (hD : va_D A (wM cI cZ a q σ)) (hS : va_S A s.heap H locs) {ls : Array Slot} (hl : lv_has ls 3 [(0, .ref (a 20)), (1, .int x1), (2, .int x2)]) : W p l e (rmK 1 24 0 0) s m args below meth c H locs 0 0 (RwQ below args s D A (fun q (σ : StM) => (wM cI cZ a q σ)) res 0 0) (F0 m 27 ls [.ref (a 20)]) := by
  obtain ⟨hx, hb, hr, hml, hown, hts, hlk, hK⟩ := id C0
  unfold f_M_declare_27 at h
  refine lv_iconst (v := 0) hx hb d_M_declare_27 (by decide) ?_
  exact t_M_declare_28 (a := a) C0 hA  h hP hD hS (lv_sub hl [0, 1, 2] rfl)
set_option maxHeartbeats 4000000 in
set_option maxRecDepth 100000 in
theorem t_M_declare_0 {p : Program} {l : Launch} {e : Env} {s : State} {m : MethodId} {args : Array Value} {below : List Frame} {meth : Method} {c : Code} {D : va_G} {cI cZ : ClassId} {a : Nat → Nat} {A : Nat → Prop} (C0 : Am p s m args meth c b_M_declare (some .int) 3 R_M D [(cI, .int), (cZ, .boolean)]) (hA : ∀ q, s.heap.size ≤ q → A q) {res : Int32 × StM}   {q : Nat} {σ : StM} {x1 x2 : Int32} (h : f_M_declare σ x1 x2 = some res) {H : Heap} {locs : List Loc} (hP : va_P D vwCl (wM cI cZ a q σ) H) (hD : va_D A (wM cI cZ a q σ)) (hS : va_S A s.heap H locs) {ls : Array Slot} (hl : lv_has ls 3 [(0, .ref (a 20)), (1, .int x1), (2, .int x2)]) : W p l e (rmK 1 24 0 0) s m args below meth c H locs 0 0 (RwQ below args s D A (fun q (σ : StM) => (wM cI cZ a q σ)) res 0 0) (F0 m 0 ls []) := by
  obtain ⟨hx, hb, hr, hml, hown, hts, hlk, hK⟩ := id C0
  unfold f_M_declare at h
  refine lv_aload_n hx hb d_M_declare_0 rfl (lv_at hl 0 rfl) ?_
  refine lv_aload_n hx hb d_M_declare_1 rfl (lv_at hl 0 rfl) ?_
  refine va_get (ci := 4) (v := .int (M_classes σ)) (C := R_M) (T := F_M) (N := 35) hx hb hts i_M hown hK.1 hP 0 rfl rfl 2 (by decide) (hts _ wd_343) (fun _ h9 => h9) rfl d_M_declare_2 ?_
  refine lv_bipush (v := 30) hx hb d_M_declare_5 (by decide) ?_
  refine lv_icmp_eq (tgt := 23) hx hb d_M_declare_7 (by decide) (fun hc => ?_) (fun hc => ?_)
  · rw [if_pos hc] at h
    exact t_M_declare_23 (a := a) C0 hA  h hP hD hS (lv_sub hl [0, 1, 2] rfl)
  · rw [if_neg hc] at h
    refine lv_iload_n hx hb d_M_declare_10 rfl (lv_at hl 2 rfl) ?_
    refine lv_if_eq (tgt := 27) hx hb d_M_declare_11 (by decide) (fun hc => ?_) (fun hc => ?_)
    · rw [if_pos hc] at h
      exact t_M_declare_27 (a := a) C0 hA  h hP hD hS (lv_sub hl [0, 1, 2] rfl)
    · rw [if_neg hc] at h
      refine lv_aload_n hx hb d_M_declare_14 rfl (lv_at hl 0 rfl) ?_
      refine va_get (ci := 4) (v := .int (M_generics σ)) (C := R_M) (T := F_M) (N := 35) hx hb hts i_M hown hK.1 hP 0 rfl rfl 3 (by decide) (hts _ wd_394) (fun _ h9 => h9) rfl d_M_declare_15 ?_
      refine lv_bipush (v := 6) hx hb d_M_declare_18 (by decide) ?_
      refine lv_icmp_ne (tgt := 27) hx hb d_M_declare_20 (by decide) (fun hc => ?_) (fun hc => ?_)
      · rw [if_neg hc] at h
        exact t_M_declare_27 (a := a) C0 hA  h hP hD hS (lv_sub hl [0, 1, 2] rfl)
      · rw [if_pos hc] at h
        exact t_M_declare_23 (a := a) C0 hA  h hP hD hS (lv_sub hl [0, 1, 2] rfl)
set_option maxHeartbeats 4000000 in
set_option maxRecDepth 100000 in
theorem c_M_declare (l : Launch) (D : va_G) (cI cZ : ClassId) (a : Nat → Nat) (q : Nat) (σ : StM) (x1 : Int32) (x2 : Int32) {res : Int32 × StM} (h : f_M_declare σ x1 x2 = some res) : RwM l y_M_declare b_M_declare 3 (some .int) 1 24 D [(cI, .int), (cZ, .boolean)] [.ref (a 20), .int x1, .int x2] (fun q (σ : StM) => (wM cI cZ a q σ)) q σ res :=
  rw_of (by decide) (Nat.le_of_ble_eq_true rfl) (fun p e s m args below meth c ls A C0 hA hP hD hS hl => t_M_declare_0 (a := a) C0 hA h hP hD hS (lv_sub hl [0, 1, 2] rfl))
-- part 07.6M.18M_hasDirect.lean.txt
def f_M_hasDirect_36 (k5 : StM → Int32 → Int32 → Int32 → Int32 → Option Int32) (σ : StM) (x1 x2 x4 : Int32) : Option Int32 :=
  k5 σ x1 x2 1 (x4 + 1)
def f_M_hasDirect_5_s (k5 : StM → Int32 → Int32 → Int32 → Int32 → Option Int32) (σ : StM) (x1 x2 x3 x4 : Int32) : Option Int32 :=
  if x1 < 0 ∨ 30 ≤ x1.toNatClampNeg then none else
  if ((M_directs σ) x1.toNatClampNeg) ≤ x4 then
    some (x3 &&& 1)
  else
    if x3 = 0 then
      if ((30 * x1) + x4) < 0 ∨ 900 ≤ ((30 * x1) + x4).toNatClampNeg then none else
      if ((M_directTo σ) ((30 * x1) + x4).toNatClampNeg) = x2 then
        f_M_hasDirect_36 k5 σ x1 x2 x4
      else
        k5 σ x1 x2 0 (x4 + 1)
    else
      f_M_hasDirect_36 k5 σ x1 x2 x4
def f_M_hasDirect_5 : Nat → StM → Int32 → Int32 → Int32 → Int32 → Option Int32
  | 0, _, _, _, _, _ => none
  | n + 1, σ, x1, x2, x3, x4 => f_M_hasDirect_5_s (f_M_hasDirect_5 n) σ x1 x2 x3 x4
def f_M_hasDirect (σ : StM) (x1 x2 : Int32) : Option Int32 :=
  f_M_hasDirect_5 1000 σ x1 x2 0 0
set_option maxHeartbeats 4000000 in
set_option maxRecDepth 100000 in
theorem t_M_hasDirect_36 {p : Program} {l : Launch} {e : Env} {s : State} {m : MethodId} {args : Array Value} {below : List Frame} {meth : Method} {c : Code} {D : va_G} {cI cZ : ClassId} {a : Nat → Nat} {q : Nat} {σ : StM} (C0 : Am p s m args meth c b_M_hasDirect (some .boolean) 5 R_M D [(cI, .int), (cZ, .boolean)]) (hP : va_P D vwCl (wM cI cZ a q σ) s.heap) {val : Int32} {k5 : StM → Int32 → Int32 → Int32 → Int32 → Option Int32} (hk5 : ∀ (x1 x2 x3 x4 : Int32) (ls : Array Slot), k5 σ x1 x2 x3 x4 = some val → lv_has ls 5 [(0, .ref (a 20)), (1, .int x1), (2, .int x2), (3, .int x3), (4, .int x4)] → RoW p l e (rmK 0 0 0 0) s m args below meth c val (F0 m 5 ls []))  {x1 x2 x4 : Int32} (h : f_M_hasDirect_36 k5 σ x1 x2 x4 = some val) {ls : Array Slot} (hl : lv_has ls 5 [(0, .ref (a 20)), (1, .int x1), (2, .int x2), (4, .int x4)]) : RoW p l e (rmK 0 0 0 0) s m args below meth c val (F0 m 36 ls []) := by
  obtain ⟨hx, hb, hr, hml, hown, hts, hlk, hK⟩ := id C0
  unfold f_M_hasDirect_36 at h
  refine lv_iconst (v := 1) hx hb d_M_hasDirect_36 (by decide) ?_
  refine lv_goto (tgt := 41) hx hb d_M_hasDirect_37 (by decide) ?_
  refine lv_istore_n (lv' := [(3, .int 1), (0, .ref (a 20)), (1, .int x1), (2, .int x2), (4, .int x4)]) hx hb d_M_hasDirect_41 rfl hl (by decide) rfl (fun ls hl => ?_)
  refine lv_iinc (v := (x4 + 1)) (lv' := [(4, .int (x4 + 1)), (3, .int 1), (0, .ref (a 20)), (1, .int x1), (2, .int x2)]) hx hb d_M_hasDirect_42 hl (k := 4) rfl rfl (by decide) rfl (fun ls hl => ?_)
  refine lv_goto (tgt := 5) hx hb d_M_hasDirect_45 (by decide) ?_
  exact hk5 _ _ _ _ _ h (lv_sub hl [2, 3, 4, 1, 0] rfl)
set_option maxHeartbeats 4000000 in
set_option maxRecDepth 100000 in
theorem t_M_hasDirect_5_s {p : Program} {l : Launch} {e : Env} {s : State} {m : MethodId} {args : Array Value} {below : List Frame} {meth : Method} {c : Code} {D : va_G} {cI cZ : ClassId} {a : Nat → Nat} {q : Nat} {σ : StM} (C0 : Am p s m args meth c b_M_hasDirect (some .boolean) 5 R_M D [(cI, .int), (cZ, .boolean)]) (hP : va_P D vwCl (wM cI cZ a q σ) s.heap) {val : Int32} {k5 : StM → Int32 → Int32 → Int32 → Int32 → Option Int32}  (hk5 : ∀ (x1 x2 x3 x4 : Int32) (ls : Array Slot), k5 σ x1 x2 x3 x4 = some val → lv_has ls 5 [(0, .ref (a 20)), (1, .int x1), (2, .int x2), (3, .int x3), (4, .int x4)] → RoW p l e (rmK 0 0 0 0) s m args below meth c val (F0 m 5 ls [])) {x1 x2 x3 x4 : Int32} (h : f_M_hasDirect_5_s k5 σ x1 x2 x3 x4 = some val) {ls : Array Slot} (hl : lv_has ls 5 [(0, .ref (a 20)), (1, .int x1), (2, .int x2), (3, .int x3), (4, .int x4)]) : RoW p l e (rmK 0 0 0 0) s m args below meth c val (F0 m 5 ls []) := by
  obtain ⟨hx, hb, hr, hml, hown, hts, hlk, hK⟩ := id C0
  unfold f_M_hasDirect_5_s at h
  refine lv_iload hx hb d_M_hasDirect_5 (lv_at hl 4 rfl) ?_
  refine lv_aload_n hx hb d_M_hasDirect_7 rfl (lv_at hl 0 rfl) ?_
  refine va_get (ci := 4) (v := .ref (a 23)) (C := R_M) (T := F_M) (N := 35) hx hb hts i_M hown hK.1 hP 0 rfl rfl 6 (by decide) (hts _ wd_339) (fun _ h9 => h9) rfl d_M_hasDirect_8 ?_
  refine lv_iload_n hx hb d_M_hasDirect_11 rfl (lv_at hl 1 rfl) ?_
  replace h := gd h
  obtain ⟨hi, h⟩ := h
  refine va_iald hx hb hK.1 hP 3 0 rfl rfl hi d_M_hasDirect_12 ?_
  refine lv_icmp_ge (tgt := 48) hx hb d_M_hasDirect_13 (by decide) (fun hc => ?_) (fun hc => ?_)
  · rw [if_pos hc] at h
    refine lv_iload_n hx hb d_M_hasDirect_48 rfl (lv_at hl 3 rfl) ?_
    exact ro_retz C0 rfl (Option.some.inj h) d_M_hasDirect_49
  · rw [if_neg hc] at h
    refine lv_iload_n hx hb d_M_hasDirect_16 rfl (lv_at hl 3 rfl) ?_
    refine lv_if_ne (tgt := 36) hx hb d_M_hasDirect_17 (by decide) (fun hc => ?_) (fun hc => ?_)
    · rw [if_neg hc] at h
      exact t_M_hasDirect_36 (a := a) C0 hP hk5 h (lv_sub hl [0, 1, 2, 4] rfl)
    · rw [if_pos hc] at h
      refine lv_aload_n hx hb d_M_hasDirect_20 rfl (lv_at hl 0 rfl) ?_
      refine va_get (ci := 4) (v := .ref (a 24)) (C := R_M) (T := F_M) (N := 35) hx hb hts i_M hown hK.1 hP 0 rfl rfl 7 (by decide) (hts _ wd_338) (fun _ h9 => h9) rfl d_M_hasDirect_21 ?_
      refine lv_bipush (v := 30) hx hb d_M_hasDirect_24 (by decide) ?_
      refine lv_iload_n hx hb d_M_hasDirect_26 rfl (lv_at hl 1 rfl) ?_
      refine lv_imul hx hb d_M_hasDirect_27 ?_
      refine lv_iload hx hb d_M_hasDirect_28 (lv_at hl 4 rfl) ?_
      refine lv_iadd hx hb d_M_hasDirect_30 ?_
      replace h := gd h
      obtain ⟨hi, h⟩ := h
      refine va_iald hx hb hK.1 hP 4 0 rfl rfl hi d_M_hasDirect_31 ?_
      refine lv_iload_n hx hb d_M_hasDirect_32 rfl (lv_at hl 2 rfl) ?_
      refine lv_icmp_ne (tgt := 40) hx hb d_M_hasDirect_33 (by decide) (fun hc => ?_) (fun hc => ?_)
      · rw [if_neg hc] at h
        refine lv_iconst (v := 0) hx hb d_M_hasDirect_40 (by decide) ?_
        refine lv_istore_n (lv' := [(3, .int 0), (0, .ref (a 20)), (1, .int x1), (2, .int x2), (4, .int x4)]) hx hb d_M_hasDirect_41 rfl hl (by decide) rfl (fun ls hl => ?_)
        refine lv_iinc (v := (x4 + 1)) (lv' := [(4, .int (x4 + 1)), (3, .int 0), (0, .ref (a 20)), (1, .int x1), (2, .int x2)]) hx hb d_M_hasDirect_42 hl (k := 4) rfl rfl (by decide) rfl (fun ls hl => ?_)
        refine lv_goto (tgt := 5) hx hb d_M_hasDirect_45 (by decide) ?_
        exact hk5 _ _ _ _ _ h (lv_sub hl [2, 3, 4, 1, 0] rfl)
      · rw [if_pos hc] at h
        exact t_M_hasDirect_36 (a := a) C0 hP hk5 h (lv_sub hl [0, 1, 2, 4] rfl)
set_option maxHeartbeats 4000000 in
set_option maxRecDepth 100000 in
theorem t_M_hasDirect_5 {p : Program} {l : Launch} {e : Env} {s : State} {m : MethodId} {args : Array Value} {below : List Frame} {meth : Method} {c : Code} {D : va_G} {cI cZ : ClassId} {a : Nat → Nat} {q : Nat} {σ : StM} (C0 : Am p s m args meth c b_M_hasDirect (some .boolean) 5 R_M D [(cI, .int), (cZ, .boolean)]) (hP : va_P D vwCl (wM cI cZ a q σ) s.heap) {val : Int32}  {n : Nat} {x1 x2 x3 x4 : Int32} (h : f_M_hasDirect_5  n σ x1 x2 x3 x4 = some val) {ls : Array Slot} (hl : lv_has ls 5 [(0, .ref (a 20)), (1, .int x1), (2, .int x2), (3, .int x3), (4, .int x4)]) : RoW p l e (rmK 0 0 0 0) s m args below meth c val (F0 m 5 ls []) := by
  induction n generalizing x1 x2 x3 x4 ls with
  | zero => cases h
  | succ n ih => exact t_M_hasDirect_5_s (a := a) C0 hP  (fun _ _ _ _ _ h hl => ih h hl) h hl
set_option maxHeartbeats 4000000 in
set_option maxRecDepth 100000 in
theorem t_M_hasDirect_0 {p : Program} {l : Launch} {e : Env} {s : State} {m : MethodId} {args : Array Value} {below : List Frame} {meth : Method} {c : Code} {D : va_G} {cI cZ : ClassId} {a : Nat → Nat} {q : Nat} {σ : StM} (C0 : Am p s m args meth c b_M_hasDirect (some .boolean) 5 R_M D [(cI, .int), (cZ, .boolean)]) (hP : va_P D vwCl (wM cI cZ a q σ) s.heap) {val : Int32}   {x1 x2 : Int32} (h : f_M_hasDirect σ x1 x2 = some val) {ls : Array Slot} (hl : lv_has ls 5 [(0, .ref (a 20)), (1, .int x1), (2, .int x2)]) : RoW p l e (rmK 0 0 0 0) s m args below meth c val (F0 m 0 ls []) := by
  obtain ⟨hx, hb, hr, hml, hown, hts, hlk, hK⟩ := id C0
  unfold f_M_hasDirect at h
  refine lv_iconst (v := 0) hx hb d_M_hasDirect_0 (by decide) ?_
  refine lv_istore_n (lv' := [(3, .int 0), (0, .ref (a 20)), (1, .int x1), (2, .int x2)]) hx hb d_M_hasDirect_1 rfl hl (by decide) rfl (fun ls hl => ?_)
  refine lv_iconst (v := 0) hx hb d_M_hasDirect_2 (by decide) ?_
  refine lv_istore (lv' := [(4, .int 0), (3, .int 0), (0, .ref (a 20)), (1, .int x1), (2, .int x2)]) hx hb d_M_hasDirect_3 hl (by decide) rfl (fun ls hl => ?_)
  exact t_M_hasDirect_5 (a := a) C0 hP  h (lv_sub hl [2, 3, 4, 1, 0] rfl)
set_option maxHeartbeats 4000000 in
set_option maxRecDepth 100000 in
theorem c_M_hasDirect (l : Launch) (D : va_G) (cI cZ : ClassId) (a : Nat → Nat) (q : Nat) (σ : StM) (x1 : Int32) (x2 : Int32) {val : Int32} (h : f_M_hasDirect σ x1 x2 = some val) : RoM l y_M_hasDirect b_M_hasDirect 5 (some .boolean) 0 0 D [(cI, .int), (cZ, .boolean)] [.ref (a 20), .int x1, .int x2] (wM cI cZ a q σ) val :=
  ro_of (by decide) (Nat.le_of_ble_eq_true rfl) (fun p e s m args below meth c ls C0 hP hl => t_M_hasDirect_0 (a := a) C0 hP h (lv_sub hl [0, 1, 2] rfl))
