def f_M_lower_64 (σ : StM) (x1 x2 : Int32) : Option (Int32 × StM) :=
  if ((300 * x1) + x2) < 0 ∨ 90000 ≤ ((300 * x1) + x2).toNatClampNeg then none else
  if ((M_below σ) ((300 * x1) + x2).toNatClampNeg) = 0 then
    some (x2, σ)
  else
    some (x1, σ)
def f_M_lower_262_s (k252 : StM → Int32 → Int32 → Option (Int32 × StM)) (k262 : StM → Int32 → Int32 → Int32 → Option (Int32 × StM)) (σ : StM) (x4 x5 x6 : Int32) : Option (Int32 × StM) :=
  if x5 ≤ x6 then
    k252 σ x4 (x5 + 1)
  else
    if x5 < 0 ∨ 64 ≤ x5.toNatClampNeg then none else
    if ((M_row σ) x5.toNatClampNeg) < 0 ∨ 300 ≤ ((M_row σ) x5.toNatClampNeg).toNatClampNeg then none else
    if x6 < 0 ∨ 64 ≤ x6.toNatClampNeg then none else
    if ((M_row σ) x6.toNatClampNeg) < 0 ∨ 300 ≤ ((M_row σ) x6.toNatClampNeg).toNatClampNeg then none else
    if ((M_classOf σ) ((M_row σ) x5.toNatClampNeg).toNatClampNeg) = ((M_classOf σ) ((M_row σ) x6.toNatClampNeg).toNatClampNeg) then
      some ((-1), σ)
    else
      if ((M_classOf σ) ((M_row σ) x5.toNatClampNeg).toNatClampNeg) < 0 ∨ 30 ≤ ((M_classOf σ) ((M_row σ) x5.toNatClampNeg).toNatClampNeg).toNatClampNeg then none else
      if ((M_face σ) ((M_classOf σ) ((M_row σ) x5.toNatClampNeg).toNatClampNeg).toNatClampNeg) = 0 then
        if ((M_classOf σ) ((M_row σ) x6.toNatClampNeg).toNatClampNeg) < 0 ∨ 30 ≤ ((M_classOf σ) ((M_row σ) x6.toNatClampNeg).toNatClampNeg).toNatClampNeg then none else
        if ((M_face σ) ((M_classOf σ) ((M_row σ) x6.toNatClampNeg).toNatClampNeg).toNatClampNeg) = 0 then
          some ((-1), σ)
        else
          k262 σ x4 x5 (x6 + 1)
      else
        k262 σ x4 x5 (x6 + 1)
def f_M_lower_262 (k252 : StM → Int32 → Int32 → Option (Int32 × StM)) : Nat → StM → Int32 → Int32 → Int32 → Option (Int32 × StM)
  | 0, _, _, _, _ => none
  | n + 1, σ, x4, x5, x6 => f_M_lower_262_s k252 (f_M_lower_262 k252 n) σ x4 x5 x6
def f_M_lower_252_s (k252 : StM → Int32 → Int32 → Option (Int32 × StM)) (σ : StM) (x4 x5 : Int32) : Option (Int32 × StM) :=
  if x4 ≤ x5 then
    (f_M_addBoth σ x4).bind fun r3 =>
    (f_M_end r3.2 (M_types σ) r3.1 2).bind fun r4 =>
    some (r4.1, r4.2)
  else
    f_M_lower_262 k252 1000 σ x4 x5 0
def f_M_lower_252 : Nat → StM → Int32 → Int32 → Option (Int32 × StM)
  | 0, _, _, _ => none
  | n + 1, σ, x4, x5 => f_M_lower_252_s (f_M_lower_252 n) σ x4 x5
def f_M_lower_213 (k125 : StM → Int32 → Int32 → Int32 → Int32 → Int32 → Option (Int32 × StM)) (k147 : StM → Int32 → Int32 → Int32 → Int32 → Int32 → Int32 → Int32 → Int32 → Option (Int32 × StM)) (σ : StM) (x1 x2 x3 x4 x5 x6 x8 : Int32) : Option (Int32 × StM) :=
  k147 σ x1 x2 x3 x4 x5 x6 1 (x8 + 1)
def f_M_lower_189 (k125 : StM → Int32 → Int32 → Int32 → Int32 → Int32 → Option (Int32 × StM)) (k147 : StM → Int32 → Int32 → Int32 → Int32 → Int32 → Int32 → Int32 → Int32 → Option (Int32 × StM)) (σ : StM) (x1 x2 x3 x4 x5 x6 x8 x9 : Int32) : Option (Int32 × StM) :=
  if x6 = x9 then
    k147 σ x1 x2 x3 x4 x5 x6 0 (x8 + 1)
  else
    if ((300 * x9) + x6) < 0 ∨ 90000 ≤ ((300 * x9) + x6).toNatClampNeg then none else
    if ((M_below σ) ((300 * x9) + x6).toNatClampNeg) = 0 then
      f_M_lower_213 k125 k147 σ x1 x2 x3 x4 x5 x6 x8
    else
      k147 σ x1 x2 x3 x4 x5 x6 0 (x8 + 1)
def f_M_lower_147_s (k125 : StM → Int32 → Int32 → Int32 → Int32 → Int32 → Option (Int32 × StM)) (k147 : StM → Int32 → Int32 → Int32 → Int32 → Int32 → Int32 → Int32 → Int32 → Option (Int32 × StM)) (σ : StM) (x1 x2 x3 x4 x5 x6 x7 x8 : Int32) : Option (Int32 × StM) :=
  if x3 ≤ x8 then
    if x7 = 0 then
      k125 σ x1 x2 x3 x4 (x5 + 1)
    else
      if x4 < 0 ∨ 64 ≤ x4.toNatClampNeg then none else
      k125 (M_put_row σ x4 x6) x1 x2 x3 (x4 + 1) (x5 + 1)
  else
    (f_M_partOf σ x1 x2 x8).bind fun r6 =>
    if x7 = 0 then
      k147 σ x1 x2 x3 x4 x5 x6 0 (x8 + 1)
    else
      if x5 = x8 then
        f_M_lower_213 k125 k147 σ x1 x2 x3 x4 x5 x6 x8
      else
        if x6 = r6 then
          if x5 < x8 then
            f_M_lower_213 k125 k147 σ x1 x2 x3 x4 x5 x6 x8
          else
            f_M_lower_189 k125 k147 σ x1 x2 x3 x4 x5 x6 x8 r6
        else
          f_M_lower_189 k125 k147 σ x1 x2 x3 x4 x5 x6 x8 r6
def f_M_lower_147 (k125 : StM → Int32 → Int32 → Int32 → Int32 → Int32 → Option (Int32 × StM)) : Nat → StM → Int32 → Int32 → Int32 → Int32 → Int32 → Int32 → Int32 → Int32 → Option (Int32 × StM)
  | 0, _, _, _, _, _, _, _, _, _ => none
  | n + 1, σ, x1, x2, x3, x4, x5, x6, x7, x8 => f_M_lower_147_s k125 (f_M_lower_147 k125 n) σ x1 x2 x3 x4 x5 x6 x7 x8
def f_M_lower_125_s (k125 : StM → Int32 → Int32 → Int32 → Int32 → Int32 → Option (Int32 × StM)) (σ : StM) (x1 x2 x3 x4 x5 : Int32) : Option (Int32 × StM) :=
  if x3 ≤ x5 then
    f_M_lower_252 1000 σ x4 0
  else
    (f_M_partOf σ x1 x2 x5).bind fun r5 =>
    f_M_lower_147 k125 1000 σ x1 x2 x3 x4 x5 r5 1 0
def f_M_lower_125 : Nat → StM → Int32 → Int32 → Int32 → Int32 → Int32 → Option (Int32 × StM)
  | 0, _, _, _, _, _, _ => none
  | n + 1, σ, x1, x2, x3, x4, x5 => f_M_lower_125_s (f_M_lower_125 n) σ x1 x2 x3 x4 x5
def f_M_lower_22 (σ : StM) (x1 x2 t1 : Int32) : Option (Int32 × StM) :=
  (f_M_good σ t1).bind fun r1 =>
  if r1.1 = 0 then
    some (0, r1.2)
  else
    (f_M_reckonBelow r1.2).bind fun r2 =>
    if ((300 * x1) + x2) < 0 ∨ 90000 ≤ ((300 * x1) + x2).toNatClampNeg then none else
    if ((M_below r2.2) ((300 * x1) + x2).toNatClampNeg) = 0 then
      if ((300 * x2) + x1) < 0 ∨ 90000 ≤ ((300 * x2) + x1).toNatClampNeg then none else
      if ((M_below r2.2) ((300 * x2) + x1).toNatClampNeg) = 0 then
        if x1 < 0 ∨ 300 ≤ x1.toNatClampNeg then none else
        if x2 < 0 ∨ 300 ≤ x2.toNatClampNeg then none else
        if x1 < 0 ∨ 300 ≤ x1.toNatClampNeg then none else
        if ((M_partCount r2.2) x1.toNatClampNeg) = 0 then
          some ((-1), r2.2)
        else
          if x2 < 0 ∨ 300 ≤ x2.toNatClampNeg then none else
          if ((M_partCount r2.2) x2.toNatClampNeg) = 0 then
            some ((-1), r2.2)
          else
            f_M_lower_125 1000 r2.2 x1 x2 (((M_partCount r2.2) x1.toNatClampNeg) + ((M_partCount r2.2) x2.toNatClampNeg)) 0 0
      else
        f_M_lower_64 r2.2 x1 x2
    else
      f_M_lower_64 r2.2 x1 x2
def f_M_lower_21 (σ : StM) (x1 x2 : Int32) : Option (Int32 × StM) :=
  f_M_lower_22 σ x1 x2 1
def f_M_lower (σ : StM) (x1 x2 : Int32) : Option (Int32 × StM) :=
  if (f_M_isType σ x1) = 0 then
    f_M_lower_21 σ x1 x2
  else
    if (f_M_isType σ x2) = 0 then
      f_M_lower_21 σ x1 x2
    else
      f_M_lower_22 σ x1 x2 0
set_option maxHeartbeats 4000000 in
set_option maxRecDepth 100000 in
theorem t_M_lower_64 {p : Program} {l : Launch} {e : Env} {s : State} {m : MethodId} {args : Array Value} {below : List Frame} {meth : Method} {c : Code} {D : va_G} {cI cZ : ClassId} {a : Nat → Nat} {A : Nat → Prop} (C0 : Am p s m args meth c b_M_lower (some .int) 10 R_M D [(cI, .int), (cZ, .boolean)]) (hA : ∀ q, s.heap.size ≤ q → A q) {res : Int32 × StM}   {q : Nat} {σ : StM} {x1 x2 : Int32} (h : f_M_lower_64 σ x1 x2 = some res) {H : Heap} {locs : List Loc} (hP : va_P D vwCl (wM cI cZ a q σ) H) (hD : va_D A (wM cI cZ a q σ)) (hS : va_S A s.heap H locs) {ls : Array Slot} (hl : lv_has ls 10 [(0, .ref (a 20)), (1, .int x1), (2, .int x2)]) : W p l e (rmK 5 122 0 0) s m args below meth c H locs 0 0 (RwQ below args s D A (fun q (σ : StM) => (wM cI cZ a q σ)) res 0 0) (F0 m 64 ls []) := by
  obtain ⟨hx, hb, hr, hml, hown, hts, hlk, hK⟩ := id C0
  unfold f_M_lower_64 at h
  refine lv_aload_n hx hb d_M_lower_64 rfl (lv_at hl 0 rfl) ?_
  refine va_get (ci := 4) (v := .ref (a 35)) (C := R_M) (T := F_M) (N := 35) hx hb hts i_M hown hK.1 hP 0 rfl rfl 23 (by decide) (hts _ wd_370) (fun _ h9 => h9) rfl d_M_lower_65 ?_
  refine lv_sipush (v := 300) hx hb d_M_lower_68 (by decide) ?_
  refine lv_iload_n hx hb d_M_lower_71 rfl (lv_at hl 1 rfl) ?_
  refine lv_imul hx hb d_M_lower_72 ?_
  refine lv_iload_n hx hb d_M_lower_73 rfl (lv_at hl 2 rfl) ?_
  refine lv_iadd hx hb d_M_lower_74 ?_
  replace h := gd h
  obtain ⟨hi, h⟩ := h
  refine va_zald hx hb hK.1 hP 15 1 rfl rfl hi d_M_lower_75 ?_
  refine lv_if_eq (tgt := 83) hx hb d_M_lower_76 (by decide) (fun hc => ?_) (fun hc => ?_)
  · rw [if_pos hc] at h
    refine lv_iload_n hx hb d_M_lower_83 rfl (lv_at hl 2 rfl) ?_
    exact rw_ret C0 hP hD hS (Option.some.inj h) d_M_lower_84
  · rw [if_neg hc] at h
    refine lv_iload_n hx hb d_M_lower_79 rfl (lv_at hl 1 rfl) ?_
    refine lv_goto (tgt := 84) hx hb d_M_lower_80 (by decide) ?_
    exact rw_ret C0 hP hD hS (Option.some.inj h) d_M_lower_84
set_option maxHeartbeats 4000000 in
set_option maxRecDepth 100000 in
theorem t_M_lower_262_s {p : Program} {l : Launch} {e : Env} {s : State} {m : MethodId} {args : Array Value} {below : List Frame} {meth : Method} {c : Code} {D : va_G} {cI cZ : ClassId} {a : Nat → Nat} {A : Nat → Prop} (C0 : Am p s m args meth c b_M_lower (some .int) 10 R_M D [(cI, .int), (cZ, .boolean)]) (hA : ∀ q, s.heap.size ≤ q → A q) {res : Int32 × StM} {k252 : StM → Int32 → Int32 → Option (Int32 × StM)} {k262 : StM → Int32 → Int32 → Int32 → Option (Int32 × StM)} (hk252 : ∀ (q : Nat) (σ : StM) (x4 x5 : Int32) (H : Heap) (locs : List Loc) (ls : Array Slot), k252 σ x4 x5 = some res → va_P D vwCl (wM cI cZ a q σ) H → va_D A (wM cI cZ a q σ) → va_S A s.heap H locs → lv_has ls 10 [(0, .ref (a 20)), (4, .int x4), (5, .int x5)] → W p l e (rmK 5 122 0 0) s m args below meth c H locs 0 0 (RwQ below args s D A (fun q (σ : StM) => (wM cI cZ a q σ)) res 0 0) (F0 m 252 ls [])) (hk262 : ∀ (q : Nat) (σ : StM) (x4 x5 x6 : Int32) (H : Heap) (locs : List Loc) (ls : Array Slot), k262 σ x4 x5 x6 = some res → va_P D vwCl (wM cI cZ a q σ) H → va_D A (wM cI cZ a q σ) → va_S A s.heap H locs → lv_has ls 10 [(0, .ref (a 20)), (4, .int x4), (5, .int x5), (6, .int x6)] → W p l e (rmK 5 122 0 0) s m args below meth c H locs 0 0 (RwQ below args s D A (fun q (σ : StM) => (wM cI cZ a q σ)) res 0 0) (F0 m 262 ls [])) {q : Nat} {σ : StM} {x4 x5 x6 : Int32} (h : f_M_lower_262_s k252 k262 σ x4 x5 x6 = some res) {H : Heap} {locs : List Loc} (hP : va_P D vwCl (wM cI cZ a q σ) H) (hD : va_D A (wM cI cZ a q σ)) (hS : va_S A s.heap H locs) {ls : Array Slot} (hl : lv_has ls 10 [(0, .ref (a 20)), (4, .int x4), (5, .int x5), (6, .int x6)]) : W p l e (rmK 5 122 0 0) s m args below meth c H locs 0 0 (RwQ below args s D A (fun q (σ : StM) => (wM cI cZ a q σ)) res 0 0) (F0 m 262 ls []) := by
  obtain ⟨hx, hb, hr, hml, hown, hts, hlk, hK⟩ := id C0
  unfold f_M_lower_262_s at h
  refine lv_iload hx hb d_M_lower_262 (lv_at hl 3 rfl) ?_
  refine lv_iload hx hb d_M_lower_264 (lv_at hl 2 rfl) ?_
  refine lv_icmp_ge (tgt := 332) hx hb d_M_lower_266 (by decide) (fun hc => ?_) (fun hc => ?_)
  · rw [if_pos hc] at h
    refine lv_iinc (v := (x5 + 1)) (lv' := [(5, .int (x5 + 1)), (0, .ref (a 20)), (4, .int x4), (6, .int x6)]) hx hb d_M_lower_332 hl (k := 2) rfl rfl (by decide) rfl (fun ls hl => ?_)
    refine lv_goto (tgt := 252) hx hb d_M_lower_335 (by decide) ?_
    exact hk252 _ _ _ _ _ _ _ h hP hD hS (lv_sub hl [1, 2, 0] rfl)
  · rw [if_neg hc] at h
    refine lv_aload_n hx hb d_M_lower_269 rfl (lv_at hl 0 rfl) ?_
    refine va_get (ci := 4) (v := .ref (a 28)) (C := R_M) (T := F_M) (N := 35) hx hb hts i_M hown hK.1 hP 0 rfl rfl 12 (by decide) (hts _ wd_356) (fun _ h9 => h9) rfl d_M_lower_270 ?_
    refine lv_aload_n hx hb d_M_lower_273 rfl (lv_at hl 0 rfl) ?_
    refine va_get (ci := 4) (v := .ref (a 34)) (C := R_M) (T := F_M) (N := 35) hx hb hts i_M hown hK.1 hP 0 rfl rfl 22 (by decide) (hts _ wd_369) (fun _ h9 => h9) rfl d_M_lower_274 ?_
    refine lv_iload hx hb d_M_lower_277 (lv_at hl 2 rfl) ?_
    replace h := gd h
    obtain ⟨hi, h⟩ := h
    refine va_iald hx hb hK.1 hP 14 0 rfl rfl hi d_M_lower_279 ?_
    replace h := gd h
    obtain ⟨hi, h⟩ := h
    refine va_iald hx hb hK.1 hP 8 0 rfl rfl hi d_M_lower_280 ?_
    refine lv_istore (lv' := [(7, .int ((M_classOf σ) ((M_row σ) x5.toNatClampNeg).toNatClampNeg)), (0, .ref (a 20)), (4, .int x4), (5, .int x5), (6, .int x6)]) hx hb d_M_lower_281 hl (by decide) rfl (fun ls hl => ?_)
    refine lv_aload_n hx hb d_M_lower_283 rfl (lv_at hl 1 rfl) ?_
    refine va_get (ci := 4) (v := .ref (a 28)) (C := R_M) (T := F_M) (N := 35) hx hb hts i_M hown hK.1 hP 0 rfl rfl 12 (by decide) (hts _ wd_356) (fun _ h9 => h9) rfl d_M_lower_284 ?_
    refine lv_aload_n hx hb d_M_lower_287 rfl (lv_at hl 1 rfl) ?_
    refine va_get (ci := 4) (v := .ref (a 34)) (C := R_M) (T := F_M) (N := 35) hx hb hts i_M hown hK.1 hP 0 rfl rfl 22 (by decide) (hts _ wd_369) (fun _ h9 => h9) rfl d_M_lower_288 ?_
    refine lv_iload hx hb d_M_lower_291 (lv_at hl 4 rfl) ?_
    replace h := gd h
    obtain ⟨hi, h⟩ := h
    refine va_iald hx hb hK.1 hP 14 0 rfl rfl hi d_M_lower_293 ?_
    replace h := gd h
    obtain ⟨hi, h⟩ := h
    refine va_iald hx hb hK.1 hP 8 0 rfl rfl hi d_M_lower_294 ?_
    refine lv_istore (lv' := [(8, .int ((M_classOf σ) ((M_row σ) x6.toNatClampNeg).toNatClampNeg)), (7, .int ((M_classOf σ) ((M_row σ) x5.toNatClampNeg).toNatClampNeg)), (0, .ref (a 20)), (4, .int x4), (5, .int x5), (6, .int x6)]) hx hb d_M_lower_295 hl (by decide) rfl (fun ls hl => ?_)
    refine lv_iload hx hb d_M_lower_297 (lv_at hl 1 rfl) ?_
    refine lv_iload hx hb d_M_lower_299 (lv_at hl 0 rfl) ?_
    refine lv_icmp_eq (tgt := 324) hx hb d_M_lower_301 (by decide) (fun hc => ?_) (fun hc => ?_)
    · rw [if_pos hc] at h
      refine lv_iconst (v := (-1)) hx hb d_M_lower_324 (by decide) ?_
      exact rw_ret C0 hP hD hS (Option.some.inj h) d_M_lower_325
    · rw [if_neg hc] at h
      refine lv_aload_n hx hb d_M_lower_304 rfl (lv_at hl 2 rfl) ?_
      refine va_get (ci := 4) (v := .ref (a 21)) (C := R_M) (T := F_M) (N := 35) hx hb hts i_M hown hK.1 hP 0 rfl rfl 4 (by decide) (hts _ wd_392) (fun _ h9 => h9) rfl d_M_lower_305 ?_
      refine lv_iload hx hb d_M_lower_308 (lv_at hl 1 rfl) ?_
      replace h := gd h
      obtain ⟨hi, h⟩ := h
      refine va_zald hx hb hK.1 hP 1 1 rfl rfl hi d_M_lower_310 ?_
      refine lv_if_ne (tgt := 326) hx hb d_M_lower_311 (by decide) (fun hc => ?_) (fun hc => ?_)
      · rw [if_neg hc] at h
        refine lv_iinc (v := (x6 + 1)) (lv' := [(6, .int (x6 + 1)), (8, .int ((M_classOf σ) ((M_row σ) x6.toNatClampNeg).toNatClampNeg)), (7, .int ((M_classOf σ) ((M_row σ) x5.toNatClampNeg).toNatClampNeg)), (0, .ref (a 20)), (4, .int x4), (5, .int x5)]) hx hb d_M_lower_326 hl (k := 5) rfl rfl (by decide) rfl (fun ls hl => ?_)
        refine lv_goto (tgt := 262) hx hb d_M_lower_329 (by decide) ?_
        exact hk262 _ _ _ _ _ _ _ _ h hP hD hS (lv_sub hl [3, 4, 5, 0] rfl)
      · rw [if_pos hc] at h
        refine lv_aload_n hx hb d_M_lower_314 rfl (lv_at hl 2 rfl) ?_
        refine va_get (ci := 4) (v := .ref (a 21)) (C := R_M) (T := F_M) (N := 35) hx hb hts i_M hown hK.1 hP 0 rfl rfl 4 (by decide) (hts _ wd_392) (fun _ h9 => h9) rfl d_M_lower_315 ?_
        refine lv_iload hx hb d_M_lower_318 (lv_at hl 0 rfl) ?_
        replace h := gd h
        obtain ⟨hi, h⟩ := h
        refine va_zald hx hb hK.1 hP 1 1 rfl rfl hi d_M_lower_320 ?_
        refine lv_if_ne (tgt := 326) hx hb d_M_lower_321 (by decide) (fun hc => ?_) (fun hc => ?_)
        · rw [if_neg hc] at h
          refine lv_iinc (v := (x6 + 1)) (lv' := [(6, .int (x6 + 1)), (8, .int ((M_classOf σ) ((M_row σ) x6.toNatClampNeg).toNatClampNeg)), (7, .int ((M_classOf σ) ((M_row σ) x5.toNatClampNeg).toNatClampNeg)), (0, .ref (a 20)), (4, .int x4), (5, .int x5)]) hx hb d_M_lower_326 hl (k := 5) rfl rfl (by decide) rfl (fun ls hl => ?_)
          refine lv_goto (tgt := 262) hx hb d_M_lower_329 (by decide) ?_
          exact hk262 _ _ _ _ _ _ _ _ h hP hD hS (lv_sub hl [3, 4, 5, 0] rfl)
        · rw [if_pos hc] at h
          refine lv_iconst (v := (-1)) hx hb d_M_lower_324 (by decide) ?_
          exact rw_ret C0 hP hD hS (Option.some.inj h) d_M_lower_325
set_option maxHeartbeats 4000000 in
set_option maxRecDepth 100000 in
theorem t_M_lower_262 {p : Program} {l : Launch} {e : Env} {s : State} {m : MethodId} {args : Array Value} {below : List Frame} {meth : Method} {c : Code} {D : va_G} {cI cZ : ClassId} {a : Nat → Nat} {A : Nat → Prop} (C0 : Am p s m args meth c b_M_lower (some .int) 10 R_M D [(cI, .int), (cZ, .boolean)]) (hA : ∀ q, s.heap.size ≤ q → A q) {res : Int32 × StM} {k252 : StM → Int32 → Int32 → Option (Int32 × StM)} (hk252 : ∀ (q : Nat) (σ : StM) (x4 x5 : Int32) (H : Heap) (locs : List Loc) (ls : Array Slot), k252 σ x4 x5 = some res → va_P D vwCl (wM cI cZ a q σ) H → va_D A (wM cI cZ a q σ) → va_S A s.heap H locs → lv_has ls 10 [(0, .ref (a 20)), (4, .int x4), (5, .int x5)] → W p l e (rmK 5 122 0 0) s m args below meth c H locs 0 0 (RwQ below args s D A (fun q (σ : StM) => (wM cI cZ a q σ)) res 0 0) (F0 m 252 ls [])) {n : Nat} {q : Nat} {σ : StM} {x4 x5 x6 : Int32} (h : f_M_lower_262 k252 n σ x4 x5 x6 = some res) {H : Heap} {locs : List Loc} (hP : va_P D vwCl (wM cI cZ a q σ) H) (hD : va_D A (wM cI cZ a q σ)) (hS : va_S A s.heap H locs) {ls : Array Slot} (hl : lv_has ls 10 [(0, .ref (a 20)), (4, .int x4), (5, .int x5), (6, .int x6)]) : W p l e (rmK 5 122 0 0) s m args below meth c H locs 0 0 (RwQ below args s D A (fun q (σ : StM) => (wM cI cZ a q σ)) res 0 0) (F0 m 262 ls []) := by
  induction n generalizing q σ x4 x5 x6 H locs ls with
  | zero => cases h
  | succ n ih => exact t_M_lower_262_s (a := a) C0 hA hk252 (fun _ _ _ _ _ _ _ _ h hP hD hS hl => ih h hP hD hS hl) h hP hD hS hl
set_option maxHeartbeats 4000000 in
set_option maxRecDepth 100000 in
theorem t_M_lower_252_s {p : Program} {l : Launch} {e : Env} {s : State} {m : MethodId} {args : Array Value} {below : List Frame} {meth : Method} {c : Code} {D : va_G} {cI cZ : ClassId} {a : Nat → Nat} {A : Nat → Prop} (C0 : Am p s m args meth c b_M_lower (some .int) 10 R_M D [(cI, .int), (cZ, .boolean)]) (hA : ∀ q, s.heap.size ≤ q → A q) {res : Int32 × StM} {k252 : StM → Int32 → Int32 → Option (Int32 × StM)}  (hk252 : ∀ (q : Nat) (σ : StM) (x4 x5 : Int32) (H : Heap) (locs : List Loc) (ls : Array Slot), k252 σ x4 x5 = some res → va_P D vwCl (wM cI cZ a q σ) H → va_D A (wM cI cZ a q σ) → va_S A s.heap H locs → lv_has ls 10 [(0, .ref (a 20)), (4, .int x4), (5, .int x5)] → W p l e (rmK 5 122 0 0) s m args below meth c H locs 0 0 (RwQ below args s D A (fun q (σ : StM) => (wM cI cZ a q σ)) res 0 0) (F0 m 252 ls [])) {q : Nat} {σ : StM} {x4 x5 : Int32} (h : f_M_lower_252_s k252 σ x4 x5 = some res) {H : Heap} {locs : List Loc} (hP : va_P D vwCl (wM cI cZ a q σ) H) (hD : va_D A (wM cI cZ a q σ)) (hS : va_S A s.heap H locs) {ls : Array Slot} (hl : lv_has ls 10 [(0, .ref (a 20)), (4, .int x4), (5, .int x5)]) : W p l e (rmK 5 122 0 0) s m args below meth c H locs 0 0 (RwQ below args s D A (fun q (σ : StM) => (wM cI cZ a q σ)) res 0 0) (F0 m 252 ls []) := by
  obtain ⟨hx, hb, hr, hml, hown, hts, hlk, hK⟩ := id C0
  unfold f_M_lower_252_s at h
  refine lv_iload hx hb d_M_lower_252 (lv_at hl 2 rfl) ?_
  refine lv_iload hx hb d_M_lower_254 (lv_at hl 1 rfl) ?_
  refine lv_icmp_ge (tgt := 338) hx hb d_M_lower_256 (by decide) (fun hc => ?_) (fun hc => ?_)
  · rw [if_pos hc] at h
    refine lv_aload_n hx hb d_M_lower_338 rfl (lv_at hl 0 rfl) ?_
    refine va_get (ci := 4) (v := .int (M_types σ)) (C := R_M) (T := F_M) (N := 35) hx hb hts i_M hown hK.1 hP 0 rfl rfl 10 (by decide) (hts _ wd_344) (fun _ h9 => h9) rfl d_M_lower_339 ?_
    refine lv_istore (lv' := [(5, .int (M_types σ)), (0, .ref (a 20)), (4, .int x4)]) hx hb d_M_lower_342 hl (by decide) rfl (fun ls hl => ?_)
    refine lv_aload_n hx hb d_M_lower_344 rfl (lv_at hl 1 rfl) ?_
    refine lv_iload hx hb d_M_lower_345 (lv_at hl 0 rfl) ?_
    refine lv_aload_n hx hb d_M_lower_347 rfl (lv_at hl 1 rfl) ?_
    refine lv_iload hx hb d_M_lower_348 (lv_at hl 2 rfl) ?_
    replace h := bd h
    obtain ⟨r3, g3, h⟩ := h
    refine rw_V (n := 1) (ci := 4) (As := [.int x4]) (rest := [.int (M_types σ), .ref (a 20)]) (Wn := fun _ => (wM cI cZ a q r3.2)) C0 hA (c_M_addBoth l D cI cZ a q σ x4 g3) wd_469 ⟨wd_470, wd_471, wd_472, wd_352⟩ (by decide +kernel) ⟨Nat.le_of_ble_eq_true rfl, Nat.le_of_ble_eq_true rfl⟩ hP hD hS [0, 1, 2, 3, 4, 5, 6, 7, 8, 9, 10, 11, 12, 13, 14, 15, 16, 17, 18, 19, 20, 21, 22, 23] [] [0, 1, 2, 3, 4, 5, 6, 7, 8, 9, 10, 11, 12, 13, 14, 15, 16, 17, 18, 19, 20, 21, 22, 23] jn_M__C (by decide) jn_M__R (by decide) (by decide) (by decide) jn_M__W rfl rfl rfl hl rfl rfl (Nat.le_of_ble_eq_true rfl) ⟨Nat.zero_le _, Nat.zero_le _⟩ d_M_lower_350 (fun H locs _ hP hD hS => ?_)
    try dsimp only at h
    refine lv_iconst (v := 2) hx hb d_M_lower_353 (by decide) ?_
    replace h := bd h
    obtain ⟨r4, g4, h⟩ := h
    refine rw_V (n := 3) (ci := 4) (As := [.int (M_types σ), .int r3.1, .int 2]) (rest := []) (Wn := fun _ => (wM cI cZ a q r4.2)) C0 hA (c_M_end l D cI cZ a q r3.2 (M_types σ) r3.1 2 g4) wd_423 ⟨wd_424, wd_425, wd_426, wd_352⟩ (by decide +kernel) ⟨Nat.le_of_ble_eq_true rfl, Nat.le_of_ble_eq_true rfl⟩ hP hD hS [0, 1, 2, 3, 4, 5, 6, 7, 8, 9, 10, 11, 12, 13, 14, 15, 16, 17, 18, 19, 20, 21, 22, 23] [] [0, 1, 2, 3, 4, 5, 6, 7, 8, 9, 10, 11, 12, 13, 14, 15, 16, 17, 18, 19, 20, 21, 22, 23] jn_M__C (by decide) jn_M__R (by decide) (by decide) (by decide) jn_M__W rfl rfl rfl hl rfl rfl (Nat.le_of_ble_eq_true rfl) ⟨Nat.zero_le _, Nat.zero_le _⟩ d_M_lower_354 (fun H locs _ hP hD hS => ?_)
    try dsimp only at h
    exact rw_ret C0 hP hD hS (Option.some.inj h) d_M_lower_357
  · rw [if_neg hc] at h
    refine lv_iconst (v := 0) hx hb d_M_lower_259 (by decide) ?_
    refine lv_istore (lv' := [(6, .int 0), (0, .ref (a 20)), (4, .int x4), (5, .int x5)]) hx hb d_M_lower_260 hl (by decide) rfl (fun ls hl => ?_)
    exact t_M_lower_262 (a := a) C0 hA hk252 h hP hD hS (lv_sub hl [1, 2, 3, 0] rfl)
set_option maxHeartbeats 4000000 in
set_option maxRecDepth 100000 in
theorem t_M_lower_252 {p : Program} {l : Launch} {e : Env} {s : State} {m : MethodId} {args : Array Value} {below : List Frame} {meth : Method} {c : Code} {D : va_G} {cI cZ : ClassId} {a : Nat → Nat} {A : Nat → Prop} (C0 : Am p s m args meth c b_M_lower (some .int) 10 R_M D [(cI, .int), (cZ, .boolean)]) (hA : ∀ q, s.heap.size ≤ q → A q) {res : Int32 × StM}  {n : Nat} {q : Nat} {σ : StM} {x4 x5 : Int32} (h : f_M_lower_252  n σ x4 x5 = some res) {H : Heap} {locs : List Loc} (hP : va_P D vwCl (wM cI cZ a q σ) H) (hD : va_D A (wM cI cZ a q σ)) (hS : va_S A s.heap H locs) {ls : Array Slot} (hl : lv_has ls 10 [(0, .ref (a 20)), (4, .int x4), (5, .int x5)]) : W p l e (rmK 5 122 0 0) s m args below meth c H locs 0 0 (RwQ below args s D A (fun q (σ : StM) => (wM cI cZ a q σ)) res 0 0) (F0 m 252 ls []) := by
  induction n generalizing q σ x4 x5 H locs ls with
  | zero => cases h
  | succ n ih => exact t_M_lower_252_s (a := a) C0 hA  (fun _ _ _ _ _ _ _ h hP hD hS hl => ih h hP hD hS hl) h hP hD hS hl
set_option maxHeartbeats 4000000 in
set_option maxRecDepth 100000 in
theorem t_M_lower_213 {p : Program} {l : Launch} {e : Env} {s : State} {m : MethodId} {args : Array Value} {below : List Frame} {meth : Method} {c : Code} {D : va_G} {cI cZ : ClassId} {a : Nat → Nat} {A : Nat → Prop} (C0 : Am p s m args meth c b_M_lower (some .int) 10 R_M D [(cI, .int), (cZ, .boolean)]) (hA : ∀ q, s.heap.size ≤ q → A q) {res : Int32 × StM} {k125 : StM → Int32 → Int32 → Int32 → Int32 → Int32 → Option (Int32 × StM)} {k147 : StM → Int32 → Int32 → Int32 → Int32 → Int32 → Int32 → Int32 → Int32 → Option (Int32 × StM)} (hk125 : ∀ (q : Nat) (σ : StM) (x1 x2 x3 x4 x5 : Int32) (H : Heap) (locs : List Loc) (ls : Array Slot), k125 σ x1 x2 x3 x4 x5 = some res → va_P D vwCl (wM cI cZ a q σ) H → va_D A (wM cI cZ a q σ) → va_S A s.heap H locs → lv_has ls 10 [(0, .ref (a 20)), (1, .int x1), (2, .int x2), (3, .int x3), (4, .int x4), (5, .int x5)] → W p l e (rmK 5 122 0 0) s m args below meth c H locs 0 0 (RwQ below args s D A (fun q (σ : StM) => (wM cI cZ a q σ)) res 0 0) (F0 m 125 ls [])) (hk147 : ∀ (q : Nat) (σ : StM) (x1 x2 x3 x4 x5 x6 x7 x8 : Int32) (H : Heap) (locs : List Loc) (ls : Array Slot), k147 σ x1 x2 x3 x4 x5 x6 x7 x8 = some res → va_P D vwCl (wM cI cZ a q σ) H → va_D A (wM cI cZ a q σ) → va_S A s.heap H locs → lv_has ls 10 [(0, .ref (a 20)), (1, .int x1), (2, .int x2), (3, .int x3), (4, .int x4), (5, .int x5), (6, .int x6), (7, .int x7), (8, .int x8)] → W p l e (rmK 5 122 0 0) s m args below meth c H locs 0 0 (RwQ below args s D A (fun q (σ : StM) => (wM cI cZ a q σ)) res 0 0) (F0 m 147 ls []))  {q : Nat} {σ : StM} {x1 x2 x3 x4 x5 x6 x8 : Int32} (h : f_M_lower_213 k125 k147 σ x1 x2 x3 x4 x5 x6 x8 = some res) {H : Heap} {locs : List Loc} (hP : va_P D vwCl (wM cI cZ a q σ) H) (hD : va_D A (wM cI cZ a q σ)) (hS : va_S A s.heap H locs) {ls : Array Slot} (hl : lv_has ls 10 [(0, .ref (a 20)), (1, .int x1), (2, .int x2), (3, .int x3), (4, .int x4), (5, .int x5), (6, .int x6), (8, .int x8)]) : W p l e (rmK 5 122 0 0) s m args below meth c H locs 0 0 (RwQ below args s D A (fun q (σ : StM) => (wM cI cZ a q σ)) res 0 0) (F0 m 213 ls []) := by
  obtain ⟨hx, hb, hr, hml, hown, hts, hlk, hK⟩ := id C0
  unfold f_M_lower_213 at h
  refine lv_iconst (v := 1) hx hb d_M_lower_213 (by decide) ?_
  refine lv_goto (tgt := 218) hx hb d_M_lower_214 (by decide) ?_
  refine lv_istore (lv' := [(7, .int 1), (0, .ref (a 20)), (1, .int x1), (2, .int x2), (3, .int x3), (4, .int x4), (5, .int x5), (6, .int x6), (8, .int x8)]) hx hb d_M_lower_218 hl (by decide) rfl (fun ls hl => ?_)
  refine lv_iinc (v := (x8 + 1)) (lv' := [(8, .int (x8 + 1)), (7, .int 1), (0, .ref (a 20)), (1, .int x1), (2, .int x2), (3, .int x3), (4, .int x4), (5, .int x5), (6, .int x6)]) hx hb d_M_lower_220 hl (k := 8) rfl rfl (by decide) rfl (fun ls hl => ?_)
  refine lv_goto (tgt := 147) hx hb d_M_lower_223 (by decide) ?_
  exact hk147 _ _ _ _ _ _ _ _ _ _ _ _ _ h hP hD hS (lv_sub hl [2, 3, 4, 5, 6, 7, 8, 1, 0] rfl)
set_option maxHeartbeats 4000000 in
set_option maxRecDepth 100000 in
theorem t_M_lower_189 {p : Program} {l : Launch} {e : Env} {s : State} {m : MethodId} {args : Array Value} {below : List Frame} {meth : Method} {c : Code} {D : va_G} {cI cZ : ClassId} {a : Nat → Nat} {A : Nat → Prop} (C0 : Am p s m args meth c b_M_lower (some .int) 10 R_M D [(cI, .int), (cZ, .boolean)]) (hA : ∀ q, s.heap.size ≤ q → A q) {res : Int32 × StM} {k125 : StM → Int32 → Int32 → Int32 → Int32 → Int32 → Option (Int32 × StM)} {k147 : StM → Int32 → Int32 → Int32 → Int32 → Int32 → Int32 → Int32 → Int32 → Option (Int32 × StM)} (hk125 : ∀ (q : Nat) (σ : StM) (x1 x2 x3 x4 x5 : Int32) (H : Heap) (locs : List Loc) (ls : Array Slot), k125 σ x1 x2 x3 x4 x5 = some res → va_P D vwCl (wM cI cZ a q σ) H → va_D A (wM cI cZ a q σ) → va_S A s.heap H locs → lv_has ls 10 [(0, .ref (a 20)), (1, .int x1), (2, .int x2), (3, .int x3), (4, .int x4), (5, .int x5)] → W p l e (rmK 5 122 0 0) s m args below meth c H locs 0 0 (RwQ below args s D A (fun q (σ : StM) => (wM cI cZ a q σ)) res 0 0) (F0 m 125 ls [])) (hk147 : ∀ (q : Nat) (σ : StM) (x1 x2 x3 x4 x5 x6 x7 x8 : Int32) (H : Heap) (locs : List Loc) (ls : Array Slot), k147 σ x1 x2 x3 x4 x5 x6 x7 x8 = some res → va_P D vwCl (wM cI cZ a q σ) H → va_D A (wM cI cZ a q σ) → va_S A s.heap H locs → lv_has ls 10 [(0, .ref (a 20)), (1, .int x1), (2, .int x2), (3, .int x3), (4, .int x4), (5, .int x5), (6, .int x6), (7, .int x7), (8, .int x8)] → W p l e (rmK 5 122 0 0) s m args below meth c H locs 0 0 (RwQ below args s D A (fun q (σ : StM) => (wM cI cZ a q σ)) res 0 0) (F0 m 147 ls []))  {q : Nat} {σ : StM} {x1 x2 x3 x4 x5 x6 x8 x9 : Int32} (h : f_M_lower_189 k125 k147 σ x1 x2 x3 x4 x5 x6 x8 x9 = some res) {H : Heap} {locs : List Loc} (hP : va_P D vwCl (wM cI cZ a q σ) H) (hD : va_D A (wM cI cZ a q σ)) (hS : va_S A s.heap H locs) {ls : Array Slot} (hl : lv_has ls 10 [(0, .ref (a 20)), (1, .int x1), (2, .int x2), (3, .int x3), (4, .int x4), (5, .int x5), (6, .int x6), (8, .int x8), (9, .int x9)]) : W p l e (rmK 5 122 0 0) s m args below meth c H locs 0 0 (RwQ below args s D A (fun q (σ : StM) => (wM cI cZ a q σ)) res 0 0) (F0 m 189 ls []) := by
  obtain ⟨hx, hb, hr, hml, hown, hts, hlk, hK⟩ := id C0
  unfold f_M_lower_189 at h
  refine lv_iload hx hb d_M_lower_189 (lv_at hl 6 rfl) ?_
  refine lv_iload hx hb d_M_lower_191 (lv_at hl 8 rfl) ?_
  refine lv_icmp_eq (tgt := 217) hx hb d_M_lower_193 (by decide) (fun hc => ?_) (fun hc => ?_)
  · rw [if_pos hc] at h
    refine lv_iconst (v := 0) hx hb d_M_lower_217 (by decide) ?_
    refine lv_istore (lv' := [(7, .int 0), (0, .ref (a 20)), (1, .int x1), (2, .int x2), (3, .int x3), (4, .int x4), (5, .int x5), (6, .int x6), (8, .int x8), (9, .int x9)]) hx hb d_M_lower_218 hl (by decide) rfl (fun ls hl => ?_)
    refine lv_iinc (v := (x8 + 1)) (lv' := [(8, .int (x8 + 1)), (7, .int 0), (0, .ref (a 20)), (1, .int x1), (2, .int x2), (3, .int x3), (4, .int x4), (5, .int x5), (6, .int x6), (9, .int x9)]) hx hb d_M_lower_220 hl (k := 8) rfl rfl (by decide) rfl (fun ls hl => ?_)
    refine lv_goto (tgt := 147) hx hb d_M_lower_223 (by decide) ?_
    exact hk147 _ _ _ _ _ _ _ _ _ _ _ _ _ h hP hD hS (lv_sub hl [2, 3, 4, 5, 6, 7, 8, 1, 0] rfl)
  · rw [if_neg hc] at h
    refine lv_aload_n hx hb d_M_lower_196 rfl (lv_at hl 0 rfl) ?_
    refine va_get (ci := 4) (v := .ref (a 35)) (C := R_M) (T := F_M) (N := 35) hx hb hts i_M hown hK.1 hP 0 rfl rfl 23 (by decide) (hts _ wd_370) (fun _ h9 => h9) rfl d_M_lower_197 ?_
    refine lv_sipush (v := 300) hx hb d_M_lower_200 (by decide) ?_
    refine lv_iload hx hb d_M_lower_203 (lv_at hl 8 rfl) ?_
    refine lv_imul hx hb d_M_lower_205 ?_
    refine lv_iload hx hb d_M_lower_206 (lv_at hl 6 rfl) ?_
    refine lv_iadd hx hb d_M_lower_208 ?_
    replace h := gd h
    obtain ⟨hi, h⟩ := h
    refine va_zald hx hb hK.1 hP 15 1 rfl rfl hi d_M_lower_209 ?_
    refine lv_if_ne (tgt := 217) hx hb d_M_lower_210 (by decide) (fun hc => ?_) (fun hc => ?_)
    · rw [if_neg hc] at h
      refine lv_iconst (v := 0) hx hb d_M_lower_217 (by decide) ?_
      refine lv_istore (lv' := [(7, .int 0), (0, .ref (a 20)), (1, .int x1), (2, .int x2), (3, .int x3), (4, .int x4), (5, .int x5), (6, .int x6), (8, .int x8), (9, .int x9)]) hx hb d_M_lower_218 hl (by decide) rfl (fun ls hl => ?_)
      refine lv_iinc (v := (x8 + 1)) (lv' := [(8, .int (x8 + 1)), (7, .int 0), (0, .ref (a 20)), (1, .int x1), (2, .int x2), (3, .int x3), (4, .int x4), (5, .int x5), (6, .int x6), (9, .int x9)]) hx hb d_M_lower_220 hl (k := 8) rfl rfl (by decide) rfl (fun ls hl => ?_)
      refine lv_goto (tgt := 147) hx hb d_M_lower_223 (by decide) ?_
      exact hk147 _ _ _ _ _ _ _ _ _ _ _ _ _ h hP hD hS (lv_sub hl [2, 3, 4, 5, 6, 7, 8, 1, 0] rfl)
    · rw [if_pos hc] at h
      exact t_M_lower_213 (a := a) C0 hA hk125 hk147 h hP hD hS (lv_sub hl [0, 1, 2, 3, 4, 5, 6, 7] rfl)
set_option maxHeartbeats 4000000 in
set_option maxRecDepth 100000 in
theorem t_M_lower_147_s {p : Program} {l : Launch} {e : Env} {s : State} {m : MethodId} {args : Array Value} {below : List Frame} {meth : Method} {c : Code} {D : va_G} {cI cZ : ClassId} {a : Nat → Nat} {A : Nat → Prop} (C0 : Am p s m args meth c b_M_lower (some .int) 10 R_M D [(cI, .int), (cZ, .boolean)]) (hA : ∀ q, s.heap.size ≤ q → A q) {res : Int32 × StM} {k125 : StM → Int32 → Int32 → Int32 → Int32 → Int32 → Option (Int32 × StM)} {k147 : StM → Int32 → Int32 → Int32 → Int32 → Int32 → Int32 → Int32 → Int32 → Option (Int32 × StM)} (hk125 : ∀ (q : Nat) (σ : StM) (x1 x2 x3 x4 x5 : Int32) (H : Heap) (locs : List Loc) (ls : Array Slot), k125 σ x1 x2 x3 x4 x5 = some res → va_P D vwCl (wM cI cZ a q σ) H → va_D A (wM cI cZ a q σ) → va_S A s.heap H locs → lv_has ls 10 [(0, .ref (a 20)), (1, .int x1), (2, .int x2), (3, .int x3), (4, .int x4), (5, .int x5)] → W p l e (rmK 5 122 0 0) s m args below meth c H locs 0 0 (RwQ below args s D A (fun q (σ : StM) => (wM cI cZ a q σ)) res 0 0) (F0 m 125 ls [])) (hk147 : ∀ (q : Nat) (σ : StM) (x1 x2 x3 x4 x5 x6 x7 x8 : Int32) (H : Heap) (locs : List Loc) (ls : Array Slot), k147 σ x1 x2 x3 x4 x5 x6 x7 x8 = some res → va_P D vwCl (wM cI cZ a q σ) H → va_D A (wM cI cZ a q σ) → va_S A s.heap H locs → lv_has ls 10 [(0, .ref (a 20)), (1, .int x1), (2, .int x2), (3, .int x3), (4, .int x4), (5, .int x5), (6, .int x6), (7, .int x7), (8, .int x8)] → W p l e (rmK 5 122 0 0) s m args below meth c H locs 0 0 (RwQ below args s D A (fun q (σ : StM) => (wM cI cZ a q σ)) res 0 0) (F0 m 147 ls [])) {q : Nat} {σ : StM} {x1 x2 x3 x4 x5 x6 x7 x8 : Int32} (h : f_M_lower_147_s k125 k147 σ x1 x2 x3 x4 x5 x6 x7 x8 = some res) {H : Heap} {locs : List Loc} (hP : va_P D vwCl (wM cI cZ a q σ) H) (hD : va_D A (wM cI cZ a q σ)) (hS : va_S A s.heap H locs) {ls : Array Slot} (hl : lv_has ls 10 [(0, .ref (a 20)), (1, .int x1), (2, .int x2), (3, .int x3), (4, .int x4), (5, .int x5), (6, .int x6), (7, .int x7), (8, .int x8)]) : W p l e (rmK 5 122 0 0) s m args below meth c H locs 0 0 (RwQ below args s D A (fun q (σ : StM) => (wM cI cZ a q σ)) res 0 0) (F0 m 147 ls []) := by
  obtain ⟨hx, hb, hr, hml, hown, hts, hlk, hK⟩ := id C0
  unfold f_M_lower_147_s at h
  refine lv_iload hx hb d_M_lower_147 (lv_at hl 8 rfl) ?_
  refine lv_iload_n hx hb d_M_lower_149 rfl (lv_at hl 3 rfl) ?_
  refine lv_icmp_ge (tgt := 226) hx hb d_M_lower_150 (by decide) (fun hc => ?_) (fun hc => ?_)
  · rw [if_pos hc] at h
    refine lv_iload hx hb d_M_lower_226 (lv_at hl 7 rfl) ?_
    refine lv_if_eq (tgt := 243) hx hb d_M_lower_228 (by decide) (fun hc => ?_) (fun hc => ?_)
    · rw [if_pos hc] at h
      refine lv_iinc (v := (x5 + 1)) (lv' := [(5, .int (x5 + 1)), (0, .ref (a 20)), (1, .int x1), (2, .int x2), (3, .int x3), (4, .int x4), (6, .int x6), (7, .int x7), (8, .int x8)]) hx hb d_M_lower_243 hl (k := 5) rfl rfl (by decide) rfl (fun ls hl => ?_)
      refine lv_goto (tgt := 125) hx hb d_M_lower_246 (by decide) ?_
      exact hk125 _ _ _ _ _ _ _ _ _ _ h hP hD hS (lv_sub hl [1, 2, 3, 4, 5, 0] rfl)
    · rw [if_neg hc] at h
      refine lv_aload_n hx hb d_M_lower_231 rfl (lv_at hl 0 rfl) ?_
      refine va_get (ci := 4) (v := .ref (a 34)) (C := R_M) (T := F_M) (N := 35) hx hb hts i_M hown hK.1 hP 0 rfl rfl 22 (by decide) (hts _ wd_369) (fun _ h9 => h9) rfl d_M_lower_232 ?_
      refine lv_iload hx hb d_M_lower_235 (lv_at hl 4 rfl) ?_
      refine lv_iload hx hb d_M_lower_237 (lv_at hl 6 rfl) ?_
      replace h := gd h
      obtain ⟨hi, h⟩ := h
      refine rw_iast C0 hP hD hS 14 0 rfl rfl hi d_M_lower_239 (Wn := (wM cI cZ a q (M_put_row σ x4 x6))) ws_M_put_row (fun H locs hP hD hS => ?_)
      refine lv_iinc (v := (x4 + 1)) (lv' := [(4, .int (x4 + 1)), (0, .ref (a 20)), (1, .int x1), (2, .int x2), (3, .int x3), (5, .int x5), (6, .int x6), (7, .int x7), (8, .int x8)]) hx hb d_M_lower_240 hl (k := 4) rfl rfl (by decide) rfl (fun ls hl => ?_)
      refine lv_iinc (v := (x5 + 1)) (lv' := [(5, .int (x5 + 1)), (4, .int (x4 + 1)), (0, .ref (a 20)), (1, .int x1), (2, .int x2), (3, .int x3), (6, .int x6), (7, .int x7), (8, .int x8)]) hx hb d_M_lower_243 hl (k := 5) rfl rfl (by decide) rfl (fun ls hl => ?_)
      refine lv_goto (tgt := 125) hx hb d_M_lower_246 (by decide) ?_
      exact hk125 _ _ _ _ _ _ _ _ _ _ h hP hD hS (lv_sub hl [2, 3, 4, 5, 1, 0] rfl)
  · rw [if_neg hc] at h
    refine lv_aload_n hx hb d_M_lower_153 rfl (lv_at hl 0 rfl) ?_
    refine lv_iload_n hx hb d_M_lower_154 rfl (lv_at hl 1 rfl) ?_
    refine lv_iload_n hx hb d_M_lower_155 rfl (lv_at hl 2 rfl) ?_
    refine lv_iload hx hb d_M_lower_156 (lv_at hl 8 rfl) ?_
    replace h := bd h
    obtain ⟨r6, g6, h⟩ := h
    refine ro_V (n := 3) (ci := 4) (As := [.int x1, .int x2, .int x8]) (rest := []) C0 (c_M_partOf l D cI cZ a q σ x1 x2 x8 g6) wd_481 ⟨wd_482, wd_483, wd_484, wd_352⟩ (by decide +kernel) ⟨Nat.le_of_ble_eq_true rfl, Nat.le_of_ble_eq_true rfl⟩ hP rfl rfl rfl hl rfl rfl (Nat.le_of_ble_eq_true rfl) ⟨Nat.zero_le _, Nat.zero_le _⟩ d_M_lower_158 ?_
    try dsimp only at h
    refine lv_istore (lv' := [(9, .int r6), (0, .ref (a 20)), (1, .int x1), (2, .int x2), (3, .int x3), (4, .int x4), (5, .int x5), (6, .int x6), (7, .int x7), (8, .int x8)]) hx hb d_M_lower_161 hl (by decide) rfl (fun ls hl => ?_)
    refine lv_iload hx hb d_M_lower_163 (lv_at hl 8 rfl) ?_
    refine lv_if_eq (tgt := 217) hx hb d_M_lower_165 (by decide) (fun hc => ?_) (fun hc => ?_)
    · rw [if_pos hc] at h
      refine lv_iconst (v := 0) hx hb d_M_lower_217 (by decide) ?_
      refine lv_istore (lv' := [(7, .int 0), (9, .int r6), (0, .ref (a 20)), (1, .int x1), (2, .int x2), (3, .int x3), (4, .int x4), (5, .int x5), (6, .int x6), (8, .int x8)]) hx hb d_M_lower_218 hl (by decide) rfl (fun ls hl => ?_)
      refine lv_iinc (v := (x8 + 1)) (lv' := [(8, .int (x8 + 1)), (7, .int 0), (9, .int r6), (0, .ref (a 20)), (1, .int x1), (2, .int x2), (3, .int x3), (4, .int x4), (5, .int x5), (6, .int x6)]) hx hb d_M_lower_220 hl (k := 9) rfl rfl (by decide) rfl (fun ls hl => ?_)
      refine lv_goto (tgt := 147) hx hb d_M_lower_223 (by decide) ?_
      exact hk147 _ _ _ _ _ _ _ _ _ _ _ _ _ h hP hD hS (lv_sub hl [3, 4, 5, 6, 7, 8, 9, 1, 0] rfl)
    · rw [if_neg hc] at h
      refine lv_iload hx hb d_M_lower_168 (lv_at hl 6 rfl) ?_
      refine lv_iload hx hb d_M_lower_170 (lv_at hl 9 rfl) ?_
      refine lv_icmp_eq (tgt := 213) hx hb d_M_lower_172 (by decide) (fun hc => ?_) (fun hc => ?_)
      · rw [if_pos hc] at h
        exact t_M_lower_213 (a := a) C0 hA hk125 hk147 h hP hD hS (lv_sub hl [1, 2, 3, 4, 5, 6, 7, 9] rfl)
      · rw [if_neg hc] at h
        refine lv_iload hx hb d_M_lower_175 (lv_at hl 7 rfl) ?_
        refine lv_iload hx hb d_M_lower_177 (lv_at hl 0 rfl) ?_
        refine lv_icmp_ne (tgt := 189) hx hb d_M_lower_179 (by decide) (fun hc => ?_) (fun hc => ?_)
        · rw [if_neg hc] at h
          exact t_M_lower_189 (a := a) C0 hA hk125 hk147 h hP hD hS (lv_sub hl [1, 2, 3, 4, 5, 6, 7, 9, 0] rfl)
        · rw [if_pos hc] at h
          refine lv_iload hx hb d_M_lower_182 (lv_at hl 6 rfl) ?_
          refine lv_iload hx hb d_M_lower_184 (lv_at hl 9 rfl) ?_
          refine lv_icmp_lt (tgt := 213) hx hb d_M_lower_186 (by decide) (fun hc => ?_) (fun hc => ?_)
          · rw [if_pos hc] at h
            exact t_M_lower_213 (a := a) C0 hA hk125 hk147 h hP hD hS (lv_sub hl [1, 2, 3, 4, 5, 6, 7, 9] rfl)
          · rw [if_neg hc] at h
            exact t_M_lower_189 (a := a) C0 hA hk125 hk147 h hP hD hS (lv_sub hl [1, 2, 3, 4, 5, 6, 7, 9, 0] rfl)
set_option maxHeartbeats 4000000 in
set_option maxRecDepth 100000 in
theorem t_M_lower_147 {p : Program} {l : Launch} {e : Env} {s : State} {m : MethodId} {args : Array Value} {below : List Frame} {meth : Method} {c : Code} {D : va_G} {cI cZ : ClassId} {a : Nat → Nat} {A : Nat → Prop} (C0 : Am p s m args meth c b_M_lower (some .int) 10 R_M D [(cI, .int), (cZ, .boolean)]) (hA : ∀ q, s.heap.size ≤ q → A q) {res : Int32 × StM} {k125 : StM → Int32 → Int32 → Int32 → Int32 → Int32 → Option (Int32 × StM)} (hk125 : ∀ (q : Nat) (σ : StM) (x1 x2 x3 x4 x5 : Int32) (H : Heap) (locs : List Loc) (ls : Array Slot), k125 σ x1 x2 x3 x4 x5 = some res → va_P D vwCl (wM cI cZ a q σ) H → va_D A (wM cI cZ a q σ) → va_S A s.heap H locs → lv_has ls 10 [(0, .ref (a 20)), (1, .int x1), (2, .int x2), (3, .int x3), (4, .int x4), (5, .int x5)] → W p l e (rmK 5 122 0 0) s m args below meth c H locs 0 0 (RwQ below args s D A (fun q (σ : StM) => (wM cI cZ a q σ)) res 0 0) (F0 m 125 ls [])) {n : Nat} {q : Nat} {σ : StM} {x1 x2 x3 x4 x5 x6 x7 x8 : Int32} (h : f_M_lower_147 k125 n σ x1 x2 x3 x4 x5 x6 x7 x8 = some res) {H : Heap} {locs : List Loc} (hP : va_P D vwCl (wM cI cZ a q σ) H) (hD : va_D A (wM cI cZ a q σ)) (hS : va_S A s.heap H locs) {ls : Array Slot} (hl : lv_has ls 10 [(0, .ref (a 20)), (1, .int x1), (2, .int x2), (3, .int x3), (4, .int x4), (5, .int x5), (6, .int x6), (7, .int x7), (8, .int x8)]) : W p l e (rmK 5 122 0 0) s m args below meth c H locs 0 0 (RwQ below args s D A (fun q (σ : StM) => (wM cI cZ a q σ)) res 0 0) (F0 m 147 ls []) := by
  induction n generalizing q σ x1 x2 x3 x4 x5 x6 x7 x8 H locs ls with
  | zero => cases h
  | succ n ih => exact t_M_lower_147_s (a := a) C0 hA hk125 (fun _ _ _ _ _ _ _ _ _ _ _ _ _ h hP hD hS hl => ih h hP hD hS hl) h hP hD hS hl
set_option maxHeartbeats 4000000 in
set_option maxRecDepth 100000 in
theorem t_M_lower_125_s {p : Program} {l : Launch} {e : Env} {s : State} {m : MethodId} {args : Array Value} {below : List Frame} {meth : Method} {c : Code} {D : va_G} {cI cZ : ClassId} {a : Nat → Nat} {A : Nat → Prop} (C0 : Am p s m args meth c b_M_lower (some .int) 10 R_M D [(cI, .int), (cZ, .boolean)]) (hA : ∀ q, s.heap.size ≤ q → A q) {res : Int32 × StM} {k125 : StM → Int32 → Int32 → Int32 → Int32 → Int32 → Option (Int32 × StM)}  (hk125 : ∀ (q : Nat) (σ : StM) (x1 x2 x3 x4 x5 : Int32) (H : Heap) (locs : List Loc) (ls : Array Slot), k125 σ x1 x2 x3 x4 x5 = some res → va_P D vwCl (wM cI cZ a q σ) H → va_D A (wM cI cZ a q σ) → va_S A s.heap H locs → lv_has ls 10 [(0, .ref (a 20)), (1, .int x1), (2, .int x2), (3, .int x3), (4, .int x4), (5, .int x5)] → W p l e (rmK 5 122 0 0) s m args below meth c H locs 0 0 (RwQ below args s D A (fun q (σ : StM) => (wM cI cZ a q σ)) res 0 0) (F0 m 125 ls [])) {q : Nat} {σ : StM} {x1 x2 x3 x4 x5 : Int32} (h : f_M_lower_125_s k125 σ x1 x2 x3 x4 x5 = some res) {H : Heap} {locs : List Loc} (hP : va_P D vwCl (wM cI cZ a q σ) H) (hD : va_D A (wM cI cZ a q σ)) (hS : va_S A s.heap H locs) {ls : Array Slot} (hl : lv_has ls 10 [(0, .ref (a 20)), (1, .int x1), (2, .int x2), (3, .int x3), (4, .int x4), (5, .int x5)]) : W p l e (rmK 5 122 0 0) s m args below meth c H locs 0 0 (RwQ below args s D A (fun q (σ : StM) => (wM cI cZ a q σ)) res 0 0) (F0 m 125 ls []) := by
  obtain ⟨hx, hb, hr, hml, hown, hts, hlk, hK⟩ := id C0
  unfold f_M_lower_125_s at h
  refine lv_iload hx hb d_M_lower_125 (lv_at hl 5 rfl) ?_
  refine lv_iload_n hx hb d_M_lower_127 rfl (lv_at hl 3 rfl) ?_
  refine lv_icmp_ge (tgt := 249) hx hb d_M_lower_128 (by decide) (fun hc => ?_) (fun hc => ?_)
  · rw [if_pos hc] at h
    refine lv_iconst (v := 0) hx hb d_M_lower_249 (by decide) ?_
    refine lv_istore (lv' := [(5, .int 0), (0, .ref (a 20)), (1, .int x1), (2, .int x2), (3, .int x3), (4, .int x4)]) hx hb d_M_lower_250 hl (by decide) rfl (fun ls hl => ?_)
    exact t_M_lower_252 (a := a) C0 hA  h hP hD hS (lv_sub hl [1, 5, 0] rfl)
  · rw [if_neg hc] at h
    refine lv_aload_n hx hb d_M_lower_131 rfl (lv_at hl 0 rfl) ?_
    refine lv_iload_n hx hb d_M_lower_132 rfl (lv_at hl 1 rfl) ?_
    refine lv_iload_n hx hb d_M_lower_133 rfl (lv_at hl 2 rfl) ?_
    refine lv_iload hx hb d_M_lower_134 (lv_at hl 5 rfl) ?_
    replace h := bd h
    obtain ⟨r5, g5, h⟩ := h
    refine ro_V (n := 3) (ci := 4) (As := [.int x1, .int x2, .int x5]) (rest := []) C0 (c_M_partOf l D cI cZ a q σ x1 x2 x5 g5) wd_481 ⟨wd_482, wd_483, wd_484, wd_352⟩ (by decide +kernel) ⟨Nat.le_of_ble_eq_true rfl, Nat.le_of_ble_eq_true rfl⟩ hP rfl rfl rfl hl rfl rfl (Nat.le_of_ble_eq_true rfl) ⟨Nat.zero_le _, Nat.zero_le _⟩ d_M_lower_136 ?_
    try dsimp only at h
    refine lv_istore (lv' := [(6, .int r5), (0, .ref (a 20)), (1, .int x1), (2, .int x2), (3, .int x3), (4, .int x4), (5, .int x5)]) hx hb d_M_lower_139 hl (by decide) rfl (fun ls hl => ?_)
    refine lv_iconst (v := 1) hx hb d_M_lower_141 (by decide) ?_
    refine lv_istore (lv' := [(7, .int 1), (6, .int r5), (0, .ref (a 20)), (1, .int x1), (2, .int x2), (3, .int x3), (4, .int x4), (5, .int x5)]) hx hb d_M_lower_142 hl (by decide) rfl (fun ls hl => ?_)
    refine lv_iconst (v := 0) hx hb d_M_lower_144 (by decide) ?_
    refine lv_istore (lv' := [(8, .int 0), (7, .int 1), (6, .int r5), (0, .ref (a 20)), (1, .int x1), (2, .int x2), (3, .int x3), (4, .int x4), (5, .int x5)]) hx hb d_M_lower_145 hl (by decide) rfl (fun ls hl => ?_)
    exact t_M_lower_147 (a := a) C0 hA hk125 h hP hD hS (lv_sub hl [3, 4, 5, 6, 7, 8, 2, 1, 0] rfl)
set_option maxHeartbeats 4000000 in
set_option maxRecDepth 100000 in
theorem t_M_lower_125 {p : Program} {l : Launch} {e : Env} {s : State} {m : MethodId} {args : Array Value} {below : List Frame} {meth : Method} {c : Code} {D : va_G} {cI cZ : ClassId} {a : Nat → Nat} {A : Nat → Prop} (C0 : Am p s m args meth c b_M_lower (some .int) 10 R_M D [(cI, .int), (cZ, .boolean)]) (hA : ∀ q, s.heap.size ≤ q → A q) {res : Int32 × StM}  {n : Nat} {q : Nat} {σ : StM} {x1 x2 x3 x4 x5 : Int32} (h : f_M_lower_125  n σ x1 x2 x3 x4 x5 = some res) {H : Heap} {locs : List Loc} (hP : va_P D vwCl (wM cI cZ a q σ) H) (hD : va_D A (wM cI cZ a q σ)) (hS : va_S A s.heap H locs) {ls : Array Slot} (hl : lv_has ls 10 [(0, .ref (a 20)), (1, .int x1), (2, .int x2), (3, .int x3), (4, .int x4), (5, .int x5)]) : W p l e (rmK 5 122 0 0) s m args below meth c H locs 0 0 (RwQ below args s D A (fun q (σ : StM) => (wM cI cZ a q σ)) res 0 0) (F0 m 125 ls []) := by
  induction n generalizing q σ x1 x2 x3 x4 x5 H locs ls with
  | zero => cases h
  | succ n ih => exact t_M_lower_125_s (a := a) C0 hA  (fun _ _ _ _ _ _ _ _ _ _ h hP hD hS hl => ih h hP hD hS hl) h hP hD hS hl
set_option maxHeartbeats 4000000 in
set_option maxRecDepth 100000 in
theorem t_M_lower_22 {p : Program} {l : Launch} {e : Env} {s : State} {m : MethodId} {args : Array Value} {below : List Frame} {meth : Method} {c : Code} {D : va_G} {cI cZ : ClassId} {a : Nat → Nat} {A : Nat → Prop} (C0 : Am p s m args meth c b_M_lower (some .int) 10 R_M D [(cI, .int), (cZ, .boolean)]) (hA : ∀ q, s.heap.size ≤ q → A q) {res : Int32 × StM}   {q : Nat} {σ : StM} {x1 x2 t1 : Int32} (h : f_M_lower_22 σ x1 x2 t1 = some res) {H : Heap} {locs : List Loc} (hP : va_P D vwCl (wM cI cZ a q σ) H) (hD : va_D A (wM cI cZ a q σ)) (hS : va_S A s.heap H locs) {ls : Array Slot} (hl : lv_has ls 10 [(0, .ref (a 20)), (1, .int x1), (2, .int x2)]) : W p l e (rmK 5 122 0 0) s m args below meth c H locs 0 0 (RwQ below args s D A (fun q (σ : StM) => (wM cI cZ a q σ)) res 0 0) (F0 m 22 ls [.int t1, .ref (a 20)]) := by
  obtain ⟨hx, hb, hr, hml, hown, hts, hlk, hK⟩ := id C0
  unfold f_M_lower_22 at h
  replace h := bd h
  obtain ⟨r1, g1, h⟩ := h
  refine rw_V (n := 1) (ci := 4) (As := [.int t1]) (rest := []) (Wn := fun _ => (wM cI cZ a q r1.2)) C0 hA (c_M_good l D cI cZ a q σ t1 g1) wd_388 ⟨wd_389, wd_390, wd_391, wd_352⟩ (by decide +kernel) ⟨Nat.le_of_ble_eq_true rfl, Nat.le_of_ble_eq_true rfl⟩ hP hD hS [0, 1, 2, 3, 4, 5, 6, 7, 8, 9, 10, 11, 12, 13, 14, 15, 16, 17, 18, 19, 20, 21, 22, 23] [] [0, 1, 2, 3, 4, 5, 6, 7, 8, 9, 10, 11, 12, 13, 14, 15, 16, 17, 18, 19, 20, 21, 22, 23] jn_M__C (by decide) jn_M__R (by decide) (by decide) (by decide) jn_M__W rfl rfl rfl hl rfl rfl (Nat.le_of_ble_eq_true rfl) ⟨Nat.zero_le _, Nat.zero_le _⟩ d_M_lower_22 (fun H locs _ hP hD hS => ?_)
  try dsimp only at h
  refine lv_if_ne (tgt := 30) hx hb d_M_lower_25 (by decide) (fun hc => ?_) (fun hc => ?_)
  · rw [if_neg hc] at h
    refine lv_aload_n hx hb d_M_lower_30 rfl (lv_at hl 0 rfl) ?_
    replace h := bd h
    obtain ⟨r2, g2, h⟩ := h
    refine rw_Vv (n := 0) (ci := 4) (As := []) (rest := []) (Wn := fun _ => (wM cI cZ a q r2.2)) C0 hA (c_M_reckonBelow l D cI cZ a q r1.2 g2) wd_435 ⟨wd_436, wd_437, wd_438, wd_352⟩ (by decide +kernel) ⟨Nat.le_of_ble_eq_true rfl, Nat.le_of_ble_eq_true rfl⟩ hP hD hS [0, 1, 2, 3, 4, 5, 6, 7, 8, 9, 10, 11, 12, 13, 14, 15, 16, 17, 18, 19, 20, 21, 22, 23] [] [0, 1, 2, 3, 4, 5, 6, 7, 8, 9, 10, 11, 12, 13, 14, 15, 16, 17, 18, 19, 20, 21, 22, 23] jn_M__C (by decide) jn_M__R (by decide) (by decide) (by decide) jn_M__W rfl rfl rfl hl rfl rfl (Nat.le_of_ble_eq_true rfl) ⟨Nat.zero_le _, Nat.zero_le _⟩ d_M_lower_31 (fun H locs _ hP hD hS => ?_)
    try dsimp only at h
    refine lv_aload_n hx hb d_M_lower_34 rfl (lv_at hl 0 rfl) ?_
    refine va_get (ci := 4) (v := .ref (a 35)) (C := R_M) (T := F_M) (N := 35) hx hb hts i_M hown hK.1 hP 0 rfl rfl 23 (by decide) (hts _ wd_370) (fun _ h9 => h9) rfl d_M_lower_35 ?_
    refine lv_sipush (v := 300) hx hb d_M_lower_38 (by decide) ?_
    refine lv_iload_n hx hb d_M_lower_41 rfl (lv_at hl 1 rfl) ?_
    refine lv_imul hx hb d_M_lower_42 ?_
    refine lv_iload_n hx hb d_M_lower_43 rfl (lv_at hl 2 rfl) ?_
    refine lv_iadd hx hb d_M_lower_44 ?_
    replace h := gd h
    obtain ⟨hi, h⟩ := h
    refine va_zald hx hb hK.1 hP 15 1 rfl rfl hi d_M_lower_45 ?_
    refine lv_if_ne (tgt := 64) hx hb d_M_lower_46 (by decide) (fun hc => ?_) (fun hc => ?_)
    · rw [if_neg hc] at h
      exact t_M_lower_64 (a := a) C0 hA  h hP hD hS (lv_sub hl [0, 1, 2] rfl)
    · rw [if_pos hc] at h
      refine lv_aload_n hx hb d_M_lower_49 rfl (lv_at hl 0 rfl) ?_
      refine va_get (ci := 4) (v := .ref (a 35)) (C := R_M) (T := F_M) (N := 35) hx hb hts i_M hown hK.1 hP 0 rfl rfl 23 (by decide) (hts _ wd_370) (fun _ h9 => h9) rfl d_M_lower_50 ?_
      refine lv_sipush (v := 300) hx hb d_M_lower_53 (by decide) ?_
      refine lv_iload_n hx hb d_M_lower_56 rfl (lv_at hl 2 rfl) ?_
      refine lv_imul hx hb d_M_lower_57 ?_
      refine lv_iload_n hx hb d_M_lower_58 rfl (lv_at hl 1 rfl) ?_
      refine lv_iadd hx hb d_M_lower_59 ?_
      replace h := gd h
      obtain ⟨hi, h⟩ := h
      refine va_zald hx hb hK.1 hP 15 1 rfl rfl hi d_M_lower_60 ?_
      refine lv_if_eq (tgt := 85) hx hb d_M_lower_61 (by decide) (fun hc => ?_) (fun hc => ?_)
      · rw [if_pos hc] at h
        refine lv_aload_n hx hb d_M_lower_85 rfl (lv_at hl 0 rfl) ?_
        refine va_get (ci := 4) (v := .ref (a 32)) (C := R_M) (T := F_M) (N := 35) hx hb hts i_M hown hK.1 hP 0 rfl rfl 16 (by decide) (hts _ wd_354) (fun _ h9 => h9) rfl d_M_lower_86 ?_
        refine lv_iload_n hx hb d_M_lower_89 rfl (lv_at hl 1 rfl) ?_
        replace h := gd h
        obtain ⟨hi, h⟩ := h
        refine va_iald hx hb hK.1 hP 12 0 rfl rfl hi d_M_lower_90 ?_
        refine lv_aload_n hx hb d_M_lower_91 rfl (lv_at hl 0 rfl) ?_
        refine va_get (ci := 4) (v := .ref (a 32)) (C := R_M) (T := F_M) (N := 35) hx hb hts i_M hown hK.1 hP 0 rfl rfl 16 (by decide) (hts _ wd_354) (fun _ h9 => h9) rfl d_M_lower_92 ?_
        refine lv_iload_n hx hb d_M_lower_95 rfl (lv_at hl 2 rfl) ?_
        replace h := gd h
        obtain ⟨hi, h⟩ := h
        refine va_iald hx hb hK.1 hP 12 0 rfl rfl hi d_M_lower_96 ?_
        refine lv_iadd hx hb d_M_lower_97 ?_
        refine lv_istore_n (lv' := [(3, .int (((M_partCount r2.2) x1.toNatClampNeg) + ((M_partCount r2.2) x2.toNatClampNeg))), (0, .ref (a 20)), (1, .int x1), (2, .int x2)]) hx hb d_M_lower_98 rfl hl (by decide) rfl (fun ls hl => ?_)
        refine lv_aload_n hx hb d_M_lower_99 rfl (lv_at hl 1 rfl) ?_
        refine va_get (ci := 4) (v := .ref (a 32)) (C := R_M) (T := F_M) (N := 35) hx hb hts i_M hown hK.1 hP 0 rfl rfl 16 (by decide) (hts _ wd_354) (fun _ h9 => h9) rfl d_M_lower_100 ?_
        refine lv_iload_n hx hb d_M_lower_103 rfl (lv_at hl 2 rfl) ?_
        replace h := gd h
        obtain ⟨hi, h⟩ := h
        refine va_iald hx hb hK.1 hP 12 0 rfl rfl hi d_M_lower_104 ?_
        refine lv_if_eq (tgt := 117) hx hb d_M_lower_105 (by decide) (fun hc => ?_) (fun hc => ?_)
        · rw [if_pos hc] at h
          refine lv_iconst (v := (-1)) hx hb d_M_lower_117 (by decide) ?_
          exact rw_ret C0 hP hD hS (Option.some.inj h) d_M_lower_118
        · rw [if_neg hc] at h
          refine lv_aload_n hx hb d_M_lower_108 rfl (lv_at hl 1 rfl) ?_
          refine va_get (ci := 4) (v := .ref (a 32)) (C := R_M) (T := F_M) (N := 35) hx hb hts i_M hown hK.1 hP 0 rfl rfl 16 (by decide) (hts _ wd_354) (fun _ h9 => h9) rfl d_M_lower_109 ?_
          refine lv_iload_n hx hb d_M_lower_112 rfl (lv_at hl 3 rfl) ?_
          replace h := gd h
          obtain ⟨hi, h⟩ := h
          refine va_iald hx hb hK.1 hP 12 0 rfl rfl hi d_M_lower_113 ?_
          refine lv_if_ne (tgt := 119) hx hb d_M_lower_114 (by decide) (fun hc => ?_) (fun hc => ?_)
          · rw [if_neg hc] at h
            refine lv_iconst (v := 0) hx hb d_M_lower_119 (by decide) ?_
            refine lv_istore (lv' := [(4, .int 0), (3, .int (((M_partCount r2.2) x1.toNatClampNeg) + ((M_partCount r2.2) x2.toNatClampNeg))), (0, .ref (a 20)), (1, .int x1), (2, .int x2)]) hx hb d_M_lower_120 hl (by decide) rfl (fun ls hl => ?_)
            refine lv_iconst (v := 0) hx hb d_M_lower_122 (by decide) ?_
            refine lv_istore (lv' := [(5, .int 0), (4, .int 0), (3, .int (((M_partCount r2.2) x1.toNatClampNeg) + ((M_partCount r2.2) x2.toNatClampNeg))), (0, .ref (a 20)), (1, .int x1), (2, .int x2)]) hx hb d_M_lower_123 hl (by decide) rfl (fun ls hl => ?_)
            exact t_M_lower_125 (a := a) C0 hA  h hP hD hS (lv_sub hl [3, 4, 5, 2, 1, 0] rfl)
          · rw [if_pos hc] at h
            refine lv_iconst (v := (-1)) hx hb d_M_lower_117 (by decide) ?_
            exact rw_ret C0 hP hD hS (Option.some.inj h) d_M_lower_118
      · rw [if_neg hc] at h
        exact t_M_lower_64 (a := a) C0 hA  h hP hD hS (lv_sub hl [0, 1, 2] rfl)
  · rw [if_pos hc] at h
    refine lv_iconst (v := 0) hx hb d_M_lower_28 (by decide) ?_
    exact rw_ret C0 hP hD hS (Option.some.inj h) d_M_lower_29
set_option maxHeartbeats 4000000 in
set_option maxRecDepth 100000 in
theorem t_M_lower_21 {p : Program} {l : Launch} {e : Env} {s : State} {m : MethodId} {args : Array Value} {below : List Frame} {meth : Method} {c : Code} {D : va_G} {cI cZ : ClassId} {a : Nat → Nat} {A : Nat → Prop} (C0 : Am p s m args meth c b_M_lower (some .int) 10 R_M D [(cI, .int), (cZ, .boolean)]) (hA : ∀ q, s.heap.size ≤ q → A q) {res : Int32 × StM}   {q : Nat} {σ : StM} {x1 x2 : Int32} (h : f_M_lower_21 σ x1 x2 = some res) {H : Heap} {locs : List Loc} (hP : va_P D vwCl (wM cI cZ a q σ) H) (hD : va_D A (wM cI cZ a q σ)) (hS : va_S A s.heap H locs) {ls : Array Slot} (hl : lv_has ls 10 [(0, .ref (a 20)), (1, .int x1), (2, .int x2)]) : W p l e (rmK 5 122 0 0) s m args below meth c H locs 0 0 (RwQ below args s D A (fun q (σ : StM) => (wM cI cZ a q σ)) res 0 0) (F0 m 21 ls [.ref (a 20)]) := by
  obtain ⟨hx, hb, hr, hml, hown, hts, hlk, hK⟩ := id C0
  unfold f_M_lower_21 at h
  refine lv_iconst (v := 1) hx hb d_M_lower_21 (by decide) ?_
  exact t_M_lower_22 (a := a) C0 hA  h hP hD hS (lv_sub hl [0, 1, 2] rfl)
set_option maxHeartbeats 4000000 in
set_option maxRecDepth 100000 in
theorem t_M_lower_0 {p : Program} {l : Launch} {e : Env} {s : State} {m : MethodId} {args : Array Value} {below : List Frame} {meth : Method} {c : Code} {D : va_G} {cI cZ : ClassId} {a : Nat → Nat} {A : Nat → Prop} (C0 : Am p s m args meth c b_M_lower (some .int) 10 R_M D [(cI, .int), (cZ, .boolean)]) (hA : ∀ q, s.heap.size ≤ q → A q) {res : Int32 × StM}   {q : Nat} {σ : StM} {x1 x2 : Int32} (h : f_M_lower σ x1 x2 = some res) {H : Heap} {locs : List Loc} (hP : va_P D vwCl (wM cI cZ a q σ) H) (hD : va_D A (wM cI cZ a q σ)) (hS : va_S A s.heap H locs) {ls : Array Slot} (hl : lv_has ls 10 [(0, .ref (a 20)), (1, .int x1), (2, .int x2)]) : W p l e (rmK 5 122 0 0) s m args below meth c H locs 0 0 (RwQ below args s D A (fun q (σ : StM) => (wM cI cZ a q σ)) res 0 0) (F0 m 0 ls []) := by
  obtain ⟨hx, hb, hr, hml, hown, hts, hlk, hK⟩ := id C0
  unfold f_M_lower at h
  refine lv_aload_n hx hb d_M_lower_0 rfl (lv_at hl 0 rfl) ?_
  refine lv_aload_n hx hb d_M_lower_1 rfl (lv_at hl 0 rfl) ?_
  refine lv_iload_n hx hb d_M_lower_2 rfl (lv_at hl 1 rfl) ?_
  refine ro_V (n := 1) (ci := 4) (As := [.int x1]) (rest := [.ref (a 20)]) C0 (c_M_isType l D cI cZ a q σ x1 rfl) wd_427 ⟨wd_428, wd_429, wd_430, wd_352⟩ (by decide +kernel) ⟨Nat.le_of_ble_eq_true rfl, Nat.le_of_ble_eq_true rfl⟩ hP rfl rfl rfl hl rfl rfl (Nat.le_of_ble_eq_true rfl) ⟨Nat.zero_le _, Nat.zero_le _⟩ d_M_lower_3 ?_
  refine lv_if_eq (tgt := 21) hx hb d_M_lower_6 (by decide) (fun hc => ?_) (fun hc => ?_)
  · rw [if_pos hc] at h
    exact t_M_lower_21 (a := a) C0 hA  h hP hD hS (lv_sub hl [0, 1, 2] rfl)
  · rw [if_neg hc] at h
    refine lv_aload_n hx hb d_M_lower_9 rfl (lv_at hl 0 rfl) ?_
    refine lv_iload_n hx hb d_M_lower_10 rfl (lv_at hl 2 rfl) ?_
    refine ro_V (n := 1) (ci := 4) (As := [.int x2]) (rest := [.ref (a 20)]) C0 (c_M_isType l D cI cZ a q σ x2 rfl) wd_427 ⟨wd_428, wd_429, wd_430, wd_352⟩ (by decide +kernel) ⟨Nat.le_of_ble_eq_true rfl, Nat.le_of_ble_eq_true rfl⟩ hP rfl rfl rfl hl rfl rfl (Nat.le_of_ble_eq_true rfl) ⟨Nat.zero_le _, Nat.zero_le _⟩ d_M_lower_11 ?_
    refine lv_if_eq (tgt := 21) hx hb d_M_lower_14 (by decide) (fun hc => ?_) (fun hc => ?_)
    · rw [if_pos hc] at h
      exact t_M_lower_21 (a := a) C0 hA  h hP hD hS (lv_sub hl [0, 1, 2] rfl)
    · rw [if_neg hc] at h
      refine lv_iconst (v := 0) hx hb d_M_lower_17 (by decide) ?_
      refine lv_goto (tgt := 22) hx hb d_M_lower_18 (by decide) ?_
      exact t_M_lower_22 (a := a) C0 hA  h hP hD hS (lv_sub hl [0, 1, 2] rfl)
set_option maxHeartbeats 4000000 in
set_option maxRecDepth 100000 in
theorem c_M_lower (l : Launch) (D : va_G) (cI cZ : ClassId) (a : Nat → Nat) (q : Nat) (σ : StM) (x1 : Int32) (x2 : Int32) {res : Int32 × StM} (h : f_M_lower σ x1 x2 = some res) : RwM l y_M_lower b_M_lower 10 (some .int) 5 122 D [(cI, .int), (cZ, .boolean)] [.ref (a 20), .int x1, .int x2] (fun q (σ : StM) => (wM cI cZ a q σ)) q σ res :=
  rw_of (by decide) (Nat.le_of_ble_eq_true rfl) (fun p e s m args below meth c ls A C0 hA hP hD hS hl => t_M_lower_0 (a := a) C0 hA h hP hD hS (lv_sub hl [0, 1, 2] rfl))
