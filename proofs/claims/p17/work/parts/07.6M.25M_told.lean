def f_M_told_15 (σ : StM) (x1 t1 : Int32) : Option (Int32 × StM) :=
  (f_M_good σ t1).bind fun r1 =>
  if r1.1 = 0 then
    some (0, r1.2)
  else
    if x1 = 0 then
      some ((M_classes r1.2), r1.2)
    else
      if x1 = 1 then
        some ((M_generics r1.2), r1.2)
      else
        if x1 = 2 then
          some ((M_types r1.2), r1.2)
        else
          some ((M_depth r1.2), r1.2)
def f_M_told_10 (σ : StM) (x1 : Int32) : Option (Int32 × StM) :=
  f_M_told_15 σ x1 1
def f_M_told (σ : StM) (x1 : Int32) : Option (Int32 × StM) :=
  if x1 < 0 then
    f_M_told_10 σ x1
  else
    if x1 ≤ 3 then
      f_M_told_15 σ x1 0
    else
      f_M_told_10 σ x1
set_option maxHeartbeats 4000000 in
set_option maxRecDepth 100000 in
theorem t_M_told_15 {p : Program} {l : Launch} {e : Env} {s : State} {m : MethodId} {args : Array Value} {below : List Frame} {meth : Method} {c : Code} {D : va_G} {cI cZ : ClassId} {a : Nat → Nat} {A : Nat → Prop} (C0 : Am p s m args meth c b_M_told (some .int) 2 R_M D [(cI, .int), (cZ, .boolean)]) (hA : ∀ q, s.heap.size ≤ q → A q) {res : Int32 × StM}   {q : Nat} {σ : StM} {x1 t1 : Int32} (h : f_M_told_15 σ x1 t1 = some res) {H : Heap} {locs : List Loc} (hP : va_P D vwCl (wM cI cZ a q σ) H) (hD : va_D A (wM cI cZ a q σ)) (hS : va_S A s.heap H locs) {ls : Array Slot} (hl : lv_has ls 2 [(0, .ref (a 20)), (1, .int x1)]) : W p l e (rmK 1 21 0 0) s m args below meth c H locs 0 0 (RwQ below args s D A (fun q (σ : StM) => (wM cI cZ a q σ)) res 0 0) (F0 m 15 ls [.int t1, .ref (a 20)]) := by
  obtain ⟨hx, hb, hr, hml, hown, hts, hlk, hK⟩ := id C0
  unfold f_M_told_15 at h
  replace h := bd h
  obtain ⟨r1, g1, h⟩ := h
  refine rw_V (n := 1) (ci := 4) (As := [.int t1]) (rest := []) (Wn := fun _ => (wM cI cZ a q r1.2)) C0 hA (c_M_good l D cI cZ a q σ t1 g1) wd_388 ⟨wd_389, wd_390, wd_391, wd_352⟩ (by decide +kernel) ⟨Nat.le_of_ble_eq_true rfl, Nat.le_of_ble_eq_true rfl⟩ hP hD hS [0, 1, 2, 3, 4, 5, 6, 7, 8, 9, 10, 11, 12, 13, 14, 15, 16, 17, 18, 19, 20, 21, 22, 23] [] [0, 1, 2, 3, 4, 5, 6, 7, 8, 9, 10, 11, 12, 13, 14, 15, 16, 17, 18, 19, 20, 21, 22, 23] jn_M__C (by decide) jn_M__R (by decide) (by decide) (by decide) jn_M__W rfl rfl rfl hl rfl rfl (Nat.le_of_ble_eq_true rfl) ⟨Nat.zero_le _, Nat.zero_le _⟩ d_M_told_15 (fun H locs _ hP hD hS => ?_)
  try dsimp only at h
  refine lv_if_ne (tgt := 23) hx hb d_M_told_18 (by decide) (fun hc => ?_) (fun hc => ?_)
  · rw [if_neg hc] at h
    refine lv_iload_n hx hb d_M_told_23 rfl (lv_at hl 1 rfl) ?_
    refine lv_if_ne (tgt := 34) hx hb d_M_told_24 (by decide) (fun hc => ?_) (fun hc => ?_)
    · rw [if_neg hc] at h
      refine lv_iload_n hx hb d_M_told_34 rfl (lv_at hl 1 rfl) ?_
      refine lv_iconst (v := 1) hx hb d_M_told_35 (by decide) ?_
      refine lv_icmp_ne (tgt := 46) hx hb d_M_told_36 (by decide) (fun hc => ?_) (fun hc => ?_)
      · rw [if_neg hc] at h
        refine lv_iload_n hx hb d_M_told_46 rfl (lv_at hl 1 rfl) ?_
        refine lv_iconst (v := 2) hx hb d_M_told_47 (by decide) ?_
        refine lv_icmp_ne (tgt := 58) hx hb d_M_told_48 (by decide) (fun hc => ?_) (fun hc => ?_)
        · rw [if_neg hc] at h
          refine lv_aload_n hx hb d_M_told_58 rfl (lv_at hl 0 rfl) ?_
          refine va_get (ci := 4) (v := .int (M_depth r1.2)) (C := R_M) (T := F_M) (N := 35) hx hb hts i_M hown hK.1 hP 0 rfl rfl 1 (by decide) (hts _ wd_418) (fun _ h9 => h9) rfl d_M_told_59 ?_
          exact rw_ret C0 hP hD hS (Option.some.inj h) d_M_told_62
        · rw [if_pos hc] at h
          refine lv_aload_n hx hb d_M_told_51 rfl (lv_at hl 0 rfl) ?_
          refine va_get (ci := 4) (v := .int (M_types r1.2)) (C := R_M) (T := F_M) (N := 35) hx hb hts i_M hown hK.1 hP 0 rfl rfl 10 (by decide) (hts _ wd_344) (fun _ h9 => h9) rfl d_M_told_52 ?_
          refine lv_goto (tgt := 62) hx hb d_M_told_55 (by decide) ?_
          exact rw_ret C0 hP hD hS (Option.some.inj h) d_M_told_62
      · rw [if_pos hc] at h
        refine lv_aload_n hx hb d_M_told_39 rfl (lv_at hl 0 rfl) ?_
        refine va_get (ci := 4) (v := .int (M_generics r1.2)) (C := R_M) (T := F_M) (N := 35) hx hb hts i_M hown hK.1 hP 0 rfl rfl 3 (by decide) (hts _ wd_394) (fun _ h9 => h9) rfl d_M_told_40 ?_
        refine lv_goto (tgt := 62) hx hb d_M_told_43 (by decide) ?_
        exact rw_ret C0 hP hD hS (Option.some.inj h) d_M_told_62
    · rw [if_pos hc] at h
      refine lv_aload_n hx hb d_M_told_27 rfl (lv_at hl 0 rfl) ?_
      refine va_get (ci := 4) (v := .int (M_classes r1.2)) (C := R_M) (T := F_M) (N := 35) hx hb hts i_M hown hK.1 hP 0 rfl rfl 2 (by decide) (hts _ wd_343) (fun _ h9 => h9) rfl d_M_told_28 ?_
      refine lv_goto (tgt := 62) hx hb d_M_told_31 (by decide) ?_
      exact rw_ret C0 hP hD hS (Option.some.inj h) d_M_told_62
  · rw [if_pos hc] at h
    refine lv_iconst (v := 0) hx hb d_M_told_21 (by decide) ?_
    exact rw_ret C0 hP hD hS (Option.some.inj h) d_M_told_22
set_option maxHeartbeats 4000000 in
set_option maxRecDepth 100000 in
theorem t_M_told_10 {p : Program} {l : Launch} {e : Env} {s : State} {m : MethodId} {args : Array Value} {below : List Frame} {meth : Method} {c : Code} {D : va_G} {cI cZ : ClassId} {a : Nat → Nat} {A : Nat → Prop} (C0 : Am p s m args meth c b_M_told (some .int) 2 R_M D [(cI, .int), (cZ, .boolean)]) (hA : ∀ q, s.heap.size ≤ q → A q) {res : Int32 × StM}   {q : Nat} {σ : StM} {x1 : Int32} (h : f_M_told_10 σ x1 = some res) {H : Heap} {locs : List Loc} (hP : va_P D vwCl (wM cI cZ a q σ) H) (hD : va_D A (wM cI cZ a q σ)) (hS : va_S A s.heap H locs) {ls : Array Slot} (hl : lv_has ls 2 [(0, .ref (a 20)), (1, .int x1)]) : W p l e (rmK 1 21 0 0) s m args below meth c H locs 0 0 (RwQ below args s D A (fun q (σ : StM) => (wM cI cZ a q σ)) res 0 0) (F0 m 10 ls [.ref (a 20)]) := by
  obtain ⟨hx, hb, hr, hml, hown, hts, hlk, hK⟩ := id C0
  unfold f_M_told_10 at h
  refine lv_iconst (v := 1) hx hb d_M_told_10 (by decide) ?_
  refine lv_goto (tgt := 15) hx hb d_M_told_11 (by decide) ?_
  exact t_M_told_15 (a := a) C0 hA  h hP hD hS (lv_sub hl [0, 1] rfl)
set_option maxHeartbeats 4000000 in
set_option maxRecDepth 100000 in
theorem t_M_told_0 {p : Program} {l : Launch} {e : Env} {s : State} {m : MethodId} {args : Array Value} {below : List Frame} {meth : Method} {c : Code} {D : va_G} {cI cZ : ClassId} {a : Nat → Nat} {A : Nat → Prop} (C0 : Am p s m args meth c b_M_told (some .int) 2 R_M D [(cI, .int), (cZ, .boolean)]) (hA : ∀ q, s.heap.size ≤ q → A q) {res : Int32 × StM}   {q : Nat} {σ : StM} {x1 : Int32} (h : f_M_told σ x1 = some res) {H : Heap} {locs : List Loc} (hP : va_P D vwCl (wM cI cZ a q σ) H) (hD : va_D A (wM cI cZ a q σ)) (hS : va_S A s.heap H locs) {ls : Array Slot} (hl : lv_has ls 2 [(0, .ref (a 20)), (1, .int x1)]) : W p l e (rmK 1 21 0 0) s m args below meth c H locs 0 0 (RwQ below args s D A (fun q (σ : StM) => (wM cI cZ a q σ)) res 0 0) (F0 m 0 ls []) := by
  obtain ⟨hx, hb, hr, hml, hown, hts, hlk, hK⟩ := id C0
  unfold f_M_told at h
  refine lv_aload_n hx hb d_M_told_0 rfl (lv_at hl 0 rfl) ?_
  refine lv_iload_n hx hb d_M_told_1 rfl (lv_at hl 1 rfl) ?_
  refine lv_if_lt (tgt := 10) hx hb d_M_told_2 (by decide) (fun hc => ?_) (fun hc => ?_)
  · rw [if_pos hc] at h
    exact t_M_told_10 (a := a) C0 hA  h hP hD hS (lv_sub hl [0, 1] rfl)
  · rw [if_neg hc] at h
    refine lv_iload_n hx hb d_M_told_5 rfl (lv_at hl 1 rfl) ?_
    refine lv_iconst (v := 3) hx hb d_M_told_6 (by decide) ?_
    refine lv_icmp_le (tgt := 14) hx hb d_M_told_7 (by decide) (fun hc => ?_) (fun hc => ?_)
    · rw [if_pos hc] at h
      refine lv_iconst (v := 0) hx hb d_M_told_14 (by decide) ?_
      exact t_M_told_15 (a := a) C0 hA  h hP hD hS (lv_sub hl [0, 1] rfl)
    · rw [if_neg hc] at h
      exact t_M_told_10 (a := a) C0 hA  h hP hD hS (lv_sub hl [0, 1] rfl)
set_option maxHeartbeats 4000000 in
set_option maxRecDepth 100000 in
theorem c_M_told (l : Launch) (D : va_G) (cI cZ : ClassId) (a : Nat → Nat) (q : Nat) (σ : StM) (x1 : Int32) {res : Int32 × StM} (h : f_M_told σ x1 = some res) : RwM l y_M_told b_M_told 2 (some .int) 1 21 D [(cI, .int), (cZ, .boolean)] [.ref (a 20), .int x1] (fun q (σ : StM) => (wM cI cZ a q σ)) q σ res :=
  rw_of (by decide) (Nat.le_of_ble_eq_true rfl) (fun p e s m args below meth c ls A C0 hA hP hD hS hl => t_M_told_0 (a := a) C0 hA h hP hD hS (lv_sub hl [0, 1] rfl))
