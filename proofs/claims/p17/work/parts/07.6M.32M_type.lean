def f_M_type_27 (σ : StM) (x1 x2 t1 : Int32) : Option (Int32 × StM) :=
  (f_M_good σ t1).bind fun r1 =>
  if r1.1 = 0 then
    some (0, r1.2)
  else
    if x2 = 0 then
      if x1 < 0 ∨ 300 ≤ x1.toNatClampNeg then none else
      some (((M_kind r1.2) x1.toNatClampNeg), r1.2)
    else if x2 = 1 then
      if x1 < 0 ∨ 300 ≤ x1.toNatClampNeg then none else
      some (((M_classOf r1.2) x1.toNatClampNeg), r1.2)
    else if x2 = 2 then
      if x1 < 0 ∨ 300 ≤ x1.toNatClampNeg then none else
      some (((M_how r1.2) x1.toNatClampNeg), r1.2)
    else if x2 = 3 then
      if x1 < 0 ∨ 300 ≤ x1.toNatClampNeg then none else
      some (((M_inner r1.2) x1.toNatClampNeg), r1.2)
    else if x2 = 4 then
      if x1 < 0 ∨ 300 ≤ x1.toNatClampNeg then none else
      some (((M_partCount r1.2) x1.toNatClampNeg), r1.2)
    else if x1 < 0 ∨ 300 ≤ x1.toNatClampNeg then none else
    some (((M_made r1.2) x1.toNatClampNeg), r1.2)
def f_M_type_22 (σ : StM) (x1 x2 : Int32) : Option (Int32 × StM) :=
  f_M_type_27 σ x1 x2 2
def f_M_type (σ : StM) (x1 x2 : Int32) : Option (Int32 × StM) :=
  if (f_M_isType σ x1) = 0 then
    f_M_type_27 σ x1 x2 1
  else
    if x2 < 0 then
      f_M_type_22 σ x1 x2
    else
      if x2 ≤ 5 then
        f_M_type_27 σ x1 x2 0
      else
        f_M_type_22 σ x1 x2
set_option maxHeartbeats 4000000 in
set_option maxRecDepth 100000 in
theorem t_M_type_27 {p : Program} {l : Launch} {e : Env} {s : State} {m : MethodId} {args : Array Value} {below : List Frame} {meth : Method} {c : Code} {D : va_G} {cI cZ : ClassId} {a : Nat → Nat} {A : Nat → Prop} (C0 : Am p s m args meth c b_M_type (some .int) 3 R_M D [(cI, .int), (cZ, .boolean)]) (hA : ∀ q, s.heap.size ≤ q → A q) {res : Int32 × StM}   {q : Nat} {σ : StM} {x1 x2 t1 : Int32} (h : f_M_type_27 σ x1 x2 t1 = some res) {H : Heap} {locs : List Loc} (hP : va_P D vwCl (wM cI cZ a q σ) H) (hD : va_D A (wM cI cZ a q σ)) (hS : va_S A s.heap H locs) {ls : Array Slot} (hl : lv_has ls 3 [(0, .ref (a 20)), (1, .int x1), (2, .int x2)]) : W p l e (rmK 1 21 0 0) s m args below meth c H locs 0 0 (RwQ below args s D A (fun q (σ : StM) => (wM cI cZ a q σ)) res 0 0) (F0 m 27 ls [.int t1, .ref (a 20)]) := by
  obtain ⟨hx, hb, hr, hml, hown, hts, hlk, hK⟩ := id C0
  unfold f_M_type_27 at h
  replace h := bd h
  obtain ⟨r1, g1, h⟩ := h
  refine rw_V (n := 1) (ci := 4) (As := [.int t1]) (rest := []) (Wn := fun _ => (wM cI cZ a q r1.2)) C0 hA (c_M_good l D cI cZ a q σ t1 g1) wd_388 ⟨wd_389, wd_390, wd_391, wd_352⟩ (by decide +kernel) ⟨Nat.le_of_ble_eq_true rfl, Nat.le_of_ble_eq_true rfl⟩ hP hD hS [0, 1, 2, 3, 4, 5, 6, 7, 8, 9, 10, 11, 12, 13, 14, 15, 16, 17, 18, 19, 20, 21, 22, 23] [] [0, 1, 2, 3, 4, 5, 6, 7, 8, 9, 10, 11, 12, 13, 14, 15, 16, 17, 18, 19, 20, 21, 22, 23] jn_M__C (by decide) jn_M__R (by decide) (by decide) (by decide) jn_M__W rfl rfl rfl hl rfl rfl (Nat.le_of_ble_eq_true rfl) ⟨Nat.zero_le _, Nat.zero_le _⟩ d_M_type_27 (fun H locs _ hP hD hS => ?_)
  try dsimp only at h
  refine lv_if_ne (tgt := 35) hx hb d_M_type_30 (by decide) (fun hc => ?_) (fun hc => ?_)
  · rw [if_neg hc] at h
    refine lv_iload_n hx hb d_M_type_35 rfl (lv_at hl 2 rfl) ?_
    by_cases e36_0 : x2 = 0
    · rw [if_pos e36_0] at h
      refine lv_tableIn (off := 36) (tgt := 72) hx hb d_M_type_36 (by rw [e36_0]; decide) (by rw [e36_0]; decide) (by rw [e36_0]; rfl) (by decide) ?_
      refine lv_aload_n hx hb d_M_type_72 rfl (lv_at hl 0 rfl) ?_
      refine va_get (ci := 4) (v := .ref (a 27)) (C := R_M) (T := F_M) (N := 35) hx hb hts i_M hown hK.1 hP 0 rfl rfl 11 (by decide) (hts _ wd_353) (fun _ h9 => h9) rfl d_M_type_73 ?_
      refine lv_iload_n hx hb d_M_type_76 rfl (lv_at hl 1 rfl) ?_
      replace h := gd h
      obtain ⟨hi, h⟩ := h
      refine va_iald hx hb hK.1 hP 7 0 rfl rfl hi d_M_type_77 ?_
      exact rw_ret C0 hP hD hS (Option.some.inj h) d_M_type_78
    · rw [if_neg e36_0] at h
      by_cases e36_1 : x2 = 1
      · rw [if_pos e36_1] at h
        refine lv_tableIn (off := 43) (tgt := 79) hx hb d_M_type_36 (by rw [e36_1]; decide) (by rw [e36_1]; decide) (by rw [e36_1]; rfl) (by decide) ?_
        refine lv_aload_n hx hb d_M_type_79 rfl (lv_at hl 0 rfl) ?_
        refine va_get (ci := 4) (v := .ref (a 28)) (C := R_M) (T := F_M) (N := 35) hx hb hts i_M hown hK.1 hP 0 rfl rfl 12 (by decide) (hts _ wd_356) (fun _ h9 => h9) rfl d_M_type_80 ?_
        refine lv_iload_n hx hb d_M_type_83 rfl (lv_at hl 1 rfl) ?_
        replace h := gd h
        obtain ⟨hi, h⟩ := h
        refine va_iald hx hb hK.1 hP 8 0 rfl rfl hi d_M_type_84 ?_
        exact rw_ret C0 hP hD hS (Option.some.inj h) d_M_type_85
      · rw [if_neg e36_1] at h
        by_cases e36_2 : x2 = 2
        · rw [if_pos e36_2] at h
          refine lv_tableIn (off := 50) (tgt := 86) hx hb d_M_type_36 (by rw [e36_2]; decide) (by rw [e36_2]; decide) (by rw [e36_2]; rfl) (by decide) ?_
          refine lv_aload_n hx hb d_M_type_86 rfl (lv_at hl 0 rfl) ?_
          refine va_get (ci := 4) (v := .ref (a 29)) (C := R_M) (T := F_M) (N := 35) hx hb hts i_M hown hK.1 hP 0 rfl rfl 13 (by decide) (hts _ wd_357) (fun _ h9 => h9) rfl d_M_type_87 ?_
          refine lv_iload_n hx hb d_M_type_90 rfl (lv_at hl 1 rfl) ?_
          replace h := gd h
          obtain ⟨hi, h⟩ := h
          refine va_iald hx hb hK.1 hP 9 0 rfl rfl hi d_M_type_91 ?_
          exact rw_ret C0 hP hD hS (Option.some.inj h) d_M_type_92
        · rw [if_neg e36_2] at h
          by_cases e36_3 : x2 = 3
          · rw [if_pos e36_3] at h
            refine lv_tableIn (off := 57) (tgt := 93) hx hb d_M_type_36 (by rw [e36_3]; decide) (by rw [e36_3]; decide) (by rw [e36_3]; rfl) (by decide) ?_
            refine lv_aload_n hx hb d_M_type_93 rfl (lv_at hl 0 rfl) ?_
            refine va_get (ci := 4) (v := .ref (a 30)) (C := R_M) (T := F_M) (N := 35) hx hb hts i_M hown hK.1 hP 0 rfl rfl 14 (by decide) (hts _ wd_358) (fun _ h9 => h9) rfl d_M_type_94 ?_
            refine lv_iload_n hx hb d_M_type_97 rfl (lv_at hl 1 rfl) ?_
            replace h := gd h
            obtain ⟨hi, h⟩ := h
            refine va_iald hx hb hK.1 hP 10 0 rfl rfl hi d_M_type_98 ?_
            exact rw_ret C0 hP hD hS (Option.some.inj h) d_M_type_99
          · rw [if_neg e36_3] at h
            by_cases e36_4 : x2 = 4
            · rw [if_pos e36_4] at h
              refine lv_tableIn (off := 64) (tgt := 100) hx hb d_M_type_36 (by rw [e36_4]; decide) (by rw [e36_4]; decide) (by rw [e36_4]; rfl) (by decide) ?_
              refine lv_aload_n hx hb d_M_type_100 rfl (lv_at hl 0 rfl) ?_
              refine va_get (ci := 4) (v := .ref (a 32)) (C := R_M) (T := F_M) (N := 35) hx hb hts i_M hown hK.1 hP 0 rfl rfl 16 (by decide) (hts _ wd_354) (fun _ h9 => h9) rfl d_M_type_101 ?_
              refine lv_iload_n hx hb d_M_type_104 rfl (lv_at hl 1 rfl) ?_
              replace h := gd h
              obtain ⟨hi, h⟩ := h
              refine va_iald hx hb hK.1 hP 12 0 rfl rfl hi d_M_type_105 ?_
              exact rw_ret C0 hP hD hS (Option.some.inj h) d_M_type_106
            · rw [if_neg e36_4] at h
              refine lv_tableOut (tgt := 107) hx hb d_M_type_36 (by have n0 := lv_neT (a := 0) e36_0 (by decide); have n1 := lv_neT (a := 1) e36_1 (by decide); have n2 := lv_neT (a := 2) e36_2 (by decide); have n3 := lv_neT (a := 3) e36_3 (by decide); have n4 := lv_neT (a := 4) e36_4 (by decide); omega) (by decide) ?_
              refine lv_aload_n hx hb d_M_type_107 rfl (lv_at hl 0 rfl) ?_
              refine va_get (ci := 4) (v := .ref (a 31)) (C := R_M) (T := F_M) (N := 35) hx hb hts i_M hown hK.1 hP 0 rfl rfl 15 (by decide) (hts _ wd_363) (fun _ h9 => h9) rfl d_M_type_108 ?_
              refine lv_iload_n hx hb d_M_type_111 rfl (lv_at hl 1 rfl) ?_
              replace h := gd h
              obtain ⟨hi, h⟩ := h
              refine va_iald hx hb hK.1 hP 11 0 rfl rfl hi d_M_type_112 ?_
              exact rw_ret C0 hP hD hS (Option.some.inj h) d_M_type_113
  · rw [if_pos hc] at h
    refine lv_iconst (v := 0) hx hb d_M_type_33 (by decide) ?_
    exact rw_ret C0 hP hD hS (Option.some.inj h) d_M_type_34
set_option maxHeartbeats 4000000 in
set_option maxRecDepth 100000 in
theorem t_M_type_22 {p : Program} {l : Launch} {e : Env} {s : State} {m : MethodId} {args : Array Value} {below : List Frame} {meth : Method} {c : Code} {D : va_G} {cI cZ : ClassId} {a : Nat → Nat} {A : Nat → Prop} (C0 : Am p s m args meth c b_M_type (some .int) 3 R_M D [(cI, .int), (cZ, .boolean)]) (hA : ∀ q, s.heap.size ≤ q → A q) {res : Int32 × StM}   {q : Nat} {σ : StM} {x1 x2 : Int32} (h : f_M_type_22 σ x1 x2 = some res) {H : Heap} {locs : List Loc} (hP : va_P D vwCl (wM cI cZ a q σ) H) (hD : va_D A (wM cI cZ a q σ)) (hS : va_S A s.heap H locs) {ls : Array Slot} (hl : lv_has ls 3 [(0, .ref (a 20)), (1, .int x1), (2, .int x2)]) : W p l e (rmK 1 21 0 0) s m args below meth c H locs 0 0 (RwQ below args s D A (fun q (σ : StM) => (wM cI cZ a q σ)) res 0 0) (F0 m 22 ls [.ref (a 20)]) := by
  obtain ⟨hx, hb, hr, hml, hown, hts, hlk, hK⟩ := id C0
  unfold f_M_type_22 at h
  refine lv_iconst (v := 2) hx hb d_M_type_22 (by decide) ?_
  refine lv_goto (tgt := 27) hx hb d_M_type_23 (by decide) ?_
  exact t_M_type_27 (a := a) C0 hA  h hP hD hS (lv_sub hl [0, 1, 2] rfl)
set_option maxHeartbeats 4000000 in
set_option maxRecDepth 100000 in
theorem t_M_type_0 {p : Program} {l : Launch} {e : Env} {s : State} {m : MethodId} {args : Array Value} {below : List Frame} {meth : Method} {c : Code} {D : va_G} {cI cZ : ClassId} {a : Nat → Nat} {A : Nat → Prop} (C0 : Am p s m args meth c b_M_type (some .int) 3 R_M D [(cI, .int), (cZ, .boolean)]) (hA : ∀ q, s.heap.size ≤ q → A q) {res : Int32 × StM}   {q : Nat} {σ : StM} {x1 x2 : Int32} (h : f_M_type σ x1 x2 = some res) {H : Heap} {locs : List Loc} (hP : va_P D vwCl (wM cI cZ a q σ) H) (hD : va_D A (wM cI cZ a q σ)) (hS : va_S A s.heap H locs) {ls : Array Slot} (hl : lv_has ls 3 [(0, .ref (a 20)), (1, .int x1), (2, .int x2)]) : W p l e (rmK 1 21 0 0) s m args below meth c H locs 0 0 (RwQ below args s D A (fun q (σ : StM) => (wM cI cZ a q σ)) res 0 0) (F0 m 0 ls []) := by
  obtain ⟨hx, hb, hr, hml, hown, hts, hlk, hK⟩ := id C0
  unfold f_M_type at h
  refine lv_aload_n hx hb d_M_type_0 rfl (lv_at hl 0 rfl) ?_
  refine lv_aload_n hx hb d_M_type_1 rfl (lv_at hl 0 rfl) ?_
  refine lv_iload_n hx hb d_M_type_2 rfl (lv_at hl 1 rfl) ?_
  refine ro_V (n := 1) (ci := 4) (As := [.int x1]) (rest := [.ref (a 20)]) C0 (c_M_isType l D cI cZ a q σ x1 rfl) wd_427 ⟨wd_428, wd_429, wd_430, wd_352⟩ (by decide +kernel) ⟨Nat.le_of_ble_eq_true rfl, Nat.le_of_ble_eq_true rfl⟩ hP rfl rfl rfl hl rfl rfl (Nat.le_of_ble_eq_true rfl) ⟨Nat.zero_le _, Nat.zero_le _⟩ d_M_type_3 ?_
  refine lv_if_ne (tgt := 13) hx hb d_M_type_6 (by decide) (fun hc => ?_) (fun hc => ?_)
  · rw [if_neg hc] at h
    refine lv_iload_n hx hb d_M_type_13 rfl (lv_at hl 2 rfl) ?_
    refine lv_if_lt (tgt := 22) hx hb d_M_type_14 (by decide) (fun hc => ?_) (fun hc => ?_)
    · rw [if_pos hc] at h
      exact t_M_type_22 (a := a) C0 hA  h hP hD hS (lv_sub hl [0, 1, 2] rfl)
    · rw [if_neg hc] at h
      refine lv_iload_n hx hb d_M_type_17 rfl (lv_at hl 2 rfl) ?_
      refine lv_iconst (v := 5) hx hb d_M_type_18 (by decide) ?_
      refine lv_icmp_le (tgt := 26) hx hb d_M_type_19 (by decide) (fun hc => ?_) (fun hc => ?_)
      · rw [if_pos hc] at h
        refine lv_iconst (v := 0) hx hb d_M_type_26 (by decide) ?_
        exact t_M_type_27 (a := a) C0 hA  h hP hD hS (lv_sub hl [0, 1, 2] rfl)
      · rw [if_neg hc] at h
        exact t_M_type_22 (a := a) C0 hA  h hP hD hS (lv_sub hl [0, 1, 2] rfl)
  · rw [if_pos hc] at h
    refine lv_iconst (v := 1) hx hb d_M_type_9 (by decide) ?_
    refine lv_goto (tgt := 27) hx hb d_M_type_10 (by decide) ?_
    exact t_M_type_27 (a := a) C0 hA  h hP hD hS (lv_sub hl [0, 1, 2] rfl)
set_option maxHeartbeats 4000000 in
set_option maxRecDepth 100000 in
theorem c_M_type (l : Launch) (D : va_G) (cI cZ : ClassId) (a : Nat → Nat) (q : Nat) (σ : StM) (x1 : Int32) (x2 : Int32) {res : Int32 × StM} (h : f_M_type σ x1 x2 = some res) : RwM l y_M_type b_M_type 3 (some .int) 1 21 D [(cI, .int), (cZ, .boolean)] [.ref (a 20), .int x1, .int x2] (fun q (σ : StM) => (wM cI cZ a q σ)) q σ res :=
  rw_of (by decide) (Nat.le_of_ble_eq_true rfl) (fun p e s m args below meth c ls A C0 hA hP hD hS hl => t_M_type_0 (a := a) C0 hA h hP hD hS (lv_sub hl [0, 1, 2] rfl))
