def f_M_classed_27 (σ : StM) (x1 x2 t1 : Int32) : Option (Int32 × StM) :=
  (f_M_good σ t1).bind fun r1 =>
  if r1.1 = 0 then
    some (0, r1.2)
  else
    if x2 = 0 then
      if x1 < 0 ∨ 30 ≤ x1.toNatClampNeg then none else
      if ((M_face r1.2) x1.toNatClampNeg) = 0 then
        some (0, r1.2)
      else
        some (1, r1.2)
    else if x2 = 1 then
      if x1 < 0 ∨ 30 ≤ x1.toNatClampNeg then none else
      if ((M_generic r1.2) x1.toNatClampNeg) = 0 then
        some (0, r1.2)
      else
        some (1, r1.2)
    else if x2 = 2 then
      if x1 < 0 ∨ 30 ≤ x1.toNatClampNeg then none else
      some (((M_directs r1.2) x1.toNatClampNeg), r1.2)
    else if x1 < 0 ∨ 30 ≤ x1.toNatClampNeg then none else
    (f_M_count ((M_over r1.2) x1.toNatClampNeg)).bind fun r2 =>
    some (r2, r1.2)
def f_M_classed_22 (σ : StM) (x1 x2 : Int32) : Option (Int32 × StM) :=
  f_M_classed_27 σ x1 x2 2
def f_M_classed (σ : StM) (x1 x2 : Int32) : Option (Int32 × StM) :=
  if (f_M_isClass σ x1) = 0 then
    f_M_classed_27 σ x1 x2 1
  else
    if x2 < 0 then
      f_M_classed_22 σ x1 x2
    else
      if x2 ≤ 3 then
        f_M_classed_27 σ x1 x2 0
      else
        f_M_classed_22 σ x1 x2
set_option maxHeartbeats 4000000 in
set_option maxRecDepth 100000 in
theorem t_M_classed_27 {p : Program} {l : Launch} {e : Env} {s : State} {m : MethodId} {args : Array Value} {below : List Frame} {meth : Method} {c : Code} {D : va_G} {cI cZ : ClassId} {a : Nat → Nat} {A : Nat → Prop} (C0 : Am p s m args meth c b_M_classed (some .int) 3 R_M D [(cI, .int), (cZ, .boolean)]) (hA : ∀ q, s.heap.size ≤ q → A q) {res : Int32 × StM}   {q : Nat} {σ : StM} {x1 x2 t1 : Int32} (h : f_M_classed_27 σ x1 x2 t1 = some res) {H : Heap} {locs : List Loc} (hP : va_P D vwCl (wM cI cZ a q σ) H) (hD : va_D A (wM cI cZ a q σ)) (hS : va_S A s.heap H locs) {ls : Array Slot} (hl : lv_has ls 3 [(0, .ref (a 20)), (1, .int x1), (2, .int x2)]) : W p l e (rmK 1 22 0 0) s m args below meth c H locs 0 0 (RwQ below args s D A (fun q (σ : StM) => (wM cI cZ a q σ)) res 0 0) (F0 m 27 ls [.int t1, .ref (a 20)]) := by
  obtain ⟨hx, hb, hr, hml, hown, hts, hlk, hK⟩ := id C0
  unfold f_M_classed_27 at h
  replace h := bd h
  obtain ⟨r1, g1, h⟩ := h
  refine rw_V (n := 1) (ci := 4) (As := [.int t1]) (rest := []) (Wn := fun _ => (wM cI cZ a q r1.2)) C0 hA (c_M_good l D cI cZ a q σ t1 g1) wd_388 ⟨wd_389, wd_390, wd_391, wd_352⟩ (by decide +kernel) ⟨Nat.le_of_ble_eq_true rfl, Nat.le_of_ble_eq_true rfl⟩ hP hD hS [0, 1, 2, 3, 4, 5, 6, 7, 8, 9, 10, 11, 12, 13, 14, 15, 16, 17, 18, 19, 20, 21, 22, 23] [] [0, 1, 2, 3, 4, 5, 6, 7, 8, 9, 10, 11, 12, 13, 14, 15, 16, 17, 18, 19, 20, 21, 22, 23] jn_M__C (by decide) jn_M__R (by decide) (by decide) (by decide) jn_M__W rfl rfl rfl hl rfl rfl (Nat.le_of_ble_eq_true rfl) ⟨Nat.zero_le _, Nat.zero_le _⟩ d_M_classed_27 (fun H locs _ hP hD hS => ?_)
  try dsimp only at h
  refine lv_if_ne (tgt := 35) hx hb d_M_classed_30 (by decide) (fun hc => ?_) (fun hc => ?_)
  · rw [if_neg hc] at h
    refine lv_iload_n hx hb d_M_classed_35 rfl (lv_at hl 2 rfl) ?_
    by_cases e36_0 : x2 = 0
    · rw [if_pos e36_0] at h
      refine lv_tableIn (off := 28) (tgt := 64) hx hb d_M_classed_36 (by rw [e36_0]; decide) (by rw [e36_0]; decide) (by rw [e36_0]; rfl) (by decide) ?_
      refine lv_aload_n hx hb d_M_classed_64 rfl (lv_at hl 0 rfl) ?_
      refine va_get (ci := 4) (v := .ref (a 21)) (C := R_M) (T := F_M) (N := 35) hx hb hts i_M hown hK.1 hP 0 rfl rfl 4 (by decide) (hts _ wd_392) (fun _ h9 => h9) rfl d_M_classed_65 ?_
      refine lv_iload_n hx hb d_M_classed_68 rfl (lv_at hl 1 rfl) ?_
      replace h := gd h
      obtain ⟨hi, h⟩ := h
      refine va_zald hx hb hK.1 hP 1 1 rfl rfl hi d_M_classed_69 ?_
      refine lv_if_eq (tgt := 77) hx hb d_M_classed_70 (by decide) (fun hc => ?_) (fun hc => ?_)
      · rw [if_pos hc] at h
        refine lv_iconst (v := 0) hx hb d_M_classed_77 (by decide) ?_
        exact rw_ret C0 hP hD hS (Option.some.inj h) d_M_classed_78
      · rw [if_neg hc] at h
        refine lv_iconst (v := 1) hx hb d_M_classed_73 (by decide) ?_
        refine lv_goto (tgt := 78) hx hb d_M_classed_74 (by decide) ?_
        exact rw_ret C0 hP hD hS (Option.some.inj h) d_M_classed_78
    · rw [if_neg e36_0] at h
      by_cases e36_1 : x2 = 1
      · rw [if_pos e36_1] at h
        refine lv_tableIn (off := 43) (tgt := 79) hx hb d_M_classed_36 (by rw [e36_1]; decide) (by rw [e36_1]; decide) (by rw [e36_1]; rfl) (by decide) ?_
        refine lv_aload_n hx hb d_M_classed_79 rfl (lv_at hl 0 rfl) ?_
        refine va_get (ci := 4) (v := .ref (a 22)) (C := R_M) (T := F_M) (N := 35) hx hb hts i_M hown hK.1 hP 0 rfl rfl 5 (by decide) (hts _ wd_393) (fun _ h9 => h9) rfl d_M_classed_80 ?_
        refine lv_iload_n hx hb d_M_classed_83 rfl (lv_at hl 1 rfl) ?_
        replace h := gd h
        obtain ⟨hi, h⟩ := h
        refine va_zald hx hb hK.1 hP 2 1 rfl rfl hi d_M_classed_84 ?_
        refine lv_if_eq (tgt := 92) hx hb d_M_classed_85 (by decide) (fun hc => ?_) (fun hc => ?_)
        · rw [if_pos hc] at h
          refine lv_iconst (v := 0) hx hb d_M_classed_92 (by decide) ?_
          exact rw_ret C0 hP hD hS (Option.some.inj h) d_M_classed_93
        · rw [if_neg hc] at h
          refine lv_iconst (v := 1) hx hb d_M_classed_88 (by decide) ?_
          refine lv_goto (tgt := 93) hx hb d_M_classed_89 (by decide) ?_
          exact rw_ret C0 hP hD hS (Option.some.inj h) d_M_classed_93
      · rw [if_neg e36_1] at h
        by_cases e36_2 : x2 = 2
        · rw [if_pos e36_2] at h
          refine lv_tableIn (off := 58) (tgt := 94) hx hb d_M_classed_36 (by rw [e36_2]; decide) (by rw [e36_2]; decide) (by rw [e36_2]; rfl) (by decide) ?_
          refine lv_aload_n hx hb d_M_classed_94 rfl (lv_at hl 0 rfl) ?_
          refine va_get (ci := 4) (v := .ref (a 23)) (C := R_M) (T := F_M) (N := 35) hx hb hts i_M hown hK.1 hP 0 rfl rfl 6 (by decide) (hts _ wd_339) (fun _ h9 => h9) rfl d_M_classed_95 ?_
          refine lv_iload_n hx hb d_M_classed_98 rfl (lv_at hl 1 rfl) ?_
          replace h := gd h
          obtain ⟨hi, h⟩ := h
          refine va_iald hx hb hK.1 hP 3 0 rfl rfl hi d_M_classed_99 ?_
          exact rw_ret C0 hP hD hS (Option.some.inj h) d_M_classed_100
        · rw [if_neg e36_2] at h
          refine lv_tableOut (tgt := 101) hx hb d_M_classed_36 (by have n0 := lv_neT (a := 0) e36_0 (by decide); have n1 := lv_neT (a := 1) e36_1 (by decide); have n2 := lv_neT (a := 2) e36_2 (by decide); omega) (by decide) ?_
          refine lv_aload_n hx hb d_M_classed_101 rfl (lv_at hl 0 rfl) ?_
          refine va_get (ci := 4) (v := .ref (a 26)) (C := R_M) (T := F_M) (N := 35) hx hb hts i_M hown hK.1 hP 0 rfl rfl 9 (by decide) (hts _ wd_341) (fun _ h9 => h9) rfl d_M_classed_102 ?_
          refine lv_iload_n hx hb d_M_classed_105 rfl (lv_at hl 1 rfl) ?_
          replace h := gd h
          obtain ⟨hi, h⟩ := h
          refine va_iald hx hb hK.1 hP 6 0 rfl rfl hi d_M_classed_106 ?_
          replace h := bd h
          obtain ⟨r2, g2, h⟩ := h
          refine ro_S (n := 1) (As := [.int ((M_over r1.2) x1.toNatClampNeg)]) (rest := []) C0 (c_M_count l D cI cZ a ((M_over r1.2) x1.toNatClampNeg) g2) wd_415 ⟨wd_416, wd_417, wd_352⟩ (by decide +kernel) ⟨Nat.le_of_ble_eq_true rfl, Nat.le_of_ble_eq_true rfl⟩ pnil hl rfl rfl (Nat.le_of_ble_eq_true rfl) ⟨Nat.zero_le _, Nat.zero_le _⟩ d_M_classed_107 ?_
          try dsimp only at h
          exact rw_ret C0 hP hD hS (Option.some.inj h) d_M_classed_110
  · rw [if_pos hc] at h
    refine lv_iconst (v := 0) hx hb d_M_classed_33 (by decide) ?_
    exact rw_ret C0 hP hD hS (Option.some.inj h) d_M_classed_34
set_option maxHeartbeats 4000000 in
set_option maxRecDepth 100000 in
theorem t_M_classed_22 {p : Program} {l : Launch} {e : Env} {s : State} {m : MethodId} {args : Array Value} {below : List Frame} {meth : Method} {c : Code} {D : va_G} {cI cZ : ClassId} {a : Nat → Nat} {A : Nat → Prop} (C0 : Am p s m args meth c b_M_classed (some .int) 3 R_M D [(cI, .int), (cZ, .boolean)]) (hA : ∀ q, s.heap.size ≤ q → A q) {res : Int32 × StM}   {q : Nat} {σ : StM} {x1 x2 : Int32} (h : f_M_classed_22 σ x1 x2 = some res) {H : Heap} {locs : List Loc} (hP : va_P D vwCl (wM cI cZ a q σ) H) (hD : va_D A (wM cI cZ a q σ)) (hS : va_S A s.heap H locs) {ls : Array Slot} (hl : lv_has ls 3 [(0, .ref (a 20)), (1, .int x1), (2, .int x2)]) : W p l e (rmK 1 22 0 0) s m args below meth c H locs 0 0 (RwQ below args s D A (fun q (σ : StM) => (wM cI cZ a q σ)) res 0 0) (F0 m 22 ls [.ref (a 20)]) := by
  obtain ⟨hx, hb, hr, hml, hown, hts, hlk, hK⟩ := id C0
  unfold f_M_classed_22 at h
  refine lv_iconst (v := 2) hx hb d_M_classed_22 (by decide) ?_
  refine lv_goto (tgt := 27) hx hb d_M_classed_23 (by decide) ?_
  exact t_M_classed_27 (a := a) C0 hA  h hP hD hS (lv_sub hl [0, 1, 2] rfl)
set_option maxHeartbeats 4000000 in
set_option maxRecDepth 100000 in
theorem t_M_classed_0 {p : Program} {l : Launch} {e : Env} {s : State} {m : MethodId} {args : Array Value} {below : List Frame} {meth : Method} {c : Code} {D : va_G} {cI cZ : ClassId} {a : Nat → Nat} {A : Nat → Prop} (C0 : Am p s m args meth c b_M_classed (some .int) 3 R_M D [(cI, .int), (cZ, .boolean)]) (hA : ∀ q, s.heap.size ≤ q → A q) {res : Int32 × StM}   {q : Nat} {σ : StM} {x1 x2 : Int32} (h : f_M_classed σ x1 x2 = some res) {H : Heap} {locs : List Loc} (hP : va_P D vwCl (wM cI cZ a q σ) H) (hD : va_D A (wM cI cZ a q σ)) (hS : va_S A s.heap H locs) {ls : Array Slot} (hl : lv_has ls 3 [(0, .ref (a 20)), (1, .int x1), (2, .int x2)]) : W p l e (rmK 1 22 0 0) s m args below meth c H locs 0 0 (RwQ below args s D A (fun q (σ : StM) => (wM cI cZ a q σ)) res 0 0) (F0 m 0 ls []) := by
  obtain ⟨hx, hb, hr, hml, hown, hts, hlk, hK⟩ := id C0
  unfold f_M_classed at h
  refine lv_aload_n hx hb d_M_classed_0 rfl (lv_at hl 0 rfl) ?_
  refine lv_aload_n hx hb d_M_classed_1 rfl (lv_at hl 0 rfl) ?_
  refine lv_iload_n hx hb d_M_classed_2 rfl (lv_at hl 1 rfl) ?_
  refine ro_V (n := 1) (ci := 4) (As := [.int x1]) (rest := [.ref (a 20)]) C0 (c_M_isClass l D cI cZ a q σ x1 rfl) wd_403 ⟨wd_404, wd_405, wd_406, wd_352⟩ (by decide +kernel) ⟨Nat.le_of_ble_eq_true rfl, Nat.le_of_ble_eq_true rfl⟩ hP rfl rfl rfl hl rfl rfl (Nat.le_of_ble_eq_true rfl) ⟨Nat.zero_le _, Nat.zero_le _⟩ d_M_classed_3 ?_
  refine lv_if_ne (tgt := 13) hx hb d_M_classed_6 (by decide) (fun hc => ?_) (fun hc => ?_)
  · rw [if_neg hc] at h
    refine lv_iload_n hx hb d_M_classed_13 rfl (lv_at hl 2 rfl) ?_
    refine lv_if_lt (tgt := 22) hx hb d_M_classed_14 (by decide) (fun hc => ?_) (fun hc => ?_)
    · rw [if_pos hc] at h
      exact t_M_classed_22 (a := a) C0 hA  h hP hD hS (lv_sub hl [0, 1, 2] rfl)
    · rw [if_neg hc] at h
      refine lv_iload_n hx hb d_M_classed_17 rfl (lv_at hl 2 rfl) ?_
      refine lv_iconst (v := 3) hx hb d_M_classed_18 (by decide) ?_
      refine lv_icmp_le (tgt := 26) hx hb d_M_classed_19 (by decide) (fun hc => ?_) (fun hc => ?_)
      · rw [if_pos hc] at h
        refine lv_iconst (v := 0) hx hb d_M_classed_26 (by decide) ?_
        exact t_M_classed_27 (a := a) C0 hA  h hP hD hS (lv_sub hl [0, 1, 2] rfl)
      · rw [if_neg hc] at h
        exact t_M_classed_22 (a := a) C0 hA  h hP hD hS (lv_sub hl [0, 1, 2] rfl)
  · rw [if_pos hc] at h
    refine lv_iconst (v := 1) hx hb d_M_classed_9 (by decide) ?_
    refine lv_goto (tgt := 27) hx hb d_M_classed_10 (by decide) ?_
    exact t_M_classed_27 (a := a) C0 hA  h hP hD hS (lv_sub hl [0, 1, 2] rfl)
set_option maxHeartbeats 4000000 in
set_option maxRecDepth 100000 in
theorem c_M_classed (l : Launch) (D : va_G) (cI cZ : ClassId) (a : Nat → Nat) (q : Nat) (σ : StM) (x1 : Int32) (x2 : Int32) {res : Int32 × StM} (h : f_M_classed σ x1 x2 = some res) : RwM l y_M_classed b_M_classed 3 (some .int) 1 22 D [(cI, .int), (cZ, .boolean)] [.ref (a 20), .int x1, .int x2] (fun q (σ : StM) => (wM cI cZ a q σ)) q σ res :=
  rw_of (by decide) (Nat.le_of_ble_eq_true rfl) (fun p e s m args below meth c ls A C0 hA hP hD hS hl => t_M_classed_0 (a := a) C0 hA h hP hD hS (lv_sub hl [0, 1, 2] rfl))
