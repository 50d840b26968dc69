def f_M_direct_41 (σ : StM) (x1 x2 x3 t1 : Int32) : Option (Int32 × StM) :=
  (f_M_good σ t1).bind fun r1 =>
  if r1.1 = 0 then
    some (0, r1.2)
  else
    if x3 = 0 then
      if ((30 * x1) + x2) < 0 ∨ 900 ≤ ((30 * x1) + x2).toNatClampNeg then none else
      some (((M_directTo r1.2) ((30 * x1) + x2).toNatClampNeg), r1.2)
    else
      if ((30 * x1) + x2) < 0 ∨ 900 ≤ ((30 * x1) + x2).toNatClampNeg then none else
      some (((M_directArg r1.2) ((30 * x1) + x2).toNatClampNeg), r1.2)
def f_M_direct_23 (σ : StM) (x1 x2 x3 : Int32) : Option (Int32 × StM) :=
  f_M_direct_41 σ x1 x2 x3 1
def f_M_direct_36 (σ : StM) (x1 x2 x3 : Int32) : Option (Int32 × StM) :=
  f_M_direct_41 σ x1 x2 x3 2
def f_M_direct (σ : StM) (x1 x2 x3 : Int32) : Option (Int32 × StM) :=
  if (f_M_isClass σ x1) = 0 then
    f_M_direct_23 σ x1 x2 x3
  else
    if x2 < 0 then
      f_M_direct_23 σ x1 x2 x3
    else
      if x1 < 0 ∨ 30 ≤ x1.toNatClampNeg then none else
      if x2 < ((M_directs σ) x1.toNatClampNeg) then
        if x3 < 0 then
          f_M_direct_36 σ x1 x2 x3
        else
          if x3 ≤ 1 then
            f_M_direct_41 σ x1 x2 x3 0
          else
            f_M_direct_36 σ x1 x2 x3
      else
        f_M_direct_23 σ x1 x2 x3
set_option maxHeartbeats 4000000 in
set_option maxRecDepth 100000 in
theorem t_M_direct_41 {p : Program} {l : Launch} {e : Env} {s : State} {m : MethodId} {args : Array Value} {below : List Frame} {meth : Method} {c : Code} {D : va_G} {cI cZ : ClassId} {a : Nat → Nat} {A : Nat → Prop} (C0 : Am p s m args meth c b_M_direct (some .int) 4 R_M D [(cI, .int), (cZ, .boolean)]) (hA : ∀ q, s.heap.size ≤ q → A q) {res : Int32 × StM}   {q : Nat} {σ : StM} {x1 x2 x3 t1 : Int32} (h : f_M_direct_41 σ x1 x2 x3 t1 = some res) {H : Heap} {locs : List Loc} (hP : va_P D vwCl (wM cI cZ a q σ) H) (hD : va_D A (wM cI cZ a q σ)) (hS : va_S A s.heap H locs) {ls : Array Slot} (hl : lv_has ls 4 [(0, .ref (a 20)), (1, .int x1), (2, .int x2), (3, .int x3)]) : W p l e (rmK 1 21 0 0) s m args below meth c H locs 0 0 (RwQ below args s D A (fun q (σ : StM) => (wM cI cZ a q σ)) res 0 0) (F0 m 41 ls [.int t1, .ref (a 20)]) := by
  obtain ⟨hx, hb, hr, hml, hown, hts, hlk, hK⟩ := id C0
  unfold f_M_direct_41 at h
  replace h := bd h
  obtain ⟨r1, g1, h⟩ := h
  refine rw_V (n := 1) (ci := 4) (As := [.int t1]) (rest := []) (Wn := fun _ => (wM cI cZ a q r1.2)) C0 hA (c_M_good l D cI cZ a q σ t1 g1) wd_388 ⟨wd_389, wd_390, wd_391, wd_352⟩ (by decide +kernel) ⟨Nat.le_of_ble_eq_true rfl, Nat.le_of_ble_eq_true rfl⟩ hP hD hS [0, 1, 2, 3, 4, 5, 6, 7, 8, 9, 10, 11, 12, 13, 14, 15, 16, 17, 18, 19, 20, 21, 22, 23] [] [0, 1, 2, 3, 4, 5, 6, 7, 8, 9, 10, 11, 12, 13, 14, 15, 16, 17, 18, 19, 20, 21, 22, 23] jn_M__C (by decide) jn_M__R (by decide) (by decide) (by decide) jn_M__W rfl rfl rfl hl rfl rfl (Nat.le_of_ble_eq_true rfl) ⟨Nat.zero_le _, Nat.zero_le _⟩ d_M_direct_41 (fun H locs _ hP hD hS => ?_)
  try dsimp only at h
  refine lv_if_ne (tgt := 49) hx hb d_M_direct_44 (by decide) (fun hc => ?_) (fun hc => ?_)
  · rw [if_neg hc] at h
    refine lv_iload_n hx hb d_M_direct_49 rfl (lv_at hl 3 rfl) ?_
    refine lv_if_ne (tgt := 67) hx hb d_M_direct_50 (by decide) (fun hc => ?_) (fun hc => ?_)
    · rw [if_neg hc] at h
      refine lv_aload_n hx hb d_M_direct_67 rfl (lv_at hl 0 rfl) ?_
      refine va_get (ci := 4) (v := .ref (a 25)) (C := R_M) (T := F_M) (N := 35) hx hb hts i_M hown hK.1 hP 0 rfl rfl 8 (by decide) (hts _ wd_340) (fun _ h9 => h9) rfl d_M_direct_68 ?_
      refine lv_bipush (v := 30) hx hb d_M_direct_71 (by decide) ?_
      refine lv_iload_n hx hb d_M_direct_73 rfl (lv_at hl 1 rfl) ?_
      refine lv_imul hx hb d_M_direct_74 ?_
      refine lv_iload_n hx hb d_M_direct_75 rfl (lv_at hl 2 rfl) ?_
      refine lv_iadd hx hb d_M_direct_76 ?_
      replace h := gd h
      obtain ⟨hi, h⟩ := h
      refine va_iald hx hb hK.1 hP 5 0 rfl rfl hi d_M_direct_77 ?_
      exact rw_ret C0 hP hD hS (Option.some.inj h) d_M_direct_78
    · rw [if_pos hc] at h
      refine lv_aload_n hx hb d_M_direct_53 rfl (lv_at hl 0 rfl) ?_
      refine va_get (ci := 4) (v := .ref (a 24)) (C := R_M) (T := F_M) (N := 35) hx hb hts i_M hown hK.1 hP 0 rfl rfl 7 (by decide) (hts _ wd_338) (fun _ h9 => h9) rfl d_M_direct_54 ?_
      refine lv_bipush (v := 30) hx hb d_M_direct_57 (by decide) ?_
      refine lv_iload_n hx hb d_M_direct_59 rfl (lv_at hl 1 rfl) ?_
      refine lv_imul hx hb d_M_direct_60 ?_
      refine lv_iload_n hx hb d_M_direct_61 rfl (lv_at hl 2 rfl) ?_
      refine lv_iadd hx hb d_M_direct_62 ?_
      replace h := gd h
      obtain ⟨hi, h⟩ := h
      refine va_iald hx hb hK.1 hP 4 0 rfl rfl hi d_M_direct_63 ?_
      refine lv_goto (tgt := 78) hx hb d_M_direct_64 (by decide) ?_
      exact rw_ret C0 hP hD hS (Option.some.inj h) d_M_direct_78
  · rw [if_pos hc] at h
    refine lv_iconst (v := 0) hx hb d_M_direct_47 (by decide) ?_
    exact rw_ret C0 hP hD hS (Option.some.inj h) d_M_direct_48
set_option maxHeartbeats 4000000 in
set_option maxRecDepth 100000 in
theorem t_M_direct_23 {p : Program} {l : Launch} {e : Env} {s : State} {m : MethodId} {args : Array Value} {below : List Frame} {meth : Method} {c : Code} {D : va_G} {cI cZ : ClassId} {a : Nat → Nat} {A : Nat → Prop} (C0 : Am p s m args meth c b_M_direct (some .int) 4 R_M D [(cI, .int), (cZ, .boolean)]) (hA : ∀ q, s.heap.size ≤ q → A q) {res : Int32 × StM}   {q : Nat} {σ : StM} {x1 x2 x3 : Int32} (h : f_M_direct_23 σ x1 x2 x3 = some res) {H : Heap} {locs : List Loc} (hP : va_P D vwCl (wM cI cZ a q σ) H) (hD : va_D A (wM cI cZ a q σ)) (hS : va_S A s.heap H locs) {ls : Array Slot} (hl : lv_has ls 4 [(0, .ref (a 20)), (1, .int x1), (2, .int x2), (3, .int x3)]) : W p l e (rmK 1 21 0 0) s m args below meth c H locs 0 0 (RwQ below args s D A (fun q (σ : StM) => (wM cI cZ a q σ)) res 0 0) (F0 m 23 ls [.ref (a 20)]) := by
  obtain ⟨hx, hb, hr, hml, hown, hts, hlk, hK⟩ := id C0
  unfold f_M_direct_23 at h
  refine lv_iconst (v := 1) hx hb d_M_direct_23 (by decide) ?_
  refine lv_goto (tgt := 41) hx hb d_M_direct_24 (by decide) ?_
  exact t_M_direct_41 (a := a) C0 hA  h hP hD hS (lv_sub hl [0, 1, 2, 3] rfl)
set_option maxHeartbeats 4000000 in
set_option maxRecDepth 100000 in
theorem t_M_direct_36 {p : Program} {l : Launch} {e : Env} {s : State} {m : MethodId} {args : Array Value} {below : List Frame} {meth : Method} {c : Code} {D : va_G} {cI cZ : ClassId} {a : Nat → Nat} {A : Nat → Prop} (C0 : Am p s m args meth c b_M_direct (some .int) 4 R_M D [(cI, .int), (cZ, .boolean)]) (hA : ∀ q, s.heap.size ≤ q → A q) {res : Int32 × StM}   {q : Nat} {σ : StM} {x1 x2 x3 : Int32} (h : f_M_direct_36 σ x1 x2 x3 = some res) {H : Heap} {locs : List Loc} (hP : va_P D vwCl (wM cI cZ a q σ) H) (hD : va_D A (wM cI cZ a q σ)) (hS : va_S A s.heap H locs) {ls : Array Slot} (hl : lv_has ls 4 [(0, .ref (a 20)), (1, .int x1), (2, .int x2), (3, .int x3)]) : W p l e (rmK 1 21 0 0) s m args below meth c H locs 0 0 (RwQ below args s D A (fun q (σ : StM) => (wM cI cZ a q σ)) res 0 0) (F0 m 36 ls [.ref (a 20)]) := by
  obtain ⟨hx, hb, hr, hml, hown, hts, hlk, hK⟩ := id C0
  unfold f_M_direct_36 at h
  refine lv_iconst (v := 2) hx hb d_M_direct_36 (by decide) ?_
  refine lv_goto (tgt := 41) hx hb d_M_direct_37 (by decide) ?_
  exact t_M_direct_41 (a := a) C0 hA  h hP hD hS (lv_sub hl [0, 1, 2, 3] rfl)
set_option maxHeartbeats 4000000 in
set_option maxRecDepth 100000 in
theorem t_M_direct_0 {p : Program} {l : Launch} {e : Env} {s : State} {m : MethodId} {args : Array Value} {below : List Frame} {meth : Method} {c : Code} {D : va_G} {cI cZ : ClassId} {a : Nat → Nat} {A : Nat → Prop} (C0 : Am p s m args meth c b_M_direct (some .int) 4 R_M D [(cI, .int), (cZ, .boolean)]) (hA : ∀ q, s.heap.size ≤ q → A q) {res : Int32 × StM}   {q : Nat} {σ : StM} {x1 x2 x3 : Int32} (h : f_M_direct σ x1 x2 x3 = some res) {H : Heap} {locs : List Loc} (hP : va_P D vwCl (wM cI cZ a q σ) H) (hD : va_D A (wM cI cZ a q σ)) (hS : va_S A s.heap H locs) {ls : Array Slot} (hl : lv_has ls 4 [(0, .ref (a 20)), (1, .int x1), (2, .int x2), (3, .int x3)]) : W p l e (rmK 1 21 0 0) s m args below meth c H locs 0 0 (RwQ below args s D A (fun q (σ : StM) => (wM cI cZ a q σ)) res 0 0) (F0 m 0 ls []) := by
  obtain ⟨hx, hb, hr, hml, hown, hts, hlk, hK⟩ := id C0
  unfold f_M_direct at h
  refine lv_aload_n hx hb d_M_direct_0 rfl (lv_at hl 0 rfl) ?_
  refine lv_aload_n hx hb d_M_direct_1 rfl (lv_at hl 0 rfl) ?_
  refine lv_iload_n hx hb d_M_direct_2 rfl (lv_at hl 1 rfl) ?_
  refine ro_V (n := 1) (ci := 4) (As := [.int x1]) (rest := [.ref (a 20)]) C0 (c_M_isClass l D cI cZ a q σ x1 rfl) wd_403 ⟨wd_404, wd_405, wd_406, wd_352⟩ (by decide +kernel) ⟨Nat.le_of_ble_eq_true rfl, Nat.le_of_ble_eq_true rfl⟩ hP rfl rfl rfl hl rfl rfl (Nat.le_of_ble_eq_true rfl) ⟨Nat.zero_le _, Nat.zero_le _⟩ d_M_direct_3 ?_
  refine lv_if_eq (tgt := 23) hx hb d_M_direct_6 (by decide) (fun hc => ?_) (fun hc => ?_)
  · rw [if_pos hc] at h
    exact t_M_direct_23 (a := a) C0 hA  h hP hD hS (lv_sub hl [0, 1, 2, 3] rfl)
  · rw [if_neg hc] at h
    refine lv_iload_n hx hb d_M_direct_9 rfl (lv_at hl 2 rfl) ?_
    refine lv_if_lt (tgt := 23) hx hb d_M_direct_10 (by decide) (fun hc => ?_) (fun hc => ?_)
    · rw [if_pos hc] at h
      exact t_M_direct_23 (a := a) C0 hA  h hP hD hS (lv_sub hl [0, 1, 2, 3] rfl)
    · rw [if_neg hc] at h
      refine lv_iload_n hx hb d_M_direct_13 rfl (lv_at hl 2 rfl) ?_
      refine lv_aload_n hx hb d_M_direct_14 rfl (lv_at hl 0 rfl) ?_
      refine va_get (ci := 4) (v := .ref (a 23)) (C := R_M) (T := F_M) (N := 35) hx hb hts i_M hown hK.1 hP 0 rfl rfl 6 (by decide) (hts _ wd_339) (fun _ h9 => h9) rfl d_M_direct_15 ?_
      refine lv_iload_n hx hb d_M_direct_18 rfl (lv_at hl 1 rfl) ?_
      replace h := gd h
      obtain ⟨hi, h⟩ := h
      refine va_iald hx hb hK.1 hP 3 0 rfl rfl hi d_M_direct_19 ?_
      refine lv_icmp_lt (tgt := 27) hx hb d_M_direct_20 (by decide) (fun hc => ?_) (fun hc => ?_)
      · rw [if_pos hc] at h
        refine lv_iload_n hx hb d_M_direct_27 rfl (lv_at hl 3 rfl) ?_
        refine lv_if_lt (tgt := 36) hx hb d_M_direct_28 (by decide) (fun hc => ?_) (fun hc => ?_)
        · rw [if_pos hc] at h
          exact t_M_direct_36 (a := a) C0 hA  h hP hD hS (lv_sub hl [0, 1, 2, 3] rfl)
        · rw [if_neg hc] at h
          refine lv_iload_n hx hb d_M_direct_31 rfl (lv_at hl 3 rfl) ?_
          refine lv_iconst (v := 1) hx hb d_M_direct_32 (by decide) ?_
          refine lv_icmp_le (tgt := 40) hx hb d_M_direct_33 (by decide) (fun hc => ?_) (fun hc => ?_)
          · rw [if_pos hc] at h
            refine lv_iconst (v := 0) hx hb d_M_direct_40 (by decide) ?_
            exact t_M_direct_41 (a := a) C0 hA  h hP hD hS (lv_sub hl [0, 1, 2, 3] rfl)
          · rw [if_neg hc] at h
            exact t_M_direct_36 (a := a) C0 hA  h hP hD hS (lv_sub hl [0, 1, 2, 3] rfl)
      · rw [if_neg hc] at h
        exact t_M_direct_23 (a := a) C0 hA  h hP hD hS (lv_sub hl [0, 1, 2, 3] rfl)
set_option maxHeartbeats 4000000 in
set_option maxRecDepth 100000 in
theorem c_M_direct (l : Launch) (D : va_G) (cI cZ : ClassId) (a : Nat → Nat) (q : Nat) (σ : StM) (x1 : Int32) (x2 : Int32) (x3 : Int32) {res : Int32 × StM} (h : f_M_direct σ x1 x2 x3 = some res) : RwM l y_M_direct b_M_direct 4 (some .int) 1 21 D [(cI, .int), (cZ, .boolean)] [.ref (a 20), .int x1, .int x2, .int x3] (fun q (σ : StM) => (wM cI cZ a q σ)) q σ res :=
  rw_of (by decide) (Nat.le_of_ble_eq_true rfl) (fun p e s m args below meth c ls A C0 hA hP hD hS hl => t_M_direct_0 (a := a) C0 hA h hP hD hS (lv_sub hl [0, 1, 2, 3] rfl))
