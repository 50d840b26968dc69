def f_M_named_112 (σ : StM) (t1 t3 t4 t5 : Int32) : Option (Int32 × StM) :=
  (f_M_addNamed σ t3 t4 t5).bind fun r2 =>
  (f_M_end r2.2 t1 r2.1 3).bind fun r3 =>
  some (r3.1, r3.2)
def f_M_named_78 (σ : StM) (x1 x2 x3 t0 : Int32) : Option (Int32 × StM) :=
  (f_M_good σ t0).bind fun r1 =>
  if r1.1 = 0 then
    some (0, r1.2)
  else
    if x2 = 0 then
      f_M_named_112 r1.2 (M_types r1.2) x1 x2 (-1)
    else
      f_M_named_112 r1.2 (M_types r1.2) x1 x2 x3
def f_M_named_73 (σ : StM) (x1 x2 x3 : Int32) : Option (Int32 × StM) :=
  f_M_named_78 σ x1 x2 x3 2
def f_M_named_77 (σ : StM) (x1 x2 x3 : Int32) : Option (Int32 × StM) :=
  f_M_named_78 σ x1 x2 x3 0
def f_M_named_60 (σ : StM) (x1 x2 x3 t0 t1 : Int32) : Option (Int32 × StM) :=
  if t0 = t1 then
    f_M_named_73 σ x1 x2 x3
  else
    if x2 ≤ 0 then
      f_M_named_77 σ x1 x2 x3
    else
      if 8 ≤ x3 then
        f_M_named_77 σ x1 x2 x3
      else
        f_M_named_73 σ x1 x2 x3
def f_M_named_25 (σ : StM) (x1 x2 x3 t0 : Int32) : Option (Int32 × StM) :=
  if t0 = 0 then
    f_M_named_78 σ x1 x2 x3 1
  else
    if x2 < 0 then
      f_M_named_73 σ x1 x2 x3
    else
      if 2 < x2 then
        f_M_named_73 σ x1 x2 x3
      else
        if x1 < 0 ∨ 30 ≤ x1.toNatClampNeg then none else
        if x2 = 0 then
          f_M_named_60 σ x1 x2 x3 ((M_generic σ) x1.toNatClampNeg) 1
        else
          f_M_named_60 σ x1 x2 x3 ((M_generic σ) x1.toNatClampNeg) 0
def f_M_named_24 (σ : StM) (x1 x2 x3 : Int32) : Option (Int32 × StM) :=
  f_M_named_25 σ x1 x2 x3 0
def f_M_named_20 (σ : StM) (x1 x2 x3 : Int32) : Option (Int32 × StM) :=
  f_M_named_25 σ x1 x2 x3 1
def f_M_named (σ : StM) (x1 x2 x3 : Int32) : Option (Int32 × StM) :=
  if (f_M_isClass σ x1) = 0 then
    f_M_named_24 σ x1 x2 x3
  else
    if x2 = 0 then
      f_M_named_20 σ x1 x2 x3
    else
      if (f_M_isType σ x3) = 0 then
        f_M_named_24 σ x1 x2 x3
      else
        f_M_named_20 σ x1 x2 x3
set_option maxHeartbeats 4000000 in
set_option maxRecDepth 100000 in
theorem t_M_named_112 {p : Program} {l : Launch} {e : Env} {s : State} {m : MethodId} {args : Array Value} {below : List Frame} {meth : Method} {c : Code} {D : va_G} {cI cZ : ClassId} {a : Nat → Nat} {A : Nat → Prop} (C0 : Am p s m args meth c b_M_named (some .int) 7 R_M D [(cI, .int), (cZ, .boolean)]) (hA : ∀ q, s.heap.size ≤ q → A q) {res : Int32 × StM}   {q : Nat} {σ : StM} {t1 t3 t4 t5 : Int32} (h : f_M_named_112 σ t1 t3 t4 t5 = some res) {H : Heap} {locs : List Loc} (hP : va_P D vwCl (wM cI cZ a q σ) H) (hD : va_D A (wM cI cZ a q σ)) (hS : va_S A s.heap H locs) {ls : Array Slot} (hl : lv_has ls 7 []) : W p l e (rmK 2 48 0 0) s m args below meth c H locs 0 0 (RwQ below args s D A (fun q (σ : StM) => (wM cI cZ a q σ)) res 0 0) (F0 m 112 ls [.int t5, .int t4, .int t3, .ref (a 20), .int t1, .ref (a 20)]) := by
  obtain ⟨hx, hb, hr, hml, hown, hts, hlk, hK⟩ := id C0
  unfold f_M_named_112 at h
  replace h := bd h
  obtain ⟨r2, g2, h⟩ := h
  refine rw_V (n := 3) (ci := 4) (As := [.int t3, .int t4, .int t5]) (rest := [.int t1, .ref (a 20)]) (Wn := fun _ => (wM cI cZ a q r2.2)) C0 hA (c_M_addNamed l D cI cZ a q σ t3 t4 t5 g2) wd_419 ⟨wd_420, wd_421, wd_422, wd_352⟩ (by decide +kernel) ⟨Nat.le_of_ble_eq_true rfl, Nat.le_of_ble_eq_true rfl⟩ hP hD hS [0, 1, 2, 3, 4, 5, 6, 7, 8, 9, 10, 11, 12, 13, 14, 15, 16, 17, 18, 19, 20, 21, 22, 23] [] [0, 1, 2, 3, 4, 5, 6, 7, 8, 9, 10, 11, 12, 13, 14, 15, 16, 17, 18, 19, 20, 21, 22, 23] jn_M__C (by decide) jn_M__R (by decide) (by decide) (by decide) jn_M__W rfl rfl rfl hl rfl rfl (Nat.le_of_ble_eq_true rfl) ⟨Nat.zero_le _, Nat.zero_le _⟩ d_M_named_112 (fun H locs _ hP hD hS => ?_)
  try dsimp only at h
  refine lv_iconst (v := 3) hx hb d_M_named_115 (by decide) ?_
  replace h := bd h
  obtain ⟨r3, g3, h⟩ := h
  refine rw_V (n := 3) (ci := 4) (As := [.int t1, .int r2.1, .int 3]) (rest := []) (Wn := fun _ => (wM cI cZ a q r3.2)) C0 hA (c_M_end l D cI cZ a q r2.2 t1 r2.1 3 g3) wd_423 ⟨wd_424, wd_425, wd_426, wd_352⟩ (by decide +kernel) ⟨Nat.le_of_ble_eq_true rfl, Nat.le_of_ble_eq_true rfl⟩ hP hD hS [0, 1, 2, 3, 4, 5, 6, 7, 8, 9, 10, 11, 12, 13, 14, 15, 16, 17, 18, 19, 20, 21, 22, 23] [] [0, 1, 2, 3, 4, 5, 6, 7, 8, 9, 10, 11, 12, 13, 14, 15, 16, 17, 18, 19, 20, 21, 22, 23] jn_M__C (by decide) jn_M__R (by decide) (by decide) (by decide) jn_M__W rfl rfl rfl hl rfl rfl (Nat.le_of_ble_eq_true rfl) ⟨Nat.zero_le _, Nat.zero_le _⟩ d_M_named_116 (fun H locs _ hP hD hS => ?_)
  try dsimp only at h
  exact rw_ret C0 hP hD hS (Option.some.inj h) d_M_named_119
set_option maxHeartbeats 4000000 in
set_option maxRecDepth 100000 in
theorem t_M_named_78 {p : Program} {l : Launch} {e : Env} {s : State} {m : MethodId} {args : Array Value} {below : List Frame} {meth : Method} {c : Code} {D : va_G} {cI cZ : ClassId} {a : Nat → Nat} {A : Nat → Prop} (C0 : Am p s m args meth c b_M_named (some .int) 7 R_M D [(cI, .int), (cZ, .boolean)]) (hA : ∀ q, s.heap.size ≤ q → A q) {res : Int32 × StM}   {q : Nat} {σ : StM} {x1 x2 x3 t0 : Int32} (h : f_M_named_78 σ x1 x2 x3 t0 = some res) {H : Heap} {locs : List Loc} (hP : va_P D vwCl (wM cI cZ a q σ) H) (hD : va_D A (wM cI cZ a q σ)) (hS : va_S A s.heap H locs) {ls : Array Slot} (hl : lv_has ls 7 [(0, .ref (a 20)), (1, .int x1), (2, .int x2), (3, .int x3)]) : W p l e (rmK 2 48 0 0) s m args below meth c H locs 0 0 (RwQ below args s D A (fun q (σ : StM) => (wM cI cZ a q σ)) res 0 0) (F0 m 78 ls [.int t0]) := by
  obtain ⟨hx, hb, hr, hml, hown, hts, hlk, hK⟩ := id C0
  unfold f_M_named_78 at h
  refine lv_istore (lv' := [(5, .int t0), (0, .ref (a 20)), (1, .int x1), (2, .int x2), (3, .int x3)]) hx hb d_M_named_78 hl (by decide) rfl (fun ls hl => ?_)
  refine lv_aload_n hx hb d_M_named_80 rfl (lv_at hl 1 rfl) ?_
  refine lv_iload hx hb d_M_named_81 (lv_at hl 0 rfl) ?_
  replace h := bd h
  obtain ⟨r1, g1, h⟩ := h
  refine rw_V (n := 1) (ci := 4) (As := [.int t0]) (rest := []) (Wn := fun _ => (wM cI cZ a q r1.2)) C0 hA (c_M_good l D cI cZ a q σ t0 g1) wd_388 ⟨wd_389, wd_390, wd_391, wd_352⟩ (by decide +kernel) ⟨Nat.le_of_ble_eq_true rfl, Nat.le_of_ble_eq_true rfl⟩ hP hD hS [0, 1, 2, 3, 4, 5, 6, 7, 8, 9, 10, 11, 12, 13, 14, 15, 16, 17, 18, 19, 20, 21, 22, 23] [] [0, 1, 2, 3, 4, 5, 6, 7, 8, 9, 10, 11, 12, 13, 14, 15, 16, 17, 18, 19, 20, 21, 22, 23] jn_M__C (by decide) jn_M__R (by decide) (by decide) (by decide) jn_M__W rfl rfl rfl hl rfl rfl (Nat.le_of_ble_eq_true rfl) ⟨Nat.zero_le _, Nat.zero_le _⟩ d_M_named_83 (fun H locs _ hP hD hS => ?_)
  try dsimp only at h
  refine lv_if_ne (tgt := 91) hx hb d_M_named_86 (by decide) (fun hc => ?_) (fun hc => ?_)
  · rw [if_neg hc] at h
    refine lv_aload_n hx hb d_M_named_91 rfl (lv_at hl 1 rfl) ?_
    refine va_get (ci := 4) (v := .int (M_types r1.2)) (C := R_M) (T := F_M) (N := 35) hx hb hts i_M hown hK.1 hP 0 rfl rfl 10 (by decide) (hts _ wd_344) (fun _ h9 => h9) rfl d_M_named_92 ?_
    refine lv_istore (lv' := [(6, .int (M_types r1.2)), (5, .int t0), (0, .ref (a 20)), (1, .int x1), (2, .int x2), (3, .int x3)]) hx hb d_M_named_95 hl (by decide) rfl (fun ls hl => ?_)
    refine lv_aload_n hx hb d_M_named_97 rfl (lv_at hl 2 rfl) ?_
    refine lv_iload hx hb d_M_named_98 (lv_at hl 0 rfl) ?_
    refine lv_aload_n hx hb d_M_named_100 rfl (lv_at hl 2 rfl) ?_
    refine lv_iload_n hx hb d_M_named_101 rfl (lv_at hl 3 rfl) ?_
    refine lv_iload_n hx hb d_M_named_102 rfl (lv_at hl 4 rfl) ?_
    refine lv_iload_n hx hb d_M_named_103 rfl (lv_at hl 4 rfl) ?_
    refine lv_if_ne (tgt := 111) hx hb d_M_named_104 (by decide) (fun hc => ?_) (fun hc => ?_)
    · rw [if_neg hc] at h
      refine lv_iload_n hx hb d_M_named_111 rfl (lv_at hl 5 rfl) ?_
      exact t_M_named_112 (a := a) C0 hA  h hP hD hS (lv_sub hl [] rfl)
    · rw [if_pos hc] at h
      refine lv_iconst (v := (-1)) hx hb d_M_named_107 (by decide) ?_
      refine lv_goto (tgt := 112) hx hb d_M_named_108 (by decide) ?_
      exact t_M_named_112 (a := a) C0 hA  h hP hD hS (lv_sub hl [] rfl)
  · rw [if_pos hc] at h
    refine lv_iconst (v := 0) hx hb d_M_named_89 (by decide) ?_
    exact rw_ret C0 hP hD hS (Option.some.inj h) d_M_named_90
set_option maxHeartbeats 4000000 in
set_option maxRecDepth 100000 in
theorem t_M_named_73 {p : Program} {l : Launch} {e : Env} {s : State} {m : MethodId} {args : Array Value} {below : List Frame} {meth : Method} {c : Code} {D : va_G} {cI cZ : ClassId} {a : Nat → Nat} {A : Nat → Prop} (C0 : Am p s m args meth c b_M_named (some .int) 7 R_M D [(cI, .int), (cZ, .boolean)]) (hA : ∀ q, s.heap.size ≤ q → A q) {res : Int32 × StM}   {q : Nat} {σ : StM} {x1 x2 x3 : Int32} (h : f_M_named_73 σ x1 x2 x3 = some res) {H : Heap} {locs : List Loc} (hP : va_P D vwCl (wM cI cZ a q σ) H) (hD : va_D A (wM cI cZ a q σ)) (hS : va_S A s.heap H locs) {ls : Array Slot} (hl : lv_has ls 7 [(0, .ref (a 20)), (1, .int x1), (2, .int x2), (3, .int x3)]) : W p l e (rmK 2 48 0 0) s m args below meth c H locs 0 0 (RwQ below args s D A (fun q (σ : StM) => (wM cI cZ a q σ)) res 0 0) (F0 m 73 ls []) := by
  obtain ⟨hx, hb, hr, hml, hown, hts, hlk, hK⟩ := id C0
  unfold f_M_named_73 at h
  refine lv_iconst (v := 2) hx hb d_M_named_73 (by decide) ?_
  refine lv_goto (tgt := 78) hx hb d_M_named_74 (by decide) ?_
  exact t_M_named_78 (a := a) C0 hA  h hP hD hS (lv_sub hl [0, 1, 2, 3] rfl)
set_option maxHeartbeats 4000000 in
set_option maxRecDepth 100000 in
theorem t_M_named_77 {p : Program} {l : Launch} {e : Env} {s : State} {m : MethodId} {args : Array Value} {below : List Frame} {meth : Method} {c : Code} {D : va_G} {cI cZ : ClassId} {a : Nat → Nat} {A : Nat → Prop} (C0 : Am p s m args meth c b_M_named (some .int) 7 R_M D [(cI, .int), (cZ, .boolean)]) (hA : ∀ q, s.heap.size ≤ q → A q) {res : Int32 × StM}   {q : Nat} {σ : StM} {x1 x2 x3 : Int32} (h : f_M_named_77 σ x1 x2 x3 = some res) {H : Heap} {locs : List Loc} (hP : va_P D vwCl (wM cI cZ a q σ) H) (hD : va_D A (wM cI cZ a q σ)) (hS : va_S A s.heap H locs) {ls : Array Slot} (hl : lv_has ls 7 [(0, .ref (a 20)), (1, .int x1), (2, .int x2), (3, .int x3)]) : W p l e (rmK 2 48 0 0) s m args below meth c H locs 0 0 (RwQ below args s D A (fun q (σ : StM) => (wM cI cZ a q σ)) res 0 0) (F0 m 77 ls []) := by
  obtain ⟨hx, hb, hr, hml, hown, hts, hlk, hK⟩ := id C0
  unfold f_M_named_77 at h
  refine lv_iconst (v := 0) hx hb d_M_named_77 (by decide) ?_
  exact t_M_named_78 (a := a) C0 hA  h hP hD hS (lv_sub hl [0, 1, 2, 3] rfl)
set_option maxHeartbeats 4000000 in
set_option maxRecDepth 100000 in
theorem t_M_named_60 {p : Program} {l : Launch} {e : Env} {s : State} {m : MethodId} {args : Array Value} {below : List Frame} {meth : Method} {c : Code} {D : va_G} {cI cZ : ClassId} {a : Nat → Nat} {A : Nat → Prop} (C0 : Am p s m args meth c b_M_named (some .int) 7 R_M D [(cI, .int), (cZ, .boolean)]) (hA : ∀ q, s.heap.size ≤ q → A q) {res : Int32 × StM}   {q : Nat} {σ : StM} {x1 x2 x3 t0 t1 : Int32} (h : f_M_named_60 σ x1 x2 x3 t0 t1 = some res) {H : Heap} {locs : List Loc} (hP : va_P D vwCl (wM cI cZ a q σ) H) (hD : va_D A (wM cI cZ a q σ)) (hS : va_S A s.heap H locs) {ls : Array Slot} (hl : lv_has ls 7 [(0, .ref (a 20)), (1, .int x1), (2, .int x2), (3, .int x3)]) : W p l e (rmK 2 48 0 0) s m args below meth c H locs 0 0 (RwQ below args s D A (fun q (σ : StM) => (wM cI cZ a q σ)) res 0 0) (F0 m 60 ls [.int t1, .int t0]) := by
  obtain ⟨hx, hb, hr, hml, hown, hts, hlk, hK⟩ := id C0
  unfold f_M_named_60 at h
  refine lv_icmp_eq (tgt := 73) hx hb d_M_named_60 (by decide) (fun hc => ?_) (fun hc => ?_)
  · rw [if_pos hc] at h
    exact t_M_named_73 (a := a) C0 hA  h hP hD hS (lv_sub hl [0, 1, 2, 3] rfl)
  · rw [if_neg hc] at h
    refine lv_iload_n hx hb d_M_named_63 rfl (lv_at hl 2 rfl) ?_
    refine lv_if_le (tgt := 77) hx hb d_M_named_64 (by decide) (fun hc => ?_) (fun hc => ?_)
    · rw [if_pos hc] at h
      exact t_M_named_77 (a := a) C0 hA  h hP hD hS (lv_sub hl [0, 1, 2, 3] rfl)
    · rw [if_neg hc] at h
      refine lv_iload_n hx hb d_M_named_67 rfl (lv_at hl 3 rfl) ?_
      refine lv_bipush (v := 8) hx hb d_M_named_68 (by decide) ?_
      refine lv_icmp_ge (tgt := 77) hx hb d_M_named_70 (by decide) (fun hc => ?_) (fun hc => ?_)
      · rw [if_pos hc] at h
        exact t_M_named_77 (a := a) C0 hA  h hP hD hS (lv_sub hl [0, 1, 2, 3] rfl)
      · rw [if_neg hc] at h
        exact t_M_named_73 (a := a) C0 hA  h hP hD hS (lv_sub hl [0, 1, 2, 3] rfl)
set_option maxHeartbeats 4000000 in
set_option maxRecDepth 100000 in
theorem t_M_named_25 {p : Program} {l : Launch} {e : Env} {s : State} {m : MethodId} {args : Array Value} {below : List Frame} {meth : Method} {c : Code} {D : va_G} {cI cZ : ClassId} {a : Nat → Nat} {A : Nat → Prop} (C0 : Am p s m args meth c b_M_named (some .int) 7 R_M D [(cI, .int), (cZ, .boolean)]) (hA : ∀ q, s.heap.size ≤ q → A q) {res : Int32 × StM}   {q : Nat} {σ : StM} {x1 x2 x3 t0 : Int32} (h : f_M_named_25 σ x1 x2 x3 t0 = some res) {H : Heap} {locs : List Loc} (hP : va_P D vwCl (wM cI cZ a q σ) H) (hD : va_D A (wM cI cZ a q σ)) (hS : va_S A s.heap H locs) {ls : Array Slot} (hl : lv_has ls 7 [(0, .ref (a 20)), (1, .int x1), (2, .int x2), (3, .int x3)]) : W p l e (rmK 2 48 0 0) s m args below meth c H locs 0 0 (RwQ below args s D A (fun q (σ : StM) => (wM cI cZ a q σ)) res 0 0) (F0 m 25 ls [.int t0]) := by
  obtain ⟨hx, hb, hr, hml, hown, hts, hlk, hK⟩ := id C0
  unfold f_M_named_25 at h
  refine lv_istore (lv' := [(4, .int t0), (0, .ref (a 20)), (1, .int x1), (2, .int x2), (3, .int x3)]) hx hb d_M_named_25 hl (by decide) rfl (fun ls hl => ?_)
  refine lv_iload hx hb d_M_named_27 (lv_at hl 0 rfl) ?_
  refine lv_if_ne (tgt := 36) hx hb d_M_named_29 (by decide) (fun hc => ?_) (fun hc => ?_)
  · rw [if_neg hc] at h
    refine lv_iload_n hx hb d_M_named_36 rfl (lv_at hl 3 rfl) ?_
    refine lv_if_lt (tgt := 73) hx hb d_M_named_37 (by decide) (fun hc => ?_) (fun hc => ?_)
    · rw [if_pos hc] at h
      exact t_M_named_73 (a := a) C0 hA  h hP hD hS (lv_sub hl [1, 2, 3, 4] rfl)
    · rw [if_neg hc] at h
      refine lv_iload_n hx hb d_M_named_40 rfl (lv_at hl 3 rfl) ?_
      refine lv_iconst (v := 2) hx hb d_M_named_41 (by decide) ?_
      refine lv_icmp_gt (tgt := 73) hx hb d_M_named_42 (by decide) (fun hc => ?_) (fun hc => ?_)
      · rw [if_pos hc] at h
        exact t_M_named_73 (a := a) C0 hA  h hP hD hS (lv_sub hl [1, 2, 3, 4] rfl)
      · rw [if_neg hc] at h
        refine lv_aload_n hx hb d_M_named_45 rfl (lv_at hl 1 rfl) ?_
        refine va_get (ci := 4) (v := .ref (a 22)) (C := R_M) (T := F_M) (N := 35) hx hb hts i_M hown hK.1 hP 0 rfl rfl 5 (by decide) (hts _ wd_393) (fun _ h9 => h9) rfl d_M_named_46 ?_
        refine lv_iload_n hx hb d_M_named_49 rfl (lv_at hl 2 rfl) ?_
        replace h := gd h
        obtain ⟨hi, h⟩ := h
        refine va_zald hx hb hK.1 hP 2 1 rfl rfl hi d_M_named_50 ?_
        refine lv_iload_n hx hb d_M_named_51 rfl (lv_at hl 3 rfl) ?_
        refine lv_if_ne (tgt := 59) hx hb d_M_named_52 (by decide) (fun hc => ?_) (fun hc => ?_)
        · rw [if_neg hc] at h
          refine lv_iconst (v := 0) hx hb d_M_named_59 (by decide) ?_
          exact t_M_named_60 (a := a) C0 hA  h hP hD hS (lv_sub hl [1, 2, 3, 4] rfl)
        · rw [if_pos hc] at h
          refine lv_iconst (v := 1) hx hb d_M_named_55 (by decide) ?_
          refine lv_goto (tgt := 60) hx hb d_M_named_56 (by decide) ?_
          exact t_M_named_60 (a := a) C0 hA  h hP hD hS (lv_sub hl [1, 2, 3, 4] rfl)
  · rw [if_pos hc] at h
    refine lv_iconst (v := 1) hx hb d_M_named_32 (by decide) ?_
    refine lv_goto (tgt := 78) hx hb d_M_named_33 (by decide) ?_
    exact t_M_named_78 (a := a) C0 hA  h hP hD hS (lv_sub hl [1, 2, 3, 4] rfl)
set_option maxHeartbeats 4000000 in
set_option maxRecDepth 100000 in
theorem t_M_named_24 {p : Program} {l : Launch} {e : Env} {s : State} {m : MethodId} {args : Array Value} {below : List Frame} {meth : Method} {c : Code} {D : va_G} {cI cZ : ClassId} {a : Nat → Nat} {A : Nat → Prop} (C0 : Am p s m args meth c b_M_named (some .int) 7 R_M D [(cI, .int), (cZ, .boolean)]) (hA : ∀ q, s.heap.size ≤ q → A q) {res : Int32 × StM}   {q : Nat} {σ : StM} {x1 x2 x3 : Int32} (h : f_M_named_24 σ x1 x2 x3 = some res) {H : Heap} {locs : List Loc} (hP : va_P D vwCl (wM cI cZ a q σ) H) (hD : va_D A (wM cI cZ a q σ)) (hS : va_S A s.heap H locs) {ls : Array Slot} (hl : lv_has ls 7 [(0, .ref (a 20)), (1, .int x1), (2, .int x2), (3, .int x3)]) : W p l e (rmK 2 48 0 0) s m args below meth c H locs 0 0 (RwQ below args s D A (fun q (σ : StM) => (wM cI cZ a q σ)) res 0 0) (F0 m 24 ls []) := by
  obtain ⟨hx, hb, hr, hml, hown, hts, hlk, hK⟩ := id C0
  unfold f_M_named_24 at h
  refine lv_iconst (v := 0) hx hb d_M_named_24 (by decide) ?_
  exact t_M_named_25 (a := a) C0 hA  h hP hD hS (lv_sub hl [0, 1, 2, 3] rfl)
set_option maxHeartbeats 4000000 in
set_option maxRecDepth 100000 in
theorem t_M_named_20 {p : Program} {l : Launch} {e : Env} {s : State} {m : MethodId} {args : Array Value} {below : List Frame} {meth : Method} {c : Code} {D : va_G} {cI cZ : ClassId} {a : Nat → Nat} {A : Nat → Prop} (C0 : Am p s m args meth c b_M_named (some .int) 7 R_M D [(cI, .int), (cZ, .boolean)]) (hA : ∀ q, s.heap.size ≤ q → A q) {res : Int32 × StM}   {q : Nat} {σ : StM} {x1 x2 x3 : Int32} (h : f_M_named_20 σ x1 x2 x3 = some res) {H : Heap} {locs : List Loc} (hP : va_P D vwCl (wM cI cZ a q σ) H) (hD : va_D A (wM cI cZ a q σ)) (hS : va_S A s.heap H locs) {ls : Array Slot} (hl : lv_has ls 7 [(0, .ref (a 20)), (1, .int x1), (2, .int x2), (3, .int x3)]) : W p l e (rmK 2 48 0 0) s m args below meth c H locs 0 0 (RwQ below args s D A (fun q (σ : StM) => (wM cI cZ a q σ)) res 0 0) (F0 m 20 ls []) := by
  obtain ⟨hx, hb, hr, hml, hown, hts, hlk, hK⟩ := id C0
  unfold f_M_named_20 at h
  refine lv_iconst (v := 1) hx hb d_M_named_20 (by decide) ?_
  refine lv_goto (tgt := 25) hx hb d_M_named_21 (by decide) ?_
  exact t_M_named_25 (a := a) C0 hA  h hP hD hS (lv_sub hl [0, 1, 2, 3] rfl)
set_option maxHeartbeats 4000000 in
set_option maxRecDepth 100000 in
theorem t_M_named_0 {p : Program} {l : Launch} {e : Env} {s : State} {m : MethodId} {args : Array Value} {below : List Frame} {meth : Method} {c : Code} {D : va_G} {cI cZ : ClassId} {a : Nat → Nat} {A : Nat → Prop} (C0 : Am p s m args meth c b_M_named (some .int) 7 R_M D [(cI, .int), (cZ, .boolean)]) (hA : ∀ q, s.heap.size ≤ q → A q) {res : Int32 × StM}   {q : Nat} {σ : StM} {x1 x2 x3 : Int32} (h : f_M_named σ x1 x2 x3 = some res) {H : Heap} {locs : List Loc} (hP : va_P D vwCl (wM cI cZ a q σ) H) (hD : va_D A (wM cI cZ a q σ)) (hS : va_S A s.heap H locs) {ls : Array Slot} (hl : lv_has ls 7 [(0, .ref (a 20)), (1, .int x1), (2, .int x2), (3, .int x3)]) : W p l e (rmK 2 48 0 0) s m args below meth c H locs 0 0 (RwQ below args s D A (fun q (σ : StM) => (wM cI cZ a q σ)) res 0 0) (F0 m 0 ls []) := by
  obtain ⟨hx, hb, hr, hml, hown, hts, hlk, hK⟩ := id C0
  unfold f_M_named at h
  refine lv_aload_n hx hb d_M_named_0 rfl (lv_at hl 0 rfl) ?_
  refine lv_iload_n hx hb d_M_named_1 rfl (lv_at hl 1 rfl) ?_
  refine ro_V (n := 1) (ci := 4) (As := [.int x1]) (rest := []) C0 (c_M_isClass l D cI cZ a q σ x1 rfl) wd_403 ⟨wd_404, wd_405, wd_406, wd_352⟩ (by decide +kernel) ⟨Nat.le_of_ble_eq_true rfl, Nat.le_of_ble_eq_true rfl⟩ hP rfl rfl rfl hl rfl rfl (Nat.le_of_ble_eq_true rfl) ⟨Nat.zero_le _, Nat.zero_le _⟩ d_M_named_2 ?_
  refine lv_if_eq (tgt := 24) hx hb d_M_named_5 (by decide) (fun hc => ?_) (fun hc => ?_)
  · rw [if_pos hc] at h
    exact t_M_named_24 (a := a) C0 hA  h hP hD hS (lv_sub hl [0, 1, 2, 3] rfl)
  · rw [if_neg hc] at h
    refine lv_iload_n hx hb d_M_named_8 rfl (lv_at hl 2 rfl) ?_
    refine lv_if_eq (tgt := 20) hx hb d_M_named_9 (by decide) (fun hc => ?_) (fun hc => ?_)
    · rw [if_pos hc] at h
      exact t_M_named_20 (a := a) C0 hA  h hP hD hS (lv_sub hl [0, 1, 2, 3] rfl)
    · rw [if_neg hc] at h
      refine lv_aload_n hx hb d_M_named_12 rfl (lv_at hl 0 rfl) ?_
      refine lv_iload_n hx hb d_M_named_13 rfl (lv_at hl 3 rfl) ?_
      refine ro_V (n := 1) (ci := 4) (As := [.int x3]) (rest := []) C0 (c_M_isType l D cI cZ a q σ x3 rfl) wd_427 ⟨wd_428, wd_429, wd_430, wd_352⟩ (by decide +kernel) ⟨Nat.le_of_ble_eq_true rfl, Nat.le_of_ble_eq_true rfl⟩ hP rfl rfl rfl hl rfl rfl (Nat.le_of_ble_eq_true rfl) ⟨Nat.zero_le _, Nat.zero_le _⟩ d_M_named_14 ?_
      refine lv_if_eq (tgt := 24) hx hb d_M_named_17 (by decide) (fun hc => ?_) (fun hc => ?_)
      · rw [if_pos hc] at h
        exact t_M_named_24 (a := a) C0 hA  h hP hD hS (lv_sub hl [0, 1, 2, 3] rfl)
      · rw [if_neg hc] at h
        exact t_M_named_20 (a := a) C0 hA  h hP hD hS (lv_sub hl [0, 1, 2, 3] rfl)
set_option maxHeartbeats 4000000 in
set_option maxRecDepth 100000 in
theorem c_M_named (l : Launch) (D : va_G) (cI cZ : ClassId) (a : Nat → Nat) (q : Nat) (σ : StM) (x1 : Int32) (x2 : Int32) (x3 : Int32) {res : Int32 × StM} (h : f_M_named σ x1 x2 x3 = some res) : RwM l y_M_named b_M_named 7 (some .int) 2 48 D [(cI, .int), (cZ, .boolean)] [.ref (a 20), .int x1, .int x2, .int x3] (fun q (σ : StM) => (wM cI cZ a q σ)) q σ res :=
  rw_of (by decide) (Nat.le_of_ble_eq_true rfl) (fun p e s m args below meth c ls A C0 hA hP hD hS hl => t_M_named_0 (a := a) C0 hA h hP hD hS (lv_sub hl [0, 1, 2, 3] rfl))
