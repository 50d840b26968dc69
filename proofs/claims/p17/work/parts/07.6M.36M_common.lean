def f_M_common_66 (σ : StM) (t0 : Int32) : Option (Int32 × StM) :=
  (f_M_count t0).bind fun r4 =>
  some (r4, σ)
def f_M_common_35 (σ : StM) (x1 x2 x3 t1 : Int32) : Option (Int32 × StM) :=
  (f_M_good σ t1).bind fun r1 =>
  if r1.1 = 0 then
    some (0, r1.2)
  else
    (f_M_commonOf r1.2 x1 x2).bind fun r2 =>
    if x3 = 0 then
      f_M_common_66 r2.2 r2.1
    else
      (f_M_leastOf r2.2 r2.1).bind fun r3 =>
      f_M_common_66 r2.2 r3
def f_M_common_17 (σ : StM) (x1 x2 x3 : Int32) : Option (Int32 × StM) :=
  f_M_common_35 σ x1 x2 x3 1
def f_M_common_30 (σ : StM) (x1 x2 x3 : Int32) : Option (Int32 × StM) :=
  f_M_common_35 σ x1 x2 x3 2
def f_M_common (σ : StM) (x1 x2 x3 : Int32) : Option (Int32 × StM) :=
  if (f_M_isType σ x1) = 0 then
    f_M_common_17 σ x1 x2 x3
  else
    if (f_M_isType σ x2) = 0 then
      f_M_common_17 σ x1 x2 x3
    else
      if x3 < 0 then
        f_M_common_30 σ x1 x2 x3
      else
        if x3 ≤ 1 then
          f_M_common_35 σ x1 x2 x3 0
        else
          f_M_common_30 σ x1 x2 x3
set_option maxHeartbeats 4000000 in
set_option maxRecDepth 100000 in
theorem t_M_common_66 {p : Program} {l : Launch} {e : Env} {s : State} {m : MethodId} {args : Array Value} {below : List Frame} {meth : Method} {c : Code} {D : va_G} {cI cZ : ClassId} {a : Nat → Nat} {A : Nat → Prop} (C0 : Am p s m args meth c b_M_common (some .int) 5 R_M D [(cI, .int), (cZ, .boolean)]) (hA : ∀ q, s.heap.size ≤ q → A q) {res : Int32 × StM}   {q : Nat} {σ : StM} {t0 : Int32} (h : f_M_common_66 σ t0 = some res) {H : Heap} {locs : List Loc} (hP : va_P D vwCl (wM cI cZ a q σ) H) (hD : va_D A (wM cI cZ a q σ)) (hS : va_S A s.heap H locs) {ls : Array Slot} (hl : lv_has ls 5 []) : W p l e (rmK 4 99 0 0) s m args below meth c H locs 0 0 (RwQ below args s D A (fun q (σ : StM) => (wM cI cZ a q σ)) res 0 0) (F0 m 66 ls [.int t0]) := by
  obtain ⟨hx, hb, hr, hml, hown, hts, hlk, hK⟩ := id C0
  unfold f_M_common_66 at h
  replace h := bd h
  obtain ⟨r4, g4, h⟩ := h
  refine ro_S (n := 1) (As := [.int t0]) (rest := []) C0 (c_M_count l D cI cZ a t0 g4) wd_415 ⟨wd_416, wd_417, wd_352⟩ (by decide +kernel) ⟨Nat.le_of_ble_eq_true rfl, Nat.le_of_ble_eq_true rfl⟩ pnil hl rfl rfl (Nat.le_of_ble_eq_true rfl) ⟨Nat.zero_le _, Nat.zero_le _⟩ d_M_common_66 ?_
  try dsimp only at h
  exact rw_ret C0 hP hD hS (Option.some.inj h) d_M_common_69
set_option maxHeartbeats 4000000 in
set_option maxRecDepth 100000 in
theorem t_M_common_35 {p : Program} {l : Launch} {e : Env} {s : State} {m : MethodId} {args : Array Value} {below : List Frame} {meth : Method} {c : Code} {D : va_G} {cI cZ : ClassId} {a : Nat → Nat} {A : Nat → Prop} (C0 : Am p s m args meth c b_M_common (some .int) 5 R_M D [(cI, .int), (cZ, .boolean)]) (hA : ∀ q, s.heap.size ≤ q → A q) {res : Int32 × StM}   {q : Nat} {σ : StM} {x1 x2 x3 t1 : Int32} (h : f_M_common_35 σ x1 x2 x3 t1 = some res) {H : Heap} {locs : List Loc} (hP : va_P D vwCl (wM cI cZ a q σ) H) (hD : va_D A (wM cI cZ a q σ)) (hS : va_S A s.heap H locs) {ls : Array Slot} (hl : lv_has ls 5 [(0, .ref (a 20)), (1, .int x1), (2, .int x2), (3, .int x3)]) : W p l e (rmK 4 99 0 0) s m args below meth c H locs 0 0 (RwQ below args s D A (fun q (σ : StM) => (wM cI cZ a q σ)) res 0 0) (F0 m 35 ls [.int t1, .ref (a 20)]) := by
  obtain ⟨hx, hb, hr, hml, hown, hts, hlk, hK⟩ := id C0
  unfold f_M_common_35 at h
  replace h := bd h
  obtain ⟨r1, g1, h⟩ := h
  refine rw_V (n := 1) (ci := 4) (As := [.int t1]) (rest := []) (Wn := fun _ => (wM cI cZ a q r1.2)) C0 hA (c_M_good l D cI cZ a q σ t1 g1) wd_388 ⟨wd_389, wd_390, wd_391, wd_352⟩ (by decide +kernel) ⟨Nat.le_of_ble_eq_true rfl, Nat.le_of_ble_eq_true rfl⟩ hP hD hS [0, 1, 2, 3, 4, 5, 6, 7, 8, 9, 10, 11, 12, 13, 14, 15, 16, 17, 18, 19, 20, 21, 22, 23] [] [0, 1, 2, 3, 4, 5, 6, 7, 8, 9, 10, 11, 12, 13, 14, 15, 16, 17, 18, 19, 20, 21, 22, 23] jn_M__C (by decide) jn_M__R (by decide) (by decide) (by decide) jn_M__W rfl rfl rfl hl rfl rfl (Nat.le_of_ble_eq_true rfl) ⟨Nat.zero_le _, Nat.zero_le _⟩ d_M_common_35 (fun H locs _ hP hD hS => ?_)
  try dsimp only at h
  refine lv_if_ne (tgt := 43) hx hb d_M_common_38 (by decide) (fun hc => ?_) (fun hc => ?_)
  · rw [if_neg hc] at h
    refine lv_aload_n hx hb d_M_common_43 rfl (lv_at hl 0 rfl) ?_
    refine lv_iload_n hx hb d_M_common_44 rfl (lv_at hl 1 rfl) ?_
    refine lv_iload_n hx hb d_M_common_45 rfl (lv_at hl 2 rfl) ?_
    replace h := bd h
    obtain ⟨r2, g2, h⟩ := h
    refine rw_V (n := 2) (ci := 4) (As := [.int x1, .int x2]) (rest := []) (Wn := fun _ => (wM cI cZ a q r2.2)) C0 hA (c_M_commonOf l D cI cZ a q r1.2 x1 x2 g2) wd_439 ⟨wd_440, wd_441, wd_442, wd_352⟩ (by decide +kernel) ⟨Nat.le_of_ble_eq_true rfl, Nat.le_of_ble_eq_true rfl⟩ hP hD hS [0, 1, 2, 3, 4, 5, 6, 7, 8, 9, 10, 11, 12, 13, 14, 15, 16, 17, 18, 19, 20, 21, 22, 23] [] [0, 1, 2, 3, 4, 5, 6, 7, 8, 9, 10, 11, 12, 13, 14, 15, 16, 17, 18, 19, 20, 21, 22, 23] jn_M__C (by decide) jn_M__R (by decide) (by decide) (by decide) jn_M__W rfl rfl rfl hl rfl rfl (Nat.le_of_ble_eq_true rfl) ⟨Nat.zero_le _, Nat.zero_le _⟩ d_M_common_46 (fun H locs _ hP hD hS => ?_)
    try dsimp only at h
    refine lv_istore (lv' := [(4, .int r2.1), (0, .ref (a 20)), (1, .int x1), (2, .int x2), (3, .int x3)]) hx hb d_M_common_49 hl (by decide) rfl (fun ls hl => ?_)
    refine lv_iload_n hx hb d_M_common_51 rfl (lv_at hl 4 rfl) ?_
    refine lv_if_ne (tgt := 60) hx hb d_M_common_52 (by decide) (fun hc => ?_) (fun hc => ?_)
    · rw [if_neg hc] at h
      refine lv_aload_n hx hb d_M_common_60 rfl (lv_at hl 1 rfl) ?_
      refine lv_iload hx hb d_M_common_61 (lv_at hl 0 rfl) ?_
      replace h := bd h
      obtain ⟨r3, g3, h⟩ := h
      refine ro_V (n := 1) (ci := 4) (As := [.int r2.1]) (rest := []) C0 (c_M_leastOf l D cI cZ a q r2.2 r2.1 g3) wd_443 ⟨wd_444, wd_445, wd_446, wd_352⟩ (by decide +kernel) ⟨Nat.le_of_ble_eq_true rfl, Nat.le_of_ble_eq_true rfl⟩ hP rfl rfl rfl hl rfl rfl (Nat.le_of_ble_eq_true rfl) ⟨Nat.zero_le _, Nat.zero_le _⟩ d_M_common_63 ?_
      try dsimp only at h
      exact t_M_common_66 (a := a) C0 hA  h hP hD hS (lv_sub hl [] rfl)
    · rw [if_pos hc] at h
      refine lv_iload hx hb d_M_common_55 (lv_at hl 0 rfl) ?_
      refine lv_goto (tgt := 66) hx hb d_M_common_57 (by decide) ?_
      exact t_M_common_66 (a := a) C0 hA  h hP hD hS (lv_sub hl [] rfl)
  · rw [if_pos hc] at h
    refine lv_iconst (v := 0) hx hb d_M_common_41 (by decide) ?_
    exact rw_ret C0 hP hD hS (Option.some.inj h) d_M_common_42
set_option maxHeartbeats 4000000 in
set_option maxRecDepth 100000 in
theorem t_M_common_17 {p : Program} {l : Launch} {e : Env} {s : State} {m : MethodId} {args : Array Value} {below : List Frame} {meth : Method} {c : Code} {D : va_G} {cI cZ : ClassId} {a : Nat → Nat} {A : Nat → Prop} (C0 : Am p s m args meth c b_M_common (some .int) 5 R_M D [(cI, .int), (cZ, .boolean)]) (hA : ∀ q, s.heap.size ≤ q → A q) {res : Int32 × StM}   {q : Nat} {σ : StM} {x1 x2 x3 : Int32} (h : f_M_common_17 σ x1 x2 x3 = some res) {H : Heap} {locs : List Loc} (hP : va_P D vwCl (wM cI cZ a q σ) H) (hD : va_D A (wM cI cZ a q σ)) (hS : va_S A s.heap H locs) {ls : Array Slot} (hl : lv_has ls 5 [(0, .ref (a 20)), (1, .int x1), (2, .int x2), (3, .int x3)]) : W p l e (rmK 4 99 0 0) s m args below meth c H locs 0 0 (RwQ below args s D A (fun q (σ : StM) => (wM cI cZ a q σ)) res 0 0) (F0 m 17 ls [.ref (a 20)]) := by
  obtain ⟨hx, hb, hr, hml, hown, hts, hlk, hK⟩ := id C0
  unfold f_M_common_17 at h
  refine lv_iconst (v := 1) hx hb d_M_common_17 (by decide) ?_
  refine lv_goto (tgt := 35) hx hb d_M_common_18 (by decide) ?_
  exact t_M_common_35 (a := a) C0 hA  h hP hD hS (lv_sub hl [0, 1, 2, 3] rfl)
set_option maxHeartbeats 4000000 in
set_option maxRecDepth 100000 in
theorem t_M_common_30 {p : Program} {l : Launch} {e : Env} {s : State} {m : MethodId} {args : Array Value} {below : List Frame} {meth : Method} {c : Code} {D : va_G} {cI cZ : ClassId} {a : Nat → Nat} {A : Nat → Prop} (C0 : Am p s m args meth c b_M_common (some .int) 5 R_M D [(cI, .int), (cZ, .boolean)]) (hA : ∀ q, s.heap.size ≤ q → A q) {res : Int32 × StM}   {q : Nat} {σ : StM} {x1 x2 x3 : Int32} (h : f_M_common_30 σ x1 x2 x3 = some res) {H : Heap} {locs : List Loc} (hP : va_P D vwCl (wM cI cZ a q σ) H) (hD : va_D A (wM cI cZ a q σ)) (hS : va_S A s.heap H locs) {ls : Array Slot} (hl : lv_has ls 5 [(0, .ref (a 20)), (1, .int x1), (2, .int x2), (3, .int x3)]) : W p l e (rmK 4 99 0 0) s m args below meth c H locs 0 0 (RwQ below args s D A (fun q (σ : StM) => (wM cI cZ a q σ)) res 0 0) (F0 m 30 ls [.ref (a 20)]) := by
  obtain ⟨hx, hb, hr, hml, hown, hts, hlk, hK⟩ := id C0
  unfold f_M_common_30 at h
  refine lv_iconst (v := 2) hx hb d_M_common_30 (by decide) ?_
  refine lv_goto (tgt := 35) hx hb d_M_common_31 (by decide) ?_
  exact t_M_common_35 (a := a) C0 hA  h hP hD hS (lv_sub hl [0, 1, 2, 3] rfl)
set_option maxHeartbeats 4000000 in
set_option maxRecDepth 100000 in
theorem t_M_common_0 {p : Program} {l : Launch} {e : Env} {s : State} {m : MethodId} {args : Array Value} {below : List Frame} {meth : Method} {c : Code} {D : va_G} {cI cZ : ClassId} {a : Nat → Nat} {A : Nat → Prop} (C0 : Am p s m args meth c b_M_common (some .int) 5 R_M D [(cI, .int), (cZ, .boolean)]) (hA : ∀ q, s.heap.size ≤ q → A q) {res : Int32 × StM}   {q : Nat} {σ : StM} {x1 x2 x3 : Int32} (h : f_M_common σ x1 x2 x3 = some res) {H : Heap} {locs : List Loc} (hP : va_P D vwCl (wM cI cZ a q σ) H) (hD : va_D A (wM cI cZ a q σ)) (hS : va_S A s.heap H locs) {ls : Array Slot} (hl : lv_has ls 5 [(0, .ref (a 20)), (1, .int x1), (2, .int x2), (3, .int x3)]) : W p l e (rmK 4 99 0 0) s m args below meth c H locs 0 0 (RwQ below args s D A (fun q (σ : StM) => (wM cI cZ a q σ)) res 0 0) (F0 m 0 ls []) := by
  obtain ⟨hx, hb, hr, hml, hown, hts, hlk, hK⟩ := id C0
  unfold f_M_common at h
  refine lv_aload_n hx hb d_M_common_0 rfl (lv_at hl 0 rfl) ?_
  refine lv_aload_n hx hb d_M_common_1 rfl (lv_at hl 0 rfl) ?_
  refine lv_iload_n hx hb d_M_common_2 rfl (lv_at hl 1 rfl) ?_
  refine ro_V (n := 1) (ci := 4) (As := [.int x1]) (rest := [.ref (a 20)]) C0 (c_M_isType l D cI cZ a q σ x1 rfl) wd_427 ⟨wd_428, wd_429, wd_430, wd_352⟩ (by decide +kernel) ⟨Nat.le_of_ble_eq_true rfl, Nat.le_of_ble_eq_true rfl⟩ hP rfl rfl rfl hl rfl rfl (Nat.le_of_ble_eq_true rfl) ⟨Nat.zero_le _, Nat.zero_le _⟩ d_M_common_3 ?_
  refine lv_if_eq (tgt := 17) hx hb d_M_common_6 (by decide) (fun hc => ?_) (fun hc => ?_)
  · rw [if_pos hc] at h
    exact t_M_common_17 (a := a) C0 hA  h hP hD hS (lv_sub hl [0, 1, 2, 3] rfl)
  · rw [if_neg hc] at h
    refine lv_aload_n hx hb d_M_common_9 rfl (lv_at hl 0 rfl) ?_
    refine lv_iload_n hx hb d_M_common_10 rfl (lv_at hl 2 rfl) ?_
    refine ro_V (n := 1) (ci := 4) (As := [.int x2]) (rest := [.ref (a 20)]) C0 (c_M_isType l D cI cZ a q σ x2 rfl) wd_427 ⟨wd_428, wd_429, wd_430, wd_352⟩ (by decide +kernel) ⟨Nat.le_of_ble_eq_true rfl, Nat.le_of_ble_eq_true rfl⟩ hP rfl rfl rfl hl rfl rfl (Nat.le_of_ble_eq_true rfl) ⟨Nat.zero_le _, Nat.zero_le _⟩ d_M_common_11 ?_
    refine lv_if_ne (tgt := 21) hx hb d_M_common_14 (by decide) (fun hc => ?_) (fun hc => ?_)
    · rw [if_neg hc] at h
      refine lv_iload_n hx hb d_M_common_21 rfl (lv_at hl 3 rfl) ?_
      refine lv_if_lt (tgt := 30) hx hb d_M_common_22 (by decide) (fun hc => ?_) (fun hc => ?_)
      · rw [if_pos hc] at h
        exact t_M_common_30 (a := a) C0 hA  h hP hD hS (lv_sub hl [0, 1, 2, 3] rfl)
      · rw [if_neg hc] at h
        refine lv_iload_n hx hb d_M_common_25 rfl (lv_at hl 3 rfl) ?_
        refine lv_iconst (v := 1) hx hb d_M_common_26 (by decide) ?_
        refine lv_icmp_le (tgt := 34) hx hb d_M_common_27 (by decide) (fun hc => ?_) (fun hc => ?_)
        · rw [if_pos hc] at h
          refine lv_iconst (v := 0) hx hb d_M_common_34 (by decide) ?_
          exact t_M_common_35 (a := a) C0 hA  h hP hD hS (lv_sub hl [0, 1, 2, 3] rfl)
        · rw [if_neg hc] at h
          exact t_M_common_30 (a := a) C0 hA  h hP hD hS (lv_sub hl [0, 1, 2, 3] rfl)
    · rw [if_pos hc] at h
      exact t_M_common_17 (a := a) C0 hA  h hP hD hS (lv_sub hl [0, 1, 2, 3] rfl)
set_option maxHeartbeats 4000000 in
set_option maxRecDepth 100000 in
theorem c_M_common (l : Launch) (D : va_G) (cI cZ : ClassId) (a : Nat → Nat) (q : Nat) (σ : StM) (x1 : Int32) (x2 : Int32) (x3 : Int32) {res : Int32 × StM} (h : f_M_common σ x1 x2 x3 = some res) : RwM l y_M_common b_M_common 5 (some .int) 4 99 D [(cI, .int), (cZ, .boolean)] [.ref (a 20), .int x1, .int x2, .int x3] (fun q (σ : StM) => (wM cI cZ a q σ)) q σ res :=
  rw_of (by decide) (Nat.le_of_ble_eq_true rfl) (fun p e s m args below meth c ls A C0 hA hP hD hS hl => t_M_common_0 (a := a) C0 hA h hP hD hS (lv_sub hl [0, 1, 2, 3] rfl))
