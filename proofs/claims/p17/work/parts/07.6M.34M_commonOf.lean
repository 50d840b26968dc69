def f_M_commonOf_54 (k5 : StM → Int32 → Int32 → Int32 → Int32 → Option (Int32 × StM)) (σ : StM) (x1 x2 x4 t0 : Int32) : Option (Int32 × StM) :=
  k5 σ x1 x2 (t0 ||| 0) (x4 + 1)
def f_M_commonOf_5_s (k5 : StM → Int32 → Int32 → Int32 → Int32 → Option (Int32 × StM)) (σ : StM) (x1 x2 x3 x4 : Int32) : Option (Int32 × StM) :=
  if (M_classes σ) ≤ x4 then
    some (x3, σ)
  else
    (f_M_lookAt σ x1 x4).bind fun r1 =>
    (f_M_lookAt r1.2 x2 x4).bind fun r2 =>
    if (M_found r1.2) = 0 then
      f_M_commonOf_54 k5 r2.2 x1 x2 x4 x3
    else
      if (M_found r2.2) = 0 then
        f_M_commonOf_54 k5 r2.2 x1 x2 x4 x3
      else
        k5 r2.2 x1 x2 (x3 ||| ((1 : Int32) <<< (x4 &&& 31))) (x4 + 1)
def f_M_commonOf_5 : Nat → StM → Int32 → Int32 → Int32 → Int32 → Option (Int32 × StM)
  | 0, _, _, _, _, _ => none
  | n + 1, σ, x1, x2, x3, x4 => f_M_commonOf_5_s (f_M_commonOf_5 n) σ x1 x2 x3 x4
def f_M_commonOf (σ : StM) (x1 x2 : Int32) : Option (Int32 × StM) :=
  f_M_commonOf_5 1000 σ x1 x2 0 0
set_option maxHeartbeats 4000000 in
set_option maxRecDepth 100000 in
theorem t_M_commonOf_54 {p : Program} {l : Launch} {e : Env} {s : State} {m : MethodId} {args : Array Value} {below : List Frame} {meth : Method} {c : Code} {D : va_G} {cI cZ : ClassId} {a : Nat → Nat} {A : Nat → Prop} (C0 : Am p s m args meth c b_M_commonOf (some .int) 6 R_M D [(cI, .int), (cZ, .boolean)]) (hA : ∀ q, s.heap.size ≤ q → A q) {res : Int32 × StM} {k5 : StM → Int32 → Int32 → Int32 → Int32 → Option (Int32 × StM)} (hk5 : ∀ (q : Nat) (σ : StM) (x1 x2 x3 x4 : Int32) (H : Heap) (locs : List Loc) (ls : Array Slot), k5 σ x1 x2 x3 x4 = some res → va_P D vwCl (wM cI cZ a q σ) H → va_D A (wM cI cZ a q σ) → va_S A s.heap H locs → lv_has ls 6 [(0, .ref (a 20)), (1, .int x1), (2, .int x2), (3, .int x3), (4, .int x4)] → W p l e (rmK 3 74 0 0) s m args below meth c H locs 0 0 (RwQ below args s D A (fun q (σ : StM) => (wM cI cZ a q σ)) res 0 0) (F0 m 5 ls []))  {q : Nat} {σ : StM} {x1 x2 x4 t0 : Int32} (h : f_M_commonOf_54 k5 σ x1 x2 x4 t0 = some res) {H : Heap} {locs : List Loc} (hP : va_P D vwCl (wM cI cZ a q σ) H) (hD : va_D A (wM cI cZ a q σ)) (hS : va_S A s.heap H locs) {ls : Array Slot} (hl : lv_has ls 6 [(0, .ref (a 20)), (1, .int x1), (2, .int x2), (4, .int x4)]) : W p l e (rmK 3 74 0 0) s m args below meth c H locs 0 0 (RwQ below args s D A (fun q (σ : StM) => (wM cI cZ a q σ)) res 0 0) (F0 m 54 ls [.int t0]) := by
  obtain ⟨hx, hb, hr, hml, hown, hts, hlk, hK⟩ := id C0
  unfold f_M_commonOf_54 at h
  refine lv_iconst (v := 0) hx hb d_M_commonOf_54 (by decide) ?_
  refine lv_ior hx hb d_M_commonOf_55 ?_
  refine lv_istore_n (lv' := [(3, .int (t0 ||| 0)), (0, .ref (a 20)), (1, .int x1), (2, .int x2), (4, .int x4)]) hx hb d_M_commonOf_56 rfl hl (by decide) rfl (fun ls hl => ?_)
  refine lv_iinc (v := (x4 + 1)) (lv' := [(4, .int (x4 + 1)), (3, .int (t0 ||| 0)), (0, .ref (a 20)), (1, .int x1), (2, .int x2)]) hx hb d_M_commonOf_57 hl (k := 4) rfl rfl (by decide) rfl (fun ls hl => ?_)
  refine lv_goto (tgt := 5) hx hb d_M_commonOf_60 (by decide) ?_
  exact hk5 _ _ _ _ _ _ _ _ _ h hP hD hS (lv_sub hl [2, 3, 4, 1, 0] rfl)
set_option maxHeartbeats 4000000 in
set_option maxRecDepth 100000 in
theorem t_M_commonOf_5_s {p : Program} {l : Launch} {e : Env} {s : State} {m : MethodId} {args : Array Value} {below : List Frame} {meth : Method} {c : Code} {D : va_G} {cI cZ : ClassId} {a : Nat → Nat} {A : Nat → Prop} (C0 : Am p s m args meth c b_M_commonOf (some .int) 6 R_M D [(cI, .int), (cZ, .boolean)]) (hA : ∀ q, s.heap.size ≤ q → A q) {res : Int32 × StM} {k5 : StM → Int32 → Int32 → Int32 → Int32 → Option (Int32 × StM)}  (hk5 : ∀ (q : Nat) (σ : StM) (x1 x2 x3 x4 : Int32) (H : Heap) (locs : List Loc) (ls : Array Slot), k5 σ x1 x2 x3 x4 = some res → va_P D vwCl (wM cI cZ a q σ) H → va_D A (wM cI cZ a q σ) → va_S A s.heap H locs → lv_has ls 6 [(0, .ref (a 20)), (1, .int x1), (2, .int x2), (3, .int x3), (4, .int x4)] → W p l e (rmK 3 74 0 0) s m args below meth c H locs 0 0 (RwQ below args s D A (fun q (σ : StM) => (wM cI cZ a q σ)) res 0 0) (F0 m 5 ls [])) {q : Nat} {σ : StM} {x1 x2 x3 x4 : Int32} (h : f_M_commonOf_5_s k5 σ x1 x2 x3 x4 = some res) {H : Heap} {locs : List Loc} (hP : va_P D vwCl (wM cI cZ a q σ) H) (hD : va_D A (wM cI cZ a q σ)) (hS : va_S A s.heap H locs) {ls : Array Slot} (hl : lv_has ls 6 [(0, .ref (a 20)), (1, .int x1), (2, .int x2), (3, .int x3), (4, .int x4)]) : W p l e (rmK 3 74 0 0) s m args below meth c H locs 0 0 (RwQ below args s D A (fun q (σ : StM) => (wM cI cZ a q σ)) res 0 0) (F0 m 5 ls []) := by
  obtain ⟨hx, hb, hr, hml, hown, hts, hlk, hK⟩ := id C0
  unfold f_M_commonOf_5_s at h
  refine lv_iload hx hb d_M_commonOf_5 (lv_at hl 4 rfl) ?_
  refine lv_aload_n hx hb d_M_commonOf_7 rfl (lv_at hl 0 rfl) ?_
  refine va_get (ci := 4) (v := .int (M_classes σ)) (C := R_M) (T := F_M) (N := 35) hx hb hts i_M hown hK.1 hP 0 rfl rfl 2 (by decide) (hts _ wd_343) (fun _ h9 => h9) rfl d_M_commonOf_8 ?_
  refine lv_icmp_ge (tgt := 63) hx hb d_M_commonOf_11 (by decide) (fun hc => ?_) (fun hc => ?_)
  · rw [if_pos hc] at h
    refine lv_iload_n hx hb d_M_commonOf_63 rfl (lv_at hl 3 rfl) ?_
    exact rw_ret C0 hP hD hS (Option.some.inj h) d_M_commonOf_64
  · rw [if_neg hc] at h
    refine lv_aload_n hx hb d_M_commonOf_14 rfl (lv_at hl 0 rfl) ?_
    refine lv_iload_n hx hb d_M_commonOf_15 rfl (lv_at hl 1 rfl) ?_
    refine lv_iload hx hb d_M_commonOf_16 (lv_at hl 4 rfl) ?_
    replace h := bd h
    obtain ⟨r1, g1, h⟩ := h
    refine rw_Vv (n := 2) (ci := 4) (As := [.int x1, .int x4]) (rest := []) (Wn := fun _ => (wM cI cZ a q r1.2)) C0 hA (c_M_lookAt l D cI cZ a q σ x1 x4 g1) wd_371 ⟨wd_372, wd_373, wd_374, wd_352⟩ (by decide +kernel) ⟨Nat.le_of_ble_eq_true rfl, Nat.le_of_ble_eq_true rfl⟩ hP hD hS [0, 1, 2, 3, 4, 5, 6, 7, 8, 9, 10, 11, 12, 13, 14, 15, 16, 17, 18, 19, 20, 21, 22, 23] [] [0, 1, 2, 3, 4, 5, 6, 7, 8, 9, 10, 11, 12, 13, 14, 15, 16, 17, 18, 19, 20, 21, 22, 23] jn_M__C (by decide) jn_M__R (by decide) (by decide) (by decide) jn_M__W rfl rfl rfl hl rfl rfl (Nat.le_of_ble_eq_true rfl) ⟨Nat.zero_le _, Nat.zero_le _⟩ d_M_commonOf_18 (fun H locs _ hP hD hS => ?_)
    try dsimp only at h
    refine lv_aload_n hx hb d_M_commonOf_21 rfl (lv_at hl 0 rfl) ?_
    refine va_get (ci := 4) (v := .int (M_found r1.2)) (C := R_M) (T := F_M) (N := 35) hx hb hts i_M hown hK.1 hP 0 rfl rfl 19 (by decide) (hts _ wd_345) (fun _ h9 => h9) rfl d_M_commonOf_22 ?_
    refine lv_istore (lv' := [(5, .int (M_found r1.2)), (0, .ref (a 20)), (1, .int x1), (2, .int x2), (3, .int x3), (4, .int x4)]) hx hb d_M_commonOf_25 hl (by decide) rfl (fun ls hl => ?_)
    refine lv_aload_n hx hb d_M_commonOf_27 rfl (lv_at hl 1 rfl) ?_
    refine lv_iload_n hx hb d_M_commonOf_28 rfl (lv_at hl 3 rfl) ?_
    refine lv_iload hx hb d_M_commonOf_29 (lv_at hl 5 rfl) ?_
    replace h := bd h
    obtain ⟨r2, g2, h⟩ := h
    refine rw_Vv (n := 2) (ci := 4) (As := [.int x2, .int x4]) (rest := []) (Wn := fun _ => (wM cI cZ a q r2.2)) C0 hA (c_M_lookAt l D cI cZ a q r1.2 x2 x4 g2) wd_371 ⟨wd_372, wd_373, wd_374, wd_352⟩ (by decide +kernel) ⟨Nat.le_of_ble_eq_true rfl, Nat.le_of_ble_eq_true rfl⟩ hP hD hS [0, 1, 2, 3, 4, 5, 6, 7, 8, 9, 10, 11, 12, 13, 14, 15, 16, 17, 18, 19, 20, 21, 22, 23] [] [0, 1, 2, 3, 4, 5, 6, 7, 8, 9, 10, 11, 12, 13, 14, 15, 16, 17, 18, 19, 20, 21, 22, 23] jn_M__C (by decide) jn_M__R (by decide) (by decide) (by decide) jn_M__W rfl rfl rfl hl rfl rfl (Nat.le_of_ble_eq_true rfl) ⟨Nat.zero_le _, Nat.zero_le _⟩ d_M_commonOf_31 (fun H locs _ hP hD hS => ?_)
    try dsimp only at h
    refine lv_iload_n hx hb d_M_commonOf_34 rfl (lv_at hl 4 rfl) ?_
    refine lv_iload hx hb d_M_commonOf_35 (lv_at hl 0 rfl) ?_
    refine lv_if_eq (tgt := 54) hx hb d_M_commonOf_37 (by decide) (fun hc => ?_) (fun hc => ?_)
    · rw [if_pos hc] at h
      exact t_M_commonOf_54 (a := a) C0 hA hk5 h hP hD hS (lv_sub hl [1, 2, 3, 5] rfl)
    · rw [if_neg hc] at h
      refine lv_aload_n hx hb d_M_commonOf_40 rfl (lv_at hl 1 rfl) ?_
      refine va_get (ci := 4) (v := .int (M_found r2.2)) (C := R_M) (T := F_M) (N := 35) hx hb hts i_M hown hK.1 hP 0 rfl rfl 19 (by decide) (hts _ wd_345) (fun _ h9 => h9) rfl d_M_commonOf_41 ?_
      refine lv_if_eq (tgt := 54) hx hb d_M_commonOf_44 (by decide) (fun hc => ?_) (fun hc => ?_)
      · rw [if_pos hc] at h
        exact t_M_commonOf_54 (a := a) C0 hA hk5 h hP hD hS (lv_sub hl [1, 2, 3, 5] rfl)
      · rw [if_neg hc] at h
        refine lv_iconst (v := 1) hx hb d_M_commonOf_47 (by decide) ?_
        refine lv_iload hx hb d_M_commonOf_48 (lv_at hl 5 rfl) ?_
        refine lv_ishl hx hb d_M_commonOf_50 ?_
        refine lv_goto (tgt := 55) hx hb d_M_commonOf_51 (by decide) ?_
        refine lv_ior hx hb d_M_commonOf_55 ?_
        refine lv_istore_n (lv' := [(3, .int (x3 ||| ((1 : Int32) <<< (x4 &&& 31)))), (5, .int (M_found r1.2)), (0, .ref (a 20)), (1, .int x1), (2, .int x2), (4, .int x4)]) hx hb d_M_commonOf_56 rfl hl (by decide) rfl (fun ls hl => ?_)
        refine lv_iinc (v := (x4 + 1)) (lv' := [(4, .int (x4 + 1)), (3, .int (x3 ||| ((1 : Int32) <<< (x4 &&& 31)))), (5, .int (M_found r1.2)), (0, .ref (a 20)), (1, .int x1), (2, .int x2)]) hx hb d_M_commonOf_57 hl (k := 5) rfl rfl (by decide) rfl (fun ls hl => ?_)
        refine lv_goto (tgt := 5) hx hb d_M_commonOf_60 (by decide) ?_
        exact hk5 _ _ _ _ _ _ _ _ _ h hP hD hS (lv_sub hl [3, 4, 5, 1, 0] rfl)
set_option maxHeartbeats 4000000 in
set_option maxRecDepth 100000 in
theorem t_M_commonOf_5 {p : Program} {l : Launch} {e : Env} {s : State} {m : MethodId} {args : Array Value} {below : List Frame} {meth : Method} {c : Code} {D : va_G} {cI cZ : ClassId} {a : Nat → Nat} {A : Nat → Prop} (C0 : Am p s m args meth c b_M_commonOf (some .int) 6 R_M D [(cI, .int), (cZ, .boolean)]) (hA : ∀ q, s.heap.size ≤ q → A q) {res : Int32 × StM}  {n : Nat} {q : Nat} {σ : StM} {x1 x2 x3 x4 : Int32} (h : f_M_commonOf_5  n σ x1 x2 x3 x4 = some res) {H : Heap} {locs : List Loc} (hP : va_P D vwCl (wM cI cZ a q σ) H) (hD : va_D A (wM cI cZ a q σ)) (hS : va_S A s.heap H locs) {ls : Array Slot} (hl : lv_has ls 6 [(0, .ref (a 20)), (1, .int x1), (2, .int x2), (3, .int x3), (4, .int x4)]) : W p l e (rmK 3 74 0 0) s m args below meth c H locs 0 0 (RwQ below args s D A (fun q (σ : StM) => (wM cI cZ a q σ)) res 0 0) (F0 m 5 ls []) := by
  induction n generalizing q σ x1 x2 x3 x4 H locs ls with
  | zero => cases h
  | succ n ih => exact t_M_commonOf_5_s (a := a) C0 hA  (fun _ _ _ _ _ _ _ _ _ h hP hD hS hl => ih h hP hD hS hl) h hP hD hS hl
set_option maxHeartbeats 4000000 in
set_option maxRecDepth 100000 in
theorem t_M_commonOf_0 {p : Program} {l : Launch} {e : Env} {s : State} {m : MethodId} {args : Array Value} {below : List Frame} {meth : Method} {c : Code} {D : va_G} {cI cZ : ClassId} {a : Nat → Nat} {A : Nat → Prop} (C0 : Am p s m args meth c b_M_commonOf (some .int) 6 R_M D [(cI, .int), (cZ, .boolean)]) (hA : ∀ q, s.heap.size ≤ q → A q) {res : Int32 × StM}   {q : Nat} {σ : StM} {x1 x2 : Int32} (h : f_M_commonOf σ x1 x2 = some res) {H : Heap} {locs : List Loc} (hP : va_P D vwCl (wM cI cZ a q σ) H) (hD : va_D A (wM cI cZ a q σ)) (hS : va_S A s.heap H locs) {ls : Array Slot} (hl : lv_has ls 6 [(0, .ref (a 20)), (1, .int x1), (2, .int x2)]) : W p l e (rmK 3 74 0 0) s m args below meth c H locs 0 0 (RwQ below args s D A (fun q (σ : StM) => (wM cI cZ a q σ)) res 0 0) (F0 m 0 ls []) := by
  obtain ⟨hx, hb, hr, hml, hown, hts, hlk, hK⟩ := id C0
  unfold f_M_commonOf at h
  refine lv_iconst (v := 0) hx hb d_M_commonOf_0 (by decide) ?_
  refine lv_istore_n (lv' := [(3, .int 0), (0, .ref (a 20)), (1, .int x1), (2, .int x2)]) hx hb d_M_commonOf_1 rfl hl (by decide) rfl (fun ls hl => ?_)
  refine lv_iconst (v := 0) hx hb d_M_commonOf_2 (by decide) ?_
  refine lv_istore (lv' := [(4, .int 0), (3, .int 0), (0, .ref (a 20)), (1, .int x1), (2, .int x2)]) hx hb d_M_commonOf_3 hl (by decide) rfl (fun ls hl => ?_)
  exact t_M_commonOf_5 (a := a) C0 hA  h hP hD hS (lv_sub hl [2, 3, 4, 1, 0] rfl)
set_option maxHeartbeats 4000000 in
set_option maxRecDepth 100000 in
theorem c_M_commonOf (l : Launch) (D : va_G) (cI cZ : ClassId) (a : Nat → Nat) (q : Nat) (σ : StM) (x1 : Int32) (x2 : Int32) {res : Int32 × StM} (h : f_M_commonOf σ x1 x2 = some res) : RwM l y_M_commonOf b_M_commonOf 6 (some .int) 3 74 D [(cI, .int), (cZ, .boolean)] [.ref (a 20), .int x1, .int x2] (fun q (σ : StM) => (wM cI cZ a q σ)) q σ res :=
  rw_of (by decide) (Nat.le_of_ble_eq_true rfl) (fun p e s m args below meth c ls A C0 hA hP hD hS hl => t_M_commonOf_0 (a := a) C0 hA h hP hD hS (lv_sub hl [0, 1, 2] rfl))
