def f_M_reckonBelow_113 (k22 : StM → Int32 → Option (Int32 × StM)) (k32 : StM → Int32 → Int32 → Option (Int32 × StM)) (σ : StM) (x1 x2 t1 : Int32) : Option (Int32 × StM) :=
  if t1 < 0 ∨ 90000 ≤ t1.toNatClampNeg then none else
  k32 (M_put_below σ t1 (vp_nar .boolean 1)) x1 (x2 + 1)
def f_M_reckonBelow_94 (k22 : StM → Int32 → Option (Int32 × StM)) (k32 : StM → Int32 → Int32 → Option (Int32 × StM)) (σ : StM) (x1 x2 t1 : Int32) : Option (Int32 × StM) :=
  if x1 < 0 ∨ 300 ≤ x1.toNatClampNeg then none else
  if ((M_kind σ) x1.toNatClampNeg) = 2 then
    (f_M_isBelowArray σ x2 x1).bind fun r1 =>
    if r1 = 0 then
      if t1 < 0 ∨ 90000 ≤ t1.toNatClampNeg then none else
      k32 (M_put_below σ t1 (vp_nar .boolean 0)) x1 (x2 + 1)
    else
      f_M_reckonBelow_113 k22 k32 σ x1 x2 t1
  else
    if t1 < 0 ∨ 90000 ≤ t1.toNatClampNeg then none else
    k32 (M_put_below σ t1 (vp_nar .boolean 0)) x1 (x2 + 1)
def f_M_reckonBelow_75 (k22 : StM → Int32 → Option (Int32 × StM)) (k32 : StM → Int32 → Int32 → Option (Int32 × StM)) (σ : StM) (x1 x2 t1 : Int32) : Option (Int32 × StM) :=
  if x1 < 0 ∨ 300 ≤ x1.toNatClampNeg then none else
  if ((M_kind σ) x1.toNatClampNeg) = 1 then
    (f_M_isBelowNamed σ x2 x1).bind fun r2 =>
    if r2.1 = 0 then
      f_M_reckonBelow_94 k22 k32 r2.2 x1 x2 t1
    else
      f_M_reckonBelow_113 k22 k32 r2.2 x1 x2 t1
  else
    f_M_reckonBelow_94 k22 k32 σ x1 x2 t1
def f_M_reckonBelow_32_s (k22 : StM → Int32 → Option (Int32 × StM)) (k32 : StM → Int32 → Int32 → Option (Int32 × StM)) (σ : StM) (x1 x2 : Int32) : Option (Int32 × StM) :=
  if (M_types σ) ≤ x2 then
    k22 σ (x1 + 1)
  else
    if x2 = x1 then
      f_M_reckonBelow_113 k22 k32 σ x1 x2 ((300 * x2) + x1)
    else
      if x1 < 0 ∨ 300 ≤ x1.toNatClampNeg then none else
      if ((M_kind σ) x1.toNatClampNeg) = 3 then
        (f_M_isBelowAll σ x2 x1).bind fun r3 =>
        if r3 = 0 then
          f_M_reckonBelow_75 k22 k32 σ x1 x2 ((300 * x2) + x1)
        else
          f_M_reckonBelow_113 k22 k32 σ x1 x2 ((300 * x2) + x1)
      else
        f_M_reckonBelow_75 k22 k32 σ x1 x2 ((300 * x2) + x1)
def f_M_reckonBelow_32 (k22 : StM → Int32 → Option (Int32 × StM)) : Nat → StM → Int32 → Int32 → Option (Int32 × StM)
  | 0, _, _, _ => none
  | n + 1, σ, x1, x2 => f_M_reckonBelow_32_s k22 (f_M_reckonBelow_32 k22 n) σ x1 x2
def f_M_reckonBelow_22_s (k22 : StM → Int32 → Option (Int32 × StM)) (σ : StM) (x1 : Int32) : Option (Int32 × StM) :=
  if (M_types σ) ≤ x1 then
    some (0, σ)
  else
    f_M_reckonBelow_32 k22 1000 σ x1 0
def f_M_reckonBelow_22 : Nat → StM → Int32 → Option (Int32 × StM)
  | 0, _, _ => none
  | n + 1, σ, x1 => f_M_reckonBelow_22_s (f_M_reckonBelow_22 n) σ x1
def f_M_reckonBelow (σ : StM) : Option (Int32 × StM) :=
  if (M_reckoned σ) = (M_types σ) then
    some (0, σ)
  else
    f_M_reckonBelow_22 1000 (M_set_reckoned σ (M_types σ)) 0
set_option maxHeartbeats 4000000 in
set_option maxRecDepth 100000 in
theorem t_M_reckonBelow_113 {p : Program} {l : Launch} {e : Env} {s : State} {m : MethodId} {args : Array Value} {below : List Frame} {meth : Method} {c : Code} {D : va_G} {cI cZ : ClassId} {a : Nat → Nat} {A : Nat → Prop} (C0 : Am p s m args meth c b_M_reckonBelow none 3 R_M D [(cI, .int), (cZ, .boolean)]) (hA : ∀ q, s.heap.size ≤ q → A q) {res : Int32 × StM} {k22 : StM → Int32 → Option (Int32 × StM)} {k32 : StM → Int32 → Int32 → Option (Int32 × StM)} (hk22 : ∀ (q : Nat) (σ : StM) (x1 : Int32) (H : Heap) (locs : List Loc) (ls : Array Slot), k22 σ x1 = some res → va_P D vwCl (wM cI cZ a q σ) H → va_D A (wM cI cZ a q σ) → va_S A s.heap H locs → lv_has ls 3 [(0, .ref (a 20)), (1, .int x1)] → W p l e (rmK 4 100 0 0) s m args below meth c H locs 0 0 (RwQv below args s D A (fun q (σ : StM) => (wM cI cZ a q σ)) res 0 0) (F0 m 22 ls [])) (hk32 : ∀ (q : Nat) (σ : StM) (x1 x2 : Int32) (H : Heap) (locs : List Loc) (ls : Array Slot), k32 σ x1 x2 = some res → va_P D vwCl (wM cI cZ a q σ) H → va_D A (wM cI cZ a q σ) → va_S A s.heap H locs → lv_has ls 3 [(0, .ref (a 20)), (1, .int x1), (2, .int x2)] → W p l e (rmK 4 100 0 0) s m args below meth c H locs 0 0 (RwQv below args s D A (fun q (σ : StM) => (wM cI cZ a q σ)) res 0 0) (F0 m 32 ls []))  {q : Nat} {σ : StM} {x1 x2 t1 : Int32} (h : f_M_reckonBelow_113 k22 k32 σ x1 x2 t1 = some res) {H : Heap} {locs : List Loc} (hP : va_P D vwCl (wM cI cZ a q σ) H) (hD : va_D A (wM cI cZ a q σ)) (hS : va_S A s.heap H locs) {ls : Array Slot} (hl : lv_has ls 3 [(0, .ref (a 20)), (1, .int x1), (2, .int x2)]) : W p l e (rmK 4 100 0 0) s m args below meth c H locs 0 0 (RwQv below args s D A (fun q (σ : StM) => (wM cI cZ a q σ)) res 0 0) (F0 m 113 ls [.int t1, .ref (a 35)]) := by
  obtain ⟨hx, hb, hr, hml, hown, hts, hlk, hK⟩ := id C0
  unfold f_M_reckonBelow_113 at h
  refine lv_iconst (v := 1) hx hb d_M_reckonBelow_113 (by decide) ?_
  refine lv_goto (tgt := 118) hx hb d_M_reckonBelow_114 (by decide) ?_
  replace h := gd h
  obtain ⟨hi, h⟩ := h
  refine rw_zast C0 hP hD hS 15 1 rfl rfl hi d_M_reckonBelow_118 (Wn := (wM cI cZ a q (M_put_below σ t1 (vp_nar .boolean 1)))) ws_M_put_below (fun H locs hP hD hS => ?_)
  refine lv_iinc (v := (x2 + 1)) (lv' := [(2, .int (x2 + 1)), (0, .ref (a 20)), (1, .int x1)]) hx hb d_M_reckonBelow_119 hl (k := 2) rfl rfl (by decide) rfl (fun ls hl => ?_)
  refine lv_goto (tgt := 32) hx hb d_M_reckonBelow_122 (by decide) ?_
  exact hk32 _ _ _ _ _ _ _ h hP hD hS (lv_sub hl [1, 2, 0] rfl)
set_option maxHeartbeats 4000000 in
set_option maxRecDepth 100000 in
theorem t_M_reckonBelow_94 {p : Program} {l : Launch} {e : Env} {s : State} {m : MethodId} {args : Array Value} {below : List Frame} {meth : Method} {c : Code} {D : va_G} {cI cZ : ClassId} {a : Nat → Nat} {A : Nat → Prop} (C0 : Am p s m args meth c b_M_reckonBelow none 3 R_M D [(cI, .int), (cZ, .boolean)]) (hA : ∀ q, s.heap.size ≤ q → A q) {res : Int32 × StM} {k22 : StM → Int32 → Option (Int32 × StM)} {k32 : StM → Int32 → Int32 → Option (Int32 × StM)} (hk22 : ∀ (q : Nat) (σ : StM) (x1 : Int32) (H : Heap) (locs : List Loc) (ls : Array Slot), k22 σ x1 = some res → va_P D vwCl (wM cI cZ a q σ) H → va_D A (wM cI cZ a q σ) → va_S A s.heap H locs → lv_has ls 3 [(0, .ref (a 20)), (1, .int x1)] → W p l e (rmK 4 100 0 0) s m args below meth c H locs 0 0 (RwQv below args s D A (fun q (σ : StM) => (wM cI cZ a q σ)) res 0 0) (F0 m 22 ls [])) (hk32 : ∀ (q : Nat) (σ : StM) (x1 x2 : Int32) (H : Heap) (locs : List Loc) (ls : Array Slot), k32 σ x1 x2 = some res → va_P D vwCl (wM cI cZ a q σ) H → va_D A (wM cI cZ a q σ) → va_S A s.heap H locs → lv_has ls 3 [(0, .ref (a 20)), (1, .int x1), (2, .int x2)] → W p l e (rmK 4 100 0 0) s m args below meth c H locs 0 0 (RwQv below args s D A (fun q (σ : StM) => (wM cI cZ a q σ)) res 0 0) (F0 m 32 ls []))  {q : Nat} {σ : StM} {x1 x2 t1 : Int32} (h : f_M_reckonBelow_94 k22 k32 σ x1 x2 t1 = some res) {H : Heap} {locs : List Loc} (hP : va_P D vwCl (wM cI cZ a q σ) H) (hD : va_D A (wM cI cZ a q σ)) (hS : va_S A s.heap H locs) {ls : Array Slot} (hl : lv_has ls 3 [(0, .ref (a 20)), (1, .int x1), (2, .int x2)]) : W p l e (rmK 4 100 0 0) s m args below meth c H locs 0 0 (RwQv below args s D A (fun q (σ : StM) => (wM cI cZ a q σ)) res 0 0) (F0 m 94 ls [.int t1, .ref (a 35)]) := by
  obtain ⟨hx, hb, hr, hml, hown, hts, hlk, hK⟩ := id C0
  unfold f_M_reckonBelow_94 at h
  refine lv_aload_n hx hb d_M_reckonBelow_94 rfl (lv_at hl 0 rfl) ?_
  refine va_get (ci := 4) (v := .ref (a 27)) (C := R_M) (T := F_M) (N := 35) hx hb hts i_M hown hK.1 hP 0 rfl rfl 11 (by decide) (hts _ wd_353) (fun _ h9 => h9) rfl d_M_reckonBelow_95 ?_
  refine lv_iload_n hx hb d_M_reckonBelow_98 rfl (lv_at hl 1 rfl) ?_
  replace h := gd h
  obtain ⟨hi, h⟩ := h
  refine va_iald hx hb hK.1 hP 7 0 rfl rfl hi d_M_reckonBelow_99 ?_
  refine lv_iconst (v := 2) hx hb d_M_reckonBelow_100 (by decide) ?_
  refine lv_icmp_ne (tgt := 117) hx hb d_M_reckonBelow_101 (by decide) (fun hc => ?_) (fun hc => ?_)
  · rw [if_neg hc] at h
    refine lv_iconst (v := 0) hx hb d_M_reckonBelow_117 (by decide) ?_
    replace h := gd h
    obtain ⟨hi, h⟩ := h
    refine rw_zast C0 hP hD hS 15 1 rfl rfl hi d_M_reckonBelow_118 (Wn := (wM cI cZ a q (M_put_below σ t1 (vp_nar .boolean 0)))) ws_M_put_below (fun H locs hP hD hS => ?_)
    refine lv_iinc (v := (x2 + 1)) (lv' := [(2, .int (x2 + 1)), (0, .ref (a 20)), (1, .int x1)]) hx hb d_M_reckonBelow_119 hl (k := 2) rfl rfl (by decide) rfl (fun ls hl => ?_)
    refine lv_goto (tgt := 32) hx hb d_M_reckonBelow_122 (by decide) ?_
    exact hk32 _ _ _ _ _ _ _ h hP hD hS (lv_sub hl [1, 2, 0] rfl)
  · rw [if_pos hc] at h
    refine lv_aload_n hx hb d_M_reckonBelow_104 rfl (lv_at hl 0 rfl) ?_
    refine lv_iload_n hx hb d_M_reckonBelow_105 rfl (lv_at hl 2 rfl) ?_
    refine lv_iload_n hx hb d_M_reckonBelow_106 rfl (lv_at hl 1 rfl) ?_
    replace h := bd h
    obtain ⟨r1, g1, h⟩ := h
    refine ro_V (n := 2) (ci := 4) (As := [.int x2, .int x1]) (rest := [.int t1, .ref (a 35)]) C0 (c_M_isBelowArray l D cI cZ a q σ x2 x1 g1) wd_376 ⟨wd_377, wd_378, wd_379, wd_352⟩ (by decide +kernel) ⟨Nat.le_of_ble_eq_true rfl, Nat.le_of_ble_eq_true rfl⟩ hP rfl rfl rfl hl rfl rfl (Nat.le_of_ble_eq_true rfl) ⟨Nat.zero_le _, Nat.zero_le _⟩ d_M_reckonBelow_107 ?_
    try dsimp only at h
    refine lv_if_eq (tgt := 117) hx hb d_M_reckonBelow_110 (by decide) (fun hc => ?_) (fun hc => ?_)
    · rw [if_pos hc] at h
      refine lv_iconst (v := 0) hx hb d_M_reckonBelow_117 (by decide) ?_
      replace h := gd h
      obtain ⟨hi, h⟩ := h
      refine rw_zast C0 hP hD hS 15 1 rfl rfl hi d_M_reckonBelow_118 (Wn := (wM cI cZ a q (M_put_below σ t1 (vp_nar .boolean 0)))) ws_M_put_below (fun H locs hP hD hS => ?_)
      refine lv_iinc (v := (x2 + 1)) (lv' := [(2, .int (x2 + 1)), (0, .ref (a 20)), (1, .int x1)]) hx hb d_M_reckonBelow_119 hl (k := 2) rfl rfl (by decide) rfl (fun ls hl => ?_)
      refine lv_goto (tgt := 32) hx hb d_M_reckonBelow_122 (by decide) ?_
      exact hk32 _ _ _ _ _ _ _ h hP hD hS (lv_sub hl [1, 2, 0] rfl)
    · rw [if_neg hc] at h
      exact t_M_reckonBelow_113 (a := a) C0 hA hk22 hk32 h hP hD hS (lv_sub hl [0, 1, 2] rfl)
set_option maxHeartbeats 4000000 in
set_option maxRecDepth 100000 in
theorem t_M_reckonBelow_75 {p : Program} {l : Launch} {e : Env} {s : State} {m : MethodId} {args : Array Value} {below : List Frame} {meth : Method} {c : Code} {D : va_G} {cI cZ : ClassId} {a : Nat → Nat} {A : Nat → Prop} (C0 : Am p s m args meth c b_M_reckonBelow none 3 R_M D [(cI, .int), (cZ, .boolean)]) (hA : ∀ q, s.heap.size ≤ q → A q) {res : Int32 × StM} {k22 : StM → Int32 → Option (Int32 × StM)} {k32 : StM → Int32 → Int32 → Option (Int32 × StM)} (hk22 : ∀ (q : Nat) (σ : StM) (x1 : Int32) (H : Heap) (locs : List Loc) (ls : Array Slot), k22 σ x1 = some res → va_P D vwCl (wM cI cZ a q σ) H → va_D A (wM cI cZ a q σ) → va_S A s.heap H locs → lv_has ls 3 [(0, .ref (a 20)), (1, .int x1)] → W p l e (rmK 4 100 0 0) s m args below meth c H locs 0 0 (RwQv below args s D A (fun q (σ : StM) => (wM cI cZ a q σ)) res 0 0) (F0 m 22 ls [])) (hk32 : ∀ (q : Nat) (σ : StM) (x1 x2 : Int32) (H : Heap) (locs : List Loc) (ls : Array Slot), k32 σ x1 x2 = some res → va_P D vwCl (wM cI cZ a q σ) H → va_D A (wM cI cZ a q σ) → va_S A s.heap H locs → lv_has ls 3 [(0, .ref (a 20)), (1, .int x1), (2, .int x2)] → W p l e (rmK 4 100 0 0) s m args below meth c H locs 0 0 (RwQv below args s D A (fun q (σ : StM) => (wM cI cZ a q σ)) res 0 0) (F0 m 32 ls []))  {q : Nat} {σ : StM} {x1 x2 t1 : Int32} (h : f_M_reckonBelow_75 k22 k32 σ x1 x2 t1 = some res) {H : Heap} {locs : List Loc} (hP : va_P D vwCl (wM cI cZ a q σ) H) (hD : va_D A (wM cI cZ a q σ)) (hS : va_S A s.heap H locs) {ls : Array Slot} (hl : lv_has ls 3 [(0, .ref (a 20)), (1, .int x1), (2, .int x2)]) : W p l e (rmK 4 100 0 0) s m args below meth c H locs 0 0 (RwQv below args s D A (fun q (σ : StM) => (wM cI cZ a q σ)) res 0 0) (F0 m 75 ls [.int t1, .ref (a 35)]) := by
  obtain ⟨hx, hb, hr, hml, hown, hts, hlk, hK⟩ := id C0
  unfold f_M_reckonBelow_75 at h
  refine lv_aload_n hx hb d_M_reckonBelow_75 rfl (lv_at hl 0 rfl) ?_
  refine va_get (ci := 4) (v := .ref (a 27)) (C := R_M) (T := F_M) (N := 35) hx hb hts i_M hown hK.1 hP 0 rfl rfl 11 (by decide) (hts _ wd_353) (fun _ h9 => h9) rfl d_M_reckonBelow_76 ?_
  refine lv_iload_n hx hb d_M_reckonBelow_79 rfl (lv_at hl 1 rfl) ?_
  replace h := gd h
  obtain ⟨hi, h⟩ := h
  refine va_iald hx hb hK.1 hP 7 0 rfl rfl hi d_M_reckonBelow_80 ?_
  refine lv_iconst (v := 1) hx hb d_M_reckonBelow_81 (by decide) ?_
  refine lv_icmp_ne (tgt := 94) hx hb d_M_reckonBelow_82 (by decide) (fun hc => ?_) (fun hc => ?_)
  · rw [if_neg hc] at h
    exact t_M_reckonBelow_94 (a := a) C0 hA hk22 hk32 h hP hD hS (lv_sub hl [0, 1, 2] rfl)
  · rw [if_pos hc] at h
    refine lv_aload_n hx hb d_M_reckonBelow_85 rfl (lv_at hl 0 rfl) ?_
    refine lv_iload_n hx hb d_M_reckonBelow_86 rfl (lv_at hl 2 rfl) ?_
    refine lv_iload_n hx hb d_M_reckonBelow_87 rfl (lv_at hl 1 rfl) ?_
    replace h := bd h
    obtain ⟨r2, g2, h⟩ := h
    refine rw_V (n := 2) (ci := 4) (As := [.int x2, .int x1]) (rest := [.int t1, .ref (a 35)]) (Wn := fun _ => (wM cI cZ a q r2.2)) C0 hA (c_M_isBelowNamed l D cI cZ a q σ x2 x1 g2) wd_380 ⟨wd_381, wd_382, wd_383, wd_352⟩ (by decide +kernel) ⟨Nat.le_of_ble_eq_true rfl, Nat.le_of_ble_eq_true rfl⟩ hP hD hS [0, 1, 2, 3, 4, 5, 6, 7, 8, 9, 10, 11, 12, 13, 14, 15, 16, 17, 18, 19, 20, 21, 22, 23] [] [0, 1, 2, 3, 4, 5, 6, 7, 8, 9, 10, 11, 12, 13, 14, 15, 16, 17, 18, 19, 20, 21, 22, 23] jn_M__C (by decide) jn_M__R (by decide) (by decide) (by decide) jn_M__W rfl rfl rfl hl rfl rfl (Nat.le_of_ble_eq_true rfl) ⟨Nat.zero_le _, Nat.zero_le _⟩ d_M_reckonBelow_88 (fun H locs _ hP hD hS => ?_)
    try dsimp only at h
    refine lv_if_ne (tgt := 113) hx hb d_M_reckonBelow_91 (by decide) (fun hc => ?_) (fun hc => ?_)
    · rw [if_neg hc] at h
      exact t_M_reckonBelow_113 (a := a) C0 hA hk22 hk32 h hP hD hS (lv_sub hl [0, 1, 2] rfl)
    · rw [if_pos hc] at h
      exact t_M_reckonBelow_94 (a := a) C0 hA hk22 hk32 h hP hD hS (lv_sub hl [0, 1, 2] rfl)
set_option maxHeartbeats 4000000 in
set_option maxRecDepth 100000 in
theorem t_M_reckonBelow_32_s {p : Program} {l : Launch} {e : Env} {s : State} {m : MethodId} {args : Array Value} {below : List Frame} {meth : Method} {c : Code} {D : va_G} {cI cZ : ClassId} {a : Nat → Nat} {A : Nat → Prop} (C0 : Am p s m args meth c b_M_reckonBelow none 3 R_M D [(cI, .int), (cZ, .boolean)]) (hA : ∀ q, s.heap.size ≤ q → A q) {res : Int32 × StM} {k22 : StM → Int32 → Option (Int32 × StM)} {k32 : StM → Int32 → Int32 → Option (Int32 × StM)} (hk22 : ∀ (q : Nat) (σ : StM) (x1 : Int32) (H : Heap) (locs : List Loc) (ls : Array Slot), k22 σ x1 = some res → va_P D vwCl (wM cI cZ a q σ) H → va_D A (wM cI cZ a q σ) → va_S A s.heap H locs → lv_has ls 3 [(0, .ref (a 20)), (1, .int x1)] → W p l e (rmK 4 100 0 0) s m args below meth c H locs 0 0 (RwQv below args s D A (fun q (σ : StM) => (wM cI cZ a q σ)) res 0 0) (F0 m 22 ls [])) (hk32 : ∀ (q : Nat) (σ : StM) (x1 x2 : Int32) (H : Heap) (locs : List Loc) (ls : Array Slot), k32 σ x1 x2 = some res → va_P D vwCl (wM cI cZ a q σ) H → va_D A (wM cI cZ a q σ) → va_S A s.heap H locs → lv_has ls 3 [(0, .ref (a 20)), (1, .int x1), (2, .int x2)] → W p l e (rmK 4 100 0 0) s m args below meth c H locs 0 0 (RwQv below args s D A (fun q (σ : StM) => (wM cI cZ a q σ)) res 0 0) (F0 m 32 ls [])) {q : Nat} {σ : StM} {x1 x2 : Int32} (h : f_M_reckonBelow_32_s k22 k32 σ x1 x2 = some res) {H : Heap} {locs : List Loc} (hP : va_P D vwCl (wM cI cZ a q σ) H) (hD : va_D A (wM cI cZ a q σ)) (hS : va_S A s.heap H locs) {ls : Array Slot} (hl : lv_has ls 3 [(0, .ref (a 20)), (1, .int x1), (2, .int x2)]) : W p l e (rmK 4 100 0 0) s m args below meth c H locs 0 0 (RwQv below args s D A (fun q (σ : StM) => (wM cI cZ a q σ)) res 0 0) (F0 m 32 ls []) := by
  obtain ⟨hx, hb, hr, hml, hown, hts, hlk, hK⟩ := id C0
  unfold f_M_reckonBelow_32_s at h
  refine lv_iload_n hx hb d_M_reckonBelow_32 rfl (lv_at hl 2 rfl) ?_
  refine lv_aload_n hx hb d_M_reckonBelow_33 rfl (lv_at hl 0 rfl) ?_
  refine va_get (ci := 4) (v := .int (M_types σ)) (C := R_M) (T := F_M) (N := 35) hx hb hts i_M hown hK.1 hP 0 rfl rfl 10 (by decide) (hts _ wd_344) (fun _ h9 => h9) rfl d_M_reckonBelow_34 ?_
  refine lv_icmp_ge (tgt := 125) hx hb d_M_reckonBelow_37 (by decide) (fun hc => ?_) (fun hc => ?_)
  · rw [if_pos hc] at h
    refine lv_iinc (v := (x1 + 1)) (lv' := [(1, .int (x1 + 1)), (0, .ref (a 20)), (2, .int x2)]) hx hb d_M_reckonBelow_125 hl (k := 1) rfl rfl (by decide) rfl (fun ls hl => ?_)
    refine lv_goto (tgt := 22) hx hb d_M_reckonBelow_128 (by decide) ?_
    exact hk22 _ _ _ _ _ _ h hP hD hS (lv_sub hl [1, 0] rfl)
  · rw [if_neg hc] at h
    refine lv_aload_n hx hb d_M_reckonBelow_40 rfl (lv_at hl 0 rfl) ?_
    refine va_get (ci := 4) (v := .ref (a 35)) (C := R_M) (T := F_M) (N := 35) hx hb hts i_M hown hK.1 hP 0 rfl rfl 23 (by decide) (hts _ wd_370) (fun _ h9 => h9) rfl d_M_reckonBelow_41 ?_
    refine lv_sipush (v := 300) hx hb d_M_reckonBelow_44 (by decide) ?_
    refine lv_iload_n hx hb d_M_reckonBelow_47 rfl (lv_at hl 2 rfl) ?_
    refine lv_imul hx hb d_M_reckonBelow_48 ?_
    refine lv_iload_n hx hb d_M_reckonBelow_49 rfl (lv_at hl 1 rfl) ?_
    refine lv_iadd hx hb d_M_reckonBelow_50 ?_
    refine lv_iload_n hx hb d_M_reckonBelow_51 rfl (lv_at hl 2 rfl) ?_
    refine lv_iload_n hx hb d_M_reckonBelow_52 rfl (lv_at hl 1 rfl) ?_
    refine lv_icmp_eq (tgt := 113) hx hb d_M_reckonBelow_53 (by decide) (fun hc => ?_) (fun hc => ?_)
    · rw [if_pos hc] at h
      exact t_M_reckonBelow_113 (a := a) C0 hA hk22 hk32 h hP hD hS (lv_sub hl [0, 1, 2] rfl)
    · rw [if_neg hc] at h
      refine lv_aload_n hx hb d_M_reckonBelow_56 rfl (lv_at hl 0 rfl) ?_
      refine va_get (ci := 4) (v := .ref (a 27)) (C := R_M) (T := F_M) (N := 35) hx hb hts i_M hown hK.1 hP 0 rfl rfl 11 (by decide) (hts _ wd_353) (fun _ h9 => h9) rfl d_M_reckonBelow_57 ?_
      refine lv_iload_n hx hb d_M_reckonBelow_60 rfl (lv_at hl 1 rfl) ?_
      replace h := gd h
      obtain ⟨hi, h⟩ := h
      refine va_iald hx hb hK.1 hP 7 0 rfl rfl hi d_M_reckonBelow_61 ?_
      refine lv_iconst (v := 3) hx hb d_M_reckonBelow_62 (by decide) ?_
      refine lv_icmp_ne (tgt := 75) hx hb d_M_reckonBelow_63 (by decide) (fun hc => ?_) (fun hc => ?_)
      · rw [if_neg hc] at h
        exact t_M_reckonBelow_75 (a := a) C0 hA hk22 hk32 h hP hD hS (lv_sub hl [0, 1, 2] rfl)
      · rw [if_pos hc] at h
        refine lv_aload_n hx hb d_M_reckonBelow_66 rfl (lv_at hl 0 rfl) ?_
        refine lv_iload_n hx hb d_M_reckonBelow_67 rfl (lv_at hl 2 rfl) ?_
        refine lv_iload_n hx hb d_M_reckonBelow_68 rfl (lv_at hl 1 rfl) ?_
        replace h := bd h
        obtain ⟨r3, g3, h⟩ := h
        refine ro_V (n := 2) (ci := 4) (As := [.int x2, .int x1]) (rest := [.int ((300 * x2) + x1), .ref (a 35)]) C0 (c_M_isBelowAll l D cI cZ a q σ x2 x1 g3) wd_384 ⟨wd_385, wd_386, wd_387, wd_352⟩ (by decide +kernel) ⟨Nat.le_of_ble_eq_true rfl, Nat.le_of_ble_eq_true rfl⟩ hP rfl rfl rfl hl rfl rfl (Nat.le_of_ble_eq_true rfl) ⟨Nat.zero_le _, Nat.zero_le _⟩ d_M_reckonBelow_69 ?_
        try dsimp only at h
        refine lv_if_ne (tgt := 113) hx hb d_M_reckonBelow_72 (by decide) (fun hc => ?_) (fun hc => ?_)
        · rw [if_neg hc] at h
          exact t_M_reckonBelow_113 (a := a) C0 hA hk22 hk32 h hP hD hS (lv_sub hl [0, 1, 2] rfl)
        · rw [if_pos hc] at h
          exact t_M_reckonBelow_75 (a := a) C0 hA hk22 hk32 h hP hD hS (lv_sub hl [0, 1, 2] rfl)
set_option maxHeartbeats 4000000 in
set_option maxRecDepth 100000 in
theorem t_M_reckonBelow_32 {p : Program} {l : Launch} {e : Env} {s : State} {m : MethodId} {args : Array Value} {below : List Frame} {meth : Method} {c : Code} {D : va_G} {cI cZ : ClassId} {a : Nat → Nat} {A : Nat → Prop} (C0 : Am p s m args meth c b_M_reckonBelow none 3 R_M D [(cI, .int), (cZ, .boolean)]) (hA : ∀ q, s.heap.size ≤ q → A q) {res : Int32 × StM} {k22 : StM → Int32 → Option (Int32 × StM)} (hk22 : ∀ (q : Nat) (σ : StM) (x1 : Int32) (H : Heap) (locs : List Loc) (ls : Array Slot), k22 σ x1 = some res → va_P D vwCl (wM cI cZ a q σ) H → va_D A (wM cI cZ a q σ) → va_S A s.heap H locs → lv_has ls 3 [(0, .ref (a 20)), (1, .int x1)] → W p l e (rmK 4 100 0 0) s m args below meth c H locs 0 0 (RwQv below args s D A (fun q (σ : StM) => (wM cI cZ a q σ)) res 0 0) (F0 m 22 ls [])) {n : Nat} {q : Nat} {σ : StM} {x1 x2 : Int32} (h : f_M_reckonBelow_32 k22 n σ x1 x2 = some res) {H : Heap} {locs : List Loc} (hP : va_P D vwCl (wM cI cZ a q σ) H) (hD : va_D A (wM cI cZ a q σ)) (hS : va_S A s.heap H locs) {ls : Array Slot} (hl : lv_has ls 3 [(0, .ref (a 20)), (1, .int x1), (2, .int x2)]) : W p l e (rmK 4 100 0 0) s m args below meth c H locs 0 0 (RwQv below args s D A (fun q (σ : StM) => (wM cI cZ a q σ)) res 0 0) (F0 m 32 ls []) := by
  induction n generalizing q σ x1 x2 H locs ls with
  | zero => cases h
  | succ n ih => exact t_M_reckonBelow_32_s (a := a) C0 hA hk22 (fun _ _ _ _ _ _ _ h hP hD hS hl => ih h hP hD hS hl) h hP hD hS hl
set_option maxHeartbeats 4000000 in
set_option maxRecDepth 100000 in
theorem t_M_reckonBelow_22_s {p : Program} {l : Launch} {e : Env} {s : State} {m : MethodId} {args : Array Value} {below : List Frame} {meth : Method} {c : Code} {D : va_G} {cI cZ : ClassId} {a : Nat → Nat} {A : Nat → Prop} (C0 : Am p s m args meth c b_M_reckonBelow none 3 R_M D [(cI, .int), (cZ, .boolean)]) (hA : ∀ q, s.heap.size ≤ q → A q) {res : Int32 × StM} {k22 : StM → Int32 → Option (Int32 × StM)}  (hk22 : ∀ (q : Nat) (σ : StM) (x1 : Int32) (H : Heap) (locs : List Loc) (ls : Array Slot), k22 σ x1 = some res → va_P D vwCl (wM cI cZ a q σ) H → va_D A (wM cI cZ a q σ) → va_S A s.heap H locs → lv_has ls 3 [(0, .ref (a 20)), (1, .int x1)] → W p l e (rmK 4 100 0 0) s m args below meth c H locs 0 0 (RwQv below args s D A (fun q (σ : StM) => (wM cI cZ a q σ)) res 0 0) (F0 m 22 ls [])) {q : Nat} {σ : StM} {x1 : Int32} (h : f_M_reckonBelow_22_s k22 σ x1 = some res) {H : Heap} {locs : List Loc} (hP : va_P D vwCl (wM cI cZ a q σ) H) (hD : va_D A (wM cI cZ a q σ)) (hS : va_S A s.heap H locs) {ls : Array Slot} (hl : lv_has ls 3 [(0, .ref (a 20)), (1, .int x1)]) : W p l e (rmK 4 100 0 0) s m args below meth c H locs 0 0 (RwQv below args s D A (fun q (σ : StM) => (wM cI cZ a q σ)) res 0 0) (F0 m 22 ls []) := by
  obtain ⟨hx, hb, hr, hml, hown, hts, hlk, hK⟩ := id C0
  unfold f_M_reckonBelow_22_s at h
  refine lv_iload_n hx hb d_M_reckonBelow_22 rfl (lv_at hl 1 rfl) ?_
  refine lv_aload_n hx hb d_M_reckonBelow_23 rfl (lv_at hl 0 rfl) ?_
  refine va_get (ci := 4) (v := .int (M_types σ)) (C := R_M) (T := F_M) (N := 35) hx hb hts i_M hown hK.1 hP 0 rfl rfl 10 (by decide) (hts _ wd_344) (fun _ h9 => h9) rfl d_M_reckonBelow_24 ?_
  refine lv_icmp_ge (tgt := 131) hx hb d_M_reckonBelow_27 (by decide) (fun hc => ?_) (fun hc => ?_)
  · rw [if_pos hc] at h
    exact rw_retv C0 hP hD hS (Option.some.inj h) d_M_reckonBelow_131
  · rw [if_neg hc] at h
    refine lv_iconst (v := 0) hx hb d_M_reckonBelow_30 (by decide) ?_
    refine lv_istore_n (lv' := [(2, .int 0), (0, .ref (a 20)), (1, .int x1)]) hx hb d_M_reckonBelow_31 rfl hl (by decide) rfl (fun ls hl => ?_)
    exact t_M_reckonBelow_32 (a := a) C0 hA hk22 h hP hD hS (lv_sub hl [1, 2, 0] rfl)
set_option maxHeartbeats 4000000 in
set_option maxRecDepth 100000 in
theorem t_M_reckonBelow_22 {p : Program} {l : Launch} {e : Env} {s : State} {m : MethodId} {args : Array Value} {below : List Frame} {meth : Method} {c : Code} {D : va_G} {cI cZ : ClassId} {a : Nat → Nat} {A : Nat → Prop} (C0 : Am p s m args meth c b_M_reckonBelow none 3 R_M D [(cI, .int), (cZ, .boolean)]) (hA : ∀ q, s.heap.size ≤ q → A q) {res : Int32 × StM}  {n : Nat} {q : Nat} {σ : StM} {x1 : Int32} (h : f_M_reckonBelow_22  n σ x1 = some res) {H : Heap} {locs : List Loc} (hP : va_P D vwCl (wM cI cZ a q σ) H) (hD : va_D A (wM cI cZ a q σ)) (hS : va_S A s.heap H locs) {ls : Array Slot} (hl : lv_has ls 3 [(0, .ref (a 20)), (1, .int x1)]) : W p l e (rmK 4 100 0 0) s m args below meth c H locs 0 0 (RwQv below args s D A (fun q (σ : StM) => (wM cI cZ a q σ)) res 0 0) (F0 m 22 ls []) := by
  induction n generalizing q σ x1 H locs ls with
  | zero => cases h
  | succ n ih => exact t_M_reckonBelow_22_s (a := a) C0 hA  (fun _ _ _ _ _ _ h hP hD hS hl => ih h hP hD hS hl) h hP hD hS hl
set_option maxHeartbeats 4000000 in
set_option maxRecDepth 100000 in
theorem t_M_reckonBelow_0 {p : Program} {l : Launch} {e : Env} {s : State} {m : MethodId} {args : Array Value} {below : List Frame} {meth : Method} {c : Code} {D : va_G} {cI cZ : ClassId} {a : Nat → Nat} {A : Nat → Prop} (C0 : Am p s m args meth c b_M_reckonBelow none 3 R_M D [(cI, .int), (cZ, .boolean)]) (hA : ∀ q, s.heap.size ≤ q → A q) {res : Int32 × StM}   {q : Nat} {σ : StM} (h : f_M_reckonBelow σ = some res) {H : Heap} {locs : List Loc} (hP : va_P D vwCl (wM cI cZ a q σ) H) (hD : va_D A (wM cI cZ a q σ)) (hS : va_S A s.heap H locs) {ls : Array Slot} (hl : lv_has ls 3 [(0, .ref (a 20))]) : W p l e (rmK 4 100 0 0) s m args below meth c H locs 0 0 (RwQv below args s D A (fun q (σ : StM) => (wM cI cZ a q σ)) res 0 0) (F0 m 0 ls []) := by
  obtain ⟨hx, hb, hr, hml, hown, hts, hlk, hK⟩ := id C0
  unfold f_M_reckonBelow at h
  refine lv_aload_n hx hb d_M_reckonBelow_0 rfl (lv_at hl 0 rfl) ?_
  refine va_get (ci := 4) (v := .int (M_reckoned σ)) (C := R_M) (T := F_M) (N := 35) hx hb hts i_M hown hK.1 hP 0 rfl rfl 24 (by decide) (hts _ wd_375) (fun _ h9 => h9) rfl d_M_reckonBelow_1 ?_
  refine lv_aload_n hx hb d_M_reckonBelow_4 rfl (lv_at hl 0 rfl) ?_
  refine va_get (ci := 4) (v := .int (M_types σ)) (C := R_M) (T := F_M) (N := 35) hx hb hts i_M hown hK.1 hP 0 rfl rfl 10 (by decide) (hts _ wd_344) (fun _ h9 => h9) rfl d_M_reckonBelow_5 ?_
  refine lv_icmp_ne (tgt := 12) hx hb d_M_reckonBelow_8 (by decide) (fun hc => ?_) (fun hc => ?_)
  · rw [if_neg hc] at h
    refine lv_aload_n hx hb d_M_reckonBelow_12 rfl (lv_at hl 0 rfl) ?_
    refine lv_aload_n hx hb d_M_reckonBelow_13 rfl (lv_at hl 0 rfl) ?_
    refine va_get (ci := 4) (v := .int (M_types σ)) (C := R_M) (T := F_M) (N := 35) hx hb hts i_M hown hK.1 hP 0 rfl rfl 10 (by decide) (hts _ wd_344) (fun _ h9 => h9) rfl d_M_reckonBelow_14 ?_
    refine rw_put (v := .int (M_types σ)) (fty := .int) (C := R_M) (T := F_M) (N := 35) C0 hP hD hS i_M ty_M tyok_M nn_M 0 rfl rfl 24 (by decide) (hts _ wd_375) rfl rfl (by decide +kernel) rfl rfl (Nat.le_of_ble_eq_true rfl) d_M_reckonBelow_17 (Wn := (wM cI cZ a q (M_set_reckoned σ (M_types σ)))) ws_M_set_reckoned (fun H locs hP hD hS => ?_)
    refine lv_iconst (v := 0) hx hb d_M_reckonBelow_20 (by decide) ?_
    refine lv_istore_n (lv' := [(1, .int 0), (0, .ref (a 20))]) hx hb d_M_reckonBelow_21 rfl hl (by decide) rfl (fun ls hl => ?_)
    exact t_M_reckonBelow_22 (a := a) C0 hA  h hP hD hS (lv_sub hl [1, 0] rfl)
  · rw [if_pos hc] at h
    exact rw_retv C0 hP hD hS (Option.some.inj h) d_M_reckonBelow_11
set_option maxHeartbeats 4000000 in
set_option maxRecDepth 100000 in
theorem c_M_reckonBelow (l : Launch) (D : va_G) (cI cZ : ClassId) (a : Nat → Nat) (q : Nat) (σ : StM) {res : Int32 × StM} (h : f_M_reckonBelow σ = some res) : RwMv l y_M_reckonBelow b_M_reckonBelow 3 4 100 D [(cI, .int), (cZ, .boolean)] [.ref (a 20)] (fun q (σ : StM) => (wM cI cZ a q σ)) q σ res :=
  rw_ofv (by decide) (Nat.le_of_ble_eq_true rfl) (fun p e s m args below meth c ls A C0 hA hP hD hS hl => t_M_reckonBelow_0 (a := a) C0 hA h hP hD hS (lv_sub hl [0] rfl))
