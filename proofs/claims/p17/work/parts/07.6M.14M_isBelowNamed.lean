def f_M_isBelowNamed_158 (k27 : StM → Int32 → Int32 → Int32 → Int32 → Int32 → Option (Int32 × StM)) (σ : StM) (x1 x2 x4 x5 : Int32) : Option (Int32 × StM) :=
  k27 σ x1 x2 1 x4 (x5 + 1)
def f_M_isBelowNamed_125 (k27 : StM → Int32 → Int32 → Int32 → Int32 → Int32 → Option (Int32 × StM)) (σ : StM) (x1 x2 x4 x5 : Int32) : Option (Int32 × StM) :=
  if x2 < 0 ∨ 300 ≤ x2.toNatClampNeg then none else
  if ((M_how σ) x2.toNatClampNeg) = 2 then
    if x2 < 0 ∨ 300 ≤ x2.toNatClampNeg then none else
    if ((300 * (M_foundType σ)) + ((M_inner σ) x2.toNatClampNeg)) < 0 ∨ 90000 ≤ ((300 * (M_foundType σ)) + ((M_inner σ) x2.toNatClampNeg)).toNatClampNeg then none else
    if ((M_below σ) ((300 * (M_foundType σ)) + ((M_inner σ) x2.toNatClampNeg)).toNatClampNeg) = 0 then
      k27 σ x1 x2 0 x4 (x5 + 1)
    else
      f_M_isBelowNamed_158 k27 σ x1 x2 x4 x5
  else
    k27 σ x1 x2 0 x4 (x5 + 1)
def f_M_isBelowNamed_64 (k27 : StM → Int32 → Int32 → Int32 → Int32 → Int32 → Option (Int32 × StM)) (σ : StM) (x1 x2 x4 x5 t0 : Int32) : Option (Int32 × StM) :=
  if x2 < 0 ∨ 300 ≤ x2.toNatClampNeg then none else
  (f_M_lookAt σ t0 ((M_classOf σ) x2.toNatClampNeg)).bind fun r1 =>
  if (M_found r1.2) = 0 then
    k27 r1.2 x1 x2 0 x4 (x5 + 1)
  else
    if x2 < 0 ∨ 300 ≤ x2.toNatClampNeg then none else
    if ((M_how r1.2) x2.toNatClampNeg) = 0 then
      f_M_isBelowNamed_158 k27 r1.2 x1 x2 x4 x5
    else
      if x2 < 0 ∨ 300 ≤ x2.toNatClampNeg then none else
      if ((M_how r1.2) x2.toNatClampNeg) = 1 then
        if (M_foundHow r1.2) = 1 then
          if x2 < 0 ∨ 300 ≤ x2.toNatClampNeg then none else
          if (M_foundType r1.2) = ((M_inner r1.2) x2.toNatClampNeg) then
            f_M_isBelowNamed_158 k27 r1.2 x1 x2 x4 x5
          else
            f_M_isBelowNamed_125 k27 r1.2 x1 x2 x4 x5
        else
          f_M_isBelowNamed_125 k27 r1.2 x1 x2 x4 x5
      else
        f_M_isBelowNamed_125 k27 r1.2 x1 x2 x4 x5
def f_M_isBelowNamed_27_s (k27 : StM → Int32 → Int32 → Int32 → Int32 → Int32 → Option (Int32 × StM)) (σ : StM) (x1 x2 x3 x4 x5 : Int32) : Option (Int32 × StM) :=
  if x4 ≤ x5 then
    some ((x3 &&& 1), σ)
  else
    if x3 = 0 then
      if x1 < 0 ∨ 300 ≤ x1.toNatClampNeg then none else
      if ((M_kind σ) x1.toNatClampNeg) = 3 then
        if ((30 * x1) + x5) < 0 ∨ 9000 ≤ ((30 * x1) + x5).toNatClampNeg then none else
        f_M_isBelowNamed_64 k27 σ x1 x2 x4 x5 ((M_partRow σ) ((30 * x1) + x5).toNatClampNeg)
      else
        f_M_isBelowNamed_64 k27 σ x1 x2 x4 x5 x1
    else
      some ((x3 &&& 1), σ)
def f_M_isBelowNamed_27 : Nat → StM → Int32 → Int32 → Int32 → Int32 → Int32 → Option (Int32 × StM)
  | 0, _, _, _, _, _, _ => none
  | n + 1, σ, x1, x2, x3, x4, x5 => f_M_isBelowNamed_27_s (f_M_isBelowNamed_27 n) σ x1 x2 x3 x4 x5
def f_M_isBelowNamed (σ : StM) (x1 x2 : Int32) : Option (Int32 × StM) :=
  if x1 < 0 ∨ 300 ≤ x1.toNatClampNeg then none else
  if ((M_kind σ) x1.toNatClampNeg) = 3 then
    if x1 < 0 ∨ 300 ≤ x1.toNatClampNeg then none else
    f_M_isBelowNamed_27 1000 σ x1 x2 0 ((M_partCount σ) x1.toNatClampNeg) 0
  else
    f_M_isBelowNamed_27 1000 σ x1 x2 0 1 0
set_option maxHeartbeats 4000000 in
set_option maxRecDepth 100000 in
theorem t_M_isBelowNamed_158 {p : Program} {l : Launch} {e : Env} {s : State} {m : MethodId} {args : Array Value} {below : List Frame} {meth : Method} {c : Code} {D : va_G} {cI cZ : ClassId} {a : Nat → Nat} {A : Nat → Prop} (C0 : Am p s m args meth c b_M_isBelowNamed (some .boolean) 7 R_M D [(cI, .int), (cZ, .boolean)]) (hA : ∀ q, s.heap.size ≤ q → A q) {res : Int32 × StM} {k27 : StM → Int32 → Int32 → Int32 → Int32 → Int32 → Option (Int32 × StM)} (hk27 : ∀ (q : Nat) (σ : StM) (x1 x2 x3 x4 x5 : Int32) (H : Heap) (locs : List Loc) (ls : Array Slot), k27 σ x1 x2 x3 x4 x5 = some res → va_P D vwCl (wM cI cZ a q σ) H → va_D A (wM cI cZ a q σ) → va_S A s.heap H locs → lv_has ls 7 [(0, .ref (a 20)), (1, .int x1), (2, .int x2), (3, .int x3), (4, .int x4), (5, .int x5)] → W p l e (rmK 3 74 0 0) s m args below meth c H locs 0 0 (RwQ below args s D A (fun q (σ : StM) => (wM cI cZ a q σ)) res 0 0) (F0 m 27 ls []))  {q : Nat} {σ : StM} {x1 x2 x4 x5 : Int32} (h : f_M_isBelowNamed_158 k27 σ x1 x2 x4 x5 = some res) {H : Heap} {locs : List Loc} (hP : va_P D vwCl (wM cI cZ a q σ) H) (hD : va_D A (wM cI cZ a q σ)) (hS : va_S A s.heap H locs) {ls : Array Slot} (hl : lv_has ls 7 [(0, .ref (a 20)), (1, .int x1), (2, .int x2), (4, .int x4), (5, .int x5)]) : W p l e (rmK 3 74 0 0) s m args below meth c H locs 0 0 (RwQ below args s D A (fun q (σ : StM) => (wM cI cZ a q σ)) res 0 0) (F0 m 158 ls []) := by
  obtain ⟨hx, hb, hr, hml, hown, hts, hlk, hK⟩ := id C0
  unfold f_M_isBelowNamed_158 at h
  refine lv_iconst (v := 1) hx hb d_M_isBelowNamed_158 (by decide) ?_
  refine lv_goto (tgt := 163) hx hb d_M_isBelowNamed_159 (by decide) ?_
  refine lv_istore_n (lv' := [(3, .int 1), (0, .ref (a 20)), (1, .int x1), (2, .int x2), (4, .int x4), (5, .int x5)]) hx hb d_M_isBelowNamed_163 rfl hl (by decide) rfl (fun ls hl => ?_)
  refine lv_iinc (v := (x5 + 1)) (lv' := [(5, .int (x5 + 1)), (3, .int 1), (0, .ref (a 20)), (1, .int x1), (2, .int x2), (4, .int x4)]) hx hb d_M_isBelowNamed_164 hl (k := 5) rfl rfl (by decide) rfl (fun ls hl => ?_)
  refine lv_goto (tgt := 27) hx hb d_M_isBelowNamed_167 (by decide) ?_
  exact hk27 _ _ _ _ _ _ _ _ _ _ h hP hD hS (lv_sub hl [2, 3, 4, 1, 5, 0] rfl)
set_option maxHeartbeats 4000000 in
set_option maxRecDepth 100000 in
theorem t_M_isBelowNamed_125 {p : Program} {l : Launch} {e : Env} {s : State} {m : MethodId} {args : Array Value} {below : List Frame} {meth : Method} {c : Code} {D : va_G} {cI cZ : ClassId} {a : Nat → Nat} {A : Nat → Prop} (C0 : Am p s m args meth c b_M_isBelowNamed (some .boolean) 7 R_M D [(cI, .int), (cZ, .boolean)]) (hA : ∀ q, s.heap.size ≤ q → A q) {res : Int32 × StM} {k27 : StM → Int32 → Int32 → Int32 → Int32 → Int32 → Option (Int32 × StM)} (hk27 : ∀ (q : Nat) (σ : StM) (x1 x2 x3 x4 x5 : Int32) (H : Heap) (locs : List Loc) (ls : Array Slot), k27 σ x1 x2 x3 x4 x5 = some res → va_P D vwCl (wM cI cZ a q σ) H → va_D A (wM cI cZ a q σ) → va_S A s.heap H locs → lv_has ls 7 [(0, .ref (a 20)), (1, .int x1), (2, .int x2), (3, .int x3), (4, .int x4), (5, .int x5)] → W p l e (rmK 3 74 0 0) s m args below meth c H locs 0 0 (RwQ below args s D A (fun q (σ : StM) => (wM cI cZ a q σ)) res 0 0) (F0 m 27 ls []))  {q : Nat} {σ : StM} {x1 x2 x4 x5 : Int32} (h : f_M_isBelowNamed_125 k27 σ x1 x2 x4 x5 = some res) {H : Heap} {locs : List Loc} (hP : va_P D vwCl (wM cI cZ a q σ) H) (hD : va_D A (wM cI cZ a q σ)) (hS : va_S A s.heap H locs) {ls : Array Slot} (hl : lv_has ls 7 [(0, .ref (a 20)), (1, .int x1), (2, .int x2), (4, .int x4), (5, .int x5)]) : W p l e (rmK 3 74 0 0) s m args below meth c H locs 0 0 (RwQ below args s D A (fun q (σ : StM) => (wM cI cZ a q σ)) res 0 0) (F0 m 125 ls []) := by
  obtain ⟨hx, hb, hr, hml, hown, hts, hlk, hK⟩ := id C0
  unfold f_M_isBelowNamed_125 at h
  refine lv_aload_n hx hb d_M_isBelowNamed_125 rfl (lv_at hl 0 rfl) ?_
  refine va_get (ci := 4) (v := .ref (a 29)) (C := R_M) (T := F_M) (N := 35) hx hb hts i_M hown hK.1 hP 0 rfl rfl 13 (by decide) (hts _ wd_357) (fun _ h9 => h9) rfl d_M_isBelowNamed_126 ?_
  refine lv_iload_n hx hb d_M_isBelowNamed_129 rfl (lv_at hl 2 rfl) ?_
  replace h := gd h
  obtain ⟨hi, h⟩ := h
  refine va_iald hx hb hK.1 hP 9 0 rfl rfl hi d_M_isBelowNamed_130 ?_
  refine lv_iconst (v := 2) hx hb d_M_isBelowNamed_131 (by decide) ?_
  refine lv_icmp_ne (tgt := 162) hx hb d_M_isBelowNamed_132 (by decide) (fun hc => ?_) (fun hc => ?_)
  · rw [if_neg hc] at h
    refine lv_iconst (v := 0) hx hb d_M_isBelowNamed_162 (by decide) ?_
    refine lv_istore_n (lv' := [(3, .int 0), (0, .ref (a 20)), (1, .int x1), (2, .int x2), (4, .int x4), (5, .int x5)]) hx hb d_M_isBelowNamed_163 rfl hl (by decide) rfl (fun ls hl => ?_)
    refine lv_iinc (v := (x5 + 1)) (lv' := [(5, .int (x5 + 1)), (3, .int 0), (0, .ref (a 20)), (1, .int x1), (2, .int x2), (4, .int x4)]) hx hb d_M_isBelowNamed_164 hl (k := 5) rfl rfl (by decide) rfl (fun ls hl => ?_)
    refine lv_goto (tgt := 27) hx hb d_M_isBelowNamed_167 (by decide) ?_
    exact hk27 _ _ _ _ _ _ _ _ _ _ h hP hD hS (lv_sub hl [2, 3, 4, 1, 5, 0] rfl)
  · rw [if_pos hc] at h
    refine lv_aload_n hx hb d_M_isBelowNamed_135 rfl (lv_at hl 0 rfl) ?_
    refine va_get (ci := 4) (v := .ref (a 35)) (C := R_M) (T := F_M) (N := 35) hx hb hts i_M hown hK.1 hP 0 rfl rfl 23 (by decide) (hts _ wd_370) (fun _ h9 => h9) rfl d_M_isBelowNamed_136 ?_
    refine lv_sipush (v := 300) hx hb d_M_isBelowNamed_139 (by decide) ?_
    refine lv_aload_n hx hb d_M_isBelowNamed_142 rfl (lv_at hl 0 rfl) ?_
    refine va_get (ci := 4) (v := .int (M_foundType σ)) (C := R_M) (T := F_M) (N := 35) hx hb hts i_M hown hK.1 hP 0 rfl rfl 21 (by decide) (hts _ wd_347) (fun _ h9 => h9) rfl d_M_isBelowNamed_143 ?_
    refine lv_imul hx hb d_M_isBelowNamed_146 ?_
    refine lv_aload_n hx hb d_M_isBelowNamed_147 rfl (lv_at hl 0 rfl) ?_
    refine va_get (ci := 4) (v := .ref (a 30)) (C := R_M) (T := F_M) (N := 35) hx hb hts i_M hown hK.1 hP 0 rfl rfl 14 (by decide) (hts _ wd_358) (fun _ h9 => h9) rfl d_M_isBelowNamed_148 ?_
    refine lv_iload_n hx hb d_M_isBelowNamed_151 rfl (lv_at hl 2 rfl) ?_
    replace h := gd h
    obtain ⟨hi, h⟩ := h
    refine va_iald hx hb hK.1 hP 10 0 rfl rfl hi d_M_isBelowNamed_152 ?_
    refine lv_iadd hx hb d_M_isBelowNamed_153 ?_
    replace h := gd h
    obtain ⟨hi, h⟩ := h
    refine va_zald hx hb hK.1 hP 15 1 rfl rfl hi d_M_isBelowNamed_154 ?_
    refine lv_if_eq (tgt := 162) hx hb d_M_isBelowNamed_155 (by decide) (fun hc => ?_) (fun hc => ?_)
    · rw [if_pos hc] at h
      refine lv_iconst (v := 0) hx hb d_M_isBelowNamed_162 (by decide) ?_
      refine lv_istore_n (lv' := [(3, .int 0), (0, .ref (a 20)), (1, .int x1), (2, .int x2), (4, .int x4), (5, .int x5)]) hx hb d_M_isBelowNamed_163 rfl hl (by decide) rfl (fun ls hl => ?_)
      refine lv_iinc (v := (x5 + 1)) (lv' := [(5, .int (x5 + 1)), (3, .int 0), (0, .ref (a 20)), (1, .int x1), (2, .int x2), (4, .int x4)]) hx hb d_M_isBelowNamed_164 hl (k := 5) rfl rfl (by decide) rfl (fun ls hl => ?_)
      refine lv_goto (tgt := 27) hx hb d_M_isBelowNamed_167 (by decide) ?_
      exact hk27 _ _ _ _ _ _ _ _ _ _ h hP hD hS (lv_sub hl [2, 3, 4, 1, 5, 0] rfl)
    · rw [if_neg hc] at h
      exact t_M_isBelowNamed_158 (a := a) C0 hA hk27 h hP hD hS (lv_sub hl [0, 1, 2, 3, 4] rfl)
set_option maxHeartbeats 4000000 in
set_option maxRecDepth 100000 in
theorem t_M_isBelowNamed_64 {p : Program} {l : Launch} {e : Env} {s : State} {m : MethodId} {args : Array Value} {below : List Frame} {meth : Method} {c : Code} {D : va_G} {cI cZ : ClassId} {a : Nat → Nat} {A : Nat → Prop} (C0 : Am p s m args meth c b_M_isBelowNamed (some .boolean) 7 R_M D [(cI, .int), (cZ, .boolean)]) (hA : ∀ q, s.heap.size ≤ q → A q) {res : Int32 × StM} {k27 : StM → Int32 → Int32 → Int32 → Int32 → Int32 → Option (Int32 × StM)} (hk27 : ∀ (q : Nat) (σ : StM) (x1 x2 x3 x4 x5 : Int32) (H : Heap) (locs : List Loc) (ls : Array Slot), k27 σ x1 x2 x3 x4 x5 = some res → va_P D vwCl (wM cI cZ a q σ) H → va_D A (wM cI cZ a q σ) → va_S A s.heap H locs → lv_has ls 7 [(0, .ref (a 20)), (1, .int x1), (2, .int x2), (3, .int x3), (4, .int x4), (5, .int x5)] → W p l e (rmK 3 74 0 0) s m args below meth c H locs 0 0 (RwQ below args s D A (fun q (σ : StM) => (wM cI cZ a q σ)) res 0 0) (F0 m 27 ls []))  {q : Nat} {σ : StM} {x1 x2 x4 x5 t0 : Int32} (h : f_M_isBelowNamed_64 k27 σ x1 x2 x4 x5 t0 = some res) {H : Heap} {locs : List Loc} (hP : va_P D vwCl (wM cI cZ a q σ) H) (hD : va_D A (wM cI cZ a q σ)) (hS : va_S A s.heap H locs) {ls : Array Slot} (hl : lv_has ls 7 [(0, .ref (a 20)), (1, .int x1), (2, .int x2), (4, .int x4), (5, .int x5)]) : W p l e (rmK 3 74 0 0) s m args below meth c H locs 0 0 (RwQ below args s D A (fun q (σ : StM) => (wM cI cZ a q σ)) res 0 0) (F0 m 64 ls [.int t0]) := by
  obtain ⟨hx, hb, hr, hml, hown, hts, hlk, hK⟩ := id C0
  unfold f_M_isBelowNamed_64 at h
  refine lv_istore (lv' := [(6, .int t0), (0, .ref (a 20)), (1, .int x1), (2, .int x2), (4, .int x4), (5, .int x5)]) hx hb d_M_isBelowNamed_64 hl (by decide) rfl (fun ls hl => ?_)
  refine lv_aload_n hx hb d_M_isBelowNamed_66 rfl (lv_at hl 1 rfl) ?_
  refine lv_iload hx hb d_M_isBelowNamed_67 (lv_at hl 0 rfl) ?_
  refine lv_aload_n hx hb d_M_isBelowNamed_69 rfl (lv_at hl 1 rfl) ?_
  refine va_get (ci := 4) (v := .ref (a 28)) (C := R_M) (T := F_M) (N := 35) hx hb hts i_M hown hK.1 hP 0 rfl rfl 12 (by decide) (hts _ wd_356) (fun _ h9 => h9) rfl d_M_isBelowNamed_70 ?_
  refine lv_iload_n hx hb d_M_isBelowNamed_73 rfl (lv_at hl 3 rfl) ?_
  replace h := gd h
  obtain ⟨hi, h⟩ := h
  refine va_iald hx hb hK.1 hP 8 0 rfl rfl hi d_M_isBelowNamed_74 ?_
  replace h := bd h
  obtain ⟨r1, g1, h⟩ := h
  refine rw_Vv (n := 2) (ci := 4) (As := [.int t0, .int ((M_classOf σ) x2.toNatClampNeg)]) (rest := []) (Wn := fun _ => (wM cI cZ a q r1.2)) C0 hA (c_M_lookAt l D cI cZ a q σ t0 ((M_classOf σ) x2.toNatClampNeg) g1) wd_371 ⟨wd_372, wd_373, wd_374, wd_352⟩ (by decide +kernel) ⟨Nat.le_of_ble_eq_true rfl, Nat.le_of_ble_eq_true rfl⟩ hP hD hS [0, 1, 2, 3, 4, 5, 6, 7, 8, 9, 10, 11, 12, 13, 14, 15, 16, 17, 18, 19, 20, 21, 22, 23] [] [0, 1, 2, 3, 4, 5, 6, 7, 8, 9, 10, 11, 12, 13, 14, 15, 16, 17, 18, 19, 20, 21, 22, 23] jn_M__C (by decide) jn_M__R (by decide) (by decide) (by decide) jn_M__W rfl rfl rfl hl rfl rfl (Nat.le_of_ble_eq_true rfl) ⟨Nat.zero_le _, Nat.zero_le _⟩ d_M_isBelowNamed_75 (fun H locs _ hP hD hS => ?_)
  try dsimp only at h
  refine lv_aload_n hx hb d_M_isBelowNamed_78 rfl (lv_at hl 1 rfl) ?_
  refine va_get (ci := 4) (v := .int (M_found r1.2)) (C := R_M) (T := F_M) (N := 35) hx hb hts i_M hown hK.1 hP 0 rfl rfl 19 (by decide) (hts _ wd_345) (fun _ h9 => h9) rfl d_M_isBelowNamed_79 ?_
  refine lv_if_eq (tgt := 162) hx hb d_M_isBelowNamed_82 (by decide) (fun hc => ?_) (fun hc => ?_)
  · rw [if_pos hc] at h
    refine lv_iconst (v := 0) hx hb d_M_isBelowNamed_162 (by decide) ?_
    refine lv_istore_n (lv' := [(3, .int 0), (6, .int t0), (0, .ref (a 20)), (1, .int x1), (2, .int x2), (4, .int x4), (5, .int x5)]) hx hb d_M_isBelowNamed_163 rfl hl (by decide) rfl (fun ls hl => ?_)
    refine lv_iinc (v := (x5 + 1)) (lv' := [(5, .int (x5 + 1)), (3, .int 0), (6, .int t0), (0, .ref (a 20)), (1, .int x1), (2, .int x2), (4, .int x4)]) hx hb d_M_isBelowNamed_164 hl (k := 6) rfl rfl (by decide) rfl (fun ls hl => ?_)
    refine lv_goto (tgt := 27) hx hb d_M_isBelowNamed_167 (by decide) ?_
    exact hk27 _ _ _ _ _ _ _ _ _ _ h hP hD hS (lv_sub hl [3, 4, 5, 1, 6, 0] rfl)
  · rw [if_neg hc] at h
    refine lv_aload_n hx hb d_M_isBelowNamed_85 rfl (lv_at hl 1 rfl) ?_
    refine va_get (ci := 4) (v := .ref (a 29)) (C := R_M) (T := F_M) (N := 35) hx hb hts i_M hown hK.1 hP 0 rfl rfl 13 (by decide) (hts _ wd_357) (fun _ h9 => h9) rfl d_M_isBelowNamed_86 ?_
    refine lv_iload_n hx hb d_M_isBelowNamed_89 rfl (lv_at hl 3 rfl) ?_
    replace h := gd h
    obtain ⟨hi, h⟩ := h
    refine va_iald hx hb hK.1 hP 9 0 rfl rfl hi d_M_isBelowNamed_90 ?_
    refine lv_if_eq (tgt := 158) hx hb d_M_isBelowNamed_91 (by decide) (fun hc => ?_) (fun hc => ?_)
    · rw [if_pos hc] at h
      exact t_M_isBelowNamed_158 (a := a) C0 hA hk27 h hP hD hS (lv_sub hl [1, 2, 3, 4, 5] rfl)
    · rw [if_neg hc] at h
      refine lv_aload_n hx hb d_M_isBelowNamed_94 rfl (lv_at hl 1 rfl) ?_
      refine va_get (ci := 4) (v := .ref (a 29)) (C := R_M) (T := F_M) (N := 35) hx hb hts i_M hown hK.1 hP 0 rfl rfl 13 (by decide) (hts _ wd_357) (fun _ h9 => h9) rfl d_M_isBelowNamed_95 ?_
      refine lv_iload_n hx hb d_M_isBelowNamed_98 rfl (lv_at hl 3 rfl) ?_
      replace h := gd h
      obtain ⟨hi, h⟩ := h
      refine va_iald hx hb hK.1 hP 9 0 rfl rfl hi d_M_isBelowNamed_99 ?_
      refine lv_iconst (v := 1) hx hb d_M_isBelowNamed_100 (by decide) ?_
      refine lv_icmp_ne (tgt := 125) hx hb d_M_isBelowNamed_101 (by decide) (fun hc => ?_) (fun hc => ?_)
      · rw [if_neg hc] at h
        exact t_M_isBelowNamed_125 (a := a) C0 hA hk27 h hP hD hS (lv_sub hl [1, 2, 3, 4, 5] rfl)
      · rw [if_pos hc] at h
        refine lv_aload_n hx hb d_M_isBelowNamed_104 rfl (lv_at hl 1 rfl) ?_
        refine va_get (ci := 4) (v := .int (M_foundHow r1.2)) (C := R_M) (T := F_M) (N := 35) hx hb hts i_M hown hK.1 hP 0 rfl rfl 20 (by decide) (hts _ wd_346) (fun _ h9 => h9) rfl d_M_isBelowNamed_105 ?_
        refine lv_iconst (v := 1) hx hb d_M_isBelowNamed_108 (by decide) ?_
        refine lv_icmp_ne (tgt := 125) hx hb d_M_isBelowNamed_109 (by decide) (fun hc => ?_) (fun hc => ?_)
        · rw [if_neg hc] at h
          exact t_M_isBelowNamed_125 (a := a) C0 hA hk27 h hP hD hS (lv_sub hl [1, 2, 3, 4, 5] rfl)
        · rw [if_pos hc] at h
          refine lv_aload_n hx hb d_M_isBelowNamed_112 rfl (lv_at hl 1 rfl) ?_
          refine va_get (ci := 4) (v := .int (M_foundType r1.2)) (C := R_M) (T := F_M) (N := 35) hx hb hts i_M hown hK.1 hP 0 rfl rfl 21 (by decide) (hts _ wd_347) (fun _ h9 => h9) rfl d_M_isBelowNamed_113 ?_
          refine lv_aload_n hx hb d_M_isBelowNamed_116 rfl (lv_at hl 1 rfl) ?_
          refine va_get (ci := 4) (v := .ref (a 30)) (C := R_M) (T := F_M) (N := 35) hx hb hts i_M hown hK.1 hP 0 rfl rfl 14 (by decide) (hts _ wd_358) (fun _ h9 => h9) rfl d_M_isBelowNamed_117 ?_
          refine lv_iload_n hx hb d_M_isBelowNamed_120 rfl (lv_at hl 3 rfl) ?_
          replace h := gd h
          obtain ⟨hi, h⟩ := h
          refine va_iald hx hb hK.1 hP 10 0 rfl rfl hi d_M_isBelowNamed_121 ?_
          refine lv_icmp_eq (tgt := 158) hx hb d_M_isBelowNamed_122 (by decide) (fun hc => ?_) (fun hc => ?_)
          · rw [if_pos hc] at h
            exact t_M_isBelowNamed_158 (a := a) C0 hA hk27 h hP hD hS (lv_sub hl [1, 2, 3, 4, 5] rfl)
          · rw [if_neg hc] at h
            exact t_M_isBelowNamed_125 (a := a) C0 hA hk27 h hP hD hS (lv_sub hl [1, 2, 3, 4, 5] rfl)
set_option maxHeartbeats 4000000 in
set_option maxRecDepth 100000 in
theorem t_M_isBelowNamed_27_s {p : Program} {l : Launch} {e : Env} {s : State} {m : MethodId} {args : Array Value} {below : List Frame} {meth : Method} {c : Code} {D : va_G} {cI cZ : ClassId} {a : Nat → Nat} {A : Nat → Prop} (C0 : Am p s m args meth c b_M_isBelowNamed (some .boolean) 7 R_M D [(cI, .int), (cZ, .boolean)]) (hA : ∀ q, s.heap.size ≤ q → A q) {res : Int32 × StM} {k27 : StM → Int32 → Int32 → Int32 → Int32 → Int32 → Option (Int32 × StM)}  (hk27 : ∀ (q : Nat) (σ : StM) (x1 x2 x3 x4 x5 : Int32) (H : Heap) (locs : List Loc) (ls : Array Slot), k27 σ x1 x2 x3 x4 x5 = some res → va_P D vwCl (wM cI cZ a q σ) H → va_D A (wM cI cZ a q σ) → va_S A s.heap H locs → lv_has ls 7 [(0, .ref (a 20)), (1, .int x1), (2, .int x2), (3, .int x3), (4, .int x4), (5, .int x5)] → W p l e (rmK 3 74 0 0) s m args below meth c H locs 0 0 (RwQ below args s D A (fun q (σ : StM) => (wM cI cZ a q σ)) res 0 0) (F0 m 27 ls [])) {q : Nat} {σ : StM} {x1 x2 x3 x4 x5 : Int32} (h : f_M_isBelowNamed_27_s k27 σ x1 x2 x3 x4 x5 = some res) {H : Heap} {locs : List Loc} (hP : va_P D vwCl (wM cI cZ a q σ) H) (hD : va_D A (wM cI cZ a q σ)) (hS : va_S A s.heap H locs) {ls : Array Slot} (hl : lv_has ls 7 [(0, .ref (a 20)), (1, .int x1), (2, .int x2), (3, .int x3), (4, .int x4), (5, .int x5)]) : W p l e (rmK 3 74 0 0) s m args below meth c H locs 0 0 (RwQ below args s D A (fun q (σ : StM) => (wM cI cZ a q σ)) res 0 0) (F0 m 27 ls []) := by
  obtain ⟨hx, hb, hr, hml, hown, hts, hlk, hK⟩ := id C0
  unfold f_M_isBelowNamed_27_s at h
  refine lv_iload hx hb d_M_isBelowNamed_27 (lv_at hl 5 rfl) ?_
  refine lv_iload hx hb d_M_isBelowNamed_29 (lv_at hl 4 rfl) ?_
  refine lv_icmp_ge (tgt := 170) hx hb d_M_isBelowNamed_31 (by decide) (fun hc => ?_) (fun hc => ?_)
  · rw [if_pos hc] at h
    refine lv_iload_n hx hb d_M_isBelowNamed_170 rfl (lv_at hl 3 rfl) ?_
    exact rw_retz C0 hP hD hS rfl (Option.some.inj h) d_M_isBelowNamed_171
  · rw [if_neg hc] at h
    refine lv_iload_n hx hb d_M_isBelowNamed_34 rfl (lv_at hl 3 rfl) ?_
    refine lv_if_ne (tgt := 170) hx hb d_M_isBelowNamed_35 (by decide) (fun hc => ?_) (fun hc => ?_)
    · rw [if_neg hc] at h
      refine lv_iload_n hx hb d_M_isBelowNamed_170 rfl (lv_at hl 3 rfl) ?_
      exact rw_retz C0 hP hD hS rfl (Option.some.inj h) d_M_isBelowNamed_171
    · rw [if_pos hc] at h
      refine lv_aload_n hx hb d_M_isBelowNamed_38 rfl (lv_at hl 0 rfl) ?_
      refine va_get (ci := 4) (v := .ref (a 27)) (C := R_M) (T := F_M) (N := 35) hx hb hts i_M hown hK.1 hP 0 rfl rfl 11 (by decide) (hts _ wd_353) (fun _ h9 => h9) rfl d_M_isBelowNamed_39 ?_
      refine lv_iload_n hx hb d_M_isBelowNamed_42 rfl (lv_at hl 1 rfl) ?_
      replace h := gd h
      obtain ⟨hi, h⟩ := h
      refine va_iald hx hb hK.1 hP 7 0 rfl rfl hi d_M_isBelowNamed_43 ?_
      refine lv_iconst (v := 3) hx hb d_M_isBelowNamed_44 (by decide) ?_
      refine lv_icmp_ne (tgt := 63) hx hb d_M_isBelowNamed_45 (by decide) (fun hc => ?_) (fun hc => ?_)
      · rw [if_neg hc] at h
        refine lv_iload_n hx hb d_M_isBelowNamed_63 rfl (lv_at hl 1 rfl) ?_
        exact t_M_isBelowNamed_64 (a := a) C0 hA hk27 h hP hD hS (lv_sub hl [0, 1, 2, 4, 5] rfl)
      · rw [if_pos hc] at h
        refine lv_aload_n hx hb d_M_isBelowNamed_48 rfl (lv_at hl 0 rfl) ?_
        refine va_get (ci := 4) (v := .ref (a 33)) (C := R_M) (T := F_M) (N := 35) hx hb hts i_M hown hK.1 hP 0 rfl rfl 17 (by decide) (hts _ wd_355) (fun _ h9 => h9) rfl d_M_isBelowNamed_49 ?_
        refine lv_bipush (v := 30) hx hb d_M_isBelowNamed_52 (by decide) ?_
        refine lv_iload_n hx hb d_M_isBelowNamed_54 rfl (lv_at hl 1 rfl) ?_
        refine lv_imul hx hb d_M_isBelowNamed_55 ?_
        refine lv_iload hx hb d_M_isBelowNamed_56 (lv_at hl 5 rfl) ?_
        refine lv_iadd hx hb d_M_isBelowNamed_58 ?_
        replace h := gd h
        obtain ⟨hi, h⟩ := h
        refine va_iald hx hb hK.1 hP 13 0 rfl rfl hi d_M_isBelowNamed_59 ?_
        refine lv_goto (tgt := 64) hx hb d_M_isBelowNamed_60 (by decide) ?_
        exact t_M_isBelowNamed_64 (a := a) C0 hA hk27 h hP hD hS (lv_sub hl [0, 1, 2, 4, 5] rfl)
set_option maxHeartbeats 4000000 in
set_option maxRecDepth 100000 in
theorem t_M_isBelowNamed_27 {p : Program} {l : Launch} {e : Env} {s : State} {m : MethodId} {args : Array Value} {below : List Frame} {meth : Method} {c : Code} {D : va_G} {cI cZ : ClassId} {a : Nat → Nat} {A : Nat → Prop} (C0 : Am p s m args meth c b_M_isBelowNamed (some .boolean) 7 R_M D [(cI, .int), (cZ, .boolean)]) (hA : ∀ q, s.heap.size ≤ q → A q) {res : Int32 × StM}  {n : Nat} {q : Nat} {σ : StM} {x1 x2 x3 x4 x5 : Int32} (h : f_M_isBelowNamed_27  n σ x1 x2 x3 x4 x5 = some res) {H : Heap} {locs : List Loc} (hP : va_P D vwCl (wM cI cZ a q σ) H) (hD : va_D A (wM cI cZ a q σ)) (hS : va_S A s.heap H locs) {ls : Array Slot} (hl : lv_has ls 7 [(0, .ref (a 20)), (1, .int x1), (2, .int x2), (3, .int x3), (4, .int x4), (5, .int x5)]) : W p l e (rmK 3 74 0 0) s m args below meth c H locs 0 0 (RwQ below args s D A (fun q (σ : StM) => (wM cI cZ a q σ)) res 0 0) (F0 m 27 ls []) := by
  induction n generalizing q σ x1 x2 x3 x4 x5 H locs ls with
  | zero => cases h
  | succ n ih => exact t_M_isBelowNamed_27_s (a := a) C0 hA  (fun _ _ _ _ _ _ _ _ _ _ h hP hD hS hl => ih h hP hD hS hl) h hP hD hS hl
set_option maxHeartbeats 4000000 in
set_option maxRecDepth 100000 in
theorem t_M_isBelowNamed_0 {p : Program} {l : Launch} {e : Env} {s : State} {m : MethodId} {args : Array Value} {below : List Frame} {meth : Method} {c : Code} {D : va_G} {cI cZ : ClassId} {a : Nat → Nat} {A : Nat → Prop} (C0 : Am p s m args meth c b_M_isBelowNamed (some .boolean) 7 R_M D [(cI, .int), (cZ, .boolean)]) (hA : ∀ q, s.heap.size ≤ q → A q) {res : Int32 × StM}   {q : Nat} {σ : StM} {x1 x2 : Int32} (h : f_M_isBelowNamed σ x1 x2 = some res) {H : Heap} {locs : List Loc} (hP : va_P D vwCl (wM cI cZ a q σ) H) (hD : va_D A (wM cI cZ a q σ)) (hS : va_S A s.heap H locs) {ls : Array Slot} (hl : lv_has ls 7 [(0, .ref (a 20)), (1, .int x1), (2, .int x2)]) : W p l e (rmK 3 74 0 0) s m args below meth c H locs 0 0 (RwQ below args s D A (fun q (σ : StM) => (wM cI cZ a q σ)) res 0 0) (F0 m 0 ls []) := by
  obtain ⟨hx, hb, hr, hml, hown, hts, hlk, hK⟩ := id C0
  unfold f_M_isBelowNamed at h
  refine lv_iconst (v := 0) hx hb d_M_isBelowNamed_0 (by decide) ?_
  refine lv_istore_n (lv' := [(3, .int 0), (0, .ref (a 20)), (1, .int x1), (2, .int x2)]) hx hb d_M_isBelowNamed_1 rfl hl (by decide) rfl (fun ls hl => ?_)
  refine lv_aload_n hx hb d_M_isBelowNamed_2 rfl (lv_at hl 1 rfl) ?_
  refine va_get (ci := 4) (v := .ref (a 27)) (C := R_M) (T := F_M) (N := 35) hx hb hts i_M hown hK.1 hP 0 rfl rfl 11 (by decide) (hts _ wd_353) (fun _ h9 => h9) rfl d_M_isBelowNamed_3 ?_
  refine lv_iload_n hx hb d_M_isBelowNamed_6 rfl (lv_at hl 2 rfl) ?_
  replace h := gd h
  obtain ⟨hi, h⟩ := h
  refine va_iald hx hb hK.1 hP 7 0 rfl rfl hi d_M_isBelowNamed_7 ?_
  refine lv_iconst (v := 3) hx hb d_M_isBelowNamed_8 (by decide) ?_
  refine lv_icmp_ne (tgt := 21) hx hb d_M_isBelowNamed_9 (by decide) (fun hc => ?_) (fun hc => ?_)
  · rw [if_neg hc] at h
    refine lv_iconst (v := 1) hx hb d_M_isBelowNamed_21 (by decide) ?_
    refine lv_istore (lv' := [(4, .int 1), (3, .int 0), (0, .ref (a 20)), (1, .int x1), (2, .int x2)]) hx hb d_M_isBelowNamed_22 hl (by decide) rfl (fun ls hl => ?_)
    refine lv_iconst (v := 0) hx hb d_M_isBelowNamed_24 (by decide) ?_
    refine lv_istore (lv' := [(5, .int 0), (4, .int 1), (3, .int 0), (0, .ref (a 20)), (1, .int x1), (2, .int x2)]) hx hb d_M_isBelowNamed_25 hl (by decide) rfl (fun ls hl => ?_)
    exact t_M_isBelowNamed_27 (a := a) C0 hA  h hP hD hS (lv_sub hl [3, 4, 5, 2, 1, 0] rfl)
  · rw [if_pos hc] at h
    refine lv_aload_n hx hb d_M_isBelowNamed_12 rfl (lv_at hl 1 rfl) ?_
    refine va_get (ci := 4) (v := .ref (a 32)) (C := R_M) (T := F_M) (N := 35) hx hb hts i_M hown hK.1 hP 0 rfl rfl 16 (by decide) (hts _ wd_354) (fun _ h9 => h9) rfl d_M_isBelowNamed_13 ?_
    refine lv_iload_n hx hb d_M_isBelowNamed_16 rfl (lv_at hl 2 rfl) ?_
    replace h := gd h
    obtain ⟨hi, h⟩ := h
    refine va_iald hx hb hK.1 hP 12 0 rfl rfl hi d_M_isBelowNamed_17 ?_
    refine lv_goto (tgt := 22) hx hb d_M_isBelowNamed_18 (by decide) ?_
    refine lv_istore (lv' := [(4, .int ((M_partCount σ) x1.toNatClampNeg)), (3, .int 0), (0, .ref (a 20)), (1, .int x1), (2, .int x2)]) hx hb d_M_isBelowNamed_22 hl (by decide) rfl (fun ls hl => ?_)
    refine lv_iconst (v := 0) hx hb d_M_isBelowNamed_24 (by decide) ?_
    refine lv_istore (lv' := [(5, .int 0), (4, .int ((M_partCount σ) x1.toNatClampNeg)), (3, .int 0), (0, .ref (a 20)), (1, .int x1), (2, .int x2)]) hx hb d_M_isBelowNamed_25 hl (by decide) rfl (fun ls hl => ?_)
    exact t_M_isBelowNamed_27 (a := a) C0 hA  h hP hD hS (lv_sub hl [3, 4, 5, 2, 1, 0] rfl)
set_option maxHeartbeats 4000000 in
set_option maxRecDepth 100000 in
theorem c_M_isBelowNamed (l : Launch) (D : va_G) (cI cZ : ClassId) (a : Nat → Nat) (q : Nat) (σ : StM) (x1 : Int32) (x2 : Int32) {res : Int32 × StM} (h : f_M_isBelowNamed σ x1 x2 = some res) : RwM l y_M_isBelowNamed b_M_isBelowNamed 7 (some .boolean) 3 74 D [(cI, .int), (cZ, .boolean)] [.ref (a 20), .int x1, .int x2] (fun q (σ : StM) => (wM cI cZ a q σ)) q σ res :=
  rw_of (by decide) (Nat.le_of_ble_eq_true rfl) (fun p e s m args below meth c ls A C0 hA hP hD hS hl => t_M_isBelowNamed_0 (a := a) C0 hA h hP hD hS (lv_sub hl [0, 1, 2] rfl))
