def f_M_climb_144 (k38 : StM → Int32 → Int32 → Option (Int32 × StM)) (σ : StM) (x4 x5 x6 : Int32) : Option (Int32 × StM) :=
  if ((30 * x5) + x6) < 0 ∨ 900 ≤ ((30 * x5) + x6).toNatClampNeg then none else
  k38 σ x4 ((M_directTo σ) ((30 * x5) + x6).toNatClampNeg)
def f_M_climb_135 (k38 : StM → Int32 → Int32 → Option (Int32 × StM)) (σ : StM) (x4 x5 x6 x7 t1 : Int32) : Option (Int32 × StM) :=
  f_M_climb_144 k38 (M_set_foundType (M_set_foundHow σ t1) x7) x4 x5 x6
def f_M_climb_101 (k38 : StM → Int32 → Int32 → Option (Int32 × StM)) (σ : StM) (x4 x5 x6 : Int32) : Option (Int32 × StM) :=
  if ((30 * x5) + x6) < 0 ∨ 900 ≤ ((30 * x5) + x6).toNatClampNeg then none else
  if ((M_directArg σ) ((30 * x5) + x6).toNatClampNeg) = (-2) then
    f_M_climb_144 k38 σ x4 x5 x6
  else
    if ((M_directArg σ) ((30 * x5) + x6).toNatClampNeg) = (-1) then
      f_M_climb_135 k38 σ x4 x5 x6 ((M_directArg σ) ((30 * x5) + x6).toNatClampNeg) 0
    else
      f_M_climb_135 k38 σ x4 x5 x6 ((M_directArg σ) ((30 * x5) + x6).toNatClampNeg) 1
def f_M_climb_55_s (k38 : StM → Int32 → Int32 → Option (Int32 × StM)) (k55 : StM → Int32 → Int32 → Int32 → Option (Int32 × StM)) (σ : StM) (x4 x5 x6 : Int32) : Option (Int32 × StM) :=
  if ((30 * x5) + x6) < 0 ∨ 900 ≤ ((30 * x5) + x6).toNatClampNeg then none else
  if ((M_directTo σ) ((30 * x5) + x6).toNatClampNeg) = x4 then
    f_M_climb_101 k38 σ x4 x5 x6
  else
    if ((30 * x5) + x6) < 0 ∨ 900 ≤ ((30 * x5) + x6).toNatClampNeg then none else
    (f_M_under σ ((M_directTo σ) ((30 * x5) + x6).toNatClampNeg) x4).bind fun r1 =>
    if r1 = 0 then
      k55 σ x4 x5 (x6 + 1)
    else
      f_M_climb_101 k38 σ x4 x5 x6
def f_M_climb_55 (k38 : StM → Int32 → Int32 → Option (Int32 × StM)) : Nat → StM → Int32 → Int32 → Int32 → Option (Int32 × StM)
  | 0, _, _, _, _ => none
  | n + 1, σ, x4, x5, x6 => f_M_climb_55_s k38 (f_M_climb_55 k38 n) σ x4 x5 x6
def f_M_climb_38_s (k38 : StM → Int32 → Int32 → Option (Int32 × StM)) (σ : StM) (x4 x5 : Int32) : Option (Int32 × StM) :=
  if (M_found σ) = 0 then
    some (0, σ)
  else
    if x5 = x4 then
      some (0, σ)
    else
      f_M_climb_55 k38 1000 σ x4 x5 0
def f_M_climb_38 : Nat → StM → Int32 → Int32 → Option (Int32 × StM)
  | 0, _, _, _ => none
  | n + 1, σ, x4, x5 => f_M_climb_38_s (f_M_climb_38 n) σ x4 x5
def f_M_climb_22 (σ : StM) (x1 x2 x3 x4 t1 : Int32) : Option (Int32 × StM) :=
  if t1 ≠ 0 ∧ t1 ≠ 1 then none else
  f_M_climb_38 1000 (M_set_foundType (M_set_foundHow (M_set_found σ t1) x2) x3) x4 x1
def f_M_climb_17 (σ : StM) (x1 x2 x3 x4 : Int32) : Option (Int32 × StM) :=
  f_M_climb_22 σ x1 x2 x3 x4 1
def f_M_climb (σ : StM) (x1 x2 x3 x4 : Int32) : Option (Int32 × StM) :=
  if x1 = x4 then
    f_M_climb_17 σ x1 x2 x3 x4
  else
    (f_M_under σ x1 x4).bind fun r2 =>
    if r2 = 0 then
      f_M_climb_22 σ x1 x2 x3 x4 0
    else
      f_M_climb_17 σ x1 x2 x3 x4
set_option maxHeartbeats 4000000 in
set_option maxRecDepth 100000 in
theorem t_M_climb_144 {p : Program} {l : Launch} {e : Env} {s : State} {m : MethodId} {args : Array Value} {below : List Frame} {meth : Method} {c : Code} {D : va_G} {cI cZ : ClassId} {a : Nat → Nat} {A : Nat → Prop} (C0 : Am p s m args meth c b_M_climb none 8 R_M D [(cI, .int), (cZ, .boolean)]) (hA : ∀ q, s.heap.size ≤ q → A q) {res : Int32 × StM} {k38 : StM → Int32 → Int32 → Option (Int32 × StM)} (hk38 : ∀ (q : Nat) (σ : StM) (x4 x5 : Int32) (H : Heap) (locs : List Loc) (ls : Array Slot), k38 σ x4 x5 = some res → va_P D vwCl (wM cI cZ a q σ) H → va_D A (wM cI cZ a q σ) → va_S A s.heap H locs → lv_has ls 8 [(0, .ref (a 20)), (4, .int x4), (5, .int x5)] → W p l e (rmK 1 22 0 0) s m args below meth c H locs 0 0 (RwQv below args s D A (fun q (σ : StM) => (wM cI cZ a q σ)) res 0 0) (F0 m 38 ls []))  {q : Nat} {σ : StM} {x4 x5 x6 : Int32} (h : f_M_climb_144 k38 σ x4 x5 x6 = some res) {H : Heap} {locs : List Loc} (hP : va_P D vwCl (wM cI cZ a q σ) H) (hD : va_D A (wM cI cZ a q σ)) (hS : va_S A s.heap H locs) {ls : Array Slot} (hl : lv_has ls 8 [(0, .ref (a 20)), (4, .int x4), (5, .int x5), (6, .int x6)]) : W p l e (rmK 1 22 0 0) s m args below meth c H locs 0 0 (RwQv below args s D A (fun q (σ : StM) => (wM cI cZ a q σ)) res 0 0) (F0 m 144 ls []) := by
  obtain ⟨hx, hb, hr, hml, hown, hts, hlk, hK⟩ := id C0
  unfold f_M_climb_144 at h
  refine lv_aload_n hx hb d_M_climb_144 rfl (lv_at hl 0 rfl) ?_
  refine va_get (ci := 4) (v := .ref (a 24)) (C := R_M) (T := F_M) (N := 35) hx hb hts i_M hown hK.1 hP 0 rfl rfl 7 (by decide) (hts _ wd_338) (fun _ h9 => h9) rfl d_M_climb_145 ?_
  refine lv_bipush (v := 30) hx hb d_M_climb_148 (by decide) ?_
  refine lv_iload hx hb d_M_climb_150 (lv_at hl 2 rfl) ?_
  refine lv_imul hx hb d_M_climb_152 ?_
  refine lv_iload hx hb d_M_climb_153 (lv_at hl 3 rfl) ?_
  refine lv_iadd hx hb d_M_climb_155 ?_
  replace h := gd h
  obtain ⟨hi, h⟩ := h
  refine va_iald hx hb hK.1 hP 4 0 rfl rfl hi d_M_climb_156 ?_
  refine lv_istore (lv' := [(5, .int ((M_directTo σ) ((30 * x5) + x6).toNatClampNeg)), (0, .ref (a 20)), (4, .int x4), (6, .int x6)]) hx hb d_M_climb_157 hl (by decide) rfl (fun ls hl => ?_)
  refine lv_goto (tgt := 38) hx hb d_M_climb_159 (by decide) ?_
  exact hk38 _ _ _ _ _ _ _ h hP hD hS (lv_sub hl [1, 2, 0] rfl)
set_option maxHeartbeats 4000000 in
set_option maxRecDepth 100000 in
theorem t_M_climb_135 {p : Program} {l : Launch} {e : Env} {s : State} {m : MethodId} {args : Array Value} {below : List Frame} {meth : Method} {c : Code} {D : va_G} {cI cZ : ClassId} {a : Nat → Nat} {A : Nat → Prop} (C0 : Am p s m args meth c b_M_climb none 8 R_M D [(cI, .int), (cZ, .boolean)]) (hA : ∀ q, s.heap.size ≤ q → A q) {res : Int32 × StM} {k38 : StM → Int32 → Int32 → Option (Int32 × StM)} (hk38 : ∀ (q : Nat) (σ : StM) (x4 x5 : Int32) (H : Heap) (locs : List Loc) (ls : Array Slot), k38 σ x4 x5 = some res → va_P D vwCl (wM cI cZ a q σ) H → va_D A (wM cI cZ a q σ) → va_S A s.heap H locs → lv_has ls 8 [(0, .ref (a 20)), (4, .int x4), (5, .int x5)] → W p l e (rmK 1 22 0 0) s m args below meth c H locs 0 0 (RwQv below args s D A (fun q (σ : StM) => (wM cI cZ a q σ)) res 0 0) (F0 m 38 ls []))  {q : Nat} {σ : StM} {x4 x5 x6 x7 t1 : Int32} (h : f_M_climb_135 k38 σ x4 x5 x6 x7 t1 = some res) {H : Heap} {locs : List Loc} (hP : va_P D vwCl (wM cI cZ a q σ) H) (hD : va_D A (wM cI cZ a q σ)) (hS : va_S A s.heap H locs) {ls : Array Slot} (hl : lv_has ls 8 [(0, .ref (a 20)), (4, .int x4), (5, .int x5), (6, .int x6), (7, .int x7)]) : W p l e (rmK 1 22 0 0) s m args below meth c H locs 0 0 (RwQv below args s D A (fun q (σ : StM) => (wM cI cZ a q σ)) res 0 0) (F0 m 135 ls [.int t1, .ref (a 20)]) := by
  obtain ⟨hx, hb, hr, hml, hown, hts, hlk, hK⟩ := id C0
  unfold f_M_climb_135 at h
  refine rw_put (v := .int t1) (fty := .int) (C := R_M) (T := F_M) (N := 35) C0 hP hD hS i_M ty_M tyok_M nn_M 0 rfl rfl 20 (by decide) (hts _ wd_346) rfl rfl (by decide +kernel) rfl rfl (Nat.le_of_ble_eq_true rfl) d_M_climb_135 (Wn := (wM cI cZ a q (M_set_foundHow σ t1))) ws_M_set_foundHow (fun H locs hP hD hS => ?_)
  refine lv_aload_n hx hb d_M_climb_138 rfl (lv_at hl 0 rfl) ?_
  refine lv_iload hx hb d_M_climb_139 (lv_at hl 4 rfl) ?_
  refine rw_put (v := .int x7) (fty := .int) (C := R_M) (T := F_M) (N := 35) C0 hP hD hS i_M ty_M tyok_M nn_M 0 rfl rfl 21 (by decide) (hts _ wd_347) rfl rfl (by decide +kernel) rfl rfl (Nat.le_of_ble_eq_true rfl) d_M_climb_141 (Wn := (wM cI cZ a q (M_set_foundType (M_set_foundHow σ t1) x7))) ws_M_set_foundType (fun H locs hP hD hS => ?_)
  exact t_M_climb_144 (a := a) C0 hA hk38 h hP hD hS (lv_sub hl [0, 1, 2, 3] rfl)
set_option maxHeartbeats 4000000 in
set_option maxRecDepth 100000 in
theorem t_M_climb_101 {p : Program} {l : Launch} {e : Env} {s : State} {m : MethodId} {args : Array Value} {below : List Frame} {meth : Method} {c : Code} {D : va_G} {cI cZ : ClassId} {a : Nat → Nat} {A : Nat → Prop} (C0 : Am p s m args meth c b_M_climb none 8 R_M D [(cI, .int), (cZ, .boolean)]) (hA : ∀ q, s.heap.size ≤ q → A q) {res : Int32 × StM} {k38 : StM → Int32 → Int32 → Option (Int32 × StM)} (hk38 : ∀ (q : Nat) (σ : StM) (x4 x5 : Int32) (H : Heap) (locs : List Loc) (ls : Array Slot), k38 σ x4 x5 = some res → va_P D vwCl (wM cI cZ a q σ) H → va_D A (wM cI cZ a q σ) → va_S A s.heap H locs → lv_has ls 8 [(0, .ref (a 20)), (4, .int x4), (5, .int x5)] → W p l e (rmK 1 22 0 0) s m args below meth c H locs 0 0 (RwQv below args s D A (fun q (σ : StM) => (wM cI cZ a q σ)) res 0 0) (F0 m 38 ls []))  {q : Nat} {σ : StM} {x4 x5 x6 : Int32} (h : f_M_climb_101 k38 σ x4 x5 x6 = some res) {H : Heap} {locs : List Loc} (hP : va_P D vwCl (wM cI cZ a q σ) H) (hD : va_D A (wM cI cZ a q σ)) (hS : va_S A s.heap H locs) {ls : Array Slot} (hl : lv_has ls 8 [(0, .ref (a 20)), (4, .int x4), (5, .int x5), (6, .int x6)]) : W p l e (rmK 1 22 0 0) s m args below meth c H locs 0 0 (RwQv below args s D A (fun q (σ : StM) => (wM cI cZ a q σ)) res 0 0) (F0 m 101 ls []) := by
  obtain ⟨hx, hb, hr, hml, hown, hts, hlk, hK⟩ := id C0
  unfold f_M_climb_101 at h
  refine lv_aload_n hx hb d_M_climb_101 rfl (lv_at hl 0 rfl) ?_
  refine va_get (ci := 4) (v := .ref (a 25)) (C := R_M) (T := F_M) (N := 35) hx hb hts i_M hown hK.1 hP 0 rfl rfl 8 (by decide) (hts _ wd_340) (fun _ h9 => h9) rfl d_M_climb_102 ?_
  refine lv_bipush (v := 30) hx hb d_M_climb_105 (by decide) ?_
  refine lv_iload hx hb d_M_climb_107 (lv_at hl 2 rfl) ?_
  refine lv_imul hx hb d_M_climb_109 ?_
  refine lv_iload hx hb d_M_climb_110 (lv_at hl 3 rfl) ?_
  refine lv_iadd hx hb d_M_climb_112 ?_
  replace h := gd h
  obtain ⟨hi, h⟩ := h
  refine va_iald hx hb hK.1 hP 5 0 rfl rfl hi d_M_climb_113 ?_
  refine lv_istore (lv' := [(7, .int ((M_directArg σ) ((30 * x5) + x6).toNatClampNeg)), (0, .ref (a 20)), (4, .int x4), (5, .int x5), (6, .int x6)]) hx hb d_M_climb_114 hl (by decide) rfl (fun ls hl => ?_)
  refine lv_iload hx hb d_M_climb_116 (lv_at hl 0 rfl) ?_
  refine lv_bipush (v := (-2)) hx hb d_M_climb_118 (by decide) ?_
  refine lv_icmp_eq (tgt := 144) hx hb d_M_climb_120 (by decide) (fun hc => ?_) (fun hc => ?_)
  · rw [if_pos hc] at h
    exact t_M_climb_144 (a := a) C0 hA hk38 h hP hD hS (lv_sub hl [1, 2, 3, 4] rfl)
  · rw [if_neg hc] at h
    refine lv_aload_n hx hb d_M_climb_123 rfl (lv_at hl 1 rfl) ?_
    refine lv_iload hx hb d_M_climb_124 (lv_at hl 0 rfl) ?_
    refine lv_iconst (v := (-1)) hx hb d_M_climb_126 (by decide) ?_
    refine lv_icmp_ne (tgt := 134) hx hb d_M_climb_127 (by decide) (fun hc => ?_) (fun hc => ?_)
    · rw [if_neg hc] at h
      refine lv_iconst (v := 1) hx hb d_M_climb_134 (by decide) ?_
      exact t_M_climb_135 (a := a) C0 hA hk38 h hP hD hS (lv_sub hl [1, 2, 3, 4, 0] rfl)
    · rw [if_pos hc] at h
      refine lv_iconst (v := 0) hx hb d_M_climb_130 (by decide) ?_
      refine lv_goto (tgt := 135) hx hb d_M_climb_131 (by decide) ?_
      exact t_M_climb_135 (a := a) C0 hA hk38 h hP hD hS (lv_sub hl [1, 2, 3, 4, 0] rfl)
set_option maxHeartbeats 4000000 in
set_option maxRecDepth 100000 in
theorem t_M_climb_55_s {p : Program} {l : Launch} {e : Env} {s : State} {m : MethodId} {args : Array Value} {below : List Frame} {meth : Method} {c : Code} {D : va_G} {cI cZ : ClassId} {a : Nat → Nat} {A : Nat → Prop} (C0 : Am p s m args meth c b_M_climb none 8 R_M D [(cI, .int), (cZ, .boolean)]) (hA : ∀ q, s.heap.size ≤ q → A q) {res : Int32 × StM} {k38 : StM → Int32 → Int32 → Option (Int32 × StM)} {k55 : StM → Int32 → Int32 → Int32 → Option (Int32 × StM)} (hk38 : ∀ (q : Nat) (σ : StM) (x4 x5 : Int32) (H : Heap) (locs : List Loc) (ls : Array Slot), k38 σ x4 x5 = some res → va_P D vwCl (wM cI cZ a q σ) H → va_D A (wM cI cZ a q σ) → va_S A s.heap H locs → lv_has ls 8 [(0, .ref (a 20)), (4, .int x4), (5, .int x5)] → W p l e (rmK 1 22 0 0) s m args below meth c H locs 0 0 (RwQv below args s D A (fun q (σ : StM) => (wM cI cZ a q σ)) res 0 0) (F0 m 38 ls [])) (hk55 : ∀ (q : Nat) (σ : StM) (x4 x5 x6 : Int32) (H : Heap) (locs : List Loc) (ls : Array Slot), k55 σ x4 x5 x6 = some res → va_P D vwCl (wM cI cZ a q σ) H → va_D A (wM cI cZ a q σ) → va_S A s.heap H locs → lv_has ls 8 [(0, .ref (a 20)), (4, .int x4), (5, .int x5), (6, .int x6)] → W p l e (rmK 1 22 0 0) s m args below meth c H locs 0 0 (RwQv below args s D A (fun q (σ : StM) => (wM cI cZ a q σ)) res 0 0) (F0 m 55 ls [])) {q : Nat} {σ : StM} {x4 x5 x6 : Int32} (h : f_M_climb_55_s k38 k55 σ x4 x5 x6 = some res) {H : Heap} {locs : List Loc} (hP : va_P D vwCl (wM cI cZ a q σ) H) (hD : va_D A (wM cI cZ a q σ)) (hS : va_S A s.heap H locs) {ls : Array Slot} (hl : lv_has ls 8 [(0, .ref (a 20)), (4, .int x4), (5, .int x5), (6, .int x6)]) : W p l e (rmK 1 22 0 0) s m args below meth c H locs 0 0 (RwQv below args s D A (fun q (σ : StM) => (wM cI cZ a q σ)) res 0 0) (F0 m 55 ls []) := by
  obtain ⟨hx, hb, hr, hml, hown, hts, hlk, hK⟩ := id C0
  unfold f_M_climb_55_s at h
  refine lv_aload_n hx hb d_M_climb_55 rfl (lv_at hl 0 rfl) ?_
  refine va_get (ci := 4) (v := .ref (a 24)) (C := R_M) (T := F_M) (N := 35) hx hb hts i_M hown hK.1 hP 0 rfl rfl 7 (by decide) (hts _ wd_338) (fun _ h9 => h9) rfl d_M_climb_56 ?_
  refine lv_bipush (v := 30) hx hb d_M_climb_59 (by decide) ?_
  refine lv_iload hx hb d_M_climb_61 (lv_at hl 2 rfl) ?_
  refine lv_imul hx hb d_M_climb_63 ?_
  refine lv_iload hx hb d_M_climb_64 (lv_at hl 3 rfl) ?_
  refine lv_iadd hx hb d_M_climb_66 ?_
  replace h := gd h
  obtain ⟨hi, h⟩ := h
  refine va_iald hx hb hK.1 hP 4 0 rfl rfl hi d_M_climb_67 ?_
  refine lv_iload hx hb d_M_climb_68 (lv_at hl 1 rfl) ?_
  refine lv_icmp_eq (tgt := 101) hx hb d_M_climb_70 (by decide) (fun hc => ?_) (fun hc => ?_)
  · rw [if_pos hc] at h
    exact t_M_climb_101 (a := a) C0 hA hk38 h hP hD hS (lv_sub hl [0, 1, 2, 3] rfl)
  · rw [if_neg hc] at h
    refine lv_aload_n hx hb d_M_climb_73 rfl (lv_at hl 0 rfl) ?_
    refine lv_aload_n hx hb d_M_climb_74 rfl (lv_at hl 0 rfl) ?_
    refine va_get (ci := 4) (v := .ref (a 24)) (C := R_M) (T := F_M) (N := 35) hx hb hts i_M hown hK.1 hP 0 rfl rfl 7 (by decide) (hts _ wd_338) (fun _ h9 => h9) rfl d_M_climb_75 ?_
    refine lv_bipush (v := 30) hx hb d_M_climb_78 (by decide) ?_
    refine lv_iload hx hb d_M_climb_80 (lv_at hl 2 rfl) ?_
    refine lv_imul hx hb d_M_climb_82 ?_
    refine lv_iload hx hb d_M_climb_83 (lv_at hl 3 rfl) ?_
    refine lv_iadd hx hb d_M_climb_85 ?_
    replace h := gd h
    obtain ⟨hi, h⟩ := h
    refine va_iald hx hb hK.1 hP 4 0 rfl rfl hi d_M_climb_86 ?_
    refine lv_iload hx hb d_M_climb_87 (lv_at hl 1 rfl) ?_
    replace h := bd h
    obtain ⟨r1, g1, h⟩ := h
    refine ro_V (n := 2) (ci := 4) (As := [.int ((M_directTo σ) ((30 * x5) + x6).toNatClampNeg), .int x4]) (rest := []) C0 (c_M_under l D cI cZ a q σ ((M_directTo σ) ((30 * x5) + x6).toNatClampNeg) x4 g1) wd_348 ⟨wd_349, wd_350, wd_351, wd_352⟩ (by decide +kernel) ⟨Nat.le_of_ble_eq_true rfl, Nat.le_of_ble_eq_true rfl⟩ hP rfl rfl rfl hl rfl rfl (Nat.le_of_ble_eq_true rfl) ⟨Nat.zero_le _, Nat.zero_le _⟩ d_M_climb_89 ?_
    try dsimp only at h
    refine lv_if_ne (tgt := 101) hx hb d_M_climb_92 (by decide) (fun hc => ?_) (fun hc => ?_)
    · rw [if_neg hc] at h
      exact t_M_climb_101 (a := a) C0 hA hk38 h hP hD hS (lv_sub hl [0, 1, 2, 3] rfl)
    · rw [if_pos hc] at h
      refine lv_iinc (v := (x6 + 1)) (lv' := [(6, .int (x6 + 1)), (0, .ref (a 20)), (4, .int x4), (5, .int x5)]) hx hb d_M_climb_95 hl (k := 3) rfl rfl (by decide) rfl (fun ls hl => ?_)
      refine lv_goto (tgt := 55) hx hb d_M_climb_98 (by decide) ?_
      exact hk55 _ _ _ _ _ _ _ _ h hP hD hS (lv_sub hl [1, 2, 3, 0] rfl)
set_option maxHeartbeats 4000000 in
set_option maxRecDepth 100000 in
theorem t_M_climb_55 {p : Program} {l : Launch} {e : Env} {s : State} {m : MethodId} {args : Array Value} {below : List Frame} {meth : Method} {c : Code} {D : va_G} {cI cZ : ClassId} {a : Nat → Nat} {A : Nat → Prop} (C0 : Am p s m args meth c b_M_climb none 8 R_M D [(cI, .int), (cZ, .boolean)]) (hA : ∀ q, s.heap.size ≤ q → A q) {res : Int32 × StM} {k38 : StM → Int32 → Int32 → Option (Int32 × StM)} (hk38 : ∀ (q : Nat) (σ : StM) (x4 x5 : Int32) (H : Heap) (locs : List Loc) (ls : Array Slot), k38 σ x4 x5 = some res → va_P D vwCl (wM cI cZ a q σ) H → va_D A (wM cI cZ a q σ) → va_S A s.heap H locs → lv_has ls 8 [(0, .ref (a 20)), (4, .int x4), (5, .int x5)] → W p l e (rmK 1 22 0 0) s m args below meth c H locs 0 0 (RwQv below args s D A (fun q (σ : StM) => (wM cI cZ a q σ)) res 0 0) (F0 m 38 ls [])) {n : Nat} {q : Nat} {σ : StM} {x4 x5 x6 : Int32} (h : f_M_climb_55 k38 n σ x4 x5 x6 = some res) {H : Heap} {locs : List Loc} (hP : va_P D vwCl (wM cI cZ a q σ) H) (hD : va_D A (wM cI cZ a q σ)) (hS : va_S A s.heap H locs) {ls : Array Slot} (hl : lv_has ls 8 [(0, .ref (a 20)), (4, .int x4), (5, .int x5), (6, .int x6)]) : W p l e (rmK 1 22 0 0) s m args below meth c H locs 0 0 (RwQv below args s D A (fun q (σ : StM) => (wM cI cZ a q σ)) res 0 0) (F0 m 55 ls []) := by
  induction n generalizing q σ x4 x5 x6 H locs ls with
  | zero => cases h
  | succ n ih => exact t_M_climb_55_s (a := a) C0 hA hk38 (fun _ _ _ _ _ _ _ _ h hP hD hS hl => ih h hP hD hS hl) h hP hD hS hl
set_option maxHeartbeats 4000000 in
set_option maxRecDepth 100000 in
theorem t_M_climb_38_s {p : Program} {l : Launch} {e : Env} {s : State} {m : MethodId} {args : Array Value} {below : List Frame} {meth : Method} {c : Code} {D : va_G} {cI cZ : ClassId} {a : Nat → Nat} {A : Nat → Prop} (C0 : Am p s m args meth c b_M_climb none 8 R_M D [(cI, .int), (cZ, .boolean)]) (hA : ∀ q, s.heap.size ≤ q → A q) {res : Int32 × StM} {k38 : StM → Int32 → Int32 → Option (Int32 × StM)}  (hk38 : ∀ (q : Nat) (σ : StM) (x4 x5 : Int32) (H : Heap) (locs : List Loc) (ls : Array Slot), k38 σ x4 x5 = some res → va_P D vwCl (wM cI cZ a q σ) H → va_D A (wM cI cZ a q σ) → va_S A s.heap H locs → lv_has ls 8 [(0, .ref (a 20)), (4, .int x4), (5, .int x5)] → W p l e (rmK 1 22 0 0) s m args below meth c H locs 0 0 (RwQv below args s D A (fun q (σ : StM) => (wM cI cZ a q σ)) res 0 0) (F0 m 38 ls [])) {q : Nat} {σ : StM} {x4 x5 : Int32} (h : f_M_climb_38_s k38 σ x4 x5 = some res) {H : Heap} {locs : List Loc} (hP : va_P D vwCl (wM cI cZ a q σ) H) (hD : va_D A (wM cI cZ a q σ)) (hS : va_S A s.heap H locs) {ls : Array Slot} (hl : lv_has ls 8 [(0, .ref (a 20)), (4, .int x4), (5, .int x5)]) : W p l e (rmK 1 22 0 0) s m args below meth c H locs 0 0 (RwQv below args s D A (fun q (σ : StM) => (wM cI cZ a q σ)) res 0 0) (F0 m 38 ls []) := by
  obtain ⟨hx, hb, hr, hml, hown, hts, hlk, hK⟩ := id C0
  unfold f_M_climb_38_s at h
  refine lv_aload_n hx hb d_M_climb_38 rfl (lv_at hl 0 rfl) ?_
  refine va_get (ci := 4) (v := .int (M_found σ)) (C := R_M) (T := F_M) (N := 35) hx hb hts i_M hown hK.1 hP 0 rfl rfl 19 (by decide) (hts _ wd_345) (fun _ h9 => h9) rfl d_M_climb_39 ?_
  refine lv_if_eq (tgt := 162) hx hb d_M_climb_42 (by decide) (fun hc => ?_) (fun hc => ?_)
  · rw [if_pos hc] at h
    exact rw_retv C0 hP hD hS (Option.some.inj h) d_M_climb_162
  · rw [if_neg hc] at h
    refine lv_iload hx hb d_M_climb_45 (lv_at hl 2 rfl) ?_
    refine lv_iload hx hb d_M_climb_47 (lv_at hl 1 rfl) ?_
    refine lv_icmp_eq (tgt := 162) hx hb d_M_climb_49 (by decide) (fun hc => ?_) (fun hc => ?_)
    · rw [if_pos hc] at h
      exact rw_retv C0 hP hD hS (Option.some.inj h) d_M_climb_162
    · rw [if_neg hc] at h
      refine lv_iconst (v := 0) hx hb d_M_climb_52 (by decide) ?_
      refine lv_istore (lv' := [(6, .int 0), (0, .ref (a 20)), (4, .int x4), (5, .int x5)]) hx hb d_M_climb_53 hl (by decide) rfl (fun ls hl => ?_)
      exact t_M_climb_55 (a := a) C0 hA hk38 h hP hD hS (lv_sub hl [1, 2, 3, 0] rfl)
set_option maxHeartbeats 4000000 in
set_option maxRecDepth 100000 in
theorem t_M_climb_38 {p : Program} {l : Launch} {e : Env} {s : State} {m : MethodId} {args : Array Value} {below : List Frame} {meth : Method} {c : Code} {D : va_G} {cI cZ : ClassId} {a : Nat → Nat} {A : Nat → Prop} (C0 : Am p s m args meth c b_M_climb none 8 R_M D [(cI, .int), (cZ, .boolean)]) (hA : ∀ q, s.heap.size ≤ q → A q) {res : Int32 × StM}  {n : Nat} {q : Nat} {σ : StM} {x4 x5 : Int32} (h : f_M_climb_38  n σ x4 x5 = some res) {H : Heap} {locs : List Loc} (hP : va_P D vwCl (wM cI cZ a q σ) H) (hD : va_D A (wM cI cZ a q σ)) (hS : va_S A s.heap H locs) {ls : Array Slot} (hl : lv_has ls 8 [(0, .ref (a 20)), (4, .int x4), (5, .int x5)]) : W p l e (rmK 1 22 0 0) s m args below meth c H locs 0 0 (RwQv below args s D A (fun q (σ : StM) => (wM cI cZ a q σ)) res 0 0) (F0 m 38 ls []) := by
  induction n generalizing q σ x4 x5 H locs ls with
  | zero => cases h
  | succ n ih => exact t_M_climb_38_s (a := a) C0 hA  (fun _ _ _ _ _ _ _ h hP hD hS hl => ih h hP hD hS hl) h hP hD hS hl
set_option maxHeartbeats 4000000 in
set_option maxRecDepth 100000 in
theorem t_M_climb_22 {p : Program} {l : Launch} {e : Env} {s : State} {m : MethodId} {args : Array Value} {below : List Frame} {meth : Method} {c : Code} {D : va_G} {cI cZ : ClassId} {a : Nat → Nat} {A : Nat → Prop} (C0 : Am p s m args meth c b_M_climb none 8 R_M D [(cI, .int), (cZ, .boolean)]) (hA : ∀ q, s.heap.size ≤ q → A q) {res : Int32 × StM}   {q : Nat} {σ : StM} {x1 x2 x3 x4 t1 : Int32} (h : f_M_climb_22 σ x1 x2 x3 x4 t1 = some res) {H : Heap} {locs : List Loc} (hP : va_P D vwCl (wM cI cZ a q σ) H) (hD : va_D A (wM cI cZ a q σ)) (hS : va_S A s.heap H locs) {ls : Array Slot} (hl : lv_has ls 8 [(0, .ref (a 20)), (1, .int x1), (2, .int x2), (3, .int x3), (4, .int x4)]) : W p l e (rmK 1 22 0 0) s m args below meth c H locs 0 0 (RwQv below args s D A (fun q (σ : StM) => (wM cI cZ a q σ)) res 0 0) (F0 m 22 ls [.int t1, .ref (a 20)]) := by
  obtain ⟨hx, hb, hr, hml, hown, hts, hlk, hK⟩ := id C0
  unfold f_M_climb_22 at h
  replace h := gd h
  obtain ⟨hi, h⟩ := h
  refine rw_put (v := .int t1) (fty := .boolean) (C := R_M) (T := F_M) (N := 35) C0 hP hD hS i_M ty_M tyok_M nn_M 0 rfl rfl 19 (by decide) (hts _ wd_345) rfl rfl (by decide +kernel) (zb_n hi) (zb_f hi) (Nat.le_of_ble_eq_true rfl) d_M_climb_22 (Wn := (wM cI cZ a q (M_set_found σ t1))) ws_M_set_found (fun H locs hP hD hS => ?_)
  refine lv_iload_n hx hb d_M_climb_25 rfl (lv_at hl 1 rfl) ?_
  refine lv_istore (lv' := [(5, .int x1), (0, .ref (a 20)), (1, .int x1), (2, .int x2), (3, .int x3), (4, .int x4)]) hx hb d_M_climb_26 hl (by decide) rfl (fun ls hl => ?_)
  refine lv_aload_n hx hb d_M_climb_28 rfl (lv_at hl 1 rfl) ?_
  refine lv_iload_n hx hb d_M_climb_29 rfl (lv_at hl 3 rfl) ?_
  refine rw_put (v := .int x2) (fty := .int) (C := R_M) (T := F_M) (N := 35) C0 hP hD hS i_M ty_M tyok_M nn_M 0 rfl rfl 20 (by decide) (hts _ wd_346) rfl rfl (by decide +kernel) rfl rfl (Nat.le_of_ble_eq_true rfl) d_M_climb_30 (Wn := (wM cI cZ a q (M_set_foundHow (M_set_found σ t1) x2))) ws_M_set_foundHow (fun H locs hP hD hS => ?_)
  refine lv_aload_n hx hb d_M_climb_33 rfl (lv_at hl 1 rfl) ?_
  refine lv_iload_n hx hb d_M_climb_34 rfl (lv_at hl 4 rfl) ?_
  refine rw_put (v := .int x3) (fty := .int) (C := R_M) (T := F_M) (N := 35) C0 hP hD hS i_M ty_M tyok_M nn_M 0 rfl rfl 21 (by decide) (hts _ wd_347) rfl rfl (by decide +kernel) rfl rfl (Nat.le_of_ble_eq_true rfl) d_M_climb_35 (Wn := (wM cI cZ a q (M_set_foundType (M_set_foundHow (M_set_found σ t1) x2) x3))) ws_M_set_foundType (fun H locs hP hD hS => ?_)
  exact t_M_climb_38 (a := a) C0 hA  h hP hD hS (lv_sub hl [1, 5, 0] rfl)
set_option maxHeartbeats 4000000 in
set_option maxRecDepth 100000 in
theorem t_M_climb_17 {p : Program} {l : Launch} {e : Env} {s : State} {m : MethodId} {args : Array Value} {below : List Frame} {meth : Method} {c : Code} {D : va_G} {cI cZ : ClassId} {a : Nat → Nat} {A : Nat → Prop} (C0 : Am p s m args meth c b_M_climb none 8 R_M D [(cI, .int), (cZ, .boolean)]) (hA : ∀ q, s.heap.size ≤ q → A q) {res : Int32 × StM}   {q : Nat} {σ : StM} {x1 x2 x3 x4 : Int32} (h : f_M_climb_17 σ x1 x2 x3 x4 = some res) {H : Heap} {locs : List Loc} (hP : va_P D vwCl (wM cI cZ a q σ) H) (hD : va_D A (wM cI cZ a q σ)) (hS : va_S A s.heap H locs) {ls : Array Slot} (hl : lv_has ls 8 [(0, .ref (a 20)), (1, .int x1), (2, .int x2), (3, .int x3), (4, .int x4)]) : W p l e (rmK 1 22 0 0) s m args below meth c H locs 0 0 (RwQv below args s D A (fun q (σ : StM) => (wM cI cZ a q σ)) res 0 0) (F0 m 17 ls [.ref (a 20)]) := by
  obtain ⟨hx, hb, hr, hml, hown, hts, hlk, hK⟩ := id C0
  unfold f_M_climb_17 at h
  refine lv_iconst (v := 1) hx hb d_M_climb_17 (by decide) ?_
  refine lv_goto (tgt := 22) hx hb d_M_climb_18 (by decide) ?_
  exact t_M_climb_22 (a := a) C0 hA  h hP hD hS (lv_sub hl [0, 1, 2, 3, 4] rfl)
set_option maxHeartbeats 4000000 in
set_option maxRecDepth 100000 in
theorem t_M_climb_0 {p : Program} {l : Launch} {e : Env} {s : State} {m : MethodId} {args : Array Value} {below : List Frame} {meth : Method} {c : Code} {D : va_G} {cI cZ : ClassId} {a : Nat → Nat} {A : Nat → Prop} (C0 : Am p s m args meth c b_M_climb none 8 R_M D [(cI, .int), (cZ, .boolean)]) (hA : ∀ q, s.heap.size ≤ q → A q) {res : Int32 × StM}   {q : Nat} {σ : StM} {x1 x2 x3 x4 : Int32} (h : f_M_climb σ x1 x2 x3 x4 = some res) {H : Heap} {locs : List Loc} (hP : va_P D vwCl (wM cI cZ a q σ) H) (hD : va_D A (wM cI cZ a q σ)) (hS : va_S A s.heap H locs) {ls : Array Slot} (hl : lv_has ls 8 [(0, .ref (a 20)), (1, .int x1), (2, .int x2), (3, .int x3), (4, .int x4)]) : W p l e (rmK 1 22 0 0) s m args below meth c H locs 0 0 (RwQv below args s D A (fun q (σ : StM) => (wM cI cZ a q σ)) res 0 0) (F0 m 0 ls []) := by
  obtain ⟨hx, hb, hr, hml, hown, hts, hlk, hK⟩ := id C0
  unfold f_M_climb at h
  refine lv_aload_n hx hb d_M_climb_0 rfl (lv_at hl 0 rfl) ?_
  refine lv_iload_n hx hb d_M_climb_1 rfl (lv_at hl 1 rfl) ?_
  refine lv_iload hx hb d_M_climb_2 (lv_at hl 4 rfl) ?_
  refine lv_icmp_eq (tgt := 17) hx hb d_M_climb_4 (by decide) (fun hc => ?_) (fun hc => ?_)
  · rw [if_pos hc] at h
    exact t_M_climb_17 (a := a) C0 hA  h hP hD hS (lv_sub hl [0, 1, 2, 3, 4] rfl)
  · rw [if_neg hc] at h
    refine lv_aload_n hx hb d_M_climb_7 rfl (lv_at hl 0 rfl) ?_
    refine lv_iload_n hx hb d_M_climb_8 rfl (lv_at hl 1 rfl) ?_
    refine lv_iload hx hb d_M_climb_9 (lv_at hl 4 rfl) ?_
    replace h := bd h
    obtain ⟨r2, g2, h⟩ := h
    refine ro_V (n := 2) (ci := 4) (As := [.int x1, .int x4]) (rest := [.ref (a 20)]) C0 (c_M_under l D cI cZ a q σ x1 x4 g2) wd_348 ⟨wd_349, wd_350, wd_351, wd_352⟩ (by decide +kernel) ⟨Nat.le_of_ble_eq_true rfl, Nat.le_of_ble_eq_true rfl⟩ hP rfl rfl rfl hl rfl rfl (Nat.le_of_ble_eq_true rfl) ⟨Nat.zero_le _, Nat.zero_le _⟩ d_M_climb_11 ?_
    try dsimp only at h
    refine lv_if_eq (tgt := 21) hx hb d_M_climb_14 (by decide) (fun hc => ?_) (fun hc => ?_)
    · rw [if_pos hc] at h
      refine lv_iconst (v := 0) hx hb d_M_climb_21 (by decide) ?_
      exact t_M_climb_22 (a := a) C0 hA  h hP hD hS (lv_sub hl [0, 1, 2, 3, 4] rfl)
    · rw [if_neg hc] at h
      exact t_M_climb_17 (a := a) C0 hA  h hP hD hS (lv_sub hl [0, 1, 2, 3, 4] rfl)
set_option maxHeartbeats 4000000 in
set_option maxRecDepth 100000 in
theorem c_M_climb (l : Launch) (D : va_G) (cI cZ : ClassId) (a : Nat → Nat) (q : Nat) (σ : StM) (x1 : Int32) (x2 : Int32) (x3 : Int32) (x4 : Int32) {res : Int32 × StM} (h : f_M_climb σ x1 x2 x3 x4 = some res) : RwMv l y_M_climb b_M_climb 8 1 22 D [(cI, .int), (cZ, .boolean)] [.ref (a 20), .int x1, .int x2, .int x3, .int x4] (fun q (σ : StM) => (wM cI cZ a q σ)) q σ res :=
  rw_ofv (by decide) (Nat.le_of_ble_eq_true rfl) (fun p e s m args below meth c ls A C0 hA hP hD hS hl => t_M_climb_0 (a := a) C0 hA h hP hD hS (lv_sub hl [0, 1, 2, 3, 4] rfl))
