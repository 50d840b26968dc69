def f_C_init_137 (k108 : StC → Int32 → Option (Int32 × StC)) (σ : StC) (x1 : Int32) : Option (Int32 × StC) :=
  (f_C_put σ 2 (-1)).bind fun r8 =>
  (f_C_put r8.2 3 (f_L_boxTypeOf x1)).bind fun r9 =>
  k108 r9.2 (x1 + 1)
def f_C_init_108_s (k108 : StC → Int32 → Option (Int32 × StC)) (σ : StC) (x1 : Int32) : Option (Int32 × StC) :=
  if 8 ≤ x1 then
    some (0, σ)
  else
    (f_C_add σ 0 0).bind fun r7 =>
    if x1 = 0 then
      f_C_init_137 k108 r7.2 x1
    else
      if x1 = 3 then
        f_C_init_137 k108 r7.2 x1
      else
        (f_C_put r7.2 4 (-1)).bind fun r10 =>
        f_C_init_137 k108 r10.2 x1
def f_C_init_108 : Nat → StC → Int32 → Option (Int32 × StC)
  | 0, _, _ => none
  | n + 1, σ, x1 => f_C_init_108_s (f_C_init_108 n) σ x1
def f_C_init_54 (σ : StC) : Option (Int32 × StC) :=
  (f_C_add (C_set_countGeneric (C_set_count σ 0) 0) 0 0).bind fun r1 =>
  (f_C_add r1.2 1 0).bind fun r2 =>
  (f_C_add r2.2 1 0).bind fun r3 =>
  (f_C_add r3.2 1 1).bind fun r4 =>
  (f_C_add r4.2 0 0).bind fun r5 =>
  (f_C_put r5.2 2 (-1)).bind fun r6 =>
  f_C_init_108 1000 r6.2 0
set_option maxHeartbeats 4000000 in
set_option maxRecDepth 100000 in
theorem t_C_init_137 {p : Program} {l : Launch} {e : Env} {s : State} {m : MethodId} {args : Array Value} {below : List Frame} {meth : Method} {c : Code} {D : va_G} {cI cZ : ClassId} {a : Nat → Nat} {A : Nat → Prop} (C0 : Am p s m args meth c b_C_init none 2 R_C D [(cI, .int), (cZ, .boolean)]) {kc ks : Nat} (hin2 : meth.name = "<init>") (hA : ∀ q, s.heap.size ≤ q → A q) {res : Int32 × StC} {k108 : StC → Int32 → Option (Int32 × StC)} (hk108 : ∀ (q : Nat) (σ : StC) (x1 : Int32) (H : Heap) (locs : List Loc) (ls : Array Slot), k108 σ x1 = some res → va_P D vwCl (wC cI cZ a q σ) H → va_D A (wC cI cZ a q σ) → va_S A s.heap H locs → lv_has ls 2 [(0, .ref (a 3)), (1, .int x1)] → W p l e (rmK 4 90 kc ks) s m args below meth c H locs kc ks (RwQv below args s D A (fun q (σ : StC) => (wC cI cZ a q σ)) res kc ks) (F0 m 108 ls []))  {q : Nat} {σ : StC} {x1 : Int32} (h : f_C_init_137 k108 σ x1 = some res) {H : Heap} {locs : List Loc} (hP : va_P D vwCl (wC cI cZ a q σ) H) (hD : va_D A (wC cI cZ a q σ)) (hS : va_S A s.heap H locs) {ls : Array Slot} (hl : lv_has ls 2 [(0, .ref (a 3)), (1, .int x1)]) : W p l e (rmK 4 90 kc ks) s m args below meth c H locs kc ks (RwQv below args s D A (fun q (σ : StC) => (wC cI cZ a q σ)) res kc ks) (F0 m 137 ls []) := by
  obtain ⟨hx, hb, hr, hml, hown, hts, hlk, hK⟩ := id C0
  unfold f_C_init_137 at h
  refine lv_aload_n hx hb d_C_init_137 rfl (lv_at hl 0 rfl) ?_
  refine lv_iconst (v := 2) hx hb d_C_init_138 (by decide) ?_
  refine lv_iconst (v := (-1)) hx hb d_C_init_139 (by decide) ?_
  replace h := bd h
  obtain ⟨r8, g8, h⟩ := h
  refine rw_V (n := 2) (ci := 1) (As := [.int 2, .int (-1)]) (rest := []) (Wn := fun _ => (wC cI cZ a q r8.2)) C0 hA (c_C_put l D cI cZ a q σ 2 (-1) g8) wd_488 ⟨wd_157, wd_158, wd_159, wd_8⟩ (by decide +kernel) ⟨Nat.le_of_ble_eq_true rfl, Nat.le_of_ble_eq_true rfl⟩ hP hD hS [0, 1, 2, 3, 4, 5, 6] [] [0, 1, 2, 3, 4, 5, 6] jn_C__C (by decide) jn_C__R (by decide) (by decide) (by decide) jn_C__W rfl rfl rfl hl rfl rfl (Nat.le_of_ble_eq_true rfl) ⟨Nat.le_refl _, Nat.le_refl _⟩ d_C_init_140 (fun H locs _ hP hD hS => ?_)
  try dsimp only at h
  refine lv_pop hx hb d_C_init_143 rfl ?_
  refine lv_aload_n hx hb d_C_init_144 rfl (lv_at hl 0 rfl) ?_
  refine lv_iconst (v := 3) hx hb d_C_init_145 (by decide) ?_
  refine lv_iload_n hx hb d_C_init_146 rfl (lv_at hl 1 rfl) ?_
  refine ro_SN (n := 1) (As := [.int x1]) (rest := [.int 3, .ref (a 3)]) C0 (c_L_boxTypeOf l D cI cZ a x1 rfl) (List.mem_of_getElem? (i := 0) rfl) ⟨wd_193, wd_194, wd_55⟩ (by decide +kernel) ⟨Nat.le_of_ble_eq_true rfl, Nat.le_of_ble_eq_true rfl⟩ pnil hl rfl rfl (Nat.le_of_ble_eq_true rfl) ⟨Nat.le_refl _, Nat.le_refl _⟩ d_C_init_147 ?_
  replace h := bd h
  obtain ⟨r9, g9, h⟩ := h
  refine rw_V (n := 2) (ci := 1) (As := [.int 3, .int (f_L_boxTypeOf x1)]) (rest := []) (Wn := fun _ => (wC cI cZ a q r9.2)) C0 hA (c_C_put l D cI cZ a q r8.2 3 (f_L_boxTypeOf x1) g9) wd_488 ⟨wd_157, wd_158, wd_159, wd_8⟩ (by decide +kernel) ⟨Nat.le_of_ble_eq_true rfl, Nat.le_of_ble_eq_true rfl⟩ hP hD hS [0, 1, 2, 3, 4, 5, 6] [] [0, 1, 2, 3, 4, 5, 6] jn_C__C (by decide) jn_C__R (by decide) (by decide) (by decide) jn_C__W rfl rfl rfl hl rfl rfl (Nat.le_of_ble_eq_true rfl) ⟨Nat.le_refl _, Nat.le_refl _⟩ d_C_init_150 (fun H locs _ hP hD hS => ?_)
  try dsimp only at h
  refine lv_pop hx hb d_C_init_153 rfl ?_
  refine lv_iinc (v := (x1 + 1)) (lv' := [(1, .int (x1 + 1)), (0, .ref (a 3))]) hx hb d_C_init_154 hl (k := 1) rfl rfl (by decide) rfl (fun ls hl => ?_)
  refine lv_goto (tgt := 108) hx hb d_C_init_157 (by decide) ?_
  exact hk108 _ _ _ _ _ _ h hP hD hS (lv_sub hl [1, 0] rfl)
set_option maxHeartbeats 4000000 in
set_option maxRecDepth 100000 in
theorem t_C_init_108_s {p : Program} {l : Launch} {e : Env} {s : State} {m : MethodId} {args : Array Value} {below : List Frame} {meth : Method} {c : Code} {D : va_G} {cI cZ : ClassId} {a : Nat → Nat} {A : Nat → Prop} (C0 : Am p s m args meth c b_C_init none 2 R_C D [(cI, .int), (cZ, .boolean)]) {kc ks : Nat} (hin2 : meth.name = "<init>") (hA : ∀ q, s.heap.size ≤ q → A q) {res : Int32 × StC} {k108 : StC → Int32 → Option (Int32 × StC)}  (hk108 : ∀ (q : Nat) (σ : StC) (x1 : Int32) (H : Heap) (locs : List Loc) (ls : Array Slot), k108 σ x1 = some res → va_P D vwCl (wC cI cZ a q σ) H → va_D A (wC cI cZ a q σ) → va_S A s.heap H locs → lv_has ls 2 [(0, .ref (a 3)), (1, .int x1)] → W p l e (rmK 4 90 kc ks) s m args below meth c H locs kc ks (RwQv below args s D A (fun q (σ : StC) => (wC cI cZ a q σ)) res kc ks) (F0 m 108 ls [])) {q : Nat} {σ : StC} {x1 : Int32} (h : f_C_init_108_s k108 σ x1 = some res) {H : Heap} {locs : List Loc} (hP : va_P D vwCl (wC cI cZ a q σ) H) (hD : va_D A (wC cI cZ a q σ)) (hS : va_S A s.heap H locs) {ls : Array Slot} (hl : lv_has ls 2 [(0, .ref (a 3)), (1, .int x1)]) : W p l e (rmK 4 90 kc ks) s m args below meth c H locs kc ks (RwQv below args s D A (fun q (σ : StC) => (wC cI cZ a q σ)) res kc ks) (F0 m 108 ls []) := by
  obtain ⟨hx, hb, hr, hml, hown, hts, hlk, hK⟩ := id C0
  unfold f_C_init_108_s at h
  refine lv_iload_n hx hb d_C_init_108 rfl (lv_at hl 1 rfl) ?_
  refine lv_bipush (v := 8) hx hb d_C_init_109 (by decide) ?_
  refine lv_icmp_ge (tgt := 160) hx hb d_C_init_111 (by decide) (fun hc => ?_) (fun hc => ?_)
  · rw [if_pos hc] at h
    exact rw_retv C0 hP hD hS (Option.some.inj h) d_C_init_160
  · rw [if_neg hc] at h
    refine lv_aload_n hx hb d_C_init_114 rfl (lv_at hl 0 rfl) ?_
    refine lv_iconst (v := 0) hx hb d_C_init_115 (by decide) ?_
    refine lv_iconst (v := 0) hx hb d_C_init_116 (by decide) ?_
    replace h := bd h
    obtain ⟨r7, g7, h⟩ := h
    refine rw_V (n := 2) (ci := 1) (As := [.int 0, .int 0]) (rest := []) (Wn := fun _ => (wC cI cZ a q r7.2)) C0 hA (c_C_add l D cI cZ a q σ 0 0 g7) wd_487 ⟨wd_73, wd_74, wd_75, wd_8⟩ (by decide +kernel) ⟨Nat.le_of_ble_eq_true rfl, Nat.le_of_ble_eq_true rfl⟩ hP hD hS [0, 1, 2, 3, 4, 5, 6] [] [0, 1, 2, 3, 4, 5, 6] jn_C__C (by decide) jn_C__R (by decide) (by decide) (by decide) jn_C__W rfl rfl rfl hl rfl rfl (Nat.le_of_ble_eq_true rfl) ⟨Nat.le_refl _, Nat.le_refl _⟩ d_C_init_117 (fun H locs _ hP hD hS => ?_)
    try dsimp only at h
    refine lv_pop hx hb d_C_init_120 rfl ?_
    refine lv_iload_n hx hb d_C_init_121 rfl (lv_at hl 1 rfl) ?_
    refine lv_if_eq (tgt := 137) hx hb d_C_init_122 (by decide) (fun hc => ?_) (fun hc => ?_)
    · rw [if_pos hc] at h
      exact t_C_init_137 (a := a) C0 hin2 hA hk108 h hP hD hS (lv_sub hl [0, 1] rfl)
    · rw [if_neg hc] at h
      refine lv_iload_n hx hb d_C_init_125 rfl (lv_at hl 1 rfl) ?_
      refine lv_iconst (v := 3) hx hb d_C_init_126 (by decide) ?_
      refine lv_icmp_eq (tgt := 137) hx hb d_C_init_127 (by decide) (fun hc => ?_) (fun hc => ?_)
      · rw [if_pos hc] at h
        exact t_C_init_137 (a := a) C0 hin2 hA hk108 h hP hD hS (lv_sub hl [0, 1] rfl)
      · rw [if_neg hc] at h
        refine lv_aload_n hx hb d_C_init_130 rfl (lv_at hl 0 rfl) ?_
        refine lv_iconst (v := 4) hx hb d_C_init_131 (by decide) ?_
        refine lv_iconst (v := (-1)) hx hb d_C_init_132 (by decide) ?_
        replace h := bd h
        obtain ⟨r10, g10, h⟩ := h
        refine rw_V (n := 2) (ci := 1) (As := [.int 4, .int (-1)]) (rest := []) (Wn := fun _ => (wC cI cZ a q r10.2)) C0 hA (c_C_put l D cI cZ a q r7.2 4 (-1) g10) wd_488 ⟨wd_157, wd_158, wd_159, wd_8⟩ (by decide +kernel) ⟨Nat.le_of_ble_eq_true rfl, Nat.le_of_ble_eq_true rfl⟩ hP hD hS [0, 1, 2, 3, 4, 5, 6] [] [0, 1, 2, 3, 4, 5, 6] jn_C__C (by decide) jn_C__R (by decide) (by decide) (by decide) jn_C__W rfl rfl rfl hl rfl rfl (Nat.le_of_ble_eq_true rfl) ⟨Nat.le_refl _, Nat.le_refl _⟩ d_C_init_133 (fun H locs _ hP hD hS => ?_)
        try dsimp only at h
        refine lv_pop hx hb d_C_init_136 rfl ?_
        exact t_C_init_137 (a := a) C0 hin2 hA hk108 h hP hD hS (lv_sub hl [0, 1] rfl)
set_option maxHeartbeats 4000000 in
set_option maxRecDepth 100000 in
theorem t_C_init_108 {p : Program} {l : Launch} {e : Env} {s : State} {m : MethodId} {args : Array Value} {below : List Frame} {meth : Method} {c : Code} {D : va_G} {cI cZ : ClassId} {a : Nat → Nat} {A : Nat → Prop} (C0 : Am p s m args meth c b_C_init none 2 R_C D [(cI, .int), (cZ, .boolean)]) {kc ks : Nat} (hin2 : meth.name = "<init>") (hA : ∀ q, s.heap.size ≤ q → A q) {res : Int32 × StC}  {n : Nat} {q : Nat} {σ : StC} {x1 : Int32} (h : f_C_init_108  n σ x1 = some res) {H : Heap} {locs : List Loc} (hP : va_P D vwCl (wC cI cZ a q σ) H) (hD : va_D A (wC cI cZ a q σ)) (hS : va_S A s.heap H locs) {ls : Array Slot} (hl : lv_has ls 2 [(0, .ref (a 3)), (1, .int x1)]) : W p l e (rmK 4 90 kc ks) s m args below meth c H locs kc ks (RwQv below args s D A (fun q (σ : StC) => (wC cI cZ a q σ)) res kc ks) (F0 m 108 ls []) := by
  induction n generalizing q σ x1 H locs ls with
  | zero => cases h
  | succ n ih => exact t_C_init_108_s (a := a) C0 hin2 hA  (fun _ _ _ _ _ _ h hP hD hS hl => ih h hP hD hS hl) h hP hD hS hl
set_option maxHeartbeats 4000000 in
set_option maxRecDepth 100000 in
theorem t_C_init_54 {p : Program} {l : Launch} {e : Env} {s : State} {m : MethodId} {args : Array Value} {below : List Frame} {meth : Method} {c : Code} {D : va_G} {cI cZ : ClassId} {a : Nat → Nat} {A : Nat → Prop} (C0 : Am p s m args meth c b_C_init none 2 R_C D [(cI, .int), (cZ, .boolean)]) {kc ks : Nat} (hin2 : meth.name = "<init>") (hA : ∀ q, s.heap.size ≤ q → A q) {res : Int32 × StC}   {q : Nat} {σ : StC} (h : f_C_init_54 σ = some res) {H : Heap} {locs : List Loc} (hP : va_P D vwCl (wC cI cZ a q σ) H) (hD : va_D A (wC cI cZ a q σ)) (hS : va_S A s.heap H locs) {ls : Array Slot} (hl : lv_has ls 2 [(0, .ref (a 3))]) : W p l e (rmK 4 90 kc ks) s m args below meth c H locs kc ks (RwQv below args s D A (fun q (σ : StC) => (wC cI cZ a q σ)) res kc ks) (F0 m 54 ls []) := by
  obtain ⟨hx, hb, hr, hml, hown, hts, hlk, hK⟩ := id C0
  unfold f_C_init_54 at h
  refine lv_aload_n hx hb d_C_init_54 rfl (lv_at hl 0 rfl) ?_
  refine lv_iconst (v := 0) hx hb d_C_init_55 (by decide) ?_
  refine rw_put (v := .int 0) (fty := .int) (C := R_C) (T := F_C) (N := 8) C0 hP hD hS i_C ty_C tyok_C nn_C 0 rfl rfl 6 (by decide) (hts _ wd_3) rfl rfl (by decide +kernel) rfl rfl (Nat.le_of_ble_eq_true rfl) d_C_init_56 (Wn := (wC cI cZ a q (C_set_count σ 0))) ws_C_set_count (fun H locs hP hD hS => ?_)
  refine lv_aload_n hx hb d_C_init_59 rfl (lv_at hl 0 rfl) ?_
  refine lv_iconst (v := 0) hx hb d_C_init_60 (by decide) ?_
  refine rw_put (v := .int 0) (fty := .int) (C := R_C) (T := F_C) (N := 8) C0 hP hD hS i_C ty_C tyok_C nn_C 0 rfl rfl 7 (by decide) (hts _ wd_27) rfl rfl (by decide +kernel) rfl rfl (Nat.le_of_ble_eq_true rfl) d_C_init_61 (Wn := (wC cI cZ a q (C_set_countGeneric (C_set_count σ 0) 0))) ws_C_set_countGeneric (fun H locs hP hD hS => ?_)
  refine lv_aload_n hx hb d_C_init_64 rfl (lv_at hl 0 rfl) ?_
  refine lv_iconst (v := 0) hx hb d_C_init_65 (by decide) ?_
  refine lv_iconst (v := 0) hx hb d_C_init_66 (by decide) ?_
  replace h := bd h
  obtain ⟨r1, g1, h⟩ := h
  refine rw_V (n := 2) (ci := 1) (As := [.int 0, .int 0]) (rest := []) (Wn := fun _ => (wC cI cZ a q r1.2)) C0 hA (c_C_add l D cI cZ a q (C_set_countGeneric (C_set_count σ 0) 0) 0 0 g1) wd_487 ⟨wd_73, wd_74, wd_75, wd_8⟩ (by decide +kernel) ⟨Nat.le_of_ble_eq_true rfl, Nat.le_of_ble_eq_true rfl⟩ hP hD hS [0, 1, 2, 3, 4, 5, 6] [] [0, 1, 2, 3, 4, 5, 6] jn_C__C (by decide) jn_C__R (by decide) (by decide) (by decide) jn_C__W rfl rfl rfl hl rfl rfl (Nat.le_of_ble_eq_true rfl) ⟨Nat.le_refl _, Nat.le_refl _⟩ d_C_init_67 (fun H locs _ hP hD hS => ?_)
  try dsimp only at h
  refine lv_pop hx hb d_C_init_70 rfl ?_
  refine lv_aload_n hx hb d_C_init_71 rfl (lv_at hl 0 rfl) ?_
  refine lv_iconst (v := 1) hx hb d_C_init_72 (by decide) ?_
  refine lv_iconst (v := 0) hx hb d_C_init_73 (by decide) ?_
  replace h := bd h
  obtain ⟨r2, g2, h⟩ := h
  refine rw_V (n := 2) (ci := 1) (As := [.int 1, .int 0]) (rest := []) (Wn := fun _ => (wC cI cZ a q r2.2)) C0 hA (c_C_add l D cI cZ a q r1.2 1 0 g2) wd_487 ⟨wd_73, wd_74, wd_75, wd_8⟩ (by decide +kernel) ⟨Nat.le_of_ble_eq_true rfl, Nat.le_of_ble_eq_true rfl⟩ hP hD hS [0, 1, 2, 3, 4, 5, 6] [] [0, 1, 2, 3, 4, 5, 6] jn_C__C (by decide) jn_C__R (by decide) (by decide) (by decide) jn_C__W rfl rfl rfl hl rfl rfl (Nat.le_of_ble_eq_true rfl) ⟨Nat.le_refl _, Nat.le_refl _⟩ d_C_init_74 (fun H locs _ hP hD hS => ?_)
  try dsimp only at h
  refine lv_pop hx hb d_C_init_77 rfl ?_
  refine lv_aload_n hx hb d_C_init_78 rfl (lv_at hl 0 rfl) ?_
  refine lv_iconst (v := 1) hx hb d_C_init_79 (by decide) ?_
  refine lv_iconst (v := 0) hx hb d_C_init_80 (by decide) ?_
  replace h := bd h
  obtain ⟨r3, g3, h⟩ := h
  refine rw_V (n := 2) (ci := 1) (As := [.int 1, .int 0]) (rest := []) (Wn := fun _ => (wC cI cZ a q r3.2)) C0 hA (c_C_add l D cI cZ a q r2.2 1 0 g3) wd_487 ⟨wd_73, wd_74, wd_75, wd_8⟩ (by decide +kernel) ⟨Nat.le_of_ble_eq_true rfl, Nat.le_of_ble_eq_true rfl⟩ hP hD hS [0, 1, 2, 3, 4, 5, 6] [] [0, 1, 2, 3, 4, 5, 6] jn_C__C (by decide) jn_C__R (by decide) (by decide) (by decide) jn_C__W rfl rfl rfl hl rfl rfl (Nat.le_of_ble_eq_true rfl) ⟨Nat.le_refl _, Nat.le_refl _⟩ d_C_init_81 (fun H locs _ hP hD hS => ?_)
  try dsimp only at h
  refine lv_pop hx hb d_C_init_84 rfl ?_
  refine lv_aload_n hx hb d_C_init_85 rfl (lv_at hl 0 rfl) ?_
  refine lv_iconst (v := 1) hx hb d_C_init_86 (by decide) ?_
  refine lv_iconst (v := 1) hx hb d_C_init_87 (by decide) ?_
  replace h := bd h
  obtain ⟨r4, g4, h⟩ := h
  refine rw_V (n := 2) (ci := 1) (As := [.int 1, .int 1]) (rest := []) (Wn := fun _ => (wC cI cZ a q r4.2)) C0 hA (c_C_add l D cI cZ a q r3.2 1 1 g4) wd_487 ⟨wd_73, wd_74, wd_75, wd_8⟩ (by decide +kernel) ⟨Nat.le_of_ble_eq_true rfl, Nat.le_of_ble_eq_true rfl⟩ hP hD hS [0, 1, 2, 3, 4, 5, 6] [] [0, 1, 2, 3, 4, 5, 6] jn_C__C (by decide) jn_C__R (by decide) (by decide) (by decide) jn_C__W rfl rfl rfl hl rfl rfl (Nat.le_of_ble_eq_true rfl) ⟨Nat.le_refl _, Nat.le_refl _⟩ d_C_init_88 (fun H locs _ hP hD hS => ?_)
  try dsimp only at h
  refine lv_pop hx hb d_C_init_91 rfl ?_
  refine lv_aload_n hx hb d_C_init_92 rfl (lv_at hl 0 rfl) ?_
  refine lv_iconst (v := 0) hx hb d_C_init_93 (by decide) ?_
  refine lv_iconst (v := 0) hx hb d_C_init_94 (by decide) ?_
  replace h := bd h
  obtain ⟨r5, g5, h⟩ := h
  refine rw_V (n := 2) (ci := 1) (As := [.int 0, .int 0]) (rest := []) (Wn := fun _ => (wC cI cZ a q r5.2)) C0 hA (c_C_add l D cI cZ a q r4.2 0 0 g5) wd_487 ⟨wd_73, wd_74, wd_75, wd_8⟩ (by decide +kernel) ⟨Nat.le_of_ble_eq_true rfl, Nat.le_of_ble_eq_true rfl⟩ hP hD hS [0, 1, 2, 3, 4, 5, 6] [] [0, 1, 2, 3, 4, 5, 6] jn_C__C (by decide) jn_C__R (by decide) (by decide) (by decide) jn_C__W rfl rfl rfl hl rfl rfl (Nat.le_of_ble_eq_true rfl) ⟨Nat.le_refl _, Nat.le_refl _⟩ d_C_init_95 (fun H locs _ hP hD hS => ?_)
  try dsimp only at h
  refine lv_pop hx hb d_C_init_98 rfl ?_
  refine lv_aload_n hx hb d_C_init_99 rfl (lv_at hl 0 rfl) ?_
  refine lv_iconst (v := 2) hx hb d_C_init_100 (by decide) ?_
  refine lv_iconst (v := (-1)) hx hb d_C_init_101 (by decide) ?_
  replace h := bd h
  obtain ⟨r6, g6, h⟩ := h
  refine rw_V (n := 2) (ci := 1) (As := [.int 2, .int (-1)]) (rest := []) (Wn := fun _ => (wC cI cZ a q r6.2)) C0 hA (c_C_put l D cI cZ a q r5.2 2 (-1) g6) wd_488 ⟨wd_157, wd_158, wd_159, wd_8⟩ (by decide +kernel) ⟨Nat.le_of_ble_eq_true rfl, Nat.le_of_ble_eq_true rfl⟩ hP hD hS [0, 1, 2, 3, 4, 5, 6] [] [0, 1, 2, 3, 4, 5, 6] jn_C__C (by decide) jn_C__R (by decide) (by decide) (by decide) jn_C__W rfl rfl rfl hl rfl rfl (Nat.le_of_ble_eq_true rfl) ⟨Nat.le_refl _, Nat.le_refl _⟩ d_C_init_102 (fun H locs _ hP hD hS => ?_)
  try dsimp only at h
  refine lv_pop hx hb d_C_init_105 rfl ?_
  refine lv_iconst (v := 0) hx hb d_C_init_106 (by decide) ?_
  refine lv_istore_n (lv' := [(1, .int 0), (0, .ref (a 3))]) hx hb d_C_init_107 rfl hl (by decide) rfl (fun ls hl => ?_)
  exact t_C_init_108 (a := a) C0 hin2 hA  h hP hD hS (lv_sub hl [1, 0] rfl)
