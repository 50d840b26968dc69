def f_T_init_118_s (k118 : StT → Int32 → Option (Int32 × StT)) (σ : StT) (x1 : Int32) : Option (Int32 × StT) :=
  if 8 ≤ x1 then
    (f_T_settle σ).bind fun r1 =>
    some (0, r1.2)
  else
    (f_T_makeNamed σ (5 + x1) 0).bind fun r2 =>
    k118 r2.2 (x1 + 1)
def f_T_init_118 : Nat → StT → Int32 → Option (Int32 × StT)
  | 0, _, _ => none
  | n + 1, σ, x1 => f_T_init_118_s (f_T_init_118 n) σ x1
def f_T_init_97_s (k97 : StT → Int32 → Option (Int32 × StT)) (σ : StT) (x1 : Int32) : Option (Int32 × StT) :=
  if 8 ≤ x1 then
    f_T_init_118 1000 σ 0
  else
    (f_T_append σ 0 1).bind fun r3 =>
    k97 r3.2 (x1 + 1)
def f_T_init_97 : Nat → StT → Int32 → Option (Int32 × StT)
  | 0, _, _ => none
  | n + 1, σ, x1 => f_T_init_97_s (f_T_init_97 n) σ x1
def f_T_init_75 (σ : StT) : Option (Int32 × StT) :=
  f_T_init_97 1000 (T_set_settledCount (T_set_settledParts (T_set_count (T_set_partsUsed σ 0) 0) 0) 0) 0
set_option maxHeartbeats 4000000 in
set_option maxRecDepth 100000 in
theorem t_T_init_118_s {p : Program} {l : Launch} {e : Env} {s : State} {m : MethodId} {args : Array Value} {below : List Frame} {meth : Method} {c : Code} {D : va_G} {cI cZ : ClassId} {a : Nat → Nat} {A : Nat → Prop} (C0 : Am p s m args meth c b_T_init none 2 R_T D [(cI, .int), (cZ, .boolean)]) {kc ks : Nat} (hin2 : meth.name = "<init>") (hA : ∀ q, s.heap.size ≤ q → A q) {res : Int32 × StT} {k118 : StT → Int32 → Option (Int32 × StT)}  (hk118 : ∀ (q : Nat) (σ : StT) (x1 : Int32) (H : Heap) (locs : List Loc) (ls : Array Slot), k118 σ x1 = some res → va_P D vwCl (wT cI cZ a q σ) H → va_D A (wT cI cZ a q σ) → va_S A s.heap H locs → lv_has ls 2 [(0, .ref (a 10)), (1, .int x1)] → W p l e (rmK 3 65 kc ks) s m args below meth c H locs kc ks (RwQv below args s D A (fun q (σ : StT) => (wT cI cZ a q σ)) res kc ks) (F0 m 118 ls [])) {q : Nat} {σ : StT} {x1 : Int32} (h : f_T_init_118_s k118 σ x1 = some res) {H : Heap} {locs : List Loc} (hP : va_P D vwCl (wT cI cZ a q σ) H) (hD : va_D A (wT cI cZ a q σ)) (hS : va_S A s.heap H locs) {ls : Array Slot} (hl : lv_has ls 2 [(0, .ref (a 10)), (1, .int x1)]) : W p l e (rmK 3 65 kc ks) s m args below meth c H locs kc ks (RwQv below args s D A (fun q (σ : StT) => (wT cI cZ a q σ)) res kc ks) (F0 m 118 ls []) := by
  obtain ⟨hx, hb, hr, hml, hown, hts, hlk, hK⟩ := id C0
  unfold f_T_init_118_s at h
  refine lv_iload_n hx hb d_T_init_118 rfl (lv_at hl 1 rfl) ?_
  refine lv_bipush (v := 8) hx hb d_T_init_119 (by decide) ?_
  refine lv_icmp_ge (tgt := 139) hx hb d_T_init_121 (by decide) (fun hc => ?_) (fun hc => ?_)
  · rw [if_pos hc] at h
    refine lv_aload_n hx hb d_T_init_139 rfl (lv_at hl 0 rfl) ?_
    replace h := bd h
    obtain ⟨r1, g1, h⟩ := h
    refine rw_Vv (n := 0) (ci := 2) (As := []) (rest := []) (Wn := fun q => (wT cI cZ a q r1.2)) C0 hA (c_T_settle l D cI cZ a q σ g1) wd_492 ⟨wd_167, wd_168, wd_169, wd_52⟩ (by decide +kernel) ⟨Nat.le_of_ble_eq_true rfl, Nat.le_of_ble_eq_true rfl⟩ hP hD hS [0, 1, 2, 3, 4, 5, 6, 7, 8] [] [0, 1, 2, 3, 4, 5, 6, 7, 8] jn_T__C (by decide) jn_T__R (by decide) (by decide) (by decide) jn_T__W rfl rfl rfl hl rfl rfl (Nat.le_of_ble_eq_true rfl) ⟨Nat.le_refl _, Nat.le_refl _⟩ d_T_init_140 (fun H locs q hP hD hS => ?_)
    try dsimp only at h
    exact rw_retv C0 hP hD hS (Option.some.inj h) d_T_init_143
  · rw [if_neg hc] at h
    refine lv_aload_n hx hb d_T_init_124 rfl (lv_at hl 0 rfl) ?_
    refine lv_iconst (v := 5) hx hb d_T_init_125 (by decide) ?_
    refine lv_iload_n hx hb d_T_init_126 rfl (lv_at hl 1 rfl) ?_
    refine lv_iadd hx hb d_T_init_127 ?_
    refine lv_iconst (v := 0) hx hb d_T_init_128 (by decide) ?_
    replace h := bd h
    obtain ⟨r2, g2, h⟩ := h
    refine rw_V (n := 2) (ci := 2) (As := [.int (5 + x1), .int 0]) (rest := []) (Wn := fun q => (wT cI cZ a q r2.2)) C0 hA (c_T_makeNamed l D cI cZ a q σ (5 + x1) 0 g2) wd_493 ⟨wd_176, wd_177, wd_178, wd_52⟩ (by decide +kernel) ⟨Nat.le_of_ble_eq_true rfl, Nat.le_of_ble_eq_true rfl⟩ hP hD hS [0, 1, 2, 3, 4, 5, 6, 7, 8] [] [0, 1, 2, 3, 4, 5, 6, 7, 8] jn_T__C (by decide) jn_T__R (by decide) (by decide) (by decide) jn_T__W rfl rfl rfl hl rfl rfl (Nat.le_of_ble_eq_true rfl) ⟨Nat.le_refl _, Nat.le_refl _⟩ d_T_init_129 (fun H locs q hP hD hS => ?_)
    try dsimp only at h
    refine lv_pop hx hb d_T_init_132 rfl ?_
    refine lv_iinc (v := (x1 + 1)) (lv' := [(1, .int (x1 + 1)), (0, .ref (a 10))]) hx hb d_T_init_133 hl (k := 1) rfl rfl (by decide) rfl (fun ls hl => ?_)
    refine lv_goto (tgt := 118) hx hb d_T_init_136 (by decide) ?_
    exact hk118 _ _ _ _ _ _ h hP hD hS (lv_sub hl [1, 0] rfl)
set_option maxHeartbeats 4000000 in
set_option maxRecDepth 100000 in
theorem t_T_init_118 {p : Program} {l : Launch} {e : Env} {s : State} {m : MethodId} {args : Array Value} {below : List Frame} {meth : Method} {c : Code} {D : va_G} {cI cZ : ClassId} {a : Nat → Nat} {A : Nat → Prop} (C0 : Am p s m args meth c b_T_init none 2 R_T D [(cI, .int), (cZ, .boolean)]) {kc ks : Nat} (hin2 : meth.name = "<init>") (hA : ∀ q, s.heap.size ≤ q → A q) {res : Int32 × StT}  {n : Nat} {q : Nat} {σ : StT} {x1 : Int32} (h : f_T_init_118  n σ x1 = some res) {H : Heap} {locs : List Loc} (hP : va_P D vwCl (wT cI cZ a q σ) H) (hD : va_D A (wT cI cZ a q σ)) (hS : va_S A s.heap H locs) {ls : Array Slot} (hl : lv_has ls 2 [(0, .ref (a 10)), (1, .int x1)]) : W p l e (rmK 3 65 kc ks) s m args below meth c H locs kc ks (RwQv below args s D A (fun q (σ : StT) => (wT cI cZ a q σ)) res kc ks) (F0 m 118 ls []) := by
  induction n generalizing q σ x1 H locs ls with
  | zero => cases h
  | succ n ih => exact t_T_init_118_s (a := a) C0 hin2 hA  (fun _ _ _ _ _ _ h hP hD hS hl => ih h hP hD hS hl) h hP hD hS hl
set_option maxHeartbeats 4000000 in
set_option maxRecDepth 100000 in
theorem t_T_init_97_s {p : Program} {l : Launch} {e : Env} {s : State} {m : MethodId} {args : Array Value} {below : List Frame} {meth : Method} {c : Code} {D : va_G} {cI cZ : ClassId} {a : Nat → Nat} {A : Nat → Prop} (C0 : Am p s m args meth c b_T_init none 2 R_T D [(cI, .int), (cZ, .boolean)]) {kc ks : Nat} (hin2 : meth.name = "<init>") (hA : ∀ q, s.heap.size ≤ q → A q) {res : Int32 × StT} {k97 : StT → Int32 → Option (Int32 × StT)}  (hk97 : ∀ (q : Nat) (σ : StT) (x1 : Int32) (H : Heap) (locs : List Loc) (ls : Array Slot), k97 σ x1 = some res → va_P D vwCl (wT cI cZ a q σ) H → va_D A (wT cI cZ a q σ) → va_S A s.heap H locs → lv_has ls 2 [(0, .ref (a 10)), (1, .int x1)] → W p l e (rmK 3 65 kc ks) s m args below meth c H locs kc ks (RwQv below args s D A (fun q (σ : StT) => (wT cI cZ a q σ)) res kc ks) (F0 m 97 ls [])) {q : Nat} {σ : StT} {x1 : Int32} (h : f_T_init_97_s k97 σ x1 = some res) {H : Heap} {locs : List Loc} (hP : va_P D vwCl (wT cI cZ a q σ) H) (hD : va_D A (wT cI cZ a q σ)) (hS : va_S A s.heap H locs) {ls : Array Slot} (hl : lv_has ls 2 [(0, .ref (a 10)), (1, .int x1)]) : W p l e (rmK 3 65 kc ks) s m args below meth c H locs kc ks (RwQv below args s D A (fun q (σ : StT) => (wT cI cZ a q σ)) res kc ks) (F0 m 97 ls []) := by
  obtain ⟨hx, hb, hr, hml, hown, hts, hlk, hK⟩ := id C0
  unfold f_T_init_97_s at h
  refine lv_iload_n hx hb d_T_init_97 rfl (lv_at hl 1 rfl) ?_
  refine lv_bipush (v := 8) hx hb d_T_init_98 (by decide) ?_
  refine lv_icmp_ge (tgt := 116) hx hb d_T_init_100 (by decide) (fun hc => ?_) (fun hc => ?_)
  · rw [if_pos hc] at h
    refine lv_iconst (v := 0) hx hb d_T_init_116 (by decide) ?_
    refine lv_istore_n (lv' := [(1, .int 0), (0, .ref (a 10))]) hx hb d_T_init_117 rfl hl (by decide) rfl (fun ls hl => ?_)
    exact t_T_init_118 (a := a) C0 hin2 hA  h hP hD hS (lv_sub hl [1, 0] rfl)
  · rw [if_neg hc] at h
    refine lv_aload_n hx hb d_T_init_103 rfl (lv_at hl 0 rfl) ?_
    refine lv_iconst (v := 0) hx hb d_T_init_104 (by decide) ?_
    refine lv_iconst (v := 1) hx hb d_T_init_105 (by decide) ?_
    replace h := bd h
    obtain ⟨r3, g3, h⟩ := h
    refine rw_V (n := 2) (ci := 2) (As := [.int 0, .int 1]) (rest := []) (Wn := fun q => (wT cI cZ a q r3.2)) C0 hA (c_T_append l D cI cZ a q σ 0 1 g3) wd_60 ⟨wd_61, wd_62, wd_63, wd_52⟩ (by decide +kernel) ⟨Nat.le_of_ble_eq_true rfl, Nat.le_of_ble_eq_true rfl⟩ hP hD hS [0, 1, 2, 3, 4, 5, 6, 7, 8] [] [0, 1, 2, 3, 4, 5, 6, 7, 8] jn_T__C (by decide) jn_T__R (by decide) (by decide) (by decide) jn_T__W rfl rfl rfl hl rfl rfl (Nat.le_of_ble_eq_true rfl) ⟨Nat.le_refl _, Nat.le_refl _⟩ d_T_init_106 (fun H locs q hP hD hS => ?_)
    try dsimp only at h
    refine lv_pop hx hb d_T_init_109 rfl ?_
    refine lv_iinc (v := (x1 + 1)) (lv' := [(1, .int (x1 + 1)), (0, .ref (a 10))]) hx hb d_T_init_110 hl (k := 1) rfl rfl (by decide) rfl (fun ls hl => ?_)
    refine lv_goto (tgt := 97) hx hb d_T_init_113 (by decide) ?_
    exact hk97 _ _ _ _ _ _ h hP hD hS (lv_sub hl [1, 0] rfl)
set_option maxHeartbeats 4000000 in
set_option maxRecDepth 100000 in
theorem t_T_init_97 {p : Program} {l : Launch} {e : Env} {s : State} {m : MethodId} {args : Array Value} {below : List Frame} {meth : Method} {c : Code} {D : va_G} {cI cZ : ClassId} {a : Nat → Nat} {A : Nat → Prop} (C0 : Am p s m args meth c b_T_init none 2 R_T D [(cI, .int), (cZ, .boolean)]) {kc ks : Nat} (hin2 : meth.name = "<init>") (hA : ∀ q, s.heap.size ≤ q → A q) {res : Int32 × StT}  {n : Nat} {q : Nat} {σ : StT} {x1 : Int32} (h : f_T_init_97  n σ x1 = some res) {H : Heap} {locs : List Loc} (hP : va_P D vwCl (wT cI cZ a q σ) H) (hD : va_D A (wT cI cZ a q σ)) (hS : va_S A s.heap H locs) {ls : Array Slot} (hl : lv_has ls 2 [(0, .ref (a 10)), (1, .int x1)]) : W p l e (rmK 3 65 kc ks) s m args below meth c H locs kc ks (RwQv below args s D A (fun q (σ : StT) => (wT cI cZ a q σ)) res kc ks) (F0 m 97 ls []) := by
  induction n generalizing q σ x1 H locs ls with
  | zero => cases h
  | succ n ih => exact t_T_init_97_s (a := a) C0 hin2 hA  (fun _ _ _ _ _ _ h hP hD hS hl => ih h hP hD hS hl) h hP hD hS hl
set_option maxHeartbeats 4000000 in
set_option maxRecDepth 100000 in
theorem t_T_init_75 {p : Program} {l : Launch} {e : Env} {s : State} {m : MethodId} {args : Array Value} {below : List Frame} {meth : Method} {c : Code} {D : va_G} {cI cZ : ClassId} {a : Nat → Nat} {A : Nat → Prop} (C0 : Am p s m args meth c b_T_init none 2 R_T D [(cI, .int), (cZ, .boolean)]) {kc ks : Nat} (hin2 : meth.name = "<init>") (hA : ∀ q, s.heap.size ≤ q → A q) {res : Int32 × StT}   {q : Nat} {σ : StT} (h : f_T_init_75 σ = some res) {H : Heap} {locs : List Loc} (hP : va_P D vwCl (wT cI cZ a q σ) H) (hD : va_D A (wT cI cZ a q σ)) (hS : va_S A s.heap H locs) {ls : Array Slot} (hl : lv_has ls 2 [(0, .ref (a 10))]) : W p l e (rmK 3 65 kc ks) s m args below meth c H locs kc ks (RwQv below args s D A (fun q (σ : StT) => (wT cI cZ a q σ)) res kc ks) (F0 m 75 ls []) := by
  obtain ⟨hx, hb, hr, hml, hown, hts, hlk, hK⟩ := id C0
  unfold f_T_init_75 at h
  refine lv_aload_n hx hb d_T_init_75 rfl (lv_at hl 0 rfl) ?_
  refine lv_iconst (v := 0) hx hb d_T_init_76 (by decide) ?_
  refine rw_put (v := .int 0) (fty := .int) (C := R_T) (T := F_T) (N := 12) C0 hP hD hS i_T ty_T tyok_T nn_T 0 rfl rfl 8 (by decide) (hts _ wd_65) rfl rfl (by decide +kernel) rfl rfl (Nat.le_of_ble_eq_true rfl) d_T_init_77 (Wn := (wT cI cZ a q (T_set_partsUsed σ 0))) ws_T_set_partsUsed (fun H locs hP hD hS => ?_)
  refine lv_aload_n hx hb d_T_init_80 rfl (lv_at hl 0 rfl) ?_
  refine lv_iconst (v := 0) hx hb d_T_init_81 (by decide) ?_
  refine rw_put (v := .int 0) (fty := .int) (C := R_T) (T := F_T) (N := 12) C0 hP hD hS i_T ty_T tyok_T nn_T 0 rfl rfl 9 (by decide) (hts _ wd_40) rfl rfl (by decide +kernel) rfl rfl (Nat.le_of_ble_eq_true rfl) d_T_init_82 (Wn := (wT cI cZ a q (T_set_count (T_set_partsUsed σ 0) 0))) ws_T_set_count (fun H locs hP hD hS => ?_)
  refine lv_aload_n hx hb d_T_init_85 rfl (lv_at hl 0 rfl) ?_
  refine lv_iconst (v := 0) hx hb d_T_init_86 (by decide) ?_
  refine rw_put (v := .int 0) (fty := .int) (C := R_T) (T := F_T) (N := 12) C0 hP hD hS i_T ty_T tyok_T nn_T 0 rfl rfl 10 (by decide) (hts _ wd_66) rfl rfl (by decide +kernel) rfl rfl (Nat.le_of_ble_eq_true rfl) d_T_init_87 (Wn := (wT cI cZ a q (T_set_settledParts (T_set_count (T_set_partsUsed σ 0) 0) 0))) ws_T_set_settledParts (fun H locs hP hD hS => ?_)
  refine lv_aload_n hx hb d_T_init_90 rfl (lv_at hl 0 rfl) ?_
  refine lv_iconst (v := 0) hx hb d_T_init_91 (by decide) ?_
  refine rw_put (v := .int 0) (fty := .int) (C := R_T) (T := F_T) (N := 12) C0 hP hD hS i_T ty_T tyok_T nn_T 0 rfl rfl 11 (by decide) (hts _ wd_64) rfl rfl (by decide +kernel) rfl rfl (Nat.le_of_ble_eq_true rfl) d_T_init_92 (Wn := (wT cI cZ a q (T_set_settledCount (T_set_settledParts (T_set_count (T_set_partsUsed σ 0) 0) 0) 0))) ws_T_set_settledCount (fun H locs hP hD hS => ?_)
  refine lv_iconst (v := 0) hx hb d_T_init_95 (by decide) ?_
  refine lv_istore_n (lv' := [(1, .int 0), (0, .ref (a 10))]) hx hb d_T_init_96 rfl hl (by decide) rfl (fun ls hl => ?_)
  exact t_T_init_97 (a := a) C0 hin2 hA  h hP hD hS (lv_sub hl [1, 0] rfl)
