def f_A_forget (σ : StA) : Option (Int32 × StA) :=
  if (A_empty σ) = 0 then
    some (0, (A_set_empty (A_set_cells σ (J_fill (A_cells σ) 5625 (0 : Int32))) 1))
  else
    some (0, σ)
set_option maxHeartbeats 4000000 in
set_option maxRecDepth 100000 in
theorem t_A_forget_0 {p : Program} {l : Launch} {e : Env} {s : State} {m : MethodId} {args : Array Value} {below : List Frame} {meth : Method} {c : Code} {D : va_G} {cI cZ : ClassId} {a : Nat → Nat} {A : Nat → Prop} (C0 : Am p s m args meth c b_A_forget none 1 R_A D [(cI, .int), (cZ, .boolean)]) (hA : ∀ q, s.heap.size ≤ q → A q) {res : Int32 × StA}   {q : Nat} {σ : StA} (h : f_A_forget σ = some res) {H : Heap} {locs : List Loc} (hP : va_P D vwCl (wA cI cZ a q σ) H) (hD : va_D A (wA cI cZ a q σ)) (hS : va_S A s.heap H locs) {ls : Array Slot} (hl : lv_has ls 1 [(0, .ref (a 18))]) : W p l e (rmK 2 82 0 0) s m args below meth c H locs 0 0 (RwQv below args s D A (fun q (σ : StA) => (wA cI cZ a q σ)) res 0 0) (F0 m 0 ls []) := by
  obtain ⟨hx, hb, hr, hml, hown, hts, hlk, hK⟩ := id C0
  unfold f_A_forget at h
  refine lv_aload_n hx hb d_A_forget_0 rfl (lv_at hl 0 rfl) ?_
  refine va_get (ci := 3) (v := .int (A_empty σ)) (C := R_A) (T := F_A) (N := 2) hx hb hts i_A hown hK.1 hP 0 rfl rfl 1 (by decide) (hts _ wd_128) (fun _ h9 => h9) rfl d_A_forget_1 ?_
  refine lv_if_ne (tgt := 20) hx hb d_A_forget_4 (by decide) (fun hc => ?_) (fun hc => ?_)
  · rw [if_neg hc] at h
    exact rw_retv C0 hP hD hS (Option.some.inj h) d_A_forget_20
  · rw [if_pos hc] at h
    refine lv_aload_n hx hb d_A_forget_7 rfl (lv_at hl 0 rfl) ?_
    refine va_get (ci := 3) (v := .ref (a 19)) (C := R_A) (T := F_A) (N := 2) hx hb hts i_A hown hK.1 hP 0 rfl rfl 0 (by decide) (hts _ wd_129) (fun _ h9 => h9) rfl d_A_forget_8 ?_
    refine lv_iconst (v := 0) hx hb d_A_forget_11 (by decide) ?_
    refine rw_Sv (n := 2) (As := [.ref (a 19), .int 0]) (rest := []) (Wn := fun _ => (wA cI cZ a q (A_set_cells σ (J_fill (A_cells σ) 5625 (0 : Int32))))) C0 hA (c_J_fill l D cI cZ (a 19) 5625 (A_cells σ) (0 : Int32) (by decide)) wd_130 ⟨wd_131, wd_132, wd_133⟩ (by decide +kernel) ⟨Nat.le_of_ble_eq_true rfl, Nat.le_of_ble_eq_true rfl⟩ hP hD hS [1] [0] [0, 1] jf_A_cells_C (by decide) jf_A_cells_R (by decide) (by decide) (by decide) jf_A_cells_W hl rfl rfl (Nat.le_of_ble_eq_true rfl) ⟨Nat.zero_le _, Nat.zero_le _⟩ d_A_forget_12 (fun H locs _ hP hD hS => ?_)
    refine lv_aload_n hx hb d_A_forget_15 rfl (lv_at hl 0 rfl) ?_
    refine lv_iconst (v := 1) hx hb d_A_forget_16 (by decide) ?_
    refine rw_put (v := .int 1) (fty := .boolean) (C := R_A) (T := F_A) (N := 2) C0 hP hD hS i_A ty_A tyok_A nn_A 0 rfl rfl 1 (by decide) (hts _ wd_128) rfl rfl (by decide +kernel) rfl rfl (Nat.le_of_ble_eq_true rfl) d_A_forget_17 (Wn := (wA cI cZ a q (A_set_empty (A_set_cells σ (J_fill (A_cells σ) 5625 (0 : Int32))) 1))) ws_A_set_empty (fun H locs hP hD hS => ?_)
    exact rw_retv C0 hP hD hS (Option.some.inj h) d_A_forget_20
set_option maxHeartbeats 4000000 in
set_option maxRecDepth 100000 in
theorem c_A_forget (l : Launch) (D : va_G) (cI cZ : ClassId) (a : Nat → Nat) (q : Nat) (σ : StA) {res : Int32 × StA} (h : f_A_forget σ = some res) : RwMv l y_A_forget b_A_forget 1 2 82 D [(cI, .int), (cZ, .boolean)] [.ref (a 18)] (fun q (σ : StA) => (wA cI cZ a q σ)) q σ res :=
  rw_ofv (by decide) (Nat.le_of_ble_eq_true rfl) (fun p e s m args below meth c ls A C0 hA hP hD hS hl => t_A_forget_0 (a := a) C0 hA h hP hD hS (lv_sub hl [0] rfl))
def f_A_isPair (x0 x1 : Int32) : Int32 :=
  if x0 < 0 then
    0
  else
    if 300 ≤ x0 then
      0
    else
      if x1 < 0 then
        0
      else
        if 300 ≤ x1 then
          0
        else
          1
set_option maxHeartbeats 4000000 in
set_option maxRecDepth 100000 in
theorem t_A_isPair_0 {p : Program} {l : Launch} {e : Env} {s : State} {m : MethodId} {args : Array Value} {below : List Frame} {meth : Method} {c : Code} {D : va_G} {cI cZ : ClassId} {a : Nat → Nat} (C0 : Am p s m args meth c b_A_isPair (some .boolean) 2 R_A D [(cI, .int), (cZ, .boolean)]) {val : Int32}   {x0 x1 : Int32} (h : f_A_isPair x0 x1 = val) {ls : Array Slot} (hl : lv_has ls 2 [(0, .int x0), (1, .int x1)]) : RoW p l e (rmK 0 0 0 0) s m args below meth c val (F0 m 0 ls []) := by
  obtain ⟨hx, hb, hr, hml, hown, hts, hlk, hK⟩ := id C0
  unfold f_A_isPair at h
  refine lv_iload_n hx hb d_A_isPair_0 rfl (lv_at hl 0 rfl) ?_
  refine lv_if_lt (tgt := 26) hx hb d_A_isPair_1 (by decide) (fun hc => ?_) (fun hc => ?_)
  · rw [if_pos hc] at h
    refine lv_iconst (v := 0) hx hb d_A_isPair_26 (by decide) ?_
    exact ro_retz C0 (by decide) h d_A_isPair_27
  · rw [if_neg hc] at h
    refine lv_iload_n hx hb d_A_isPair_4 rfl (lv_at hl 0 rfl) ?_
    refine lv_sipush (v := 300) hx hb d_A_isPair_5 (by decide) ?_
    refine lv_icmp_ge (tgt := 26) hx hb d_A_isPair_8 (by decide) (fun hc => ?_) (fun hc => ?_)
    · rw [if_pos hc] at h
      refine lv_iconst (v := 0) hx hb d_A_isPair_26 (by decide) ?_
      exact ro_retz C0 (by decide) h d_A_isPair_27
    · rw [if_neg hc] at h
      refine lv_iload_n hx hb d_A_isPair_11 rfl (lv_at hl 1 rfl) ?_
      refine lv_if_lt (tgt := 26) hx hb d_A_isPair_12 (by decide) (fun hc => ?_) (fun hc => ?_)
      · rw [if_pos hc] at h
        refine lv_iconst (v := 0) hx hb d_A_isPair_26 (by decide) ?_
        exact ro_retz C0 (by decide) h d_A_isPair_27
      · rw [if_neg hc] at h
        refine lv_iload_n hx hb d_A_isPair_15 rfl (lv_at hl 1 rfl) ?_
        refine lv_sipush (v := 300) hx hb d_A_isPair_16 (by decide) ?_
        refine lv_icmp_ge (tgt := 26) hx hb d_A_isPair_19 (by decide) (fun hc => ?_) (fun hc => ?_)
        · rw [if_pos hc] at h
          refine lv_iconst (v := 0) hx hb d_A_isPair_26 (by decide) ?_
          exact ro_retz C0 (by decide) h d_A_isPair_27
        · rw [if_neg hc] at h
          refine lv_iconst (v := 1) hx hb d_A_isPair_22 (by decide) ?_
          refine lv_goto (tgt := 27) hx hb d_A_isPair_23 (by decide) ?_
          exact ro_retz C0 (by decide) h d_A_isPair_27
set_option maxHeartbeats 4000000 in
set_option maxRecDepth 100000 in
theorem c_A_isPair (l : Launch) (D : va_G) (cI cZ : ClassId) (a : Nat → Nat) (x0 : Int32) (x1 : Int32) {val : Int32} (h : f_A_isPair x0 x1 = val) : RoM l y_A_isPair b_A_isPair 2 (some .boolean) 0 0 D [(cI, .int), (cZ, .boolean)] [.int x0, .int x1] [] val :=
  ro_of (by decide) (Nat.le_of_ble_eq_true rfl) (fun p e s m args below meth c ls C0 hP hl => t_A_isPair_0 (a := a) C0 h (lv_sub hl [0, 1] rfl))
def f_A_read (σ : StA) (x1 x2 : Int32) : Option Int32 :=
  if (f_A_isPair x1 x2) = 0 then
    some 0
  else
    if (((x1 * 300) + x2) >>> (4 &&& 31)) < 0 ∨ 5625 ≤ (((x1 * 300) + x2) >>> (4 &&& 31)).toNatClampNeg then none else
    some ((((A_cells σ) (((x1 * 300) + x2) >>> (4 &&& 31)).toNatClampNeg) >>> ((2 * (((x1 * 300) + x2) &&& 15)) &&& 31)) &&& 3)
set_option maxHeartbeats 4000000 in
set_option maxRecDepth 100000 in
theorem t_A_read_0 {p : Program} {l : Launch} {e : Env} {s : State} {m : MethodId} {args : Array Value} {below : List Frame} {meth : Method} {c : Code} {D : va_G} {cI cZ : ClassId} {a : Nat → Nat} {q : Nat} {σ : StA} (C0 : Am p s m args meth c b_A_read (some .int) 4 R_A D [(cI, .int), (cZ, .boolean)]) (hP : va_P D vwCl (wA cI cZ a q σ) s.heap) {val : Int32}   {x1 x2 : Int32} (h : f_A_read σ x1 x2 = some val) {ls : Array Slot} (hl : lv_has ls 4 [(0, .ref (a 18)), (1, .int x1), (2, .int x2)]) : RoW p l e (rmK 1 21 0 0) s m args below meth c val (F0 m 0 ls []) := by
  obtain ⟨hx, hb, hr, hml, hown, hts, hlk, hK⟩ := id C0
  unfold f_A_read at h
  refine lv_iload_n hx hb d_A_read_0 rfl (lv_at hl 1 rfl) ?_
  refine lv_iload_n hx hb d_A_read_1 rfl (lv_at hl 2 rfl) ?_
  refine ro_S (n := 2) (As := [.int x1, .int x2]) (rest := []) C0 (c_A_isPair l D cI cZ a x1 x2 rfl) wd_279 ⟨wd_280, wd_281, wd_155⟩ (by decide +kernel) ⟨Nat.le_of_ble_eq_true rfl, Nat.le_of_ble_eq_true rfl⟩ pnil hl rfl rfl (Nat.le_of_ble_eq_true rfl) ⟨Nat.zero_le _, Nat.zero_le _⟩ d_A_read_2 ?_
  refine lv_if_ne (tgt := 10) hx hb d_A_read_5 (by decide) (fun hc => ?_) (fun hc => ?_)
  · rw [if_neg hc] at h
    refine lv_iload_n hx hb d_A_read_10 rfl (lv_at hl 1 rfl) ?_
    refine lv_sipush (v := 300) hx hb d_A_read_11 (by decide) ?_
    refine lv_imul hx hb d_A_read_14 ?_
    refine lv_iload_n hx hb d_A_read_15 rfl (lv_at hl 2 rfl) ?_
    refine lv_iadd hx hb d_A_read_16 ?_
    refine lv_istore_n (lv' := [(3, .int ((x1 * 300) + x2)), (0, .ref (a 18)), (1, .int x1), (2, .int x2)]) hx hb d_A_read_17 rfl hl (by decide) rfl (fun ls hl => ?_)
    refine lv_aload_n hx hb d_A_read_18 rfl (lv_at hl 1 rfl) ?_
    refine va_get (ci := 3) (v := .ref (a 19)) (C := R_A) (T := F_A) (N := 2) hx hb hts i_A hown hK.1 hP 0 rfl rfl 0 (by decide) (hts _ wd_129) (fun _ h9 => h9) rfl d_A_read_19 ?_
    refine lv_iload_n hx hb d_A_read_22 rfl (lv_at hl 0 rfl) ?_
    refine lv_iconst (v := 4) hx hb d_A_read_23 (by decide) ?_
    refine lv_ishr hx hb d_A_read_24 ?_
    replace h := gd h
    obtain ⟨hi, h⟩ := h
    refine va_iald hx hb hK.1 hP 1 0 rfl rfl hi d_A_read_25 ?_
    refine lv_iconst (v := 2) hx hb d_A_read_26 (by decide) ?_
    refine lv_iload_n hx hb d_A_read_27 rfl (lv_at hl 0 rfl) ?_
    refine lv_bipush (v := 15) hx hb d_A_read_28 (by decide) ?_
    refine lv_iand hx hb d_A_read_30 ?_
    refine lv_imul hx hb d_A_read_31 ?_
    refine lv_ishr hx hb d_A_read_32 ?_
    refine lv_iconst (v := 3) hx hb d_A_read_33 (by decide) ?_
    refine lv_iand hx hb d_A_read_34 ?_
    exact ro_ret C0 (Option.some.inj h) d_A_read_35
  · rw [if_pos hc] at h
    refine lv_iconst (v := 0) hx hb d_A_read_8 (by decide) ?_
    exact ro_ret C0 (Option.some.inj h) d_A_read_9
set_option maxHeartbeats 4000000 in
set_option maxRecDepth 100000 in
theorem c_A_read (l : Launch) (D : va_G) (cI cZ : ClassId) (a : Nat → Nat) (q : Nat) (σ : StA) (x1 : Int32) (x2 : Int32) {val : Int32} (h : f_A_read σ x1 x2 = some val) : RoM l y_A_read b_A_read 4 (some .int) 1 21 D [(cI, .int), (cZ, .boolean)] [.ref (a 18), .int x1, .int x2] (wA cI cZ a q σ) val :=
  ro_of (by decide) (Nat.le_of_ble_eq_true rfl) (fun p e s m args below meth c ls C0 hP hl => t_A_read_0 (a := a) C0 hP h (lv_sub hl [0, 1, 2] rfl))
def f_A_keep_37 (σ : StA) (x4 t1 t2 t3 : Int32) : Option (Int32 × StA) :=
  if t1 < 0 ∨ 5625 ≤ t1.toNatClampNeg then none else
  some (0, (A_set_empty (A_put_cells σ t1 (t2 ||| (t3 <<< ((2 * (x4 &&& 15)) &&& 31)))) 0))
def f_A_keep (σ : StA) (x1 x2 x3 : Int32) : Option (Int32 × StA) :=
  if (f_A_isPair x1 x2) = 0 then
    some (0, σ)
  else
    if (((x1 * 300) + x2) >>> (4 &&& 31)) < 0 ∨ 5625 ≤ (((x1 * 300) + x2) >>> (4 &&& 31)).toNatClampNeg then none else
    if x3 = 0 then
      f_A_keep_37 σ ((x1 * 300) + x2) (((x1 * 300) + x2) >>> (4 &&& 31)) ((A_cells σ) (((x1 * 300) + x2) >>> (4 &&& 31)).toNatClampNeg) 1
    else
      f_A_keep_37 σ ((x1 * 300) + x2) (((x1 * 300) + x2) >>> (4 &&& 31)) ((A_cells σ) (((x1 * 300) + x2) >>> (4 &&& 31)).toNatClampNeg) 2
set_option maxHeartbeats 4000000 in
set_option maxRecDepth 100000 in
theorem t_A_keep_37 {p : Program} {l : Launch} {e : Env} {s : State} {m : MethodId} {args : Array Value} {below : List Frame} {meth : Method} {c : Code} {D : va_G} {cI cZ : ClassId} {a : Nat → Nat} {A : Nat → Prop} (C0 : Am p s m args meth c b_A_keep none 5 R_A D [(cI, .int), (cZ, .boolean)]) (hA : ∀ q, s.heap.size ≤ q → A q) {res : Int32 × StA}   {q : Nat} {σ : StA} {x4 t1 t2 t3 : Int32} (h : f_A_keep_37 σ x4 t1 t2 t3 = some res) {H : Heap} {locs : List Loc} (hP : va_P D vwCl (wA cI cZ a q σ) H) (hD : va_D A (wA cI cZ a q σ)) (hS : va_S A s.heap H locs) {ls : Array Slot} (hl : lv_has ls 5 [(0, .ref (a 18)), (4, .int x4)]) : W p l e (rmK 1 21 0 0) s m args below meth c H locs 0 0 (RwQv below args s D A (fun q (σ : StA) => (wA cI cZ a q σ)) res 0 0) (F0 m 37 ls [.int t3, .int t2, .int t1, .ref (a 19)]) := by
  obtain ⟨hx, hb, hr, hml, hown, hts, hlk, hK⟩ := id C0
  unfold f_A_keep_37 at h
  refine lv_iconst (v := 2) hx hb d_A_keep_37 (by decide) ?_
  refine lv_iload hx hb d_A_keep_38 (lv_at hl 1 rfl) ?_
  refine lv_bipush (v := 15) hx hb d_A_keep_40 (by decide) ?_
  refine lv_iand hx hb d_A_keep_42 ?_
  refine lv_imul hx hb d_A_keep_43 ?_
  refine lv_ishl hx hb d_A_keep_44 ?_
  refine lv_ior hx hb d_A_keep_45 ?_
  replace h := gd h
  obtain ⟨hi, h⟩ := h
  refine rw_iast C0 hP hD hS 1 0 rfl rfl hi d_A_keep_46 (Wn := (wA cI cZ a q (A_put_cells σ t1 (t2 ||| (t3 <<< ((2 * (x4 &&& 15)) &&& 31)))))) ws_A_put_cells (fun H locs hP hD hS => ?_)
  refine lv_aload_n hx hb d_A_keep_47 rfl (lv_at hl 0 rfl) ?_
  refine lv_iconst (v := 0) hx hb d_A_keep_48 (by decide) ?_
  refine rw_put (v := .int 0) (fty := .boolean) (C := R_A) (T := F_A) (N := 2) C0 hP hD hS i_A ty_A tyok_A nn_A 0 rfl rfl 1 (by decide) (hts _ wd_128) rfl rfl (by decide +kernel) rfl rfl (Nat.le_of_ble_eq_true rfl) d_A_keep_49 (Wn := (wA cI cZ a q (A_set_empty (A_put_cells σ t1 (t2 ||| (t3 <<< ((2 * (x4 &&& 15)) &&& 31)))) 0))) ws_A_set_empty (fun H locs hP hD hS => ?_)
  exact rw_retv C0 hP hD hS (Option.some.inj h) d_A_keep_52
set_option maxHeartbeats 4000000 in
set_option maxRecDepth 100000 in
theorem t_A_keep_0 {p : Program} {l : Launch} {e : Env} {s : State} {m : MethodId} {args : Array Value} {below : List Frame} {meth : Method} {c : Code} {D : va_G} {cI cZ : ClassId} {a : Nat → Nat} {A : Nat → Prop} (C0 : Am p s m args meth c b_A_keep none 5 R_A D [(cI, .int), (cZ, .boolean)]) (hA : ∀ q, s.heap.size ≤ q → A q) {res : Int32 × StA}   {q : Nat} {σ : StA} {x1 x2 x3 : Int32} (h : f_A_keep σ x1 x2 x3 = some res) {H : Heap} {locs : List Loc} (hP : va_P D vwCl (wA cI cZ a q σ) H) (hD : va_D A (wA cI cZ a q σ)) (hS : va_S A s.heap H locs) {ls : Array Slot} (hl : lv_has ls 5 [(0, .ref (a 18)), (1, .int x1), (2, .int x2), (3, .int x3)]) : W p l e (rmK 1 21 0 0) s m args below meth c H locs 0 0 (RwQv below args s D A (fun q (σ : StA) => (wA cI cZ a q σ)) res 0 0) (F0 m 0 ls []) := by
  obtain ⟨hx, hb, hr, hml, hown, hts, hlk, hK⟩ := id C0
  unfold f_A_keep at h
  refine lv_iload_n hx hb d_A_keep_0 rfl (lv_at hl 1 rfl) ?_
  refine lv_iload_n hx hb d_A_keep_1 rfl (lv_at hl 2 rfl) ?_
  refine ro_S (n := 2) (As := [.int x1, .int x2]) (rest := []) C0 (c_A_isPair l D cI cZ a x1 x2 rfl) wd_279 ⟨wd_280, wd_281, wd_155⟩ (by decide +kernel) ⟨Nat.le_of_ble_eq_true rfl, Nat.le_of_ble_eq_true rfl⟩ pnil hl rfl rfl (Nat.le_of_ble_eq_true rfl) ⟨Nat.zero_le _, Nat.zero_le _⟩ d_A_keep_2 ?_
  refine lv_if_ne (tgt := 9) hx hb d_A_keep_5 (by decide) (fun hc => ?_) (fun hc => ?_)
  · rw [if_neg hc] at h
    refine lv_iload_n hx hb d_A_keep_9 rfl (lv_at hl 1 rfl) ?_
    refine lv_sipush (v := 300) hx hb d_A_keep_10 (by decide) ?_
    refine lv_imul hx hb d_A_keep_13 ?_
    refine lv_iload_n hx hb d_A_keep_14 rfl (lv_at hl 2 rfl) ?_
    refine lv_iadd hx hb d_A_keep_15 ?_
    refine lv_istore (lv' := [(4, .int ((x1 * 300) + x2)), (0, .ref (a 18)), (1, .int x1), (2, .int x2), (3, .int x3)]) hx hb d_A_keep_16 hl (by decide) rfl (fun ls hl => ?_)
    refine lv_aload_n hx hb d_A_keep_18 rfl (lv_at hl 1 rfl) ?_
    refine va_get (ci := 3) (v := .ref (a 19)) (C := R_A) (T := F_A) (N := 2) hx hb hts i_A hown hK.1 hP 0 rfl rfl 0 (by decide) (hts _ wd_129) (fun _ h9 => h9) rfl d_A_keep_19 ?_
    refine lv_iload hx hb d_A_keep_22 (lv_at hl 0 rfl) ?_
    refine lv_iconst (v := 4) hx hb d_A_keep_24 (by decide) ?_
    refine lv_ishr hx hb d_A_keep_25 ?_
    refine lv_dup2_11 hx hb d_A_keep_26 rfl rfl ?_
    replace h := gd h
    obtain ⟨hi, h⟩ := h
    refine va_iald hx hb hK.1 hP 1 0 rfl rfl hi d_A_keep_27 ?_
    refine lv_iload_n hx hb d_A_keep_28 rfl (lv_at hl 4 rfl) ?_
    refine lv_if_eq (tgt := 36) hx hb d_A_keep_29 (by decide) (fun hc => ?_) (fun hc => ?_)
    · rw [if_pos hc] at h
      refine lv_iconst (v := 1) hx hb d_A_keep_36 (by decide) ?_
      exact t_A_keep_37 (a := a) C0 hA  h hP hD hS (lv_sub hl [1, 0] rfl)
    · rw [if_neg hc] at h
      refine lv_iconst (v := 2) hx hb d_A_keep_32 (by decide) ?_
      refine lv_goto (tgt := 37) hx hb d_A_keep_33 (by decide) ?_
      exact t_A_keep_37 (a := a) C0 hA  h hP hD hS (lv_sub hl [1, 0] rfl)
  · rw [if_pos hc] at h
    exact rw_retv C0 hP hD hS (Option.some.inj h) d_A_keep_8
set_option maxHeartbeats 4000000 in
set_option maxRecDepth 100000 in
theorem c_A_keep (l : Launch) (D : va_G) (cI cZ : ClassId) (a : Nat → Nat) (q : Nat) (σ : StA) (x1 : Int32) (x2 : Int32) (x3 : Int32) {res : Int32 × StA} (h : f_A_keep σ x1 x2 x3 = some res) : RwMv l y_A_keep b_A_keep 5 1 21 D [(cI, .int), (cZ, .boolean)] [.ref (a 18), .int x1, .int x2, .int x3] (fun q (σ : StA) => (wA cI cZ a q σ)) q σ res :=
  rw_ofv (by decide) (Nat.le_of_ble_eq_true rfl) (fun p e s m args below meth c ls A C0 hA hP hD hS hl => t_A_keep_0 (a := a) C0 hA h hP hD hS (lv_sub hl [0, 1, 2, 3] rfl))
