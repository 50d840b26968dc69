def f_M_reckonOver_4_s (k4 : StM → Int32 → Int32 → Int32 → Option (Int32 × StM)) (σ : StM) (x1 x2 x3 : Int32) : Option (Int32 × StM) :=
  if x1 < 0 ∨ 30 ≤ x1.toNatClampNeg then none else
  if ((M_directs σ) x1.toNatClampNeg) ≤ x3 then
    if x1 < 0 ∨ 30 ≤ x1.toNatClampNeg then none else
    some (0, (M_put_over σ x1 x2))
  else
    if ((30 * x1) + x3) < 0 ∨ 900 ≤ ((30 * x1) + x3).toNatClampNeg then none else
    if ((M_directTo σ) ((30 * x1) + x3).toNatClampNeg) < 0 ∨ 30 ≤ ((M_directTo σ) ((30 * x1) + x3).toNatClampNeg).toNatClampNeg then none else
    k4 σ x1 (x2 ||| (((1 : Int32) <<< (((M_directTo σ) ((30 * x1) + x3).toNatClampNeg) &&& 31)) ||| ((M_over σ) ((M_directTo σ) ((30 * x1) + x3).toNatClampNeg).toNatClampNeg))) (x3 + 1)
def f_M_reckonOver_4 : Nat → StM → Int32 → Int32 → Int32 → Option (Int32 × StM)
  | 0, _, _, _, _ => none
  | n + 1, σ, x1, x2, x3 => f_M_reckonOver_4_s (f_M_reckonOver_4 n) σ x1 x2 x3
def f_M_reckonOver (σ : StM) (x1 : Int32) : Option (Int32 × StM) :=
  f_M_reckonOver_4 1000 σ x1 0 0
set_option maxHeartbeats 4000000 in
set_option maxRecDepth 100000 in
theorem t_M_reckonOver_4_s {p : Program} {l : Launch} {e : Env} {s : State} {m : MethodId} {args : Array Value} {below : List Frame} {meth : Method} {c : Code} {D : va_G} {cI cZ : ClassId} {a : Nat → Nat} {A : Nat → Prop} (C0 : Am p s m args meth c b_M_reckonOver none 5 R_M D [(cI, .int), (cZ, .boolean)]) (hA : ∀ q, s.heap.size ≤ q → A q) {res : Int32 × StM} {k4 : StM → Int32 → Int32 → Int32 → Option (Int32 × StM)}  (hk4 : ∀ (q : Nat) (σ : StM) (x1 x2 x3 : Int32) (H : Heap) (locs : List Loc) (ls : Array Slot), k4 σ x1 x2 x3 = some res → va_P D vwCl (wM cI cZ a q σ) H → va_D A (wM cI cZ a q σ) → va_S A s.heap H locs → lv_has ls 5 [(0, .ref (a 20)), (1, .int x1), (2, .int x2), (3, .int x3)] → W p l e (rmK 0 0 0 0) s m args below meth c H locs 0 0 (RwQv below args s D A (fun q (σ : StM) => (wM cI cZ a q σ)) res 0 0) (F0 m 4 ls [])) {q : Nat} {σ : StM} {x1 x2 x3 : Int32} (h : f_M_reckonOver_4_s k4 σ x1 x2 x3 = some res) {H : Heap} {locs : List Loc} (hP : va_P D vwCl (wM cI cZ a q σ) H) (hD : va_D A (wM cI cZ a q σ)) (hS : va_S A s.heap H locs) {ls : Array Slot} (hl : lv_has ls 5 [(0, .ref (a 20)), (1, .int x1), (2, .int x2), (3, .int x3)]) : W p l e (rmK 0 0 0 0) s m args below meth c H locs 0 0 (RwQv below args s D A (fun q (σ : StM) => (wM cI cZ a q σ)) res 0 0) (F0 m 4 ls []) := by
  obtain ⟨hx, hb, hr, hml, hown, hts, hlk, hK⟩ := id C0
  unfold f_M_reckonOver_4_s at h
  refine lv_iload_n hx hb d_M_reckonOver_4 rfl (lv_at hl 3 rfl) ?_
  refine lv_aload_n hx hb d_M_reckonOver_5 rfl (lv_at hl 0 rfl) ?_
  refine va_get (ci := 4) (v := .ref (a 23)) (C := R_M) (T := F_M) (N := 35) hx hb hts i_M hown hK.1 hP 0 rfl rfl 6 (by decide) (hts _ wd_339) (fun _ h9 => h9) rfl d_M_reckonOver_6 ?_
  refine lv_iload_n hx hb d_M_reckonOver_9 rfl (lv_at hl 1 rfl) ?_
  replace h := gd h
  obtain ⟨hi, h⟩ := h
  refine va_iald hx hb hK.1 hP 3 0 rfl rfl hi d_M_reckonOver_10 ?_
  refine lv_icmp_ge (tgt := 48) hx hb d_M_reckonOver_11 (by decide) (fun hc => ?_) (fun hc => ?_)
  · rw [if_pos hc] at h
    refine lv_aload_n hx hb d_M_reckonOver_48 rfl (lv_at hl 0 rfl) ?_
    refine va_get (ci := 4) (v := .ref (a 26)) (C := R_M) (T := F_M) (N := 35) hx hb hts i_M hown hK.1 hP 0 rfl rfl 9 (by decide) (hts _ wd_341) (fun _ h9 => h9) rfl d_M_reckonOver_49 ?_
    refine lv_iload_n hx hb d_M_reckonOver_52 rfl (lv_at hl 1 rfl) ?_
    refine lv_iload_n hx hb d_M_reckonOver_53 rfl (lv_at hl 2 rfl) ?_
    replace h := gd h
    obtain ⟨hi, h⟩ := h
    refine rw_iast C0 hP hD hS 6 0 rfl rfl hi d_M_reckonOver_54 (Wn := (wM cI cZ a q (M_put_over σ x1 x2))) ws_M_put_over (fun H locs hP hD hS => ?_)
    exact rw_retv C0 hP hD hS (Option.some.inj h) d_M_reckonOver_55
  · rw [if_neg hc] at h
    refine lv_aload_n hx hb d_M_reckonOver_14 rfl (lv_at hl 0 rfl) ?_
    refine va_get (ci := 4) (v := .ref (a 24)) (C := R_M) (T := F_M) (N := 35) hx hb hts i_M hown hK.1 hP 0 rfl rfl 7 (by decide) (hts _ wd_338) (fun _ h9 => h9) rfl d_M_reckonOver_15 ?_
    refine lv_bipush (v := 30) hx hb d_M_reckonOver_18 (by decide) ?_
    refine lv_iload_n hx hb d_M_reckonOver_20 rfl (lv_at hl 1 rfl) ?_
    refine lv_imul hx hb d_M_reckonOver_21 ?_
    refine lv_iload_n hx hb d_M_reckonOver_22 rfl (lv_at hl 3 rfl) ?_
    refine lv_iadd hx hb d_M_reckonOver_23 ?_
    replace h := gd h
    obtain ⟨hi, h⟩ := h
    refine va_iald hx hb hK.1 hP 4 0 rfl rfl hi d_M_reckonOver_24 ?_
    refine lv_istore (lv' := [(4, .int ((M_directTo σ) ((30 * x1) + x3).toNatClampNeg)), (0, .ref (a 20)), (1, .int x1), (2, .int x2), (3, .int x3)]) hx hb d_M_reckonOver_25 hl (by decide) rfl (fun ls hl => ?_)
    refine lv_iload_n hx hb d_M_reckonOver_27 rfl (lv_at hl 3 rfl) ?_
    refine lv_iconst (v := 1) hx hb d_M_reckonOver_28 (by decide) ?_
    refine lv_iload hx hb d_M_reckonOver_29 (lv_at hl 0 rfl) ?_
    refine lv_ishl hx hb d_M_reckonOver_31 ?_
    refine lv_aload_n hx hb d_M_reckonOver_32 rfl (lv_at hl 1 rfl) ?_
    refine va_get (ci := 4) (v := .ref (a 26)) (C := R_M) (T := F_M) (N := 35) hx hb hts i_M hown hK.1 hP 0 rfl rfl 9 (by decide) (hts _ wd_341) (fun _ h9 => h9) rfl d_M_reckonOver_33 ?_
    refine lv_iload hx hb d_M_reckonOver_36 (lv_at hl 0 rfl) ?_
    replace h := gd h
    obtain ⟨hi, h⟩ := h
    refine va_iald hx hb hK.1 hP 6 0 rfl rfl hi d_M_reckonOver_38 ?_
    refine lv_ior hx hb d_M_reckonOver_39 ?_
    refine lv_ior hx hb d_M_reckonOver_40 ?_
    refine lv_istore_n (lv' := [(2, .int (x2 ||| (((1 : Int32) <<< (((M_directTo σ) ((30 * x1) + x3).toNatClampNeg) &&& 31)) ||| ((M_over σ) ((M_directTo σ) ((30 * x1) + x3).toNatClampNeg).toNatClampNeg)))), (4, .int ((M_directTo σ) ((30 * x1) + x3).toNatClampNeg)), (0, .ref (a 20)), (1, .int x1), (3, .int x3)]) hx hb d_M_reckonOver_41 rfl hl (by decide) rfl (fun ls hl => ?_)
    refine lv_iinc (v := (x3 + 1)) (lv' := [(3, .int (x3 + 1)), (2, .int (x2 ||| (((1 : Int32) <<< (((M_directTo σ) ((30 * x1) + x3).toNatClampNeg) &&& 31)) ||| ((M_over σ) ((M_directTo σ) ((30 * x1) + x3).toNatClampNeg).toNatClampNeg)))), (4, .int ((M_directTo σ) ((30 * x1) + x3).toNatClampNeg)), (0, .ref (a 20)), (1, .int x1)]) hx hb d_M_reckonOver_42 hl (k := 4) rfl rfl (by decide) rfl (fun ls hl => ?_)
    refine lv_goto (tgt := 4) hx hb d_M_reckonOver_45 (by decide) ?_
    exact hk4 _ _ _ _ _ _ _ _ h hP hD hS (lv_sub hl [3, 4, 1, 0] rfl)
set_option maxHeartbeats 4000000 in
set_option maxRecDepth 100000 in
theorem t_M_reckonOver_4 {p : Program} {l : Launch} {e : Env} {s : State} {m : MethodId} {args : Array Value} {below : List Frame} {meth : Method} {c : Code} {D : va_G} {cI cZ : ClassId} {a : Nat → Nat} {A : Nat → Prop} (C0 : Am p s m args meth c b_M_reckonOver none 5 R_M D [(cI, .int), (cZ, .boolean)]) (hA : ∀ q, s.heap.size ≤ q → A q) {res : Int32 × StM}  {n : Nat} {q : Nat} {σ : StM} {x1 x2 x3 : Int32} (h : f_M_reckonOver_4  n σ x1 x2 x3 = some res) {H : Heap} {locs : List Loc} (hP : va_P D vwCl (wM cI cZ a q σ) H) (hD : va_D A (wM cI cZ a q σ)) (hS : va_S A s.heap H locs) {ls : Array Slot} (hl : lv_has ls 5 [(0, .ref (a 20)), (1, .int x1), (2, .int x2), (3, .int x3)]) : W p l e (rmK 0 0 0 0) s m args below meth c H locs 0 0 (RwQv below args s D A (fun q (σ : StM) => (wM cI cZ a q σ)) res 0 0) (F0 m 4 ls []) := by
  induction n generalizing q σ x1 x2 x3 H locs ls with
  | zero => cases h
  | succ n ih => exact t_M_reckonOver_4_s (a := a) C0 hA  (fun _ _ _ _ _ _ _ _ h hP hD hS hl => ih h hP hD hS hl) h hP hD hS hl
set_option maxHeartbeats 4000000 in
set_option maxRecDepth 100000 in
theorem t_M_reckonOver_0 {p : Program} {l : Launch} {e : Env} {s : State} {m : MethodId} {args : Array Value} {below : List Frame} {meth : Method} {c : Code} {D : va_G} {cI cZ : ClassId} {a : Nat → Nat} {A : Nat → Prop} (C0 : Am p s m args meth c b_M_reckonOver none 5 R_M D [(cI, .int), (cZ, .boolean)]) (hA : ∀ q, s.heap.size ≤ q → A q) {res : Int32 × StM}   {q : Nat} {σ : StM} {x1 : Int32} (h : f_M_reckonOver σ x1 = some res) {H : Heap} {locs : List Loc} (hP : va_P D vwCl (wM cI cZ a q σ) H) (hD : va_D A (wM cI cZ a q σ)) (hS : va_S A s.heap H locs) {ls : Array Slot} (hl : lv_has ls 5 [(0, .ref (a 20)), (1, .int x1)]) : W p l e (rmK 0 0 0 0) s m args below meth c H locs 0 0 (RwQv below args s D A (fun q (σ : StM) => (wM cI cZ a q σ)) res 0 0) (F0 m 0 ls []) := by
  obtain ⟨hx, hb, hr, hml, hown, hts, hlk, hK⟩ := id C0
  unfold f_M_reckonOver at h
  refine lv_iconst (v := 0) hx hb d_M_reckonOver_0 (by decide) ?_
  refine lv_istore_n (lv' := [(2, .int 0), (0, .ref (a 20)), (1, .int x1)]) hx hb d_M_reckonOver_1 rfl hl (by decide) rfl (fun ls hl => ?_)
  refine lv_iconst (v := 0) hx hb d_M_reckonOver_2 (by decide) ?_
  refine lv_istore_n (lv' := [(3, .int 0), (2, .int 0), (0, .ref (a 20)), (1, .int x1)]) hx hb d_M_reckonOver_3 rfl hl (by decide) rfl (fun ls hl => ?_)
  exact t_M_reckonOver_4 (a := a) C0 hA  h hP hD hS (lv_sub hl [2, 3, 1, 0] rfl)
set_option maxHeartbeats 4000000 in
set_option maxRecDepth 100000 in
theorem c_M_reckonOver (l : Launch) (D : va_G) (cI cZ : ClassId) (a : Nat → Nat) (q : Nat) (σ : StM) (x1 : Int32) {res : Int32 × StM} (h : f_M_reckonOver σ x1 = some res) : RwMv l y_M_reckonOver b_M_reckonOver 5 0 0 D [(cI, .int), (cZ, .boolean)] [.ref (a 20), .int x1] (fun q (σ : StM) => (wM cI cZ a q σ)) q σ res :=
  rw_ofv (by decide) (Nat.le_of_ble_eq_true rfl) (fun p e s m args below meth c ls A C0 hA hP hD hS hl => t_M_reckonOver_0 (a := a) C0 hA h hP hD hS (lv_sub hl [0, 1] rfl))
