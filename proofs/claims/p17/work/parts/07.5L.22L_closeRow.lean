def f_L_closeRow_4_s (k4 : StL → Int32 → Int32 → Option (Int32 × StL)) (σ : StL) (x1 x2 : Int32) : Option (Int32 × StL) :=
  if 30 ≤ x2 then
    some (x1, σ)
  else
    if x2 < 0 ∨ 90 ≤ x2.toNatClampNeg then none else
    if ((L_row σ) x2.toNatClampNeg) = (-1) then
      k4 σ x1 (x2 + 1)
    else
      if x2 < 0 ∨ 90 ≤ x2.toNatClampNeg then none else
      if x1 < 0 ∨ 90 ≤ x1.toNatClampNeg then none else
      k4 (L_put_row σ x1 ((L_row σ) x2.toNatClampNeg)) (x1 + 1) (x2 + 1)
def f_L_closeRow_4 : Nat → StL → Int32 → Int32 → Option (Int32 × StL)
  | 0, _, _, _ => none
  | n + 1, σ, x1, x2 => f_L_closeRow_4_s (f_L_closeRow_4 n) σ x1 x2
def f_L_closeRow (σ : StL) : Option (Int32 × StL) :=
  f_L_closeRow_4 1000 σ 0 0
set_option maxHeartbeats 4000000 in
set_option maxRecDepth 100000 in
theorem t_L_closeRow_4_s {p : Program} {l : Launch} {e : Env} {s : State} {m : MethodId} {args : Array Value} {below : List Frame} {meth : Method} {c : Code} {D : va_G} {cI cZ : ClassId} {a : Nat → Nat} {A : Nat → Prop} (C0 : Am p s m args meth c b_L_closeRow (some .int) 3 R_L D [(cI, .int), (cZ, .boolean)]) (hA : ∀ q, s.heap.size ≤ q → A q) {res : Int32 × StL} {k4 : StL → Int32 → Int32 → Option (Int32 × StL)}  (hk4 : ∀ (q : Nat) (σ : StL) (x1 x2 : Int32) (H : Heap) (locs : List Loc) (ls : Array Slot), k4 σ x1 x2 = some res → va_P D vwCl (wL cI cZ a q σ) H → va_D A (wL cI cZ a q σ) → va_S A s.heap H locs → lv_has ls 3 [(0, .ref (a 0)), (1, .int x1), (2, .int x2)] → W p l e (rmK 0 0 0 0) s m args below meth c H locs 0 0 (RwQ below args s D A (fun q (σ : StL) => (wL cI cZ a q σ)) res 0 0) (F0 m 4 ls [])) {q : Nat} {σ : StL} {x1 x2 : Int32} (h : f_L_closeRow_4_s k4 σ x1 x2 = some res) {H : Heap} {locs : List Loc} (hP : va_P D vwCl (wL cI cZ a q σ) H) (hD : va_D A (wL cI cZ a q σ)) (hS : va_S A s.heap H locs) {ls : Array Slot} (hl : lv_has ls 3 [(0, .ref (a 0)), (1, .int x1), (2, .int x2)]) : W p l e (rmK 0 0 0 0) s m args below meth c H locs 0 0 (RwQ below args s D A (fun q (σ : StL) => (wL cI cZ a q σ)) res 0 0) (F0 m 4 ls []) := by
  obtain ⟨hx, hb, hr, hml, hown, hts, hlk, hK⟩ := id C0
  unfold f_L_closeRow_4_s at h
  refine lv_iload_n hx hb d_L_closeRow_4 rfl (lv_at hl 2 rfl) ?_
  refine lv_bipush (v := 30) hx hb d_L_closeRow_5 (by decide) ?_
  refine lv_icmp_ge (tgt := 41) hx hb d_L_closeRow_7 (by decide) (fun hc => ?_) (fun hc => ?_)
  · rw [if_pos hc] at h
    refine lv_iload_n hx hb d_L_closeRow_41 rfl (lv_at hl 1 rfl) ?_
    exact rw_ret C0 hP hD hS (Option.some.inj h) d_L_closeRow_42
  · rw [if_neg hc] at h
    refine lv_aload_n hx hb d_L_closeRow_10 rfl (lv_at hl 0 rfl) ?_
    refine va_get (ci := 0) (v := .ref (a 1)) (C := R_L) (T := F_L) (N := 6) hx hb hts i_L hown hK.1 hP 0 rfl rfl 4 (by decide) (hts _ wd_256) (fun _ h9 => h9) rfl d_L_closeRow_11 ?_
    refine lv_iload_n hx hb d_L_closeRow_14 rfl (lv_at hl 2 rfl) ?_
    replace h := gd h
    obtain ⟨hi, h⟩ := h
    refine va_iald hx hb hK.1 hP 1 0 rfl rfl hi d_L_closeRow_15 ?_
    refine lv_iconst (v := (-1)) hx hb d_L_closeRow_16 (by decide) ?_
    refine lv_icmp_eq (tgt := 35) hx hb d_L_closeRow_17 (by decide) (fun hc => ?_) (fun hc => ?_)
    · rw [if_pos hc] at h
      refine lv_iinc (v := (x2 + 1)) (lv' := [(2, .int (x2 + 1)), (0, .ref (a 0)), (1, .int x1)]) hx hb d_L_closeRow_35 hl (k := 2) rfl rfl (by decide) rfl (fun ls hl => ?_)
      refine lv_goto (tgt := 4) hx hb d_L_closeRow_38 (by decide) ?_
      exact hk4 _ _ _ _ _ _ _ h hP hD hS (lv_sub hl [1, 2, 0] rfl)
    · rw [if_neg hc] at h
      refine lv_aload_n hx hb d_L_closeRow_20 rfl (lv_at hl 0 rfl) ?_
      refine va_get (ci := 0) (v := .ref (a 1)) (C := R_L) (T := F_L) (N := 6) hx hb hts i_L hown hK.1 hP 0 rfl rfl 4 (by decide) (hts _ wd_256) (fun _ h9 => h9) rfl d_L_closeRow_21 ?_
      refine lv_iload_n hx hb d_L_closeRow_24 rfl (lv_at hl 1 rfl) ?_
      refine lv_aload_n hx hb d_L_closeRow_25 rfl (lv_at hl 0 rfl) ?_
      refine va_get (ci := 0) (v := .ref (a 1)) (C := R_L) (T := F_L) (N := 6) hx hb hts i_L hown hK.1 hP 0 rfl rfl 4 (by decide) (hts _ wd_256) (fun _ h9 => h9) rfl d_L_closeRow_26 ?_
      refine lv_iload_n hx hb d_L_closeRow_29 rfl (lv_at hl 2 rfl) ?_
      replace h := gd h
      obtain ⟨hi, h⟩ := h
      refine va_iald hx hb hK.1 hP 1 0 rfl rfl hi d_L_closeRow_30 ?_
      replace h := gd h
      obtain ⟨hi, h⟩ := h
      refine rw_iast C0 hP hD hS 1 0 rfl rfl hi d_L_closeRow_31 (Wn := (wL cI cZ a q (L_put_row σ x1 ((L_row σ) x2.toNatClampNeg)))) ws_L_put_row (fun H locs hP hD hS => ?_)
      refine lv_iinc (v := (x1 + 1)) (lv' := [(1, .int (x1 + 1)), (0, .ref (a 0)), (2, .int x2)]) hx hb d_L_closeRow_32 hl (k := 1) rfl rfl (by decide) rfl (fun ls hl => ?_)
      refine lv_iinc (v := (x2 + 1)) (lv' := [(2, .int (x2 + 1)), (1, .int (x1 + 1)), (0, .ref (a 0))]) hx hb d_L_closeRow_35 hl (k := 2) rfl rfl (by decide) rfl (fun ls hl => ?_)
      refine lv_goto (tgt := 4) hx hb d_L_closeRow_38 (by decide) ?_
      exact hk4 _ _ _ _ _ _ _ h hP hD hS (lv_sub hl [2, 1, 0] rfl)
set_option maxHeartbeats 4000000 in
set_option maxRecDepth 100000 in
theorem t_L_closeRow_4 {p : Program} {l : Launch} {e : Env} {s : State} {m : MethodId} {args : Array Value} {below : List Frame} {meth : Method} {c : Code} {D : va_G} {cI cZ : ClassId} {a : Nat → Nat} {A : Nat → Prop} (C0 : Am p s m args meth c b_L_closeRow (some .int) 3 R_L D [(cI, .int), (cZ, .boolean)]) (hA : ∀ q, s.heap.size ≤ q → A q) {res : Int32 × StL}  {n : Nat} {q : Nat} {σ : StL} {x1 x2 : Int32} (h : f_L_closeRow_4  n σ x1 x2 = some res) {H : Heap} {locs : List Loc} (hP : va_P D vwCl (wL cI cZ a q σ) H) (hD : va_D A (wL cI cZ a q σ)) (hS : va_S A s.heap H locs) {ls : Array Slot} (hl : lv_has ls 3 [(0, .ref (a 0)), (1, .int x1), (2, .int x2)]) : W p l e (rmK 0 0 0 0) s m args below meth c H locs 0 0 (RwQ below args s D A (fun q (σ : StL) => (wL cI cZ a q σ)) res 0 0) (F0 m 4 ls []) := by
  induction n generalizing q σ x1 x2 H locs ls with
  | zero => cases h
  | succ n ih => exact t_L_closeRow_4_s (a := a) C0 hA  (fun _ _ _ _ _ _ _ h hP hD hS hl => ih h hP hD hS hl) h hP hD hS hl
set_option maxHeartbeats 4000000 in
set_option maxRecDepth 100000 in
theorem t_L_closeRow_0 {p : Program} {l : Launch} {e : Env} {s : State} {m : MethodId} {args : Array Value} {below : List Frame} {meth : Method} {c : Code} {D : va_G} {cI cZ : ClassId} {a : Nat → Nat} {A : Nat → Prop} (C0 : Am p s m args meth c b_L_closeRow (some .int) 3 R_L D [(cI, .int), (cZ, .boolean)]) (hA : ∀ q, s.heap.size ≤ q → A q) {res : Int32 × StL}   {q : Nat} {σ : StL} (h : f_L_closeRow σ = some res) {H : Heap} {locs : List Loc} (hP : va_P D vwCl (wL cI cZ a q σ) H) (hD : va_D A (wL cI cZ a q σ)) (hS : va_S A s.heap H locs) {ls : Array Slot} (hl : lv_has ls 3 [(0, .ref (a 0))]) : W p l e (rmK 0 0 0 0) s m args below meth c H locs 0 0 (RwQ below args s D A (fun q (σ : StL) => (wL cI cZ a q σ)) res 0 0) (F0 m 0 ls []) := by
  obtain ⟨hx, hb, hr, hml, hown, hts, hlk, hK⟩ := id C0
  unfold f_L_closeRow at h
  refine lv_iconst (v := 0) hx hb d_L_closeRow_0 (by decide) ?_
  refine lv_istore_n (lv' := [(1, .int 0), (0, .ref (a 0))]) hx hb d_L_closeRow_1 rfl hl (by decide) rfl (fun ls hl => ?_)
  refine lv_iconst (v := 0) hx hb d_L_closeRow_2 (by decide) ?_
  refine lv_istore_n (lv' := [(2, .int 0), (1, .int 0), (0, .ref (a 0))]) hx hb d_L_closeRow_3 rfl hl (by decide) rfl (fun ls hl => ?_)
  exact t_L_closeRow_4 (a := a) C0 hA  h hP hD hS (lv_sub hl [2, 1, 0] rfl)
set_option maxHeartbeats 4000000 in
set_option maxRecDepth 100000 in
theorem c_L_closeRow (l : Launch) (D : va_G) (cI cZ : ClassId) (a : Nat → Nat) (q : Nat) (σ : StL) {res : Int32 × StL} (h : f_L_closeRow σ = some res) : RwM l y_L_closeRow b_L_closeRow 3 (some .int) 0 0 D [(cI, .int), (cZ, .boolean)] [.ref (a 0)] (fun q (σ : StL) => (wL cI cZ a q σ)) q σ res :=
  rw_of (by decide) (Nat.le_of_ble_eq_true rfl) (fun p e s m args below meth c ls A C0 hA hP hD hS hl => t_L_closeRow_0 (a := a) C0 hA h hP hD hS (lv_sub hl [0] rfl))
