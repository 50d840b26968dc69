def f_L_liesBelowParts_13_s (rec : StL → Int32 → Int32 → Int32 → Option (Int32 × StL)) (k13 : StL → Int32 → Int32 → Int32 → Int32 → Int32 → Option (Int32 × StL)) (σ : StL) (x1 x2 x3 x4 x5 : Int32) : Option (Int32 × StL) :=
  if x4 ≤ x5 then
    some (1, σ)
  else
    (f_T_partOf (L_types σ) x2 x5).bind fun r2 =>
    (rec σ x1 r2 x3).bind fun r3 =>
    if r3.1 = 0 then
      some (0, r3.2)
    else
      k13 r3.2 x1 x2 x3 x4 (x5 + 1)
def f_L_liesBelowParts_13 (rec : StL → Int32 → Int32 → Int32 → Option (Int32 × StL)) : Nat → StL → Int32 → Int32 → Int32 → Int32 → Int32 → Option (Int32 × StL)
  | 0, _, _, _, _, _, _ => none
  | n + 1, σ, x1, x2, x3, x4, x5 => f_L_liesBelowParts_13_s rec (f_L_liesBelowParts_13 rec n) σ x1 x2 x3 x4 x5
def f_L_liesBelowParts (rec : StL → Int32 → Int32 → Int32 → Option (Int32 × StL)) (σ : StL) (x1 x2 x3 : Int32) : Option (Int32 × StL) :=
  (f_T_countParts (L_types σ) x2).bind fun r1 =>
  f_L_liesBelowParts_13 rec 1000 σ x1 x2 x3 r1 0
set_option maxHeartbeats 4000000 in
set_option maxRecDepth 100000 in
theorem t_L_liesBelowParts_13_s {p : Program} {l : Launch} {e : Env} {s : State} {m : MethodId} {args : Array Value} {below : List Frame} {meth : Method} {c : Code} {D : va_G} {cI cZ : ClassId} {a : Nat → Nat} {A : Nat → Prop} (C0 : Am p s m args meth c b_L_liesBelowParts (some .boolean) 6 R_L D [(cI, .int), (cZ, .boolean)]) (hA : ∀ q, s.heap.size ≤ q → A q) {res : Int32 × StL} {rec : StL → Int32 → Int32 → Int32 → Option (Int32 × StL)} {fr0 lc0 : Nat} (hfr : 4 ≤ fr0) (hlc : 98 ≤ lc0) (hrec : ∀ (q : Nat) (σ : StL) (z0 z1 z2 : Int32) (r : Int32 × StL), rec σ z0 z1 z2 = some r → RwM l y_L_liesBelow b_L_liesBelow 6 (some .boolean) fr0 lc0 D [(cI, .int), (cZ, .boolean)] [.ref (a 0), .int z0, .int z1, .int z2] (fun q (σ : StL) => wL cI cZ a q σ) q σ r) {k13 : StL → Int32 → Int32 → Int32 → Int32 → Int32 → Option (Int32 × StL)}  (hk13 : ∀ (q : Nat) (σ : StL) (x1 x2 x3 x4 x5 : Int32) (H : Heap) (locs : List Loc) (ls : Array Slot), k13 σ x1 x2 x3 x4 x5 = some res → va_P D vwCl (wL cI cZ a q σ) H → va_D A (wL cI cZ a q σ) → va_S A s.heap H locs → lv_has ls 6 [(0, .ref (a 0)), (1, .int x1), (2, .int x2), (3, .int x3), (4, .int x4), (5, .int x5)] → W p l e (rmK (fr0 + 1) (lc0 + 25) 0 0) s m args below meth c H locs 0 0 (RwQ below args s D A (fun q (σ : StL) => (wL cI cZ a q σ)) res 0 0) (F0 m 13 ls [])) {q : Nat} {σ : StL} {x1 x2 x3 x4 x5 : Int32} (h : f_L_liesBelowParts_13_s rec k13 σ x1 x2 x3 x4 x5 = some res) {H : Heap} {locs : List Loc} (hP : va_P D vwCl (wL cI cZ a q σ) H) (hD : va_D A (wL cI cZ a q σ)) (hS : va_S A s.heap H locs) {ls : Array Slot} (hl : lv_has ls 6 [(0, .ref (a 0)), (1, .int x1), (2, .int x2), (3, .int x3), (4, .int x4), (5, .int x5)]) : W p l e (rmK (fr0 + 1) (lc0 + 25) 0 0) s m args below meth c H locs 0 0 (RwQ below args s D A (fun q (σ : StL) => (wL cI cZ a q σ)) res 0 0) (F0 m 13 ls []) := by
  obtain ⟨hx, hb, hr, hml, hown, hts, hlk, hK⟩ := id C0
  unfold f_L_liesBelowParts_13_s at h
  refine lv_iload hx hb d_L_liesBelowParts_13 (lv_at hl 5 rfl) ?_
  refine lv_iload hx hb d_L_liesBelowParts_15 (lv_at hl 4 rfl) ?_
  refine lv_icmp_ge (tgt := 47) hx hb d_L_liesBelowParts_17 (by decide) (fun hc => ?_) (fun hc => ?_)
  · rw [if_pos hc] at h
    refine lv_iconst (v := 1) hx hb d_L_liesBelowParts_47 (by decide) ?_
    exact rw_retz C0 hP hD hS (by decide) (Option.some.inj h) d_L_liesBelowParts_48
  · rw [if_neg hc] at h
    refine lv_aload_n hx hb d_L_liesBelowParts_20 rfl (lv_at hl 0 rfl) ?_
    refine lv_iload_n hx hb d_L_liesBelowParts_21 rfl (lv_at hl 1 rfl) ?_
    refine lv_aload_n hx hb d_L_liesBelowParts_22 rfl (lv_at hl 0 rfl) ?_
    refine va_get (ci := 0) (v := .ref (a 10)) (C := R_L) (T := F_L) (N := 6) hx hb hts i_L hown hK.1 hP 0 rfl rfl 2 (by decide) (hts _ wd_85) (fun _ h9 => h9) rfl d_L_liesBelowParts_23 ?_
    refine lv_iload_n hx hb d_L_liesBelowParts_26 rfl (lv_at hl 2 rfl) ?_
    refine lv_iload hx hb d_L_liesBelowParts_27 (lv_at hl 5 rfl) ?_
    replace h := bd h
    obtain ⟨r2, g2, h⟩ := h
    refine ro_V (n := 2) (ci := 2) (As := [.int x2, .int x5]) (rest := [.int x1, .ref (a 0)]) C0 (c_T_partOf l D cI cZ a q (L_types σ) x2 x5 g2) wd_204 ⟨wd_205, wd_206, wd_207, wd_52⟩ (by decide +kernel) ⟨by show 1 + 1 ≤ fr0 + 1; omega, by show 8 + (4 + 11) + 21 ≤ lc0 + 25; omega⟩ (hP.pick [10, 11, 12, 13, 14, 15, 16, 17, 18] rfl) rfl rfl rfl hl rfl rfl (Nat.le_of_ble_eq_true rfl) ⟨Nat.zero_le _, Nat.zero_le _⟩ d_L_liesBelowParts_29 ?_
    try dsimp only at h
    refine lv_iload_n hx hb d_L_liesBelowParts_32 rfl (lv_at hl 3 rfl) ?_
    replace h := bd h
    obtain ⟨r3, g3, h⟩ := h
    refine rw_V (n := 3) (ci := 0) (As := [.int x1, .int r2, .int x3]) (rest := []) (Wn := fun q => (wL cI cZ a q r3.2)) C0 hA (hrec q σ x1 r2 x3 _ g3) wd_282 ⟨wd_283, wd_284, wd_285, wd_55⟩ (by decide +kernel) ⟨by show fr0 + 1 ≤ fr0 + 1; omega, by show 8 + (6 + 11) + (lc0) ≤ lc0 + 25; omega⟩ hP hD hS [0, 1, 2, 3, 4, 5, 6, 7, 8, 9, 10, 11, 12, 13, 14, 15, 16, 17, 18, 19, 20] [] [0, 1, 2, 3, 4, 5, 6, 7, 8, 9, 10, 11, 12, 13, 14, 15, 16, 17, 18, 19, 20] jn_L__C (by decide) jn_L__R (by decide) (by decide) (by decide) jn_L__W rfl rfl rfl hl rfl rfl (Nat.le_of_ble_eq_true rfl) ⟨Nat.zero_le _, Nat.zero_le _⟩ d_L_liesBelowParts_33 (fun H locs q hP hD hS => ?_)
    try dsimp only at h
    refine lv_if_ne (tgt := 41) hx hb d_L_liesBelowParts_36 (by decide) (fun hc => ?_) (fun hc => ?_)
    · rw [if_neg hc] at h
      refine lv_iinc (v := (x5 + 1)) (lv' := [(5, .int (x5 + 1)), (0, .ref (a 0)), (1, .int x1), (2, .int x2), (3, .int x3), (4, .int x4)]) hx hb d_L_liesBelowParts_41 hl (k := 5) rfl rfl (by decide) rfl (fun ls hl => ?_)
      refine lv_goto (tgt := 13) hx hb d_L_liesBelowParts_44 (by decide) ?_
      exact hk13 _ _ _ _ _ _ _ _ _ _ h hP hD hS (lv_sub hl [1, 2, 3, 4, 5, 0] rfl)
    · rw [if_pos hc] at h
      refine lv_iconst (v := 0) hx hb d_L_liesBelowParts_39 (by decide) ?_
      exact rw_retz C0 hP hD hS (by decide) (Option.some.inj h) d_L_liesBelowParts_40
set_option maxHeartbeats 4000000 in
set_option maxRecDepth 100000 in
theorem t_L_liesBelowParts_13 {p : Program} {l : Launch} {e : Env} {s : State} {m : MethodId} {args : Array Value} {below : List Frame} {meth : Method} {c : Code} {D : va_G} {cI cZ : ClassId} {a : Nat → Nat} {A : Nat → Prop} (C0 : Am p s m args meth c b_L_liesBelowParts (some .boolean) 6 R_L D [(cI, .int), (cZ, .boolean)]) (hA : ∀ q, s.heap.size ≤ q → A q) {res : Int32 × StL} {rec : StL → Int32 → Int32 → Int32 → Option (Int32 × StL)} {fr0 lc0 : Nat} (hfr : 4 ≤ fr0) (hlc : 98 ≤ lc0) (hrec : ∀ (q : Nat) (σ : StL) (z0 z1 z2 : Int32) (r : Int32 × StL), rec σ z0 z1 z2 = some r → RwM l y_L_liesBelow b_L_liesBelow 6 (some .boolean) fr0 lc0 D [(cI, .int), (cZ, .boolean)] [.ref (a 0), .int z0, .int z1, .int z2] (fun q (σ : StL) => wL cI cZ a q σ) q σ r)  {n : Nat} {q : Nat} {σ : StL} {x1 x2 x3 x4 x5 : Int32} (h : f_L_liesBelowParts_13 rec n σ x1 x2 x3 x4 x5 = some res) {H : Heap} {locs : List Loc} (hP : va_P D vwCl (wL cI cZ a q σ) H) (hD : va_D A (wL cI cZ a q σ)) (hS : va_S A s.heap H locs) {ls : Array Slot} (hl : lv_has ls 6 [(0, .ref (a 0)), (1, .int x1), (2, .int x2), (3, .int x3), (4, .int x4), (5, .int x5)]) : W p l e (rmK (fr0 + 1) (lc0 + 25) 0 0) s m args below meth c H locs 0 0 (RwQ below args s D A (fun q (σ : StL) => (wL cI cZ a q σ)) res 0 0) (F0 m 13 ls []) := by
  induction n generalizing q σ x1 x2 x3 x4 x5 H locs ls with
  | zero => cases h
  | succ n ih => exact t_L_liesBelowParts_13_s (a := a) C0 hA hfr hlc hrec  (fun _ _ _ _ _ _ _ _ _ _ h hP hD hS hl => ih h hP hD hS hl) h hP hD hS hl
set_option maxHeartbeats 4000000 in
set_option maxRecDepth 100000 in
theorem t_L_liesBelowParts_0 {p : Program} {l : Launch} {e : Env} {s : State} {m : MethodId} {args : Array Value} {below : List Frame} {meth : Method} {c : Code} {D : va_G} {cI cZ : ClassId} {a : Nat → Nat} {A : Nat → Prop} (C0 : Am p s m args meth c b_L_liesBelowParts (some .boolean) 6 R_L D [(cI, .int), (cZ, .boolean)]) (hA : ∀ q, s.heap.size ≤ q → A q) {res : Int32 × StL} {rec : StL → Int32 → Int32 → Int32 → Option (Int32 × StL)} {fr0 lc0 : Nat} (hfr : 4 ≤ fr0) (hlc : 98 ≤ lc0) (hrec : ∀ (q : Nat) (σ : StL) (z0 z1 z2 : Int32) (r : Int32 × StL), rec σ z0 z1 z2 = some r → RwM l y_L_liesBelow b_L_liesBelow 6 (some .boolean) fr0 lc0 D [(cI, .int), (cZ, .boolean)] [.ref (a 0), .int z0, .int z1, .int z2] (fun q (σ : StL) => wL cI cZ a q σ) q σ r)   {q : Nat} {σ : StL} {x1 x2 x3 : Int32} (h : f_L_liesBelowParts rec σ x1 x2 x3 = some res) {H : Heap} {locs : List Loc} (hP : va_P D vwCl (wL cI cZ a q σ) H) (hD : va_D A (wL cI cZ a q σ)) (hS : va_S A s.heap H locs) {ls : Array Slot} (hl : lv_has ls 6 [(0, .ref (a 0)), (1, .int x1), (2, .int x2), (3, .int x3)]) : W p l e (rmK (fr0 + 1) (lc0 + 25) 0 0) s m args below meth c H locs 0 0 (RwQ below args s D A (fun q (σ : StL) => (wL cI cZ a q σ)) res 0 0) (F0 m 0 ls []) := by
  obtain ⟨hx, hb, hr, hml, hown, hts, hlk, hK⟩ := id C0
  unfold f_L_liesBelowParts at h
  refine lv_aload_n hx hb d_L_liesBelowParts_0 rfl (lv_at hl 0 rfl) ?_
  refine va_get (ci := 0) (v := .ref (a 10)) (C := R_L) (T := F_L) (N := 6) hx hb hts i_L hown hK.1 hP 0 rfl rfl 2 (by decide) (hts _ wd_85) (fun _ h9 => h9) rfl d_L_liesBelowParts_1 ?_
  refine lv_iload_n hx hb d_L_liesBelowParts_4 rfl (lv_at hl 2 rfl) ?_
  replace h := bd h
  obtain ⟨r1, g1, h⟩ := h
  refine ro_V (n := 1) (ci := 2) (As := [.int x2]) (rest := []) C0 (c_T_countParts l D cI cZ a q (L_types σ) x2 g1) wd_200 ⟨wd_201, wd_202, wd_203, wd_52⟩ (by decide +kernel) ⟨by show 1 + 1 ≤ fr0 + 1; omega, by show 8 + (2 + 11) + 21 ≤ lc0 + 25; omega⟩ (hP.pick [10, 11, 12, 13, 14, 15, 16, 17, 18] rfl) rfl rfl rfl hl rfl rfl (Nat.le_of_ble_eq_true rfl) ⟨Nat.zero_le _, Nat.zero_le _⟩ d_L_liesBelowParts_5 ?_
  try dsimp only at h
  refine lv_istore (lv' := [(4, .int r1), (0, .ref (a 0)), (1, .int x1), (2, .int x2), (3, .int x3)]) hx hb d_L_liesBelowParts_8 hl (by decide) rfl (fun ls hl => ?_)
  refine lv_iconst (v := 0) hx hb d_L_liesBelowParts_10 (by decide) ?_
  refine lv_istore (lv' := [(5, .int 0), (4, .int r1), (0, .ref (a 0)), (1, .int x1), (2, .int x2), (3, .int x3)]) hx hb d_L_liesBelowParts_11 hl (by decide) rfl (fun ls hl => ?_)
  exact t_L_liesBelowParts_13 (a := a) C0 hA hfr hlc hrec  h hP hD hS (lv_sub hl [2, 3, 4, 5, 1, 0] rfl)
set_option maxHeartbeats 4000000 in
set_option maxRecDepth 100000 in
theorem c_L_liesBelowParts {l : Launch} {D : va_G} {cI cZ : ClassId} {a : Nat → Nat} {rec : StL → Int32 → Int32 → Int32 → Option (Int32 × StL)} {fr0 lc0 : Nat} (hfr : 4 ≤ fr0) (hlc : 98 ≤ lc0) (hrec : ∀ (q : Nat) (σ : StL) (z0 z1 z2 : Int32) (r : Int32 × StL), rec σ z0 z1 z2 = some r → RwM l y_L_liesBelow b_L_liesBelow 6 (some .boolean) fr0 lc0 D [(cI, .int), (cZ, .boolean)] [.ref (a 0), .int z0, .int z1, .int z2] (fun q (σ : StL) => wL cI cZ a q σ) q σ r) (q : Nat) (σ : StL) (x1 : Int32) (x2 : Int32) (x3 : Int32) {res : Int32 × StL} (h : f_L_liesBelowParts rec σ x1 x2 x3 = some res) : RwM l y_L_liesBelowParts b_L_liesBelowParts 6 (some .boolean) (fr0 + 1) (lc0 + 25) D [(cI, .int), (cZ, .boolean)] [.ref (a 0), .int x1, .int x2, .int x3] (fun q (σ : StL) => (wL cI cZ a q σ)) q σ res :=
  rw_of (by decide) (Nat.le_of_ble_eq_true rfl) (fun p e s m args below meth c ls A C0 hA hP hD hS hl => t_L_liesBelowParts_0 (a := a) C0 hA hfr hlc hrec h hP hD hS (lv_sub hl [0, 1, 2, 3] rfl))
