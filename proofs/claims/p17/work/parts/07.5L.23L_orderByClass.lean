def f_L_orderByClass_72 (k12 : StL → Int32 → Int32 → Int32 → Option (Int32 × StL)) (σ : StL) (x1 x2 x3 x4 : Int32) : Option (Int32 × StL) :=
  if x3 < 0 ∨ 60 ≤ x3.toNatClampNeg then none else
  if x4 < 0 ∨ 90 ≤ x4.toNatClampNeg then none else
  k12 (L_put_row σ x4 ((L_gathered σ) x3.toNatClampNeg)) x1 x2 (x3 + 1)
def f_L_orderByClass_12_s (k12 : StL → Int32 → Int32 → Int32 → Option (Int32 × StL)) (σ : StL) (x1 x2 x3 : Int32) : Option (Int32 × StL) :=
  if x1 ≤ x3 then
    if x2 ≤ 1 then
      (f_L_closeRow σ).bind fun r1 =>
      some (r1.1, r1.2)
    else
      some (0, σ)
  else
    if x3 < 0 ∨ 60 ≤ x3.toNatClampNeg then none else
    (f_T_classOf (L_types σ) ((L_gathered σ) x3.toNatClampNeg)).bind fun r2 =>
    if r2 < 0 then
      some (0, σ)
    else
      if 30 ≤ r2 then
        some (0, σ)
      else
        if r2 < 0 ∨ 90 ≤ r2.toNatClampNeg then none else
        if ((L_row σ) r2.toNatClampNeg) = (-1) then
          (f_C_isFace (L_classes σ) r2).bind fun r3 =>
          if r3 = 0 then
            f_L_orderByClass_72 k12 σ x1 (x2 + 1) x3 r2
          else
            f_L_orderByClass_72 k12 σ x1 x2 x3 r2
        else
          some (0, σ)
def f_L_orderByClass_12 : Nat → StL → Int32 → Int32 → Int32 → Option (Int32 × StL)
  | 0, _, _, _, _ => none
  | n + 1, σ, x1, x2, x3 => f_L_orderByClass_12_s (f_L_orderByClass_12 n) σ x1 x2 x3
def f_L_orderByClass (σ : StL) (x1 : Int32) : Option (Int32 × StL) :=
  f_L_orderByClass_12 1000 (L_set_row σ (J_fill (L_row σ) 90 (-1 : Int32))) x1 0 0
set_option maxHeartbeats 4000000 in
set_option maxRecDepth 100000 in
theorem t_L_orderByClass_72 {p : Program} {l : Launch} {e : Env} {s : State} {m : MethodId} {args : Array Value} {below : List Frame} {meth : Method} {c : Code} {D : va_G} {cI cZ : ClassId} {a : Nat → Nat} {A : Nat → Prop} (C0 : Am p s m args meth c b_L_orderByClass (some .int) 5 R_L D [(cI, .int), (cZ, .boolean)]) (hA : ∀ q, s.heap.size ≤ q → A q) {res : Int32 × StL} {k12 : StL → Int32 → Int32 → Int32 → Option (Int32 × StL)} (hk12 : ∀ (q : Nat) (σ : StL) (x1 x2 x3 : Int32) (H : Heap) (locs : List Loc) (ls : Array Slot), k12 σ x1 x2 x3 = some res → va_P D vwCl (wL cI cZ a q σ) H → va_D A (wL cI cZ a q σ) → va_S A s.heap H locs → lv_has ls 5 [(0, .ref (a 0)), (1, .int x1), (2, .int x2), (3, .int x3)] → W p l e (rmK 2 82 0 0) s m args below meth c H locs 0 0 (RwQ below args s D A (fun q (σ : StL) => (wL cI cZ a q σ)) res 0 0) (F0 m 12 ls []))  {q : Nat} {σ : StL} {x1 x2 x3 x4 : Int32} (h : f_L_orderByClass_72 k12 σ x1 x2 x3 x4 = some res) {H : Heap} {locs : List Loc} (hP : va_P D vwCl (wL cI cZ a q σ) H) (hD : va_D A (wL cI cZ a q σ)) (hS : va_S A s.heap H locs) {ls : Array Slot} (hl : lv_has ls 5 [(0, .ref (a 0)), (1, .int x1), (2, .int x2), (3, .int x3), (4, .int x4)]) : W p l e (rmK 2 82 0 0) s m args below meth c H locs 0 0 (RwQ below args s D A (fun q (σ : StL) => (wL cI cZ a q σ)) res 0 0) (F0 m 72 ls []) := by
  obtain ⟨hx, hb, hr, hml, hown, hts, hlk, hK⟩ := id C0
  unfold f_L_orderByClass_72 at h
  refine lv_aload_n hx hb d_L_orderByClass_72 rfl (lv_at hl 0 rfl) ?_
  refine va_get (ci := 0) (v := .ref (a 1)) (C := R_L) (T := F_L) (N := 6) hx hb hts i_L hown hK.1 hP 0 rfl rfl 4 (by decide) (hts _ wd_256) (fun _ h9 => h9) rfl d_L_orderByClass_73 ?_
  refine lv_iload hx hb d_L_orderByClass_76 (lv_at hl 4 rfl) ?_
  refine lv_aload_n hx hb d_L_orderByClass_78 rfl (lv_at hl 0 rfl) ?_
  refine va_get (ci := 0) (v := .ref (a 2)) (C := R_L) (T := F_L) (N := 6) hx hb hts i_L hown hK.1 hP 0 rfl rfl 5 (by decide) (hts _ wd_305) (fun _ h9 => h9) rfl d_L_orderByClass_79 ?_
  refine lv_iload_n hx hb d_L_orderByClass_82 rfl (lv_at hl 3 rfl) ?_
  replace h := gd h
  obtain ⟨hi, h⟩ := h
  refine va_iald hx hb hK.1 hP 2 0 rfl rfl hi d_L_orderByClass_83 ?_
  replace h := gd h
  obtain ⟨hi, h⟩ := h
  refine rw_iast C0 hP hD hS 1 0 rfl rfl hi d_L_orderByClass_84 (Wn := (wL cI cZ a q (L_put_row σ x4 ((L_gathered σ) x3.toNatClampNeg)))) ws_L_put_row (fun H locs hP hD hS => ?_)
  refine lv_iinc (v := (x3 + 1)) (lv' := [(3, .int (x3 + 1)), (0, .ref (a 0)), (1, .int x1), (2, .int x2), (4, .int x4)]) hx hb d_L_orderByClass_85 hl (k := 3) rfl rfl (by decide) rfl (fun ls hl => ?_)
  refine lv_goto (tgt := 12) hx hb d_L_orderByClass_88 (by decide) ?_
  exact hk12 _ _ _ _ _ _ _ _ h hP hD hS (lv_sub hl [1, 2, 3, 0] rfl)
set_option maxHeartbeats 4000000 in
set_option maxRecDepth 100000 in
theorem t_L_orderByClass_12_s {p : Program} {l : Launch} {e : Env} {s : State} {m : MethodId} {args : Array Value} {below : List Frame} {meth : Method} {c : Code} {D : va_G} {cI cZ : ClassId} {a : Nat → Nat} {A : Nat → Prop} (C0 : Am p s m args meth c b_L_orderByClass (some .int) 5 R_L D [(cI, .int), (cZ, .boolean)]) (hA : ∀ q, s.heap.size ≤ q → A q) {res : Int32 × StL} {k12 : StL → Int32 → Int32 → Int32 → Option (Int32 × StL)}  (hk12 : ∀ (q : Nat) (σ : StL) (x1 x2 x3 : Int32) (H : Heap) (locs : List Loc) (ls : Array Slot), k12 σ x1 x2 x3 = some res → va_P D vwCl (wL cI cZ a q σ) H → va_D A (wL cI cZ a q σ) → va_S A s.heap H locs → lv_has ls 5 [(0, .ref (a 0)), (1, .int x1), (2, .int x2), (3, .int x3)] → W p l e (rmK 2 82 0 0) s m args below meth c H locs 0 0 (RwQ below args s D A (fun q (σ : StL) => (wL cI cZ a q σ)) res 0 0) (F0 m 12 ls [])) {q : Nat} {σ : StL} {x1 x2 x3 : Int32} (h : f_L_orderByClass_12_s k12 σ x1 x2 x3 = some res) {H : Heap} {locs : List Loc} (hP : va_P D vwCl (wL cI cZ a q σ) H) (hD : va_D A (wL cI cZ a q σ)) (hS : va_S A s.heap H locs) {ls : Array Slot} (hl : lv_has ls 5 [(0, .ref (a 0)), (1, .int x1), (2, .int x2), (3, .int x3)]) : W p l e (rmK 2 82 0 0) s m args below meth c H locs 0 0 (RwQ below args s D A (fun q (σ : StL) => (wL cI cZ a q σ)) res 0 0) (F0 m 12 ls []) := by
  obtain ⟨hx, hb, hr, hml, hown, hts, hlk, hK⟩ := id C0
  unfold f_L_orderByClass_12_s at h
  refine lv_iload_n hx hb d_L_orderByClass_12 rfl (lv_at hl 3 rfl) ?_
  refine lv_iload_n hx hb d_L_orderByClass_13 rfl (lv_at hl 1 rfl) ?_
  refine lv_icmp_ge (tgt := 91) hx hb d_L_orderByClass_14 (by decide) (fun hc => ?_) (fun hc => ?_)
  · rw [if_pos hc] at h
    refine lv_iload_n hx hb d_L_orderByClass_91 rfl (lv_at hl 2 rfl) ?_
    refine lv_iconst (v := 1) hx hb d_L_orderByClass_92 (by decide) ?_
    refine lv_icmp_le (tgt := 100) hx hb d_L_orderByClass_93 (by decide) (fun hc => ?_) (fun hc => ?_)
    · rw [if_pos hc] at h
      refine lv_aload_n hx hb d_L_orderByClass_100 rfl (lv_at hl 0 rfl) ?_
      replace h := bd h
      obtain ⟨r1, g1, h⟩ := h
      refine rw_V (n := 0) (ci := 0) (As := []) (rest := []) (Wn := fun q => (wL cI cZ a q r1.2)) C0 hA (c_L_closeRow l D cI cZ a q σ g1) wd_308 ⟨wd_309, wd_310, wd_311, wd_55⟩ (by decide +kernel) ⟨Nat.le_of_ble_eq_true rfl, Nat.le_of_ble_eq_true rfl⟩ hP hD hS [0, 1, 2, 3, 4, 5, 6, 7, 8, 9, 10, 11, 12, 13, 14, 15, 16, 17, 18, 19, 20] [] [0, 1, 2, 3, 4, 5, 6, 7, 8, 9, 10, 11, 12, 13, 14, 15, 16, 17, 18, 19, 20] jn_L__C (by decide) jn_L__R (by decide) (by decide) (by decide) jn_L__W rfl rfl rfl hl rfl rfl (Nat.le_of_ble_eq_true rfl) ⟨Nat.zero_le _, Nat.zero_le _⟩ d_L_orderByClass_101 (fun H locs q hP hD hS => ?_)
      try dsimp only at h
      exact rw_ret C0 hP hD hS (Option.some.inj h) d_L_orderByClass_104
    · rw [if_neg hc] at h
      refine lv_iconst (v := 0) hx hb d_L_orderByClass_96 (by decide) ?_
      refine lv_goto (tgt := 104) hx hb d_L_orderByClass_97 (by decide) ?_
      exact rw_ret C0 hP hD hS (Option.some.inj h) d_L_orderByClass_104
  · rw [if_neg hc] at h
    refine lv_aload_n hx hb d_L_orderByClass_17 rfl (lv_at hl 0 rfl) ?_
    refine va_get (ci := 0) (v := .ref (a 10)) (C := R_L) (T := F_L) (N := 6) hx hb hts i_L hown hK.1 hP 0 rfl rfl 2 (by decide) (hts _ wd_85) (fun _ h9 => h9) rfl d_L_orderByClass_18 ?_
    refine lv_aload_n hx hb d_L_orderByClass_21 rfl (lv_at hl 0 rfl) ?_
    refine va_get (ci := 0) (v := .ref (a 2)) (C := R_L) (T := F_L) (N := 6) hx hb hts i_L hown hK.1 hP 0 rfl rfl 5 (by decide) (hts _ wd_305) (fun _ h9 => h9) rfl d_L_orderByClass_22 ?_
    refine lv_iload_n hx hb d_L_orderByClass_25 rfl (lv_at hl 3 rfl) ?_
    replace h := gd h
    obtain ⟨hi, h⟩ := h
    refine va_iald hx hb hK.1 hP 2 0 rfl rfl hi d_L_orderByClass_26 ?_
    replace h := bd h
    obtain ⟨r2, g2, h⟩ := h
    refine ro_V (n := 1) (ci := 2) (As := [.int ((L_gathered σ) x3.toNatClampNeg)]) (rest := []) C0 (c_T_classOf l D cI cZ a q (L_types σ) ((L_gathered σ) x3.toNatClampNeg) g2) wd_195 ⟨wd_196, wd_197, wd_198, wd_52⟩ (by decide +kernel) ⟨Nat.le_of_ble_eq_true rfl, Nat.le_of_ble_eq_true rfl⟩ (hP.pick [10, 11, 12, 13, 14, 15, 16, 17, 18] rfl) rfl rfl rfl hl rfl rfl (Nat.le_of_ble_eq_true rfl) ⟨Nat.zero_le _, Nat.zero_le _⟩ d_L_orderByClass_27 ?_
    try dsimp only at h
    refine lv_istore (lv' := [(4, .int r2), (0, .ref (a 0)), (1, .int x1), (2, .int x2), (3, .int x3)]) hx hb d_L_orderByClass_30 hl (by decide) rfl (fun ls hl => ?_)
    refine lv_iload hx hb d_L_orderByClass_32 (lv_at hl 0 rfl) ?_
    refine lv_if_lt (tgt := 55) hx hb d_L_orderByClass_34 (by decide) (fun hc => ?_) (fun hc => ?_)
    · rw [if_pos hc] at h
      refine lv_iconst (v := 0) hx hb d_L_orderByClass_55 (by decide) ?_
      exact rw_ret C0 hP hD hS (Option.some.inj h) d_L_orderByClass_56
    · rw [if_neg hc] at h
      refine lv_iload hx hb d_L_orderByClass_37 (lv_at hl 0 rfl) ?_
      refine lv_bipush (v := 30) hx hb d_L_orderByClass_39 (by decide) ?_
      refine lv_icmp_ge (tgt := 55) hx hb d_L_orderByClass_41 (by decide) (fun hc => ?_) (fun hc => ?_)
      · rw [if_pos hc] at h
        refine lv_iconst (v := 0) hx hb d_L_orderByClass_55 (by decide) ?_
        exact rw_ret C0 hP hD hS (Option.some.inj h) d_L_orderByClass_56
      · rw [if_neg hc] at h
        refine lv_aload_n hx hb d_L_orderByClass_44 rfl (lv_at hl 1 rfl) ?_
        refine va_get (ci := 0) (v := .ref (a 1)) (C := R_L) (T := F_L) (N := 6) hx hb hts i_L hown hK.1 hP 0 rfl rfl 4 (by decide) (hts _ wd_256) (fun _ h9 => h9) rfl d_L_orderByClass_45 ?_
        refine lv_iload hx hb d_L_orderByClass_48 (lv_at hl 0 rfl) ?_
        replace h := gd h
        obtain ⟨hi, h⟩ := h
        refine va_iald hx hb hK.1 hP 1 0 rfl rfl hi d_L_orderByClass_50 ?_
        refine lv_iconst (v := (-1)) hx hb d_L_orderByClass_51 (by decide) ?_
        refine lv_icmp_eq (tgt := 57) hx hb d_L_orderByClass_52 (by decide) (fun hc => ?_) (fun hc => ?_)
        · rw [if_pos hc] at h
          refine lv_aload_n hx hb d_L_orderByClass_57 rfl (lv_at hl 1 rfl) ?_
          refine va_get (ci := 0) (v := .ref (a 3)) (C := R_L) (T := F_L) (N := 6) hx hb hts i_L hown hK.1 hP 0 rfl rfl 1 (by decide) (hts _ wd_67) (fun _ h9 => h9) rfl d_L_orderByClass_58 ?_
          refine lv_iload hx hb d_L_orderByClass_61 (lv_at hl 0 rfl) ?_
          replace h := bd h
          obtain ⟨r3, g3, h⟩ := h
          refine ro_V (n := 1) (ci := 1) (As := [.int r2]) (rest := []) C0 (c_C_isFace l D cI cZ a q (L_classes σ) r2 g3) wd_312 ⟨wd_33, wd_34, wd_35, wd_8⟩ (by decide +kernel) ⟨Nat.le_of_ble_eq_true rfl, Nat.le_of_ble_eq_true rfl⟩ (hP.pick [3, 4, 5, 6, 7, 8, 9] rfl) rfl rfl rfl hl rfl rfl (Nat.le_of_ble_eq_true rfl) ⟨Nat.zero_le _, Nat.zero_le _⟩ d_L_orderByClass_63 ?_
          try dsimp only at h
          refine lv_if_ne (tgt := 72) hx hb d_L_orderByClass_66 (by decide) (fun hc => ?_) (fun hc => ?_)
          · rw [if_neg hc] at h
            exact t_L_orderByClass_72 (a := a) C0 hA hk12 h hP hD hS (lv_sub hl [1, 2, 3, 4, 0] rfl)
          · rw [if_pos hc] at h
            refine lv_iinc (v := (x2 + 1)) (lv' := [(2, .int (x2 + 1)), (4, .int r2), (0, .ref (a 0)), (1, .int x1), (3, .int x3)]) hx hb d_L_orderByClass_69 hl (k := 3) rfl rfl (by decide) rfl (fun ls hl => ?_)
            exact t_L_orderByClass_72 (a := a) C0 hA hk12 h hP hD hS (lv_sub hl [2, 3, 0, 4, 1] rfl)
        · rw [if_neg hc] at h
          refine lv_iconst (v := 0) hx hb d_L_orderByClass_55 (by decide) ?_
          exact rw_ret C0 hP hD hS (Option.some.inj h) d_L_orderByClass_56
set_option maxHeartbeats 4000000 in
set_option maxRecDepth 100000 in
theorem t_L_orderByClass_12 {p : Program} {l : Launch} {e : Env} {s : State} {m : MethodId} {args : Array Value} {below : List Frame} {meth : Method} {c : Code} {D : va_G} {cI cZ : ClassId} {a : Nat → Nat} {A : Nat → Prop} (C0 : Am p s m args meth c b_L_orderByClass (some .int) 5 R_L D [(cI, .int), (cZ, .boolean)]) (hA : ∀ q, s.heap.size ≤ q → A q) {res : Int32 × StL}  {n : Nat} {q : Nat} {σ : StL} {x1 x2 x3 : Int32} (h : f_L_orderByClass_12  n σ x1 x2 x3 = some res) {H : Heap} {locs : List Loc} (hP : va_P D vwCl (wL cI cZ a q σ) H) (hD : va_D A (wL cI cZ a q σ)) (hS : va_S A s.heap H locs) {ls : Array Slot} (hl : lv_has ls 5 [(0, .ref (a 0)), (1, .int x1), (2, .int x2), (3, .int x3)]) : W p l e (rmK 2 82 0 0) s m args below meth c H locs 0 0 (RwQ below args s D A (fun q (σ : StL) => (wL cI cZ a q σ)) res 0 0) (F0 m 12 ls []) := by
  induction n generalizing q σ x1 x2 x3 H locs ls with
  | zero => cases h
  | succ n ih => exact t_L_orderByClass_12_s (a := a) C0 hA  (fun _ _ _ _ _ _ _ _ h hP hD hS hl => ih h hP hD hS hl) h hP hD hS hl
set_option maxHeartbeats 4000000 in
set_option maxRecDepth 100000 in
theorem t_L_orderByClass_0 {p : Program} {l : Launch} {e : Env} {s : State} {m : MethodId} {args : Array Value} {below : List Frame} {meth : Method} {c : Code} {D : va_G} {cI cZ : ClassId} {a : Nat → Nat} {A : Nat → Prop} (C0 : Am p s m args meth c b_L_orderByClass (some .int) 5 R_L D [(cI, .int), (cZ, .boolean)]) (hA : ∀ q, s.heap.size ≤ q → A q) {res : Int32 × StL}   {q : Nat} {σ : StL} {x1 : Int32} (h : f_L_orderByClass σ x1 = some res) {H : Heap} {locs : List Loc} (hP : va_P D vwCl (wL cI cZ a q σ) H) (hD : va_D A (wL cI cZ a q σ)) (hS : va_S A s.heap H locs) {ls : Array Slot} (hl : lv_has ls 5 [(0, .ref (a 0)), (1, .int x1)]) : W p l e (rmK 2 82 0 0) s m args below meth c H locs 0 0 (RwQ below args s D A (fun q (σ : StL) => (wL cI cZ a q σ)) res 0 0) (F0 m 0 ls []) := by
  obtain ⟨hx, hb, hr, hml, hown, hts, hlk, hK⟩ := id C0
  unfold f_L_orderByClass at h
  refine lv_aload_n hx hb d_L_orderByClass_0 rfl (lv_at hl 0 rfl) ?_
  refine va_get (ci := 0) (v := .ref (a 1)) (C := R_L) (T := F_L) (N := 6) hx hb hts i_L hown hK.1 hP 0 rfl rfl 4 (by decide) (hts _ wd_256) (fun _ h9 => h9) rfl d_L_orderByClass_1 ?_
  refine lv_iconst (v := (-1)) hx hb d_L_orderByClass_4 (by decide) ?_
  refine rw_Sv (n := 2) (As := [.ref (a 1), .int (-1)]) (rest := []) (Wn := fun _ => (wL cI cZ a q (L_set_row σ (J_fill (L_row σ) 90 (-1 : Int32))))) C0 hA (c_J_fill l D cI cZ (a 1) 90 (L_row σ) (-1 : Int32) (by decide)) wd_307 ⟨wd_131, wd_132, wd_133⟩ (by decide +kernel) ⟨Nat.le_of_ble_eq_true rfl, Nat.le_of_ble_eq_true rfl⟩ hP hD hS [1] [0, 2, 3, 4, 5, 6, 7, 8, 9, 10, 11, 12, 13, 14, 15, 16, 17, 18, 19, 20] [0, 20, 1, 2, 3, 4, 5, 6, 7, 8, 9, 10, 11, 12, 13, 14, 15, 16, 17, 18, 19] jf_L_row_C (by decide) jf_L_row_R (by decide) (by decide) (by decide) jf_L_row_W hl rfl rfl (Nat.le_of_ble_eq_true rfl) ⟨Nat.zero_le _, Nat.zero_le _⟩ d_L_orderByClass_5 (fun H locs _ hP hD hS => ?_)
  refine lv_iconst (v := 0) hx hb d_L_orderByClass_8 (by decide) ?_
  refine lv_istore_n (lv' := [(2, .int 0), (0, .ref (a 0)), (1, .int x1)]) hx hb d_L_orderByClass_9 rfl hl (by decide) rfl (fun ls hl => ?_)
  refine lv_iconst (v := 0) hx hb d_L_orderByClass_10 (by decide) ?_
  refine lv_istore_n (lv' := [(3, .int 0), (2, .int 0), (0, .ref (a 0)), (1, .int x1)]) hx hb d_L_orderByClass_11 rfl hl (by decide) rfl (fun ls hl => ?_)
  exact t_L_orderByClass_12 (a := a) C0 hA  h hP hD hS (lv_sub hl [2, 3, 1, 0] rfl)
set_option maxHeartbeats 4000000 in
set_option maxRecDepth 100000 in
theorem c_L_orderByClass (l : Launch) (D : va_G) (cI cZ : ClassId) (a : Nat → Nat) (q : Nat) (σ : StL) (x1 : Int32) {res : Int32 × StL} (h : f_L_orderByClass σ x1 = some res) : RwM l y_L_orderByClass b_L_orderByClass 5 (some .int) 2 82 D [(cI, .int), (cZ, .boolean)] [.ref (a 0), .int x1] (fun q (σ : StL) => (wL cI cZ a q σ)) q σ res :=
  rw_of (by decide) (Nat.le_of_ble_eq_true rfl) (fun p e s m args below meth c ls A C0 hA hP hD hS hl => t_L_orderByClass_0 (a := a) C0 hA h hP hD hS (lv_sub hl [0, 1] rfl))
