-- part 07.5L.23L_orderByClass.lean.txt
def f_L_orderByClass_72 (k12 : StL → Int32 → Int32 → Int32 → Option (Int32 × StL)) (σ : StL) (x1 x2 x3 x4 : Int32) : Option (Int32 × StL) :=
  if x3 < 0 ∨ 60 ≤ x3.toNatClampNeg then none else
  if x4 < 0 ∨ 90 ≤ x4.toNatClampNeg then none else
  k12 (L_put_row σ x4 ((L_gathered σ) x3.toNatClampNeg)) x1 x2 (x3 + 1)
def f_L_orderByClass_12_s (k12 : StL → Int32 → Int32 → Int32 → Option (Int32 × StL)) (σ : StL) (x1 x2 x3 : Int32) : Option (Int32 × StL) :=
  if x1 ≤ x3 then
    if x2 ≤ 1 then
      (f_L_closeRow σ).bind fun r1 =>
      some (r1.1, r1.2)
    else
      some (0, σ)
  else
    if x3 < 0 ∨ 60 ≤ x3.toNatClampNeg then none else
    (f_T_classOf (L_types σ) ((L_gathered σ) x3.toNatClampNeg)).bind fun r2 =>
    if r2 < 0 then
      some (0, σ)
    else
      if 30 ≤ r2 then
        some (0, σ)
      else
        if r2 < 0 ∨ 90 ≤ r2.toNatClampNeg then none else
        if ((L_row σ) r2.toNatClampNeg) = (-1) then
          (f_C_isFace (L_classes σ) r2).bind fun r3 =>
          if r3 = 0 then
            f_L_orderByClass_72 k12 σ x1 (x2 + 1) x3 r2
          else
            f_L_orderByClass_72 k12 σ x1 x2 x3 r2
        else
          some (0, σ)
def f_L_orderByClass_12 : Nat → StL → Int32 → Int32 → Int32 → Option (Int32 × StL)
  | 0, _, _, _, _ => none
  | n + 1, σ, x1, x2, x3 => f_L_orderByClass_12_s (f_L_orderByClass_12 n) σ x1 x2 x3
def f_L_orderByClass (σ : StL) (x1 : Int32) : Option (Int32 × StL) :=
  f_L_orderByClass_12 1000 (L_set_row σ (J_fill (L_row σ) 90 (-1 : Int32))) x1 0 0
set_option maxHeartbeats 4000000 in
set_option maxRecDepth 100000 in
theorem t_L_orderByClass_72 {p : Program} {l : Launch} {e : Env} {s : State} {m : MethodId} {args : Array Value} {below : List Frame} {meth : Method} {c : Code} {D : va_G} {cI cZ : ClassId} {a : Nat → Nat} {A : Nat → Prop} (C0 : Am p s m args meth c b_L_orderByClass (some .int) 5 R_L D [(cI, .int), (cZ, .boolean)]) (hA : ∀ q, s.heap.size ≤ q → A q) {res : Int32 × StL} {k12 : StL → Int32 → Int32 → Int32 → Option (Int32 × StL)} (hk12 : ∀ (q : Nat) (σ : StL) (x1 x2 x3 : Int32) (H : Heap) (locs : List Loc) (ls : Array Slot), k12 σ x1 x2 x3 = some res → va_P D vwCl (wL cI cZ a q σ) H → va_D A (wL cI cZ a q σ) → va_S A s.heap H locs → lv_has ls 5 [(0, .ref (a 0)), (1, .int x1), (2, .int x2), (3, .int x3)] → W p l e (rmK 2 82 0 0) s m args below meth c H locs 0 0 (RwQ below args s D A (fun q (σ : StL) => (wL cI cZ a q σ)) res 0 0) (F0 m 12 ls []))  {q : Nat} {σ : StL} {x1 x2 x3 x4 : Int32} (h : f_L_orderByClass_72 k12 σ x1 x2 x3 x4 = some res) {H : Heap} {locs : List Loc} (hP : va_P D vwCl (wL cI cZ a q σ) H) (hD : va_D A (wL cI cZ a q σ)) (hS : va_S A s.heap H locs) {ls : Array Slot} (hl : lv_has ls 5 [(0, .ref (a 0)), (1, .int x1), (2, .int x2), (3, .int x3), (4, .int x4)]) : W p l e (rmK 2 82 0 0) s m args below meth c H locs 0 0 (RwQ below args s D A (fun q (σ : StL) => (wL cI cZ a q σ)) res 0 0) (F0 m 72 ls []) := by
  obtain ⟨hx, hb, hr, hml, hown, hts, hlk, hK⟩ := id C0
  unfold f_L_orderByClass_72 at h
  refine lv_aload_n hx hb d_L_orderByClass_72 rfl (lv_at hl 0 rfl) ?_
  refine va_get (ci := 0) (v := .ref (a 1)) (C := R_L) (T := F_L) (N := 6) hx hb hts i_L hown hK.1 hP 0 rfl rfl 4 (by decide) (hts _ wd_256) (fun _ h9 => h9) rfl d_L_orderByClass_73 ?_
  refine lv_iload hx hb d_L_orderByClass_76 (lv_at hl 4 rfl) ?_
  refine lv_aload_n hx hb d_L_orderByClass_78 rfl (lv_at hl 0 rfl) ?_
  refine va_get (ci := 0) (v := .ref (a 2)) (C := R_L) (T := F_L) (N := 6) hx hb hts i_L hown hK.1 hP 0 rfl rfl 5 (by decide) (hts _ wd_305) (fun _ h9 => h9) rfl d_L_orderByClass_79 ?_
  refine lv_iload_n hx hb d_L_orderByClass_82 rfl (lv_at hl 3 rfl) ?_
  replace h := gd h
  obtain ⟨hi, h⟩ := h
  refine va_iald hx hb hK.1 hP 2 0 rfl rfl hi d_L_orderByClass_83 ?_
  replace h := gd h
  obtain ⟨hi, h⟩ := h
  refine rw_iast C0 hP hD hS 1 0 rfl rfl hi d_L_orderByClass_84 (Wn := (wL cI cZ a q (L_put_row σ x4 ((L_gathered σ) x3.toNatClampNeg)))) ws_L_put_row (fun H locs hP hD hS => ?_)
  refine lv_iinc (v := (x3 + 1)) (lv' := [(3, .int (x3 + 1)), (0, .ref (a 0)), (1, .int x1), (2, .int x2), (4, .int x4)]) hx hb d_L_orderByClass_85 hl (k := 3) rfl rfl (by decide) rfl (fun ls hl => ?_)
  refine lv_goto (tgt := 12) hx hb d_L_orderByClass_88 (by decide) ?_
  exact hk12 _ _ _ _ _ _ _ _ h hP hD hS (lv_sub hl [1, 2, 3, 0] rfl)
set_option maxHeartbeats 4000000 in
set_option maxRecDepth 100000 in
theorem t_L_orderByClass_12_s {p : Program} {l : Launch} {e : Env} {s : State} {m : MethodId} {args : Array Value} {below : List Frame} {meth : Method} {c : Code} {D : va_G} {cI cZ : ClassId} {a : Nat → Nat} {A : Nat → Prop} (C0 : Am p s m args meth c b_L_orderByClass (some .int) 5 R_L D [(cI, .int), (cZ, .boolean)]) (hA : ∀ q, s.heap.size ≤ q → A q) {res : Int32 × StL} {k12 : StL → Int32 → Int32 → Int32 → Option (Int32 × StL)}  (hk12 : ∀ (q : Nat) (σ : StL) (x1 x2 x3 : Int32) (H : Heap) (locs : List Loc) (ls : Array Slot), k12 σ x1 x2 x3 = some res → va_P D vwCl (wL cI cZ a q σ) H → va_D A (wL cI cZ a q σ) → va_S A s.heap H locs → lv_has ls 5 [(0, .ref (a 0)), (1, .int x1), (2, .int x2), (3, .int x3)] → W p l e (rmK 2 82 0 0) s m args below meth c H locs 0 0 (RwQ below args s D A (fun q (σ : StL) => (wL cI cZ a q σ)) res 0 0) (F0 m 12 ls [])) {q : Nat} {σ : StL} {x1 x2 x3 : Int32} (h : f_L_orderByClass_12_s k12 σ x1 x2 x3 = some res) {H : Heap} {locs : List Loc} (hP : va_P D vwCl (wL cI cZ a q σ) H) (hD : va_D A (wL cI cZ a q σ)) (hS : va_S A s.heap H locs) {ls : Array Slot} (hl : lv_has ls 5 [(0, .ref (a 0)), (1, .int x1), (2, .int x2), (3, .int x3)]) : W p l e (rmK 2 82 0 0) s m args below meth c H locs 0 0 (RwQ below args s D A (fun q (σ : StL) => (wL cI cZ a q σ)) res 0 0) (F0 m 12 ls []) := by
  obtain ⟨hx, hb, hr, hml, hown, hts, hlk, hK⟩ := id C0
  unfold f_L_orderByClass_12_s at h
  refine lv_iload_n hx hb d_L_orderByClass_12 rfl (lv_at hl 3 rfl) ?_
  refine lv_iload_n hx hb d_L_orderByClass_13 rfl (lv_at hl 1 rfl) ?_
  refine lv_icmp_ge (tgt := 91) hx hb d_L_orderByClass_14 (by decide) (fun hc => ?_) (fun hc => ?_)
  · rw [if_pos hc] at h
    refine lv_iload_n hx hb d_L_orderByClass_91 rfl (lv_at hl 2 rfl) ?_
    refine lv_iconst (v := 1) hx hb d_L_orderByClass_92 (by decide) ?_
    refine lv_icmp_le (tgt := 100) hx hb d_L_orderByClass_93 (by decide) (fun hc => ?_) (fun hc => ?_)
    · rw [if_pos hc] at h
      refine lv_aload_n hx hb d_L_orderByClass_100 rfl (lv_at hl 0 rfl) ?_
      replace h := bd h
      obtain ⟨r1, g1, h⟩ := h
      refine rw_V (n := 0) (ci := 0) (As := []) (rest := []) (Wn := fun q => (wL cI cZ a q r1.2)) C0 hA (c_L_closeRow l D cI cZ a q σ g1) wd_308 ⟨wd_309, wd_310, wd_311, wd_55⟩ (by decide +kernel) ⟨Nat.le_of_ble_eq_true rfl, Nat.le_of_ble_eq_true rfl⟩ hP hD hS [0, 1, 2, 3, 4, 5, 6, 7, 8, 9, 10, 11, 12, 13, 14, 15, 16, 17, 18, 19, 20] [] [0, 1, 2, 3, 4, 5, 6, 7, 8, 9, 10, 11, 12, 13, 14, 15, 16, 17, 18, 19, 20] jn_L__C (by decide) jn_L__R (by decide) (by decide) (by decide) jn_L__W rfl rfl rfl hl rfl rfl (Nat.le_of_ble_eq_true rfl) ⟨Nat.zero_le _, Nat.zero_le _⟩ d_L_orderByClass_101 (fun H locs q hP hD hS => ?_)
      try dsimp only at h
      exact rw_ret C0 hP hD hS (Option.some.inj h) d_L_orderByClass_104
    · rw [if_neg hc] at h
      refine lv_iconst (v := 0) hx hb d_L_orderByClass_96 (by decide) ?_
      refine lv_goto (tgt := 104) hx hb d_L_orderByClass_97 (by decide) ?_
      exact rw_ret C0 hP hD hS (Option.some.inj h) d_L_orderByClass_104
  · rw [if_neg hc] at h
    refine lv_aload_n hx hb d_L_orderByClass_17 rfl (lv_at hl 0 rfl) ?_
    refine va_get (ci := 0) (v := .ref (a 10)) (C := R_L) (T := F_L) (N := 6) hx hb hts i_L hown hK.1 hP 0 rfl rfl 2 (by decide) (hts _ wd_85) (fun _ h9 => h9) rfl d_L_orderByClass_18 ?_
    refine lv_aload_n hx hb d_L_orderByClass_21 rfl (lv_at hl 0 rfl) ?_
    refine va_get (ci := 0) (v := .ref (a 2)) (C := R_L) (T := F_L) (N := 6) hx hb hts i_L hown hK.1 hP 0 rfl rfl 5 (by decide) (hts _ wd_305) (fun _ h9 => h9) rfl d_L_orderByClass_22 ?_
    refine lv_iload_n hx hb d_L_orderByClass_25 rfl (lv_at hl 3 rfl) ?_
    replace h := gd h
    obtain ⟨hi, h⟩ := h
    refine va_iald hx hb hK.1 hP 2 0 rfl rfl hi d_L_orderByClass_26 ?_
    replace h := bd h
    obtain ⟨r2, g2, h⟩ := h
    refine ro_V (n := 1) (ci := 2) (As := [.int ((L_gathered σ) x3.toNatClampNeg)]) (rest := []) C0 (c_T_classOf l D cI cZ a q (L_types σ) ((L_gathered σ) x3.toNatClampNeg) g2) wd_195 ⟨wd_196, wd_197, wd_198, wd_52⟩ (by decide +kernel) ⟨Nat.le_of_ble_eq_true rfl, Nat.le_of_ble_eq_true rfl⟩ (hP.pick [10, 11, 12, 13, 14, 15, 16, 17, 18] rfl) rfl rfl rfl hl rfl rfl (Nat.le_of_ble_eq_true rfl) ⟨Nat.zero_le _, Nat.zero_le _⟩ d_L_orderByClass_27 ?_
    try dsimp only at h
    refine lv_istore (lv' := [(4, .int r2), (0, .ref (a 0)), (1, .int x1), (2, .int x2), (3, .int x3)]) hx hb d_L_orderByClass_30 hl (by decide) rfl (fun ls hl => ?_)
    refine lv_iload hx hb d_L_orderByClass_32 (lv_at hl 0 rfl) ?_
    refine lv_if_lt (tgt := 55) hx hb d_L_orderByClass_34 (by decide) (fun hc => ?_) (fun hc => ?_)
    · rw [if_pos hc] at h
      refine lv_iconst (v := 0) hx hb d_L_orderByClass_55 (by decide) ?_
      exact rw_ret C0 hP hD hS (Option.some.inj h) d_L_orderByClass_56
    · rw [if_neg hc] at h
      refine lv_iload hx hb d_L_orderByClass_37 (lv_at hl 0 rfl) ?_
      refine lv_bipush (v := 30) hx hb d_L_orderByClass_39 (by decide) ?_
      refine lv_icmp_ge (tgt := 55) hx hb d_L_orderByClass_41 (by decide) (fun hc => ?_) (fun hc => ?_)
      · rw [if_pos hc] at h
        refine lv_iconst (v := 0) hx hb d_L_orderByClass_55 (by decide) ?_
        exact rw_ret C0 hP hD hS (Option.some.inj h) d_L_orderByClass_56
      · rw [if_neg hc] at h
        refine lv_aload_n hx hb d_L_orderByClass_44 rfl (lv_at hl 1 rfl) ?_
        refine va_get (ci := 0) (v := .ref (a 1)) (C := R_L) (T := F_L) (N := 6) hx hb hts i_L hown hK.1 hP 0 rfl rfl 4 (by decide) (hts _ wd_256) (fun _ h9 => h9) rfl d_L_orderByClass_45 ?_
        refine lv_iload hx hb d_L_orderByClass_48 (lv_at hl 0 rfl) ?_
        replace h := gd h
        obtain ⟨hi, h⟩ := h
        refine va_iald hx hb hK.1 hP 1 0 rfl rfl hi d_L_orderByClass_50 ?_
        refine lv_iconst (v := (-1)) hx hb d_L_orderByClass_51 (by decide) ?_
        refine lv_icmp_eq (tgt := 57) hx hb d_L_orderByClass_52 (by decide) (fun hc => ?_) (fun hc => ?_)
        · rw [if_pos hc] at h
          refine lv_aload_n hx hb d_L_orderByClass_57 rfl (lv_at hl 1 rfl) ?_
          refine va_get (ci := 0) (v := .ref (a 3)) (C := R_L) (T := F_L) (N := 6) hx hb hts i_L hown hK.1 hP 0 rfl rfl 1 (by decide) (hts _ wd_67) (fun _ h9 => h9) rfl d_L_orderByClass_58 ?_
          refine lv_iload hx hb d_L_orderByClass_61 (lv_at hl 0 rfl) ?_
          replace h := bd h
          obtain ⟨r3, g3, h⟩ := h
          refine ro_V (n := 1) (ci := 1) (As := [.int r2]) (rest := []) C0 (c_C_isFace l D cI cZ a q (L_classes σ) r2 g3) wd_312 ⟨wd_33, wd_34, wd_35, wd_8⟩ (by decide +kernel) ⟨Nat.le_of_ble_eq_true rfl, Nat.le_of_ble_eq_true rfl⟩ (hP.pick [3, 4, 5, 6, 7, 8, 9] rfl) rfl rfl rfl hl rfl rfl (Nat.le_of_ble_eq_true rfl) ⟨Nat.zero_le _, Nat.zero_le _⟩ d_L_orderByClass_63 ?_
          try dsimp only at h
          refine lv_if_ne (tgt := 72) hx hb d_L_orderByClass_66 (by decide) (fun hc => ?_) (fun hc => ?_)
          · rw [if_neg hc] at h
            exact t_L_orderByClass_72 (a := a) C0 hA hk12 h hP hD hS (lv_sub hl [1, 2, 3, 4, 0] rfl)
          · rw [if_pos hc] at h
            refine lv_iinc (v := (x2 + 1)) (lv' := [(2, .int (x2 + 1)), (4, .int r2), (0, .ref (a 0)), (1, .int x1), (3, .int x3)]) hx hb d_L_orderByClass_69 hl (k := 3) rfl rfl (by decide) rfl (fun ls hl => ?_)
            exact t_L_orderByClass_72 (a := a) C0 hA hk12 h hP hD hS (lv_sub hl [2, 3, 0, 4, 1] rfl)
        · rw [if_neg hc] at h
          refine lv_iconst (v := 0) hx hb d_L_orderByClass_55 (by decide) ?_
          exact rw_ret C0 hP hD hS (Option.some.inj h) d_L_orderByClass_56
set_option maxHeartbeats 4000000 in
set_option maxRecDepth 100000 in
theorem t_L_orderByClass_12 {p : Program} {l : Launch} {e : Env} {s : State} {m : MethodId} {args : Array Value} {below : List Frame} {meth : Method} {c : Code} {D : va_G} {cI cZ : ClassId} {a : Nat → Nat} {A : Nat → Prop} (C0 : Am p s m args meth c b_L_orderByClass (some .int) 5 R_L D [(cI, .int), (cZ, .boolean)]) (hA : ∀ q, s.heap.size ≤ q → A q) {res : Int32 × StL}  {n : Nat} {q : Nat} {σ : StL} {x1 x2 x3 : Int32} (h : f_L_orderByClass_12  n σ x1 x2 x3 = some res) {H : Heap} {locs : List Loc} (hP : va_P D vwCl (wL cI cZ a q σ) H) (hD : va_D A (wL cI cZ a q σ)) (hS : va_S A s.heap H locs) {ls : Array Slot} (hl : lv_has ls 5 [(0, .ref (a 0)), (1, .int x1), (2, .int x2), (3, .int x3)]) : W p l e (rmK 2 82 0 0) s m args below meth c H locs 0 0 (RwQ below args s D A (fun q (σ : StL) => (wL cI cZ a q σ)) res 0 0) (F0 m 12 ls []) := by
  induction n generalizing q σ x1 x2 x3 H locs ls with
  | zero => cases h
  | succ n ih => exact t_L_orderByClass_12_s (a := a) C0 hA  (fun _ _ _ _ _ _ _ _ h hP hD hS hl => ih h hP hD hS hl) h hP hD hS hl
set_option maxHeartbeats 4000000 in
set_option maxRecDepth 100000 in
theorem t_L_orderByClass_0 {p : Program} {l : Launch} {e : Env} {s : State} {m : MethodId} {args : Array Value} {below : List Frame} {meth : Method} {c : Code} {D : va_G} {cI cZ : ClassId} {a : Nat → Nat} {A : Nat → Prop} (C0 : Am p s m args meth c b_L_orderByClass (some .int) 5 R_L D [(cI, .int), (cZ, .boolean)]) (hA : ∀ q, s.heap.size ≤ q → A q) {res : Int32 × StL}   {q : Nat} {σ : StL} {x1 : Int32} (h : f_L_orderByClass σ x1 = some res) {H : Heap} {locs : List Loc} (hP : va_P D vwCl (wL cI cZ a q σ) H) (hD : va_D A (wL cI cZ a q σ)) (hS : va_S A s.heap H locs) {ls : Array Slot} (hl : lv_has ls 5 [(0, .ref (a 0)), (1, .int x1)]) : W p l e (rmK 2 82 0 0) s m args below meth c H locs 0 0 (RwQ below args s D A (fun q (σ : StL) => (wL cI cZ a q σ)) res 0 0) (F0 m 0 ls []) := by
  obtain ⟨hx, hb, hr, hml, hown, hts, hlk, hK⟩ := id C0
  unfold f_L_orderByClass at h
  refine lv_aload_n hx hb d_L_orderByClass_0 rfl (lv_at hl 0 rfl) ?_
  refine va_get (ci := 0) (v := .ref (a 1)) (C := R_L) (T := F_L) (N := 6) hx hb hts i_L hown hK.1 hP 0 rfl rfl 4 (by decide) (hts _ wd_256) (fun _ h9 => h9) rfl d_L_orderByClass_1 ?_
  refine lv_iconst (v := (-1)) hx hb d_L_orderByClass_4 (by decide) ?_
  refine rw_Sv (n := 2) (As := [.ref (a 1), .int (-1)]) (rest := []) (Wn := fun _ => (wL cI cZ a q (L_set_row σ (J_fill (L_row σ) 90 (-1 : Int32))))) C0 hA (c_J_fill l D cI cZ (a 1) 90 (L_row σ) (-1 : Int32) (by decide)) wd_307 ⟨wd_131, wd_132, wd_133⟩ (by decide +kernel) ⟨Nat.le_of_ble_eq_true rfl, Nat.le_of_ble_eq_true rfl⟩ hP hD hS [1] [0, 2, 3, 4, 5, 6, 7, 8, 9, 10, 11, 12, 13, 14, 15, 16, 17, 18, 19, 20] [0, 20, 1, 2, 3, 4, 5, 6, 7, 8, 9, 10, 11, 12, 13, 14, 15, 16, 17, 18, 19] jf_L_row_C (by decide) jf_L_row_R (by decide) (by decide) (by decide) jf_L_row_W hl rfl rfl (Nat.le_of_ble_eq_true rfl) ⟨Nat.zero_le _, Nat.zero_le _⟩ d_L_orderByClass_5 (fun H locs _ hP hD hS => ?_)
  refine lv_iconst (v := 0) hx hb d_L_orderByClass_8 (by decide) ?_
  refine lv_istore_n (lv' := [(2, .int 0), (0, .ref (a 0)), (1, .int x1)]) hx hb d_L_orderByClass_9 rfl hl (by decide) rfl (fun ls hl => ?_)
  refine lv_iconst (v := 0) hx hb d_L_orderByClass_10 (by decide) ?_
  refine lv_istore_n (lv' := [(3, .int 0), (2, .int 0), (0, .ref (a 0)), (1, .int x1)]) hx hb d_L_orderByClass_11 rfl hl (by decide) rfl (fun ls hl => ?_)
  exact t_L_orderByClass_12 (a := a) C0 hA  h hP hD hS (lv_sub hl [2, 3, 1, 0] rfl)
set_option maxHeartbeats 4000000 in
set_option maxRecDepth 100000 in
theorem c_L_orderByClass (l : Launch) (D : va_G) (cI cZ : ClassId) (a : Nat → Nat) (q : Nat) (σ : StL) (x1 : Int32) {res : Int32 × StL} (h : f_L_orderByClass σ x1 = some res) : RwM l y_L_orderByClass b_L_orderByClass 5 (some .int) 2 82 D [(cI, .int), (cZ, .boolean)] [.ref (a 0), .int x1] (fun q (σ : StL) => (wL cI cZ a q σ)) q σ res :=
  rw_of (by decide) (Nat.le_of_ble_eq_true rfl) (fun p e s m args below meth c ls A C0 hA hP hD hS hl => t_L_orderByClass_0 (a := a) C0 hA h hP hD hS (lv_sub hl [0, 1] rfl))
-- part 07.5L.24L_lower.lean.txt
def f_L_lower (σ : StL) (x1 x2 : Int32) : Option ((Int32 ⊕ Nat) × StL × Nat × Nat) :=
  (f_L_requireType σ x1).bind fun r1 => ad_ r1.2.2.1 r1.2.2.2 <| match r1.1 with
  | .inr e => some (.inr e, r1.2.1, 0, 0)
  | .inl r1v =>
  (f_L_requireType r1.2.1 x2).bind fun r2 => ad_ r2.2.2.1 r2.2.2.2 <| match r2.1 with
  | .inr e => some (.inr e, r2.2.1, 0, 0)
  | .inl r2v =>
  (f_L_liesBelow 101 r2.2.1 x1 x2 100).bind fun r3 =>
  if r3.1 = 0 then
    (f_L_liesBelow 101 r3.2 x2 x1 100).bind fun r4 =>
    if r4.1 = 0 then
      (f_L_gatherParts r4.2 x1 x2).bind fun r5 =>
      (f_L_dropNeedless r5.2 r5.1).bind fun r6 =>
      (f_L_orderByClass r6.2 r6.1).bind fun r7 =>
      if r7.1 = 0 then
        some (.inl (-1), r7.2, 0, 0)
      else
        (f_T_makeIntersection (90, (L_row r7.2)) (L_types r7.2) 0 r7.1).bind fun r8 => ad_ r8.2.2.1 r8.2.2.2 <| match r8.1 with
        | .inr e => some (.inr e, (L_set_types r7.2 r8.2.1), 0, 0)
        | .inl r8v =>
        (f_L_settled (L_set_types r7.2 r8.2.1) r8v).bind fun r9 => ad_ r9.2.2.1 r9.2.2.2 <| match r9.1 with
        | .inr e => some (.inr e, r9.2.1, 0, 0)
        | .inl r9v =>
        some (.inl r9v, r9.2.1, 0, 0)
    else
      some (.inl x2, r4.2, 0, 0)
  else
    some (.inl x1, r3.2, 0, 0)
set_option maxHeartbeats 4000000 in
set_option maxRecDepth 100000 in
theorem t_L_lower_0 {p : Program} {l : Launch} {e : Env} {s : State} {m : MethodId} {args : Array Value} {below : List Frame} {meth : Method} {c : Code} {D : va_G} {cI cZ : ClassId} {a : Nat → Nat} {A : Nat → Prop} (C0 : Am p s m args meth c b_L_lower (some .int) 4 R_L D [(cI, .int), (cZ, .boolean)]) (hA : ∀ q, s.heap.size ≤ q → A q) (hT : ∀ x ∈ c.exceptionTable.toList, False) (hl0 : l.stackTraces = false) (hZ : Zs A s s.heap) {v : Int32 ⊕ Nat} {u : StL} {K N : Nat}   {q : Nat} {σ : StL} {x1 x2 : Int32} {kc ks mc ms : Nat} (h : f_L_lower σ x1 x2 = some (v, u, mc, ms)) (hkc : kc + mc = K) (hks : ks + ms = N) {H : Heap} {locs : List Loc} (hP : va_P D vwCl (wL cI cZ a q σ) H) (hD : va_D A (wL cI cZ a q σ)) (hS : va_S A s.heap H locs) {ls : Array Slot} (hl : lv_has ls 4 [(0, .ref (a 0)), (1, .int x1), (2, .int x2)]) : W p l e (rmK 208 5502 K N) s m args below meth c H locs kc ks (TxQ below args s D A (fun q (σ : StL) => (wL cI cZ a q σ)) v u K N) (F0 m 0 ls []) := by
  obtain ⟨hx, hb, hr, hml, hown, hts, hlk, hK⟩ := id C0
  have hcs : kc ≤ K ∧ ks ≤ N := ⟨by omega, by omega⟩
  unfold f_L_lower at h
  refine lv_aload_n hx hb d_L_lower_0 rfl (lv_at hl 0 rfl) ?_
  refine lv_iload_n hx hb d_L_lower_1 rfl (lv_at hl 1 rfl) ?_
  replace h := bd h
  obtain ⟨r1, g1, h⟩ := h
  try dsimp only at h
  replace h := ad_s h
  obtain ⟨mc, ms, h, rfl, rfl⟩ := h
  refine tx_Vv (n := 1) (ci := 0) (As := [.int x1]) (rest := []) (Wn := fun q => (wL cI cZ a q r1.2.1)) C0 hA hZ (c_L_requireType l D cI cZ a hl0 q σ x1 g1) wd_160 ⟨wd_161, wd_162, wd_163, wd_55⟩ (by decide +kernel) ⟨Nat.le_of_ble_eq_true rfl, Nat.le_of_ble_eq_true rfl⟩ hP hD hS [0, 1, 2, 3, 4, 5, 6, 7, 8, 9, 10, 11, 12, 13, 14, 15, 16, 17, 18, 19, 20] [] [0, 1, 2, 3, 4, 5, 6, 7, 8, 9, 10, 11, 12, 13, 14, 15, 16, 17, 18, 19, 20] jn_L__C (by decide) jn_L__R (by decide) (by decide) (by decide) jn_L__W rfl rfl rfl hl rfl rfl (Nat.le_of_ble_eq_true rfl) ⟨by show kc + _ ≤ K; omega, by show ks + _ ≤ N; omega⟩ d_L_lower_2 (fun ek H locs q q9 ce hv hP hD hS h1 h2 h3 => ?_) (fun r1v H locs q hv hP hD hS => ?_)
  · rw [hv] at h
    cases h
    exact tx_out C0 hT hP hD hS h1 h2 h3 (by omega) (by omega)
  · rw [hv] at h
    try dsimp only at h
    have hkc : (kc + r1.2.2.1) + mc = K := by omega
    have hks : (ks + r1.2.2.2) + ms = N := by omega
    have hcs : (kc + r1.2.2.1) ≤ K ∧ (ks + r1.2.2.2) ≤ N := ⟨by omega, by omega⟩
    refine lv_aload_n hx hb d_L_lower_5 rfl (lv_at hl 0 rfl) ?_
    refine lv_iload_n hx hb d_L_lower_6 rfl (lv_at hl 2 rfl) ?_
    replace h := bd h
    obtain ⟨r2, g2, h⟩ := h
    try dsimp only at h
    replace h := ad_s h
    obtain ⟨mc, ms, h, rfl, rfl⟩ := h
    refine tx_Vv (n := 1) (ci := 0) (As := [.int x2]) (rest := []) (Wn := fun q => (wL cI cZ a q r2.2.1)) C0 hA hZ (c_L_requireType l D cI cZ a hl0 q r1.2.1 x2 g2) wd_160 ⟨wd_161, wd_162, wd_163, wd_55⟩ (by decide +kernel) ⟨Nat.le_of_ble_eq_true rfl, Nat.le_of_ble_eq_true rfl⟩ hP hD hS [0, 1, 2, 3, 4, 5, 6, 7, 8, 9, 10, 11, 12, 13, 14, 15, 16, 17, 18, 19, 20] [] [0, 1, 2, 3, 4, 5, 6, 7, 8, 9, 10, 11, 12, 13, 14, 15, 16, 17, 18, 19, 20] jn_L__C (by decide) jn_L__R (by decide) (by decide) (by decide) jn_L__W rfl rfl rfl hl rfl rfl (Nat.le_of_ble_eq_true rfl) ⟨by show (kc + r1.2.2.1) + _ ≤ K; omega, by show (ks + r1.2.2.2) + _ ≤ N; omega⟩ d_L_lower_7 (fun ek H locs q q9 ce hv hP hD hS h1 h2 h3 => ?_) (fun r2v H locs q hv hP hD hS => ?_)
    · rw [hv] at h
      cases h
      exact tx_out C0 hT hP hD hS h1 h2 h3 (by omega) (by omega)
    · rw [hv] at h
      try dsimp only at h
      have hkc : ((kc + r1.2.2.1) + r2.2.2.1) + mc = K := by omega
      have hks : ((ks + r1.2.2.2) + r2.2.2.2) + ms = N := by omega
      have hcs : ((kc + r1.2.2.1) + r2.2.2.1) ≤ K ∧ ((ks + r1.2.2.2) + r2.2.2.2) ≤ N := ⟨by omega, by omega⟩
      refine lv_aload_n hx hb d_L_lower_10 rfl (lv_at hl 0 rfl) ?_
      refine lv_iload_n hx hb d_L_lower_11 rfl (lv_at hl 1 rfl) ?_
      refine lv_iload_n hx hb d_L_lower_12 rfl (lv_at hl 2 rfl) ?_
      refine lv_bipush (v := 100) hx hb d_L_lower_13 (by decide) ?_
      replace h := bd h
      obtain ⟨r3, g3, h⟩ := h
      refine rw_V (n := 3) (ci := 0) (As := [.int x1, .int x2, .int 100]) (rest := []) (Wn := fun q => (wL cI cZ a q r3.2)) C0 hA (c_L_liesBelow (n := 101) l D cI cZ a q r2.2.1 x1 x2 100 g3) wd_282 ⟨wd_283, wd_284, wd_285, wd_55⟩ (by decide +kernel) ⟨Nat.le_of_ble_eq_true rfl, Nat.le_of_ble_eq_true rfl⟩ hP hD hS [0, 1, 2, 3, 4, 5, 6, 7, 8, 9, 10, 11, 12, 13, 14, 15, 16, 17, 18, 19, 20] [] [0, 1, 2, 3, 4, 5, 6, 7, 8, 9, 10, 11, 12, 13, 14, 15, 16, 17, 18, 19, 20] jn_L__C (by decide) jn_L__R (by decide) (by decide) (by decide) jn_L__W rfl rfl rfl hl rfl rfl (Nat.le_of_ble_eq_true rfl) hcs d_L_lower_15 (fun H locs q hP hD hS => ?_)
      try dsimp only at h
      refine lv_if_eq (tgt := 23) hx hb d_L_lower_18 (by decide) (fun hc => ?_) (fun hc => ?_)
      · rw [if_pos hc] at h
        refine lv_aload_n hx hb d_L_lower_23 rfl (lv_at hl 0 rfl) ?_
        refine lv_iload_n hx hb d_L_lower_24 rfl (lv_at hl 2 rfl) ?_
        refine lv_iload_n hx hb d_L_lower_25 rfl (lv_at hl 1 rfl) ?_
        refine lv_bipush (v := 100) hx hb d_L_lower_26 (by decide) ?_
        replace h := bd h
        obtain ⟨r4, g4, h⟩ := h
        refine rw_V (n := 3) (ci := 0) (As := [.int x2, .int x1, .int 100]) (rest := []) (Wn := fun q => (wL cI cZ a q r4.2)) C0 hA (c_L_liesBelow (n := 101) l D cI cZ a q r3.2 x2 x1 100 g4) wd_282 ⟨wd_283, wd_284, wd_285, wd_55⟩ (by decide +kernel) ⟨Nat.le_of_ble_eq_true rfl, Nat.le_of_ble_eq_true rfl⟩ hP hD hS [0, 1, 2, 3, 4, 5, 6, 7, 8, 9, 10, 11, 12, 13, 14, 15, 16, 17, 18, 19, 20] [] [0, 1, 2, 3, 4, 5, 6, 7, 8, 9, 10, 11, 12, 13, 14, 15, 16, 17, 18, 19, 20] jn_L__C (by decide) jn_L__R (by decide) (by decide) (by decide) jn_L__W rfl rfl rfl hl rfl rfl (Nat.le_of_ble_eq_true rfl) hcs d_L_lower_28 (fun H locs q hP hD hS => ?_)
        try dsimp only at h
        refine lv_if_eq (tgt := 36) hx hb d_L_lower_31 (by decide) (fun hc => ?_) (fun hc => ?_)
        · rw [if_pos hc] at h
          refine lv_aload_n hx hb d_L_lower_36 rfl (lv_at hl 0 rfl) ?_
          refine lv_aload_n hx hb d_L_lower_37 rfl (lv_at hl 0 rfl) ?_
          refine lv_aload_n hx hb d_L_lower_38 rfl (lv_at hl 0 rfl) ?_
          refine lv_iload_n hx hb d_L_lower_39 rfl (lv_at hl 1 rfl) ?_
          refine lv_iload_n hx hb d_L_lower_40 rfl (lv_at hl 2 rfl) ?_
          replace h := bd h
          obtain ⟨r5, g5, h⟩ := h
          refine rw_V (n := 2) (ci := 0) (As := [.int x1, .int x2]) (rest := [.ref (a 0), .ref (a 0)]) (Wn := fun q => (wL cI cZ a q r5.2)) C0 hA (c_L_gatherParts l D cI cZ a q r4.2 x1 x2 g5) wd_313 ⟨wd_314, wd_315, wd_316, wd_55⟩ (by decide +kernel) ⟨Nat.le_of_ble_eq_true rfl, Nat.le_of_ble_eq_true rfl⟩ hP hD hS [0, 1, 2, 3, 4, 5, 6, 7, 8, 9, 10, 11, 12, 13, 14, 15, 16, 17, 18, 19, 20] [] [0, 1, 2, 3, 4, 5, 6, 7, 8, 9, 10, 11, 12, 13, 14, 15, 16, 17, 18, 19, 20] jn_L__C (by decide) jn_L__R (by decide) (by decide) (by decide) jn_L__W rfl rfl rfl hl rfl rfl (Nat.le_of_ble_eq_true rfl) hcs d_L_lower_41 (fun H locs q hP hD hS => ?_)
          try dsimp only at h
          replace h := bd h
          obtain ⟨r6, g6, h⟩ := h
          refine rw_V (n := 1) (ci := 0) (As := [.int r5.1]) (rest := [.ref (a 0)]) (Wn := fun q => (wL cI cZ a q r6.2)) C0 hA (c_L_dropNeedless l D cI cZ a q r5.2 r5.1 g6) wd_317 ⟨wd_318, wd_319, wd_320, wd_55⟩ (by decide +kernel) ⟨Nat.le_of_ble_eq_true rfl, Nat.le_of_ble_eq_true rfl⟩ hP hD hS [0, 1, 2, 3, 4, 5, 6, 7, 8, 9, 10, 11, 12, 13, 14, 15, 16, 17, 18, 19, 20] [] [0, 1, 2, 3, 4, 5, 6, 7, 8, 9, 10, 11, 12, 13, 14, 15, 16, 17, 18, 19, 20] jn_L__C (by decide) jn_L__R (by decide) (by decide) (by decide) jn_L__W rfl rfl rfl hl rfl rfl (Nat.le_of_ble_eq_true rfl) hcs d_L_lower_44 (fun H locs q hP hD hS => ?_)
          try dsimp only at h
          replace h := bd h
          obtain ⟨r7, g7, h⟩ := h
          refine rw_V (n := 1) (ci := 0) (As := [.int r6.1]) (rest := []) (Wn := fun q => (wL cI cZ a q r7.2)) C0 hA (c_L_orderByClass l D cI cZ a q r6.2 r6.1 g7) wd_321 ⟨wd_322, wd_323, wd_324, wd_55⟩ (by decide +kernel) ⟨Nat.le_of_ble_eq_true rfl, Nat.le_of_ble_eq_true rfl⟩ hP hD hS [0, 1, 2, 3, 4, 5, 6, 7, 8, 9, 10, 11, 12, 13, 14, 15, 16, 17, 18, 19, 20] [] [0, 1, 2, 3, 4, 5, 6, 7, 8, 9, 10, 11, 12, 13, 14, 15, 16, 17, 18, 19, 20] jn_L__C (by decide) jn_L__R (by decide) (by decide) (by decide) jn_L__W rfl rfl rfl hl rfl rfl (Nat.le_of_ble_eq_true rfl) hcs d_L_lower_47 (fun H locs q hP hD hS => ?_)
          try dsimp only at h
          refine lv_istore_n (lv' := [(3, .int r7.1), (0, .ref (a 0)), (1, .int x1), (2, .int x2)]) hx hb d_L_lower_50 rfl hl (by decide) rfl (fun ls hl => ?_)
          refine lv_iload_n hx hb d_L_lower_51 rfl (lv_at hl 0 rfl) ?_
          refine lv_if_ne (tgt := 59) hx hb d_L_lower_52 (by decide) (fun hc => ?_) (fun hc => ?_)
          · rw [if_neg hc] at h
            refine lv_aload_n hx hb d_L_lower_59 rfl (lv_at hl 1 rfl) ?_
            refine lv_aload_n hx hb d_L_lower_60 rfl (lv_at hl 1 rfl) ?_
            refine va_get (ci := 0) (v := .ref (a 10)) (C := R_L) (T := F_L) (N := 6) hx hb hts i_L hown hK.1 hP 0 rfl rfl 2 (by decide) (hts _ wd_85) (fun _ h9 => h9) rfl d_L_lower_61 ?_
            refine lv_aload_n hx hb d_L_lower_64 rfl (lv_at hl 1 rfl) ?_
            refine va_get (ci := 0) (v := .ref (a 1)) (C := R_L) (T := F_L) (N := 6) hx hb hts i_L hown hK.1 hP 0 rfl rfl 4 (by decide) (hts _ wd_256) (fun _ h9 => h9) rfl d_L_lower_65 ?_
            refine lv_iconst (v := 0) hx hb d_L_lower_68 (by decide) ?_
            refine lv_iload_n hx hb d_L_lower_69 rfl (lv_at hl 0 rfl) ?_
            replace h := bd h
            obtain ⟨r8, g8, h⟩ := h
            try dsimp only at h
            replace h := ad_s h
            obtain ⟨mc, ms, h, rfl, rfl⟩ := h
            refine tx_V (n := 3) (ci := 2) (As := [.ref (a 1), .int 0, .int r7.1]) (rest := [.ref (a 0)]) (Wn := fun q => (wL cI cZ a q (L_set_types r7.2 r8.2.1))) C0 hA hZ (c_T_makeIntersection l D cI cZ a hl0 q (L_types r7.2) (90, (L_row (L_set_types r7.2 r8.2.1))) (a 1) 0 r7.1 g8) wd_257 ⟨wd_258, wd_259, wd_260, wd_52⟩ (by decide +kernel) ⟨Nat.le_of_ble_eq_true rfl, Nat.le_of_ble_eq_true rfl⟩ hP hD hS [10, 11, 12, 13, 14, 15, 16, 17, 18, 1] [0, 2, 3, 4, 5, 6, 7, 8, 9, 19, 20] [0, 20, 1, 2, 3, 4, 5, 6, 7, 8, 11, 12, 13, 14, 15, 16, 17, 18, 19, 9, 10] jn_L_types_row_C (by decide) jn_L_types_row_R (by decide) (by decide) (by decide) jn_L_types_row_W rfl rfl rfl hl rfl rfl (Nat.le_of_ble_eq_true rfl) ⟨by show ((kc + r1.2.2.1) + r2.2.2.1) + _ ≤ K; omega, by show ((ks + r1.2.2.2) + r2.2.2.2) + _ ≤ N; omega⟩ d_L_lower_70 (fun ek H locs q q9 ce hv hP hD hS h1 h2 h3 => ?_) (fun r8v H locs q hv hP hD hS => ?_)
            · rw [hv] at h
              cases h
              exact tx_out C0 hT hP hD hS h1 h2 h3 (by omega) (by omega)
            · rw [hv] at h
              try dsimp only at h
              have hkc : (((kc + r1.2.2.1) + r2.2.2.1) + r8.2.2.1) + mc = K := by omega
              have hks : (((ks + r1.2.2.2) + r2.2.2.2) + r8.2.2.2) + ms = N := by omega
              have hcs : (((kc + r1.2.2.1) + r2.2.2.1) + r8.2.2.1) ≤ K ∧ (((ks + r1.2.2.2) + r2.2.2.2) + r8.2.2.2) ≤ N := ⟨by omega, by omega⟩
              replace h := bd h
              obtain ⟨r9, g9, h⟩ := h
              try dsimp only at h
              replace h := ad_s h
              obtain ⟨mc, ms, h, rfl, rfl⟩ := h
              refine tx_V (n := 1) (ci := 0) (As := [.int r8v]) (rest := []) (Wn := fun q => (wL cI cZ a q r9.2.1)) C0 hA hZ (c_L_settled l D cI cZ a hl0 q (L_set_types r7.2 r8.2.1) r8v g9) wd_179 ⟨wd_180, wd_181, wd_182, wd_55⟩ (by decide +kernel) ⟨Nat.le_of_ble_eq_true rfl, Nat.le_of_ble_eq_true rfl⟩ hP hD hS [0, 1, 2, 3, 4, 5, 6, 7, 8, 9, 10, 11, 12, 13, 14, 15, 16, 17, 18, 19, 20] [] [0, 1, 2, 3, 4, 5, 6, 7, 8, 9, 10, 11, 12, 13, 14, 15, 16, 17, 18, 19, 20] jn_L__C (by decide) jn_L__R (by decide) (by decide) (by decide) jn_L__W rfl rfl rfl hl rfl rfl (Nat.le_of_ble_eq_true rfl) ⟨by show (((kc + r1.2.2.1) + r2.2.2.1) + r8.2.2.1) + _ ≤ K; omega, by show (((ks + r1.2.2.2) + r2.2.2.2) + r8.2.2.2) + _ ≤ N; omega⟩ d_L_lower_73 (fun ek H locs q q9 ce hv hP hD hS h1 h2 h3 => ?_) (fun r9v H locs q hv hP hD hS => ?_)
              · rw [hv] at h
                cases h
                exact tx_out C0 hT hP hD hS h1 h2 h3 (by omega) (by omega)
              · rw [hv] at h
                try dsimp only at h
                have hkc : ((((kc + r1.2.2.1) + r2.2.2.1) + r8.2.2.1) + r9.2.2.1) + mc = K := by omega
                have hks : ((((ks + r1.2.2.2) + r2.2.2.2) + r8.2.2.2) + r9.2.2.2) + ms = N := by omega
                have hcs : ((((kc + r1.2.2.1) + r2.2.2.1) + r8.2.2.1) + r9.2.2.1) ≤ K ∧ ((((ks + r1.2.2.2) + r2.2.2.2) + r8.2.2.2) + r9.2.2.2) ≤ N := ⟨by omega, by omega⟩
                cases h; exact tx_ret C0 hP hD hS (by omega) (by omega) d_L_lower_76
          · rw [if_pos hc] at h
            refine lv_iconst (v := (-1)) hx hb d_L_lower_55 (by decide) ?_
            refine lv_goto (tgt := 76) hx hb d_L_lower_56 (by decide) ?_
            cases h; exact tx_ret C0 hP hD hS (by omega) (by omega) d_L_lower_76
        · rw [if_neg hc] at h
          refine lv_iload_n hx hb d_L_lower_34 rfl (lv_at hl 2 rfl) ?_
          cases h; exact tx_ret C0 hP hD hS (by omega) (by omega) d_L_lower_35
      · rw [if_neg hc] at h
        refine lv_iload_n hx hb d_L_lower_21 rfl (lv_at hl 1 rfl) ?_
        cases h; exact tx_ret C0 hP hD hS (by omega) (by omega) d_L_lower_22
set_option maxHeartbeats 4000000 in
set_option maxRecDepth 100000 in
theorem c_L_lower (l : Launch) (D : va_G) (cI cZ : ClassId) (a : Nat → Nat) (hl0 : l.stackTraces = false) (q : Nat) (σ : StL) (x1 : Int32) (x2 : Int32) {res : (Int32 ⊕ Nat) × StL × Nat × Nat} (h : f_L_lower σ x1 x2 = some res) : TxM l y_L_lower b_L_lower 4 (some .int) 208 5502 D [(cI, .int), (cZ, .boolean)] [.ref (a 0), .int x1, .int x2] (fun q (σ : StL) => (wL cI cZ a q σ)) q σ res :=
  tx_of (by decide) (Nat.le_of_ble_eq_true rfl) (fun p e s m args below meth c ls A C0 hA hT hZ hP hD hS hl => t_L_lower_0 (a := a) (kc := 0) (ks := 0) C0 hA hT hl0 hZ h (Nat.zero_add _) (Nat.zero_add _) hP hD hS (lv_sub hl [0, 1, 2] rfl))
-- part 07.5L.25L_isBelow.lean.txt
def f_L_isBelow (σ : StL) (x1 x2 : Int32) : Option ((Int32 ⊕ Nat) × StL × Nat × Nat) :=
  (f_L_requireType σ x1).bind fun r1 => ad_ r1.2.2.1 r1.2.2.2 <| match r1.1 with
  | .inr e => some (.inr e, r1.2.1, 0, 0)
  | .inl r1v =>
  (f_L_requireType r1.2.1 x2).bind fun r2 => ad_ r2.2.2.1 r2.2.2.2 <| match r2.1 with
  | .inr e => some (.inr e, r2.2.1, 0, 0)
  | .inl r2v =>
  (f_L_liesBelow 101 r2.2.1 x1 x2 100).bind fun r3 =>
  some (.inl (r3.1 &&& 1), r3.2, 0, 0)
set_option maxHeartbeats 4000000 in
set_option maxRecDepth 100000 in
theorem t_L_isBelow_0 {p : Program} {l : Launch} {e : Env} {s : State} {m : MethodId} {args : Array Value} {below : List Frame} {meth : Method} {c : Code} {D : va_G} {cI cZ : ClassId} {a : Nat → Nat} {A : Nat → Prop} (C0 : Am p s m args meth c b_L_isBelow (some .boolean) 3 R_L D [(cI, .int), (cZ, .boolean)]) (hA : ∀ q, s.heap.size ≤ q → A q) (hT : ∀ x ∈ c.exceptionTable.toList, False) (hl0 : l.stackTraces = false) (hZ : Zs A s s.heap) {v : Int32 ⊕ Nat} {u : StL} {K N : Nat}   {q : Nat} {σ : StL} {x1 x2 : Int32} {kc ks mc ms : Nat} (h : f_L_isBelow σ x1 x2 = some (v, u, mc, ms)) (hkc : kc + mc = K) (hks : ks + ms = N) {H : Heap} {locs : List Loc} (hP : va_P D vwCl (wL cI cZ a q σ) H) (hD : va_D A (wL cI cZ a q σ)) (hS : va_S A s.heap H locs) {ls : Array Slot} (hl : lv_has ls 3 [(0, .ref (a 0)), (1, .int x1), (2, .int x2)]) : W p l e (rmK 207 5476 K N) s m args below meth c H locs kc ks (TxQ below args s D A (fun q (σ : StL) => (wL cI cZ a q σ)) v u K N) (F0 m 0 ls []) := by
  obtain ⟨hx, hb, hr, hml, hown, hts, hlk, hK⟩ := id C0
  have hcs : kc ≤ K ∧ ks ≤ N := ⟨by omega, by omega⟩
  unfold f_L_isBelow at h
  refine lv_aload_n hx hb d_L_isBelow_0 rfl (lv_at hl 0 rfl) ?_
  refine lv_iload_n hx hb d_L_isBelow_1 rfl (lv_at hl 1 rfl) ?_
  replace h := bd h
  obtain ⟨r1, g1, h⟩ := h
  try dsimp only at h
  replace h := ad_s h
  obtain ⟨mc, ms, h, rfl, rfl⟩ := h
  refine tx_Vv (n := 1) (ci := 0) (As := [.int x1]) (rest := []) (Wn := fun q => (wL cI cZ a q r1.2.1)) C0 hA hZ (c_L_requireType l D cI cZ a hl0 q σ x1 g1) wd_160 ⟨wd_161, wd_162, wd_163, wd_55⟩ (by decide +kernel) ⟨Nat.le_of_ble_eq_true rfl, Nat.le_of_ble_eq_true rfl⟩ hP hD hS [0, 1, 2, 3, 4, 5, 6, 7, 8, 9, 10, 11, 12, 13, 14, 15, 16, 17, 18, 19, 20] [] [0, 1, 2, 3, 4, 5, 6, 7, 8, 9, 10, 11, 12, 13, 14, 15, 16, 17, 18, 19, 20] jn_L__C (by decide) jn_L__R (by decide) (by decide) (by decide) jn_L__W rfl rfl rfl hl rfl rfl (Nat.le_of_ble_eq_true rfl) ⟨by show kc + _ ≤ K; omega, by show ks + _ ≤ N; omega⟩ d_L_isBelow_2 (fun ek H locs q q9 ce hv hP hD hS h1 h2 h3 => ?_) (fun r1v H locs q hv hP hD hS => ?_)
  · rw [hv] at h
    cases h
    exact tx_out C0 hT hP hD hS h1 h2 h3 (by omega) (by omega)
  · rw [hv] at h
    try dsimp only at h
    have hkc : (kc + r1.2.2.1) + mc = K := by omega
    have hks : (ks + r1.2.2.2) + ms = N := by omega
    have hcs : (kc + r1.2.2.1) ≤ K ∧ (ks + r1.2.2.2) ≤ N := ⟨by omega, by omega⟩
    refine lv_aload_n hx hb d_L_isBelow_5 rfl (lv_at hl 0 rfl) ?_
    refine lv_iload_n hx hb d_L_isBelow_6 rfl (lv_at hl 2 rfl) ?_
    replace h := bd h
    obtain ⟨r2, g2, h⟩ := h
    try dsimp only at h
    replace h := ad_s h
    obtain ⟨mc, ms, h, rfl, rfl⟩ := h
    refine tx_Vv (n := 1) (ci := 0) (As := [.int x2]) (rest := []) (Wn := fun q => (wL cI cZ a q r2.2.1)) C0 hA hZ (c_L_requireType l D cI cZ a hl0 q r1.2.1 x2 g2) wd_160 ⟨wd_161, wd_162, wd_163, wd_55⟩ (by decide +kernel) ⟨Nat.le_of_ble_eq_true rfl, Nat.le_of_ble_eq_true rfl⟩ hP hD hS [0, 1, 2, 3, 4, 5, 6, 7, 8, 9, 10, 11, 12, 13, 14, 15, 16, 17, 18, 19, 20] [] [0, 1, 2, 3, 4, 5, 6, 7, 8, 9, 10, 11, 12, 13, 14, 15, 16, 17, 18, 19, 20] jn_L__C (by decide) jn_L__R (by decide) (by decide) (by decide) jn_L__W rfl rfl rfl hl rfl rfl (Nat.le_of_ble_eq_true rfl) ⟨by show (kc + r1.2.2.1) + _ ≤ K; omega, by show (ks + r1.2.2.2) + _ ≤ N; omega⟩ d_L_isBelow_7 (fun ek H locs q q9 ce hv hP hD hS h1 h2 h3 => ?_) (fun r2v H locs q hv hP hD hS => ?_)
    · rw [hv] at h
      cases h
      exact tx_out C0 hT hP hD hS h1 h2 h3 (by omega) (by omega)
    · rw [hv] at h
      try dsimp only at h
      have hkc : ((kc + r1.2.2.1) + r2.2.2.1) + mc = K := by omega
      have hks : ((ks + r1.2.2.2) + r2.2.2.2) + ms = N := by omega
      have hcs : ((kc + r1.2.2.1) + r2.2.2.1) ≤ K ∧ ((ks + r1.2.2.2) + r2.2.2.2) ≤ N := ⟨by omega, by omega⟩
      refine lv_aload_n hx hb d_L_isBelow_10 rfl (lv_at hl 0 rfl) ?_
      refine lv_iload_n hx hb d_L_isBelow_11 rfl (lv_at hl 1 rfl) ?_
      refine lv_iload_n hx hb d_L_isBelow_12 rfl (lv_at hl 2 rfl) ?_
      refine lv_bipush (v := 100) hx hb d_L_isBelow_13 (by decide) ?_
      replace h := bd h
      obtain ⟨r3, g3, h⟩ := h
      refine rw_V (n := 3) (ci := 0) (As := [.int x1, .int x2, .int 100]) (rest := []) (Wn := fun q => (wL cI cZ a q r3.2)) C0 hA (c_L_liesBelow (n := 101) l D cI cZ a q r2.2.1 x1 x2 100 g3) wd_282 ⟨wd_283, wd_284, wd_285, wd_55⟩ (by decide +kernel) ⟨Nat.le_of_ble_eq_true rfl, Nat.le_of_ble_eq_true rfl⟩ hP hD hS [0, 1, 2, 3, 4, 5, 6, 7, 8, 9, 10, 11, 12, 13, 14, 15, 16, 17, 18, 19, 20] [] [0, 1, 2, 3, 4, 5, 6, 7, 8, 9, 10, 11, 12, 13, 14, 15, 16, 17, 18, 19, 20] jn_L__C (by decide) jn_L__R (by decide) (by decide) (by decide) jn_L__W rfl rfl rfl hl rfl rfl (Nat.le_of_ble_eq_true rfl) hcs d_L_isBelow_15 (fun H locs q hP hD hS => ?_)
      try dsimp only at h
      cases h; exact tx_retz C0 hP hD hS rfl (by omega) (by omega) d_L_isBelow_18
set_option maxHeartbeats 4000000 in
set_option maxRecDepth 100000 in
theorem c_L_isBelow (l : Launch) (D : va_G) (cI cZ : ClassId) (a : Nat → Nat) (hl0 : l.stackTraces = false) (q : Nat) (σ : StL) (x1 : Int32) (x2 : Int32) {res : (Int32 ⊕ Nat) × StL × Nat × Nat} (h : f_L_isBelow σ x1 x2 = some res) : TxM l y_L_isBelow b_L_isBelow 3 (some .boolean) 207 5476 D [(cI, .int), (cZ, .boolean)] [.ref (a 0), .int x1, .int x2] (fun q (σ : StL) => (wL cI cZ a q σ)) q σ res :=
  tx_of (by decide) (Nat.le_of_ble_eq_true rfl) (fun p e s m args below meth c ls A C0 hA hT hZ hP hD hS hl => t_L_isBelow_0 (a := a) (kc := 0) (ks := 0) C0 hA hT hl0 hZ h (Nat.zero_add _) (Nat.zero_add _) hP hD hS (lv_sub hl [0, 1, 2] rfl))
-- part 07.5L.26L_look.lean.txt
def f_L_look (σ : StL) (x1 x2 : Int32) : Option ((Int32 ⊕ Nat) × StL × Nat × Nat) :=
  (f_L_requireType σ x1).bind fun r1 => ad_ r1.2.2.1 r1.2.2.2 <| match r1.1 with
  | .inr e => some (.inr e, r1.2.1, 0, 0)
  | .inl r1v =>
  (f_L_requireClass r1.2.1 x2).bind fun r2 => ad_ r2.2.2.1 r2.2.2.2 <| match r2.1 with
  | .inr e => some (.inr e, r2.2.1, 0, 0)
  | .inl r2v =>
  (f_L_find r2.2.1 x1 x2).bind fun r3 =>
  if r3 = (-1) then
    some (.inl (-1), r2.2.1, 0, 0)
  else
    (f_T_makeNamed (L_types r2.2.1) x2 r3).bind fun r4 =>
    (f_L_settled (L_set_types r2.2.1 r4.2) r4.1).bind fun r5 => ad_ r5.2.2.1 r5.2.2.2 <| match r5.1 with
    | .inr e => some (.inr e, r5.2.1, 0, 0)
    | .inl r5v =>
    some (.inl r5v, r5.2.1, 0, 0)
set_option maxHeartbeats 4000000 in
set_option maxRecDepth 100000 in
theorem t_L_look_0 {p : Program} {l : Launch} {e : Env} {s : State} {m : MethodId} {args : Array Value} {below : List Frame} {meth : Method} {c : Code} {D : va_G} {cI cZ : ClassId} {a : Nat → Nat} {A : Nat → Prop} (C0 : Am p s m args meth c b_L_look (some .int) 4 R_L D [(cI, .int), (cZ, .boolean)]) (hA : ∀ q, s.heap.size ≤ q → A q) (hT : ∀ x ∈ c.exceptionTable.toList, False) (hl0 : l.stackTraces = false) (hZ : Zs A s s.heap) {v : Int32 ⊕ Nat} {u : StL} {K N : Nat}   {q : Nat} {σ : StL} {x1 x2 : Int32} {kc ks mc ms : Nat} (h : f_L_look σ x1 x2 = some (v, u, mc, ms)) (hkc : kc + mc = K) (hks : ks + ms = N) {H : Heap} {locs : List Loc} (hP : va_P D vwCl (wL cI cZ a q σ) H) (hD : va_D A (wL cI cZ a q σ)) (hS : va_S A s.heap H locs) {ls : Array Slot} (hl : lv_has ls 4 [(0, .ref (a 0)), (1, .int x1), (2, .int x2)]) : W p l e (rmK 9 141 K N) s m args below meth c H locs kc ks (TxQ below args s D A (fun q (σ : StL) => (wL cI cZ a q σ)) v u K N) (F0 m 0 ls []) := by
  obtain ⟨hx, hb, hr, hml, hown, hts, hlk, hK⟩ := id C0
  have hcs : kc ≤ K ∧ ks ≤ N := ⟨by omega, by omega⟩
  unfold f_L_look at h
  refine lv_aload_n hx hb d_L_look_0 rfl (lv_at hl 0 rfl) ?_
  refine lv_iload_n hx hb d_L_look_1 rfl (lv_at hl 1 rfl) ?_
  replace h := bd h
  obtain ⟨r1, g1, h⟩ := h
  try dsimp only at h
  replace h := ad_s h
  obtain ⟨mc, ms, h, rfl, rfl⟩ := h
  refine tx_Vv (n := 1) (ci := 0) (As := [.int x1]) (rest := []) (Wn := fun q => (wL cI cZ a q r1.2.1)) C0 hA hZ (c_L_requireType l D cI cZ a hl0 q σ x1 g1) wd_160 ⟨wd_161, wd_162, wd_163, wd_55⟩ (by decide +kernel) ⟨Nat.le_of_ble_eq_true rfl, Nat.le_of_ble_eq_true rfl⟩ hP hD hS [0, 1, 2, 3, 4, 5, 6, 7, 8, 9, 10, 11, 12, 13, 14, 15, 16, 17, 18, 19, 20] [] [0, 1, 2, 3, 4, 5, 6, 7, 8, 9, 10, 11, 12, 13, 14, 15, 16, 17, 18, 19, 20] jn_L__C (by decide) jn_L__R (by decide) (by decide) (by decide) jn_L__W rfl rfl rfl hl rfl rfl (Nat.le_of_ble_eq_true rfl) ⟨by show kc + _ ≤ K; omega, by show ks + _ ≤ N; omega⟩ d_L_look_2 (fun ek H locs q q9 ce hv hP hD hS h1 h2 h3 => ?_) (fun r1v H locs q hv hP hD hS => ?_)
  · rw [hv] at h
    cases h
    exact tx_out C0 hT hP hD hS h1 h2 h3 (by omega) (by omega)
  · rw [hv] at h
    try dsimp only at h
    have hkc : (kc + r1.2.2.1) + mc = K := by omega
    have hks : (ks + r1.2.2.2) + ms = N := by omega
    have hcs : (kc + r1.2.2.1) ≤ K ∧ (ks + r1.2.2.2) ≤ N := ⟨by omega, by omega⟩
    refine lv_aload_n hx hb d_L_look_5 rfl (lv_at hl 0 rfl) ?_
    refine lv_iload_n hx hb d_L_look_6 rfl (lv_at hl 2 rfl) ?_
    replace h := bd h
    obtain ⟨r2, g2, h⟩ := h
    try dsimp only at h
    replace h := ad_s h
    obtain ⟨mc, ms, h, rfl, rfl⟩ := h
    refine tx_Vv (n := 1) (ci := 0) (As := [.int x2]) (rest := []) (Wn := fun q => (wL cI cZ a q r2.2.1)) C0 hA hZ (c_L_requireClass l D cI cZ a hl0 q r1.2.1 x2 g2) wd_134 ⟨wd_135, wd_136, wd_137, wd_55⟩ (by decide +kernel) ⟨Nat.le_of_ble_eq_true rfl, Nat.le_of_ble_eq_true rfl⟩ hP hD hS [0, 1, 2, 3, 4, 5, 6, 7, 8, 9, 10, 11, 12, 13, 14, 15, 16, 17, 18, 19, 20] [] [0, 1, 2, 3, 4, 5, 6, 7, 8, 9, 10, 11, 12, 13, 14, 15, 16, 17, 18, 19, 20] jn_L__C (by decide) jn_L__R (by decide) (by decide) (by decide) jn_L__W rfl rfl rfl hl rfl rfl (Nat.le_of_ble_eq_true rfl) ⟨by show (kc + r1.2.2.1) + _ ≤ K; omega, by show (ks + r1.2.2.2) + _ ≤ N; omega⟩ d_L_look_7 (fun ek H locs q q9 ce hv hP hD hS h1 h2 h3 => ?_) (fun r2v H locs q hv hP hD hS => ?_)
    · rw [hv] at h
      cases h
      exact tx_out C0 hT hP hD hS h1 h2 h3 (by omega) (by omega)
    · rw [hv] at h
      try dsimp only at h
      have hkc : ((kc + r1.2.2.1) + r2.2.2.1) + mc = K := by omega
      have hks : ((ks + r1.2.2.2) + r2.2.2.2) + ms = N := by omega
      have hcs : ((kc + r1.2.2.1) + r2.2.2.1) ≤ K ∧ ((ks + r1.2.2.2) + r2.2.2.2) ≤ N := ⟨by omega, by omega⟩
      refine lv_aload_n hx hb d_L_look_10 rfl (lv_at hl 0 rfl) ?_
      refine lv_iload_n hx hb d_L_look_11 rfl (lv_at hl 1 rfl) ?_
      refine lv_iload_n hx hb d_L_look_12 rfl (lv_at hl 2 rfl) ?_
      replace h := bd h
      obtain ⟨r3, g3, h⟩ := h
      refine ro_V (n := 2) (ci := 0) (As := [.int x1, .int x2]) (rest := []) C0 (c_L_find l D cI cZ a q r2.2.1 x1 x2 g3) wd_262 ⟨wd_263, wd_264, wd_265, wd_55⟩ (by decide +kernel) ⟨Nat.le_of_ble_eq_true rfl, Nat.le_of_ble_eq_true rfl⟩ hP rfl rfl rfl hl rfl rfl (Nat.le_of_ble_eq_true rfl) hcs d_L_look_13 ?_
      try dsimp only at h
      refine lv_istore_n (lv' := [(3, .int r3), (0, .ref (a 0)), (1, .int x1), (2, .int x2)]) hx hb d_L_look_16 rfl hl (by decide) rfl (fun ls hl => ?_)
      refine lv_iload_n hx hb d_L_look_17 rfl (lv_at hl 0 rfl) ?_
      refine lv_iconst (v := (-1)) hx hb d_L_look_18 (by decide) ?_
      refine lv_icmp_ne (tgt := 26) hx hb d_L_look_19 (by decide) (fun hc => ?_) (fun hc => ?_)
      · rw [if_neg hc] at h
        refine lv_aload_n hx hb d_L_look_26 rfl (lv_at hl 1 rfl) ?_
        refine lv_aload_n hx hb d_L_look_27 rfl (lv_at hl 1 rfl) ?_
        refine va_get (ci := 0) (v := .ref (a 10)) (C := R_L) (T := F_L) (N := 6) hx hb hts i_L hown hK.1 hP 0 rfl rfl 2 (by decide) (hts _ wd_85) (fun _ h9 => h9) rfl d_L_look_28 ?_
        refine lv_iload_n hx hb d_L_look_31 rfl (lv_at hl 3 rfl) ?_
        refine lv_iload_n hx hb d_L_look_32 rfl (lv_at hl 0 rfl) ?_
        replace h := bd h
        obtain ⟨r4, g4, h⟩ := h
        refine rw_V (n := 2) (ci := 2) (As := [.int x2, .int r3]) (rest := [.ref (a 0)]) (Wn := fun q => (wL cI cZ a q (L_set_types r2.2.1 r4.2))) C0 hA (c_T_makeNamed l D cI cZ a q (L_types r2.2.1) x2 r3 g4) wd_175 ⟨wd_176, wd_177, wd_178, wd_52⟩ (by decide +kernel) ⟨Nat.le_of_ble_eq_true rfl, Nat.le_of_ble_eq_true rfl⟩ hP hD hS [10, 11, 12, 13, 14, 15, 16, 17, 18] [0, 1, 2, 3, 4, 5, 6, 7, 8, 9, 19, 20] [0, 1, 2, 3, 4, 5, 6, 7, 8, 9, 12, 13, 14, 15, 16, 17, 18, 19, 20, 10, 11] jn_L_types_C (by decide) jn_L_types_R (by decide) (by decide) (by decide) jn_L_types_W rfl rfl rfl hl rfl rfl (Nat.le_of_ble_eq_true rfl) hcs d_L_look_33 (fun H locs q hP hD hS => ?_)
        try dsimp only at h
        replace h := bd h
        obtain ⟨r5, g5, h⟩ := h
        try dsimp only at h
        replace h := ad_s h
        obtain ⟨mc, ms, h, rfl, rfl⟩ := h
        refine tx_V (n := 1) (ci := 0) (As := [.int r4.1]) (rest := []) (Wn := fun q => (wL cI cZ a q r5.2.1)) C0 hA hZ (c_L_settled l D cI cZ a hl0 q (L_set_types r2.2.1 r4.2) r4.1 g5) wd_179 ⟨wd_180, wd_181, wd_182, wd_55⟩ (by decide +kernel) ⟨Nat.le_of_ble_eq_true rfl, Nat.le_of_ble_eq_true rfl⟩ hP hD hS [0, 1, 2, 3, 4, 5, 6, 7, 8, 9, 10, 11, 12, 13, 14, 15, 16, 17, 18, 19, 20] [] [0, 1, 2, 3, 4, 5, 6, 7, 8, 9, 10, 11, 12, 13, 14, 15, 16, 17, 18, 19, 20] jn_L__C (by decide) jn_L__R (by decide) (by decide) (by decide) jn_L__W rfl rfl rfl hl rfl rfl (Nat.le_of_ble_eq_true rfl) ⟨by show ((kc + r1.2.2.1) + r2.2.2.1) + _ ≤ K; omega, by show ((ks + r1.2.2.2) + r2.2.2.2) + _ ≤ N; omega⟩ d_L_look_36 (fun ek H locs q q9 ce hv hP hD hS h1 h2 h3 => ?_) (fun r5v H locs q hv hP hD hS => ?_)
        · rw [hv] at h
          cases h
          exact tx_out C0 hT hP hD hS h1 h2 h3 (by omega) (by omega)
        · rw [hv] at h
          try dsimp only at h
          have hkc : (((kc + r1.2.2.1) + r2.2.2.1) + r5.2.2.1) + mc = K := by omega
          have hks : (((ks + r1.2.2.2) + r2.2.2.2) + r5.2.2.2) + ms = N := by omega
          have hcs : (((kc + r1.2.2.1) + r2.2.2.1) + r5.2.2.1) ≤ K ∧ (((ks + r1.2.2.2) + r2.2.2.2) + r5.2.2.2) ≤ N := ⟨by omega, by omega⟩
          cases h; exact tx_ret C0 hP hD hS (by omega) (by omega) d_L_look_39
      · rw [if_pos hc] at h
        refine lv_iconst (v := (-1)) hx hb d_L_look_22 (by decide) ?_
        refine lv_goto (tgt := 39) hx hb d_L_look_23 (by decide) ?_
        cases h; exact tx_ret C0 hP hD hS (by omega) (by omega) d_L_look_39
set_option maxHeartbeats 4000000 in
set_option maxRecDepth 100000 in
theorem c_L_look (l : Launch) (D : va_G) (cI cZ : ClassId) (a : Nat → Nat) (hl0 : l.stackTraces = false) (q : Nat) (σ : StL) (x1 : Int32) (x2 : Int32) {res : (Int32 ⊕ Nat) × StL × Nat × Nat} (h : f_L_look σ x1 x2 = some res) : TxM l y_L_look b_L_look 4 (some .int) 9 141 D [(cI, .int), (cZ, .boolean)] [.ref (a 0), .int x1, .int x2] (fun q (σ : StL) => (wL cI cZ a q σ)) q σ res :=
  tx_of (by decide) (Nat.le_of_ble_eq_true rfl) (fun p e s m args below meth c ls A C0 hA hT hZ hP hD hS hl => t_L_look_0 (a := a) (kc := 0) (ks := 0) C0 hA hT hl0 hZ h (Nat.zero_add _) (Nat.zero_add _) hP hD hS (lv_sub hl [0, 1, 2] rfl))
-- part 07.5L.27L_box.lean.txt
def f_L_box (σ : StL) (x1 : Int32) : Option ((Int32 ⊕ Nat) × StL × Nat × Nat) :=
  (f_L_requireType σ x1).bind fun r1 => ad_ r1.2.2.1 r1.2.2.2 <| match r1.1 with
  | .inr e => some (.inr e, r1.2.1, 0, 0)
  | .inl r1v =>
  (f_T_kindOf (L_types r1.2.1) x1).bind fun r2 =>
  if r2 = 0 then
    some (.inl (f_L_boxTypeOf x1), r1.2.1, 0, 0)
  else
    some (.inl x1, r1.2.1, 0, 0)
set_option maxHeartbeats 4000000 in
set_option maxRecDepth 100000 in
theorem t_L_box_0 {p : Program} {l : Launch} {e : Env} {s : State} {m : MethodId} {args : Array Value} {below : List Frame} {meth : Method} {c : Code} {D : va_G} {cI cZ : ClassId} {a : Nat → Nat} {A : Nat → Prop} (C0 : Am p s m args meth c b_L_box (some .int) 2 R_L D [(cI, .int), (cZ, .boolean)]) (hA : ∀ q, s.heap.size ≤ q → A q) (hT : ∀ x ∈ c.exceptionTable.toList, False) (hl0 : l.stackTraces = false) (hZ : Zs A s s.heap) {v : Int32 ⊕ Nat} {u : StL} {K N : Nat}   {q : Nat} {σ : StL} {x1 : Int32} {kc ks mc ms : Nat} (h : f_L_box σ x1 = some (v, u, mc, ms)) (hkc : kc + mc = K) (hks : ks + ms = N) {H : Heap} {locs : List Loc} (hP : va_P D vwCl (wL cI cZ a q σ) H) (hD : va_D A (wL cI cZ a q σ)) (hS : va_S A s.heap H locs) {ls : Array Slot} (hl : lv_has ls 2 [(0, .ref (a 0)), (1, .int x1)]) : W p l e (rmK 9 141 K N) s m args below meth c H locs kc ks (TxQ below args s D A (fun q (σ : StL) => (wL cI cZ a q σ)) v u K N) (F0 m 0 ls []) := by
  obtain ⟨hx, hb, hr, hml, hown, hts, hlk, hK⟩ := id C0
  have hcs : kc ≤ K ∧ ks ≤ N := ⟨by omega, by omega⟩
  unfold f_L_box at h
  refine lv_aload_n hx hb d_L_box_0 rfl (lv_at hl 0 rfl) ?_
  refine lv_iload_n hx hb d_L_box_1 rfl (lv_at hl 1 rfl) ?_
  replace h := bd h
  obtain ⟨r1, g1, h⟩ := h
  try dsimp only at h
  replace h := ad_s h
  obtain ⟨mc, ms, h, rfl, rfl⟩ := h
  refine tx_Vv (n := 1) (ci := 0) (As := [.int x1]) (rest := []) (Wn := fun q => (wL cI cZ a q r1.2.1)) C0 hA hZ (c_L_requireType l D cI cZ a hl0 q σ x1 g1) wd_160 ⟨wd_161, wd_162, wd_163, wd_55⟩ (by decide +kernel) ⟨Nat.le_of_ble_eq_true rfl, Nat.le_of_ble_eq_true rfl⟩ hP hD hS [0, 1, 2, 3, 4, 5, 6, 7, 8, 9, 10, 11, 12, 13, 14, 15, 16, 17, 18, 19, 20] [] [0, 1, 2, 3, 4, 5, 6, 7, 8, 9, 10, 11, 12, 13, 14, 15, 16, 17, 18, 19, 20] jn_L__C (by decide) jn_L__R (by decide) (by decide) (by decide) jn_L__W rfl rfl rfl hl rfl rfl (Nat.le_of_ble_eq_true rfl) ⟨by show kc + _ ≤ K; omega, by show ks + _ ≤ N; omega⟩ d_L_box_2 (fun ek H locs q q9 ce hv hP hD hS h1 h2 h3 => ?_) (fun r1v H locs q hv hP hD hS => ?_)
  · rw [hv] at h
    cases h
    exact tx_out C0 hT hP hD hS h1 h2 h3 (by omega) (by omega)
  · rw [hv] at h
    try dsimp only at h
    have hkc : (kc + r1.2.2.1) + mc = K := by omega
    have hks : (ks + r1.2.2.2) + ms = N := by omega
    have hcs : (kc + r1.2.2.1) ≤ K ∧ (ks + r1.2.2.2) ≤ N := ⟨by omega, by omega⟩
    refine lv_aload_n hx hb d_L_box_5 rfl (lv_at hl 0 rfl) ?_
    refine va_get (ci := 0) (v := .ref (a 10)) (C := R_L) (T := F_L) (N := 6) hx hb hts i_L hown hK.1 hP 0 rfl rfl 2 (by decide) (hts _ wd_85) (fun _ h9 => h9) rfl d_L_box_6 ?_
    refine lv_iload_n hx hb d_L_box_9 rfl (lv_at hl 1 rfl) ?_
    replace h := bd h
    obtain ⟨r2, g2, h⟩ := h
    refine ro_V (n := 1) (ci := 2) (As := [.int x1]) (rest := []) C0 (c_T_kindOf l D cI cZ a q (L_types r1.2.1) x1 g2) wd_99 ⟨wd_100, wd_101, wd_102, wd_52⟩ (by decide +kernel) ⟨Nat.le_of_ble_eq_true rfl, Nat.le_of_ble_eq_true rfl⟩ (hP.pick [10, 11, 12, 13, 14, 15, 16, 17, 18] rfl) rfl rfl rfl hl rfl rfl (Nat.le_of_ble_eq_true rfl) hcs d_L_box_10 ?_
    try dsimp only at h
    refine lv_if_ne (tgt := 23) hx hb d_L_box_13 (by decide) (fun hc => ?_) (fun hc => ?_)
    · rw [if_neg hc] at h
      refine lv_iload_n hx hb d_L_box_23 rfl (lv_at hl 1 rfl) ?_
      cases h; exact tx_ret C0 hP hD hS (by omega) (by omega) d_L_box_24
    · rw [if_pos hc] at h
      refine lv_iload_n hx hb d_L_box_16 rfl (lv_at hl 1 rfl) ?_
      refine ro_S (n := 1) (As := [.int x1]) (rest := []) C0 (c_L_boxTypeOf l D cI cZ a x1 rfl) wd_192 ⟨wd_193, wd_194, wd_55⟩ (by decide +kernel) ⟨Nat.le_of_ble_eq_true rfl, Nat.le_of_ble_eq_true rfl⟩ pnil hl rfl rfl (Nat.le_of_ble_eq_true rfl) hcs d_L_box_17 ?_
      refine lv_goto (tgt := 24) hx hb d_L_box_20 (by decide) ?_
      cases h; exact tx_ret C0 hP hD hS (by omega) (by omega) d_L_box_24
set_option maxHeartbeats 4000000 in
set_option maxRecDepth 100000 in
theorem c_L_box (l : Launch) (D : va_G) (cI cZ : ClassId) (a : Nat → Nat) (hl0 : l.stackTraces = false) (q : Nat) (σ : StL) (x1 : Int32) {res : (Int32 ⊕ Nat) × StL × Nat × Nat} (h : f_L_box σ x1 = some res) : TxM l y_L_box b_L_box 2 (some .int) 9 141 D [(cI, .int), (cZ, .boolean)] [.ref (a 0), .int x1] (fun q (σ : StL) => (wL cI cZ a q σ)) q σ res :=
  tx_of (by decide) (Nat.le_of_ble_eq_true rfl) (fun p e s m args below meth c ls A C0 hA hT hZ hP hD hS hl => t_L_box_0 (a := a) (kc := 0) (ks := 0) C0 hA hT hl0 hZ h (Nat.zero_add _) (Nat.zero_add _) hP hD hS (lv_sub hl [0, 1] rfl))
-- part 07.5L.28L_type.lean.txt
def f_L_type (σ : StL) (x1 x2 : Int32) : Option ((Int32 ⊕ Nat) × StL × Nat × Nat) :=
  (f_L_requireType σ x1).bind fun r1 => ad_ r1.2.2.1 r1.2.2.2 <| match r1.1 with
  | .inr e => some (.inr e, r1.2.1, 0, 0)
  | .inl r1v =>
  if x2 = 0 then
    (f_T_kindOf (L_types r1.2.1) x1).bind fun r2 =>
    some (.inl r2, r1.2.1, 0, 0)
  else if x2 = 1 then
    (f_T_classOf (L_types r1.2.1) x1).bind fun r3 =>
    some (.inl r3, r1.2.1, 0, 0)
  else if x2 = 2 then
    (f_T_argumentAt (L_types r1.2.1) x1).bind fun r4 =>
    some (.inl (f_L_howOf r4), r1.2.1, 0, 0)
  else if x2 = 3 then
    (f_T_kindOf (L_types r1.2.1) x1).bind fun r5 =>
    if r5 = 2 then
      (f_T_elementOf (L_types r1.2.1) x1).bind fun r7 =>
      some (.inl r7, r1.2.1, 0, 0)
    else
      (f_T_argumentAt (L_types r1.2.1) x1).bind fun r6 =>
      some (.inl (f_L_typeOf r6), r1.2.1, 0, 0)
  else if x2 = 4 then
    (f_T_countParts (L_types r1.2.1) x1).bind fun r8 =>
    some (.inl r8, r1.2.1, 0, 0)
  else if x2 = 5 then
    (f_T_sizeOf (L_types r1.2.1) x1).bind fun r9 =>
    some (.inl r9, r1.2.1, 0, 0)
  else some (.inr 3, r1.2.1, 1, 6)
set_option maxHeartbeats 4000000 in
set_option maxRecDepth 100000 in
theorem t_L_type_0 {p : Program} {l : Launch} {e : Env} {s : State} {m : MethodId} {args : Array Value} {below : List Frame} {meth : Method} {c : Code} {D : va_G} {cI cZ : ClassId} {a : Nat → Nat} {A : Nat → Prop} (C0 : Am p s m args meth c b_L_type (some .int) 3 R_L D [(cI, .int), (cZ, .boolean)]) (hA : ∀ q, s.heap.size ≤ q → A q) (hT : ∀ x ∈ c.exceptionTable.toList, False) (hl0 : l.stackTraces = false) (hZ : Zs A s s.heap) {v : Int32 ⊕ Nat} {u : StL} {K N : Nat}   {q : Nat} {σ : StL} {x1 x2 : Int32} {kc ks mc ms : Nat} (h : f_L_type σ x1 x2 = some (v, u, mc, ms)) (hkc : kc + mc = K) (hks : ks + ms = N) {H : Heap} {locs : List Loc} (hP : va_P D vwCl (wL cI cZ a q σ) H) (hD : va_D A (wL cI cZ a q σ)) (hS : va_S A s.heap H locs) {ls : Array Slot} (hl : lv_has ls 3 [(0, .ref (a 0)), (1, .int x1), (2, .int x2)]) : W p l e (rmK 9 141 K N) s m args below meth c H locs kc ks (TxQ below args s D A (fun q (σ : StL) => (wL cI cZ a q σ)) v u K N) (F0 m 0 ls []) := by
  obtain ⟨hx, hb, hr, hml, hown, hts, hlk, hK⟩ := id C0
  have hcs : kc ≤ K ∧ ks ≤ N := ⟨by omega, by omega⟩
  unfold f_L_type at h
  refine lv_aload_n hx hb d_L_type_0 rfl (lv_at hl 0 rfl) ?_
  refine lv_iload_n hx hb d_L_type_1 rfl (lv_at hl 1 rfl) ?_
  replace h := bd h
  obtain ⟨r1, g1, h⟩ := h
  try dsimp only at h
  replace h := ad_s h
  obtain ⟨mc, ms, h, rfl, rfl⟩ := h
  refine tx_Vv (n := 1) (ci := 0) (As := [.int x1]) (rest := []) (Wn := fun q => (wL cI cZ a q r1.2.1)) C0 hA hZ (c_L_requireType l D cI cZ a hl0 q σ x1 g1) wd_160 ⟨wd_161, wd_162, wd_163, wd_55⟩ (by decide +kernel) ⟨Nat.le_of_ble_eq_true rfl, Nat.le_of_ble_eq_true rfl⟩ hP hD hS [0, 1, 2, 3, 4, 5, 6, 7, 8, 9, 10, 11, 12, 13, 14, 15, 16, 17, 18, 19, 20] [] [0, 1, 2, 3, 4, 5, 6, 7, 8, 9, 10, 11, 12, 13, 14, 15, 16, 17, 18, 19, 20] jn_L__C (by decide) jn_L__R (by decide) (by decide) (by decide) jn_L__W rfl rfl rfl hl rfl rfl (Nat.le_of_ble_eq_true rfl) ⟨by show kc + _ ≤ K; omega, by show ks + _ ≤ N; omega⟩ d_L_type_2 (fun ek H locs q q9 ce hv hP hD hS h1 h2 h3 => ?_) (fun r1v H locs q hv hP hD hS => ?_)
  · rw [hv] at h
    cases h
    exact tx_out C0 hT hP hD hS h1 h2 h3 (by omega) (by omega)
  · rw [hv] at h
    try dsimp only at h
    have hkc : (kc + r1.2.2.1) + mc = K := by omega
    have hks : (ks + r1.2.2.2) + ms = N := by omega
    have hcs : (kc + r1.2.2.1) ≤ K ∧ (ks + r1.2.2.2) ≤ N := ⟨by omega, by omega⟩
    refine lv_iload_n hx hb d_L_type_5 rfl (lv_at hl 2 rfl) ?_
    by_cases e6_0 : x2 = 0
    · rw [if_pos e6_0] at h
      refine lv_tableIn (off := 38) (tgt := 44) hx hb d_L_type_6 (by rw [e6_0]; decide) (by rw [e6_0]; decide) (by rw [e6_0]; rfl) (by decide) ?_
      refine lv_aload_n hx hb d_L_type_44 rfl (lv_at hl 0 rfl) ?_
      refine va_get (ci := 0) (v := .ref (a 10)) (C := R_L) (T := F_L) (N := 6) hx hb hts i_L hown hK.1 hP 0 rfl rfl 2 (by decide) (hts _ wd_85) (fun _ h9 => h9) rfl d_L_type_45 ?_
      refine lv_iload_n hx hb d_L_type_48 rfl (lv_at hl 1 rfl) ?_
      replace h := bd h
      obtain ⟨r2, g2, h⟩ := h
      refine ro_V (n := 1) (ci := 2) (As := [.int x1]) (rest := []) C0 (c_T_kindOf l D cI cZ a q (L_types r1.2.1) x1 g2) wd_99 ⟨wd_100, wd_101, wd_102, wd_52⟩ (by decide +kernel) ⟨Nat.le_of_ble_eq_true rfl, Nat.le_of_ble_eq_true rfl⟩ (hP.pick [10, 11, 12, 13, 14, 15, 16, 17, 18] rfl) rfl rfl rfl hl rfl rfl (Nat.le_of_ble_eq_true rfl) hcs d_L_type_49 ?_
      try dsimp only at h
      cases h; exact tx_ret C0 hP hD hS (by omega) (by omega) d_L_type_52
    · rw [if_neg e6_0] at h
      by_cases e6_1 : x2 = 1
      · rw [if_pos e6_1] at h
        refine lv_tableIn (off := 47) (tgt := 53) hx hb d_L_type_6 (by rw [e6_1]; decide) (by rw [e6_1]; decide) (by rw [e6_1]; rfl) (by decide) ?_
        refine lv_aload_n hx hb d_L_type_53 rfl (lv_at hl 0 rfl) ?_
        refine va_get (ci := 0) (v := .ref (a 10)) (C := R_L) (T := F_L) (N := 6) hx hb hts i_L hown hK.1 hP 0 rfl rfl 2 (by decide) (hts _ wd_85) (fun _ h9 => h9) rfl d_L_type_54 ?_
        refine lv_iload_n hx hb d_L_type_57 rfl (lv_at hl 1 rfl) ?_
        replace h := bd h
        obtain ⟨r3, g3, h⟩ := h
        refine ro_V (n := 1) (ci := 2) (As := [.int x1]) (rest := []) C0 (c_T_classOf l D cI cZ a q (L_types r1.2.1) x1 g3) wd_195 ⟨wd_196, wd_197, wd_198, wd_52⟩ (by decide +kernel) ⟨Nat.le_of_ble_eq_true rfl, Nat.le_of_ble_eq_true rfl⟩ (hP.pick [10, 11, 12, 13, 14, 15, 16, 17, 18] rfl) rfl rfl rfl hl rfl rfl (Nat.le_of_ble_eq_true rfl) hcs d_L_type_58 ?_
        try dsimp only at h
        cases h; exact tx_ret C0 hP hD hS (by omega) (by omega) d_L_type_61
      · rw [if_neg e6_1] at h
        by_cases e6_2 : x2 = 2
        · rw [if_pos e6_2] at h
          refine lv_tableIn (off := 56) (tgt := 62) hx hb d_L_type_6 (by rw [e6_2]; decide) (by rw [e6_2]; decide) (by rw [e6_2]; rfl) (by decide) ?_
          refine lv_aload_n hx hb d_L_type_62 rfl (lv_at hl 0 rfl) ?_
          refine va_get (ci := 0) (v := .ref (a 10)) (C := R_L) (T := F_L) (N := 6) hx hb hts i_L hown hK.1 hP 0 rfl rfl 2 (by decide) (hts _ wd_85) (fun _ h9 => h9) rfl d_L_type_63 ?_
          refine lv_iload_n hx hb d_L_type_66 rfl (lv_at hl 1 rfl) ?_
          replace h := bd h
          obtain ⟨r4, g4, h⟩ := h
          refine ro_V (n := 1) (ci := 2) (As := [.int x1]) (rest := []) C0 (c_T_argumentAt l D cI cZ a q (L_types r1.2.1) x1 g4) wd_217 ⟨wd_218, wd_219, wd_220, wd_52⟩ (by decide +kernel) ⟨Nat.le_of_ble_eq_true rfl, Nat.le_of_ble_eq_true rfl⟩ (hP.pick [10, 11, 12, 13, 14, 15, 16, 17, 18] rfl) rfl rfl rfl hl rfl rfl (Nat.le_of_ble_eq_true rfl) hcs d_L_type_67 ?_
          try dsimp only at h
          refine ro_S (n := 1) (As := [.int r4]) (rest := []) C0 (c_L_howOf l D cI cZ a r4 rfl) wd_245 ⟨wd_246, wd_247, wd_55⟩ (by decide +kernel) ⟨Nat.le_of_ble_eq_true rfl, Nat.le_of_ble_eq_true rfl⟩ pnil hl rfl rfl (Nat.le_of_ble_eq_true rfl) hcs d_L_type_70 ?_
          cases h; exact tx_ret C0 hP hD hS (by omega) (by omega) d_L_type_73
        · rw [if_neg e6_2] at h
          by_cases e6_3 : x2 = 3
          · rw [if_pos e6_3] at h
            refine lv_tableIn (off := 68) (tgt := 74) hx hb d_L_type_6 (by rw [e6_3]; decide) (by rw [e6_3]; decide) (by rw [e6_3]; rfl) (by decide) ?_
            refine lv_aload_n hx hb d_L_type_74 rfl (lv_at hl 0 rfl) ?_
            refine va_get (ci := 0) (v := .ref (a 10)) (C := R_L) (T := F_L) (N := 6) hx hb hts i_L hown hK.1 hP 0 rfl rfl 2 (by decide) (hts _ wd_85) (fun _ h9 => h9) rfl d_L_type_75 ?_
            refine lv_iload_n hx hb d_L_type_78 rfl (lv_at hl 1 rfl) ?_
            replace h := bd h
            obtain ⟨r5, g5, h⟩ := h
            refine ro_V (n := 1) (ci := 2) (As := [.int x1]) (rest := []) C0 (c_T_kindOf l D cI cZ a q (L_types r1.2.1) x1 g5) wd_99 ⟨wd_100, wd_101, wd_102, wd_52⟩ (by decide +kernel) ⟨Nat.le_of_ble_eq_true rfl, Nat.le_of_ble_eq_true rfl⟩ (hP.pick [10, 11, 12, 13, 14, 15, 16, 17, 18] rfl) rfl rfl rfl hl rfl rfl (Nat.le_of_ble_eq_true rfl) hcs d_L_type_79 ?_
            try dsimp only at h
            refine lv_iconst (v := 2) hx hb d_L_type_82 (by decide) ?_
            refine lv_icmp_ne (tgt := 97) hx hb d_L_type_83 (by decide) (fun hc => ?_) (fun hc => ?_)
            · rw [if_neg hc] at h
              refine lv_aload_n hx hb d_L_type_97 rfl (lv_at hl 0 rfl) ?_
              refine va_get (ci := 0) (v := .ref (a 10)) (C := R_L) (T := F_L) (N := 6) hx hb hts i_L hown hK.1 hP 0 rfl rfl 2 (by decide) (hts _ wd_85) (fun _ h9 => h9) rfl d_L_type_98 ?_
              refine lv_iload_n hx hb d_L_type_101 rfl (lv_at hl 1 rfl) ?_
              replace h := bd h
              obtain ⟨r6, g6, h⟩ := h
              refine ro_V (n := 1) (ci := 2) (As := [.int x1]) (rest := []) C0 (c_T_argumentAt l D cI cZ a q (L_types r1.2.1) x1 g6) wd_217 ⟨wd_218, wd_219, wd_220, wd_52⟩ (by decide +kernel) ⟨Nat.le_of_ble_eq_true rfl, Nat.le_of_ble_eq_true rfl⟩ (hP.pick [10, 11, 12, 13, 14, 15, 16, 17, 18] rfl) rfl rfl rfl hl rfl rfl (Nat.le_of_ble_eq_true rfl) hcs d_L_type_102 ?_
              try dsimp only at h
              refine ro_S (n := 1) (As := [.int r6]) (rest := []) C0 (c_L_typeOf l D cI cZ a r6 rfl) wd_240 ⟨wd_53, wd_54, wd_55⟩ (by decide +kernel) ⟨Nat.le_of_ble_eq_true rfl, Nat.le_of_ble_eq_true rfl⟩ pnil hl rfl rfl (Nat.le_of_ble_eq_true rfl) hcs d_L_type_105 ?_
              cases h; exact tx_ret C0 hP hD hS (by omega) (by omega) d_L_type_108
            · rw [if_pos hc] at h
              refine lv_aload_n hx hb d_L_type_86 rfl (lv_at hl 0 rfl) ?_
              refine va_get (ci := 0) (v := .ref (a 10)) (C := R_L) (T := F_L) (N := 6) hx hb hts i_L hown hK.1 hP 0 rfl rfl 2 (by decide) (hts _ wd_85) (fun _ h9 => h9) rfl d_L_type_87 ?_
              refine lv_iload_n hx hb d_L_type_90 rfl (lv_at hl 1 rfl) ?_
              replace h := bd h
              obtain ⟨r7, g7, h⟩ := h
              refine ro_V (n := 1) (ci := 2) (As := [.int x1]) (rest := []) C0 (c_T_elementOf l D cI cZ a q (L_types r1.2.1) x1 g7) wd_187 ⟨wd_188, wd_189, wd_190, wd_52⟩ (by decide +kernel) ⟨Nat.le_of_ble_eq_true rfl, Nat.le_of_ble_eq_true rfl⟩ (hP.pick [10, 11, 12, 13, 14, 15, 16, 17, 18] rfl) rfl rfl rfl hl rfl rfl (Nat.le_of_ble_eq_true rfl) hcs d_L_type_91 ?_
              try dsimp only at h
              refine lv_goto (tgt := 108) hx hb d_L_type_94 (by decide) ?_
              cases h; exact tx_ret C0 hP hD hS (by omega) (by omega) d_L_type_108
          · rw [if_neg e6_3] at h
            by_cases e6_4 : x2 = 4
            · rw [if_pos e6_4] at h
              refine lv_tableIn (off := 103) (tgt := 109) hx hb d_L_type_6 (by rw [e6_4]; decide) (by rw [e6_4]; decide) (by rw [e6_4]; rfl) (by decide) ?_
              refine lv_aload_n hx hb d_L_type_109 rfl (lv_at hl 0 rfl) ?_
              refine va_get (ci := 0) (v := .ref (a 10)) (C := R_L) (T := F_L) (N := 6) hx hb hts i_L hown hK.1 hP 0 rfl rfl 2 (by decide) (hts _ wd_85) (fun _ h9 => h9) rfl d_L_type_110 ?_
              refine lv_iload_n hx hb d_L_type_113 rfl (lv_at hl 1 rfl) ?_
              replace h := bd h
              obtain ⟨r8, g8, h⟩ := h
              refine ro_V (n := 1) (ci := 2) (As := [.int x1]) (rest := []) C0 (c_T_countParts l D cI cZ a q (L_types r1.2.1) x1 g8) wd_200 ⟨wd_201, wd_202, wd_203, wd_52⟩ (by decide +kernel) ⟨Nat.le_of_ble_eq_true rfl, Nat.le_of_ble_eq_true rfl⟩ (hP.pick [10, 11, 12, 13, 14, 15, 16, 17, 18] rfl) rfl rfl rfl hl rfl rfl (Nat.le_of_ble_eq_true rfl) hcs d_L_type_114 ?_
              try dsimp only at h
              cases h; exact tx_ret C0 hP hD hS (by omega) (by omega) d_L_type_117
            · rw [if_neg e6_4] at h
              by_cases e6_5 : x2 = 5
              · rw [if_pos e6_5] at h
                refine lv_tableIn (off := 112) (tgt := 118) hx hb d_L_type_6 (by rw [e6_5]; decide) (by rw [e6_5]; decide) (by rw [e6_5]; rfl) (by decide) ?_
                refine lv_aload_n hx hb d_L_type_118 rfl (lv_at hl 0 rfl) ?_
                refine va_get (ci := 0) (v := .ref (a 10)) (C := R_L) (T := F_L) (N := 6) hx hb hts i_L hown hK.1 hP 0 rfl rfl 2 (by decide) (hts _ wd_85) (fun _ h9 => h9) rfl d_L_type_119 ?_
                refine lv_iload_n hx hb d_L_type_122 rfl (lv_at hl 1 rfl) ?_
                replace h := bd h
                obtain ⟨r9, g9, h⟩ := h
                refine ro_V (n := 1) (ci := 2) (As := [.int x1]) (rest := []) C0 (c_T_sizeOf l D cI cZ a q (L_types r1.2.1) x1 g9) wd_325 ⟨wd_57, wd_58, wd_59, wd_52⟩ (by decide +kernel) ⟨Nat.le_of_ble_eq_true rfl, Nat.le_of_ble_eq_true rfl⟩ (hP.pick [10, 11, 12, 13, 14, 15, 16, 17, 18] rfl) rfl rfl rfl hl rfl rfl (Nat.le_of_ble_eq_true rfl) hcs d_L_type_123 ?_
                try dsimp only at h
                cases h; exact tx_ret C0 hP hD hS (by omega) (by omega) d_L_type_126
              · rw [if_neg e6_5] at h
                refine lv_tableOut (tgt := 127) hx hb d_L_type_6 (by have n0 := lv_neT (a := 0) e6_0 (by decide); have n1 := lv_neT (a := 1) e6_1 (by decide); have n2 := lv_neT (a := 2) e6_2 (by decide); have n3 := lv_neT (a := 3) e6_3 (by decide); have n4 := lv_neT (a := 4) e6_4 (by decide); have n5 := lv_neT (a := 5) e6_5 (by decide); omega) (by decide) ?_
                cases h
                exact tx_throw (k := 3) C0 hT hl0 hZ hP hD hS wd_164 wd_165 (List.mem_of_getElem? (i := 10) rfl) th_3_87_91_a th_3_87_91_b thI_3 d_L_type_127 d_L_type_130 d_L_type_131 d_L_type_133 d_L_type_136 hl (Nat.le_of_ble_eq_true rfl) (Nat.le_of_ble_eq_true rfl) (by show (kc + r1.2.2.1) + 1 ≤ K; omega) (by show (ks + r1.2.2.2) + 6 ≤ N; omega) (by omega) (by omega)
set_option maxHeartbeats 4000000 in
set_option maxRecDepth 100000 in
theorem c_L_type (l : Launch) (D : va_G) (cI cZ : ClassId) (a : Nat → Nat) (hl0 : l.stackTraces = false) (q : Nat) (σ : StL) (x1 : Int32) (x2 : Int32) {res : (Int32 ⊕ Nat) × StL × Nat × Nat} (h : f_L_type σ x1 x2 = some res) : TxM l y_L_type b_L_type 3 (some .int) 9 141 D [(cI, .int), (cZ, .boolean)] [.ref (a 0), .int x1, .int x2] (fun q (σ : StL) => (wL cI cZ a q σ)) q σ res :=
  tx_of (by decide) (Nat.le_of_ble_eq_true rfl) (fun p e s m args below meth c ls A C0 hA hT hZ hP hD hS hl => t_L_type_0 (a := a) (kc := 0) (ks := 0) C0 hA hT hl0 hZ h (Nat.zero_add _) (Nat.zero_add _) hP hD hS (lv_sub hl [0, 1, 2] rfl))
-- part 07.5L.29L_part.lean.txt
def f_L_part_21 (σ : StL) : Option ((Int32 ⊕ Nat) × StL × Nat × Nat) :=
  some (.inr 1, σ, 1, 6)
def f_L_part (σ : StL) (x1 x2 : Int32) : Option ((Int32 ⊕ Nat) × StL × Nat × Nat) :=
  (f_L_requireType σ x1).bind fun r1 => ad_ r1.2.2.1 r1.2.2.2 <| match r1.1 with
  | .inr e => some (.inr e, r1.2.1, 0, 0)
  | .inl r1v =>
  if x2 < 0 then
    f_L_part_21 r1.2.1
  else
    (f_T_countParts (L_types r1.2.1) x1).bind fun r2 =>
    if x2 < r2 then
      (f_T_partOf (L_types r1.2.1) x1 x2).bind fun r3 =>
      some (.inl r3, r1.2.1, 0, 0)
    else
      f_L_part_21 r1.2.1
set_option maxHeartbeats 4000000 in
set_option maxRecDepth 100000 in
theorem t_L_part_21 {p : Program} {l : Launch} {e : Env} {s : State} {m : MethodId} {args : Array Value} {below : List Frame} {meth : Method} {c : Code} {D : va_G} {cI cZ : ClassId} {a : Nat → Nat} {A : Nat → Prop} (C0 : Am p s m args meth c b_L_part (some .int) 3 R_L D [(cI, .int), (cZ, .boolean)]) (hA : ∀ q, s.heap.size ≤ q → A q) (hT : ∀ x ∈ c.exceptionTable.toList, False) (hl0 : l.stackTraces = false) (hZ : Zs A s s.heap) {v : Int32 ⊕ Nat} {u : StL} {K N : Nat}   {q : Nat} {σ : StL} {kc ks mc ms : Nat} (h : f_L_part_21 σ = some (v, u, mc, ms)) (hkc : kc + mc = K) (hks : ks + ms = N) {H : Heap} {locs : List Loc} (hP : va_P D vwCl (wL cI cZ a q σ) H) (hD : va_D A (wL cI cZ a q σ)) (hS : va_S A s.heap H locs) {ls : Array Slot} (hl : lv_has ls 3 []) : W p l e (rmK 9 141 K N) s m args below meth c H locs kc ks (TxQ below args s D A (fun q (σ : StL) => (wL cI cZ a q σ)) v u K N) (F0 m 21 ls []) := by
  obtain ⟨hx, hb, hr, hml, hown, hts, hlk, hK⟩ := id C0
  have hcs : kc ≤ K ∧ ks ≤ N := ⟨by omega, by omega⟩
  unfold f_L_part_21 at h
  cases h
  exact tx_throw (k := 1) C0 hT hl0 hZ hP hD hS wd_83 wd_84 (List.mem_of_getElem? (i := 11) rfl) th_1_176_180_a th_1_176_180_b thI_1 d_L_part_21 d_L_part_24 d_L_part_25 d_L_part_27 d_L_part_30 hl (Nat.le_of_ble_eq_true rfl) (Nat.le_of_ble_eq_true rfl) (by show kc + 1 ≤ K; omega) (by show ks + 6 ≤ N; omega) (by omega) (by omega)
set_option maxHeartbeats 4000000 in
set_option maxRecDepth 100000 in
theorem t_L_part_0 {p : Program} {l : Launch} {e : Env} {s : State} {m : MethodId} {args : Array Value} {below : List Frame} {meth : Method} {c : Code} {D : va_G} {cI cZ : ClassId} {a : Nat → Nat} {A : Nat → Prop} (C0 : Am p s m args meth c b_L_part (some .int) 3 R_L D [(cI, .int), (cZ, .boolean)]) (hA : ∀ q, s.heap.size ≤ q → A q) (hT : ∀ x ∈ c.exceptionTable.toList, False) (hl0 : l.stackTraces = false) (hZ : Zs A s s.heap) {v : Int32 ⊕ Nat} {u : StL} {K N : Nat}   {q : Nat} {σ : StL} {x1 x2 : Int32} {kc ks mc ms : Nat} (h : f_L_part σ x1 x2 = some (v, u, mc, ms)) (hkc : kc + mc = K) (hks : ks + ms = N) {H : Heap} {locs : List Loc} (hP : va_P D vwCl (wL cI cZ a q σ) H) (hD : va_D A (wL cI cZ a q σ)) (hS : va_S A s.heap H locs) {ls : Array Slot} (hl : lv_has ls 3 [(0, .ref (a 0)), (1, .int x1), (2, .int x2)]) : W p l e (rmK 9 141 K N) s m args below meth c H locs kc ks (TxQ below args s D A (fun q (σ : StL) => (wL cI cZ a q σ)) v u K N) (F0 m 0 ls []) := by
  obtain ⟨hx, hb, hr, hml, hown, hts, hlk, hK⟩ := id C0
  have hcs : kc ≤ K ∧ ks ≤ N := ⟨by omega, by omega⟩
  unfold f_L_part at h
  refine lv_aload_n hx hb d_L_part_0 rfl (lv_at hl 0 rfl) ?_
  refine lv_iload_n hx hb d_L_part_1 rfl (lv_at hl 1 rfl) ?_
  replace h := bd h
  obtain ⟨r1, g1, h⟩ := h
  try dsimp only at h
  replace h := ad_s h
  obtain ⟨mc, ms, h, rfl, rfl⟩ := h
  refine tx_Vv (n := 1) (ci := 0) (As := [.int x1]) (rest := []) (Wn := fun q => (wL cI cZ a q r1.2.1)) C0 hA hZ (c_L_requireType l D cI cZ a hl0 q σ x1 g1) wd_160 ⟨wd_161, wd_162, wd_163, wd_55⟩ (by decide +kernel) ⟨Nat.le_of_ble_eq_true rfl, Nat.le_of_ble_eq_true rfl⟩ hP hD hS [0, 1, 2, 3, 4, 5, 6, 7, 8, 9, 10, 11, 12, 13, 14, 15, 16, 17, 18, 19, 20] [] [0, 1, 2, 3, 4, 5, 6, 7, 8, 9, 10, 11, 12, 13, 14, 15, 16, 17, 18, 19, 20] jn_L__C (by decide) jn_L__R (by decide) (by decide) (by decide) jn_L__W rfl rfl rfl hl rfl rfl (Nat.le_of_ble_eq_true rfl) ⟨by show kc + _ ≤ K; omega, by show ks + _ ≤ N; omega⟩ d_L_part_2 (fun ek H locs q q9 ce hv hP hD hS h1 h2 h3 => ?_) (fun r1v H locs q hv hP hD hS => ?_)
  · rw [hv] at h
    cases h
    exact tx_out C0 hT hP hD hS h1 h2 h3 (by omega) (by omega)
  · rw [hv] at h
    try dsimp only at h
    have hkc : (kc + r1.2.2.1) + mc = K := by omega
    have hks : (ks + r1.2.2.2) + ms = N := by omega
    have hcs : (kc + r1.2.2.1) ≤ K ∧ (ks + r1.2.2.2) ≤ N := ⟨by omega, by omega⟩
    refine lv_iload_n hx hb d_L_part_5 rfl (lv_at hl 2 rfl) ?_
    refine lv_if_lt (tgt := 21) hx hb d_L_part_6 (by decide) (fun hc => ?_) (fun hc => ?_)
    · rw [if_pos hc] at h
      exact t_L_part_21 (a := a) C0 hA hT hl0 hZ  h hkc hks hP hD hS (lv_sub hl [] rfl)
    · rw [if_neg hc] at h
      refine lv_iload_n hx hb d_L_part_9 rfl (lv_at hl 2 rfl) ?_
      refine lv_aload_n hx hb d_L_part_10 rfl (lv_at hl 0 rfl) ?_
      refine va_get (ci := 0) (v := .ref (a 10)) (C := R_L) (T := F_L) (N := 6) hx hb hts i_L hown hK.1 hP 0 rfl rfl 2 (by decide) (hts _ wd_85) (fun _ h9 => h9) rfl d_L_part_11 ?_
      refine lv_iload_n hx hb d_L_part_14 rfl (lv_at hl 1 rfl) ?_
      replace h := bd h
      obtain ⟨r2, g2, h⟩ := h
      refine ro_V (n := 1) (ci := 2) (As := [.int x1]) (rest := [.int x2]) C0 (c_T_countParts l D cI cZ a q (L_types r1.2.1) x1 g2) wd_200 ⟨wd_201, wd_202, wd_203, wd_52⟩ (by decide +kernel) ⟨Nat.le_of_ble_eq_true rfl, Nat.le_of_ble_eq_true rfl⟩ (hP.pick [10, 11, 12, 13, 14, 15, 16, 17, 18] rfl) rfl rfl rfl hl rfl rfl (Nat.le_of_ble_eq_true rfl) hcs d_L_part_15 ?_
      try dsimp only at h
      refine lv_icmp_lt (tgt := 31) hx hb d_L_part_18 (by decide) (fun hc => ?_) (fun hc => ?_)
      · rw [if_pos hc] at h
        refine lv_aload_n hx hb d_L_part_31 rfl (lv_at hl 0 rfl) ?_
        refine va_get (ci := 0) (v := .ref (a 10)) (C := R_L) (T := F_L) (N := 6) hx hb hts i_L hown hK.1 hP 0 rfl rfl 2 (by decide) (hts _ wd_85) (fun _ h9 => h9) rfl d_L_part_32 ?_
        refine lv_iload_n hx hb d_L_part_35 rfl (lv_at hl 1 rfl) ?_
        refine lv_iload_n hx hb d_L_part_36 rfl (lv_at hl 2 rfl) ?_
        replace h := bd h
        obtain ⟨r3, g3, h⟩ := h
        refine ro_V (n := 2) (ci := 2) (As := [.int x1, .int x2]) (rest := []) C0 (c_T_partOf l D cI cZ a q (L_types r1.2.1) x1 x2 g3) wd_204 ⟨wd_205, wd_206, wd_207, wd_52⟩ (by decide +kernel) ⟨Nat.le_of_ble_eq_true rfl, Nat.le_of_ble_eq_true rfl⟩ (hP.pick [10, 11, 12, 13, 14, 15, 16, 17, 18] rfl) rfl rfl rfl hl rfl rfl (Nat.le_of_ble_eq_true rfl) hcs d_L_part_37 ?_
        try dsimp only at h
        cases h; exact tx_ret C0 hP hD hS (by omega) (by omega) d_L_part_40
      · rw [if_neg hc] at h
        exact t_L_part_21 (a := a) C0 hA hT hl0 hZ  h hkc hks hP hD hS (lv_sub hl [] rfl)
set_option maxHeartbeats 4000000 in
set_option maxRecDepth 100000 in
theorem c_L_part (l : Launch) (D : va_G) (cI cZ : ClassId) (a : Nat → Nat) (hl0 : l.stackTraces = false) (q : Nat) (σ : StL) (x1 : Int32) (x2 : Int32) {res : (Int32 ⊕ Nat) × StL × Nat × Nat} (h : f_L_part σ x1 x2 = some res) : TxM l y_L_part b_L_part 3 (some .int) 9 141 D [(cI, .int), (cZ, .boolean)] [.ref (a 0), .int x1, .int x2] (fun q (σ : StL) => (wL cI cZ a q σ)) q σ res :=
  tx_of (by decide) (Nat.le_of_ble_eq_true rfl) (fun p e s m args below meth c ls A C0 hA hT hZ hP hD hS hl => t_L_part_0 (a := a) (kc := 0) (ks := 0) C0 hA hT hl0 hZ h (Nat.zero_add _) (Nat.zero_add _) hP hD hS (lv_sub hl [0, 1, 2] rfl))
-- part 07.5L.30L_common.lean.txt
def f_L_common (σ : StL) (x1 x2 x3 : Int32) : Option ((Int32 ⊕ Nat) × StL × Nat × Nat) :=
  (f_L_requireType σ x1).bind fun r1 => ad_ r1.2.2.1 r1.2.2.2 <| match r1.1 with
  | .inr e => some (.inr e, r1.2.1, 0, 0)
  | .inl r1v =>
  (f_L_requireType r1.2.1 x2).bind fun r2 => ad_ r2.2.2.1 r2.2.2.2 <| match r2.1 with
  | .inr e => some (.inr e, r2.2.1, 0, 0)
  | .inl r2v =>
  if x3 = 0 then
    (f_L_commonOf r2.2.1 x1 x2).bind fun r3 =>
    some (.inl (f_J_bitCount r3), r2.2.1, 0, 0)
  else if x3 = 1 then
    (f_L_commonOf r2.2.1 x1 x2).bind fun r4 =>
    (f_C_leastOf (L_classes r2.2.1) r4).bind fun r5 =>
    some (.inl (f_J_bitCount r5), r2.2.1, 0, 0)
  else some (.inr 3, r2.2.1, 1, 6)
set_option maxHeartbeats 4000000 in
set_option maxRecDepth 100000 in
theorem t_L_common_0 {p : Program} {l : Launch} {e : Env} {s : State} {m : MethodId} {args : Array Value} {below : List Frame} {meth : Method} {c : Code} {D : va_G} {cI cZ : ClassId} {a : Nat → Nat} {A : Nat → Prop} (C0 : Am p s m args meth c b_L_common (some .int) 4 R_L D [(cI, .int), (cZ, .boolean)]) (hA : ∀ q, s.heap.size ≤ q → A q) (hT : ∀ x ∈ c.exceptionTable.toList, False) (hl0 : l.stackTraces = false) (hZ : Zs A s s.heap) {v : Int32 ⊕ Nat} {u : StL} {K N : Nat}   {q : Nat} {σ : StL} {x1 x2 x3 : Int32} {kc ks mc ms : Nat} (h : f_L_common σ x1 x2 x3 = some (v, u, mc, ms)) (hkc : kc + mc = K) (hks : ks + ms = N) {H : Heap} {locs : List Loc} (hP : va_P D vwCl (wL cI cZ a q σ) H) (hD : va_D A (wL cI cZ a q σ)) (hS : va_S A s.heap H locs) {ls : Array Slot} (hl : lv_has ls 4 [(0, .ref (a 0)), (1, .int x1), (2, .int x2), (3, .int x3)]) : W p l e (rmK 9 141 K N) s m args below meth c H locs kc ks (TxQ below args s D A (fun q (σ : StL) => (wL cI cZ a q σ)) v u K N) (F0 m 0 ls []) := by
  obtain ⟨hx, hb, hr, hml, hown, hts, hlk, hK⟩ := id C0
  have hcs : kc ≤ K ∧ ks ≤ N := ⟨by omega, by omega⟩
  unfold f_L_common at h
  refine lv_aload_n hx hb d_L_common_0 rfl (lv_at hl 0 rfl) ?_
  refine lv_iload_n hx hb d_L_common_1 rfl (lv_at hl 1 rfl) ?_
  replace h := bd h
  obtain ⟨r1, g1, h⟩ := h
  try dsimp only at h
  replace h := ad_s h
  obtain ⟨mc, ms, h, rfl, rfl⟩ := h
  refine tx_Vv (n := 1) (ci := 0) (As := [.int x1]) (rest := []) (Wn := fun q => (wL cI cZ a q r1.2.1)) C0 hA hZ (c_L_requireType l D cI cZ a hl0 q σ x1 g1) wd_160 ⟨wd_161, wd_162, wd_163, wd_55⟩ (by decide +kernel) ⟨Nat.le_of_ble_eq_true rfl, Nat.le_of_ble_eq_true rfl⟩ hP hD hS [0, 1, 2, 3, 4, 5, 6, 7, 8, 9, 10, 11, 12, 13, 14, 15, 16, 17, 18, 19, 20] [] [0, 1, 2, 3, 4, 5, 6, 7, 8, 9, 10, 11, 12, 13, 14, 15, 16, 17, 18, 19, 20] jn_L__C (by decide) jn_L__R (by decide) (by decide) (by decide) jn_L__W rfl rfl rfl hl rfl rfl (Nat.le_of_ble_eq_true rfl) ⟨by show kc + _ ≤ K; omega, by show ks + _ ≤ N; omega⟩ d_L_common_2 (fun ek H locs q q9 ce hv hP hD hS h1 h2 h3 => ?_) (fun r1v H locs q hv hP hD hS => ?_)
  · rw [hv] at h
    cases h
    exact tx_out C0 hT hP hD hS h1 h2 h3 (by omega) (by omega)
  · rw [hv] at h
    try dsimp only at h
    have hkc : (kc + r1.2.2.1) + mc = K := by omega
    have hks : (ks + r1.2.2.2) + ms = N := by omega
    have hcs : (kc + r1.2.2.1) ≤ K ∧ (ks + r1.2.2.2) ≤ N := ⟨by omega, by omega⟩
    refine lv_aload_n hx hb d_L_common_5 rfl (lv_at hl 0 rfl) ?_
    refine lv_iload_n hx hb d_L_common_6 rfl (lv_at hl 2 rfl) ?_
    replace h := bd h
    obtain ⟨r2, g2, h⟩ := h
    try dsimp only at h
    replace h := ad_s h
    obtain ⟨mc, ms, h, rfl, rfl⟩ := h
    refine tx_Vv (n := 1) (ci := 0) (As := [.int x2]) (rest := []) (Wn := fun q => (wL cI cZ a q r2.2.1)) C0 hA hZ (c_L_requireType l D cI cZ a hl0 q r1.2.1 x2 g2) wd_160 ⟨wd_161, wd_162, wd_163, wd_55⟩ (by decide +kernel) ⟨Nat.le_of_ble_eq_true rfl, Nat.le_of_ble_eq_true rfl⟩ hP hD hS [0, 1, 2, 3, 4, 5, 6, 7, 8, 9, 10, 11, 12, 13, 14, 15, 16, 17, 18, 19, 20] [] [0, 1, 2, 3, 4, 5, 6, 7, 8, 9, 10, 11, 12, 13, 14, 15, 16, 17, 18, 19, 20] jn_L__C (by decide) jn_L__R (by decide) (by decide) (by decide) jn_L__W rfl rfl rfl hl rfl rfl (Nat.le_of_ble_eq_true rfl) ⟨by show (kc + r1.2.2.1) + _ ≤ K; omega, by show (ks + r1.2.2.2) + _ ≤ N; omega⟩ d_L_common_7 (fun ek H locs q q9 ce hv hP hD hS h1 h2 h3 => ?_) (fun r2v H locs q hv hP hD hS => ?_)
    · rw [hv] at h
      cases h
      exact tx_out C0 hT hP hD hS h1 h2 h3 (by omega) (by omega)
    · rw [hv] at h
      try dsimp only at h
      have hkc : ((kc + r1.2.2.1) + r2.2.2.1) + mc = K := by omega
      have hks : ((ks + r1.2.2.2) + r2.2.2.2) + ms = N := by omega
      have hcs : ((kc + r1.2.2.1) + r2.2.2.1) ≤ K ∧ ((ks + r1.2.2.2) + r2.2.2.2) ≤ N := ⟨by omega, by omega⟩
      refine lv_iload_n hx hb d_L_common_10 rfl (lv_at hl 3 rfl) ?_
      by_cases e11_0 : x3 = 0
      · rw [if_pos e11_0] at h
        refine lv_lookup (off := 25) (tgt := 36) hx hb d_L_common_11 (by decide) (by rw [e11_0]; rfl) (by decide) ?_
        refine lv_aload_n hx hb d_L_common_36 rfl (lv_at hl 0 rfl) ?_
        refine lv_iload_n hx hb d_L_common_37 rfl (lv_at hl 1 rfl) ?_
        refine lv_iload_n hx hb d_L_common_38 rfl (lv_at hl 2 rfl) ?_
        replace h := bd h
        obtain ⟨r3, g3, h⟩ := h
        refine ro_V (n := 2) (ci := 0) (As := [.int x1, .int x2]) (rest := []) C0 (c_L_commonOf l D cI cZ a q r2.2.1 x1 x2 g3) wd_248 ⟨wd_249, wd_250, wd_251, wd_55⟩ (by decide +kernel) ⟨Nat.le_of_ble_eq_true rfl, Nat.le_of_ble_eq_true rfl⟩ hP rfl rfl rfl hl rfl rfl (Nat.le_of_ble_eq_true rfl) hcs d_L_common_39 ?_
        try dsimp only at h
        refine ro_S (n := 1) (As := [.int r3]) (rest := []) C0 (c_J_bitCount l D cI cZ a r3 rfl) wd_326 ⟨wd_327, wd_328, wd_329⟩ (by decide +kernel) ⟨Nat.le_of_ble_eq_true rfl, Nat.le_of_ble_eq_true rfl⟩ pnil hl rfl rfl (Nat.le_of_ble_eq_true rfl) hcs d_L_common_42 ?_
        cases h; exact tx_ret C0 hP hD hS (by omega) (by omega) d_L_common_45
      · rw [if_neg e11_0] at h
        by_cases e11_1 : x3 = 1
        · rw [if_pos e11_1] at h
          refine lv_lookup (off := 35) (tgt := 46) hx hb d_L_common_11 (by decide) (by rw [e11_1]; rfl) (by decide) ?_
          refine lv_aload_n hx hb d_L_common_46 rfl (lv_at hl 0 rfl) ?_
          refine va_get (ci := 0) (v := .ref (a 3)) (C := R_L) (T := F_L) (N := 6) hx hb hts i_L hown hK.1 hP 0 rfl rfl 1 (by decide) (hts _ wd_67) (fun _ h9 => h9) rfl d_L_common_47 ?_
          refine lv_aload_n hx hb d_L_common_50 rfl (lv_at hl 0 rfl) ?_
          refine lv_iload_n hx hb d_L_common_51 rfl (lv_at hl 1 rfl) ?_
          refine lv_iload_n hx hb d_L_common_52 rfl (lv_at hl 2 rfl) ?_
          replace h := bd h
          obtain ⟨r4, g4, h⟩ := h
          refine ro_V (n := 2) (ci := 0) (As := [.int x1, .int x2]) (rest := [.ref (a 3)]) C0 (c_L_commonOf l D cI cZ a q r2.2.1 x1 x2 g4) wd_248 ⟨wd_249, wd_250, wd_251, wd_55⟩ (by decide +kernel) ⟨Nat.le_of_ble_eq_true rfl, Nat.le_of_ble_eq_true rfl⟩ hP rfl rfl rfl hl rfl rfl (Nat.le_of_ble_eq_true rfl) hcs d_L_common_53 ?_
          try dsimp only at h
          replace h := bd h
          obtain ⟨r5, g5, h⟩ := h
          refine ro_V (n := 1) (ci := 1) (As := [.int r4]) (rest := []) C0 (c_C_leastOf l D cI cZ a q (L_classes r2.2.1) r4 g5) wd_252 ⟨wd_253, wd_254, wd_255, wd_8⟩ (by decide +kernel) ⟨Nat.le_of_ble_eq_true rfl, Nat.le_of_ble_eq_true rfl⟩ (hP.pick [3, 4, 5, 6, 7, 8, 9] rfl) rfl rfl rfl hl rfl rfl (Nat.le_of_ble_eq_true rfl) hcs d_L_common_56 ?_
          try dsimp only at h
          refine ro_S (n := 1) (As := [.int r5]) (rest := []) C0 (c_J_bitCount l D cI cZ a r5 rfl) wd_326 ⟨wd_327, wd_328, wd_329⟩ (by decide +kernel) ⟨Nat.le_of_ble_eq_true rfl, Nat.le_of_ble_eq_true rfl⟩ pnil hl rfl rfl (Nat.le_of_ble_eq_true rfl) hcs d_L_common_59 ?_
          cases h; exact tx_ret C0 hP hD hS (by omega) (by omega) d_L_common_62
        · rw [if_neg e11_1] at h
          refine lv_lookup (off := 52) (tgt := 63) hx hb d_L_common_11 (by decide) (by show Op.lookupswitch.offset [(0, 25), (1, 35)] 52 _ = _; rw [lv_osw e11_0 (by decide), lv_osw e11_1 (by decide)]; rfl) (by decide) ?_
          cases h
          exact tx_throw (k := 3) C0 hT hl0 hZ hP hD hS wd_164 wd_165 (List.mem_of_getElem? (i := 12) rfl) th_3_87_91_a th_3_87_91_b thI_3 d_L_common_63 d_L_common_66 d_L_common_67 d_L_common_69 d_L_common_72 hl (Nat.le_of_ble_eq_true rfl) (Nat.le_of_ble_eq_true rfl) (by show ((kc + r1.2.2.1) + r2.2.2.1) + 1 ≤ K; omega) (by show ((ks + r1.2.2.2) + r2.2.2.2) + 6 ≤ N; omega) (by omega) (by omega)
set_option maxHeartbeats 4000000 in
set_option maxRecDepth 100000 in
theorem c_L_common (l : Launch) (D : va_G) (cI cZ : ClassId) (a : Nat → Nat) (hl0 : l.stackTraces = false) (q : Nat) (σ : StL) (x1 : Int32) (x2 : Int32) (x3 : Int32) {res : (Int32 ⊕ Nat) × StL × Nat × Nat} (h : f_L_common σ x1 x2 x3 = some res) : TxM l y_L_common b_L_common 4 (some .int) 9 141 D [(cI, .int), (cZ, .boolean)] [.ref (a 0), .int x1, .int x2, .int x3] (fun q (σ : StL) => (wL cI cZ a q σ)) q σ res :=
  tx_of (by decide) (Nat.le_of_ble_eq_true rfl) (fun p e s m args below meth c ls A C0 hA hT hZ hP hD hS hl => t_L_common_0 (a := a) (kc := 0) (ks := 0) C0 hA hT hl0 hZ h (Nat.zero_add _) (Nat.zero_add _) hP hD hS (lv_sub hl [0, 1, 2, 3] rfl))
-- part 07.5L.31L_isUnder.lean.txt
def f_L_isUnder (σ : StL) (x1 x2 : Int32) : Option ((Int32 ⊕ Nat) × StL × Nat × Nat) :=
  (f_L_requireClass σ x1).bind fun r1 => ad_ r1.2.2.1 r1.2.2.2 <| match r1.1 with
  | .inr e => some (.inr e, r1.2.1, 0, 0)
  | .inl r1v =>
  (f_L_requireClass r1.2.1 x2).bind fun r2 => ad_ r2.2.2.1 r2.2.2.2 <| match r2.1 with
  | .inr e => some (.inr e, r2.2.1, 0, 0)
  | .inl r2v =>
  (f_C_aboveOf (L_classes r2.2.1) x1).bind fun r3 =>
  some (.inl ((f_L_has r3 x2) &&& 1), r2.2.1, 0, 0)
set_option maxHeartbeats 4000000 in
set_option maxRecDepth 100000 in
theorem t_L_isUnder_0 {p : Program} {l : Launch} {e : Env} {s : State} {m : MethodId} {args : Array Value} {below : List Frame} {meth : Method} {c : Code} {D : va_G} {cI cZ : ClassId} {a : Nat → Nat} {A : Nat → Prop} (C0 : Am p s m args meth c b_L_isUnder (some .boolean) 3 R_L D [(cI, .int), (cZ, .boolean)]) (hA : ∀ q, s.heap.size ≤ q → A q) (hT : ∀ x ∈ c.exceptionTable.toList, False) (hl0 : l.stackTraces = false) (hZ : Zs A s s.heap) {v : Int32 ⊕ Nat} {u : StL} {K N : Nat}   {q : Nat} {σ : StL} {x1 x2 : Int32} {kc ks mc ms : Nat} (h : f_L_isUnder σ x1 x2 = some (v, u, mc, ms)) (hkc : kc + mc = K) (hks : ks + ms = N) {H : Heap} {locs : List Loc} (hP : va_P D vwCl (wL cI cZ a q σ) H) (hD : va_D A (wL cI cZ a q σ)) (hS : va_S A s.heap H locs) {ls : Array Slot} (hl : lv_has ls 3 [(0, .ref (a 0)), (1, .int x1), (2, .int x2)]) : W p l e (rmK 9 141 K N) s m args below meth c H locs kc ks (TxQ below args s D A (fun q (σ : StL) => (wL cI cZ a q σ)) v u K N) (F0 m 0 ls []) := by
  obtain ⟨hx, hb, hr, hml, hown, hts, hlk, hK⟩ := id C0
  have hcs : kc ≤ K ∧ ks ≤ N := ⟨by omega, by omega⟩
  unfold f_L_isUnder at h
  refine lv_aload_n hx hb d_L_isUnder_0 rfl (lv_at hl 0 rfl) ?_
  refine lv_iload_n hx hb d_L_isUnder_1 rfl (lv_at hl 1 rfl) ?_
  replace h := bd h
  obtain ⟨r1, g1, h⟩ := h
  try dsimp only at h
  replace h := ad_s h
  obtain ⟨mc, ms, h, rfl, rfl⟩ := h
  refine tx_Vv (n := 1) (ci := 0) (As := [.int x1]) (rest := []) (Wn := fun q => (wL cI cZ a q r1.2.1)) C0 hA hZ (c_L_requireClass l D cI cZ a hl0 q σ x1 g1) wd_134 ⟨wd_135, wd_136, wd_137, wd_55⟩ (by decide +kernel) ⟨Nat.le_of_ble_eq_true rfl, Nat.le_of_ble_eq_true rfl⟩ hP hD hS [0, 1, 2, 3, 4, 5, 6, 7, 8, 9, 10, 11, 12, 13, 14, 15, 16, 17, 18, 19, 20] [] [0, 1, 2, 3, 4, 5, 6, 7, 8, 9, 10, 11, 12, 13, 14, 15, 16, 17, 18, 19, 20] jn_L__C (by decide) jn_L__R (by decide) (by decide) (by decide) jn_L__W rfl rfl rfl hl rfl rfl (Nat.le_of_ble_eq_true rfl) ⟨by show kc + _ ≤ K; omega, by show ks + _ ≤ N; omega⟩ d_L_isUnder_2 (fun ek H locs q q9 ce hv hP hD hS h1 h2 h3 => ?_) (fun r1v H locs q hv hP hD hS => ?_)
  · rw [hv] at h
    cases h
    exact tx_out C0 hT hP hD hS h1 h2 h3 (by omega) (by omega)
  · rw [hv] at h
    try dsimp only at h
    have hkc : (kc + r1.2.2.1) + mc = K := by omega
    have hks : (ks + r1.2.2.2) + ms = N := by omega
    have hcs : (kc + r1.2.2.1) ≤ K ∧ (ks + r1.2.2.2) ≤ N := ⟨by omega, by omega⟩
    refine lv_aload_n hx hb d_L_isUnder_5 rfl (lv_at hl 0 rfl) ?_
    refine lv_iload_n hx hb d_L_isUnder_6 rfl (lv_at hl 2 rfl) ?_
    replace h := bd h
    obtain ⟨r2, g2, h⟩ := h
    try dsimp only at h
    replace h := ad_s h
    obtain ⟨mc, ms, h, rfl, rfl⟩ := h
    refine tx_Vv (n := 1) (ci := 0) (As := [.int x2]) (rest := []) (Wn := fun q => (wL cI cZ a q r2.2.1)) C0 hA hZ (c_L_requireClass l D cI cZ a hl0 q r1.2.1 x2 g2) wd_134 ⟨wd_135, wd_136, wd_137, wd_55⟩ (by decide +kernel) ⟨Nat.le_of_ble_eq_true rfl, Nat.le_of_ble_eq_true rfl⟩ hP hD hS [0, 1, 2, 3, 4, 5, 6, 7, 8, 9, 10, 11, 12, 13, 14, 15, 16, 17, 18, 19, 20] [] [0, 1, 2, 3, 4, 5, 6, 7, 8, 9, 10, 11, 12, 13, 14, 15, 16, 17, 18, 19, 20] jn_L__C (by decide) jn_L__R (by decide) (by decide) (by decide) jn_L__W rfl rfl rfl hl rfl rfl (Nat.le_of_ble_eq_true rfl) ⟨by show (kc + r1.2.2.1) + _ ≤ K; omega, by show (ks + r1.2.2.2) + _ ≤ N; omega⟩ d_L_isUnder_7 (fun ek H locs q q9 ce hv hP hD hS h1 h2 h3 => ?_) (fun r2v H locs q hv hP hD hS => ?_)
    · rw [hv] at h
      cases h
      exact tx_out C0 hT hP hD hS h1 h2 h3 (by omega) (by omega)
    · rw [hv] at h
      try dsimp only at h
      have hkc : ((kc + r1.2.2.1) + r2.2.2.1) + mc = K := by omega
      have hks : ((ks + r1.2.2.2) + r2.2.2.2) + ms = N := by omega
      have hcs : ((kc + r1.2.2.1) + r2.2.2.1) ≤ K ∧ ((ks + r1.2.2.2) + r2.2.2.2) ≤ N := ⟨by omega, by omega⟩
      refine lv_aload_n hx hb d_L_isUnder_10 rfl (lv_at hl 0 rfl) ?_
      refine va_get (ci := 0) (v := .ref (a 3)) (C := R_L) (T := F_L) (N := 6) hx hb hts i_L hown hK.1 hP 0 rfl rfl 1 (by decide) (hts _ wd_67) (fun _ h9 => h9) rfl d_L_isUnder_11 ?_
      refine lv_iload_n hx hb d_L_isUnder_14 rfl (lv_at hl 1 rfl) ?_
      replace h := bd h
      obtain ⟨r3, g3, h⟩ := h
      refine ro_V (n := 1) (ci := 1) (As := [.int x1]) (rest := []) C0 (c_C_aboveOf l D cI cZ a q (L_classes r2.2.1) x1 g3) wd_330 ⟨wd_120, wd_121, wd_122, wd_8⟩ (by decide +kernel) ⟨Nat.le_of_ble_eq_true rfl, Nat.le_of_ble_eq_true rfl⟩ (hP.pick [3, 4, 5, 6, 7, 8, 9] rfl) rfl rfl rfl hl rfl rfl (Nat.le_of_ble_eq_true rfl) hcs d_L_isUnder_15 ?_
      try dsimp only at h
      refine lv_iload_n hx hb d_L_isUnder_18 rfl (lv_at hl 2 rfl) ?_
      refine ro_S (n := 2) (As := [.int r3, .int x2]) (rest := []) C0 (c_L_has l D cI cZ a r3 x2 rfl) wd_261 ⟨wd_104, wd_105, wd_55⟩ (by decide +kernel) ⟨Nat.le_of_ble_eq_true rfl, Nat.le_of_ble_eq_true rfl⟩ pnil hl rfl rfl (Nat.le_of_ble_eq_true rfl) hcs d_L_isUnder_19 ?_
      cases h; exact tx_retz C0 hP hD hS rfl (by omega) (by omega) d_L_isUnder_22
set_option maxHeartbeats 4000000 in
set_option maxRecDepth 100000 in
theorem c_L_isUnder (l : Launch) (D : va_G) (cI cZ : ClassId) (a : Nat → Nat) (hl0 : l.stackTraces = false) (q : Nat) (σ : StL) (x1 : Int32) (x2 : Int32) {res : (Int32 ⊕ Nat) × StL × Nat × Nat} (h : f_L_isUnder σ x1 x2 = some res) : TxM l y_L_isUnder b_L_isUnder 3 (some .boolean) 9 141 D [(cI, .int), (cZ, .boolean)] [.ref (a 0), .int x1, .int x2] (fun q (σ : StL) => (wL cI cZ a q σ)) q σ res :=
  tx_of (by decide) (Nat.le_of_ble_eq_true rfl) (fun p e s m args below meth c ls A C0 hA hT hZ hP hD hS hl => t_L_isUnder_0 (a := a) (kc := 0) (ks := 0) C0 hA hT hl0 hZ h (Nat.zero_add _) (Nat.zero_add _) hP hD hS (lv_sub hl [0, 1, 2] rfl))
-- part 07.5L.32L_classed.lean.txt
def f_L_classed (σ : StL) (x1 x2 : Int32) : Option ((Int32 ⊕ Nat) × StL × Nat × Nat) :=
  (f_L_requireClass σ x1).bind fun r1 => ad_ r1.2.2.1 r1.2.2.2 <| match r1.1 with
  | .inr e => some (.inr e, r1.2.1, 0, 0)
  | .inl r1v =>
  if x2 = 0 then
    (f_C_isFace (L_classes r1.2.1) x1).bind fun r2 =>
    if r2 = 0 then
      some (.inl 0, r1.2.1, 0, 0)
    else
      some (.inl 1, r1.2.1, 0, 0)
  else if x2 = 1 then
    (f_C_isGeneric (L_classes r1.2.1) x1).bind fun r3 =>
    if r3 = 0 then
      some (.inl 0, r1.2.1, 0, 0)
    else
      some (.inl 1, r1.2.1, 0, 0)
  else if x2 = 2 then
    (f_C_countDirect (L_classes r1.2.1) x1).bind fun r4 =>
    some (.inl r4, r1.2.1, 0, 0)
  else if x2 = 3 then
    (f_C_aboveOf (L_classes r1.2.1) x1).bind fun r5 =>
    some (.inl (f_J_bitCount r5), r1.2.1, 0, 0)
  else some (.inr 3, r1.2.1, 1, 6)
set_option maxHeartbeats 4000000 in
set_option maxRecDepth 100000 in
theorem t_L_classed_0 {p : Program} {l : Launch} {e : Env} {s : State} {m : MethodId} {args : Array Value} {below : List Frame} {meth : Method} {c : Code} {D : va_G} {cI cZ : ClassId} {a : Nat → Nat} {A : Nat → Prop} (C0 : Am p s m args meth c b_L_classed (some .int) 3 R_L D [(cI, .int), (cZ, .boolean)]) (hA : ∀ q, s.heap.size ≤ q → A q) (hT : ∀ x ∈ c.exceptionTable.toList, False) (hl0 : l.stackTraces = false) (hZ : Zs A s s.heap) {v : Int32 ⊕ Nat} {u : StL} {K N : Nat}   {q : Nat} {σ : StL} {x1 x2 : Int32} {kc ks mc ms : Nat} (h : f_L_classed σ x1 x2 = some (v, u, mc, ms)) (hkc : kc + mc = K) (hks : ks + ms = N) {H : Heap} {locs : List Loc} (hP : va_P D vwCl (wL cI cZ a q σ) H) (hD : va_D A (wL cI cZ a q σ)) (hS : va_S A s.heap H locs) {ls : Array Slot} (hl : lv_has ls 3 [(0, .ref (a 0)), (1, .int x1), (2, .int x2)]) : W p l e (rmK 9 141 K N) s m args below meth c H locs kc ks (TxQ below args s D A (fun q (σ : StL) => (wL cI cZ a q σ)) v u K N) (F0 m 0 ls []) := by
  obtain ⟨hx, hb, hr, hml, hown, hts, hlk, hK⟩ := id C0
  have hcs : kc ≤ K ∧ ks ≤ N := ⟨by omega, by omega⟩
  unfold f_L_classed at h
  refine lv_aload_n hx hb d_L_classed_0 rfl (lv_at hl 0 rfl) ?_
  refine lv_iload_n hx hb d_L_classed_1 rfl (lv_at hl 1 rfl) ?_
  replace h := bd h
  obtain ⟨r1, g1, h⟩ := h
  try dsimp only at h
  replace h := ad_s h
  obtain ⟨mc, ms, h, rfl, rfl⟩ := h
  refine tx_Vv (n := 1) (ci := 0) (As := [.int x1]) (rest := []) (Wn := fun q => (wL cI cZ a q r1.2.1)) C0 hA hZ (c_L_requireClass l D cI cZ a hl0 q σ x1 g1) wd_134 ⟨wd_135, wd_136, wd_137, wd_55⟩ (by decide +kernel) ⟨Nat.le_of_ble_eq_true rfl, Nat.le_of_ble_eq_true rfl⟩ hP hD hS [0, 1, 2, 3, 4, 5, 6, 7, 8, 9, 10, 11, 12, 13, 14, 15, 16, 17, 18, 19, 20] [] [0, 1, 2, 3, 4, 5, 6, 7, 8, 9, 10, 11, 12, 13, 14, 15, 16, 17, 18, 19, 20] jn_L__C (by decide) jn_L__R (by decide) (by decide) (by decide) jn_L__W rfl rfl rfl hl rfl rfl (Nat.le_of_ble_eq_true rfl) ⟨by show kc + _ ≤ K; omega, by show ks + _ ≤ N; omega⟩ d_L_classed_2 (fun ek H locs q q9 ce hv hP hD hS h1 h2 h3 => ?_) (fun r1v H locs q hv hP hD hS => ?_)
  · rw [hv] at h
    cases h
    exact tx_out C0 hT hP hD hS h1 h2 h3 (by omega) (by omega)
  · rw [hv] at h
    try dsimp only at h
    have hkc : (kc + r1.2.2.1) + mc = K := by omega
    have hks : (ks + r1.2.2.2) + ms = N := by omega
    have hcs : (kc + r1.2.2.1) ≤ K ∧ (ks + r1.2.2.2) ≤ N := ⟨by omega, by omega⟩
    refine lv_iload_n hx hb d_L_classed_5 rfl (lv_at hl 2 rfl) ?_
    by_cases e6_0 : x2 = 0
    · rw [if_pos e6_0] at h
      refine lv_tableIn (off := 30) (tgt := 36) hx hb d_L_classed_6 (by rw [e6_0]; decide) (by rw [e6_0]; decide) (by rw [e6_0]; rfl) (by decide) ?_
      refine lv_aload_n hx hb d_L_classed_36 rfl (lv_at hl 0 rfl) ?_
      refine va_get (ci := 0) (v := .ref (a 3)) (C := R_L) (T := F_L) (N := 6) hx hb hts i_L hown hK.1 hP 0 rfl rfl 1 (by decide) (hts _ wd_67) (fun _ h9 => h9) rfl d_L_classed_37 ?_
      refine lv_iload_n hx hb d_L_classed_40 rfl (lv_at hl 1 rfl) ?_
      replace h := bd h
      obtain ⟨r2, g2, h⟩ := h
      refine ro_V (n := 1) (ci := 1) (As := [.int x1]) (rest := []) C0 (c_C_isFace l D cI cZ a q (L_classes r1.2.1) x1 g2) wd_312 ⟨wd_33, wd_34, wd_35, wd_8⟩ (by decide +kernel) ⟨Nat.le_of_ble_eq_true rfl, Nat.le_of_ble_eq_true rfl⟩ (hP.pick [3, 4, 5, 6, 7, 8, 9] rfl) rfl rfl rfl hl rfl rfl (Nat.le_of_ble_eq_true rfl) hcs d_L_classed_41 ?_
      try dsimp only at h
      refine lv_if_eq (tgt := 51) hx hb d_L_classed_44 (by decide) (fun hc => ?_) (fun hc => ?_)
      · rw [if_pos hc] at h
        refine lv_iconst (v := 0) hx hb d_L_classed_51 (by decide) ?_
        cases h; exact tx_ret C0 hP hD hS (by omega) (by omega) d_L_classed_52
      · rw [if_neg hc] at h
        refine lv_iconst (v := 1) hx hb d_L_classed_47 (by decide) ?_
        refine lv_goto (tgt := 52) hx hb d_L_classed_48 (by decide) ?_
        cases h; exact tx_ret C0 hP hD hS (by omega) (by omega) d_L_classed_52
    · rw [if_neg e6_0] at h
      by_cases e6_1 : x2 = 1
      · rw [if_pos e6_1] at h
        refine lv_tableIn (off := 47) (tgt := 53) hx hb d_L_classed_6 (by rw [e6_1]; decide) (by rw [e6_1]; decide) (by rw [e6_1]; rfl) (by decide) ?_
        refine lv_aload_n hx hb d_L_classed_53 rfl (lv_at hl 0 rfl) ?_
        refine va_get (ci := 0) (v := .ref (a 3)) (C := R_L) (T := F_L) (N := 6) hx hb hts i_L hown hK.1 hP 0 rfl rfl 1 (by decide) (hts _ wd_67) (fun _ h9 => h9) rfl d_L_classed_54 ?_
        refine lv_iload_n hx hb d_L_classed_57 rfl (lv_at hl 1 rfl) ?_
        replace h := bd h
        obtain ⟨r3, g3, h⟩ := h
        refine ro_V (n := 1) (ci := 1) (As := [.int x1]) (rest := []) C0 (c_C_isGeneric l D cI cZ a q (L_classes r1.2.1) x1 g3) wd_95 ⟨wd_96, wd_97, wd_98, wd_8⟩ (by decide +kernel) ⟨Nat.le_of_ble_eq_true rfl, Nat.le_of_ble_eq_true rfl⟩ (hP.pick [3, 4, 5, 6, 7, 8, 9] rfl) rfl rfl rfl hl rfl rfl (Nat.le_of_ble_eq_true rfl) hcs d_L_classed_58 ?_
        try dsimp only at h
        refine lv_if_eq (tgt := 68) hx hb d_L_classed_61 (by decide) (fun hc => ?_) (fun hc => ?_)
        · rw [if_pos hc] at h
          refine lv_iconst (v := 0) hx hb d_L_classed_68 (by decide) ?_
          cases h; exact tx_ret C0 hP hD hS (by omega) (by omega) d_L_classed_69
        · rw [if_neg hc] at h
          refine lv_iconst (v := 1) hx hb d_L_classed_64 (by decide) ?_
          refine lv_goto (tgt := 69) hx hb d_L_classed_65 (by decide) ?_
          cases h; exact tx_ret C0 hP hD hS (by omega) (by omega) d_L_classed_69
      · rw [if_neg e6_1] at h
        by_cases e6_2 : x2 = 2
        · rw [if_pos e6_2] at h
          refine lv_tableIn (off := 64) (tgt := 70) hx hb d_L_classed_6 (by rw [e6_2]; decide) (by rw [e6_2]; decide) (by rw [e6_2]; rfl) (by decide) ?_
          refine lv_aload_n hx hb d_L_classed_70 rfl (lv_at hl 0 rfl) ?_
          refine va_get (ci := 0) (v := .ref (a 3)) (C := R_L) (T := F_L) (N := 6) hx hb hts i_L hown hK.1 hP 0 rfl rfl 1 (by decide) (hts _ wd_67) (fun _ h9 => h9) rfl d_L_classed_71 ?_
          refine lv_iload_n hx hb d_L_classed_74 rfl (lv_at hl 1 rfl) ?_
          replace h := bd h
          obtain ⟨r4, g4, h⟩ := h
          refine ro_V (n := 1) (ci := 1) (As := [.int x1]) (rest := []) C0 (c_C_countDirect l D cI cZ a q (L_classes r1.2.1) x1 g4) wd_331 ⟨wd_37, wd_38, wd_39, wd_8⟩ (by decide +kernel) ⟨Nat.le_of_ble_eq_true rfl, Nat.le_of_ble_eq_true rfl⟩ (hP.pick [3, 4, 5, 6, 7, 8, 9] rfl) rfl rfl rfl hl rfl rfl (Nat.le_of_ble_eq_true rfl) hcs d_L_classed_75 ?_
          try dsimp only at h
          cases h; exact tx_ret C0 hP hD hS (by omega) (by omega) d_L_classed_78
        · rw [if_neg e6_2] at h
          by_cases e6_3 : x2 = 3
          · rw [if_pos e6_3] at h
            refine lv_tableIn (off := 73) (tgt := 79) hx hb d_L_classed_6 (by rw [e6_3]; decide) (by rw [e6_3]; decide) (by rw [e6_3]; rfl) (by decide) ?_
            refine lv_aload_n hx hb d_L_classed_79 rfl (lv_at hl 0 rfl) ?_
            refine va_get (ci := 0) (v := .ref (a 3)) (C := R_L) (T := F_L) (N := 6) hx hb hts i_L hown hK.1 hP 0 rfl rfl 1 (by decide) (hts _ wd_67) (fun _ h9 => h9) rfl d_L_classed_80 ?_
            refine lv_iload_n hx hb d_L_classed_83 rfl (lv_at hl 1 rfl) ?_
            replace h := bd h
            obtain ⟨r5, g5, h⟩ := h
            refine ro_V (n := 1) (ci := 1) (As := [.int x1]) (rest := []) C0 (c_C_aboveOf l D cI cZ a q (L_classes r1.2.1) x1 g5) wd_330 ⟨wd_120, wd_121, wd_122, wd_8⟩ (by decide +kernel) ⟨Nat.le_of_ble_eq_true rfl, Nat.le_of_ble_eq_true rfl⟩ (hP.pick [3, 4, 5, 6, 7, 8, 9] rfl) rfl rfl rfl hl rfl rfl (Nat.le_of_ble_eq_true rfl) hcs d_L_classed_84 ?_
            try dsimp only at h
            refine ro_S (n := 1) (As := [.int r5]) (rest := []) C0 (c_J_bitCount l D cI cZ a r5 rfl) wd_326 ⟨wd_327, wd_328, wd_329⟩ (by decide +kernel) ⟨Nat.le_of_ble_eq_true rfl, Nat.le_of_ble_eq_true rfl⟩ pnil hl rfl rfl (Nat.le_of_ble_eq_true rfl) hcs d_L_classed_87 ?_
            cases h; exact tx_ret C0 hP hD hS (by omega) (by omega) d_L_classed_90
          · rw [if_neg e6_3] at h
            refine lv_tableOut (tgt := 91) hx hb d_L_classed_6 (by have n0 := lv_neT (a := 0) e6_0 (by decide); have n1 := lv_neT (a := 1) e6_1 (by decide); have n2 := lv_neT (a := 2) e6_2 (by decide); have n3 := lv_neT (a := 3) e6_3 (by decide); omega) (by decide) ?_
            cases h
            exact tx_throw (k := 3) C0 hT hl0 hZ hP hD hS wd_164 wd_165 (List.mem_of_getElem? (i := 13) rfl) th_3_87_91_a th_3_87_91_b thI_3 d_L_classed_91 d_L_classed_94 d_L_classed_95 d_L_classed_97 d_L_classed_100 hl (Nat.le_of_ble_eq_true rfl) (Nat.le_of_ble_eq_true rfl) (by show (kc + r1.2.2.1) + 1 ≤ K; omega) (by show (ks + r1.2.2.2) + 6 ≤ N; omega) (by omega) (by omega)
set_option maxHeartbeats 4000000 in
set_option maxRecDepth 100000 in
theorem c_L_classed (l : Launch) (D : va_G) (cI cZ : ClassId) (a : Nat → Nat) (hl0 : l.stackTraces = false) (q : Nat) (σ : StL) (x1 : Int32) (x2 : Int32) {res : (Int32 ⊕ Nat) × StL × Nat × Nat} (h : f_L_classed σ x1 x2 = some res) : TxM l y_L_classed b_L_classed 3 (some .int) 9 141 D [(cI, .int), (cZ, .boolean)] [.ref (a 0), .int x1, .int x2] (fun q (σ : StL) => (wL cI cZ a q σ)) q σ res :=
  tx_of (by decide) (Nat.le_of_ble_eq_true rfl) (fun p e s m args below meth c ls A C0 hA hT hZ hP hD hS hl => t_L_classed_0 (a := a) (kc := 0) (ks := 0) C0 hA hT hl0 hZ h (Nat.zero_add _) (Nat.zero_add _) hP hD hS (lv_sub hl [0, 1, 2] rfl))
-- part 07.5L.33L_direct.lean.txt
def f_L_direct_21 (σ : StL) : Option ((Int32 ⊕ Nat) × StL × Nat × Nat) :=
  some (.inr 1, σ, 1, 6)
def f_L_direct (σ : StL) (x1 x2 x3 : Int32) : Option ((Int32 ⊕ Nat) × StL × Nat × Nat) :=
  (f_L_requireClass σ x1).bind fun r1 => ad_ r1.2.2.1 r1.2.2.2 <| match r1.1 with
  | .inr e => some (.inr e, r1.2.1, 0, 0)
  | .inl r1v =>
  if x2 < 0 then
    f_L_direct_21 r1.2.1
  else
    (f_C_countDirect (L_classes r1.2.1) x1).bind fun r2 =>
    if x2 < r2 then
      if x3 = 0 then
        (f_C_directAt (L_classes r1.2.1) x1 x2).bind fun r3 =>
        some (.inl r3, r1.2.1, 0, 0)
      else if x3 = 1 then
        (f_C_toldAt (L_classes r1.2.1) x1 x2).bind fun r4 =>
        some (.inl r4, r1.2.1, 0, 0)
      else some (.inr 3, r1.2.1, 1, 6)
    else
      f_L_direct_21 r1.2.1
set_option maxHeartbeats 4000000 in
set_option maxRecDepth 100000 in
theorem t_L_direct_21 {p : Program} {l : Launch} {e : Env} {s : State} {m : MethodId} {args : Array Value} {below : List Frame} {meth : Method} {c : Code} {D : va_G} {cI cZ : ClassId} {a : Nat → Nat} {A : Nat → Prop} (C0 : Am p s m args meth c b_L_direct (some .int) 4 R_L D [(cI, .int), (cZ, .boolean)]) (hA : ∀ q, s.heap.size ≤ q → A q) (hT : ∀ x ∈ c.exceptionTable.toList, False) (hl0 : l.stackTraces = false) (hZ : Zs A s s.heap) {v : Int32 ⊕ Nat} {u : StL} {K N : Nat}   {q : Nat} {σ : StL} {kc ks mc ms : Nat} (h : f_L_direct_21 σ = some (v, u, mc, ms)) (hkc : kc + mc = K) (hks : ks + ms = N) {H : Heap} {locs : List Loc} (hP : va_P D vwCl (wL cI cZ a q σ) H) (hD : va_D A (wL cI cZ a q σ)) (hS : va_S A s.heap H locs) {ls : Array Slot} (hl : lv_has ls 4 []) : W p l e (rmK 9 141 K N) s m args below meth c H locs kc ks (TxQ below args s D A (fun q (σ : StL) => (wL cI cZ a q σ)) v u K N) (F0 m 21 ls []) := by
  obtain ⟨hx, hb, hr, hml, hown, hts, hlk, hK⟩ := id C0
  have hcs : kc ≤ K ∧ ks ≤ N := ⟨by omega, by omega⟩
  unfold f_L_direct_21 at h
  cases h
  exact tx_throw (k := 1) C0 hT hl0 hZ hP hD hS wd_83 wd_84 (List.mem_of_getElem? (i := 14) rfl) th_1_176_180_a th_1_176_180_b thI_1 d_L_direct_21 d_L_direct_24 d_L_direct_25 d_L_direct_27 d_L_direct_30 hl (Nat.le_of_ble_eq_true rfl) (Nat.le_of_ble_eq_true rfl) (by show kc + 1 ≤ K; omega) (by show ks + 6 ≤ N; omega) (by omega) (by omega)
set_option maxHeartbeats 4000000 in
set_option maxRecDepth 100000 in
theorem t_L_direct_0 {p : Program} {l : Launch} {e : Env} {s : State} {m : MethodId} {args : Array Value} {below : List Frame} {meth : Method} {c : Code} {D : va_G} {cI cZ : ClassId} {a : Nat → Nat} {A : Nat → Prop} (C0 : Am p s m args meth c b_L_direct (some .int) 4 R_L D [(cI, .int), (cZ, .boolean)]) (hA : ∀ q, s.heap.size ≤ q → A q) (hT : ∀ x ∈ c.exceptionTable.toList, False) (hl0 : l.stackTraces = false) (hZ : Zs A s s.heap) {v : Int32 ⊕ Nat} {u : StL} {K N : Nat}   {q : Nat} {σ : StL} {x1 x2 x3 : Int32} {kc ks mc ms : Nat} (h : f_L_direct σ x1 x2 x3 = some (v, u, mc, ms)) (hkc : kc + mc = K) (hks : ks + ms = N) {H : Heap} {locs : List Loc} (hP : va_P D vwCl (wL cI cZ a q σ) H) (hD : va_D A (wL cI cZ a q σ)) (hS : va_S A s.heap H locs) {ls : Array Slot} (hl : lv_has ls 4 [(0, .ref (a 0)), (1, .int x1), (2, .int x2), (3, .int x3)]) : W p l e (rmK 9 141 K N) s m args below meth c H locs kc ks (TxQ below args s D A (fun q (σ : StL) => (wL cI cZ a q σ)) v u K N) (F0 m 0 ls []) := by
  obtain ⟨hx, hb, hr, hml, hown, hts, hlk, hK⟩ := id C0
  have hcs : kc ≤ K ∧ ks ≤ N := ⟨by omega, by omega⟩
  unfold f_L_direct at h
  refine lv_aload_n hx hb d_L_direct_0 rfl (lv_at hl 0 rfl) ?_
  refine lv_iload_n hx hb d_L_direct_1 rfl (lv_at hl 1 rfl) ?_
  replace h := bd h
  obtain ⟨r1, g1, h⟩ := h
  try dsimp only at h
  replace h := ad_s h
  obtain ⟨mc, ms, h, rfl, rfl⟩ := h
  refine tx_Vv (n := 1) (ci := 0) (As := [.int x1]) (rest := []) (Wn := fun q => (wL cI cZ a q r1.2.1)) C0 hA hZ (c_L_requireClass l D cI cZ a hl0 q σ x1 g1) wd_134 ⟨wd_135, wd_136, wd_137, wd_55⟩ (by decide +kernel) ⟨Nat.le_of_ble_eq_true rfl, Nat.le_of_ble_eq_true rfl⟩ hP hD hS [0, 1, 2, 3, 4, 5, 6, 7, 8, 9, 10, 11, 12, 13, 14, 15, 16, 17, 18, 19, 20] [] [0, 1, 2, 3, 4, 5, 6, 7, 8, 9, 10, 11, 12, 13, 14, 15, 16, 17, 18, 19, 20] jn_L__C (by decide) jn_L__R (by decide) (by decide) (by decide) jn_L__W rfl rfl rfl hl rfl rfl (Nat.le_of_ble_eq_true rfl) ⟨by show kc + _ ≤ K; omega, by show ks + _ ≤ N; omega⟩ d_L_direct_2 (fun ek H locs q q9 ce hv hP hD hS h1 h2 h3 => ?_) (fun r1v H locs q hv hP hD hS => ?_)
  · rw [hv] at h
    cases h
    exact tx_out C0 hT hP hD hS h1 h2 h3 (by omega) (by omega)
  · rw [hv] at h
    try dsimp only at h
    have hkc : (kc + r1.2.2.1) + mc = K := by omega
    have hks : (ks + r1.2.2.2) + ms = N := by omega
    have hcs : (kc + r1.2.2.1) ≤ K ∧ (ks + r1.2.2.2) ≤ N := ⟨by omega, by omega⟩
    refine lv_iload_n hx hb d_L_direct_5 rfl (lv_at hl 2 rfl) ?_
    refine lv_if_lt (tgt := 21) hx hb d_L_direct_6 (by decide) (fun hc => ?_) (fun hc => ?_)
    · rw [if_pos hc] at h
      exact t_L_direct_21 (a := a) C0 hA hT hl0 hZ  h hkc hks hP hD hS (lv_sub hl [] rfl)
    · rw [if_neg hc] at h
      refine lv_iload_n hx hb d_L_direct_9 rfl (lv_at hl 2 rfl) ?_
      refine lv_aload_n hx hb d_L_direct_10 rfl (lv_at hl 0 rfl) ?_
      refine va_get (ci := 0) (v := .ref (a 3)) (C := R_L) (T := F_L) (N := 6) hx hb hts i_L hown hK.1 hP 0 rfl rfl 1 (by decide) (hts _ wd_67) (fun _ h9 => h9) rfl d_L_direct_11 ?_
      refine lv_iload_n hx hb d_L_direct_14 rfl (lv_at hl 1 rfl) ?_
      replace h := bd h
      obtain ⟨r2, g2, h⟩ := h
      refine ro_V (n := 1) (ci := 1) (As := [.int x1]) (rest := [.int x2]) C0 (c_C_countDirect l D cI cZ a q (L_classes r1.2.1) x1 g2) wd_331 ⟨wd_37, wd_38, wd_39, wd_8⟩ (by decide +kernel) ⟨Nat.le_of_ble_eq_true rfl, Nat.le_of_ble_eq_true rfl⟩ (hP.pick [3, 4, 5, 6, 7, 8, 9] rfl) rfl rfl rfl hl rfl rfl (Nat.le_of_ble_eq_true rfl) hcs d_L_direct_15 ?_
      try dsimp only at h
      refine lv_icmp_lt (tgt := 31) hx hb d_L_direct_18 (by decide) (fun hc => ?_) (fun hc => ?_)
      · rw [if_pos hc] at h
        refine lv_iload_n hx hb d_L_direct_31 rfl (lv_at hl 3 rfl) ?_
        by_cases e32_0 : x3 = 0
        · rw [if_pos e32_0] at h
          refine lv_lookup (off := 28) (tgt := 60) hx hb d_L_direct_32 (by decide) (by rw [e32_0]; rfl) (by decide) ?_
          refine lv_aload_n hx hb d_L_direct_60 rfl (lv_at hl 0 rfl) ?_
          refine va_get (ci := 0) (v := .ref (a 3)) (C := R_L) (T := F_L) (N := 6) hx hb hts i_L hown hK.1 hP 0 rfl rfl 1 (by decide) (hts _ wd_67) (fun _ h9 => h9) rfl d_L_direct_61 ?_
          refine lv_iload_n hx hb d_L_direct_64 rfl (lv_at hl 1 rfl) ?_
          refine lv_iload_n hx hb d_L_direct_65 rfl (lv_at hl 2 rfl) ?_
          replace h := bd h
          obtain ⟨r3, g3, h⟩ := h
          refine ro_V (n := 2) (ci := 1) (As := [.int x1, .int x2]) (rest := []) C0 (c_C_directAt l D cI cZ a q (L_classes r1.2.1) x1 x2 g3) wd_332 ⟨wd_88, wd_89, wd_90, wd_8⟩ (by decide +kernel) ⟨Nat.le_of_ble_eq_true rfl, Nat.le_of_ble_eq_true rfl⟩ (hP.pick [3, 4, 5, 6, 7, 8, 9] rfl) rfl rfl rfl hl rfl rfl (Nat.le_of_ble_eq_true rfl) hcs d_L_direct_66 ?_
          try dsimp only at h
          cases h; exact tx_ret C0 hP hD hS (by omega) (by omega) d_L_direct_69
        · rw [if_neg e32_0] at h
          by_cases e32_1 : x3 = 1
          · rw [if_pos e32_1] at h
            refine lv_lookup (off := 38) (tgt := 70) hx hb d_L_direct_32 (by decide) (by rw [e32_1]; rfl) (by decide) ?_
            refine lv_aload_n hx hb d_L_direct_70 rfl (lv_at hl 0 rfl) ?_
            refine va_get (ci := 0) (v := .ref (a 3)) (C := R_L) (T := F_L) (N := 6) hx hb hts i_L hown hK.1 hP 0 rfl rfl 1 (by decide) (hts _ wd_67) (fun _ h9 => h9) rfl d_L_direct_71 ?_
            refine lv_iload_n hx hb d_L_direct_74 rfl (lv_at hl 1 rfl) ?_
            refine lv_iload_n hx hb d_L_direct_75 rfl (lv_at hl 2 rfl) ?_
            replace h := bd h
            obtain ⟨r4, g4, h⟩ := h
            refine ro_V (n := 2) (ci := 1) (As := [.int x1, .int x2]) (rest := []) C0 (c_C_toldAt l D cI cZ a q (L_classes r1.2.1) x1 x2 g4) wd_333 ⟨wd_113, wd_114, wd_115, wd_8⟩ (by decide +kernel) ⟨Nat.le_of_ble_eq_true rfl, Nat.le_of_ble_eq_true rfl⟩ (hP.pick [3, 4, 5, 6, 7, 8, 9] rfl) rfl rfl rfl hl rfl rfl (Nat.le_of_ble_eq_true rfl) hcs d_L_direct_76 ?_
            try dsimp only at h
            cases h; exact tx_ret C0 hP hD hS (by omega) (by omega) d_L_direct_79
          · rw [if_neg e32_1] at h
            refine lv_lookup (off := 48) (tgt := 80) hx hb d_L_direct_32 (by decide) (by show Op.lookupswitch.offset [(0, 28), (1, 38)] 48 _ = _; rw [lv_osw e32_0 (by decide), lv_osw e32_1 (by decide)]; rfl) (by decide) ?_
            cases h
            exact tx_throw (k := 3) C0 hT hl0 hZ hP hD hS wd_164 wd_165 (List.mem_of_getElem? (i := 12) rfl) th_3_87_91_a th_3_87_91_b thI_3 d_L_direct_80 d_L_direct_83 d_L_direct_84 d_L_direct_86 d_L_direct_89 hl (Nat.le_of_ble_eq_true rfl) (Nat.le_of_ble_eq_true rfl) (by show (kc + r1.2.2.1) + 1 ≤ K; omega) (by show (ks + r1.2.2.2) + 6 ≤ N; omega) (by omega) (by omega)
      · rw [if_neg hc] at h
        exact t_L_direct_21 (a := a) C0 hA hT hl0 hZ  h hkc hks hP hD hS (lv_sub hl [] rfl)
set_option maxHeartbeats 4000000 in
set_option maxRecDepth 100000 in
theorem c_L_direct (l : Launch) (D : va_G) (cI cZ : ClassId) (a : Nat → Nat) (hl0 : l.stackTraces = false) (q : Nat) (σ : StL) (x1 : Int32) (x2 : Int32) (x3 : Int32) {res : (Int32 ⊕ Nat) × StL × Nat × Nat} (h : f_L_direct σ x1 x2 x3 = some res) : TxM l y_L_direct b_L_direct 4 (some .int) 9 141 D [(cI, .int), (cZ, .boolean)] [.ref (a 0), .int x1, .int x2, .int x3] (fun q (σ : StL) => (wL cI cZ a q σ)) q σ res :=
  tx_of (by decide) (Nat.le_of_ble_eq_true rfl) (fun p e s m args below meth c ls A C0 hA hT hZ hP hD hS hl => t_L_direct_0 (a := a) (kc := 0) (ks := 0) C0 hA hT hl0 hZ h (Nat.zero_add _) (Nat.zero_add _) hP hD hS (lv_sub hl [0, 1, 2, 3] rfl))
-- part 07.5L.34L_told.lean.txt
def f_L_told (σ : StL) (x1 : Int32) : Option ((Int32 ⊕ Nat) × StL × Nat × Nat) :=
  if x1 = 0 then
    some (.inl (f_C_count (L_classes σ)), σ, 0, 0)
  else if x1 = 1 then
    some (.inl (f_C_countGeneric (L_classes σ)), σ, 0, 0)
  else if x1 = 2 then
    some (.inl (f_T_count (L_types σ)), σ, 0, 0)
  else if x1 = 3 then
    some (.inl (L_depth σ), σ, 0, 0)
  else some (.inr 3, σ, 1, 6)
set_option maxHeartbeats 4000000 in
set_option maxRecDepth 100000 in
theorem t_L_told_0 {p : Program} {l : Launch} {e : Env} {s : State} {m : MethodId} {args : Array Value} {below : List Frame} {meth : Method} {c : Code} {D : va_G} {cI cZ : ClassId} {a : Nat → Nat} {A : Nat → Prop} (C0 : Am p s m args meth c b_L_told (some .int) 2 R_L D [(cI, .int), (cZ, .boolean)]) (hA : ∀ q, s.heap.size ≤ q → A q) (hT : ∀ x ∈ c.exceptionTable.toList, False) (hl0 : l.stackTraces = false) (hZ : Zs A s s.heap) {v : Int32 ⊕ Nat} {u : StL} {K N : Nat}   {q : Nat} {σ : StL} {x1 : Int32} {kc ks mc ms : Nat} (h : f_L_told σ x1 = some (v, u, mc, ms)) (hkc : kc + mc = K) (hks : ks + ms = N) {H : Heap} {locs : List Loc} (hP : va_P D vwCl (wL cI cZ a q σ) H) (hD : va_D A (wL cI cZ a q σ)) (hS : va_S A s.heap H locs) {ls : Array Slot} (hl : lv_has ls 2 [(0, .ref (a 0)), (1, .int x1)]) : W p l e (rmK 8 120 K N) s m args below meth c H locs kc ks (TxQ below args s D A (fun q (σ : StL) => (wL cI cZ a q σ)) v u K N) (F0 m 0 ls []) := by
  obtain ⟨hx, hb, hr, hml, hown, hts, hlk, hK⟩ := id C0
  have hcs : kc ≤ K ∧ ks ≤ N := ⟨by omega, by omega⟩
  unfold f_L_told at h
  refine lv_iload_n hx hb d_L_told_0 rfl (lv_at hl 1 rfl) ?_
  by_cases e1_0 : x1 = 0
  · rw [if_pos e1_0] at h
    refine lv_tableIn (off := 31) (tgt := 32) hx hb d_L_told_1 (by rw [e1_0]; decide) (by rw [e1_0]; decide) (by rw [e1_0]; rfl) (by decide) ?_
    refine lv_aload_n hx hb d_L_told_32 rfl (lv_at hl 0 rfl) ?_
    refine va_get (ci := 0) (v := .ref (a 3)) (C := R_L) (T := F_L) (N := 6) hx hb hts i_L hown hK.1 hP 0 rfl rfl 1 (by decide) (hts _ wd_67) (fun _ h9 => h9) rfl d_L_told_33 ?_
    refine ro_V (n := 0) (ci := 1) (As := []) (rest := []) C0 (c_C_count l D cI cZ a q (L_classes σ) rfl) wd_68 ⟨wd_69, wd_70, wd_71, wd_8⟩ (by decide +kernel) ⟨Nat.le_of_ble_eq_true rfl, Nat.le_of_ble_eq_true rfl⟩ (hP.pick [3, 4, 5, 6, 7, 8, 9] rfl) rfl rfl rfl hl rfl rfl (Nat.le_of_ble_eq_true rfl) hcs d_L_told_36 ?_
    cases h; exact tx_ret C0 hP hD hS (by omega) (by omega) d_L_told_39
  · rw [if_neg e1_0] at h
    by_cases e1_1 : x1 = 1
    · rw [if_pos e1_1] at h
      refine lv_tableIn (off := 39) (tgt := 40) hx hb d_L_told_1 (by rw [e1_1]; decide) (by rw [e1_1]; decide) (by rw [e1_1]; rfl) (by decide) ?_
      refine lv_aload_n hx hb d_L_told_40 rfl (lv_at hl 0 rfl) ?_
      refine va_get (ci := 0) (v := .ref (a 3)) (C := R_L) (T := F_L) (N := 6) hx hb hts i_L hown hK.1 hP 0 rfl rfl 1 (by decide) (hts _ wd_67) (fun _ h9 => h9) rfl d_L_told_41 ?_
      refine ro_V (n := 0) (ci := 1) (As := []) (rest := []) C0 (c_C_countGeneric l D cI cZ a q (L_classes σ) rfl) wd_76 ⟨wd_77, wd_78, wd_79, wd_8⟩ (by decide +kernel) ⟨Nat.le_of_ble_eq_true rfl, Nat.le_of_ble_eq_true rfl⟩ (hP.pick [3, 4, 5, 6, 7, 8, 9] rfl) rfl rfl rfl hl rfl rfl (Nat.le_of_ble_eq_true rfl) hcs d_L_told_44 ?_
      cases h; exact tx_ret C0 hP hD hS (by omega) (by omega) d_L_told_47
    · rw [if_neg e1_1] at h
      by_cases e1_2 : x1 = 2
      · rw [if_pos e1_2] at h
        refine lv_tableIn (off := 47) (tgt := 48) hx hb d_L_told_1 (by rw [e1_2]; decide) (by rw [e1_2]; decide) (by rw [e1_2]; rfl) (by decide) ?_
        refine lv_aload_n hx hb d_L_told_48 rfl (lv_at hl 0 rfl) ?_
        refine va_get (ci := 0) (v := .ref (a 10)) (C := R_L) (T := F_L) (N := 6) hx hb hts i_L hown hK.1 hP 0 rfl rfl 2 (by decide) (hts _ wd_85) (fun _ h9 => h9) rfl d_L_told_49 ?_
        refine ro_V (n := 0) (ci := 2) (As := []) (rest := []) C0 (c_T_count l D cI cZ a q (L_types σ) rfl) wd_334 ⟨wd_335, wd_336, wd_337, wd_52⟩ (by decide +kernel) ⟨Nat.le_of_ble_eq_true rfl, Nat.le_of_ble_eq_true rfl⟩ (hP.pick [10, 11, 12, 13, 14, 15, 16, 17, 18] rfl) rfl rfl rfl hl rfl rfl (Nat.le_of_ble_eq_true rfl) hcs d_L_told_52 ?_
        cases h; exact tx_ret C0 hP hD hS (by omega) (by omega) d_L_told_55
      · rw [if_neg e1_2] at h
        by_cases e1_3 : x1 = 3
        · rw [if_pos e1_3] at h
          refine lv_tableIn (off := 55) (tgt := 56) hx hb d_L_told_1 (by rw [e1_3]; decide) (by rw [e1_3]; decide) (by rw [e1_3]; rfl) (by decide) ?_
          refine lv_aload_n hx hb d_L_told_56 rfl (lv_at hl 0 rfl) ?_
          refine va_get (ci := 0) (v := .int (L_depth σ)) (C := R_L) (T := F_L) (N := 6) hx hb hts i_L hown hK.1 hP 0 rfl rfl 0 (by decide) (hts _ wd_278) (fun _ h9 => h9) rfl d_L_told_57 ?_
          cases h; exact tx_ret C0 hP hD hS (by omega) (by omega) d_L_told_60
        · rw [if_neg e1_3] at h
          refine lv_tableOut (tgt := 61) hx hb d_L_told_1 (by have n0 := lv_neT (a := 0) e1_0 (by decide); have n1 := lv_neT (a := 1) e1_1 (by decide); have n2 := lv_neT (a := 2) e1_2 (by decide); have n3 := lv_neT (a := 3) e1_3 (by decide); omega) (by decide) ?_
          cases h
          exact tx_throw (k := 3) C0 hT hl0 hZ hP hD hS wd_164 wd_165 (List.mem_of_getElem? (i := 13) rfl) th_3_87_91_a th_3_87_91_b thI_3 d_L_told_61 d_L_told_64 d_L_told_65 d_L_told_67 d_L_told_70 hl (Nat.le_of_ble_eq_true rfl) (Nat.le_of_ble_eq_true rfl) (by show kc + 1 ≤ K; omega) (by show ks + 6 ≤ N; omega) (by omega) (by omega)
set_option maxHeartbeats 4000000 in
set_option maxRecDepth 100000 in
theorem c_L_told (l : Launch) (D : va_G) (cI cZ : ClassId) (a : Nat → Nat) (hl0 : l.stackTraces = false) (q : Nat) (σ : StL) (x1 : Int32) {res : (Int32 ⊕ Nat) × StL × Nat × Nat} (h : f_L_told σ x1 = some res) : TxM l y_L_told b_L_told 2 (some .int) 8 120 D [(cI, .int), (cZ, .boolean)] [.ref (a 0), .int x1] (fun q (σ : StL) => (wL cI cZ a q σ)) q σ res :=
  tx_of (by decide) (Nat.le_of_ble_eq_true rfl) (fun p e s m args below meth c ls A C0 hA hT hZ hP hD hS hl => t_L_told_0 (a := a) (kc := 0) (ks := 0) C0 hA hT hl0 hZ h (Nat.zero_add _) (Nat.zero_add _) hP hD hS (lv_sub hl [0, 1] rfl))
-- part 07.60zb.lean.txt
theorem zb_n {v : Int32} (h : ¬ (v ≠ 0 ∧ v ≠ 1)) : narrow .boolean (.int v) = .int v := by
  by_cases h0 : v = 0
  · subst h0; rfl
  · by_cases h1 : v = 1
    · subst h1; rfl
    · exact absurd ⟨h0, h1⟩ h
theorem zb_f {v : Int32} (h : ¬ (v ≠ 0 ∧ v ≠ 1)) : fits .boolean (.int v) = true := by
  by_cases h0 : v = 0
  · subst h0; rfl
  · by_cases h1 : v = 1
    · subst h1; rfl
    · exact absurd ⟨h0, h1⟩ h
-- part 07.6M.00M_tie.lean.txt
def f_M_tie (σ : StM) (x1 x2 x3 : Int32) : Option (Int32 × StM) :=
  if x1 < 0 ∨ 30 ≤ x1.toNatClampNeg then none else
  if ((30 * x1) + ((M_directs σ) x1.toNatClampNeg)) < 0 ∨ 900 ≤ ((30 * x1) + ((M_directs σ) x1.toNatClampNeg)).toNatClampNeg then none else
  if x1 < 0 ∨ 30 ≤ x1.toNatClampNeg then none else
  if ((30 * x1) + ((M_directs (M_put_directTo σ ((30 * x1) + ((M_directs σ) x1.toNatClampNeg)) x2)) x1.toNatClampNeg)) < 0 ∨ 900 ≤ ((30 * x1) + ((M_directs (M_put_directTo σ ((30 * x1) + ((M_directs σ) x1.toNatClampNeg)) x2)) x1.toNatClampNeg)).toNatClampNeg then none else
  if x1 < 0 ∨ 30 ≤ x1.toNatClampNeg then none else
  if x1 < 0 ∨ 30 ≤ x1.toNatClampNeg then none else
  some (0, (M_put_directs (M_put_directArg (M_put_directTo σ ((30 * x1) + ((M_directs σ) x1.toNatClampNeg)) x2) ((30 * x1) + ((M_directs (M_put_directTo σ ((30 * x1) + ((M_directs σ) x1.toNatClampNeg)) x2)) x1.toNatClampNeg)) x3) x1 (((M_directs (M_put_directArg (M_put_directTo σ ((30 * x1) + ((M_directs σ) x1.toNatClampNeg)) x2) ((30 * x1) + ((M_directs (M_put_directTo σ ((30 * x1) + ((M_directs σ) x1.toNatClampNeg)) x2)) x1.toNatClampNeg)) x3)) x1.toNatClampNeg) + 1)))
set_option maxHeartbeats 4000000 in
set_option maxRecDepth 100000 in
theorem t_M_tie_0 {p : Program} {l : Launch} {e : Env} {s : State} {m : MethodId} {args : Array Value} {below : List Frame} {meth : Method} {c : Code} {D : va_G} {cI cZ : ClassId} {a : Nat → Nat} {A : Nat → Prop} (C0 : Am p s m args meth c b_M_tie none 4 R_M D [(cI, .int), (cZ, .boolean)]) (hA : ∀ q, s.heap.size ≤ q → A q) {res : Int32 × StM}   {q : Nat} {σ : StM} {x1 x2 x3 : Int32} (h : f_M_tie σ x1 x2 x3 = some res) {H : Heap} {locs : List Loc} (hP : va_P D vwCl (wM cI cZ a q σ) H) (hD : va_D A (wM cI cZ a q σ)) (hS : va_S A s.heap H locs) {ls : Array Slot} (hl : lv_has ls 4 [(0, .ref (a 20)), (1, .int x1), (2, .int x2), (3, .int x3)]) : W p l e (rmK 0 0 0 0) s m args below meth c H locs 0 0 (RwQv below args s D A (fun q (σ : StM) => (wM cI cZ a q σ)) res 0 0) (F0 m 0 ls []) := by
  obtain ⟨hx, hb, hr, hml, hown, hts, hlk, hK⟩ := id C0
  unfold f_M_tie at h
  refine lv_aload_n hx hb d_M_tie_0 rfl (lv_at hl 0 rfl) ?_
  refine va_get (ci := 4) (v := .ref (a 24)) (C := R_M) (T := F_M) (N := 35) hx hb hts i_M hown hK.1 hP 0 rfl rfl 7 (by decide) (hts _ wd_338) (fun _ h9 => h9) rfl d_M_tie_1 ?_
  refine lv_bipush (v := 30) hx hb d_M_tie_4 (by decide) ?_
  refine lv_iload_n hx hb d_M_tie_6 rfl (lv_at hl 1 rfl) ?_
  refine lv_imul hx hb d_M_tie_7 ?_
  refine lv_aload_n hx hb d_M_tie_8 rfl (lv_at hl 0 rfl) ?_
  refine va_get (ci := 4) (v := .ref (a 23)) (C := R_M) (T := F_M) (N := 35) hx hb hts i_M hown hK.1 hP 0 rfl rfl 6 (by decide) (hts _ wd_339) (fun _ h9 => h9) rfl d_M_tie_9 ?_
  refine lv_iload_n hx hb d_M_tie_12 rfl (lv_at hl 1 rfl) ?_
  replace h := gd h
  obtain ⟨hi, h⟩ := h
  refine va_iald hx hb hK.1 hP 3 0 rfl rfl hi d_M_tie_13 ?_
  refine lv_iadd hx hb d_M_tie_14 ?_
  refine lv_iload_n hx hb d_M_tie_15 rfl (lv_at hl 2 rfl) ?_
  replace h := gd h
  obtain ⟨hi, h⟩ := h
  refine rw_iast C0 hP hD hS 4 0 rfl rfl hi d_M_tie_16 (Wn := (wM cI cZ a q (M_put_directTo σ ((30 * x1) + ((M_directs σ) x1.toNatClampNeg)) x2))) ws_M_put_directTo (fun H locs hP hD hS => ?_)
  refine lv_aload_n hx hb d_M_tie_17 rfl (lv_at hl 0 rfl) ?_
  refine va_get (ci := 4) (v := .ref (a 25)) (C := R_M) (T := F_M) (N := 35) hx hb hts i_M hown hK.1 hP 0 rfl rfl 8 (by decide) (hts _ wd_340) (fun _ h9 => h9) rfl d_M_tie_18 ?_
  refine lv_bipush (v := 30) hx hb d_M_tie_21 (by decide) ?_
  refine lv_iload_n hx hb d_M_tie_23 rfl (lv_at hl 1 rfl) ?_
  refine lv_imul hx hb d_M_tie_24 ?_
  refine lv_aload_n hx hb d_M_tie_25 rfl (lv_at hl 0 rfl) ?_
  refine va_get (ci := 4) (v := .ref (a 23)) (C := R_M) (T := F_M) (N := 35) hx hb hts i_M hown hK.1 hP 0 rfl rfl 6 (by decide) (hts _ wd_339) (fun _ h9 => h9) rfl d_M_tie_26 ?_
  refine lv_iload_n hx hb d_M_tie_29 rfl (lv_at hl 1 rfl) ?_
  replace h := gd h
  obtain ⟨hi, h⟩ := h
  refine va_iald hx hb hK.1 hP 3 0 rfl rfl hi d_M_tie_30 ?_
  refine lv_iadd hx hb d_M_tie_31 ?_
  refine lv_iload_n hx hb d_M_tie_32 rfl (lv_at hl 3 rfl) ?_
  replace h := gd h
  obtain ⟨hi, h⟩ := h
  refine rw_iast C0 hP hD hS 5 0 rfl rfl hi d_M_tie_33 (Wn := (wM cI cZ a q (M_put_directArg (M_put_directTo σ ((30 * x1) + ((M_directs σ) x1.toNatClampNeg)) x2) ((30 * x1) + ((M_directs (M_put_directTo σ ((30 * x1) + ((M_directs σ) x1.toNatClampNeg)) x2)) x1.toNatClampNeg)) x3))) ws_M_put_directArg (fun H locs hP hD hS => ?_)
  refine lv_aload_n hx hb d_M_tie_34 rfl (lv_at hl 0 rfl) ?_
  refine va_get (ci := 4) (v := .ref (a 23)) (C := R_M) (T := F_M) (N := 35) hx hb hts i_M hown hK.1 hP 0 rfl rfl 6 (by decide) (hts _ wd_339) (fun _ h9 => h9) rfl d_M_tie_35 ?_
  refine lv_iload_n hx hb d_M_tie_38 rfl (lv_at hl 1 rfl) ?_
  refine lv_dup2_11 hx hb d_M_tie_39 rfl rfl ?_
  replace h := gd h
  obtain ⟨hi, h⟩ := h
  refine va_iald hx hb hK.1 hP 3 0 rfl rfl hi d_M_tie_40 ?_
  refine lv_iconst (v := 1) hx hb d_M_tie_41 (by decide) ?_
  refine lv_iadd hx hb d_M_tie_42 ?_
  replace h := gd h
  obtain ⟨hi, h⟩ := h
  refine rw_iast C0 hP hD hS 3 0 rfl rfl hi d_M_tie_43 (Wn := (wM cI cZ a q (M_put_directs (M_put_directArg (M_put_directTo σ ((30 * x1) + ((M_directs σ) x1.toNatClampNeg)) x2) ((30 * x1) + ((M_directs (M_put_directTo σ ((30 * x1) + ((M_directs σ) x1.toNatClampNeg)) x2)) x1.toNatClampNeg)) x3) x1 (((M_directs (M_put_directArg (M_put_directTo σ ((30 * x1) + ((M_directs σ) x1.toNatClampNeg)) x2) ((30 * x1) + ((M_directs (M_put_directTo σ ((30 * x1) + ((M_directs σ) x1.toNatClampNeg)) x2)) x1.toNatClampNeg)) x3)) x1.toNatClampNeg) + 1)))) ws_M_put_directs (fun H locs hP hD hS => ?_)
  exact rw_retv C0 hP hD hS (Option.some.inj h) d_M_tie_44
set_option maxHeartbeats 4000000 in
set_option maxRecDepth 100000 in
theorem c_M_tie (l : Launch) (D : va_G) (cI cZ : ClassId) (a : Nat → Nat) (q : Nat) (σ : StM) (x1 : Int32) (x2 : Int32) (x3 : Int32) {res : Int32 × StM} (h : f_M_tie σ x1 x2 x3 = some res) : RwMv l y_M_tie b_M_tie 4 0 0 D [(cI, .int), (cZ, .boolean)] [.ref (a 20), .int x1, .int x2, .int x3] (fun q (σ : StM) => (wM cI cZ a q σ)) q σ res :=
  rw_ofv (by decide) (Nat.le_of_ble_eq_true rfl) (fun p e s m args below meth c ls A C0 hA hP hD hS hl => t_M_tie_0 (a := a) C0 hA h hP hD hS (lv_sub hl [0, 1, 2, 3] rfl))
-- part 07.6M.01M_reckonOver.lean.txt
def f_M_reckonOver_4_s (k4 : StM → Int32 → Int32 → Int32 → Option (Int32 × StM)) (σ : StM) (x1 x2 x3 : Int32) : Option (Int32 × StM) :=
  if x1 < 0 ∨ 30 ≤ x1.toNatClampNeg then none else
  if ((M_directs σ) x1.toNatClampNeg) ≤ x3 then
    if x1 < 0 ∨ 30 ≤ x1.toNatClampNeg then none else
    some (0, (M_put_over σ x1 x2))
  else
    if ((30 * x1) + x3) < 0 ∨ 900 ≤ ((30 * x1) + x3).toNatClampNeg then none else
    if ((M_directTo σ) ((30 * x1) + x3).toNatClampNeg) < 0 ∨ 30 ≤ ((M_directTo σ) ((30 * x1) + x3).toNatClampNeg).toNatClampNeg then none else
    k4 σ x1 (x2 ||| (((1 : Int32) <<< (((M_directTo σ) ((30 * x1) + x3).toNatClampNeg) &&& 31)) ||| ((M_over σ) ((M_directTo σ) ((30 * x1) + x3).toNatClampNeg).toNatClampNeg))) (x3 + 1)
def f_M_reckonOver_4 : Nat → StM → Int32 → Int32 → Int32 → Option (Int32 × StM)
  | 0, _, _, _, _ => none
  | n + 1, σ, x1, x2, x3 => f_M_reckonOver_4_s (f_M_reckonOver_4 n) σ x1 x2 x3
def f_M_reckonOver (σ : StM) (x1 : Int32) : Option (Int32 × StM) :=
  f_M_reckonOver_4 1000 σ x1 0 0
set_option maxHeartbeats 4000000 in
set_option maxRecDepth 100000 in
theorem t_M_reckonOver_4_s {p : Program} {l : Launch} {e : Env} {s : State} {m : MethodId} {args : Array Value} {below : List Frame} {meth : Method} {c : Code} {D : va_G} {cI cZ : ClassId} {a : Nat → Nat} {A : Nat → Prop} (C0 : Am p s m args meth c b_M_reckonOver none 5 R_M D [(cI, .int), (cZ, .boolean)]) (hA : ∀ q, s.heap.size ≤ q → A q) {res : Int32 × StM} {k4 : StM → Int32 → Int32 → Int32 → Option (Int32 × StM)}  (hk4 : ∀ (q : Nat) (σ : StM) (x1 x2 x3 : Int32) (H : Heap) (locs : List Loc) (ls : Array Slot), k4 σ x1 x2 x3 = some res → va_P D vwCl (wM cI cZ a q σ) H → va_D A (wM cI cZ a q σ) → va_S A s.heap H locs → lv_has ls 5 [(0, .ref (a 20)), (1, .int x1), (2, .int x2), (3, .int x3)] → W p l e (rmK 0 0 0 0) s m args below meth c H locs 0 0 (RwQv below args s D A (fun q (σ : StM) => (wM cI cZ a q σ)) res 0 0) (F0 m 4 ls [])) {q : Nat} {σ : StM} {x1 x2 x3 : Int32} (h : f_M_reckonOver_4_s k4 σ x1 x2 x3 = some res) {H : Heap} {locs : List Loc} (hP : va_P D vwCl (wM cI cZ a q σ) H) (hD : va_D A (wM cI cZ a q σ)) (hS : va_S A s.heap H locs) {ls : Array Slot} (hl : lv_has ls 5 [(0, .ref (a 20)), (1, .int x1), (2, .int x2), (3, .int x3)]) : W p l e (rmK 0 0 0 0) s m args below meth c H locs 0 0 (RwQv below args s D A (fun q (σ : StM) => (wM cI cZ a q σ)) res 0 0) (F0 m 4 ls []) := by
  obtain ⟨hx, hb, hr, hml, hown, hts, hlk, hK⟩ := id C0
  unfold f_M_reckonOver_4_s at h
  refine lv_iload_n hx hb d_M_reckonOver_4 rfl (lv_at hl 3 rfl) ?_
  refine lv_aload_n hx hb d_M_reckonOver_5 rfl (lv_at hl 0 rfl) ?_
  refine va_get (ci := 4) (v := .ref (a 23)) (C := R_M) (T := F_M) (N := 35) hx hb hts i_M hown hK.1 hP 0 rfl rfl 6 (by decide) (hts _ wd_339) (fun _ h9 => h9) rfl d_M_reckonOver_6 ?_
  refine lv_iload_n hx hb d_M_reckonOver_9 rfl (lv_at hl 1 rfl) ?_
  replace h := gd h
  obtain ⟨hi, h⟩ := h
  refine va_iald hx hb hK.1 hP 3 0 rfl rfl hi d_M_reckonOver_10 ?_
  refine lv_icmp_ge (tgt := 48) hx hb d_M_reckonOver_11 (by decide) (fun hc => ?_) (fun hc => ?_)
  · rw [if_pos hc] at h
    refine lv_aload_n hx hb d_M_reckonOver_48 rfl (lv_at hl 0 rfl) ?_
    refine va_get (ci := 4) (v := .ref (a 26)) (C := R_M) (T := F_M) (N := 35) hx hb hts i_M hown hK.1 hP 0 rfl rfl 9 (by decide) (hts _ wd_341) (fun _ h9 => h9) rfl d_M_reckonOver_49 ?_
    refine lv_iload_n hx hb d_M_reckonOver_52 rfl (lv_at hl 1 rfl) ?_
    refine lv_iload_n hx hb d_M_reckonOver_53 rfl (lv_at hl 2 rfl) ?_
    replace h := gd h
    obtain ⟨hi, h⟩ := h
    refine rw_iast C0 hP hD hS 6 0 rfl rfl hi d_M_reckonOver_54 (Wn := (wM cI cZ a q (M_put_over σ x1 x2))) ws_M_put_over (fun H locs hP hD hS => ?_)
    exact rw_retv C0 hP hD hS (Option.some.inj h) d_M_reckonOver_55
  · rw [if_neg hc] at h
    refine lv_aload_n hx hb d_M_reckonOver_14 rfl (lv_at hl 0 rfl) ?_
    refine va_get (ci := 4) (v := .ref (a 24)) (C := R_M) (T := F_M) (N := 35) hx hb hts i_M hown hK.1 hP 0 rfl rfl 7 (by decide) (hts _ wd_338) (fun _ h9 => h9) rfl d_M_reckonOver_15 ?_
    refine lv_bipush (v := 30) hx hb d_M_reckonOver_18 (by decide) ?_
    refine lv_iload_n hx hb d_M_reckonOver_20 rfl (lv_at hl 1 rfl) ?_
    refine lv_imul hx hb d_M_reckonOver_21 ?_
    refine lv_iload_n hx hb d_M_reckonOver_22 rfl (lv_at hl 3 rfl) ?_
    refine lv_iadd hx hb d_M_reckonOver_23 ?_
    replace h := gd h
    obtain ⟨hi, h⟩ := h
    refine va_iald hx hb hK.1 hP 4 0 rfl rfl hi d_M_reckonOver_24 ?_
    refine lv_istore (lv' := [(4, .int ((M_directTo σ) ((30 * x1) + x3).toNatClampNeg)), (0, .ref (a 20)), (1, .int x1), (2, .int x2), (3, .int x3)]) hx hb d_M_reckonOver_25 hl (by decide) rfl (fun ls hl => ?_)
    refine lv_iload_n hx hb d_M_reckonOver_27 rfl (lv_at hl 3 rfl) ?_
    refine lv_iconst (v := 1) hx hb d_M_reckonOver_28 (by decide) ?_
    refine lv_iload hx hb d_M_reckonOver_29 (lv_at hl 0 rfl) ?_
    refine lv_ishl hx hb d_M_reckonOver_31 ?_
    refine lv_aload_n hx hb d_M_reckonOver_32 rfl (lv_at hl 1 rfl) ?_
    refine va_get (ci := 4) (v := .ref (a 26)) (C := R_M) (T := F_M) (N := 35) hx hb hts i_M hown hK.1 hP 0 rfl rfl 9 (by decide) (hts _ wd_341) (fun _ h9 => h9) rfl d_M_reckonOver_33 ?_
    refine lv_iload hx hb d_M_reckonOver_36 (lv_at hl 0 rfl) ?_
    replace h := gd h
    obtain ⟨hi, h⟩ := h
    refine va_iald hx hb hK.1 hP 6 0 rfl rfl hi d_M_reckonOver_38 ?_
    refine lv_ior hx hb d_M_reckonOver_39 ?_
    refine lv_ior hx hb d_M_reckonOver_40 ?_
    refine lv_istore_n (lv' := [(2, .int (x2 ||| (((1 : Int32) <<< (((M_directTo σ) ((30 * x1) + x3).toNatClampNeg) &&& 31)) ||| ((M_over σ) ((M_directTo σ) ((30 * x1) + x3).toNatClampNeg).toNatClampNeg)))), (4, .int ((M_directTo σ) ((30 * x1) + x3).toNatClampNeg)), (0, .ref (a 20)), (1, .int x1), (3, .int x3)]) hx hb d_M_reckonOver_41 rfl hl (by decide) rfl (fun ls hl => ?_)
    refine lv_iinc (v := (x3 + 1)) (lv' := [(3, .int (x3 + 1)), (2, .int (x2 ||| (((1 : Int32) <<< (((M_directTo σ) ((30 * x1) + x3).toNatClampNeg) &&& 31)) ||| ((M_over σ) ((M_directTo σ) ((30 * x1) + x3).toNatClampNeg).toNatClampNeg)))), (4, .int ((M_directTo σ) ((30 * x1) + x3).toNatClampNeg)), (0, .ref (a 20)), (1, .int x1)]) hx hb d_M_reckonOver_42 hl (k := 4) rfl rfl (by decide) rfl (fun ls hl => ?_)
    refine lv_goto (tgt := 4) hx hb d_M_reckonOver_45 (by decide) ?_
    exact hk4 _ _ _ _ _ _ _ _ h hP hD hS (lv_sub hl [3, 4, 1, 0] rfl)
set_option maxHeartbeats 4000000 in
set_option maxRecDepth 100000 in
theorem t_M_reckonOver_4 {p : Program} {l : Launch} {e : Env} {s : State} {m : MethodId} {args : Array Value} {below : List Frame} {meth : Method} {c : Code} {D : va_G} {cI cZ : ClassId} {a : Nat → Nat} {A : Nat → Prop} (C0 : Am p s m args meth c b_M_reckonOver none 5 R_M D [(cI, .int), (cZ, .boolean)]) (hA : ∀ q, s.heap.size ≤ q → A q) {res : Int32 × StM}  {n : Nat} {q : Nat} {σ : StM} {x1 x2 x3 : Int32} (h : f_M_reckonOver_4  n σ x1 x2 x3 = some res) {H : Heap} {locs : List Loc} (hP : va_P D vwCl (wM cI cZ a q σ) H) (hD : va_D A (wM cI cZ a q σ)) (hS : va_S A s.heap H locs) {ls : Array Slot} (hl : lv_has ls 5 [(0, .ref (a 20)), (1, .int x1), (2, .int x2), (3, .int x3)]) : W p l e (rmK 0 0 0 0) s m args below meth c H locs 0 0 (RwQv below args s D A (fun q (σ : StM) => (wM cI cZ a q σ)) res 0 0) (F0 m 4 ls []) := by
  induction n generalizing q σ x1 x2 x3 H locs ls with
  | zero => cases h
  | succ n ih => exact t_M_reckonOver_4_s (a := a) C0 hA  (fun _ _ _ _ _ _ _ _ h hP hD hS hl => ih h hP hD hS hl) h hP hD hS hl
set_option maxHeartbeats 4000000 in
set_option maxRecDepth 100000 in
theorem t_M_reckonOver_0 {p : Program} {l : Launch} {e : Env} {s : State} {m : MethodId} {args : Array Value} {below : List Frame} {meth : Method} {c : Code} {D : va_G} {cI cZ : ClassId} {a : Nat → Nat} {A : Nat → Prop} (C0 : Am p s m args meth c b_M_reckonOver none 5 R_M D [(cI, .int), (cZ, .boolean)]) (hA : ∀ q, s.heap.size ≤ q → A q) {res : Int32 × StM}   {q : Nat} {σ : StM} {x1 : Int32} (h : f_M_reckonOver σ x1 = some res) {H : Heap} {locs : List Loc} (hP : va_P D vwCl (wM cI cZ a q σ) H) (hD : va_D A (wM cI cZ a q σ)) (hS : va_S A s.heap H locs) {ls : Array Slot} (hl : lv_has ls 5 [(0, .ref (a 20)), (1, .int x1)]) : W p l e (rmK 0 0 0 0) s m args below meth c H locs 0 0 (RwQv below args s D A (fun q (σ : StM) => (wM cI cZ a q σ)) res 0 0) (F0 m 0 ls []) := by
  obtain ⟨hx, hb, hr, hml, hown, hts, hlk, hK⟩ := id C0
  unfold f_M_reckonOver at h
  refine lv_iconst (v := 0) hx hb d_M_reckonOver_0 (by decide) ?_
  refine lv_istore_n (lv' := [(2, .int 0), (0, .ref (a 20)), (1, .int x1)]) hx hb d_M_reckonOver_1 rfl hl (by decide) rfl (fun ls hl => ?_)
  refine lv_iconst (v := 0) hx hb d_M_reckonOver_2 (by decide) ?_
  refine lv_istore_n (lv' := [(3, .int 0), (2, .int 0), (0, .ref (a 20)), (1, .int x1)]) hx hb d_M_reckonOver_3 rfl hl (by decide) rfl (fun ls hl => ?_)
  exact t_M_reckonOver_4 (a := a) C0 hA  h hP hD hS (lv_sub hl [2, 3, 1, 0] rfl)
set_option maxHeartbeats 4000000 in
set_option maxRecDepth 100000 in
theorem c_M_reckonOver (l : Launch) (D : va_G) (cI cZ : ClassId) (a : Nat → Nat) (q : Nat) (σ : StM) (x1 : Int32) {res : Int32 × StM} (h : f_M_reckonOver σ x1 = some res) : RwMv l y_M_reckonOver b_M_reckonOver 5 0 0 D [(cI, .int), (cZ, .boolean)] [.ref (a 20), .int x1] (fun q (σ : StM) => (wM cI cZ a q σ)) q σ res :=
  rw_ofv (by decide) (Nat.le_of_ble_eq_true rfl) (fun p e s m args below meth c ls A C0 hA hP hD hS hl => t_M_reckonOver_0 (a := a) C0 hA h hP hD hS (lv_sub hl [0, 1] rfl))
-- part 07.6M.02M_thrown.lean.txt
def f_M_thrown (σ : StM) : Int32 :=
  (M_code σ)
set_option maxHeartbeats 4000000 in
set_option maxRecDepth 100000 in
theorem t_M_thrown_0 {p : Program} {l : Launch} {e : Env} {s : State} {m : MethodId} {args : Array Value} {below : List Frame} {meth : Method} {c : Code} {D : va_G} {cI cZ : ClassId} {a : Nat → Nat} {q : Nat} {σ : StM} (C0 : Am p s m args meth c b_M_thrown (some .int) 1 R_M D [(cI, .int), (cZ, .boolean)]) (hP : va_P D vwCl (wM cI cZ a q σ) s.heap) {val : Int32}   (h : f_M_thrown σ = val) {ls : Array Slot} (hl : lv_has ls 1 [(0, .ref (a 20))]) : RoW p l e (rmK 0 0 0 0) s m args below meth c val (F0 m 0 ls []) := by
  obtain ⟨hx, hb, hr, hml, hown, hts, hlk, hK⟩ := id C0
  unfold f_M_thrown at h
  refine lv_aload_n hx hb d_M_thrown_0 rfl (lv_at hl 0 rfl) ?_
  refine va_get (ci := 4) (v := .int (M_code σ)) (C := R_M) (T := F_M) (N := 35) hx hb hts i_M hown hK.1 hP 0 rfl rfl 0 (by decide) (hts _ wd_342) (fun _ h9 => h9) rfl d_M_thrown_1 ?_
  exact ro_ret C0 h d_M_thrown_4
set_option maxHeartbeats 4000000 in
set_option maxRecDepth 100000 in
theorem c_M_thrown (l : Launch) (D : va_G) (cI cZ : ClassId) (a : Nat → Nat) (q : Nat) (σ : StM) {val : Int32} (h : f_M_thrown σ = val) : RoM l y_M_thrown b_M_thrown 1 (some .int) 0 0 D [(cI, .int), (cZ, .boolean)] [.ref (a 20)] (wM cI cZ a q σ) val :=
  ro_of (by decide) (Nat.le_of_ble_eq_true rfl) (fun p e s m args below meth c ls C0 hP hl => t_M_thrown_0 (a := a) C0 hP h (lv_sub hl [0] rfl))
-- part 07.6M.03M_good.lean.txt
def f_M_good (σ : StM) (x1 : Int32) : Option (Int32 × StM) :=
  if x1 = 0 then
    some (1, (M_set_code σ x1))
  else
    some (0, (M_set_code σ x1))
set_option maxHeartbeats 4000000 in
set_option maxRecDepth 100000 in
theorem t_M_good_0 {p : Program} {l : Launch} {e : Env} {s : State} {m : MethodId} {args : Array Value} {below : List Frame} {meth : Method} {c : Code} {D : va_G} {cI cZ : ClassId} {a : Nat → Nat} {A : Nat → Prop} (C0 : Am p s m args meth c b_M_good (some .boolean) 2 R_M D [(cI, .int), (cZ, .boolean)]) (hA : ∀ q, s.heap.size ≤ q → A q) {res : Int32 × StM}   {q : Nat} {σ : StM} {x1 : Int32} (h : f_M_good σ x1 = some res) {H : Heap} {locs : List Loc} (hP : va_P D vwCl (wM cI cZ a q σ) H) (hD : va_D A (wM cI cZ a q σ)) (hS : va_S A s.heap H locs) {ls : Array Slot} (hl : lv_has ls 2 [(0, .ref (a 20)), (1, .int x1)]) : W p l e (rmK 0 0 0 0) s m args below meth c H locs 0 0 (RwQ below args s D A (fun q (σ : StM) => (wM cI cZ a q σ)) res 0 0) (F0 m 0 ls []) := by
  obtain ⟨hx, hb, hr, hml, hown, hts, hlk, hK⟩ := id C0
  unfold f_M_good at h
  refine lv_aload_n hx hb d_M_good_0 rfl (lv_at hl 0 rfl) ?_
  refine lv_iload_n hx hb d_M_good_1 rfl (lv_at hl 1 rfl) ?_
  refine rw_put (v := .int x1) (fty := .int) (C := R_M) (T := F_M) (N := 35) C0 hP hD hS i_M ty_M tyok_M nn_M 0 rfl rfl 0 (by decide) (hts _ wd_342) rfl rfl (by decide +kernel) rfl rfl (Nat.le_of_ble_eq_true rfl) d_M_good_2 (Wn := (wM cI cZ a q (M_set_code σ x1))) ws_M_set_code (fun H locs hP hD hS => ?_)
  refine lv_iload_n hx hb d_M_good_5 rfl (lv_at hl 1 rfl) ?_
  refine lv_if_ne (tgt := 13) hx hb d_M_good_6 (by decide) (fun hc => ?_) (fun hc => ?_)
  · rw [if_neg hc] at h
    refine lv_iconst (v := 0) hx hb d_M_good_13 (by decide) ?_
    exact rw_retz C0 hP hD hS (by decide) (Option.some.inj h) d_M_good_14
  · rw [if_pos hc] at h
    refine lv_iconst (v := 1) hx hb d_M_good_9 (by decide) ?_
    refine lv_goto (tgt := 14) hx hb d_M_good_10 (by decide) ?_
    exact rw_retz C0 hP hD hS (by decide) (Option.some.inj h) d_M_good_14
set_option maxHeartbeats 4000000 in
set_option maxRecDepth 100000 in
theorem c_M_good (l : Launch) (D : va_G) (cI cZ : ClassId) (a : Nat → Nat) (q : Nat) (σ : StM) (x1 : Int32) {res : Int32 × StM} (h : f_M_good σ x1 = some res) : RwM l y_M_good b_M_good 2 (some .boolean) 0 0 D [(cI, .int), (cZ, .boolean)] [.ref (a 20), .int x1] (fun q (σ : StM) => (wM cI cZ a q σ)) q σ res :=
  rw_of (by decide) (Nat.le_of_ble_eq_true rfl) (fun p e s m args below meth c ls A C0 hA hP hD hS hl => t_M_good_0 (a := a) C0 hA h hP hD hS (lv_sub hl [0, 1] rfl))
-- part 07.6M.04M_under.lean.txt
def f_M_under (σ : StM) (x1 x2 : Int32) : Option Int32 :=
  if x1 < 0 ∨ 30 ≤ x1.toNatClampNeg then none else
  if ((((M_over σ) x1.toNatClampNeg) >>> (x2 &&& 31)) &&& 1) = 1 then
    some 1
  else
    some 0
set_option maxHeartbeats 4000000 in
set_option maxRecDepth 100000 in
theorem t_M_under_0 {p : Program} {l : Launch} {e : Env} {s : State} {m : MethodId} {args : Array Value} {below : List Frame} {meth : Method} {c : Code} {D : va_G} {cI cZ : ClassId} {a : Nat → Nat} {q : Nat} {σ : StM} (C0 : Am p s m args meth c b_M_under (some .boolean) 3 R_M D [(cI, .int), (cZ, .boolean)]) (hP : va_P D vwCl (wM cI cZ a q σ) s.heap) {val : Int32}   {x1 x2 : Int32} (h : f_M_under σ x1 x2 = some val) {ls : Array Slot} (hl : lv_has ls 3 [(0, .ref (a 20)), (1, .int x1), (2, .int x2)]) : RoW p l e (rmK 0 0 0 0) s m args below meth c val (F0 m 0 ls []) := by
  obtain ⟨hx, hb, hr, hml, hown, hts, hlk, hK⟩ := id C0
  unfold f_M_under at h
  refine lv_aload_n hx hb d_M_under_0 rfl (lv_at hl 0 rfl) ?_
  refine va_get (ci := 4) (v := .ref (a 26)) (C := R_M) (T := F_M) (N := 35) hx hb hts i_M hown hK.1 hP 0 rfl rfl 9 (by decide) (hts _ wd_341) (fun _ h9 => h9) rfl d_M_under_1 ?_
  refine lv_iload_n hx hb d_M_under_4 rfl (lv_at hl 1 rfl) ?_
  replace h := gd h
  obtain ⟨hi, h⟩ := h
  refine va_iald hx hb hK.1 hP 6 0 rfl rfl hi d_M_under_5 ?_
  refine lv_iload_n hx hb d_M_under_6 rfl (lv_at hl 2 rfl) ?_
  refine lv_ishr hx hb d_M_under_7 ?_
  refine lv_iconst (v := 1) hx hb d_M_under_8 (by decide) ?_
  refine lv_iand hx hb d_M_under_9 ?_
  refine lv_iconst (v := 1) hx hb d_M_under_10 (by decide) ?_
  refine lv_icmp_ne (tgt := 18) hx hb d_M_under_11 (by decide) (fun hc => ?_) (fun hc => ?_)
  · rw [if_neg hc] at h
    refine lv_iconst (v := 0) hx hb d_M_under_18 (by decide) ?_
    exact ro_retz C0 (by decide) (Option.some.inj h) d_M_under_19
  · rw [if_pos hc] at h
    refine lv_iconst (v := 1) hx hb d_M_under_14 (by decide) ?_
    refine lv_goto (tgt := 19) hx hb d_M_under_15 (by decide) ?_
    exact ro_retz C0 (by decide) (Option.some.inj h) d_M_under_19
set_option maxHeartbeats 4000000 in
set_option maxRecDepth 100000 in
theorem c_M_under (l : Launch) (D : va_G) (cI cZ : ClassId) (a : Nat → Nat) (q : Nat) (σ : StM) (x1 : Int32) (x2 : Int32) {val : Int32} (h : f_M_under σ x1 x2 = some val) : RoM l y_M_under b_M_under 3 (some .boolean) 0 0 D [(cI, .int), (cZ, .boolean)] [.ref (a 20), .int x1, .int x2] (wM cI cZ a q σ) val :=
  ro_of (by decide) (Nat.le_of_ble_eq_true rfl) (fun p e s m args below meth c ls C0 hP hl => t_M_under_0 (a := a) C0 hP h (lv_sub hl [0, 1, 2] rfl))
-- part 07.6M.05M_isClass.lean.txt
def f_M_isClass (σ : StM) (x1 : Int32) : Int32 :=
  if x1 < 0 then
    0
  else
    if (M_classes σ) ≤ x1 then
      0
    else
      1
set_option maxHeartbeats 4000000 in
set_option maxRecDepth 100000 in
theorem t_M_isClass_0 {p : Program} {l : Launch} {e : Env} {s : State} {m : MethodId} {args : Array Value} {below : List Frame} {meth : Method} {c : Code} {D : va_G} {cI cZ : ClassId} {a : Nat → Nat} {q : Nat} {σ : StM} (C0 : Am p s m args meth c b_M_isClass (some .boolean) 2 R_M D [(cI, .int), (cZ, .boolean)]) (hP : va_P D vwCl (wM cI cZ a q σ) s.heap) {val : Int32}   {x1 : Int32} (h : f_M_isClass σ x1 = val) {ls : Array Slot} (hl : lv_has ls 2 [(0, .ref (a 20)), (1, .int x1)]) : RoW p l e (rmK 0 0 0 0) s m args below meth c val (F0 m 0 ls []) := by
  obtain ⟨hx, hb, hr, hml, hown, hts, hlk, hK⟩ := id C0
  unfold f_M_isClass at h
  refine lv_iload_n hx hb d_M_isClass_0 rfl (lv_at hl 1 rfl) ?_
  refine lv_if_lt (tgt := 16) hx hb d_M_isClass_1 (by decide) (fun hc => ?_) (fun hc => ?_)
  · rw [if_pos hc] at h
    refine lv_iconst (v := 0) hx hb d_M_isClass_16 (by decide) ?_
    exact ro_retz C0 (by decide) h d_M_isClass_17
  · rw [if_neg hc] at h
    refine lv_iload_n hx hb d_M_isClass_4 rfl (lv_at hl 1 rfl) ?_
    refine lv_aload_n hx hb d_M_isClass_5 rfl (lv_at hl 0 rfl) ?_
    refine va_get (ci := 4) (v := .int (M_classes σ)) (C := R_M) (T := F_M) (N := 35) hx hb hts i_M hown hK.1 hP 0 rfl rfl 2 (by decide) (hts _ wd_343) (fun _ h9 => h9) rfl d_M_isClass_6 ?_
    refine lv_icmp_ge (tgt := 16) hx hb d_M_isClass_9 (by decide) (fun hc => ?_) (fun hc => ?_)
    · rw [if_pos hc] at h
      refine lv_iconst (v := 0) hx hb d_M_isClass_16 (by decide) ?_
      exact ro_retz C0 (by decide) h d_M_isClass_17
    · rw [if_neg hc] at h
      refine lv_iconst (v := 1) hx hb d_M_isClass_12 (by decide) ?_
      refine lv_goto (tgt := 17) hx hb d_M_isClass_13 (by decide) ?_
      exact ro_retz C0 (by decide) h d_M_isClass_17
set_option maxHeartbeats 4000000 in
set_option maxRecDepth 100000 in
theorem c_M_isClass (l : Launch) (D : va_G) (cI cZ : ClassId) (a : Nat → Nat) (q : Nat) (σ : StM) (x1 : Int32) {val : Int32} (h : f_M_isClass σ x1 = val) : RoM l y_M_isClass b_M_isClass 2 (some .boolean) 0 0 D [(cI, .int), (cZ, .boolean)] [.ref (a 20), .int x1] (wM cI cZ a q σ) val :=
  ro_of (by decide) (Nat.le_of_ble_eq_true rfl) (fun p e s m args below meth c ls C0 hP hl => t_M_isClass_0 (a := a) C0 hP h (lv_sub hl [0, 1] rfl))
-- part 07.6M.06M_isType.lean.txt
def f_M_isType (σ : StM) (x1 : Int32) : Int32 :=
  if x1 < 0 then
    0
  else
    if (M_types σ) ≤ x1 then
      0
    else
      1
set_option maxHeartbeats 4000000 in
set_option maxRecDepth 100000 in
theorem t_M_isType_0 {p : Program} {l : Launch} {e : Env} {s : State} {m : MethodId} {args : Array Value} {below : List Frame} {meth : Method} {c : Code} {D : va_G} {cI cZ : ClassId} {a : Nat → Nat} {q : Nat} {σ : StM} (C0 : Am p s m args meth c b_M_isType (some .boolean) 2 R_M D [(cI, .int), (cZ, .boolean)]) (hP : va_P D vwCl (wM cI cZ a q σ) s.heap) {val : Int32}   {x1 : Int32} (h : f_M_isType σ x1 = val) {ls : Array Slot} (hl : lv_has ls 2 [(0, .ref (a 20)), (1, .int x1)]) : RoW p l e (rmK 0 0 0 0) s m args below meth c val (F0 m 0 ls []) := by
  obtain ⟨hx, hb, hr, hml, hown, hts, hlk, hK⟩ := id C0
  unfold f_M_isType at h
  refine lv_iload_n hx hb d_M_isType_0 rfl (lv_at hl 1 rfl) ?_
  refine lv_if_lt (tgt := 16) hx hb d_M_isType_1 (by decide) (fun hc => ?_) (fun hc => ?_)
  · rw [if_pos hc] at h
    refine lv_iconst (v := 0) hx hb d_M_isType_16 (by decide) ?_
    exact ro_retz C0 (by decide) h d_M_isType_17
  · rw [if_neg hc] at h
    refine lv_iload_n hx hb d_M_isType_4 rfl (lv_at hl 1 rfl) ?_
    refine lv_aload_n hx hb d_M_isType_5 rfl (lv_at hl 0 rfl) ?_
    refine va_get (ci := 4) (v := .int (M_types σ)) (C := R_M) (T := F_M) (N := 35) hx hb hts i_M hown hK.1 hP 0 rfl rfl 10 (by decide) (hts _ wd_344) (fun _ h9 => h9) rfl d_M_isType_6 ?_
    refine lv_icmp_ge (tgt := 16) hx hb d_M_isType_9 (by decide) (fun hc => ?_) (fun hc => ?_)
    · rw [if_pos hc] at h
      refine lv_iconst (v := 0) hx hb d_M_isType_16 (by decide) ?_
      exact ro_retz C0 (by decide) h d_M_isType_17
    · rw [if_neg hc] at h
      refine lv_iconst (v := 1) hx hb d_M_isType_12 (by decide) ?_
      refine lv_goto (tgt := 17) hx hb d_M_isType_13 (by decide) ?_
      exact ro_retz C0 (by decide) h d_M_isType_17
set_option maxHeartbeats 4000000 in
set_option maxRecDepth 100000 in
theorem c_M_isType (l : Launch) (D : va_G) (cI cZ : ClassId) (a : Nat → Nat) (q : Nat) (σ : StM) (x1 : Int32) {val : Int32} (h : f_M_isType σ x1 = val) : RoM l y_M_isType b_M_isType 2 (some .boolean) 0 0 D [(cI, .int), (cZ, .boolean)] [.ref (a 20), .int x1] (wM cI cZ a q σ) val :=
  ro_of (by decide) (Nat.le_of_ble_eq_true rfl) (fun p e s m args below meth c ls C0 hP hl => t_M_isType_0 (a := a) C0 hP h (lv_sub hl [0, 1] rfl))
-- part 07.6M.07M_climb.lean.txt
def f_M_climb_144 (k38 : StM → Int32 → Int32 → Option (Int32 × StM)) (σ : StM) (x4 x5 x6 : Int32) : Option (Int32 × StM) :=
  if ((30 * x5) + x6) < 0 ∨ 900 ≤ ((30 * x5) + x6).toNatClampNeg then none else
  k38 σ x4 ((M_directTo σ) ((30 * x5) + x6).toNatClampNeg)
def f_M_climb_135 (k38 : StM → Int32 → Int32 → Option (Int32 × StM)) (σ : StM) (x4 x5 x6 x7 t1 : Int32) : Option (Int32 × StM) :=
  f_M_climb_144 k38 (M_set_foundType (M_set_foundHow σ t1) x7) x4 x5 x6
def f_M_climb_101 (k38 : StM → Int32 → Int32 → Option (Int32 × StM)) (σ : StM) (x4 x5 x6 : Int32) : Option (Int32 × StM) :=
  if ((30 * x5) + x6) < 0 ∨ 900 ≤ ((30 * x5) + x6).toNatClampNeg then none else
  if ((M_directArg σ) ((30 * x5) + x6).toNatClampNeg) = (-2) then
    f_M_climb_144 k38 σ x4 x5 x6
  else
    if ((M_directArg σ) ((30 * x5) + x6).toNatClampNeg) = (-1) then
      f_M_climb_135 k38 σ x4 x5 x6 ((M_directArg σ) ((30 * x5) + x6).toNatClampNeg) 0
    else
      f_M_climb_135 k38 σ x4 x5 x6 ((M_directArg σ) ((30 * x5) + x6).toNatClampNeg) 1
def f_M_climb_55_s (k38 : StM → Int32 → Int32 → Option (Int32 × StM)) (k55 : StM → Int32 → Int32 → Int32 → Option (Int32 × StM)) (σ : StM) (x4 x5 x6 : Int32) : Option (Int32 × StM) :=
  if ((30 * x5) + x6) < 0 ∨ 900 ≤ ((30 * x5) + x6).toNatClampNeg then none else
  if ((M_directTo σ) ((30 * x5) + x6).toNatClampNeg) = x4 then
    f_M_climb_101 k38 σ x4 x5 x6
  else
    if ((30 * x5) + x6) < 0 ∨ 900 ≤ ((30 * x5) + x6).toNatClampNeg then none else
    (f_M_under σ ((M_directTo σ) ((30 * x5) + x6).toNatClampNeg) x4).bind fun r1 =>
    if r1 = 0 then
      k55 σ x4 x5 (x6 + 1)
    else
      f_M_climb_101 k38 σ x4 x5 x6
def f_M_climb_55 (k38 : StM → Int32 → Int32 → Option (Int32 × StM)) : Nat → StM → Int32 → Int32 → Int32 → Option (Int32 × StM)
  | 0, _, _, _, _ => none
  | n + 1, σ, x4, x5, x6 => f_M_climb_55_s k38 (f_M_climb_55 k38 n) σ x4 x5 x6
def f_M_climb_38_s (k38 : StM → Int32 → Int32 → Option (Int32 × StM)) (σ : StM) (x4 x5 : Int32) : Option (Int32 × StM) :=
  if (M_found σ) = 0 then
    some (0, σ)
  else
    if x5 = x4 then
      some (0, σ)
    else
      f_M_climb_55 k38 1000 σ x4 x5 0
def f_M_climb_38 : Nat → StM → Int32 → Int32 → Option (Int32 × StM)
  | 0, _, _, _ => none
  | n + 1, σ, x4, x5 => f_M_climb_38_s (f_M_climb_38 n) σ x4 x5
def f_M_climb_22 (σ : StM) (x1 x2 x3 x4 t1 : Int32) : Option (Int32 × StM) :=
  if t1 ≠ 0 ∧ t1 ≠ 1 then none else
  f_M_climb_38 1000 (M_set_foundType (M_set_foundHow (M_set_found σ t1) x2) x3) x4 x1
def f_M_climb_17 (σ : StM) (x1 x2 x3 x4 : Int32) : Option (Int32 × StM) :=
  f_M_climb_22 σ x1 x2 x3 x4 1
def f_M_climb (σ : StM) (x1 x2 x3 x4 : Int32) : Option (Int32 × StM) :=
  if x1 = x4 then
    f_M_climb_17 σ x1 x2 x3 x4
  else
    (f_M_under σ x1 x4).bind fun r2 =>
    if r2 = 0 then
      f_M_climb_22 σ x1 x2 x3 x4 0
    else
      f_M_climb_17 σ x1 x2 x3 x4
set_option maxHeartbeats 4000000 in
set_option maxRecDepth 100000 in
theorem t_M_climb_144 {p : Program} {l : Launch} {e : Env} {s : State} {m : MethodId} {args : Array Value} {below : List Frame} {meth : Method} {c : Code} {D : va_G} {cI cZ : ClassId} {a : Nat → Nat} {A : Nat → Prop} (C0 : Am p s m args meth c b_M_climb none 8 R_M D [(cI, .int), (cZ, .boolean)]) (hA : ∀ q, s.heap.size ≤ q → A q) {res : Int32 × StM} {k38 : StM → Int32 → Int32 → Option (Int32 × StM)} (hk38 : ∀ (q : Nat) (σ : StM) (x4 x5 : Int32) (H : Heap) (locs : List Loc) (ls : Array Slot), k38 σ x4 x5 = some res → va_P D vwCl (wM cI cZ a q σ) H → va_D A (wM cI cZ a q σ) → va_S A s.heap H locs → lv_has ls 8 [(0, .ref (a 20)), (4, .int x4), (5, .int x5)] → W p l e (rmK 1 22 0 0) s m args below meth c H locs 0 0 (RwQv below args s D A (fun q (σ : StM) => (wM cI cZ a q σ)) res 0 0) (F0 m 38 ls []))  {q : Nat} {σ : StM} {x4 x5 x6 : Int32} (h : f_M_climb_144 k38 σ x4 x5 x6 = some res) {H : Heap} {locs : List Loc} (hP : va_P D vwCl (wM cI cZ a q σ) H) (hD : va_D A (wM cI cZ a q σ)) (hS : va_S A s.heap H locs) {ls : Array Slot} (hl : lv_has ls 8 [(0, .ref (a 20)), (4, .int x4), (5, .int x5), (6, .int x6)]) : W p l e (rmK 1 22 0 0) s m args below meth c H locs 0 0 (RwQv below args s D A (fun q (σ : StM) => (wM cI cZ a q σ)) res 0 0) (F0 m 144 ls []) := by
  obtain ⟨hx, hb, hr, hml, hown, hts, hlk, hK⟩ := id C0
  unfold f_M_climb_144 at h
  refine lv_aload_n hx hb d_M_climb_144 rfl (lv_at hl 0 rfl) ?_
  refine va_get (ci := 4) (v := .ref (a 24)) (C := R_M) (T := F_M) (N := 35) hx hb hts i_M hown hK.1 hP 0 rfl rfl 7 (by decide) (hts _ wd_338) (fun _ h9 => h9) rfl d_M_climb_145 ?_
  refine lv_bipush (v := 30) hx hb d_M_climb_148 (by decide) ?_
  refine lv_iload hx hb d_M_climb_150 (lv_at hl 2 rfl) ?_
  refine lv_imul hx hb d_M_climb_152 ?_
  refine lv_iload hx hb d_M_climb_153 (lv_at hl 3 rfl) ?_
  refine lv_iadd hx hb d_M_climb_155 ?_
  replace h := gd h
  obtain ⟨hi, h⟩ := h
  refine va_iald hx hb hK.1 hP 4 0 rfl rfl hi d_M_climb_156 ?_
  refine lv_istore (lv' := [(5, .int ((M_directTo σ) ((30 * x5) + x6).toNatClampNeg)), (0, .ref (a 20)), (4, .int x4), (6, .int x6)]) hx hb d_M_climb_157 hl (by decide) rfl (fun ls hl => ?_)
  refine lv_goto (tgt := 38) hx hb d_M_climb_159 (by decide) ?_
  exact hk38 _ _ _ _ _ _ _ h hP hD hS (lv_sub hl [1, 2, 0] rfl)
set_option maxHeartbeats 4000000 in
set_option maxRecDepth 100000 in
theorem t_M_climb_135 {p : Program} {l : Launch} {e : Env} {s : State} {m : MethodId} {args : Array Value} {below : List Frame} {meth : Method} {c : Code} {D : va_G} {cI cZ : ClassId} {a : Nat → Nat} {A : Nat → Prop} (C0 : Am p s m args meth c b_M_climb none 8 R_M D [(cI, .int), (cZ, .boolean)]) (hA : ∀ q, s.heap.size ≤ q → A q) {res : Int32 × StM} {k38 : StM → Int32 → Int32 → Option (Int32 × StM)} (hk38 : ∀ (q : Nat) (σ : StM) (x4 x5 : Int32) (H : Heap) (locs : List Loc) (ls : Array Slot), k38 σ x4 x5 = some res → va_P D vwCl (wM cI cZ a q σ) H → va_D A (wM cI cZ a q σ) → va_S A s.heap H locs → lv_has ls 8 [(0, .ref (a 20)), (4, .int x4), (5, .int x5)] → W p l e (rmK 1 22 0 0) s m args below meth c H locs 0 0 (RwQv below args s D A (fun q (σ : StM) => (wM cI cZ a q σ)) res 0 0) (F0 m 38 ls []))  {q : Nat} {σ : StM} {x4 x5 x6 x7 t1 : Int32} (h : f_M_climb_135 k38 σ x4 x5 x6 x7 t1 = some res) {H : Heap} {locs : List Loc} (hP : va_P D vwCl (wM cI cZ a q σ) H) (hD : va_D A (wM cI cZ a q σ)) (hS : va_S A s.heap H locs) {ls : Array Slot} (hl : lv_has ls 8 [(0, .ref (a 20)), (4, .int x4), (5, .int x5), (6, .int x6), (7, .int x7)]) : W p l e (rmK 1 22 0 0) s m args below meth c H locs 0 0 (RwQv below args s D A (fun q (σ : StM) => (wM cI cZ a q σ)) res 0 0) (F0 m 135 ls [.int t1, .ref (a 20)]) := by
  obtain ⟨hx, hb, hr, hml, hown, hts, hlk, hK⟩ := id C0
  unfold f_M_climb_135 at h
  refine rw_put (v := .int t1) (fty := .int) (C := R_M) (T := F_M) (N := 35) C0 hP hD hS i_M ty_M tyok_M nn_M 0 rfl rfl 20 (by decide) (hts _ wd_346) rfl rfl (by decide +kernel) rfl rfl (Nat.le_of_ble_eq_true rfl) d_M_climb_135 (Wn := (wM cI cZ a q (M_set_foundHow σ t1))) ws_M_set_foundHow (fun H locs hP hD hS => ?_)
  refine lv_aload_n hx hb d_M_climb_138 rfl (lv_at hl 0 rfl) ?_
  refine lv_iload hx hb d_M_climb_139 (lv_at hl 4 rfl) ?_
  refine rw_put (v := .int x7) (fty := .int) (C := R_M) (T := F_M) (N := 35) C0 hP hD hS i_M ty_M tyok_M nn_M 0 rfl rfl 21 (by decide) (hts _ wd_347) rfl rfl (by decide +kernel) rfl rfl (Nat.le_of_ble_eq_true rfl) d_M_climb_141 (Wn := (wM cI cZ a q (M_set_foundType (M_set_foundHow σ t1) x7))) ws_M_set_foundType (fun H locs hP hD hS => ?_)
  exact t_M_climb_144 (a := a) C0 hA hk38 h hP hD hS (lv_sub hl [0, 1, 2, 3] rfl)
set_option maxHeartbeats 4000000 in
set_option maxRecDepth 100000 in
theorem t_M_climb_101 {p : Program} {l : Launch} {e : Env} {s : State} {m : MethodId} {args : Array Value} {below : List Frame} {meth : Method} {c : Code} {D : va_G} {cI cZ : ClassId} {a : Nat → Nat} {A : Nat → Prop} (C0 : Am p s m args meth c b_M_climb none 8 R_M D [(cI, .int), (cZ, .boolean)]) (hA : ∀ q, s.heap.size ≤ q → A q) {res : Int32 × StM} {k38 : StM → Int32 → Int32 → Option (Int32 × StM)} (hk38 : ∀ (q : Nat) (σ : StM) (x4 x5 : Int32) (H : Heap) (locs : List Loc) (ls : Array Slot), k38 σ x4 x5 = some res → va_P D vwCl (wM cI cZ a q σ) H → va_D A (wM cI cZ a q σ) → va_S A s.heap H locs → lv_has ls 8 [(0, .ref (a 20)), (4, .int x4), (5, .int x5)] → W p l e (rmK 1 22 0 0) s m args below meth c H locs 0 0 (RwQv below args s D A (fun q (σ : StM) => (wM cI cZ a q σ)) res 0 0) (F0 m 38 ls []))  {q : Nat} {σ : StM} {x4 x5 x6 : Int32} (h : f_M_climb_101 k38 σ x4 x5 x6 = some res) {H : Heap} {locs : List Loc} (hP : va_P D vwCl (wM cI cZ a q σ) H) (hD : va_D A (wM cI cZ a q σ)) (hS : va_S A s.heap H locs) {ls : Array Slot} (hl : lv_has ls 8 [(0, .ref (a 20)), (4, .int x4), (5, .int x5), (6, .int x6)]) : W p l e (rmK 1 22 0 0) s m args below meth c H locs 0 0 (RwQv below args s D A (fun q (σ : StM) => (wM cI cZ a q σ)) res 0 0) (F0 m 101 ls []) := by
  obtain ⟨hx, hb, hr, hml, hown, hts, hlk, hK⟩ := id C0
  unfold f_M_climb_101 at h
  refine lv_aload_n hx hb d_M_climb_101 rfl (lv_at hl 0 rfl) ?_
  refine va_get (ci := 4) (v := .ref (a 25)) (C := R_M) (T := F_M) (N := 35) hx hb hts i_M hown hK.1 hP 0 rfl rfl 8 (by decide) (hts _ wd_340) (fun _ h9 => h9) rfl d_M_climb_102 ?_
  refine lv_bipush (v := 30) hx hb d_M_climb_105 (by decide) ?_
  refine lv_iload hx hb d_M_climb_107 (lv_at hl 2 rfl) ?_
  refine lv_imul hx hb d_M_climb_109 ?_
  refine lv_iload hx hb d_M_climb_110 (lv_at hl 3 rfl) ?_
  refine lv_iadd hx hb d_M_climb_112 ?_
  replace h := gd h
  obtain ⟨hi, h⟩ := h
  refine va_iald hx hb hK.1 hP 5 0 rfl rfl hi d_M_climb_113 ?_
  refine lv_istore (lv' := [(7, .int ((M_directArg σ) ((30 * x5) + x6).toNatClampNeg)), (0, .ref (a 20)), (4, .int x4), (5, .int x5), (6, .int x6)]) hx hb d_M_climb_114 hl (by decide) rfl (fun ls hl => ?_)
  refine lv_iload hx hb d_M_climb_116 (lv_at hl 0 rfl) ?_
  refine lv_bipush (v := (-2)) hx hb d_M_climb_118 (by decide) ?_
  refine lv_icmp_eq (tgt := 144) hx hb d_M_climb_120 (by decide) (fun hc => ?_) (fun hc => ?_)
  · rw [if_pos hc] at h
    exact t_M_climb_144 (a := a) C0 hA hk38 h hP hD hS (lv_sub hl [1, 2, 3, 4] rfl)
  · rw [if_neg hc] at h
    refine lv_aload_n hx hb d_M_climb_123 rfl (lv_at hl 1 rfl) ?_
    refine lv_iload hx hb d_M_climb_124 (lv_at hl 0 rfl) ?_
    refine lv_iconst (v := (-1)) hx hb d_M_climb_126 (by decide) ?_
    refine lv_icmp_ne (tgt := 134) hx hb d_M_climb_127 (by decide) (fun hc => ?_) (fun hc => ?_)
    · rw [if_neg hc] at h
      refine lv_iconst (v := 1) hx hb d_M_climb_134 (by decide) ?_
      exact t_M_climb_135 (a := a) C0 hA hk38 h hP hD hS (lv_sub hl [1, 2, 3, 4, 0] rfl)
    · rw [if_pos hc] at h
      refine lv_iconst (v := 0) hx hb d_M_climb_130 (by decide) ?_
      refine lv_goto (tgt := 135) hx hb d_M_climb_131 (by decide) ?_
      exact t_M_climb_135 (a := a) C0 hA hk38 h hP hD hS (lv_sub hl [1, 2, 3, 4, 0] rfl)
set_option maxHeartbeats 4000000 in
set_option maxRecDepth 100000 in
theorem t_M_climb_55_s {p : Program} {l : Launch} {e : Env} {s : State} {m : MethodId} {args : Array Value} {below : List Frame} {meth : Method} {c : Code} {D : va_G} {cI cZ : ClassId} {a : Nat → Nat} {A : Nat → Prop} (C0 : Am p s m args meth c b_M_climb none 8 R_M D [(cI, .int), (cZ, .boolean)]) (hA : ∀ q, s.heap.size ≤ q → A q) {res : Int32 × StM} {k38 : StM → Int32 → Int32 → Option (Int32 × StM)} {k55 : StM → Int32 → Int32 → Int32 → Option (Int32 × StM)} (hk38 : ∀ (q : Nat) (σ : StM) (x4 x5 : Int32) (H : Heap) (locs : List Loc) (ls : Array Slot), k38 σ x4 x5 = some res → va_P D vwCl (wM cI cZ a q σ) H → va_D A (wM cI cZ a q σ) → va_S A s.heap H locs → lv_has ls 8 [(0, .ref (a 20)), (4, .int x4), (5, .int x5)] → W p l e (rmK 1 22 0 0) s m args below meth c H locs 0 0 (RwQv below args s D A (fun q (σ : StM) => (wM cI cZ a q σ)) res 0 0) (F0 m 38 ls [])) (hk55 : ∀ (q : Nat) (σ : StM) (x4 x5 x6 : Int32) (H : Heap) (locs : List Loc) (ls : Array Slot), k55 σ x4 x5 x6 = some res → va_P D vwCl (wM cI cZ a q σ) H → va_D A (wM cI cZ a q σ) → va_S A s.heap H locs → lv_has ls 8 [(0, .ref (a 20)), (4, .int x4), (5, .int x5), (6, .int x6)] → W p l e (rmK 1 22 0 0) s m args below meth c H locs 0 0 (RwQv below args s D A (fun q (σ : StM) => (wM cI cZ a q σ)) res 0 0) (F0 m 55 ls [])) {q : Nat} {σ : StM} {x4 x5 x6 : Int32} (h : f_M_climb_55_s k38 k55 σ x4 x5 x6 = some res) {H : Heap} {locs : List Loc} (hP : va_P D vwCl (wM cI cZ a q σ) H) (hD : va_D A (wM cI cZ a q σ)) (hS : va_S A s.heap H locs) {ls : Array Slot} (hl : lv_has ls 8 [(0, .ref (a 20)), (4, .int x4), (5, .int x5), (6, .int x6)]) : W p l e (rmK 1 22 0 0) s m args below meth c H locs 0 0 (RwQv below args s D A (fun q (σ : StM) => (wM cI cZ a q σ)) res 0 0) (F0 m 55 ls []) := by
  obtain ⟨hx, hb, hr, hml, hown, hts, hlk, hK⟩ := id C0
  unfold f_M_climb_55_s at h
  refine lv_aload_n hx hb d_M_climb_55 rfl (lv_at hl 0 rfl) ?_
  refine va_get (ci := 4) (v := .ref (a 24)) (C := R_M) (T := F_M) (N := 35) hx hb hts i_M hown hK.1 hP 0 rfl rfl 7 (by decide) (hts _ wd_338) (fun _ h9 => h9) rfl d_M_climb_56 ?_
  refine lv_bipush (v := 30) hx hb d_M_climb_59 (by decide) ?_
  refine lv_iload hx hb d_M_climb_61 (lv_at hl 2 rfl) ?_
  refine lv_imul hx hb d_M_climb_63 ?_
  refine lv_iload hx hb d_M_climb_64 (lv_at hl 3 rfl) ?_
  refine lv_iadd hx hb d_M_climb_66 ?_
  replace h := gd h
  obtain ⟨hi, h⟩ := h
  refine va_iald hx hb hK.1 hP 4 0 rfl rfl hi d_M_climb_67 ?_
  refine lv_iload hx hb d_M_climb_68 (lv_at hl 1 rfl) ?_
  refine lv_icmp_eq (tgt := 101) hx hb d_M_climb_70 (by decide) (fun hc => ?_) (fun hc => ?_)
  · rw [if_pos hc] at h
    exact t_M_climb_101 (a := a) C0 hA hk38 h hP hD hS (lv_sub hl [0, 1, 2, 3] rfl)
  · rw [if_neg hc] at h
    refine lv_aload_n hx hb d_M_climb_73 rfl (lv_at hl 0 rfl) ?_
    refine lv_aload_n hx hb d_M_climb_74 rfl (lv_at hl 0 rfl) ?_
    refine va_get (ci := 4) (v := .ref (a 24)) (C := R_M) (T := F_M) (N := 35) hx hb hts i_M hown hK.1 hP 0 rfl rfl 7 (by decide) (hts _ wd_338) (fun _ h9 => h9) rfl d_M_climb_75 ?_
    refine lv_bipush (v := 30) hx hb d_M_climb_78 (by decide) ?_
    refine lv_iload hx hb d_M_climb_80 (lv_at hl 2 rfl) ?_
    refine lv_imul hx hb d_M_climb_82 ?_
    refine lv_iload hx hb d_M_climb_83 (lv_at hl 3 rfl) ?_
    refine lv_iadd hx hb d_M_climb_85 ?_
    replace h := gd h
    obtain ⟨hi, h⟩ := h
    refine va_iald hx hb hK.1 hP 4 0 rfl rfl hi d_M_climb_86 ?_
    refine lv_iload hx hb d_M_climb_87 (lv_at hl 1 rfl) ?_
    replace h := bd h
    obtain ⟨r1, g1, h⟩ := h
    refine ro_V (n := 2) (ci := 4) (As := [.int ((M_directTo σ) ((30 * x5) + x6).toNatClampNeg), .int x4]) (rest := []) C0 (c_M_under l D cI cZ a q σ ((M_directTo σ) ((30 * x5) + x6).toNatClampNeg) x4 g1) wd_348 ⟨wd_349, wd_350, wd_351, wd_352⟩ (by decide +kernel) ⟨Nat.le_of_ble_eq_true rfl, Nat.le_of_ble_eq_true rfl⟩ hP rfl rfl rfl hl rfl rfl (Nat.le_of_ble_eq_true rfl) ⟨Nat.zero_le _, Nat.zero_le _⟩ d_M_climb_89 ?_
    try dsimp only at h
    refine lv_if_ne (tgt := 101) hx hb d_M_climb_92 (by decide) (fun hc => ?_) (fun hc => ?_)
    · rw [if_neg hc] at h
      exact t_M_climb_101 (a := a) C0 hA hk38 h hP hD hS (lv_sub hl [0, 1, 2, 3] rfl)
    · rw [if_pos hc] at h
      refine lv_iinc (v := (x6 + 1)) (lv' := [(6, .int (x6 + 1)), (0, .ref (a 20)), (4, .int x4), (5, .int x5)]) hx hb d_M_climb_95 hl (k := 3) rfl rfl (by decide) rfl (fun ls hl => ?_)
      refine lv_goto (tgt := 55) hx hb d_M_climb_98 (by decide) ?_
      exact hk55 _ _ _ _ _ _ _ _ h hP hD hS (lv_sub hl [1, 2, 3, 0] rfl)
set_option maxHeartbeats 4000000 in
set_option maxRecDepth 100000 in
theorem t_M_climb_55 {p : Program} {l : Launch} {e : Env} {s : State} {m : MethodId} {args : Array Value} {below : List Frame} {meth : Method} {c : Code} {D : va_G} {cI cZ : ClassId} {a : Nat → Nat} {A : Nat → Prop} (C0 : Am p s m args meth c b_M_climb none 8 R_M D [(cI, .int), (cZ, .boolean)]) (hA : ∀ q, s.heap.size ≤ q → A q) {res : Int32 × StM} {k38 : StM → Int32 → Int32 → Option (Int32 × StM)} (hk38 : ∀ (q : Nat) (σ : StM) (x4 x5 : Int32) (H : Heap) (locs : List Loc) (ls : Array Slot), k38 σ x4 x5 = some res → va_P D vwCl (wM cI cZ a q σ) H → va_D A (wM cI cZ a q σ) → va_S A s.heap H locs → lv_has ls 8 [(0, .ref (a 20)), (4, .int x4), (5, .int x5)] → W p l e (rmK 1 22 0 0) s m args below meth c H locs 0 0 (RwQv below args s D A (fun q (σ : StM) => (wM cI cZ a q σ)) res 0 0) (F0 m 38 ls [])) {n : Nat} {q : Nat} {σ : StM} {x4 x5 x6 : Int32} (h : f_M_climb_55 k38 n σ x4 x5 x6 = some res) {H : Heap} {locs : List Loc} (hP : va_P D vwCl (wM cI cZ a q σ) H) (hD : va_D A (wM cI cZ a q σ)) (hS : va_S A s.heap H locs) {ls : Array Slot} (hl : lv_has ls 8 [(0, .ref (a 20)), (4, .int x4), (5, .int x5), (6, .int x6)]) : W p l e (rmK 1 22 0 0) s m args below meth c H locs 0 0 (RwQv below args s D A (fun q (σ : StM) => (wM cI cZ a q σ)) res 0 0) (F0 m 55 ls []) := by
  induction n generalizing q σ x4 x5 x6 H locs ls with
  | zero => cases h
  | succ n ih => exact t_M_climb_55_s (a := a) C0 hA hk38 (fun _ _ _ _ _ _ _ _ h hP hD hS hl => ih h hP hD hS hl) h hP hD hS hl
set_option maxHeartbeats 4000000 in
set_option maxRecDepth 100000 in
theorem t_M_climb_38_s {p : Program} {l : Launch} {e : Env} {s : State} {m : MethodId} {args : Array Value} {below : List Frame} {meth : Method} {c : Code} {D : va_G} {cI cZ : ClassId} {a : Nat → Nat} {A : Nat → Prop} (C0 : Am p s m args meth c b_M_climb none 8 R_M D [(cI, .int), (cZ, .boolean)]) (hA : ∀ q, s.heap.size ≤ q → A q) {res : Int32 × StM} {k38 : StM → Int32 → Int32 → Option (Int32 × StM)}  (hk38 : ∀ (q : Nat) (σ : StM) (x4 x5 : Int32) (H : Heap) (locs : List Loc) (ls : Array Slot), k38 σ x4 x5 = some res → va_P D vwCl (wM cI cZ a q σ) H → va_D A (wM cI cZ a q σ) → va_S A s.heap H locs → lv_has ls 8 [(0, .ref (a 20)), (4, .int x4), (5, .int x5)] → W p l e (rmK 1 22 0 0) s m args below meth c H locs 0 0 (RwQv below args s D A (fun q (σ : StM) => (wM cI cZ a q σ)) res 0 0) (F0 m 38 ls [])) {q : Nat} {σ : StM} {x4 x5 : Int32} (h : f_M_climb_38_s k38 σ x4 x5 = some res) {H : Heap} {locs : List Loc} (hP : va_P D vwCl (wM cI cZ a q σ) H) (hD : va_D A (wM cI cZ a q σ)) (hS : va_S A s.heap H locs) {ls : Array Slot} (hl : lv_has ls 8 [(0, .ref (a 20)), (4, .int x4), (5, .int x5)]) : W p l e (rmK 1 22 0 0) s m args below meth c H locs 0 0 (RwQv below args s D A (fun q (σ : StM) => (wM cI cZ a q σ)) res 0 0) (F0 m 38 ls []) := by
  obtain ⟨hx, hb, hr, hml, hown, hts, hlk, hK⟩ := id C0
  unfold f_M_climb_38_s at h
  refine lv_aload_n hx hb d_M_climb_38 rfl (lv_at hl 0 rfl) ?_
  refine va_get (ci := 4) (v := .int (M_found σ)) (C := R_M) (T := F_M) (N := 35) hx hb hts i_M hown hK.1 hP 0 rfl rfl 19 (by decide) (hts _ wd_345) (fun _ h9 => h9) rfl d_M_climb_39 ?_
  refine lv_if_eq (tgt := 162) hx hb d_M_climb_42 (by decide) (fun hc => ?_) (fun hc => ?_)
  · rw [if_pos hc] at h
    exact rw_retv C0 hP hD hS (Option.some.inj h) d_M_climb_162
  · rw [if_neg hc] at h
    refine lv_iload hx hb d_M_climb_45 (lv_at hl 2 rfl) ?_
    refine lv_iload hx hb d_M_climb_47 (lv_at hl 1 rfl) ?_
    refine lv_icmp_eq (tgt := 162) hx hb d_M_climb_49 (by decide) (fun hc => ?_) (fun hc => ?_)
    · rw [if_pos hc] at h
      exact rw_retv C0 hP hD hS (Option.some.inj h) d_M_climb_162
    · rw [if_neg hc] at h
      refine lv_iconst (v := 0) hx hb d_M_climb_52 (by decide) ?_
      refine lv_istore (lv' := [(6, .int 0), (0, .ref (a 20)), (4, .int x4), (5, .int x5)]) hx hb d_M_climb_53 hl (by decide) rfl (fun ls hl => ?_)
      exact t_M_climb_55 (a := a) C0 hA hk38 h hP hD hS (lv_sub hl [1, 2, 3, 0] rfl)
set_option maxHeartbeats 4000000 in
set_option maxRecDepth 100000 in
theorem t_M_climb_38 {p : Program} {l : Launch} {e : Env} {s : State} {m : MethodId} {args : Array Value} {below : List Frame} {meth : Method} {c : Code} {D : va_G} {cI cZ : ClassId} {a : Nat → Nat} {A : Nat → Prop} (C0 : Am p s m args meth c b_M_climb none 8 R_M D [(cI, .int), (cZ, .boolean)]) (hA : ∀ q, s.heap.size ≤ q → A q) {res : Int32 × StM}  {n : Nat} {q : Nat} {σ : StM} {x4 x5 : Int32} (h : f_M_climb_38  n σ x4 x5 = some res) {H : Heap} {locs : List Loc} (hP : va_P D vwCl (wM cI cZ a q σ) H) (hD : va_D A (wM cI cZ a q σ)) (hS : va_S A s.heap H locs) {ls : Array Slot} (hl : lv_has ls 8 [(0, .ref (a 20)), (4, .int x4), (5, .int x5)]) : W p l e (rmK 1 22 0 0) s m args below meth c H locs 0 0 (RwQv below args s D A (fun q (σ : StM) => (wM cI cZ a q σ)) res 0 0) (F0 m 38 ls []) := by
  induction n generalizing q σ x4 x5 H locs ls with
  | zero => cases h
  | succ n ih => exact t_M_climb_38_s (a := a) C0 hA  (fun _ _ _ _ _ _ _ h hP hD hS hl => ih h hP hD hS hl) h hP hD hS hl
set_option maxHeartbeats 4000000 in
set_option maxRecDepth 100000 in
theorem t_M_climb_22 {p : Program} {l : Launch} {e : Env} {s : State} {m : MethodId} {args : Array Value} {below : List Frame} {meth : Method} {c : Code} {D : va_G} {cI cZ : ClassId} {a : Nat → Nat} {A : Nat → Prop} (C0 : Am p s m args meth c b_M_climb none 8 R_M D [(cI, .int), (cZ, .boolean)]) (hA : ∀ q, s.heap.size ≤ q → A q) {res : Int32 × StM}   {q : Nat} {σ : StM} {x1 x2 x3 x4 t1 : Int32} (h : f_M_climb_22 σ x1 x2 x3 x4 t1 = some res) {H : Heap} {locs : List Loc} (hP : va_P D vwCl (wM cI cZ a q σ) H) (hD : va_D A (wM cI cZ a q σ)) (hS : va_S A s.heap H locs) {ls : Array Slot} (hl : lv_has ls 8 [(0, .ref (a 20)), (1, .int x1), (2, .int x2), (3, .int x3), (4, .int x4)]) : W p l e (rmK 1 22 0 0) s m args below meth c H locs 0 0 (RwQv below args s D A (fun q (σ : StM) => (wM cI cZ a q σ)) res 0 0) (F0 m 22 ls [.int t1, .ref (a 20)]) := by
  obtain ⟨hx, hb, hr, hml, hown, hts, hlk, hK⟩ := id C0
  unfold f_M_climb_22 at h
  replace h := gd h
  obtain ⟨hi, h⟩ := h
  refine rw_put (v := .int t1) (fty := .boolean) (C := R_M) (T := F_M) (N := 35) C0 hP hD hS i_M ty_M tyok_M nn_M 0 rfl rfl 19 (by decide) (hts _ wd_345) rfl rfl (by decide +kernel) (zb_n hi) (zb_f hi) (Nat.le_of_ble_eq_true rfl) d_M_climb_22 (Wn := (wM cI cZ a q (M_set_found σ t1))) ws_M_set_found (fun H locs hP hD hS => ?_)
  refine lv_iload_n hx hb d_M_climb_25 rfl (lv_at hl 1 rfl) ?_
  refine lv_istore (lv' := [(5, .int x1), (0, .ref (a 20)), (1, .int x1), (2, .int x2), (3, .int x3), (4, .int x4)]) hx hb d_M_climb_26 hl (by decide) rfl (fun ls hl => ?_)
  refine lv_aload_n hx hb d_M_climb_28 rfl (lv_at hl 1 rfl) ?_
  refine lv_iload_n hx hb d_M_climb_29 rfl (lv_at hl 3 rfl) ?_
  refine rw_put (v := .int x2) (fty := .int) (C := R_M) (T := F_M) (N := 35) C0 hP hD hS i_M ty_M tyok_M nn_M 0 rfl rfl 20 (by decide) (hts _ wd_346) rfl rfl (by decide +kernel) rfl rfl (Nat.le_of_ble_eq_true rfl) d_M_climb_30 (Wn := (wM cI cZ a q (M_set_foundHow (M_set_found σ t1) x2))) ws_M_set_foundHow (fun H locs hP hD hS => ?_)
  refine lv_aload_n hx hb d_M_climb_33 rfl (lv_at hl 1 rfl) ?_
  refine lv_iload_n hx hb d_M_climb_34 rfl (lv_at hl 4 rfl) ?_
  refine rw_put (v := .int x3) (fty := .int) (C := R_M) (T := F_M) (N := 35) C0 hP hD hS i_M ty_M tyok_M nn_M 0 rfl rfl 21 (by decide) (hts _ wd_347) rfl rfl (by decide +kernel) rfl rfl (Nat.le_of_ble_eq_true rfl) d_M_climb_35 (Wn := (wM cI cZ a q (M_set_foundType (M_set_foundHow (M_set_found σ t1) x2) x3))) ws_M_set_foundType (fun H locs hP hD hS => ?_)
  exact t_M_climb_38 (a := a) C0 hA  h hP hD hS (lv_sub hl [1, 5, 0] rfl)
set_option maxHeartbeats 4000000 in
set_option maxRecDepth 100000 in
theorem t_M_climb_17 {p : Program} {l : Launch} {e : Env} {s : State} {m : MethodId} {args : Array Value} {below : List Frame} {meth : Method} {c : Code} {D : va_G} {cI cZ : ClassId} {a : Nat → Nat} {A : Nat → Prop} (C0 : Am p s m args meth c b_M_climb none 8 R_M D [(cI, .int), (cZ, .boolean)]) (hA : ∀ q, s.heap.size ≤ q → A q) {res : Int32 × StM}   {q : Nat} {σ : StM} {x1 x2 x3 x4 : Int32} (h : f_M_climb_17 σ x1 x2 x3 x4 = some res) {H : Heap} {locs : List Loc} (hP : va_P D vwCl (wM cI cZ a q σ) H) (hD : va_D A (wM cI cZ a q σ)) (hS : va_S A s.heap H locs) {ls : Array Slot} (hl : lv_has ls 8 [(0, .ref (a 20)), (1, .int x1), (2, .int x2), (3, .int x3), (4, .int x4)]) : W p l e (rmK 1 22 0 0) s m args below meth c H locs 0 0 (RwQv below args s D A (fun q (σ : StM) => (wM cI cZ a q σ)) res 0 0) (F0 m 17 ls [.ref (a 20)]) := by
  obtain ⟨hx, hb, hr, hml, hown, hts, hlk, hK⟩ := id C0
  unfold f_M_climb_17 at h
  refine lv_iconst (v := 1) hx hb d_M_climb_17 (by decide) ?_
  refine lv_goto (tgt := 22) hx hb d_M_climb_18 (by decide) ?_
  exact t_M_climb_22 (a := a) C0 hA  h hP hD hS (lv_sub hl [0, 1, 2, 3, 4] rfl)
set_option maxHeartbeats 4000000 in
set_option maxRecDepth 100000 in
theorem t_M_climb_0 {p : Program} {l : Launch} {e : Env} {s : State} {m : MethodId} {args : Array Value} {below : List Frame} {meth : Method} {c : Code} {D : va_G} {cI cZ : ClassId} {a : Nat → Nat} {A : Nat → Prop} (C0 : Am p s m args meth c b_M_climb none 8 R_M D [(cI, .int), (cZ, .boolean)]) (hA : ∀ q, s.heap.size ≤ q → A q) {res : Int32 × StM}   {q : Nat} {σ : StM} {x1 x2 x3 x4 : Int32} (h : f_M_climb σ x1 x2 x3 x4 = some res) {H : Heap} {locs : List Loc} (hP : va_P D vwCl (wM cI cZ a q σ) H) (hD : va_D A (wM cI cZ a q σ)) (hS : va_S A s.heap H locs) {ls : Array Slot} (hl : lv_has ls 8 [(0, .ref (a 20)), (1, .int x1), (2, .int x2), (3, .int x3), (4, .int x4)]) : W p l e (rmK 1 22 0 0) s m args below meth c H locs 0 0 (RwQv below args s D A (fun q (σ : StM) => (wM cI cZ a q σ)) res 0 0) (F0 m 0 ls []) := by
  obtain ⟨hx, hb, hr, hml, hown, hts, hlk, hK⟩ := id C0
  unfold f_M_climb at h
  refine lv_aload_n hx hb d_M_climb_0 rfl (lv_at hl 0 rfl) ?_
  refine lv_iload_n hx hb d_M_climb_1 rfl (lv_at hl 1 rfl) ?_
  refine lv_iload hx hb d_M_climb_2 (lv_at hl 4 rfl) ?_
  refine lv_icmp_eq (tgt := 17) hx hb d_M_climb_4 (by decide) (fun hc => ?_) (fun hc => ?_)
  · rw [if_pos hc] at h
    exact t_M_climb_17 (a := a) C0 hA  h hP hD hS (lv_sub hl [0, 1, 2, 3, 4] rfl)
  · rw [if_neg hc] at h
    refine lv_aload_n hx hb d_M_climb_7 rfl (lv_at hl 0 rfl) ?_
    refine lv_iload_n hx hb d_M_climb_8 rfl (lv_at hl 1 rfl) ?_
    refine lv_iload hx hb d_M_climb_9 (lv_at hl 4 rfl) ?_
    replace h := bd h
    obtain ⟨r2, g2, h⟩ := h
    refine ro_V (n := 2) (ci := 4) (As := [.int x1, .int x4]) (rest := [.ref (a 20)]) C0 (c_M_under l D cI cZ a q σ x1 x4 g2) wd_348 ⟨wd_349, wd_350, wd_351, wd_352⟩ (by decide +kernel) ⟨Nat.le_of_ble_eq_true rfl, Nat.le_of_ble_eq_true rfl⟩ hP rfl rfl rfl hl rfl rfl (Nat.le_of_ble_eq_true rfl) ⟨Nat.zero_le _, Nat.zero_le _⟩ d_M_climb_11 ?_
    try dsimp only at h
    refine lv_if_eq (tgt := 21) hx hb d_M_climb_14 (by decide) (fun hc => ?_) (fun hc => ?_)
    · rw [if_pos hc] at h
      refine lv_iconst (v := 0) hx hb d_M_climb_21 (by decide) ?_
      exact t_M_climb_22 (a := a) C0 hA  h hP hD hS (lv_sub hl [0, 1, 2, 3, 4] rfl)
    · rw [if_neg hc] at h
      exact t_M_climb_17 (a := a) C0 hA  h hP hD hS (lv_sub hl [0, 1, 2, 3, 4] rfl)
set_option maxHeartbeats 4000000 in
set_option maxRecDepth 100000 in
theorem c_M_climb (l : Launch) (D : va_G) (cI cZ : ClassId) (a : Nat → Nat) (q : Nat) (σ : StM) (x1 : Int32) (x2 : Int32) (x3 : Int32) (x4 : Int32) {res : Int32 × StM} (h : f_M_climb σ x1 x2 x3 x4 = some res) : RwMv l y_M_climb b_M_climb 8 1 22 D [(cI, .int), (cZ, .boolean)] [.ref (a 20), .int x1, .int x2, .int x3, .int x4] (fun q (σ : StM) => (wM cI cZ a q σ)) q σ res :=
  rw_ofv (by decide) (Nat.le_of_ble_eq_true rfl) (fun p e s m args below meth c ls A C0 hA hP hD hS hl => t_M_climb_0 (a := a) C0 hA h hP hD hS (lv_sub hl [0, 1, 2, 3, 4] rfl))
-- part 07.6M.08M_lookAt.lean.txt
def f_M_lookAt_57_s (k57 : StM → Int32 → Int32 → Int32 → Option (Int32 × StM)) (σ : StM) (x2 x3 x4 : Int32) : Option (Int32 × StM) :=
  if x3 < 0 ∨ 300 ≤ x3.toNatClampNeg then none else
  if ((M_partCount σ) x3.toNatClampNeg) ≤ x4 then
    some (0, σ)
  else
    if (M_found σ) = 0 then
      if ((30 * x3) + x4) < 0 ∨ 9000 ≤ ((30 * x3) + x4).toNatClampNeg then none else
      if ((M_partRow σ) ((30 * x3) + x4).toNatClampNeg) < 0 ∨ 300 ≤ ((M_partRow σ) ((30 * x3) + x4).toNatClampNeg).toNatClampNeg then none else
      if ((M_partRow σ) ((30 * x3) + x4).toNatClampNeg) < 0 ∨ 300 ≤ ((M_partRow σ) ((30 * x3) + x4).toNatClampNeg).toNatClampNeg then none else
      if ((M_partRow σ) ((30 * x3) + x4).toNatClampNeg) < 0 ∨ 300 ≤ ((M_partRow σ) ((30 * x3) + x4).toNatClampNeg).toNatClampNeg then none else
      (f_M_climb σ ((M_classOf σ) ((M_partRow σ) ((30 * x3) + x4).toNatClampNeg).toNatClampNeg) ((M_how σ) ((M_partRow σ) ((30 * x3) + x4).toNatClampNeg).toNatClampNeg) ((M_inner σ) ((M_partRow σ) ((30 * x3) + x4).toNatClampNeg).toNatClampNeg) x2).bind fun r1 =>
      k57 r1.2 x2 x3 (x4 + 1)
    else
      some (0, σ)
def f_M_lookAt_57 : Nat → StM → Int32 → Int32 → Int32 → Option (Int32 × StM)
  | 0, _, _, _, _ => none
  | n + 1, σ, x2, x3, x4 => f_M_lookAt_57_s (f_M_lookAt_57 n) σ x2 x3 x4
def f_M_lookAt_41 (σ : StM) (x2 x3 t1 : Int32) : Option (Int32 × StM) :=
  if t1 ≠ 0 ∧ t1 ≠ 1 then none else
  f_M_lookAt_57 1000 (M_set_foundType (M_set_foundHow (M_set_found σ t1) 0) (-1)) x2 x3 0
def f_M_lookAt_14 (σ : StM) (x2 t0 : Int32) : Option (Int32 × StM) :=
  if t0 < 0 ∨ 300 ≤ t0.toNatClampNeg then none else
  if ((M_kind (M_set_found σ 0)) t0.toNatClampNeg) = 2 then
    if 3 ≤ x2 then
      f_M_lookAt_41 (M_set_found σ 0) x2 t0 0
    else
      f_M_lookAt_41 (M_set_found σ 0) x2 t0 1
  else
    f_M_lookAt_57 1000 (M_set_found σ 0) x2 t0 0
def f_M_lookAt (σ : StM) (x1 x2 : Int32) : Option (Int32 × StM) :=
  if 8 ≤ x1 then
    f_M_lookAt_14 σ x2 x1
  else
    f_M_lookAt_14 σ x2 (x1 + 8)
set_option maxHeartbeats 4000000 in
set_option maxRecDepth 100000 in
theorem t_M_lookAt_57_s {p : Program} {l : Launch} {e : Env} {s : State} {m : MethodId} {args : Array Value} {below : List Frame} {meth : Method} {c : Code} {D : va_G} {cI cZ : ClassId} {a : Nat → Nat} {A : Nat → Prop} (C0 : Am p s m args meth c b_M_lookAt none 6 R_M D [(cI, .int), (cZ, .boolean)]) (hA : ∀ q, s.heap.size ≤ q → A q) {res : Int32 × StM} {k57 : StM → Int32 → Int32 → Int32 → Option (Int32 × StM)}  (hk57 : ∀ (q : Nat) (σ : StM) (x2 x3 x4 : Int32) (H : Heap) (locs : List Loc) (ls : Array Slot), k57 σ x2 x3 x4 = some res → va_P D vwCl (wM cI cZ a q σ) H → va_D A (wM cI cZ a q σ) → va_S A s.heap H locs → lv_has ls 6 [(0, .ref (a 20)), (2, .int x2), (3, .int x3), (4, .int x4)] → W p l e (rmK 2 49 0 0) s m args below meth c H locs 0 0 (RwQv below args s D A (fun q (σ : StM) => (wM cI cZ a q σ)) res 0 0) (F0 m 57 ls [])) {q : Nat} {σ : StM} {x2 x3 x4 : Int32} (h : f_M_lookAt_57_s k57 σ x2 x3 x4 = some res) {H : Heap} {locs : List Loc} (hP : va_P D vwCl (wM cI cZ a q σ) H) (hD : va_D A (wM cI cZ a q σ)) (hS : va_S A s.heap H locs) {ls : Array Slot} (hl : lv_has ls 6 [(0, .ref (a 20)), (2, .int x2), (3, .int x3), (4, .int x4)]) : W p l e (rmK 2 49 0 0) s m args below meth c H locs 0 0 (RwQv below args s D A (fun q (σ : StM) => (wM cI cZ a q σ)) res 0 0) (F0 m 57 ls []) := by
  obtain ⟨hx, hb, hr, hml, hown, hts, hlk, hK⟩ := id C0
  unfold f_M_lookAt_57_s at h
  refine lv_iload hx hb d_M_lookAt_57 (lv_at hl 3 rfl) ?_
  refine lv_aload_n hx hb d_M_lookAt_59 rfl (lv_at hl 0 rfl) ?_
  refine va_get (ci := 4) (v := .ref (a 32)) (C := R_M) (T := F_M) (N := 35) hx hb hts i_M hown hK.1 hP 0 rfl rfl 16 (by decide) (hts _ wd_354) (fun _ h9 => h9) rfl d_M_lookAt_60 ?_
  refine lv_iload_n hx hb d_M_lookAt_63 rfl (lv_at hl 2 rfl) ?_
  replace h := gd h
  obtain ⟨hi, h⟩ := h
  refine va_iald hx hb hK.1 hP 12 0 rfl rfl hi d_M_lookAt_64 ?_
  refine lv_icmp_ge (tgt := 121) hx hb d_M_lookAt_65 (by decide) (fun hc => ?_) (fun hc => ?_)
  · rw [if_pos hc] at h
    exact rw_retv C0 hP hD hS (Option.some.inj h) d_M_lookAt_121
  · rw [if_neg hc] at h
    refine lv_aload_n hx hb d_M_lookAt_68 rfl (lv_at hl 0 rfl) ?_
    refine va_get (ci := 4) (v := .int (M_found σ)) (C := R_M) (T := F_M) (N := 35) hx hb hts i_M hown hK.1 hP 0 rfl rfl 19 (by decide) (hts _ wd_345) (fun _ h9 => h9) rfl d_M_lookAt_69 ?_
    refine lv_if_ne (tgt := 121) hx hb d_M_lookAt_72 (by decide) (fun hc => ?_) (fun hc => ?_)
    · rw [if_neg hc] at h
      exact rw_retv C0 hP hD hS (Option.some.inj h) d_M_lookAt_121
    · rw [if_pos hc] at h
      refine lv_aload_n hx hb d_M_lookAt_75 rfl (lv_at hl 0 rfl) ?_
      refine va_get (ci := 4) (v := .ref (a 33)) (C := R_M) (T := F_M) (N := 35) hx hb hts i_M hown hK.1 hP 0 rfl rfl 17 (by decide) (hts _ wd_355) (fun _ h9 => h9) rfl d_M_lookAt_76 ?_
      refine lv_bipush (v := 30) hx hb d_M_lookAt_79 (by decide) ?_
      refine lv_iload_n hx hb d_M_lookAt_81 rfl (lv_at hl 2 rfl) ?_
      refine lv_imul hx hb d_M_lookAt_82 ?_
      refine lv_iload hx hb d_M_lookAt_83 (lv_at hl 3 rfl) ?_
      refine lv_iadd hx hb d_M_lookAt_85 ?_
      replace h := gd h
      obtain ⟨hi, h⟩ := h
      refine va_iald hx hb hK.1 hP 13 0 rfl rfl hi d_M_lookAt_86 ?_
      refine lv_istore (lv' := [(5, .int ((M_partRow σ) ((30 * x3) + x4).toNatClampNeg)), (0, .ref (a 20)), (2, .int x2), (3, .int x3), (4, .int x4)]) hx hb d_M_lookAt_87 hl (by decide) rfl (fun ls hl => ?_)
      refine lv_aload_n hx hb d_M_lookAt_89 rfl (lv_at hl 1 rfl) ?_
      refine lv_aload_n hx hb d_M_lookAt_90 rfl (lv_at hl 1 rfl) ?_
      refine va_get (ci := 4) (v := .ref (a 28)) (C := R_M) (T := F_M) (N := 35) hx hb hts i_M hown hK.1 hP 0 rfl rfl 12 (by decide) (hts _ wd_356) (fun _ h9 => h9) rfl d_M_lookAt_91 ?_
      refine lv_iload hx hb d_M_lookAt_94 (lv_at hl 0 rfl) ?_
      replace h := gd h
      obtain ⟨hi, h⟩ := h
      refine va_iald hx hb hK.1 hP 8 0 rfl rfl hi d_M_lookAt_96 ?_
      refine lv_aload_n hx hb d_M_lookAt_97 rfl (lv_at hl 1 rfl) ?_
      refine va_get (ci := 4) (v := .ref (a 29)) (C := R_M) (T := F_M) (N := 35) hx hb hts i_M hown hK.1 hP 0 rfl rfl 13 (by decide) (hts _ wd_357) (fun _ h9 => h9) rfl d_M_lookAt_98 ?_
      refine lv_iload hx hb d_M_lookAt_101 (lv_at hl 0 rfl) ?_
      replace h := gd h
      obtain ⟨hi, h⟩ := h
      refine va_iald hx hb hK.1 hP 9 0 rfl rfl hi d_M_lookAt_103 ?_
      refine lv_aload_n hx hb d_M_lookAt_104 rfl (lv_at hl 1 rfl) ?_
      refine va_get (ci := 4) (v := .ref (a 30)) (C := R_M) (T := F_M) (N := 35) hx hb hts i_M hown hK.1 hP 0 rfl rfl 14 (by decide) (hts _ wd_358) (fun _ h9 => h9) rfl d_M_lookAt_105 ?_
      refine lv_iload hx hb d_M_lookAt_108 (lv_at hl 0 rfl) ?_
      replace h := gd h
      obtain ⟨hi, h⟩ := h
      refine va_iald hx hb hK.1 hP 10 0 rfl rfl hi d_M_lookAt_110 ?_
      refine lv_iload_n hx hb d_M_lookAt_111 rfl (lv_at hl 2 rfl) ?_
      replace h := bd h
      obtain ⟨r1, g1, h⟩ := h
      refine rw_Vv (n := 4) (ci := 4) (As := [.int ((M_classOf σ) ((M_partRow σ) ((30 * x3) + x4).toNatClampNeg).toNatClampNeg), .int ((M_how σ) ((M_partRow σ) ((30 * x3) + x4).toNatClampNeg).toNatClampNeg), .int ((M_inner σ) ((M_partRow σ) ((30 * x3) + x4).toNatClampNeg).toNatClampNeg), .int x2]) (rest := []) (Wn := fun _ => (wM cI cZ a q r1.2)) C0 hA (c_M_climb l D cI cZ a q σ ((M_classOf σ) ((M_partRow σ) ((30 * x3) + x4).toNatClampNeg).toNatClampNeg) ((M_how σ) ((M_partRow σ) ((30 * x3) + x4).toNatClampNeg).toNatClampNeg) ((M_inner σ) ((M_partRow σ) ((30 * x3) + x4).toNatClampNeg).toNatClampNeg) x2 g1) wd_359 ⟨wd_360, wd_361, wd_362, wd_352⟩ (by decide +kernel) ⟨Nat.le_of_ble_eq_true rfl, Nat.le_of_ble_eq_true rfl⟩ hP hD hS [0, 1, 2, 3, 4, 5, 6, 7, 8, 9, 10, 11, 12, 13, 14, 15, 16, 17, 18, 19, 20, 21, 22, 23] [] [0, 1, 2, 3, 4, 5, 6, 7, 8, 9, 10, 11, 12, 13, 14, 15, 16, 17, 18, 19, 20, 21, 22, 23] jn_M__C (by decide) jn_M__R (by decide) (by decide) (by decide) jn_M__W rfl rfl rfl hl rfl rfl (Nat.le_of_ble_eq_true rfl) ⟨Nat.zero_le _, Nat.zero_le _⟩ d_M_lookAt_112 (fun H locs _ hP hD hS => ?_)
      try dsimp only at h
      refine lv_iinc (v := (x4 + 1)) (lv' := [(4, .int (x4 + 1)), (5, .int ((M_partRow σ) ((30 * x3) + x4).toNatClampNeg)), (0, .ref (a 20)), (2, .int x2), (3, .int x3)]) hx hb d_M_lookAt_115 hl (k := 4) rfl rfl (by decide) rfl (fun ls hl => ?_)
      refine lv_goto (tgt := 57) hx hb d_M_lookAt_118 (by decide) ?_
      exact hk57 _ _ _ _ _ _ _ _ h hP hD hS (lv_sub hl [2, 3, 4, 0] rfl)
set_option maxHeartbeats 4000000 in
set_option maxRecDepth 100000 in
theorem t_M_lookAt_57 {p : Program} {l : Launch} {e : Env} {s : State} {m : MethodId} {args : Array Value} {below : List Frame} {meth : Method} {c : Code} {D : va_G} {cI cZ : ClassId} {a : Nat → Nat} {A : Nat → Prop} (C0 : Am p s m args meth c b_M_lookAt none 6 R_M D [(cI, .int), (cZ, .boolean)]) (hA : ∀ q, s.heap.size ≤ q → A q) {res : Int32 × StM}  {n : Nat} {q : Nat} {σ : StM} {x2 x3 x4 : Int32} (h : f_M_lookAt_57  n σ x2 x3 x4 = some res) {H : Heap} {locs : List Loc} (hP : va_P D vwCl (wM cI cZ a q σ) H) (hD : va_D A (wM cI cZ a q σ)) (hS : va_S A s.heap H locs) {ls : Array Slot} (hl : lv_has ls 6 [(0, .ref (a 20)), (2, .int x2), (3, .int x3), (4, .int x4)]) : W p l e (rmK 2 49 0 0) s m args below meth c H locs 0 0 (RwQv below args s D A (fun q (σ : StM) => (wM cI cZ a q σ)) res 0 0) (F0 m 57 ls []) := by
  induction n generalizing q σ x2 x3 x4 H locs ls with
  | zero => cases h
  | succ n ih => exact t_M_lookAt_57_s (a := a) C0 hA  (fun _ _ _ _ _ _ _ _ h hP hD hS hl => ih h hP hD hS hl) h hP hD hS hl
set_option maxHeartbeats 4000000 in
set_option maxRecDepth 100000 in
theorem t_M_lookAt_41 {p : Program} {l : Launch} {e : Env} {s : State} {m : MethodId} {args : Array Value} {below : List Frame} {meth : Method} {c : Code} {D : va_G} {cI cZ : ClassId} {a : Nat → Nat} {A : Nat → Prop} (C0 : Am p s m args meth c b_M_lookAt none 6 R_M D [(cI, .int), (cZ, .boolean)]) (hA : ∀ q, s.heap.size ≤ q → A q) {res : Int32 × StM}   {q : Nat} {σ : StM} {x2 x3 t1 : Int32} (h : f_M_lookAt_41 σ x2 x3 t1 = some res) {H : Heap} {locs : List Loc} (hP : va_P D vwCl (wM cI cZ a q σ) H) (hD : va_D A (wM cI cZ a q σ)) (hS : va_S A s.heap H locs) {ls : Array Slot} (hl : lv_has ls 6 [(0, .ref (a 20)), (2, .int x2), (3, .int x3)]) : W p l e (rmK 2 49 0 0) s m args below meth c H locs 0 0 (RwQv below args s D A (fun q (σ : StM) => (wM cI cZ a q σ)) res 0 0) (F0 m 41 ls [.int t1, .ref (a 20)]) := by
  obtain ⟨hx, hb, hr, hml, hown, hts, hlk, hK⟩ := id C0
  unfold f_M_lookAt_41 at h
  replace h := gd h
  obtain ⟨hi, h⟩ := h
  refine rw_put (v := .int t1) (fty := .boolean) (C := R_M) (T := F_M) (N := 35) C0 hP hD hS i_M ty_M tyok_M nn_M 0 rfl rfl 19 (by decide) (hts _ wd_345) rfl rfl (by decide +kernel) (zb_n hi) (zb_f hi) (Nat.le_of_ble_eq_true rfl) d_M_lookAt_41 (Wn := (wM cI cZ a q (M_set_found σ t1))) ws_M_set_found (fun H locs hP hD hS => ?_)
  refine lv_aload_n hx hb d_M_lookAt_44 rfl (lv_at hl 0 rfl) ?_
  refine lv_iconst (v := 0) hx hb d_M_lookAt_45 (by decide) ?_
  refine rw_put (v := .int 0) (fty := .int) (C := R_M) (T := F_M) (N := 35) C0 hP hD hS i_M ty_M tyok_M nn_M 0 rfl rfl 20 (by decide) (hts _ wd_346) rfl rfl (by decide +kernel) rfl rfl (Nat.le_of_ble_eq_true rfl) d_M_lookAt_46 (Wn := (wM cI cZ a q (M_set_foundHow (M_set_found σ t1) 0))) ws_M_set_foundHow (fun H locs hP hD hS => ?_)
  refine lv_aload_n hx hb d_M_lookAt_49 rfl (lv_at hl 0 rfl) ?_
  refine lv_iconst (v := (-1)) hx hb d_M_lookAt_50 (by decide) ?_
  refine rw_put (v := .int (-1)) (fty := .int) (C := R_M) (T := F_M) (N := 35) C0 hP hD hS i_M ty_M tyok_M nn_M 0 rfl rfl 21 (by decide) (hts _ wd_347) rfl rfl (by decide +kernel) rfl rfl (Nat.le_of_ble_eq_true rfl) d_M_lookAt_51 (Wn := (wM cI cZ a q (M_set_foundType (M_set_foundHow (M_set_found σ t1) 0) (-1)))) ws_M_set_foundType (fun H locs hP hD hS => ?_)
  refine lv_iconst (v := 0) hx hb d_M_lookAt_54 (by decide) ?_
  refine lv_istore (lv' := [(4, .int 0), (0, .ref (a 20)), (2, .int x2), (3, .int x3)]) hx hb d_M_lookAt_55 hl (by decide) rfl (fun ls hl => ?_)
  exact t_M_lookAt_57 (a := a) C0 hA  h hP hD hS (lv_sub hl [1, 2, 3, 0] rfl)
set_option maxHeartbeats 4000000 in
set_option maxRecDepth 100000 in
theorem t_M_lookAt_14 {p : Program} {l : Launch} {e : Env} {s : State} {m : MethodId} {args : Array Value} {below : List Frame} {meth : Method} {c : Code} {D : va_G} {cI cZ : ClassId} {a : Nat → Nat} {A : Nat → Prop} (C0 : Am p s m args meth c b_M_lookAt none 6 R_M D [(cI, .int), (cZ, .boolean)]) (hA : ∀ q, s.heap.size ≤ q → A q) {res : Int32 × StM}   {q : Nat} {σ : StM} {x2 t0 : Int32} (h : f_M_lookAt_14 σ x2 t0 = some res) {H : Heap} {locs : List Loc} (hP : va_P D vwCl (wM cI cZ a q σ) H) (hD : va_D A (wM cI cZ a q σ)) (hS : va_S A s.heap H locs) {ls : Array Slot} (hl : lv_has ls 6 [(0, .ref (a 20)), (2, .int x2)]) : W p l e (rmK 2 49 0 0) s m args below meth c H locs 0 0 (RwQv below args s D A (fun q (σ : StM) => (wM cI cZ a q σ)) res 0 0) (F0 m 14 ls [.int t0]) := by
  obtain ⟨hx, hb, hr, hml, hown, hts, hlk, hK⟩ := id C0
  unfold f_M_lookAt_14 at h
  refine lv_istore_n (lv' := [(3, .int t0), (0, .ref (a 20)), (2, .int x2)]) hx hb d_M_lookAt_14 rfl hl (by decide) rfl (fun ls hl => ?_)
  refine lv_aload_n hx hb d_M_lookAt_15 rfl (lv_at hl 1 rfl) ?_
  refine lv_iconst (v := 0) hx hb d_M_lookAt_16 (by decide) ?_
  refine rw_put (v := .int 0) (fty := .boolean) (C := R_M) (T := F_M) (N := 35) C0 hP hD hS i_M ty_M tyok_M nn_M 0 rfl rfl 19 (by decide) (hts _ wd_345) rfl rfl (by decide +kernel) rfl rfl (Nat.le_of_ble_eq_true rfl) d_M_lookAt_17 (Wn := (wM cI cZ a q (M_set_found σ 0))) ws_M_set_found (fun H locs hP hD hS => ?_)
  refine lv_aload_n hx hb d_M_lookAt_20 rfl (lv_at hl 1 rfl) ?_
  refine va_get (ci := 4) (v := .ref (a 27)) (C := R_M) (T := F_M) (N := 35) hx hb hts i_M hown hK.1 hP 0 rfl rfl 11 (by decide) (hts _ wd_353) (fun _ h9 => h9) rfl d_M_lookAt_21 ?_
  refine lv_iload_n hx hb d_M_lookAt_24 rfl (lv_at hl 0 rfl) ?_
  replace h := gd h
  obtain ⟨hi, h⟩ := h
  refine va_iald hx hb hK.1 hP 7 0 rfl rfl hi d_M_lookAt_25 ?_
  refine lv_iconst (v := 2) hx hb d_M_lookAt_26 (by decide) ?_
  refine lv_icmp_ne (tgt := 54) hx hb d_M_lookAt_27 (by decide) (fun hc => ?_) (fun hc => ?_)
  · rw [if_neg hc] at h
    refine lv_iconst (v := 0) hx hb d_M_lookAt_54 (by decide) ?_
    refine lv_istore (lv' := [(4, .int 0), (3, .int t0), (0, .ref (a 20)), (2, .int x2)]) hx hb d_M_lookAt_55 hl (by decide) rfl (fun ls hl => ?_)
    exact t_M_lookAt_57 (a := a) C0 hA  h hP hD hS (lv_sub hl [2, 3, 1, 0] rfl)
  · rw [if_pos hc] at h
    refine lv_aload_n hx hb d_M_lookAt_30 rfl (lv_at hl 1 rfl) ?_
    refine lv_iload_n hx hb d_M_lookAt_31 rfl (lv_at hl 2 rfl) ?_
    refine lv_iconst (v := 3) hx hb d_M_lookAt_32 (by decide) ?_
    refine lv_icmp_ge (tgt := 40) hx hb d_M_lookAt_33 (by decide) (fun hc => ?_) (fun hc => ?_)
    · rw [if_pos hc] at h
      refine lv_iconst (v := 0) hx hb d_M_lookAt_40 (by decide) ?_
      exact t_M_lookAt_41 (a := a) C0 hA  h hP hD hS (lv_sub hl [1, 2, 0] rfl)
    · rw [if_neg hc] at h
      refine lv_iconst (v := 1) hx hb d_M_lookAt_36 (by decide) ?_
      refine lv_goto (tgt := 41) hx hb d_M_lookAt_37 (by decide) ?_
      exact t_M_lookAt_41 (a := a) C0 hA  h hP hD hS (lv_sub hl [1, 2, 0] rfl)
set_option maxHeartbeats 4000000 in
set_option maxRecDepth 100000 in
theorem t_M_lookAt_0 {p : Program} {l : Launch} {e : Env} {s : State} {m : MethodId} {args : Array Value} {below : List Frame} {meth : Method} {c : Code} {D : va_G} {cI cZ : ClassId} {a : Nat → Nat} {A : Nat → Prop} (C0 : Am p s m args meth c b_M_lookAt none 6 R_M D [(cI, .int), (cZ, .boolean)]) (hA : ∀ q, s.heap.size ≤ q → A q) {res : Int32 × StM}   {q : Nat} {σ : StM} {x1 x2 : Int32} (h : f_M_lookAt σ x1 x2 = some res) {H : Heap} {locs : List Loc} (hP : va_P D vwCl (wM cI cZ a q σ) H) (hD : va_D A (wM cI cZ a q σ)) (hS : va_S A s.heap H locs) {ls : Array Slot} (hl : lv_has ls 6 [(0, .ref (a 20)), (1, .int x1), (2, .int x2)]) : W p l e (rmK 2 49 0 0) s m args below meth c H locs 0 0 (RwQv below args s D A (fun q (σ : StM) => (wM cI cZ a q σ)) res 0 0) (F0 m 0 ls []) := by
  obtain ⟨hx, hb, hr, hml, hown, hts, hlk, hK⟩ := id C0
  unfold f_M_lookAt at h
  refine lv_iload_n hx hb d_M_lookAt_0 rfl (lv_at hl 1 rfl) ?_
  refine lv_bipush (v := 8) hx hb d_M_lookAt_1 (by decide) ?_
  refine lv_icmp_ge (tgt := 13) hx hb d_M_lookAt_3 (by decide) (fun hc => ?_) (fun hc => ?_)
  · rw [if_pos hc] at h
    refine lv_iload_n hx hb d_M_lookAt_13 rfl (lv_at hl 1 rfl) ?_
    exact t_M_lookAt_14 (a := a) C0 hA  h hP hD hS (lv_sub hl [0, 2] rfl)
  · rw [if_neg hc] at h
    refine lv_iload_n hx hb d_M_lookAt_6 rfl (lv_at hl 1 rfl) ?_
    refine lv_bipush (v := 8) hx hb d_M_lookAt_7 (by decide) ?_
    refine lv_iadd hx hb d_M_lookAt_9 ?_
    refine lv_goto (tgt := 14) hx hb d_M_lookAt_10 (by decide) ?_
    exact t_M_lookAt_14 (a := a) C0 hA  h hP hD hS (lv_sub hl [0, 2] rfl)
set_option maxHeartbeats 4000000 in
set_option maxRecDepth 100000 in
theorem c_M_lookAt (l : Launch) (D : va_G) (cI cZ : ClassId) (a : Nat → Nat) (q : Nat) (σ : StM) (x1 : Int32) (x2 : Int32) {res : Int32 × StM} (h : f_M_lookAt σ x1 x2 = some res) : RwMv l y_M_lookAt b_M_lookAt 6 2 49 D [(cI, .int), (cZ, .boolean)] [.ref (a 20), .int x1, .int x2] (fun q (σ : StM) => (wM cI cZ a q σ)) q σ res :=
  rw_ofv (by decide) (Nat.le_of_ble_eq_true rfl) (fun p e s m args below meth c ls A C0 hA hP hD hS hl => t_M_lookAt_0 (a := a) C0 hA h hP hD hS (lv_sub hl [0, 1, 2] rfl))
