def f_L_liesBelow_159 (rec : StL → Int32 → Int32 → Int32 → Option (Int32 × StL)) (σ : StL) (x1 x2 x5 : Int32) : Option (Int32 × StL) :=
  (f_A_keep (L_answers σ) x1 x2 x5).bind fun r4 =>
  some ((x5 &&& 1), (L_set_answers σ r4.2))
def f_L_liesBelow_137 (rec : StL → Int32 → Int32 → Int32 → Option (Int32 × StL)) (σ : StL) (x1 x2 t0 : Int32) : Option (Int32 × StL) :=
  f_L_liesBelow_159 rec σ x1 x2 t0
def f_L_liesBelow_136 (rec : StL → Int32 → Int32 → Int32 → Option (Int32 × StL)) (σ : StL) (x1 x2 : Int32) : Option (Int32 × StL) :=
  f_L_liesBelow_137 rec σ x1 x2 0
def f_L_liesBelow_s (rec : StL → Int32 → Int32 → Int32 → Option (Int32 × StL)) (σ : StL) (x1 x2 x3 : Int32) : Option (Int32 × StL) :=
  if x1 = x2 then
    some (1, σ)
  else
    if 0 < x3 then
      (f_A_read (L_answers σ) x1 x2).bind fun r1 =>
      if r1 = 0 then
        (f_T_kindOf (L_types σ) x2).bind fun r2 =>
        if r2 = 1 then
          (f_L_hasFittingPart rec σ x1 x2 (x3 - 1)).bind fun r3 =>
          f_L_liesBelow_159 rec r3.2 x1 x2 r3.1
        else if r2 = 2 then
          (f_L_isArrayOfOthers σ x1).bind fun r5 =>
          if r5 = 0 then
            f_L_liesBelow_136 rec σ x1 x2
          else
            (f_L_isArrayOfOthers σ x2).bind fun r6 =>
            if r6 = 0 then
              f_L_liesBelow_136 rec σ x1 x2
            else
              (f_T_elementOf (L_types σ) x1).bind fun r7 =>
              (f_T_elementOf (L_types σ) x2).bind fun r8 =>
              (rec σ r7 r8 (x3 - 1)).bind fun r9 =>
              if r9.1 = 0 then
                f_L_liesBelow_136 rec r9.2 x1 x2
              else
                f_L_liesBelow_137 rec r9.2 x1 x2 1
        else if r2 = 3 then
          (f_L_liesBelowParts rec σ x1 x2 (x3 - 1)).bind fun r10 =>
          f_L_liesBelow_159 rec r10.2 x1 x2 r10.1
        else f_L_liesBelow_159 rec σ x1 x2 0
      else
        if r1 = 2 then
          some (1, σ)
        else
          some (0, σ)
    else
      some (0, σ)
def f_L_liesBelow : Nat → StL → Int32 → Int32 → Int32 → Option (Int32 × StL)
  | 0, _, _, _, _ => none
  | n + 1, σ, x1, x2, x3 => f_L_liesBelow_s (f_L_liesBelow n) σ x1 x2 x3
set_option maxHeartbeats 4000000 in
set_option maxRecDepth 100000 in
theorem t_L_liesBelow_159 {p : Program} {l : Launch} {e : Env} {s : State} {m : MethodId} {args : Array Value} {below : List Frame} {meth : Method} {c : Code} {D : va_G} {cI cZ : ClassId} {a : Nat → Nat} {A : Nat → Prop} (C0 : Am p s m args meth c b_L_liesBelow (some .boolean) 6 R_L D [(cI, .int), (cZ, .boolean)]) (hA : ∀ q, s.heap.size ≤ q → A q) {res : Int32 × StL} {rec : StL → Int32 → Int32 → Int32 → Option (Int32 × StL)} {fr0 lc0 : Nat} (hfr : 4 ≤ fr0) (hlc : 98 ≤ lc0) (hrec : ∀ (q : Nat) (σ : StL) (z0 z1 z2 : Int32) (r : Int32 × StL), rec σ z0 z1 z2 = some r → RwM l y_L_liesBelow b_L_liesBelow 6 (some .boolean) fr0 lc0 D [(cI, .int), (cZ, .boolean)] [.ref (a 0), .int z0, .int z1, .int z2] (fun q (σ : StL) => wL cI cZ a q σ) q σ r)   {q : Nat} {σ : StL} {x1 x2 x5 : Int32} (h : f_L_liesBelow_159 rec σ x1 x2 x5 = some res) {H : Heap} {locs : List Loc} (hP : va_P D vwCl (wL cI cZ a q σ) H) (hD : va_D A (wL cI cZ a q σ)) (hS : va_S A s.heap H locs) {ls : Array Slot} (hl : lv_has ls 6 [(0, .ref (a 0)), (1, .int x1), (2, .int x2), (5, .int x5)]) : W p l e (rmK (fr0 + 2) (lc0 + 53) 0 0) s m args below meth c H locs 0 0 (RwQ below args s D A (fun q (σ : StL) => (wL cI cZ a q σ)) res 0 0) (F0 m 159 ls []) := by
  obtain ⟨hx, hb, hr, hml, hown, hts, hlk, hK⟩ := id C0
  unfold f_L_liesBelow_159 at h
  refine lv_aload_n hx hb d_L_liesBelow_159 rfl (lv_at hl 0 rfl) ?_
  refine va_get (ci := 0) (v := .ref (a 18)) (C := R_L) (T := F_L) (N := 6) hx hb hts i_L hown hK.1 hP 0 rfl rfl 3 (by decide) (hts _ wd_150) (fun _ h9 => h9) rfl d_L_liesBelow_160 ?_
  refine lv_iload_n hx hb d_L_liesBelow_163 rfl (lv_at hl 1 rfl) ?_
  refine lv_iload_n hx hb d_L_liesBelow_164 rfl (lv_at hl 2 rfl) ?_
  refine lv_iload hx hb d_L_liesBelow_165 (lv_at hl 3 rfl) ?_
  replace h := bd h
  obtain ⟨r4, g4, h⟩ := h
  refine rw_Vv (n := 3) (ci := 3) (As := [.int x1, .int x2, .int x5]) (rest := []) (Wn := fun _ => (wL cI cZ a q (L_set_answers σ r4.2))) C0 hA (c_A_keep l D cI cZ a q (L_answers σ) x1 x2 x5 g4) wd_294 ⟨wd_295, wd_296, wd_297, wd_155⟩ (by decide +kernel) ⟨by show 1 + 1 ≤ fr0 + 2; omega, by show 8 + (5 + 11) + 21 ≤ lc0 + 53; omega⟩ hP hD hS [19, 20] [0, 1, 2, 3, 4, 5, 6, 7, 8, 9, 10, 11, 12, 13, 14, 15, 16, 17, 18] [0, 1, 2, 3, 4, 5, 6, 7, 8, 9, 10, 11, 12, 13, 14, 15, 16, 17, 18, 19, 20] jn_L_answers_C (by decide) jn_L_answers_R (by decide) (by decide) (by decide) jn_L_answers_W rfl rfl rfl hl rfl rfl (Nat.le_of_ble_eq_true rfl) ⟨Nat.zero_le _, Nat.zero_le _⟩ d_L_liesBelow_167 (fun H locs _ hP hD hS => ?_)
  try dsimp only at h
  refine lv_iload hx hb d_L_liesBelow_170 (lv_at hl 3 rfl) ?_
  exact rw_retz C0 hP hD hS rfl (Option.some.inj h) d_L_liesBelow_172
set_option maxHeartbeats 4000000 in
set_option maxRecDepth 100000 in
theorem t_L_liesBelow_137 {p : Program} {l : Launch} {e : Env} {s : State} {m : MethodId} {args : Array Value} {below : List Frame} {meth : Method} {c : Code} {D : va_G} {cI cZ : ClassId} {a : Nat → Nat} {A : Nat → Prop} (C0 : Am p s m args meth c b_L_liesBelow (some .boolean) 6 R_L D [(cI, .int), (cZ, .boolean)]) (hA : ∀ q, s.heap.size ≤ q → A q) {res : Int32 × StL} {rec : StL → Int32 → Int32 → Int32 → Option (Int32 × StL)} {fr0 lc0 : Nat} (hfr : 4 ≤ fr0) (hlc : 98 ≤ lc0) (hrec : ∀ (q : Nat) (σ : StL) (z0 z1 z2 : Int32) (r : Int32 × StL), rec σ z0 z1 z2 = some r → RwM l y_L_liesBelow b_L_liesBelow 6 (some .boolean) fr0 lc0 D [(cI, .int), (cZ, .boolean)] [.ref (a 0), .int z0, .int z1, .int z2] (fun q (σ : StL) => wL cI cZ a q σ) q σ r)   {q : Nat} {σ : StL} {x1 x2 t0 : Int32} (h : f_L_liesBelow_137 rec σ x1 x2 t0 = some res) {H : Heap} {locs : List Loc} (hP : va_P D vwCl (wL cI cZ a q σ) H) (hD : va_D A (wL cI cZ a q σ)) (hS : va_S A s.heap H locs) {ls : Array Slot} (hl : lv_has ls 6 [(0, .ref (a 0)), (1, .int x1), (2, .int x2)]) : W p l e (rmK (fr0 + 2) (lc0 + 53) 0 0) s m args below meth c H locs 0 0 (RwQ below args s D A (fun q (σ : StL) => (wL cI cZ a q σ)) res 0 0) (F0 m 137 ls [.int t0]) := by
  obtain ⟨hx, hb, hr, hml, hown, hts, hlk, hK⟩ := id C0
  unfold f_L_liesBelow_137 at h
  refine lv_istore (lv' := [(5, .int t0), (0, .ref (a 0)), (1, .int x1), (2, .int x2)]) hx hb d_L_liesBelow_137 hl (by decide) rfl (fun ls hl => ?_)
  refine lv_goto (tgt := 159) hx hb d_L_liesBelow_139 (by decide) ?_
  exact t_L_liesBelow_159 (a := a) C0 hA hfr hlc hrec  h hP hD hS (lv_sub hl [1, 2, 3, 0] rfl)
set_option maxHeartbeats 4000000 in
set_option maxRecDepth 100000 in
theorem t_L_liesBelow_136 {p : Program} {l : Launch} {e : Env} {s : State} {m : MethodId} {args : Array Value} {below : List Frame} {meth : Method} {c : Code} {D : va_G} {cI cZ : ClassId} {a : Nat → Nat} {A : Nat → Prop} (C0 : Am p s m args meth c b_L_liesBelow (some .boolean) 6 R_L D [(cI, .int), (cZ, .boolean)]) (hA : ∀ q, s.heap.size ≤ q → A q) {res : Int32 × StL} {rec : StL → Int32 → Int32 → Int32 → Option (Int32 × StL)} {fr0 lc0 : Nat} (hfr : 4 ≤ fr0) (hlc : 98 ≤ lc0) (hrec : ∀ (q : Nat) (σ : StL) (z0 z1 z2 : Int32) (r : Int32 × StL), rec σ z0 z1 z2 = some r → RwM l y_L_liesBelow b_L_liesBelow 6 (some .boolean) fr0 lc0 D [(cI, .int), (cZ, .boolean)] [.ref (a 0), .int z0, .int z1, .int z2] (fun q (σ : StL) => wL cI cZ a q σ) q σ r)   {q : Nat} {σ : StL} {x1 x2 : Int32} (h : f_L_liesBelow_136 rec σ x1 x2 = some res) {H : Heap} {locs : List Loc} (hP : va_P D vwCl (wL cI cZ a q σ) H) (hD : va_D A (wL cI cZ a q σ)) (hS : va_S A s.heap H locs) {ls : Array Slot} (hl : lv_has ls 6 [(0, .ref (a 0)), (1, .int x1), (2, .int x2)]) : W p l e (rmK (fr0 + 2) (lc0 + 53) 0 0) s m args below meth c H locs 0 0 (RwQ below args s D A (fun q (σ : StL) => (wL cI cZ a q σ)) res 0 0) (F0 m 136 ls []) := by
  obtain ⟨hx, hb, hr, hml, hown, hts, hlk, hK⟩ := id C0
  unfold f_L_liesBelow_136 at h
  refine lv_iconst (v := 0) hx hb d_L_liesBelow_136 (by decide) ?_
  exact t_L_liesBelow_137 (a := a) C0 hA hfr hlc hrec  h hP hD hS (lv_sub hl [0, 1, 2] rfl)
set_option maxHeartbeats 4000000 in
set_option maxRecDepth 100000 in
theorem t_L_liesBelow_0 {p : Program} {l : Launch} {e : Env} {s : State} {m : MethodId} {args : Array Value} {below : List Frame} {meth : Method} {c : Code} {D : va_G} {cI cZ : ClassId} {a : Nat → Nat} {A : Nat → Prop} (C0 : Am p s m args meth c b_L_liesBelow (some .boolean) 6 R_L D [(cI, .int), (cZ, .boolean)]) (hA : ∀ q, s.heap.size ≤ q → A q) {res : Int32 × StL} {rec : StL → Int32 → Int32 → Int32 → Option (Int32 × StL)} {fr0 lc0 : Nat} (hfr : 4 ≤ fr0) (hlc : 98 ≤ lc0) (hrec : ∀ (q : Nat) (σ : StL) (z0 z1 z2 : Int32) (r : Int32 × StL), rec σ z0 z1 z2 = some r → RwM l y_L_liesBelow b_L_liesBelow 6 (some .boolean) fr0 lc0 D [(cI, .int), (cZ, .boolean)] [.ref (a 0), .int z0, .int z1, .int z2] (fun q (σ : StL) => wL cI cZ a q σ) q σ r)   {q : Nat} {σ : StL} {x1 x2 x3 : Int32} (h : f_L_liesBelow_s rec σ x1 x2 x3 = some res) {H : Heap} {locs : List Loc} (hP : va_P D vwCl (wL cI cZ a q σ) H) (hD : va_D A (wL cI cZ a q σ)) (hS : va_S A s.heap H locs) {ls : Array Slot} (hl : lv_has ls 6 [(0, .ref (a 0)), (1, .int x1), (2, .int x2), (3, .int x3)]) : W p l e (rmK (fr0 + 2) (lc0 + 53) 0 0) s m args below meth c H locs 0 0 (RwQ below args s D A (fun q (σ : StL) => (wL cI cZ a q σ)) res 0 0) (F0 m 0 ls []) := by
  obtain ⟨hx, hb, hr, hml, hown, hts, hlk, hK⟩ := id C0
  unfold f_L_liesBelow_s at h
  refine lv_iload_n hx hb d_L_liesBelow_0 rfl (lv_at hl 1 rfl) ?_
  refine lv_iload_n hx hb d_L_liesBelow_1 rfl (lv_at hl 2 rfl) ?_
  refine lv_icmp_ne (tgt := 7) hx hb d_L_liesBelow_2 (by decide) (fun hc => ?_) (fun hc => ?_)
  · rw [if_neg hc] at h
    refine lv_iload_n hx hb d_L_liesBelow_7 rfl (lv_at hl 3 rfl) ?_
    refine lv_if_gt (tgt := 13) hx hb d_L_liesBelow_8 (by decide) (fun hc => ?_) (fun hc => ?_)
    · rw [if_pos hc] at h
      refine lv_aload_n hx hb d_L_liesBelow_13 rfl (lv_at hl 0 rfl) ?_
      refine va_get (ci := 0) (v := .ref (a 18)) (C := R_L) (T := F_L) (N := 6) hx hb hts i_L hown hK.1 hP 0 rfl rfl 3 (by decide) (hts _ wd_150) (fun _ h9 => h9) rfl d_L_liesBelow_14 ?_
      refine lv_iload_n hx hb d_L_liesBelow_17 rfl (lv_at hl 1 rfl) ?_
      refine lv_iload_n hx hb d_L_liesBelow_18 rfl (lv_at hl 2 rfl) ?_
      replace h := bd h
      obtain ⟨r1, g1, h⟩ := h
      refine ro_V (n := 2) (ci := 3) (As := [.int x1, .int x2]) (rest := []) C0 (c_A_read l D cI cZ a q (L_answers σ) x1 x2 g1) wd_286 ⟨wd_287, wd_288, wd_289, wd_155⟩ (by decide +kernel) ⟨by show 1 + 1 ≤ fr0 + 2; omega, by show 8 + (4 + 11) + 21 ≤ lc0 + 53; omega⟩ (hP.pick [19, 20] rfl) rfl rfl rfl hl rfl rfl (Nat.le_of_ble_eq_true rfl) ⟨Nat.zero_le _, Nat.zero_le _⟩ d_L_liesBelow_19 ?_
      try dsimp only at h
      refine lv_istore (lv' := [(4, .int r1), (0, .ref (a 0)), (1, .int x1), (2, .int x2), (3, .int x3)]) hx hb d_L_liesBelow_22 hl (by decide) rfl (fun ls hl => ?_)
      refine lv_iload hx hb d_L_liesBelow_24 (lv_at hl 0 rfl) ?_
      refine lv_if_eq (tgt := 41) hx hb d_L_liesBelow_26 (by decide) (fun hc => ?_) (fun hc => ?_)
      · rw [if_pos hc] at h
        refine lv_aload_n hx hb d_L_liesBelow_41 rfl (lv_at hl 1 rfl) ?_
        refine va_get (ci := 0) (v := .ref (a 10)) (C := R_L) (T := F_L) (N := 6) hx hb hts i_L hown hK.1 hP 0 rfl rfl 2 (by decide) (hts _ wd_85) (fun _ h9 => h9) rfl d_L_liesBelow_42 ?_
        refine lv_iload_n hx hb d_L_liesBelow_45 rfl (lv_at hl 3 rfl) ?_
        replace h := bd h
        obtain ⟨r2, g2, h⟩ := h
        refine ro_V (n := 1) (ci := 2) (As := [.int x2]) (rest := []) C0 (c_T_kindOf l D cI cZ a q (L_types σ) x2 g2) wd_99 ⟨wd_100, wd_101, wd_102, wd_52⟩ (by decide +kernel) ⟨by show 1 + 1 ≤ fr0 + 2; omega, by show 8 + (2 + 11) + 21 ≤ lc0 + 53; omega⟩ (hP.pick [10, 11, 12, 13, 14, 15, 16, 17, 18] rfl) rfl rfl rfl hl rfl rfl (Nat.le_of_ble_eq_true rfl) ⟨Nat.zero_le _, Nat.zero_le _⟩ d_L_liesBelow_46 ?_
        try dsimp only at h
        by_cases e49_0 : r2 = 1
        · rw [if_pos e49_0] at h
          refine lv_tableIn (off := 27) (tgt := 76) hx hb d_L_liesBelow_49 (by rw [e49_0]; decide) (by rw [e49_0]; decide) (by rw [e49_0]; rfl) (by decide) ?_
          refine lv_aload_n hx hb d_L_liesBelow_76 rfl (lv_at hl 1 rfl) ?_
          refine lv_iload_n hx hb d_L_liesBelow_77 rfl (lv_at hl 2 rfl) ?_
          refine lv_iload_n hx hb d_L_liesBelow_78 rfl (lv_at hl 3 rfl) ?_
          refine lv_iload_n hx hb d_L_liesBelow_79 rfl (lv_at hl 4 rfl) ?_
          refine lv_iconst (v := 1) hx hb d_L_liesBelow_80 (by decide) ?_
          refine lv_isub hx hb d_L_liesBelow_81 ?_
          replace h := bd h
          obtain ⟨r3, g3, h⟩ := h
          refine rw_V (n := 3) (ci := 0) (As := [.int x1, .int x2, .int (x3 - 1)]) (rest := []) (Wn := fun q => (wL cI cZ a q r3.2)) C0 hA (c_L_hasFittingPart hfr hlc hrec q σ x1 x2 (x3 - 1) g3) wd_290 ⟨wd_291, wd_292, wd_293, wd_55⟩ (by decide +kernel) ⟨by show fr0 + 1 + 1 ≤ fr0 + 2; omega, by show 8 + (9 + 11) + (lc0 + 25) ≤ lc0 + 53; omega⟩ hP hD hS [0, 1, 2, 3, 4, 5, 6, 7, 8, 9, 10, 11, 12, 13, 14, 15, 16, 17, 18, 19, 20] [] [0, 1, 2, 3, 4, 5, 6, 7, 8, 9, 10, 11, 12, 13, 14, 15, 16, 17, 18, 19, 20] jn_L__C (by decide) jn_L__R (by decide) (by decide) (by decide) jn_L__W rfl rfl rfl hl rfl rfl (Nat.le_of_ble_eq_true rfl) ⟨Nat.zero_le _, Nat.zero_le _⟩ d_L_liesBelow_82 (fun H locs q hP hD hS => ?_)
          try dsimp only at h
          refine lv_istore (lv' := [(5, .int r3.1), (4, .int r1), (0, .ref (a 0)), (1, .int x1), (2, .int x2), (3, .int x3)]) hx hb d_L_liesBelow_85 hl (by decide) rfl (fun ls hl => ?_)
          refine lv_goto (tgt := 159) hx hb d_L_liesBelow_87 (by decide) ?_
          exact t_L_liesBelow_159 (a := a) C0 hA hfr hlc hrec  h hP hD hS (lv_sub hl [2, 3, 4, 0] rfl)
        · rw [if_neg e49_0] at h
          by_cases e49_1 : r2 = 2
          · rw [if_pos e49_1] at h
            refine lv_tableIn (off := 41) (tgt := 90) hx hb d_L_liesBelow_49 (by rw [e49_1]; decide) (by rw [e49_1]; decide) (by rw [e49_1]; rfl) (by decide) ?_
            refine lv_aload_n hx hb d_L_liesBelow_90 rfl (lv_at hl 1 rfl) ?_
            refine lv_iload_n hx hb d_L_liesBelow_91 rfl (lv_at hl 2 rfl) ?_
            replace h := bd h
            obtain ⟨r5, g5, h⟩ := h
            refine ro_V (n := 1) (ci := 0) (As := [.int x1]) (rest := []) C0 (c_L_isArrayOfOthers l D cI cZ a q σ x1 g5) wd_274 ⟨wd_275, wd_276, wd_277, wd_55⟩ (by decide +kernel) ⟨by show 2 + 1 ≤ fr0 + 2; omega, by show 8 + (2 + 11) + 42 ≤ lc0 + 53; omega⟩ hP rfl rfl rfl hl rfl rfl (Nat.le_of_ble_eq_true rfl) ⟨Nat.zero_le _, Nat.zero_le _⟩ d_L_liesBelow_92 ?_
            try dsimp only at h
            refine lv_if_eq (tgt := 136) hx hb d_L_liesBelow_95 (by decide) (fun hc => ?_) (fun hc => ?_)
            · rw [if_pos hc] at h
              exact t_L_liesBelow_136 (a := a) C0 hA hfr hlc hrec  h hP hD hS (lv_sub hl [1, 2, 3] rfl)
            · rw [if_neg hc] at h
              refine lv_aload_n hx hb d_L_liesBelow_98 rfl (lv_at hl 1 rfl) ?_
              refine lv_iload_n hx hb d_L_liesBelow_99 rfl (lv_at hl 3 rfl) ?_
              replace h := bd h
              obtain ⟨r6, g6, h⟩ := h
              refine ro_V (n := 1) (ci := 0) (As := [.int x2]) (rest := []) C0 (c_L_isArrayOfOthers l D cI cZ a q σ x2 g6) wd_274 ⟨wd_275, wd_276, wd_277, wd_55⟩ (by decide +kernel) ⟨by show 2 + 1 ≤ fr0 + 2; omega, by show 8 + (2 + 11) + 42 ≤ lc0 + 53; omega⟩ hP rfl rfl rfl hl rfl rfl (Nat.le_of_ble_eq_true rfl) ⟨Nat.zero_le _, Nat.zero_le _⟩ d_L_liesBelow_100 ?_
              try dsimp only at h
              refine lv_if_eq (tgt := 136) hx hb d_L_liesBelow_103 (by decide) (fun hc => ?_) (fun hc => ?_)
              · rw [if_pos hc] at h
                exact t_L_liesBelow_136 (a := a) C0 hA hfr hlc hrec  h hP hD hS (lv_sub hl [1, 2, 3] rfl)
              · rw [if_neg hc] at h
                refine lv_aload_n hx hb d_L_liesBelow_106 rfl (lv_at hl 1 rfl) ?_
                refine lv_aload_n hx hb d_L_liesBelow_107 rfl (lv_at hl 1 rfl) ?_
                refine va_get (ci := 0) (v := .ref (a 10)) (C := R_L) (T := F_L) (N := 6) hx hb hts i_L hown hK.1 hP 0 rfl rfl 2 (by decide) (hts _ wd_85) (fun _ h9 => h9) rfl d_L_liesBelow_108 ?_
                refine lv_iload_n hx hb d_L_liesBelow_111 rfl (lv_at hl 2 rfl) ?_
                replace h := bd h
                obtain ⟨r7, g7, h⟩ := h
                refine ro_V (n := 1) (ci := 2) (As := [.int x1]) (rest := [.ref (a 0)]) C0 (c_T_elementOf l D cI cZ a q (L_types σ) x1 g7) wd_187 ⟨wd_188, wd_189, wd_190, wd_52⟩ (by decide +kernel) ⟨by show 1 + 1 ≤ fr0 + 2; omega, by show 8 + (2 + 11) + 21 ≤ lc0 + 53; omega⟩ (hP.pick [10, 11, 12, 13, 14, 15, 16, 17, 18] rfl) rfl rfl rfl hl rfl rfl (Nat.le_of_ble_eq_true rfl) ⟨Nat.zero_le _, Nat.zero_le _⟩ d_L_liesBelow_112 ?_
                try dsimp only at h
                refine lv_aload_n hx hb d_L_liesBelow_115 rfl (lv_at hl 1 rfl) ?_
                refine va_get (ci := 0) (v := .ref (a 10)) (C := R_L) (T := F_L) (N := 6) hx hb hts i_L hown hK.1 hP 0 rfl rfl 2 (by decide) (hts _ wd_85) (fun _ h9 => h9) rfl d_L_liesBelow_116 ?_
                refine lv_iload_n hx hb d_L_liesBelow_119 rfl (lv_at hl 3 rfl) ?_
                replace h := bd h
                obtain ⟨r8, g8, h⟩ := h
                refine ro_V (n := 1) (ci := 2) (As := [.int x2]) (rest := [.int r7, .ref (a 0)]) C0 (c_T_elementOf l D cI cZ a q (L_types σ) x2 g8) wd_187 ⟨wd_188, wd_189, wd_190, wd_52⟩ (by decide +kernel) ⟨by show 1 + 1 ≤ fr0 + 2; omega, by show 8 + (2 + 11) + 21 ≤ lc0 + 53; omega⟩ (hP.pick [10, 11, 12, 13, 14, 15, 16, 17, 18] rfl) rfl rfl rfl hl rfl rfl (Nat.le_of_ble_eq_true rfl) ⟨Nat.zero_le _, Nat.zero_le _⟩ d_L_liesBelow_120 ?_
                try dsimp only at h
                refine lv_iload_n hx hb d_L_liesBelow_123 rfl (lv_at hl 4 rfl) ?_
                refine lv_iconst (v := 1) hx hb d_L_liesBelow_124 (by decide) ?_
                refine lv_isub hx hb d_L_liesBelow_125 ?_
                replace h := bd h
                obtain ⟨r9, g9, h⟩ := h
                refine rw_V (n := 3) (ci := 0) (As := [.int r7, .int r8, .int (x3 - 1)]) (rest := []) (Wn := fun q => (wL cI cZ a q r9.2)) C0 hA (hrec q σ r7 r8 (x3 - 1) _ g9) wd_282 ⟨wd_283, wd_284, wd_285, wd_55⟩ (by decide +kernel) ⟨by show fr0 + 1 ≤ fr0 + 2; omega, by show 8 + (6 + 11) + (lc0) ≤ lc0 + 53; omega⟩ hP hD hS [0, 1, 2, 3, 4, 5, 6, 7, 8, 9, 10, 11, 12, 13, 14, 15, 16, 17, 18, 19, 20] [] [0, 1, 2, 3, 4, 5, 6, 7, 8, 9, 10, 11, 12, 13, 14, 15, 16, 17, 18, 19, 20] jn_L__C (by decide) jn_L__R (by decide) (by decide) (by decide) jn_L__W rfl rfl rfl hl rfl rfl (Nat.le_of_ble_eq_true rfl) ⟨Nat.zero_le _, Nat.zero_le _⟩ d_L_liesBelow_126 (fun H locs q hP hD hS => ?_)
                try dsimp only at h
                refine lv_if_eq (tgt := 136) hx hb d_L_liesBelow_129 (by decide) (fun hc => ?_) (fun hc => ?_)
                · rw [if_pos hc] at h
                  exact t_L_liesBelow_136 (a := a) C0 hA hfr hlc hrec  h hP hD hS (lv_sub hl [1, 2, 3] rfl)
                · rw [if_neg hc] at h
                  refine lv_iconst (v := 1) hx hb d_L_liesBelow_132 (by decide) ?_
                  refine lv_goto (tgt := 137) hx hb d_L_liesBelow_133 (by decide) ?_
                  exact t_L_liesBelow_137 (a := a) C0 hA hfr hlc hrec  h hP hD hS (lv_sub hl [1, 2, 3] rfl)
          · rw [if_neg e49_1] at h
            by_cases e49_2 : r2 = 3
            · rw [if_pos e49_2] at h
              refine lv_tableIn (off := 93) (tgt := 142) hx hb d_L_liesBelow_49 (by rw [e49_2]; decide) (by rw [e49_2]; decide) (by rw [e49_2]; rfl) (by decide) ?_
              refine lv_aload_n hx hb d_L_liesBelow_142 rfl (lv_at hl 1 rfl) ?_
              refine lv_iload_n hx hb d_L_liesBelow_143 rfl (lv_at hl 2 rfl) ?_
              refine lv_iload_n hx hb d_L_liesBelow_144 rfl (lv_at hl 3 rfl) ?_
              refine lv_iload_n hx hb d_L_liesBelow_145 rfl (lv_at hl 4 rfl) ?_
              refine lv_iconst (v := 1) hx hb d_L_liesBelow_146 (by decide) ?_
              refine lv_isub hx hb d_L_liesBelow_147 ?_
              replace h := bd h
              obtain ⟨r10, g10, h⟩ := h
              refine rw_V (n := 3) (ci := 0) (As := [.int x1, .int x2, .int (x3 - 1)]) (rest := []) (Wn := fun q => (wL cI cZ a q r10.2)) C0 hA (c_L_liesBelowParts hfr hlc hrec q σ x1 x2 (x3 - 1) g10) wd_298 ⟨wd_299, wd_300, wd_301, wd_55⟩ (by decide +kernel) ⟨by show fr0 + 1 + 1 ≤ fr0 + 2; omega, by show 8 + (6 + 11) + (lc0 + 25) ≤ lc0 + 53; omega⟩ hP hD hS [0, 1, 2, 3, 4, 5, 6, 7, 8, 9, 10, 11, 12, 13, 14, 15, 16, 17, 18, 19, 20] [] [0, 1, 2, 3, 4, 5, 6, 7, 8, 9, 10, 11, 12, 13, 14, 15, 16, 17, 18, 19, 20] jn_L__C (by decide) jn_L__R (by decide) (by decide) (by decide) jn_L__W rfl rfl rfl hl rfl rfl (Nat.le_of_ble_eq_true rfl) ⟨Nat.zero_le _, Nat.zero_le _⟩ d_L_liesBelow_148 (fun H locs q hP hD hS => ?_)
              try dsimp only at h
              refine lv_istore (lv' := [(5, .int r10.1), (4, .int r1), (0, .ref (a 0)), (1, .int x1), (2, .int x2), (3, .int x3)]) hx hb d_L_liesBelow_151 hl (by decide) rfl (fun ls hl => ?_)
              refine lv_goto (tgt := 159) hx hb d_L_liesBelow_153 (by decide) ?_
              exact t_L_liesBelow_159 (a := a) C0 hA hfr hlc hrec  h hP hD hS (lv_sub hl [2, 3, 4, 0] rfl)
            · rw [if_neg e49_2] at h
              refine lv_tableOut (tgt := 156) hx hb d_L_liesBelow_49 (by have n0 := lv_neT (a := 1) e49_0 (by decide); have n1 := lv_neT (a := 2) e49_1 (by decide); have n2 := lv_neT (a := 3) e49_2 (by decide); omega) (by decide) ?_
              refine lv_iconst (v := 0) hx hb d_L_liesBelow_156 (by decide) ?_
              refine lv_istore (lv' := [(5, .int 0), (4, .int r1), (0, .ref (a 0)), (1, .int x1), (2, .int x2), (3, .int x3)]) hx hb d_L_liesBelow_157 hl (by decide) rfl (fun ls hl => ?_)
              exact t_L_liesBelow_159 (a := a) C0 hA hfr hlc hrec  h hP hD hS (lv_sub hl [2, 3, 4, 0] rfl)
      · rw [if_neg hc] at h
        refine lv_iload hx hb d_L_liesBelow_29 (lv_at hl 0 rfl) ?_
        refine lv_iconst (v := 2) hx hb d_L_liesBelow_31 (by decide) ?_
        refine lv_icmp_ne (tgt := 39) hx hb d_L_liesBelow_32 (by decide) (fun hc => ?_) (fun hc => ?_)
        · rw [if_neg hc] at h
          refine lv_iconst (v := 0) hx hb d_L_liesBelow_39 (by decide) ?_
          exact rw_retz C0 hP hD hS (by decide) (Option.some.inj h) d_L_liesBelow_40
        · rw [if_pos hc] at h
          refine lv_iconst (v := 1) hx hb d_L_liesBelow_35 (by decide) ?_
          refine lv_goto (tgt := 40) hx hb d_L_liesBelow_36 (by decide) ?_
          exact rw_retz C0 hP hD hS (by decide) (Option.some.inj h) d_L_liesBelow_40
    · rw [if_neg hc] at h
      refine lv_iconst (v := 0) hx hb d_L_liesBelow_11 (by decide) ?_
      exact rw_retz C0 hP hD hS (by decide) (Option.some.inj h) d_L_liesBelow_12
  · rw [if_pos hc] at h
    refine lv_iconst (v := 1) hx hb d_L_liesBelow_5 (by decide) ?_
    exact rw_retz C0 hP hD hS (by decide) (Option.some.inj h) d_L_liesBelow_6
set_option maxHeartbeats 4000000 in
set_option maxRecDepth 100000 in
theorem c_L_liesBelow_s {l : Launch} {D : va_G} {cI cZ : ClassId} {a : Nat → Nat} {rec : StL → Int32 → Int32 → Int32 → Option (Int32 × StL)} {fr0 lc0 : Nat} (hfr : 4 ≤ fr0) (hlc : 98 ≤ lc0) (hrec : ∀ (q : Nat) (σ : StL) (z0 z1 z2 : Int32) (r : Int32 × StL), rec σ z0 z1 z2 = some r → RwM l y_L_liesBelow b_L_liesBelow 6 (some .boolean) fr0 lc0 D [(cI, .int), (cZ, .boolean)] [.ref (a 0), .int z0, .int z1, .int z2] (fun q (σ : StL) => wL cI cZ a q σ) q σ r) (q : Nat) (σ : StL) (x1 : Int32) (x2 : Int32) (x3 : Int32) {res : Int32 × StL} (h : f_L_liesBelow_s rec σ x1 x2 x3 = some res) : RwM l y_L_liesBelow b_L_liesBelow 6 (some .boolean) (fr0 + 2) (lc0 + 53) D [(cI, .int), (cZ, .boolean)] [.ref (a 0), .int x1, .int x2, .int x3] (fun q (σ : StL) => (wL cI cZ a q σ)) q σ res :=
  rw_of (by decide) (Nat.le_of_ble_eq_true rfl) (fun p e s m args below meth c ls A C0 hA hP hD hS hl => t_L_liesBelow_0 (a := a) C0 hA hfr hlc hrec h hP hD hS (lv_sub hl [0, 1, 2, 3] rfl))
set_option maxHeartbeats 4000000 in
set_option maxRecDepth 100000 in
theorem c_L_liesBelow {n : Nat} (l : Launch) (D : va_G) (cI cZ : ClassId) (a : Nat → Nat) (q : Nat) (σ : StL) (x1 x2 x3 : Int32) {res : Int32 × StL} (h : f_L_liesBelow n σ x1 x2 x3 = some res) : RwM l y_L_liesBelow b_L_liesBelow 6 (some .boolean) (4 + 2 * n) (98 + 53 * n) D [(cI, .int), (cZ, .boolean)] [.ref (a 0), .int x1, .int x2, .int x3] (fun q (σ : StL) => (wL cI cZ a q σ)) q σ res := by
  induction n generalizing q σ x1 x2 x3 res with
  | zero => cases h
  | succ n ih =>
    have hh := c_L_liesBelow_s (fr0 := (4 + 2 * n)) (lc0 := (98 + 53 * n)) (Nat.le_add_right _ _) (Nat.le_add_right _ _) (fun q σ x1 x2 x3 r g => ih q σ x1 x2 x3 g) q σ x1 x2 x3 h
    rw [show 4 + 2 * (n + 1) = 4 + 2 * n + 2 by omega, show 98 + 53 * (n + 1) = 98 + 53 * n + 53 by omega]
    exact hh
