def f_L_hasFittingPart_63 (rec : StL → Int32 → Int32 → Int32 → Option (Int32 × StL)) (k30 : StL → Int32 → Int32 → Int32 → Int32 → Int32 → Int32 → Option (Int32 × StL)) (σ : StL) (x1 x3 x4 x5 x6 x7 t1 : Int32) : Option (Int32 × StL) :=
  (f_L_find σ t1 x4).bind fun r6 =>
  if r6 = (-1) then
    k30 σ x1 x3 x4 x5 x6 (x7 + 1)
  else
    if r6 = x5 then
      some (1, σ)
    else
      if (f_L_howOf x5) = 2 then
        (rec σ (f_L_typeOf r6) (f_L_typeOf x5) x3).bind fun r7 =>
        if r7.1 = 0 then
          k30 r7.2 x1 x3 x4 x5 x6 (x7 + 1)
        else
          some (1, r7.2)
      else
        k30 σ x1 x3 x4 x5 x6 (x7 + 1)
def f_L_hasFittingPart_30_s (rec : StL → Int32 → Int32 → Int32 → Option (Int32 × StL)) (k30 : StL → Int32 → Int32 → Int32 → Int32 → Int32 → Int32 → Option (Int32 × StL)) (σ : StL) (x1 x3 x4 x5 x6 x7 : Int32) : Option (Int32 × StL) :=
  if x6 ≤ x7 then
    some (0, σ)
  else
    (f_T_countParts (L_types σ) x1).bind fun r4 =>
    if r4 = 0 then
      f_L_hasFittingPart_63 rec k30 σ x1 x3 x4 x5 x6 x7 x1
    else
      (f_T_partOf (L_types σ) x1 x7).bind fun r5 =>
      f_L_hasFittingPart_63 rec k30 σ x1 x3 x4 x5 x6 x7 r5
def f_L_hasFittingPart_30 (rec : StL → Int32 → Int32 → Int32 → Option (Int32 × StL)) : Nat → StL → Int32 → Int32 → Int32 → Int32 → Int32 → Int32 → Option (Int32 × StL)
  | 0, _, _, _, _, _, _, _ => none
  | n + 1, σ, x1, x3, x4, x5, x6, x7 => f_L_hasFittingPart_30_s rec (f_L_hasFittingPart_30 rec n) σ x1 x3 x4 x5 x6 x7
def f_L_hasFittingPart (rec : StL → Int32 → Int32 → Int32 → Option (Int32 × StL)) (σ : StL) (x1 x2 x3 : Int32) : Option (Int32 × StL) :=
  (f_T_classOf (L_types σ) x2).bind fun r1 =>
  (f_T_argumentAt (L_types σ) x2).bind fun r2 =>
  (f_L_countHolders σ x1).bind fun r3 =>
  f_L_hasFittingPart_30 rec 1000 σ x1 x3 r1 r2 r3 0
set_option maxHeartbeats 4000000 in
set_option maxRecDepth 100000 in
theorem t_L_hasFittingPart_63 {p : Program} {l : Launch} {e : Env} {s : State} {m : MethodId} {args : Array Value} {below : List Frame} {meth : Method} {c : Code} {D : va_G} {cI cZ : ClassId} {a : Nat → Nat} {A : Nat → Prop} (C0 : Am p s m args meth c b_L_hasFittingPart (some .boolean) 9 R_L D [(cI, .int), (cZ, .boolean)]) (hA : ∀ q, s.heap.size ≤ q → A q) {res : Int32 × StL} {rec : StL → Int32 → Int32 → Int32 → Option (Int32 × StL)} {fr0 lc0 : Nat} (hfr : 4 ≤ fr0) (hlc : 98 ≤ lc0) (hrec : ∀ (q : Nat) (σ : StL) (z0 z1 z2 : Int32) (r : Int32 × StL), rec σ z0 z1 z2 = some r → RwM l y_L_liesBelow b_L_liesBelow 6 (some .boolean) fr0 lc0 D [(cI, .int), (cZ, .boolean)] [.ref (a 0), .int z0, .int z1, .int z2] (fun q (σ : StL) => wL cI cZ a q σ) q σ r) {k30 : StL → Int32 → Int32 → Int32 → Int32 → Int32 → Int32 → Option (Int32 × StL)} (hk30 : ∀ (q : Nat) (σ : StL) (x1 x3 x4 x5 x6 x7 : Int32) (H : Heap) (locs : List Loc) (ls : Array Slot), k30 σ x1 x3 x4 x5 x6 x7 = some res → va_P D vwCl (wL cI cZ a q σ) H → va_D A (wL cI cZ a q σ) → va_S A s.heap H locs → lv_has ls 9 [(0, .ref (a 0)), (1, .int x1), (3, .int x3), (4, .int x4), (5, .int x5), (6, .int x6), (7, .int x7)] → W p l e (rmK (fr0 + 1) (lc0 + 25) 0 0) s m args below meth c H locs 0 0 (RwQ below args s D A (fun q (σ : StL) => (wL cI cZ a q σ)) res 0 0) (F0 m 30 ls []))  {q : Nat} {σ : StL} {x1 x3 x4 x5 x6 x7 t1 : Int32} (h : f_L_hasFittingPart_63 rec k30 σ x1 x3 x4 x5 x6 x7 t1 = some res) {H : Heap} {locs : List Loc} (hP : va_P D vwCl (wL cI cZ a q σ) H) (hD : va_D A (wL cI cZ a q σ)) (hS : va_S A s.heap H locs) {ls : Array Slot} (hl : lv_has ls 9 [(0, .ref (a 0)), (1, .int x1), (3, .int x3), (4, .int x4), (5, .int x5), (6, .int x6), (7, .int x7)]) : W p l e (rmK (fr0 + 1) (lc0 + 25) 0 0) s m args below meth c H locs 0 0 (RwQ below args s D A (fun q (σ : StL) => (wL cI cZ a q σ)) res 0 0) (F0 m 63 ls [.int t1, .ref (a 0)]) := by
  obtain ⟨hx, hb, hr, hml, hown, hts, hlk, hK⟩ := id C0
  unfold f_L_hasFittingPart_63 at h
  refine lv_iload hx hb d_L_hasFittingPart_63 (lv_at hl 3 rfl) ?_
  replace h := bd h
  obtain ⟨r6, g6, h⟩ := h
  refine ro_V (n := 2) (ci := 0) (As := [.int t1, .int x4]) (rest := []) C0 (c_L_find l D cI cZ a q σ t1 x4 g6) wd_262 ⟨wd_263, wd_264, wd_265, wd_55⟩ (by decide +kernel) ⟨by show 3 + 1 ≤ fr0 + 1; omega, by show 8 + (7 + 11) + 72 ≤ lc0 + 25; omega⟩ hP rfl rfl rfl hl rfl rfl (Nat.le_of_ble_eq_true rfl) ⟨Nat.zero_le _, Nat.zero_le _⟩ d_L_hasFittingPart_65 ?_
  try dsimp only at h
  refine lv_istore (lv' := [(8, .int r6), (0, .ref (a 0)), (1, .int x1), (3, .int x3), (4, .int x4), (5, .int x5), (6, .int x6), (7, .int x7)]) hx hb d_L_hasFittingPart_68 hl (by decide) rfl (fun ls hl => ?_)
  refine lv_iload hx hb d_L_hasFittingPart_70 (lv_at hl 0 rfl) ?_
  refine lv_iconst (v := (-1)) hx hb d_L_hasFittingPart_72 (by decide) ?_
  refine lv_icmp_ne (tgt := 79) hx hb d_L_hasFittingPart_73 (by decide) (fun hc => ?_) (fun hc => ?_)
  · rw [if_neg hc] at h
    refine lv_iload hx hb d_L_hasFittingPart_79 (lv_at hl 0 rfl) ?_
    refine lv_iload hx hb d_L_hasFittingPart_81 (lv_at hl 5 rfl) ?_
    refine lv_icmp_eq (tgt := 113) hx hb d_L_hasFittingPart_83 (by decide) (fun hc => ?_) (fun hc => ?_)
    · rw [if_pos hc] at h
      refine lv_iconst (v := 1) hx hb d_L_hasFittingPart_113 (by decide) ?_
      exact rw_retz C0 hP hD hS (by decide) (Option.some.inj h) d_L_hasFittingPart_114
    · rw [if_neg hc] at h
      refine lv_iload hx hb d_L_hasFittingPart_86 (lv_at hl 5 rfl) ?_
      refine ro_S (n := 1) (As := [.int x5]) (rest := []) C0 (c_L_howOf l D cI cZ a x5 rfl) wd_245 ⟨wd_246, wd_247, wd_55⟩ (by decide +kernel) ⟨by show 0 + 1 ≤ fr0 + 1; omega, by show 8 + (1 + 11) + 0 ≤ lc0 + 25; omega⟩ pnil hl rfl rfl (Nat.le_of_ble_eq_true rfl) ⟨Nat.zero_le _, Nat.zero_le _⟩ d_L_hasFittingPart_88 ?_
      refine lv_iconst (v := 2) hx hb d_L_hasFittingPart_91 (by decide) ?_
      refine lv_icmp_ne (tgt := 115) hx hb d_L_hasFittingPart_92 (by decide) (fun hc => ?_) (fun hc => ?_)
      · rw [if_neg hc] at h
        refine lv_iinc (v := (x7 + 1)) (lv' := [(7, .int (x7 + 1)), (8, .int r6), (0, .ref (a 0)), (1, .int x1), (3, .int x3), (4, .int x4), (5, .int x5), (6, .int x6)]) hx hb d_L_hasFittingPart_115 hl (k := 7) rfl rfl (by decide) rfl (fun ls hl => ?_)
        refine lv_goto (tgt := 30) hx hb d_L_hasFittingPart_118 (by decide) ?_
        exact hk30 _ _ _ _ _ _ _ _ _ _ _ h hP hD hS (lv_sub hl [2, 3, 4, 5, 6, 7, 0] rfl)
      · rw [if_pos hc] at h
        refine lv_aload_n hx hb d_L_hasFittingPart_95 rfl (lv_at hl 1 rfl) ?_
        refine lv_iload hx hb d_L_hasFittingPart_96 (lv_at hl 0 rfl) ?_
        refine ro_S (n := 1) (As := [.int r6]) (rest := [.ref (a 0)]) C0 (c_L_typeOf l D cI cZ a r6 rfl) wd_240 ⟨wd_53, wd_54, wd_55⟩ (by decide +kernel) ⟨by show 0 + 1 ≤ fr0 + 1; omega, by show 8 + (1 + 11) + 0 ≤ lc0 + 25; omega⟩ pnil hl rfl rfl (Nat.le_of_ble_eq_true rfl) ⟨Nat.zero_le _, Nat.zero_le _⟩ d_L_hasFittingPart_98 ?_
        refine lv_iload hx hb d_L_hasFittingPart_101 (lv_at hl 5 rfl) ?_
        refine ro_S (n := 1) (As := [.int x5]) (rest := [.int (f_L_typeOf r6), .ref (a 0)]) C0 (c_L_typeOf l D cI cZ a x5 rfl) wd_240 ⟨wd_53, wd_54, wd_55⟩ (by decide +kernel) ⟨by show 0 + 1 ≤ fr0 + 1; omega, by show 8 + (1 + 11) + 0 ≤ lc0 + 25; omega⟩ pnil hl rfl rfl (Nat.le_of_ble_eq_true rfl) ⟨Nat.zero_le _, Nat.zero_le _⟩ d_L_hasFittingPart_103 ?_
        refine lv_iload_n hx hb d_L_hasFittingPart_106 rfl (lv_at hl 3 rfl) ?_
        replace h := bd h
        obtain ⟨r7, g7, h⟩ := h
        refine rw_V (n := 3) (ci := 0) (As := [.int (f_L_typeOf r6), .int (f_L_typeOf x5), .int x3]) (rest := []) (Wn := fun q => (wL cI cZ a q r7.2)) C0 hA (hrec q σ (f_L_typeOf r6) (f_L_typeOf x5) x3 _ g7) wd_282 ⟨wd_283, wd_284, wd_285, wd_55⟩ (by decide +kernel) ⟨by show fr0 + 1 ≤ fr0 + 1; omega, by show 8 + (6 + 11) + (lc0) ≤ lc0 + 25; omega⟩ hP hD hS [0, 1, 2, 3, 4, 5, 6, 7, 8, 9, 10, 11, 12, 13, 14, 15, 16, 17, 18, 19, 20] [] [0, 1, 2, 3, 4, 5, 6, 7, 8, 9, 10, 11, 12, 13, 14, 15, 16, 17, 18, 19, 20] jn_L__C (by decide) jn_L__R (by decide) (by decide) (by decide) jn_L__W rfl rfl rfl hl rfl rfl (Nat.le_of_ble_eq_true rfl) ⟨Nat.zero_le _, Nat.zero_le _⟩ d_L_hasFittingPart_107 (fun H locs q hP hD hS => ?_)
        try dsimp only at h
        refine lv_if_eq (tgt := 115) hx hb d_L_hasFittingPart_110 (by decide) (fun hc => ?_) (fun hc => ?_)
        · rw [if_pos hc] at h
          refine lv_iinc (v := (x7 + 1)) (lv' := [(7, .int (x7 + 1)), (8, .int r6), (0, .ref (a 0)), (1, .int x1), (3, .int x3), (4, .int x4), (5, .int x5), (6, .int x6)]) hx hb d_L_hasFittingPart_115 hl (k := 7) rfl rfl (by decide) rfl (fun ls hl => ?_)
          refine lv_goto (tgt := 30) hx hb d_L_hasFittingPart_118 (by decide) ?_
          exact hk30 _ _ _ _ _ _ _ _ _ _ _ h hP hD hS (lv_sub hl [2, 3, 4, 5, 6, 7, 0] rfl)
        · rw [if_neg hc] at h
          refine lv_iconst (v := 1) hx hb d_L_hasFittingPart_113 (by decide) ?_
          exact rw_retz C0 hP hD hS (by decide) (Option.some.inj h) d_L_hasFittingPart_114
  · rw [if_pos hc] at h
    refine lv_goto (tgt := 115) hx hb d_L_hasFittingPart_76 (by decide) ?_
    refine lv_iinc (v := (x7 + 1)) (lv' := [(7, .int (x7 + 1)), (8, .int r6), (0, .ref (a 0)), (1, .int x1), (3, .int x3), (4, .int x4), (5, .int x5), (6, .int x6)]) hx hb d_L_hasFittingPart_115 hl (k := 7) rfl rfl (by decide) rfl (fun ls hl => ?_)
    refine lv_goto (tgt := 30) hx hb d_L_hasFittingPart_118 (by decide) ?_
    exact hk30 _ _ _ _ _ _ _ _ _ _ _ h hP hD hS (lv_sub hl [2, 3, 4, 5, 6, 7, 0] rfl)
set_option maxHeartbeats 4000000 in
set_option maxRecDepth 100000 in
theorem t_L_hasFittingPart_30_s {p : Program} {l : Launch} {e : Env} {s : State} {m : MethodId} {args : Array Value} {below : List Frame} {meth : Method} {c : Code} {D : va_G} {cI cZ : ClassId} {a : Nat → Nat} {A : Nat → Prop} (C0 : Am p s m args meth c b_L_hasFittingPart (some .boolean) 9 R_L D [(cI, .int), (cZ, .boolean)]) (hA : ∀ q, s.heap.size ≤ q → A q) {res : Int32 × StL} {rec : StL → Int32 → Int32 → Int32 → Option (Int32 × StL)} {fr0 lc0 : Nat} (hfr : 4 ≤ fr0) (hlc : 98 ≤ lc0) (hrec : ∀ (q : Nat) (σ : StL) (z0 z1 z2 : Int32) (r : Int32 × StL), rec σ z0 z1 z2 = some r → RwM l y_L_liesBelow b_L_liesBelow 6 (some .boolean) fr0 lc0 D [(cI, .int), (cZ, .boolean)] [.ref (a 0), .int z0, .int z1, .int z2] (fun q (σ : StL) => wL cI cZ a q σ) q σ r) {k30 : StL → Int32 → Int32 → Int32 → Int32 → Int32 → Int32 → Option (Int32 × StL)}  (hk30 : ∀ (q : Nat) (σ : StL) (x1 x3 x4 x5 x6 x7 : Int32) (H : Heap) (locs : List Loc) (ls : Array Slot), k30 σ x1 x3 x4 x5 x6 x7 = some res → va_P D vwCl (wL cI cZ a q σ) H → va_D A (wL cI cZ a q σ) → va_S A s.heap H locs → lv_has ls 9 [(0, .ref (a 0)), (1, .int x1), (3, .int x3), (4, .int x4), (5, .int x5), (6, .int x6), (7, .int x7)] → W p l e (rmK (fr0 + 1) (lc0 + 25) 0 0) s m args below meth c H locs 0 0 (RwQ below args s D A (fun q (σ : StL) => (wL cI cZ a q σ)) res 0 0) (F0 m 30 ls [])) {q : Nat} {σ : StL} {x1 x3 x4 x5 x6 x7 : Int32} (h : f_L_hasFittingPart_30_s rec k30 σ x1 x3 x4 x5 x6 x7 = some res) {H : Heap} {locs : List Loc} (hP : va_P D vwCl (wL cI cZ a q σ) H) (hD : va_D A (wL cI cZ a q σ)) (hS : va_S A s.heap H locs) {ls : Array Slot} (hl : lv_has ls 9 [(0, .ref (a 0)), (1, .int x1), (3, .int x3), (4, .int x4), (5, .int x5), (6, .int x6), (7, .int x7)]) : W p l e (rmK (fr0 + 1) (lc0 + 25) 0 0) s m args below meth c H locs 0 0 (RwQ below args s D A (fun q (σ : StL) => (wL cI cZ a q σ)) res 0 0) (F0 m 30 ls []) := by
  obtain ⟨hx, hb, hr, hml, hown, hts, hlk, hK⟩ := id C0
  unfold f_L_hasFittingPart_30_s at h
  refine lv_iload hx hb d_L_hasFittingPart_30 (lv_at hl 6 rfl) ?_
  refine lv_iload hx hb d_L_hasFittingPart_32 (lv_at hl 5 rfl) ?_
  refine lv_icmp_ge (tgt := 121) hx hb d_L_hasFittingPart_34 (by decide) (fun hc => ?_) (fun hc => ?_)
  · rw [if_pos hc] at h
    refine lv_iconst (v := 0) hx hb d_L_hasFittingPart_121 (by decide) ?_
    exact rw_retz C0 hP hD hS (by decide) (Option.some.inj h) d_L_hasFittingPart_122
  · rw [if_neg hc] at h
    refine lv_aload_n hx hb d_L_hasFittingPart_37 rfl (lv_at hl 0 rfl) ?_
    refine lv_aload_n hx hb d_L_hasFittingPart_38 rfl (lv_at hl 0 rfl) ?_
    refine va_get (ci := 0) (v := .ref (a 10)) (C := R_L) (T := F_L) (N := 6) hx hb hts i_L hown hK.1 hP 0 rfl rfl 2 (by decide) (hts _ wd_85) (fun _ h9 => h9) rfl d_L_hasFittingPart_39 ?_
    refine lv_iload_n hx hb d_L_hasFittingPart_42 rfl (lv_at hl 1 rfl) ?_
    replace h := bd h
    obtain ⟨r4, g4, h⟩ := h
    refine ro_V (n := 1) (ci := 2) (As := [.int x1]) (rest := [.ref (a 0)]) C0 (c_T_countParts l D cI cZ a q (L_types σ) x1 g4) wd_200 ⟨wd_201, wd_202, wd_203, wd_52⟩ (by decide +kernel) ⟨by show 1 + 1 ≤ fr0 + 1; omega, by show 8 + (2 + 11) + 21 ≤ lc0 + 25; omega⟩ (hP.pick [10, 11, 12, 13, 14, 15, 16, 17, 18] rfl) rfl rfl rfl hl rfl rfl (Nat.le_of_ble_eq_true rfl) ⟨Nat.zero_le _, Nat.zero_le _⟩ d_L_hasFittingPart_43 ?_
    try dsimp only at h
    refine lv_if_ne (tgt := 53) hx hb d_L_hasFittingPart_46 (by decide) (fun hc => ?_) (fun hc => ?_)
    · rw [if_neg hc] at h
      refine lv_aload_n hx hb d_L_hasFittingPart_53 rfl (lv_at hl 0 rfl) ?_
      refine va_get (ci := 0) (v := .ref (a 10)) (C := R_L) (T := F_L) (N := 6) hx hb hts i_L hown hK.1 hP 0 rfl rfl 2 (by decide) (hts _ wd_85) (fun _ h9 => h9) rfl d_L_hasFittingPart_54 ?_
      refine lv_iload_n hx hb d_L_hasFittingPart_57 rfl (lv_at hl 1 rfl) ?_
      refine lv_iload hx hb d_L_hasFittingPart_58 (lv_at hl 6 rfl) ?_
      replace h := bd h
      obtain ⟨r5, g5, h⟩ := h
      refine ro_V (n := 2) (ci := 2) (As := [.int x1, .int x7]) (rest := [.ref (a 0)]) C0 (c_T_partOf l D cI cZ a q (L_types σ) x1 x7 g5) wd_204 ⟨wd_205, wd_206, wd_207, wd_52⟩ (by decide +kernel) ⟨by show 1 + 1 ≤ fr0 + 1; omega, by show 8 + (4 + 11) + 21 ≤ lc0 + 25; omega⟩ (hP.pick [10, 11, 12, 13, 14, 15, 16, 17, 18] rfl) rfl rfl rfl hl rfl rfl (Nat.le_of_ble_eq_true rfl) ⟨Nat.zero_le _, Nat.zero_le _⟩ d_L_hasFittingPart_60 ?_
      try dsimp only at h
      exact t_L_hasFittingPart_63 (a := a) C0 hA hfr hlc hrec hk30 h hP hD hS (lv_sub hl [0, 1, 2, 3, 4, 5, 6] rfl)
    · rw [if_pos hc] at h
      refine lv_iload_n hx hb d_L_hasFittingPart_49 rfl (lv_at hl 1 rfl) ?_
      refine lv_goto (tgt := 63) hx hb d_L_hasFittingPart_50 (by decide) ?_
      exact t_L_hasFittingPart_63 (a := a) C0 hA hfr hlc hrec hk30 h hP hD hS (lv_sub hl [0, 1, 2, 3, 4, 5, 6] rfl)
set_option maxHeartbeats 4000000 in
set_option maxRecDepth 100000 in
theorem t_L_hasFittingPart_30 {p : Program} {l : Launch} {e : Env} {s : State} {m : MethodId} {args : Array Value} {below : List Frame} {meth : Method} {c : Code} {D : va_G} {cI cZ : ClassId} {a : Nat → Nat} {A : Nat → Prop} (C0 : Am p s m args meth c b_L_hasFittingPart (some .boolean) 9 R_L D [(cI, .int), (cZ, .boolean)]) (hA : ∀ q, s.heap.size ≤ q → A q) {res : Int32 × StL} {rec : StL → Int32 → Int32 → Int32 → Option (Int32 × StL)} {fr0 lc0 : Nat} (hfr : 4 ≤ fr0) (hlc : 98 ≤ lc0) (hrec : ∀ (q : Nat) (σ : StL) (z0 z1 z2 : Int32) (r : Int32 × StL), rec σ z0 z1 z2 = some r → RwM l y_L_liesBelow b_L_liesBelow 6 (some .boolean) fr0 lc0 D [(cI, .int), (cZ, .boolean)] [.ref (a 0), .int z0, .int z1, .int z2] (fun q (σ : StL) => wL cI cZ a q σ) q σ r)  {n : Nat} {q : Nat} {σ : StL} {x1 x3 x4 x5 x6 x7 : Int32} (h : f_L_hasFittingPart_30 rec n σ x1 x3 x4 x5 x6 x7 = some res) {H : Heap} {locs : List Loc} (hP : va_P D vwCl (wL cI cZ a q σ) H) (hD : va_D A (wL cI cZ a q σ)) (hS : va_S A s.heap H locs) {ls : Array Slot} (hl : lv_has ls 9 [(0, .ref (a 0)), (1, .int x1), (3, .int x3), (4, .int x4), (5, .int x5), (6, .int x6), (7, .int x7)]) : W p l e (rmK (fr0 + 1) (lc0 + 25) 0 0) s m args below meth c H locs 0 0 (RwQ below args s D A (fun q (σ : StL) => (wL cI cZ a q σ)) res 0 0) (F0 m 30 ls []) := by
  induction n generalizing q σ x1 x3 x4 x5 x6 x7 H locs ls with
  | zero => cases h
  | succ n ih => exact t_L_hasFittingPart_30_s (a := a) C0 hA hfr hlc hrec  (fun _ _ _ _ _ _ _ _ _ _ _ h hP hD hS hl => ih h hP hD hS hl) h hP hD hS hl
set_option maxHeartbeats 4000000 in
set_option maxRecDepth 100000 in
theorem t_L_hasFittingPart_0 {p : Program} {l : Launch} {e : Env} {s : State} {m : MethodId} {args : Array Value} {below : List Frame} {meth : Method} {c : Code} {D : va_G} {cI cZ : ClassId} {a : Nat → Nat} {A : Nat → Prop} (C0 : Am p s m args meth c b_L_hasFittingPart (some .boolean) 9 R_L D [(cI, .int), (cZ, .boolean)]) (hA : ∀ q, s.heap.size ≤ q → A q) {res : Int32 × StL} {rec : StL → Int32 → Int32 → Int32 → Option (Int32 × StL)} {fr0 lc0 : Nat} (hfr : 4 ≤ fr0) (hlc : 98 ≤ lc0) (hrec : ∀ (q : Nat) (σ : StL) (z0 z1 z2 : Int32) (r : Int32 × StL), rec σ z0 z1 z2 = some r → RwM l y_L_liesBelow b_L_liesBelow 6 (some .boolean) fr0 lc0 D [(cI, .int), (cZ, .boolean)] [.ref (a 0), .int z0, .int z1, .int z2] (fun q (σ : StL) => wL cI cZ a q σ) q σ r)   {q : Nat} {σ : StL} {x1 x2 x3 : Int32} (h : f_L_hasFittingPart rec σ x1 x2 x3 = some res) {H : Heap} {locs : List Loc} (hP : va_P D vwCl (wL cI cZ a q σ) H) (hD : va_D A (wL cI cZ a q σ)) (hS : va_S A s.heap H locs) {ls : Array Slot} (hl : lv_has ls 9 [(0, .ref (a 0)), (1, .int x1), (2, .int x2), (3, .int x3)]) : W p l e (rmK (fr0 + 1) (lc0 + 25) 0 0) s m args below meth c H locs 0 0 (RwQ below args s D A (fun q (σ : StL) => (wL cI cZ a q σ)) res 0 0) (F0 m 0 ls []) := by
  obtain ⟨hx, hb, hr, hml, hown, hts, hlk, hK⟩ := id C0
  unfold f_L_hasFittingPart at h
  refine lv_aload_n hx hb d_L_hasFittingPart_0 rfl (lv_at hl 0 rfl) ?_
  refine va_get (ci := 0) (v := .ref (a 10)) (C := R_L) (T := F_L) (N := 6) hx hb hts i_L hown hK.1 hP 0 rfl rfl 2 (by decide) (hts _ wd_85) (fun _ h9 => h9) rfl d_L_hasFittingPart_1 ?_
  refine lv_iload_n hx hb d_L_hasFittingPart_4 rfl (lv_at hl 2 rfl) ?_
  replace h := bd h
  obtain ⟨r1, g1, h⟩ := h
  refine ro_V (n := 1) (ci := 2) (As := [.int x2]) (rest := []) C0 (c_T_classOf l D cI cZ a q (L_types σ) x2 g1) wd_195 ⟨wd_196, wd_197, wd_198, wd_52⟩ (by decide +kernel) ⟨by show 1 + 1 ≤ fr0 + 1; omega, by show 8 + (2 + 11) + 21 ≤ lc0 + 25; omega⟩ (hP.pick [10, 11, 12, 13, 14, 15, 16, 17, 18] rfl) rfl rfl rfl hl rfl rfl (Nat.le_of_ble_eq_true rfl) ⟨Nat.zero_le _, Nat.zero_le _⟩ d_L_hasFittingPart_5 ?_
  try dsimp only at h
  refine lv_istore (lv' := [(4, .int r1), (0, .ref (a 0)), (1, .int x1), (2, .int x2), (3, .int x3)]) hx hb d_L_hasFittingPart_8 hl (by decide) rfl (fun ls hl => ?_)
  refine lv_aload_n hx hb d_L_hasFittingPart_10 rfl (lv_at hl 1 rfl) ?_
  refine va_get (ci := 0) (v := .ref (a 10)) (C := R_L) (T := F_L) (N := 6) hx hb hts i_L hown hK.1 hP 0 rfl rfl 2 (by decide) (hts _ wd_85) (fun _ h9 => h9) rfl d_L_hasFittingPart_11 ?_
  refine lv_iload_n hx hb d_L_hasFittingPart_14 rfl (lv_at hl 3 rfl) ?_
  replace h := bd h
  obtain ⟨r2, g2, h⟩ := h
  refine ro_V (n := 1) (ci := 2) (As := [.int x2]) (rest := []) C0 (c_T_argumentAt l D cI cZ a q (L_types σ) x2 g2) wd_217 ⟨wd_218, wd_219, wd_220, wd_52⟩ (by decide +kernel) ⟨by show 1 + 1 ≤ fr0 + 1; omega, by show 8 + (2 + 11) + 21 ≤ lc0 + 25; omega⟩ (hP.pick [10, 11, 12, 13, 14, 15, 16, 17, 18] rfl) rfl rfl rfl hl rfl rfl (Nat.le_of_ble_eq_true rfl) ⟨Nat.zero_le _, Nat.zero_le _⟩ d_L_hasFittingPart_15 ?_
  try dsimp only at h
  refine lv_istore (lv' := [(5, .int r2), (4, .int r1), (0, .ref (a 0)), (1, .int x1), (2, .int x2), (3, .int x3)]) hx hb d_L_hasFittingPart_18 hl (by decide) rfl (fun ls hl => ?_)
  refine lv_aload_n hx hb d_L_hasFittingPart_20 rfl (lv_at hl 2 rfl) ?_
  refine lv_iload_n hx hb d_L_hasFittingPart_21 rfl (lv_at hl 3 rfl) ?_
  replace h := bd h
  obtain ⟨r3, g3, h⟩ := h
  refine ro_V (n := 1) (ci := 0) (As := [.int x1]) (rest := []) C0 (c_L_countHolders l D cI cZ a q σ x1 g3) wd_213 ⟨wd_214, wd_215, wd_216, wd_55⟩ (by decide +kernel) ⟨by show 2 + 1 ≤ fr0 + 1; omega, by show 8 + (2 + 11) + 42 ≤ lc0 + 25; omega⟩ hP rfl rfl rfl hl rfl rfl (Nat.le_of_ble_eq_true rfl) ⟨Nat.zero_le _, Nat.zero_le _⟩ d_L_hasFittingPart_22 ?_
  try dsimp only at h
  refine lv_istore (lv' := [(6, .int r3), (5, .int r2), (4, .int r1), (0, .ref (a 0)), (1, .int x1), (2, .int x2), (3, .int x3)]) hx hb d_L_hasFittingPart_25 hl (by decide) rfl (fun ls hl => ?_)
  refine lv_iconst (v := 0) hx hb d_L_hasFittingPart_27 (by decide) ?_
  refine lv_istore (lv' := [(7, .int 0), (6, .int r3), (5, .int r2), (4, .int r1), (0, .ref (a 0)), (1, .int x1), (2, .int x2), (3, .int x3)]) hx hb d_L_hasFittingPart_28 hl (by decide) rfl (fun ls hl => ?_)
  exact t_L_hasFittingPart_30 (a := a) C0 hA hfr hlc hrec  h hP hD hS (lv_sub hl [4, 5, 7, 3, 2, 1, 0] rfl)
set_option maxHeartbeats 4000000 in
set_option maxRecDepth 100000 in
theorem c_L_hasFittingPart {l : Launch} {D : va_G} {cI cZ : ClassId} {a : Nat → Nat} {rec : StL → Int32 → Int32 → Int32 → Option (Int32 × StL)} {fr0 lc0 : Nat} (hfr : 4 ≤ fr0) (hlc : 98 ≤ lc0) (hrec : ∀ (q : Nat) (σ : StL) (z0 z1 z2 : Int32) (r : Int32 × StL), rec σ z0 z1 z2 = some r → RwM l y_L_liesBelow b_L_liesBelow 6 (some .boolean) fr0 lc0 D [(cI, .int), (cZ, .boolean)] [.ref (a 0), .int z0, .int z1, .int z2] (fun q (σ : StL) => wL cI cZ a q σ) q σ r) (q : Nat) (σ : StL) (x1 : Int32) (x2 : Int32) (x3 : Int32) {res : Int32 × StL} (h : f_L_hasFittingPart rec σ x1 x2 x3 = some res) : RwM l y_L_hasFittingPart b_L_hasFittingPart 9 (some .boolean) (fr0 + 1) (lc0 + 25) D [(cI, .int), (cZ, .boolean)] [.ref (a 0), .int x1, .int x2, .int x3] (fun q (σ : StL) => (wL cI cZ a q σ)) q σ res :=
  rw_of (by decide) (Nat.le_of_ble_eq_true rfl) (fun p e s m args below meth c ls A C0 hA hP hD hS hl => t_L_hasFittingPart_0 (a := a) C0 hA hfr hlc hrec h hP hD hS (lv_sub hl [0, 1, 2, 3] rfl))
