def f_M_partsWay_85 (k6 : StM → Int32 → Int32 → Int32 → Int32 → Int32 → Option (Int32 × StM)) (σ : StM) (x1 x2 x3 x5 : Int32) : Option (Int32 × StM) :=
  k6 σ x1 x2 x3 1 (x5 + 1)
def f_M_partsWay_6_s (k6 : StM → Int32 → Int32 → Int32 → Int32 → Int32 → Option (Int32 × StM)) (σ : StM) (x1 x2 x3 x4 x5 : Int32) : Option (Int32 × StM) :=
  if (M_classes σ) ≤ x5 then
    some ((x4 &&& 1), σ)
  else
    if x5 < 0 ∨ 30 ≤ x5.toNatClampNeg then none else
    if ((M_generic σ) x5.toNatClampNeg) = 0 then
      k6 σ x1 x2 x3 x4 (x5 + 1)
    else
      (f_M_climb σ x1 1 (-2) x5).bind fun r1 =>
      (f_M_climb r1.2 x2 1 x3 x5).bind fun r2 =>
      if x4 = 0 then
        if (M_found r1.2) = 0 then
          k6 r2.2 x1 x2 x3 0 (x5 + 1)
        else
          if (M_found r2.2) = 0 then
            k6 r2.2 x1 x2 x3 0 (x5 + 1)
          else
            if (M_foundType r1.2) = (M_foundType r2.2) then
              k6 r2.2 x1 x2 x3 0 (x5 + 1)
            else
              f_M_partsWay_85 k6 r2.2 x1 x2 x3 x5
      else
        f_M_partsWay_85 k6 r2.2 x1 x2 x3 x5
def f_M_partsWay_6 : Nat → StM → Int32 → Int32 → Int32 → Int32 → Int32 → Option (Int32 × StM)
  | 0, _, _, _, _, _, _ => none
  | n + 1, σ, x1, x2, x3, x4, x5 => f_M_partsWay_6_s (f_M_partsWay_6 n) σ x1 x2 x3 x4 x5
def f_M_partsWay (σ : StM) (x1 x2 x3 : Int32) : Option (Int32 × StM) :=
  f_M_partsWay_6 1000 σ x1 x2 x3 0 0
set_option maxHeartbeats 4000000 in
set_option maxRecDepth 100000 in
theorem t_M_partsWay_85 {p : Program} {l : Launch} {e : Env} {s : State} {m : MethodId} {args : Array Value} {below : List Frame} {meth : Method} {c : Code} {D : va_G} {cI cZ : ClassId} {a : Nat → Nat} {A : Nat → Prop} (C0 : Am p s m args meth c b_M_partsWay (some .boolean) 8 R_M D [(cI, .int), (cZ, .boolean)]) (hA : ∀ q, s.heap.size ≤ q → A q) {res : Int32 × StM} {k6 : StM → Int32 → Int32 → Int32 → Int32 → Int32 → Option (Int32 × StM)} (hk6 : ∀ (q : Nat) (σ : StM) (x1 x2 x3 x4 x5 : Int32) (H : Heap) (locs : List Loc) (ls : Array Slot), k6 σ x1 x2 x3 x4 x5 = some res → va_P D vwCl (wM cI cZ a q σ) H → va_D A (wM cI cZ a q σ) → va_S A s.heap H locs → lv_has ls 8 [(0, .ref (a 20)), (1, .int x1), (2, .int x2), (3, .int x3), (4, .int x4), (5, .int x5)] → W p l e (rmK 2 49 0 0) s m args below meth c H locs 0 0 (RwQ below args s D A (fun q (σ : StM) => (wM cI cZ a q σ)) res 0 0) (F0 m 6 ls []))  {q : Nat} {σ : StM} {x1 x2 x3 x5 : Int32} (h : f_M_partsWay_85 k6 σ x1 x2 x3 x5 = some res) {H : Heap} {locs : List Loc} (hP : va_P D vwCl (wM cI cZ a q σ) H) (hD : va_D A (wM cI cZ a q σ)) (hS : va_S A s.heap H locs) {ls : Array Slot} (hl : lv_has ls 8 [(0, .ref (a 20)), (1, .int x1), (2, .int x2), (3, .int x3), (5, .int x5)]) : W p l e (rmK 2 49 0 0) s m args below meth c H locs 0 0 (RwQ below args s D A (fun q (σ : StM) => (wM cI cZ a q σ)) res 0 0) (F0 m 85 ls []) := by
  obtain ⟨hx, hb, hr, hml, hown, hts, hlk, hK⟩ := id C0
  unfold f_M_partsWay_85 at h
  refine lv_iconst (v := 1) hx hb d_M_partsWay_85 (by decide) ?_
  refine lv_goto (tgt := 90) hx hb d_M_partsWay_86 (by decide) ?_
  refine lv_istore (lv' := [(4, .int 1), (0, .ref (a 20)), (1, .int x1), (2, .int x2), (3, .int x3), (5, .int x5)]) hx hb d_M_partsWay_90 hl (by decide) rfl (fun ls hl => ?_)
  refine lv_iinc (v := (x5 + 1)) (lv' := [(5, .int (x5 + 1)), (4, .int 1), (0, .ref (a 20)), (1, .int x1), (2, .int x2), (3, .int x3)]) hx hb d_M_partsWay_92 hl (k := 5) rfl rfl (by decide) rfl (fun ls hl => ?_)
  refine lv_goto (tgt := 6) hx hb d_M_partsWay_95 (by decide) ?_
  exact hk6 _ _ _ _ _ _ _ _ _ _ h hP hD hS (lv_sub hl [2, 3, 4, 5, 1, 0] rfl)
set_option maxHeartbeats 4000000 in
set_option maxRecDepth 100000 in
theorem t_M_partsWay_6_s {p : Program} {l : Launch} {e : Env} {s : State} {m : MethodId} {args : Array Value} {below : List Frame} {meth : Method} {c : Code} {D : va_G} {cI cZ : ClassId} {a : Nat → Nat} {A : Nat → Prop} (C0 : Am p s m args meth c b_M_partsWay (some .boolean) 8 R_M D [(cI, .int), (cZ, .boolean)]) (hA : ∀ q, s.heap.size ≤ q → A q) {res : Int32 × StM} {k6 : StM → Int32 → Int32 → Int32 → Int32 → Int32 → Option (Int32 × StM)}  (hk6 : ∀ (q : Nat) (σ : StM) (x1 x2 x3 x4 x5 : Int32) (H : Heap) (locs : List Loc) (ls : Array Slot), k6 σ x1 x2 x3 x4 x5 = some res → va_P D vwCl (wM cI cZ a q σ) H → va_D A (wM cI cZ a q σ) → va_S A s.heap H locs → lv_has ls 8 [(0, .ref (a 20)), (1, .int x1), (2, .int x2), (3, .int x3), (4, .int x4), (5, .int x5)] → W p l e (rmK 2 49 0 0) s m args below meth c H locs 0 0 (RwQ below args s D A (fun q (σ : StM) => (wM cI cZ a q σ)) res 0 0) (F0 m 6 ls [])) {q : Nat} {σ : StM} {x1 x2 x3 x4 x5 : Int32} (h : f_M_partsWay_6_s k6 σ x1 x2 x3 x4 x5 = some res) {H : Heap} {locs : List Loc} (hP : va_P D vwCl (wM cI cZ a q σ) H) (hD : va_D A (wM cI cZ a q σ)) (hS : va_S A s.heap H locs) {ls : Array Slot} (hl : lv_has ls 8 [(0, .ref (a 20)), (1, .int x1), (2, .int x2), (3, .int x3), (4, .int x4), (5, .int x5)]) : W p l e (rmK 2 49 0 0) s m args below meth c H locs 0 0 (RwQ below args s D A (fun q (σ : StM) => (wM cI cZ a q σ)) res 0 0) (F0 m 6 ls []) := by
  obtain ⟨hx, hb, hr, hml, hown, hts, hlk, hK⟩ := id C0
  unfold f_M_partsWay_6_s at h
  refine lv_iload hx hb d_M_partsWay_6 (lv_at hl 5 rfl) ?_
  refine lv_aload_n hx hb d_M_partsWay_8 rfl (lv_at hl 0 rfl) ?_
  refine va_get (ci := 4) (v := .int (M_classes σ)) (C := R_M) (T := F_M) (N := 35) hx hb hts i_M hown hK.1 hP 0 rfl rfl 2 (by decide) (hts _ wd_343) (fun _ h9 => h9) rfl d_M_partsWay_9 ?_
  refine lv_icmp_ge (tgt := 98) hx hb d_M_partsWay_12 (by decide) (fun hc => ?_) (fun hc => ?_)
  · rw [if_pos hc] at h
    refine lv_iload hx hb d_M_partsWay_98 (lv_at hl 4 rfl) ?_
    exact rw_retz C0 hP hD hS rfl (Option.some.inj h) d_M_partsWay_100
  · rw [if_neg hc] at h
    refine lv_aload_n hx hb d_M_partsWay_15 rfl (lv_at hl 0 rfl) ?_
    refine va_get (ci := 4) (v := .ref (a 22)) (C := R_M) (T := F_M) (N := 35) hx hb hts i_M hown hK.1 hP 0 rfl rfl 5 (by decide) (hts _ wd_393) (fun _ h9 => h9) rfl d_M_partsWay_16 ?_
    refine lv_iload hx hb d_M_partsWay_19 (lv_at hl 5 rfl) ?_
    replace h := gd h
    obtain ⟨hi, h⟩ := h
    refine va_zald hx hb hK.1 hP 2 1 rfl rfl hi d_M_partsWay_21 ?_
    refine lv_if_ne (tgt := 28) hx hb d_M_partsWay_22 (by decide) (fun hc => ?_) (fun hc => ?_)
    · rw [if_neg hc] at h
      refine lv_aload_n hx hb d_M_partsWay_28 rfl (lv_at hl 0 rfl) ?_
      refine lv_iload_n hx hb d_M_partsWay_29 rfl (lv_at hl 1 rfl) ?_
      refine lv_iconst (v := 1) hx hb d_M_partsWay_30 (by decide) ?_
      refine lv_bipush (v := (-2)) hx hb d_M_partsWay_31 (by decide) ?_
      refine lv_iload hx hb d_M_partsWay_33 (lv_at hl 5 rfl) ?_
      replace h := bd h
      obtain ⟨r1, g1, h⟩ := h
      refine rw_Vv (n := 4) (ci := 4) (As := [.int x1, .int 1, .int (-2), .int x5]) (rest := []) (Wn := fun _ => (wM cI cZ a q r1.2)) C0 hA (c_M_climb l D cI cZ a q σ x1 1 (-2) x5 g1) wd_359 ⟨wd_360, wd_361, wd_362, wd_352⟩ (by decide +kernel) ⟨Nat.le_of_ble_eq_true rfl, Nat.le_of_ble_eq_true rfl⟩ hP hD hS [0, 1, 2, 3, 4, 5, 6, 7, 8, 9, 10, 11, 12, 13, 14, 15, 16, 17, 18, 19, 20, 21, 22, 23] [] [0, 1, 2, 3, 4, 5, 6, 7, 8, 9, 10, 11, 12, 13, 14, 15, 16, 17, 18, 19, 20, 21, 22, 23] jn_M__C (by decide) jn_M__R (by decide) (by decide) (by decide) jn_M__W rfl rfl rfl hl rfl rfl (Nat.le_of_ble_eq_true rfl) ⟨Nat.zero_le _, Nat.zero_le _⟩ d_M_partsWay_35 (fun H locs _ hP hD hS => ?_)
      try dsimp only at h
      refine lv_aload_n hx hb d_M_partsWay_38 rfl (lv_at hl 0 rfl) ?_
      refine va_get (ci := 4) (v := .int (M_found r1.2)) (C := R_M) (T := F_M) (N := 35) hx hb hts i_M hown hK.1 hP 0 rfl rfl 19 (by decide) (hts _ wd_345) (fun _ h9 => h9) rfl d_M_partsWay_39 ?_
      refine lv_istore (lv' := [(6, .int (M_found r1.2)), (0, .ref (a 20)), (1, .int x1), (2, .int x2), (3, .int x3), (4, .int x4), (5, .int x5)]) hx hb d_M_partsWay_42 hl (by decide) rfl (fun ls hl => ?_)
      refine lv_aload_n hx hb d_M_partsWay_44 rfl (lv_at hl 1 rfl) ?_
      refine va_get (ci := 4) (v := .int (M_foundType r1.2)) (C := R_M) (T := F_M) (N := 35) hx hb hts i_M hown hK.1 hP 0 rfl rfl 21 (by decide) (hts _ wd_347) (fun _ h9 => h9) rfl d_M_partsWay_45 ?_
      refine lv_istore (lv' := [(7, .int (M_foundType r1.2)), (6, .int (M_found r1.2)), (0, .ref (a 20)), (1, .int x1), (2, .int x2), (3, .int x3), (4, .int x4), (5, .int x5)]) hx hb d_M_partsWay_48 hl (by decide) rfl (fun ls hl => ?_)
      refine lv_aload_n hx hb d_M_partsWay_50 rfl (lv_at hl 2 rfl) ?_
      refine lv_iload_n hx hb d_M_partsWay_51 rfl (lv_at hl 4 rfl) ?_
      refine lv_iconst (v := 1) hx hb d_M_partsWay_52 (by decide) ?_
      refine lv_iload_n hx hb d_M_partsWay_53 rfl (lv_at hl 5 rfl) ?_
      refine lv_iload hx hb d_M_partsWay_54 (lv_at hl 7 rfl) ?_
      replace h := bd h
      obtain ⟨r2, g2, h⟩ := h
      refine rw_Vv (n := 4) (ci := 4) (As := [.int x2, .int 1, .int x3, .int x5]) (rest := []) (Wn := fun _ => (wM cI cZ a q r2.2)) C0 hA (c_M_climb l D cI cZ a q r1.2 x2 1 x3 x5 g2) wd_359 ⟨wd_360, wd_361, wd_362, wd_352⟩ (by decide +kernel) ⟨Nat.le_of_ble_eq_true rfl, Nat.le_of_ble_eq_true rfl⟩ hP hD hS [0, 1, 2, 3, 4, 5, 6, 7, 8, 9, 10, 11, 12, 13, 14, 15, 16, 17, 18, 19, 20, 21, 22, 23] [] [0, 1, 2, 3, 4, 5, 6, 7, 8, 9, 10, 11, 12, 13, 14, 15, 16, 17, 18, 19, 20, 21, 22, 23] jn_M__C (by decide) jn_M__R (by decide) (by decide) (by decide) jn_M__W rfl rfl rfl hl rfl rfl (Nat.le_of_ble_eq_true rfl) ⟨Nat.zero_le _, Nat.zero_le _⟩ d_M_partsWay_56 (fun H locs _ hP hD hS => ?_)
      try dsimp only at h
      refine lv_iload hx hb d_M_partsWay_59 (lv_at hl 6 rfl) ?_
      refine lv_if_ne (tgt := 85) hx hb d_M_partsWay_61 (by decide) (fun hc => ?_) (fun hc => ?_)
      · rw [if_neg hc] at h
        exact t_M_partsWay_85 (a := a) C0 hA hk6 h hP hD hS (lv_sub hl [2, 3, 4, 5, 7] rfl)
      · rw [if_pos hc] at h
        refine lv_iload hx hb d_M_partsWay_64 (lv_at hl 1 rfl) ?_
        refine lv_if_eq (tgt := 89) hx hb d_M_partsWay_66 (by decide) (fun hc => ?_) (fun hc => ?_)
        · rw [if_pos hc] at h
          refine lv_iconst (v := 0) hx hb d_M_partsWay_89 (by decide) ?_
          refine lv_istore (lv' := [(4, .int 0), (7, .int (M_foundType r1.2)), (6, .int (M_found r1.2)), (0, .ref (a 20)), (1, .int x1), (2, .int x2), (3, .int x3), (5, .int x5)]) hx hb d_M_partsWay_90 hl (by decide) rfl (fun ls hl => ?_)
          refine lv_iinc (v := (x5 + 1)) (lv' := [(5, .int (x5 + 1)), (4, .int 0), (7, .int (M_foundType r1.2)), (6, .int (M_found r1.2)), (0, .ref (a 20)), (1, .int x1), (2, .int x2), (3, .int x3)]) hx hb d_M_partsWay_92 hl (k := 7) rfl rfl (by decide) rfl (fun ls hl => ?_)
          refine lv_goto (tgt := 6) hx hb d_M_partsWay_95 (by decide) ?_
          exact hk6 _ _ _ _ _ _ _ _ _ _ h hP hD hS (lv_sub hl [4, 5, 6, 7, 1, 0] rfl)
        · rw [if_neg hc] at h
          refine lv_aload_n hx hb d_M_partsWay_69 rfl (lv_at hl 2 rfl) ?_
          refine va_get (ci := 4) (v := .int (M_found r2.2)) (C := R_M) (T := F_M) (N := 35) hx hb hts i_M hown hK.1 hP 0 rfl rfl 19 (by decide) (hts _ wd_345) (fun _ h9 => h9) rfl d_M_partsWay_70 ?_
          refine lv_if_eq (tgt := 89) hx hb d_M_partsWay_73 (by decide) (fun hc => ?_) (fun hc => ?_)
          · rw [if_pos hc] at h
            refine lv_iconst (v := 0) hx hb d_M_partsWay_89 (by decide) ?_
            refine lv_istore (lv' := [(4, .int 0), (7, .int (M_foundType r1.2)), (6, .int (M_found r1.2)), (0, .ref (a 20)), (1, .int x1), (2, .int x2), (3, .int x3), (5, .int x5)]) hx hb d_M_partsWay_90 hl (by decide) rfl (fun ls hl => ?_)
            refine lv_iinc (v := (x5 + 1)) (lv' := [(5, .int (x5 + 1)), (4, .int 0), (7, .int (M_foundType r1.2)), (6, .int (M_found r1.2)), (0, .ref (a 20)), (1, .int x1), (2, .int x2), (3, .int x3)]) hx hb d_M_partsWay_92 hl (k := 7) rfl rfl (by decide) rfl (fun ls hl => ?_)
            refine lv_goto (tgt := 6) hx hb d_M_partsWay_95 (by decide) ?_
            exact hk6 _ _ _ _ _ _ _ _ _ _ h hP hD hS (lv_sub hl [4, 5, 6, 7, 1, 0] rfl)
          · rw [if_neg hc] at h
            refine lv_iload hx hb d_M_partsWay_76 (lv_at hl 0 rfl) ?_
            refine lv_aload_n hx hb d_M_partsWay_78 rfl (lv_at hl 2 rfl) ?_
            refine va_get (ci := 4) (v := .int (M_foundType r2.2)) (C := R_M) (T := F_M) (N := 35) hx hb hts i_M hown hK.1 hP 0 rfl rfl 21 (by decide) (hts _ wd_347) (fun _ h9 => h9) rfl d_M_partsWay_79 ?_
            refine lv_icmp_eq (tgt := 89) hx hb d_M_partsWay_82 (by decide) (fun hc => ?_) (fun hc => ?_)
            · rw [if_pos hc] at h
              refine lv_iconst (v := 0) hx hb d_M_partsWay_89 (by decide) ?_
              refine lv_istore (lv' := [(4, .int 0), (7, .int (M_foundType r1.2)), (6, .int (M_found r1.2)), (0, .ref (a 20)), (1, .int x1), (2, .int x2), (3, .int x3), (5, .int x5)]) hx hb d_M_partsWay_90 hl (by decide) rfl (fun ls hl => ?_)
              refine lv_iinc (v := (x5 + 1)) (lv' := [(5, .int (x5 + 1)), (4, .int 0), (7, .int (M_foundType r1.2)), (6, .int (M_found r1.2)), (0, .ref (a 20)), (1, .int x1), (2, .int x2), (3, .int x3)]) hx hb d_M_partsWay_92 hl (k := 7) rfl rfl (by decide) rfl (fun ls hl => ?_)
              refine lv_goto (tgt := 6) hx hb d_M_partsWay_95 (by decide) ?_
              exact hk6 _ _ _ _ _ _ _ _ _ _ h hP hD hS (lv_sub hl [4, 5, 6, 7, 1, 0] rfl)
            · rw [if_neg hc] at h
              exact t_M_partsWay_85 (a := a) C0 hA hk6 h hP hD hS (lv_sub hl [2, 3, 4, 5, 7] rfl)
    · rw [if_pos hc] at h
      refine lv_goto (tgt := 92) hx hb d_M_partsWay_25 (by decide) ?_
      refine lv_iinc (v := (x5 + 1)) (lv' := [(5, .int (x5 + 1)), (0, .ref (a 20)), (1, .int x1), (2, .int x2), (3, .int x3), (4, .int x4)]) hx hb d_M_partsWay_92 hl (k := 5) rfl rfl (by decide) rfl (fun ls hl => ?_)
      refine lv_goto (tgt := 6) hx hb d_M_partsWay_95 (by decide) ?_
      exact hk6 _ _ _ _ _ _ _ _ _ _ h hP hD hS (lv_sub hl [1, 2, 3, 4, 5, 0] rfl)
set_option maxHeartbeats 4000000 in
set_option maxRecDepth 100000 in
theorem t_M_partsWay_6 {p : Program} {l : Launch} {e : Env} {s : State} {m : MethodId} {args : Array Value} {below : List Frame} {meth : Method} {c : Code} {D : va_G} {cI cZ : ClassId} {a : Nat → Nat} {A : Nat → Prop} (C0 : Am p s m args meth c b_M_partsWay (some .boolean) 8 R_M D [(cI, .int), (cZ, .boolean)]) (hA : ∀ q, s.heap.size ≤ q → A q) {res : Int32 × StM}  {n : Nat} {q : Nat} {σ : StM} {x1 x2 x3 x4 x5 : Int32} (h : f_M_partsWay_6  n σ x1 x2 x3 x4 x5 = some res) {H : Heap} {locs : List Loc} (hP : va_P D vwCl (wM cI cZ a q σ) H) (hD : va_D A (wM cI cZ a q σ)) (hS : va_S A s.heap H locs) {ls : Array Slot} (hl : lv_has ls 8 [(0, .ref (a 20)), (1, .int x1), (2, .int x2), (3, .int x3), (4, .int x4), (5, .int x5)]) : W p l e (rmK 2 49 0 0) s m args below meth c H locs 0 0 (RwQ below args s D A (fun q (σ : StM) => (wM cI cZ a q σ)) res 0 0) (F0 m 6 ls []) := by
  induction n generalizing q σ x1 x2 x3 x4 x5 H locs ls with
  | zero => cases h
  | succ n ih => exact t_M_partsWay_6_s (a := a) C0 hA  (fun _ _ _ _ _ _ _ _ _ _ h hP hD hS hl => ih h hP hD hS hl) h hP hD hS hl
set_option maxHeartbeats 4000000 in
set_option maxRecDepth 100000 in
theorem t_M_partsWay_0 {p : Program} {l : Launch} {e : Env} {s : State} {m : MethodId} {args : Array Value} {below : List Frame} {meth : Method} {c : Code} {D : va_G} {cI cZ : ClassId} {a : Nat → Nat} {A : Nat → Prop} (C0 : Am p s m args meth c b_M_partsWay (some .boolean) 8 R_M D [(cI, .int), (cZ, .boolean)]) (hA : ∀ q, s.heap.size ≤ q → A q) {res : Int32 × StM}   {q : Nat} {σ : StM} {x1 x2 x3 : Int32} (h : f_M_partsWay σ x1 x2 x3 = some res) {H : Heap} {locs : List Loc} (hP : va_P D vwCl (wM cI cZ a q σ) H) (hD : va_D A (wM cI cZ a q σ)) (hS : va_S A s.heap H locs) {ls : Array Slot} (hl : lv_has ls 8 [(0, .ref (a 20)), (1, .int x1), (2, .int x2), (3, .int x3)]) : W p l e (rmK 2 49 0 0) s m args below meth c H locs 0 0 (RwQ below args s D A (fun q (σ : StM) => (wM cI cZ a q σ)) res 0 0) (F0 m 0 ls []) := by
  obtain ⟨hx, hb, hr, hml, hown, hts, hlk, hK⟩ := id C0
  unfold f_M_partsWay at h
  refine lv_iconst (v := 0) hx hb d_M_partsWay_0 (by decide) ?_
  refine lv_istore (lv' := [(4, .int 0), (0, .ref (a 20)), (1, .int x1), (2, .int x2), (3, .int x3)]) hx hb d_M_partsWay_1 hl (by decide) rfl (fun ls hl => ?_)
  refine lv_iconst (v := 0) hx hb d_M_partsWay_3 (by decide) ?_
  refine lv_istore (lv' := [(5, .int 0), (4, .int 0), (0, .ref (a 20)), (1, .int x1), (2, .int x2), (3, .int x3)]) hx hb d_M_partsWay_4 hl (by decide) rfl (fun ls hl => ?_)
  exact t_M_partsWay_6 (a := a) C0 hA  h hP hD hS (lv_sub hl [2, 3, 4, 5, 1, 0] rfl)
set_option maxHeartbeats 4000000 in
set_option maxRecDepth 100000 in
theorem c_M_partsWay (l : Launch) (D : va_G) (cI cZ : ClassId) (a : Nat → Nat) (q : Nat) (σ : StM) (x1 : Int32) (x2 : Int32) (x3 : Int32) {res : Int32 × StM} (h : f_M_partsWay σ x1 x2 x3 = some res) : RwM l y_M_partsWay b_M_partsWay 8 (some .boolean) 2 49 D [(cI, .int), (cZ, .boolean)] [.ref (a 20), .int x1, .int x2, .int x3] (fun q (σ : StM) => (wM cI cZ a q σ)) q σ res :=
  rw_of (by decide) (Nat.le_of_ble_eq_true rfl) (fun p e s m args below meth c ls A C0 hA hP hD hS hl => t_M_partsWay_0 (a := a) C0 hA h hP hD hS (lv_sub hl [0, 1, 2, 3] rfl))
