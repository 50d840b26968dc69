-- part 07.6M.19M_partsWay.lean.txt
def f_M_partsWay_85 (k6 : StM → Int32 → Int32 → Int32 → Int32 → Int32 → Option (Int32 × StM)) (σ : StM) (x1 x2 x3 x5 : Int32) : Option (Int32 × StM) :=
  k6 σ x1 x2 x3 1 (x5 + 1)
def f_M_partsWay_6_s (k6 : StM → Int32 → Int32 → Int32 → Int32 → Int32 → Option (Int32 × StM)) (σ : StM) (x1 x2 x3 x4 x5 : Int32) : Option (Int32 × StM) :=
  if (M_classes σ) ≤ x5 then
    some ((x4 &&& 1), σ)
  else
    if x5 < 0 ∨ 30 ≤ x5.toNatClampNeg then none else
    if ((M_generic σ) x5.toNatClampNeg) = 0 then
      k6 σ x1 x2 x3 x4 (x5 + 1)
    else
      (f_M_climb σ x1 1 (-2) x5).bind fun r1 =>
      (f_M_climb r1.2 x2 1 x3 x5).bind fun r2 =>
      if x4 = 0 then
        if (M_found r1.2) = 0 then
          k6 r2.2 x1 x2 x3 0 (x5 + 1)
        else
          if (M_found r2.2) = 0 then
            k6 r2.2 x1 x2 x3 0 (x5 + 1)
          else
            if (M_foundType r1.2) = (M_foundType r2.2) then
              k6 r2.2 x1 x2 x3 0 (x5 + 1)
            else
              f_M_partsWay_85 k6 r2.2 x1 x2 x3 x5
      else
        f_M_partsWay_85 k6 r2.2 x1 x2 x3 x5
def f_M_partsWay_6 : Nat → StM → Int32 → Int32 → Int32 → Int32 → Int32 → Option (Int32 × StM)
  | 0, _, _, _, _, _, _ => none
  | n + 1, σ, x1, x2, x3, x4, x5 => f_M_partsWay_6_s (f_M_partsWay_6 n) σ x1 x2 x3 x4 x5
def f_M_partsWay (σ : StM) (x1 x2 x3 : Int32) : Option (Int32 × StM) :=
  f_M_partsWay_6 1000 σ x1 x2 x3 0 0
set_option maxHeartbeats 4000000 in
set_option maxRecDepth 100000 in
theorem t_M_partsWay_85 {p : Program} {l : Launch} {e : Env} {s : State} {m : MethodId} {args : Array Value} {below : List Frame} {meth : Method} {c : Code} {D : va_G} {cI cZ : ClassId} {a : Nat → Nat} {A : Nat → Prop} (C0 : Am p s m args meth c b_M_partsWay (some .boolean) 8 R_M D [(cI, .int), (cZ, .boolean)]) (hA : ∀ q, s.heap.size ≤ q → A q) {res : Int32 × StM} {k6 : StM → Int32 → Int32 → Int32 → Int32 → Int32 → Option (Int32 × StM)} (hk6 : ∀ (q : Nat) (σ : StM) (x1 x2 x3 x4 x5 : Int32) (H : Heap) (locs : List Loc) (ls : Array Slot), k6 σ x1 x2 x3 x4 x5 = some res → va_P D vwCl (wM cI cZ a q σ) H → va_D A (wM cI cZ a q σ) → va_S A s.heap H locs → lv_has ls 8 [(0, .ref (a 20)), (1, .int x1), (2, .int x2), (3, .int x3), (4, .int x4), (5, .int x5)] → W p l e (rmK 2 49 0 0) s m args below meth c H locs 0 0 (RwQ below args s D A (fun q (σ : StM) => (wM cI cZ a q σ)) res 0 0) (F0 m 6 ls []))  {q : Nat} {σ : StM} {x1 x2 x3 x5 : Int32} (h : f_M_partsWay_85 k6 σ x1 x2 x3 x5 = some res) {H : Heap} {locs : List Loc} (hP : va_P D vwCl (wM cI cZ a q σ) H) (hD : va_D A (wM cI cZ a q σ)) (hS : va_S A s.heap H locs) {ls : Array Slot} (hl : lv_has ls 8 [(0, .ref (a 20)), (1, .int x1), (2, .int x2), (3, .int x3), (5, .int x5)]) : W p l e (rmK 2 49 0 0) s m args below meth c H locs 0 0 (RwQ below args s D A (fun q (σ : StM) => (wM cI cZ a q σ)) res 0 0) (F0 m 85 ls []) := by
  obtain ⟨hx, hb, hr, hml, hown, hts, hlk, hK⟩ := id C0
  unfold f_M_partsWay_85 at h
  refine lv_iconst (v := 1) hx hb d_M_partsWay_85 (by decide) ?_
  refine lv_goto (tgt := 90) hx hb d_M_partsWay_86 (by decide) ?_
  refine lv_istore (lv' := [(4, .int 1), (0, .ref (a 20)), (1, .int x1), (2, .int x2), (3, .int x3), (5, .int x5)]) hx hb d_M_partsWay_90 hl (by decide) rfl (fun ls hl => ?_)
  refine lv_iinc (v := (x5 + 1)) (lv' := [(5, .int (x5 + 1)), (4, .int 1), (0, .ref (a 20)), (1, .int x1), (2, .int x2), (3, .int x3)]) hx hb d_M_partsWay_92 hl (k := 5) rfl rfl (by decide) rfl (fun ls hl => ?_)
  refine lv_goto (tgt := 6) hx hb d_M_partsWay_95 (by decide) ?_
  exact hk6 _ _ _ _ _ _ _ _ _ _ h hP hD hS (lv_sub hl [2, 3, 4, 5, 1, 0] rfl)
set_option maxHeartbeats 4000000 in
set_option maxRecDepth 100000 in
theorem t_M_partsWay_6_s {p : Program} {l : Launch} {e : Env} {s : State} {m : MethodId} {args : Array Value} {below : List Frame} {meth : Method} {c : Code} {D : va_G} {cI cZ : ClassId} {a : Nat → Nat} {A : Nat → Prop} (C0 : Am p s m args meth c b_M_partsWay (some .boolean) 8 R_M D [(cI, .int), (cZ, .boolean)]) (hA : ∀ q, s.heap.size ≤ q → A q) {res : Int32 × StM} {k6 : StM → Int32 → Int32 → Int32 → Int32 → Int32 → Option (Int32 × StM)}  (hk6 : ∀ (q : Nat) (σ : StM) (x1 x2 x3 x4 x5 : Int32) (H : Heap) (locs : List Loc) (ls : Array Slot), k6 σ x1 x2 x3 x4 x5 = some res → va_P D vwCl (wM cI cZ a q σ) H → va_D A (wM cI cZ a q σ) → va_S A s.heap H locs → lv_has ls 8 [(0, .ref (a 20)), (1, .int x1), (2, .int x2), (3, .int x3), (4, .int x4), (5, .int x5)] → W p l e (rmK 2 49 0 0) s m args below meth c H locs 0 0 (RwQ below args s D A (fun q (σ : StM) => (wM cI cZ a q σ)) res 0 0) (F0 m 6 ls [])) {q : Nat} {σ : StM} {x1 x2 x3 x4 x5 : Int32} (h : f_M_partsWay_6_s k6 σ x1 x2 x3 x4 x5 = some res) {H : Heap} {locs : List Loc} (hP : va_P D vwCl (wM cI cZ a q σ) H) (hD : va_D A (wM cI cZ a q σ)) (hS : va_S A s.heap H locs) {ls : Array Slot} (hl : lv_has ls 8 [(0, .ref (a 20)), (1, .int x1), (2, .int x2), (3, .int x3), (4, .int x4), (5, .int x5)]) : W p l e (rmK 2 49 0 0) s m args below meth c H locs 0 0 (RwQ below args s D A (fun q (σ : StM) => (wM cI cZ a q σ)) res 0 0) (F0 m 6 ls []) := by
  obtain ⟨hx, hb, hr, hml, hown, hts, hlk, hK⟩ := id C0
  unfold f_M_partsWay_6_s at h
  refine lv_iload hx hb d_M_partsWay_6 (lv_at hl 5 rfl) ?_
  refine lv_aload_n hx hb d_M_partsWay_8 rfl (lv_at hl 0 rfl) ?_
  refine va_get (ci := 4) (v := .int (M_classes σ)) (C := R_M) (T := F_M) (N := 35) hx hb hts i_M hown hK.1 hP 0 rfl rfl 2 (by decide) (hts _ wd_343) (fun _ h9 => h9) rfl d_M_partsWay_9 ?_
  refine lv_icmp_ge (tgt := 98) hx hb d_M_partsWay_12 (by decide) (fun hc => ?_) (fun hc => ?_)
  · rw [if_pos hc] at h
    refine lv_iload hx hb d_M_partsWay_98 (lv_at hl 4 rfl) ?_
    exact rw_retz C0 hP hD hS rfl (Option.some.inj h) d_M_partsWay_100
  · rw [if_neg hc] at h
    refine lv_aload_n hx hb d_M_partsWay_15 rfl (lv_at hl 0 rfl) ?_
    refine va_get (ci := 4) (v := .ref (a 22)) (C := R_M) (T := F_M) (N := 35) hx hb hts i_M hown hK.1 hP 0 rfl rfl 5 (by decide) (hts _ wd_393) (fun _ h9 => h9) rfl d_M_partsWay_16 ?_
    refine lv_iload hx hb d_M_partsWay_19 (lv_at hl 5 rfl) ?_
    replace h := gd h
    obtain ⟨hi, h⟩ := h
    refine va_zald hx hb hK.1 hP 2 1 rfl rfl hi d_M_partsWay_21 ?_
    refine lv_if_ne (tgt := 28) hx hb d_M_partsWay_22 (by decide) (fun hc => ?_) (fun hc => ?_)
    · rw [if_neg hc] at h
      refine lv_aload_n hx hb d_M_partsWay_28 rfl (lv_at hl 0 rfl) ?_
      refine lv_iload_n hx hb d_M_partsWay_29 rfl (lv_at hl 1 rfl) ?_
      refine lv_iconst (v := 1) hx hb d_M_partsWay_30 (by decide) ?_
      refine lv_bipush (v := (-2)) hx hb d_M_partsWay_31 (by decide) ?_
      refine lv_iload hx hb d_M_partsWay_33 (lv_at hl 5 rfl) ?_
      replace h := bd h
      obtain ⟨r1, g1, h⟩ := h
      refine rw_Vv (n := 4) (ci := 4) (As := [.int x1, .int 1, .int (-2), .int x5]) (rest := []) (Wn := fun _ => (wM cI cZ a q r1.2)) C0 hA (c_M_climb l D cI cZ a q σ x1 1 (-2) x5 g1) wd_359 ⟨wd_360, wd_361, wd_362, wd_352⟩ (by decide +kernel) ⟨Nat.le_of_ble_eq_true rfl, Nat.le_of_ble_eq_true rfl⟩ hP hD hS [0, 1, 2, 3, 4, 5, 6, 7, 8, 9, 10, 11, 12, 13, 14, 15, 16, 17, 18, 19, 20, 21, 22, 23] [] [0, 1, 2, 3, 4, 5, 6, 7, 8, 9, 10, 11, 12, 13, 14, 15, 16, 17, 18, 19, 20, 21, 22, 23] jn_M__C (by decide) jn_M__R (by decide) (by decide) (by decide) jn_M__W rfl rfl rfl hl rfl rfl (Nat.le_of_ble_eq_true rfl) ⟨Nat.zero_le _, Nat.zero_le _⟩ d_M_partsWay_35 (fun H locs _ hP hD hS => ?_)
      try dsimp only at h
      refine lv_aload_n hx hb d_M_partsWay_38 rfl (lv_at hl 0 rfl) ?_
      refine va_get (ci := 4) (v := .int (M_found r1.2)) (C := R_M) (T := F_M) (N := 35) hx hb hts i_M hown hK.1 hP 0 rfl rfl 19 (by decide) (hts _ wd_345) (fun _ h9 => h9) rfl d_M_partsWay_39 ?_
      refine lv_istore (lv' := [(6, .int (M_found r1.2)), (0, .ref (a 20)), (1, .int x1), (2, .int x2), (3, .int x3), (4, .int x4), (5, .int x5)]) hx hb d_M_partsWay_42 hl (by decide) rfl (fun ls hl => ?_)
      refine lv_aload_n hx hb d_M_partsWay_44 rfl (lv_at hl 1 rfl) ?_
      refine va_get (ci := 4) (v := .int (M_foundType r1.2)) (C := R_M) (T := F_M) (N := 35) hx hb hts i_M hown hK.1 hP 0 rfl rfl 21 (by decide) (hts _ wd_347) (fun _ h9 => h9) rfl d_M_partsWay_45 ?_
      refine lv_istore (lv' := [(7, .int (M_foundType r1.2)), (6, .int (M_found r1.2)), (0, .ref (a 20)), (1, .int x1), (2, .int x2), (3, .int x3), (4, .int x4), (5, .int x5)]) hx hb d_M_partsWay_48 hl (by decide) rfl (fun ls hl => ?_)
      refine lv_aload_n hx hb d_M_partsWay_50 rfl (lv_at hl 2 rfl) ?_
      refine lv_iload_n hx hb d_M_partsWay_51 rfl (lv_at hl 4 rfl) ?_
      refine lv_iconst (v := 1) hx hb d_M_partsWay_52 (by decide) ?_
      refine lv_iload_n hx hb d_M_partsWay_53 rfl (lv_at hl 5 rfl) ?_
      refine lv_iload hx hb d_M_partsWay_54 (lv_at hl 7 rfl) ?_
      replace h := bd h
      obtain ⟨r2, g2, h⟩ := h
      refine rw_Vv (n := 4) (ci := 4) (As := [.int x2, .int 1, .int x3, .int x5]) (rest := []) (Wn := fun _ => (wM cI cZ a q r2.2)) C0 hA (c_M_climb l D cI cZ a q r1.2 x2 1 x3 x5 g2) wd_359 ⟨wd_360, wd_361, wd_362, wd_352⟩ (by decide +kernel) ⟨Nat.le_of_ble_eq_true rfl, Nat.le_of_ble_eq_true rfl⟩ hP hD hS [0, 1, 2, 3, 4, 5, 6, 7, 8, 9, 10, 11, 12, 13, 14, 15, 16, 17, 18, 19, 20, 21, 22, 23] [] [0, 1, 2, 3, 4, 5, 6, 7, 8, 9, 10, 11, 12, 13, 14, 15, 16, 17, 18, 19, 20, 21, 22, 23] jn_M__C (by decide) jn_M__R (by decide) (by decide) (by decide) jn_M__W rfl rfl rfl hl rfl rfl (Nat.le_of_ble_eq_true rfl) ⟨Nat.zero_le _, Nat.zero_le _⟩ d_M_partsWay_56 (fun H locs _ hP hD hS => ?_)
      try dsimp only at h
      refine lv_iload hx hb d_M_partsWay_59 (lv_at hl 6 rfl) ?_
      refine lv_if_ne (tgt := 85) hx hb d_M_partsWay_61 (by decide) (fun hc => ?_) (fun hc => ?_)
      · rw [if_neg hc] at h
        exact t_M_partsWay_85 (a := a) C0 hA hk6 h hP hD hS (lv_sub hl [2, 3, 4, 5, 7] rfl)
      · rw [if_pos hc] at h
        refine lv_iload hx hb d_M_partsWay_64 (lv_at hl 1 rfl) ?_
        refine lv_if_eq (tgt := 89) hx hb d_M_partsWay_66 (by decide) (fun hc => ?_) (fun hc => ?_)
        · rw [if_pos hc] at h
          refine lv_iconst (v := 0) hx hb d_M_partsWay_89 (by decide) ?_
          refine lv_istore (lv' := [(4, .int 0), (7, .int (M_foundType r1.2)), (6, .int (M_found r1.2)), (0, .ref (a 20)), (1, .int x1), (2, .int x2), (3, .int x3), (5, .int x5)]) hx hb d_M_partsWay_90 hl (by decide) rfl (fun ls hl => ?_)
          refine lv_iinc (v := (x5 + 1)) (lv' := [(5, .int (x5 + 1)), (4, .int 0), (7, .int (M_foundType r1.2)), (6, .int (M_found r1.2)), (0, .ref (a 20)), (1, .int x1), (2, .int x2), (3, .int x3)]) hx hb d_M_partsWay_92 hl (k := 7) rfl rfl (by decide) rfl (fun ls hl => ?_)
          refine lv_goto (tgt := 6) hx hb d_M_partsWay_95 (by decide) ?_
          exact hk6 _ _ _ _ _ _ _ _ _ _ h hP hD hS (lv_sub hl [4, 5, 6, 7, 1, 0] rfl)
        · rw [if_neg hc] at h
          refine lv_aload_n hx hb d_M_partsWay_69 rfl (lv_at hl 2 rfl) ?_
          refine va_get (ci := 4) (v := .int (M_found r2.2)) (C := R_M) (T := F_M) (N := 35) hx hb hts i_M hown hK.1 hP 0 rfl rfl 19 (by decide) (hts _ wd_345) (fun _ h9 => h9) rfl d_M_partsWay_70 ?_
          refine lv_if_eq (tgt := 89) hx hb d_M_partsWay_73 (by decide) (fun hc => ?_) (fun hc => ?_)
          · rw [if_pos hc] at h
            refine lv_iconst (v := 0) hx hb d_M_partsWay_89 (by decide) ?_
            refine lv_istore (lv' := [(4, .int 0), (7, .int (M_foundType r1.2)), (6, .int (M_found r1.2)), (0, .ref (a 20)), (1, .int x1), (2, .int x2), (3, .int x3), (5, .int x5)]) hx hb d_M_partsWay_90 hl (by decide) rfl (fun ls hl => ?_)
            refine lv_iinc (v := (x5 + 1)) (lv' := [(5, .int (x5 + 1)), (4, .int 0), (7, .int (M_foundType r1.2)), (6, .int (M_found r1.2)), (0, .ref (a 20)), (1, .int x1), (2, .int x2), (3, .int x3)]) hx hb d_M_partsWay_92 hl (k := 7) rfl rfl (by decide) rfl (fun ls hl => ?_)
            refine lv_goto (tgt := 6) hx hb d_M_partsWay_95 (by decide) ?_
            exact hk6 _ _ _ _ _ _ _ _ _ _ h hP hD hS (lv_sub hl [4, 5, 6, 7, 1, 0] rfl)
          · rw [if_neg hc] at h
            refine lv_iload hx hb d_M_partsWay_76 (lv_at hl 0 rfl) ?_
            refine lv_aload_n hx hb d_M_partsWay_78 rfl (lv_at hl 2 rfl) ?_
            refine va_get (ci := 4) (v := .int (M_foundType r2.2)) (C := R_M) (T := F_M) (N := 35) hx hb hts i_M hown hK.1 hP 0 rfl rfl 21 (by decide) (hts _ wd_347) (fun _ h9 => h9) rfl d_M_partsWay_79 ?_
            refine lv_icmp_eq (tgt := 89) hx hb d_M_partsWay_82 (by decide) (fun hc => ?_) (fun hc => ?_)
            · rw [if_pos hc] at h
              refine lv_iconst (v := 0) hx hb d_M_partsWay_89 (by decide) ?_
              refine lv_istore (lv' := [(4, .int 0), (7, .int (M_foundType r1.2)), (6, .int (M_found r1.2)), (0, .ref (a 20)), (1, .int x1), (2, .int x2), (3, .int x3), (5, .int x5)]) hx hb d_M_partsWay_90 hl (by decide) rfl (fun ls hl => ?_)
              refine lv_iinc (v := (x5 + 1)) (lv' := [(5, .int (x5 + 1)), (4, .int 0), (7, .int (M_foundType r1.2)), (6, .int (M_found r1.2)), (0, .ref (a 20)), (1, .int x1), (2, .int x2), (3, .int x3)]) hx hb d_M_partsWay_92 hl (k := 7) rfl rfl (by decide) rfl (fun ls hl => ?_)
              refine lv_goto (tgt := 6) hx hb d_M_partsWay_95 (by decide) ?_
              exact hk6 _ _ _ _ _ _ _ _ _ _ h hP hD hS (lv_sub hl [4, 5, 6, 7, 1, 0] rfl)
            · rw [if_neg hc] at h
              exact t_M_partsWay_85 (a := a) C0 hA hk6 h hP hD hS (lv_sub hl [2, 3, 4, 5, 7] rfl)
    · rw [if_pos hc] at h
      refine lv_goto (tgt := 92) hx hb d_M_partsWay_25 (by decide) ?_
      refine lv_iinc (v := (x5 + 1)) (lv' := [(5, .int (x5 + 1)), (0, .ref (a 20)), (1, .int x1), (2, .int x2), (3, .int x3), (4, .int x4)]) hx hb d_M_partsWay_92 hl (k := 5) rfl rfl (by decide) rfl (fun ls hl => ?_)
      refine lv_goto (tgt := 6) hx hb d_M_partsWay_95 (by decide) ?_
      exact hk6 _ _ _ _ _ _ _ _ _ _ h hP hD hS (lv_sub hl [1, 2, 3, 4, 5, 0] rfl)
set_option maxHeartbeats 4000000 in
set_option maxRecDepth 100000 in
theorem t_M_partsWay_6 {p : Program} {l : Launch} {e : Env} {s : State} {m : MethodId} {args : Array Value} {below : List Frame} {meth : Method} {c : Code} {D : va_G} {cI cZ : ClassId} {a : Nat → Nat} {A : Nat → Prop} (C0 : Am p s m args meth c b_M_partsWay (some .boolean) 8 R_M D [(cI, .int), (cZ, .boolean)]) (hA : ∀ q, s.heap.size ≤ q → A q) {res : Int32 × StM}  {n : Nat} {q : Nat} {σ : StM} {x1 x2 x3 x4 x5 : Int32} (h : f_M_partsWay_6  n σ x1 x2 x3 x4 x5 = some res) {H : Heap} {locs : List Loc} (hP : va_P D vwCl (wM cI cZ a q σ) H) (hD : va_D A (wM cI cZ a q σ)) (hS : va_S A s.heap H locs) {ls : Array Slot} (hl : lv_has ls 8 [(0, .ref (a 20)), (1, .int x1), (2, .int x2), (3, .int x3), (4, .int x4), (5, .int x5)]) : W p l e (rmK 2 49 0 0) s m args below meth c H locs 0 0 (RwQ below args s D A (fun q (σ : StM) => (wM cI cZ a q σ)) res 0 0) (F0 m 6 ls []) := by
  induction n generalizing q σ x1 x2 x3 x4 x5 H locs ls with
  | zero => cases h
  | succ n ih => exact t_M_partsWay_6_s (a := a) C0 hA  (fun _ _ _ _ _ _ _ _ _ _ h hP hD hS hl => ih h hP hD hS hl) h hP hD hS hl
set_option maxHeartbeats 4000000 in
set_option maxRecDepth 100000 in
theorem t_M_partsWay_0 {p : Program} {l : Launch} {e : Env} {s : State} {m : MethodId} {args : Array Value} {below : List Frame} {meth : Method} {c : Code} {D : va_G} {cI cZ : ClassId} {a : Nat → Nat} {A : Nat → Prop} (C0 : Am p s m args meth c b_M_partsWay (some .boolean) 8 R_M D [(cI, .int), (cZ, .boolean)]) (hA : ∀ q, s.heap.size ≤ q → A q) {res : Int32 × StM}   {q : Nat} {σ : StM} {x1 x2 x3 : Int32} (h : f_M_partsWay σ x1 x2 x3 = some res) {H : Heap} {locs : List Loc} (hP : va_P D vwCl (wM cI cZ a q σ) H) (hD : va_D A (wM cI cZ a q σ)) (hS : va_S A s.heap H locs) {ls : Array Slot} (hl : lv_has ls 8 [(0, .ref (a 20)), (1, .int x1), (2, .int x2), (3, .int x3)]) : W p l e (rmK 2 49 0 0) s m args below meth c H locs 0 0 (RwQ below args s D A (fun q (σ : StM) => (wM cI cZ a q σ)) res 0 0) (F0 m 0 ls []) := by
  obtain ⟨hx, hb, hr, hml, hown, hts, hlk, hK⟩ := id C0
  unfold f_M_partsWay at h
  refine lv_iconst (v := 0) hx hb d_M_partsWay_0 (by decide) ?_
  refine lv_istore (lv' := [(4, .int 0), (0, .ref (a 20)), (1, .int x1), (2, .int x2), (3, .int x3)]) hx hb d_M_partsWay_1 hl (by decide) rfl (fun ls hl => ?_)
  refine lv_iconst (v := 0) hx hb d_M_partsWay_3 (by decide) ?_
  refine lv_istore (lv' := [(5, .int 0), (4, .int 0), (0, .ref (a 20)), (1, .int x1), (2, .int x2), (3, .int x3)]) hx hb d_M_partsWay_4 hl (by decide) rfl (fun ls hl => ?_)
  exact t_M_partsWay_6 (a := a) C0 hA  h hP hD hS (lv_sub hl [2, 3, 4, 5, 1, 0] rfl)
set_option maxHeartbeats 4000000 in
set_option maxRecDepth 100000 in
theorem c_M_partsWay (l : Launch) (D : va_G) (cI cZ : ClassId) (a : Nat → Nat) (q : Nat) (σ : StM) (x1 : Int32) (x2 : Int32) (x3 : Int32) {res : Int32 × StM} (h : f_M_partsWay σ x1 x2 x3 = some res) : RwM l y_M_partsWay b_M_partsWay 8 (some .boolean) 2 49 D [(cI, .int), (cZ, .boolean)] [.ref (a 20), .int x1, .int x2, .int x3] (fun q (σ : StM) => (wM cI cZ a q σ)) q σ res :=
  rw_of (by decide) (Nat.le_of_ble_eq_true rfl) (fun p e s m args below meth c ls A C0 hA hP hD hS hl => t_M_partsWay_0 (a := a) C0 hA h hP hD hS (lv_sub hl [0, 1, 2, 3] rfl))
-- part 07.6M.20M_above.lean.txt
def f_M_above_266 (σ : StM) (x3 : Int32) : Option (Int32 × StM) :=
  (f_M_reckonOver σ x3).bind fun r2 =>
  if x3 < 0 ∨ 30 ≤ x3.toNatClampNeg then none else
  some (((M_directs (M_set_reckoned r2.2 0)) x3.toNatClampNeg), (M_set_reckoned r2.2 0))
def f_M_above_216 (σ : StM) (x1 x2 x3 x6 : Int32) : Option (Int32 × StM) :=
  (f_M_good σ x6).bind fun r1 =>
  if r1.1 = 0 then
    some (0, r1.2)
  else
    if x1 < 0 ∨ 30 ≤ x1.toNatClampNeg then none else
    if ((M_face r1.2) x1.toNatClampNeg) = 0 then
      if (30 * x3) < 0 ∨ 900 ≤ (30 * x3).toNatClampNeg then none else
      if (30 * x3) < 0 ∨ 900 ≤ (30 * x3).toNatClampNeg then none else
      f_M_above_266 (M_put_directArg (M_put_directTo r1.2 (30 * x3) x1) (30 * x3) x2) x3
    else
      (f_M_tie r1.2 x3 x1 x2).bind fun r3 =>
      f_M_above_266 r3.2 x3
def f_M_above_141 (σ : StM) (x1 x2 x3 : Int32) : Option (Int32 × StM) :=
  f_M_above_216 σ x1 x2 x3 2
def f_M_above_197 (σ : StM) (x1 x2 x3 : Int32) : Option (Int32 × StM) :=
  f_M_above_216 σ x1 x2 x3 3
def f_M_above_203 (σ : StM) (x1 x2 x3 x6 : Int32) : Option (Int32 × StM) :=
  (f_M_partsWay σ x3 x1 x2).bind fun r5 =>
  if r5.1 = 0 then
    f_M_above_216 r5.2 x1 x2 x3 x6
  else
    f_M_above_216 r5.2 x1 x2 x3 2
def f_M_above_179 (σ : StM) (x1 x2 x3 x6 t0 t1 : Int32) : Option (Int32 × StM) :=
  if t0 = t1 then
    f_M_above_197 σ x1 x2 x3
  else
    if x2 = (-2) then
      if x3 < 0 ∨ 30 ≤ x3.toNatClampNeg then none else
      if ((M_generic σ) x3.toNatClampNeg) = 0 then
        f_M_above_197 σ x1 x2 x3
      else
        f_M_above_203 σ x1 x2 x3 x6
    else
      f_M_above_203 σ x1 x2 x3 x6
def f_M_above_163 (σ : StM) (x1 x2 x3 x6 : Int32) : Option (Int32 × StM) :=
  if x1 < 0 ∨ 30 ≤ x1.toNatClampNeg then none else
  if x2 = (-1) then
    f_M_above_179 σ x1 x2 x3 x6 ((M_generic σ) x1.toNatClampNeg) 1
  else
    f_M_above_179 σ x1 x2 x3 x6 ((M_generic σ) x1.toNatClampNeg) 0
def f_M_above_132 (σ : StM) (x1 x2 x3 x6 : Int32) : Option (Int32 × StM) :=
  (f_M_hasDirect σ x3 x1).bind fun r4 =>
  if r4 = 0 then
    if x2 < (-2) then
      f_M_above_197 σ x1 x2 x3
    else
      if x2 < 0 then
        f_M_above_163 σ x1 x2 x3 x6
      else
        if x2 < 8 then
          f_M_above_197 σ x1 x2 x3
        else
          f_M_above_163 σ x1 x2 x3 x6
  else
    f_M_above_141 σ x1 x2 x3
def f_M_above_118 (σ : StM) (x1 x2 x3 x5 x6 : Int32) : Option (Int32 × StM) :=
  if x5 = 0 then
    f_M_above_132 σ x1 x2 x3 x6
  else
    if x1 < 0 ∨ 30 ≤ x1.toNatClampNeg then none else
    if ((M_face σ) x1.toNatClampNeg) = 0 then
      f_M_above_141 σ x1 x2 x3
    else
      f_M_above_132 σ x1 x2 x3 x6
def f_M_above_73 (σ : StM) (x1 x2 x3 x4 t0 : Int32) : Option (Int32 × StM) :=
  if x4 = 0 then
    f_M_above_216 σ x1 x2 x3 1
  else
    if x3 < 13 then
      f_M_above_141 σ x1 x2 x3
    else
      if x1 = x3 then
        f_M_above_141 σ x1 x2 x3
      else
        if x3 < 0 ∨ 30 ≤ x3.toNatClampNeg then none else
        if ((M_face σ) x3.toNatClampNeg) = 0 then
          f_M_above_118 σ x1 x2 x3 t0 0
        else
          if x1 < 0 ∨ 30 ≤ x1.toNatClampNeg then none else
          if ((M_face σ) x1.toNatClampNeg) = 0 then
            f_M_above_141 σ x1 x2 x3
          else
            f_M_above_118 σ x1 x2 x3 t0 0
def f_M_above_72 (σ : StM) (x1 x2 x3 x4 : Int32) : Option (Int32 × StM) :=
  f_M_above_73 σ x1 x2 x3 x4 0
def f_M_above_28 (σ : StM) (x1 x2 x3 t0 : Int32) : Option (Int32 × StM) :=
  if x3 < 0 ∨ 30 ≤ x3.toNatClampNeg then none else
  if ((M_directs σ) x3.toNatClampNeg) ≤ 0 then
    f_M_above_72 σ x1 x2 x3 t0
  else
    if (30 * x3) < 0 ∨ 900 ≤ (30 * x3).toNatClampNeg then none else
    if ((M_directTo σ) (30 * x3).toNatClampNeg) = 0 then
      f_M_above_72 σ x1 x2 x3 t0
    else
      if (30 * x3) < 0 ∨ 900 ≤ (30 * x3).toNatClampNeg then none else
      if ((M_directTo σ) (30 * x3).toNatClampNeg) < 0 ∨ 30 ≤ ((M_directTo σ) (30 * x3).toNatClampNeg).toNatClampNeg then none else
      if ((M_face σ) ((M_directTo σ) (30 * x3).toNatClampNeg).toNatClampNeg) = 0 then
        f_M_above_73 σ x1 x2 x3 t0 1
      else
        f_M_above_72 σ x1 x2 x3 t0
def f_M_above_27 (σ : StM) (x1 x2 x3 : Int32) : Option (Int32 × StM) :=
  f_M_above_28 σ x1 x2 x3 0
def f_M_above (σ : StM) (x1 x2 : Int32) : Option (Int32 × StM) :=
  if (f_M_isClass σ x1) = 0 then
    f_M_above_27 σ x1 x2 ((M_classes σ) - 1)
  else
    if (M_types σ) ≤ x2 then
      f_M_above_27 σ x1 x2 ((M_classes σ) - 1)
    else
      f_M_above_28 σ x1 x2 ((M_classes σ) - 1) 1
set_option maxHeartbeats 4000000 in
set_option maxRecDepth 100000 in
theorem t_M_above_266 {p : Program} {l : Launch} {e : Env} {s : State} {m : MethodId} {args : Array Value} {below : List Frame} {meth : Method} {c : Code} {D : va_G} {cI cZ : ClassId} {a : Nat → Nat} {A : Nat → Prop} (C0 : Am p s m args meth c b_M_above (some .int) 7 R_M D [(cI, .int), (cZ, .boolean)]) (hA : ∀ q, s.heap.size ≤ q → A q) {res : Int32 × StM}   {q : Nat} {σ : StM} {x3 : Int32} (h : f_M_above_266 σ x3 = some res) {H : Heap} {locs : List Loc} (hP : va_P D vwCl (wM cI cZ a q σ) H) (hD : va_D A (wM cI cZ a q σ)) (hS : va_S A s.heap H locs) {ls : Array Slot} (hl : lv_has ls 7 [(0, .ref (a 20)), (3, .int x3)]) : W p l e (rmK 3 76 0 0) s m args below meth c H locs 0 0 (RwQ below args s D A (fun q (σ : StM) => (wM cI cZ a q σ)) res 0 0) (F0 m 266 ls []) := by
  obtain ⟨hx, hb, hr, hml, hown, hts, hlk, hK⟩ := id C0
  unfold f_M_above_266 at h
  refine lv_aload_n hx hb d_M_above_266 rfl (lv_at hl 0 rfl) ?_
  refine lv_iload_n hx hb d_M_above_267 rfl (lv_at hl 1 rfl) ?_
  replace h := bd h
  obtain ⟨r2, g2, h⟩ := h
  refine rw_Vv (n := 1) (ci := 4) (As := [.int x3]) (rest := []) (Wn := fun _ => (wM cI cZ a q r2.2)) C0 hA (c_M_reckonOver l D cI cZ a q σ x3 g2) wd_399 ⟨wd_400, wd_401, wd_402, wd_352⟩ (by decide +kernel) ⟨Nat.le_of_ble_eq_true rfl, Nat.le_of_ble_eq_true rfl⟩ hP hD hS [0, 1, 2, 3, 4, 5, 6, 7, 8, 9, 10, 11, 12, 13, 14, 15, 16, 17, 18, 19, 20, 21, 22, 23] [] [0, 1, 2, 3, 4, 5, 6, 7, 8, 9, 10, 11, 12, 13, 14, 15, 16, 17, 18, 19, 20, 21, 22, 23] jn_M__C (by decide) jn_M__R (by decide) (by decide) (by decide) jn_M__W rfl rfl rfl hl rfl rfl (Nat.le_of_ble_eq_true rfl) ⟨Nat.zero_le _, Nat.zero_le _⟩ d_M_above_268 (fun H locs _ hP hD hS => ?_)
  try dsimp only at h
  refine lv_aload_n hx hb d_M_above_271 rfl (lv_at hl 0 rfl) ?_
  refine lv_iconst (v := 0) hx hb d_M_above_272 (by decide) ?_
  refine rw_put (v := .int 0) (fty := .int) (C := R_M) (T := F_M) (N := 35) C0 hP hD hS i_M ty_M tyok_M nn_M 0 rfl rfl 24 (by decide) (hts _ wd_375) rfl rfl (by decide +kernel) rfl rfl (Nat.le_of_ble_eq_true rfl) d_M_above_273 (Wn := (wM cI cZ a q (M_set_reckoned r2.2 0))) ws_M_set_reckoned (fun H locs hP hD hS => ?_)
  refine lv_aload_n hx hb d_M_above_276 rfl (lv_at hl 0 rfl) ?_
  refine va_get (ci := 4) (v := .ref (a 23)) (C := R_M) (T := F_M) (N := 35) hx hb hts i_M hown hK.1 hP 0 rfl rfl 6 (by decide) (hts _ wd_339) (fun _ h9 => h9) rfl d_M_above_277 ?_
  refine lv_iload_n hx hb d_M_above_280 rfl (lv_at hl 1 rfl) ?_
  replace h := gd h
  obtain ⟨hi, h⟩ := h
  refine va_iald hx hb hK.1 hP 3 0 rfl rfl hi d_M_above_281 ?_
  exact rw_ret C0 hP hD hS (Option.some.inj h) d_M_above_282
set_option maxHeartbeats 4000000 in
set_option maxRecDepth 100000 in
theorem t_M_above_216 {p : Program} {l : Launch} {e : Env} {s : State} {m : MethodId} {args : Array Value} {below : List Frame} {meth : Method} {c : Code} {D : va_G} {cI cZ : ClassId} {a : Nat → Nat} {A : Nat → Prop} (C0 : Am p s m args meth c b_M_above (some .int) 7 R_M D [(cI, .int), (cZ, .boolean)]) (hA : ∀ q, s.heap.size ≤ q → A q) {res : Int32 × StM}   {q : Nat} {σ : StM} {x1 x2 x3 x6 : Int32} (h : f_M_above_216 σ x1 x2 x3 x6 = some res) {H : Heap} {locs : List Loc} (hP : va_P D vwCl (wM cI cZ a q σ) H) (hD : va_D A (wM cI cZ a q σ)) (hS : va_S A s.heap H locs) {ls : Array Slot} (hl : lv_has ls 7 [(0, .ref (a 20)), (1, .int x1), (2, .int x2), (3, .int x3), (6, .int x6)]) : W p l e (rmK 3 76 0 0) s m args below meth c H locs 0 0 (RwQ below args s D A (fun q (σ : StM) => (wM cI cZ a q σ)) res 0 0) (F0 m 216 ls []) := by
  obtain ⟨hx, hb, hr, hml, hown, hts, hlk, hK⟩ := id C0
  unfold f_M_above_216 at h
  refine lv_aload_n hx hb d_M_above_216 rfl (lv_at hl 0 rfl) ?_
  refine lv_iload hx hb d_M_above_217 (lv_at hl 4 rfl) ?_
  replace h := bd h
  obtain ⟨r1, g1, h⟩ := h
  refine rw_V (n := 1) (ci := 4) (As := [.int x6]) (rest := []) (Wn := fun _ => (wM cI cZ a q r1.2)) C0 hA (c_M_good l D cI cZ a q σ x6 g1) wd_388 ⟨wd_389, wd_390, wd_391, wd_352⟩ (by decide +kernel) ⟨Nat.le_of_ble_eq_true rfl, Nat.le_of_ble_eq_true rfl⟩ hP hD hS [0, 1, 2, 3, 4, 5, 6, 7, 8, 9, 10, 11, 12, 13, 14, 15, 16, 17, 18, 19, 20, 21, 22, 23] [] [0, 1, 2, 3, 4, 5, 6, 7, 8, 9, 10, 11, 12, 13, 14, 15, 16, 17, 18, 19, 20, 21, 22, 23] jn_M__C (by decide) jn_M__R (by decide) (by decide) (by decide) jn_M__W rfl rfl rfl hl rfl rfl (Nat.le_of_ble_eq_true rfl) ⟨Nat.zero_le _, Nat.zero_le _⟩ d_M_above_219 (fun H locs _ hP hD hS => ?_)
  try dsimp only at h
  refine lv_if_ne (tgt := 227) hx hb d_M_above_222 (by decide) (fun hc => ?_) (fun hc => ?_)
  · rw [if_neg hc] at h
    refine lv_aload_n hx hb d_M_above_227 rfl (lv_at hl 0 rfl) ?_
    refine va_get (ci := 4) (v := .ref (a 21)) (C := R_M) (T := F_M) (N := 35) hx hb hts i_M hown hK.1 hP 0 rfl rfl 4 (by decide) (hts _ wd_392) (fun _ h9 => h9) rfl d_M_above_228 ?_
    refine lv_iload_n hx hb d_M_above_231 rfl (lv_at hl 1 rfl) ?_
    replace h := gd h
    obtain ⟨hi, h⟩ := h
    refine va_zald hx hb hK.1 hP 1 1 rfl rfl hi d_M_above_232 ?_
    refine lv_if_eq (tgt := 246) hx hb d_M_above_233 (by decide) (fun hc => ?_) (fun hc => ?_)
    · rw [if_pos hc] at h
      refine lv_aload_n hx hb d_M_above_246 rfl (lv_at hl 0 rfl) ?_
      refine va_get (ci := 4) (v := .ref (a 24)) (C := R_M) (T := F_M) (N := 35) hx hb hts i_M hown hK.1 hP 0 rfl rfl 7 (by decide) (hts _ wd_338) (fun _ h9 => h9) rfl d_M_above_247 ?_
      refine lv_bipush (v := 30) hx hb d_M_above_250 (by decide) ?_
      refine lv_iload_n hx hb d_M_above_252 rfl (lv_at hl 3 rfl) ?_
      refine lv_imul hx hb d_M_above_253 ?_
      refine lv_iload_n hx hb d_M_above_254 rfl (lv_at hl 1 rfl) ?_
      replace h := gd h
      obtain ⟨hi, h⟩ := h
      refine rw_iast C0 hP hD hS 4 0 rfl rfl hi d_M_above_255 (Wn := (wM cI cZ a q (M_put_directTo r1.2 (30 * x3) x1))) ws_M_put_directTo (fun H locs hP hD hS => ?_)
      refine lv_aload_n hx hb d_M_above_256 rfl (lv_at hl 0 rfl) ?_
      refine va_get (ci := 4) (v := .ref (a 25)) (C := R_M) (T := F_M) (N := 35) hx hb hts i_M hown hK.1 hP 0 rfl rfl 8 (by decide) (hts _ wd_340) (fun _ h9 => h9) rfl d_M_above_257 ?_
      refine lv_bipush (v := 30) hx hb d_M_above_260 (by decide) ?_
      refine lv_iload_n hx hb d_M_above_262 rfl (lv_at hl 3 rfl) ?_
      refine lv_imul hx hb d_M_above_263 ?_
      refine lv_iload_n hx hb d_M_above_264 rfl (lv_at hl 2 rfl) ?_
      replace h := gd h
      obtain ⟨hi, h⟩ := h
      refine rw_iast C0 hP hD hS 5 0 rfl rfl hi d_M_above_265 (Wn := (wM cI cZ a q (M_put_directArg (M_put_directTo r1.2 (30 * x3) x1) (30 * x3) x2))) ws_M_put_directArg (fun H locs hP hD hS => ?_)
      exact t_M_above_266 (a := a) C0 hA  h hP hD hS (lv_sub hl [0, 3] rfl)
    · rw [if_neg hc] at h
      refine lv_aload_n hx hb d_M_above_236 rfl (lv_at hl 0 rfl) ?_
      refine lv_iload_n hx hb d_M_above_237 rfl (lv_at hl 3 rfl) ?_
      refine lv_iload_n hx hb d_M_above_238 rfl (lv_at hl 1 rfl) ?_
      refine lv_iload_n hx hb d_M_above_239 rfl (lv_at hl 2 rfl) ?_
      replace h := bd h
      obtain ⟨r3, g3, h⟩ := h
      refine rw_Vv (n := 3) (ci := 4) (As := [.int x3, .int x1, .int x2]) (rest := []) (Wn := fun _ => (wM cI cZ a q r3.2)) C0 hA (c_M_tie l D cI cZ a q r1.2 x3 x1 x2 g3) wd_395 ⟨wd_396, wd_397, wd_398, wd_352⟩ (by decide +kernel) ⟨Nat.le_of_ble_eq_true rfl, Nat.le_of_ble_eq_true rfl⟩ hP hD hS [0, 1, 2, 3, 4, 5, 6, 7, 8, 9, 10, 11, 12, 13, 14, 15, 16, 17, 18, 19, 20, 21, 22, 23] [] [0, 1, 2, 3, 4, 5, 6, 7, 8, 9, 10, 11, 12, 13, 14, 15, 16, 17, 18, 19, 20, 21, 22, 23] jn_M__C (by decide) jn_M__R (by decide) (by decide) (by decide) jn_M__W rfl rfl rfl hl rfl rfl (Nat.le_of_ble_eq_true rfl) ⟨Nat.zero_le _, Nat.zero_le _⟩ d_M_above_240 (fun H locs _ hP hD hS => ?_)
      try dsimp only at h
      refine lv_goto (tgt := 266) hx hb d_M_above_243 (by decide) ?_
      exact t_M_above_266 (a := a) C0 hA  h hP hD hS (lv_sub hl [0, 3] rfl)
  · rw [if_pos hc] at h
    refine lv_iconst (v := 0) hx hb d_M_above_225 (by decide) ?_
    exact rw_ret C0 hP hD hS (Option.some.inj h) d_M_above_226
set_option maxHeartbeats 4000000 in
set_option maxRecDepth 100000 in
theorem t_M_above_141 {p : Program} {l : Launch} {e : Env} {s : State} {m : MethodId} {args : Array Value} {below : List Frame} {meth : Method} {c : Code} {D : va_G} {cI cZ : ClassId} {a : Nat → Nat} {A : Nat → Prop} (C0 : Am p s m args meth c b_M_above (some .int) 7 R_M D [(cI, .int), (cZ, .boolean)]) (hA : ∀ q, s.heap.size ≤ q → A q) {res : Int32 × StM}   {q : Nat} {σ : StM} {x1 x2 x3 : Int32} (h : f_M_above_141 σ x1 x2 x3 = some res) {H : Heap} {locs : List Loc} (hP : va_P D vwCl (wM cI cZ a q σ) H) (hD : va_D A (wM cI cZ a q σ)) (hS : va_S A s.heap H locs) {ls : Array Slot} (hl : lv_has ls 7 [(0, .ref (a 20)), (1, .int x1), (2, .int x2), (3, .int x3)]) : W p l e (rmK 3 76 0 0) s m args below meth c H locs 0 0 (RwQ below args s D A (fun q (σ : StM) => (wM cI cZ a q σ)) res 0 0) (F0 m 141 ls []) := by
  obtain ⟨hx, hb, hr, hml, hown, hts, hlk, hK⟩ := id C0
  unfold f_M_above_141 at h
  refine lv_iconst (v := 2) hx hb d_M_above_141 (by decide) ?_
  refine lv_istore (lv' := [(6, .int 2), (0, .ref (a 20)), (1, .int x1), (2, .int x2), (3, .int x3)]) hx hb d_M_above_142 hl (by decide) rfl (fun ls hl => ?_)
  refine lv_goto (tgt := 216) hx hb d_M_above_144 (by decide) ?_
  exact t_M_above_216 (a := a) C0 hA  h hP hD hS (lv_sub hl [1, 2, 3, 4, 0] rfl)
set_option maxHeartbeats 4000000 in
set_option maxRecDepth 100000 in
theorem t_M_above_197 {p : Program} {l : Launch} {e : Env} {s : State} {m : MethodId} {args : Array Value} {below : List Frame} {meth : Method} {c : Code} {D : va_G} {cI cZ : ClassId} {a : Nat → Nat} {A : Nat → Prop} (C0 : Am p s m args meth c b_M_above (some .int) 7 R_M D [(cI, .int), (cZ, .boolean)]) (hA : ∀ q, s.heap.size ≤ q → A q) {res : Int32 × StM}   {q : Nat} {σ : StM} {x1 x2 x3 : Int32} (h : f_M_above_197 σ x1 x2 x3 = some res) {H : Heap} {locs : List Loc} (hP : va_P D vwCl (wM cI cZ a q σ) H) (hD : va_D A (wM cI cZ a q σ)) (hS : va_S A s.heap H locs) {ls : Array Slot} (hl : lv_has ls 7 [(0, .ref (a 20)), (1, .int x1), (2, .int x2), (3, .int x3)]) : W p l e (rmK 3 76 0 0) s m args below meth c H locs 0 0 (RwQ below args s D A (fun q (σ : StM) => (wM cI cZ a q σ)) res 0 0) (F0 m 197 ls []) := by
  obtain ⟨hx, hb, hr, hml, hown, hts, hlk, hK⟩ := id C0
  unfold f_M_above_197 at h
  refine lv_iconst (v := 3) hx hb d_M_above_197 (by decide) ?_
  refine lv_istore (lv' := [(6, .int 3), (0, .ref (a 20)), (1, .int x1), (2, .int x2), (3, .int x3)]) hx hb d_M_above_198 hl (by decide) rfl (fun ls hl => ?_)
  refine lv_goto (tgt := 216) hx hb d_M_above_200 (by decide) ?_
  exact t_M_above_216 (a := a) C0 hA  h hP hD hS (lv_sub hl [1, 2, 3, 4, 0] rfl)
set_option maxHeartbeats 4000000 in
set_option maxRecDepth 100000 in
theorem t_M_above_203 {p : Program} {l : Launch} {e : Env} {s : State} {m : MethodId} {args : Array Value} {below : List Frame} {meth : Method} {c : Code} {D : va_G} {cI cZ : ClassId} {a : Nat → Nat} {A : Nat → Prop} (C0 : Am p s m args meth c b_M_above (some .int) 7 R_M D [(cI, .int), (cZ, .boolean)]) (hA : ∀ q, s.heap.size ≤ q → A q) {res : Int32 × StM}   {q : Nat} {σ : StM} {x1 x2 x3 x6 : Int32} (h : f_M_above_203 σ x1 x2 x3 x6 = some res) {H : Heap} {locs : List Loc} (hP : va_P D vwCl (wM cI cZ a q σ) H) (hD : va_D A (wM cI cZ a q σ)) (hS : va_S A s.heap H locs) {ls : Array Slot} (hl : lv_has ls 7 [(0, .ref (a 20)), (1, .int x1), (2, .int x2), (3, .int x3), (6, .int x6)]) : W p l e (rmK 3 76 0 0) s m args below meth c H locs 0 0 (RwQ below args s D A (fun q (σ : StM) => (wM cI cZ a q σ)) res 0 0) (F0 m 203 ls []) := by
  obtain ⟨hx, hb, hr, hml, hown, hts, hlk, hK⟩ := id C0
  unfold f_M_above_203 at h
  refine lv_aload_n hx hb d_M_above_203 rfl (lv_at hl 0 rfl) ?_
  refine lv_iload_n hx hb d_M_above_204 rfl (lv_at hl 3 rfl) ?_
  refine lv_iload_n hx hb d_M_above_205 rfl (lv_at hl 1 rfl) ?_
  refine lv_iload_n hx hb d_M_above_206 rfl (lv_at hl 2 rfl) ?_
  replace h := bd h
  obtain ⟨r5, g5, h⟩ := h
  refine rw_V (n := 3) (ci := 4) (As := [.int x3, .int x1, .int x2]) (rest := []) (Wn := fun _ => (wM cI cZ a q r5.2)) C0 hA (c_M_partsWay l D cI cZ a q σ x3 x1 x2 g5) wd_411 ⟨wd_412, wd_413, wd_414, wd_352⟩ (by decide +kernel) ⟨Nat.le_of_ble_eq_true rfl, Nat.le_of_ble_eq_true rfl⟩ hP hD hS [0, 1, 2, 3, 4, 5, 6, 7, 8, 9, 10, 11, 12, 13, 14, 15, 16, 17, 18, 19, 20, 21, 22, 23] [] [0, 1, 2, 3, 4, 5, 6, 7, 8, 9, 10, 11, 12, 13, 14, 15, 16, 17, 18, 19, 20, 21, 22, 23] jn_M__C (by decide) jn_M__R (by decide) (by decide) (by decide) jn_M__W rfl rfl rfl hl rfl rfl (Nat.le_of_ble_eq_true rfl) ⟨Nat.zero_le _, Nat.zero_le _⟩ d_M_above_207 (fun H locs _ hP hD hS => ?_)
  try dsimp only at h
  refine lv_if_eq (tgt := 216) hx hb d_M_above_210 (by decide) (fun hc => ?_) (fun hc => ?_)
  · rw [if_pos hc] at h
    exact t_M_above_216 (a := a) C0 hA  h hP hD hS (lv_sub hl [0, 1, 2, 3, 4] rfl)
  · rw [if_neg hc] at h
    refine lv_iconst (v := 2) hx hb d_M_above_213 (by decide) ?_
    refine lv_istore (lv' := [(6, .int 2), (0, .ref (a 20)), (1, .int x1), (2, .int x2), (3, .int x3)]) hx hb d_M_above_214 hl (by decide) rfl (fun ls hl => ?_)
    exact t_M_above_216 (a := a) C0 hA  h hP hD hS (lv_sub hl [1, 2, 3, 4, 0] rfl)
set_option maxHeartbeats 4000000 in
set_option maxRecDepth 100000 in
theorem t_M_above_179 {p : Program} {l : Launch} {e : Env} {s : State} {m : MethodId} {args : Array Value} {below : List Frame} {meth : Method} {c : Code} {D : va_G} {cI cZ : ClassId} {a : Nat → Nat} {A : Nat → Prop} (C0 : Am p s m args meth c b_M_above (some .int) 7 R_M D [(cI, .int), (cZ, .boolean)]) (hA : ∀ q, s.heap.size ≤ q → A q) {res : Int32 × StM}   {q : Nat} {σ : StM} {x1 x2 x3 x6 t0 t1 : Int32} (h : f_M_above_179 σ x1 x2 x3 x6 t0 t1 = some res) {H : Heap} {locs : List Loc} (hP : va_P D vwCl (wM cI cZ a q σ) H) (hD : va_D A (wM cI cZ a q σ)) (hS : va_S A s.heap H locs) {ls : Array Slot} (hl : lv_has ls 7 [(0, .ref (a 20)), (1, .int x1), (2, .int x2), (3, .int x3), (6, .int x6)]) : W p l e (rmK 3 76 0 0) s m args below meth c H locs 0 0 (RwQ below args s D A (fun q (σ : StM) => (wM cI cZ a q σ)) res 0 0) (F0 m 179 ls [.int t1, .int t0]) := by
  obtain ⟨hx, hb, hr, hml, hown, hts, hlk, hK⟩ := id C0
  unfold f_M_above_179 at h
  refine lv_icmp_eq (tgt := 197) hx hb d_M_above_179 (by decide) (fun hc => ?_) (fun hc => ?_)
  · rw [if_pos hc] at h
    exact t_M_above_197 (a := a) C0 hA  h hP hD hS (lv_sub hl [0, 1, 2, 3] rfl)
  · rw [if_neg hc] at h
    refine lv_iload_n hx hb d_M_above_182 rfl (lv_at hl 2 rfl) ?_
    refine lv_bipush (v := (-2)) hx hb d_M_above_183 (by decide) ?_
    refine lv_icmp_ne (tgt := 203) hx hb d_M_above_185 (by decide) (fun hc => ?_) (fun hc => ?_)
    · rw [if_neg hc] at h
      exact t_M_above_203 (a := a) C0 hA  h hP hD hS (lv_sub hl [0, 1, 2, 3, 4] rfl)
    · rw [if_pos hc] at h
      refine lv_aload_n hx hb d_M_above_188 rfl (lv_at hl 0 rfl) ?_
      refine va_get (ci := 4) (v := .ref (a 22)) (C := R_M) (T := F_M) (N := 35) hx hb hts i_M hown hK.1 hP 0 rfl rfl 5 (by decide) (hts _ wd_393) (fun _ h9 => h9) rfl d_M_above_189 ?_
      refine lv_iload_n hx hb d_M_above_192 rfl (lv_at hl 3 rfl) ?_
      replace h := gd h
      obtain ⟨hi, h⟩ := h
      refine va_zald hx hb hK.1 hP 2 1 rfl rfl hi d_M_above_193 ?_
      refine lv_if_ne (tgt := 203) hx hb d_M_above_194 (by decide) (fun hc => ?_) (fun hc => ?_)
      · rw [if_neg hc] at h
        exact t_M_above_203 (a := a) C0 hA  h hP hD hS (lv_sub hl [0, 1, 2, 3, 4] rfl)
      · rw [if_pos hc] at h
        exact t_M_above_197 (a := a) C0 hA  h hP hD hS (lv_sub hl [0, 1, 2, 3] rfl)
set_option maxHeartbeats 4000000 in
set_option maxRecDepth 100000 in
theorem t_M_above_163 {p : Program} {l : Launch} {e : Env} {s : State} {m : MethodId} {args : Array Value} {below : List Frame} {meth : Method} {c : Code} {D : va_G} {cI cZ : ClassId} {a : Nat → Nat} {A : Nat → Prop} (C0 : Am p s m args meth c b_M_above (some .int) 7 R_M D [(cI, .int), (cZ, .boolean)]) (hA : ∀ q, s.heap.size ≤ q → A q) {res : Int32 × StM}   {q : Nat} {σ : StM} {x1 x2 x3 x6 : Int32} (h : f_M_above_163 σ x1 x2 x3 x6 = some res) {H : Heap} {locs : List Loc} (hP : va_P D vwCl (wM cI cZ a q σ) H) (hD : va_D A (wM cI cZ a q σ)) (hS : va_S A s.heap H locs) {ls : Array Slot} (hl : lv_has ls 7 [(0, .ref (a 20)), (1, .int x1), (2, .int x2), (3, .int x3), (6, .int x6)]) : W p l e (rmK 3 76 0 0) s m args below meth c H locs 0 0 (RwQ below args s D A (fun q (σ : StM) => (wM cI cZ a q σ)) res 0 0) (F0 m 163 ls []) := by
  obtain ⟨hx, hb, hr, hml, hown, hts, hlk, hK⟩ := id C0
  unfold f_M_above_163 at h
  refine lv_aload_n hx hb d_M_above_163 rfl (lv_at hl 0 rfl) ?_
  refine va_get (ci := 4) (v := .ref (a 22)) (C := R_M) (T := F_M) (N := 35) hx hb hts i_M hown hK.1 hP 0 rfl rfl 5 (by decide) (hts _ wd_393) (fun _ h9 => h9) rfl d_M_above_164 ?_
  refine lv_iload_n hx hb d_M_above_167 rfl (lv_at hl 1 rfl) ?_
  replace h := gd h
  obtain ⟨hi, h⟩ := h
  refine va_zald hx hb hK.1 hP 2 1 rfl rfl hi d_M_above_168 ?_
  refine lv_iload_n hx hb d_M_above_169 rfl (lv_at hl 2 rfl) ?_
  refine lv_iconst (v := (-1)) hx hb d_M_above_170 (by decide) ?_
  refine lv_icmp_ne (tgt := 178) hx hb d_M_above_171 (by decide) (fun hc => ?_) (fun hc => ?_)
  · rw [if_neg hc] at h
    refine lv_iconst (v := 0) hx hb d_M_above_178 (by decide) ?_
    exact t_M_above_179 (a := a) C0 hA  h hP hD hS (lv_sub hl [0, 1, 2, 3, 4] rfl)
  · rw [if_pos hc] at h
    refine lv_iconst (v := 1) hx hb d_M_above_174 (by decide) ?_
    refine lv_goto (tgt := 179) hx hb d_M_above_175 (by decide) ?_
    exact t_M_above_179 (a := a) C0 hA  h hP hD hS (lv_sub hl [0, 1, 2, 3, 4] rfl)
set_option maxHeartbeats 4000000 in
set_option maxRecDepth 100000 in
theorem t_M_above_132 {p : Program} {l : Launch} {e : Env} {s : State} {m : MethodId} {args : Array Value} {below : List Frame} {meth : Method} {c : Code} {D : va_G} {cI cZ : ClassId} {a : Nat → Nat} {A : Nat → Prop} (C0 : Am p s m args meth c b_M_above (some .int) 7 R_M D [(cI, .int), (cZ, .boolean)]) (hA : ∀ q, s.heap.size ≤ q → A q) {res : Int32 × StM}   {q : Nat} {σ : StM} {x1 x2 x3 x6 : Int32} (h : f_M_above_132 σ x1 x2 x3 x6 = some res) {H : Heap} {locs : List Loc} (hP : va_P D vwCl (wM cI cZ a q σ) H) (hD : va_D A (wM cI cZ a q σ)) (hS : va_S A s.heap H locs) {ls : Array Slot} (hl : lv_has ls 7 [(0, .ref (a 20)), (1, .int x1), (2, .int x2), (3, .int x3), (6, .int x6)]) : W p l e (rmK 3 76 0 0) s m args below meth c H locs 0 0 (RwQ below args s D A (fun q (σ : StM) => (wM cI cZ a q σ)) res 0 0) (F0 m 132 ls []) := by
  obtain ⟨hx, hb, hr, hml, hown, hts, hlk, hK⟩ := id C0
  unfold f_M_above_132 at h
  refine lv_aload_n hx hb d_M_above_132 rfl (lv_at hl 0 rfl) ?_
  refine lv_iload_n hx hb d_M_above_133 rfl (lv_at hl 3 rfl) ?_
  refine lv_iload_n hx hb d_M_above_134 rfl (lv_at hl 1 rfl) ?_
  replace h := bd h
  obtain ⟨r4, g4, h⟩ := h
  refine ro_V (n := 2) (ci := 4) (As := [.int x3, .int x1]) (rest := []) C0 (c_M_hasDirect l D cI cZ a q σ x3 x1 g4) wd_407 ⟨wd_408, wd_409, wd_410, wd_352⟩ (by decide +kernel) ⟨Nat.le_of_ble_eq_true rfl, Nat.le_of_ble_eq_true rfl⟩ hP rfl rfl rfl hl rfl rfl (Nat.le_of_ble_eq_true rfl) ⟨Nat.zero_le _, Nat.zero_le _⟩ d_M_above_135 ?_
  try dsimp only at h
  refine lv_if_eq (tgt := 147) hx hb d_M_above_138 (by decide) (fun hc => ?_) (fun hc => ?_)
  · rw [if_pos hc] at h
    refine lv_iload_n hx hb d_M_above_147 rfl (lv_at hl 2 rfl) ?_
    refine lv_bipush (v := (-2)) hx hb d_M_above_148 (by decide) ?_
    refine lv_icmp_lt (tgt := 197) hx hb d_M_above_150 (by decide) (fun hc => ?_) (fun hc => ?_)
    · rw [if_pos hc] at h
      exact t_M_above_197 (a := a) C0 hA  h hP hD hS (lv_sub hl [0, 1, 2, 3] rfl)
    · rw [if_neg hc] at h
      refine lv_iload_n hx hb d_M_above_153 rfl (lv_at hl 2 rfl) ?_
      refine lv_if_lt (tgt := 163) hx hb d_M_above_154 (by decide) (fun hc => ?_) (fun hc => ?_)
      · rw [if_pos hc] at h
        exact t_M_above_163 (a := a) C0 hA  h hP hD hS (lv_sub hl [0, 1, 2, 3, 4] rfl)
      · rw [if_neg hc] at h
        refine lv_iload_n hx hb d_M_above_157 rfl (lv_at hl 2 rfl) ?_
        refine lv_bipush (v := 8) hx hb d_M_above_158 (by decide) ?_
        refine lv_icmp_lt (tgt := 197) hx hb d_M_above_160 (by decide) (fun hc => ?_) (fun hc => ?_)
        · rw [if_pos hc] at h
          exact t_M_above_197 (a := a) C0 hA  h hP hD hS (lv_sub hl [0, 1, 2, 3] rfl)
        · rw [if_neg hc] at h
          exact t_M_above_163 (a := a) C0 hA  h hP hD hS (lv_sub hl [0, 1, 2, 3, 4] rfl)
  · rw [if_neg hc] at h
    exact t_M_above_141 (a := a) C0 hA  h hP hD hS (lv_sub hl [0, 1, 2, 3] rfl)
set_option maxHeartbeats 4000000 in
set_option maxRecDepth 100000 in
theorem t_M_above_118 {p : Program} {l : Launch} {e : Env} {s : State} {m : MethodId} {args : Array Value} {below : List Frame} {meth : Method} {c : Code} {D : va_G} {cI cZ : ClassId} {a : Nat → Nat} {A : Nat → Prop} (C0 : Am p s m args meth c b_M_above (some .int) 7 R_M D [(cI, .int), (cZ, .boolean)]) (hA : ∀ q, s.heap.size ≤ q → A q) {res : Int32 × StM}   {q : Nat} {σ : StM} {x1 x2 x3 x5 x6 : Int32} (h : f_M_above_118 σ x1 x2 x3 x5 x6 = some res) {H : Heap} {locs : List Loc} (hP : va_P D vwCl (wM cI cZ a q σ) H) (hD : va_D A (wM cI cZ a q σ)) (hS : va_S A s.heap H locs) {ls : Array Slot} (hl : lv_has ls 7 [(0, .ref (a 20)), (1, .int x1), (2, .int x2), (3, .int x3), (5, .int x5), (6, .int x6)]) : W p l e (rmK 3 76 0 0) s m args below meth c H locs 0 0 (RwQ below args s D A (fun q (σ : StM) => (wM cI cZ a q σ)) res 0 0) (F0 m 118 ls []) := by
  obtain ⟨hx, hb, hr, hml, hown, hts, hlk, hK⟩ := id C0
  unfold f_M_above_118 at h
  refine lv_iload hx hb d_M_above_118 (lv_at hl 4 rfl) ?_
  refine lv_if_eq (tgt := 132) hx hb d_M_above_120 (by decide) (fun hc => ?_) (fun hc => ?_)
  · rw [if_pos hc] at h
    exact t_M_above_132 (a := a) C0 hA  h hP hD hS (lv_sub hl [0, 1, 2, 3, 5] rfl)
  · rw [if_neg hc] at h
    refine lv_aload_n hx hb d_M_above_123 rfl (lv_at hl 0 rfl) ?_
    refine va_get (ci := 4) (v := .ref (a 21)) (C := R_M) (T := F_M) (N := 35) hx hb hts i_M hown hK.1 hP 0 rfl rfl 4 (by decide) (hts _ wd_392) (fun _ h9 => h9) rfl d_M_above_124 ?_
    refine lv_iload_n hx hb d_M_above_127 rfl (lv_at hl 1 rfl) ?_
    replace h := gd h
    obtain ⟨hi, h⟩ := h
    refine va_zald hx hb hK.1 hP 1 1 rfl rfl hi d_M_above_128 ?_
    refine lv_if_eq (tgt := 141) hx hb d_M_above_129 (by decide) (fun hc => ?_) (fun hc => ?_)
    · rw [if_pos hc] at h
      exact t_M_above_141 (a := a) C0 hA  h hP hD hS (lv_sub hl [0, 1, 2, 3] rfl)
    · rw [if_neg hc] at h
      exact t_M_above_132 (a := a) C0 hA  h hP hD hS (lv_sub hl [0, 1, 2, 3, 5] rfl)
set_option maxHeartbeats 4000000 in
set_option maxRecDepth 100000 in
theorem t_M_above_73 {p : Program} {l : Launch} {e : Env} {s : State} {m : MethodId} {args : Array Value} {below : List Frame} {meth : Method} {c : Code} {D : va_G} {cI cZ : ClassId} {a : Nat → Nat} {A : Nat → Prop} (C0 : Am p s m args meth c b_M_above (some .int) 7 R_M D [(cI, .int), (cZ, .boolean)]) (hA : ∀ q, s.heap.size ≤ q → A q) {res : Int32 × StM}   {q : Nat} {σ : StM} {x1 x2 x3 x4 t0 : Int32} (h : f_M_above_73 σ x1 x2 x3 x4 t0 = some res) {H : Heap} {locs : List Loc} (hP : va_P D vwCl (wM cI cZ a q σ) H) (hD : va_D A (wM cI cZ a q σ)) (hS : va_S A s.heap H locs) {ls : Array Slot} (hl : lv_has ls 7 [(0, .ref (a 20)), (1, .int x1), (2, .int x2), (3, .int x3), (4, .int x4)]) : W p l e (rmK 3 76 0 0) s m args below meth c H locs 0 0 (RwQ below args s D A (fun q (σ : StM) => (wM cI cZ a q σ)) res 0 0) (F0 m 73 ls [.int t0]) := by
  obtain ⟨hx, hb, hr, hml, hown, hts, hlk, hK⟩ := id C0
  unfold f_M_above_73 at h
  refine lv_istore (lv' := [(5, .int t0), (0, .ref (a 20)), (1, .int x1), (2, .int x2), (3, .int x3), (4, .int x4)]) hx hb d_M_above_73 hl (by decide) rfl (fun ls hl => ?_)
  refine lv_iconst (v := 0) hx hb d_M_above_75 (by decide) ?_
  refine lv_istore (lv' := [(6, .int 0), (5, .int t0), (0, .ref (a 20)), (1, .int x1), (2, .int x2), (3, .int x3), (4, .int x4)]) hx hb d_M_above_76 hl (by decide) rfl (fun ls hl => ?_)
  refine lv_iload hx hb d_M_above_78 (lv_at hl 6 rfl) ?_
  refine lv_if_ne (tgt := 89) hx hb d_M_above_80 (by decide) (fun hc => ?_) (fun hc => ?_)
  · rw [if_neg hc] at h
    refine lv_iload_n hx hb d_M_above_89 rfl (lv_at hl 5 rfl) ?_
    refine lv_bipush (v := 13) hx hb d_M_above_90 (by decide) ?_
    refine lv_icmp_lt (tgt := 141) hx hb d_M_above_92 (by decide) (fun hc => ?_) (fun hc => ?_)
    · rw [if_pos hc] at h
      exact t_M_above_141 (a := a) C0 hA  h hP hD hS (lv_sub hl [2, 3, 4, 5] rfl)
    · rw [if_neg hc] at h
      refine lv_iload_n hx hb d_M_above_95 rfl (lv_at hl 3 rfl) ?_
      refine lv_iload_n hx hb d_M_above_96 rfl (lv_at hl 5 rfl) ?_
      refine lv_icmp_eq (tgt := 141) hx hb d_M_above_97 (by decide) (fun hc => ?_) (fun hc => ?_)
      · rw [if_pos hc] at h
        exact t_M_above_141 (a := a) C0 hA  h hP hD hS (lv_sub hl [2, 3, 4, 5] rfl)
      · rw [if_neg hc] at h
        refine lv_aload_n hx hb d_M_above_100 rfl (lv_at hl 2 rfl) ?_
        refine va_get (ci := 4) (v := .ref (a 21)) (C := R_M) (T := F_M) (N := 35) hx hb hts i_M hown hK.1 hP 0 rfl rfl 4 (by decide) (hts _ wd_392) (fun _ h9 => h9) rfl d_M_above_101 ?_
        refine lv_iload_n hx hb d_M_above_104 rfl (lv_at hl 5 rfl) ?_
        replace h := gd h
        obtain ⟨hi, h⟩ := h
        refine va_zald hx hb hK.1 hP 1 1 rfl rfl hi d_M_above_105 ?_
        refine lv_if_eq (tgt := 118) hx hb d_M_above_106 (by decide) (fun hc => ?_) (fun hc => ?_)
        · rw [if_pos hc] at h
          exact t_M_above_118 (a := a) C0 hA  h hP hD hS (lv_sub hl [2, 3, 4, 5, 1, 0] rfl)
        · rw [if_neg hc] at h
          refine lv_aload_n hx hb d_M_above_109 rfl (lv_at hl 2 rfl) ?_
          refine va_get (ci := 4) (v := .ref (a 21)) (C := R_M) (T := F_M) (N := 35) hx hb hts i_M hown hK.1 hP 0 rfl rfl 4 (by decide) (hts _ wd_392) (fun _ h9 => h9) rfl d_M_above_110 ?_
          refine lv_iload_n hx hb d_M_above_113 rfl (lv_at hl 3 rfl) ?_
          replace h := gd h
          obtain ⟨hi, h⟩ := h
          refine va_zald hx hb hK.1 hP 1 1 rfl rfl hi d_M_above_114 ?_
          refine lv_if_eq (tgt := 141) hx hb d_M_above_115 (by decide) (fun hc => ?_) (fun hc => ?_)
          · rw [if_pos hc] at h
            exact t_M_above_141 (a := a) C0 hA  h hP hD hS (lv_sub hl [2, 3, 4, 5] rfl)
          · rw [if_neg hc] at h
            exact t_M_above_118 (a := a) C0 hA  h hP hD hS (lv_sub hl [2, 3, 4, 5, 1, 0] rfl)
  · rw [if_pos hc] at h
    refine lv_iconst (v := 1) hx hb d_M_above_83 (by decide) ?_
    refine lv_istore (lv' := [(6, .int 1), (5, .int t0), (0, .ref (a 20)), (1, .int x1), (2, .int x2), (3, .int x3), (4, .int x4)]) hx hb d_M_above_84 hl (by decide) rfl (fun ls hl => ?_)
    refine lv_goto (tgt := 216) hx hb d_M_above_86 (by decide) ?_
    exact t_M_above_216 (a := a) C0 hA  h hP hD hS (lv_sub hl [2, 3, 4, 5, 0] rfl)
set_option maxHeartbeats 4000000 in
set_option maxRecDepth 100000 in
theorem t_M_above_72 {p : Program} {l : Launch} {e : Env} {s : State} {m : MethodId} {args : Array Value} {below : List Frame} {meth : Method} {c : Code} {D : va_G} {cI cZ : ClassId} {a : Nat → Nat} {A : Nat → Prop} (C0 : Am p s m args meth c b_M_above (some .int) 7 R_M D [(cI, .int), (cZ, .boolean)]) (hA : ∀ q, s.heap.size ≤ q → A q) {res : Int32 × StM}   {q : Nat} {σ : StM} {x1 x2 x3 x4 : Int32} (h : f_M_above_72 σ x1 x2 x3 x4 = some res) {H : Heap} {locs : List Loc} (hP : va_P D vwCl (wM cI cZ a q σ) H) (hD : va_D A (wM cI cZ a q σ)) (hS : va_S A s.heap H locs) {ls : Array Slot} (hl : lv_has ls 7 [(0, .ref (a 20)), (1, .int x1), (2, .int x2), (3, .int x3), (4, .int x4)]) : W p l e (rmK 3 76 0 0) s m args below meth c H locs 0 0 (RwQ below args s D A (fun q (σ : StM) => (wM cI cZ a q σ)) res 0 0) (F0 m 72 ls []) := by
  obtain ⟨hx, hb, hr, hml, hown, hts, hlk, hK⟩ := id C0
  unfold f_M_above_72 at h
  refine lv_iconst (v := 0) hx hb d_M_above_72 (by decide) ?_
  exact t_M_above_73 (a := a) C0 hA  h hP hD hS (lv_sub hl [0, 1, 2, 3, 4] rfl)
set_option maxHeartbeats 4000000 in
set_option maxRecDepth 100000 in
theorem t_M_above_28 {p : Program} {l : Launch} {e : Env} {s : State} {m : MethodId} {args : Array Value} {below : List Frame} {meth : Method} {c : Code} {D : va_G} {cI cZ : ClassId} {a : Nat → Nat} {A : Nat → Prop} (C0 : Am p s m args meth c b_M_above (some .int) 7 R_M D [(cI, .int), (cZ, .boolean)]) (hA : ∀ q, s.heap.size ≤ q → A q) {res : Int32 × StM}   {q : Nat} {σ : StM} {x1 x2 x3 t0 : Int32} (h : f_M_above_28 σ x1 x2 x3 t0 = some res) {H : Heap} {locs : List Loc} (hP : va_P D vwCl (wM cI cZ a q σ) H) (hD : va_D A (wM cI cZ a q σ)) (hS : va_S A s.heap H locs) {ls : Array Slot} (hl : lv_has ls 7 [(0, .ref (a 20)), (1, .int x1), (2, .int x2), (3, .int x3)]) : W p l e (rmK 3 76 0 0) s m args below meth c H locs 0 0 (RwQ below args s D A (fun q (σ : StM) => (wM cI cZ a q σ)) res 0 0) (F0 m 28 ls [.int t0]) := by
  obtain ⟨hx, hb, hr, hml, hown, hts, hlk, hK⟩ := id C0
  unfold f_M_above_28 at h
  refine lv_istore (lv' := [(4, .int t0), (0, .ref (a 20)), (1, .int x1), (2, .int x2), (3, .int x3)]) hx hb d_M_above_28 hl (by decide) rfl (fun ls hl => ?_)
  refine lv_aload_n hx hb d_M_above_30 rfl (lv_at hl 1 rfl) ?_
  refine va_get (ci := 4) (v := .ref (a 23)) (C := R_M) (T := F_M) (N := 35) hx hb hts i_M hown hK.1 hP 0 rfl rfl 6 (by decide) (hts _ wd_339) (fun _ h9 => h9) rfl d_M_above_31 ?_
  refine lv_iload_n hx hb d_M_above_34 rfl (lv_at hl 4 rfl) ?_
  replace h := gd h
  obtain ⟨hi, h⟩ := h
  refine va_iald hx hb hK.1 hP 3 0 rfl rfl hi d_M_above_35 ?_
  refine lv_if_le (tgt := 72) hx hb d_M_above_36 (by decide) (fun hc => ?_) (fun hc => ?_)
  · rw [if_pos hc] at h
    exact t_M_above_72 (a := a) C0 hA  h hP hD hS (lv_sub hl [1, 2, 3, 4, 0] rfl)
  · rw [if_neg hc] at h
    refine lv_aload_n hx hb d_M_above_39 rfl (lv_at hl 1 rfl) ?_
    refine va_get (ci := 4) (v := .ref (a 24)) (C := R_M) (T := F_M) (N := 35) hx hb hts i_M hown hK.1 hP 0 rfl rfl 7 (by decide) (hts _ wd_338) (fun _ h9 => h9) rfl d_M_above_40 ?_
    refine lv_bipush (v := 30) hx hb d_M_above_43 (by decide) ?_
    refine lv_iload_n hx hb d_M_above_45 rfl (lv_at hl 4 rfl) ?_
    refine lv_imul hx hb d_M_above_46 ?_
    replace h := gd h
    obtain ⟨hi, h⟩ := h
    refine va_iald hx hb hK.1 hP 4 0 rfl rfl hi d_M_above_47 ?_
    refine lv_if_eq (tgt := 72) hx hb d_M_above_48 (by decide) (fun hc => ?_) (fun hc => ?_)
    · rw [if_pos hc] at h
      exact t_M_above_72 (a := a) C0 hA  h hP hD hS (lv_sub hl [1, 2, 3, 4, 0] rfl)
    · rw [if_neg hc] at h
      refine lv_aload_n hx hb d_M_above_51 rfl (lv_at hl 1 rfl) ?_
      refine va_get (ci := 4) (v := .ref (a 21)) (C := R_M) (T := F_M) (N := 35) hx hb hts i_M hown hK.1 hP 0 rfl rfl 4 (by decide) (hts _ wd_392) (fun _ h9 => h9) rfl d_M_above_52 ?_
      refine lv_aload_n hx hb d_M_above_55 rfl (lv_at hl 1 rfl) ?_
      refine va_get (ci := 4) (v := .ref (a 24)) (C := R_M) (T := F_M) (N := 35) hx hb hts i_M hown hK.1 hP 0 rfl rfl 7 (by decide) (hts _ wd_338) (fun _ h9 => h9) rfl d_M_above_56 ?_
      refine lv_bipush (v := 30) hx hb d_M_above_59 (by decide) ?_
      refine lv_iload_n hx hb d_M_above_61 rfl (lv_at hl 4 rfl) ?_
      refine lv_imul hx hb d_M_above_62 ?_
      replace h := gd h
      obtain ⟨hi, h⟩ := h
      refine va_iald hx hb hK.1 hP 4 0 rfl rfl hi d_M_above_63 ?_
      replace h := gd h
      obtain ⟨hi, h⟩ := h
      refine va_zald hx hb hK.1 hP 1 1 rfl rfl hi d_M_above_64 ?_
      refine lv_if_ne (tgt := 72) hx hb d_M_above_65 (by decide) (fun hc => ?_) (fun hc => ?_)
      · rw [if_neg hc] at h
        exact t_M_above_72 (a := a) C0 hA  h hP hD hS (lv_sub hl [1, 2, 3, 4, 0] rfl)
      · rw [if_pos hc] at h
        refine lv_iconst (v := 1) hx hb d_M_above_68 (by decide) ?_
        refine lv_goto (tgt := 73) hx hb d_M_above_69 (by decide) ?_
        exact t_M_above_73 (a := a) C0 hA  h hP hD hS (lv_sub hl [1, 2, 3, 4, 0] rfl)
set_option maxHeartbeats 4000000 in
set_option maxRecDepth 100000 in
theorem t_M_above_27 {p : Program} {l : Launch} {e : Env} {s : State} {m : MethodId} {args : Array Value} {below : List Frame} {meth : Method} {c : Code} {D : va_G} {cI cZ : ClassId} {a : Nat → Nat} {A : Nat → Prop} (C0 : Am p s m args meth c b_M_above (some .int) 7 R_M D [(cI, .int), (cZ, .boolean)]) (hA : ∀ q, s.heap.size ≤ q → A q) {res : Int32 × StM}   {q : Nat} {σ : StM} {x1 x2 x3 : Int32} (h : f_M_above_27 σ x1 x2 x3 = some res) {H : Heap} {locs : List Loc} (hP : va_P D vwCl (wM cI cZ a q σ) H) (hD : va_D A (wM cI cZ a q σ)) (hS : va_S A s.heap H locs) {ls : Array Slot} (hl : lv_has ls 7 [(0, .ref (a 20)), (1, .int x1), (2, .int x2), (3, .int x3)]) : W p l e (rmK 3 76 0 0) s m args below meth c H locs 0 0 (RwQ below args s D A (fun q (σ : StM) => (wM cI cZ a q σ)) res 0 0) (F0 m 27 ls []) := by
  obtain ⟨hx, hb, hr, hml, hown, hts, hlk, hK⟩ := id C0
  unfold f_M_above_27 at h
  refine lv_iconst (v := 0) hx hb d_M_above_27 (by decide) ?_
  exact t_M_above_28 (a := a) C0 hA  h hP hD hS (lv_sub hl [0, 1, 2, 3] rfl)
set_option maxHeartbeats 4000000 in
set_option maxRecDepth 100000 in
theorem t_M_above_0 {p : Program} {l : Launch} {e : Env} {s : State} {m : MethodId} {args : Array Value} {below : List Frame} {meth : Method} {c : Code} {D : va_G} {cI cZ : ClassId} {a : Nat → Nat} {A : Nat → Prop} (C0 : Am p s m args meth c b_M_above (some .int) 7 R_M D [(cI, .int), (cZ, .boolean)]) (hA : ∀ q, s.heap.size ≤ q → A q) {res : Int32 × StM}   {q : Nat} {σ : StM} {x1 x2 : Int32} (h : f_M_above σ x1 x2 = some res) {H : Heap} {locs : List Loc} (hP : va_P D vwCl (wM cI cZ a q σ) H) (hD : va_D A (wM cI cZ a q σ)) (hS : va_S A s.heap H locs) {ls : Array Slot} (hl : lv_has ls 7 [(0, .ref (a 20)), (1, .int x1), (2, .int x2)]) : W p l e (rmK 3 76 0 0) s m args below meth c H locs 0 0 (RwQ below args s D A (fun q (σ : StM) => (wM cI cZ a q σ)) res 0 0) (F0 m 0 ls []) := by
  obtain ⟨hx, hb, hr, hml, hown, hts, hlk, hK⟩ := id C0
  unfold f_M_above at h
  refine lv_aload_n hx hb d_M_above_0 rfl (lv_at hl 0 rfl) ?_
  refine va_get (ci := 4) (v := .int (M_classes σ)) (C := R_M) (T := F_M) (N := 35) hx hb hts i_M hown hK.1 hP 0 rfl rfl 2 (by decide) (hts _ wd_343) (fun _ h9 => h9) rfl d_M_above_1 ?_
  refine lv_iconst (v := 1) hx hb d_M_above_4 (by decide) ?_
  refine lv_isub hx hb d_M_above_5 ?_
  refine lv_istore_n (lv' := [(3, .int ((M_classes σ) - 1)), (0, .ref (a 20)), (1, .int x1), (2, .int x2)]) hx hb d_M_above_6 rfl hl (by decide) rfl (fun ls hl => ?_)
  refine lv_aload_n hx hb d_M_above_7 rfl (lv_at hl 1 rfl) ?_
  refine lv_iload_n hx hb d_M_above_8 rfl (lv_at hl 2 rfl) ?_
  refine ro_V (n := 1) (ci := 4) (As := [.int x1]) (rest := []) C0 (c_M_isClass l D cI cZ a q σ x1 rfl) wd_403 ⟨wd_404, wd_405, wd_406, wd_352⟩ (by decide +kernel) ⟨Nat.le_of_ble_eq_true rfl, Nat.le_of_ble_eq_true rfl⟩ hP rfl rfl rfl hl rfl rfl (Nat.le_of_ble_eq_true rfl) ⟨Nat.zero_le _, Nat.zero_le _⟩ d_M_above_9 ?_
  refine lv_if_eq (tgt := 27) hx hb d_M_above_12 (by decide) (fun hc => ?_) (fun hc => ?_)
  · rw [if_pos hc] at h
    exact t_M_above_27 (a := a) C0 hA  h hP hD hS (lv_sub hl [1, 2, 3, 0] rfl)
  · rw [if_neg hc] at h
    refine lv_iload_n hx hb d_M_above_15 rfl (lv_at hl 3 rfl) ?_
    refine lv_aload_n hx hb d_M_above_16 rfl (lv_at hl 1 rfl) ?_
    refine va_get (ci := 4) (v := .int (M_types σ)) (C := R_M) (T := F_M) (N := 35) hx hb hts i_M hown hK.1 hP 0 rfl rfl 10 (by decide) (hts _ wd_344) (fun _ h9 => h9) rfl d_M_above_17 ?_
    refine lv_icmp_ge (tgt := 27) hx hb d_M_above_20 (by decide) (fun hc => ?_) (fun hc => ?_)
    · rw [if_pos hc] at h
      exact t_M_above_27 (a := a) C0 hA  h hP hD hS (lv_sub hl [1, 2, 3, 0] rfl)
    · rw [if_neg hc] at h
      refine lv_iconst (v := 1) hx hb d_M_above_23 (by decide) ?_
      refine lv_goto (tgt := 28) hx hb d_M_above_24 (by decide) ?_
      exact t_M_above_28 (a := a) C0 hA  h hP hD hS (lv_sub hl [1, 2, 3, 0] rfl)
set_option maxHeartbeats 4000000 in
set_option maxRecDepth 100000 in
theorem c_M_above (l : Launch) (D : va_G) (cI cZ : ClassId) (a : Nat → Nat) (q : Nat) (σ : StM) (x1 : Int32) (x2 : Int32) {res : Int32 × StM} (h : f_M_above σ x1 x2 = some res) : RwM l y_M_above b_M_above 7 (some .int) 3 76 D [(cI, .int), (cZ, .boolean)] [.ref (a 20), .int x1, .int x2] (fun q (σ : StM) => (wM cI cZ a q σ)) q σ res :=
  rw_of (by decide) (Nat.le_of_ble_eq_true rfl) (fun p e s m args below meth c ls A C0 hA hP hD hS hl => t_M_above_0 (a := a) C0 hA h hP hD hS (lv_sub hl [0, 1, 2] rfl))
-- part 07.6M.21M_isUnder.lean.txt
def f_M_isUnder_22 (σ : StM) (x1 x2 t1 : Int32) : Option (Int32 × StM) :=
  (f_M_good σ t1).bind fun r1 =>
  if r1.1 = 0 then
    some (0, r1.2)
  else
    (f_M_under r1.2 x1 x2).bind fun r2 =>
    if r2 = 0 then
      some (0, r1.2)
    else
      some (1, r1.2)
def f_M_isUnder_21 (σ : StM) (x1 x2 : Int32) : Option (Int32 × StM) :=
  f_M_isUnder_22 σ x1 x2 1
def f_M_isUnder (σ : StM) (x1 x2 : Int32) : Option (Int32 × StM) :=
  if (f_M_isClass σ x1) = 0 then
    f_M_isUnder_21 σ x1 x2
  else
    if (f_M_isClass σ x2) = 0 then
      f_M_isUnder_21 σ x1 x2
    else
      f_M_isUnder_22 σ x1 x2 0
set_option maxHeartbeats 4000000 in
set_option maxRecDepth 100000 in
theorem t_M_isUnder_22 {p : Program} {l : Launch} {e : Env} {s : State} {m : MethodId} {args : Array Value} {below : List Frame} {meth : Method} {c : Code} {D : va_G} {cI cZ : ClassId} {a : Nat → Nat} {A : Nat → Prop} (C0 : Am p s m args meth c b_M_isUnder (some .boolean) 3 R_M D [(cI, .int), (cZ, .boolean)]) (hA : ∀ q, s.heap.size ≤ q → A q) {res : Int32 × StM}   {q : Nat} {σ : StM} {x1 x2 t1 : Int32} (h : f_M_isUnder_22 σ x1 x2 t1 = some res) {H : Heap} {locs : List Loc} (hP : va_P D vwCl (wM cI cZ a q σ) H) (hD : va_D A (wM cI cZ a q σ)) (hS : va_S A s.heap H locs) {ls : Array Slot} (hl : lv_has ls 3 [(0, .ref (a 20)), (1, .int x1), (2, .int x2)]) : W p l e (rmK 1 22 0 0) s m args below meth c H locs 0 0 (RwQ below args s D A (fun q (σ : StM) => (wM cI cZ a q σ)) res 0 0) (F0 m 22 ls [.int t1, .ref (a 20)]) := by
  obtain ⟨hx, hb, hr, hml, hown, hts, hlk, hK⟩ := id C0
  unfold f_M_isUnder_22 at h
  replace h := bd h
  obtain ⟨r1, g1, h⟩ := h
  refine rw_V (n := 1) (ci := 4) (As := [.int t1]) (rest := []) (Wn := fun _ => (wM cI cZ a q r1.2)) C0 hA (c_M_good l D cI cZ a q σ t1 g1) wd_388 ⟨wd_389, wd_390, wd_391, wd_352⟩ (by decide +kernel) ⟨Nat.le_of_ble_eq_true rfl, Nat.le_of_ble_eq_true rfl⟩ hP hD hS [0, 1, 2, 3, 4, 5, 6, 7, 8, 9, 10, 11, 12, 13, 14, 15, 16, 17, 18, 19, 20, 21, 22, 23] [] [0, 1, 2, 3, 4, 5, 6, 7, 8, 9, 10, 11, 12, 13, 14, 15, 16, 17, 18, 19, 20, 21, 22, 23] jn_M__C (by decide) jn_M__R (by decide) (by decide) (by decide) jn_M__W rfl rfl rfl hl rfl rfl (Nat.le_of_ble_eq_true rfl) ⟨Nat.zero_le _, Nat.zero_le _⟩ d_M_isUnder_22 (fun H locs _ hP hD hS => ?_)
  try dsimp only at h
  refine lv_if_eq (tgt := 41) hx hb d_M_isUnder_25 (by decide) (fun hc => ?_) (fun hc => ?_)
  · rw [if_pos hc] at h
    refine lv_iconst (v := 0) hx hb d_M_isUnder_41 (by decide) ?_
    exact rw_retz C0 hP hD hS (by decide) (Option.some.inj h) d_M_isUnder_42
  · rw [if_neg hc] at h
    refine lv_aload_n hx hb d_M_isUnder_28 rfl (lv_at hl 0 rfl) ?_
    refine lv_iload_n hx hb d_M_isUnder_29 rfl (lv_at hl 1 rfl) ?_
    refine lv_iload_n hx hb d_M_isUnder_30 rfl (lv_at hl 2 rfl) ?_
    replace h := bd h
    obtain ⟨r2, g2, h⟩ := h
    refine ro_V (n := 2) (ci := 4) (As := [.int x1, .int x2]) (rest := []) C0 (c_M_under l D cI cZ a q r1.2 x1 x2 g2) wd_348 ⟨wd_349, wd_350, wd_351, wd_352⟩ (by decide +kernel) ⟨Nat.le_of_ble_eq_true rfl, Nat.le_of_ble_eq_true rfl⟩ hP rfl rfl rfl hl rfl rfl (Nat.le_of_ble_eq_true rfl) ⟨Nat.zero_le _, Nat.zero_le _⟩ d_M_isUnder_31 ?_
    try dsimp only at h
    refine lv_if_eq (tgt := 41) hx hb d_M_isUnder_34 (by decide) (fun hc => ?_) (fun hc => ?_)
    · rw [if_pos hc] at h
      refine lv_iconst (v := 0) hx hb d_M_isUnder_41 (by decide) ?_
      exact rw_retz C0 hP hD hS (by decide) (Option.some.inj h) d_M_isUnder_42
    · rw [if_neg hc] at h
      refine lv_iconst (v := 1) hx hb d_M_isUnder_37 (by decide) ?_
      refine lv_goto (tgt := 42) hx hb d_M_isUnder_38 (by decide) ?_
      exact rw_retz C0 hP hD hS (by decide) (Option.some.inj h) d_M_isUnder_42
set_option maxHeartbeats 4000000 in
set_option maxRecDepth 100000 in
theorem t_M_isUnder_21 {p : Program} {l : Launch} {e : Env} {s : State} {m : MethodId} {args : Array Value} {below : List Frame} {meth : Method} {c : Code} {D : va_G} {cI cZ : ClassId} {a : Nat → Nat} {A : Nat → Prop} (C0 : Am p s m args meth c b_M_isUnder (some .boolean) 3 R_M D [(cI, .int), (cZ, .boolean)]) (hA : ∀ q, s.heap.size ≤ q → A q) {res : Int32 × StM}   {q : Nat} {σ : StM} {x1 x2 : Int32} (h : f_M_isUnder_21 σ x1 x2 = some res) {H : Heap} {locs : List Loc} (hP : va_P D vwCl (wM cI cZ a q σ) H) (hD : va_D A (wM cI cZ a q σ)) (hS : va_S A s.heap H locs) {ls : Array Slot} (hl : lv_has ls 3 [(0, .ref (a 20)), (1, .int x1), (2, .int x2)]) : W p l e (rmK 1 22 0 0) s m args below meth c H locs 0 0 (RwQ below args s D A (fun q (σ : StM) => (wM cI cZ a q σ)) res 0 0) (F0 m 21 ls [.ref (a 20)]) := by
  obtain ⟨hx, hb, hr, hml, hown, hts, hlk, hK⟩ := id C0
  unfold f_M_isUnder_21 at h
  refine lv_iconst (v := 1) hx hb d_M_isUnder_21 (by decide) ?_
  exact t_M_isUnder_22 (a := a) C0 hA  h hP hD hS (lv_sub hl [0, 1, 2] rfl)
set_option maxHeartbeats 4000000 in
set_option maxRecDepth 100000 in
theorem t_M_isUnder_0 {p : Program} {l : Launch} {e : Env} {s : State} {m : MethodId} {args : Array Value} {below : List Frame} {meth : Method} {c : Code} {D : va_G} {cI cZ : ClassId} {a : Nat → Nat} {A : Nat → Prop} (C0 : Am p s m args meth c b_M_isUnder (some .boolean) 3 R_M D [(cI, .int), (cZ, .boolean)]) (hA : ∀ q, s.heap.size ≤ q → A q) {res : Int32 × StM}   {q : Nat} {σ : StM} {x1 x2 : Int32} (h : f_M_isUnder σ x1 x2 = some res) {H : Heap} {locs : List Loc} (hP : va_P D vwCl (wM cI cZ a q σ) H) (hD : va_D A (wM cI cZ a q σ)) (hS : va_S A s.heap H locs) {ls : Array Slot} (hl : lv_has ls 3 [(0, .ref (a 20)), (1, .int x1), (2, .int x2)]) : W p l e (rmK 1 22 0 0) s m args below meth c H locs 0 0 (RwQ below args s D A (fun q (σ : StM) => (wM cI cZ a q σ)) res 0 0) (F0 m 0 ls []) := by
  obtain ⟨hx, hb, hr, hml, hown, hts, hlk, hK⟩ := id C0
  unfold f_M_isUnder at h
  refine lv_aload_n hx hb d_M_isUnder_0 rfl (lv_at hl 0 rfl) ?_
  refine lv_aload_n hx hb d_M_isUnder_1 rfl (lv_at hl 0 rfl) ?_
  refine lv_iload_n hx hb d_M_isUnder_2 rfl (lv_at hl 1 rfl) ?_
  refine ro_V (n := 1) (ci := 4) (As := [.int x1]) (rest := [.ref (a 20)]) C0 (c_M_isClass l D cI cZ a q σ x1 rfl) wd_403 ⟨wd_404, wd_405, wd_406, wd_352⟩ (by decide +kernel) ⟨Nat.le_of_ble_eq_true rfl, Nat.le_of_ble_eq_true rfl⟩ hP rfl rfl rfl hl rfl rfl (Nat.le_of_ble_eq_true rfl) ⟨Nat.zero_le _, Nat.zero_le _⟩ d_M_isUnder_3 ?_
  refine lv_if_eq (tgt := 21) hx hb d_M_isUnder_6 (by decide) (fun hc => ?_) (fun hc => ?_)
  · rw [if_pos hc] at h
    exact t_M_isUnder_21 (a := a) C0 hA  h hP hD hS (lv_sub hl [0, 1, 2] rfl)
  · rw [if_neg hc] at h
    refine lv_aload_n hx hb d_M_isUnder_9 rfl (lv_at hl 0 rfl) ?_
    refine lv_iload_n hx hb d_M_isUnder_10 rfl (lv_at hl 2 rfl) ?_
    refine ro_V (n := 1) (ci := 4) (As := [.int x2]) (rest := [.ref (a 20)]) C0 (c_M_isClass l D cI cZ a q σ x2 rfl) wd_403 ⟨wd_404, wd_405, wd_406, wd_352⟩ (by decide +kernel) ⟨Nat.le_of_ble_eq_true rfl, Nat.le_of_ble_eq_true rfl⟩ hP rfl rfl rfl hl rfl rfl (Nat.le_of_ble_eq_true rfl) ⟨Nat.zero_le _, Nat.zero_le _⟩ d_M_isUnder_11 ?_
    refine lv_if_eq (tgt := 21) hx hb d_M_isUnder_14 (by decide) (fun hc => ?_) (fun hc => ?_)
    · rw [if_pos hc] at h
      exact t_M_isUnder_21 (a := a) C0 hA  h hP hD hS (lv_sub hl [0, 1, 2] rfl)
    · rw [if_neg hc] at h
      refine lv_iconst (v := 0) hx hb d_M_isUnder_17 (by decide) ?_
      refine lv_goto (tgt := 22) hx hb d_M_isUnder_18 (by decide) ?_
      exact t_M_isUnder_22 (a := a) C0 hA  h hP hD hS (lv_sub hl [0, 1, 2] rfl)
set_option maxHeartbeats 4000000 in
set_option maxRecDepth 100000 in
theorem c_M_isUnder (l : Launch) (D : va_G) (cI cZ : ClassId) (a : Nat → Nat) (q : Nat) (σ : StM) (x1 : Int32) (x2 : Int32) {res : Int32 × StM} (h : f_M_isUnder σ x1 x2 = some res) : RwM l y_M_isUnder b_M_isUnder 3 (some .boolean) 1 22 D [(cI, .int), (cZ, .boolean)] [.ref (a 20), .int x1, .int x2] (fun q (σ : StM) => (wM cI cZ a q σ)) q σ res :=
  rw_of (by decide) (Nat.le_of_ble_eq_true rfl) (fun p e s m args below meth c ls A C0 hA hP hD hS hl => t_M_isUnder_0 (a := a) C0 hA h hP hD hS (lv_sub hl [0, 1, 2] rfl))
-- part 07.6M.22M_count.lean.txt
def f_M_count_4_s (k4 : Int32 → Int32 → Int32 → Option Int32) (x0 x1 x2 : Int32) : Option Int32 :=
  if 31 ≤ x2 then
    some x1
  else
    k4 x0 (x1 + ((x0 >>> (x2 &&& 31)) &&& 1)) (x2 + 1)
def f_M_count_4 : Nat → Int32 → Int32 → Int32 → Option Int32
  | 0, _, _, _ => none
  | n + 1, x0, x1, x2 => f_M_count_4_s (f_M_count_4 n) x0 x1 x2
def f_M_count (x0 : Int32) : Option Int32 :=
  f_M_count_4 1000 x0 0 0
set_option maxHeartbeats 4000000 in
set_option maxRecDepth 100000 in
theorem t_M_count_4_s {p : Program} {l : Launch} {e : Env} {s : State} {m : MethodId} {args : Array Value} {below : List Frame} {meth : Method} {c : Code} {D : va_G} {cI cZ : ClassId} {a : Nat → Nat} (C0 : Am p s m args meth c b_M_count (some .int) 3 R_M D [(cI, .int), (cZ, .boolean)]) {val : Int32} {k4 : Int32 → Int32 → Int32 → Option Int32}  (hk4 : ∀ (x0 x1 x2 : Int32) (ls : Array Slot), k4 x0 x1 x2 = some val → lv_has ls 3 [(0, .int x0), (1, .int x1), (2, .int x2)] → RoW p l e (rmK 0 0 0 0) s m args below meth c val (F0 m 4 ls [])) {x0 x1 x2 : Int32} (h : f_M_count_4_s k4 x0 x1 x2 = some val) {ls : Array Slot} (hl : lv_has ls 3 [(0, .int x0), (1, .int x1), (2, .int x2)]) : RoW p l e (rmK 0 0 0 0) s m args below meth c val (F0 m 4 ls []) := by
  obtain ⟨hx, hb, hr, hml, hown, hts, hlk, hK⟩ := id C0
  unfold f_M_count_4_s at h
  refine lv_iload_n hx hb d_M_count_4 rfl (lv_at hl 2 rfl) ?_
  refine lv_bipush (v := 31) hx hb d_M_count_5 (by decide) ?_
  refine lv_icmp_ge (tgt := 24) hx hb d_M_count_7 (by decide) (fun hc => ?_) (fun hc => ?_)
  · rw [if_pos hc] at h
    refine lv_iload_n hx hb d_M_count_24 rfl (lv_at hl 1 rfl) ?_
    exact ro_ret C0 (Option.some.inj h) d_M_count_25
  · rw [if_neg hc] at h
    refine lv_iload_n hx hb d_M_count_10 rfl (lv_at hl 1 rfl) ?_
    refine lv_iload_n hx hb d_M_count_11 rfl (lv_at hl 0 rfl) ?_
    refine lv_iload_n hx hb d_M_count_12 rfl (lv_at hl 2 rfl) ?_
    refine lv_ishr hx hb d_M_count_13 ?_
    refine lv_iconst (v := 1) hx hb d_M_count_14 (by decide) ?_
    refine lv_iand hx hb d_M_count_15 ?_
    refine lv_iadd hx hb d_M_count_16 ?_
    refine lv_istore_n (lv' := [(1, .int (x1 + ((x0 >>> (x2 &&& 31)) &&& 1))), (0, .int x0), (2, .int x2)]) hx hb d_M_count_17 rfl hl (by decide) rfl (fun ls hl => ?_)
    refine lv_iinc (v := (x2 + 1)) (lv' := [(2, .int (x2 + 1)), (1, .int (x1 + ((x0 >>> (x2 &&& 31)) &&& 1))), (0, .int x0)]) hx hb d_M_count_18 hl (k := 2) rfl rfl (by decide) rfl (fun ls hl => ?_)
    refine lv_goto (tgt := 4) hx hb d_M_count_21 (by decide) ?_
    exact hk4 _ _ _ _ h (lv_sub hl [2, 1, 0] rfl)
set_option maxHeartbeats 4000000 in
set_option maxRecDepth 100000 in
theorem t_M_count_4 {p : Program} {l : Launch} {e : Env} {s : State} {m : MethodId} {args : Array Value} {below : List Frame} {meth : Method} {c : Code} {D : va_G} {cI cZ : ClassId} {a : Nat → Nat} (C0 : Am p s m args meth c b_M_count (some .int) 3 R_M D [(cI, .int), (cZ, .boolean)]) {val : Int32}  {n : Nat} {x0 x1 x2 : Int32} (h : f_M_count_4  n x0 x1 x2 = some val) {ls : Array Slot} (hl : lv_has ls 3 [(0, .int x0), (1, .int x1), (2, .int x2)]) : RoW p l e (rmK 0 0 0 0) s m args below meth c val (F0 m 4 ls []) := by
  induction n generalizing x0 x1 x2 ls with
  | zero => cases h
  | succ n ih => exact t_M_count_4_s (a := a) C0  (fun _ _ _ _ h hl => ih h hl) h hl
set_option maxHeartbeats 4000000 in
set_option maxRecDepth 100000 in
theorem t_M_count_0 {p : Program} {l : Launch} {e : Env} {s : State} {m : MethodId} {args : Array Value} {below : List Frame} {meth : Method} {c : Code} {D : va_G} {cI cZ : ClassId} {a : Nat → Nat} (C0 : Am p s m args meth c b_M_count (some .int) 3 R_M D [(cI, .int), (cZ, .boolean)]) {val : Int32}   {x0 : Int32} (h : f_M_count x0 = some val) {ls : Array Slot} (hl : lv_has ls 3 [(0, .int x0)]) : RoW p l e (rmK 0 0 0 0) s m args below meth c val (F0 m 0 ls []) := by
  obtain ⟨hx, hb, hr, hml, hown, hts, hlk, hK⟩ := id C0
  unfold f_M_count at h
  refine lv_iconst (v := 0) hx hb d_M_count_0 (by decide) ?_
  refine lv_istore_n (lv' := [(1, .int 0), (0, .int x0)]) hx hb d_M_count_1 rfl hl (by decide) rfl (fun ls hl => ?_)
  refine lv_iconst (v := 0) hx hb d_M_count_2 (by decide) ?_
  refine lv_istore_n (lv' := [(2, .int 0), (1, .int 0), (0, .int x0)]) hx hb d_M_count_3 rfl hl (by decide) rfl (fun ls hl => ?_)
  exact t_M_count_4 (a := a) C0  h (lv_sub hl [2, 1, 0] rfl)
set_option maxHeartbeats 4000000 in
set_option maxRecDepth 100000 in
theorem c_M_count (l : Launch) (D : va_G) (cI cZ : ClassId) (a : Nat → Nat) (x0 : Int32) {val : Int32} (h : f_M_count x0 = some val) : RoM l y_M_count b_M_count 3 (some .int) 0 0 D [(cI, .int), (cZ, .boolean)] [.int x0] [] val :=
  ro_of (by decide) (Nat.le_of_ble_eq_true rfl) (fun p e s m args below meth c ls C0 hP hl => t_M_count_0 (a := a) C0 h (lv_sub hl [0] rfl))
-- part 07.6M.23M_classed.lean.txt
def f_M_classed_27 (σ : StM) (x1 x2 t1 : Int32) : Option (Int32 × StM) :=
  (f_M_good σ t1).bind fun r1 =>
  if r1.1 = 0 then
    some (0, r1.2)
  else
    if x2 = 0 then
      if x1 < 0 ∨ 30 ≤ x1.toNatClampNeg then none else
      if ((M_face r1.2) x1.toNatClampNeg) = 0 then
        some (0, r1.2)
      else
        some (1, r1.2)
    else if x2 = 1 then
      if x1 < 0 ∨ 30 ≤ x1.toNatClampNeg then none else
      if ((M_generic r1.2) x1.toNatClampNeg) = 0 then
        some (0, r1.2)
      else
        some (1, r1.2)
    else if x2 = 2 then
      if x1 < 0 ∨ 30 ≤ x1.toNatClampNeg then none else
      some (((M_directs r1.2) x1.toNatClampNeg), r1.2)
    else if x1 < 0 ∨ 30 ≤ x1.toNatClampNeg then none else
    (f_M_count ((M_over r1.2) x1.toNatClampNeg)).bind fun r2 =>
    some (r2, r1.2)
def f_M_classed_22 (σ : StM) (x1 x2 : Int32) : Option (Int32 × StM) :=
  f_M_classed_27 σ x1 x2 2
def f_M_classed (σ : StM) (x1 x2 : Int32) : Option (Int32 × StM) :=
  if (f_M_isClass σ x1) = 0 then
    f_M_classed_27 σ x1 x2 1
  else
    if x2 < 0 then
      f_M_classed_22 σ x1 x2
    else
      if x2 ≤ 3 then
        f_M_classed_27 σ x1 x2 0
      else
        f_M_classed_22 σ x1 x2
set_option maxHeartbeats 4000000 in
set_option maxRecDepth 100000 in
theorem t_M_classed_27 {p : Program} {l : Launch} {e : Env} {s : State} {m : MethodId} {args : Array Value} {below : List Frame} {meth : Method} {c : Code} {D : va_G} {cI cZ : ClassId} {a : Nat → Nat} {A : Nat → Prop} (C0 : Am p s m args meth c b_M_classed (some .int) 3 R_M D [(cI, .int), (cZ, .boolean)]) (hA : ∀ q, s.heap.size ≤ q → A q) {res : Int32 × StM}   {q : Nat} {σ : StM} {x1 x2 t1 : Int32} (h : f_M_classed_27 σ x1 x2 t1 = some res) {H : Heap} {locs : List Loc} (hP : va_P D vwCl (wM cI cZ a q σ) H) (hD : va_D A (wM cI cZ a q σ)) (hS : va_S A s.heap H locs) {ls : Array Slot} (hl : lv_has ls 3 [(0, .ref (a 20)), (1, .int x1), (2, .int x2)]) : W p l e (rmK 1 22 0 0) s m args below meth c H locs 0 0 (RwQ below args s D A (fun q (σ : StM) => (wM cI cZ a q σ)) res 0 0) (F0 m 27 ls [.int t1, .ref (a 20)]) := by
  obtain ⟨hx, hb, hr, hml, hown, hts, hlk, hK⟩ := id C0
  unfold f_M_classed_27 at h
  replace h := bd h
  obtain ⟨r1, g1, h⟩ := h
  refine rw_V (n := 1) (ci := 4) (As := [.int t1]) (rest := []) (Wn := fun _ => (wM cI cZ a q r1.2)) C0 hA (c_M_good l D cI cZ a q σ t1 g1) wd_388 ⟨wd_389, wd_390, wd_391, wd_352⟩ (by decide +kernel) ⟨Nat.le_of_ble_eq_true rfl, Nat.le_of_ble_eq_true rfl⟩ hP hD hS [0, 1, 2, 3, 4, 5, 6, 7, 8, 9, 10, 11, 12, 13, 14, 15, 16, 17, 18, 19, 20, 21, 22, 23] [] [0, 1, 2, 3, 4, 5, 6, 7, 8, 9, 10, 11, 12, 13, 14, 15, 16, 17, 18, 19, 20, 21, 22, 23] jn_M__C (by decide) jn_M__R (by decide) (by decide) (by decide) jn_M__W rfl rfl rfl hl rfl rfl (Nat.le_of_ble_eq_true rfl) ⟨Nat.zero_le _, Nat.zero_le _⟩ d_M_classed_27 (fun H locs _ hP hD hS => ?_)
  try dsimp only at h
  refine lv_if_ne (tgt := 35) hx hb d_M_classed_30 (by decide) (fun hc => ?_) (fun hc => ?_)
  · rw [if_neg hc] at h
    refine lv_iload_n hx hb d_M_classed_35 rfl (lv_at hl 2 rfl) ?_
    by_cases e36_0 : x2 = 0
    · rw [if_pos e36_0] at h
      refine lv_tableIn (off := 28) (tgt := 64) hx hb d_M_classed_36 (by rw [e36_0]; decide) (by rw [e36_0]; decide) (by rw [e36_0]; rfl) (by decide) ?_
      refine lv_aload_n hx hb d_M_classed_64 rfl (lv_at hl 0 rfl) ?_
      refine va_get (ci := 4) (v := .ref (a 21)) (C := R_M) (T := F_M) (N := 35) hx hb hts i_M hown hK.1 hP 0 rfl rfl 4 (by decide) (hts _ wd_392) (fun _ h9 => h9) rfl d_M_classed_65 ?_
      refine lv_iload_n hx hb d_M_classed_68 rfl (lv_at hl 1 rfl) ?_
      replace h := gd h
      obtain ⟨hi, h⟩ := h
      refine va_zald hx hb hK.1 hP 1 1 rfl rfl hi d_M_classed_69 ?_
      refine lv_if_eq (tgt := 77) hx hb d_M_classed_70 (by decide) (fun hc => ?_) (fun hc => ?_)
      · rw [if_pos hc] at h
        refine lv_iconst (v := 0) hx hb d_M_classed_77 (by decide) ?_
        exact rw_ret C0 hP hD hS (Option.some.inj h) d_M_classed_78
      · rw [if_neg hc] at h
        refine lv_iconst (v := 1) hx hb d_M_classed_73 (by decide) ?_
        refine lv_goto (tgt := 78) hx hb d_M_classed_74 (by decide) ?_
        exact rw_ret C0 hP hD hS (Option.some.inj h) d_M_classed_78
    · rw [if_neg e36_0] at h
      by_cases e36_1 : x2 = 1
      · rw [if_pos e36_1] at h
        refine lv_tableIn (off := 43) (tgt := 79) hx hb d_M_classed_36 (by rw [e36_1]; decide) (by rw [e36_1]; decide) (by rw [e36_1]; rfl) (by decide) ?_
        refine lv_aload_n hx hb d_M_classed_79 rfl (lv_at hl 0 rfl) ?_
        refine va_get (ci := 4) (v := .ref (a 22)) (C := R_M) (T := F_M) (N := 35) hx hb hts i_M hown hK.1 hP 0 rfl rfl 5 (by decide) (hts _ wd_393) (fun _ h9 => h9) rfl d_M_classed_80 ?_
        refine lv_iload_n hx hb d_M_classed_83 rfl (lv_at hl 1 rfl) ?_
        replace h := gd h
        obtain ⟨hi, h⟩ := h
        refine va_zald hx hb hK.1 hP 2 1 rfl rfl hi d_M_classed_84 ?_
        refine lv_if_eq (tgt := 92) hx hb d_M_classed_85 (by decide) (fun hc => ?_) (fun hc => ?_)
        · rw [if_pos hc] at h
          refine lv_iconst (v := 0) hx hb d_M_classed_92 (by decide) ?_
          exact rw_ret C0 hP hD hS (Option.some.inj h) d_M_classed_93
        · rw [if_neg hc] at h
          refine lv_iconst (v := 1) hx hb d_M_classed_88 (by decide) ?_
          refine lv_goto (tgt := 93) hx hb d_M_classed_89 (by decide) ?_
          exact rw_ret C0 hP hD hS (Option.some.inj h) d_M_classed_93
      · rw [if_neg e36_1] at h
        by_cases e36_2 : x2 = 2
        · rw [if_pos e36_2] at h
          refine lv_tableIn (off := 58) (tgt := 94) hx hb d_M_classed_36 (by rw [e36_2]; decide) (by rw [e36_2]; decide) (by rw [e36_2]; rfl) (by decide) ?_
          refine lv_aload_n hx hb d_M_classed_94 rfl (lv_at hl 0 rfl) ?_
          refine va_get (ci := 4) (v := .ref (a 23)) (C := R_M) (T := F_M) (N := 35) hx hb hts i_M hown hK.1 hP 0 rfl rfl 6 (by decide) (hts _ wd_339) (fun _ h9 => h9) rfl d_M_classed_95 ?_
          refine lv_iload_n hx hb d_M_classed_98 rfl (lv_at hl 1 rfl) ?_
          replace h := gd h
          obtain ⟨hi, h⟩ := h
          refine va_iald hx hb hK.1 hP 3 0 rfl rfl hi d_M_classed_99 ?_
          exact rw_ret C0 hP hD hS (Option.some.inj h) d_M_classed_100
        · rw [if_neg e36_2] at h
          refine lv_tableOut (tgt := 101) hx hb d_M_classed_36 (by have n0 := lv_neT (a := 0) e36_0 (by decide); have n1 := lv_neT (a := 1) e36_1 (by decide); have n2 := lv_neT (a := 2) e36_2 (by decide); omega) (by decide) ?_
          refine lv_aload_n hx hb d_M_classed_101 rfl (lv_at hl 0 rfl) ?_
          refine va_get (ci := 4) (v := .ref (a 26)) (C := R_M) (T := F_M) (N := 35) hx hb hts i_M hown hK.1 hP 0 rfl rfl 9 (by decide) (hts _ wd_341) (fun _ h9 => h9) rfl d_M_classed_102 ?_
          refine lv_iload_n hx hb d_M_classed_105 rfl (lv_at hl 1 rfl) ?_
          replace h := gd h
          obtain ⟨hi, h⟩ := h
          refine va_iald hx hb hK.1 hP 6 0 rfl rfl hi d_M_classed_106 ?_
          replace h := bd h
          obtain ⟨r2, g2, h⟩ := h
          refine ro_S (n := 1) (As := [.int ((M_over r1.2) x1.toNatClampNeg)]) (rest := []) C0 (c_M_count l D cI cZ a ((M_over r1.2) x1.toNatClampNeg) g2) wd_415 ⟨wd_416, wd_417, wd_352⟩ (by decide +kernel) ⟨Nat.le_of_ble_eq_true rfl, Nat.le_of_ble_eq_true rfl⟩ pnil hl rfl rfl (Nat.le_of_ble_eq_true rfl) ⟨Nat.zero_le _, Nat.zero_le _⟩ d_M_classed_107 ?_
          try dsimp only at h
          exact rw_ret C0 hP hD hS (Option.some.inj h) d_M_classed_110
  · rw [if_pos hc] at h
    refine lv_iconst (v := 0) hx hb d_M_classed_33 (by decide) ?_
    exact rw_ret C0 hP hD hS (Option.some.inj h) d_M_classed_34
set_option maxHeartbeats 4000000 in
set_option maxRecDepth 100000 in
theorem t_M_classed_22 {p : Program} {l : Launch} {e : Env} {s : State} {m : MethodId} {args : Array Value} {below : List Frame} {meth : Method} {c : Code} {D : va_G} {cI cZ : ClassId} {a : Nat → Nat} {A : Nat → Prop} (C0 : Am p s m args meth c b_M_classed (some .int) 3 R_M D [(cI, .int), (cZ, .boolean)]) (hA : ∀ q, s.heap.size ≤ q → A q) {res : Int32 × StM}   {q : Nat} {σ : StM} {x1 x2 : Int32} (h : f_M_classed_22 σ x1 x2 = some res) {H : Heap} {locs : List Loc} (hP : va_P D vwCl (wM cI cZ a q σ) H) (hD : va_D A (wM cI cZ a q σ)) (hS : va_S A s.heap H locs) {ls : Array Slot} (hl : lv_has ls 3 [(0, .ref (a 20)), (1, .int x1), (2, .int x2)]) : W p l e (rmK 1 22 0 0) s m args below meth c H locs 0 0 (RwQ below args s D A (fun q (σ : StM) => (wM cI cZ a q σ)) res 0 0) (F0 m 22 ls [.ref (a 20)]) := by
  obtain ⟨hx, hb, hr, hml, hown, hts, hlk, hK⟩ := id C0
  unfold f_M_classed_22 at h
  refine lv_iconst (v := 2) hx hb d_M_classed_22 (by decide) ?_
  refine lv_goto (tgt := 27) hx hb d_M_classed_23 (by decide) ?_
  exact t_M_classed_27 (a := a) C0 hA  h hP hD hS (lv_sub hl [0, 1, 2] rfl)
set_option maxHeartbeats 4000000 in
set_option maxRecDepth 100000 in
theorem t_M_classed_0 {p : Program} {l : Launch} {e : Env} {s : State} {m : MethodId} {args : Array Value} {below : List Frame} {meth : Method} {c : Code} {D : va_G} {cI cZ : ClassId} {a : Nat → Nat} {A : Nat → Prop} (C0 : Am p s m args meth c b_M_classed (some .int) 3 R_M D [(cI, .int), (cZ, .boolean)]) (hA : ∀ q, s.heap.size ≤ q → A q) {res : Int32 × StM}   {q : Nat} {σ : StM} {x1 x2 : Int32} (h : f_M_classed σ x1 x2 = some res) {H : Heap} {locs : List Loc} (hP : va_P D vwCl (wM cI cZ a q σ) H) (hD : va_D A (wM cI cZ a q σ)) (hS : va_S A s.heap H locs) {ls : Array Slot} (hl : lv_has ls 3 [(0, .ref (a 20)), (1, .int x1), (2, .int x2)]) : W p l e (rmK 1 22 0 0) s m args below meth c H locs 0 0 (RwQ below args s D A (fun q (σ : StM) => (wM cI cZ a q σ)) res 0 0) (F0 m 0 ls []) := by
  obtain ⟨hx, hb, hr, hml, hown, hts, hlk, hK⟩ := id C0
  unfold f_M_classed at h
  refine lv_aload_n hx hb d_M_classed_0 rfl (lv_at hl 0 rfl) ?_
  refine lv_aload_n hx hb d_M_classed_1 rfl (lv_at hl 0 rfl) ?_
  refine lv_iload_n hx hb d_M_classed_2 rfl (lv_at hl 1 rfl) ?_
  refine ro_V (n := 1) (ci := 4) (As := [.int x1]) (rest := [.ref (a 20)]) C0 (c_M_isClass l D cI cZ a q σ x1 rfl) wd_403 ⟨wd_404, wd_405, wd_406, wd_352⟩ (by decide +kernel) ⟨Nat.le_of_ble_eq_true rfl, Nat.le_of_ble_eq_true rfl⟩ hP rfl rfl rfl hl rfl rfl (Nat.le_of_ble_eq_true rfl) ⟨Nat.zero_le _, Nat.zero_le _⟩ d_M_classed_3 ?_
  refine lv_if_ne (tgt := 13) hx hb d_M_classed_6 (by decide) (fun hc => ?_) (fun hc => ?_)
  · rw [if_neg hc] at h
    refine lv_iload_n hx hb d_M_classed_13 rfl (lv_at hl 2 rfl) ?_
    refine lv_if_lt (tgt := 22) hx hb d_M_classed_14 (by decide) (fun hc => ?_) (fun hc => ?_)
    · rw [if_pos hc] at h
      exact t_M_classed_22 (a := a) C0 hA  h hP hD hS (lv_sub hl [0, 1, 2] rfl)
    · rw [if_neg hc] at h
      refine lv_iload_n hx hb d_M_classed_17 rfl (lv_at hl 2 rfl) ?_
      refine lv_iconst (v := 3) hx hb d_M_classed_18 (by decide) ?_
      refine lv_icmp_le (tgt := 26) hx hb d_M_classed_19 (by decide) (fun hc => ?_) (fun hc => ?_)
      · rw [if_pos hc] at h
        refine lv_iconst (v := 0) hx hb d_M_classed_26 (by decide) ?_
        exact t_M_classed_27 (a := a) C0 hA  h hP hD hS (lv_sub hl [0, 1, 2] rfl)
      · rw [if_neg hc] at h
        exact t_M_classed_22 (a := a) C0 hA  h hP hD hS (lv_sub hl [0, 1, 2] rfl)
  · rw [if_pos hc] at h
    refine lv_iconst (v := 1) hx hb d_M_classed_9 (by decide) ?_
    refine lv_goto (tgt := 27) hx hb d_M_classed_10 (by decide) ?_
    exact t_M_classed_27 (a := a) C0 hA  h hP hD hS (lv_sub hl [0, 1, 2] rfl)
set_option maxHeartbeats 4000000 in
set_option maxRecDepth 100000 in
theorem c_M_classed (l : Launch) (D : va_G) (cI cZ : ClassId) (a : Nat → Nat) (q : Nat) (σ : StM) (x1 : Int32) (x2 : Int32) {res : Int32 × StM} (h : f_M_classed σ x1 x2 = some res) : RwM l y_M_classed b_M_classed 3 (some .int) 1 22 D [(cI, .int), (cZ, .boolean)] [.ref (a 20), .int x1, .int x2] (fun q (σ : StM) => (wM cI cZ a q σ)) q σ res :=
  rw_of (by decide) (Nat.le_of_ble_eq_true rfl) (fun p e s m args below meth c ls A C0 hA hP hD hS hl => t_M_classed_0 (a := a) C0 hA h hP hD hS (lv_sub hl [0, 1, 2] rfl))
-- part 07.6M.24M_direct.lean.txt
def f_M_direct_41 (σ : StM) (x1 x2 x3 t1 : Int32) : Option (Int32 × StM) :=
  (f_M_good σ t1).bind fun r1 =>
  if r1.1 = 0 then
    some (0, r1.2)
  else
    if x3 = 0 then
      if ((30 * x1) + x2) < 0 ∨ 900 ≤ ((30 * x1) + x2).toNatClampNeg then none else
      some (((M_directTo r1.2) ((30 * x1) + x2).toNatClampNeg), r1.2)
    else
      if ((30 * x1) + x2) < 0 ∨ 900 ≤ ((30 * x1) + x2).toNatClampNeg then none else
      some (((M_directArg r1.2) ((30 * x1) + x2).toNatClampNeg), r1.2)
def f_M_direct_23 (σ : StM) (x1 x2 x3 : Int32) : Option (Int32 × StM) :=
  f_M_direct_41 σ x1 x2 x3 1
def f_M_direct_36 (σ : StM) (x1 x2 x3 : Int32) : Option (Int32 × StM) :=
  f_M_direct_41 σ x1 x2 x3 2
def f_M_direct (σ : StM) (x1 x2 x3 : Int32) : Option (Int32 × StM) :=
  if (f_M_isClass σ x1) = 0 then
    f_M_direct_23 σ x1 x2 x3
  else
    if x2 < 0 then
      f_M_direct_23 σ x1 x2 x3
    else
      if x1 < 0 ∨ 30 ≤ x1.toNatClampNeg then none else
      if x2 < ((M_directs σ) x1.toNatClampNeg) then
        if x3 < 0 then
          f_M_direct_36 σ x1 x2 x3
        else
          if x3 ≤ 1 then
            f_M_direct_41 σ x1 x2 x3 0
          else
            f_M_direct_36 σ x1 x2 x3
      else
        f_M_direct_23 σ x1 x2 x3
set_option maxHeartbeats 4000000 in
set_option maxRecDepth 100000 in
theorem t_M_direct_41 {p : Program} {l : Launch} {e : Env} {s : State} {m : MethodId} {args : Array Value} {below : List Frame} {meth : Method} {c : Code} {D : va_G} {cI cZ : ClassId} {a : Nat → Nat} {A : Nat → Prop} (C0 : Am p s m args meth c b_M_direct (some .int) 4 R_M D [(cI, .int), (cZ, .boolean)]) (hA : ∀ q, s.heap.size ≤ q → A q) {res : Int32 × StM}   {q : Nat} {σ : StM} {x1 x2 x3 t1 : Int32} (h : f_M_direct_41 σ x1 x2 x3 t1 = some res) {H : Heap} {locs : List Loc} (hP : va_P D vwCl (wM cI cZ a q σ) H) (hD : va_D A (wM cI cZ a q σ)) (hS : va_S A s.heap H locs) {ls : Array Slot} (hl : lv_has ls 4 [(0, .ref (a 20)), (1, .int x1), (2, .int x2), (3, .int x3)]) : W p l e (rmK 1 21 0 0) s m args below meth c H locs 0 0 (RwQ below args s D A (fun q (σ : StM) => (wM cI cZ a q σ)) res 0 0) (F0 m 41 ls [.int t1, .ref (a 20)]) := by
  obtain ⟨hx, hb, hr, hml, hown, hts, hlk, hK⟩ := id C0
  unfold f_M_direct_41 at h
  replace h := bd h
  obtain ⟨r1, g1, h⟩ := h
  refine rw_V (n := 1) (ci := 4) (As := [.int t1]) (rest := []) (Wn := fun _ => (wM cI cZ a q r1.2)) C0 hA (c_M_good l D cI cZ a q σ t1 g1) wd_388 ⟨wd_389, wd_390, wd_391, wd_352⟩ (by decide +kernel) ⟨Nat.le_of_ble_eq_true rfl, Nat.le_of_ble_eq_true rfl⟩ hP hD hS [0, 1, 2, 3, 4, 5, 6, 7, 8, 9, 10, 11, 12, 13, 14, 15, 16, 17, 18, 19, 20, 21, 22, 23] [] [0, 1, 2, 3, 4, 5, 6, 7, 8, 9, 10, 11, 12, 13, 14, 15, 16, 17, 18, 19, 20, 21, 22, 23] jn_M__C (by decide) jn_M__R (by decide) (by decide) (by decide) jn_M__W rfl rfl rfl hl rfl rfl (Nat.le_of_ble_eq_true rfl) ⟨Nat.zero_le _, Nat.zero_le _⟩ d_M_direct_41 (fun H locs _ hP hD hS => ?_)
  try dsimp only at h
  refine lv_if_ne (tgt := 49) hx hb d_M_direct_44 (by decide) (fun hc => ?_) (fun hc => ?_)
  · rw [if_neg hc] at h
    refine lv_iload_n hx hb d_M_direct_49 rfl (lv_at hl 3 rfl) ?_
    refine lv_if_ne (tgt := 67) hx hb d_M_direct_50 (by decide) (fun hc => ?_) (fun hc => ?_)
    · rw [if_neg hc] at h
      refine lv_aload_n hx hb d_M_direct_67 rfl (lv_at hl 0 rfl) ?_
      refine va_get (ci := 4) (v := .ref (a 25)) (C := R_M) (T := F_M) (N := 35) hx hb hts i_M hown hK.1 hP 0 rfl rfl 8 (by decide) (hts _ wd_340) (fun _ h9 => h9) rfl d_M_direct_68 ?_
      refine lv_bipush (v := 30) hx hb d_M_direct_71 (by decide) ?_
      refine lv_iload_n hx hb d_M_direct_73 rfl (lv_at hl 1 rfl) ?_
      refine lv_imul hx hb d_M_direct_74 ?_
      refine lv_iload_n hx hb d_M_direct_75 rfl (lv_at hl 2 rfl) ?_
      refine lv_iadd hx hb d_M_direct_76 ?_
      replace h := gd h
      obtain ⟨hi, h⟩ := h
      refine va_iald hx hb hK.1 hP 5 0 rfl rfl hi d_M_direct_77 ?_
      exact rw_ret C0 hP hD hS (Option.some.inj h) d_M_direct_78
    · rw [if_pos hc] at h
      refine lv_aload_n hx hb d_M_direct_53 rfl (lv_at hl 0 rfl) ?_
      refine va_get (ci := 4) (v := .ref (a 24)) (C := R_M) (T := F_M) (N := 35) hx hb hts i_M hown hK.1 hP 0 rfl rfl 7 (by decide) (hts _ wd_338) (fun _ h9 => h9) rfl d_M_direct_54 ?_
      refine lv_bipush (v := 30) hx hb d_M_direct_57 (by decide) ?_
      refine lv_iload_n hx hb d_M_direct_59 rfl (lv_at hl 1 rfl) ?_
      refine lv_imul hx hb d_M_direct_60 ?_
      refine lv_iload_n hx hb d_M_direct_61 rfl (lv_at hl 2 rfl) ?_
      refine lv_iadd hx hb d_M_direct_62 ?_
      replace h := gd h
      obtain ⟨hi, h⟩ := h
      refine va_iald hx hb hK.1 hP 4 0 rfl rfl hi d_M_direct_63 ?_
      refine lv_goto (tgt := 78) hx hb d_M_direct_64 (by decide) ?_
      exact rw_ret C0 hP hD hS (Option.some.inj h) d_M_direct_78
  · rw [if_pos hc] at h
    refine lv_iconst (v := 0) hx hb d_M_direct_47 (by decide) ?_
    exact rw_ret C0 hP hD hS (Option.some.inj h) d_M_direct_48
set_option maxHeartbeats 4000000 in
set_option maxRecDepth 100000 in
theorem t_M_direct_23 {p : Program} {l : Launch} {e : Env} {s : State} {m : MethodId} {args : Array Value} {below : List Frame} {meth : Method} {c : Code} {D : va_G} {cI cZ : ClassId} {a : Nat → Nat} {A : Nat → Prop} (C0 : Am p s m args meth c b_M_direct (some .int) 4 R_M D [(cI, .int), (cZ, .boolean)]) (hA : ∀ q, s.heap.size ≤ q → A q) {res : Int32 × StM}   {q : Nat} {σ : StM} {x1 x2 x3 : Int32} (h : f_M_direct_23 σ x1 x2 x3 = some res) {H : Heap} {locs : List Loc} (hP : va_P D vwCl (wM cI cZ a q σ) H) (hD : va_D A (wM cI cZ a q σ)) (hS : va_S A s.heap H locs) {ls : Array Slot} (hl : lv_has ls 4 [(0, .ref (a 20)), (1, .int x1), (2, .int x2), (3, .int x3)]) : W p l e (rmK 1 21 0 0) s m args below meth c H locs 0 0 (RwQ below args s D A (fun q (σ : StM) => (wM cI cZ a q σ)) res 0 0) (F0 m 23 ls [.ref (a 20)]) := by
  obtain ⟨hx, hb, hr, hml, hown, hts, hlk, hK⟩ := id C0
  unfold f_M_direct_23 at h
  refine lv_iconst (v := 1) hx hb d_M_direct_23 (by decide) ?_
  refine lv_goto (tgt := 41) hx hb d_M_direct_24 (by decide) ?_
  exact t_M_direct_41 (a := a) C0 hA  h hP hD hS (lv_sub hl [0, 1, 2, 3] rfl)
set_option maxHeartbeats 4000000 in
set_option maxRecDepth 100000 in
theorem t_M_direct_36 {p : Program} {l : Launch} {e : Env} {s : State} {m : MethodId} {args : Array Value} {below : List Frame} {meth : Method} {c : Code} {D : va_G} {cI cZ : ClassId} {a : Nat → Nat} {A : Nat → Prop} (C0 : Am p s m args meth c b_M_direct (some .int) 4 R_M D [(cI, .int), (cZ, .boolean)]) (hA : ∀ q, s.heap.size ≤ q → A q) {res : Int32 × StM}   {q : Nat} {σ : StM} {x1 x2 x3 : Int32} (h : f_M_direct_36 σ x1 x2 x3 = some res) {H : Heap} {locs : List Loc} (hP : va_P D vwCl (wM cI cZ a q σ) H) (hD : va_D A (wM cI cZ a q σ)) (hS : va_S A s.heap H locs) {ls : Array Slot} (hl : lv_has ls 4 [(0, .ref (a 20)), (1, .int x1), (2, .int x2), (3, .int x3)]) : W p l e (rmK 1 21 0 0) s m args below meth c H locs 0 0 (RwQ below args s D A (fun q (σ : StM) => (wM cI cZ a q σ)) res 0 0) (F0 m 36 ls [.ref (a 20)]) := by
  obtain ⟨hx, hb, hr, hml, hown, hts, hlk, hK⟩ := id C0
  unfold f_M_direct_36 at h
  refine lv_iconst (v := 2) hx hb d_M_direct_36 (by decide) ?_
  refine lv_goto (tgt := 41) hx hb d_M_direct_37 (by decide) ?_
  exact t_M_direct_41 (a := a) C0 hA  h hP hD hS (lv_sub hl [0, 1, 2, 3] rfl)
set_option maxHeartbeats 4000000 in
set_option maxRecDepth 100000 in
theorem t_M_direct_0 {p : Program} {l : Launch} {e : Env} {s : State} {m : MethodId} {args : Array Value} {below : List Frame} {meth : Method} {c : Code} {D : va_G} {cI cZ : ClassId} {a : Nat → Nat} {A : Nat → Prop} (C0 : Am p s m args meth c b_M_direct (some .int) 4 R_M D [(cI, .int), (cZ, .boolean)]) (hA : ∀ q, s.heap.size ≤ q → A q) {res : Int32 × StM}   {q : Nat} {σ : StM} {x1 x2 x3 : Int32} (h : f_M_direct σ x1 x2 x3 = some res) {H : Heap} {locs : List Loc} (hP : va_P D vwCl (wM cI cZ a q σ) H) (hD : va_D A (wM cI cZ a q σ)) (hS : va_S A s.heap H locs) {ls : Array Slot} (hl : lv_has ls 4 [(0, .ref (a 20)), (1, .int x1), (2, .int x2), (3, .int x3)]) : W p l e (rmK 1 21 0 0) s m args below meth c H locs 0 0 (RwQ below args s D A (fun q (σ : StM) => (wM cI cZ a q σ)) res 0 0) (F0 m 0 ls []) := by
  obtain ⟨hx, hb, hr, hml, hown, hts, hlk, hK⟩ := id C0
  unfold f_M_direct at h
  refine lv_aload_n hx hb d_M_direct_0 rfl (lv_at hl 0 rfl) ?_
  refine lv_aload_n hx hb d_M_direct_1 rfl (lv_at hl 0 rfl) ?_
  refine lv_iload_n hx hb d_M_direct_2 rfl (lv_at hl 1 rfl) ?_
  refine ro_V (n := 1) (ci := 4) (As := [.int x1]) (rest := [.ref (a 20)]) C0 (c_M_isClass l D cI cZ a q σ x1 rfl) wd_403 ⟨wd_404, wd_405, wd_406, wd_352⟩ (by decide +kernel) ⟨Nat.le_of_ble_eq_true rfl, Nat.le_of_ble_eq_true rfl⟩ hP rfl rfl rfl hl rfl rfl (Nat.le_of_ble_eq_true rfl) ⟨Nat.zero_le _, Nat.zero_le _⟩ d_M_direct_3 ?_
  refine lv_if_eq (tgt := 23) hx hb d_M_direct_6 (by decide) (fun hc => ?_) (fun hc => ?_)
  · rw [if_pos hc] at h
    exact t_M_direct_23 (a := a) C0 hA  h hP hD hS (lv_sub hl [0, 1, 2, 3] rfl)
  · rw [if_neg hc] at h
    refine lv_iload_n hx hb d_M_direct_9 rfl (lv_at hl 2 rfl) ?_
    refine lv_if_lt (tgt := 23) hx hb d_M_direct_10 (by decide) (fun hc => ?_) (fun hc => ?_)
    · rw [if_pos hc] at h
      exact t_M_direct_23 (a := a) C0 hA  h hP hD hS (lv_sub hl [0, 1, 2, 3] rfl)
    · rw [if_neg hc] at h
      refine lv_iload_n hx hb d_M_direct_13 rfl (lv_at hl 2 rfl) ?_
      refine lv_aload_n hx hb d_M_direct_14 rfl (lv_at hl 0 rfl) ?_
      refine va_get (ci := 4) (v := .ref (a 23)) (C := R_M) (T := F_M) (N := 35) hx hb hts i_M hown hK.1 hP 0 rfl rfl 6 (by decide) (hts _ wd_339) (fun _ h9 => h9) rfl d_M_direct_15 ?_
      refine lv_iload_n hx hb d_M_direct_18 rfl (lv_at hl 1 rfl) ?_
      replace h := gd h
      obtain ⟨hi, h⟩ := h
      refine va_iald hx hb hK.1 hP 3 0 rfl rfl hi d_M_direct_19 ?_
      refine lv_icmp_lt (tgt := 27) hx hb d_M_direct_20 (by decide) (fun hc => ?_) (fun hc => ?_)
      · rw [if_pos hc] at h
        refine lv_iload_n hx hb d_M_direct_27 rfl (lv_at hl 3 rfl) ?_
        refine lv_if_lt (tgt := 36) hx hb d_M_direct_28 (by decide) (fun hc => ?_) (fun hc => ?_)
        · rw [if_pos hc] at h
          exact t_M_direct_36 (a := a) C0 hA  h hP hD hS (lv_sub hl [0, 1, 2, 3] rfl)
        · rw [if_neg hc] at h
          refine lv_iload_n hx hb d_M_direct_31 rfl (lv_at hl 3 rfl) ?_
          refine lv_iconst (v := 1) hx hb d_M_direct_32 (by decide) ?_
          refine lv_icmp_le (tgt := 40) hx hb d_M_direct_33 (by decide) (fun hc => ?_) (fun hc => ?_)
          · rw [if_pos hc] at h
            refine lv_iconst (v := 0) hx hb d_M_direct_40 (by decide) ?_
            exact t_M_direct_41 (a := a) C0 hA  h hP hD hS (lv_sub hl [0, 1, 2, 3] rfl)
          · rw [if_neg hc] at h
            exact t_M_direct_36 (a := a) C0 hA  h hP hD hS (lv_sub hl [0, 1, 2, 3] rfl)
      · rw [if_neg hc] at h
        exact t_M_direct_23 (a := a) C0 hA  h hP hD hS (lv_sub hl [0, 1, 2, 3] rfl)
set_option maxHeartbeats 4000000 in
set_option maxRecDepth 100000 in
theorem c_M_direct (l : Launch) (D : va_G) (cI cZ : ClassId) (a : Nat → Nat) (q : Nat) (σ : StM) (x1 : Int32) (x2 : Int32) (x3 : Int32) {res : Int32 × StM} (h : f_M_direct σ x1 x2 x3 = some res) : RwM l y_M_direct b_M_direct 4 (some .int) 1 21 D [(cI, .int), (cZ, .boolean)] [.ref (a 20), .int x1, .int x2, .int x3] (fun q (σ : StM) => (wM cI cZ a q σ)) q σ res :=
  rw_of (by decide) (Nat.le_of_ble_eq_true rfl) (fun p e s m args below meth c ls A C0 hA hP hD hS hl => t_M_direct_0 (a := a) C0 hA h hP hD hS (lv_sub hl [0, 1, 2, 3] rfl))
-- part 07.6M.25M_told.lean.txt
def f_M_told_15 (σ : StM) (x1 t1 : Int32) : Option (Int32 × StM) :=
  (f_M_good σ t1).bind fun r1 =>
  if r1.1 = 0 then
    some (0, r1.2)
  else
    if x1 = 0 then
      some ((M_classes r1.2), r1.2)
    else
      if x1 = 1 then
        some ((M_generics r1.2), r1.2)
      else
        if x1 = 2 then
          some ((M_types r1.2), r1.2)
        else
          some ((M_depth r1.2), r1.2)
def f_M_told_10 (σ : StM) (x1 : Int32) : Option (Int32 × StM) :=
  f_M_told_15 σ x1 1
def f_M_told (σ : StM) (x1 : Int32) : Option (Int32 × StM) :=
  if x1 < 0 then
    f_M_told_10 σ x1
  else
    if x1 ≤ 3 then
      f_M_told_15 σ x1 0
    else
      f_M_told_10 σ x1
set_option maxHeartbeats 4000000 in
set_option maxRecDepth 100000 in
theorem t_M_told_15 {p : Program} {l : Launch} {e : Env} {s : State} {m : MethodId} {args : Array Value} {below : List Frame} {meth : Method} {c : Code} {D : va_G} {cI cZ : ClassId} {a : Nat → Nat} {A : Nat → Prop} (C0 : Am p s m args meth c b_M_told (some .int) 2 R_M D [(cI, .int), (cZ, .boolean)]) (hA : ∀ q, s.heap.size ≤ q → A q) {res : Int32 × StM}   {q : Nat} {σ : StM} {x1 t1 : Int32} (h : f_M_told_15 σ x1 t1 = some res) {H : Heap} {locs : List Loc} (hP : va_P D vwCl (wM cI cZ a q σ) H) (hD : va_D A (wM cI cZ a q σ)) (hS : va_S A s.heap H locs) {ls : Array Slot} (hl : lv_has ls 2 [(0, .ref (a 20)), (1, .int x1)]) : W p l e (rmK 1 21 0 0) s m args below meth c H locs 0 0 (RwQ below args s D A (fun q (σ : StM) => (wM cI cZ a q σ)) res 0 0) (F0 m 15 ls [.int t1, .ref (a 20)]) := by
  obtain ⟨hx, hb, hr, hml, hown, hts, hlk, hK⟩ := id C0
  unfold f_M_told_15 at h
  replace h := bd h
  obtain ⟨r1, g1, h⟩ := h
  refine rw_V (n := 1) (ci := 4) (As := [.int t1]) (rest := []) (Wn := fun _ => (wM cI cZ a q r1.2)) C0 hA (c_M_good l D cI cZ a q σ t1 g1) wd_388 ⟨wd_389, wd_390, wd_391, wd_352⟩ (by decide +kernel) ⟨Nat.le_of_ble_eq_true rfl, Nat.le_of_ble_eq_true rfl⟩ hP hD hS [0, 1, 2, 3, 4, 5, 6, 7, 8, 9, 10, 11, 12, 13, 14, 15, 16, 17, 18, 19, 20, 21, 22, 23] [] [0, 1, 2, 3, 4, 5, 6, 7, 8, 9, 10, 11, 12, 13, 14, 15, 16, 17, 18, 19, 20, 21, 22, 23] jn_M__C (by decide) jn_M__R (by decide) (by decide) (by decide) jn_M__W rfl rfl rfl hl rfl rfl (Nat.le_of_ble_eq_true rfl) ⟨Nat.zero_le _, Nat.zero_le _⟩ d_M_told_15 (fun H locs _ hP hD hS => ?_)
  try dsimp only at h
  refine lv_if_ne (tgt := 23) hx hb d_M_told_18 (by decide) (fun hc => ?_) (fun hc => ?_)
  · rw [if_neg hc] at h
    refine lv_iload_n hx hb d_M_told_23 rfl (lv_at hl 1 rfl) ?_
    refine lv_if_ne (tgt := 34) hx hb d_M_told_24 (by decide) (fun hc => ?_) (fun hc => ?_)
    · rw [if_neg hc] at h
      refine lv_iload_n hx hb d_M_told_34 rfl (lv_at hl 1 rfl) ?_
      refine lv_iconst (v := 1) hx hb d_M_told_35 (by decide) ?_
      refine lv_icmp_ne (tgt := 46) hx hb d_M_told_36 (by decide) (fun hc => ?_) (fun hc => ?_)
      · rw [if_neg hc] at h
        refine lv_iload_n hx hb d_M_told_46 rfl (lv_at hl 1 rfl) ?_
        refine lv_iconst (v := 2) hx hb d_M_told_47 (by decide) ?_
        refine lv_icmp_ne (tgt := 58) hx hb d_M_told_48 (by decide) (fun hc => ?_) (fun hc => ?_)
        · rw [if_neg hc] at h
          refine lv_aload_n hx hb d_M_told_58 rfl (lv_at hl 0 rfl) ?_
          refine va_get (ci := 4) (v := .int (M_depth r1.2)) (C := R_M) (T := F_M) (N := 35) hx hb hts i_M hown hK.1 hP 0 rfl rfl 1 (by decide) (hts _ wd_418) (fun _ h9 => h9) rfl d_M_told_59 ?_
          exact rw_ret C0 hP hD hS (Option.some.inj h) d_M_told_62
        · rw [if_pos hc] at h
          refine lv_aload_n hx hb d_M_told_51 rfl (lv_at hl 0 rfl) ?_
          refine va_get (ci := 4) (v := .int (M_types r1.2)) (C := R_M) (T := F_M) (N := 35) hx hb hts i_M hown hK.1 hP 0 rfl rfl 10 (by decide) (hts _ wd_344) (fun _ h9 => h9) rfl d_M_told_52 ?_
          refine lv_goto (tgt := 62) hx hb d_M_told_55 (by decide) ?_
          exact rw_ret C0 hP hD hS (Option.some.inj h) d_M_told_62
      · rw [if_pos hc] at h
        refine lv_aload_n hx hb d_M_told_39 rfl (lv_at hl 0 rfl) ?_
        refine va_get (ci := 4) (v := .int (M_generics r1.2)) (C := R_M) (T := F_M) (N := 35) hx hb hts i_M hown hK.1 hP 0 rfl rfl 3 (by decide) (hts _ wd_394) (fun _ h9 => h9) rfl d_M_told_40 ?_
        refine lv_goto (tgt := 62) hx hb d_M_told_43 (by decide) ?_
        exact rw_ret C0 hP hD hS (Option.some.inj h) d_M_told_62
    · rw [if_pos hc] at h
      refine lv_aload_n hx hb d_M_told_27 rfl (lv_at hl 0 rfl) ?_
      refine va_get (ci := 4) (v := .int (M_classes r1.2)) (C := R_M) (T := F_M) (N := 35) hx hb hts i_M hown hK.1 hP 0 rfl rfl 2 (by decide) (hts _ wd_343) (fun _ h9 => h9) rfl d_M_told_28 ?_
      refine lv_goto (tgt := 62) hx hb d_M_told_31 (by decide) ?_
      exact rw_ret C0 hP hD hS (Option.some.inj h) d_M_told_62
  · rw [if_pos hc] at h
    refine lv_iconst (v := 0) hx hb d_M_told_21 (by decide) ?_
    exact rw_ret C0 hP hD hS (Option.some.inj h) d_M_told_22
set_option maxHeartbeats 4000000 in
set_option maxRecDepth 100000 in
theorem t_M_told_10 {p : Program} {l : Launch} {e : Env} {s : State} {m : MethodId} {args : Array Value} {below : List Frame} {meth : Method} {c : Code} {D : va_G} {cI cZ : ClassId} {a : Nat → Nat} {A : Nat → Prop} (C0 : Am p s m args meth c b_M_told (some .int) 2 R_M D [(cI, .int), (cZ, .boolean)]) (hA : ∀ q, s.heap.size ≤ q → A q) {res : Int32 × StM}   {q : Nat} {σ : StM} {x1 : Int32} (h : f_M_told_10 σ x1 = some res) {H : Heap} {locs : List Loc} (hP : va_P D vwCl (wM cI cZ a q σ) H) (hD : va_D A (wM cI cZ a q σ)) (hS : va_S A s.heap H locs) {ls : Array Slot} (hl : lv_has ls 2 [(0, .ref (a 20)), (1, .int x1)]) : W p l e (rmK 1 21 0 0) s m args below meth c H locs 0 0 (RwQ below args s D A (fun q (σ : StM) => (wM cI cZ a q σ)) res 0 0) (F0 m 10 ls [.ref (a 20)]) := by
  obtain ⟨hx, hb, hr, hml, hown, hts, hlk, hK⟩ := id C0
  unfold f_M_told_10 at h
  refine lv_iconst (v := 1) hx hb d_M_told_10 (by decide) ?_
  refine lv_goto (tgt := 15) hx hb d_M_told_11 (by decide) ?_
  exact t_M_told_15 (a := a) C0 hA  h hP hD hS (lv_sub hl [0, 1] rfl)
set_option maxHeartbeats 4000000 in
set_option maxRecDepth 100000 in
theorem t_M_told_0 {p : Program} {l : Launch} {e : Env} {s : State} {m : MethodId} {args : Array Value} {below : List Frame} {meth : Method} {c : Code} {D : va_G} {cI cZ : ClassId} {a : Nat → Nat} {A : Nat → Prop} (C0 : Am p s m args meth c b_M_told (some .int) 2 R_M D [(cI, .int), (cZ, .boolean)]) (hA : ∀ q, s.heap.size ≤ q → A q) {res : Int32 × StM}   {q : Nat} {σ : StM} {x1 : Int32} (h : f_M_told σ x1 = some res) {H : Heap} {locs : List Loc} (hP : va_P D vwCl (wM cI cZ a q σ) H) (hD : va_D A (wM cI cZ a q σ)) (hS : va_S A s.heap H locs) {ls : Array Slot} (hl : lv_has ls 2 [(0, .ref (a 20)), (1, .int x1)]) : W p l e (rmK 1 21 0 0) s m args below meth c H locs 0 0 (RwQ below args s D A (fun q (σ : StM) => (wM cI cZ a q σ)) res 0 0) (F0 m 0 ls []) := by
  obtain ⟨hx, hb, hr, hml, hown, hts, hlk, hK⟩ := id C0
  unfold f_M_told at h
  refine lv_aload_n hx hb d_M_told_0 rfl (lv_at hl 0 rfl) ?_
  refine lv_iload_n hx hb d_M_told_1 rfl (lv_at hl 1 rfl) ?_
  refine lv_if_lt (tgt := 10) hx hb d_M_told_2 (by decide) (fun hc => ?_) (fun hc => ?_)
  · rw [if_pos hc] at h
    exact t_M_told_10 (a := a) C0 hA  h hP hD hS (lv_sub hl [0, 1] rfl)
  · rw [if_neg hc] at h
    refine lv_iload_n hx hb d_M_told_5 rfl (lv_at hl 1 rfl) ?_
    refine lv_iconst (v := 3) hx hb d_M_told_6 (by decide) ?_
    refine lv_icmp_le (tgt := 14) hx hb d_M_told_7 (by decide) (fun hc => ?_) (fun hc => ?_)
    · rw [if_pos hc] at h
      refine lv_iconst (v := 0) hx hb d_M_told_14 (by decide) ?_
      exact t_M_told_15 (a := a) C0 hA  h hP hD hS (lv_sub hl [0, 1] rfl)
    · rw [if_neg hc] at h
      exact t_M_told_10 (a := a) C0 hA  h hP hD hS (lv_sub hl [0, 1] rfl)
set_option maxHeartbeats 4000000 in
set_option maxRecDepth 100000 in
theorem c_M_told (l : Launch) (D : va_G) (cI cZ : ClassId) (a : Nat → Nat) (q : Nat) (σ : StM) (x1 : Int32) {res : Int32 × StM} (h : f_M_told σ x1 = some res) : RwM l y_M_told b_M_told 2 (some .int) 1 21 D [(cI, .int), (cZ, .boolean)] [.ref (a 20), .int x1] (fun q (σ : StM) => (wM cI cZ a q σ)) q σ res :=
  rw_of (by decide) (Nat.le_of_ble_eq_true rfl) (fun p e s m args below meth c ls A C0 hA hP hD hS hl => t_M_told_0 (a := a) C0 hA h hP hD hS (lv_sub hl [0, 1] rfl))
-- part 07.6M.26M_end.lean.txt
def f_M_end (σ : StM) (x1 x2 x3 : Int32) : Option (Int32 × StM) :=
  if (M_full σ) = 0 then
    some (x2, σ)
  else
    some (0, (M_set_code (M_set_full (M_set_types σ x1) 0) x3))
set_option maxHeartbeats 4000000 in
set_option maxRecDepth 100000 in
theorem t_M_end_0 {p : Program} {l : Launch} {e : Env} {s : State} {m : MethodId} {args : Array Value} {below : List Frame} {meth : Method} {c : Code} {D : va_G} {cI cZ : ClassId} {a : Nat → Nat} {A : Nat → Prop} (C0 : Am p s m args meth c b_M_end (some .int) 4 R_M D [(cI, .int), (cZ, .boolean)]) (hA : ∀ q, s.heap.size ≤ q → A q) {res : Int32 × StM}   {q : Nat} {σ : StM} {x1 x2 x3 : Int32} (h : f_M_end σ x1 x2 x3 = some res) {H : Heap} {locs : List Loc} (hP : va_P D vwCl (wM cI cZ a q σ) H) (hD : va_D A (wM cI cZ a q σ)) (hS : va_S A s.heap H locs) {ls : Array Slot} (hl : lv_has ls 4 [(0, .ref (a 20)), (1, .int x1), (2, .int x2), (3, .int x3)]) : W p l e (rmK 0 0 0 0) s m args below meth c H locs 0 0 (RwQ below args s D A (fun q (σ : StM) => (wM cI cZ a q σ)) res 0 0) (F0 m 0 ls []) := by
  obtain ⟨hx, hb, hr, hml, hown, hts, hlk, hK⟩ := id C0
  unfold f_M_end at h
  refine lv_aload_n hx hb d_M_end_0 rfl (lv_at hl 0 rfl) ?_
  refine va_get (ci := 4) (v := .int (M_full σ)) (C := R_M) (T := F_M) (N := 35) hx hb hts i_M hown hK.1 hP 0 rfl rfl 18 (by decide) (hts _ wd_364) (fun _ h9 => h9) rfl d_M_end_1 ?_
  refine lv_if_eq (tgt := 24) hx hb d_M_end_4 (by decide) (fun hc => ?_) (fun hc => ?_)
  · rw [if_pos hc] at h
    refine lv_iload_n hx hb d_M_end_24 rfl (lv_at hl 2 rfl) ?_
    exact rw_ret C0 hP hD hS (Option.some.inj h) d_M_end_25
  · rw [if_neg hc] at h
    refine lv_aload_n hx hb d_M_end_7 rfl (lv_at hl 0 rfl) ?_
    refine lv_iload_n hx hb d_M_end_8 rfl (lv_at hl 1 rfl) ?_
    refine rw_put (v := .int x1) (fty := .int) (C := R_M) (T := F_M) (N := 35) C0 hP hD hS i_M ty_M tyok_M nn_M 0 rfl rfl 10 (by decide) (hts _ wd_344) rfl rfl (by decide +kernel) rfl rfl (Nat.le_of_ble_eq_true rfl) d_M_end_9 (Wn := (wM cI cZ a q (M_set_types σ x1))) ws_M_set_types (fun H locs hP hD hS => ?_)
    refine lv_aload_n hx hb d_M_end_12 rfl (lv_at hl 0 rfl) ?_
    refine lv_iconst (v := 0) hx hb d_M_end_13 (by decide) ?_
    refine rw_put (v := .int 0) (fty := .boolean) (C := R_M) (T := F_M) (N := 35) C0 hP hD hS i_M ty_M tyok_M nn_M 0 rfl rfl 18 (by decide) (hts _ wd_364) rfl rfl (by decide +kernel) rfl rfl (Nat.le_of_ble_eq_true rfl) d_M_end_14 (Wn := (wM cI cZ a q (M_set_full (M_set_types σ x1) 0))) ws_M_set_full (fun H locs hP hD hS => ?_)
    refine lv_aload_n hx hb d_M_end_17 rfl (lv_at hl 0 rfl) ?_
    refine lv_iload_n hx hb d_M_end_18 rfl (lv_at hl 3 rfl) ?_
    refine rw_put (v := .int x3) (fty := .int) (C := R_M) (T := F_M) (N := 35) C0 hP hD hS i_M ty_M tyok_M nn_M 0 rfl rfl 0 (by decide) (hts _ wd_342) rfl rfl (by decide +kernel) rfl rfl (Nat.le_of_ble_eq_true rfl) d_M_end_19 (Wn := (wM cI cZ a q (M_set_code (M_set_full (M_set_types σ x1) 0) x3))) ws_M_set_code (fun H locs hP hD hS => ?_)
    refine lv_iconst (v := 0) hx hb d_M_end_22 (by decide) ?_
    exact rw_ret C0 hP hD hS (Option.some.inj h) d_M_end_23
set_option maxHeartbeats 4000000 in
set_option maxRecDepth 100000 in
theorem c_M_end (l : Launch) (D : va_G) (cI cZ : ClassId) (a : Nat → Nat) (q : Nat) (σ : StM) (x1 : Int32) (x2 : Int32) (x3 : Int32) {res : Int32 × StM} (h : f_M_end σ x1 x2 x3 = some res) : RwM l y_M_end b_M_end 4 (some .int) 0 0 D [(cI, .int), (cZ, .boolean)] [.ref (a 20), .int x1, .int x2, .int x3] (fun q (σ : StM) => (wM cI cZ a q σ)) q σ res :=
  rw_of (by decide) (Nat.le_of_ble_eq_true rfl) (fun p e s m args below meth c ls A C0 hA hP hD hS hl => t_M_end_0 (a := a) C0 hA h hP hD hS (lv_sub hl [0, 1, 2, 3] rfl))
-- part 07.6M.27M_named.lean.txt
def f_M_named_112 (σ : StM) (t1 t3 t4 t5 : Int32) : Option (Int32 × StM) :=
  (f_M_addNamed σ t3 t4 t5).bind fun r2 =>
  (f_M_end r2.2 t1 r2.1 3).bind fun r3 =>
  some (r3.1, r3.2)
def f_M_named_78 (σ : StM) (x1 x2 x3 t0 : Int32) : Option (Int32 × StM) :=
  (f_M_good σ t0).bind fun r1 =>
  if r1.1 = 0 then
    some (0, r1.2)
  else
    if x2 = 0 then
      f_M_named_112 r1.2 (M_types r1.2) x1 x2 (-1)
    else
      f_M_named_112 r1.2 (M_types r1.2) x1 x2 x3
def f_M_named_73 (σ : StM) (x1 x2 x3 : Int32) : Option (Int32 × StM) :=
  f_M_named_78 σ x1 x2 x3 2
def f_M_named_77 (σ : StM) (x1 x2 x3 : Int32) : Option (Int32 × StM) :=
  f_M_named_78 σ x1 x2 x3 0
def f_M_named_60 (σ : StM) (x1 x2 x3 t0 t1 : Int32) : Option (Int32 × StM) :=
  if t0 = t1 then
    f_M_named_73 σ x1 x2 x3
  else
    if x2 ≤ 0 then
      f_M_named_77 σ x1 x2 x3
    else
      if 8 ≤ x3 then
        f_M_named_77 σ x1 x2 x3
      else
        f_M_named_73 σ x1 x2 x3
def f_M_named_25 (σ : StM) (x1 x2 x3 t0 : Int32) : Option (Int32 × StM) :=
  if t0 = 0 then
    f_M_named_78 σ x1 x2 x3 1
  else
    if x2 < 0 then
      f_M_named_73 σ x1 x2 x3
    else
      if 2 < x2 then
        f_M_named_73 σ x1 x2 x3
      else
        if x1 < 0 ∨ 30 ≤ x1.toNatClampNeg then none else
        if x2 = 0 then
          f_M_named_60 σ x1 x2 x3 ((M_generic σ) x1.toNatClampNeg) 1
        else
          f_M_named_60 σ x1 x2 x3 ((M_generic σ) x1.toNatClampNeg) 0
def f_M_named_24 (σ : StM) (x1 x2 x3 : Int32) : Option (Int32 × StM) :=
  f_M_named_25 σ x1 x2 x3 0
def f_M_named_20 (σ : StM) (x1 x2 x3 : Int32) : Option (Int32 × StM) :=
  f_M_named_25 σ x1 x2 x3 1
def f_M_named (σ : StM) (x1 x2 x3 : Int32) : Option (Int32 × StM) :=
  if (f_M_isClass σ x1) = 0 then
    f_M_named_24 σ x1 x2 x3
  else
    if x2 = 0 then
      f_M_named_20 σ x1 x2 x3
    else
      if (f_M_isType σ x3) = 0 then
        f_M_named_24 σ x1 x2 x3
      else
        f_M_named_20 σ x1 x2 x3
set_option maxHeartbeats 4000000 in
set_option maxRecDepth 100000 in
theorem t_M_named_112 {p : Program} {l : Launch} {e : Env} {s : State} {m : MethodId} {args : Array Value} {below : List Frame} {meth : Method} {c : Code} {D : va_G} {cI cZ : ClassId} {a : Nat → Nat} {A : Nat → Prop} (C0 : Am p s m args meth c b_M_named (some .int) 7 R_M D [(cI, .int), (cZ, .boolean)]) (hA : ∀ q, s.heap.size ≤ q → A q) {res : Int32 × StM}   {q : Nat} {σ : StM} {t1 t3 t4 t5 : Int32} (h : f_M_named_112 σ t1 t3 t4 t5 = some res) {H : Heap} {locs : List Loc} (hP : va_P D vwCl (wM cI cZ a q σ) H) (hD : va_D A (wM cI cZ a q σ)) (hS : va_S A s.heap H locs) {ls : Array Slot} (hl : lv_has ls 7 []) : W p l e (rmK 2 48 0 0) s m args below meth c H locs 0 0 (RwQ below args s D A (fun q (σ : StM) => (wM cI cZ a q σ)) res 0 0) (F0 m 112 ls [.int t5, .int t4, .int t3, .ref (a 20), .int t1, .ref (a 20)]) := by
  obtain ⟨hx, hb, hr, hml, hown, hts, hlk, hK⟩ := id C0
  unfold f_M_named_112 at h
  replace h := bd h
  obtain ⟨r2, g2, h⟩ := h
  refine rw_V (n := 3) (ci := 4) (As := [.int t3, .int t4, .int t5]) (rest := [.int t1, .ref (a 20)]) (Wn := fun _ => (wM cI cZ a q r2.2)) C0 hA (c_M_addNamed l D cI cZ a q σ t3 t4 t5 g2) wd_419 ⟨wd_420, wd_421, wd_422, wd_352⟩ (by decide +kernel) ⟨Nat.le_of_ble_eq_true rfl, Nat.le_of_ble_eq_true rfl⟩ hP hD hS [0, 1, 2, 3, 4, 5, 6, 7, 8, 9, 10, 11, 12, 13, 14, 15, 16, 17, 18, 19, 20, 21, 22, 23] [] [0, 1, 2, 3, 4, 5, 6, 7, 8, 9, 10, 11, 12, 13, 14, 15, 16, 17, 18, 19, 20, 21, 22, 23] jn_M__C (by decide) jn_M__R (by decide) (by decide) (by decide) jn_M__W rfl rfl rfl hl rfl rfl (Nat.le_of_ble_eq_true rfl) ⟨Nat.zero_le _, Nat.zero_le _⟩ d_M_named_112 (fun H locs _ hP hD hS => ?_)
  try dsimp only at h
  refine lv_iconst (v := 3) hx hb d_M_named_115 (by decide) ?_
  replace h := bd h
  obtain ⟨r3, g3, h⟩ := h
  refine rw_V (n := 3) (ci := 4) (As := [.int t1, .int r2.1, .int 3]) (rest := []) (Wn := fun _ => (wM cI cZ a q r3.2)) C0 hA (c_M_end l D cI cZ a q r2.2 t1 r2.1 3 g3) wd_423 ⟨wd_424, wd_425, wd_426, wd_352⟩ (by decide +kernel) ⟨Nat.le_of_ble_eq_true rfl, Nat.le_of_ble_eq_true rfl⟩ hP hD hS [0, 1, 2, 3, 4, 5, 6, 7, 8, 9, 10, 11, 12, 13, 14, 15, 16, 17, 18, 19, 20, 21, 22, 23] [] [0, 1, 2, 3, 4, 5, 6, 7, 8, 9, 10, 11, 12, 13, 14, 15, 16, 17, 18, 19, 20, 21, 22, 23] jn_M__C (by decide) jn_M__R (by decide) (by decide) (by decide) jn_M__W rfl rfl rfl hl rfl rfl (Nat.le_of_ble_eq_true rfl) ⟨Nat.zero_le _, Nat.zero_le _⟩ d_M_named_116 (fun H locs _ hP hD hS => ?_)
  try dsimp only at h
  exact rw_ret C0 hP hD hS (Option.some.inj h) d_M_named_119
set_option maxHeartbeats 4000000 in
set_option maxRecDepth 100000 in
theorem t_M_named_78 {p : Program} {l : Launch} {e : Env} {s : State} {m : MethodId} {args : Array Value} {below : List Frame} {meth : Method} {c : Code} {D : va_G} {cI cZ : ClassId} {a : Nat → Nat} {A : Nat → Prop} (C0 : Am p s m args meth c b_M_named (some .int) 7 R_M D [(cI, .int), (cZ, .boolean)]) (hA : ∀ q, s.heap.size ≤ q → A q) {res : Int32 × StM}   {q : Nat} {σ : StM} {x1 x2 x3 t0 : Int32} (h : f_M_named_78 σ x1 x2 x3 t0 = some res) {H : Heap} {locs : List Loc} (hP : va_P D vwCl (wM cI cZ a q σ) H) (hD : va_D A (wM cI cZ a q σ)) (hS : va_S A s.heap H locs) {ls : Array Slot} (hl : lv_has ls 7 [(0, .ref (a 20)), (1, .int x1), (2, .int x2), (3, .int x3)]) : W p l e (rmK 2 48 0 0) s m args below meth c H locs 0 0 (RwQ below args s D A (fun q (σ : StM) => (wM cI cZ a q σ)) res 0 0) (F0 m 78 ls [.int t0]) := by
  obtain ⟨hx, hb, hr, hml, hown, hts, hlk, hK⟩ := id C0
  unfold f_M_named_78 at h
  refine lv_istore (lv' := [(5, .int t0), (0, .ref (a 20)), (1, .int x1), (2, .int x2), (3, .int x3)]) hx hb d_M_named_78 hl (by decide) rfl (fun ls hl => ?_)
  refine lv_aload_n hx hb d_M_named_80 rfl (lv_at hl 1 rfl) ?_
  refine lv_iload hx hb d_M_named_81 (lv_at hl 0 rfl) ?_
  replace h := bd h
  obtain ⟨r1, g1, h⟩ := h
  refine rw_V (n := 1) (ci := 4) (As := [.int t0]) (rest := []) (Wn := fun _ => (wM cI cZ a q r1.2)) C0 hA (c_M_good l D cI cZ a q σ t0 g1) wd_388 ⟨wd_389, wd_390, wd_391, wd_352⟩ (by decide +kernel) ⟨Nat.le_of_ble_eq_true rfl, Nat.le_of_ble_eq_true rfl⟩ hP hD hS [0, 1, 2, 3, 4, 5, 6, 7, 8, 9, 10, 11, 12, 13, 14, 15, 16, 17, 18, 19, 20, 21, 22, 23] [] [0, 1, 2, 3, 4, 5, 6, 7, 8, 9, 10, 11, 12, 13, 14, 15, 16, 17, 18, 19, 20, 21, 22, 23] jn_M__C (by decide) jn_M__R (by decide) (by decide) (by decide) jn_M__W rfl rfl rfl hl rfl rfl (Nat.le_of_ble_eq_true rfl) ⟨Nat.zero_le _, Nat.zero_le _⟩ d_M_named_83 (fun H locs _ hP hD hS => ?_)
  try dsimp only at h
  refine lv_if_ne (tgt := 91) hx hb d_M_named_86 (by decide) (fun hc => ?_) (fun hc => ?_)
  · rw [if_neg hc] at h
    refine lv_aload_n hx hb d_M_named_91 rfl (lv_at hl 1 rfl) ?_
    refine va_get (ci := 4) (v := .int (M_types r1.2)) (C := R_M) (T := F_M) (N := 35) hx hb hts i_M hown hK.1 hP 0 rfl rfl 10 (by decide) (hts _ wd_344) (fun _ h9 => h9) rfl d_M_named_92 ?_
    refine lv_istore (lv' := [(6, .int (M_types r1.2)), (5, .int t0), (0, .ref (a 20)), (1, .int x1), (2, .int x2), (3, .int x3)]) hx hb d_M_named_95 hl (by decide) rfl (fun ls hl => ?_)
    refine lv_aload_n hx hb d_M_named_97 rfl (lv_at hl 2 rfl) ?_
    refine lv_iload hx hb d_M_named_98 (lv_at hl 0 rfl) ?_
    refine lv_aload_n hx hb d_M_named_100 rfl (lv_at hl 2 rfl) ?_
    refine lv_iload_n hx hb d_M_named_101 rfl (lv_at hl 3 rfl) ?_
    refine lv_iload_n hx hb d_M_named_102 rfl (lv_at hl 4 rfl) ?_
    refine lv_iload_n hx hb d_M_named_103 rfl (lv_at hl 4 rfl) ?_
    refine lv_if_ne (tgt := 111) hx hb d_M_named_104 (by decide) (fun hc => ?_) (fun hc => ?_)
    · rw [if_neg hc] at h
      refine lv_iload_n hx hb d_M_named_111 rfl (lv_at hl 5 rfl) ?_
      exact t_M_named_112 (a := a) C0 hA  h hP hD hS (lv_sub hl [] rfl)
    · rw [if_pos hc] at h
      refine lv_iconst (v := (-1)) hx hb d_M_named_107 (by decide) ?_
      refine lv_goto (tgt := 112) hx hb d_M_named_108 (by decide) ?_
      exact t_M_named_112 (a := a) C0 hA  h hP hD hS (lv_sub hl [] rfl)
  · rw [if_pos hc] at h
    refine lv_iconst (v := 0) hx hb d_M_named_89 (by decide) ?_
    exact rw_ret C0 hP hD hS (Option.some.inj h) d_M_named_90
set_option maxHeartbeats 4000000 in
set_option maxRecDepth 100000 in
theorem t_M_named_73 {p : Program} {l : Launch} {e : Env} {s : State} {m : MethodId} {args : Array Value} {below : List Frame} {meth : Method} {c : Code} {D : va_G} {cI cZ : ClassId} {a : Nat → Nat} {A : Nat → Prop} (C0 : Am p s m args meth c b_M_named (some .int) 7 R_M D [(cI, .int), (cZ, .boolean)]) (hA : ∀ q, s.heap.size ≤ q → A q) {res : Int32 × StM}   {q : Nat} {σ : StM} {x1 x2 x3 : Int32} (h : f_M_named_73 σ x1 x2 x3 = some res) {H : Heap} {locs : List Loc} (hP : va_P D vwCl (wM cI cZ a q σ) H) (hD : va_D A (wM cI cZ a q σ)) (hS : va_S A s.heap H locs) {ls : Array Slot} (hl : lv_has ls 7 [(0, .ref (a 20)), (1, .int x1), (2, .int x2), (3, .int x3)]) : W p l e (rmK 2 48 0 0) s m args below meth c H locs 0 0 (RwQ below args s D A (fun q (σ : StM) => (wM cI cZ a q σ)) res 0 0) (F0 m 73 ls []) := by
  obtain ⟨hx, hb, hr, hml, hown, hts, hlk, hK⟩ := id C0
  unfold f_M_named_73 at h
  refine lv_iconst (v := 2) hx hb d_M_named_73 (by decide) ?_
  refine lv_goto (tgt := 78) hx hb d_M_named_74 (by decide) ?_
  exact t_M_named_78 (a := a) C0 hA  h hP hD hS (lv_sub hl [0, 1, 2, 3] rfl)
set_option maxHeartbeats 4000000 in
set_option maxRecDepth 100000 in
theorem t_M_named_77 {p : Program} {l : Launch} {e : Env} {s : State} {m : MethodId} {args : Array Value} {below : List Frame} {meth : Method} {c : Code} {D : va_G} {cI cZ : ClassId} {a : Nat → Nat} {A : Nat → Prop} (C0 : Am p s m args meth c b_M_named (some .int) 7 R_M D [(cI, .int), (cZ, .boolean)]) (hA : ∀ q, s.heap.size ≤ q → A q) {res : Int32 × StM}   {q : Nat} {σ : StM} {x1 x2 x3 : Int32} (h : f_M_named_77 σ x1 x2 x3 = some res) {H : Heap} {locs : List Loc} (hP : va_P D vwCl (wM cI cZ a q σ) H) (hD : va_D A (wM cI cZ a q σ)) (hS : va_S A s.heap H locs) {ls : Array Slot} (hl : lv_has ls 7 [(0, .ref (a 20)), (1, .int x1), (2, .int x2), (3, .int x3)]) : W p l e (rmK 2 48 0 0) s m args below meth c H locs 0 0 (RwQ below args s D A (fun q (σ : StM) => (wM cI cZ a q σ)) res 0 0) (F0 m 77 ls []) := by
  obtain ⟨hx, hb, hr, hml, hown, hts, hlk, hK⟩ := id C0
  unfold f_M_named_77 at h
  refine lv_iconst (v := 0) hx hb d_M_named_77 (by decide) ?_
  exact t_M_named_78 (a := a) C0 hA  h hP hD hS (lv_sub hl [0, 1, 2, 3] rfl)
set_option maxHeartbeats 4000000 in
set_option maxRecDepth 100000 in
theorem t_M_named_60 {p : Program} {l : Launch} {e : Env} {s : State} {m : MethodId} {args : Array Value} {below : List Frame} {meth : Method} {c : Code} {D : va_G} {cI cZ : ClassId} {a : Nat → Nat} {A : Nat → Prop} (C0 : Am p s m args meth c b_M_named (some .int) 7 R_M D [(cI, .int), (cZ, .boolean)]) (hA : ∀ q, s.heap.size ≤ q → A q) {res : Int32 × StM}   {q : Nat} {σ : StM} {x1 x2 x3 t0 t1 : Int32} (h : f_M_named_60 σ x1 x2 x3 t0 t1 = some res) {H : Heap} {locs : List Loc} (hP : va_P D vwCl (wM cI cZ a q σ) H) (hD : va_D A (wM cI cZ a q σ)) (hS : va_S A s.heap H locs) {ls : Array Slot} (hl : lv_has ls 7 [(0, .ref (a 20)), (1, .int x1), (2, .int x2), (3, .int x3)]) : W p l e (rmK 2 48 0 0) s m args below meth c H locs 0 0 (RwQ below args s D A (fun q (σ : StM) => (wM cI cZ a q σ)) res 0 0) (F0 m 60 ls [.int t1, .int t0]) := by
  obtain ⟨hx, hb, hr, hml, hown, hts, hlk, hK⟩ := id C0
  unfold f_M_named_60 at h
  refine lv_icmp_eq (tgt := 73) hx hb d_M_named_60 (by decide) (fun hc => ?_) (fun hc => ?_)
  · rw [if_pos hc] at h
    exact t_M_named_73 (a := a) C0 hA  h hP hD hS (lv_sub hl [0, 1, 2, 3] rfl)
  · rw [if_neg hc] at h
    refine lv_iload_n hx hb d_M_named_63 rfl (lv_at hl 2 rfl) ?_
    refine lv_if_le (tgt := 77) hx hb d_M_named_64 (by decide) (fun hc => ?_) (fun hc => ?_)
    · rw [if_pos hc] at h
      exact t_M_named_77 (a := a) C0 hA  h hP hD hS (lv_sub hl [0, 1, 2, 3] rfl)
    · rw [if_neg hc] at h
      refine lv_iload_n hx hb d_M_named_67 rfl (lv_at hl 3 rfl) ?_
      refine lv_bipush (v := 8) hx hb d_M_named_68 (by decide) ?_
      refine lv_icmp_ge (tgt := 77) hx hb d_M_named_70 (by decide) (fun hc => ?_) (fun hc => ?_)
      · rw [if_pos hc] at h
        exact t_M_named_77 (a := a) C0 hA  h hP hD hS (lv_sub hl [0, 1, 2, 3] rfl)
      · rw [if_neg hc] at h
        exact t_M_named_73 (a := a) C0 hA  h hP hD hS (lv_sub hl [0, 1, 2, 3] rfl)
set_option maxHeartbeats 4000000 in
set_option maxRecDepth 100000 in
theorem t_M_named_25 {p : Program} {l : Launch} {e : Env} {s : State} {m : MethodId} {args : Array Value} {below : List Frame} {meth : Method} {c : Code} {D : va_G} {cI cZ : ClassId} {a : Nat → Nat} {A : Nat → Prop} (C0 : Am p s m args meth c b_M_named (some .int) 7 R_M D [(cI, .int), (cZ, .boolean)]) (hA : ∀ q, s.heap.size ≤ q → A q) {res : Int32 × StM}   {q : Nat} {σ : StM} {x1 x2 x3 t0 : Int32} (h : f_M_named_25 σ x1 x2 x3 t0 = some res) {H : Heap} {locs : List Loc} (hP : va_P D vwCl (wM cI cZ a q σ) H) (hD : va_D A (wM cI cZ a q σ)) (hS : va_S A s.heap H locs) {ls : Array Slot} (hl : lv_has ls 7 [(0, .ref (a 20)), (1, .int x1), (2, .int x2), (3, .int x3)]) : W p l e (rmK 2 48 0 0) s m args below meth c H locs 0 0 (RwQ below args s D A (fun q (σ : StM) => (wM cI cZ a q σ)) res 0 0) (F0 m 25 ls [.int t0]) := by
  obtain ⟨hx, hb, hr, hml, hown, hts, hlk, hK⟩ := id C0
  unfold f_M_named_25 at h
  refine lv_istore (lv' := [(4, .int t0), (0, .ref (a 20)), (1, .int x1), (2, .int x2), (3, .int x3)]) hx hb d_M_named_25 hl (by decide) rfl (fun ls hl => ?_)
  refine lv_iload hx hb d_M_named_27 (lv_at hl 0 rfl) ?_
  refine lv_if_ne (tgt := 36) hx hb d_M_named_29 (by decide) (fun hc => ?_) (fun hc => ?_)
  · rw [if_neg hc] at h
    refine lv_iload_n hx hb d_M_named_36 rfl (lv_at hl 3 rfl) ?_
    refine lv_if_lt (tgt := 73) hx hb d_M_named_37 (by decide) (fun hc => ?_) (fun hc => ?_)
    · rw [if_pos hc] at h
      exact t_M_named_73 (a := a) C0 hA  h hP hD hS (lv_sub hl [1, 2, 3, 4] rfl)
    · rw [if_neg hc] at h
      refine lv_iload_n hx hb d_M_named_40 rfl (lv_at hl 3 rfl) ?_
      refine lv_iconst (v := 2) hx hb d_M_named_41 (by decide) ?_
      refine lv_icmp_gt (tgt := 73) hx hb d_M_named_42 (by decide) (fun hc => ?_) (fun hc => ?_)
      · rw [if_pos hc] at h
        exact t_M_named_73 (a := a) C0 hA  h hP hD hS (lv_sub hl [1, 2, 3, 4] rfl)
      · rw [if_neg hc] at h
        refine lv_aload_n hx hb d_M_named_45 rfl (lv_at hl 1 rfl) ?_
        refine va_get (ci := 4) (v := .ref (a 22)) (C := R_M) (T := F_M) (N := 35) hx hb hts i_M hown hK.1 hP 0 rfl rfl 5 (by decide) (hts _ wd_393) (fun _ h9 => h9) rfl d_M_named_46 ?_
        refine lv_iload_n hx hb d_M_named_49 rfl (lv_at hl 2 rfl) ?_
        replace h := gd h
        obtain ⟨hi, h⟩ := h
        refine va_zald hx hb hK.1 hP 2 1 rfl rfl hi d_M_named_50 ?_
        refine lv_iload_n hx hb d_M_named_51 rfl (lv_at hl 3 rfl) ?_
        refine lv_if_ne (tgt := 59) hx hb d_M_named_52 (by decide) (fun hc => ?_) (fun hc => ?_)
        · rw [if_neg hc] at h
          refine lv_iconst (v := 0) hx hb d_M_named_59 (by decide) ?_
          exact t_M_named_60 (a := a) C0 hA  h hP hD hS (lv_sub hl [1, 2, 3, 4] rfl)
        · rw [if_pos hc] at h
          refine lv_iconst (v := 1) hx hb d_M_named_55 (by decide) ?_
          refine lv_goto (tgt := 60) hx hb d_M_named_56 (by decide) ?_
          exact t_M_named_60 (a := a) C0 hA  h hP hD hS (lv_sub hl [1, 2, 3, 4] rfl)
  · rw [if_pos hc] at h
    refine lv_iconst (v := 1) hx hb d_M_named_32 (by decide) ?_
    refine lv_goto (tgt := 78) hx hb d_M_named_33 (by decide) ?_
    exact t_M_named_78 (a := a) C0 hA  h hP hD hS (lv_sub hl [1, 2, 3, 4] rfl)
set_option maxHeartbeats 4000000 in
set_option maxRecDepth 100000 in
theorem t_M_named_24 {p : Program} {l : Launch} {e : Env} {s : State} {m : MethodId} {args : Array Value} {below : List Frame} {meth : Method} {c : Code} {D : va_G} {cI cZ : ClassId} {a : Nat → Nat} {A : Nat → Prop} (C0 : Am p s m args meth c b_M_named (some .int) 7 R_M D [(cI, .int), (cZ, .boolean)]) (hA : ∀ q, s.heap.size ≤ q → A q) {res : Int32 × StM}   {q : Nat} {σ : StM} {x1 x2 x3 : Int32} (h : f_M_named_24 σ x1 x2 x3 = some res) {H : Heap} {locs : List Loc} (hP : va_P D vwCl (wM cI cZ a q σ) H) (hD : va_D A (wM cI cZ a q σ)) (hS : va_S A s.heap H locs) {ls : Array Slot} (hl : lv_has ls 7 [(0, .ref (a 20)), (1, .int x1), (2, .int x2), (3, .int x3)]) : W p l e (rmK 2 48 0 0) s m args below meth c H locs 0 0 (RwQ below args s D A (fun q (σ : StM) => (wM cI cZ a q σ)) res 0 0) (F0 m 24 ls []) := by
  obtain ⟨hx, hb, hr, hml, hown, hts, hlk, hK⟩ := id C0
  unfold f_M_named_24 at h
  refine lv_iconst (v := 0) hx hb d_M_named_24 (by decide) ?_
  exact t_M_named_25 (a := a) C0 hA  h hP hD hS (lv_sub hl [0, 1, 2, 3] rfl)
set_option maxHeartbeats 4000000 in
set_option maxRecDepth 100000 in
theorem t_M_named_20 {p : Program} {l : Launch} {e : Env} {s : State} {m : MethodId} {args : Array Value} {below : List Frame} {meth : Method} {c : Code} {D : va_G} {cI cZ : ClassId} {a : Nat → Nat} {A : Nat → Prop} (C0 : Am p s m args meth c b_M_named (some .int) 7 R_M D [(cI, .int), (cZ, .boolean)]) (hA : ∀ q, s.heap.size ≤ q → A q) {res : Int32 × StM}   {q : Nat} {σ : StM} {x1 x2 x3 : Int32} (h : f_M_named_20 σ x1 x2 x3 = some res) {H : Heap} {locs : List Loc} (hP : va_P D vwCl (wM cI cZ a q σ) H) (hD : va_D A (wM cI cZ a q σ)) (hS : va_S A s.heap H locs) {ls : Array Slot} (hl : lv_has ls 7 [(0, .ref (a 20)), (1, .int x1), (2, .int x2), (3, .int x3)]) : W p l e (rmK 2 48 0 0) s m args below meth c H locs 0 0 (RwQ below args s D A (fun q (σ : StM) => (wM cI cZ a q σ)) res 0 0) (F0 m 20 ls []) := by
  obtain ⟨hx, hb, hr, hml, hown, hts, hlk, hK⟩ := id C0
  unfold f_M_named_20 at h
  refine lv_iconst (v := 1) hx hb d_M_named_20 (by decide) ?_
  refine lv_goto (tgt := 25) hx hb d_M_named_21 (by decide) ?_
  exact t_M_named_25 (a := a) C0 hA  h hP hD hS (lv_sub hl [0, 1, 2, 3] rfl)
set_option maxHeartbeats 4000000 in
set_option maxRecDepth 100000 in
theorem t_M_named_0 {p : Program} {l : Launch} {e : Env} {s : State} {m : MethodId} {args : Array Value} {below : List Frame} {meth : Method} {c : Code} {D : va_G} {cI cZ : ClassId} {a : Nat → Nat} {A : Nat → Prop} (C0 : Am p s m args meth c b_M_named (some .int) 7 R_M D [(cI, .int), (cZ, .boolean)]) (hA : ∀ q, s.heap.size ≤ q → A q) {res : Int32 × StM}   {q : Nat} {σ : StM} {x1 x2 x3 : Int32} (h : f_M_named σ x1 x2 x3 = some res) {H : Heap} {locs : List Loc} (hP : va_P D vwCl (wM cI cZ a q σ) H) (hD : va_D A (wM cI cZ a q σ)) (hS : va_S A s.heap H locs) {ls : Array Slot} (hl : lv_has ls 7 [(0, .ref (a 20)), (1, .int x1), (2, .int x2), (3, .int x3)]) : W p l e (rmK 2 48 0 0) s m args below meth c H locs 0 0 (RwQ below args s D A (fun q (σ : StM) => (wM cI cZ a q σ)) res 0 0) (F0 m 0 ls []) := by
  obtain ⟨hx, hb, hr, hml, hown, hts, hlk, hK⟩ := id C0
  unfold f_M_named at h
  refine lv_aload_n hx hb d_M_named_0 rfl (lv_at hl 0 rfl) ?_
  refine lv_iload_n hx hb d_M_named_1 rfl (lv_at hl 1 rfl) ?_
  refine ro_V (n := 1) (ci := 4) (As := [.int x1]) (rest := []) C0 (c_M_isClass l D cI cZ a q σ x1 rfl) wd_403 ⟨wd_404, wd_405, wd_406, wd_352⟩ (by decide +kernel) ⟨Nat.le_of_ble_eq_true rfl, Nat.le_of_ble_eq_true rfl⟩ hP rfl rfl rfl hl rfl rfl (Nat.le_of_ble_eq_true rfl) ⟨Nat.zero_le _, Nat.zero_le _⟩ d_M_named_2 ?_
  refine lv_if_eq (tgt := 24) hx hb d_M_named_5 (by decide) (fun hc => ?_) (fun hc => ?_)
  · rw [if_pos hc] at h
    exact t_M_named_24 (a := a) C0 hA  h hP hD hS (lv_sub hl [0, 1, 2, 3] rfl)
  · rw [if_neg hc] at h
    refine lv_iload_n hx hb d_M_named_8 rfl (lv_at hl 2 rfl) ?_
    refine lv_if_eq (tgt := 20) hx hb d_M_named_9 (by decide) (fun hc => ?_) (fun hc => ?_)
    · rw [if_pos hc] at h
      exact t_M_named_20 (a := a) C0 hA  h hP hD hS (lv_sub hl [0, 1, 2, 3] rfl)
    · rw [if_neg hc] at h
      refine lv_aload_n hx hb d_M_named_12 rfl (lv_at hl 0 rfl) ?_
      refine lv_iload_n hx hb d_M_named_13 rfl (lv_at hl 3 rfl) ?_
      refine ro_V (n := 1) (ci := 4) (As := [.int x3]) (rest := []) C0 (c_M_isType l D cI cZ a q σ x3 rfl) wd_427 ⟨wd_428, wd_429, wd_430, wd_352⟩ (by decide +kernel) ⟨Nat.le_of_ble_eq_true rfl, Nat.le_of_ble_eq_true rfl⟩ hP rfl rfl rfl hl rfl rfl (Nat.le_of_ble_eq_true rfl) ⟨Nat.zero_le _, Nat.zero_le _⟩ d_M_named_14 ?_
      refine lv_if_eq (tgt := 24) hx hb d_M_named_17 (by decide) (fun hc => ?_) (fun hc => ?_)
      · rw [if_pos hc] at h
        exact t_M_named_24 (a := a) C0 hA  h hP hD hS (lv_sub hl [0, 1, 2, 3] rfl)
      · rw [if_neg hc] at h
        exact t_M_named_20 (a := a) C0 hA  h hP hD hS (lv_sub hl [0, 1, 2, 3] rfl)
set_option maxHeartbeats 4000000 in
set_option maxRecDepth 100000 in
theorem c_M_named (l : Launch) (D : va_G) (cI cZ : ClassId) (a : Nat → Nat) (q : Nat) (σ : StM) (x1 : Int32) (x2 : Int32) (x3 : Int32) {res : Int32 × StM} (h : f_M_named σ x1 x2 x3 = some res) : RwM l y_M_named b_M_named 7 (some .int) 2 48 D [(cI, .int), (cZ, .boolean)] [.ref (a 20), .int x1, .int x2, .int x3] (fun q (σ : StM) => (wM cI cZ a q σ)) q σ res :=
  rw_of (by decide) (Nat.le_of_ble_eq_true rfl) (fun p e s m args below meth c ls A C0 hA hP hD hS hl => t_M_named_0 (a := a) C0 hA h hP hD hS (lv_sub hl [0, 1, 2, 3] rfl))
-- part 07.6M.28M_array.lean.txt
def f_M_array_14 (σ : StM) (x1 t1 : Int32) : Option (Int32 × StM) :=
  (f_M_good σ t1).bind fun r1 =>
  if r1.1 = 0 then
    some (0, r1.2)
  else
    (f_M_addArray r1.2 x1).bind fun r2 =>
    (f_M_end r2.2 (M_types r1.2) r2.1 2).bind fun r3 =>
    some (r3.1, r3.2)
def f_M_array (σ : StM) (x1 : Int32) : Option (Int32 × StM) :=
  if (f_M_isType σ x1) = 0 then
    f_M_array_14 σ x1 1
  else
    f_M_array_14 σ x1 0
set_option maxHeartbeats 4000000 in
set_option maxRecDepth 100000 in
theorem t_M_array_14 {p : Program} {l : Launch} {e : Env} {s : State} {m : MethodId} {args : Array Value} {below : List Frame} {meth : Method} {c : Code} {D : va_G} {cI cZ : ClassId} {a : Nat → Nat} {A : Nat → Prop} (C0 : Am p s m args meth c b_M_array (some .int) 3 R_M D [(cI, .int), (cZ, .boolean)]) (hA : ∀ q, s.heap.size ≤ q → A q) {res : Int32 × StM}   {q : Nat} {σ : StM} {x1 t1 : Int32} (h : f_M_array_14 σ x1 t1 = some res) {H : Heap} {locs : List Loc} (hP : va_P D vwCl (wM cI cZ a q σ) H) (hD : va_D A (wM cI cZ a q σ)) (hS : va_S A s.heap H locs) {ls : Array Slot} (hl : lv_has ls 3 [(0, .ref (a 20)), (1, .int x1)]) : W p l e (rmK 2 46 0 0) s m args below meth c H locs 0 0 (RwQ below args s D A (fun q (σ : StM) => (wM cI cZ a q σ)) res 0 0) (F0 m 14 ls [.int t1, .ref (a 20)]) := by
  obtain ⟨hx, hb, hr, hml, hown, hts, hlk, hK⟩ := id C0
  unfold f_M_array_14 at h
  replace h := bd h
  obtain ⟨r1, g1, h⟩ := h
  refine rw_V (n := 1) (ci := 4) (As := [.int t1]) (rest := []) (Wn := fun _ => (wM cI cZ a q r1.2)) C0 hA (c_M_good l D cI cZ a q σ t1 g1) wd_388 ⟨wd_389, wd_390, wd_391, wd_352⟩ (by decide +kernel) ⟨Nat.le_of_ble_eq_true rfl, Nat.le_of_ble_eq_true rfl⟩ hP hD hS [0, 1, 2, 3, 4, 5, 6, 7, 8, 9, 10, 11, 12, 13, 14, 15, 16, 17, 18, 19, 20, 21, 22, 23] [] [0, 1, 2, 3, 4, 5, 6, 7, 8, 9, 10, 11, 12, 13, 14, 15, 16, 17, 18, 19, 20, 21, 22, 23] jn_M__C (by decide) jn_M__R (by decide) (by decide) (by decide) jn_M__W rfl rfl rfl hl rfl rfl (Nat.le_of_ble_eq_true rfl) ⟨Nat.zero_le _, Nat.zero_le _⟩ d_M_array_14 (fun H locs _ hP hD hS => ?_)
  try dsimp only at h
  refine lv_if_ne (tgt := 22) hx hb d_M_array_17 (by decide) (fun hc => ?_) (fun hc => ?_)
  · rw [if_neg hc] at h
    refine lv_aload_n hx hb d_M_array_22 rfl (lv_at hl 0 rfl) ?_
    refine va_get (ci := 4) (v := .int (M_types r1.2)) (C := R_M) (T := F_M) (N := 35) hx hb hts i_M hown hK.1 hP 0 rfl rfl 10 (by decide) (hts _ wd_344) (fun _ h9 => h9) rfl d_M_array_23 ?_
    refine lv_istore_n (lv' := [(2, .int (M_types r1.2)), (0, .ref (a 20)), (1, .int x1)]) hx hb d_M_array_26 rfl hl (by decide) rfl (fun ls hl => ?_)
    refine lv_aload_n hx hb d_M_array_27 rfl (lv_at hl 1 rfl) ?_
    refine lv_iload_n hx hb d_M_array_28 rfl (lv_at hl 0 rfl) ?_
    refine lv_aload_n hx hb d_M_array_29 rfl (lv_at hl 1 rfl) ?_
    refine lv_iload_n hx hb d_M_array_30 rfl (lv_at hl 2 rfl) ?_
    replace h := bd h
    obtain ⟨r2, g2, h⟩ := h
    refine rw_V (n := 1) (ci := 4) (As := [.int x1]) (rest := [.int (M_types r1.2), .ref (a 20)]) (Wn := fun _ => (wM cI cZ a q r2.2)) C0 hA (c_M_addArray l D cI cZ a q r1.2 x1 g2) wd_431 ⟨wd_432, wd_433, wd_434, wd_352⟩ (by decide +kernel) ⟨Nat.le_of_ble_eq_true rfl, Nat.le_of_ble_eq_true rfl⟩ hP hD hS [0, 1, 2, 3, 4, 5, 6, 7, 8, 9, 10, 11, 12, 13, 14, 15, 16, 17, 18, 19, 20, 21, 22, 23] [] [0, 1, 2, 3, 4, 5, 6, 7, 8, 9, 10, 11, 12, 13, 14, 15, 16, 17, 18, 19, 20, 21, 22, 23] jn_M__C (by decide) jn_M__R (by decide) (by decide) (by decide) jn_M__W rfl rfl rfl hl rfl rfl (Nat.le_of_ble_eq_true rfl) ⟨Nat.zero_le _, Nat.zero_le _⟩ d_M_array_31 (fun H locs _ hP hD hS => ?_)
    try dsimp only at h
    refine lv_iconst (v := 2) hx hb d_M_array_34 (by decide) ?_
    replace h := bd h
    obtain ⟨r3, g3, h⟩ := h
    refine rw_V (n := 3) (ci := 4) (As := [.int (M_types r1.2), .int r2.1, .int 2]) (rest := []) (Wn := fun _ => (wM cI cZ a q r3.2)) C0 hA (c_M_end l D cI cZ a q r2.2 (M_types r1.2) r2.1 2 g3) wd_423 ⟨wd_424, wd_425, wd_426, wd_352⟩ (by decide +kernel) ⟨Nat.le_of_ble_eq_true rfl, Nat.le_of_ble_eq_true rfl⟩ hP hD hS [0, 1, 2, 3, 4, 5, 6, 7, 8, 9, 10, 11, 12, 13, 14, 15, 16, 17, 18, 19, 20, 21, 22, 23] [] [0, 1, 2, 3, 4, 5, 6, 7, 8, 9, 10, 11, 12, 13, 14, 15, 16, 17, 18, 19, 20, 21, 22, 23] jn_M__C (by decide) jn_M__R (by decide) (by decide) (by decide) jn_M__W rfl rfl rfl hl rfl rfl (Nat.le_of_ble_eq_true rfl) ⟨Nat.zero_le _, Nat.zero_le _⟩ d_M_array_35 (fun H locs _ hP hD hS => ?_)
    try dsimp only at h
    exact rw_ret C0 hP hD hS (Option.some.inj h) d_M_array_38
  · rw [if_pos hc] at h
    refine lv_iconst (v := 0) hx hb d_M_array_20 (by decide) ?_
    exact rw_ret C0 hP hD hS (Option.some.inj h) d_M_array_21
set_option maxHeartbeats 4000000 in
set_option maxRecDepth 100000 in
theorem t_M_array_0 {p : Program} {l : Launch} {e : Env} {s : State} {m : MethodId} {args : Array Value} {below : List Frame} {meth : Method} {c : Code} {D : va_G} {cI cZ : ClassId} {a : Nat → Nat} {A : Nat → Prop} (C0 : Am p s m args meth c b_M_array (some .int) 3 R_M D [(cI, .int), (cZ, .boolean)]) (hA : ∀ q, s.heap.size ≤ q → A q) {res : Int32 × StM}   {q : Nat} {σ : StM} {x1 : Int32} (h : f_M_array σ x1 = some res) {H : Heap} {locs : List Loc} (hP : va_P D vwCl (wM cI cZ a q σ) H) (hD : va_D A (wM cI cZ a q σ)) (hS : va_S A s.heap H locs) {ls : Array Slot} (hl : lv_has ls 3 [(0, .ref (a 20)), (1, .int x1)]) : W p l e (rmK 2 46 0 0) s m args below meth c H locs 0 0 (RwQ below args s D A (fun q (σ : StM) => (wM cI cZ a q σ)) res 0 0) (F0 m 0 ls []) := by
  obtain ⟨hx, hb, hr, hml, hown, hts, hlk, hK⟩ := id C0
  unfold f_M_array at h
  refine lv_aload_n hx hb d_M_array_0 rfl (lv_at hl 0 rfl) ?_
  refine lv_aload_n hx hb d_M_array_1 rfl (lv_at hl 0 rfl) ?_
  refine lv_iload_n hx hb d_M_array_2 rfl (lv_at hl 1 rfl) ?_
  refine ro_V (n := 1) (ci := 4) (As := [.int x1]) (rest := [.ref (a 20)]) C0 (c_M_isType l D cI cZ a q σ x1 rfl) wd_427 ⟨wd_428, wd_429, wd_430, wd_352⟩ (by decide +kernel) ⟨Nat.le_of_ble_eq_true rfl, Nat.le_of_ble_eq_true rfl⟩ hP rfl rfl rfl hl rfl rfl (Nat.le_of_ble_eq_true rfl) ⟨Nat.zero_le _, Nat.zero_le _⟩ d_M_array_3 ?_
  refine lv_if_eq (tgt := 13) hx hb d_M_array_6 (by decide) (fun hc => ?_) (fun hc => ?_)
  · rw [if_pos hc] at h
    refine lv_iconst (v := 1) hx hb d_M_array_13 (by decide) ?_
    exact t_M_array_14 (a := a) C0 hA  h hP hD hS (lv_sub hl [0, 1] rfl)
  · rw [if_neg hc] at h
    refine lv_iconst (v := 0) hx hb d_M_array_9 (by decide) ?_
    refine lv_goto (tgt := 14) hx hb d_M_array_10 (by decide) ?_
    exact t_M_array_14 (a := a) C0 hA  h hP hD hS (lv_sub hl [0, 1] rfl)
set_option maxHeartbeats 4000000 in
set_option maxRecDepth 100000 in
theorem c_M_array (l : Launch) (D : va_G) (cI cZ : ClassId) (a : Nat → Nat) (q : Nat) (σ : StM) (x1 : Int32) {res : Int32 × StM} (h : f_M_array σ x1 = some res) : RwM l y_M_array b_M_array 3 (some .int) 2 46 D [(cI, .int), (cZ, .boolean)] [.ref (a 20), .int x1] (fun q (σ : StM) => (wM cI cZ a q σ)) q σ res :=
  rw_of (by decide) (Nat.le_of_ble_eq_true rfl) (fun p e s m args below meth c ls A C0 hA hP hD hS hl => t_M_array_0 (a := a) C0 hA h hP hD hS (lv_sub hl [0, 1] rfl))
-- part 07.6M.29M_isBelow.lean.txt
def f_M_isBelow_22 (σ : StM) (x1 x2 t1 : Int32) : Option (Int32 × StM) :=
  (f_M_good σ t1).bind fun r1 =>
  if r1.1 = 0 then
    some (0, r1.2)
  else
    (f_M_reckonBelow r1.2).bind fun r2 =>
    if ((300 * x1) + x2) < 0 ∨ 90000 ≤ ((300 * x1) + x2).toNatClampNeg then none else
    some ((((M_below r2.2) ((300 * x1) + x2).toNatClampNeg) &&& 1), r2.2)
def f_M_isBelow_21 (σ : StM) (x1 x2 : Int32) : Option (Int32 × StM) :=
  f_M_isBelow_22 σ x1 x2 1
def f_M_isBelow (σ : StM) (x1 x2 : Int32) : Option (Int32 × StM) :=
  if (f_M_isType σ x1) = 0 then
    f_M_isBelow_21 σ x1 x2
  else
    if (f_M_isType σ x2) = 0 then
      f_M_isBelow_21 σ x1 x2
    else
      f_M_isBelow_22 σ x1 x2 0
set_option maxHeartbeats 4000000 in
set_option maxRecDepth 100000 in
theorem t_M_isBelow_22 {p : Program} {l : Launch} {e : Env} {s : State} {m : MethodId} {args : Array Value} {below : List Frame} {meth : Method} {c : Code} {D : va_G} {cI cZ : ClassId} {a : Nat → Nat} {A : Nat → Prop} (C0 : Am p s m args meth c b_M_isBelow (some .boolean) 3 R_M D [(cI, .int), (cZ, .boolean)]) (hA : ∀ q, s.heap.size ≤ q → A q) {res : Int32 × StM}   {q : Nat} {σ : StM} {x1 x2 t1 : Int32} (h : f_M_isBelow_22 σ x1 x2 t1 = some res) {H : Heap} {locs : List Loc} (hP : va_P D vwCl (wM cI cZ a q σ) H) (hD : va_D A (wM cI cZ a q σ)) (hS : va_S A s.heap H locs) {ls : Array Slot} (hl : lv_has ls 3 [(0, .ref (a 20)), (1, .int x1), (2, .int x2)]) : W p l e (rmK 5 122 0 0) s m args below meth c H locs 0 0 (RwQ below args s D A (fun q (σ : StM) => (wM cI cZ a q σ)) res 0 0) (F0 m 22 ls [.int t1, .ref (a 20)]) := by
  obtain ⟨hx, hb, hr, hml, hown, hts, hlk, hK⟩ := id C0
  unfold f_M_isBelow_22 at h
  replace h := bd h
  obtain ⟨r1, g1, h⟩ := h
  refine rw_V (n := 1) (ci := 4) (As := [.int t1]) (rest := []) (Wn := fun _ => (wM cI cZ a q r1.2)) C0 hA (c_M_good l D cI cZ a q σ t1 g1) wd_388 ⟨wd_389, wd_390, wd_391, wd_352⟩ (by decide +kernel) ⟨Nat.le_of_ble_eq_true rfl, Nat.le_of_ble_eq_true rfl⟩ hP hD hS [0, 1, 2, 3, 4, 5, 6, 7, 8, 9, 10, 11, 12, 13, 14, 15, 16, 17, 18, 19, 20, 21, 22, 23] [] [0, 1, 2, 3, 4, 5, 6, 7, 8, 9, 10, 11, 12, 13, 14, 15, 16, 17, 18, 19, 20, 21, 22, 23] jn_M__C (by decide) jn_M__R (by decide) (by decide) (by decide) jn_M__W rfl rfl rfl hl rfl rfl (Nat.le_of_ble_eq_true rfl) ⟨Nat.zero_le _, Nat.zero_le _⟩ d_M_isBelow_22 (fun H locs _ hP hD hS => ?_)
  try dsimp only at h
  refine lv_if_ne (tgt := 30) hx hb d_M_isBelow_25 (by decide) (fun hc => ?_) (fun hc => ?_)
  · rw [if_neg hc] at h
    refine lv_aload_n hx hb d_M_isBelow_30 rfl (lv_at hl 0 rfl) ?_
    replace h := bd h
    obtain ⟨r2, g2, h⟩ := h
    refine rw_Vv (n := 0) (ci := 4) (As := []) (rest := []) (Wn := fun _ => (wM cI cZ a q r2.2)) C0 hA (c_M_reckonBelow l D cI cZ a q r1.2 g2) wd_435 ⟨wd_436, wd_437, wd_438, wd_352⟩ (by decide +kernel) ⟨Nat.le_of_ble_eq_true rfl, Nat.le_of_ble_eq_true rfl⟩ hP hD hS [0, 1, 2, 3, 4, 5, 6, 7, 8, 9, 10, 11, 12, 13, 14, 15, 16, 17, 18, 19, 20, 21, 22, 23] [] [0, 1, 2, 3, 4, 5, 6, 7, 8, 9, 10, 11, 12, 13, 14, 15, 16, 17, 18, 19, 20, 21, 22, 23] jn_M__C (by decide) jn_M__R (by decide) (by decide) (by decide) jn_M__W rfl rfl rfl hl rfl rfl (Nat.le_of_ble_eq_true rfl) ⟨Nat.zero_le _, Nat.zero_le _⟩ d_M_isBelow_31 (fun H locs _ hP hD hS => ?_)
    try dsimp only at h
    refine lv_aload_n hx hb d_M_isBelow_34 rfl (lv_at hl 0 rfl) ?_
    refine va_get (ci := 4) (v := .ref (a 35)) (C := R_M) (T := F_M) (N := 35) hx hb hts i_M hown hK.1 hP 0 rfl rfl 23 (by decide) (hts _ wd_370) (fun _ h9 => h9) rfl d_M_isBelow_35 ?_
    refine lv_sipush (v := 300) hx hb d_M_isBelow_38 (by decide) ?_
    refine lv_iload_n hx hb d_M_isBelow_41 rfl (lv_at hl 1 rfl) ?_
    refine lv_imul hx hb d_M_isBelow_42 ?_
    refine lv_iload_n hx hb d_M_isBelow_43 rfl (lv_at hl 2 rfl) ?_
    refine lv_iadd hx hb d_M_isBelow_44 ?_
    replace h := gd h
    obtain ⟨hi, h⟩ := h
    refine va_zald hx hb hK.1 hP 15 1 rfl rfl hi d_M_isBelow_45 ?_
    exact rw_retz C0 hP hD hS rfl (Option.some.inj h) d_M_isBelow_46
  · rw [if_pos hc] at h
    refine lv_iconst (v := 0) hx hb d_M_isBelow_28 (by decide) ?_
    exact rw_retz C0 hP hD hS (by decide) (Option.some.inj h) d_M_isBelow_29
set_option maxHeartbeats 4000000 in
set_option maxRecDepth 100000 in
theorem t_M_isBelow_21 {p : Program} {l : Launch} {e : Env} {s : State} {m : MethodId} {args : Array Value} {below : List Frame} {meth : Method} {c : Code} {D : va_G} {cI cZ : ClassId} {a : Nat → Nat} {A : Nat → Prop} (C0 : Am p s m args meth c b_M_isBelow (some .boolean) 3 R_M D [(cI, .int), (cZ, .boolean)]) (hA : ∀ q, s.heap.size ≤ q → A q) {res : Int32 × StM}   {q : Nat} {σ : StM} {x1 x2 : Int32} (h : f_M_isBelow_21 σ x1 x2 = some res) {H : Heap} {locs : List Loc} (hP : va_P D vwCl (wM cI cZ a q σ) H) (hD : va_D A (wM cI cZ a q σ)) (hS : va_S A s.heap H locs) {ls : Array Slot} (hl : lv_has ls 3 [(0, .ref (a 20)), (1, .int x1), (2, .int x2)]) : W p l e (rmK 5 122 0 0) s m args below meth c H locs 0 0 (RwQ below args s D A (fun q (σ : StM) => (wM cI cZ a q σ)) res 0 0) (F0 m 21 ls [.ref (a 20)]) := by
  obtain ⟨hx, hb, hr, hml, hown, hts, hlk, hK⟩ := id C0
  unfold f_M_isBelow_21 at h
  refine lv_iconst (v := 1) hx hb d_M_isBelow_21 (by decide) ?_
  exact t_M_isBelow_22 (a := a) C0 hA  h hP hD hS (lv_sub hl [0, 1, 2] rfl)
set_option maxHeartbeats 4000000 in
set_option maxRecDepth 100000 in
theorem t_M_isBelow_0 {p : Program} {l : Launch} {e : Env} {s : State} {m : MethodId} {args : Array Value} {below : List Frame} {meth : Method} {c : Code} {D : va_G} {cI cZ : ClassId} {a : Nat → Nat} {A : Nat → Prop} (C0 : Am p s m args meth c b_M_isBelow (some .boolean) 3 R_M D [(cI, .int), (cZ, .boolean)]) (hA : ∀ q, s.heap.size ≤ q → A q) {res : Int32 × StM}   {q : Nat} {σ : StM} {x1 x2 : Int32} (h : f_M_isBelow σ x1 x2 = some res) {H : Heap} {locs : List Loc} (hP : va_P D vwCl (wM cI cZ a q σ) H) (hD : va_D A (wM cI cZ a q σ)) (hS : va_S A s.heap H locs) {ls : Array Slot} (hl : lv_has ls 3 [(0, .ref (a 20)), (1, .int x1), (2, .int x2)]) : W p l e (rmK 5 122 0 0) s m args below meth c H locs 0 0 (RwQ below args s D A (fun q (σ : StM) => (wM cI cZ a q σ)) res 0 0) (F0 m 0 ls []) := by
  obtain ⟨hx, hb, hr, hml, hown, hts, hlk, hK⟩ := id C0
  unfold f_M_isBelow at h
  refine lv_aload_n hx hb d_M_isBelow_0 rfl (lv_at hl 0 rfl) ?_
  refine lv_aload_n hx hb d_M_isBelow_1 rfl (lv_at hl 0 rfl) ?_
  refine lv_iload_n hx hb d_M_isBelow_2 rfl (lv_at hl 1 rfl) ?_
  refine ro_V (n := 1) (ci := 4) (As := [.int x1]) (rest := [.ref (a 20)]) C0 (c_M_isType l D cI cZ a q σ x1 rfl) wd_427 ⟨wd_428, wd_429, wd_430, wd_352⟩ (by decide +kernel) ⟨Nat.le_of_ble_eq_true rfl, Nat.le_of_ble_eq_true rfl⟩ hP rfl rfl rfl hl rfl rfl (Nat.le_of_ble_eq_true rfl) ⟨Nat.zero_le _, Nat.zero_le _⟩ d_M_isBelow_3 ?_
  refine lv_if_eq (tgt := 21) hx hb d_M_isBelow_6 (by decide) (fun hc => ?_) (fun hc => ?_)
  · rw [if_pos hc] at h
    exact t_M_isBelow_21 (a := a) C0 hA  h hP hD hS (lv_sub hl [0, 1, 2] rfl)
  · rw [if_neg hc] at h
    refine lv_aload_n hx hb d_M_isBelow_9 rfl (lv_at hl 0 rfl) ?_
    refine lv_iload_n hx hb d_M_isBelow_10 rfl (lv_at hl 2 rfl) ?_
    refine ro_V (n := 1) (ci := 4) (As := [.int x2]) (rest := [.ref (a 20)]) C0 (c_M_isType l D cI cZ a q σ x2 rfl) wd_427 ⟨wd_428, wd_429, wd_430, wd_352⟩ (by decide +kernel) ⟨Nat.le_of_ble_eq_true rfl, Nat.le_of_ble_eq_true rfl⟩ hP rfl rfl rfl hl rfl rfl (Nat.le_of_ble_eq_true rfl) ⟨Nat.zero_le _, Nat.zero_le _⟩ d_M_isBelow_11 ?_
    refine lv_if_eq (tgt := 21) hx hb d_M_isBelow_14 (by decide) (fun hc => ?_) (fun hc => ?_)
    · rw [if_pos hc] at h
      exact t_M_isBelow_21 (a := a) C0 hA  h hP hD hS (lv_sub hl [0, 1, 2] rfl)
    · rw [if_neg hc] at h
      refine lv_iconst (v := 0) hx hb d_M_isBelow_17 (by decide) ?_
      refine lv_goto (tgt := 22) hx hb d_M_isBelow_18 (by decide) ?_
      exact t_M_isBelow_22 (a := a) C0 hA  h hP hD hS (lv_sub hl [0, 1, 2] rfl)
set_option maxHeartbeats 4000000 in
set_option maxRecDepth 100000 in
theorem c_M_isBelow (l : Launch) (D : va_G) (cI cZ : ClassId) (a : Nat → Nat) (q : Nat) (σ : StM) (x1 : Int32) (x2 : Int32) {res : Int32 × StM} (h : f_M_isBelow σ x1 x2 = some res) : RwM l y_M_isBelow b_M_isBelow 3 (some .boolean) 5 122 D [(cI, .int), (cZ, .boolean)] [.ref (a 20), .int x1, .int x2] (fun q (σ : StM) => (wM cI cZ a q σ)) q σ res :=
  rw_of (by decide) (Nat.le_of_ble_eq_true rfl) (fun p e s m args below meth c ls A C0 hA hP hD hS hl => t_M_isBelow_0 (a := a) C0 hA h hP hD hS (lv_sub hl [0, 1, 2] rfl))
-- part 07.6M.30M_look.lean.txt
def f_M_look_22 (σ : StM) (x1 x2 t1 : Int32) : Option (Int32 × StM) :=
  (f_M_good σ t1).bind fun r1 =>
  if r1.1 = 0 then
    some (0, r1.2)
  else
    (f_M_lookAt r1.2 x1 x2).bind fun r2 =>
    if (M_found r2.2) = 0 then
      some ((-1), r2.2)
    else
      (f_M_addNamed r2.2 x2 (M_foundHow r2.2) (M_foundType r2.2)).bind fun r3 =>
      (f_M_end r3.2 (M_types r2.2) r3.1 2).bind fun r4 =>
      some (r4.1, r4.2)
def f_M_look_21 (σ : StM) (x1 x2 : Int32) : Option (Int32 × StM) :=
  f_M_look_22 σ x1 x2 1
def f_M_look (σ : StM) (x1 x2 : Int32) : Option (Int32 × StM) :=
  if (f_M_isType σ x1) = 0 then
    f_M_look_21 σ x1 x2
  else
    if (f_M_isClass σ x2) = 0 then
      f_M_look_21 σ x1 x2
    else
      f_M_look_22 σ x1 x2 0
set_option maxHeartbeats 4000000 in
set_option maxRecDepth 100000 in
theorem t_M_look_22 {p : Program} {l : Launch} {e : Env} {s : State} {m : MethodId} {args : Array Value} {below : List Frame} {meth : Method} {c : Code} {D : va_G} {cI cZ : ClassId} {a : Nat → Nat} {A : Nat → Prop} (C0 : Am p s m args meth c b_M_look (some .int) 4 R_M D [(cI, .int), (cZ, .boolean)]) (hA : ∀ q, s.heap.size ≤ q → A q) {res : Int32 × StM}   {q : Nat} {σ : StM} {x1 x2 t1 : Int32} (h : f_M_look_22 σ x1 x2 t1 = some res) {H : Heap} {locs : List Loc} (hP : va_P D vwCl (wM cI cZ a q σ) H) (hD : va_D A (wM cI cZ a q σ)) (hS : va_S A s.heap H locs) {ls : Array Slot} (hl : lv_has ls 4 [(0, .ref (a 20)), (1, .int x1), (2, .int x2)]) : W p l e (rmK 3 74 0 0) s m args below meth c H locs 0 0 (RwQ below args s D A (fun q (σ : StM) => (wM cI cZ a q σ)) res 0 0) (F0 m 22 ls [.int t1, .ref (a 20)]) := by
  obtain ⟨hx, hb, hr, hml, hown, hts, hlk, hK⟩ := id C0
  unfold f_M_look_22 at h
  replace h := bd h
  obtain ⟨r1, g1, h⟩ := h
  refine rw_V (n := 1) (ci := 4) (As := [.int t1]) (rest := []) (Wn := fun _ => (wM cI cZ a q r1.2)) C0 hA (c_M_good l D cI cZ a q σ t1 g1) wd_388 ⟨wd_389, wd_390, wd_391, wd_352⟩ (by decide +kernel) ⟨Nat.le_of_ble_eq_true rfl, Nat.le_of_ble_eq_true rfl⟩ hP hD hS [0, 1, 2, 3, 4, 5, 6, 7, 8, 9, 10, 11, 12, 13, 14, 15, 16, 17, 18, 19, 20, 21, 22, 23] [] [0, 1, 2, 3, 4, 5, 6, 7, 8, 9, 10, 11, 12, 13, 14, 15, 16, 17, 18, 19, 20, 21, 22, 23] jn_M__C (by decide) jn_M__R (by decide) (by decide) (by decide) jn_M__W rfl rfl rfl hl rfl rfl (Nat.le_of_ble_eq_true rfl) ⟨Nat.zero_le _, Nat.zero_le _⟩ d_M_look_22 (fun H locs _ hP hD hS => ?_)
  try dsimp only at h
  refine lv_if_ne (tgt := 30) hx hb d_M_look_25 (by decide) (fun hc => ?_) (fun hc => ?_)
  · rw [if_neg hc] at h
    refine lv_aload_n hx hb d_M_look_30 rfl (lv_at hl 0 rfl) ?_
    refine lv_iload_n hx hb d_M_look_31 rfl (lv_at hl 1 rfl) ?_
    refine lv_iload_n hx hb d_M_look_32 rfl (lv_at hl 2 rfl) ?_
    replace h := bd h
    obtain ⟨r2, g2, h⟩ := h
    refine rw_Vv (n := 2) (ci := 4) (As := [.int x1, .int x2]) (rest := []) (Wn := fun _ => (wM cI cZ a q r2.2)) C0 hA (c_M_lookAt l D cI cZ a q r1.2 x1 x2 g2) wd_371 ⟨wd_372, wd_373, wd_374, wd_352⟩ (by decide +kernel) ⟨Nat.le_of_ble_eq_true rfl, Nat.le_of_ble_eq_true rfl⟩ hP hD hS [0, 1, 2, 3, 4, 5, 6, 7, 8, 9, 10, 11, 12, 13, 14, 15, 16, 17, 18, 19, 20, 21, 22, 23] [] [0, 1, 2, 3, 4, 5, 6, 7, 8, 9, 10, 11, 12, 13, 14, 15, 16, 17, 18, 19, 20, 21, 22, 23] jn_M__C (by decide) jn_M__R (by decide) (by decide) (by decide) jn_M__W rfl rfl rfl hl rfl rfl (Nat.le_of_ble_eq_true rfl) ⟨Nat.zero_le _, Nat.zero_le _⟩ d_M_look_33 (fun H locs _ hP hD hS => ?_)
    try dsimp only at h
    refine lv_aload_n hx hb d_M_look_36 rfl (lv_at hl 0 rfl) ?_
    refine va_get (ci := 4) (v := .int (M_found r2.2)) (C := R_M) (T := F_M) (N := 35) hx hb hts i_M hown hK.1 hP 0 rfl rfl 19 (by decide) (hts _ wd_345) (fun _ h9 => h9) rfl d_M_look_37 ?_
    refine lv_if_ne (tgt := 45) hx hb d_M_look_40 (by decide) (fun hc => ?_) (fun hc => ?_)
    · rw [if_neg hc] at h
      refine lv_aload_n hx hb d_M_look_45 rfl (lv_at hl 0 rfl) ?_
      refine va_get (ci := 4) (v := .int (M_types r2.2)) (C := R_M) (T := F_M) (N := 35) hx hb hts i_M hown hK.1 hP 0 rfl rfl 10 (by decide) (hts _ wd_344) (fun _ h9 => h9) rfl d_M_look_46 ?_
      refine lv_istore_n (lv' := [(3, .int (M_types r2.2)), (0, .ref (a 20)), (1, .int x1), (2, .int x2)]) hx hb d_M_look_49 rfl hl (by decide) rfl (fun ls hl => ?_)
      refine lv_aload_n hx hb d_M_look_50 rfl (lv_at hl 1 rfl) ?_
      refine lv_iload_n hx hb d_M_look_51 rfl (lv_at hl 0 rfl) ?_
      refine lv_aload_n hx hb d_M_look_52 rfl (lv_at hl 1 rfl) ?_
      refine lv_iload_n hx hb d_M_look_53 rfl (lv_at hl 3 rfl) ?_
      refine lv_aload_n hx hb d_M_look_54 rfl (lv_at hl 1 rfl) ?_
      refine va_get (ci := 4) (v := .int (M_foundHow r2.2)) (C := R_M) (T := F_M) (N := 35) hx hb hts i_M hown hK.1 hP 0 rfl rfl 20 (by decide) (hts _ wd_346) (fun _ h9 => h9) rfl d_M_look_55 ?_
      refine lv_aload_n hx hb d_M_look_58 rfl (lv_at hl 1 rfl) ?_
      refine va_get (ci := 4) (v := .int (M_foundType r2.2)) (C := R_M) (T := F_M) (N := 35) hx hb hts i_M hown hK.1 hP 0 rfl rfl 21 (by decide) (hts _ wd_347) (fun _ h9 => h9) rfl d_M_look_59 ?_
      replace h := bd h
      obtain ⟨r3, g3, h⟩ := h
      refine rw_V (n := 3) (ci := 4) (As := [.int x2, .int (M_foundHow r2.2), .int (M_foundType r2.2)]) (rest := [.int (M_types r2.2), .ref (a 20)]) (Wn := fun _ => (wM cI cZ a q r3.2)) C0 hA (c_M_addNamed l D cI cZ a q r2.2 x2 (M_foundHow r2.2) (M_foundType r2.2) g3) wd_419 ⟨wd_420, wd_421, wd_422, wd_352⟩ (by decide +kernel) ⟨Nat.le_of_ble_eq_true rfl, Nat.le_of_ble_eq_true rfl⟩ hP hD hS [0, 1, 2, 3, 4, 5, 6, 7, 8, 9, 10, 11, 12, 13, 14, 15, 16, 17, 18, 19, 20, 21, 22, 23] [] [0, 1, 2, 3, 4, 5, 6, 7, 8, 9, 10, 11, 12, 13, 14, 15, 16, 17, 18, 19, 20, 21, 22, 23] jn_M__C (by decide) jn_M__R (by decide) (by decide) (by decide) jn_M__W rfl rfl rfl hl rfl rfl (Nat.le_of_ble_eq_true rfl) ⟨Nat.zero_le _, Nat.zero_le _⟩ d_M_look_62 (fun H locs _ hP hD hS => ?_)
      try dsimp only at h
      refine lv_iconst (v := 2) hx hb d_M_look_65 (by decide) ?_
      replace h := bd h
      obtain ⟨r4, g4, h⟩ := h
      refine rw_V (n := 3) (ci := 4) (As := [.int (M_types r2.2), .int r3.1, .int 2]) (rest := []) (Wn := fun _ => (wM cI cZ a q r4.2)) C0 hA (c_M_end l D cI cZ a q r3.2 (M_types r2.2) r3.1 2 g4) wd_423 ⟨wd_424, wd_425, wd_426, wd_352⟩ (by decide +kernel) ⟨Nat.le_of_ble_eq_true rfl, Nat.le_of_ble_eq_true rfl⟩ hP hD hS [0, 1, 2, 3, 4, 5, 6, 7, 8, 9, 10, 11, 12, 13, 14, 15, 16, 17, 18, 19, 20, 21, 22, 23] [] [0, 1, 2, 3, 4, 5, 6, 7, 8, 9, 10, 11, 12, 13, 14, 15, 16, 17, 18, 19, 20, 21, 22, 23] jn_M__C (by decide) jn_M__R (by decide) (by decide) (by decide) jn_M__W rfl rfl rfl hl rfl rfl (Nat.le_of_ble_eq_true rfl) ⟨Nat.zero_le _, Nat.zero_le _⟩ d_M_look_66 (fun H locs _ hP hD hS => ?_)
      try dsimp only at h
      exact rw_ret C0 hP hD hS (Option.some.inj h) d_M_look_69
    · rw [if_pos hc] at h
      refine lv_iconst (v := (-1)) hx hb d_M_look_43 (by decide) ?_
      exact rw_ret C0 hP hD hS (Option.some.inj h) d_M_look_44
  · rw [if_pos hc] at h
    refine lv_iconst (v := 0) hx hb d_M_look_28 (by decide) ?_
    exact rw_ret C0 hP hD hS (Option.some.inj h) d_M_look_29
set_option maxHeartbeats 4000000 in
set_option maxRecDepth 100000 in
theorem t_M_look_21 {p : Program} {l : Launch} {e : Env} {s : State} {m : MethodId} {args : Array Value} {below : List Frame} {meth : Method} {c : Code} {D : va_G} {cI cZ : ClassId} {a : Nat → Nat} {A : Nat → Prop} (C0 : Am p s m args meth c b_M_look (some .int) 4 R_M D [(cI, .int), (cZ, .boolean)]) (hA : ∀ q, s.heap.size ≤ q → A q) {res : Int32 × StM}   {q : Nat} {σ : StM} {x1 x2 : Int32} (h : f_M_look_21 σ x1 x2 = some res) {H : Heap} {locs : List Loc} (hP : va_P D vwCl (wM cI cZ a q σ) H) (hD : va_D A (wM cI cZ a q σ)) (hS : va_S A s.heap H locs) {ls : Array Slot} (hl : lv_has ls 4 [(0, .ref (a 20)), (1, .int x1), (2, .int x2)]) : W p l e (rmK 3 74 0 0) s m args below meth c H locs 0 0 (RwQ below args s D A (fun q (σ : StM) => (wM cI cZ a q σ)) res 0 0) (F0 m 21 ls [.ref (a 20)]) := by
  obtain ⟨hx, hb, hr, hml, hown, hts, hlk, hK⟩ := id C0
  unfold f_M_look_21 at h
  refine lv_iconst (v := 1) hx hb d_M_look_21 (by decide) ?_
  exact t_M_look_22 (a := a) C0 hA  h hP hD hS (lv_sub hl [0, 1, 2] rfl)
set_option maxHeartbeats 4000000 in
set_option maxRecDepth 100000 in
theorem t_M_look_0 {p : Program} {l : Launch} {e : Env} {s : State} {m : MethodId} {args : Array Value} {below : List Frame} {meth : Method} {c : Code} {D : va_G} {cI cZ : ClassId} {a : Nat → Nat} {A : Nat → Prop} (C0 : Am p s m args meth c b_M_look (some .int) 4 R_M D [(cI, .int), (cZ, .boolean)]) (hA : ∀ q, s.heap.size ≤ q → A q) {res : Int32 × StM}   {q : Nat} {σ : StM} {x1 x2 : Int32} (h : f_M_look σ x1 x2 = some res) {H : Heap} {locs : List Loc} (hP : va_P D vwCl (wM cI cZ a q σ) H) (hD : va_D A (wM cI cZ a q σ)) (hS : va_S A s.heap H locs) {ls : Array Slot} (hl : lv_has ls 4 [(0, .ref (a 20)), (1, .int x1), (2, .int x2)]) : W p l e (rmK 3 74 0 0) s m args below meth c H locs 0 0 (RwQ below args s D A (fun q (σ : StM) => (wM cI cZ a q σ)) res 0 0) (F0 m 0 ls []) := by
  obtain ⟨hx, hb, hr, hml, hown, hts, hlk, hK⟩ := id C0
  unfold f_M_look at h
  refine lv_aload_n hx hb d_M_look_0 rfl (lv_at hl 0 rfl) ?_
  refine lv_aload_n hx hb d_M_look_1 rfl (lv_at hl 0 rfl) ?_
  refine lv_iload_n hx hb d_M_look_2 rfl (lv_at hl 1 rfl) ?_
  refine ro_V (n := 1) (ci := 4) (As := [.int x1]) (rest := [.ref (a 20)]) C0 (c_M_isType l D cI cZ a q σ x1 rfl) wd_427 ⟨wd_428, wd_429, wd_430, wd_352⟩ (by decide +kernel) ⟨Nat.le_of_ble_eq_true rfl, Nat.le_of_ble_eq_true rfl⟩ hP rfl rfl rfl hl rfl rfl (Nat.le_of_ble_eq_true rfl) ⟨Nat.zero_le _, Nat.zero_le _⟩ d_M_look_3 ?_
  refine lv_if_eq (tgt := 21) hx hb d_M_look_6 (by decide) (fun hc => ?_) (fun hc => ?_)
  · rw [if_pos hc] at h
    exact t_M_look_21 (a := a) C0 hA  h hP hD hS (lv_sub hl [0, 1, 2] rfl)
  · rw [if_neg hc] at h
    refine lv_aload_n hx hb d_M_look_9 rfl (lv_at hl 0 rfl) ?_
    refine lv_iload_n hx hb d_M_look_10 rfl (lv_at hl 2 rfl) ?_
    refine ro_V (n := 1) (ci := 4) (As := [.int x2]) (rest := [.ref (a 20)]) C0 (c_M_isClass l D cI cZ a q σ x2 rfl) wd_403 ⟨wd_404, wd_405, wd_406, wd_352⟩ (by decide +kernel) ⟨Nat.le_of_ble_eq_true rfl, Nat.le_of_ble_eq_true rfl⟩ hP rfl rfl rfl hl rfl rfl (Nat.le_of_ble_eq_true rfl) ⟨Nat.zero_le _, Nat.zero_le _⟩ d_M_look_11 ?_
    refine lv_if_eq (tgt := 21) hx hb d_M_look_14 (by decide) (fun hc => ?_) (fun hc => ?_)
    · rw [if_pos hc] at h
      exact t_M_look_21 (a := a) C0 hA  h hP hD hS (lv_sub hl [0, 1, 2] rfl)
    · rw [if_neg hc] at h
      refine lv_iconst (v := 0) hx hb d_M_look_17 (by decide) ?_
      refine lv_goto (tgt := 22) hx hb d_M_look_18 (by decide) ?_
      exact t_M_look_22 (a := a) C0 hA  h hP hD hS (lv_sub hl [0, 1, 2] rfl)
set_option maxHeartbeats 4000000 in
set_option maxRecDepth 100000 in
theorem c_M_look (l : Launch) (D : va_G) (cI cZ : ClassId) (a : Nat → Nat) (q : Nat) (σ : StM) (x1 : Int32) (x2 : Int32) {res : Int32 × StM} (h : f_M_look σ x1 x2 = some res) : RwM l y_M_look b_M_look 4 (some .int) 3 74 D [(cI, .int), (cZ, .boolean)] [.ref (a 20), .int x1, .int x2] (fun q (σ : StM) => (wM cI cZ a q σ)) q σ res :=
  rw_of (by decide) (Nat.le_of_ble_eq_true rfl) (fun p e s m args below meth c ls A C0 hA hP hD hS hl => t_M_look_0 (a := a) C0 hA h hP hD hS (lv_sub hl [0, 1, 2] rfl))
-- part 07.6M.31M_box.lean.txt
def f_M_box_14 (σ : StM) (x1 t1 : Int32) : Option (Int32 × StM) :=
  (f_M_good σ t1).bind fun r1 =>
  if r1.1 = 0 then
    some (0, r1.2)
  else
    if 8 ≤ x1 then
      some (x1, r1.2)
    else
      some ((x1 + 8), r1.2)
def f_M_box (σ : StM) (x1 : Int32) : Option (Int32 × StM) :=
  if (f_M_isType σ x1) = 0 then
    f_M_box_14 σ x1 1
  else
    f_M_box_14 σ x1 0
set_option maxHeartbeats 4000000 in
set_option maxRecDepth 100000 in
theorem t_M_box_14 {p : Program} {l : Launch} {e : Env} {s : State} {m : MethodId} {args : Array Value} {below : List Frame} {meth : Method} {c : Code} {D : va_G} {cI cZ : ClassId} {a : Nat → Nat} {A : Nat → Prop} (C0 : Am p s m args meth c b_M_box (some .int) 2 R_M D [(cI, .int), (cZ, .boolean)]) (hA : ∀ q, s.heap.size ≤ q → A q) {res : Int32 × StM}   {q : Nat} {σ : StM} {x1 t1 : Int32} (h : f_M_box_14 σ x1 t1 = some res) {H : Heap} {locs : List Loc} (hP : va_P D vwCl (wM cI cZ a q σ) H) (hD : va_D A (wM cI cZ a q σ)) (hS : va_S A s.heap H locs) {ls : Array Slot} (hl : lv_has ls 2 [(1, .int x1)]) : W p l e (rmK 1 21 0 0) s m args below meth c H locs 0 0 (RwQ below args s D A (fun q (σ : StM) => (wM cI cZ a q σ)) res 0 0) (F0 m 14 ls [.int t1, .ref (a 20)]) := by
  obtain ⟨hx, hb, hr, hml, hown, hts, hlk, hK⟩ := id C0
  unfold f_M_box_14 at h
  replace h := bd h
  obtain ⟨r1, g1, h⟩ := h
  refine rw_V (n := 1) (ci := 4) (As := [.int t1]) (rest := []) (Wn := fun _ => (wM cI cZ a q r1.2)) C0 hA (c_M_good l D cI cZ a q σ t1 g1) wd_388 ⟨wd_389, wd_390, wd_391, wd_352⟩ (by decide +kernel) ⟨Nat.le_of_ble_eq_true rfl, Nat.le_of_ble_eq_true rfl⟩ hP hD hS [0, 1, 2, 3, 4, 5, 6, 7, 8, 9, 10, 11, 12, 13, 14, 15, 16, 17, 18, 19, 20, 21, 22, 23] [] [0, 1, 2, 3, 4, 5, 6, 7, 8, 9, 10, 11, 12, 13, 14, 15, 16, 17, 18, 19, 20, 21, 22, 23] jn_M__C (by decide) jn_M__R (by decide) (by decide) (by decide) jn_M__W rfl rfl rfl hl rfl rfl (Nat.le_of_ble_eq_true rfl) ⟨Nat.zero_le _, Nat.zero_le _⟩ d_M_box_14 (fun H locs _ hP hD hS => ?_)
  try dsimp only at h
  refine lv_if_ne (tgt := 22) hx hb d_M_box_17 (by decide) (fun hc => ?_) (fun hc => ?_)
  · rw [if_neg hc] at h
    refine lv_iload_n hx hb d_M_box_22 rfl (lv_at hl 0 rfl) ?_
    refine lv_bipush (v := 8) hx hb d_M_box_23 (by decide) ?_
    refine lv_icmp_ge (tgt := 35) hx hb d_M_box_25 (by decide) (fun hc => ?_) (fun hc => ?_)
    · rw [if_pos hc] at h
      refine lv_iload_n hx hb d_M_box_35 rfl (lv_at hl 0 rfl) ?_
      exact rw_ret C0 hP hD hS (Option.some.inj h) d_M_box_36
    · rw [if_neg hc] at h
      refine lv_iload_n hx hb d_M_box_28 rfl (lv_at hl 0 rfl) ?_
      refine lv_bipush (v := 8) hx hb d_M_box_29 (by decide) ?_
      refine lv_iadd hx hb d_M_box_31 ?_
      refine lv_goto (tgt := 36) hx hb d_M_box_32 (by decide) ?_
      exact rw_ret C0 hP hD hS (Option.some.inj h) d_M_box_36
  · rw [if_pos hc] at h
    refine lv_iconst (v := 0) hx hb d_M_box_20 (by decide) ?_
    exact rw_ret C0 hP hD hS (Option.some.inj h) d_M_box_21
set_option maxHeartbeats 4000000 in
set_option maxRecDepth 100000 in
theorem t_M_box_0 {p : Program} {l : Launch} {e : Env} {s : State} {m : MethodId} {args : Array Value} {below : List Frame} {meth : Method} {c : Code} {D : va_G} {cI cZ : ClassId} {a : Nat → Nat} {A : Nat → Prop} (C0 : Am p s m args meth c b_M_box (some .int) 2 R_M D [(cI, .int), (cZ, .boolean)]) (hA : ∀ q, s.heap.size ≤ q → A q) {res : Int32 × StM}   {q : Nat} {σ : StM} {x1 : Int32} (h : f_M_box σ x1 = some res) {H : Heap} {locs : List Loc} (hP : va_P D vwCl (wM cI cZ a q σ) H) (hD : va_D A (wM cI cZ a q σ)) (hS : va_S A s.heap H locs) {ls : Array Slot} (hl : lv_has ls 2 [(0, .ref (a 20)), (1, .int x1)]) : W p l e (rmK 1 21 0 0) s m args below meth c H locs 0 0 (RwQ below args s D A (fun q (σ : StM) => (wM cI cZ a q σ)) res 0 0) (F0 m 0 ls []) := by
  obtain ⟨hx, hb, hr, hml, hown, hts, hlk, hK⟩ := id C0
  unfold f_M_box at h
  refine lv_aload_n hx hb d_M_box_0 rfl (lv_at hl 0 rfl) ?_
  refine lv_aload_n hx hb d_M_box_1 rfl (lv_at hl 0 rfl) ?_
  refine lv_iload_n hx hb d_M_box_2 rfl (lv_at hl 1 rfl) ?_
  refine ro_V (n := 1) (ci := 4) (As := [.int x1]) (rest := [.ref (a 20)]) C0 (c_M_isType l D cI cZ a q σ x1 rfl) wd_427 ⟨wd_428, wd_429, wd_430, wd_352⟩ (by decide +kernel) ⟨Nat.le_of_ble_eq_true rfl, Nat.le_of_ble_eq_true rfl⟩ hP rfl rfl rfl hl rfl rfl (Nat.le_of_ble_eq_true rfl) ⟨Nat.zero_le _, Nat.zero_le _⟩ d_M_box_3 ?_
  refine lv_if_eq (tgt := 13) hx hb d_M_box_6 (by decide) (fun hc => ?_) (fun hc => ?_)
  · rw [if_pos hc] at h
    refine lv_iconst (v := 1) hx hb d_M_box_13 (by decide) ?_
    exact t_M_box_14 (a := a) C0 hA  h hP hD hS (lv_sub hl [1] rfl)
  · rw [if_neg hc] at h
    refine lv_iconst (v := 0) hx hb d_M_box_9 (by decide) ?_
    refine lv_goto (tgt := 14) hx hb d_M_box_10 (by decide) ?_
    exact t_M_box_14 (a := a) C0 hA  h hP hD hS (lv_sub hl [1] rfl)
set_option maxHeartbeats 4000000 in
set_option maxRecDepth 100000 in
theorem c_M_box (l : Launch) (D : va_G) (cI cZ : ClassId) (a : Nat → Nat) (q : Nat) (σ : StM) (x1 : Int32) {res : Int32 × StM} (h : f_M_box σ x1 = some res) : RwM l y_M_box b_M_box 2 (some .int) 1 21 D [(cI, .int), (cZ, .boolean)] [.ref (a 20), .int x1] (fun q (σ : StM) => (wM cI cZ a q σ)) q σ res :=
  rw_of (by decide) (Nat.le_of_ble_eq_true rfl) (fun p e s m args below meth c ls A C0 hA hP hD hS hl => t_M_box_0 (a := a) C0 hA h hP hD hS (lv_sub hl [0, 1] rfl))
-- part 07.6M.32M_type.lean.txt
def f_M_type_27 (σ : StM) (x1 x2 t1 : Int32) : Option (Int32 × StM) :=
  (f_M_good σ t1).bind fun r1 =>
  if r1.1 = 0 then
    some (0, r1.2)
  else
    if x2 = 0 then
      if x1 < 0 ∨ 300 ≤ x1.toNatClampNeg then none else
      some (((M_kind r1.2) x1.toNatClampNeg), r1.2)
    else if x2 = 1 then
      if x1 < 0 ∨ 300 ≤ x1.toNatClampNeg then none else
      some (((M_classOf r1.2) x1.toNatClampNeg), r1.2)
    else if x2 = 2 then
      if x1 < 0 ∨ 300 ≤ x1.toNatClampNeg then none else
      some (((M_how r1.2) x1.toNatClampNeg), r1.2)
    else if x2 = 3 then
      if x1 < 0 ∨ 300 ≤ x1.toNatClampNeg then none else
      some (((M_inner r1.2) x1.toNatClampNeg), r1.2)
    else if x2 = 4 then
      if x1 < 0 ∨ 300 ≤ x1.toNatClampNeg then none else
      some (((M_partCount r1.2) x1.toNatClampNeg), r1.2)
    else if x1 < 0 ∨ 300 ≤ x1.toNatClampNeg then none else
    some (((M_made r1.2) x1.toNatClampNeg), r1.2)
def f_M_type_22 (σ : StM) (x1 x2 : Int32) : Option (Int32 × StM) :=
  f_M_type_27 σ x1 x2 2
def f_M_type (σ : StM) (x1 x2 : Int32) : Option (Int32 × StM) :=
  if (f_M_isType σ x1) = 0 then
    f_M_type_27 σ x1 x2 1
  else
    if x2 < 0 then
      f_M_type_22 σ x1 x2
    else
      if x2 ≤ 5 then
        f_M_type_27 σ x1 x2 0
      else
        f_M_type_22 σ x1 x2
set_option maxHeartbeats 4000000 in
set_option maxRecDepth 100000 in
theorem t_M_type_27 {p : Program} {l : Launch} {e : Env} {s : State} {m : MethodId} {args : Array Value} {below : List Frame} {meth : Method} {c : Code} {D : va_G} {cI cZ : ClassId} {a : Nat → Nat} {A : Nat → Prop} (C0 : Am p s m args meth c b_M_type (some .int) 3 R_M D [(cI, .int), (cZ, .boolean)]) (hA : ∀ q, s.heap.size ≤ q → A q) {res : Int32 × StM}   {q : Nat} {σ : StM} {x1 x2 t1 : Int32} (h : f_M_type_27 σ x1 x2 t1 = some res) {H : Heap} {locs : List Loc} (hP : va_P D vwCl (wM cI cZ a q σ) H) (hD : va_D A (wM cI cZ a q σ)) (hS : va_S A s.heap H locs) {ls : Array Slot} (hl : lv_has ls 3 [(0, .ref (a 20)), (1, .int x1), (2, .int x2)]) : W p l e (rmK 1 21 0 0) s m args below meth c H locs 0 0 (RwQ below args s D A (fun q (σ : StM) => (wM cI cZ a q σ)) res 0 0) (F0 m 27 ls [.int t1, .ref (a 20)]) := by
  obtain ⟨hx, hb, hr, hml, hown, hts, hlk, hK⟩ := id C0
  unfold f_M_type_27 at h
  replace h := bd h
  obtain ⟨r1, g1, h⟩ := h
  refine rw_V (n := 1) (ci := 4) (As := [.int t1]) (rest := []) (Wn := fun _ => (wM cI cZ a q r1.2)) C0 hA (c_M_good l D cI cZ a q σ t1 g1) wd_388 ⟨wd_389, wd_390, wd_391, wd_352⟩ (by decide +kernel) ⟨Nat.le_of_ble_eq_true rfl, Nat.le_of_ble_eq_true rfl⟩ hP hD hS [0, 1, 2, 3, 4, 5, 6, 7, 8, 9, 10, 11, 12, 13, 14, 15, 16, 17, 18, 19, 20, 21, 22, 23] [] [0, 1, 2, 3, 4, 5, 6, 7, 8, 9, 10, 11, 12, 13, 14, 15, 16, 17, 18, 19, 20, 21, 22, 23] jn_M__C (by decide) jn_M__R (by decide) (by decide) (by decide) jn_M__W rfl rfl rfl hl rfl rfl (Nat.le_of_ble_eq_true rfl) ⟨Nat.zero_le _, Nat.zero_le _⟩ d_M_type_27 (fun H locs _ hP hD hS => ?_)
  try dsimp only at h
  refine lv_if_ne (tgt := 35) hx hb d_M_type_30 (by decide) (fun hc => ?_) (fun hc => ?_)
  · rw [if_neg hc] at h
    refine lv_iload_n hx hb d_M_type_35 rfl (lv_at hl 2 rfl) ?_
    by_cases e36_0 : x2 = 0
    · rw [if_pos e36_0] at h
      refine lv_tableIn (off := 36) (tgt := 72) hx hb d_M_type_36 (by rw [e36_0]; decide) (by rw [e36_0]; decide) (by rw [e36_0]; rfl) (by decide) ?_
      refine lv_aload_n hx hb d_M_type_72 rfl (lv_at hl 0 rfl) ?_
      refine va_get (ci := 4) (v := .ref (a 27)) (C := R_M) (T := F_M) (N := 35) hx hb hts i_M hown hK.1 hP 0 rfl rfl 11 (by decide) (hts _ wd_353) (fun _ h9 => h9) rfl d_M_type_73 ?_
      refine lv_iload_n hx hb d_M_type_76 rfl (lv_at hl 1 rfl) ?_
      replace h := gd h
      obtain ⟨hi, h⟩ := h
      refine va_iald hx hb hK.1 hP 7 0 rfl rfl hi d_M_type_77 ?_
      exact rw_ret C0 hP hD hS (Option.some.inj h) d_M_type_78
    · rw [if_neg e36_0] at h
      by_cases e36_1 : x2 = 1
      · rw [if_pos e36_1] at h
        refine lv_tableIn (off := 43) (tgt := 79) hx hb d_M_type_36 (by rw [e36_1]; decide) (by rw [e36_1]; decide) (by rw [e36_1]; rfl) (by decide) ?_
        refine lv_aload_n hx hb d_M_type_79 rfl (lv_at hl 0 rfl) ?_
        refine va_get (ci := 4) (v := .ref (a 28)) (C := R_M) (T := F_M) (N := 35) hx hb hts i_M hown hK.1 hP 0 rfl rfl 12 (by decide) (hts _ wd_356) (fun _ h9 => h9) rfl d_M_type_80 ?_
        refine lv_iload_n hx hb d_M_type_83 rfl (lv_at hl 1 rfl) ?_
        replace h := gd h
        obtain ⟨hi, h⟩ := h
        refine va_iald hx hb hK.1 hP 8 0 rfl rfl hi d_M_type_84 ?_
        exact rw_ret C0 hP hD hS (Option.some.inj h) d_M_type_85
      · rw [if_neg e36_1] at h
        by_cases e36_2 : x2 = 2
        · rw [if_pos e36_2] at h
          refine lv_tableIn (off := 50) (tgt := 86) hx hb d_M_type_36 (by rw [e36_2]; decide) (by rw [e36_2]; decide) (by rw [e36_2]; rfl) (by decide) ?_
          refine lv_aload_n hx hb d_M_type_86 rfl (lv_at hl 0 rfl) ?_
          refine va_get (ci := 4) (v := .ref (a 29)) (C := R_M) (T := F_M) (N := 35) hx hb hts i_M hown hK.1 hP 0 rfl rfl 13 (by decide) (hts _ wd_357) (fun _ h9 => h9) rfl d_M_type_87 ?_
          refine lv_iload_n hx hb d_M_type_90 rfl (lv_at hl 1 rfl) ?_
          replace h := gd h
          obtain ⟨hi, h⟩ := h
          refine va_iald hx hb hK.1 hP 9 0 rfl rfl hi d_M_type_91 ?_
          exact rw_ret C0 hP hD hS (Option.some.inj h) d_M_type_92
        · rw [if_neg e36_2] at h
          by_cases e36_3 : x2 = 3
          · rw [if_pos e36_3] at h
            refine lv_tableIn (off := 57) (tgt := 93) hx hb d_M_type_36 (by rw [e36_3]; decide) (by rw [e36_3]; decide) (by rw [e36_3]; rfl) (by decide) ?_
            refine lv_aload_n hx hb d_M_type_93 rfl (lv_at hl 0 rfl) ?_
            refine va_get (ci := 4) (v := .ref (a 30)) (C := R_M) (T := F_M) (N := 35) hx hb hts i_M hown hK.1 hP 0 rfl rfl 14 (by decide) (hts _ wd_358) (fun _ h9 => h9) rfl d_M_type_94 ?_
            refine lv_iload_n hx hb d_M_type_97 rfl (lv_at hl 1 rfl) ?_
            replace h := gd h
            obtain ⟨hi, h⟩ := h
            refine va_iald hx hb hK.1 hP 10 0 rfl rfl hi d_M_type_98 ?_
            exact rw_ret C0 hP hD hS (Option.some.inj h) d_M_type_99
          · rw [if_neg e36_3] at h
            by_cases e36_4 : x2 = 4
            · rw [if_pos e36_4] at h
              refine lv_tableIn (off := 64) (tgt := 100) hx hb d_M_type_36 (by rw [e36_4]; decide) (by rw [e36_4]; decide) (by rw [e36_4]; rfl) (by decide) ?_
              refine lv_aload_n hx hb d_M_type_100 rfl (lv_at hl 0 rfl) ?_
              refine va_get (ci := 4) (v := .ref (a 32)) (C := R_M) (T := F_M) (N := 35) hx hb hts i_M hown hK.1 hP 0 rfl rfl 16 (by decide) (hts _ wd_354) (fun _ h9 => h9) rfl d_M_type_101 ?_
              refine lv_iload_n hx hb d_M_type_104 rfl (lv_at hl 1 rfl) ?_
              replace h := gd h
              obtain ⟨hi, h⟩ := h
              refine va_iald hx hb hK.1 hP 12 0 rfl rfl hi d_M_type_105 ?_
              exact rw_ret C0 hP hD hS (Option.some.inj h) d_M_type_106
            · rw [if_neg e36_4] at h
              refine lv_tableOut (tgt := 107) hx hb d_M_type_36 (by have n0 := lv_neT (a := 0) e36_0 (by decide); have n1 := lv_neT (a := 1) e36_1 (by decide); have n2 := lv_neT (a := 2) e36_2 (by decide); have n3 := lv_neT (a := 3) e36_3 (by decide); have n4 := lv_neT (a := 4) e36_4 (by decide); omega) (by decide) ?_
              refine lv_aload_n hx hb d_M_type_107 rfl (lv_at hl 0 rfl) ?_
              refine va_get (ci := 4) (v := .ref (a 31)) (C := R_M) (T := F_M) (N := 35) hx hb hts i_M hown hK.1 hP 0 rfl rfl 15 (by decide) (hts _ wd_363) (fun _ h9 => h9) rfl d_M_type_108 ?_
              refine lv_iload_n hx hb d_M_type_111 rfl (lv_at hl 1 rfl) ?_
              replace h := gd h
              obtain ⟨hi, h⟩ := h
              refine va_iald hx hb hK.1 hP 11 0 rfl rfl hi d_M_type_112 ?_
              exact rw_ret C0 hP hD hS (Option.some.inj h) d_M_type_113
  · rw [if_pos hc] at h
    refine lv_iconst (v := 0) hx hb d_M_type_33 (by decide) ?_
    exact rw_ret C0 hP hD hS (Option.some.inj h) d_M_type_34
set_option maxHeartbeats 4000000 in
set_option maxRecDepth 100000 in
theorem t_M_type_22 {p : Program} {l : Launch} {e : Env} {s : State} {m : MethodId} {args : Array Value} {below : List Frame} {meth : Method} {c : Code} {D : va_G} {cI cZ : ClassId} {a : Nat → Nat} {A : Nat → Prop} (C0 : Am p s m args meth c b_M_type (some .int) 3 R_M D [(cI, .int), (cZ, .boolean)]) (hA : ∀ q, s.heap.size ≤ q → A q) {res : Int32 × StM}   {q : Nat} {σ : StM} {x1 x2 : Int32} (h : f_M_type_22 σ x1 x2 = some res) {H : Heap} {locs : List Loc} (hP : va_P D vwCl (wM cI cZ a q σ) H) (hD : va_D A (wM cI cZ a q σ)) (hS : va_S A s.heap H locs) {ls : Array Slot} (hl : lv_has ls 3 [(0, .ref (a 20)), (1, .int x1), (2, .int x2)]) : W p l e (rmK 1 21 0 0) s m args below meth c H locs 0 0 (RwQ below args s D A (fun q (σ : StM) => (wM cI cZ a q σ)) res 0 0) (F0 m 22 ls [.ref (a 20)]) := by
  obtain ⟨hx, hb, hr, hml, hown, hts, hlk, hK⟩ := id C0
  unfold f_M_type_22 at h
  refine lv_iconst (v := 2) hx hb d_M_type_22 (by decide) ?_
  refine lv_goto (tgt := 27) hx hb d_M_type_23 (by decide) ?_
  exact t_M_type_27 (a := a) C0 hA  h hP hD hS (lv_sub hl [0, 1, 2] rfl)
set_option maxHeartbeats 4000000 in
set_option maxRecDepth 100000 in
theorem t_M_type_0 {p : Program} {l : Launch} {e : Env} {s : State} {m : MethodId} {args : Array Value} {below : List Frame} {meth : Method} {c : Code} {D : va_G} {cI cZ : ClassId} {a : Nat → Nat} {A : Nat → Prop} (C0 : Am p s m args meth c b_M_type (some .int) 3 R_M D [(cI, .int), (cZ, .boolean)]) (hA : ∀ q, s.heap.size ≤ q → A q) {res : Int32 × StM}   {q : Nat} {σ : StM} {x1 x2 : Int32} (h : f_M_type σ x1 x2 = some res) {H : Heap} {locs : List Loc} (hP : va_P D vwCl (wM cI cZ a q σ) H) (hD : va_D A (wM cI cZ a q σ)) (hS : va_S A s.heap H locs) {ls : Array Slot} (hl : lv_has ls 3 [(0, .ref (a 20)), (1, .int x1), (2, .int x2)]) : W p l e (rmK 1 21 0 0) s m args below meth c H locs 0 0 (RwQ below args s D A (fun q (σ : StM) => (wM cI cZ a q σ)) res 0 0) (F0 m 0 ls []) := by
  obtain ⟨hx, hb, hr, hml, hown, hts, hlk, hK⟩ := id C0
  unfold f_M_type at h
  refine lv_aload_n hx hb d_M_type_0 rfl (lv_at hl 0 rfl) ?_
  refine lv_aload_n hx hb d_M_type_1 rfl (lv_at hl 0 rfl) ?_
  refine lv_iload_n hx hb d_M_type_2 rfl (lv_at hl 1 rfl) ?_
  refine ro_V (n := 1) (ci := 4) (As := [.int x1]) (rest := [.ref (a 20)]) C0 (c_M_isType l D cI cZ a q σ x1 rfl) wd_427 ⟨wd_428, wd_429, wd_430, wd_352⟩ (by decide +kernel) ⟨Nat.le_of_ble_eq_true rfl, Nat.le_of_ble_eq_true rfl⟩ hP rfl rfl rfl hl rfl rfl (Nat.le_of_ble_eq_true rfl) ⟨Nat.zero_le _, Nat.zero_le _⟩ d_M_type_3 ?_
  refine lv_if_ne (tgt := 13) hx hb d_M_type_6 (by decide) (fun hc => ?_) (fun hc => ?_)
  · rw [if_neg hc] at h
    refine lv_iload_n hx hb d_M_type_13 rfl (lv_at hl 2 rfl) ?_
    refine lv_if_lt (tgt := 22) hx hb d_M_type_14 (by decide) (fun hc => ?_) (fun hc => ?_)
    · rw [if_pos hc] at h
      exact t_M_type_22 (a := a) C0 hA  h hP hD hS (lv_sub hl [0, 1, 2] rfl)
    · rw [if_neg hc] at h
      refine lv_iload_n hx hb d_M_type_17 rfl (lv_at hl 2 rfl) ?_
      refine lv_iconst (v := 5) hx hb d_M_type_18 (by decide) ?_
      refine lv_icmp_le (tgt := 26) hx hb d_M_type_19 (by decide) (fun hc => ?_) (fun hc => ?_)
      · rw [if_pos hc] at h
        refine lv_iconst (v := 0) hx hb d_M_type_26 (by decide) ?_
        exact t_M_type_27 (a := a) C0 hA  h hP hD hS (lv_sub hl [0, 1, 2] rfl)
      · rw [if_neg hc] at h
        exact t_M_type_22 (a := a) C0 hA  h hP hD hS (lv_sub hl [0, 1, 2] rfl)
  · rw [if_pos hc] at h
    refine lv_iconst (v := 1) hx hb d_M_type_9 (by decide) ?_
    refine lv_goto (tgt := 27) hx hb d_M_type_10 (by decide) ?_
    exact t_M_type_27 (a := a) C0 hA  h hP hD hS (lv_sub hl [0, 1, 2] rfl)
set_option maxHeartbeats 4000000 in
set_option maxRecDepth 100000 in
theorem c_M_type (l : Launch) (D : va_G) (cI cZ : ClassId) (a : Nat → Nat) (q : Nat) (σ : StM) (x1 : Int32) (x2 : Int32) {res : Int32 × StM} (h : f_M_type σ x1 x2 = some res) : RwM l y_M_type b_M_type 3 (some .int) 1 21 D [(cI, .int), (cZ, .boolean)] [.ref (a 20), .int x1, .int x2] (fun q (σ : StM) => (wM cI cZ a q σ)) q σ res :=
  rw_of (by decide) (Nat.le_of_ble_eq_true rfl) (fun p e s m args below meth c ls A C0 hA hP hD hS hl => t_M_type_0 (a := a) C0 hA h hP hD hS (lv_sub hl [0, 1, 2] rfl))
-- part 07.6M.33M_part.lean.txt
def f_M_part_28 (σ : StM) (x1 x2 t1 : Int32) : Option (Int32 × StM) :=
  (f_M_good σ t1).bind fun r1 =>
  if r1.1 = 0 then
    some (0, r1.2)
  else
    if ((30 * x1) + x2) < 0 ∨ 9000 ≤ ((30 * x1) + x2).toNatClampNeg then none else
    some (((M_partRow r1.2) ((30 * x1) + x2).toNatClampNeg), r1.2)
def f_M_part_27 (σ : StM) (x1 x2 : Int32) : Option (Int32 × StM) :=
  f_M_part_28 σ x1 x2 1
def f_M_part (σ : StM) (x1 x2 : Int32) : Option (Int32 × StM) :=
  if (f_M_isType σ x1) = 0 then
    f_M_part_27 σ x1 x2
  else
    if x2 < 0 then
      f_M_part_27 σ x1 x2
    else
      if x1 < 0 ∨ 300 ≤ x1.toNatClampNeg then none else
      if ((M_partCount σ) x1.toNatClampNeg) ≤ x2 then
        f_M_part_27 σ x1 x2
      else
        f_M_part_28 σ x1 x2 0
set_option maxHeartbeats 4000000 in
set_option maxRecDepth 100000 in
theorem t_M_part_28 {p : Program} {l : Launch} {e : Env} {s : State} {m : MethodId} {args : Array Value} {below : List Frame} {meth : Method} {c : Code} {D : va_G} {cI cZ : ClassId} {a : Nat → Nat} {A : Nat → Prop} (C0 : Am p s m args meth c b_M_part (some .int) 3 R_M D [(cI, .int), (cZ, .boolean)]) (hA : ∀ q, s.heap.size ≤ q → A q) {res : Int32 × StM}   {q : Nat} {σ : StM} {x1 x2 t1 : Int32} (h : f_M_part_28 σ x1 x2 t1 = some res) {H : Heap} {locs : List Loc} (hP : va_P D vwCl (wM cI cZ a q σ) H) (hD : va_D A (wM cI cZ a q σ)) (hS : va_S A s.heap H locs) {ls : Array Slot} (hl : lv_has ls 3 [(0, .ref (a 20)), (1, .int x1), (2, .int x2)]) : W p l e (rmK 1 21 0 0) s m args below meth c H locs 0 0 (RwQ below args s D A (fun q (σ : StM) => (wM cI cZ a q σ)) res 0 0) (F0 m 28 ls [.int t1, .ref (a 20)]) := by
  obtain ⟨hx, hb, hr, hml, hown, hts, hlk, hK⟩ := id C0
  unfold f_M_part_28 at h
  replace h := bd h
  obtain ⟨r1, g1, h⟩ := h
  refine rw_V (n := 1) (ci := 4) (As := [.int t1]) (rest := []) (Wn := fun _ => (wM cI cZ a q r1.2)) C0 hA (c_M_good l D cI cZ a q σ t1 g1) wd_388 ⟨wd_389, wd_390, wd_391, wd_352⟩ (by decide +kernel) ⟨Nat.le_of_ble_eq_true rfl, Nat.le_of_ble_eq_true rfl⟩ hP hD hS [0, 1, 2, 3, 4, 5, 6, 7, 8, 9, 10, 11, 12, 13, 14, 15, 16, 17, 18, 19, 20, 21, 22, 23] [] [0, 1, 2, 3, 4, 5, 6, 7, 8, 9, 10, 11, 12, 13, 14, 15, 16, 17, 18, 19, 20, 21, 22, 23] jn_M__C (by decide) jn_M__R (by decide) (by decide) (by decide) jn_M__W rfl rfl rfl hl rfl rfl (Nat.le_of_ble_eq_true rfl) ⟨Nat.zero_le _, Nat.zero_le _⟩ d_M_part_28 (fun H locs _ hP hD hS => ?_)
  try dsimp only at h
  refine lv_if_ne (tgt := 36) hx hb d_M_part_31 (by decide) (fun hc => ?_) (fun hc => ?_)
  · rw [if_neg hc] at h
    refine lv_aload_n hx hb d_M_part_36 rfl (lv_at hl 0 rfl) ?_
    refine va_get (ci := 4) (v := .ref (a 33)) (C := R_M) (T := F_M) (N := 35) hx hb hts i_M hown hK.1 hP 0 rfl rfl 17 (by decide) (hts _ wd_355) (fun _ h9 => h9) rfl d_M_part_37 ?_
    refine lv_bipush (v := 30) hx hb d_M_part_40 (by decide) ?_
    refine lv_iload_n hx hb d_M_part_42 rfl (lv_at hl 1 rfl) ?_
    refine lv_imul hx hb d_M_part_43 ?_
    refine lv_iload_n hx hb d_M_part_44 rfl (lv_at hl 2 rfl) ?_
    refine lv_iadd hx hb d_M_part_45 ?_
    replace h := gd h
    obtain ⟨hi, h⟩ := h
    refine va_iald hx hb hK.1 hP 13 0 rfl rfl hi d_M_part_46 ?_
    exact rw_ret C0 hP hD hS (Option.some.inj h) d_M_part_47
  · rw [if_pos hc] at h
    refine lv_iconst (v := 0) hx hb d_M_part_34 (by decide) ?_
    exact rw_ret C0 hP hD hS (Option.some.inj h) d_M_part_35
set_option maxHeartbeats 4000000 in
set_option maxRecDepth 100000 in
theorem t_M_part_27 {p : Program} {l : Launch} {e : Env} {s : State} {m : MethodId} {args : Array Value} {below : List Frame} {meth : Method} {c : Code} {D : va_G} {cI cZ : ClassId} {a : Nat → Nat} {A : Nat → Prop} (C0 : Am p s m args meth c b_M_part (some .int) 3 R_M D [(cI, .int), (cZ, .boolean)]) (hA : ∀ q, s.heap.size ≤ q → A q) {res : Int32 × StM}   {q : Nat} {σ : StM} {x1 x2 : Int32} (h : f_M_part_27 σ x1 x2 = some res) {H : Heap} {locs : List Loc} (hP : va_P D vwCl (wM cI cZ a q σ) H) (hD : va_D A (wM cI cZ a q σ)) (hS : va_S A s.heap H locs) {ls : Array Slot} (hl : lv_has ls 3 [(0, .ref (a 20)), (1, .int x1), (2, .int x2)]) : W p l e (rmK 1 21 0 0) s m args below meth c H locs 0 0 (RwQ below args s D A (fun q (σ : StM) => (wM cI cZ a q σ)) res 0 0) (F0 m 27 ls [.ref (a 20)]) := by
  obtain ⟨hx, hb, hr, hml, hown, hts, hlk, hK⟩ := id C0
  unfold f_M_part_27 at h
  refine lv_iconst (v := 1) hx hb d_M_part_27 (by decide) ?_
  exact t_M_part_28 (a := a) C0 hA  h hP hD hS (lv_sub hl [0, 1, 2] rfl)
set_option maxHeartbeats 4000000 in
set_option maxRecDepth 100000 in
theorem t_M_part_0 {p : Program} {l : Launch} {e : Env} {s : State} {m : MethodId} {args : Array Value} {below : List Frame} {meth : Method} {c : Code} {D : va_G} {cI cZ : ClassId} {a : Nat → Nat} {A : Nat → Prop} (C0 : Am p s m args meth c b_M_part (some .int) 3 R_M D [(cI, .int), (cZ, .boolean)]) (hA : ∀ q, s.heap.size ≤ q → A q) {res : Int32 × StM}   {q : Nat} {σ : StM} {x1 x2 : Int32} (h : f_M_part σ x1 x2 = some res) {H : Heap} {locs : List Loc} (hP : va_P D vwCl (wM cI cZ a q σ) H) (hD : va_D A (wM cI cZ a q σ)) (hS : va_S A s.heap H locs) {ls : Array Slot} (hl : lv_has ls 3 [(0, .ref (a 20)), (1, .int x1), (2, .int x2)]) : W p l e (rmK 1 21 0 0) s m args below meth c H locs 0 0 (RwQ below args s D A (fun q (σ : StM) => (wM cI cZ a q σ)) res 0 0) (F0 m 0 ls []) := by
  obtain ⟨hx, hb, hr, hml, hown, hts, hlk, hK⟩ := id C0
  unfold f_M_part at h
  refine lv_aload_n hx hb d_M_part_0 rfl (lv_at hl 0 rfl) ?_
  refine lv_aload_n hx hb d_M_part_1 rfl (lv_at hl 0 rfl) ?_
  refine lv_iload_n hx hb d_M_part_2 rfl (lv_at hl 1 rfl) ?_
  refine ro_V (n := 1) (ci := 4) (As := [.int x1]) (rest := [.ref (a 20)]) C0 (c_M_isType l D cI cZ a q σ x1 rfl) wd_427 ⟨wd_428, wd_429, wd_430, wd_352⟩ (by decide +kernel) ⟨Nat.le_of_ble_eq_true rfl, Nat.le_of_ble_eq_true rfl⟩ hP rfl rfl rfl hl rfl rfl (Nat.le_of_ble_eq_true rfl) ⟨Nat.zero_le _, Nat.zero_le _⟩ d_M_part_3 ?_
  refine lv_if_eq (tgt := 27) hx hb d_M_part_6 (by decide) (fun hc => ?_) (fun hc => ?_)
  · rw [if_pos hc] at h
    exact t_M_part_27 (a := a) C0 hA  h hP hD hS (lv_sub hl [0, 1, 2] rfl)
  · rw [if_neg hc] at h
    refine lv_iload_n hx hb d_M_part_9 rfl (lv_at hl 2 rfl) ?_
    refine lv_if_lt (tgt := 27) hx hb d_M_part_10 (by decide) (fun hc => ?_) (fun hc => ?_)
    · rw [if_pos hc] at h
      exact t_M_part_27 (a := a) C0 hA  h hP hD hS (lv_sub hl [0, 1, 2] rfl)
    · rw [if_neg hc] at h
      refine lv_iload_n hx hb d_M_part_13 rfl (lv_at hl 2 rfl) ?_
      refine lv_aload_n hx hb d_M_part_14 rfl (lv_at hl 0 rfl) ?_
      refine va_get (ci := 4) (v := .ref (a 32)) (C := R_M) (T := F_M) (N := 35) hx hb hts i_M hown hK.1 hP 0 rfl rfl 16 (by decide) (hts _ wd_354) (fun _ h9 => h9) rfl d_M_part_15 ?_
      refine lv_iload_n hx hb d_M_part_18 rfl (lv_at hl 1 rfl) ?_
      replace h := gd h
      obtain ⟨hi, h⟩ := h
      refine va_iald hx hb hK.1 hP 12 0 rfl rfl hi d_M_part_19 ?_
      refine lv_icmp_ge (tgt := 27) hx hb d_M_part_20 (by decide) (fun hc => ?_) (fun hc => ?_)
      · rw [if_pos hc] at h
        exact t_M_part_27 (a := a) C0 hA  h hP hD hS (lv_sub hl [0, 1, 2] rfl)
      · rw [if_neg hc] at h
        refine lv_iconst (v := 0) hx hb d_M_part_23 (by decide) ?_
        refine lv_goto (tgt := 28) hx hb d_M_part_24 (by decide) ?_
        exact t_M_part_28 (a := a) C0 hA  h hP hD hS (lv_sub hl [0, 1, 2] rfl)
set_option maxHeartbeats 4000000 in
set_option maxRecDepth 100000 in
theorem c_M_part (l : Launch) (D : va_G) (cI cZ : ClassId) (a : Nat → Nat) (q : Nat) (σ : StM) (x1 : Int32) (x2 : Int32) {res : Int32 × StM} (h : f_M_part σ x1 x2 = some res) : RwM l y_M_part b_M_part 3 (some .int) 1 21 D [(cI, .int), (cZ, .boolean)] [.ref (a 20), .int x1, .int x2] (fun q (σ : StM) => (wM cI cZ a q σ)) q σ res :=
  rw_of (by decide) (Nat.le_of_ble_eq_true rfl) (fun p e s m args below meth c ls A C0 hA hP hD hS hl => t_M_part_0 (a := a) C0 hA h hP hD hS (lv_sub hl [0, 1, 2] rfl))
-- part 07.6M.34M_commonOf.lean.txt
def f_M_commonOf_54 (k5 : StM → Int32 → Int32 → Int32 → Int32 → Option (Int32 × StM)) (σ : StM) (x1 x2 x4 t0 : Int32) : Option (Int32 × StM) :=
  k5 σ x1 x2 (t0 ||| 0) (x4 + 1)
def f_M_commonOf_5_s (k5 : StM → Int32 → Int32 → Int32 → Int32 → Option (Int32 × StM)) (σ : StM) (x1 x2 x3 x4 : Int32) : Option (Int32 × StM) :=
  if (M_classes σ) ≤ x4 then
    some (x3, σ)
  else
    (f_M_lookAt σ x1 x4).bind fun r1 =>
    (f_M_lookAt r1.2 x2 x4).bind fun r2 =>
    if (M_found r1.2) = 0 then
      f_M_commonOf_54 k5 r2.2 x1 x2 x4 x3
    else
      if (M_found r2.2) = 0 then
        f_M_commonOf_54 k5 r2.2 x1 x2 x4 x3
      else
        k5 r2.2 x1 x2 (x3 ||| ((1 : Int32) <<< (x4 &&& 31))) (x4 + 1)
def f_M_commonOf_5 : Nat → StM → Int32 → Int32 → Int32 → Int32 → Option (Int32 × StM)
  | 0, _, _, _, _, _ => none
  | n + 1, σ, x1, x2, x3, x4 => f_M_commonOf_5_s (f_M_commonOf_5 n) σ x1 x2 x3 x4
def f_M_commonOf (σ : StM) (x1 x2 : Int32) : Option (Int32 × StM) :=
  f_M_commonOf_5 1000 σ x1 x2 0 0
set_option maxHeartbeats 4000000 in
set_option maxRecDepth 100000 in
theorem t_M_commonOf_54 {p : Program} {l : Launch} {e : Env} {s : State} {m : MethodId} {args : Array Value} {below : List Frame} {meth : Method} {c : Code} {D : va_G} {cI cZ : ClassId} {a : Nat → Nat} {A : Nat → Prop} (C0 : Am p s m args meth c b_M_commonOf (some .int) 6 R_M D [(cI, .int), (cZ, .boolean)]) (hA : ∀ q, s.heap.size ≤ q → A q) {res : Int32 × StM} {k5 : StM → Int32 → Int32 → Int32 → Int32 → Option (Int32 × StM)} (hk5 : ∀ (q : Nat) (σ : StM) (x1 x2 x3 x4 : Int32) (H : Heap) (locs : List Loc) (ls : Array Slot), k5 σ x1 x2 x3 x4 = some res → va_P D vwCl (wM cI cZ a q σ) H → va_D A (wM cI cZ a q σ) → va_S A s.heap H locs → lv_has ls 6 [(0, .ref (a 20)), (1, .int x1), (2, .int x2), (3, .int x3), (4, .int x4)] → W p l e (rmK 3 74 0 0) s m args below meth c H locs 0 0 (RwQ below args s D A (fun q (σ : StM) => (wM cI cZ a q σ)) res 0 0) (F0 m 5 ls []))  {q : Nat} {σ : StM} {x1 x2 x4 t0 : Int32} (h : f_M_commonOf_54 k5 σ x1 x2 x4 t0 = some res) {H : Heap} {locs : List Loc} (hP : va_P D vwCl (wM cI cZ a q σ) H) (hD : va_D A (wM cI cZ a q σ)) (hS : va_S A s.heap H locs) {ls : Array Slot} (hl : lv_has ls 6 [(0, .ref (a 20)), (1, .int x1), (2, .int x2), (4, .int x4)]) : W p l e (rmK 3 74 0 0) s m args below meth c H locs 0 0 (RwQ below args s D A (fun q (σ : StM) => (wM cI cZ a q σ)) res 0 0) (F0 m 54 ls [.int t0]) := by
  obtain ⟨hx, hb, hr, hml, hown, hts, hlk, hK⟩ := id C0
  unfold f_M_commonOf_54 at h
  refine lv_iconst (v := 0) hx hb d_M_commonOf_54 (by decide) ?_
  refine lv_ior hx hb d_M_commonOf_55 ?_
  refine lv_istore_n (lv' := [(3, .int (t0 ||| 0)), (0, .ref (a 20)), (1, .int x1), (2, .int x2), (4, .int x4)]) hx hb d_M_commonOf_56 rfl hl (by decide) rfl (fun ls hl => ?_)
  refine lv_iinc (v := (x4 + 1)) (lv' := [(4, .int (x4 + 1)), (3, .int (t0 ||| 0)), (0, .ref (a 20)), (1, .int x1), (2, .int x2)]) hx hb d_M_commonOf_57 hl (k := 4) rfl rfl (by decide) rfl (fun ls hl => ?_)
  refine lv_goto (tgt := 5) hx hb d_M_commonOf_60 (by decide) ?_
  exact hk5 _ _ _ _ _ _ _ _ _ h hP hD hS (lv_sub hl [2, 3, 4, 1, 0] rfl)
set_option maxHeartbeats 4000000 in
set_option maxRecDepth 100000 in
theorem t_M_commonOf_5_s {p : Program} {l : Launch} {e : Env} {s : State} {m : MethodId} {args : Array Value} {below : List Frame} {meth : Method} {c : Code} {D : va_G} {cI cZ : ClassId} {a : Nat → Nat} {A : Nat → Prop} (C0 : Am p s m args meth c b_M_commonOf (some .int) 6 R_M D [(cI, .int), (cZ, .boolean)]) (hA : ∀ q, s.heap.size ≤ q → A q) {res : Int32 × StM} {k5 : StM → Int32 → Int32 → Int32 → Int32 → Option (Int32 × StM)}  (hk5 : ∀ (q : Nat) (σ : StM) (x1 x2 x3 x4 : Int32) (H : Heap) (locs : List Loc) (ls : Array Slot), k5 σ x1 x2 x3 x4 = some res → va_P D vwCl (wM cI cZ a q σ) H → va_D A (wM cI cZ a q σ) → va_S A s.heap H locs → lv_has ls 6 [(0, .ref (a 20)), (1, .int x1), (2, .int x2), (3, .int x3), (4, .int x4)] → W p l e (rmK 3 74 0 0) s m args below meth c H locs 0 0 (RwQ below args s D A (fun q (σ : StM) => (wM cI cZ a q σ)) res 0 0) (F0 m 5 ls [])) {q : Nat} {σ : StM} {x1 x2 x3 x4 : Int32} (h : f_M_commonOf_5_s k5 σ x1 x2 x3 x4 = some res) {H : Heap} {locs : List Loc} (hP : va_P D vwCl (wM cI cZ a q σ) H) (hD : va_D A (wM cI cZ a q σ)) (hS : va_S A s.heap H locs) {ls : Array Slot} (hl : lv_has ls 6 [(0, .ref (a 20)), (1, .int x1), (2, .int x2), (3, .int x3), (4, .int x4)]) : W p l e (rmK 3 74 0 0) s m args below meth c H locs 0 0 (RwQ below args s D A (fun q (σ : StM) => (wM cI cZ a q σ)) res 0 0) (F0 m 5 ls []) := by
  obtain ⟨hx, hb, hr, hml, hown, hts, hlk, hK⟩ := id C0
  unfold f_M_commonOf_5_s at h
  refine lv_iload hx hb d_M_commonOf_5 (lv_at hl 4 rfl) ?_
  refine lv_aload_n hx hb d_M_commonOf_7 rfl (lv_at hl 0 rfl) ?_
  refine va_get (ci := 4) (v := .int (M_classes σ)) (C := R_M) (T := F_M) (N := 35) hx hb hts i_M hown hK.1 hP 0 rfl rfl 2 (by decide) (hts _ wd_343) (fun _ h9 => h9) rfl d_M_commonOf_8 ?_
  refine lv_icmp_ge (tgt := 63) hx hb d_M_commonOf_11 (by decide) (fun hc => ?_) (fun hc => ?_)
  · rw [if_pos hc] at h
    refine lv_iload_n hx hb d_M_commonOf_63 rfl (lv_at hl 3 rfl) ?_
    exact rw_ret C0 hP hD hS (Option.some.inj h) d_M_commonOf_64
  · rw [if_neg hc] at h
    refine lv_aload_n hx hb d_M_commonOf_14 rfl (lv_at hl 0 rfl) ?_
    refine lv_iload_n hx hb d_M_commonOf_15 rfl (lv_at hl 1 rfl) ?_
    refine lv_iload hx hb d_M_commonOf_16 (lv_at hl 4 rfl) ?_
    replace h := bd h
    obtain ⟨r1, g1, h⟩ := h
    refine rw_Vv (n := 2) (ci := 4) (As := [.int x1, .int x4]) (rest := []) (Wn := fun _ => (wM cI cZ a q r1.2)) C0 hA (c_M_lookAt l D cI cZ a q σ x1 x4 g1) wd_371 ⟨wd_372, wd_373, wd_374, wd_352⟩ (by decide +kernel) ⟨Nat.le_of_ble_eq_true rfl, Nat.le_of_ble_eq_true rfl⟩ hP hD hS [0, 1, 2, 3, 4, 5, 6, 7, 8, 9, 10, 11, 12, 13, 14, 15, 16, 17, 18, 19, 20, 21, 22, 23] [] [0, 1, 2, 3, 4, 5, 6, 7, 8, 9, 10, 11, 12, 13, 14, 15, 16, 17, 18, 19, 20, 21, 22, 23] jn_M__C (by decide) jn_M__R (by decide) (by decide) (by decide) jn_M__W rfl rfl rfl hl rfl rfl (Nat.le_of_ble_eq_true rfl) ⟨Nat.zero_le _, Nat.zero_le _⟩ d_M_commonOf_18 (fun H locs _ hP hD hS => ?_)
    try dsimp only at h
    refine lv_aload_n hx hb d_M_commonOf_21 rfl (lv_at hl 0 rfl) ?_
    refine va_get (ci := 4) (v := .int (M_found r1.2)) (C := R_M) (T := F_M) (N := 35) hx hb hts i_M hown hK.1 hP 0 rfl rfl 19 (by decide) (hts _ wd_345) (fun _ h9 => h9) rfl d_M_commonOf_22 ?_
    refine lv_istore (lv' := [(5, .int (M_found r1.2)), (0, .ref (a 20)), (1, .int x1), (2, .int x2), (3, .int x3), (4, .int x4)]) hx hb d_M_commonOf_25 hl (by decide) rfl (fun ls hl => ?_)
    refine lv_aload_n hx hb d_M_commonOf_27 rfl (lv_at hl 1 rfl) ?_
    refine lv_iload_n hx hb d_M_commonOf_28 rfl (lv_at hl 3 rfl) ?_
    refine lv_iload hx hb d_M_commonOf_29 (lv_at hl 5 rfl) ?_
    replace h := bd h
    obtain ⟨r2, g2, h⟩ := h
    refine rw_Vv (n := 2) (ci := 4) (As := [.int x2, .int x4]) (rest := []) (Wn := fun _ => (wM cI cZ a q r2.2)) C0 hA (c_M_lookAt l D cI cZ a q r1.2 x2 x4 g2) wd_371 ⟨wd_372, wd_373, wd_374, wd_352⟩ (by decide +kernel) ⟨Nat.le_of_ble_eq_true rfl, Nat.le_of_ble_eq_true rfl⟩ hP hD hS [0, 1, 2, 3, 4, 5, 6, 7, 8, 9, 10, 11, 12, 13, 14, 15, 16, 17, 18, 19, 20, 21, 22, 23] [] [0, 1, 2, 3, 4, 5, 6, 7, 8, 9, 10, 11, 12, 13, 14, 15, 16, 17, 18, 19, 20, 21, 22, 23] jn_M__C (by decide) jn_M__R (by decide) (by decide) (by decide) jn_M__W rfl rfl rfl hl rfl rfl (Nat.le_of_ble_eq_true rfl) ⟨Nat.zero_le _, Nat.zero_le _⟩ d_M_commonOf_31 (fun H locs _ hP hD hS => ?_)
    try dsimp only at h
    refine lv_iload_n hx hb d_M_commonOf_34 rfl (lv_at hl 4 rfl) ?_
    refine lv_iload hx hb d_M_commonOf_35 (lv_at hl 0 rfl) ?_
    refine lv_if_eq (tgt := 54) hx hb d_M_commonOf_37 (by decide) (fun hc => ?_) (fun hc => ?_)
    · rw [if_pos hc] at h
      exact t_M_commonOf_54 (a := a) C0 hA hk5 h hP hD hS (lv_sub hl [1, 2, 3, 5] rfl)
    · rw [if_neg hc] at h
      refine lv_aload_n hx hb d_M_commonOf_40 rfl (lv_at hl 1 rfl) ?_
      refine va_get (ci := 4) (v := .int (M_found r2.2)) (C := R_M) (T := F_M) (N := 35) hx hb hts i_M hown hK.1 hP 0 rfl rfl 19 (by decide) (hts _ wd_345) (fun _ h9 => h9) rfl d_M_commonOf_41 ?_
      refine lv_if_eq (tgt := 54) hx hb d_M_commonOf_44 (by decide) (fun hc => ?_) (fun hc => ?_)
      · rw [if_pos hc] at h
        exact t_M_commonOf_54 (a := a) C0 hA hk5 h hP hD hS (lv_sub hl [1, 2, 3, 5] rfl)
      · rw [if_neg hc] at h
        refine lv_iconst (v := 1) hx hb d_M_commonOf_47 (by decide) ?_
        refine lv_iload hx hb d_M_commonOf_48 (lv_at hl 5 rfl) ?_
        refine lv_ishl hx hb d_M_commonOf_50 ?_
        refine lv_goto (tgt := 55) hx hb d_M_commonOf_51 (by decide) ?_
        refine lv_ior hx hb d_M_commonOf_55 ?_
        refine lv_istore_n (lv' := [(3, .int (x3 ||| ((1 : Int32) <<< (x4 &&& 31)))), (5, .int (M_found r1.2)), (0, .ref (a 20)), (1, .int x1), (2, .int x2), (4, .int x4)]) hx hb d_M_commonOf_56 rfl hl (by decide) rfl (fun ls hl => ?_)
        refine lv_iinc (v := (x4 + 1)) (lv' := [(4, .int (x4 + 1)), (3, .int (x3 ||| ((1 : Int32) <<< (x4 &&& 31)))), (5, .int (M_found r1.2)), (0, .ref (a 20)), (1, .int x1), (2, .int x2)]) hx hb d_M_commonOf_57 hl (k := 5) rfl rfl (by decide) rfl (fun ls hl => ?_)
        refine lv_goto (tgt := 5) hx hb d_M_commonOf_60 (by decide) ?_
        exact hk5 _ _ _ _ _ _ _ _ _ h hP hD hS (lv_sub hl [3, 4, 5, 1, 0] rfl)
set_option maxHeartbeats 4000000 in
set_option maxRecDepth 100000 in
theorem t_M_commonOf_5 {p : Program} {l : Launch} {e : Env} {s : State} {m : MethodId} {args : Array Value} {below : List Frame} {meth : Method} {c : Code} {D : va_G} {cI cZ : ClassId} {a : Nat → Nat} {A : Nat → Prop} (C0 : Am p s m args meth c b_M_commonOf (some .int) 6 R_M D [(cI, .int), (cZ, .boolean)]) (hA : ∀ q, s.heap.size ≤ q → A q) {res : Int32 × StM}  {n : Nat} {q : Nat} {σ : StM} {x1 x2 x3 x4 : Int32} (h : f_M_commonOf_5  n σ x1 x2 x3 x4 = some res) {H : Heap} {locs : List Loc} (hP : va_P D vwCl (wM cI cZ a q σ) H) (hD : va_D A (wM cI cZ a q σ)) (hS : va_S A s.heap H locs) {ls : Array Slot} (hl : lv_has ls 6 [(0, .ref (a 20)), (1, .int x1), (2, .int x2), (3, .int x3), (4, .int x4)]) : W p l e (rmK 3 74 0 0) s m args below meth c H locs 0 0 (RwQ below args s D A (fun q (σ : StM) => (wM cI cZ a q σ)) res 0 0) (F0 m 5 ls []) := by
  induction n generalizing q σ x1 x2 x3 x4 H locs ls with
  | zero => cases h
  | succ n ih => exact t_M_commonOf_5_s (a := a) C0 hA  (fun _ _ _ _ _ _ _ _ _ h hP hD hS hl => ih h hP hD hS hl) h hP hD hS hl
set_option maxHeartbeats 4000000 in
set_option maxRecDepth 100000 in
theorem t_M_commonOf_0 {p : Program} {l : Launch} {e : Env} {s : State} {m : MethodId} {args : Array Value} {below : List Frame} {meth : Method} {c : Code} {D : va_G} {cI cZ : ClassId} {a : Nat → Nat} {A : Nat → Prop} (C0 : Am p s m args meth c b_M_commonOf (some .int) 6 R_M D [(cI, .int), (cZ, .boolean)]) (hA : ∀ q, s.heap.size ≤ q → A q) {res : Int32 × StM}   {q : Nat} {σ : StM} {x1 x2 : Int32} (h : f_M_commonOf σ x1 x2 = some res) {H : Heap} {locs : List Loc} (hP : va_P D vwCl (wM cI cZ a q σ) H) (hD : va_D A (wM cI cZ a q σ)) (hS : va_S A s.heap H locs) {ls : Array Slot} (hl : lv_has ls 6 [(0, .ref (a 20)), (1, .int x1), (2, .int x2)]) : W p l e (rmK 3 74 0 0) s m args below meth c H locs 0 0 (RwQ below args s D A (fun q (σ : StM) => (wM cI cZ a q σ)) res 0 0) (F0 m 0 ls []) := by
  obtain ⟨hx, hb, hr, hml, hown, hts, hlk, hK⟩ := id C0
  unfold f_M_commonOf at h
  refine lv_iconst (v := 0) hx hb d_M_commonOf_0 (by decide) ?_
  refine lv_istore_n (lv' := [(3, .int 0), (0, .ref (a 20)), (1, .int x1), (2, .int x2)]) hx hb d_M_commonOf_1 rfl hl (by decide) rfl (fun ls hl => ?_)
  refine lv_iconst (v := 0) hx hb d_M_commonOf_2 (by decide) ?_
  refine lv_istore (lv' := [(4, .int 0), (3, .int 0), (0, .ref (a 20)), (1, .int x1), (2, .int x2)]) hx hb d_M_commonOf_3 hl (by decide) rfl (fun ls hl => ?_)
  exact t_M_commonOf_5 (a := a) C0 hA  h hP hD hS (lv_sub hl [2, 3, 4, 1, 0] rfl)
set_option maxHeartbeats 4000000 in
set_option maxRecDepth 100000 in
theorem c_M_commonOf (l : Launch) (D : va_G) (cI cZ : ClassId) (a : Nat → Nat) (q : Nat) (σ : StM) (x1 : Int32) (x2 : Int32) {res : Int32 × StM} (h : f_M_commonOf σ x1 x2 = some res) : RwM l y_M_commonOf b_M_commonOf 6 (some .int) 3 74 D [(cI, .int), (cZ, .boolean)] [.ref (a 20), .int x1, .int x2] (fun q (σ : StM) => (wM cI cZ a q σ)) q σ res :=
  rw_of (by decide) (Nat.le_of_ble_eq_true rfl) (fun p e s m args below meth c ls A C0 hA hP hD hS hl => t_M_commonOf_0 (a := a) C0 hA h hP hD hS (lv_sub hl [0, 1, 2] rfl))
-- part 07.6M.35M_leastOf.lean.txt
def f_M_leastOf_4_s (k4 : StM → Int32 → Int32 → Int32 → Option Int32) (σ : StM) (x1 x2 x3 : Int32) : Option Int32 :=
  if (M_classes σ) ≤ x3 then
    some x2
  else
    if ((x1 >>> (x3 &&& 31)) &&& 1) = 1 then
      if x3 < 0 ∨ 30 ≤ x3.toNatClampNeg then none else
      k4 σ x1 (x2 &&& (((M_over σ) x3.toNatClampNeg) ^^^ (-1))) (x3 + 1)
    else
      k4 σ x1 x2 (x3 + 1)
def f_M_leastOf_4 : Nat → StM → Int32 → Int32 → Int32 → Option Int32
  | 0, _, _, _, _ => none
  | n + 1, σ, x1, x2, x3 => f_M_leastOf_4_s (f_M_leastOf_4 n) σ x1 x2 x3
def f_M_leastOf (σ : StM) (x1 : Int32) : Option Int32 :=
  f_M_leastOf_4 1000 σ x1 x1 0
set_option maxHeartbeats 4000000 in
set_option maxRecDepth 100000 in
theorem t_M_leastOf_4_s {p : Program} {l : Launch} {e : Env} {s : State} {m : MethodId} {args : Array Value} {below : List Frame} {meth : Method} {c : Code} {D : va_G} {cI cZ : ClassId} {a : Nat → Nat} {q : Nat} {σ : StM} (C0 : Am p s m args meth c b_M_leastOf (some .int) 4 R_M D [(cI, .int), (cZ, .boolean)]) (hP : va_P D vwCl (wM cI cZ a q σ) s.heap) {val : Int32} {k4 : StM → Int32 → Int32 → Int32 → Option Int32}  (hk4 : ∀ (x1 x2 x3 : Int32) (ls : Array Slot), k4 σ x1 x2 x3 = some val → lv_has ls 4 [(0, .ref (a 20)), (1, .int x1), (2, .int x2), (3, .int x3)] → RoW p l e (rmK 0 0 0 0) s m args below meth c val (F0 m 4 ls [])) {x1 x2 x3 : Int32} (h : f_M_leastOf_4_s k4 σ x1 x2 x3 = some val) {ls : Array Slot} (hl : lv_has ls 4 [(0, .ref (a 20)), (1, .int x1), (2, .int x2), (3, .int x3)]) : RoW p l e (rmK 0 0 0 0) s m args below meth c val (F0 m 4 ls []) := by
  obtain ⟨hx, hb, hr, hml, hown, hts, hlk, hK⟩ := id C0
  unfold f_M_leastOf_4_s at h
  refine lv_iload_n hx hb d_M_leastOf_4 rfl (lv_at hl 3 rfl) ?_
  refine lv_aload_n hx hb d_M_leastOf_5 rfl (lv_at hl 0 rfl) ?_
  refine va_get (ci := 4) (v := .int (M_classes σ)) (C := R_M) (T := F_M) (N := 35) hx hb hts i_M hown hK.1 hP 0 rfl rfl 2 (by decide) (hts _ wd_343) (fun _ h9 => h9) rfl d_M_leastOf_6 ?_
  refine lv_icmp_ge (tgt := 38) hx hb d_M_leastOf_9 (by decide) (fun hc => ?_) (fun hc => ?_)
  · rw [if_pos hc] at h
    refine lv_iload_n hx hb d_M_leastOf_38 rfl (lv_at hl 2 rfl) ?_
    exact ro_ret C0 (Option.some.inj h) d_M_leastOf_39
  · rw [if_neg hc] at h
    refine lv_iload_n hx hb d_M_leastOf_12 rfl (lv_at hl 1 rfl) ?_
    refine lv_iload_n hx hb d_M_leastOf_13 rfl (lv_at hl 3 rfl) ?_
    refine lv_ishr hx hb d_M_leastOf_14 ?_
    refine lv_iconst (v := 1) hx hb d_M_leastOf_15 (by decide) ?_
    refine lv_iand hx hb d_M_leastOf_16 ?_
    refine lv_iconst (v := 1) hx hb d_M_leastOf_17 (by decide) ?_
    refine lv_icmp_ne (tgt := 32) hx hb d_M_leastOf_18 (by decide) (fun hc => ?_) (fun hc => ?_)
    · rw [if_neg hc] at h
      refine lv_iinc (v := (x3 + 1)) (lv' := [(3, .int (x3 + 1)), (0, .ref (a 20)), (1, .int x1), (2, .int x2)]) hx hb d_M_leastOf_32 hl (k := 3) rfl rfl (by decide) rfl (fun ls hl => ?_)
      refine lv_goto (tgt := 4) hx hb d_M_leastOf_35 (by decide) ?_
      exact hk4 _ _ _ _ h (lv_sub hl [1, 2, 3, 0] rfl)
    · rw [if_pos hc] at h
      refine lv_iload_n hx hb d_M_leastOf_21 rfl (lv_at hl 2 rfl) ?_
      refine lv_aload_n hx hb d_M_leastOf_22 rfl (lv_at hl 0 rfl) ?_
      refine va_get (ci := 4) (v := .ref (a 26)) (C := R_M) (T := F_M) (N := 35) hx hb hts i_M hown hK.1 hP 0 rfl rfl 9 (by decide) (hts _ wd_341) (fun _ h9 => h9) rfl d_M_leastOf_23 ?_
      refine lv_iload_n hx hb d_M_leastOf_26 rfl (lv_at hl 3 rfl) ?_
      replace h := gd h
      obtain ⟨hi, h⟩ := h
      refine va_iald hx hb hK.1 hP 6 0 rfl rfl hi d_M_leastOf_27 ?_
      refine lv_iconst (v := (-1)) hx hb d_M_leastOf_28 (by decide) ?_
      refine lv_ixor hx hb d_M_leastOf_29 ?_
      refine lv_iand hx hb d_M_leastOf_30 ?_
      refine lv_istore_n (lv' := [(2, .int (x2 &&& (((M_over σ) x3.toNatClampNeg) ^^^ (-1)))), (0, .ref (a 20)), (1, .int x1), (3, .int x3)]) hx hb d_M_leastOf_31 rfl hl (by decide) rfl (fun ls hl => ?_)
      refine lv_iinc (v := (x3 + 1)) (lv' := [(3, .int (x3 + 1)), (2, .int (x2 &&& (((M_over σ) x3.toNatClampNeg) ^^^ (-1)))), (0, .ref (a 20)), (1, .int x1)]) hx hb d_M_leastOf_32 hl (k := 3) rfl rfl (by decide) rfl (fun ls hl => ?_)
      refine lv_goto (tgt := 4) hx hb d_M_leastOf_35 (by decide) ?_
      exact hk4 _ _ _ _ h (lv_sub hl [2, 3, 1, 0] rfl)
set_option maxHeartbeats 4000000 in
set_option maxRecDepth 100000 in
theorem t_M_leastOf_4 {p : Program} {l : Launch} {e : Env} {s : State} {m : MethodId} {args : Array Value} {below : List Frame} {meth : Method} {c : Code} {D : va_G} {cI cZ : ClassId} {a : Nat → Nat} {q : Nat} {σ : StM} (C0 : Am p s m args meth c b_M_leastOf (some .int) 4 R_M D [(cI, .int), (cZ, .boolean)]) (hP : va_P D vwCl (wM cI cZ a q σ) s.heap) {val : Int32}  {n : Nat} {x1 x2 x3 : Int32} (h : f_M_leastOf_4  n σ x1 x2 x3 = some val) {ls : Array Slot} (hl : lv_has ls 4 [(0, .ref (a 20)), (1, .int x1), (2, .int x2), (3, .int x3)]) : RoW p l e (rmK 0 0 0 0) s m args below meth c val (F0 m 4 ls []) := by
  induction n generalizing x1 x2 x3 ls with
  | zero => cases h
  | succ n ih => exact t_M_leastOf_4_s (a := a) C0 hP  (fun _ _ _ _ h hl => ih h hl) h hl
set_option maxHeartbeats 4000000 in
set_option maxRecDepth 100000 in
theorem t_M_leastOf_0 {p : Program} {l : Launch} {e : Env} {s : State} {m : MethodId} {args : Array Value} {below : List Frame} {meth : Method} {c : Code} {D : va_G} {cI cZ : ClassId} {a : Nat → Nat} {q : Nat} {σ : StM} (C0 : Am p s m args meth c b_M_leastOf (some .int) 4 R_M D [(cI, .int), (cZ, .boolean)]) (hP : va_P D vwCl (wM cI cZ a q σ) s.heap) {val : Int32}   {x1 : Int32} (h : f_M_leastOf σ x1 = some val) {ls : Array Slot} (hl : lv_has ls 4 [(0, .ref (a 20)), (1, .int x1)]) : RoW p l e (rmK 0 0 0 0) s m args below meth c val (F0 m 0 ls []) := by
  obtain ⟨hx, hb, hr, hml, hown, hts, hlk, hK⟩ := id C0
  unfold f_M_leastOf at h
  refine lv_iload_n hx hb d_M_leastOf_0 rfl (lv_at hl 1 rfl) ?_
  refine lv_istore_n (lv' := [(2, .int x1), (0, .ref (a 20)), (1, .int x1)]) hx hb d_M_leastOf_1 rfl hl (by decide) rfl (fun ls hl => ?_)
  refine lv_iconst (v := 0) hx hb d_M_leastOf_2 (by decide) ?_
  refine lv_istore_n (lv' := [(3, .int 0), (2, .int x1), (0, .ref (a 20)), (1, .int x1)]) hx hb d_M_leastOf_3 rfl hl (by decide) rfl (fun ls hl => ?_)
  exact t_M_leastOf_4 (a := a) C0 hP  h (lv_sub hl [2, 3, 1, 0] rfl)
set_option maxHeartbeats 4000000 in
set_option maxRecDepth 100000 in
theorem c_M_leastOf (l : Launch) (D : va_G) (cI cZ : ClassId) (a : Nat → Nat) (q : Nat) (σ : StM) (x1 : Int32) {val : Int32} (h : f_M_leastOf σ x1 = some val) : RoM l y_M_leastOf b_M_leastOf 4 (some .int) 0 0 D [(cI, .int), (cZ, .boolean)] [.ref (a 20), .int x1] (wM cI cZ a q σ) val :=
  ro_of (by decide) (Nat.le_of_ble_eq_true rfl) (fun p e s m args below meth c ls C0 hP hl => t_M_leastOf_0 (a := a) C0 hP h (lv_sub hl [0, 1] rfl))
-- part 07.6M.36M_common.lean.txt
def f_M_common_66 (σ : StM) (t0 : Int32) : Option (Int32 × StM) :=
  (f_M_count t0).bind fun r4 =>
  some (r4, σ)
def f_M_common_35 (σ : StM) (x1 x2 x3 t1 : Int32) : Option (Int32 × StM) :=
  (f_M_good σ t1).bind fun r1 =>
  if r1.1 = 0 then
    some (0, r1.2)
  else
    (f_M_commonOf r1.2 x1 x2).bind fun r2 =>
    if x3 = 0 then
      f_M_common_66 r2.2 r2.1
    else
      (f_M_leastOf r2.2 r2.1).bind fun r3 =>
      f_M_common_66 r2.2 r3
def f_M_common_17 (σ : StM) (x1 x2 x3 : Int32) : Option (Int32 × StM) :=
  f_M_common_35 σ x1 x2 x3 1
def f_M_common_30 (σ : StM) (x1 x2 x3 : Int32) : Option (Int32 × StM) :=
  f_M_common_35 σ x1 x2 x3 2
def f_M_common (σ : StM) (x1 x2 x3 : Int32) : Option (Int32 × StM) :=
  if (f_M_isType σ x1) = 0 then
    f_M_common_17 σ x1 x2 x3
  else
    if (f_M_isType σ x2) = 0 then
      f_M_common_17 σ x1 x2 x3
    else
      if x3 < 0 then
        f_M_common_30 σ x1 x2 x3
      else
        if x3 ≤ 1 then
          f_M_common_35 σ x1 x2 x3 0
        else
          f_M_common_30 σ x1 x2 x3
set_option maxHeartbeats 4000000 in
set_option maxRecDepth 100000 in
theorem t_M_common_66 {p : Program} {l : Launch} {e : Env} {s : State} {m : MethodId} {args : Array Value} {below : List Frame} {meth : Method} {c : Code} {D : va_G} {cI cZ : ClassId} {a : Nat → Nat} {A : Nat → Prop} (C0 : Am p s m args meth c b_M_common (some .int) 5 R_M D [(cI, .int), (cZ, .boolean)]) (hA : ∀ q, s.heap.size ≤ q → A q) {res : Int32 × StM}   {q : Nat} {σ : StM} {t0 : Int32} (h : f_M_common_66 σ t0 = some res) {H : Heap} {locs : List Loc} (hP : va_P D vwCl (wM cI cZ a q σ) H) (hD : va_D A (wM cI cZ a q σ)) (hS : va_S A s.heap H locs) {ls : Array Slot} (hl : lv_has ls 5 []) : W p l e (rmK 4 99 0 0) s m args below meth c H locs 0 0 (RwQ below args s D A (fun q (σ : StM) => (wM cI cZ a q σ)) res 0 0) (F0 m 66 ls [.int t0]) := by
  obtain ⟨hx, hb, hr, hml, hown, hts, hlk, hK⟩ := id C0
  unfold f_M_common_66 at h
  replace h := bd h
  obtain ⟨r4, g4, h⟩ := h
  refine ro_S (n := 1) (As := [.int t0]) (rest := []) C0 (c_M_count l D cI cZ a t0 g4) wd_415 ⟨wd_416, wd_417, wd_352⟩ (by decide +kernel) ⟨Nat.le_of_ble_eq_true rfl, Nat.le_of_ble_eq_true rfl⟩ pnil hl rfl rfl (Nat.le_of_ble_eq_true rfl) ⟨Nat.zero_le _, Nat.zero_le _⟩ d_M_common_66 ?_
  try dsimp only at h
  exact rw_ret C0 hP hD hS (Option.some.inj h) d_M_common_69
set_option maxHeartbeats 4000000 in
set_option maxRecDepth 100000 in
theorem t_M_common_35 {p : Program} {l : Launch} {e : Env} {s : State} {m : MethodId} {args : Array Value} {below : List Frame} {meth : Method} {c : Code} {D : va_G} {cI cZ : ClassId} {a : Nat → Nat} {A : Nat → Prop} (C0 : Am p s m args meth c b_M_common (some .int) 5 R_M D [(cI, .int), (cZ, .boolean)]) (hA : ∀ q, s.heap.size ≤ q → A q) {res : Int32 × StM}   {q : Nat} {σ : StM} {x1 x2 x3 t1 : Int32} (h : f_M_common_35 σ x1 x2 x3 t1 = some res) {H : Heap} {locs : List Loc} (hP : va_P D vwCl (wM cI cZ a q σ) H) (hD : va_D A (wM cI cZ a q σ)) (hS : va_S A s.heap H locs) {ls : Array Slot} (hl : lv_has ls 5 [(0, .ref (a 20)), (1, .int x1), (2, .int x2), (3, .int x3)]) : W p l e (rmK 4 99 0 0) s m args below meth c H locs 0 0 (RwQ below args s D A (fun q (σ : StM) => (wM cI cZ a q σ)) res 0 0) (F0 m 35 ls [.int t1, .ref (a 20)]) := by
  obtain ⟨hx, hb, hr, hml, hown, hts, hlk, hK⟩ := id C0
  unfold f_M_common_35 at h
  replace h := bd h
  obtain ⟨r1, g1, h⟩ := h
  refine rw_V (n := 1) (ci := 4) (As := [.int t1]) (rest := []) (Wn := fun _ => (wM cI cZ a q r1.2)) C0 hA (c_M_good l D cI cZ a q σ t1 g1) wd_388 ⟨wd_389, wd_390, wd_391, wd_352⟩ (by decide +kernel) ⟨Nat.le_of_ble_eq_true rfl, Nat.le_of_ble_eq_true rfl⟩ hP hD hS [0, 1, 2, 3, 4, 5, 6, 7, 8, 9, 10, 11, 12, 13, 14, 15, 16, 17, 18, 19, 20, 21, 22, 23] [] [0, 1, 2, 3, 4, 5, 6, 7, 8, 9, 10, 11, 12, 13, 14, 15, 16, 17, 18, 19, 20, 21, 22, 23] jn_M__C (by decide) jn_M__R (by decide) (by decide) (by decide) jn_M__W rfl rfl rfl hl rfl rfl (Nat.le_of_ble_eq_true rfl) ⟨Nat.zero_le _, Nat.zero_le _⟩ d_M_common_35 (fun H locs _ hP hD hS => ?_)
  try dsimp only at h
  refine lv_if_ne (tgt := 43) hx hb d_M_common_38 (by decide) (fun hc => ?_) (fun hc => ?_)
  · rw [if_neg hc] at h
    refine lv_aload_n hx hb d_M_common_43 rfl (lv_at hl 0 rfl) ?_
    refine lv_iload_n hx hb d_M_common_44 rfl (lv_at hl 1 rfl) ?_
    refine lv_iload_n hx hb d_M_common_45 rfl (lv_at hl 2 rfl) ?_
    replace h := bd h
    obtain ⟨r2, g2, h⟩ := h
    refine rw_V (n := 2) (ci := 4) (As := [.int x1, .int x2]) (rest := []) (Wn := fun _ => (wM cI cZ a q r2.2)) C0 hA (c_M_commonOf l D cI cZ a q r1.2 x1 x2 g2) wd_439 ⟨wd_440, wd_441, wd_442, wd_352⟩ (by decide +kernel) ⟨Nat.le_of_ble_eq_true rfl, Nat.le_of_ble_eq_true rfl⟩ hP hD hS [0, 1, 2, 3, 4, 5, 6, 7, 8, 9, 10, 11, 12, 13, 14, 15, 16, 17, 18, 19, 20, 21, 22, 23] [] [0, 1, 2, 3, 4, 5, 6, 7, 8, 9, 10, 11, 12, 13, 14, 15, 16, 17, 18, 19, 20, 21, 22, 23] jn_M__C (by decide) jn_M__R (by decide) (by decide) (by decide) jn_M__W rfl rfl rfl hl rfl rfl (Nat.le_of_ble_eq_true rfl) ⟨Nat.zero_le _, Nat.zero_le _⟩ d_M_common_46 (fun H locs _ hP hD hS => ?_)
    try dsimp only at h
    refine lv_istore (lv' := [(4, .int r2.1), (0, .ref (a 20)), (1, .int x1), (2, .int x2), (3, .int x3)]) hx hb d_M_common_49 hl (by decide) rfl (fun ls hl => ?_)
    refine lv_iload_n hx hb d_M_common_51 rfl (lv_at hl 4 rfl) ?_
    refine lv_if_ne (tgt := 60) hx hb d_M_common_52 (by decide) (fun hc => ?_) (fun hc => ?_)
    · rw [if_neg hc] at h
      refine lv_aload_n hx hb d_M_common_60 rfl (lv_at hl 1 rfl) ?_
      refine lv_iload hx hb d_M_common_61 (lv_at hl 0 rfl) ?_
      replace h := bd h
      obtain ⟨r3, g3, h⟩ := h
      refine ro_V (n := 1) (ci := 4) (As := [.int r2.1]) (rest := []) C0 (c_M_leastOf l D cI cZ a q r2.2 r2.1 g3) wd_443 ⟨wd_444, wd_445, wd_446, wd_352⟩ (by decide +kernel) ⟨Nat.le_of_ble_eq_true rfl, Nat.le_of_ble_eq_true rfl⟩ hP rfl rfl rfl hl rfl rfl (Nat.le_of_ble_eq_true rfl) ⟨Nat.zero_le _, Nat.zero_le _⟩ d_M_common_63 ?_
      try dsimp only at h
      exact t_M_common_66 (a := a) C0 hA  h hP hD hS (lv_sub hl [] rfl)
    · rw [if_pos hc] at h
      refine lv_iload hx hb d_M_common_55 (lv_at hl 0 rfl) ?_
      refine lv_goto (tgt := 66) hx hb d_M_common_57 (by decide) ?_
      exact t_M_common_66 (a := a) C0 hA  h hP hD hS (lv_sub hl [] rfl)
  · rw [if_pos hc] at h
    refine lv_iconst (v := 0) hx hb d_M_common_41 (by decide) ?_
    exact rw_ret C0 hP hD hS (Option.some.inj h) d_M_common_42
set_option maxHeartbeats 4000000 in
set_option maxRecDepth 100000 in
theorem t_M_common_17 {p : Program} {l : Launch} {e : Env} {s : State} {m : MethodId} {args : Array Value} {below : List Frame} {meth : Method} {c : Code} {D : va_G} {cI cZ : ClassId} {a : Nat → Nat} {A : Nat → Prop} (C0 : Am p s m args meth c b_M_common (some .int) 5 R_M D [(cI, .int), (cZ, .boolean)]) (hA : ∀ q, s.heap.size ≤ q → A q) {res : Int32 × StM}   {q : Nat} {σ : StM} {x1 x2 x3 : Int32} (h : f_M_common_17 σ x1 x2 x3 = some res) {H : Heap} {locs : List Loc} (hP : va_P D vwCl (wM cI cZ a q σ) H) (hD : va_D A (wM cI cZ a q σ)) (hS : va_S A s.heap H locs) {ls : Array Slot} (hl : lv_has ls 5 [(0, .ref (a 20)), (1, .int x1), (2, .int x2), (3, .int x3)]) : W p l e (rmK 4 99 0 0) s m args below meth c H locs 0 0 (RwQ below args s D A (fun q (σ : StM) => (wM cI cZ a q σ)) res 0 0) (F0 m 17 ls [.ref (a 20)]) := by
  obtain ⟨hx, hb, hr, hml, hown, hts, hlk, hK⟩ := id C0
  unfold f_M_common_17 at h
  refine lv_iconst (v := 1) hx hb d_M_common_17 (by decide) ?_
  refine lv_goto (tgt := 35) hx hb d_M_common_18 (by decide) ?_
  exact t_M_common_35 (a := a) C0 hA  h hP hD hS (lv_sub hl [0, 1, 2, 3] rfl)
set_option maxHeartbeats 4000000 in
set_option maxRecDepth 100000 in
theorem t_M_common_30 {p : Program} {l : Launch} {e : Env} {s : State} {m : MethodId} {args : Array Value} {below : List Frame} {meth : Method} {c : Code} {D : va_G} {cI cZ : ClassId} {a : Nat → Nat} {A : Nat → Prop} (C0 : Am p s m args meth c b_M_common (some .int) 5 R_M D [(cI, .int), (cZ, .boolean)]) (hA : ∀ q, s.heap.size ≤ q → A q) {res : Int32 × StM}   {q : Nat} {σ : StM} {x1 x2 x3 : Int32} (h : f_M_common_30 σ x1 x2 x3 = some res) {H : Heap} {locs : List Loc} (hP : va_P D vwCl (wM cI cZ a q σ) H) (hD : va_D A (wM cI cZ a q σ)) (hS : va_S A s.heap H locs) {ls : Array Slot} (hl : lv_has ls 5 [(0, .ref (a 20)), (1, .int x1), (2, .int x2), (3, .int x3)]) : W p l e (rmK 4 99 0 0) s m args below meth c H locs 0 0 (RwQ below args s D A (fun q (σ : StM) => (wM cI cZ a q σ)) res 0 0) (F0 m 30 ls [.ref (a 20)]) := by
  obtain ⟨hx, hb, hr, hml, hown, hts, hlk, hK⟩ := id C0
  unfold f_M_common_30 at h
  refine lv_iconst (v := 2) hx hb d_M_common_30 (by decide) ?_
  refine lv_goto (tgt := 35) hx hb d_M_common_31 (by decide) ?_
  exact t_M_common_35 (a := a) C0 hA  h hP hD hS (lv_sub hl [0, 1, 2, 3] rfl)
set_option maxHeartbeats 4000000 in
set_option maxRecDepth 100000 in
theorem t_M_common_0 {p : Program} {l : Launch} {e : Env} {s : State} {m : MethodId} {args : Array Value} {below : List Frame} {meth : Method} {c : Code} {D : va_G} {cI cZ : ClassId} {a : Nat → Nat} {A : Nat → Prop} (C0 : Am p s m args meth c b_M_common (some .int) 5 R_M D [(cI, .int), (cZ, .boolean)]) (hA : ∀ q, s.heap.size ≤ q → A q) {res : Int32 × StM}   {q : Nat} {σ : StM} {x1 x2 x3 : Int32} (h : f_M_common σ x1 x2 x3 = some res) {H : Heap} {locs : List Loc} (hP : va_P D vwCl (wM cI cZ a q σ) H) (hD : va_D A (wM cI cZ a q σ)) (hS : va_S A s.heap H locs) {ls : Array Slot} (hl : lv_has ls 5 [(0, .ref (a 20)), (1, .int x1), (2, .int x2), (3, .int x3)]) : W p l e (rmK 4 99 0 0) s m args below meth c H locs 0 0 (RwQ below args s D A (fun q (σ : StM) => (wM cI cZ a q σ)) res 0 0) (F0 m 0 ls []) := by
  obtain ⟨hx, hb, hr, hml, hown, hts, hlk, hK⟩ := id C0
  unfold f_M_common at h
  refine lv_aload_n hx hb d_M_common_0 rfl (lv_at hl 0 rfl) ?_
  refine lv_aload_n hx hb d_M_common_1 rfl (lv_at hl 0 rfl) ?_
  refine lv_iload_n hx hb d_M_common_2 rfl (lv_at hl 1 rfl) ?_
  refine ro_V (n := 1) (ci := 4) (As := [.int x1]) (rest := [.ref (a 20)]) C0 (c_M_isType l D cI cZ a q σ x1 rfl) wd_427 ⟨wd_428, wd_429, wd_430, wd_352⟩ (by decide +kernel) ⟨Nat.le_of_ble_eq_true rfl, Nat.le_of_ble_eq_true rfl⟩ hP rfl rfl rfl hl rfl rfl (Nat.le_of_ble_eq_true rfl) ⟨Nat.zero_le _, Nat.zero_le _⟩ d_M_common_3 ?_
  refine lv_if_eq (tgt := 17) hx hb d_M_common_6 (by decide) (fun hc => ?_) (fun hc => ?_)
  · rw [if_pos hc] at h
    exact t_M_common_17 (a := a) C0 hA  h hP hD hS (lv_sub hl [0, 1, 2, 3] rfl)
  · rw [if_neg hc] at h
    refine lv_aload_n hx hb d_M_common_9 rfl (lv_at hl 0 rfl) ?_
    refine lv_iload_n hx hb d_M_common_10 rfl (lv_at hl 2 rfl) ?_
    refine ro_V (n := 1) (ci := 4) (As := [.int x2]) (rest := [.ref (a 20)]) C0 (c_M_isType l D cI cZ a q σ x2 rfl) wd_427 ⟨wd_428, wd_429, wd_430, wd_352⟩ (by decide +kernel) ⟨Nat.le_of_ble_eq_true rfl, Nat.le_of_ble_eq_true rfl⟩ hP rfl rfl rfl hl rfl rfl (Nat.le_of_ble_eq_true rfl) ⟨Nat.zero_le _, Nat.zero_le _⟩ d_M_common_11 ?_
    refine lv_if_ne (tgt := 21) hx hb d_M_common_14 (by decide) (fun hc => ?_) (fun hc => ?_)
    · rw [if_neg hc] at h
      refine lv_iload_n hx hb d_M_common_21 rfl (lv_at hl 3 rfl) ?_
      refine lv_if_lt (tgt := 30) hx hb d_M_common_22 (by decide) (fun hc => ?_) (fun hc => ?_)
      · rw [if_pos hc] at h
        exact t_M_common_30 (a := a) C0 hA  h hP hD hS (lv_sub hl [0, 1, 2, 3] rfl)
      · rw [if_neg hc] at h
        refine lv_iload_n hx hb d_M_common_25 rfl (lv_at hl 3 rfl) ?_
        refine lv_iconst (v := 1) hx hb d_M_common_26 (by decide) ?_
        refine lv_icmp_le (tgt := 34) hx hb d_M_common_27 (by decide) (fun hc => ?_) (fun hc => ?_)
        · rw [if_pos hc] at h
          refine lv_iconst (v := 0) hx hb d_M_common_34 (by decide) ?_
          exact t_M_common_35 (a := a) C0 hA  h hP hD hS (lv_sub hl [0, 1, 2, 3] rfl)
        · rw [if_neg hc] at h
          exact t_M_common_30 (a := a) C0 hA  h hP hD hS (lv_sub hl [0, 1, 2, 3] rfl)
    · rw [if_pos hc] at h
      exact t_M_common_17 (a := a) C0 hA  h hP hD hS (lv_sub hl [0, 1, 2, 3] rfl)
set_option maxHeartbeats 4000000 in
set_option maxRecDepth 100000 in
theorem c_M_common (l : Launch) (D : va_G) (cI cZ : ClassId) (a : Nat → Nat) (q : Nat) (σ : StM) (x1 : Int32) (x2 : Int32) (x3 : Int32) {res : Int32 × StM} (h : f_M_common σ x1 x2 x3 = some res) : RwM l y_M_common b_M_common 5 (some .int) 4 99 D [(cI, .int), (cZ, .boolean)] [.ref (a 20), .int x1, .int x2, .int x3] (fun q (σ : StM) => (wM cI cZ a q σ)) q σ res :=
  rw_of (by decide) (Nat.le_of_ble_eq_true rfl) (fun p e s m args below meth c ls A C0 hA hP hD hS hl => t_M_common_0 (a := a) C0 hA h hP hD hS (lv_sub hl [0, 1, 2, 3] rfl))
