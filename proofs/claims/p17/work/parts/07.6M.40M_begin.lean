def f_M_begin_174 (σ : StM) (x1 x2 x3 : Int32) : Option (Int32 × StM) :=
  (f_M_commonOf σ x2 x3).bind fun r1 =>
  (f_M_leastOf r1.2 r1.1).bind fun r2 =>
  if x1 < 0 ∨ 500 ≤ x1.toNatClampNeg then none else
  if x1 < 0 ∨ 500 ≤ x1.toNatClampNeg then none else
  some (0, (M_put_stage (M_put_least r1.2 x1 r2) x1 2))
def f_M_begin_85 (σ : StM) (x1 x2 t0 : Int32) : Option (Int32 × StM) :=
  if x1 < 0 ∨ 500 ≤ x1.toNatClampNeg then none else
  if x1 < 0 ∨ 500 ≤ x1.toNatClampNeg then none else
  if x2 < 0 ∨ 300 ≤ x2.toNatClampNeg then none else
  if ((M_kind (M_put_right (M_put_left σ x1 x2) x1 t0)) x2.toNatClampNeg) = 2 then
    if t0 < 0 ∨ 300 ≤ t0.toNatClampNeg then none else
    if ((M_kind (M_put_right (M_put_left σ x1 x2) x1 t0)) t0.toNatClampNeg) = 2 then
      if x2 < 0 ∨ 300 ≤ x2.toNatClampNeg then none else
      if ((M_inner (M_put_right (M_put_left σ x1 x2) x1 t0)) x2.toNatClampNeg) ≤ 7 then
        f_M_begin_174 (M_put_right (M_put_left σ x1 x2) x1 t0) x1 x2 t0
      else
        if t0 < 0 ∨ 300 ≤ t0.toNatClampNeg then none else
        if ((M_inner (M_put_right (M_put_left σ x1 x2) x1 t0)) t0.toNatClampNeg) ≤ 7 then
          f_M_begin_174 (M_put_right (M_put_left σ x1 x2) x1 t0) x1 x2 t0
        else
          if x1 < 0 ∨ 500 ≤ x1.toNatClampNeg then none else
          if x2 < 0 ∨ 300 ≤ x2.toNatClampNeg then none else
          if t0 < 0 ∨ 300 ≤ t0.toNatClampNeg then none else
          if x1 < 0 ∨ 500 ≤ x1.toNatClampNeg then none else
          (f_M_ask (M_put_stage (M_put_right (M_put_left σ x1 x2) x1 t0) x1 1) ((M_inner (M_put_stage (M_put_right (M_put_left σ x1 x2) x1 t0) x1 1)) x2.toNatClampNeg) ((M_inner (M_put_stage (M_put_right (M_put_left σ x1 x2) x1 t0) x1 1)) t0.toNatClampNeg) ((M_deep (M_put_stage (M_put_right (M_put_left σ x1 x2) x1 t0) x1 1)) x1.toNatClampNeg)).bind fun r3 =>
          some (0, r3.2)
    else
      f_M_begin_174 (M_put_right (M_put_left σ x1 x2) x1 t0) x1 x2 t0
  else
    f_M_begin_174 (M_put_right (M_put_left σ x1 x2) x1 t0) x1 x2 t0
def f_M_begin_55 (σ : StM) (x1 t0 : Int32) : Option (Int32 × StM) :=
  if x1 < 0 ∨ 500 ≤ x1.toNatClampNeg then none else
  if 8 ≤ ((M_right σ) x1.toNatClampNeg) then
    if x1 < 0 ∨ 500 ≤ x1.toNatClampNeg then none else
    f_M_begin_85 σ x1 t0 ((M_right σ) x1.toNatClampNeg)
  else
    if x1 < 0 ∨ 500 ≤ x1.toNatClampNeg then none else
    f_M_begin_85 σ x1 t0 (((M_right σ) x1.toNatClampNeg) + 8)
def f_M_begin (σ : StM) (x1 : Int32) : Option (Int32 × StM) :=
  if x1 < 0 ∨ 500 ≤ x1.toNatClampNeg then none else
  if x1 < 0 ∨ 500 ≤ x1.toNatClampNeg then none else
  if ((M_left σ) x1.toNatClampNeg) = ((M_right σ) x1.toNatClampNeg) then
    if x1 < 0 ∨ 500 ≤ x1.toNatClampNeg then none else
    (f_M_tell σ ((M_left σ) x1.toNatClampNeg)).bind fun r4 =>
    some (0, r4.2)
  else
    if x1 < 0 ∨ 500 ≤ x1.toNatClampNeg then none else
    if 8 ≤ ((M_left σ) x1.toNatClampNeg) then
      if x1 < 0 ∨ 500 ≤ x1.toNatClampNeg then none else
      f_M_begin_55 σ x1 ((M_left σ) x1.toNatClampNeg)
    else
      if x1 < 0 ∨ 500 ≤ x1.toNatClampNeg then none else
      f_M_begin_55 σ x1 (((M_left σ) x1.toNatClampNeg) + 8)
set_option maxHeartbeats 4000000 in
set_option maxRecDepth 100000 in
theorem t_M_begin_174 {p : Program} {l : Launch} {e : Env} {s : State} {m : MethodId} {args : Array Value} {below : List Frame} {meth : Method} {c : Code} {D : va_G} {cI cZ : ClassId} {a : Nat → Nat} {A : Nat → Prop} (C0 : Am p s m args meth c b_M_begin none 4 R_M D [(cI, .int), (cZ, .boolean)]) (hA : ∀ q, s.heap.size ≤ q → A q) {res : Int32 × StM}   {q : Nat} {σ : StM} {x1 x2 x3 : Int32} (h : f_M_begin_174 σ x1 x2 x3 = some res) {H : Heap} {locs : List Loc} (hP : va_P D vwCl (wM cI cZ a q σ) H) (hD : va_D A (wM cI cZ a q σ)) (hS : va_S A s.heap H locs) {ls : Array Slot} (hl : lv_has ls 4 [(0, .ref (a 20)), (1, .int x1), (2, .int x2), (3, .int x3)]) : W p l e (rmK 4 99 0 0) s m args below meth c H locs 0 0 (RwQv below args s D A (fun q (σ : StM) => (wM cI cZ a q σ)) res 0 0) (F0 m 174 ls []) := by
  obtain ⟨hx, hb, hr, hml, hown, hts, hlk, hK⟩ := id C0
  unfold f_M_begin_174 at h
  refine lv_aload_n hx hb d_M_begin_174 rfl (lv_at hl 0 rfl) ?_
  refine va_get (ci := 4) (v := .ref (a 40)) (C := R_M) (T := F_M) (N := 35) hx hb hts i_M hown hK.1 hP 0 rfl rfl 30 (by decide) (hts _ wd_456) (fun _ h9 => h9) rfl d_M_begin_175 ?_
  refine lv_iload_n hx hb d_M_begin_178 rfl (lv_at hl 1 rfl) ?_
  refine lv_aload_n hx hb d_M_begin_179 rfl (lv_at hl 0 rfl) ?_
  refine lv_aload_n hx hb d_M_begin_180 rfl (lv_at hl 0 rfl) ?_
  refine lv_iload_n hx hb d_M_begin_181 rfl (lv_at hl 2 rfl) ?_
  refine lv_iload_n hx hb d_M_begin_182 rfl (lv_at hl 3 rfl) ?_
  replace h := bd h
  obtain ⟨r1, g1, h⟩ := h
  refine rw_V (n := 2) (ci := 4) (As := [.int x2, .int x3]) (rest := [.ref (a 20), .int x1, .ref (a 40)]) (Wn := fun _ => (wM cI cZ a q r1.2)) C0 hA (c_M_commonOf l D cI cZ a q σ x2 x3 g1) wd_439 ⟨wd_440, wd_441, wd_442, wd_352⟩ (by decide +kernel) ⟨Nat.le_of_ble_eq_true rfl, Nat.le_of_ble_eq_true rfl⟩ hP hD hS [0, 1, 2, 3, 4, 5, 6, 7, 8, 9, 10, 11, 12, 13, 14, 15, 16, 17, 18, 19, 20, 21, 22, 23] [] [0, 1, 2, 3, 4, 5, 6, 7, 8, 9, 10, 11, 12, 13, 14, 15, 16, 17, 18, 19, 20, 21, 22, 23] jn_M__C (by decide) jn_M__R (by decide) (by decide) (by decide) jn_M__W rfl rfl rfl hl rfl rfl (Nat.le_of_ble_eq_true rfl) ⟨Nat.zero_le _, Nat.zero_le _⟩ d_M_begin_183 (fun H locs _ hP hD hS => ?_)
  try dsimp only at h
  replace h := bd h
  obtain ⟨r2, g2, h⟩ := h
  refine ro_V (n := 1) (ci := 4) (As := [.int r1.1]) (rest := [.int x1, .ref (a 40)]) C0 (c_M_leastOf l D cI cZ a q r1.2 r1.1 g2) wd_443 ⟨wd_444, wd_445, wd_446, wd_352⟩ (by decide +kernel) ⟨Nat.le_of_ble_eq_true rfl, Nat.le_of_ble_eq_true rfl⟩ hP rfl rfl rfl hl rfl rfl (Nat.le_of_ble_eq_true rfl) ⟨Nat.zero_le _, Nat.zero_le _⟩ d_M_begin_186 ?_
  try dsimp only at h
  replace h := gd h
  obtain ⟨hi, h⟩ := h
  refine rw_iast C0 hP hD hS 20 0 rfl rfl hi d_M_begin_189 (Wn := (wM cI cZ a q (M_put_least r1.2 x1 r2))) ws_M_put_least (fun H locs hP hD hS => ?_)
  refine lv_aload_n hx hb d_M_begin_190 rfl (lv_at hl 0 rfl) ?_
  refine va_get (ci := 4) (v := .ref (a 39)) (C := R_M) (T := F_M) (N := 35) hx hb hts i_M hown hK.1 hP 0 rfl rfl 29 (by decide) (hts _ wd_451) (fun _ h9 => h9) rfl d_M_begin_191 ?_
  refine lv_iload_n hx hb d_M_begin_194 rfl (lv_at hl 1 rfl) ?_
  refine lv_iconst (v := 2) hx hb d_M_begin_195 (by decide) ?_
  replace h := gd h
  obtain ⟨hi, h⟩ := h
  refine rw_iast C0 hP hD hS 19 0 rfl rfl hi d_M_begin_196 (Wn := (wM cI cZ a q (M_put_stage (M_put_least r1.2 x1 r2) x1 2))) ws_M_put_stage (fun H locs hP hD hS => ?_)
  exact rw_retv C0 hP hD hS (Option.some.inj h) d_M_begin_197
set_option maxHeartbeats 4000000 in
set_option maxRecDepth 100000 in
theorem t_M_begin_85 {p : Program} {l : Launch} {e : Env} {s : State} {m : MethodId} {args : Array Value} {below : List Frame} {meth : Method} {c : Code} {D : va_G} {cI cZ : ClassId} {a : Nat → Nat} {A : Nat → Prop} (C0 : Am p s m args meth c b_M_begin none 4 R_M D [(cI, .int), (cZ, .boolean)]) (hA : ∀ q, s.heap.size ≤ q → A q) {res : Int32 × StM}   {q : Nat} {σ : StM} {x1 x2 t0 : Int32} (h : f_M_begin_85 σ x1 x2 t0 = some res) {H : Heap} {locs : List Loc} (hP : va_P D vwCl (wM cI cZ a q σ) H) (hD : va_D A (wM cI cZ a q σ)) (hS : va_S A s.heap H locs) {ls : Array Slot} (hl : lv_has ls 4 [(0, .ref (a 20)), (1, .int x1), (2, .int x2)]) : W p l e (rmK 4 99 0 0) s m args below meth c H locs 0 0 (RwQv below args s D A (fun q (σ : StM) => (wM cI cZ a q σ)) res 0 0) (F0 m 85 ls [.int t0]) := by
  obtain ⟨hx, hb, hr, hml, hown, hts, hlk, hK⟩ := id C0
  unfold f_M_begin_85 at h
  refine lv_istore_n (lv' := [(3, .int t0), (0, .ref (a 20)), (1, .int x1), (2, .int x2)]) hx hb d_M_begin_85 rfl hl (by decide) rfl (fun ls hl => ?_)
  refine lv_aload_n hx hb d_M_begin_86 rfl (lv_at hl 1 rfl) ?_
  refine va_get (ci := 4) (v := .ref (a 36)) (C := R_M) (T := F_M) (N := 35) hx hb hts i_M hown hK.1 hP 0 rfl rfl 26 (by decide) (hts _ wd_447) (fun _ h9 => h9) rfl d_M_begin_87 ?_
  refine lv_iload_n hx hb d_M_begin_90 rfl (lv_at hl 2 rfl) ?_
  refine lv_iload_n hx hb d_M_begin_91 rfl (lv_at hl 3 rfl) ?_
  replace h := gd h
  obtain ⟨hi, h⟩ := h
  refine rw_iast C0 hP hD hS 16 0 rfl rfl hi d_M_begin_92 (Wn := (wM cI cZ a q (M_put_left σ x1 x2))) ws_M_put_left (fun H locs hP hD hS => ?_)
  refine lv_aload_n hx hb d_M_begin_93 rfl (lv_at hl 1 rfl) ?_
  refine va_get (ci := 4) (v := .ref (a 37)) (C := R_M) (T := F_M) (N := 35) hx hb hts i_M hown hK.1 hP 0 rfl rfl 27 (by decide) (hts _ wd_449) (fun _ h9 => h9) rfl d_M_begin_94 ?_
  refine lv_iload_n hx hb d_M_begin_97 rfl (lv_at hl 2 rfl) ?_
  refine lv_iload_n hx hb d_M_begin_98 rfl (lv_at hl 0 rfl) ?_
  replace h := gd h
  obtain ⟨hi, h⟩ := h
  refine rw_iast C0 hP hD hS 17 0 rfl rfl hi d_M_begin_99 (Wn := (wM cI cZ a q (M_put_right (M_put_left σ x1 x2) x1 t0))) ws_M_put_right (fun H locs hP hD hS => ?_)
  refine lv_aload_n hx hb d_M_begin_100 rfl (lv_at hl 1 rfl) ?_
  refine va_get (ci := 4) (v := .ref (a 27)) (C := R_M) (T := F_M) (N := 35) hx hb hts i_M hown hK.1 hP 0 rfl rfl 11 (by decide) (hts _ wd_353) (fun _ h9 => h9) rfl d_M_begin_101 ?_
  refine lv_iload_n hx hb d_M_begin_104 rfl (lv_at hl 3 rfl) ?_
  replace h := gd h
  obtain ⟨hi, h⟩ := h
  refine va_iald hx hb hK.1 hP 7 0 rfl rfl hi d_M_begin_105 ?_
  refine lv_iconst (v := 2) hx hb d_M_begin_106 (by decide) ?_
  refine lv_icmp_ne (tgt := 174) hx hb d_M_begin_107 (by decide) (fun hc => ?_) (fun hc => ?_)
  · rw [if_neg hc] at h
    exact t_M_begin_174 (a := a) C0 hA  h hP hD hS (lv_sub hl [1, 2, 3, 0] rfl)
  · rw [if_pos hc] at h
    refine lv_aload_n hx hb d_M_begin_110 rfl (lv_at hl 1 rfl) ?_
    refine va_get (ci := 4) (v := .ref (a 27)) (C := R_M) (T := F_M) (N := 35) hx hb hts i_M hown hK.1 hP 0 rfl rfl 11 (by decide) (hts _ wd_353) (fun _ h9 => h9) rfl d_M_begin_111 ?_
    refine lv_iload_n hx hb d_M_begin_114 rfl (lv_at hl 0 rfl) ?_
    replace h := gd h
    obtain ⟨hi, h⟩ := h
    refine va_iald hx hb hK.1 hP 7 0 rfl rfl hi d_M_begin_115 ?_
    refine lv_iconst (v := 2) hx hb d_M_begin_116 (by decide) ?_
    refine lv_icmp_ne (tgt := 174) hx hb d_M_begin_117 (by decide) (fun hc => ?_) (fun hc => ?_)
    · rw [if_neg hc] at h
      exact t_M_begin_174 (a := a) C0 hA  h hP hD hS (lv_sub hl [1, 2, 3, 0] rfl)
    · rw [if_pos hc] at h
      refine lv_aload_n hx hb d_M_begin_120 rfl (lv_at hl 1 rfl) ?_
      refine va_get (ci := 4) (v := .ref (a 30)) (C := R_M) (T := F_M) (N := 35) hx hb hts i_M hown hK.1 hP 0 rfl rfl 14 (by decide) (hts _ wd_358) (fun _ h9 => h9) rfl d_M_begin_121 ?_
      refine lv_iload_n hx hb d_M_begin_124 rfl (lv_at hl 3 rfl) ?_
      replace h := gd h
      obtain ⟨hi, h⟩ := h
      refine va_iald hx hb hK.1 hP 10 0 rfl rfl hi d_M_begin_125 ?_
      refine lv_bipush (v := 7) hx hb d_M_begin_126 (by decide) ?_
      refine lv_icmp_le (tgt := 174) hx hb d_M_begin_128 (by decide) (fun hc => ?_) (fun hc => ?_)
      · rw [if_pos hc] at h
        exact t_M_begin_174 (a := a) C0 hA  h hP hD hS (lv_sub hl [1, 2, 3, 0] rfl)
      · rw [if_neg hc] at h
        refine lv_aload_n hx hb d_M_begin_131 rfl (lv_at hl 1 rfl) ?_
        refine va_get (ci := 4) (v := .ref (a 30)) (C := R_M) (T := F_M) (N := 35) hx hb hts i_M hown hK.1 hP 0 rfl rfl 14 (by decide) (hts _ wd_358) (fun _ h9 => h9) rfl d_M_begin_132 ?_
        refine lv_iload_n hx hb d_M_begin_135 rfl (lv_at hl 0 rfl) ?_
        replace h := gd h
        obtain ⟨hi, h⟩ := h
        refine va_iald hx hb hK.1 hP 10 0 rfl rfl hi d_M_begin_136 ?_
        refine lv_bipush (v := 7) hx hb d_M_begin_137 (by decide) ?_
        refine lv_icmp_le (tgt := 174) hx hb d_M_begin_139 (by decide) (fun hc => ?_) (fun hc => ?_)
        · rw [if_pos hc] at h
          exact t_M_begin_174 (a := a) C0 hA  h hP hD hS (lv_sub hl [1, 2, 3, 0] rfl)
        · rw [if_neg hc] at h
          refine lv_aload_n hx hb d_M_begin_142 rfl (lv_at hl 1 rfl) ?_
          refine va_get (ci := 4) (v := .ref (a 39)) (C := R_M) (T := F_M) (N := 35) hx hb hts i_M hown hK.1 hP 0 rfl rfl 29 (by decide) (hts _ wd_451) (fun _ h9 => h9) rfl d_M_begin_143 ?_
          refine lv_iload_n hx hb d_M_begin_146 rfl (lv_at hl 2 rfl) ?_
          refine lv_iconst (v := 1) hx hb d_M_begin_147 (by decide) ?_
          replace h := gd h
          obtain ⟨hi, h⟩ := h
          refine rw_iast C0 hP hD hS 19 0 rfl rfl hi d_M_begin_148 (Wn := (wM cI cZ a q (M_put_stage (M_put_right (M_put_left σ x1 x2) x1 t0) x1 1))) ws_M_put_stage (fun H locs hP hD hS => ?_)
          refine lv_aload_n hx hb d_M_begin_149 rfl (lv_at hl 1 rfl) ?_
          refine lv_aload_n hx hb d_M_begin_150 rfl (lv_at hl 1 rfl) ?_
          refine va_get (ci := 4) (v := .ref (a 30)) (C := R_M) (T := F_M) (N := 35) hx hb hts i_M hown hK.1 hP 0 rfl rfl 14 (by decide) (hts _ wd_358) (fun _ h9 => h9) rfl d_M_begin_151 ?_
          refine lv_iload_n hx hb d_M_begin_154 rfl (lv_at hl 3 rfl) ?_
          replace h := gd h
          obtain ⟨hi, h⟩ := h
          refine va_iald hx hb hK.1 hP 10 0 rfl rfl hi d_M_begin_155 ?_
          refine lv_aload_n hx hb d_M_begin_156 rfl (lv_at hl 1 rfl) ?_
          refine va_get (ci := 4) (v := .ref (a 30)) (C := R_M) (T := F_M) (N := 35) hx hb hts i_M hown hK.1 hP 0 rfl rfl 14 (by decide) (hts _ wd_358) (fun _ h9 => h9) rfl d_M_begin_157 ?_
          refine lv_iload_n hx hb d_M_begin_160 rfl (lv_at hl 0 rfl) ?_
          replace h := gd h
          obtain ⟨hi, h⟩ := h
          refine va_iald hx hb hK.1 hP 10 0 rfl rfl hi d_M_begin_161 ?_
          refine lv_aload_n hx hb d_M_begin_162 rfl (lv_at hl 1 rfl) ?_
          refine va_get (ci := 4) (v := .ref (a 38)) (C := R_M) (T := F_M) (N := 35) hx hb hts i_M hown hK.1 hP 0 rfl rfl 28 (by decide) (hts _ wd_450) (fun _ h9 => h9) rfl d_M_begin_163 ?_
          refine lv_iload_n hx hb d_M_begin_166 rfl (lv_at hl 2 rfl) ?_
          replace h := gd h
          obtain ⟨hi, h⟩ := h
          refine va_iald hx hb hK.1 hP 18 0 rfl rfl hi d_M_begin_167 ?_
          replace h := bd h
          obtain ⟨r3, g3, h⟩ := h
          refine rw_Vv (n := 3) (ci := 4) (As := [.int ((M_inner (M_put_stage (M_put_right (M_put_left σ x1 x2) x1 t0) x1 1)) x2.toNatClampNeg), .int ((M_inner (M_put_stage (M_put_right (M_put_left σ x1 x2) x1 t0) x1 1)) t0.toNatClampNeg), .int ((M_deep (M_put_stage (M_put_right (M_put_left σ x1 x2) x1 t0) x1 1)) x1.toNatClampNeg)]) (rest := []) (Wn := fun _ => (wM cI cZ a q r3.2)) C0 hA (c_M_ask l D cI cZ a q (M_put_stage (M_put_right (M_put_left σ x1 x2) x1 t0) x1 1) ((M_inner (M_put_stage (M_put_right (M_put_left σ x1 x2) x1 t0) x1 1)) x2.toNatClampNeg) ((M_inner (M_put_stage (M_put_right (M_put_left σ x1 x2) x1 t0) x1 1)) t0.toNatClampNeg) ((M_deep (M_put_stage (M_put_right (M_put_left σ x1 x2) x1 t0) x1 1)) x1.toNatClampNeg) g3) wd_457 ⟨wd_458, wd_459, wd_460, wd_352⟩ (by decide +kernel) ⟨Nat.le_of_ble_eq_true rfl, Nat.le_of_ble_eq_true rfl⟩ hP hD hS [0, 1, 2, 3, 4, 5, 6, 7, 8, 9, 10, 11, 12, 13, 14, 15, 16, 17, 18, 19, 20, 21, 22, 23] [] [0, 1, 2, 3, 4, 5, 6, 7, 8, 9, 10, 11, 12, 13, 14, 15, 16, 17, 18, 19, 20, 21, 22, 23] jn_M__C (by decide) jn_M__R (by decide) (by decide) (by decide) jn_M__W rfl rfl rfl hl rfl rfl (Nat.le_of_ble_eq_true rfl) ⟨Nat.zero_le _, Nat.zero_le _⟩ d_M_begin_168 (fun H locs _ hP hD hS => ?_)
          try dsimp only at h
          refine lv_goto (tgt := 197) hx hb d_M_begin_171 (by decide) ?_
          exact rw_retv C0 hP hD hS (Option.some.inj h) d_M_begin_197
set_option maxHeartbeats 4000000 in
set_option maxRecDepth 100000 in
theorem t_M_begin_55 {p : Program} {l : Launch} {e : Env} {s : State} {m : MethodId} {args : Array Value} {below : List Frame} {meth : Method} {c : Code} {D : va_G} {cI cZ : ClassId} {a : Nat → Nat} {A : Nat → Prop} (C0 : Am p s m args meth c b_M_begin none 4 R_M D [(cI, .int), (cZ, .boolean)]) (hA : ∀ q, s.heap.size ≤ q → A q) {res : Int32 × StM}   {q : Nat} {σ : StM} {x1 t0 : Int32} (h : f_M_begin_55 σ x1 t0 = some res) {H : Heap} {locs : List Loc} (hP : va_P D vwCl (wM cI cZ a q σ) H) (hD : va_D A (wM cI cZ a q σ)) (hS : va_S A s.heap H locs) {ls : Array Slot} (hl : lv_has ls 4 [(0, .ref (a 20)), (1, .int x1)]) : W p l e (rmK 4 99 0 0) s m args below meth c H locs 0 0 (RwQv below args s D A (fun q (σ : StM) => (wM cI cZ a q σ)) res 0 0) (F0 m 55 ls [.int t0]) := by
  obtain ⟨hx, hb, hr, hml, hown, hts, hlk, hK⟩ := id C0
  unfold f_M_begin_55 at h
  refine lv_istore_n (lv' := [(2, .int t0), (0, .ref (a 20)), (1, .int x1)]) hx hb d_M_begin_55 rfl hl (by decide) rfl (fun ls hl => ?_)
  refine lv_aload_n hx hb d_M_begin_56 rfl (lv_at hl 1 rfl) ?_
  refine va_get (ci := 4) (v := .ref (a 37)) (C := R_M) (T := F_M) (N := 35) hx hb hts i_M hown hK.1 hP 0 rfl rfl 27 (by decide) (hts _ wd_449) (fun _ h9 => h9) rfl d_M_begin_57 ?_
  refine lv_iload_n hx hb d_M_begin_60 rfl (lv_at hl 2 rfl) ?_
  replace h := gd h
  obtain ⟨hi, h⟩ := h
  refine va_iald hx hb hK.1 hP 17 0 rfl rfl hi d_M_begin_61 ?_
  refine lv_bipush (v := 8) hx hb d_M_begin_62 (by decide) ?_
  refine lv_icmp_ge (tgt := 79) hx hb d_M_begin_64 (by decide) (fun hc => ?_) (fun hc => ?_)
  · rw [if_pos hc] at h
    refine lv_aload_n hx hb d_M_begin_79 rfl (lv_at hl 1 rfl) ?_
    refine va_get (ci := 4) (v := .ref (a 37)) (C := R_M) (T := F_M) (N := 35) hx hb hts i_M hown hK.1 hP 0 rfl rfl 27 (by decide) (hts _ wd_449) (fun _ h9 => h9) rfl d_M_begin_80 ?_
    refine lv_iload_n hx hb d_M_begin_83 rfl (lv_at hl 2 rfl) ?_
    replace h := gd h
    obtain ⟨hi, h⟩ := h
    refine va_iald hx hb hK.1 hP 17 0 rfl rfl hi d_M_begin_84 ?_
    exact t_M_begin_85 (a := a) C0 hA  h hP hD hS (lv_sub hl [1, 2, 0] rfl)
  · rw [if_neg hc] at h
    refine lv_aload_n hx hb d_M_begin_67 rfl (lv_at hl 1 rfl) ?_
    refine va_get (ci := 4) (v := .ref (a 37)) (C := R_M) (T := F_M) (N := 35) hx hb hts i_M hown hK.1 hP 0 rfl rfl 27 (by decide) (hts _ wd_449) (fun _ h9 => h9) rfl d_M_begin_68 ?_
    refine lv_iload_n hx hb d_M_begin_71 rfl (lv_at hl 2 rfl) ?_
    replace h := gd h
    obtain ⟨hi, h⟩ := h
    refine va_iald hx hb hK.1 hP 17 0 rfl rfl hi d_M_begin_72 ?_
    refine lv_bipush (v := 8) hx hb d_M_begin_73 (by decide) ?_
    refine lv_iadd hx hb d_M_begin_75 ?_
    refine lv_goto (tgt := 85) hx hb d_M_begin_76 (by decide) ?_
    exact t_M_begin_85 (a := a) C0 hA  h hP hD hS (lv_sub hl [1, 2, 0] rfl)
set_option maxHeartbeats 4000000 in
set_option maxRecDepth 100000 in
theorem t_M_begin_0 {p : Program} {l : Launch} {e : Env} {s : State} {m : MethodId} {args : Array Value} {below : List Frame} {meth : Method} {c : Code} {D : va_G} {cI cZ : ClassId} {a : Nat → Nat} {A : Nat → Prop} (C0 : Am p s m args meth c b_M_begin none 4 R_M D [(cI, .int), (cZ, .boolean)]) (hA : ∀ q, s.heap.size ≤ q → A q) {res : Int32 × StM}   {q : Nat} {σ : StM} {x1 : Int32} (h : f_M_begin σ x1 = some res) {H : Heap} {locs : List Loc} (hP : va_P D vwCl (wM cI cZ a q σ) H) (hD : va_D A (wM cI cZ a q σ)) (hS : va_S A s.heap H locs) {ls : Array Slot} (hl : lv_has ls 4 [(0, .ref (a 20)), (1, .int x1)]) : W p l e (rmK 4 99 0 0) s m args below meth c H locs 0 0 (RwQv below args s D A (fun q (σ : StM) => (wM cI cZ a q σ)) res 0 0) (F0 m 0 ls []) := by
  obtain ⟨hx, hb, hr, hml, hown, hts, hlk, hK⟩ := id C0
  unfold f_M_begin at h
  refine lv_aload_n hx hb d_M_begin_0 rfl (lv_at hl 0 rfl) ?_
  refine va_get (ci := 4) (v := .ref (a 36)) (C := R_M) (T := F_M) (N := 35) hx hb hts i_M hown hK.1 hP 0 rfl rfl 26 (by decide) (hts _ wd_447) (fun _ h9 => h9) rfl d_M_begin_1 ?_
  refine lv_iload_n hx hb d_M_begin_4 rfl (lv_at hl 1 rfl) ?_
  replace h := gd h
  obtain ⟨hi, h⟩ := h
  refine va_iald hx hb hK.1 hP 16 0 rfl rfl hi d_M_begin_5 ?_
  refine lv_aload_n hx hb d_M_begin_6 rfl (lv_at hl 0 rfl) ?_
  refine va_get (ci := 4) (v := .ref (a 37)) (C := R_M) (T := F_M) (N := 35) hx hb hts i_M hown hK.1 hP 0 rfl rfl 27 (by decide) (hts _ wd_449) (fun _ h9 => h9) rfl d_M_begin_7 ?_
  refine lv_iload_n hx hb d_M_begin_10 rfl (lv_at hl 1 rfl) ?_
  replace h := gd h
  obtain ⟨hi, h⟩ := h
  refine va_iald hx hb hK.1 hP 17 0 rfl rfl hi d_M_begin_11 ?_
  refine lv_icmp_ne (tgt := 26) hx hb d_M_begin_12 (by decide) (fun hc => ?_) (fun hc => ?_)
  · rw [if_neg hc] at h
    refine lv_aload_n hx hb d_M_begin_26 rfl (lv_at hl 0 rfl) ?_
    refine va_get (ci := 4) (v := .ref (a 36)) (C := R_M) (T := F_M) (N := 35) hx hb hts i_M hown hK.1 hP 0 rfl rfl 26 (by decide) (hts _ wd_447) (fun _ h9 => h9) rfl d_M_begin_27 ?_
    refine lv_iload_n hx hb d_M_begin_30 rfl (lv_at hl 1 rfl) ?_
    replace h := gd h
    obtain ⟨hi, h⟩ := h
    refine va_iald hx hb hK.1 hP 16 0 rfl rfl hi d_M_begin_31 ?_
    refine lv_bipush (v := 8) hx hb d_M_begin_32 (by decide) ?_
    refine lv_icmp_ge (tgt := 49) hx hb d_M_begin_34 (by decide) (fun hc => ?_) (fun hc => ?_)
    · rw [if_pos hc] at h
      refine lv_aload_n hx hb d_M_begin_49 rfl (lv_at hl 0 rfl) ?_
      refine va_get (ci := 4) (v := .ref (a 36)) (C := R_M) (T := F_M) (N := 35) hx hb hts i_M hown hK.1 hP 0 rfl rfl 26 (by decide) (hts _ wd_447) (fun _ h9 => h9) rfl d_M_begin_50 ?_
      refine lv_iload_n hx hb d_M_begin_53 rfl (lv_at hl 1 rfl) ?_
      replace h := gd h
      obtain ⟨hi, h⟩ := h
      refine va_iald hx hb hK.1 hP 16 0 rfl rfl hi d_M_begin_54 ?_
      exact t_M_begin_55 (a := a) C0 hA  h hP hD hS (lv_sub hl [0, 1] rfl)
    · rw [if_neg hc] at h
      refine lv_aload_n hx hb d_M_begin_37 rfl (lv_at hl 0 rfl) ?_
      refine va_get (ci := 4) (v := .ref (a 36)) (C := R_M) (T := F_M) (N := 35) hx hb hts i_M hown hK.1 hP 0 rfl rfl 26 (by decide) (hts _ wd_447) (fun _ h9 => h9) rfl d_M_begin_38 ?_
      refine lv_iload_n hx hb d_M_begin_41 rfl (lv_at hl 1 rfl) ?_
      replace h := gd h
      obtain ⟨hi, h⟩ := h
      refine va_iald hx hb hK.1 hP 16 0 rfl rfl hi d_M_begin_42 ?_
      refine lv_bipush (v := 8) hx hb d_M_begin_43 (by decide) ?_
      refine lv_iadd hx hb d_M_begin_45 ?_
      refine lv_goto (tgt := 55) hx hb d_M_begin_46 (by decide) ?_
      exact t_M_begin_55 (a := a) C0 hA  h hP hD hS (lv_sub hl [0, 1] rfl)
  · rw [if_pos hc] at h
    refine lv_aload_n hx hb d_M_begin_15 rfl (lv_at hl 0 rfl) ?_
    refine lv_aload_n hx hb d_M_begin_16 rfl (lv_at hl 0 rfl) ?_
    refine va_get (ci := 4) (v := .ref (a 36)) (C := R_M) (T := F_M) (N := 35) hx hb hts i_M hown hK.1 hP 0 rfl rfl 26 (by decide) (hts _ wd_447) (fun _ h9 => h9) rfl d_M_begin_17 ?_
    refine lv_iload_n hx hb d_M_begin_20 rfl (lv_at hl 1 rfl) ?_
    replace h := gd h
    obtain ⟨hi, h⟩ := h
    refine va_iald hx hb hK.1 hP 16 0 rfl rfl hi d_M_begin_21 ?_
    replace h := bd h
    obtain ⟨r4, g4, h⟩ := h
    refine rw_Vv (n := 1) (ci := 4) (As := [.int ((M_left σ) x1.toNatClampNeg)]) (rest := []) (Wn := fun _ => (wM cI cZ a q r4.2)) C0 hA (c_M_tell l D cI cZ a q σ ((M_left σ) x1.toNatClampNeg) g4) wd_461 ⟨wd_462, wd_463, wd_464, wd_352⟩ (by decide +kernel) ⟨Nat.le_of_ble_eq_true rfl, Nat.le_of_ble_eq_true rfl⟩ hP hD hS [0, 1, 2, 3, 4, 5, 6, 7, 8, 9, 10, 11, 12, 13, 14, 15, 16, 17, 18, 19, 20, 21, 22, 23] [] [0, 1, 2, 3, 4, 5, 6, 7, 8, 9, 10, 11, 12, 13, 14, 15, 16, 17, 18, 19, 20, 21, 22, 23] jn_M__C (by decide) jn_M__R (by decide) (by decide) (by decide) jn_M__W rfl rfl rfl hl rfl rfl (Nat.le_of_ble_eq_true rfl) ⟨Nat.zero_le _, Nat.zero_le _⟩ d_M_begin_22 (fun H locs _ hP hD hS => ?_)
    try dsimp only at h
    exact rw_retv C0 hP hD hS (Option.some.inj h) d_M_begin_25
set_option maxHeartbeats 4000000 in
set_option maxRecDepth 100000 in
theorem c_M_begin (l : Launch) (D : va_G) (cI cZ : ClassId) (a : Nat → Nat) (q : Nat) (σ : StM) (x1 : Int32) {res : Int32 × StM} (h : f_M_begin σ x1 = some res) : RwMv l y_M_begin b_M_begin 4 4 99 D [(cI, .int), (cZ, .boolean)] [.ref (a 20), .int x1] (fun q (σ : StM) => (wM cI cZ a q σ)) q σ res :=
  rw_ofv (by decide) (Nat.le_of_ble_eq_true rfl) (fun p e s m args below meth c ls A C0 hA hP hD hS hl => t_M_begin_0 (a := a) C0 hA h hP hD hS (lv_sub hl [0, 1] rfl))
