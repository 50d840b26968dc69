set_option maxHeartbeats 4000000 in
set_option maxRecDepth 100000 in
theorem lw_case_0 {p : Program} {l : Launch} {e : Env} {s : State} {m : MethodId} {below : List Frame} {meth : Method} {c : Code} {D : va_G} {cI cZ cJ : ClassId} {a aM : Nat → Nat} {A : Nat → Prop} {b L : Nat} {xs : Nat → Int32} {Q : State → Prop} (C0 : Am p s m #[Value.ref b] meth c code ret 7 R_W D [(cI, .int), (cZ, .boolean)]) (hl0 : l.stackTraces = false) (hKO : KO D cI cZ cJ s) (hA : ∀ q, s.heap.size ≤ q → A q) (hZ : Zs A s s.heap) (hX : va_X b L xs s s.heap) (hbl : b < s.heap.size) (hbA : ¬ A b) (hL : L ≤ 2049) {j : Nat} (hj : j + 4 ≤ L) {bo q qM : Nat} {u : StO} {μ : StM} {rW : Int32 × StO × Nat × Nat} {rM : Int32 × StM} (gW : f_W_declare u (if (xs (j + 1)) = 0 then 0 else 1) (if (xs (j + 2)) = 0 then 0 else 1) = some rW) (gM : f_M_declare μ (if (xs (j + 1)) = 0 then 0 else 1) (if (xs (j + 2)) = 0 then 0 else 1) = some rM) (hcd : f_M_thrown rM.2 = rW.1) (hov : rW.1 = 0 → rW.2.1.2 0 = rM.1.toInt64) {H : Heap} {locs : List Loc} {cells slots : Nat} (hcs : cells + rW.2.2.1 ≤ room_1.cells ∧ slots + rW.2.2.2 ≤ room_1.slots) (hP : va_P D vwCl (wX cI cZ cJ a aM bo q qM u μ) H) (hD : va_D A (wX cI cZ cJ a aM bo q qM u μ)) (hS : va_S A s.heap H locs) {ls : Array Slot} (hl : lv_has ls 7 [(0, .ref b), (1, .ref (a 0)), (2, .ref (aM 20)), (3, .ref bo), (4, .int (nI j))])
    (kk : ∀ (H : Heap) (locs : List Loc) (q qM : Nat) (ls : Array Slot), va_P D vwCl (wX cI cZ cJ a aM bo q qM rW.2.1 rM.2) H → va_D A (wX cI cZ cJ a aM bo q qM rW.2.1 rM.2) → va_S A s.heap H locs → lv_has ls 7 [(0, .ref b), (1, .ref (a 0)), (2, .ref (aM 20)), (3, .ref bo), (4, .int (nI j))] → W p l e room_1 s m #[Value.ref b] below meth c H locs (cells + rW.2.2.1) (slots + rW.2.2.2) Q (F0 m 828 ls [])) : W p l e room_1 s m #[Value.ref b] below meth c H locs cells slots Q (F0 m 128 ls []) := by
  obtain ⟨hx, hb, hr, hml, hown, hts, hlk, hK⟩ := id C0
  refine lv_aload_n hx hb d_W_law_128 rfl (lv_at hl 1 rfl) ?_
  refine lw_ld (kn := 1) hx hb hX hbl hbA hS (lv_at hl 0 rfl) (lv_at hl 4 rfl) rfl (by omega) hL d_W_law_129 d_W_law_130 d_W_law_132 d_W_law_133 d_W_law_134 ?_
  refine lw_bz hx hb d_W_law_135 d_W_law_138 d_W_law_139 d_W_law_142 ?_
  refine lw_ld (kn := 2) hx hb hX hbl hbA hS (lv_at hl 0 rfl) (lv_at hl 4 rfl) rfl (by omega) hL d_W_law_143 d_W_law_144 d_W_law_146 d_W_law_147 d_W_law_148 ?_
  refine lw_bz hx hb d_W_law_149 d_W_law_152 d_W_law_153 d_W_law_156 ?_
  refine lv_aload_n hx hb d_W_law_157 rfl (lv_at hl 3 rfl) ?_
  refine hp_S (n := 4) (As := [.ref (a 0), .int (if (xs (j + 1)) = 0 then 0 else 1), .int (if (xs (j + 2)) = 0 then 0 else 1), .ref bo]) (rest := []) (Wn := fun q1 => wX cI cZ cJ a aM bo q1 qM rW.2.1 μ) C0 hKO hA hZ (c_W_declare l D cI cZ cJ a hl0 bo q u (if (xs (j + 1)) = 0 then 0 else 1) (if (xs (j + 2)) = 0 then 0 else 1) gW) wd_583 wd_580 wd_581 wd_582 (by decide +kernel) ⟨Nat.le_of_ble_eq_true rfl, Nat.le_of_ble_eq_true rfl⟩ hP hD hS [0, 1, 2, 3, 4, 5, 6, 7, 8, 9, 10, 11, 12, 13, 14, 15, 16, 17, 18, 19, 20, 21] [22, 23, 24, 25, 26, 27, 28, 29, 30, 31, 32, 33, 34, 35, 36, 37, 38, 39, 40, 41, 42, 43, 44, 45] [24, 25, 26, 27, 28, 29, 30, 31, 32, 33, 34, 35, 36, 37, 38, 39, 40, 41, 42, 43, 44, 45, 0, 1, 2, 3, 4, 5, 6, 7, 8, 9, 10, 11, 12, 13, 14, 15, 16, 17, 18, 19, 20, 21, 22, 23] jx_C (by decide) jx_R (by decide) (by decide) (by decide) (fun q1 => jx_W q1) hl rfl rfl (Nat.le_of_ble_eq_true rfl) hcs d_W_law_158 (fun H locs q hP hD hS => ?_)
  refine lv_istore (lv' := [(5, .int rW.1), (0, .ref b), (1, .ref (a 0)), (2, .ref (aM 20)), (3, .ref bo), (4, .int (nI j))]) hx hb d_W_law_161 hl (by decide) rfl (fun ls hl => ?_)
  refine lv_aload_n hx hb d_W_law_163 rfl (lv_at hl 3 rfl) ?_
  refine lw_ld (kn := 1) hx hb hX hbl hbA hS (lv_at hl 1 rfl) (lv_at hl 5 rfl) rfl (by omega) hL d_W_law_164 d_W_law_165 d_W_law_167 d_W_law_168 d_W_law_169 ?_
  refine lw_bz hx hb d_W_law_170 d_W_law_173 d_W_law_174 d_W_law_177 ?_
  refine lw_ld (kn := 2) hx hb hX hbl hbA hS (lv_at hl 1 rfl) (lv_at hl 5 rfl) rfl (by omega) hL d_W_law_178 d_W_law_179 d_W_law_181 d_W_law_182 d_W_law_183 ?_
  refine lw_bz hx hb d_W_law_184 d_W_law_187 d_W_law_188 d_W_law_191 ?_
  refine rw_V (n := 2) (ci := 4) (As := [.int (if (xs (j + 1)) = 0 then 0 else 1), .int (if (xs (j + 2)) = 0 then 0 else 1)]) (rest := []) (w := fun q (σ : StM) => wM cI cZ aM q σ) (Wn := fun q1 => wX cI cZ cJ a aM bo q q1 rW.2.1 rM.2) C0 hA (c_M_declare l D cI cZ aM qM μ (if (xs (j + 1)) = 0 then 0 else 1) (if (xs (j + 2)) = 0 then 0 else 1) gM) wd_584 ⟨wd_585, wd_586, wd_587, wd_352⟩ (by decide +kernel) ⟨Nat.le_of_ble_eq_true rfl, Nat.le_of_ble_eq_true rfl⟩ hP hD hS [22, 23, 24, 25, 26, 27, 28, 29, 30, 31, 32, 33, 34, 35, 36, 37, 38, 39, 40, 41, 42, 43, 44, 45] [0, 1, 2, 3, 4, 5, 6, 7, 8, 9, 10, 11, 12, 13, 14, 15, 16, 17, 18, 19, 20, 21] [0, 1, 2, 3, 4, 5, 6, 7, 8, 9, 10, 11, 12, 13, 14, 15, 16, 17, 18, 19, 20, 21, 22, 23, 24, 25, 26, 27, 28, 29, 30, 31, 32, 33, 34, 35, 36, 37, 38, 39, 40, 41, 42, 43, 44, 45] jm_C (by decide) jm_R (by decide) (by decide) (by decide) (fun q1 => jm_W q1) rfl rfl rfl hl rfl rfl (Nat.le_of_ble_eq_true rfl) hcs d_W_law_192 (fun H locs qM hP hD hS => ?_)
  refine lv_istore (lv' := [(6, .int rM.1), (5, .int rW.1), (0, .ref b), (1, .ref (a 0)), (2, .ref (aM 20)), (3, .ref bo), (4, .int (nI j))]) hx hb d_W_law_195 hl (by decide) rfl (fun ls hl => ?_)
  refine lv_aload_n hx hb d_W_law_197 rfl (lv_at hl 4 rfl) ?_
  refine ro_V (n := 0) (ci := 4) (As := []) (rest := []) (w := wM cI cZ aM qM rM.2) C0 (c_M_thrown l D cI cZ aM qM rM.2 hcd) wd_588 ⟨wd_589, wd_590, wd_591, wd_352⟩ (by decide +kernel) ⟨Nat.le_of_ble_eq_true rfl, Nat.le_of_ble_eq_true rfl⟩ (hP.pick [22, 23, 24, 25, 26, 27, 28, 29, 30, 31, 32, 33, 34, 35, 36, 37, 38, 39, 40, 41, 42, 43, 44, 45] jm_C) rfl rfl rfl hl rfl rfl (Nat.le_of_ble_eq_true rfl) hcs d_W_law_198 ?_
  refine lv_iload hx hb d_W_law_201 (lv_at hl 1 rfl) ?_
  refine lv_icmp_eq (tgt := 208) hx hb d_W_law_203 (by decide) (fun _ => ?_) (fun hc => absurd rfl hc)
  refine lv_iload hx hb d_W_law_208 (lv_at hl 1 rfl) ?_
  have fin : W p l e room_1 s m #[Value.ref b] below meth c H locs (cells + rW.2.2.1) (slots + rW.2.2.2) Q (F0 m 225 ls []) := by
    refine lv_goto (tgt := 828) hx hb d_W_law_225 (by decide) ?_
    exact kk H locs q qM ls hP hD hS (lv_sub hl [2, 3, 4, 5, 6] rfl)
  refine lv_if_ne (tgt := 225) hx hb d_W_law_210 (by decide) (fun _ => fin) (fun hz => ?_)
  refine lv_aload_n hx hb d_W_law_213 rfl (lv_at hl 5 rfl) ?_
  refine lv_iconst (v := 0) hx hb d_W_law_214 (by decide) ?_
  refine va_lald hx hb hKO.2.1 hP 21 0 rfl rfl in01 d_W_law_215 ?_
  refine lv_iload hx hb d_W_law_216 (lv_at hl 0 rfl) ?_
  refine lv_i2l hx hb d_W_law_218 rfl ?_
  refine W.lcmp hx hb d_W_law_219 ?_
  refine lv_if_eq (tgt := 225) hx hb d_W_law_220 (by decide) (fun _ => fin) (fun hc => ?_)
  refine absurd ?_ hc
  have h0 := hov hz
  have h1 : rW.2.1.2 (0 : Int32).toNatClampNeg = rM.1.toInt64 := h0
  rw [h1]
  simp [lg_cmp]
