set_option maxHeartbeats 4000000 in
set_option maxRecDepth 100000 in
theorem lw_case_15 {p : Program} {l : Launch} {e : Env} {s : State} {m : MethodId} {below : List Frame} {meth : Method} {c : Code} {D : va_G} {cI cZ cJ : ClassId} {a aM : Nat → Nat} {A : Nat → Prop} {b L : Nat} {xs : Nat → Int32} {Q : State → Prop} (C0 : Am p s m #[Value.ref b] meth c code ret 7 R_W D [(cI, .int), (cZ, .boolean)]) (hl0 : l.stackTraces = false) (hKO : KO D cI cZ cJ s) (hA : ∀ q, s.heap.size ≤ q → A q) (hZ : Zs A s s.heap) (hX : va_X b L xs s s.heap) (hbl : b < s.heap.size) (hbA : ¬ A b) (hL : L ≤ 2049) {j : Nat} (hj : j + 4 ≤ L) {bo q qM : Nat} {u : StO} {μ : StM} {rW : Int32 × StO × Nat × Nat} {rM : Int32 × StM} (gW : f_W_told u (xs (j + 1)) = some rW) (gM : f_M_told μ (xs (j + 1)) = some rM) (hcd : f_M_thrown rM.2 = rW.1) (hov : rW.1 = 0 → rW.2.1.2 0 = rM.1.toInt64) {H : Heap} {locs : List Loc} {cells slots : Nat} (hcs : cells + rW.2.2.1 ≤ room_1.cells ∧ slots + rW.2.2.2 ≤ room_1.slots) (hP : va_P D vwCl (wX cI cZ cJ a aM bo q qM u μ) H) (hD : va_D A (wX cI cZ cJ a aM bo q qM u μ)) (hS : va_S A s.heap H locs) {ls : Array Slot} (hl : lv_has ls 7 [(0, .ref b), (1, .ref (a 0)), (2, .ref (aM 20)), (3, .ref bo), (4, .int (nI j))])
    (kk : ∀ (H : Heap) (locs : List Loc) (q qM : Nat) (ls : Array Slot), va_P D vwCl (wX cI cZ cJ a aM bo q qM rW.2.1 rM.2) H → va_D A (wX cI cZ cJ a aM bo q qM rW.2.1 rM.2) → va_S A s.heap H locs → lv_has ls 7 [(0, .ref b), (1, .ref (a 0)), (2, .ref (aM 20)), (3, .ref bo), (4, .int (nI j))] → W p l e room_1 s m #[Value.ref b] below meth c H locs (cells + rW.2.2.1) (slots + rW.2.2.2) Q (F0 m 828 ls [])) : W p l e room_1 s m #[Value.ref b] below meth c H locs cells slots Q (F0 m 772 ls []) := by
  obtain ⟨hx, hb, hr, hml, hown, hts, hlk, hK⟩ := id C0
  refine lv_aload_n hx hb d_W_law_772 rfl (lv_at hl 1 rfl) ?_
  refine lw_ld (kn := 1) hx hb hX hbl hbA hS (lv_at hl 0 rfl) (lv_at hl 4 rfl) rfl (by omega) hL d_W_law_773 d_W_law_774 d_W_law_776 d_W_law_777 d_W_law_778 ?_
  refine lv_aload_n hx hb d_W_law_779 rfl (lv_at hl 3 rfl) ?_
  refine hp_S (n := 3) (As := [.ref (a 0), .int (xs (j + 1)), .ref bo]) (rest := []) (Wn := fun q1 => wX cI cZ cJ a aM bo q1 qM rW.2.1 μ) C0 hKO hA hZ (c_W_told l D cI cZ cJ a hl0 bo q u (xs (j + 1)) gW) wd_688 wd_686 wd_687 wd_582 (by decide +kernel) ⟨Nat.le_of_ble_eq_true rfl, Nat.le_of_ble_eq_true rfl⟩ hP hD hS [0, 1, 2, 3, 4, 5, 6, 7, 8, 9, 10, 11, 12, 13, 14, 15, 16, 17, 18, 19, 20, 21] [22, 23, 24, 25, 26, 27, 28, 29, 30, 31, 32, 33, 34, 35, 36, 37, 38, 39, 40, 41, 42, 43, 44, 45] [24, 25, 26, 27, 28, 29, 30, 31, 32, 33, 34, 35, 36, 37, 38, 39, 40, 41, 42, 43, 44, 45, 0, 1, 2, 3, 4, 5, 6, 7, 8, 9, 10, 11, 12, 13, 14, 15, 16, 17, 18, 19, 20, 21, 22, 23] jx_C (by decide) jx_R (by decide) (by decide) (by decide) (fun q1 => jx_W q1) hl rfl rfl (Nat.le_of_ble_eq_true rfl) hcs d_W_law_780 (fun H locs q hP hD hS => ?_)
  refine lv_istore (lv' := [(5, .int rW.1), (0, .ref b), (1, .ref (a 0)), (2, .ref (aM 20)), (3, .ref bo), (4, .int (nI j))]) hx hb d_W_law_783 hl (by decide) rfl (fun ls hl => ?_)
  refine lv_aload_n hx hb d_W_law_785 rfl (lv_at hl 3 rfl) ?_
  refine lw_ld (kn := 1) hx hb hX hbl hbA hS (lv_at hl 1 rfl) (lv_at hl 5 rfl) rfl (by omega) hL d_W_law_786 d_W_law_787 d_W_law_789 d_W_law_790 d_W_law_791 ?_
  refine rw_V (n := 1) (ci := 4) (As := [.int (xs (j + 1))]) (rest := []) (w := fun q (σ : StM) => wM cI cZ aM q σ) (Wn := fun q1 => wX cI cZ cJ a aM bo q q1 rW.2.1 rM.2) C0 hA (c_M_told l D cI cZ aM qM μ (xs (j + 1)) gM) wd_689 ⟨wd_690, wd_691, wd_692, wd_352⟩ (by decide +kernel) ⟨Nat.le_of_ble_eq_true rfl, Nat.le_of_ble_eq_true rfl⟩ hP hD hS [22, 23, 24, 25, 26, 27, 28, 29, 30, 31, 32, 33, 34, 35, 36, 37, 38, 39, 40, 41, 42, 43, 44, 45] [0, 1, 2, 3, 4, 5, 6, 7, 8, 9, 10, 11, 12, 13, 14, 15, 16, 17, 18, 19, 20, 21] [0, 1, 2, 3, 4, 5, 6, 7, 8, 9, 10, 11, 12, 13, 14, 15, 16, 17, 18, 19, 20, 21, 22, 23, 24, 25, 26, 27, 28, 29, 30, 31, 32, 33, 34, 35, 36, 37, 38, 39, 40, 41, 42, 43, 44, 45] jm_C (by decide) jm_R (by decide) (by decide) (by decide) (fun q1 => jm_W q1) rfl rfl rfl hl rfl rfl (Nat.le_of_ble_eq_true rfl) hcs d_W_law_792 (fun H locs qM hP hD hS => ?_)
  refine lv_istore (lv' := [(6, .int rM.1), (5, .int rW.1), (0, .ref b), (1, .ref (a 0)), (2, .ref (aM 20)), (3, .ref bo), (4, .int (nI j))]) hx hb d_W_law_795 hl (by decide) rfl (fun ls hl => ?_)
  refine lv_aload_n hx hb d_W_law_797 rfl (lv_at hl 4 rfl) ?_
  refine ro_V (n := 0) (ci := 4) (As := []) (rest := []) (w := wM cI cZ aM qM rM.2) C0 (c_M_thrown l D cI cZ aM qM rM.2 hcd) wd_693 ⟨wd_694, wd_695, wd_696, wd_352⟩ (by decide +kernel) ⟨Nat.le_of_ble_eq_true rfl, Nat.le_of_ble_eq_true rfl⟩ (hP.pick [22, 23, 24, 25, 26, 27, 28, 29, 30, 31, 32, 33, 34, 35, 36, 37, 38, 39, 40, 41, 42, 43, 44, 45] jm_C) rfl rfl rfl hl rfl rfl (Nat.le_of_ble_eq_true rfl) hcs d_W_law_798 ?_
  refine lv_iload hx hb d_W_law_801 (lv_at hl 1 rfl) ?_
  refine lv_icmp_eq (tgt := 808) hx hb d_W_law_803 (by decide) (fun _ => ?_) (fun hc => absurd rfl hc)
  refine lv_iload hx hb d_W_law_808 (lv_at hl 1 rfl) ?_
  have fin : W p l e room_1 s m #[Value.ref b] below meth c H locs (cells + rW.2.2.1) (slots + rW.2.2.2) Q (F0 m 825 ls []) := by
    refine lv_goto (tgt := 828) hx hb d_W_law_825 (by decide) ?_
    exact kk H locs q qM ls hP hD hS (lv_sub hl [2, 3, 4, 5, 6] rfl)
  refine lv_if_ne (tgt := 825) hx hb d_W_law_810 (by decide) (fun _ => fin) (fun hz => ?_)
  refine lv_aload_n hx hb d_W_law_813 rfl (lv_at hl 5 rfl) ?_
  refine lv_iconst (v := 0) hx hb d_W_law_814 (by decide) ?_
  refine va_lald hx hb hKO.2.1 hP 21 0 rfl rfl in01 d_W_law_815 ?_
  refine lv_iload hx hb d_W_law_816 (lv_at hl 0 rfl) ?_
  refine lv_i2l hx hb d_W_law_818 rfl ?_
  refine W.lcmp hx hb d_W_law_819 ?_
  refine lv_if_eq (tgt := 825) hx hb d_W_law_820 (by decide) (fun _ => fin) (fun hc => ?_)
  refine absurd ?_ hc
  have h0 := hov hz
  have h1 : rW.2.1.2 (0 : Int32).toNatClampNeg = rM.1.toInt64 := h0
  rw [h1]
  simp [lg_cmp]
