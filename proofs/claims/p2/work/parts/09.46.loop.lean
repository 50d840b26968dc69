-- part 09.46.loop.lean.txt
set_option maxHeartbeats 4000000 in
set_option maxRecDepth 100000 in
theorem law_loop {p : Program} {l : Launch} {e : Env} {s : State} {m : MethodId} {below : List Frame} {meth : Method} {c : Code} {D : va_G} {cI cZ cJ : ClassId} {a aM : Nat → Nat} {b L : Nat} {xs : Nat → Int32} (C0 : Am p s m #[Value.ref b] meth c code ret 7 R_W D [(cI, .int), (cZ, .boolean)]) (hl0 : l.stackTraces = false) (hKO : KO D cI cZ cJ s) (hZ : Zs (fun q : Nat => s.heap.size ≤ q) s s.heap) (hX : va_X b L xs s s.heap) (hbl : b < s.heap.size) (hL : L ≤ 2049) {bo d : Nat} :
    ∀ (f j k n g t q qM : Nat) (u : StO) (μ : StM) (wc : wWc) (gc : Nat) (wt : wWt), j = 1 + 4 * k → j ≤ L + 4 → L + 5 ≤ j + 4 * f → kL u.1 n g d → kN μ n g d t → RW wc gc wt d → RL u.1 wc gc wt d → RM μ wc gc wt d → ∀ (cells slots : Nat), cells + 64 ≤ 46 + k + (T_parts (L_types u.1)).1 → slots + 128 ≤ 131207 + 6 * k + 2 * (T_parts (L_types u.1)).1 → ∀ (H : Heap) (locs : List Loc), va_P D vwCl (wX cI cZ cJ a aM bo q qM u μ) H → va_D (fun q : Nat => s.heap.size ≤ q) (wX cI cZ cJ a aM bo q qM u μ) → va_S (fun q : Nat => s.heap.size ≤ q) s.heap H locs → ∀ (ls : Array Slot), lv_has ls 7 [(0, .ref b), (1, .ref (a 0)), (2, .ref (aM 20)), (3, .ref bo), (4, .int (nI j))] → W p l e room_1 s m #[Value.ref b] below meth c H locs cells slots (lw_Z below #[Value.ref b] s) (F0 m 33 ls []) := by
  obtain ⟨hx, hb, hr, hml, hown, hts, hlk, hK⟩ := id C0
  have hA : ∀ q : Nat, s.heap.size ≤ q → (fun q : Nat => s.heap.size ≤ q) q := fun _ h => h
  have hbA : ¬ (fun q : Nat => s.heap.size ≤ q) b := Nat.not_le.mpr hbl
  have rc : room_1.cells = 601024 := rfl
  have rs : room_1.slots = 7293000 := rfl
  intro f
  induction f with
  | zero =>
    intro j k n g t q qM u μ wc gc wt ej hjl hf hkL hkN hRW hRL hRM cells slots hc hs H locs hP hD hS ls hl
    exact absurd hf (by omega)
  | succ f ih =>
    intro j k n g t q qM u μ wc gc wt ej hjl hf hkL hkN hRW hRL hRM cells slots hc hs H locs hP hD hS ls hl
    obtain ⟨len1, len2⟩ := lw_len hkL
    refine lv_iload hx hb d_W_law_33 (lv_at hl 4 rfl) ?_
    refine lv_aload_n hx hb d_W_law_35 rfl (lv_at hl 0 rfl) ?_
    refine va_slen hx hb hX hbl hbA hS d_W_law_36 ?_
    refine lv_iconst (v := 4) hx hb d_W_law_37 (by decide) ?_
    refine lv_isub hx hb d_W_law_38 ?_
    have eL : (Int32.ofNat L - 4).toInt = (L : Int) - 4 := by
      have e1 : (Int32.ofNat L).toInt = (L : Int) := nI_toInt (n := L) (by omega)
      have e2 : (4 : Int32).toInt = 4 := by decide
      rw [Int32.toInt_sub, e1, e2, Int.bmod_eq_of_le (by omega) (by omega)]
    refine lv_icmp_gt (tgt := 834) hx hb d_W_law_39 (by decide) (fun hgt => ?_) (fun hgt => ?_)
    · refine lv_iconst (v := 1) hx hb d_W_law_834 (by decide) ?_
      have hkk : k ≤ 600 := by omega
      refine va_forget (fun q hq => hS.2.2 q hq) ?_
      refine W.widen (k := 601024) (n := 7293000) ?_ ?_ ?_
      · omega
      · omega
      · exact lw_ret hx hb hr hlk d_W_law_835
    · have hj : j + 4 ≤ L := by
        rw [Int32.lt_iff_toInt_lt, eL] at hgt
        rw [nI_toInt (show j < 2 ^ 31 by omega)] at hgt
        omega
      have hk512 : k ≤ 511 := by omega
      have next : ∀ (n' g' t' q' qM' : Nat) (u' : StO) (μ' : StM) (C' : wWc) (gC' : Nat) (T' : wWt) (K N : Nat), kL u'.1 n' g' d → kN μ' n' g' d t' → (RW C' gC' T' d ∧ RL u'.1 C' gC' T' d ∧ RM μ' C' gC' T' d) → K + (T_parts (L_types u.1)).1 ≤ 1 + (T_parts (L_types u'.1)).1 → N + 2 * (T_parts (L_types u.1)).1 ≤ 6 + 2 * (T_parts (L_types u'.1)).1 → ∀ (H : Heap) (locs : List Loc), va_P D vwCl (wX cI cZ cJ a aM bo q' qM' u' μ') H → va_D (fun q : Nat => s.heap.size ≤ q) (wX cI cZ cJ a aM bo q' qM' u' μ') → va_S (fun q : Nat => s.heap.size ≤ q) s.heap H locs → ∀ (ls : Array Slot), lv_has ls 7 [(0, .ref b), (1, .ref (a 0)), (2, .ref (aM 20)), (3, .ref bo), (4, .int (nI j))] → W p l e room_1 s m #[Value.ref b] below meth c H locs (cells + K) (slots + N) (lw_Z below #[Value.ref b] s) (F0 m 828 ls []) := by
        intro n' g' t' q' qM' u' μ' C' gC' T' K N h1 h2 hR h3 h4 H locs hP hD hS ls hl
        refine lv_iinc (v := nI (j + 4)) (lv' := [(4, .int (nI (j + 4))), (0, .ref b), (1, .ref (a 0)), (2, .ref (aM 20)), (3, .ref bo)]) hx hb d_W_law_828 hl (k := 4) rfl (nI_add j 4) (by decide) rfl (fun ls hl => ?_)
        refine lv_goto (tgt := 33) hx hb d_W_law_831 (by decide) ?_
        exact ih (j + 4) (k + 1) n' g' t' q' qM' u' μ' C' gC' T' (by omega) (by omega) (by omega) h1 h2 hR.1 hR.2.1 hR.2.2 (cells + K) (slots + N) (by omega) (by omega) H locs hP hD hS ls (lv_sub hl [1, 2, 3, 4, 0] rfl)
      refine lv_aload_n hx hb d_W_law_42 rfl (lv_at hl 0 rfl) ?_
      refine lv_iload hx hb d_W_law_43 (lv_at hl 4 rfl) ?_
      refine va_sld hx hb hX hbl hbA hS (vp_in_nI (show j < L by omega) (by omega)) d_W_law_45 ?_
      refine lv_bipush (v := 15) hx hb d_W_law_46 (by decide) ?_
      refine lv_iand hx hb d_W_law_48 ?_
      obtain ⟨v, hv, ev⟩ := lw_15 (xs (nI j).toNatClampNeg)
      rw [ev]
      rcases (show v = 0 ∨ v = 1 ∨ v = 2 ∨ v = 3 ∨ v = 4 ∨ v = 5 ∨ v = 6 ∨ v = 7 ∨ v = 8 ∨ v = 9 ∨ v = 10 ∨ v = 11 ∨ v = 12 ∨ v = 13 ∨ v = 14 ∨ v = 15 by omega) with rfl | rfl | rfl | rfl | rfl | rfl | rfl | rfl | rfl | rfl | rfl | rfl | rfl | rfl | rfl | rfl
      · refine lv_tableIn (off := 79) (tgt := 128) hx hb d_W_law_49 (by decide +kernel) (by decide +kernel) (by decide +kernel) (by decide) ?_
        obtain ⟨rW, rM, n', g', t', C', gC', T', gW, gM, ⟨w1, w2, w3⟩, w4, wR, w5, w6⟩ := s_X_declare hkL hkN hRW hRL hRM (lw_b2 (xs (j + 1))) (lw_b2 (xs (j + 2)))
        have l9 := lw_len w1
        refine lw_case_0 C0 hl0 hKO hA hZ hX hbl hbA hL hj gW gM w5 w6 ⟨by rw [rc]; omega, by rw [rs]; omega⟩ hP hD hS hl ?_
        intro H locs q qM ls hP hD hS hl
        exact next n' g' t' q qM rW.2.1 rM.2 C' gC' T' rW.2.2.1 rW.2.2.2 w1 w4 wR w2 w3 H locs hP hD hS ls hl
      · refine lv_tableIn (off := 179) (tgt := 228) hx hb d_W_law_49 (by decide +kernel) (by decide +kernel) (by decide +kernel) (by decide) ?_
        obtain ⟨rW, rM, n', g', t', C', gC', T', gW, gM, ⟨w1, w2, w3⟩, w4, wR, w5, w6⟩ := s_X_above hkL hkN hRW hRL hRM (xs (j + 1)) (xs (j + 2))
        have l9 := lw_len w1
        refine lw_case_1 C0 hl0 hKO hA hZ hX hbl hbA hL hj gW gM ⟨by rw [rc]; omega, by rw [rs]; omega⟩ hP hD hS hl ?_
        intro H locs q qM ls hP hD hS hl
        exact next n' g' t' q qM rW.2.1 rM.2 C' gC' T' rW.2.2.1 rW.2.2.2 w1 w4 wR w2 w3 H locs hP hD hS ls hl
      · refine lv_tableIn (off := 219) (tgt := 268) hx hb d_W_law_49 (by decide +kernel) (by decide +kernel) (by decide +kernel) (by decide) ?_
        obtain ⟨rW, rM, n', g', t', C', gC', T', gW, gM, ⟨w1, w2, w3⟩, w4, wR, w5, w6⟩ := s_X_named hkL hkN hRW hRL hRM (xs (j + 1)) (xs (j + 2)) (xs (j + 3))
        have l9 := lw_len w1
        refine lw_case_2 C0 hl0 hKO hA hZ hX hbl hbA hL hj gW gM ⟨by rw [rc]; omega, by rw [rs]; omega⟩ hP hD hS hl ?_
        intro H locs q qM ls hP hD hS hl
        exact next n' g' t' q qM rW.2.1 rM.2 C' gC' T' rW.2.2.1 rW.2.2.2 w1 w4 wR w2 w3 H locs hP hD hS ls hl
      · refine lv_tableIn (off := 271) (tgt := 320) hx hb d_W_law_49 (by decide +kernel) (by decide +kernel) (by decide +kernel) (by decide) ?_
        obtain ⟨rW, rM, n', g', t', C', gC', T', gW, gM, ⟨w1, w2, w3⟩, w4, wR, w5, w6⟩ := s_X_array hkL hkN hRW hRL hRM (xs (j + 1))
        have l9 := lw_len w1
        refine lw_case_3 C0 hl0 hKO hA hZ hX hbl hbA hL hj gW gM ⟨by rw [rc]; omega, by rw [rs]; omega⟩ hP hD hS hl ?_
        intro H locs q qM ls hP hD hS hl
        exact next n' g' t' q qM rW.2.1 rM.2 C' gC' T' rW.2.2.1 rW.2.2.2 w1 w4 wR w2 w3 H locs hP hD hS ls hl
      · refine lv_tableIn (off := 299) (tgt := 348) hx hb d_W_law_49 (by decide +kernel) (by decide +kernel) (by decide +kernel) (by decide) ?_
        obtain ⟨rW, rM, n', g', t', C', gC', T', gW, gM, ⟨w1, w2, w3⟩, w4, wR, w5, w6⟩ := s_X_upper hkL hkN hRW hRL hRM (xs (j + 1)) (xs (j + 2))
        have l9 := lw_len w1
        refine lw_case_4 C0 hl0 hKO hA hZ hX hbl hbA hL hj gW gM ⟨by rw [rc]; omega, by rw [rs]; omega⟩ hP hD hS hl ?_
        intro H locs q qM ls hP hD hS hl
        exact next n' g' t' q qM rW.2.1 rM.2 C' gC' T' rW.2.2.1 rW.2.2.2 w1 w4 wR w2 w3 H locs hP hD hS ls hl
      · refine lv_tableIn (off := 339) (tgt := 388) hx hb d_W_law_49 (by decide +kernel) (by decide +kernel) (by decide +kernel) (by decide) ?_
        obtain ⟨rW, rM, n', g', t', C', gC', T', gW, gM, ⟨w1, w2, w3⟩, w4, wR, w5, w6⟩ := s_X_lower hkL hkN hRW hRL hRM (xs (j + 1)) (xs (j + 2))
        have l9 := lw_len w1
        refine lw_case_5 C0 hl0 hKO hA hZ hX hbl hbA hL hj gW gM ⟨by rw [rc]; omega, by rw [rs]; omega⟩ hP hD hS hl ?_
        intro H locs q qM ls hP hD hS hl
        exact next n' g' t' q qM rW.2.1 rM.2 C' gC' T' rW.2.2.1 rW.2.2.2 w1 w4 wR w2 w3 H locs hP hD hS ls hl
      · refine lv_tableIn (off := 379) (tgt := 428) hx hb d_W_law_49 (by decide +kernel) (by decide +kernel) (by decide +kernel) (by decide) ?_
        obtain ⟨rW, rM, n', g', t', C', gC', T', gW, gM, ⟨w1, w2, w3⟩, w4, wR, w5, w6⟩ := s_X_isBelow hkL hkN hRW hRL hRM (xs (j + 1)) (xs (j + 2))
        have l9 := lw_len w1
        refine lw_case_6 C0 hl0 hKO hA hZ hX hbl hbA hL hj gW gM ⟨by rw [rc]; omega, by rw [rs]; omega⟩ hP hD hS hl ?_
        intro H locs q qM ls hP hD hS hl
        exact next n' g' t' q qM rW.2.1 rM.2 C' gC' T' rW.2.2.1 rW.2.2.2 w1 w4 wR w2 w3 H locs hP hD hS ls hl
      · refine lv_tableIn (off := 419) (tgt := 468) hx hb d_W_law_49 (by decide +kernel) (by decide +kernel) (by decide +kernel) (by decide) ?_
        obtain ⟨rW, rM, n', g', t', C', gC', T', gW, gM, ⟨w1, w2, w3⟩, w4, wR, w5, w6⟩ := s_X_look hkL hkN hRW hRL hRM (xs (j + 1)) (xs (j + 2))
        have l9 := lw_len w1
        refine lw_case_7 C0 hl0 hKO hA hZ hX hbl hbA hL hj gW gM ⟨by rw [rc]; omega, by rw [rs]; omega⟩ hP hD hS hl ?_
        intro H locs q qM ls hP hD hS hl
        exact next n' g' t' q qM rW.2.1 rM.2 C' gC' T' rW.2.2.1 rW.2.2.2 w1 w4 wR w2 w3 H locs hP hD hS ls hl
      · refine lv_tableIn (off := 459) (tgt := 508) hx hb d_W_law_49 (by decide +kernel) (by decide +kernel) (by decide +kernel) (by decide) ?_
        obtain ⟨rW, rM, n', g', t', C', gC', T', gW, gM, ⟨w1, w2, w3⟩, w4, wR, w5, w6⟩ := s_X_box hkL hkN hRW hRL hRM (xs (j + 1))
        have l9 := lw_len w1
        refine lw_case_8 C0 hl0 hKO hA hZ hX hbl hbA hL hj gW gM ⟨by rw [rc]; omega, by rw [rs]; omega⟩ hP hD hS hl ?_
        intro H locs q qM ls hP hD hS hl
        exact next n' g' t' q qM rW.2.1 rM.2 C' gC' T' rW.2.2.1 rW.2.2.2 w1 w4 wR w2 w3 H locs hP hD hS ls hl
      · refine lv_tableIn (off := 487) (tgt := 536) hx hb d_W_law_49 (by decide +kernel) (by decide +kernel) (by decide +kernel) (by decide) ?_
        obtain ⟨rW, rM, n', g', t', C', gC', T', gW, gM, ⟨w1, w2, w3⟩, w4, wR⟩ := s_X_type hkL hkN hRW hRL hRM (xs (j + 1)) (xs (j + 2))
        have l9 := lw_len w1
        refine lw_case_9 C0 hl0 hKO hA hZ hX hbl hbA hL hj gW gM ⟨by rw [rc]; omega, by rw [rs]; omega⟩ hP hD hS hl ?_
        intro H locs q qM ls hP hD hS hl
        exact next n' g' t' q qM rW.2.1 rM.2 C' gC' T' rW.2.2.1 rW.2.2.2 w1 w4 wR w2 w3 H locs hP hD hS ls hl
      · refine lv_tableIn (off := 527) (tgt := 576) hx hb d_W_law_49 (by decide +kernel) (by decide +kernel) (by decide +kernel) (by decide) ?_
        obtain ⟨rW, rM, n', g', t', C', gC', T', gW, gM, ⟨w1, w2, w3⟩, w4, wR, w5, w6⟩ := s_X_part hkL hkN hRW hRL hRM (xs (j + 1)) (xs (j + 2))
        have l9 := lw_len w1
        refine lw_case_10 C0 hl0 hKO hA hZ hX hbl hbA hL hj gW gM ⟨by rw [rc]; omega, by rw [rs]; omega⟩ hP hD hS hl ?_
        intro H locs q qM ls hP hD hS hl
        exact next n' g' t' q qM rW.2.1 rM.2 C' gC' T' rW.2.2.1 rW.2.2.2 w1 w4 wR w2 w3 H locs hP hD hS ls hl
      · refine lv_tableIn (off := 567) (tgt := 616) hx hb d_W_law_49 (by decide +kernel) (by decide +kernel) (by decide +kernel) (by decide) ?_
        obtain ⟨rW, rM, n', g', t', C', gC', T', gW, gM, ⟨w1, w2, w3⟩, w4, wR⟩ := s_X_common hkL hkN hRW hRL hRM (xs (j + 1)) (xs (j + 2)) (xs (j + 3))
        have l9 := lw_len w1
        refine lw_case_11 C0 hl0 hKO hA hZ hX hbl hbA hL hj gW gM ⟨by rw [rc]; omega, by rw [rs]; omega⟩ hP hD hS hl ?_
        intro H locs q qM ls hP hD hS hl
        exact next n' g' t' q qM rW.2.1 rM.2 C' gC' T' rW.2.2.1 rW.2.2.2 w1 w4 wR w2 w3 H locs hP hD hS ls hl
      · refine lv_tableIn (off := 619) (tgt := 668) hx hb d_W_law_49 (by decide +kernel) (by decide +kernel) (by decide +kernel) (by decide) ?_
        obtain ⟨rW, rM, n', g', t', C', gC', T', gW, gM, ⟨w1, w2, w3⟩, w4, wR, w5, w6⟩ := s_X_isUnder hkL hkN hRW hRL hRM (xs (j + 1)) (xs (j + 2))
        have l9 := lw_len w1
        refine lw_case_12 C0 hl0 hKO hA hZ hX hbl hbA hL hj gW gM ⟨by rw [rc]; omega, by rw [rs]; omega⟩ hP hD hS hl ?_
        intro H locs q qM ls hP hD hS hl
        exact next n' g' t' q qM rW.2.1 rM.2 C' gC' T' rW.2.2.1 rW.2.2.2 w1 w4 wR w2 w3 H locs hP hD hS ls hl
      · refine lv_tableIn (off := 659) (tgt := 708) hx hb d_W_law_49 (by decide +kernel) (by decide +kernel) (by decide +kernel) (by decide) ?_
        obtain ⟨rW, rM, n', g', t', C', gC', T', gW, gM, ⟨w1, w2, w3⟩, w4, wR⟩ := s_X_classed hkL hkN hRW hRL hRM (xs (j + 1)) (xs (j + 2))
        have l9 := lw_len w1
        refine lw_case_13 C0 hl0 hKO hA hZ hX hbl hbA hL hj gW gM ⟨by rw [rc]; omega, by rw [rs]; omega⟩ hP hD hS hl ?_
        intro H locs q qM ls hP hD hS hl
        exact next n' g' t' q qM rW.2.1 rM.2 C' gC' T' rW.2.2.1 rW.2.2.2 w1 w4 wR w2 w3 H locs hP hD hS ls hl
      · refine lv_tableIn (off := 699) (tgt := 748) hx hb d_W_law_49 (by decide +kernel) (by decide +kernel) (by decide +kernel) (by decide) ?_
        obtain ⟨rW, rM, n', g', t', C', gC', T', gW, gM, ⟨w1, w2, w3⟩, w4, wR, w5, w6⟩ := s_X_direct hkL hkN hRW hRL hRM (xs (j + 1)) (xs (j + 2)) (xs (j + 3))
        have l9 := lw_len w1
        refine lw_case_14 C0 hl0 hKO hA hZ hX hbl hbA hL hj gW gM ⟨by rw [rc]; omega, by rw [rs]; omega⟩ hP hD hS hl ?_
        intro H locs q qM ls hP hD hS hl
        exact next n' g' t' q qM rW.2.1 rM.2 C' gC' T' rW.2.2.1 rW.2.2.2 w1 w4 wR w2 w3 H locs hP hD hS ls hl
      · refine lv_tableIn (off := 751) (tgt := 800) hx hb d_W_law_49 (by decide +kernel) (by decide +kernel) (by decide +kernel) (by decide) ?_
        obtain ⟨rW, rM, n', g', t', C', gC', T', gW, gM, ⟨w1, w2, w3⟩, w4, wR, w5, w6⟩ := s_X_told hkL hkN hRW hRL hRM (xs (j + 1))
        have l9 := lw_len w1
        refine lw_case_15 C0 hl0 hKO hA hZ hX hbl hbA hL hj gW gM ⟨by rw [rc]; omega, by rw [rs]; omega⟩ hP hD hS hl ?_
        intro H locs q qM ls hP hD hS hl
        exact next n' g' t' q qM rW.2.1 rM.2 C' gC' T' rW.2.2.1 rW.2.2.2 w1 w4 wR w2 w3 H locs hP hD hS ls hl
-- part 09.47.start.lean.txt
/-! Own rows: the law's cell, and what holds at the law's start. -/
set_option maxHeartbeats 4000000 in
set_option maxRecDepth 100000 in
theorem c_cell (l : Launch) (D : va_G) (cI cZ : ClassId) {b L : Nat} {xs : Nat → Int32} (hL : L ≤ 2049) : Met l y_W_cell (Cond.code y_W_cell b_W_cell 2 (some .int) :: tb) (rmK 0 0 0 0) (va_Pc [.ref b, .int 0] (fun U => (va_X b L xs U U.heap ∧ b < U.heap.size) ∧ KN D [(cI, .int), (cZ, .boolean)] U)) (vp_Si (fun r => r = (if 0 < L then xs 0 else 0))) 0 0 (fun _ => False) := by
  refine Met.ofW (cc := b_W_cell) (maxL := 2) (ret := some .int) (by decide) rfl ?_
  intro p e s m args below meth c s₁ B hml hv
  obtain ⟨rfl, ⟨hX, hbl⟩, hK⟩ := hv
  have hts := atoms_spec (ws := Cond.code y_W_cell b_W_cell 2 (some .int) :: tb) B.pre
  have hl := lv_entry [.ref b, .int 0] (n := 2) (Nat.le_of_ble_eq_true rfl)
  rw [lg_entry_eq]
  generalize (lg_sl [.ref b, .int 0] ++ List.replicate (2 - (lg_sl [.ref b, .int 0]).length) Slot.unset).toArray = ls at hl ⊢
  have hl : lv_has ls 2 [(0, .ref b), (1, .int 0)] := hl
  have C0 : Am p s m ([.ref b, .int 0] : List Value).toArray meth c b_W_cell (some .int) 2 R_W D [(cI, .int), (cZ, .boolean)] := ⟨B.exec, B.bytes, B.returns, hml, findClass_of_methodNamed B.named, fun w h => hts w (List.mem_cons_of_mem _ h), B.notSynchronized, hK⟩
  obtain ⟨hx, hb, hr, hml, hown, hts, hlk, hK⟩ := id C0
  have hS : va_S (fun _ => False) s.heap s.heap [] := va_S.rf
  refine lv_iload_n hx hb d_W_cell_0 rfl (lv_at hl 1 rfl) ?_
  refine lv_aload_n hx hb d_W_cell_1 rfl (lv_at hl 0 rfl) ?_
  refine va_slen hx hb hX hbl (fun h => h) hS d_W_cell_2 ?_
  refine lv_icmp_ge (tgt := 12) hx hb d_W_cell_3 (by decide) (fun hc => ?_) (fun hc => ?_)
  · have hc2 : nI L ≤ nI 0 := hc
    rw [nI_leI (by omega) (by decide)] at hc2
    refine lv_iconst (v := 0) hx hb d_W_cell_12 (by decide) ?_
    exact ro_ret C0 (by rw [if_neg (by omega)]) d_W_cell_13
  · have hc2 : ¬ nI L ≤ nI 0 := hc
    rw [nI_leI (by omega) (by decide)] at hc2
    refine lv_aload_n hx hb d_W_cell_6 rfl (lv_at hl 0 rfl) ?_
    refine lv_iload_n hx hb d_W_cell_7 rfl (lv_at hl 1 rfl) ?_
    refine va_sld hx hb hX hbl (fun h => h) hS (vp_in_nI (n := 0) (by omega) (by omega)) d_W_cell_8 ?_
    refine lv_goto (tgt := 13) hx hb d_W_cell_9 (by decide) ?_
    exact ro_ret C0 (by rw [if_pos (by omega)]; rfl) d_W_cell_13
section CE
variable {p : Program} {l : Launch} {e : Env} {R : Room} {s : State} {m : MethodId} {args : Array Value} {below : List Frame} {meth : Method} {c : Code} {H : Heap} {locs : List Loc} {cells slots : Nat} {Q : State → Prop}
variable {cc : ByteArray} {pc : Nat} {ls : Array Slot} {rest st : List Value} {D : va_G} {ret0 : Option FieldType} {nL : Nat} {own : String} {lv : List (Nat × Value)} {A : Nat → Prop} {cI cZ : ClassId}
theorem ce_S {b L idx : Nat} {xs : Nat → Int32} (C0 : Am p s m args meth c cc ret0 nL own D [(cI, .int), (cZ, .boolean)]) (hX : va_X b L xs s s.heap) (hbl : b < s.heap.size) (hbA : ¬ A b) (hS : va_S A s.heap H locs) (hL : L ≤ 2049) (hlk : Cond.methodLink own idx y_W_cell ∈ tb) (wd : wdS y_W_cell b_W_cell 2 (some .int))
    (hR : 0 + 1 ≤ R.frames ∧ 8 + (2 + 11) + 0 ≤ R.locals) (hl : lv_has ls nL lv) (hst : st = ([.ref b, .int 0] : List Value).reverse ++ rest) (hr : (rest.map fun v => v.category).sum ≤ 8) (hcs : cells ≤ R.cells ∧ slots ≤ R.slots) (hdg : decode cc pc = .ok (.invokestatic idx, 3))
    (kk : W p l e R s m args below meth c H locs cells slots Q (F0 m (pc + 3) ls (.int (if 0 < L then xs 0 else 0) :: rest))) : W p l e R s m args below meth c H locs cells slots Q (F0 m pc ls st) := by
  obtain ⟨hx, hb, hr0, hml, hown, hts, hlk0, hK⟩ := C0
  obtain ⟨w1, w2, w3⟩ := wd
  have hq : H[b]? = s.heap[b]? := hS.2.1 b hbl hbA
  have hXH : va_X b L xs s H := hX.kept hq
  have hbH : b < H.size := Nat.lt_of_lt_of_le hbl hS.1
  have cw : CallB R s args own idx y_W_cell b_W_cell 2 (some .int) (Cond.code y_W_cell b_W_cell 2 (some .int) :: tb) (rmK 0 0 0 0) 0 0 2 ∧ (Cond.static y_W_cell).before args s = true :=
    ⟨callB_of 2 hts (gdIn w1) rfl rfl rfl (hts _ w3) (hts _ hlk) (by decide +kernel) hR, hts _ w2⟩
  exact ro_i (va_runS (As := [.ref b, .int 0]) (rest := rest) ⟨hx, hb, hml, hown, hts⟩ (c_cell l D cI cZ (xs := xs) hL) cw ⟨fun a U g mk h => ⟨h.1, ⟨va_X.moved (u := U) (U := U.calling g mk a) (Vm.Alike.refl U.vm) h.2.1.1, h.2.1.2⟩, KN.calling g mk a h.2.2⟩, fun U hU hW => ⟨rfl, ⟨by rw [hU]; exact va_X.moved hW.alike hXH, by rw [hU]; exact hbH⟩, KN.warm hW hK⟩⟩ rfl rfl hl.1 hst (lv_room hr) hdg hcs) kk
end CE
theorem lw_arr {args : Array Value} {s : State} {ty : FieldType} (h : (Cond.arrayClass ty).before args s = true) : ∃ cA, ArrOfT s cA ty ∧ s.vm.findClass ("[" ++ ty.toString) = some cA := by
  obtain ⟨c, k, comp, h1, h2, h3⟩ := Cond.arrayClass_spec (show (Cond.arrayClass ty).holds args s none s [] = true from h)
  exact ⟨c, fun n z => ⟨fun k h => (by cases h), k, h2, comp, h3⟩, h1⟩
theorem lw_nw : ∀ w ∈ nwL, w ∈ lw_tbl := by decide +kernel
theorem lw_nwt : ∀ w ∈ nwL, w.onTables = true := by decide +kernel
theorem lw_st : ∀ q ∈ stL, Cond.stringRef q.1 q.2.1 q.2.2 ∈ lw_tbl := by decide +kernel
set_option maxRecDepth 100000 in
theorem lw_ex : ∀ q ∈ stL, Cond.exactly (.string q.1 q.2.1) "java/lang/String" ∈ flatC (Jvm.Cond.and given_1 narrow_1) := by decide +kernel
set_option maxRecDepth 100000 in
theorem lw_nc : ∀ q ∈ ncL, Cond.not (.castable q.1 q.2) ∈ flatC (Jvm.Cond.and given_1 narrow_1) := by decide +kernel
set_option maxRecDepth 100000 in
theorem lw_z1 : Cond.isRef (.static Bundle.tN "UNASSIGNED_STACK" Bundle.steD) ∈ flatC (Jvm.Cond.and given_1 narrow_1) := by decide +kernel
set_option maxRecDepth 100000 in
theorem lw_z2 : Cond.isRef (.static Bundle.tN "SUPPRESSED_SENTINEL" Bundle.listD) ∈ flatC (Jvm.Cond.and given_1 narrow_1) := by decide +kernel
theorem lw_z3 : Cond.laysStatic Bundle.tN "UNASSIGNED_STACK" Bundle.steD ∈ lw_tbl := by decide +kernel
theorem lw_z4 : Cond.laysStatic Bundle.tN "SUPPRESSED_SENTINEL" Bundle.listD ∈ lw_tbl := by decide +kernel
theorem lw_z5 : Cond.initialized Bundle.tN ∈ lw_tbl := by decide +kernel
theorem lw_tb {w : Cond} (h : w ∈ tb) : w ∈ lw_tbl := (List.mem_filter.mp h).1
/-- what the law's calls need of the start -/
theorem lw_ko {b : Nat} {s : State} (hts : ∀ w ∈ lw_tbl, w.before #[Value.ref b] s = true) (hgv : (Jvm.Cond.and given_1 narrow_1).before #[Value.ref b] s = true)
    (wL : Cond.instantiable R_L 6 ∈ tb) (wC : Cond.instantiable R_C 8 ∈ tb) (wT : Cond.instantiable R_T 12 ∈ tb) (wA : Cond.instantiable R_A 2 ∈ tb) (wM : Cond.instantiable R_M 35 ∈ tb) :
    ∃ (D : va_G) (cI cZ cJ : ClassId), KO D cI cZ cJ s ∧ Zs (fun q : Nat => s.heap.size ≤ q) s s.heap := by
  have ht : ∀ w ∈ tb, w.before #[Value.ref b] s = true := fun w h => hts w (lw_tb h)
  obtain ⟨c0, i0, k0⟩ := u_known (C := R_L) (T := F_L) (N := 6) (n := 6) ht i_L (ht _ wL)
  obtain ⟨c1, i1, k1⟩ := u_known (C := R_C) (T := F_C) (N := 8) (n := 8) ht i_C (ht _ wC)
  obtain ⟨c2, i2, k2⟩ := u_known (C := R_T) (T := F_T) (N := 12) (n := 12) ht i_T (ht _ wT)
  obtain ⟨c3, i3, k3⟩ := u_known (C := R_A) (T := F_A) (N := 2) (n := 2) ht i_A (ht _ wA)
  obtain ⟨c4, i4, k4⟩ := u_known (C := R_M) (T := F_M) (N := 35) (n := 35) ht i_M (ht _ wM)
  obtain ⟨cI, aI, fI⟩ := lw_arr (ht _ wd_arrI)
  obtain ⟨cZ, aZ, fZ⟩ := lw_arr (ht _ wd_arrZ)
  obtain ⟨cJ, aJ, fJ⟩ := lw_arr (ht _ wd_arrJ)
  have hs := flat_of_before _ hgv
  have hK : ∀ (k : Nat) (q : vw_C), vwCl[k]? = some q → u_Kn s q.1 q.2.1 q.2.2 ((fun k => if k = 0 then c0 else if k = 1 then c1 else if k = 2 then c2 else if k = 3 then c3 else c4 : Nat → ClassId) k) ((fun k => if k = 0 then i0 else if k = 1 then i1 else if k = 2 then i2 else if k = 3 then i3 else i4 : Nat → Nat → Nat) k) := by
    intro k q hq
    match k, hq with
    | 0, hq => cases hq; exact k0
    | 1, hq => cases hq; exact k1
    | 2, hq => cases hq; exact k2
    | 3, hq => cases hq; exact k3
    | 4, hq => cases hq; exact k4
    | k + 5, hq => simp [vwCl] at hq
  refine ⟨((fun k => if k = 0 then c0 else if k = 1 then c1 else if k = 2 then c2 else if k = 3 then c3 else c4), (fun k => if k = 0 then i0 else if k = 1 then i1 else if k = 2 then i2 else if k = 3 then i3 else i4)), cI, cZ, cJ, ⟨⟨⟨hK, ?_⟩, ?_, ?_⟩, ⟨hK, ?_⟩, ?_⟩, ?_, ?_⟩
  · intro k q hq
    match k, hq with
    | 0, hq => cases hq; exact ⟨aI, fI⟩
    | 1, hq => cases hq; exact ⟨aZ, fZ⟩
    | k + 2, hq => simp at hq
  · intro w hw
    exact va_Nw.of (lw_nwt w hw) (hts w (lw_nw w hw))
  · intro q hq
    obtain ⟨a, _, _, _, h1, _⟩ := Cond.exactly_spec (show (Cond.exactly (.string q.1 q.2.1) "java/lang/String").holds #[Value.ref b] s none s [] = true from hs _ (lw_ex q hq))
    exact ⟨a, vk_R.of (hts _ (lw_st q hq)) h1⟩
  · intro k q hq
    match k, hq with
    | 0, hq => cases hq; exact ⟨aJ, fJ⟩
    | k + 1, hq => simp at hq
  · intro q hq
    exact va_Nc.of (hs _ (lw_nc q hq))
  · exact vx_Zqof (hts _ lw_z3) (hts _ lw_z5) (hs _ lw_z1) (fun a h => Nat.not_le.mpr h)
  · exact vx_Zqof (hts _ lw_z4) (hts _ lw_z5) (hs _ lw_z2) (fun a h => Nat.not_le.mpr h)
-- part 09.48.whole.lean.txt
theorem jw_C {cI cZ : ClassId} {a : Nat → Nat} {q qm : Nat} {σ : StL} {e0 : va_E} : [21].map (fun (i : Nat) => (wL cI cZ a q σ ++ [(qm, e0)])[i]?) = [(qm, e0)].map some := rfl
theorem jw_R {cI cZ : ClassId} {a : Nat → Nat} {q qm : Nat} {σ : StL} {e0 : va_E} : [0, 1, 2, 3, 4, 5, 6, 7, 8, 9, 10, 11, 12, 13, 14, 15, 16, 17, 18, 19, 20].map (fun (i : Nat) => (wL cI cZ a q σ ++ [(qm, e0)])[i]?) = (wL cI cZ a q σ).map some := rfl
theorem jw_P {cI cZ cJ : ClassId} {a aM : Nat → Nat} {q qM bo : Nat} {σ : StL} {μ : StM} {f : Nat → Int64} : [0, 1, 2, 3, 4, 5, 6, 7, 8, 9, 10, 11, 12, 13, 14, 15, 16, 17, 18, 19, 20, 45, 21, 22, 23, 24, 25, 26, 27, 28, 29, 30, 31, 32, 33, 34, 35, 36, 37, 38, 39, 40, 41, 42, 43, 44].map (fun (i : Nat) => (wL cI cZ a q σ ++ wM cI cZ aM qM μ ++ [(bo, .inl (cJ, 1, .inr (.inl f)))])[i]?) = (wX cI cZ cJ a aM bo q qM (σ, f) μ).map some := rfl
set_option maxHeartbeats 4000000 in
set_option maxRecDepth 100000 in
theorem whole_start {p : Program} {e : Env} {s : State} {m : MethodId} {below : List Frame} {meth : Method} {c : Code} (l : Launch) (hl0 : l.stackTraces = false) {b L : Nat} {xs : Nat → Int32} (hL : L ≤ 2049) (C9 : lw_At p s m meth c b L xs) : W p l e room_1 s m #[Value.ref b] below meth c s.heap [] 0 0 (lw_Z below #[Value.ref b] s) (entryFrame m ([Value.ref b] : List Value).toArray 7) := by
  obtain ⟨hx, hb, hr, hml, hown, htl, hX, hbl, hlocks, hgv⟩ := C9
  obtain ⟨D, cI, cZ, cJ, hKO, hZ⟩ := lw_ko htl hgv wd_701 wd_499 wd_504 wd_509 wd_705
  have hts : ∀ w ∈ tb, w.before #[Value.ref b] s = true := fun w h => htl w (lw_tb h)
  have C0 : Am p s m #[Value.ref b] meth c code ret 7 R_W D [(cI, .int), (cZ, .boolean)] := ⟨hx, hb, hr, hml, hown, hts, hlocks, hKO.1⟩
  have hA : ∀ q : Nat, s.heap.size ≤ q → (fun q : Nat => s.heap.size ≤ q) q := fun _ h => h
  have hbA : ¬ (fun q : Nat => s.heap.size ≤ q) b := Nat.not_le.mpr hbl
  have hS : va_S (fun q : Nat => s.heap.size ≤ q) s.heap s.heap [] := va_S.rf
  have hP : va_P D vwCl [] s.heap := fun k q h => by simp at h
  have hD : va_D (fun q : Nat => s.heap.size ≤ q) [] := ⟨fun i j p q h => by simp at h, fun k q h => by simp at h⟩
  have hl := lv_entry ([.ref b]) (n := 7) (Nat.le_of_ble_eq_true rfl)
  rw [lg_entry_eq]
  generalize (lg_sl ([.ref b]) ++ List.replicate (7 - (lg_sl ([.ref b])).length) Slot.unset).toArray = ls at hl ⊢
  have hl : lv_has ls 7 [(0, .ref b)] := hl
  obtain ⟨x0, ex0⟩ : ∃ x, x = (if 0 < L then xs 0 else 0) := ⟨_, rfl⟩
  obtain ⟨d, hd2, hdp, hdx⟩ := i_depth x0
  obtain ⟨rC, hfC, kC0⟩ := i0_C
  obtain ⟨rT, hfT, kT0, len0⟩ := i0_T
  obtain ⟨rA, hfA, _⟩ : k_ok (f_A_init_13 ((fun _ => 0), 0)) (fun _ => True) := ⟨_, rfl, trivial⟩
  obtain ⟨rM, hfM, kM0⟩ := i0_M x0 hd2 hdx
  refine va_new (ci := 0) (fs := [.int 0, .null, .null, .null, .null, .null]) (C := R_L) (T := F_L) (N := 6) hx hb hts i_L ty_L tyok_L hown (hts _ wd_700) (hts _ wd_701) (hts _ wd_55) hKO.2.1 hP hD hS hA rfl (fun j hj => by rcases (show j = 0 ∨ j = 1 ∨ j = 2 ∨ j = 3 ∨ j = 4 ∨ j = 5 by omega) with rfl | rfl | rfl | rfl | rfl | rfl <;> rfl) (Nat.le_of_ble_eq_true rfl) (Nat.le_of_ble_eq_true rfl) d_W_law_0 (fun q0 H hP hD hS => ?_)
  refine lv_dup hx hb d_W_law_3 rfl ?_
  refine lv_aload_n hx hb d_W_law_4 rfl (lv_at hl 0 rfl) ?_
  refine lv_iconst (v := 0) hx hb d_W_law_5 (by decide) ?_
  refine ce_S (rest := [.ref q0, .ref q0]) C0 hX hbl hbA hS hL wd_697 ⟨wd_708, wd_709, wd_582⟩ ⟨Nat.le_of_ble_eq_true rfl, Nat.le_of_ble_eq_true rfl⟩ hl rfl (Nat.le_of_ble_eq_true rfl) ⟨Nat.le_of_ble_eq_true rfl, Nat.le_of_ble_eq_true rfl⟩ d_W_law_6 ?_
  rw [← ex0]
  have hP : va_P D vwCl [(q0, .inr (0, [.int 0, .null, .null, .null, .null, .null]))] H := hP
  have hD : va_D (fun q : Nat => s.heap.size ≤ q) [(q0, .inr (0, [.int 0, .null, .null, .null, .null, .null]))] := hD
  refine ct_I (n := 1) (As := [.int x0]) (rest := [.ref q0]) (wr := []) C0 hA (c_L_init l D cI cZ q0 x0 (nI d) hdp hfC hfT hfA) wd_698 ⟨wd_702, wd_703, wd_55⟩ (by decide +kernel) rfl ⟨Nat.le_of_ble_eq_true rfl, Nat.le_of_ble_eq_true rfl⟩ hP hD hS [0] [] rfl (by decide) rfl (by decide) (by decide) hl rfl rfl (Nat.le_of_ble_eq_true rfl) ⟨Nat.le_of_ble_eq_true rfl, Nat.le_of_ble_eq_true rfl⟩ d_W_law_9 (fun H1 locs a q ha hP1 hD1 hS1 => ?_)
  subst ha
  clear hP hD hS
  generalize hσ : ((nI d, rC.2, rT.2, rA.2, (fun _ => 0), (fun _ => 0)) : StL) = σ at hP1 hD1
  have hkL : kL σ 13 1 d := by rw [← hσ]; exact ⟨rfl, hd2, kC0, kT0⟩
  have hRL : RL σ wC0 1 wT0 d := by rw [← hσ]; exact ⟨⟨R0_C rC hfC, R0_T rT hfT⟩, R0_A rA hfA, rfl⟩
  have hlen : (T_parts (L_types σ)).1 = 64 := by rw [← hσ]; exact len0
  have hP : va_P D vwCl (wL cI cZ a q σ) H1 := hP1
  have hD : va_D (fun q : Nat => s.heap.size ≤ q) (wL cI cZ a q σ) := hD1
  have hS := hS1
  refine lv_astore_n (lv' := [(1, .ref (a 0)), (0, .ref b)]) hx hb d_W_law_12 rfl hl (by decide) rfl (fun ls hl => ?_)
  refine va_new (ci := 4) (fs := [.int 0, .int 0, .int 0, .int 0, .null, .null, .null, .null, .null, .null, .int 0, .null, .null, .null, .null, .null, .null, .null, .int 0, .int 0, .int 0, .int 0, .null, .null, .int 0, .int 0, .null, .null, .null, .null, .null, .null, .null, .null, .int 0]) (C := R_M) (T := F_M) (N := 35) hx hb hts i_M ty_M tyok_M hown (hts _ wd_704) (hts _ wd_705) (hts _ wd_352) hKO.2.1 hP hD hS hA rfl (fun j hj => by rcases (show j = 0 ∨ j = 1 ∨ j = 2 ∨ j = 3 ∨ j = 4 ∨ j = 5 ∨ j = 6 ∨ j = 7 ∨ j = 8 ∨ j = 9 ∨ j = 10 ∨ j = 11 ∨ j = 12 ∨ j = 13 ∨ j = 14 ∨ j = 15 ∨ j = 16 ∨ j = 17 ∨ j = 18 ∨ j = 19 ∨ j = 20 ∨ j = 21 ∨ j = 22 ∨ j = 23 ∨ j = 24 ∨ j = 25 ∨ j = 26 ∨ j = 27 ∨ j = 28 ∨ j = 29 ∨ j = 30 ∨ j = 31 ∨ j = 32 ∨ j = 33 ∨ j = 34 by omega) with rfl | rfl | rfl | rfl | rfl | rfl | rfl | rfl | rfl | rfl | rfl | rfl | rfl | rfl | rfl | rfl | rfl | rfl | rfl | rfl | rfl | rfl | rfl | rfl | rfl | rfl | rfl | rfl | rfl | rfl | rfl | rfl | rfl | rfl | rfl <;> rfl) (Nat.le_of_ble_eq_true rfl) (Nat.le_of_ble_eq_true rfl) d_W_law_13 (fun qm H hP hD hS => ?_)
  refine lv_dup hx hb d_W_law_16 rfl ?_
  refine lv_aload_n hx hb d_W_law_17 rfl (lv_at hl 1 rfl) ?_
  refine lv_iconst (v := 0) hx hb d_W_law_18 (by decide) ?_
  refine ce_S (rest := [.ref qm, .ref qm]) C0 hX hbl hbA hS hL wd_697 ⟨wd_708, wd_709, wd_582⟩ ⟨Nat.le_of_ble_eq_true rfl, Nat.le_of_ble_eq_true rfl⟩ hl rfl (Nat.le_of_ble_eq_true rfl) ⟨Nat.le_of_ble_eq_true rfl, Nat.le_of_ble_eq_true rfl⟩ d_W_law_19 ?_
  rw [← ex0]
  refine ct_I (n := 1) (As := [.int x0]) (rest := [.ref qm]) (wr := wL cI cZ a q σ) (k0 := 20) (w := fun a q (u : StM) => wM cI cZ a q u) (u0 := rM.2) C0 hA (c_M_init l D cI cZ qm x0 hfM) wd_699 ⟨wd_706, wd_707, wd_352⟩ (by decide +kernel) rfl ⟨Nat.le_of_ble_eq_true rfl, Nat.le_of_ble_eq_true rfl⟩ hP hD hS [21] [0, 1, 2, 3, 4, 5, 6, 7, 8, 9, 10, 11, 12, 13, 14, 15, 16, 17, 18, 19, 20] jw_C (by decide) jw_R (by decide) (by decide) hl rfl rfl (Nat.le_of_ble_eq_true rfl) ⟨Nat.le_of_ble_eq_true rfl, Nat.le_of_ble_eq_true rfl⟩ d_W_law_22 (fun H2 locs2 aM qM ha hP3 hD3 hS3 => ?_)
  subst ha
  clear hP hD hS
  have hP := hP3
  have hD := hD3
  have hS := hS3
  refine lv_astore_n (lv' := [(2, .ref (aM 20)), (1, .ref (a 0)), (0, .ref b)]) hx hb d_W_law_25 rfl hl (by decide) rfl (fun ls hl => ?_)
  refine lv_iconst (v := 1) hx hb d_W_law_26 (by decide) ?_
  refine va_newa (n := 1) (N' := 1) (atype := .long) (ty := .long) (a0 := (1, .inr (.inl (fun _ => 0)))) hx hb (hts _ wd_arrJ) rfl hKO.2.1 hP hD hS hA (fun cA => rfl) (by decide) (by decide) (Nat.le_of_ble_eq_true rfl) (Nat.le_of_ble_eq_true rfl) (Nat.le_of_ble_eq_true rfl) d_W_law_27 (fun bo cA H hK2 hP hD hS => ?_)
  have e1 : cA = cJ := by
    have h1 := (hKO.2.1.2 0 _ rfl).2
    have h2 := (hK2.2 1 (cA, .long) rfl).2
    exact Option.some.inj (h2.symm.trans h1)
  subst e1
  have hP2 := hP.pick [0, 1, 2, 3, 4, 5, 6, 7, 8, 9, 10, 11, 12, 13, 14, 15, 16, 17, 18, 19, 20, 45, 21, 22, 23, 24, 25, 26, 27, 28, 29, 30, 31, 32, 33, 34, 35, 36, 37, 38, 39, 40, 41, 42, 43, 44] (jw_P (cJ := cA) (bo := bo) (f := fun _ => 0))
  have hD2 := hD.sub [0, 1, 2, 3, 4, 5, 6, 7, 8, 9, 10, 11, 12, 13, 14, 15, 16, 17, 18, 19, 20, 45, 21, 22, 23, 24, 25, 26, 27, 28, 29, 30, 31, 32, 33, 34, 35, 36, 37, 38, 39, 40, 41, 42, 43, 44] (by decide) (jw_P (cJ := cA) (bo := bo) (f := fun _ => 0))
  refine lv_astore_n (lv' := [(3, .ref bo), (2, .ref (aM 20)), (1, .ref (a 0)), (0, .ref b)]) hx hb d_W_law_29 rfl hl (by decide) rfl (fun ls hl => ?_)
  refine lv_iconst (v := nI 1) hx hb d_W_law_30 (by decide) ?_
  refine lv_istore (lv' := [(4, .int (nI 1)), (3, .ref bo), (2, .ref (aM 20)), (1, .ref (a 0)), (0, .ref b)]) hx hb d_W_law_31 hl (by decide) rfl (fun ls hl => ?_)
  exact law_loop C0 hl0 hKO hZ hX hbl hL 600 1 0 13 1 16 q qM (σ, fun _ => 0) rM.2 wC0 1 wT0 rfl (by omega) (by omega) hkL kM0 (RW_0 hd2) hRL (R0_M x0 hd2 hdx rM hfM) _ _ (by show _ ≤ 46 + 0 + (T_parts (L_types σ)).1; rw [hlen]; decide) (by show _ ≤ 131207 + 6 * 0 + 2 * (T_parts (L_types σ)).1; rw [hlen]; decide) H _ hP2 hD2 hS ls (lv_sub hl [4, 3, 2, 1, 0] rfl)
