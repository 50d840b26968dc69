set_option maxHeartbeats 4000000 in
set_option maxRecDepth 100000 in
theorem law_loop {p : Program} {l : Launch} {e : Env} {s : State} {m : MethodId} {below : List Frame} {meth : Method} {c : Code} {D : va_G} {cI cZ cJ : ClassId} {a aM : Nat → Nat} {b L : Nat} {xs : Nat → Int32} (C0 : Am p s m #[Value.ref b] meth c code ret 7 R_W D [(cI, .int), (cZ, .boolean)]) (hl0 : l.stackTraces = false) (hKO : KO D cI cZ cJ s) (hZ : Zs (fun q : Nat => s.heap.size ≤ q) s s.heap) (hX : va_X b L xs s s.heap) (hbl : b < s.heap.size) (hL : L ≤ 2049) {bo d : Nat} :
    ∀ (f j k n g t q qM : Nat) (u : StO) (μ : StM) (wc : wWc) (gc : Nat) (wt : wWt), j = 1 + 4 * k → j ≤ L + 4 → L + 5 ≤ j + 4 * f → kL u.1 n g d → kN μ n g d t → RW wc gc wt d → RL u.1 wc gc wt d → RM μ wc gc wt d → ∀ (cells slots : Nat), cells + 64 ≤ 46 + k + (T_parts (L_types u.1)).1 → slots + 128 ≤ 131207 + 6 * k + 2 * (T_parts (L_types u.1)).1 → ∀ (H : Heap) (locs : List Loc), va_P D vwCl (wX cI cZ cJ a aM bo q qM u μ) H → va_D (fun q : Nat => s.heap.size ≤ q) (wX cI cZ cJ a aM bo q qM u μ) → va_S (fun q : Nat => s.heap.size ≤ q) s.heap H locs → ∀ (ls : Array Slot), lv_has ls 7 [(0, .ref b), (1, .ref (a 0)), (2, .ref (aM 20)), (3, .ref bo), (4, .int (nI j))] → W p l e room_1 s m #[Value.ref b] below meth c H locs cells slots (lw_Z below #[Value.ref b] s) (F0 m 33 ls []) := by
  obtain ⟨hx, hb, hr, hml, hown, hts, hlk, hK⟩ := id C0
  have hA : ∀ q : Nat, s.heap.size ≤ q → (fun q : Nat => s.heap.size ≤ q) q := fun _ h => h
  have hbA : ¬ (fun q : Nat => s.heap.size ≤ q) b := Nat.not_le.mpr hbl
  have rc : room_1.cells = 601024 := rfl
  have rs : room_1.slots = 7293000 := rfl
  intro f
  induction f with
  | zero =>
    intro j k n g t q qM u μ wc gc wt ej hjl hf hkL hkN hRW hRL hRM cells slots hc hs H locs hP hD hS ls hl
    exact absurd hf (by omega)
  | succ f ih =>
    intro j k n g t q qM u μ wc gc wt ej hjl hf hkL hkN hRW hRL hRM cells slots hc hs H locs hP hD hS ls hl
    obtain ⟨len1, len2⟩ := lw_len hkL
    refine lv_iload hx hb d_W_law_33 (lv_at hl 4 rfl) ?_
    refine lv_aload_n hx hb d_W_law_35 rfl (lv_at hl 0 rfl) ?_
    refine va_slen hx hb hX hbl hbA hS d_W_law_36 ?_
    refine lv_iconst (v := 4) hx hb d_W_law_37 (by decide) ?_
    refine lv_isub hx hb d_W_law_38 ?_
    have eL : (Int32.ofNat L - 4).toInt = (L : Int) - 4 := by
      have e1 : (Int32.ofNat L).toInt = (L : Int) := nI_toInt (n := L) (by omega)
      have e2 : (4 : Int32).toInt = 4 := by decide
      rw [Int32.toInt_sub, e1, e2, Int.bmod_eq_of_le (by omega) (by omega)]
    refine lv_icmp_gt (tgt := 834) hx hb d_W_law_39 (by decide) (fun hgt => ?_) (fun hgt => ?_)
    · refine lv_iconst (v := 1) hx hb d_W_law_834 (by decide) ?_
      have hkk : k ≤ 600 := by omega
      refine va_forget (fun q hq => hS.2.2 q hq) ?_
      refine W.widen (k := 601024) (n := 7293000) ?_ ?_ ?_
      · omega
      · omega
      · exact lw_ret hx hb hr hlk d_W_law_835
    · have hj : j + 4 ≤ L := by
        rw [Int32.lt_iff_toInt_lt, eL] at hgt
        rw [nI_toInt (show j < 2 ^ 31 by omega)] at hgt
        omega
      have hk512 : k ≤ 511 := by omega
      have next : ∀ (n' g' t' q' qM' : Nat) (u' : StO) (μ' : StM) (C' : wWc) (gC' : Nat) (T' : wWt) (K N : Nat), kL u'.1 n' g' d → kN μ' n' g' d t' → (RW C' gC' T' d ∧ RL u'.1 C' gC' T' d ∧ RM μ' C' gC' T' d) → K + (T_parts (L_types u.1)).1 ≤ 1 + (T_parts (L_types u'.1)).1 → N + 2 * (T_parts (L_types u.1)).1 ≤ 6 + 2 * (T_parts (L_types u'.1)).1 → ∀ (H : Heap) (locs : List Loc), va_P D vwCl (wX cI cZ cJ a aM bo q' qM' u' μ') H → va_D (fun q : Nat => s.heap.size ≤ q) (wX cI cZ cJ a aM bo q' qM' u' μ') → va_S (fun q : Nat => s.heap.size ≤ q) s.heap H locs → ∀ (ls : Array Slot), lv_has ls 7 [(0, .ref b), (1, .ref (a 0)), (2, .ref (aM 20)), (3, .ref bo), (4, .int (nI j))] → W p l e room_1 s m #[Value.ref b] below meth c H locs (cells + K) (slots + N) (lw_Z below #[Value.ref b] s) (F0 m 828 ls []) := by
        intro n' g' t' q' qM' u' μ' C' gC' T' K N h1 h2 hR h3 h4 H locs hP hD hS ls hl
        refine lv_iinc (v := nI (j + 4)) (lv' := [(4, .int (nI (j + 4))), (0, .ref b), (1, .ref (a 0)), (2, .ref (aM 20)), (3, .ref bo)]) hx hb d_W_law_828 hl (k := 4) rfl (nI_add j 4) (by decide) rfl (fun ls hl => ?_)
        refine lv_goto (tgt := 33) hx hb d_W_law_831 (by decide) ?_
        exact ih (j + 4) (k + 1) n' g' t' q' qM' u' μ' C' gC' T' (by omega) (by omega) (by omega) h1 h2 hR.1 hR.2.1 hR.2.2 (cells + K) (slots + N) (by omega) (by omega) H locs hP hD hS ls (lv_sub hl [1, 2, 3, 4, 0] rfl)
      refine lv_aload_n hx hb d_W_law_42 rfl (lv_at hl 0 rfl) ?_
      refine lv_iload hx hb d_W_law_43 (lv_at hl 4 rfl) ?_
      refine va_sld hx hb hX hbl hbA hS (vp_in_nI (show j < L by omega) (by omega)) d_W_law_45 ?_
      refine lv_bipush (v := 15) hx hb d_W_law_46 (by decide) ?_
      refine lv_iand hx hb d_W_law_48 ?_
      obtain ⟨v, hv, ev⟩ := lw_15 (xs (nI j).toNatClampNeg)
      rw [ev]
      rcases (show v = 0 ∨ v = 1 ∨ v = 2 ∨ v = 3 ∨ v = 4 ∨ v = 5 ∨ v = 6 ∨ v = 7 ∨ v = 8 ∨ v = 9 ∨ v = 10 ∨ v = 11 ∨ v = 12 ∨ v = 13 ∨ v = 14 ∨ v = 15 by omega) with rfl | rfl | rfl | rfl | rfl | rfl | rfl | rfl | rfl | rfl | rfl | rfl | rfl | rfl | rfl | rfl
      · refine lv_tableIn (off := 79) (tgt := 128) hx hb d_W_law_49 (by decide +kernel) (by decide +kernel) (by decide +kernel) (by decide) ?_
        obtain ⟨rW, rM, n', g', t', C', gC', T', gW, gM, ⟨w1, w2, w3⟩, w4, wR, w5, w6⟩ := s_X_declare hkL hkN hRW hRL hRM (lw_b2 (xs (j + 1))) (lw_b2 (xs (j + 2)))
        have l9 := lw_len w1
        refine lw_case_0 C0 hl0 hKO hA hZ hX hbl hbA hL hj gW gM ⟨by rw [rc]; omega, by rw [rs]; omega⟩ hP hD hS hl ?_
        intro H locs q qM ls hP hD hS hl
        exact next n' g' t' q qM rW.2.1 rM.2 C' gC' T' rW.2.2.1 rW.2.2.2 w1 w4 wR w2 w3 H locs hP hD hS ls hl
      · refine lv_tableIn (off := 151) (tgt := 200) hx hb d_W_law_49 (by decide +kernel) (by decide +kernel) (by decide +kernel) (by decide) ?_
        obtain ⟨rW, rM, n', g', t', C', gC', T', gW, gM, ⟨w1, w2, w3⟩, w4, wR, w5, w6⟩ := s_X_above hkL hkN hRW hRL hRM (xs (j + 1)) (xs (j + 2))
        have l9 := lw_len w1
        refine lw_case_1 C0 hl0 hKO hA hZ hX hbl hbA hL hj gW gM ⟨by rw [rc]; omega, by rw [rs]; omega⟩ hP hD hS hl ?_
        intro H locs q qM ls hP hD hS hl
        exact next n' g' t' q qM rW.2.1 rM.2 C' gC' T' rW.2.2.1 rW.2.2.2 w1 w4 wR w2 w3 H locs hP hD hS ls hl
      · refine lv_tableIn (off := 191) (tgt := 240) hx hb d_W_law_49 (by decide +kernel) (by decide +kernel) (by decide +kernel) (by decide) ?_
        obtain ⟨rW, rM, n', g', t', C', gC', T', gW, gM, ⟨w1, w2, w3⟩, w4, wR, w5, w6⟩ := s_X_named hkL hkN hRW hRL hRM (xs (j + 1)) (xs (j + 2)) (xs (j + 3))
        have l9 := lw_len w1
        refine lw_case_2 C0 hl0 hKO hA hZ hX hbl hbA hL hj gW gM ⟨by rw [rc]; omega, by rw [rs]; omega⟩ hP hD hS hl ?_
        intro H locs q qM ls hP hD hS hl
        exact next n' g' t' q qM rW.2.1 rM.2 C' gC' T' rW.2.2.1 rW.2.2.2 w1 w4 wR w2 w3 H locs hP hD hS ls hl
      · refine lv_tableIn (off := 243) (tgt := 292) hx hb d_W_law_49 (by decide +kernel) (by decide +kernel) (by decide +kernel) (by decide) ?_
        obtain ⟨rW, rM, n', g', t', C', gC', T', gW, gM, ⟨w1, w2, w3⟩, w4, wR, w5, w6⟩ := s_X_array hkL hkN hRW hRL hRM (xs (j + 1))
        have l9 := lw_len w1
        refine lw_case_3 C0 hl0 hKO hA hZ hX hbl hbA hL hj gW gM ⟨by rw [rc]; omega, by rw [rs]; omega⟩ hP hD hS hl ?_
        intro H locs q qM ls hP hD hS hl
        exact next n' g' t' q qM rW.2.1 rM.2 C' gC' T' rW.2.2.1 rW.2.2.2 w1 w4 wR w2 w3 H locs hP hD hS ls hl
      · refine lv_tableIn (off := 271) (tgt := 320) hx hb d_W_law_49 (by decide +kernel) (by decide +kernel) (by decide +kernel) (by decide) ?_
        obtain ⟨rW, rM, n', g', t', C', gC', T', gW, gM, ⟨w1, w2, w3⟩, w4, wR, w5, w6⟩ := s_X_upper hkL hkN hRW hRL hRM (xs (j + 1)) (xs (j + 2))
        have l9 := lw_len w1
        refine lw_case_4 C0 hl0 hKO hA hZ hX hbl hbA hL hj gW gM ⟨by rw [rc]; omega, by rw [rs]; omega⟩ hP hD hS hl ?_
        intro H locs q qM ls hP hD hS hl
        exact next n' g' t' q qM rW.2.1 rM.2 C' gC' T' rW.2.2.1 rW.2.2.2 w1 w4 wR w2 w3 H locs hP hD hS ls hl
      · refine lv_tableIn (off := 311) (tgt := 360) hx hb d_W_law_49 (by decide +kernel) (by decide +kernel) (by decide +kernel) (by decide) ?_
        obtain ⟨rW, rM, n', g', t', C', gC', T', gW, gM, ⟨w1, w2, w3⟩, w4, wR, w5, w6⟩ := s_X_lower hkL hkN hRW hRL hRM (xs (j + 1)) (xs (j + 2))
        have l9 := lw_len w1
        refine lw_case_5 C0 hl0 hKO hA hZ hX hbl hbA hL hj gW gM ⟨by rw [rc]; omega, by rw [rs]; omega⟩ hP hD hS hl ?_
        intro H locs q qM ls hP hD hS hl
        exact next n' g' t' q qM rW.2.1 rM.2 C' gC' T' rW.2.2.1 rW.2.2.2 w1 w4 wR w2 w3 H locs hP hD hS ls hl
      · refine lv_tableIn (off := 351) (tgt := 400) hx hb d_W_law_49 (by decide +kernel) (by decide +kernel) (by decide +kernel) (by decide) ?_
        obtain ⟨rW, rM, n', g', t', C', gC', T', gW, gM, ⟨w1, w2, w3⟩, w4, wR, w5, w6⟩ := s_X_isBelow hkL hkN hRW hRL hRM (xs (j + 1)) (xs (j + 2))
        have l9 := lw_len w1
        refine lw_case_6 C0 hl0 hKO hA hZ hX hbl hbA hL hj gW gM ⟨by rw [rc]; omega, by rw [rs]; omega⟩ hP hD hS hl ?_
        intro H locs q qM ls hP hD hS hl
        exact next n' g' t' q qM rW.2.1 rM.2 C' gC' T' rW.2.2.1 rW.2.2.2 w1 w4 wR w2 w3 H locs hP hD hS ls hl
      · refine lv_tableIn (off := 391) (tgt := 440) hx hb d_W_law_49 (by decide +kernel) (by decide +kernel) (by decide +kernel) (by decide) ?_
        obtain ⟨rW, rM, n', g', t', C', gC', T', gW, gM, ⟨w1, w2, w3⟩, w4, wR, w5, w6⟩ := s_X_look hkL hkN hRW hRL hRM (xs (j + 1)) (xs (j + 2))
        have l9 := lw_len w1
        refine lw_case_7 C0 hl0 hKO hA hZ hX hbl hbA hL hj gW gM ⟨by rw [rc]; omega, by rw [rs]; omega⟩ hP hD hS hl ?_
        intro H locs q qM ls hP hD hS hl
        exact next n' g' t' q qM rW.2.1 rM.2 C' gC' T' rW.2.2.1 rW.2.2.2 w1 w4 wR w2 w3 H locs hP hD hS ls hl
      · refine lv_tableIn (off := 431) (tgt := 480) hx hb d_W_law_49 (by decide +kernel) (by decide +kernel) (by decide +kernel) (by decide) ?_
        obtain ⟨rW, rM, n', g', t', C', gC', T', gW, gM, ⟨w1, w2, w3⟩, w4, wR, w5, w6⟩ := s_X_box hkL hkN hRW hRL hRM (xs (j + 1))
        have l9 := lw_len w1
        refine lw_case_8 C0 hl0 hKO hA hZ hX hbl hbA hL hj gW gM ⟨by rw [rc]; omega, by rw [rs]; omega⟩ hP hD hS hl ?_
        intro H locs q qM ls hP hD hS hl
        exact next n' g' t' q qM rW.2.1 rM.2 C' gC' T' rW.2.2.1 rW.2.2.2 w1 w4 wR w2 w3 H locs hP hD hS ls hl
      · refine lv_tableIn (off := 459) (tgt := 508) hx hb d_W_law_49 (by decide +kernel) (by decide +kernel) (by decide +kernel) (by decide) ?_
        obtain ⟨rW, rM, n', g', t', C', gC', T', gW, gM, ⟨w1, w2, w3⟩, w4, wR⟩ := s_X_type hkL hkN hRW hRL hRM (xs (j + 1)) (xs (j + 2))
        have l9 := lw_len w1
        refine lw_case_9 C0 hl0 hKO hA hZ hX hbl hbA hL hj gW gM ⟨by rw [rc]; omega, by rw [rs]; omega⟩ hP hD hS hl ?_
        intro H locs q qM ls hP hD hS hl
        exact next n' g' t' q qM rW.2.1 rM.2 C' gC' T' rW.2.2.1 rW.2.2.2 w1 w4 wR w2 w3 H locs hP hD hS ls hl
      · refine lv_tableIn (off := 499) (tgt := 548) hx hb d_W_law_49 (by decide +kernel) (by decide +kernel) (by decide +kernel) (by decide) ?_
        obtain ⟨rW, rM, n', g', t', C', gC', T', gW, gM, ⟨w1, w2, w3⟩, w4, wR, w5, w6⟩ := s_X_part hkL hkN hRW hRL hRM (xs (j + 1)) (xs (j + 2))
        have l9 := lw_len w1
        refine lw_case_10 C0 hl0 hKO hA hZ hX hbl hbA hL hj gW gM ⟨by rw [rc]; omega, by rw [rs]; omega⟩ hP hD hS hl ?_
        intro H locs q qM ls hP hD hS hl
        exact next n' g' t' q qM rW.2.1 rM.2 C' gC' T' rW.2.2.1 rW.2.2.2 w1 w4 wR w2 w3 H locs hP hD hS ls hl
      · refine lv_tableIn (off := 539) (tgt := 588) hx hb d_W_law_49 (by decide +kernel) (by decide +kernel) (by decide +kernel) (by decide) ?_
        obtain ⟨rW, rM, n', g', t', C', gC', T', gW, gM, ⟨w1, w2, w3⟩, w4, wR⟩ := s_X_common hkL hkN hRW hRL hRM (xs (j + 1)) (xs (j + 2)) (xs (j + 3))
        have l9 := lw_len w1
        refine lw_case_11 C0 hl0 hKO hA hZ hX hbl hbA hL hj gW gM ⟨by rw [rc]; omega, by rw [rs]; omega⟩ hP hD hS hl ?_
        intro H locs q qM ls hP hD hS hl
        exact next n' g' t' q qM rW.2.1 rM.2 C' gC' T' rW.2.2.1 rW.2.2.2 w1 w4 wR w2 w3 H locs hP hD hS ls hl
      · refine lv_tableIn (off := 591) (tgt := 640) hx hb d_W_law_49 (by decide +kernel) (by decide +kernel) (by decide +kernel) (by decide) ?_
        obtain ⟨rW, rM, n', g', t', C', gC', T', gW, gM, ⟨w1, w2, w3⟩, w4, wR, w5, w6⟩ := s_X_isUnder hkL hkN hRW hRL hRM (xs (j + 1)) (xs (j + 2))
        have l9 := lw_len w1
        refine lw_case_12 C0 hl0 hKO hA hZ hX hbl hbA hL hj gW gM ⟨by rw [rc]; omega, by rw [rs]; omega⟩ hP hD hS hl ?_
        intro H locs q qM ls hP hD hS hl
        exact next n' g' t' q qM rW.2.1 rM.2 C' gC' T' rW.2.2.1 rW.2.2.2 w1 w4 wR w2 w3 H locs hP hD hS ls hl
      · refine lv_tableIn (off := 631) (tgt := 680) hx hb d_W_law_49 (by decide +kernel) (by decide +kernel) (by decide +kernel) (by decide) ?_
        obtain ⟨rW, rM, n', g', t', C', gC', T', gW, gM, ⟨w1, w2, w3⟩, w4, wR⟩ := s_X_classed hkL hkN hRW hRL hRM (xs (j + 1)) (xs (j + 2))
        have l9 := lw_len w1
        refine lw_case_13 C0 hl0 hKO hA hZ hX hbl hbA hL hj gW gM ⟨by rw [rc]; omega, by rw [rs]; omega⟩ hP hD hS hl ?_
        intro H locs q qM ls hP hD hS hl
        exact next n' g' t' q qM rW.2.1 rM.2 C' gC' T' rW.2.2.1 rW.2.2.2 w1 w4 wR w2 w3 H locs hP hD hS ls hl
      · refine lv_tableIn (off := 671) (tgt := 720) hx hb d_W_law_49 (by decide +kernel) (by decide +kernel) (by decide +kernel) (by decide) ?_
        obtain ⟨rW, rM, n', g', t', C', gC', T', gW, gM, ⟨w1, w2, w3⟩, w4, wR, w5, w6⟩ := s_X_direct hkL hkN hRW hRL hRM (xs (j + 1)) (xs (j + 2)) (xs (j + 3))
        have l9 := lw_len w1
        refine lw_case_14 C0 hl0 hKO hA hZ hX hbl hbA hL hj gW gM ⟨by rw [rc]; omega, by rw [rs]; omega⟩ hP hD hS hl ?_
        intro H locs q qM ls hP hD hS hl
        exact next n' g' t' q qM rW.2.1 rM.2 C' gC' T' rW.2.2.1 rW.2.2.2 w1 w4 wR w2 w3 H locs hP hD hS ls hl
      · refine lv_tableIn (off := 723) (tgt := 772) hx hb d_W_law_49 (by decide +kernel) (by decide +kernel) (by decide +kernel) (by decide) ?_
        obtain ⟨rW, rM, n', g', t', C', gC', T', gW, gM, ⟨w1, w2, w3⟩, w4, wR, w5, w6⟩ := s_X_told hkL hkN hRW hRL hRM (xs (j + 1))
        have l9 := lw_len w1
        refine lw_case_15 C0 hl0 hKO hA hZ hX hbl hbA hL hj gW gM w5 w6 ⟨by rw [rc]; omega, by rw [rs]; omega⟩ hP hD hS hl ?_
        intro H locs q qM ls hP hD hS hl
        exact next n' g' t' q qM rW.2.1 rM.2 C' gC' T' rW.2.2.1 rW.2.2.2 w1 w4 wR w2 w3 H locs hP hD hS ls hl
