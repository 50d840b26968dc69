theorem s_decl {u : StO} {μ : StM} {n g d t : Nat} (hL : kL u.1 n g d) (hM : kN μ n g d t) (x1 : Int32) {x2 : Int32} (h2 : x2 = 0 ∨ x2 = 1) :
    ∃ (rW : Int32 × StO × Nat × Nat) (rM : Int32 × StM) (n' g' t' : Nat), f_W_declare u x1 x2 = some rW ∧ f_M_declare μ x1 x2 = some rM ∧ (kL rW.2.1.1 n' g' d ∧ rW.2.2.1 + (T_parts (L_types u.1)).1 ≤ 1 + (T_parts (L_types rW.2.1.1)).1 ∧ rW.2.2.2 + 2 * (T_parts (L_types u.1)).1 ≤ 6 + 2 * (T_parts (L_types rW.2.1.1)).1) ∧ kN rM.2 n' g' d t' ∧ f_M_thrown rM.2 = rW.1 ∧ (rW.1 = 0 → rW.2.1.2 0 = rM.1.toInt64) := by
  obtain ⟨r, er, r1, r2⟩ := s_L_declare hL x1 x2
  obtain ⟨q, eq, q1, q2⟩ := s_M_declare hM (x1 := x1) h2
  by_cases hc : n = 30 ∨ (¬ x2 = 0 ∧ 6 ≤ g)
  · have r3 := r1 hc
    obtain ⟨q3, q4⟩ := q1 hc
    refine ⟨(1, (u.1, u.2), 1, 6), q, n, g, t, ?_, eq, ⟨hL, ?_, ?_⟩, q4, q3, fun z => absurd z k_10⟩
    · unfold f_W_declare
      rw [er, r3]; rfl
    · show 1 + (T_parts (L_types u.1)).1 ≤ 1 + (T_parts (L_types u.1)).1
      omega
    · show 6 + 2 * (T_parts (L_types u.1)).1 ≤ 6 + 2 * (T_parts (L_types u.1)).1
      omega
  · obtain ⟨e1, e2, e3, e4⟩ := r2 hc
    obtain ⟨q3, q4, q5⟩ := q2 hc
    obtain ⟨v, τ, K, N⟩ := r
    replace e1 : v = .inl (nI n) := e1
    replace e3 : L_types τ = L_types u.1 := e3
    replace e4 : (K, N) = ((0, 0) : Nat × Nat) := e4
    subst e1
    cases e4
    refine ⟨(0, (τ, vp_updL u.2 0 (nI n).toInt64), 0, 0), q, _, _, t, ?_, eq, ⟨e2, ?_, ?_⟩, q5, q3, fun _ => ?_⟩
    · unfold f_W_declare
      rw [er]; rfl
    · show 0 + (T_parts (L_types u.1)).1 ≤ 1 + (T_parts (L_types τ)).1
      rw [e3]; omega
    · show 0 + 2 * (T_parts (L_types u.1)).1 ≤ 6 + 2 * (T_parts (L_types τ)).1
      rw [e3]; omega
    · show vp_updL u.2 0 (nI n).toInt64 0 = q.1.toInt64
      rw [q4]; simp [vp_updL]
theorem lw_b01 (y : Int32) : (if y = 0 then (0 : Int32) else 1) = 0 ∨ (if y = 0 then (0 : Int32) else 1) = 1 := by
  by_cases h : y = 0
  · exact Or.inl (if_pos h)
  · exact Or.inr (if_neg h)
theorem lw_len {σ : StL} {n g d : Nat} (h : kL σ n g d) : 64 ≤ (T_parts (L_types σ)).1 ∧ (T_parts (L_types σ)).1 ≤ 60000 := by
  obtain ⟨t, ht⟩ := h.2.2.2
  exact ht.2.2.2.2.2
set_option maxHeartbeats 4000000 in
set_option maxRecDepth 100000 in
theorem law_loop {p : Program} {l : Launch} {e : Env} {s : State} {m : MethodId} {below : List Frame} {meth : Method} {c : Code} {D : va_G} {cI cZ cJ : ClassId} {a aM : Nat → Nat} {b L : Nat} {xs : Nat → Int32} (C0 : Am p s m #[Value.ref b] meth c code ret 7 R_W D [(cI, .int), (cZ, .boolean)]) (hl0 : l.stackTraces = false) (hKO : KO D cI cZ cJ s) (hZ : Zs (fun q : Nat => s.heap.size ≤ q) s s.heap) (hX : va_X b L xs s s.heap) (hbl : b < s.heap.size) (hL : L ≤ 2049) {bo d : Nat} :
    ∀ (f j k n g t q qM : Nat) (u : StO) (μ : StM), j = 1 + 4 * k → j ≤ L + 4 → L + 5 ≤ j + 4 * f → kL u.1 n g d → kN μ n g d t → ∀ (cells slots : Nat), cells + 64 ≤ 46 + k + (T_parts (L_types u.1)).1 → slots + 128 ≤ 131207 + 6 * k + 2 * (T_parts (L_types u.1)).1 → ∀ (H : Heap) (locs : List Loc), va_P D vwCl (wX cI cZ cJ a aM bo q qM u μ) H → va_D (fun q : Nat => s.heap.size ≤ q) (wX cI cZ cJ a aM bo q qM u μ) → va_S (fun q : Nat => s.heap.size ≤ q) s.heap H locs → ∀ (ls : Array Slot), lv_has ls 7 [(0, .ref b), (1, .ref (a 0)), (2, .ref (aM 20)), (3, .ref bo), (4, .int (nI j))] → W p l e room_1 s m #[Value.ref b] below meth c H locs cells slots (lw_Z below #[Value.ref b] s) (F0 m 33 ls []) := by
  obtain ⟨hx, hb, hr, hml, hown, hts, hlk, hK⟩ := id C0
  have hA : ∀ q : Nat, s.heap.size ≤ q → (fun q : Nat => s.heap.size ≤ q) q := fun _ h => h
  have hbA : ¬ (fun q : Nat => s.heap.size ≤ q) b := Nat.not_le.mpr hbl
  have rc : room_1.cells = 601024 := rfl
  have rs : room_1.slots = 7293000 := rfl
  intro f
  induction f with
  | zero =>
    intro j k n g t q qM u μ ej hjl hf hkL hkN cells slots hc hs H locs hP hD hS ls hl
    exact absurd hf (by omega)
  | succ f ih =>
    intro j k n g t q qM u μ ej hjl hf hkL hkN cells slots hc hs H locs hP hD hS ls hl
    obtain ⟨len1, len2⟩ := lw_len hkL
    refine lv_iload hx hb d_W_law_33 (lv_at hl 4 rfl) ?_
    refine lv_aload_n hx hb d_W_law_35 rfl (lv_at hl 0 rfl) ?_
    refine va_slen hx hb hX hbl hbA hS d_W_law_36 ?_
    refine lv_iconst (v := 4) hx hb d_W_law_37 (by decide) ?_
    refine lv_isub hx hb d_W_law_38 ?_
    have eL : (Int32.ofNat L - 4).toInt = (L : Int) - 4 := by
      have e1 : (Int32.ofNat L).toInt = (L : Int) := nI_toInt (n := L) (by omega)
      have e2 : (4 : Int32).toInt = 4 := by decide
      rw [Int32.toInt_sub, e1, e2, Int.bmod_eq_of_le (by omega) (by omega)]
    refine lv_icmp_gt (tgt := 834) hx hb d_W_law_39 (by decide) (fun hgt => ?_) (fun hgt => ?_)
    · refine lv_iconst (v := 1) hx hb d_W_law_834 (by decide) ?_
      have hkk : k ≤ 600 := by omega
      refine va_forget (fun q hq => hS.2.2 q hq) ?_
      refine W.widen (k := 601024) (n := 7293000) ?_ ?_ ?_
      · omega
      · omega
      · exact lw_ret hx hb hr hlk d_W_law_835
    · have hj : j + 4 ≤ L := by
        rw [Int32.lt_iff_toInt_lt, eL] at hgt
        rw [nI_toInt (show j < 2 ^ 31 by omega)] at hgt
        omega
      have hk512 : k ≤ 511 := by omega
      have next : ∀ (n' g' t' q' qM' : Nat) (u' : StO) (μ' : StM) (K N : Nat), kL u'.1 n' g' d → kN μ' n' g' d t' → K + (T_parts (L_types u.1)).1 ≤ 1 + (T_parts (L_types u'.1)).1 → N + 2 * (T_parts (L_types u.1)).1 ≤ 6 + 2 * (T_parts (L_types u'.1)).1 → ∀ (H : Heap) (locs : List Loc), va_P D vwCl (wX cI cZ cJ a aM bo q' qM' u' μ') H → va_D (fun q : Nat => s.heap.size ≤ q) (wX cI cZ cJ a aM bo q' qM' u' μ') → va_S (fun q : Nat => s.heap.size ≤ q) s.heap H locs → ∀ (ls : Array Slot), lv_has ls 7 [(0, .ref b), (1, .ref (a 0)), (2, .ref (aM 20)), (3, .ref bo), (4, .int (nI j))] → W p l e room_1 s m #[Value.ref b] below meth c H locs (cells + K) (slots + N) (lw_Z below #[Value.ref b] s) (F0 m 828 ls []) := by
        intro n' g' t' q' qM' u' μ' K N h1 h2 h3 h4 H locs hP hD hS ls hl
        refine lv_iinc (v := nI (j + 4)) (lv' := [(4, .int (nI (j + 4))), (0, .ref b), (1, .ref (a 0)), (2, .ref (aM 20)), (3, .ref bo)]) hx hb d_W_law_828 hl (k := 4) rfl (nI_add j 4) (by decide) rfl (fun ls hl => ?_)
        refine lv_goto (tgt := 33) hx hb d_W_law_831 (by decide) ?_
        exact ih (j + 4) (k + 1) n' g' t' q' qM' u' μ' (by omega) (by omega) (by omega) h1 h2 (cells + K) (slots + N) (by omega) (by omega) H locs hP hD hS ls (lv_sub hl [1, 2, 3, 4, 0] rfl)
      refine lv_aload_n hx hb d_W_law_42 rfl (lv_at hl 0 rfl) ?_
      refine lv_iload hx hb d_W_law_43 (lv_at hl 4 rfl) ?_
      refine va_sld hx hb hX hbl hbA hS (vp_in_nI (show j < L by omega) (by omega)) d_W_law_45 ?_
      refine lv_bipush (v := 15) hx hb d_W_law_46 (by decide) ?_
      refine lv_iand hx hb d_W_law_48 ?_
      obtain ⟨v, hv, ev⟩ := lw_15 (xs (nI j).toNatClampNeg)
      rw [ev]
      rcases (show v = 0 ∨ v = 1 ∨ v = 2 ∨ v = 3 ∨ v = 4 ∨ v = 5 ∨ v = 6 ∨ v = 7 ∨ v = 8 ∨ v = 9 ∨ v = 10 ∨ v = 11 ∨ v = 12 ∨ v = 13 ∨ v = 14 ∨ v = 15 by omega) with rfl | rfl | rfl | rfl | rfl | rfl | rfl | rfl | rfl | rfl | rfl | rfl | rfl | rfl | rfl | rfl
      · refine lv_tableIn (off := 79) (tgt := 128) hx hb d_W_law_49 (by decide +kernel) (by decide +kernel) (by decide +kernel) (by decide) ?_
        obtain ⟨rW, rM, n', g', t', gW, gM, ⟨w1, w2, w3⟩, w4, w5, w6⟩ := s_decl hkL hkN (if xs (j + 1) = 0 then 0 else 1) (lw_b01 (xs (j + 2)))
        have l9 := lw_len w1
        refine lw_case_0 C0 hl0 hKO hA hZ hX hbl hbA hL hj gW gM w5 w6 ⟨by rw [rc]; omega, by rw [rs]; omega⟩ hP hD hS hl ?_
        intro H locs q qM ls hP hD hS hl
        exact next n' g' t' q qM rW.2.1 rM.2 rW.2.2.1 rW.2.2.2 w1 w4 w2 w3 H locs hP hD hS ls hl
      · refine lv_tableIn (off := 179) (tgt := 228) hx hb d_W_law_49 (by decide +kernel) (by decide +kernel) (by decide +kernel) (by decide) ?_
        obtain ⟨rW, gW, w1, w2, w3⟩ := s_W_above hkL (xs (j + 1)) (xs (j + 2))
        obtain ⟨rM, gM, t', w4⟩ := s_M_above hkN (xs (j + 1)) (xs (j + 2))
        have l9 := lw_len w1
        refine lw_case_1 C0 hl0 hKO hA hZ hX hbl hbA hL hj gW gM ⟨by rw [rc]; omega, by rw [rs]; omega⟩ hP hD hS hl ?_
        intro H locs q qM ls hP hD hS hl
        exact next n g t' q qM rW.2.1 rM.2 rW.2.2.1 rW.2.2.2 w1 w4 w2 w3 H locs hP hD hS ls hl
      · refine lv_tableIn (off := 219) (tgt := 268) hx hb d_W_law_49 (by decide +kernel) (by decide +kernel) (by decide +kernel) (by decide) ?_
        obtain ⟨rW, gW, w1, w2, w3⟩ := s_W_named hkL (xs (j + 1)) (xs (j + 2)) (xs (j + 3))
        obtain ⟨rM, gM, t', w4⟩ := s_M_named hkN (xs (j + 1)) (xs (j + 2)) (xs (j + 3))
        have l9 := lw_len w1
        refine lw_case_2 C0 hl0 hKO hA hZ hX hbl hbA hL hj gW gM ⟨by rw [rc]; omega, by rw [rs]; omega⟩ hP hD hS hl ?_
        intro H locs q qM ls hP hD hS hl
        exact next n g t' q qM rW.2.1 rM.2 rW.2.2.1 rW.2.2.2 w1 w4 w2 w3 H locs hP hD hS ls hl
      · refine lv_tableIn (off := 271) (tgt := 320) hx hb d_W_law_49 (by decide +kernel) (by decide +kernel) (by decide +kernel) (by decide) ?_
        obtain ⟨rW, gW, w1, w2, w3⟩ := s_W_array hkL (xs (j + 1))
        obtain ⟨rM, gM, t', w4⟩ := s_M_array hkN (xs (j + 1))
        have l9 := lw_len w1
        refine lw_case_3 C0 hl0 hKO hA hZ hX hbl hbA hL hj gW gM ⟨by rw [rc]; omega, by rw [rs]; omega⟩ hP hD hS hl ?_
        intro H locs q qM ls hP hD hS hl
        exact next n g t' q qM rW.2.1 rM.2 rW.2.2.1 rW.2.2.2 w1 w4 w2 w3 H locs hP hD hS ls hl
      · refine lv_tableIn (off := 299) (tgt := 348) hx hb d_W_law_49 (by decide +kernel) (by decide +kernel) (by decide +kernel) (by decide) ?_
        obtain ⟨rW, gW, w1, w2, w3⟩ := s_W_upper hkL (xs (j + 1)) (xs (j + 2))
        obtain ⟨rM, gM, t', w4⟩ := s_M_upper hkN (xs (j + 1)) (xs (j + 2))
        have l9 := lw_len w1
        refine lw_case_4 C0 hl0 hKO hA hZ hX hbl hbA hL hj gW gM ⟨by rw [rc]; omega, by rw [rs]; omega⟩ hP hD hS hl ?_
        intro H locs q qM ls hP hD hS hl
        exact next n g t' q qM rW.2.1 rM.2 rW.2.2.1 rW.2.2.2 w1 w4 w2 w3 H locs hP hD hS ls hl
      · refine lv_tableIn (off := 339) (tgt := 388) hx hb d_W_law_49 (by decide +kernel) (by decide +kernel) (by decide +kernel) (by decide) ?_
        obtain ⟨rW, gW, w1, w2, w3⟩ := s_W_lower hkL (xs (j + 1)) (xs (j + 2))
        obtain ⟨rM, gM, t', w4⟩ := s_M_lower hkN (xs (j + 1)) (xs (j + 2))
        have l9 := lw_len w1
        refine lw_case_5 C0 hl0 hKO hA hZ hX hbl hbA hL hj gW gM ⟨by rw [rc]; omega, by rw [rs]; omega⟩ hP hD hS hl ?_
        intro H locs q qM ls hP hD hS hl
        exact next n g t' q qM rW.2.1 rM.2 rW.2.2.1 rW.2.2.2 w1 w4 w2 w3 H locs hP hD hS ls hl
      · refine lv_tableIn (off := 379) (tgt := 428) hx hb d_W_law_49 (by decide +kernel) (by decide +kernel) (by decide +kernel) (by decide) ?_
        obtain ⟨rW, gW, w1, w2, w3⟩ := s_W_isBelow hkL (xs (j + 1)) (xs (j + 2))
        obtain ⟨rM, gM, t', w4⟩ := s_M_isBelow hkN (xs (j + 1)) (xs (j + 2))
        have l9 := lw_len w1
        refine lw_case_6 C0 hl0 hKO hA hZ hX hbl hbA hL hj gW gM ⟨by rw [rc]; omega, by rw [rs]; omega⟩ hP hD hS hl ?_
        intro H locs q qM ls hP hD hS hl
        exact next n g t' q qM rW.2.1 rM.2 rW.2.2.1 rW.2.2.2 w1 w4 w2 w3 H locs hP hD hS ls hl
      · refine lv_tableIn (off := 419) (tgt := 468) hx hb d_W_law_49 (by decide +kernel) (by decide +kernel) (by decide +kernel) (by decide) ?_
        obtain ⟨rW, gW, w1, w2, w3⟩ := s_W_look hkL (xs (j + 1)) (xs (j + 2))
        obtain ⟨rM, gM, t', w4⟩ := s_M_look hkN (xs (j + 1)) (xs (j + 2))
        have l9 := lw_len w1
        refine lw_case_7 C0 hl0 hKO hA hZ hX hbl hbA hL hj gW gM ⟨by rw [rc]; omega, by rw [rs]; omega⟩ hP hD hS hl ?_
        intro H locs q qM ls hP hD hS hl
        exact next n g t' q qM rW.2.1 rM.2 rW.2.2.1 rW.2.2.2 w1 w4 w2 w3 H locs hP hD hS ls hl
      · refine lv_tableIn (off := 459) (tgt := 508) hx hb d_W_law_49 (by decide +kernel) (by decide +kernel) (by decide +kernel) (by decide) ?_
        obtain ⟨rW, gW, w1, w2, w3⟩ := s_W_box hkL (xs (j + 1))
        obtain ⟨rM, gM, t', w4⟩ := s_M_box hkN (xs (j + 1))
        have l9 := lw_len w1
        refine lw_case_8 C0 hl0 hKO hA hZ hX hbl hbA hL hj gW gM ⟨by rw [rc]; omega, by rw [rs]; omega⟩ hP hD hS hl ?_
        intro H locs q qM ls hP hD hS hl
        exact next n g t' q qM rW.2.1 rM.2 rW.2.2.1 rW.2.2.2 w1 w4 w2 w3 H locs hP hD hS ls hl
      · refine lv_tableIn (off := 487) (tgt := 536) hx hb d_W_law_49 (by decide +kernel) (by decide +kernel) (by decide +kernel) (by decide) ?_
        obtain ⟨rW, gW, w1, w2, w3⟩ := s_W_type hkL (xs (j + 1)) (xs (j + 2))
        obtain ⟨rM, gM, t', w4⟩ := s_M_type hkN (xs (j + 1)) (xs (j + 2))
        have l9 := lw_len w1
        refine lw_case_9 C0 hl0 hKO hA hZ hX hbl hbA hL hj gW gM ⟨by rw [rc]; omega, by rw [rs]; omega⟩ hP hD hS hl ?_
        intro H locs q qM ls hP hD hS hl
        exact next n g t' q qM rW.2.1 rM.2 rW.2.2.1 rW.2.2.2 w1 w4 w2 w3 H locs hP hD hS ls hl
      · refine lv_tableIn (off := 527) (tgt := 576) hx hb d_W_law_49 (by decide +kernel) (by decide +kernel) (by decide +kernel) (by decide) ?_
        obtain ⟨rW, gW, w1, w2, w3⟩ := s_W_part hkL (xs (j + 1)) (xs (j + 2))
        obtain ⟨rM, gM, t', w4⟩ := s_M_part hkN (xs (j + 1)) (xs (j + 2))
        have l9 := lw_len w1
        refine lw_case_10 C0 hl0 hKO hA hZ hX hbl hbA hL hj gW gM ⟨by rw [rc]; omega, by rw [rs]; omega⟩ hP hD hS hl ?_
        intro H locs q qM ls hP hD hS hl
        exact next n g t' q qM rW.2.1 rM.2 rW.2.2.1 rW.2.2.2 w1 w4 w2 w3 H locs hP hD hS ls hl
      · refine lv_tableIn (off := 567) (tgt := 616) hx hb d_W_law_49 (by decide +kernel) (by decide +kernel) (by decide +kernel) (by decide) ?_
        obtain ⟨rW, gW, w1, w2, w3⟩ := s_W_common hkL (xs (j + 1)) (xs (j + 2)) (xs (j + 3))
        obtain ⟨rM, gM, t', w4⟩ := s_M_common hkN (xs (j + 1)) (xs (j + 2)) (xs (j + 3))
        have l9 := lw_len w1
        refine lw_case_11 C0 hl0 hKO hA hZ hX hbl hbA hL hj gW gM ⟨by rw [rc]; omega, by rw [rs]; omega⟩ hP hD hS hl ?_
        intro H locs q qM ls hP hD hS hl
        exact next n g t' q qM rW.2.1 rM.2 rW.2.2.1 rW.2.2.2 w1 w4 w2 w3 H locs hP hD hS ls hl
      · refine lv_tableIn (off := 619) (tgt := 668) hx hb d_W_law_49 (by decide +kernel) (by decide +kernel) (by decide +kernel) (by decide) ?_
        obtain ⟨rW, gW, w1, w2, w3⟩ := s_W_isUnder hkL (xs (j + 1)) (xs (j + 2))
        obtain ⟨rM, gM, t', w4⟩ := s_M_isUnder hkN (xs (j + 1)) (xs (j + 2))
        have l9 := lw_len w1
        refine lw_case_12 C0 hl0 hKO hA hZ hX hbl hbA hL hj gW gM ⟨by rw [rc]; omega, by rw [rs]; omega⟩ hP hD hS hl ?_
        intro H locs q qM ls hP hD hS hl
        exact next n g t' q qM rW.2.1 rM.2 rW.2.2.1 rW.2.2.2 w1 w4 w2 w3 H locs hP hD hS ls hl
      · refine lv_tableIn (off := 659) (tgt := 708) hx hb d_W_law_49 (by decide +kernel) (by decide +kernel) (by decide +kernel) (by decide) ?_
        obtain ⟨rW, gW, w1, w2, w3⟩ := s_W_classed hkL (xs (j + 1)) (xs (j + 2))
        obtain ⟨rM, gM, t', w4⟩ := s_M_classed hkN (xs (j + 1)) (xs (j + 2))
        have l9 := lw_len w1
        refine lw_case_13 C0 hl0 hKO hA hZ hX hbl hbA hL hj gW gM ⟨by rw [rc]; omega, by rw [rs]; omega⟩ hP hD hS hl ?_
        intro H locs q qM ls hP hD hS hl
        exact next n g t' q qM rW.2.1 rM.2 rW.2.2.1 rW.2.2.2 w1 w4 w2 w3 H locs hP hD hS ls hl
      · refine lv_tableIn (off := 699) (tgt := 748) hx hb d_W_law_49 (by decide +kernel) (by decide +kernel) (by decide +kernel) (by decide) ?_
        obtain ⟨rW, gW, w1, w2, w3⟩ := s_W_direct hkL (xs (j + 1)) (xs (j + 2)) (xs (j + 3))
        obtain ⟨rM, gM, t', w4⟩ := s_M_direct hkN (xs (j + 1)) (xs (j + 2)) (xs (j + 3))
        have l9 := lw_len w1
        refine lw_case_14 C0 hl0 hKO hA hZ hX hbl hbA hL hj gW gM ⟨by rw [rc]; omega, by rw [rs]; omega⟩ hP hD hS hl ?_
        intro H locs q qM ls hP hD hS hl
        exact next n g t' q qM rW.2.1 rM.2 rW.2.2.1 rW.2.2.2 w1 w4 w2 w3 H locs hP hD hS ls hl
      · refine lv_tableIn (off := 751) (tgt := 800) hx hb d_W_law_49 (by decide +kernel) (by decide +kernel) (by decide +kernel) (by decide) ?_
        obtain ⟨rW, gW, w1, w2, w3⟩ := s_W_told hkL (xs (j + 1))
        obtain ⟨rM, gM, t', w4⟩ := s_M_told hkN (xs (j + 1))
        have l9 := lw_len w1
        refine lw_case_15 C0 hl0 hKO hA hZ hX hbl hbA hL hj gW gM ⟨by rw [rc]; omega, by rw [rs]; omega⟩ hP hD hS hl ?_
        intro H locs q qM ls hP hD hS hl
        exact next n g t' q qM rW.2.1 rM.2 rW.2.2.1 rW.2.2.2 w1 w4 w2 w3 H locs hP hD hS ls hl
