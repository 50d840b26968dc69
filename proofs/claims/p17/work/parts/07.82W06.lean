def f_W_isBelow (u : StO) (x1 x2 : Int32) : Option (Int32 × StO × Nat × Nat) :=
  (f_L_isBelow u.1 x1 x2).bind fun r => match r.1 with
  | .inl v => some (0, (r.2.1, vp_updL u.2 0 (if v = 0 then 0 else 1)), r.2.2.1, r.2.2.2)
  | .inr k => if k = 1 then some (1, (r.2.1, u.2), r.2.2.1, r.2.2.2) else none
set_option maxHeartbeats 4000000 in
set_option maxRecDepth 100000 in
theorem c_W_isBelow (l : Launch) (D : va_G) (cI cZ cJ : ClassId) (a : Nat → Nat) (hl0 : l.stackTraces = false) (b q : Nat) (u : StO) (x1 x2 : Int32) {res : Int32 × StO × Nat × Nat} (h : f_W_isBelow u x1 x2 = some res) : HpM l y_W_isBelow b_W_isBelow 5 [(0, 17, 20, 19)] 208 5498 D cI cZ cJ [.ref (a 0), .int x1, .int x2, .ref b] a b q u res := by
  intro sz
  refine va_MetW (hh := [(0, 17, 20, 19)]) (cc := b_W_isBelow) (maxL := 5) (ret := some .int) (by decide) rfl ?_
  intro p e s m args below meth c s₁ B hml hv
  obtain ⟨rfl, hsz, hP, hK3, hD0, hZ⟩ := hv
  subst hsz
  have hts0 := atoms_spec (ws := Cond.codeWith y_W_isBelow b_W_isBelow 5 (some .int) [(0, 17, 20, 19)] :: tb) B.pre
  have hTb := vx_table (x := y_W_isBelow) B (hts0 _ List.mem_cons_self)
  have hl := lv_entry [.ref (a 0), .int x1, .int x2, .ref b] (n := 5) (Nat.le_of_ble_eq_true rfl)
  rw [lg_entry_eq]
  generalize (lg_sl [.ref (a 0), .int x1, .int x2, .ref b] ++ List.replicate (5 - (lg_sl [.ref (a 0), .int x1, .int x2, .ref b]).length) Slot.unset).toArray = ls at hl ⊢
  have hl : lv_has ls 5 [(0, .ref (a 0)), (1, .int x1), (2, .int x2), (3, .ref b)] := hl
  have C0 : Am p s m ([.ref (a 0), .int x1, .int x2, .ref b] : List Value).toArray meth c b_W_isBelow (some .int) 5 R_W D [(cI, .int), (cZ, .boolean)] := ⟨B.exec, B.bytes, B.returns, hml, findClass_of_methodNamed B.named, fun w h => hts0 w (List.mem_cons_of_mem _ h), B.notSynchronized, hK3.1⟩
  obtain ⟨hx, hb, hr, hml, hown, hts, hlk, hK⟩ := id C0
  have hD := hD0.self (sz := s.heap.size)
  generalize hAe : va_A (wO cI cZ cJ a b q u) s.heap.size = A at hD hZ ⊢
  have hA : ∀ q, s.heap.size ≤ q → A q := fun q h => by rw [← hAe]; exact Or.inr h
  have hS : va_S A s.heap s.heap [] := va_S.rf
  unfold f_W_isBelow at h
  replace h := bd h
  obtain ⟨r, g, h⟩ := h
  try dsimp only at h
  have hcnt : res.2.2.1 = r.2.2.1 ∧ res.2.2.2 = r.2.2.2 := by
    rcases hv : r.1 with v | k
    · rw [hv] at h; cases h; exact ⟨rfl, rfl⟩
    · rw [hv] at h; try dsimp only at h
      by_cases z0 : k = 1
      · rw [if_pos z0] at h; cases h; exact ⟨rfl, rfl⟩
      · rw [if_neg z0] at h
        cases h
  refine lv_aload_n hx hb d_W_isBelow_0 rfl (lv_at hl 3 rfl) ?_
  refine lv_iconst (v := 0) hx hb d_W_isBelow_1 (by decide) ?_
  refine lv_aload_n hx hb d_W_isBelow_2 rfl (lv_at hl 0 rfl) ?_
  refine lv_iload_n hx hb d_W_isBelow_3 rfl (lv_at hl 1 rfl) ?_
  refine lv_iload_n hx hb d_W_isBelow_4 rfl (lv_at hl 2 rfl) ?_
  refine tx_V (n := 2) (ci := 0) (As := [.int x1, .int x2]) (rest := [.int 0, .ref b]) (Wn := fun q => wO cI cZ cJ a b q (r.2.1, u.2)) C0 hA hZ (c_L_isBelow l D cI cZ a hl0 q u.1 x1 x2 g) wd_540 ⟨wd_541, wd_542, wd_543, wd_55⟩ (by decide +kernel) ⟨Nat.le_of_ble_eq_true rfl, Nat.le_of_ble_eq_true rfl⟩ hP hD hS [0, 1, 2, 3, 4, 5, 6, 7, 8, 9, 10, 11, 12, 13, 14, 15, 16, 17, 18, 19, 20] [21] [1, 2, 3, 4, 5, 6, 7, 8, 9, 10, 11, 12, 13, 14, 15, 16, 17, 18, 19, 20, 21, 0] jo_C (by decide) jo_R (by decide) (by decide) (by decide) jo_W rfl rfl rfl hl rfl rfl (Nat.le_of_ble_eq_true rfl) ⟨by show 0 + r.2.2.1 ≤ _; exact Nat.le_of_eq (by rw [Nat.zero_add]; exact hcnt.1.symm), by show 0 + r.2.2.2 ≤ _; exact Nat.le_of_eq (by rw [Nat.zero_add]; exact hcnt.2.symm)⟩ d_W_isBelow_5 (fun k H locs q q9 ce hv hP hD hS h1 h2 h3 => ?_) (fun v H locs q hv hP hD hS => ?_)
  · rw [hv] at h
    try dsimp only at h
    by_cases e0 : k = 1
    · subst e0
      rw [if_pos rfl] at h
      cases h
      refine vx_catch (own := R_W) (name := exN 1) hown [] ⟨0, 17, 20, 19⟩ [] (by rw [hTb]; rfl) (fun z hz => nomatch hz) (by decide) (by decide) (hts _ wd_522) (hK.word (List.mem_of_getElem? (i := 12) rfl)) h1 h2 h3 ?_
      refine lv_astore (lv' := [(4, .ref q9), (0, .ref (a 0)), (1, .int x1), (2, .int x2), (3, .ref b)]) hx hb d_W_isBelow_20 hl (by decide) rfl (fun ls hl => ?_)
      refine lv_iconst (v := 1) hx hb d_W_isBelow_22 (by decide) ?_
      refine W.widen (k := r.2.2.1) (n := r.2.2.2) (by omega) (by omega) ?_
      exact W.iret (v := 1) hx hb hr (fun t ht _ => ⟨⟨1, _, rfl, ⟨rfl, rfl⟩, q, by rw [ht]; exact hP, hD⟩, hS.F ht⟩) hS.2.2 d_W_isBelow_23 hlk
    · rw [if_neg e0] at h
      cases h
  · rw [hv] at h
    try dsimp only at h
    cases h
    refine lv_if_eq (tgt := 15) hx hb d_W_isBelow_8 (by decide) (fun hc => ?_) (fun hc => ?_)
    · refine lv_lconst (v := 0) hx hb d_W_isBelow_15 (by decide) ?_
      refine va_last hx hb hK3.2.1 hP hD hS 21 0 rfl rfl in01 d_W_isBelow_16 (fun H locs hP hD hS => ?_)
      refine lv_goto (tgt := 24) hx hb d_W_isBelow_17 (by decide) ?_
      refine lv_iconst (v := 0) hx hb d_W_isBelow_24 (by decide) ?_
      rw [if_pos hc]
      refine W.widen (k := r.2.2.1) (n := r.2.2.2) (by omega) (by omega) ?_
      exact W.iret (v := 0) hx hb hr (fun t ht _ => ⟨⟨0, _, rfl, ⟨rfl, rfl⟩, q, by rw [ht]; exact hP, hD⟩, hS.F ht⟩) hS.2.2 d_W_isBelow_25 hlk
    · refine lv_lconst (v := 1) hx hb d_W_isBelow_11 (by decide) ?_
      refine lv_goto (tgt := 16) hx hb d_W_isBelow_12 (by decide) ?_
      refine va_last hx hb hK3.2.1 hP hD hS 21 0 rfl rfl in01 d_W_isBelow_16 (fun H locs hP hD hS => ?_)
      refine lv_goto (tgt := 24) hx hb d_W_isBelow_17 (by decide) ?_
      refine lv_iconst (v := 0) hx hb d_W_isBelow_24 (by decide) ?_
      rw [if_neg hc]
      refine W.widen (k := r.2.2.1) (n := r.2.2.2) (by omega) (by omega) ?_
      exact W.iret (v := 0) hx hb hr (fun t ht _ => ⟨⟨0, _, rfl, ⟨rfl, rfl⟩, q, by rw [ht]; exact hP, hD⟩, hS.F ht⟩) hS.2.2 d_W_isBelow_25 hlk
