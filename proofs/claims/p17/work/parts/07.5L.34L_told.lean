def f_L_told (σ : StL) (x1 : Int32) : Option ((Int32 ⊕ Nat) × StL × Nat × Nat) :=
  if x1 = 0 then
    some (.inl (f_C_count (L_classes σ)), σ, 0, 0)
  else if x1 = 1 then
    some (.inl (f_C_countGeneric (L_classes σ)), σ, 0, 0)
  else if x1 = 2 then
    some (.inl (f_T_count (L_types σ)), σ, 0, 0)
  else if x1 = 3 then
    some (.inl (L_depth σ), σ, 0, 0)
  else some (.inr 3, σ, 1, 6)
set_option maxHeartbeats 4000000 in
set_option maxRecDepth 100000 in
theorem t_L_told_0 {p : Program} {l : Launch} {e : Env} {s : State} {m : MethodId} {args : Array Value} {below : List Frame} {meth : Method} {c : Code} {D : va_G} {cI cZ : ClassId} {a : Nat → Nat} {A : Nat → Prop} (C0 : Am p s m args meth c b_L_told (some .int) 2 R_L D [(cI, .int), (cZ, .boolean)]) (hA : ∀ q, s.heap.size ≤ q → A q) (hT : ∀ x ∈ c.exceptionTable.toList, False) (hl0 : l.stackTraces = false) (hZ : Zs A s s.heap) {v : Int32 ⊕ Nat} {u : StL} {K N : Nat}   {q : Nat} {σ : StL} {x1 : Int32} {kc ks mc ms : Nat} (h : f_L_told σ x1 = some (v, u, mc, ms)) (hkc : kc + mc = K) (hks : ks + ms = N) {H : Heap} {locs : List Loc} (hP : va_P D vwCl (wL cI cZ a q σ) H) (hD : va_D A (wL cI cZ a q σ)) (hS : va_S A s.heap H locs) {ls : Array Slot} (hl : lv_has ls 2 [(0, .ref (a 0)), (1, .int x1)]) : W p l e (rmK 8 120 K N) s m args below meth c H locs kc ks (TxQ below args s D A (fun q (σ : StL) => (wL cI cZ a q σ)) v u K N) (F0 m 0 ls []) := by
  obtain ⟨hx, hb, hr, hml, hown, hts, hlk, hK⟩ := id C0
  have hcs : kc ≤ K ∧ ks ≤ N := ⟨by omega, by omega⟩
  unfold f_L_told at h
  refine lv_iload_n hx hb d_L_told_0 rfl (lv_at hl 1 rfl) ?_
  by_cases e1_0 : x1 = 0
  · rw [if_pos e1_0] at h
    refine lv_tableIn (off := 31) (tgt := 32) hx hb d_L_told_1 (by rw [e1_0]; decide) (by rw [e1_0]; decide) (by rw [e1_0]; rfl) (by decide) ?_
    refine lv_aload_n hx hb d_L_told_32 rfl (lv_at hl 0 rfl) ?_
    refine va_get (ci := 0) (v := .ref (a 3)) (C := R_L) (T := F_L) (N := 6) hx hb hts i_L hown hK.1 hP 0 rfl rfl 1 (by decide) (hts _ wd_67) (fun _ h9 => h9) rfl d_L_told_33 ?_
    refine ro_V (n := 0) (ci := 1) (As := []) (rest := []) C0 (c_C_count l D cI cZ a q (L_classes σ) rfl) wd_68 ⟨wd_69, wd_70, wd_71, wd_8⟩ (by decide +kernel) ⟨Nat.le_of_ble_eq_true rfl, Nat.le_of_ble_eq_true rfl⟩ (hP.pick [3, 4, 5, 6, 7, 8, 9] rfl) rfl rfl rfl hl rfl rfl (Nat.le_of_ble_eq_true rfl) hcs d_L_told_36 ?_
    cases h; exact tx_ret C0 hP hD hS (by omega) (by omega) d_L_told_39
  · rw [if_neg e1_0] at h
    by_cases e1_1 : x1 = 1
    · rw [if_pos e1_1] at h
      refine lv_tableIn (off := 39) (tgt := 40) hx hb d_L_told_1 (by rw [e1_1]; decide) (by rw [e1_1]; decide) (by rw [e1_1]; rfl) (by decide) ?_
      refine lv_aload_n hx hb d_L_told_40 rfl (lv_at hl 0 rfl) ?_
      refine va_get (ci := 0) (v := .ref (a 3)) (C := R_L) (T := F_L) (N := 6) hx hb hts i_L hown hK.1 hP 0 rfl rfl 1 (by decide) (hts _ wd_67) (fun _ h9 => h9) rfl d_L_told_41 ?_
      refine ro_V (n := 0) (ci := 1) (As := []) (rest := []) C0 (c_C_countGeneric l D cI cZ a q (L_classes σ) rfl) wd_76 ⟨wd_77, wd_78, wd_79, wd_8⟩ (by decide +kernel) ⟨Nat.le_of_ble_eq_true rfl, Nat.le_of_ble_eq_true rfl⟩ (hP.pick [3, 4, 5, 6, 7, 8, 9] rfl) rfl rfl rfl hl rfl rfl (Nat.le_of_ble_eq_true rfl) hcs d_L_told_44 ?_
      cases h; exact tx_ret C0 hP hD hS (by omega) (by omega) d_L_told_47
    · rw [if_neg e1_1] at h
      by_cases e1_2 : x1 = 2
      · rw [if_pos e1_2] at h
        refine lv_tableIn (off := 47) (tgt := 48) hx hb d_L_told_1 (by rw [e1_2]; decide) (by rw [e1_2]; decide) (by rw [e1_2]; rfl) (by decide) ?_
        refine lv_aload_n hx hb d_L_told_48 rfl (lv_at hl 0 rfl) ?_
        refine va_get (ci := 0) (v := .ref (a 10)) (C := R_L) (T := F_L) (N := 6) hx hb hts i_L hown hK.1 hP 0 rfl rfl 2 (by decide) (hts _ wd_85) (fun _ h9 => h9) rfl d_L_told_49 ?_
        refine ro_V (n := 0) (ci := 2) (As := []) (rest := []) C0 (c_T_count l D cI cZ a q (L_types σ) rfl) wd_334 ⟨wd_335, wd_336, wd_337, wd_52⟩ (by decide +kernel) ⟨Nat.le_of_ble_eq_true rfl, Nat.le_of_ble_eq_true rfl⟩ (hP.pick [10, 11, 12, 13, 14, 15, 16, 17, 18] rfl) rfl rfl rfl hl rfl rfl (Nat.le_of_ble_eq_true rfl) hcs d_L_told_52 ?_
        cases h; exact tx_ret C0 hP hD hS (by omega) (by omega) d_L_told_55
      · rw [if_neg e1_2] at h
        by_cases e1_3 : x1 = 3
        · rw [if_pos e1_3] at h
          refine lv_tableIn (off := 55) (tgt := 56) hx hb d_L_told_1 (by rw [e1_3]; decide) (by rw [e1_3]; decide) (by rw [e1_3]; rfl) (by decide) ?_
          refine lv_aload_n hx hb d_L_told_56 rfl (lv_at hl 0 rfl) ?_
          refine va_get (ci := 0) (v := .int (L_depth σ)) (C := R_L) (T := F_L) (N := 6) hx hb hts i_L hown hK.1 hP 0 rfl rfl 0 (by decide) (hts _ wd_278) (fun _ h9 => h9) rfl d_L_told_57 ?_
          cases h; exact tx_ret C0 hP hD hS (by omega) (by omega) d_L_told_60
        · rw [if_neg e1_3] at h
          refine lv_tableOut (tgt := 61) hx hb d_L_told_1 (by have n0 := lv_neT (a := 0) e1_0 (by decide); have n1 := lv_neT (a := 1) e1_1 (by decide); have n2 := lv_neT (a := 2) e1_2 (by decide); have n3 := lv_neT (a := 3) e1_3 (by decide); omega) (by decide) ?_
          cases h
          exact tx_throw (k := 3) C0 hT hl0 hZ hP hD hS wd_164 wd_165 (List.mem_of_getElem? (i := 13) rfl) th_3_87_91_a th_3_87_91_b thI_3 d_L_told_61 d_L_told_64 d_L_told_65 d_L_told_67 d_L_told_70 hl (Nat.le_of_ble_eq_true rfl) (Nat.le_of_ble_eq_true rfl) (by show kc + 1 ≤ K; omega) (by show ks + 6 ≤ N; omega) (by omega) (by omega)
set_option maxHeartbeats 4000000 in
set_option maxRecDepth 100000 in
theorem c_L_told (l : Launch) (D : va_G) (cI cZ : ClassId) (a : Nat → Nat) (hl0 : l.stackTraces = false) (q : Nat) (σ : StL) (x1 : Int32) {res : (Int32 ⊕ Nat) × StL × Nat × Nat} (h : f_L_told σ x1 = some res) : TxM l y_L_told b_L_told 2 (some .int) 8 120 D [(cI, .int), (cZ, .boolean)] [.ref (a 0), .int x1] (fun q (σ : StL) => (wL cI cZ a q σ)) q σ res :=
  tx_of (by decide) (Nat.le_of_ble_eq_true rfl) (fun p e s m args below meth c ls A C0 hA hT hZ hP hD hS hl => t_L_told_0 (a := a) (kc := 0) (ks := 0) C0 hA hT hl0 hZ h (Nat.zero_add _) (Nat.zero_add _) hP hD hS (lv_sub hl [0, 1] rfl))
