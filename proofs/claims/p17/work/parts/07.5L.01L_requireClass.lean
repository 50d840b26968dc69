def f_L_requireClass (σ : StL) (x1 : Int32) : Option ((Int32 ⊕ Nat) × StL × Nat × Nat) :=
  if (f_C_isThere (L_classes σ) x1) = 0 then
    some (.inr 1, σ, 1, 6)
  else
    some (.inl 0, σ, 0, 0)
set_option maxHeartbeats 4000000 in
set_option maxRecDepth 100000 in
theorem t_L_requireClass_0 {p : Program} {l : Launch} {e : Env} {s : State} {m : MethodId} {args : Array Value} {below : List Frame} {meth : Method} {c : Code} {D : va_G} {cI cZ : ClassId} {a : Nat → Nat} {A : Nat → Prop} (C0 : Am p s m args meth c b_L_requireClass none 2 R_L D [(cI, .int), (cZ, .boolean)]) (hA : ∀ q, s.heap.size ≤ q → A q) (hT : ∀ x ∈ c.exceptionTable.toList, False) (hl0 : l.stackTraces = false) (hZ : Zs A s s.heap) {v : Int32 ⊕ Nat} {u : StL} {K N : Nat}   {q : Nat} {σ : StL} {x1 : Int32} {kc ks mc ms : Nat} (h : f_L_requireClass σ x1 = some (v, u, mc, ms)) (hkc : kc + mc = K) (hks : ks + ms = N) {H : Heap} {locs : List Loc} (hP : va_P D vwCl (wL cI cZ a q σ) H) (hD : va_D A (wL cI cZ a q σ)) (hS : va_S A s.heap H locs) {ls : Array Slot} (hl : lv_has ls 2 [(0, .ref (a 0)), (1, .int x1)]) : W p l e (rmK 8 120 K N) s m args below meth c H locs kc ks (TxQv below args s D A (fun q (σ : StL) => (wL cI cZ a q σ)) v u K N) (F0 m 0 ls []) := by
  obtain ⟨hx, hb, hr, hml, hown, hts, hlk, hK⟩ := id C0
  have hcs : kc ≤ K ∧ ks ≤ N := ⟨by omega, by omega⟩
  unfold f_L_requireClass at h
  refine lv_aload_n hx hb d_L_requireClass_0 rfl (lv_at hl 0 rfl) ?_
  refine va_get (ci := 0) (v := .ref (a 3)) (C := R_L) (T := F_L) (N := 6) hx hb hts i_L hown hK.1 hP 0 rfl rfl 1 (by decide) (hts _ wd_67) (fun _ h9 => h9) rfl d_L_requireClass_1 ?_
  refine lv_iload_n hx hb d_L_requireClass_4 rfl (lv_at hl 1 rfl) ?_
  refine ro_V (n := 1) (ci := 1) (As := [.int x1]) (rest := []) C0 (c_C_isThere l D cI cZ a q (L_classes σ) x1 rfl) wd_82 ⟨wd_5, wd_6, wd_7, wd_8⟩ (by decide +kernel) ⟨Nat.le_of_ble_eq_true rfl, Nat.le_of_ble_eq_true rfl⟩ (hP.pick [3, 4, 5, 6, 7, 8, 9] rfl) rfl rfl rfl hl rfl rfl (Nat.le_of_ble_eq_true rfl) hcs d_L_requireClass_5 ?_
  refine lv_if_ne (tgt := 21) hx hb d_L_requireClass_8 (by decide) (fun hc => ?_) (fun hc => ?_)
  · rw [if_neg hc] at h
    cases h; exact tx_retv C0 hP hD hS (by omega) (by omega) d_L_requireClass_21
  · rw [if_pos hc] at h
    cases h
    exact tx_throw (k := 1) C0 hT hl0 hZ hP hD hS wd_83 wd_84 (List.mem_of_getElem? (i := 2) rfl) th_1_176_180_a th_1_176_180_b thI_1 d_L_requireClass_11 d_L_requireClass_14 d_L_requireClass_15 d_L_requireClass_17 d_L_requireClass_20 hl (Nat.le_of_ble_eq_true rfl) (Nat.le_of_ble_eq_true rfl) (by show kc + 1 ≤ K; omega) (by show ks + 6 ≤ N; omega) (by omega) (by omega)
set_option maxHeartbeats 4000000 in
set_option maxRecDepth 100000 in
theorem c_L_requireClass (l : Launch) (D : va_G) (cI cZ : ClassId) (a : Nat → Nat) (hl0 : l.stackTraces = false) (q : Nat) (σ : StL) (x1 : Int32) {res : (Int32 ⊕ Nat) × StL × Nat × Nat} (h : f_L_requireClass σ x1 = some res) : TxMv l y_L_requireClass b_L_requireClass 2 8 120 D [(cI, .int), (cZ, .boolean)] [.ref (a 0), .int x1] (fun q (σ : StL) => (wL cI cZ a q σ)) q σ res :=
  tx_ofv (by decide) (Nat.le_of_ble_eq_true rfl) (fun p e s m args below meth c ls A C0 hA hT hZ hP hD hS hl => t_L_requireClass_0 (a := a) (kc := 0) (ks := 0) C0 hA hT hl0 hZ h (Nat.zero_add _) (Nat.zero_add _) hP hD hS (lv_sub hl [0, 1] rfl))
