theorem jw_C {cI cZ : ClassId} {a : Nat → Nat} {q qm : Nat} {σ : StL} {e0 : va_E} : [21].map (fun (i : Nat) => (wL cI cZ a q σ ++ [(qm, e0)])[i]?) = [(qm, e0)].map some := rfl
theorem jw_R {cI cZ : ClassId} {a : Nat → Nat} {q qm : Nat} {σ : StL} {e0 : va_E} : [0, 1, 2, 3, 4, 5, 6, 7, 8, 9, 10, 11, 12, 13, 14, 15, 16, 17, 18, 19, 20].map (fun (i : Nat) => (wL cI cZ a q σ ++ [(qm, e0)])[i]?) = (wL cI cZ a q σ).map some := rfl
theorem jw_P {cI cZ cJ : ClassId} {a aM : Nat → Nat} {q qM bo : Nat} {σ : StL} {μ : StM} {f : Nat → Int64} : [0, 1, 2, 3, 4, 5, 6, 7, 8, 9, 10, 11, 12, 13, 14, 15, 16, 17, 18, 19, 20, 45, 21, 22, 23, 24, 25, 26, 27, 28, 29, 30, 31, 32, 33, 34, 35, 36, 37, 38, 39, 40, 41, 42, 43, 44].map (fun (i : Nat) => (wL cI cZ a q σ ++ wM cI cZ aM qM μ ++ [(bo, .inl (cJ, 1, .inr (.inl f)))])[i]?) = (wX cI cZ cJ a aM bo q qM (σ, f) μ).map some := rfl
set_option maxHeartbeats 4000000 in
set_option maxRecDepth 100000 in
theorem whole_start {p : Program} {e : Env} {s : State} {m : MethodId} {below : List Frame} {meth : Method} {c : Code} (l : Launch) (hl0 : l.stackTraces = false) {b L : Nat} {xs : Nat → Int32} (hL : L ≤ 2049) (C9 : lw_At p s m meth c b L xs) : W p l e room_1 s m #[Value.ref b] below meth c s.heap [] 0 0 (lw_Z below #[Value.ref b] s) (entryFrame m ([Value.ref b] : List Value).toArray 7) := by
  obtain ⟨hx, hb, hr, hml, hown, htl, hX, hbl, hlocks, hgv⟩ := C9
  obtain ⟨D, cI, cZ, cJ, hKO, hZ⟩ := lw_ko htl hgv wd_701 wd_499 wd_504 wd_509 wd_705
  have hts : ∀ w ∈ tb, w.before #[Value.ref b] s = true := fun w h => htl w (lw_tb h)
  have C0 : Am p s m #[Value.ref b] meth c code ret 7 R_W D [(cI, .int), (cZ, .boolean)] := ⟨hx, hb, hr, hml, hown, hts, hlocks, hKO.1⟩
  have hA : ∀ q : Nat, s.heap.size ≤ q → (fun q : Nat => s.heap.size ≤ q) q := fun _ h => h
  have hbA : ¬ (fun q : Nat => s.heap.size ≤ q) b := Nat.not_le.mpr hbl
  have hS : va_S (fun q : Nat => s.heap.size ≤ q) s.heap s.heap [] := va_S.rf
  have hP : va_P D vwCl [] s.heap := fun k q h => by simp at h
  have hD : va_D (fun q : Nat => s.heap.size ≤ q) [] := ⟨fun i j p q h => by simp at h, fun k q h => by simp at h⟩
  have hl := lv_entry ([.ref b]) (n := 7) (Nat.le_of_ble_eq_true rfl)
  rw [lg_entry_eq]
  generalize (lg_sl ([.ref b]) ++ List.replicate (7 - (lg_sl ([.ref b])).length) Slot.unset).toArray = ls at hl ⊢
  have hl : lv_has ls 7 [(0, .ref b)] := hl
  obtain ⟨x0, ex0⟩ : ∃ x, x = (if 0 < L then xs 0 else 0) := ⟨_, rfl⟩
  obtain ⟨d, hd2, hdp, hdx⟩ := i_depth x0
  obtain ⟨rC, hfC, kC0⟩ := i0_C
  obtain ⟨rT, hfT, kT0, len0⟩ := i0_T
  obtain ⟨rA, hfA, _⟩ : k_ok (f_A_init_13 ((fun _ => 0), 0)) (fun _ => True) := ⟨_, rfl, trivial⟩
  obtain ⟨rM, hfM, kM0⟩ := i0_M x0 hd2 hdx
  refine va_new (ci := 0) (fs := [.int 0, .null, .null, .null, .null, .null]) (C := R_L) (T := F_L) (N := 6) hx hb hts i_L ty_L tyok_L hown (hts _ wd_700) (hts _ wd_701) (hts _ wd_55) hKO.2.1 hP hD hS hA rfl (fun j hj => by rcases (show j = 0 ∨ j = 1 ∨ j = 2 ∨ j = 3 ∨ j = 4 ∨ j = 5 by omega) with rfl | rfl | rfl | rfl | rfl | rfl <;> rfl) (Nat.le_of_ble_eq_true rfl) (Nat.le_of_ble_eq_true rfl) d_W_law_0 (fun q0 H hP hD hS => ?_)
  refine lv_dup hx hb d_W_law_3 rfl ?_
  refine lv_aload_n hx hb d_W_law_4 rfl (lv_at hl 0 rfl) ?_
  refine lv_iconst (v := 0) hx hb d_W_law_5 (by decide) ?_
  refine ce_S (rest := [.ref q0, .ref q0]) C0 hX hbl hbA hS hL wd_697 ⟨wd_708, wd_709, wd_582⟩ ⟨Nat.le_of_ble_eq_true rfl, Nat.le_of_ble_eq_true rfl⟩ hl rfl (Nat.le_of_ble_eq_true rfl) ⟨Nat.le_of_ble_eq_true rfl, Nat.le_of_ble_eq_true rfl⟩ d_W_law_6 ?_
  rw [← ex0]
  have hP : va_P D vwCl [(q0, .inr (0, [.int 0, .null, .null, .null, .null, .null]))] H := hP
  have hD : va_D (fun q : Nat => s.heap.size ≤ q) [(q0, .inr (0, [.int 0, .null, .null, .null, .null, .null]))] := hD
  refine ct_I (n := 1) (As := [.int x0]) (rest := [.ref q0]) (wr := []) C0 hA (c_L_init l D cI cZ q0 x0 (nI d) hdp hfC hfT hfA) wd_698 ⟨wd_702, wd_703, wd_55⟩ (by decide +kernel) rfl ⟨Nat.le_of_ble_eq_true rfl, Nat.le_of_ble_eq_true rfl⟩ hP hD hS [0] [] rfl (by decide) rfl (by decide) (by decide) hl rfl rfl (Nat.le_of_ble_eq_true rfl) ⟨Nat.le_of_ble_eq_true rfl, Nat.le_of_ble_eq_true rfl⟩ d_W_law_9 (fun H1 locs a q ha hP1 hD1 hS1 => ?_)
  subst ha
  clear hP hD hS
  generalize hσ : ((nI d, rC.2, rT.2, rA.2, (fun _ => 0), (fun _ => 0)) : StL) = σ at hP1 hD1
  have hkL : kL σ 13 1 d := by rw [← hσ]; exact ⟨rfl, hd2, kC0, kT0⟩
  have hRL : RL σ wC0 1 wT0 d := by rw [← hσ]; exact ⟨⟨R0_C rC hfC, R0_T rT hfT⟩, R0_A rA hfA, rfl⟩
  have hlen : (T_parts (L_types σ)).1 = 64 := by rw [← hσ]; exact len0
  have hP : va_P D vwCl (wL cI cZ a q σ) H1 := hP1
  have hD : va_D (fun q : Nat => s.heap.size ≤ q) (wL cI cZ a q σ) := hD1
  have hS := hS1
  refine lv_astore_n (lv' := [(1, .ref (a 0)), (0, .ref b)]) hx hb d_W_law_12 rfl hl (by decide) rfl (fun ls hl => ?_)
  refine va_new (ci := 4) (fs := [.int 0, .int 0, .int 0, .int 0, .null, .null, .null, .null, .null, .null, .int 0, .null, .null, .null, .null, .null, .null, .null, .int 0, .int 0, .int 0, .int 0, .null, .null, .int 0, .int 0, .null, .null, .null, .null, .null, .null, .null, .null, .int 0]) (C := R_M) (T := F_M) (N := 35) hx hb hts i_M ty_M tyok_M hown (hts _ wd_704) (hts _ wd_705) (hts _ wd_352) hKO.2.1 hP hD hS hA rfl (fun j hj => by rcases (show j = 0 ∨ j = 1 ∨ j = 2 ∨ j = 3 ∨ j = 4 ∨ j = 5 ∨ j = 6 ∨ j = 7 ∨ j = 8 ∨ j = 9 ∨ j = 10 ∨ j = 11 ∨ j = 12 ∨ j = 13 ∨ j = 14 ∨ j = 15 ∨ j = 16 ∨ j = 17 ∨ j = 18 ∨ j = 19 ∨ j = 20 ∨ j = 21 ∨ j = 22 ∨ j = 23 ∨ j = 24 ∨ j = 25 ∨ j = 26 ∨ j = 27 ∨ j = 28 ∨ j = 29 ∨ j = 30 ∨ j = 31 ∨ j = 32 ∨ j = 33 ∨ j = 34 by omega) with rfl | rfl | rfl | rfl | rfl | rfl | rfl | rfl | rfl | rfl | rfl | rfl | rfl | rfl | rfl | rfl | rfl | rfl | rfl | rfl | rfl | rfl | rfl | rfl | rfl | rfl | rfl | rfl | rfl | rfl | rfl | rfl | rfl | rfl | rfl <;> rfl) (Nat.le_of_ble_eq_true rfl) (Nat.le_of_ble_eq_true rfl) d_W_law_13 (fun qm H hP hD hS => ?_)
  refine lv_dup hx hb d_W_law_16 rfl ?_
  refine lv_aload_n hx hb d_W_law_17 rfl (lv_at hl 1 rfl) ?_
  refine lv_iconst (v := 0) hx hb d_W_law_18 (by decide) ?_
  refine ce_S (rest := [.ref qm, .ref qm]) C0 hX hbl hbA hS hL wd_697 ⟨wd_708, wd_709, wd_582⟩ ⟨Nat.le_of_ble_eq_true rfl, Nat.le_of_ble_eq_true rfl⟩ hl rfl (Nat.le_of_ble_eq_true rfl) ⟨Nat.le_of_ble_eq_true rfl, Nat.le_of_ble_eq_true rfl⟩ d_W_law_19 ?_
  rw [← ex0]
  refine ct_I (n := 1) (As := [.int x0]) (rest := [.ref qm]) (wr := wL cI cZ a q σ) (k0 := 20) (w := fun a q (u : StM) => wM cI cZ a q u) (u0 := rM.2) C0 hA (c_M_init l D cI cZ qm x0 hfM) wd_699 ⟨wd_706, wd_707, wd_352⟩ (by decide +kernel) rfl ⟨Nat.le_of_ble_eq_true rfl, Nat.le_of_ble_eq_true rfl⟩ hP hD hS [21] [0, 1, 2, 3, 4, 5, 6, 7, 8, 9, 10, 11, 12, 13, 14, 15, 16, 17, 18, 19, 20] jw_C (by decide) jw_R (by decide) (by decide) hl rfl rfl (Nat.le_of_ble_eq_true rfl) ⟨Nat.le_of_ble_eq_true rfl, Nat.le_of_ble_eq_true rfl⟩ d_W_law_22 (fun H2 locs2 aM qM ha hP3 hD3 hS3 => ?_)
  subst ha
  clear hP hD hS
  have hP := hP3
  have hD := hD3
  have hS := hS3
  refine lv_astore_n (lv' := [(2, .ref (aM 20)), (1, .ref (a 0)), (0, .ref b)]) hx hb d_W_law_25 rfl hl (by decide) rfl (fun ls hl => ?_)
  refine lv_iconst (v := 1) hx hb d_W_law_26 (by decide) ?_
  refine va_newa (n := 1) (N' := 1) (atype := .long) (ty := .long) (a0 := (1, .inr (.inl (fun _ => 0)))) hx hb (hts _ wd_arrJ) rfl hKO.2.1 hP hD hS hA (fun cA => rfl) (by decide) (by decide) (Nat.le_of_ble_eq_true rfl) (Nat.le_of_ble_eq_true rfl) (Nat.le_of_ble_eq_true rfl) d_W_law_27 (fun bo cA H hK2 hP hD hS => ?_)
  have e1 : cA = cJ := by
    have h1 := (hKO.2.1.2 0 _ rfl).2
    have h2 := (hK2.2 1 (cA, .long) rfl).2
    exact Option.some.inj (h2.symm.trans h1)
  subst e1
  have hP2 := hP.pick [0, 1, 2, 3, 4, 5, 6, 7, 8, 9, 10, 11, 12, 13, 14, 15, 16, 17, 18, 19, 20, 45, 21, 22, 23, 24, 25, 26, 27, 28, 29, 30, 31, 32, 33, 34, 35, 36, 37, 38, 39, 40, 41, 42, 43, 44] (jw_P (cJ := cA) (bo := bo) (f := fun _ => 0))
  have hD2 := hD.sub [0, 1, 2, 3, 4, 5, 6, 7, 8, 9, 10, 11, 12, 13, 14, 15, 16, 17, 18, 19, 20, 45, 21, 22, 23, 24, 25, 26, 27, 28, 29, 30, 31, 32, 33, 34, 35, 36, 37, 38, 39, 40, 41, 42, 43, 44] (by decide) (jw_P (cJ := cA) (bo := bo) (f := fun _ => 0))
  refine lv_astore_n (lv' := [(3, .ref bo), (2, .ref (aM 20)), (1, .ref (a 0)), (0, .ref b)]) hx hb d_W_law_29 rfl hl (by decide) rfl (fun ls hl => ?_)
  refine lv_iconst (v := nI 1) hx hb d_W_law_30 (by decide) ?_
  refine lv_istore (lv' := [(4, .int (nI 1)), (3, .ref bo), (2, .ref (aM 20)), (1, .ref (a 0)), (0, .ref b)]) hx hb d_W_law_31 hl (by decide) rfl (fun ls hl => ?_)
  exact law_loop C0 hl0 hKO hZ hX hbl hL 600 1 0 13 1 16 q qM (σ, fun _ => 0) rM.2 wC0 1 wT0 rfl (by omega) (by omega) hkL kM0 (RW_0 hd2) hRL (R0_M x0 hd2 hdx rM hfM) _ _ (by show _ ≤ 46 + 0 + (T_parts (L_types σ)).1; rw [hlen]; decide) (by show _ ≤ 131207 + 6 * 0 + 2 * (T_parts (L_types σ)).1; rw [hlen]; decide) H _ hP2 hD2 hS ls (lv_sub hl [4, 3, 2, 1, 0] rfl)
