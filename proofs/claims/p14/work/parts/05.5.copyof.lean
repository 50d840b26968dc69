/-! Own rows: Arrays.copyOf(int[], int) where the length changes. -/
abbrev wN (cI : ClassId) (ln : Nat) (f : Nat → Int32) (n : Int32) (qn : Nat) : va_W := [(qn, .inl (cI, n.toNatClampNeg, .inl (J_copyOf f ln n)))]
theorem cp_min {ln : Nat} {n : Int32} (hln : ln < 2 ^ 31) (hn : ¬ n < 0) : (if n < Int32.ofNat ln then n else Int32.ofNat ln).toNatClampNeg = min ln n.toNatClampNeg := by
  obtain ⟨j, hj, rfl⟩ := nI_of hn
  show (if nI j < nI ln then nI j else nI ln).toNatClampNeg = _
  by_cases h : nI j < nI ln
  · rw [if_pos h, nI_clamp hj]
    have := (nI_ltI hj hln).mp h
    omega
  · rw [if_neg h, nI_clamp hj, nI_clamp hln]
    have : ¬ j < ln := fun z => h ((nI_ltI hj hln).mpr z)
    omega
theorem cp_pos {ln : Nat} {n : Int32} (hln : ln < 2 ^ 31) (hn : ¬ n < 0) : ¬ (if n < Int32.ofNat ln then n else Int32.ofNat ln) < 0 := by
  by_cases h : n < Int32.ofNat ln
  · rw [if_pos h]; exact hn
  · rw [if_neg h]; exact nI_pos hln
set_option maxHeartbeats 4000000 in
set_option maxRecDepth 100000 in
theorem c_J_copyOf (l : Launch) (D : va_G) (cI cZ : ClassId) (b ln : Nat) (f : Nat → Int32) (n : Int32) (hln : ln < 2 ^ 31) (hn : ¬ n < 0) (hne : ¬ n = Int32.ofNat ln) (hby : n.toNatClampNeg * componentBytes .int ≤ 536870912) :
    ∀ sz, Met l y_J_copyOf (Cond.code y_J_copyOf b_J_copyOf 3 (some (.array .int)) :: tb) (rmK 1 60 1 n.toNatClampNeg) (RwP D [(cI, .int), (cZ, .boolean)] [.ref b, .int n] (fun q f => wF cI b ln q f) 0 f sz)
      (va_Qr (fun _ : Unit => True) (fun _ qn t => va_P D vwCl [(b, .inl (cI, ln, .inl f)), (qn, .inl (cI, n.toNatClampNeg, .inl (J_copyOf f ln n)))] t.heap ∧ va_D (va_A (wF cI b ln 0 f) sz) [(b, .inl (cI, ln, .inl f)), (qn, .inl (cI, n.toNatClampNeg, .inl (J_copyOf f ln n)))]) (va_A (wF cI b ln 0 f) sz)) 1 n.toNatClampNeg (va_A (wF cI b ln 0 f) sz) := by
  intro sz
  refine Met.ofW (cc := b_J_copyOf) (maxL := 3) (ret := some (.array .int)) (by decide) rfl ?_
  intro p e s m args below meth c s₁ B hml hv
  obtain ⟨rfl, hsz, hP, hK, hD0⟩ := hv
  subst hsz
  have hts0 := atoms_spec (ws := Cond.code y_J_copyOf b_J_copyOf 3 (some (.array .int)) :: tb) B.pre
  have hl := lv_entry [.ref b, .int n] (n := 3) (Nat.le_of_ble_eq_true rfl)
  rw [lg_entry_eq]
  generalize (lg_sl [.ref b, .int n] ++ List.replicate (3 - (lg_sl [.ref b, .int n]).length) Slot.unset).toArray = ls at hl ⊢
  have hl : lv_has ls 3 [(0, .ref b), (1, .int n)] := hl
  have C0 : Am p s m [.ref b, .int n].toArray meth c b_J_copyOf (some (.array .int)) 3 "java/util/Arrays" D [(cI, .int), (cZ, .boolean)] := ⟨B.exec, B.bytes, B.returns, hml, findClass_of_methodNamed B.named, fun w h => hts0 w (List.mem_cons_of_mem _ h), B.notSynchronized, hK⟩
  obtain ⟨hx, hb, hr, hml, hown, hts, hlk, hK⟩ := id C0
  have hD := hD0.self (sz := s.heap.size)
  have hS : va_S (va_A (wF cI b ln 0 f) s.heap.size) s.heap s.heap [] := va_S.rf
  have hA : ∀ q, s.heap.size ≤ q → va_A (wF cI b ln 0 f) s.heap.size q := fun q h => Or.inr h
  refine lv_iload_n hx hb d_J_copyOf_0 rfl (lv_at hl 1 rfl) ?_
  refine lv_aload_n hx hb d_J_copyOf_1 rfl (lv_at hl 0 rfl) ?_
  refine va_alen hx hb hK.1 hP 0 0 rfl rfl rfl d_J_copyOf_2 ?_
  refine lv_icmp_ne (tgt := 14) hx hb d_J_copyOf_3 (by decide) (fun hc => ?_) (fun hc => absurd hc hne)
  refine lv_iload_n hx hb d_J_copyOf_14 rfl (lv_at hl 1 rfl) ?_
  refine mk_int C0 0 rfl wd_arrI hP hD hS hA hn rfl hby (by show 0 + 1 ≤ 1; omega) (by show 0 + n.toNatClampNeg ≤ n.toNatClampNeg; omega) d_J_copyOf_15 (fun q H hP hD hS => ?_)
  refine lv_astore_n (lv' := [(2, .ref q), (0, .ref b), (1, .int n)]) hx hb d_J_copyOf_17 rfl hl (by decide) rfl (fun ls hl => ?_)
  refine lv_aload_n hx hb d_J_copyOf_18 rfl (lv_at hl 1 rfl) ?_
  refine lv_iconst (v := 0) hx hb d_J_copyOf_19 (by decide) ?_
  refine lv_aload_n hx hb d_J_copyOf_20 rfl (lv_at hl 0 rfl) ?_
  refine lv_iconst (v := 0) hx hb d_J_copyOf_21 (by decide) ?_
  refine lv_aload_n hx hb d_J_copyOf_22 rfl (lv_at hl 1 rfl) ?_
  refine va_alen hx hb hK.1 hP 0 0 rfl rfl rfl d_J_copyOf_23 ?_
  refine lv_iload_n hx hb d_J_copyOf_24 rfl (lv_at hl 2 rfl) ?_
  refine va_mmin hx hb (hml.trans hl.1.symm) hown (hts _ wd_jmin) (hts _ wd_minS) (hts _ wd_minI) (hts _ wd_minC) (Nat.le_of_ble_eq_true rfl) (Nat.le_of_ble_eq_true rfl) (by show 0 + 1 ≤ 1; omega) (by show 0 + n.toNatClampNeg ≤ n.toNatClampNeg; omega) d_J_copyOf_25 ?_
  have hi : ¬ ((0 : Int32) < 0 ∨ (0 : Int32) < 0 ∨ (if n < Int32.ofNat ln then n else Int32.ofNat ln) < 0 ∨ ln < (0 : Int32).toNatClampNeg + (if n < Int32.ofNat ln then n else Int32.ofNat ln).toNatClampNeg ∨ n.toNatClampNeg < (0 : Int32).toNatClampNeg + (if n < Int32.ofNat ln then n else Int32.ofNat ln).toNatClampNeg) := by
    rw [cp_min hln hn]
    have z0 : (0 : Int32).toNatClampNeg = 0 := rfl
    rintro (h | h | h | h | h)
    · exact absurd h (by decide)
    · exact absurd h (by decide)
    · exact cp_pos hln hn h
    · omega
    · omega
  refine rw_copy C0 hl hP hD hS 0 1 0 0 rfl rfl rfl rfl hi (hts _ wd_jcpy) (hts _ wd_cpyN) (hts _ wd_cpyS) (hts _ wd_cpyI) (Nat.le_of_ble_eq_true rfl) (Nat.le_of_ble_eq_true rfl) d_J_copyOf_28 rfl (fun H locs hP hD hS => ?_)
  refine lv_aload_n hx hb d_J_copyOf_31 rfl (lv_at hl 0 rfl) ?_
  rw [cp_min hln hn] at hP hD
  refine W.widen (k := 1) (n := n.toNatClampNeg) (by omega) (by omega) ?_
  exact W.aret hx hb hr (Or.inr ⟨_, rfl⟩) (Or.inr ⟨q, rfl⟩) (fun t ht _ => ⟨⟨(), q, rfl, trivial, by rw [ht]; exact hP, hD⟩, hS.F ht⟩) hS.2.2 d_J_copyOf_32 hlk
section CO
variable {p : Program} {l : Launch} {e : Env} {R : Room} {s : State} {m : MethodId} {args : Array Value} {below : List Frame} {meth : Method} {c : Code} {H : Heap} {locs : List Loc} {cells slots : Nat} {Q : State → Prop}
variable {cc : ByteArray} {pc : Nat} {ls : Array Slot} {rest st : List Value} {D : va_G} {cI cZ : ClassId} {ret0 : Option FieldType} {nL : Nat} {own : String} {lv : List (Nat × Value)} {A : Nat → Prop} {ws : va_W} {b : Addr}
theorem tx_copyOf {ln idx : Nat} {f : Nat → Int32} {n : Int32} (C0 : Am p s m args meth c cc ret0 nL own D [(cI, .int), (cZ, .boolean)]) (hA : ∀ q, s.heap.size ≤ q → A q) (hi : ¬ (n < 0 ∨ n = Int32.ofNat ln ∨ 134217728 < n.toNatClampNeg ∨ 2147483648 ≤ ln)) (hlk : Cond.methodLink own idx y_J_copyOf ∈ tb)
    (hR : 1 + 1 ≤ R.frames ∧ 8 + (3 + 11) + 60 ≤ R.locals) (hP : va_P D vwCl ws H) (hD : va_D A ws) (hS : va_S A s.heap H locs)
    (isC isR pm : List Nat) (hC : isC.map (fun i => ws[i]?) = (wF cI b ln 0 f).map some) (hCd : va_nd isC = true) (hRr : isR.map (fun i => ws[i]?) = (isR.filterMap (fun i => ws[i]?)).map some) (hnd : va_nd isR = true) (hdis : ∀ i ∈ isR, i ∉ isC) (hpm : va_nd pm = true)
    (hW : ∀ qn : Nat, pm.map (fun i => (isR.filterMap (fun i => ws[i]?) ++ (wF cI b ln 0 f ++ wN cI ln f n qn))[i]?) = (ws ++ wN cI ln f n qn).map some)
    (hl : lv_has ls nL lv) (hst : st = .int n :: .ref b :: rest)
    (hr : (rest.map fun v => v.category).sum ≤ 8) (hcs : cells + 1 ≤ R.cells ∧ slots + n.toNatClampNeg ≤ R.slots) (hdg : decode cc pc = .ok (.invokestatic idx, 3))
    (kk : ∀ (H1 : Heap) (locs1 : List Loc) (qn : Nat), va_P D vwCl (ws ++ wN cI ln f n qn) H1 → va_D A (ws ++ wN cI ln f n qn) → va_S A s.heap H1 locs1 → W p l e R s m args below meth c H1 locs1 (cells + 1) (slots + n.toNatClampNeg) Q (F0 m (pc + 3) ls (.ref qn :: rest))) : W p l e R s m args below meth c H locs cells slots Q (F0 m pc ls st) := by
  obtain ⟨hx, hb, hr0, hml, hown, hts, hlk0, hK⟩ := C0
  simp only [not_or] at hi
  obtain ⟨i1, i2, i3, i4⟩ := hi
  have cw : CallB R s args own idx y_J_copyOf b_J_copyOf 3 (some (.array .int)) (Cond.code y_J_copyOf b_J_copyOf 3 (some (.array .int)) :: tb) (rmK 1 60 1 n.toNatClampNeg) 1 n.toNatClampNeg 2 ∧ (Cond.static y_J_copyOf).before args s = true :=
    ⟨callB_of 2 hts (gdIn wd_coC) rfl rfl rfl (hts _ wd_coI) (hts _ hlk) (by decide +kernel) hR, hts _ wd_coS⟩
  have hPc := hP.pick isC hC
  have hDc := hD.sub isC hCd hC
  have hFc := va_free hD hS hA isC hC
  have hby : n.toNatClampNeg * componentBytes .int ≤ 536870912 := by
    show n.toNatClampNeg * 4 ≤ 536870912
    omega
  refine va_callr (va_runS (As := [.ref b, .int n]) (rest := rest) ⟨hx, hb, hml, hown, hts⟩ (c_J_copyOf l D cI cZ b ln f n (by omega) i1 i2 hby H.size) cw ⟨fun a U g mk h => ⟨h.1, h.2.1, h.2.2.1, KN.calling g mk a h.2.2.2.1, h.2.2.2.2⟩, fun U hU hW => ⟨rfl, by rw [hU], by rw [hU]; exact hPc, KN.warm hW hK, hDc.weaken (fun _ _ _ _ => trivial)⟩⟩ rfl rfl hl.1 hst (lv_room hr) hdg hcs) hS (fun q _ h => hFc q h) hFc (fun u qn t H1 locs1 ht hvm hw hB hz1 hk1 hS1 => ?_)
  obtain ⟨hP1, hD1⟩ := hB
  rw [ht] at hP1
  obtain ⟨hP2, hD2⟩ := va_join hP hD isC isR hC hRr hnd hdis hk1 hFc hP1 hD1
  exact kk H1 locs1 qn (hP2.pick pm (hW qn)) (hD2.sub pm hpm (hW qn)) hS1
end CO
