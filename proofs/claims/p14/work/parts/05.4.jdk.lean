/-! Own rows: System.arraycopy, Arrays.fill, Arrays.copyOf. -/
section JD
variable {p : Program} {l : Launch} {e : Env} {R : Room} {s : State} {m : MethodId} {args : Array Value} {below : List Frame} {meth : Method} {c : Code} {H : Heap} {locs : List Loc} {cells slots : Nat} {Q : State → Prop}
variable {cc : ByteArray} {pc : Nat} {ls : Array Slot} {rest st : List Value} {D : va_G} {ty : List (ClassId × FieldType)} {ret0 : Option FieldType} {nL : Nat} {own : String} {lv : List (Nat × Value)} {A : Nat → Prop} {ws : va_W} {b : Addr}
theorem rw_copy {Wn : va_W} {a0 a1 : Nat} {c0 c1 : ClassId} {n0 n1 index : Nat} {f g : Nat → Int32} {sp dp n : Int32} (C0 : Am p s m args meth c cc ret0 nL own D ty) (hl : lv_has ls nL lv) (hP : va_P D vwCl ws H) (hD : va_D A ws) (hS : va_S A s.heap H locs) (q0 q1 t0 t1 : Nat)
    (ha0 : ws[q0]? = some (a0, .inl (c0, n0, .inl f))) (ha1 : ws[q1]? = some (a1, .inl (c1, n1, .inl g))) (ht0 : ty[t0]? = some (c0, .int)) (ht1 : ty[t1]? = some (c1, .int))
    (hi : ¬ (sp < 0 ∨ dp < 0 ∨ n < 0 ∨ n0 < sp.toNatClampNeg + n.toNatClampNeg ∨ n1 < dp.toNatClampNeg + n.toNatClampNeg))
    (hlink : (Cond.methodLink own index arraycopyName).before args s = true) (hnat : (Cond.native arraycopyName).before args s = true) (hstat : (Cond.static arraycopyName).before args s = true) (hini : (Cond.initialized "java/lang/System").before args s = true)
    (hfr : 1 ≤ R.frames) (hlo : (rest.map fun v => v.category).sum + (nativeFrameWords "java/lang/System" "arraycopy" 5 + 11) ≤ R.locals) (hdg : decode cc pc = .ok (.invokestatic index, 3))
    (hW : ws.set q1 (a1, .inl (c1, n1, .inl (va_cpy f g sp.toNatClampNeg dp.toNatClampNeg n.toNatClampNeg))) = Wn)
    (kk : ∀ (H1 : Heap) (locs1 : List Loc), va_P D vwCl Wn H1 → va_D A Wn → va_S A s.heap H1 locs1 → W p l e R s m args below meth c H1 locs1 cells slots Q (F0 m (pc + 3) ls rest)) : W p l e R s m args below meth c H locs cells slots Q (F0 m pc ls (.int n :: .int dp :: .ref a1 :: .int sp :: .ref a0 :: rest)) := by
  obtain ⟨hx, hb, hr, hml, hown, hts, hlk, hK⟩ := C0
  subst hW
  simp only [not_or] at hi
  obtain ⟨h1, h2, h3, h4, h5⟩ := hi
  exact va_copyi hx hb (hml.trans hl.1.symm) hown hlink hnat hstat hini hK.1 hP hD hS q0 q1 t0 t1 ha0 ha1 ht0 ht1 rfl h1 h2 h3 (Nat.not_lt.mp h4) (Nat.not_lt.mp h5) (fun _ _ => rfl) hfr hlo hdg kk
/-- invokestatic of a method that writes -/
theorem rw_Sv {S : Type} {w : Nat → S → va_W} {qc : Nat} {σc : S} {res : Int32 × S} {y : MethodName} {ccy : ByteArray} {nLy : Nat} {fr lc idx n : Nat} {As : List Value} {Wn : Nat → va_W}
    (C0 : Am p s m args meth c cc ret0 nL own D ty) (hA : ∀ q, s.heap.size ≤ q → A q) (hM : RwMv l y ccy nLy fr lc D ty As w qc σc res) (hlk : Cond.methodLink own idx y ∈ tb) (wd : wdS y ccy nLy none) (hy : plainY y n)
    (hR : fr + 1 ≤ R.frames ∧ 8 + (nLy + 11) + lc ≤ R.locals) (hP : va_P D vwCl ws H) (hD : va_D A ws) (hS : va_S A s.heap H locs)
    (isC isR pm : List Nat) (hC : isC.map (fun i => ws[i]?) = (w qc σc).map some) (hCd : va_nd isC = true) (hRr : isR.map (fun i => ws[i]?) = (isR.filterMap (fun i => ws[i]?)).map some) (hnd : va_nd isR = true) (hdis : ∀ i ∈ isR, i ∉ isC) (hpm : va_nd pm = true) (hW : ∀ q1, pm.map (fun i => (isR.filterMap (fun i => ws[i]?) ++ w q1 res.2)[i]?) = (Wn q1).map some)
    (hl : lv_has ls nL lv) (hn : As.length = n) (hst : st = As.reverse ++ rest)
    (hr : (rest.map fun v => v.category).sum ≤ 8) (hcs : cells ≤ R.cells ∧ slots ≤ R.slots) (hdg : decode cc pc = .ok (.invokestatic idx, 3))
    (kk : ∀ (H1 : Heap) (locs1 : List Loc) (q1 : Nat), va_P D vwCl (Wn q1) H1 → va_D A (Wn q1) → va_S A s.heap H1 locs1 → W p l e R s m args below meth c H1 locs1 cells slots Q (F0 m (pc + 3) ls rest)) : W p l e R s m args below meth c H locs cells slots Q (F0 m pc ls st) := by
  obtain ⟨hx, hb, hr0, hml, hown, hts, hlk0, hK⟩ := C0
  obtain ⟨w1, w2, w3⟩ := wd
  have cw : CallB R s args own idx y ccy nLy none (Cond.code y ccy nLy none :: tb) (rmK fr lc 0 0) 0 0 n ∧ (Cond.static y).before args s = true :=
    ⟨callB_of n hts (gdIn w1) rfl rfl rfl (hts _ w3) (hts _ hlk) hy hR, hts _ w2⟩
  have hPc := hP.pick isC hC
  have hDc := hD.sub isC hCd hC
  have hFc := va_free hD hS hA isC hC
  refine va_callv (va_runS (As := As) (rest := rest) ⟨hx, hb, hml, hown, hts⟩ (hM H.size) cw ⟨fun a U g mk h => ⟨h.1, h.2.1, h.2.2.1, KN.calling g mk a h.2.2.2.1, h.2.2.2.2⟩, fun U hU hW => ⟨rfl, by rw [hU], by rw [hU]; exact hPc, KN.warm hW hK, hDc.weaken (fun _ _ _ _ => trivial)⟩⟩ rfl hn hl.1 hst (lv_room hr) hdg hcs) hS (fun q _ h => hFc q h) hFc (fun u t H1 locs1 ht hvm hw hB hz1 hk1 hS1 => ?_)
  obtain ⟨q1, hP1, hD1⟩ := hB
  rw [ht] at hP1
  cases hw
  obtain ⟨hP2, hD2⟩ := va_join hP hD isC isR hC hRr hnd hdis hk1 hFc hP1 hD1
  exact kk H1 locs1 q1 (hP2.pick pm (hW q1)) (hD2.sub pm hpm (hW q1)) hS1
end JD
abbrev wF (cI : ClassId) (b ln : Nat) (_ : Nat) (f : Nat → Int32) : va_W := [(b, .inl (cI, ln, .inl f))]
theorem fill_up (f : Nat → Int32) (v : Int32) (i : Nat) : upd (J_fill f i v) i v = J_fill f (i + 1) v := by
  funext j
  unfold upd J_fill
  by_cases h : j = i
  · subst h; simp
  · by_cases h2 : j < i
    · simp [h, h2, Nat.lt_succ_of_lt h2]
    · have h3 : ¬ j < i + 1 := by omega
      simp [h, h2, h3]
set_option maxHeartbeats 4000000 in
set_option maxRecDepth 100000 in
theorem t_J_fill_5 {p : Program} {l : Launch} {e : Env} {s : State} {m : MethodId} {args : Array Value} {below : List Frame} {meth : Method} {c : Code} {D : va_G} {cI cZ : ClassId} {A : Nat → Prop} {b ln : Nat} {f : Nat → Int32} {v : Int32} (C0 : Am p s m args meth c b_J_fill none 4 "java/util/Arrays" D [(cI, .int), (cZ, .boolean)]) (hln : ln < 2 ^ 31) :
    ∀ (n i : Nat) (H : Heap) (locs : List Loc) (ls : Array Slot), i + n = ln → va_P D vwCl (wF cI b ln 0 (J_fill f i v)) H → va_D A (wF cI b ln 0 (J_fill f i v)) → va_S A s.heap H locs → lv_has ls 4 [(0, .ref b), (1, .int v), (2, .int (nI i)), (3, .int (nI ln))] →
      W p l e (rmK 0 0 0 0) s m args below meth c H locs 0 0 (RwQv below args s D A (fun q f => wF cI b ln q f) (0, J_fill f ln v) 0 0) (F0 m 5 ls []) := by
  obtain ⟨hx, hb, hr, hml, hown, hts, hlk, hK⟩ := id C0
  intro n
  induction n with
  | zero =>
    intro i H locs ls hi hP hD hS hl
    have e1 : i = ln := by omega
    subst e1
    refine lv_iload_n hx hb d_J_fill_5 rfl (lv_at hl 2 rfl) ?_
    refine lv_iload_n hx hb d_J_fill_6 rfl (lv_at hl 3 rfl) ?_
    refine lv_icmp_ge (tgt := 20) hx hb d_J_fill_7 (by decide) (fun hc => ?_) (fun hc => absurd (nI_le (Nat.le_refl i) hln) hc)
    exact rw_retv (w := fun q f => wF cI b i q f) (q := 0) C0 hP hD hS rfl d_J_fill_20
  | succ n ih =>
    intro i H locs ls hi hP hD hS hl
    refine lv_iload_n hx hb d_J_fill_5 rfl (lv_at hl 2 rfl) ?_
    refine lv_iload_n hx hb d_J_fill_6 rfl (lv_at hl 3 rfl) ?_
    refine lv_icmp_ge (tgt := 20) hx hb d_J_fill_7 (by decide) (fun hc => absurd hc (nI_ge (by omega) hln)) (fun hc => ?_)
    refine lv_aload_n hx hb d_J_fill_10 rfl (lv_at hl 0 rfl) ?_
    refine lv_iload_n hx hb d_J_fill_11 rfl (lv_at hl 2 rfl) ?_
    refine lv_iload_n hx hb d_J_fill_12 rfl (lv_at hl 1 rfl) ?_
    have hin : vp_in (nI i) ln := vp_in_nI (by omega) hln
    refine rw_iast C0 hP hD hS 0 0 rfl rfl hin d_J_fill_13 (Wn := wF cI b ln 0 (J_fill f (i + 1) v)) (by rw [nI_clamp (by omega), fill_up]; rfl) (fun H locs hP hD hS => ?_)
    refine lv_iinc (v := nI (i + 1)) (lv' := [(2, .int (nI (i + 1))), (0, .ref b), (1, .int v), (3, .int (nI ln))]) hx hb d_J_fill_14 hl (k := 2) rfl (nI_1 i) (by decide) rfl (fun ls hl => ?_)
    refine lv_goto (tgt := 5) hx hb d_J_fill_17 (by decide) ?_
    exact ih (i + 1) H locs ls (by omega) hP hD hS (lv_sub hl [1, 2, 0, 3] rfl)
theorem fill_0 (f : Nat → Int32) (v : Int32) : J_fill f 0 v = f := by
  funext j; simp [J_fill]
set_option maxHeartbeats 4000000 in
set_option maxRecDepth 100000 in
/-- Arrays.fill(int[], int) -/
theorem c_J_fill (l : Launch) (D : va_G) (cI cZ : ClassId) (b ln : Nat) (f : Nat → Int32) (v : Int32) (hln : ln < 2 ^ 31) : RwMv l y_J_fill b_J_fill 4 0 0 D [(cI, .int), (cZ, .boolean)] [.ref b, .int v] (fun q f => wF cI b ln q f) 0 f (0, J_fill f ln v) :=
  rw_ofv (by decide) (Nat.le_of_ble_eq_true rfl) (fun p e s m args below meth c ls A C0 hA hP hD hS hl => by
    obtain ⟨hx, hb, hr, hml, hown, hts, hlk, hK⟩ := id C0
    refine lv_iconst (v := 0) hx hb d_J_fill_0 (by decide) ?_
    refine lv_istore_n (lv' := [(2, .int 0), (0, .ref b), (1, .int v)]) hx hb d_J_fill_1 rfl hl (by decide) rfl (fun ls hl => ?_)
    refine lv_aload_n hx hb d_J_fill_2 rfl (lv_at hl 1 rfl) ?_
    refine va_alen hx hb hK.1 hP 0 0 rfl rfl rfl d_J_fill_3 ?_
    refine lv_istore_n (lv' := [(3, .int (nI ln)), (2, .int 0), (0, .ref b), (1, .int v)]) hx hb d_J_fill_4 rfl hl (by decide) rfl (fun ls hl => ?_)
    have hP : va_P D vwCl (wF cI b ln 0 (J_fill f 0 v)) s.heap := by rw [fill_0]; exact hP
    have hD : va_D A (wF cI b ln 0 (J_fill f 0 v)) := by rw [fill_0]; exact hD
    exact t_J_fill_5 C0 hln ln 0 _ _ ls (by omega) hP hD hS (lv_sub hl [2, 3, 1, 0] rfl))
