/-! Own rows: methods that throw, or make cells. -/
def exN : Nat → String
  | 1 => "java/lang/IndexOutOfBoundsException"
  | 2 => "java/lang/IllegalStateException"
  | _ => "java/lang/IllegalArgumentException"
abbrev Zs (A : Nat → Prop) (U : State) (H : Heap) : Prop := vx_Zq Bundle.tN "UNASSIGNED_STACK" Bundle.steD A U H ∧ vx_Zq Bundle.tN "SUPPRESSED_SENTINEL" Bundle.listD A U H
theorem Zs.calling {A : Nat → Prop} {U : State} (g : JFrame) (mk : MethodId) (a : Array Value) (h : Zs A U U.heap) : Zs A (U.calling g mk a) (U.calling g mk a).heap :=
  ⟨vx_Zq.moved (u := U) (U := U.calling g mk a) (Vm.Alike.refl U.vm) h.1, vx_Zq.moved (u := U) (U := U.calling g mk a) (Vm.Alike.refl U.vm) h.2⟩
section TX
variable {p : Program} {l : Launch} {e : Env} {R : Room} {s : State} {m : MethodId} {args : Array Value} {below : List Frame} {meth : Method} {c : Code} {H : Heap} {locs : List Loc} {cells slots : Nat} {Q : State → Prop}
variable {cc : ByteArray} {pc : Nat} {ls : Array Slot} {rest st : List Value} {D : va_G} {ty : List (ClassId × FieldType)} {ret0 : Option FieldType} {nL : Nat} {own : String} {lv : List (Nat × Value)} {A : Nat → Prop} {ws : va_W} {b : Addr}
abbrev TxP {S : Type} (D : va_G) (ty : List (ClassId × FieldType)) (av : List Value) (w : Nat → S → va_W) (q : Nat) (σ : S) (sz : Nat) : Array Value → State → Prop :=
  va_Pc av (fun U => U.heap.size = sz ∧ va_P D vwCl (w q σ) U.heap ∧ KN D ty U ∧ va_D (fun _ => True) (w q σ) ∧ Zs (va_A (w q σ) sz) U U.heap)
abbrev TxX {S : Type} (D : va_G) (A : Nat → Prop) (w : Nat → S → va_W) (v : Int32 ⊕ Nat) (u : S) : String → State → State → Prop :=
  vx_X (fun u' => u' = u) (fun E u' t => (∃ k, v = .inr k ∧ E = exN k) ∧ atW D A w u' t) A
/-- a method that may throw and may make cells: res is its end, the state behind it, and how many cells and slots are new -/
abbrev TxM {S : Type} (l : Launch) (y : MethodName) (cc : ByteArray) (nL : Nat) (ret : Option FieldType) (fr lc : Nat) (D : va_G) (ty : List (ClassId × FieldType)) (av : List Value) (w : Nat → S → va_W) (q : Nat) (σ : S) (res : (Int32 ⊕ Nat) × S × Nat × Nat) : Prop :=
  ∀ sz, vx_Met l y (Cond.code y cc nL ret :: tb) (rmK fr lc res.2.2.1 res.2.2.2) (TxP D ty av w q σ sz) (va_Qi (fun r u => res.1 = .inl r ∧ u = res.2.1) (atW D (va_A (w q σ) sz) w) (va_A (w q σ) sz)) (TxX D (va_A (w q σ) sz) w res.1 res.2.1) res.2.2.1 res.2.2.2 (va_A (w q σ) sz)
abbrev TxMv {S : Type} (l : Launch) (y : MethodName) (cc : ByteArray) (nL : Nat) (fr lc : Nat) (D : va_G) (ty : List (ClassId × FieldType)) (av : List Value) (w : Nat → S → va_W) (q : Nat) (σ : S) (res : (Int32 ⊕ Nat) × S × Nat × Nat) : Prop :=
  ∀ sz, vx_Met l y (Cond.code y cc nL none :: tb) (rmK fr lc res.2.2.1 res.2.2.2) (TxP D ty av w q σ sz) (va_Qv (fun u => res.1 = .inl 0 ∧ u = res.2.1) (atW D (va_A (w q σ) sz) w) (va_A (w q σ) sz)) (TxX D (va_A (w q σ) sz) w res.1 res.2.1) res.2.2.1 res.2.2.2 (va_A (w q σ) sz)
abbrev TxQ {S : Type} (below : List Frame) (args : Array Value) (s : State) (D : va_G) (A : Nat → Prop) (w : Nat → S → va_W) (v : Int32 ⊕ Nat) (u : S) (K N : Nat) : State → Prop := vx_MQ below (va_Qi (fun r u' => v = .inl r ∧ u' = u) (atW D A w) A) (TxX D A w v u) args s K N A
abbrev TxQv {S : Type} (below : List Frame) (args : Array Value) (s : State) (D : va_G) (A : Nat → Prop) (w : Nat → S → va_W) (v : Int32 ⊕ Nat) (u : S) (K N : Nat) : State → Prop := vx_MQ below (va_Qv (fun u' => v = .inl 0 ∧ u' = u) (atW D A w) A) (TxX D A w v u) args s K N A
theorem tx_of {S : Type} {y : MethodName} {ret : Option FieldType} {fr lc : Nat} {av : List Value} {w : Nat → S → va_W} {q : Nat} {σ : S} {res : (Int32 ⊕ Nat) × S × Nat × Nat} (hy : plainName y.cls = true) (hlen : (lg_sl av).length ≤ nL)
    (body : ∀ (p : Program) (e : Env) (s : State) (m : MethodId) (args : Array Value) (below : List Frame) (meth : Method) (c : Code) (ls : Array Slot) (A : Nat → Prop), Am p s m args meth c cc ret nL y.cls D ty → (∀ q, s.heap.size ≤ q → A q) → (∀ x ∈ c.exceptionTable.toList, False) → Zs A s s.heap → va_P D vwCl (w q σ) s.heap → va_D A (w q σ) → va_S A s.heap s.heap [] → lv_has ls nL (lv_args 0 av) → W p l e (rmK fr lc res.2.2.1 res.2.2.2) s m args below meth c s.heap [] 0 0 (TxQ below args s D A w res.1 res.2.1 res.2.2.1 res.2.2.2) (F0 m 0 ls [])) : TxM l y cc nL ret fr lc D ty av w q σ res := by
  intro sz
  refine vx_ofW (cc := cc) (maxL := nL) (ret := ret) hy rfl ?_
  intro p e s m args below meth c s₁ B hml hT hv
  obtain ⟨rfl, hsz, hP, hK, hD0, hZ⟩ := hv
  subst hsz
  have hts := atoms_spec (ws := Cond.code y cc nL ret :: tb) B.pre
  have hl := lv_entry av (n := nL) hlen
  rw [lg_entry_eq]
  exact body p e s m av.toArray below meth c _ _ ⟨B.exec, B.bytes, B.returns, hml, findClass_of_methodNamed B.named, fun w h => hts w (List.mem_cons_of_mem _ h), B.notSynchronized, hK⟩ (fun q h => Or.inr h) hT hZ hP (hD0.self (sz := s.heap.size)) va_S.rf hl
theorem tx_ofv {S : Type} {y : MethodName} {fr lc : Nat} {av : List Value} {w : Nat → S → va_W} {q : Nat} {σ : S} {res : (Int32 ⊕ Nat) × S × Nat × Nat} (hy : plainName y.cls = true) (hlen : (lg_sl av).length ≤ nL)
    (body : ∀ (p : Program) (e : Env) (s : State) (m : MethodId) (args : Array Value) (below : List Frame) (meth : Method) (c : Code) (ls : Array Slot) (A : Nat → Prop), Am p s m args meth c cc none nL y.cls D ty → (∀ q, s.heap.size ≤ q → A q) → (∀ x ∈ c.exceptionTable.toList, False) → Zs A s s.heap → va_P D vwCl (w q σ) s.heap → va_D A (w q σ) → va_S A s.heap s.heap [] → lv_has ls nL (lv_args 0 av) → W p l e (rmK fr lc res.2.2.1 res.2.2.2) s m args below meth c s.heap [] 0 0 (TxQv below args s D A w res.1 res.2.1 res.2.2.1 res.2.2.2) (F0 m 0 ls [])) : TxMv l y cc nL fr lc D ty av w q σ res := by
  intro sz
  refine vx_ofW (cc := cc) (maxL := nL) (ret := none) hy rfl ?_
  intro p e s m args below meth c s₁ B hml hT hv
  obtain ⟨rfl, hsz, hP, hK, hD0, hZ⟩ := hv
  subst hsz
  have hts := atoms_spec (ws := Cond.code y cc nL none :: tb) B.pre
  have hl := lv_entry av (n := nL) hlen
  rw [lg_entry_eq]
  exact body p e s m av.toArray below meth c _ _ ⟨B.exec, B.bytes, B.returns, hml, findClass_of_methodNamed B.named, fun w h => hts w (List.mem_cons_of_mem _ h), B.notSynchronized, hK⟩ (fun q h => Or.inr h) hT hZ hP (hD0.self (sz := s.heap.size)) va_S.rf hl
theorem tx_ret {S : Type} {w : Nat → S → va_W} {q : Nat} {σ : S} {v : Int32} {K N : Nat} (C0 : Am p s m args meth c cc (some .int) nL own D ty) (hP : va_P D vwCl (w q σ) H) (hD : va_D A (w q σ)) (hS : va_S A s.heap H locs) (hc : cells ≤ K) (hs : slots ≤ N) (hdg : decode cc pc = .ok (.ireturn, 1)) :
    W p l e R s m args below meth c H locs cells slots (TxQ below args s D A w (.inl v) σ K N) (F0 m pc ls [.int v]) := by
  obtain ⟨hx, hb, hr, hml, hown, hts, hlk, hK⟩ := C0
  exact W.widen hc hs (vx_ret (W.iret (v := v) hx hb hr (fun t ht _ => ⟨⟨v, σ, rfl, ⟨rfl, rfl⟩, q, by rw [ht]; exact hP, hD⟩, hS.F ht⟩) hS.2.2 hdg hlk))
theorem tx_retz {S : Type} {w : Nat → S → va_W} {q : Nat} {σ : S} {v v' : Int32} {K N : Nat} (C0 : Am p s m args meth c cc (some .boolean) nL own D ty) (hP : va_P D vwCl (w q σ) H) (hD : va_D A (w q σ)) (hS : va_S A s.heap H locs) (hw : v &&& 1 = v') (hc : cells ≤ K) (hs : slots ≤ N) (hdg : decode cc pc = .ok (.ireturn, 1)) :
    W p l e R s m args below meth c H locs cells slots (TxQ below args s D A w (.inl v') σ K N) (F0 m pc ls [.int v]) := by
  obtain ⟨hx, hb, hr, hml, hown, hts, hlk, hK⟩ := C0
  exact W.widen hc hs (vx_ret (zret_ (v := v) hx hb hr hw (fun t ht _ => ⟨⟨v', σ, rfl, ⟨rfl, rfl⟩, q, by rw [ht]; exact hP, hD⟩, hS.F ht⟩) hS.2.2 hdg hlk))
theorem tx_retv {S : Type} {w : Nat → S → va_W} {q : Nat} {σ : S} {K N : Nat} (C0 : Am p s m args meth c cc none nL own D ty) (hP : va_P D vwCl (w q σ) H) (hD : va_D A (w q σ)) (hS : va_S A s.heap H locs) (hc : cells ≤ K) (hs : slots ≤ N) (hdg : decode cc pc = .ok (.return_, 1)) :
    W p l e R s m args below meth c H locs cells slots (TxQv below args s D A w (.inl 0) σ K N) (F0 m pc ls []) := by
  obtain ⟨hx, hb, hr, hml, hown, hts, hlk, hK⟩ := C0
  exact W.widen hc hs (vx_ret (W.vret hx hb hr (fun t ht _ => ⟨⟨σ, rfl, ⟨rfl, rfl⟩, q, by rw [ht]; exact hP, hD⟩, hS.F ht⟩) hS.2.2 hdg hlk))
theorem tx_out {S : Type} {w : Nat → S → va_W} {q : Nat} {σ : S} {k K N : Nat} {ce : Cell} {q9 : Addr} {Qc : Array Value → State → Outcome → State → Prop} (C0 : Am p s m args meth c cc ret0 nL own D ty) (hT : ∀ x ∈ c.exceptionTable.toList, False) (hP : va_P D vwCl (w q σ) H) (hD : va_D A (w q σ)) (hS : va_S A s.heap H locs) (h1 : H[q9]? = some ce) (h2 : ce.vm = .none) (h3 : s.vm.findClass (exN k) = some ce.cls) (hc : cells ≤ K) (hs : slots ≤ N) :
    vx_W p l e R s m args below meth c H locs cells slots (vx_MQ below Qc (TxX D A w (.inr k) σ) args s K N A) (F0 m pc ls rest) q9 :=
  vx_out (fun x hx => (hT x hx).elim) C0.2.2.2.2.2.2.1 h1 h2 h3 (fun t ht _ => ⟨σ, rfl, ⟨⟨k, rfl, rfl⟩, q, by rw [ht]; exact hP, hD⟩, hS.F ht⟩) hS.2.2 hc hs
/-- invokevirtual of a method that may throw -/
theorem tx_V {S : Type} {w : Nat → S → va_W} {qc : Nat} {σc : S} {res : (Int32 ⊕ Nat) × S × Nat × Nat} {y : MethodName} {ccy : ByteArray} {nLy : Nat} {ret : Option FieldType} {fr lc idx n ci : Nat} {As : List Value} {q : vw_C} {fs : List Value} {Wn : Nat → va_W}
    (C0 : Am p s m args meth c cc ret0 nL own D ty) (hA : ∀ q, s.heap.size ≤ q → A q) (hZ : Zs A s s.heap) (hM : TxM l y ccy nLy ret fr lc D ty (.ref b :: As) w qc σc res) (hlk : Cond.methodLink own idx y ∈ tb) (wd : wdV y ccy nLy ret) (hy : plainY y n)
    (hR : fr + 1 ≤ R.frames ∧ 8 + (nLy + 11) + lc ≤ R.locals) (hP : va_P D vwCl ws H) (hD : va_D A ws) (hS : va_S A s.heap H locs)
    (isC isR pm : List Nat) (hC : isC.map (fun i => ws[i]?) = (w qc σc).map some) (hCd : va_nd isC = true) (hRr : isR.map (fun i => ws[i]?) = (isR.filterMap (fun i => ws[i]?)).map some) (hnd : va_nd isR = true) (hdis : ∀ i ∈ isR, i ∉ isC) (hpm : va_nd pm = true) (hW : ∀ q1, pm.map (fun i => (isR.filterMap (fun i => ws[i]?) ++ w q1 res.2.1)[i]?) = (Wn q1).map some)
    (hc : vwCl[ci]? = some q) (hq : q.1 = y.cls) (he : (w qc σc)[0]? = some (b, .inr (ci, fs))) (hl : lv_has ls nL lv) (hn : As.length = n) (hst : st = As.reverse ++ .ref b :: rest)
    (hr : (rest.map fun v => v.category).sum ≤ 8) (hcs : cells + res.2.2.1 ≤ R.cells ∧ slots + res.2.2.2 ≤ R.slots) (hdg : decode cc pc = .ok (.invokevirtual idx, 3))
    (kx : ∀ (k : Nat) (H1 : Heap) (locs1 : List Loc) (q1 : Nat) (q9 : Addr) (ce : Cell), res.1 = .inr k → va_P D vwCl (Wn q1) H1 → va_D A (Wn q1) → va_S A s.heap H1 locs1 → H1[q9]? = some ce → ce.vm = .none → s.vm.findClass (exN k) = some ce.cls → vx_W p l e R s m args below meth c H1 locs1 (cells + res.2.2.1) (slots + res.2.2.2) Q (F0 m pc ls rest) q9)
    (kk : ∀ (r : Int32) (H1 : Heap) (locs1 : List Loc) (q1 : Nat), res.1 = .inl r → va_P D vwCl (Wn q1) H1 → va_D A (Wn q1) → va_S A s.heap H1 locs1 → W p l e R s m args below meth c H1 locs1 (cells + res.2.2.1) (slots + res.2.2.2) Q (F0 m (pc + 3) ls (.int r :: rest))) : W p l e R s m args below meth c H locs cells slots Q (F0 m pc ls st) := by
  obtain ⟨hx, hb, hr0, hml, hown, hts, hlk0, hK⟩ := C0
  obtain ⟨w1, w2, w3, w4⟩ := wd
  have cw : CallW R s args own y.cls idx y ccy nLy ret (Cond.code y ccy nLy ret :: tb) (rmK fr lc res.2.2.1 res.2.2.2) res.2.2.1 res.2.2.2 n :=
    ⟨callB_of n hts (gdIn w1) rfl rfl rfl (hts _ w4) (hts _ hlk) hy hR, hts _ w2, hts _ w3⟩
  have hPc := hP.pick isC hC
  have hDc := hD.sub isC hCd hC
  have hFc := va_free hD hS hA isC hC
  have hZ1 : Zs (va_A (w qc σc) H.size) s H := ⟨(hZ.1.kept hS.2.1).narrow hFc, (hZ.2.kept hS.2.1).narrow hFc⟩
  refine vx_calli (vx_runV (As := As) (rest := rest) (C := y.cls) ⟨hx, hb, hml, hown, hts⟩ (hM H.size) cw ⟨fun a U g mk h => ⟨h.1, h.2.1, h.2.2.1, KN.calling g mk a h.2.2.2.1, h.2.2.2.2.1, Zs.calling g mk a h.2.2.2.2.2⟩, by rw [← hq]; exact va_recv hK.1 hPc hc he, fun U hU hW => ⟨rfl, by rw [hU], by rw [hU]; exact hPc, KN.warm hW hK, hDc.weaken (fun _ _ _ _ => trivial), by rw [hU]; exact ⟨hZ1.1.moved hW.alike, hZ1.2.moved hW.alike⟩⟩⟩ rfl hn hl.1 hst (lv_room hr) hdg hcs) hS (fun q _ h => hFc q h) hFc (fun q _ h => hFc q h) (fun E ce q9 u t H1 locs1 ht hvm hw hB hz1 hk1 hS1 g1 g2 g3 => ?_) (fun r u t H1 locs1 ht hvm hw hB hz1 hk1 hS1 => ?_)
  · obtain ⟨⟨k, hk, rfl⟩, q1, hP1, hD1⟩ := hB
    rw [ht] at hP1
    subst hw
    obtain ⟨hP2, hD2⟩ := va_join hP hD isC isR hC hRr hnd hdis hk1 hFc hP1 hD1
    exact kx k H1 locs1 q1 q9 ce hk (hP2.pick pm (hW q1)) (hD2.sub pm hpm (hW q1)) hS1 g1 g2 g3
  · obtain ⟨q1, hP1, hD1⟩ := hB
    rw [ht] at hP1
    obtain ⟨hv, rfl⟩ := hw
    obtain ⟨hP2, hD2⟩ := va_join hP hD isC isR hC hRr hnd hdis hk1 hFc hP1 hD1
    exact kk r H1 locs1 q1 hv (hP2.pick pm (hW q1)) (hD2.sub pm hpm (hW q1)) hS1
theorem tx_Vv {S : Type} {w : Nat → S → va_W} {qc : Nat} {σc : S} {res : (Int32 ⊕ Nat) × S × Nat × Nat} {y : MethodName} {ccy : ByteArray} {nLy : Nat} {fr lc idx n ci : Nat} {As : List Value} {q : vw_C} {fs : List Value} {Wn : Nat → va_W}
    (C0 : Am p s m args meth c cc ret0 nL own D ty) (hA : ∀ q, s.heap.size ≤ q → A q) (hZ : Zs A s s.heap) (hM : TxMv l y ccy nLy fr lc D ty (.ref b :: As) w qc σc res) (hlk : Cond.methodLink own idx y ∈ tb) (wd : wdV y ccy nLy none) (hy : plainY y n)
    (hR : fr + 1 ≤ R.frames ∧ 8 + (nLy + 11) + lc ≤ R.locals) (hP : va_P D vwCl ws H) (hD : va_D A ws) (hS : va_S A s.heap H locs)
    (isC isR pm : List Nat) (hC : isC.map (fun i => ws[i]?) = (w qc σc).map some) (hCd : va_nd isC = true) (hRr : isR.map (fun i => ws[i]?) = (isR.filterMap (fun i => ws[i]?)).map some) (hnd : va_nd isR = true) (hdis : ∀ i ∈ isR, i ∉ isC) (hpm : va_nd pm = true) (hW : ∀ q1, pm.map (fun i => (isR.filterMap (fun i => ws[i]?) ++ w q1 res.2.1)[i]?) = (Wn q1).map some)
    (hc : vwCl[ci]? = some q) (hq : q.1 = y.cls) (he : (w qc σc)[0]? = some (b, .inr (ci, fs))) (hl : lv_has ls nL lv) (hn : As.length = n) (hst : st = As.reverse ++ .ref b :: rest)
    (hr : (rest.map fun v => v.category).sum ≤ 8) (hcs : cells + res.2.2.1 ≤ R.cells ∧ slots + res.2.2.2 ≤ R.slots) (hdg : decode cc pc = .ok (.invokevirtual idx, 3))
    (kx : ∀ (k : Nat) (H1 : Heap) (locs1 : List Loc) (q1 : Nat) (q9 : Addr) (ce : Cell), res.1 = .inr k → va_P D vwCl (Wn q1) H1 → va_D A (Wn q1) → va_S A s.heap H1 locs1 → H1[q9]? = some ce → ce.vm = .none → s.vm.findClass (exN k) = some ce.cls → vx_W p l e R s m args below meth c H1 locs1 (cells + res.2.2.1) (slots + res.2.2.2) Q (F0 m pc ls rest) q9)
    (kk : ∀ (r : Int32) (H1 : Heap) (locs1 : List Loc) (q1 : Nat), res.1 = .inl r → va_P D vwCl (Wn q1) H1 → va_D A (Wn q1) → va_S A s.heap H1 locs1 → W p l e R s m args below meth c H1 locs1 (cells + res.2.2.1) (slots + res.2.2.2) Q (F0 m (pc + 3) ls rest)) : W p l e R s m args below meth c H locs cells slots Q (F0 m pc ls st) := by
  obtain ⟨hx, hb, hr0, hml, hown, hts, hlk0, hK⟩ := C0
  obtain ⟨w1, w2, w3, w4⟩ := wd
  have cw : CallW R s args own y.cls idx y ccy nLy none (Cond.code y ccy nLy none :: tb) (rmK fr lc res.2.2.1 res.2.2.2) res.2.2.1 res.2.2.2 n :=
    ⟨callB_of n hts (gdIn w1) rfl rfl rfl (hts _ w4) (hts _ hlk) hy hR, hts _ w2, hts _ w3⟩
  have hPc := hP.pick isC hC
  have hDc := hD.sub isC hCd hC
  have hFc := va_free hD hS hA isC hC
  have hZ1 : Zs (va_A (w qc σc) H.size) s H := ⟨(hZ.1.kept hS.2.1).narrow hFc, (hZ.2.kept hS.2.1).narrow hFc⟩
  refine vx_callv (vx_runV (As := As) (rest := rest) (C := y.cls) ⟨hx, hb, hml, hown, hts⟩ (hM H.size) cw ⟨fun a U g mk h => ⟨h.1, h.2.1, h.2.2.1, KN.calling g mk a h.2.2.2.1, h.2.2.2.2.1, Zs.calling g mk a h.2.2.2.2.2⟩, by rw [← hq]; exact va_recv hK.1 hPc hc he, fun U hU hW => ⟨rfl, by rw [hU], by rw [hU]; exact hPc, KN.warm hW hK, hDc.weaken (fun _ _ _ _ => trivial), by rw [hU]; exact ⟨hZ1.1.moved hW.alike, hZ1.2.moved hW.alike⟩⟩⟩ rfl hn hl.1 hst (lv_room hr) hdg hcs) hS (fun q _ h => hFc q h) hFc (fun q _ h => hFc q h) (fun E ce q9 u t H1 locs1 ht hvm hw hB hz1 hk1 hS1 g1 g2 g3 => ?_) (fun u t H1 locs1 ht hvm hw hB hz1 hk1 hS1 => ?_)
  · obtain ⟨⟨k, hk, rfl⟩, q1, hP1, hD1⟩ := hB
    rw [ht] at hP1
    subst hw
    obtain ⟨hP2, hD2⟩ := va_join hP hD isC isR hC hRr hnd hdis hk1 hFc hP1 hD1
    exact kx k H1 locs1 q1 q9 ce hk (hP2.pick pm (hW q1)) (hD2.sub pm hpm (hW q1)) hS1 g1 g2 g3
  · obtain ⟨q1, hP1, hD1⟩ := hB
    rw [ht] at hP1
    obtain ⟨hv, rfl⟩ := hw
    obtain ⟨hP2, hD2⟩ := va_join hP hD isC isR hC hRr hnd hdis hk1 hFc hP1 hD1
    exact kk 0 H1 locs1 q1 hv (hP2.pick pm (hW q1)) (hD2.sub pm hpm (hW q1)) hS1
end TX
