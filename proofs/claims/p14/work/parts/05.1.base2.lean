/-! Own rows: methods that write. -/
theorem va_P.pick {D : va_G} {cl : List vw_C} {ws w1 : va_W} {H : Heap} (h : va_P D cl ws H) (is : List Nat) (hs : is.map (fun i => ws[i]?) = w1.map some) : va_P D cl w1 H := by
  intro k q hk
  have h1 : (is.map (fun i => ws[i]?))[k]? = some (some q) := by rw [hs, List.getElem?_map, hk]; rfl
  rw [List.getElem?_map] at h1
  cases hi : is[k]? with
  | none => rw [hi] at h1; cases h1
  | some i => rw [hi] at h1; exact h i q (Option.some.inj h1)
section RW
variable {p : Program} {l : Launch} {e : Env} {R : Room} {s : State} {m : MethodId} {args : Array Value} {below : List Frame} {meth : Method} {c : Code} {H : Heap} {locs : List Loc} {cells slots : Nat} {Q : State → Prop}
variable {cc : ByteArray} {pc : Nat} {ls : Array Slot} {rest st : List Value} {D : va_G} {ty : List (ClassId × FieldType)} {ret0 : Option FieldType} {nL : Nat} {own : String} {lv : List (Nat × Value)} {A : Nat → Prop} {ws : va_W} {b : Addr}
abbrev atW {S : Type} (D : va_G) (A : Nat → Prop) (w : Nat → S → va_W) (u : S) (t : State) : Prop := ∃ q, va_P D vwCl (w q u) t.heap ∧ va_D A (w q u)
abbrev RwP {S : Type} (D : va_G) (ty : List (ClassId × FieldType)) (av : List Value) (w : Nat → S → va_W) (q : Nat) (σ : S) (sz : Nat) : Array Value → State → Prop :=
  va_Pc av (fun U => U.heap.size = sz ∧ va_P D vwCl (w q σ) U.heap ∧ KN D ty U ∧ va_D (fun _ => True) (w q σ))
/-- a method that writes: its answer and the state behind it are res -/
abbrev RwM {S : Type} (l : Launch) (y : MethodName) (cc : ByteArray) (nL : Nat) (ret : Option FieldType) (fr lc : Nat) (D : va_G) (ty : List (ClassId × FieldType)) (av : List Value) (w : Nat → S → va_W) (q : Nat) (σ : S) (res : Int32 × S) : Prop :=
  ∀ sz, Met l y (Cond.code y cc nL ret :: tb) (rmK fr lc 0 0) (RwP D ty av w q σ sz) (va_Qi (fun r u => (r, u) = res) (atW D (va_A (w q σ) sz) w) (va_A (w q σ) sz)) 0 0 (va_A (w q σ) sz)
abbrev RwMv {S : Type} (l : Launch) (y : MethodName) (cc : ByteArray) (nL : Nat) (fr lc : Nat) (D : va_G) (ty : List (ClassId × FieldType)) (av : List Value) (w : Nat → S → va_W) (q : Nat) (σ : S) (res : Int32 × S) : Prop :=
  ∀ sz, Met l y (Cond.code y cc nL none :: tb) (rmK fr lc 0 0) (RwP D ty av w q σ sz) (va_Qv (fun u => (0, u) = res) (atW D (va_A (w q σ) sz) w) (va_A (w q σ) sz)) 0 0 (va_A (w q σ) sz)
abbrev RwQ {S : Type} (below : List Frame) (args : Array Value) (s : State) (D : va_G) (A : Nat → Prop) (w : Nat → S → va_W) (res : Int32 × S) (K N : Nat) : State → Prop := MQ below (va_Qi (fun r u => (r, u) = res) (atW D A w) A) args s K N A
abbrev RwQv {S : Type} (below : List Frame) (args : Array Value) (s : State) (D : va_G) (A : Nat → Prop) (w : Nat → S → va_W) (res : Int32 × S) (K N : Nat) : State → Prop := MQ below (va_Qv (fun u => (0, u) = res) (atW D A w) A) args s K N A
theorem rw_of {S : Type} {y : MethodName} {ret : Option FieldType} {fr lc : Nat} {av : List Value} {w : Nat → S → va_W} {q : Nat} {σ : S} {res : Int32 × S} (hy : plainName y.cls = true) (hlen : (lg_sl av).length ≤ nL)
    (body : ∀ (p : Program) (e : Env) (s : State) (m : MethodId) (args : Array Value) (below : List Frame) (meth : Method) (c : Code) (ls : Array Slot) (A : Nat → Prop), Am p s m args meth c cc ret nL y.cls D ty → (∀ q, s.heap.size ≤ q → A q) → va_P D vwCl (w q σ) s.heap → va_D A (w q σ) → va_S A s.heap s.heap [] → lv_has ls nL (lv_args 0 av) → W p l e (rmK fr lc 0 0) s m args below meth c s.heap [] 0 0 (RwQ below args s D A w res 0 0) (F0 m 0 ls [])) : RwM l y cc nL ret fr lc D ty av w q σ res := by
  intro sz
  refine Met.ofW (cc := cc) (maxL := nL) (ret := ret) hy rfl ?_
  intro p e s m args below meth c s₁ B hml hv
  obtain ⟨rfl, hsz, hP, hK, hD0⟩ := hv
  subst hsz
  have hts := atoms_spec (ws := Cond.code y cc nL ret :: tb) B.pre
  have hl := lv_entry av (n := nL) hlen
  rw [lg_entry_eq]
  exact body p e s m av.toArray below meth c _ _ ⟨B.exec, B.bytes, B.returns, hml, findClass_of_methodNamed B.named, fun w h => hts w (List.mem_cons_of_mem _ h), B.notSynchronized, hK⟩ (fun q h => Or.inr h) hP (hD0.self (sz := s.heap.size)) va_S.rf hl
theorem rw_ofv {S : Type} {y : MethodName} {fr lc : Nat} {av : List Value} {w : Nat → S → va_W} {q : Nat} {σ : S} {res : Int32 × S} (hy : plainName y.cls = true) (hlen : (lg_sl av).length ≤ nL)
    (body : ∀ (p : Program) (e : Env) (s : State) (m : MethodId) (args : Array Value) (below : List Frame) (meth : Method) (c : Code) (ls : Array Slot) (A : Nat → Prop), Am p s m args meth c cc none nL y.cls D ty → (∀ q, s.heap.size ≤ q → A q) → va_P D vwCl (w q σ) s.heap → va_D A (w q σ) → va_S A s.heap s.heap [] → lv_has ls nL (lv_args 0 av) → W p l e (rmK fr lc 0 0) s m args below meth c s.heap [] 0 0 (RwQv below args s D A w res 0 0) (F0 m 0 ls [])) : RwMv l y cc nL fr lc D ty av w q σ res := by
  intro sz
  refine Met.ofW (cc := cc) (maxL := nL) (ret := none) hy rfl ?_
  intro p e s m args below meth c s₁ B hml hv
  obtain ⟨rfl, hsz, hP, hK, hD0⟩ := hv
  subst hsz
  have hts := atoms_spec (ws := Cond.code y cc nL none :: tb) B.pre
  have hl := lv_entry av (n := nL) hlen
  rw [lg_entry_eq]
  exact body p e s m av.toArray below meth c _ _ ⟨B.exec, B.bytes, B.returns, hml, findClass_of_methodNamed B.named, fun w h => hts w (List.mem_cons_of_mem _ h), B.notSynchronized, hK⟩ (fun q h => Or.inr h) hP (hD0.self (sz := s.heap.size)) va_S.rf hl
theorem rw_ret {S : Type} {w : Nat → S → va_W} {q : Nat} {σ : S} {res : Int32 × S} {v : Int32} (C0 : Am p s m args meth c cc (some .int) nL own D ty) (hP : va_P D vwCl (w q σ) H) (hD : va_D A (w q σ)) (hS : va_S A s.heap H locs) (hv : (v, σ) = res) (hdg : decode cc pc = .ok (.ireturn, 1)) :
    W p l e R s m args below meth c H locs cells slots (RwQ below args s D A w res cells slots) (F0 m pc ls [.int v]) := by
  obtain ⟨hx, hb, hr, hml, hown, hts, hlk, hK⟩ := C0
  exact W.iret (v := v) hx hb hr (fun t ht _ => ⟨⟨v, σ, rfl, hv, q, by rw [ht]; exact hP, hD⟩, hS.F ht⟩) hS.2.2 hdg hlk
theorem rw_retz {S : Type} {w : Nat → S → va_W} {q : Nat} {σ : S} {res : Int32 × S} {v v' : Int32} (C0 : Am p s m args meth c cc (some .boolean) nL own D ty) (hP : va_P D vwCl (w q σ) H) (hD : va_D A (w q σ)) (hS : va_S A s.heap H locs) (hw : v &&& 1 = v') (hv : (v', σ) = res) (hdg : decode cc pc = .ok (.ireturn, 1)) :
    W p l e R s m args below meth c H locs cells slots (RwQ below args s D A w res cells slots) (F0 m pc ls [.int v]) := by
  obtain ⟨hx, hb, hr, hml, hown, hts, hlk, hK⟩ := C0
  exact zret_ (v := v) hx hb hr hw (fun t ht _ => ⟨⟨v', σ, rfl, hv, q, by rw [ht]; exact hP, hD⟩, hS.F ht⟩) hS.2.2 hdg hlk
theorem rw_retv {S : Type} {w : Nat → S → va_W} {q : Nat} {σ : S} {res : Int32 × S} (C0 : Am p s m args meth c cc none nL own D ty) (hP : va_P D vwCl (w q σ) H) (hD : va_D A (w q σ)) (hS : va_S A s.heap H locs) (hv : (0, σ) = res) (hdg : decode cc pc = .ok (.return_, 1)) :
    W p l e R s m args below meth c H locs cells slots (RwQv below args s D A w res cells slots) (F0 m pc ls []) := by
  obtain ⟨hx, hb, hr, hml, hown, hts, hlk, hK⟩ := C0
  exact W.vret hx hb hr (fun t ht _ => ⟨⟨σ, rfl, hv, q, by rw [ht]; exact hP, hD⟩, hS.F ht⟩) hS.2.2 hdg hlk
theorem rw_put {Wn : va_W} {C : String} {T : u_T} {N ci index : Nat} {a : Nat} {fs : List Value} {fty : FieldType} {v : Value} (C0 : Am p s m args meth c cc ret0 nL own D ty) (hP : va_P D vwCl ws H) (hD : va_D A ws) (hS : va_S A s.heap H locs) (hin : ∀ w ∈ u_ws C T N, w ∈ tb) (ty0 : Nat → FieldType) (hty : ∀ k, k < N → parseFieldDescriptor (T k).2.2.1 = some (ty0 k)) (hnm : ∀ a, a < N → ∀ b, b < N → a ≠ b → (T a).2.1 ≠ (T b).2.1)
    (q0 : Nat) (he : ws[q0]? = some (a, .inr (ci, fs))) (hc : vwCl[ci]? = some (C, T, N)) (k : Nat) (hk : k < N) (hlink : (Cond.fieldLink own index C (T k).2.1 (T k).2.2.1).before args s = true) (hsame : (T k).1 = C) (hfin : (T k).2.2.2 = false) (hd : parseFieldDescriptor (T k).2.2.1 = some fty) (hn : narrow fty v = v) (hfit : fits fty v = true) (hl : k < fs.length)
    (hdg : decode cc pc = .ok (.putfield index, 3)) (hW : ws.set q0 (a, .inr (ci, fs.set k v)) = Wn) (kk : ∀ (H1 : Heap) (locs1 : List Loc), va_P D vwCl Wn H1 → va_D A Wn → va_S A s.heap H1 locs1 → W p l e R s m args below meth c H1 locs1 cells slots Q (F0 m (pc + 3) ls rest)) : W p l e R s m args below meth c H locs cells slots Q (F0 m pc ls (v :: .ref a :: rest)) := by
  obtain ⟨hx, hb, hr, hml, hown, hts, hlk, hK⟩ := C0
  subst hW
  exact va_put hx hb hts hin ty0 hty hnm hown hK.1 hP hD hS q0 he hc k hk hlink (fun _ h => by rw [hsame] at h; exact h) hfin hd hn hfit hl hdg kk
theorem rw_iast {Wn : va_W} {a : Nat} {cA : ClassId} {n : Nat} {f : Nat → Int32} {i x : Int32} (C0 : Am p s m args meth c cc ret0 nL own D ty) (hP : va_P D vwCl ws H) (hD : va_D A ws) (hS : va_S A s.heap H locs) (q0 t0 : Nat) (ha : ws[q0]? = some (a, .inl (cA, n, .inl f))) (ht : ty[t0]? = some (cA, .int)) (hin : vp_in i n) (hdg : decode cc pc = .ok (.iastore, 1))
    (hW : ws.set q0 (a, .inl (cA, n, .inl (upd f i.toNatClampNeg x))) = Wn) (kk : ∀ (H1 : Heap) (locs1 : List Loc), va_P D vwCl Wn H1 → va_D A Wn → va_S A s.heap H1 locs1 → W p l e R s m args below meth c H1 locs1 cells slots Q (F0 m (pc + 1) ls rest)) : W p l e R s m args below meth c H locs cells slots Q (F0 m pc ls (.int x :: .int i :: .ref a :: rest)) := by
  obtain ⟨hx, hb, hr, hml, hown, hts, hlk, hK⟩ := C0
  subst hW
  exact va_iast hx hb hK.1 hP hD hS q0 t0 ha ht hin hdg kk
theorem rw_zast {Wn : va_W} {a : Nat} {cA : ClassId} {n : Nat} {f : Nat → Int32} {i x : Int32} (C0 : Am p s m args meth c cc ret0 nL own D ty) (hP : va_P D vwCl ws H) (hD : va_D A ws) (hS : va_S A s.heap H locs) (q0 t0 : Nat) (ha : ws[q0]? = some (a, .inl (cA, n, .inl f))) (ht : ty[t0]? = some (cA, .boolean)) (hin : vp_in i n) (hdg : decode cc pc = .ok (.bastore, 1))
    (hW : ws.set q0 (a, .inl (cA, n, .inl (upd f i.toNatClampNeg (vp_nar .boolean x)))) = Wn) (kk : ∀ (H1 : Heap) (locs1 : List Loc), va_P D vwCl Wn H1 → va_D A Wn → va_S A s.heap H1 locs1 → W p l e R s m args below meth c H1 locs1 cells slots Q (F0 m (pc + 1) ls rest)) : W p l e R s m args below meth c H locs cells slots Q (F0 m pc ls (.int x :: .int i :: .ref a :: rest)) := by
  obtain ⟨hx, hb, hr, hml, hown, hts, hlk, hK⟩ := C0
  subst hW
  exact va_zast hx hb hK.1 hP hD hS q0 t0 ha ht hin hdg kk
/-- invokevirtual of a method that writes -/
theorem rw_V {S : Type} {w : Nat → S → va_W} {qc : Nat} {σc : S} {res : Int32 × S} {y : MethodName} {ccy : ByteArray} {nLy : Nat} {ret : Option FieldType} {fr lc idx n ci : Nat} {As : List Value} {q : vw_C} {fs : List Value} {Wn : Nat → va_W}
    (C0 : Am p s m args meth c cc ret0 nL own D ty) (hA : ∀ q, s.heap.size ≤ q → A q) (hM : RwM l y ccy nLy ret fr lc D ty (.ref b :: As) w qc σc res) (hlk : Cond.methodLink own idx y ∈ tb) (wd : wdV y ccy nLy ret) (hy : plainY y n)
    (hR : fr + 1 ≤ R.frames ∧ 8 + (nLy + 11) + lc ≤ R.locals) (hP : va_P D vwCl ws H) (hD : va_D A ws) (hS : va_S A s.heap H locs)
    (isC isR pm : List Nat) (hC : isC.map (fun i => ws[i]?) = (w qc σc).map some) (hCd : va_nd isC = true) (hRr : isR.map (fun i => ws[i]?) = (isR.filterMap (fun i => ws[i]?)).map some) (hnd : va_nd isR = true) (hdis : ∀ i ∈ isR, i ∉ isC) (hpm : va_nd pm = true) (hW : ∀ q1, pm.map (fun i => (isR.filterMap (fun i => ws[i]?) ++ w q1 res.2)[i]?) = (Wn q1).map some)
    (hc : vwCl[ci]? = some q) (hq : q.1 = y.cls) (he : (w qc σc)[0]? = some (b, .inr (ci, fs))) (hl : lv_has ls nL lv) (hn : As.length = n) (hst : st = As.reverse ++ .ref b :: rest)
    (hr : (rest.map fun v => v.category).sum ≤ 8) (hcs : cells ≤ R.cells ∧ slots ≤ R.slots) (hdg : decode cc pc = .ok (.invokevirtual idx, 3))
    (kk : ∀ (H1 : Heap) (locs1 : List Loc) (q1 : Nat), va_P D vwCl (Wn q1) H1 → va_D A (Wn q1) → va_S A s.heap H1 locs1 → W p l e R s m args below meth c H1 locs1 cells slots Q (F0 m (pc + 3) ls (.int res.1 :: rest))) : W p l e R s m args below meth c H locs cells slots Q (F0 m pc ls st) := by
  obtain ⟨hx, hb, hr0, hml, hown, hts, hlk0, hK⟩ := C0
  obtain ⟨w1, w2, w3, w4⟩ := wd
  have cw : CallW R s args own y.cls idx y ccy nLy ret (Cond.code y ccy nLy ret :: tb) (rmK fr lc 0 0) 0 0 n :=
    ⟨callB_of n hts (gdIn w1) rfl rfl rfl (hts _ w4) (hts _ hlk) hy hR, hts _ w2, hts _ w3⟩
  have hPc := hP.pick isC hC
  have hDc := hD.sub isC hCd hC
  have hFc := va_free hD hS hA isC hC
  refine va_calli (va_runV (As := As) (rest := rest) (C := y.cls) ⟨hx, hb, hml, hown, hts⟩ (hM H.size) cw ⟨fun a U g mk h => ⟨h.1, h.2.1, h.2.2.1, KN.calling g mk a h.2.2.2.1, h.2.2.2.2⟩, by rw [← hq]; exact va_recv hK.1 hPc hc he, fun U hU hW => ⟨rfl, by rw [hU], by rw [hU]; exact hPc, KN.warm hW hK, hDc.weaken (fun _ _ _ _ => trivial)⟩⟩ rfl hn hl.1 hst (lv_room hr) hdg hcs) hS (fun q _ h => hFc q h) hFc (fun r u t H1 locs1 ht hvm hw hB hz1 hk1 hS1 => ?_)
  obtain ⟨q1, hP1, hD1⟩ := hB
  rw [ht] at hP1
  cases hw
  obtain ⟨hP2, hD2⟩ := va_join hP hD isC isR hC hRr hnd hdis hk1 hFc hP1 hD1
  exact kk H1 locs1 q1 (hP2.pick pm (hW q1)) (hD2.sub pm hpm (hW q1)) hS1
theorem rw_Vv {S : Type} {w : Nat → S → va_W} {qc : Nat} {σc : S} {res : Int32 × S} {y : MethodName} {ccy : ByteArray} {nLy : Nat} {fr lc idx n ci : Nat} {As : List Value} {q : vw_C} {fs : List Value} {Wn : Nat → va_W}
    (C0 : Am p s m args meth c cc ret0 nL own D ty) (hA : ∀ q, s.heap.size ≤ q → A q) (hM : RwMv l y ccy nLy fr lc D ty (.ref b :: As) w qc σc res) (hlk : Cond.methodLink own idx y ∈ tb) (wd : wdV y ccy nLy none) (hy : plainY y n)
    (hR : fr + 1 ≤ R.frames ∧ 8 + (nLy + 11) + lc ≤ R.locals) (hP : va_P D vwCl ws H) (hD : va_D A ws) (hS : va_S A s.heap H locs)
    (isC isR pm : List Nat) (hC : isC.map (fun i => ws[i]?) = (w qc σc).map some) (hCd : va_nd isC = true) (hRr : isR.map (fun i => ws[i]?) = (isR.filterMap (fun i => ws[i]?)).map some) (hnd : va_nd isR = true) (hdis : ∀ i ∈ isR, i ∉ isC) (hpm : va_nd pm = true) (hW : ∀ q1, pm.map (fun i => (isR.filterMap (fun i => ws[i]?) ++ w q1 res.2)[i]?) = (Wn q1).map some)
    (hc : vwCl[ci]? = some q) (hq : q.1 = y.cls) (he : (w qc σc)[0]? = some (b, .inr (ci, fs))) (hl : lv_has ls nL lv) (hn : As.length = n) (hst : st = As.reverse ++ .ref b :: rest)
    (hr : (rest.map fun v => v.category).sum ≤ 8) (hcs : cells ≤ R.cells ∧ slots ≤ R.slots) (hdg : decode cc pc = .ok (.invokevirtual idx, 3))
    (kk : ∀ (H1 : Heap) (locs1 : List Loc) (q1 : Nat), va_P D vwCl (Wn q1) H1 → va_D A (Wn q1) → va_S A s.heap H1 locs1 → W p l e R s m args below meth c H1 locs1 cells slots Q (F0 m (pc + 3) ls rest)) : W p l e R s m args below meth c H locs cells slots Q (F0 m pc ls st) := by
  obtain ⟨hx, hb, hr0, hml, hown, hts, hlk0, hK⟩ := C0
  obtain ⟨w1, w2, w3, w4⟩ := wd
  have cw : CallW R s args own y.cls idx y ccy nLy none (Cond.code y ccy nLy none :: tb) (rmK fr lc 0 0) 0 0 n :=
    ⟨callB_of n hts (gdIn w1) rfl rfl rfl (hts _ w4) (hts _ hlk) hy hR, hts _ w2, hts _ w3⟩
  have hPc := hP.pick isC hC
  have hDc := hD.sub isC hCd hC
  have hFc := va_free hD hS hA isC hC
  refine va_callv (va_runV (As := As) (rest := rest) (C := y.cls) ⟨hx, hb, hml, hown, hts⟩ (hM H.size) cw ⟨fun a U g mk h => ⟨h.1, h.2.1, h.2.2.1, KN.calling g mk a h.2.2.2.1, h.2.2.2.2⟩, by rw [← hq]; exact va_recv hK.1 hPc hc he, fun U hU hW => ⟨rfl, by rw [hU], by rw [hU]; exact hPc, KN.warm hW hK, hDc.weaken (fun _ _ _ _ => trivial)⟩⟩ rfl hn hl.1 hst (lv_room hr) hdg hcs) hS (fun q _ h => hFc q h) hFc (fun u t H1 locs1 ht hvm hw hB hz1 hk1 hS1 => ?_)
  obtain ⟨q1, hP1, hD1⟩ := hB
  rw [ht] at hP1
  cases hw
  obtain ⟨hP2, hD2⟩ := va_join hP hD isC isR hC hRr hnd hdis hk1 hFc hP1 hD1
  exact kk H1 locs1 q1 (hP2.pick pm (hW q1)) (hD2.sub pm hpm (hW q1)) hS1
end RW
