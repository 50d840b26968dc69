-- part 05.0.base.lean.txt
/-! Own rows: bundles of the kit's rows, by which a program lays the walks. -/
/-- the classes, arrays and nest links as the tables have them -/
abbrev KN (D : va_G) (ty : List (ClassId × FieldType)) (U : State) : Prop := va_K D vwCl ty U ∧ (∀ w ∈ nwL, va_Nw w U) ∧ ∀ q ∈ stL, ∃ sa, vk_R q.1 q.2.1 q.2.2 sa U
theorem KN.warm {D : va_G} {ty : List (ClassId × FieldType)} {s U : State} (hW : s.WarmedH U.vm) (h : KN D ty s) : KN D ty U := by
  refine ⟨va_K.moved hW.alike h.1, fun w hw => ?_, fun q hq => ?_⟩
  · rcases nwL_sh w hw with ⟨a, i, x, k, rfl⟩ | ⟨x, rfl⟩ | ⟨a, b, rfl⟩
    · exact va_Nw.warmM hW (h.2.1 _ hw)
    · exact va_Nw.warmD hW (h.2.1 _ hw)
    · exact va_Nw.warmC hW (h.2.1 _ hw)
  · obtain ⟨sa, hs⟩ := h.2.2 q hq
    exact ⟨sa, vk_R.warm hW hs⟩
theorem KN.calling {D : va_G} {ty : List (ClassId × FieldType)} {U : State} (g : JFrame) (mk : MethodId) (a : Array Value) (h : KN D ty U) : KN D ty (U.calling g mk a) := by
  refine ⟨va_K.moved (u := U) (U := U.calling g mk a) (Vm.Alike.refl U.vm) h.1, fun w hw => ?_, fun q hq => ?_⟩
  · rcases nwL_sh w hw with ⟨a, i, x, k, rfl⟩ | ⟨x, rfl⟩ | ⟨a, b, rfl⟩
    · exact va_Nw.same (u := U) rfl rfl (h.2.1 _ hw)
    · exact va_Nw.same (u := U) rfl rfl (h.2.1 _ hw)
    · exact va_Nw.same (u := U) rfl rfl (h.2.1 _ hw)
  · obtain ⟨sa, hs⟩ := h.2.2 q hq
    exact ⟨sa, vk_R.same (u := U) rfl hs⟩
theorem KN.word {D : va_G} {ty : List (ClassId × FieldType)} {s : State} {args : Array Value} {w : Cond} (h : KN D ty s) (hw : w ∈ nwL) : w.before args s = true := by
  have h1 := h.2.1 w hw
  rcases nwL_sh w hw with ⟨a, i, x, k, rfl⟩ | ⟨x, rfl⟩ | ⟨a, b, rfl⟩
  · exact va_Nw.use rfl h1
  · exact va_Nw.use rfl h1
  · exact va_Nw.use rfl h1
/-- what holds all along a method's body -/
abbrev Am (p : Program) (s : State) (m : MethodId) (args : Array Value) (meth : Method) (c : Code) (cc : ByteArray) (ret : Option FieldType) (nL : Nat) (own : String) (D : va_G) (ty : List (ClassId × FieldType)) : Prop :=
  p.tables.exec = Jvm.exec ∧ c.code = cc ∧ meth.sig.returnType = ret ∧ c.maxLocals = nL ∧ s.vm.findClass own = some m.cls ∧ (∀ w ∈ tb, w.before args s = true) ∧ meth.locks = false ∧ KN D ty s
abbrev rmK (fr lc k n : Nat) : Room := { frames := fr, cells := k, slots := n, locals := lc }
theorem gd {α : Type} {c : Prop} [Decidable c] {o : Option α} {v : α} (h : (if c then none else o) = some v) : ¬ c ∧ o = some v := by
  by_cases hc : c
  · rw [if_pos hc] at h; cases h
  · rw [if_neg hc] at h; exact ⟨hc, h⟩
theorem bd {α β : Type} {o : Option α} {f : α → Option β} {v : β} (h : o.bind f = some v) : ∃ r, o = some r ∧ f r = some v := Option.bind_eq_some_iff.mp h
def ad_ {α β : Type} (c n : Nat) (o : Option (α × β × Nat × Nat)) : Option (α × β × Nat × Nat) := o.map fun r => (r.1, r.2.1, r.2.2.1 + c, r.2.2.2 + n)
theorem ad_s {α β : Type} {c n : Nat} {o : Option (α × β × Nat × Nat)} {a : α} {b : β} {k i : Nat} (h : ad_ c n o = some (a, b, k, i)) : ∃ k' i', o = some (a, b, k', i') ∧ k = k' + c ∧ i = i' + n := by
  cases o with
  | none => cases h
  | some r =>
    obtain ⟨a', b', k', i'⟩ := r
    cases h
    exact ⟨k', i', rfl, rfl, rfl⟩
def J_fill (f : Nat → Int32) (n : Nat) (v : Int32) : Nat → Int32 := fun j => if j < n then v else f j
def J_copyOf (f : Nat → Int32) (n : Nat) (k : Int32) : Nat → Int32 := va_cpy f (fun _ => 0) 0 0 (min n k.toNatClampNeg)
/-- the words of a method that is called by a name of its class -/
abbrev wdV (y : MethodName) (cc : ByteArray) (nL : Nat) (ret : Option FieldType) : Prop := Cond.code y cc nL ret ∈ tb ∧ Cond.instanceMethod y ∈ tb ∧ Cond.selects y.cls y y ∈ tb ∧ Cond.initialized y.cls ∈ tb
abbrev wdS (y : MethodName) (cc : ByteArray) (nL : Nat) (ret : Option FieldType) : Prop := Cond.code y cc nL ret ∈ tb ∧ Cond.static y ∈ tb ∧ Cond.initialized y.cls ∈ tb
abbrev plainY (y : MethodName) (n : Nat) : Prop := y.cls ≠ "java/lang/invoke/MethodHandle" ∧ y.cls ≠ "java/lang/invoke/VarHandle" ∧ (parseMethodDescriptor y.desc).map (fun d => d.parameters.length) = some n
theorem gdIn {y : MethodName} {cc : ByteArray} {nL : Nat} {ret : Option FieldType} (h : Cond.code y cc nL ret ∈ tb) : GoodIn tb (Cond.code y cc nL ret :: tb) := by
  intro w hw
  rcases List.mem_cons.mp hw with rfl | hw
  · exact ⟨h, tb_ok _ h⟩
  · exact ⟨hw, tb_ok _ hw⟩
theorem pnil {D : va_G} {H : Heap} : va_P D vwCl [] H := fun k q h => by simp at h
section RO
variable {p : Program} {l : Launch} {e : Env} {R : Room} {s : State} {m : MethodId} {args : Array Value} {below : List Frame} {meth : Method} {c : Code} {H : Heap} {locs : List Loc} {cells slots : Nat} {Q : State → Prop}
variable {cc : ByteArray} {pc : Nat} {ls : Array Slot} {rest st : List Value} {D : va_G} {ty : List (ClassId × FieldType)} {ret0 : Option FieldType} {nL : Nat} {own : String} {lv : List (Nat × Value)}
/-- a method that reads alone: its answer is val -/
abbrev RoM (l : Launch) (y : MethodName) (cc : ByteArray) (nL : Nat) (ret : Option FieldType) (fr lc : Nat) (D : va_G) (ty : List (ClassId × FieldType)) (av : List Value) (w : va_W) (val : Int32) : Prop :=
  Met l y (Cond.code y cc nL ret :: tb) (rmK fr lc 0 0) (va_Pc av (fun U => va_P D vwCl w U.heap ∧ KN D ty U)) (vp_Si (fun r => r = val)) 0 0 (fun _ => False)
abbrev RoW (p : Program) (l : Launch) (e : Env) (R : Room) (s : State) (m : MethodId) (args : Array Value) (below : List Frame) (meth : Method) (c : Code) (val : Int32) (g : JFrame) : Prop :=
  W p l e R s m args below meth c s.heap [] 0 0 (MQ below (vp_Si (fun r => r = val)) args s 0 0 (fun _ => False)) g
theorem ro_of {y : MethodName} {ret : Option FieldType} {fr lc : Nat} {av : List Value} {w : va_W} {val : Int32} (hy : plainName y.cls = true) (hlen : (lg_sl av).length ≤ nL)
    (body : ∀ (p : Program) (e : Env) (s : State) (m : MethodId) (args : Array Value) (below : List Frame) (meth : Method) (c : Code) (ls : Array Slot), Am p s m args meth c cc ret nL y.cls D ty → va_P D vwCl w s.heap → lv_has ls nL (lv_args 0 av) → RoW p l e (rmK fr lc 0 0) s m args below meth c val (F0 m 0 ls [])) : RoM l y cc nL ret fr lc D ty av w val := by
  refine Met.ofW (cc := cc) (maxL := nL) (ret := ret) hy rfl ?_
  intro p e s m args below meth c s₁ B hml hv
  obtain ⟨rfl, hP, hK⟩ := hv
  have hts := atoms_spec (ws := Cond.code y cc nL ret :: tb) B.pre
  have hl := lv_entry av (n := nL) hlen
  rw [lg_entry_eq]
  exact body p e s m av.toArray below meth c _ ⟨B.exec, B.bytes, B.returns, hml, findClass_of_methodNamed B.named, fun w h => hts w (List.mem_cons_of_mem _ h), B.notSynchronized, hK⟩ hP hl
/-- a call that changes nothing -/
theorem ro_i {val : Int32} {a : Array Value} (hr : va_Run p l e R s m args below meth c H locs cells slots 0 0 (F0 m pc ls st) rest (vp_Si (fun r => r = val) a) (fun _ => False))
    (kk : W p l e R s m args below meth c H locs cells slots Q (F0 m (pc + 3) ls (.int val :: rest))) : W p l e R s m args below meth c H locs cells slots Q (F0 m pc ls st) := by
  intro T hT X
  obtain ⟨v, st₀, t, T', L, h0, X', hL, e1, -, ⟨r, hv, hp, hh⟩, sg⟩ := hr T hT X
  cases hv
  subst hp
  obtain ⟨t2, a1, b1⟩ := kk T' (by rw [e1, hh, h0]) (Stand.forget X' (fun q h => (hL q h).elim))
  exact ⟨t2, sg t2 a1, b1⟩
theorem ro_ret {v val : Int32} (C0 : Am p s m args meth c cc (some .int) nL own D ty) (hv : v = val) (hdg : decode cc pc = .ok (.ireturn, 1)) : RoW p l e R s m args below meth c val (F0 m pc ls [.int v]) := by
  obtain ⟨hx, hb, hr, hml, hown, hts, hlk, hK⟩ := C0
  exact W.iret (v := v) hx hb hr (fun t ht _ => ⟨v, rfl, hv, ht⟩) (fun _ h => nomatch h) hdg hlk
/-- an int that is a boolean's answer: its last bit -/
theorem zret_ {Qc : Array Value → State → Outcome → State → Prop} {free : Addr → Prop} {v w : Int32} (hexec : p.tables.exec = Jvm.exec) (hb : c.code = cc) (hr : meth.sig.returnType = some .boolean) (hw : v &&& 1 = w)
    (hq : ∀ t : State, t.heap = H → s.WarmedH t.vm → Qc args s (.returned (some (.int w))) t) (hf : ∀ q ∈ locs, free q.base)
    {ls : Array Slot} (hdg : decode cc pc = .ok (.ireturn, 1)) (hlocks : meth.locks = false) : W p l e R s m args below meth c H locs cells slots (MQ below Qc args s cells slots free) (F0 m pc ls [.int v]) := by
  intro T hT X
  obtain ⟨fs, hret, hrun, hended, hW, hframe⟩ := X.leave (v := some (.int w)) (fun h => by rw [hr] at h; cases h)
  have hmeth' : T.vm.method? m = some meth := X.method'
  have hn : narrow .boolean (.int v) = .int w := by rw [← hw]; rfl
  refine ⟨T.setFrames fs, ?_, .returned (some (.int w)), hrun, hended, hq _ hT hW, locs, ⟨⟨_, rfl⟩, hW, hframe⟩, hf⟩
  jvm_step X.here [X.here.top, hexec, hb, hdg, hmeth', hr, hn]
  (try refine ⟨rfl, ?_⟩); (try refine ⟨rfl, ?_⟩)
  first | (intro acts; rw [hret _ acts rfl rfl rfl]) | rw [hret _ _ rfl rfl rfl]
  exact Steps.refl _
theorem ro_retz {v w val : Int32} (C0 : Am p s m args meth c cc (some .boolean) nL own D ty) (hw : v &&& 1 = w) (hv : w = val) (hdg : decode cc pc = .ok (.ireturn, 1)) : RoW p l e R s m args below meth c val (F0 m pc ls [.int v]) := by
  obtain ⟨hx, hb, hr, hml, hown, hts, hlk, hK⟩ := C0
  exact zret_ (v := v) hx hb hr hw (fun t ht _ => ⟨w, rfl, hv, ht⟩) (fun _ h => nomatch h) hdg hlk
/-- invokevirtual of a method that reads alone -/
theorem ro_V {y : MethodName} {ccy : ByteArray} {nLy : Nat} {ret : Option FieldType} {fr lc idx n ci : Nat} {As : List Value} {b : Addr} {w : va_W} {val : Int32} {q : vw_C} {fs : List Value}
    (C0 : Am p s m args meth c cc ret0 nL own D ty) (hM : RoM l y ccy nLy ret fr lc D ty (.ref b :: As) w val) (hlk : Cond.methodLink own idx y ∈ tb) (wd : wdV y ccy nLy ret) (hy : plainY y n)
    (hR : fr + 1 ≤ R.frames ∧ 8 + (nLy + 11) + lc ≤ R.locals) (hP : va_P D vwCl w H) (hc : vwCl[ci]? = some q) (hq : q.1 = y.cls) (he : w[0]? = some (b, .inr (ci, fs))) (hl : lv_has ls nL lv) (hn : As.length = n) (hst : st = As.reverse ++ .ref b :: rest)
    (hr : (rest.map fun v => v.category).sum ≤ 8) (hcs : cells ≤ R.cells ∧ slots ≤ R.slots) (hdg : decode cc pc = .ok (.invokevirtual idx, 3))
    (kk : W p l e R s m args below meth c H locs cells slots Q (F0 m (pc + 3) ls (.int val :: rest))) : W p l e R s m args below meth c H locs cells slots Q (F0 m pc ls st) := by
  obtain ⟨hx, hb, hr0, hml, hown, hts, hlk0, hK⟩ := C0
  obtain ⟨w1, w2, w3, w4⟩ := wd
  have cw : CallW R s args own y.cls idx y ccy nLy ret (Cond.code y ccy nLy ret :: tb) (rmK fr lc 0 0) 0 0 n :=
    ⟨callB_of n hts (gdIn w1) rfl rfl rfl (hts _ w4) (hts _ hlk) hy hR, hts _ w2, hts _ w3⟩
  exact ro_i (va_runV (As := As) (rest := rest) (C := y.cls) ⟨hx, hb, hml, hown, hts⟩ hM cw ⟨fun a U g mk h => ⟨h.1, h.2.1, KN.calling g mk a h.2.2⟩, by rw [← hq]; exact va_recv hK.1 hP hc he, fun U hU hW => ⟨rfl, by rw [hU]; exact hP, KN.warm hW hK⟩⟩ rfl hn hl.1 hst (lv_room hr) hdg hcs) kk
theorem ro_S {y : MethodName} {ccy : ByteArray} {nLy : Nat} {ret : Option FieldType} {fr lc idx n : Nat} {As : List Value} {w : va_W} {val : Int32}
    (C0 : Am p s m args meth c cc ret0 nL own D ty) (hM : RoM l y ccy nLy ret fr lc D ty As w val) (hlk : Cond.methodLink own idx y ∈ tb) (wd : wdS y ccy nLy ret) (hy : plainY y n)
    (hR : fr + 1 ≤ R.frames ∧ 8 + (nLy + 11) + lc ≤ R.locals) (hP : va_P D vwCl w H) (hl : lv_has ls nL lv) (hn : As.length = n) (hst : st = As.reverse ++ rest)
    (hr : (rest.map fun v => v.category).sum ≤ 8) (hcs : cells ≤ R.cells ∧ slots ≤ R.slots) (hdg : decode cc pc = .ok (.invokestatic idx, 3))
    (kk : W p l e R s m args below meth c H locs cells slots Q (F0 m (pc + 3) ls (.int val :: rest))) : W p l e R s m args below meth c H locs cells slots Q (F0 m pc ls st) := by
  obtain ⟨hx, hb, hr0, hml, hown, hts, hlk0, hK⟩ := C0
  obtain ⟨w1, w2, w3⟩ := wd
  have cw : CallB R s args own idx y ccy nLy ret (Cond.code y ccy nLy ret :: tb) (rmK fr lc 0 0) 0 0 n ∧ (Cond.static y).before args s = true :=
    ⟨callB_of n hts (gdIn w1) rfl rfl rfl (hts _ w3) (hts _ hlk) hy hR, hts _ w2⟩
  exact ro_i (va_runS (As := As) (rest := rest) ⟨hx, hb, hml, hown, hts⟩ hM cw ⟨fun a U g mk h => ⟨h.1, h.2.1, KN.calling g mk a h.2.2⟩, fun U hU hW => ⟨rfl, by rw [hU]; exact hP, KN.warm hW hK⟩⟩ rfl hn hl.1 hst (lv_room hr) hdg hcs) kk
/-- a private static method of a nest mate -/
theorem ro_SN {y : MethodName} {ccy : ByteArray} {nLy : Nat} {ret : Option FieldType} {fr lc idx n : Nat} {host : String} {As : List Value} {w : va_W} {val : Int32}
    (C0 : Am p s m args meth c cc ret0 nL own D ty) (hM : RoM l y ccy nLy ret fr lc D ty As w val) (hlk : Cond.methodLinkNest own idx y host ∈ nwL) (wd : wdS y ccy nLy ret) (hy : plainY y n)
    (hR : fr + 1 ≤ R.frames ∧ 8 + (nLy + 11) + lc ≤ R.locals) (hP : va_P D vwCl w H) (hl : lv_has ls nL lv) (hn : As.length = n) (hst : st = As.reverse ++ rest)
    (hr : (rest.map fun v => v.category).sum ≤ 8) (hcs : cells ≤ R.cells ∧ slots ≤ R.slots) (hdg : decode cc pc = .ok (.invokestatic idx, 3))
    (kk : W p l e R s m args below meth c H locs cells slots Q (F0 m (pc + 3) ls (.int val :: rest))) : W p l e R s m args below meth c H locs cells slots Q (F0 m pc ls st) := by
  obtain ⟨hx, hb, hr0, hml, hown, hts, hlk0, hK⟩ := C0
  obtain ⟨w1, w2, w3⟩ := wd
  have cw := va_cnB (R := R) (args := args) (rm := rmK fr lc 0 0) (mc := 0) (ms := 0) n hts (gdIn w1) rfl rfl rfl (hK.2.1 _ hlk) (hts _ w3) hy hR
  exact ro_i (va_runSN (As := As) (rest := rest) ⟨hx, hb, hml, hown, hts⟩ hM ⟨cw, hts _ w2, trivial⟩ ⟨fun a U g mk h => ⟨h.1, h.2.1, KN.calling g mk a h.2.2⟩, fun U hU hW => ⟨rfl, by rw [hU]; exact hP, KN.warm hW hK⟩⟩ rfl hn hl.1 hst (lv_room hr) hdg hcs) kk
end RO
-- part 05.1.base2.lean.txt
/-! Own rows: methods that write. -/
theorem va_P.pick {D : va_G} {cl : List vw_C} {ws w1 : va_W} {H : Heap} (h : va_P D cl ws H) (is : List Nat) (hs : is.map (fun i => ws[i]?) = w1.map some) : va_P D cl w1 H := by
  intro k q hk
  have h1 : (is.map (fun i => ws[i]?))[k]? = some (some q) := by rw [hs, List.getElem?_map, hk]; rfl
  rw [List.getElem?_map] at h1
  cases hi : is[k]? with
  | none => rw [hi] at h1; cases h1
  | some i => rw [hi] at h1; exact h i q (Option.some.inj h1)
section RW
variable {p : Program} {l : Launch} {e : Env} {R : Room} {s : State} {m : MethodId} {args : Array Value} {below : List Frame} {meth : Method} {c : Code} {H : Heap} {locs : List Loc} {cells slots : Nat} {Q : State → Prop}
variable {cc : ByteArray} {pc : Nat} {ls : Array Slot} {rest st : List Value} {D : va_G} {ty : List (ClassId × FieldType)} {ret0 : Option FieldType} {nL : Nat} {own : String} {lv : List (Nat × Value)} {A : Nat → Prop} {ws : va_W} {b : Addr}
abbrev atW {S : Type} (D : va_G) (A : Nat → Prop) (w : Nat → S → va_W) (u : S) (t : State) : Prop := ∃ q, va_P D vwCl (w q u) t.heap ∧ va_D A (w q u)
abbrev RwP {S : Type} (D : va_G) (ty : List (ClassId × FieldType)) (av : List Value) (w : Nat → S → va_W) (q : Nat) (σ : S) (sz : Nat) : Array Value → State → Prop :=
  va_Pc av (fun U => U.heap.size = sz ∧ va_P D vwCl (w q σ) U.heap ∧ KN D ty U ∧ va_D (fun _ => True) (w q σ))
/-- a method that writes: its answer and the state behind it are res -/
abbrev RwM {S : Type} (l : Launch) (y : MethodName) (cc : ByteArray) (nL : Nat) (ret : Option FieldType) (fr lc : Nat) (D : va_G) (ty : List (ClassId × FieldType)) (av : List Value) (w : Nat → S → va_W) (q : Nat) (σ : S) (res : Int32 × S) : Prop :=
  ∀ sz, Met l y (Cond.code y cc nL ret :: tb) (rmK fr lc 0 0) (RwP D ty av w q σ sz) (va_Qi (fun r u => (r, u) = res) (atW D (va_A (w q σ) sz) w) (va_A (w q σ) sz)) 0 0 (va_A (w q σ) sz)
abbrev RwMv {S : Type} (l : Launch) (y : MethodName) (cc : ByteArray) (nL : Nat) (fr lc : Nat) (D : va_G) (ty : List (ClassId × FieldType)) (av : List Value) (w : Nat → S → va_W) (q : Nat) (σ : S) (res : Int32 × S) : Prop :=
  ∀ sz, Met l y (Cond.code y cc nL none :: tb) (rmK fr lc 0 0) (RwP D ty av w q σ sz) (va_Qv (fun u => (0, u) = res) (atW D (va_A (w q σ) sz) w) (va_A (w q σ) sz)) 0 0 (va_A (w q σ) sz)
abbrev RwQ {S : Type} (below : List Frame) (args : Array Value) (s : State) (D : va_G) (A : Nat → Prop) (w : Nat → S → va_W) (res : Int32 × S) (K N : Nat) : State → Prop := MQ below (va_Qi (fun r u => (r, u) = res) (atW D A w) A) args s K N A
abbrev RwQv {S : Type} (below : List Frame) (args : Array Value) (s : State) (D : va_G) (A : Nat → Prop) (w : Nat → S → va_W) (res : Int32 × S) (K N : Nat) : State → Prop := MQ below (va_Qv (fun u => (0, u) = res) (atW D A w) A) args s K N A
theorem rw_of {S : Type} {y : MethodName} {ret : Option FieldType} {fr lc : Nat} {av : List Value} {w : Nat → S → va_W} {q : Nat} {σ : S} {res : Int32 × S} (hy : plainName y.cls = true) (hlen : (lg_sl av).length ≤ nL)
    (body : ∀ (p : Program) (e : Env) (s : State) (m : MethodId) (args : Array Value) (below : List Frame) (meth : Method) (c : Code) (ls : Array Slot) (A : Nat → Prop), Am p s m args meth c cc ret nL y.cls D ty → (∀ q, s.heap.size ≤ q → A q) → va_P D vwCl (w q σ) s.heap → va_D A (w q σ) → va_S A s.heap s.heap [] → lv_has ls nL (lv_args 0 av) → W p l e (rmK fr lc 0 0) s m args below meth c s.heap [] 0 0 (RwQ below args s D A w res 0 0) (F0 m 0 ls [])) : RwM l y cc nL ret fr lc D ty av w q σ res := by
  intro sz
  refine Met.ofW (cc := cc) (maxL := nL) (ret := ret) hy rfl ?_
  intro p e s m args below meth c s₁ B hml hv
  obtain ⟨rfl, hsz, hP, hK, hD0⟩ := hv
  subst hsz
  have hts := atoms_spec (ws := Cond.code y cc nL ret :: tb) B.pre
  have hl := lv_entry av (n := nL) hlen
  rw [lg_entry_eq]
  exact body p e s m av.toArray below meth c _ _ ⟨B.exec, B.bytes, B.returns, hml, findClass_of_methodNamed B.named, fun w h => hts w (List.mem_cons_of_mem _ h), B.notSynchronized, hK⟩ (fun q h => Or.inr h) hP (hD0.self (sz := s.heap.size)) va_S.rf hl
theorem rw_ofv {S : Type} {y : MethodName} {fr lc : Nat} {av : List Value} {w : Nat → S → va_W} {q : Nat} {σ : S} {res : Int32 × S} (hy : plainName y.cls = true) (hlen : (lg_sl av).length ≤ nL)
    (body : ∀ (p : Program) (e : Env) (s : State) (m : MethodId) (args : Array Value) (below : List Frame) (meth : Method) (c : Code) (ls : Array Slot) (A : Nat → Prop), Am p s m args meth c cc none nL y.cls D ty → (∀ q, s.heap.size ≤ q → A q) → va_P D vwCl (w q σ) s.heap → va_D A (w q σ) → va_S A s.heap s.heap [] → lv_has ls nL (lv_args 0 av) → W p l e (rmK fr lc 0 0) s m args below meth c s.heap [] 0 0 (RwQv below args s D A w res 0 0) (F0 m 0 ls [])) : RwMv l y cc nL fr lc D ty av w q σ res := by
  intro sz
  refine Met.ofW (cc := cc) (maxL := nL) (ret := none) hy rfl ?_
  intro p e s m args below meth c s₁ B hml hv
  obtain ⟨rfl, hsz, hP, hK, hD0⟩ := hv
  subst hsz
  have hts := atoms_spec (ws := Cond.code y cc nL none :: tb) B.pre
  have hl := lv_entry av (n := nL) hlen
  rw [lg_entry_eq]
  exact body p e s m av.toArray below meth c _ _ ⟨B.exec, B.bytes, B.returns, hml, findClass_of_methodNamed B.named, fun w h => hts w (List.mem_cons_of_mem _ h), B.notSynchronized, hK⟩ (fun q h => Or.inr h) hP (hD0.self (sz := s.heap.size)) va_S.rf hl
theorem rw_ret {S : Type} {w : Nat → S → va_W} {q : Nat} {σ : S} {res : Int32 × S} {v : Int32} (C0 : Am p s m args meth c cc (some .int) nL own D ty) (hP : va_P D vwCl (w q σ) H) (hD : va_D A (w q σ)) (hS : va_S A s.heap H locs) (hv : (v, σ) = res) (hdg : decode cc pc = .ok (.ireturn, 1)) :
    W p l e R s m args below meth c H locs cells slots (RwQ below args s D A w res cells slots) (F0 m pc ls [.int v]) := by
  obtain ⟨hx, hb, hr, hml, hown, hts, hlk, hK⟩ := C0
  exact W.iret (v := v) hx hb hr (fun t ht _ => ⟨⟨v, σ, rfl, hv, q, by rw [ht]; exact hP, hD⟩, hS.F ht⟩) hS.2.2 hdg hlk
theorem rw_retz {S : Type} {w : Nat → S → va_W} {q : Nat} {σ : S} {res : Int32 × S} {v v' : Int32} (C0 : Am p s m args meth c cc (some .boolean) nL own D ty) (hP : va_P D vwCl (w q σ) H) (hD : va_D A (w q σ)) (hS : va_S A s.heap H locs) (hw : v &&& 1 = v') (hv : (v', σ) = res) (hdg : decode cc pc = .ok (.ireturn, 1)) :
    W p l e R s m args below meth c H locs cells slots (RwQ below args s D A w res cells slots) (F0 m pc ls [.int v]) := by
  obtain ⟨hx, hb, hr, hml, hown, hts, hlk, hK⟩ := C0
  exact zret_ (v := v) hx hb hr hw (fun t ht _ => ⟨⟨v', σ, rfl, hv, q, by rw [ht]; exact hP, hD⟩, hS.F ht⟩) hS.2.2 hdg hlk
theorem rw_retv {S : Type} {w : Nat → S → va_W} {q : Nat} {σ : S} {res : Int32 × S} (C0 : Am p s m args meth c cc none nL own D ty) (hP : va_P D vwCl (w q σ) H) (hD : va_D A (w q σ)) (hS : va_S A s.heap H locs) (hv : (0, σ) = res) (hdg : decode cc pc = .ok (.return_, 1)) :
    W p l e R s m args below meth c H locs cells slots (RwQv below args s D A w res cells slots) (F0 m pc ls []) := by
  obtain ⟨hx, hb, hr, hml, hown, hts, hlk, hK⟩ := C0
  exact W.vret hx hb hr (fun t ht _ => ⟨⟨σ, rfl, hv, q, by rw [ht]; exact hP, hD⟩, hS.F ht⟩) hS.2.2 hdg hlk
theorem rw_put {Wn : va_W} {C : String} {T : u_T} {N ci index : Nat} {a : Nat} {fs : List Value} {fty : FieldType} {v : Value} (C0 : Am p s m args meth c cc ret0 nL own D ty) (hP : va_P D vwCl ws H) (hD : va_D A ws) (hS : va_S A s.heap H locs) (hin : ∀ w ∈ u_ws C T N, w ∈ tb) (ty0 : Nat → FieldType) (hty : ∀ k, k < N → parseFieldDescriptor (T k).2.2.1 = some (ty0 k)) (hnm : ∀ a, a < N → ∀ b, b < N → a ≠ b → (T a).2.1 ≠ (T b).2.1)
    (q0 : Nat) (he : ws[q0]? = some (a, .inr (ci, fs))) (hc : vwCl[ci]? = some (C, T, N)) (k : Nat) (hk : k < N) (hlink : (Cond.fieldLink own index C (T k).2.1 (T k).2.2.1).before args s = true) (hsame : (T k).1 = C) (hfin : (T k).2.2.2 = false) (hd : parseFieldDescriptor (T k).2.2.1 = some fty) (hn : narrow fty v = v) (hfit : fits fty v = true) (hl : k < fs.length)
    (hdg : decode cc pc = .ok (.putfield index, 3)) (hW : ws.set q0 (a, .inr (ci, fs.set k v)) = Wn) (kk : ∀ (H1 : Heap) (locs1 : List Loc), va_P D vwCl Wn H1 → va_D A Wn → va_S A s.heap H1 locs1 → W p l e R s m args below meth c H1 locs1 cells slots Q (F0 m (pc + 3) ls rest)) : W p l e R s m args below meth c H locs cells slots Q (F0 m pc ls (v :: .ref a :: rest)) := by
  obtain ⟨hx, hb, hr, hml, hown, hts, hlk, hK⟩ := C0
  subst hW
  exact va_put hx hb hts hin ty0 hty hnm hown hK.1 hP hD hS q0 he hc k hk hlink (fun _ h => by rw [hsame] at h; exact h) hfin hd hn hfit hl hdg kk
theorem rw_iast {Wn : va_W} {a : Nat} {cA : ClassId} {n : Nat} {f : Nat → Int32} {i x : Int32} (C0 : Am p s m args meth c cc ret0 nL own D ty) (hP : va_P D vwCl ws H) (hD : va_D A ws) (hS : va_S A s.heap H locs) (q0 t0 : Nat) (ha : ws[q0]? = some (a, .inl (cA, n, .inl f))) (ht : ty[t0]? = some (cA, .int)) (hin : vp_in i n) (hdg : decode cc pc = .ok (.iastore, 1))
    (hW : ws.set q0 (a, .inl (cA, n, .inl (upd f i.toNatClampNeg x))) = Wn) (kk : ∀ (H1 : Heap) (locs1 : List Loc), va_P D vwCl Wn H1 → va_D A Wn → va_S A s.heap H1 locs1 → W p l e R s m args below meth c H1 locs1 cells slots Q (F0 m (pc + 1) ls rest)) : W p l e R s m args below meth c H locs cells slots Q (F0 m pc ls (.int x :: .int i :: .ref a :: rest)) := by
  obtain ⟨hx, hb, hr, hml, hown, hts, hlk, hK⟩ := C0
  subst hW
  exact va_iast hx hb hK.1 hP hD hS q0 t0 ha ht hin hdg kk
theorem rw_zast {Wn : va_W} {a : Nat} {cA : ClassId} {n : Nat} {f : Nat → Int32} {i x : Int32} (C0 : Am p s m args meth c cc ret0 nL own D ty) (hP : va_P D vwCl ws H) (hD : va_D A ws) (hS : va_S A s.heap H locs) (q0 t0 : Nat) (ha : ws[q0]? = some (a, .inl (cA, n, .inl f))) (ht : ty[t0]? = some (cA, .boolean)) (hin : vp_in i n) (hdg : decode cc pc = .ok (.bastore, 1))
    (hW : ws.set q0 (a, .inl (cA, n, .inl (upd f i.toNatClampNeg (vp_nar .boolean x)))) = Wn) (kk : ∀ (H1 : Heap) (locs1 : List Loc), va_P D vwCl Wn H1 → va_D A Wn → va_S A s.heap H1 locs1 → W p l e R s m args below meth c H1 locs1 cells slots Q (F0 m (pc + 1) ls rest)) : W p l e R s m args below meth c H locs cells slots Q (F0 m pc ls (.int x :: .int i :: .ref a :: rest)) := by
  obtain ⟨hx, hb, hr, hml, hown, hts, hlk, hK⟩ := C0
  subst hW
  exact va_zast hx hb hK.1 hP hD hS q0 t0 ha ht hin hdg kk
/-- invokevirtual of a method that writes -/
theorem rw_V {S : Type} {w : Nat → S → va_W} {qc : Nat} {σc : S} {res : Int32 × S} {y : MethodName} {ccy : ByteArray} {nLy : Nat} {ret : Option FieldType} {fr lc idx n ci : Nat} {As : List Value} {q : vw_C} {fs : List Value} {Wn : Nat → va_W}
    (C0 : Am p s m args meth c cc ret0 nL own D ty) (hA : ∀ q, s.heap.size ≤ q → A q) (hM : RwM l y ccy nLy ret fr lc D ty (.ref b :: As) w qc σc res) (hlk : Cond.methodLink own idx y ∈ tb) (wd : wdV y ccy nLy ret) (hy : plainY y n)
    (hR : fr + 1 ≤ R.frames ∧ 8 + (nLy + 11) + lc ≤ R.locals) (hP : va_P D vwCl ws H) (hD : va_D A ws) (hS : va_S A s.heap H locs)
    (isC isR pm : List Nat) (hC : isC.map (fun i => ws[i]?) = (w qc σc).map some) (hCd : va_nd isC = true) (hRr : isR.map (fun i => ws[i]?) = (isR.filterMap (fun i => ws[i]?)).map some) (hnd : va_nd isR = true) (hdis : ∀ i ∈ isR, i ∉ isC) (hpm : va_nd pm = true) (hW : ∀ q1, pm.map (fun i => (isR.filterMap (fun i => ws[i]?) ++ w q1 res.2)[i]?) = (Wn q1).map some)
    (hc : vwCl[ci]? = some q) (hq : q.1 = y.cls) (he : (w qc σc)[0]? = some (b, .inr (ci, fs))) (hl : lv_has ls nL lv) (hn : As.length = n) (hst : st = As.reverse ++ .ref b :: rest)
    (hr : (rest.map fun v => v.category).sum ≤ 8) (hcs : cells ≤ R.cells ∧ slots ≤ R.slots) (hdg : decode cc pc = .ok (.invokevirtual idx, 3))
    (kk : ∀ (H1 : Heap) (locs1 : List Loc) (q1 : Nat), va_P D vwCl (Wn q1) H1 → va_D A (Wn q1) → va_S A s.heap H1 locs1 → W p l e R s m args below meth c H1 locs1 cells slots Q (F0 m (pc + 3) ls (.int res.1 :: rest))) : W p l e R s m args below meth c H locs cells slots Q (F0 m pc ls st) := by
  obtain ⟨hx, hb, hr0, hml, hown, hts, hlk0, hK⟩ := C0
  obtain ⟨w1, w2, w3, w4⟩ := wd
  have cw : CallW R s args own y.cls idx y ccy nLy ret (Cond.code y ccy nLy ret :: tb) (rmK fr lc 0 0) 0 0 n :=
    ⟨callB_of n hts (gdIn w1) rfl rfl rfl (hts _ w4) (hts _ hlk) hy hR, hts _ w2, hts _ w3⟩
  have hPc := hP.pick isC hC
  have hDc := hD.sub isC hCd hC
  have hFc := va_free hD hS hA isC hC
  refine va_calli (va_runV (As := As) (rest := rest) (C := y.cls) ⟨hx, hb, hml, hown, hts⟩ (hM H.size) cw ⟨fun a U g mk h => ⟨h.1, h.2.1, h.2.2.1, KN.calling g mk a h.2.2.2.1, h.2.2.2.2⟩, by rw [← hq]; exact va_recv hK.1 hPc hc he, fun U hU hW => ⟨rfl, by rw [hU], by rw [hU]; exact hPc, KN.warm hW hK, hDc.weaken (fun _ _ _ _ => trivial)⟩⟩ rfl hn hl.1 hst (lv_room hr) hdg hcs) hS (fun q _ h => hFc q h) hFc (fun r u t H1 locs1 ht hvm hw hB hz1 hk1 hS1 => ?_)
  obtain ⟨q1, hP1, hD1⟩ := hB
  rw [ht] at hP1
  cases hw
  obtain ⟨hP2, hD2⟩ := va_join hP hD isC isR hC hRr hnd hdis hk1 hFc hP1 hD1
  exact kk H1 locs1 q1 (hP2.pick pm (hW q1)) (hD2.sub pm hpm (hW q1)) hS1
theorem rw_Vv {S : Type} {w : Nat → S → va_W} {qc : Nat} {σc : S} {res : Int32 × S} {y : MethodName} {ccy : ByteArray} {nLy : Nat} {fr lc idx n ci : Nat} {As : List Value} {q : vw_C} {fs : List Value} {Wn : Nat → va_W}
    (C0 : Am p s m args meth c cc ret0 nL own D ty) (hA : ∀ q, s.heap.size ≤ q → A q) (hM : RwMv l y ccy nLy fr lc D ty (.ref b :: As) w qc σc res) (hlk : Cond.methodLink own idx y ∈ tb) (wd : wdV y ccy nLy none) (hy : plainY y n)
    (hR : fr + 1 ≤ R.frames ∧ 8 + (nLy + 11) + lc ≤ R.locals) (hP : va_P D vwCl ws H) (hD : va_D A ws) (hS : va_S A s.heap H locs)
    (isC isR pm : List Nat) (hC : isC.map (fun i => ws[i]?) = (w qc σc).map some) (hCd : va_nd isC = true) (hRr : isR.map (fun i => ws[i]?) = (isR.filterMap (fun i => ws[i]?)).map some) (hnd : va_nd isR = true) (hdis : ∀ i ∈ isR, i ∉ isC) (hpm : va_nd pm = true) (hW : ∀ q1, pm.map (fun i => (isR.filterMap (fun i => ws[i]?) ++ w q1 res.2)[i]?) = (Wn q1).map some)
    (hc : vwCl[ci]? = some q) (hq : q.1 = y.cls) (he : (w qc σc)[0]? = some (b, .inr (ci, fs))) (hl : lv_has ls nL lv) (hn : As.length = n) (hst : st = As.reverse ++ .ref b :: rest)
    (hr : (rest.map fun v => v.category).sum ≤ 8) (hcs : cells ≤ R.cells ∧ slots ≤ R.slots) (hdg : decode cc pc = .ok (.invokevirtual idx, 3))
    (kk : ∀ (H1 : Heap) (locs1 : List Loc) (q1 : Nat), va_P D vwCl (Wn q1) H1 → va_D A (Wn q1) → va_S A s.heap H1 locs1 → W p l e R s m args below meth c H1 locs1 cells slots Q (F0 m (pc + 3) ls rest)) : W p l e R s m args below meth c H locs cells slots Q (F0 m pc ls st) := by
  obtain ⟨hx, hb, hr0, hml, hown, hts, hlk0, hK⟩ := C0
  obtain ⟨w1, w2, w3, w4⟩ := wd
  have cw : CallW R s args own y.cls idx y ccy nLy none (Cond.code y ccy nLy none :: tb) (rmK fr lc 0 0) 0 0 n :=
    ⟨callB_of n hts (gdIn w1) rfl rfl rfl (hts _ w4) (hts _ hlk) hy hR, hts _ w2, hts _ w3⟩
  have hPc := hP.pick isC hC
  have hDc := hD.sub isC hCd hC
  have hFc := va_free hD hS hA isC hC
  refine va_callv (va_runV (As := As) (rest := rest) (C := y.cls) ⟨hx, hb, hml, hown, hts⟩ (hM H.size) cw ⟨fun a U g mk h => ⟨h.1, h.2.1, h.2.2.1, KN.calling g mk a h.2.2.2.1, h.2.2.2.2⟩, by rw [← hq]; exact va_recv hK.1 hPc hc he, fun U hU hW => ⟨rfl, by rw [hU], by rw [hU]; exact hPc, KN.warm hW hK, hDc.weaken (fun _ _ _ _ => trivial)⟩⟩ rfl hn hl.1 hst (lv_room hr) hdg hcs) hS (fun q _ h => hFc q h) hFc (fun u t H1 locs1 ht hvm hw hB hz1 hk1 hS1 => ?_)
  obtain ⟨q1, hP1, hD1⟩ := hB
  rw [ht] at hP1
  cases hw
  obtain ⟨hP2, hD2⟩ := va_join hP hD isC isR hC hRr hnd hdis hk1 hFc hP1 hD1
  exact kk H1 locs1 q1 (hP2.pick pm (hW q1)) (hD2.sub pm hpm (hW q1)) hS1
end RW
-- part 05.2.base3.lean.txt
/-! Own rows: methods that throw, or make cells. -/
def exN : Nat → String
  | 1 => "java/lang/IndexOutOfBoundsException"
  | 2 => "java/lang/IllegalStateException"
  | _ => "java/lang/IllegalArgumentException"
abbrev Zs (A : Nat → Prop) (U : State) (H : Heap) : Prop := vx_Zq Bundle.tN "UNASSIGNED_STACK" Bundle.steD A U H ∧ vx_Zq Bundle.tN "SUPPRESSED_SENTINEL" Bundle.listD A U H
theorem Zs.calling {A : Nat → Prop} {U : State} (g : JFrame) (mk : MethodId) (a : Array Value) (h : Zs A U U.heap) : Zs A (U.calling g mk a) (U.calling g mk a).heap :=
  ⟨vx_Zq.moved (u := U) (U := U.calling g mk a) (Vm.Alike.refl U.vm) h.1, vx_Zq.moved (u := U) (U := U.calling g mk a) (Vm.Alike.refl U.vm) h.2⟩
section TX
variable {p : Program} {l : Launch} {e : Env} {R : Room} {s : State} {m : MethodId} {args : Array Value} {below : List Frame} {meth : Method} {c : Code} {H : Heap} {locs : List Loc} {cells slots : Nat} {Q : State → Prop}
variable {cc : ByteArray} {pc : Nat} {ls : Array Slot} {rest st : List Value} {D : va_G} {ty : List (ClassId × FieldType)} {ret0 : Option FieldType} {nL : Nat} {own : String} {lv : List (Nat × Value)} {A : Nat → Prop} {ws : va_W} {b : Addr}
abbrev TxP {S : Type} (D : va_G) (ty : List (ClassId × FieldType)) (av : List Value) (w : Nat → S → va_W) (q : Nat) (σ : S) (sz : Nat) : Array Value → State → Prop :=
  va_Pc av (fun U => U.heap.size = sz ∧ va_P D vwCl (w q σ) U.heap ∧ KN D ty U ∧ va_D (fun _ => True) (w q σ) ∧ Zs (va_A (w q σ) sz) U U.heap)
abbrev TxX {S : Type} (D : va_G) (A : Nat → Prop) (w : Nat → S → va_W) (v : Int32 ⊕ Nat) (u : S) : String → State → State → Prop :=
  vx_X (fun u' => u' = u) (fun E u' t => (∃ k, v = .inr k ∧ E = exN k) ∧ atW D A w u' t) A
/-- a method that may throw and may make cells: res is its end, the state behind it, and how many cells and slots are new -/
abbrev TxM {S : Type} (l : Launch) (y : MethodName) (cc : ByteArray) (nL : Nat) (ret : Option FieldType) (fr lc : Nat) (D : va_G) (ty : List (ClassId × FieldType)) (av : List Value) (w : Nat → S → va_W) (q : Nat) (σ : S) (res : (Int32 ⊕ Nat) × S × Nat × Nat) : Prop :=
  ∀ sz, vx_Met l y (Cond.code y cc nL ret :: tb) (rmK fr lc res.2.2.1 res.2.2.2) (TxP D ty av w q σ sz) (va_Qi (fun r u => res.1 = .inl r ∧ u = res.2.1) (atW D (va_A (w q σ) sz) w) (va_A (w q σ) sz)) (TxX D (va_A (w q σ) sz) w res.1 res.2.1) res.2.2.1 res.2.2.2 (va_A (w q σ) sz)
abbrev TxMv {S : Type} (l : Launch) (y : MethodName) (cc : ByteArray) (nL : Nat) (fr lc : Nat) (D : va_G) (ty : List (ClassId × FieldType)) (av : List Value) (w : Nat → S → va_W) (q : Nat) (σ : S) (res : (Int32 ⊕ Nat) × S × Nat × Nat) : Prop :=
  ∀ sz, vx_Met l y (Cond.code y cc nL none :: tb) (rmK fr lc res.2.2.1 res.2.2.2) (TxP D ty av w q σ sz) (va_Qv (fun u => res.1 = .inl 0 ∧ u = res.2.1) (atW D (va_A (w q σ) sz) w) (va_A (w q σ) sz)) (TxX D (va_A (w q σ) sz) w res.1 res.2.1) res.2.2.1 res.2.2.2 (va_A (w q σ) sz)
abbrev TxQ {S : Type} (below : List Frame) (args : Array Value) (s : State) (D : va_G) (A : Nat → Prop) (w : Nat → S → va_W) (v : Int32 ⊕ Nat) (u : S) (K N : Nat) : State → Prop := vx_MQ below (va_Qi (fun r u' => v = .inl r ∧ u' = u) (atW D A w) A) (TxX D A w v u) args s K N A
abbrev TxQv {S : Type} (below : List Frame) (args : Array Value) (s : State) (D : va_G) (A : Nat → Prop) (w : Nat → S → va_W) (v : Int32 ⊕ Nat) (u : S) (K N : Nat) : State → Prop := vx_MQ below (va_Qv (fun u' => v = .inl 0 ∧ u' = u) (atW D A w) A) (TxX D A w v u) args s K N A
theorem tx_of {S : Type} {y : MethodName} {ret : Option FieldType} {fr lc : Nat} {av : List Value} {w : Nat → S → va_W} {q : Nat} {σ : S} {res : (Int32 ⊕ Nat) × S × Nat × Nat} (hy : plainName y.cls = true) (hlen : (lg_sl av).length ≤ nL)
    (body : ∀ (p : Program) (e : Env) (s : State) (m : MethodId) (args : Array Value) (below : List Frame) (meth : Method) (c : Code) (ls : Array Slot) (A : Nat → Prop), Am p s m args meth c cc ret nL y.cls D ty → (∀ q, s.heap.size ≤ q → A q) → (∀ x ∈ c.exceptionTable.toList, False) → Zs A s s.heap → va_P D vwCl (w q σ) s.heap → va_D A (w q σ) → va_S A s.heap s.heap [] → lv_has ls nL (lv_args 0 av) → W p l e (rmK fr lc res.2.2.1 res.2.2.2) s m args below meth c s.heap [] 0 0 (TxQ below args s D A w res.1 res.2.1 res.2.2.1 res.2.2.2) (F0 m 0 ls [])) : TxM l y cc nL ret fr lc D ty av w q σ res := by
  intro sz
  refine vx_ofW (cc := cc) (maxL := nL) (ret := ret) hy rfl ?_
  intro p e s m args below meth c s₁ B hml hT hv
  obtain ⟨rfl, hsz, hP, hK, hD0, hZ⟩ := hv
  subst hsz
  have hts := atoms_spec (ws := Cond.code y cc nL ret :: tb) B.pre
  have hl := lv_entry av (n := nL) hlen
  rw [lg_entry_eq]
  exact body p e s m av.toArray below meth c _ _ ⟨B.exec, B.bytes, B.returns, hml, findClass_of_methodNamed B.named, fun w h => hts w (List.mem_cons_of_mem _ h), B.notSynchronized, hK⟩ (fun q h => Or.inr h) hT hZ hP (hD0.self (sz := s.heap.size)) va_S.rf hl
theorem tx_ofv {S : Type} {y : MethodName} {fr lc : Nat} {av : List Value} {w : Nat → S → va_W} {q : Nat} {σ : S} {res : (Int32 ⊕ Nat) × S × Nat × Nat} (hy : plainName y.cls = true) (hlen : (lg_sl av).length ≤ nL)
    (body : ∀ (p : Program) (e : Env) (s : State) (m : MethodId) (args : Array Value) (below : List Frame) (meth : Method) (c : Code) (ls : Array Slot) (A : Nat → Prop), Am p s m args meth c cc none nL y.cls D ty → (∀ q, s.heap.size ≤ q → A q) → (∀ x ∈ c.exceptionTable.toList, False) → Zs A s s.heap → va_P D vwCl (w q σ) s.heap → va_D A (w q σ) → va_S A s.heap s.heap [] → lv_has ls nL (lv_args 0 av) → W p l e (rmK fr lc res.2.2.1 res.2.2.2) s m args below meth c s.heap [] 0 0 (TxQv below args s D A w res.1 res.2.1 res.2.2.1 res.2.2.2) (F0 m 0 ls [])) : TxMv l y cc nL fr lc D ty av w q σ res := by
  intro sz
  refine vx_ofW (cc := cc) (maxL := nL) (ret := none) hy rfl ?_
  intro p e s m args below meth c s₁ B hml hT hv
  obtain ⟨rfl, hsz, hP, hK, hD0, hZ⟩ := hv
  subst hsz
  have hts := atoms_spec (ws := Cond.code y cc nL none :: tb) B.pre
  have hl := lv_entry av (n := nL) hlen
  rw [lg_entry_eq]
  exact body p e s m av.toArray below meth c _ _ ⟨B.exec, B.bytes, B.returns, hml, findClass_of_methodNamed B.named, fun w h => hts w (List.mem_cons_of_mem _ h), B.notSynchronized, hK⟩ (fun q h => Or.inr h) hT hZ hP (hD0.self (sz := s.heap.size)) va_S.rf hl
theorem tx_ret {S : Type} {w : Nat → S → va_W} {q : Nat} {σ : S} {v : Int32} {K N : Nat} (C0 : Am p s m args meth c cc (some .int) nL own D ty) (hP : va_P D vwCl (w q σ) H) (hD : va_D A (w q σ)) (hS : va_S A s.heap H locs) (hc : cells ≤ K) (hs : slots ≤ N) (hdg : decode cc pc = .ok (.ireturn, 1)) :
    W p l e R s m args below meth c H locs cells slots (TxQ below args s D A w (.inl v) σ K N) (F0 m pc ls [.int v]) := by
  obtain ⟨hx, hb, hr, hml, hown, hts, hlk, hK⟩ := C0
  exact W.widen hc hs (vx_ret (W.iret (v := v) hx hb hr (fun t ht _ => ⟨⟨v, σ, rfl, ⟨rfl, rfl⟩, q, by rw [ht]; exact hP, hD⟩, hS.F ht⟩) hS.2.2 hdg hlk))
theorem tx_retz {S : Type} {w : Nat → S → va_W} {q : Nat} {σ : S} {v v' : Int32} {K N : Nat} (C0 : Am p s m args meth c cc (some .boolean) nL own D ty) (hP : va_P D vwCl (w q σ) H) (hD : va_D A (w q σ)) (hS : va_S A s.heap H locs) (hw : v &&& 1 = v') (hc : cells ≤ K) (hs : slots ≤ N) (hdg : decode cc pc = .ok (.ireturn, 1)) :
    W p l e R s m args below meth c H locs cells slots (TxQ below args s D A w (.inl v') σ K N) (F0 m pc ls [.int v]) := by
  obtain ⟨hx, hb, hr, hml, hown, hts, hlk, hK⟩ := C0
  exact W.widen hc hs (vx_ret (zret_ (v := v) hx hb hr hw (fun t ht _ => ⟨⟨v', σ, rfl, ⟨rfl, rfl⟩, q, by rw [ht]; exact hP, hD⟩, hS.F ht⟩) hS.2.2 hdg hlk))
theorem tx_retv {S : Type} {w : Nat → S → va_W} {q : Nat} {σ : S} {K N : Nat} (C0 : Am p s m args meth c cc none nL own D ty) (hP : va_P D vwCl (w q σ) H) (hD : va_D A (w q σ)) (hS : va_S A s.heap H locs) (hc : cells ≤ K) (hs : slots ≤ N) (hdg : decode cc pc = .ok (.return_, 1)) :
    W p l e R s m args below meth c H locs cells slots (TxQv below args s D A w (.inl 0) σ K N) (F0 m pc ls []) := by
  obtain ⟨hx, hb, hr, hml, hown, hts, hlk, hK⟩ := C0
  exact W.widen hc hs (vx_ret (W.vret hx hb hr (fun t ht _ => ⟨⟨σ, rfl, ⟨rfl, rfl⟩, q, by rw [ht]; exact hP, hD⟩, hS.F ht⟩) hS.2.2 hdg hlk))
theorem tx_out {S : Type} {w : Nat → S → va_W} {q : Nat} {σ : S} {k K N : Nat} {ce : Cell} {q9 : Addr} {Qc : Array Value → State → Outcome → State → Prop} (C0 : Am p s m args meth c cc ret0 nL own D ty) (hT : ∀ x ∈ c.exceptionTable.toList, False) (hP : va_P D vwCl (w q σ) H) (hD : va_D A (w q σ)) (hS : va_S A s.heap H locs) (h1 : H[q9]? = some ce) (h2 : ce.vm = .none) (h3 : s.vm.findClass (exN k) = some ce.cls) (hc : cells ≤ K) (hs : slots ≤ N) :
    vx_W p l e R s m args below meth c H locs cells slots (vx_MQ below Qc (TxX D A w (.inr k) σ) args s K N A) (F0 m pc ls rest) q9 :=
  vx_out (fun x hx => (hT x hx).elim) C0.2.2.2.2.2.2.1 h1 h2 h3 (fun t ht _ => ⟨σ, rfl, ⟨⟨k, rfl, rfl⟩, q, by rw [ht]; exact hP, hD⟩, hS.F ht⟩) hS.2.2 hc hs
/-- invokevirtual of a method that may throw -/
theorem tx_V {S : Type} {w : Nat → S → va_W} {qc : Nat} {σc : S} {res : (Int32 ⊕ Nat) × S × Nat × Nat} {y : MethodName} {ccy : ByteArray} {nLy : Nat} {ret : Option FieldType} {fr lc idx n ci : Nat} {As : List Value} {q : vw_C} {fs : List Value} {Wn : Nat → va_W}
    (C0 : Am p s m args meth c cc ret0 nL own D ty) (hA : ∀ q, s.heap.size ≤ q → A q) (hZ : Zs A s s.heap) (hM : TxM l y ccy nLy ret fr lc D ty (.ref b :: As) w qc σc res) (hlk : Cond.methodLink own idx y ∈ tb) (wd : wdV y ccy nLy ret) (hy : plainY y n)
    (hR : fr + 1 ≤ R.frames ∧ 8 + (nLy + 11) + lc ≤ R.locals) (hP : va_P D vwCl ws H) (hD : va_D A ws) (hS : va_S A s.heap H locs)
    (isC isR pm : List Nat) (hC : isC.map (fun i => ws[i]?) = (w qc σc).map some) (hCd : va_nd isC = true) (hRr : isR.map (fun i => ws[i]?) = (isR.filterMap (fun i => ws[i]?)).map some) (hnd : va_nd isR = true) (hdis : ∀ i ∈ isR, i ∉ isC) (hpm : va_nd pm = true) (hW : ∀ q1, pm.map (fun i => (isR.filterMap (fun i => ws[i]?) ++ w q1 res.2.1)[i]?) = (Wn q1).map some)
    (hc : vwCl[ci]? = some q) (hq : q.1 = y.cls) (he : (w qc σc)[0]? = some (b, .inr (ci, fs))) (hl : lv_has ls nL lv) (hn : As.length = n) (hst : st = As.reverse ++ .ref b :: rest)
    (hr : (rest.map fun v => v.category).sum ≤ 8) (hcs : cells + res.2.2.1 ≤ R.cells ∧ slots + res.2.2.2 ≤ R.slots) (hdg : decode cc pc = .ok (.invokevirtual idx, 3))
    (kx : ∀ (k : Nat) (H1 : Heap) (locs1 : List Loc) (q1 : Nat) (q9 : Addr) (ce : Cell), res.1 = .inr k → va_P D vwCl (Wn q1) H1 → va_D A (Wn q1) → va_S A s.heap H1 locs1 → H1[q9]? = some ce → ce.vm = .none → s.vm.findClass (exN k) = some ce.cls → vx_W p l e R s m args below meth c H1 locs1 (cells + res.2.2.1) (slots + res.2.2.2) Q (F0 m pc ls rest) q9)
    (kk : ∀ (r : Int32) (H1 : Heap) (locs1 : List Loc) (q1 : Nat), res.1 = .inl r → va_P D vwCl (Wn q1) H1 → va_D A (Wn q1) → va_S A s.heap H1 locs1 → W p l e R s m args below meth c H1 locs1 (cells + res.2.2.1) (slots + res.2.2.2) Q (F0 m (pc + 3) ls (.int r :: rest))) : W p l e R s m args below meth c H locs cells slots Q (F0 m pc ls st) := by
  obtain ⟨hx, hb, hr0, hml, hown, hts, hlk0, hK⟩ := C0
  obtain ⟨w1, w2, w3, w4⟩ := wd
  have cw : CallW R s args own y.cls idx y ccy nLy ret (Cond.code y ccy nLy ret :: tb) (rmK fr lc res.2.2.1 res.2.2.2) res.2.2.1 res.2.2.2 n :=
    ⟨callB_of n hts (gdIn w1) rfl rfl rfl (hts _ w4) (hts _ hlk) hy hR, hts _ w2, hts _ w3⟩
  have hPc := hP.pick isC hC
  have hDc := hD.sub isC hCd hC
  have hFc := va_free hD hS hA isC hC
  have hZ1 : Zs (va_A (w qc σc) H.size) s H := ⟨(hZ.1.kept hS.2.1).narrow hFc, (hZ.2.kept hS.2.1).narrow hFc⟩
  refine vx_calli (vx_runV (As := As) (rest := rest) (C := y.cls) ⟨hx, hb, hml, hown, hts⟩ (hM H.size) cw ⟨fun a U g mk h => ⟨h.1, h.2.1, h.2.2.1, KN.calling g mk a h.2.2.2.1, h.2.2.2.2.1, Zs.calling g mk a h.2.2.2.2.2⟩, by rw [← hq]; exact va_recv hK.1 hPc hc he, fun U hU hW => ⟨rfl, by rw [hU], by rw [hU]; exact hPc, KN.warm hW hK, hDc.weaken (fun _ _ _ _ => trivial), by rw [hU]; exact ⟨hZ1.1.moved hW.alike, hZ1.2.moved hW.alike⟩⟩⟩ rfl hn hl.1 hst (lv_room hr) hdg hcs) hS (fun q _ h => hFc q h) hFc (fun q _ h => hFc q h) (fun E ce q9 u t H1 locs1 ht hvm hw hB hz1 hk1 hS1 g1 g2 g3 => ?_) (fun r u t H1 locs1 ht hvm hw hB hz1 hk1 hS1 => ?_)
  · obtain ⟨⟨k, hk, rfl⟩, q1, hP1, hD1⟩ := hB
    rw [ht] at hP1
    subst hw
    obtain ⟨hP2, hD2⟩ := va_join hP hD isC isR hC hRr hnd hdis hk1 hFc hP1 hD1
    exact kx k H1 locs1 q1 q9 ce hk (hP2.pick pm (hW q1)) (hD2.sub pm hpm (hW q1)) hS1 g1 g2 g3
  · obtain ⟨q1, hP1, hD1⟩ := hB
    rw [ht] at hP1
    obtain ⟨hv, rfl⟩ := hw
    obtain ⟨hP2, hD2⟩ := va_join hP hD isC isR hC hRr hnd hdis hk1 hFc hP1 hD1
    exact kk r H1 locs1 q1 hv (hP2.pick pm (hW q1)) (hD2.sub pm hpm (hW q1)) hS1
theorem tx_Vv {S : Type} {w : Nat → S → va_W} {qc : Nat} {σc : S} {res : (Int32 ⊕ Nat) × S × Nat × Nat} {y : MethodName} {ccy : ByteArray} {nLy : Nat} {fr lc idx n ci : Nat} {As : List Value} {q : vw_C} {fs : List Value} {Wn : Nat → va_W}
    (C0 : Am p s m args meth c cc ret0 nL own D ty) (hA : ∀ q, s.heap.size ≤ q → A q) (hZ : Zs A s s.heap) (hM : TxMv l y ccy nLy fr lc D ty (.ref b :: As) w qc σc res) (hlk : Cond.methodLink own idx y ∈ tb) (wd : wdV y ccy nLy none) (hy : plainY y n)
    (hR : fr + 1 ≤ R.frames ∧ 8 + (nLy + 11) + lc ≤ R.locals) (hP : va_P D vwCl ws H) (hD : va_D A ws) (hS : va_S A s.heap H locs)
    (isC isR pm : List Nat) (hC : isC.map (fun i => ws[i]?) = (w qc σc).map some) (hCd : va_nd isC = true) (hRr : isR.map (fun i => ws[i]?) = (isR.filterMap (fun i => ws[i]?)).map some) (hnd : va_nd isR = true) (hdis : ∀ i ∈ isR, i ∉ isC) (hpm : va_nd pm = true) (hW : ∀ q1, pm.map (fun i => (isR.filterMap (fun i => ws[i]?) ++ w q1 res.2.1)[i]?) = (Wn q1).map some)
    (hc : vwCl[ci]? = some q) (hq : q.1 = y.cls) (he : (w qc σc)[0]? = some (b, .inr (ci, fs))) (hl : lv_has ls nL lv) (hn : As.length = n) (hst : st = As.reverse ++ .ref b :: rest)
    (hr : (rest.map fun v => v.category).sum ≤ 8) (hcs : cells + res.2.2.1 ≤ R.cells ∧ slots + res.2.2.2 ≤ R.slots) (hdg : decode cc pc = .ok (.invokevirtual idx, 3))
    (kx : ∀ (k : Nat) (H1 : Heap) (locs1 : List Loc) (q1 : Nat) (q9 : Addr) (ce : Cell), res.1 = .inr k → va_P D vwCl (Wn q1) H1 → va_D A (Wn q1) → va_S A s.heap H1 locs1 → H1[q9]? = some ce → ce.vm = .none → s.vm.findClass (exN k) = some ce.cls → vx_W p l e R s m args below meth c H1 locs1 (cells + res.2.2.1) (slots + res.2.2.2) Q (F0 m pc ls rest) q9)
    (kk : ∀ (r : Int32) (H1 : Heap) (locs1 : List Loc) (q1 : Nat), res.1 = .inl r → va_P D vwCl (Wn q1) H1 → va_D A (Wn q1) → va_S A s.heap H1 locs1 → W p l e R s m args below meth c H1 locs1 (cells + res.2.2.1) (slots + res.2.2.2) Q (F0 m (pc + 3) ls rest)) : W p l e R s m args below meth c H locs cells slots Q (F0 m pc ls st) := by
  obtain ⟨hx, hb, hr0, hml, hown, hts, hlk0, hK⟩ := C0
  obtain ⟨w1, w2, w3, w4⟩ := wd
  have cw : CallW R s args own y.cls idx y ccy nLy none (Cond.code y ccy nLy none :: tb) (rmK fr lc res.2.2.1 res.2.2.2) res.2.2.1 res.2.2.2 n :=
    ⟨callB_of n hts (gdIn w1) rfl rfl rfl (hts _ w4) (hts _ hlk) hy hR, hts _ w2, hts _ w3⟩
  have hPc := hP.pick isC hC
  have hDc := hD.sub isC hCd hC
  have hFc := va_free hD hS hA isC hC
  have hZ1 : Zs (va_A (w qc σc) H.size) s H := ⟨(hZ.1.kept hS.2.1).narrow hFc, (hZ.2.kept hS.2.1).narrow hFc⟩
  refine vx_callv (vx_runV (As := As) (rest := rest) (C := y.cls) ⟨hx, hb, hml, hown, hts⟩ (hM H.size) cw ⟨fun a U g mk h => ⟨h.1, h.2.1, h.2.2.1, KN.calling g mk a h.2.2.2.1, h.2.2.2.2.1, Zs.calling g mk a h.2.2.2.2.2⟩, by rw [← hq]; exact va_recv hK.1 hPc hc he, fun U hU hW => ⟨rfl, by rw [hU], by rw [hU]; exact hPc, KN.warm hW hK, hDc.weaken (fun _ _ _ _ => trivial), by rw [hU]; exact ⟨hZ1.1.moved hW.alike, hZ1.2.moved hW.alike⟩⟩⟩ rfl hn hl.1 hst (lv_room hr) hdg hcs) hS (fun q _ h => hFc q h) hFc (fun q _ h => hFc q h) (fun E ce q9 u t H1 locs1 ht hvm hw hB hz1 hk1 hS1 g1 g2 g3 => ?_) (fun u t H1 locs1 ht hvm hw hB hz1 hk1 hS1 => ?_)
  · obtain ⟨⟨k, hk, rfl⟩, q1, hP1, hD1⟩ := hB
    rw [ht] at hP1
    subst hw
    obtain ⟨hP2, hD2⟩ := va_join hP hD isC isR hC hRr hnd hdis hk1 hFc hP1 hD1
    exact kx k H1 locs1 q1 q9 ce hk (hP2.pick pm (hW q1)) (hD2.sub pm hpm (hW q1)) hS1 g1 g2 g3
  · obtain ⟨q1, hP1, hD1⟩ := hB
    rw [ht] at hP1
    obtain ⟨hv, rfl⟩ := hw
    obtain ⟨hP2, hD2⟩ := va_join hP hD isC isR hC hRr hnd hdis hk1 hFc hP1 hD1
    exact kk 0 H1 locs1 q1 hv (hP2.pick pm (hW q1)) (hD2.sub pm hpm (hW q1)) hS1
end TX
-- part 05.3.ctor.lean.txt
/-! Own rows: what constructors need. -/
section CT
variable {p : Program} {l : Launch} {e : Env} {R : Room} {s : State} {m : MethodId} {args : Array Value} {below : List Frame} {meth : Method} {c : Code} {H : Heap} {locs : List Loc} {cells slots : Nat} {Q Q2 : State → Prop}
variable {cc : ByteArray} {pc : Nat} {ls : Array Slot} {rest st : List Value} {D : va_G} {ty : List (ClassId × FieldType)} {ret0 : Option FieldType} {nL : Nat} {own : String} {lv : List (Nat × Value)} {A : Nat → Prop} {ws : va_W} {b : Addr}
theorem W.imp {g : JFrame} (h : ∀ t, Q t → Q2 t) (k : W p l e R s m args below meth c H locs cells slots Q g) : W p l e R s m args below meth c H locs cells slots Q2 g := by
  intro T hT X
  obtain ⟨t, a, b⟩ := k T hT X
  exact ⟨t, a, h t b⟩
/-- a new array of a class that is known -/
theorem mk_int {cA : ClassId} {N : Nat} {n : Int32} (C0 : Am p s m args meth c cc ret0 nL own D ty) (t0 : Nat) (ht : ty[t0]? = some (cA, .int)) (hw : Cond.arrayClass .int ∈ tb) (hP : va_P D vwCl ws H) (hD : va_D A ws) (hS : va_S A s.heap H locs) (hA : ∀ q, s.heap.size ≤ q → A q) (hn : ¬ n < 0) (hN : n.toNatClampNeg = N) (hby : N * componentBytes .int ≤ 536870912) (hc : cells + 1 ≤ R.cells) (hs : slots + N ≤ R.slots) (hdg : decode cc pc = .ok (.newarray .int, 2))
    (kk : ∀ (q : Nat) (H1 : Heap), va_P D vwCl (ws ++ [(q, .inl (cA, N, .inl (fun _ => 0)))]) H1 → va_D A (ws ++ [(q, .inl (cA, N, .inl (fun _ => 0)))]) → va_S A s.heap H1 locs → W p l e R s m args below meth c H1 locs (cells + 1) (slots + N) Q (F0 m (pc + 2) ls (.ref q :: rest))) : W p l e R s m args below meth c H locs cells slots Q (F0 m pc ls (.int n :: rest)) := by
  obtain ⟨hx, hb, hr, hml, hown, hts, hlk, hK⟩ := C0
  refine va_newa (atype := .int) (ty := .int) (a0 := (N, .inl (fun _ => 0))) hx hb (hts _ hw) rfl hK.1 hP hD hS hA (fun cA => rfl) hn hN hby hc hs hdg (fun q cA' H1 hK' hP hD hS => ?_)
  have h1 := (hK.1.2 t0 _ ht).2
  have h2 := (hK'.2 ty.length (cA', .int) (by simp)).2
  have e1 : cA' = cA := Option.some.inj (h2.symm.trans h1)
  subst e1
  exact kk q H1 hP hD hS
theorem mk_bool {cA : ClassId} {N : Nat} {n : Int32} (C0 : Am p s m args meth c cc ret0 nL own D ty) (t0 : Nat) (ht : ty[t0]? = some (cA, .boolean)) (hw : Cond.arrayClass .boolean ∈ tb) (hP : va_P D vwCl ws H) (hD : va_D A ws) (hS : va_S A s.heap H locs) (hA : ∀ q, s.heap.size ≤ q → A q) (hn : ¬ n < 0) (hN : n.toNatClampNeg = N) (hby : N * componentBytes .boolean ≤ 536870912) (hc : cells + 1 ≤ R.cells) (hs : slots + N ≤ R.slots) (hdg : decode cc pc = .ok (.newarray .boolean, 2))
    (kk : ∀ (q : Nat) (H1 : Heap), va_P D vwCl (ws ++ [(q, .inl (cA, N, .inl (fun _ => 0)))]) H1 → va_D A (ws ++ [(q, .inl (cA, N, .inl (fun _ => 0)))]) → va_S A s.heap H1 locs → W p l e R s m args below meth c H1 locs (cells + 1) (slots + N) Q (F0 m (pc + 2) ls (.ref q :: rest))) : W p l e R s m args below meth c H locs cells slots Q (F0 m pc ls (.int n :: rest)) := by
  obtain ⟨hx, hb, hr, hml, hown, hts, hlk, hK⟩ := C0
  refine va_newa (atype := .boolean) (ty := .boolean) (a0 := (N, .inl (fun _ => 0))) hx hb (hts _ hw) rfl hK.1 hP hD hS hA (fun cA => rfl) hn hN hby hc hs hdg (fun q cA' H1 hK' hP hD hS => ?_)
  have h1 := (hK.1.2 t0 _ ht).2
  have h2 := (hK'.2 ty.length (cA', .boolean) (by simp)).2
  have e1 : cA' = cA := Option.some.inj (h2.symm.trans h1)
  subst e1
  exact kk q H1 hP hD hS
theorem rw_putF {Wn : va_W} {C : String} {T : u_T} {N ci index : Nat} {a : Nat} {fs : List Value} {fty : FieldType} {v : Value} (C0 : Am p s m args meth c cc ret0 nL own D ty) (hin2 : meth.name = "<init>") (hP : va_P D vwCl ws H) (hD : va_D A ws) (hS : va_S A s.heap H locs) (hin : ∀ w ∈ u_ws C T N, w ∈ tb) (ty0 : Nat → FieldType) (hty : ∀ k, k < N → parseFieldDescriptor (T k).2.2.1 = some (ty0 k)) (hnm : ∀ a, a < N → ∀ b, b < N → a ≠ b → (T a).2.1 ≠ (T b).2.1)
    (q0 : Nat) (he : ws[q0]? = some (a, .inr (ci, fs))) (hc : vwCl[ci]? = some (C, T, N)) (k : Nat) (hk : k < N) (hlink : (Cond.fieldLink own index C (T k).2.1 (T k).2.2.1).before args s = true) (hsame : (T k).1 = C) (hown2 : C = own) (hfin : (T k).2.2.2 = true) (hd : parseFieldDescriptor (T k).2.2.1 = some fty) (hn : narrow fty v = v) (hfit : fits fty v = true) (hl : k < fs.length)
    (hdg : decode cc pc = .ok (.putfield index, 3)) (hW : ws.set q0 (a, .inr (ci, fs.set k v)) = Wn) (kk : ∀ (H1 : Heap) (locs1 : List Loc), va_P D vwCl Wn H1 → va_D A Wn → va_S A s.heap H1 locs1 → W p l e R s m args below meth c H1 locs1 cells slots Q (F0 m (pc + 3) ls rest)) : W p l e R s m args below meth c H locs cells slots Q (F0 m pc ls (v :: .ref a :: rest)) := by
  obtain ⟨hx, hb, hr, hml, hown, hts, hlk, hK⟩ := C0
  subst hW
  exact va_putF hx hb hts hin ty0 hty hnm hown hK.1 hP hD hS q0 he hc k hk hlink (fun _ h => by rw [hsame] at h; exact h) hfin hin2 (hsame.trans hown2) hd hn hfit hl hdg kk
end CT
-- part 05.4.jdk.lean.txt
/-! Own rows: System.arraycopy, Arrays.fill, Arrays.copyOf. -/
section JD
variable {p : Program} {l : Launch} {e : Env} {R : Room} {s : State} {m : MethodId} {args : Array Value} {below : List Frame} {meth : Method} {c : Code} {H : Heap} {locs : List Loc} {cells slots : Nat} {Q : State → Prop}
variable {cc : ByteArray} {pc : Nat} {ls : Array Slot} {rest st : List Value} {D : va_G} {ty : List (ClassId × FieldType)} {ret0 : Option FieldType} {nL : Nat} {own : String} {lv : List (Nat × Value)} {A : Nat → Prop} {ws : va_W} {b : Addr}
theorem rw_copy {Wn : va_W} {a0 a1 : Nat} {c0 c1 : ClassId} {n0 n1 index : Nat} {f g : Nat → Int32} {sp dp n : Int32} (C0 : Am p s m args meth c cc ret0 nL own D ty) (hl : lv_has ls nL lv) (hP : va_P D vwCl ws H) (hD : va_D A ws) (hS : va_S A s.heap H locs) (q0 q1 t0 t1 : Nat)
    (ha0 : ws[q0]? = some (a0, .inl (c0, n0, .inl f))) (ha1 : ws[q1]? = some (a1, .inl (c1, n1, .inl g))) (ht0 : ty[t0]? = some (c0, .int)) (ht1 : ty[t1]? = some (c1, .int))
    (hi : ¬ (sp < 0 ∨ dp < 0 ∨ n < 0 ∨ n0 < sp.toNatClampNeg + n.toNatClampNeg ∨ n1 < dp.toNatClampNeg + n.toNatClampNeg))
    (hlink : (Cond.methodLink own index arraycopyName).before args s = true) (hnat : (Cond.native arraycopyName).before args s = true) (hstat : (Cond.static arraycopyName).before args s = true) (hini : (Cond.initialized "java/lang/System").before args s = true)
    (hfr : 1 ≤ R.frames) (hlo : (rest.map fun v => v.category).sum + (nativeFrameWords "java/lang/System" "arraycopy" 5 + 11) ≤ R.locals) (hdg : decode cc pc = .ok (.invokestatic index, 3))
    (hW : ws.set q1 (a1, .inl (c1, n1, .inl (va_cpy f g sp.toNatClampNeg dp.toNatClampNeg n.toNatClampNeg))) = Wn)
    (kk : ∀ (H1 : Heap) (locs1 : List Loc), va_P D vwCl Wn H1 → va_D A Wn → va_S A s.heap H1 locs1 → W p l e R s m args below meth c H1 locs1 cells slots Q (F0 m (pc + 3) ls rest)) : W p l e R s m args below meth c H locs cells slots Q (F0 m pc ls (.int n :: .int dp :: .ref a1 :: .int sp :: .ref a0 :: rest)) := by
  obtain ⟨hx, hb, hr, hml, hown, hts, hlk, hK⟩ := C0
  subst hW
  simp only [not_or] at hi
  obtain ⟨h1, h2, h3, h4, h5⟩ := hi
  exact va_copyi hx hb (hml.trans hl.1.symm) hown hlink hnat hstat hini hK.1 hP hD hS q0 q1 t0 t1 ha0 ha1 ht0 ht1 rfl h1 h2 h3 (Nat.not_lt.mp h4) (Nat.not_lt.mp h5) (fun _ _ => rfl) hfr hlo hdg kk
/-- invokestatic of a method that writes -/
theorem rw_Sv {S : Type} {w : Nat → S → va_W} {qc : Nat} {σc : S} {res : Int32 × S} {y : MethodName} {ccy : ByteArray} {nLy : Nat} {fr lc idx n : Nat} {As : List Value} {Wn : Nat → va_W}
    (C0 : Am p s m args meth c cc ret0 nL own D ty) (hA : ∀ q, s.heap.size ≤ q → A q) (hM : RwMv l y ccy nLy fr lc D ty As w qc σc res) (hlk : Cond.methodLink own idx y ∈ tb) (wd : wdS y ccy nLy none) (hy : plainY y n)
    (hR : fr + 1 ≤ R.frames ∧ 8 + (nLy + 11) + lc ≤ R.locals) (hP : va_P D vwCl ws H) (hD : va_D A ws) (hS : va_S A s.heap H locs)
    (isC isR pm : List Nat) (hC : isC.map (fun i => ws[i]?) = (w qc σc).map some) (hCd : va_nd isC = true) (hRr : isR.map (fun i => ws[i]?) = (isR.filterMap (fun i => ws[i]?)).map some) (hnd : va_nd isR = true) (hdis : ∀ i ∈ isR, i ∉ isC) (hpm : va_nd pm = true) (hW : ∀ q1, pm.map (fun i => (isR.filterMap (fun i => ws[i]?) ++ w q1 res.2)[i]?) = (Wn q1).map some)
    (hl : lv_has ls nL lv) (hn : As.length = n) (hst : st = As.reverse ++ rest)
    (hr : (rest.map fun v => v.category).sum ≤ 8) (hcs : cells ≤ R.cells ∧ slots ≤ R.slots) (hdg : decode cc pc = .ok (.invokestatic idx, 3))
    (kk : ∀ (H1 : Heap) (locs1 : List Loc) (q1 : Nat), va_P D vwCl (Wn q1) H1 → va_D A (Wn q1) → va_S A s.heap H1 locs1 → W p l e R s m args below meth c H1 locs1 cells slots Q (F0 m (pc + 3) ls rest)) : W p l e R s m args below meth c H locs cells slots Q (F0 m pc ls st) := by
  obtain ⟨hx, hb, hr0, hml, hown, hts, hlk0, hK⟩ := C0
  obtain ⟨w1, w2, w3⟩ := wd
  have cw : CallB R s args own idx y ccy nLy none (Cond.code y ccy nLy none :: tb) (rmK fr lc 0 0) 0 0 n ∧ (Cond.static y).before args s = true :=
    ⟨callB_of n hts (gdIn w1) rfl rfl rfl (hts _ w3) (hts _ hlk) hy hR, hts _ w2⟩
  have hPc := hP.pick isC hC
  have hDc := hD.sub isC hCd hC
  have hFc := va_free hD hS hA isC hC
  refine va_callv (va_runS (As := As) (rest := rest) ⟨hx, hb, hml, hown, hts⟩ (hM H.size) cw ⟨fun a U g mk h => ⟨h.1, h.2.1, h.2.2.1, KN.calling g mk a h.2.2.2.1, h.2.2.2.2⟩, fun U hU hW => ⟨rfl, by rw [hU], by rw [hU]; exact hPc, KN.warm hW hK, hDc.weaken (fun _ _ _ _ => trivial)⟩⟩ rfl hn hl.1 hst (lv_room hr) hdg hcs) hS (fun q _ h => hFc q h) hFc (fun u t H1 locs1 ht hvm hw hB hz1 hk1 hS1 => ?_)
  obtain ⟨q1, hP1, hD1⟩ := hB
  rw [ht] at hP1
  cases hw
  obtain ⟨hP2, hD2⟩ := va_join hP hD isC isR hC hRr hnd hdis hk1 hFc hP1 hD1
  exact kk H1 locs1 q1 (hP2.pick pm (hW q1)) (hD2.sub pm hpm (hW q1)) hS1
end JD
abbrev wF (cI : ClassId) (b ln : Nat) (_ : Nat) (f : Nat → Int32) : va_W := [(b, .inl (cI, ln, .inl f))]
theorem fill_up (f : Nat → Int32) (v : Int32) (i : Nat) : upd (J_fill f i v) i v = J_fill f (i + 1) v := by
  funext j
  unfold upd J_fill
  by_cases h : j = i
  · subst h; simp
  · by_cases h2 : j < i
    · simp [h, h2, Nat.lt_succ_of_lt h2]
    · have h3 : ¬ j < i + 1 := by omega
      simp [h, h2, h3]
set_option maxHeartbeats 4000000 in
set_option maxRecDepth 100000 in
theorem t_J_fill_5 {p : Program} {l : Launch} {e : Env} {s : State} {m : MethodId} {args : Array Value} {below : List Frame} {meth : Method} {c : Code} {D : va_G} {cI cZ : ClassId} {A : Nat → Prop} {b ln : Nat} {f : Nat → Int32} {v : Int32} (C0 : Am p s m args meth c b_J_fill none 4 "java/util/Arrays" D [(cI, .int), (cZ, .boolean)]) (hln : ln < 2 ^ 31) :
    ∀ (n i : Nat) (H : Heap) (locs : List Loc) (ls : Array Slot), i + n = ln → va_P D vwCl (wF cI b ln 0 (J_fill f i v)) H → va_D A (wF cI b ln 0 (J_fill f i v)) → va_S A s.heap H locs → lv_has ls 4 [(0, .ref b), (1, .int v), (2, .int (nI i)), (3, .int (nI ln))] →
      W p l e (rmK 0 0 0 0) s m args below meth c H locs 0 0 (RwQv below args s D A (fun q f => wF cI b ln q f) (0, J_fill f ln v) 0 0) (F0 m 5 ls []) := by
  obtain ⟨hx, hb, hr, hml, hown, hts, hlk, hK⟩ := id C0
  intro n
  induction n with
  | zero =>
    intro i H locs ls hi hP hD hS hl
    have e1 : i = ln := by omega
    subst e1
    refine lv_iload_n hx hb d_J_fill_5 rfl (lv_at hl 2 rfl) ?_
    refine lv_iload_n hx hb d_J_fill_6 rfl (lv_at hl 3 rfl) ?_
    refine lv_icmp_ge (tgt := 20) hx hb d_J_fill_7 (by decide) (fun hc => ?_) (fun hc => absurd (nI_le (Nat.le_refl i) hln) hc)
    exact rw_retv (w := fun q f => wF cI b i q f) (q := 0) C0 hP hD hS rfl d_J_fill_20
  | succ n ih =>
    intro i H locs ls hi hP hD hS hl
    refine lv_iload_n hx hb d_J_fill_5 rfl (lv_at hl 2 rfl) ?_
    refine lv_iload_n hx hb d_J_fill_6 rfl (lv_at hl 3 rfl) ?_
    refine lv_icmp_ge (tgt := 20) hx hb d_J_fill_7 (by decide) (fun hc => absurd hc (nI_ge (by omega) hln)) (fun hc => ?_)
    refine lv_aload_n hx hb d_J_fill_10 rfl (lv_at hl 0 rfl) ?_
    refine lv_iload_n hx hb d_J_fill_11 rfl (lv_at hl 2 rfl) ?_
    refine lv_iload_n hx hb d_J_fill_12 rfl (lv_at hl 1 rfl) ?_
    have hin : vp_in (nI i) ln := vp_in_nI (by omega) hln
    refine rw_iast C0 hP hD hS 0 0 rfl rfl hin d_J_fill_13 (Wn := wF cI b ln 0 (J_fill f (i + 1) v)) (by rw [nI_clamp (by omega), fill_up]; rfl) (fun H locs hP hD hS => ?_)
    refine lv_iinc (v := nI (i + 1)) (lv' := [(2, .int (nI (i + 1))), (0, .ref b), (1, .int v), (3, .int (nI ln))]) hx hb d_J_fill_14 hl (k := 2) rfl (nI_1 i) (by decide) rfl (fun ls hl => ?_)
    refine lv_goto (tgt := 5) hx hb d_J_fill_17 (by decide) ?_
    exact ih (i + 1) H locs ls (by omega) hP hD hS (lv_sub hl [1, 2, 0, 3] rfl)
theorem fill_0 (f : Nat → Int32) (v : Int32) : J_fill f 0 v = f := by
  funext j; simp [J_fill]
set_option maxHeartbeats 4000000 in
set_option maxRecDepth 100000 in
/-- Arrays.fill(int[], int) -/
theorem c_J_fill (l : Launch) (D : va_G) (cI cZ : ClassId) (b ln : Nat) (f : Nat → Int32) (v : Int32) (hln : ln < 2 ^ 31) : RwMv l y_J_fill b_J_fill 4 0 0 D [(cI, .int), (cZ, .boolean)] [.ref b, .int v] (fun q f => wF cI b ln q f) 0 f (0, J_fill f ln v) :=
  rw_ofv (by decide) (Nat.le_of_ble_eq_true rfl) (fun p e s m args below meth c ls A C0 hA hP hD hS hl => by
    obtain ⟨hx, hb, hr, hml, hown, hts, hlk, hK⟩ := id C0
    refine lv_iconst (v := 0) hx hb d_J_fill_0 (by decide) ?_
    refine lv_istore_n (lv' := [(2, .int 0), (0, .ref b), (1, .int v)]) hx hb d_J_fill_1 rfl hl (by decide) rfl (fun ls hl => ?_)
    refine lv_aload_n hx hb d_J_fill_2 rfl (lv_at hl 1 rfl) ?_
    refine va_alen hx hb hK.1 hP 0 0 rfl rfl rfl d_J_fill_3 ?_
    refine lv_istore_n (lv' := [(3, .int (nI ln)), (2, .int 0), (0, .ref b), (1, .int v)]) hx hb d_J_fill_4 rfl hl (by decide) rfl (fun ls hl => ?_)
    have hP : va_P D vwCl (wF cI b ln 0 (J_fill f 0 v)) s.heap := by rw [fill_0]; exact hP
    have hD : va_D A (wF cI b ln 0 (J_fill f 0 v)) := by rw [fill_0]; exact hD
    exact t_J_fill_5 C0 hln ln 0 _ _ ls (by omega) hP hD hS (lv_sub hl [2, 3, 1, 0] rfl))
-- part 05.5.copyof.lean.txt
/-! Own rows: Arrays.copyOf(int[], int) where the length changes. -/
abbrev wN (cI : ClassId) (ln : Nat) (f : Nat → Int32) (n : Int32) (qn : Nat) : va_W := [(qn, .inl (cI, n.toNatClampNeg, .inl (J_copyOf f ln n)))]
theorem cp_min {ln : Nat} {n : Int32} (hln : ln < 2 ^ 31) (hn : ¬ n < 0) : (if n < Int32.ofNat ln then n else Int32.ofNat ln).toNatClampNeg = min ln n.toNatClampNeg := by
  obtain ⟨j, hj, rfl⟩ := nI_of hn
  show (if nI j < nI ln then nI j else nI ln).toNatClampNeg = _
  by_cases h : nI j < nI ln
  · rw [if_pos h, nI_clamp hj]
    have := (nI_ltI hj hln).mp h
    omega
  · rw [if_neg h, nI_clamp hj, nI_clamp hln]
    have : ¬ j < ln := fun z => h ((nI_ltI hj hln).mpr z)
    omega
theorem cp_pos {ln : Nat} {n : Int32} (hln : ln < 2 ^ 31) (hn : ¬ n < 0) : ¬ (if n < Int32.ofNat ln then n else Int32.ofNat ln) < 0 := by
  by_cases h : n < Int32.ofNat ln
  · rw [if_pos h]; exact hn
  · rw [if_neg h]; exact nI_pos hln
set_option maxHeartbeats 4000000 in
set_option maxRecDepth 100000 in
theorem c_J_copyOf (l : Launch) (D : va_G) (cI cZ : ClassId) (b ln : Nat) (f : Nat → Int32) (n : Int32) (hln : ln < 2 ^ 31) (hn : ¬ n < 0) (hne : ¬ n = Int32.ofNat ln) (hby : n.toNatClampNeg * componentBytes .int ≤ 536870912) :
    ∀ sz, Met l y_J_copyOf (Cond.code y_J_copyOf b_J_copyOf 3 (some (.array .int)) :: tb) (rmK 1 60 1 n.toNatClampNeg) (RwP D [(cI, .int), (cZ, .boolean)] [.ref b, .int n] (fun q f => wF cI b ln q f) 0 f sz)
      (va_Qr (fun _ : Unit => True) (fun _ qn t => va_P D vwCl [(b, .inl (cI, ln, .inl f)), (qn, .inl (cI, n.toNatClampNeg, .inl (J_copyOf f ln n)))] t.heap ∧ va_D (va_A (wF cI b ln 0 f) sz) [(b, .inl (cI, ln, .inl f)), (qn, .inl (cI, n.toNatClampNeg, .inl (J_copyOf f ln n)))]) (va_A (wF cI b ln 0 f) sz)) 1 n.toNatClampNeg (va_A (wF cI b ln 0 f) sz) := by
  intro sz
  refine Met.ofW (cc := b_J_copyOf) (maxL := 3) (ret := some (.array .int)) (by decide) rfl ?_
  intro p e s m args below meth c s₁ B hml hv
  obtain ⟨rfl, hsz, hP, hK, hD0⟩ := hv
  subst hsz
  have hts0 := atoms_spec (ws := Cond.code y_J_copyOf b_J_copyOf 3 (some (.array .int)) :: tb) B.pre
  have hl := lv_entry [.ref b, .int n] (n := 3) (Nat.le_of_ble_eq_true rfl)
  rw [lg_entry_eq]
  generalize (lg_sl [.ref b, .int n] ++ List.replicate (3 - (lg_sl [.ref b, .int n]).length) Slot.unset).toArray = ls at hl ⊢
  have hl : lv_has ls 3 [(0, .ref b), (1, .int n)] := hl
  have C0 : Am p s m [.ref b, .int n].toArray meth c b_J_copyOf (some (.array .int)) 3 "java/util/Arrays" D [(cI, .int), (cZ, .boolean)] := ⟨B.exec, B.bytes, B.returns, hml, findClass_of_methodNamed B.named, fun w h => hts0 w (List.mem_cons_of_mem _ h), B.notSynchronized, hK⟩
  obtain ⟨hx, hb, hr, hml, hown, hts, hlk, hK⟩ := id C0
  have hD := hD0.self (sz := s.heap.size)
  have hS : va_S (va_A (wF cI b ln 0 f) s.heap.size) s.heap s.heap [] := va_S.rf
  have hA : ∀ q, s.heap.size ≤ q → va_A (wF cI b ln 0 f) s.heap.size q := fun q h => Or.inr h
  refine lv_iload_n hx hb d_J_copyOf_0 rfl (lv_at hl 1 rfl) ?_
  refine lv_aload_n hx hb d_J_copyOf_1 rfl (lv_at hl 0 rfl) ?_
  refine va_alen hx hb hK.1 hP 0 0 rfl rfl rfl d_J_copyOf_2 ?_
  refine lv_icmp_ne (tgt := 14) hx hb d_J_copyOf_3 (by decide) (fun hc => ?_) (fun hc => absurd hc hne)
  refine lv_iload_n hx hb d_J_copyOf_14 rfl (lv_at hl 1 rfl) ?_
  refine mk_int C0 0 rfl wd_arrI hP hD hS hA hn rfl hby (by show 0 + 1 ≤ 1; omega) (by show 0 + n.toNatClampNeg ≤ n.toNatClampNeg; omega) d_J_copyOf_15 (fun q H hP hD hS => ?_)
  refine lv_astore_n (lv' := [(2, .ref q), (0, .ref b), (1, .int n)]) hx hb d_J_copyOf_17 rfl hl (by decide) rfl (fun ls hl => ?_)
  refine lv_aload_n hx hb d_J_copyOf_18 rfl (lv_at hl 1 rfl) ?_
  refine lv_iconst (v := 0) hx hb d_J_copyOf_19 (by decide) ?_
  refine lv_aload_n hx hb d_J_copyOf_20 rfl (lv_at hl 0 rfl) ?_
  refine lv_iconst (v := 0) hx hb d_J_copyOf_21 (by decide) ?_
  refine lv_aload_n hx hb d_J_copyOf_22 rfl (lv_at hl 1 rfl) ?_
  refine va_alen hx hb hK.1 hP 0 0 rfl rfl rfl d_J_copyOf_23 ?_
  refine lv_iload_n hx hb d_J_copyOf_24 rfl (lv_at hl 2 rfl) ?_
  refine va_mmin hx hb (hml.trans hl.1.symm) hown (hts _ wd_jmin) (hts _ wd_minS) (hts _ wd_minI) (hts _ wd_minC) (Nat.le_of_ble_eq_true rfl) (Nat.le_of_ble_eq_true rfl) (by show 0 + 1 ≤ 1; omega) (by show 0 + n.toNatClampNeg ≤ n.toNatClampNeg; omega) d_J_copyOf_25 ?_
  have hi : ¬ ((0 : Int32) < 0 ∨ (0 : Int32) < 0 ∨ (if n < Int32.ofNat ln then n else Int32.ofNat ln) < 0 ∨ ln < (0 : Int32).toNatClampNeg + (if n < Int32.ofNat ln then n else Int32.ofNat ln).toNatClampNeg ∨ n.toNatClampNeg < (0 : Int32).toNatClampNeg + (if n < Int32.ofNat ln then n else Int32.ofNat ln).toNatClampNeg) := by
    rw [cp_min hln hn]
    have z0 : (0 : Int32).toNatClampNeg = 0 := rfl
    rintro (h | h | h | h | h)
    · exact absurd h (by decide)
    · exact absurd h (by decide)
    · exact cp_pos hln hn h
    · omega
    · omega
  refine rw_copy C0 hl hP hD hS 0 1 0 0 rfl rfl rfl rfl hi (hts _ wd_jcpy) (hts _ wd_cpyN) (hts _ wd_cpyS) (hts _ wd_cpyI) (Nat.le_of_ble_eq_true rfl) (Nat.le_of_ble_eq_true rfl) d_J_copyOf_28 rfl (fun H locs hP hD hS => ?_)
  refine lv_aload_n hx hb d_J_copyOf_31 rfl (lv_at hl 0 rfl) ?_
  rw [cp_min hln hn] at hP hD
  refine W.widen (k := 1) (n := n.toNatClampNeg) (by omega) (by omega) ?_
  exact W.aret hx hb hr (Or.inr ⟨_, rfl⟩) (Or.inr ⟨q, rfl⟩) (fun t ht _ => ⟨⟨(), q, rfl, trivial, by rw [ht]; exact hP, hD⟩, hS.F ht⟩) hS.2.2 d_J_copyOf_32 hlk
section CO
variable {p : Program} {l : Launch} {e : Env} {R : Room} {s : State} {m : MethodId} {args : Array Value} {below : List Frame} {meth : Method} {c : Code} {H : Heap} {locs : List Loc} {cells slots : Nat} {Q : State → Prop}
variable {cc : ByteArray} {pc : Nat} {ls : Array Slot} {rest st : List Value} {D : va_G} {cI cZ : ClassId} {ret0 : Option FieldType} {nL : Nat} {own : String} {lv : List (Nat × Value)} {A : Nat → Prop} {ws : va_W} {b : Addr}
theorem tx_copyOf {ln idx : Nat} {f : Nat → Int32} {n : Int32} (C0 : Am p s m args meth c cc ret0 nL own D [(cI, .int), (cZ, .boolean)]) (hA : ∀ q, s.heap.size ≤ q → A q) (hi : ¬ (n < 0 ∨ n = Int32.ofNat ln ∨ 134217728 < n.toNatClampNeg ∨ 2147483648 ≤ ln)) (hlk : Cond.methodLink own idx y_J_copyOf ∈ tb)
    (hR : 1 + 1 ≤ R.frames ∧ 8 + (3 + 11) + 60 ≤ R.locals) (hP : va_P D vwCl ws H) (hD : va_D A ws) (hS : va_S A s.heap H locs)
    (isC isR pm : List Nat) (hC : isC.map (fun i => ws[i]?) = (wF cI b ln 0 f).map some) (hCd : va_nd isC = true) (hRr : isR.map (fun i => ws[i]?) = (isR.filterMap (fun i => ws[i]?)).map some) (hnd : va_nd isR = true) (hdis : ∀ i ∈ isR, i ∉ isC) (hpm : va_nd pm = true)
    (hW : ∀ qn : Nat, pm.map (fun i => (isR.filterMap (fun i => ws[i]?) ++ (wF cI b ln 0 f ++ wN cI ln f n qn))[i]?) = (ws ++ wN cI ln f n qn).map some)
    (hl : lv_has ls nL lv) (hst : st = .int n :: .ref b :: rest)
    (hr : (rest.map fun v => v.category).sum ≤ 8) (hcs : cells + 1 ≤ R.cells ∧ slots + n.toNatClampNeg ≤ R.slots) (hdg : decode cc pc = .ok (.invokestatic idx, 3))
    (kk : ∀ (H1 : Heap) (locs1 : List Loc) (qn : Nat), va_P D vwCl (ws ++ wN cI ln f n qn) H1 → va_D A (ws ++ wN cI ln f n qn) → va_S A s.heap H1 locs1 → W p l e R s m args below meth c H1 locs1 (cells + 1) (slots + n.toNatClampNeg) Q (F0 m (pc + 3) ls (.ref qn :: rest))) : W p l e R s m args below meth c H locs cells slots Q (F0 m pc ls st) := by
  obtain ⟨hx, hb, hr0, hml, hown, hts, hlk0, hK⟩ := C0
  simp only [not_or] at hi
  obtain ⟨i1, i2, i3, i4⟩ := hi
  have cw : CallB R s args own idx y_J_copyOf b_J_copyOf 3 (some (.array .int)) (Cond.code y_J_copyOf b_J_copyOf 3 (some (.array .int)) :: tb) (rmK 1 60 1 n.toNatClampNeg) 1 n.toNatClampNeg 2 ∧ (Cond.static y_J_copyOf).before args s = true :=
    ⟨callB_of 2 hts (gdIn wd_coC) rfl rfl rfl (hts _ wd_coI) (hts _ hlk) (by decide +kernel) hR, hts _ wd_coS⟩
  have hPc := hP.pick isC hC
  have hDc := hD.sub isC hCd hC
  have hFc := va_free hD hS hA isC hC
  have hby : n.toNatClampNeg * componentBytes .int ≤ 536870912 := by
    show n.toNatClampNeg * 4 ≤ 536870912
    omega
  refine va_callr (va_runS (As := [.ref b, .int n]) (rest := rest) ⟨hx, hb, hml, hown, hts⟩ (c_J_copyOf l D cI cZ b ln f n (by omega) i1 i2 hby H.size) cw ⟨fun a U g mk h => ⟨h.1, h.2.1, h.2.2.1, KN.calling g mk a h.2.2.2.1, h.2.2.2.2⟩, fun U hU hW => ⟨rfl, by rw [hU], by rw [hU]; exact hPc, KN.warm hW hK, hDc.weaken (fun _ _ _ _ => trivial)⟩⟩ rfl rfl hl.1 hst (lv_room hr) hdg hcs) hS (fun q _ h => hFc q h) hFc (fun u qn t H1 locs1 ht hvm hw hB hz1 hk1 hS1 => ?_)
  obtain ⟨hP1, hD1⟩ := hB
  rw [ht] at hP1
  obtain ⟨hP2, hD2⟩ := va_join hP hD isC isR hC hRr hnd hdis hk1 hFc hP1 hD1
  exact kk H1 locs1 qn (hP2.pick pm (hW qn)) (hD2.sub pm hpm (hW qn)) hS1
end CO
-- part 05.6.throw.lean.txt
/-! Own rows: throw new E("text"). -/
def nmX : List String := ["java/lang/RuntimeException", "java/lang/Exception"]
section TH
variable {p : Program} {l : Launch} {e : Env} {R : Room} {s : State} {m : MethodId} {args : Array Value} {below : List Frame} {meth : Method} {c : Code} {H : Heap} {locs : List Loc} {cells slots : Nat} {Q : State → Prop}
variable {cc : ByteArray} {pc : Nat} {ls : Array Slot} {rest st : List Value} {D : va_G} {ty : List (ClassId × FieldType)} {ret0 : Option FieldType} {nL : Nat} {own : String} {lv : List (Nat × Value)} {A : Nat → Prop}
theorem tx_throw {S : Type} {w : Nat → S → va_W} {q : Nat} {σ : S} {k K N ik is ic : Nat} {text : String} {Qc : Array Value → State → Outcome → State → Prop} (C0 : Am p s m args meth c cc ret0 nL own D ty) (hT : ∀ x ∈ c.exceptionTable.toList, False) (hl0 : l.stackTraces = false) (hZ : Zs A s s.heap) (hP : va_P D vwCl (w q σ) H) (hD : va_D A (w q σ)) (hS : va_S A s.heap H locs)
    (h1 : Cond.classLink own ik (exN k) ∈ tb) (h2 : Cond.initialized (exN k) ∈ tb) (h3 : (own, is, text) ∈ stL) (h4 : ∀ w ∈ vx_atS own ic (exN k) nmX, w ∈ tb ∨ w ∈ nwL) (h5 : ∀ w ∈ Cond.classLink own ik (exN k) :: Cond.initialized (exN k) :: vx_atS own ic (exN k) nmX, vx_ot w = true) (h6 : Bundle.fit (exN k) = true)
    (d0 : decode cc pc = .ok (.new ik, 3)) (d3 : decode cc (pc + 3) = .ok (.dup, 1)) (d4 : decode cc (pc + 4) = .ok (.ldc is, 2)) (d6 : decode cc (pc + 6) = .ok (.invokespecial ic, 3)) (d9 : decode cc (pc + 9) = .ok (.athrow, 1))
    (hl : lv_has ls nL lv) (hfr : 5 < R.frames) (hlo : (rest.map fun v => v.category).sum + 82 ≤ R.locals) (hRc : cells + 1 ≤ R.cells) (hRs : slots + 6 ≤ R.slots) (hc : cells + 1 ≤ K) (hs : slots + 6 ≤ N) :
    W p l e R s m args below meth c H locs cells slots (vx_MQ below Qc (TxX D A w (.inr k) σ) args s K N A) (F0 m pc ls rest) := by
  obtain ⟨hx, hb, hr, hml, hown, hts, hlk, hK⟩ := C0
  obtain ⟨sa, hsa⟩ := hK.2.2 _ h3
  refine vx_throwS (names := nmX) hx hb hl0 hown h6 (by decide) (hts _ h1) (hts _ h2) hsa (fun w hw => (h4 w hw).elim (hts _) (fun z => hK.word z)) h5 hZ.1 hZ.2 hS (hl.1.trans hml.symm) d0 d3 d4 d6 d9 (fun x hx => (hT x hx).elim) hfr hlo hRc hRs hlk (fun t hvm hsz hk => ?_) hS.2.2 hc hs
  refine ⟨σ, rfl, ⟨⟨k, rfl, rfl⟩, q, hP.kept (fun j x hx => hk x.1 (hP j x hx).lt), hD⟩, Nat.le_trans hS.1 hsz, fun z hz hz2 => ?_⟩
  rw [hk z (Nat.lt_of_lt_of_le hz hS.1)]
  exact hS.2.1 z hz hz2
end TH
theorem thI_1 : Bundle.fit (exN 1) = true := by decide +kernel
theorem thI_2 : Bundle.fit (exN 2) = true := by decide +kernel
theorem thI_3 : Bundle.fit (exN 3) = true := by decide +kernel
