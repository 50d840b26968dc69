/-! Own rows: bundles of the kit's rows, by which a program lays the walks. -/
/-- the classes, arrays and nest links as the tables have them -/
abbrev KN (D : va_G) (ty : List (ClassId × FieldType)) (U : State) : Prop := va_K D vwCl ty U ∧ (∀ w ∈ nwL, va_Nw w U) ∧ ∀ q ∈ stL, ∃ sa, vk_R q.1 q.2.1 q.2.2 sa U
theorem KN.warm {D : va_G} {ty : List (ClassId × FieldType)} {s U : State} (hW : s.WarmedH U.vm) (h : KN D ty s) : KN D ty U := by
  refine ⟨va_K.moved hW.alike h.1, fun w hw => ?_, fun q hq => ?_⟩
  · rcases nwL_sh w hw with ⟨a, i, x, k, rfl⟩ | ⟨x, rfl⟩ | ⟨a, b, rfl⟩
    · exact va_Nw.warmM hW (h.2.1 _ hw)
    · exact va_Nw.warmD hW (h.2.1 _ hw)
    · exact va_Nw.warmC hW (h.2.1 _ hw)
  · obtain ⟨sa, hs⟩ := h.2.2 q hq
    exact ⟨sa, vk_R.warm hW hs⟩
theorem KN.calling {D : va_G} {ty : List (ClassId × FieldType)} {U : State} (g : JFrame) (mk : MethodId) (a : Array Value) (h : KN D ty U) : KN D ty (U.calling g mk a) := by
  refine ⟨va_K.moved (u := U) (U := U.calling g mk a) (Vm.Alike.refl U.vm) h.1, fun w hw => ?_, fun q hq => ?_⟩
  · rcases nwL_sh w hw with ⟨a, i, x, k, rfl⟩ | ⟨x, rfl⟩ | ⟨a, b, rfl⟩
    · exact va_Nw.same (u := U) rfl rfl (h.2.1 _ hw)
    · exact va_Nw.same (u := U) rfl rfl (h.2.1 _ hw)
    · exact va_Nw.same (u := U) rfl rfl (h.2.1 _ hw)
  · obtain ⟨sa, hs⟩ := h.2.2 q hq
    exact ⟨sa, vk_R.same (u := U) rfl hs⟩
theorem KN.word {D : va_G} {ty : List (ClassId × FieldType)} {s : State} {args : Array Value} {w : Cond} (h : KN D ty s) (hw : w ∈ nwL) : w.before args s = true := by
  have h1 := h.2.1 w hw
  rcases nwL_sh w hw with ⟨a, i, x, k, rfl⟩ | ⟨x, rfl⟩ | ⟨a, b, rfl⟩
  · exact va_Nw.use rfl h1
  · exact va_Nw.use rfl h1
  · exact va_Nw.use rfl h1
/-- what holds all along a method's body -/
abbrev Am (p : Program) (s : State) (m : MethodId) (args : Array Value) (meth : Method) (c : Code) (cc : ByteArray) (ret : Option FieldType) (nL : Nat) (own : String) (D : va_G) (ty : List (ClassId × FieldType)) : Prop :=
  p.tables.exec = Jvm.exec ∧ c.code = cc ∧ meth.sig.returnType = ret ∧ c.maxLocals = nL ∧ s.vm.findClass own = some m.cls ∧ (∀ w ∈ tb, w.before args s = true) ∧ meth.locks = false ∧ KN D ty s
abbrev rmK (fr lc k n : Nat) : Room := { frames := fr, cells := k, slots := n, locals := lc }
theorem gd {α : Type} {c : Prop} [Decidable c] {o : Option α} {v : α} (h : (if c then none else o) = some v) : ¬ c ∧ o = some v := by
  by_cases hc : c
  · rw [if_pos hc] at h; cases h
  · rw [if_neg hc] at h; exact ⟨hc, h⟩
theorem bd {α β : Type} {o : Option α} {f : α → Option β} {v : β} (h : o.bind f = some v) : ∃ r, o = some r ∧ f r = some v := Option.bind_eq_some_iff.mp h
def ad_ {α β : Type} (c n : Nat) (o : Option (α × β × Nat × Nat)) : Option (α × β × Nat × Nat) := o.map fun r => (r.1, r.2.1, r.2.2.1 + c, r.2.2.2 + n)
theorem ad_s {α β : Type} {c n : Nat} {o : Option (α × β × Nat × Nat)} {a : α} {b : β} {k i : Nat} (h : ad_ c n o = some (a, b, k, i)) : ∃ k' i', o = some (a, b, k', i') ∧ k = k' + c ∧ i = i' + n := by
  cases o with
  | none => cases h
  | some r =>
    obtain ⟨a', b', k', i'⟩ := r
    cases h
    exact ⟨k', i', rfl, rfl, rfl⟩
def J_fill (f : Nat → Int32) (n : Nat) (v : Int32) : Nat → Int32 := fun j => if j < n then v else f j
def J_copyOf (f : Nat → Int32) (n : Nat) (k : Int32) : Nat → Int32 := va_cpy f (fun _ => 0) 0 0 (min n k.toNatClampNeg)
/-- the words of a method that is called by a name of its class -/
abbrev wdV (y : MethodName) (cc : ByteArray) (nL : Nat) (ret : Option FieldType) : Prop := Cond.code y cc nL ret ∈ tb ∧ Cond.instanceMethod y ∈ tb ∧ Cond.selects y.cls y y ∈ tb ∧ Cond.initialized y.cls ∈ tb
abbrev wdS (y : MethodName) (cc : ByteArray) (nL : Nat) (ret : Option FieldType) : Prop := Cond.code y cc nL ret ∈ tb ∧ Cond.static y ∈ tb ∧ Cond.initialized y.cls ∈ tb
abbrev plainY (y : MethodName) (n : Nat) : Prop := y.cls ≠ "java/lang/invoke/MethodHandle" ∧ y.cls ≠ "java/lang/invoke/VarHandle" ∧ (parseMethodDescriptor y.desc).map (fun d => d.parameters.length) = some n
theorem gdIn {y : MethodName} {cc : ByteArray} {nL : Nat} {ret : Option FieldType} (h : Cond.code y cc nL ret ∈ tb) : GoodIn tb (Cond.code y cc nL ret :: tb) := by
  intro w hw
  rcases List.mem_cons.mp hw with rfl | hw
  · exact ⟨h, tb_ok _ h⟩
  · exact ⟨hw, tb_ok _ hw⟩
theorem pnil {D : va_G} {H : Heap} : va_P D vwCl [] H := fun k q h => by simp at h
section RO
variable {p : Program} {l : Launch} {e : Env} {R : Room} {s : State} {m : MethodId} {args : Array Value} {below : List Frame} {meth : Method} {c : Code} {H : Heap} {locs : List Loc} {cells slots : Nat} {Q : State → Prop}
variable {cc : ByteArray} {pc : Nat} {ls : Array Slot} {rest st : List Value} {D : va_G} {ty : List (ClassId × FieldType)} {ret0 : Option FieldType} {nL : Nat} {own : String} {lv : List (Nat × Value)}
/-- a method that reads alone: its answer is val -/
abbrev RoM (l : Launch) (y : MethodName) (cc : ByteArray) (nL : Nat) (ret : Option FieldType) (fr lc : Nat) (D : va_G) (ty : List (ClassId × FieldType)) (av : List Value) (w : va_W) (val : Int32) : Prop :=
  Met l y (Cond.code y cc nL ret :: tb) (rmK fr lc 0 0) (va_Pc av (fun U => va_P D vwCl w U.heap ∧ KN D ty U)) (vp_Si (fun r => r = val)) 0 0 (fun _ => False)
abbrev RoW (p : Program) (l : Launch) (e : Env) (R : Room) (s : State) (m : MethodId) (args : Array Value) (below : List Frame) (meth : Method) (c : Code) (val : Int32) (g : JFrame) : Prop :=
  W p l e R s m args below meth c s.heap [] 0 0 (MQ below (vp_Si (fun r => r = val)) args s 0 0 (fun _ => False)) g
theorem ro_of {y : MethodName} {ret : Option FieldType} {fr lc : Nat} {av : List Value} {w : va_W} {val : Int32} (hy : plainName y.cls = true) (hlen : (lg_sl av).length ≤ nL)
    (body : ∀ (p : Program) (e : Env) (s : State) (m : MethodId) (args : Array Value) (below : List Frame) (meth : Method) (c : Code) (ls : Array Slot), Am p s m args meth c cc ret nL y.cls D ty → va_P D vwCl w s.heap → lv_has ls nL (lv_args 0 av) → RoW p l e (rmK fr lc 0 0) s m args below meth c val (F0 m 0 ls [])) : RoM l y cc nL ret fr lc D ty av w val := by
  refine Met.ofW (cc := cc) (maxL := nL) (ret := ret) hy rfl ?_
  intro p e s m args below meth c s₁ B hml hv
  obtain ⟨rfl, hP, hK⟩ := hv
  have hts := atoms_spec (ws := Cond.code y cc nL ret :: tb) B.pre
  have hl := lv_entry av (n := nL) hlen
  rw [lg_entry_eq]
  exact body p e s m av.toArray below meth c _ ⟨B.exec, B.bytes, B.returns, hml, findClass_of_methodNamed B.named, fun w h => hts w (List.mem_cons_of_mem _ h), B.notSynchronized, hK⟩ hP hl
/-- a call that changes nothing -/
theorem ro_i {val : Int32} {a : Array Value} (hr : va_Run p l e R s m args below meth c H locs cells slots 0 0 (F0 m pc ls st) rest (vp_Si (fun r => r = val) a) (fun _ => False))
    (kk : W p l e R s m args below meth c H locs cells slots Q (F0 m (pc + 3) ls (.int val :: rest))) : W p l e R s m args below meth c H locs cells slots Q (F0 m pc ls st) := by
  intro T hT X
  obtain ⟨v, st₀, t, T', L, h0, X', hL, e1, -, ⟨r, hv, hp, hh⟩, sg⟩ := hr T hT X
  cases hv
  subst hp
  obtain ⟨t2, a1, b1⟩ := kk T' (by rw [e1, hh, h0]) (Stand.forget X' (fun q h => (hL q h).elim))
  exact ⟨t2, sg t2 a1, b1⟩
theorem ro_ret {v val : Int32} (C0 : Am p s m args meth c cc (some .int) nL own D ty) (hv : v = val) (hdg : decode cc pc = .ok (.ireturn, 1)) : RoW p l e R s m args below meth c val (F0 m pc ls [.int v]) := by
  obtain ⟨hx, hb, hr, hml, hown, hts, hlk, hK⟩ := C0
  exact W.iret (v := v) hx hb hr (fun t ht _ => ⟨v, rfl, hv, ht⟩) (fun _ h => nomatch h) hdg hlk
/-- an int that is a boolean's answer: its last bit -/
theorem zret_ {Qc : Array Value → State → Outcome → State → Prop} {free : Addr → Prop} {v w : Int32} (hexec : p.tables.exec = Jvm.exec) (hb : c.code = cc) (hr : meth.sig.returnType = some .boolean) (hw : v &&& 1 = w)
    (hq : ∀ t : State, t.heap = H → s.WarmedH t.vm → Qc args s (.returned (some (.int w))) t) (hf : ∀ q ∈ locs, free q.base)
    {ls : Array Slot} (hdg : decode cc pc = .ok (.ireturn, 1)) (hlocks : meth.locks = false) : W p l e R s m args below meth c H locs cells slots (MQ below Qc args s cells slots free) (F0 m pc ls [.int v]) := by
  intro T hT X
  obtain ⟨fs, hret, hrun, hended, hW, hframe⟩ := X.leave (v := some (.int w)) (fun h => by rw [hr] at h; cases h)
  have hmeth' : T.vm.method? m = some meth := X.method'
  have hn : narrow .boolean (.int v) = .int w := by rw [← hw]; rfl
  refine ⟨T.setFrames fs, ?_, .returned (some (.int w)), hrun, hended, hq _ hT hW, locs, ⟨⟨_, rfl⟩, hW, hframe⟩, hf⟩
  jvm_step X.here [X.here.top, hexec, hb, hdg, hmeth', hr, hn]
  (try refine ⟨rfl, ?_⟩); (try refine ⟨rfl, ?_⟩)
  first | (intro acts; rw [hret _ acts rfl rfl rfl]) | rw [hret _ _ rfl rfl rfl]
  exact Steps.refl _
theorem ro_retz {v w val : Int32} (C0 : Am p s m args meth c cc (some .boolean) nL own D ty) (hw : v &&& 1 = w) (hv : w = val) (hdg : decode cc pc = .ok (.ireturn, 1)) : RoW p l e R s m args below meth c val (F0 m pc ls [.int v]) := by
  obtain ⟨hx, hb, hr, hml, hown, hts, hlk, hK⟩ := C0
  exact zret_ (v := v) hx hb hr hw (fun t ht _ => ⟨w, rfl, hv, ht⟩) (fun _ h => nomatch h) hdg hlk
/-- invokevirtual of a method that reads alone -/
theorem ro_V {y : MethodName} {ccy : ByteArray} {nLy : Nat} {ret : Option FieldType} {fr lc idx n ci : Nat} {As : List Value} {b : Addr} {w : va_W} {val : Int32} {q : vw_C} {fs : List Value}
    (C0 : Am p s m args meth c cc ret0 nL own D ty) (hM : RoM l y ccy nLy ret fr lc D ty (.ref b :: As) w val) (hlk : Cond.methodLink own idx y ∈ tb) (wd : wdV y ccy nLy ret) (hy : plainY y n)
    (hR : fr + 1 ≤ R.frames ∧ 8 + (nLy + 11) + lc ≤ R.locals) (hP : va_P D vwCl w H) (hc : vwCl[ci]? = some q) (hq : q.1 = y.cls) (he : w[0]? = some (b, .inr (ci, fs))) (hl : lv_has ls nL lv) (hn : As.length = n) (hst : st = As.reverse ++ .ref b :: rest)
    (hr : (rest.map fun v => v.category).sum ≤ 8) (hcs : cells ≤ R.cells ∧ slots ≤ R.slots) (hdg : decode cc pc = .ok (.invokevirtual idx, 3))
    (kk : W p l e R s m args below meth c H locs cells slots Q (F0 m (pc + 3) ls (.int val :: rest))) : W p l e R s m args below meth c H locs cells slots Q (F0 m pc ls st) := by
  obtain ⟨hx, hb, hr0, hml, hown, hts, hlk0, hK⟩ := C0
  obtain ⟨w1, w2, w3, w4⟩ := wd
  have cw : CallW R s args own y.cls idx y ccy nLy ret (Cond.code y ccy nLy ret :: tb) (rmK fr lc 0 0) 0 0 n :=
    ⟨callB_of n hts (gdIn w1) rfl rfl rfl (hts _ w4) (hts _ hlk) hy hR, hts _ w2, hts _ w3⟩
  exact ro_i (va_runV (As := As) (rest := rest) (C := y.cls) ⟨hx, hb, hml, hown, hts⟩ hM cw ⟨fun a U g mk h => ⟨h.1, h.2.1, KN.calling g mk a h.2.2⟩, by rw [← hq]; exact va_recv hK.1 hP hc he, fun U hU hW => ⟨rfl, by rw [hU]; exact hP, KN.warm hW hK⟩⟩ rfl hn hl.1 hst (lv_room hr) hdg hcs) kk
theorem ro_S {y : MethodName} {ccy : ByteArray} {nLy : Nat} {ret : Option FieldType} {fr lc idx n : Nat} {As : List Value} {w : va_W} {val : Int32}
    (C0 : Am p s m args meth c cc ret0 nL own D ty) (hM : RoM l y ccy nLy ret fr lc D ty As w val) (hlk : Cond.methodLink own idx y ∈ tb) (wd : wdS y ccy nLy ret) (hy : plainY y n)
    (hR : fr + 1 ≤ R.frames ∧ 8 + (nLy + 11) + lc ≤ R.locals) (hP : va_P D vwCl w H) (hl : lv_has ls nL lv) (hn : As.length = n) (hst : st = As.reverse ++ rest)
    (hr : (rest.map fun v => v.category).sum ≤ 8) (hcs : cells ≤ R.cells ∧ slots ≤ R.slots) (hdg : decode cc pc = .ok (.invokestatic idx, 3))
    (kk : W p l e R s m args below meth c H locs cells slots Q (F0 m (pc + 3) ls (.int val :: rest))) : W p l e R s m args below meth c H locs cells slots Q (F0 m pc ls st) := by
  obtain ⟨hx, hb, hr0, hml, hown, hts, hlk0, hK⟩ := C0
  obtain ⟨w1, w2, w3⟩ := wd
  have cw : CallB R s args own idx y ccy nLy ret (Cond.code y ccy nLy ret :: tb) (rmK fr lc 0 0) 0 0 n ∧ (Cond.static y).before args s = true :=
    ⟨callB_of n hts (gdIn w1) rfl rfl rfl (hts _ w3) (hts _ hlk) hy hR, hts _ w2⟩
  exact ro_i (va_runS (As := As) (rest := rest) ⟨hx, hb, hml, hown, hts⟩ hM cw ⟨fun a U g mk h => ⟨h.1, h.2.1, KN.calling g mk a h.2.2⟩, fun U hU hW => ⟨rfl, by rw [hU]; exact hP, KN.warm hW hK⟩⟩ rfl hn hl.1 hst (lv_room hr) hdg hcs) kk
/-- a private static method of a nest mate -/
theorem ro_SN {y : MethodName} {ccy : ByteArray} {nLy : Nat} {ret : Option FieldType} {fr lc idx n : Nat} {host : String} {As : List Value} {w : va_W} {val : Int32}
    (C0 : Am p s m args meth c cc ret0 nL own D ty) (hM : RoM l y ccy nLy ret fr lc D ty As w val) (hlk : Cond.methodLinkNest own idx y host ∈ nwL) (wd : wdS y ccy nLy ret) (hy : plainY y n)
    (hR : fr + 1 ≤ R.frames ∧ 8 + (nLy + 11) + lc ≤ R.locals) (hP : va_P D vwCl w H) (hl : lv_has ls nL lv) (hn : As.length = n) (hst : st = As.reverse ++ rest)
    (hr : (rest.map fun v => v.category).sum ≤ 8) (hcs : cells ≤ R.cells ∧ slots ≤ R.slots) (hdg : decode cc pc = .ok (.invokestatic idx, 3))
    (kk : W p l e R s m args below meth c H locs cells slots Q (F0 m (pc + 3) ls (.int val :: rest))) : W p l e R s m args below meth c H locs cells slots Q (F0 m pc ls st) := by
  obtain ⟨hx, hb, hr0, hml, hown, hts, hlk0, hK⟩ := C0
  obtain ⟨w1, w2, w3⟩ := wd
  have cw := va_cnB (R := R) (args := args) (rm := rmK fr lc 0 0) (mc := 0) (ms := 0) n hts (gdIn w1) rfl rfl rfl (hK.2.1 _ hlk) (hts _ w3) hy hR
  exact ro_i (va_runSN (As := As) (rest := rest) ⟨hx, hb, hml, hown, hts⟩ hM ⟨cw, hts _ w2, trivial⟩ ⟨fun a U g mk h => ⟨h.1, h.2.1, KN.calling g mk a h.2.2⟩, fun U hU hW => ⟨rfl, by rw [hU]; exact hP, KN.warm hW hK⟩⟩ rfl hn hl.1 hst (lv_room hr) hdg hcs) kk
end RO
