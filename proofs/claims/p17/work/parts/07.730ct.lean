/-! Own rows: calls of constructors. -/
abbrev CtM {S : Type} (l : Launch) (y : MethodName) (cc : ByteArray) (nL fr lc mc ms : Nat) (D : va_G) (ty : List (ClassId × FieldType)) (b : Nat) (As : List Value) (e0 : va_E) (k0 : Nat) (w : (Nat → Nat) → Nat → S → va_W) (u0 : S) : Prop :=
  ∀ sz, Met l y (Cond.code y cc nL none :: tb) (rmK fr lc mc ms) (va_Pc (.ref b :: As) (fun U => U.heap.size = sz ∧ va_P D vwCl [(b, e0)] U.heap ∧ KN D ty U ∧ va_D (fun _ => True) [(b, e0)]))
    (va_Qv (fun u => u = u0) (fun u t => ∃ a q, a k0 = b ∧ va_P D vwCl (w a q u) t.heap ∧ va_D (va_A [(b, e0)] sz) (w a q u)) (va_A [(b, e0)] sz)) mc ms (va_A [(b, e0)] sz)
section CL
variable {p : Program} {l : Launch} {e : Env} {R : Room} {s : State} {m : MethodId} {args : Array Value} {below : List Frame} {meth : Method} {c : Code} {H : Heap} {locs : List Loc} {cells slots : Nat} {Q : State → Prop}
variable {cc : ByteArray} {pc : Nat} {ls : Array Slot} {rest st : List Value} {D : va_G} {ty : List (ClassId × FieldType)} {ret0 : Option FieldType} {nL : Nat} {own : String} {lv : List (Nat × Value)} {A : Nat → Prop} {ws wr : va_W} {b : Addr}
theorem ct_I {S : Type} {w : (Nat → Nat) → Nat → S → va_W} {u0 : S} {e0 : va_E} {y : MethodName} {ccy : ByteArray} {nLy fr lc mc ms idx n k0 : Nat} {As : List Value}
    (C0 : Am p s m args meth c cc ret0 nL own D ty) (hA : ∀ q, s.heap.size ≤ q → A q) (hM : CtM l y ccy nLy fr lc mc ms D ty b As e0 k0 w u0) (hlk : Cond.methodLink own idx y ∈ tb) (wd : Cond.code y ccy nLy none ∈ tb ∧ Cond.instanceMethod y ∈ tb ∧ Cond.initialized y.cls ∈ tb) (hy : plainY y n) (hy1 : y.name = "<init>")
    (hR : fr + 1 ≤ R.frames ∧ 8 + (nLy + 11) + lc ≤ R.locals) (hP : va_P D vwCl ws H) (hD : va_D A ws) (hS : va_S A s.heap H locs)
    (isC isR : List Nat) (hC : isC.map (fun i => ws[i]?) = [(b, e0)].map some) (hCd : va_nd isC = true) (hRr : isR.map (fun i => ws[i]?) = wr.map some) (hnd : va_nd isR = true) (hdis : ∀ i ∈ isR, i ∉ isC)
    (hl : lv_has ls nL lv) (hn : As.length = n) (hst : st = As.reverse ++ .ref b :: rest) (hr : (rest.map fun v => v.category).sum ≤ 8) (hcs : cells + mc ≤ R.cells ∧ slots + ms ≤ R.slots) (hdg : decode cc pc = .ok (.invokespecial idx, 3))
    (kk : ∀ (H1 : Heap) (locs1 : List Loc) (a : Nat → Nat) (q : Nat), a k0 = b → va_P D vwCl (wr ++ w a q u0) H1 → va_D A (wr ++ w a q u0) → va_S A s.heap H1 locs1 → W p l e R s m args below meth c H1 locs1 (cells + mc) (slots + ms) Q (F0 m (pc + 3) ls rest)) : W p l e R s m args below meth c H locs cells slots Q (F0 m pc ls st) := by
  obtain ⟨hx, hb, hr0, hml, hown, hts, hlk0, hK⟩ := C0
  obtain ⟨w1, w2, w3⟩ := wd
  have hPc := hP.pick isC hC
  have hDc := hD.sub isC hCd hC
  have hFc := va_free hD hS hA isC hC
  refine va_callv (va_runI (As := As) (rest := rest) ⟨hx, hb, hml, hown, hts⟩ (hM H.size) (cwI n hts (gdIn w1) rfl rfl rfl (hts _ w3) (hts _ hlk) (hts _ w2) hy1 hy hR) ⟨fun a U g mk h => ⟨h.1, h.2.1, h.2.2.1, KN.calling g mk a h.2.2.2.1, h.2.2.2.2⟩, fun U hU hW => ⟨rfl, by rw [hU], by rw [hU]; exact hPc, KN.warm hW hK, hDc.weaken (fun _ _ _ _ => trivial)⟩⟩ rfl hn hl.1 hst (lv_room hr) hdg hcs) hS (fun q _ h => hFc q h) hFc (fun u t H1 locs1 ht hvm hw hB hz1 hk1 hS1 => ?_)
  obtain ⟨a, q, ha, hP1, hD1⟩ := hB
  rw [ht] at hP1
  subst hw
  obtain ⟨hP2, hD2⟩ := va_join hP hD isC isR hC hRr hnd hdis hk1 hFc hP1 hD1
  exact kk H1 locs1 a q ha hP2 hD2 hS1
/-- a private constructor of a nest mate -/
theorem ct_IN {S : Type} {w : (Nat → Nat) → Nat → S → va_W} {u0 : S} {e0 : va_E} {y : MethodName} {ccy : ByteArray} {nLy fr lc mc ms idx n k0 : Nat} {As : List Value} {host : String}
    (C0 : Am p s m args meth c cc ret0 nL own D ty) (hA : ∀ q, s.heap.size ≤ q → A q) (hM : CtM l y ccy nLy fr lc mc ms D ty b As e0 k0 w u0) (hlk : Cond.methodLinkNest own idx y host ∈ nwL) (wd : Cond.code y ccy nLy none ∈ tb ∧ Cond.instanceMethod y ∈ tb ∧ Cond.initialized y.cls ∈ tb) (hy : plainY y n) (hy1 : y.name = "<init>")
    (hR : fr + 1 ≤ R.frames ∧ 8 + (nLy + 11) + lc ≤ R.locals) (hP : va_P D vwCl ws H) (hD : va_D A ws) (hS : va_S A s.heap H locs)
    (isC isR : List Nat) (hC : isC.map (fun i => ws[i]?) = [(b, e0)].map some) (hCd : va_nd isC = true) (hRr : isR.map (fun i => ws[i]?) = wr.map some) (hnd : va_nd isR = true) (hdis : ∀ i ∈ isR, i ∉ isC)
    (hl : lv_has ls nL lv) (hn : As.length = n) (hst : st = As.reverse ++ .ref b :: rest) (hr : (rest.map fun v => v.category).sum ≤ 8) (hcs : cells + mc ≤ R.cells ∧ slots + ms ≤ R.slots) (hdg : decode cc pc = .ok (.invokespecial idx, 3))
    (kk : ∀ (H1 : Heap) (locs1 : List Loc) (a : Nat → Nat) (q : Nat), a k0 = b → va_P D vwCl (wr ++ w a q u0) H1 → va_D A (wr ++ w a q u0) → va_S A s.heap H1 locs1 → W p l e R s m args below meth c H1 locs1 (cells + mc) (slots + ms) Q (F0 m (pc + 3) ls rest)) : W p l e R s m args below meth c H locs cells slots Q (F0 m pc ls st) := by
  obtain ⟨hx, hb, hr0, hml, hown, hts, hlk0, hK⟩ := C0
  obtain ⟨w1, w2, w3⟩ := wd
  have hPc := hP.pick isC hC
  have hDc := hD.sub isC hCd hC
  have hFc := va_free hD hS hA isC hC
  have cw := va_cnB (R := R) (args := args) (rm := rmK fr lc mc ms) (mc := mc) (ms := ms) n hts (gdIn w1) rfl rfl rfl (hK.2.1 _ hlk) (hts _ w3) hy hR
  refine va_callv (va_runIN (As := As) (rest := rest) ⟨hx, hb, hml, hown, hts⟩ (hM H.size) ⟨cw, hy1, hts _ w2⟩ ⟨fun a U g mk h => ⟨h.1, h.2.1, h.2.2.1, KN.calling g mk a h.2.2.2.1, h.2.2.2.2⟩, fun U hU hW => ⟨rfl, by rw [hU], by rw [hU]; exact hPc, KN.warm hW hK, hDc.weaken (fun _ _ _ _ => trivial)⟩⟩ rfl hn hl.1 hst (lv_room hr) hdg hcs) hS (fun q _ h => hFc q h) hFc (fun u t H1 locs1 ht hvm hw hB hz1 hk1 hS1 => ?_)
  obtain ⟨a, q, ha, hP1, hD1⟩ := hB
  rw [ht] at hP1
  subst hw
  obtain ⟨hP2, hD2⟩ := va_join hP hD isC isR hC hRr hnd hdis hk1 hFc hP1 hD1
  exact kk H1 locs1 a q ha hP2 hD2 hS1
end CL
