/-! Own rows: the law's body. -/
theorem KO.warm {D : va_G} {cI cZ cJ : ClassId} {s U : State} (hW : s.WarmedH U.vm) (h : KO D cI cZ cJ s) : KO D cI cZ cJ U := ⟨KN.warm hW h.1, va_K.moved hW.alike h.2.1, fun q hq => (h.2.2 q hq).moved hW.alike⟩
theorem KO.calling {D : va_G} {cI cZ cJ : ClassId} {U : State} (g : JFrame) (mk : MethodId) (a : Array Value) (h : KO D cI cZ cJ U) : KO D cI cZ cJ (U.calling g mk a) := ⟨KN.calling g mk a h.1, va_K.moved (u := U) (U := U.calling g mk a) (Vm.Alike.refl U.vm) h.2.1, fun q hq => (h.2.2 q hq).moved (u := U) (U := U.calling g mk a) (Vm.Alike.refl U.vm)⟩
/-- the law's world: the class, the long[1], the reference -/
def wX (cI cZ cJ : ClassId) (a aM : Nat → Nat) (b q qM : Nat) (u : StO) (μ : StM) : va_W := wO cI cZ cJ a b q u ++ wM cI cZ aM qM μ
section LB
variable {p : Program} {l : Launch} {e : Env} {R : Room} {s : State} {m : MethodId} {args : Array Value} {below : List Frame} {meth : Method} {c : Code} {H : Heap} {locs : List Loc} {cells slots : Nat} {Q : State → Prop}
variable {cc : ByteArray} {pc : Nat} {ls : Array Slot} {rest st : List Value} {D : va_G} {ret0 : Option FieldType} {nL : Nat} {own : String} {lv : List (Nat × Value)} {A : Nat → Prop} {ws : va_W} {cI cZ cJ : ClassId}
/-- a call of one of the law's own methods with try and catch -/
theorem hp_S {a : Nat → Nat} {b q : Nat} {u : StO} {res : Int32 × StO × Nat × Nat} {y : MethodName} {ccy : ByteArray} {nLy : Nat} {hh : List (Nat × Nat × Nat × Nat)} {fr lc idx n : Nat} {As : List Value} {Wn : Nat → va_W}
    (C0 : Am p s m args meth c cc ret0 nL own D [(cI, .int), (cZ, .boolean)]) (hKO : KO D cI cZ cJ s) (hA : ∀ q, s.heap.size ≤ q → A q) (hZ : Zs A s s.heap) (hM : HpM l y ccy nLy hh fr lc D cI cZ cJ As a b q u res)
    (hlk : Cond.methodLink own idx y ∈ tb) (w1 : Cond.codeWith y ccy nLy (some .int) hh ∈ tb) (w2 : Cond.static y ∈ tb) (w3 : Cond.initialized y.cls ∈ tb) (hy : plainY y n)
    (hR : fr + 1 ≤ R.frames ∧ 8 + (nLy + 11) + lc ≤ R.locals) (hP : va_P D vwCl ws H) (hD : va_D A ws) (hS : va_S A s.heap H locs)
    (isC isR pm : List Nat) (hC : isC.map (fun i => ws[i]?) = (wO cI cZ cJ a b q u).map some) (hCd : va_nd isC = true) (hRr : isR.map (fun i => ws[i]?) = (isR.filterMap (fun i => ws[i]?)).map some) (hnd : va_nd isR = true) (hdis : ∀ i ∈ isR, i ∉ isC) (hpm : va_nd pm = true) (hW : ∀ q1, pm.map (fun i => (isR.filterMap (fun i => ws[i]?) ++ wO cI cZ cJ a b q1 res.2.1)[i]?) = (Wn q1).map some)
    (hl : lv_has ls nL lv) (hn : As.length = n) (hst : st = As.reverse ++ rest) (hr : (rest.map fun v => v.category).sum ≤ 8) (hcs : cells + res.2.2.1 ≤ R.cells ∧ slots + res.2.2.2 ≤ R.slots) (hdg : decode cc pc = .ok (.invokestatic idx, 3))
    (kk : ∀ (H1 : Heap) (locs1 : List Loc) (q1 : Nat), va_P D vwCl (Wn q1) H1 → va_D A (Wn q1) → va_S A s.heap H1 locs1 → W p l e R s m args below meth c H1 locs1 (cells + res.2.2.1) (slots + res.2.2.2) Q (F0 m (pc + 3) ls (.int res.1 :: rest))) : W p l e R s m args below meth c H locs cells slots Q (F0 m pc ls st) := by
  obtain ⟨hx, hb, hr0, hml, hown, hts, hlk0, hK⟩ := C0
  have hG : GoodIn tb (va_wsS own idx y (Cond.codeWith y ccy nLy (some .int) hh :: tb)) := by
    intro w hw
    have hw2 : w = .methodLink own idx y ∨ w = .static y ∨ w = .initialized y.cls ∨ w = Cond.codeWith y ccy nLy (some .int) hh ∨ w ∈ tb := by
      simpa [va_wsS] using hw
    have hin : w ∈ tb := by
      rcases hw2 with rfl | rfl | rfl | rfl | h
      · exact hlk
      · exact w2
      · exact w3
      · exact w1
      · exact h
    exact ⟨hin, tb_ok _ hin⟩
  have cw := vx_cwSW (R := R) (args := args) (rm := rmK fr lc res.2.2.1 res.2.2.2) (mc := res.2.2.1) (ms := res.2.2.2) n hts hG rfl rfl rfl hy hR
  have hPc := hP.pick isC hC
  have hDc := hD.sub isC hCd hC
  have hFc := va_free hD hS hA isC hC
  have hZ1 : Zs (va_A (wO cI cZ cJ a b q u) H.size) s H := ⟨(hZ.1.kept hS.2.1).narrow hFc, (hZ.2.kept hS.2.1).narrow hFc⟩
  refine va_calli (vx_runSW (As := As) (rest := rest) ⟨hx, hb, hml, hown, hts⟩ (hM H.size) cw ⟨fun a U g mk h => ⟨h.1, h.2.1, h.2.2.1, KO.calling g mk a h.2.2.2.1, h.2.2.2.2.1, Zs.calling g mk a h.2.2.2.2.2⟩, fun U hU hW => ⟨rfl, by rw [hU], by rw [hU]; exact hPc, KO.warm hW hKO, hDc.weaken (fun _ _ _ _ => trivial), by rw [hU]; exact ⟨hZ1.1.moved hW.alike, hZ1.2.moved hW.alike⟩⟩⟩ rfl hn hl.1 hst (lv_room hr) hdg hcs) hS (fun q _ h => hFc q h) hFc (fun r u' t H1 locs1 ht hvm hw hB hz1 hk1 hS1 => ?_)
  obtain ⟨q1, hP1, hD1⟩ := hB
  rw [ht] at hP1
  obtain ⟨hv, hu⟩ := hw
  subst hv
  subst hu
  obtain ⟨hP2, hD2⟩ := va_join hP hD isC isR hC hRr hnd hdis hk1 hFc hP1 hD1
  exact kk H1 locs1 q1 (hP2.pick pm (hW q1)) (hD2.sub pm hpm (hW q1)) hS1
/-- 'script[..] != 0' as a number -/
theorem lw_bz {y : Int32} (hx : p.tables.exec = Jvm.exec) (hb : c.code = cc) (d1 : decode cc pc = .ok (.ifCond .eq 7, 3)) (d2 : decode cc (pc + 3) = .ok (.iconst 1, 1)) (d3 : decode cc (pc + 4) = .ok (.goto 4, 3)) (d4 : decode cc (pc + 7) = .ok (.iconst 0, 1))
    (k : W p l e R s m args below meth c H locs cells slots Q (F0 m (pc + 8) ls (.int (if y = 0 then 0 else 1) :: rest))) : W p l e R s m args below meth c H locs cells slots Q (F0 m pc ls (.int y :: rest)) := by
  refine lv_if_eq (tgt := pc + 7) hx hb d1 (by omega) (fun hc => ?_) (fun hc => ?_)
  · refine lv_iconst (v := 0) hx hb d4 (by decide) ?_
    rw [if_pos hc] at k
    exact k
  · refine lv_iconst (v := 1) hx hb d2 (by decide) ?_
    refine lv_goto (tgt := pc + 8) hx hb d3 (by omega) ?_
    rw [if_neg hc] at k
    exact k
/-- script[i + k] -/
theorem lw_ld {b L j kn : Nat} {kz : Int} {xs : Nat → Int32} (hx : p.tables.exec = Jvm.exec) (hb : c.code = cc) (hX : va_X b L xs s s.heap) (hbl : b < s.heap.size) (hbA : ¬ A b) (hS : va_S A s.heap H locs) (e0 : ls[0]? = some (.val (.ref b))) (e4 : ls[4]? = some (.val (.int (nI j)))) (hk : Int32.ofInt kz = nI kn) (hj : j + kn < L) (hL : L ≤ 2049)
    (d1 : decode cc pc = .ok (.aload_n 0, 1)) (d2 : decode cc (pc + 1) = .ok (.iload 4, 2)) (d3 : decode cc (pc + 3) = .ok (.iconst kz, 1)) (d4 : decode cc (pc + 4) = .ok (.iadd, 1)) (d5 : decode cc (pc + 5) = .ok (.iaload, 1))
    (k : W p l e R s m args below meth c H locs cells slots Q (F0 m (pc + 6) ls (.int (xs (j + kn)) :: rest))) : W p l e R s m args below meth c H locs cells slots Q (F0 m pc ls rest) := by
  refine lv_aload_n hx hb d1 rfl e0 ?_
  refine lv_iload hx hb d2 e4 ?_
  refine lv_iconst (v := nI kn) hx hb d3 hk ?_
  refine lv_iadd hx hb d4 ?_
  rw [nI_add]
  refine va_sld hx hb hX hbl hbA hS (vp_in_nI hj (by omega)) d5 ?_
  rw [nI_clamp (by omega)]
  exact k
end LB
theorem lw_15 (x : Int32) : ∃ v, v < 16 ∧ x &&& 15 = nI v := by
  refine ⟨(x &&& 15).toBitVec.toNat, ?_, ?_⟩
  · rw [Int32.toBitVec_and, BitVec.toNat_and]
    have h : ((15 : Int32).toBitVec).toNat = 15 := by decide
    rw [h]
    exact Nat.lt_of_le_of_lt Nat.and_le_right (by decide)
  · apply Int32.toBitVec_inj.mp
    show _ = BitVec.ofNat 32 _
    simp
