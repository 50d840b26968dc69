-- part 09.40.rows.lean.txt
/-! Own rows: the law's body. -/
theorem KO.warm {D : va_G} {cI cZ cJ : ClassId} {s U : State} (hW : s.WarmedH U.vm) (h : KO D cI cZ cJ s) : KO D cI cZ cJ U := ⟨KN.warm hW h.1, va_K.moved hW.alike h.2.1, fun q hq => (h.2.2 q hq).moved hW.alike⟩
theorem KO.calling {D : va_G} {cI cZ cJ : ClassId} {U : State} (g : JFrame) (mk : MethodId) (a : Array Value) (h : KO D cI cZ cJ U) : KO D cI cZ cJ (U.calling g mk a) := ⟨KN.calling g mk a h.1, va_K.moved (u := U) (U := U.calling g mk a) (Vm.Alike.refl U.vm) h.2.1, fun q hq => (h.2.2 q hq).moved (u := U) (U := U.calling g mk a) (Vm.Alike.refl U.vm)⟩
/-- the law's world: the class, the long[1], the reference -/
def wX (cI cZ cJ : ClassId) (a aM : Nat → Nat) (b q qM : Nat) (u : StO) (μ : StM) : va_W := wO cI cZ cJ a b q u ++ wM cI cZ aM qM μ
section LB
variable {p : Program} {l : Launch} {e : Env} {R : Room} {s : State} {m : MethodId} {args : Array Value} {below : List Frame} {meth : Method} {c : Code} {H : Heap} {locs : List Loc} {cells slots : Nat} {Q : State → Prop}
variable {cc : ByteArray} {pc : Nat} {ls : Array Slot} {rest st : List Value} {D : va_G} {ret0 : Option FieldType} {nL : Nat} {own : String} {lv : List (Nat × Value)} {A : Nat → Prop} {ws : va_W} {cI cZ cJ : ClassId}
/-- a call of one of the law's own methods with try and catch -/
theorem hp_S {a : Nat → Nat} {b q : Nat} {u : StO} {res : Int32 × StO × Nat × Nat} {y : MethodName} {ccy : ByteArray} {nLy : Nat} {hh : List (Nat × Nat × Nat × Nat)} {fr lc idx n : Nat} {As : List Value} {Wn : Nat → va_W}
    (C0 : Am p s m args meth c cc ret0 nL own D [(cI, .int), (cZ, .boolean)]) (hKO : KO D cI cZ cJ s) (hA : ∀ q, s.heap.size ≤ q → A q) (hZ : Zs A s s.heap) (hM : HpM l y ccy nLy hh fr lc D cI cZ cJ As a b q u res)
    (hlk : Cond.methodLink own idx y ∈ tb) (w1 : Cond.codeWith y ccy nLy (some .int) hh ∈ tb) (w2 : Cond.static y ∈ tb) (w3 : Cond.initialized y.cls ∈ tb) (hy : plainY y n)
    (hR : fr + 1 ≤ R.frames ∧ 8 + (nLy + 11) + lc ≤ R.locals) (hP : va_P D vwCl ws H) (hD : va_D A ws) (hS : va_S A s.heap H locs)
    (isC isR pm : List Nat) (hC : isC.map (fun i => ws[i]?) = (wO cI cZ cJ a b q u).map some) (hCd : va_nd isC = true) (hRr : isR.map (fun i => ws[i]?) = (isR.filterMap (fun i => ws[i]?)).map some) (hnd : va_nd isR = true) (hdis : ∀ i ∈ isR, i ∉ isC) (hpm : va_nd pm = true) (hW : ∀ q1, pm.map (fun i => (isR.filterMap (fun i => ws[i]?) ++ wO cI cZ cJ a b q1 res.2.1)[i]?) = (Wn q1).map some)
    (hl : lv_has ls nL lv) (hn : As.length = n) (hst : st = As.reverse ++ rest) (hr : (rest.map fun v => v.category).sum ≤ 8) (hcs : cells + res.2.2.1 ≤ R.cells ∧ slots + res.2.2.2 ≤ R.slots) (hdg : decode cc pc = .ok (.invokestatic idx, 3))
    (kk : ∀ (H1 : Heap) (locs1 : List Loc) (q1 : Nat), va_P D vwCl (Wn q1) H1 → va_D A (Wn q1) → va_S A s.heap H1 locs1 → W p l e R s m args below meth c H1 locs1 (cells + res.2.2.1) (slots + res.2.2.2) Q (F0 m (pc + 3) ls (.int res.1 :: rest))) : W p l e R s m args below meth c H locs cells slots Q (F0 m pc ls st) := by
  obtain ⟨hx, hb, hr0, hml, hown, hts, hlk0, hK⟩ := C0
  have hG : GoodIn tb (va_wsS own idx y (Cond.codeWith y ccy nLy (some .int) hh :: tb)) := by
    intro w hw
    have hw2 : w = .methodLink own idx y ∨ w = .static y ∨ w = .initialized y.cls ∨ w = Cond.codeWith y ccy nLy (some .int) hh ∨ w ∈ tb := by
      simpa [va_wsS] using hw
    have hin : w ∈ tb := by
      rcases hw2 with rfl | rfl | rfl | rfl | h
      · exact hlk
      · exact w2
      · exact w3
      · exact w1
      · exact h
    exact ⟨hin, tb_ok _ hin⟩
  have cw := vx_cwSW (R := R) (args := args) (rm := rmK fr lc res.2.2.1 res.2.2.2) (mc := res.2.2.1) (ms := res.2.2.2) n hts hG rfl rfl rfl hy hR
  have hPc := hP.pick isC hC
  have hDc := hD.sub isC hCd hC
  have hFc := va_free hD hS hA isC hC
  have hZ1 : Zs (va_A (wO cI cZ cJ a b q u) H.size) s H := ⟨(hZ.1.kept hS.2.1).narrow hFc, (hZ.2.kept hS.2.1).narrow hFc⟩
  refine va_calli (vx_runSW (As := As) (rest := rest) ⟨hx, hb, hml, hown, hts⟩ (hM H.size) cw ⟨fun a U g mk h => ⟨h.1, h.2.1, h.2.2.1, KO.calling g mk a h.2.2.2.1, h.2.2.2.2.1, Zs.calling g mk a h.2.2.2.2.2⟩, fun U hU hW => ⟨rfl, by rw [hU], by rw [hU]; exact hPc, KO.warm hW hKO, hDc.weaken (fun _ _ _ _ => trivial), by rw [hU]; exact ⟨hZ1.1.moved hW.alike, hZ1.2.moved hW.alike⟩⟩⟩ rfl hn hl.1 hst (lv_room hr) hdg hcs) hS (fun q _ h => hFc q h) hFc (fun r u' t H1 locs1 ht hvm hw hB hz1 hk1 hS1 => ?_)
  obtain ⟨q1, hP1, hD1⟩ := hB
  rw [ht] at hP1
  obtain ⟨hv, hu⟩ := hw
  subst hv
  subst hu
  obtain ⟨hP2, hD2⟩ := va_join hP hD isC isR hC hRr hnd hdis hk1 hFc hP1 hD1
  exact kk H1 locs1 q1 (hP2.pick pm (hW q1)) (hD2.sub pm hpm (hW q1)) hS1
/-- 'script[..] != 0' as a number -/
theorem lw_bz {y : Int32} (hx : p.tables.exec = Jvm.exec) (hb : c.code = cc) (d1 : decode cc pc = .ok (.ifCond .eq 7, 3)) (d2 : decode cc (pc + 3) = .ok (.iconst 1, 1)) (d3 : decode cc (pc + 4) = .ok (.goto 4, 3)) (d4 : decode cc (pc + 7) = .ok (.iconst 0, 1))
    (k : W p l e R s m args below meth c H locs cells slots Q (F0 m (pc + 8) ls (.int (if y = 0 then 0 else 1) :: rest))) : W p l e R s m args below meth c H locs cells slots Q (F0 m pc ls (.int y :: rest)) := by
  refine lv_if_eq (tgt := pc + 7) hx hb d1 (by omega) (fun hc => ?_) (fun hc => ?_)
  · refine lv_iconst (v := 0) hx hb d4 (by decide) ?_
    rw [if_pos hc] at k
    exact k
  · refine lv_iconst (v := 1) hx hb d2 (by decide) ?_
    refine lv_goto (tgt := pc + 8) hx hb d3 (by omega) ?_
    rw [if_neg hc] at k
    exact k
/-- script[i + k] -/
theorem lw_ld {b L j kn : Nat} {kz : Int} {xs : Nat → Int32} (hx : p.tables.exec = Jvm.exec) (hb : c.code = cc) (hX : va_X b L xs s s.heap) (hbl : b < s.heap.size) (hbA : ¬ A b) (hS : va_S A s.heap H locs) (e0 : ls[0]? = some (.val (.ref b))) (e4 : ls[4]? = some (.val (.int (nI j)))) (hk : Int32.ofInt kz = nI kn) (hj : j + kn < L) (hL : L ≤ 2049)
    (d1 : decode cc pc = .ok (.aload_n 0, 1)) (d2 : decode cc (pc + 1) = .ok (.iload 4, 2)) (d3 : decode cc (pc + 3) = .ok (.iconst kz, 1)) (d4 : decode cc (pc + 4) = .ok (.iadd, 1)) (d5 : decode cc (pc + 5) = .ok (.iaload, 1))
    (k : W p l e R s m args below meth c H locs cells slots Q (F0 m (pc + 6) ls (.int (xs (j + kn)) :: rest))) : W p l e R s m args below meth c H locs cells slots Q (F0 m pc ls rest) := by
  refine lv_aload_n hx hb d1 rfl e0 ?_
  refine lv_iload hx hb d2 e4 ?_
  refine lv_iconst (v := nI kn) hx hb d3 hk ?_
  refine lv_iadd hx hb d4 ?_
  rw [nI_add]
  refine va_sld hx hb hX hbl hbA hS (vp_in_nI hj (by omega)) d5 ?_
  rw [nI_clamp (by omega)]
  exact k
end LB
theorem lw_15 (x : Int32) : ∃ v, v < 16 ∧ x &&& 15 = nI v := by
  refine ⟨(x &&& 15).toBitVec.toNat, ?_, ?_⟩
  · rw [Int32.toBitVec_and, BitVec.toNat_and]
    have h : ((15 : Int32).toBitVec).toNat = 15 := by decide
    rw [h]
    exact Nat.lt_of_le_of_lt Nat.and_le_right (by decide)
  · apply Int32.toBitVec_inj.mp
    show _ = BitVec.ofNat 32 _
    simp
-- part 09.41.words.lean.txt
theorem wd_580 : Cond.codeWith ⟨"LeastBoundsLaw", "declare", "(LLeastBounds;ZZ[J)I"⟩ method_3_code 5 (some FieldType.int) [(0, 10, 13, 13)] ∈ tb := mt1 (List.mem_of_getElem? (i := 202) rfl) rfl
theorem wd_581 : Cond.static ⟨"LeastBoundsLaw", "declare", "(LLeastBounds;ZZ[J)I"⟩ ∈ tb := mt1 (List.mem_of_getElem? (i := 201) rfl) rfl
theorem wd_582 : Cond.initialized "LeastBoundsLaw" ∈ tb := mt1 (List.mem_of_getElem? (i := 0) rfl) rfl
theorem wd_583 : Cond.methodLink "LeastBoundsLaw" 80 ⟨"LeastBoundsLaw", "declare", "(LLeastBounds;ZZ[J)I"⟩ ∈ tb := mt1 (List.mem_of_getElem? (i := 200) rfl) rfl
theorem wd_584 : Cond.methodLink "LeastBoundsLaw" 83 ⟨"LeastBoundsModel", "declare", "(ZZ)I"⟩ ∈ tb := mt4 (List.mem_of_getElem? (i := 82) rfl) rfl
theorem wd_585 : Cond.code ⟨"LeastBoundsModel", "declare", "(ZZ)I"⟩ prog_6_method_19_code 3 (some FieldType.int) ∈ tb := mt4 (List.mem_of_getElem? (i := 85) rfl) rfl
theorem wd_586 : Cond.instanceMethod ⟨"LeastBoundsModel", "declare", "(ZZ)I"⟩ ∈ tb := mt4 (List.mem_of_getElem? (i := 83) rfl) rfl
theorem wd_587 : Cond.selects "LeastBoundsModel" ⟨"LeastBoundsModel", "declare", "(ZZ)I"⟩ ⟨"LeastBoundsModel", "declare", "(ZZ)I"⟩ ∈ tb := mt4 (List.mem_of_getElem? (i := 84) rfl) rfl
theorem wd_588 : Cond.methodLink "LeastBoundsLaw" 84 ⟨"LeastBoundsModel", "thrown", "()I"⟩ ∈ tb := mt4 (List.mem_of_getElem? (i := 78) rfl) rfl
theorem wd_589 : Cond.code ⟨"LeastBoundsModel", "thrown", "()I"⟩ prog_6_method_2_code 1 (some FieldType.int) ∈ tb := mt4 (List.mem_of_getElem? (i := 81) rfl) rfl
theorem wd_590 : Cond.instanceMethod ⟨"LeastBoundsModel", "thrown", "()I"⟩ ∈ tb := mt4 (List.mem_of_getElem? (i := 79) rfl) rfl
theorem wd_591 : Cond.selects "LeastBoundsModel" ⟨"LeastBoundsModel", "thrown", "()I"⟩ ⟨"LeastBoundsModel", "thrown", "()I"⟩ ∈ tb := mt4 (List.mem_of_getElem? (i := 80) rfl) rfl
theorem wd_592 : Cond.codeWith ⟨"LeastBoundsLaw", "above", "(LLeastBounds;II[J)I"⟩ method_4_code 5 (some FieldType.int) [(0, 10, 13, 19), (0, 10, 17, 13), (0, 10, 21, 21)] ∈ tb := mt2 (List.mem_of_getElem? (i := 48) rfl) rfl
theorem wd_593 : Cond.static ⟨"LeastBoundsLaw", "above", "(LLeastBounds;II[J)I"⟩ ∈ tb := mt2 (List.mem_of_getElem? (i := 47) rfl) rfl
theorem wd_594 : Cond.methodLink "LeastBoundsLaw" 88 ⟨"LeastBoundsLaw", "above", "(LLeastBounds;II[J)I"⟩ ∈ tb := mt2 (List.mem_of_getElem? (i := 46) rfl) rfl
theorem wd_595 : Cond.methodLink "LeastBoundsLaw" 91 ⟨"LeastBoundsModel", "above", "(II)I"⟩ ∈ tb := mt4 (List.mem_of_getElem? (i := 90) rfl) rfl
theorem wd_596 : Cond.code ⟨"LeastBoundsModel", "above", "(II)I"⟩ prog_6_method_22_code 7 (some FieldType.int) ∈ tb := mt4 (List.mem_of_getElem? (i := 93) rfl) rfl
theorem wd_597 : Cond.instanceMethod ⟨"LeastBoundsModel", "above", "(II)I"⟩ ∈ tb := mt4 (List.mem_of_getElem? (i := 91) rfl) rfl
theorem wd_598 : Cond.selects "LeastBoundsModel" ⟨"LeastBoundsModel", "above", "(II)I"⟩ ⟨"LeastBoundsModel", "above", "(II)I"⟩ ∈ tb := mt4 (List.mem_of_getElem? (i := 92) rfl) rfl
theorem wd_599 : Cond.codeWith ⟨"LeastBoundsLaw", "named", "(LLeastBounds;III[J)I"⟩ method_5_code 6 (some FieldType.int) [(0, 12, 15, 19), (0, 12, 19, 21), (0, 12, 23, 13)] ∈ tb := mt2 (List.mem_of_getElem? (i := 165) rfl) rfl
theorem wd_600 : Cond.static ⟨"LeastBoundsLaw", "named", "(LLeastBounds;III[J)I"⟩ ∈ tb := mt2 (List.mem_of_getElem? (i := 164) rfl) rfl
theorem wd_601 : Cond.methodLink "LeastBoundsLaw" 92 ⟨"LeastBoundsLaw", "named", "(LLeastBounds;III[J)I"⟩ ∈ tb := mt2 (List.mem_of_getElem? (i := 163) rfl) rfl
theorem wd_602 : Cond.methodLink "LeastBoundsLaw" 95 ⟨"LeastBoundsModel", "named", "(III)I"⟩ ∈ tb := mt4 (List.mem_of_getElem? (i := 133) rfl) rfl
theorem wd_603 : Cond.code ⟨"LeastBoundsModel", "named", "(III)I"⟩ prog_6_method_29_code 7 (some FieldType.int) ∈ tb := mt4 (List.mem_of_getElem? (i := 136) rfl) rfl
theorem wd_604 : Cond.instanceMethod ⟨"LeastBoundsModel", "named", "(III)I"⟩ ∈ tb := mt4 (List.mem_of_getElem? (i := 134) rfl) rfl
theorem wd_605 : Cond.selects "LeastBoundsModel" ⟨"LeastBoundsModel", "named", "(III)I"⟩ ⟨"LeastBoundsModel", "named", "(III)I"⟩ ∈ tb := mt4 (List.mem_of_getElem? (i := 135) rfl) rfl
theorem wd_606 : Cond.codeWith ⟨"LeastBoundsLaw", "array", "(LLeastBounds;I[J)I"⟩ method_6_code 4 (some FieldType.int) [(0, 9, 12, 19), (0, 9, 15, 13)] ∈ tb := mt2 (List.mem_of_getElem? (i := 186) rfl) rfl
theorem wd_607 : Cond.static ⟨"LeastBoundsLaw", "array", "(LLeastBounds;I[J)I"⟩ ∈ tb := mt2 (List.mem_of_getElem? (i := 185) rfl) rfl
theorem wd_608 : Cond.methodLink "LeastBoundsLaw" 96 ⟨"LeastBoundsLaw", "array", "(LLeastBounds;I[J)I"⟩ ∈ tb := mt2 (List.mem_of_getElem? (i := 184) rfl) rfl
theorem wd_609 : Cond.methodLink "LeastBoundsLaw" 99 ⟨"LeastBoundsModel", "array", "(I)I"⟩ ∈ tb := mt4 (List.mem_of_getElem? (i := 153) rfl) rfl
theorem wd_610 : Cond.code ⟨"LeastBoundsModel", "array", "(I)I"⟩ prog_6_method_30_code 3 (some FieldType.int) ∈ tb := mt4 (List.mem_of_getElem? (i := 156) rfl) rfl
theorem wd_611 : Cond.instanceMethod ⟨"LeastBoundsModel", "array", "(I)I"⟩ ∈ tb := mt4 (List.mem_of_getElem? (i := 154) rfl) rfl
theorem wd_612 : Cond.selects "LeastBoundsModel" ⟨"LeastBoundsModel", "array", "(I)I"⟩ ⟨"LeastBoundsModel", "array", "(I)I"⟩ ∈ tb := mt4 (List.mem_of_getElem? (i := 155) rfl) rfl
theorem wd_613 : Cond.codeWith ⟨"LeastBoundsLaw", "upper", "(LLeastBounds;II[J)I"⟩ method_7_code 5 (some FieldType.int) [(0, 10, 13, 19), (0, 10, 17, 13)] ∈ tb := mt2 (List.mem_of_getElem? (i := 197) rfl) rfl
theorem wd_614 : Cond.static ⟨"LeastBoundsLaw", "upper", "(LLeastBounds;II[J)I"⟩ ∈ tb := mt2 (List.mem_of_getElem? (i := 196) rfl) rfl
theorem wd_615 : Cond.methodLink "LeastBoundsLaw" 100 ⟨"LeastBoundsLaw", "upper", "(LLeastBounds;II[J)I"⟩ ∈ tb := mt2 (List.mem_of_getElem? (i := 195) rfl) rfl
theorem wd_616 : Cond.methodLink "LeastBoundsLaw" 102 ⟨"LeastBoundsModel", "upper", "(II)I"⟩ ∈ tb := mt4 (List.mem_of_getElem? (i := 213) rfl) rfl
theorem wd_617 : Cond.code ⟨"LeastBoundsModel", "upper", "(II)I"⟩ prog_6_method_44_code 5 (some FieldType.int) ∈ tb := mt4 (List.mem_of_getElem? (i := 216) rfl) rfl
theorem wd_618 : Cond.instanceMethod ⟨"LeastBoundsModel", "upper", "(II)I"⟩ ∈ tb := mt4 (List.mem_of_getElem? (i := 214) rfl) rfl
theorem wd_619 : Cond.selects "LeastBoundsModel" ⟨"LeastBoundsModel", "upper", "(II)I"⟩ ⟨"LeastBoundsModel", "upper", "(II)I"⟩ ∈ tb := mt4 (List.mem_of_getElem? (i := 215) rfl) rfl
theorem wd_620 : Cond.codeWith ⟨"LeastBoundsLaw", "lower", "(LLeastBounds;II[J)I"⟩ method_8_code 5 (some FieldType.int) [(0, 10, 13, 19), (0, 10, 17, 13)] ∈ tb := mt3 (List.mem_of_getElem? (i := 60) rfl) rfl
theorem wd_621 : Cond.static ⟨"LeastBoundsLaw", "lower", "(LLeastBounds;II[J)I"⟩ ∈ tb := mt3 (List.mem_of_getElem? (i := 59) rfl) rfl
theorem wd_622 : Cond.methodLink "LeastBoundsLaw" 103 ⟨"LeastBoundsLaw", "lower", "(LLeastBounds;II[J)I"⟩ ∈ tb := mt3 (List.mem_of_getElem? (i := 58) rfl) rfl
theorem wd_623 : Cond.methodLink "LeastBoundsLaw" 105 ⟨"LeastBoundsModel", "lower", "(II)I"⟩ ∈ tb := mt5 (List.mem_of_getElem? (i := 1) rfl) rfl
theorem wd_624 : Cond.code ⟨"LeastBoundsModel", "lower", "(II)I"⟩ prog_6_method_45_code 10 (some FieldType.int) ∈ tb := mt5 (List.mem_of_getElem? (i := 4) rfl) rfl
theorem wd_625 : Cond.instanceMethod ⟨"LeastBoundsModel", "lower", "(II)I"⟩ ∈ tb := mt5 (List.mem_of_getElem? (i := 2) rfl) rfl
theorem wd_626 : Cond.selects "LeastBoundsModel" ⟨"LeastBoundsModel", "lower", "(II)I"⟩ ⟨"LeastBoundsModel", "lower", "(II)I"⟩ ∈ tb := mt5 (List.mem_of_getElem? (i := 3) rfl) rfl
theorem wd_627 : Cond.codeWith ⟨"LeastBoundsLaw", "isBelow", "(LLeastBounds;II[J)I"⟩ method_9_code 5 (some FieldType.int) [(0, 17, 20, 19)] ∈ tb := mt3 (List.mem_of_getElem? (i := 109) rfl) rfl
theorem wd_628 : Cond.static ⟨"LeastBoundsLaw", "isBelow", "(LLeastBounds;II[J)I"⟩ ∈ tb := mt3 (List.mem_of_getElem? (i := 108) rfl) rfl
theorem wd_629 : Cond.methodLink "LeastBoundsLaw" 106 ⟨"LeastBoundsLaw", "isBelow", "(LLeastBounds;II[J)I"⟩ ∈ tb := mt3 (List.mem_of_getElem? (i := 107) rfl) rfl
theorem wd_630 : Cond.methodLink "LeastBoundsLaw" 108 ⟨"LeastBoundsModel", "isBelow", "(II)Z"⟩ ∈ tb := mt4 (List.mem_of_getElem? (i := 161) rfl) rfl
theorem wd_631 : Cond.code ⟨"LeastBoundsModel", "isBelow", "(II)Z"⟩ prog_6_method_31_code 3 (some FieldType.boolean) ∈ tb := mt4 (List.mem_of_getElem? (i := 164) rfl) rfl
theorem wd_632 : Cond.instanceMethod ⟨"LeastBoundsModel", "isBelow", "(II)Z"⟩ ∈ tb := mt4 (List.mem_of_getElem? (i := 162) rfl) rfl
theorem wd_633 : Cond.selects "LeastBoundsModel" ⟨"LeastBoundsModel", "isBelow", "(II)Z"⟩ ⟨"LeastBoundsModel", "isBelow", "(II)Z"⟩ ∈ tb := mt4 (List.mem_of_getElem? (i := 163) rfl) rfl
theorem wd_634 : Cond.codeWith ⟨"LeastBoundsLaw", "look", "(LLeastBounds;II[J)I"⟩ method_10_code 5 (some FieldType.int) [(0, 10, 13, 19), (0, 10, 17, 13)] ∈ tb := mt3 (List.mem_of_getElem? (i := 116) rfl) rfl
theorem wd_635 : Cond.static ⟨"LeastBoundsLaw", "look", "(LLeastBounds;II[J)I"⟩ ∈ tb := mt3 (List.mem_of_getElem? (i := 115) rfl) rfl
theorem wd_636 : Cond.methodLink "LeastBoundsLaw" 109 ⟨"LeastBoundsLaw", "look", "(LLeastBounds;II[J)I"⟩ ∈ tb := mt3 (List.mem_of_getElem? (i := 114) rfl) rfl
theorem wd_637 : Cond.methodLink "LeastBoundsLaw" 111 ⟨"LeastBoundsModel", "look", "(II)I"⟩ ∈ tb := mt4 (List.mem_of_getElem? (i := 185) rfl) rfl
theorem wd_638 : Cond.code ⟨"LeastBoundsModel", "look", "(II)I"⟩ prog_6_method_32_code 4 (some FieldType.int) ∈ tb := mt4 (List.mem_of_getElem? (i := 188) rfl) rfl
theorem wd_639 : Cond.instanceMethod ⟨"LeastBoundsModel", "look", "(II)I"⟩ ∈ tb := mt4 (List.mem_of_getElem? (i := 186) rfl) rfl
theorem wd_640 : Cond.selects "LeastBoundsModel" ⟨"LeastBoundsModel", "look", "(II)I"⟩ ⟨"LeastBoundsModel", "look", "(II)I"⟩ ∈ tb := mt4 (List.mem_of_getElem? (i := 187) rfl) rfl
theorem wd_641 : Cond.codeWith ⟨"LeastBoundsLaw", "box", "(LLeastBounds;I[J)I"⟩ method_11_code 4 (some FieldType.int) [(0, 9, 12, 19), (0, 9, 15, 13)] ∈ tb := mt3 (List.mem_of_getElem? (i := 123) rfl) rfl
theorem wd_642 : Cond.static ⟨"LeastBoundsLaw", "box", "(LLeastBounds;I[J)I"⟩ ∈ tb := mt3 (List.mem_of_getElem? (i := 122) rfl) rfl
theorem wd_643 : Cond.methodLink "LeastBoundsLaw" 112 ⟨"LeastBoundsLaw", "box", "(LLeastBounds;I[J)I"⟩ ∈ tb := mt3 (List.mem_of_getElem? (i := 121) rfl) rfl
theorem wd_644 : Cond.methodLink "LeastBoundsLaw" 114 ⟨"LeastBoundsModel", "box", "(I)I"⟩ ∈ tb := mt4 (List.mem_of_getElem? (i := 189) rfl) rfl
theorem wd_645 : Cond.code ⟨"LeastBoundsModel", "box", "(I)I"⟩ prog_6_method_33_code 2 (some FieldType.int) ∈ tb := mt4 (List.mem_of_getElem? (i := 192) rfl) rfl
theorem wd_646 : Cond.instanceMethod ⟨"LeastBoundsModel", "box", "(I)I"⟩ ∈ tb := mt4 (List.mem_of_getElem? (i := 190) rfl) rfl
theorem wd_647 : Cond.selects "LeastBoundsModel" ⟨"LeastBoundsModel", "box", "(I)I"⟩ ⟨"LeastBoundsModel", "box", "(I)I"⟩ ∈ tb := mt4 (List.mem_of_getElem? (i := 191) rfl) rfl
theorem wd_648 : Cond.codeWith ⟨"LeastBoundsLaw", "type", "(LLeastBounds;II[J)I"⟩ method_12_code 5 (some FieldType.int) [(0, 10, 13, 19), (0, 10, 17, 21)] ∈ tb := mt3 (List.mem_of_getElem? (i := 130) rfl) rfl
theorem wd_649 : Cond.static ⟨"LeastBoundsLaw", "type", "(LLeastBounds;II[J)I"⟩ ∈ tb := mt3 (List.mem_of_getElem? (i := 129) rfl) rfl
theorem wd_650 : Cond.methodLink "LeastBoundsLaw" 115 ⟨"LeastBoundsLaw", "type", "(LLeastBounds;II[J)I"⟩ ∈ tb := mt3 (List.mem_of_getElem? (i := 128) rfl) rfl
theorem wd_651 : Cond.methodLink "LeastBoundsLaw" 117 ⟨"LeastBoundsModel", "type", "(II)I"⟩ ∈ tb := mt4 (List.mem_of_getElem? (i := 193) rfl) rfl
theorem wd_652 : Cond.code ⟨"LeastBoundsModel", "type", "(II)I"⟩ prog_6_method_34_code 3 (some FieldType.int) ∈ tb := mt4 (List.mem_of_getElem? (i := 196) rfl) rfl
theorem wd_653 : Cond.instanceMethod ⟨"LeastBoundsModel", "type", "(II)I"⟩ ∈ tb := mt4 (List.mem_of_getElem? (i := 194) rfl) rfl
theorem wd_654 : Cond.selects "LeastBoundsModel" ⟨"LeastBoundsModel", "type", "(II)I"⟩ ⟨"LeastBoundsModel", "type", "(II)I"⟩ ∈ tb := mt4 (List.mem_of_getElem? (i := 195) rfl) rfl
theorem wd_655 : Cond.codeWith ⟨"LeastBoundsLaw", "part", "(LLeastBounds;II[J)I"⟩ method_13_code 5 (some FieldType.int) [(0, 10, 13, 19)] ∈ tb := mt3 (List.mem_of_getElem? (i := 139) rfl) rfl
theorem wd_656 : Cond.static ⟨"LeastBoundsLaw", "part", "(LLeastBounds;II[J)I"⟩ ∈ tb := mt3 (List.mem_of_getElem? (i := 138) rfl) rfl
theorem wd_657 : Cond.methodLink "LeastBoundsLaw" 118 ⟨"LeastBoundsLaw", "part", "(LLeastBounds;II[J)I"⟩ ∈ tb := mt3 (List.mem_of_getElem? (i := 137) rfl) rfl
theorem wd_658 : Cond.methodLink "LeastBoundsLaw" 120 ⟨"LeastBoundsModel", "part", "(II)I"⟩ ∈ tb := mt4 (List.mem_of_getElem? (i := 197) rfl) rfl
theorem wd_659 : Cond.code ⟨"LeastBoundsModel", "part", "(II)I"⟩ prog_6_method_35_code 3 (some FieldType.int) ∈ tb := mt4 (List.mem_of_getElem? (i := 200) rfl) rfl
theorem wd_660 : Cond.instanceMethod ⟨"LeastBoundsModel", "part", "(II)I"⟩ ∈ tb := mt4 (List.mem_of_getElem? (i := 198) rfl) rfl
theorem wd_661 : Cond.selects "LeastBoundsModel" ⟨"LeastBoundsModel", "part", "(II)I"⟩ ⟨"LeastBoundsModel", "part", "(II)I"⟩ ∈ tb := mt4 (List.mem_of_getElem? (i := 199) rfl) rfl
theorem wd_662 : Cond.codeWith ⟨"LeastBoundsLaw", "common", "(LLeastBounds;III[J)I"⟩ method_14_code 6 (some FieldType.int) [(0, 12, 15, 19), (0, 12, 19, 21)] ∈ tb := mt3 (List.mem_of_getElem? (i := 147) rfl) rfl
theorem wd_663 : Cond.static ⟨"LeastBoundsLaw", "common", "(LLeastBounds;III[J)I"⟩ ∈ tb := mt3 (List.mem_of_getElem? (i := 146) rfl) rfl
theorem wd_664 : Cond.methodLink "LeastBoundsLaw" 121 ⟨"LeastBoundsLaw", "common", "(LLeastBounds;III[J)I"⟩ ∈ tb := mt3 (List.mem_of_getElem? (i := 145) rfl) rfl
theorem wd_665 : Cond.methodLink "LeastBoundsLaw" 123 ⟨"LeastBoundsModel", "common", "(III)I"⟩ ∈ tb := mt4 (List.mem_of_getElem? (i := 201) rfl) rfl
theorem wd_666 : Cond.code ⟨"LeastBoundsModel", "common", "(III)I"⟩ prog_6_method_38_code 5 (some FieldType.int) ∈ tb := mt4 (List.mem_of_getElem? (i := 204) rfl) rfl
theorem wd_667 : Cond.instanceMethod ⟨"LeastBoundsModel", "common", "(III)I"⟩ ∈ tb := mt4 (List.mem_of_getElem? (i := 202) rfl) rfl
theorem wd_668 : Cond.selects "LeastBoundsModel" ⟨"LeastBoundsModel", "common", "(III)I"⟩ ⟨"LeastBoundsModel", "common", "(III)I"⟩ ∈ tb := mt4 (List.mem_of_getElem? (i := 203) rfl) rfl
theorem wd_669 : Cond.codeWith ⟨"LeastBoundsLaw", "isUnder", "(LLeastBounds;II[J)I"⟩ method_15_code 5 (some FieldType.int) [(0, 17, 20, 19)] ∈ tb := mt3 (List.mem_of_getElem? (i := 161) rfl) rfl
theorem wd_670 : Cond.static ⟨"LeastBoundsLaw", "isUnder", "(LLeastBounds;II[J)I"⟩ ∈ tb := mt3 (List.mem_of_getElem? (i := 160) rfl) rfl
theorem wd_671 : Cond.methodLink "LeastBoundsLaw" 124 ⟨"LeastBoundsLaw", "isUnder", "(LLeastBounds;II[J)I"⟩ ∈ tb := mt3 (List.mem_of_getElem? (i := 159) rfl) rfl
theorem wd_672 : Cond.methodLink "LeastBoundsLaw" 126 ⟨"LeastBoundsModel", "isUnder", "(II)Z"⟩ ∈ tb := mt4 (List.mem_of_getElem? (i := 114) rfl) rfl
theorem wd_673 : Cond.code ⟨"LeastBoundsModel", "isUnder", "(II)Z"⟩ prog_6_method_23_code 3 (some FieldType.boolean) ∈ tb := mt4 (List.mem_of_getElem? (i := 117) rfl) rfl
theorem wd_674 : Cond.instanceMethod ⟨"LeastBoundsModel", "isUnder", "(II)Z"⟩ ∈ tb := mt4 (List.mem_of_getElem? (i := 115) rfl) rfl
theorem wd_675 : Cond.selects "LeastBoundsModel" ⟨"LeastBoundsModel", "isUnder", "(II)Z"⟩ ⟨"LeastBoundsModel", "isUnder", "(II)Z"⟩ ∈ tb := mt4 (List.mem_of_getElem? (i := 116) rfl) rfl
theorem wd_676 : Cond.codeWith ⟨"LeastBoundsLaw", "classed", "(LLeastBounds;II[J)I"⟩ method_16_code 5 (some FieldType.int) [(0, 10, 13, 19), (0, 10, 17, 21)] ∈ tb := mt3 (List.mem_of_getElem? (i := 169) rfl) rfl
theorem wd_677 : Cond.static ⟨"LeastBoundsLaw", "classed", "(LLeastBounds;II[J)I"⟩ ∈ tb := mt3 (List.mem_of_getElem? (i := 168) rfl) rfl
theorem wd_678 : Cond.methodLink "LeastBoundsLaw" 127 ⟨"LeastBoundsLaw", "classed", "(LLeastBounds;II[J)I"⟩ ∈ tb := mt3 (List.mem_of_getElem? (i := 167) rfl) rfl
theorem wd_679 : Cond.methodLink "LeastBoundsLaw" 129 ⟨"LeastBoundsModel", "classed", "(II)I"⟩ ∈ tb := mt4 (List.mem_of_getElem? (i := 118) rfl) rfl
theorem wd_680 : Cond.code ⟨"LeastBoundsModel", "classed", "(II)I"⟩ prog_6_method_24_code 3 (some FieldType.int) ∈ tb := mt4 (List.mem_of_getElem? (i := 121) rfl) rfl
theorem wd_681 : Cond.instanceMethod ⟨"LeastBoundsModel", "classed", "(II)I"⟩ ∈ tb := mt4 (List.mem_of_getElem? (i := 119) rfl) rfl
theorem wd_682 : Cond.selects "LeastBoundsModel" ⟨"LeastBoundsModel", "classed", "(II)I"⟩ ⟨"LeastBoundsModel", "classed", "(II)I"⟩ ∈ tb := mt4 (List.mem_of_getElem? (i := 120) rfl) rfl
theorem wd_683 : Cond.codeWith ⟨"LeastBoundsLaw", "direct", "(LLeastBounds;III[J)I"⟩ method_17_code 6 (some FieldType.int) [(0, 12, 15, 19), (0, 12, 19, 21)] ∈ tb := mt3 (List.mem_of_getElem? (i := 178) rfl) rfl
theorem wd_684 : Cond.static ⟨"LeastBoundsLaw", "direct", "(LLeastBounds;III[J)I"⟩ ∈ tb := mt3 (List.mem_of_getElem? (i := 177) rfl) rfl
theorem wd_685 : Cond.methodLink "LeastBoundsLaw" 130 ⟨"LeastBoundsLaw", "direct", "(LLeastBounds;III[J)I"⟩ ∈ tb := mt3 (List.mem_of_getElem? (i := 176) rfl) rfl
theorem wd_686 : Cond.methodLink "LeastBoundsLaw" 132 ⟨"LeastBoundsModel", "direct", "(III)I"⟩ ∈ tb := mt4 (List.mem_of_getElem? (i := 125) rfl) rfl
theorem wd_687 : Cond.code ⟨"LeastBoundsModel", "direct", "(III)I"⟩ prog_6_method_26_code 4 (some FieldType.int) ∈ tb := mt4 (List.mem_of_getElem? (i := 128) rfl) rfl
theorem wd_688 : Cond.instanceMethod ⟨"LeastBoundsModel", "direct", "(III)I"⟩ ∈ tb := mt4 (List.mem_of_getElem? (i := 126) rfl) rfl
theorem wd_689 : Cond.selects "LeastBoundsModel" ⟨"LeastBoundsModel", "direct", "(III)I"⟩ ⟨"LeastBoundsModel", "direct", "(III)I"⟩ ∈ tb := mt4 (List.mem_of_getElem? (i := 127) rfl) rfl
theorem wd_690 : Cond.codeWith ⟨"LeastBoundsLaw", "told", "(LLeastBounds;I[J)I"⟩ method_18_code 4 (some FieldType.int) [(0, 9, 12, 21)] ∈ tb := mt3 (List.mem_of_getElem? (i := 188) rfl) rfl
theorem wd_691 : Cond.static ⟨"LeastBoundsLaw", "told", "(LLeastBounds;I[J)I"⟩ ∈ tb := mt3 (List.mem_of_getElem? (i := 187) rfl) rfl
theorem wd_692 : Cond.methodLink "LeastBoundsLaw" 133 ⟨"LeastBoundsLaw", "told", "(LLeastBounds;I[J)I"⟩ ∈ tb := mt3 (List.mem_of_getElem? (i := 186) rfl) rfl
theorem wd_693 : Cond.methodLink "LeastBoundsLaw" 135 ⟨"LeastBoundsModel", "told", "(I)I"⟩ ∈ tb := mt4 (List.mem_of_getElem? (i := 129) rfl) rfl
theorem wd_694 : Cond.code ⟨"LeastBoundsModel", "told", "(I)I"⟩ prog_6_method_27_code 2 (some FieldType.int) ∈ tb := mt4 (List.mem_of_getElem? (i := 132) rfl) rfl
theorem wd_695 : Cond.instanceMethod ⟨"LeastBoundsModel", "told", "(I)I"⟩ ∈ tb := mt4 (List.mem_of_getElem? (i := 130) rfl) rfl
theorem wd_696 : Cond.selects "LeastBoundsModel" ⟨"LeastBoundsModel", "told", "(I)I"⟩ ⟨"LeastBoundsModel", "told", "(I)I"⟩ ∈ tb := mt4 (List.mem_of_getElem? (i := 131) rfl) rfl
theorem wd_697 : Cond.methodLink "LeastBoundsLaw" 68 ⟨"LeastBoundsLaw", "cell", "([II)I"⟩ ∈ tb := mt1 (List.mem_of_getElem? (i := 197) rfl) rfl
theorem wd_698 : Cond.methodLink "LeastBoundsLaw" 74 ⟨"LeastBounds", "<init>", "(I)V"⟩ ∈ tb := mt1 (List.mem_of_getElem? (i := 18) rfl) rfl
theorem wd_699 : Cond.methodLink "LeastBoundsLaw" 79 ⟨"LeastBoundsModel", "<init>", "(I)V"⟩ ∈ tb := mt3 (List.mem_of_getElem? (i := 199) rfl) rfl
theorem wd_700 : Cond.classLink "LeastBoundsLaw" 8 "LeastBounds" ∈ tb := mt1 (List.mem_of_getElem? (i := 16) rfl) rfl
theorem wd_701 : Cond.instantiable "LeastBounds" 6 ∈ tb := mt1 (List.mem_of_getElem? (i := 17) rfl) rfl
theorem wd_702 : Cond.code ⟨"LeastBounds", "<init>", "(I)V"⟩ prog_1_method_1_code 2 none ∈ tb := mt1 (List.mem_of_getElem? (i := 20) rfl) rfl
theorem wd_703 : Cond.instanceMethod ⟨"LeastBounds", "<init>", "(I)V"⟩ ∈ tb := mt1 (List.mem_of_getElem? (i := 19) rfl) rfl
theorem wd_704 : Cond.classLink "LeastBoundsLaw" 77 "LeastBoundsModel" ∈ tb := mt3 (List.mem_of_getElem? (i := 197) rfl) rfl
theorem wd_705 : Cond.instantiable "LeastBoundsModel" 35 ∈ tb := mt3 (List.mem_of_getElem? (i := 198) rfl) rfl
theorem wd_706 : Cond.code ⟨"LeastBoundsModel", "<init>", "(I)V"⟩ prog_6_method_1_code 3 none ∈ tb := mt3 (List.mem_of_getElem? (i := 201) rfl) rfl
theorem wd_707 : Cond.instanceMethod ⟨"LeastBoundsModel", "<init>", "(I)V"⟩ ∈ tb := mt3 (List.mem_of_getElem? (i := 200) rfl) rfl
theorem wd_708 : Cond.code ⟨"LeastBoundsLaw", "cell", "([II)I"⟩ method_2_code 2 (some FieldType.int) ∈ tb := mt1 (List.mem_of_getElem? (i := 199) rfl) rfl
theorem wd_709 : Cond.static ⟨"LeastBoundsLaw", "cell", "([II)I"⟩ ∈ tb := mt1 (List.mem_of_getElem? (i := 198) rfl) rfl
-- part 09.42.dec.lean.txt
theorem d_W_law_0 : decode code 0 = .ok (.new 8, 3) := dq_s (by decide +kernel)
theorem d_W_law_3 : decode code 3 = .ok (.dup, 1) := dq_s (by decide +kernel)
theorem d_W_law_4 : decode code 4 = .ok (.aload_n 0, 1) := dq_s (by decide +kernel)
theorem d_W_law_5 : decode code 5 = .ok (.iconst 0, 1) := dq_s (by decide +kernel)
theorem d_W_law_6 : decode code 6 = .ok (.invokestatic 68, 3) := dq_s (by decide +kernel)
theorem d_W_law_9 : decode code 9 = .ok (.invokespecial 74, 3) := dq_s (by decide +kernel)
theorem d_W_law_12 : decode code 12 = .ok (.astore_n 1, 1) := dq_s (by decide +kernel)
theorem d_W_law_13 : decode code 13 = .ok (.new 77, 3) := dq_s (by decide +kernel)
theorem d_W_law_16 : decode code 16 = .ok (.dup, 1) := dq_s (by decide +kernel)
theorem d_W_law_17 : decode code 17 = .ok (.aload_n 0, 1) := dq_s (by decide +kernel)
theorem d_W_law_18 : decode code 18 = .ok (.iconst 0, 1) := dq_s (by decide +kernel)
theorem d_W_law_19 : decode code 19 = .ok (.invokestatic 68, 3) := dq_s (by decide +kernel)
theorem d_W_law_22 : decode code 22 = .ok (.invokespecial 79, 3) := dq_s (by decide +kernel)
theorem d_W_law_25 : decode code 25 = .ok (.astore_n 2, 1) := dq_s (by decide +kernel)
theorem d_W_law_26 : decode code 26 = .ok (.iconst 1, 1) := dq_s (by decide +kernel)
theorem d_W_law_27 : decode code 27 = .ok (.newarray .long, 2) := dq_s (by decide +kernel)
theorem d_W_law_29 : decode code 29 = .ok (.astore_n 3, 1) := dq_s (by decide +kernel)
theorem d_W_law_30 : decode code 30 = .ok (.iconst 1, 1) := dq_s (by decide +kernel)
theorem d_W_law_31 : decode code 31 = .ok (.istore 4, 2) := dq_s (by decide +kernel)
theorem d_W_law_33 : decode code 33 = .ok (.iload 4, 2) := dq_s (by decide +kernel)
theorem d_W_law_35 : decode code 35 = .ok (.aload_n 0, 1) := dq_s (by decide +kernel)
theorem d_W_law_36 : decode code 36 = .ok (.arraylength, 1) := dq_s (by decide +kernel)
theorem d_W_law_37 : decode code 37 = .ok (.iconst 4, 1) := dq_s (by decide +kernel)
theorem d_W_law_38 : decode code 38 = .ok (.isub, 1) := dq_s (by decide +kernel)
theorem d_W_law_39 : decode code 39 = .ok (.if_icmp .gt 795, 3) := dq_s (by decide +kernel)
theorem d_W_law_42 : decode code 42 = .ok (.aload_n 0, 1) := dq_s (by decide +kernel)
theorem d_W_law_43 : decode code 43 = .ok (.iload 4, 2) := dq_s (by decide +kernel)
theorem d_W_law_45 : decode code 45 = .ok (.iaload, 1) := dq_s (by decide +kernel)
theorem d_W_law_46 : decode code 46 = .ok (.bipush 15, 2) := dq_s (by decide +kernel)
theorem d_W_law_48 : decode code 48 = .ok (.iand, 1) := dq_s (by decide +kernel)
theorem d_W_law_49 : decode code 49 = .ok (.tableswitch 779 0 15 #[79, 179, 219, 271, 299, 339, 379, 419, 459, 487, 527, 567, 619, 659, 699, 751], 79) := dq_s (by decide +kernel)
theorem d_W_law_128 : decode code 128 = .ok (.aload_n 1, 1) := dq_s (by decide +kernel)
theorem d_W_law_129 : decode code 129 = .ok (.aload_n 0, 1) := dq_s (by decide +kernel)
theorem d_W_law_130 : decode code 130 = .ok (.iload 4, 2) := dq_s (by decide +kernel)
theorem d_W_law_132 : decode code 132 = .ok (.iconst 1, 1) := dq_s (by decide +kernel)
theorem d_W_law_133 : decode code 133 = .ok (.iadd, 1) := dq_s (by decide +kernel)
theorem d_W_law_134 : decode code 134 = .ok (.iaload, 1) := dq_s (by decide +kernel)
theorem d_W_law_135 : decode code 135 = .ok (.ifCond .eq 7, 3) := dq_s (by decide +kernel)
theorem d_W_law_138 : decode code 138 = .ok (.iconst 1, 1) := dq_s (by decide +kernel)
theorem d_W_law_139 : decode code 139 = .ok (.goto 4, 3) := dq_s (by decide +kernel)
theorem d_W_law_142 : decode code 142 = .ok (.iconst 0, 1) := dq_s (by decide +kernel)
theorem d_W_law_143 : decode code 143 = .ok (.aload_n 0, 1) := dq_s (by decide +kernel)
theorem d_W_law_144 : decode code 144 = .ok (.iload 4, 2) := dq_s (by decide +kernel)
theorem d_W_law_146 : decode code 146 = .ok (.iconst 2, 1) := dq_s (by decide +kernel)
theorem d_W_law_147 : decode code 147 = .ok (.iadd, 1) := dq_s (by decide +kernel)
theorem d_W_law_148 : decode code 148 = .ok (.iaload, 1) := dq_s (by decide +kernel)
theorem d_W_law_149 : decode code 149 = .ok (.ifCond .eq 7, 3) := dq_s (by decide +kernel)
theorem d_W_law_152 : decode code 152 = .ok (.iconst 1, 1) := dq_s (by decide +kernel)
theorem d_W_law_153 : decode code 153 = .ok (.goto 4, 3) := dq_s (by decide +kernel)
theorem d_W_law_156 : decode code 156 = .ok (.iconst 0, 1) := dq_s (by decide +kernel)
theorem d_W_law_157 : decode code 157 = .ok (.aload_n 3, 1) := dq_s (by decide +kernel)
theorem d_W_law_158 : decode code 158 = .ok (.invokestatic 80, 3) := dq_s (by decide +kernel)
theorem d_W_law_161 : decode code 161 = .ok (.istore 5, 2) := dq_s (by decide +kernel)
theorem d_W_law_163 : decode code 163 = .ok (.aload_n 2, 1) := dq_s (by decide +kernel)
theorem d_W_law_164 : decode code 164 = .ok (.aload_n 0, 1) := dq_s (by decide +kernel)
theorem d_W_law_165 : decode code 165 = .ok (.iload 4, 2) := dq_s (by decide +kernel)
theorem d_W_law_167 : decode code 167 = .ok (.iconst 1, 1) := dq_s (by decide +kernel)
theorem d_W_law_168 : decode code 168 = .ok (.iadd, 1) := dq_s (by decide +kernel)
theorem d_W_law_169 : decode code 169 = .ok (.iaload, 1) := dq_s (by decide +kernel)
theorem d_W_law_170 : decode code 170 = .ok (.ifCond .eq 7, 3) := dq_s (by decide +kernel)
theorem d_W_law_173 : decode code 173 = .ok (.iconst 1, 1) := dq_s (by decide +kernel)
theorem d_W_law_174 : decode code 174 = .ok (.goto 4, 3) := dq_s (by decide +kernel)
theorem d_W_law_177 : decode code 177 = .ok (.iconst 0, 1) := dq_s (by decide +kernel)
theorem d_W_law_178 : decode code 178 = .ok (.aload_n 0, 1) := dq_s (by decide +kernel)
theorem d_W_law_179 : decode code 179 = .ok (.iload 4, 2) := dq_s (by decide +kernel)
theorem d_W_law_181 : decode code 181 = .ok (.iconst 2, 1) := dq_s (by decide +kernel)
theorem d_W_law_182 : decode code 182 = .ok (.iadd, 1) := dq_s (by decide +kernel)
theorem d_W_law_183 : decode code 183 = .ok (.iaload, 1) := dq_s (by decide +kernel)
theorem d_W_law_184 : decode code 184 = .ok (.ifCond .eq 7, 3) := dq_s (by decide +kernel)
theorem d_W_law_187 : decode code 187 = .ok (.iconst 1, 1) := dq_s (by decide +kernel)
theorem d_W_law_188 : decode code 188 = .ok (.goto 4, 3) := dq_s (by decide +kernel)
theorem d_W_law_191 : decode code 191 = .ok (.iconst 0, 1) := dq_s (by decide +kernel)
theorem d_W_law_192 : decode code 192 = .ok (.invokevirtual 83, 3) := dq_s (by decide +kernel)
theorem d_W_law_195 : decode code 195 = .ok (.istore 6, 2) := dq_s (by decide +kernel)
theorem d_W_law_197 : decode code 197 = .ok (.aload_n 2, 1) := dq_s (by decide +kernel)
theorem d_W_law_198 : decode code 198 = .ok (.invokevirtual 84, 3) := dq_s (by decide +kernel)
theorem d_W_law_201 : decode code 201 = .ok (.iload 5, 2) := dq_s (by decide +kernel)
theorem d_W_law_203 : decode code 203 = .ok (.if_icmp .eq 5, 3) := dq_s (by decide +kernel)
theorem d_W_law_206 : decode code 206 = .ok (.iconst 0, 1) := dq_s (by decide +kernel)
theorem d_W_law_207 : decode code 207 = .ok (.ireturn, 1) := dq_s (by decide +kernel)
theorem d_W_law_208 : decode code 208 = .ok (.iload 5, 2) := dq_s (by decide +kernel)
theorem d_W_law_210 : decode code 210 = .ok (.ifCond .ne 15, 3) := dq_s (by decide +kernel)
theorem d_W_law_213 : decode code 213 = .ok (.aload_n 3, 1) := dq_s (by decide +kernel)
theorem d_W_law_214 : decode code 214 = .ok (.iconst 0, 1) := dq_s (by decide +kernel)
theorem d_W_law_215 : decode code 215 = .ok (.laload, 1) := dq_s (by decide +kernel)
theorem d_W_law_216 : decode code 216 = .ok (.iload 6, 2) := dq_s (by decide +kernel)
theorem d_W_law_218 : decode code 218 = .ok (.i2l, 1) := dq_s (by decide +kernel)
theorem d_W_law_219 : decode code 219 = .ok (.lcmp, 1) := dq_s (by decide +kernel)
theorem d_W_law_220 : decode code 220 = .ok (.ifCond .eq 5, 3) := dq_s (by decide +kernel)
theorem d_W_law_223 : decode code 223 = .ok (.iconst 0, 1) := dq_s (by decide +kernel)
theorem d_W_law_224 : decode code 224 = .ok (.ireturn, 1) := dq_s (by decide +kernel)
theorem d_W_law_225 : decode code 225 = .ok (.goto 603, 3) := dq_s (by decide +kernel)
theorem d_W_law_228 : decode code 228 = .ok (.aload_n 1, 1) := dq_s (by decide +kernel)
theorem d_W_law_229 : decode code 229 = .ok (.aload_n 0, 1) := dq_s (by decide +kernel)
theorem d_W_law_230 : decode code 230 = .ok (.iload 4, 2) := dq_s (by decide +kernel)
theorem d_W_law_232 : decode code 232 = .ok (.iconst 1, 1) := dq_s (by decide +kernel)
theorem d_W_law_233 : decode code 233 = .ok (.iadd, 1) := dq_s (by decide +kernel)
theorem d_W_law_234 : decode code 234 = .ok (.iaload, 1) := dq_s (by decide +kernel)
theorem d_W_law_235 : decode code 235 = .ok (.aload_n 0, 1) := dq_s (by decide +kernel)
theorem d_W_law_236 : decode code 236 = .ok (.iload 4, 2) := dq_s (by decide +kernel)
theorem d_W_law_238 : decode code 238 = .ok (.iconst 2, 1) := dq_s (by decide +kernel)
theorem d_W_law_239 : decode code 239 = .ok (.iadd, 1) := dq_s (by decide +kernel)
theorem d_W_law_240 : decode code 240 = .ok (.iaload, 1) := dq_s (by decide +kernel)
theorem d_W_law_241 : decode code 241 = .ok (.aload_n 3, 1) := dq_s (by decide +kernel)
theorem d_W_law_242 : decode code 242 = .ok (.invokestatic 88, 3) := dq_s (by decide +kernel)
theorem d_W_law_245 : decode code 245 = .ok (.istore 5, 2) := dq_s (by decide +kernel)
theorem d_W_law_247 : decode code 247 = .ok (.aload_n 2, 1) := dq_s (by decide +kernel)
theorem d_W_law_248 : decode code 248 = .ok (.aload_n 0, 1) := dq_s (by decide +kernel)
theorem d_W_law_249 : decode code 249 = .ok (.iload 4, 2) := dq_s (by decide +kernel)
theorem d_W_law_251 : decode code 251 = .ok (.iconst 1, 1) := dq_s (by decide +kernel)
theorem d_W_law_252 : decode code 252 = .ok (.iadd, 1) := dq_s (by decide +kernel)
theorem d_W_law_253 : decode code 253 = .ok (.iaload, 1) := dq_s (by decide +kernel)
theorem d_W_law_254 : decode code 254 = .ok (.aload_n 0, 1) := dq_s (by decide +kernel)
theorem d_W_law_255 : decode code 255 = .ok (.iload 4, 2) := dq_s (by decide +kernel)
theorem d_W_law_257 : decode code 257 = .ok (.iconst 2, 1) := dq_s (by decide +kernel)
theorem d_W_law_258 : decode code 258 = .ok (.iadd, 1) := dq_s (by decide +kernel)
theorem d_W_law_259 : decode code 259 = .ok (.iaload, 1) := dq_s (by decide +kernel)
theorem d_W_law_260 : decode code 260 = .ok (.invokevirtual 91, 3) := dq_s (by decide +kernel)
theorem d_W_law_263 : decode code 263 = .ok (.istore 6, 2) := dq_s (by decide +kernel)
theorem d_W_law_265 : decode code 265 = .ok (.goto 563, 3) := dq_s (by decide +kernel)
theorem d_W_law_268 : decode code 268 = .ok (.aload_n 1, 1) := dq_s (by decide +kernel)
theorem d_W_law_269 : decode code 269 = .ok (.aload_n 0, 1) := dq_s (by decide +kernel)
theorem d_W_law_270 : decode code 270 = .ok (.iload 4, 2) := dq_s (by decide +kernel)
theorem d_W_law_272 : decode code 272 = .ok (.iconst 1, 1) := dq_s (by decide +kernel)
theorem d_W_law_273 : decode code 273 = .ok (.iadd, 1) := dq_s (by decide +kernel)
theorem d_W_law_274 : decode code 274 = .ok (.iaload, 1) := dq_s (by decide +kernel)
theorem d_W_law_275 : decode code 275 = .ok (.aload_n 0, 1) := dq_s (by decide +kernel)
theorem d_W_law_276 : decode code 276 = .ok (.iload 4, 2) := dq_s (by decide +kernel)
theorem d_W_law_278 : decode code 278 = .ok (.iconst 2, 1) := dq_s (by decide +kernel)
theorem d_W_law_279 : decode code 279 = .ok (.iadd, 1) := dq_s (by decide +kernel)
theorem d_W_law_280 : decode code 280 = .ok (.iaload, 1) := dq_s (by decide +kernel)
theorem d_W_law_281 : decode code 281 = .ok (.aload_n 0, 1) := dq_s (by decide +kernel)
theorem d_W_law_282 : decode code 282 = .ok (.iload 4, 2) := dq_s (by decide +kernel)
theorem d_W_law_284 : decode code 284 = .ok (.iconst 3, 1) := dq_s (by decide +kernel)
theorem d_W_law_285 : decode code 285 = .ok (.iadd, 1) := dq_s (by decide +kernel)
theorem d_W_law_286 : decode code 286 = .ok (.iaload, 1) := dq_s (by decide +kernel)
theorem d_W_law_287 : decode code 287 = .ok (.aload_n 3, 1) := dq_s (by decide +kernel)
theorem d_W_law_288 : decode code 288 = .ok (.invokestatic 92, 3) := dq_s (by decide +kernel)
theorem d_W_law_291 : decode code 291 = .ok (.istore 5, 2) := dq_s (by decide +kernel)
theorem d_W_law_293 : decode code 293 = .ok (.aload_n 2, 1) := dq_s (by decide +kernel)
theorem d_W_law_294 : decode code 294 = .ok (.aload_n 0, 1) := dq_s (by decide +kernel)
theorem d_W_law_295 : decode code 295 = .ok (.iload 4, 2) := dq_s (by decide +kernel)
theorem d_W_law_297 : decode code 297 = .ok (.iconst 1, 1) := dq_s (by decide +kernel)
theorem d_W_law_298 : decode code 298 = .ok (.iadd, 1) := dq_s (by decide +kernel)
theorem d_W_law_299 : decode code 299 = .ok (.iaload, 1) := dq_s (by decide +kernel)
theorem d_W_law_300 : decode code 300 = .ok (.aload_n 0, 1) := dq_s (by decide +kernel)
theorem d_W_law_301 : decode code 301 = .ok (.iload 4, 2) := dq_s (by decide +kernel)
theorem d_W_law_303 : decode code 303 = .ok (.iconst 2, 1) := dq_s (by decide +kernel)
theorem d_W_law_304 : decode code 304 = .ok (.iadd, 1) := dq_s (by decide +kernel)
theorem d_W_law_305 : decode code 305 = .ok (.iaload, 1) := dq_s (by decide +kernel)
theorem d_W_law_306 : decode code 306 = .ok (.aload_n 0, 1) := dq_s (by decide +kernel)
theorem d_W_law_307 : decode code 307 = .ok (.iload 4, 2) := dq_s (by decide +kernel)
theorem d_W_law_309 : decode code 309 = .ok (.iconst 3, 1) := dq_s (by decide +kernel)
theorem d_W_law_310 : decode code 310 = .ok (.iadd, 1) := dq_s (by decide +kernel)
theorem d_W_law_311 : decode code 311 = .ok (.iaload, 1) := dq_s (by decide +kernel)
theorem d_W_law_312 : decode code 312 = .ok (.invokevirtual 95, 3) := dq_s (by decide +kernel)
theorem d_W_law_315 : decode code 315 = .ok (.istore 6, 2) := dq_s (by decide +kernel)
theorem d_W_law_317 : decode code 317 = .ok (.goto 511, 3) := dq_s (by decide +kernel)
theorem d_W_law_320 : decode code 320 = .ok (.aload_n 1, 1) := dq_s (by decide +kernel)
theorem d_W_law_321 : decode code 321 = .ok (.aload_n 0, 1) := dq_s (by decide +kernel)
theorem d_W_law_322 : decode code 322 = .ok (.iload 4, 2) := dq_s (by decide +kernel)
theorem d_W_law_324 : decode code 324 = .ok (.iconst 1, 1) := dq_s (by decide +kernel)
theorem d_W_law_325 : decode code 325 = .ok (.iadd, 1) := dq_s (by decide +kernel)
theorem d_W_law_326 : decode code 326 = .ok (.iaload, 1) := dq_s (by decide +kernel)
theorem d_W_law_327 : decode code 327 = .ok (.aload_n 3, 1) := dq_s (by decide +kernel)
theorem d_W_law_328 : decode code 328 = .ok (.invokestatic 96, 3) := dq_s (by decide +kernel)
theorem d_W_law_331 : decode code 331 = .ok (.istore 5, 2) := dq_s (by decide +kernel)
theorem d_W_law_333 : decode code 333 = .ok (.aload_n 2, 1) := dq_s (by decide +kernel)
theorem d_W_law_334 : decode code 334 = .ok (.aload_n 0, 1) := dq_s (by decide +kernel)
theorem d_W_law_335 : decode code 335 = .ok (.iload 4, 2) := dq_s (by decide +kernel)
theorem d_W_law_337 : decode code 337 = .ok (.iconst 1, 1) := dq_s (by decide +kernel)
theorem d_W_law_338 : decode code 338 = .ok (.iadd, 1) := dq_s (by decide +kernel)
theorem d_W_law_339 : decode code 339 = .ok (.iaload, 1) := dq_s (by decide +kernel)
theorem d_W_law_340 : decode code 340 = .ok (.invokevirtual 99, 3) := dq_s (by decide +kernel)
theorem d_W_law_343 : decode code 343 = .ok (.istore 6, 2) := dq_s (by decide +kernel)
theorem d_W_law_345 : decode code 345 = .ok (.goto 483, 3) := dq_s (by decide +kernel)
theorem d_W_law_348 : decode code 348 = .ok (.aload_n 1, 1) := dq_s (by decide +kernel)
theorem d_W_law_349 : decode code 349 = .ok (.aload_n 0, 1) := dq_s (by decide +kernel)
theorem d_W_law_350 : decode code 350 = .ok (.iload 4, 2) := dq_s (by decide +kernel)
theorem d_W_law_352 : decode code 352 = .ok (.iconst 1, 1) := dq_s (by decide +kernel)
theorem d_W_law_353 : decode code 353 = .ok (.iadd, 1) := dq_s (by decide +kernel)
theorem d_W_law_354 : decode code 354 = .ok (.iaload, 1) := dq_s (by decide +kernel)
theorem d_W_law_355 : decode code 355 = .ok (.aload_n 0, 1) := dq_s (by decide +kernel)
theorem d_W_law_356 : decode code 356 = .ok (.iload 4, 2) := dq_s (by decide +kernel)
theorem d_W_law_358 : decode code 358 = .ok (.iconst 2, 1) := dq_s (by decide +kernel)
theorem d_W_law_359 : decode code 359 = .ok (.iadd, 1) := dq_s (by decide +kernel)
theorem d_W_law_360 : decode code 360 = .ok (.iaload, 1) := dq_s (by decide +kernel)
theorem d_W_law_361 : decode code 361 = .ok (.aload_n 3, 1) := dq_s (by decide +kernel)
theorem d_W_law_362 : decode code 362 = .ok (.invokestatic 100, 3) := dq_s (by decide +kernel)
theorem d_W_law_365 : decode code 365 = .ok (.istore 5, 2) := dq_s (by decide +kernel)
theorem d_W_law_367 : decode code 367 = .ok (.aload_n 2, 1) := dq_s (by decide +kernel)
theorem d_W_law_368 : decode code 368 = .ok (.aload_n 0, 1) := dq_s (by decide +kernel)
theorem d_W_law_369 : decode code 369 = .ok (.iload 4, 2) := dq_s (by decide +kernel)
theorem d_W_law_371 : decode code 371 = .ok (.iconst 1, 1) := dq_s (by decide +kernel)
theorem d_W_law_372 : decode code 372 = .ok (.iadd, 1) := dq_s (by decide +kernel)
theorem d_W_law_373 : decode code 373 = .ok (.iaload, 1) := dq_s (by decide +kernel)
theorem d_W_law_374 : decode code 374 = .ok (.aload_n 0, 1) := dq_s (by decide +kernel)
theorem d_W_law_375 : decode code 375 = .ok (.iload 4, 2) := dq_s (by decide +kernel)
theorem d_W_law_377 : decode code 377 = .ok (.iconst 2, 1) := dq_s (by decide +kernel)
theorem d_W_law_378 : decode code 378 = .ok (.iadd, 1) := dq_s (by decide +kernel)
theorem d_W_law_379 : decode code 379 = .ok (.iaload, 1) := dq_s (by decide +kernel)
theorem d_W_law_380 : decode code 380 = .ok (.invokevirtual 102, 3) := dq_s (by decide +kernel)
theorem d_W_law_383 : decode code 383 = .ok (.istore 6, 2) := dq_s (by decide +kernel)
theorem d_W_law_385 : decode code 385 = .ok (.goto 443, 3) := dq_s (by decide +kernel)
theorem d_W_law_388 : decode code 388 = .ok (.aload_n 1, 1) := dq_s (by decide +kernel)
theorem d_W_law_389 : decode code 389 = .ok (.aload_n 0, 1) := dq_s (by decide +kernel)
theorem d_W_law_390 : decode code 390 = .ok (.iload 4, 2) := dq_s (by decide +kernel)
theorem d_W_law_392 : decode code 392 = .ok (.iconst 1, 1) := dq_s (by decide +kernel)
theorem d_W_law_393 : decode code 393 = .ok (.iadd, 1) := dq_s (by decide +kernel)
theorem d_W_law_394 : decode code 394 = .ok (.iaload, 1) := dq_s (by decide +kernel)
theorem d_W_law_395 : decode code 395 = .ok (.aload_n 0, 1) := dq_s (by decide +kernel)
theorem d_W_law_396 : decode code 396 = .ok (.iload 4, 2) := dq_s (by decide +kernel)
theorem d_W_law_398 : decode code 398 = .ok (.iconst 2, 1) := dq_s (by decide +kernel)
theorem d_W_law_399 : decode code 399 = .ok (.iadd, 1) := dq_s (by decide +kernel)
theorem d_W_law_400 : decode code 400 = .ok (.iaload, 1) := dq_s (by decide +kernel)
theorem d_W_law_401 : decode code 401 = .ok (.aload_n 3, 1) := dq_s (by decide +kernel)
theorem d_W_law_402 : decode code 402 = .ok (.invokestatic 103, 3) := dq_s (by decide +kernel)
theorem d_W_law_405 : decode code 405 = .ok (.istore 5, 2) := dq_s (by decide +kernel)
theorem d_W_law_407 : decode code 407 = .ok (.aload_n 2, 1) := dq_s (by decide +kernel)
theorem d_W_law_408 : decode code 408 = .ok (.aload_n 0, 1) := dq_s (by decide +kernel)
theorem d_W_law_409 : decode code 409 = .ok (.iload 4, 2) := dq_s (by decide +kernel)
theorem d_W_law_411 : decode code 411 = .ok (.iconst 1, 1) := dq_s (by decide +kernel)
theorem d_W_law_412 : decode code 412 = .ok (.iadd, 1) := dq_s (by decide +kernel)
theorem d_W_law_413 : decode code 413 = .ok (.iaload, 1) := dq_s (by decide +kernel)
theorem d_W_law_414 : decode code 414 = .ok (.aload_n 0, 1) := dq_s (by decide +kernel)
theorem d_W_law_415 : decode code 415 = .ok (.iload 4, 2) := dq_s (by decide +kernel)
theorem d_W_law_417 : decode code 417 = .ok (.iconst 2, 1) := dq_s (by decide +kernel)
theorem d_W_law_418 : decode code 418 = .ok (.iadd, 1) := dq_s (by decide +kernel)
theorem d_W_law_419 : decode code 419 = .ok (.iaload, 1) := dq_s (by decide +kernel)
theorem d_W_law_420 : decode code 420 = .ok (.invokevirtual 105, 3) := dq_s (by decide +kernel)
theorem d_W_law_423 : decode code 423 = .ok (.istore 6, 2) := dq_s (by decide +kernel)
theorem d_W_law_425 : decode code 425 = .ok (.goto 403, 3) := dq_s (by decide +kernel)
theorem d_W_law_428 : decode code 428 = .ok (.aload_n 1, 1) := dq_s (by decide +kernel)
theorem d_W_law_429 : decode code 429 = .ok (.aload_n 0, 1) := dq_s (by decide +kernel)
theorem d_W_law_430 : decode code 430 = .ok (.iload 4, 2) := dq_s (by decide +kernel)
theorem d_W_law_432 : decode code 432 = .ok (.iconst 1, 1) := dq_s (by decide +kernel)
theorem d_W_law_433 : decode code 433 = .ok (.iadd, 1) := dq_s (by decide +kernel)
theorem d_W_law_434 : decode code 434 = .ok (.iaload, 1) := dq_s (by decide +kernel)
theorem d_W_law_435 : decode code 435 = .ok (.aload_n 0, 1) := dq_s (by decide +kernel)
theorem d_W_law_436 : decode code 436 = .ok (.iload 4, 2) := dq_s (by decide +kernel)
theorem d_W_law_438 : decode code 438 = .ok (.iconst 2, 1) := dq_s (by decide +kernel)
theorem d_W_law_439 : decode code 439 = .ok (.iadd, 1) := dq_s (by decide +kernel)
theorem d_W_law_440 : decode code 440 = .ok (.iaload, 1) := dq_s (by decide +kernel)
theorem d_W_law_441 : decode code 441 = .ok (.aload_n 3, 1) := dq_s (by decide +kernel)
theorem d_W_law_442 : decode code 442 = .ok (.invokestatic 106, 3) := dq_s (by decide +kernel)
theorem d_W_law_445 : decode code 445 = .ok (.istore 5, 2) := dq_s (by decide +kernel)
theorem d_W_law_447 : decode code 447 = .ok (.aload_n 2, 1) := dq_s (by decide +kernel)
theorem d_W_law_448 : decode code 448 = .ok (.aload_n 0, 1) := dq_s (by decide +kernel)
theorem d_W_law_449 : decode code 449 = .ok (.iload 4, 2) := dq_s (by decide +kernel)
theorem d_W_law_451 : decode code 451 = .ok (.iconst 1, 1) := dq_s (by decide +kernel)
theorem d_W_law_452 : decode code 452 = .ok (.iadd, 1) := dq_s (by decide +kernel)
theorem d_W_law_453 : decode code 453 = .ok (.iaload, 1) := dq_s (by decide +kernel)
theorem d_W_law_454 : decode code 454 = .ok (.aload_n 0, 1) := dq_s (by decide +kernel)
theorem d_W_law_455 : decode code 455 = .ok (.iload 4, 2) := dq_s (by decide +kernel)
theorem d_W_law_457 : decode code 457 = .ok (.iconst 2, 1) := dq_s (by decide +kernel)
theorem d_W_law_458 : decode code 458 = .ok (.iadd, 1) := dq_s (by decide +kernel)
theorem d_W_law_459 : decode code 459 = .ok (.iaload, 1) := dq_s (by decide +kernel)
theorem d_W_law_460 : decode code 460 = .ok (.invokevirtual 108, 3) := dq_s (by decide +kernel)
theorem d_W_law_463 : decode code 463 = .ok (.istore 6, 2) := dq_s (by decide +kernel)
theorem d_W_law_465 : decode code 465 = .ok (.goto 363, 3) := dq_s (by decide +kernel)
theorem d_W_law_468 : decode code 468 = .ok (.aload_n 1, 1) := dq_s (by decide +kernel)
theorem d_W_law_469 : decode code 469 = .ok (.aload_n 0, 1) := dq_s (by decide +kernel)
theorem d_W_law_470 : decode code 470 = .ok (.iload 4, 2) := dq_s (by decide +kernel)
theorem d_W_law_472 : decode code 472 = .ok (.iconst 1, 1) := dq_s (by decide +kernel)
theorem d_W_law_473 : decode code 473 = .ok (.iadd, 1) := dq_s (by decide +kernel)
theorem d_W_law_474 : decode code 474 = .ok (.iaload, 1) := dq_s (by decide +kernel)
theorem d_W_law_475 : decode code 475 = .ok (.aload_n 0, 1) := dq_s (by decide +kernel)
theorem d_W_law_476 : decode code 476 = .ok (.iload 4, 2) := dq_s (by decide +kernel)
theorem d_W_law_478 : decode code 478 = .ok (.iconst 2, 1) := dq_s (by decide +kernel)
theorem d_W_law_479 : decode code 479 = .ok (.iadd, 1) := dq_s (by decide +kernel)
theorem d_W_law_480 : decode code 480 = .ok (.iaload, 1) := dq_s (by decide +kernel)
theorem d_W_law_481 : decode code 481 = .ok (.aload_n 3, 1) := dq_s (by decide +kernel)
theorem d_W_law_482 : decode code 482 = .ok (.invokestatic 109, 3) := dq_s (by decide +kernel)
theorem d_W_law_485 : decode code 485 = .ok (.istore 5, 2) := dq_s (by decide +kernel)
theorem d_W_law_487 : decode code 487 = .ok (.aload_n 2, 1) := dq_s (by decide +kernel)
theorem d_W_law_488 : decode code 488 = .ok (.aload_n 0, 1) := dq_s (by decide +kernel)
theorem d_W_law_489 : decode code 489 = .ok (.iload 4, 2) := dq_s (by decide +kernel)
theorem d_W_law_491 : decode code 491 = .ok (.iconst 1, 1) := dq_s (by decide +kernel)
theorem d_W_law_492 : decode code 492 = .ok (.iadd, 1) := dq_s (by decide +kernel)
theorem d_W_law_493 : decode code 493 = .ok (.iaload, 1) := dq_s (by decide +kernel)
theorem d_W_law_494 : decode code 494 = .ok (.aload_n 0, 1) := dq_s (by decide +kernel)
theorem d_W_law_495 : decode code 495 = .ok (.iload 4, 2) := dq_s (by decide +kernel)
theorem d_W_law_497 : decode code 497 = .ok (.iconst 2, 1) := dq_s (by decide +kernel)
theorem d_W_law_498 : decode code 498 = .ok (.iadd, 1) := dq_s (by decide +kernel)
theorem d_W_law_499 : decode code 499 = .ok (.iaload, 1) := dq_s (by decide +kernel)
theorem d_W_law_500 : decode code 500 = .ok (.invokevirtual 111, 3) := dq_s (by decide +kernel)
theorem d_W_law_503 : decode code 503 = .ok (.istore 6, 2) := dq_s (by decide +kernel)
theorem d_W_law_505 : decode code 505 = .ok (.goto 323, 3) := dq_s (by decide +kernel)
theorem d_W_law_508 : decode code 508 = .ok (.aload_n 1, 1) := dq_s (by decide +kernel)
theorem d_W_law_509 : decode code 509 = .ok (.aload_n 0, 1) := dq_s (by decide +kernel)
theorem d_W_law_510 : decode code 510 = .ok (.iload 4, 2) := dq_s (by decide +kernel)
theorem d_W_law_512 : decode code 512 = .ok (.iconst 1, 1) := dq_s (by decide +kernel)
theorem d_W_law_513 : decode code 513 = .ok (.iadd, 1) := dq_s (by decide +kernel)
theorem d_W_law_514 : decode code 514 = .ok (.iaload, 1) := dq_s (by decide +kernel)
theorem d_W_law_515 : decode code 515 = .ok (.aload_n 3, 1) := dq_s (by decide +kernel)
theorem d_W_law_516 : decode code 516 = .ok (.invokestatic 112, 3) := dq_s (by decide +kernel)
theorem d_W_law_519 : decode code 519 = .ok (.istore 5, 2) := dq_s (by decide +kernel)
theorem d_W_law_521 : decode code 521 = .ok (.aload_n 2, 1) := dq_s (by decide +kernel)
theorem d_W_law_522 : decode code 522 = .ok (.aload_n 0, 1) := dq_s (by decide +kernel)
theorem d_W_law_523 : decode code 523 = .ok (.iload 4, 2) := dq_s (by decide +kernel)
theorem d_W_law_525 : decode code 525 = .ok (.iconst 1, 1) := dq_s (by decide +kernel)
theorem d_W_law_526 : decode code 526 = .ok (.iadd, 1) := dq_s (by decide +kernel)
theorem d_W_law_527 : decode code 527 = .ok (.iaload, 1) := dq_s (by decide +kernel)
theorem d_W_law_528 : decode code 528 = .ok (.invokevirtual 114, 3) := dq_s (by decide +kernel)
theorem d_W_law_531 : decode code 531 = .ok (.istore 6, 2) := dq_s (by decide +kernel)
theorem d_W_law_533 : decode code 533 = .ok (.goto 295, 3) := dq_s (by decide +kernel)
theorem d_W_law_536 : decode code 536 = .ok (.aload_n 1, 1) := dq_s (by decide +kernel)
theorem d_W_law_537 : decode code 537 = .ok (.aload_n 0, 1) := dq_s (by decide +kernel)
theorem d_W_law_538 : decode code 538 = .ok (.iload 4, 2) := dq_s (by decide +kernel)
theorem d_W_law_540 : decode code 540 = .ok (.iconst 1, 1) := dq_s (by decide +kernel)
theorem d_W_law_541 : decode code 541 = .ok (.iadd, 1) := dq_s (by decide +kernel)
theorem d_W_law_542 : decode code 542 = .ok (.iaload, 1) := dq_s (by decide +kernel)
theorem d_W_law_543 : decode code 543 = .ok (.aload_n 0, 1) := dq_s (by decide +kernel)
theorem d_W_law_544 : decode code 544 = .ok (.iload 4, 2) := dq_s (by decide +kernel)
theorem d_W_law_546 : decode code 546 = .ok (.iconst 2, 1) := dq_s (by decide +kernel)
theorem d_W_law_547 : decode code 547 = .ok (.iadd, 1) := dq_s (by decide +kernel)
theorem d_W_law_548 : decode code 548 = .ok (.iaload, 1) := dq_s (by decide +kernel)
theorem d_W_law_549 : decode code 549 = .ok (.aload_n 3, 1) := dq_s (by decide +kernel)
theorem d_W_law_550 : decode code 550 = .ok (.invokestatic 115, 3) := dq_s (by decide +kernel)
theorem d_W_law_553 : decode code 553 = .ok (.istore 5, 2) := dq_s (by decide +kernel)
theorem d_W_law_555 : decode code 555 = .ok (.aload_n 2, 1) := dq_s (by decide +kernel)
theorem d_W_law_556 : decode code 556 = .ok (.aload_n 0, 1) := dq_s (by decide +kernel)
theorem d_W_law_557 : decode code 557 = .ok (.iload 4, 2) := dq_s (by decide +kernel)
theorem d_W_law_559 : decode code 559 = .ok (.iconst 1, 1) := dq_s (by decide +kernel)
theorem d_W_law_560 : decode code 560 = .ok (.iadd, 1) := dq_s (by decide +kernel)
theorem d_W_law_561 : decode code 561 = .ok (.iaload, 1) := dq_s (by decide +kernel)
theorem d_W_law_562 : decode code 562 = .ok (.aload_n 0, 1) := dq_s (by decide +kernel)
theorem d_W_law_563 : decode code 563 = .ok (.iload 4, 2) := dq_s (by decide +kernel)
theorem d_W_law_565 : decode code 565 = .ok (.iconst 2, 1) := dq_s (by decide +kernel)
theorem d_W_law_566 : decode code 566 = .ok (.iadd, 1) := dq_s (by decide +kernel)
theorem d_W_law_567 : decode code 567 = .ok (.iaload, 1) := dq_s (by decide +kernel)
theorem d_W_law_568 : decode code 568 = .ok (.invokevirtual 117, 3) := dq_s (by decide +kernel)
theorem d_W_law_571 : decode code 571 = .ok (.istore 6, 2) := dq_s (by decide +kernel)
theorem d_W_law_573 : decode code 573 = .ok (.goto 255, 3) := dq_s (by decide +kernel)
theorem d_W_law_576 : decode code 576 = .ok (.aload_n 1, 1) := dq_s (by decide +kernel)
theorem d_W_law_577 : decode code 577 = .ok (.aload_n 0, 1) := dq_s (by decide +kernel)
theorem d_W_law_578 : decode code 578 = .ok (.iload 4, 2) := dq_s (by decide +kernel)
theorem d_W_law_580 : decode code 580 = .ok (.iconst 1, 1) := dq_s (by decide +kernel)
theorem d_W_law_581 : decode code 581 = .ok (.iadd, 1) := dq_s (by decide +kernel)
theorem d_W_law_582 : decode code 582 = .ok (.iaload, 1) := dq_s (by decide +kernel)
theorem d_W_law_583 : decode code 583 = .ok (.aload_n 0, 1) := dq_s (by decide +kernel)
theorem d_W_law_584 : decode code 584 = .ok (.iload 4, 2) := dq_s (by decide +kernel)
theorem d_W_law_586 : decode code 586 = .ok (.iconst 2, 1) := dq_s (by decide +kernel)
theorem d_W_law_587 : decode code 587 = .ok (.iadd, 1) := dq_s (by decide +kernel)
theorem d_W_law_588 : decode code 588 = .ok (.iaload, 1) := dq_s (by decide +kernel)
theorem d_W_law_589 : decode code 589 = .ok (.aload_n 3, 1) := dq_s (by decide +kernel)
theorem d_W_law_590 : decode code 590 = .ok (.invokestatic 118, 3) := dq_s (by decide +kernel)
theorem d_W_law_593 : decode code 593 = .ok (.istore 5, 2) := dq_s (by decide +kernel)
theorem d_W_law_595 : decode code 595 = .ok (.aload_n 2, 1) := dq_s (by decide +kernel)
theorem d_W_law_596 : decode code 596 = .ok (.aload_n 0, 1) := dq_s (by decide +kernel)
theorem d_W_law_597 : decode code 597 = .ok (.iload 4, 2) := dq_s (by decide +kernel)
theorem d_W_law_599 : decode code 599 = .ok (.iconst 1, 1) := dq_s (by decide +kernel)
theorem d_W_law_600 : decode code 600 = .ok (.iadd, 1) := dq_s (by decide +kernel)
theorem d_W_law_601 : decode code 601 = .ok (.iaload, 1) := dq_s (by decide +kernel)
theorem d_W_law_602 : decode code 602 = .ok (.aload_n 0, 1) := dq_s (by decide +kernel)
theorem d_W_law_603 : decode code 603 = .ok (.iload 4, 2) := dq_s (by decide +kernel)
theorem d_W_law_605 : decode code 605 = .ok (.iconst 2, 1) := dq_s (by decide +kernel)
theorem d_W_law_606 : decode code 606 = .ok (.iadd, 1) := dq_s (by decide +kernel)
theorem d_W_law_607 : decode code 607 = .ok (.iaload, 1) := dq_s (by decide +kernel)
theorem d_W_law_608 : decode code 608 = .ok (.invokevirtual 120, 3) := dq_s (by decide +kernel)
theorem d_W_law_611 : decode code 611 = .ok (.istore 6, 2) := dq_s (by decide +kernel)
theorem d_W_law_613 : decode code 613 = .ok (.goto 215, 3) := dq_s (by decide +kernel)
theorem d_W_law_616 : decode code 616 = .ok (.aload_n 1, 1) := dq_s (by decide +kernel)
theorem d_W_law_617 : decode code 617 = .ok (.aload_n 0, 1) := dq_s (by decide +kernel)
theorem d_W_law_618 : decode code 618 = .ok (.iload 4, 2) := dq_s (by decide +kernel)
theorem d_W_law_620 : decode code 620 = .ok (.iconst 1, 1) := dq_s (by decide +kernel)
theorem d_W_law_621 : decode code 621 = .ok (.iadd, 1) := dq_s (by decide +kernel)
theorem d_W_law_622 : decode code 622 = .ok (.iaload, 1) := dq_s (by decide +kernel)
theorem d_W_law_623 : decode code 623 = .ok (.aload_n 0, 1) := dq_s (by decide +kernel)
theorem d_W_law_624 : decode code 624 = .ok (.iload 4, 2) := dq_s (by decide +kernel)
theorem d_W_law_626 : decode code 626 = .ok (.iconst 2, 1) := dq_s (by decide +kernel)
theorem d_W_law_627 : decode code 627 = .ok (.iadd, 1) := dq_s (by decide +kernel)
theorem d_W_law_628 : decode code 628 = .ok (.iaload, 1) := dq_s (by decide +kernel)
theorem d_W_law_629 : decode code 629 = .ok (.aload_n 0, 1) := dq_s (by decide +kernel)
theorem d_W_law_630 : decode code 630 = .ok (.iload 4, 2) := dq_s (by decide +kernel)
theorem d_W_law_632 : decode code 632 = .ok (.iconst 3, 1) := dq_s (by decide +kernel)
theorem d_W_law_633 : decode code 633 = .ok (.iadd, 1) := dq_s (by decide +kernel)
theorem d_W_law_634 : decode code 634 = .ok (.iaload, 1) := dq_s (by decide +kernel)
theorem d_W_law_635 : decode code 635 = .ok (.aload_n 3, 1) := dq_s (by decide +kernel)
theorem d_W_law_636 : decode code 636 = .ok (.invokestatic 121, 3) := dq_s (by decide +kernel)
theorem d_W_law_639 : decode code 639 = .ok (.istore 5, 2) := dq_s (by decide +kernel)
theorem d_W_law_641 : decode code 641 = .ok (.aload_n 2, 1) := dq_s (by decide +kernel)
theorem d_W_law_642 : decode code 642 = .ok (.aload_n 0, 1) := dq_s (by decide +kernel)
theorem d_W_law_643 : decode code 643 = .ok (.iload 4, 2) := dq_s (by decide +kernel)
theorem d_W_law_645 : decode code 645 = .ok (.iconst 1, 1) := dq_s (by decide +kernel)
theorem d_W_law_646 : decode code 646 = .ok (.iadd, 1) := dq_s (by decide +kernel)
theorem d_W_law_647 : decode code 647 = .ok (.iaload, 1) := dq_s (by decide +kernel)
theorem d_W_law_648 : decode code 648 = .ok (.aload_n 0, 1) := dq_s (by decide +kernel)
theorem d_W_law_649 : decode code 649 = .ok (.iload 4, 2) := dq_s (by decide +kernel)
theorem d_W_law_651 : decode code 651 = .ok (.iconst 2, 1) := dq_s (by decide +kernel)
theorem d_W_law_652 : decode code 652 = .ok (.iadd, 1) := dq_s (by decide +kernel)
theorem d_W_law_653 : decode code 653 = .ok (.iaload, 1) := dq_s (by decide +kernel)
theorem d_W_law_654 : decode code 654 = .ok (.aload_n 0, 1) := dq_s (by decide +kernel)
theorem d_W_law_655 : decode code 655 = .ok (.iload 4, 2) := dq_s (by decide +kernel)
theorem d_W_law_657 : decode code 657 = .ok (.iconst 3, 1) := dq_s (by decide +kernel)
theorem d_W_law_658 : decode code 658 = .ok (.iadd, 1) := dq_s (by decide +kernel)
theorem d_W_law_659 : decode code 659 = .ok (.iaload, 1) := dq_s (by decide +kernel)
theorem d_W_law_660 : decode code 660 = .ok (.invokevirtual 123, 3) := dq_s (by decide +kernel)
theorem d_W_law_663 : decode code 663 = .ok (.istore 6, 2) := dq_s (by decide +kernel)
theorem d_W_law_665 : decode code 665 = .ok (.goto 163, 3) := dq_s (by decide +kernel)
theorem d_W_law_668 : decode code 668 = .ok (.aload_n 1, 1) := dq_s (by decide +kernel)
theorem d_W_law_669 : decode code 669 = .ok (.aload_n 0, 1) := dq_s (by decide +kernel)
theorem d_W_law_670 : decode code 670 = .ok (.iload 4, 2) := dq_s (by decide +kernel)
theorem d_W_law_672 : decode code 672 = .ok (.iconst 1, 1) := dq_s (by decide +kernel)
theorem d_W_law_673 : decode code 673 = .ok (.iadd, 1) := dq_s (by decide +kernel)
theorem d_W_law_674 : decode code 674 = .ok (.iaload, 1) := dq_s (by decide +kernel)
theorem d_W_law_675 : decode code 675 = .ok (.aload_n 0, 1) := dq_s (by decide +kernel)
theorem d_W_law_676 : decode code 676 = .ok (.iload 4, 2) := dq_s (by decide +kernel)
theorem d_W_law_678 : decode code 678 = .ok (.iconst 2, 1) := dq_s (by decide +kernel)
theorem d_W_law_679 : decode code 679 = .ok (.iadd, 1) := dq_s (by decide +kernel)
theorem d_W_law_680 : decode code 680 = .ok (.iaload, 1) := dq_s (by decide +kernel)
theorem d_W_law_681 : decode code 681 = .ok (.aload_n 3, 1) := dq_s (by decide +kernel)
theorem d_W_law_682 : decode code 682 = .ok (.invokestatic 124, 3) := dq_s (by decide +kernel)
theorem d_W_law_685 : decode code 685 = .ok (.istore 5, 2) := dq_s (by decide +kernel)
theorem d_W_law_687 : decode code 687 = .ok (.aload_n 2, 1) := dq_s (by decide +kernel)
theorem d_W_law_688 : decode code 688 = .ok (.aload_n 0, 1) := dq_s (by decide +kernel)
theorem d_W_law_689 : decode code 689 = .ok (.iload 4, 2) := dq_s (by decide +kernel)
theorem d_W_law_691 : decode code 691 = .ok (.iconst 1, 1) := dq_s (by decide +kernel)
theorem d_W_law_692 : decode code 692 = .ok (.iadd, 1) := dq_s (by decide +kernel)
theorem d_W_law_693 : decode code 693 = .ok (.iaload, 1) := dq_s (by decide +kernel)
theorem d_W_law_694 : decode code 694 = .ok (.aload_n 0, 1) := dq_s (by decide +kernel)
theorem d_W_law_695 : decode code 695 = .ok (.iload 4, 2) := dq_s (by decide +kernel)
theorem d_W_law_697 : decode code 697 = .ok (.iconst 2, 1) := dq_s (by decide +kernel)
theorem d_W_law_698 : decode code 698 = .ok (.iadd, 1) := dq_s (by decide +kernel)
theorem d_W_law_699 : decode code 699 = .ok (.iaload, 1) := dq_s (by decide +kernel)
theorem d_W_law_700 : decode code 700 = .ok (.invokevirtual 126, 3) := dq_s (by decide +kernel)
theorem d_W_law_703 : decode code 703 = .ok (.istore 6, 2) := dq_s (by decide +kernel)
theorem d_W_law_705 : decode code 705 = .ok (.goto 123, 3) := dq_s (by decide +kernel)
theorem d_W_law_708 : decode code 708 = .ok (.aload_n 1, 1) := dq_s (by decide +kernel)
theorem d_W_law_709 : decode code 709 = .ok (.aload_n 0, 1) := dq_s (by decide +kernel)
theorem d_W_law_710 : decode code 710 = .ok (.iload 4, 2) := dq_s (by decide +kernel)
theorem d_W_law_712 : decode code 712 = .ok (.iconst 1, 1) := dq_s (by decide +kernel)
theorem d_W_law_713 : decode code 713 = .ok (.iadd, 1) := dq_s (by decide +kernel)
theorem d_W_law_714 : decode code 714 = .ok (.iaload, 1) := dq_s (by decide +kernel)
theorem d_W_law_715 : decode code 715 = .ok (.aload_n 0, 1) := dq_s (by decide +kernel)
theorem d_W_law_716 : decode code 716 = .ok (.iload 4, 2) := dq_s (by decide +kernel)
theorem d_W_law_718 : decode code 718 = .ok (.iconst 2, 1) := dq_s (by decide +kernel)
theorem d_W_law_719 : decode code 719 = .ok (.iadd, 1) := dq_s (by decide +kernel)
theorem d_W_law_720 : decode code 720 = .ok (.iaload, 1) := dq_s (by decide +kernel)
theorem d_W_law_721 : decode code 721 = .ok (.aload_n 3, 1) := dq_s (by decide +kernel)
theorem d_W_law_722 : decode code 722 = .ok (.invokestatic 127, 3) := dq_s (by decide +kernel)
theorem d_W_law_725 : decode code 725 = .ok (.istore 5, 2) := dq_s (by decide +kernel)
theorem d_W_law_727 : decode code 727 = .ok (.aload_n 2, 1) := dq_s (by decide +kernel)
theorem d_W_law_728 : decode code 728 = .ok (.aload_n 0, 1) := dq_s (by decide +kernel)
theorem d_W_law_729 : decode code 729 = .ok (.iload 4, 2) := dq_s (by decide +kernel)
theorem d_W_law_731 : decode code 731 = .ok (.iconst 1, 1) := dq_s (by decide +kernel)
theorem d_W_law_732 : decode code 732 = .ok (.iadd, 1) := dq_s (by decide +kernel)
theorem d_W_law_733 : decode code 733 = .ok (.iaload, 1) := dq_s (by decide +kernel)
theorem d_W_law_734 : decode code 734 = .ok (.aload_n 0, 1) := dq_s (by decide +kernel)
theorem d_W_law_735 : decode code 735 = .ok (.iload 4, 2) := dq_s (by decide +kernel)
theorem d_W_law_737 : decode code 737 = .ok (.iconst 2, 1) := dq_s (by decide +kernel)
theorem d_W_law_738 : decode code 738 = .ok (.iadd, 1) := dq_s (by decide +kernel)
theorem d_W_law_739 : decode code 739 = .ok (.iaload, 1) := dq_s (by decide +kernel)
theorem d_W_law_740 : decode code 740 = .ok (.invokevirtual 129, 3) := dq_s (by decide +kernel)
theorem d_W_law_743 : decode code 743 = .ok (.istore 6, 2) := dq_s (by decide +kernel)
theorem d_W_law_745 : decode code 745 = .ok (.goto 83, 3) := dq_s (by decide +kernel)
theorem d_W_law_748 : decode code 748 = .ok (.aload_n 1, 1) := dq_s (by decide +kernel)
theorem d_W_law_749 : decode code 749 = .ok (.aload_n 0, 1) := dq_s (by decide +kernel)
theorem d_W_law_750 : decode code 750 = .ok (.iload 4, 2) := dq_s (by decide +kernel)
theorem d_W_law_752 : decode code 752 = .ok (.iconst 1, 1) := dq_s (by decide +kernel)
theorem d_W_law_753 : decode code 753 = .ok (.iadd, 1) := dq_s (by decide +kernel)
theorem d_W_law_754 : decode code 754 = .ok (.iaload, 1) := dq_s (by decide +kernel)
theorem d_W_law_755 : decode code 755 = .ok (.aload_n 0, 1) := dq_s (by decide +kernel)
theorem d_W_law_756 : decode code 756 = .ok (.iload 4, 2) := dq_s (by decide +kernel)
theorem d_W_law_758 : decode code 758 = .ok (.iconst 2, 1) := dq_s (by decide +kernel)
theorem d_W_law_759 : decode code 759 = .ok (.iadd, 1) := dq_s (by decide +kernel)
theorem d_W_law_760 : decode code 760 = .ok (.iaload, 1) := dq_s (by decide +kernel)
theorem d_W_law_761 : decode code 761 = .ok (.aload_n 0, 1) := dq_s (by decide +kernel)
theorem d_W_law_762 : decode code 762 = .ok (.iload 4, 2) := dq_s (by decide +kernel)
theorem d_W_law_764 : decode code 764 = .ok (.iconst 3, 1) := dq_s (by decide +kernel)
theorem d_W_law_765 : decode code 765 = .ok (.iadd, 1) := dq_s (by decide +kernel)
theorem d_W_law_766 : decode code 766 = .ok (.iaload, 1) := dq_s (by decide +kernel)
theorem d_W_law_767 : decode code 767 = .ok (.aload_n 3, 1) := dq_s (by decide +kernel)
theorem d_W_law_768 : decode code 768 = .ok (.invokestatic 130, 3) := dq_s (by decide +kernel)
theorem d_W_law_771 : decode code 771 = .ok (.istore 5, 2) := dq_s (by decide +kernel)
theorem d_W_law_773 : decode code 773 = .ok (.aload_n 2, 1) := dq_s (by decide +kernel)
theorem d_W_law_774 : decode code 774 = .ok (.aload_n 0, 1) := dq_s (by decide +kernel)
theorem d_W_law_775 : decode code 775 = .ok (.iload 4, 2) := dq_s (by decide +kernel)
theorem d_W_law_777 : decode code 777 = .ok (.iconst 1, 1) := dq_s (by decide +kernel)
theorem d_W_law_778 : decode code 778 = .ok (.iadd, 1) := dq_s (by decide +kernel)
theorem d_W_law_779 : decode code 779 = .ok (.iaload, 1) := dq_s (by decide +kernel)
theorem d_W_law_780 : decode code 780 = .ok (.aload_n 0, 1) := dq_s (by decide +kernel)
theorem d_W_law_781 : decode code 781 = .ok (.iload 4, 2) := dq_s (by decide +kernel)
theorem d_W_law_783 : decode code 783 = .ok (.iconst 2, 1) := dq_s (by decide +kernel)
theorem d_W_law_784 : decode code 784 = .ok (.iadd, 1) := dq_s (by decide +kernel)
theorem d_W_law_785 : decode code 785 = .ok (.iaload, 1) := dq_s (by decide +kernel)
theorem d_W_law_786 : decode code 786 = .ok (.aload_n 0, 1) := dq_s (by decide +kernel)
theorem d_W_law_787 : decode code 787 = .ok (.iload 4, 2) := dq_s (by decide +kernel)
theorem d_W_law_789 : decode code 789 = .ok (.iconst 3, 1) := dq_s (by decide +kernel)
theorem d_W_law_790 : decode code 790 = .ok (.iadd, 1) := dq_s (by decide +kernel)
theorem d_W_law_791 : decode code 791 = .ok (.iaload, 1) := dq_s (by decide +kernel)
theorem d_W_law_792 : decode code 792 = .ok (.invokevirtual 132, 3) := dq_s (by decide +kernel)
theorem d_W_law_795 : decode code 795 = .ok (.istore 6, 2) := dq_s (by decide +kernel)
theorem d_W_law_797 : decode code 797 = .ok (.goto 31, 3) := dq_s (by decide +kernel)
theorem d_W_law_800 : decode code 800 = .ok (.aload_n 1, 1) := dq_s (by decide +kernel)
theorem d_W_law_801 : decode code 801 = .ok (.aload_n 0, 1) := dq_s (by decide +kernel)
theorem d_W_law_802 : decode code 802 = .ok (.iload 4, 2) := dq_s (by decide +kernel)
theorem d_W_law_804 : decode code 804 = .ok (.iconst 1, 1) := dq_s (by decide +kernel)
theorem d_W_law_805 : decode code 805 = .ok (.iadd, 1) := dq_s (by decide +kernel)
theorem d_W_law_806 : decode code 806 = .ok (.iaload, 1) := dq_s (by decide +kernel)
theorem d_W_law_807 : decode code 807 = .ok (.aload_n 3, 1) := dq_s (by decide +kernel)
theorem d_W_law_808 : decode code 808 = .ok (.invokestatic 133, 3) := dq_s (by decide +kernel)
theorem d_W_law_811 : decode code 811 = .ok (.istore 5, 2) := dq_s (by decide +kernel)
theorem d_W_law_813 : decode code 813 = .ok (.aload_n 2, 1) := dq_s (by decide +kernel)
theorem d_W_law_814 : decode code 814 = .ok (.aload_n 0, 1) := dq_s (by decide +kernel)
theorem d_W_law_815 : decode code 815 = .ok (.iload 4, 2) := dq_s (by decide +kernel)
theorem d_W_law_817 : decode code 817 = .ok (.iconst 1, 1) := dq_s (by decide +kernel)
theorem d_W_law_818 : decode code 818 = .ok (.iadd, 1) := dq_s (by decide +kernel)
theorem d_W_law_819 : decode code 819 = .ok (.iaload, 1) := dq_s (by decide +kernel)
theorem d_W_law_820 : decode code 820 = .ok (.invokevirtual 135, 3) := dq_s (by decide +kernel)
theorem d_W_law_823 : decode code 823 = .ok (.istore 6, 2) := dq_s (by decide +kernel)
theorem d_W_law_825 : decode code 825 = .ok (.goto 3, 3) := dq_s (by decide +kernel)
theorem d_W_law_828 : decode code 828 = .ok (.iinc 4 4, 3) := dq_s (by decide +kernel)
theorem d_W_law_831 : decode code 831 = .ok (.goto (-798), 3) := dq_s (by decide +kernel)
theorem d_W_law_834 : decode code 834 = .ok (.iconst 1, 1) := dq_s (by decide +kernel)
theorem d_W_law_835 : decode code 835 = .ok (.ireturn, 1) := dq_s (by decide +kernel)
theorem d_W_cell_0 : decode b_W_cell 0 = .ok (.iload_n 1, 1) := dq_s (by decide +kernel)
theorem d_W_cell_1 : decode b_W_cell 1 = .ok (.aload_n 0, 1) := dq_s (by decide +kernel)
theorem d_W_cell_2 : decode b_W_cell 2 = .ok (.arraylength, 1) := dq_s (by decide +kernel)
theorem d_W_cell_3 : decode b_W_cell 3 = .ok (.if_icmp .ge 9, 3) := dq_s (by decide +kernel)
theorem d_W_cell_6 : decode b_W_cell 6 = .ok (.aload_n 0, 1) := dq_s (by decide +kernel)
theorem d_W_cell_7 : decode b_W_cell 7 = .ok (.iload_n 1, 1) := dq_s (by decide +kernel)
theorem d_W_cell_8 : decode b_W_cell 8 = .ok (.iaload, 1) := dq_s (by decide +kernel)
theorem d_W_cell_9 : decode b_W_cell 9 = .ok (.goto 4, 3) := dq_s (by decide +kernel)
theorem d_W_cell_12 : decode b_W_cell 12 = .ok (.iconst 0, 1) := dq_s (by decide +kernel)
theorem d_W_cell_13 : decode b_W_cell 13 = .ok (.ireturn, 1) := dq_s (by decide +kernel)
-- part 09.43.join.lean.txt
theorem jx_C {cI cZ cJ : ClassId} {a aM : Nat → Nat} {bo q qM : Nat} {u : StO} {μ : StM} : [0, 1, 2, 3, 4, 5, 6, 7, 8, 9, 10, 11, 12, 13, 14, 15, 16, 17, 18, 19, 20, 21].map (fun (i : Nat) => (wX cI cZ cJ a aM bo q qM u μ)[i]?) = (wO cI cZ cJ a bo q u).map some := rfl
theorem jx_R {cI cZ cJ : ClassId} {a aM : Nat → Nat} {bo q qM : Nat} {u : StO} {μ : StM} : [22, 23, 24, 25, 26, 27, 28, 29, 30, 31, 32, 33, 34, 35, 36, 37, 38, 39, 40, 41, 42, 43, 44, 45].map (fun (i : Nat) => (wX cI cZ cJ a aM bo q qM u μ)[i]?) = ([22, 23, 24, 25, 26, 27, 28, 29, 30, 31, 32, 33, 34, 35, 36, 37, 38, 39, 40, 41, 42, 43, 44, 45].filterMap (fun (i : Nat) => (wX cI cZ cJ a aM bo q qM u μ)[i]?)).map some := rfl
theorem jx_W {cI cZ cJ : ClassId} {a aM : Nat → Nat} {bo q qM : Nat} {u : StO} {μ : StM} {v : StO} (q1 : Nat) : [24, 25, 26, 27, 28, 29, 30, 31, 32, 33, 34, 35, 36, 37, 38, 39, 40, 41, 42, 43, 44, 45, 0, 1, 2, 3, 4, 5, 6, 7, 8, 9, 10, 11, 12, 13, 14, 15, 16, 17, 18, 19, 20, 21, 22, 23].map (fun (i : Nat) => ([22, 23, 24, 25, 26, 27, 28, 29, 30, 31, 32, 33, 34, 35, 36, 37, 38, 39, 40, 41, 42, 43, 44, 45].filterMap (fun (i : Nat) => (wX cI cZ cJ a aM bo q qM u μ)[i]?) ++ wO cI cZ cJ a bo q1 v)[i]?) = (wX cI cZ cJ a aM bo q1 qM v μ).map some := rfl
theorem jm_C {cI cZ cJ : ClassId} {a aM : Nat → Nat} {bo q qM : Nat} {u : StO} {μ : StM} : [22, 23, 24, 25, 26, 27, 28, 29, 30, 31, 32, 33, 34, 35, 36, 37, 38, 39, 40, 41, 42, 43, 44, 45].map (fun (i : Nat) => (wX cI cZ cJ a aM bo q qM u μ)[i]?) = (wM cI cZ aM qM μ).map some := rfl
theorem jm_R {cI cZ cJ : ClassId} {a aM : Nat → Nat} {bo q qM : Nat} {u : StO} {μ : StM} : [0, 1, 2, 3, 4, 5, 6, 7, 8, 9, 10, 11, 12, 13, 14, 15, 16, 17, 18, 19, 20, 21].map (fun (i : Nat) => (wX cI cZ cJ a aM bo q qM u μ)[i]?) = ([0, 1, 2, 3, 4, 5, 6, 7, 8, 9, 10, 11, 12, 13, 14, 15, 16, 17, 18, 19, 20, 21].filterMap (fun (i : Nat) => (wX cI cZ cJ a aM bo q qM u μ)[i]?)).map some := rfl
theorem jm_W {cI cZ cJ : ClassId} {a aM : Nat → Nat} {bo q qM : Nat} {u : StO} {μ : StM} {v : StM} (q1 : Nat) : [0, 1, 2, 3, 4, 5, 6, 7, 8, 9, 10, 11, 12, 13, 14, 15, 16, 17, 18, 19, 20, 21, 22, 23, 24, 25, 26, 27, 28, 29, 30, 31, 32, 33, 34, 35, 36, 37, 38, 39, 40, 41, 42, 43, 44, 45].map (fun (i : Nat) => ([0, 1, 2, 3, 4, 5, 6, 7, 8, 9, 10, 11, 12, 13, 14, 15, 16, 17, 18, 19, 20, 21].filterMap (fun (i : Nat) => (wX cI cZ cJ a aM bo q qM u μ)[i]?) ++ wM cI cZ aM q1 v)[i]?) = (wX cI cZ cJ a aM bo q q1 u v).map some := rfl
-- part 09.44.case00.lean.txt
set_option maxHeartbeats 4000000 in
set_option maxRecDepth 100000 in
theorem lw_case_0 {p : Program} {l : Launch} {e : Env} {s : State} {m : MethodId} {below : List Frame} {meth : Method} {c : Code} {D : va_G} {cI cZ cJ : ClassId} {a aM : Nat → Nat} {A : Nat → Prop} {b L : Nat} {xs : Nat → Int32} {Q : State → Prop} (C0 : Am p s m #[Value.ref b] meth c code ret 7 R_W D [(cI, .int), (cZ, .boolean)]) (hl0 : l.stackTraces = false) (hKO : KO D cI cZ cJ s) (hA : ∀ q, s.heap.size ≤ q → A q) (hZ : Zs A s s.heap) (hX : va_X b L xs s s.heap) (hbl : b < s.heap.size) (hbA : ¬ A b) (hL : L ≤ 2049) {j : Nat} (hj : j + 4 ≤ L) {bo q qM : Nat} {u : StO} {μ : StM} {rW : Int32 × StO × Nat × Nat} {rM : Int32 × StM} (gW : f_W_declare u (if (xs (j + 1)) = 0 then 0 else 1) (if (xs (j + 2)) = 0 then 0 else 1) = some rW) (gM : f_M_declare μ (if (xs (j + 1)) = 0 then 0 else 1) (if (xs (j + 2)) = 0 then 0 else 1) = some rM) (hcd : f_M_thrown rM.2 = rW.1) (hov : rW.1 = 0 → rW.2.1.2 0 = rM.1.toInt64) {H : Heap} {locs : List Loc} {cells slots : Nat} (hcs : cells + rW.2.2.1 ≤ room_1.cells ∧ slots + rW.2.2.2 ≤ room_1.slots) (hP : va_P D vwCl (wX cI cZ cJ a aM bo q qM u μ) H) (hD : va_D A (wX cI cZ cJ a aM bo q qM u μ)) (hS : va_S A s.heap H locs) {ls : Array Slot} (hl : lv_has ls 7 [(0, .ref b), (1, .ref (a 0)), (2, .ref (aM 20)), (3, .ref bo), (4, .int (nI j))])
    (kk : ∀ (H : Heap) (locs : List Loc) (q qM : Nat) (ls : Array Slot), va_P D vwCl (wX cI cZ cJ a aM bo q qM rW.2.1 rM.2) H → va_D A (wX cI cZ cJ a aM bo q qM rW.2.1 rM.2) → va_S A s.heap H locs → lv_has ls 7 [(0, .ref b), (1, .ref (a 0)), (2, .ref (aM 20)), (3, .ref bo), (4, .int (nI j))] → W p l e room_1 s m #[Value.ref b] below meth c H locs (cells + rW.2.2.1) (slots + rW.2.2.2) Q (F0 m 828 ls [])) : W p l e room_1 s m #[Value.ref b] below meth c H locs cells slots Q (F0 m 128 ls []) := by
  obtain ⟨hx, hb, hr, hml, hown, hts, hlk, hK⟩ := id C0
  refine lv_aload_n hx hb d_W_law_128 rfl (lv_at hl 1 rfl) ?_
  refine lw_ld (kn := 1) hx hb hX hbl hbA hS (lv_at hl 0 rfl) (lv_at hl 4 rfl) rfl (by omega) hL d_W_law_129 d_W_law_130 d_W_law_132 d_W_law_133 d_W_law_134 ?_
  refine lw_bz hx hb d_W_law_135 d_W_law_138 d_W_law_139 d_W_law_142 ?_
  refine lw_ld (kn := 2) hx hb hX hbl hbA hS (lv_at hl 0 rfl) (lv_at hl 4 rfl) rfl (by omega) hL d_W_law_143 d_W_law_144 d_W_law_146 d_W_law_147 d_W_law_148 ?_
  refine lw_bz hx hb d_W_law_149 d_W_law_152 d_W_law_153 d_W_law_156 ?_
  refine lv_aload_n hx hb d_W_law_157 rfl (lv_at hl 3 rfl) ?_
  refine hp_S (n := 4) (As := [.ref (a 0), .int (if (xs (j + 1)) = 0 then 0 else 1), .int (if (xs (j + 2)) = 0 then 0 else 1), .ref bo]) (rest := []) (Wn := fun q1 => wX cI cZ cJ a aM bo q1 qM rW.2.1 μ) C0 hKO hA hZ (c_W_declare l D cI cZ cJ a hl0 bo q u (if (xs (j + 1)) = 0 then 0 else 1) (if (xs (j + 2)) = 0 then 0 else 1) gW) wd_583 wd_580 wd_581 wd_582 (by decide +kernel) ⟨Nat.le_of_ble_eq_true rfl, Nat.le_of_ble_eq_true rfl⟩ hP hD hS [0, 1, 2, 3, 4, 5, 6, 7, 8, 9, 10, 11, 12, 13, 14, 15, 16, 17, 18, 19, 20, 21] [22, 23, 24, 25, 26, 27, 28, 29, 30, 31, 32, 33, 34, 35, 36, 37, 38, 39, 40, 41, 42, 43, 44, 45] [24, 25, 26, 27, 28, 29, 30, 31, 32, 33, 34, 35, 36, 37, 38, 39, 40, 41, 42, 43, 44, 45, 0, 1, 2, 3, 4, 5, 6, 7, 8, 9, 10, 11, 12, 13, 14, 15, 16, 17, 18, 19, 20, 21, 22, 23] jx_C (by decide) jx_R (by decide) (by decide) (by decide) (fun q1 => jx_W q1) hl rfl rfl (Nat.le_of_ble_eq_true rfl) hcs d_W_law_158 (fun H locs q hP hD hS => ?_)
  refine lv_istore (lv' := [(5, .int rW.1), (0, .ref b), (1, .ref (a 0)), (2, .ref (aM 20)), (3, .ref bo), (4, .int (nI j))]) hx hb d_W_law_161 hl (by decide) rfl (fun ls hl => ?_)
  refine lv_aload_n hx hb d_W_law_163 rfl (lv_at hl 3 rfl) ?_
  refine lw_ld (kn := 1) hx hb hX hbl hbA hS (lv_at hl 1 rfl) (lv_at hl 5 rfl) rfl (by omega) hL d_W_law_164 d_W_law_165 d_W_law_167 d_W_law_168 d_W_law_169 ?_
  refine lw_bz hx hb d_W_law_170 d_W_law_173 d_W_law_174 d_W_law_177 ?_
  refine lw_ld (kn := 2) hx hb hX hbl hbA hS (lv_at hl 1 rfl) (lv_at hl 5 rfl) rfl (by omega) hL d_W_law_178 d_W_law_179 d_W_law_181 d_W_law_182 d_W_law_183 ?_
  refine lw_bz hx hb d_W_law_184 d_W_law_187 d_W_law_188 d_W_law_191 ?_
  refine rw_V (n := 2) (ci := 4) (As := [.int (if (xs (j + 1)) = 0 then 0 else 1), .int (if (xs (j + 2)) = 0 then 0 else 1)]) (rest := []) (w := fun q (σ : StM) => wM cI cZ aM q σ) (Wn := fun q1 => wX cI cZ cJ a aM bo q q1 rW.2.1 rM.2) C0 hA (c_M_declare l D cI cZ aM qM μ (if (xs (j + 1)) = 0 then 0 else 1) (if (xs (j + 2)) = 0 then 0 else 1) gM) wd_584 ⟨wd_585, wd_586, wd_587, wd_352⟩ (by decide +kernel) ⟨Nat.le_of_ble_eq_true rfl, Nat.le_of_ble_eq_true rfl⟩ hP hD hS [22, 23, 24, 25, 26, 27, 28, 29, 30, 31, 32, 33, 34, 35, 36, 37, 38, 39, 40, 41, 42, 43, 44, 45] [0, 1, 2, 3, 4, 5, 6, 7, 8, 9, 10, 11, 12, 13, 14, 15, 16, 17, 18, 19, 20, 21] [0, 1, 2, 3, 4, 5, 6, 7, 8, 9, 10, 11, 12, 13, 14, 15, 16, 17, 18, 19, 20, 21, 22, 23, 24, 25, 26, 27, 28, 29, 30, 31, 32, 33, 34, 35, 36, 37, 38, 39, 40, 41, 42, 43, 44, 45] jm_C (by decide) jm_R (by decide) (by decide) (by decide) (fun q1 => jm_W q1) rfl rfl rfl hl rfl rfl (Nat.le_of_ble_eq_true rfl) hcs d_W_law_192 (fun H locs qM hP hD hS => ?_)
  refine lv_istore (lv' := [(6, .int rM.1), (5, .int rW.1), (0, .ref b), (1, .ref (a 0)), (2, .ref (aM 20)), (3, .ref bo), (4, .int (nI j))]) hx hb d_W_law_195 hl (by decide) rfl (fun ls hl => ?_)
  refine lv_aload_n hx hb d_W_law_197 rfl (lv_at hl 4 rfl) ?_
  refine ro_V (n := 0) (ci := 4) (As := []) (rest := []) (w := wM cI cZ aM qM rM.2) C0 (c_M_thrown l D cI cZ aM qM rM.2 hcd) wd_588 ⟨wd_589, wd_590, wd_591, wd_352⟩ (by decide +kernel) ⟨Nat.le_of_ble_eq_true rfl, Nat.le_of_ble_eq_true rfl⟩ (hP.pick [22, 23, 24, 25, 26, 27, 28, 29, 30, 31, 32, 33, 34, 35, 36, 37, 38, 39, 40, 41, 42, 43, 44, 45] jm_C) rfl rfl rfl hl rfl rfl (Nat.le_of_ble_eq_true rfl) hcs d_W_law_198 ?_
  refine lv_iload hx hb d_W_law_201 (lv_at hl 1 rfl) ?_
  refine lv_icmp_eq (tgt := 208) hx hb d_W_law_203 (by decide) (fun _ => ?_) (fun hc => absurd rfl hc)
  refine lv_iload hx hb d_W_law_208 (lv_at hl 1 rfl) ?_
  have fin : W p l e room_1 s m #[Value.ref b] below meth c H locs (cells + rW.2.2.1) (slots + rW.2.2.2) Q (F0 m 225 ls []) := by
    refine lv_goto (tgt := 828) hx hb d_W_law_225 (by decide) ?_
    exact kk H locs q qM ls hP hD hS (lv_sub hl [2, 3, 4, 5, 6] rfl)
  refine lv_if_ne (tgt := 225) hx hb d_W_law_210 (by decide) (fun _ => fin) (fun hz => ?_)
  refine lv_aload_n hx hb d_W_law_213 rfl (lv_at hl 5 rfl) ?_
  refine lv_iconst (v := 0) hx hb d_W_law_214 (by decide) ?_
  refine va_lald hx hb hKO.2.1 hP 21 0 rfl rfl in01 d_W_law_215 ?_
  refine lv_iload hx hb d_W_law_216 (lv_at hl 0 rfl) ?_
  refine lv_i2l hx hb d_W_law_218 rfl ?_
  refine W.lcmp hx hb d_W_law_219 ?_
  refine lv_if_eq (tgt := 225) hx hb d_W_law_220 (by decide) (fun _ => fin) (fun hc => ?_)
  refine absurd ?_ hc
  have h0 := hov hz
  have h1 : rW.2.1.2 (0 : Int32).toNatClampNeg = rM.1.toInt64 := h0
  rw [h1]
  simp [lg_cmp]
-- part 09.44.case01.lean.txt
set_option maxHeartbeats 4000000 in
set_option maxRecDepth 100000 in
theorem lw_case_1 {p : Program} {l : Launch} {e : Env} {s : State} {m : MethodId} {below : List Frame} {meth : Method} {c : Code} {D : va_G} {cI cZ cJ : ClassId} {a aM : Nat → Nat} {A : Nat → Prop} {b L : Nat} {xs : Nat → Int32} {Q : State → Prop} (C0 : Am p s m #[Value.ref b] meth c code ret 7 R_W D [(cI, .int), (cZ, .boolean)]) (hl0 : l.stackTraces = false) (hKO : KO D cI cZ cJ s) (hA : ∀ q, s.heap.size ≤ q → A q) (hZ : Zs A s s.heap) (hX : va_X b L xs s s.heap) (hbl : b < s.heap.size) (hbA : ¬ A b) (hL : L ≤ 2049) {j : Nat} (hj : j + 4 ≤ L) {bo q qM : Nat} {u : StO} {μ : StM} {rW : Int32 × StO × Nat × Nat} {rM : Int32 × StM} (gW : f_W_above u (xs (j + 1)) (xs (j + 2)) = some rW) (gM : f_M_above μ (xs (j + 1)) (xs (j + 2)) = some rM) {H : Heap} {locs : List Loc} {cells slots : Nat} (hcs : cells + rW.2.2.1 ≤ room_1.cells ∧ slots + rW.2.2.2 ≤ room_1.slots) (hP : va_P D vwCl (wX cI cZ cJ a aM bo q qM u μ) H) (hD : va_D A (wX cI cZ cJ a aM bo q qM u μ)) (hS : va_S A s.heap H locs) {ls : Array Slot} (hl : lv_has ls 7 [(0, .ref b), (1, .ref (a 0)), (2, .ref (aM 20)), (3, .ref bo), (4, .int (nI j))])
    (kk : ∀ (H : Heap) (locs : List Loc) (q qM : Nat) (ls : Array Slot), va_P D vwCl (wX cI cZ cJ a aM bo q qM rW.2.1 rM.2) H → va_D A (wX cI cZ cJ a aM bo q qM rW.2.1 rM.2) → va_S A s.heap H locs → lv_has ls 7 [(0, .ref b), (1, .ref (a 0)), (2, .ref (aM 20)), (3, .ref bo), (4, .int (nI j))] → W p l e room_1 s m #[Value.ref b] below meth c H locs (cells + rW.2.2.1) (slots + rW.2.2.2) Q (F0 m 828 ls [])) : W p l e room_1 s m #[Value.ref b] below meth c H locs cells slots Q (F0 m 228 ls []) := by
  obtain ⟨hx, hb, hr, hml, hown, hts, hlk, hK⟩ := id C0
  refine lv_aload_n hx hb d_W_law_228 rfl (lv_at hl 1 rfl) ?_
  refine lw_ld (kn := 1) hx hb hX hbl hbA hS (lv_at hl 0 rfl) (lv_at hl 4 rfl) rfl (by omega) hL d_W_law_229 d_W_law_230 d_W_law_232 d_W_law_233 d_W_law_234 ?_
  refine lw_ld (kn := 2) hx hb hX hbl hbA hS (lv_at hl 0 rfl) (lv_at hl 4 rfl) rfl (by omega) hL d_W_law_235 d_W_law_236 d_W_law_238 d_W_law_239 d_W_law_240 ?_
  refine lv_aload_n hx hb d_W_law_241 rfl (lv_at hl 3 rfl) ?_
  refine hp_S (n := 4) (As := [.ref (a 0), .int (xs (j + 1)), .int (xs (j + 2)), .ref bo]) (rest := []) (Wn := fun q1 => wX cI cZ cJ a aM bo q1 qM rW.2.1 μ) C0 hKO hA hZ (c_W_above l D cI cZ cJ a hl0 bo q u (xs (j + 1)) (xs (j + 2)) gW) wd_594 wd_592 wd_593 wd_582 (by decide +kernel) ⟨Nat.le_of_ble_eq_true rfl, Nat.le_of_ble_eq_true rfl⟩ hP hD hS [0, 1, 2, 3, 4, 5, 6, 7, 8, 9, 10, 11, 12, 13, 14, 15, 16, 17, 18, 19, 20, 21] [22, 23, 24, 25, 26, 27, 28, 29, 30, 31, 32, 33, 34, 35, 36, 37, 38, 39, 40, 41, 42, 43, 44, 45] [24, 25, 26, 27, 28, 29, 30, 31, 32, 33, 34, 35, 36, 37, 38, 39, 40, 41, 42, 43, 44, 45, 0, 1, 2, 3, 4, 5, 6, 7, 8, 9, 10, 11, 12, 13, 14, 15, 16, 17, 18, 19, 20, 21, 22, 23] jx_C (by decide) jx_R (by decide) (by decide) (by decide) (fun q1 => jx_W q1) hl rfl rfl (Nat.le_of_ble_eq_true rfl) hcs d_W_law_242 (fun H locs q hP hD hS => ?_)
  refine lv_istore (lv' := [(5, .int rW.1), (0, .ref b), (1, .ref (a 0)), (2, .ref (aM 20)), (3, .ref bo), (4, .int (nI j))]) hx hb d_W_law_245 hl (by decide) rfl (fun ls hl => ?_)
  refine lv_aload_n hx hb d_W_law_247 rfl (lv_at hl 3 rfl) ?_
  refine lw_ld (kn := 1) hx hb hX hbl hbA hS (lv_at hl 1 rfl) (lv_at hl 5 rfl) rfl (by omega) hL d_W_law_248 d_W_law_249 d_W_law_251 d_W_law_252 d_W_law_253 ?_
  refine lw_ld (kn := 2) hx hb hX hbl hbA hS (lv_at hl 1 rfl) (lv_at hl 5 rfl) rfl (by omega) hL d_W_law_254 d_W_law_255 d_W_law_257 d_W_law_258 d_W_law_259 ?_
  refine rw_V (n := 2) (ci := 4) (As := [.int (xs (j + 1)), .int (xs (j + 2))]) (rest := []) (w := fun q (σ : StM) => wM cI cZ aM q σ) (Wn := fun q1 => wX cI cZ cJ a aM bo q q1 rW.2.1 rM.2) C0 hA (c_M_above l D cI cZ aM qM μ (xs (j + 1)) (xs (j + 2)) gM) wd_595 ⟨wd_596, wd_597, wd_598, wd_352⟩ (by decide +kernel) ⟨Nat.le_of_ble_eq_true rfl, Nat.le_of_ble_eq_true rfl⟩ hP hD hS [22, 23, 24, 25, 26, 27, 28, 29, 30, 31, 32, 33, 34, 35, 36, 37, 38, 39, 40, 41, 42, 43, 44, 45] [0, 1, 2, 3, 4, 5, 6, 7, 8, 9, 10, 11, 12, 13, 14, 15, 16, 17, 18, 19, 20, 21] [0, 1, 2, 3, 4, 5, 6, 7, 8, 9, 10, 11, 12, 13, 14, 15, 16, 17, 18, 19, 20, 21, 22, 23, 24, 25, 26, 27, 28, 29, 30, 31, 32, 33, 34, 35, 36, 37, 38, 39, 40, 41, 42, 43, 44, 45] jm_C (by decide) jm_R (by decide) (by decide) (by decide) (fun q1 => jm_W q1) rfl rfl rfl hl rfl rfl (Nat.le_of_ble_eq_true rfl) hcs d_W_law_260 (fun H locs qM hP hD hS => ?_)
  refine lv_istore (lv' := [(6, .int rM.1), (5, .int rW.1), (0, .ref b), (1, .ref (a 0)), (2, .ref (aM 20)), (3, .ref bo), (4, .int (nI j))]) hx hb d_W_law_263 hl (by decide) rfl (fun ls hl => ?_)
  refine lv_goto (tgt := 828) hx hb d_W_law_265 (by decide) ?_
  exact kk H locs q qM ls hP hD hS (lv_sub hl [2, 3, 4, 5, 6] rfl)
-- part 09.44.case02.lean.txt
set_option maxHeartbeats 4000000 in
set_option maxRecDepth 100000 in
theorem lw_case_2 {p : Program} {l : Launch} {e : Env} {s : State} {m : MethodId} {below : List Frame} {meth : Method} {c : Code} {D : va_G} {cI cZ cJ : ClassId} {a aM : Nat → Nat} {A : Nat → Prop} {b L : Nat} {xs : Nat → Int32} {Q : State → Prop} (C0 : Am p s m #[Value.ref b] meth c code ret 7 R_W D [(cI, .int), (cZ, .boolean)]) (hl0 : l.stackTraces = false) (hKO : KO D cI cZ cJ s) (hA : ∀ q, s.heap.size ≤ q → A q) (hZ : Zs A s s.heap) (hX : va_X b L xs s s.heap) (hbl : b < s.heap.size) (hbA : ¬ A b) (hL : L ≤ 2049) {j : Nat} (hj : j + 4 ≤ L) {bo q qM : Nat} {u : StO} {μ : StM} {rW : Int32 × StO × Nat × Nat} {rM : Int32 × StM} (gW : f_W_named u (xs (j + 1)) (xs (j + 2)) (xs (j + 3)) = some rW) (gM : f_M_named μ (xs (j + 1)) (xs (j + 2)) (xs (j + 3)) = some rM) {H : Heap} {locs : List Loc} {cells slots : Nat} (hcs : cells + rW.2.2.1 ≤ room_1.cells ∧ slots + rW.2.2.2 ≤ room_1.slots) (hP : va_P D vwCl (wX cI cZ cJ a aM bo q qM u μ) H) (hD : va_D A (wX cI cZ cJ a aM bo q qM u μ)) (hS : va_S A s.heap H locs) {ls : Array Slot} (hl : lv_has ls 7 [(0, .ref b), (1, .ref (a 0)), (2, .ref (aM 20)), (3, .ref bo), (4, .int (nI j))])
    (kk : ∀ (H : Heap) (locs : List Loc) (q qM : Nat) (ls : Array Slot), va_P D vwCl (wX cI cZ cJ a aM bo q qM rW.2.1 rM.2) H → va_D A (wX cI cZ cJ a aM bo q qM rW.2.1 rM.2) → va_S A s.heap H locs → lv_has ls 7 [(0, .ref b), (1, .ref (a 0)), (2, .ref (aM 20)), (3, .ref bo), (4, .int (nI j))] → W p l e room_1 s m #[Value.ref b] below meth c H locs (cells + rW.2.2.1) (slots + rW.2.2.2) Q (F0 m 828 ls [])) : W p l e room_1 s m #[Value.ref b] below meth c H locs cells slots Q (F0 m 268 ls []) := by
  obtain ⟨hx, hb, hr, hml, hown, hts, hlk, hK⟩ := id C0
  refine lv_aload_n hx hb d_W_law_268 rfl (lv_at hl 1 rfl) ?_
  refine lw_ld (kn := 1) hx hb hX hbl hbA hS (lv_at hl 0 rfl) (lv_at hl 4 rfl) rfl (by omega) hL d_W_law_269 d_W_law_270 d_W_law_272 d_W_law_273 d_W_law_274 ?_
  refine lw_ld (kn := 2) hx hb hX hbl hbA hS (lv_at hl 0 rfl) (lv_at hl 4 rfl) rfl (by omega) hL d_W_law_275 d_W_law_276 d_W_law_278 d_W_law_279 d_W_law_280 ?_
  refine lw_ld (kn := 3) hx hb hX hbl hbA hS (lv_at hl 0 rfl) (lv_at hl 4 rfl) rfl (by omega) hL d_W_law_281 d_W_law_282 d_W_law_284 d_W_law_285 d_W_law_286 ?_
  refine lv_aload_n hx hb d_W_law_287 rfl (lv_at hl 3 rfl) ?_
  refine hp_S (n := 5) (As := [.ref (a 0), .int (xs (j + 1)), .int (xs (j + 2)), .int (xs (j + 3)), .ref bo]) (rest := []) (Wn := fun q1 => wX cI cZ cJ a aM bo q1 qM rW.2.1 μ) C0 hKO hA hZ (c_W_named l D cI cZ cJ a hl0 bo q u (xs (j + 1)) (xs (j + 2)) (xs (j + 3)) gW) wd_601 wd_599 wd_600 wd_582 (by decide +kernel) ⟨Nat.le_of_ble_eq_true rfl, Nat.le_of_ble_eq_true rfl⟩ hP hD hS [0, 1, 2, 3, 4, 5, 6, 7, 8, 9, 10, 11, 12, 13, 14, 15, 16, 17, 18, 19, 20, 21] [22, 23, 24, 25, 26, 27, 28, 29, 30, 31, 32, 33, 34, 35, 36, 37, 38, 39, 40, 41, 42, 43, 44, 45] [24, 25, 26, 27, 28, 29, 30, 31, 32, 33, 34, 35, 36, 37, 38, 39, 40, 41, 42, 43, 44, 45, 0, 1, 2, 3, 4, 5, 6, 7, 8, 9, 10, 11, 12, 13, 14, 15, 16, 17, 18, 19, 20, 21, 22, 23] jx_C (by decide) jx_R (by decide) (by decide) (by decide) (fun q1 => jx_W q1) hl rfl rfl (Nat.le_of_ble_eq_true rfl) hcs d_W_law_288 (fun H locs q hP hD hS => ?_)
  refine lv_istore (lv' := [(5, .int rW.1), (0, .ref b), (1, .ref (a 0)), (2, .ref (aM 20)), (3, .ref bo), (4, .int (nI j))]) hx hb d_W_law_291 hl (by decide) rfl (fun ls hl => ?_)
  refine lv_aload_n hx hb d_W_law_293 rfl (lv_at hl 3 rfl) ?_
  refine lw_ld (kn := 1) hx hb hX hbl hbA hS (lv_at hl 1 rfl) (lv_at hl 5 rfl) rfl (by omega) hL d_W_law_294 d_W_law_295 d_W_law_297 d_W_law_298 d_W_law_299 ?_
  refine lw_ld (kn := 2) hx hb hX hbl hbA hS (lv_at hl 1 rfl) (lv_at hl 5 rfl) rfl (by omega) hL d_W_law_300 d_W_law_301 d_W_law_303 d_W_law_304 d_W_law_305 ?_
  refine lw_ld (kn := 3) hx hb hX hbl hbA hS (lv_at hl 1 rfl) (lv_at hl 5 rfl) rfl (by omega) hL d_W_law_306 d_W_law_307 d_W_law_309 d_W_law_310 d_W_law_311 ?_
  refine rw_V (n := 3) (ci := 4) (As := [.int (xs (j + 1)), .int (xs (j + 2)), .int (xs (j + 3))]) (rest := []) (w := fun q (σ : StM) => wM cI cZ aM q σ) (Wn := fun q1 => wX cI cZ cJ a aM bo q q1 rW.2.1 rM.2) C0 hA (c_M_named l D cI cZ aM qM μ (xs (j + 1)) (xs (j + 2)) (xs (j + 3)) gM) wd_602 ⟨wd_603, wd_604, wd_605, wd_352⟩ (by decide +kernel) ⟨Nat.le_of_ble_eq_true rfl, Nat.le_of_ble_eq_true rfl⟩ hP hD hS [22, 23, 24, 25, 26, 27, 28, 29, 30, 31, 32, 33, 34, 35, 36, 37, 38, 39, 40, 41, 42, 43, 44, 45] [0, 1, 2, 3, 4, 5, 6, 7, 8, 9, 10, 11, 12, 13, 14, 15, 16, 17, 18, 19, 20, 21] [0, 1, 2, 3, 4, 5, 6, 7, 8, 9, 10, 11, 12, 13, 14, 15, 16, 17, 18, 19, 20, 21, 22, 23, 24, 25, 26, 27, 28, 29, 30, 31, 32, 33, 34, 35, 36, 37, 38, 39, 40, 41, 42, 43, 44, 45] jm_C (by decide) jm_R (by decide) (by decide) (by decide) (fun q1 => jm_W q1) rfl rfl rfl hl rfl rfl (Nat.le_of_ble_eq_true rfl) hcs d_W_law_312 (fun H locs qM hP hD hS => ?_)
  refine lv_istore (lv' := [(6, .int rM.1), (5, .int rW.1), (0, .ref b), (1, .ref (a 0)), (2, .ref (aM 20)), (3, .ref bo), (4, .int (nI j))]) hx hb d_W_law_315 hl (by decide) rfl (fun ls hl => ?_)
  refine lv_goto (tgt := 828) hx hb d_W_law_317 (by decide) ?_
  exact kk H locs q qM ls hP hD hS (lv_sub hl [2, 3, 4, 5, 6] rfl)
-- part 09.44.case03.lean.txt
set_option maxHeartbeats 4000000 in
set_option maxRecDepth 100000 in
theorem lw_case_3 {p : Program} {l : Launch} {e : Env} {s : State} {m : MethodId} {below : List Frame} {meth : Method} {c : Code} {D : va_G} {cI cZ cJ : ClassId} {a aM : Nat → Nat} {A : Nat → Prop} {b L : Nat} {xs : Nat → Int32} {Q : State → Prop} (C0 : Am p s m #[Value.ref b] meth c code ret 7 R_W D [(cI, .int), (cZ, .boolean)]) (hl0 : l.stackTraces = false) (hKO : KO D cI cZ cJ s) (hA : ∀ q, s.heap.size ≤ q → A q) (hZ : Zs A s s.heap) (hX : va_X b L xs s s.heap) (hbl : b < s.heap.size) (hbA : ¬ A b) (hL : L ≤ 2049) {j : Nat} (hj : j + 4 ≤ L) {bo q qM : Nat} {u : StO} {μ : StM} {rW : Int32 × StO × Nat × Nat} {rM : Int32 × StM} (gW : f_W_array u (xs (j + 1)) = some rW) (gM : f_M_array μ (xs (j + 1)) = some rM) {H : Heap} {locs : List Loc} {cells slots : Nat} (hcs : cells + rW.2.2.1 ≤ room_1.cells ∧ slots + rW.2.2.2 ≤ room_1.slots) (hP : va_P D vwCl (wX cI cZ cJ a aM bo q qM u μ) H) (hD : va_D A (wX cI cZ cJ a aM bo q qM u μ)) (hS : va_S A s.heap H locs) {ls : Array Slot} (hl : lv_has ls 7 [(0, .ref b), (1, .ref (a 0)), (2, .ref (aM 20)), (3, .ref bo), (4, .int (nI j))])
    (kk : ∀ (H : Heap) (locs : List Loc) (q qM : Nat) (ls : Array Slot), va_P D vwCl (wX cI cZ cJ a aM bo q qM rW.2.1 rM.2) H → va_D A (wX cI cZ cJ a aM bo q qM rW.2.1 rM.2) → va_S A s.heap H locs → lv_has ls 7 [(0, .ref b), (1, .ref (a 0)), (2, .ref (aM 20)), (3, .ref bo), (4, .int (nI j))] → W p l e room_1 s m #[Value.ref b] below meth c H locs (cells + rW.2.2.1) (slots + rW.2.2.2) Q (F0 m 828 ls [])) : W p l e room_1 s m #[Value.ref b] below meth c H locs cells slots Q (F0 m 320 ls []) := by
  obtain ⟨hx, hb, hr, hml, hown, hts, hlk, hK⟩ := id C0
  refine lv_aload_n hx hb d_W_law_320 rfl (lv_at hl 1 rfl) ?_
  refine lw_ld (kn := 1) hx hb hX hbl hbA hS (lv_at hl 0 rfl) (lv_at hl 4 rfl) rfl (by omega) hL d_W_law_321 d_W_law_322 d_W_law_324 d_W_law_325 d_W_law_326 ?_
  refine lv_aload_n hx hb d_W_law_327 rfl (lv_at hl 3 rfl) ?_
  refine hp_S (n := 3) (As := [.ref (a 0), .int (xs (j + 1)), .ref bo]) (rest := []) (Wn := fun q1 => wX cI cZ cJ a aM bo q1 qM rW.2.1 μ) C0 hKO hA hZ (c_W_array l D cI cZ cJ a hl0 bo q u (xs (j + 1)) gW) wd_608 wd_606 wd_607 wd_582 (by decide +kernel) ⟨Nat.le_of_ble_eq_true rfl, Nat.le_of_ble_eq_true rfl⟩ hP hD hS [0, 1, 2, 3, 4, 5, 6, 7, 8, 9, 10, 11, 12, 13, 14, 15, 16, 17, 18, 19, 20, 21] [22, 23, 24, 25, 26, 27, 28, 29, 30, 31, 32, 33, 34, 35, 36, 37, 38, 39, 40, 41, 42, 43, 44, 45] [24, 25, 26, 27, 28, 29, 30, 31, 32, 33, 34, 35, 36, 37, 38, 39, 40, 41, 42, 43, 44, 45, 0, 1, 2, 3, 4, 5, 6, 7, 8, 9, 10, 11, 12, 13, 14, 15, 16, 17, 18, 19, 20, 21, 22, 23] jx_C (by decide) jx_R (by decide) (by decide) (by decide) (fun q1 => jx_W q1) hl rfl rfl (Nat.le_of_ble_eq_true rfl) hcs d_W_law_328 (fun H locs q hP hD hS => ?_)
  refine lv_istore (lv' := [(5, .int rW.1), (0, .ref b), (1, .ref (a 0)), (2, .ref (aM 20)), (3, .ref bo), (4, .int (nI j))]) hx hb d_W_law_331 hl (by decide) rfl (fun ls hl => ?_)
  refine lv_aload_n hx hb d_W_law_333 rfl (lv_at hl 3 rfl) ?_
  refine lw_ld (kn := 1) hx hb hX hbl hbA hS (lv_at hl 1 rfl) (lv_at hl 5 rfl) rfl (by omega) hL d_W_law_334 d_W_law_335 d_W_law_337 d_W_law_338 d_W_law_339 ?_
  refine rw_V (n := 1) (ci := 4) (As := [.int (xs (j + 1))]) (rest := []) (w := fun q (σ : StM) => wM cI cZ aM q σ) (Wn := fun q1 => wX cI cZ cJ a aM bo q q1 rW.2.1 rM.2) C0 hA (c_M_array l D cI cZ aM qM μ (xs (j + 1)) gM) wd_609 ⟨wd_610, wd_611, wd_612, wd_352⟩ (by decide +kernel) ⟨Nat.le_of_ble_eq_true rfl, Nat.le_of_ble_eq_true rfl⟩ hP hD hS [22, 23, 24, 25, 26, 27, 28, 29, 30, 31, 32, 33, 34, 35, 36, 37, 38, 39, 40, 41, 42, 43, 44, 45] [0, 1, 2, 3, 4, 5, 6, 7, 8, 9, 10, 11, 12, 13, 14, 15, 16, 17, 18, 19, 20, 21] [0, 1, 2, 3, 4, 5, 6, 7, 8, 9, 10, 11, 12, 13, 14, 15, 16, 17, 18, 19, 20, 21, 22, 23, 24, 25, 26, 27, 28, 29, 30, 31, 32, 33, 34, 35, 36, 37, 38, 39, 40, 41, 42, 43, 44, 45] jm_C (by decide) jm_R (by decide) (by decide) (by decide) (fun q1 => jm_W q1) rfl rfl rfl hl rfl rfl (Nat.le_of_ble_eq_true rfl) hcs d_W_law_340 (fun H locs qM hP hD hS => ?_)
  refine lv_istore (lv' := [(6, .int rM.1), (5, .int rW.1), (0, .ref b), (1, .ref (a 0)), (2, .ref (aM 20)), (3, .ref bo), (4, .int (nI j))]) hx hb d_W_law_343 hl (by decide) rfl (fun ls hl => ?_)
  refine lv_goto (tgt := 828) hx hb d_W_law_345 (by decide) ?_
  exact kk H locs q qM ls hP hD hS (lv_sub hl [2, 3, 4, 5, 6] rfl)
-- part 09.44.case04.lean.txt
set_option maxHeartbeats 4000000 in
set_option maxRecDepth 100000 in
theorem lw_case_4 {p : Program} {l : Launch} {e : Env} {s : State} {m : MethodId} {below : List Frame} {meth : Method} {c : Code} {D : va_G} {cI cZ cJ : ClassId} {a aM : Nat → Nat} {A : Nat → Prop} {b L : Nat} {xs : Nat → Int32} {Q : State → Prop} (C0 : Am p s m #[Value.ref b] meth c code ret 7 R_W D [(cI, .int), (cZ, .boolean)]) (hl0 : l.stackTraces = false) (hKO : KO D cI cZ cJ s) (hA : ∀ q, s.heap.size ≤ q → A q) (hZ : Zs A s s.heap) (hX : va_X b L xs s s.heap) (hbl : b < s.heap.size) (hbA : ¬ A b) (hL : L ≤ 2049) {j : Nat} (hj : j + 4 ≤ L) {bo q qM : Nat} {u : StO} {μ : StM} {rW : Int32 × StO × Nat × Nat} {rM : Int32 × StM} (gW : f_W_upper u (xs (j + 1)) (xs (j + 2)) = some rW) (gM : f_M_upper μ (xs (j + 1)) (xs (j + 2)) = some rM) {H : Heap} {locs : List Loc} {cells slots : Nat} (hcs : cells + rW.2.2.1 ≤ room_1.cells ∧ slots + rW.2.2.2 ≤ room_1.slots) (hP : va_P D vwCl (wX cI cZ cJ a aM bo q qM u μ) H) (hD : va_D A (wX cI cZ cJ a aM bo q qM u μ)) (hS : va_S A s.heap H locs) {ls : Array Slot} (hl : lv_has ls 7 [(0, .ref b), (1, .ref (a 0)), (2, .ref (aM 20)), (3, .ref bo), (4, .int (nI j))])
    (kk : ∀ (H : Heap) (locs : List Loc) (q qM : Nat) (ls : Array Slot), va_P D vwCl (wX cI cZ cJ a aM bo q qM rW.2.1 rM.2) H → va_D A (wX cI cZ cJ a aM bo q qM rW.2.1 rM.2) → va_S A s.heap H locs → lv_has ls 7 [(0, .ref b), (1, .ref (a 0)), (2, .ref (aM 20)), (3, .ref bo), (4, .int (nI j))] → W p l e room_1 s m #[Value.ref b] below meth c H locs (cells + rW.2.2.1) (slots + rW.2.2.2) Q (F0 m 828 ls [])) : W p l e room_1 s m #[Value.ref b] below meth c H locs cells slots Q (F0 m 348 ls []) := by
  obtain ⟨hx, hb, hr, hml, hown, hts, hlk, hK⟩ := id C0
  refine lv_aload_n hx hb d_W_law_348 rfl (lv_at hl 1 rfl) ?_
  refine lw_ld (kn := 1) hx hb hX hbl hbA hS (lv_at hl 0 rfl) (lv_at hl 4 rfl) rfl (by omega) hL d_W_law_349 d_W_law_350 d_W_law_352 d_W_law_353 d_W_law_354 ?_
  refine lw_ld (kn := 2) hx hb hX hbl hbA hS (lv_at hl 0 rfl) (lv_at hl 4 rfl) rfl (by omega) hL d_W_law_355 d_W_law_356 d_W_law_358 d_W_law_359 d_W_law_360 ?_
  refine lv_aload_n hx hb d_W_law_361 rfl (lv_at hl 3 rfl) ?_
  refine hp_S (n := 4) (As := [.ref (a 0), .int (xs (j + 1)), .int (xs (j + 2)), .ref bo]) (rest := []) (Wn := fun q1 => wX cI cZ cJ a aM bo q1 qM rW.2.1 μ) C0 hKO hA hZ (c_W_upper l D cI cZ cJ a hl0 bo q u (xs (j + 1)) (xs (j + 2)) gW) wd_615 wd_613 wd_614 wd_582 (by decide +kernel) ⟨Nat.le_of_ble_eq_true rfl, Nat.le_of_ble_eq_true rfl⟩ hP hD hS [0, 1, 2, 3, 4, 5, 6, 7, 8, 9, 10, 11, 12, 13, 14, 15, 16, 17, 18, 19, 20, 21] [22, 23, 24, 25, 26, 27, 28, 29, 30, 31, 32, 33, 34, 35, 36, 37, 38, 39, 40, 41, 42, 43, 44, 45] [24, 25, 26, 27, 28, 29, 30, 31, 32, 33, 34, 35, 36, 37, 38, 39, 40, 41, 42, 43, 44, 45, 0, 1, 2, 3, 4, 5, 6, 7, 8, 9, 10, 11, 12, 13, 14, 15, 16, 17, 18, 19, 20, 21, 22, 23] jx_C (by decide) jx_R (by decide) (by decide) (by decide) (fun q1 => jx_W q1) hl rfl rfl (Nat.le_of_ble_eq_true rfl) hcs d_W_law_362 (fun H locs q hP hD hS => ?_)
  refine lv_istore (lv' := [(5, .int rW.1), (0, .ref b), (1, .ref (a 0)), (2, .ref (aM 20)), (3, .ref bo), (4, .int (nI j))]) hx hb d_W_law_365 hl (by decide) rfl (fun ls hl => ?_)
  refine lv_aload_n hx hb d_W_law_367 rfl (lv_at hl 3 rfl) ?_
  refine lw_ld (kn := 1) hx hb hX hbl hbA hS (lv_at hl 1 rfl) (lv_at hl 5 rfl) rfl (by omega) hL d_W_law_368 d_W_law_369 d_W_law_371 d_W_law_372 d_W_law_373 ?_
  refine lw_ld (kn := 2) hx hb hX hbl hbA hS (lv_at hl 1 rfl) (lv_at hl 5 rfl) rfl (by omega) hL d_W_law_374 d_W_law_375 d_W_law_377 d_W_law_378 d_W_law_379 ?_
  refine rw_V (n := 2) (ci := 4) (As := [.int (xs (j + 1)), .int (xs (j + 2))]) (rest := []) (w := fun q (σ : StM) => wM cI cZ aM q σ) (Wn := fun q1 => wX cI cZ cJ a aM bo q q1 rW.2.1 rM.2) C0 hA (c_M_upper l D cI cZ aM qM μ (xs (j + 1)) (xs (j + 2)) gM) wd_616 ⟨wd_617, wd_618, wd_619, wd_352⟩ (by decide +kernel) ⟨Nat.le_of_ble_eq_true rfl, Nat.le_of_ble_eq_true rfl⟩ hP hD hS [22, 23, 24, 25, 26, 27, 28, 29, 30, 31, 32, 33, 34, 35, 36, 37, 38, 39, 40, 41, 42, 43, 44, 45] [0, 1, 2, 3, 4, 5, 6, 7, 8, 9, 10, 11, 12, 13, 14, 15, 16, 17, 18, 19, 20, 21] [0, 1, 2, 3, 4, 5, 6, 7, 8, 9, 10, 11, 12, 13, 14, 15, 16, 17, 18, 19, 20, 21, 22, 23, 24, 25, 26, 27, 28, 29, 30, 31, 32, 33, 34, 35, 36, 37, 38, 39, 40, 41, 42, 43, 44, 45] jm_C (by decide) jm_R (by decide) (by decide) (by decide) (fun q1 => jm_W q1) rfl rfl rfl hl rfl rfl (Nat.le_of_ble_eq_true rfl) hcs d_W_law_380 (fun H locs qM hP hD hS => ?_)
  refine lv_istore (lv' := [(6, .int rM.1), (5, .int rW.1), (0, .ref b), (1, .ref (a 0)), (2, .ref (aM 20)), (3, .ref bo), (4, .int (nI j))]) hx hb d_W_law_383 hl (by decide) rfl (fun ls hl => ?_)
  refine lv_goto (tgt := 828) hx hb d_W_law_385 (by decide) ?_
  exact kk H locs q qM ls hP hD hS (lv_sub hl [2, 3, 4, 5, 6] rfl)
-- part 09.44.case05.lean.txt
set_option maxHeartbeats 4000000 in
set_option maxRecDepth 100000 in
theorem lw_case_5 {p : Program} {l : Launch} {e : Env} {s : State} {m : MethodId} {below : List Frame} {meth : Method} {c : Code} {D : va_G} {cI cZ cJ : ClassId} {a aM : Nat → Nat} {A : Nat → Prop} {b L : Nat} {xs : Nat → Int32} {Q : State → Prop} (C0 : Am p s m #[Value.ref b] meth c code ret 7 R_W D [(cI, .int), (cZ, .boolean)]) (hl0 : l.stackTraces = false) (hKO : KO D cI cZ cJ s) (hA : ∀ q, s.heap.size ≤ q → A q) (hZ : Zs A s s.heap) (hX : va_X b L xs s s.heap) (hbl : b < s.heap.size) (hbA : ¬ A b) (hL : L ≤ 2049) {j : Nat} (hj : j + 4 ≤ L) {bo q qM : Nat} {u : StO} {μ : StM} {rW : Int32 × StO × Nat × Nat} {rM : Int32 × StM} (gW : f_W_lower u (xs (j + 1)) (xs (j + 2)) = some rW) (gM : f_M_lower μ (xs (j + 1)) (xs (j + 2)) = some rM) {H : Heap} {locs : List Loc} {cells slots : Nat} (hcs : cells + rW.2.2.1 ≤ room_1.cells ∧ slots + rW.2.2.2 ≤ room_1.slots) (hP : va_P D vwCl (wX cI cZ cJ a aM bo q qM u μ) H) (hD : va_D A (wX cI cZ cJ a aM bo q qM u μ)) (hS : va_S A s.heap H locs) {ls : Array Slot} (hl : lv_has ls 7 [(0, .ref b), (1, .ref (a 0)), (2, .ref (aM 20)), (3, .ref bo), (4, .int (nI j))])
    (kk : ∀ (H : Heap) (locs : List Loc) (q qM : Nat) (ls : Array Slot), va_P D vwCl (wX cI cZ cJ a aM bo q qM rW.2.1 rM.2) H → va_D A (wX cI cZ cJ a aM bo q qM rW.2.1 rM.2) → va_S A s.heap H locs → lv_has ls 7 [(0, .ref b), (1, .ref (a 0)), (2, .ref (aM 20)), (3, .ref bo), (4, .int (nI j))] → W p l e room_1 s m #[Value.ref b] below meth c H locs (cells + rW.2.2.1) (slots + rW.2.2.2) Q (F0 m 828 ls [])) : W p l e room_1 s m #[Value.ref b] below meth c H locs cells slots Q (F0 m 388 ls []) := by
  obtain ⟨hx, hb, hr, hml, hown, hts, hlk, hK⟩ := id C0
  refine lv_aload_n hx hb d_W_law_388 rfl (lv_at hl 1 rfl) ?_
  refine lw_ld (kn := 1) hx hb hX hbl hbA hS (lv_at hl 0 rfl) (lv_at hl 4 rfl) rfl (by omega) hL d_W_law_389 d_W_law_390 d_W_law_392 d_W_law_393 d_W_law_394 ?_
  refine lw_ld (kn := 2) hx hb hX hbl hbA hS (lv_at hl 0 rfl) (lv_at hl 4 rfl) rfl (by omega) hL d_W_law_395 d_W_law_396 d_W_law_398 d_W_law_399 d_W_law_400 ?_
  refine lv_aload_n hx hb d_W_law_401 rfl (lv_at hl 3 rfl) ?_
  refine hp_S (n := 4) (As := [.ref (a 0), .int (xs (j + 1)), .int (xs (j + 2)), .ref bo]) (rest := []) (Wn := fun q1 => wX cI cZ cJ a aM bo q1 qM rW.2.1 μ) C0 hKO hA hZ (c_W_lower l D cI cZ cJ a hl0 bo q u (xs (j + 1)) (xs (j + 2)) gW) wd_622 wd_620 wd_621 wd_582 (by decide +kernel) ⟨Nat.le_of_ble_eq_true rfl, Nat.le_of_ble_eq_true rfl⟩ hP hD hS [0, 1, 2, 3, 4, 5, 6, 7, 8, 9, 10, 11, 12, 13, 14, 15, 16, 17, 18, 19, 20, 21] [22, 23, 24, 25, 26, 27, 28, 29, 30, 31, 32, 33, 34, 35, 36, 37, 38, 39, 40, 41, 42, 43, 44, 45] [24, 25, 26, 27, 28, 29, 30, 31, 32, 33, 34, 35, 36, 37, 38, 39, 40, 41, 42, 43, 44, 45, 0, 1, 2, 3, 4, 5, 6, 7, 8, 9, 10, 11, 12, 13, 14, 15, 16, 17, 18, 19, 20, 21, 22, 23] jx_C (by decide) jx_R (by decide) (by decide) (by decide) (fun q1 => jx_W q1) hl rfl rfl (Nat.le_of_ble_eq_true rfl) hcs d_W_law_402 (fun H locs q hP hD hS => ?_)
  refine lv_istore (lv' := [(5, .int rW.1), (0, .ref b), (1, .ref (a 0)), (2, .ref (aM 20)), (3, .ref bo), (4, .int (nI j))]) hx hb d_W_law_405 hl (by decide) rfl (fun ls hl => ?_)
  refine lv_aload_n hx hb d_W_law_407 rfl (lv_at hl 3 rfl) ?_
  refine lw_ld (kn := 1) hx hb hX hbl hbA hS (lv_at hl 1 rfl) (lv_at hl 5 rfl) rfl (by omega) hL d_W_law_408 d_W_law_409 d_W_law_411 d_W_law_412 d_W_law_413 ?_
  refine lw_ld (kn := 2) hx hb hX hbl hbA hS (lv_at hl 1 rfl) (lv_at hl 5 rfl) rfl (by omega) hL d_W_law_414 d_W_law_415 d_W_law_417 d_W_law_418 d_W_law_419 ?_
  refine rw_V (n := 2) (ci := 4) (As := [.int (xs (j + 1)), .int (xs (j + 2))]) (rest := []) (w := fun q (σ : StM) => wM cI cZ aM q σ) (Wn := fun q1 => wX cI cZ cJ a aM bo q q1 rW.2.1 rM.2) C0 hA (c_M_lower l D cI cZ aM qM μ (xs (j + 1)) (xs (j + 2)) gM) wd_623 ⟨wd_624, wd_625, wd_626, wd_352⟩ (by decide +kernel) ⟨Nat.le_of_ble_eq_true rfl, Nat.le_of_ble_eq_true rfl⟩ hP hD hS [22, 23, 24, 25, 26, 27, 28, 29, 30, 31, 32, 33, 34, 35, 36, 37, 38, 39, 40, 41, 42, 43, 44, 45] [0, 1, 2, 3, 4, 5, 6, 7, 8, 9, 10, 11, 12, 13, 14, 15, 16, 17, 18, 19, 20, 21] [0, 1, 2, 3, 4, 5, 6, 7, 8, 9, 10, 11, 12, 13, 14, 15, 16, 17, 18, 19, 20, 21, 22, 23, 24, 25, 26, 27, 28, 29, 30, 31, 32, 33, 34, 35, 36, 37, 38, 39, 40, 41, 42, 43, 44, 45] jm_C (by decide) jm_R (by decide) (by decide) (by decide) (fun q1 => jm_W q1) rfl rfl rfl hl rfl rfl (Nat.le_of_ble_eq_true rfl) hcs d_W_law_420 (fun H locs qM hP hD hS => ?_)
  refine lv_istore (lv' := [(6, .int rM.1), (5, .int rW.1), (0, .ref b), (1, .ref (a 0)), (2, .ref (aM 20)), (3, .ref bo), (4, .int (nI j))]) hx hb d_W_law_423 hl (by decide) rfl (fun ls hl => ?_)
  refine lv_goto (tgt := 828) hx hb d_W_law_425 (by decide) ?_
  exact kk H locs q qM ls hP hD hS (lv_sub hl [2, 3, 4, 5, 6] rfl)
-- part 09.44.case06.lean.txt
set_option maxHeartbeats 4000000 in
set_option maxRecDepth 100000 in
theorem lw_case_6 {p : Program} {l : Launch} {e : Env} {s : State} {m : MethodId} {below : List Frame} {meth : Method} {c : Code} {D : va_G} {cI cZ cJ : ClassId} {a aM : Nat → Nat} {A : Nat → Prop} {b L : Nat} {xs : Nat → Int32} {Q : State → Prop} (C0 : Am p s m #[Value.ref b] meth c code ret 7 R_W D [(cI, .int), (cZ, .boolean)]) (hl0 : l.stackTraces = false) (hKO : KO D cI cZ cJ s) (hA : ∀ q, s.heap.size ≤ q → A q) (hZ : Zs A s s.heap) (hX : va_X b L xs s s.heap) (hbl : b < s.heap.size) (hbA : ¬ A b) (hL : L ≤ 2049) {j : Nat} (hj : j + 4 ≤ L) {bo q qM : Nat} {u : StO} {μ : StM} {rW : Int32 × StO × Nat × Nat} {rM : Int32 × StM} (gW : f_W_isBelow u (xs (j + 1)) (xs (j + 2)) = some rW) (gM : f_M_isBelow μ (xs (j + 1)) (xs (j + 2)) = some rM) {H : Heap} {locs : List Loc} {cells slots : Nat} (hcs : cells + rW.2.2.1 ≤ room_1.cells ∧ slots + rW.2.2.2 ≤ room_1.slots) (hP : va_P D vwCl (wX cI cZ cJ a aM bo q qM u μ) H) (hD : va_D A (wX cI cZ cJ a aM bo q qM u μ)) (hS : va_S A s.heap H locs) {ls : Array Slot} (hl : lv_has ls 7 [(0, .ref b), (1, .ref (a 0)), (2, .ref (aM 20)), (3, .ref bo), (4, .int (nI j))])
    (kk : ∀ (H : Heap) (locs : List Loc) (q qM : Nat) (ls : Array Slot), va_P D vwCl (wX cI cZ cJ a aM bo q qM rW.2.1 rM.2) H → va_D A (wX cI cZ cJ a aM bo q qM rW.2.1 rM.2) → va_S A s.heap H locs → lv_has ls 7 [(0, .ref b), (1, .ref (a 0)), (2, .ref (aM 20)), (3, .ref bo), (4, .int (nI j))] → W p l e room_1 s m #[Value.ref b] below meth c H locs (cells + rW.2.2.1) (slots + rW.2.2.2) Q (F0 m 828 ls [])) : W p l e room_1 s m #[Value.ref b] below meth c H locs cells slots Q (F0 m 428 ls []) := by
  obtain ⟨hx, hb, hr, hml, hown, hts, hlk, hK⟩ := id C0
  refine lv_aload_n hx hb d_W_law_428 rfl (lv_at hl 1 rfl) ?_
  refine lw_ld (kn := 1) hx hb hX hbl hbA hS (lv_at hl 0 rfl) (lv_at hl 4 rfl) rfl (by omega) hL d_W_law_429 d_W_law_430 d_W_law_432 d_W_law_433 d_W_law_434 ?_
  refine lw_ld (kn := 2) hx hb hX hbl hbA hS (lv_at hl 0 rfl) (lv_at hl 4 rfl) rfl (by omega) hL d_W_law_435 d_W_law_436 d_W_law_438 d_W_law_439 d_W_law_440 ?_
  refine lv_aload_n hx hb d_W_law_441 rfl (lv_at hl 3 rfl) ?_
  refine hp_S (n := 4) (As := [.ref (a 0), .int (xs (j + 1)), .int (xs (j + 2)), .ref bo]) (rest := []) (Wn := fun q1 => wX cI cZ cJ a aM bo q1 qM rW.2.1 μ) C0 hKO hA hZ (c_W_isBelow l D cI cZ cJ a hl0 bo q u (xs (j + 1)) (xs (j + 2)) gW) wd_629 wd_627 wd_628 wd_582 (by decide +kernel) ⟨Nat.le_of_ble_eq_true rfl, Nat.le_of_ble_eq_true rfl⟩ hP hD hS [0, 1, 2, 3, 4, 5, 6, 7, 8, 9, 10, 11, 12, 13, 14, 15, 16, 17, 18, 19, 20, 21] [22, 23, 24, 25, 26, 27, 28, 29, 30, 31, 32, 33, 34, 35, 36, 37, 38, 39, 40, 41, 42, 43, 44, 45] [24, 25, 26, 27, 28, 29, 30, 31, 32, 33, 34, 35, 36, 37, 38, 39, 40, 41, 42, 43, 44, 45, 0, 1, 2, 3, 4, 5, 6, 7, 8, 9, 10, 11, 12, 13, 14, 15, 16, 17, 18, 19, 20, 21, 22, 23] jx_C (by decide) jx_R (by decide) (by decide) (by decide) (fun q1 => jx_W q1) hl rfl rfl (Nat.le_of_ble_eq_true rfl) hcs d_W_law_442 (fun H locs q hP hD hS => ?_)
  refine lv_istore (lv' := [(5, .int rW.1), (0, .ref b), (1, .ref (a 0)), (2, .ref (aM 20)), (3, .ref bo), (4, .int (nI j))]) hx hb d_W_law_445 hl (by decide) rfl (fun ls hl => ?_)
  refine lv_aload_n hx hb d_W_law_447 rfl (lv_at hl 3 rfl) ?_
  refine lw_ld (kn := 1) hx hb hX hbl hbA hS (lv_at hl 1 rfl) (lv_at hl 5 rfl) rfl (by omega) hL d_W_law_448 d_W_law_449 d_W_law_451 d_W_law_452 d_W_law_453 ?_
  refine lw_ld (kn := 2) hx hb hX hbl hbA hS (lv_at hl 1 rfl) (lv_at hl 5 rfl) rfl (by omega) hL d_W_law_454 d_W_law_455 d_W_law_457 d_W_law_458 d_W_law_459 ?_
  refine rw_V (n := 2) (ci := 4) (As := [.int (xs (j + 1)), .int (xs (j + 2))]) (rest := []) (w := fun q (σ : StM) => wM cI cZ aM q σ) (Wn := fun q1 => wX cI cZ cJ a aM bo q q1 rW.2.1 rM.2) C0 hA (c_M_isBelow l D cI cZ aM qM μ (xs (j + 1)) (xs (j + 2)) gM) wd_630 ⟨wd_631, wd_632, wd_633, wd_352⟩ (by decide +kernel) ⟨Nat.le_of_ble_eq_true rfl, Nat.le_of_ble_eq_true rfl⟩ hP hD hS [22, 23, 24, 25, 26, 27, 28, 29, 30, 31, 32, 33, 34, 35, 36, 37, 38, 39, 40, 41, 42, 43, 44, 45] [0, 1, 2, 3, 4, 5, 6, 7, 8, 9, 10, 11, 12, 13, 14, 15, 16, 17, 18, 19, 20, 21] [0, 1, 2, 3, 4, 5, 6, 7, 8, 9, 10, 11, 12, 13, 14, 15, 16, 17, 18, 19, 20, 21, 22, 23, 24, 25, 26, 27, 28, 29, 30, 31, 32, 33, 34, 35, 36, 37, 38, 39, 40, 41, 42, 43, 44, 45] jm_C (by decide) jm_R (by decide) (by decide) (by decide) (fun q1 => jm_W q1) rfl rfl rfl hl rfl rfl (Nat.le_of_ble_eq_true rfl) hcs d_W_law_460 (fun H locs qM hP hD hS => ?_)
  refine lv_istore (lv' := [(6, .int rM.1), (5, .int rW.1), (0, .ref b), (1, .ref (a 0)), (2, .ref (aM 20)), (3, .ref bo), (4, .int (nI j))]) hx hb d_W_law_463 hl (by decide) rfl (fun ls hl => ?_)
  refine lv_goto (tgt := 828) hx hb d_W_law_465 (by decide) ?_
  exact kk H locs q qM ls hP hD hS (lv_sub hl [2, 3, 4, 5, 6] rfl)
-- part 09.44.case07.lean.txt
set_option maxHeartbeats 4000000 in
set_option maxRecDepth 100000 in
theorem lw_case_7 {p : Program} {l : Launch} {e : Env} {s : State} {m : MethodId} {below : List Frame} {meth : Method} {c : Code} {D : va_G} {cI cZ cJ : ClassId} {a aM : Nat → Nat} {A : Nat → Prop} {b L : Nat} {xs : Nat → Int32} {Q : State → Prop} (C0 : Am p s m #[Value.ref b] meth c code ret 7 R_W D [(cI, .int), (cZ, .boolean)]) (hl0 : l.stackTraces = false) (hKO : KO D cI cZ cJ s) (hA : ∀ q, s.heap.size ≤ q → A q) (hZ : Zs A s s.heap) (hX : va_X b L xs s s.heap) (hbl : b < s.heap.size) (hbA : ¬ A b) (hL : L ≤ 2049) {j : Nat} (hj : j + 4 ≤ L) {bo q qM : Nat} {u : StO} {μ : StM} {rW : Int32 × StO × Nat × Nat} {rM : Int32 × StM} (gW : f_W_look u (xs (j + 1)) (xs (j + 2)) = some rW) (gM : f_M_look μ (xs (j + 1)) (xs (j + 2)) = some rM) {H : Heap} {locs : List Loc} {cells slots : Nat} (hcs : cells + rW.2.2.1 ≤ room_1.cells ∧ slots + rW.2.2.2 ≤ room_1.slots) (hP : va_P D vwCl (wX cI cZ cJ a aM bo q qM u μ) H) (hD : va_D A (wX cI cZ cJ a aM bo q qM u μ)) (hS : va_S A s.heap H locs) {ls : Array Slot} (hl : lv_has ls 7 [(0, .ref b), (1, .ref (a 0)), (2, .ref (aM 20)), (3, .ref bo), (4, .int (nI j))])
    (kk : ∀ (H : Heap) (locs : List Loc) (q qM : Nat) (ls : Array Slot), va_P D vwCl (wX cI cZ cJ a aM bo q qM rW.2.1 rM.2) H → va_D A (wX cI cZ cJ a aM bo q qM rW.2.1 rM.2) → va_S A s.heap H locs → lv_has ls 7 [(0, .ref b), (1, .ref (a 0)), (2, .ref (aM 20)), (3, .ref bo), (4, .int (nI j))] → W p l e room_1 s m #[Value.ref b] below meth c H locs (cells + rW.2.2.1) (slots + rW.2.2.2) Q (F0 m 828 ls [])) : W p l e room_1 s m #[Value.ref b] below meth c H locs cells slots Q (F0 m 468 ls []) := by
  obtain ⟨hx, hb, hr, hml, hown, hts, hlk, hK⟩ := id C0
  refine lv_aload_n hx hb d_W_law_468 rfl (lv_at hl 1 rfl) ?_
  refine lw_ld (kn := 1) hx hb hX hbl hbA hS (lv_at hl 0 rfl) (lv_at hl 4 rfl) rfl (by omega) hL d_W_law_469 d_W_law_470 d_W_law_472 d_W_law_473 d_W_law_474 ?_
  refine lw_ld (kn := 2) hx hb hX hbl hbA hS (lv_at hl 0 rfl) (lv_at hl 4 rfl) rfl (by omega) hL d_W_law_475 d_W_law_476 d_W_law_478 d_W_law_479 d_W_law_480 ?_
  refine lv_aload_n hx hb d_W_law_481 rfl (lv_at hl 3 rfl) ?_
  refine hp_S (n := 4) (As := [.ref (a 0), .int (xs (j + 1)), .int (xs (j + 2)), .ref bo]) (rest := []) (Wn := fun q1 => wX cI cZ cJ a aM bo q1 qM rW.2.1 μ) C0 hKO hA hZ (c_W_look l D cI cZ cJ a hl0 bo q u (xs (j + 1)) (xs (j + 2)) gW) wd_636 wd_634 wd_635 wd_582 (by decide +kernel) ⟨Nat.le_of_ble_eq_true rfl, Nat.le_of_ble_eq_true rfl⟩ hP hD hS [0, 1, 2, 3, 4, 5, 6, 7, 8, 9, 10, 11, 12, 13, 14, 15, 16, 17, 18, 19, 20, 21] [22, 23, 24, 25, 26, 27, 28, 29, 30, 31, 32, 33, 34, 35, 36, 37, 38, 39, 40, 41, 42, 43, 44, 45] [24, 25, 26, 27, 28, 29, 30, 31, 32, 33, 34, 35, 36, 37, 38, 39, 40, 41, 42, 43, 44, 45, 0, 1, 2, 3, 4, 5, 6, 7, 8, 9, 10, 11, 12, 13, 14, 15, 16, 17, 18, 19, 20, 21, 22, 23] jx_C (by decide) jx_R (by decide) (by decide) (by decide) (fun q1 => jx_W q1) hl rfl rfl (Nat.le_of_ble_eq_true rfl) hcs d_W_law_482 (fun H locs q hP hD hS => ?_)
  refine lv_istore (lv' := [(5, .int rW.1), (0, .ref b), (1, .ref (a 0)), (2, .ref (aM 20)), (3, .ref bo), (4, .int (nI j))]) hx hb d_W_law_485 hl (by decide) rfl (fun ls hl => ?_)
  refine lv_aload_n hx hb d_W_law_487 rfl (lv_at hl 3 rfl) ?_
  refine lw_ld (kn := 1) hx hb hX hbl hbA hS (lv_at hl 1 rfl) (lv_at hl 5 rfl) rfl (by omega) hL d_W_law_488 d_W_law_489 d_W_law_491 d_W_law_492 d_W_law_493 ?_
  refine lw_ld (kn := 2) hx hb hX hbl hbA hS (lv_at hl 1 rfl) (lv_at hl 5 rfl) rfl (by omega) hL d_W_law_494 d_W_law_495 d_W_law_497 d_W_law_498 d_W_law_499 ?_
  refine rw_V (n := 2) (ci := 4) (As := [.int (xs (j + 1)), .int (xs (j + 2))]) (rest := []) (w := fun q (σ : StM) => wM cI cZ aM q σ) (Wn := fun q1 => wX cI cZ cJ a aM bo q q1 rW.2.1 rM.2) C0 hA (c_M_look l D cI cZ aM qM μ (xs (j + 1)) (xs (j + 2)) gM) wd_637 ⟨wd_638, wd_639, wd_640, wd_352⟩ (by decide +kernel) ⟨Nat.le_of_ble_eq_true rfl, Nat.le_of_ble_eq_true rfl⟩ hP hD hS [22, 23, 24, 25, 26, 27, 28, 29, 30, 31, 32, 33, 34, 35, 36, 37, 38, 39, 40, 41, 42, 43, 44, 45] [0, 1, 2, 3, 4, 5, 6, 7, 8, 9, 10, 11, 12, 13, 14, 15, 16, 17, 18, 19, 20, 21] [0, 1, 2, 3, 4, 5, 6, 7, 8, 9, 10, 11, 12, 13, 14, 15, 16, 17, 18, 19, 20, 21, 22, 23, 24, 25, 26, 27, 28, 29, 30, 31, 32, 33, 34, 35, 36, 37, 38, 39, 40, 41, 42, 43, 44, 45] jm_C (by decide) jm_R (by decide) (by decide) (by decide) (fun q1 => jm_W q1) rfl rfl rfl hl rfl rfl (Nat.le_of_ble_eq_true rfl) hcs d_W_law_500 (fun H locs qM hP hD hS => ?_)
  refine lv_istore (lv' := [(6, .int rM.1), (5, .int rW.1), (0, .ref b), (1, .ref (a 0)), (2, .ref (aM 20)), (3, .ref bo), (4, .int (nI j))]) hx hb d_W_law_503 hl (by decide) rfl (fun ls hl => ?_)
  refine lv_goto (tgt := 828) hx hb d_W_law_505 (by decide) ?_
  exact kk H locs q qM ls hP hD hS (lv_sub hl [2, 3, 4, 5, 6] rfl)
-- part 09.44.case08.lean.txt
set_option maxHeartbeats 4000000 in
set_option maxRecDepth 100000 in
theorem lw_case_8 {p : Program} {l : Launch} {e : Env} {s : State} {m : MethodId} {below : List Frame} {meth : Method} {c : Code} {D : va_G} {cI cZ cJ : ClassId} {a aM : Nat → Nat} {A : Nat → Prop} {b L : Nat} {xs : Nat → Int32} {Q : State → Prop} (C0 : Am p s m #[Value.ref b] meth c code ret 7 R_W D [(cI, .int), (cZ, .boolean)]) (hl0 : l.stackTraces = false) (hKO : KO D cI cZ cJ s) (hA : ∀ q, s.heap.size ≤ q → A q) (hZ : Zs A s s.heap) (hX : va_X b L xs s s.heap) (hbl : b < s.heap.size) (hbA : ¬ A b) (hL : L ≤ 2049) {j : Nat} (hj : j + 4 ≤ L) {bo q qM : Nat} {u : StO} {μ : StM} {rW : Int32 × StO × Nat × Nat} {rM : Int32 × StM} (gW : f_W_box u (xs (j + 1)) = some rW) (gM : f_M_box μ (xs (j + 1)) = some rM) {H : Heap} {locs : List Loc} {cells slots : Nat} (hcs : cells + rW.2.2.1 ≤ room_1.cells ∧ slots + rW.2.2.2 ≤ room_1.slots) (hP : va_P D vwCl (wX cI cZ cJ a aM bo q qM u μ) H) (hD : va_D A (wX cI cZ cJ a aM bo q qM u μ)) (hS : va_S A s.heap H locs) {ls : Array Slot} (hl : lv_has ls 7 [(0, .ref b), (1, .ref (a 0)), (2, .ref (aM 20)), (3, .ref bo), (4, .int (nI j))])
    (kk : ∀ (H : Heap) (locs : List Loc) (q qM : Nat) (ls : Array Slot), va_P D vwCl (wX cI cZ cJ a aM bo q qM rW.2.1 rM.2) H → va_D A (wX cI cZ cJ a aM bo q qM rW.2.1 rM.2) → va_S A s.heap H locs → lv_has ls 7 [(0, .ref b), (1, .ref (a 0)), (2, .ref (aM 20)), (3, .ref bo), (4, .int (nI j))] → W p l e room_1 s m #[Value.ref b] below meth c H locs (cells + rW.2.2.1) (slots + rW.2.2.2) Q (F0 m 828 ls [])) : W p l e room_1 s m #[Value.ref b] below meth c H locs cells slots Q (F0 m 508 ls []) := by
  obtain ⟨hx, hb, hr, hml, hown, hts, hlk, hK⟩ := id C0
  refine lv_aload_n hx hb d_W_law_508 rfl (lv_at hl 1 rfl) ?_
  refine lw_ld (kn := 1) hx hb hX hbl hbA hS (lv_at hl 0 rfl) (lv_at hl 4 rfl) rfl (by omega) hL d_W_law_509 d_W_law_510 d_W_law_512 d_W_law_513 d_W_law_514 ?_
  refine lv_aload_n hx hb d_W_law_515 rfl (lv_at hl 3 rfl) ?_
  refine hp_S (n := 3) (As := [.ref (a 0), .int (xs (j + 1)), .ref bo]) (rest := []) (Wn := fun q1 => wX cI cZ cJ a aM bo q1 qM rW.2.1 μ) C0 hKO hA hZ (c_W_box l D cI cZ cJ a hl0 bo q u (xs (j + 1)) gW) wd_643 wd_641 wd_642 wd_582 (by decide +kernel) ⟨Nat.le_of_ble_eq_true rfl, Nat.le_of_ble_eq_true rfl⟩ hP hD hS [0, 1, 2, 3, 4, 5, 6, 7, 8, 9, 10, 11, 12, 13, 14, 15, 16, 17, 18, 19, 20, 21] [22, 23, 24, 25, 26, 27, 28, 29, 30, 31, 32, 33, 34, 35, 36, 37, 38, 39, 40, 41, 42, 43, 44, 45] [24, 25, 26, 27, 28, 29, 30, 31, 32, 33, 34, 35, 36, 37, 38, 39, 40, 41, 42, 43, 44, 45, 0, 1, 2, 3, 4, 5, 6, 7, 8, 9, 10, 11, 12, 13, 14, 15, 16, 17, 18, 19, 20, 21, 22, 23] jx_C (by decide) jx_R (by decide) (by decide) (by decide) (fun q1 => jx_W q1) hl rfl rfl (Nat.le_of_ble_eq_true rfl) hcs d_W_law_516 (fun H locs q hP hD hS => ?_)
  refine lv_istore (lv' := [(5, .int rW.1), (0, .ref b), (1, .ref (a 0)), (2, .ref (aM 20)), (3, .ref bo), (4, .int (nI j))]) hx hb d_W_law_519 hl (by decide) rfl (fun ls hl => ?_)
  refine lv_aload_n hx hb d_W_law_521 rfl (lv_at hl 3 rfl) ?_
  refine lw_ld (kn := 1) hx hb hX hbl hbA hS (lv_at hl 1 rfl) (lv_at hl 5 rfl) rfl (by omega) hL d_W_law_522 d_W_law_523 d_W_law_525 d_W_law_526 d_W_law_527 ?_
  refine rw_V (n := 1) (ci := 4) (As := [.int (xs (j + 1))]) (rest := []) (w := fun q (σ : StM) => wM cI cZ aM q σ) (Wn := fun q1 => wX cI cZ cJ a aM bo q q1 rW.2.1 rM.2) C0 hA (c_M_box l D cI cZ aM qM μ (xs (j + 1)) gM) wd_644 ⟨wd_645, wd_646, wd_647, wd_352⟩ (by decide +kernel) ⟨Nat.le_of_ble_eq_true rfl, Nat.le_of_ble_eq_true rfl⟩ hP hD hS [22, 23, 24, 25, 26, 27, 28, 29, 30, 31, 32, 33, 34, 35, 36, 37, 38, 39, 40, 41, 42, 43, 44, 45] [0, 1, 2, 3, 4, 5, 6, 7, 8, 9, 10, 11, 12, 13, 14, 15, 16, 17, 18, 19, 20, 21] [0, 1, 2, 3, 4, 5, 6, 7, 8, 9, 10, 11, 12, 13, 14, 15, 16, 17, 18, 19, 20, 21, 22, 23, 24, 25, 26, 27, 28, 29, 30, 31, 32, 33, 34, 35, 36, 37, 38, 39, 40, 41, 42, 43, 44, 45] jm_C (by decide) jm_R (by decide) (by decide) (by decide) (fun q1 => jm_W q1) rfl rfl rfl hl rfl rfl (Nat.le_of_ble_eq_true rfl) hcs d_W_law_528 (fun H locs qM hP hD hS => ?_)
  refine lv_istore (lv' := [(6, .int rM.1), (5, .int rW.1), (0, .ref b), (1, .ref (a 0)), (2, .ref (aM 20)), (3, .ref bo), (4, .int (nI j))]) hx hb d_W_law_531 hl (by decide) rfl (fun ls hl => ?_)
  refine lv_goto (tgt := 828) hx hb d_W_law_533 (by decide) ?_
  exact kk H locs q qM ls hP hD hS (lv_sub hl [2, 3, 4, 5, 6] rfl)
-- part 09.44.case09.lean.txt
set_option maxHeartbeats 4000000 in
set_option maxRecDepth 100000 in
theorem lw_case_9 {p : Program} {l : Launch} {e : Env} {s : State} {m : MethodId} {below : List Frame} {meth : Method} {c : Code} {D : va_G} {cI cZ cJ : ClassId} {a aM : Nat → Nat} {A : Nat → Prop} {b L : Nat} {xs : Nat → Int32} {Q : State → Prop} (C0 : Am p s m #[Value.ref b] meth c code ret 7 R_W D [(cI, .int), (cZ, .boolean)]) (hl0 : l.stackTraces = false) (hKO : KO D cI cZ cJ s) (hA : ∀ q, s.heap.size ≤ q → A q) (hZ : Zs A s s.heap) (hX : va_X b L xs s s.heap) (hbl : b < s.heap.size) (hbA : ¬ A b) (hL : L ≤ 2049) {j : Nat} (hj : j + 4 ≤ L) {bo q qM : Nat} {u : StO} {μ : StM} {rW : Int32 × StO × Nat × Nat} {rM : Int32 × StM} (gW : f_W_type u (xs (j + 1)) (xs (j + 2)) = some rW) (gM : f_M_type μ (xs (j + 1)) (xs (j + 2)) = some rM) {H : Heap} {locs : List Loc} {cells slots : Nat} (hcs : cells + rW.2.2.1 ≤ room_1.cells ∧ slots + rW.2.2.2 ≤ room_1.slots) (hP : va_P D vwCl (wX cI cZ cJ a aM bo q qM u μ) H) (hD : va_D A (wX cI cZ cJ a aM bo q qM u μ)) (hS : va_S A s.heap H locs) {ls : Array Slot} (hl : lv_has ls 7 [(0, .ref b), (1, .ref (a 0)), (2, .ref (aM 20)), (3, .ref bo), (4, .int (nI j))])
    (kk : ∀ (H : Heap) (locs : List Loc) (q qM : Nat) (ls : Array Slot), va_P D vwCl (wX cI cZ cJ a aM bo q qM rW.2.1 rM.2) H → va_D A (wX cI cZ cJ a aM bo q qM rW.2.1 rM.2) → va_S A s.heap H locs → lv_has ls 7 [(0, .ref b), (1, .ref (a 0)), (2, .ref (aM 20)), (3, .ref bo), (4, .int (nI j))] → W p l e room_1 s m #[Value.ref b] below meth c H locs (cells + rW.2.2.1) (slots + rW.2.2.2) Q (F0 m 828 ls [])) : W p l e room_1 s m #[Value.ref b] below meth c H locs cells slots Q (F0 m 536 ls []) := by
  obtain ⟨hx, hb, hr, hml, hown, hts, hlk, hK⟩ := id C0
  refine lv_aload_n hx hb d_W_law_536 rfl (lv_at hl 1 rfl) ?_
  refine lw_ld (kn := 1) hx hb hX hbl hbA hS (lv_at hl 0 rfl) (lv_at hl 4 rfl) rfl (by omega) hL d_W_law_537 d_W_law_538 d_W_law_540 d_W_law_541 d_W_law_542 ?_
  refine lw_ld (kn := 2) hx hb hX hbl hbA hS (lv_at hl 0 rfl) (lv_at hl 4 rfl) rfl (by omega) hL d_W_law_543 d_W_law_544 d_W_law_546 d_W_law_547 d_W_law_548 ?_
  refine lv_aload_n hx hb d_W_law_549 rfl (lv_at hl 3 rfl) ?_
  refine hp_S (n := 4) (As := [.ref (a 0), .int (xs (j + 1)), .int (xs (j + 2)), .ref bo]) (rest := []) (Wn := fun q1 => wX cI cZ cJ a aM bo q1 qM rW.2.1 μ) C0 hKO hA hZ (c_W_type l D cI cZ cJ a hl0 bo q u (xs (j + 1)) (xs (j + 2)) gW) wd_650 wd_648 wd_649 wd_582 (by decide +kernel) ⟨Nat.le_of_ble_eq_true rfl, Nat.le_of_ble_eq_true rfl⟩ hP hD hS [0, 1, 2, 3, 4, 5, 6, 7, 8, 9, 10, 11, 12, 13, 14, 15, 16, 17, 18, 19, 20, 21] [22, 23, 24, 25, 26, 27, 28, 29, 30, 31, 32, 33, 34, 35, 36, 37, 38, 39, 40, 41, 42, 43, 44, 45] [24, 25, 26, 27, 28, 29, 30, 31, 32, 33, 34, 35, 36, 37, 38, 39, 40, 41, 42, 43, 44, 45, 0, 1, 2, 3, 4, 5, 6, 7, 8, 9, 10, 11, 12, 13, 14, 15, 16, 17, 18, 19, 20, 21, 22, 23] jx_C (by decide) jx_R (by decide) (by decide) (by decide) (fun q1 => jx_W q1) hl rfl rfl (Nat.le_of_ble_eq_true rfl) hcs d_W_law_550 (fun H locs q hP hD hS => ?_)
  refine lv_istore (lv' := [(5, .int rW.1), (0, .ref b), (1, .ref (a 0)), (2, .ref (aM 20)), (3, .ref bo), (4, .int (nI j))]) hx hb d_W_law_553 hl (by decide) rfl (fun ls hl => ?_)
  refine lv_aload_n hx hb d_W_law_555 rfl (lv_at hl 3 rfl) ?_
  refine lw_ld (kn := 1) hx hb hX hbl hbA hS (lv_at hl 1 rfl) (lv_at hl 5 rfl) rfl (by omega) hL d_W_law_556 d_W_law_557 d_W_law_559 d_W_law_560 d_W_law_561 ?_
  refine lw_ld (kn := 2) hx hb hX hbl hbA hS (lv_at hl 1 rfl) (lv_at hl 5 rfl) rfl (by omega) hL d_W_law_562 d_W_law_563 d_W_law_565 d_W_law_566 d_W_law_567 ?_
  refine rw_V (n := 2) (ci := 4) (As := [.int (xs (j + 1)), .int (xs (j + 2))]) (rest := []) (w := fun q (σ : StM) => wM cI cZ aM q σ) (Wn := fun q1 => wX cI cZ cJ a aM bo q q1 rW.2.1 rM.2) C0 hA (c_M_type l D cI cZ aM qM μ (xs (j + 1)) (xs (j + 2)) gM) wd_651 ⟨wd_652, wd_653, wd_654, wd_352⟩ (by decide +kernel) ⟨Nat.le_of_ble_eq_true rfl, Nat.le_of_ble_eq_true rfl⟩ hP hD hS [22, 23, 24, 25, 26, 27, 28, 29, 30, 31, 32, 33, 34, 35, 36, 37, 38, 39, 40, 41, 42, 43, 44, 45] [0, 1, 2, 3, 4, 5, 6, 7, 8, 9, 10, 11, 12, 13, 14, 15, 16, 17, 18, 19, 20, 21] [0, 1, 2, 3, 4, 5, 6, 7, 8, 9, 10, 11, 12, 13, 14, 15, 16, 17, 18, 19, 20, 21, 22, 23, 24, 25, 26, 27, 28, 29, 30, 31, 32, 33, 34, 35, 36, 37, 38, 39, 40, 41, 42, 43, 44, 45] jm_C (by decide) jm_R (by decide) (by decide) (by decide) (fun q1 => jm_W q1) rfl rfl rfl hl rfl rfl (Nat.le_of_ble_eq_true rfl) hcs d_W_law_568 (fun H locs qM hP hD hS => ?_)
  refine lv_istore (lv' := [(6, .int rM.1), (5, .int rW.1), (0, .ref b), (1, .ref (a 0)), (2, .ref (aM 20)), (3, .ref bo), (4, .int (nI j))]) hx hb d_W_law_571 hl (by decide) rfl (fun ls hl => ?_)
  refine lv_goto (tgt := 828) hx hb d_W_law_573 (by decide) ?_
  exact kk H locs q qM ls hP hD hS (lv_sub hl [2, 3, 4, 5, 6] rfl)
-- part 09.44.case10.lean.txt
set_option maxHeartbeats 4000000 in
set_option maxRecDepth 100000 in
theorem lw_case_10 {p : Program} {l : Launch} {e : Env} {s : State} {m : MethodId} {below : List Frame} {meth : Method} {c : Code} {D : va_G} {cI cZ cJ : ClassId} {a aM : Nat → Nat} {A : Nat → Prop} {b L : Nat} {xs : Nat → Int32} {Q : State → Prop} (C0 : Am p s m #[Value.ref b] meth c code ret 7 R_W D [(cI, .int), (cZ, .boolean)]) (hl0 : l.stackTraces = false) (hKO : KO D cI cZ cJ s) (hA : ∀ q, s.heap.size ≤ q → A q) (hZ : Zs A s s.heap) (hX : va_X b L xs s s.heap) (hbl : b < s.heap.size) (hbA : ¬ A b) (hL : L ≤ 2049) {j : Nat} (hj : j + 4 ≤ L) {bo q qM : Nat} {u : StO} {μ : StM} {rW : Int32 × StO × Nat × Nat} {rM : Int32 × StM} (gW : f_W_part u (xs (j + 1)) (xs (j + 2)) = some rW) (gM : f_M_part μ (xs (j + 1)) (xs (j + 2)) = some rM) {H : Heap} {locs : List Loc} {cells slots : Nat} (hcs : cells + rW.2.2.1 ≤ room_1.cells ∧ slots + rW.2.2.2 ≤ room_1.slots) (hP : va_P D vwCl (wX cI cZ cJ a aM bo q qM u μ) H) (hD : va_D A (wX cI cZ cJ a aM bo q qM u μ)) (hS : va_S A s.heap H locs) {ls : Array Slot} (hl : lv_has ls 7 [(0, .ref b), (1, .ref (a 0)), (2, .ref (aM 20)), (3, .ref bo), (4, .int (nI j))])
    (kk : ∀ (H : Heap) (locs : List Loc) (q qM : Nat) (ls : Array Slot), va_P D vwCl (wX cI cZ cJ a aM bo q qM rW.2.1 rM.2) H → va_D A (wX cI cZ cJ a aM bo q qM rW.2.1 rM.2) → va_S A s.heap H locs → lv_has ls 7 [(0, .ref b), (1, .ref (a 0)), (2, .ref (aM 20)), (3, .ref bo), (4, .int (nI j))] → W p l e room_1 s m #[Value.ref b] below meth c H locs (cells + rW.2.2.1) (slots + rW.2.2.2) Q (F0 m 828 ls [])) : W p l e room_1 s m #[Value.ref b] below meth c H locs cells slots Q (F0 m 576 ls []) := by
  obtain ⟨hx, hb, hr, hml, hown, hts, hlk, hK⟩ := id C0
  refine lv_aload_n hx hb d_W_law_576 rfl (lv_at hl 1 rfl) ?_
  refine lw_ld (kn := 1) hx hb hX hbl hbA hS (lv_at hl 0 rfl) (lv_at hl 4 rfl) rfl (by omega) hL d_W_law_577 d_W_law_578 d_W_law_580 d_W_law_581 d_W_law_582 ?_
  refine lw_ld (kn := 2) hx hb hX hbl hbA hS (lv_at hl 0 rfl) (lv_at hl 4 rfl) rfl (by omega) hL d_W_law_583 d_W_law_584 d_W_law_586 d_W_law_587 d_W_law_588 ?_
  refine lv_aload_n hx hb d_W_law_589 rfl (lv_at hl 3 rfl) ?_
  refine hp_S (n := 4) (As := [.ref (a 0), .int (xs (j + 1)), .int (xs (j + 2)), .ref bo]) (rest := []) (Wn := fun q1 => wX cI cZ cJ a aM bo q1 qM rW.2.1 μ) C0 hKO hA hZ (c_W_part l D cI cZ cJ a hl0 bo q u (xs (j + 1)) (xs (j + 2)) gW) wd_657 wd_655 wd_656 wd_582 (by decide +kernel) ⟨Nat.le_of_ble_eq_true rfl, Nat.le_of_ble_eq_true rfl⟩ hP hD hS [0, 1, 2, 3, 4, 5, 6, 7, 8, 9, 10, 11, 12, 13, 14, 15, 16, 17, 18, 19, 20, 21] [22, 23, 24, 25, 26, 27, 28, 29, 30, 31, 32, 33, 34, 35, 36, 37, 38, 39, 40, 41, 42, 43, 44, 45] [24, 25, 26, 27, 28, 29, 30, 31, 32, 33, 34, 35, 36, 37, 38, 39, 40, 41, 42, 43, 44, 45, 0, 1, 2, 3, 4, 5, 6, 7, 8, 9, 10, 11, 12, 13, 14, 15, 16, 17, 18, 19, 20, 21, 22, 23] jx_C (by decide) jx_R (by decide) (by decide) (by decide) (fun q1 => jx_W q1) hl rfl rfl (Nat.le_of_ble_eq_true rfl) hcs d_W_law_590 (fun H locs q hP hD hS => ?_)
  refine lv_istore (lv' := [(5, .int rW.1), (0, .ref b), (1, .ref (a 0)), (2, .ref (aM 20)), (3, .ref bo), (4, .int (nI j))]) hx hb d_W_law_593 hl (by decide) rfl (fun ls hl => ?_)
  refine lv_aload_n hx hb d_W_law_595 rfl (lv_at hl 3 rfl) ?_
  refine lw_ld (kn := 1) hx hb hX hbl hbA hS (lv_at hl 1 rfl) (lv_at hl 5 rfl) rfl (by omega) hL d_W_law_596 d_W_law_597 d_W_law_599 d_W_law_600 d_W_law_601 ?_
  refine lw_ld (kn := 2) hx hb hX hbl hbA hS (lv_at hl 1 rfl) (lv_at hl 5 rfl) rfl (by omega) hL d_W_law_602 d_W_law_603 d_W_law_605 d_W_law_606 d_W_law_607 ?_
  refine rw_V (n := 2) (ci := 4) (As := [.int (xs (j + 1)), .int (xs (j + 2))]) (rest := []) (w := fun q (σ : StM) => wM cI cZ aM q σ) (Wn := fun q1 => wX cI cZ cJ a aM bo q q1 rW.2.1 rM.2) C0 hA (c_M_part l D cI cZ aM qM μ (xs (j + 1)) (xs (j + 2)) gM) wd_658 ⟨wd_659, wd_660, wd_661, wd_352⟩ (by decide +kernel) ⟨Nat.le_of_ble_eq_true rfl, Nat.le_of_ble_eq_true rfl⟩ hP hD hS [22, 23, 24, 25, 26, 27, 28, 29, 30, 31, 32, 33, 34, 35, 36, 37, 38, 39, 40, 41, 42, 43, 44, 45] [0, 1, 2, 3, 4, 5, 6, 7, 8, 9, 10, 11, 12, 13, 14, 15, 16, 17, 18, 19, 20, 21] [0, 1, 2, 3, 4, 5, 6, 7, 8, 9, 10, 11, 12, 13, 14, 15, 16, 17, 18, 19, 20, 21, 22, 23, 24, 25, 26, 27, 28, 29, 30, 31, 32, 33, 34, 35, 36, 37, 38, 39, 40, 41, 42, 43, 44, 45] jm_C (by decide) jm_R (by decide) (by decide) (by decide) (fun q1 => jm_W q1) rfl rfl rfl hl rfl rfl (Nat.le_of_ble_eq_true rfl) hcs d_W_law_608 (fun H locs qM hP hD hS => ?_)
  refine lv_istore (lv' := [(6, .int rM.1), (5, .int rW.1), (0, .ref b), (1, .ref (a 0)), (2, .ref (aM 20)), (3, .ref bo), (4, .int (nI j))]) hx hb d_W_law_611 hl (by decide) rfl (fun ls hl => ?_)
  refine lv_goto (tgt := 828) hx hb d_W_law_613 (by decide) ?_
  exact kk H locs q qM ls hP hD hS (lv_sub hl [2, 3, 4, 5, 6] rfl)
-- part 09.44.case11.lean.txt
set_option maxHeartbeats 4000000 in
set_option maxRecDepth 100000 in
theorem lw_case_11 {p : Program} {l : Launch} {e : Env} {s : State} {m : MethodId} {below : List Frame} {meth : Method} {c : Code} {D : va_G} {cI cZ cJ : ClassId} {a aM : Nat → Nat} {A : Nat → Prop} {b L : Nat} {xs : Nat → Int32} {Q : State → Prop} (C0 : Am p s m #[Value.ref b] meth c code ret 7 R_W D [(cI, .int), (cZ, .boolean)]) (hl0 : l.stackTraces = false) (hKO : KO D cI cZ cJ s) (hA : ∀ q, s.heap.size ≤ q → A q) (hZ : Zs A s s.heap) (hX : va_X b L xs s s.heap) (hbl : b < s.heap.size) (hbA : ¬ A b) (hL : L ≤ 2049) {j : Nat} (hj : j + 4 ≤ L) {bo q qM : Nat} {u : StO} {μ : StM} {rW : Int32 × StO × Nat × Nat} {rM : Int32 × StM} (gW : f_W_common u (xs (j + 1)) (xs (j + 2)) (xs (j + 3)) = some rW) (gM : f_M_common μ (xs (j + 1)) (xs (j + 2)) (xs (j + 3)) = some rM) {H : Heap} {locs : List Loc} {cells slots : Nat} (hcs : cells + rW.2.2.1 ≤ room_1.cells ∧ slots + rW.2.2.2 ≤ room_1.slots) (hP : va_P D vwCl (wX cI cZ cJ a aM bo q qM u μ) H) (hD : va_D A (wX cI cZ cJ a aM bo q qM u μ)) (hS : va_S A s.heap H locs) {ls : Array Slot} (hl : lv_has ls 7 [(0, .ref b), (1, .ref (a 0)), (2, .ref (aM 20)), (3, .ref bo), (4, .int (nI j))])
    (kk : ∀ (H : Heap) (locs : List Loc) (q qM : Nat) (ls : Array Slot), va_P D vwCl (wX cI cZ cJ a aM bo q qM rW.2.1 rM.2) H → va_D A (wX cI cZ cJ a aM bo q qM rW.2.1 rM.2) → va_S A s.heap H locs → lv_has ls 7 [(0, .ref b), (1, .ref (a 0)), (2, .ref (aM 20)), (3, .ref bo), (4, .int (nI j))] → W p l e room_1 s m #[Value.ref b] below meth c H locs (cells + rW.2.2.1) (slots + rW.2.2.2) Q (F0 m 828 ls [])) : W p l e room_1 s m #[Value.ref b] below meth c H locs cells slots Q (F0 m 616 ls []) := by
  obtain ⟨hx, hb, hr, hml, hown, hts, hlk, hK⟩ := id C0
  refine lv_aload_n hx hb d_W_law_616 rfl (lv_at hl 1 rfl) ?_
  refine lw_ld (kn := 1) hx hb hX hbl hbA hS (lv_at hl 0 rfl) (lv_at hl 4 rfl) rfl (by omega) hL d_W_law_617 d_W_law_618 d_W_law_620 d_W_law_621 d_W_law_622 ?_
  refine lw_ld (kn := 2) hx hb hX hbl hbA hS (lv_at hl 0 rfl) (lv_at hl 4 rfl) rfl (by omega) hL d_W_law_623 d_W_law_624 d_W_law_626 d_W_law_627 d_W_law_628 ?_
  refine lw_ld (kn := 3) hx hb hX hbl hbA hS (lv_at hl 0 rfl) (lv_at hl 4 rfl) rfl (by omega) hL d_W_law_629 d_W_law_630 d_W_law_632 d_W_law_633 d_W_law_634 ?_
  refine lv_aload_n hx hb d_W_law_635 rfl (lv_at hl 3 rfl) ?_
  refine hp_S (n := 5) (As := [.ref (a 0), .int (xs (j + 1)), .int (xs (j + 2)), .int (xs (j + 3)), .ref bo]) (rest := []) (Wn := fun q1 => wX cI cZ cJ a aM bo q1 qM rW.2.1 μ) C0 hKO hA hZ (c_W_common l D cI cZ cJ a hl0 bo q u (xs (j + 1)) (xs (j + 2)) (xs (j + 3)) gW) wd_664 wd_662 wd_663 wd_582 (by decide +kernel) ⟨Nat.le_of_ble_eq_true rfl, Nat.le_of_ble_eq_true rfl⟩ hP hD hS [0, 1, 2, 3, 4, 5, 6, 7, 8, 9, 10, 11, 12, 13, 14, 15, 16, 17, 18, 19, 20, 21] [22, 23, 24, 25, 26, 27, 28, 29, 30, 31, 32, 33, 34, 35, 36, 37, 38, 39, 40, 41, 42, 43, 44, 45] [24, 25, 26, 27, 28, 29, 30, 31, 32, 33, 34, 35, 36, 37, 38, 39, 40, 41, 42, 43, 44, 45, 0, 1, 2, 3, 4, 5, 6, 7, 8, 9, 10, 11, 12, 13, 14, 15, 16, 17, 18, 19, 20, 21, 22, 23] jx_C (by decide) jx_R (by decide) (by decide) (by decide) (fun q1 => jx_W q1) hl rfl rfl (Nat.le_of_ble_eq_true rfl) hcs d_W_law_636 (fun H locs q hP hD hS => ?_)
  refine lv_istore (lv' := [(5, .int rW.1), (0, .ref b), (1, .ref (a 0)), (2, .ref (aM 20)), (3, .ref bo), (4, .int (nI j))]) hx hb d_W_law_639 hl (by decide) rfl (fun ls hl => ?_)
  refine lv_aload_n hx hb d_W_law_641 rfl (lv_at hl 3 rfl) ?_
  refine lw_ld (kn := 1) hx hb hX hbl hbA hS (lv_at hl 1 rfl) (lv_at hl 5 rfl) rfl (by omega) hL d_W_law_642 d_W_law_643 d_W_law_645 d_W_law_646 d_W_law_647 ?_
  refine lw_ld (kn := 2) hx hb hX hbl hbA hS (lv_at hl 1 rfl) (lv_at hl 5 rfl) rfl (by omega) hL d_W_law_648 d_W_law_649 d_W_law_651 d_W_law_652 d_W_law_653 ?_
  refine lw_ld (kn := 3) hx hb hX hbl hbA hS (lv_at hl 1 rfl) (lv_at hl 5 rfl) rfl (by omega) hL d_W_law_654 d_W_law_655 d_W_law_657 d_W_law_658 d_W_law_659 ?_
  refine rw_V (n := 3) (ci := 4) (As := [.int (xs (j + 1)), .int (xs (j + 2)), .int (xs (j + 3))]) (rest := []) (w := fun q (σ : StM) => wM cI cZ aM q σ) (Wn := fun q1 => wX cI cZ cJ a aM bo q q1 rW.2.1 rM.2) C0 hA (c_M_common l D cI cZ aM qM μ (xs (j + 1)) (xs (j + 2)) (xs (j + 3)) gM) wd_665 ⟨wd_666, wd_667, wd_668, wd_352⟩ (by decide +kernel) ⟨Nat.le_of_ble_eq_true rfl, Nat.le_of_ble_eq_true rfl⟩ hP hD hS [22, 23, 24, 25, 26, 27, 28, 29, 30, 31, 32, 33, 34, 35, 36, 37, 38, 39, 40, 41, 42, 43, 44, 45] [0, 1, 2, 3, 4, 5, 6, 7, 8, 9, 10, 11, 12, 13, 14, 15, 16, 17, 18, 19, 20, 21] [0, 1, 2, 3, 4, 5, 6, 7, 8, 9, 10, 11, 12, 13, 14, 15, 16, 17, 18, 19, 20, 21, 22, 23, 24, 25, 26, 27, 28, 29, 30, 31, 32, 33, 34, 35, 36, 37, 38, 39, 40, 41, 42, 43, 44, 45] jm_C (by decide) jm_R (by decide) (by decide) (by decide) (fun q1 => jm_W q1) rfl rfl rfl hl rfl rfl (Nat.le_of_ble_eq_true rfl) hcs d_W_law_660 (fun H locs qM hP hD hS => ?_)
  refine lv_istore (lv' := [(6, .int rM.1), (5, .int rW.1), (0, .ref b), (1, .ref (a 0)), (2, .ref (aM 20)), (3, .ref bo), (4, .int (nI j))]) hx hb d_W_law_663 hl (by decide) rfl (fun ls hl => ?_)
  refine lv_goto (tgt := 828) hx hb d_W_law_665 (by decide) ?_
  exact kk H locs q qM ls hP hD hS (lv_sub hl [2, 3, 4, 5, 6] rfl)
-- part 09.44.case12.lean.txt
set_option maxHeartbeats 4000000 in
set_option maxRecDepth 100000 in
theorem lw_case_12 {p : Program} {l : Launch} {e : Env} {s : State} {m : MethodId} {below : List Frame} {meth : Method} {c : Code} {D : va_G} {cI cZ cJ : ClassId} {a aM : Nat → Nat} {A : Nat → Prop} {b L : Nat} {xs : Nat → Int32} {Q : State → Prop} (C0 : Am p s m #[Value.ref b] meth c code ret 7 R_W D [(cI, .int), (cZ, .boolean)]) (hl0 : l.stackTraces = false) (hKO : KO D cI cZ cJ s) (hA : ∀ q, s.heap.size ≤ q → A q) (hZ : Zs A s s.heap) (hX : va_X b L xs s s.heap) (hbl : b < s.heap.size) (hbA : ¬ A b) (hL : L ≤ 2049) {j : Nat} (hj : j + 4 ≤ L) {bo q qM : Nat} {u : StO} {μ : StM} {rW : Int32 × StO × Nat × Nat} {rM : Int32 × StM} (gW : f_W_isUnder u (xs (j + 1)) (xs (j + 2)) = some rW) (gM : f_M_isUnder μ (xs (j + 1)) (xs (j + 2)) = some rM) {H : Heap} {locs : List Loc} {cells slots : Nat} (hcs : cells + rW.2.2.1 ≤ room_1.cells ∧ slots + rW.2.2.2 ≤ room_1.slots) (hP : va_P D vwCl (wX cI cZ cJ a aM bo q qM u μ) H) (hD : va_D A (wX cI cZ cJ a aM bo q qM u μ)) (hS : va_S A s.heap H locs) {ls : Array Slot} (hl : lv_has ls 7 [(0, .ref b), (1, .ref (a 0)), (2, .ref (aM 20)), (3, .ref bo), (4, .int (nI j))])
    (kk : ∀ (H : Heap) (locs : List Loc) (q qM : Nat) (ls : Array Slot), va_P D vwCl (wX cI cZ cJ a aM bo q qM rW.2.1 rM.2) H → va_D A (wX cI cZ cJ a aM bo q qM rW.2.1 rM.2) → va_S A s.heap H locs → lv_has ls 7 [(0, .ref b), (1, .ref (a 0)), (2, .ref (aM 20)), (3, .ref bo), (4, .int (nI j))] → W p l e room_1 s m #[Value.ref b] below meth c H locs (cells + rW.2.2.1) (slots + rW.2.2.2) Q (F0 m 828 ls [])) : W p l e room_1 s m #[Value.ref b] below meth c H locs cells slots Q (F0 m 668 ls []) := by
  obtain ⟨hx, hb, hr, hml, hown, hts, hlk, hK⟩ := id C0
  refine lv_aload_n hx hb d_W_law_668 rfl (lv_at hl 1 rfl) ?_
  refine lw_ld (kn := 1) hx hb hX hbl hbA hS (lv_at hl 0 rfl) (lv_at hl 4 rfl) rfl (by omega) hL d_W_law_669 d_W_law_670 d_W_law_672 d_W_law_673 d_W_law_674 ?_
  refine lw_ld (kn := 2) hx hb hX hbl hbA hS (lv_at hl 0 rfl) (lv_at hl 4 rfl) rfl (by omega) hL d_W_law_675 d_W_law_676 d_W_law_678 d_W_law_679 d_W_law_680 ?_
  refine lv_aload_n hx hb d_W_law_681 rfl (lv_at hl 3 rfl) ?_
  refine hp_S (n := 4) (As := [.ref (a 0), .int (xs (j + 1)), .int (xs (j + 2)), .ref bo]) (rest := []) (Wn := fun q1 => wX cI cZ cJ a aM bo q1 qM rW.2.1 μ) C0 hKO hA hZ (c_W_isUnder l D cI cZ cJ a hl0 bo q u (xs (j + 1)) (xs (j + 2)) gW) wd_671 wd_669 wd_670 wd_582 (by decide +kernel) ⟨Nat.le_of_ble_eq_true rfl, Nat.le_of_ble_eq_true rfl⟩ hP hD hS [0, 1, 2, 3, 4, 5, 6, 7, 8, 9, 10, 11, 12, 13, 14, 15, 16, 17, 18, 19, 20, 21] [22, 23, 24, 25, 26, 27, 28, 29, 30, 31, 32, 33, 34, 35, 36, 37, 38, 39, 40, 41, 42, 43, 44, 45] [24, 25, 26, 27, 28, 29, 30, 31, 32, 33, 34, 35, 36, 37, 38, 39, 40, 41, 42, 43, 44, 45, 0, 1, 2, 3, 4, 5, 6, 7, 8, 9, 10, 11, 12, 13, 14, 15, 16, 17, 18, 19, 20, 21, 22, 23] jx_C (by decide) jx_R (by decide) (by decide) (by decide) (fun q1 => jx_W q1) hl rfl rfl (Nat.le_of_ble_eq_true rfl) hcs d_W_law_682 (fun H locs q hP hD hS => ?_)
  refine lv_istore (lv' := [(5, .int rW.1), (0, .ref b), (1, .ref (a 0)), (2, .ref (aM 20)), (3, .ref bo), (4, .int (nI j))]) hx hb d_W_law_685 hl (by decide) rfl (fun ls hl => ?_)
  refine lv_aload_n hx hb d_W_law_687 rfl (lv_at hl 3 rfl) ?_
  refine lw_ld (kn := 1) hx hb hX hbl hbA hS (lv_at hl 1 rfl) (lv_at hl 5 rfl) rfl (by omega) hL d_W_law_688 d_W_law_689 d_W_law_691 d_W_law_692 d_W_law_693 ?_
  refine lw_ld (kn := 2) hx hb hX hbl hbA hS (lv_at hl 1 rfl) (lv_at hl 5 rfl) rfl (by omega) hL d_W_law_694 d_W_law_695 d_W_law_697 d_W_law_698 d_W_law_699 ?_
  refine rw_V (n := 2) (ci := 4) (As := [.int (xs (j + 1)), .int (xs (j + 2))]) (rest := []) (w := fun q (σ : StM) => wM cI cZ aM q σ) (Wn := fun q1 => wX cI cZ cJ a aM bo q q1 rW.2.1 rM.2) C0 hA (c_M_isUnder l D cI cZ aM qM μ (xs (j + 1)) (xs (j + 2)) gM) wd_672 ⟨wd_673, wd_674, wd_675, wd_352⟩ (by decide +kernel) ⟨Nat.le_of_ble_eq_true rfl, Nat.le_of_ble_eq_true rfl⟩ hP hD hS [22, 23, 24, 25, 26, 27, 28, 29, 30, 31, 32, 33, 34, 35, 36, 37, 38, 39, 40, 41, 42, 43, 44, 45] [0, 1, 2, 3, 4, 5, 6, 7, 8, 9, 10, 11, 12, 13, 14, 15, 16, 17, 18, 19, 20, 21] [0, 1, 2, 3, 4, 5, 6, 7, 8, 9, 10, 11, 12, 13, 14, 15, 16, 17, 18, 19, 20, 21, 22, 23, 24, 25, 26, 27, 28, 29, 30, 31, 32, 33, 34, 35, 36, 37, 38, 39, 40, 41, 42, 43, 44, 45] jm_C (by decide) jm_R (by decide) (by decide) (by decide) (fun q1 => jm_W q1) rfl rfl rfl hl rfl rfl (Nat.le_of_ble_eq_true rfl) hcs d_W_law_700 (fun H locs qM hP hD hS => ?_)
  refine lv_istore (lv' := [(6, .int rM.1), (5, .int rW.1), (0, .ref b), (1, .ref (a 0)), (2, .ref (aM 20)), (3, .ref bo), (4, .int (nI j))]) hx hb d_W_law_703 hl (by decide) rfl (fun ls hl => ?_)
  refine lv_goto (tgt := 828) hx hb d_W_law_705 (by decide) ?_
  exact kk H locs q qM ls hP hD hS (lv_sub hl [2, 3, 4, 5, 6] rfl)
-- part 09.44.case13.lean.txt
set_option maxHeartbeats 4000000 in
set_option maxRecDepth 100000 in
theorem lw_case_13 {p : Program} {l : Launch} {e : Env} {s : State} {m : MethodId} {below : List Frame} {meth : Method} {c : Code} {D : va_G} {cI cZ cJ : ClassId} {a aM : Nat → Nat} {A : Nat → Prop} {b L : Nat} {xs : Nat → Int32} {Q : State → Prop} (C0 : Am p s m #[Value.ref b] meth c code ret 7 R_W D [(cI, .int), (cZ, .boolean)]) (hl0 : l.stackTraces = false) (hKO : KO D cI cZ cJ s) (hA : ∀ q, s.heap.size ≤ q → A q) (hZ : Zs A s s.heap) (hX : va_X b L xs s s.heap) (hbl : b < s.heap.size) (hbA : ¬ A b) (hL : L ≤ 2049) {j : Nat} (hj : j + 4 ≤ L) {bo q qM : Nat} {u : StO} {μ : StM} {rW : Int32 × StO × Nat × Nat} {rM : Int32 × StM} (gW : f_W_classed u (xs (j + 1)) (xs (j + 2)) = some rW) (gM : f_M_classed μ (xs (j + 1)) (xs (j + 2)) = some rM) {H : Heap} {locs : List Loc} {cells slots : Nat} (hcs : cells + rW.2.2.1 ≤ room_1.cells ∧ slots + rW.2.2.2 ≤ room_1.slots) (hP : va_P D vwCl (wX cI cZ cJ a aM bo q qM u μ) H) (hD : va_D A (wX cI cZ cJ a aM bo q qM u μ)) (hS : va_S A s.heap H locs) {ls : Array Slot} (hl : lv_has ls 7 [(0, .ref b), (1, .ref (a 0)), (2, .ref (aM 20)), (3, .ref bo), (4, .int (nI j))])
    (kk : ∀ (H : Heap) (locs : List Loc) (q qM : Nat) (ls : Array Slot), va_P D vwCl (wX cI cZ cJ a aM bo q qM rW.2.1 rM.2) H → va_D A (wX cI cZ cJ a aM bo q qM rW.2.1 rM.2) → va_S A s.heap H locs → lv_has ls 7 [(0, .ref b), (1, .ref (a 0)), (2, .ref (aM 20)), (3, .ref bo), (4, .int (nI j))] → W p l e room_1 s m #[Value.ref b] below meth c H locs (cells + rW.2.2.1) (slots + rW.2.2.2) Q (F0 m 828 ls [])) : W p l e room_1 s m #[Value.ref b] below meth c H locs cells slots Q (F0 m 708 ls []) := by
  obtain ⟨hx, hb, hr, hml, hown, hts, hlk, hK⟩ := id C0
  refine lv_aload_n hx hb d_W_law_708 rfl (lv_at hl 1 rfl) ?_
  refine lw_ld (kn := 1) hx hb hX hbl hbA hS (lv_at hl 0 rfl) (lv_at hl 4 rfl) rfl (by omega) hL d_W_law_709 d_W_law_710 d_W_law_712 d_W_law_713 d_W_law_714 ?_
  refine lw_ld (kn := 2) hx hb hX hbl hbA hS (lv_at hl 0 rfl) (lv_at hl 4 rfl) rfl (by omega) hL d_W_law_715 d_W_law_716 d_W_law_718 d_W_law_719 d_W_law_720 ?_
  refine lv_aload_n hx hb d_W_law_721 rfl (lv_at hl 3 rfl) ?_
  refine hp_S (n := 4) (As := [.ref (a 0), .int (xs (j + 1)), .int (xs (j + 2)), .ref bo]) (rest := []) (Wn := fun q1 => wX cI cZ cJ a aM bo q1 qM rW.2.1 μ) C0 hKO hA hZ (c_W_classed l D cI cZ cJ a hl0 bo q u (xs (j + 1)) (xs (j + 2)) gW) wd_678 wd_676 wd_677 wd_582 (by decide +kernel) ⟨Nat.le_of_ble_eq_true rfl, Nat.le_of_ble_eq_true rfl⟩ hP hD hS [0, 1, 2, 3, 4, 5, 6, 7, 8, 9, 10, 11, 12, 13, 14, 15, 16, 17, 18, 19, 20, 21] [22, 23, 24, 25, 26, 27, 28, 29, 30, 31, 32, 33, 34, 35, 36, 37, 38, 39, 40, 41, 42, 43, 44, 45] [24, 25, 26, 27, 28, 29, 30, 31, 32, 33, 34, 35, 36, 37, 38, 39, 40, 41, 42, 43, 44, 45, 0, 1, 2, 3, 4, 5, 6, 7, 8, 9, 10, 11, 12, 13, 14, 15, 16, 17, 18, 19, 20, 21, 22, 23] jx_C (by decide) jx_R (by decide) (by decide) (by decide) (fun q1 => jx_W q1) hl rfl rfl (Nat.le_of_ble_eq_true rfl) hcs d_W_law_722 (fun H locs q hP hD hS => ?_)
  refine lv_istore (lv' := [(5, .int rW.1), (0, .ref b), (1, .ref (a 0)), (2, .ref (aM 20)), (3, .ref bo), (4, .int (nI j))]) hx hb d_W_law_725 hl (by decide) rfl (fun ls hl => ?_)
  refine lv_aload_n hx hb d_W_law_727 rfl (lv_at hl 3 rfl) ?_
  refine lw_ld (kn := 1) hx hb hX hbl hbA hS (lv_at hl 1 rfl) (lv_at hl 5 rfl) rfl (by omega) hL d_W_law_728 d_W_law_729 d_W_law_731 d_W_law_732 d_W_law_733 ?_
  refine lw_ld (kn := 2) hx hb hX hbl hbA hS (lv_at hl 1 rfl) (lv_at hl 5 rfl) rfl (by omega) hL d_W_law_734 d_W_law_735 d_W_law_737 d_W_law_738 d_W_law_739 ?_
  refine rw_V (n := 2) (ci := 4) (As := [.int (xs (j + 1)), .int (xs (j + 2))]) (rest := []) (w := fun q (σ : StM) => wM cI cZ aM q σ) (Wn := fun q1 => wX cI cZ cJ a aM bo q q1 rW.2.1 rM.2) C0 hA (c_M_classed l D cI cZ aM qM μ (xs (j + 1)) (xs (j + 2)) gM) wd_679 ⟨wd_680, wd_681, wd_682, wd_352⟩ (by decide +kernel) ⟨Nat.le_of_ble_eq_true rfl, Nat.le_of_ble_eq_true rfl⟩ hP hD hS [22, 23, 24, 25, 26, 27, 28, 29, 30, 31, 32, 33, 34, 35, 36, 37, 38, 39, 40, 41, 42, 43, 44, 45] [0, 1, 2, 3, 4, 5, 6, 7, 8, 9, 10, 11, 12, 13, 14, 15, 16, 17, 18, 19, 20, 21] [0, 1, 2, 3, 4, 5, 6, 7, 8, 9, 10, 11, 12, 13, 14, 15, 16, 17, 18, 19, 20, 21, 22, 23, 24, 25, 26, 27, 28, 29, 30, 31, 32, 33, 34, 35, 36, 37, 38, 39, 40, 41, 42, 43, 44, 45] jm_C (by decide) jm_R (by decide) (by decide) (by decide) (fun q1 => jm_W q1) rfl rfl rfl hl rfl rfl (Nat.le_of_ble_eq_true rfl) hcs d_W_law_740 (fun H locs qM hP hD hS => ?_)
  refine lv_istore (lv' := [(6, .int rM.1), (5, .int rW.1), (0, .ref b), (1, .ref (a 0)), (2, .ref (aM 20)), (3, .ref bo), (4, .int (nI j))]) hx hb d_W_law_743 hl (by decide) rfl (fun ls hl => ?_)
  refine lv_goto (tgt := 828) hx hb d_W_law_745 (by decide) ?_
  exact kk H locs q qM ls hP hD hS (lv_sub hl [2, 3, 4, 5, 6] rfl)
-- part 09.44.case14.lean.txt
set_option maxHeartbeats 4000000 in
set_option maxRecDepth 100000 in
theorem lw_case_14 {p : Program} {l : Launch} {e : Env} {s : State} {m : MethodId} {below : List Frame} {meth : Method} {c : Code} {D : va_G} {cI cZ cJ : ClassId} {a aM : Nat → Nat} {A : Nat → Prop} {b L : Nat} {xs : Nat → Int32} {Q : State → Prop} (C0 : Am p s m #[Value.ref b] meth c code ret 7 R_W D [(cI, .int), (cZ, .boolean)]) (hl0 : l.stackTraces = false) (hKO : KO D cI cZ cJ s) (hA : ∀ q, s.heap.size ≤ q → A q) (hZ : Zs A s s.heap) (hX : va_X b L xs s s.heap) (hbl : b < s.heap.size) (hbA : ¬ A b) (hL : L ≤ 2049) {j : Nat} (hj : j + 4 ≤ L) {bo q qM : Nat} {u : StO} {μ : StM} {rW : Int32 × StO × Nat × Nat} {rM : Int32 × StM} (gW : f_W_direct u (xs (j + 1)) (xs (j + 2)) (xs (j + 3)) = some rW) (gM : f_M_direct μ (xs (j + 1)) (xs (j + 2)) (xs (j + 3)) = some rM) {H : Heap} {locs : List Loc} {cells slots : Nat} (hcs : cells + rW.2.2.1 ≤ room_1.cells ∧ slots + rW.2.2.2 ≤ room_1.slots) (hP : va_P D vwCl (wX cI cZ cJ a aM bo q qM u μ) H) (hD : va_D A (wX cI cZ cJ a aM bo q qM u μ)) (hS : va_S A s.heap H locs) {ls : Array Slot} (hl : lv_has ls 7 [(0, .ref b), (1, .ref (a 0)), (2, .ref (aM 20)), (3, .ref bo), (4, .int (nI j))])
    (kk : ∀ (H : Heap) (locs : List Loc) (q qM : Nat) (ls : Array Slot), va_P D vwCl (wX cI cZ cJ a aM bo q qM rW.2.1 rM.2) H → va_D A (wX cI cZ cJ a aM bo q qM rW.2.1 rM.2) → va_S A s.heap H locs → lv_has ls 7 [(0, .ref b), (1, .ref (a 0)), (2, .ref (aM 20)), (3, .ref bo), (4, .int (nI j))] → W p l e room_1 s m #[Value.ref b] below meth c H locs (cells + rW.2.2.1) (slots + rW.2.2.2) Q (F0 m 828 ls [])) : W p l e room_1 s m #[Value.ref b] below meth c H locs cells slots Q (F0 m 748 ls []) := by
  obtain ⟨hx, hb, hr, hml, hown, hts, hlk, hK⟩ := id C0
  refine lv_aload_n hx hb d_W_law_748 rfl (lv_at hl 1 rfl) ?_
  refine lw_ld (kn := 1) hx hb hX hbl hbA hS (lv_at hl 0 rfl) (lv_at hl 4 rfl) rfl (by omega) hL d_W_law_749 d_W_law_750 d_W_law_752 d_W_law_753 d_W_law_754 ?_
  refine lw_ld (kn := 2) hx hb hX hbl hbA hS (lv_at hl 0 rfl) (lv_at hl 4 rfl) rfl (by omega) hL d_W_law_755 d_W_law_756 d_W_law_758 d_W_law_759 d_W_law_760 ?_
  refine lw_ld (kn := 3) hx hb hX hbl hbA hS (lv_at hl 0 rfl) (lv_at hl 4 rfl) rfl (by omega) hL d_W_law_761 d_W_law_762 d_W_law_764 d_W_law_765 d_W_law_766 ?_
  refine lv_aload_n hx hb d_W_law_767 rfl (lv_at hl 3 rfl) ?_
  refine hp_S (n := 5) (As := [.ref (a 0), .int (xs (j + 1)), .int (xs (j + 2)), .int (xs (j + 3)), .ref bo]) (rest := []) (Wn := fun q1 => wX cI cZ cJ a aM bo q1 qM rW.2.1 μ) C0 hKO hA hZ (c_W_direct l D cI cZ cJ a hl0 bo q u (xs (j + 1)) (xs (j + 2)) (xs (j + 3)) gW) wd_685 wd_683 wd_684 wd_582 (by decide +kernel) ⟨Nat.le_of_ble_eq_true rfl, Nat.le_of_ble_eq_true rfl⟩ hP hD hS [0, 1, 2, 3, 4, 5, 6, 7, 8, 9, 10, 11, 12, 13, 14, 15, 16, 17, 18, 19, 20, 21] [22, 23, 24, 25, 26, 27, 28, 29, 30, 31, 32, 33, 34, 35, 36, 37, 38, 39, 40, 41, 42, 43, 44, 45] [24, 25, 26, 27, 28, 29, 30, 31, 32, 33, 34, 35, 36, 37, 38, 39, 40, 41, 42, 43, 44, 45, 0, 1, 2, 3, 4, 5, 6, 7, 8, 9, 10, 11, 12, 13, 14, 15, 16, 17, 18, 19, 20, 21, 22, 23] jx_C (by decide) jx_R (by decide) (by decide) (by decide) (fun q1 => jx_W q1) hl rfl rfl (Nat.le_of_ble_eq_true rfl) hcs d_W_law_768 (fun H locs q hP hD hS => ?_)
  refine lv_istore (lv' := [(5, .int rW.1), (0, .ref b), (1, .ref (a 0)), (2, .ref (aM 20)), (3, .ref bo), (4, .int (nI j))]) hx hb d_W_law_771 hl (by decide) rfl (fun ls hl => ?_)
  refine lv_aload_n hx hb d_W_law_773 rfl (lv_at hl 3 rfl) ?_
  refine lw_ld (kn := 1) hx hb hX hbl hbA hS (lv_at hl 1 rfl) (lv_at hl 5 rfl) rfl (by omega) hL d_W_law_774 d_W_law_775 d_W_law_777 d_W_law_778 d_W_law_779 ?_
  refine lw_ld (kn := 2) hx hb hX hbl hbA hS (lv_at hl 1 rfl) (lv_at hl 5 rfl) rfl (by omega) hL d_W_law_780 d_W_law_781 d_W_law_783 d_W_law_784 d_W_law_785 ?_
  refine lw_ld (kn := 3) hx hb hX hbl hbA hS (lv_at hl 1 rfl) (lv_at hl 5 rfl) rfl (by omega) hL d_W_law_786 d_W_law_787 d_W_law_789 d_W_law_790 d_W_law_791 ?_
  refine rw_V (n := 3) (ci := 4) (As := [.int (xs (j + 1)), .int (xs (j + 2)), .int (xs (j + 3))]) (rest := []) (w := fun q (σ : StM) => wM cI cZ aM q σ) (Wn := fun q1 => wX cI cZ cJ a aM bo q q1 rW.2.1 rM.2) C0 hA (c_M_direct l D cI cZ aM qM μ (xs (j + 1)) (xs (j + 2)) (xs (j + 3)) gM) wd_686 ⟨wd_687, wd_688, wd_689, wd_352⟩ (by decide +kernel) ⟨Nat.le_of_ble_eq_true rfl, Nat.le_of_ble_eq_true rfl⟩ hP hD hS [22, 23, 24, 25, 26, 27, 28, 29, 30, 31, 32, 33, 34, 35, 36, 37, 38, 39, 40, 41, 42, 43, 44, 45] [0, 1, 2, 3, 4, 5, 6, 7, 8, 9, 10, 11, 12, 13, 14, 15, 16, 17, 18, 19, 20, 21] [0, 1, 2, 3, 4, 5, 6, 7, 8, 9, 10, 11, 12, 13, 14, 15, 16, 17, 18, 19, 20, 21, 22, 23, 24, 25, 26, 27, 28, 29, 30, 31, 32, 33, 34, 35, 36, 37, 38, 39, 40, 41, 42, 43, 44, 45] jm_C (by decide) jm_R (by decide) (by decide) (by decide) (fun q1 => jm_W q1) rfl rfl rfl hl rfl rfl (Nat.le_of_ble_eq_true rfl) hcs d_W_law_792 (fun H locs qM hP hD hS => ?_)
  refine lv_istore (lv' := [(6, .int rM.1), (5, .int rW.1), (0, .ref b), (1, .ref (a 0)), (2, .ref (aM 20)), (3, .ref bo), (4, .int (nI j))]) hx hb d_W_law_795 hl (by decide) rfl (fun ls hl => ?_)
  refine lv_goto (tgt := 828) hx hb d_W_law_797 (by decide) ?_
  exact kk H locs q qM ls hP hD hS (lv_sub hl [2, 3, 4, 5, 6] rfl)
-- part 09.44.case15.lean.txt
set_option maxHeartbeats 4000000 in
set_option maxRecDepth 100000 in
theorem lw_case_15 {p : Program} {l : Launch} {e : Env} {s : State} {m : MethodId} {below : List Frame} {meth : Method} {c : Code} {D : va_G} {cI cZ cJ : ClassId} {a aM : Nat → Nat} {A : Nat → Prop} {b L : Nat} {xs : Nat → Int32} {Q : State → Prop} (C0 : Am p s m #[Value.ref b] meth c code ret 7 R_W D [(cI, .int), (cZ, .boolean)]) (hl0 : l.stackTraces = false) (hKO : KO D cI cZ cJ s) (hA : ∀ q, s.heap.size ≤ q → A q) (hZ : Zs A s s.heap) (hX : va_X b L xs s s.heap) (hbl : b < s.heap.size) (hbA : ¬ A b) (hL : L ≤ 2049) {j : Nat} (hj : j + 4 ≤ L) {bo q qM : Nat} {u : StO} {μ : StM} {rW : Int32 × StO × Nat × Nat} {rM : Int32 × StM} (gW : f_W_told u (xs (j + 1)) = some rW) (gM : f_M_told μ (xs (j + 1)) = some rM) {H : Heap} {locs : List Loc} {cells slots : Nat} (hcs : cells + rW.2.2.1 ≤ room_1.cells ∧ slots + rW.2.2.2 ≤ room_1.slots) (hP : va_P D vwCl (wX cI cZ cJ a aM bo q qM u μ) H) (hD : va_D A (wX cI cZ cJ a aM bo q qM u μ)) (hS : va_S A s.heap H locs) {ls : Array Slot} (hl : lv_has ls 7 [(0, .ref b), (1, .ref (a 0)), (2, .ref (aM 20)), (3, .ref bo), (4, .int (nI j))])
    (kk : ∀ (H : Heap) (locs : List Loc) (q qM : Nat) (ls : Array Slot), va_P D vwCl (wX cI cZ cJ a aM bo q qM rW.2.1 rM.2) H → va_D A (wX cI cZ cJ a aM bo q qM rW.2.1 rM.2) → va_S A s.heap H locs → lv_has ls 7 [(0, .ref b), (1, .ref (a 0)), (2, .ref (aM 20)), (3, .ref bo), (4, .int (nI j))] → W p l e room_1 s m #[Value.ref b] below meth c H locs (cells + rW.2.2.1) (slots + rW.2.2.2) Q (F0 m 828 ls [])) : W p l e room_1 s m #[Value.ref b] below meth c H locs cells slots Q (F0 m 800 ls []) := by
  obtain ⟨hx, hb, hr, hml, hown, hts, hlk, hK⟩ := id C0
  refine lv_aload_n hx hb d_W_law_800 rfl (lv_at hl 1 rfl) ?_
  refine lw_ld (kn := 1) hx hb hX hbl hbA hS (lv_at hl 0 rfl) (lv_at hl 4 rfl) rfl (by omega) hL d_W_law_801 d_W_law_802 d_W_law_804 d_W_law_805 d_W_law_806 ?_
  refine lv_aload_n hx hb d_W_law_807 rfl (lv_at hl 3 rfl) ?_
  refine hp_S (n := 3) (As := [.ref (a 0), .int (xs (j + 1)), .ref bo]) (rest := []) (Wn := fun q1 => wX cI cZ cJ a aM bo q1 qM rW.2.1 μ) C0 hKO hA hZ (c_W_told l D cI cZ cJ a hl0 bo q u (xs (j + 1)) gW) wd_692 wd_690 wd_691 wd_582 (by decide +kernel) ⟨Nat.le_of_ble_eq_true rfl, Nat.le_of_ble_eq_true rfl⟩ hP hD hS [0, 1, 2, 3, 4, 5, 6, 7, 8, 9, 10, 11, 12, 13, 14, 15, 16, 17, 18, 19, 20, 21] [22, 23, 24, 25, 26, 27, 28, 29, 30, 31, 32, 33, 34, 35, 36, 37, 38, 39, 40, 41, 42, 43, 44, 45] [24, 25, 26, 27, 28, 29, 30, 31, 32, 33, 34, 35, 36, 37, 38, 39, 40, 41, 42, 43, 44, 45, 0, 1, 2, 3, 4, 5, 6, 7, 8, 9, 10, 11, 12, 13, 14, 15, 16, 17, 18, 19, 20, 21, 22, 23] jx_C (by decide) jx_R (by decide) (by decide) (by decide) (fun q1 => jx_W q1) hl rfl rfl (Nat.le_of_ble_eq_true rfl) hcs d_W_law_808 (fun H locs q hP hD hS => ?_)
  refine lv_istore (lv' := [(5, .int rW.1), (0, .ref b), (1, .ref (a 0)), (2, .ref (aM 20)), (3, .ref bo), (4, .int (nI j))]) hx hb d_W_law_811 hl (by decide) rfl (fun ls hl => ?_)
  refine lv_aload_n hx hb d_W_law_813 rfl (lv_at hl 3 rfl) ?_
  refine lw_ld (kn := 1) hx hb hX hbl hbA hS (lv_at hl 1 rfl) (lv_at hl 5 rfl) rfl (by omega) hL d_W_law_814 d_W_law_815 d_W_law_817 d_W_law_818 d_W_law_819 ?_
  refine rw_V (n := 1) (ci := 4) (As := [.int (xs (j + 1))]) (rest := []) (w := fun q (σ : StM) => wM cI cZ aM q σ) (Wn := fun q1 => wX cI cZ cJ a aM bo q q1 rW.2.1 rM.2) C0 hA (c_M_told l D cI cZ aM qM μ (xs (j + 1)) gM) wd_693 ⟨wd_694, wd_695, wd_696, wd_352⟩ (by decide +kernel) ⟨Nat.le_of_ble_eq_true rfl, Nat.le_of_ble_eq_true rfl⟩ hP hD hS [22, 23, 24, 25, 26, 27, 28, 29, 30, 31, 32, 33, 34, 35, 36, 37, 38, 39, 40, 41, 42, 43, 44, 45] [0, 1, 2, 3, 4, 5, 6, 7, 8, 9, 10, 11, 12, 13, 14, 15, 16, 17, 18, 19, 20, 21] [0, 1, 2, 3, 4, 5, 6, 7, 8, 9, 10, 11, 12, 13, 14, 15, 16, 17, 18, 19, 20, 21, 22, 23, 24, 25, 26, 27, 28, 29, 30, 31, 32, 33, 34, 35, 36, 37, 38, 39, 40, 41, 42, 43, 44, 45] jm_C (by decide) jm_R (by decide) (by decide) (by decide) (fun q1 => jm_W q1) rfl rfl rfl hl rfl rfl (Nat.le_of_ble_eq_true rfl) hcs d_W_law_820 (fun H locs qM hP hD hS => ?_)
  refine lv_istore (lv' := [(6, .int rM.1), (5, .int rW.1), (0, .ref b), (1, .ref (a 0)), (2, .ref (aM 20)), (3, .ref bo), (4, .int (nI j))]) hx hb d_W_law_823 hl (by decide) rfl (fun ls hl => ?_)
  refine lv_goto (tgt := 828) hx hb d_W_law_825 (by decide) ?_
  exact kk H locs q qM ls hP hD hS (lv_sub hl [2, 3, 4, 5, 6] rfl)
-- part 09.45.answers.lean.txt
/-! The law's own methods answer. -/
def kWq (u : StO) (n g d : Nat) (r : Int32 × StO × Nat × Nat) : Prop := kL r.2.1.1 n g d ∧ r.2.2.1 + (T_parts (L_types u.1)).1 ≤ 1 + (T_parts (L_types r.2.1.1)).1 ∧ r.2.2.2 + 2 * (T_parts (L_types u.1)).1 ≤ 6 + 2 * (T_parts (L_types r.2.1.1)).1
theorem s_W_above {u : StO} {n g d : Nat} (h : kL u.1 n g d) (x1 x2 : Int32) : k_ok (f_W_above u x1 x2) (kWq u n g d) := by
  unfold f_W_above
  refine k_bind (s_L_above h x1 x2) ?_
  rintro ⟨v, τ, K, N⟩ ⟨he, hk, h1, h2⟩
  cases v with
  | inl v => exact k_some ⟨hk, h1, h2⟩
  | inr k =>
    have hm := he k rfl
    simp only [List.mem_cons, List.not_mem_nil, or_false] at hm
    rcases hm with rfl | rfl | rfl
    · exact ⟨_, rfl, hk, h1, h2⟩
    · exact ⟨_, rfl, hk, h1, h2⟩
    · exact ⟨_, rfl, hk, h1, h2⟩
theorem s_W_named {u : StO} {n g d : Nat} (h : kL u.1 n g d) (x1 x2 x3 : Int32) : k_ok (f_W_named u x1 x2 x3) (kWq u n g d) := by
  unfold f_W_named
  refine k_bind (s_L_named h x1 x2 x3) ?_
  rintro ⟨v, τ, K, N⟩ ⟨he, hk, h1, h2⟩
  cases v with
  | inl v => exact k_some ⟨hk, h1, h2⟩
  | inr k =>
    have hm := he k rfl
    simp only [List.mem_cons, List.not_mem_nil, or_false] at hm
    rcases hm with rfl | rfl | rfl
    · exact ⟨_, rfl, hk, h1, h2⟩
    · exact ⟨_, rfl, hk, h1, h2⟩
    · exact ⟨_, rfl, hk, h1, h2⟩
theorem s_W_array {u : StO} {n g d : Nat} (h : kL u.1 n g d) (x1 : Int32) : k_ok (f_W_array u x1) (kWq u n g d) := by
  unfold f_W_array
  refine k_bind (s_L_array h x1) ?_
  rintro ⟨v, τ, K, N⟩ ⟨he, hk, h1, h2⟩
  cases v with
  | inl v => exact k_some ⟨hk, h1, h2⟩
  | inr k =>
    have hm := he k rfl
    simp only [List.mem_cons, List.not_mem_nil, or_false] at hm
    rcases hm with rfl | rfl
    · exact ⟨_, rfl, hk, h1, h2⟩
    · exact ⟨_, rfl, hk, h1, h2⟩
theorem s_W_upper {u : StO} {n g d : Nat} (h : kL u.1 n g d) (x1 x2 : Int32) : k_ok (f_W_upper u x1 x2) (kWq u n g d) := by
  unfold f_W_upper
  refine k_bind (s_L_upper h x1 x2) ?_
  rintro ⟨v, τ, K, N⟩ ⟨he, hk, h1, h2⟩
  cases v with
  | inl v => exact k_some ⟨hk, h1, h2⟩
  | inr k =>
    have hm := he k rfl
    simp only [List.mem_cons, List.not_mem_nil, or_false] at hm
    rcases hm with rfl | rfl
    · exact ⟨_, rfl, hk, h1, h2⟩
    · exact ⟨_, rfl, hk, h1, h2⟩
theorem s_W_lower {u : StO} {n g d : Nat} (h : kL u.1 n g d) (x1 x2 : Int32) : k_ok (f_W_lower u x1 x2) (kWq u n g d) := by
  unfold f_W_lower
  refine k_bind (s_L_lower h x1 x2) ?_
  rintro ⟨v, τ, K, N⟩ ⟨he, hk, h1, h2⟩
  cases v with
  | inl v => exact k_some ⟨hk, h1, h2⟩
  | inr k =>
    have hm := he k rfl
    simp only [List.mem_cons, List.not_mem_nil, or_false] at hm
    rcases hm with rfl | rfl
    · exact ⟨_, rfl, hk, h1, h2⟩
    · exact ⟨_, rfl, hk, h1, h2⟩
theorem s_W_isBelow {u : StO} {n g d : Nat} (h : kL u.1 n g d) (x1 x2 : Int32) : k_ok (f_W_isBelow u x1 x2) (kWq u n g d) := by
  unfold f_W_isBelow
  refine k_bind (s_L_isBelow h x1 x2) ?_
  rintro ⟨v, τ, K, N⟩ ⟨he, hk, h1, h2⟩
  cases v with
  | inl v => exact k_some ⟨hk, h1, h2⟩
  | inr k =>
    have hm := he k rfl
    simp only [List.mem_cons, List.not_mem_nil, or_false] at hm
    subst hm
    exact ⟨_, rfl, hk, h1, h2⟩
theorem s_W_look {u : StO} {n g d : Nat} (h : kL u.1 n g d) (x1 x2 : Int32) : k_ok (f_W_look u x1 x2) (kWq u n g d) := by
  unfold f_W_look
  refine k_bind (s_L_look h x1 x2) ?_
  rintro ⟨v, τ, K, N⟩ ⟨he, hk, h1, h2⟩
  cases v with
  | inl v => exact k_some ⟨hk, h1, h2⟩
  | inr k =>
    have hm := he k rfl
    simp only [List.mem_cons, List.not_mem_nil, or_false] at hm
    rcases hm with rfl | rfl
    · exact ⟨_, rfl, hk, h1, h2⟩
    · exact ⟨_, rfl, hk, h1, h2⟩
theorem s_W_box {u : StO} {n g d : Nat} (h : kL u.1 n g d) (x1 : Int32) : k_ok (f_W_box u x1) (kWq u n g d) := by
  unfold f_W_box
  refine k_bind (s_L_box h x1) ?_
  rintro ⟨v, τ, K, N⟩ ⟨he, hk, h1, h2⟩
  cases v with
  | inl v => exact k_some ⟨hk, h1, h2⟩
  | inr k =>
    have hm := he k rfl
    simp only [List.mem_cons, List.not_mem_nil, or_false] at hm
    subst hm
    exact ⟨_, rfl, hk, h1, h2⟩
theorem s_W_type {u : StO} {n g d : Nat} (h : kL u.1 n g d) (x1 x2 : Int32) : k_ok (f_W_type u x1 x2) (kWq u n g d) := by
  unfold f_W_type
  refine k_bind (s_L_type h x1 x2) ?_
  rintro ⟨v, τ, K, N⟩ ⟨he, hk, h1, h2⟩
  cases v with
  | inl v => exact k_some ⟨hk, h1, h2⟩
  | inr k =>
    have hm := he k rfl
    simp only [List.mem_cons, List.not_mem_nil, or_false] at hm
    rcases hm with rfl | rfl
    · exact ⟨_, rfl, hk, h1, h2⟩
    · exact ⟨_, rfl, hk, h1, h2⟩
theorem s_W_part {u : StO} {n g d : Nat} (h : kL u.1 n g d) (x1 x2 : Int32) : k_ok (f_W_part u x1 x2) (kWq u n g d) := by
  unfold f_W_part
  refine k_bind (s_L_part h x1 x2) ?_
  rintro ⟨v, τ, K, N⟩ ⟨he, hk, h1, h2⟩
  cases v with
  | inl v => exact k_some ⟨hk, h1, h2⟩
  | inr k =>
    have hm := he k rfl
    simp only [List.mem_cons, List.not_mem_nil, or_false] at hm
    subst hm
    exact ⟨_, rfl, hk, h1, h2⟩
theorem s_W_common {u : StO} {n g d : Nat} (h : kL u.1 n g d) (x1 x2 x3 : Int32) : k_ok (f_W_common u x1 x2 x3) (kWq u n g d) := by
  unfold f_W_common
  refine k_bind (s_L_common h x1 x2 x3) ?_
  rintro ⟨v, τ, K, N⟩ ⟨he, hk, h1, h2⟩
  cases v with
  | inl v => exact k_some ⟨hk, h1, h2⟩
  | inr k =>
    have hm := he k rfl
    simp only [List.mem_cons, List.not_mem_nil, or_false] at hm
    rcases hm with rfl | rfl
    · exact ⟨_, rfl, hk, h1, h2⟩
    · exact ⟨_, rfl, hk, h1, h2⟩
theorem s_W_isUnder {u : StO} {n g d : Nat} (h : kL u.1 n g d) (x1 x2 : Int32) : k_ok (f_W_isUnder u x1 x2) (kWq u n g d) := by
  unfold f_W_isUnder
  refine k_bind (s_L_isUnder h x1 x2) ?_
  rintro ⟨v, τ, K, N⟩ ⟨he, hk, h1, h2⟩
  cases v with
  | inl v => exact k_some ⟨hk, h1, h2⟩
  | inr k =>
    have hm := he k rfl
    simp only [List.mem_cons, List.not_mem_nil, or_false] at hm
    subst hm
    exact ⟨_, rfl, hk, h1, h2⟩
theorem s_W_classed {u : StO} {n g d : Nat} (h : kL u.1 n g d) (x1 x2 : Int32) : k_ok (f_W_classed u x1 x2) (kWq u n g d) := by
  unfold f_W_classed
  refine k_bind (s_L_classed h x1 x2) ?_
  rintro ⟨v, τ, K, N⟩ ⟨he, hk, h1, h2⟩
  cases v with
  | inl v => exact k_some ⟨hk, h1, h2⟩
  | inr k =>
    have hm := he k rfl
    simp only [List.mem_cons, List.not_mem_nil, or_false] at hm
    rcases hm with rfl | rfl
    · exact ⟨_, rfl, hk, h1, h2⟩
    · exact ⟨_, rfl, hk, h1, h2⟩
theorem s_W_direct {u : StO} {n g d : Nat} (h : kL u.1 n g d) (x1 x2 x3 : Int32) : k_ok (f_W_direct u x1 x2 x3) (kWq u n g d) := by
  unfold f_W_direct
  refine k_bind (s_L_direct h x1 x2 x3) ?_
  rintro ⟨v, τ, K, N⟩ ⟨he, hk, h1, h2⟩
  cases v with
  | inl v => exact k_some ⟨hk, h1, h2⟩
  | inr k =>
    have hm := he k rfl
    simp only [List.mem_cons, List.not_mem_nil, or_false] at hm
    rcases hm with rfl | rfl
    · exact ⟨_, rfl, hk, h1, h2⟩
    · exact ⟨_, rfl, hk, h1, h2⟩
theorem s_W_told {u : StO} {n g d : Nat} (h : kL u.1 n g d) (x1 : Int32) : k_ok (f_W_told u x1) (kWq u n g d) := by
  unfold f_W_told
  refine k_bind (s_L_told h x1) ?_
  rintro ⟨v, τ, K, N⟩ ⟨he, hk, h1, h2⟩
  cases v with
  | inl v => exact k_some ⟨hk, h1, h2⟩
  | inr k =>
    have hm := he k rfl
    simp only [List.mem_cons, List.not_mem_nil, or_false] at hm
    subst hm
    exact ⟨_, rfl, hk, h1, h2⟩
-- part 09.4515.decl.lean.txt
theorem s_decl {u : StO} {μ : StM} {n g d t : Nat} (hL : kL u.1 n g d) (hM : kN μ n g d t) (x1 : Int32) {x2 : Int32} (h2 : x2 = 0 ∨ x2 = 1) :
    ∃ (rW : Int32 × StO × Nat × Nat) (rM : Int32 × StM) (n' g' t' : Nat), f_W_declare u x1 x2 = some rW ∧ f_M_declare μ x1 x2 = some rM ∧ (kL rW.2.1.1 n' g' d ∧ rW.2.2.1 + (T_parts (L_types u.1)).1 ≤ 1 + (T_parts (L_types rW.2.1.1)).1 ∧ rW.2.2.2 + 2 * (T_parts (L_types u.1)).1 ≤ 6 + 2 * (T_parts (L_types rW.2.1.1)).1) ∧ kN rM.2 n' g' d t' ∧ f_M_thrown rM.2 = rW.1 ∧ (rW.1 = 0 → rW.2.1.2 0 = rM.1.toInt64) := by
  obtain ⟨r, er, r1, r2⟩ := s_L_declare hL x1 x2
  obtain ⟨q, eq, q1, q2⟩ := s_M_declare hM (x1 := x1) h2
  by_cases hc : n = 30 ∨ (¬ x2 = 0 ∧ 6 ≤ g)
  · have r3 := r1 hc
    obtain ⟨q3, q4⟩ := q1 hc
    refine ⟨(1, (u.1, u.2), 1, 6), q, n, g, t, ?_, eq, ⟨hL, ?_, ?_⟩, q4, q3, fun z => absurd z k_10⟩
    · unfold f_W_declare
      rw [er, r3]; rfl
    · show 1 + (T_parts (L_types u.1)).1 ≤ 1 + (T_parts (L_types u.1)).1
      omega
    · show 6 + 2 * (T_parts (L_types u.1)).1 ≤ 6 + 2 * (T_parts (L_types u.1)).1
      omega
  · obtain ⟨e1, e2, e3, e4⟩ := r2 hc
    obtain ⟨q3, q4, q5⟩ := q2 hc
    obtain ⟨v, τ, K, N⟩ := r
    replace e1 : v = .inl (nI n) := e1
    replace e3 : L_types τ = L_types u.1 := e3
    replace e4 : (K, N) = ((0, 0) : Nat × Nat) := e4
    subst e1
    cases e4
    refine ⟨(0, (τ, vp_updL u.2 0 (nI n).toInt64), 0, 0), q, _, _, t, ?_, eq, ⟨e2, ?_, ?_⟩, q5, q3, fun _ => ?_⟩
    · unfold f_W_declare
      rw [er]; rfl
    · show 0 + (T_parts (L_types u.1)).1 ≤ 1 + (T_parts (L_types τ)).1
      rw [e3]; omega
    · show 0 + 2 * (T_parts (L_types u.1)).1 ≤ 6 + 2 * (T_parts (L_types τ)).1
      rw [e3]; omega
    · show vp_updL u.2 0 (nI n).toInt64 0 = q.1.toInt64
      rw [q4]; simp [vp_updL]
theorem lw_b01 (y : Int32) : (if y = 0 then (0 : Int32) else 1) = 0 ∨ (if y = 0 then (0 : Int32) else 1) = 1 := by
  by_cases h : y = 0
  · exact Or.inl (if_pos h)
  · exact Or.inr (if_neg h)
theorem lw_len {σ : StL} {n g d : Nat} (h : kL σ n g d) : 64 ≤ (T_parts (L_types σ)).1 ∧ (T_parts (L_types σ)).1 ≤ 60000 := by
  obtain ⟨t, ht⟩ := h.2.2.2
  exact ht.2.2.2.2.2
-- part 09.452.join.lean.txt
/-! Tier 2 and tier 3 joined, for each call of the law. -/
theorem lw_b2 (y : Int32) : ∃ f, (if y = 0 then (0 : Int32) else 1) = b2 f := by
  by_cases h : y = 0
  · exact ⟨false, if_pos h⟩
  · exact ⟨true, if_neg h⟩
theorem s_X_declare {u : StO} {μ : StM} {n g d t : Nat} {C : wWc} {gC : Nat} {T : wWt} (hL : kL u.1 n g d) (hM : kN μ n g d t) (hW : RW C gC T d) (rl : RL u.1 C gC T d) (rm : RM μ C gC T d) {x1 x2 : Int32} (h1 : ∃ f, x1 = b2 f) (h2 : ∃ f, x2 = b2 f) :
    ∃ (rW : Int32 × StO × Nat × Nat) (rM : Int32 × StM) (n' g' t' : Nat) (C' : wWc) (gC' : Nat) (T' : wWt), f_W_declare u x1 x2 = some rW ∧ f_M_declare μ x1 x2 = some rM ∧ (kL rW.2.1.1 n' g' d ∧ rW.2.2.1 + (T_parts (L_types u.1)).1 ≤ 1 + (T_parts (L_types rW.2.1.1)).1 ∧ rW.2.2.2 + 2 * (T_parts (L_types u.1)).1 ≤ 6 + 2 * (T_parts (L_types rW.2.1.1)).1) ∧ kN rM.2 n' g' d t' ∧ (RW C' gC' T' d ∧ RL rW.2.1.1 C' gC' T' d ∧ RM rM.2 C' gC' T' d) ∧ f_M_thrown rM.2 = rW.1 ∧ (rW.1 = 0 → rW.2.1.2 0 = rM.1.toInt64) := by
  obtain ⟨f1, e1⟩ := h1
  obtain ⟨f2, e2⟩ := h2
  have h2' : x2 = 0 ∨ x2 = 1 := by
    rw [e2]
    cases f2
    · exact Or.inl rfl
    · exact Or.inr rfl
  obtain ⟨rW, rM, n', g', t', gW, gM, w1, w4, w5, w6⟩ := s_decl hL hM x1 h2'
  obtain ⟨o, C', gC', T', q1, q2, q3⟩ := R_declare hW rl rm e1 e2
  obtain ⟨_, q5⟩ := q3 rM gM
  refine ⟨rW, rM, n', g', t', C', gC', T', gW, gM, w1, w4, ⟨q1, ?_, q5⟩, w5, w6⟩
  have gW' := gW
  unfold f_W_declare at gW'
  cases eL : f_L_declare u.1 x1 x2 with
  | none => rw [eL] at gW'; cases gW'
  | some r =>
    obtain ⟨_, q7⟩ := q2 r eL
    rw [eL] at gW'
    obtain ⟨v, τ, K, N⟩ := r
    cases v with
    | inl v =>
      replace gW' : some ((0 : Int32), (τ, vp_updL u.2 0 v.toInt64), K, N) = some rW := gW'
      injection gW' with gW'
      subst gW'
      exact q7
    | inr k =>
      replace gW' : (if k = 2 then some ((1 : Int32), (τ, u.2), K, N) else none) = some rW := gW'
      by_cases z : k = 2
      · rw [if_pos z] at gW'
        injection gW' with gW'
        subst gW'
        exact q7
      · rw [if_neg z] at gW'; cases gW'
theorem s_X_above {u : StO} {μ : StM} {n g d t : Nat} {C : wWc} {gC : Nat} {T : wWt} (hL : kL u.1 n g d) (hM : kN μ n g d t) (hW : RW C gC T d) (rl : RL u.1 C gC T d) (rm : RM μ C gC T d) (x1 x2 : Int32) :
    ∃ (rW : Int32 × StO × Nat × Nat) (rM : Int32 × StM) (n' g' t' : Nat) (C' : wWc) (gC' : Nat) (T' : wWt), f_W_above u x1 x2 = some rW ∧ f_M_above μ x1 x2 = some rM ∧ (kL rW.2.1.1 n' g' d ∧ rW.2.2.1 + (T_parts (L_types u.1)).1 ≤ 1 + (T_parts (L_types rW.2.1.1)).1 ∧ rW.2.2.2 + 2 * (T_parts (L_types u.1)).1 ≤ 6 + 2 * (T_parts (L_types rW.2.1.1)).1) ∧ kN rM.2 n' g' d t' ∧ (RW C' gC' T' d ∧ RL rW.2.1.1 C' gC' T' d ∧ RM rM.2 C' gC' T' d) ∧ f_M_thrown rM.2 = rW.1 ∧ (rW.1 = 0 → rW.2.1.2 0 = rM.1.toInt64) := by
  obtain ⟨rW, gW, w1, w2, w3⟩ := s_W_above hL x1 x2
  obtain ⟨rM, gM, t', w4⟩ := s_M_above hM x1 x2
  obtain ⟨o, C', gC', T', q1, q2, q3⟩ := R_above hW rl rm x1 x2
  obtain ⟨q4, q5⟩ := q3 rM gM
  suffices key : RL rW.2.1.1 C' gC' T' d ∧ f_M_thrown rM.2 = rW.1 ∧ (rW.1 = 0 → rW.2.1.2 0 = rM.1.toInt64) from
    ⟨rW, rM, n, g, t', C', gC', T', gW, gM, ⟨w1, w2, w3⟩, w4, ⟨q1, key.1, q5⟩, key.2⟩
  have gW' := gW
  unfold f_W_above at gW'
  cases eL : f_L_above u.1 x1 x2 with
  | none => rw [eL] at gW'; cases gW'
  | some r =>
    obtain ⟨q6, q7⟩ := q2 r eL
    rw [eL] at gW'
    obtain ⟨v, τ, K, N⟩ := r
    replace q6 : v = o := q6
    subst q6
    cases v with
    | inl v =>
      obtain ⟨q8, q9⟩ := q4
      replace q9 : rM.1 = v := q9
      replace gW' : some ((0 : Int32), (τ, vp_updL u.2 0 v.toInt64), K, N) = some rW := gW'
      injection gW' with gW'
      subst gW'
      refine ⟨q7, q8, fun _ => ?_⟩
      show vp_updL u.2 0 v.toInt64 0 = rM.1.toInt64
      rw [q9]; simp [vp_updL]
    | inr k =>
      replace gW' : (if k = 1 then some ((1 : Int32), (τ, u.2), K, N) else if k = 2 then some ((2 : Int32), (τ, u.2), K, N) else if k = 3 then some ((3 : Int32), (τ, u.2), K, N) else none) = some rW := gW'
      by_cases z1 : k = 1
      · subst z1
        rw [if_pos rfl] at gW'
        injection gW' with gW'
        subst gW'
        exact ⟨q7, q4, fun z => absurd z (show ¬ (1 : Int32) = 0 by decide)⟩
      rw [if_neg z1] at gW'
      by_cases z2 : k = 2
      · subst z2
        rw [if_pos rfl] at gW'
        injection gW' with gW'
        subst gW'
        exact ⟨q7, q4, fun z => absurd z (show ¬ (2 : Int32) = 0 by decide)⟩
      rw [if_neg z2] at gW'
      by_cases z3 : k = 3
      · subst z3
        rw [if_pos rfl] at gW'
        injection gW' with gW'
        subst gW'
        exact ⟨q7, q4, fun z => absurd z (show ¬ (3 : Int32) = 0 by decide)⟩
      rw [if_neg z3] at gW'
      cases gW'
theorem s_X_named {u : StO} {μ : StM} {n g d t : Nat} {C : wWc} {gC : Nat} {T : wWt} (hL : kL u.1 n g d) (hM : kN μ n g d t) (hW : RW C gC T d) (rl : RL u.1 C gC T d) (rm : RM μ C gC T d) (x1 x2 x3 : Int32) :
    ∃ (rW : Int32 × StO × Nat × Nat) (rM : Int32 × StM) (n' g' t' : Nat) (C' : wWc) (gC' : Nat) (T' : wWt), f_W_named u x1 x2 x3 = some rW ∧ f_M_named μ x1 x2 x3 = some rM ∧ (kL rW.2.1.1 n' g' d ∧ rW.2.2.1 + (T_parts (L_types u.1)).1 ≤ 1 + (T_parts (L_types rW.2.1.1)).1 ∧ rW.2.2.2 + 2 * (T_parts (L_types u.1)).1 ≤ 6 + 2 * (T_parts (L_types rW.2.1.1)).1) ∧ kN rM.2 n' g' d t' ∧ (RW C' gC' T' d ∧ RL rW.2.1.1 C' gC' T' d ∧ RM rM.2 C' gC' T' d) ∧ f_M_thrown rM.2 = rW.1 ∧ (rW.1 = 0 → rW.2.1.2 0 = rM.1.toInt64) := by
  obtain ⟨rW, gW, w1, w2, w3⟩ := s_W_named hL x1 x2 x3
  obtain ⟨rM, gM, t', w4⟩ := s_M_named hM x1 x2 x3
  obtain ⟨o, C', gC', T', q1, q2, q3⟩ := R_named hW rl rm x1 x2 x3
  obtain ⟨q4, q5⟩ := q3 rM gM
  suffices key : RL rW.2.1.1 C' gC' T' d ∧ f_M_thrown rM.2 = rW.1 ∧ (rW.1 = 0 → rW.2.1.2 0 = rM.1.toInt64) from
    ⟨rW, rM, n, g, t', C', gC', T', gW, gM, ⟨w1, w2, w3⟩, w4, ⟨q1, key.1, q5⟩, key.2⟩
  have gW' := gW
  unfold f_W_named at gW'
  cases eL : f_L_named u.1 x1 x2 x3 with
  | none => rw [eL] at gW'; cases gW'
  | some r =>
    obtain ⟨q6, q7⟩ := q2 r eL
    rw [eL] at gW'
    obtain ⟨v, τ, K, N⟩ := r
    replace q6 : v = o := q6
    subst q6
    cases v with
    | inl v =>
      obtain ⟨q8, q9⟩ := q4
      replace q9 : rM.1 = v := q9
      replace gW' : some ((0 : Int32), (τ, vp_updL u.2 0 v.toInt64), K, N) = some rW := gW'
      injection gW' with gW'
      subst gW'
      refine ⟨q7, q8, fun _ => ?_⟩
      show vp_updL u.2 0 v.toInt64 0 = rM.1.toInt64
      rw [q9]; simp [vp_updL]
    | inr k =>
      replace gW' : (if k = 1 then some ((1 : Int32), (τ, u.2), K, N) else if k = 3 then some ((2 : Int32), (τ, u.2), K, N) else if k = 2 then some ((3 : Int32), (τ, u.2), K, N) else none) = some rW := gW'
      by_cases z1 : k = 1
      · subst z1
        rw [if_pos rfl] at gW'
        injection gW' with gW'
        subst gW'
        exact ⟨q7, q4, fun z => absurd z (show ¬ (1 : Int32) = 0 by decide)⟩
      rw [if_neg z1] at gW'
      by_cases z3 : k = 3
      · subst z3
        rw [if_pos rfl] at gW'
        injection gW' with gW'
        subst gW'
        exact ⟨q7, q4, fun z => absurd z (show ¬ (2 : Int32) = 0 by decide)⟩
      rw [if_neg z3] at gW'
      by_cases z2 : k = 2
      · subst z2
        rw [if_pos rfl] at gW'
        injection gW' with gW'
        subst gW'
        exact ⟨q7, q4, fun z => absurd z (show ¬ (3 : Int32) = 0 by decide)⟩
      rw [if_neg z2] at gW'
      cases gW'
theorem s_X_array {u : StO} {μ : StM} {n g d t : Nat} {C : wWc} {gC : Nat} {T : wWt} (hL : kL u.1 n g d) (hM : kN μ n g d t) (hW : RW C gC T d) (rl : RL u.1 C gC T d) (rm : RM μ C gC T d) (x1 : Int32) :
    ∃ (rW : Int32 × StO × Nat × Nat) (rM : Int32 × StM) (n' g' t' : Nat) (C' : wWc) (gC' : Nat) (T' : wWt), f_W_array u x1 = some rW ∧ f_M_array μ x1 = some rM ∧ (kL rW.2.1.1 n' g' d ∧ rW.2.2.1 + (T_parts (L_types u.1)).1 ≤ 1 + (T_parts (L_types rW.2.1.1)).1 ∧ rW.2.2.2 + 2 * (T_parts (L_types u.1)).1 ≤ 6 + 2 * (T_parts (L_types rW.2.1.1)).1) ∧ kN rM.2 n' g' d t' ∧ (RW C' gC' T' d ∧ RL rW.2.1.1 C' gC' T' d ∧ RM rM.2 C' gC' T' d) ∧ f_M_thrown rM.2 = rW.1 ∧ (rW.1 = 0 → rW.2.1.2 0 = rM.1.toInt64) := by
  obtain ⟨rW, gW, w1, w2, w3⟩ := s_W_array hL x1
  obtain ⟨rM, gM, t', w4⟩ := s_M_array hM x1
  obtain ⟨o, C', gC', T', q1, q2, q3⟩ := R_array hW rl rm x1
  obtain ⟨q4, q5⟩ := q3 rM gM
  suffices key : RL rW.2.1.1 C' gC' T' d ∧ f_M_thrown rM.2 = rW.1 ∧ (rW.1 = 0 → rW.2.1.2 0 = rM.1.toInt64) from
    ⟨rW, rM, n, g, t', C', gC', T', gW, gM, ⟨w1, w2, w3⟩, w4, ⟨q1, key.1, q5⟩, key.2⟩
  have gW' := gW
  unfold f_W_array at gW'
  cases eL : f_L_array u.1 x1 with
  | none => rw [eL] at gW'; cases gW'
  | some r =>
    obtain ⟨q6, q7⟩ := q2 r eL
    rw [eL] at gW'
    obtain ⟨v, τ, K, N⟩ := r
    replace q6 : v = o := q6
    subst q6
    cases v with
    | inl v =>
      obtain ⟨q8, q9⟩ := q4
      replace q9 : rM.1 = v := q9
      replace gW' : some ((0 : Int32), (τ, vp_updL u.2 0 v.toInt64), K, N) = some rW := gW'
      injection gW' with gW'
      subst gW'
      refine ⟨q7, q8, fun _ => ?_⟩
      show vp_updL u.2 0 v.toInt64 0 = rM.1.toInt64
      rw [q9]; simp [vp_updL]
    | inr k =>
      replace gW' : (if k = 1 then some ((1 : Int32), (τ, u.2), K, N) else if k = 2 then some ((2 : Int32), (τ, u.2), K, N) else none) = some rW := gW'
      by_cases z1 : k = 1
      · subst z1
        rw [if_pos rfl] at gW'
        injection gW' with gW'
        subst gW'
        exact ⟨q7, q4, fun z => absurd z (show ¬ (1 : Int32) = 0 by decide)⟩
      rw [if_neg z1] at gW'
      by_cases z2 : k = 2
      · subst z2
        rw [if_pos rfl] at gW'
        injection gW' with gW'
        subst gW'
        exact ⟨q7, q4, fun z => absurd z (show ¬ (2 : Int32) = 0 by decide)⟩
      rw [if_neg z2] at gW'
      cases gW'
theorem s_X_upper {u : StO} {μ : StM} {n g d t : Nat} {C : wWc} {gC : Nat} {T : wWt} (hL : kL u.1 n g d) (hM : kN μ n g d t) (hW : RW C gC T d) (rl : RL u.1 C gC T d) (rm : RM μ C gC T d) (x1 x2 : Int32) :
    ∃ (rW : Int32 × StO × Nat × Nat) (rM : Int32 × StM) (n' g' t' : Nat) (C' : wWc) (gC' : Nat) (T' : wWt), f_W_upper u x1 x2 = some rW ∧ f_M_upper μ x1 x2 = some rM ∧ (kL rW.2.1.1 n' g' d ∧ rW.2.2.1 + (T_parts (L_types u.1)).1 ≤ 1 + (T_parts (L_types rW.2.1.1)).1 ∧ rW.2.2.2 + 2 * (T_parts (L_types u.1)).1 ≤ 6 + 2 * (T_parts (L_types rW.2.1.1)).1) ∧ kN rM.2 n' g' d t' ∧ (RW C' gC' T' d ∧ RL rW.2.1.1 C' gC' T' d ∧ RM rM.2 C' gC' T' d) ∧ f_M_thrown rM.2 = rW.1 ∧ (rW.1 = 0 → rW.2.1.2 0 = rM.1.toInt64) := by
  obtain ⟨rW, gW, w1, w2, w3⟩ := s_W_upper hL x1 x2
  obtain ⟨rM, gM, t', w4⟩ := s_M_upper hM x1 x2
  obtain ⟨o, C', gC', T', q1, q2, q3⟩ := R_upper hW rl rm x1 x2
  obtain ⟨q4, q5⟩ := q3 rM gM
  suffices key : RL rW.2.1.1 C' gC' T' d ∧ f_M_thrown rM.2 = rW.1 ∧ (rW.1 = 0 → rW.2.1.2 0 = rM.1.toInt64) from
    ⟨rW, rM, n, g, t', C', gC', T', gW, gM, ⟨w1, w2, w3⟩, w4, ⟨q1, key.1, q5⟩, key.2⟩
  have gW' := gW
  unfold f_W_upper at gW'
  cases eL : f_L_upper u.1 x1 x2 with
  | none => rw [eL] at gW'; cases gW'
  | some r =>
    obtain ⟨q6, q7⟩ := q2 r eL
    rw [eL] at gW'
    obtain ⟨v, τ, K, N⟩ := r
    replace q6 : v = o := q6
    subst q6
    cases v with
    | inl v =>
      obtain ⟨q8, q9⟩ := q4
      replace q9 : rM.1 = v := q9
      replace gW' : some ((0 : Int32), (τ, vp_updL u.2 0 v.toInt64), K, N) = some rW := gW'
      injection gW' with gW'
      subst gW'
      refine ⟨q7, q8, fun _ => ?_⟩
      show vp_updL u.2 0 v.toInt64 0 = rM.1.toInt64
      rw [q9]; simp [vp_updL]
    | inr k =>
      replace gW' : (if k = 1 then some ((1 : Int32), (τ, u.2), K, N) else if k = 2 then some ((2 : Int32), (τ, u.2), K, N) else none) = some rW := gW'
      by_cases z1 : k = 1
      · subst z1
        rw [if_pos rfl] at gW'
        injection gW' with gW'
        subst gW'
        exact ⟨q7, q4, fun z => absurd z (show ¬ (1 : Int32) = 0 by decide)⟩
      rw [if_neg z1] at gW'
      by_cases z2 : k = 2
      · subst z2
        rw [if_pos rfl] at gW'
        injection gW' with gW'
        subst gW'
        exact ⟨q7, q4, fun z => absurd z (show ¬ (2 : Int32) = 0 by decide)⟩
      rw [if_neg z2] at gW'
      cases gW'
theorem s_X_lower {u : StO} {μ : StM} {n g d t : Nat} {C : wWc} {gC : Nat} {T : wWt} (hL : kL u.1 n g d) (hM : kN μ n g d t) (hW : RW C gC T d) (rl : RL u.1 C gC T d) (rm : RM μ C gC T d) (x1 x2 : Int32) :
    ∃ (rW : Int32 × StO × Nat × Nat) (rM : Int32 × StM) (n' g' t' : Nat) (C' : wWc) (gC' : Nat) (T' : wWt), f_W_lower u x1 x2 = some rW ∧ f_M_lower μ x1 x2 = some rM ∧ (kL rW.2.1.1 n' g' d ∧ rW.2.2.1 + (T_parts (L_types u.1)).1 ≤ 1 + (T_parts (L_types rW.2.1.1)).1 ∧ rW.2.2.2 + 2 * (T_parts (L_types u.1)).1 ≤ 6 + 2 * (T_parts (L_types rW.2.1.1)).1) ∧ kN rM.2 n' g' d t' ∧ (RW C' gC' T' d ∧ RL rW.2.1.1 C' gC' T' d ∧ RM rM.2 C' gC' T' d) ∧ f_M_thrown rM.2 = rW.1 ∧ (rW.1 = 0 → rW.2.1.2 0 = rM.1.toInt64) := by
  obtain ⟨rW, gW, w1, w2, w3⟩ := s_W_lower hL x1 x2
  obtain ⟨rM, gM, t', w4⟩ := s_M_lower hM x1 x2
  obtain ⟨o, C', gC', T', q1, q2, q3⟩ := R_lower hW rl rm x1 x2
  obtain ⟨q4, q5⟩ := q3 rM gM
  suffices key : RL rW.2.1.1 C' gC' T' d ∧ f_M_thrown rM.2 = rW.1 ∧ (rW.1 = 0 → rW.2.1.2 0 = rM.1.toInt64) from
    ⟨rW, rM, n, g, t', C', gC', T', gW, gM, ⟨w1, w2, w3⟩, w4, ⟨q1, key.1, q5⟩, key.2⟩
  have gW' := gW
  unfold f_W_lower at gW'
  cases eL : f_L_lower u.1 x1 x2 with
  | none => rw [eL] at gW'; cases gW'
  | some r =>
    obtain ⟨q6, q7⟩ := q2 r eL
    rw [eL] at gW'
    obtain ⟨v, τ, K, N⟩ := r
    replace q6 : v = o := q6
    subst q6
    cases v with
    | inl v =>
      obtain ⟨q8, q9⟩ := q4
      replace q9 : rM.1 = v := q9
      replace gW' : some ((0 : Int32), (τ, vp_updL u.2 0 v.toInt64), K, N) = some rW := gW'
      injection gW' with gW'
      subst gW'
      refine ⟨q7, q8, fun _ => ?_⟩
      show vp_updL u.2 0 v.toInt64 0 = rM.1.toInt64
      rw [q9]; simp [vp_updL]
    | inr k =>
      replace gW' : (if k = 1 then some ((1 : Int32), (τ, u.2), K, N) else if k = 2 then some ((2 : Int32), (τ, u.2), K, N) else none) = some rW := gW'
      by_cases z1 : k = 1
      · subst z1
        rw [if_pos rfl] at gW'
        injection gW' with gW'
        subst gW'
        exact ⟨q7, q4, fun z => absurd z (show ¬ (1 : Int32) = 0 by decide)⟩
      rw [if_neg z1] at gW'
      by_cases z2 : k = 2
      · subst z2
        rw [if_pos rfl] at gW'
        injection gW' with gW'
        subst gW'
        exact ⟨q7, q4, fun z => absurd z (show ¬ (2 : Int32) = 0 by decide)⟩
      rw [if_neg z2] at gW'
      cases gW'
theorem s_X_isBelow {u : StO} {μ : StM} {n g d t : Nat} {C : wWc} {gC : Nat} {T : wWt} (hL : kL u.1 n g d) (hM : kN μ n g d t) (hW : RW C gC T d) (rl : RL u.1 C gC T d) (rm : RM μ C gC T d) (x1 x2 : Int32) :
    ∃ (rW : Int32 × StO × Nat × Nat) (rM : Int32 × StM) (n' g' t' : Nat) (C' : wWc) (gC' : Nat) (T' : wWt), f_W_isBelow u x1 x2 = some rW ∧ f_M_isBelow μ x1 x2 = some rM ∧ (kL rW.2.1.1 n' g' d ∧ rW.2.2.1 + (T_parts (L_types u.1)).1 ≤ 1 + (T_parts (L_types rW.2.1.1)).1 ∧ rW.2.2.2 + 2 * (T_parts (L_types u.1)).1 ≤ 6 + 2 * (T_parts (L_types rW.2.1.1)).1) ∧ kN rM.2 n' g' d t' ∧ (RW C' gC' T' d ∧ RL rW.2.1.1 C' gC' T' d ∧ RM rM.2 C' gC' T' d) ∧ f_M_thrown rM.2 = rW.1 ∧ (rW.1 = 0 → rW.2.1.2 0 = (if rM.1 = 0 then 0 else 1)) := by
  obtain ⟨rW, gW, w1, w2, w3⟩ := s_W_isBelow hL x1 x2
  obtain ⟨rM, gM, t', w4⟩ := s_M_isBelow hM x1 x2
  obtain ⟨o, C', gC', T', q1, q2, q3⟩ := R_isBelow hW rl rm x1 x2
  obtain ⟨q4, q5⟩ := q3 rM gM
  suffices key : RL rW.2.1.1 C' gC' T' d ∧ f_M_thrown rM.2 = rW.1 ∧ (rW.1 = 0 → rW.2.1.2 0 = (if rM.1 = 0 then 0 else 1)) from
    ⟨rW, rM, n, g, t', C', gC', T', gW, gM, ⟨w1, w2, w3⟩, w4, ⟨q1, key.1, q5⟩, key.2⟩
  have gW' := gW
  unfold f_W_isBelow at gW'
  cases eL : f_L_isBelow u.1 x1 x2 with
  | none => rw [eL] at gW'; cases gW'
  | some r =>
    obtain ⟨q6, q7⟩ := q2 r eL
    rw [eL] at gW'
    obtain ⟨v, τ, K, N⟩ := r
    replace q6 : v = o := q6
    subst q6
    cases v with
    | inl v =>
      obtain ⟨q8, q9⟩ := q4
      replace q9 : rM.1 = v := q9
      replace gW' : some ((0 : Int32), (τ, vp_updL u.2 0 (if v = 0 then 0 else 1)), K, N) = some rW := gW'
      injection gW' with gW'
      subst gW'
      refine ⟨q7, q8, fun _ => ?_⟩
      show vp_updL u.2 0 (if v = 0 then 0 else 1) 0 = (if rM.1 = 0 then 0 else 1)
      rw [q9]; simp [vp_updL]
    | inr k =>
      replace gW' : (if k = 1 then some ((1 : Int32), (τ, u.2), K, N) else none) = some rW := gW'
      by_cases z1 : k = 1
      · subst z1
        rw [if_pos rfl] at gW'
        injection gW' with gW'
        subst gW'
        exact ⟨q7, q4, fun z => absurd z (show ¬ (1 : Int32) = 0 by decide)⟩
      rw [if_neg z1] at gW'
      cases gW'
theorem s_X_look {u : StO} {μ : StM} {n g d t : Nat} {C : wWc} {gC : Nat} {T : wWt} (hL : kL u.1 n g d) (hM : kN μ n g d t) (hW : RW C gC T d) (rl : RL u.1 C gC T d) (rm : RM μ C gC T d) (x1 x2 : Int32) :
    ∃ (rW : Int32 × StO × Nat × Nat) (rM : Int32 × StM) (n' g' t' : Nat) (C' : wWc) (gC' : Nat) (T' : wWt), f_W_look u x1 x2 = some rW ∧ f_M_look μ x1 x2 = some rM ∧ (kL rW.2.1.1 n' g' d ∧ rW.2.2.1 + (T_parts (L_types u.1)).1 ≤ 1 + (T_parts (L_types rW.2.1.1)).1 ∧ rW.2.2.2 + 2 * (T_parts (L_types u.1)).1 ≤ 6 + 2 * (T_parts (L_types rW.2.1.1)).1) ∧ kN rM.2 n' g' d t' ∧ (RW C' gC' T' d ∧ RL rW.2.1.1 C' gC' T' d ∧ RM rM.2 C' gC' T' d) ∧ f_M_thrown rM.2 = rW.1 ∧ (rW.1 = 0 → rW.2.1.2 0 = rM.1.toInt64) := by
  obtain ⟨rW, gW, w1, w2, w3⟩ := s_W_look hL x1 x2
  obtain ⟨rM, gM, t', w4⟩ := s_M_look hM x1 x2
  obtain ⟨o, C', gC', T', q1, q2, q3⟩ := R_look hW rl rm x1 x2
  obtain ⟨q4, q5⟩ := q3 rM gM
  suffices key : RL rW.2.1.1 C' gC' T' d ∧ f_M_thrown rM.2 = rW.1 ∧ (rW.1 = 0 → rW.2.1.2 0 = rM.1.toInt64) from
    ⟨rW, rM, n, g, t', C', gC', T', gW, gM, ⟨w1, w2, w3⟩, w4, ⟨q1, key.1, q5⟩, key.2⟩
  have gW' := gW
  unfold f_W_look at gW'
  cases eL : f_L_look u.1 x1 x2 with
  | none => rw [eL] at gW'; cases gW'
  | some r =>
    obtain ⟨q6, q7⟩ := q2 r eL
    rw [eL] at gW'
    obtain ⟨v, τ, K, N⟩ := r
    replace q6 : v = o := q6
    subst q6
    cases v with
    | inl v =>
      obtain ⟨q8, q9⟩ := q4
      replace q9 : rM.1 = v := q9
      replace gW' : some ((0 : Int32), (τ, vp_updL u.2 0 v.toInt64), K, N) = some rW := gW'
      injection gW' with gW'
      subst gW'
      refine ⟨q7, q8, fun _ => ?_⟩
      show vp_updL u.2 0 v.toInt64 0 = rM.1.toInt64
      rw [q9]; simp [vp_updL]
    | inr k =>
      replace gW' : (if k = 1 then some ((1 : Int32), (τ, u.2), K, N) else if k = 2 then some ((2 : Int32), (τ, u.2), K, N) else none) = some rW := gW'
      by_cases z1 : k = 1
      · subst z1
        rw [if_pos rfl] at gW'
        injection gW' with gW'
        subst gW'
        exact ⟨q7, q4, fun z => absurd z (show ¬ (1 : Int32) = 0 by decide)⟩
      rw [if_neg z1] at gW'
      by_cases z2 : k = 2
      · subst z2
        rw [if_pos rfl] at gW'
        injection gW' with gW'
        subst gW'
        exact ⟨q7, q4, fun z => absurd z (show ¬ (2 : Int32) = 0 by decide)⟩
      rw [if_neg z2] at gW'
      cases gW'
theorem s_X_box {u : StO} {μ : StM} {n g d t : Nat} {C : wWc} {gC : Nat} {T : wWt} (hL : kL u.1 n g d) (hM : kN μ n g d t) (hW : RW C gC T d) (rl : RL u.1 C gC T d) (rm : RM μ C gC T d) (x1 : Int32) :
    ∃ (rW : Int32 × StO × Nat × Nat) (rM : Int32 × StM) (n' g' t' : Nat) (C' : wWc) (gC' : Nat) (T' : wWt), f_W_box u x1 = some rW ∧ f_M_box μ x1 = some rM ∧ (kL rW.2.1.1 n' g' d ∧ rW.2.2.1 + (T_parts (L_types u.1)).1 ≤ 1 + (T_parts (L_types rW.2.1.1)).1 ∧ rW.2.2.2 + 2 * (T_parts (L_types u.1)).1 ≤ 6 + 2 * (T_parts (L_types rW.2.1.1)).1) ∧ kN rM.2 n' g' d t' ∧ (RW C' gC' T' d ∧ RL rW.2.1.1 C' gC' T' d ∧ RM rM.2 C' gC' T' d) ∧ f_M_thrown rM.2 = rW.1 ∧ (rW.1 = 0 → rW.2.1.2 0 = rM.1.toInt64) := by
  obtain ⟨rW, gW, w1, w2, w3⟩ := s_W_box hL x1
  obtain ⟨rM, gM, t', w4⟩ := s_M_box hM x1
  obtain ⟨o, C', gC', T', q1, q2, q3⟩ := R_box hW rl rm x1
  obtain ⟨q4, q5⟩ := q3 rM gM
  suffices key : RL rW.2.1.1 C' gC' T' d ∧ f_M_thrown rM.2 = rW.1 ∧ (rW.1 = 0 → rW.2.1.2 0 = rM.1.toInt64) from
    ⟨rW, rM, n, g, t', C', gC', T', gW, gM, ⟨w1, w2, w3⟩, w4, ⟨q1, key.1, q5⟩, key.2⟩
  have gW' := gW
  unfold f_W_box at gW'
  cases eL : f_L_box u.1 x1 with
  | none => rw [eL] at gW'; cases gW'
  | some r =>
    obtain ⟨q6, q7⟩ := q2 r eL
    rw [eL] at gW'
    obtain ⟨v, τ, K, N⟩ := r
    replace q6 : v = o := q6
    subst q6
    cases v with
    | inl v =>
      obtain ⟨q8, q9⟩ := q4
      replace q9 : rM.1 = v := q9
      replace gW' : some ((0 : Int32), (τ, vp_updL u.2 0 v.toInt64), K, N) = some rW := gW'
      injection gW' with gW'
      subst gW'
      refine ⟨q7, q8, fun _ => ?_⟩
      show vp_updL u.2 0 v.toInt64 0 = rM.1.toInt64
      rw [q9]; simp [vp_updL]
    | inr k =>
      replace gW' : (if k = 1 then some ((1 : Int32), (τ, u.2), K, N) else if k = 2 then some ((2 : Int32), (τ, u.2), K, N) else none) = some rW := gW'
      by_cases z1 : k = 1
      · subst z1
        rw [if_pos rfl] at gW'
        injection gW' with gW'
        subst gW'
        exact ⟨q7, q4, fun z => absurd z (show ¬ (1 : Int32) = 0 by decide)⟩
      rw [if_neg z1] at gW'
      by_cases z2 : k = 2
      · subst z2
        rw [if_pos rfl] at gW'
        injection gW' with gW'
        subst gW'
        exact ⟨q7, q4, fun z => absurd z (show ¬ (2 : Int32) = 0 by decide)⟩
      rw [if_neg z2] at gW'
      cases gW'
theorem s_X_type {u : StO} {μ : StM} {n g d t : Nat} {C : wWc} {gC : Nat} {T : wWt} (hL : kL u.1 n g d) (hM : kN μ n g d t) (hW : RW C gC T d) (rl : RL u.1 C gC T d) (rm : RM μ C gC T d) (x1 x2 : Int32) :
    ∃ (rW : Int32 × StO × Nat × Nat) (rM : Int32 × StM) (n' g' t' : Nat) (C' : wWc) (gC' : Nat) (T' : wWt), f_W_type u x1 x2 = some rW ∧ f_M_type μ x1 x2 = some rM ∧ (kL rW.2.1.1 n' g' d ∧ rW.2.2.1 + (T_parts (L_types u.1)).1 ≤ 1 + (T_parts (L_types rW.2.1.1)).1 ∧ rW.2.2.2 + 2 * (T_parts (L_types u.1)).1 ≤ 6 + 2 * (T_parts (L_types rW.2.1.1)).1) ∧ kN rM.2 n' g' d t' ∧ (RW C' gC' T' d ∧ RL rW.2.1.1 C' gC' T' d ∧ RM rM.2 C' gC' T' d) := by
  obtain ⟨rW, gW, w1, w2, w3⟩ := s_W_type hL x1 x2
  obtain ⟨rM, gM, t', w4⟩ := s_M_type hM x1 x2
  obtain ⟨C', gC', T', q1, q2, q3⟩ := RK_same hW rl (K_type x1 x2) (K_Mtype rm x1 x2)
  have q5 := q3 rM gM
  refine ⟨rW, rM, n, g, t', C', gC', T', gW, gM, ⟨w1, w2, w3⟩, w4, q1, ?_, q5⟩
  have gW' := gW
  unfold f_W_type at gW'
  cases eL : f_L_type u.1 x1 x2 with
  | none => rw [eL] at gW'; cases gW'
  | some r =>
    have q7 := q2 r eL
    rw [eL] at gW'
    obtain ⟨v, τ, K, N⟩ := r
    cases v with
    | inl v =>
      replace gW' : some ((0 : Int32), (τ, vp_updL u.2 0 v.toInt64), K, N) = some rW := gW'
      injection gW' with gW'
      subst gW'
      exact q7
    | inr k =>
      replace gW' : (if k = 1 then some ((1 : Int32), (τ, u.2), K, N) else if k = 3 then some ((2 : Int32), (τ, u.2), K, N) else none) = some rW := gW'
      by_cases z1 : k = 1
      · rw [if_pos z1] at gW'
        injection gW' with gW'
        subst gW'
        exact q7
      rw [if_neg z1] at gW'
      by_cases z3 : k = 3
      · rw [if_pos z3] at gW'
        injection gW' with gW'
        subst gW'
        exact q7
      rw [if_neg z3] at gW'
      cases gW'
theorem s_X_part {u : StO} {μ : StM} {n g d t : Nat} {C : wWc} {gC : Nat} {T : wWt} (hL : kL u.1 n g d) (hM : kN μ n g d t) (hW : RW C gC T d) (rl : RL u.1 C gC T d) (rm : RM μ C gC T d) (x1 x2 : Int32) :
    ∃ (rW : Int32 × StO × Nat × Nat) (rM : Int32 × StM) (n' g' t' : Nat) (C' : wWc) (gC' : Nat) (T' : wWt), f_W_part u x1 x2 = some rW ∧ f_M_part μ x1 x2 = some rM ∧ (kL rW.2.1.1 n' g' d ∧ rW.2.2.1 + (T_parts (L_types u.1)).1 ≤ 1 + (T_parts (L_types rW.2.1.1)).1 ∧ rW.2.2.2 + 2 * (T_parts (L_types u.1)).1 ≤ 6 + 2 * (T_parts (L_types rW.2.1.1)).1) ∧ kN rM.2 n' g' d t' ∧ (RW C' gC' T' d ∧ RL rW.2.1.1 C' gC' T' d ∧ RM rM.2 C' gC' T' d) ∧ f_M_thrown rM.2 = rW.1 ∧ (rW.1 = 0 → rW.2.1.2 0 = rM.1.toInt64) := by
  obtain ⟨rW, gW, w1, w2, w3⟩ := s_W_part hL x1 x2
  obtain ⟨rM, gM, t', w4⟩ := s_M_part hM x1 x2
  obtain ⟨o, C', gC', T', q1, q2, q3⟩ := R_part hW rl rm x1 x2
  obtain ⟨q4, q5⟩ := q3 rM gM
  suffices key : RL rW.2.1.1 C' gC' T' d ∧ f_M_thrown rM.2 = rW.1 ∧ (rW.1 = 0 → rW.2.1.2 0 = rM.1.toInt64) from
    ⟨rW, rM, n, g, t', C', gC', T', gW, gM, ⟨w1, w2, w3⟩, w4, ⟨q1, key.1, q5⟩, key.2⟩
  have gW' := gW
  unfold f_W_part at gW'
  cases eL : f_L_part u.1 x1 x2 with
  | none => rw [eL] at gW'; cases gW'
  | some r =>
    obtain ⟨q6, q7⟩ := q2 r eL
    rw [eL] at gW'
    obtain ⟨v, τ, K, N⟩ := r
    replace q6 : v = o := q6
    subst q6
    cases v with
    | inl v =>
      obtain ⟨q8, q9⟩ := q4
      replace q9 : rM.1 = v := q9
      replace gW' : some ((0 : Int32), (τ, vp_updL u.2 0 v.toInt64), K, N) = some rW := gW'
      injection gW' with gW'
      subst gW'
      refine ⟨q7, q8, fun _ => ?_⟩
      show vp_updL u.2 0 v.toInt64 0 = rM.1.toInt64
      rw [q9]; simp [vp_updL]
    | inr k =>
      replace gW' : (if k = 1 then some ((1 : Int32), (τ, u.2), K, N) else none) = some rW := gW'
      by_cases z1 : k = 1
      · subst z1
        rw [if_pos rfl] at gW'
        injection gW' with gW'
        subst gW'
        exact ⟨q7, q4, fun z => absurd z (show ¬ (1 : Int32) = 0 by decide)⟩
      rw [if_neg z1] at gW'
      cases gW'
theorem s_X_common {u : StO} {μ : StM} {n g d t : Nat} {C : wWc} {gC : Nat} {T : wWt} (hL : kL u.1 n g d) (hM : kN μ n g d t) (hW : RW C gC T d) (rl : RL u.1 C gC T d) (rm : RM μ C gC T d) (x1 x2 x3 : Int32) :
    ∃ (rW : Int32 × StO × Nat × Nat) (rM : Int32 × StM) (n' g' t' : Nat) (C' : wWc) (gC' : Nat) (T' : wWt), f_W_common u x1 x2 x3 = some rW ∧ f_M_common μ x1 x2 x3 = some rM ∧ (kL rW.2.1.1 n' g' d ∧ rW.2.2.1 + (T_parts (L_types u.1)).1 ≤ 1 + (T_parts (L_types rW.2.1.1)).1 ∧ rW.2.2.2 + 2 * (T_parts (L_types u.1)).1 ≤ 6 + 2 * (T_parts (L_types rW.2.1.1)).1) ∧ kN rM.2 n' g' d t' ∧ (RW C' gC' T' d ∧ RL rW.2.1.1 C' gC' T' d ∧ RM rM.2 C' gC' T' d) := by
  obtain ⟨rW, gW, w1, w2, w3⟩ := s_W_common hL x1 x2 x3
  obtain ⟨rM, gM, t', w4⟩ := s_M_common hM x1 x2 x3
  obtain ⟨C', gC', T', q1, q2, q3⟩ := RK_same hW rl (K_common x1 x2 x3) (K_Mcommon hW rm x1 x2 x3)
  have q5 := q3 rM gM
  refine ⟨rW, rM, n, g, t', C', gC', T', gW, gM, ⟨w1, w2, w3⟩, w4, q1, ?_, q5⟩
  have gW' := gW
  unfold f_W_common at gW'
  cases eL : f_L_common u.1 x1 x2 x3 with
  | none => rw [eL] at gW'; cases gW'
  | some r =>
    have q7 := q2 r eL
    rw [eL] at gW'
    obtain ⟨v, τ, K, N⟩ := r
    cases v with
    | inl v =>
      replace gW' : some ((0 : Int32), (τ, vp_updL u.2 0 v.toInt64), K, N) = some rW := gW'
      injection gW' with gW'
      subst gW'
      exact q7
    | inr k =>
      replace gW' : (if k = 1 then some ((1 : Int32), (τ, u.2), K, N) else if k = 3 then some ((2 : Int32), (τ, u.2), K, N) else none) = some rW := gW'
      by_cases z1 : k = 1
      · rw [if_pos z1] at gW'
        injection gW' with gW'
        subst gW'
        exact q7
      rw [if_neg z1] at gW'
      by_cases z3 : k = 3
      · rw [if_pos z3] at gW'
        injection gW' with gW'
        subst gW'
        exact q7
      rw [if_neg z3] at gW'
      cases gW'
theorem s_X_isUnder {u : StO} {μ : StM} {n g d t : Nat} {C : wWc} {gC : Nat} {T : wWt} (hL : kL u.1 n g d) (hM : kN μ n g d t) (hW : RW C gC T d) (rl : RL u.1 C gC T d) (rm : RM μ C gC T d) (x1 x2 : Int32) :
    ∃ (rW : Int32 × StO × Nat × Nat) (rM : Int32 × StM) (n' g' t' : Nat) (C' : wWc) (gC' : Nat) (T' : wWt), f_W_isUnder u x1 x2 = some rW ∧ f_M_isUnder μ x1 x2 = some rM ∧ (kL rW.2.1.1 n' g' d ∧ rW.2.2.1 + (T_parts (L_types u.1)).1 ≤ 1 + (T_parts (L_types rW.2.1.1)).1 ∧ rW.2.2.2 + 2 * (T_parts (L_types u.1)).1 ≤ 6 + 2 * (T_parts (L_types rW.2.1.1)).1) ∧ kN rM.2 n' g' d t' ∧ (RW C' gC' T' d ∧ RL rW.2.1.1 C' gC' T' d ∧ RM rM.2 C' gC' T' d) ∧ f_M_thrown rM.2 = rW.1 ∧ (rW.1 = 0 → rW.2.1.2 0 = (if rM.1 = 0 then 0 else 1)) := by
  obtain ⟨rW, gW, w1, w2, w3⟩ := s_W_isUnder hL x1 x2
  obtain ⟨rM, gM, t', w4⟩ := s_M_isUnder hM x1 x2
  obtain ⟨o, C', gC', T', q1, q2, q3⟩ := R_isUnder hW rl rm x1 x2
  obtain ⟨q4, q5⟩ := q3 rM gM
  suffices key : RL rW.2.1.1 C' gC' T' d ∧ f_M_thrown rM.2 = rW.1 ∧ (rW.1 = 0 → rW.2.1.2 0 = (if rM.1 = 0 then 0 else 1)) from
    ⟨rW, rM, n, g, t', C', gC', T', gW, gM, ⟨w1, w2, w3⟩, w4, ⟨q1, key.1, q5⟩, key.2⟩
  have gW' := gW
  unfold f_W_isUnder at gW'
  cases eL : f_L_isUnder u.1 x1 x2 with
  | none => rw [eL] at gW'; cases gW'
  | some r =>
    obtain ⟨q6, q7⟩ := q2 r eL
    rw [eL] at gW'
    obtain ⟨v, τ, K, N⟩ := r
    replace q6 : v = o := q6
    subst q6
    cases v with
    | inl v =>
      obtain ⟨q8, q9⟩ := q4
      replace q9 : rM.1 = v := q9
      replace gW' : some ((0 : Int32), (τ, vp_updL u.2 0 (if v = 0 then 0 else 1)), K, N) = some rW := gW'
      injection gW' with gW'
      subst gW'
      refine ⟨q7, q8, fun _ => ?_⟩
      show vp_updL u.2 0 (if v = 0 then 0 else 1) 0 = (if rM.1 = 0 then 0 else 1)
      rw [q9]; simp [vp_updL]
    | inr k =>
      replace gW' : (if k = 1 then some ((1 : Int32), (τ, u.2), K, N) else none) = some rW := gW'
      by_cases z1 : k = 1
      · subst z1
        rw [if_pos rfl] at gW'
        injection gW' with gW'
        subst gW'
        exact ⟨q7, q4, fun z => absurd z (show ¬ (1 : Int32) = 0 by decide)⟩
      rw [if_neg z1] at gW'
      cases gW'
theorem s_X_classed {u : StO} {μ : StM} {n g d t : Nat} {C : wWc} {gC : Nat} {T : wWt} (hL : kL u.1 n g d) (hM : kN μ n g d t) (hW : RW C gC T d) (rl : RL u.1 C gC T d) (rm : RM μ C gC T d) (x1 x2 : Int32) :
    ∃ (rW : Int32 × StO × Nat × Nat) (rM : Int32 × StM) (n' g' t' : Nat) (C' : wWc) (gC' : Nat) (T' : wWt), f_W_classed u x1 x2 = some rW ∧ f_M_classed μ x1 x2 = some rM ∧ (kL rW.2.1.1 n' g' d ∧ rW.2.2.1 + (T_parts (L_types u.1)).1 ≤ 1 + (T_parts (L_types rW.2.1.1)).1 ∧ rW.2.2.2 + 2 * (T_parts (L_types u.1)).1 ≤ 6 + 2 * (T_parts (L_types rW.2.1.1)).1) ∧ kN rM.2 n' g' d t' ∧ (RW C' gC' T' d ∧ RL rW.2.1.1 C' gC' T' d ∧ RM rM.2 C' gC' T' d) := by
  obtain ⟨rW, gW, w1, w2, w3⟩ := s_W_classed hL x1 x2
  obtain ⟨rM, gM, t', w4⟩ := s_M_classed hM x1 x2
  obtain ⟨C', gC', T', q1, q2, q3⟩ := RK_same hW rl (K_classed x1 x2) (K_Mclassed rm x1 x2)
  have q5 := q3 rM gM
  refine ⟨rW, rM, n, g, t', C', gC', T', gW, gM, ⟨w1, w2, w3⟩, w4, q1, ?_, q5⟩
  have gW' := gW
  unfold f_W_classed at gW'
  cases eL : f_L_classed u.1 x1 x2 with
  | none => rw [eL] at gW'; cases gW'
  | some r =>
    have q7 := q2 r eL
    rw [eL] at gW'
    obtain ⟨v, τ, K, N⟩ := r
    cases v with
    | inl v =>
      replace gW' : some ((0 : Int32), (τ, vp_updL u.2 0 v.toInt64), K, N) = some rW := gW'
      injection gW' with gW'
      subst gW'
      exact q7
    | inr k =>
      replace gW' : (if k = 1 then some ((1 : Int32), (τ, u.2), K, N) else if k = 3 then some ((2 : Int32), (τ, u.2), K, N) else none) = some rW := gW'
      by_cases z1 : k = 1
      · rw [if_pos z1] at gW'
        injection gW' with gW'
        subst gW'
        exact q7
      rw [if_neg z1] at gW'
      by_cases z3 : k = 3
      · rw [if_pos z3] at gW'
        injection gW' with gW'
        subst gW'
        exact q7
      rw [if_neg z3] at gW'
      cases gW'
theorem s_X_direct {u : StO} {μ : StM} {n g d t : Nat} {C : wWc} {gC : Nat} {T : wWt} (hL : kL u.1 n g d) (hM : kN μ n g d t) (hW : RW C gC T d) (rl : RL u.1 C gC T d) (rm : RM μ C gC T d) (x1 x2 x3 : Int32) :
    ∃ (rW : Int32 × StO × Nat × Nat) (rM : Int32 × StM) (n' g' t' : Nat) (C' : wWc) (gC' : Nat) (T' : wWt), f_W_direct u x1 x2 x3 = some rW ∧ f_M_direct μ x1 x2 x3 = some rM ∧ (kL rW.2.1.1 n' g' d ∧ rW.2.2.1 + (T_parts (L_types u.1)).1 ≤ 1 + (T_parts (L_types rW.2.1.1)).1 ∧ rW.2.2.2 + 2 * (T_parts (L_types u.1)).1 ≤ 6 + 2 * (T_parts (L_types rW.2.1.1)).1) ∧ kN rM.2 n' g' d t' ∧ (RW C' gC' T' d ∧ RL rW.2.1.1 C' gC' T' d ∧ RM rM.2 C' gC' T' d) ∧ f_M_thrown rM.2 = rW.1 ∧ (rW.1 = 0 → rW.2.1.2 0 = rM.1.toInt64) := by
  obtain ⟨rW, gW, w1, w2, w3⟩ := s_W_direct hL x1 x2 x3
  obtain ⟨rM, gM, t', w4⟩ := s_M_direct hM x1 x2 x3
  obtain ⟨o, C', gC', T', q1, q2, q3⟩ := R_direct hW rl rm x1 x2 x3
  obtain ⟨q4, q5⟩ := q3 rM gM
  suffices key : RL rW.2.1.1 C' gC' T' d ∧ f_M_thrown rM.2 = rW.1 ∧ (rW.1 = 0 → rW.2.1.2 0 = rM.1.toInt64) from
    ⟨rW, rM, n, g, t', C', gC', T', gW, gM, ⟨w1, w2, w3⟩, w4, ⟨q1, key.1, q5⟩, key.2⟩
  have gW' := gW
  unfold f_W_direct at gW'
  cases eL : f_L_direct u.1 x1 x2 x3 with
  | none => rw [eL] at gW'; cases gW'
  | some r =>
    obtain ⟨q6, q7⟩ := q2 r eL
    rw [eL] at gW'
    obtain ⟨v, τ, K, N⟩ := r
    replace q6 : v = o := q6
    subst q6
    cases v with
    | inl v =>
      obtain ⟨q8, q9⟩ := q4
      replace q9 : rM.1 = v := q9
      replace gW' : some ((0 : Int32), (τ, vp_updL u.2 0 v.toInt64), K, N) = some rW := gW'
      injection gW' with gW'
      subst gW'
      refine ⟨q7, q8, fun _ => ?_⟩
      show vp_updL u.2 0 v.toInt64 0 = rM.1.toInt64
      rw [q9]; simp [vp_updL]
    | inr k =>
      replace gW' : (if k = 1 then some ((1 : Int32), (τ, u.2), K, N) else if k = 3 then some ((2 : Int32), (τ, u.2), K, N) else none) = some rW := gW'
      by_cases z1 : k = 1
      · subst z1
        rw [if_pos rfl] at gW'
        injection gW' with gW'
        subst gW'
        exact ⟨q7, q4, fun z => absurd z (show ¬ (1 : Int32) = 0 by decide)⟩
      rw [if_neg z1] at gW'
      by_cases z3 : k = 3
      · subst z3
        rw [if_pos rfl] at gW'
        injection gW' with gW'
        subst gW'
        exact ⟨q7, q4, fun z => absurd z (show ¬ (2 : Int32) = 0 by decide)⟩
      rw [if_neg z3] at gW'
      cases gW'
theorem s_X_told {u : StO} {μ : StM} {n g d t : Nat} {C : wWc} {gC : Nat} {T : wWt} (hL : kL u.1 n g d) (hM : kN μ n g d t) (hW : RW C gC T d) (rl : RL u.1 C gC T d) (rm : RM μ C gC T d) (x1 : Int32) :
    ∃ (rW : Int32 × StO × Nat × Nat) (rM : Int32 × StM) (n' g' t' : Nat) (C' : wWc) (gC' : Nat) (T' : wWt), f_W_told u x1 = some rW ∧ f_M_told μ x1 = some rM ∧ (kL rW.2.1.1 n' g' d ∧ rW.2.2.1 + (T_parts (L_types u.1)).1 ≤ 1 + (T_parts (L_types rW.2.1.1)).1 ∧ rW.2.2.2 + 2 * (T_parts (L_types u.1)).1 ≤ 6 + 2 * (T_parts (L_types rW.2.1.1)).1) ∧ kN rM.2 n' g' d t' ∧ (RW C' gC' T' d ∧ RL rW.2.1.1 C' gC' T' d ∧ RM rM.2 C' gC' T' d) ∧ f_M_thrown rM.2 = rW.1 ∧ (rW.1 = 0 → rW.2.1.2 0 = rM.1.toInt64) := by
  obtain ⟨rW, gW, w1, w2, w3⟩ := s_W_told hL x1
  obtain ⟨rM, gM, t', w4⟩ := s_M_told hM x1
  obtain ⟨o, C', gC', T', q1, q2, q3⟩ := R_told hW rl rm x1
  obtain ⟨q4, q5⟩ := q3 rM gM
  suffices key : RL rW.2.1.1 C' gC' T' d ∧ f_M_thrown rM.2 = rW.1 ∧ (rW.1 = 0 → rW.2.1.2 0 = rM.1.toInt64) from
    ⟨rW, rM, n, g, t', C', gC', T', gW, gM, ⟨w1, w2, w3⟩, w4, ⟨q1, key.1, q5⟩, key.2⟩
  have gW' := gW
  unfold f_W_told at gW'
  cases eL : f_L_told u.1 x1 with
  | none => rw [eL] at gW'; cases gW'
  | some r =>
    obtain ⟨q6, q7⟩ := q2 r eL
    rw [eL] at gW'
    obtain ⟨v, τ, K, N⟩ := r
    replace q6 : v = o := q6
    subst q6
    cases v with
    | inl v =>
      obtain ⟨q8, q9⟩ := q4
      replace q9 : rM.1 = v := q9
      replace gW' : some ((0 : Int32), (τ, vp_updL u.2 0 v.toInt64), K, N) = some rW := gW'
      injection gW' with gW'
      subst gW'
      refine ⟨q7, q8, fun _ => ?_⟩
      show vp_updL u.2 0 v.toInt64 0 = rM.1.toInt64
      rw [q9]; simp [vp_updL]
    | inr k =>
      replace gW' : (if k = 3 then some ((1 : Int32), (τ, u.2), K, N) else none) = some rW := gW'
      by_cases z3 : k = 3
      · subst z3
        rw [if_pos rfl] at gW'
        injection gW' with gW'
        subst gW'
        exact ⟨q7, q4, fun z => absurd z (show ¬ (1 : Int32) = 0 by decide)⟩
      rw [if_neg z3] at gW'
      cases gW'
-- part 09.455.skel.lean.txt
/-! THE CLAIM OUT OF ONE WALK OF THE LAW'S BODY. Your part is whole_start (and what it stands on); all else here is the same for every law, but numbers. -/
def R_law : String := "LeastBoundsLaw"
def lw_P (b : Addr) (xs : List Int32) (args : Array Value) (s : State) : Prop := args = #[.ref b] ∧ s.IntsAt b xs ∧ xs.length ≤ 2049 ∧ (Jvm.Cond.and given_1 narrow_1).before args s = true
def lw_Q (_ : Array Value) (s : State) (o : Outcome) (t : State) : Prop := o = .returned (some (.int 1)) ∧ Framed s o t [] 601024 7293000
def lw_Z (below : List Frame) (a : Array Value) (s : State) : State → Prop := fun t => ∃ o, t.status = .running ∧ Ended t below o ∧ lw_Q a s o t
/-- the law's own end, with 1 on the stack, nothing written that was there before, its room as the claim has it -/
theorem lw_ret {p : Program} {l : Launch} {e : Env} {s : State} {m : MethodId} {below : List Frame} {meth : Method} {c : Code} {b : Nat} (hx : p.tables.exec = Jvm.exec) (hb : c.code = code) (hr : meth.sig.returnType = ret) (hlocks : meth.locks = false) {pc : Nat} {H : Heap} {ls : Array Slot} (hdg : decode code pc = .ok (.ireturn, 1)) : W p l e room_1 s m #[Value.ref b] below meth c H [] 601024 7293000 (lw_Z below #[Value.ref b] s) (F0 m pc ls [.int 1]) := by
  intro T hT X
  obtain ⟨fs, hret, hrun, hended, hW, hframe⟩ := X.leave (v := some (.int 1)) (hlocks := hlocks) (fun h => by rw [hr] at h; cases h)
  have hmeth' : T.vm.method? m = some meth := X.method'
  refine ⟨T.setFrames fs, ?_, .returned (some (.int 1)), hrun, hended, rfl, ⟨_, rfl⟩, hW, hframe⟩
  jvm_step X.here [X.here.top, hx, hb, hdg, hmeth', hr, ret, narrow_b1]
  (try refine ⟨rfl, ?_⟩); (try refine ⟨rfl, ?_⟩)
  first | (intro acts; rw [hret _ acts rfl rfl rfl]) | rw [hret _ _ rfl rfl rfl]
  exact Steps.refl _
/-- what holds at the law's entry: the machine, the code, the tables' words (any of lw_tbl by 'hts w (by decide +kernel)'), the script of L ints xs at the cell b, what the Statement gives of the start (any of its parts by flat_of_before) -/
def lw_At (p : Program) (s : State) (m : MethodId) (meth : Method) (c : Code) (b L : Nat) (xs : Nat → Int32) : Prop :=
  p.tables.exec = Jvm.exec ∧ c.code = code ∧ meth.sig.returnType = ret ∧ c.maxLocals = 7 ∧ s.vm.findClass R_law = some m.cls ∧ (∀ w ∈ lw_tbl, w.before #[Value.ref b] s = true) ∧ va_X b L xs s s.heap ∧ b < s.heap.size ∧ meth.locks = false ∧ (Jvm.Cond.and given_1 narrow_1).before #[Value.ref b] s = true
