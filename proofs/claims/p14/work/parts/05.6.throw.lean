/-! Own rows: throw new E("text"). -/
def nmX : List String := ["java/lang/RuntimeException", "java/lang/Exception"]
section TH
variable {p : Program} {l : Launch} {e : Env} {R : Room} {s : State} {m : MethodId} {args : Array Value} {below : List Frame} {meth : Method} {c : Code} {H : Heap} {locs : List Loc} {cells slots : Nat} {Q : State → Prop}
variable {cc : ByteArray} {pc : Nat} {ls : Array Slot} {rest st : List Value} {D : va_G} {ty : List (ClassId × FieldType)} {ret0 : Option FieldType} {nL : Nat} {own : String} {lv : List (Nat × Value)} {A : Nat → Prop}
theorem tx_throw {S : Type} {w : Nat → S → va_W} {q : Nat} {σ : S} {k K N ik is ic : Nat} {text : String} {Qc : Array Value → State → Outcome → State → Prop} (C0 : Am p s m args meth c cc ret0 nL own D ty) (hT : ∀ x ∈ c.exceptionTable.toList, False) (hl0 : l.stackTraces = false) (hZ : Zs A s s.heap) (hP : va_P D vwCl (w q σ) H) (hD : va_D A (w q σ)) (hS : va_S A s.heap H locs)
    (h1 : Cond.classLink own ik (exN k) ∈ tb) (h2 : Cond.initialized (exN k) ∈ tb) (h3 : (own, is, text) ∈ stL) (h4 : ∀ w ∈ vx_atS own ic (exN k) nmX, w ∈ tb ∨ w ∈ nwL) (h5 : ∀ w ∈ Cond.classLink own ik (exN k) :: Cond.initialized (exN k) :: vx_atS own ic (exN k) nmX, vx_ot w = true) (h6 : Bundle.fit (exN k) = true)
    (d0 : decode cc pc = .ok (.new ik, 3)) (d3 : decode cc (pc + 3) = .ok (.dup, 1)) (d4 : decode cc (pc + 4) = .ok (.ldc is, 2)) (d6 : decode cc (pc + 6) = .ok (.invokespecial ic, 3)) (d9 : decode cc (pc + 9) = .ok (.athrow, 1))
    (hl : lv_has ls nL lv) (hfr : 5 < R.frames) (hlo : (rest.map fun v => v.category).sum + 82 ≤ R.locals) (hRc : cells + 1 ≤ R.cells) (hRs : slots + 6 ≤ R.slots) (hc : cells + 1 ≤ K) (hs : slots + 6 ≤ N) :
    W p l e R s m args below meth c H locs cells slots (vx_MQ below Qc (TxX D A w (.inr k) σ) args s K N A) (F0 m pc ls rest) := by
  obtain ⟨hx, hb, hr, hml, hown, hts, hlk, hK⟩ := C0
  obtain ⟨sa, hsa⟩ := hK.2.2 _ h3
  refine vx_throwS (names := nmX) hx hb hl0 hown h6 (by decide) (hts _ h1) (hts _ h2) hsa (fun w hw => (h4 w hw).elim (hts _) (fun z => hK.word z)) h5 hZ.1 hZ.2 hS (hl.1.trans hml.symm) d0 d3 d4 d6 d9 (fun x hx => (hT x hx).elim) hfr hlo hRc hRs hlk (fun t hvm hsz hk => ?_) hS.2.2 hc hs
  refine ⟨σ, rfl, ⟨⟨k, rfl, rfl⟩, q, hP.kept (fun j x hx => hk x.1 (hP j x hx).lt), hD⟩, Nat.le_trans hS.1 hsz, fun z hz hz2 => ?_⟩
  rw [hk z (Nat.lt_of_lt_of_le hz hS.1)]
  exact hS.2.1 z hz hz2
end TH
theorem thI_1 : Bundle.fit (exN 1) = true := by decide +kernel
theorem thI_2 : Bundle.fit (exN 2) = true := by decide +kernel
theorem thI_3 : Bundle.fit (exN 3) = true := by decide +kernel
