/-! Own rows: the law's own methods. -/
abbrev StO : Type := StL × (Nat → Int64)
def wO (cI cZ cJ : ClassId) (a : Nat → Nat) (b : Nat) (q : Nat) (u : StO) : va_W := wL cI cZ a q u.1 ++ [(b, .inl (cJ, 1, .inr (.inl u.2)))]
def ncL : List (String × String) := [(exN 1, exN 2), (exN 1, exN 3), (exN 2, exN 1), (exN 2, exN 3), (exN 3, exN 1), (exN 3, exN 2)]
abbrev KO (D : va_G) (cI cZ cJ : ClassId) (U : State) : Prop := KN D [(cI, .int), (cZ, .boolean)] U ∧ va_K D vwCl [(cJ, .long)] U ∧ ∀ q ∈ ncL, va_Nc q.1 q.2 U
abbrev HpM (l : Launch) (y : MethodName) (cc : ByteArray) (nL : Nat) (hh : List (Nat × Nat × Nat × Nat)) (fr lc : Nat) (D : va_G) (cI cZ cJ : ClassId) (av : List Value) (a : Nat → Nat) (b q : Nat) (u : StO) (res : Int32 × StO × Nat × Nat) : Prop :=
  ∀ sz, Met l y (Cond.codeWith y cc nL (some .int) hh :: tb) (rmK fr lc res.2.2.1 res.2.2.2) (va_Pc av (fun U => U.heap.size = sz ∧ va_P D vwCl (wO cI cZ cJ a b q u) U.heap ∧ KO D cI cZ cJ U ∧ va_D (fun _ => True) (wO cI cZ cJ a b q u) ∧ Zs (va_A (wO cI cZ cJ a b q u) sz) U U.heap))
    (va_Qi (fun r u' => r = res.1 ∧ u' = res.2.1) (fun u' t => ∃ q', va_P D vwCl (wO cI cZ cJ a b q' u') t.heap ∧ va_D (va_A (wO cI cZ cJ a b q u) sz) (wO cI cZ cJ a b q' u')) (va_A (wO cI cZ cJ a b q u) sz)) res.2.2.1 res.2.2.2 (va_A (wO cI cZ cJ a b q u) sz)
theorem jo_C {cI cZ cJ : ClassId} {a : Nat → Nat} {b q : Nat} {u : StO} : [0, 1, 2, 3, 4, 5, 6, 7, 8, 9, 10, 11, 12, 13, 14, 15, 16, 17, 18, 19, 20].map (fun (i : Nat) => (wO cI cZ cJ a b q u)[i]?) = (wL cI cZ a q u.1).map some := rfl
theorem jo_R {cI cZ cJ : ClassId} {a : Nat → Nat} {b q : Nat} {u : StO} : [21].map (fun (i : Nat) => (wO cI cZ cJ a b q u)[i]?) = ([21].filterMap (fun (i : Nat) => (wO cI cZ cJ a b q u)[i]?)).map some := rfl
theorem jo_W {cI cZ cJ : ClassId} {a : Nat → Nat} {b q : Nat} {u : StO} {v : StL} (q1 : Nat) : [1, 2, 3, 4, 5, 6, 7, 8, 9, 10, 11, 12, 13, 14, 15, 16, 17, 18, 19, 20, 21, 0].map (fun (i : Nat) => ([21].filterMap (fun (i : Nat) => (wO cI cZ cJ a b q u)[i]?) ++ wL cI cZ a q1 v)[i]?) = (wO cI cZ cJ a b q1 (v, u.2)).map some := rfl
theorem jo_S {cI cZ cJ : ClassId} {a : Nat → Nat} {b q : Nat} {u : StO} {x : Int64} : (wO cI cZ cJ a b q u).set 21 (b, .inl (cJ, 1, .inr (.inl (vp_updL u.2 (0 : Int32).toNatClampNeg x)))) = wO cI cZ cJ a b q (u.1, vp_updL u.2 0 x) := rfl
theorem in01 : vp_in 0 1 := by
  unfold vp_in
  decide
