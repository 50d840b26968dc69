theorem wd_487 : Cond.methodLink "LeastBounds$Classes" 38 ⟨"LeastBounds$Classes", "add", "(ZZ)I"⟩ ∈ tb := mt1 (List.mem_of_getElem? (i := 36) rfl) rfl
theorem wd_488 : Cond.methodLink "LeastBounds$Classes" 42 ⟨"LeastBounds$Classes", "put", "(II)I"⟩ ∈ tb := mt1 (List.mem_of_getElem? (i := 53) rfl) rfl
theorem wd_489 : Cond.methodLink "LeastBounds$Classes" 3 ⟨"java/lang/Object", "<init>", "()V"⟩ ∈ tb := mt1 (List.mem_of_getElem? (i := 35) rfl) rfl
theorem wd_490 : Cond.instanceMethod ⟨"java/lang/Object", "<init>", "()V"⟩ ∈ tb := mt1 (List.mem_of_getElem? (i := 22) rfl) rfl
theorem wd_491 : Cond.code ⟨"java/lang/Object", "<init>", "()V"⟩ object_method_1_code 1 none ∈ tb := mt1 (List.mem_of_getElem? (i := 23) rfl) rfl
theorem wd_492 : Cond.methodLink "LeastBounds$Types" 56 ⟨"LeastBounds$Types", "settle", "()V"⟩ ∈ tb := mt1 (List.mem_of_getElem? (i := 124) rfl) rfl
theorem wd_493 : Cond.methodLink "LeastBounds$Types" 53 ⟨"LeastBounds$Types", "makeNamed", "(II)I"⟩ ∈ tb := mt1 (List.mem_of_getElem? (i := 109) rfl) rfl
theorem wd_494 : Cond.methodLink "LeastBounds$Types" 3 ⟨"java/lang/Object", "<init>", "()V"⟩ ∈ tb := mt1 (List.mem_of_getElem? (i := 104) rfl) rfl
theorem wd_495 : Cond.methodLink "LeastBounds$Answers" 3 ⟨"java/lang/Object", "<init>", "()V"⟩ ∈ tb := mt1 (List.mem_of_getElem? (i := 170) rfl) rfl
theorem wd_496 : Cond.methodLink "LeastBoundsModel" 1 ⟨"java/lang/Object", "<init>", "()V"⟩ ∈ tb := mt3 (List.mem_of_getElem? (i := 202) rfl) rfl
theorem wd_497 : Cond.constant "LeastBoundsModel" 53 (90000) ∈ tb := mt3 (List.mem_of_getElem? (i := 203) rfl) rfl
theorem ws_M_set_depth {cI cZ : ClassId} {a : Nat → Nat} {q : Nat} {σ : StM} {v : Int32} : (wM cI cZ a q σ).set 0 ((a 20), .inr (4, [.int (M_code σ), .int (M_depth σ), .int (M_classes σ), .int (M_generics σ), .ref (a 21), .ref (a 22), .ref (a 23), .ref (a 24), .ref (a 25), .ref (a 26), .int (M_types σ), .ref (a 27), .ref (a 28), .ref (a 29), .ref (a 30), .ref (a 31), .ref (a 32), .ref (a 33), .int (M_full σ), .int (M_found σ), .int (M_foundHow σ), .int (M_foundType σ), .ref (a 34), .ref (a 35), .int (M_reckoned σ), .int (M_high σ), .ref (a 36), .ref (a 37), .ref (a 38), .ref (a 39), .ref (a 40), .ref (a 41), .ref (a 42), .ref (a 43), .int (M_answer σ)].set 1 (.int v))) = (wM cI cZ a q (M_set_depth σ v)) := rfl
