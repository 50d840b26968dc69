theorem wd_487 : Cond.methodLink "LeastBounds$Classes" 38 ⟨"LeastBounds$Classes", "add", "(ZZ)I"⟩ ∈ tb := mt1 (List.mem_of_getElem? (i := 36) rfl) rfl
theorem wd_488 : Cond.methodLink "LeastBounds$Classes" 42 ⟨"LeastBounds$Classes", "put", "(II)I"⟩ ∈ tb := mt1 (List.mem_of_getElem? (i := 53) rfl) rfl
theorem wd_489 : Cond.methodLink "LeastBounds$Classes" 3 ⟨"java/lang/Object", "<init>", "()V"⟩ ∈ tb := mt1 (List.mem_of_getElem? (i := 35) rfl) rfl
theorem wd_490 : Cond.instanceMethod ⟨"java/lang/Object", "<init>", "()V"⟩ ∈ tb := mt1 (List.mem_of_getElem? (i := 22) rfl) rfl
theorem wd_491 : Cond.code ⟨"java/lang/Object", "<init>", "()V"⟩ object_method_1_code 1 none ∈ tb := mt1 (List.mem_of_getElem? (i := 23) rfl) rfl
theorem wd_492 : Cond.methodLink "LeastBounds$Types" 56 ⟨"LeastBounds$Types", "settle", "()V"⟩ ∈ tb := mt1 (List.mem_of_getElem? (i := 124) rfl) rfl
theorem wd_493 : Cond.methodLink "LeastBounds$Types" 53 ⟨"LeastBounds$Types", "makeNamed", "(II)I"⟩ ∈ tb := mt1 (List.mem_of_getElem? (i := 109) rfl) rfl
theorem wd_494 : Cond.methodLink "LeastBounds$Types" 3 ⟨"java/lang/Object", "<init>", "()V"⟩ ∈ tb := mt1 (List.mem_of_getElem? (i := 104) rfl) rfl
theorem wd_495 : Cond.methodLink "LeastBounds$Answers" 3 ⟨"java/lang/Object", "<init>", "()V"⟩ ∈ tb := mt1 (List.mem_of_getElem? (i := 170) rfl) rfl
theorem wd_496 : Cond.methodLink "LeastBoundsModel" 1 ⟨"java/lang/Object", "<init>", "()V"⟩ ∈ tb := mt3 (List.mem_of_getElem? (i := 202) rfl) rfl
theorem wd_497 : Cond.constant "LeastBoundsModel" 53 (90000) ∈ tb := mt3 (List.mem_of_getElem? (i := 203) rfl) rfl
theorem wd_498 : Cond.methodLink "LeastBounds" 1 ⟨"java/lang/Object", "<init>", "()V"⟩ ∈ tb := mt1 (List.mem_of_getElem? (i := 21) rfl) rfl
theorem wd_499 : Cond.instantiable "LeastBounds$Classes" 8 ∈ tb := mt1 (List.mem_of_getElem? (i := 31) rfl) rfl
theorem wd_500 : Cond.classLink "LeastBounds" 22 "LeastBounds$Classes" ∈ tb := mt1 (List.mem_of_getElem? (i := 30) rfl) rfl
theorem wd_501 : Cond.code ⟨"LeastBounds$Classes", "<init>", "()V"⟩ prog_3_method_1_code 2 none ∈ tb := mt1 (List.mem_of_getElem? (i := 34) rfl) rfl
theorem wd_502 : Cond.instanceMethod ⟨"LeastBounds$Classes", "<init>", "()V"⟩ ∈ tb := mt1 (List.mem_of_getElem? (i := 33) rfl) rfl
theorem wd_503 : Cond.methodLink "LeastBounds" 24 ⟨"LeastBounds$Classes", "<init>", "()V"⟩ ∈ tb := mt1 (List.mem_of_getElem? (i := 32) rfl) rfl
theorem wd_504 : Cond.instantiable "LeastBounds$Types" 12 ∈ tb := mt1 (List.mem_of_getElem? (i := 100) rfl) rfl
theorem wd_505 : Cond.classLink "LeastBounds" 29 "LeastBounds$Types" ∈ tb := mt1 (List.mem_of_getElem? (i := 99) rfl) rfl
theorem wd_506 : Cond.code ⟨"LeastBounds$Types", "<init>", "()V"⟩ prog_4_method_1_code 2 none ∈ tb := mt1 (List.mem_of_getElem? (i := 103) rfl) rfl
theorem wd_507 : Cond.instanceMethod ⟨"LeastBounds$Types", "<init>", "()V"⟩ ∈ tb := mt1 (List.mem_of_getElem? (i := 102) rfl) rfl
theorem wd_508 : Cond.methodLink "LeastBounds" 31 ⟨"LeastBounds$Types", "<init>", "()V"⟩ ∈ tb := mt1 (List.mem_of_getElem? (i := 101) rfl) rfl
theorem wd_509 : Cond.instantiable "LeastBounds$Answers" 2 ∈ tb := mt1 (List.mem_of_getElem? (i := 166) rfl) rfl
theorem wd_510 : Cond.classLink "LeastBounds" 36 "LeastBounds$Answers" ∈ tb := mt1 (List.mem_of_getElem? (i := 165) rfl) rfl
theorem wd_511 : Cond.code ⟨"LeastBounds$Answers", "<init>", "()V"⟩ prog_2_method_1_code 1 none ∈ tb := mt1 (List.mem_of_getElem? (i := 169) rfl) rfl
theorem wd_512 : Cond.instanceMethod ⟨"LeastBounds$Answers", "<init>", "()V"⟩ ∈ tb := mt1 (List.mem_of_getElem? (i := 168) rfl) rfl
theorem ws_M_set_depth {cI cZ : ClassId} {a : Nat → Nat} {q : Nat} {σ : StM} {v : Int32} : (wM cI cZ a q σ).set 0 ((a 20), .inr (4, [.int (M_code σ), .int (M_depth σ), .int (M_classes σ), .int (M_generics σ), .ref (a 21), .ref (a 22), .ref (a 23), .ref (a 24), .ref (a 25), .ref (a 26), .int (M_types σ), .ref (a 27), .ref (a 28), .ref (a 29), .ref (a 30), .ref (a 31), .ref (a 32), .ref (a 33), .int (M_full σ), .int (M_found σ), .int (M_foundHow σ), .int (M_foundType σ), .ref (a 34), .ref (a 35), .int (M_reckoned σ), .int (M_high σ), .ref (a 36), .ref (a 37), .ref (a 38), .ref (a 39), .ref (a 40), .ref (a 41), .ref (a 42), .ref (a 43), .int (M_answer σ)].set 1 (.int v))) = (wM cI cZ a q (M_set_depth σ v)) := rfl
