theorem wd_487 : Cond.methodLink "LeastBounds$Classes" 38 ⟨"LeastBounds$Classes", "add", "(ZZ)I"⟩ ∈ tb := mt1 (List.mem_of_getElem? (i := 36) rfl) rfl
theorem wd_488 : Cond.methodLink "LeastBounds$Classes" 42 ⟨"LeastBounds$Classes", "put", "(II)I"⟩ ∈ tb := mt1 (List.mem_of_getElem? (i := 53) rfl) rfl
theorem wd_489 : Cond.methodLink "LeastBounds$Classes" 3 ⟨"java/lang/Object", "<init>", "()V"⟩ ∈ tb := mt1 (List.mem_of_getElem? (i := 35) rfl) rfl
theorem wd_490 : Cond.instanceMethod ⟨"java/lang/Object", "<init>", "()V"⟩ ∈ tb := mt1 (List.mem_of_getElem? (i := 22) rfl) rfl
theorem wd_491 : Cond.code ⟨"java/lang/Object", "<init>", "()V"⟩ object_method_1_code 1 none ∈ tb := mt1 (List.mem_of_getElem? (i := 23) rfl) rfl
theorem wd_492 : Cond.methodLink "LeastBounds$Types" 56 ⟨"LeastBounds$Types", "settle", "()V"⟩ ∈ tb := mt1 (List.mem_of_getElem? (i := 124) rfl) rfl
theorem wd_493 : Cond.methodLink "LeastBounds$Types" 53 ⟨"LeastBounds$Types", "makeNamed", "(II)I"⟩ ∈ tb := mt1 (List.mem_of_getElem? (i := 109) rfl) rfl
theorem wd_494 : Cond.methodLink "LeastBounds$Types" 3 ⟨"java/lang/Object", "<init>", "()V"⟩ ∈ tb := mt1 (List.mem_of_getElem? (i := 104) rfl) rfl
theorem wd_495 : Cond.methodLink "LeastBounds$Answers" 3 ⟨"java/lang/Object", "<init>", "()V"⟩ ∈ tb := mt1 (List.mem_of_getElem? (i := 170) rfl) rfl
theorem wd_496 : Cond.methodLink "LeastBoundsModel" 1 ⟨"java/lang/Object", "<init>", "()V"⟩ ∈ tb := mt3 (List.mem_of_getElem? (i := 202) rfl) rfl
theorem wd_497 : Cond.constant "LeastBoundsModel" 53 (90000) ∈ tb := mt3 (List.mem_of_getElem? (i := 203) rfl) rfl
theorem wd_498 : Cond.methodLink "LeastBounds" 1 ⟨"java/lang/Object", "<init>", "()V"⟩ ∈ tb := mt1 (List.mem_of_getElem? (i := 21) rfl) rfl
theorem wd_499 : Cond.instantiable "LeastBounds$Classes" 8 ∈ tb := mt1 (List.mem_of_getElem? (i := 31) rfl) rfl
theorem wd_500 : Cond.classLink "LeastBounds" 22 "LeastBounds$Classes" ∈ tb := mt1 (List.mem_of_getElem? (i := 30) rfl) rfl
theorem wd_501 : Cond.code ⟨"LeastBounds$Classes", "<init>", "()V"⟩ prog_3_method_1_code 2 none ∈ tb := mt1 (List.mem_of_getElem? (i := 34) rfl) rfl
theorem wd_502 : Cond.instanceMethod ⟨"LeastBounds$Classes", "<init>", "()V"⟩ ∈ tb := mt1 (List.mem_of_getElem? (i := 33) rfl) rfl
theorem wd_503 : Cond.methodLink "LeastBounds" 24 ⟨"LeastBounds$Classes", "<init>", "()V"⟩ ∈ tb := mt1 (List.mem_of_getElem? (i := 32) rfl) rfl
theorem wd_504 : Cond.instantiable "LeastBounds$Types" 12 ∈ tb := mt1 (List.mem_of_getElem? (i := 100) rfl) rfl
theorem wd_505 : Cond.classLink "LeastBounds" 29 "LeastBounds$Types" ∈ tb := mt1 (List.mem_of_getElem? (i := 99) rfl) rfl
theorem wd_506 : Cond.code ⟨"LeastBounds$Types", "<init>", "()V"⟩ prog_4_method_1_code 2 none ∈ tb := mt1 (List.mem_of_getElem? (i := 103) rfl) rfl
theorem wd_507 : Cond.instanceMethod ⟨"LeastBounds$Types", "<init>", "()V"⟩ ∈ tb := mt1 (List.mem_of_getElem? (i := 102) rfl) rfl
theorem wd_508 : Cond.methodLink "LeastBounds" 31 ⟨"LeastBounds$Types", "<init>", "()V"⟩ ∈ tb := mt1 (List.mem_of_getElem? (i := 101) rfl) rfl
theorem wd_509 : Cond.instantiable "LeastBounds$Answers" 2 ∈ tb := mt1 (List.mem_of_getElem? (i := 166) rfl) rfl
theorem wd_510 : Cond.classLink "LeastBounds" 36 "LeastBounds$Answers" ∈ tb := mt1 (List.mem_of_getElem? (i := 165) rfl) rfl
theorem wd_511 : Cond.code ⟨"LeastBounds$Answers", "<init>", "()V"⟩ prog_2_method_1_code 1 none ∈ tb := mt1 (List.mem_of_getElem? (i := 169) rfl) rfl
theorem wd_512 : Cond.instanceMethod ⟨"LeastBounds$Answers", "<init>", "()V"⟩ ∈ tb := mt1 (List.mem_of_getElem? (i := 168) rfl) rfl
theorem wd_513 : Cond.methodLink "LeastBoundsLaw" 7 ⟨"LeastBounds", "declare", "(ZZ)I"⟩ ∈ tb := mt1 (List.mem_of_getElem? (i := 204) rfl) rfl
theorem wd_514 : Cond.code ⟨"LeastBounds", "declare", "(ZZ)I"⟩ prog_1_method_2_code 3 (some FieldType.int) ∈ tb := mt1 (List.mem_of_getElem? (i := 207) rfl) rfl
theorem wd_515 : Cond.instanceMethod ⟨"LeastBounds", "declare", "(ZZ)I"⟩ ∈ tb := mt1 (List.mem_of_getElem? (i := 205) rfl) rfl
theorem wd_516 : Cond.selects "LeastBounds" ⟨"LeastBounds", "declare", "(ZZ)I"⟩ ⟨"LeastBounds", "declare", "(ZZ)I"⟩ ∈ tb := mt1 (List.mem_of_getElem? (i := 206) rfl) rfl
theorem wd_517 : Cond.classLink "LeastBoundsLaw" 13 "java/lang/IllegalStateException" ∈ tb := mt1 (List.mem_of_getElem? (i := 203) rfl) rfl
theorem wd_518 : Cond.methodLink "LeastBoundsLaw" 15 ⟨"LeastBounds", "above", "(II)I"⟩ ∈ tb := mt2 (List.mem_of_getElem? (i := 51) rfl) rfl
theorem wd_519 : Cond.code ⟨"LeastBounds", "above", "(II)I"⟩ prog_1_method_3_code 3 (some FieldType.int) ∈ tb := mt2 (List.mem_of_getElem? (i := 54) rfl) rfl
theorem wd_520 : Cond.instanceMethod ⟨"LeastBounds", "above", "(II)I"⟩ ∈ tb := mt2 (List.mem_of_getElem? (i := 52) rfl) rfl
theorem wd_521 : Cond.selects "LeastBounds" ⟨"LeastBounds", "above", "(II)I"⟩ ⟨"LeastBounds", "above", "(II)I"⟩ ∈ tb := mt2 (List.mem_of_getElem? (i := 53) rfl) rfl
theorem wd_522 : Cond.classLink "LeastBoundsLaw" 19 "java/lang/IndexOutOfBoundsException" ∈ tb := mt2 (List.mem_of_getElem? (i := 49) rfl) rfl
theorem wd_523 : Cond.classLink "LeastBoundsLaw" 21 "java/lang/IllegalArgumentException" ∈ tb := mt2 (List.mem_of_getElem? (i := 50) rfl) rfl
theorem wd_524 : Cond.methodLink "LeastBoundsLaw" 23 ⟨"LeastBounds", "named", "(III)I"⟩ ∈ tb := mt2 (List.mem_of_getElem? (i := 166) rfl) rfl
theorem wd_525 : Cond.code ⟨"LeastBounds", "named", "(III)I"⟩ prog_1_method_4_code 5 (some FieldType.int) ∈ tb := mt2 (List.mem_of_getElem? (i := 169) rfl) rfl
theorem wd_526 : Cond.instanceMethod ⟨"LeastBounds", "named", "(III)I"⟩ ∈ tb := mt2 (List.mem_of_getElem? (i := 167) rfl) rfl
theorem wd_527 : Cond.selects "LeastBounds" ⟨"LeastBounds", "named", "(III)I"⟩ ⟨"LeastBounds", "named", "(III)I"⟩ ∈ tb := mt2 (List.mem_of_getElem? (i := 168) rfl) rfl
theorem wd_528 : Cond.methodLink "LeastBoundsLaw" 27 ⟨"LeastBounds", "array", "(I)I"⟩ ∈ tb := mt2 (List.mem_of_getElem? (i := 187) rfl) rfl
theorem wd_529 : Cond.code ⟨"LeastBounds", "array", "(I)I"⟩ prog_1_method_5_code 2 (some FieldType.int) ∈ tb := mt2 (List.mem_of_getElem? (i := 190) rfl) rfl
theorem wd_530 : Cond.instanceMethod ⟨"LeastBounds", "array", "(I)I"⟩ ∈ tb := mt2 (List.mem_of_getElem? (i := 188) rfl) rfl
theorem wd_531 : Cond.selects "LeastBounds" ⟨"LeastBounds", "array", "(I)I"⟩ ⟨"LeastBounds", "array", "(I)I"⟩ ∈ tb := mt2 (List.mem_of_getElem? (i := 189) rfl) rfl
theorem wd_532 : Cond.methodLink "LeastBoundsLaw" 31 ⟨"LeastBounds", "upper", "(II)I"⟩ ∈ tb := mt2 (List.mem_of_getElem? (i := 198) rfl) rfl
theorem wd_533 : Cond.code ⟨"LeastBounds", "upper", "(II)I"⟩ prog_1_method_6_code 3 (some FieldType.int) ∈ tb := mt2 (List.mem_of_getElem? (i := 201) rfl) rfl
theorem wd_534 : Cond.instanceMethod ⟨"LeastBounds", "upper", "(II)I"⟩ ∈ tb := mt2 (List.mem_of_getElem? (i := 199) rfl) rfl
theorem wd_535 : Cond.selects "LeastBounds" ⟨"LeastBounds", "upper", "(II)I"⟩ ⟨"LeastBounds", "upper", "(II)I"⟩ ∈ tb := mt2 (List.mem_of_getElem? (i := 200) rfl) rfl
theorem wd_536 : Cond.methodLink "LeastBoundsLaw" 34 ⟨"LeastBounds", "lower", "(II)I"⟩ ∈ tb := mt3 (List.mem_of_getElem? (i := 61) rfl) rfl
theorem wd_537 : Cond.code ⟨"LeastBounds", "lower", "(II)I"⟩ prog_1_method_7_code 4 (some FieldType.int) ∈ tb := mt3 (List.mem_of_getElem? (i := 64) rfl) rfl
theorem wd_538 : Cond.instanceMethod ⟨"LeastBounds", "lower", "(II)I"⟩ ∈ tb := mt3 (List.mem_of_getElem? (i := 62) rfl) rfl
theorem wd_539 : Cond.selects "LeastBounds" ⟨"LeastBounds", "lower", "(II)I"⟩ ⟨"LeastBounds", "lower", "(II)I"⟩ ∈ tb := mt3 (List.mem_of_getElem? (i := 63) rfl) rfl
theorem wd_540 : Cond.methodLink "LeastBoundsLaw" 37 ⟨"LeastBounds", "isBelow", "(II)Z"⟩ ∈ tb := mt3 (List.mem_of_getElem? (i := 110) rfl) rfl
theorem wd_541 : Cond.code ⟨"LeastBounds", "isBelow", "(II)Z"⟩ prog_1_method_8_code 3 (some FieldType.boolean) ∈ tb := mt3 (List.mem_of_getElem? (i := 113) rfl) rfl
theorem wd_542 : Cond.instanceMethod ⟨"LeastBounds", "isBelow", "(II)Z"⟩ ∈ tb := mt3 (List.mem_of_getElem? (i := 111) rfl) rfl
theorem wd_543 : Cond.selects "LeastBounds" ⟨"LeastBounds", "isBelow", "(II)Z"⟩ ⟨"LeastBounds", "isBelow", "(II)Z"⟩ ∈ tb := mt3 (List.mem_of_getElem? (i := 112) rfl) rfl
theorem wd_544 : Cond.methodLink "LeastBoundsLaw" 41 ⟨"LeastBounds", "look", "(II)I"⟩ ∈ tb := mt3 (List.mem_of_getElem? (i := 117) rfl) rfl
theorem wd_545 : Cond.code ⟨"LeastBounds", "look", "(II)I"⟩ prog_1_method_9_code 4 (some FieldType.int) ∈ tb := mt3 (List.mem_of_getElem? (i := 120) rfl) rfl
theorem wd_546 : Cond.instanceMethod ⟨"LeastBounds", "look", "(II)I"⟩ ∈ tb := mt3 (List.mem_of_getElem? (i := 118) rfl) rfl
theorem wd_547 : Cond.selects "LeastBounds" ⟨"LeastBounds", "look", "(II)I"⟩ ⟨"LeastBounds", "look", "(II)I"⟩ ∈ tb := mt3 (List.mem_of_getElem? (i := 119) rfl) rfl
theorem wd_548 : Cond.methodLink "LeastBoundsLaw" 44 ⟨"LeastBounds", "box", "(I)I"⟩ ∈ tb := mt3 (List.mem_of_getElem? (i := 124) rfl) rfl
theorem wd_549 : Cond.code ⟨"LeastBounds", "box", "(I)I"⟩ prog_1_method_10_code 2 (some FieldType.int) ∈ tb := mt3 (List.mem_of_getElem? (i := 127) rfl) rfl
theorem wd_550 : Cond.instanceMethod ⟨"LeastBounds", "box", "(I)I"⟩ ∈ tb := mt3 (List.mem_of_getElem? (i := 125) rfl) rfl
theorem wd_551 : Cond.selects "LeastBounds" ⟨"LeastBounds", "box", "(I)I"⟩ ⟨"LeastBounds", "box", "(I)I"⟩ ∈ tb := mt3 (List.mem_of_getElem? (i := 126) rfl) rfl
theorem wd_552 : Cond.methodLink "LeastBoundsLaw" 47 ⟨"LeastBounds", "type", "(II)I"⟩ ∈ tb := mt3 (List.mem_of_getElem? (i := 131) rfl) rfl
theorem wd_553 : Cond.code ⟨"LeastBounds", "type", "(II)I"⟩ prog_1_method_11_code 3 (some FieldType.int) ∈ tb := mt3 (List.mem_of_getElem? (i := 134) rfl) rfl
theorem wd_554 : Cond.instanceMethod ⟨"LeastBounds", "type", "(II)I"⟩ ∈ tb := mt3 (List.mem_of_getElem? (i := 132) rfl) rfl
theorem wd_555 : Cond.selects "LeastBounds" ⟨"LeastBounds", "type", "(II)I"⟩ ⟨"LeastBounds", "type", "(II)I"⟩ ∈ tb := mt3 (List.mem_of_getElem? (i := 133) rfl) rfl
theorem wd_556 : Cond.methodLink "LeastBoundsLaw" 50 ⟨"LeastBounds", "part", "(II)I"⟩ ∈ tb := mt3 (List.mem_of_getElem? (i := 140) rfl) rfl
theorem wd_557 : Cond.code ⟨"LeastBounds", "part", "(II)I"⟩ prog_1_method_12_code 3 (some FieldType.int) ∈ tb := mt3 (List.mem_of_getElem? (i := 143) rfl) rfl
theorem wd_558 : Cond.instanceMethod ⟨"LeastBounds", "part", "(II)I"⟩ ∈ tb := mt3 (List.mem_of_getElem? (i := 141) rfl) rfl
theorem wd_559 : Cond.selects "LeastBounds" ⟨"LeastBounds", "part", "(II)I"⟩ ⟨"LeastBounds", "part", "(II)I"⟩ ∈ tb := mt3 (List.mem_of_getElem? (i := 142) rfl) rfl
theorem wd_560 : Cond.methodLink "LeastBoundsLaw" 53 ⟨"LeastBounds", "common", "(III)I"⟩ ∈ tb := mt3 (List.mem_of_getElem? (i := 148) rfl) rfl
theorem wd_561 : Cond.code ⟨"LeastBounds", "common", "(III)I"⟩ prog_1_method_13_code 4 (some FieldType.int) ∈ tb := mt3 (List.mem_of_getElem? (i := 151) rfl) rfl
theorem wd_562 : Cond.instanceMethod ⟨"LeastBounds", "common", "(III)I"⟩ ∈ tb := mt3 (List.mem_of_getElem? (i := 149) rfl) rfl
theorem wd_563 : Cond.selects "LeastBounds" ⟨"LeastBounds", "common", "(III)I"⟩ ⟨"LeastBounds", "common", "(III)I"⟩ ∈ tb := mt3 (List.mem_of_getElem? (i := 150) rfl) rfl
theorem wd_564 : Cond.methodLink "LeastBoundsLaw" 56 ⟨"LeastBounds", "isUnder", "(II)Z"⟩ ∈ tb := mt3 (List.mem_of_getElem? (i := 162) rfl) rfl
theorem wd_565 : Cond.code ⟨"LeastBounds", "isUnder", "(II)Z"⟩ prog_1_method_14_code 3 (some FieldType.boolean) ∈ tb := mt3 (List.mem_of_getElem? (i := 165) rfl) rfl
theorem wd_566 : Cond.instanceMethod ⟨"LeastBounds", "isUnder", "(II)Z"⟩ ∈ tb := mt3 (List.mem_of_getElem? (i := 163) rfl) rfl
theorem wd_567 : Cond.selects "LeastBounds" ⟨"LeastBounds", "isUnder", "(II)Z"⟩ ⟨"LeastBounds", "isUnder", "(II)Z"⟩ ∈ tb := mt3 (List.mem_of_getElem? (i := 164) rfl) rfl
theorem wd_568 : Cond.methodLink "LeastBoundsLaw" 59 ⟨"LeastBounds", "classed", "(II)I"⟩ ∈ tb := mt3 (List.mem_of_getElem? (i := 170) rfl) rfl
theorem wd_569 : Cond.code ⟨"LeastBounds", "classed", "(II)I"⟩ prog_1_method_15_code 3 (some FieldType.int) ∈ tb := mt3 (List.mem_of_getElem? (i := 173) rfl) rfl
theorem wd_570 : Cond.instanceMethod ⟨"LeastBounds", "classed", "(II)I"⟩ ∈ tb := mt3 (List.mem_of_getElem? (i := 171) rfl) rfl
theorem wd_571 : Cond.selects "LeastBounds" ⟨"LeastBounds", "classed", "(II)I"⟩ ⟨"LeastBounds", "classed", "(II)I"⟩ ∈ tb := mt3 (List.mem_of_getElem? (i := 172) rfl) rfl
theorem wd_572 : Cond.methodLink "LeastBoundsLaw" 62 ⟨"LeastBounds", "direct", "(III)I"⟩ ∈ tb := mt3 (List.mem_of_getElem? (i := 179) rfl) rfl
theorem wd_573 : Cond.code ⟨"LeastBounds", "direct", "(III)I"⟩ prog_1_method_16_code 4 (some FieldType.int) ∈ tb := mt3 (List.mem_of_getElem? (i := 182) rfl) rfl
theorem wd_574 : Cond.instanceMethod ⟨"LeastBounds", "direct", "(III)I"⟩ ∈ tb := mt3 (List.mem_of_getElem? (i := 180) rfl) rfl
theorem wd_575 : Cond.selects "LeastBounds" ⟨"LeastBounds", "direct", "(III)I"⟩ ⟨"LeastBounds", "direct", "(III)I"⟩ ∈ tb := mt3 (List.mem_of_getElem? (i := 181) rfl) rfl
theorem wd_576 : Cond.methodLink "LeastBoundsLaw" 65 ⟨"LeastBounds", "told", "(I)I"⟩ ∈ tb := mt3 (List.mem_of_getElem? (i := 189) rfl) rfl
theorem wd_577 : Cond.code ⟨"LeastBounds", "told", "(I)I"⟩ prog_1_method_17_code 2 (some FieldType.int) ∈ tb := mt3 (List.mem_of_getElem? (i := 192) rfl) rfl
theorem wd_578 : Cond.instanceMethod ⟨"LeastBounds", "told", "(I)I"⟩ ∈ tb := mt3 (List.mem_of_getElem? (i := 190) rfl) rfl
theorem wd_579 : Cond.selects "LeastBounds" ⟨"LeastBounds", "told", "(I)I"⟩ ⟨"LeastBounds", "told", "(I)I"⟩ ∈ tb := mt3 (List.mem_of_getElem? (i := 191) rfl) rfl
theorem ws_M_set_depth {cI cZ : ClassId} {a : Nat → Nat} {q : Nat} {σ : StM} {v : Int32} : (wM cI cZ a q σ).set 0 ((a 20), .inr (4, [.int (M_code σ), .int (M_depth σ), .int (M_classes σ), .int (M_generics σ), .ref (a 21), .ref (a 22), .ref (a 23), .ref (a 24), .ref (a 25), .ref (a 26), .int (M_types σ), .ref (a 27), .ref (a 28), .ref (a 29), .ref (a 30), .ref (a 31), .ref (a 32), .ref (a 33), .int (M_full σ), .int (M_found σ), .int (M_foundHow σ), .int (M_foundType σ), .ref (a 34), .ref (a 35), .int (M_reckoned σ), .int (M_high σ), .ref (a 36), .ref (a 37), .ref (a 38), .ref (a 39), .ref (a 40), .ref (a 41), .ref (a 42), .ref (a 43), .int (M_answer σ)].set 1 (.int v))) = (wM cI cZ a q (M_set_depth σ v)) := rfl
