theorem wd_580 : Cond.codeWith ⟨"LeastBoundsLaw", "declare", "(LLeastBounds;ZZ[J)I"⟩ method_3_code 5 (some FieldType.int) [(0, 10, 13, 13)] ∈ tb := mt1 (List.mem_of_getElem? (i := 202) rfl) rfl
theorem wd_581 : Cond.static ⟨"LeastBoundsLaw", "declare", "(LLeastBounds;ZZ[J)I"⟩ ∈ tb := mt1 (List.mem_of_getElem? (i := 201) rfl) rfl
theorem wd_582 : Cond.initialized "LeastBoundsLaw" ∈ tb := mt1 (List.mem_of_getElem? (i := 0) rfl) rfl
theorem wd_583 : Cond.methodLink "LeastBoundsLaw" 80 ⟨"LeastBoundsLaw", "declare", "(LLeastBounds;ZZ[J)I"⟩ ∈ tb := mt1 (List.mem_of_getElem? (i := 200) rfl) rfl
theorem wd_584 : Cond.methodLink "LeastBoundsLaw" 83 ⟨"LeastBoundsModel", "declare", "(ZZ)I"⟩ ∈ tb := mt4 (List.mem_of_getElem? (i := 82) rfl) rfl
theorem wd_585 : Cond.code ⟨"LeastBoundsModel", "declare", "(ZZ)I"⟩ prog_6_method_19_code 3 (some FieldType.int) ∈ tb := mt4 (List.mem_of_getElem? (i := 85) rfl) rfl
theorem wd_586 : Cond.instanceMethod ⟨"LeastBoundsModel", "declare", "(ZZ)I"⟩ ∈ tb := mt4 (List.mem_of_getElem? (i := 83) rfl) rfl
theorem wd_587 : Cond.selects "LeastBoundsModel" ⟨"LeastBoundsModel", "declare", "(ZZ)I"⟩ ⟨"LeastBoundsModel", "declare", "(ZZ)I"⟩ ∈ tb := mt4 (List.mem_of_getElem? (i := 84) rfl) rfl
theorem wd_588 : Cond.codeWith ⟨"LeastBoundsLaw", "above", "(LLeastBounds;II[J)I"⟩ method_4_code 5 (some FieldType.int) [(0, 10, 13, 19), (0, 10, 17, 13), (0, 10, 21, 21)] ∈ tb := mt2 (List.mem_of_getElem? (i := 48) rfl) rfl
theorem wd_589 : Cond.static ⟨"LeastBoundsLaw", "above", "(LLeastBounds;II[J)I"⟩ ∈ tb := mt2 (List.mem_of_getElem? (i := 47) rfl) rfl
theorem wd_590 : Cond.methodLink "LeastBoundsLaw" 84 ⟨"LeastBoundsLaw", "above", "(LLeastBounds;II[J)I"⟩ ∈ tb := mt2 (List.mem_of_getElem? (i := 46) rfl) rfl
theorem wd_591 : Cond.methodLink "LeastBoundsLaw" 87 ⟨"LeastBoundsModel", "above", "(II)I"⟩ ∈ tb := mt4 (List.mem_of_getElem? (i := 90) rfl) rfl
theorem wd_592 : Cond.code ⟨"LeastBoundsModel", "above", "(II)I"⟩ prog_6_method_22_code 7 (some FieldType.int) ∈ tb := mt4 (List.mem_of_getElem? (i := 93) rfl) rfl
theorem wd_593 : Cond.instanceMethod ⟨"LeastBoundsModel", "above", "(II)I"⟩ ∈ tb := mt4 (List.mem_of_getElem? (i := 91) rfl) rfl
theorem wd_594 : Cond.selects "LeastBoundsModel" ⟨"LeastBoundsModel", "above", "(II)I"⟩ ⟨"LeastBoundsModel", "above", "(II)I"⟩ ∈ tb := mt4 (List.mem_of_getElem? (i := 92) rfl) rfl
theorem wd_595 : Cond.codeWith ⟨"LeastBoundsLaw", "named", "(LLeastBounds;III[J)I"⟩ method_5_code 6 (some FieldType.int) [(0, 12, 15, 19), (0, 12, 19, 21), (0, 12, 23, 13)] ∈ tb := mt2 (List.mem_of_getElem? (i := 165) rfl) rfl
theorem wd_596 : Cond.static ⟨"LeastBoundsLaw", "named", "(LLeastBounds;III[J)I"⟩ ∈ tb := mt2 (List.mem_of_getElem? (i := 164) rfl) rfl
theorem wd_597 : Cond.methodLink "LeastBoundsLaw" 88 ⟨"LeastBoundsLaw", "named", "(LLeastBounds;III[J)I"⟩ ∈ tb := mt2 (List.mem_of_getElem? (i := 163) rfl) rfl
theorem wd_598 : Cond.methodLink "LeastBoundsLaw" 91 ⟨"LeastBoundsModel", "named", "(III)I"⟩ ∈ tb := mt4 (List.mem_of_getElem? (i := 133) rfl) rfl
theorem wd_599 : Cond.code ⟨"LeastBoundsModel", "named", "(III)I"⟩ prog_6_method_29_code 7 (some FieldType.int) ∈ tb := mt4 (List.mem_of_getElem? (i := 136) rfl) rfl
theorem wd_600 : Cond.instanceMethod ⟨"LeastBoundsModel", "named", "(III)I"⟩ ∈ tb := mt4 (List.mem_of_getElem? (i := 134) rfl) rfl
theorem wd_601 : Cond.selects "LeastBoundsModel" ⟨"LeastBoundsModel", "named", "(III)I"⟩ ⟨"LeastBoundsModel", "named", "(III)I"⟩ ∈ tb := mt4 (List.mem_of_getElem? (i := 135) rfl) rfl
theorem wd_602 : Cond.codeWith ⟨"LeastBoundsLaw", "array", "(LLeastBounds;I[J)I"⟩ method_6_code 4 (some FieldType.int) [(0, 9, 12, 19), (0, 9, 15, 13)] ∈ tb := mt2 (List.mem_of_getElem? (i := 186) rfl) rfl
theorem wd_603 : Cond.static ⟨"LeastBoundsLaw", "array", "(LLeastBounds;I[J)I"⟩ ∈ tb := mt2 (List.mem_of_getElem? (i := 185) rfl) rfl
theorem wd_604 : Cond.methodLink "LeastBoundsLaw" 92 ⟨"LeastBoundsLaw", "array", "(LLeastBounds;I[J)I"⟩ ∈ tb := mt2 (List.mem_of_getElem? (i := 184) rfl) rfl
theorem wd_605 : Cond.methodLink "LeastBoundsLaw" 95 ⟨"LeastBoundsModel", "array", "(I)I"⟩ ∈ tb := mt4 (List.mem_of_getElem? (i := 153) rfl) rfl
theorem wd_606 : Cond.code ⟨"LeastBoundsModel", "array", "(I)I"⟩ prog_6_method_30_code 3 (some FieldType.int) ∈ tb := mt4 (List.mem_of_getElem? (i := 156) rfl) rfl
theorem wd_607 : Cond.instanceMethod ⟨"LeastBoundsModel", "array", "(I)I"⟩ ∈ tb := mt4 (List.mem_of_getElem? (i := 154) rfl) rfl
theorem wd_608 : Cond.selects "LeastBoundsModel" ⟨"LeastBoundsModel", "array", "(I)I"⟩ ⟨"LeastBoundsModel", "array", "(I)I"⟩ ∈ tb := mt4 (List.mem_of_getElem? (i := 155) rfl) rfl
theorem wd_609 : Cond.codeWith ⟨"LeastBoundsLaw", "upper", "(LLeastBounds;II[J)I"⟩ method_7_code 5 (some FieldType.int) [(0, 10, 13, 19), (0, 10, 17, 13)] ∈ tb := mt2 (List.mem_of_getElem? (i := 197) rfl) rfl
theorem wd_610 : Cond.static ⟨"LeastBoundsLaw", "upper", "(LLeastBounds;II[J)I"⟩ ∈ tb := mt2 (List.mem_of_getElem? (i := 196) rfl) rfl
theorem wd_611 : Cond.methodLink "LeastBoundsLaw" 96 ⟨"LeastBoundsLaw", "upper", "(LLeastBounds;II[J)I"⟩ ∈ tb := mt2 (List.mem_of_getElem? (i := 195) rfl) rfl
theorem wd_612 : Cond.methodLink "LeastBoundsLaw" 98 ⟨"LeastBoundsModel", "upper", "(II)I"⟩ ∈ tb := mt4 (List.mem_of_getElem? (i := 213) rfl) rfl
theorem wd_613 : Cond.code ⟨"LeastBoundsModel", "upper", "(II)I"⟩ prog_6_method_44_code 5 (some FieldType.int) ∈ tb := mt4 (List.mem_of_getElem? (i := 216) rfl) rfl
theorem wd_614 : Cond.instanceMethod ⟨"LeastBoundsModel", "upper", "(II)I"⟩ ∈ tb := mt4 (List.mem_of_getElem? (i := 214) rfl) rfl
theorem wd_615 : Cond.selects "LeastBoundsModel" ⟨"LeastBoundsModel", "upper", "(II)I"⟩ ⟨"LeastBoundsModel", "upper", "(II)I"⟩ ∈ tb := mt4 (List.mem_of_getElem? (i := 215) rfl) rfl
theorem wd_616 : Cond.codeWith ⟨"LeastBoundsLaw", "lower", "(LLeastBounds;II[J)I"⟩ method_8_code 5 (some FieldType.int) [(0, 10, 13, 19), (0, 10, 17, 13)] ∈ tb := mt3 (List.mem_of_getElem? (i := 60) rfl) rfl
theorem wd_617 : Cond.static ⟨"LeastBoundsLaw", "lower", "(LLeastBounds;II[J)I"⟩ ∈ tb := mt3 (List.mem_of_getElem? (i := 59) rfl) rfl
theorem wd_618 : Cond.methodLink "LeastBoundsLaw" 99 ⟨"LeastBoundsLaw", "lower", "(LLeastBounds;II[J)I"⟩ ∈ tb := mt3 (List.mem_of_getElem? (i := 58) rfl) rfl
theorem wd_619 : Cond.methodLink "LeastBoundsLaw" 101 ⟨"LeastBoundsModel", "lower", "(II)I"⟩ ∈ tb := mt5 (List.mem_of_getElem? (i := 1) rfl) rfl
theorem wd_620 : Cond.code ⟨"LeastBoundsModel", "lower", "(II)I"⟩ prog_6_method_45_code 10 (some FieldType.int) ∈ tb := mt5 (List.mem_of_getElem? (i := 4) rfl) rfl
theorem wd_621 : Cond.instanceMethod ⟨"LeastBoundsModel", "lower", "(II)I"⟩ ∈ tb := mt5 (List.mem_of_getElem? (i := 2) rfl) rfl
theorem wd_622 : Cond.selects "LeastBoundsModel" ⟨"LeastBoundsModel", "lower", "(II)I"⟩ ⟨"LeastBoundsModel", "lower", "(II)I"⟩ ∈ tb := mt5 (List.mem_of_getElem? (i := 3) rfl) rfl
theorem wd_623 : Cond.codeWith ⟨"LeastBoundsLaw", "isBelow", "(LLeastBounds;II[J)I"⟩ method_9_code 5 (some FieldType.int) [(0, 17, 20, 19)] ∈ tb := mt3 (List.mem_of_getElem? (i := 109) rfl) rfl
theorem wd_624 : Cond.static ⟨"LeastBoundsLaw", "isBelow", "(LLeastBounds;II[J)I"⟩ ∈ tb := mt3 (List.mem_of_getElem? (i := 108) rfl) rfl
theorem wd_625 : Cond.methodLink "LeastBoundsLaw" 102 ⟨"LeastBoundsLaw", "isBelow", "(LLeastBounds;II[J)I"⟩ ∈ tb := mt3 (List.mem_of_getElem? (i := 107) rfl) rfl
theorem wd_626 : Cond.methodLink "LeastBoundsLaw" 104 ⟨"LeastBoundsModel", "isBelow", "(II)Z"⟩ ∈ tb := mt4 (List.mem_of_getElem? (i := 161) rfl) rfl
theorem wd_627 : Cond.code ⟨"LeastBoundsModel", "isBelow", "(II)Z"⟩ prog_6_method_31_code 3 (some FieldType.boolean) ∈ tb := mt4 (List.mem_of_getElem? (i := 164) rfl) rfl
theorem wd_628 : Cond.instanceMethod ⟨"LeastBoundsModel", "isBelow", "(II)Z"⟩ ∈ tb := mt4 (List.mem_of_getElem? (i := 162) rfl) rfl
theorem wd_629 : Cond.selects "LeastBoundsModel" ⟨"LeastBoundsModel", "isBelow", "(II)Z"⟩ ⟨"LeastBoundsModel", "isBelow", "(II)Z"⟩ ∈ tb := mt4 (List.mem_of_getElem? (i := 163) rfl) rfl
theorem wd_630 : Cond.codeWith ⟨"LeastBoundsLaw", "look", "(LLeastBounds;II[J)I"⟩ method_10_code 5 (some FieldType.int) [(0, 10, 13, 19), (0, 10, 17, 13)] ∈ tb := mt3 (List.mem_of_getElem? (i := 116) rfl) rfl
theorem wd_631 : Cond.static ⟨"LeastBoundsLaw", "look", "(LLeastBounds;II[J)I"⟩ ∈ tb := mt3 (List.mem_of_getElem? (i := 115) rfl) rfl
theorem wd_632 : Cond.methodLink "LeastBoundsLaw" 105 ⟨"LeastBoundsLaw", "look", "(LLeastBounds;II[J)I"⟩ ∈ tb := mt3 (List.mem_of_getElem? (i := 114) rfl) rfl
theorem wd_633 : Cond.methodLink "LeastBoundsLaw" 107 ⟨"LeastBoundsModel", "look", "(II)I"⟩ ∈ tb := mt4 (List.mem_of_getElem? (i := 185) rfl) rfl
theorem wd_634 : Cond.code ⟨"LeastBoundsModel", "look", "(II)I"⟩ prog_6_method_32_code 4 (some FieldType.int) ∈ tb := mt4 (List.mem_of_getElem? (i := 188) rfl) rfl
theorem wd_635 : Cond.instanceMethod ⟨"LeastBoundsModel", "look", "(II)I"⟩ ∈ tb := mt4 (List.mem_of_getElem? (i := 186) rfl) rfl
theorem wd_636 : Cond.selects "LeastBoundsModel" ⟨"LeastBoundsModel", "look", "(II)I"⟩ ⟨"LeastBoundsModel", "look", "(II)I"⟩ ∈ tb := mt4 (List.mem_of_getElem? (i := 187) rfl) rfl
theorem wd_637 : Cond.codeWith ⟨"LeastBoundsLaw", "box", "(LLeastBounds;I[J)I"⟩ method_11_code 4 (some FieldType.int) [(0, 9, 12, 19), (0, 9, 15, 13)] ∈ tb := mt3 (List.mem_of_getElem? (i := 123) rfl) rfl
theorem wd_638 : Cond.static ⟨"LeastBoundsLaw", "box", "(LLeastBounds;I[J)I"⟩ ∈ tb := mt3 (List.mem_of_getElem? (i := 122) rfl) rfl
theorem wd_639 : Cond.methodLink "LeastBoundsLaw" 108 ⟨"LeastBoundsLaw", "box", "(LLeastBounds;I[J)I"⟩ ∈ tb := mt3 (List.mem_of_getElem? (i := 121) rfl) rfl
theorem wd_640 : Cond.methodLink "LeastBoundsLaw" 110 ⟨"LeastBoundsModel", "box", "(I)I"⟩ ∈ tb := mt4 (List.mem_of_getElem? (i := 189) rfl) rfl
theorem wd_641 : Cond.code ⟨"LeastBoundsModel", "box", "(I)I"⟩ prog_6_method_33_code 2 (some FieldType.int) ∈ tb := mt4 (List.mem_of_getElem? (i := 192) rfl) rfl
theorem wd_642 : Cond.instanceMethod ⟨"LeastBoundsModel", "box", "(I)I"⟩ ∈ tb := mt4 (List.mem_of_getElem? (i := 190) rfl) rfl
theorem wd_643 : Cond.selects "LeastBoundsModel" ⟨"LeastBoundsModel", "box", "(I)I"⟩ ⟨"LeastBoundsModel", "box", "(I)I"⟩ ∈ tb := mt4 (List.mem_of_getElem? (i := 191) rfl) rfl
theorem wd_644 : Cond.codeWith ⟨"LeastBoundsLaw", "type", "(LLeastBounds;II[J)I"⟩ method_12_code 5 (some FieldType.int) [(0, 10, 13, 19), (0, 10, 17, 21)] ∈ tb := mt3 (List.mem_of_getElem? (i := 130) rfl) rfl
theorem wd_645 : Cond.static ⟨"LeastBoundsLaw", "type", "(LLeastBounds;II[J)I"⟩ ∈ tb := mt3 (List.mem_of_getElem? (i := 129) rfl) rfl
theorem wd_646 : Cond.methodLink "LeastBoundsLaw" 111 ⟨"LeastBoundsLaw", "type", "(LLeastBounds;II[J)I"⟩ ∈ tb := mt3 (List.mem_of_getElem? (i := 128) rfl) rfl
theorem wd_647 : Cond.methodLink "LeastBoundsLaw" 113 ⟨"LeastBoundsModel", "type", "(II)I"⟩ ∈ tb := mt4 (List.mem_of_getElem? (i := 193) rfl) rfl
theorem wd_648 : Cond.code ⟨"LeastBoundsModel", "type", "(II)I"⟩ prog_6_method_34_code 3 (some FieldType.int) ∈ tb := mt4 (List.mem_of_getElem? (i := 196) rfl) rfl
theorem wd_649 : Cond.instanceMethod ⟨"LeastBoundsModel", "type", "(II)I"⟩ ∈ tb := mt4 (List.mem_of_getElem? (i := 194) rfl) rfl
theorem wd_650 : Cond.selects "LeastBoundsModel" ⟨"LeastBoundsModel", "type", "(II)I"⟩ ⟨"LeastBoundsModel", "type", "(II)I"⟩ ∈ tb := mt4 (List.mem_of_getElem? (i := 195) rfl) rfl
theorem wd_651 : Cond.codeWith ⟨"LeastBoundsLaw", "part", "(LLeastBounds;II[J)I"⟩ method_13_code 5 (some FieldType.int) [(0, 10, 13, 19)] ∈ tb := mt3 (List.mem_of_getElem? (i := 139) rfl) rfl
theorem wd_652 : Cond.static ⟨"LeastBoundsLaw", "part", "(LLeastBounds;II[J)I"⟩ ∈ tb := mt3 (List.mem_of_getElem? (i := 138) rfl) rfl
theorem wd_653 : Cond.methodLink "LeastBoundsLaw" 114 ⟨"LeastBoundsLaw", "part", "(LLeastBounds;II[J)I"⟩ ∈ tb := mt3 (List.mem_of_getElem? (i := 137) rfl) rfl
theorem wd_654 : Cond.methodLink "LeastBoundsLaw" 116 ⟨"LeastBoundsModel", "part", "(II)I"⟩ ∈ tb := mt4 (List.mem_of_getElem? (i := 197) rfl) rfl
theorem wd_655 : Cond.code ⟨"LeastBoundsModel", "part", "(II)I"⟩ prog_6_method_35_code 3 (some FieldType.int) ∈ tb := mt4 (List.mem_of_getElem? (i := 200) rfl) rfl
theorem wd_656 : Cond.instanceMethod ⟨"LeastBoundsModel", "part", "(II)I"⟩ ∈ tb := mt4 (List.mem_of_getElem? (i := 198) rfl) rfl
theorem wd_657 : Cond.selects "LeastBoundsModel" ⟨"LeastBoundsModel", "part", "(II)I"⟩ ⟨"LeastBoundsModel", "part", "(II)I"⟩ ∈ tb := mt4 (List.mem_of_getElem? (i := 199) rfl) rfl
theorem wd_658 : Cond.codeWith ⟨"LeastBoundsLaw", "common", "(LLeastBounds;III[J)I"⟩ method_14_code 6 (some FieldType.int) [(0, 12, 15, 19), (0, 12, 19, 21)] ∈ tb := mt3 (List.mem_of_getElem? (i := 147) rfl) rfl
theorem wd_659 : Cond.static ⟨"LeastBoundsLaw", "common", "(LLeastBounds;III[J)I"⟩ ∈ tb := mt3 (List.mem_of_getElem? (i := 146) rfl) rfl
theorem wd_660 : Cond.methodLink "LeastBoundsLaw" 117 ⟨"LeastBoundsLaw", "common", "(LLeastBounds;III[J)I"⟩ ∈ tb := mt3 (List.mem_of_getElem? (i := 145) rfl) rfl
theorem wd_661 : Cond.methodLink "LeastBoundsLaw" 119 ⟨"LeastBoundsModel", "common", "(III)I"⟩ ∈ tb := mt4 (List.mem_of_getElem? (i := 201) rfl) rfl
theorem wd_662 : Cond.code ⟨"LeastBoundsModel", "common", "(III)I"⟩ prog_6_method_38_code 5 (some FieldType.int) ∈ tb := mt4 (List.mem_of_getElem? (i := 204) rfl) rfl
theorem wd_663 : Cond.instanceMethod ⟨"LeastBoundsModel", "common", "(III)I"⟩ ∈ tb := mt4 (List.mem_of_getElem? (i := 202) rfl) rfl
theorem wd_664 : Cond.selects "LeastBoundsModel" ⟨"LeastBoundsModel", "common", "(III)I"⟩ ⟨"LeastBoundsModel", "common", "(III)I"⟩ ∈ tb := mt4 (List.mem_of_getElem? (i := 203) rfl) rfl
theorem wd_665 : Cond.codeWith ⟨"LeastBoundsLaw", "isUnder", "(LLeastBounds;II[J)I"⟩ method_15_code 5 (some FieldType.int) [(0, 17, 20, 19)] ∈ tb := mt3 (List.mem_of_getElem? (i := 161) rfl) rfl
theorem wd_666 : Cond.static ⟨"LeastBoundsLaw", "isUnder", "(LLeastBounds;II[J)I"⟩ ∈ tb := mt3 (List.mem_of_getElem? (i := 160) rfl) rfl
theorem wd_667 : Cond.methodLink "LeastBoundsLaw" 120 ⟨"LeastBoundsLaw", "isUnder", "(LLeastBounds;II[J)I"⟩ ∈ tb := mt3 (List.mem_of_getElem? (i := 159) rfl) rfl
theorem wd_668 : Cond.methodLink "LeastBoundsLaw" 122 ⟨"LeastBoundsModel", "isUnder", "(II)Z"⟩ ∈ tb := mt4 (List.mem_of_getElem? (i := 114) rfl) rfl
theorem wd_669 : Cond.code ⟨"LeastBoundsModel", "isUnder", "(II)Z"⟩ prog_6_method_23_code 3 (some FieldType.boolean) ∈ tb := mt4 (List.mem_of_getElem? (i := 117) rfl) rfl
theorem wd_670 : Cond.instanceMethod ⟨"LeastBoundsModel", "isUnder", "(II)Z"⟩ ∈ tb := mt4 (List.mem_of_getElem? (i := 115) rfl) rfl
theorem wd_671 : Cond.selects "LeastBoundsModel" ⟨"LeastBoundsModel", "isUnder", "(II)Z"⟩ ⟨"LeastBoundsModel", "isUnder", "(II)Z"⟩ ∈ tb := mt4 (List.mem_of_getElem? (i := 116) rfl) rfl
theorem wd_672 : Cond.codeWith ⟨"LeastBoundsLaw", "classed", "(LLeastBounds;II[J)I"⟩ method_16_code 5 (some FieldType.int) [(0, 10, 13, 19), (0, 10, 17, 21)] ∈ tb := mt3 (List.mem_of_getElem? (i := 169) rfl) rfl
theorem wd_673 : Cond.static ⟨"LeastBoundsLaw", "classed", "(LLeastBounds;II[J)I"⟩ ∈ tb := mt3 (List.mem_of_getElem? (i := 168) rfl) rfl
theorem wd_674 : Cond.methodLink "LeastBoundsLaw" 123 ⟨"LeastBoundsLaw", "classed", "(LLeastBounds;II[J)I"⟩ ∈ tb := mt3 (List.mem_of_getElem? (i := 167) rfl) rfl
theorem wd_675 : Cond.methodLink "LeastBoundsLaw" 125 ⟨"LeastBoundsModel", "classed", "(II)I"⟩ ∈ tb := mt4 (List.mem_of_getElem? (i := 118) rfl) rfl
theorem wd_676 : Cond.code ⟨"LeastBoundsModel", "classed", "(II)I"⟩ prog_6_method_24_code 3 (some FieldType.int) ∈ tb := mt4 (List.mem_of_getElem? (i := 121) rfl) rfl
theorem wd_677 : Cond.instanceMethod ⟨"LeastBoundsModel", "classed", "(II)I"⟩ ∈ tb := mt4 (List.mem_of_getElem? (i := 119) rfl) rfl
theorem wd_678 : Cond.selects "LeastBoundsModel" ⟨"LeastBoundsModel", "classed", "(II)I"⟩ ⟨"LeastBoundsModel", "classed", "(II)I"⟩ ∈ tb := mt4 (List.mem_of_getElem? (i := 120) rfl) rfl
theorem wd_679 : Cond.codeWith ⟨"LeastBoundsLaw", "direct", "(LLeastBounds;III[J)I"⟩ method_17_code 6 (some FieldType.int) [(0, 12, 15, 19), (0, 12, 19, 21)] ∈ tb := mt3 (List.mem_of_getElem? (i := 178) rfl) rfl
theorem wd_680 : Cond.static ⟨"LeastBoundsLaw", "direct", "(LLeastBounds;III[J)I"⟩ ∈ tb := mt3 (List.mem_of_getElem? (i := 177) rfl) rfl
theorem wd_681 : Cond.methodLink "LeastBoundsLaw" 126 ⟨"LeastBoundsLaw", "direct", "(LLeastBounds;III[J)I"⟩ ∈ tb := mt3 (List.mem_of_getElem? (i := 176) rfl) rfl
theorem wd_682 : Cond.methodLink "LeastBoundsLaw" 128 ⟨"LeastBoundsModel", "direct", "(III)I"⟩ ∈ tb := mt4 (List.mem_of_getElem? (i := 125) rfl) rfl
theorem wd_683 : Cond.code ⟨"LeastBoundsModel", "direct", "(III)I"⟩ prog_6_method_26_code 4 (some FieldType.int) ∈ tb := mt4 (List.mem_of_getElem? (i := 128) rfl) rfl
theorem wd_684 : Cond.instanceMethod ⟨"LeastBoundsModel", "direct", "(III)I"⟩ ∈ tb := mt4 (List.mem_of_getElem? (i := 126) rfl) rfl
theorem wd_685 : Cond.selects "LeastBoundsModel" ⟨"LeastBoundsModel", "direct", "(III)I"⟩ ⟨"LeastBoundsModel", "direct", "(III)I"⟩ ∈ tb := mt4 (List.mem_of_getElem? (i := 127) rfl) rfl
theorem wd_686 : Cond.codeWith ⟨"LeastBoundsLaw", "told", "(LLeastBounds;I[J)I"⟩ method_18_code 4 (some FieldType.int) [(0, 9, 12, 21)] ∈ tb := mt3 (List.mem_of_getElem? (i := 188) rfl) rfl
theorem wd_687 : Cond.static ⟨"LeastBoundsLaw", "told", "(LLeastBounds;I[J)I"⟩ ∈ tb := mt3 (List.mem_of_getElem? (i := 187) rfl) rfl
theorem wd_688 : Cond.methodLink "LeastBoundsLaw" 129 ⟨"LeastBoundsLaw", "told", "(LLeastBounds;I[J)I"⟩ ∈ tb := mt3 (List.mem_of_getElem? (i := 186) rfl) rfl
theorem wd_689 : Cond.methodLink "LeastBoundsLaw" 131 ⟨"LeastBoundsModel", "told", "(I)I"⟩ ∈ tb := mt4 (List.mem_of_getElem? (i := 129) rfl) rfl
theorem wd_690 : Cond.code ⟨"LeastBoundsModel", "told", "(I)I"⟩ prog_6_method_27_code 2 (some FieldType.int) ∈ tb := mt4 (List.mem_of_getElem? (i := 132) rfl) rfl
theorem wd_691 : Cond.instanceMethod ⟨"LeastBoundsModel", "told", "(I)I"⟩ ∈ tb := mt4 (List.mem_of_getElem? (i := 130) rfl) rfl
theorem wd_692 : Cond.selects "LeastBoundsModel" ⟨"LeastBoundsModel", "told", "(I)I"⟩ ⟨"LeastBoundsModel", "told", "(I)I"⟩ ∈ tb := mt4 (List.mem_of_getElem? (i := 131) rfl) rfl
theorem wd_693 : Cond.methodLink "LeastBoundsLaw" 132 ⟨"LeastBoundsModel", "thrown", "()I"⟩ ∈ tb := mt4 (List.mem_of_getElem? (i := 78) rfl) rfl
theorem wd_694 : Cond.code ⟨"LeastBoundsModel", "thrown", "()I"⟩ prog_6_method_2_code 1 (some FieldType.int) ∈ tb := mt4 (List.mem_of_getElem? (i := 81) rfl) rfl
theorem wd_695 : Cond.instanceMethod ⟨"LeastBoundsModel", "thrown", "()I"⟩ ∈ tb := mt4 (List.mem_of_getElem? (i := 79) rfl) rfl
theorem wd_696 : Cond.selects "LeastBoundsModel" ⟨"LeastBoundsModel", "thrown", "()I"⟩ ⟨"LeastBoundsModel", "thrown", "()I"⟩ ∈ tb := mt4 (List.mem_of_getElem? (i := 80) rfl) rfl
theorem wd_697 : Cond.methodLink "LeastBoundsLaw" 68 ⟨"LeastBoundsLaw", "cell", "([II)I"⟩ ∈ tb := mt1 (List.mem_of_getElem? (i := 197) rfl) rfl
theorem wd_698 : Cond.methodLink "LeastBoundsLaw" 74 ⟨"LeastBounds", "<init>", "(I)V"⟩ ∈ tb := mt1 (List.mem_of_getElem? (i := 18) rfl) rfl
theorem wd_699 : Cond.methodLink "LeastBoundsLaw" 79 ⟨"LeastBoundsModel", "<init>", "(I)V"⟩ ∈ tb := mt3 (List.mem_of_getElem? (i := 199) rfl) rfl
theorem wd_700 : Cond.classLink "LeastBoundsLaw" 8 "LeastBounds" ∈ tb := mt1 (List.mem_of_getElem? (i := 16) rfl) rfl
theorem wd_701 : Cond.instantiable "LeastBounds" 6 ∈ tb := mt1 (List.mem_of_getElem? (i := 17) rfl) rfl
theorem wd_702 : Cond.code ⟨"LeastBounds", "<init>", "(I)V"⟩ prog_1_method_1_code 2 none ∈ tb := mt1 (List.mem_of_getElem? (i := 20) rfl) rfl
theorem wd_703 : Cond.instanceMethod ⟨"LeastBounds", "<init>", "(I)V"⟩ ∈ tb := mt1 (List.mem_of_getElem? (i := 19) rfl) rfl
theorem wd_704 : Cond.classLink "LeastBoundsLaw" 77 "LeastBoundsModel" ∈ tb := mt3 (List.mem_of_getElem? (i := 197) rfl) rfl
theorem wd_705 : Cond.instantiable "LeastBoundsModel" 35 ∈ tb := mt3 (List.mem_of_getElem? (i := 198) rfl) rfl
theorem wd_706 : Cond.code ⟨"LeastBoundsModel", "<init>", "(I)V"⟩ prog_6_method_1_code 3 none ∈ tb := mt3 (List.mem_of_getElem? (i := 201) rfl) rfl
theorem wd_707 : Cond.instanceMethod ⟨"LeastBoundsModel", "<init>", "(I)V"⟩ ∈ tb := mt3 (List.mem_of_getElem? (i := 200) rfl) rfl
theorem wd_708 : Cond.code ⟨"LeastBoundsLaw", "cell", "([II)I"⟩ method_2_code 2 (some FieldType.int) ∈ tb := mt1 (List.mem_of_getElem? (i := 199) rfl) rfl
theorem wd_709 : Cond.static ⟨"LeastBoundsLaw", "cell", "([II)I"⟩ ∈ tb := mt1 (List.mem_of_getElem? (i := 198) rfl) rfl
