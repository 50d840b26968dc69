/-! Own: names of classes, fields, methods; the good words of the tables. -/
def R_L : String := "LeastBounds"
def F_L : u_T := fun k => match k with
  | 0 => ("LeastBounds", "depth", "I", true)
  | 1 => ("LeastBounds", "classes", "LLeastBounds$Classes;", true)
  | 2 => ("LeastBounds", "types", "LLeastBounds$Types;", true)
  | 3 => ("LeastBounds", "answers", "LLeastBounds$Answers;", true)
  | 4 => ("LeastBounds", "row", "[I", true)
  | _ => ("LeastBounds", "gathered", "[I", true)
def ty_L : Nat → FieldType := fun k => match k with
  | 0 => .int
  | 1 => .object "LeastBounds$Classes"
  | 2 => .object "LeastBounds$Types"
  | 3 => .object "LeastBounds$Answers"
  | 4 => .array .int
  | _ => .array .int
theorem nn_L : ∀ a, a < 6 → ∀ b, b < 6 → a ≠ b → (F_L a).2.1 ≠ (F_L b).2.1 := by decide +kernel
theorem tyok_L : ∀ k, k < 6 → parseFieldDescriptor (F_L k).2.2.1 = some (ty_L k) := by decide +kernel
def R_C : String := "LeastBounds$Classes"
def F_C : u_T := fun k => match k with
  | 0 => ("LeastBounds$Classes", "faces", "[Z", true)
  | 1 => ("LeastBounds$Classes", "generics", "[Z", true)
  | 2 => ("LeastBounds$Classes", "above", "[I", true)
  | 3 => ("LeastBounds$Classes", "directCounts", "[I", true)
  | 4 => ("LeastBounds$Classes", "directs", "[I", true)
  | 5 => ("LeastBounds$Classes", "tolds", "[I", true)
  | 6 => ("LeastBounds$Classes", "count", "I", false)
  | _ => ("LeastBounds$Classes", "countGeneric", "I", false)
def ty_C : Nat → FieldType := fun k => match k with
  | 0 => .array .boolean
  | 1 => .array .boolean
  | 2 => .array .int
  | 3 => .array .int
  | 4 => .array .int
  | 5 => .array .int
  | 6 => .int
  | _ => .int
theorem nn_C : ∀ a, a < 8 → ∀ b, b < 8 → a ≠ b → (F_C a).2.1 ≠ (F_C b).2.1 := by decide +kernel
theorem tyok_C : ∀ k, k < 8 → parseFieldDescriptor (F_C k).2.2.1 = some (ty_C k) := by decide +kernel
def R_T : String := "LeastBounds$Types"
def F_T : u_T := fun k => match k with
  | 0 => ("LeastBounds$Types", "kinds", "[I", true)
  | 1 => ("LeastBounds$Types", "named", "[I", true)
  | 2 => ("LeastBounds$Types", "arguments", "[I", true)
  | 3 => ("LeastBounds$Types", "elements", "[I", true)
  | 4 => ("LeastBounds$Types", "sizes", "[I", true)
  | 5 => ("LeastBounds$Types", "partStarts", "[I", true)
  | 6 => ("LeastBounds$Types", "partCounts", "[I", true)
  | 7 => ("LeastBounds$Types", "parts", "[I", false)
  | 8 => ("LeastBounds$Types", "partsUsed", "I", false)
  | 9 => ("LeastBounds$Types", "count", "I", false)
  | 10 => ("LeastBounds$Types", "settledParts", "I", false)
  | _ => ("LeastBounds$Types", "settledCount", "I", false)
def ty_T : Nat → FieldType := fun k => match k with
  | 0 => .array .int
  | 1 => .array .int
  | 2 => .array .int
  | 3 => .array .int
  | 4 => .array .int
  | 5 => .array .int
  | 6 => .array .int
  | 7 => .array .int
  | 8 => .int
  | 9 => .int
  | 10 => .int
  | _ => .int
theorem nn_T : ∀ a, a < 12 → ∀ b, b < 12 → a ≠ b → (F_T a).2.1 ≠ (F_T b).2.1 := by decide +kernel
theorem tyok_T : ∀ k, k < 12 → parseFieldDescriptor (F_T k).2.2.1 = some (ty_T k) := by decide +kernel
def R_A : String := "LeastBounds$Answers"
def F_A : u_T := fun k => match k with
  | 0 => ("LeastBounds$Answers", "cells", "[I", true)
  | _ => ("LeastBounds$Answers", "empty", "Z", false)
def ty_A : Nat → FieldType := fun k => match k with
  | 0 => .array .int
  | _ => .boolean
theorem nn_A : ∀ a, a < 2 → ∀ b, b < 2 → a ≠ b → (F_A a).2.1 ≠ (F_A b).2.1 := by decide +kernel
theorem tyok_A : ∀ k, k < 2 → parseFieldDescriptor (F_A k).2.2.1 = some (ty_A k) := by decide +kernel
def R_M : String := "LeastBoundsModel"
def F_M : u_T := fun k => match k with
  | 0 => ("LeastBoundsModel", "code", "I", false)
  | 1 => ("LeastBoundsModel", "depth", "I", true)
  | 2 => ("LeastBoundsModel", "classes", "I", false)
  | 3 => ("LeastBoundsModel", "generics", "I", false)
  | 4 => ("LeastBoundsModel", "face", "[Z", true)
  | 5 => ("LeastBoundsModel", "generic", "[Z", true)
  | 6 => ("LeastBoundsModel", "directs", "[I", true)
  | 7 => ("LeastBoundsModel", "directTo", "[I", true)
  | 8 => ("LeastBoundsModel", "directArg", "[I", true)
  | 9 => ("LeastBoundsModel", "over", "[I", true)
  | 10 => ("LeastBoundsModel", "types", "I", false)
  | 11 => ("LeastBoundsModel", "kind", "[I", true)
  | 12 => ("LeastBoundsModel", "classOf", "[I", true)
  | 13 => ("LeastBoundsModel", "how", "[I", true)
  | 14 => ("LeastBoundsModel", "inner", "[I", true)
  | 15 => ("LeastBoundsModel", "made", "[I", true)
  | 16 => ("LeastBoundsModel", "partCount", "[I", true)
  | 17 => ("LeastBoundsModel", "partRow", "[I", true)
  | 18 => ("LeastBoundsModel", "full", "Z", false)
  | 19 => ("LeastBoundsModel", "found", "Z", false)
  | 20 => ("LeastBoundsModel", "foundHow", "I", false)
  | 21 => ("LeastBoundsModel", "foundType", "I", false)
  | 22 => ("LeastBoundsModel", "row", "[I", true)
  | 23 => ("LeastBoundsModel", "below", "[Z", true)
  | 24 => ("LeastBoundsModel", "reckoned", "I", false)
  | 25 => ("LeastBoundsModel", "high", "I", false)
  | 26 => ("LeastBoundsModel", "left", "[I", true)
  | 27 => ("LeastBoundsModel", "right", "[I", true)
  | 28 => ("LeastBoundsModel", "deep", "[I", true)
  | 29 => ("LeastBoundsModel", "stage", "[I", true)
  | 30 => ("LeastBoundsModel", "least", "[I", true)
  | 31 => ("LeastBoundsModel", "at", "[I", true)
  | 32 => ("LeastBoundsModel", "size", "[I", true)
  | 33 => ("LeastBoundsModel", "parts", "[I", true)
  | _ => ("LeastBoundsModel", "answer", "I", false)
def ty_M : Nat → FieldType := fun k => match k with
  | 0 => .int
  | 1 => .int
  | 2 => .int
  | 3 => .int
  | 4 => .array .boolean
  | 5 => .array .boolean
  | 6 => .array .int
  | 7 => .array .int
  | 8 => .array .int
  | 9 => .array .int
  | 10 => .int
  | 11 => .array .int
  | 12 => .array .int
  | 13 => .array .int
  | 14 => .array .int
  | 15 => .array .int
  | 16 => .array .int
  | 17 => .array .int
  | 18 => .boolean
  | 19 => .boolean
  | 20 => .int
  | 21 => .int
  | 22 => .array .int
  | 23 => .array .boolean
  | 24 => .int
  | 25 => .int
  | 26 => .array .int
  | 27 => .array .int
  | 28 => .array .int
  | 29 => .array .int
  | 30 => .array .int
  | 31 => .array .int
  | 32 => .array .int
  | 33 => .array .int
  | _ => .int
theorem nn_M : ∀ a, a < 35 → ∀ b, b < 35 → a ≠ b → (F_M a).2.1 ≠ (F_M b).2.1 := by decide +kernel
theorem tyok_M : ∀ k, k < 35 → parseFieldDescriptor (F_M k).2.2.1 = some (ty_M k) := by decide +kernel
def R_W : String := "LeastBoundsLaw"
def R_J : String := "java/lang/Integer"
abbrev vwCl : List vw_C := [(R_L, F_L, 6), (R_C, F_C, 8), (R_T, F_T, 12), (R_A, F_A, 2), (R_M, F_M, 35)]
abbrev b_L_init : ByteArray := prog_1_method_1_code
def y_L_init : MethodName := ⟨"LeastBounds", "<init>", "(I)V"⟩
abbrev b_L_declare : ByteArray := prog_1_method_2_code
def y_L_declare : MethodName := ⟨"LeastBounds", "declare", "(ZZ)I"⟩
abbrev b_L_above : ByteArray := prog_1_method_3_code
def y_L_above : MethodName := ⟨"LeastBounds", "above", "(II)I"⟩
abbrev b_L_named : ByteArray := prog_1_method_4_code
def y_L_named : MethodName := ⟨"LeastBounds", "named", "(III)I"⟩
abbrev b_L_array : ByteArray := prog_1_method_5_code
def y_L_array : MethodName := ⟨"LeastBounds", "array", "(I)I"⟩
abbrev b_L_upper : ByteArray := prog_1_method_6_code
def y_L_upper : MethodName := ⟨"LeastBounds", "upper", "(II)I"⟩
abbrev b_L_lower : ByteArray := prog_1_method_7_code
def y_L_lower : MethodName := ⟨"LeastBounds", "lower", "(II)I"⟩
abbrev b_L_isBelow : ByteArray := prog_1_method_8_code
def y_L_isBelow : MethodName := ⟨"LeastBounds", "isBelow", "(II)Z"⟩
abbrev b_L_look : ByteArray := prog_1_method_9_code
def y_L_look : MethodName := ⟨"LeastBounds", "look", "(II)I"⟩
abbrev b_L_box : ByteArray := prog_1_method_10_code
def y_L_box : MethodName := ⟨"LeastBounds", "box", "(I)I"⟩
abbrev b_L_type : ByteArray := prog_1_method_11_code
def y_L_type : MethodName := ⟨"LeastBounds", "type", "(II)I"⟩
abbrev b_L_part : ByteArray := prog_1_method_12_code
def y_L_part : MethodName := ⟨"LeastBounds", "part", "(II)I"⟩
abbrev b_L_common : ByteArray := prog_1_method_13_code
def y_L_common : MethodName := ⟨"LeastBounds", "common", "(III)I"⟩
abbrev b_L_isUnder : ByteArray := prog_1_method_14_code
def y_L_isUnder : MethodName := ⟨"LeastBounds", "isUnder", "(II)Z"⟩
abbrev b_L_classed : ByteArray := prog_1_method_15_code
def y_L_classed : MethodName := ⟨"LeastBounds", "classed", "(II)I"⟩
abbrev b_L_direct : ByteArray := prog_1_method_16_code
def y_L_direct : MethodName := ⟨"LeastBounds", "direct", "(III)I"⟩
abbrev b_L_told : ByteArray := prog_1_method_17_code
def y_L_told : MethodName := ⟨"LeastBounds", "told", "(I)I"⟩
abbrev b_L_requireClass : ByteArray := prog_1_method_18_code
def y_L_requireClass : MethodName := ⟨"LeastBounds", "requireClass", "(I)V"⟩
abbrev b_L_requireType : ByteArray := prog_1_method_19_code
def y_L_requireType : MethodName := ⟨"LeastBounds", "requireType", "(I)V"⟩
abbrev b_L_settled : ByteArray := prog_1_method_20_code
def y_L_settled : MethodName := ⟨"LeastBounds", "settled", "(I)I"⟩
abbrev b_L_isTellable : ByteArray := prog_1_method_21_code
def y_L_isTellable : MethodName := ⟨"LeastBounds", "isTellable", "(II)Z"⟩
abbrev b_L_argumentOf : ByteArray := prog_1_method_22_code
def y_L_argumentOf : MethodName := ⟨"LeastBounds", "argumentOf", "(II)I"⟩
abbrev b_L_howOf : ByteArray := prog_1_method_23_code
def y_L_howOf : MethodName := ⟨"LeastBounds", "howOf", "(I)I"⟩
abbrev b_L_typeOf : ByteArray := prog_1_method_24_code
def y_L_typeOf : MethodName := ⟨"LeastBounds", "typeOf", "(I)I"⟩
abbrev b_L_has : ByteArray := prog_1_method_25_code
def y_L_has : MethodName := ⟨"LeastBounds", "has", "(II)Z"⟩
abbrev b_L_boxTypeOf : ByteArray := prog_1_method_26_code
def y_L_boxTypeOf : MethodName := ⟨"LeastBounds", "boxTypeOf", "(I)I"⟩
abbrev b_L_find : ByteArray := prog_1_method_27_code
def y_L_find : MethodName := ⟨"LeastBounds", "find", "(II)I"⟩
abbrev b_L_countHolders : ByteArray := prog_1_method_28_code
def y_L_countHolders : MethodName := ⟨"LeastBounds", "countHolders", "(I)I"⟩
abbrev b_L_liesBelow : ByteArray := prog_1_method_29_code
def y_L_liesBelow : MethodName := ⟨"LeastBounds", "liesBelow", "(III)Z"⟩
abbrev b_L_hasFittingPart : ByteArray := prog_1_method_30_code
def y_L_hasFittingPart : MethodName := ⟨"LeastBounds", "hasFittingPart", "(III)Z"⟩
abbrev b_L_liesBelowParts : ByteArray := prog_1_method_31_code
def y_L_liesBelowParts : MethodName := ⟨"LeastBounds", "liesBelowParts", "(III)Z"⟩
abbrev b_L_isArrayOfOthers : ByteArray := prog_1_method_32_code
def y_L_isArrayOfOthers : MethodName := ⟨"LeastBounds", "isArrayOfOthers", "(I)Z"⟩
abbrev b_L_upperBound : ByteArray := prog_1_method_33_code
def y_L_upperBound : MethodName := ⟨"LeastBounds", "upperBound", "(III)I"⟩
abbrev b_L_boundByClasses : ByteArray := prog_1_method_34_code
def y_L_boundByClasses : MethodName := ⟨"LeastBounds", "boundByClasses", "(III)I"⟩
abbrev b_L_boundArgument : ByteArray := prog_1_method_35_code
def y_L_boundArgument : MethodName := ⟨"LeastBounds", "boundArgument", "(III)I"⟩
abbrev b_L_commonOf : ByteArray := prog_1_method_36_code
def y_L_commonOf : MethodName := ⟨"LeastBounds", "commonOf", "(II)I"⟩
abbrev b_L_foundIn : ByteArray := prog_1_method_37_code
def y_L_foundIn : MethodName := ⟨"LeastBounds", "foundIn", "(I)I"⟩
abbrev b_L_gatherParts : ByteArray := prog_1_method_38_code
def y_L_gatherParts : MethodName := ⟨"LeastBounds", "gatherParts", "(II)I"⟩
abbrev b_L_dropNeedless : ByteArray := prog_1_method_39_code
def y_L_dropNeedless : MethodName := ⟨"LeastBounds", "dropNeedless", "(I)I"⟩
abbrev b_L_orderByClass : ByteArray := prog_1_method_40_code
def y_L_orderByClass : MethodName := ⟨"LeastBounds", "orderByClass", "(I)I"⟩
abbrev b_L_closeRow : ByteArray := prog_1_method_41_code
def y_L_closeRow : MethodName := ⟨"LeastBounds", "closeRow", "()I"⟩
abbrev b_M_init : ByteArray := prog_6_method_1_code
def y_M_init : MethodName := ⟨"LeastBoundsModel", "<init>", "(I)V"⟩
abbrev b_M_thrown : ByteArray := prog_6_method_2_code
def y_M_thrown : MethodName := ⟨"LeastBoundsModel", "thrown", "()I"⟩
abbrev b_M_good : ByteArray := prog_6_method_3_code
def y_M_good : MethodName := ⟨"LeastBoundsModel", "good", "(I)Z"⟩
abbrev b_M_tie : ByteArray := prog_6_method_4_code
def y_M_tie : MethodName := ⟨"LeastBoundsModel", "tie", "(III)V"⟩
abbrev b_M_reckonOver : ByteArray := prog_6_method_5_code
def y_M_reckonOver : MethodName := ⟨"LeastBoundsModel", "reckonOver", "(I)V"⟩
abbrev b_M_under : ByteArray := prog_6_method_6_code
def y_M_under : MethodName := ⟨"LeastBoundsModel", "under", "(II)Z"⟩
abbrev b_M_isClass : ByteArray := prog_6_method_7_code
def y_M_isClass : MethodName := ⟨"LeastBoundsModel", "isClass", "(I)Z"⟩
abbrev b_M_isType : ByteArray := prog_6_method_8_code
def y_M_isType : MethodName := ⟨"LeastBoundsModel", "isType", "(I)Z"⟩
abbrev b_M_climb : ByteArray := prog_6_method_9_code
def y_M_climb : MethodName := ⟨"LeastBoundsModel", "climb", "(IIII)V"⟩
abbrev b_M_lookAt : ByteArray := prog_6_method_10_code
def y_M_lookAt : MethodName := ⟨"LeastBoundsModel", "lookAt", "(II)V"⟩
abbrev b_M_add : ByteArray := prog_6_method_11_code
def y_M_add : MethodName := ⟨"LeastBoundsModel", "add", "(IIII)I"⟩
abbrev b_M_addNamed : ByteArray := prog_6_method_12_code
def y_M_addNamed : MethodName := ⟨"LeastBoundsModel", "addNamed", "(III)I"⟩
abbrev b_M_addArray : ByteArray := prog_6_method_13_code
def y_M_addArray : MethodName := ⟨"LeastBoundsModel", "addArray", "(I)I"⟩
abbrev b_M_addBoth : ByteArray := prog_6_method_14_code
def y_M_addBoth : MethodName := ⟨"LeastBoundsModel", "addBoth", "(I)I"⟩
abbrev b_M_reckonBelow : ByteArray := prog_6_method_15_code
def y_M_reckonBelow : MethodName := ⟨"LeastBoundsModel", "reckonBelow", "()V"⟩
abbrev b_M_isBelowAll : ByteArray := prog_6_method_16_code
def y_M_isBelowAll : MethodName := ⟨"LeastBoundsModel", "isBelowAll", "(II)Z"⟩
abbrev b_M_isBelowArray : ByteArray := prog_6_method_17_code
def y_M_isBelowArray : MethodName := ⟨"LeastBoundsModel", "isBelowArray", "(II)Z"⟩
abbrev b_M_isBelowNamed : ByteArray := prog_6_method_18_code
def y_M_isBelowNamed : MethodName := ⟨"LeastBoundsModel", "isBelowNamed", "(II)Z"⟩
abbrev b_M_declare : ByteArray := prog_6_method_19_code
def y_M_declare : MethodName := ⟨"LeastBoundsModel", "declare", "(ZZ)I"⟩
abbrev b_M_hasDirect : ByteArray := prog_6_method_20_code
def y_M_hasDirect : MethodName := ⟨"LeastBoundsModel", "hasDirect", "(II)Z"⟩
abbrev b_M_partsWay : ByteArray := prog_6_method_21_code
def y_M_partsWay : MethodName := ⟨"LeastBoundsModel", "partsWay", "(III)Z"⟩
abbrev b_M_above : ByteArray := prog_6_method_22_code
def y_M_above : MethodName := ⟨"LeastBoundsModel", "above", "(II)I"⟩
abbrev b_M_isUnder : ByteArray := prog_6_method_23_code
def y_M_isUnder : MethodName := ⟨"LeastBoundsModel", "isUnder", "(II)Z"⟩
abbrev b_M_classed : ByteArray := prog_6_method_24_code
def y_M_classed : MethodName := ⟨"LeastBoundsModel", "classed", "(II)I"⟩
abbrev b_M_count : ByteArray := prog_6_method_25_code
def y_M_count : MethodName := ⟨"LeastBoundsModel", "count", "(I)I"⟩
abbrev b_M_direct : ByteArray := prog_6_method_26_code
def y_M_direct : MethodName := ⟨"LeastBoundsModel", "direct", "(III)I"⟩
abbrev b_M_told : ByteArray := prog_6_method_27_code
def y_M_told : MethodName := ⟨"LeastBoundsModel", "told", "(I)I"⟩
abbrev b_M_end : ByteArray := prog_6_method_28_code
def y_M_end : MethodName := ⟨"LeastBoundsModel", "end", "(III)I"⟩
abbrev b_M_named : ByteArray := prog_6_method_29_code
def y_M_named : MethodName := ⟨"LeastBoundsModel", "named", "(III)I"⟩
abbrev b_M_array : ByteArray := prog_6_method_30_code
def y_M_array : MethodName := ⟨"LeastBoundsModel", "array", "(I)I"⟩
abbrev b_M_isBelow : ByteArray := prog_6_method_31_code
def y_M_isBelow : MethodName := ⟨"LeastBoundsModel", "isBelow", "(II)Z"⟩
abbrev b_M_look : ByteArray := prog_6_method_32_code
def y_M_look : MethodName := ⟨"LeastBoundsModel", "look", "(II)I"⟩
abbrev b_M_box : ByteArray := prog_6_method_33_code
def y_M_box : MethodName := ⟨"LeastBoundsModel", "box", "(I)I"⟩
abbrev b_M_type : ByteArray := prog_6_method_34_code
def y_M_type : MethodName := ⟨"LeastBoundsModel", "type", "(II)I"⟩
abbrev b_M_part : ByteArray := prog_6_method_35_code
def y_M_part : MethodName := ⟨"LeastBoundsModel", "part", "(II)I"⟩
abbrev b_M_commonOf : ByteArray := prog_6_method_36_code
def y_M_commonOf : MethodName := ⟨"LeastBoundsModel", "commonOf", "(II)I"⟩
abbrev b_M_leastOf : ByteArray := prog_6_method_37_code
def y_M_leastOf : MethodName := ⟨"LeastBoundsModel", "leastOf", "(I)I"⟩
abbrev b_M_common : ByteArray := prog_6_method_38_code
def y_M_common : MethodName := ⟨"LeastBoundsModel", "common", "(III)I"⟩
abbrev b_M_ask : ByteArray := prog_6_method_39_code
def y_M_ask : MethodName := ⟨"LeastBoundsModel", "ask", "(III)V"⟩
abbrev b_M_tell : ByteArray := prog_6_method_40_code
def y_M_tell : MethodName := ⟨"LeastBoundsModel", "tell", "(I)V"⟩
abbrev b_M_keep : ByteArray := prog_6_method_41_code
def y_M_keep : MethodName := ⟨"LeastBoundsModel", "keep", "(II)V"⟩
abbrev b_M_begin : ByteArray := prog_6_method_42_code
def y_M_begin : MethodName := ⟨"LeastBoundsModel", "begin", "(I)V"⟩
abbrev b_M_goOn : ByteArray := prog_6_method_43_code
def y_M_goOn : MethodName := ⟨"LeastBoundsModel", "goOn", "(I)V"⟩
abbrev b_M_upper : ByteArray := prog_6_method_44_code
def y_M_upper : MethodName := ⟨"LeastBoundsModel", "upper", "(II)I"⟩
abbrev b_M_lower : ByteArray := prog_6_method_45_code
def y_M_lower : MethodName := ⟨"LeastBoundsModel", "lower", "(II)I"⟩
abbrev b_M_partOf : ByteArray := prog_6_method_46_code
def y_M_partOf : MethodName := ⟨"LeastBoundsModel", "partOf", "(III)I"⟩
abbrev b_A_init : ByteArray := prog_2_method_1_code
def y_A_init : MethodName := ⟨"LeastBounds$Answers", "<init>", "()V"⟩
abbrev b_A_isPair : ByteArray := prog_2_method_2_code
def y_A_isPair : MethodName := ⟨"LeastBounds$Answers", "isPair", "(II)Z"⟩
abbrev b_A_read : ByteArray := prog_2_method_3_code
def y_A_read : MethodName := ⟨"LeastBounds$Answers", "read", "(II)I"⟩
abbrev b_A_keep : ByteArray := prog_2_method_4_code
def y_A_keep : MethodName := ⟨"LeastBounds$Answers", "keep", "(IIZ)V"⟩
abbrev b_A_forget : ByteArray := prog_2_method_5_code
def y_A_forget : MethodName := ⟨"LeastBounds$Answers", "forget", "()V"⟩
abbrev b_C_init : ByteArray := prog_3_method_1_code
def y_C_init : MethodName := ⟨"LeastBounds$Classes", "<init>", "()V"⟩
abbrev b_C_count : ByteArray := prog_3_method_2_code
def y_C_count : MethodName := ⟨"LeastBounds$Classes", "count", "()I"⟩
abbrev b_C_countGeneric : ByteArray := prog_3_method_3_code
def y_C_countGeneric : MethodName := ⟨"LeastBounds$Classes", "countGeneric", "()I"⟩
abbrev b_C_newest : ByteArray := prog_3_method_4_code
def y_C_newest : MethodName := ⟨"LeastBounds$Classes", "newest", "()I"⟩
abbrev b_C_isThere : ByteArray := prog_3_method_5_code
def y_C_isThere : MethodName := ⟨"LeastBounds$Classes", "isThere", "(I)Z"⟩
abbrev b_C_isFace : ByteArray := prog_3_method_6_code
def y_C_isFace : MethodName := ⟨"LeastBounds$Classes", "isFace", "(I)Z"⟩
abbrev b_C_isGeneric : ByteArray := prog_3_method_7_code
def y_C_isGeneric : MethodName := ⟨"LeastBounds$Classes", "isGeneric", "(I)Z"⟩
abbrev b_C_aboveOf : ByteArray := prog_3_method_8_code
def y_C_aboveOf : MethodName := ⟨"LeastBounds$Classes", "aboveOf", "(I)I"⟩
abbrev b_C_withAbove : ByteArray := prog_3_method_9_code
def y_C_withAbove : MethodName := ⟨"LeastBounds$Classes", "withAbove", "(I)I"⟩
abbrev b_C_countDirect : ByteArray := prog_3_method_10_code
def y_C_countDirect : MethodName := ⟨"LeastBounds$Classes", "countDirect", "(I)I"⟩
abbrev b_C_directAt : ByteArray := prog_3_method_11_code
def y_C_directAt : MethodName := ⟨"LeastBounds$Classes", "directAt", "(II)I"⟩
abbrev b_C_toldAt : ByteArray := prog_3_method_12_code
def y_C_toldAt : MethodName := ⟨"LeastBounds$Classes", "toldAt", "(II)I"⟩
abbrev b_C_add : ByteArray := prog_3_method_13_code
def y_C_add : MethodName := ⟨"LeastBounds$Classes", "add", "(ZZ)I"⟩
abbrev b_C_mayGet : ByteArray := prog_3_method_14_code
def y_C_mayGet : MethodName := ⟨"LeastBounds$Classes", "mayGet", "(I)Z"⟩
abbrev b_C_isDirectly : ByteArray := prog_3_method_15_code
def y_C_isDirectly : MethodName := ⟨"LeastBounds$Classes", "isDirectly", "(II)Z"⟩
abbrev b_C_clashes : ByteArray := prog_3_method_16_code
def y_C_clashes : MethodName := ⟨"LeastBounds$Classes", "clashes", "(II)Z"⟩
abbrev b_C_put : ByteArray := prog_3_method_17_code
def y_C_put : MethodName := ⟨"LeastBounds$Classes", "put", "(II)I"⟩
abbrev b_C_write : ByteArray := prog_3_method_18_code
def y_C_write : MethodName := ⟨"LeastBounds$Classes", "write", "(IIII)V"⟩
abbrev b_C_climb : ByteArray := prog_3_method_19_code
def y_C_climb : MethodName := ⟨"LeastBounds$Classes", "climb", "(III)I"⟩
abbrev b_C_firstToward : ByteArray := prog_3_method_20_code
def y_C_firstToward : MethodName := ⟨"LeastBounds$Classes", "firstToward", "(II)I"⟩
abbrev b_C_passOn : ByteArray := prog_3_method_21_code
def y_C_passOn : MethodName := ⟨"LeastBounds$Classes", "passOn", "(II)I"⟩
abbrev b_C_leastOf : ByteArray := prog_3_method_22_code
def y_C_leastOf : MethodName := ⟨"LeastBounds$Classes", "leastOf", "(I)I"⟩
abbrev b_T_init : ByteArray := prog_4_method_1_code
def y_T_init : MethodName := ⟨"LeastBounds$Types", "<init>", "()V"⟩
abbrev b_T_count : ByteArray := prog_4_method_2_code
def y_T_count : MethodName := ⟨"LeastBounds$Types", "count", "()I"⟩
abbrev b_T_isThere : ByteArray := prog_4_method_3_code
def y_T_isThere : MethodName := ⟨"LeastBounds$Types", "isThere", "(I)Z"⟩
abbrev b_T_kindOf : ByteArray := prog_4_method_4_code
def y_T_kindOf : MethodName := ⟨"LeastBounds$Types", "kindOf", "(I)I"⟩
abbrev b_T_classOf : ByteArray := prog_4_method_5_code
def y_T_classOf : MethodName := ⟨"LeastBounds$Types", "classOf", "(I)I"⟩
abbrev b_T_argumentAt : ByteArray := prog_4_method_6_code
def y_T_argumentAt : MethodName := ⟨"LeastBounds$Types", "argumentAt", "(I)I"⟩
abbrev b_T_elementOf : ByteArray := prog_4_method_7_code
def y_T_elementOf : MethodName := ⟨"LeastBounds$Types", "elementOf", "(I)I"⟩
abbrev b_T_sizeOf : ByteArray := prog_4_method_8_code
def y_T_sizeOf : MethodName := ⟨"LeastBounds$Types", "sizeOf", "(I)I"⟩
abbrev b_T_countParts : ByteArray := prog_4_method_9_code
def y_T_countParts : MethodName := ⟨"LeastBounds$Types", "countParts", "(I)I"⟩
abbrev b_T_partOf : ByteArray := prog_4_method_10_code
def y_T_partOf : MethodName := ⟨"LeastBounds$Types", "partOf", "(II)I"⟩
abbrev b_T_settle : ByteArray := prog_4_method_11_code
def y_T_settle : MethodName := ⟨"LeastBounds$Types", "settle", "()V"⟩
abbrev b_T_dropUnsettled : ByteArray := prog_4_method_12_code
def y_T_dropUnsettled : MethodName := ⟨"LeastBounds$Types", "dropUnsettled", "()V"⟩
abbrev b_T_makeNamed : ByteArray := prog_4_method_13_code
def y_T_makeNamed : MethodName := ⟨"LeastBounds$Types", "makeNamed", "(II)I"⟩
abbrev b_T_makeArray : ByteArray := prog_4_method_14_code
def y_T_makeArray : MethodName := ⟨"LeastBounds$Types", "makeArray", "(I)I"⟩
abbrev b_T_makeIntersection : ByteArray := prog_4_method_15_code
def y_T_makeIntersection : MethodName := ⟨"LeastBounds$Types", "makeIntersection", "([III)I"⟩
abbrev b_T_findIntersection : ByteArray := prog_4_method_16_code
def y_T_findIntersection : MethodName := ⟨"LeastBounds$Types", "findIntersection", "([III)I"⟩
abbrev b_T_hasParts : ByteArray := prog_4_method_17_code
def y_T_hasParts : MethodName := ⟨"LeastBounds$Types", "hasParts", "(I[II)Z"⟩
abbrev b_T_appendParts : ByteArray := prog_4_method_18_code
def y_T_appendParts : MethodName := ⟨"LeastBounds$Types", "appendParts", "(I[III)V"⟩
abbrev b_T_append : ByteArray := prog_4_method_19_code
def y_T_append : MethodName := ⟨"LeastBounds$Types", "append", "(II)I"⟩
abbrev b_W_cell : ByteArray := method_2_code
def y_W_cell : MethodName := ⟨"LeastBoundsLaw", "cell", "([II)I"⟩
abbrev b_W_declare : ByteArray := method_3_code
def y_W_declare : MethodName := ⟨"LeastBoundsLaw", "declare", "(LLeastBounds;ZZ[J)I"⟩
abbrev b_W_above : ByteArray := method_4_code
def y_W_above : MethodName := ⟨"LeastBoundsLaw", "above", "(LLeastBounds;II[J)I"⟩
abbrev b_W_named : ByteArray := method_5_code
def y_W_named : MethodName := ⟨"LeastBoundsLaw", "named", "(LLeastBounds;III[J)I"⟩
abbrev b_W_array : ByteArray := method_6_code
def y_W_array : MethodName := ⟨"LeastBoundsLaw", "array", "(LLeastBounds;I[J)I"⟩
abbrev b_W_upper : ByteArray := method_7_code
def y_W_upper : MethodName := ⟨"LeastBoundsLaw", "upper", "(LLeastBounds;II[J)I"⟩
abbrev b_W_lower : ByteArray := method_8_code
def y_W_lower : MethodName := ⟨"LeastBoundsLaw", "lower", "(LLeastBounds;II[J)I"⟩
abbrev b_W_isBelow : ByteArray := method_9_code
def y_W_isBelow : MethodName := ⟨"LeastBoundsLaw", "isBelow", "(LLeastBounds;II[J)I"⟩
abbrev b_W_look : ByteArray := method_10_code
def y_W_look : MethodName := ⟨"LeastBoundsLaw", "look", "(LLeastBounds;II[J)I"⟩
abbrev b_W_box : ByteArray := method_11_code
def y_W_box : MethodName := ⟨"LeastBoundsLaw", "box", "(LLeastBounds;I[J)I"⟩
abbrev b_W_type : ByteArray := method_12_code
def y_W_type : MethodName := ⟨"LeastBoundsLaw", "type", "(LLeastBounds;II[J)I"⟩
abbrev b_W_part : ByteArray := method_13_code
def y_W_part : MethodName := ⟨"LeastBoundsLaw", "part", "(LLeastBounds;II[J)I"⟩
abbrev b_W_common : ByteArray := method_14_code
def y_W_common : MethodName := ⟨"LeastBoundsLaw", "common", "(LLeastBounds;III[J)I"⟩
abbrev b_W_isUnder : ByteArray := method_15_code
def y_W_isUnder : MethodName := ⟨"LeastBoundsLaw", "isUnder", "(LLeastBounds;II[J)I"⟩
abbrev b_W_classed : ByteArray := method_16_code
def y_W_classed : MethodName := ⟨"LeastBoundsLaw", "classed", "(LLeastBounds;II[J)I"⟩
abbrev b_W_direct : ByteArray := method_17_code
def y_W_direct : MethodName := ⟨"LeastBoundsLaw", "direct", "(LLeastBounds;III[J)I"⟩
abbrev b_W_told : ByteArray := method_18_code
def y_W_told : MethodName := ⟨"LeastBoundsLaw", "told", "(LLeastBounds;I[J)I"⟩
abbrev b_J_bitCount : ByteArray := prog_12_method_49_code
def y_J_bitCount : MethodName := ⟨"java/lang/Integer", "bitCount", "(I)I"⟩
abbrev b_J_copyOf : ByteArray := prog_18_method_123_code
def y_J_copyOf : MethodName := ⟨"java/util/Arrays", "copyOf", "([II)[I"⟩
abbrev b_J_fill : ByteArray := prog_18_method_103_code
def y_J_fill : MethodName := ⟨"java/util/Arrays", "fill", "([II)V"⟩
/-- the words of the tables that stay true -/
def tb : List Cond := lw_tbl.filter goodWord
theorem tb_ok : ∀ w ∈ tb, (w.onTables && w.keeps) = true ∨ ∃ ty, w = .arrayClass ty := fun w h => good_of_word (List.mem_filter.mp h).2
theorem mt0 {w : Cond} (h : w ∈ k2_sels lw_privs) (g : goodWord w = true) : w ∈ tb := List.mem_filter.mpr ⟨List.mem_append_left _ h, g⟩
theorem mt1 {w : Cond} (h : w ∈ tables_1_1) (g : goodWord w = true) : w ∈ tb := List.mem_filter.mpr ⟨List.mem_append_right _ (List.mem_append_left _ h), g⟩
theorem mt2 {w : Cond} (h : w ∈ tables_1_2) (g : goodWord w = true) : w ∈ tb := List.mem_filter.mpr ⟨List.mem_append_right _ (List.mem_append_right _ (List.mem_append_left _ h)), g⟩
theorem mt3 {w : Cond} (h : w ∈ tables_1_3) (g : goodWord w = true) : w ∈ tb := List.mem_filter.mpr ⟨List.mem_append_right _ (List.mem_append_right _ (List.mem_append_right _ (List.mem_append_left _ h))), g⟩
theorem mt4 {w : Cond} (h : w ∈ tables_1_4) (g : goodWord w = true) : w ∈ tb := List.mem_filter.mpr ⟨List.mem_append_right _ (List.mem_append_right _ (List.mem_append_right _ (List.mem_append_right _ (List.mem_append_left _ h)))), g⟩
theorem mt5 {w : Cond} (h : w ∈ tables_1_5) (g : goodWord w = true) : w ∈ tb := List.mem_filter.mpr ⟨List.mem_append_right _ (List.mem_append_right _ (List.mem_append_right _ (List.mem_append_right _ (List.mem_append_right _ (h))))), g⟩
def nwL : List Cond := [.methodLinkNest "LeastBounds$Classes" 46 ⟨"LeastBounds", "boxTypeOf", "(I)I"⟩ "LeastBounds", .methodLinkNest "LeastBounds$Types" 63 ⟨"LeastBounds", "typeOf", "(I)I"⟩ "LeastBounds", .methodLinkNest "LeastBounds" 38 ⟨"LeastBounds$Answers", "<init>", "()V"⟩ "LeastBounds", .methodLinkNest "LeastBounds$Classes" 81 ⟨"LeastBounds", "has", "(II)Z"⟩ "LeastBounds", .methodLinkNest "LeastBounds$Classes" 105 ⟨"LeastBounds", "argumentOf", "(II)I"⟩ "LeastBounds", .castable "java/lang/IllegalStateException" "java/lang/IllegalStateException", .declares ⟨"java/lang/RuntimeException", "<init>", "()V"⟩, .declares ⟨"java/lang/RuntimeException", "<init>", "(Ljava/lang/String;)V"⟩, .declares ⟨"java/lang/Exception", "<init>", "()V"⟩, .declares ⟨"java/lang/Exception", "<init>", "(Ljava/lang/String;)V"⟩, .declares ⟨"java/lang/Throwable", "<init>", "()V"⟩, .declares ⟨"java/lang/Throwable", "<init>", "(Ljava/lang/String;)V"⟩, .castable "java/lang/IndexOutOfBoundsException" "java/lang/IndexOutOfBoundsException", .castable "java/lang/IllegalArgumentException" "java/lang/IllegalArgumentException", .castable "[I" "java/lang/Cloneable"]
/-- the texts of the exceptions -/
def stL : List (String × Nat × String) := [("LeastBounds", 56, "there are 30 classes"), ("LeastBounds", 64, "there are six generic classes"), ("LeastBounds", 223, "no such class"), ("LeastBounds", 226, "no such type"), ("LeastBounds", 81, "the newest class can't get this one"), ("LeastBounds", 89, "no argument for this class"), ("LeastBounds", 95, "a generic class would be found with two arguments"), ("LeastBounds", 106, "how is not as the class is"), ("LeastBounds", 112, "a primitive is no argument"), ("LeastBounds", 231, "more than 300 types, or one made of more than 100"), ("LeastBounds", 174, "what is 0 to 5"), ("LeastBounds", 178, "no such part"), ("LeastBounds", 195, "what is 0 or 1"), ("LeastBounds", 209, "what is 0 to 3"), ("LeastBounds", 211, "no such class directly above")]
theorem nwL_sh : ∀ w ∈ nwL, (∃ a i x k, w = Cond.methodLinkNest a i x k) ∨ (∃ x, w = Cond.declares x) ∨ ∃ a b, w = Cond.castable a b := by
  intro w hw
  simp only [nwL, List.mem_cons, List.not_mem_nil, or_false] at hw
  rcases hw with rfl | rfl | rfl | rfl | rfl | rfl | rfl | rfl | rfl | rfl | rfl | rfl | rfl | rfl | rfl <;> first | exact Or.inl ⟨_, _, _, _, rfl⟩ | exact Or.inr (Or.inl ⟨_, rfl⟩) | exact Or.inr (Or.inr ⟨_, _, rfl⟩)
theorem i_L : ∀ w ∈ u_ws R_L F_L 6, w ∈ tb := by decide +kernel
theorem i_C : ∀ w ∈ u_ws R_C F_C 8, w ∈ tb := by decide +kernel
theorem i_T : ∀ w ∈ u_ws R_T F_T 12, w ∈ tb := by decide +kernel
theorem i_A : ∀ w ∈ u_ws R_A F_A 2, w ∈ tb := by decide +kernel
theorem i_M : ∀ w ∈ u_ws R_M F_M 35, w ∈ tb := by decide +kernel
theorem wd_0 : Cond.constant "java/lang/Integer" 265 (1431655765) ∈ tb := mt3 (List.mem_of_getElem? (i := 155) rfl) rfl
theorem wd_1 : Cond.constant "java/lang/Integer" 266 (858993459) ∈ tb := mt3 (List.mem_of_getElem? (i := 156) rfl) rfl
theorem wd_2 : Cond.constant "java/lang/Integer" 267 (252645135) ∈ tb := mt3 (List.mem_of_getElem? (i := 157) rfl) rfl
theorem wd_3 : Cond.fieldLink "LeastBounds$Classes" 31 "LeastBounds$Classes" "count" "I" ∈ tb := mt1 (List.mem_of_getElem? (i := 78) rfl) rfl
theorem wd_4 : Cond.methodLink "LeastBounds$Classes" 50 ⟨"LeastBounds$Classes", "isThere", "(I)Z"⟩ ∈ tb := mt1 (List.mem_of_getElem? (i := 44) rfl) rfl
theorem wd_5 : Cond.code ⟨"LeastBounds$Classes", "isThere", "(I)Z"⟩ prog_3_method_5_code 2 (some FieldType.boolean) ∈ tb := mt1 (List.mem_of_getElem? (i := 47) rfl) rfl
theorem wd_6 : Cond.instanceMethod ⟨"LeastBounds$Classes", "isThere", "(I)Z"⟩ ∈ tb := mt1 (List.mem_of_getElem? (i := 45) rfl) rfl
theorem wd_7 : Cond.selects "LeastBounds$Classes" ⟨"LeastBounds$Classes", "isThere", "(I)Z"⟩ ⟨"LeastBounds$Classes", "isThere", "(I)Z"⟩ ∈ tb := mt1 (List.mem_of_getElem? (i := 46) rfl) rfl
theorem wd_8 : Cond.initialized "LeastBounds$Classes" ∈ tb := mt1 (List.mem_of_getElem? (i := 3) rfl) rfl
theorem wd_9 : Cond.fieldLink "LeastBounds$Classes" 18 "LeastBounds$Classes" "above" "[I" ∈ tb := mt1 (List.mem_of_getElem? (i := 74) rfl) rfl
theorem wd_10 : Cond.fieldLink "LeastBounds$Classes" 25 "LeastBounds$Classes" "directs" "[I" ∈ tb := mt1 (List.mem_of_getElem? (i := 76) rfl) rfl
theorem wd_11 : Cond.fieldLink "LeastBounds$Classes" 28 "LeastBounds$Classes" "tolds" "[I" ∈ tb := mt1 (List.mem_of_getElem? (i := 77) rfl) rfl
theorem wd_12 : Cond.fieldLink "LeastBounds$Classes" 22 "LeastBounds$Classes" "directCounts" "[I" ∈ tb := mt1 (List.mem_of_getElem? (i := 75) rfl) rfl
theorem wd_13 : Cond.methodLink "LeastBounds$Classes" 94 ⟨"java/lang/Math", "max", "(II)I"⟩ ∈ tb := mt1 (List.mem_of_getElem? (i := 48) rfl) rfl
theorem wd_14 : Cond.static ⟨"java/lang/Math", "max", "(II)I"⟩ ∈ tb := mt1 (List.mem_of_getElem? (i := 28) rfl) rfl
theorem wd_15 : Cond.initialized "java/lang/Math" ∈ tb := mt1 (List.mem_of_getElem? (i := 2) rfl) rfl
theorem wd_16 : Cond.code ⟨"java/lang/Math", "max", "(II)I"⟩ prog_13_method_65_code 2 (some FieldType.int) ∈ tb := mt1 (List.mem_of_getElem? (i := 29) rfl) rfl
theorem wd_17 : Cond.methodLink "LeastBounds$Classes" 78 ⟨"LeastBounds$Classes", "withAbove", "(I)I"⟩ ∈ tb := mt1 (List.mem_of_getElem? (i := 49) rfl) rfl
theorem wd_18 : Cond.code ⟨"LeastBounds$Classes", "withAbove", "(I)I"⟩ prog_3_method_9_code 2 (some FieldType.int) ∈ tb := mt1 (List.mem_of_getElem? (i := 52) rfl) rfl
theorem wd_19 : Cond.instanceMethod ⟨"LeastBounds$Classes", "withAbove", "(I)I"⟩ ∈ tb := mt1 (List.mem_of_getElem? (i := 50) rfl) rfl
theorem wd_20 : Cond.selects "LeastBounds$Classes" ⟨"LeastBounds$Classes", "withAbove", "(I)I"⟩ ⟨"LeastBounds$Classes", "withAbove", "(I)I"⟩ ∈ tb := mt1 (List.mem_of_getElem? (i := 51) rfl) rfl
theorem wd_21 : Cond.fieldLink "LeastBounds$Classes" 9 "LeastBounds$Classes" "faces" "[Z" ∈ tb := mt1 (List.mem_of_getElem? (i := 72) rfl) rfl
theorem wd_22 : Cond.fieldLink "LeastBounds$Classes" 15 "LeastBounds$Classes" "generics" "[Z" ∈ tb := mt1 (List.mem_of_getElem? (i := 73) rfl) rfl
theorem wd_23 : Cond.methodLink "LeastBounds$Classes" 54 ⟨"LeastBounds$Classes", "write", "(IIII)V"⟩ ∈ tb := mt1 (List.mem_of_getElem? (i := 40) rfl) rfl
theorem wd_24 : Cond.code ⟨"LeastBounds$Classes", "write", "(IIII)V"⟩ prog_3_method_18_code 5 none ∈ tb := mt1 (List.mem_of_getElem? (i := 43) rfl) rfl
theorem wd_25 : Cond.instanceMethod ⟨"LeastBounds$Classes", "write", "(IIII)V"⟩ ∈ tb := mt1 (List.mem_of_getElem? (i := 42) rfl) rfl
theorem wd_26 : Cond.selects "LeastBounds$Classes" ⟨"LeastBounds$Classes", "write", "(IIII)V"⟩ ⟨"LeastBounds$Classes", "write", "(IIII)V"⟩ ∈ tb := mt0 (List.mem_of_getElem? (i := 0) rfl) rfl
theorem wd_27 : Cond.fieldLink "LeastBounds$Classes" 35 "LeastBounds$Classes" "countGeneric" "I" ∈ tb := mt1 (List.mem_of_getElem? (i := 79) rfl) rfl
theorem wd_28 : Cond.methodLink "LeastBounds$Classes" 58 ⟨"LeastBounds$Classes", "newest", "()I"⟩ ∈ tb := mt1 (List.mem_of_getElem? (i := 57) rfl) rfl
theorem wd_29 : Cond.code ⟨"LeastBounds$Classes", "newest", "()I"⟩ prog_3_method_4_code 1 (some FieldType.int) ∈ tb := mt1 (List.mem_of_getElem? (i := 60) rfl) rfl
theorem wd_30 : Cond.instanceMethod ⟨"LeastBounds$Classes", "newest", "()I"⟩ ∈ tb := mt1 (List.mem_of_getElem? (i := 58) rfl) rfl
theorem wd_31 : Cond.selects "LeastBounds$Classes" ⟨"LeastBounds$Classes", "newest", "()I"⟩ ⟨"LeastBounds$Classes", "newest", "()I"⟩ ∈ tb := mt1 (List.mem_of_getElem? (i := 59) rfl) rfl
theorem wd_32 : Cond.methodLink "LeastBounds$Classes" 62 ⟨"LeastBounds$Classes", "isFace", "(I)Z"⟩ ∈ tb := mt1 (List.mem_of_getElem? (i := 61) rfl) rfl
theorem wd_33 : Cond.code ⟨"LeastBounds$Classes", "isFace", "(I)Z"⟩ prog_3_method_6_code 2 (some FieldType.boolean) ∈ tb := mt1 (List.mem_of_getElem? (i := 64) rfl) rfl
theorem wd_34 : Cond.instanceMethod ⟨"LeastBounds$Classes", "isFace", "(I)Z"⟩ ∈ tb := mt1 (List.mem_of_getElem? (i := 62) rfl) rfl
theorem wd_35 : Cond.selects "LeastBounds$Classes" ⟨"LeastBounds$Classes", "isFace", "(I)Z"⟩ ⟨"LeastBounds$Classes", "isFace", "(I)Z"⟩ ∈ tb := mt1 (List.mem_of_getElem? (i := 63) rfl) rfl
theorem wd_36 : Cond.methodLink "LeastBounds$Classes" 72 ⟨"LeastBounds$Classes", "countDirect", "(I)I"⟩ ∈ tb := mt1 (List.mem_of_getElem? (i := 65) rfl) rfl
theorem wd_37 : Cond.code ⟨"LeastBounds$Classes", "countDirect", "(I)I"⟩ prog_3_method_10_code 2 (some FieldType.int) ∈ tb := mt1 (List.mem_of_getElem? (i := 68) rfl) rfl
theorem wd_38 : Cond.instanceMethod ⟨"LeastBounds$Classes", "countDirect", "(I)I"⟩ ∈ tb := mt1 (List.mem_of_getElem? (i := 66) rfl) rfl
theorem wd_39 : Cond.selects "LeastBounds$Classes" ⟨"LeastBounds$Classes", "countDirect", "(I)I"⟩ ⟨"LeastBounds$Classes", "countDirect", "(I)I"⟩ ∈ tb := mt1 (List.mem_of_getElem? (i := 67) rfl) rfl
theorem wd_40 : Cond.fieldLink "LeastBounds$Types" 40 "LeastBounds$Types" "count" "I" ∈ tb := mt1 (List.mem_of_getElem? (i := 137) rfl) rfl
theorem wd_41 : Cond.fieldLink "LeastBounds$Types" 9 "LeastBounds$Types" "kinds" "[I" ∈ tb := mt1 (List.mem_of_getElem? (i := 128) rfl) rfl
theorem wd_42 : Cond.fieldLink "LeastBounds$Types" 15 "LeastBounds$Types" "named" "[I" ∈ tb := mt1 (List.mem_of_getElem? (i := 129) rfl) rfl
theorem wd_43 : Cond.fieldLink "LeastBounds$Types" 18 "LeastBounds$Types" "arguments" "[I" ∈ tb := mt1 (List.mem_of_getElem? (i := 130) rfl) rfl
theorem wd_44 : Cond.fieldLink "LeastBounds$Types" 21 "LeastBounds$Types" "elements" "[I" ∈ tb := mt1 (List.mem_of_getElem? (i := 131) rfl) rfl
theorem wd_45 : Cond.fieldLink "LeastBounds$Types" 24 "LeastBounds$Types" "sizes" "[I" ∈ tb := mt1 (List.mem_of_getElem? (i := 132) rfl) rfl
theorem wd_46 : Cond.fieldLink "LeastBounds$Types" 27 "LeastBounds$Types" "partStarts" "[I" ∈ tb := mt1 (List.mem_of_getElem? (i := 133) rfl) rfl
theorem wd_47 : Cond.fieldLink "LeastBounds$Types" 30 "LeastBounds$Types" "partCounts" "[I" ∈ tb := mt1 (List.mem_of_getElem? (i := 134) rfl) rfl
theorem wd_48 : Cond.methodLink "LeastBounds$Types" 59 ⟨"LeastBounds$Types", "isThere", "(I)Z"⟩ ∈ tb := mt1 (List.mem_of_getElem? (i := 120) rfl) rfl
theorem wd_49 : Cond.code ⟨"LeastBounds$Types", "isThere", "(I)Z"⟩ prog_4_method_3_code 2 (some FieldType.boolean) ∈ tb := mt1 (List.mem_of_getElem? (i := 123) rfl) rfl
theorem wd_50 : Cond.instanceMethod ⟨"LeastBounds$Types", "isThere", "(I)Z"⟩ ∈ tb := mt1 (List.mem_of_getElem? (i := 121) rfl) rfl
theorem wd_51 : Cond.selects "LeastBounds$Types" ⟨"LeastBounds$Types", "isThere", "(I)Z"⟩ ⟨"LeastBounds$Types", "isThere", "(I)Z"⟩ ∈ tb := mt1 (List.mem_of_getElem? (i := 122) rfl) rfl
theorem wd_52 : Cond.initialized "LeastBounds$Types" ∈ tb := mt1 (List.mem_of_getElem? (i := 4) rfl) rfl
theorem wd_53 : Cond.code ⟨"LeastBounds", "typeOf", "(I)I"⟩ prog_1_method_24_code 1 (some FieldType.int) ∈ tb := mt1 (List.mem_of_getElem? (i := 115) rfl) rfl
theorem wd_54 : Cond.static ⟨"LeastBounds", "typeOf", "(I)I"⟩ ∈ tb := mt1 (List.mem_of_getElem? (i := 114) rfl) rfl
theorem wd_55 : Cond.initialized "LeastBounds" ∈ tb := mt1 (List.mem_of_getElem? (i := 1) rfl) rfl
theorem wd_56 : Cond.methodLink "LeastBounds$Types" 67 ⟨"LeastBounds$Types", "sizeOf", "(I)I"⟩ ∈ tb := mt1 (List.mem_of_getElem? (i := 116) rfl) rfl
theorem wd_57 : Cond.code ⟨"LeastBounds$Types", "sizeOf", "(I)I"⟩ prog_4_method_8_code 2 (some FieldType.int) ∈ tb := mt1 (List.mem_of_getElem? (i := 119) rfl) rfl
theorem wd_58 : Cond.instanceMethod ⟨"LeastBounds$Types", "sizeOf", "(I)I"⟩ ∈ tb := mt1 (List.mem_of_getElem? (i := 117) rfl) rfl
theorem wd_59 : Cond.selects "LeastBounds$Types" ⟨"LeastBounds$Types", "sizeOf", "(I)I"⟩ ⟨"LeastBounds$Types", "sizeOf", "(I)I"⟩ ∈ tb := mt1 (List.mem_of_getElem? (i := 118) rfl) rfl
theorem wd_60 : Cond.methodLink "LeastBounds$Types" 49 ⟨"LeastBounds$Types", "append", "(II)I"⟩ ∈ tb := mt1 (List.mem_of_getElem? (i := 105) rfl) rfl
theorem wd_61 : Cond.code ⟨"LeastBounds$Types", "append", "(II)I"⟩ prog_4_method_19_code 4 (some FieldType.int) ∈ tb := mt1 (List.mem_of_getElem? (i := 108) rfl) rfl
theorem wd_62 : Cond.instanceMethod ⟨"LeastBounds$Types", "append", "(II)I"⟩ ∈ tb := mt1 (List.mem_of_getElem? (i := 107) rfl) rfl
theorem wd_63 : Cond.selects "LeastBounds$Types" ⟨"LeastBounds$Types", "append", "(II)I"⟩ ⟨"LeastBounds$Types", "append", "(II)I"⟩ ∈ tb := mt0 (List.mem_of_getElem? (i := 1) rfl) rfl
theorem wd_64 : Cond.fieldLink "LeastBounds$Types" 46 "LeastBounds$Types" "settledCount" "I" ∈ tb := mt1 (List.mem_of_getElem? (i := 139) rfl) rfl
theorem wd_65 : Cond.fieldLink "LeastBounds$Types" 36 "LeastBounds$Types" "partsUsed" "I" ∈ tb := mt1 (List.mem_of_getElem? (i := 136) rfl) rfl
theorem wd_66 : Cond.fieldLink "LeastBounds$Types" 43 "LeastBounds$Types" "settledParts" "I" ∈ tb := mt1 (List.mem_of_getElem? (i := 138) rfl) rfl
theorem wd_67 : Cond.fieldLink "LeastBounds" 25 "LeastBounds" "classes" "LLeastBounds$Classes;" ∈ tb := mt1 (List.mem_of_getElem? (i := 179) rfl) rfl
theorem wd_68 : Cond.methodLink "LeastBounds" 50 ⟨"LeastBounds$Classes", "count", "()I"⟩ ∈ tb := mt1 (List.mem_of_getElem? (i := 208) rfl) rfl
theorem wd_69 : Cond.code ⟨"LeastBounds$Classes", "count", "()I"⟩ prog_3_method_2_code 1 (some FieldType.int) ∈ tb := mt1 (List.mem_of_getElem? (i := 211) rfl) rfl
theorem wd_70 : Cond.instanceMethod ⟨"LeastBounds$Classes", "count", "()I"⟩ ∈ tb := mt1 (List.mem_of_getElem? (i := 209) rfl) rfl
theorem wd_71 : Cond.selects "LeastBounds$Classes" ⟨"LeastBounds$Classes", "count", "()I"⟩ ⟨"LeastBounds$Classes", "count", "()I"⟩ ∈ tb := mt1 (List.mem_of_getElem? (i := 210) rfl) rfl
theorem wd_72 : Cond.methodLink "LeastBounds" 66 ⟨"LeastBounds$Classes", "add", "(ZZ)I"⟩ ∈ tb := mt2 (List.mem_of_getElem? (i := 45) rfl) rfl
theorem wd_73 : Cond.code ⟨"LeastBounds$Classes", "add", "(ZZ)I"⟩ prog_3_method_13_code 4 (some FieldType.int) ∈ tb := mt1 (List.mem_of_getElem? (i := 39) rfl) rfl
theorem wd_74 : Cond.instanceMethod ⟨"LeastBounds$Classes", "add", "(ZZ)I"⟩ ∈ tb := mt1 (List.mem_of_getElem? (i := 37) rfl) rfl
theorem wd_75 : Cond.selects "LeastBounds$Classes" ⟨"LeastBounds$Classes", "add", "(ZZ)I"⟩ ⟨"LeastBounds$Classes", "add", "(ZZ)I"⟩ ∈ tb := mt1 (List.mem_of_getElem? (i := 38) rfl) rfl
theorem wd_76 : Cond.methodLink "LeastBounds" 61 ⟨"LeastBounds$Classes", "countGeneric", "()I"⟩ ∈ tb := mt2 (List.mem_of_getElem? (i := 40) rfl) rfl
theorem wd_77 : Cond.code ⟨"LeastBounds$Classes", "countGeneric", "()I"⟩ prog_3_method_3_code 1 (some FieldType.int) ∈ tb := mt2 (List.mem_of_getElem? (i := 43) rfl) rfl
theorem wd_78 : Cond.instanceMethod ⟨"LeastBounds$Classes", "countGeneric", "()I"⟩ ∈ tb := mt2 (List.mem_of_getElem? (i := 41) rfl) rfl
theorem wd_79 : Cond.selects "LeastBounds$Classes" ⟨"LeastBounds$Classes", "countGeneric", "()I"⟩ ⟨"LeastBounds$Classes", "countGeneric", "()I"⟩ ∈ tb := mt2 (List.mem_of_getElem? (i := 42) rfl) rfl
theorem wd_80 : Cond.classLink "LeastBounds" 54 "java/lang/IllegalStateException" ∈ tb := mt1 (List.mem_of_getElem? (i := 212) rfl) rfl
theorem wd_81 : Cond.initialized "java/lang/IllegalStateException" ∈ tb := mt1 (List.mem_of_getElem? (i := 10) rfl) rfl
theorem wd_82 : Cond.methodLink "LeastBounds" 220 ⟨"LeastBounds$Classes", "isThere", "(I)Z"⟩ ∈ tb := mt2 (List.mem_of_getElem? (i := 59) rfl) rfl
theorem wd_83 : Cond.classLink "LeastBounds" 176 "java/lang/IndexOutOfBoundsException" ∈ tb := mt2 (List.mem_of_getElem? (i := 60) rfl) rfl
theorem wd_84 : Cond.initialized "java/lang/IndexOutOfBoundsException" ∈ tb := mt1 (List.mem_of_getElem? (i := 11) rfl) rfl
theorem wd_85 : Cond.fieldLink "LeastBounds" 32 "LeastBounds" "types" "LLeastBounds$Types;" ∈ tb := mt1 (List.mem_of_getElem? (i := 180) rfl) rfl
theorem wd_86 : Cond.methodLink "LeastBounds" 225 ⟨"LeastBounds$Types", "isThere", "(I)Z"⟩ ∈ tb := mt2 (List.mem_of_getElem? (i := 80) rfl) rfl
theorem wd_87 : Cond.methodLink "LeastBounds$Classes" 65 ⟨"LeastBounds$Classes", "directAt", "(II)I"⟩ ∈ tb := mt2 (List.mem_of_getElem? (i := 86) rfl) rfl
theorem wd_88 : Cond.code ⟨"LeastBounds$Classes", "directAt", "(II)I"⟩ prog_3_method_11_code 3 (some FieldType.int) ∈ tb := mt2 (List.mem_of_getElem? (i := 89) rfl) rfl
theorem wd_89 : Cond.instanceMethod ⟨"LeastBounds$Classes", "directAt", "(II)I"⟩ ∈ tb := mt2 (List.mem_of_getElem? (i := 87) rfl) rfl
theorem wd_90 : Cond.selects "LeastBounds$Classes" ⟨"LeastBounds$Classes", "directAt", "(II)I"⟩ ⟨"LeastBounds$Classes", "directAt", "(II)I"⟩ ∈ tb := mt2 (List.mem_of_getElem? (i := 88) rfl) rfl
theorem wd_91 : Cond.methodLink "LeastBounds$Classes" 68 ⟨"LeastBounds$Classes", "isDirectly", "(II)Z"⟩ ∈ tb := mt2 (List.mem_of_getElem? (i := 90) rfl) rfl
theorem wd_92 : Cond.code ⟨"LeastBounds$Classes", "isDirectly", "(II)Z"⟩ prog_3_method_15_code 5 (some FieldType.boolean) ∈ tb := mt2 (List.mem_of_getElem? (i := 93) rfl) rfl
theorem wd_93 : Cond.instanceMethod ⟨"LeastBounds$Classes", "isDirectly", "(II)Z"⟩ ∈ tb := mt2 (List.mem_of_getElem? (i := 92) rfl) rfl
theorem wd_94 : Cond.selects "LeastBounds$Classes" ⟨"LeastBounds$Classes", "isDirectly", "(II)Z"⟩ ⟨"LeastBounds$Classes", "isDirectly", "(II)Z"⟩ ∈ tb := mt0 (List.mem_of_getElem? (i := 5) rfl) rfl
theorem wd_95 : Cond.methodLink "LeastBounds" 103 ⟨"LeastBounds$Classes", "isGeneric", "(I)Z"⟩ ∈ tb := mt2 (List.mem_of_getElem? (i := 99) rfl) rfl
theorem wd_96 : Cond.code ⟨"LeastBounds$Classes", "isGeneric", "(I)Z"⟩ prog_3_method_7_code 2 (some FieldType.boolean) ∈ tb := mt2 (List.mem_of_getElem? (i := 102) rfl) rfl
theorem wd_97 : Cond.instanceMethod ⟨"LeastBounds$Classes", "isGeneric", "(I)Z"⟩ ∈ tb := mt2 (List.mem_of_getElem? (i := 100) rfl) rfl
theorem wd_98 : Cond.selects "LeastBounds$Classes" ⟨"LeastBounds$Classes", "isGeneric", "(I)Z"⟩ ⟨"LeastBounds$Classes", "isGeneric", "(I)Z"⟩ ∈ tb := mt2 (List.mem_of_getElem? (i := 101) rfl) rfl
theorem wd_99 : Cond.methodLink "LeastBounds" 108 ⟨"LeastBounds$Types", "kindOf", "(I)I"⟩ ∈ tb := mt2 (List.mem_of_getElem? (i := 104) rfl) rfl
theorem wd_100 : Cond.code ⟨"LeastBounds$Types", "kindOf", "(I)I"⟩ prog_4_method_4_code 2 (some FieldType.int) ∈ tb := mt2 (List.mem_of_getElem? (i := 107) rfl) rfl
theorem wd_101 : Cond.instanceMethod ⟨"LeastBounds$Types", "kindOf", "(I)I"⟩ ∈ tb := mt2 (List.mem_of_getElem? (i := 105) rfl) rfl
theorem wd_102 : Cond.selects "LeastBounds$Types" ⟨"LeastBounds$Types", "kindOf", "(I)I"⟩ ⟨"LeastBounds$Types", "kindOf", "(I)I"⟩ ∈ tb := mt2 (List.mem_of_getElem? (i := 106) rfl) rfl
theorem wd_103 : Cond.methodLink "LeastBounds" 236 ⟨"LeastBounds$Classes", "newest", "()I"⟩ ∈ tb := mt2 (List.mem_of_getElem? (i := 103) rfl) rfl
theorem wd_104 : Cond.code ⟨"LeastBounds", "has", "(II)Z"⟩ prog_1_method_25_code 2 (some FieldType.boolean) ∈ tb := mt2 (List.mem_of_getElem? (i := 134) rfl) rfl
theorem wd_105 : Cond.static ⟨"LeastBounds", "has", "(II)Z"⟩ ∈ tb := mt2 (List.mem_of_getElem? (i := 133) rfl) rfl
theorem wd_106 : Cond.code ⟨"LeastBounds", "argumentOf", "(II)I"⟩ prog_1_method_22_code 2 (some FieldType.int) ∈ tb := mt2 (List.mem_of_getElem? (i := 153) rfl) rfl
theorem wd_107 : Cond.static ⟨"LeastBounds", "argumentOf", "(II)I"⟩ ∈ tb := mt2 (List.mem_of_getElem? (i := 152) rfl) rfl
theorem wd_108 : Cond.methodLink "LeastBounds$Classes" 99 ⟨"LeastBounds$Classes", "firstToward", "(II)I"⟩ ∈ tb := mt2 (List.mem_of_getElem? (i := 140) rfl) rfl
theorem wd_109 : Cond.code ⟨"LeastBounds$Classes", "firstToward", "(II)I"⟩ prog_3_method_20_code 5 (some FieldType.int) ∈ tb := mt2 (List.mem_of_getElem? (i := 143) rfl) rfl
theorem wd_110 : Cond.instanceMethod ⟨"LeastBounds$Classes", "firstToward", "(II)I"⟩ ∈ tb := mt2 (List.mem_of_getElem? (i := 142) rfl) rfl
theorem wd_111 : Cond.selects "LeastBounds$Classes" ⟨"LeastBounds$Classes", "firstToward", "(II)I"⟩ ⟨"LeastBounds$Classes", "firstToward", "(II)I"⟩ ∈ tb := mt0 (List.mem_of_getElem? (i := 7) rfl) rfl
theorem wd_112 : Cond.methodLink "LeastBounds$Classes" 102 ⟨"LeastBounds$Classes", "toldAt", "(II)I"⟩ ∈ tb := mt2 (List.mem_of_getElem? (i := 144) rfl) rfl
theorem wd_113 : Cond.code ⟨"LeastBounds$Classes", "toldAt", "(II)I"⟩ prog_3_method_12_code 3 (some FieldType.int) ∈ tb := mt2 (List.mem_of_getElem? (i := 147) rfl) rfl
theorem wd_114 : Cond.instanceMethod ⟨"LeastBounds$Classes", "toldAt", "(II)I"⟩ ∈ tb := mt2 (List.mem_of_getElem? (i := 145) rfl) rfl
theorem wd_115 : Cond.selects "LeastBounds$Classes" ⟨"LeastBounds$Classes", "toldAt", "(II)I"⟩ ⟨"LeastBounds$Classes", "toldAt", "(II)I"⟩ ∈ tb := mt2 (List.mem_of_getElem? (i := 146) rfl) rfl
theorem wd_116 : Cond.methodLink "LeastBounds$Classes" 91 ⟨"LeastBounds$Classes", "passOn", "(II)I"⟩ ∈ tb := mt2 (List.mem_of_getElem? (i := 148) rfl) rfl
theorem wd_117 : Cond.code ⟨"LeastBounds$Classes", "passOn", "(II)I"⟩ prog_3_method_21_code 2 (some FieldType.int) ∈ tb := mt2 (List.mem_of_getElem? (i := 150) rfl) rfl
theorem wd_118 : Cond.static ⟨"LeastBounds$Classes", "passOn", "(II)I"⟩ ∈ tb := mt2 (List.mem_of_getElem? (i := 149) rfl) rfl
theorem wd_119 : Cond.methodLink "LeastBounds$Classes" 75 ⟨"LeastBounds$Classes", "aboveOf", "(I)I"⟩ ∈ tb := mt2 (List.mem_of_getElem? (i := 128) rfl) rfl
theorem wd_120 : Cond.code ⟨"LeastBounds$Classes", "aboveOf", "(I)I"⟩ prog_3_method_8_code 2 (some FieldType.int) ∈ tb := mt2 (List.mem_of_getElem? (i := 131) rfl) rfl
theorem wd_121 : Cond.instanceMethod ⟨"LeastBounds$Classes", "aboveOf", "(I)I"⟩ ∈ tb := mt2 (List.mem_of_getElem? (i := 129) rfl) rfl
theorem wd_122 : Cond.selects "LeastBounds$Classes" ⟨"LeastBounds$Classes", "aboveOf", "(I)I"⟩ ⟨"LeastBounds$Classes", "aboveOf", "(I)I"⟩ ∈ tb := mt2 (List.mem_of_getElem? (i := 130) rfl) rfl
theorem wd_123 : Cond.methodLink "LeastBounds$Classes" 84 ⟨"LeastBounds$Classes", "isGeneric", "(I)Z"⟩ ∈ tb := mt2 (List.mem_of_getElem? (i := 135) rfl) rfl
theorem wd_124 : Cond.methodLink "LeastBounds$Classes" 87 ⟨"LeastBounds$Classes", "climb", "(III)I"⟩ ∈ tb := mt2 (List.mem_of_getElem? (i := 136) rfl) rfl
theorem wd_125 : Cond.code ⟨"LeastBounds$Classes", "climb", "(III)I"⟩ prog_3_method_19_code 8 (some FieldType.int) ∈ tb := mt2 (List.mem_of_getElem? (i := 139) rfl) rfl
theorem wd_126 : Cond.instanceMethod ⟨"LeastBounds$Classes", "climb", "(III)I"⟩ ∈ tb := mt2 (List.mem_of_getElem? (i := 137) rfl) rfl
theorem wd_127 : Cond.selects "LeastBounds$Classes" ⟨"LeastBounds$Classes", "climb", "(III)I"⟩ ⟨"LeastBounds$Classes", "climb", "(III)I"⟩ ∈ tb := mt2 (List.mem_of_getElem? (i := 138) rfl) rfl
theorem wd_128 : Cond.fieldLink "LeastBounds$Answers" 15 "LeastBounds$Answers" "empty" "Z" ∈ tb := mt1 (List.mem_of_getElem? (i := 172) rfl) rfl
theorem wd_129 : Cond.fieldLink "LeastBounds$Answers" 9 "LeastBounds$Answers" "cells" "[I" ∈ tb := mt1 (List.mem_of_getElem? (i := 171) rfl) rfl
theorem wd_130 : Cond.methodLink "LeastBounds$Answers" 23 ⟨"java/util/Arrays", "fill", "([II)V"⟩ ∈ tb := mt2 (List.mem_of_getElem? (i := 159) rfl) rfl
theorem wd_131 : Cond.code ⟨"java/util/Arrays", "fill", "([II)V"⟩ prog_18_method_103_code 4 none ∈ tb := mt2 (List.mem_of_getElem? (i := 161) rfl) rfl
theorem wd_132 : Cond.static ⟨"java/util/Arrays", "fill", "([II)V"⟩ ∈ tb := mt2 (List.mem_of_getElem? (i := 160) rfl) rfl
theorem wd_133 : Cond.initialized "java/util/Arrays" ∈ tb := mt1 (List.mem_of_getElem? (i := 13) rfl) rfl
theorem wd_134 : Cond.methodLink "LeastBounds" 70 ⟨"LeastBounds", "requireClass", "(I)V"⟩ ∈ tb := mt2 (List.mem_of_getElem? (i := 55) rfl) rfl
theorem wd_135 : Cond.code ⟨"LeastBounds", "requireClass", "(I)V"⟩ prog_1_method_18_code 2 none ∈ tb := mt2 (List.mem_of_getElem? (i := 58) rfl) rfl
theorem wd_136 : Cond.instanceMethod ⟨"LeastBounds", "requireClass", "(I)V"⟩ ∈ tb := mt2 (List.mem_of_getElem? (i := 57) rfl) rfl
theorem wd_137 : Cond.selects "LeastBounds" ⟨"LeastBounds", "requireClass", "(I)V"⟩ ⟨"LeastBounds", "requireClass", "(I)V"⟩ ∈ tb := mt0 (List.mem_of_getElem? (i := 3) rfl) rfl
theorem wd_138 : Cond.methodLink "LeastBounds" 77 ⟨"LeastBounds$Classes", "mayGet", "(I)Z"⟩ ∈ tb := mt2 (List.mem_of_getElem? (i := 82) rfl) rfl
theorem wd_139 : Cond.code ⟨"LeastBounds$Classes", "mayGet", "(I)Z"⟩ prog_3_method_14_code 4 (some FieldType.boolean) ∈ tb := mt2 (List.mem_of_getElem? (i := 85) rfl) rfl
theorem wd_140 : Cond.instanceMethod ⟨"LeastBounds$Classes", "mayGet", "(I)Z"⟩ ∈ tb := mt2 (List.mem_of_getElem? (i := 83) rfl) rfl
theorem wd_141 : Cond.selects "LeastBounds$Classes" ⟨"LeastBounds$Classes", "mayGet", "(I)Z"⟩ ⟨"LeastBounds$Classes", "mayGet", "(I)Z"⟩ ∈ tb := mt2 (List.mem_of_getElem? (i := 84) rfl) rfl
theorem wd_142 : Cond.methodLink "LeastBounds" 83 ⟨"LeastBounds", "isTellable", "(II)Z"⟩ ∈ tb := mt2 (List.mem_of_getElem? (i := 95) rfl) rfl
theorem wd_143 : Cond.code ⟨"LeastBounds", "isTellable", "(II)Z"⟩ prog_1_method_21_code 3 (some FieldType.boolean) ∈ tb := mt2 (List.mem_of_getElem? (i := 98) rfl) rfl
theorem wd_144 : Cond.instanceMethod ⟨"LeastBounds", "isTellable", "(II)Z"⟩ ∈ tb := mt2 (List.mem_of_getElem? (i := 97) rfl) rfl
theorem wd_145 : Cond.selects "LeastBounds" ⟨"LeastBounds", "isTellable", "(II)Z"⟩ ⟨"LeastBounds", "isTellable", "(II)Z"⟩ ∈ tb := mt0 (List.mem_of_getElem? (i := 6) rfl) rfl
theorem wd_146 : Cond.methodLink "LeastBounds" 92 ⟨"LeastBounds$Classes", "clashes", "(II)Z"⟩ ∈ tb := mt2 (List.mem_of_getElem? (i := 124) rfl) rfl
theorem wd_147 : Cond.code ⟨"LeastBounds$Classes", "clashes", "(II)Z"⟩ prog_3_method_16_code 6 (some FieldType.boolean) ∈ tb := mt2 (List.mem_of_getElem? (i := 127) rfl) rfl
theorem wd_148 : Cond.instanceMethod ⟨"LeastBounds$Classes", "clashes", "(II)Z"⟩ ∈ tb := mt2 (List.mem_of_getElem? (i := 125) rfl) rfl
theorem wd_149 : Cond.selects "LeastBounds$Classes" ⟨"LeastBounds$Classes", "clashes", "(II)Z"⟩ ⟨"LeastBounds$Classes", "clashes", "(II)Z"⟩ ∈ tb := mt2 (List.mem_of_getElem? (i := 126) rfl) rfl
theorem wd_150 : Cond.fieldLink "LeastBounds" 39 "LeastBounds" "answers" "LLeastBounds$Answers;" ∈ tb := mt1 (List.mem_of_getElem? (i := 181) rfl) rfl
theorem wd_151 : Cond.methodLink "LeastBounds" 97 ⟨"LeastBounds$Answers", "forget", "()V"⟩ ∈ tb := mt2 (List.mem_of_getElem? (i := 155) rfl) rfl
theorem wd_152 : Cond.code ⟨"LeastBounds$Answers", "forget", "()V"⟩ prog_2_method_5_code 1 none ∈ tb := mt2 (List.mem_of_getElem? (i := 158) rfl) rfl
theorem wd_153 : Cond.instanceMethod ⟨"LeastBounds$Answers", "forget", "()V"⟩ ∈ tb := mt2 (List.mem_of_getElem? (i := 156) rfl) rfl
theorem wd_154 : Cond.selects "LeastBounds$Answers" ⟨"LeastBounds$Answers", "forget", "()V"⟩ ⟨"LeastBounds$Answers", "forget", "()V"⟩ ∈ tb := mt2 (List.mem_of_getElem? (i := 157) rfl) rfl
theorem wd_155 : Cond.initialized "LeastBounds$Answers" ∈ tb := mt1 (List.mem_of_getElem? (i := 5) rfl) rfl
theorem wd_156 : Cond.methodLink "LeastBounds" 100 ⟨"LeastBounds$Classes", "put", "(II)I"⟩ ∈ tb := mt2 (List.mem_of_getElem? (i := 162) rfl) rfl
theorem wd_157 : Cond.code ⟨"LeastBounds$Classes", "put", "(II)I"⟩ prog_3_method_17_code 5 (some FieldType.int) ∈ tb := mt1 (List.mem_of_getElem? (i := 56) rfl) rfl
theorem wd_158 : Cond.instanceMethod ⟨"LeastBounds$Classes", "put", "(II)I"⟩ ∈ tb := mt1 (List.mem_of_getElem? (i := 54) rfl) rfl
theorem wd_159 : Cond.selects "LeastBounds$Classes" ⟨"LeastBounds$Classes", "put", "(II)I"⟩ ⟨"LeastBounds$Classes", "put", "(II)I"⟩ ∈ tb := mt1 (List.mem_of_getElem? (i := 55) rfl) rfl
theorem wd_160 : Cond.methodLink "LeastBounds" 74 ⟨"LeastBounds", "requireType", "(I)V"⟩ ∈ tb := mt2 (List.mem_of_getElem? (i := 76) rfl) rfl
theorem wd_161 : Cond.code ⟨"LeastBounds", "requireType", "(I)V"⟩ prog_1_method_19_code 2 none ∈ tb := mt2 (List.mem_of_getElem? (i := 79) rfl) rfl
theorem wd_162 : Cond.instanceMethod ⟨"LeastBounds", "requireType", "(I)V"⟩ ∈ tb := mt2 (List.mem_of_getElem? (i := 78) rfl) rfl
theorem wd_163 : Cond.selects "LeastBounds" ⟨"LeastBounds", "requireType", "(I)V"⟩ ⟨"LeastBounds", "requireType", "(I)V"⟩ ∈ tb := mt0 (List.mem_of_getElem? (i := 4) rfl) rfl
theorem wd_164 : Cond.classLink "LeastBounds" 87 "java/lang/IllegalArgumentException" ∈ tb := mt2 (List.mem_of_getElem? (i := 108) rfl) rfl
theorem wd_165 : Cond.initialized "java/lang/IllegalArgumentException" ∈ tb := mt1 (List.mem_of_getElem? (i := 12) rfl) rfl
theorem wd_166 : Cond.methodLink "LeastBounds" 233 ⟨"LeastBounds$Types", "settle", "()V"⟩ ∈ tb := mt2 (List.mem_of_getElem? (i := 183) rfl) rfl
theorem wd_167 : Cond.code ⟨"LeastBounds$Types", "settle", "()V"⟩ prog_4_method_11_code 1 none ∈ tb := mt1 (List.mem_of_getElem? (i := 127) rfl) rfl
theorem wd_168 : Cond.instanceMethod ⟨"LeastBounds$Types", "settle", "()V"⟩ ∈ tb := mt1 (List.mem_of_getElem? (i := 125) rfl) rfl
theorem wd_169 : Cond.selects "LeastBounds$Types" ⟨"LeastBounds$Types", "settle", "()V"⟩ ⟨"LeastBounds$Types", "settle", "()V"⟩ ∈ tb := mt1 (List.mem_of_getElem? (i := 126) rfl) rfl
theorem wd_170 : Cond.methodLink "LeastBounds" 228 ⟨"LeastBounds$Types", "dropUnsettled", "()V"⟩ ∈ tb := mt2 (List.mem_of_getElem? (i := 178) rfl) rfl
theorem wd_171 : Cond.code ⟨"LeastBounds$Types", "dropUnsettled", "()V"⟩ prog_4_method_12_code 1 none ∈ tb := mt2 (List.mem_of_getElem? (i := 181) rfl) rfl
theorem wd_172 : Cond.instanceMethod ⟨"LeastBounds$Types", "dropUnsettled", "()V"⟩ ∈ tb := mt2 (List.mem_of_getElem? (i := 179) rfl) rfl
theorem wd_173 : Cond.selects "LeastBounds$Types" ⟨"LeastBounds$Types", "dropUnsettled", "()V"⟩ ⟨"LeastBounds$Types", "dropUnsettled", "()V"⟩ ∈ tb := mt2 (List.mem_of_getElem? (i := 180) rfl) rfl
theorem wd_174 : Cond.methodLink "LeastBounds" 114 ⟨"LeastBounds", "argumentOf", "(II)I"⟩ ∈ tb := mt2 (List.mem_of_getElem? (i := 172) rfl) rfl
theorem wd_175 : Cond.methodLink "LeastBounds" 117 ⟨"LeastBounds$Types", "makeNamed", "(II)I"⟩ ∈ tb := mt2 (List.mem_of_getElem? (i := 173) rfl) rfl
theorem wd_176 : Cond.code ⟨"LeastBounds$Types", "makeNamed", "(II)I"⟩ prog_4_method_13_code 4 (some FieldType.int) ∈ tb := mt1 (List.mem_of_getElem? (i := 112) rfl) rfl
theorem wd_177 : Cond.instanceMethod ⟨"LeastBounds$Types", "makeNamed", "(II)I"⟩ ∈ tb := mt1 (List.mem_of_getElem? (i := 110) rfl) rfl
theorem wd_178 : Cond.selects "LeastBounds$Types" ⟨"LeastBounds$Types", "makeNamed", "(II)I"⟩ ⟨"LeastBounds$Types", "makeNamed", "(II)I"⟩ ∈ tb := mt1 (List.mem_of_getElem? (i := 111) rfl) rfl
theorem wd_179 : Cond.methodLink "LeastBounds" 120 ⟨"LeastBounds", "settled", "(I)I"⟩ ∈ tb := mt2 (List.mem_of_getElem? (i := 174) rfl) rfl
theorem wd_180 : Cond.code ⟨"LeastBounds", "settled", "(I)I"⟩ prog_1_method_20_code 2 (some FieldType.int) ∈ tb := mt2 (List.mem_of_getElem? (i := 177) rfl) rfl
theorem wd_181 : Cond.instanceMethod ⟨"LeastBounds", "settled", "(I)I"⟩ ∈ tb := mt2 (List.mem_of_getElem? (i := 176) rfl) rfl
theorem wd_182 : Cond.selects "LeastBounds" ⟨"LeastBounds", "settled", "(I)I"⟩ ⟨"LeastBounds", "settled", "(I)I"⟩ ∈ tb := mt0 (List.mem_of_getElem? (i := 8) rfl) rfl
theorem wd_183 : Cond.methodLink "LeastBounds" 123 ⟨"LeastBounds$Types", "makeArray", "(I)I"⟩ ∈ tb := mt2 (List.mem_of_getElem? (i := 191) rfl) rfl
theorem wd_184 : Cond.code ⟨"LeastBounds$Types", "makeArray", "(I)I"⟩ prog_4_method_14_code 3 (some FieldType.int) ∈ tb := mt2 (List.mem_of_getElem? (i := 194) rfl) rfl
theorem wd_185 : Cond.instanceMethod ⟨"LeastBounds$Types", "makeArray", "(I)I"⟩ ∈ tb := mt2 (List.mem_of_getElem? (i := 192) rfl) rfl
theorem wd_186 : Cond.selects "LeastBounds$Types" ⟨"LeastBounds$Types", "makeArray", "(I)I"⟩ ⟨"LeastBounds$Types", "makeArray", "(I)I"⟩ ∈ tb := mt2 (List.mem_of_getElem? (i := 193) rfl) rfl
theorem wd_187 : Cond.methodLink "LeastBounds" 162 ⟨"LeastBounds$Types", "elementOf", "(I)I"⟩ ∈ tb := mt2 (List.mem_of_getElem? (i := 210) rfl) rfl
theorem wd_188 : Cond.code ⟨"LeastBounds$Types", "elementOf", "(I)I"⟩ prog_4_method_7_code 2 (some FieldType.int) ∈ tb := mt2 (List.mem_of_getElem? (i := 213) rfl) rfl
theorem wd_189 : Cond.instanceMethod ⟨"LeastBounds$Types", "elementOf", "(I)I"⟩ ∈ tb := mt2 (List.mem_of_getElem? (i := 211) rfl) rfl
theorem wd_190 : Cond.selects "LeastBounds$Types" ⟨"LeastBounds$Types", "elementOf", "(I)I"⟩ ⟨"LeastBounds$Types", "elementOf", "(I)I"⟩ ∈ tb := mt2 (List.mem_of_getElem? (i := 212) rfl) rfl
theorem wd_191 : Cond.fieldLink "LeastBounds$Types" 33 "LeastBounds$Types" "parts" "[I" ∈ tb := mt1 (List.mem_of_getElem? (i := 135) rfl) rfl
theorem wd_192 : Cond.methodLink "LeastBounds" 150 ⟨"LeastBounds", "boxTypeOf", "(I)I"⟩ ∈ tb := mt2 (List.mem_of_getElem? (i := 226) rfl) rfl
theorem wd_193 : Cond.code ⟨"LeastBounds", "boxTypeOf", "(I)I"⟩ prog_1_method_26_code 1 (some FieldType.int) ∈ tb := mt1 (List.mem_of_getElem? (i := 71) rfl) rfl
theorem wd_194 : Cond.static ⟨"LeastBounds", "boxTypeOf", "(I)I"⟩ ∈ tb := mt1 (List.mem_of_getElem? (i := 70) rfl) rfl
theorem wd_195 : Cond.methodLink "LeastBounds" 153 ⟨"LeastBounds$Types", "classOf", "(I)I"⟩ ∈ tb := mt2 (List.mem_of_getElem? (i := 227) rfl) rfl
theorem wd_196 : Cond.code ⟨"LeastBounds$Types", "classOf", "(I)I"⟩ prog_4_method_5_code 2 (some FieldType.int) ∈ tb := mt2 (List.mem_of_getElem? (i := 230) rfl) rfl
theorem wd_197 : Cond.instanceMethod ⟨"LeastBounds$Types", "classOf", "(I)I"⟩ ∈ tb := mt2 (List.mem_of_getElem? (i := 228) rfl) rfl
theorem wd_198 : Cond.selects "LeastBounds$Types" ⟨"LeastBounds$Types", "classOf", "(I)I"⟩ ⟨"LeastBounds$Types", "classOf", "(I)I"⟩ ∈ tb := mt2 (List.mem_of_getElem? (i := 229) rfl) rfl
theorem wd_199 : Cond.methodLink "LeastBounds" 270 ⟨"LeastBounds$Classes", "withAbove", "(I)I"⟩ ∈ tb := mt2 (List.mem_of_getElem? (i := 231) rfl) rfl
theorem wd_200 : Cond.methodLink "LeastBounds" 168 ⟨"LeastBounds$Types", "countParts", "(I)I"⟩ ∈ tb := mt2 (List.mem_of_getElem? (i := 232) rfl) rfl
theorem wd_201 : Cond.code ⟨"LeastBounds$Types", "countParts", "(I)I"⟩ prog_4_method_9_code 2 (some FieldType.int) ∈ tb := mt2 (List.mem_of_getElem? (i := 235) rfl) rfl
theorem wd_202 : Cond.instanceMethod ⟨"LeastBounds$Types", "countParts", "(I)I"⟩ ∈ tb := mt2 (List.mem_of_getElem? (i := 233) rfl) rfl
theorem wd_203 : Cond.selects "LeastBounds$Types" ⟨"LeastBounds$Types", "countParts", "(I)I"⟩ ⟨"LeastBounds$Types", "countParts", "(I)I"⟩ ∈ tb := mt2 (List.mem_of_getElem? (i := 234) rfl) rfl
theorem wd_204 : Cond.methodLink "LeastBounds" 181 ⟨"LeastBounds$Types", "partOf", "(II)I"⟩ ∈ tb := mt2 (List.mem_of_getElem? (i := 236) rfl) rfl
theorem wd_205 : Cond.code ⟨"LeastBounds$Types", "partOf", "(II)I"⟩ prog_4_method_10_code 4 (some FieldType.int) ∈ tb := mt2 (List.mem_of_getElem? (i := 239) rfl) rfl
theorem wd_206 : Cond.instanceMethod ⟨"LeastBounds$Types", "partOf", "(II)I"⟩ ∈ tb := mt2 (List.mem_of_getElem? (i := 237) rfl) rfl
theorem wd_207 : Cond.selects "LeastBounds$Types" ⟨"LeastBounds$Types", "partOf", "(II)I"⟩ ⟨"LeastBounds$Types", "partOf", "(II)I"⟩ ∈ tb := mt2 (List.mem_of_getElem? (i := 238) rfl) rfl
theorem wd_208 : Cond.methodLink "LeastBounds" 267 ⟨"LeastBounds", "foundIn", "(I)I"⟩ ∈ tb := mt2 (List.mem_of_getElem? (i := 222) rfl) rfl
theorem wd_209 : Cond.code ⟨"LeastBounds", "foundIn", "(I)I"⟩ prog_1_method_37_code 5 (some FieldType.int) ∈ tb := mt2 (List.mem_of_getElem? (i := 225) rfl) rfl
theorem wd_210 : Cond.instanceMethod ⟨"LeastBounds", "foundIn", "(I)I"⟩ ∈ tb := mt2 (List.mem_of_getElem? (i := 224) rfl) rfl
theorem wd_211 : Cond.selects "LeastBounds" ⟨"LeastBounds", "foundIn", "(I)I"⟩ ⟨"LeastBounds", "foundIn", "(I)I"⟩ ∈ tb := mt0 (List.mem_of_getElem? (i := 13) rfl) rfl
theorem wd_212 : Cond.methodLink "LeastBounds" 15 ⟨"java/lang/Math", "max", "(II)I"⟩ ∈ tb := mt1 (List.mem_of_getElem? (i := 27) rfl) rfl
theorem wd_213 : Cond.methodLink "LeastBounds" 239 ⟨"LeastBounds", "countHolders", "(I)I"⟩ ∈ tb := mt3 (List.mem_of_getElem? (i := 9) rfl) rfl
theorem wd_214 : Cond.code ⟨"LeastBounds", "countHolders", "(I)I"⟩ prog_1_method_28_code 2 (some FieldType.int) ∈ tb := mt3 (List.mem_of_getElem? (i := 12) rfl) rfl
theorem wd_215 : Cond.instanceMethod ⟨"LeastBounds", "countHolders", "(I)I"⟩ ∈ tb := mt3 (List.mem_of_getElem? (i := 11) rfl) rfl
theorem wd_216 : Cond.selects "LeastBounds" ⟨"LeastBounds", "countHolders", "(I)I"⟩ ⟨"LeastBounds", "countHolders", "(I)I"⟩ ∈ tb := mt0 (List.mem_of_getElem? (i := 15) rfl) rfl
theorem wd_217 : Cond.methodLink "LeastBounds" 156 ⟨"LeastBounds$Types", "argumentAt", "(I)I"⟩ ∈ tb := mt3 (List.mem_of_getElem? (i := 13) rfl) rfl
theorem wd_218 : Cond.code ⟨"LeastBounds$Types", "argumentAt", "(I)I"⟩ prog_4_method_6_code 2 (some FieldType.int) ∈ tb := mt3 (List.mem_of_getElem? (i := 16) rfl) rfl
theorem wd_219 : Cond.instanceMethod ⟨"LeastBounds$Types", "argumentAt", "(I)I"⟩ ∈ tb := mt3 (List.mem_of_getElem? (i := 14) rfl) rfl
theorem wd_220 : Cond.selects "LeastBounds$Types" ⟨"LeastBounds$Types", "argumentAt", "(I)I"⟩ ⟨"LeastBounds$Types", "argumentAt", "(I)I"⟩ ∈ tb := mt3 (List.mem_of_getElem? (i := 15) rfl) rfl
theorem wd_221 : Cond.methodLink "LeastBounds" 242 ⟨"LeastBounds$Classes", "climb", "(III)I"⟩ ∈ tb := mt3 (List.mem_of_getElem? (i := 17) rfl) rfl
theorem wd_222 : Cond.methodLink "LeastBounds$Types" 82 ⟨"LeastBounds$Types", "partOf", "(II)I"⟩ ∈ tb := mt3 (List.mem_of_getElem? (i := 38) rfl) rfl
theorem wd_223 : Cond.methodLink "LeastBounds$Types" 78 ⟨"LeastBounds$Types", "hasParts", "(I[II)Z"⟩ ∈ tb := mt3 (List.mem_of_getElem? (i := 34) rfl) rfl
theorem wd_224 : Cond.code ⟨"LeastBounds$Types", "hasParts", "(I[II)Z"⟩ prog_4_method_17_code 5 (some FieldType.boolean) ∈ tb := mt3 (List.mem_of_getElem? (i := 37) rfl) rfl
theorem wd_225 : Cond.instanceMethod ⟨"LeastBounds$Types", "hasParts", "(I[II)Z"⟩ ∈ tb := mt3 (List.mem_of_getElem? (i := 36) rfl) rfl
theorem wd_226 : Cond.selects "LeastBounds$Types" ⟨"LeastBounds$Types", "hasParts", "(I[II)Z"⟩ ⟨"LeastBounds$Types", "hasParts", "(I[II)Z"⟩ ∈ tb := mt0 (List.mem_of_getElem? (i := 18) rfl) rfl
theorem wd_227 : Cond.methodLink "LeastBounds$Types" 91 ⟨"java/lang/System", "arraycopy", "(Ljava/lang/Object;ILjava/lang/Object;II)V"⟩ ∈ tb := mt3 (List.mem_of_getElem? (i := 57) rfl) rfl
theorem wd_228 : Cond.native ⟨"java/lang/System", "arraycopy", "(Ljava/lang/Object;ILjava/lang/Object;II)V"⟩ ∈ tb := mt3 (List.mem_of_getElem? (i := 56) rfl) rfl
theorem wd_229 : Cond.static ⟨"java/lang/System", "arraycopy", "(Ljava/lang/Object;ILjava/lang/Object;II)V"⟩ ∈ tb := mt3 (List.mem_of_getElem? (i := 55) rfl) rfl
theorem wd_230 : Cond.initialized "java/lang/System" ∈ tb := mt1 (List.mem_of_getElem? (i := 14) rfl) rfl
theorem wd_231 : Cond.methodLink "LeastBounds$Types" 85 ⟨"java/util/Arrays", "copyOf", "([II)[I"⟩ ∈ tb := mt3 (List.mem_of_getElem? (i := 43) rfl) rfl
theorem wd_232 : Cond.methodLink "LeastBounds$Types" 70 ⟨"LeastBounds$Types", "findIntersection", "([III)I"⟩ ∈ tb := mt3 (List.mem_of_getElem? (i := 30) rfl) rfl
theorem wd_233 : Cond.code ⟨"LeastBounds$Types", "findIntersection", "([III)I"⟩ prog_4_method_16_code 5 (some FieldType.int) ∈ tb := mt3 (List.mem_of_getElem? (i := 33) rfl) rfl
theorem wd_234 : Cond.instanceMethod ⟨"LeastBounds$Types", "findIntersection", "([III)I"⟩ ∈ tb := mt3 (List.mem_of_getElem? (i := 32) rfl) rfl
theorem wd_235 : Cond.selects "LeastBounds$Types" ⟨"LeastBounds$Types", "findIntersection", "([III)I"⟩ ⟨"LeastBounds$Types", "findIntersection", "([III)I"⟩ ∈ tb := mt0 (List.mem_of_getElem? (i := 17) rfl) rfl
theorem wd_236 : Cond.methodLink "LeastBounds$Types" 74 ⟨"LeastBounds$Types", "appendParts", "(I[III)V"⟩ ∈ tb := mt3 (List.mem_of_getElem? (i := 39) rfl) rfl
theorem wd_237 : Cond.code ⟨"LeastBounds$Types", "appendParts", "(I[III)V"⟩ prog_4_method_18_code 5 none ∈ tb := mt3 (List.mem_of_getElem? (i := 42) rfl) rfl
theorem wd_238 : Cond.instanceMethod ⟨"LeastBounds$Types", "appendParts", "(I[III)V"⟩ ∈ tb := mt3 (List.mem_of_getElem? (i := 41) rfl) rfl
theorem wd_239 : Cond.selects "LeastBounds$Types" ⟨"LeastBounds$Types", "appendParts", "(I[III)V"⟩ ⟨"LeastBounds$Types", "appendParts", "(I[III)V"⟩ ∈ tb := mt0 (List.mem_of_getElem? (i := 19) rfl) rfl
theorem wd_240 : Cond.methodLink "LeastBounds" 165 ⟨"LeastBounds", "typeOf", "(I)I"⟩ ∈ tb := mt3 (List.mem_of_getElem? (i := 25) rfl) rfl
theorem wd_241 : Cond.methodLink "LeastBounds" 126 ⟨"LeastBounds", "upperBound", "(III)I"⟩ ∈ tb := mt2 (List.mem_of_getElem? (i := 202) rfl) rfl
theorem wd_242 : Cond.code ⟨"LeastBounds", "upperBound", "(III)I"⟩ prog_1_method_33_code 9 (some FieldType.int) ∈ tb := mt2 (List.mem_of_getElem? (i := 205) rfl) rfl
theorem wd_243 : Cond.instanceMethod ⟨"LeastBounds", "upperBound", "(III)I"⟩ ∈ tb := mt2 (List.mem_of_getElem? (i := 204) rfl) rfl
theorem wd_244 : Cond.selects "LeastBounds" ⟨"LeastBounds", "upperBound", "(III)I"⟩ ⟨"LeastBounds", "upperBound", "(III)I"⟩ ∈ tb := mt0 (List.mem_of_getElem? (i := 9) rfl) rfl
theorem wd_245 : Cond.methodLink "LeastBounds" 159 ⟨"LeastBounds", "howOf", "(I)I"⟩ ∈ tb := mt3 (List.mem_of_getElem? (i := 22) rfl) rfl
theorem wd_246 : Cond.code ⟨"LeastBounds", "howOf", "(I)I"⟩ prog_1_method_23_code 1 (some FieldType.int) ∈ tb := mt3 (List.mem_of_getElem? (i := 24) rfl) rfl
theorem wd_247 : Cond.static ⟨"LeastBounds", "howOf", "(I)I"⟩ ∈ tb := mt3 (List.mem_of_getElem? (i := 23) rfl) rfl
theorem wd_248 : Cond.methodLink "LeastBounds" 184 ⟨"LeastBounds", "commonOf", "(II)I"⟩ ∈ tb := mt2 (List.mem_of_getElem? (i := 218) rfl) rfl
theorem wd_249 : Cond.code ⟨"LeastBounds", "commonOf", "(II)I"⟩ prog_1_method_36_code 3 (some FieldType.int) ∈ tb := mt2 (List.mem_of_getElem? (i := 221) rfl) rfl
theorem wd_250 : Cond.instanceMethod ⟨"LeastBounds", "commonOf", "(II)I"⟩ ∈ tb := mt2 (List.mem_of_getElem? (i := 220) rfl) rfl
theorem wd_251 : Cond.selects "LeastBounds" ⟨"LeastBounds", "commonOf", "(II)I"⟩ ⟨"LeastBounds", "commonOf", "(II)I"⟩ ∈ tb := mt0 (List.mem_of_getElem? (i := 12) rfl) rfl
theorem wd_252 : Cond.methodLink "LeastBounds" 192 ⟨"LeastBounds$Classes", "leastOf", "(I)I"⟩ ∈ tb := mt3 (List.mem_of_getElem? (i := 0) rfl) rfl
theorem wd_253 : Cond.code ⟨"LeastBounds$Classes", "leastOf", "(I)I"⟩ prog_3_method_22_code 4 (some FieldType.int) ∈ tb := mt3 (List.mem_of_getElem? (i := 3) rfl) rfl
theorem wd_254 : Cond.instanceMethod ⟨"LeastBounds$Classes", "leastOf", "(I)I"⟩ ∈ tb := mt3 (List.mem_of_getElem? (i := 1) rfl) rfl
theorem wd_255 : Cond.selects "LeastBounds$Classes" ⟨"LeastBounds$Classes", "leastOf", "(I)I"⟩ ⟨"LeastBounds$Classes", "leastOf", "(I)I"⟩ ∈ tb := mt3 (List.mem_of_getElem? (i := 2) rfl) rfl
theorem wd_256 : Cond.fieldLink "LeastBounds" 43 "LeastBounds" "row" "[I" ∈ tb := mt1 (List.mem_of_getElem? (i := 182) rfl) rfl
theorem wd_257 : Cond.methodLink "LeastBounds" 143 ⟨"LeastBounds$Types", "makeIntersection", "([III)I"⟩ ∈ tb := mt3 (List.mem_of_getElem? (i := 26) rfl) rfl
theorem wd_258 : Cond.code ⟨"LeastBounds$Types", "makeIntersection", "([III)I"⟩ prog_4_method_15_code 7 (some FieldType.int) ∈ tb := mt3 (List.mem_of_getElem? (i := 29) rfl) rfl
theorem wd_259 : Cond.instanceMethod ⟨"LeastBounds$Types", "makeIntersection", "([III)I"⟩ ∈ tb := mt3 (List.mem_of_getElem? (i := 27) rfl) rfl
theorem wd_260 : Cond.selects "LeastBounds$Types" ⟨"LeastBounds$Types", "makeIntersection", "([III)I"⟩ ⟨"LeastBounds$Types", "makeIntersection", "([III)I"⟩ ∈ tb := mt3 (List.mem_of_getElem? (i := 28) rfl) rfl
theorem wd_261 : Cond.methodLink "LeastBounds" 200 ⟨"LeastBounds", "has", "(II)Z"⟩ ∈ tb := mt3 (List.mem_of_getElem? (i := 4) rfl) rfl
theorem wd_262 : Cond.methodLink "LeastBounds" 147 ⟨"LeastBounds", "find", "(II)I"⟩ ∈ tb := mt3 (List.mem_of_getElem? (i := 5) rfl) rfl
theorem wd_263 : Cond.code ⟨"LeastBounds", "find", "(II)I"⟩ prog_1_method_27_code 7 (some FieldType.int) ∈ tb := mt3 (List.mem_of_getElem? (i := 8) rfl) rfl
theorem wd_264 : Cond.instanceMethod ⟨"LeastBounds", "find", "(II)I"⟩ ∈ tb := mt3 (List.mem_of_getElem? (i := 7) rfl) rfl
theorem wd_265 : Cond.selects "LeastBounds" ⟨"LeastBounds", "find", "(II)I"⟩ ⟨"LeastBounds", "find", "(II)I"⟩ ∈ tb := mt0 (List.mem_of_getElem? (i := 14) rfl) rfl
theorem wd_266 : Cond.methodLink "LeastBounds" 264 ⟨"LeastBounds", "boundArgument", "(III)I"⟩ ∈ tb := mt3 (List.mem_of_getElem? (i := 18) rfl) rfl
theorem wd_267 : Cond.code ⟨"LeastBounds", "boundArgument", "(III)I"⟩ prog_1_method_35_code 5 (some FieldType.int) ∈ tb := mt3 (List.mem_of_getElem? (i := 21) rfl) rfl
theorem wd_268 : Cond.instanceMethod ⟨"LeastBounds", "boundArgument", "(III)I"⟩ ∈ tb := mt3 (List.mem_of_getElem? (i := 20) rfl) rfl
theorem wd_269 : Cond.selects "LeastBounds" ⟨"LeastBounds", "boundArgument", "(III)I"⟩ ⟨"LeastBounds", "boundArgument", "(III)I"⟩ ∈ tb := mt0 (List.mem_of_getElem? (i := 16) rfl) rfl
theorem wd_270 : Cond.methodLink "LeastBounds" 261 ⟨"LeastBounds", "boundByClasses", "(III)I"⟩ ∈ tb := mt2 (List.mem_of_getElem? (i := 214) rfl) rfl
theorem wd_271 : Cond.code ⟨"LeastBounds", "boundByClasses", "(III)I"⟩ prog_1_method_34_code 9 (some FieldType.int) ∈ tb := mt2 (List.mem_of_getElem? (i := 217) rfl) rfl
theorem wd_272 : Cond.instanceMethod ⟨"LeastBounds", "boundByClasses", "(III)I"⟩ ∈ tb := mt2 (List.mem_of_getElem? (i := 216) rfl) rfl
theorem wd_273 : Cond.selects "LeastBounds" ⟨"LeastBounds", "boundByClasses", "(III)I"⟩ ⟨"LeastBounds", "boundByClasses", "(III)I"⟩ ∈ tb := mt0 (List.mem_of_getElem? (i := 11) rfl) rfl
theorem wd_274 : Cond.methodLink "LeastBounds" 251 ⟨"LeastBounds", "isArrayOfOthers", "(I)Z"⟩ ∈ tb := mt2 (List.mem_of_getElem? (i := 206) rfl) rfl
theorem wd_275 : Cond.code ⟨"LeastBounds", "isArrayOfOthers", "(I)Z"⟩ prog_1_method_32_code 2 (some FieldType.boolean) ∈ tb := mt2 (List.mem_of_getElem? (i := 209) rfl) rfl
theorem wd_276 : Cond.instanceMethod ⟨"LeastBounds", "isArrayOfOthers", "(I)Z"⟩ ∈ tb := mt2 (List.mem_of_getElem? (i := 208) rfl) rfl
theorem wd_277 : Cond.selects "LeastBounds" ⟨"LeastBounds", "isArrayOfOthers", "(I)Z"⟩ ⟨"LeastBounds", "isArrayOfOthers", "(I)Z"⟩ ∈ tb := mt0 (List.mem_of_getElem? (i := 10) rfl) rfl
theorem wd_278 : Cond.fieldLink "LeastBounds" 18 "LeastBounds" "depth" "I" ∈ tb := mt1 (List.mem_of_getElem? (i := 178) rfl) rfl
theorem wd_279 : Cond.methodLink "LeastBounds$Answers" 19 ⟨"LeastBounds$Answers", "isPair", "(II)Z"⟩ ∈ tb := mt3 (List.mem_of_getElem? (i := 73) rfl) rfl
theorem wd_280 : Cond.code ⟨"LeastBounds$Answers", "isPair", "(II)Z"⟩ prog_2_method_2_code 2 (some FieldType.boolean) ∈ tb := mt3 (List.mem_of_getElem? (i := 75) rfl) rfl
theorem wd_281 : Cond.static ⟨"LeastBounds$Answers", "isPair", "(II)Z"⟩ ∈ tb := mt3 (List.mem_of_getElem? (i := 74) rfl) rfl
theorem wd_282 : Cond.methodLink "LeastBounds" 130 ⟨"LeastBounds", "liesBelow", "(III)Z"⟩ ∈ tb := mt3 (List.mem_of_getElem? (i := 65) rfl) rfl
theorem wd_283 : Cond.code ⟨"LeastBounds", "liesBelow", "(III)Z"⟩ prog_1_method_29_code 6 (some FieldType.boolean) ∈ tb := mt3 (List.mem_of_getElem? (i := 68) rfl) rfl
theorem wd_284 : Cond.instanceMethod ⟨"LeastBounds", "liesBelow", "(III)Z"⟩ ∈ tb := mt3 (List.mem_of_getElem? (i := 67) rfl) rfl
theorem wd_285 : Cond.selects "LeastBounds" ⟨"LeastBounds", "liesBelow", "(III)Z"⟩ ⟨"LeastBounds", "liesBelow", "(III)Z"⟩ ∈ tb := mt0 (List.mem_of_getElem? (i := 20) rfl) rfl
theorem wd_286 : Cond.methodLink "LeastBounds" 245 ⟨"LeastBounds$Answers", "read", "(II)I"⟩ ∈ tb := mt3 (List.mem_of_getElem? (i := 69) rfl) rfl
theorem wd_287 : Cond.code ⟨"LeastBounds$Answers", "read", "(II)I"⟩ prog_2_method_3_code 4 (some FieldType.int) ∈ tb := mt3 (List.mem_of_getElem? (i := 72) rfl) rfl
theorem wd_288 : Cond.instanceMethod ⟨"LeastBounds$Answers", "read", "(II)I"⟩ ∈ tb := mt3 (List.mem_of_getElem? (i := 70) rfl) rfl
theorem wd_289 : Cond.selects "LeastBounds$Answers" ⟨"LeastBounds$Answers", "read", "(II)I"⟩ ⟨"LeastBounds$Answers", "read", "(II)I"⟩ ∈ tb := mt3 (List.mem_of_getElem? (i := 71) rfl) rfl
theorem wd_290 : Cond.methodLink "LeastBounds" 248 ⟨"LeastBounds", "hasFittingPart", "(III)Z"⟩ ∈ tb := mt3 (List.mem_of_getElem? (i := 76) rfl) rfl
theorem wd_291 : Cond.code ⟨"LeastBounds", "hasFittingPart", "(III)Z"⟩ prog_1_method_30_code 9 (some FieldType.boolean) ∈ tb := mt3 (List.mem_of_getElem? (i := 79) rfl) rfl
theorem wd_292 : Cond.instanceMethod ⟨"LeastBounds", "hasFittingPart", "(III)Z"⟩ ∈ tb := mt3 (List.mem_of_getElem? (i := 78) rfl) rfl
theorem wd_293 : Cond.selects "LeastBounds" ⟨"LeastBounds", "hasFittingPart", "(III)Z"⟩ ⟨"LeastBounds", "hasFittingPart", "(III)Z"⟩ ∈ tb := mt0 (List.mem_of_getElem? (i := 21) rfl) rfl
theorem wd_294 : Cond.methodLink "LeastBounds" 257 ⟨"LeastBounds$Answers", "keep", "(IIZ)V"⟩ ∈ tb := mt3 (List.mem_of_getElem? (i := 84) rfl) rfl
theorem wd_295 : Cond.code ⟨"LeastBounds$Answers", "keep", "(IIZ)V"⟩ prog_2_method_4_code 5 none ∈ tb := mt3 (List.mem_of_getElem? (i := 87) rfl) rfl
theorem wd_296 : Cond.instanceMethod ⟨"LeastBounds$Answers", "keep", "(IIZ)V"⟩ ∈ tb := mt3 (List.mem_of_getElem? (i := 85) rfl) rfl
theorem wd_297 : Cond.selects "LeastBounds$Answers" ⟨"LeastBounds$Answers", "keep", "(IIZ)V"⟩ ⟨"LeastBounds$Answers", "keep", "(IIZ)V"⟩ ∈ tb := mt3 (List.mem_of_getElem? (i := 86) rfl) rfl
theorem wd_298 : Cond.methodLink "LeastBounds" 254 ⟨"LeastBounds", "liesBelowParts", "(III)Z"⟩ ∈ tb := mt3 (List.mem_of_getElem? (i := 80) rfl) rfl
theorem wd_299 : Cond.code ⟨"LeastBounds", "liesBelowParts", "(III)Z"⟩ prog_1_method_31_code 6 (some FieldType.boolean) ∈ tb := mt3 (List.mem_of_getElem? (i := 83) rfl) rfl
theorem wd_300 : Cond.instanceMethod ⟨"LeastBounds", "liesBelowParts", "(III)Z"⟩ ∈ tb := mt3 (List.mem_of_getElem? (i := 82) rfl) rfl
theorem wd_301 : Cond.selects "LeastBounds" ⟨"LeastBounds", "liesBelowParts", "(III)Z"⟩ ⟨"LeastBounds", "liesBelowParts", "(III)Z"⟩ ∈ tb := mt0 (List.mem_of_getElem? (i := 22) rfl) rfl
theorem wd_302 : Cond.methodLink "LeastBounds" 9 ⟨"java/lang/Math", "min", "(II)I"⟩ ∈ tb := mt1 (List.mem_of_getElem? (i := 24) rfl) rfl
theorem wd_303 : Cond.static ⟨"java/lang/Math", "min", "(II)I"⟩ ∈ tb := mt1 (List.mem_of_getElem? (i := 25) rfl) rfl
theorem wd_304 : Cond.code ⟨"java/lang/Math", "min", "(II)I"⟩ prog_13_method_69_code 2 (some FieldType.int) ∈ tb := mt1 (List.mem_of_getElem? (i := 26) rfl) rfl
theorem wd_305 : Cond.fieldLink "LeastBounds" 47 "LeastBounds" "gathered" "[I" ∈ tb := mt1 (List.mem_of_getElem? (i := 183) rfl) rfl
theorem wd_306 : Cond.methodLink "LeastBounds" 273 ⟨"java/lang/System", "arraycopy", "(Ljava/lang/Object;ILjava/lang/Object;II)V"⟩ ∈ tb := mt3 (List.mem_of_getElem? (i := 96) rfl) rfl
theorem wd_307 : Cond.methodLink "LeastBounds" 279 ⟨"java/util/Arrays", "fill", "([II)V"⟩ ∈ tb := mt3 (List.mem_of_getElem? (i := 101) rfl) rfl
theorem wd_308 : Cond.methodLink "LeastBounds" 285 ⟨"LeastBounds", "closeRow", "()I"⟩ ∈ tb := mt3 (List.mem_of_getElem? (i := 103) rfl) rfl
theorem wd_309 : Cond.code ⟨"LeastBounds", "closeRow", "()I"⟩ prog_1_method_41_code 3 (some FieldType.int) ∈ tb := mt3 (List.mem_of_getElem? (i := 106) rfl) rfl
theorem wd_310 : Cond.instanceMethod ⟨"LeastBounds", "closeRow", "()I"⟩ ∈ tb := mt3 (List.mem_of_getElem? (i := 105) rfl) rfl
theorem wd_311 : Cond.selects "LeastBounds" ⟨"LeastBounds", "closeRow", "()I"⟩ ⟨"LeastBounds", "closeRow", "()I"⟩ ∈ tb := mt0 (List.mem_of_getElem? (i := 26) rfl) rfl
theorem wd_312 : Cond.methodLink "LeastBounds" 203 ⟨"LeastBounds$Classes", "isFace", "(I)Z"⟩ ∈ tb := mt3 (List.mem_of_getElem? (i := 102) rfl) rfl
theorem wd_313 : Cond.methodLink "LeastBounds" 134 ⟨"LeastBounds", "gatherParts", "(II)I"⟩ ∈ tb := mt3 (List.mem_of_getElem? (i := 88) rfl) rfl
theorem wd_314 : Cond.code ⟨"LeastBounds", "gatherParts", "(II)I"⟩ prog_1_method_38_code 6 (some FieldType.int) ∈ tb := mt3 (List.mem_of_getElem? (i := 91) rfl) rfl
theorem wd_315 : Cond.instanceMethod ⟨"LeastBounds", "gatherParts", "(II)I"⟩ ∈ tb := mt3 (List.mem_of_getElem? (i := 90) rfl) rfl
theorem wd_316 : Cond.selects "LeastBounds" ⟨"LeastBounds", "gatherParts", "(II)I"⟩ ⟨"LeastBounds", "gatherParts", "(II)I"⟩ ∈ tb := mt0 (List.mem_of_getElem? (i := 23) rfl) rfl
theorem wd_317 : Cond.methodLink "LeastBounds" 137 ⟨"LeastBounds", "dropNeedless", "(I)I"⟩ ∈ tb := mt3 (List.mem_of_getElem? (i := 92) rfl) rfl
theorem wd_318 : Cond.code ⟨"LeastBounds", "dropNeedless", "(I)I"⟩ prog_1_method_39_code 7 (some FieldType.int) ∈ tb := mt3 (List.mem_of_getElem? (i := 95) rfl) rfl
theorem wd_319 : Cond.instanceMethod ⟨"LeastBounds", "dropNeedless", "(I)I"⟩ ∈ tb := mt3 (List.mem_of_getElem? (i := 94) rfl) rfl
theorem wd_320 : Cond.selects "LeastBounds" ⟨"LeastBounds", "dropNeedless", "(I)I"⟩ ⟨"LeastBounds", "dropNeedless", "(I)I"⟩ ∈ tb := mt0 (List.mem_of_getElem? (i := 24) rfl) rfl
theorem wd_321 : Cond.methodLink "LeastBounds" 140 ⟨"LeastBounds", "orderByClass", "(I)I"⟩ ∈ tb := mt3 (List.mem_of_getElem? (i := 97) rfl) rfl
theorem wd_322 : Cond.code ⟨"LeastBounds", "orderByClass", "(I)I"⟩ prog_1_method_40_code 5 (some FieldType.int) ∈ tb := mt3 (List.mem_of_getElem? (i := 100) rfl) rfl
theorem wd_323 : Cond.instanceMethod ⟨"LeastBounds", "orderByClass", "(I)I"⟩ ∈ tb := mt3 (List.mem_of_getElem? (i := 99) rfl) rfl
theorem wd_324 : Cond.selects "LeastBounds" ⟨"LeastBounds", "orderByClass", "(I)I"⟩ ⟨"LeastBounds", "orderByClass", "(I)I"⟩ ∈ tb := mt0 (List.mem_of_getElem? (i := 25) rfl) rfl
theorem wd_325 : Cond.methodLink "LeastBounds" 171 ⟨"LeastBounds$Types", "sizeOf", "(I)I"⟩ ∈ tb := mt3 (List.mem_of_getElem? (i := 135) rfl) rfl
theorem wd_326 : Cond.methodLink "LeastBounds" 187 ⟨"java/lang/Integer", "bitCount", "(I)I"⟩ ∈ tb := mt3 (List.mem_of_getElem? (i := 152) rfl) rfl
theorem wd_327 : Cond.code ⟨"java/lang/Integer", "bitCount", "(I)I"⟩ prog_12_method_49_code 1 (some FieldType.int) ∈ tb := mt3 (List.mem_of_getElem? (i := 154) rfl) rfl
theorem wd_328 : Cond.static ⟨"java/lang/Integer", "bitCount", "(I)I"⟩ ∈ tb := mt3 (List.mem_of_getElem? (i := 153) rfl) rfl
theorem wd_329 : Cond.initialized "java/lang/Integer" ∈ tb := mt1 (List.mem_of_getElem? (i := 15) rfl) rfl
theorem wd_330 : Cond.methodLink "LeastBounds" 197 ⟨"LeastBounds$Classes", "aboveOf", "(I)I"⟩ ∈ tb := mt3 (List.mem_of_getElem? (i := 166) rfl) rfl
theorem wd_331 : Cond.methodLink "LeastBounds" 206 ⟨"LeastBounds$Classes", "countDirect", "(I)I"⟩ ∈ tb := mt3 (List.mem_of_getElem? (i := 174) rfl) rfl
theorem wd_332 : Cond.methodLink "LeastBounds" 213 ⟨"LeastBounds$Classes", "directAt", "(II)I"⟩ ∈ tb := mt3 (List.mem_of_getElem? (i := 184) rfl) rfl
theorem wd_333 : Cond.methodLink "LeastBounds" 216 ⟨"LeastBounds$Classes", "toldAt", "(II)I"⟩ ∈ tb := mt3 (List.mem_of_getElem? (i := 185) rfl) rfl
theorem wd_334 : Cond.methodLink "LeastBounds" 219 ⟨"LeastBounds$Types", "count", "()I"⟩ ∈ tb := mt3 (List.mem_of_getElem? (i := 193) rfl) rfl
theorem wd_335 : Cond.code ⟨"LeastBounds$Types", "count", "()I"⟩ prog_4_method_2_code 1 (some FieldType.int) ∈ tb := mt3 (List.mem_of_getElem? (i := 196) rfl) rfl
theorem wd_336 : Cond.instanceMethod ⟨"LeastBounds$Types", "count", "()I"⟩ ∈ tb := mt3 (List.mem_of_getElem? (i := 194) rfl) rfl
theorem wd_337 : Cond.selects "LeastBounds$Types" ⟨"LeastBounds$Types", "count", "()I"⟩ ⟨"LeastBounds$Types", "count", "()I"⟩ ∈ tb := mt3 (List.mem_of_getElem? (i := 195) rfl) rfl
theorem wd_338 : Cond.fieldLink "LeastBoundsModel" 20 "LeastBoundsModel" "directTo" "[I" ∈ tb := mt3 (List.mem_of_getElem? (i := 219) rfl) rfl
theorem wd_339 : Cond.fieldLink "LeastBoundsModel" 16 "LeastBoundsModel" "directs" "[I" ∈ tb := mt3 (List.mem_of_getElem? (i := 218) rfl) rfl
theorem wd_340 : Cond.fieldLink "LeastBoundsModel" 23 "LeastBoundsModel" "directArg" "[I" ∈ tb := mt3 (List.mem_of_getElem? (i := 220) rfl) rfl
theorem wd_341 : Cond.fieldLink "LeastBoundsModel" 26 "LeastBoundsModel" "over" "[I" ∈ tb := mt3 (List.mem_of_getElem? (i := 221) rfl) rfl
theorem wd_342 : Cond.fieldLink "LeastBoundsModel" 102 "LeastBoundsModel" "code" "I" ∈ tb := mt3 (List.mem_of_getElem? (i := 212) rfl) rfl
theorem wd_343 : Cond.fieldLink "LeastBoundsModel" 89 "LeastBoundsModel" "classes" "I" ∈ tb := mt3 (List.mem_of_getElem? (i := 214) rfl) rfl
theorem wd_344 : Cond.fieldLink "LeastBoundsModel" 99 "LeastBoundsModel" "types" "I" ∈ tb := mt3 (List.mem_of_getElem? (i := 222) rfl) rfl
theorem wd_345 : Cond.fieldLink "LeastBoundsModel" 109 "LeastBoundsModel" "found" "Z" ∈ tb := mt3 (List.mem_of_getElem? (i := 231) rfl) rfl
theorem wd_346 : Cond.fieldLink "LeastBoundsModel" 113 "LeastBoundsModel" "foundHow" "I" ∈ tb := mt3 (List.mem_of_getElem? (i := 232) rfl) rfl
theorem wd_347 : Cond.fieldLink "LeastBoundsModel" 116 "LeastBoundsModel" "foundType" "I" ∈ tb := mt3 (List.mem_of_getElem? (i := 233) rfl) rfl
theorem wd_348 : Cond.methodLink "LeastBoundsModel" 105 ⟨"LeastBoundsModel", "under", "(II)Z"⟩ ∈ tb := mt4 (List.mem_of_getElem? (i := 110) rfl) rfl
theorem wd_349 : Cond.code ⟨"LeastBoundsModel", "under", "(II)Z"⟩ prog_6_method_6_code 3 (some FieldType.boolean) ∈ tb := mt4 (List.mem_of_getElem? (i := 113) rfl) rfl
theorem wd_350 : Cond.instanceMethod ⟨"LeastBoundsModel", "under", "(II)Z"⟩ ∈ tb := mt4 (List.mem_of_getElem? (i := 112) rfl) rfl
theorem wd_351 : Cond.selects "LeastBoundsModel" ⟨"LeastBoundsModel", "under", "(II)Z"⟩ ⟨"LeastBoundsModel", "under", "(II)Z"⟩ ∈ tb := mt0 (List.mem_of_getElem? (i := 34) rfl) rfl
theorem wd_352 : Cond.initialized "LeastBoundsModel" ∈ tb := mt1 (List.mem_of_getElem? (i := 6) rfl) rfl
theorem wd_353 : Cond.fieldLink "LeastBoundsModel" 29 "LeastBoundsModel" "kind" "[I" ∈ tb := mt3 (List.mem_of_getElem? (i := 223) rfl) rfl
theorem wd_354 : Cond.fieldLink "LeastBoundsModel" 44 "LeastBoundsModel" "partCount" "[I" ∈ tb := mt3 (List.mem_of_getElem? (i := 228) rfl) rfl
theorem wd_355 : Cond.fieldLink "LeastBoundsModel" 47 "LeastBoundsModel" "partRow" "[I" ∈ tb := mt3 (List.mem_of_getElem? (i := 229) rfl) rfl
theorem wd_356 : Cond.fieldLink "LeastBoundsModel" 32 "LeastBoundsModel" "classOf" "[I" ∈ tb := mt3 (List.mem_of_getElem? (i := 224) rfl) rfl
theorem wd_357 : Cond.fieldLink "LeastBoundsModel" 35 "LeastBoundsModel" "how" "[I" ∈ tb := mt3 (List.mem_of_getElem? (i := 225) rfl) rfl
theorem wd_358 : Cond.fieldLink "LeastBoundsModel" 38 "LeastBoundsModel" "inner" "[I" ∈ tb := mt3 (List.mem_of_getElem? (i := 226) rfl) rfl
theorem wd_359 : Cond.methodLink "LeastBoundsModel" 119 ⟨"LeastBoundsModel", "climb", "(IIII)V"⟩ ∈ tb := mt4 (List.mem_of_getElem? (i := 106) rfl) rfl
theorem wd_360 : Cond.code ⟨"LeastBoundsModel", "climb", "(IIII)V"⟩ prog_6_method_9_code 8 none ∈ tb := mt4 (List.mem_of_getElem? (i := 109) rfl) rfl
theorem wd_361 : Cond.instanceMethod ⟨"LeastBoundsModel", "climb", "(IIII)V"⟩ ∈ tb := mt4 (List.mem_of_getElem? (i := 108) rfl) rfl
theorem wd_362 : Cond.selects "LeastBoundsModel" ⟨"LeastBoundsModel", "climb", "(IIII)V"⟩ ⟨"LeastBoundsModel", "climb", "(IIII)V"⟩ ∈ tb := mt0 (List.mem_of_getElem? (i := 33) rfl) rfl
theorem wd_363 : Cond.fieldLink "LeastBoundsModel" 41 "LeastBoundsModel" "made" "[I" ∈ tb := mt3 (List.mem_of_getElem? (i := 227) rfl) rfl
theorem wd_364 : Cond.fieldLink "LeastBoundsModel" 123 "LeastBoundsModel" "full" "Z" ∈ tb := mt3 (List.mem_of_getElem? (i := 230) rfl) rfl
theorem wd_365 : Cond.methodLink "LeastBoundsModel" 126 ⟨"LeastBoundsModel", "add", "(IIII)I"⟩ ∈ tb := mt4 (List.mem_of_getElem? (i := 145) rfl) rfl
theorem wd_366 : Cond.code ⟨"LeastBoundsModel", "add", "(IIII)I"⟩ prog_6_method_11_code 6 (some FieldType.int) ∈ tb := mt4 (List.mem_of_getElem? (i := 148) rfl) rfl
theorem wd_367 : Cond.instanceMethod ⟨"LeastBoundsModel", "add", "(IIII)I"⟩ ∈ tb := mt4 (List.mem_of_getElem? (i := 147) rfl) rfl
theorem wd_368 : Cond.selects "LeastBoundsModel" ⟨"LeastBoundsModel", "add", "(IIII)I"⟩ ⟨"LeastBoundsModel", "add", "(IIII)I"⟩ ∈ tb := mt0 (List.mem_of_getElem? (i := 37) rfl) rfl
theorem wd_369 : Cond.fieldLink "LeastBoundsModel" 50 "LeastBoundsModel" "row" "[I" ∈ tb := mt3 (List.mem_of_getElem? (i := 234) rfl) rfl
theorem wd_370 : Cond.fieldLink "LeastBoundsModel" 54 "LeastBoundsModel" "below" "[Z" ∈ tb := mt3 (List.mem_of_getElem? (i := 235) rfl) rfl
theorem wd_371 : Cond.methodLink "LeastBoundsModel" 142 ⟨"LeastBoundsModel", "lookAt", "(II)V"⟩ ∈ tb := mt4 (List.mem_of_getElem? (i := 177) rfl) rfl
theorem wd_372 : Cond.code ⟨"LeastBoundsModel", "lookAt", "(II)V"⟩ prog_6_method_10_code 6 none ∈ tb := mt4 (List.mem_of_getElem? (i := 180) rfl) rfl
theorem wd_373 : Cond.instanceMethod ⟨"LeastBoundsModel", "lookAt", "(II)V"⟩ ∈ tb := mt4 (List.mem_of_getElem? (i := 179) rfl) rfl
theorem wd_374 : Cond.selects "LeastBoundsModel" ⟨"LeastBoundsModel", "lookAt", "(II)V"⟩ ⟨"LeastBoundsModel", "lookAt", "(II)V"⟩ ∈ tb := mt0 (List.mem_of_getElem? (i := 43) rfl) rfl
theorem wd_375 : Cond.fieldLink "LeastBoundsModel" 130 "LeastBoundsModel" "reckoned" "I" ∈ tb := mt3 (List.mem_of_getElem? (i := 236) rfl) rfl
theorem wd_376 : Cond.methodLink "LeastBoundsModel" 139 ⟨"LeastBoundsModel", "isBelowArray", "(II)Z"⟩ ∈ tb := mt4 (List.mem_of_getElem? (i := 181) rfl) rfl
theorem wd_377 : Cond.code ⟨"LeastBoundsModel", "isBelowArray", "(II)Z"⟩ prog_6_method_17_code 3 (some FieldType.boolean) ∈ tb := mt4 (List.mem_of_getElem? (i := 184) rfl) rfl
theorem wd_378 : Cond.instanceMethod ⟨"LeastBoundsModel", "isBelowArray", "(II)Z"⟩ ∈ tb := mt4 (List.mem_of_getElem? (i := 183) rfl) rfl
theorem wd_379 : Cond.selects "LeastBoundsModel" ⟨"LeastBoundsModel", "isBelowArray", "(II)Z"⟩ ⟨"LeastBoundsModel", "isBelowArray", "(II)Z"⟩ ∈ tb := mt0 (List.mem_of_getElem? (i := 44) rfl) rfl
theorem wd_380 : Cond.methodLink "LeastBoundsModel" 136 ⟨"LeastBoundsModel", "isBelowNamed", "(II)Z"⟩ ∈ tb := mt4 (List.mem_of_getElem? (i := 173) rfl) rfl
theorem wd_381 : Cond.code ⟨"LeastBoundsModel", "isBelowNamed", "(II)Z"⟩ prog_6_method_18_code 7 (some FieldType.boolean) ∈ tb := mt4 (List.mem_of_getElem? (i := 176) rfl) rfl
theorem wd_382 : Cond.instanceMethod ⟨"LeastBoundsModel", "isBelowNamed", "(II)Z"⟩ ∈ tb := mt4 (List.mem_of_getElem? (i := 175) rfl) rfl
theorem wd_383 : Cond.selects "LeastBoundsModel" ⟨"LeastBoundsModel", "isBelowNamed", "(II)Z"⟩ ⟨"LeastBoundsModel", "isBelowNamed", "(II)Z"⟩ ∈ tb := mt0 (List.mem_of_getElem? (i := 42) rfl) rfl
theorem wd_384 : Cond.methodLink "LeastBoundsModel" 133 ⟨"LeastBoundsModel", "isBelowAll", "(II)Z"⟩ ∈ tb := mt4 (List.mem_of_getElem? (i := 169) rfl) rfl
theorem wd_385 : Cond.code ⟨"LeastBoundsModel", "isBelowAll", "(II)Z"⟩ prog_6_method_16_code 5 (some FieldType.boolean) ∈ tb := mt4 (List.mem_of_getElem? (i := 172) rfl) rfl
theorem wd_386 : Cond.instanceMethod ⟨"LeastBoundsModel", "isBelowAll", "(II)Z"⟩ ∈ tb := mt4 (List.mem_of_getElem? (i := 171) rfl) rfl
theorem wd_387 : Cond.selects "LeastBoundsModel" ⟨"LeastBoundsModel", "isBelowAll", "(II)Z"⟩ ⟨"LeastBoundsModel", "isBelowAll", "(II)Z"⟩ ∈ tb := mt0 (List.mem_of_getElem? (i := 41) rfl) rfl
theorem wd_388 : Cond.methodLink "LeastBoundsModel" 146 ⟨"LeastBoundsModel", "good", "(I)Z"⟩ ∈ tb := mt4 (List.mem_of_getElem? (i := 86) rfl) rfl
theorem wd_389 : Cond.code ⟨"LeastBoundsModel", "good", "(I)Z"⟩ prog_6_method_3_code 2 (some FieldType.boolean) ∈ tb := mt4 (List.mem_of_getElem? (i := 89) rfl) rfl
theorem wd_390 : Cond.instanceMethod ⟨"LeastBoundsModel", "good", "(I)Z"⟩ ∈ tb := mt4 (List.mem_of_getElem? (i := 88) rfl) rfl
theorem wd_391 : Cond.selects "LeastBoundsModel" ⟨"LeastBoundsModel", "good", "(I)Z"⟩ ⟨"LeastBoundsModel", "good", "(I)Z"⟩ ∈ tb := mt0 (List.mem_of_getElem? (i := 29) rfl) rfl
theorem wd_392 : Cond.fieldLink "LeastBoundsModel" 7 "LeastBoundsModel" "face" "[Z" ∈ tb := mt3 (List.mem_of_getElem? (i := 216) rfl) rfl
theorem wd_393 : Cond.fieldLink "LeastBoundsModel" 13 "LeastBoundsModel" "generic" "[Z" ∈ tb := mt3 (List.mem_of_getElem? (i := 217) rfl) rfl
theorem wd_394 : Cond.fieldLink "LeastBoundsModel" 92 "LeastBoundsModel" "generics" "I" ∈ tb := mt3 (List.mem_of_getElem? (i := 215) rfl) rfl
theorem wd_395 : Cond.methodLink "LeastBoundsModel" 85 ⟨"LeastBoundsModel", "tie", "(III)V"⟩ ∈ tb := mt3 (List.mem_of_getElem? (i := 204) rfl) rfl
theorem wd_396 : Cond.code ⟨"LeastBoundsModel", "tie", "(III)V"⟩ prog_6_method_4_code 4 none ∈ tb := mt3 (List.mem_of_getElem? (i := 207) rfl) rfl
theorem wd_397 : Cond.instanceMethod ⟨"LeastBoundsModel", "tie", "(III)V"⟩ ∈ tb := mt3 (List.mem_of_getElem? (i := 206) rfl) rfl
theorem wd_398 : Cond.selects "LeastBoundsModel" ⟨"LeastBoundsModel", "tie", "(III)V"⟩ ⟨"LeastBoundsModel", "tie", "(III)V"⟩ ∈ tb := mt0 (List.mem_of_getElem? (i := 27) rfl) rfl
theorem wd_399 : Cond.methodLink "LeastBoundsModel" 95 ⟨"LeastBoundsModel", "reckonOver", "(I)V"⟩ ∈ tb := mt3 (List.mem_of_getElem? (i := 208) rfl) rfl
theorem wd_400 : Cond.code ⟨"LeastBoundsModel", "reckonOver", "(I)V"⟩ prog_6_method_5_code 5 none ∈ tb := mt3 (List.mem_of_getElem? (i := 211) rfl) rfl
theorem wd_401 : Cond.instanceMethod ⟨"LeastBoundsModel", "reckonOver", "(I)V"⟩ ∈ tb := mt3 (List.mem_of_getElem? (i := 210) rfl) rfl
theorem wd_402 : Cond.selects "LeastBoundsModel" ⟨"LeastBoundsModel", "reckonOver", "(I)V"⟩ ⟨"LeastBoundsModel", "reckonOver", "(I)V"⟩ ∈ tb := mt0 (List.mem_of_getElem? (i := 28) rfl) rfl
theorem wd_403 : Cond.methodLink "LeastBoundsModel" 150 ⟨"LeastBoundsModel", "isClass", "(I)Z"⟩ ∈ tb := mt4 (List.mem_of_getElem? (i := 94) rfl) rfl
theorem wd_404 : Cond.code ⟨"LeastBoundsModel", "isClass", "(I)Z"⟩ prog_6_method_7_code 2 (some FieldType.boolean) ∈ tb := mt4 (List.mem_of_getElem? (i := 97) rfl) rfl
theorem wd_405 : Cond.instanceMethod ⟨"LeastBoundsModel", "isClass", "(I)Z"⟩ ∈ tb := mt4 (List.mem_of_getElem? (i := 96) rfl) rfl
theorem wd_406 : Cond.selects "LeastBoundsModel" ⟨"LeastBoundsModel", "isClass", "(I)Z"⟩ ⟨"LeastBoundsModel", "isClass", "(I)Z"⟩ ∈ tb := mt0 (List.mem_of_getElem? (i := 30) rfl) rfl
theorem wd_407 : Cond.methodLink "LeastBoundsModel" 153 ⟨"LeastBoundsModel", "hasDirect", "(II)Z"⟩ ∈ tb := mt4 (List.mem_of_getElem? (i := 98) rfl) rfl
theorem wd_408 : Cond.code ⟨"LeastBoundsModel", "hasDirect", "(II)Z"⟩ prog_6_method_20_code 5 (some FieldType.boolean) ∈ tb := mt4 (List.mem_of_getElem? (i := 101) rfl) rfl
theorem wd_409 : Cond.instanceMethod ⟨"LeastBoundsModel", "hasDirect", "(II)Z"⟩ ∈ tb := mt4 (List.mem_of_getElem? (i := 100) rfl) rfl
theorem wd_410 : Cond.selects "LeastBoundsModel" ⟨"LeastBoundsModel", "hasDirect", "(II)Z"⟩ ⟨"LeastBoundsModel", "hasDirect", "(II)Z"⟩ ∈ tb := mt0 (List.mem_of_getElem? (i := 31) rfl) rfl
theorem wd_411 : Cond.methodLink "LeastBoundsModel" 156 ⟨"LeastBoundsModel", "partsWay", "(III)Z"⟩ ∈ tb := mt4 (List.mem_of_getElem? (i := 102) rfl) rfl
theorem wd_412 : Cond.code ⟨"LeastBoundsModel", "partsWay", "(III)Z"⟩ prog_6_method_21_code 8 (some FieldType.boolean) ∈ tb := mt4 (List.mem_of_getElem? (i := 105) rfl) rfl
theorem wd_413 : Cond.instanceMethod ⟨"LeastBoundsModel", "partsWay", "(III)Z"⟩ ∈ tb := mt4 (List.mem_of_getElem? (i := 104) rfl) rfl
theorem wd_414 : Cond.selects "LeastBoundsModel" ⟨"LeastBoundsModel", "partsWay", "(III)Z"⟩ ⟨"LeastBoundsModel", "partsWay", "(III)Z"⟩ ∈ tb := mt0 (List.mem_of_getElem? (i := 32) rfl) rfl
theorem wd_415 : Cond.methodLink "LeastBoundsModel" 160 ⟨"LeastBoundsModel", "count", "(I)I"⟩ ∈ tb := mt4 (List.mem_of_getElem? (i := 122) rfl) rfl
theorem wd_416 : Cond.code ⟨"LeastBoundsModel", "count", "(I)I"⟩ prog_6_method_25_code 3 (some FieldType.int) ∈ tb := mt4 (List.mem_of_getElem? (i := 124) rfl) rfl
theorem wd_417 : Cond.static ⟨"LeastBoundsModel", "count", "(I)I"⟩ ∈ tb := mt4 (List.mem_of_getElem? (i := 123) rfl) rfl
theorem wd_418 : Cond.fieldLink "LeastBoundsModel" 81 "LeastBoundsModel" "depth" "I" ∈ tb := mt3 (List.mem_of_getElem? (i := 213) rfl) rfl
theorem wd_419 : Cond.methodLink "LeastBoundsModel" 167 ⟨"LeastBoundsModel", "addNamed", "(III)I"⟩ ∈ tb := mt4 (List.mem_of_getElem? (i := 141) rfl) rfl
theorem wd_420 : Cond.code ⟨"LeastBoundsModel", "addNamed", "(III)I"⟩ prog_6_method_12_code 4 (some FieldType.int) ∈ tb := mt4 (List.mem_of_getElem? (i := 144) rfl) rfl
theorem wd_421 : Cond.instanceMethod ⟨"LeastBoundsModel", "addNamed", "(III)I"⟩ ∈ tb := mt4 (List.mem_of_getElem? (i := 143) rfl) rfl
theorem wd_422 : Cond.selects "LeastBoundsModel" ⟨"LeastBoundsModel", "addNamed", "(III)I"⟩ ⟨"LeastBoundsModel", "addNamed", "(III)I"⟩ ∈ tb := mt0 (List.mem_of_getElem? (i := 36) rfl) rfl
theorem wd_423 : Cond.methodLink "LeastBoundsModel" 171 ⟨"LeastBoundsModel", "end", "(III)I"⟩ ∈ tb := mt4 (List.mem_of_getElem? (i := 149) rfl) rfl
theorem wd_424 : Cond.code ⟨"LeastBoundsModel", "end", "(III)I"⟩ prog_6_method_28_code 4 (some FieldType.int) ∈ tb := mt4 (List.mem_of_getElem? (i := 152) rfl) rfl
theorem wd_425 : Cond.instanceMethod ⟨"LeastBoundsModel", "end", "(III)I"⟩ ∈ tb := mt4 (List.mem_of_getElem? (i := 151) rfl) rfl
theorem wd_426 : Cond.selects "LeastBoundsModel" ⟨"LeastBoundsModel", "end", "(III)I"⟩ ⟨"LeastBoundsModel", "end", "(III)I"⟩ ∈ tb := mt0 (List.mem_of_getElem? (i := 38) rfl) rfl
theorem wd_427 : Cond.methodLink "LeastBoundsModel" 164 ⟨"LeastBoundsModel", "isType", "(I)Z"⟩ ∈ tb := mt4 (List.mem_of_getElem? (i := 137) rfl) rfl
theorem wd_428 : Cond.code ⟨"LeastBoundsModel", "isType", "(I)Z"⟩ prog_6_method_8_code 2 (some FieldType.boolean) ∈ tb := mt4 (List.mem_of_getElem? (i := 140) rfl) rfl
theorem wd_429 : Cond.instanceMethod ⟨"LeastBoundsModel", "isType", "(I)Z"⟩ ∈ tb := mt4 (List.mem_of_getElem? (i := 139) rfl) rfl
theorem wd_430 : Cond.selects "LeastBoundsModel" ⟨"LeastBoundsModel", "isType", "(I)Z"⟩ ⟨"LeastBoundsModel", "isType", "(I)Z"⟩ ∈ tb := mt0 (List.mem_of_getElem? (i := 35) rfl) rfl
theorem wd_431 : Cond.methodLink "LeastBoundsModel" 174 ⟨"LeastBoundsModel", "addArray", "(I)I"⟩ ∈ tb := mt4 (List.mem_of_getElem? (i := 157) rfl) rfl
theorem wd_432 : Cond.code ⟨"LeastBoundsModel", "addArray", "(I)I"⟩ prog_6_method_13_code 2 (some FieldType.int) ∈ tb := mt4 (List.mem_of_getElem? (i := 160) rfl) rfl
theorem wd_433 : Cond.instanceMethod ⟨"LeastBoundsModel", "addArray", "(I)I"⟩ ∈ tb := mt4 (List.mem_of_getElem? (i := 159) rfl) rfl
theorem wd_434 : Cond.selects "LeastBoundsModel" ⟨"LeastBoundsModel", "addArray", "(I)I"⟩ ⟨"LeastBoundsModel", "addArray", "(I)I"⟩ ∈ tb := mt0 (List.mem_of_getElem? (i := 39) rfl) rfl
theorem wd_435 : Cond.methodLink "LeastBoundsModel" 177 ⟨"LeastBoundsModel", "reckonBelow", "()V"⟩ ∈ tb := mt4 (List.mem_of_getElem? (i := 165) rfl) rfl
theorem wd_436 : Cond.code ⟨"LeastBoundsModel", "reckonBelow", "()V"⟩ prog_6_method_15_code 3 none ∈ tb := mt4 (List.mem_of_getElem? (i := 168) rfl) rfl
theorem wd_437 : Cond.instanceMethod ⟨"LeastBoundsModel", "reckonBelow", "()V"⟩ ∈ tb := mt4 (List.mem_of_getElem? (i := 167) rfl) rfl
theorem wd_438 : Cond.selects "LeastBoundsModel" ⟨"LeastBoundsModel", "reckonBelow", "()V"⟩ ⟨"LeastBoundsModel", "reckonBelow", "()V"⟩ ∈ tb := mt0 (List.mem_of_getElem? (i := 40) rfl) rfl
theorem wd_439 : Cond.methodLink "LeastBoundsModel" 180 ⟨"LeastBoundsModel", "commonOf", "(II)I"⟩ ∈ tb := mt4 (List.mem_of_getElem? (i := 205) rfl) rfl
theorem wd_440 : Cond.code ⟨"LeastBoundsModel", "commonOf", "(II)I"⟩ prog_6_method_36_code 6 (some FieldType.int) ∈ tb := mt4 (List.mem_of_getElem? (i := 208) rfl) rfl
theorem wd_441 : Cond.instanceMethod ⟨"LeastBoundsModel", "commonOf", "(II)I"⟩ ∈ tb := mt4 (List.mem_of_getElem? (i := 207) rfl) rfl
theorem wd_442 : Cond.selects "LeastBoundsModel" ⟨"LeastBoundsModel", "commonOf", "(II)I"⟩ ⟨"LeastBoundsModel", "commonOf", "(II)I"⟩ ∈ tb := mt0 (List.mem_of_getElem? (i := 45) rfl) rfl
theorem wd_443 : Cond.methodLink "LeastBoundsModel" 184 ⟨"LeastBoundsModel", "leastOf", "(I)I"⟩ ∈ tb := mt4 (List.mem_of_getElem? (i := 209) rfl) rfl
theorem wd_444 : Cond.code ⟨"LeastBoundsModel", "leastOf", "(I)I"⟩ prog_6_method_37_code 4 (some FieldType.int) ∈ tb := mt4 (List.mem_of_getElem? (i := 212) rfl) rfl
theorem wd_445 : Cond.instanceMethod ⟨"LeastBoundsModel", "leastOf", "(I)I"⟩ ∈ tb := mt4 (List.mem_of_getElem? (i := 211) rfl) rfl
theorem wd_446 : Cond.selects "LeastBoundsModel" ⟨"LeastBoundsModel", "leastOf", "(I)I"⟩ ⟨"LeastBoundsModel", "leastOf", "(I)I"⟩ ∈ tb := mt0 (List.mem_of_getElem? (i := 46) rfl) rfl
theorem wd_447 : Cond.fieldLink "LeastBoundsModel" 57 "LeastBoundsModel" "left" "[I" ∈ tb := mt3 (List.mem_of_getElem? (i := 238) rfl) rfl
theorem wd_448 : Cond.fieldLink "LeastBoundsModel" 187 "LeastBoundsModel" "high" "I" ∈ tb := mt3 (List.mem_of_getElem? (i := 237) rfl) rfl
theorem wd_449 : Cond.fieldLink "LeastBoundsModel" 60 "LeastBoundsModel" "right" "[I" ∈ tb := mt3 (List.mem_of_getElem? (i := 239) rfl) rfl
theorem wd_450 : Cond.fieldLink "LeastBoundsModel" 63 "LeastBoundsModel" "deep" "[I" ∈ tb := mt4 (List.mem_of_getElem? (i := 0) rfl) rfl
theorem wd_451 : Cond.fieldLink "LeastBoundsModel" 66 "LeastBoundsModel" "stage" "[I" ∈ tb := mt4 (List.mem_of_getElem? (i := 1) rfl) rfl
theorem wd_452 : Cond.fieldLink "LeastBoundsModel" 75 "LeastBoundsModel" "size" "[I" ∈ tb := mt4 (List.mem_of_getElem? (i := 4) rfl) rfl
theorem wd_453 : Cond.fieldLink "LeastBoundsModel" 72 "LeastBoundsModel" "at" "[I" ∈ tb := mt4 (List.mem_of_getElem? (i := 3) rfl) rfl
theorem wd_454 : Cond.fieldLink "LeastBoundsModel" 190 "LeastBoundsModel" "answer" "I" ∈ tb := mt4 (List.mem_of_getElem? (i := 6) rfl) rfl
theorem wd_455 : Cond.fieldLink "LeastBoundsModel" 78 "LeastBoundsModel" "parts" "[I" ∈ tb := mt4 (List.mem_of_getElem? (i := 5) rfl) rfl
theorem wd_456 : Cond.fieldLink "LeastBoundsModel" 69 "LeastBoundsModel" "least" "[I" ∈ tb := mt4 (List.mem_of_getElem? (i := 2) rfl) rfl
theorem wd_457 : Cond.methodLink "LeastBoundsModel" 196 ⟨"LeastBoundsModel", "ask", "(III)V"⟩ ∈ tb := mt4 (List.mem_of_getElem? (i := 217) rfl) rfl
theorem wd_458 : Cond.code ⟨"LeastBoundsModel", "ask", "(III)V"⟩ prog_6_method_39_code 4 none ∈ tb := mt4 (List.mem_of_getElem? (i := 220) rfl) rfl
theorem wd_459 : Cond.instanceMethod ⟨"LeastBoundsModel", "ask", "(III)V"⟩ ∈ tb := mt4 (List.mem_of_getElem? (i := 219) rfl) rfl
theorem wd_460 : Cond.selects "LeastBoundsModel" ⟨"LeastBoundsModel", "ask", "(III)V"⟩ ⟨"LeastBoundsModel", "ask", "(III)V"⟩ ∈ tb := mt0 (List.mem_of_getElem? (i := 47) rfl) rfl
theorem wd_461 : Cond.methodLink "LeastBoundsModel" 193 ⟨"LeastBoundsModel", "tell", "(I)V"⟩ ∈ tb := mt4 (List.mem_of_getElem? (i := 225) rfl) rfl
theorem wd_462 : Cond.code ⟨"LeastBoundsModel", "tell", "(I)V"⟩ prog_6_method_40_code 2 none ∈ tb := mt4 (List.mem_of_getElem? (i := 228) rfl) rfl
theorem wd_463 : Cond.instanceMethod ⟨"LeastBoundsModel", "tell", "(I)V"⟩ ∈ tb := mt4 (List.mem_of_getElem? (i := 227) rfl) rfl
theorem wd_464 : Cond.selects "LeastBoundsModel" ⟨"LeastBoundsModel", "tell", "(I)V"⟩ ⟨"LeastBoundsModel", "tell", "(I)V"⟩ ∈ tb := mt0 (List.mem_of_getElem? (i := 49) rfl) rfl
theorem wd_465 : Cond.methodLink "LeastBoundsModel" 202 ⟨"LeastBoundsModel", "keep", "(II)V"⟩ ∈ tb := mt4 (List.mem_of_getElem? (i := 237) rfl) rfl
theorem wd_466 : Cond.code ⟨"LeastBoundsModel", "keep", "(II)V"⟩ prog_6_method_41_code 3 none ∈ tb := mt5 (List.mem_of_getElem? (i := 0) rfl) rfl
theorem wd_467 : Cond.instanceMethod ⟨"LeastBoundsModel", "keep", "(II)V"⟩ ∈ tb := mt4 (List.mem_of_getElem? (i := 239) rfl) rfl
theorem wd_468 : Cond.selects "LeastBoundsModel" ⟨"LeastBoundsModel", "keep", "(II)V"⟩ ⟨"LeastBoundsModel", "keep", "(II)V"⟩ ∈ tb := mt0 (List.mem_of_getElem? (i := 52) rfl) rfl
theorem wd_469 : Cond.methodLink "LeastBoundsModel" 199 ⟨"LeastBoundsModel", "addBoth", "(I)I"⟩ ∈ tb := mt4 (List.mem_of_getElem? (i := 233) rfl) rfl
theorem wd_470 : Cond.code ⟨"LeastBoundsModel", "addBoth", "(I)I"⟩ prog_6_method_14_code 6 (some FieldType.int) ∈ tb := mt4 (List.mem_of_getElem? (i := 236) rfl) rfl
theorem wd_471 : Cond.instanceMethod ⟨"LeastBoundsModel", "addBoth", "(I)I"⟩ ∈ tb := mt4 (List.mem_of_getElem? (i := 235) rfl) rfl
theorem wd_472 : Cond.selects "LeastBoundsModel" ⟨"LeastBoundsModel", "addBoth", "(I)I"⟩ ⟨"LeastBoundsModel", "addBoth", "(I)I"⟩ ∈ tb := mt0 (List.mem_of_getElem? (i := 51) rfl) rfl
theorem wd_473 : Cond.methodLink "LeastBoundsModel" 205 ⟨"LeastBoundsModel", "begin", "(I)V"⟩ ∈ tb := mt4 (List.mem_of_getElem? (i := 221) rfl) rfl
theorem wd_474 : Cond.code ⟨"LeastBoundsModel", "begin", "(I)V"⟩ prog_6_method_42_code 4 none ∈ tb := mt4 (List.mem_of_getElem? (i := 224) rfl) rfl
theorem wd_475 : Cond.instanceMethod ⟨"LeastBoundsModel", "begin", "(I)V"⟩ ∈ tb := mt4 (List.mem_of_getElem? (i := 223) rfl) rfl
theorem wd_476 : Cond.selects "LeastBoundsModel" ⟨"LeastBoundsModel", "begin", "(I)V"⟩ ⟨"LeastBoundsModel", "begin", "(I)V"⟩ ∈ tb := mt0 (List.mem_of_getElem? (i := 48) rfl) rfl
theorem wd_477 : Cond.methodLink "LeastBoundsModel" 208 ⟨"LeastBoundsModel", "goOn", "(I)V"⟩ ∈ tb := mt4 (List.mem_of_getElem? (i := 229) rfl) rfl
theorem wd_478 : Cond.code ⟨"LeastBoundsModel", "goOn", "(I)V"⟩ prog_6_method_43_code 6 none ∈ tb := mt4 (List.mem_of_getElem? (i := 232) rfl) rfl
theorem wd_479 : Cond.instanceMethod ⟨"LeastBoundsModel", "goOn", "(I)V"⟩ ∈ tb := mt4 (List.mem_of_getElem? (i := 231) rfl) rfl
theorem wd_480 : Cond.selects "LeastBoundsModel" ⟨"LeastBoundsModel", "goOn", "(I)V"⟩ ⟨"LeastBoundsModel", "goOn", "(I)V"⟩ ∈ tb := mt0 (List.mem_of_getElem? (i := 50) rfl) rfl
theorem wd_481 : Cond.methodLink "LeastBoundsModel" 211 ⟨"LeastBoundsModel", "partOf", "(III)I"⟩ ∈ tb := mt5 (List.mem_of_getElem? (i := 5) rfl) rfl
theorem wd_482 : Cond.code ⟨"LeastBoundsModel", "partOf", "(III)I"⟩ prog_6_method_46_code 4 (some FieldType.int) ∈ tb := mt5 (List.mem_of_getElem? (i := 8) rfl) rfl
theorem wd_483 : Cond.instanceMethod ⟨"LeastBoundsModel", "partOf", "(III)I"⟩ ∈ tb := mt5 (List.mem_of_getElem? (i := 7) rfl) rfl
theorem wd_484 : Cond.selects "LeastBoundsModel" ⟨"LeastBoundsModel", "partOf", "(III)I"⟩ ⟨"LeastBoundsModel", "partOf", "(III)I"⟩ ∈ tb := mt0 (List.mem_of_getElem? (i := 53) rfl) rfl
theorem wd_485 : Cond.code ⟨"java/util/Arrays", "copyOf", "([II)[I"⟩ prog_18_method_123_code 3 (some (FieldType.array FieldType.int)) ∈ tb := mt3 (List.mem_of_getElem? (i := 45) rfl) rfl
theorem wd_486 : Cond.static ⟨"java/util/Arrays", "copyOf", "([II)[I"⟩ ∈ tb := mt3 (List.mem_of_getElem? (i := 44) rfl) rfl
theorem wd_arrI : Cond.arrayClass .int ∈ tb := mt1 (List.mem_of_getElem? (i := 98) rfl) rfl
theorem wd_arrZ : Cond.arrayClass .boolean ∈ tb := mt1 (List.mem_of_getElem? (i := 97) rfl) rfl
theorem wd_arrJ : Cond.arrayClass .long ∈ tb := mt5 (List.mem_of_getElem? (i := 9) rfl) rfl
theorem wd_jmin : Cond.methodLink "java/util/Arrays" 304 ⟨"java/lang/Math", "min", "(II)I"⟩ ∈ tb := mt3 (List.mem_of_getElem? (i := 53) rfl) rfl
theorem wd_jcpy : Cond.methodLink "java/util/Arrays" 150 ⟨"java/lang/System", "arraycopy", "(Ljava/lang/Object;ILjava/lang/Object;II)V"⟩ ∈ tb := mt3 (List.mem_of_getElem? (i := 54) rfl) rfl
theorem wd_minS : Cond.static ⟨"java/lang/Math", "min", "(II)I"⟩ ∈ tb := wd_303
theorem wd_minI : Cond.initialized "java/lang/Math" ∈ tb := wd_15
theorem wd_minC : Cond.code ⟨"java/lang/Math", "min", "(II)I"⟩ prog_13_method_69_code 2 (some FieldType.int) ∈ tb := wd_304
theorem wd_cpyN : Cond.native ⟨"java/lang/System", "arraycopy", "(Ljava/lang/Object;ILjava/lang/Object;II)V"⟩ ∈ tb := wd_228
theorem wd_cpyS : Cond.static ⟨"java/lang/System", "arraycopy", "(Ljava/lang/Object;ILjava/lang/Object;II)V"⟩ ∈ tb := wd_229
theorem wd_cpyI : Cond.initialized "java/lang/System" ∈ tb := wd_230
theorem wd_coC : Cond.code ⟨"java/util/Arrays", "copyOf", "([II)[I"⟩ prog_18_method_123_code 3 (some (FieldType.array FieldType.int)) ∈ tb := wd_485
theorem wd_coI : Cond.initialized "java/util/Arrays" ∈ tb := wd_133
theorem wd_coS : Cond.static ⟨"java/util/Arrays", "copyOf", "([II)[I"⟩ ∈ tb := wd_486
