section
-- ===== PART A: goes FIRST, ahead of the names: the tables' words, and 'selects' of the private methods out of them =====
/-- a private method of a class that the tables say can be made, by its rows of tables_1 -/
def lw_okq (q : MethodName × Nat) : Prop := (q.1.cls ≠ "java/lang/invoke/MethodHandle" ∧ q.1.cls ≠ "java/lang/invoke/VarHandle") ∧ Cond.instantiable q.1.cls q.2 ∈ tables_1 ∧ Cond.privateMethod q.1 ∈ tables_1 ∧ Cond.instanceMethod q.1 ∈ tables_1
theorem lw_p0 : lw_okq (⟨"LeastBounds$Classes", "write", "(IIII)V"⟩, 8) := ⟨⟨by decide +kernel, by decide +kernel⟩, List.mem_of_getElem? (i := 31) (by decide +kernel), List.mem_of_getElem? (i := 41) (by decide +kernel), List.mem_of_getElem? (i := 42) (by decide +kernel)⟩
theorem lw_p1 : lw_okq (⟨"LeastBounds$Types", "add", "(II)I"⟩, 12) := ⟨⟨by decide +kernel, by decide +kernel⟩, List.mem_of_getElem? (i := 100) (by decide +kernel), List.mem_of_getElem? (i := 106) (by decide +kernel), List.mem_of_getElem? (i := 107) (by decide +kernel)⟩
theorem lw_p2 : lw_okq (⟨"java/lang/Throwable", "fillInStackTrace", "(I)Ljava/lang/Throwable;"⟩, 6) := ⟨⟨by decide +kernel, by decide +kernel⟩, List.mem_of_getElem? (i := 251) (by decide +kernel), List.mem_of_getElem? (i := 249) (by decide +kernel), List.mem_of_getElem? (i := 250) (by decide +kernel)⟩
theorem lw_p3 : lw_okq (⟨"LeastBounds", "requireClass", "(I)V"⟩, 6) := ⟨⟨by decide +kernel, by decide +kernel⟩, List.mem_of_getElem? (i := 17) (by decide +kernel), List.mem_of_getElem? (i := 296) (by decide +kernel), List.mem_of_getElem? (i := 297) (by decide +kernel)⟩
theorem lw_p4 : lw_okq (⟨"LeastBounds", "requireType", "(I)V"⟩, 6) := ⟨⟨by decide +kernel, by decide +kernel⟩, List.mem_of_getElem? (i := 17) (by decide +kernel), List.mem_of_getElem? (i := 317) (by decide +kernel), List.mem_of_getElem? (i := 318) (by decide +kernel)⟩
theorem lw_p5 : lw_okq (⟨"LeastBounds$Classes", "isDirectly", "(II)Z"⟩, 8) := ⟨⟨by decide +kernel, by decide +kernel⟩, List.mem_of_getElem? (i := 31) (by decide +kernel), List.mem_of_getElem? (i := 331) (by decide +kernel), List.mem_of_getElem? (i := 332) (by decide +kernel)⟩
theorem lw_p6 : lw_okq (⟨"LeastBounds", "isTellable", "(II)Z"⟩, 6) := ⟨⟨by decide +kernel, by decide +kernel⟩, List.mem_of_getElem? (i := 17) (by decide +kernel), List.mem_of_getElem? (i := 336) (by decide +kernel), List.mem_of_getElem? (i := 337) (by decide +kernel)⟩
theorem lw_p7 : lw_okq (⟨"LeastBounds$Classes", "firstToward", "(II)I"⟩, 8) := ⟨⟨by decide +kernel, by decide +kernel⟩, List.mem_of_getElem? (i := 31) (by decide +kernel), List.mem_of_getElem? (i := 381) (by decide +kernel), List.mem_of_getElem? (i := 382) (by decide +kernel)⟩
theorem lw_p8 : lw_okq (⟨"LeastBounds", "settled", "(I)I"⟩, 6) := ⟨⟨by decide +kernel, by decide +kernel⟩, List.mem_of_getElem? (i := 17) (by decide +kernel), List.mem_of_getElem? (i := 415) (by decide +kernel), List.mem_of_getElem? (i := 416) (by decide +kernel)⟩
theorem lw_p9 : lw_okq (⟨"LeastBounds", "upperBound", "(III)I"⟩, 6) := ⟨⟨by decide +kernel, by decide +kernel⟩, List.mem_of_getElem? (i := 17) (by decide +kernel), List.mem_of_getElem? (i := 443) (by decide +kernel), List.mem_of_getElem? (i := 444) (by decide +kernel)⟩
theorem lw_p10 : lw_okq (⟨"LeastBounds", "isArrayOfOthers", "(I)Z"⟩, 6) := ⟨⟨by decide +kernel, by decide +kernel⟩, List.mem_of_getElem? (i := 17) (by decide +kernel), List.mem_of_getElem? (i := 447) (by decide +kernel), List.mem_of_getElem? (i := 448) (by decide +kernel)⟩
theorem lw_p11 : lw_okq (⟨"LeastBounds", "boundByClasses", "(III)I"⟩, 6) := ⟨⟨by decide +kernel, by decide +kernel⟩, List.mem_of_getElem? (i := 17) (by decide +kernel), List.mem_of_getElem? (i := 455) (by decide +kernel), List.mem_of_getElem? (i := 456) (by decide +kernel)⟩
theorem lw_p12 : lw_okq (⟨"LeastBounds", "commonOf", "(II)I"⟩, 6) := ⟨⟨by decide +kernel, by decide +kernel⟩, List.mem_of_getElem? (i := 17) (by decide +kernel), List.mem_of_getElem? (i := 459) (by decide +kernel), List.mem_of_getElem? (i := 460) (by decide +kernel)⟩
theorem lw_p13 : lw_okq (⟨"LeastBounds", "foundIn", "(I)I"⟩, 6) := ⟨⟨by decide +kernel, by decide +kernel⟩, List.mem_of_getElem? (i := 17) (by decide +kernel), List.mem_of_getElem? (i := 463) (by decide +kernel), List.mem_of_getElem? (i := 464) (by decide +kernel)⟩
theorem lw_p14 : lw_okq (⟨"LeastBounds", "find", "(II)I"⟩, 6) := ⟨⟨by decide +kernel, by decide +kernel⟩, List.mem_of_getElem? (i := 17) (by decide +kernel), List.mem_of_getElem? (i := 486) (by decide +kernel), List.mem_of_getElem? (i := 487) (by decide +kernel)⟩
theorem lw_p15 : lw_okq (⟨"LeastBounds", "countHolders", "(I)I"⟩, 6) := ⟨⟨by decide +kernel, by decide +kernel⟩, List.mem_of_getElem? (i := 17) (by decide +kernel), List.mem_of_getElem? (i := 490) (by decide +kernel), List.mem_of_getElem? (i := 491) (by decide +kernel)⟩
def lw_privs_1 : List (MethodName × Nat) := [(⟨"LeastBounds$Classes", "write", "(IIII)V"⟩, 8), (⟨"LeastBounds$Types", "add", "(II)I"⟩, 12), (⟨"java/lang/Throwable", "fillInStackTrace", "(I)Ljava/lang/Throwable;"⟩, 6), (⟨"LeastBounds", "requireClass", "(I)V"⟩, 6), (⟨"LeastBounds", "requireType", "(I)V"⟩, 6), (⟨"LeastBounds$Classes", "isDirectly", "(II)Z"⟩, 8), (⟨"LeastBounds", "isTellable", "(II)Z"⟩, 6), (⟨"LeastBounds$Classes", "firstToward", "(II)I"⟩, 8), (⟨"LeastBounds", "settled", "(I)I"⟩, 6), (⟨"LeastBounds", "upperBound", "(III)I"⟩, 6), (⟨"LeastBounds", "isArrayOfOthers", "(I)Z"⟩, 6), (⟨"LeastBounds", "boundByClasses", "(III)I"⟩, 6), (⟨"LeastBounds", "commonOf", "(II)I"⟩, 6), (⟨"LeastBounds", "foundIn", "(I)I"⟩, 6), (⟨"LeastBounds", "find", "(II)I"⟩, 6), (⟨"LeastBounds", "countHolders", "(I)I"⟩, 6)]
theorem lw_r1 : ∀ q ∈ lw_privs_1, lw_okq q := List.forall_mem_cons.mpr ⟨lw_p0, List.forall_mem_cons.mpr ⟨lw_p1, List.forall_mem_cons.mpr ⟨lw_p2, List.forall_mem_cons.mpr ⟨lw_p3, List.forall_mem_cons.mpr ⟨lw_p4, List.forall_mem_cons.mpr ⟨lw_p5, List.forall_mem_cons.mpr ⟨lw_p6, List.forall_mem_cons.mpr ⟨lw_p7, List.forall_mem_cons.mpr ⟨lw_p8, List.forall_mem_cons.mpr ⟨lw_p9, List.forall_mem_cons.mpr ⟨lw_p10, List.forall_mem_cons.mpr ⟨lw_p11, List.forall_mem_cons.mpr ⟨lw_p12, List.forall_mem_cons.mpr ⟨lw_p13, List.forall_mem_cons.mpr ⟨lw_p14, List.forall_mem_cons.mpr ⟨lw_p15, fun _ h => absurd h List.not_mem_nil⟩⟩⟩⟩⟩⟩⟩⟩⟩⟩⟩⟩⟩⟩⟩⟩
theorem lw_p16 : lw_okq (⟨"LeastBounds", "boundArgument", "(III)I"⟩, 6) := ⟨⟨by decide +kernel, by decide +kernel⟩, List.mem_of_getElem? (i := 17) (by decide +kernel), List.mem_of_getElem? (i := 499) (by decide +kernel), List.mem_of_getElem? (i := 500) (by decide +kernel)⟩
theorem lw_p17 : lw_okq (⟨"LeastBounds$Types", "findIntersection", "([III)I"⟩, 12) := ⟨⟨by decide +kernel, by decide +kernel⟩, List.mem_of_getElem? (i := 100) (by decide +kernel), List.mem_of_getElem? (i := 511) (by decide +kernel), List.mem_of_getElem? (i := 512) (by decide +kernel)⟩
theorem lw_p18 : lw_okq (⟨"LeastBounds$Types", "hasParts", "(I[II)Z"⟩, 12) := ⟨⟨by decide +kernel, by decide +kernel⟩, List.mem_of_getElem? (i := 100) (by decide +kernel), List.mem_of_getElem? (i := 515) (by decide +kernel), List.mem_of_getElem? (i := 516) (by decide +kernel)⟩
theorem lw_p19 : lw_okq (⟨"LeastBounds$Types", "appendParts", "(I[III)V"⟩, 12) := ⟨⟨by decide +kernel, by decide +kernel⟩, List.mem_of_getElem? (i := 100) (by decide +kernel), List.mem_of_getElem? (i := 520) (by decide +kernel), List.mem_of_getElem? (i := 521) (by decide +kernel)⟩
theorem lw_p20 : lw_okq (⟨"LeastBounds", "liesBelow", "(III)Z"⟩, 6) := ⟨⟨by decide +kernel, by decide +kernel⟩, List.mem_of_getElem? (i := 17) (by decide +kernel), List.mem_of_getElem? (i := 546) (by decide +kernel), List.mem_of_getElem? (i := 547) (by decide +kernel)⟩
theorem lw_p21 : lw_okq (⟨"LeastBounds", "hasFittingPart", "(III)Z"⟩, 6) := ⟨⟨by decide +kernel, by decide +kernel⟩, List.mem_of_getElem? (i := 17) (by decide +kernel), List.mem_of_getElem? (i := 557) (by decide +kernel), List.mem_of_getElem? (i := 558) (by decide +kernel)⟩
theorem lw_p22 : lw_okq (⟨"LeastBounds", "liesBelowParts", "(III)Z"⟩, 6) := ⟨⟨by decide +kernel, by decide +kernel⟩, List.mem_of_getElem? (i := 17) (by decide +kernel), List.mem_of_getElem? (i := 561) (by decide +kernel), List.mem_of_getElem? (i := 562) (by decide +kernel)⟩
theorem lw_p23 : lw_okq (⟨"LeastBounds", "gatherParts", "(II)I"⟩, 6) := ⟨⟨by decide +kernel, by decide +kernel⟩, List.mem_of_getElem? (i := 17) (by decide +kernel), List.mem_of_getElem? (i := 569) (by decide +kernel), List.mem_of_getElem? (i := 570) (by decide +kernel)⟩
theorem lw_p24 : lw_okq (⟨"LeastBounds", "dropNeedless", "(I)I"⟩, 6) := ⟨⟨by decide +kernel, by decide +kernel⟩, List.mem_of_getElem? (i := 17) (by decide +kernel), List.mem_of_getElem? (i := 573) (by decide +kernel), List.mem_of_getElem? (i := 574) (by decide +kernel)⟩
theorem lw_p25 : lw_okq (⟨"LeastBounds", "orderByClass", "(I)I"⟩, 6) := ⟨⟨by decide +kernel, by decide +kernel⟩, List.mem_of_getElem? (i := 17) (by decide +kernel), List.mem_of_getElem? (i := 578) (by decide +kernel), List.mem_of_getElem? (i := 579) (by decide +kernel)⟩
theorem lw_p26 : lw_okq (⟨"LeastBounds", "closeRow", "()I"⟩, 6) := ⟨⟨by decide +kernel, by decide +kernel⟩, List.mem_of_getElem? (i := 17) (by decide +kernel), List.mem_of_getElem? (i := 584) (by decide +kernel), List.mem_of_getElem? (i := 585) (by decide +kernel)⟩
theorem lw_p27 : lw_okq (⟨"LeastBoundsModel", "tie", "(III)V"⟩, 35) := ⟨⟨by decide +kernel, by decide +kernel⟩, List.mem_of_getElem? (i := 678) (by decide +kernel), List.mem_of_getElem? (i := 685) (by decide +kernel), List.mem_of_getElem? (i := 686) (by decide +kernel)⟩
theorem lw_p28 : lw_okq (⟨"LeastBoundsModel", "reckonOver", "(I)V"⟩, 35) := ⟨⟨by decide +kernel, by decide +kernel⟩, List.mem_of_getElem? (i := 678) (by decide +kernel), List.mem_of_getElem? (i := 689) (by decide +kernel), List.mem_of_getElem? (i := 690) (by decide +kernel)⟩
theorem lw_p29 : lw_okq (⟨"LeastBoundsModel", "good", "(I)Z"⟩, 35) := ⟨⟨by decide +kernel, by decide +kernel⟩, List.mem_of_getElem? (i := 678) (by decide +kernel), List.mem_of_getElem? (i := 807) (by decide +kernel), List.mem_of_getElem? (i := 808) (by decide +kernel)⟩
theorem lw_p30 : lw_okq (⟨"LeastBoundsModel", "isClass", "(I)Z"⟩, 35) := ⟨⟨by decide +kernel, by decide +kernel⟩, List.mem_of_getElem? (i := 678) (by decide +kernel), List.mem_of_getElem? (i := 815) (by decide +kernel), List.mem_of_getElem? (i := 816) (by decide +kernel)⟩
theorem lw_p31 : lw_okq (⟨"LeastBoundsModel", "hasDirect", "(II)Z"⟩, 35) := ⟨⟨by decide +kernel, by decide +kernel⟩, List.mem_of_getElem? (i := 678) (by decide +kernel), List.mem_of_getElem? (i := 819) (by decide +kernel), List.mem_of_getElem? (i := 820) (by decide +kernel)⟩
def lw_privs_2 : List (MethodName × Nat) := [(⟨"LeastBounds", "boundArgument", "(III)I"⟩, 6), (⟨"LeastBounds$Types", "findIntersection", "([III)I"⟩, 12), (⟨"LeastBounds$Types", "hasParts", "(I[II)Z"⟩, 12), (⟨"LeastBounds$Types", "appendParts", "(I[III)V"⟩, 12), (⟨"LeastBounds", "liesBelow", "(III)Z"⟩, 6), (⟨"LeastBounds", "hasFittingPart", "(III)Z"⟩, 6), (⟨"LeastBounds", "liesBelowParts", "(III)Z"⟩, 6), (⟨"LeastBounds", "gatherParts", "(II)I"⟩, 6), (⟨"LeastBounds", "dropNeedless", "(I)I"⟩, 6), (⟨"LeastBounds", "orderByClass", "(I)I"⟩, 6), (⟨"LeastBounds", "closeRow", "()I"⟩, 6), (⟨"LeastBoundsModel", "tie", "(III)V"⟩, 35), (⟨"LeastBoundsModel", "reckonOver", "(I)V"⟩, 35), (⟨"LeastBoundsModel", "good", "(I)Z"⟩, 35), (⟨"LeastBoundsModel", "isClass", "(I)Z"⟩, 35), (⟨"LeastBoundsModel", "hasDirect", "(II)Z"⟩, 35)]
theorem lw_r2 : ∀ q ∈ lw_privs_2, lw_okq q := List.forall_mem_cons.mpr ⟨lw_p16, List.forall_mem_cons.mpr ⟨lw_p17, List.forall_mem_cons.mpr ⟨lw_p18, List.forall_mem_cons.mpr ⟨lw_p19, List.forall_mem_cons.mpr ⟨lw_p20, List.forall_mem_cons.mpr ⟨lw_p21, List.forall_mem_cons.mpr ⟨lw_p22, List.forall_mem_cons.mpr ⟨lw_p23, List.forall_mem_cons.mpr ⟨lw_p24, List.forall_mem_cons.mpr ⟨lw_p25, List.forall_mem_cons.mpr ⟨lw_p26, List.forall_mem_cons.mpr ⟨lw_p27, List.forall_mem_cons.mpr ⟨lw_p28, List.forall_mem_cons.mpr ⟨lw_p29, List.forall_mem_cons.mpr ⟨lw_p30, List.forall_mem_cons.mpr ⟨lw_p31, fun _ h => absurd h List.not_mem_nil⟩⟩⟩⟩⟩⟩⟩⟩⟩⟩⟩⟩⟩⟩⟩⟩
theorem lw_p32 : lw_okq (⟨"LeastBoundsModel", "partsWay", "(III)Z"⟩, 35) := ⟨⟨by decide +kernel, by decide +kernel⟩, List.mem_of_getElem? (i := 678) (by decide +kernel), List.mem_of_getElem? (i := 823) (by decide +kernel), List.mem_of_getElem? (i := 824) (by decide +kernel)⟩
theorem lw_p33 : lw_okq (⟨"LeastBoundsModel", "climb", "(IIII)V"⟩, 35) := ⟨⟨by decide +kernel, by decide +kernel⟩, List.mem_of_getElem? (i := 678) (by decide +kernel), List.mem_of_getElem? (i := 827) (by decide +kernel), List.mem_of_getElem? (i := 828) (by decide +kernel)⟩
theorem lw_p34 : lw_okq (⟨"LeastBoundsModel", "under", "(II)Z"⟩, 35) := ⟨⟨by decide +kernel, by decide +kernel⟩, List.mem_of_getElem? (i := 678) (by decide +kernel), List.mem_of_getElem? (i := 831) (by decide +kernel), List.mem_of_getElem? (i := 832) (by decide +kernel)⟩
theorem lw_p35 : lw_okq (⟨"LeastBoundsModel", "isType", "(I)Z"⟩, 35) := ⟨⟨by decide +kernel, by decide +kernel⟩, List.mem_of_getElem? (i := 678) (by decide +kernel), List.mem_of_getElem? (i := 858) (by decide +kernel), List.mem_of_getElem? (i := 859) (by decide +kernel)⟩
theorem lw_p36 : lw_okq (⟨"LeastBoundsModel", "addNamed", "(III)I"⟩, 35) := ⟨⟨by decide +kernel, by decide +kernel⟩, List.mem_of_getElem? (i := 678) (by decide +kernel), List.mem_of_getElem? (i := 862) (by decide +kernel), List.mem_of_getElem? (i := 863) (by decide +kernel)⟩
theorem lw_p37 : lw_okq (⟨"LeastBoundsModel", "add", "(IIII)I"⟩, 35) := ⟨⟨by decide +kernel, by decide +kernel⟩, List.mem_of_getElem? (i := 678) (by decide +kernel), List.mem_of_getElem? (i := 866) (by decide +kernel), List.mem_of_getElem? (i := 867) (by decide +kernel)⟩
theorem lw_p38 : lw_okq (⟨"LeastBoundsModel", "end", "(III)I"⟩, 35) := ⟨⟨by decide +kernel, by decide +kernel⟩, List.mem_of_getElem? (i := 678) (by decide +kernel), List.mem_of_getElem? (i := 870) (by decide +kernel), List.mem_of_getElem? (i := 871) (by decide +kernel)⟩
theorem lw_p39 : lw_okq (⟨"LeastBoundsModel", "addArray", "(I)I"⟩, 35) := ⟨⟨by decide +kernel, by decide +kernel⟩, List.mem_of_getElem? (i := 678) (by decide +kernel), List.mem_of_getElem? (i := 878) (by decide +kernel), List.mem_of_getElem? (i := 879) (by decide +kernel)⟩
theorem lw_p40 : lw_okq (⟨"LeastBoundsModel", "reckonBelow", "()V"⟩, 35) := ⟨⟨by decide +kernel, by decide +kernel⟩, List.mem_of_getElem? (i := 678) (by decide +kernel), List.mem_of_getElem? (i := 886) (by decide +kernel), List.mem_of_getElem? (i := 887) (by decide +kernel)⟩
theorem lw_p41 : lw_okq (⟨"LeastBoundsModel", "isBelowAll", "(II)Z"⟩, 35) := ⟨⟨by decide +kernel, by decide +kernel⟩, List.mem_of_getElem? (i := 678) (by decide +kernel), List.mem_of_getElem? (i := 890) (by decide +kernel), List.mem_of_getElem? (i := 891) (by decide +kernel)⟩
theorem lw_p42 : lw_okq (⟨"LeastBoundsModel", "isBelowNamed", "(II)Z"⟩, 35) := ⟨⟨by decide +kernel, by decide +kernel⟩, List.mem_of_getElem? (i := 678) (by decide +kernel), List.mem_of_getElem? (i := 894) (by decide +kernel), List.mem_of_getElem? (i := 895) (by decide +kernel)⟩
theorem lw_p43 : lw_okq (⟨"LeastBoundsModel", "lookAt", "(II)V"⟩, 35) := ⟨⟨by decide +kernel, by decide +kernel⟩, List.mem_of_getElem? (i := 678) (by decide +kernel), List.mem_of_getElem? (i := 898) (by decide +kernel), List.mem_of_getElem? (i := 899) (by decide +kernel)⟩
theorem lw_p44 : lw_okq (⟨"LeastBoundsModel", "isBelowArray", "(II)Z"⟩, 35) := ⟨⟨by decide +kernel, by decide +kernel⟩, List.mem_of_getElem? (i := 678) (by decide +kernel), List.mem_of_getElem? (i := 902) (by decide +kernel), List.mem_of_getElem? (i := 903) (by decide +kernel)⟩
theorem lw_p45 : lw_okq (⟨"LeastBoundsModel", "commonOf", "(II)I"⟩, 35) := ⟨⟨by decide +kernel, by decide +kernel⟩, List.mem_of_getElem? (i := 678) (by decide +kernel), List.mem_of_getElem? (i := 926) (by decide +kernel), List.mem_of_getElem? (i := 927) (by decide +kernel)⟩
theorem lw_p46 : lw_okq (⟨"LeastBoundsModel", "leastOf", "(I)I"⟩, 35) := ⟨⟨by decide +kernel, by decide +kernel⟩, List.mem_of_getElem? (i := 678) (by decide +kernel), List.mem_of_getElem? (i := 930) (by decide +kernel), List.mem_of_getElem? (i := 931) (by decide +kernel)⟩
theorem lw_p47 : lw_okq (⟨"LeastBoundsModel", "ask", "(III)V"⟩, 35) := ⟨⟨by decide +kernel, by decide +kernel⟩, List.mem_of_getElem? (i := 678) (by decide +kernel), List.mem_of_getElem? (i := 938) (by decide +kernel), List.mem_of_getElem? (i := 939) (by decide +kernel)⟩
def lw_privs_3 : List (MethodName × Nat) := [(⟨"LeastBoundsModel", "partsWay", "(III)Z"⟩, 35), (⟨"LeastBoundsModel", "climb", "(IIII)V"⟩, 35), (⟨"LeastBoundsModel", "under", "(II)Z"⟩, 35), (⟨"LeastBoundsModel", "isType", "(I)Z"⟩, 35), (⟨"LeastBoundsModel", "addNamed", "(III)I"⟩, 35), (⟨"LeastBoundsModel", "add", "(IIII)I"⟩, 35), (⟨"LeastBoundsModel", "end", "(III)I"⟩, 35), (⟨"LeastBoundsModel", "addArray", "(I)I"⟩, 35), (⟨"LeastBoundsModel", "reckonBelow", "()V"⟩, 35), (⟨"LeastBoundsModel", "isBelowAll", "(II)Z"⟩, 35), (⟨"LeastBoundsModel", "isBelowNamed", "(II)Z"⟩, 35), (⟨"LeastBoundsModel", "lookAt", "(II)V"⟩, 35), (⟨"LeastBoundsModel", "isBelowArray", "(II)Z"⟩, 35), (⟨"LeastBoundsModel", "commonOf", "(II)I"⟩, 35), (⟨"LeastBoundsModel", "leastOf", "(I)I"⟩, 35), (⟨"LeastBoundsModel", "ask", "(III)V"⟩, 35)]
theorem lw_r3 : ∀ q ∈ lw_privs_3, lw_okq q := List.forall_mem_cons.mpr ⟨lw_p32, List.forall_mem_cons.mpr ⟨lw_p33, List.forall_mem_cons.mpr ⟨lw_p34, List.forall_mem_cons.mpr ⟨lw_p35, List.forall_mem_cons.mpr ⟨lw_p36, List.forall_mem_cons.mpr ⟨lw_p37, List.forall_mem_cons.mpr ⟨lw_p38, List.forall_mem_cons.mpr ⟨lw_p39, List.forall_mem_cons.mpr ⟨lw_p40, List.forall_mem_cons.mpr ⟨lw_p41, List.forall_mem_cons.mpr ⟨lw_p42, List.forall_mem_cons.mpr ⟨lw_p43, List.forall_mem_cons.mpr ⟨lw_p44, List.forall_mem_cons.mpr ⟨lw_p45, List.forall_mem_cons.mpr ⟨lw_p46, List.forall_mem_cons.mpr ⟨lw_p47, fun _ h => absurd h List.not_mem_nil⟩⟩⟩⟩⟩⟩⟩⟩⟩⟩⟩⟩⟩⟩⟩⟩
theorem lw_p48 : lw_okq (⟨"LeastBoundsModel", "begin", "(I)V"⟩, 35) := ⟨⟨by decide +kernel, by decide +kernel⟩, List.mem_of_getElem? (i := 678) (by decide +kernel), List.mem_of_getElem? (i := 942) (by decide +kernel), List.mem_of_getElem? (i := 943) (by decide +kernel)⟩
theorem lw_p49 : lw_okq (⟨"LeastBoundsModel", "tell", "(I)V"⟩, 35) := ⟨⟨by decide +kernel, by decide +kernel⟩, List.mem_of_getElem? (i := 678) (by decide +kernel), List.mem_of_getElem? (i := 946) (by decide +kernel), List.mem_of_getElem? (i := 947) (by decide +kernel)⟩
theorem lw_p50 : lw_okq (⟨"LeastBoundsModel", "goOn", "(I)V"⟩, 35) := ⟨⟨by decide +kernel, by decide +kernel⟩, List.mem_of_getElem? (i := 678) (by decide +kernel), List.mem_of_getElem? (i := 950) (by decide +kernel), List.mem_of_getElem? (i := 951) (by decide +kernel)⟩
theorem lw_p51 : lw_okq (⟨"LeastBoundsModel", "addBoth", "(I)I"⟩, 35) := ⟨⟨by decide +kernel, by decide +kernel⟩, List.mem_of_getElem? (i := 678) (by decide +kernel), List.mem_of_getElem? (i := 954) (by decide +kernel), List.mem_of_getElem? (i := 955) (by decide +kernel)⟩
theorem lw_p52 : lw_okq (⟨"LeastBoundsModel", "keep", "(II)V"⟩, 35) := ⟨⟨by decide +kernel, by decide +kernel⟩, List.mem_of_getElem? (i := 678) (by decide +kernel), List.mem_of_getElem? (i := 958) (by decide +kernel), List.mem_of_getElem? (i := 959) (by decide +kernel)⟩
theorem lw_p53 : lw_okq (⟨"LeastBoundsModel", "partOf", "(III)I"⟩, 35) := ⟨⟨by decide +kernel, by decide +kernel⟩, List.mem_of_getElem? (i := 678) (by decide +kernel), List.mem_of_getElem? (i := 966) (by decide +kernel), List.mem_of_getElem? (i := 967) (by decide +kernel)⟩
def lw_privs_4 : List (MethodName × Nat) := [(⟨"LeastBoundsModel", "begin", "(I)V"⟩, 35), (⟨"LeastBoundsModel", "tell", "(I)V"⟩, 35), (⟨"LeastBoundsModel", "goOn", "(I)V"⟩, 35), (⟨"LeastBoundsModel", "addBoth", "(I)I"⟩, 35), (⟨"LeastBoundsModel", "keep", "(II)V"⟩, 35), (⟨"LeastBoundsModel", "partOf", "(III)I"⟩, 35)]
theorem lw_r4 : ∀ q ∈ lw_privs_4, lw_okq q := List.forall_mem_cons.mpr ⟨lw_p48, List.forall_mem_cons.mpr ⟨lw_p49, List.forall_mem_cons.mpr ⟨lw_p50, List.forall_mem_cons.mpr ⟨lw_p51, List.forall_mem_cons.mpr ⟨lw_p52, List.forall_mem_cons.mpr ⟨lw_p53, fun _ h => absurd h List.not_mem_nil⟩⟩⟩⟩⟩⟩
def lw_privs : List (MethodName × Nat) := lw_privs_1 ++ (lw_privs_2 ++ (lw_privs_3 ++ (lw_privs_4)))
def lw_tbl : List Cond := k2_sels lw_privs ++ tables_1
theorem lw_privs_ok : ∀ q ∈ lw_privs, lw_okq q := by
  show ∀ q ∈ lw_privs_1 ++ (lw_privs_2 ++ (lw_privs_3 ++ (lw_privs_4))), lw_okq q
  exact List.forall_mem_append.mpr ⟨lw_r1, List.forall_mem_append.mpr ⟨lw_r2, List.forall_mem_append.mpr ⟨lw_r3, lw_r4⟩⟩⟩
end
section
/-! ===== BEGIN words of one list among another's, by their places ===== -/
theorem goodIn_r {big : List Cond} (ws : List Cond) (ps : List Nat) (hp : ws = ps.filterMap (fun i => big[i]?)) (h : ws.all goodWord = true) : GoodIn big ws := by
  intro w hw
  have h1 := List.all_eq_true.mp h w hw
  rw [hp] at hw
  obtain ⟨i, -, hi⟩ := List.mem_filterMap.mp hw
  have hm : w ∈ big := by first | exact List.mem_of_getElem? hi | exact List.getElem?_mem hi
  exact ⟨hm, good_of_word h1⟩
theorem goodIn_app {big a b : List Cond} (ha : GoodIn big a) (hb : GoodIn big b) : GoodIn big (a ++ b) := fun w h => (List.mem_append.mp h).elim (ha w) (hb w)
theorem goodIn_ca {big a b : List Cond} {c : Cond} (ha : GoodIn big (c :: a)) (hb : GoodIn big b) : GoodIn big (c :: (a ++ b)) := fun w h => (List.mem_cons.mp h).elim (fun e => ha w (List.mem_cons.mpr (Or.inl e))) (fun h => (List.mem_append.mp h).elim (fun h => ha w (List.mem_cons.mpr (Or.inr h))) (hb w))
theorem goodIn_sub {big ws : List Cond} (hm : ∀ w ∈ ws, w ∈ big) (h : ws.all goodWord = true) : GoodIn big ws := fun w hw => ⟨hm w hw, good_of_word (List.all_eq_true.mp h w hw)⟩
/-! ===== END ===== -/

/-! ===== BEGIN exceptions that leave a method, and their catching by the caller (launches without stack traces) ===== -/
section VXA
/-! The laws vx_back, vx_callV, vx_callS, vx_callSW, vx_throw0, vx_throwS follow proofs of the library, with one case more: JvmDerived/Free/Laws.lean (Back.of_free), Shelf42/LK1.lean (callV, callS), Shelf/KitTraced.lean (throwNew0V, throwNewS). -/
/-- where a method has thrown q: the class by its name, the cell, what was written, the world -/
def vx_T (XC : String → State → State → Prop) (st : State) (q : Addr) (t : State) (mc ms : Nat) (free : Addr → Prop) : Prop :=
  ∃ (E : String) (ce : Cell) (L : List Loc), XC E st t ∧ t.heap[q]? = some ce ∧ ce.vm = .none ∧ st.vm.findClass E = some ce.cls ∧ st.WarmedH t.vm ∧ st.sameButNew ({ t with vm := st.vm } : State) L mc ms ∧ ∀ z ∈ L, free z.base
def vx_Q (Qc : Array Value → State → Outcome → State → Prop) (XC : String → State → State → Prop) (mc ms : Nat) (free : Addr → Prop) : Array Value → State → Outcome → State → Prop := fun a st o t =>
  (Qc a st o t ∧ ∃ L, FrameEnd st o t L mc ms ∧ ∀ q ∈ L, free q.base) ∨ ∃ q, o = .threw q ∧ vx_T XC st q t mc ms free
/-- a callee that returns or throws -/
def vx_Met (l : Launch) (y : MethodName) (ws : List Cond) (rm : Room) (Pc : Array Value → State → Prop) (Qc : Array Value → State → Outcome → State → Prop) (XC : String → State → State → Prop) (mc ms : Nat) (free : Addr → Prop) : Prop :=
  MetFree l y (headSpec ws rm) Pc (fun _ _ _ _ _ => True) (vx_Q Qc XC mc ms free)
def vx_Post (XC : String → State → State → Prop) (mc ms : Nat) (free : Addr → Prop) : Pt → Array Value → Addr → Pt → Prop := fun A a q B =>
  ∃ (g : JFrame) (mk : MethodId) (t : State) (L : List Loc) (E : String) (ce : Cell), B.U.heap = t.heap ∧ B.U.vm = t.vm ∧ XC E (A.U.calling g mk a) t ∧ t.heap[q]? = some ce ∧ ce.vm = .none ∧ A.U.vm.findClass E = some ce.cls ∧ B.locs = A.locs ++ L ∧ (∀ z ∈ L, free z.base) ∧ B.cells = A.cells + mc ∧ B.slots = A.slots + ms
def vx_Back (l : Launch) (R : Room) (p : Program) (e : Env) (below : List Frame) (s : State) (sargs : Array Value) (y : MethodName) (len W9 : Nat)
    (Pre : Pt → Array Value → Prop) (Post : Pt → Array Value → Option Value → Pt → Prop) (PostX : Pt → Array Value → Addr → Pt → Prop) : Prop :=
  ∀ (m : MethodId) (meth : Method) (c : Code) (A : Pt) (g : JFrame) (ig : Instr) (mk : MethodId) (a : Array Value),
    Stand p l e R s m sargs below meth c A.U A.locs A.cells A.slots → g.method = m → g.locals.size = c.maxLocals → decode c.code g.pc = .ok (ig, len) →
    2 * g.monitorRoom + (g.stack.map fun v => v.category).sum ≤ W9 → A.U.methodNamed? y = some mk → Pre A a →
    (∃ (v : Option Value) (B : Pt), Stand p l e R s m sargs below meth c B.U B.locs B.cells B.slots ∧ Post A a v B ∧
      Steps p.tables e below (doInvoke e (A.U.setTop g) [] mk a).1 (B.U.setTop { g with pc := g.pc + len, stack := v.toList ++ g.stack })) ∨
    (∃ (q : Addr) (B : Pt), Stand p l e R s m sargs below meth c B.U B.locs B.cells B.slots ∧ PostX A a q B ∧
      Steps p.tables e below (doInvoke e (A.U.setTop g) [] mk a).1 ((B.U.setTop g).pushFrame (.throwing q)))
section Payer
variable {l : Launch} {R : Room} {p : Program} {e : Env} {below : List Frame} {s : State} {sargs : Array Value} {y : MethodName} {len W9 : Nat}
theorem vx_back {ws : List Cond} {rm : Room} {Pc : Array Value → State → Prop} {Qc : Array Value → State → Outcome → State → Prop} {XC : String → State → State → Prop} {mc ms : Nat} {free : Addr → Prop} {bytes : ByteArray} {maxL : Nat} {ret : Option FieldType}
    (hM : vx_Met l y ws rm Pc Qc XC mc ms free) (hblind : FrameBlind Pc) (hrc : rm.cells = mc) (hrs : rm.slots = ms)
    (hframes : rm.frames + 1 ≤ R.frames) (hlocals : W9 + (maxL + 11) + rm.locals ≤ R.locals)
    (hws : ∀ w ∈ ws, ∀ a' U, s.WarmedH U.vm → w.before a' U = true) (hcode : Cond.code y bytes maxL ret ∈ ws) (hinit : ∀ a' U, s.WarmedH U.vm → (Cond.initialized y.cls).before a' U = true) :
    vx_Back l R p e below s sargs y len W9 (PreOf R mc ms Pc) (PostOf Qc mc ms free) (vx_Post XC mc ms free) := by
  intro m meth c A g ig mk a X hg hsize hdg hW hn hp
  have h1 : (headSpec ws rm).pre.before a A.U = true := atoms_intro fun w hw => hws w hw _ _ X.warmed
  have h2 : (Cond.code y bytes maxL ret).before a A.U = true := hws _ hcode _ _ X.warmed
  have h3 : (Cond.initialized y.cls).before a A.U = true := hinit _ _ X.warmed
  have h4 : A.cells + (headSpec ws rm).room.cells ≤ R.cells := by rw [show (headSpec ws rm).room.cells = mc from hrc]; exact hp.1
  have h5 : A.slots + (headSpec ws rm).room.slots ≤ R.slots := by rw [show (headSpec ws rm).room.slots = ms from hrs]; exact hp.2.1
  have hPc : Pc a (A.U.calling g mk a) := hblind _ _ _ _ hp.2.2
  obtain ⟨U, Ls, c0, s0⟩ := A
  dsimp only [Pt.U, Pt.locs, Pt.cells, Pt.slots] at h1 h2 h3 h4 h5 X hn hPc ⊢
  obtain ⟨methY, cY, hmY, hcY, -, hlY, -, -, -, -⟩ := Cond.code_spec hn h2
  obtain ⟨kY, hkY, -⟩ := className_of_methodNamed hn
  have hinitY : kY.init = .initialized := Cond.initialized_spec (findClass_of_methodNamed hn) hkY h3
  have h : At U g.method c below := by rw [hg]; exact X.here
  have hlocals9 : W9 + (maxL + 11) + (headSpec ws rm).room.locals ≤ R.locals := hlocals
  have happ : (headSpec ws rm).appliesLoose y e.platform (U.calling g mk a) = true :=
    Spec.appliesLoose_calling (g := g) h hdg hn hkY hinitY
      (X.room_calling (g := g) (R' := (headSpec ws rm).room) hsize hmY hcY hframes (by rw [hlY]; omega) h4 h5) h1
  obtain ⟨mid, hmid⟩ := h.above
  have hfr : (U.setTop g).frames = (.java g :: mid) ++ below := by rw [State.frames_setTop' g h.top, hmid]; rfl
  obtain ⟨o, s₂, hsteps, -, hend, hq⟩ := Steps.callFree hM p X.admits X.cas X.clock (acts := []) hfr happ hPc trivial
  have hq' : vx_Q Qc XC mc ms free a (U.calling g mk a) o s₂ := hq
  rw [State.frames_setTop' g h.top] at hend
  obtain ⟨g₀, hg0⟩ := Option.isSome_iff_exists.mp h.top
  obtain ⟨r, hr⟩ := State.topJava?_eq_some.mp hg0
  have hr' : (({ U with heap := s₂.heap, slotsUsed := s₂.slotsUsed } : State).setVm s₂.vm).frames = .java g₀ :: r := hr
  rcases hq' with ⟨hqc, L, hfe, hL⟩ | ⟨q, rfl, E, ce, L, hx, hce, hcv, hcl, hW₂, hsm, hL⟩
  · obtain ⟨⟨v, rfl⟩, hW₂, e2, q2, q3, q4, q5, q6⟩ := id hfe
    have e3 : s₂ = ({ (U.calling g mk a).setFrames s₂.frames with heap := s₂.heap, slotsUsed := s₂.slotsUsed } : State).setVm s₂.vm := by
      have : s₂ = ({ s₂ with vm := (U.calling g mk a).vm } : State).setVm s₂.vm := rfl
      rw [e2] at this
      exact this
    obtain ⟨c₂, i₂, len₂, hc₂, hd₂, hf₂⟩ := hend
    have hW' : U.WarmedH s₂.vm := hW₂
    have hcc : c₂ = c := by
      have h1 : s₂.code? g.method = U.code? g.method := by
        rw [State.code?_eq, State.code?_eq, hW'.alike.method?]
      exact Option.some.inj (hc₂.symm.trans (h1.trans h.code))
    subst hcc
    have hlen : len₂ = len := by rw [hdg] at hd₂; cases hd₂; rfl
    subst hlen
    have hs₂ : s₂ = (({ U with heap := s₂.heap, slotsUsed := s₂.slotsUsed } : State).setVm s₂.vm).setTop { g with pc := g.pc + len₂, stack := v.toList ++ g.stack } := by
      refine e3.trans ?_
      rw [hf₂, State.calling_eq h.top, State.setFrames_setFrames, State.setTop_of_frames _ hr', hr]
      rfl
    have hsame : U.sameButNew ({ U with heap := s₂.heap, slotsUsed := s₂.slotsUsed } : State) L mc ms := by
      refine ⟨?_, q2, q3, q4, q5, q6⟩
      obtain ⟨t, ht, -⟩ := State.frames_cons hr
      show ({ U with heap := s₂.heap, slotsUsed := s₂.slotsUsed } : State) = { U.setFrames U.frames with heap := s₂.heap, slotsUsed := s₂.slotsUsed }
      rw [State.setFrames_self ht]
    subst hg
    refine Or.inl ⟨v, ⟨(({ U with heap := s₂.heap, slotsUsed := s₂.slotsUsed } : State).setVm s₂.vm), Ls ++ L, c0 + mc, s0 + ms⟩,
      ⟨X.admits, X.cas, X.clock, X.frames, X.room, X.hears, X.method, X.code, (X.here.setHeapUsed s₂.heap s₂.slotsUsed).setVm hW'.alike, X.tail, State.WarmedH.trans X.warmed hW', X.limits, X.bytes, X.same.trans (hsame.setVm s.vm)⟩,
      ⟨g, mk, s₂, L, rfl, rfl, hqc, rfl, hL, rfl, rfl⟩, ?_⟩
    show Steps p.tables e below _ ((({ U with heap := s₂.heap, slotsUsed := s₂.slotsUsed } : State).setVm s₂.vm).setTop { g with pc := g.pc + len₂, stack := v.toList ++ g.stack })
    rw [← hs₂]
    exact hsteps
  · obtain ⟨e2, q2, q3, q4, q5, q6⟩ := id hsm
    have e3 : s₂ = ({ (U.calling g mk a).setFrames s₂.frames with heap := s₂.heap, slotsUsed := s₂.slotsUsed } : State).setVm s₂.vm := by
      have : s₂ = ({ s₂ with vm := (U.calling g mk a).vm } : State).setVm s₂.vm := rfl
      rw [e2] at this
      exact this
    have hf₂ : s₂.frames = .throwing q :: .java g :: U.frames.tail := hend
    have hW' : U.WarmedH s₂.vm := hW₂
    have hs₂ : s₂ = ((({ U with heap := s₂.heap, slotsUsed := s₂.slotsUsed } : State).setVm s₂.vm).setTop g).pushFrame (.throwing q) := by
      refine e3.trans ?_
      rw [hf₂, State.calling_eq h.top, State.setFrames_setFrames, State.pushFrame, State.frames_setTop _ hr', State.setTop_of_frames _ hr', State.setFrames_setFrames, hr]
      rfl
    have hsame : U.sameButNew ({ U with heap := s₂.heap, slotsUsed := s₂.slotsUsed } : State) L mc ms := by
      refine ⟨?_, q2, q3, q4, q5, q6⟩
      obtain ⟨t, ht, -⟩ := State.frames_cons hr
      show ({ U with heap := s₂.heap, slotsUsed := s₂.slotsUsed } : State) = { U.setFrames U.frames with heap := s₂.heap, slotsUsed := s₂.slotsUsed }
      rw [State.setFrames_self ht]
    subst hg
    refine Or.inr ⟨q, ⟨(({ U with heap := s₂.heap, slotsUsed := s₂.slotsUsed } : State).setVm s₂.vm), Ls ++ L, c0 + mc, s0 + ms⟩,
      ⟨X.admits, X.cas, X.clock, X.frames, X.room, X.hears, X.method, X.code, (X.here.setHeapUsed s₂.heap s₂.slotsUsed).setVm hW'.alike, X.tail, State.WarmedH.trans X.warmed hW', X.limits, X.bytes, X.same.trans (hsame.setVm s.vm)⟩,
      ⟨g, mk, s₂, L, E, ce, rfl, rfl, hx, hce, hcv, hcl, rfl, hL, rfl, rfl⟩, ?_⟩
    show Steps p.tables e below _ (((({ U with heap := s₂.heap, slotsUsed := s₂.slotsUsed } : State).setVm s₂.vm).setTop g).pushFrame (.throwing q))
    rw [← hs₂]
    exact hsteps
end Payer
section Calls
variable {p : Program} {l : Launch} {e : Env} {R : Room} {s : State} {m : MethodId} {args : Array Value} {below : List Frame} {meth : Method} {c : Code} {T : State} {locs : List Loc} {cells slots : Nat}
theorem vx_callV (X : Stand p l e R s m args below meth c T locs cells slots) (hexec : p.tables.exec = Jvm.exec) {own C : String} {index : Nat} {y : MethodName} {bytes : ByteArray} {maxL : Nat} {ret : Option FieldType}
    (hown : s.vm.findClass own = some m.cls) (hlink : (Cond.methodLink own index y).before args s = true) (hinst : (Cond.instanceMethod y).before args s = true) (hsel : (Cond.selects C y y).before args s = true)
    (hcode : (Cond.code y bytes maxL ret).before args s = true) (hy : y.cls ≠ "java/lang/invoke/MethodHandle" ∧ y.cls ≠ "java/lang/invoke/VarHandle")
    {W9 : Nat} {Pre : Pt → Array Value → Prop} {Post : Pt → Array Value → Option Value → Pt → Prop} {PostX : Pt → Array Value → Addr → Pt → Prop} (hK : vx_Back l R p e below s args y 3 W9 Pre Post PostX)
    {b : Addr} {cellB : Cell} (hcell : T.heap[b]? = some cellB) (hobj : cellB.vm.isStatics = false) (hcls : s.vm.findClass C = some cellB.cls)
    {g : JFrame} (hg : g.method = m) (hsize : g.locals.size = c.maxLocals) {argsL rest : List Value} (hlen : ∀ sig, parseMethodDescriptor y.desc = some sig → argsL.length = sig.parameters.length)
    (hstack : g.stack = argsL.reverse ++ .ref b :: rest) (hW : 2 * g.monitorRoom + (rest.map fun v => v.category).sum ≤ W9) (hdg : decode c.code g.pc = .ok (.invokevirtual index, 3))
    (hpre : ∀ vm₁, s.WarmedH vm₁ → Pre ⟨T.setVm vm₁, locs, cells, slots⟩ (Value.ref b :: argsL).toArray) :
    (∃ (v : Option Value) (vm₁ : Vm) (B : Pt), s.WarmedH vm₁ ∧ Stand p l e R s m args below meth c B.U B.locs B.cells B.slots ∧ Post ⟨T.setVm vm₁, locs, cells, slots⟩ (Value.ref b :: argsL).toArray v B ∧
      ∀ target, Steps p.tables e below (B.U.setTop { g with pc := g.pc + 3, stack := v.toList ++ rest }) target → Steps p.tables e below (T.setTop g) target) ∨
    (∃ (q : Addr) (vm₁ : Vm) (B : Pt), s.WarmedH vm₁ ∧ Stand p l e R s m args below meth c B.U B.locs B.cells B.slots ∧ PostX ⟨T.setVm vm₁, locs, cells, slots⟩ (Value.ref b :: argsL).toArray q B ∧
      Steps p.tables e below (T.setTop g) ((B.U.setTop { g with stack := rest }).pushFrame (.throwing q))) := by
  obtain ⟨mk, methM, hnamed, hmethM, hstM, habM⟩ := Cond.instanceMethod_spec hinst
  obtain ⟨methM', cM, hmethM', -, -, -, -, -, -, hsigM⟩ := Cond.code_spec hnamed hcode
  cases hmethM.symm.trans hmethM'
  obtain ⟨c2, r2, m2, q1, q2, q3, q4, kP, hkP, hkPi⟩ := Cond.selects_spec hsel
  cases hcls.symm.trans q1
  cases (State.methodFound?_of_named hnamed hy).symm.trans q2
  cases hnamed.symm.trans q3
  have hselP : selectMethod e.platform s.vm cellB.cls mk = .method mk := by rw [Launch.admits_selectMethod X.admits]; exact q4
  obtain ⟨vm₁, X₁, hstep₁⟩ := X.invokevirtual hexec hown hlink hnamed hmethM hstM hkP hkPi hy (a := b) (cell := cellB) hcell
    (fun z h => by rw [h] at hobj; cases hobj) hselP hmethM habM hkP hkPi (g := g) hg (argsL := argsL) (rest := rest) (hlen _ hsigM) hstack hdg
  rcases hK m meth c ⟨T.setVm vm₁, locs, cells, slots⟩ { g with stack := rest } (.invokevirtual index) mk (Value.ref b :: argsL).toArray X₁ hg hsize hdg hW (X₁.named hnamed) (hpre vm₁ X₁.warmed) with ⟨v, B, X', hpost, hsteps⟩ | ⟨q, B, X', hpost, hsteps⟩
  · exact Or.inl ⟨v, vm₁, B, X₁.warmed, X', hpost, fun target h => hstep₁ _ fun acts => by rw [doInvoke_state]; exact hsteps.trans h⟩
  · exact Or.inr ⟨q, vm₁, B, X₁.warmed, X', hpost, hstep₁ _ fun acts => by rw [doInvoke_state]; exact hsteps⟩
theorem vx_callS (X : Stand p l e R s m args below meth c T locs cells slots) (hexec : p.tables.exec = Jvm.exec) {own : String} {index : Nat} {y : MethodName} {bytes : ByteArray} {maxL : Nat} {ret : Option FieldType}
    (hown : s.vm.findClass own = some m.cls) (hlink : (Cond.methodLink own index y).before args s = true) (hstat : (Cond.static y).before args s = true) (hinit : (Cond.initialized y.cls).before args s = true)
    (hcode : (Cond.code y bytes maxL ret).before args s = true) (hy : y.cls ≠ "java/lang/invoke/MethodHandle" ∧ y.cls ≠ "java/lang/invoke/VarHandle")
    {W9 : Nat} {Pre : Pt → Array Value → Prop} {Post : Pt → Array Value → Option Value → Pt → Prop} {PostX : Pt → Array Value → Addr → Pt → Prop} (hK : vx_Back l R p e below s args y 3 W9 Pre Post PostX)
    {g : JFrame} (hg : g.method = m) (hsize : g.locals.size = c.maxLocals) {argsL rest : List Value} (hlen : ∀ sig, parseMethodDescriptor y.desc = some sig → argsL.length = sig.parameters.length)
    (hstack : g.stack = argsL.reverse ++ rest) (hW : 2 * g.monitorRoom + (rest.map fun v => v.category).sum ≤ W9) (hdg : decode c.code g.pc = .ok (.invokestatic index, 3))
    (hpre : ∀ vm₁, s.WarmedH vm₁ → Pre ⟨T.setVm vm₁, locs, cells, slots⟩ argsL.toArray) :
    (∃ (v : Option Value) (vm₁ : Vm) (B : Pt), s.WarmedH vm₁ ∧ Stand p l e R s m args below meth c B.U B.locs B.cells B.slots ∧ Post ⟨T.setVm vm₁, locs, cells, slots⟩ argsL.toArray v B ∧
      ∀ target, Steps p.tables e below (B.U.setTop { g with pc := g.pc + 3, stack := v.toList ++ rest }) target → Steps p.tables e below (T.setTop g) target) ∨
    (∃ (q : Addr) (vm₁ : Vm) (B : Pt), s.WarmedH vm₁ ∧ Stand p l e R s m args below meth c B.U B.locs B.cells B.slots ∧ PostX ⟨T.setVm vm₁, locs, cells, slots⟩ argsL.toArray q B ∧
      Steps p.tables e below (T.setTop g) ((B.U.setTop { g with stack := rest }).pushFrame (.throwing q))) := by
  obtain ⟨mk, hnamed⟩ := Cond.code_named hcode
  obtain ⟨methM, cM, hmethM, -, -, -, -, -, -, hsigM⟩ := Cond.code_spec hnamed hcode
  have hstatic : methM.isStatic = true := Cond.static_spec hnamed hmethM hstat
  obtain ⟨kP, hkP, -⟩ := className_of_methodNamed hnamed
  have hinitP : kP.init = .initialized := Cond.initialized_spec (findClass_of_methodNamed hnamed) hkP hinit
  obtain ⟨vm₁, X₁, hstep₁⟩ := X.invokestatic hexec hown hlink hnamed hmethM hstatic hkP hinitP hy (g := g) hg (argsL := argsL) (rest := rest) (hlen _ hsigM) hstack hdg
  rcases hK m meth c ⟨T.setVm vm₁, locs, cells, slots⟩ { g with stack := rest } (.invokestatic index) mk argsL.toArray X₁ hg hsize hdg hW (X₁.named hnamed) (hpre vm₁ X₁.warmed) with ⟨v, B, X', hpost, hsteps⟩ | ⟨q, B, X', hpost, hsteps⟩
  · exact Or.inl ⟨v, vm₁, B, X₁.warmed, X', hpost, fun target h => hstep₁ _ fun acts => by rw [doInvoke_state]; exact hsteps.trans h⟩
  · exact Or.inr ⟨q, vm₁, B, X₁.warmed, X', hpost, hstep₁ _ fun acts => by rw [doInvoke_state]; exact hsteps⟩
end Calls
theorem vx_cls {s : State} {T : State} {vm₁ : Vm} {E : String} {k : ClassId} (hW : s.WarmedH vm₁) (h : (T.setVm vm₁).vm.findClass E = some k) : s.vm.findClass E = some k := by
  have h1 : vm₁.findClass E = some k := h
  rw [hW.alike.findClass] at h1
  exact h1
/-- the method's frame g, with q thrown over it -/
def vx_W (p : Program) (l : Launch) (e : Env) (R : Room) (s : State) (m : MethodId) (args : Array Value) (below : List Frame) (meth : Method) (c : Code) (H : Heap) (locs : List Loc) (cells slots : Nat) (Q : State → Prop) (g : JFrame) (q : Addr) : Prop :=
  ∀ T : State, T.heap = H → Stand p l e R s m args below meth c T locs cells slots → ∃ t, Steps p.tables e below ((T.setTop g).pushFrame (.throwing q)) t ∧ Q t
def vx_Run (p : Program) (l : Launch) (e : Env) (R : Room) (s : State) (m : MethodId) (args : Array Value) (below : List Frame) (meth : Method) (c : Code) (H : Heap) (locs : List Loc) (cells slots mc ms : Nat) (g : JFrame) (rest : List Value) (Qa : State → Outcome → State → Prop) (XC : String → State → State → Prop) (free : Addr → Prop) : Prop :=
  ∀ T : State, T.heap = H → Stand p l e R s m args below meth c T locs cells slots →
    (∃ (v : Option Value) (st₀ t T' : State) (L : List Loc), st₀.heap = H ∧ Stand p l e R s m args below meth c T' (locs ++ L) (cells + mc) (slots + ms) ∧ (∀ q ∈ L, free q.base) ∧ T'.heap = t.heap ∧ T'.vm = t.vm ∧ Qa st₀ (.returned v) t ∧
      Goes p e below T g T' { g with pc := g.pc + 3, stack := v.toList ++ rest }) ∨
    (∃ (q : Addr) (st₀ t T' : State) (L : List Loc) (E : String) (ce : Cell), st₀.heap = H ∧ Stand p l e R s m args below meth c T' (locs ++ L) (cells + mc) (slots + ms) ∧ (∀ z ∈ L, free z.base) ∧ T'.heap = t.heap ∧ T'.vm = t.vm ∧ XC E st₀ t ∧ t.heap[q]? = some ce ∧ ce.vm = .none ∧ s.vm.findClass E = some ce.cls ∧
      Steps p.tables e below (T.setTop g) ((T'.setTop { g with stack := rest }).pushFrame (.throwing q)))
def vx_X {S : Type} (px : S → Prop) (B : String → S → State → Prop) (A : Nat → Prop) : String → State → State → Prop := fun E st t => ∃ u : S, px u ∧ B E u t ∧ va_F A st t
section Runs
variable {p : Program} {l : Launch} {e : Env} {R : Room} {s : State} {m : MethodId} {args : Array Value} {below : List Frame} {meth : Method} {c : Code} {H : Heap} {locs : List Loc} {cells slots : Nat}
variable {y : MethodName} {bytes cc : ByteArray} {maxL nL mc ms n index : Nat} {ret : Option FieldType} {ws : List Cond} {rm : Room} {Pc : Array Value → State → Prop} {Qc : Array Value → State → Outcome → State → Prop} {XC : String → State → State → Prop} {free : Addr → Prop} {Ts : List Cond} {own C : String} {b : Addr} {As rest : List Value} {g : JFrame}
theorem vx_callBack (cb : CallB R s args own index y bytes maxL ret ws rm mc ms n) (hM : vx_Met l y ws rm Pc Qc XC mc ms free) (hbl : FrameBlind Pc) : vx_Back l R p e below s args y 3 8 (PreOf R mc ms Pc) (PostOf Qc mc ms free) (vx_Post XC mc ms free) := by
  obtain ⟨hrc, hrs, hfr, hlo, hws, hcw, -, hini, -⟩ := cb
  exact vx_back (bytes := bytes) (maxL := maxL) (ret := ret) hM hbl hrc hrs hfr hlo hws hcw (fun a' U hW => word_at hW (Or.inl (by first | rfl | simp [Cond.onTables, Cond.keeps, Cond.steady])) hini)
theorem vx_runV (S : CallFix p m c cc nL s args Ts own) (hM : vx_Met l y ws rm Pc Qc XC mc ms free) (cw : CallW R s args own C index y bytes maxL ret ws rm mc ms n) (hp : PreV s H C b Pc As)
    (hg : g.method = m) (hn : As.length = n) (hsize : g.locals.size = nL) (hstack : g.stack = As.reverse ++ .ref b :: rest) (hW : 2 * g.monitorRoom + (rest.map fun v => v.category).sum ≤ 8) (hdg : decode cc g.pc = .ok (.invokevirtual index, 3)) (hf : cells + mc ≤ R.cells ∧ slots + ms ≤ R.slots) :
    vx_Run p l e R s m args below meth c H locs cells slots mc ms g rest (Qc (Value.ref b :: As).toArray) XC free := by
  have hK : vx_Back l R p e below s args y 3 8 (PreOf R mc ms Pc) (PostOf Qc mc ms free) (vx_Post XC mc ms free) := vx_callBack cw.1 hM hp.1
  obtain ⟨⟨-, -, -, -, -, -, hcode, -, hy, hlen, hl⟩, hin, hse⟩ := cw
  obtain ⟨hx, hb, hml, ho, -⟩ := S
  obtain ⟨-, ⟨cellB, hcB, hoB, hclB⟩, hPc⟩ := hp
  intro T hT X
  rcases vx_callV X hx (C := C) (bytes := bytes) (maxL := maxL) (ret := ret) ho hl hin hse hcode hy hK (by rw [hT]; exact hcB) hoB hclB hg (hsize.trans hml.symm) (argsL := As) (rest := rest) (fun sig h => hn.trans (hlen sig h)) hstack hW (by rw [hb]; exact hdg)
    (fun vm₁ hW₁ => ⟨hf.1, hf.2, hPc (T.setVm vm₁) hT hW₁⟩) with ⟨v, vm₁, ⟨U', l2, c2, s2⟩, hW₁, X', ⟨g', mk, t, L, e1, e2, hq, h1, hL, h2, h3⟩, st⟩ | ⟨q, vm₁, ⟨U', l2, c2, s2⟩, hW₁, X', ⟨g', mk, t, L, E, ce, e1, e2, hq, hce, hcv, hcl, h1, hL, h2, h3⟩, st⟩
  · dsimp only [Pt.U, Pt.locs, Pt.cells, Pt.slots] at X' e1 e2 h1 h2 h3 st
    subst h1; subst h2; subst h3
    exact Or.inl ⟨v, (T.setVm vm₁).calling g' mk (Value.ref b :: As).toArray, t, U', L, hT, X', hL, e1, e2, hq, st⟩
  · dsimp only [Pt.U, Pt.locs, Pt.cells, Pt.slots] at X' e1 e2 h1 h2 h3 st hcl
    subst h1; subst h2; subst h3
    exact Or.inr ⟨q, (T.setVm vm₁).calling g' mk (Value.ref b :: As).toArray, t, U', L, E, ce, hT, X', hL, e1, e2, hq, hce, hcv, vx_cls hW₁ hcl, st⟩
theorem vx_runS (S : CallFix p m c cc nL s args Ts own) (hM : vx_Met l y ws rm Pc Qc XC mc ms free) (cw : CallB R s args own index y bytes maxL ret ws rm mc ms n ∧ (Cond.static y).before args s = true) (hp : PreS s H Pc As)
    (hg : g.method = m) (hn : As.length = n) (hsize : g.locals.size = nL) (hstack : g.stack = As.reverse ++ rest) (hW : 2 * g.monitorRoom + (rest.map fun v => v.category).sum ≤ 8) (hdg : decode cc g.pc = .ok (.invokestatic index, 3)) (hf : cells + mc ≤ R.cells ∧ slots + ms ≤ R.slots) :
    vx_Run p l e R s m args below meth c H locs cells slots mc ms g rest (Qc As.toArray) XC free := by
  have hK : vx_Back l R p e below s args y 3 8 (PreOf R mc ms Pc) (PostOf Qc mc ms free) (vx_Post XC mc ms free) := vx_callBack cw.1 hM hp.1
  obtain ⟨⟨-, -, -, -, -, -, hcode, hini, hy, hlen, hl⟩, hstt⟩ := cw
  obtain ⟨hx, hb, hml, ho, -⟩ := S
  intro T hT X
  rcases vx_callS X hx (bytes := bytes) (maxL := maxL) (ret := ret) ho hl hstt hini hcode hy hK hg (hsize.trans hml.symm) (argsL := As) (rest := rest) (fun sig h => hn.trans (hlen sig h)) hstack hW (by rw [hb]; exact hdg)
    (fun vm₁ hW₁ => ⟨hf.1, hf.2, hp.2 (T.setVm vm₁) hT hW₁⟩) with ⟨v, vm₁, ⟨U', l2, c2, s2⟩, hW₁, X', ⟨g', mk, t, L, e1, e2, hq, h1, hL, h2, h3⟩, st⟩ | ⟨q, vm₁, ⟨U', l2, c2, s2⟩, hW₁, X', ⟨g', mk, t, L, E, ce, e1, e2, hq, hce, hcv, hcl, h1, hL, h2, h3⟩, st⟩
  · dsimp only [Pt.U, Pt.locs, Pt.cells, Pt.slots] at X' e1 e2 h1 h2 h3 st
    subst h1; subst h2; subst h3
    exact Or.inl ⟨v, (T.setVm vm₁).calling g' mk As.toArray, t, U', L, hT, X', hL, e1, e2, hq, st⟩
  · dsimp only [Pt.U, Pt.locs, Pt.cells, Pt.slots] at X' e1 e2 h1 h2 h3 st hcl
    subst h1; subst h2; subst h3
    exact Or.inr ⟨q, (T.setVm vm₁).calling g' mk As.toArray, t, U', L, E, ce, hT, X', hL, e1, e2, hq, hce, hcv, vx_cls hW₁ hcl, st⟩
end Runs
section Rows
variable {p : Program} {l : Launch} {e : Env} {R : Room} {s : State} {m : MethodId} {args : Array Value} {below : List Frame} {meth : Method} {c : Code} {H : Heap} {locs : List Loc} {cells slots : Nat} {Q : State → Prop}
variable {mc ms : Nat} {free : Addr → Prop} {A0 A1 : Nat → Prop} {H0 : Heap} {a : Array Value} {pc : Nat} {ls : Array Slot} {st0 rest : List Value}
theorem vx_keep {st₀ t T' : State} {L : List Loc} (h0 : st₀.heap = H) (e1 : T'.heap = t.heap) (hS : va_S A0 H0 H locs) (hA : ∀ q, q < H.size → A1 q → A0 q) (hf : ∀ q, free q → A0 q) (hL : ∀ q ∈ L, free q.base) (hF : va_F A1 st₀ t) :
    H.size ≤ T'.heap.size ∧ (∀ q : Nat, q < H.size → ¬ A1 q → T'.heap[q]? = H[q]?) ∧ va_S A0 H0 T'.heap (locs ++ L) := by
  obtain ⟨hz, hk⟩ := hF
  rw [h0] at hz hk
  exact ⟨by rw [e1]; exact hz, fun q h1 h2 => by rw [e1]; exact hk q h1 h2,
    ⟨Nat.le_trans hS.1 (by rw [e1]; exact hz), fun q h1 h2 => by rw [e1, hk q (Nat.lt_of_lt_of_le h1 hS.1) (fun z => h2 (hA q (Nat.lt_of_lt_of_le h1 hS.1) z))]; exact hS.2.1 q h1 h2, fun q hq => by
      rcases List.mem_append.mp hq with h | h
      · exact hS.2.2 q h
      · exact hf _ (hL q h)⟩⟩
theorem vx_calli {S SX : Type} {post : Int32 → S → Prop} {px : SX → Prop} {B : S → State → Prop} {BX : String → SX → State → Prop} {AX : Nat → Prop} (hr : vx_Run p l e R s m args below meth c H locs cells slots mc ms (F0 m pc ls st0) rest (va_Qi post B A1 a) (vx_X px BX AX) free) (hS : va_S A0 H0 H locs) (hA : ∀ q, q < H.size → A1 q → A0 q) (hf : ∀ q, free q → A0 q) (hAX : ∀ q, q < H.size → AX q → A0 q)
    (kx : ∀ (E : String) (ce : Cell) (q9 : Addr) (u : SX) (t : State) (H1 : Heap) (locs1 : List Loc), t.heap = H1 → s.vm.Alike t.vm → px u → BX E u t → H.size ≤ H1.size → (∀ q : Nat, q < H.size → ¬ AX q → H1[q]? = H[q]?) → va_S A0 H0 H1 locs1 → H1[q9]? = some ce → ce.vm = .none → s.vm.findClass E = some ce.cls → vx_W p l e R s m args below meth c H1 locs1 (cells + mc) (slots + ms) Q (F0 m pc ls rest) q9)
    (kk : ∀ (r : Int32) (u : S) (t : State) (H1 : Heap) (locs1 : List Loc), t.heap = H1 → s.vm.Alike t.vm → post r u → B u t → H.size ≤ H1.size → (∀ q : Nat, q < H.size → ¬ A1 q → H1[q]? = H[q]?) → va_S A0 H0 H1 locs1 → W p l e R s m args below meth c H1 locs1 (cells + mc) (slots + ms) Q (F0 m (pc + 3) ls (.int r :: rest))) : W p l e R s m args below meth c H locs cells slots Q (F0 m pc ls st0) := by
  intro T hT X
  rcases hr T hT X with ⟨v, st₀, t, T', L, h0, X', hL, e1, e2, ⟨⟨r, u, hv, hp, hb⟩, hF⟩, st⟩ | ⟨q, st₀, t, T', L, E, ce, h0, X', hL, e1, e2, ⟨u, hp, hb, hF⟩, hce, hcv, hcl, st⟩
  · cases hv
    obtain ⟨k1, k2, k3⟩ := vx_keep h0 e1 hS hA hf hL hF
    obtain ⟨t2, a1, b1⟩ := kk r u t T'.heap (locs ++ L) e1.symm (by rw [← e2]; exact X'.warmed.alike) hp hb k1 k2 k3 T' rfl X'
    exact ⟨t2, st t2 a1, b1⟩
  · obtain ⟨k1, k2, k3⟩ := vx_keep h0 e1 hS hAX hf hL hF
    obtain ⟨t2, a1, b1⟩ := kx E ce q u t T'.heap (locs ++ L) e1.symm (by rw [← e2]; exact X'.warmed.alike) hp hb k1 k2 k3 (by rw [e1]; exact hce) hcv hcl T' rfl X'
    exact ⟨t2, st.trans a1, b1⟩
theorem vx_calll {S SX : Type} {post : Int64 → S → Prop} {px : SX → Prop} {B : S → State → Prop} {BX : String → SX → State → Prop} {AX : Nat → Prop} (hr : vx_Run p l e R s m args below meth c H locs cells slots mc ms (F0 m pc ls st0) rest (va_Ql post B A1 a) (vx_X px BX AX) free) (hS : va_S A0 H0 H locs) (hA : ∀ q, q < H.size → A1 q → A0 q) (hf : ∀ q, free q → A0 q) (hAX : ∀ q, q < H.size → AX q → A0 q)
    (kx : ∀ (E : String) (ce : Cell) (q9 : Addr) (u : SX) (t : State) (H1 : Heap) (locs1 : List Loc), t.heap = H1 → s.vm.Alike t.vm → px u → BX E u t → H.size ≤ H1.size → (∀ q : Nat, q < H.size → ¬ AX q → H1[q]? = H[q]?) → va_S A0 H0 H1 locs1 → H1[q9]? = some ce → ce.vm = .none → s.vm.findClass E = some ce.cls → vx_W p l e R s m args below meth c H1 locs1 (cells + mc) (slots + ms) Q (F0 m pc ls rest) q9)
    (kk : ∀ (r : Int64) (u : S) (t : State) (H1 : Heap) (locs1 : List Loc), t.heap = H1 → s.vm.Alike t.vm → post r u → B u t → H.size ≤ H1.size → (∀ q : Nat, q < H.size → ¬ A1 q → H1[q]? = H[q]?) → va_S A0 H0 H1 locs1 → W p l e R s m args below meth c H1 locs1 (cells + mc) (slots + ms) Q (F0 m (pc + 3) ls (.long r :: rest))) : W p l e R s m args below meth c H locs cells slots Q (F0 m pc ls st0) := by
  intro T hT X
  rcases hr T hT X with ⟨v, st₀, t, T', L, h0, X', hL, e1, e2, ⟨⟨r, u, hv, hp, hb⟩, hF⟩, st⟩ | ⟨q, st₀, t, T', L, E, ce, h0, X', hL, e1, e2, ⟨u, hp, hb, hF⟩, hce, hcv, hcl, st⟩
  · cases hv
    obtain ⟨k1, k2, k3⟩ := vx_keep h0 e1 hS hA hf hL hF
    obtain ⟨t2, a1, b1⟩ := kk r u t T'.heap (locs ++ L) e1.symm (by rw [← e2]; exact X'.warmed.alike) hp hb k1 k2 k3 T' rfl X'
    exact ⟨t2, st t2 a1, b1⟩
  · obtain ⟨k1, k2, k3⟩ := vx_keep h0 e1 hS hAX hf hL hF
    obtain ⟨t2, a1, b1⟩ := kx E ce q u t T'.heap (locs ++ L) e1.symm (by rw [← e2]; exact X'.warmed.alike) hp hb k1 k2 k3 (by rw [e1]; exact hce) hcv hcl T' rfl X'
    exact ⟨t2, st.trans a1, b1⟩
theorem vx_callf {S SX : Type} {post : UInt32 → S → Prop} {px : SX → Prop} {B : S → State → Prop} {BX : String → SX → State → Prop} {AX : Nat → Prop} (hr : vx_Run p l e R s m args below meth c H locs cells slots mc ms (F0 m pc ls st0) rest (va_Qf post B A1 a) (vx_X px BX AX) free) (hS : va_S A0 H0 H locs) (hA : ∀ q, q < H.size → A1 q → A0 q) (hf : ∀ q, free q → A0 q) (hAX : ∀ q, q < H.size → AX q → A0 q)
    (kx : ∀ (E : String) (ce : Cell) (q9 : Addr) (u : SX) (t : State) (H1 : Heap) (locs1 : List Loc), t.heap = H1 → s.vm.Alike t.vm → px u → BX E u t → H.size ≤ H1.size → (∀ q : Nat, q < H.size → ¬ AX q → H1[q]? = H[q]?) → va_S A0 H0 H1 locs1 → H1[q9]? = some ce → ce.vm = .none → s.vm.findClass E = some ce.cls → vx_W p l e R s m args below meth c H1 locs1 (cells + mc) (slots + ms) Q (F0 m pc ls rest) q9)
    (kk : ∀ (r : UInt32) (u : S) (t : State) (H1 : Heap) (locs1 : List Loc), t.heap = H1 → s.vm.Alike t.vm → post r u → B u t → H.size ≤ H1.size → (∀ q : Nat, q < H.size → ¬ A1 q → H1[q]? = H[q]?) → va_S A0 H0 H1 locs1 → W p l e R s m args below meth c H1 locs1 (cells + mc) (slots + ms) Q (F0 m (pc + 3) ls (.float r :: rest))) : W p l e R s m args below meth c H locs cells slots Q (F0 m pc ls st0) := by
  intro T hT X
  rcases hr T hT X with ⟨v, st₀, t, T', L, h0, X', hL, e1, e2, ⟨⟨r, u, hv, hp, hb⟩, hF⟩, st⟩ | ⟨q, st₀, t, T', L, E, ce, h0, X', hL, e1, e2, ⟨u, hp, hb, hF⟩, hce, hcv, hcl, st⟩
  · cases hv
    obtain ⟨k1, k2, k3⟩ := vx_keep h0 e1 hS hA hf hL hF
    obtain ⟨t2, a1, b1⟩ := kk r u t T'.heap (locs ++ L) e1.symm (by rw [← e2]; exact X'.warmed.alike) hp hb k1 k2 k3 T' rfl X'
    exact ⟨t2, st t2 a1, b1⟩
  · obtain ⟨k1, k2, k3⟩ := vx_keep h0 e1 hS hAX hf hL hF
    obtain ⟨t2, a1, b1⟩ := kx E ce q u t T'.heap (locs ++ L) e1.symm (by rw [← e2]; exact X'.warmed.alike) hp hb k1 k2 k3 (by rw [e1]; exact hce) hcv hcl T' rfl X'
    exact ⟨t2, st.trans a1, b1⟩
theorem vx_calld {S SX : Type} {post : UInt64 → S → Prop} {px : SX → Prop} {B : S → State → Prop} {BX : String → SX → State → Prop} {AX : Nat → Prop} (hr : vx_Run p l e R s m args below meth c H locs cells slots mc ms (F0 m pc ls st0) rest (va_Qd post B A1 a) (vx_X px BX AX) free) (hS : va_S A0 H0 H locs) (hA : ∀ q, q < H.size → A1 q → A0 q) (hf : ∀ q, free q → A0 q) (hAX : ∀ q, q < H.size → AX q → A0 q)
    (kx : ∀ (E : String) (ce : Cell) (q9 : Addr) (u : SX) (t : State) (H1 : Heap) (locs1 : List Loc), t.heap = H1 → s.vm.Alike t.vm → px u → BX E u t → H.size ≤ H1.size → (∀ q : Nat, q < H.size → ¬ AX q → H1[q]? = H[q]?) → va_S A0 H0 H1 locs1 → H1[q9]? = some ce → ce.vm = .none → s.vm.findClass E = some ce.cls → vx_W p l e R s m args below meth c H1 locs1 (cells + mc) (slots + ms) Q (F0 m pc ls rest) q9)
    (kk : ∀ (r : UInt64) (u : S) (t : State) (H1 : Heap) (locs1 : List Loc), t.heap = H1 → s.vm.Alike t.vm → post r u → B u t → H.size ≤ H1.size → (∀ q : Nat, q < H.size → ¬ A1 q → H1[q]? = H[q]?) → va_S A0 H0 H1 locs1 → W p l e R s m args below meth c H1 locs1 (cells + mc) (slots + ms) Q (F0 m (pc + 3) ls (.double r :: rest))) : W p l e R s m args below meth c H locs cells slots Q (F0 m pc ls st0) := by
  intro T hT X
  rcases hr T hT X with ⟨v, st₀, t, T', L, h0, X', hL, e1, e2, ⟨⟨r, u, hv, hp, hb⟩, hF⟩, st⟩ | ⟨q, st₀, t, T', L, E, ce, h0, X', hL, e1, e2, ⟨u, hp, hb, hF⟩, hce, hcv, hcl, st⟩
  · cases hv
    obtain ⟨k1, k2, k3⟩ := vx_keep h0 e1 hS hA hf hL hF
    obtain ⟨t2, a1, b1⟩ := kk r u t T'.heap (locs ++ L) e1.symm (by rw [← e2]; exact X'.warmed.alike) hp hb k1 k2 k3 T' rfl X'
    exact ⟨t2, st t2 a1, b1⟩
  · obtain ⟨k1, k2, k3⟩ := vx_keep h0 e1 hS hAX hf hL hF
    obtain ⟨t2, a1, b1⟩ := kx E ce q u t T'.heap (locs ++ L) e1.symm (by rw [← e2]; exact X'.warmed.alike) hp hb k1 k2 k3 (by rw [e1]; exact hce) hcv hcl T' rfl X'
    exact ⟨t2, st.trans a1, b1⟩
theorem vx_callv {S SX : Type} {post : S → Prop} {px : SX → Prop} {B : S → State → Prop} {BX : String → SX → State → Prop} {AX : Nat → Prop} (hr : vx_Run p l e R s m args below meth c H locs cells slots mc ms (F0 m pc ls st0) rest (va_Qv post B A1 a) (vx_X px BX AX) free) (hS : va_S A0 H0 H locs) (hA : ∀ q, q < H.size → A1 q → A0 q) (hf : ∀ q, free q → A0 q) (hAX : ∀ q, q < H.size → AX q → A0 q)
    (kx : ∀ (E : String) (ce : Cell) (q9 : Addr) (u : SX) (t : State) (H1 : Heap) (locs1 : List Loc), t.heap = H1 → s.vm.Alike t.vm → px u → BX E u t → H.size ≤ H1.size → (∀ q : Nat, q < H.size → ¬ AX q → H1[q]? = H[q]?) → va_S A0 H0 H1 locs1 → H1[q9]? = some ce → ce.vm = .none → s.vm.findClass E = some ce.cls → vx_W p l e R s m args below meth c H1 locs1 (cells + mc) (slots + ms) Q (F0 m pc ls rest) q9)
    (kk : ∀ (u : S) (t : State) (H1 : Heap) (locs1 : List Loc), t.heap = H1 → s.vm.Alike t.vm → post u → B u t → H.size ≤ H1.size → (∀ q : Nat, q < H.size → ¬ A1 q → H1[q]? = H[q]?) → va_S A0 H0 H1 locs1 → W p l e R s m args below meth c H1 locs1 (cells + mc) (slots + ms) Q (F0 m (pc + 3) ls (rest))) : W p l e R s m args below meth c H locs cells slots Q (F0 m pc ls st0) := by
  intro T hT X
  rcases hr T hT X with ⟨v, st₀, t, T', L, h0, X', hL, e1, e2, ⟨⟨u, hv, hp, hb⟩, hF⟩, st⟩ | ⟨q, st₀, t, T', L, E, ce, h0, X', hL, e1, e2, ⟨u, hp, hb, hF⟩, hce, hcv, hcl, st⟩
  · cases hv
    obtain ⟨k1, k2, k3⟩ := vx_keep h0 e1 hS hA hf hL hF
    obtain ⟨t2, a1, b1⟩ := kk u t T'.heap (locs ++ L) e1.symm (by rw [← e2]; exact X'.warmed.alike) hp hb k1 k2 k3 T' rfl X'
    exact ⟨t2, st t2 a1, b1⟩
  · obtain ⟨k1, k2, k3⟩ := vx_keep h0 e1 hS hAX hf hL hF
    obtain ⟨t2, a1, b1⟩ := kx E ce q u t T'.heap (locs ++ L) e1.symm (by rw [← e2]; exact X'.warmed.alike) hp hb k1 k2 k3 (by rw [e1]; exact hce) hcv hcl T' rfl X'
    exact ⟨t2, st.trans a1, b1⟩
/-- caught by the row x of this method's table; the rows ahead don't take it -/
theorem vx_catch {own name : String} {E : String} {ce : Cell} {q : Addr} (hown : s.vm.findClass own = some m.cls) (pre : List ExceptionTableEntry) (x : ExceptionTableEntry) (suf : List ExceptionTableEntry) (hsplit : c.exceptionTable.toList = pre ++ x :: suf)
    (hpass : ∀ z ∈ pre, covers z pc = false ∨ (z.catchType ≠ 0 ∧ ∃ nm : String, (Cond.classLink own z.catchType nm).before args s = true ∧ va_Nc E nm s)) (hx : covers x pc = true) (h0 : x.catchType ≠ 0)
    (hlink : (Cond.classLink own x.catchType name).before args s = true) (hcast : (Cond.castable E name).before args s = true) (hcell : H[q]? = some ce) (hv : ce.vm = .none) (hcl : s.vm.findClass E = some ce.cls)
    (kk : W p l e R s m args below meth c H locs cells slots Q (F0 m x.handlerPc ls [.ref q])) : vx_W p l e R s m args below meth c H locs cells slots Q (F0 m pc ls rest) q := by
  intro T hT X
  have hpl : e.platform.magicAccessors = ({} : Platform).magicAccessors := by rw [X.admits.platform]
  obtain ⟨c3, c4, hc3, hc4, hasg⟩ := Cond.castable_spec hcast
  cases Option.some.inj (hc3.symm.trans hcl)
  obtain ⟨c5, hc5, hcl5⟩ := Cond.classLink_spec hown hlink e.platform hpl
  cases Option.some.inj (hc4.symm.trans hc5)
  obtain ⟨vm', X', st⟩ := X.thenCaughtThrough q (g := F0 m pc ls rest) rfl (Steps.refl _) (by rw [hT]; exact hcell) (by rw [hv]; rfl) (by obtain ⟨k9, h9, -⟩ := Vm.findClass_spec hcl; exact ⟨k9, h9⟩) pre x suf hsplit
    (fun z hz => by
      rcases hpass z hz with h | ⟨hz0, nm, hl1, hn1⟩
      · exact Or.inl h
      · obtain ⟨c6, hc6, hcl6⟩ := Cond.classLink_spec hown hl1 e.platform hpl
        obtain ⟨a8, b8, h1, h2, h3⟩ := hn1
        cases Option.some.inj (h1.symm.trans hcl)
        cases Option.some.inj (h2.symm.trans hc6)
        exact Or.inr ⟨hz0, _, hcl6, h3⟩) hx (Or.inr ⟨h0, c4, hcl5, hasg⟩)
  obtain ⟨t, a1, b1⟩ := kk (T.setVm vm') hT X'
  exact ⟨t, st.trans a1, b1⟩
end Rows
section Ends
variable {p : Program} {l : Launch} {e : Env} {R : Room} {s : State} {m : MethodId} {args : Array Value} {below : List Frame} {meth : Method} {c : Code} {H : Heap} {locs : List Loc} {cells slots : Nat} {Q : State → Prop}
variable {mc ms : Nat} {free : Addr → Prop} {A0 A1 : Nat → Prop} {H0 : Heap} {a : Array Value} {ls : Array Slot} {st0 rest : List Value}
variable {Qc : Array Value → State → Outcome → State → Prop} {XC : String → State → State → Prop}
/-- what a body that may throw owes at its end -/
def vx_MQ (below : List Frame) (Qc : Array Value → State → Outcome → State → Prop) (XC : String → State → State → Prop) (a : Array Value) (s : State) (mc ms : Nat) (free : Addr → Prop) : State → Prop := fun t =>
  ∃ o, t.status = .running ∧ Ended t below o ∧ vx_Q Qc XC mc ms free a s o t
theorem vx_ret {g : JFrame} {mc ms : Nat} (k : W p l e R s m args below meth c H locs cells slots (MQ below Qc args s mc ms free) g) : W p l e R s m args below meth c H locs cells slots (vx_MQ below Qc XC args s mc ms free) g := by
  intro T hT X
  obtain ⟨t, a1, o, b1, b2, b3, b4⟩ := k T hT X
  exact ⟨t, a1, o, b1, b2, Or.inl ⟨b3, b4⟩⟩
/-- not caught here: it goes on to the caller -/
theorem vx_widen {g : JFrame} {q : Addr} {k n : Nat} (h1 : cells ≤ k) (h2 : slots ≤ n) (kk : vx_W p l e R s m args below meth c H locs k n Q g q) : vx_W p l e R s m args below meth c H locs cells slots Q g q := fun T hT X => kk T hT (stand_widen X h1 h2)
theorem vx_out {pc : Nat} {E : String} {ce : Cell} {q : Addr} {mc ms : Nat} (hout : ∀ x ∈ c.exceptionTable.toList, covers x pc = false) (hlocks : meth.locks = false) (hcell : H[q]? = some ce) (hv : ce.vm = .none) (hcl : s.vm.findClass E = some ce.cls)
    (hx : ∀ t : State, t.heap = H → s.vm.Alike t.vm → XC E s t) (hf : ∀ z ∈ locs, free z.base) (hc : cells ≤ mc) (hs : slots ≤ ms) :
    vx_W p l e R s m args below meth c H locs cells slots (vx_MQ below Qc XC args s mc ms free) (F0 m pc ls rest) q := by
  intro T hT X
  obtain ⟨st1, hrun, hend, hW, hsm⟩ := X.leaveThrown q (g := F0 m pc ls rest) rfl rfl rfl hout hlocks
  have hcell9 : (T.setFrames (.throwing q :: below)).heap[q]? = some ce := by
    show T.heap[q]? = some ce
    rw [hT]; exact hcell
  exact ⟨_, st1, .threw q, hrun, hend, Or.inr ⟨q, rfl, E, ce, locs, hx _ hT hW.alike, hcell9, hv, hcl, hW, hsm.mono hc hs, hf⟩⟩
theorem vx_frame {U : State} {k n : Nat} (h : s.sameButNew ({ U with vm := s.vm } : State) locs k n) : s.heap.size ≤ U.heap.size ∧ ∀ q : Nat, q < s.heap.size → (∀ z ∈ locs, z.base ≠ q) → U.heap[q]? = s.heap[q]? := by
  obtain ⟨-, h2, -, -, -, h6⟩ := h
  refine ⟨h2, fun q hq hz => ?_⟩
  obtain ⟨c9, e1, e2, e3, e4⟩ := h6 q _ (Array.getElem?_eq_getElem hq)
  have hs : c9.slots = (s.heap[q]).slots := Array.ext_getElem? fun i => e4 i fun hm => hz _ hm rfl
  have h9 : c9 = s.heap[q] := by
    rw [hs] at e2
    exact e2
  have e5 : U.heap[q]? = some c9 := e1
  rw [e5, h9, Array.getElem?_eq_getElem hq]
/-- the words of a throw but the four that speak of the heap -/
def vx_no (w : Cond) : Bool := decide (w ≠ .isRef (.static Bundle.tN "UNASSIGNED_STACK" Bundle.steD)) && decide (w ≠ .isRef (.static Bundle.tN "SUPPRESSED_SENTINEL" Bundle.listD)) && decide (w ≠ .laysStatic Bundle.tN "UNASSIGNED_STACK" Bundle.steD) && decide (w ≠ .laysStatic Bundle.tN "SUPPRESSED_SENTINEL" Bundle.listD)
def vx_at0 (own : String) (ic : Nat) (X : String) (names : List String) : List Cond := (Bundle.ownAtoms0 own ic X names).filter vx_no
def vx_atS (own : String) (ic : Nat) (X : String) (names : List String) : List Cond := (Bundle.ownAtoms own ic X names).filter vx_no
/-- a word that the tables alone decide, or a good one -/
def vx_ot (w : Cond) : Bool := w.onTables || goodWord w
theorem vx_ot_at {args a' : Array Value} {s U : State} {w : Cond} (hW : s.WarmedH U.vm) (hvm : s.vm = U.vm) (hg : vx_ot w = true) (h : w.before args s = true) : w.before a' U = true := by
  simp only [vx_ot, Bool.or_eq_true] at hg
  rcases hg with hg | hg
  · exact va_tabs hg hvm h
  · exact word_at hW (good_of_word hg) h
/-- a list's words: the good ones out of the method's own list, the others by premises of their own -/
theorem vx_hat {args : Array Value} {s : State} {L B : List Cond} (h1 : ∀ w ∈ L.filter goodWord, w.before args s = true) (h2 : ∀ w ∈ L.filter (fun w => !goodWord w), w ∈ B) (h3 : ∀ w ∈ B, w.before args s = true) : ∀ w ∈ L, w.before args s = true := by
  intro w hw
  by_cases g : goodWord w = true
  · exact h1 w (List.mem_filter.mpr ⟨hw, g⟩)
  · refine h3 w (h2 w (List.mem_filter.mpr ⟨hw, ?_⟩))
    show (!goodWord w) = true
    cases hgw : goodWord w
    · rfl
    · exact absurd hgw g
theorem vx_c {args : Array Value} {s : State} {w : Cond} {B : List Cond} (h : w.before args s = true) (t : ∀ w ∈ B, w.before args s = true) : ∀ w' ∈ w :: B, w'.before args s = true := fun w' h' => (List.mem_cons.mp h').elim (fun e => by rw [e]; exact h) (t w')
theorem vx_n {args : Array Value} {s : State} : ∀ w ∈ ([] : List Cond), w.before args s = true := fun _ h => nomatch h
theorem vx_own {args : Array Value} {s : State} {L : List Cond} (h1 : ∀ w ∈ L.filter vx_no, w.before args s = true)
    (hU : (Cond.isRef (.static Bundle.tN "UNASSIGNED_STACK" Bundle.steD)).before args s = true) (hN : (Cond.isRef (.static Bundle.tN "SUPPRESSED_SENTINEL" Bundle.listD)).before args s = true)
    (lU : (Cond.laysStatic Bundle.tN "UNASSIGNED_STACK" Bundle.steD).before args s = true) (lN : (Cond.laysStatic Bundle.tN "SUPPRESSED_SENTINEL" Bundle.listD).before args s = true) : ∀ w ∈ L, w.before args s = true := by
  intro w hw
  by_cases e1 : w = .isRef (.static Bundle.tN "UNASSIGNED_STACK" Bundle.steD)
  · rw [e1]; exact hU
  · by_cases e2 : w = .isRef (.static Bundle.tN "SUPPRESSED_SENTINEL" Bundle.listD)
    · rw [e2]; exact hN
    · by_cases e3 : w = .laysStatic Bundle.tN "UNASSIGNED_STACK" Bundle.steD
      · rw [e3]; exact lU
      · by_cases e4 : w = .laysStatic Bundle.tN "SUPPRESSED_SENTINEL" Bundle.listD
        · rw [e4]; exact lN
        · exact h1 w (List.mem_filter.mpr ⟨hw, by unfold vx_no; rw [decide_eq_true e1, decide_eq_true e2, decide_eq_true e3, decide_eq_true e4]; rfl⟩)
/-- where a static field lies, its class's statics cell in H -/
def vx_L (C n d : String) (A : Nat → Prop) (U : State) (H : Heap) : Prop := ∃ (c : ClassId) (k : Class) (i : Nat) (f : Field) (a : Nat) (cell : Cell), U.vm.findClass C = some c ∧ U.fieldFound? C n d = some (c, k, i, f) ∧ f.isStatic = true ∧ k.statics = some a ∧ H[a]? = some cell ∧ cell.vm.isStatics = true ∧ cell.cls = c ∧ f.slot < cell.slots.size ∧ k.staticTypes[f.slot]? = some f.type ∧ ¬ A a
theorem vx_L.moved {C n d : String} {A : Nat → Prop} {u U : State} {H : Heap} (hvm : u.vm.Alike U.vm) (h : vx_L C n d A u H) : vx_L C n d A U H := by
  obtain ⟨c, k, i, f, a, cell, h1, h2, h3, h4, h5, h6, h7, h8, h9, h10⟩ := h
  obtain ⟨k', hi', he⟩ := State.fieldFound?_setVm hvm h2
  exact ⟨c, k', i, f, a, cell, by rw [hvm.findClass]; exact h1, hi', h3, by rw [he]; exact h4, h5, h6, h7, h8, by rw [he]; exact h9, h10⟩
theorem vx_L.kept {C n d : String} {A : Nat → Prop} {U : State} {H H1 : Heap} (h : vx_L C n d A U H) (hq : ∀ a : Nat, a < H.size → ¬ A a → H1[a]? = H[a]?) : vx_L C n d A U H1 := by
  obtain ⟨c, k, i, f, a, cell, h1, h2, h3, h4, h5, h6, h7, h8, h9, h10⟩ := h
  exact ⟨c, k, i, f, a, cell, h1, h2, h3, h4, by rw [hq a (Array.getElem?_eq_some_iff.mp h5).1 h10]; exact h5, h6, h7, h8, h9, h10⟩
theorem vx_L.narrow {C n d : String} {A B : Nat → Prop} {U : State} {H : Heap} (h : vx_L C n d A U H) (hAB : ∀ q, B q → A q) : vx_L C n d B U H := by
  obtain ⟨c, k, i, f, a, cell, h1, h2, h3, h4, h5, h6, h7, h8, h9, h10⟩ := h
  exact ⟨c, k, i, f, a, cell, h1, h2, h3, h4, h5, h6, h7, h8, h9, fun z => h10 (hAB _ z)⟩
theorem vx_L.word {C n d : String} {A : Nat → Prop} {s : State} {args : Array Value} (h : vx_L C n d A s s.heap) : (Cond.laysStatic C n d).before args s = true := by
  obtain ⟨c, k, i, f, a, cell, h1, h2, h3, h4, h5, h6, h7, h8, h9, -⟩ := h
  show (Cond.laysStatic C n d).holds args s none s [] = true
  exact Cond.laysStatic_of h1 h2 h3 h4 h5 h6 h7 h8 h9
/-- .. and what it holds: null or some reference -/
def vx_Zq (C n d : String) (A : Nat → Prop) (U : State) (H : Heap) : Prop := va_Zq C n d A U H ∧ vx_L C n d A U H
theorem vx_Zq.moved {C n d : String} {A : Nat → Prop} {u U : State} {H : Heap} (hvm : u.vm.Alike U.vm) (h : vx_Zq C n d A u H) : vx_Zq C n d A U H := ⟨va_Zq.moved hvm h.1, vx_L.moved hvm h.2⟩
theorem vx_Zq.kept {C n d : String} {A : Nat → Prop} {U : State} {H H1 : Heap} (h : vx_Zq C n d A U H) (hq : ∀ a : Nat, a < H.size → ¬ A a → H1[a]? = H[a]?) : vx_Zq C n d A U H1 := ⟨va_Zq.kept h.1 hq, vx_L.kept h.2 hq⟩
theorem vx_Zq.narrow {C n d : String} {A B : Nat → Prop} {U : State} {H : Heap} (h : vx_Zq C n d A U H) (hAB : ∀ q, B q → A q) : vx_Zq C n d B U H := ⟨va_Zq.narrow h.1 hAB, vx_L.narrow h.2 hAB⟩
theorem vx_Zqof {args : Array Value} {s : State} {C n d : String} {A : Nat → Prop} (hl : (Cond.laysStatic C n d).before args s = true) (hini : (Cond.initialized C).before args s = true) (h : (Cond.isRef (.static C n d)).before args s = true) (hA : ∀ a : Nat, a < s.heap.size → ¬ A a) : vx_Zq C n d A s s.heap := by
  refine ⟨va_Zqof hl hini h hA, ?_⟩
  obtain ⟨c, k, i, f, a, cell, h1, h2, h3, h4, h5, h6, h7, h8, h9⟩ := Cond.laysStatic_spec hl
  exact ⟨c, k, i, f, a, cell, h1, h2, h3, h4, h5, h6, h7, h8, h9, hA a (Array.getElem?_eq_some_iff.mp h5).1⟩
theorem vx_isRef {C n d : String} {v : Value} {A : Nat → Prop} {s : State} {args : Array Value} (h : va_Z C n d v A s s.heap) (hv : v.isRef = true) : (Cond.isRef (.static C n d)).before args s = true := by
  obtain ⟨cf, kf, fi, f, a, cell, h1, h2, h3, h4, h5, h6, h7, -⟩ := h
  have he : (Term.static C n d).eval args s none [] s = some v := by
    simp [Term.eval, State.fieldNamed?, h1, h2, h4, h5, h6, h7]
  simp only [Cond.before, Cond.holds, Cond.value, he]
  cases v <;> simp_all [Value.isRef]
theorem vx_isRefq {C n d : String} {A : Nat → Prop} {s : State} {args : Array Value} (h : va_Zq C n d A s s.heap) : (Cond.isRef (.static C n d)).before args s = true := by
  rcases h with h | ⟨t, h⟩
  · exact vx_isRef h rfl
  · exact vx_isRef h rfl
/-- the same frame, seen from here: as if the method were called anew in this heap -/
theorem vx_rebase {T : State} (X : Stand p l e R s m args below meth c T locs cells slots) {R' : Room} (hf : R'.frames ≤ R.frames) (hl : R'.locals ≤ R.locals) (hc : cells + R'.cells ≤ R.cells) (hs : slots + R'.slots ≤ R.slots) :
    Stand p l e R' ((T.setVm s.vm).setFrames (.invoking m args :: below)) m args below meth c T [] 0 0 := by
  have htop : (T.setVm s.vm).topJava?.isSome := X.here.top
  have hF : ((T.setVm s.vm).setFrames (.invoking m args :: below)).frames = .invoking m args :: below := State.frames_setFrames _ (State.cur_lt_of_top htop)
  obtain ⟨g₀, hg0⟩ := Option.isSome_iff_exists.mp htop
  obtain ⟨r, hr⟩ := State.topJava?_eq_some.mp hg0
  have hl9 : e.platform.stackLimits (T.setVm s.vm).me = e.platform.stackLimits s.me := X.limits
  have hb9 : (T.setVm s.vm).me.stackBytes = s.me.stackBytes := X.bytes
  refine ⟨X.admits, X.cas, X.clock, hF, ?_, X.hears, X.method, X.code, X.here, X.tail, X.warmed, ?_, ?_, ?_⟩
  · have h := X.room
    have hU : ((T.setVm s.vm).setFrames (.invoking m args :: below)).localsInUse = s.localsInUse := by
      rw [State.localsInUse_invoking hF (meth := meth) (c := c) X.method X.code, State.localsInUse_invoking X.frames X.method X.code]
    simp only [State.hasRoom, Bool.and_eq_true, decide_eq_true_eq] at h ⊢
    obtain ⟨⟨⟨⟨h1, h2, h3, h4, h5, h6⟩, h7⟩, h8⟩, h9⟩ := h
    rw [X.frames, List.length_cons] at h2 h3
    have q1 := X.heapSize
    have q2 := X.used
    simp only [hF, hU, List.length_cons, State.stackLimits_setFrames, State.stackBytes_setFrames, hl9, hb9]
    refine ⟨⟨⟨⟨by omega, by omega, by omega, by omega, by omega, h6⟩, ?_⟩, ?_⟩, X.book⟩
    · show T.heap.size + R'.cells ≤ e.platform.maxCells
      omega
    · show T.slotsUsed + R'.slots ≤ e.platform.maxSlots
      omega
  · rw [State.stackLimits_setFrames]; rfl
  · rw [State.stackBytes_setFrames]; rfl
  · refine ⟨?_, Nat.le_refl _, Nat.le_refl _, ?_, ?_, fun a c9 h9 => ⟨c9, h9, rfl, rfl, fun _ _ => rfl⟩⟩
    · obtain ⟨t, ht, -⟩ := State.frames_cons hr
      show T.setVm s.vm = { ((T.setVm s.vm).setFrames (.invoking m args :: below)).setFrames (T.setVm s.vm).frames with heap := T.heap, slotsUsed := T.slotsUsed }
      rw [State.setFrames_setFrames, State.setFrames_self ht]
      rfl
    · show T.slotsUsed = T.slotsUsed + ((T.heap.toList.drop T.heap.size).map (·.slots.size)).sum
      rw [List.drop_eq_nil_of_le (Nat.le_of_eq Array.length_toList)]
      rfl
    · show ((T.heap.toList.drop T.heap.size).map (·.slots.size)).sum ≤ 0
      rw [List.drop_eq_nil_of_le (Nat.le_of_eq Array.length_toList)]
      exact Nat.le_refl _
/-- 'throw new E()': new; dup; invokespecial; athrow -/
theorem vx_throw0 {cc : ByteArray} {pc : Nat} (hexec : p.tables.exec = Jvm.exec) (hb : c.code = cc) (hl : l.stackTraces = false) {own cls : String} {names : List String} {ik ic mc ms : Nat} {A : Nat → Prop}
    (hown : s.vm.findClass own = some m.cls) (hcls : Bundle.fit cls = true) (hnames : ∀ n ∈ names, Bundle.fit n = true)
    (hk : (Cond.classLink own ik cls).before args s = true) (hini : (Cond.initialized cls).before args s = true) (hat : ∀ w ∈ vx_at0 own ic cls names, w.before args s = true)
    (hgood : ∀ w ∈ Cond.classLink own ik cls :: Cond.initialized cls :: vx_at0 own ic cls names, vx_ot w = true)
    (hU : vx_Zq Bundle.tN "UNASSIGNED_STACK" Bundle.steD A s s.heap) (hN : vx_Zq Bundle.tN "SUPPRESSED_SENTINEL" Bundle.listD A s s.heap) (hS : va_S A s.heap H locs) (hsize : ls.size = c.maxLocals)
    (d0 : decode cc pc = .ok (.new ik, 3)) (d3 : decode cc (pc + 3) = .ok (.dup, 1)) (d4 : decode cc (pc + 4) = .ok (.invokespecial ic, 3)) (d7 : decode cc (pc + 7) = .ok (.athrow, 1))
    (hout : ∀ x ∈ c.exceptionTable.toList, covers x (pc + 7) = false)
    (hRframes : names.length + 3 < R.frames) (hRlocals : (rest.map fun v => v.category).sum + (13 * (names.length + 1) + 42) ≤ R.locals) (hRcells : cells + 1 ≤ R.cells) (hRslots : slots + 6 ≤ R.slots) (hlocks : meth.locks = false)
    (hx : ∀ t : State, s.vm.Alike t.vm → H.size ≤ t.heap.size → (∀ q : Nat, q < H.size → t.heap[q]? = H[q]?) → XC cls s t)
    (hf : ∀ z ∈ locs, free z.base) (hc : cells + 1 ≤ mc) (hs : slots + 6 ≤ ms) :
    W p l e R s m args below meth c H locs cells slots (vx_MQ below Qc XC args s mc ms free) (F0 m pc ls rest) := by
  intro T hT X
  have htr : e.platform.stackTraces = false := (show e.platform.stackTraces = l.stackTraces by rw [X.admits.platform]).trans hl
  have Y := vx_rebase X (R' := { frames := R.frames, locals := R.locals, cells := 1, slots := 6 }) (Nat.le_refl _) (Nat.le_refl _) hRcells hRslots
  obtain ⟨s', hA⟩ : ∃ z, z = (T.setVm s.vm).setFrames (.invoking m args :: below) := ⟨_, rfl⟩
  rw [← hA] at Y
  have hvm : s'.vm = s.vm := by rw [hA]; rfl
  have hhp : s'.heap = H := by rw [hA]; exact hT
  have hW0 : s.WarmedH s'.vm := by rw [hvm]; exact State.WarmedH.refl s
  have hat' : ∀ w ∈ vx_at0 own ic cls names, w.before args s' = true := fun w hw => vx_ot_at hW0 hvm.symm (hgood w (List.mem_cons_of_mem _ (List.mem_cons_of_mem _ hw))) (hat w hw)
  have hk' : (Cond.classLink own ik cls).before args s' = true := vx_ot_at hW0 hvm.symm (hgood _ List.mem_cons_self) hk
  have hini' : (Cond.initialized cls).before args s' = true := vx_ot_at hW0 hvm.symm (hgood _ (List.mem_cons_of_mem _ List.mem_cons_self)) hini
  have hU' : vx_Zq Bundle.tN "UNASSIGNED_STACK" Bundle.steD A s' s'.heap := by rw [hhp]; exact vx_Zq.moved hW0.alike (hU.kept hS.2.1)
  have hN' : vx_Zq Bundle.tN "SUPPRESSED_SENTINEL" Bundle.listD A s' s'.heap := by rw [hhp]; exact vx_Zq.moved hW0.alike (hN.kept hS.2.1)
  have h : ∀ w ∈ Bundle.ownAtoms0 own ic cls names, w.before args s' = true := vx_own hat' (vx_isRefq hU'.1) (vx_isRefq hN'.1) hU'.2.word hN'.2.word
  have hown' : s'.vm.findClass own = some m.cls := by rw [hvm]; exact hown
  have hins : (Cond.instantiable cls 6).before args s' = true := h _ (by simp [Bundle.ownAtoms0])
  obtain ⟨vm₁, cX, kX, hfX, hkX, -, -, X₁, st1⟩ := Y.newCold hexec (own := own) (C := cls) (index := ik) (n := 6) hown' hk' hins hini'
    (g := F0 m pc ls rest) rfl (by rw [hb]; exact d0) (Nat.le_refl _) (Nat.le_refl _)
  generalize hT1 : (T.setVm vm₁).pushCell { cls := cX, slots := kX.instanceTypes.map defaultValue, vm := .none } = T1 at X₁ st1
  have hcat : (Value.ref T.heap.size).category = 1 := rfl
  have hcellA : T1.heap[T.heap.size]? = some (freshCell cX kX) := by rw [← hT1]; exact State.heap_pushCell_size _ _
  have d3' : decode c.code (pc + 3) = .ok (.dup, 1) := by rw [hb]; exact d3
  obtain ⟨U, hsteps, hrun, hend, hW, hsame, ce, hce, hO⟩ := X₁.ctorThrow0 hexec htr (own := own) (cls := cls) (names := names) (ic := ic) hown' hcls hnames h (fun x hx => nomatch hx) hfX hkX hcellA (by rw [hhp, hT]; exact Nat.le_refl _)
    (g := { method := m, pc := pc + 4, locals := ls, stack := .ref T.heap.size :: .ref T.heap.size :: rest, locked := none }) rfl hsize rfl rfl (rest := rest) rfl
    (by rw [hb]; exact d4) (by rw [hb]; exact d7) hout hRframes (by simp only [List.map_cons, List.sum_cons, hcat]; omega) hlocks
  obtain ⟨f1, f2⟩ := vx_frame hsame
  rw [hhp] at f1 f2
  have hWs : s.WarmedH U.vm := State.WarmedH.trans hW0 hW
  have hcl : s.vm.findClass cls = some ce.cls := by
    have h9 := hO.cls
    rw [hvm] at h9
    exact h9
  have hall : s.sameButNew ({ U with vm := s.vm } : State) locs mc ms := by
    subst hA
    obtain ⟨e1, e2⟩ := hsame
    rw [State.setFrames_setFrames] at e1
    have h2 : (T.setVm s.vm).sameButNew ({ U with vm := s.vm } : State) [] (0 + 1) (0 + 6) := ⟨e1, e2⟩
    have h3 := X.same.trans h2
    rw [List.append_nil] at h3
    exact h3.mono hc hs
  refine ⟨U, ?_, .threw T.heap.size, hrun, hend, Or.inr ⟨T.heap.size, rfl, cls, ce, locs, hx U hWs.alike f1 (fun q hq => f2 q hq (fun z hz => nomatch hz)), hce, hO.vm, hcl, hWs, hall, hf⟩⟩
  refine st1 _ ?_
  show Steps p.tables e below (T1.setTop { method := m, pc := pc + 3, locals := ls, stack := .ref T.heap.size :: rest, locked := none }) _
  jvm_step X₁.here [X₁.here.top, hexec, d3', Value.category]
  exact hsteps
/-- 'throw new E("text")': new; dup; ldc; invokespecial; athrow -/
theorem vx_throwS {cc : ByteArray} {pc : Nat} (hexec : p.tables.exec = Jvm.exec) (hb : c.code = cc) (hl : l.stackTraces = false) {own cls text : String} {names : List String} {ik is ic mc ms sa : Nat} {A : Nat → Prop}
    (hown : s.vm.findClass own = some m.cls) (hcls : Bundle.fit cls = true) (hnames : ∀ n ∈ names, Bundle.fit n = true)
    (hk : (Cond.classLink own ik cls).before args s = true) (hini : (Cond.initialized cls).before args s = true) (hstr : vk_R own is text sa s) (hat : ∀ w ∈ vx_atS own ic cls names, w.before args s = true)
    (hgood : ∀ w ∈ Cond.classLink own ik cls :: Cond.initialized cls :: vx_atS own ic cls names, vx_ot w = true)
    (hU : vx_Zq Bundle.tN "UNASSIGNED_STACK" Bundle.steD A s s.heap) (hN : vx_Zq Bundle.tN "SUPPRESSED_SENTINEL" Bundle.listD A s s.heap) (hS : va_S A s.heap H locs) (hsize : ls.size = c.maxLocals)
    (d0 : decode cc pc = .ok (.new ik, 3)) (d3 : decode cc (pc + 3) = .ok (.dup, 1)) (d4 : decode cc (pc + 4) = .ok (.ldc is, 2)) (d6 : decode cc (pc + 6) = .ok (.invokespecial ic, 3)) (d9 : decode cc (pc + 9) = .ok (.athrow, 1))
    (hout : ∀ x ∈ c.exceptionTable.toList, covers x (pc + 9) = false)
    (hRframes : names.length + 3 < R.frames) (hRlocals : (rest.map fun v => v.category).sum + (13 * (names.length + 1) + 43) ≤ R.locals) (hRcells : cells + 1 ≤ R.cells) (hRslots : slots + 6 ≤ R.slots) (hlocks : meth.locks = false)
    (hx : ∀ t : State, s.vm.Alike t.vm → H.size ≤ t.heap.size → (∀ q : Nat, q < H.size → t.heap[q]? = H[q]?) → XC cls s t)
    (hf : ∀ z ∈ locs, free z.base) (hc : cells + 1 ≤ mc) (hs : slots + 6 ≤ ms) :
    W p l e R s m args below meth c H locs cells slots (vx_MQ below Qc XC args s mc ms free) (F0 m pc ls rest) := by
  intro T hT X
  have htr : e.platform.stackTraces = false := (show e.platform.stackTraces = l.stackTraces by rw [X.admits.platform]).trans hl
  have Y := vx_rebase X (R' := { frames := R.frames, locals := R.locals, cells := 1, slots := 6 }) (Nat.le_refl _) (Nat.le_refl _) hRcells hRslots
  obtain ⟨s', hA⟩ : ∃ z, z = (T.setVm s.vm).setFrames (.invoking m args :: below) := ⟨_, rfl⟩
  rw [← hA] at Y
  have hvm : s'.vm = s.vm := by rw [hA]; rfl
  have hhp : s'.heap = H := by rw [hA]; exact hT
  have hW0 : s.WarmedH s'.vm := by rw [hvm]; exact State.WarmedH.refl s
  have hat' : ∀ w ∈ vx_atS own ic cls names, w.before args s' = true := fun w hw => vx_ot_at hW0 hvm.symm (hgood w (List.mem_cons_of_mem _ (List.mem_cons_of_mem _ hw))) (hat w hw)
  have hk' : (Cond.classLink own ik cls).before args s' = true := vx_ot_at hW0 hvm.symm (hgood _ List.mem_cons_self) hk
  have hini' : (Cond.initialized cls).before args s' = true := vx_ot_at hW0 hvm.symm (hgood _ (List.mem_cons_of_mem _ List.mem_cons_self)) hini
  have hU' : vx_Zq Bundle.tN "UNASSIGNED_STACK" Bundle.steD A s' s'.heap := by rw [hhp]; exact vx_Zq.moved hW0.alike (hU.kept hS.2.1)
  have hN' : vx_Zq Bundle.tN "SUPPRESSED_SENTINEL" Bundle.listD A s' s'.heap := by rw [hhp]; exact vx_Zq.moved hW0.alike (hN.kept hS.2.1)
  have h : ∀ w ∈ Bundle.ownAtoms own ic cls names, w.before args s' = true := vx_own hat' (vx_isRefq hU'.1) (vx_isRefq hN'.1) hU'.2.word hN'.2.word
  have hown' : s'.vm.findClass own = some m.cls := by rw [hvm]; exact hown
  have hins : (Cond.instantiable cls 6).before args s' = true := h _ (by simp [Bundle.ownAtoms])
  obtain ⟨vm₁, cX, kX, hfX, hkX, -, -, X₁, st1⟩ := Y.newCold hexec (own := own) (C := cls) (index := ik) (n := 6) hown' hk' hins hini'
    (g := F0 m pc ls rest) rfl (by rw [hb]; exact d0) (Nat.le_refl _) (Nat.le_refl _)
  generalize hT1 : (T.setVm vm₁).pushCell { cls := cX, slots := kX.instanceTypes.map defaultValue, vm := .none } = T1 at X₁ st1
  have hcat : (Value.ref T.heap.size).category = 1 := rfl
  have hcellA : T1.heap[T.heap.size]? = some (freshCell cX kX) := by rw [← hT1]; exact State.heap_pushCell_size _ _
  have d3' : decode c.code (pc + 3) = .ok (.dup, 1) := by rw [hb]; exact d3
  have d4' : decode c.code (pc + 4) = .ok (.ldc is, 2) := by rw [hb]; exact d4
  have hstr' : vk_R own is text sa s' := vk_R.warm hW0 hstr
  obtain ⟨U, hsteps, hrun, hend, hW, hsame, ce, hce, hO⟩ := X₁.ctorThrowS hexec htr (own := own) (cls := cls) (names := names) (ic := ic) hown' hcls hnames h (fun x hx => nomatch hx) hfX hkX hcellA (by rw [hhp, hT]; exact Nat.le_refl _) (msg := .ref sa) rfl
    (g := { method := m, pc := pc + 6, locals := ls, stack := .ref sa :: .ref T.heap.size :: .ref T.heap.size :: rest, locked := none }) rfl hsize rfl rfl (rest := rest) rfl
    (by rw [hb]; exact d6) (by rw [hb]; exact d9) hout hRframes (by simp only [List.map_cons, List.sum_cons, hcat]; omega) hlocks
  obtain ⟨f1, f2⟩ := vx_frame hsame
  rw [hhp] at f1 f2
  have hWs : s.WarmedH U.vm := State.WarmedH.trans hW0 hW
  have hcl : s.vm.findClass cls = some ce.cls := by
    have h9 := hO.cls
    rw [hvm] at h9
    exact h9
  have hall : s.sameButNew ({ U with vm := s.vm } : State) locs mc ms := by
    subst hA
    obtain ⟨e1, e2⟩ := hsame
    rw [State.setFrames_setFrames] at e1
    have h2 : (T.setVm s.vm).sameButNew ({ U with vm := s.vm } : State) [] (0 + 1) (0 + 6) := ⟨e1, e2⟩
    have h3 := X.same.trans h2
    rw [List.append_nil] at h3
    exact h3.mono hc hs
  refine ⟨U, ?_, .threw T.heap.size, hrun, hend, Or.inr ⟨T.heap.size, rfl, cls, ce, locs, hx U hWs.alike f1 (fun q hq => f2 q hq (fun z hz => nomatch hz)), hce, hO.vm, hcl, hWs, hall, hf⟩⟩
  refine st1 _ ?_
  show Steps p.tables e below (T1.setTop { method := m, pc := pc + 3, locals := ls, stack := .ref T.heap.size :: rest, locked := none }) _
  jvm_step X₁.here [X₁.here.top, hexec, d3', Value.category]
  exact X₁.ldcString hexec (own := own) (text := text) (index := is) (a := sa) hown' hstr'.1 hstr'.2
    (g := { method := m, pc := pc + 4, locals := ls, stack := .ref T.heap.size :: .ref T.heap.size :: rest, locked := none }) rfl d4' _ hsteps
/-- 'throw new E("text")', the text by a wide index -/
theorem vx_throwSW {cc : ByteArray} {pc : Nat} (hexec : p.tables.exec = Jvm.exec) (hb : c.code = cc) (hl : l.stackTraces = false) {own cls text : String} {names : List String} {ik is ic mc ms sa : Nat} {A : Nat → Prop}
    (hown : s.vm.findClass own = some m.cls) (hcls : Bundle.fit cls = true) (hnames : ∀ n ∈ names, Bundle.fit n = true)
    (hk : (Cond.classLink own ik cls).before args s = true) (hini : (Cond.initialized cls).before args s = true) (hstr : vk_R own is text sa s) (hat : ∀ w ∈ vx_atS own ic cls names, w.before args s = true)
    (hgood : ∀ w ∈ Cond.classLink own ik cls :: Cond.initialized cls :: vx_atS own ic cls names, vx_ot w = true)
    (hU : vx_Zq Bundle.tN "UNASSIGNED_STACK" Bundle.steD A s s.heap) (hN : vx_Zq Bundle.tN "SUPPRESSED_SENTINEL" Bundle.listD A s s.heap) (hS : va_S A s.heap H locs) (hsize : ls.size = c.maxLocals)
    (d0 : decode cc pc = .ok (.new ik, 3)) (d3 : decode cc (pc + 3) = .ok (.dup, 1)) (d4 : decode cc (pc + 4) = .ok (.ldc_w is, 3)) (d7 : decode cc (pc + 7) = .ok (.invokespecial ic, 3)) (d10 : decode cc (pc + 10) = .ok (.athrow, 1))
    (hout : ∀ x ∈ c.exceptionTable.toList, covers x (pc + 10) = false)
    (hRframes : names.length + 3 < R.frames) (hRlocals : (rest.map fun v => v.category).sum + (13 * (names.length + 1) + 43) ≤ R.locals) (hRcells : cells + 1 ≤ R.cells) (hRslots : slots + 6 ≤ R.slots) (hlocks : meth.locks = false)
    (hx : ∀ t : State, s.vm.Alike t.vm → H.size ≤ t.heap.size → (∀ q : Nat, q < H.size → t.heap[q]? = H[q]?) → XC cls s t)
    (hf : ∀ z ∈ locs, free z.base) (hc : cells + 1 ≤ mc) (hs : slots + 6 ≤ ms) :
    W p l e R s m args below meth c H locs cells slots (vx_MQ below Qc XC args s mc ms free) (F0 m pc ls rest) := by
  intro T hT X
  have htr : e.platform.stackTraces = false := (show e.platform.stackTraces = l.stackTraces by rw [X.admits.platform]).trans hl
  have Y := vx_rebase X (R' := { frames := R.frames, locals := R.locals, cells := 1, slots := 6 }) (Nat.le_refl _) (Nat.le_refl _) hRcells hRslots
  obtain ⟨s', hA⟩ : ∃ z, z = (T.setVm s.vm).setFrames (.invoking m args :: below) := ⟨_, rfl⟩
  rw [← hA] at Y
  have hvm : s'.vm = s.vm := by rw [hA]; rfl
  have hhp : s'.heap = H := by rw [hA]; exact hT
  have hW0 : s.WarmedH s'.vm := by rw [hvm]; exact State.WarmedH.refl s
  have hat' : ∀ w ∈ vx_atS own ic cls names, w.before args s' = true := fun w hw => vx_ot_at hW0 hvm.symm (hgood w (List.mem_cons_of_mem _ (List.mem_cons_of_mem _ hw))) (hat w hw)
  have hk' : (Cond.classLink own ik cls).before args s' = true := vx_ot_at hW0 hvm.symm (hgood _ List.mem_cons_self) hk
  have hini' : (Cond.initialized cls).before args s' = true := vx_ot_at hW0 hvm.symm (hgood _ (List.mem_cons_of_mem _ List.mem_cons_self)) hini
  have hU' : vx_Zq Bundle.tN "UNASSIGNED_STACK" Bundle.steD A s' s'.heap := by rw [hhp]; exact vx_Zq.moved hW0.alike (hU.kept hS.2.1)
  have hN' : vx_Zq Bundle.tN "SUPPRESSED_SENTINEL" Bundle.listD A s' s'.heap := by rw [hhp]; exact vx_Zq.moved hW0.alike (hN.kept hS.2.1)
  have h : ∀ w ∈ Bundle.ownAtoms own ic cls names, w.before args s' = true := vx_own hat' (vx_isRefq hU'.1) (vx_isRefq hN'.1) hU'.2.word hN'.2.word
  have hown' : s'.vm.findClass own = some m.cls := by rw [hvm]; exact hown
  have hins : (Cond.instantiable cls 6).before args s' = true := h _ (by simp [Bundle.ownAtoms])
  obtain ⟨vm₁, cX, kX, hfX, hkX, -, -, X₁, st1⟩ := Y.newCold hexec (own := own) (C := cls) (index := ik) (n := 6) hown' hk' hins hini'
    (g := F0 m pc ls rest) rfl (by rw [hb]; exact d0) (Nat.le_refl _) (Nat.le_refl _)
  generalize hT1 : (T.setVm vm₁).pushCell { cls := cX, slots := kX.instanceTypes.map defaultValue, vm := .none } = T1 at X₁ st1
  have hcat : (Value.ref T.heap.size).category = 1 := rfl
  have hcellA : T1.heap[T.heap.size]? = some (freshCell cX kX) := by rw [← hT1]; exact State.heap_pushCell_size _ _
  have d3' : decode c.code (pc + 3) = .ok (.dup, 1) := by rw [hb]; exact d3
  have d4' : decode c.code (pc + 4) = .ok (.ldc_w is, 3) := by rw [hb]; exact d4
  have hstr' : vk_R own is text sa s' := vk_R.warm hW0 hstr
  obtain ⟨U, hsteps, hrun, hend, hW, hsame, ce, hce, hO⟩ := X₁.ctorThrowS hexec htr (own := own) (cls := cls) (names := names) (ic := ic) hown' hcls hnames h (fun x hx => nomatch hx) hfX hkX hcellA (by rw [hhp, hT]; exact Nat.le_refl _) (msg := .ref sa) rfl
    (g := { method := m, pc := pc + 7, locals := ls, stack := .ref sa :: .ref T.heap.size :: .ref T.heap.size :: rest, locked := none }) rfl hsize rfl rfl (rest := rest) rfl
    (by rw [hb]; exact d7) (by rw [hb]; exact d10) hout hRframes (by simp only [List.map_cons, List.sum_cons, hcat]; omega) hlocks
  obtain ⟨f1, f2⟩ := vx_frame hsame
  rw [hhp] at f1 f2
  have hWs : s.WarmedH U.vm := State.WarmedH.trans hW0 hW
  have hcl : s.vm.findClass cls = some ce.cls := by
    have h9 := hO.cls
    rw [hvm] at h9
    exact h9
  have hall : s.sameButNew ({ U with vm := s.vm } : State) locs mc ms := by
    subst hA
    obtain ⟨e1, e2⟩ := hsame
    rw [State.setFrames_setFrames] at e1
    have h2 : (T.setVm s.vm).sameButNew ({ U with vm := s.vm } : State) [] (0 + 1) (0 + 6) := ⟨e1, e2⟩
    have h3 := X.same.trans h2
    rw [List.append_nil] at h3
    exact h3.mono hc hs
  refine ⟨U, ?_, .threw T.heap.size, hrun, hend, Or.inr ⟨T.heap.size, rfl, cls, ce, locs, hx U hWs.alike f1 (fun q hq => f2 q hq (fun z hz => nomatch hz)), hce, hO.vm, hcl, hWs, hall, hf⟩⟩
  refine st1 _ ?_
  show Steps p.tables e below (T1.setTop { method := m, pc := pc + 3, locals := ls, stack := .ref T.heap.size :: rest, locked := none }) _
  jvm_step X₁.here [X₁.here.top, hexec, d3', Value.category]
  exact X₁.ldcStringW hexec (own := own) (text := text) (index := is) (a := sa) hown' hstr'.1 hstr'.2
    (g := { method := m, pc := pc + 4, locals := ls, stack := .ref T.heap.size :: .ref T.heap.size :: rest, locked := none }) rfl d4' _ hsteps
end Ends
section Bodies
variable {l : Launch}
theorem vx_ofW {y : MethodName} {ws ws' : List Cond} {rm : Room} {Pc : Array Value → State → Prop} {Qc : Array Value → State → Outcome → State → Prop} {XC : String → State → State → Prop} {mc ms : Nat} {free : Addr → Prop} {cc : ByteArray} {maxL : Nat} {ret : Option FieldType}
    (hy : plainName y.cls = true) (hw : ws = Cond.code y cc maxL ret :: ws')
    (body : ∀ p e s m args below meth c s₁, BodyLoose p l y (headSpec ws rm) cc maxL ret e s m args below meth c s₁ → c.maxLocals = maxL → (∀ x ∈ c.exceptionTable.toList, False) → Pc args s →
      W p l e (headSpec ws rm).room s m args below meth c s.heap [] 0 0 (vx_MQ below Qc XC args s mc ms free) (entryFrame m args maxL)) : vx_Met l y ws rm Pc Qc XC mc ms free := by
  refine MetFree.of_bodyS (code := cc) (maxLocals := maxL) (ret := ret) hy ?_ ?_
  · intro args s m h hn
    obtain ⟨meth, c, h1, h2, h3, h4, h5, h6, -, -⟩ := Cond.code_spec hn (atoms_spec (ws := ws) h _ (by rw [hw]; exact List.mem_cons_self))
    exact ⟨meth, c, h1, h2, h3, h4, h5, h6⟩
  · intro p e s m args below meth c s₁ B hml hP _
    have hh0 : s₁.heap = s.heap := by rw [B.state]; rfl
    have ht : ∀ x ∈ c.exceptionTable.toList, False := by
      obtain ⟨meth9, c9, h1, h2, -, -, -, -, h7, -⟩ := Cond.code_spec B.named (atoms_spec (ws := ws) B.pre _ (by rw [hw]; exact List.mem_cons_self))
      cases Option.some.inj (h1.symm.trans B.method)
      cases Option.some.inj (h2.symm.trans (Stand.of_body B).code)
      intro x hx
      rw [Array.isEmpty_iff.mp h7] at hx
      cases hx
    obtain ⟨t, a1, o, b1, b2, b3⟩ := body p e s m args below meth c s₁ B hml ht hP s₁ hh0 (Stand.of_body B)
    exact ⟨t, o, a1, b1, b2, b3⟩
/-- the table of a body with handlers -/
theorem vx_table {p : Program} {x y : MethodName} {S : Spec} {cc bytes : ByteArray} {maxL maxL' : Nat} {ret ret' : Option FieldType} {e : Env} {s s₁ : State} {m : MethodId} {args : Array Value} {below : List Frame} {meth : Method} {c : Code} {hh : List (Nat × Nat × Nat × Nat)}
    (B : BodyLoose p l y S cc maxL ret e s m args below meth c s₁) (h : (Cond.codeWith y bytes maxL' ret' hh).before args s = true) : c.exceptionTable.toList = tableOf hh := by
  obtain ⟨m9, meth9, c9, hn9, h1, h2, -, -, h6, -⟩ := Cond.codeWith_spec h
  cases Option.some.inj (hn9.symm.trans B.named)
  cases Option.some.inj (h1.symm.trans B.method)
  cases Option.some.inj (h2.symm.trans (Stand.of_body B).code)
  rw [← h6, table_eq]
end Bodies
end VXA
/-! ===== END ===== -/
/-! ===== BEGIN a static call of a method with an exception table ===== -/
section VXS
variable {p : Program} {l : Launch} {e : Env} {R : Room} {s : State} {m : MethodId} {args : Array Value} {below : List Frame} {meth : Method} {c : Code} {T : State} {H : Heap} {locs : List Loc} {cells slots : Nat}
abbrev vx_CSW (R : Room) (s : State) (args : Array Value) (own : String) (index : Nat) (y : MethodName) (bytes : ByteArray) (maxL : Nat) (ret : Option FieldType) (hh : List (Nat × Nat × Nat × Nat)) (ws : List Cond) (rm : Room) (mc ms n : Nat) : Prop :=
  (rm.cells = mc ∧ rm.slots = ms ∧ rm.frames + 1 ≤ R.frames ∧ 8 + (maxL + 11) + rm.locals ≤ R.locals ∧ (∀ w ∈ ws, ∀ (a' : Array Value) (U : State), s.WarmedH U.vm → w.before a' U = true) ∧ Cond.codeWith y bytes maxL ret hh ∈ ws) ∧
  (Cond.codeWith y bytes maxL ret hh).before args s = true ∧ (Cond.initialized y.cls).before args s = true ∧ (y.cls ≠ "java/lang/invoke/MethodHandle" ∧ y.cls ≠ "java/lang/invoke/VarHandle") ∧
  (∀ sig, parseMethodDescriptor y.desc = some sig → n = sig.parameters.length) ∧ (Cond.methodLink own index y).before args s = true ∧ (Cond.static y).before args s = true
theorem vx_cwSW {own : String} {index maxL mc ms : Nat} {y : MethodName} {bytes : ByteArray} {ret : Option FieldType} {hh : List (Nat × Nat × Nat × Nat)} {Ts ws ws' : List Cond} {rm : Room} (n : Nat) (ht : ∀ w ∈ Ts, w.before args s = true) (hT : GoodIn Ts (va_wsS own index y ws)) (hw : ws = Cond.codeWith y bytes maxL ret hh :: ws') (hrc : rm.cells = mc) (hrs : rm.slots = ms)
    (hd : y.cls ≠ "java/lang/invoke/MethodHandle" ∧ y.cls ≠ "java/lang/invoke/VarHandle" ∧ (parseMethodDescriptor y.desc).map (fun d => d.parameters.length) = some n) (hR : rm.frames + 1 ≤ R.frames ∧ 8 + (maxL + 11) + rm.locals ≤ R.locals) :
    vx_CSW R s args own index y bytes maxL ret hh ws rm mc ms n := by
  have ok : ∀ w ∈ va_wsS own index y ws, w.before args s = true := fun w h => ht w (hT w h).1
  have hG : GoodIn Ts ws := fun w h => hT w (by unfold va_wsS; exact List.mem_append_right _ h)
  have hc : Cond.codeWith y bytes maxL ret hh ∈ ws := by rw [hw]; exact List.mem_cons_self
  refine ⟨⟨hrc, hrs, hR.1, hR.2, pay_in ht hG, hc⟩, ht _ (hG _ hc).1, ok _ (by simp [va_wsS]), ⟨hd.1, hd.2.1⟩, fun sig h => ?_, ok _ (by simp [va_wsS]), ok _ (by simp [va_wsS])⟩
  have h2 := hd.2.2
  rw [h] at h2
  exact (Option.some.inj h2).symm
theorem vx_callSW (X : Stand p l e R s m args below meth c T locs cells slots) (hexec : p.tables.exec = Jvm.exec) {own : String} {index : Nat} {y : MethodName} {bytes : ByteArray} {maxL : Nat} {ret : Option FieldType} {hh : List (Nat × Nat × Nat × Nat)}
    (hown : s.vm.findClass own = some m.cls) (hlink : (Cond.methodLink own index y).before args s = true) (hstat : (Cond.static y).before args s = true) (hinit : (Cond.initialized y.cls).before args s = true)
    (hcode : (Cond.codeWith y bytes maxL ret hh).before args s = true) (hy : y.cls ≠ "java/lang/invoke/MethodHandle" ∧ y.cls ≠ "java/lang/invoke/VarHandle")
    {W9 : Nat} {Pre : Pt → Array Value → Prop} {Post : Pt → Array Value → Option Value → Pt → Prop} (hK : Back l R p e below s args y 3 W9 Pre Post)
    {g : JFrame} (hg : g.method = m) (hsize : g.locals.size = c.maxLocals) {argsL rest : List Value} (hlen : ∀ sig, parseMethodDescriptor y.desc = some sig → argsL.length = sig.parameters.length)
    (hstack : g.stack = argsL.reverse ++ rest) (hW : 2 * g.monitorRoom + (rest.map fun v => v.category).sum ≤ W9) (hdg : decode c.code g.pc = .ok (.invokestatic index, 3))
    (hpre : ∀ vm₁, s.WarmedH vm₁ → Pre ⟨T.setVm vm₁, locs, cells, slots⟩ argsL.toArray) :
    ∃ (v : Option Value) (vm₁ : Vm) (B : Pt), s.WarmedH vm₁ ∧ Stand p l e R s m args below meth c B.U B.locs B.cells B.slots ∧ Post ⟨T.setVm vm₁, locs, cells, slots⟩ argsL.toArray v B ∧
      ∀ target, Steps p.tables e below (B.U.setTop { g with pc := g.pc + 3, stack := v.toList ++ rest }) target → Steps p.tables e below (T.setTop g) target := by
  obtain ⟨mk, methM, cM, hnamed, hmethM, -, -, -, -, -, -, hsigM⟩ := Cond.codeWith_spec hcode
  have hstatic : methM.isStatic = true := Cond.static_spec hnamed hmethM hstat
  obtain ⟨kP, hkP, -⟩ := className_of_methodNamed hnamed
  have hinitP : kP.init = .initialized := Cond.initialized_spec (findClass_of_methodNamed hnamed) hkP hinit
  obtain ⟨vm₁, X₁, hstep₁⟩ := X.invokestatic hexec hown hlink hnamed hmethM hstatic hkP hinitP hy (g := g) hg (argsL := argsL) (rest := rest) (hlen _ hsigM) hstack hdg
  obtain ⟨v, B, X', hpost, hsteps⟩ := hK m meth c ⟨T.setVm vm₁, locs, cells, slots⟩ { g with stack := rest } (.invokestatic index) mk argsL.toArray X₁ hg hsize hdg hW (X₁.named hnamed) (hpre vm₁ X₁.warmed)
  exact ⟨v, vm₁, B, X₁.warmed, X', hpost, fun target h => hstep₁ _ fun acts => by rw [doInvoke_state]; exact hsteps.trans h⟩
theorem vx_runSW {y : MethodName} {bytes cc : ByteArray} {maxL nL mc ms n index : Nat} {ret : Option FieldType} {hh : List (Nat × Nat × Nat × Nat)} {ws : List Cond} {rm : Room} {Pc : Array Value → State → Prop} {Qc : Array Value → State → Outcome → State → Prop} {free : Addr → Prop} {Ts : List Cond} {own : String} {As rest : List Value} {g : JFrame}
    (S : CallFix p m c cc nL s args Ts own) (hM : Met l y ws rm Pc Qc mc ms free) (cw : vx_CSW R s args own index y bytes maxL ret hh ws rm mc ms n) (hp : PreS s H Pc As)
    (hg : g.method = m) (hn : As.length = n) (hsize : g.locals.size = nL) (hstack : g.stack = As.reverse ++ rest) (hW : 2 * g.monitorRoom + (rest.map fun v => v.category).sum ≤ 8) (hdg : decode cc g.pc = .ok (.invokestatic index, 3)) (hf : cells + mc ≤ R.cells ∧ slots + ms ≤ R.slots) :
    va_Run p l e R s m args below meth c H locs cells slots mc ms g rest (Qc As.toArray) (free) := by
  obtain ⟨⟨hrc, hrs, hfr, hlo, hws, hcw⟩, hcode, hini, hy, hlen, hl, hstt⟩ := cw
  have hK : Back l R p e below s args y 3 8 (PreOf R mc ms Pc) (PostOf Qc mc ms free) := va_backW (hh := hh) (bytes := bytes) (maxL := maxL) (ret := ret) hM hp.1 hrc hrs hfr hlo hws hcw (fun a' U hW => word_at hW (Or.inl (by first | rfl | simp [Cond.onTables, Cond.keeps, Cond.steady])) hini)
  obtain ⟨hx, hb, hml, ho, -⟩ := S
  intro T hT X
  obtain ⟨v, vm₁, ⟨U', l2, c2, s2⟩, hW₁, X', ⟨g', mk, t, L, e1, e2, hq, h1, hL, h2, h3⟩, st⟩ := vx_callSW X hx (hh := hh) (bytes := bytes) (maxL := maxL) (ret := ret) ho hl hstt hini hcode hy hK hg (hsize.trans hml.symm) (argsL := As) (rest := rest) (fun sig h => hn.trans (hlen sig h)) hstack hW (by rw [hb]; exact hdg)
    (fun vm₁ hW₁ => ⟨hf.1, hf.2, hp.2 (T.setVm vm₁) hT hW₁⟩)
  dsimp only [Pt.U, Pt.locs, Pt.cells, Pt.slots] at X' e1 e2 h1 h2 h3 st
  subst h1; subst h2; subst h3
  exact ⟨v, (T.setVm vm₁).calling g' mk As.toArray, t, U', L, hT, X', hL, e1, e2, hq, st⟩
/-- not caught here, past rows that name other classes: it goes on to the caller -/
theorem vx_outP {p : Program} {l : Launch} {e : Env} {R : Room} {s : State} {m : MethodId} {args : Array Value} {below : List Frame} {meth : Method} {c : Code} {H : Heap} {locs : List Loc} {cells slots : Nat} {free : Addr → Prop} {ls : Array Slot} {rest : List Value} {Qc : Array Value → State → Outcome → State → Prop} {XC : String → State → State → Prop}
    {pc : Nat} {own E : String} {ce : Cell} {q : Addr} {mc ms : Nat} (hown : s.vm.findClass own = some m.cls) (hlocks : meth.locks = false)
    (hpass : ∀ z ∈ c.exceptionTable.toList, covers z pc = false ∨ (z.catchType ≠ 0 ∧ ∃ nm : String, (Cond.classLink own z.catchType nm).before args s = true ∧ va_Nc E nm s)) (hcell : H[q]? = some ce) (hv : ce.vm = .none) (hcl : s.vm.findClass E = some ce.cls)
    (hx : ∀ t : State, t.heap = H → s.vm.Alike t.vm → XC E s t) (hf : ∀ z ∈ locs, free z.base) (hc : cells ≤ mc) (hs : slots ≤ ms) :
    vx_W p l e R s m args below meth c H locs cells slots (vx_MQ below Qc XC args s mc ms free) (F0 m pc ls rest) q := by
  intro T hT X
  have hpl : e.platform.magicAccessors = ({} : Platform).magicAccessors := by rw [X.admits.platform]
  obtain ⟨vm', hW', X', st⟩ := X.outThrough hlocks q (g := F0 m pc ls rest) rfl rfl rfl (cell := ce) (by rw [hT]; exact hcell) (by rw [hv]; rfl)
    (by obtain ⟨k9, h9, -⟩ := Vm.findClass_spec hcl; exact ⟨k9, h9⟩) (fun z hz => by
      rcases hpass z hz with h | ⟨hz0, nm, hl1, hn1⟩
      · exact Or.inl h
      · obtain ⟨c6, hc6, hcl6⟩ := Cond.classLink_spec hown hl1 e.platform hpl
        obtain ⟨a8, b8, h1, h2, h3⟩ := hn1
        cases Option.some.inj (h1.symm.trans hcl)
        cases Option.some.inj (h2.symm.trans hc6)
        exact Or.inr ⟨hz0, _, hcl6, h3⟩)
  obtain ⟨g₀, hfr⟩ := X'.frames_eq
  have hcell9 : ((T.setVm vm').setFrames (.throwing q :: below)).heap[q]? = some ce := by
    show T.heap[q]? = some ce
    rw [hT]; exact hcell
  have hend : Ended ((T.setVm vm').setFrames (.throwing q :: below)) below (.threw q) := State.frames_setFrames _ (State.cur_lt_of_frames hfr)
  refine ⟨(T.setVm vm').setFrames (.throwing q :: below), ?_, .threw q, X'.here.running, hend, Or.inr ⟨q, rfl, E, ce, locs, hx _ hT (X'.ends _).1.alike, hcell9, hv, hcl, (X'.ends _).1, (X'.ends _).2.mono hc hs, hf⟩⟩
  rw [X.pushThrowing_eq]
  exact st
/-- a thing of a world lies in the heap -/
theorem vx_lt {D : va_G} {cl : List vw_C} {ws : va_W} {H1 : Heap} (h : va_P D cl ws H1) {k : Nat} {q : Nat × va_E} (hk : ws[k]? = some q) : q.1 < H1.size := (h k q hk).lt
end VXS
/-! ===== END ===== -/
/-! ===== BEGIN methods with a table of their own: called by a name, returning or throwing ===== -/
section VXH
/-! vx_backW, vx_callVX, vx_callSX, vx_callVW, vx_runVW, vx_runVX, vx_runSX, vx_ofWH follow the same proofs as their sisters above (Free/Laws.lean, Shelf42/LK1.lean); vx_outP calls Shelf42/NT130.lean (outThrough). -/
section
variable {l : Launch} {R : Room} {p : Program} {e : Env} {below : List Frame} {s : State} {sargs : Array Value} {y : MethodName} {len W9 : Nat}
theorem vx_backW {ws : List Cond} {rm : Room} {Pc : Array Value → State → Prop} {Qc : Array Value → State → Outcome → State → Prop} {XC : String → State → State → Prop} {mc ms : Nat} {free : Addr → Prop} {bytes : ByteArray} {maxL : Nat} {ret : Option FieldType} {hh : List (Nat × Nat × Nat × Nat)}
    (hM : vx_Met l y ws rm Pc Qc XC mc ms free) (hblind : FrameBlind Pc) (hrc : rm.cells = mc) (hrs : rm.slots = ms)
    (hframes : rm.frames + 1 ≤ R.frames) (hlocals : W9 + (maxL + 11) + rm.locals ≤ R.locals)
    (hws : ∀ w ∈ ws, ∀ a' U, s.WarmedH U.vm → w.before a' U = true) (hcode : Cond.codeWith y bytes maxL ret hh ∈ ws) (hinit : ∀ a' U, s.WarmedH U.vm → (Cond.initialized y.cls).before a' U = true) :
    vx_Back l R p e below s sargs y len W9 (PreOf R mc ms Pc) (PostOf Qc mc ms free) (vx_Post XC mc ms free) := by
  intro m meth c A g ig mk a X hg hsize hdg hW hn hp
  have h1 : (headSpec ws rm).pre.before a A.U = true := atoms_intro fun w hw => hws w hw _ _ X.warmed
  have h2 : (Cond.codeWith y bytes maxL ret hh).before a A.U = true := hws _ hcode _ _ X.warmed
  have h3 : (Cond.initialized y.cls).before a A.U = true := hinit _ _ X.warmed
  have h4 : A.cells + (headSpec ws rm).room.cells ≤ R.cells := by rw [show (headSpec ws rm).room.cells = mc from hrc]; exact hp.1
  have h5 : A.slots + (headSpec ws rm).room.slots ≤ R.slots := by rw [show (headSpec ws rm).room.slots = ms from hrs]; exact hp.2.1
  have hPc : Pc a (A.U.calling g mk a) := hblind _ _ _ _ hp.2.2
  obtain ⟨U, Ls, c0, s0⟩ := A
  dsimp only [Pt.U, Pt.locs, Pt.cells, Pt.slots] at h1 h2 h3 h4 h5 X hn hPc ⊢
  obtain ⟨m9, methY, cY, hn9, hmY, hcY, -, hlY, -⟩ := Cond.codeWith_spec h2
  cases Option.some.inj (hn9.symm.trans hn)
  obtain ⟨kY, hkY, -⟩ := className_of_methodNamed hn
  have hinitY : kY.init = .initialized := Cond.initialized_spec (findClass_of_methodNamed hn) hkY h3
  have h : At U g.method c below := by rw [hg]; exact X.here
  have hlocals9 : W9 + (maxL + 11) + (headSpec ws rm).room.locals ≤ R.locals := hlocals
  have happ : (headSpec ws rm).appliesLoose y e.platform (U.calling g mk a) = true :=
    Spec.appliesLoose_calling (g := g) h hdg hn hkY hinitY
      (X.room_calling (g := g) (R' := (headSpec ws rm).room) hsize hmY hcY hframes (by rw [hlY]; omega) h4 h5) h1
  obtain ⟨mid, hmid⟩ := h.above
  have hfr : (U.setTop g).frames = (.java g :: mid) ++ below := by rw [State.frames_setTop' g h.top, hmid]; rfl
  obtain ⟨o, s₂, hsteps, -, hend, hq⟩ := Steps.callFree hM p X.admits X.cas X.clock (acts := []) hfr happ hPc trivial
  have hq' : vx_Q Qc XC mc ms free a (U.calling g mk a) o s₂ := hq
  rw [State.frames_setTop' g h.top] at hend
  obtain ⟨g₀, hg0⟩ := Option.isSome_iff_exists.mp h.top
  obtain ⟨r, hr⟩ := State.topJava?_eq_some.mp hg0
  have hr' : (({ U with heap := s₂.heap, slotsUsed := s₂.slotsUsed } : State).setVm s₂.vm).frames = .java g₀ :: r := hr
  rcases hq' with ⟨hqc, L, hfe, hL⟩ | ⟨q, rfl, E, ce, L, hx, hce, hcv, hcl, hW₂, hsm, hL⟩
  · obtain ⟨⟨v, rfl⟩, hW₂, e2, q2, q3, q4, q5, q6⟩ := id hfe
    have e3 : s₂ = ({ (U.calling g mk a).setFrames s₂.frames with heap := s₂.heap, slotsUsed := s₂.slotsUsed } : State).setVm s₂.vm := by
      have : s₂ = ({ s₂ with vm := (U.calling g mk a).vm } : State).setVm s₂.vm := rfl
      rw [e2] at this
      exact this
    obtain ⟨c₂, i₂, len₂, hc₂, hd₂, hf₂⟩ := hend
    have hW' : U.WarmedH s₂.vm := hW₂
    have hcc : c₂ = c := by
      have h1 : s₂.code? g.method = U.code? g.method := by
        rw [State.code?_eq, State.code?_eq, hW'.alike.method?]
      exact Option.some.inj (hc₂.symm.trans (h1.trans h.code))
    subst hcc
    have hlen : len₂ = len := by rw [hdg] at hd₂; cases hd₂; rfl
    subst hlen
    have hs₂ : s₂ = (({ U with heap := s₂.heap, slotsUsed := s₂.slotsUsed } : State).setVm s₂.vm).setTop { g with pc := g.pc + len₂, stack := v.toList ++ g.stack } := by
      refine e3.trans ?_
      rw [hf₂, State.calling_eq h.top, State.setFrames_setFrames, State.setTop_of_frames _ hr', hr]
      rfl
    have hsame : U.sameButNew ({ U with heap := s₂.heap, slotsUsed := s₂.slotsUsed } : State) L mc ms := by
      refine ⟨?_, q2, q3, q4, q5, q6⟩
      obtain ⟨t, ht, -⟩ := State.frames_cons hr
      show ({ U with heap := s₂.heap, slotsUsed := s₂.slotsUsed } : State) = { U.setFrames U.frames with heap := s₂.heap, slotsUsed := s₂.slotsUsed }
      rw [State.setFrames_self ht]
    subst hg
    refine Or.inl ⟨v, ⟨(({ U with heap := s₂.heap, slotsUsed := s₂.slotsUsed } : State).setVm s₂.vm), Ls ++ L, c0 + mc, s0 + ms⟩,
      ⟨X.admits, X.cas, X.clock, X.frames, X.room, X.hears, X.method, X.code, (X.here.setHeapUsed s₂.heap s₂.slotsUsed).setVm hW'.alike, X.tail, State.WarmedH.trans X.warmed hW', X.limits, X.bytes, X.same.trans (hsame.setVm s.vm)⟩,
      ⟨g, mk, s₂, L, rfl, rfl, hqc, rfl, hL, rfl, rfl⟩, ?_⟩
    show Steps p.tables e below _ ((({ U with heap := s₂.heap, slotsUsed := s₂.slotsUsed } : State).setVm s₂.vm).setTop { g with pc := g.pc + len₂, stack := v.toList ++ g.stack })
    rw [← hs₂]
    exact hsteps
  · obtain ⟨e2, q2, q3, q4, q5, q6⟩ := id hsm
    have e3 : s₂ = ({ (U.calling g mk a).setFrames s₂.frames with heap := s₂.heap, slotsUsed := s₂.slotsUsed } : State).setVm s₂.vm := by
      have : s₂ = ({ s₂ with vm := (U.calling g mk a).vm } : State).setVm s₂.vm := rfl
      rw [e2] at this
      exact this
    have hf₂ : s₂.frames = .throwing q :: .java g :: U.frames.tail := hend
    have hW' : U.WarmedH s₂.vm := hW₂
    have hs₂ : s₂ = ((({ U with heap := s₂.heap, slotsUsed := s₂.slotsUsed } : State).setVm s₂.vm).setTop g).pushFrame (.throwing q) := by
      refine e3.trans ?_
      rw [hf₂, State.calling_eq h.top, State.setFrames_setFrames, State.pushFrame, State.frames_setTop _ hr', State.setTop_of_frames _ hr', State.setFrames_setFrames, hr]
      rfl
    have hsame : U.sameButNew ({ U with heap := s₂.heap, slotsUsed := s₂.slotsUsed } : State) L mc ms := by
      refine ⟨?_, q2, q3, q4, q5, q6⟩
      obtain ⟨t, ht, -⟩ := State.frames_cons hr
      show ({ U with heap := s₂.heap, slotsUsed := s₂.slotsUsed } : State) = { U.setFrames U.frames with heap := s₂.heap, slotsUsed := s₂.slotsUsed }
      rw [State.setFrames_self ht]
    subst hg
    refine Or.inr ⟨q, ⟨(({ U with heap := s₂.heap, slotsUsed := s₂.slotsUsed } : State).setVm s₂.vm), Ls ++ L, c0 + mc, s0 + ms⟩,
      ⟨X.admits, X.cas, X.clock, X.frames, X.room, X.hears, X.method, X.code, (X.here.setHeapUsed s₂.heap s₂.slotsUsed).setVm hW'.alike, X.tail, State.WarmedH.trans X.warmed hW', X.limits, X.bytes, X.same.trans (hsame.setVm s.vm)⟩,
      ⟨g, mk, s₂, L, E, ce, rfl, rfl, hx, hce, hcv, hcl, rfl, hL, rfl, rfl⟩, ?_⟩
    show Steps p.tables e below _ (((({ U with heap := s₂.heap, slotsUsed := s₂.slotsUsed } : State).setVm s₂.vm).setTop g).pushFrame (.throwing q))
    rw [← hs₂]
    exact hsteps
end
variable {p : Program} {l : Launch} {e : Env} {R : Room} {s : State} {m : MethodId} {args : Array Value} {below : List Frame} {meth : Method} {c : Code} {T : State} {H : Heap} {locs : List Loc} {cells slots : Nat}
theorem vx_callVX (X : Stand p l e R s m args below meth c T locs cells slots) (hexec : p.tables.exec = Jvm.exec) {own C : String} {index : Nat} {y : MethodName} {bytes : ByteArray} {maxL : Nat} {ret : Option FieldType} {hh : List (Nat × Nat × Nat × Nat)}
    (hown : s.vm.findClass own = some m.cls) (hlink : (Cond.methodLink own index y).before args s = true) (hinst : (Cond.instanceMethod y).before args s = true) (hsel : (Cond.selects C y y).before args s = true)
    (hcode : (Cond.codeWith y bytes maxL ret hh).before args s = true) (hy : y.cls ≠ "java/lang/invoke/MethodHandle" ∧ y.cls ≠ "java/lang/invoke/VarHandle")
    {W9 : Nat} {Pre : Pt → Array Value → Prop} {Post : Pt → Array Value → Option Value → Pt → Prop} {PostX : Pt → Array Value → Addr → Pt → Prop} (hK : vx_Back l R p e below s args y 3 W9 Pre Post PostX)
    {b : Addr} {cellB : Cell} (hcell : T.heap[b]? = some cellB) (hobj : cellB.vm.isStatics = false) (hcls : s.vm.findClass C = some cellB.cls)
    {g : JFrame} (hg : g.method = m) (hsize : g.locals.size = c.maxLocals) {argsL rest : List Value} (hlen : ∀ sig, parseMethodDescriptor y.desc = some sig → argsL.length = sig.parameters.length)
    (hstack : g.stack = argsL.reverse ++ .ref b :: rest) (hW : 2 * g.monitorRoom + (rest.map fun v => v.category).sum ≤ W9) (hdg : decode c.code g.pc = .ok (.invokevirtual index, 3))
    (hpre : ∀ vm₁, s.WarmedH vm₁ → Pre ⟨T.setVm vm₁, locs, cells, slots⟩ (Value.ref b :: argsL).toArray) :
    (∃ (v : Option Value) (vm₁ : Vm) (B : Pt), s.WarmedH vm₁ ∧ Stand p l e R s m args below meth c B.U B.locs B.cells B.slots ∧ Post ⟨T.setVm vm₁, locs, cells, slots⟩ (Value.ref b :: argsL).toArray v B ∧
      ∀ target, Steps p.tables e below (B.U.setTop { g with pc := g.pc + 3, stack := v.toList ++ rest }) target → Steps p.tables e below (T.setTop g) target) ∨
    (∃ (q : Addr) (vm₁ : Vm) (B : Pt), s.WarmedH vm₁ ∧ Stand p l e R s m args below meth c B.U B.locs B.cells B.slots ∧ PostX ⟨T.setVm vm₁, locs, cells, slots⟩ (Value.ref b :: argsL).toArray q B ∧
      Steps p.tables e below (T.setTop g) ((B.U.setTop { g with stack := rest }).pushFrame (.throwing q))) := by
  obtain ⟨mk, methM, hnamed, hmethM, hstM, habM⟩ := Cond.instanceMethod_spec hinst
  obtain ⟨m8, methM', cM, hn8, hmethM', -, -, -, -, -, -, hsigM⟩ := Cond.codeWith_spec hcode
  cases Option.some.inj (hn8.symm.trans hnamed)
  cases hmethM.symm.trans hmethM'
  obtain ⟨c2, r2, m2, q1, q2, q3, q4, kP, hkP, hkPi⟩ := Cond.selects_spec hsel
  cases hcls.symm.trans q1
  cases (State.methodFound?_of_named hnamed hy).symm.trans q2
  cases hnamed.symm.trans q3
  have hselP : selectMethod e.platform s.vm cellB.cls mk = .method mk := by rw [Launch.admits_selectMethod X.admits]; exact q4
  obtain ⟨vm₁, X₁, hstep₁⟩ := X.invokevirtual hexec hown hlink hnamed hmethM hstM hkP hkPi hy (a := b) (cell := cellB) hcell
    (fun z h => by rw [h] at hobj; cases hobj) hselP hmethM habM hkP hkPi (g := g) hg (argsL := argsL) (rest := rest) (hlen _ hsigM) hstack hdg
  rcases hK m meth c ⟨T.setVm vm₁, locs, cells, slots⟩ { g with stack := rest } (.invokevirtual index) mk (Value.ref b :: argsL).toArray X₁ hg hsize hdg hW (X₁.named hnamed) (hpre vm₁ X₁.warmed) with ⟨v, B, X', hpost, hsteps⟩ | ⟨q, B, X', hpost, hsteps⟩
  · exact Or.inl ⟨v, vm₁, B, X₁.warmed, X', hpost, fun target h => hstep₁ _ fun acts => by rw [doInvoke_state]; exact hsteps.trans h⟩
  · exact Or.inr ⟨q, vm₁, B, X₁.warmed, X', hpost, hstep₁ _ fun acts => by rw [doInvoke_state]; exact hsteps⟩
theorem vx_callSX (X : Stand p l e R s m args below meth c T locs cells slots) (hexec : p.tables.exec = Jvm.exec) {own : String} {index : Nat} {y : MethodName} {bytes : ByteArray} {maxL : Nat} {ret : Option FieldType} {hh : List (Nat × Nat × Nat × Nat)}
    (hown : s.vm.findClass own = some m.cls) (hlink : (Cond.methodLink own index y).before args s = true) (hstat : (Cond.static y).before args s = true) (hinit : (Cond.initialized y.cls).before args s = true)
    (hcode : (Cond.codeWith y bytes maxL ret hh).before args s = true) (hy : y.cls ≠ "java/lang/invoke/MethodHandle" ∧ y.cls ≠ "java/lang/invoke/VarHandle")
    {W9 : Nat} {Pre : Pt → Array Value → Prop} {Post : Pt → Array Value → Option Value → Pt → Prop} {PostX : Pt → Array Value → Addr → Pt → Prop} (hK : vx_Back l R p e below s args y 3 W9 Pre Post PostX)
    {g : JFrame} (hg : g.method = m) (hsize : g.locals.size = c.maxLocals) {argsL rest : List Value} (hlen : ∀ sig, parseMethodDescriptor y.desc = some sig → argsL.length = sig.parameters.length)
    (hstack : g.stack = argsL.reverse ++ rest) (hW : 2 * g.monitorRoom + (rest.map fun v => v.category).sum ≤ W9) (hdg : decode c.code g.pc = .ok (.invokestatic index, 3))
    (hpre : ∀ vm₁, s.WarmedH vm₁ → Pre ⟨T.setVm vm₁, locs, cells, slots⟩ argsL.toArray) :
    (∃ (v : Option Value) (vm₁ : Vm) (B : Pt), s.WarmedH vm₁ ∧ Stand p l e R s m args below meth c B.U B.locs B.cells B.slots ∧ Post ⟨T.setVm vm₁, locs, cells, slots⟩ argsL.toArray v B ∧
      ∀ target, Steps p.tables e below (B.U.setTop { g with pc := g.pc + 3, stack := v.toList ++ rest }) target → Steps p.tables e below (T.setTop g) target) ∨
    (∃ (q : Addr) (vm₁ : Vm) (B : Pt), s.WarmedH vm₁ ∧ Stand p l e R s m args below meth c B.U B.locs B.cells B.slots ∧ PostX ⟨T.setVm vm₁, locs, cells, slots⟩ argsL.toArray q B ∧
      Steps p.tables e below (T.setTop g) ((B.U.setTop { g with stack := rest }).pushFrame (.throwing q))) := by
  obtain ⟨mk, methM, cM, hnamed, hmethM, -, -, -, -, -, -, hsigM⟩ := Cond.codeWith_spec hcode
  have hstatic : methM.isStatic = true := Cond.static_spec hnamed hmethM hstat
  obtain ⟨kP, hkP, -⟩ := className_of_methodNamed hnamed
  have hinitP : kP.init = .initialized := Cond.initialized_spec (findClass_of_methodNamed hnamed) hkP hinit
  obtain ⟨vm₁, X₁, hstep₁⟩ := X.invokestatic hexec hown hlink hnamed hmethM hstatic hkP hinitP hy (g := g) hg (argsL := argsL) (rest := rest) (hlen _ hsigM) hstack hdg
  rcases hK m meth c ⟨T.setVm vm₁, locs, cells, slots⟩ { g with stack := rest } (.invokestatic index) mk argsL.toArray X₁ hg hsize hdg hW (X₁.named hnamed) (hpre vm₁ X₁.warmed) with ⟨v, B, X', hpost, hsteps⟩ | ⟨q, B, X', hpost, hsteps⟩
  · exact Or.inl ⟨v, vm₁, B, X₁.warmed, X', hpost, fun target h => hstep₁ _ fun acts => by rw [doInvoke_state]; exact hsteps.trans h⟩
  · exact Or.inr ⟨q, vm₁, B, X₁.warmed, X', hpost, hstep₁ _ fun acts => by rw [doInvoke_state]; exact hsteps⟩
theorem vx_callVW (X : Stand p l e R s m args below meth c T locs cells slots) (hexec : p.tables.exec = Jvm.exec) {own C : String} {index : Nat} {y : MethodName} {bytes : ByteArray} {maxL : Nat} {ret : Option FieldType} {hh : List (Nat × Nat × Nat × Nat)}
    (hown : s.vm.findClass own = some m.cls) (hlink : (Cond.methodLink own index y).before args s = true) (hinst : (Cond.instanceMethod y).before args s = true) (hsel : (Cond.selects C y y).before args s = true)
    (hcode : (Cond.codeWith y bytes maxL ret hh).before args s = true) (hy : y.cls ≠ "java/lang/invoke/MethodHandle" ∧ y.cls ≠ "java/lang/invoke/VarHandle")
    {W9 : Nat} {Pre : Pt → Array Value → Prop} {Post : Pt → Array Value → Option Value → Pt → Prop} (hK : Back l R p e below s args y 3 W9 Pre Post)
    {b : Addr} {cellB : Cell} (hcell : T.heap[b]? = some cellB) (hobj : cellB.vm.isStatics = false) (hcls : s.vm.findClass C = some cellB.cls)
    {g : JFrame} (hg : g.method = m) (hsize : g.locals.size = c.maxLocals) {argsL rest : List Value} (hlen : ∀ sig, parseMethodDescriptor y.desc = some sig → argsL.length = sig.parameters.length)
    (hstack : g.stack = argsL.reverse ++ .ref b :: rest) (hW : 2 * g.monitorRoom + (rest.map fun v => v.category).sum ≤ W9) (hdg : decode c.code g.pc = .ok (.invokevirtual index, 3))
    (hpre : ∀ vm₁, s.WarmedH vm₁ → Pre ⟨T.setVm vm₁, locs, cells, slots⟩ (Value.ref b :: argsL).toArray) :
    ∃ (v : Option Value) (vm₁ : Vm) (B : Pt), s.WarmedH vm₁ ∧ Stand p l e R s m args below meth c B.U B.locs B.cells B.slots ∧ Post ⟨T.setVm vm₁, locs, cells, slots⟩ (Value.ref b :: argsL).toArray v B ∧
      ∀ target, Steps p.tables e below (B.U.setTop { g with pc := g.pc + 3, stack := v.toList ++ rest }) target → Steps p.tables e below (T.setTop g) target := by
  obtain ⟨mk, methM, hnamed, hmethM, hstM, habM⟩ := Cond.instanceMethod_spec hinst
  obtain ⟨m8, methM', cM, hn8, hmethM', -, -, -, -, -, -, hsigM⟩ := Cond.codeWith_spec hcode
  cases Option.some.inj (hn8.symm.trans hnamed)
  cases hmethM.symm.trans hmethM'
  obtain ⟨c2, r2, m2, q1, q2, q3, q4, kP, hkP, hkPi⟩ := Cond.selects_spec hsel
  cases hcls.symm.trans q1
  cases (State.methodFound?_of_named hnamed hy).symm.trans q2
  cases hnamed.symm.trans q3
  have hselP : selectMethod e.platform s.vm cellB.cls mk = .method mk := by rw [Launch.admits_selectMethod X.admits]; exact q4
  obtain ⟨vm₁, X₁, hstep₁⟩ := X.invokevirtual hexec hown hlink hnamed hmethM hstM hkP hkPi hy (a := b) (cell := cellB) hcell
    (fun z h => by rw [h] at hobj; cases hobj) hselP hmethM habM hkP hkPi (g := g) hg (argsL := argsL) (rest := rest) (hlen _ hsigM) hstack hdg
  obtain ⟨v, B, X', hpost, hsteps⟩ := hK m meth c ⟨T.setVm vm₁, locs, cells, slots⟩ { g with stack := rest } (.invokevirtual index) mk (Value.ref b :: argsL).toArray X₁ hg hsize hdg hW (X₁.named hnamed) (hpre vm₁ X₁.warmed)
  exact ⟨v, vm₁, B, X₁.warmed, X', hpost, fun target h => hstep₁ _ fun acts => by rw [doInvoke_state]; exact hsteps.trans h⟩
abbrev vx_CVW (R : Room) (s : State) (args : Array Value) (own C : String) (index : Nat) (y : MethodName) (bytes : ByteArray) (maxL : Nat) (ret : Option FieldType) (hh : List (Nat × Nat × Nat × Nat)) (ws : List Cond) (rm : Room) (mc ms n : Nat) : Prop :=
  (rm.cells = mc ∧ rm.slots = ms ∧ rm.frames + 1 ≤ R.frames ∧ 8 + (maxL + 11) + rm.locals ≤ R.locals ∧ (∀ w ∈ ws, ∀ (a' : Array Value) (U : State), s.WarmedH U.vm → w.before a' U = true) ∧ Cond.codeWith y bytes maxL ret hh ∈ ws) ∧
  (Cond.codeWith y bytes maxL ret hh).before args s = true ∧ (Cond.initialized y.cls).before args s = true ∧ (y.cls ≠ "java/lang/invoke/MethodHandle" ∧ y.cls ≠ "java/lang/invoke/VarHandle") ∧
  (∀ sig, parseMethodDescriptor y.desc = some sig → n = sig.parameters.length) ∧ (Cond.methodLink own index y).before args s = true ∧ (Cond.instanceMethod y).before args s = true ∧ (Cond.selects C y y).before args s = true
theorem vx_cwVW {own C : String} {index maxL mc ms : Nat} {y : MethodName} {bytes : ByteArray} {ret : Option FieldType} {hh : List (Nat × Nat × Nat × Nat)} {Ts ws ws' : List Cond} {rm : Room} (n : Nat) (ht : ∀ w ∈ Ts, w.before args s = true) (hT : GoodIn Ts (wsV own index C y ws)) (hw : ws = Cond.codeWith y bytes maxL ret hh :: ws') (hrc : rm.cells = mc) (hrs : rm.slots = ms)
    (hd : y.cls = C ∧ y.cls ≠ "java/lang/invoke/MethodHandle" ∧ y.cls ≠ "java/lang/invoke/VarHandle" ∧ (parseMethodDescriptor y.desc).map (fun d => d.parameters.length) = some n) (hR : rm.frames + 1 ≤ R.frames ∧ 8 + (maxL + 11) + rm.locals ≤ R.locals) :
    vx_CVW R s args own C index y bytes maxL ret hh ws rm mc ms n := by
  obtain ⟨hC, hd⟩ := hd
  subst hC
  have ok : ∀ w ∈ wsV own index y.cls y ws, w.before args s = true := fun w h => ht w (hT w h).1
  have hG : GoodIn Ts ws := fun w h => hT w (by unfold wsV; exact List.mem_append_right _ h)
  have hc : Cond.codeWith y bytes maxL ret hh ∈ ws := by rw [hw]; exact List.mem_cons_self
  refine ⟨⟨hrc, hrs, hR.1, hR.2, pay_in ht hG, hc⟩, ht _ (hG _ hc).1, ok _ (by simp [wsV]), ⟨hd.1, hd.2.1⟩, fun sig h => ?_, ok _ (by simp [wsV]), ok _ (by simp [wsV]), ok _ (by simp [wsV])⟩
  have h2 := hd.2.2
  rw [h] at h2
  exact (Option.some.inj h2).symm
theorem vx_runVW {y : MethodName} {bytes cc : ByteArray} {maxL nL mc ms n index : Nat} {ret : Option FieldType} {hh : List (Nat × Nat × Nat × Nat)} {ws : List Cond} {rm : Room} {Pc : Array Value → State → Prop} {Qc : Array Value → State → Outcome → State → Prop} {free : Addr → Prop} {Ts : List Cond} {own C : String} {b : Addr} {As rest : List Value} {g : JFrame}
    (S : CallFix p m c cc nL s args Ts own) (hM : Met l y ws rm Pc Qc mc ms free) (cw : vx_CVW R s args own C index y bytes maxL ret hh ws rm mc ms n) (hp : PreV s H C b Pc As)
    (hg : g.method = m) (hn : As.length = n) (hsize : g.locals.size = nL) (hstack : g.stack = As.reverse ++ .ref b :: rest) (hW : 2 * g.monitorRoom + (rest.map fun v => v.category).sum ≤ 8) (hdg : decode cc g.pc = .ok (.invokevirtual index, 3)) (hf : cells + mc ≤ R.cells ∧ slots + ms ≤ R.slots) :
    va_Run p l e R s m args below meth c H locs cells slots mc ms g rest (Qc (Value.ref b :: As).toArray) free := by
  obtain ⟨⟨hrc, hrs, hfr, hlo, hws, hcw⟩, hcode, hini, hy, hlen, hl, hin, hse⟩ := cw
  have hK : Back l R p e below s args y 3 8 (PreOf R mc ms Pc) (PostOf Qc mc ms free) := va_backW (hh := hh) (bytes := bytes) (maxL := maxL) (ret := ret) hM hp.1 hrc hrs hfr hlo hws hcw (fun a' U hW => word_at hW (Or.inl (by first | rfl | simp [Cond.onTables, Cond.keeps, Cond.steady])) hini)
  obtain ⟨hx, hb, hml, ho, -⟩ := S
  obtain ⟨-, ⟨cellB, hcB, hoB, hclB⟩, hPc⟩ := hp
  intro T hT X
  obtain ⟨v, vm₁, ⟨U', l2, c2, s2⟩, hW₁, X', ⟨g', mk, t, L, e1, e2, hq, h1, hL, h2, h3⟩, st⟩ := vx_callVW X hx (C := C) (hh := hh) (bytes := bytes) (maxL := maxL) (ret := ret) ho hl hin hse hcode hy hK (by rw [hT]; exact hcB) hoB hclB hg (hsize.trans hml.symm) (argsL := As) (rest := rest) (fun sig h => hn.trans (hlen sig h)) hstack hW (by rw [hb]; exact hdg)
    (fun vm₁ hW₁ => ⟨hf.1, hf.2, hPc (T.setVm vm₁) hT hW₁⟩)
  dsimp only [Pt.U, Pt.locs, Pt.cells, Pt.slots] at X' e1 e2 h1 h2 h3 st
  subst h1; subst h2; subst h3
  exact ⟨v, (T.setVm vm₁).calling g' mk (Value.ref b :: As).toArray, t, U', L, hT, X', hL, e1, e2, hq, st⟩
section
variable {y : MethodName} {bytes cc : ByteArray} {maxL nL mc ms n index : Nat} {ret : Option FieldType} {ws : List Cond} {rm : Room} {Pc : Array Value → State → Prop} {Qc : Array Value → State → Outcome → State → Prop} {XC : String → State → State → Prop} {free : Addr → Prop} {Ts : List Cond} {own C : String} {b : Addr} {As rest : List Value} {g : JFrame}
theorem vx_runVX {hh : List (Nat × Nat × Nat × Nat)} (S : CallFix p m c cc nL s args Ts own) (hM : vx_Met l y ws rm Pc Qc XC mc ms free) (cw : vx_CVW R s args own C index y bytes maxL ret hh ws rm mc ms n) (hp : PreV s H C b Pc As)
    (hg : g.method = m) (hn : As.length = n) (hsize : g.locals.size = nL) (hstack : g.stack = As.reverse ++ .ref b :: rest) (hW : 2 * g.monitorRoom + (rest.map fun v => v.category).sum ≤ 8) (hdg : decode cc g.pc = .ok (.invokevirtual index, 3)) (hf : cells + mc ≤ R.cells ∧ slots + ms ≤ R.slots) :
    vx_Run p l e R s m args below meth c H locs cells slots mc ms g rest (Qc (Value.ref b :: As).toArray) XC free := by
  obtain ⟨⟨hrc, hrs, hfr, hlo, hws, hcw⟩, hcode, hini, hy, hlen, hl, hin, hse⟩ := cw
  have hK : vx_Back l R p e below s args y 3 8 (PreOf R mc ms Pc) (PostOf Qc mc ms free) (vx_Post XC mc ms free) := vx_backW (hh := hh) (bytes := bytes) (maxL := maxL) (ret := ret) hM hp.1 hrc hrs hfr hlo hws hcw (fun a' U hW => word_at hW (Or.inl (by first | rfl | simp [Cond.onTables, Cond.keeps, Cond.steady])) hini)
  obtain ⟨hx, hb, hml, ho, -⟩ := S
  obtain ⟨-, ⟨cellB, hcB, hoB, hclB⟩, hPc⟩ := hp
  intro T hT X
  rcases vx_callVX X hx (C := C) (hh := hh) (bytes := bytes) (maxL := maxL) (ret := ret) ho hl hin hse hcode hy hK (by rw [hT]; exact hcB) hoB hclB hg (hsize.trans hml.symm) (argsL := As) (rest := rest) (fun sig h => hn.trans (hlen sig h)) hstack hW (by rw [hb]; exact hdg)
    (fun vm₁ hW₁ => ⟨hf.1, hf.2, hPc (T.setVm vm₁) hT hW₁⟩) with ⟨v, vm₁, ⟨U', l2, c2, s2⟩, hW₁, X', ⟨g', mk, t, L, e1, e2, hq, h1, hL, h2, h3⟩, st⟩ | ⟨q, vm₁, ⟨U', l2, c2, s2⟩, hW₁, X', ⟨g', mk, t, L, E, ce, e1, e2, hq, hce, hcv, hcl, h1, hL, h2, h3⟩, st⟩
  · dsimp only [Pt.U, Pt.locs, Pt.cells, Pt.slots] at X' e1 e2 h1 h2 h3 st
    subst h1; subst h2; subst h3
    exact Or.inl ⟨v, (T.setVm vm₁).calling g' mk (Value.ref b :: As).toArray, t, U', L, hT, X', hL, e1, e2, hq, st⟩
  · dsimp only [Pt.U, Pt.locs, Pt.cells, Pt.slots] at X' e1 e2 h1 h2 h3 st hcl
    subst h1; subst h2; subst h3
    exact Or.inr ⟨q, (T.setVm vm₁).calling g' mk (Value.ref b :: As).toArray, t, U', L, E, ce, hT, X', hL, e1, e2, hq, hce, hcv, vx_cls hW₁ hcl, st⟩
theorem vx_runSX {hh : List (Nat × Nat × Nat × Nat)} (S : CallFix p m c cc nL s args Ts own) (hM : vx_Met l y ws rm Pc Qc XC mc ms free) (cw : vx_CSW R s args own index y bytes maxL ret hh ws rm mc ms n) (hp : PreS s H Pc As)
    (hg : g.method = m) (hn : As.length = n) (hsize : g.locals.size = nL) (hstack : g.stack = As.reverse ++ rest) (hW : 2 * g.monitorRoom + (rest.map fun v => v.category).sum ≤ 8) (hdg : decode cc g.pc = .ok (.invokestatic index, 3)) (hf : cells + mc ≤ R.cells ∧ slots + ms ≤ R.slots) :
    vx_Run p l e R s m args below meth c H locs cells slots mc ms g rest (Qc As.toArray) XC free := by
  obtain ⟨⟨hrc, hrs, hfr, hlo, hws, hcw⟩, hcode, hini, hy, hlen, hl, hstt⟩ := cw
  have hK : vx_Back l R p e below s args y 3 8 (PreOf R mc ms Pc) (PostOf Qc mc ms free) (vx_Post XC mc ms free) := vx_backW (hh := hh) (bytes := bytes) (maxL := maxL) (ret := ret) hM hp.1 hrc hrs hfr hlo hws hcw (fun a' U hW => word_at hW (Or.inl (by first | rfl | simp [Cond.onTables, Cond.keeps, Cond.steady])) hini)
  obtain ⟨hx, hb, hml, ho, -⟩ := S
  intro T hT X
  rcases vx_callSX X hx (hh := hh) (bytes := bytes) (maxL := maxL) (ret := ret) ho hl hstt hini hcode hy hK hg (hsize.trans hml.symm) (argsL := As) (rest := rest) (fun sig h => hn.trans (hlen sig h)) hstack hW (by rw [hb]; exact hdg)
    (fun vm₁ hW₁ => ⟨hf.1, hf.2, hp.2 (T.setVm vm₁) hT hW₁⟩) with ⟨v, vm₁, ⟨U', l2, c2, s2⟩, hW₁, X', ⟨g', mk, t, L, e1, e2, hq, h1, hL, h2, h3⟩, st⟩ | ⟨q, vm₁, ⟨U', l2, c2, s2⟩, hW₁, X', ⟨g', mk, t, L, E, ce, e1, e2, hq, hce, hcv, hcl, h1, hL, h2, h3⟩, st⟩
  · dsimp only [Pt.U, Pt.locs, Pt.cells, Pt.slots] at X' e1 e2 h1 h2 h3 st
    subst h1; subst h2; subst h3
    exact Or.inl ⟨v, (T.setVm vm₁).calling g' mk As.toArray, t, U', L, hT, X', hL, e1, e2, hq, st⟩
  · dsimp only [Pt.U, Pt.locs, Pt.cells, Pt.slots] at X' e1 e2 h1 h2 h3 st hcl
    subst h1; subst h2; subst h3
    exact Or.inr ⟨q, (T.setVm vm₁).calling g' mk As.toArray, t, U', L, E, ce, hT, X', hL, e1, e2, hq, hce, hcv, vx_cls hW₁ hcl, st⟩
end
end VXH
theorem vx_ofWH {l : Launch} {y : MethodName} {ws ws' : List Cond} {rm : Room} {Pc : Array Value → State → Prop} {Qc : Array Value → State → Outcome → State → Prop} {XC : String → State → State → Prop} {mc ms : Nat} {free : Addr → Prop} {cc : ByteArray} {maxL : Nat} {ret : Option FieldType} {hh : List (Nat × Nat × Nat × Nat)}
    (hy : plainName y.cls = true) (hw : ws = Cond.codeWith y cc maxL ret hh :: ws')
    (body : ∀ p e s m args below meth c s₁, BodyLoose p l y (headSpec ws rm) cc maxL ret e s m args below meth c s₁ → c.maxLocals = maxL → Pc args s →
      W p l e (headSpec ws rm).room s m args below meth c s.heap [] 0 0 (vx_MQ below Qc XC args s mc ms free) (entryFrame m args maxL)) : vx_Met l y ws rm Pc Qc XC mc ms free := by
  refine MetFree.of_bodyS (code := cc) (maxLocals := maxL) (ret := ret) hy ?_ ?_
  · intro args s m h hn
    obtain ⟨m9, meth, c, hn9, h1, h2, h3, h4, -, h5, h6, -⟩ := Cond.codeWith_spec (atoms_spec (ws := ws) h _ (by rw [hw]; exact List.mem_cons_self))
    cases hn.symm.trans hn9
    exact ⟨meth, c, h1, h2, h3, h4, h5, h6⟩
  · intro p e s m args below meth c s₁ B hml hP _
    have hh0 : s₁.heap = s.heap := by rw [B.state]; rfl
    obtain ⟨t, a1, o, b1, b2, b3⟩ := body p e s m args below meth c s₁ B hml hP s₁ hh0 (Stand.of_body B)
    exact ⟨t, o, a1, b1, b2, b3⟩
/-! ===== END ===== -/
end
section
/-! Own: names of classes, fields, methods; the good words of the tables. -/
def R_L : String := "LeastBounds"
def F_L : u_T := fun k => match k with
  | 0 => ("LeastBounds", "depth", "I", true)
  | 1 => ("LeastBounds", "classes", "LLeastBounds$Classes;", true)
  | 2 => ("LeastBounds", "types", "LLeastBounds$Types;", true)
  | 3 => ("LeastBounds", "answers", "LLeastBounds$Answers;", true)
  | 4 => ("LeastBounds", "row", "[I", true)
  | _ => ("LeastBounds", "gathered", "[I", true)
def ty_L : Nat → FieldType := fun k => match k with
  | 0 => .int
  | 1 => .object "LeastBounds$Classes"
  | 2 => .object "LeastBounds$Types"
  | 3 => .object "LeastBounds$Answers"
  | 4 => .array .int
  | _ => .array .int
theorem nn_L : ∀ a, a < 6 → ∀ b, b < 6 → a ≠ b → (F_L a).2.1 ≠ (F_L b).2.1 := by decide +kernel
theorem tyok_L : ∀ k, k < 6 → parseFieldDescriptor (F_L k).2.2.1 = some (ty_L k) := by decide +kernel
def R_C : String := "LeastBounds$Classes"
def F_C : u_T := fun k => match k with
  | 0 => ("LeastBounds$Classes", "faces", "[Z", true)
  | 1 => ("LeastBounds$Classes", "generics", "[Z", true)
  | 2 => ("LeastBounds$Classes", "above", "[I", true)
  | 3 => ("LeastBounds$Classes", "directCounts", "[I", true)
  | 4 => ("LeastBounds$Classes", "directs", "[I", true)
  | 5 => ("LeastBounds$Classes", "tolds", "[I", true)
  | 6 => ("LeastBounds$Classes", "count", "I", false)
  | _ => ("LeastBounds$Classes", "countGeneric", "I", false)
def ty_C : Nat → FieldType := fun k => match k with
  | 0 => .array .boolean
  | 1 => .array .boolean
  | 2 => .array .int
  | 3 => .array .int
  | 4 => .array .int
  | 5 => .array .int
  | 6 => .int
  | _ => .int
theorem nn_C : ∀ a, a < 8 → ∀ b, b < 8 → a ≠ b → (F_C a).2.1 ≠ (F_C b).2.1 := by decide +kernel
theorem tyok_C : ∀ k, k < 8 → parseFieldDescriptor (F_C k).2.2.1 = some (ty_C k) := by decide +kernel
def R_T : String := "LeastBounds$Types"
def F_T : u_T := fun k => match k with
  | 0 => ("LeastBounds$Types", "kinds", "[I", true)
  | 1 => ("LeastBounds$Types", "named", "[I", true)
  | 2 => ("LeastBounds$Types", "arguments", "[I", true)
  | 3 => ("LeastBounds$Types", "elements", "[I", true)
  | 4 => ("LeastBounds$Types", "sizes", "[I", true)
  | 5 => ("LeastBounds$Types", "partStarts", "[I", true)
  | 6 => ("LeastBounds$Types", "partCounts", "[I", true)
  | 7 => ("LeastBounds$Types", "parts", "[I", false)
  | 8 => ("LeastBounds$Types", "partsUsed", "I", false)
  | 9 => ("LeastBounds$Types", "count", "I", false)
  | 10 => ("LeastBounds$Types", "settledParts", "I", false)
  | _ => ("LeastBounds$Types", "settledCount", "I", false)
def ty_T : Nat → FieldType := fun k => match k with
  | 0 => .array .int
  | 1 => .array .int
  | 2 => .array .int
  | 3 => .array .int
  | 4 => .array .int
  | 5 => .array .int
  | 6 => .array .int
  | 7 => .array .int
  | 8 => .int
  | 9 => .int
  | 10 => .int
  | _ => .int
theorem nn_T : ∀ a, a < 12 → ∀ b, b < 12 → a ≠ b → (F_T a).2.1 ≠ (F_T b).2.1 := by decide +kernel
theorem tyok_T : ∀ k, k < 12 → parseFieldDescriptor (F_T k).2.2.1 = some (ty_T k) := by decide +kernel
def R_A : String := "LeastBounds$Answers"
def F_A : u_T := fun k => match k with
  | 0 => ("LeastBounds$Answers", "cells", "[I", true)
  | _ => ("LeastBounds$Answers", "empty", "Z", false)
def ty_A : Nat → FieldType := fun k => match k with
  | 0 => .array .int
  | _ => .boolean
theorem nn_A : ∀ a, a < 2 → ∀ b, b < 2 → a ≠ b → (F_A a).2.1 ≠ (F_A b).2.1 := by decide +kernel
theorem tyok_A : ∀ k, k < 2 → parseFieldDescriptor (F_A k).2.2.1 = some (ty_A k) := by decide +kernel
def R_M : String := "LeastBoundsModel"
def F_M : u_T := fun k => match k with
  | 0 => ("LeastBoundsModel", "code", "I", false)
  | 1 => ("LeastBoundsModel", "depth", "I", true)
  | 2 => ("LeastBoundsModel", "classes", "I", false)
  | 3 => ("LeastBoundsModel", "generics", "I", false)
  | 4 => ("LeastBoundsModel", "face", "[Z", true)
  | 5 => ("LeastBoundsModel", "generic", "[Z", true)
  | 6 => ("LeastBoundsModel", "directs", "[I", true)
  | 7 => ("LeastBoundsModel", "directTo", "[I", true)
  | 8 => ("LeastBoundsModel", "directArg", "[I", true)
  | 9 => ("LeastBoundsModel", "over", "[I", true)
  | 10 => ("LeastBoundsModel", "types", "I", false)
  | 11 => ("LeastBoundsModel", "kind", "[I", true)
  | 12 => ("LeastBoundsModel", "classOf", "[I", true)
  | 13 => ("LeastBoundsModel", "how", "[I", true)
  | 14 => ("LeastBoundsModel", "inner", "[I", true)
  | 15 => ("LeastBoundsModel", "made", "[I", true)
  | 16 => ("LeastBoundsModel", "partCount", "[I", true)
  | 17 => ("LeastBoundsModel", "partRow", "[I", true)
  | 18 => ("LeastBoundsModel", "full", "Z", false)
  | 19 => ("LeastBoundsModel", "found", "Z", false)
  | 20 => ("LeastBoundsModel", "foundHow", "I", false)
  | 21 => ("LeastBoundsModel", "foundType", "I", false)
  | 22 => ("LeastBoundsModel", "row", "[I", true)
  | 23 => ("LeastBoundsModel", "below", "[Z", true)
  | 24 => ("LeastBoundsModel", "reckoned", "I", false)
  | 25 => ("LeastBoundsModel", "high", "I", false)
  | 26 => ("LeastBoundsModel", "left", "[I", true)
  | 27 => ("LeastBoundsModel", "right", "[I", true)
  | 28 => ("LeastBoundsModel", "deep", "[I", true)
  | 29 => ("LeastBoundsModel", "stage", "[I", true)
  | 30 => ("LeastBoundsModel", "least", "[I", true)
  | 31 => ("LeastBoundsModel", "at", "[I", true)
  | 32 => ("LeastBoundsModel", "size", "[I", true)
  | 33 => ("LeastBoundsModel", "parts", "[I", true)
  | _ => ("LeastBoundsModel", "answer", "I", false)
def ty_M : Nat → FieldType := fun k => match k with
  | 0 => .int
  | 1 => .int
  | 2 => .int
  | 3 => .int
  | 4 => .array .boolean
  | 5 => .array .boolean
  | 6 => .array .int
  | 7 => .array .int
  | 8 => .array .int
  | 9 => .array .int
  | 10 => .int
  | 11 => .array .int
  | 12 => .array .int
  | 13 => .array .int
  | 14 => .array .int
  | 15 => .array .int
  | 16 => .array .int
  | 17 => .array .int
  | 18 => .boolean
  | 19 => .boolean
  | 20 => .int
  | 21 => .int
  | 22 => .array .int
  | 23 => .array .boolean
  | 24 => .int
  | 25 => .int
  | 26 => .array .int
  | 27 => .array .int
  | 28 => .array .int
  | 29 => .array .int
  | 30 => .array .int
  | 31 => .array .int
  | 32 => .array .int
  | 33 => .array .int
  | _ => .int
theorem nn_M : ∀ a, a < 35 → ∀ b, b < 35 → a ≠ b → (F_M a).2.1 ≠ (F_M b).2.1 := by decide +kernel
theorem tyok_M : ∀ k, k < 35 → parseFieldDescriptor (F_M k).2.2.1 = some (ty_M k) := by decide +kernel
def R_W : String := "LeastBoundsLaw"
def R_J : String := "java/lang/Integer"
abbrev vwCl : List vw_C := [(R_L, F_L, 6), (R_C, F_C, 8), (R_T, F_T, 12), (R_A, F_A, 2), (R_M, F_M, 35)]
abbrev b_L_init : ByteArray := prog_1_method_1_code
def y_L_init : MethodName := ⟨"LeastBounds", "<init>", "(I)V"⟩
abbrev b_L_declare : ByteArray := prog_1_method_2_code
def y_L_declare : MethodName := ⟨"LeastBounds", "declare", "(ZZ)I"⟩
abbrev b_L_above : ByteArray := prog_1_method_3_code
def y_L_above : MethodName := ⟨"LeastBounds", "above", "(II)I"⟩
abbrev b_L_named : ByteArray := prog_1_method_4_code
def y_L_named : MethodName := ⟨"LeastBounds", "named", "(III)I"⟩
abbrev b_L_array : ByteArray := prog_1_method_5_code
def y_L_array : MethodName := ⟨"LeastBounds", "array", "(I)I"⟩
abbrev b_L_upper : ByteArray := prog_1_method_6_code
def y_L_upper : MethodName := ⟨"LeastBounds", "upper", "(II)I"⟩
abbrev b_L_lower : ByteArray := prog_1_method_7_code
def y_L_lower : MethodName := ⟨"LeastBounds", "lower", "(II)I"⟩
abbrev b_L_isBelow : ByteArray := prog_1_method_8_code
def y_L_isBelow : MethodName := ⟨"LeastBounds", "isBelow", "(II)Z"⟩
abbrev b_L_look : ByteArray := prog_1_method_9_code
def y_L_look : MethodName := ⟨"LeastBounds", "look", "(II)I"⟩
abbrev b_L_box : ByteArray := prog_1_method_10_code
def y_L_box : MethodName := ⟨"LeastBounds", "box", "(I)I"⟩
abbrev b_L_type : ByteArray := prog_1_method_11_code
def y_L_type : MethodName := ⟨"LeastBounds", "type", "(II)I"⟩
abbrev b_L_part : ByteArray := prog_1_method_12_code
def y_L_part : MethodName := ⟨"LeastBounds", "part", "(II)I"⟩
abbrev b_L_common : ByteArray := prog_1_method_13_code
def y_L_common : MethodName := ⟨"LeastBounds", "common", "(III)I"⟩
abbrev b_L_isUnder : ByteArray := prog_1_method_14_code
def y_L_isUnder : MethodName := ⟨"LeastBounds", "isUnder", "(II)Z"⟩
abbrev b_L_classed : ByteArray := prog_1_method_15_code
def y_L_classed : MethodName := ⟨"LeastBounds", "classed", "(II)I"⟩
abbrev b_L_direct : ByteArray := prog_1_method_16_code
def y_L_direct : MethodName := ⟨"LeastBounds", "direct", "(III)I"⟩
abbrev b_L_told : ByteArray := prog_1_method_17_code
def y_L_told : MethodName := ⟨"LeastBounds", "told", "(I)I"⟩
abbrev b_L_requireClass : ByteArray := prog_1_method_18_code
def y_L_requireClass : MethodName := ⟨"LeastBounds", "requireClass", "(I)V"⟩
abbrev b_L_requireType : ByteArray := prog_1_method_19_code
def y_L_requireType : MethodName := ⟨"LeastBounds", "requireType", "(I)V"⟩
abbrev b_L_settled : ByteArray := prog_1_method_20_code
def y_L_settled : MethodName := ⟨"LeastBounds", "settled", "(I)I"⟩
abbrev b_L_isTellable : ByteArray := prog_1_method_21_code
def y_L_isTellable : MethodName := ⟨"LeastBounds", "isTellable", "(II)Z"⟩
abbrev b_L_argumentOf : ByteArray := prog_1_method_22_code
def y_L_argumentOf : MethodName := ⟨"LeastBounds", "argumentOf", "(II)I"⟩
abbrev b_L_howOf : ByteArray := prog_1_method_23_code
def y_L_howOf : MethodName := ⟨"LeastBounds", "howOf", "(I)I"⟩
abbrev b_L_typeOf : ByteArray := prog_1_method_24_code
def y_L_typeOf : MethodName := ⟨"LeastBounds", "typeOf", "(I)I"⟩
abbrev b_L_has : ByteArray := prog_1_method_25_code
def y_L_has : MethodName := ⟨"LeastBounds", "has", "(II)Z"⟩
abbrev b_L_boxTypeOf : ByteArray := prog_1_method_26_code
def y_L_boxTypeOf : MethodName := ⟨"LeastBounds", "boxTypeOf", "(I)I"⟩
abbrev b_L_find : ByteArray := prog_1_method_27_code
def y_L_find : MethodName := ⟨"LeastBounds", "find", "(II)I"⟩
abbrev b_L_countHolders : ByteArray := prog_1_method_28_code
def y_L_countHolders : MethodName := ⟨"LeastBounds", "countHolders", "(I)I"⟩
abbrev b_L_liesBelow : ByteArray := prog_1_method_29_code
def y_L_liesBelow : MethodName := ⟨"LeastBounds", "liesBelow", "(III)Z"⟩
abbrev b_L_hasFittingPart : ByteArray := prog_1_method_30_code
def y_L_hasFittingPart : MethodName := ⟨"LeastBounds", "hasFittingPart", "(III)Z"⟩
abbrev b_L_liesBelowParts : ByteArray := prog_1_method_31_code
def y_L_liesBelowParts : MethodName := ⟨"LeastBounds", "liesBelowParts", "(III)Z"⟩
abbrev b_L_isArrayOfOthers : ByteArray := prog_1_method_32_code
def y_L_isArrayOfOthers : MethodName := ⟨"LeastBounds", "isArrayOfOthers", "(I)Z"⟩
abbrev b_L_upperBound : ByteArray := prog_1_method_33_code
def y_L_upperBound : MethodName := ⟨"LeastBounds", "upperBound", "(III)I"⟩
abbrev b_L_boundByClasses : ByteArray := prog_1_method_34_code
def y_L_boundByClasses : MethodName := ⟨"LeastBounds", "boundByClasses", "(III)I"⟩
abbrev b_L_boundArgument : ByteArray := prog_1_method_35_code
def y_L_boundArgument : MethodName := ⟨"LeastBounds", "boundArgument", "(III)I"⟩
abbrev b_L_commonOf : ByteArray := prog_1_method_36_code
def y_L_commonOf : MethodName := ⟨"LeastBounds", "commonOf", "(II)I"⟩
abbrev b_L_foundIn : ByteArray := prog_1_method_37_code
def y_L_foundIn : MethodName := ⟨"LeastBounds", "foundIn", "(I)I"⟩
abbrev b_L_gatherParts : ByteArray := prog_1_method_38_code
def y_L_gatherParts : MethodName := ⟨"LeastBounds", "gatherParts", "(II)I"⟩
abbrev b_L_dropNeedless : ByteArray := prog_1_method_39_code
def y_L_dropNeedless : MethodName := ⟨"LeastBounds", "dropNeedless", "(I)I"⟩
abbrev b_L_orderByClass : ByteArray := prog_1_method_40_code
def y_L_orderByClass : MethodName := ⟨"LeastBounds", "orderByClass", "(I)I"⟩
abbrev b_L_closeRow : ByteArray := prog_1_method_41_code
def y_L_closeRow : MethodName := ⟨"LeastBounds", "closeRow", "()I"⟩
abbrev b_M_init : ByteArray := prog_6_method_1_code
def y_M_init : MethodName := ⟨"LeastBoundsModel", "<init>", "(I)V"⟩
abbrev b_M_thrown : ByteArray := prog_6_method_2_code
def y_M_thrown : MethodName := ⟨"LeastBoundsModel", "thrown", "()I"⟩
abbrev b_M_good : ByteArray := prog_6_method_3_code
def y_M_good : MethodName := ⟨"LeastBoundsModel", "good", "(I)Z"⟩
abbrev b_M_tie : ByteArray := prog_6_method_4_code
def y_M_tie : MethodName := ⟨"LeastBoundsModel", "tie", "(III)V"⟩
abbrev b_M_reckonOver : ByteArray := prog_6_method_5_code
def y_M_reckonOver : MethodName := ⟨"LeastBoundsModel", "reckonOver", "(I)V"⟩
abbrev b_M_under : ByteArray := prog_6_method_6_code
def y_M_under : MethodName := ⟨"LeastBoundsModel", "under", "(II)Z"⟩
abbrev b_M_isClass : ByteArray := prog_6_method_7_code
def y_M_isClass : MethodName := ⟨"LeastBoundsModel", "isClass", "(I)Z"⟩
abbrev b_M_isType : ByteArray := prog_6_method_8_code
def y_M_isType : MethodName := ⟨"LeastBoundsModel", "isType", "(I)Z"⟩
abbrev b_M_climb : ByteArray := prog_6_method_9_code
def y_M_climb : MethodName := ⟨"LeastBoundsModel", "climb", "(IIII)V"⟩
abbrev b_M_lookAt : ByteArray := prog_6_method_10_code
def y_M_lookAt : MethodName := ⟨"LeastBoundsModel", "lookAt", "(II)V"⟩
abbrev b_M_add : ByteArray := prog_6_method_11_code
def y_M_add : MethodName := ⟨"LeastBoundsModel", "add", "(IIII)I"⟩
abbrev b_M_addNamed : ByteArray := prog_6_method_12_code
def y_M_addNamed : MethodName := ⟨"LeastBoundsModel", "addNamed", "(III)I"⟩
abbrev b_M_addArray : ByteArray := prog_6_method_13_code
def y_M_addArray : MethodName := ⟨"LeastBoundsModel", "addArray", "(I)I"⟩
abbrev b_M_addBoth : ByteArray := prog_6_method_14_code
def y_M_addBoth : MethodName := ⟨"LeastBoundsModel", "addBoth", "(I)I"⟩
abbrev b_M_reckonBelow : ByteArray := prog_6_method_15_code
def y_M_reckonBelow : MethodName := ⟨"LeastBoundsModel", "reckonBelow", "()V"⟩
abbrev b_M_isBelowAll : ByteArray := prog_6_method_16_code
def y_M_isBelowAll : MethodName := ⟨"LeastBoundsModel", "isBelowAll", "(II)Z"⟩
abbrev b_M_isBelowArray : ByteArray := prog_6_method_17_code
def y_M_isBelowArray : MethodName := ⟨"LeastBoundsModel", "isBelowArray", "(II)Z"⟩
abbrev b_M_isBelowNamed : ByteArray := prog_6_method_18_code
def y_M_isBelowNamed : MethodName := ⟨"LeastBoundsModel", "isBelowNamed", "(II)Z"⟩
abbrev b_M_declare : ByteArray := prog_6_method_19_code
def y_M_declare : MethodName := ⟨"LeastBoundsModel", "declare", "(ZZ)I"⟩
abbrev b_M_hasDirect : ByteArray := prog_6_method_20_code
def y_M_hasDirect : MethodName := ⟨"LeastBoundsModel", "hasDirect", "(II)Z"⟩
abbrev b_M_partsWay : ByteArray := prog_6_method_21_code
def y_M_partsWay : MethodName := ⟨"LeastBoundsModel", "partsWay", "(III)Z"⟩
abbrev b_M_above : ByteArray := prog_6_method_22_code
def y_M_above : MethodName := ⟨"LeastBoundsModel", "above", "(II)I"⟩
abbrev b_M_isUnder : ByteArray := prog_6_method_23_code
def y_M_isUnder : MethodName := ⟨"LeastBoundsModel", "isUnder", "(II)Z"⟩
abbrev b_M_classed : ByteArray := prog_6_method_24_code
def y_M_classed : MethodName := ⟨"LeastBoundsModel", "classed", "(II)I"⟩
abbrev b_M_count : ByteArray := prog_6_method_25_code
def y_M_count : MethodName := ⟨"LeastBoundsModel", "count", "(I)I"⟩
abbrev b_M_direct : ByteArray := prog_6_method_26_code
def y_M_direct : MethodName := ⟨"LeastBoundsModel", "direct", "(III)I"⟩
abbrev b_M_told : ByteArray := prog_6_method_27_code
def y_M_told : MethodName := ⟨"LeastBoundsModel", "told", "(I)I"⟩
abbrev b_M_end : ByteArray := prog_6_method_28_code
def y_M_end : MethodName := ⟨"LeastBoundsModel", "end", "(III)I"⟩
abbrev b_M_named : ByteArray := prog_6_method_29_code
def y_M_named : MethodName := ⟨"LeastBoundsModel", "named", "(III)I"⟩
abbrev b_M_array : ByteArray := prog_6_method_30_code
def y_M_array : MethodName := ⟨"LeastBoundsModel", "array", "(I)I"⟩
abbrev b_M_isBelow : ByteArray := prog_6_method_31_code
def y_M_isBelow : MethodName := ⟨"LeastBoundsModel", "isBelow", "(II)Z"⟩
abbrev b_M_look : ByteArray := prog_6_method_32_code
def y_M_look : MethodName := ⟨"LeastBoundsModel", "look", "(II)I"⟩
abbrev b_M_box : ByteArray := prog_6_method_33_code
def y_M_box : MethodName := ⟨"LeastBoundsModel", "box", "(I)I"⟩
abbrev b_M_type : ByteArray := prog_6_method_34_code
def y_M_type : MethodName := ⟨"LeastBoundsModel", "type", "(II)I"⟩
abbrev b_M_part : ByteArray := prog_6_method_35_code
def y_M_part : MethodName := ⟨"LeastBoundsModel", "part", "(II)I"⟩
abbrev b_M_commonOf : ByteArray := prog_6_method_36_code
def y_M_commonOf : MethodName := ⟨"LeastBoundsModel", "commonOf", "(II)I"⟩
abbrev b_M_leastOf : ByteArray := prog_6_method_37_code
def y_M_leastOf : MethodName := ⟨"LeastBoundsModel", "leastOf", "(I)I"⟩
abbrev b_M_common : ByteArray := prog_6_method_38_code
def y_M_common : MethodName := ⟨"LeastBoundsModel", "common", "(III)I"⟩
abbrev b_M_ask : ByteArray := prog_6_method_39_code
def y_M_ask : MethodName := ⟨"LeastBoundsModel", "ask", "(III)V"⟩
abbrev b_M_tell : ByteArray := prog_6_method_40_code
def y_M_tell : MethodName := ⟨"LeastBoundsModel", "tell", "(I)V"⟩
abbrev b_M_keep : ByteArray := prog_6_method_41_code
def y_M_keep : MethodName := ⟨"LeastBoundsModel", "keep", "(II)V"⟩
abbrev b_M_begin : ByteArray := prog_6_method_42_code
def y_M_begin : MethodName := ⟨"LeastBoundsModel", "begin", "(I)V"⟩
abbrev b_M_goOn : ByteArray := prog_6_method_43_code
def y_M_goOn : MethodName := ⟨"LeastBoundsModel", "goOn", "(I)V"⟩
abbrev b_M_upper : ByteArray := prog_6_method_44_code
def y_M_upper : MethodName := ⟨"LeastBoundsModel", "upper", "(II)I"⟩
abbrev b_M_lower : ByteArray := prog_6_method_45_code
def y_M_lower : MethodName := ⟨"LeastBoundsModel", "lower", "(II)I"⟩
abbrev b_M_partOf : ByteArray := prog_6_method_46_code
def y_M_partOf : MethodName := ⟨"LeastBoundsModel", "partOf", "(III)I"⟩
abbrev b_A_init : ByteArray := prog_2_method_1_code
def y_A_init : MethodName := ⟨"LeastBounds$Answers", "<init>", "()V"⟩
abbrev b_A_isPair : ByteArray := prog_2_method_2_code
def y_A_isPair : MethodName := ⟨"LeastBounds$Answers", "isPair", "(II)Z"⟩
abbrev b_A_read : ByteArray := prog_2_method_3_code
def y_A_read : MethodName := ⟨"LeastBounds$Answers", "read", "(II)I"⟩
abbrev b_A_keep : ByteArray := prog_2_method_4_code
def y_A_keep : MethodName := ⟨"LeastBounds$Answers", "keep", "(IIZ)V"⟩
abbrev b_A_forget : ByteArray := prog_2_method_5_code
def y_A_forget : MethodName := ⟨"LeastBounds$Answers", "forget", "()V"⟩
abbrev b_C_init : ByteArray := prog_3_method_1_code
def y_C_init : MethodName := ⟨"LeastBounds$Classes", "<init>", "()V"⟩
abbrev b_C_count : ByteArray := prog_3_method_2_code
def y_C_count : MethodName := ⟨"LeastBounds$Classes", "count", "()I"⟩
abbrev b_C_countGeneric : ByteArray := prog_3_method_3_code
def y_C_countGeneric : MethodName := ⟨"LeastBounds$Classes", "countGeneric", "()I"⟩
abbrev b_C_newest : ByteArray := prog_3_method_4_code
def y_C_newest : MethodName := ⟨"LeastBounds$Classes", "newest", "()I"⟩
abbrev b_C_isThere : ByteArray := prog_3_method_5_code
def y_C_isThere : MethodName := ⟨"LeastBounds$Classes", "isThere", "(I)Z"⟩
abbrev b_C_isFace : ByteArray := prog_3_method_6_code
def y_C_isFace : MethodName := ⟨"LeastBounds$Classes", "isFace", "(I)Z"⟩
abbrev b_C_isGeneric : ByteArray := prog_3_method_7_code
def y_C_isGeneric : MethodName := ⟨"LeastBounds$Classes", "isGeneric", "(I)Z"⟩
abbrev b_C_aboveOf : ByteArray := prog_3_method_8_code
def y_C_aboveOf : MethodName := ⟨"LeastBounds$Classes", "aboveOf", "(I)I"⟩
abbrev b_C_withAbove : ByteArray := prog_3_method_9_code
def y_C_withAbove : MethodName := ⟨"LeastBounds$Classes", "withAbove", "(I)I"⟩
abbrev b_C_countDirect : ByteArray := prog_3_method_10_code
def y_C_countDirect : MethodName := ⟨"LeastBounds$Classes", "countDirect", "(I)I"⟩
abbrev b_C_directAt : ByteArray := prog_3_method_11_code
def y_C_directAt : MethodName := ⟨"LeastBounds$Classes", "directAt", "(II)I"⟩
abbrev b_C_toldAt : ByteArray := prog_3_method_12_code
def y_C_toldAt : MethodName := ⟨"LeastBounds$Classes", "toldAt", "(II)I"⟩
abbrev b_C_add : ByteArray := prog_3_method_13_code
def y_C_add : MethodName := ⟨"LeastBounds$Classes", "add", "(ZZ)I"⟩
abbrev b_C_mayGet : ByteArray := prog_3_method_14_code
def y_C_mayGet : MethodName := ⟨"LeastBounds$Classes", "mayGet", "(I)Z"⟩
abbrev b_C_isDirectly : ByteArray := prog_3_method_15_code
def y_C_isDirectly : MethodName := ⟨"LeastBounds$Classes", "isDirectly", "(II)Z"⟩
abbrev b_C_clashes : ByteArray := prog_3_method_16_code
def y_C_clashes : MethodName := ⟨"LeastBounds$Classes", "clashes", "(II)Z"⟩
abbrev b_C_put : ByteArray := prog_3_method_17_code
def y_C_put : MethodName := ⟨"LeastBounds$Classes", "put", "(II)I"⟩
abbrev b_C_write : ByteArray := prog_3_method_18_code
def y_C_write : MethodName := ⟨"LeastBounds$Classes", "write", "(IIII)V"⟩
abbrev b_C_climb : ByteArray := prog_3_method_19_code
def y_C_climb : MethodName := ⟨"LeastBounds$Classes", "climb", "(III)I"⟩
abbrev b_C_firstToward : ByteArray := prog_3_method_20_code
def y_C_firstToward : MethodName := ⟨"LeastBounds$Classes", "firstToward", "(II)I"⟩
abbrev b_C_passOn : ByteArray := prog_3_method_21_code
def y_C_passOn : MethodName := ⟨"LeastBounds$Classes", "passOn", "(II)I"⟩
abbrev b_C_leastOf : ByteArray := prog_3_method_22_code
def y_C_leastOf : MethodName := ⟨"LeastBounds$Classes", "leastOf", "(I)I"⟩
abbrev b_T_init : ByteArray := prog_4_method_1_code
def y_T_init : MethodName := ⟨"LeastBounds$Types", "<init>", "()V"⟩
abbrev b_T_count : ByteArray := prog_4_method_2_code
def y_T_count : MethodName := ⟨"LeastBounds$Types", "count", "()I"⟩
abbrev b_T_isThere : ByteArray := prog_4_method_3_code
def y_T_isThere : MethodName := ⟨"LeastBounds$Types", "isThere", "(I)Z"⟩
abbrev b_T_kindOf : ByteArray := prog_4_method_4_code
def y_T_kindOf : MethodName := ⟨"LeastBounds$Types", "kindOf", "(I)I"⟩
abbrev b_T_classOf : ByteArray := prog_4_method_5_code
def y_T_classOf : MethodName := ⟨"LeastBounds$Types", "classOf", "(I)I"⟩
abbrev b_T_argumentAt : ByteArray := prog_4_method_6_code
def y_T_argumentAt : MethodName := ⟨"LeastBounds$Types", "argumentAt", "(I)I"⟩
abbrev b_T_elementOf : ByteArray := prog_4_method_7_code
def y_T_elementOf : MethodName := ⟨"LeastBounds$Types", "elementOf", "(I)I"⟩
abbrev b_T_sizeOf : ByteArray := prog_4_method_8_code
def y_T_sizeOf : MethodName := ⟨"LeastBounds$Types", "sizeOf", "(I)I"⟩
abbrev b_T_countParts : ByteArray := prog_4_method_9_code
def y_T_countParts : MethodName := ⟨"LeastBounds$Types", "countParts", "(I)I"⟩
abbrev b_T_partOf : ByteArray := prog_4_method_10_code
def y_T_partOf : MethodName := ⟨"LeastBounds$Types", "partOf", "(II)I"⟩
abbrev b_T_settle : ByteArray := prog_4_method_11_code
def y_T_settle : MethodName := ⟨"LeastBounds$Types", "settle", "()V"⟩
abbrev b_T_dropUnsettled : ByteArray := prog_4_method_12_code
def y_T_dropUnsettled : MethodName := ⟨"LeastBounds$Types", "dropUnsettled", "()V"⟩
abbrev b_T_makeNamed : ByteArray := prog_4_method_13_code
def y_T_makeNamed : MethodName := ⟨"LeastBounds$Types", "makeNamed", "(II)I"⟩
abbrev b_T_makeArray : ByteArray := prog_4_method_14_code
def y_T_makeArray : MethodName := ⟨"LeastBounds$Types", "makeArray", "(I)I"⟩
abbrev b_T_makeIntersection : ByteArray := prog_4_method_15_code
def y_T_makeIntersection : MethodName := ⟨"LeastBounds$Types", "makeIntersection", "([III)I"⟩
abbrev b_T_findIntersection : ByteArray := prog_4_method_16_code
def y_T_findIntersection : MethodName := ⟨"LeastBounds$Types", "findIntersection", "([III)I"⟩
abbrev b_T_hasParts : ByteArray := prog_4_method_17_code
def y_T_hasParts : MethodName := ⟨"LeastBounds$Types", "hasParts", "(I[II)Z"⟩
abbrev b_T_appendParts : ByteArray := prog_4_method_18_code
def y_T_appendParts : MethodName := ⟨"LeastBounds$Types", "appendParts", "(I[III)V"⟩
abbrev b_T_add : ByteArray := prog_4_method_19_code
def y_T_add : MethodName := ⟨"LeastBounds$Types", "add", "(II)I"⟩
abbrev b_W_cell : ByteArray := method_2_code
def y_W_cell : MethodName := ⟨"LeastBoundsLaw", "cell", "([II)I"⟩
abbrev b_W_declare : ByteArray := method_3_code
def y_W_declare : MethodName := ⟨"LeastBoundsLaw", "declare", "(LLeastBounds;ZZ[J)I"⟩
abbrev b_W_above : ByteArray := method_4_code
def y_W_above : MethodName := ⟨"LeastBoundsLaw", "above", "(LLeastBounds;II[J)I"⟩
abbrev b_W_named : ByteArray := method_5_code
def y_W_named : MethodName := ⟨"LeastBoundsLaw", "named", "(LLeastBounds;III[J)I"⟩
abbrev b_W_array : ByteArray := method_6_code
def y_W_array : MethodName := ⟨"LeastBoundsLaw", "array", "(LLeastBounds;I[J)I"⟩
abbrev b_W_upper : ByteArray := method_7_code
def y_W_upper : MethodName := ⟨"LeastBoundsLaw", "upper", "(LLeastBounds;II[J)I"⟩
abbrev b_W_lower : ByteArray := method_8_code
def y_W_lower : MethodName := ⟨"LeastBoundsLaw", "lower", "(LLeastBounds;II[J)I"⟩
abbrev b_W_isBelow : ByteArray := method_9_code
def y_W_isBelow : MethodName := ⟨"LeastBoundsLaw", "isBelow", "(LLeastBounds;II[J)I"⟩
abbrev b_W_look : ByteArray := method_10_code
def y_W_look : MethodName := ⟨"LeastBoundsLaw", "look", "(LLeastBounds;II[J)I"⟩
abbrev b_W_box : ByteArray := method_11_code
def y_W_box : MethodName := ⟨"LeastBoundsLaw", "box", "(LLeastBounds;I[J)I"⟩
abbrev b_W_type : ByteArray := method_12_code
def y_W_type : MethodName := ⟨"LeastBoundsLaw", "type", "(LLeastBounds;II[J)I"⟩
abbrev b_W_part : ByteArray := method_13_code
def y_W_part : MethodName := ⟨"LeastBoundsLaw", "part", "(LLeastBounds;II[J)I"⟩
abbrev b_W_common : ByteArray := method_14_code
def y_W_common : MethodName := ⟨"LeastBoundsLaw", "common", "(LLeastBounds;III[J)I"⟩
abbrev b_W_isUnder : ByteArray := method_15_code
def y_W_isUnder : MethodName := ⟨"LeastBoundsLaw", "isUnder", "(LLeastBounds;II[J)I"⟩
abbrev b_W_classed : ByteArray := method_16_code
def y_W_classed : MethodName := ⟨"LeastBoundsLaw", "classed", "(LLeastBounds;II[J)I"⟩
abbrev b_W_direct : ByteArray := method_17_code
def y_W_direct : MethodName := ⟨"LeastBoundsLaw", "direct", "(LLeastBounds;III[J)I"⟩
abbrev b_W_told : ByteArray := method_18_code
def y_W_told : MethodName := ⟨"LeastBoundsLaw", "told", "(LLeastBounds;I[J)I"⟩
abbrev b_J_bitCount : ByteArray := prog_12_method_49_code
def y_J_bitCount : MethodName := ⟨"java/lang/Integer", "bitCount", "(I)I"⟩
abbrev b_J_copyOf : ByteArray := prog_18_method_123_code
def y_J_copyOf : MethodName := ⟨"java/util/Arrays", "copyOf", "([II)[I"⟩
abbrev b_J_fill : ByteArray := prog_18_method_103_code
def y_J_fill : MethodName := ⟨"java/util/Arrays", "fill", "([II)V"⟩
/-- the words of the tables that stay true -/
def tb : List Cond := lw_tbl.filter goodWord
theorem tb_ok : ∀ w ∈ tb, (w.onTables && w.keeps) = true ∨ ∃ ty, w = .arrayClass ty := fun w h => good_of_word (List.mem_filter.mp h).2
theorem mt0 {w : Cond} (h : w ∈ k2_sels lw_privs) (g : goodWord w = true) : w ∈ tb := List.mem_filter.mpr ⟨List.mem_append_left _ h, g⟩
theorem mt1 {w : Cond} (h : w ∈ tables_1_1) (g : goodWord w = true) : w ∈ tb := List.mem_filter.mpr ⟨List.mem_append_right _ (List.mem_append_left _ h), g⟩
theorem mt2 {w : Cond} (h : w ∈ tables_1_2) (g : goodWord w = true) : w ∈ tb := List.mem_filter.mpr ⟨List.mem_append_right _ (List.mem_append_right _ (List.mem_append_left _ h)), g⟩
theorem mt3 {w : Cond} (h : w ∈ tables_1_3) (g : goodWord w = true) : w ∈ tb := List.mem_filter.mpr ⟨List.mem_append_right _ (List.mem_append_right _ (List.mem_append_right _ (List.mem_append_left _ h))), g⟩
theorem mt4 {w : Cond} (h : w ∈ tables_1_4) (g : goodWord w = true) : w ∈ tb := List.mem_filter.mpr ⟨List.mem_append_right _ (List.mem_append_right _ (List.mem_append_right _ (List.mem_append_right _ (List.mem_append_left _ h)))), g⟩
theorem mt5 {w : Cond} (h : w ∈ tables_1_5) (g : goodWord w = true) : w ∈ tb := List.mem_filter.mpr ⟨List.mem_append_right _ (List.mem_append_right _ (List.mem_append_right _ (List.mem_append_right _ (List.mem_append_right _ (h))))), g⟩
def nwL : List Cond := [.methodLinkNest "LeastBounds$Classes" 46 ⟨"LeastBounds", "boxTypeOf", "(I)I"⟩ "LeastBounds", .methodLinkNest "LeastBounds$Types" 63 ⟨"LeastBounds", "typeOf", "(I)I"⟩ "LeastBounds", .methodLinkNest "LeastBounds" 38 ⟨"LeastBounds$Answers", "<init>", "()V"⟩ "LeastBounds", .methodLinkNest "LeastBounds$Classes" 81 ⟨"LeastBounds", "has", "(II)Z"⟩ "LeastBounds", .methodLinkNest "LeastBounds$Classes" 105 ⟨"LeastBounds", "argumentOf", "(II)I"⟩ "LeastBounds"]
/-- the texts of the exceptions -/
def stL : List (String × Nat × String) := [("LeastBounds", 56, "there are 30 classes"), ("LeastBounds", 64, "there are six generic classes"), ("LeastBounds", 223, "no such class"), ("LeastBounds", 226, "no such type"), ("LeastBounds", 81, "the newest class can't get this one"), ("LeastBounds", 89, "no argument for this class"), ("LeastBounds", 95, "a generic class would be found with two arguments"), ("LeastBounds", 106, "how is not as the class is"), ("LeastBounds", 112, "a primitive is no argument"), ("LeastBounds", 231, "more than 300 types, or one made of more than 100"), ("LeastBounds", 174, "what is 0 to 5"), ("LeastBounds", 178, "no such part"), ("LeastBounds", 195, "what is 0 or 1"), ("LeastBounds", 209, "what is 0 to 3"), ("LeastBounds", 211, "no such class directly above")]
theorem nwL_sh : ∀ w ∈ nwL, ∃ a i x k, w = Cond.methodLinkNest a i x k := by
  intro w hw
  simp only [nwL, List.mem_cons, List.not_mem_nil, or_false] at hw
  rcases hw with rfl | rfl | rfl | rfl | rfl <;> exact ⟨_, _, _, _, rfl⟩
theorem i_L : ∀ w ∈ u_ws R_L F_L 6, w ∈ tb := by decide +kernel
theorem i_C : ∀ w ∈ u_ws R_C F_C 8, w ∈ tb := by decide +kernel
theorem i_T : ∀ w ∈ u_ws R_T F_T 12, w ∈ tb := by decide +kernel
theorem i_A : ∀ w ∈ u_ws R_A F_A 2, w ∈ tb := by decide +kernel
theorem i_M : ∀ w ∈ u_ws R_M F_M 35, w ∈ tb := by decide +kernel
theorem wd_0 : Cond.constant "java/lang/Integer" 265 (1431655765) ∈ tb := mt3 (List.mem_of_getElem? (i := 155) rfl) rfl
theorem wd_1 : Cond.constant "java/lang/Integer" 266 (858993459) ∈ tb := mt3 (List.mem_of_getElem? (i := 156) rfl) rfl
theorem wd_2 : Cond.constant "java/lang/Integer" 267 (252645135) ∈ tb := mt3 (List.mem_of_getElem? (i := 157) rfl) rfl
theorem wd_3 : Cond.fieldLink "LeastBounds$Classes" 31 "LeastBounds$Classes" "count" "I" ∈ tb := mt1 (List.mem_of_getElem? (i := 78) rfl) rfl
theorem wd_4 : Cond.methodLink "LeastBounds$Classes" 50 ⟨"LeastBounds$Classes", "isThere", "(I)Z"⟩ ∈ tb := mt1 (List.mem_of_getElem? (i := 44) rfl) rfl
theorem wd_5 : Cond.code ⟨"LeastBounds$Classes", "isThere", "(I)Z"⟩ prog_3_method_5_code 2 (some FieldType.boolean) ∈ tb := mt1 (List.mem_of_getElem? (i := 47) rfl) rfl
theorem wd_6 : Cond.instanceMethod ⟨"LeastBounds$Classes", "isThere", "(I)Z"⟩ ∈ tb := mt1 (List.mem_of_getElem? (i := 45) rfl) rfl
theorem wd_7 : Cond.selects "LeastBounds$Classes" ⟨"LeastBounds$Classes", "isThere", "(I)Z"⟩ ⟨"LeastBounds$Classes", "isThere", "(I)Z"⟩ ∈ tb := mt1 (List.mem_of_getElem? (i := 46) rfl) rfl
theorem wd_8 : Cond.initialized "LeastBounds$Classes" ∈ tb := mt1 (List.mem_of_getElem? (i := 3) rfl) rfl
theorem wd_9 : Cond.fieldLink "LeastBounds$Classes" 18 "LeastBounds$Classes" "above" "[I" ∈ tb := mt1 (List.mem_of_getElem? (i := 74) rfl) rfl
theorem wd_10 : Cond.fieldLink "LeastBounds$Classes" 25 "LeastBounds$Classes" "directs" "[I" ∈ tb := mt1 (List.mem_of_getElem? (i := 76) rfl) rfl
theorem wd_11 : Cond.fieldLink "LeastBounds$Classes" 28 "LeastBounds$Classes" "tolds" "[I" ∈ tb := mt1 (List.mem_of_getElem? (i := 77) rfl) rfl
theorem wd_12 : Cond.fieldLink "LeastBounds$Classes" 22 "LeastBounds$Classes" "directCounts" "[I" ∈ tb := mt1 (List.mem_of_getElem? (i := 75) rfl) rfl
theorem wd_13 : Cond.methodLink "LeastBounds$Classes" 94 ⟨"java/lang/Math", "max", "(II)I"⟩ ∈ tb := mt1 (List.mem_of_getElem? (i := 48) rfl) rfl
theorem wd_14 : Cond.static ⟨"java/lang/Math", "max", "(II)I"⟩ ∈ tb := mt1 (List.mem_of_getElem? (i := 28) rfl) rfl
theorem wd_15 : Cond.initialized "java/lang/Math" ∈ tb := mt1 (List.mem_of_getElem? (i := 2) rfl) rfl
theorem wd_16 : Cond.code ⟨"java/lang/Math", "max", "(II)I"⟩ prog_13_method_65_code 2 (some FieldType.int) ∈ tb := mt1 (List.mem_of_getElem? (i := 29) rfl) rfl
theorem wd_17 : Cond.methodLink "LeastBounds$Classes" 78 ⟨"LeastBounds$Classes", "withAbove", "(I)I"⟩ ∈ tb := mt1 (List.mem_of_getElem? (i := 49) rfl) rfl
theorem wd_18 : Cond.code ⟨"LeastBounds$Classes", "withAbove", "(I)I"⟩ prog_3_method_9_code 2 (some FieldType.int) ∈ tb := mt1 (List.mem_of_getElem? (i := 52) rfl) rfl
theorem wd_19 : Cond.instanceMethod ⟨"LeastBounds$Classes", "withAbove", "(I)I"⟩ ∈ tb := mt1 (List.mem_of_getElem? (i := 50) rfl) rfl
theorem wd_20 : Cond.selects "LeastBounds$Classes" ⟨"LeastBounds$Classes", "withAbove", "(I)I"⟩ ⟨"LeastBounds$Classes", "withAbove", "(I)I"⟩ ∈ tb := mt1 (List.mem_of_getElem? (i := 51) rfl) rfl
theorem wd_21 : Cond.fieldLink "LeastBounds$Classes" 9 "LeastBounds$Classes" "faces" "[Z" ∈ tb := mt1 (List.mem_of_getElem? (i := 72) rfl) rfl
theorem wd_22 : Cond.fieldLink "LeastBounds$Classes" 15 "LeastBounds$Classes" "generics" "[Z" ∈ tb := mt1 (List.mem_of_getElem? (i := 73) rfl) rfl
theorem wd_23 : Cond.methodLink "LeastBounds$Classes" 54 ⟨"LeastBounds$Classes", "write", "(IIII)V"⟩ ∈ tb := mt1 (List.mem_of_getElem? (i := 40) rfl) rfl
theorem wd_24 : Cond.code ⟨"LeastBounds$Classes", "write", "(IIII)V"⟩ prog_3_method_18_code 5 none ∈ tb := mt1 (List.mem_of_getElem? (i := 43) rfl) rfl
theorem wd_25 : Cond.instanceMethod ⟨"LeastBounds$Classes", "write", "(IIII)V"⟩ ∈ tb := mt1 (List.mem_of_getElem? (i := 42) rfl) rfl
theorem wd_26 : Cond.selects "LeastBounds$Classes" ⟨"LeastBounds$Classes", "write", "(IIII)V"⟩ ⟨"LeastBounds$Classes", "write", "(IIII)V"⟩ ∈ tb := mt0 (List.mem_of_getElem? (i := 0) rfl) rfl
theorem wd_27 : Cond.fieldLink "LeastBounds$Classes" 35 "LeastBounds$Classes" "countGeneric" "I" ∈ tb := mt1 (List.mem_of_getElem? (i := 79) rfl) rfl
theorem wd_28 : Cond.methodLink "LeastBounds$Classes" 58 ⟨"LeastBounds$Classes", "newest", "()I"⟩ ∈ tb := mt1 (List.mem_of_getElem? (i := 57) rfl) rfl
theorem wd_29 : Cond.code ⟨"LeastBounds$Classes", "newest", "()I"⟩ prog_3_method_4_code 1 (some FieldType.int) ∈ tb := mt1 (List.mem_of_getElem? (i := 60) rfl) rfl
theorem wd_30 : Cond.instanceMethod ⟨"LeastBounds$Classes", "newest", "()I"⟩ ∈ tb := mt1 (List.mem_of_getElem? (i := 58) rfl) rfl
theorem wd_31 : Cond.selects "LeastBounds$Classes" ⟨"LeastBounds$Classes", "newest", "()I"⟩ ⟨"LeastBounds$Classes", "newest", "()I"⟩ ∈ tb := mt1 (List.mem_of_getElem? (i := 59) rfl) rfl
theorem wd_32 : Cond.methodLink "LeastBounds$Classes" 62 ⟨"LeastBounds$Classes", "isFace", "(I)Z"⟩ ∈ tb := mt1 (List.mem_of_getElem? (i := 61) rfl) rfl
theorem wd_33 : Cond.code ⟨"LeastBounds$Classes", "isFace", "(I)Z"⟩ prog_3_method_6_code 2 (some FieldType.boolean) ∈ tb := mt1 (List.mem_of_getElem? (i := 64) rfl) rfl
theorem wd_34 : Cond.instanceMethod ⟨"LeastBounds$Classes", "isFace", "(I)Z"⟩ ∈ tb := mt1 (List.mem_of_getElem? (i := 62) rfl) rfl
theorem wd_35 : Cond.selects "LeastBounds$Classes" ⟨"LeastBounds$Classes", "isFace", "(I)Z"⟩ ⟨"LeastBounds$Classes", "isFace", "(I)Z"⟩ ∈ tb := mt1 (List.mem_of_getElem? (i := 63) rfl) rfl
theorem wd_36 : Cond.methodLink "LeastBounds$Classes" 72 ⟨"LeastBounds$Classes", "countDirect", "(I)I"⟩ ∈ tb := mt1 (List.mem_of_getElem? (i := 65) rfl) rfl
theorem wd_37 : Cond.code ⟨"LeastBounds$Classes", "countDirect", "(I)I"⟩ prog_3_method_10_code 2 (some FieldType.int) ∈ tb := mt1 (List.mem_of_getElem? (i := 68) rfl) rfl
theorem wd_38 : Cond.instanceMethod ⟨"LeastBounds$Classes", "countDirect", "(I)I"⟩ ∈ tb := mt1 (List.mem_of_getElem? (i := 66) rfl) rfl
theorem wd_39 : Cond.selects "LeastBounds$Classes" ⟨"LeastBounds$Classes", "countDirect", "(I)I"⟩ ⟨"LeastBounds$Classes", "countDirect", "(I)I"⟩ ∈ tb := mt1 (List.mem_of_getElem? (i := 67) rfl) rfl
theorem wd_40 : Cond.fieldLink "LeastBounds$Types" 40 "LeastBounds$Types" "count" "I" ∈ tb := mt1 (List.mem_of_getElem? (i := 137) rfl) rfl
theorem wd_41 : Cond.fieldLink "LeastBounds$Types" 9 "LeastBounds$Types" "kinds" "[I" ∈ tb := mt1 (List.mem_of_getElem? (i := 128) rfl) rfl
theorem wd_42 : Cond.fieldLink "LeastBounds$Types" 15 "LeastBounds$Types" "named" "[I" ∈ tb := mt1 (List.mem_of_getElem? (i := 129) rfl) rfl
theorem wd_43 : Cond.fieldLink "LeastBounds$Types" 18 "LeastBounds$Types" "arguments" "[I" ∈ tb := mt1 (List.mem_of_getElem? (i := 130) rfl) rfl
theorem wd_44 : Cond.fieldLink "LeastBounds$Types" 21 "LeastBounds$Types" "elements" "[I" ∈ tb := mt1 (List.mem_of_getElem? (i := 131) rfl) rfl
theorem wd_45 : Cond.fieldLink "LeastBounds$Types" 24 "LeastBounds$Types" "sizes" "[I" ∈ tb := mt1 (List.mem_of_getElem? (i := 132) rfl) rfl
theorem wd_46 : Cond.fieldLink "LeastBounds$Types" 27 "LeastBounds$Types" "partStarts" "[I" ∈ tb := mt1 (List.mem_of_getElem? (i := 133) rfl) rfl
theorem wd_47 : Cond.fieldLink "LeastBounds$Types" 30 "LeastBounds$Types" "partCounts" "[I" ∈ tb := mt1 (List.mem_of_getElem? (i := 134) rfl) rfl
theorem wd_48 : Cond.methodLink "LeastBounds$Types" 59 ⟨"LeastBounds$Types", "isThere", "(I)Z"⟩ ∈ tb := mt1 (List.mem_of_getElem? (i := 120) rfl) rfl
theorem wd_49 : Cond.code ⟨"LeastBounds$Types", "isThere", "(I)Z"⟩ prog_4_method_3_code 2 (some FieldType.boolean) ∈ tb := mt1 (List.mem_of_getElem? (i := 123) rfl) rfl
theorem wd_50 : Cond.instanceMethod ⟨"LeastBounds$Types", "isThere", "(I)Z"⟩ ∈ tb := mt1 (List.mem_of_getElem? (i := 121) rfl) rfl
theorem wd_51 : Cond.selects "LeastBounds$Types" ⟨"LeastBounds$Types", "isThere", "(I)Z"⟩ ⟨"LeastBounds$Types", "isThere", "(I)Z"⟩ ∈ tb := mt1 (List.mem_of_getElem? (i := 122) rfl) rfl
theorem wd_52 : Cond.initialized "LeastBounds$Types" ∈ tb := mt1 (List.mem_of_getElem? (i := 4) rfl) rfl
theorem wd_53 : Cond.code ⟨"LeastBounds", "typeOf", "(I)I"⟩ prog_1_method_24_code 1 (some FieldType.int) ∈ tb := mt1 (List.mem_of_getElem? (i := 115) rfl) rfl
theorem wd_54 : Cond.static ⟨"LeastBounds", "typeOf", "(I)I"⟩ ∈ tb := mt1 (List.mem_of_getElem? (i := 114) rfl) rfl
theorem wd_55 : Cond.initialized "LeastBounds" ∈ tb := mt1 (List.mem_of_getElem? (i := 1) rfl) rfl
theorem wd_56 : Cond.methodLink "LeastBounds$Types" 67 ⟨"LeastBounds$Types", "sizeOf", "(I)I"⟩ ∈ tb := mt1 (List.mem_of_getElem? (i := 116) rfl) rfl
theorem wd_57 : Cond.code ⟨"LeastBounds$Types", "sizeOf", "(I)I"⟩ prog_4_method_8_code 2 (some FieldType.int) ∈ tb := mt1 (List.mem_of_getElem? (i := 119) rfl) rfl
theorem wd_58 : Cond.instanceMethod ⟨"LeastBounds$Types", "sizeOf", "(I)I"⟩ ∈ tb := mt1 (List.mem_of_getElem? (i := 117) rfl) rfl
theorem wd_59 : Cond.selects "LeastBounds$Types" ⟨"LeastBounds$Types", "sizeOf", "(I)I"⟩ ⟨"LeastBounds$Types", "sizeOf", "(I)I"⟩ ∈ tb := mt1 (List.mem_of_getElem? (i := 118) rfl) rfl
theorem wd_60 : Cond.methodLink "LeastBounds$Types" 49 ⟨"LeastBounds$Types", "add", "(II)I"⟩ ∈ tb := mt1 (List.mem_of_getElem? (i := 105) rfl) rfl
theorem wd_61 : Cond.code ⟨"LeastBounds$Types", "add", "(II)I"⟩ prog_4_method_19_code 4 (some FieldType.int) ∈ tb := mt1 (List.mem_of_getElem? (i := 108) rfl) rfl
theorem wd_62 : Cond.instanceMethod ⟨"LeastBounds$Types", "add", "(II)I"⟩ ∈ tb := mt1 (List.mem_of_getElem? (i := 107) rfl) rfl
theorem wd_63 : Cond.selects "LeastBounds$Types" ⟨"LeastBounds$Types", "add", "(II)I"⟩ ⟨"LeastBounds$Types", "add", "(II)I"⟩ ∈ tb := mt0 (List.mem_of_getElem? (i := 1) rfl) rfl
theorem wd_64 : Cond.fieldLink "LeastBounds$Types" 46 "LeastBounds$Types" "settledCount" "I" ∈ tb := mt1 (List.mem_of_getElem? (i := 139) rfl) rfl
theorem wd_65 : Cond.fieldLink "LeastBounds$Types" 36 "LeastBounds$Types" "partsUsed" "I" ∈ tb := mt1 (List.mem_of_getElem? (i := 136) rfl) rfl
theorem wd_66 : Cond.fieldLink "LeastBounds$Types" 43 "LeastBounds$Types" "settledParts" "I" ∈ tb := mt1 (List.mem_of_getElem? (i := 138) rfl) rfl
theorem wd_67 : Cond.methodLink "LeastBounds$Classes" 65 ⟨"LeastBounds$Classes", "directAt", "(II)I"⟩ ∈ tb := mt2 (List.mem_of_getElem? (i := 86) rfl) rfl
theorem wd_68 : Cond.code ⟨"LeastBounds$Classes", "directAt", "(II)I"⟩ prog_3_method_11_code 3 (some FieldType.int) ∈ tb := mt2 (List.mem_of_getElem? (i := 89) rfl) rfl
theorem wd_69 : Cond.instanceMethod ⟨"LeastBounds$Classes", "directAt", "(II)I"⟩ ∈ tb := mt2 (List.mem_of_getElem? (i := 87) rfl) rfl
theorem wd_70 : Cond.selects "LeastBounds$Classes" ⟨"LeastBounds$Classes", "directAt", "(II)I"⟩ ⟨"LeastBounds$Classes", "directAt", "(II)I"⟩ ∈ tb := mt2 (List.mem_of_getElem? (i := 88) rfl) rfl
theorem wd_71 : Cond.methodLink "LeastBounds$Classes" 68 ⟨"LeastBounds$Classes", "isDirectly", "(II)Z"⟩ ∈ tb := mt2 (List.mem_of_getElem? (i := 90) rfl) rfl
theorem wd_72 : Cond.code ⟨"LeastBounds$Classes", "isDirectly", "(II)Z"⟩ prog_3_method_15_code 5 (some FieldType.boolean) ∈ tb := mt2 (List.mem_of_getElem? (i := 93) rfl) rfl
theorem wd_73 : Cond.instanceMethod ⟨"LeastBounds$Classes", "isDirectly", "(II)Z"⟩ ∈ tb := mt2 (List.mem_of_getElem? (i := 92) rfl) rfl
theorem wd_74 : Cond.selects "LeastBounds$Classes" ⟨"LeastBounds$Classes", "isDirectly", "(II)Z"⟩ ⟨"LeastBounds$Classes", "isDirectly", "(II)Z"⟩ ∈ tb := mt0 (List.mem_of_getElem? (i := 5) rfl) rfl
theorem wd_75 : Cond.code ⟨"LeastBounds", "has", "(II)Z"⟩ prog_1_method_25_code 2 (some FieldType.boolean) ∈ tb := mt2 (List.mem_of_getElem? (i := 134) rfl) rfl
theorem wd_76 : Cond.static ⟨"LeastBounds", "has", "(II)Z"⟩ ∈ tb := mt2 (List.mem_of_getElem? (i := 133) rfl) rfl
theorem wd_77 : Cond.code ⟨"LeastBounds", "argumentOf", "(II)I"⟩ prog_1_method_22_code 2 (some FieldType.int) ∈ tb := mt2 (List.mem_of_getElem? (i := 153) rfl) rfl
theorem wd_78 : Cond.static ⟨"LeastBounds", "argumentOf", "(II)I"⟩ ∈ tb := mt2 (List.mem_of_getElem? (i := 152) rfl) rfl
theorem wd_79 : Cond.methodLink "LeastBounds$Classes" 99 ⟨"LeastBounds$Classes", "firstToward", "(II)I"⟩ ∈ tb := mt2 (List.mem_of_getElem? (i := 140) rfl) rfl
theorem wd_80 : Cond.code ⟨"LeastBounds$Classes", "firstToward", "(II)I"⟩ prog_3_method_20_code 5 (some FieldType.int) ∈ tb := mt2 (List.mem_of_getElem? (i := 143) rfl) rfl
theorem wd_81 : Cond.instanceMethod ⟨"LeastBounds$Classes", "firstToward", "(II)I"⟩ ∈ tb := mt2 (List.mem_of_getElem? (i := 142) rfl) rfl
theorem wd_82 : Cond.selects "LeastBounds$Classes" ⟨"LeastBounds$Classes", "firstToward", "(II)I"⟩ ⟨"LeastBounds$Classes", "firstToward", "(II)I"⟩ ∈ tb := mt0 (List.mem_of_getElem? (i := 7) rfl) rfl
theorem wd_83 : Cond.methodLink "LeastBounds$Classes" 102 ⟨"LeastBounds$Classes", "toldAt", "(II)I"⟩ ∈ tb := mt2 (List.mem_of_getElem? (i := 144) rfl) rfl
theorem wd_84 : Cond.code ⟨"LeastBounds$Classes", "toldAt", "(II)I"⟩ prog_3_method_12_code 3 (some FieldType.int) ∈ tb := mt2 (List.mem_of_getElem? (i := 147) rfl) rfl
theorem wd_85 : Cond.instanceMethod ⟨"LeastBounds$Classes", "toldAt", "(II)I"⟩ ∈ tb := mt2 (List.mem_of_getElem? (i := 145) rfl) rfl
theorem wd_86 : Cond.selects "LeastBounds$Classes" ⟨"LeastBounds$Classes", "toldAt", "(II)I"⟩ ⟨"LeastBounds$Classes", "toldAt", "(II)I"⟩ ∈ tb := mt2 (List.mem_of_getElem? (i := 146) rfl) rfl
theorem wd_87 : Cond.methodLink "LeastBounds$Classes" 91 ⟨"LeastBounds$Classes", "passOn", "(II)I"⟩ ∈ tb := mt2 (List.mem_of_getElem? (i := 148) rfl) rfl
theorem wd_88 : Cond.code ⟨"LeastBounds$Classes", "passOn", "(II)I"⟩ prog_3_method_21_code 2 (some FieldType.int) ∈ tb := mt2 (List.mem_of_getElem? (i := 150) rfl) rfl
theorem wd_89 : Cond.static ⟨"LeastBounds$Classes", "passOn", "(II)I"⟩ ∈ tb := mt2 (List.mem_of_getElem? (i := 149) rfl) rfl
theorem wd_90 : Cond.methodLink "LeastBounds$Classes" 75 ⟨"LeastBounds$Classes", "aboveOf", "(I)I"⟩ ∈ tb := mt2 (List.mem_of_getElem? (i := 128) rfl) rfl
theorem wd_91 : Cond.code ⟨"LeastBounds$Classes", "aboveOf", "(I)I"⟩ prog_3_method_8_code 2 (some FieldType.int) ∈ tb := mt2 (List.mem_of_getElem? (i := 131) rfl) rfl
theorem wd_92 : Cond.instanceMethod ⟨"LeastBounds$Classes", "aboveOf", "(I)I"⟩ ∈ tb := mt2 (List.mem_of_getElem? (i := 129) rfl) rfl
theorem wd_93 : Cond.selects "LeastBounds$Classes" ⟨"LeastBounds$Classes", "aboveOf", "(I)I"⟩ ⟨"LeastBounds$Classes", "aboveOf", "(I)I"⟩ ∈ tb := mt2 (List.mem_of_getElem? (i := 130) rfl) rfl
theorem wd_94 : Cond.methodLink "LeastBounds$Classes" 84 ⟨"LeastBounds$Classes", "isGeneric", "(I)Z"⟩ ∈ tb := mt2 (List.mem_of_getElem? (i := 135) rfl) rfl
theorem wd_95 : Cond.code ⟨"LeastBounds$Classes", "isGeneric", "(I)Z"⟩ prog_3_method_7_code 2 (some FieldType.boolean) ∈ tb := mt2 (List.mem_of_getElem? (i := 102) rfl) rfl
theorem wd_96 : Cond.instanceMethod ⟨"LeastBounds$Classes", "isGeneric", "(I)Z"⟩ ∈ tb := mt2 (List.mem_of_getElem? (i := 100) rfl) rfl
theorem wd_97 : Cond.selects "LeastBounds$Classes" ⟨"LeastBounds$Classes", "isGeneric", "(I)Z"⟩ ⟨"LeastBounds$Classes", "isGeneric", "(I)Z"⟩ ∈ tb := mt2 (List.mem_of_getElem? (i := 101) rfl) rfl
theorem wd_98 : Cond.methodLink "LeastBounds$Classes" 87 ⟨"LeastBounds$Classes", "climb", "(III)I"⟩ ∈ tb := mt2 (List.mem_of_getElem? (i := 136) rfl) rfl
theorem wd_99 : Cond.code ⟨"LeastBounds$Classes", "climb", "(III)I"⟩ prog_3_method_19_code 8 (some FieldType.int) ∈ tb := mt2 (List.mem_of_getElem? (i := 139) rfl) rfl
theorem wd_100 : Cond.instanceMethod ⟨"LeastBounds$Classes", "climb", "(III)I"⟩ ∈ tb := mt2 (List.mem_of_getElem? (i := 137) rfl) rfl
theorem wd_101 : Cond.selects "LeastBounds$Classes" ⟨"LeastBounds$Classes", "climb", "(III)I"⟩ ⟨"LeastBounds$Classes", "climb", "(III)I"⟩ ∈ tb := mt2 (List.mem_of_getElem? (i := 138) rfl) rfl
theorem wd_102 : Cond.fieldLink "LeastBounds$Answers" 15 "LeastBounds$Answers" "empty" "Z" ∈ tb := mt1 (List.mem_of_getElem? (i := 172) rfl) rfl
theorem wd_103 : Cond.fieldLink "LeastBounds$Answers" 9 "LeastBounds$Answers" "cells" "[I" ∈ tb := mt1 (List.mem_of_getElem? (i := 171) rfl) rfl
theorem wd_104 : Cond.methodLink "LeastBounds$Answers" 23 ⟨"java/util/Arrays", "fill", "([II)V"⟩ ∈ tb := mt2 (List.mem_of_getElem? (i := 159) rfl) rfl
theorem wd_105 : Cond.code ⟨"java/util/Arrays", "fill", "([II)V"⟩ prog_18_method_103_code 4 none ∈ tb := mt2 (List.mem_of_getElem? (i := 161) rfl) rfl
theorem wd_106 : Cond.static ⟨"java/util/Arrays", "fill", "([II)V"⟩ ∈ tb := mt2 (List.mem_of_getElem? (i := 160) rfl) rfl
theorem wd_107 : Cond.initialized "java/util/Arrays" ∈ tb := mt1 (List.mem_of_getElem? (i := 13) rfl) rfl
theorem wd_108 : Cond.fieldLink "LeastBounds$Types" 33 "LeastBounds$Types" "parts" "[I" ∈ tb := mt1 (List.mem_of_getElem? (i := 135) rfl) rfl
theorem wd_109 : Cond.methodLink "LeastBounds$Types" 82 ⟨"LeastBounds$Types", "partOf", "(II)I"⟩ ∈ tb := mt3 (List.mem_of_getElem? (i := 38) rfl) rfl
theorem wd_110 : Cond.code ⟨"LeastBounds$Types", "partOf", "(II)I"⟩ prog_4_method_10_code 4 (some FieldType.int) ∈ tb := mt2 (List.mem_of_getElem? (i := 239) rfl) rfl
theorem wd_111 : Cond.instanceMethod ⟨"LeastBounds$Types", "partOf", "(II)I"⟩ ∈ tb := mt2 (List.mem_of_getElem? (i := 237) rfl) rfl
theorem wd_112 : Cond.selects "LeastBounds$Types" ⟨"LeastBounds$Types", "partOf", "(II)I"⟩ ⟨"LeastBounds$Types", "partOf", "(II)I"⟩ ∈ tb := mt2 (List.mem_of_getElem? (i := 238) rfl) rfl
theorem wd_113 : Cond.methodLink "LeastBounds$Types" 78 ⟨"LeastBounds$Types", "hasParts", "(I[II)Z"⟩ ∈ tb := mt3 (List.mem_of_getElem? (i := 34) rfl) rfl
theorem wd_114 : Cond.code ⟨"LeastBounds$Types", "hasParts", "(I[II)Z"⟩ prog_4_method_17_code 5 (some FieldType.boolean) ∈ tb := mt3 (List.mem_of_getElem? (i := 37) rfl) rfl
theorem wd_115 : Cond.instanceMethod ⟨"LeastBounds$Types", "hasParts", "(I[II)Z"⟩ ∈ tb := mt3 (List.mem_of_getElem? (i := 36) rfl) rfl
theorem wd_116 : Cond.selects "LeastBounds$Types" ⟨"LeastBounds$Types", "hasParts", "(I[II)Z"⟩ ⟨"LeastBounds$Types", "hasParts", "(I[II)Z"⟩ ∈ tb := mt0 (List.mem_of_getElem? (i := 18) rfl) rfl
theorem wd_117 : Cond.methodLink "LeastBounds$Types" 91 ⟨"java/lang/System", "arraycopy", "(Ljava/lang/Object;ILjava/lang/Object;II)V"⟩ ∈ tb := mt3 (List.mem_of_getElem? (i := 57) rfl) rfl
theorem wd_118 : Cond.native ⟨"java/lang/System", "arraycopy", "(Ljava/lang/Object;ILjava/lang/Object;II)V"⟩ ∈ tb := mt3 (List.mem_of_getElem? (i := 56) rfl) rfl
theorem wd_119 : Cond.static ⟨"java/lang/System", "arraycopy", "(Ljava/lang/Object;ILjava/lang/Object;II)V"⟩ ∈ tb := mt3 (List.mem_of_getElem? (i := 55) rfl) rfl
theorem wd_120 : Cond.initialized "java/lang/System" ∈ tb := mt1 (List.mem_of_getElem? (i := 14) rfl) rfl
theorem wd_121 : Cond.methodLink "LeastBounds$Types" 85 ⟨"java/util/Arrays", "copyOf", "([II)[I"⟩ ∈ tb := mt3 (List.mem_of_getElem? (i := 43) rfl) rfl
theorem wd_122 : Cond.methodLink "LeastBounds$Types" 70 ⟨"LeastBounds$Types", "findIntersection", "([III)I"⟩ ∈ tb := mt3 (List.mem_of_getElem? (i := 30) rfl) rfl
theorem wd_123 : Cond.code ⟨"LeastBounds$Types", "findIntersection", "([III)I"⟩ prog_4_method_16_code 5 (some FieldType.int) ∈ tb := mt3 (List.mem_of_getElem? (i := 33) rfl) rfl
theorem wd_124 : Cond.instanceMethod ⟨"LeastBounds$Types", "findIntersection", "([III)I"⟩ ∈ tb := mt3 (List.mem_of_getElem? (i := 32) rfl) rfl
theorem wd_125 : Cond.selects "LeastBounds$Types" ⟨"LeastBounds$Types", "findIntersection", "([III)I"⟩ ⟨"LeastBounds$Types", "findIntersection", "([III)I"⟩ ∈ tb := mt0 (List.mem_of_getElem? (i := 17) rfl) rfl
theorem wd_126 : Cond.methodLink "LeastBounds$Types" 74 ⟨"LeastBounds$Types", "appendParts", "(I[III)V"⟩ ∈ tb := mt3 (List.mem_of_getElem? (i := 39) rfl) rfl
theorem wd_127 : Cond.code ⟨"LeastBounds$Types", "appendParts", "(I[III)V"⟩ prog_4_method_18_code 5 none ∈ tb := mt3 (List.mem_of_getElem? (i := 42) rfl) rfl
theorem wd_128 : Cond.instanceMethod ⟨"LeastBounds$Types", "appendParts", "(I[III)V"⟩ ∈ tb := mt3 (List.mem_of_getElem? (i := 41) rfl) rfl
theorem wd_129 : Cond.selects "LeastBounds$Types" ⟨"LeastBounds$Types", "appendParts", "(I[III)V"⟩ ⟨"LeastBounds$Types", "appendParts", "(I[III)V"⟩ ∈ tb := mt0 (List.mem_of_getElem? (i := 19) rfl) rfl
theorem wd_130 : Cond.methodLink "LeastBounds$Answers" 19 ⟨"LeastBounds$Answers", "isPair", "(II)Z"⟩ ∈ tb := mt3 (List.mem_of_getElem? (i := 73) rfl) rfl
theorem wd_131 : Cond.code ⟨"LeastBounds$Answers", "isPair", "(II)Z"⟩ prog_2_method_2_code 2 (some FieldType.boolean) ∈ tb := mt3 (List.mem_of_getElem? (i := 75) rfl) rfl
theorem wd_132 : Cond.static ⟨"LeastBounds$Answers", "isPair", "(II)Z"⟩ ∈ tb := mt3 (List.mem_of_getElem? (i := 74) rfl) rfl
theorem wd_133 : Cond.initialized "LeastBounds$Answers" ∈ tb := mt1 (List.mem_of_getElem? (i := 5) rfl) rfl
theorem wd_134 : Cond.static ⟨"java/lang/Math", "min", "(II)I"⟩ ∈ tb := mt1 (List.mem_of_getElem? (i := 25) rfl) rfl
theorem wd_135 : Cond.code ⟨"java/lang/Math", "min", "(II)I"⟩ prog_13_method_69_code 2 (some FieldType.int) ∈ tb := mt1 (List.mem_of_getElem? (i := 26) rfl) rfl
theorem wd_136 : Cond.code ⟨"java/util/Arrays", "copyOf", "([II)[I"⟩ prog_18_method_123_code 3 (some (FieldType.array FieldType.int)) ∈ tb := mt3 (List.mem_of_getElem? (i := 45) rfl) rfl
theorem wd_137 : Cond.static ⟨"java/util/Arrays", "copyOf", "([II)[I"⟩ ∈ tb := mt3 (List.mem_of_getElem? (i := 44) rfl) rfl
theorem wd_arrI : Cond.arrayClass .int ∈ tb := mt1 (List.mem_of_getElem? (i := 98) rfl) rfl
theorem wd_arrZ : Cond.arrayClass .boolean ∈ tb := mt1 (List.mem_of_getElem? (i := 97) rfl) rfl
theorem wd_arrJ : Cond.arrayClass .long ∈ tb := mt5 (List.mem_of_getElem? (i := 9) rfl) rfl
theorem wd_jmin : Cond.methodLink "java/util/Arrays" 304 ⟨"java/lang/Math", "min", "(II)I"⟩ ∈ tb := mt3 (List.mem_of_getElem? (i := 53) rfl) rfl
theorem wd_jcpy : Cond.methodLink "java/util/Arrays" 150 ⟨"java/lang/System", "arraycopy", "(Ljava/lang/Object;ILjava/lang/Object;II)V"⟩ ∈ tb := mt3 (List.mem_of_getElem? (i := 54) rfl) rfl
theorem wd_minS : Cond.static ⟨"java/lang/Math", "min", "(II)I"⟩ ∈ tb := wd_134
theorem wd_minI : Cond.initialized "java/lang/Math" ∈ tb := wd_15
theorem wd_minC : Cond.code ⟨"java/lang/Math", "min", "(II)I"⟩ prog_13_method_69_code 2 (some FieldType.int) ∈ tb := wd_135
theorem wd_cpyN : Cond.native ⟨"java/lang/System", "arraycopy", "(Ljava/lang/Object;ILjava/lang/Object;II)V"⟩ ∈ tb := wd_118
theorem wd_cpyS : Cond.static ⟨"java/lang/System", "arraycopy", "(Ljava/lang/Object;ILjava/lang/Object;II)V"⟩ ∈ tb := wd_119
theorem wd_cpyI : Cond.initialized "java/lang/System" ∈ tb := wd_120
theorem wd_coC : Cond.code ⟨"java/util/Arrays", "copyOf", "([II)[I"⟩ prog_18_method_123_code 3 (some (FieldType.array FieldType.int)) ∈ tb := wd_136
theorem wd_coI : Cond.initialized "java/util/Arrays" ∈ tb := wd_107
theorem wd_coS : Cond.static ⟨"java/util/Arrays", "copyOf", "([II)[I"⟩ ∈ tb := wd_137
end
section
theorem d_A_forget_0 : decode b_A_forget 0 = .ok (.aload_n 0, 1) := by decide +kernel
theorem d_A_forget_1 : decode b_A_forget 1 = .ok (.getfield 15, 3) := by decide +kernel
theorem d_A_forget_4 : decode b_A_forget 4 = .ok (.ifCond .ne 16, 3) := by decide +kernel
theorem d_A_forget_7 : decode b_A_forget 7 = .ok (.aload_n 0, 1) := by decide +kernel
theorem d_A_forget_8 : decode b_A_forget 8 = .ok (.getfield 9, 3) := by decide +kernel
theorem d_A_forget_11 : decode b_A_forget 11 = .ok (.iconst 0, 1) := by decide +kernel
theorem d_A_forget_12 : decode b_A_forget 12 = .ok (.invokestatic 23, 3) := by decide +kernel
theorem d_A_forget_15 : decode b_A_forget 15 = .ok (.aload_n 0, 1) := by decide +kernel
theorem d_A_forget_16 : decode b_A_forget 16 = .ok (.iconst 1, 1) := by decide +kernel
theorem d_A_forget_17 : decode b_A_forget 17 = .ok (.putfield 15, 3) := by decide +kernel
theorem d_A_forget_20 : decode b_A_forget 20 = .ok (.return_, 1) := by decide +kernel
theorem d_A_isPair_0 : decode b_A_isPair 0 = .ok (.iload_n 0, 1) := by decide +kernel
theorem d_A_isPair_1 : decode b_A_isPair 1 = .ok (.ifCond .lt 25, 3) := by decide +kernel
theorem d_A_isPair_4 : decode b_A_isPair 4 = .ok (.iload_n 0, 1) := by decide +kernel
theorem d_A_isPair_5 : decode b_A_isPair 5 = .ok (.sipush 300, 3) := by decide +kernel
theorem d_A_isPair_8 : decode b_A_isPair 8 = .ok (.if_icmp .ge 18, 3) := by decide +kernel
theorem d_A_isPair_11 : decode b_A_isPair 11 = .ok (.iload_n 1, 1) := by decide +kernel
theorem d_A_isPair_12 : decode b_A_isPair 12 = .ok (.ifCond .lt 14, 3) := by decide +kernel
theorem d_A_isPair_15 : decode b_A_isPair 15 = .ok (.iload_n 1, 1) := by decide +kernel
theorem d_A_isPair_16 : decode b_A_isPair 16 = .ok (.sipush 300, 3) := by decide +kernel
theorem d_A_isPair_19 : decode b_A_isPair 19 = .ok (.if_icmp .ge 7, 3) := by decide +kernel
theorem d_A_isPair_22 : decode b_A_isPair 22 = .ok (.iconst 1, 1) := by decide +kernel
theorem d_A_isPair_23 : decode b_A_isPair 23 = .ok (.goto 4, 3) := by decide +kernel
theorem d_A_isPair_26 : decode b_A_isPair 26 = .ok (.iconst 0, 1) := by decide +kernel
theorem d_A_isPair_27 : decode b_A_isPair 27 = .ok (.ireturn, 1) := by decide +kernel
theorem d_A_read_0 : decode b_A_read 0 = .ok (.iload_n 1, 1) := by decide +kernel
theorem d_A_read_1 : decode b_A_read 1 = .ok (.iload_n 2, 1) := by decide +kernel
theorem d_A_read_2 : decode b_A_read 2 = .ok (.invokestatic 19, 3) := by decide +kernel
theorem d_A_read_5 : decode b_A_read 5 = .ok (.ifCond .ne 5, 3) := by decide +kernel
theorem d_A_read_8 : decode b_A_read 8 = .ok (.iconst 0, 1) := by decide +kernel
theorem d_A_read_9 : decode b_A_read 9 = .ok (.ireturn, 1) := by decide +kernel
theorem d_A_read_10 : decode b_A_read 10 = .ok (.iload_n 1, 1) := by decide +kernel
theorem d_A_read_11 : decode b_A_read 11 = .ok (.sipush 300, 3) := by decide +kernel
theorem d_A_read_14 : decode b_A_read 14 = .ok (.imul, 1) := by decide +kernel
theorem d_A_read_15 : decode b_A_read 15 = .ok (.iload_n 2, 1) := by decide +kernel
theorem d_A_read_16 : decode b_A_read 16 = .ok (.iadd, 1) := by decide +kernel
theorem d_A_read_17 : decode b_A_read 17 = .ok (.istore_n 3, 1) := by decide +kernel
theorem d_A_read_18 : decode b_A_read 18 = .ok (.aload_n 0, 1) := by decide +kernel
theorem d_A_read_19 : decode b_A_read 19 = .ok (.getfield 9, 3) := by decide +kernel
theorem d_A_read_22 : decode b_A_read 22 = .ok (.iload_n 3, 1) := by decide +kernel
theorem d_A_read_23 : decode b_A_read 23 = .ok (.iconst 4, 1) := by decide +kernel
theorem d_A_read_24 : decode b_A_read 24 = .ok (.ishr, 1) := by decide +kernel
theorem d_A_read_25 : decode b_A_read 25 = .ok (.iaload, 1) := by decide +kernel
theorem d_A_read_26 : decode b_A_read 26 = .ok (.iconst 2, 1) := by decide +kernel
theorem d_A_read_27 : decode b_A_read 27 = .ok (.iload_n 3, 1) := by decide +kernel
theorem d_A_read_28 : decode b_A_read 28 = .ok (.bipush 15, 2) := by decide +kernel
theorem d_A_read_30 : decode b_A_read 30 = .ok (.iand, 1) := by decide +kernel
theorem d_A_read_31 : decode b_A_read 31 = .ok (.imul, 1) := by decide +kernel
theorem d_A_read_32 : decode b_A_read 32 = .ok (.ishr, 1) := by decide +kernel
theorem d_A_read_33 : decode b_A_read 33 = .ok (.iconst 3, 1) := by decide +kernel
theorem d_A_read_34 : decode b_A_read 34 = .ok (.iand, 1) := by decide +kernel
theorem d_A_read_35 : decode b_A_read 35 = .ok (.ireturn, 1) := by decide +kernel
theorem d_A_keep_0 : decode b_A_keep 0 = .ok (.iload_n 1, 1) := by decide +kernel
theorem d_A_keep_1 : decode b_A_keep 1 = .ok (.iload_n 2, 1) := by decide +kernel
theorem d_A_keep_2 : decode b_A_keep 2 = .ok (.invokestatic 19, 3) := by decide +kernel
theorem d_A_keep_5 : decode b_A_keep 5 = .ok (.ifCond .ne 4, 3) := by decide +kernel
theorem d_A_keep_8 : decode b_A_keep 8 = .ok (.return_, 1) := by decide +kernel
theorem d_A_keep_9 : decode b_A_keep 9 = .ok (.iload_n 1, 1) := by decide +kernel
theorem d_A_keep_10 : decode b_A_keep 10 = .ok (.sipush 300, 3) := by decide +kernel
theorem d_A_keep_13 : decode b_A_keep 13 = .ok (.imul, 1) := by decide +kernel
theorem d_A_keep_14 : decode b_A_keep 14 = .ok (.iload_n 2, 1) := by decide +kernel
theorem d_A_keep_15 : decode b_A_keep 15 = .ok (.iadd, 1) := by decide +kernel
theorem d_A_keep_16 : decode b_A_keep 16 = .ok (.istore 4, 2) := by decide +kernel
theorem d_A_keep_18 : decode b_A_keep 18 = .ok (.aload_n 0, 1) := by decide +kernel
theorem d_A_keep_19 : decode b_A_keep 19 = .ok (.getfield 9, 3) := by decide +kernel
theorem d_A_keep_22 : decode b_A_keep 22 = .ok (.iload 4, 2) := by decide +kernel
theorem d_A_keep_24 : decode b_A_keep 24 = .ok (.iconst 4, 1) := by decide +kernel
theorem d_A_keep_25 : decode b_A_keep 25 = .ok (.ishr, 1) := by decide +kernel
theorem d_A_keep_26 : decode b_A_keep 26 = .ok (.dup2, 1) := by decide +kernel
theorem d_A_keep_27 : decode b_A_keep 27 = .ok (.iaload, 1) := by decide +kernel
theorem d_A_keep_28 : decode b_A_keep 28 = .ok (.iload_n 3, 1) := by decide +kernel
theorem d_A_keep_29 : decode b_A_keep 29 = .ok (.ifCond .eq 7, 3) := by decide +kernel
theorem d_A_keep_32 : decode b_A_keep 32 = .ok (.iconst 2, 1) := by decide +kernel
theorem d_A_keep_33 : decode b_A_keep 33 = .ok (.goto 4, 3) := by decide +kernel
theorem d_A_keep_36 : decode b_A_keep 36 = .ok (.iconst 1, 1) := by decide +kernel
theorem d_A_keep_37 : decode b_A_keep 37 = .ok (.iconst 2, 1) := by decide +kernel
theorem d_A_keep_38 : decode b_A_keep 38 = .ok (.iload 4, 2) := by decide +kernel
theorem d_A_keep_40 : decode b_A_keep 40 = .ok (.bipush 15, 2) := by decide +kernel
theorem d_A_keep_42 : decode b_A_keep 42 = .ok (.iand, 1) := by decide +kernel
theorem d_A_keep_43 : decode b_A_keep 43 = .ok (.imul, 1) := by decide +kernel
theorem d_A_keep_44 : decode b_A_keep 44 = .ok (.ishl, 1) := by decide +kernel
theorem d_A_keep_45 : decode b_A_keep 45 = .ok (.ior, 1) := by decide +kernel
theorem d_A_keep_46 : decode b_A_keep 46 = .ok (.iastore, 1) := by decide +kernel
theorem d_A_keep_47 : decode b_A_keep 47 = .ok (.aload_n 0, 1) := by decide +kernel
theorem d_A_keep_48 : decode b_A_keep 48 = .ok (.iconst 0, 1) := by decide +kernel
theorem d_A_keep_49 : decode b_A_keep 49 = .ok (.putfield 15, 3) := by decide +kernel
theorem d_A_keep_52 : decode b_A_keep 52 = .ok (.return_, 1) := by decide +kernel
end
section
theorem d_C_isThere_0 : decode b_C_isThere 0 = .ok (.iload_n 1, 1) := by decide +kernel
theorem d_C_isThere_1 : decode b_C_isThere 1 = .ok (.ifCond .lt 15, 3) := by decide +kernel
theorem d_C_isThere_4 : decode b_C_isThere 4 = .ok (.iload_n 1, 1) := by decide +kernel
theorem d_C_isThere_5 : decode b_C_isThere 5 = .ok (.aload_n 0, 1) := by decide +kernel
theorem d_C_isThere_6 : decode b_C_isThere 6 = .ok (.getfield 31, 3) := by decide +kernel
theorem d_C_isThere_9 : decode b_C_isThere 9 = .ok (.if_icmp .ge 7, 3) := by decide +kernel
theorem d_C_isThere_12 : decode b_C_isThere 12 = .ok (.iconst 1, 1) := by decide +kernel
theorem d_C_isThere_13 : decode b_C_isThere 13 = .ok (.goto 4, 3) := by decide +kernel
theorem d_C_isThere_16 : decode b_C_isThere 16 = .ok (.iconst 0, 1) := by decide +kernel
theorem d_C_isThere_17 : decode b_C_isThere 17 = .ok (.ireturn, 1) := by decide +kernel
theorem d_C_withAbove_0 : decode b_C_withAbove 0 = .ok (.aload_n 0, 1) := by decide +kernel
theorem d_C_withAbove_1 : decode b_C_withAbove 1 = .ok (.iload_n 1, 1) := by decide +kernel
theorem d_C_withAbove_2 : decode b_C_withAbove 2 = .ok (.invokevirtual 50, 3) := by decide +kernel
theorem d_C_withAbove_5 : decode b_C_withAbove 5 = .ok (.ifCond .eq 16, 3) := by decide +kernel
theorem d_C_withAbove_8 : decode b_C_withAbove 8 = .ok (.aload_n 0, 1) := by decide +kernel
theorem d_C_withAbove_9 : decode b_C_withAbove 9 = .ok (.getfield 18, 3) := by decide +kernel
theorem d_C_withAbove_12 : decode b_C_withAbove 12 = .ok (.iload_n 1, 1) := by decide +kernel
theorem d_C_withAbove_13 : decode b_C_withAbove 13 = .ok (.iaload, 1) := by decide +kernel
theorem d_C_withAbove_14 : decode b_C_withAbove 14 = .ok (.iconst 1, 1) := by decide +kernel
theorem d_C_withAbove_15 : decode b_C_withAbove 15 = .ok (.iload_n 1, 1) := by decide +kernel
theorem d_C_withAbove_16 : decode b_C_withAbove 16 = .ok (.ishl, 1) := by decide +kernel
theorem d_C_withAbove_17 : decode b_C_withAbove 17 = .ok (.ior, 1) := by decide +kernel
theorem d_C_withAbove_18 : decode b_C_withAbove 18 = .ok (.goto 4, 3) := by decide +kernel
theorem d_C_withAbove_21 : decode b_C_withAbove 21 = .ok (.iconst 0, 1) := by decide +kernel
theorem d_C_withAbove_22 : decode b_C_withAbove 22 = .ok (.ireturn, 1) := by decide +kernel
theorem d_C_write_0 : decode b_C_write 0 = .ok (.aload_n 0, 1) := by decide +kernel
theorem d_C_write_1 : decode b_C_write 1 = .ok (.iload_n 1, 1) := by decide +kernel
theorem d_C_write_2 : decode b_C_write 2 = .ok (.invokevirtual 50, 3) := by decide +kernel
theorem d_C_write_5 : decode b_C_write 5 = .ok (.ifCond .eq 21, 3) := by decide +kernel
theorem d_C_write_8 : decode b_C_write 8 = .ok (.aload_n 0, 1) := by decide +kernel
theorem d_C_write_9 : decode b_C_write 9 = .ok (.iload_n 3, 1) := by decide +kernel
theorem d_C_write_10 : decode b_C_write 10 = .ok (.invokevirtual 50, 3) := by decide +kernel
theorem d_C_write_13 : decode b_C_write 13 = .ok (.ifCond .eq 13, 3) := by decide +kernel
theorem d_C_write_16 : decode b_C_write 16 = .ok (.iload_n 2, 1) := by decide +kernel
theorem d_C_write_17 : decode b_C_write 17 = .ok (.ifCond .lt 9, 3) := by decide +kernel
theorem d_C_write_20 : decode b_C_write 20 = .ok (.iload_n 2, 1) := by decide +kernel
theorem d_C_write_21 : decode b_C_write 21 = .ok (.bipush 30, 2) := by decide +kernel
theorem d_C_write_23 : decode b_C_write 23 = .ok (.if_icmp .lt 4, 3) := by decide +kernel
theorem d_C_write_26 : decode b_C_write 26 = .ok (.return_, 1) := by decide +kernel
theorem d_C_write_27 : decode b_C_write 27 = .ok (.aload_n 0, 1) := by decide +kernel
theorem d_C_write_28 : decode b_C_write 28 = .ok (.getfield 25, 3) := by decide +kernel
theorem d_C_write_31 : decode b_C_write 31 = .ok (.iload_n 1, 1) := by decide +kernel
theorem d_C_write_32 : decode b_C_write 32 = .ok (.bipush 30, 2) := by decide +kernel
theorem d_C_write_34 : decode b_C_write 34 = .ok (.imul, 1) := by decide +kernel
theorem d_C_write_35 : decode b_C_write 35 = .ok (.iload_n 2, 1) := by decide +kernel
theorem d_C_write_36 : decode b_C_write 36 = .ok (.iadd, 1) := by decide +kernel
theorem d_C_write_37 : decode b_C_write 37 = .ok (.iload_n 3, 1) := by decide +kernel
theorem d_C_write_38 : decode b_C_write 38 = .ok (.iastore, 1) := by decide +kernel
theorem d_C_write_39 : decode b_C_write 39 = .ok (.aload_n 0, 1) := by decide +kernel
theorem d_C_write_40 : decode b_C_write 40 = .ok (.getfield 28, 3) := by decide +kernel
theorem d_C_write_43 : decode b_C_write 43 = .ok (.iload_n 1, 1) := by decide +kernel
theorem d_C_write_44 : decode b_C_write 44 = .ok (.bipush 30, 2) := by decide +kernel
theorem d_C_write_46 : decode b_C_write 46 = .ok (.imul, 1) := by decide +kernel
theorem d_C_write_47 : decode b_C_write 47 = .ok (.iload_n 2, 1) := by decide +kernel
theorem d_C_write_48 : decode b_C_write 48 = .ok (.iadd, 1) := by decide +kernel
theorem d_C_write_49 : decode b_C_write 49 = .ok (.iload 4, 2) := by decide +kernel
theorem d_C_write_51 : decode b_C_write 51 = .ok (.iastore, 1) := by decide +kernel
theorem d_C_write_52 : decode b_C_write 52 = .ok (.aload_n 0, 1) := by decide +kernel
theorem d_C_write_53 : decode b_C_write 53 = .ok (.getfield 22, 3) := by decide +kernel
theorem d_C_write_56 : decode b_C_write 56 = .ok (.iload_n 1, 1) := by decide +kernel
theorem d_C_write_57 : decode b_C_write 57 = .ok (.aload_n 0, 1) := by decide +kernel
theorem d_C_write_58 : decode b_C_write 58 = .ok (.getfield 22, 3) := by decide +kernel
theorem d_C_write_61 : decode b_C_write 61 = .ok (.iload_n 1, 1) := by decide +kernel
theorem d_C_write_62 : decode b_C_write 62 = .ok (.iaload, 1) := by decide +kernel
theorem d_C_write_63 : decode b_C_write 63 = .ok (.iload_n 2, 1) := by decide +kernel
theorem d_C_write_64 : decode b_C_write 64 = .ok (.iconst 1, 1) := by decide +kernel
theorem d_C_write_65 : decode b_C_write 65 = .ok (.iadd, 1) := by decide +kernel
theorem d_C_write_66 : decode b_C_write 66 = .ok (.invokestatic 94, 3) := by decide +kernel
theorem d_C_write_69 : decode b_C_write 69 = .ok (.iastore, 1) := by decide +kernel
theorem d_C_write_70 : decode b_C_write 70 = .ok (.aload_n 0, 1) := by decide +kernel
theorem d_C_write_71 : decode b_C_write 71 = .ok (.getfield 18, 3) := by decide +kernel
theorem d_C_write_74 : decode b_C_write 74 = .ok (.iload_n 1, 1) := by decide +kernel
theorem d_C_write_75 : decode b_C_write 75 = .ok (.dup2, 1) := by decide +kernel
theorem d_C_write_76 : decode b_C_write 76 = .ok (.iaload, 1) := by decide +kernel
theorem d_C_write_77 : decode b_C_write 77 = .ok (.aload_n 0, 1) := by decide +kernel
theorem d_C_write_78 : decode b_C_write 78 = .ok (.iload_n 3, 1) := by decide +kernel
theorem d_C_write_79 : decode b_C_write 79 = .ok (.invokevirtual 78, 3) := by decide +kernel
theorem d_C_write_82 : decode b_C_write 82 = .ok (.ior, 1) := by decide +kernel
theorem d_C_write_83 : decode b_C_write 83 = .ok (.iastore, 1) := by decide +kernel
theorem d_C_write_84 : decode b_C_write 84 = .ok (.return_, 1) := by decide +kernel
theorem d_C_add_0 : decode b_C_add 0 = .ok (.aload_n 0, 1) := by decide +kernel
theorem d_C_add_1 : decode b_C_add 1 = .ok (.getfield 31, 3) := by decide +kernel
theorem d_C_add_4 : decode b_C_add 4 = .ok (.bipush 30, 2) := by decide +kernel
theorem d_C_add_6 : decode b_C_add 6 = .ok (.if_icmp .lt 5, 3) := by decide +kernel
theorem d_C_add_9 : decode b_C_add 9 = .ok (.iconst (-1), 1) := by decide +kernel
theorem d_C_add_10 : decode b_C_add 10 = .ok (.ireturn, 1) := by decide +kernel
theorem d_C_add_11 : decode b_C_add 11 = .ok (.aload_n 0, 1) := by decide +kernel
theorem d_C_add_12 : decode b_C_add 12 = .ok (.getfield 31, 3) := by decide +kernel
theorem d_C_add_15 : decode b_C_add 15 = .ok (.istore_n 3, 1) := by decide +kernel
theorem d_C_add_16 : decode b_C_add 16 = .ok (.aload_n 0, 1) := by decide +kernel
theorem d_C_add_17 : decode b_C_add 17 = .ok (.dup, 1) := by decide +kernel
theorem d_C_add_18 : decode b_C_add 18 = .ok (.getfield 31, 3) := by decide +kernel
theorem d_C_add_21 : decode b_C_add 21 = .ok (.iconst 1, 1) := by decide +kernel
theorem d_C_add_22 : decode b_C_add 22 = .ok (.iadd, 1) := by decide +kernel
theorem d_C_add_23 : decode b_C_add 23 = .ok (.putfield 31, 3) := by decide +kernel
theorem d_C_add_26 : decode b_C_add 26 = .ok (.aload_n 0, 1) := by decide +kernel
theorem d_C_add_27 : decode b_C_add 27 = .ok (.getfield 9, 3) := by decide +kernel
theorem d_C_add_30 : decode b_C_add 30 = .ok (.iload_n 3, 1) := by decide +kernel
theorem d_C_add_31 : decode b_C_add 31 = .ok (.iload_n 1, 1) := by decide +kernel
theorem d_C_add_32 : decode b_C_add 32 = .ok (.bastore, 1) := by decide +kernel
theorem d_C_add_33 : decode b_C_add 33 = .ok (.aload_n 0, 1) := by decide +kernel
theorem d_C_add_34 : decode b_C_add 34 = .ok (.getfield 15, 3) := by decide +kernel
theorem d_C_add_37 : decode b_C_add 37 = .ok (.iload_n 3, 1) := by decide +kernel
theorem d_C_add_38 : decode b_C_add 38 = .ok (.iload_n 2, 1) := by decide +kernel
theorem d_C_add_39 : decode b_C_add 39 = .ok (.bastore, 1) := by decide +kernel
theorem d_C_add_40 : decode b_C_add 40 = .ok (.iload_n 2, 1) := by decide +kernel
theorem d_C_add_41 : decode b_C_add 41 = .ok (.ifCond .eq 13, 3) := by decide +kernel
theorem d_C_add_44 : decode b_C_add 44 = .ok (.aload_n 0, 1) := by decide +kernel
theorem d_C_add_45 : decode b_C_add 45 = .ok (.dup, 1) := by decide +kernel
theorem d_C_add_46 : decode b_C_add 46 = .ok (.getfield 35, 3) := by decide +kernel
theorem d_C_add_49 : decode b_C_add 49 = .ok (.iconst 1, 1) := by decide +kernel
theorem d_C_add_50 : decode b_C_add 50 = .ok (.iadd, 1) := by decide +kernel
theorem d_C_add_51 : decode b_C_add 51 = .ok (.putfield 35, 3) := by decide +kernel
theorem d_C_add_54 : decode b_C_add 54 = .ok (.iload_n 3, 1) := by decide +kernel
theorem d_C_add_55 : decode b_C_add 55 = .ok (.ifCond .eq 11, 3) := by decide +kernel
theorem d_C_add_58 : decode b_C_add 58 = .ok (.aload_n 0, 1) := by decide +kernel
theorem d_C_add_59 : decode b_C_add 59 = .ok (.iload_n 3, 1) := by decide +kernel
theorem d_C_add_60 : decode b_C_add 60 = .ok (.iconst 0, 1) := by decide +kernel
theorem d_C_add_61 : decode b_C_add 61 = .ok (.iconst 0, 1) := by decide +kernel
theorem d_C_add_62 : decode b_C_add 62 = .ok (.iconst (-1), 1) := by decide +kernel
theorem d_C_add_63 : decode b_C_add 63 = .ok (.invokevirtual 54, 3) := by decide +kernel
theorem d_C_add_66 : decode b_C_add 66 = .ok (.iload_n 3, 1) := by decide +kernel
theorem d_C_add_67 : decode b_C_add 67 = .ok (.ireturn, 1) := by decide +kernel
theorem d_C_newest_0 : decode b_C_newest 0 = .ok (.aload_n 0, 1) := by decide +kernel
theorem d_C_newest_1 : decode b_C_newest 1 = .ok (.getfield 31, 3) := by decide +kernel
theorem d_C_newest_4 : decode b_C_newest 4 = .ok (.iconst 1, 1) := by decide +kernel
theorem d_C_newest_5 : decode b_C_newest 5 = .ok (.isub, 1) := by decide +kernel
theorem d_C_newest_6 : decode b_C_newest 6 = .ok (.ireturn, 1) := by decide +kernel
theorem d_C_isFace_0 : decode b_C_isFace 0 = .ok (.aload_n 0, 1) := by decide +kernel
theorem d_C_isFace_1 : decode b_C_isFace 1 = .ok (.iload_n 1, 1) := by decide +kernel
theorem d_C_isFace_2 : decode b_C_isFace 2 = .ok (.invokevirtual 50, 3) := by decide +kernel
theorem d_C_isFace_5 : decode b_C_isFace 5 = .ok (.ifCond .eq 16, 3) := by decide +kernel
theorem d_C_isFace_8 : decode b_C_isFace 8 = .ok (.aload_n 0, 1) := by decide +kernel
theorem d_C_isFace_9 : decode b_C_isFace 9 = .ok (.getfield 9, 3) := by decide +kernel
theorem d_C_isFace_12 : decode b_C_isFace 12 = .ok (.iload_n 1, 1) := by decide +kernel
theorem d_C_isFace_13 : decode b_C_isFace 13 = .ok (.baload, 1) := by decide +kernel
theorem d_C_isFace_14 : decode b_C_isFace 14 = .ok (.ifCond .eq 7, 3) := by decide +kernel
theorem d_C_isFace_17 : decode b_C_isFace 17 = .ok (.iconst 1, 1) := by decide +kernel
theorem d_C_isFace_18 : decode b_C_isFace 18 = .ok (.goto 4, 3) := by decide +kernel
theorem d_C_isFace_21 : decode b_C_isFace 21 = .ok (.iconst 0, 1) := by decide +kernel
theorem d_C_isFace_22 : decode b_C_isFace 22 = .ok (.ireturn, 1) := by decide +kernel
theorem d_C_countDirect_0 : decode b_C_countDirect 0 = .ok (.aload_n 0, 1) := by decide +kernel
theorem d_C_countDirect_1 : decode b_C_countDirect 1 = .ok (.iload_n 1, 1) := by decide +kernel
theorem d_C_countDirect_2 : decode b_C_countDirect 2 = .ok (.invokevirtual 50, 3) := by decide +kernel
theorem d_C_countDirect_5 : decode b_C_countDirect 5 = .ok (.ifCond .eq 12, 3) := by decide +kernel
theorem d_C_countDirect_8 : decode b_C_countDirect 8 = .ok (.aload_n 0, 1) := by decide +kernel
theorem d_C_countDirect_9 : decode b_C_countDirect 9 = .ok (.getfield 22, 3) := by decide +kernel
theorem d_C_countDirect_12 : decode b_C_countDirect 12 = .ok (.iload_n 1, 1) := by decide +kernel
theorem d_C_countDirect_13 : decode b_C_countDirect 13 = .ok (.iaload, 1) := by decide +kernel
theorem d_C_countDirect_14 : decode b_C_countDirect 14 = .ok (.goto 4, 3) := by decide +kernel
theorem d_C_countDirect_17 : decode b_C_countDirect 17 = .ok (.iconst 0, 1) := by decide +kernel
theorem d_C_countDirect_18 : decode b_C_countDirect 18 = .ok (.ireturn, 1) := by decide +kernel
theorem d_C_put_0 : decode b_C_put 0 = .ok (.aload_n 0, 1) := by decide +kernel
theorem d_C_put_1 : decode b_C_put 1 = .ok (.invokevirtual 58, 3) := by decide +kernel
theorem d_C_put_4 : decode b_C_put 4 = .ok (.istore_n 3, 1) := by decide +kernel
theorem d_C_put_5 : decode b_C_put 5 = .ok (.aload_n 0, 1) := by decide +kernel
theorem d_C_put_6 : decode b_C_put 6 = .ok (.iload_n 1, 1) := by decide +kernel
theorem d_C_put_7 : decode b_C_put 7 = .ok (.invokevirtual 62, 3) := by decide +kernel
theorem d_C_put_10 : decode b_C_put 10 = .ok (.ifCond .eq 11, 3) := by decide +kernel
theorem d_C_put_13 : decode b_C_put 13 = .ok (.aload_n 0, 1) := by decide +kernel
theorem d_C_put_14 : decode b_C_put 14 = .ok (.iload_n 3, 1) := by decide +kernel
theorem d_C_put_15 : decode b_C_put 15 = .ok (.invokevirtual 72, 3) := by decide +kernel
theorem d_C_put_18 : decode b_C_put 18 = .ok (.goto 4, 3) := by decide +kernel
theorem d_C_put_21 : decode b_C_put 21 = .ok (.iconst 0, 1) := by decide +kernel
theorem d_C_put_22 : decode b_C_put 22 = .ok (.istore 4, 2) := by decide +kernel
theorem d_C_put_24 : decode b_C_put 24 = .ok (.aload_n 0, 1) := by decide +kernel
theorem d_C_put_25 : decode b_C_put 25 = .ok (.iload_n 3, 1) := by decide +kernel
theorem d_C_put_26 : decode b_C_put 26 = .ok (.iload 4, 2) := by decide +kernel
theorem d_C_put_28 : decode b_C_put 28 = .ok (.iload_n 1, 1) := by decide +kernel
theorem d_C_put_29 : decode b_C_put 29 = .ok (.iload_n 2, 1) := by decide +kernel
theorem d_C_put_30 : decode b_C_put 30 = .ok (.invokevirtual 54, 3) := by decide +kernel
theorem d_C_put_33 : decode b_C_put 33 = .ok (.aload_n 0, 1) := by decide +kernel
theorem d_C_put_34 : decode b_C_put 34 = .ok (.iload_n 3, 1) := by decide +kernel
theorem d_C_put_35 : decode b_C_put 35 = .ok (.invokevirtual 72, 3) := by decide +kernel
theorem d_C_put_38 : decode b_C_put 38 = .ok (.ireturn, 1) := by decide +kernel
theorem d_C_count_0 : decode b_C_count 0 = .ok (.aload_n 0, 1) := by decide +kernel
theorem d_C_count_1 : decode b_C_count 1 = .ok (.getfield 31, 3) := by decide +kernel
theorem d_C_count_4 : decode b_C_count 4 = .ok (.ireturn, 1) := by decide +kernel
theorem d_C_countGeneric_0 : decode b_C_countGeneric 0 = .ok (.aload_n 0, 1) := by decide +kernel
theorem d_C_countGeneric_1 : decode b_C_countGeneric 1 = .ok (.getfield 35, 3) := by decide +kernel
theorem d_C_countGeneric_4 : decode b_C_countGeneric 4 = .ok (.ireturn, 1) := by decide +kernel
theorem d_C_directAt_0 : decode b_C_directAt 0 = .ok (.aload_n 0, 1) := by decide +kernel
theorem d_C_directAt_1 : decode b_C_directAt 1 = .ok (.iload_n 1, 1) := by decide +kernel
theorem d_C_directAt_2 : decode b_C_directAt 2 = .ok (.invokevirtual 50, 3) := by decide +kernel
theorem d_C_directAt_5 : decode b_C_directAt 5 = .ok (.ifCond .eq 31, 3) := by decide +kernel
theorem d_C_directAt_8 : decode b_C_directAt 8 = .ok (.iload_n 2, 1) := by decide +kernel
theorem d_C_directAt_9 : decode b_C_directAt 9 = .ok (.ifCond .lt 27, 3) := by decide +kernel
theorem d_C_directAt_12 : decode b_C_directAt 12 = .ok (.iload_n 2, 1) := by decide +kernel
theorem d_C_directAt_13 : decode b_C_directAt 13 = .ok (.aload_n 0, 1) := by decide +kernel
theorem d_C_directAt_14 : decode b_C_directAt 14 = .ok (.getfield 22, 3) := by decide +kernel
theorem d_C_directAt_17 : decode b_C_directAt 17 = .ok (.iload_n 1, 1) := by decide +kernel
theorem d_C_directAt_18 : decode b_C_directAt 18 = .ok (.iaload, 1) := by decide +kernel
theorem d_C_directAt_19 : decode b_C_directAt 19 = .ok (.if_icmp .ge 17, 3) := by decide +kernel
theorem d_C_directAt_22 : decode b_C_directAt 22 = .ok (.aload_n 0, 1) := by decide +kernel
theorem d_C_directAt_23 : decode b_C_directAt 23 = .ok (.getfield 25, 3) := by decide +kernel
theorem d_C_directAt_26 : decode b_C_directAt 26 = .ok (.iload_n 1, 1) := by decide +kernel
theorem d_C_directAt_27 : decode b_C_directAt 27 = .ok (.bipush 30, 2) := by decide +kernel
theorem d_C_directAt_29 : decode b_C_directAt 29 = .ok (.imul, 1) := by decide +kernel
theorem d_C_directAt_30 : decode b_C_directAt 30 = .ok (.iload_n 2, 1) := by decide +kernel
theorem d_C_directAt_31 : decode b_C_directAt 31 = .ok (.iadd, 1) := by decide +kernel
theorem d_C_directAt_32 : decode b_C_directAt 32 = .ok (.iaload, 1) := by decide +kernel
theorem d_C_directAt_33 : decode b_C_directAt 33 = .ok (.goto 4, 3) := by decide +kernel
theorem d_C_directAt_36 : decode b_C_directAt 36 = .ok (.iconst (-1), 1) := by decide +kernel
theorem d_C_directAt_37 : decode b_C_directAt 37 = .ok (.ireturn, 1) := by decide +kernel
theorem d_C_isDirectly_0 : decode b_C_isDirectly 0 = .ok (.aload_n 0, 1) := by decide +kernel
theorem d_C_isDirectly_1 : decode b_C_isDirectly 1 = .ok (.iload_n 1, 1) := by decide +kernel
theorem d_C_isDirectly_2 : decode b_C_isDirectly 2 = .ok (.invokevirtual 72, 3) := by decide +kernel
theorem d_C_isDirectly_5 : decode b_C_isDirectly 5 = .ok (.istore_n 3, 1) := by decide +kernel
theorem d_C_isDirectly_6 : decode b_C_isDirectly 6 = .ok (.iconst 0, 1) := by decide +kernel
theorem d_C_isDirectly_7 : decode b_C_isDirectly 7 = .ok (.istore 4, 2) := by decide +kernel
theorem d_C_isDirectly_9 : decode b_C_isDirectly 9 = .ok (.iload 4, 2) := by decide +kernel
theorem d_C_isDirectly_11 : decode b_C_isDirectly 11 = .ok (.iload_n 3, 1) := by decide +kernel
theorem d_C_isDirectly_12 : decode b_C_isDirectly 12 = .ok (.if_icmp .ge 22, 3) := by decide +kernel
theorem d_C_isDirectly_15 : decode b_C_isDirectly 15 = .ok (.aload_n 0, 1) := by decide +kernel
theorem d_C_isDirectly_16 : decode b_C_isDirectly 16 = .ok (.iload_n 1, 1) := by decide +kernel
theorem d_C_isDirectly_17 : decode b_C_isDirectly 17 = .ok (.iload 4, 2) := by decide +kernel
theorem d_C_isDirectly_19 : decode b_C_isDirectly 19 = .ok (.invokevirtual 65, 3) := by decide +kernel
theorem d_C_isDirectly_22 : decode b_C_isDirectly 22 = .ok (.iload_n 2, 1) := by decide +kernel
theorem d_C_isDirectly_23 : decode b_C_isDirectly 23 = .ok (.if_icmp .ne 5, 3) := by decide +kernel
theorem d_C_isDirectly_26 : decode b_C_isDirectly 26 = .ok (.iconst 1, 1) := by decide +kernel
theorem d_C_isDirectly_27 : decode b_C_isDirectly 27 = .ok (.ireturn, 1) := by decide +kernel
theorem d_C_isDirectly_28 : decode b_C_isDirectly 28 = .ok (.iinc 4 1, 3) := by decide +kernel
theorem d_C_isDirectly_31 : decode b_C_isDirectly 31 = .ok (.goto (-22), 3) := by decide +kernel
theorem d_C_isDirectly_34 : decode b_C_isDirectly 34 = .ok (.iconst 0, 1) := by decide +kernel
theorem d_C_isDirectly_35 : decode b_C_isDirectly 35 = .ok (.ireturn, 1) := by decide +kernel
theorem d_C_mayGet_0 : decode b_C_mayGet 0 = .ok (.aload_n 0, 1) := by decide +kernel
theorem d_C_mayGet_1 : decode b_C_mayGet 1 = .ok (.invokevirtual 58, 3) := by decide +kernel
theorem d_C_mayGet_4 : decode b_C_mayGet 4 = .ok (.istore_n 2, 1) := by decide +kernel
theorem d_C_mayGet_5 : decode b_C_mayGet 5 = .ok (.iload_n 2, 1) := by decide +kernel
theorem d_C_mayGet_6 : decode b_C_mayGet 6 = .ok (.bipush 13, 2) := by decide +kernel
theorem d_C_mayGet_8 : decode b_C_mayGet 8 = .ok (.if_icmp .lt 8, 3) := by decide +kernel
theorem d_C_mayGet_11 : decode b_C_mayGet 11 = .ok (.iload_n 1, 1) := by decide +kernel
theorem d_C_mayGet_12 : decode b_C_mayGet 12 = .ok (.iload_n 2, 1) := by decide +kernel
theorem d_C_mayGet_13 : decode b_C_mayGet 13 = .ok (.if_icmp .ne 5, 3) := by decide +kernel
theorem d_C_mayGet_16 : decode b_C_mayGet 16 = .ok (.iconst 0, 1) := by decide +kernel
theorem d_C_mayGet_17 : decode b_C_mayGet 17 = .ok (.ireturn, 1) := by decide +kernel
theorem d_C_mayGet_18 : decode b_C_mayGet 18 = .ok (.aload_n 0, 1) := by decide +kernel
theorem d_C_mayGet_19 : decode b_C_mayGet 19 = .ok (.iload_n 1, 1) := by decide +kernel
theorem d_C_mayGet_20 : decode b_C_mayGet 20 = .ok (.invokevirtual 62, 3) := by decide +kernel
theorem d_C_mayGet_23 : decode b_C_mayGet 23 = .ok (.ifCond .ne 7, 3) := by decide +kernel
theorem d_C_mayGet_26 : decode b_C_mayGet 26 = .ok (.iconst 1, 1) := by decide +kernel
theorem d_C_mayGet_27 : decode b_C_mayGet 27 = .ok (.goto 4, 3) := by decide +kernel
theorem d_C_mayGet_30 : decode b_C_mayGet 30 = .ok (.iconst 0, 1) := by decide +kernel
theorem d_C_mayGet_31 : decode b_C_mayGet 31 = .ok (.istore_n 3, 1) := by decide +kernel
theorem d_C_mayGet_32 : decode b_C_mayGet 32 = .ok (.iload_n 3, 1) := by decide +kernel
theorem d_C_mayGet_33 : decode b_C_mayGet 33 = .ok (.ifCond .eq 22, 3) := by decide +kernel
theorem d_C_mayGet_36 : decode b_C_mayGet 36 = .ok (.aload_n 0, 1) := by decide +kernel
theorem d_C_mayGet_37 : decode b_C_mayGet 37 = .ok (.iload_n 2, 1) := by decide +kernel
theorem d_C_mayGet_38 : decode b_C_mayGet 38 = .ok (.invokevirtual 62, 3) := by decide +kernel
theorem d_C_mayGet_41 : decode b_C_mayGet 41 = .ok (.ifCond .ne 12, 3) := by decide +kernel
theorem d_C_mayGet_44 : decode b_C_mayGet 44 = .ok (.aload_n 0, 1) := by decide +kernel
theorem d_C_mayGet_45 : decode b_C_mayGet 45 = .ok (.iload_n 2, 1) := by decide +kernel
theorem d_C_mayGet_46 : decode b_C_mayGet 46 = .ok (.iconst 0, 1) := by decide +kernel
theorem d_C_mayGet_47 : decode b_C_mayGet 47 = .ok (.invokevirtual 65, 3) := by decide +kernel
theorem d_C_mayGet_50 : decode b_C_mayGet 50 = .ok (.ifCond .eq 5, 3) := by decide +kernel
theorem d_C_mayGet_53 : decode b_C_mayGet 53 = .ok (.iconst 0, 1) := by decide +kernel
theorem d_C_mayGet_54 : decode b_C_mayGet 54 = .ok (.ireturn, 1) := by decide +kernel
theorem d_C_mayGet_55 : decode b_C_mayGet 55 = .ok (.aload_n 0, 1) := by decide +kernel
theorem d_C_mayGet_56 : decode b_C_mayGet 56 = .ok (.iload_n 2, 1) := by decide +kernel
theorem d_C_mayGet_57 : decode b_C_mayGet 57 = .ok (.iload_n 1, 1) := by decide +kernel
theorem d_C_mayGet_58 : decode b_C_mayGet 58 = .ok (.invokevirtual 68, 3) := by decide +kernel
theorem d_C_mayGet_61 : decode b_C_mayGet 61 = .ok (.ifCond .ne 7, 3) := by decide +kernel
theorem d_C_mayGet_64 : decode b_C_mayGet 64 = .ok (.iconst 1, 1) := by decide +kernel
theorem d_C_mayGet_65 : decode b_C_mayGet 65 = .ok (.goto 4, 3) := by decide +kernel
theorem d_C_mayGet_68 : decode b_C_mayGet 68 = .ok (.iconst 0, 1) := by decide +kernel
theorem d_C_mayGet_69 : decode b_C_mayGet 69 = .ok (.ireturn, 1) := by decide +kernel
theorem d_C_isGeneric_0 : decode b_C_isGeneric 0 = .ok (.aload_n 0, 1) := by decide +kernel
theorem d_C_isGeneric_1 : decode b_C_isGeneric 1 = .ok (.iload_n 1, 1) := by decide +kernel
theorem d_C_isGeneric_2 : decode b_C_isGeneric 2 = .ok (.invokevirtual 50, 3) := by decide +kernel
theorem d_C_isGeneric_5 : decode b_C_isGeneric 5 = .ok (.ifCond .eq 16, 3) := by decide +kernel
theorem d_C_isGeneric_8 : decode b_C_isGeneric 8 = .ok (.aload_n 0, 1) := by decide +kernel
theorem d_C_isGeneric_9 : decode b_C_isGeneric 9 = .ok (.getfield 15, 3) := by decide +kernel
theorem d_C_isGeneric_12 : decode b_C_isGeneric 12 = .ok (.iload_n 1, 1) := by decide +kernel
theorem d_C_isGeneric_13 : decode b_C_isGeneric 13 = .ok (.baload, 1) := by decide +kernel
theorem d_C_isGeneric_14 : decode b_C_isGeneric 14 = .ok (.ifCond .eq 7, 3) := by decide +kernel
theorem d_C_isGeneric_17 : decode b_C_isGeneric 17 = .ok (.iconst 1, 1) := by decide +kernel
theorem d_C_isGeneric_18 : decode b_C_isGeneric 18 = .ok (.goto 4, 3) := by decide +kernel
theorem d_C_isGeneric_21 : decode b_C_isGeneric 21 = .ok (.iconst 0, 1) := by decide +kernel
theorem d_C_isGeneric_22 : decode b_C_isGeneric 22 = .ok (.ireturn, 1) := by decide +kernel
theorem d_C_aboveOf_0 : decode b_C_aboveOf 0 = .ok (.aload_n 0, 1) := by decide +kernel
theorem d_C_aboveOf_1 : decode b_C_aboveOf 1 = .ok (.iload_n 1, 1) := by decide +kernel
theorem d_C_aboveOf_2 : decode b_C_aboveOf 2 = .ok (.invokevirtual 50, 3) := by decide +kernel
theorem d_C_aboveOf_5 : decode b_C_aboveOf 5 = .ok (.ifCond .eq 12, 3) := by decide +kernel
theorem d_C_aboveOf_8 : decode b_C_aboveOf 8 = .ok (.aload_n 0, 1) := by decide +kernel
theorem d_C_aboveOf_9 : decode b_C_aboveOf 9 = .ok (.getfield 18, 3) := by decide +kernel
theorem d_C_aboveOf_12 : decode b_C_aboveOf 12 = .ok (.iload_n 1, 1) := by decide +kernel
theorem d_C_aboveOf_13 : decode b_C_aboveOf 13 = .ok (.iaload, 1) := by decide +kernel
theorem d_C_aboveOf_14 : decode b_C_aboveOf 14 = .ok (.goto 4, 3) := by decide +kernel
theorem d_C_aboveOf_17 : decode b_C_aboveOf 17 = .ok (.iconst 0, 1) := by decide +kernel
theorem d_C_aboveOf_18 : decode b_C_aboveOf 18 = .ok (.ireturn, 1) := by decide +kernel
theorem d_C_firstToward_0 : decode b_C_firstToward 0 = .ok (.aload_n 0, 1) := by decide +kernel
theorem d_C_firstToward_1 : decode b_C_firstToward 1 = .ok (.iload_n 1, 1) := by decide +kernel
theorem d_C_firstToward_2 : decode b_C_firstToward 2 = .ok (.invokevirtual 50, 3) := by decide +kernel
theorem d_C_firstToward_5 : decode b_C_firstToward 5 = .ok (.ifCond .ne 5, 3) := by decide +kernel
theorem d_C_firstToward_8 : decode b_C_firstToward 8 = .ok (.iconst (-1), 1) := by decide +kernel
theorem d_C_firstToward_9 : decode b_C_firstToward 9 = .ok (.ireturn, 1) := by decide +kernel
theorem d_C_firstToward_10 : decode b_C_firstToward 10 = .ok (.iconst 0, 1) := by decide +kernel
theorem d_C_firstToward_11 : decode b_C_firstToward 11 = .ok (.istore_n 3, 1) := by decide +kernel
theorem d_C_firstToward_12 : decode b_C_firstToward 12 = .ok (.iload_n 3, 1) := by decide +kernel
theorem d_C_firstToward_13 : decode b_C_firstToward 13 = .ok (.aload_n 0, 1) := by decide +kernel
theorem d_C_firstToward_14 : decode b_C_firstToward 14 = .ok (.getfield 22, 3) := by decide +kernel
theorem d_C_firstToward_17 : decode b_C_firstToward 17 = .ok (.iload_n 1, 1) := by decide +kernel
theorem d_C_firstToward_18 : decode b_C_firstToward 18 = .ok (.iaload, 1) := by decide +kernel
theorem d_C_firstToward_19 : decode b_C_firstToward 19 = .ok (.if_icmp .ge 53, 3) := by decide +kernel
theorem d_C_firstToward_22 : decode b_C_firstToward 22 = .ok (.aload_n 0, 1) := by decide +kernel
theorem d_C_firstToward_23 : decode b_C_firstToward 23 = .ok (.getfield 25, 3) := by decide +kernel
theorem d_C_firstToward_26 : decode b_C_firstToward 26 = .ok (.iload_n 1, 1) := by decide +kernel
theorem d_C_firstToward_27 : decode b_C_firstToward 27 = .ok (.bipush 30, 2) := by decide +kernel
theorem d_C_firstToward_29 : decode b_C_firstToward 29 = .ok (.imul, 1) := by decide +kernel
theorem d_C_firstToward_30 : decode b_C_firstToward 30 = .ok (.iload_n 3, 1) := by decide +kernel
theorem d_C_firstToward_31 : decode b_C_firstToward 31 = .ok (.iadd, 1) := by decide +kernel
theorem d_C_firstToward_32 : decode b_C_firstToward 32 = .ok (.iaload, 1) := by decide +kernel
theorem d_C_firstToward_33 : decode b_C_firstToward 33 = .ok (.istore 4, 2) := by decide +kernel
theorem d_C_firstToward_35 : decode b_C_firstToward 35 = .ok (.iload 4, 2) := by decide +kernel
theorem d_C_firstToward_37 : decode b_C_firstToward 37 = .ok (.iload_n 2, 1) := by decide +kernel
theorem d_C_firstToward_38 : decode b_C_firstToward 38 = .ok (.if_icmp .eq 26, 3) := by decide +kernel
theorem d_C_firstToward_41 : decode b_C_firstToward 41 = .ok (.aload_n 0, 1) := by decide +kernel
theorem d_C_firstToward_42 : decode b_C_firstToward 42 = .ok (.iload 4, 2) := by decide +kernel
theorem d_C_firstToward_44 : decode b_C_firstToward 44 = .ok (.invokevirtual 50, 3) := by decide +kernel
theorem d_C_firstToward_47 : decode b_C_firstToward 47 = .ok (.ifCond .eq 19, 3) := by decide +kernel
theorem d_C_firstToward_50 : decode b_C_firstToward 50 = .ok (.aload_n 0, 1) := by decide +kernel
theorem d_C_firstToward_51 : decode b_C_firstToward 51 = .ok (.getfield 18, 3) := by decide +kernel
theorem d_C_firstToward_54 : decode b_C_firstToward 54 = .ok (.iload 4, 2) := by decide +kernel
theorem d_C_firstToward_56 : decode b_C_firstToward 56 = .ok (.iaload, 1) := by decide +kernel
theorem d_C_firstToward_57 : decode b_C_firstToward 57 = .ok (.iload_n 2, 1) := by decide +kernel
theorem d_C_firstToward_58 : decode b_C_firstToward 58 = .ok (.invokestatic 81, 3) := by decide +kernel
theorem d_C_firstToward_61 : decode b_C_firstToward 61 = .ok (.ifCond .eq 5, 3) := by decide +kernel
theorem d_C_firstToward_64 : decode b_C_firstToward 64 = .ok (.iload_n 3, 1) := by decide +kernel
theorem d_C_firstToward_65 : decode b_C_firstToward 65 = .ok (.ireturn, 1) := by decide +kernel
theorem d_C_firstToward_66 : decode b_C_firstToward 66 = .ok (.iinc 3 1, 3) := by decide +kernel
theorem d_C_firstToward_69 : decode b_C_firstToward 69 = .ok (.goto (-57), 3) := by decide +kernel
theorem d_C_firstToward_72 : decode b_C_firstToward 72 = .ok (.iconst (-1), 1) := by decide +kernel
theorem d_C_firstToward_73 : decode b_C_firstToward 73 = .ok (.ireturn, 1) := by decide +kernel
theorem d_C_toldAt_0 : decode b_C_toldAt 0 = .ok (.aload_n 0, 1) := by decide +kernel
theorem d_C_toldAt_1 : decode b_C_toldAt 1 = .ok (.iload_n 1, 1) := by decide +kernel
theorem d_C_toldAt_2 : decode b_C_toldAt 2 = .ok (.invokevirtual 50, 3) := by decide +kernel
theorem d_C_toldAt_5 : decode b_C_toldAt 5 = .ok (.ifCond .eq 31, 3) := by decide +kernel
theorem d_C_toldAt_8 : decode b_C_toldAt 8 = .ok (.iload_n 2, 1) := by decide +kernel
theorem d_C_toldAt_9 : decode b_C_toldAt 9 = .ok (.ifCond .lt 27, 3) := by decide +kernel
theorem d_C_toldAt_12 : decode b_C_toldAt 12 = .ok (.iload_n 2, 1) := by decide +kernel
theorem d_C_toldAt_13 : decode b_C_toldAt 13 = .ok (.aload_n 0, 1) := by decide +kernel
theorem d_C_toldAt_14 : decode b_C_toldAt 14 = .ok (.getfield 22, 3) := by decide +kernel
theorem d_C_toldAt_17 : decode b_C_toldAt 17 = .ok (.iload_n 1, 1) := by decide +kernel
theorem d_C_toldAt_18 : decode b_C_toldAt 18 = .ok (.iaload, 1) := by decide +kernel
theorem d_C_toldAt_19 : decode b_C_toldAt 19 = .ok (.if_icmp .ge 17, 3) := by decide +kernel
theorem d_C_toldAt_22 : decode b_C_toldAt 22 = .ok (.aload_n 0, 1) := by decide +kernel
theorem d_C_toldAt_23 : decode b_C_toldAt 23 = .ok (.getfield 28, 3) := by decide +kernel
theorem d_C_toldAt_26 : decode b_C_toldAt 26 = .ok (.iload_n 1, 1) := by decide +kernel
theorem d_C_toldAt_27 : decode b_C_toldAt 27 = .ok (.bipush 30, 2) := by decide +kernel
theorem d_C_toldAt_29 : decode b_C_toldAt 29 = .ok (.imul, 1) := by decide +kernel
theorem d_C_toldAt_30 : decode b_C_toldAt 30 = .ok (.iload_n 2, 1) := by decide +kernel
theorem d_C_toldAt_31 : decode b_C_toldAt 31 = .ok (.iadd, 1) := by decide +kernel
theorem d_C_toldAt_32 : decode b_C_toldAt 32 = .ok (.iaload, 1) := by decide +kernel
theorem d_C_toldAt_33 : decode b_C_toldAt 33 = .ok (.goto 4, 3) := by decide +kernel
theorem d_C_toldAt_36 : decode b_C_toldAt 36 = .ok (.iconst (-1), 1) := by decide +kernel
theorem d_C_toldAt_37 : decode b_C_toldAt 37 = .ok (.ireturn, 1) := by decide +kernel
theorem d_C_passOn_0 : decode b_C_passOn 0 = .ok (.iload_n 0, 1) := by decide +kernel
theorem d_C_passOn_1 : decode b_C_passOn 1 = .ok (.bipush (-2), 2) := by decide +kernel
theorem d_C_passOn_3 : decode b_C_passOn 3 = .ok (.if_icmp .ne 5, 3) := by decide +kernel
theorem d_C_passOn_6 : decode b_C_passOn 6 = .ok (.iload_n 1, 1) := by decide +kernel
theorem d_C_passOn_7 : decode b_C_passOn 7 = .ok (.ireturn, 1) := by decide +kernel
theorem d_C_passOn_8 : decode b_C_passOn 8 = .ok (.iload_n 0, 1) := by decide +kernel
theorem d_C_passOn_9 : decode b_C_passOn 9 = .ok (.iconst (-1), 1) := by decide +kernel
theorem d_C_passOn_10 : decode b_C_passOn 10 = .ok (.if_icmp .ne 7, 3) := by decide +kernel
theorem d_C_passOn_13 : decode b_C_passOn 13 = .ok (.iconst 0, 1) := by decide +kernel
theorem d_C_passOn_14 : decode b_C_passOn 14 = .ok (.goto 8, 3) := by decide +kernel
theorem d_C_passOn_17 : decode b_C_passOn 17 = .ok (.iconst 1, 1) := by decide +kernel
theorem d_C_passOn_18 : decode b_C_passOn 18 = .ok (.iload_n 0, 1) := by decide +kernel
theorem d_C_passOn_19 : decode b_C_passOn 19 = .ok (.invokestatic 105, 3) := by decide +kernel
theorem d_C_passOn_22 : decode b_C_passOn 22 = .ok (.ireturn, 1) := by decide +kernel
theorem d_C_climb_0 : decode b_C_climb 0 = .ok (.iload_n 1, 1) := by decide +kernel
theorem d_C_climb_1 : decode b_C_climb 1 = .ok (.istore 4, 2) := by decide +kernel
theorem d_C_climb_3 : decode b_C_climb 3 = .ok (.iload_n 2, 1) := by decide +kernel
theorem d_C_climb_4 : decode b_C_climb 4 = .ok (.istore 5, 2) := by decide +kernel
theorem d_C_climb_6 : decode b_C_climb 6 = .ok (.iconst 0, 1) := by decide +kernel
theorem d_C_climb_7 : decode b_C_climb 7 = .ok (.istore 6, 2) := by decide +kernel
theorem d_C_climb_9 : decode b_C_climb 9 = .ok (.iload 6, 2) := by decide +kernel
theorem d_C_climb_11 : decode b_C_climb 11 = .ok (.bipush 30, 2) := by decide +kernel
theorem d_C_climb_13 : decode b_C_climb 13 = .ok (.if_icmp .ge 57, 3) := by decide +kernel
theorem d_C_climb_16 : decode b_C_climb 16 = .ok (.iload 4, 2) := by decide +kernel
theorem d_C_climb_18 : decode b_C_climb 18 = .ok (.iload_n 3, 1) := by decide +kernel
theorem d_C_climb_19 : decode b_C_climb 19 = .ok (.if_icmp .eq 51, 3) := by decide +kernel
theorem d_C_climb_22 : decode b_C_climb 22 = .ok (.aload_n 0, 1) := by decide +kernel
theorem d_C_climb_23 : decode b_C_climb 23 = .ok (.iload 4, 2) := by decide +kernel
theorem d_C_climb_25 : decode b_C_climb 25 = .ok (.iload_n 3, 1) := by decide +kernel
theorem d_C_climb_26 : decode b_C_climb 26 = .ok (.invokevirtual 99, 3) := by decide +kernel
theorem d_C_climb_29 : decode b_C_climb 29 = .ok (.istore 7, 2) := by decide +kernel
theorem d_C_climb_31 : decode b_C_climb 31 = .ok (.iload 7, 2) := by decide +kernel
theorem d_C_climb_33 : decode b_C_climb 33 = .ok (.iconst (-1), 1) := by decide +kernel
theorem d_C_climb_34 : decode b_C_climb 34 = .ok (.if_icmp .ne 5, 3) := by decide +kernel
theorem d_C_climb_37 : decode b_C_climb 37 = .ok (.iconst (-1), 1) := by decide +kernel
theorem d_C_climb_38 : decode b_C_climb 38 = .ok (.ireturn, 1) := by decide +kernel
theorem d_C_climb_39 : decode b_C_climb 39 = .ok (.aload_n 0, 1) := by decide +kernel
theorem d_C_climb_40 : decode b_C_climb 40 = .ok (.iload 4, 2) := by decide +kernel
theorem d_C_climb_42 : decode b_C_climb 42 = .ok (.iload 7, 2) := by decide +kernel
theorem d_C_climb_44 : decode b_C_climb 44 = .ok (.invokevirtual 102, 3) := by decide +kernel
theorem d_C_climb_47 : decode b_C_climb 47 = .ok (.iload 5, 2) := by decide +kernel
theorem d_C_climb_49 : decode b_C_climb 49 = .ok (.invokestatic 91, 3) := by decide +kernel
theorem d_C_climb_52 : decode b_C_climb 52 = .ok (.istore 5, 2) := by decide +kernel
theorem d_C_climb_54 : decode b_C_climb 54 = .ok (.aload_n 0, 1) := by decide +kernel
theorem d_C_climb_55 : decode b_C_climb 55 = .ok (.iload 4, 2) := by decide +kernel
theorem d_C_climb_57 : decode b_C_climb 57 = .ok (.iload 7, 2) := by decide +kernel
theorem d_C_climb_59 : decode b_C_climb 59 = .ok (.invokevirtual 65, 3) := by decide +kernel
theorem d_C_climb_62 : decode b_C_climb 62 = .ok (.istore 4, 2) := by decide +kernel
theorem d_C_climb_64 : decode b_C_climb 64 = .ok (.iinc 6 1, 3) := by decide +kernel
theorem d_C_climb_67 : decode b_C_climb 67 = .ok (.goto (-58), 3) := by decide +kernel
theorem d_C_climb_70 : decode b_C_climb 70 = .ok (.iload 4, 2) := by decide +kernel
theorem d_C_climb_72 : decode b_C_climb 72 = .ok (.iload_n 3, 1) := by decide +kernel
theorem d_C_climb_73 : decode b_C_climb 73 = .ok (.if_icmp .ne 8, 3) := by decide +kernel
theorem d_C_climb_76 : decode b_C_climb 76 = .ok (.iload 5, 2) := by decide +kernel
theorem d_C_climb_78 : decode b_C_climb 78 = .ok (.goto 4, 3) := by decide +kernel
theorem d_C_climb_81 : decode b_C_climb 81 = .ok (.iconst (-1), 1) := by decide +kernel
theorem d_C_climb_82 : decode b_C_climb 82 = .ok (.ireturn, 1) := by decide +kernel
theorem d_C_clashes_0 : decode b_C_clashes 0 = .ok (.aload_n 0, 1) := by decide +kernel
theorem d_C_clashes_1 : decode b_C_clashes 1 = .ok (.invokevirtual 58, 3) := by decide +kernel
theorem d_C_clashes_4 : decode b_C_clashes 4 = .ok (.istore_n 3, 1) := by decide +kernel
theorem d_C_clashes_5 : decode b_C_clashes 5 = .ok (.aload_n 0, 1) := by decide +kernel
theorem d_C_clashes_6 : decode b_C_clashes 6 = .ok (.iload_n 3, 1) := by decide +kernel
theorem d_C_clashes_7 : decode b_C_clashes 7 = .ok (.invokevirtual 75, 3) := by decide +kernel
theorem d_C_clashes_10 : decode b_C_clashes 10 = .ok (.aload_n 0, 1) := by decide +kernel
theorem d_C_clashes_11 : decode b_C_clashes 11 = .ok (.iload_n 1, 1) := by decide +kernel
theorem d_C_clashes_12 : decode b_C_clashes 12 = .ok (.invokevirtual 78, 3) := by decide +kernel
theorem d_C_clashes_15 : decode b_C_clashes 15 = .ok (.iand, 1) := by decide +kernel
theorem d_C_clashes_16 : decode b_C_clashes 16 = .ok (.istore 4, 2) := by decide +kernel
theorem d_C_clashes_18 : decode b_C_clashes 18 = .ok (.iconst 0, 1) := by decide +kernel
theorem d_C_clashes_19 : decode b_C_clashes 19 = .ok (.istore 5, 2) := by decide +kernel
theorem d_C_clashes_21 : decode b_C_clashes 21 = .ok (.iload 5, 2) := by decide +kernel
theorem d_C_clashes_23 : decode b_C_clashes 23 = .ok (.aload_n 0, 1) := by decide +kernel
theorem d_C_clashes_24 : decode b_C_clashes 24 = .ok (.getfield 31, 3) := by decide +kernel
theorem d_C_clashes_27 : decode b_C_clashes 27 = .ok (.if_icmp .ge 55, 3) := by decide +kernel
theorem d_C_clashes_30 : decode b_C_clashes 30 = .ok (.iload 4, 2) := by decide +kernel
theorem d_C_clashes_32 : decode b_C_clashes 32 = .ok (.iload 5, 2) := by decide +kernel
theorem d_C_clashes_34 : decode b_C_clashes 34 = .ok (.invokestatic 81, 3) := by decide +kernel
theorem d_C_clashes_37 : decode b_C_clashes 37 = .ok (.ifCond .eq 39, 3) := by decide +kernel
theorem d_C_clashes_40 : decode b_C_clashes 40 = .ok (.aload_n 0, 1) := by decide +kernel
theorem d_C_clashes_41 : decode b_C_clashes 41 = .ok (.iload 5, 2) := by decide +kernel
theorem d_C_clashes_43 : decode b_C_clashes 43 = .ok (.invokevirtual 84, 3) := by decide +kernel
theorem d_C_clashes_46 : decode b_C_clashes 46 = .ok (.ifCond .eq 30, 3) := by decide +kernel
theorem d_C_clashes_49 : decode b_C_clashes 49 = .ok (.aload_n 0, 1) := by decide +kernel
theorem d_C_clashes_50 : decode b_C_clashes 50 = .ok (.iload_n 3, 1) := by decide +kernel
theorem d_C_clashes_51 : decode b_C_clashes 51 = .ok (.bipush (-2), 2) := by decide +kernel
theorem d_C_clashes_53 : decode b_C_clashes 53 = .ok (.iload 5, 2) := by decide +kernel
theorem d_C_clashes_55 : decode b_C_clashes 55 = .ok (.invokevirtual 87, 3) := by decide +kernel
theorem d_C_clashes_58 : decode b_C_clashes 58 = .ok (.aload_n 0, 1) := by decide +kernel
theorem d_C_clashes_59 : decode b_C_clashes 59 = .ok (.iload_n 1, 1) := by decide +kernel
theorem d_C_clashes_60 : decode b_C_clashes 60 = .ok (.iload_n 2, 1) := by decide +kernel
theorem d_C_clashes_61 : decode b_C_clashes 61 = .ok (.bipush (-2), 2) := by decide +kernel
theorem d_C_clashes_63 : decode b_C_clashes 63 = .ok (.invokestatic 91, 3) := by decide +kernel
theorem d_C_clashes_66 : decode b_C_clashes 66 = .ok (.iload 5, 2) := by decide +kernel
theorem d_C_clashes_68 : decode b_C_clashes 68 = .ok (.invokevirtual 87, 3) := by decide +kernel
theorem d_C_clashes_71 : decode b_C_clashes 71 = .ok (.if_icmp .eq 5, 3) := by decide +kernel
theorem d_C_clashes_74 : decode b_C_clashes 74 = .ok (.iconst 1, 1) := by decide +kernel
theorem d_C_clashes_75 : decode b_C_clashes 75 = .ok (.ireturn, 1) := by decide +kernel
theorem d_C_clashes_76 : decode b_C_clashes 76 = .ok (.iinc 5 1, 3) := by decide +kernel
theorem d_C_clashes_79 : decode b_C_clashes 79 = .ok (.goto (-58), 3) := by decide +kernel
theorem d_C_clashes_82 : decode b_C_clashes 82 = .ok (.iconst 0, 1) := by decide +kernel
theorem d_C_clashes_83 : decode b_C_clashes 83 = .ok (.ireturn, 1) := by decide +kernel
theorem d_C_leastOf_0 : decode b_C_leastOf 0 = .ok (.iconst 0, 1) := by decide +kernel
theorem d_C_leastOf_1 : decode b_C_leastOf 1 = .ok (.istore_n 2, 1) := by decide +kernel
theorem d_C_leastOf_2 : decode b_C_leastOf 2 = .ok (.iconst 0, 1) := by decide +kernel
theorem d_C_leastOf_3 : decode b_C_leastOf 3 = .ok (.istore_n 3, 1) := by decide +kernel
theorem d_C_leastOf_4 : decode b_C_leastOf 4 = .ok (.iload_n 3, 1) := by decide +kernel
theorem d_C_leastOf_5 : decode b_C_leastOf 5 = .ok (.aload_n 0, 1) := by decide +kernel
theorem d_C_leastOf_6 : decode b_C_leastOf 6 = .ok (.getfield 31, 3) := by decide +kernel
theorem d_C_leastOf_9 : decode b_C_leastOf 9 = .ok (.if_icmp .ge 26, 3) := by decide +kernel
theorem d_C_leastOf_12 : decode b_C_leastOf 12 = .ok (.iload_n 1, 1) := by decide +kernel
theorem d_C_leastOf_13 : decode b_C_leastOf 13 = .ok (.iload_n 3, 1) := by decide +kernel
theorem d_C_leastOf_14 : decode b_C_leastOf 14 = .ok (.invokestatic 81, 3) := by decide +kernel
theorem d_C_leastOf_17 : decode b_C_leastOf 17 = .ok (.ifCond .eq 12, 3) := by decide +kernel
theorem d_C_leastOf_20 : decode b_C_leastOf 20 = .ok (.iload_n 2, 1) := by decide +kernel
theorem d_C_leastOf_21 : decode b_C_leastOf 21 = .ok (.aload_n 0, 1) := by decide +kernel
theorem d_C_leastOf_22 : decode b_C_leastOf 22 = .ok (.getfield 18, 3) := by decide +kernel
theorem d_C_leastOf_25 : decode b_C_leastOf 25 = .ok (.iload_n 3, 1) := by decide +kernel
theorem d_C_leastOf_26 : decode b_C_leastOf 26 = .ok (.iaload, 1) := by decide +kernel
theorem d_C_leastOf_27 : decode b_C_leastOf 27 = .ok (.ior, 1) := by decide +kernel
theorem d_C_leastOf_28 : decode b_C_leastOf 28 = .ok (.istore_n 2, 1) := by decide +kernel
theorem d_C_leastOf_29 : decode b_C_leastOf 29 = .ok (.iinc 3 1, 3) := by decide +kernel
theorem d_C_leastOf_32 : decode b_C_leastOf 32 = .ok (.goto (-28), 3) := by decide +kernel
theorem d_C_leastOf_35 : decode b_C_leastOf 35 = .ok (.iload_n 1, 1) := by decide +kernel
theorem d_C_leastOf_36 : decode b_C_leastOf 36 = .ok (.iload_n 2, 1) := by decide +kernel
theorem d_C_leastOf_37 : decode b_C_leastOf 37 = .ok (.iconst (-1), 1) := by decide +kernel
theorem d_C_leastOf_38 : decode b_C_leastOf 38 = .ok (.ixor, 1) := by decide +kernel
theorem d_C_leastOf_39 : decode b_C_leastOf 39 = .ok (.iand, 1) := by decide +kernel
theorem d_C_leastOf_40 : decode b_C_leastOf 40 = .ok (.ireturn, 1) := by decide +kernel
end
section
theorem d_J_bitCount_0 : decode b_J_bitCount 0 = .ok (.iload_n 0, 1) := by decide +kernel
theorem d_J_bitCount_1 : decode b_J_bitCount 1 = .ok (.iload_n 0, 1) := by decide +kernel
theorem d_J_bitCount_2 : decode b_J_bitCount 2 = .ok (.iconst 1, 1) := by decide +kernel
theorem d_J_bitCount_3 : decode b_J_bitCount 3 = .ok (.iushr, 1) := by decide +kernel
theorem d_J_bitCount_4 : decode b_J_bitCount 4 = .ok (.ldc_w 265, 3) := by decide +kernel
theorem d_J_bitCount_7 : decode b_J_bitCount 7 = .ok (.iand, 1) := by decide +kernel
theorem d_J_bitCount_8 : decode b_J_bitCount 8 = .ok (.isub, 1) := by decide +kernel
theorem d_J_bitCount_9 : decode b_J_bitCount 9 = .ok (.istore_n 0, 1) := by decide +kernel
theorem d_J_bitCount_10 : decode b_J_bitCount 10 = .ok (.iload_n 0, 1) := by decide +kernel
theorem d_J_bitCount_11 : decode b_J_bitCount 11 = .ok (.ldc_w 266, 3) := by decide +kernel
theorem d_J_bitCount_14 : decode b_J_bitCount 14 = .ok (.iand, 1) := by decide +kernel
theorem d_J_bitCount_15 : decode b_J_bitCount 15 = .ok (.iload_n 0, 1) := by decide +kernel
theorem d_J_bitCount_16 : decode b_J_bitCount 16 = .ok (.iconst 2, 1) := by decide +kernel
theorem d_J_bitCount_17 : decode b_J_bitCount 17 = .ok (.iushr, 1) := by decide +kernel
theorem d_J_bitCount_18 : decode b_J_bitCount 18 = .ok (.ldc_w 266, 3) := by decide +kernel
theorem d_J_bitCount_21 : decode b_J_bitCount 21 = .ok (.iand, 1) := by decide +kernel
theorem d_J_bitCount_22 : decode b_J_bitCount 22 = .ok (.iadd, 1) := by decide +kernel
theorem d_J_bitCount_23 : decode b_J_bitCount 23 = .ok (.istore_n 0, 1) := by decide +kernel
theorem d_J_bitCount_24 : decode b_J_bitCount 24 = .ok (.iload_n 0, 1) := by decide +kernel
theorem d_J_bitCount_25 : decode b_J_bitCount 25 = .ok (.iload_n 0, 1) := by decide +kernel
theorem d_J_bitCount_26 : decode b_J_bitCount 26 = .ok (.iconst 4, 1) := by decide +kernel
theorem d_J_bitCount_27 : decode b_J_bitCount 27 = .ok (.iushr, 1) := by decide +kernel
theorem d_J_bitCount_28 : decode b_J_bitCount 28 = .ok (.iadd, 1) := by decide +kernel
theorem d_J_bitCount_29 : decode b_J_bitCount 29 = .ok (.ldc_w 267, 3) := by decide +kernel
theorem d_J_bitCount_32 : decode b_J_bitCount 32 = .ok (.iand, 1) := by decide +kernel
theorem d_J_bitCount_33 : decode b_J_bitCount 33 = .ok (.istore_n 0, 1) := by decide +kernel
theorem d_J_bitCount_34 : decode b_J_bitCount 34 = .ok (.iload_n 0, 1) := by decide +kernel
theorem d_J_bitCount_35 : decode b_J_bitCount 35 = .ok (.iload_n 0, 1) := by decide +kernel
theorem d_J_bitCount_36 : decode b_J_bitCount 36 = .ok (.bipush 8, 2) := by decide +kernel
theorem d_J_bitCount_38 : decode b_J_bitCount 38 = .ok (.iushr, 1) := by decide +kernel
theorem d_J_bitCount_39 : decode b_J_bitCount 39 = .ok (.iadd, 1) := by decide +kernel
theorem d_J_bitCount_40 : decode b_J_bitCount 40 = .ok (.istore_n 0, 1) := by decide +kernel
theorem d_J_bitCount_41 : decode b_J_bitCount 41 = .ok (.iload_n 0, 1) := by decide +kernel
theorem d_J_bitCount_42 : decode b_J_bitCount 42 = .ok (.iload_n 0, 1) := by decide +kernel
theorem d_J_bitCount_43 : decode b_J_bitCount 43 = .ok (.bipush 16, 2) := by decide +kernel
theorem d_J_bitCount_45 : decode b_J_bitCount 45 = .ok (.iushr, 1) := by decide +kernel
theorem d_J_bitCount_46 : decode b_J_bitCount 46 = .ok (.iadd, 1) := by decide +kernel
theorem d_J_bitCount_47 : decode b_J_bitCount 47 = .ok (.istore_n 0, 1) := by decide +kernel
theorem d_J_bitCount_48 : decode b_J_bitCount 48 = .ok (.iload_n 0, 1) := by decide +kernel
theorem d_J_bitCount_49 : decode b_J_bitCount 49 = .ok (.bipush 63, 2) := by decide +kernel
theorem d_J_bitCount_51 : decode b_J_bitCount 51 = .ok (.iand, 1) := by decide +kernel
theorem d_J_bitCount_52 : decode b_J_bitCount 52 = .ok (.ireturn, 1) := by decide +kernel
theorem d_J_copyOf_0 : decode b_J_copyOf 0 = .ok (.iload_n 1, 1) := by decide +kernel
theorem d_J_copyOf_1 : decode b_J_copyOf 1 = .ok (.aload_n 0, 1) := by decide +kernel
theorem d_J_copyOf_2 : decode b_J_copyOf 2 = .ok (.arraylength, 1) := by decide +kernel
theorem d_J_copyOf_3 : decode b_J_copyOf 3 = .ok (.if_icmp .ne 11, 3) := by decide +kernel
theorem d_J_copyOf_14 : decode b_J_copyOf 14 = .ok (.iload_n 1, 1) := by decide +kernel
theorem d_J_copyOf_15 : decode b_J_copyOf 15 = .ok (.newarray .int, 2) := by decide +kernel
theorem d_J_copyOf_17 : decode b_J_copyOf 17 = .ok (.astore_n 2, 1) := by decide +kernel
theorem d_J_copyOf_18 : decode b_J_copyOf 18 = .ok (.aload_n 0, 1) := by decide +kernel
theorem d_J_copyOf_19 : decode b_J_copyOf 19 = .ok (.iconst 0, 1) := by decide +kernel
theorem d_J_copyOf_20 : decode b_J_copyOf 20 = .ok (.aload_n 2, 1) := by decide +kernel
theorem d_J_copyOf_21 : decode b_J_copyOf 21 = .ok (.iconst 0, 1) := by decide +kernel
theorem d_J_copyOf_22 : decode b_J_copyOf 22 = .ok (.aload_n 0, 1) := by decide +kernel
theorem d_J_copyOf_23 : decode b_J_copyOf 23 = .ok (.arraylength, 1) := by decide +kernel
theorem d_J_copyOf_24 : decode b_J_copyOf 24 = .ok (.iload_n 1, 1) := by decide +kernel
theorem d_J_copyOf_25 : decode b_J_copyOf 25 = .ok (.invokestatic 304, 3) := by decide +kernel
theorem d_J_copyOf_28 : decode b_J_copyOf 28 = .ok (.invokestatic 150, 3) := by decide +kernel
theorem d_J_copyOf_31 : decode b_J_copyOf 31 = .ok (.aload_n 2, 1) := by decide +kernel
theorem d_J_copyOf_32 : decode b_J_copyOf 32 = .ok (.areturn, 1) := by decide +kernel
theorem d_J_fill_0 : decode b_J_fill 0 = .ok (.iconst 0, 1) := by decide +kernel
theorem d_J_fill_1 : decode b_J_fill 1 = .ok (.istore_n 2, 1) := by decide +kernel
theorem d_J_fill_2 : decode b_J_fill 2 = .ok (.aload_n 0, 1) := by decide +kernel
theorem d_J_fill_3 : decode b_J_fill 3 = .ok (.arraylength, 1) := by decide +kernel
theorem d_J_fill_4 : decode b_J_fill 4 = .ok (.istore_n 3, 1) := by decide +kernel
theorem d_J_fill_5 : decode b_J_fill 5 = .ok (.iload_n 2, 1) := by decide +kernel
theorem d_J_fill_6 : decode b_J_fill 6 = .ok (.iload_n 3, 1) := by decide +kernel
theorem d_J_fill_7 : decode b_J_fill 7 = .ok (.if_icmp .ge 13, 3) := by decide +kernel
theorem d_J_fill_10 : decode b_J_fill 10 = .ok (.aload_n 0, 1) := by decide +kernel
theorem d_J_fill_11 : decode b_J_fill 11 = .ok (.iload_n 2, 1) := by decide +kernel
theorem d_J_fill_12 : decode b_J_fill 12 = .ok (.iload_n 1, 1) := by decide +kernel
theorem d_J_fill_13 : decode b_J_fill 13 = .ok (.iastore, 1) := by decide +kernel
theorem d_J_fill_14 : decode b_J_fill 14 = .ok (.iinc 2 1, 3) := by decide +kernel
theorem d_J_fill_17 : decode b_J_fill 17 = .ok (.goto (-12), 3) := by decide +kernel
theorem d_J_fill_20 : decode b_J_fill 20 = .ok (.return_, 1) := by decide +kernel
end
section
theorem d_L_boxTypeOf_0 : decode b_L_boxTypeOf 0 = .ok (.bipush 8, 2) := by decide +kernel
theorem d_L_boxTypeOf_2 : decode b_L_boxTypeOf 2 = .ok (.iload_n 0, 1) := by decide +kernel
theorem d_L_boxTypeOf_3 : decode b_L_boxTypeOf 3 = .ok (.iadd, 1) := by decide +kernel
theorem d_L_boxTypeOf_4 : decode b_L_boxTypeOf 4 = .ok (.ireturn, 1) := by decide +kernel
theorem d_L_typeOf_0 : decode b_L_typeOf 0 = .ok (.iload_n 0, 1) := by decide +kernel
theorem d_L_typeOf_1 : decode b_L_typeOf 1 = .ok (.ifCond .gt 7, 3) := by decide +kernel
theorem d_L_typeOf_4 : decode b_L_typeOf 4 = .ok (.iconst (-1), 1) := by decide +kernel
theorem d_L_typeOf_5 : decode b_L_typeOf 5 = .ok (.goto 6, 3) := by decide +kernel
theorem d_L_typeOf_8 : decode b_L_typeOf 8 = .ok (.iload_n 0, 1) := by decide +kernel
theorem d_L_typeOf_9 : decode b_L_typeOf 9 = .ok (.iconst 2, 1) := by decide +kernel
theorem d_L_typeOf_10 : decode b_L_typeOf 10 = .ok (.ishr, 1) := by decide +kernel
theorem d_L_typeOf_11 : decode b_L_typeOf 11 = .ok (.ireturn, 1) := by decide +kernel
theorem d_L_has_0 : decode b_L_has 0 = .ok (.iload_n 0, 1) := by decide +kernel
theorem d_L_has_1 : decode b_L_has 1 = .ok (.iload_n 1, 1) := by decide +kernel
theorem d_L_has_2 : decode b_L_has 2 = .ok (.ishr, 1) := by decide +kernel
theorem d_L_has_3 : decode b_L_has 3 = .ok (.iconst 1, 1) := by decide +kernel
theorem d_L_has_4 : decode b_L_has 4 = .ok (.iand, 1) := by decide +kernel
theorem d_L_has_5 : decode b_L_has 5 = .ok (.ifCond .eq 7, 3) := by decide +kernel
theorem d_L_has_8 : decode b_L_has 8 = .ok (.iconst 1, 1) := by decide +kernel
theorem d_L_has_9 : decode b_L_has 9 = .ok (.goto 4, 3) := by decide +kernel
theorem d_L_has_12 : decode b_L_has 12 = .ok (.iconst 0, 1) := by decide +kernel
theorem d_L_has_13 : decode b_L_has 13 = .ok (.ireturn, 1) := by decide +kernel
theorem d_L_argumentOf_0 : decode b_L_argumentOf 0 = .ok (.iload_n 0, 1) := by decide +kernel
theorem d_L_argumentOf_1 : decode b_L_argumentOf 1 = .ok (.ifCond .ne 7, 3) := by decide +kernel
theorem d_L_argumentOf_4 : decode b_L_argumentOf 4 = .ok (.iconst 0, 1) := by decide +kernel
theorem d_L_argumentOf_5 : decode b_L_argumentOf 5 = .ok (.goto 8, 3) := by decide +kernel
theorem d_L_argumentOf_8 : decode b_L_argumentOf 8 = .ok (.iload_n 1, 1) := by decide +kernel
theorem d_L_argumentOf_9 : decode b_L_argumentOf 9 = .ok (.iconst 4, 1) := by decide +kernel
theorem d_L_argumentOf_10 : decode b_L_argumentOf 10 = .ok (.imul, 1) := by decide +kernel
theorem d_L_argumentOf_11 : decode b_L_argumentOf 11 = .ok (.iload_n 0, 1) := by decide +kernel
theorem d_L_argumentOf_12 : decode b_L_argumentOf 12 = .ok (.iadd, 1) := by decide +kernel
theorem d_L_argumentOf_13 : decode b_L_argumentOf 13 = .ok (.ireturn, 1) := by decide +kernel
theorem d_L_howOf_0 : decode b_L_howOf 0 = .ok (.iload_n 0, 1) := by decide +kernel
theorem d_L_howOf_1 : decode b_L_howOf 1 = .ok (.ifCond .gt 7, 3) := by decide +kernel
theorem d_L_howOf_4 : decode b_L_howOf 4 = .ok (.iconst 0, 1) := by decide +kernel
theorem d_L_howOf_5 : decode b_L_howOf 5 = .ok (.goto 6, 3) := by decide +kernel
theorem d_L_howOf_8 : decode b_L_howOf 8 = .ok (.iload_n 0, 1) := by decide +kernel
theorem d_L_howOf_9 : decode b_L_howOf 9 = .ok (.iconst 3, 1) := by decide +kernel
theorem d_L_howOf_10 : decode b_L_howOf 10 = .ok (.iand, 1) := by decide +kernel
theorem d_L_howOf_11 : decode b_L_howOf 11 = .ok (.ireturn, 1) := by decide +kernel
end
section
theorem d_T_add_0 : decode b_T_add 0 = .ok (.aload_n 0, 1) := by decide +kernel
theorem d_T_add_1 : decode b_T_add 1 = .ok (.getfield 40, 3) := by decide +kernel
theorem d_T_add_4 : decode b_T_add 4 = .ok (.sipush 300, 3) := by decide +kernel
theorem d_T_add_7 : decode b_T_add 7 = .ok (.if_icmp .ge 9, 3) := by decide +kernel
theorem d_T_add_10 : decode b_T_add 10 = .ok (.iload_n 2, 1) := by decide +kernel
theorem d_T_add_11 : decode b_T_add 11 = .ok (.bipush 100, 2) := by decide +kernel
theorem d_T_add_13 : decode b_T_add 13 = .ok (.if_icmp .le 5, 3) := by decide +kernel
theorem d_T_add_16 : decode b_T_add 16 = .ok (.iconst (-1), 1) := by decide +kernel
theorem d_T_add_17 : decode b_T_add 17 = .ok (.ireturn, 1) := by decide +kernel
theorem d_T_add_18 : decode b_T_add 18 = .ok (.aload_n 0, 1) := by decide +kernel
theorem d_T_add_19 : decode b_T_add 19 = .ok (.getfield 40, 3) := by decide +kernel
theorem d_T_add_22 : decode b_T_add 22 = .ok (.istore_n 3, 1) := by decide +kernel
theorem d_T_add_23 : decode b_T_add 23 = .ok (.aload_n 0, 1) := by decide +kernel
theorem d_T_add_24 : decode b_T_add 24 = .ok (.dup, 1) := by decide +kernel
theorem d_T_add_25 : decode b_T_add 25 = .ok (.getfield 40, 3) := by decide +kernel
theorem d_T_add_28 : decode b_T_add 28 = .ok (.iconst 1, 1) := by decide +kernel
theorem d_T_add_29 : decode b_T_add 29 = .ok (.iadd, 1) := by decide +kernel
theorem d_T_add_30 : decode b_T_add 30 = .ok (.putfield 40, 3) := by decide +kernel
theorem d_T_add_33 : decode b_T_add 33 = .ok (.aload_n 0, 1) := by decide +kernel
theorem d_T_add_34 : decode b_T_add 34 = .ok (.getfield 9, 3) := by decide +kernel
theorem d_T_add_37 : decode b_T_add 37 = .ok (.iload_n 3, 1) := by decide +kernel
theorem d_T_add_38 : decode b_T_add 38 = .ok (.iload_n 1, 1) := by decide +kernel
theorem d_T_add_39 : decode b_T_add 39 = .ok (.iastore, 1) := by decide +kernel
theorem d_T_add_40 : decode b_T_add 40 = .ok (.aload_n 0, 1) := by decide +kernel
theorem d_T_add_41 : decode b_T_add 41 = .ok (.getfield 15, 3) := by decide +kernel
theorem d_T_add_44 : decode b_T_add 44 = .ok (.iload_n 3, 1) := by decide +kernel
theorem d_T_add_45 : decode b_T_add 45 = .ok (.iconst (-1), 1) := by decide +kernel
theorem d_T_add_46 : decode b_T_add 46 = .ok (.iastore, 1) := by decide +kernel
theorem d_T_add_47 : decode b_T_add 47 = .ok (.aload_n 0, 1) := by decide +kernel
theorem d_T_add_48 : decode b_T_add 48 = .ok (.getfield 18, 3) := by decide +kernel
theorem d_T_add_51 : decode b_T_add 51 = .ok (.iload_n 3, 1) := by decide +kernel
theorem d_T_add_52 : decode b_T_add 52 = .ok (.iconst 0, 1) := by decide +kernel
theorem d_T_add_53 : decode b_T_add 53 = .ok (.iastore, 1) := by decide +kernel
theorem d_T_add_54 : decode b_T_add 54 = .ok (.aload_n 0, 1) := by decide +kernel
theorem d_T_add_55 : decode b_T_add 55 = .ok (.getfield 21, 3) := by decide +kernel
theorem d_T_add_58 : decode b_T_add 58 = .ok (.iload_n 3, 1) := by decide +kernel
theorem d_T_add_59 : decode b_T_add 59 = .ok (.iconst (-1), 1) := by decide +kernel
theorem d_T_add_60 : decode b_T_add 60 = .ok (.iastore, 1) := by decide +kernel
theorem d_T_add_61 : decode b_T_add 61 = .ok (.aload_n 0, 1) := by decide +kernel
theorem d_T_add_62 : decode b_T_add 62 = .ok (.getfield 24, 3) := by decide +kernel
theorem d_T_add_65 : decode b_T_add 65 = .ok (.iload_n 3, 1) := by decide +kernel
theorem d_T_add_66 : decode b_T_add 66 = .ok (.iload_n 2, 1) := by decide +kernel
theorem d_T_add_67 : decode b_T_add 67 = .ok (.iastore, 1) := by decide +kernel
theorem d_T_add_68 : decode b_T_add 68 = .ok (.aload_n 0, 1) := by decide +kernel
theorem d_T_add_69 : decode b_T_add 69 = .ok (.getfield 27, 3) := by decide +kernel
theorem d_T_add_72 : decode b_T_add 72 = .ok (.iload_n 3, 1) := by decide +kernel
theorem d_T_add_73 : decode b_T_add 73 = .ok (.iconst 0, 1) := by decide +kernel
theorem d_T_add_74 : decode b_T_add 74 = .ok (.iastore, 1) := by decide +kernel
theorem d_T_add_75 : decode b_T_add 75 = .ok (.aload_n 0, 1) := by decide +kernel
theorem d_T_add_76 : decode b_T_add 76 = .ok (.getfield 30, 3) := by decide +kernel
theorem d_T_add_79 : decode b_T_add 79 = .ok (.iload_n 3, 1) := by decide +kernel
theorem d_T_add_80 : decode b_T_add 80 = .ok (.iconst 0, 1) := by decide +kernel
theorem d_T_add_81 : decode b_T_add 81 = .ok (.iastore, 1) := by decide +kernel
theorem d_T_add_82 : decode b_T_add 82 = .ok (.iload_n 3, 1) := by decide +kernel
theorem d_T_add_83 : decode b_T_add 83 = .ok (.ireturn, 1) := by decide +kernel
theorem d_T_isThere_0 : decode b_T_isThere 0 = .ok (.iload_n 1, 1) := by decide +kernel
theorem d_T_isThere_1 : decode b_T_isThere 1 = .ok (.ifCond .lt 15, 3) := by decide +kernel
theorem d_T_isThere_4 : decode b_T_isThere 4 = .ok (.iload_n 1, 1) := by decide +kernel
theorem d_T_isThere_5 : decode b_T_isThere 5 = .ok (.aload_n 0, 1) := by decide +kernel
theorem d_T_isThere_6 : decode b_T_isThere 6 = .ok (.getfield 40, 3) := by decide +kernel
theorem d_T_isThere_9 : decode b_T_isThere 9 = .ok (.if_icmp .ge 7, 3) := by decide +kernel
theorem d_T_isThere_12 : decode b_T_isThere 12 = .ok (.iconst 1, 1) := by decide +kernel
theorem d_T_isThere_13 : decode b_T_isThere 13 = .ok (.goto 4, 3) := by decide +kernel
theorem d_T_isThere_16 : decode b_T_isThere 16 = .ok (.iconst 0, 1) := by decide +kernel
theorem d_T_isThere_17 : decode b_T_isThere 17 = .ok (.ireturn, 1) := by decide +kernel
theorem d_T_sizeOf_0 : decode b_T_sizeOf 0 = .ok (.aload_n 0, 1) := by decide +kernel
theorem d_T_sizeOf_1 : decode b_T_sizeOf 1 = .ok (.iload_n 1, 1) := by decide +kernel
theorem d_T_sizeOf_2 : decode b_T_sizeOf 2 = .ok (.invokevirtual 59, 3) := by decide +kernel
theorem d_T_sizeOf_5 : decode b_T_sizeOf 5 = .ok (.ifCond .eq 12, 3) := by decide +kernel
theorem d_T_sizeOf_8 : decode b_T_sizeOf 8 = .ok (.aload_n 0, 1) := by decide +kernel
theorem d_T_sizeOf_9 : decode b_T_sizeOf 9 = .ok (.getfield 24, 3) := by decide +kernel
theorem d_T_sizeOf_12 : decode b_T_sizeOf 12 = .ok (.iload_n 1, 1) := by decide +kernel
theorem d_T_sizeOf_13 : decode b_T_sizeOf 13 = .ok (.iaload, 1) := by decide +kernel
theorem d_T_sizeOf_14 : decode b_T_sizeOf 14 = .ok (.goto 4, 3) := by decide +kernel
theorem d_T_sizeOf_17 : decode b_T_sizeOf 17 = .ok (.iconst 0, 1) := by decide +kernel
theorem d_T_sizeOf_18 : decode b_T_sizeOf 18 = .ok (.ireturn, 1) := by decide +kernel
theorem d_T_makeNamed_0 : decode b_T_makeNamed 0 = .ok (.iload_n 2, 1) := by decide +kernel
theorem d_T_makeNamed_1 : decode b_T_makeNamed 1 = .ok (.ifCond .ge 5, 3) := by decide +kernel
theorem d_T_makeNamed_4 : decode b_T_makeNamed 4 = .ok (.iconst (-1), 1) := by decide +kernel
theorem d_T_makeNamed_5 : decode b_T_makeNamed 5 = .ok (.ireturn, 1) := by decide +kernel
theorem d_T_makeNamed_6 : decode b_T_makeNamed 6 = .ok (.iconst 0, 1) := by decide +kernel
theorem d_T_makeNamed_7 : decode b_T_makeNamed 7 = .ok (.istore_n 3, 1) := by decide +kernel
theorem d_T_makeNamed_8 : decode b_T_makeNamed 8 = .ok (.iload_n 3, 1) := by decide +kernel
theorem d_T_makeNamed_9 : decode b_T_makeNamed 9 = .ok (.aload_n 0, 1) := by decide +kernel
theorem d_T_makeNamed_10 : decode b_T_makeNamed 10 = .ok (.getfield 40, 3) := by decide +kernel
theorem d_T_makeNamed_13 : decode b_T_makeNamed 13 = .ok (.if_icmp .ge 41, 3) := by decide +kernel
theorem d_T_makeNamed_16 : decode b_T_makeNamed 16 = .ok (.aload_n 0, 1) := by decide +kernel
theorem d_T_makeNamed_17 : decode b_T_makeNamed 17 = .ok (.getfield 9, 3) := by decide +kernel
theorem d_T_makeNamed_20 : decode b_T_makeNamed 20 = .ok (.iload_n 3, 1) := by decide +kernel
theorem d_T_makeNamed_21 : decode b_T_makeNamed 21 = .ok (.iaload, 1) := by decide +kernel
theorem d_T_makeNamed_22 : decode b_T_makeNamed 22 = .ok (.iconst 1, 1) := by decide +kernel
theorem d_T_makeNamed_23 : decode b_T_makeNamed 23 = .ok (.if_icmp .ne 25, 3) := by decide +kernel
theorem d_T_makeNamed_26 : decode b_T_makeNamed 26 = .ok (.aload_n 0, 1) := by decide +kernel
theorem d_T_makeNamed_27 : decode b_T_makeNamed 27 = .ok (.getfield 15, 3) := by decide +kernel
theorem d_T_makeNamed_30 : decode b_T_makeNamed 30 = .ok (.iload_n 3, 1) := by decide +kernel
theorem d_T_makeNamed_31 : decode b_T_makeNamed 31 = .ok (.iaload, 1) := by decide +kernel
theorem d_T_makeNamed_32 : decode b_T_makeNamed 32 = .ok (.iload_n 1, 1) := by decide +kernel
theorem d_T_makeNamed_33 : decode b_T_makeNamed 33 = .ok (.if_icmp .ne 15, 3) := by decide +kernel
theorem d_T_makeNamed_36 : decode b_T_makeNamed 36 = .ok (.aload_n 0, 1) := by decide +kernel
theorem d_T_makeNamed_37 : decode b_T_makeNamed 37 = .ok (.getfield 18, 3) := by decide +kernel
theorem d_T_makeNamed_40 : decode b_T_makeNamed 40 = .ok (.iload_n 3, 1) := by decide +kernel
theorem d_T_makeNamed_41 : decode b_T_makeNamed 41 = .ok (.iaload, 1) := by decide +kernel
theorem d_T_makeNamed_42 : decode b_T_makeNamed 42 = .ok (.iload_n 2, 1) := by decide +kernel
theorem d_T_makeNamed_43 : decode b_T_makeNamed 43 = .ok (.if_icmp .ne 5, 3) := by decide +kernel
theorem d_T_makeNamed_46 : decode b_T_makeNamed 46 = .ok (.iload_n 3, 1) := by decide +kernel
theorem d_T_makeNamed_47 : decode b_T_makeNamed 47 = .ok (.ireturn, 1) := by decide +kernel
theorem d_T_makeNamed_48 : decode b_T_makeNamed 48 = .ok (.iinc 3 1, 3) := by decide +kernel
theorem d_T_makeNamed_51 : decode b_T_makeNamed 51 = .ok (.goto (-43), 3) := by decide +kernel
theorem d_T_makeNamed_54 : decode b_T_makeNamed 54 = .ok (.aload_n 0, 1) := by decide +kernel
theorem d_T_makeNamed_55 : decode b_T_makeNamed 55 = .ok (.iconst 1, 1) := by decide +kernel
theorem d_T_makeNamed_56 : decode b_T_makeNamed 56 = .ok (.iconst 1, 1) := by decide +kernel
theorem d_T_makeNamed_57 : decode b_T_makeNamed 57 = .ok (.aload_n 0, 1) := by decide +kernel
theorem d_T_makeNamed_58 : decode b_T_makeNamed 58 = .ok (.iload_n 2, 1) := by decide +kernel
theorem d_T_makeNamed_59 : decode b_T_makeNamed 59 = .ok (.invokestatic 63, 3) := by decide +kernel
theorem d_T_makeNamed_62 : decode b_T_makeNamed 62 = .ok (.invokevirtual 67, 3) := by decide +kernel
theorem d_T_makeNamed_65 : decode b_T_makeNamed 65 = .ok (.iadd, 1) := by decide +kernel
theorem d_T_makeNamed_66 : decode b_T_makeNamed 66 = .ok (.invokevirtual 49, 3) := by decide +kernel
theorem d_T_makeNamed_69 : decode b_T_makeNamed 69 = .ok (.istore_n 3, 1) := by decide +kernel
theorem d_T_makeNamed_70 : decode b_T_makeNamed 70 = .ok (.iload_n 3, 1) := by decide +kernel
theorem d_T_makeNamed_71 : decode b_T_makeNamed 71 = .ok (.iconst (-1), 1) := by decide +kernel
theorem d_T_makeNamed_72 : decode b_T_makeNamed 72 = .ok (.if_icmp .eq 24, 3) := by decide +kernel
theorem d_T_makeNamed_75 : decode b_T_makeNamed 75 = .ok (.aload_n 0, 1) := by decide +kernel
theorem d_T_makeNamed_76 : decode b_T_makeNamed 76 = .ok (.getfield 15, 3) := by decide +kernel
theorem d_T_makeNamed_79 : decode b_T_makeNamed 79 = .ok (.iload_n 3, 1) := by decide +kernel
theorem d_T_makeNamed_80 : decode b_T_makeNamed 80 = .ok (.iload_n 1, 1) := by decide +kernel
theorem d_T_makeNamed_81 : decode b_T_makeNamed 81 = .ok (.iastore, 1) := by decide +kernel
theorem d_T_makeNamed_82 : decode b_T_makeNamed 82 = .ok (.aload_n 0, 1) := by decide +kernel
theorem d_T_makeNamed_83 : decode b_T_makeNamed 83 = .ok (.getfield 18, 3) := by decide +kernel
theorem d_T_makeNamed_86 : decode b_T_makeNamed 86 = .ok (.iload_n 3, 1) := by decide +kernel
theorem d_T_makeNamed_87 : decode b_T_makeNamed 87 = .ok (.iload_n 2, 1) := by decide +kernel
theorem d_T_makeNamed_88 : decode b_T_makeNamed 88 = .ok (.iastore, 1) := by decide +kernel
theorem d_T_makeNamed_89 : decode b_T_makeNamed 89 = .ok (.aload_n 0, 1) := by decide +kernel
theorem d_T_makeNamed_90 : decode b_T_makeNamed 90 = .ok (.getfield 30, 3) := by decide +kernel
theorem d_T_makeNamed_93 : decode b_T_makeNamed 93 = .ok (.iload_n 3, 1) := by decide +kernel
theorem d_T_makeNamed_94 : decode b_T_makeNamed 94 = .ok (.iconst 1, 1) := by decide +kernel
theorem d_T_makeNamed_95 : decode b_T_makeNamed 95 = .ok (.iastore, 1) := by decide +kernel
theorem d_T_makeNamed_96 : decode b_T_makeNamed 96 = .ok (.iload_n 3, 1) := by decide +kernel
theorem d_T_makeNamed_97 : decode b_T_makeNamed 97 = .ok (.ireturn, 1) := by decide +kernel
theorem d_T_settle_0 : decode b_T_settle 0 = .ok (.aload_n 0, 1) := by decide +kernel
theorem d_T_settle_1 : decode b_T_settle 1 = .ok (.aload_n 0, 1) := by decide +kernel
theorem d_T_settle_2 : decode b_T_settle 2 = .ok (.getfield 40, 3) := by decide +kernel
theorem d_T_settle_5 : decode b_T_settle 5 = .ok (.putfield 46, 3) := by decide +kernel
theorem d_T_settle_8 : decode b_T_settle 8 = .ok (.aload_n 0, 1) := by decide +kernel
theorem d_T_settle_9 : decode b_T_settle 9 = .ok (.aload_n 0, 1) := by decide +kernel
theorem d_T_settle_10 : decode b_T_settle 10 = .ok (.getfield 36, 3) := by decide +kernel
theorem d_T_settle_13 : decode b_T_settle 13 = .ok (.putfield 43, 3) := by decide +kernel
theorem d_T_settle_16 : decode b_T_settle 16 = .ok (.return_, 1) := by decide +kernel
theorem d_T_kindOf_0 : decode b_T_kindOf 0 = .ok (.aload_n 0, 1) := by decide +kernel
theorem d_T_kindOf_1 : decode b_T_kindOf 1 = .ok (.iload_n 1, 1) := by decide +kernel
theorem d_T_kindOf_2 : decode b_T_kindOf 2 = .ok (.invokevirtual 59, 3) := by decide +kernel
theorem d_T_kindOf_5 : decode b_T_kindOf 5 = .ok (.ifCond .eq 12, 3) := by decide +kernel
theorem d_T_kindOf_8 : decode b_T_kindOf 8 = .ok (.aload_n 0, 1) := by decide +kernel
theorem d_T_kindOf_9 : decode b_T_kindOf 9 = .ok (.getfield 9, 3) := by decide +kernel
theorem d_T_kindOf_12 : decode b_T_kindOf 12 = .ok (.iload_n 1, 1) := by decide +kernel
theorem d_T_kindOf_13 : decode b_T_kindOf 13 = .ok (.iaload, 1) := by decide +kernel
theorem d_T_kindOf_14 : decode b_T_kindOf 14 = .ok (.goto 4, 3) := by decide +kernel
theorem d_T_kindOf_17 : decode b_T_kindOf 17 = .ok (.iconst (-1), 1) := by decide +kernel
theorem d_T_kindOf_18 : decode b_T_kindOf 18 = .ok (.ireturn, 1) := by decide +kernel
theorem d_T_dropUnsettled_0 : decode b_T_dropUnsettled 0 = .ok (.aload_n 0, 1) := by decide +kernel
theorem d_T_dropUnsettled_1 : decode b_T_dropUnsettled 1 = .ok (.aload_n 0, 1) := by decide +kernel
theorem d_T_dropUnsettled_2 : decode b_T_dropUnsettled 2 = .ok (.getfield 46, 3) := by decide +kernel
theorem d_T_dropUnsettled_5 : decode b_T_dropUnsettled 5 = .ok (.putfield 40, 3) := by decide +kernel
theorem d_T_dropUnsettled_8 : decode b_T_dropUnsettled 8 = .ok (.aload_n 0, 1) := by decide +kernel
theorem d_T_dropUnsettled_9 : decode b_T_dropUnsettled 9 = .ok (.aload_n 0, 1) := by decide +kernel
theorem d_T_dropUnsettled_10 : decode b_T_dropUnsettled 10 = .ok (.getfield 43, 3) := by decide +kernel
theorem d_T_dropUnsettled_13 : decode b_T_dropUnsettled 13 = .ok (.putfield 36, 3) := by decide +kernel
theorem d_T_dropUnsettled_16 : decode b_T_dropUnsettled 16 = .ok (.return_, 1) := by decide +kernel
theorem d_T_makeArray_0 : decode b_T_makeArray 0 = .ok (.iconst 0, 1) := by decide +kernel
theorem d_T_makeArray_1 : decode b_T_makeArray 1 = .ok (.istore_n 2, 1) := by decide +kernel
theorem d_T_makeArray_2 : decode b_T_makeArray 2 = .ok (.iload_n 2, 1) := by decide +kernel
theorem d_T_makeArray_3 : decode b_T_makeArray 3 = .ok (.aload_n 0, 1) := by decide +kernel
theorem d_T_makeArray_4 : decode b_T_makeArray 4 = .ok (.getfield 40, 3) := by decide +kernel
theorem d_T_makeArray_7 : decode b_T_makeArray 7 = .ok (.if_icmp .ge 31, 3) := by decide +kernel
theorem d_T_makeArray_10 : decode b_T_makeArray 10 = .ok (.aload_n 0, 1) := by decide +kernel
theorem d_T_makeArray_11 : decode b_T_makeArray 11 = .ok (.getfield 9, 3) := by decide +kernel
theorem d_T_makeArray_14 : decode b_T_makeArray 14 = .ok (.iload_n 2, 1) := by decide +kernel
theorem d_T_makeArray_15 : decode b_T_makeArray 15 = .ok (.iaload, 1) := by decide +kernel
theorem d_T_makeArray_16 : decode b_T_makeArray 16 = .ok (.iconst 2, 1) := by decide +kernel
theorem d_T_makeArray_17 : decode b_T_makeArray 17 = .ok (.if_icmp .ne 15, 3) := by decide +kernel
theorem d_T_makeArray_20 : decode b_T_makeArray 20 = .ok (.aload_n 0, 1) := by decide +kernel
theorem d_T_makeArray_21 : decode b_T_makeArray 21 = .ok (.getfield 21, 3) := by decide +kernel
theorem d_T_makeArray_24 : decode b_T_makeArray 24 = .ok (.iload_n 2, 1) := by decide +kernel
theorem d_T_makeArray_25 : decode b_T_makeArray 25 = .ok (.iaload, 1) := by decide +kernel
theorem d_T_makeArray_26 : decode b_T_makeArray 26 = .ok (.iload_n 1, 1) := by decide +kernel
theorem d_T_makeArray_27 : decode b_T_makeArray 27 = .ok (.if_icmp .ne 5, 3) := by decide +kernel
theorem d_T_makeArray_30 : decode b_T_makeArray 30 = .ok (.iload_n 2, 1) := by decide +kernel
theorem d_T_makeArray_31 : decode b_T_makeArray 31 = .ok (.ireturn, 1) := by decide +kernel
theorem d_T_makeArray_32 : decode b_T_makeArray 32 = .ok (.iinc 2 1, 3) := by decide +kernel
theorem d_T_makeArray_35 : decode b_T_makeArray 35 = .ok (.goto (-33), 3) := by decide +kernel
theorem d_T_makeArray_38 : decode b_T_makeArray 38 = .ok (.aload_n 0, 1) := by decide +kernel
theorem d_T_makeArray_39 : decode b_T_makeArray 39 = .ok (.iconst 2, 1) := by decide +kernel
theorem d_T_makeArray_40 : decode b_T_makeArray 40 = .ok (.iconst 1, 1) := by decide +kernel
theorem d_T_makeArray_41 : decode b_T_makeArray 41 = .ok (.aload_n 0, 1) := by decide +kernel
theorem d_T_makeArray_42 : decode b_T_makeArray 42 = .ok (.iload_n 1, 1) := by decide +kernel
theorem d_T_makeArray_43 : decode b_T_makeArray 43 = .ok (.invokevirtual 67, 3) := by decide +kernel
theorem d_T_makeArray_46 : decode b_T_makeArray 46 = .ok (.iadd, 1) := by decide +kernel
theorem d_T_makeArray_47 : decode b_T_makeArray 47 = .ok (.invokevirtual 49, 3) := by decide +kernel
theorem d_T_makeArray_50 : decode b_T_makeArray 50 = .ok (.istore_n 2, 1) := by decide +kernel
theorem d_T_makeArray_51 : decode b_T_makeArray 51 = .ok (.iload_n 2, 1) := by decide +kernel
theorem d_T_makeArray_52 : decode b_T_makeArray 52 = .ok (.iconst (-1), 1) := by decide +kernel
theorem d_T_makeArray_53 : decode b_T_makeArray 53 = .ok (.if_icmp .eq 10, 3) := by decide +kernel
theorem d_T_makeArray_56 : decode b_T_makeArray 56 = .ok (.aload_n 0, 1) := by decide +kernel
theorem d_T_makeArray_57 : decode b_T_makeArray 57 = .ok (.getfield 21, 3) := by decide +kernel
theorem d_T_makeArray_60 : decode b_T_makeArray 60 = .ok (.iload_n 2, 1) := by decide +kernel
theorem d_T_makeArray_61 : decode b_T_makeArray 61 = .ok (.iload_n 1, 1) := by decide +kernel
theorem d_T_makeArray_62 : decode b_T_makeArray 62 = .ok (.iastore, 1) := by decide +kernel
theorem d_T_makeArray_63 : decode b_T_makeArray 63 = .ok (.iload_n 2, 1) := by decide +kernel
theorem d_T_makeArray_64 : decode b_T_makeArray 64 = .ok (.ireturn, 1) := by decide +kernel
theorem d_T_elementOf_0 : decode b_T_elementOf 0 = .ok (.aload_n 0, 1) := by decide +kernel
theorem d_T_elementOf_1 : decode b_T_elementOf 1 = .ok (.iload_n 1, 1) := by decide +kernel
theorem d_T_elementOf_2 : decode b_T_elementOf 2 = .ok (.invokevirtual 59, 3) := by decide +kernel
theorem d_T_elementOf_5 : decode b_T_elementOf 5 = .ok (.ifCond .eq 12, 3) := by decide +kernel
theorem d_T_elementOf_8 : decode b_T_elementOf 8 = .ok (.aload_n 0, 1) := by decide +kernel
theorem d_T_elementOf_9 : decode b_T_elementOf 9 = .ok (.getfield 21, 3) := by decide +kernel
theorem d_T_elementOf_12 : decode b_T_elementOf 12 = .ok (.iload_n 1, 1) := by decide +kernel
theorem d_T_elementOf_13 : decode b_T_elementOf 13 = .ok (.iaload, 1) := by decide +kernel
theorem d_T_elementOf_14 : decode b_T_elementOf 14 = .ok (.goto 4, 3) := by decide +kernel
theorem d_T_elementOf_17 : decode b_T_elementOf 17 = .ok (.iconst (-1), 1) := by decide +kernel
theorem d_T_elementOf_18 : decode b_T_elementOf 18 = .ok (.ireturn, 1) := by decide +kernel
theorem d_T_classOf_0 : decode b_T_classOf 0 = .ok (.aload_n 0, 1) := by decide +kernel
theorem d_T_classOf_1 : decode b_T_classOf 1 = .ok (.iload_n 1, 1) := by decide +kernel
theorem d_T_classOf_2 : decode b_T_classOf 2 = .ok (.invokevirtual 59, 3) := by decide +kernel
theorem d_T_classOf_5 : decode b_T_classOf 5 = .ok (.ifCond .eq 12, 3) := by decide +kernel
theorem d_T_classOf_8 : decode b_T_classOf 8 = .ok (.aload_n 0, 1) := by decide +kernel
theorem d_T_classOf_9 : decode b_T_classOf 9 = .ok (.getfield 15, 3) := by decide +kernel
theorem d_T_classOf_12 : decode b_T_classOf 12 = .ok (.iload_n 1, 1) := by decide +kernel
theorem d_T_classOf_13 : decode b_T_classOf 13 = .ok (.iaload, 1) := by decide +kernel
theorem d_T_classOf_14 : decode b_T_classOf 14 = .ok (.goto 4, 3) := by decide +kernel
theorem d_T_classOf_17 : decode b_T_classOf 17 = .ok (.iconst (-1), 1) := by decide +kernel
theorem d_T_classOf_18 : decode b_T_classOf 18 = .ok (.ireturn, 1) := by decide +kernel
theorem d_T_countParts_0 : decode b_T_countParts 0 = .ok (.aload_n 0, 1) := by decide +kernel
theorem d_T_countParts_1 : decode b_T_countParts 1 = .ok (.iload_n 1, 1) := by decide +kernel
theorem d_T_countParts_2 : decode b_T_countParts 2 = .ok (.invokevirtual 59, 3) := by decide +kernel
theorem d_T_countParts_5 : decode b_T_countParts 5 = .ok (.ifCond .eq 12, 3) := by decide +kernel
theorem d_T_countParts_8 : decode b_T_countParts 8 = .ok (.aload_n 0, 1) := by decide +kernel
theorem d_T_countParts_9 : decode b_T_countParts 9 = .ok (.getfield 30, 3) := by decide +kernel
theorem d_T_countParts_12 : decode b_T_countParts 12 = .ok (.iload_n 1, 1) := by decide +kernel
theorem d_T_countParts_13 : decode b_T_countParts 13 = .ok (.iaload, 1) := by decide +kernel
theorem d_T_countParts_14 : decode b_T_countParts 14 = .ok (.goto 4, 3) := by decide +kernel
theorem d_T_countParts_17 : decode b_T_countParts 17 = .ok (.iconst 0, 1) := by decide +kernel
theorem d_T_countParts_18 : decode b_T_countParts 18 = .ok (.ireturn, 1) := by decide +kernel
theorem d_T_partOf_0 : decode b_T_partOf 0 = .ok (.aload_n 0, 1) := by decide +kernel
theorem d_T_partOf_1 : decode b_T_partOf 1 = .ok (.iload_n 1, 1) := by decide +kernel
theorem d_T_partOf_2 : decode b_T_partOf 2 = .ok (.invokevirtual 59, 3) := by decide +kernel
theorem d_T_partOf_5 : decode b_T_partOf 5 = .ok (.ifCond .eq 17, 3) := by decide +kernel
theorem d_T_partOf_8 : decode b_T_partOf 8 = .ok (.iload_n 2, 1) := by decide +kernel
theorem d_T_partOf_9 : decode b_T_partOf 9 = .ok (.ifCond .lt 13, 3) := by decide +kernel
theorem d_T_partOf_12 : decode b_T_partOf 12 = .ok (.iload_n 2, 1) := by decide +kernel
theorem d_T_partOf_13 : decode b_T_partOf 13 = .ok (.aload_n 0, 1) := by decide +kernel
theorem d_T_partOf_14 : decode b_T_partOf 14 = .ok (.getfield 30, 3) := by decide +kernel
theorem d_T_partOf_17 : decode b_T_partOf 17 = .ok (.iload_n 1, 1) := by decide +kernel
theorem d_T_partOf_18 : decode b_T_partOf 18 = .ok (.iaload, 1) := by decide +kernel
theorem d_T_partOf_19 : decode b_T_partOf 19 = .ok (.if_icmp .lt 5, 3) := by decide +kernel
theorem d_T_partOf_22 : decode b_T_partOf 22 = .ok (.iconst (-1), 1) := by decide +kernel
theorem d_T_partOf_23 : decode b_T_partOf 23 = .ok (.ireturn, 1) := by decide +kernel
theorem d_T_partOf_24 : decode b_T_partOf 24 = .ok (.aload_n 0, 1) := by decide +kernel
theorem d_T_partOf_25 : decode b_T_partOf 25 = .ok (.getfield 9, 3) := by decide +kernel
theorem d_T_partOf_28 : decode b_T_partOf 28 = .ok (.iload_n 1, 1) := by decide +kernel
theorem d_T_partOf_29 : decode b_T_partOf 29 = .ok (.iaload, 1) := by decide +kernel
theorem d_T_partOf_30 : decode b_T_partOf 30 = .ok (.iconst 1, 1) := by decide +kernel
theorem d_T_partOf_31 : decode b_T_partOf 31 = .ok (.if_icmp .ne 5, 3) := by decide +kernel
theorem d_T_partOf_34 : decode b_T_partOf 34 = .ok (.iload_n 1, 1) := by decide +kernel
theorem d_T_partOf_35 : decode b_T_partOf 35 = .ok (.ireturn, 1) := by decide +kernel
theorem d_T_partOf_36 : decode b_T_partOf 36 = .ok (.aload_n 0, 1) := by decide +kernel
theorem d_T_partOf_37 : decode b_T_partOf 37 = .ok (.getfield 27, 3) := by decide +kernel
theorem d_T_partOf_40 : decode b_T_partOf 40 = .ok (.iload_n 1, 1) := by decide +kernel
theorem d_T_partOf_41 : decode b_T_partOf 41 = .ok (.iaload, 1) := by decide +kernel
theorem d_T_partOf_42 : decode b_T_partOf 42 = .ok (.iload_n 2, 1) := by decide +kernel
theorem d_T_partOf_43 : decode b_T_partOf 43 = .ok (.iadd, 1) := by decide +kernel
theorem d_T_partOf_44 : decode b_T_partOf 44 = .ok (.istore_n 3, 1) := by decide +kernel
theorem d_T_partOf_45 : decode b_T_partOf 45 = .ok (.iload_n 3, 1) := by decide +kernel
theorem d_T_partOf_46 : decode b_T_partOf 46 = .ok (.ifCond .lt 29, 3) := by decide +kernel
theorem d_T_partOf_49 : decode b_T_partOf 49 = .ok (.iload_n 3, 1) := by decide +kernel
theorem d_T_partOf_50 : decode b_T_partOf 50 = .ok (.aload_n 0, 1) := by decide +kernel
theorem d_T_partOf_51 : decode b_T_partOf 51 = .ok (.getfield 36, 3) := by decide +kernel
theorem d_T_partOf_54 : decode b_T_partOf 54 = .ok (.if_icmp .ge 21, 3) := by decide +kernel
theorem d_T_partOf_57 : decode b_T_partOf 57 = .ok (.iload_n 3, 1) := by decide +kernel
theorem d_T_partOf_58 : decode b_T_partOf 58 = .ok (.aload_n 0, 1) := by decide +kernel
theorem d_T_partOf_59 : decode b_T_partOf 59 = .ok (.getfield 33, 3) := by decide +kernel
theorem d_T_partOf_62 : decode b_T_partOf 62 = .ok (.arraylength, 1) := by decide +kernel
theorem d_T_partOf_63 : decode b_T_partOf 63 = .ok (.if_icmp .ge 12, 3) := by decide +kernel
theorem d_T_partOf_66 : decode b_T_partOf 66 = .ok (.aload_n 0, 1) := by decide +kernel
theorem d_T_partOf_67 : decode b_T_partOf 67 = .ok (.getfield 33, 3) := by decide +kernel
theorem d_T_partOf_70 : decode b_T_partOf 70 = .ok (.iload_n 3, 1) := by decide +kernel
theorem d_T_partOf_71 : decode b_T_partOf 71 = .ok (.iaload, 1) := by decide +kernel
theorem d_T_partOf_72 : decode b_T_partOf 72 = .ok (.goto 4, 3) := by decide +kernel
theorem d_T_partOf_75 : decode b_T_partOf 75 = .ok (.iconst (-1), 1) := by decide +kernel
theorem d_T_partOf_76 : decode b_T_partOf 76 = .ok (.ireturn, 1) := by decide +kernel
theorem d_T_argumentAt_0 : decode b_T_argumentAt 0 = .ok (.aload_n 0, 1) := by decide +kernel
theorem d_T_argumentAt_1 : decode b_T_argumentAt 1 = .ok (.iload_n 1, 1) := by decide +kernel
theorem d_T_argumentAt_2 : decode b_T_argumentAt 2 = .ok (.invokevirtual 59, 3) := by decide +kernel
theorem d_T_argumentAt_5 : decode b_T_argumentAt 5 = .ok (.ifCond .eq 12, 3) := by decide +kernel
theorem d_T_argumentAt_8 : decode b_T_argumentAt 8 = .ok (.aload_n 0, 1) := by decide +kernel
theorem d_T_argumentAt_9 : decode b_T_argumentAt 9 = .ok (.getfield 18, 3) := by decide +kernel
theorem d_T_argumentAt_12 : decode b_T_argumentAt 12 = .ok (.iload_n 1, 1) := by decide +kernel
theorem d_T_argumentAt_13 : decode b_T_argumentAt 13 = .ok (.iaload, 1) := by decide +kernel
theorem d_T_argumentAt_14 : decode b_T_argumentAt 14 = .ok (.goto 4, 3) := by decide +kernel
theorem d_T_argumentAt_17 : decode b_T_argumentAt 17 = .ok (.iconst 0, 1) := by decide +kernel
theorem d_T_argumentAt_18 : decode b_T_argumentAt 18 = .ok (.ireturn, 1) := by decide +kernel
theorem d_T_hasParts_0 : decode b_T_hasParts 0 = .ok (.iconst 0, 1) := by decide +kernel
theorem d_T_hasParts_1 : decode b_T_hasParts 1 = .ok (.istore 4, 2) := by decide +kernel
theorem d_T_hasParts_3 : decode b_T_hasParts 3 = .ok (.iload 4, 2) := by decide +kernel
theorem d_T_hasParts_5 : decode b_T_hasParts 5 = .ok (.aload_n 0, 1) := by decide +kernel
theorem d_T_hasParts_6 : decode b_T_hasParts 6 = .ok (.getfield 30, 3) := by decide +kernel
theorem d_T_hasParts_9 : decode b_T_hasParts 9 = .ok (.iload_n 1, 1) := by decide +kernel
theorem d_T_hasParts_10 : decode b_T_hasParts 10 = .ok (.iaload, 1) := by decide +kernel
theorem d_T_hasParts_11 : decode b_T_hasParts 11 = .ok (.if_icmp .ge 36, 3) := by decide +kernel
theorem d_T_hasParts_14 : decode b_T_hasParts 14 = .ok (.iload_n 3, 1) := by decide +kernel
theorem d_T_hasParts_15 : decode b_T_hasParts 15 = .ok (.iload 4, 2) := by decide +kernel
theorem d_T_hasParts_17 : decode b_T_hasParts 17 = .ok (.iadd, 1) := by decide +kernel
theorem d_T_hasParts_18 : decode b_T_hasParts 18 = .ok (.aload_n 2, 1) := by decide +kernel
theorem d_T_hasParts_19 : decode b_T_hasParts 19 = .ok (.arraylength, 1) := by decide +kernel
theorem d_T_hasParts_20 : decode b_T_hasParts 20 = .ok (.if_icmp .ge 27, 3) := by decide +kernel
theorem d_T_hasParts_23 : decode b_T_hasParts 23 = .ok (.aload_n 0, 1) := by decide +kernel
theorem d_T_hasParts_24 : decode b_T_hasParts 24 = .ok (.iload_n 1, 1) := by decide +kernel
theorem d_T_hasParts_25 : decode b_T_hasParts 25 = .ok (.iload 4, 2) := by decide +kernel
theorem d_T_hasParts_27 : decode b_T_hasParts 27 = .ok (.invokevirtual 82, 3) := by decide +kernel
theorem d_T_hasParts_30 : decode b_T_hasParts 30 = .ok (.aload_n 2, 1) := by decide +kernel
theorem d_T_hasParts_31 : decode b_T_hasParts 31 = .ok (.iload_n 3, 1) := by decide +kernel
theorem d_T_hasParts_32 : decode b_T_hasParts 32 = .ok (.iload 4, 2) := by decide +kernel
theorem d_T_hasParts_34 : decode b_T_hasParts 34 = .ok (.iadd, 1) := by decide +kernel
theorem d_T_hasParts_35 : decode b_T_hasParts 35 = .ok (.iaload, 1) := by decide +kernel
theorem d_T_hasParts_36 : decode b_T_hasParts 36 = .ok (.if_icmp .eq 5, 3) := by decide +kernel
theorem d_T_hasParts_39 : decode b_T_hasParts 39 = .ok (.iconst 0, 1) := by decide +kernel
theorem d_T_hasParts_40 : decode b_T_hasParts 40 = .ok (.ireturn, 1) := by decide +kernel
theorem d_T_hasParts_41 : decode b_T_hasParts 41 = .ok (.iinc 4 1, 3) := by decide +kernel
theorem d_T_hasParts_44 : decode b_T_hasParts 44 = .ok (.goto (-41), 3) := by decide +kernel
theorem d_T_hasParts_47 : decode b_T_hasParts 47 = .ok (.iconst 1, 1) := by decide +kernel
theorem d_T_hasParts_48 : decode b_T_hasParts 48 = .ok (.ireturn, 1) := by decide +kernel
theorem d_T_findIntersection_0 : decode b_T_findIntersection 0 = .ok (.iconst 0, 1) := by decide +kernel
theorem d_T_findIntersection_1 : decode b_T_findIntersection 1 = .ok (.istore 4, 2) := by decide +kernel
theorem d_T_findIntersection_3 : decode b_T_findIntersection 3 = .ok (.iload 4, 2) := by decide +kernel
theorem d_T_findIntersection_5 : decode b_T_findIntersection 5 = .ok (.aload_n 0, 1) := by decide +kernel
theorem d_T_findIntersection_6 : decode b_T_findIntersection 6 = .ok (.getfield 40, 3) := by decide +kernel
theorem d_T_findIntersection_9 : decode b_T_findIntersection 9 = .ok (.if_icmp .ge 45, 3) := by decide +kernel
theorem d_T_findIntersection_12 : decode b_T_findIntersection 12 = .ok (.aload_n 0, 1) := by decide +kernel
theorem d_T_findIntersection_13 : decode b_T_findIntersection 13 = .ok (.getfield 9, 3) := by decide +kernel
theorem d_T_findIntersection_16 : decode b_T_findIntersection 16 = .ok (.iload 4, 2) := by decide +kernel
theorem d_T_findIntersection_18 : decode b_T_findIntersection 18 = .ok (.iaload, 1) := by decide +kernel
theorem d_T_findIntersection_19 : decode b_T_findIntersection 19 = .ok (.iconst 3, 1) := by decide +kernel
theorem d_T_findIntersection_20 : decode b_T_findIntersection 20 = .ok (.if_icmp .ne 28, 3) := by decide +kernel
theorem d_T_findIntersection_23 : decode b_T_findIntersection 23 = .ok (.aload_n 0, 1) := by decide +kernel
theorem d_T_findIntersection_24 : decode b_T_findIntersection 24 = .ok (.getfield 30, 3) := by decide +kernel
theorem d_T_findIntersection_27 : decode b_T_findIntersection 27 = .ok (.iload 4, 2) := by decide +kernel
theorem d_T_findIntersection_29 : decode b_T_findIntersection 29 = .ok (.iaload, 1) := by decide +kernel
theorem d_T_findIntersection_30 : decode b_T_findIntersection 30 = .ok (.iload_n 3, 1) := by decide +kernel
theorem d_T_findIntersection_31 : decode b_T_findIntersection 31 = .ok (.if_icmp .ne 17, 3) := by decide +kernel
theorem d_T_findIntersection_34 : decode b_T_findIntersection 34 = .ok (.aload_n 0, 1) := by decide +kernel
theorem d_T_findIntersection_35 : decode b_T_findIntersection 35 = .ok (.iload 4, 2) := by decide +kernel
theorem d_T_findIntersection_37 : decode b_T_findIntersection 37 = .ok (.aload_n 1, 1) := by decide +kernel
theorem d_T_findIntersection_38 : decode b_T_findIntersection 38 = .ok (.iload_n 2, 1) := by decide +kernel
theorem d_T_findIntersection_39 : decode b_T_findIntersection 39 = .ok (.invokevirtual 78, 3) := by decide +kernel
theorem d_T_findIntersection_42 : decode b_T_findIntersection 42 = .ok (.ifCond .eq 6, 3) := by decide +kernel
theorem d_T_findIntersection_45 : decode b_T_findIntersection 45 = .ok (.iload 4, 2) := by decide +kernel
theorem d_T_findIntersection_47 : decode b_T_findIntersection 47 = .ok (.ireturn, 1) := by decide +kernel
theorem d_T_findIntersection_48 : decode b_T_findIntersection 48 = .ok (.iinc 4 1, 3) := by decide +kernel
theorem d_T_findIntersection_51 : decode b_T_findIntersection 51 = .ok (.goto (-48), 3) := by decide +kernel
theorem d_T_findIntersection_54 : decode b_T_findIntersection 54 = .ok (.iconst (-1), 1) := by decide +kernel
theorem d_T_findIntersection_55 : decode b_T_findIntersection 55 = .ok (.ireturn, 1) := by decide +kernel
theorem d_T_appendParts_0 : decode b_T_appendParts 0 = .ok (.aload_n 0, 1) := by decide +kernel
theorem d_T_appendParts_1 : decode b_T_appendParts 1 = .ok (.getfield 36, 3) := by decide +kernel
theorem d_T_appendParts_4 : decode b_T_appendParts 4 = .ok (.iload 4, 2) := by decide +kernel
theorem d_T_appendParts_6 : decode b_T_appendParts 6 = .ok (.iadd, 1) := by decide +kernel
theorem d_T_appendParts_7 : decode b_T_appendParts 7 = .ok (.aload_n 0, 1) := by decide +kernel
theorem d_T_appendParts_8 : decode b_T_appendParts 8 = .ok (.getfield 33, 3) := by decide +kernel
theorem d_T_appendParts_11 : decode b_T_appendParts 11 = .ok (.arraylength, 1) := by decide +kernel
theorem d_T_appendParts_12 : decode b_T_appendParts 12 = .ok (.if_icmp .le 23, 3) := by decide +kernel
theorem d_T_appendParts_15 : decode b_T_appendParts 15 = .ok (.aload_n 0, 1) := by decide +kernel
theorem d_T_appendParts_16 : decode b_T_appendParts 16 = .ok (.aload_n 0, 1) := by decide +kernel
theorem d_T_appendParts_17 : decode b_T_appendParts 17 = .ok (.getfield 33, 3) := by decide +kernel
theorem d_T_appendParts_20 : decode b_T_appendParts 20 = .ok (.iconst 2, 1) := by decide +kernel
theorem d_T_appendParts_21 : decode b_T_appendParts 21 = .ok (.aload_n 0, 1) := by decide +kernel
theorem d_T_appendParts_22 : decode b_T_appendParts 22 = .ok (.getfield 36, 3) := by decide +kernel
theorem d_T_appendParts_25 : decode b_T_appendParts 25 = .ok (.iload 4, 2) := by decide +kernel
theorem d_T_appendParts_27 : decode b_T_appendParts 27 = .ok (.iadd, 1) := by decide +kernel
theorem d_T_appendParts_28 : decode b_T_appendParts 28 = .ok (.imul, 1) := by decide +kernel
theorem d_T_appendParts_29 : decode b_T_appendParts 29 = .ok (.invokestatic 85, 3) := by decide +kernel
theorem d_T_appendParts_32 : decode b_T_appendParts 32 = .ok (.putfield 33, 3) := by decide +kernel
theorem d_T_appendParts_35 : decode b_T_appendParts 35 = .ok (.aload_n 2, 1) := by decide +kernel
theorem d_T_appendParts_36 : decode b_T_appendParts 36 = .ok (.iload_n 3, 1) := by decide +kernel
theorem d_T_appendParts_37 : decode b_T_appendParts 37 = .ok (.aload_n 0, 1) := by decide +kernel
theorem d_T_appendParts_38 : decode b_T_appendParts 38 = .ok (.getfield 33, 3) := by decide +kernel
theorem d_T_appendParts_41 : decode b_T_appendParts 41 = .ok (.aload_n 0, 1) := by decide +kernel
theorem d_T_appendParts_42 : decode b_T_appendParts 42 = .ok (.getfield 36, 3) := by decide +kernel
theorem d_T_appendParts_45 : decode b_T_appendParts 45 = .ok (.iload 4, 2) := by decide +kernel
theorem d_T_appendParts_47 : decode b_T_appendParts 47 = .ok (.invokestatic 91, 3) := by decide +kernel
theorem d_T_appendParts_50 : decode b_T_appendParts 50 = .ok (.aload_n 0, 1) := by decide +kernel
theorem d_T_appendParts_51 : decode b_T_appendParts 51 = .ok (.getfield 27, 3) := by decide +kernel
theorem d_T_appendParts_54 : decode b_T_appendParts 54 = .ok (.iload_n 1, 1) := by decide +kernel
theorem d_T_appendParts_55 : decode b_T_appendParts 55 = .ok (.aload_n 0, 1) := by decide +kernel
theorem d_T_appendParts_56 : decode b_T_appendParts 56 = .ok (.getfield 36, 3) := by decide +kernel
theorem d_T_appendParts_59 : decode b_T_appendParts 59 = .ok (.iastore, 1) := by decide +kernel
theorem d_T_appendParts_60 : decode b_T_appendParts 60 = .ok (.aload_n 0, 1) := by decide +kernel
theorem d_T_appendParts_61 : decode b_T_appendParts 61 = .ok (.getfield 30, 3) := by decide +kernel
theorem d_T_appendParts_64 : decode b_T_appendParts 64 = .ok (.iload_n 1, 1) := by decide +kernel
theorem d_T_appendParts_65 : decode b_T_appendParts 65 = .ok (.iload 4, 2) := by decide +kernel
theorem d_T_appendParts_67 : decode b_T_appendParts 67 = .ok (.iastore, 1) := by decide +kernel
theorem d_T_appendParts_68 : decode b_T_appendParts 68 = .ok (.aload_n 0, 1) := by decide +kernel
theorem d_T_appendParts_69 : decode b_T_appendParts 69 = .ok (.dup, 1) := by decide +kernel
theorem d_T_appendParts_70 : decode b_T_appendParts 70 = .ok (.getfield 36, 3) := by decide +kernel
theorem d_T_appendParts_73 : decode b_T_appendParts 73 = .ok (.iload 4, 2) := by decide +kernel
theorem d_T_appendParts_75 : decode b_T_appendParts 75 = .ok (.iadd, 1) := by decide +kernel
theorem d_T_appendParts_76 : decode b_T_appendParts 76 = .ok (.putfield 36, 3) := by decide +kernel
theorem d_T_appendParts_79 : decode b_T_appendParts 79 = .ok (.return_, 1) := by decide +kernel
theorem d_T_makeIntersection_0 : decode b_T_makeIntersection 0 = .ok (.aload_n 1, 1) := by decide +kernel
theorem d_T_makeIntersection_1 : decode b_T_makeIntersection 1 = .ok (.ifnull 20, 3) := by decide +kernel
theorem d_T_makeIntersection_4 : decode b_T_makeIntersection 4 = .ok (.iload_n 2, 1) := by decide +kernel
theorem d_T_makeIntersection_5 : decode b_T_makeIntersection 5 = .ok (.ifCond .lt 16, 3) := by decide +kernel
theorem d_T_makeIntersection_8 : decode b_T_makeIntersection 8 = .ok (.iload_n 3, 1) := by decide +kernel
theorem d_T_makeIntersection_9 : decode b_T_makeIntersection 9 = .ok (.iconst 1, 1) := by decide +kernel
theorem d_T_makeIntersection_10 : decode b_T_makeIntersection 10 = .ok (.if_icmp .lt 11, 3) := by decide +kernel
theorem d_T_makeIntersection_13 : decode b_T_makeIntersection 13 = .ok (.iload_n 3, 1) := by decide +kernel
theorem d_T_makeIntersection_14 : decode b_T_makeIntersection 14 = .ok (.aload_n 1, 1) := by decide +kernel
theorem d_T_makeIntersection_15 : decode b_T_makeIntersection 15 = .ok (.arraylength, 1) := by decide +kernel
theorem d_T_makeIntersection_16 : decode b_T_makeIntersection 16 = .ok (.iload_n 2, 1) := by decide +kernel
theorem d_T_makeIntersection_17 : decode b_T_makeIntersection 17 = .ok (.isub, 1) := by decide +kernel
theorem d_T_makeIntersection_18 : decode b_T_makeIntersection 18 = .ok (.if_icmp .le 5, 3) := by decide +kernel
theorem d_T_makeIntersection_21 : decode b_T_makeIntersection 21 = .ok (.iconst (-1), 1) := by decide +kernel
theorem d_T_makeIntersection_22 : decode b_T_makeIntersection 22 = .ok (.ireturn, 1) := by decide +kernel
theorem d_T_makeIntersection_23 : decode b_T_makeIntersection 23 = .ok (.iload_n 3, 1) := by decide +kernel
theorem d_T_makeIntersection_24 : decode b_T_makeIntersection 24 = .ok (.iconst 1, 1) := by decide +kernel
theorem d_T_makeIntersection_25 : decode b_T_makeIntersection 25 = .ok (.if_icmp .ne 7, 3) := by decide +kernel
theorem d_T_makeIntersection_28 : decode b_T_makeIntersection 28 = .ok (.aload_n 1, 1) := by decide +kernel
theorem d_T_makeIntersection_29 : decode b_T_makeIntersection 29 = .ok (.iload_n 2, 1) := by decide +kernel
theorem d_T_makeIntersection_30 : decode b_T_makeIntersection 30 = .ok (.iaload, 1) := by decide +kernel
theorem d_T_makeIntersection_31 : decode b_T_makeIntersection 31 = .ok (.ireturn, 1) := by decide +kernel
theorem d_T_makeIntersection_32 : decode b_T_makeIntersection 32 = .ok (.iconst 1, 1) := by decide +kernel
theorem d_T_makeIntersection_33 : decode b_T_makeIntersection 33 = .ok (.istore 4, 2) := by decide +kernel
theorem d_T_makeIntersection_35 : decode b_T_makeIntersection 35 = .ok (.iconst 0, 1) := by decide +kernel
theorem d_T_makeIntersection_36 : decode b_T_makeIntersection 36 = .ok (.istore 5, 2) := by decide +kernel
theorem d_T_makeIntersection_38 : decode b_T_makeIntersection 38 = .ok (.iload 5, 2) := by decide +kernel
theorem d_T_makeIntersection_40 : decode b_T_makeIntersection 40 = .ok (.iload_n 3, 1) := by decide +kernel
theorem d_T_makeIntersection_41 : decode b_T_makeIntersection 41 = .ok (.if_icmp .ge 24, 3) := by decide +kernel
theorem d_T_makeIntersection_44 : decode b_T_makeIntersection 44 = .ok (.iload 4, 2) := by decide +kernel
theorem d_T_makeIntersection_46 : decode b_T_makeIntersection 46 = .ok (.aload_n 0, 1) := by decide +kernel
theorem d_T_makeIntersection_47 : decode b_T_makeIntersection 47 = .ok (.aload_n 1, 1) := by decide +kernel
theorem d_T_makeIntersection_48 : decode b_T_makeIntersection 48 = .ok (.iload_n 2, 1) := by decide +kernel
theorem d_T_makeIntersection_49 : decode b_T_makeIntersection 49 = .ok (.iload 5, 2) := by decide +kernel
theorem d_T_makeIntersection_51 : decode b_T_makeIntersection 51 = .ok (.iadd, 1) := by decide +kernel
theorem d_T_makeIntersection_52 : decode b_T_makeIntersection 52 = .ok (.iaload, 1) := by decide +kernel
theorem d_T_makeIntersection_53 : decode b_T_makeIntersection 53 = .ok (.invokevirtual 67, 3) := by decide +kernel
theorem d_T_makeIntersection_56 : decode b_T_makeIntersection 56 = .ok (.iadd, 1) := by decide +kernel
theorem d_T_makeIntersection_57 : decode b_T_makeIntersection 57 = .ok (.istore 4, 2) := by decide +kernel
theorem d_T_makeIntersection_59 : decode b_T_makeIntersection 59 = .ok (.iinc 5 1, 3) := by decide +kernel
theorem d_T_makeIntersection_62 : decode b_T_makeIntersection 62 = .ok (.goto (-24), 3) := by decide +kernel
theorem d_T_makeIntersection_65 : decode b_T_makeIntersection 65 = .ok (.aload_n 0, 1) := by decide +kernel
theorem d_T_makeIntersection_66 : decode b_T_makeIntersection 66 = .ok (.aload_n 1, 1) := by decide +kernel
theorem d_T_makeIntersection_67 : decode b_T_makeIntersection 67 = .ok (.iload_n 2, 1) := by decide +kernel
theorem d_T_makeIntersection_68 : decode b_T_makeIntersection 68 = .ok (.iload_n 3, 1) := by decide +kernel
theorem d_T_makeIntersection_69 : decode b_T_makeIntersection 69 = .ok (.invokevirtual 70, 3) := by decide +kernel
theorem d_T_makeIntersection_72 : decode b_T_makeIntersection 72 = .ok (.istore 5, 2) := by decide +kernel
theorem d_T_makeIntersection_74 : decode b_T_makeIntersection 74 = .ok (.iload 5, 2) := by decide +kernel
theorem d_T_makeIntersection_76 : decode b_T_makeIntersection 76 = .ok (.iconst (-1), 1) := by decide +kernel
theorem d_T_makeIntersection_77 : decode b_T_makeIntersection 77 = .ok (.if_icmp .eq 6, 3) := by decide +kernel
theorem d_T_makeIntersection_80 : decode b_T_makeIntersection 80 = .ok (.iload 5, 2) := by decide +kernel
theorem d_T_makeIntersection_82 : decode b_T_makeIntersection 82 = .ok (.ireturn, 1) := by decide +kernel
theorem d_T_makeIntersection_83 : decode b_T_makeIntersection 83 = .ok (.aload_n 0, 1) := by decide +kernel
theorem d_T_makeIntersection_84 : decode b_T_makeIntersection 84 = .ok (.iconst 3, 1) := by decide +kernel
theorem d_T_makeIntersection_85 : decode b_T_makeIntersection 85 = .ok (.iload 4, 2) := by decide +kernel
theorem d_T_makeIntersection_87 : decode b_T_makeIntersection 87 = .ok (.invokevirtual 49, 3) := by decide +kernel
theorem d_T_makeIntersection_90 : decode b_T_makeIntersection 90 = .ok (.istore 6, 2) := by decide +kernel
theorem d_T_makeIntersection_92 : decode b_T_makeIntersection 92 = .ok (.iload 6, 2) := by decide +kernel
theorem d_T_makeIntersection_94 : decode b_T_makeIntersection 94 = .ok (.iconst (-1), 1) := by decide +kernel
theorem d_T_makeIntersection_95 : decode b_T_makeIntersection 95 = .ok (.if_icmp .eq 12, 3) := by decide +kernel
theorem d_T_makeIntersection_98 : decode b_T_makeIntersection 98 = .ok (.aload_n 0, 1) := by decide +kernel
theorem d_T_makeIntersection_99 : decode b_T_makeIntersection 99 = .ok (.iload 6, 2) := by decide +kernel
theorem d_T_makeIntersection_101 : decode b_T_makeIntersection 101 = .ok (.aload_n 1, 1) := by decide +kernel
theorem d_T_makeIntersection_102 : decode b_T_makeIntersection 102 = .ok (.iload_n 2, 1) := by decide +kernel
theorem d_T_makeIntersection_103 : decode b_T_makeIntersection 103 = .ok (.iload_n 3, 1) := by decide +kernel
theorem d_T_makeIntersection_104 : decode b_T_makeIntersection 104 = .ok (.invokevirtual 74, 3) := by decide +kernel
theorem d_T_makeIntersection_107 : decode b_T_makeIntersection 107 = .ok (.iload 6, 2) := by decide +kernel
theorem d_T_makeIntersection_109 : decode b_T_makeIntersection 109 = .ok (.ireturn, 1) := by decide +kernel
theorem d_T_count_0 : decode b_T_count 0 = .ok (.aload_n 0, 1) := by decide +kernel
theorem d_T_count_1 : decode b_T_count 1 = .ok (.getfield 40, 3) := by decide +kernel
theorem d_T_count_4 : decode b_T_count 4 = .ok (.ireturn, 1) := by decide +kernel
end
section
/-! Own rows: bundles of the kit's rows, by which a program lays the walks. -/
/-- the classes, arrays and nest links as the tables have them -/
abbrev KN (D : va_G) (ty : List (ClassId × FieldType)) (U : State) : Prop := va_K D vwCl ty U ∧ (∀ w ∈ nwL, va_Nw w U) ∧ ∀ q ∈ stL, ∃ sa, vk_R q.1 q.2.1 q.2.2 sa U
theorem KN.warm {D : va_G} {ty : List (ClassId × FieldType)} {s U : State} (hW : s.WarmedH U.vm) (h : KN D ty s) : KN D ty U := by
  refine ⟨va_K.moved hW.alike h.1, fun w hw => ?_, fun q hq => ?_⟩
  · obtain ⟨a, i, x, k, rfl⟩ := nwL_sh w hw
    exact va_Nw.warmM hW (h.2.1 _ hw)
  · obtain ⟨sa, hs⟩ := h.2.2 q hq
    exact ⟨sa, vk_R.warm hW hs⟩
theorem KN.calling {D : va_G} {ty : List (ClassId × FieldType)} {U : State} (g : JFrame) (mk : MethodId) (a : Array Value) (h : KN D ty U) : KN D ty (U.calling g mk a) := by
  refine ⟨va_K.moved (u := U) (U := U.calling g mk a) (Vm.Alike.refl U.vm) h.1, fun w hw => ?_, fun q hq => ?_⟩
  · obtain ⟨a', i, x, k, rfl⟩ := nwL_sh w hw
    exact va_Nw.same (u := U) rfl rfl (h.2.1 _ hw)
  · obtain ⟨sa, hs⟩ := h.2.2 q hq
    exact ⟨sa, vk_R.same (u := U) rfl hs⟩
/-- what holds all along a method's body -/
abbrev Am (p : Program) (s : State) (m : MethodId) (args : Array Value) (meth : Method) (c : Code) (cc : ByteArray) (ret : Option FieldType) (nL : Nat) (own : String) (D : va_G) (ty : List (ClassId × FieldType)) : Prop :=
  p.tables.exec = Jvm.exec ∧ c.code = cc ∧ meth.sig.returnType = ret ∧ c.maxLocals = nL ∧ s.vm.findClass own = some m.cls ∧ (∀ w ∈ tb, w.before args s = true) ∧ meth.locks = false ∧ KN D ty s
abbrev rmK (fr lc k n : Nat) : Room := { frames := fr, cells := k, slots := n, locals := lc }
theorem gd {α : Type} {c : Prop} [Decidable c] {o : Option α} {v : α} (h : (if c then none else o) = some v) : ¬ c ∧ o = some v := by
  by_cases hc : c
  · rw [if_pos hc] at h; cases h
  · rw [if_neg hc] at h; exact ⟨hc, h⟩
theorem bd {α β : Type} {o : Option α} {f : α → Option β} {v : β} (h : o.bind f = some v) : ∃ r, o = some r ∧ f r = some v := Option.bind_eq_some_iff.mp h
def ad_ {α β : Type} (c n : Nat) (o : Option (α × β × Nat × Nat)) : Option (α × β × Nat × Nat) := o.map fun r => (r.1, r.2.1, r.2.2.1 + c, r.2.2.2 + n)
theorem ad_s {α β : Type} {c n : Nat} {o : Option (α × β × Nat × Nat)} {a : α} {b : β} {k i : Nat} (h : ad_ c n o = some (a, b, k, i)) : ∃ k' i', o = some (a, b, k', i') ∧ k = k' + c ∧ i = i' + n := by
  cases o with
  | none => cases h
  | some r =>
    obtain ⟨a', b', k', i'⟩ := r
    cases h
    exact ⟨k', i', rfl, rfl, rfl⟩
def J_fill (f : Nat → Int32) (n : Nat) (v : Int32) : Nat → Int32 := fun j => if j < n then v else f j
def J_copyOf (f : Nat → Int32) (n : Nat) (k : Int32) : Nat → Int32 := va_cpy f (fun _ => 0) 0 0 (min n k.toNatClampNeg)
/-- the words of a method that is called by a name of its class -/
abbrev wdV (y : MethodName) (cc : ByteArray) (nL : Nat) (ret : Option FieldType) : Prop := Cond.code y cc nL ret ∈ tb ∧ Cond.instanceMethod y ∈ tb ∧ Cond.selects y.cls y y ∈ tb ∧ Cond.initialized y.cls ∈ tb
abbrev wdS (y : MethodName) (cc : ByteArray) (nL : Nat) (ret : Option FieldType) : Prop := Cond.code y cc nL ret ∈ tb ∧ Cond.static y ∈ tb ∧ Cond.initialized y.cls ∈ tb
abbrev plainY (y : MethodName) (n : Nat) : Prop := y.cls ≠ "java/lang/invoke/MethodHandle" ∧ y.cls ≠ "java/lang/invoke/VarHandle" ∧ (parseMethodDescriptor y.desc).map (fun d => d.parameters.length) = some n
theorem gdIn {y : MethodName} {cc : ByteArray} {nL : Nat} {ret : Option FieldType} (h : Cond.code y cc nL ret ∈ tb) : GoodIn tb (Cond.code y cc nL ret :: tb) := by
  intro w hw
  rcases List.mem_cons.mp hw with rfl | hw
  · exact ⟨h, tb_ok _ h⟩
  · exact ⟨hw, tb_ok _ hw⟩
theorem pnil {D : va_G} {H : Heap} : va_P D vwCl [] H := fun k q h => by simp at h
section RO
variable {p : Program} {l : Launch} {e : Env} {R : Room} {s : State} {m : MethodId} {args : Array Value} {below : List Frame} {meth : Method} {c : Code} {H : Heap} {locs : List Loc} {cells slots : Nat} {Q : State → Prop}
variable {cc : ByteArray} {pc : Nat} {ls : Array Slot} {rest st : List Value} {D : va_G} {ty : List (ClassId × FieldType)} {ret0 : Option FieldType} {nL : Nat} {own : String} {lv : List (Nat × Value)}
/-- a method that reads alone: its answer is val -/
abbrev RoM (l : Launch) (y : MethodName) (cc : ByteArray) (nL : Nat) (ret : Option FieldType) (fr lc : Nat) (D : va_G) (ty : List (ClassId × FieldType)) (av : List Value) (w : va_W) (val : Int32) : Prop :=
  Met l y (Cond.code y cc nL ret :: tb) (rmK fr lc 0 0) (va_Pc av (fun U => va_P D vwCl w U.heap ∧ KN D ty U)) (vp_Si (fun r => r = val)) 0 0 (fun _ => False)
abbrev RoW (p : Program) (l : Launch) (e : Env) (R : Room) (s : State) (m : MethodId) (args : Array Value) (below : List Frame) (meth : Method) (c : Code) (val : Int32) (g : JFrame) : Prop :=
  W p l e R s m args below meth c s.heap [] 0 0 (MQ below (vp_Si (fun r => r = val)) args s 0 0 (fun _ => False)) g
theorem ro_of {y : MethodName} {ret : Option FieldType} {fr lc : Nat} {av : List Value} {w : va_W} {val : Int32} (hy : plainName y.cls = true) (hlen : (lg_sl av).length ≤ nL)
    (body : ∀ (p : Program) (e : Env) (s : State) (m : MethodId) (args : Array Value) (below : List Frame) (meth : Method) (c : Code) (ls : Array Slot), Am p s m args meth c cc ret nL y.cls D ty → va_P D vwCl w s.heap → lv_has ls nL (lv_args 0 av) → RoW p l e (rmK fr lc 0 0) s m args below meth c val (F0 m 0 ls [])) : RoM l y cc nL ret fr lc D ty av w val := by
  refine Met.ofW (cc := cc) (maxL := nL) (ret := ret) hy rfl ?_
  intro p e s m args below meth c s₁ B hml hv
  obtain ⟨rfl, hP, hK⟩ := hv
  have hts := atoms_spec (ws := Cond.code y cc nL ret :: tb) B.pre
  have hl := lv_entry av (n := nL) hlen
  rw [lg_entry_eq]
  exact body p e s m av.toArray below meth c _ ⟨B.exec, B.bytes, B.returns, hml, findClass_of_methodNamed B.named, fun w h => hts w (List.mem_cons_of_mem _ h), B.notSynchronized, hK⟩ hP hl
/-- a call that changes nothing -/
theorem ro_i {val : Int32} {a : Array Value} (hr : va_Run p l e R s m args below meth c H locs cells slots 0 0 (F0 m pc ls st) rest (vp_Si (fun r => r = val) a) (fun _ => False))
    (kk : W p l e R s m args below meth c H locs cells slots Q (F0 m (pc + 3) ls (.int val :: rest))) : W p l e R s m args below meth c H locs cells slots Q (F0 m pc ls st) := by
  intro T hT X
  obtain ⟨v, st₀, t, T', L, h0, X', hL, e1, -, ⟨r, hv, hp, hh⟩, sg⟩ := hr T hT X
  cases hv
  subst hp
  obtain ⟨t2, a1, b1⟩ := kk T' (by rw [e1, hh, h0]) (Stand.forget X' (fun q h => (hL q h).elim))
  exact ⟨t2, sg t2 a1, b1⟩
theorem ro_ret {v val : Int32} (C0 : Am p s m args meth c cc (some .int) nL own D ty) (hv : v = val) (hdg : decode cc pc = .ok (.ireturn, 1)) : RoW p l e R s m args below meth c val (F0 m pc ls [.int v]) := by
  obtain ⟨hx, hb, hr, hml, hown, hts, hlk, hK⟩ := C0
  exact W.iret (v := v) hx hb hr (fun t ht _ => ⟨v, rfl, hv, ht⟩) (fun _ h => nomatch h) hdg hlk
/-- an int that is a boolean's answer: its last bit -/
theorem zret_ {Qc : Array Value → State → Outcome → State → Prop} {free : Addr → Prop} {v w : Int32} (hexec : p.tables.exec = Jvm.exec) (hb : c.code = cc) (hr : meth.sig.returnType = some .boolean) (hw : v &&& 1 = w)
    (hq : ∀ t : State, t.heap = H → s.WarmedH t.vm → Qc args s (.returned (some (.int w))) t) (hf : ∀ q ∈ locs, free q.base)
    {ls : Array Slot} (hdg : decode cc pc = .ok (.ireturn, 1)) (hlocks : meth.locks = false) : W p l e R s m args below meth c H locs cells slots (MQ below Qc args s cells slots free) (F0 m pc ls [.int v]) := by
  intro T hT X
  obtain ⟨fs, hret, hrun, hended, hW, hframe⟩ := X.leave (v := some (.int w)) (fun h => by rw [hr] at h; cases h)
  have hmeth' : T.vm.method? m = some meth := X.method'
  have hn : narrow .boolean (.int v) = .int w := by rw [← hw]; rfl
  refine ⟨T.setFrames fs, ?_, .returned (some (.int w)), hrun, hended, hq _ hT hW, locs, ⟨⟨_, rfl⟩, hW, hframe⟩, hf⟩
  jvm_step X.here [X.here.top, hexec, hb, hdg, hmeth', hr, hn]
  (try refine ⟨rfl, ?_⟩); (try refine ⟨rfl, ?_⟩)
  first | (intro acts; rw [hret _ acts rfl rfl rfl]) | rw [hret _ _ rfl rfl rfl]
  exact Steps.refl _
theorem ro_retz {v w val : Int32} (C0 : Am p s m args meth c cc (some .boolean) nL own D ty) (hw : v &&& 1 = w) (hv : w = val) (hdg : decode cc pc = .ok (.ireturn, 1)) : RoW p l e R s m args below meth c val (F0 m pc ls [.int v]) := by
  obtain ⟨hx, hb, hr, hml, hown, hts, hlk, hK⟩ := C0
  exact zret_ (v := v) hx hb hr hw (fun t ht _ => ⟨w, rfl, hv, ht⟩) (fun _ h => nomatch h) hdg hlk
/-- invokevirtual of a method that reads alone -/
theorem ro_V {y : MethodName} {ccy : ByteArray} {nLy : Nat} {ret : Option FieldType} {fr lc idx n ci : Nat} {As : List Value} {b : Addr} {w : va_W} {val : Int32} {q : vw_C} {fs : List Value}
    (C0 : Am p s m args meth c cc ret0 nL own D ty) (hM : RoM l y ccy nLy ret fr lc D ty (.ref b :: As) w val) (hlk : Cond.methodLink own idx y ∈ tb) (wd : wdV y ccy nLy ret) (hy : plainY y n)
    (hR : fr + 1 ≤ R.frames ∧ 8 + (nLy + 11) + lc ≤ R.locals) (hP : va_P D vwCl w H) (hc : vwCl[ci]? = some q) (hq : q.1 = y.cls) (he : w[0]? = some (b, .inr (ci, fs))) (hl : lv_has ls nL lv) (hn : As.length = n) (hst : st = As.reverse ++ .ref b :: rest)
    (hr : (rest.map fun v => v.category).sum ≤ 8) (hcs : cells ≤ R.cells ∧ slots ≤ R.slots) (hdg : decode cc pc = .ok (.invokevirtual idx, 3))
    (kk : W p l e R s m args below meth c H locs cells slots Q (F0 m (pc + 3) ls (.int val :: rest))) : W p l e R s m args below meth c H locs cells slots Q (F0 m pc ls st) := by
  obtain ⟨hx, hb, hr0, hml, hown, hts, hlk0, hK⟩ := C0
  obtain ⟨w1, w2, w3, w4⟩ := wd
  have cw : CallW R s args own y.cls idx y ccy nLy ret (Cond.code y ccy nLy ret :: tb) (rmK fr lc 0 0) 0 0 n :=
    ⟨callB_of n hts (gdIn w1) rfl rfl rfl (hts _ w4) (hts _ hlk) hy hR, hts _ w2, hts _ w3⟩
  exact ro_i (va_runV (As := As) (rest := rest) (C := y.cls) ⟨hx, hb, hml, hown, hts⟩ hM cw ⟨fun a U g mk h => ⟨h.1, h.2.1, KN.calling g mk a h.2.2⟩, by rw [← hq]; exact va_recv hK.1 hP hc he, fun U hU hW => ⟨rfl, by rw [hU]; exact hP, KN.warm hW hK⟩⟩ rfl hn hl.1 hst (lv_room hr) hdg hcs) kk
theorem ro_S {y : MethodName} {ccy : ByteArray} {nLy : Nat} {ret : Option FieldType} {fr lc idx n : Nat} {As : List Value} {w : va_W} {val : Int32}
    (C0 : Am p s m args meth c cc ret0 nL own D ty) (hM : RoM l y ccy nLy ret fr lc D ty As w val) (hlk : Cond.methodLink own idx y ∈ tb) (wd : wdS y ccy nLy ret) (hy : plainY y n)
    (hR : fr + 1 ≤ R.frames ∧ 8 + (nLy + 11) + lc ≤ R.locals) (hP : va_P D vwCl w H) (hl : lv_has ls nL lv) (hn : As.length = n) (hst : st = As.reverse ++ rest)
    (hr : (rest.map fun v => v.category).sum ≤ 8) (hcs : cells ≤ R.cells ∧ slots ≤ R.slots) (hdg : decode cc pc = .ok (.invokestatic idx, 3))
    (kk : W p l e R s m args below meth c H locs cells slots Q (F0 m (pc + 3) ls (.int val :: rest))) : W p l e R s m args below meth c H locs cells slots Q (F0 m pc ls st) := by
  obtain ⟨hx, hb, hr0, hml, hown, hts, hlk0, hK⟩ := C0
  obtain ⟨w1, w2, w3⟩ := wd
  have cw : CallB R s args own idx y ccy nLy ret (Cond.code y ccy nLy ret :: tb) (rmK fr lc 0 0) 0 0 n ∧ (Cond.static y).before args s = true :=
    ⟨callB_of n hts (gdIn w1) rfl rfl rfl (hts _ w3) (hts _ hlk) hy hR, hts _ w2⟩
  exact ro_i (va_runS (As := As) (rest := rest) ⟨hx, hb, hml, hown, hts⟩ hM cw ⟨fun a U g mk h => ⟨h.1, h.2.1, KN.calling g mk a h.2.2⟩, fun U hU hW => ⟨rfl, by rw [hU]; exact hP, KN.warm hW hK⟩⟩ rfl hn hl.1 hst (lv_room hr) hdg hcs) kk
/-- a private static method of a nest mate -/
theorem ro_SN {y : MethodName} {ccy : ByteArray} {nLy : Nat} {ret : Option FieldType} {fr lc idx n : Nat} {host : String} {As : List Value} {w : va_W} {val : Int32}
    (C0 : Am p s m args meth c cc ret0 nL own D ty) (hM : RoM l y ccy nLy ret fr lc D ty As w val) (hlk : Cond.methodLinkNest own idx y host ∈ nwL) (wd : wdS y ccy nLy ret) (hy : plainY y n)
    (hR : fr + 1 ≤ R.frames ∧ 8 + (nLy + 11) + lc ≤ R.locals) (hP : va_P D vwCl w H) (hl : lv_has ls nL lv) (hn : As.length = n) (hst : st = As.reverse ++ rest)
    (hr : (rest.map fun v => v.category).sum ≤ 8) (hcs : cells ≤ R.cells ∧ slots ≤ R.slots) (hdg : decode cc pc = .ok (.invokestatic idx, 3))
    (kk : W p l e R s m args below meth c H locs cells slots Q (F0 m (pc + 3) ls (.int val :: rest))) : W p l e R s m args below meth c H locs cells slots Q (F0 m pc ls st) := by
  obtain ⟨hx, hb, hr0, hml, hown, hts, hlk0, hK⟩ := C0
  obtain ⟨w1, w2, w3⟩ := wd
  have cw := va_cnB (R := R) (args := args) (rm := rmK fr lc 0 0) (mc := 0) (ms := 0) n hts (gdIn w1) rfl rfl rfl (hK.2.1 _ hlk) (hts _ w3) hy hR
  exact ro_i (va_runSN (As := As) (rest := rest) ⟨hx, hb, hml, hown, hts⟩ hM ⟨cw, hts _ w2, trivial⟩ ⟨fun a U g mk h => ⟨h.1, h.2.1, KN.calling g mk a h.2.2⟩, fun U hU hW => ⟨rfl, by rw [hU]; exact hP, KN.warm hW hK⟩⟩ rfl hn hl.1 hst (lv_room hr) hdg hcs) kk
end RO
end
section
/-! Own rows: methods that write. -/
theorem va_P.pick {D : va_G} {cl : List vw_C} {ws w1 : va_W} {H : Heap} (h : va_P D cl ws H) (is : List Nat) (hs : is.map (fun i => ws[i]?) = w1.map some) : va_P D cl w1 H := by
  intro k q hk
  have h1 : (is.map (fun i => ws[i]?))[k]? = some (some q) := by rw [hs, List.getElem?_map, hk]; rfl
  rw [List.getElem?_map] at h1
  cases hi : is[k]? with
  | none => rw [hi] at h1; cases h1
  | some i => rw [hi] at h1; exact h i q (Option.some.inj h1)
section RW
variable {p : Program} {l : Launch} {e : Env} {R : Room} {s : State} {m : MethodId} {args : Array Value} {below : List Frame} {meth : Method} {c : Code} {H : Heap} {locs : List Loc} {cells slots : Nat} {Q : State → Prop}
variable {cc : ByteArray} {pc : Nat} {ls : Array Slot} {rest st : List Value} {D : va_G} {ty : List (ClassId × FieldType)} {ret0 : Option FieldType} {nL : Nat} {own : String} {lv : List (Nat × Value)} {A : Nat → Prop} {ws : va_W} {b : Addr}
abbrev atW {S : Type} (D : va_G) (A : Nat → Prop) (w : Nat → S → va_W) (u : S) (t : State) : Prop := ∃ q, va_P D vwCl (w q u) t.heap ∧ va_D A (w q u)
abbrev RwP {S : Type} (D : va_G) (ty : List (ClassId × FieldType)) (av : List Value) (w : Nat → S → va_W) (q : Nat) (σ : S) (sz : Nat) : Array Value → State → Prop :=
  va_Pc av (fun U => U.heap.size = sz ∧ va_P D vwCl (w q σ) U.heap ∧ KN D ty U ∧ va_D (fun _ => True) (w q σ))
/-- a method that writes: its answer and the state behind it are res -/
abbrev RwM {S : Type} (l : Launch) (y : MethodName) (cc : ByteArray) (nL : Nat) (ret : Option FieldType) (fr lc : Nat) (D : va_G) (ty : List (ClassId × FieldType)) (av : List Value) (w : Nat → S → va_W) (q : Nat) (σ : S) (res : Int32 × S) : Prop :=
  ∀ sz, Met l y (Cond.code y cc nL ret :: tb) (rmK fr lc 0 0) (RwP D ty av w q σ sz) (va_Qi (fun r u => (r, u) = res) (atW D (va_A (w q σ) sz) w) (va_A (w q σ) sz)) 0 0 (va_A (w q σ) sz)
abbrev RwMv {S : Type} (l : Launch) (y : MethodName) (cc : ByteArray) (nL : Nat) (fr lc : Nat) (D : va_G) (ty : List (ClassId × FieldType)) (av : List Value) (w : Nat → S → va_W) (q : Nat) (σ : S) (res : Int32 × S) : Prop :=
  ∀ sz, Met l y (Cond.code y cc nL none :: tb) (rmK fr lc 0 0) (RwP D ty av w q σ sz) (va_Qv (fun u => (0, u) = res) (atW D (va_A (w q σ) sz) w) (va_A (w q σ) sz)) 0 0 (va_A (w q σ) sz)
abbrev RwQ {S : Type} (below : List Frame) (args : Array Value) (s : State) (D : va_G) (A : Nat → Prop) (w : Nat → S → va_W) (res : Int32 × S) (K N : Nat) : State → Prop := MQ below (va_Qi (fun r u => (r, u) = res) (atW D A w) A) args s K N A
abbrev RwQv {S : Type} (below : List Frame) (args : Array Value) (s : State) (D : va_G) (A : Nat → Prop) (w : Nat → S → va_W) (res : Int32 × S) (K N : Nat) : State → Prop := MQ below (va_Qv (fun u => (0, u) = res) (atW D A w) A) args s K N A
theorem rw_of {S : Type} {y : MethodName} {ret : Option FieldType} {fr lc : Nat} {av : List Value} {w : Nat → S → va_W} {q : Nat} {σ : S} {res : Int32 × S} (hy : plainName y.cls = true) (hlen : (lg_sl av).length ≤ nL)
    (body : ∀ (p : Program) (e : Env) (s : State) (m : MethodId) (args : Array Value) (below : List Frame) (meth : Method) (c : Code) (ls : Array Slot) (A : Nat → Prop), Am p s m args meth c cc ret nL y.cls D ty → (∀ q, s.heap.size ≤ q → A q) → va_P D vwCl (w q σ) s.heap → va_D A (w q σ) → va_S A s.heap s.heap [] → lv_has ls nL (lv_args 0 av) → W p l e (rmK fr lc 0 0) s m args below meth c s.heap [] 0 0 (RwQ below args s D A w res 0 0) (F0 m 0 ls [])) : RwM l y cc nL ret fr lc D ty av w q σ res := by
  intro sz
  refine Met.ofW (cc := cc) (maxL := nL) (ret := ret) hy rfl ?_
  intro p e s m args below meth c s₁ B hml hv
  obtain ⟨rfl, hsz, hP, hK, hD0⟩ := hv
  subst hsz
  have hts := atoms_spec (ws := Cond.code y cc nL ret :: tb) B.pre
  have hl := lv_entry av (n := nL) hlen
  rw [lg_entry_eq]
  exact body p e s m av.toArray below meth c _ _ ⟨B.exec, B.bytes, B.returns, hml, findClass_of_methodNamed B.named, fun w h => hts w (List.mem_cons_of_mem _ h), B.notSynchronized, hK⟩ (fun q h => Or.inr h) hP (hD0.self (sz := s.heap.size)) va_S.rf hl
theorem rw_ofv {S : Type} {y : MethodName} {fr lc : Nat} {av : List Value} {w : Nat → S → va_W} {q : Nat} {σ : S} {res : Int32 × S} (hy : plainName y.cls = true) (hlen : (lg_sl av).length ≤ nL)
    (body : ∀ (p : Program) (e : Env) (s : State) (m : MethodId) (args : Array Value) (below : List Frame) (meth : Method) (c : Code) (ls : Array Slot) (A : Nat → Prop), Am p s m args meth c cc none nL y.cls D ty → (∀ q, s.heap.size ≤ q → A q) → va_P D vwCl (w q σ) s.heap → va_D A (w q σ) → va_S A s.heap s.heap [] → lv_has ls nL (lv_args 0 av) → W p l e (rmK fr lc 0 0) s m args below meth c s.heap [] 0 0 (RwQv below args s D A w res 0 0) (F0 m 0 ls [])) : RwMv l y cc nL fr lc D ty av w q σ res := by
  intro sz
  refine Met.ofW (cc := cc) (maxL := nL) (ret := none) hy rfl ?_
  intro p e s m args below meth c s₁ B hml hv
  obtain ⟨rfl, hsz, hP, hK, hD0⟩ := hv
  subst hsz
  have hts := atoms_spec (ws := Cond.code y cc nL none :: tb) B.pre
  have hl := lv_entry av (n := nL) hlen
  rw [lg_entry_eq]
  exact body p e s m av.toArray below meth c _ _ ⟨B.exec, B.bytes, B.returns, hml, findClass_of_methodNamed B.named, fun w h => hts w (List.mem_cons_of_mem _ h), B.notSynchronized, hK⟩ (fun q h => Or.inr h) hP (hD0.self (sz := s.heap.size)) va_S.rf hl
theorem rw_ret {S : Type} {w : Nat → S → va_W} {q : Nat} {σ : S} {res : Int32 × S} {v : Int32} (C0 : Am p s m args meth c cc (some .int) nL own D ty) (hP : va_P D vwCl (w q σ) H) (hD : va_D A (w q σ)) (hS : va_S A s.heap H locs) (hv : (v, σ) = res) (hdg : decode cc pc = .ok (.ireturn, 1)) :
    W p l e R s m args below meth c H locs cells slots (RwQ below args s D A w res cells slots) (F0 m pc ls [.int v]) := by
  obtain ⟨hx, hb, hr, hml, hown, hts, hlk, hK⟩ := C0
  exact W.iret (v := v) hx hb hr (fun t ht _ => ⟨⟨v, σ, rfl, hv, q, by rw [ht]; exact hP, hD⟩, hS.F ht⟩) hS.2.2 hdg hlk
theorem rw_retz {S : Type} {w : Nat → S → va_W} {q : Nat} {σ : S} {res : Int32 × S} {v v' : Int32} (C0 : Am p s m args meth c cc (some .boolean) nL own D ty) (hP : va_P D vwCl (w q σ) H) (hD : va_D A (w q σ)) (hS : va_S A s.heap H locs) (hw : v &&& 1 = v') (hv : (v', σ) = res) (hdg : decode cc pc = .ok (.ireturn, 1)) :
    W p l e R s m args below meth c H locs cells slots (RwQ below args s D A w res cells slots) (F0 m pc ls [.int v]) := by
  obtain ⟨hx, hb, hr, hml, hown, hts, hlk, hK⟩ := C0
  exact zret_ (v := v) hx hb hr hw (fun t ht _ => ⟨⟨v', σ, rfl, hv, q, by rw [ht]; exact hP, hD⟩, hS.F ht⟩) hS.2.2 hdg hlk
theorem rw_retv {S : Type} {w : Nat → S → va_W} {q : Nat} {σ : S} {res : Int32 × S} (C0 : Am p s m args meth c cc none nL own D ty) (hP : va_P D vwCl (w q σ) H) (hD : va_D A (w q σ)) (hS : va_S A s.heap H locs) (hv : (0, σ) = res) (hdg : decode cc pc = .ok (.return_, 1)) :
    W p l e R s m args below meth c H locs cells slots (RwQv below args s D A w res cells slots) (F0 m pc ls []) := by
  obtain ⟨hx, hb, hr, hml, hown, hts, hlk, hK⟩ := C0
  exact W.vret hx hb hr (fun t ht _ => ⟨⟨σ, rfl, hv, q, by rw [ht]; exact hP, hD⟩, hS.F ht⟩) hS.2.2 hdg hlk
theorem rw_put {Wn : va_W} {C : String} {T : u_T} {N ci index : Nat} {a : Nat} {fs : List Value} {fty : FieldType} {v : Value} (C0 : Am p s m args meth c cc ret0 nL own D ty) (hP : va_P D vwCl ws H) (hD : va_D A ws) (hS : va_S A s.heap H locs) (hin : ∀ w ∈ u_ws C T N, w ∈ tb) (ty0 : Nat → FieldType) (hty : ∀ k, k < N → parseFieldDescriptor (T k).2.2.1 = some (ty0 k)) (hnm : ∀ a, a < N → ∀ b, b < N → a ≠ b → (T a).2.1 ≠ (T b).2.1)
    (q0 : Nat) (he : ws[q0]? = some (a, .inr (ci, fs))) (hc : vwCl[ci]? = some (C, T, N)) (k : Nat) (hk : k < N) (hlink : (Cond.fieldLink own index C (T k).2.1 (T k).2.2.1).before args s = true) (hsame : (T k).1 = C) (hfin : (T k).2.2.2 = false) (hd : parseFieldDescriptor (T k).2.2.1 = some fty) (hn : narrow fty v = v) (hfit : fits fty v = true) (hl : k < fs.length)
    (hdg : decode cc pc = .ok (.putfield index, 3)) (hW : ws.set q0 (a, .inr (ci, fs.set k v)) = Wn) (kk : ∀ (H1 : Heap) (locs1 : List Loc), va_P D vwCl Wn H1 → va_D A Wn → va_S A s.heap H1 locs1 → W p l e R s m args below meth c H1 locs1 cells slots Q (F0 m (pc + 3) ls rest)) : W p l e R s m args below meth c H locs cells slots Q (F0 m pc ls (v :: .ref a :: rest)) := by
  obtain ⟨hx, hb, hr, hml, hown, hts, hlk, hK⟩ := C0
  subst hW
  exact va_put hx hb hts hin ty0 hty hnm hown hK.1 hP hD hS q0 he hc k hk hlink (fun _ h => by rw [hsame] at h; exact h) hfin hd hn hfit hl hdg kk
theorem rw_iast {Wn : va_W} {a : Nat} {cA : ClassId} {n : Nat} {f : Nat → Int32} {i x : Int32} (C0 : Am p s m args meth c cc ret0 nL own D ty) (hP : va_P D vwCl ws H) (hD : va_D A ws) (hS : va_S A s.heap H locs) (q0 t0 : Nat) (ha : ws[q0]? = some (a, .inl (cA, n, .inl f))) (ht : ty[t0]? = some (cA, .int)) (hin : vp_in i n) (hdg : decode cc pc = .ok (.iastore, 1))
    (hW : ws.set q0 (a, .inl (cA, n, .inl (upd f i.toNatClampNeg x))) = Wn) (kk : ∀ (H1 : Heap) (locs1 : List Loc), va_P D vwCl Wn H1 → va_D A Wn → va_S A s.heap H1 locs1 → W p l e R s m args below meth c H1 locs1 cells slots Q (F0 m (pc + 1) ls rest)) : W p l e R s m args below meth c H locs cells slots Q (F0 m pc ls (.int x :: .int i :: .ref a :: rest)) := by
  obtain ⟨hx, hb, hr, hml, hown, hts, hlk, hK⟩ := C0
  subst hW
  exact va_iast hx hb hK.1 hP hD hS q0 t0 ha ht hin hdg kk
theorem rw_zast {Wn : va_W} {a : Nat} {cA : ClassId} {n : Nat} {f : Nat → Int32} {i x : Int32} (C0 : Am p s m args meth c cc ret0 nL own D ty) (hP : va_P D vwCl ws H) (hD : va_D A ws) (hS : va_S A s.heap H locs) (q0 t0 : Nat) (ha : ws[q0]? = some (a, .inl (cA, n, .inl f))) (ht : ty[t0]? = some (cA, .boolean)) (hin : vp_in i n) (hdg : decode cc pc = .ok (.bastore, 1))
    (hW : ws.set q0 (a, .inl (cA, n, .inl (upd f i.toNatClampNeg (vp_nar .boolean x)))) = Wn) (kk : ∀ (H1 : Heap) (locs1 : List Loc), va_P D vwCl Wn H1 → va_D A Wn → va_S A s.heap H1 locs1 → W p l e R s m args below meth c H1 locs1 cells slots Q (F0 m (pc + 1) ls rest)) : W p l e R s m args below meth c H locs cells slots Q (F0 m pc ls (.int x :: .int i :: .ref a :: rest)) := by
  obtain ⟨hx, hb, hr, hml, hown, hts, hlk, hK⟩ := C0
  subst hW
  exact va_zast hx hb hK.1 hP hD hS q0 t0 ha ht hin hdg kk
/-- invokevirtual of a method that writes -/
theorem rw_V {S : Type} {w : Nat → S → va_W} {qc : Nat} {σc : S} {res : Int32 × S} {y : MethodName} {ccy : ByteArray} {nLy : Nat} {ret : Option FieldType} {fr lc idx n ci : Nat} {As : List Value} {q : vw_C} {fs : List Value} {Wn : Nat → va_W}
    (C0 : Am p s m args meth c cc ret0 nL own D ty) (hA : ∀ q, s.heap.size ≤ q → A q) (hM : RwM l y ccy nLy ret fr lc D ty (.ref b :: As) w qc σc res) (hlk : Cond.methodLink own idx y ∈ tb) (wd : wdV y ccy nLy ret) (hy : plainY y n)
    (hR : fr + 1 ≤ R.frames ∧ 8 + (nLy + 11) + lc ≤ R.locals) (hP : va_P D vwCl ws H) (hD : va_D A ws) (hS : va_S A s.heap H locs)
    (isC isR pm : List Nat) (hC : isC.map (fun i => ws[i]?) = (w qc σc).map some) (hCd : va_nd isC = true) (hRr : isR.map (fun i => ws[i]?) = (isR.filterMap (fun i => ws[i]?)).map some) (hnd : va_nd isR = true) (hdis : ∀ i ∈ isR, i ∉ isC) (hpm : va_nd pm = true) (hW : ∀ q1, pm.map (fun i => (isR.filterMap (fun i => ws[i]?) ++ w q1 res.2)[i]?) = (Wn q1).map some)
    (hc : vwCl[ci]? = some q) (hq : q.1 = y.cls) (he : (w qc σc)[0]? = some (b, .inr (ci, fs))) (hl : lv_has ls nL lv) (hn : As.length = n) (hst : st = As.reverse ++ .ref b :: rest)
    (hr : (rest.map fun v => v.category).sum ≤ 8) (hcs : cells ≤ R.cells ∧ slots ≤ R.slots) (hdg : decode cc pc = .ok (.invokevirtual idx, 3))
    (kk : ∀ (H1 : Heap) (locs1 : List Loc) (q1 : Nat), va_P D vwCl (Wn q1) H1 → va_D A (Wn q1) → va_S A s.heap H1 locs1 → W p l e R s m args below meth c H1 locs1 cells slots Q (F0 m (pc + 3) ls (.int res.1 :: rest))) : W p l e R s m args below meth c H locs cells slots Q (F0 m pc ls st) := by
  obtain ⟨hx, hb, hr0, hml, hown, hts, hlk0, hK⟩ := C0
  obtain ⟨w1, w2, w3, w4⟩ := wd
  have cw : CallW R s args own y.cls idx y ccy nLy ret (Cond.code y ccy nLy ret :: tb) (rmK fr lc 0 0) 0 0 n :=
    ⟨callB_of n hts (gdIn w1) rfl rfl rfl (hts _ w4) (hts _ hlk) hy hR, hts _ w2, hts _ w3⟩
  have hPc := hP.pick isC hC
  have hDc := hD.sub isC hCd hC
  have hFc := va_free hD hS hA isC hC
  refine va_calli (va_runV (As := As) (rest := rest) (C := y.cls) ⟨hx, hb, hml, hown, hts⟩ (hM H.size) cw ⟨fun a U g mk h => ⟨h.1, h.2.1, h.2.2.1, KN.calling g mk a h.2.2.2.1, h.2.2.2.2⟩, by rw [← hq]; exact va_recv hK.1 hPc hc he, fun U hU hW => ⟨rfl, by rw [hU], by rw [hU]; exact hPc, KN.warm hW hK, hDc.weaken (fun _ _ _ _ => trivial)⟩⟩ rfl hn hl.1 hst (lv_room hr) hdg hcs) hS (fun q _ h => hFc q h) hFc (fun r u t H1 locs1 ht hvm hw hB hz1 hk1 hS1 => ?_)
  obtain ⟨q1, hP1, hD1⟩ := hB
  rw [ht] at hP1
  cases hw
  obtain ⟨hP2, hD2⟩ := va_join hP hD isC isR hC hRr hnd hdis hk1 hFc hP1 hD1
  exact kk H1 locs1 q1 (hP2.pick pm (hW q1)) (hD2.sub pm hpm (hW q1)) hS1
theorem rw_Vv {S : Type} {w : Nat → S → va_W} {qc : Nat} {σc : S} {res : Int32 × S} {y : MethodName} {ccy : ByteArray} {nLy : Nat} {fr lc idx n ci : Nat} {As : List Value} {q : vw_C} {fs : List Value} {Wn : Nat → va_W}
    (C0 : Am p s m args meth c cc ret0 nL own D ty) (hA : ∀ q, s.heap.size ≤ q → A q) (hM : RwMv l y ccy nLy fr lc D ty (.ref b :: As) w qc σc res) (hlk : Cond.methodLink own idx y ∈ tb) (wd : wdV y ccy nLy none) (hy : plainY y n)
    (hR : fr + 1 ≤ R.frames ∧ 8 + (nLy + 11) + lc ≤ R.locals) (hP : va_P D vwCl ws H) (hD : va_D A ws) (hS : va_S A s.heap H locs)
    (isC isR pm : List Nat) (hC : isC.map (fun i => ws[i]?) = (w qc σc).map some) (hCd : va_nd isC = true) (hRr : isR.map (fun i => ws[i]?) = (isR.filterMap (fun i => ws[i]?)).map some) (hnd : va_nd isR = true) (hdis : ∀ i ∈ isR, i ∉ isC) (hpm : va_nd pm = true) (hW : ∀ q1, pm.map (fun i => (isR.filterMap (fun i => ws[i]?) ++ w q1 res.2)[i]?) = (Wn q1).map some)
    (hc : vwCl[ci]? = some q) (hq : q.1 = y.cls) (he : (w qc σc)[0]? = some (b, .inr (ci, fs))) (hl : lv_has ls nL lv) (hn : As.length = n) (hst : st = As.reverse ++ .ref b :: rest)
    (hr : (rest.map fun v => v.category).sum ≤ 8) (hcs : cells ≤ R.cells ∧ slots ≤ R.slots) (hdg : decode cc pc = .ok (.invokevirtual idx, 3))
    (kk : ∀ (H1 : Heap) (locs1 : List Loc) (q1 : Nat), va_P D vwCl (Wn q1) H1 → va_D A (Wn q1) → va_S A s.heap H1 locs1 → W p l e R s m args below meth c H1 locs1 cells slots Q (F0 m (pc + 3) ls rest)) : W p l e R s m args below meth c H locs cells slots Q (F0 m pc ls st) := by
  obtain ⟨hx, hb, hr0, hml, hown, hts, hlk0, hK⟩ := C0
  obtain ⟨w1, w2, w3, w4⟩ := wd
  have cw : CallW R s args own y.cls idx y ccy nLy none (Cond.code y ccy nLy none :: tb) (rmK fr lc 0 0) 0 0 n :=
    ⟨callB_of n hts (gdIn w1) rfl rfl rfl (hts _ w4) (hts _ hlk) hy hR, hts _ w2, hts _ w3⟩
  have hPc := hP.pick isC hC
  have hDc := hD.sub isC hCd hC
  have hFc := va_free hD hS hA isC hC
  refine va_callv (va_runV (As := As) (rest := rest) (C := y.cls) ⟨hx, hb, hml, hown, hts⟩ (hM H.size) cw ⟨fun a U g mk h => ⟨h.1, h.2.1, h.2.2.1, KN.calling g mk a h.2.2.2.1, h.2.2.2.2⟩, by rw [← hq]; exact va_recv hK.1 hPc hc he, fun U hU hW => ⟨rfl, by rw [hU], by rw [hU]; exact hPc, KN.warm hW hK, hDc.weaken (fun _ _ _ _ => trivial)⟩⟩ rfl hn hl.1 hst (lv_room hr) hdg hcs) hS (fun q _ h => hFc q h) hFc (fun u t H1 locs1 ht hvm hw hB hz1 hk1 hS1 => ?_)
  obtain ⟨q1, hP1, hD1⟩ := hB
  rw [ht] at hP1
  cases hw
  obtain ⟨hP2, hD2⟩ := va_join hP hD isC isR hC hRr hnd hdis hk1 hFc hP1 hD1
  exact kk H1 locs1 q1 (hP2.pick pm (hW q1)) (hD2.sub pm hpm (hW q1)) hS1
end RW
end
section
/-! Own rows: methods that throw, or make cells. -/
def exN : Nat → String
  | 1 => "java/lang/IndexOutOfBoundsException"
  | 2 => "java/lang/IllegalStateException"
  | _ => "java/lang/IllegalArgumentException"
abbrev Zs (A : Nat → Prop) (U : State) (H : Heap) : Prop := vx_Zq Bundle.tN "UNASSIGNED_STACK" Bundle.steD A U H ∧ vx_Zq Bundle.tN "SUPPRESSED_SENTINEL" Bundle.listD A U H
theorem Zs.calling {A : Nat → Prop} {U : State} (g : JFrame) (mk : MethodId) (a : Array Value) (h : Zs A U U.heap) : Zs A (U.calling g mk a) (U.calling g mk a).heap :=
  ⟨vx_Zq.moved (u := U) (U := U.calling g mk a) (Vm.Alike.refl U.vm) h.1, vx_Zq.moved (u := U) (U := U.calling g mk a) (Vm.Alike.refl U.vm) h.2⟩
section TX
variable {p : Program} {l : Launch} {e : Env} {R : Room} {s : State} {m : MethodId} {args : Array Value} {below : List Frame} {meth : Method} {c : Code} {H : Heap} {locs : List Loc} {cells slots : Nat} {Q : State → Prop}
variable {cc : ByteArray} {pc : Nat} {ls : Array Slot} {rest st : List Value} {D : va_G} {ty : List (ClassId × FieldType)} {ret0 : Option FieldType} {nL : Nat} {own : String} {lv : List (Nat × Value)} {A : Nat → Prop} {ws : va_W} {b : Addr}
abbrev TxP {S : Type} (D : va_G) (ty : List (ClassId × FieldType)) (av : List Value) (w : Nat → S → va_W) (q : Nat) (σ : S) (sz : Nat) : Array Value → State → Prop :=
  va_Pc av (fun U => U.heap.size = sz ∧ va_P D vwCl (w q σ) U.heap ∧ KN D ty U ∧ va_D (fun _ => True) (w q σ) ∧ Zs (va_A (w q σ) sz) U U.heap)
abbrev TxX {S : Type} (D : va_G) (A : Nat → Prop) (w : Nat → S → va_W) (v : Int32 ⊕ Nat) (u : S) : String → State → State → Prop :=
  vx_X (fun u' => u' = u) (fun E u' t => (∃ k, v = .inr k ∧ E = exN k) ∧ atW D A w u' t) A
/-- a method that may throw and may make cells: res is its end, the state behind it, and how many cells and slots are new -/
abbrev TxM {S : Type} (l : Launch) (y : MethodName) (cc : ByteArray) (nL : Nat) (ret : Option FieldType) (fr lc : Nat) (D : va_G) (ty : List (ClassId × FieldType)) (av : List Value) (w : Nat → S → va_W) (q : Nat) (σ : S) (res : (Int32 ⊕ Nat) × S × Nat × Nat) : Prop :=
  ∀ sz, vx_Met l y (Cond.code y cc nL ret :: tb) (rmK fr lc res.2.2.1 res.2.2.2) (TxP D ty av w q σ sz) (va_Qi (fun r u => res.1 = .inl r ∧ u = res.2.1) (atW D (va_A (w q σ) sz) w) (va_A (w q σ) sz)) (TxX D (va_A (w q σ) sz) w res.1 res.2.1) res.2.2.1 res.2.2.2 (va_A (w q σ) sz)
abbrev TxMv {S : Type} (l : Launch) (y : MethodName) (cc : ByteArray) (nL : Nat) (fr lc : Nat) (D : va_G) (ty : List (ClassId × FieldType)) (av : List Value) (w : Nat → S → va_W) (q : Nat) (σ : S) (res : (Int32 ⊕ Nat) × S × Nat × Nat) : Prop :=
  ∀ sz, vx_Met l y (Cond.code y cc nL none :: tb) (rmK fr lc res.2.2.1 res.2.2.2) (TxP D ty av w q σ sz) (va_Qv (fun u => res.1 = .inl 0 ∧ u = res.2.1) (atW D (va_A (w q σ) sz) w) (va_A (w q σ) sz)) (TxX D (va_A (w q σ) sz) w res.1 res.2.1) res.2.2.1 res.2.2.2 (va_A (w q σ) sz)
abbrev TxQ {S : Type} (below : List Frame) (args : Array Value) (s : State) (D : va_G) (A : Nat → Prop) (w : Nat → S → va_W) (v : Int32 ⊕ Nat) (u : S) (K N : Nat) : State → Prop := vx_MQ below (va_Qi (fun r u' => v = .inl r ∧ u' = u) (atW D A w) A) (TxX D A w v u) args s K N A
abbrev TxQv {S : Type} (below : List Frame) (args : Array Value) (s : State) (D : va_G) (A : Nat → Prop) (w : Nat → S → va_W) (v : Int32 ⊕ Nat) (u : S) (K N : Nat) : State → Prop := vx_MQ below (va_Qv (fun u' => v = .inl 0 ∧ u' = u) (atW D A w) A) (TxX D A w v u) args s K N A
theorem tx_of {S : Type} {y : MethodName} {ret : Option FieldType} {fr lc : Nat} {av : List Value} {w : Nat → S → va_W} {q : Nat} {σ : S} {res : (Int32 ⊕ Nat) × S × Nat × Nat} (hy : plainName y.cls = true) (hlen : (lg_sl av).length ≤ nL)
    (body : ∀ (p : Program) (e : Env) (s : State) (m : MethodId) (args : Array Value) (below : List Frame) (meth : Method) (c : Code) (ls : Array Slot) (A : Nat → Prop), Am p s m args meth c cc ret nL y.cls D ty → (∀ q, s.heap.size ≤ q → A q) → (∀ x ∈ c.exceptionTable.toList, False) → Zs A s s.heap → va_P D vwCl (w q σ) s.heap → va_D A (w q σ) → va_S A s.heap s.heap [] → lv_has ls nL (lv_args 0 av) → W p l e (rmK fr lc res.2.2.1 res.2.2.2) s m args below meth c s.heap [] 0 0 (TxQ below args s D A w res.1 res.2.1 res.2.2.1 res.2.2.2) (F0 m 0 ls [])) : TxM l y cc nL ret fr lc D ty av w q σ res := by
  intro sz
  refine vx_ofW (cc := cc) (maxL := nL) (ret := ret) hy rfl ?_
  intro p e s m args below meth c s₁ B hml hT hv
  obtain ⟨rfl, hsz, hP, hK, hD0, hZ⟩ := hv
  subst hsz
  have hts := atoms_spec (ws := Cond.code y cc nL ret :: tb) B.pre
  have hl := lv_entry av (n := nL) hlen
  rw [lg_entry_eq]
  exact body p e s m av.toArray below meth c _ _ ⟨B.exec, B.bytes, B.returns, hml, findClass_of_methodNamed B.named, fun w h => hts w (List.mem_cons_of_mem _ h), B.notSynchronized, hK⟩ (fun q h => Or.inr h) hT hZ hP (hD0.self (sz := s.heap.size)) va_S.rf hl
theorem tx_ofv {S : Type} {y : MethodName} {fr lc : Nat} {av : List Value} {w : Nat → S → va_W} {q : Nat} {σ : S} {res : (Int32 ⊕ Nat) × S × Nat × Nat} (hy : plainName y.cls = true) (hlen : (lg_sl av).length ≤ nL)
    (body : ∀ (p : Program) (e : Env) (s : State) (m : MethodId) (args : Array Value) (below : List Frame) (meth : Method) (c : Code) (ls : Array Slot) (A : Nat → Prop), Am p s m args meth c cc none nL y.cls D ty → (∀ q, s.heap.size ≤ q → A q) → (∀ x ∈ c.exceptionTable.toList, False) → Zs A s s.heap → va_P D vwCl (w q σ) s.heap → va_D A (w q σ) → va_S A s.heap s.heap [] → lv_has ls nL (lv_args 0 av) → W p l e (rmK fr lc res.2.2.1 res.2.2.2) s m args below meth c s.heap [] 0 0 (TxQv below args s D A w res.1 res.2.1 res.2.2.1 res.2.2.2) (F0 m 0 ls [])) : TxMv l y cc nL fr lc D ty av w q σ res := by
  intro sz
  refine vx_ofW (cc := cc) (maxL := nL) (ret := none) hy rfl ?_
  intro p e s m args below meth c s₁ B hml hT hv
  obtain ⟨rfl, hsz, hP, hK, hD0, hZ⟩ := hv
  subst hsz
  have hts := atoms_spec (ws := Cond.code y cc nL none :: tb) B.pre
  have hl := lv_entry av (n := nL) hlen
  rw [lg_entry_eq]
  exact body p e s m av.toArray below meth c _ _ ⟨B.exec, B.bytes, B.returns, hml, findClass_of_methodNamed B.named, fun w h => hts w (List.mem_cons_of_mem _ h), B.notSynchronized, hK⟩ (fun q h => Or.inr h) hT hZ hP (hD0.self (sz := s.heap.size)) va_S.rf hl
theorem tx_ret {S : Type} {w : Nat → S → va_W} {q : Nat} {σ : S} {v : Int32} {K N : Nat} (C0 : Am p s m args meth c cc (some .int) nL own D ty) (hP : va_P D vwCl (w q σ) H) (hD : va_D A (w q σ)) (hS : va_S A s.heap H locs) (hc : cells ≤ K) (hs : slots ≤ N) (hdg : decode cc pc = .ok (.ireturn, 1)) :
    W p l e R s m args below meth c H locs cells slots (TxQ below args s D A w (.inl v) σ K N) (F0 m pc ls [.int v]) := by
  obtain ⟨hx, hb, hr, hml, hown, hts, hlk, hK⟩ := C0
  exact W.widen hc hs (vx_ret (W.iret (v := v) hx hb hr (fun t ht _ => ⟨⟨v, σ, rfl, ⟨rfl, rfl⟩, q, by rw [ht]; exact hP, hD⟩, hS.F ht⟩) hS.2.2 hdg hlk))
theorem tx_retz {S : Type} {w : Nat → S → va_W} {q : Nat} {σ : S} {v v' : Int32} {K N : Nat} (C0 : Am p s m args meth c cc (some .boolean) nL own D ty) (hP : va_P D vwCl (w q σ) H) (hD : va_D A (w q σ)) (hS : va_S A s.heap H locs) (hw : v &&& 1 = v') (hc : cells ≤ K) (hs : slots ≤ N) (hdg : decode cc pc = .ok (.ireturn, 1)) :
    W p l e R s m args below meth c H locs cells slots (TxQ below args s D A w (.inl v') σ K N) (F0 m pc ls [.int v]) := by
  obtain ⟨hx, hb, hr, hml, hown, hts, hlk, hK⟩ := C0
  exact W.widen hc hs (vx_ret (zret_ (v := v) hx hb hr hw (fun t ht _ => ⟨⟨v', σ, rfl, ⟨rfl, rfl⟩, q, by rw [ht]; exact hP, hD⟩, hS.F ht⟩) hS.2.2 hdg hlk))
theorem tx_retv {S : Type} {w : Nat → S → va_W} {q : Nat} {σ : S} {K N : Nat} (C0 : Am p s m args meth c cc none nL own D ty) (hP : va_P D vwCl (w q σ) H) (hD : va_D A (w q σ)) (hS : va_S A s.heap H locs) (hc : cells ≤ K) (hs : slots ≤ N) (hdg : decode cc pc = .ok (.return_, 1)) :
    W p l e R s m args below meth c H locs cells slots (TxQv below args s D A w (.inl 0) σ K N) (F0 m pc ls []) := by
  obtain ⟨hx, hb, hr, hml, hown, hts, hlk, hK⟩ := C0
  exact W.widen hc hs (vx_ret (W.vret hx hb hr (fun t ht _ => ⟨⟨σ, rfl, ⟨rfl, rfl⟩, q, by rw [ht]; exact hP, hD⟩, hS.F ht⟩) hS.2.2 hdg hlk))
theorem tx_out {S : Type} {w : Nat → S → va_W} {q : Nat} {σ : S} {k K N : Nat} {ce : Cell} {q9 : Addr} {Qc : Array Value → State → Outcome → State → Prop} (C0 : Am p s m args meth c cc ret0 nL own D ty) (hT : ∀ x ∈ c.exceptionTable.toList, False) (hP : va_P D vwCl (w q σ) H) (hD : va_D A (w q σ)) (hS : va_S A s.heap H locs) (h1 : H[q9]? = some ce) (h2 : ce.vm = .none) (h3 : s.vm.findClass (exN k) = some ce.cls) (hc : cells ≤ K) (hs : slots ≤ N) :
    vx_W p l e R s m args below meth c H locs cells slots (vx_MQ below Qc (TxX D A w (.inr k) σ) args s K N A) (F0 m pc ls rest) q9 :=
  vx_out (fun x hx => (hT x hx).elim) C0.2.2.2.2.2.2.1 h1 h2 h3 (fun t ht _ => ⟨σ, rfl, ⟨⟨k, rfl, rfl⟩, q, by rw [ht]; exact hP, hD⟩, hS.F ht⟩) hS.2.2 hc hs
/-- invokevirtual of a method that may throw -/
theorem tx_V {S : Type} {w : Nat → S → va_W} {qc : Nat} {σc : S} {res : (Int32 ⊕ Nat) × S × Nat × Nat} {y : MethodName} {ccy : ByteArray} {nLy : Nat} {ret : Option FieldType} {fr lc idx n ci : Nat} {As : List Value} {q : vw_C} {fs : List Value} {Wn : Nat → va_W}
    (C0 : Am p s m args meth c cc ret0 nL own D ty) (hA : ∀ q, s.heap.size ≤ q → A q) (hZ : Zs A s s.heap) (hM : TxM l y ccy nLy ret fr lc D ty (.ref b :: As) w qc σc res) (hlk : Cond.methodLink own idx y ∈ tb) (wd : wdV y ccy nLy ret) (hy : plainY y n)
    (hR : fr + 1 ≤ R.frames ∧ 8 + (nLy + 11) + lc ≤ R.locals) (hP : va_P D vwCl ws H) (hD : va_D A ws) (hS : va_S A s.heap H locs)
    (isC isR pm : List Nat) (hC : isC.map (fun i => ws[i]?) = (w qc σc).map some) (hCd : va_nd isC = true) (hRr : isR.map (fun i => ws[i]?) = (isR.filterMap (fun i => ws[i]?)).map some) (hnd : va_nd isR = true) (hdis : ∀ i ∈ isR, i ∉ isC) (hpm : va_nd pm = true) (hW : ∀ q1, pm.map (fun i => (isR.filterMap (fun i => ws[i]?) ++ w q1 res.2.1)[i]?) = (Wn q1).map some)
    (hc : vwCl[ci]? = some q) (hq : q.1 = y.cls) (he : (w qc σc)[0]? = some (b, .inr (ci, fs))) (hl : lv_has ls nL lv) (hn : As.length = n) (hst : st = As.reverse ++ .ref b :: rest)
    (hr : (rest.map fun v => v.category).sum ≤ 8) (hcs : cells + res.2.2.1 ≤ R.cells ∧ slots + res.2.2.2 ≤ R.slots) (hdg : decode cc pc = .ok (.invokevirtual idx, 3))
    (kx : ∀ (k : Nat) (H1 : Heap) (locs1 : List Loc) (q1 : Nat) (q9 : Addr) (ce : Cell), res.1 = .inr k → va_P D vwCl (Wn q1) H1 → va_D A (Wn q1) → va_S A s.heap H1 locs1 → H1[q9]? = some ce → ce.vm = .none → s.vm.findClass (exN k) = some ce.cls → vx_W p l e R s m args below meth c H1 locs1 (cells + res.2.2.1) (slots + res.2.2.2) Q (F0 m pc ls rest) q9)
    (kk : ∀ (r : Int32) (H1 : Heap) (locs1 : List Loc) (q1 : Nat), res.1 = .inl r → va_P D vwCl (Wn q1) H1 → va_D A (Wn q1) → va_S A s.heap H1 locs1 → W p l e R s m args below meth c H1 locs1 (cells + res.2.2.1) (slots + res.2.2.2) Q (F0 m (pc + 3) ls (.int r :: rest))) : W p l e R s m args below meth c H locs cells slots Q (F0 m pc ls st) := by
  obtain ⟨hx, hb, hr0, hml, hown, hts, hlk0, hK⟩ := C0
  obtain ⟨w1, w2, w3, w4⟩ := wd
  have cw : CallW R s args own y.cls idx y ccy nLy ret (Cond.code y ccy nLy ret :: tb) (rmK fr lc res.2.2.1 res.2.2.2) res.2.2.1 res.2.2.2 n :=
    ⟨callB_of n hts (gdIn w1) rfl rfl rfl (hts _ w4) (hts _ hlk) hy hR, hts _ w2, hts _ w3⟩
  have hPc := hP.pick isC hC
  have hDc := hD.sub isC hCd hC
  have hFc := va_free hD hS hA isC hC
  have hZ1 : Zs (va_A (w qc σc) H.size) s H := ⟨(hZ.1.kept hS.2.1).narrow hFc, (hZ.2.kept hS.2.1).narrow hFc⟩
  refine vx_calli (vx_runV (As := As) (rest := rest) (C := y.cls) ⟨hx, hb, hml, hown, hts⟩ (hM H.size) cw ⟨fun a U g mk h => ⟨h.1, h.2.1, h.2.2.1, KN.calling g mk a h.2.2.2.1, h.2.2.2.2.1, Zs.calling g mk a h.2.2.2.2.2⟩, by rw [← hq]; exact va_recv hK.1 hPc hc he, fun U hU hW => ⟨rfl, by rw [hU], by rw [hU]; exact hPc, KN.warm hW hK, hDc.weaken (fun _ _ _ _ => trivial), by rw [hU]; exact ⟨hZ1.1.moved hW.alike, hZ1.2.moved hW.alike⟩⟩⟩ rfl hn hl.1 hst (lv_room hr) hdg hcs) hS (fun q _ h => hFc q h) hFc (fun q _ h => hFc q h) (fun E ce q9 u t H1 locs1 ht hvm hw hB hz1 hk1 hS1 g1 g2 g3 => ?_) (fun r u t H1 locs1 ht hvm hw hB hz1 hk1 hS1 => ?_)
  · obtain ⟨⟨k, hk, rfl⟩, q1, hP1, hD1⟩ := hB
    rw [ht] at hP1
    subst hw
    obtain ⟨hP2, hD2⟩ := va_join hP hD isC isR hC hRr hnd hdis hk1 hFc hP1 hD1
    exact kx k H1 locs1 q1 q9 ce hk (hP2.pick pm (hW q1)) (hD2.sub pm hpm (hW q1)) hS1 g1 g2 g3
  · obtain ⟨q1, hP1, hD1⟩ := hB
    rw [ht] at hP1
    obtain ⟨hv, rfl⟩ := hw
    obtain ⟨hP2, hD2⟩ := va_join hP hD isC isR hC hRr hnd hdis hk1 hFc hP1 hD1
    exact kk r H1 locs1 q1 hv (hP2.pick pm (hW q1)) (hD2.sub pm hpm (hW q1)) hS1
theorem tx_Vv {S : Type} {w : Nat → S → va_W} {qc : Nat} {σc : S} {res : (Int32 ⊕ Nat) × S × Nat × Nat} {y : MethodName} {ccy : ByteArray} {nLy : Nat} {fr lc idx n ci : Nat} {As : List Value} {q : vw_C} {fs : List Value} {Wn : Nat → va_W}
    (C0 : Am p s m args meth c cc ret0 nL own D ty) (hA : ∀ q, s.heap.size ≤ q → A q) (hZ : Zs A s s.heap) (hM : TxMv l y ccy nLy fr lc D ty (.ref b :: As) w qc σc res) (hlk : Cond.methodLink own idx y ∈ tb) (wd : wdV y ccy nLy none) (hy : plainY y n)
    (hR : fr + 1 ≤ R.frames ∧ 8 + (nLy + 11) + lc ≤ R.locals) (hP : va_P D vwCl ws H) (hD : va_D A ws) (hS : va_S A s.heap H locs)
    (isC isR pm : List Nat) (hC : isC.map (fun i => ws[i]?) = (w qc σc).map some) (hCd : va_nd isC = true) (hRr : isR.map (fun i => ws[i]?) = (isR.filterMap (fun i => ws[i]?)).map some) (hnd : va_nd isR = true) (hdis : ∀ i ∈ isR, i ∉ isC) (hpm : va_nd pm = true) (hW : ∀ q1, pm.map (fun i => (isR.filterMap (fun i => ws[i]?) ++ w q1 res.2.1)[i]?) = (Wn q1).map some)
    (hc : vwCl[ci]? = some q) (hq : q.1 = y.cls) (he : (w qc σc)[0]? = some (b, .inr (ci, fs))) (hl : lv_has ls nL lv) (hn : As.length = n) (hst : st = As.reverse ++ .ref b :: rest)
    (hr : (rest.map fun v => v.category).sum ≤ 8) (hcs : cells + res.2.2.1 ≤ R.cells ∧ slots + res.2.2.2 ≤ R.slots) (hdg : decode cc pc = .ok (.invokevirtual idx, 3))
    (kx : ∀ (k : Nat) (H1 : Heap) (locs1 : List Loc) (q1 : Nat) (q9 : Addr) (ce : Cell), res.1 = .inr k → va_P D vwCl (Wn q1) H1 → va_D A (Wn q1) → va_S A s.heap H1 locs1 → H1[q9]? = some ce → ce.vm = .none → s.vm.findClass (exN k) = some ce.cls → vx_W p l e R s m args below meth c H1 locs1 (cells + res.2.2.1) (slots + res.2.2.2) Q (F0 m pc ls rest) q9)
    (kk : ∀ (r : Int32) (H1 : Heap) (locs1 : List Loc) (q1 : Nat), res.1 = .inl r → va_P D vwCl (Wn q1) H1 → va_D A (Wn q1) → va_S A s.heap H1 locs1 → W p l e R s m args below meth c H1 locs1 (cells + res.2.2.1) (slots + res.2.2.2) Q (F0 m (pc + 3) ls rest)) : W p l e R s m args below meth c H locs cells slots Q (F0 m pc ls st) := by
  obtain ⟨hx, hb, hr0, hml, hown, hts, hlk0, hK⟩ := C0
  obtain ⟨w1, w2, w3, w4⟩ := wd
  have cw : CallW R s args own y.cls idx y ccy nLy none (Cond.code y ccy nLy none :: tb) (rmK fr lc res.2.2.1 res.2.2.2) res.2.2.1 res.2.2.2 n :=
    ⟨callB_of n hts (gdIn w1) rfl rfl rfl (hts _ w4) (hts _ hlk) hy hR, hts _ w2, hts _ w3⟩
  have hPc := hP.pick isC hC
  have hDc := hD.sub isC hCd hC
  have hFc := va_free hD hS hA isC hC
  have hZ1 : Zs (va_A (w qc σc) H.size) s H := ⟨(hZ.1.kept hS.2.1).narrow hFc, (hZ.2.kept hS.2.1).narrow hFc⟩
  refine vx_callv (vx_runV (As := As) (rest := rest) (C := y.cls) ⟨hx, hb, hml, hown, hts⟩ (hM H.size) cw ⟨fun a U g mk h => ⟨h.1, h.2.1, h.2.2.1, KN.calling g mk a h.2.2.2.1, h.2.2.2.2.1, Zs.calling g mk a h.2.2.2.2.2⟩, by rw [← hq]; exact va_recv hK.1 hPc hc he, fun U hU hW => ⟨rfl, by rw [hU], by rw [hU]; exact hPc, KN.warm hW hK, hDc.weaken (fun _ _ _ _ => trivial), by rw [hU]; exact ⟨hZ1.1.moved hW.alike, hZ1.2.moved hW.alike⟩⟩⟩ rfl hn hl.1 hst (lv_room hr) hdg hcs) hS (fun q _ h => hFc q h) hFc (fun q _ h => hFc q h) (fun E ce q9 u t H1 locs1 ht hvm hw hB hz1 hk1 hS1 g1 g2 g3 => ?_) (fun u t H1 locs1 ht hvm hw hB hz1 hk1 hS1 => ?_)
  · obtain ⟨⟨k, hk, rfl⟩, q1, hP1, hD1⟩ := hB
    rw [ht] at hP1
    subst hw
    obtain ⟨hP2, hD2⟩ := va_join hP hD isC isR hC hRr hnd hdis hk1 hFc hP1 hD1
    exact kx k H1 locs1 q1 q9 ce hk (hP2.pick pm (hW q1)) (hD2.sub pm hpm (hW q1)) hS1 g1 g2 g3
  · obtain ⟨q1, hP1, hD1⟩ := hB
    rw [ht] at hP1
    obtain ⟨hv, rfl⟩ := hw
    obtain ⟨hP2, hD2⟩ := va_join hP hD isC isR hC hRr hnd hdis hk1 hFc hP1 hD1
    exact kk 0 H1 locs1 q1 hv (hP2.pick pm (hW q1)) (hD2.sub pm hpm (hW q1)) hS1
end TX
end
section
/-! Own rows: what constructors need. -/
section CT
variable {p : Program} {l : Launch} {e : Env} {R : Room} {s : State} {m : MethodId} {args : Array Value} {below : List Frame} {meth : Method} {c : Code} {H : Heap} {locs : List Loc} {cells slots : Nat} {Q Q2 : State → Prop}
variable {cc : ByteArray} {pc : Nat} {ls : Array Slot} {rest st : List Value} {D : va_G} {ty : List (ClassId × FieldType)} {ret0 : Option FieldType} {nL : Nat} {own : String} {lv : List (Nat × Value)} {A : Nat → Prop} {ws : va_W} {b : Addr}
theorem W.imp {g : JFrame} (h : ∀ t, Q t → Q2 t) (k : W p l e R s m args below meth c H locs cells slots Q g) : W p l e R s m args below meth c H locs cells slots Q2 g := by
  intro T hT X
  obtain ⟨t, a, b⟩ := k T hT X
  exact ⟨t, a, h t b⟩
/-- a new array of a class that is known -/
theorem mk_int {cA : ClassId} {N : Nat} {n : Int32} (C0 : Am p s m args meth c cc ret0 nL own D ty) (t0 : Nat) (ht : ty[t0]? = some (cA, .int)) (hw : Cond.arrayClass .int ∈ tb) (hP : va_P D vwCl ws H) (hD : va_D A ws) (hS : va_S A s.heap H locs) (hA : ∀ q, s.heap.size ≤ q → A q) (hn : ¬ n < 0) (hN : n.toNatClampNeg = N) (hby : N * componentBytes .int ≤ 536870912) (hc : cells + 1 ≤ R.cells) (hs : slots + N ≤ R.slots) (hdg : decode cc pc = .ok (.newarray .int, 2))
    (kk : ∀ (q : Nat) (H1 : Heap), va_P D vwCl (ws ++ [(q, .inl (cA, N, .inl (fun _ => 0)))]) H1 → va_D A (ws ++ [(q, .inl (cA, N, .inl (fun _ => 0)))]) → va_S A s.heap H1 locs → W p l e R s m args below meth c H1 locs (cells + 1) (slots + N) Q (F0 m (pc + 2) ls (.ref q :: rest))) : W p l e R s m args below meth c H locs cells slots Q (F0 m pc ls (.int n :: rest)) := by
  obtain ⟨hx, hb, hr, hml, hown, hts, hlk, hK⟩ := C0
  refine va_newa (atype := .int) (ty := .int) (a0 := (N, .inl (fun _ => 0))) hx hb (hts _ hw) rfl hK.1 hP hD hS hA (fun cA => rfl) hn hN hby hc hs hdg (fun q cA' H1 hK' hP hD hS => ?_)
  have h1 := (hK.1.2 t0 _ ht).2
  have h2 := (hK'.2 ty.length (cA', .int) (by simp)).2
  have e1 : cA' = cA := Option.some.inj (h2.symm.trans h1)
  subst e1
  exact kk q H1 hP hD hS
theorem mk_bool {cA : ClassId} {N : Nat} {n : Int32} (C0 : Am p s m args meth c cc ret0 nL own D ty) (t0 : Nat) (ht : ty[t0]? = some (cA, .boolean)) (hw : Cond.arrayClass .boolean ∈ tb) (hP : va_P D vwCl ws H) (hD : va_D A ws) (hS : va_S A s.heap H locs) (hA : ∀ q, s.heap.size ≤ q → A q) (hn : ¬ n < 0) (hN : n.toNatClampNeg = N) (hby : N * componentBytes .boolean ≤ 536870912) (hc : cells + 1 ≤ R.cells) (hs : slots + N ≤ R.slots) (hdg : decode cc pc = .ok (.newarray .boolean, 2))
    (kk : ∀ (q : Nat) (H1 : Heap), va_P D vwCl (ws ++ [(q, .inl (cA, N, .inl (fun _ => 0)))]) H1 → va_D A (ws ++ [(q, .inl (cA, N, .inl (fun _ => 0)))]) → va_S A s.heap H1 locs → W p l e R s m args below meth c H1 locs (cells + 1) (slots + N) Q (F0 m (pc + 2) ls (.ref q :: rest))) : W p l e R s m args below meth c H locs cells slots Q (F0 m pc ls (.int n :: rest)) := by
  obtain ⟨hx, hb, hr, hml, hown, hts, hlk, hK⟩ := C0
  refine va_newa (atype := .boolean) (ty := .boolean) (a0 := (N, .inl (fun _ => 0))) hx hb (hts _ hw) rfl hK.1 hP hD hS hA (fun cA => rfl) hn hN hby hc hs hdg (fun q cA' H1 hK' hP hD hS => ?_)
  have h1 := (hK.1.2 t0 _ ht).2
  have h2 := (hK'.2 ty.length (cA', .boolean) (by simp)).2
  have e1 : cA' = cA := Option.some.inj (h2.symm.trans h1)
  subst e1
  exact kk q H1 hP hD hS
theorem rw_putF {Wn : va_W} {C : String} {T : u_T} {N ci index : Nat} {a : Nat} {fs : List Value} {fty : FieldType} {v : Value} (C0 : Am p s m args meth c cc ret0 nL own D ty) (hin2 : meth.name = "<init>") (hP : va_P D vwCl ws H) (hD : va_D A ws) (hS : va_S A s.heap H locs) (hin : ∀ w ∈ u_ws C T N, w ∈ tb) (ty0 : Nat → FieldType) (hty : ∀ k, k < N → parseFieldDescriptor (T k).2.2.1 = some (ty0 k)) (hnm : ∀ a, a < N → ∀ b, b < N → a ≠ b → (T a).2.1 ≠ (T b).2.1)
    (q0 : Nat) (he : ws[q0]? = some (a, .inr (ci, fs))) (hc : vwCl[ci]? = some (C, T, N)) (k : Nat) (hk : k < N) (hlink : (Cond.fieldLink own index C (T k).2.1 (T k).2.2.1).before args s = true) (hsame : (T k).1 = C) (hown2 : C = own) (hfin : (T k).2.2.2 = true) (hd : parseFieldDescriptor (T k).2.2.1 = some fty) (hn : narrow fty v = v) (hfit : fits fty v = true) (hl : k < fs.length)
    (hdg : decode cc pc = .ok (.putfield index, 3)) (hW : ws.set q0 (a, .inr (ci, fs.set k v)) = Wn) (kk : ∀ (H1 : Heap) (locs1 : List Loc), va_P D vwCl Wn H1 → va_D A Wn → va_S A s.heap H1 locs1 → W p l e R s m args below meth c H1 locs1 cells slots Q (F0 m (pc + 3) ls rest)) : W p l e R s m args below meth c H locs cells slots Q (F0 m pc ls (v :: .ref a :: rest)) := by
  obtain ⟨hx, hb, hr, hml, hown, hts, hlk, hK⟩ := C0
  subst hW
  exact va_putF hx hb hts hin ty0 hty hnm hown hK.1 hP hD hS q0 he hc k hk hlink (fun _ h => by rw [hsame] at h; exact h) hfin hin2 (hsame.trans hown2) hd hn hfit hl hdg kk
end CT
end
section
/-! Own rows: System.arraycopy, Arrays.fill, Arrays.copyOf. -/
section JD
variable {p : Program} {l : Launch} {e : Env} {R : Room} {s : State} {m : MethodId} {args : Array Value} {below : List Frame} {meth : Method} {c : Code} {H : Heap} {locs : List Loc} {cells slots : Nat} {Q : State → Prop}
variable {cc : ByteArray} {pc : Nat} {ls : Array Slot} {rest st : List Value} {D : va_G} {ty : List (ClassId × FieldType)} {ret0 : Option FieldType} {nL : Nat} {own : String} {lv : List (Nat × Value)} {A : Nat → Prop} {ws : va_W} {b : Addr}
theorem rw_copy {Wn : va_W} {a0 a1 : Nat} {c0 c1 : ClassId} {n0 n1 index : Nat} {f g : Nat → Int32} {sp dp n : Int32} (C0 : Am p s m args meth c cc ret0 nL own D ty) (hl : lv_has ls nL lv) (hP : va_P D vwCl ws H) (hD : va_D A ws) (hS : va_S A s.heap H locs) (q0 q1 t0 t1 : Nat)
    (ha0 : ws[q0]? = some (a0, .inl (c0, n0, .inl f))) (ha1 : ws[q1]? = some (a1, .inl (c1, n1, .inl g))) (ht0 : ty[t0]? = some (c0, .int)) (ht1 : ty[t1]? = some (c1, .int))
    (hi : ¬ (sp < 0 ∨ dp < 0 ∨ n < 0 ∨ n0 < sp.toNatClampNeg + n.toNatClampNeg ∨ n1 < dp.toNatClampNeg + n.toNatClampNeg))
    (hlink : (Cond.methodLink own index arraycopyName).before args s = true) (hnat : (Cond.native arraycopyName).before args s = true) (hstat : (Cond.static arraycopyName).before args s = true) (hini : (Cond.initialized "java/lang/System").before args s = true)
    (hfr : 1 ≤ R.frames) (hlo : (rest.map fun v => v.category).sum + (nativeFrameWords "java/lang/System" "arraycopy" 5 + 11) ≤ R.locals) (hdg : decode cc pc = .ok (.invokestatic index, 3))
    (hW : ws.set q1 (a1, .inl (c1, n1, .inl (va_cpy f g sp.toNatClampNeg dp.toNatClampNeg n.toNatClampNeg))) = Wn)
    (kk : ∀ (H1 : Heap) (locs1 : List Loc), va_P D vwCl Wn H1 → va_D A Wn → va_S A s.heap H1 locs1 → W p l e R s m args below meth c H1 locs1 cells slots Q (F0 m (pc + 3) ls rest)) : W p l e R s m args below meth c H locs cells slots Q (F0 m pc ls (.int n :: .int dp :: .ref a1 :: .int sp :: .ref a0 :: rest)) := by
  obtain ⟨hx, hb, hr, hml, hown, hts, hlk, hK⟩ := C0
  subst hW
  simp only [not_or] at hi
  obtain ⟨h1, h2, h3, h4, h5⟩ := hi
  exact va_copyi hx hb (hml.trans hl.1.symm) hown hlink hnat hstat hini hK.1 hP hD hS q0 q1 t0 t1 ha0 ha1 ht0 ht1 rfl h1 h2 h3 (Nat.not_lt.mp h4) (Nat.not_lt.mp h5) (fun _ _ => rfl) hfr hlo hdg kk
/-- invokestatic of a method that writes -/
theorem rw_Sv {S : Type} {w : Nat → S → va_W} {qc : Nat} {σc : S} {res : Int32 × S} {y : MethodName} {ccy : ByteArray} {nLy : Nat} {fr lc idx n : Nat} {As : List Value} {Wn : Nat → va_W}
    (C0 : Am p s m args meth c cc ret0 nL own D ty) (hA : ∀ q, s.heap.size ≤ q → A q) (hM : RwMv l y ccy nLy fr lc D ty As w qc σc res) (hlk : Cond.methodLink own idx y ∈ tb) (wd : wdS y ccy nLy none) (hy : plainY y n)
    (hR : fr + 1 ≤ R.frames ∧ 8 + (nLy + 11) + lc ≤ R.locals) (hP : va_P D vwCl ws H) (hD : va_D A ws) (hS : va_S A s.heap H locs)
    (isC isR pm : List Nat) (hC : isC.map (fun i => ws[i]?) = (w qc σc).map some) (hCd : va_nd isC = true) (hRr : isR.map (fun i => ws[i]?) = (isR.filterMap (fun i => ws[i]?)).map some) (hnd : va_nd isR = true) (hdis : ∀ i ∈ isR, i ∉ isC) (hpm : va_nd pm = true) (hW : ∀ q1, pm.map (fun i => (isR.filterMap (fun i => ws[i]?) ++ w q1 res.2)[i]?) = (Wn q1).map some)
    (hl : lv_has ls nL lv) (hn : As.length = n) (hst : st = As.reverse ++ rest)
    (hr : (rest.map fun v => v.category).sum ≤ 8) (hcs : cells ≤ R.cells ∧ slots ≤ R.slots) (hdg : decode cc pc = .ok (.invokestatic idx, 3))
    (kk : ∀ (H1 : Heap) (locs1 : List Loc) (q1 : Nat), va_P D vwCl (Wn q1) H1 → va_D A (Wn q1) → va_S A s.heap H1 locs1 → W p l e R s m args below meth c H1 locs1 cells slots Q (F0 m (pc + 3) ls rest)) : W p l e R s m args below meth c H locs cells slots Q (F0 m pc ls st) := by
  obtain ⟨hx, hb, hr0, hml, hown, hts, hlk0, hK⟩ := C0
  obtain ⟨w1, w2, w3⟩ := wd
  have cw : CallB R s args own idx y ccy nLy none (Cond.code y ccy nLy none :: tb) (rmK fr lc 0 0) 0 0 n ∧ (Cond.static y).before args s = true :=
    ⟨callB_of n hts (gdIn w1) rfl rfl rfl (hts _ w3) (hts _ hlk) hy hR, hts _ w2⟩
  have hPc := hP.pick isC hC
  have hDc := hD.sub isC hCd hC
  have hFc := va_free hD hS hA isC hC
  refine va_callv (va_runS (As := As) (rest := rest) ⟨hx, hb, hml, hown, hts⟩ (hM H.size) cw ⟨fun a U g mk h => ⟨h.1, h.2.1, h.2.2.1, KN.calling g mk a h.2.2.2.1, h.2.2.2.2⟩, fun U hU hW => ⟨rfl, by rw [hU], by rw [hU]; exact hPc, KN.warm hW hK, hDc.weaken (fun _ _ _ _ => trivial)⟩⟩ rfl hn hl.1 hst (lv_room hr) hdg hcs) hS (fun q _ h => hFc q h) hFc (fun u t H1 locs1 ht hvm hw hB hz1 hk1 hS1 => ?_)
  obtain ⟨q1, hP1, hD1⟩ := hB
  rw [ht] at hP1
  cases hw
  obtain ⟨hP2, hD2⟩ := va_join hP hD isC isR hC hRr hnd hdis hk1 hFc hP1 hD1
  exact kk H1 locs1 q1 (hP2.pick pm (hW q1)) (hD2.sub pm hpm (hW q1)) hS1
end JD
abbrev wF (cI : ClassId) (b ln : Nat) (_ : Nat) (f : Nat → Int32) : va_W := [(b, .inl (cI, ln, .inl f))]
theorem fill_up (f : Nat → Int32) (v : Int32) (i : Nat) : upd (J_fill f i v) i v = J_fill f (i + 1) v := by
  funext j
  unfold upd J_fill
  by_cases h : j = i
  · subst h; simp
  · by_cases h2 : j < i
    · simp [h, h2, Nat.lt_succ_of_lt h2]
    · have h3 : ¬ j < i + 1 := by omega
      simp [h, h2, h3]
set_option maxHeartbeats 4000000 in
set_option maxRecDepth 100000 in
theorem t_J_fill_5 {p : Program} {l : Launch} {e : Env} {s : State} {m : MethodId} {args : Array Value} {below : List Frame} {meth : Method} {c : Code} {D : va_G} {cI cZ : ClassId} {A : Nat → Prop} {b ln : Nat} {f : Nat → Int32} {v : Int32} (C0 : Am p s m args meth c b_J_fill none 4 "java/util/Arrays" D [(cI, .int), (cZ, .boolean)]) (hln : ln < 2 ^ 31) :
    ∀ (n i : Nat) (H : Heap) (locs : List Loc) (ls : Array Slot), i + n = ln → va_P D vwCl (wF cI b ln 0 (J_fill f i v)) H → va_D A (wF cI b ln 0 (J_fill f i v)) → va_S A s.heap H locs → lv_has ls 4 [(0, .ref b), (1, .int v), (2, .int (nI i)), (3, .int (nI ln))] →
      W p l e (rmK 0 0 0 0) s m args below meth c H locs 0 0 (RwQv below args s D A (fun q f => wF cI b ln q f) (0, J_fill f ln v) 0 0) (F0 m 5 ls []) := by
  obtain ⟨hx, hb, hr, hml, hown, hts, hlk, hK⟩ := id C0
  intro n
  induction n with
  | zero =>
    intro i H locs ls hi hP hD hS hl
    have e1 : i = ln := by omega
    subst e1
    refine lv_iload_n hx hb d_J_fill_5 rfl (lv_at hl 2 rfl) ?_
    refine lv_iload_n hx hb d_J_fill_6 rfl (lv_at hl 3 rfl) ?_
    refine lv_icmp_ge (tgt := 20) hx hb d_J_fill_7 (by decide) (fun hc => ?_) (fun hc => absurd (nI_le (Nat.le_refl i) hln) hc)
    exact rw_retv (w := fun q f => wF cI b i q f) (q := 0) C0 hP hD hS rfl d_J_fill_20
  | succ n ih =>
    intro i H locs ls hi hP hD hS hl
    refine lv_iload_n hx hb d_J_fill_5 rfl (lv_at hl 2 rfl) ?_
    refine lv_iload_n hx hb d_J_fill_6 rfl (lv_at hl 3 rfl) ?_
    refine lv_icmp_ge (tgt := 20) hx hb d_J_fill_7 (by decide) (fun hc => absurd hc (nI_ge (by omega) hln)) (fun hc => ?_)
    refine lv_aload_n hx hb d_J_fill_10 rfl (lv_at hl 0 rfl) ?_
    refine lv_iload_n hx hb d_J_fill_11 rfl (lv_at hl 2 rfl) ?_
    refine lv_iload_n hx hb d_J_fill_12 rfl (lv_at hl 1 rfl) ?_
    have hin : vp_in (nI i) ln := vp_in_nI (by omega) hln
    refine rw_iast C0 hP hD hS 0 0 rfl rfl hin d_J_fill_13 (Wn := wF cI b ln 0 (J_fill f (i + 1) v)) (by rw [nI_clamp (by omega), fill_up]; rfl) (fun H locs hP hD hS => ?_)
    refine lv_iinc (v := nI (i + 1)) (lv' := [(2, .int (nI (i + 1))), (0, .ref b), (1, .int v), (3, .int (nI ln))]) hx hb d_J_fill_14 hl (k := 2) rfl (nI_1 i) (by decide) rfl (fun ls hl => ?_)
    refine lv_goto (tgt := 5) hx hb d_J_fill_17 (by decide) ?_
    exact ih (i + 1) H locs ls (by omega) hP hD hS (lv_sub hl [1, 2, 0, 3] rfl)
theorem fill_0 (f : Nat → Int32) (v : Int32) : J_fill f 0 v = f := by
  funext j; simp [J_fill]
set_option maxHeartbeats 4000000 in
set_option maxRecDepth 100000 in
/-- Arrays.fill(int[], int) -/
theorem c_J_fill (l : Launch) (D : va_G) (cI cZ : ClassId) (b ln : Nat) (f : Nat → Int32) (v : Int32) (hln : ln < 2 ^ 31) : RwMv l y_J_fill b_J_fill 4 0 0 D [(cI, .int), (cZ, .boolean)] [.ref b, .int v] (fun q f => wF cI b ln q f) 0 f (0, J_fill f ln v) :=
  rw_ofv (by decide) (Nat.le_of_ble_eq_true rfl) (fun p e s m args below meth c ls A C0 hA hP hD hS hl => by
    obtain ⟨hx, hb, hr, hml, hown, hts, hlk, hK⟩ := id C0
    refine lv_iconst (v := 0) hx hb d_J_fill_0 (by decide) ?_
    refine lv_istore_n (lv' := [(2, .int 0), (0, .ref b), (1, .int v)]) hx hb d_J_fill_1 rfl hl (by decide) rfl (fun ls hl => ?_)
    refine lv_aload_n hx hb d_J_fill_2 rfl (lv_at hl 1 rfl) ?_
    refine va_alen hx hb hK.1 hP 0 0 rfl rfl rfl d_J_fill_3 ?_
    refine lv_istore_n (lv' := [(3, .int (nI ln)), (2, .int 0), (0, .ref b), (1, .int v)]) hx hb d_J_fill_4 rfl hl (by decide) rfl (fun ls hl => ?_)
    have hP : va_P D vwCl (wF cI b ln 0 (J_fill f 0 v)) s.heap := by rw [fill_0]; exact hP
    have hD : va_D A (wF cI b ln 0 (J_fill f 0 v)) := by rw [fill_0]; exact hD
    exact t_J_fill_5 C0 hln ln 0 _ _ ls (by omega) hP hD hS (lv_sub hl [2, 3, 1, 0] rfl))
end
section
/-! Own rows: Arrays.copyOf(int[], int) where the length changes. -/
abbrev wN (cI : ClassId) (ln : Nat) (f : Nat → Int32) (n : Int32) (qn : Nat) : va_W := [(qn, .inl (cI, n.toNatClampNeg, .inl (J_copyOf f ln n)))]
theorem cp_min {ln : Nat} {n : Int32} (hln : ln < 2 ^ 31) (hn : ¬ n < 0) : (if n < Int32.ofNat ln then n else Int32.ofNat ln).toNatClampNeg = min ln n.toNatClampNeg := by
  obtain ⟨j, hj, rfl⟩ := nI_of hn
  show (if nI j < nI ln then nI j else nI ln).toNatClampNeg = _
  by_cases h : nI j < nI ln
  · rw [if_pos h, nI_clamp hj]
    have := (nI_ltI hj hln).mp h
    omega
  · rw [if_neg h, nI_clamp hj, nI_clamp hln]
    have : ¬ j < ln := fun z => h ((nI_ltI hj hln).mpr z)
    omega
theorem cp_pos {ln : Nat} {n : Int32} (hln : ln < 2 ^ 31) (hn : ¬ n < 0) : ¬ (if n < Int32.ofNat ln then n else Int32.ofNat ln) < 0 := by
  by_cases h : n < Int32.ofNat ln
  · rw [if_pos h]; exact hn
  · rw [if_neg h]; exact nI_pos hln
set_option maxHeartbeats 4000000 in
set_option maxRecDepth 100000 in
theorem c_J_copyOf (l : Launch) (D : va_G) (cI cZ : ClassId) (b ln : Nat) (f : Nat → Int32) (n : Int32) (hln : ln < 2 ^ 31) (hn : ¬ n < 0) (hne : ¬ n = Int32.ofNat ln) (hby : n.toNatClampNeg * componentBytes .int ≤ 536870912) :
    ∀ sz, Met l y_J_copyOf (Cond.code y_J_copyOf b_J_copyOf 3 (some (.array .int)) :: tb) (rmK 1 60 1 n.toNatClampNeg) (RwP D [(cI, .int), (cZ, .boolean)] [.ref b, .int n] (fun q f => wF cI b ln q f) 0 f sz)
      (va_Qr (fun _ : Unit => True) (fun _ qn t => va_P D vwCl [(b, .inl (cI, ln, .inl f)), (qn, .inl (cI, n.toNatClampNeg, .inl (J_copyOf f ln n)))] t.heap ∧ va_D (va_A (wF cI b ln 0 f) sz) [(b, .inl (cI, ln, .inl f)), (qn, .inl (cI, n.toNatClampNeg, .inl (J_copyOf f ln n)))]) (va_A (wF cI b ln 0 f) sz)) 1 n.toNatClampNeg (va_A (wF cI b ln 0 f) sz) := by
  intro sz
  refine Met.ofW (cc := b_J_copyOf) (maxL := 3) (ret := some (.array .int)) (by decide) rfl ?_
  intro p e s m args below meth c s₁ B hml hv
  obtain ⟨rfl, hsz, hP, hK, hD0⟩ := hv
  subst hsz
  have hts0 := atoms_spec (ws := Cond.code y_J_copyOf b_J_copyOf 3 (some (.array .int)) :: tb) B.pre
  have hl := lv_entry [.ref b, .int n] (n := 3) (Nat.le_of_ble_eq_true rfl)
  rw [lg_entry_eq]
  generalize (lg_sl [.ref b, .int n] ++ List.replicate (3 - (lg_sl [.ref b, .int n]).length) Slot.unset).toArray = ls at hl ⊢
  have hl : lv_has ls 3 [(0, .ref b), (1, .int n)] := hl
  have C0 : Am p s m [.ref b, .int n].toArray meth c b_J_copyOf (some (.array .int)) 3 "java/util/Arrays" D [(cI, .int), (cZ, .boolean)] := ⟨B.exec, B.bytes, B.returns, hml, findClass_of_methodNamed B.named, fun w h => hts0 w (List.mem_cons_of_mem _ h), B.notSynchronized, hK⟩
  obtain ⟨hx, hb, hr, hml, hown, hts, hlk, hK⟩ := id C0
  have hD := hD0.self (sz := s.heap.size)
  have hS : va_S (va_A (wF cI b ln 0 f) s.heap.size) s.heap s.heap [] := va_S.rf
  have hA : ∀ q, s.heap.size ≤ q → va_A (wF cI b ln 0 f) s.heap.size q := fun q h => Or.inr h
  refine lv_iload_n hx hb d_J_copyOf_0 rfl (lv_at hl 1 rfl) ?_
  refine lv_aload_n hx hb d_J_copyOf_1 rfl (lv_at hl 0 rfl) ?_
  refine va_alen hx hb hK.1 hP 0 0 rfl rfl rfl d_J_copyOf_2 ?_
  refine lv_icmp_ne (tgt := 14) hx hb d_J_copyOf_3 (by decide) (fun hc => ?_) (fun hc => absurd hc hne)
  refine lv_iload_n hx hb d_J_copyOf_14 rfl (lv_at hl 1 rfl) ?_
  refine mk_int C0 0 rfl wd_arrI hP hD hS hA hn rfl hby (by show 0 + 1 ≤ 1; omega) (by show 0 + n.toNatClampNeg ≤ n.toNatClampNeg; omega) d_J_copyOf_15 (fun q H hP hD hS => ?_)
  refine lv_astore_n (lv' := [(2, .ref q), (0, .ref b), (1, .int n)]) hx hb d_J_copyOf_17 rfl hl (by decide) rfl (fun ls hl => ?_)
  refine lv_aload_n hx hb d_J_copyOf_18 rfl (lv_at hl 1 rfl) ?_
  refine lv_iconst (v := 0) hx hb d_J_copyOf_19 (by decide) ?_
  refine lv_aload_n hx hb d_J_copyOf_20 rfl (lv_at hl 0 rfl) ?_
  refine lv_iconst (v := 0) hx hb d_J_copyOf_21 (by decide) ?_
  refine lv_aload_n hx hb d_J_copyOf_22 rfl (lv_at hl 1 rfl) ?_
  refine va_alen hx hb hK.1 hP 0 0 rfl rfl rfl d_J_copyOf_23 ?_
  refine lv_iload_n hx hb d_J_copyOf_24 rfl (lv_at hl 2 rfl) ?_
  refine va_mmin hx hb (hml.trans hl.1.symm) hown (hts _ wd_jmin) (hts _ wd_minS) (hts _ wd_minI) (hts _ wd_minC) (Nat.le_of_ble_eq_true rfl) (Nat.le_of_ble_eq_true rfl) (by show 0 + 1 ≤ 1; omega) (by show 0 + n.toNatClampNeg ≤ n.toNatClampNeg; omega) d_J_copyOf_25 ?_
  have hi : ¬ ((0 : Int32) < 0 ∨ (0 : Int32) < 0 ∨ (if n < Int32.ofNat ln then n else Int32.ofNat ln) < 0 ∨ ln < (0 : Int32).toNatClampNeg + (if n < Int32.ofNat ln then n else Int32.ofNat ln).toNatClampNeg ∨ n.toNatClampNeg < (0 : Int32).toNatClampNeg + (if n < Int32.ofNat ln then n else Int32.ofNat ln).toNatClampNeg) := by
    rw [cp_min hln hn]
    have z0 : (0 : Int32).toNatClampNeg = 0 := rfl
    rintro (h | h | h | h | h)
    · exact absurd h (by decide)
    · exact absurd h (by decide)
    · exact cp_pos hln hn h
    · omega
    · omega
  refine rw_copy C0 hl hP hD hS 0 1 0 0 rfl rfl rfl rfl hi (hts _ wd_jcpy) (hts _ wd_cpyN) (hts _ wd_cpyS) (hts _ wd_cpyI) (Nat.le_of_ble_eq_true rfl) (Nat.le_of_ble_eq_true rfl) d_J_copyOf_28 rfl (fun H locs hP hD hS => ?_)
  refine lv_aload_n hx hb d_J_copyOf_31 rfl (lv_at hl 0 rfl) ?_
  rw [cp_min hln hn] at hP hD
  refine W.widen (k := 1) (n := n.toNatClampNeg) (by omega) (by omega) ?_
  exact W.aret hx hb hr (Or.inr ⟨_, rfl⟩) (Or.inr ⟨q, rfl⟩) (fun t ht _ => ⟨⟨(), q, rfl, trivial, by rw [ht]; exact hP, hD⟩, hS.F ht⟩) hS.2.2 d_J_copyOf_32 hlk
section CO
variable {p : Program} {l : Launch} {e : Env} {R : Room} {s : State} {m : MethodId} {args : Array Value} {below : List Frame} {meth : Method} {c : Code} {H : Heap} {locs : List Loc} {cells slots : Nat} {Q : State → Prop}
variable {cc : ByteArray} {pc : Nat} {ls : Array Slot} {rest st : List Value} {D : va_G} {cI cZ : ClassId} {ret0 : Option FieldType} {nL : Nat} {own : String} {lv : List (Nat × Value)} {A : Nat → Prop} {ws : va_W} {b : Addr}
theorem tx_copyOf {ln idx : Nat} {f : Nat → Int32} {n : Int32} (C0 : Am p s m args meth c cc ret0 nL own D [(cI, .int), (cZ, .boolean)]) (hA : ∀ q, s.heap.size ≤ q → A q) (hi : ¬ (n < 0 ∨ n = Int32.ofNat ln ∨ 134217728 < n.toNatClampNeg ∨ 2147483648 ≤ ln)) (hlk : Cond.methodLink own idx y_J_copyOf ∈ tb)
    (hR : 1 + 1 ≤ R.frames ∧ 8 + (3 + 11) + 60 ≤ R.locals) (hP : va_P D vwCl ws H) (hD : va_D A ws) (hS : va_S A s.heap H locs)
    (isC isR pm : List Nat) (hC : isC.map (fun i => ws[i]?) = (wF cI b ln 0 f).map some) (hCd : va_nd isC = true) (hRr : isR.map (fun i => ws[i]?) = (isR.filterMap (fun i => ws[i]?)).map some) (hnd : va_nd isR = true) (hdis : ∀ i ∈ isR, i ∉ isC) (hpm : va_nd pm = true)
    (hW : ∀ qn : Nat, pm.map (fun i => (isR.filterMap (fun i => ws[i]?) ++ (wF cI b ln 0 f ++ wN cI ln f n qn))[i]?) = (ws ++ wN cI ln f n qn).map some)
    (hl : lv_has ls nL lv) (hst : st = .int n :: .ref b :: rest)
    (hr : (rest.map fun v => v.category).sum ≤ 8) (hcs : cells + 1 ≤ R.cells ∧ slots + n.toNatClampNeg ≤ R.slots) (hdg : decode cc pc = .ok (.invokestatic idx, 3))
    (kk : ∀ (H1 : Heap) (locs1 : List Loc) (qn : Nat), va_P D vwCl (ws ++ wN cI ln f n qn) H1 → va_D A (ws ++ wN cI ln f n qn) → va_S A s.heap H1 locs1 → W p l e R s m args below meth c H1 locs1 (cells + 1) (slots + n.toNatClampNeg) Q (F0 m (pc + 3) ls (.ref qn :: rest))) : W p l e R s m args below meth c H locs cells slots Q (F0 m pc ls st) := by
  obtain ⟨hx, hb, hr0, hml, hown, hts, hlk0, hK⟩ := C0
  simp only [not_or] at hi
  obtain ⟨i1, i2, i3, i4⟩ := hi
  have cw : CallB R s args own idx y_J_copyOf b_J_copyOf 3 (some (.array .int)) (Cond.code y_J_copyOf b_J_copyOf 3 (some (.array .int)) :: tb) (rmK 1 60 1 n.toNatClampNeg) 1 n.toNatClampNeg 2 ∧ (Cond.static y_J_copyOf).before args s = true :=
    ⟨callB_of 2 hts (gdIn wd_coC) rfl rfl rfl (hts _ wd_coI) (hts _ hlk) (by decide +kernel) hR, hts _ wd_coS⟩
  have hPc := hP.pick isC hC
  have hDc := hD.sub isC hCd hC
  have hFc := va_free hD hS hA isC hC
  have hby : n.toNatClampNeg * componentBytes .int ≤ 536870912 := by
    show n.toNatClampNeg * 4 ≤ 536870912
    omega
  refine va_callr (va_runS (As := [.ref b, .int n]) (rest := rest) ⟨hx, hb, hml, hown, hts⟩ (c_J_copyOf l D cI cZ b ln f n (by omega) i1 i2 hby H.size) cw ⟨fun a U g mk h => ⟨h.1, h.2.1, h.2.2.1, KN.calling g mk a h.2.2.2.1, h.2.2.2.2⟩, fun U hU hW => ⟨rfl, by rw [hU], by rw [hU]; exact hPc, KN.warm hW hK, hDc.weaken (fun _ _ _ _ => trivial)⟩⟩ rfl rfl hl.1 hst (lv_room hr) hdg hcs) hS (fun q _ h => hFc q h) hFc (fun u qn t H1 locs1 ht hvm hw hB hz1 hk1 hS1 => ?_)
  obtain ⟨hP1, hD1⟩ := hB
  rw [ht] at hP1
  obtain ⟨hP2, hD2⟩ := va_join hP hD isC isR hC hRr hnd hdis hk1 hFc hP1 hD1
  exact kk H1 locs1 qn (hP2.pick pm (hW qn)) (hD2.sub pm hpm (hW qn)) hS1
end CO
end
section
abbrev StC : Type := (Nat → Int32) × (Nat → Int32) × (Nat → Int32) × (Nat → Int32) × (Nat → Int32) × (Nat → Int32) × Int32 × Int32
abbrev C_faces (σ : StC) : (Nat → Int32) := σ.1
abbrev C_generics (σ : StC) : (Nat → Int32) := σ.2.1
abbrev C_above (σ : StC) : (Nat → Int32) := σ.2.2.1
abbrev C_directCounts (σ : StC) : (Nat → Int32) := σ.2.2.2.1
abbrev C_directs (σ : StC) : (Nat → Int32) := σ.2.2.2.2.1
abbrev C_tolds (σ : StC) : (Nat → Int32) := σ.2.2.2.2.2.1
abbrev C_count (σ : StC) : Int32 := σ.2.2.2.2.2.2.1
abbrev C_countGeneric (σ : StC) : Int32 := σ.2.2.2.2.2.2.2
abbrev C_set_faces (σ : StC) (v : (Nat → Int32)) : StC := (v, σ.2.1, σ.2.2.1, σ.2.2.2.1, σ.2.2.2.2.1, σ.2.2.2.2.2.1, σ.2.2.2.2.2.2.1, σ.2.2.2.2.2.2.2)
abbrev C_put_faces (σ : StC) (i v : Int32) : StC := (upd σ.1 i.toNatClampNeg v, σ.2.1, σ.2.2.1, σ.2.2.2.1, σ.2.2.2.2.1, σ.2.2.2.2.2.1, σ.2.2.2.2.2.2.1, σ.2.2.2.2.2.2.2)
abbrev C_set_generics (σ : StC) (v : (Nat → Int32)) : StC := (σ.1, v, σ.2.2.1, σ.2.2.2.1, σ.2.2.2.2.1, σ.2.2.2.2.2.1, σ.2.2.2.2.2.2.1, σ.2.2.2.2.2.2.2)
abbrev C_put_generics (σ : StC) (i v : Int32) : StC := (σ.1, upd σ.2.1 i.toNatClampNeg v, σ.2.2.1, σ.2.2.2.1, σ.2.2.2.2.1, σ.2.2.2.2.2.1, σ.2.2.2.2.2.2.1, σ.2.2.2.2.2.2.2)
abbrev C_set_above (σ : StC) (v : (Nat → Int32)) : StC := (σ.1, σ.2.1, v, σ.2.2.2.1, σ.2.2.2.2.1, σ.2.2.2.2.2.1, σ.2.2.2.2.2.2.1, σ.2.2.2.2.2.2.2)
abbrev C_put_above (σ : StC) (i v : Int32) : StC := (σ.1, σ.2.1, upd σ.2.2.1 i.toNatClampNeg v, σ.2.2.2.1, σ.2.2.2.2.1, σ.2.2.2.2.2.1, σ.2.2.2.2.2.2.1, σ.2.2.2.2.2.2.2)
abbrev C_set_directCounts (σ : StC) (v : (Nat → Int32)) : StC := (σ.1, σ.2.1, σ.2.2.1, v, σ.2.2.2.2.1, σ.2.2.2.2.2.1, σ.2.2.2.2.2.2.1, σ.2.2.2.2.2.2.2)
abbrev C_put_directCounts (σ : StC) (i v : Int32) : StC := (σ.1, σ.2.1, σ.2.2.1, upd σ.2.2.2.1 i.toNatClampNeg v, σ.2.2.2.2.1, σ.2.2.2.2.2.1, σ.2.2.2.2.2.2.1, σ.2.2.2.2.2.2.2)
abbrev C_set_directs (σ : StC) (v : (Nat → Int32)) : StC := (σ.1, σ.2.1, σ.2.2.1, σ.2.2.2.1, v, σ.2.2.2.2.2.1, σ.2.2.2.2.2.2.1, σ.2.2.2.2.2.2.2)
abbrev C_put_directs (σ : StC) (i v : Int32) : StC := (σ.1, σ.2.1, σ.2.2.1, σ.2.2.2.1, upd σ.2.2.2.2.1 i.toNatClampNeg v, σ.2.2.2.2.2.1, σ.2.2.2.2.2.2.1, σ.2.2.2.2.2.2.2)
abbrev C_set_tolds (σ : StC) (v : (Nat → Int32)) : StC := (σ.1, σ.2.1, σ.2.2.1, σ.2.2.2.1, σ.2.2.2.2.1, v, σ.2.2.2.2.2.2.1, σ.2.2.2.2.2.2.2)
abbrev C_put_tolds (σ : StC) (i v : Int32) : StC := (σ.1, σ.2.1, σ.2.2.1, σ.2.2.2.1, σ.2.2.2.2.1, upd σ.2.2.2.2.2.1 i.toNatClampNeg v, σ.2.2.2.2.2.2.1, σ.2.2.2.2.2.2.2)
abbrev C_set_count (σ : StC) (v : Int32) : StC := (σ.1, σ.2.1, σ.2.2.1, σ.2.2.2.1, σ.2.2.2.2.1, σ.2.2.2.2.2.1, v, σ.2.2.2.2.2.2.2)
abbrev C_set_countGeneric (σ : StC) (v : Int32) : StC := (σ.1, σ.2.1, σ.2.2.1, σ.2.2.2.1, σ.2.2.2.2.1, σ.2.2.2.2.2.1, σ.2.2.2.2.2.2.1, v)
abbrev StT : Type := (Nat → Int32) × (Nat → Int32) × (Nat → Int32) × (Nat → Int32) × (Nat → Int32) × (Nat → Int32) × (Nat → Int32) × (Nat × (Nat → Int32)) × Int32 × Int32 × Int32 × Int32
abbrev T_kinds (σ : StT) : (Nat → Int32) := σ.1
abbrev T_named (σ : StT) : (Nat → Int32) := σ.2.1
abbrev T_arguments (σ : StT) : (Nat → Int32) := σ.2.2.1
abbrev T_elements (σ : StT) : (Nat → Int32) := σ.2.2.2.1
abbrev T_sizes (σ : StT) : (Nat → Int32) := σ.2.2.2.2.1
abbrev T_partStarts (σ : StT) : (Nat → Int32) := σ.2.2.2.2.2.1
abbrev T_partCounts (σ : StT) : (Nat → Int32) := σ.2.2.2.2.2.2.1
abbrev T_parts (σ : StT) : (Nat × (Nat → Int32)) := σ.2.2.2.2.2.2.2.1
abbrev T_partsUsed (σ : StT) : Int32 := σ.2.2.2.2.2.2.2.2.1
abbrev T_count (σ : StT) : Int32 := σ.2.2.2.2.2.2.2.2.2.1
abbrev T_settledParts (σ : StT) : Int32 := σ.2.2.2.2.2.2.2.2.2.2.1
abbrev T_settledCount (σ : StT) : Int32 := σ.2.2.2.2.2.2.2.2.2.2.2
abbrev T_set_kinds (σ : StT) (v : (Nat → Int32)) : StT := (v, σ.2.1, σ.2.2.1, σ.2.2.2.1, σ.2.2.2.2.1, σ.2.2.2.2.2.1, σ.2.2.2.2.2.2.1, σ.2.2.2.2.2.2.2.1, σ.2.2.2.2.2.2.2.2.1, σ.2.2.2.2.2.2.2.2.2.1, σ.2.2.2.2.2.2.2.2.2.2.1, σ.2.2.2.2.2.2.2.2.2.2.2)
abbrev T_put_kinds (σ : StT) (i v : Int32) : StT := (upd σ.1 i.toNatClampNeg v, σ.2.1, σ.2.2.1, σ.2.2.2.1, σ.2.2.2.2.1, σ.2.2.2.2.2.1, σ.2.2.2.2.2.2.1, σ.2.2.2.2.2.2.2.1, σ.2.2.2.2.2.2.2.2.1, σ.2.2.2.2.2.2.2.2.2.1, σ.2.2.2.2.2.2.2.2.2.2.1, σ.2.2.2.2.2.2.2.2.2.2.2)
abbrev T_set_named (σ : StT) (v : (Nat → Int32)) : StT := (σ.1, v, σ.2.2.1, σ.2.2.2.1, σ.2.2.2.2.1, σ.2.2.2.2.2.1, σ.2.2.2.2.2.2.1, σ.2.2.2.2.2.2.2.1, σ.2.2.2.2.2.2.2.2.1, σ.2.2.2.2.2.2.2.2.2.1, σ.2.2.2.2.2.2.2.2.2.2.1, σ.2.2.2.2.2.2.2.2.2.2.2)
abbrev T_put_named (σ : StT) (i v : Int32) : StT := (σ.1, upd σ.2.1 i.toNatClampNeg v, σ.2.2.1, σ.2.2.2.1, σ.2.2.2.2.1, σ.2.2.2.2.2.1, σ.2.2.2.2.2.2.1, σ.2.2.2.2.2.2.2.1, σ.2.2.2.2.2.2.2.2.1, σ.2.2.2.2.2.2.2.2.2.1, σ.2.2.2.2.2.2.2.2.2.2.1, σ.2.2.2.2.2.2.2.2.2.2.2)
abbrev T_set_arguments (σ : StT) (v : (Nat → Int32)) : StT := (σ.1, σ.2.1, v, σ.2.2.2.1, σ.2.2.2.2.1, σ.2.2.2.2.2.1, σ.2.2.2.2.2.2.1, σ.2.2.2.2.2.2.2.1, σ.2.2.2.2.2.2.2.2.1, σ.2.2.2.2.2.2.2.2.2.1, σ.2.2.2.2.2.2.2.2.2.2.1, σ.2.2.2.2.2.2.2.2.2.2.2)
abbrev T_put_arguments (σ : StT) (i v : Int32) : StT := (σ.1, σ.2.1, upd σ.2.2.1 i.toNatClampNeg v, σ.2.2.2.1, σ.2.2.2.2.1, σ.2.2.2.2.2.1, σ.2.2.2.2.2.2.1, σ.2.2.2.2.2.2.2.1, σ.2.2.2.2.2.2.2.2.1, σ.2.2.2.2.2.2.2.2.2.1, σ.2.2.2.2.2.2.2.2.2.2.1, σ.2.2.2.2.2.2.2.2.2.2.2)
abbrev T_set_elements (σ : StT) (v : (Nat → Int32)) : StT := (σ.1, σ.2.1, σ.2.2.1, v, σ.2.2.2.2.1, σ.2.2.2.2.2.1, σ.2.2.2.2.2.2.1, σ.2.2.2.2.2.2.2.1, σ.2.2.2.2.2.2.2.2.1, σ.2.2.2.2.2.2.2.2.2.1, σ.2.2.2.2.2.2.2.2.2.2.1, σ.2.2.2.2.2.2.2.2.2.2.2)
abbrev T_put_elements (σ : StT) (i v : Int32) : StT := (σ.1, σ.2.1, σ.2.2.1, upd σ.2.2.2.1 i.toNatClampNeg v, σ.2.2.2.2.1, σ.2.2.2.2.2.1, σ.2.2.2.2.2.2.1, σ.2.2.2.2.2.2.2.1, σ.2.2.2.2.2.2.2.2.1, σ.2.2.2.2.2.2.2.2.2.1, σ.2.2.2.2.2.2.2.2.2.2.1, σ.2.2.2.2.2.2.2.2.2.2.2)
abbrev T_set_sizes (σ : StT) (v : (Nat → Int32)) : StT := (σ.1, σ.2.1, σ.2.2.1, σ.2.2.2.1, v, σ.2.2.2.2.2.1, σ.2.2.2.2.2.2.1, σ.2.2.2.2.2.2.2.1, σ.2.2.2.2.2.2.2.2.1, σ.2.2.2.2.2.2.2.2.2.1, σ.2.2.2.2.2.2.2.2.2.2.1, σ.2.2.2.2.2.2.2.2.2.2.2)
abbrev T_put_sizes (σ : StT) (i v : Int32) : StT := (σ.1, σ.2.1, σ.2.2.1, σ.2.2.2.1, upd σ.2.2.2.2.1 i.toNatClampNeg v, σ.2.2.2.2.2.1, σ.2.2.2.2.2.2.1, σ.2.2.2.2.2.2.2.1, σ.2.2.2.2.2.2.2.2.1, σ.2.2.2.2.2.2.2.2.2.1, σ.2.2.2.2.2.2.2.2.2.2.1, σ.2.2.2.2.2.2.2.2.2.2.2)
abbrev T_set_partStarts (σ : StT) (v : (Nat → Int32)) : StT := (σ.1, σ.2.1, σ.2.2.1, σ.2.2.2.1, σ.2.2.2.2.1, v, σ.2.2.2.2.2.2.1, σ.2.2.2.2.2.2.2.1, σ.2.2.2.2.2.2.2.2.1, σ.2.2.2.2.2.2.2.2.2.1, σ.2.2.2.2.2.2.2.2.2.2.1, σ.2.2.2.2.2.2.2.2.2.2.2)
abbrev T_put_partStarts (σ : StT) (i v : Int32) : StT := (σ.1, σ.2.1, σ.2.2.1, σ.2.2.2.1, σ.2.2.2.2.1, upd σ.2.2.2.2.2.1 i.toNatClampNeg v, σ.2.2.2.2.2.2.1, σ.2.2.2.2.2.2.2.1, σ.2.2.2.2.2.2.2.2.1, σ.2.2.2.2.2.2.2.2.2.1, σ.2.2.2.2.2.2.2.2.2.2.1, σ.2.2.2.2.2.2.2.2.2.2.2)
abbrev T_set_partCounts (σ : StT) (v : (Nat → Int32)) : StT := (σ.1, σ.2.1, σ.2.2.1, σ.2.2.2.1, σ.2.2.2.2.1, σ.2.2.2.2.2.1, v, σ.2.2.2.2.2.2.2.1, σ.2.2.2.2.2.2.2.2.1, σ.2.2.2.2.2.2.2.2.2.1, σ.2.2.2.2.2.2.2.2.2.2.1, σ.2.2.2.2.2.2.2.2.2.2.2)
abbrev T_put_partCounts (σ : StT) (i v : Int32) : StT := (σ.1, σ.2.1, σ.2.2.1, σ.2.2.2.1, σ.2.2.2.2.1, σ.2.2.2.2.2.1, upd σ.2.2.2.2.2.2.1 i.toNatClampNeg v, σ.2.2.2.2.2.2.2.1, σ.2.2.2.2.2.2.2.2.1, σ.2.2.2.2.2.2.2.2.2.1, σ.2.2.2.2.2.2.2.2.2.2.1, σ.2.2.2.2.2.2.2.2.2.2.2)
abbrev T_set_parts (σ : StT) (v : (Nat × (Nat → Int32))) : StT := (σ.1, σ.2.1, σ.2.2.1, σ.2.2.2.1, σ.2.2.2.2.1, σ.2.2.2.2.2.1, σ.2.2.2.2.2.2.1, v, σ.2.2.2.2.2.2.2.2.1, σ.2.2.2.2.2.2.2.2.2.1, σ.2.2.2.2.2.2.2.2.2.2.1, σ.2.2.2.2.2.2.2.2.2.2.2)
abbrev T_put_parts (σ : StT) (i v : Int32) : StT := (σ.1, σ.2.1, σ.2.2.1, σ.2.2.2.1, σ.2.2.2.2.1, σ.2.2.2.2.2.1, σ.2.2.2.2.2.2.1, (σ.2.2.2.2.2.2.2.1.1, upd σ.2.2.2.2.2.2.2.1.2 i.toNatClampNeg v), σ.2.2.2.2.2.2.2.2.1, σ.2.2.2.2.2.2.2.2.2.1, σ.2.2.2.2.2.2.2.2.2.2.1, σ.2.2.2.2.2.2.2.2.2.2.2)
abbrev T_set_partsUsed (σ : StT) (v : Int32) : StT := (σ.1, σ.2.1, σ.2.2.1, σ.2.2.2.1, σ.2.2.2.2.1, σ.2.2.2.2.2.1, σ.2.2.2.2.2.2.1, σ.2.2.2.2.2.2.2.1, v, σ.2.2.2.2.2.2.2.2.2.1, σ.2.2.2.2.2.2.2.2.2.2.1, σ.2.2.2.2.2.2.2.2.2.2.2)
abbrev T_set_count (σ : StT) (v : Int32) : StT := (σ.1, σ.2.1, σ.2.2.1, σ.2.2.2.1, σ.2.2.2.2.1, σ.2.2.2.2.2.1, σ.2.2.2.2.2.2.1, σ.2.2.2.2.2.2.2.1, σ.2.2.2.2.2.2.2.2.1, v, σ.2.2.2.2.2.2.2.2.2.2.1, σ.2.2.2.2.2.2.2.2.2.2.2)
abbrev T_set_settledParts (σ : StT) (v : Int32) : StT := (σ.1, σ.2.1, σ.2.2.1, σ.2.2.2.1, σ.2.2.2.2.1, σ.2.2.2.2.2.1, σ.2.2.2.2.2.2.1, σ.2.2.2.2.2.2.2.1, σ.2.2.2.2.2.2.2.2.1, σ.2.2.2.2.2.2.2.2.2.1, v, σ.2.2.2.2.2.2.2.2.2.2.2)
abbrev T_set_settledCount (σ : StT) (v : Int32) : StT := (σ.1, σ.2.1, σ.2.2.1, σ.2.2.2.1, σ.2.2.2.2.1, σ.2.2.2.2.2.1, σ.2.2.2.2.2.2.1, σ.2.2.2.2.2.2.2.1, σ.2.2.2.2.2.2.2.2.1, σ.2.2.2.2.2.2.2.2.2.1, σ.2.2.2.2.2.2.2.2.2.2.1, v)
abbrev StA : Type := (Nat → Int32) × Int32
abbrev A_cells (σ : StA) : (Nat → Int32) := σ.1
abbrev A_empty (σ : StA) : Int32 := σ.2
abbrev A_set_cells (σ : StA) (v : (Nat → Int32)) : StA := (v, σ.2)
abbrev A_put_cells (σ : StA) (i v : Int32) : StA := (upd σ.1 i.toNatClampNeg v, σ.2)
abbrev A_set_empty (σ : StA) (v : Int32) : StA := (σ.1, v)
abbrev StL : Type := Int32 × StC × StT × StA × (Nat → Int32) × (Nat → Int32)
abbrev L_depth (σ : StL) : Int32 := σ.1
abbrev L_classes (σ : StL) : StC := σ.2.1
abbrev L_types (σ : StL) : StT := σ.2.2.1
abbrev L_answers (σ : StL) : StA := σ.2.2.2.1
abbrev L_row (σ : StL) : (Nat → Int32) := σ.2.2.2.2.1
abbrev L_gathered (σ : StL) : (Nat → Int32) := σ.2.2.2.2.2
abbrev L_set_depth (σ : StL) (v : Int32) : StL := (v, σ.2.1, σ.2.2.1, σ.2.2.2.1, σ.2.2.2.2.1, σ.2.2.2.2.2)
abbrev L_set_classes (σ : StL) (v : StC) : StL := (σ.1, v, σ.2.2.1, σ.2.2.2.1, σ.2.2.2.2.1, σ.2.2.2.2.2)
abbrev L_set_types (σ : StL) (v : StT) : StL := (σ.1, σ.2.1, v, σ.2.2.2.1, σ.2.2.2.2.1, σ.2.2.2.2.2)
abbrev L_set_answers (σ : StL) (v : StA) : StL := (σ.1, σ.2.1, σ.2.2.1, v, σ.2.2.2.2.1, σ.2.2.2.2.2)
abbrev L_set_row (σ : StL) (v : (Nat → Int32)) : StL := (σ.1, σ.2.1, σ.2.2.1, σ.2.2.2.1, v, σ.2.2.2.2.2)
abbrev L_put_row (σ : StL) (i v : Int32) : StL := (σ.1, σ.2.1, σ.2.2.1, σ.2.2.2.1, upd σ.2.2.2.2.1 i.toNatClampNeg v, σ.2.2.2.2.2)
abbrev L_set_gathered (σ : StL) (v : (Nat → Int32)) : StL := (σ.1, σ.2.1, σ.2.2.1, σ.2.2.2.1, σ.2.2.2.2.1, v)
abbrev L_put_gathered (σ : StL) (i v : Int32) : StL := (σ.1, σ.2.1, σ.2.2.1, σ.2.2.2.1, σ.2.2.2.2.1, upd σ.2.2.2.2.2 i.toNatClampNeg v)
abbrev StM : Type := Int32 × Int32 × Int32 × Int32 × (Nat → Int32) × (Nat → Int32) × (Nat → Int32) × (Nat → Int32) × (Nat → Int32) × (Nat → Int32) × Int32 × (Nat → Int32) × (Nat → Int32) × (Nat → Int32) × (Nat → Int32) × (Nat → Int32) × (Nat → Int32) × (Nat → Int32) × Int32 × Int32 × Int32 × Int32 × (Nat → Int32) × (Nat → Int32) × Int32 × Int32 × (Nat → Int32) × (Nat → Int32) × (Nat → Int32) × (Nat → Int32) × (Nat → Int32) × (Nat → Int32) × (Nat → Int32) × (Nat → Int32) × Int32
abbrev M_code (σ : StM) : Int32 := σ.1
abbrev M_depth (σ : StM) : Int32 := σ.2.1
abbrev M_classes (σ : StM) : Int32 := σ.2.2.1
abbrev M_generics (σ : StM) : Int32 := σ.2.2.2.1
abbrev M_face (σ : StM) : (Nat → Int32) := σ.2.2.2.2.1
abbrev M_generic (σ : StM) : (Nat → Int32) := σ.2.2.2.2.2.1
abbrev M_directs (σ : StM) : (Nat → Int32) := σ.2.2.2.2.2.2.1
abbrev M_directTo (σ : StM) : (Nat → Int32) := σ.2.2.2.2.2.2.2.1
abbrev M_directArg (σ : StM) : (Nat → Int32) := σ.2.2.2.2.2.2.2.2.1
abbrev M_over (σ : StM) : (Nat → Int32) := σ.2.2.2.2.2.2.2.2.2.1
abbrev M_types (σ : StM) : Int32 := σ.2.2.2.2.2.2.2.2.2.2.1
abbrev M_kind (σ : StM) : (Nat → Int32) := σ.2.2.2.2.2.2.2.2.2.2.2.1
abbrev M_classOf (σ : StM) : (Nat → Int32) := σ.2.2.2.2.2.2.2.2.2.2.2.2.1
abbrev M_how (σ : StM) : (Nat → Int32) := σ.2.2.2.2.2.2.2.2.2.2.2.2.2.1
abbrev M_inner (σ : StM) : (Nat → Int32) := σ.2.2.2.2.2.2.2.2.2.2.2.2.2.2.1
abbrev M_made (σ : StM) : (Nat → Int32) := σ.2.2.2.2.2.2.2.2.2.2.2.2.2.2.2.1
abbrev M_partCount (σ : StM) : (Nat → Int32) := σ.2.2.2.2.2.2.2.2.2.2.2.2.2.2.2.2.1
abbrev M_partRow (σ : StM) : (Nat → Int32) := σ.2.2.2.2.2.2.2.2.2.2.2.2.2.2.2.2.2.1
abbrev M_full (σ : StM) : Int32 := σ.2.2.2.2.2.2.2.2.2.2.2.2.2.2.2.2.2.2.1
abbrev M_found (σ : StM) : Int32 := σ.2.2.2.2.2.2.2.2.2.2.2.2.2.2.2.2.2.2.2.1
abbrev M_foundHow (σ : StM) : Int32 := σ.2.2.2.2.2.2.2.2.2.2.2.2.2.2.2.2.2.2.2.2.1
abbrev M_foundType (σ : StM) : Int32 := σ.2.2.2.2.2.2.2.2.2.2.2.2.2.2.2.2.2.2.2.2.2.1
abbrev M_row (σ : StM) : (Nat → Int32) := σ.2.2.2.2.2.2.2.2.2.2.2.2.2.2.2.2.2.2.2.2.2.2.1
abbrev M_below (σ : StM) : (Nat → Int32) := σ.2.2.2.2.2.2.2.2.2.2.2.2.2.2.2.2.2.2.2.2.2.2.2.1
abbrev M_reckoned (σ : StM) : Int32 := σ.2.2.2.2.2.2.2.2.2.2.2.2.2.2.2.2.2.2.2.2.2.2.2.2.1
abbrev M_high (σ : StM) : Int32 := σ.2.2.2.2.2.2.2.2.2.2.2.2.2.2.2.2.2.2.2.2.2.2.2.2.2.1
abbrev M_left (σ : StM) : (Nat → Int32) := σ.2.2.2.2.2.2.2.2.2.2.2.2.2.2.2.2.2.2.2.2.2.2.2.2.2.2.1
abbrev M_right (σ : StM) : (Nat → Int32) := σ.2.2.2.2.2.2.2.2.2.2.2.2.2.2.2.2.2.2.2.2.2.2.2.2.2.2.2.1
abbrev M_deep (σ : StM) : (Nat → Int32) := σ.2.2.2.2.2.2.2.2.2.2.2.2.2.2.2.2.2.2.2.2.2.2.2.2.2.2.2.2.1
abbrev M_stage (σ : StM) : (Nat → Int32) := σ.2.2.2.2.2.2.2.2.2.2.2.2.2.2.2.2.2.2.2.2.2.2.2.2.2.2.2.2.2.1
abbrev M_least (σ : StM) : (Nat → Int32) := σ.2.2.2.2.2.2.2.2.2.2.2.2.2.2.2.2.2.2.2.2.2.2.2.2.2.2.2.2.2.2.1
abbrev M_at (σ : StM) : (Nat → Int32) := σ.2.2.2.2.2.2.2.2.2.2.2.2.2.2.2.2.2.2.2.2.2.2.2.2.2.2.2.2.2.2.2.1
abbrev M_size (σ : StM) : (Nat → Int32) := σ.2.2.2.2.2.2.2.2.2.2.2.2.2.2.2.2.2.2.2.2.2.2.2.2.2.2.2.2.2.2.2.2.1
abbrev M_parts (σ : StM) : (Nat → Int32) := σ.2.2.2.2.2.2.2.2.2.2.2.2.2.2.2.2.2.2.2.2.2.2.2.2.2.2.2.2.2.2.2.2.2.1
abbrev M_answer (σ : StM) : Int32 := σ.2.2.2.2.2.2.2.2.2.2.2.2.2.2.2.2.2.2.2.2.2.2.2.2.2.2.2.2.2.2.2.2.2.2
abbrev M_set_code (σ : StM) (v : Int32) : StM := (v, σ.2.1, σ.2.2.1, σ.2.2.2.1, σ.2.2.2.2.1, σ.2.2.2.2.2.1, σ.2.2.2.2.2.2.1, σ.2.2.2.2.2.2.2.1, σ.2.2.2.2.2.2.2.2.1, σ.2.2.2.2.2.2.2.2.2.1, σ.2.2.2.2.2.2.2.2.2.2.1, σ.2.2.2.2.2.2.2.2.2.2.2.1, σ.2.2.2.2.2.2.2.2.2.2.2.2.1, σ.2.2.2.2.2.2.2.2.2.2.2.2.2.1, σ.2.2.2.2.2.2.2.2.2.2.2.2.2.2.1, σ.2.2.2.2.2.2.2.2.2.2.2.2.2.2.2.1, σ.2.2.2.2.2.2.2.2.2.2.2.2.2.2.2.2.1, σ.2.2.2.2.2.2.2.2.2.2.2.2.2.2.2.2.2.1, σ.2.2.2.2.2.2.2.2.2.2.2.2.2.2.2.2.2.2.1, σ.2.2.2.2.2.2.2.2.2.2.2.2.2.2.2.2.2.2.2.1, σ.2.2.2.2.2.2.2.2.2.2.2.2.2.2.2.2.2.2.2.2.1, σ.2.2.2.2.2.2.2.2.2.2.2.2.2.2.2.2.2.2.2.2.2.1, σ.2.2.2.2.2.2.2.2.2.2.2.2.2.2.2.2.2.2.2.2.2.2.1, σ.2.2.2.2.2.2.2.2.2.2.2.2.2.2.2.2.2.2.2.2.2.2.2.1, σ.2.2.2.2.2.2.2.2.2.2.2.2.2.2.2.2.2.2.2.2.2.2.2.2.1, σ.2.2.2.2.2.2.2.2.2.2.2.2.2.2.2.2.2.2.2.2.2.2.2.2.2.1, σ.2.2.2.2.2.2.2.2.2.2.2.2.2.2.2.2.2.2.2.2.2.2.2.2.2.2.1, σ.2.2.2.2.2.2.2.2.2.2.2.2.2.2.2.2.2.2.2.2.2.2.2.2.2.2.2.1, σ.2.2.2.2.2.2.2.2.2.2.2.2.2.2.2.2.2.2.2.2.2.2.2.2.2.2.2.2.1, σ.2.2.2.2.2.2.2.2.2.2.2.2.2.2.2.2.2.2.2.2.2.2.2.2.2.2.2.2.2.1, σ.2.2.2.2.2.2.2.2.2.2.2.2.2.2.2.2.2.2.2.2.2.2.2.2.2.2.2.2.2.2.1, σ.2.2.2.2.2.2.2.2.2.2.2.2.2.2.2.2.2.2.2.2.2.2.2.2.2.2.2.2.2.2.2.1, σ.2.2.2.2.2.2.2.2.2.2.2.2.2.2.2.2.2.2.2.2.2.2.2.2.2.2.2.2.2.2.2.2.1, σ.2.2.2.2.2.2.2.2.2.2.2.2.2.2.2.2.2.2.2.2.2.2.2.2.2.2.2.2.2.2.2.2.2.1, σ.2.2.2.2.2.2.2.2.2.2.2.2.2.2.2.2.2.2.2.2.2.2.2.2.2.2.2.2.2.2.2.2.2.2)
abbrev M_set_depth (σ : StM) (v : Int32) : StM := (σ.1, v, σ.2.2.1, σ.2.2.2.1, σ.2.2.2.2.1, σ.2.2.2.2.2.1, σ.2.2.2.2.2.2.1, σ.2.2.2.2.2.2.2.1, σ.2.2.2.2.2.2.2.2.1, σ.2.2.2.2.2.2.2.2.2.1, σ.2.2.2.2.2.2.2.2.2.2.1, σ.2.2.2.2.2.2.2.2.2.2.2.1, σ.2.2.2.2.2.2.2.2.2.2.2.2.1, σ.2.2.2.2.2.2.2.2.2.2.2.2.2.1, σ.2.2.2.2.2.2.2.2.2.2.2.2.2.2.1, σ.2.2.2.2.2.2.2.2.2.2.2.2.2.2.2.1, σ.2.2.2.2.2.2.2.2.2.2.2.2.2.2.2.2.1, σ.2.2.2.2.2.2.2.2.2.2.2.2.2.2.2.2.2.1, σ.2.2.2.2.2.2.2.2.2.2.2.2.2.2.2.2.2.2.1, σ.2.2.2.2.2.2.2.2.2.2.2.2.2.2.2.2.2.2.2.1, σ.2.2.2.2.2.2.2.2.2.2.2.2.2.2.2.2.2.2.2.2.1, σ.2.2.2.2.2.2.2.2.2.2.2.2.2.2.2.2.2.2.2.2.2.1, σ.2.2.2.2.2.2.2.2.2.2.2.2.2.2.2.2.2.2.2.2.2.2.1, σ.2.2.2.2.2.2.2.2.2.2.2.2.2.2.2.2.2.2.2.2.2.2.2.1, σ.2.2.2.2.2.2.2.2.2.2.2.2.2.2.2.2.2.2.2.2.2.2.2.2.1, σ.2.2.2.2.2.2.2.2.2.2.2.2.2.2.2.2.2.2.2.2.2.2.2.2.2.1, σ.2.2.2.2.2.2.2.2.2.2.2.2.2.2.2.2.2.2.2.2.2.2.2.2.2.2.1, σ.2.2.2.2.2.2.2.2.2.2.2.2.2.2.2.2.2.2.2.2.2.2.2.2.2.2.2.1, σ.2.2.2.2.2.2.2.2.2.2.2.2.2.2.2.2.2.2.2.2.2.2.2.2.2.2.2.2.1, σ.2.2.2.2.2.2.2.2.2.2.2.2.2.2.2.2.2.2.2.2.2.2.2.2.2.2.2.2.2.1, σ.2.2.2.2.2.2.2.2.2.2.2.2.2.2.2.2.2.2.2.2.2.2.2.2.2.2.2.2.2.2.1, σ.2.2.2.2.2.2.2.2.2.2.2.2.2.2.2.2.2.2.2.2.2.2.2.2.2.2.2.2.2.2.2.1, σ.2.2.2.2.2.2.2.2.2.2.2.2.2.2.2.2.2.2.2.2.2.2.2.2.2.2.2.2.2.2.2.2.1, σ.2.2.2.2.2.2.2.2.2.2.2.2.2.2.2.2.2.2.2.2.2.2.2.2.2.2.2.2.2.2.2.2.2.1, σ.2.2.2.2.2.2.2.2.2.2.2.2.2.2.2.2.2.2.2.2.2.2.2.2.2.2.2.2.2.2.2.2.2.2)
abbrev M_set_classes (σ : StM) (v : Int32) : StM := (σ.1, σ.2.1, v, σ.2.2.2.1, σ.2.2.2.2.1, σ.2.2.2.2.2.1, σ.2.2.2.2.2.2.1, σ.2.2.2.2.2.2.2.1, σ.2.2.2.2.2.2.2.2.1, σ.2.2.2.2.2.2.2.2.2.1, σ.2.2.2.2.2.2.2.2.2.2.1, σ.2.2.2.2.2.2.2.2.2.2.2.1, σ.2.2.2.2.2.2.2.2.2.2.2.2.1, σ.2.2.2.2.2.2.2.2.2.2.2.2.2.1, σ.2.2.2.2.2.2.2.2.2.2.2.2.2.2.1, σ.2.2.2.2.2.2.2.2.2.2.2.2.2.2.2.1, σ.2.2.2.2.2.2.2.2.2.2.2.2.2.2.2.2.1, σ.2.2.2.2.2.2.2.2.2.2.2.2.2.2.2.2.2.1, σ.2.2.2.2.2.2.2.2.2.2.2.2.2.2.2.2.2.2.1, σ.2.2.2.2.2.2.2.2.2.2.2.2.2.2.2.2.2.2.2.1, σ.2.2.2.2.2.2.2.2.2.2.2.2.2.2.2.2.2.2.2.2.1, σ.2.2.2.2.2.2.2.2.2.2.2.2.2.2.2.2.2.2.2.2.2.1, σ.2.2.2.2.2.2.2.2.2.2.2.2.2.2.2.2.2.2.2.2.2.2.1, σ.2.2.2.2.2.2.2.2.2.2.2.2.2.2.2.2.2.2.2.2.2.2.2.1, σ.2.2.2.2.2.2.2.2.2.2.2.2.2.2.2.2.2.2.2.2.2.2.2.2.1, σ.2.2.2.2.2.2.2.2.2.2.2.2.2.2.2.2.2.2.2.2.2.2.2.2.2.1, σ.2.2.2.2.2.2.2.2.2.2.2.2.2.2.2.2.2.2.2.2.2.2.2.2.2.2.1, σ.2.2.2.2.2.2.2.2.2.2.2.2.2.2.2.2.2.2.2.2.2.2.2.2.2.2.2.1, σ.2.2.2.2.2.2.2.2.2.2.2.2.2.2.2.2.2.2.2.2.2.2.2.2.2.2.2.2.1, σ.2.2.2.2.2.2.2.2.2.2.2.2.2.2.2.2.2.2.2.2.2.2.2.2.2.2.2.2.2.1, σ.2.2.2.2.2.2.2.2.2.2.2.2.2.2.2.2.2.2.2.2.2.2.2.2.2.2.2.2.2.2.1, σ.2.2.2.2.2.2.2.2.2.2.2.2.2.2.2.2.2.2.2.2.2.2.2.2.2.2.2.2.2.2.2.1, σ.2.2.2.2.2.2.2.2.2.2.2.2.2.2.2.2.2.2.2.2.2.2.2.2.2.2.2.2.2.2.2.2.1, σ.2.2.2.2.2.2.2.2.2.2.2.2.2.2.2.2.2.2.2.2.2.2.2.2.2.2.2.2.2.2.2.2.2.1, σ.2.2.2.2.2.2.2.2.2.2.2.2.2.2.2.2.2.2.2.2.2.2.2.2.2.2.2.2.2.2.2.2.2.2)
abbrev M_set_generics (σ : StM) (v : Int32) : StM := (σ.1, σ.2.1, σ.2.2.1, v, σ.2.2.2.2.1, σ.2.2.2.2.2.1, σ.2.2.2.2.2.2.1, σ.2.2.2.2.2.2.2.1, σ.2.2.2.2.2.2.2.2.1, σ.2.2.2.2.2.2.2.2.2.1, σ.2.2.2.2.2.2.2.2.2.2.1, σ.2.2.2.2.2.2.2.2.2.2.2.1, σ.2.2.2.2.2.2.2.2.2.2.2.2.1, σ.2.2.2.2.2.2.2.2.2.2.2.2.2.1, σ.2.2.2.2.2.2.2.2.2.2.2.2.2.2.1, σ.2.2.2.2.2.2.2.2.2.2.2.2.2.2.2.1, σ.2.2.2.2.2.2.2.2.2.2.2.2.2.2.2.2.1, σ.2.2.2.2.2.2.2.2.2.2.2.2.2.2.2.2.2.1, σ.2.2.2.2.2.2.2.2.2.2.2.2.2.2.2.2.2.2.1, σ.2.2.2.2.2.2.2.2.2.2.2.2.2.2.2.2.2.2.2.1, σ.2.2.2.2.2.2.2.2.2.2.2.2.2.2.2.2.2.2.2.2.1, σ.2.2.2.2.2.2.2.2.2.2.2.2.2.2.2.2.2.2.2.2.2.1, σ.2.2.2.2.2.2.2.2.2.2.2.2.2.2.2.2.2.2.2.2.2.2.1, σ.2.2.2.2.2.2.2.2.2.2.2.2.2.2.2.2.2.2.2.2.2.2.2.1, σ.2.2.2.2.2.2.2.2.2.2.2.2.2.2.2.2.2.2.2.2.2.2.2.2.1, σ.2.2.2.2.2.2.2.2.2.2.2.2.2.2.2.2.2.2.2.2.2.2.2.2.2.1, σ.2.2.2.2.2.2.2.2.2.2.2.2.2.2.2.2.2.2.2.2.2.2.2.2.2.2.1, σ.2.2.2.2.2.2.2.2.2.2.2.2.2.2.2.2.2.2.2.2.2.2.2.2.2.2.2.1, σ.2.2.2.2.2.2.2.2.2.2.2.2.2.2.2.2.2.2.2.2.2.2.2.2.2.2.2.2.1, σ.2.2.2.2.2.2.2.2.2.2.2.2.2.2.2.2.2.2.2.2.2.2.2.2.2.2.2.2.2.1, σ.2.2.2.2.2.2.2.2.2.2.2.2.2.2.2.2.2.2.2.2.2.2.2.2.2.2.2.2.2.2.1, σ.2.2.2.2.2.2.2.2.2.2.2.2.2.2.2.2.2.2.2.2.2.2.2.2.2.2.2.2.2.2.2.1, σ.2.2.2.2.2.2.2.2.2.2.2.2.2.2.2.2.2.2.2.2.2.2.2.2.2.2.2.2.2.2.2.2.1, σ.2.2.2.2.2.2.2.2.2.2.2.2.2.2.2.2.2.2.2.2.2.2.2.2.2.2.2.2.2.2.2.2.2.1, σ.2.2.2.2.2.2.2.2.2.2.2.2.2.2.2.2.2.2.2.2.2.2.2.2.2.2.2.2.2.2.2.2.2.2)
abbrev M_set_face (σ : StM) (v : (Nat → Int32)) : StM := (σ.1, σ.2.1, σ.2.2.1, σ.2.2.2.1, v, σ.2.2.2.2.2.1, σ.2.2.2.2.2.2.1, σ.2.2.2.2.2.2.2.1, σ.2.2.2.2.2.2.2.2.1, σ.2.2.2.2.2.2.2.2.2.1, σ.2.2.2.2.2.2.2.2.2.2.1, σ.2.2.2.2.2.2.2.2.2.2.2.1, σ.2.2.2.2.2.2.2.2.2.2.2.2.1, σ.2.2.2.2.2.2.2.2.2.2.2.2.2.1, σ.2.2.2.2.2.2.2.2.2.2.2.2.2.2.1, σ.2.2.2.2.2.2.2.2.2.2.2.2.2.2.2.1, σ.2.2.2.2.2.2.2.2.2.2.2.2.2.2.2.2.1, σ.2.2.2.2.2.2.2.2.2.2.2.2.2.2.2.2.2.1, σ.2.2.2.2.2.2.2.2.2.2.2.2.2.2.2.2.2.2.1, σ.2.2.2.2.2.2.2.2.2.2.2.2.2.2.2.2.2.2.2.1, σ.2.2.2.2.2.2.2.2.2.2.2.2.2.2.2.2.2.2.2.2.1, σ.2.2.2.2.2.2.2.2.2.2.2.2.2.2.2.2.2.2.2.2.2.1, σ.2.2.2.2.2.2.2.2.2.2.2.2.2.2.2.2.2.2.2.2.2.2.1, σ.2.2.2.2.2.2.2.2.2.2.2.2.2.2.2.2.2.2.2.2.2.2.2.1, σ.2.2.2.2.2.2.2.2.2.2.2.2.2.2.2.2.2.2.2.2.2.2.2.2.1, σ.2.2.2.2.2.2.2.2.2.2.2.2.2.2.2.2.2.2.2.2.2.2.2.2.2.1, σ.2.2.2.2.2.2.2.2.2.2.2.2.2.2.2.2.2.2.2.2.2.2.2.2.2.2.1, σ.2.2.2.2.2.2.2.2.2.2.2.2.2.2.2.2.2.2.2.2.2.2.2.2.2.2.2.1, σ.2.2.2.2.2.2.2.2.2.2.2.2.2.2.2.2.2.2.2.2.2.2.2.2.2.2.2.2.1, σ.2.2.2.2.2.2.2.2.2.2.2.2.2.2.2.2.2.2.2.2.2.2.2.2.2.2.2.2.2.1, σ.2.2.2.2.2.2.2.2.2.2.2.2.2.2.2.2.2.2.2.2.2.2.2.2.2.2.2.2.2.2.1, σ.2.2.2.2.2.2.2.2.2.2.2.2.2.2.2.2.2.2.2.2.2.2.2.2.2.2.2.2.2.2.2.1, σ.2.2.2.2.2.2.2.2.2.2.2.2.2.2.2.2.2.2.2.2.2.2.2.2.2.2.2.2.2.2.2.2.1, σ.2.2.2.2.2.2.2.2.2.2.2.2.2.2.2.2.2.2.2.2.2.2.2.2.2.2.2.2.2.2.2.2.2.1, σ.2.2.2.2.2.2.2.2.2.2.2.2.2.2.2.2.2.2.2.2.2.2.2.2.2.2.2.2.2.2.2.2.2.2)
abbrev M_put_face (σ : StM) (i v : Int32) : StM := (σ.1, σ.2.1, σ.2.2.1, σ.2.2.2.1, upd σ.2.2.2.2.1 i.toNatClampNeg v, σ.2.2.2.2.2.1, σ.2.2.2.2.2.2.1, σ.2.2.2.2.2.2.2.1, σ.2.2.2.2.2.2.2.2.1, σ.2.2.2.2.2.2.2.2.2.1, σ.2.2.2.2.2.2.2.2.2.2.1, σ.2.2.2.2.2.2.2.2.2.2.2.1, σ.2.2.2.2.2.2.2.2.2.2.2.2.1, σ.2.2.2.2.2.2.2.2.2.2.2.2.2.1, σ.2.2.2.2.2.2.2.2.2.2.2.2.2.2.1, σ.2.2.2.2.2.2.2.2.2.2.2.2.2.2.2.1, σ.2.2.2.2.2.2.2.2.2.2.2.2.2.2.2.2.1, σ.2.2.2.2.2.2.2.2.2.2.2.2.2.2.2.2.2.1, σ.2.2.2.2.2.2.2.2.2.2.2.2.2.2.2.2.2.2.1, σ.2.2.2.2.2.2.2.2.2.2.2.2.2.2.2.2.2.2.2.1, σ.2.2.2.2.2.2.2.2.2.2.2.2.2.2.2.2.2.2.2.2.1, σ.2.2.2.2.2.2.2.2.2.2.2.2.2.2.2.2.2.2.2.2.2.1, σ.2.2.2.2.2.2.2.2.2.2.2.2.2.2.2.2.2.2.2.2.2.2.1, σ.2.2.2.2.2.2.2.2.2.2.2.2.2.2.2.2.2.2.2.2.2.2.2.1, σ.2.2.2.2.2.2.2.2.2.2.2.2.2.2.2.2.2.2.2.2.2.2.2.2.1, σ.2.2.2.2.2.2.2.2.2.2.2.2.2.2.2.2.2.2.2.2.2.2.2.2.2.1, σ.2.2.2.2.2.2.2.2.2.2.2.2.2.2.2.2.2.2.2.2.2.2.2.2.2.2.1, σ.2.2.2.2.2.2.2.2.2.2.2.2.2.2.2.2.2.2.2.2.2.2.2.2.2.2.2.1, σ.2.2.2.2.2.2.2.2.2.2.2.2.2.2.2.2.2.2.2.2.2.2.2.2.2.2.2.2.1, σ.2.2.2.2.2.2.2.2.2.2.2.2.2.2.2.2.2.2.2.2.2.2.2.2.2.2.2.2.2.1, σ.2.2.2.2.2.2.2.2.2.2.2.2.2.2.2.2.2.2.2.2.2.2.2.2.2.2.2.2.2.2.1, σ.2.2.2.2.2.2.2.2.2.2.2.2.2.2.2.2.2.2.2.2.2.2.2.2.2.2.2.2.2.2.2.1, σ.2.2.2.2.2.2.2.2.2.2.2.2.2.2.2.2.2.2.2.2.2.2.2.2.2.2.2.2.2.2.2.2.1, σ.2.2.2.2.2.2.2.2.2.2.2.2.2.2.2.2.2.2.2.2.2.2.2.2.2.2.2.2.2.2.2.2.2.1, σ.2.2.2.2.2.2.2.2.2.2.2.2.2.2.2.2.2.2.2.2.2.2.2.2.2.2.2.2.2.2.2.2.2.2)
abbrev M_set_generic (σ : StM) (v : (Nat → Int32)) : StM := (σ.1, σ.2.1, σ.2.2.1, σ.2.2.2.1, σ.2.2.2.2.1, v, σ.2.2.2.2.2.2.1, σ.2.2.2.2.2.2.2.1, σ.2.2.2.2.2.2.2.2.1, σ.2.2.2.2.2.2.2.2.2.1, σ.2.2.2.2.2.2.2.2.2.2.1, σ.2.2.2.2.2.2.2.2.2.2.2.1, σ.2.2.2.2.2.2.2.2.2.2.2.2.1, σ.2.2.2.2.2.2.2.2.2.2.2.2.2.1, σ.2.2.2.2.2.2.2.2.2.2.2.2.2.2.1, σ.2.2.2.2.2.2.2.2.2.2.2.2.2.2.2.1, σ.2.2.2.2.2.2.2.2.2.2.2.2.2.2.2.2.1, σ.2.2.2.2.2.2.2.2.2.2.2.2.2.2.2.2.2.1, σ.2.2.2.2.2.2.2.2.2.2.2.2.2.2.2.2.2.2.1, σ.2.2.2.2.2.2.2.2.2.2.2.2.2.2.2.2.2.2.2.1, σ.2.2.2.2.2.2.2.2.2.2.2.2.2.2.2.2.2.2.2.2.1, σ.2.2.2.2.2.2.2.2.2.2.2.2.2.2.2.2.2.2.2.2.2.1, σ.2.2.2.2.2.2.2.2.2.2.2.2.2.2.2.2.2.2.2.2.2.2.1, σ.2.2.2.2.2.2.2.2.2.2.2.2.2.2.2.2.2.2.2.2.2.2.2.1, σ.2.2.2.2.2.2.2.2.2.2.2.2.2.2.2.2.2.2.2.2.2.2.2.2.1, σ.2.2.2.2.2.2.2.2.2.2.2.2.2.2.2.2.2.2.2.2.2.2.2.2.2.1, σ.2.2.2.2.2.2.2.2.2.2.2.2.2.2.2.2.2.2.2.2.2.2.2.2.2.2.1, σ.2.2.2.2.2.2.2.2.2.2.2.2.2.2.2.2.2.2.2.2.2.2.2.2.2.2.2.1, σ.2.2.2.2.2.2.2.2.2.2.2.2.2.2.2.2.2.2.2.2.2.2.2.2.2.2.2.2.1, σ.2.2.2.2.2.2.2.2.2.2.2.2.2.2.2.2.2.2.2.2.2.2.2.2.2.2.2.2.2.1, σ.2.2.2.2.2.2.2.2.2.2.2.2.2.2.2.2.2.2.2.2.2.2.2.2.2.2.2.2.2.2.1, σ.2.2.2.2.2.2.2.2.2.2.2.2.2.2.2.2.2.2.2.2.2.2.2.2.2.2.2.2.2.2.2.1, σ.2.2.2.2.2.2.2.2.2.2.2.2.2.2.2.2.2.2.2.2.2.2.2.2.2.2.2.2.2.2.2.2.1, σ.2.2.2.2.2.2.2.2.2.2.2.2.2.2.2.2.2.2.2.2.2.2.2.2.2.2.2.2.2.2.2.2.2.1, σ.2.2.2.2.2.2.2.2.2.2.2.2.2.2.2.2.2.2.2.2.2.2.2.2.2.2.2.2.2.2.2.2.2.2)
abbrev M_put_generic (σ : StM) (i v : Int32) : StM := (σ.1, σ.2.1, σ.2.2.1, σ.2.2.2.1, σ.2.2.2.2.1, upd σ.2.2.2.2.2.1 i.toNatClampNeg v, σ.2.2.2.2.2.2.1, σ.2.2.2.2.2.2.2.1, σ.2.2.2.2.2.2.2.2.1, σ.2.2.2.2.2.2.2.2.2.1, σ.2.2.2.2.2.2.2.2.2.2.1, σ.2.2.2.2.2.2.2.2.2.2.2.1, σ.2.2.2.2.2.2.2.2.2.2.2.2.1, σ.2.2.2.2.2.2.2.2.2.2.2.2.2.1, σ.2.2.2.2.2.2.2.2.2.2.2.2.2.2.1, σ.2.2.2.2.2.2.2.2.2.2.2.2.2.2.2.1, σ.2.2.2.2.2.2.2.2.2.2.2.2.2.2.2.2.1, σ.2.2.2.2.2.2.2.2.2.2.2.2.2.2.2.2.2.1, σ.2.2.2.2.2.2.2.2.2.2.2.2.2.2.2.2.2.2.1, σ.2.2.2.2.2.2.2.2.2.2.2.2.2.2.2.2.2.2.2.1, σ.2.2.2.2.2.2.2.2.2.2.2.2.2.2.2.2.2.2.2.2.1, σ.2.2.2.2.2.2.2.2.2.2.2.2.2.2.2.2.2.2.2.2.2.1, σ.2.2.2.2.2.2.2.2.2.2.2.2.2.2.2.2.2.2.2.2.2.2.1, σ.2.2.2.2.2.2.2.2.2.2.2.2.2.2.2.2.2.2.2.2.2.2.2.1, σ.2.2.2.2.2.2.2.2.2.2.2.2.2.2.2.2.2.2.2.2.2.2.2.2.1, σ.2.2.2.2.2.2.2.2.2.2.2.2.2.2.2.2.2.2.2.2.2.2.2.2.2.1, σ.2.2.2.2.2.2.2.2.2.2.2.2.2.2.2.2.2.2.2.2.2.2.2.2.2.2.1, σ.2.2.2.2.2.2.2.2.2.2.2.2.2.2.2.2.2.2.2.2.2.2.2.2.2.2.2.1, σ.2.2.2.2.2.2.2.2.2.2.2.2.2.2.2.2.2.2.2.2.2.2.2.2.2.2.2.2.1, σ.2.2.2.2.2.2.2.2.2.2.2.2.2.2.2.2.2.2.2.2.2.2.2.2.2.2.2.2.2.1, σ.2.2.2.2.2.2.2.2.2.2.2.2.2.2.2.2.2.2.2.2.2.2.2.2.2.2.2.2.2.2.1, σ.2.2.2.2.2.2.2.2.2.2.2.2.2.2.2.2.2.2.2.2.2.2.2.2.2.2.2.2.2.2.2.1, σ.2.2.2.2.2.2.2.2.2.2.2.2.2.2.2.2.2.2.2.2.2.2.2.2.2.2.2.2.2.2.2.2.1, σ.2.2.2.2.2.2.2.2.2.2.2.2.2.2.2.2.2.2.2.2.2.2.2.2.2.2.2.2.2.2.2.2.2.1, σ.2.2.2.2.2.2.2.2.2.2.2.2.2.2.2.2.2.2.2.2.2.2.2.2.2.2.2.2.2.2.2.2.2.2)
abbrev M_set_directs (σ : StM) (v : (Nat → Int32)) : StM := (σ.1, σ.2.1, σ.2.2.1, σ.2.2.2.1, σ.2.2.2.2.1, σ.2.2.2.2.2.1, v, σ.2.2.2.2.2.2.2.1, σ.2.2.2.2.2.2.2.2.1, σ.2.2.2.2.2.2.2.2.2.1, σ.2.2.2.2.2.2.2.2.2.2.1, σ.2.2.2.2.2.2.2.2.2.2.2.1, σ.2.2.2.2.2.2.2.2.2.2.2.2.1, σ.2.2.2.2.2.2.2.2.2.2.2.2.2.1, σ.2.2.2.2.2.2.2.2.2.2.2.2.2.2.1, σ.2.2.2.2.2.2.2.2.2.2.2.2.2.2.2.1, σ.2.2.2.2.2.2.2.2.2.2.2.2.2.2.2.2.1, σ.2.2.2.2.2.2.2.2.2.2.2.2.2.2.2.2.2.1, σ.2.2.2.2.2.2.2.2.2.2.2.2.2.2.2.2.2.2.1, σ.2.2.2.2.2.2.2.2.2.2.2.2.2.2.2.2.2.2.2.1, σ.2.2.2.2.2.2.2.2.2.2.2.2.2.2.2.2.2.2.2.2.1, σ.2.2.2.2.2.2.2.2.2.2.2.2.2.2.2.2.2.2.2.2.2.1, σ.2.2.2.2.2.2.2.2.2.2.2.2.2.2.2.2.2.2.2.2.2.2.1, σ.2.2.2.2.2.2.2.2.2.2.2.2.2.2.2.2.2.2.2.2.2.2.2.1, σ.2.2.2.2.2.2.2.2.2.2.2.2.2.2.2.2.2.2.2.2.2.2.2.2.1, σ.2.2.2.2.2.2.2.2.2.2.2.2.2.2.2.2.2.2.2.2.2.2.2.2.2.1, σ.2.2.2.2.2.2.2.2.2.2.2.2.2.2.2.2.2.2.2.2.2.2.2.2.2.2.1, σ.2.2.2.2.2.2.2.2.2.2.2.2.2.2.2.2.2.2.2.2.2.2.2.2.2.2.2.1, σ.2.2.2.2.2.2.2.2.2.2.2.2.2.2.2.2.2.2.2.2.2.2.2.2.2.2.2.2.1, σ.2.2.2.2.2.2.2.2.2.2.2.2.2.2.2.2.2.2.2.2.2.2.2.2.2.2.2.2.2.1, σ.2.2.2.2.2.2.2.2.2.2.2.2.2.2.2.2.2.2.2.2.2.2.2.2.2.2.2.2.2.2.1, σ.2.2.2.2.2.2.2.2.2.2.2.2.2.2.2.2.2.2.2.2.2.2.2.2.2.2.2.2.2.2.2.1, σ.2.2.2.2.2.2.2.2.2.2.2.2.2.2.2.2.2.2.2.2.2.2.2.2.2.2.2.2.2.2.2.2.1, σ.2.2.2.2.2.2.2.2.2.2.2.2.2.2.2.2.2.2.2.2.2.2.2.2.2.2.2.2.2.2.2.2.2.1, σ.2.2.2.2.2.2.2.2.2.2.2.2.2.2.2.2.2.2.2.2.2.2.2.2.2.2.2.2.2.2.2.2.2.2)
abbrev M_put_directs (σ : StM) (i v : Int32) : StM := (σ.1, σ.2.1, σ.2.2.1, σ.2.2.2.1, σ.2.2.2.2.1, σ.2.2.2.2.2.1, upd σ.2.2.2.2.2.2.1 i.toNatClampNeg v, σ.2.2.2.2.2.2.2.1, σ.2.2.2.2.2.2.2.2.1, σ.2.2.2.2.2.2.2.2.2.1, σ.2.2.2.2.2.2.2.2.2.2.1, σ.2.2.2.2.2.2.2.2.2.2.2.1, σ.2.2.2.2.2.2.2.2.2.2.2.2.1, σ.2.2.2.2.2.2.2.2.2.2.2.2.2.1, σ.2.2.2.2.2.2.2.2.2.2.2.2.2.2.1, σ.2.2.2.2.2.2.2.2.2.2.2.2.2.2.2.1, σ.2.2.2.2.2.2.2.2.2.2.2.2.2.2.2.2.1, σ.2.2.2.2.2.2.2.2.2.2.2.2.2.2.2.2.2.1, σ.2.2.2.2.2.2.2.2.2.2.2.2.2.2.2.2.2.2.1, σ.2.2.2.2.2.2.2.2.2.2.2.2.2.2.2.2.2.2.2.1, σ.2.2.2.2.2.2.2.2.2.2.2.2.2.2.2.2.2.2.2.2.1, σ.2.2.2.2.2.2.2.2.2.2.2.2.2.2.2.2.2.2.2.2.2.1, σ.2.2.2.2.2.2.2.2.2.2.2.2.2.2.2.2.2.2.2.2.2.2.1, σ.2.2.2.2.2.2.2.2.2.2.2.2.2.2.2.2.2.2.2.2.2.2.2.1, σ.2.2.2.2.2.2.2.2.2.2.2.2.2.2.2.2.2.2.2.2.2.2.2.2.1, σ.2.2.2.2.2.2.2.2.2.2.2.2.2.2.2.2.2.2.2.2.2.2.2.2.2.1, σ.2.2.2.2.2.2.2.2.2.2.2.2.2.2.2.2.2.2.2.2.2.2.2.2.2.2.1, σ.2.2.2.2.2.2.2.2.2.2.2.2.2.2.2.2.2.2.2.2.2.2.2.2.2.2.2.1, σ.2.2.2.2.2.2.2.2.2.2.2.2.2.2.2.2.2.2.2.2.2.2.2.2.2.2.2.2.1, σ.2.2.2.2.2.2.2.2.2.2.2.2.2.2.2.2.2.2.2.2.2.2.2.2.2.2.2.2.2.1, σ.2.2.2.2.2.2.2.2.2.2.2.2.2.2.2.2.2.2.2.2.2.2.2.2.2.2.2.2.2.2.1, σ.2.2.2.2.2.2.2.2.2.2.2.2.2.2.2.2.2.2.2.2.2.2.2.2.2.2.2.2.2.2.2.1, σ.2.2.2.2.2.2.2.2.2.2.2.2.2.2.2.2.2.2.2.2.2.2.2.2.2.2.2.2.2.2.2.2.1, σ.2.2.2.2.2.2.2.2.2.2.2.2.2.2.2.2.2.2.2.2.2.2.2.2.2.2.2.2.2.2.2.2.2.1, σ.2.2.2.2.2.2.2.2.2.2.2.2.2.2.2.2.2.2.2.2.2.2.2.2.2.2.2.2.2.2.2.2.2.2)
abbrev M_set_directTo (σ : StM) (v : (Nat → Int32)) : StM := (σ.1, σ.2.1, σ.2.2.1, σ.2.2.2.1, σ.2.2.2.2.1, σ.2.2.2.2.2.1, σ.2.2.2.2.2.2.1, v, σ.2.2.2.2.2.2.2.2.1, σ.2.2.2.2.2.2.2.2.2.1, σ.2.2.2.2.2.2.2.2.2.2.1, σ.2.2.2.2.2.2.2.2.2.2.2.1, σ.2.2.2.2.2.2.2.2.2.2.2.2.1, σ.2.2.2.2.2.2.2.2.2.2.2.2.2.1, σ.2.2.2.2.2.2.2.2.2.2.2.2.2.2.1, σ.2.2.2.2.2.2.2.2.2.2.2.2.2.2.2.1, σ.2.2.2.2.2.2.2.2.2.2.2.2.2.2.2.2.1, σ.2.2.2.2.2.2.2.2.2.2.2.2.2.2.2.2.2.1, σ.2.2.2.2.2.2.2.2.2.2.2.2.2.2.2.2.2.2.1, σ.2.2.2.2.2.2.2.2.2.2.2.2.2.2.2.2.2.2.2.1, σ.2.2.2.2.2.2.2.2.2.2.2.2.2.2.2.2.2.2.2.2.1, σ.2.2.2.2.2.2.2.2.2.2.2.2.2.2.2.2.2.2.2.2.2.1, σ.2.2.2.2.2.2.2.2.2.2.2.2.2.2.2.2.2.2.2.2.2.2.1, σ.2.2.2.2.2.2.2.2.2.2.2.2.2.2.2.2.2.2.2.2.2.2.2.1, σ.2.2.2.2.2.2.2.2.2.2.2.2.2.2.2.2.2.2.2.2.2.2.2.2.1, σ.2.2.2.2.2.2.2.2.2.2.2.2.2.2.2.2.2.2.2.2.2.2.2.2.2.1, σ.2.2.2.2.2.2.2.2.2.2.2.2.2.2.2.2.2.2.2.2.2.2.2.2.2.2.1, σ.2.2.2.2.2.2.2.2.2.2.2.2.2.2.2.2.2.2.2.2.2.2.2.2.2.2.2.1, σ.2.2.2.2.2.2.2.2.2.2.2.2.2.2.2.2.2.2.2.2.2.2.2.2.2.2.2.2.1, σ.2.2.2.2.2.2.2.2.2.2.2.2.2.2.2.2.2.2.2.2.2.2.2.2.2.2.2.2.2.1, σ.2.2.2.2.2.2.2.2.2.2.2.2.2.2.2.2.2.2.2.2.2.2.2.2.2.2.2.2.2.2.1, σ.2.2.2.2.2.2.2.2.2.2.2.2.2.2.2.2.2.2.2.2.2.2.2.2.2.2.2.2.2.2.2.1, σ.2.2.2.2.2.2.2.2.2.2.2.2.2.2.2.2.2.2.2.2.2.2.2.2.2.2.2.2.2.2.2.2.1, σ.2.2.2.2.2.2.2.2.2.2.2.2.2.2.2.2.2.2.2.2.2.2.2.2.2.2.2.2.2.2.2.2.2.1, σ.2.2.2.2.2.2.2.2.2.2.2.2.2.2.2.2.2.2.2.2.2.2.2.2.2.2.2.2.2.2.2.2.2.2)
abbrev M_put_directTo (σ : StM) (i v : Int32) : StM := (σ.1, σ.2.1, σ.2.2.1, σ.2.2.2.1, σ.2.2.2.2.1, σ.2.2.2.2.2.1, σ.2.2.2.2.2.2.1, upd σ.2.2.2.2.2.2.2.1 i.toNatClampNeg v, σ.2.2.2.2.2.2.2.2.1, σ.2.2.2.2.2.2.2.2.2.1, σ.2.2.2.2.2.2.2.2.2.2.1, σ.2.2.2.2.2.2.2.2.2.2.2.1, σ.2.2.2.2.2.2.2.2.2.2.2.2.1, σ.2.2.2.2.2.2.2.2.2.2.2.2.2.1, σ.2.2.2.2.2.2.2.2.2.2.2.2.2.2.1, σ.2.2.2.2.2.2.2.2.2.2.2.2.2.2.2.1, σ.2.2.2.2.2.2.2.2.2.2.2.2.2.2.2.2.1, σ.2.2.2.2.2.2.2.2.2.2.2.2.2.2.2.2.2.1, σ.2.2.2.2.2.2.2.2.2.2.2.2.2.2.2.2.2.2.1, σ.2.2.2.2.2.2.2.2.2.2.2.2.2.2.2.2.2.2.2.1, σ.2.2.2.2.2.2.2.2.2.2.2.2.2.2.2.2.2.2.2.2.1, σ.2.2.2.2.2.2.2.2.2.2.2.2.2.2.2.2.2.2.2.2.2.1, σ.2.2.2.2.2.2.2.2.2.2.2.2.2.2.2.2.2.2.2.2.2.2.1, σ.2.2.2.2.2.2.2.2.2.2.2.2.2.2.2.2.2.2.2.2.2.2.2.1, σ.2.2.2.2.2.2.2.2.2.2.2.2.2.2.2.2.2.2.2.2.2.2.2.2.1, σ.2.2.2.2.2.2.2.2.2.2.2.2.2.2.2.2.2.2.2.2.2.2.2.2.2.1, σ.2.2.2.2.2.2.2.2.2.2.2.2.2.2.2.2.2.2.2.2.2.2.2.2.2.2.1, σ.2.2.2.2.2.2.2.2.2.2.2.2.2.2.2.2.2.2.2.2.2.2.2.2.2.2.2.1, σ.2.2.2.2.2.2.2.2.2.2.2.2.2.2.2.2.2.2.2.2.2.2.2.2.2.2.2.2.1, σ.2.2.2.2.2.2.2.2.2.2.2.2.2.2.2.2.2.2.2.2.2.2.2.2.2.2.2.2.2.1, σ.2.2.2.2.2.2.2.2.2.2.2.2.2.2.2.2.2.2.2.2.2.2.2.2.2.2.2.2.2.2.1, σ.2.2.2.2.2.2.2.2.2.2.2.2.2.2.2.2.2.2.2.2.2.2.2.2.2.2.2.2.2.2.2.1, σ.2.2.2.2.2.2.2.2.2.2.2.2.2.2.2.2.2.2.2.2.2.2.2.2.2.2.2.2.2.2.2.2.1, σ.2.2.2.2.2.2.2.2.2.2.2.2.2.2.2.2.2.2.2.2.2.2.2.2.2.2.2.2.2.2.2.2.2.1, σ.2.2.2.2.2.2.2.2.2.2.2.2.2.2.2.2.2.2.2.2.2.2.2.2.2.2.2.2.2.2.2.2.2.2)
abbrev M_set_directArg (σ : StM) (v : (Nat → Int32)) : StM := (σ.1, σ.2.1, σ.2.2.1, σ.2.2.2.1, σ.2.2.2.2.1, σ.2.2.2.2.2.1, σ.2.2.2.2.2.2.1, σ.2.2.2.2.2.2.2.1, v, σ.2.2.2.2.2.2.2.2.2.1, σ.2.2.2.2.2.2.2.2.2.2.1, σ.2.2.2.2.2.2.2.2.2.2.2.1, σ.2.2.2.2.2.2.2.2.2.2.2.2.1, σ.2.2.2.2.2.2.2.2.2.2.2.2.2.1, σ.2.2.2.2.2.2.2.2.2.2.2.2.2.2.1, σ.2.2.2.2.2.2.2.2.2.2.2.2.2.2.2.1, σ.2.2.2.2.2.2.2.2.2.2.2.2.2.2.2.2.1, σ.2.2.2.2.2.2.2.2.2.2.2.2.2.2.2.2.2.1, σ.2.2.2.2.2.2.2.2.2.2.2.2.2.2.2.2.2.2.1, σ.2.2.2.2.2.2.2.2.2.2.2.2.2.2.2.2.2.2.2.1, σ.2.2.2.2.2.2.2.2.2.2.2.2.2.2.2.2.2.2.2.2.1, σ.2.2.2.2.2.2.2.2.2.2.2.2.2.2.2.2.2.2.2.2.2.1, σ.2.2.2.2.2.2.2.2.2.2.2.2.2.2.2.2.2.2.2.2.2.2.1, σ.2.2.2.2.2.2.2.2.2.2.2.2.2.2.2.2.2.2.2.2.2.2.2.1, σ.2.2.2.2.2.2.2.2.2.2.2.2.2.2.2.2.2.2.2.2.2.2.2.2.1, σ.2.2.2.2.2.2.2.2.2.2.2.2.2.2.2.2.2.2.2.2.2.2.2.2.2.1, σ.2.2.2.2.2.2.2.2.2.2.2.2.2.2.2.2.2.2.2.2.2.2.2.2.2.2.1, σ.2.2.2.2.2.2.2.2.2.2.2.2.2.2.2.2.2.2.2.2.2.2.2.2.2.2.2.1, σ.2.2.2.2.2.2.2.2.2.2.2.2.2.2.2.2.2.2.2.2.2.2.2.2.2.2.2.2.1, σ.2.2.2.2.2.2.2.2.2.2.2.2.2.2.2.2.2.2.2.2.2.2.2.2.2.2.2.2.2.1, σ.2.2.2.2.2.2.2.2.2.2.2.2.2.2.2.2.2.2.2.2.2.2.2.2.2.2.2.2.2.2.1, σ.2.2.2.2.2.2.2.2.2.2.2.2.2.2.2.2.2.2.2.2.2.2.2.2.2.2.2.2.2.2.2.1, σ.2.2.2.2.2.2.2.2.2.2.2.2.2.2.2.2.2.2.2.2.2.2.2.2.2.2.2.2.2.2.2.2.1, σ.2.2.2.2.2.2.2.2.2.2.2.2.2.2.2.2.2.2.2.2.2.2.2.2.2.2.2.2.2.2.2.2.2.1, σ.2.2.2.2.2.2.2.2.2.2.2.2.2.2.2.2.2.2.2.2.2.2.2.2.2.2.2.2.2.2.2.2.2.2)
abbrev M_put_directArg (σ : StM) (i v : Int32) : StM := (σ.1, σ.2.1, σ.2.2.1, σ.2.2.2.1, σ.2.2.2.2.1, σ.2.2.2.2.2.1, σ.2.2.2.2.2.2.1, σ.2.2.2.2.2.2.2.1, upd σ.2.2.2.2.2.2.2.2.1 i.toNatClampNeg v, σ.2.2.2.2.2.2.2.2.2.1, σ.2.2.2.2.2.2.2.2.2.2.1, σ.2.2.2.2.2.2.2.2.2.2.2.1, σ.2.2.2.2.2.2.2.2.2.2.2.2.1, σ.2.2.2.2.2.2.2.2.2.2.2.2.2.1, σ.2.2.2.2.2.2.2.2.2.2.2.2.2.2.1, σ.2.2.2.2.2.2.2.2.2.2.2.2.2.2.2.1, σ.2.2.2.2.2.2.2.2.2.2.2.2.2.2.2.2.1, σ.2.2.2.2.2.2.2.2.2.2.2.2.2.2.2.2.2.1, σ.2.2.2.2.2.2.2.2.2.2.2.2.2.2.2.2.2.2.1, σ.2.2.2.2.2.2.2.2.2.2.2.2.2.2.2.2.2.2.2.1, σ.2.2.2.2.2.2.2.2.2.2.2.2.2.2.2.2.2.2.2.2.1, σ.2.2.2.2.2.2.2.2.2.2.2.2.2.2.2.2.2.2.2.2.2.1, σ.2.2.2.2.2.2.2.2.2.2.2.2.2.2.2.2.2.2.2.2.2.2.1, σ.2.2.2.2.2.2.2.2.2.2.2.2.2.2.2.2.2.2.2.2.2.2.2.1, σ.2.2.2.2.2.2.2.2.2.2.2.2.2.2.2.2.2.2.2.2.2.2.2.2.1, σ.2.2.2.2.2.2.2.2.2.2.2.2.2.2.2.2.2.2.2.2.2.2.2.2.2.1, σ.2.2.2.2.2.2.2.2.2.2.2.2.2.2.2.2.2.2.2.2.2.2.2.2.2.2.1, σ.2.2.2.2.2.2.2.2.2.2.2.2.2.2.2.2.2.2.2.2.2.2.2.2.2.2.2.1, σ.2.2.2.2.2.2.2.2.2.2.2.2.2.2.2.2.2.2.2.2.2.2.2.2.2.2.2.2.1, σ.2.2.2.2.2.2.2.2.2.2.2.2.2.2.2.2.2.2.2.2.2.2.2.2.2.2.2.2.2.1, σ.2.2.2.2.2.2.2.2.2.2.2.2.2.2.2.2.2.2.2.2.2.2.2.2.2.2.2.2.2.2.1, σ.2.2.2.2.2.2.2.2.2.2.2.2.2.2.2.2.2.2.2.2.2.2.2.2.2.2.2.2.2.2.2.1, σ.2.2.2.2.2.2.2.2.2.2.2.2.2.2.2.2.2.2.2.2.2.2.2.2.2.2.2.2.2.2.2.2.1, σ.2.2.2.2.2.2.2.2.2.2.2.2.2.2.2.2.2.2.2.2.2.2.2.2.2.2.2.2.2.2.2.2.2.1, σ.2.2.2.2.2.2.2.2.2.2.2.2.2.2.2.2.2.2.2.2.2.2.2.2.2.2.2.2.2.2.2.2.2.2)
abbrev M_set_over (σ : StM) (v : (Nat → Int32)) : StM := (σ.1, σ.2.1, σ.2.2.1, σ.2.2.2.1, σ.2.2.2.2.1, σ.2.2.2.2.2.1, σ.2.2.2.2.2.2.1, σ.2.2.2.2.2.2.2.1, σ.2.2.2.2.2.2.2.2.1, v, σ.2.2.2.2.2.2.2.2.2.2.1, σ.2.2.2.2.2.2.2.2.2.2.2.1, σ.2.2.2.2.2.2.2.2.2.2.2.2.1, σ.2.2.2.2.2.2.2.2.2.2.2.2.2.1, σ.2.2.2.2.2.2.2.2.2.2.2.2.2.2.1, σ.2.2.2.2.2.2.2.2.2.2.2.2.2.2.2.1, σ.2.2.2.2.2.2.2.2.2.2.2.2.2.2.2.2.1, σ.2.2.2.2.2.2.2.2.2.2.2.2.2.2.2.2.2.1, σ.2.2.2.2.2.2.2.2.2.2.2.2.2.2.2.2.2.2.1, σ.2.2.2.2.2.2.2.2.2.2.2.2.2.2.2.2.2.2.2.1, σ.2.2.2.2.2.2.2.2.2.2.2.2.2.2.2.2.2.2.2.2.1, σ.2.2.2.2.2.2.2.2.2.2.2.2.2.2.2.2.2.2.2.2.2.1, σ.2.2.2.2.2.2.2.2.2.2.2.2.2.2.2.2.2.2.2.2.2.2.1, σ.2.2.2.2.2.2.2.2.2.2.2.2.2.2.2.2.2.2.2.2.2.2.2.1, σ.2.2.2.2.2.2.2.2.2.2.2.2.2.2.2.2.2.2.2.2.2.2.2.2.1, σ.2.2.2.2.2.2.2.2.2.2.2.2.2.2.2.2.2.2.2.2.2.2.2.2.2.1, σ.2.2.2.2.2.2.2.2.2.2.2.2.2.2.2.2.2.2.2.2.2.2.2.2.2.2.1, σ.2.2.2.2.2.2.2.2.2.2.2.2.2.2.2.2.2.2.2.2.2.2.2.2.2.2.2.1, σ.2.2.2.2.2.2.2.2.2.2.2.2.2.2.2.2.2.2.2.2.2.2.2.2.2.2.2.2.1, σ.2.2.2.2.2.2.2.2.2.2.2.2.2.2.2.2.2.2.2.2.2.2.2.2.2.2.2.2.2.1, σ.2.2.2.2.2.2.2.2.2.2.2.2.2.2.2.2.2.2.2.2.2.2.2.2.2.2.2.2.2.2.1, σ.2.2.2.2.2.2.2.2.2.2.2.2.2.2.2.2.2.2.2.2.2.2.2.2.2.2.2.2.2.2.2.1, σ.2.2.2.2.2.2.2.2.2.2.2.2.2.2.2.2.2.2.2.2.2.2.2.2.2.2.2.2.2.2.2.2.1, σ.2.2.2.2.2.2.2.2.2.2.2.2.2.2.2.2.2.2.2.2.2.2.2.2.2.2.2.2.2.2.2.2.2.1, σ.2.2.2.2.2.2.2.2.2.2.2.2.2.2.2.2.2.2.2.2.2.2.2.2.2.2.2.2.2.2.2.2.2.2)
abbrev M_put_over (σ : StM) (i v : Int32) : StM := (σ.1, σ.2.1, σ.2.2.1, σ.2.2.2.1, σ.2.2.2.2.1, σ.2.2.2.2.2.1, σ.2.2.2.2.2.2.1, σ.2.2.2.2.2.2.2.1, σ.2.2.2.2.2.2.2.2.1, upd σ.2.2.2.2.2.2.2.2.2.1 i.toNatClampNeg v, σ.2.2.2.2.2.2.2.2.2.2.1, σ.2.2.2.2.2.2.2.2.2.2.2.1, σ.2.2.2.2.2.2.2.2.2.2.2.2.1, σ.2.2.2.2.2.2.2.2.2.2.2.2.2.1, σ.2.2.2.2.2.2.2.2.2.2.2.2.2.2.1, σ.2.2.2.2.2.2.2.2.2.2.2.2.2.2.2.1, σ.2.2.2.2.2.2.2.2.2.2.2.2.2.2.2.2.1, σ.2.2.2.2.2.2.2.2.2.2.2.2.2.2.2.2.2.1, σ.2.2.2.2.2.2.2.2.2.2.2.2.2.2.2.2.2.2.1, σ.2.2.2.2.2.2.2.2.2.2.2.2.2.2.2.2.2.2.2.1, σ.2.2.2.2.2.2.2.2.2.2.2.2.2.2.2.2.2.2.2.2.1, σ.2.2.2.2.2.2.2.2.2.2.2.2.2.2.2.2.2.2.2.2.2.1, σ.2.2.2.2.2.2.2.2.2.2.2.2.2.2.2.2.2.2.2.2.2.2.1, σ.2.2.2.2.2.2.2.2.2.2.2.2.2.2.2.2.2.2.2.2.2.2.2.1, σ.2.2.2.2.2.2.2.2.2.2.2.2.2.2.2.2.2.2.2.2.2.2.2.2.1, σ.2.2.2.2.2.2.2.2.2.2.2.2.2.2.2.2.2.2.2.2.2.2.2.2.2.1, σ.2.2.2.2.2.2.2.2.2.2.2.2.2.2.2.2.2.2.2.2.2.2.2.2.2.2.1, σ.2.2.2.2.2.2.2.2.2.2.2.2.2.2.2.2.2.2.2.2.2.2.2.2.2.2.2.1, σ.2.2.2.2.2.2.2.2.2.2.2.2.2.2.2.2.2.2.2.2.2.2.2.2.2.2.2.2.1, σ.2.2.2.2.2.2.2.2.2.2.2.2.2.2.2.2.2.2.2.2.2.2.2.2.2.2.2.2.2.1, σ.2.2.2.2.2.2.2.2.2.2.2.2.2.2.2.2.2.2.2.2.2.2.2.2.2.2.2.2.2.2.1, σ.2.2.2.2.2.2.2.2.2.2.2.2.2.2.2.2.2.2.2.2.2.2.2.2.2.2.2.2.2.2.2.1, σ.2.2.2.2.2.2.2.2.2.2.2.2.2.2.2.2.2.2.2.2.2.2.2.2.2.2.2.2.2.2.2.2.1, σ.2.2.2.2.2.2.2.2.2.2.2.2.2.2.2.2.2.2.2.2.2.2.2.2.2.2.2.2.2.2.2.2.2.1, σ.2.2.2.2.2.2.2.2.2.2.2.2.2.2.2.2.2.2.2.2.2.2.2.2.2.2.2.2.2.2.2.2.2.2)
abbrev M_set_types (σ : StM) (v : Int32) : StM := (σ.1, σ.2.1, σ.2.2.1, σ.2.2.2.1, σ.2.2.2.2.1, σ.2.2.2.2.2.1, σ.2.2.2.2.2.2.1, σ.2.2.2.2.2.2.2.1, σ.2.2.2.2.2.2.2.2.1, σ.2.2.2.2.2.2.2.2.2.1, v, σ.2.2.2.2.2.2.2.2.2.2.2.1, σ.2.2.2.2.2.2.2.2.2.2.2.2.1, σ.2.2.2.2.2.2.2.2.2.2.2.2.2.1, σ.2.2.2.2.2.2.2.2.2.2.2.2.2.2.1, σ.2.2.2.2.2.2.2.2.2.2.2.2.2.2.2.1, σ.2.2.2.2.2.2.2.2.2.2.2.2.2.2.2.2.1, σ.2.2.2.2.2.2.2.2.2.2.2.2.2.2.2.2.2.1, σ.2.2.2.2.2.2.2.2.2.2.2.2.2.2.2.2.2.2.1, σ.2.2.2.2.2.2.2.2.2.2.2.2.2.2.2.2.2.2.2.1, σ.2.2.2.2.2.2.2.2.2.2.2.2.2.2.2.2.2.2.2.2.1, σ.2.2.2.2.2.2.2.2.2.2.2.2.2.2.2.2.2.2.2.2.2.1, σ.2.2.2.2.2.2.2.2.2.2.2.2.2.2.2.2.2.2.2.2.2.2.1, σ.2.2.2.2.2.2.2.2.2.2.2.2.2.2.2.2.2.2.2.2.2.2.2.1, σ.2.2.2.2.2.2.2.2.2.2.2.2.2.2.2.2.2.2.2.2.2.2.2.2.1, σ.2.2.2.2.2.2.2.2.2.2.2.2.2.2.2.2.2.2.2.2.2.2.2.2.2.1, σ.2.2.2.2.2.2.2.2.2.2.2.2.2.2.2.2.2.2.2.2.2.2.2.2.2.2.1, σ.2.2.2.2.2.2.2.2.2.2.2.2.2.2.2.2.2.2.2.2.2.2.2.2.2.2.2.1, σ.2.2.2.2.2.2.2.2.2.2.2.2.2.2.2.2.2.2.2.2.2.2.2.2.2.2.2.2.1, σ.2.2.2.2.2.2.2.2.2.2.2.2.2.2.2.2.2.2.2.2.2.2.2.2.2.2.2.2.2.1, σ.2.2.2.2.2.2.2.2.2.2.2.2.2.2.2.2.2.2.2.2.2.2.2.2.2.2.2.2.2.2.1, σ.2.2.2.2.2.2.2.2.2.2.2.2.2.2.2.2.2.2.2.2.2.2.2.2.2.2.2.2.2.2.2.1, σ.2.2.2.2.2.2.2.2.2.2.2.2.2.2.2.2.2.2.2.2.2.2.2.2.2.2.2.2.2.2.2.2.1, σ.2.2.2.2.2.2.2.2.2.2.2.2.2.2.2.2.2.2.2.2.2.2.2.2.2.2.2.2.2.2.2.2.2.1, σ.2.2.2.2.2.2.2.2.2.2.2.2.2.2.2.2.2.2.2.2.2.2.2.2.2.2.2.2.2.2.2.2.2.2)
abbrev M_set_kind (σ : StM) (v : (Nat → Int32)) : StM := (σ.1, σ.2.1, σ.2.2.1, σ.2.2.2.1, σ.2.2.2.2.1, σ.2.2.2.2.2.1, σ.2.2.2.2.2.2.1, σ.2.2.2.2.2.2.2.1, σ.2.2.2.2.2.2.2.2.1, σ.2.2.2.2.2.2.2.2.2.1, σ.2.2.2.2.2.2.2.2.2.2.1, v, σ.2.2.2.2.2.2.2.2.2.2.2.2.1, σ.2.2.2.2.2.2.2.2.2.2.2.2.2.1, σ.2.2.2.2.2.2.2.2.2.2.2.2.2.2.1, σ.2.2.2.2.2.2.2.2.2.2.2.2.2.2.2.1, σ.2.2.2.2.2.2.2.2.2.2.2.2.2.2.2.2.1, σ.2.2.2.2.2.2.2.2.2.2.2.2.2.2.2.2.2.1, σ.2.2.2.2.2.2.2.2.2.2.2.2.2.2.2.2.2.2.1, σ.2.2.2.2.2.2.2.2.2.2.2.2.2.2.2.2.2.2.2.1, σ.2.2.2.2.2.2.2.2.2.2.2.2.2.2.2.2.2.2.2.2.1, σ.2.2.2.2.2.2.2.2.2.2.2.2.2.2.2.2.2.2.2.2.2.1, σ.2.2.2.2.2.2.2.2.2.2.2.2.2.2.2.2.2.2.2.2.2.2.1, σ.2.2.2.2.2.2.2.2.2.2.2.2.2.2.2.2.2.2.2.2.2.2.2.1, σ.2.2.2.2.2.2.2.2.2.2.2.2.2.2.2.2.2.2.2.2.2.2.2.2.1, σ.2.2.2.2.2.2.2.2.2.2.2.2.2.2.2.2.2.2.2.2.2.2.2.2.2.1, σ.2.2.2.2.2.2.2.2.2.2.2.2.2.2.2.2.2.2.2.2.2.2.2.2.2.2.1, σ.2.2.2.2.2.2.2.2.2.2.2.2.2.2.2.2.2.2.2.2.2.2.2.2.2.2.2.1, σ.2.2.2.2.2.2.2.2.2.2.2.2.2.2.2.2.2.2.2.2.2.2.2.2.2.2.2.2.1, σ.2.2.2.2.2.2.2.2.2.2.2.2.2.2.2.2.2.2.2.2.2.2.2.2.2.2.2.2.2.1, σ.2.2.2.2.2.2.2.2.2.2.2.2.2.2.2.2.2.2.2.2.2.2.2.2.2.2.2.2.2.2.1, σ.2.2.2.2.2.2.2.2.2.2.2.2.2.2.2.2.2.2.2.2.2.2.2.2.2.2.2.2.2.2.2.1, σ.2.2.2.2.2.2.2.2.2.2.2.2.2.2.2.2.2.2.2.2.2.2.2.2.2.2.2.2.2.2.2.2.1, σ.2.2.2.2.2.2.2.2.2.2.2.2.2.2.2.2.2.2.2.2.2.2.2.2.2.2.2.2.2.2.2.2.2.1, σ.2.2.2.2.2.2.2.2.2.2.2.2.2.2.2.2.2.2.2.2.2.2.2.2.2.2.2.2.2.2.2.2.2.2)
abbrev M_put_kind (σ : StM) (i v : Int32) : StM := (σ.1, σ.2.1, σ.2.2.1, σ.2.2.2.1, σ.2.2.2.2.1, σ.2.2.2.2.2.1, σ.2.2.2.2.2.2.1, σ.2.2.2.2.2.2.2.1, σ.2.2.2.2.2.2.2.2.1, σ.2.2.2.2.2.2.2.2.2.1, σ.2.2.2.2.2.2.2.2.2.2.1, upd σ.2.2.2.2.2.2.2.2.2.2.2.1 i.toNatClampNeg v, σ.2.2.2.2.2.2.2.2.2.2.2.2.1, σ.2.2.2.2.2.2.2.2.2.2.2.2.2.1, σ.2.2.2.2.2.2.2.2.2.2.2.2.2.2.1, σ.2.2.2.2.2.2.2.2.2.2.2.2.2.2.2.1, σ.2.2.2.2.2.2.2.2.2.2.2.2.2.2.2.2.1, σ.2.2.2.2.2.2.2.2.2.2.2.2.2.2.2.2.2.1, σ.2.2.2.2.2.2.2.2.2.2.2.2.2.2.2.2.2.2.1, σ.2.2.2.2.2.2.2.2.2.2.2.2.2.2.2.2.2.2.2.1, σ.2.2.2.2.2.2.2.2.2.2.2.2.2.2.2.2.2.2.2.2.1, σ.2.2.2.2.2.2.2.2.2.2.2.2.2.2.2.2.2.2.2.2.2.1, σ.2.2.2.2.2.2.2.2.2.2.2.2.2.2.2.2.2.2.2.2.2.2.1, σ.2.2.2.2.2.2.2.2.2.2.2.2.2.2.2.2.2.2.2.2.2.2.2.1, σ.2.2.2.2.2.2.2.2.2.2.2.2.2.2.2.2.2.2.2.2.2.2.2.2.1, σ.2.2.2.2.2.2.2.2.2.2.2.2.2.2.2.2.2.2.2.2.2.2.2.2.2.1, σ.2.2.2.2.2.2.2.2.2.2.2.2.2.2.2.2.2.2.2.2.2.2.2.2.2.2.1, σ.2.2.2.2.2.2.2.2.2.2.2.2.2.2.2.2.2.2.2.2.2.2.2.2.2.2.2.1, σ.2.2.2.2.2.2.2.2.2.2.2.2.2.2.2.2.2.2.2.2.2.2.2.2.2.2.2.2.1, σ.2.2.2.2.2.2.2.2.2.2.2.2.2.2.2.2.2.2.2.2.2.2.2.2.2.2.2.2.2.1, σ.2.2.2.2.2.2.2.2.2.2.2.2.2.2.2.2.2.2.2.2.2.2.2.2.2.2.2.2.2.2.1, σ.2.2.2.2.2.2.2.2.2.2.2.2.2.2.2.2.2.2.2.2.2.2.2.2.2.2.2.2.2.2.2.1, σ.2.2.2.2.2.2.2.2.2.2.2.2.2.2.2.2.2.2.2.2.2.2.2.2.2.2.2.2.2.2.2.2.1, σ.2.2.2.2.2.2.2.2.2.2.2.2.2.2.2.2.2.2.2.2.2.2.2.2.2.2.2.2.2.2.2.2.2.1, σ.2.2.2.2.2.2.2.2.2.2.2.2.2.2.2.2.2.2.2.2.2.2.2.2.2.2.2.2.2.2.2.2.2.2)
abbrev M_set_classOf (σ : StM) (v : (Nat → Int32)) : StM := (σ.1, σ.2.1, σ.2.2.1, σ.2.2.2.1, σ.2.2.2.2.1, σ.2.2.2.2.2.1, σ.2.2.2.2.2.2.1, σ.2.2.2.2.2.2.2.1, σ.2.2.2.2.2.2.2.2.1, σ.2.2.2.2.2.2.2.2.2.1, σ.2.2.2.2.2.2.2.2.2.2.1, σ.2.2.2.2.2.2.2.2.2.2.2.1, v, σ.2.2.2.2.2.2.2.2.2.2.2.2.2.1, σ.2.2.2.2.2.2.2.2.2.2.2.2.2.2.1, σ.2.2.2.2.2.2.2.2.2.2.2.2.2.2.2.1, σ.2.2.2.2.2.2.2.2.2.2.2.2.2.2.2.2.1, σ.2.2.2.2.2.2.2.2.2.2.2.2.2.2.2.2.2.1, σ.2.2.2.2.2.2.2.2.2.2.2.2.2.2.2.2.2.2.1, σ.2.2.2.2.2.2.2.2.2.2.2.2.2.2.2.2.2.2.2.1, σ.2.2.2.2.2.2.2.2.2.2.2.2.2.2.2.2.2.2.2.2.1, σ.2.2.2.2.2.2.2.2.2.2.2.2.2.2.2.2.2.2.2.2.2.1, σ.2.2.2.2.2.2.2.2.2.2.2.2.2.2.2.2.2.2.2.2.2.2.1, σ.2.2.2.2.2.2.2.2.2.2.2.2.2.2.2.2.2.2.2.2.2.2.2.1, σ.2.2.2.2.2.2.2.2.2.2.2.2.2.2.2.2.2.2.2.2.2.2.2.2.1, σ.2.2.2.2.2.2.2.2.2.2.2.2.2.2.2.2.2.2.2.2.2.2.2.2.2.1, σ.2.2.2.2.2.2.2.2.2.2.2.2.2.2.2.2.2.2.2.2.2.2.2.2.2.2.1, σ.2.2.2.2.2.2.2.2.2.2.2.2.2.2.2.2.2.2.2.2.2.2.2.2.2.2.2.1, σ.2.2.2.2.2.2.2.2.2.2.2.2.2.2.2.2.2.2.2.2.2.2.2.2.2.2.2.2.1, σ.2.2.2.2.2.2.2.2.2.2.2.2.2.2.2.2.2.2.2.2.2.2.2.2.2.2.2.2.2.1, σ.2.2.2.2.2.2.2.2.2.2.2.2.2.2.2.2.2.2.2.2.2.2.2.2.2.2.2.2.2.2.1, σ.2.2.2.2.2.2.2.2.2.2.2.2.2.2.2.2.2.2.2.2.2.2.2.2.2.2.2.2.2.2.2.1, σ.2.2.2.2.2.2.2.2.2.2.2.2.2.2.2.2.2.2.2.2.2.2.2.2.2.2.2.2.2.2.2.2.1, σ.2.2.2.2.2.2.2.2.2.2.2.2.2.2.2.2.2.2.2.2.2.2.2.2.2.2.2.2.2.2.2.2.2.1, σ.2.2.2.2.2.2.2.2.2.2.2.2.2.2.2.2.2.2.2.2.2.2.2.2.2.2.2.2.2.2.2.2.2.2)
abbrev M_put_classOf (σ : StM) (i v : Int32) : StM := (σ.1, σ.2.1, σ.2.2.1, σ.2.2.2.1, σ.2.2.2.2.1, σ.2.2.2.2.2.1, σ.2.2.2.2.2.2.1, σ.2.2.2.2.2.2.2.1, σ.2.2.2.2.2.2.2.2.1, σ.2.2.2.2.2.2.2.2.2.1, σ.2.2.2.2.2.2.2.2.2.2.1, σ.2.2.2.2.2.2.2.2.2.2.2.1, upd σ.2.2.2.2.2.2.2.2.2.2.2.2.1 i.toNatClampNeg v, σ.2.2.2.2.2.2.2.2.2.2.2.2.2.1, σ.2.2.2.2.2.2.2.2.2.2.2.2.2.2.1, σ.2.2.2.2.2.2.2.2.2.2.2.2.2.2.2.1, σ.2.2.2.2.2.2.2.2.2.2.2.2.2.2.2.2.1, σ.2.2.2.2.2.2.2.2.2.2.2.2.2.2.2.2.2.1, σ.2.2.2.2.2.2.2.2.2.2.2.2.2.2.2.2.2.2.1, σ.2.2.2.2.2.2.2.2.2.2.2.2.2.2.2.2.2.2.2.1, σ.2.2.2.2.2.2.2.2.2.2.2.2.2.2.2.2.2.2.2.2.1, σ.2.2.2.2.2.2.2.2.2.2.2.2.2.2.2.2.2.2.2.2.2.1, σ.2.2.2.2.2.2.2.2.2.2.2.2.2.2.2.2.2.2.2.2.2.2.1, σ.2.2.2.2.2.2.2.2.2.2.2.2.2.2.2.2.2.2.2.2.2.2.2.1, σ.2.2.2.2.2.2.2.2.2.2.2.2.2.2.2.2.2.2.2.2.2.2.2.2.1, σ.2.2.2.2.2.2.2.2.2.2.2.2.2.2.2.2.2.2.2.2.2.2.2.2.2.1, σ.2.2.2.2.2.2.2.2.2.2.2.2.2.2.2.2.2.2.2.2.2.2.2.2.2.2.1, σ.2.2.2.2.2.2.2.2.2.2.2.2.2.2.2.2.2.2.2.2.2.2.2.2.2.2.2.1, σ.2.2.2.2.2.2.2.2.2.2.2.2.2.2.2.2.2.2.2.2.2.2.2.2.2.2.2.2.1, σ.2.2.2.2.2.2.2.2.2.2.2.2.2.2.2.2.2.2.2.2.2.2.2.2.2.2.2.2.2.1, σ.2.2.2.2.2.2.2.2.2.2.2.2.2.2.2.2.2.2.2.2.2.2.2.2.2.2.2.2.2.2.1, σ.2.2.2.2.2.2.2.2.2.2.2.2.2.2.2.2.2.2.2.2.2.2.2.2.2.2.2.2.2.2.2.1, σ.2.2.2.2.2.2.2.2.2.2.2.2.2.2.2.2.2.2.2.2.2.2.2.2.2.2.2.2.2.2.2.2.1, σ.2.2.2.2.2.2.2.2.2.2.2.2.2.2.2.2.2.2.2.2.2.2.2.2.2.2.2.2.2.2.2.2.2.1, σ.2.2.2.2.2.2.2.2.2.2.2.2.2.2.2.2.2.2.2.2.2.2.2.2.2.2.2.2.2.2.2.2.2.2)
abbrev M_set_how (σ : StM) (v : (Nat → Int32)) : StM := (σ.1, σ.2.1, σ.2.2.1, σ.2.2.2.1, σ.2.2.2.2.1, σ.2.2.2.2.2.1, σ.2.2.2.2.2.2.1, σ.2.2.2.2.2.2.2.1, σ.2.2.2.2.2.2.2.2.1, σ.2.2.2.2.2.2.2.2.2.1, σ.2.2.2.2.2.2.2.2.2.2.1, σ.2.2.2.2.2.2.2.2.2.2.2.1, σ.2.2.2.2.2.2.2.2.2.2.2.2.1, v, σ.2.2.2.2.2.2.2.2.2.2.2.2.2.2.1, σ.2.2.2.2.2.2.2.2.2.2.2.2.2.2.2.1, σ.2.2.2.2.2.2.2.2.2.2.2.2.2.2.2.2.1, σ.2.2.2.2.2.2.2.2.2.2.2.2.2.2.2.2.2.1, σ.2.2.2.2.2.2.2.2.2.2.2.2.2.2.2.2.2.2.1, σ.2.2.2.2.2.2.2.2.2.2.2.2.2.2.2.2.2.2.2.1, σ.2.2.2.2.2.2.2.2.2.2.2.2.2.2.2.2.2.2.2.2.1, σ.2.2.2.2.2.2.2.2.2.2.2.2.2.2.2.2.2.2.2.2.2.1, σ.2.2.2.2.2.2.2.2.2.2.2.2.2.2.2.2.2.2.2.2.2.2.1, σ.2.2.2.2.2.2.2.2.2.2.2.2.2.2.2.2.2.2.2.2.2.2.2.1, σ.2.2.2.2.2.2.2.2.2.2.2.2.2.2.2.2.2.2.2.2.2.2.2.2.1, σ.2.2.2.2.2.2.2.2.2.2.2.2.2.2.2.2.2.2.2.2.2.2.2.2.2.1, σ.2.2.2.2.2.2.2.2.2.2.2.2.2.2.2.2.2.2.2.2.2.2.2.2.2.2.1, σ.2.2.2.2.2.2.2.2.2.2.2.2.2.2.2.2.2.2.2.2.2.2.2.2.2.2.2.1, σ.2.2.2.2.2.2.2.2.2.2.2.2.2.2.2.2.2.2.2.2.2.2.2.2.2.2.2.2.1, σ.2.2.2.2.2.2.2.2.2.2.2.2.2.2.2.2.2.2.2.2.2.2.2.2.2.2.2.2.2.1, σ.2.2.2.2.2.2.2.2.2.2.2.2.2.2.2.2.2.2.2.2.2.2.2.2.2.2.2.2.2.2.1, σ.2.2.2.2.2.2.2.2.2.2.2.2.2.2.2.2.2.2.2.2.2.2.2.2.2.2.2.2.2.2.2.1, σ.2.2.2.2.2.2.2.2.2.2.2.2.2.2.2.2.2.2.2.2.2.2.2.2.2.2.2.2.2.2.2.2.1, σ.2.2.2.2.2.2.2.2.2.2.2.2.2.2.2.2.2.2.2.2.2.2.2.2.2.2.2.2.2.2.2.2.2.1, σ.2.2.2.2.2.2.2.2.2.2.2.2.2.2.2.2.2.2.2.2.2.2.2.2.2.2.2.2.2.2.2.2.2.2)
abbrev M_put_how (σ : StM) (i v : Int32) : StM := (σ.1, σ.2.1, σ.2.2.1, σ.2.2.2.1, σ.2.2.2.2.1, σ.2.2.2.2.2.1, σ.2.2.2.2.2.2.1, σ.2.2.2.2.2.2.2.1, σ.2.2.2.2.2.2.2.2.1, σ.2.2.2.2.2.2.2.2.2.1, σ.2.2.2.2.2.2.2.2.2.2.1, σ.2.2.2.2.2.2.2.2.2.2.2.1, σ.2.2.2.2.2.2.2.2.2.2.2.2.1, upd σ.2.2.2.2.2.2.2.2.2.2.2.2.2.1 i.toNatClampNeg v, σ.2.2.2.2.2.2.2.2.2.2.2.2.2.2.1, σ.2.2.2.2.2.2.2.2.2.2.2.2.2.2.2.1, σ.2.2.2.2.2.2.2.2.2.2.2.2.2.2.2.2.1, σ.2.2.2.2.2.2.2.2.2.2.2.2.2.2.2.2.2.1, σ.2.2.2.2.2.2.2.2.2.2.2.2.2.2.2.2.2.2.1, σ.2.2.2.2.2.2.2.2.2.2.2.2.2.2.2.2.2.2.2.1, σ.2.2.2.2.2.2.2.2.2.2.2.2.2.2.2.2.2.2.2.2.1, σ.2.2.2.2.2.2.2.2.2.2.2.2.2.2.2.2.2.2.2.2.2.1, σ.2.2.2.2.2.2.2.2.2.2.2.2.2.2.2.2.2.2.2.2.2.2.1, σ.2.2.2.2.2.2.2.2.2.2.2.2.2.2.2.2.2.2.2.2.2.2.2.1, σ.2.2.2.2.2.2.2.2.2.2.2.2.2.2.2.2.2.2.2.2.2.2.2.2.1, σ.2.2.2.2.2.2.2.2.2.2.2.2.2.2.2.2.2.2.2.2.2.2.2.2.2.1, σ.2.2.2.2.2.2.2.2.2.2.2.2.2.2.2.2.2.2.2.2.2.2.2.2.2.2.1, σ.2.2.2.2.2.2.2.2.2.2.2.2.2.2.2.2.2.2.2.2.2.2.2.2.2.2.2.1, σ.2.2.2.2.2.2.2.2.2.2.2.2.2.2.2.2.2.2.2.2.2.2.2.2.2.2.2.2.1, σ.2.2.2.2.2.2.2.2.2.2.2.2.2.2.2.2.2.2.2.2.2.2.2.2.2.2.2.2.2.1, σ.2.2.2.2.2.2.2.2.2.2.2.2.2.2.2.2.2.2.2.2.2.2.2.2.2.2.2.2.2.2.1, σ.2.2.2.2.2.2.2.2.2.2.2.2.2.2.2.2.2.2.2.2.2.2.2.2.2.2.2.2.2.2.2.1, σ.2.2.2.2.2.2.2.2.2.2.2.2.2.2.2.2.2.2.2.2.2.2.2.2.2.2.2.2.2.2.2.2.1, σ.2.2.2.2.2.2.2.2.2.2.2.2.2.2.2.2.2.2.2.2.2.2.2.2.2.2.2.2.2.2.2.2.2.1, σ.2.2.2.2.2.2.2.2.2.2.2.2.2.2.2.2.2.2.2.2.2.2.2.2.2.2.2.2.2.2.2.2.2.2)
abbrev M_set_inner (σ : StM) (v : (Nat → Int32)) : StM := (σ.1, σ.2.1, σ.2.2.1, σ.2.2.2.1, σ.2.2.2.2.1, σ.2.2.2.2.2.1, σ.2.2.2.2.2.2.1, σ.2.2.2.2.2.2.2.1, σ.2.2.2.2.2.2.2.2.1, σ.2.2.2.2.2.2.2.2.2.1, σ.2.2.2.2.2.2.2.2.2.2.1, σ.2.2.2.2.2.2.2.2.2.2.2.1, σ.2.2.2.2.2.2.2.2.2.2.2.2.1, σ.2.2.2.2.2.2.2.2.2.2.2.2.2.1, v, σ.2.2.2.2.2.2.2.2.2.2.2.2.2.2.2.1, σ.2.2.2.2.2.2.2.2.2.2.2.2.2.2.2.2.1, σ.2.2.2.2.2.2.2.2.2.2.2.2.2.2.2.2.2.1, σ.2.2.2.2.2.2.2.2.2.2.2.2.2.2.2.2.2.2.1, σ.2.2.2.2.2.2.2.2.2.2.2.2.2.2.2.2.2.2.2.1, σ.2.2.2.2.2.2.2.2.2.2.2.2.2.2.2.2.2.2.2.2.1, σ.2.2.2.2.2.2.2.2.2.2.2.2.2.2.2.2.2.2.2.2.2.1, σ.2.2.2.2.2.2.2.2.2.2.2.2.2.2.2.2.2.2.2.2.2.2.1, σ.2.2.2.2.2.2.2.2.2.2.2.2.2.2.2.2.2.2.2.2.2.2.2.1, σ.2.2.2.2.2.2.2.2.2.2.2.2.2.2.2.2.2.2.2.2.2.2.2.2.1, σ.2.2.2.2.2.2.2.2.2.2.2.2.2.2.2.2.2.2.2.2.2.2.2.2.2.1, σ.2.2.2.2.2.2.2.2.2.2.2.2.2.2.2.2.2.2.2.2.2.2.2.2.2.2.1, σ.2.2.2.2.2.2.2.2.2.2.2.2.2.2.2.2.2.2.2.2.2.2.2.2.2.2.2.1, σ.2.2.2.2.2.2.2.2.2.2.2.2.2.2.2.2.2.2.2.2.2.2.2.2.2.2.2.2.1, σ.2.2.2.2.2.2.2.2.2.2.2.2.2.2.2.2.2.2.2.2.2.2.2.2.2.2.2.2.2.1, σ.2.2.2.2.2.2.2.2.2.2.2.2.2.2.2.2.2.2.2.2.2.2.2.2.2.2.2.2.2.2.1, σ.2.2.2.2.2.2.2.2.2.2.2.2.2.2.2.2.2.2.2.2.2.2.2.2.2.2.2.2.2.2.2.1, σ.2.2.2.2.2.2.2.2.2.2.2.2.2.2.2.2.2.2.2.2.2.2.2.2.2.2.2.2.2.2.2.2.1, σ.2.2.2.2.2.2.2.2.2.2.2.2.2.2.2.2.2.2.2.2.2.2.2.2.2.2.2.2.2.2.2.2.2.1, σ.2.2.2.2.2.2.2.2.2.2.2.2.2.2.2.2.2.2.2.2.2.2.2.2.2.2.2.2.2.2.2.2.2.2)
abbrev M_put_inner (σ : StM) (i v : Int32) : StM := (σ.1, σ.2.1, σ.2.2.1, σ.2.2.2.1, σ.2.2.2.2.1, σ.2.2.2.2.2.1, σ.2.2.2.2.2.2.1, σ.2.2.2.2.2.2.2.1, σ.2.2.2.2.2.2.2.2.1, σ.2.2.2.2.2.2.2.2.2.1, σ.2.2.2.2.2.2.2.2.2.2.1, σ.2.2.2.2.2.2.2.2.2.2.2.1, σ.2.2.2.2.2.2.2.2.2.2.2.2.1, σ.2.2.2.2.2.2.2.2.2.2.2.2.2.1, upd σ.2.2.2.2.2.2.2.2.2.2.2.2.2.2.1 i.toNatClampNeg v, σ.2.2.2.2.2.2.2.2.2.2.2.2.2.2.2.1, σ.2.2.2.2.2.2.2.2.2.2.2.2.2.2.2.2.1, σ.2.2.2.2.2.2.2.2.2.2.2.2.2.2.2.2.2.1, σ.2.2.2.2.2.2.2.2.2.2.2.2.2.2.2.2.2.2.1, σ.2.2.2.2.2.2.2.2.2.2.2.2.2.2.2.2.2.2.2.1, σ.2.2.2.2.2.2.2.2.2.2.2.2.2.2.2.2.2.2.2.2.1, σ.2.2.2.2.2.2.2.2.2.2.2.2.2.2.2.2.2.2.2.2.2.1, σ.2.2.2.2.2.2.2.2.2.2.2.2.2.2.2.2.2.2.2.2.2.2.1, σ.2.2.2.2.2.2.2.2.2.2.2.2.2.2.2.2.2.2.2.2.2.2.2.1, σ.2.2.2.2.2.2.2.2.2.2.2.2.2.2.2.2.2.2.2.2.2.2.2.2.1, σ.2.2.2.2.2.2.2.2.2.2.2.2.2.2.2.2.2.2.2.2.2.2.2.2.2.1, σ.2.2.2.2.2.2.2.2.2.2.2.2.2.2.2.2.2.2.2.2.2.2.2.2.2.2.1, σ.2.2.2.2.2.2.2.2.2.2.2.2.2.2.2.2.2.2.2.2.2.2.2.2.2.2.2.1, σ.2.2.2.2.2.2.2.2.2.2.2.2.2.2.2.2.2.2.2.2.2.2.2.2.2.2.2.2.1, σ.2.2.2.2.2.2.2.2.2.2.2.2.2.2.2.2.2.2.2.2.2.2.2.2.2.2.2.2.2.1, σ.2.2.2.2.2.2.2.2.2.2.2.2.2.2.2.2.2.2.2.2.2.2.2.2.2.2.2.2.2.2.1, σ.2.2.2.2.2.2.2.2.2.2.2.2.2.2.2.2.2.2.2.2.2.2.2.2.2.2.2.2.2.2.2.1, σ.2.2.2.2.2.2.2.2.2.2.2.2.2.2.2.2.2.2.2.2.2.2.2.2.2.2.2.2.2.2.2.2.1, σ.2.2.2.2.2.2.2.2.2.2.2.2.2.2.2.2.2.2.2.2.2.2.2.2.2.2.2.2.2.2.2.2.2.1, σ.2.2.2.2.2.2.2.2.2.2.2.2.2.2.2.2.2.2.2.2.2.2.2.2.2.2.2.2.2.2.2.2.2.2)
abbrev M_set_made (σ : StM) (v : (Nat → Int32)) : StM := (σ.1, σ.2.1, σ.2.2.1, σ.2.2.2.1, σ.2.2.2.2.1, σ.2.2.2.2.2.1, σ.2.2.2.2.2.2.1, σ.2.2.2.2.2.2.2.1, σ.2.2.2.2.2.2.2.2.1, σ.2.2.2.2.2.2.2.2.2.1, σ.2.2.2.2.2.2.2.2.2.2.1, σ.2.2.2.2.2.2.2.2.2.2.2.1, σ.2.2.2.2.2.2.2.2.2.2.2.2.1, σ.2.2.2.2.2.2.2.2.2.2.2.2.2.1, σ.2.2.2.2.2.2.2.2.2.2.2.2.2.2.1, v, σ.2.2.2.2.2.2.2.2.2.2.2.2.2.2.2.2.1, σ.2.2.2.2.2.2.2.2.2.2.2.2.2.2.2.2.2.1, σ.2.2.2.2.2.2.2.2.2.2.2.2.2.2.2.2.2.2.1, σ.2.2.2.2.2.2.2.2.2.2.2.2.2.2.2.2.2.2.2.1, σ.2.2.2.2.2.2.2.2.2.2.2.2.2.2.2.2.2.2.2.2.1, σ.2.2.2.2.2.2.2.2.2.2.2.2.2.2.2.2.2.2.2.2.2.1, σ.2.2.2.2.2.2.2.2.2.2.2.2.2.2.2.2.2.2.2.2.2.2.1, σ.2.2.2.2.2.2.2.2.2.2.2.2.2.2.2.2.2.2.2.2.2.2.2.1, σ.2.2.2.2.2.2.2.2.2.2.2.2.2.2.2.2.2.2.2.2.2.2.2.2.1, σ.2.2.2.2.2.2.2.2.2.2.2.2.2.2.2.2.2.2.2.2.2.2.2.2.2.1, σ.2.2.2.2.2.2.2.2.2.2.2.2.2.2.2.2.2.2.2.2.2.2.2.2.2.2.1, σ.2.2.2.2.2.2.2.2.2.2.2.2.2.2.2.2.2.2.2.2.2.2.2.2.2.2.2.1, σ.2.2.2.2.2.2.2.2.2.2.2.2.2.2.2.2.2.2.2.2.2.2.2.2.2.2.2.2.1, σ.2.2.2.2.2.2.2.2.2.2.2.2.2.2.2.2.2.2.2.2.2.2.2.2.2.2.2.2.2.1, σ.2.2.2.2.2.2.2.2.2.2.2.2.2.2.2.2.2.2.2.2.2.2.2.2.2.2.2.2.2.2.1, σ.2.2.2.2.2.2.2.2.2.2.2.2.2.2.2.2.2.2.2.2.2.2.2.2.2.2.2.2.2.2.2.1, σ.2.2.2.2.2.2.2.2.2.2.2.2.2.2.2.2.2.2.2.2.2.2.2.2.2.2.2.2.2.2.2.2.1, σ.2.2.2.2.2.2.2.2.2.2.2.2.2.2.2.2.2.2.2.2.2.2.2.2.2.2.2.2.2.2.2.2.2.1, σ.2.2.2.2.2.2.2.2.2.2.2.2.2.2.2.2.2.2.2.2.2.2.2.2.2.2.2.2.2.2.2.2.2.2)
abbrev M_put_made (σ : StM) (i v : Int32) : StM := (σ.1, σ.2.1, σ.2.2.1, σ.2.2.2.1, σ.2.2.2.2.1, σ.2.2.2.2.2.1, σ.2.2.2.2.2.2.1, σ.2.2.2.2.2.2.2.1, σ.2.2.2.2.2.2.2.2.1, σ.2.2.2.2.2.2.2.2.2.1, σ.2.2.2.2.2.2.2.2.2.2.1, σ.2.2.2.2.2.2.2.2.2.2.2.1, σ.2.2.2.2.2.2.2.2.2.2.2.2.1, σ.2.2.2.2.2.2.2.2.2.2.2.2.2.1, σ.2.2.2.2.2.2.2.2.2.2.2.2.2.2.1, upd σ.2.2.2.2.2.2.2.2.2.2.2.2.2.2.2.1 i.toNatClampNeg v, σ.2.2.2.2.2.2.2.2.2.2.2.2.2.2.2.2.1, σ.2.2.2.2.2.2.2.2.2.2.2.2.2.2.2.2.2.1, σ.2.2.2.2.2.2.2.2.2.2.2.2.2.2.2.2.2.2.1, σ.2.2.2.2.2.2.2.2.2.2.2.2.2.2.2.2.2.2.2.1, σ.2.2.2.2.2.2.2.2.2.2.2.2.2.2.2.2.2.2.2.2.1, σ.2.2.2.2.2.2.2.2.2.2.2.2.2.2.2.2.2.2.2.2.2.1, σ.2.2.2.2.2.2.2.2.2.2.2.2.2.2.2.2.2.2.2.2.2.2.1, σ.2.2.2.2.2.2.2.2.2.2.2.2.2.2.2.2.2.2.2.2.2.2.2.1, σ.2.2.2.2.2.2.2.2.2.2.2.2.2.2.2.2.2.2.2.2.2.2.2.2.1, σ.2.2.2.2.2.2.2.2.2.2.2.2.2.2.2.2.2.2.2.2.2.2.2.2.2.1, σ.2.2.2.2.2.2.2.2.2.2.2.2.2.2.2.2.2.2.2.2.2.2.2.2.2.2.1, σ.2.2.2.2.2.2.2.2.2.2.2.2.2.2.2.2.2.2.2.2.2.2.2.2.2.2.2.1, σ.2.2.2.2.2.2.2.2.2.2.2.2.2.2.2.2.2.2.2.2.2.2.2.2.2.2.2.2.1, σ.2.2.2.2.2.2.2.2.2.2.2.2.2.2.2.2.2.2.2.2.2.2.2.2.2.2.2.2.2.1, σ.2.2.2.2.2.2.2.2.2.2.2.2.2.2.2.2.2.2.2.2.2.2.2.2.2.2.2.2.2.2.1, σ.2.2.2.2.2.2.2.2.2.2.2.2.2.2.2.2.2.2.2.2.2.2.2.2.2.2.2.2.2.2.2.1, σ.2.2.2.2.2.2.2.2.2.2.2.2.2.2.2.2.2.2.2.2.2.2.2.2.2.2.2.2.2.2.2.2.1, σ.2.2.2.2.2.2.2.2.2.2.2.2.2.2.2.2.2.2.2.2.2.2.2.2.2.2.2.2.2.2.2.2.2.1, σ.2.2.2.2.2.2.2.2.2.2.2.2.2.2.2.2.2.2.2.2.2.2.2.2.2.2.2.2.2.2.2.2.2.2)
abbrev M_set_partCount (σ : StM) (v : (Nat → Int32)) : StM := (σ.1, σ.2.1, σ.2.2.1, σ.2.2.2.1, σ.2.2.2.2.1, σ.2.2.2.2.2.1, σ.2.2.2.2.2.2.1, σ.2.2.2.2.2.2.2.1, σ.2.2.2.2.2.2.2.2.1, σ.2.2.2.2.2.2.2.2.2.1, σ.2.2.2.2.2.2.2.2.2.2.1, σ.2.2.2.2.2.2.2.2.2.2.2.1, σ.2.2.2.2.2.2.2.2.2.2.2.2.1, σ.2.2.2.2.2.2.2.2.2.2.2.2.2.1, σ.2.2.2.2.2.2.2.2.2.2.2.2.2.2.1, σ.2.2.2.2.2.2.2.2.2.2.2.2.2.2.2.1, v, σ.2.2.2.2.2.2.2.2.2.2.2.2.2.2.2.2.2.1, σ.2.2.2.2.2.2.2.2.2.2.2.2.2.2.2.2.2.2.1, σ.2.2.2.2.2.2.2.2.2.2.2.2.2.2.2.2.2.2.2.1, σ.2.2.2.2.2.2.2.2.2.2.2.2.2.2.2.2.2.2.2.2.1, σ.2.2.2.2.2.2.2.2.2.2.2.2.2.2.2.2.2.2.2.2.2.1, σ.2.2.2.2.2.2.2.2.2.2.2.2.2.2.2.2.2.2.2.2.2.2.1, σ.2.2.2.2.2.2.2.2.2.2.2.2.2.2.2.2.2.2.2.2.2.2.2.1, σ.2.2.2.2.2.2.2.2.2.2.2.2.2.2.2.2.2.2.2.2.2.2.2.2.1, σ.2.2.2.2.2.2.2.2.2.2.2.2.2.2.2.2.2.2.2.2.2.2.2.2.2.1, σ.2.2.2.2.2.2.2.2.2.2.2.2.2.2.2.2.2.2.2.2.2.2.2.2.2.2.1, σ.2.2.2.2.2.2.2.2.2.2.2.2.2.2.2.2.2.2.2.2.2.2.2.2.2.2.2.1, σ.2.2.2.2.2.2.2.2.2.2.2.2.2.2.2.2.2.2.2.2.2.2.2.2.2.2.2.2.1, σ.2.2.2.2.2.2.2.2.2.2.2.2.2.2.2.2.2.2.2.2.2.2.2.2.2.2.2.2.2.1, σ.2.2.2.2.2.2.2.2.2.2.2.2.2.2.2.2.2.2.2.2.2.2.2.2.2.2.2.2.2.2.1, σ.2.2.2.2.2.2.2.2.2.2.2.2.2.2.2.2.2.2.2.2.2.2.2.2.2.2.2.2.2.2.2.1, σ.2.2.2.2.2.2.2.2.2.2.2.2.2.2.2.2.2.2.2.2.2.2.2.2.2.2.2.2.2.2.2.2.1, σ.2.2.2.2.2.2.2.2.2.2.2.2.2.2.2.2.2.2.2.2.2.2.2.2.2.2.2.2.2.2.2.2.2.1, σ.2.2.2.2.2.2.2.2.2.2.2.2.2.2.2.2.2.2.2.2.2.2.2.2.2.2.2.2.2.2.2.2.2.2)
abbrev M_put_partCount (σ : StM) (i v : Int32) : StM := (σ.1, σ.2.1, σ.2.2.1, σ.2.2.2.1, σ.2.2.2.2.1, σ.2.2.2.2.2.1, σ.2.2.2.2.2.2.1, σ.2.2.2.2.2.2.2.1, σ.2.2.2.2.2.2.2.2.1, σ.2.2.2.2.2.2.2.2.2.1, σ.2.2.2.2.2.2.2.2.2.2.1, σ.2.2.2.2.2.2.2.2.2.2.2.1, σ.2.2.2.2.2.2.2.2.2.2.2.2.1, σ.2.2.2.2.2.2.2.2.2.2.2.2.2.1, σ.2.2.2.2.2.2.2.2.2.2.2.2.2.2.1, σ.2.2.2.2.2.2.2.2.2.2.2.2.2.2.2.1, upd σ.2.2.2.2.2.2.2.2.2.2.2.2.2.2.2.2.1 i.toNatClampNeg v, σ.2.2.2.2.2.2.2.2.2.2.2.2.2.2.2.2.2.1, σ.2.2.2.2.2.2.2.2.2.2.2.2.2.2.2.2.2.2.1, σ.2.2.2.2.2.2.2.2.2.2.2.2.2.2.2.2.2.2.2.1, σ.2.2.2.2.2.2.2.2.2.2.2.2.2.2.2.2.2.2.2.2.1, σ.2.2.2.2.2.2.2.2.2.2.2.2.2.2.2.2.2.2.2.2.2.1, σ.2.2.2.2.2.2.2.2.2.2.2.2.2.2.2.2.2.2.2.2.2.2.1, σ.2.2.2.2.2.2.2.2.2.2.2.2.2.2.2.2.2.2.2.2.2.2.2.1, σ.2.2.2.2.2.2.2.2.2.2.2.2.2.2.2.2.2.2.2.2.2.2.2.2.1, σ.2.2.2.2.2.2.2.2.2.2.2.2.2.2.2.2.2.2.2.2.2.2.2.2.2.1, σ.2.2.2.2.2.2.2.2.2.2.2.2.2.2.2.2.2.2.2.2.2.2.2.2.2.2.1, σ.2.2.2.2.2.2.2.2.2.2.2.2.2.2.2.2.2.2.2.2.2.2.2.2.2.2.2.1, σ.2.2.2.2.2.2.2.2.2.2.2.2.2.2.2.2.2.2.2.2.2.2.2.2.2.2.2.2.1, σ.2.2.2.2.2.2.2.2.2.2.2.2.2.2.2.2.2.2.2.2.2.2.2.2.2.2.2.2.2.1, σ.2.2.2.2.2.2.2.2.2.2.2.2.2.2.2.2.2.2.2.2.2.2.2.2.2.2.2.2.2.2.1, σ.2.2.2.2.2.2.2.2.2.2.2.2.2.2.2.2.2.2.2.2.2.2.2.2.2.2.2.2.2.2.2.1, σ.2.2.2.2.2.2.2.2.2.2.2.2.2.2.2.2.2.2.2.2.2.2.2.2.2.2.2.2.2.2.2.2.1, σ.2.2.2.2.2.2.2.2.2.2.2.2.2.2.2.2.2.2.2.2.2.2.2.2.2.2.2.2.2.2.2.2.2.1, σ.2.2.2.2.2.2.2.2.2.2.2.2.2.2.2.2.2.2.2.2.2.2.2.2.2.2.2.2.2.2.2.2.2.2)
abbrev M_set_partRow (σ : StM) (v : (Nat → Int32)) : StM := (σ.1, σ.2.1, σ.2.2.1, σ.2.2.2.1, σ.2.2.2.2.1, σ.2.2.2.2.2.1, σ.2.2.2.2.2.2.1, σ.2.2.2.2.2.2.2.1, σ.2.2.2.2.2.2.2.2.1, σ.2.2.2.2.2.2.2.2.2.1, σ.2.2.2.2.2.2.2.2.2.2.1, σ.2.2.2.2.2.2.2.2.2.2.2.1, σ.2.2.2.2.2.2.2.2.2.2.2.2.1, σ.2.2.2.2.2.2.2.2.2.2.2.2.2.1, σ.2.2.2.2.2.2.2.2.2.2.2.2.2.2.1, σ.2.2.2.2.2.2.2.2.2.2.2.2.2.2.2.1, σ.2.2.2.2.2.2.2.2.2.2.2.2.2.2.2.2.1, v, σ.2.2.2.2.2.2.2.2.2.2.2.2.2.2.2.2.2.2.1, σ.2.2.2.2.2.2.2.2.2.2.2.2.2.2.2.2.2.2.2.1, σ.2.2.2.2.2.2.2.2.2.2.2.2.2.2.2.2.2.2.2.2.1, σ.2.2.2.2.2.2.2.2.2.2.2.2.2.2.2.2.2.2.2.2.2.1, σ.2.2.2.2.2.2.2.2.2.2.2.2.2.2.2.2.2.2.2.2.2.2.1, σ.2.2.2.2.2.2.2.2.2.2.2.2.2.2.2.2.2.2.2.2.2.2.2.1, σ.2.2.2.2.2.2.2.2.2.2.2.2.2.2.2.2.2.2.2.2.2.2.2.2.1, σ.2.2.2.2.2.2.2.2.2.2.2.2.2.2.2.2.2.2.2.2.2.2.2.2.2.1, σ.2.2.2.2.2.2.2.2.2.2.2.2.2.2.2.2.2.2.2.2.2.2.2.2.2.2.1, σ.2.2.2.2.2.2.2.2.2.2.2.2.2.2.2.2.2.2.2.2.2.2.2.2.2.2.2.1, σ.2.2.2.2.2.2.2.2.2.2.2.2.2.2.2.2.2.2.2.2.2.2.2.2.2.2.2.2.1, σ.2.2.2.2.2.2.2.2.2.2.2.2.2.2.2.2.2.2.2.2.2.2.2.2.2.2.2.2.2.1, σ.2.2.2.2.2.2.2.2.2.2.2.2.2.2.2.2.2.2.2.2.2.2.2.2.2.2.2.2.2.2.1, σ.2.2.2.2.2.2.2.2.2.2.2.2.2.2.2.2.2.2.2.2.2.2.2.2.2.2.2.2.2.2.2.1, σ.2.2.2.2.2.2.2.2.2.2.2.2.2.2.2.2.2.2.2.2.2.2.2.2.2.2.2.2.2.2.2.2.1, σ.2.2.2.2.2.2.2.2.2.2.2.2.2.2.2.2.2.2.2.2.2.2.2.2.2.2.2.2.2.2.2.2.2.1, σ.2.2.2.2.2.2.2.2.2.2.2.2.2.2.2.2.2.2.2.2.2.2.2.2.2.2.2.2.2.2.2.2.2.2)
abbrev M_put_partRow (σ : StM) (i v : Int32) : StM := (σ.1, σ.2.1, σ.2.2.1, σ.2.2.2.1, σ.2.2.2.2.1, σ.2.2.2.2.2.1, σ.2.2.2.2.2.2.1, σ.2.2.2.2.2.2.2.1, σ.2.2.2.2.2.2.2.2.1, σ.2.2.2.2.2.2.2.2.2.1, σ.2.2.2.2.2.2.2.2.2.2.1, σ.2.2.2.2.2.2.2.2.2.2.2.1, σ.2.2.2.2.2.2.2.2.2.2.2.2.1, σ.2.2.2.2.2.2.2.2.2.2.2.2.2.1, σ.2.2.2.2.2.2.2.2.2.2.2.2.2.2.1, σ.2.2.2.2.2.2.2.2.2.2.2.2.2.2.2.1, σ.2.2.2.2.2.2.2.2.2.2.2.2.2.2.2.2.1, upd σ.2.2.2.2.2.2.2.2.2.2.2.2.2.2.2.2.2.1 i.toNatClampNeg v, σ.2.2.2.2.2.2.2.2.2.2.2.2.2.2.2.2.2.2.1, σ.2.2.2.2.2.2.2.2.2.2.2.2.2.2.2.2.2.2.2.1, σ.2.2.2.2.2.2.2.2.2.2.2.2.2.2.2.2.2.2.2.2.1, σ.2.2.2.2.2.2.2.2.2.2.2.2.2.2.2.2.2.2.2.2.2.1, σ.2.2.2.2.2.2.2.2.2.2.2.2.2.2.2.2.2.2.2.2.2.2.1, σ.2.2.2.2.2.2.2.2.2.2.2.2.2.2.2.2.2.2.2.2.2.2.2.1, σ.2.2.2.2.2.2.2.2.2.2.2.2.2.2.2.2.2.2.2.2.2.2.2.2.1, σ.2.2.2.2.2.2.2.2.2.2.2.2.2.2.2.2.2.2.2.2.2.2.2.2.2.1, σ.2.2.2.2.2.2.2.2.2.2.2.2.2.2.2.2.2.2.2.2.2.2.2.2.2.2.1, σ.2.2.2.2.2.2.2.2.2.2.2.2.2.2.2.2.2.2.2.2.2.2.2.2.2.2.2.1, σ.2.2.2.2.2.2.2.2.2.2.2.2.2.2.2.2.2.2.2.2.2.2.2.2.2.2.2.2.1, σ.2.2.2.2.2.2.2.2.2.2.2.2.2.2.2.2.2.2.2.2.2.2.2.2.2.2.2.2.2.1, σ.2.2.2.2.2.2.2.2.2.2.2.2.2.2.2.2.2.2.2.2.2.2.2.2.2.2.2.2.2.2.1, σ.2.2.2.2.2.2.2.2.2.2.2.2.2.2.2.2.2.2.2.2.2.2.2.2.2.2.2.2.2.2.2.1, σ.2.2.2.2.2.2.2.2.2.2.2.2.2.2.2.2.2.2.2.2.2.2.2.2.2.2.2.2.2.2.2.2.1, σ.2.2.2.2.2.2.2.2.2.2.2.2.2.2.2.2.2.2.2.2.2.2.2.2.2.2.2.2.2.2.2.2.2.1, σ.2.2.2.2.2.2.2.2.2.2.2.2.2.2.2.2.2.2.2.2.2.2.2.2.2.2.2.2.2.2.2.2.2.2)
abbrev M_set_full (σ : StM) (v : Int32) : StM := (σ.1, σ.2.1, σ.2.2.1, σ.2.2.2.1, σ.2.2.2.2.1, σ.2.2.2.2.2.1, σ.2.2.2.2.2.2.1, σ.2.2.2.2.2.2.2.1, σ.2.2.2.2.2.2.2.2.1, σ.2.2.2.2.2.2.2.2.2.1, σ.2.2.2.2.2.2.2.2.2.2.1, σ.2.2.2.2.2.2.2.2.2.2.2.1, σ.2.2.2.2.2.2.2.2.2.2.2.2.1, σ.2.2.2.2.2.2.2.2.2.2.2.2.2.1, σ.2.2.2.2.2.2.2.2.2.2.2.2.2.2.1, σ.2.2.2.2.2.2.2.2.2.2.2.2.2.2.2.1, σ.2.2.2.2.2.2.2.2.2.2.2.2.2.2.2.2.1, σ.2.2.2.2.2.2.2.2.2.2.2.2.2.2.2.2.2.1, v, σ.2.2.2.2.2.2.2.2.2.2.2.2.2.2.2.2.2.2.2.1, σ.2.2.2.2.2.2.2.2.2.2.2.2.2.2.2.2.2.2.2.2.1, σ.2.2.2.2.2.2.2.2.2.2.2.2.2.2.2.2.2.2.2.2.2.1, σ.2.2.2.2.2.2.2.2.2.2.2.2.2.2.2.2.2.2.2.2.2.2.1, σ.2.2.2.2.2.2.2.2.2.2.2.2.2.2.2.2.2.2.2.2.2.2.2.1, σ.2.2.2.2.2.2.2.2.2.2.2.2.2.2.2.2.2.2.2.2.2.2.2.2.1, σ.2.2.2.2.2.2.2.2.2.2.2.2.2.2.2.2.2.2.2.2.2.2.2.2.2.1, σ.2.2.2.2.2.2.2.2.2.2.2.2.2.2.2.2.2.2.2.2.2.2.2.2.2.2.1, σ.2.2.2.2.2.2.2.2.2.2.2.2.2.2.2.2.2.2.2.2.2.2.2.2.2.2.2.1, σ.2.2.2.2.2.2.2.2.2.2.2.2.2.2.2.2.2.2.2.2.2.2.2.2.2.2.2.2.1, σ.2.2.2.2.2.2.2.2.2.2.2.2.2.2.2.2.2.2.2.2.2.2.2.2.2.2.2.2.2.1, σ.2.2.2.2.2.2.2.2.2.2.2.2.2.2.2.2.2.2.2.2.2.2.2.2.2.2.2.2.2.2.1, σ.2.2.2.2.2.2.2.2.2.2.2.2.2.2.2.2.2.2.2.2.2.2.2.2.2.2.2.2.2.2.2.1, σ.2.2.2.2.2.2.2.2.2.2.2.2.2.2.2.2.2.2.2.2.2.2.2.2.2.2.2.2.2.2.2.2.1, σ.2.2.2.2.2.2.2.2.2.2.2.2.2.2.2.2.2.2.2.2.2.2.2.2.2.2.2.2.2.2.2.2.2.1, σ.2.2.2.2.2.2.2.2.2.2.2.2.2.2.2.2.2.2.2.2.2.2.2.2.2.2.2.2.2.2.2.2.2.2)
abbrev M_set_found (σ : StM) (v : Int32) : StM := (σ.1, σ.2.1, σ.2.2.1, σ.2.2.2.1, σ.2.2.2.2.1, σ.2.2.2.2.2.1, σ.2.2.2.2.2.2.1, σ.2.2.2.2.2.2.2.1, σ.2.2.2.2.2.2.2.2.1, σ.2.2.2.2.2.2.2.2.2.1, σ.2.2.2.2.2.2.2.2.2.2.1, σ.2.2.2.2.2.2.2.2.2.2.2.1, σ.2.2.2.2.2.2.2.2.2.2.2.2.1, σ.2.2.2.2.2.2.2.2.2.2.2.2.2.1, σ.2.2.2.2.2.2.2.2.2.2.2.2.2.2.1, σ.2.2.2.2.2.2.2.2.2.2.2.2.2.2.2.1, σ.2.2.2.2.2.2.2.2.2.2.2.2.2.2.2.2.1, σ.2.2.2.2.2.2.2.2.2.2.2.2.2.2.2.2.2.1, σ.2.2.2.2.2.2.2.2.2.2.2.2.2.2.2.2.2.2.1, v, σ.2.2.2.2.2.2.2.2.2.2.2.2.2.2.2.2.2.2.2.2.1, σ.2.2.2.2.2.2.2.2.2.2.2.2.2.2.2.2.2.2.2.2.2.1, σ.2.2.2.2.2.2.2.2.2.2.2.2.2.2.2.2.2.2.2.2.2.2.1, σ.2.2.2.2.2.2.2.2.2.2.2.2.2.2.2.2.2.2.2.2.2.2.2.1, σ.2.2.2.2.2.2.2.2.2.2.2.2.2.2.2.2.2.2.2.2.2.2.2.2.1, σ.2.2.2.2.2.2.2.2.2.2.2.2.2.2.2.2.2.2.2.2.2.2.2.2.2.1, σ.2.2.2.2.2.2.2.2.2.2.2.2.2.2.2.2.2.2.2.2.2.2.2.2.2.2.1, σ.2.2.2.2.2.2.2.2.2.2.2.2.2.2.2.2.2.2.2.2.2.2.2.2.2.2.2.1, σ.2.2.2.2.2.2.2.2.2.2.2.2.2.2.2.2.2.2.2.2.2.2.2.2.2.2.2.2.1, σ.2.2.2.2.2.2.2.2.2.2.2.2.2.2.2.2.2.2.2.2.2.2.2.2.2.2.2.2.2.1, σ.2.2.2.2.2.2.2.2.2.2.2.2.2.2.2.2.2.2.2.2.2.2.2.2.2.2.2.2.2.2.1, σ.2.2.2.2.2.2.2.2.2.2.2.2.2.2.2.2.2.2.2.2.2.2.2.2.2.2.2.2.2.2.2.1, σ.2.2.2.2.2.2.2.2.2.2.2.2.2.2.2.2.2.2.2.2.2.2.2.2.2.2.2.2.2.2.2.2.1, σ.2.2.2.2.2.2.2.2.2.2.2.2.2.2.2.2.2.2.2.2.2.2.2.2.2.2.2.2.2.2.2.2.2.1, σ.2.2.2.2.2.2.2.2.2.2.2.2.2.2.2.2.2.2.2.2.2.2.2.2.2.2.2.2.2.2.2.2.2.2)
abbrev M_set_foundHow (σ : StM) (v : Int32) : StM := (σ.1, σ.2.1, σ.2.2.1, σ.2.2.2.1, σ.2.2.2.2.1, σ.2.2.2.2.2.1, σ.2.2.2.2.2.2.1, σ.2.2.2.2.2.2.2.1, σ.2.2.2.2.2.2.2.2.1, σ.2.2.2.2.2.2.2.2.2.1, σ.2.2.2.2.2.2.2.2.2.2.1, σ.2.2.2.2.2.2.2.2.2.2.2.1, σ.2.2.2.2.2.2.2.2.2.2.2.2.1, σ.2.2.2.2.2.2.2.2.2.2.2.2.2.1, σ.2.2.2.2.2.2.2.2.2.2.2.2.2.2.1, σ.2.2.2.2.2.2.2.2.2.2.2.2.2.2.2.1, σ.2.2.2.2.2.2.2.2.2.2.2.2.2.2.2.2.1, σ.2.2.2.2.2.2.2.2.2.2.2.2.2.2.2.2.2.1, σ.2.2.2.2.2.2.2.2.2.2.2.2.2.2.2.2.2.2.1, σ.2.2.2.2.2.2.2.2.2.2.2.2.2.2.2.2.2.2.2.1, v, σ.2.2.2.2.2.2.2.2.2.2.2.2.2.2.2.2.2.2.2.2.2.1, σ.2.2.2.2.2.2.2.2.2.2.2.2.2.2.2.2.2.2.2.2.2.2.1, σ.2.2.2.2.2.2.2.2.2.2.2.2.2.2.2.2.2.2.2.2.2.2.2.1, σ.2.2.2.2.2.2.2.2.2.2.2.2.2.2.2.2.2.2.2.2.2.2.2.2.1, σ.2.2.2.2.2.2.2.2.2.2.2.2.2.2.2.2.2.2.2.2.2.2.2.2.2.1, σ.2.2.2.2.2.2.2.2.2.2.2.2.2.2.2.2.2.2.2.2.2.2.2.2.2.2.1, σ.2.2.2.2.2.2.2.2.2.2.2.2.2.2.2.2.2.2.2.2.2.2.2.2.2.2.2.1, σ.2.2.2.2.2.2.2.2.2.2.2.2.2.2.2.2.2.2.2.2.2.2.2.2.2.2.2.2.1, σ.2.2.2.2.2.2.2.2.2.2.2.2.2.2.2.2.2.2.2.2.2.2.2.2.2.2.2.2.2.1, σ.2.2.2.2.2.2.2.2.2.2.2.2.2.2.2.2.2.2.2.2.2.2.2.2.2.2.2.2.2.2.1, σ.2.2.2.2.2.2.2.2.2.2.2.2.2.2.2.2.2.2.2.2.2.2.2.2.2.2.2.2.2.2.2.1, σ.2.2.2.2.2.2.2.2.2.2.2.2.2.2.2.2.2.2.2.2.2.2.2.2.2.2.2.2.2.2.2.2.1, σ.2.2.2.2.2.2.2.2.2.2.2.2.2.2.2.2.2.2.2.2.2.2.2.2.2.2.2.2.2.2.2.2.2.1, σ.2.2.2.2.2.2.2.2.2.2.2.2.2.2.2.2.2.2.2.2.2.2.2.2.2.2.2.2.2.2.2.2.2.2)
abbrev M_set_foundType (σ : StM) (v : Int32) : StM := (σ.1, σ.2.1, σ.2.2.1, σ.2.2.2.1, σ.2.2.2.2.1, σ.2.2.2.2.2.1, σ.2.2.2.2.2.2.1, σ.2.2.2.2.2.2.2.1, σ.2.2.2.2.2.2.2.2.1, σ.2.2.2.2.2.2.2.2.2.1, σ.2.2.2.2.2.2.2.2.2.2.1, σ.2.2.2.2.2.2.2.2.2.2.2.1, σ.2.2.2.2.2.2.2.2.2.2.2.2.1, σ.2.2.2.2.2.2.2.2.2.2.2.2.2.1, σ.2.2.2.2.2.2.2.2.2.2.2.2.2.2.1, σ.2.2.2.2.2.2.2.2.2.2.2.2.2.2.2.1, σ.2.2.2.2.2.2.2.2.2.2.2.2.2.2.2.2.1, σ.2.2.2.2.2.2.2.2.2.2.2.2.2.2.2.2.2.1, σ.2.2.2.2.2.2.2.2.2.2.2.2.2.2.2.2.2.2.1, σ.2.2.2.2.2.2.2.2.2.2.2.2.2.2.2.2.2.2.2.1, σ.2.2.2.2.2.2.2.2.2.2.2.2.2.2.2.2.2.2.2.2.1, v, σ.2.2.2.2.2.2.2.2.2.2.2.2.2.2.2.2.2.2.2.2.2.2.1, σ.2.2.2.2.2.2.2.2.2.2.2.2.2.2.2.2.2.2.2.2.2.2.2.1, σ.2.2.2.2.2.2.2.2.2.2.2.2.2.2.2.2.2.2.2.2.2.2.2.2.1, σ.2.2.2.2.2.2.2.2.2.2.2.2.2.2.2.2.2.2.2.2.2.2.2.2.2.1, σ.2.2.2.2.2.2.2.2.2.2.2.2.2.2.2.2.2.2.2.2.2.2.2.2.2.2.1, σ.2.2.2.2.2.2.2.2.2.2.2.2.2.2.2.2.2.2.2.2.2.2.2.2.2.2.2.1, σ.2.2.2.2.2.2.2.2.2.2.2.2.2.2.2.2.2.2.2.2.2.2.2.2.2.2.2.2.1, σ.2.2.2.2.2.2.2.2.2.2.2.2.2.2.2.2.2.2.2.2.2.2.2.2.2.2.2.2.2.1, σ.2.2.2.2.2.2.2.2.2.2.2.2.2.2.2.2.2.2.2.2.2.2.2.2.2.2.2.2.2.2.1, σ.2.2.2.2.2.2.2.2.2.2.2.2.2.2.2.2.2.2.2.2.2.2.2.2.2.2.2.2.2.2.2.1, σ.2.2.2.2.2.2.2.2.2.2.2.2.2.2.2.2.2.2.2.2.2.2.2.2.2.2.2.2.2.2.2.2.1, σ.2.2.2.2.2.2.2.2.2.2.2.2.2.2.2.2.2.2.2.2.2.2.2.2.2.2.2.2.2.2.2.2.2.1, σ.2.2.2.2.2.2.2.2.2.2.2.2.2.2.2.2.2.2.2.2.2.2.2.2.2.2.2.2.2.2.2.2.2.2)
abbrev M_set_row (σ : StM) (v : (Nat → Int32)) : StM := (σ.1, σ.2.1, σ.2.2.1, σ.2.2.2.1, σ.2.2.2.2.1, σ.2.2.2.2.2.1, σ.2.2.2.2.2.2.1, σ.2.2.2.2.2.2.2.1, σ.2.2.2.2.2.2.2.2.1, σ.2.2.2.2.2.2.2.2.2.1, σ.2.2.2.2.2.2.2.2.2.2.1, σ.2.2.2.2.2.2.2.2.2.2.2.1, σ.2.2.2.2.2.2.2.2.2.2.2.2.1, σ.2.2.2.2.2.2.2.2.2.2.2.2.2.1, σ.2.2.2.2.2.2.2.2.2.2.2.2.2.2.1, σ.2.2.2.2.2.2.2.2.2.2.2.2.2.2.2.1, σ.2.2.2.2.2.2.2.2.2.2.2.2.2.2.2.2.1, σ.2.2.2.2.2.2.2.2.2.2.2.2.2.2.2.2.2.1, σ.2.2.2.2.2.2.2.2.2.2.2.2.2.2.2.2.2.2.1, σ.2.2.2.2.2.2.2.2.2.2.2.2.2.2.2.2.2.2.2.1, σ.2.2.2.2.2.2.2.2.2.2.2.2.2.2.2.2.2.2.2.2.1, σ.2.2.2.2.2.2.2.2.2.2.2.2.2.2.2.2.2.2.2.2.2.1, v, σ.2.2.2.2.2.2.2.2.2.2.2.2.2.2.2.2.2.2.2.2.2.2.2.1, σ.2.2.2.2.2.2.2.2.2.2.2.2.2.2.2.2.2.2.2.2.2.2.2.2.1, σ.2.2.2.2.2.2.2.2.2.2.2.2.2.2.2.2.2.2.2.2.2.2.2.2.2.1, σ.2.2.2.2.2.2.2.2.2.2.2.2.2.2.2.2.2.2.2.2.2.2.2.2.2.2.1, σ.2.2.2.2.2.2.2.2.2.2.2.2.2.2.2.2.2.2.2.2.2.2.2.2.2.2.2.1, σ.2.2.2.2.2.2.2.2.2.2.2.2.2.2.2.2.2.2.2.2.2.2.2.2.2.2.2.2.1, σ.2.2.2.2.2.2.2.2.2.2.2.2.2.2.2.2.2.2.2.2.2.2.2.2.2.2.2.2.2.1, σ.2.2.2.2.2.2.2.2.2.2.2.2.2.2.2.2.2.2.2.2.2.2.2.2.2.2.2.2.2.2.1, σ.2.2.2.2.2.2.2.2.2.2.2.2.2.2.2.2.2.2.2.2.2.2.2.2.2.2.2.2.2.2.2.1, σ.2.2.2.2.2.2.2.2.2.2.2.2.2.2.2.2.2.2.2.2.2.2.2.2.2.2.2.2.2.2.2.2.1, σ.2.2.2.2.2.2.2.2.2.2.2.2.2.2.2.2.2.2.2.2.2.2.2.2.2.2.2.2.2.2.2.2.2.1, σ.2.2.2.2.2.2.2.2.2.2.2.2.2.2.2.2.2.2.2.2.2.2.2.2.2.2.2.2.2.2.2.2.2.2)
abbrev M_put_row (σ : StM) (i v : Int32) : StM := (σ.1, σ.2.1, σ.2.2.1, σ.2.2.2.1, σ.2.2.2.2.1, σ.2.2.2.2.2.1, σ.2.2.2.2.2.2.1, σ.2.2.2.2.2.2.2.1, σ.2.2.2.2.2.2.2.2.1, σ.2.2.2.2.2.2.2.2.2.1, σ.2.2.2.2.2.2.2.2.2.2.1, σ.2.2.2.2.2.2.2.2.2.2.2.1, σ.2.2.2.2.2.2.2.2.2.2.2.2.1, σ.2.2.2.2.2.2.2.2.2.2.2.2.2.1, σ.2.2.2.2.2.2.2.2.2.2.2.2.2.2.1, σ.2.2.2.2.2.2.2.2.2.2.2.2.2.2.2.1, σ.2.2.2.2.2.2.2.2.2.2.2.2.2.2.2.2.1, σ.2.2.2.2.2.2.2.2.2.2.2.2.2.2.2.2.2.1, σ.2.2.2.2.2.2.2.2.2.2.2.2.2.2.2.2.2.2.1, σ.2.2.2.2.2.2.2.2.2.2.2.2.2.2.2.2.2.2.2.1, σ.2.2.2.2.2.2.2.2.2.2.2.2.2.2.2.2.2.2.2.2.1, σ.2.2.2.2.2.2.2.2.2.2.2.2.2.2.2.2.2.2.2.2.2.1, upd σ.2.2.2.2.2.2.2.2.2.2.2.2.2.2.2.2.2.2.2.2.2.2.1 i.toNatClampNeg v, σ.2.2.2.2.2.2.2.2.2.2.2.2.2.2.2.2.2.2.2.2.2.2.2.1, σ.2.2.2.2.2.2.2.2.2.2.2.2.2.2.2.2.2.2.2.2.2.2.2.2.1, σ.2.2.2.2.2.2.2.2.2.2.2.2.2.2.2.2.2.2.2.2.2.2.2.2.2.1, σ.2.2.2.2.2.2.2.2.2.2.2.2.2.2.2.2.2.2.2.2.2.2.2.2.2.2.1, σ.2.2.2.2.2.2.2.2.2.2.2.2.2.2.2.2.2.2.2.2.2.2.2.2.2.2.2.1, σ.2.2.2.2.2.2.2.2.2.2.2.2.2.2.2.2.2.2.2.2.2.2.2.2.2.2.2.2.1, σ.2.2.2.2.2.2.2.2.2.2.2.2.2.2.2.2.2.2.2.2.2.2.2.2.2.2.2.2.2.1, σ.2.2.2.2.2.2.2.2.2.2.2.2.2.2.2.2.2.2.2.2.2.2.2.2.2.2.2.2.2.2.1, σ.2.2.2.2.2.2.2.2.2.2.2.2.2.2.2.2.2.2.2.2.2.2.2.2.2.2.2.2.2.2.2.1, σ.2.2.2.2.2.2.2.2.2.2.2.2.2.2.2.2.2.2.2.2.2.2.2.2.2.2.2.2.2.2.2.2.1, σ.2.2.2.2.2.2.2.2.2.2.2.2.2.2.2.2.2.2.2.2.2.2.2.2.2.2.2.2.2.2.2.2.2.1, σ.2.2.2.2.2.2.2.2.2.2.2.2.2.2.2.2.2.2.2.2.2.2.2.2.2.2.2.2.2.2.2.2.2.2)
abbrev M_set_below (σ : StM) (v : (Nat → Int32)) : StM := (σ.1, σ.2.1, σ.2.2.1, σ.2.2.2.1, σ.2.2.2.2.1, σ.2.2.2.2.2.1, σ.2.2.2.2.2.2.1, σ.2.2.2.2.2.2.2.1, σ.2.2.2.2.2.2.2.2.1, σ.2.2.2.2.2.2.2.2.2.1, σ.2.2.2.2.2.2.2.2.2.2.1, σ.2.2.2.2.2.2.2.2.2.2.2.1, σ.2.2.2.2.2.2.2.2.2.2.2.2.1, σ.2.2.2.2.2.2.2.2.2.2.2.2.2.1, σ.2.2.2.2.2.2.2.2.2.2.2.2.2.2.1, σ.2.2.2.2.2.2.2.2.2.2.2.2.2.2.2.1, σ.2.2.2.2.2.2.2.2.2.2.2.2.2.2.2.2.1, σ.2.2.2.2.2.2.2.2.2.2.2.2.2.2.2.2.2.1, σ.2.2.2.2.2.2.2.2.2.2.2.2.2.2.2.2.2.2.1, σ.2.2.2.2.2.2.2.2.2.2.2.2.2.2.2.2.2.2.2.1, σ.2.2.2.2.2.2.2.2.2.2.2.2.2.2.2.2.2.2.2.2.1, σ.2.2.2.2.2.2.2.2.2.2.2.2.2.2.2.2.2.2.2.2.2.1, σ.2.2.2.2.2.2.2.2.2.2.2.2.2.2.2.2.2.2.2.2.2.2.1, v, σ.2.2.2.2.2.2.2.2.2.2.2.2.2.2.2.2.2.2.2.2.2.2.2.2.1, σ.2.2.2.2.2.2.2.2.2.2.2.2.2.2.2.2.2.2.2.2.2.2.2.2.2.1, σ.2.2.2.2.2.2.2.2.2.2.2.2.2.2.2.2.2.2.2.2.2.2.2.2.2.2.1, σ.2.2.2.2.2.2.2.2.2.2.2.2.2.2.2.2.2.2.2.2.2.2.2.2.2.2.2.1, σ.2.2.2.2.2.2.2.2.2.2.2.2.2.2.2.2.2.2.2.2.2.2.2.2.2.2.2.2.1, σ.2.2.2.2.2.2.2.2.2.2.2.2.2.2.2.2.2.2.2.2.2.2.2.2.2.2.2.2.2.1, σ.2.2.2.2.2.2.2.2.2.2.2.2.2.2.2.2.2.2.2.2.2.2.2.2.2.2.2.2.2.2.1, σ.2.2.2.2.2.2.2.2.2.2.2.2.2.2.2.2.2.2.2.2.2.2.2.2.2.2.2.2.2.2.2.1, σ.2.2.2.2.2.2.2.2.2.2.2.2.2.2.2.2.2.2.2.2.2.2.2.2.2.2.2.2.2.2.2.2.1, σ.2.2.2.2.2.2.2.2.2.2.2.2.2.2.2.2.2.2.2.2.2.2.2.2.2.2.2.2.2.2.2.2.2.1, σ.2.2.2.2.2.2.2.2.2.2.2.2.2.2.2.2.2.2.2.2.2.2.2.2.2.2.2.2.2.2.2.2.2.2)
abbrev M_put_below (σ : StM) (i v : Int32) : StM := (σ.1, σ.2.1, σ.2.2.1, σ.2.2.2.1, σ.2.2.2.2.1, σ.2.2.2.2.2.1, σ.2.2.2.2.2.2.1, σ.2.2.2.2.2.2.2.1, σ.2.2.2.2.2.2.2.2.1, σ.2.2.2.2.2.2.2.2.2.1, σ.2.2.2.2.2.2.2.2.2.2.1, σ.2.2.2.2.2.2.2.2.2.2.2.1, σ.2.2.2.2.2.2.2.2.2.2.2.2.1, σ.2.2.2.2.2.2.2.2.2.2.2.2.2.1, σ.2.2.2.2.2.2.2.2.2.2.2.2.2.2.1, σ.2.2.2.2.2.2.2.2.2.2.2.2.2.2.2.1, σ.2.2.2.2.2.2.2.2.2.2.2.2.2.2.2.2.1, σ.2.2.2.2.2.2.2.2.2.2.2.2.2.2.2.2.2.1, σ.2.2.2.2.2.2.2.2.2.2.2.2.2.2.2.2.2.2.1, σ.2.2.2.2.2.2.2.2.2.2.2.2.2.2.2.2.2.2.2.1, σ.2.2.2.2.2.2.2.2.2.2.2.2.2.2.2.2.2.2.2.2.1, σ.2.2.2.2.2.2.2.2.2.2.2.2.2.2.2.2.2.2.2.2.2.1, σ.2.2.2.2.2.2.2.2.2.2.2.2.2.2.2.2.2.2.2.2.2.2.1, upd σ.2.2.2.2.2.2.2.2.2.2.2.2.2.2.2.2.2.2.2.2.2.2.2.1 i.toNatClampNeg v, σ.2.2.2.2.2.2.2.2.2.2.2.2.2.2.2.2.2.2.2.2.2.2.2.2.1, σ.2.2.2.2.2.2.2.2.2.2.2.2.2.2.2.2.2.2.2.2.2.2.2.2.2.1, σ.2.2.2.2.2.2.2.2.2.2.2.2.2.2.2.2.2.2.2.2.2.2.2.2.2.2.1, σ.2.2.2.2.2.2.2.2.2.2.2.2.2.2.2.2.2.2.2.2.2.2.2.2.2.2.2.1, σ.2.2.2.2.2.2.2.2.2.2.2.2.2.2.2.2.2.2.2.2.2.2.2.2.2.2.2.2.1, σ.2.2.2.2.2.2.2.2.2.2.2.2.2.2.2.2.2.2.2.2.2.2.2.2.2.2.2.2.2.1, σ.2.2.2.2.2.2.2.2.2.2.2.2.2.2.2.2.2.2.2.2.2.2.2.2.2.2.2.2.2.2.1, σ.2.2.2.2.2.2.2.2.2.2.2.2.2.2.2.2.2.2.2.2.2.2.2.2.2.2.2.2.2.2.2.1, σ.2.2.2.2.2.2.2.2.2.2.2.2.2.2.2.2.2.2.2.2.2.2.2.2.2.2.2.2.2.2.2.2.1, σ.2.2.2.2.2.2.2.2.2.2.2.2.2.2.2.2.2.2.2.2.2.2.2.2.2.2.2.2.2.2.2.2.2.1, σ.2.2.2.2.2.2.2.2.2.2.2.2.2.2.2.2.2.2.2.2.2.2.2.2.2.2.2.2.2.2.2.2.2.2)
abbrev M_set_reckoned (σ : StM) (v : Int32) : StM := (σ.1, σ.2.1, σ.2.2.1, σ.2.2.2.1, σ.2.2.2.2.1, σ.2.2.2.2.2.1, σ.2.2.2.2.2.2.1, σ.2.2.2.2.2.2.2.1, σ.2.2.2.2.2.2.2.2.1, σ.2.2.2.2.2.2.2.2.2.1, σ.2.2.2.2.2.2.2.2.2.2.1, σ.2.2.2.2.2.2.2.2.2.2.2.1, σ.2.2.2.2.2.2.2.2.2.2.2.2.1, σ.2.2.2.2.2.2.2.2.2.2.2.2.2.1, σ.2.2.2.2.2.2.2.2.2.2.2.2.2.2.1, σ.2.2.2.2.2.2.2.2.2.2.2.2.2.2.2.1, σ.2.2.2.2.2.2.2.2.2.2.2.2.2.2.2.2.1, σ.2.2.2.2.2.2.2.2.2.2.2.2.2.2.2.2.2.1, σ.2.2.2.2.2.2.2.2.2.2.2.2.2.2.2.2.2.2.1, σ.2.2.2.2.2.2.2.2.2.2.2.2.2.2.2.2.2.2.2.1, σ.2.2.2.2.2.2.2.2.2.2.2.2.2.2.2.2.2.2.2.2.1, σ.2.2.2.2.2.2.2.2.2.2.2.2.2.2.2.2.2.2.2.2.2.1, σ.2.2.2.2.2.2.2.2.2.2.2.2.2.2.2.2.2.2.2.2.2.2.1, σ.2.2.2.2.2.2.2.2.2.2.2.2.2.2.2.2.2.2.2.2.2.2.2.1, v, σ.2.2.2.2.2.2.2.2.2.2.2.2.2.2.2.2.2.2.2.2.2.2.2.2.2.1, σ.2.2.2.2.2.2.2.2.2.2.2.2.2.2.2.2.2.2.2.2.2.2.2.2.2.2.1, σ.2.2.2.2.2.2.2.2.2.2.2.2.2.2.2.2.2.2.2.2.2.2.2.2.2.2.2.1, σ.2.2.2.2.2.2.2.2.2.2.2.2.2.2.2.2.2.2.2.2.2.2.2.2.2.2.2.2.1, σ.2.2.2.2.2.2.2.2.2.2.2.2.2.2.2.2.2.2.2.2.2.2.2.2.2.2.2.2.2.1, σ.2.2.2.2.2.2.2.2.2.2.2.2.2.2.2.2.2.2.2.2.2.2.2.2.2.2.2.2.2.2.1, σ.2.2.2.2.2.2.2.2.2.2.2.2.2.2.2.2.2.2.2.2.2.2.2.2.2.2.2.2.2.2.2.1, σ.2.2.2.2.2.2.2.2.2.2.2.2.2.2.2.2.2.2.2.2.2.2.2.2.2.2.2.2.2.2.2.2.1, σ.2.2.2.2.2.2.2.2.2.2.2.2.2.2.2.2.2.2.2.2.2.2.2.2.2.2.2.2.2.2.2.2.2.1, σ.2.2.2.2.2.2.2.2.2.2.2.2.2.2.2.2.2.2.2.2.2.2.2.2.2.2.2.2.2.2.2.2.2.2)
abbrev M_set_high (σ : StM) (v : Int32) : StM := (σ.1, σ.2.1, σ.2.2.1, σ.2.2.2.1, σ.2.2.2.2.1, σ.2.2.2.2.2.1, σ.2.2.2.2.2.2.1, σ.2.2.2.2.2.2.2.1, σ.2.2.2.2.2.2.2.2.1, σ.2.2.2.2.2.2.2.2.2.1, σ.2.2.2.2.2.2.2.2.2.2.1, σ.2.2.2.2.2.2.2.2.2.2.2.1, σ.2.2.2.2.2.2.2.2.2.2.2.2.1, σ.2.2.2.2.2.2.2.2.2.2.2.2.2.1, σ.2.2.2.2.2.2.2.2.2.2.2.2.2.2.1, σ.2.2.2.2.2.2.2.2.2.2.2.2.2.2.2.1, σ.2.2.2.2.2.2.2.2.2.2.2.2.2.2.2.2.1, σ.2.2.2.2.2.2.2.2.2.2.2.2.2.2.2.2.2.1, σ.2.2.2.2.2.2.2.2.2.2.2.2.2.2.2.2.2.2.1, σ.2.2.2.2.2.2.2.2.2.2.2.2.2.2.2.2.2.2.2.1, σ.2.2.2.2.2.2.2.2.2.2.2.2.2.2.2.2.2.2.2.2.1, σ.2.2.2.2.2.2.2.2.2.2.2.2.2.2.2.2.2.2.2.2.2.1, σ.2.2.2.2.2.2.2.2.2.2.2.2.2.2.2.2.2.2.2.2.2.2.1, σ.2.2.2.2.2.2.2.2.2.2.2.2.2.2.2.2.2.2.2.2.2.2.2.1, σ.2.2.2.2.2.2.2.2.2.2.2.2.2.2.2.2.2.2.2.2.2.2.2.2.1, v, σ.2.2.2.2.2.2.2.2.2.2.2.2.2.2.2.2.2.2.2.2.2.2.2.2.2.2.1, σ.2.2.2.2.2.2.2.2.2.2.2.2.2.2.2.2.2.2.2.2.2.2.2.2.2.2.2.1, σ.2.2.2.2.2.2.2.2.2.2.2.2.2.2.2.2.2.2.2.2.2.2.2.2.2.2.2.2.1, σ.2.2.2.2.2.2.2.2.2.2.2.2.2.2.2.2.2.2.2.2.2.2.2.2.2.2.2.2.2.1, σ.2.2.2.2.2.2.2.2.2.2.2.2.2.2.2.2.2.2.2.2.2.2.2.2.2.2.2.2.2.2.1, σ.2.2.2.2.2.2.2.2.2.2.2.2.2.2.2.2.2.2.2.2.2.2.2.2.2.2.2.2.2.2.2.1, σ.2.2.2.2.2.2.2.2.2.2.2.2.2.2.2.2.2.2.2.2.2.2.2.2.2.2.2.2.2.2.2.2.1, σ.2.2.2.2.2.2.2.2.2.2.2.2.2.2.2.2.2.2.2.2.2.2.2.2.2.2.2.2.2.2.2.2.2.1, σ.2.2.2.2.2.2.2.2.2.2.2.2.2.2.2.2.2.2.2.2.2.2.2.2.2.2.2.2.2.2.2.2.2.2)
abbrev M_set_left (σ : StM) (v : (Nat → Int32)) : StM := (σ.1, σ.2.1, σ.2.2.1, σ.2.2.2.1, σ.2.2.2.2.1, σ.2.2.2.2.2.1, σ.2.2.2.2.2.2.1, σ.2.2.2.2.2.2.2.1, σ.2.2.2.2.2.2.2.2.1, σ.2.2.2.2.2.2.2.2.2.1, σ.2.2.2.2.2.2.2.2.2.2.1, σ.2.2.2.2.2.2.2.2.2.2.2.1, σ.2.2.2.2.2.2.2.2.2.2.2.2.1, σ.2.2.2.2.2.2.2.2.2.2.2.2.2.1, σ.2.2.2.2.2.2.2.2.2.2.2.2.2.2.1, σ.2.2.2.2.2.2.2.2.2.2.2.2.2.2.2.1, σ.2.2.2.2.2.2.2.2.2.2.2.2.2.2.2.2.1, σ.2.2.2.2.2.2.2.2.2.2.2.2.2.2.2.2.2.1, σ.2.2.2.2.2.2.2.2.2.2.2.2.2.2.2.2.2.2.1, σ.2.2.2.2.2.2.2.2.2.2.2.2.2.2.2.2.2.2.2.1, σ.2.2.2.2.2.2.2.2.2.2.2.2.2.2.2.2.2.2.2.2.1, σ.2.2.2.2.2.2.2.2.2.2.2.2.2.2.2.2.2.2.2.2.2.1, σ.2.2.2.2.2.2.2.2.2.2.2.2.2.2.2.2.2.2.2.2.2.2.1, σ.2.2.2.2.2.2.2.2.2.2.2.2.2.2.2.2.2.2.2.2.2.2.2.1, σ.2.2.2.2.2.2.2.2.2.2.2.2.2.2.2.2.2.2.2.2.2.2.2.2.1, σ.2.2.2.2.2.2.2.2.2.2.2.2.2.2.2.2.2.2.2.2.2.2.2.2.2.1, v, σ.2.2.2.2.2.2.2.2.2.2.2.2.2.2.2.2.2.2.2.2.2.2.2.2.2.2.2.1, σ.2.2.2.2.2.2.2.2.2.2.2.2.2.2.2.2.2.2.2.2.2.2.2.2.2.2.2.2.1, σ.2.2.2.2.2.2.2.2.2.2.2.2.2.2.2.2.2.2.2.2.2.2.2.2.2.2.2.2.2.1, σ.2.2.2.2.2.2.2.2.2.2.2.2.2.2.2.2.2.2.2.2.2.2.2.2.2.2.2.2.2.2.1, σ.2.2.2.2.2.2.2.2.2.2.2.2.2.2.2.2.2.2.2.2.2.2.2.2.2.2.2.2.2.2.2.1, σ.2.2.2.2.2.2.2.2.2.2.2.2.2.2.2.2.2.2.2.2.2.2.2.2.2.2.2.2.2.2.2.2.1, σ.2.2.2.2.2.2.2.2.2.2.2.2.2.2.2.2.2.2.2.2.2.2.2.2.2.2.2.2.2.2.2.2.2.1, σ.2.2.2.2.2.2.2.2.2.2.2.2.2.2.2.2.2.2.2.2.2.2.2.2.2.2.2.2.2.2.2.2.2.2)
abbrev M_put_left (σ : StM) (i v : Int32) : StM := (σ.1, σ.2.1, σ.2.2.1, σ.2.2.2.1, σ.2.2.2.2.1, σ.2.2.2.2.2.1, σ.2.2.2.2.2.2.1, σ.2.2.2.2.2.2.2.1, σ.2.2.2.2.2.2.2.2.1, σ.2.2.2.2.2.2.2.2.2.1, σ.2.2.2.2.2.2.2.2.2.2.1, σ.2.2.2.2.2.2.2.2.2.2.2.1, σ.2.2.2.2.2.2.2.2.2.2.2.2.1, σ.2.2.2.2.2.2.2.2.2.2.2.2.2.1, σ.2.2.2.2.2.2.2.2.2.2.2.2.2.2.1, σ.2.2.2.2.2.2.2.2.2.2.2.2.2.2.2.1, σ.2.2.2.2.2.2.2.2.2.2.2.2.2.2.2.2.1, σ.2.2.2.2.2.2.2.2.2.2.2.2.2.2.2.2.2.1, σ.2.2.2.2.2.2.2.2.2.2.2.2.2.2.2.2.2.2.1, σ.2.2.2.2.2.2.2.2.2.2.2.2.2.2.2.2.2.2.2.1, σ.2.2.2.2.2.2.2.2.2.2.2.2.2.2.2.2.2.2.2.2.1, σ.2.2.2.2.2.2.2.2.2.2.2.2.2.2.2.2.2.2.2.2.2.1, σ.2.2.2.2.2.2.2.2.2.2.2.2.2.2.2.2.2.2.2.2.2.2.1, σ.2.2.2.2.2.2.2.2.2.2.2.2.2.2.2.2.2.2.2.2.2.2.2.1, σ.2.2.2.2.2.2.2.2.2.2.2.2.2.2.2.2.2.2.2.2.2.2.2.2.1, σ.2.2.2.2.2.2.2.2.2.2.2.2.2.2.2.2.2.2.2.2.2.2.2.2.2.1, upd σ.2.2.2.2.2.2.2.2.2.2.2.2.2.2.2.2.2.2.2.2.2.2.2.2.2.2.1 i.toNatClampNeg v, σ.2.2.2.2.2.2.2.2.2.2.2.2.2.2.2.2.2.2.2.2.2.2.2.2.2.2.2.1, σ.2.2.2.2.2.2.2.2.2.2.2.2.2.2.2.2.2.2.2.2.2.2.2.2.2.2.2.2.1, σ.2.2.2.2.2.2.2.2.2.2.2.2.2.2.2.2.2.2.2.2.2.2.2.2.2.2.2.2.2.1, σ.2.2.2.2.2.2.2.2.2.2.2.2.2.2.2.2.2.2.2.2.2.2.2.2.2.2.2.2.2.2.1, σ.2.2.2.2.2.2.2.2.2.2.2.2.2.2.2.2.2.2.2.2.2.2.2.2.2.2.2.2.2.2.2.1, σ.2.2.2.2.2.2.2.2.2.2.2.2.2.2.2.2.2.2.2.2.2.2.2.2.2.2.2.2.2.2.2.2.1, σ.2.2.2.2.2.2.2.2.2.2.2.2.2.2.2.2.2.2.2.2.2.2.2.2.2.2.2.2.2.2.2.2.2.1, σ.2.2.2.2.2.2.2.2.2.2.2.2.2.2.2.2.2.2.2.2.2.2.2.2.2.2.2.2.2.2.2.2.2.2)
abbrev M_set_right (σ : StM) (v : (Nat → Int32)) : StM := (σ.1, σ.2.1, σ.2.2.1, σ.2.2.2.1, σ.2.2.2.2.1, σ.2.2.2.2.2.1, σ.2.2.2.2.2.2.1, σ.2.2.2.2.2.2.2.1, σ.2.2.2.2.2.2.2.2.1, σ.2.2.2.2.2.2.2.2.2.1, σ.2.2.2.2.2.2.2.2.2.2.1, σ.2.2.2.2.2.2.2.2.2.2.2.1, σ.2.2.2.2.2.2.2.2.2.2.2.2.1, σ.2.2.2.2.2.2.2.2.2.2.2.2.2.1, σ.2.2.2.2.2.2.2.2.2.2.2.2.2.2.1, σ.2.2.2.2.2.2.2.2.2.2.2.2.2.2.2.1, σ.2.2.2.2.2.2.2.2.2.2.2.2.2.2.2.2.1, σ.2.2.2.2.2.2.2.2.2.2.2.2.2.2.2.2.2.1, σ.2.2.2.2.2.2.2.2.2.2.2.2.2.2.2.2.2.2.1, σ.2.2.2.2.2.2.2.2.2.2.2.2.2.2.2.2.2.2.2.1, σ.2.2.2.2.2.2.2.2.2.2.2.2.2.2.2.2.2.2.2.2.1, σ.2.2.2.2.2.2.2.2.2.2.2.2.2.2.2.2.2.2.2.2.2.1, σ.2.2.2.2.2.2.2.2.2.2.2.2.2.2.2.2.2.2.2.2.2.2.1, σ.2.2.2.2.2.2.2.2.2.2.2.2.2.2.2.2.2.2.2.2.2.2.2.1, σ.2.2.2.2.2.2.2.2.2.2.2.2.2.2.2.2.2.2.2.2.2.2.2.2.1, σ.2.2.2.2.2.2.2.2.2.2.2.2.2.2.2.2.2.2.2.2.2.2.2.2.2.1, σ.2.2.2.2.2.2.2.2.2.2.2.2.2.2.2.2.2.2.2.2.2.2.2.2.2.2.1, v, σ.2.2.2.2.2.2.2.2.2.2.2.2.2.2.2.2.2.2.2.2.2.2.2.2.2.2.2.2.1, σ.2.2.2.2.2.2.2.2.2.2.2.2.2.2.2.2.2.2.2.2.2.2.2.2.2.2.2.2.2.1, σ.2.2.2.2.2.2.2.2.2.2.2.2.2.2.2.2.2.2.2.2.2.2.2.2.2.2.2.2.2.2.1, σ.2.2.2.2.2.2.2.2.2.2.2.2.2.2.2.2.2.2.2.2.2.2.2.2.2.2.2.2.2.2.2.1, σ.2.2.2.2.2.2.2.2.2.2.2.2.2.2.2.2.2.2.2.2.2.2.2.2.2.2.2.2.2.2.2.2.1, σ.2.2.2.2.2.2.2.2.2.2.2.2.2.2.2.2.2.2.2.2.2.2.2.2.2.2.2.2.2.2.2.2.2.1, σ.2.2.2.2.2.2.2.2.2.2.2.2.2.2.2.2.2.2.2.2.2.2.2.2.2.2.2.2.2.2.2.2.2.2)
abbrev M_put_right (σ : StM) (i v : Int32) : StM := (σ.1, σ.2.1, σ.2.2.1, σ.2.2.2.1, σ.2.2.2.2.1, σ.2.2.2.2.2.1, σ.2.2.2.2.2.2.1, σ.2.2.2.2.2.2.2.1, σ.2.2.2.2.2.2.2.2.1, σ.2.2.2.2.2.2.2.2.2.1, σ.2.2.2.2.2.2.2.2.2.2.1, σ.2.2.2.2.2.2.2.2.2.2.2.1, σ.2.2.2.2.2.2.2.2.2.2.2.2.1, σ.2.2.2.2.2.2.2.2.2.2.2.2.2.1, σ.2.2.2.2.2.2.2.2.2.2.2.2.2.2.1, σ.2.2.2.2.2.2.2.2.2.2.2.2.2.2.2.1, σ.2.2.2.2.2.2.2.2.2.2.2.2.2.2.2.2.1, σ.2.2.2.2.2.2.2.2.2.2.2.2.2.2.2.2.2.1, σ.2.2.2.2.2.2.2.2.2.2.2.2.2.2.2.2.2.2.1, σ.2.2.2.2.2.2.2.2.2.2.2.2.2.2.2.2.2.2.2.1, σ.2.2.2.2.2.2.2.2.2.2.2.2.2.2.2.2.2.2.2.2.1, σ.2.2.2.2.2.2.2.2.2.2.2.2.2.2.2.2.2.2.2.2.2.1, σ.2.2.2.2.2.2.2.2.2.2.2.2.2.2.2.2.2.2.2.2.2.2.1, σ.2.2.2.2.2.2.2.2.2.2.2.2.2.2.2.2.2.2.2.2.2.2.2.1, σ.2.2.2.2.2.2.2.2.2.2.2.2.2.2.2.2.2.2.2.2.2.2.2.2.1, σ.2.2.2.2.2.2.2.2.2.2.2.2.2.2.2.2.2.2.2.2.2.2.2.2.2.1, σ.2.2.2.2.2.2.2.2.2.2.2.2.2.2.2.2.2.2.2.2.2.2.2.2.2.2.1, upd σ.2.2.2.2.2.2.2.2.2.2.2.2.2.2.2.2.2.2.2.2.2.2.2.2.2.2.2.1 i.toNatClampNeg v, σ.2.2.2.2.2.2.2.2.2.2.2.2.2.2.2.2.2.2.2.2.2.2.2.2.2.2.2.2.1, σ.2.2.2.2.2.2.2.2.2.2.2.2.2.2.2.2.2.2.2.2.2.2.2.2.2.2.2.2.2.1, σ.2.2.2.2.2.2.2.2.2.2.2.2.2.2.2.2.2.2.2.2.2.2.2.2.2.2.2.2.2.2.1, σ.2.2.2.2.2.2.2.2.2.2.2.2.2.2.2.2.2.2.2.2.2.2.2.2.2.2.2.2.2.2.2.1, σ.2.2.2.2.2.2.2.2.2.2.2.2.2.2.2.2.2.2.2.2.2.2.2.2.2.2.2.2.2.2.2.2.1, σ.2.2.2.2.2.2.2.2.2.2.2.2.2.2.2.2.2.2.2.2.2.2.2.2.2.2.2.2.2.2.2.2.2.1, σ.2.2.2.2.2.2.2.2.2.2.2.2.2.2.2.2.2.2.2.2.2.2.2.2.2.2.2.2.2.2.2.2.2.2)
abbrev M_set_deep (σ : StM) (v : (Nat → Int32)) : StM := (σ.1, σ.2.1, σ.2.2.1, σ.2.2.2.1, σ.2.2.2.2.1, σ.2.2.2.2.2.1, σ.2.2.2.2.2.2.1, σ.2.2.2.2.2.2.2.1, σ.2.2.2.2.2.2.2.2.1, σ.2.2.2.2.2.2.2.2.2.1, σ.2.2.2.2.2.2.2.2.2.2.1, σ.2.2.2.2.2.2.2.2.2.2.2.1, σ.2.2.2.2.2.2.2.2.2.2.2.2.1, σ.2.2.2.2.2.2.2.2.2.2.2.2.2.1, σ.2.2.2.2.2.2.2.2.2.2.2.2.2.2.1, σ.2.2.2.2.2.2.2.2.2.2.2.2.2.2.2.1, σ.2.2.2.2.2.2.2.2.2.2.2.2.2.2.2.2.1, σ.2.2.2.2.2.2.2.2.2.2.2.2.2.2.2.2.2.1, σ.2.2.2.2.2.2.2.2.2.2.2.2.2.2.2.2.2.2.1, σ.2.2.2.2.2.2.2.2.2.2.2.2.2.2.2.2.2.2.2.1, σ.2.2.2.2.2.2.2.2.2.2.2.2.2.2.2.2.2.2.2.2.1, σ.2.2.2.2.2.2.2.2.2.2.2.2.2.2.2.2.2.2.2.2.2.1, σ.2.2.2.2.2.2.2.2.2.2.2.2.2.2.2.2.2.2.2.2.2.2.1, σ.2.2.2.2.2.2.2.2.2.2.2.2.2.2.2.2.2.2.2.2.2.2.2.1, σ.2.2.2.2.2.2.2.2.2.2.2.2.2.2.2.2.2.2.2.2.2.2.2.2.1, σ.2.2.2.2.2.2.2.2.2.2.2.2.2.2.2.2.2.2.2.2.2.2.2.2.2.1, σ.2.2.2.2.2.2.2.2.2.2.2.2.2.2.2.2.2.2.2.2.2.2.2.2.2.2.1, σ.2.2.2.2.2.2.2.2.2.2.2.2.2.2.2.2.2.2.2.2.2.2.2.2.2.2.2.1, v, σ.2.2.2.2.2.2.2.2.2.2.2.2.2.2.2.2.2.2.2.2.2.2.2.2.2.2.2.2.2.1, σ.2.2.2.2.2.2.2.2.2.2.2.2.2.2.2.2.2.2.2.2.2.2.2.2.2.2.2.2.2.2.1, σ.2.2.2.2.2.2.2.2.2.2.2.2.2.2.2.2.2.2.2.2.2.2.2.2.2.2.2.2.2.2.2.1, σ.2.2.2.2.2.2.2.2.2.2.2.2.2.2.2.2.2.2.2.2.2.2.2.2.2.2.2.2.2.2.2.2.1, σ.2.2.2.2.2.2.2.2.2.2.2.2.2.2.2.2.2.2.2.2.2.2.2.2.2.2.2.2.2.2.2.2.2.1, σ.2.2.2.2.2.2.2.2.2.2.2.2.2.2.2.2.2.2.2.2.2.2.2.2.2.2.2.2.2.2.2.2.2.2)
abbrev M_put_deep (σ : StM) (i v : Int32) : StM := (σ.1, σ.2.1, σ.2.2.1, σ.2.2.2.1, σ.2.2.2.2.1, σ.2.2.2.2.2.1, σ.2.2.2.2.2.2.1, σ.2.2.2.2.2.2.2.1, σ.2.2.2.2.2.2.2.2.1, σ.2.2.2.2.2.2.2.2.2.1, σ.2.2.2.2.2.2.2.2.2.2.1, σ.2.2.2.2.2.2.2.2.2.2.2.1, σ.2.2.2.2.2.2.2.2.2.2.2.2.1, σ.2.2.2.2.2.2.2.2.2.2.2.2.2.1, σ.2.2.2.2.2.2.2.2.2.2.2.2.2.2.1, σ.2.2.2.2.2.2.2.2.2.2.2.2.2.2.2.1, σ.2.2.2.2.2.2.2.2.2.2.2.2.2.2.2.2.1, σ.2.2.2.2.2.2.2.2.2.2.2.2.2.2.2.2.2.1, σ.2.2.2.2.2.2.2.2.2.2.2.2.2.2.2.2.2.2.1, σ.2.2.2.2.2.2.2.2.2.2.2.2.2.2.2.2.2.2.2.1, σ.2.2.2.2.2.2.2.2.2.2.2.2.2.2.2.2.2.2.2.2.1, σ.2.2.2.2.2.2.2.2.2.2.2.2.2.2.2.2.2.2.2.2.2.1, σ.2.2.2.2.2.2.2.2.2.2.2.2.2.2.2.2.2.2.2.2.2.2.1, σ.2.2.2.2.2.2.2.2.2.2.2.2.2.2.2.2.2.2.2.2.2.2.2.1, σ.2.2.2.2.2.2.2.2.2.2.2.2.2.2.2.2.2.2.2.2.2.2.2.2.1, σ.2.2.2.2.2.2.2.2.2.2.2.2.2.2.2.2.2.2.2.2.2.2.2.2.2.1, σ.2.2.2.2.2.2.2.2.2.2.2.2.2.2.2.2.2.2.2.2.2.2.2.2.2.2.1, σ.2.2.2.2.2.2.2.2.2.2.2.2.2.2.2.2.2.2.2.2.2.2.2.2.2.2.2.1, upd σ.2.2.2.2.2.2.2.2.2.2.2.2.2.2.2.2.2.2.2.2.2.2.2.2.2.2.2.2.1 i.toNatClampNeg v, σ.2.2.2.2.2.2.2.2.2.2.2.2.2.2.2.2.2.2.2.2.2.2.2.2.2.2.2.2.2.1, σ.2.2.2.2.2.2.2.2.2.2.2.2.2.2.2.2.2.2.2.2.2.2.2.2.2.2.2.2.2.2.1, σ.2.2.2.2.2.2.2.2.2.2.2.2.2.2.2.2.2.2.2.2.2.2.2.2.2.2.2.2.2.2.2.1, σ.2.2.2.2.2.2.2.2.2.2.2.2.2.2.2.2.2.2.2.2.2.2.2.2.2.2.2.2.2.2.2.2.1, σ.2.2.2.2.2.2.2.2.2.2.2.2.2.2.2.2.2.2.2.2.2.2.2.2.2.2.2.2.2.2.2.2.2.1, σ.2.2.2.2.2.2.2.2.2.2.2.2.2.2.2.2.2.2.2.2.2.2.2.2.2.2.2.2.2.2.2.2.2.2)
abbrev M_set_stage (σ : StM) (v : (Nat → Int32)) : StM := (σ.1, σ.2.1, σ.2.2.1, σ.2.2.2.1, σ.2.2.2.2.1, σ.2.2.2.2.2.1, σ.2.2.2.2.2.2.1, σ.2.2.2.2.2.2.2.1, σ.2.2.2.2.2.2.2.2.1, σ.2.2.2.2.2.2.2.2.2.1, σ.2.2.2.2.2.2.2.2.2.2.1, σ.2.2.2.2.2.2.2.2.2.2.2.1, σ.2.2.2.2.2.2.2.2.2.2.2.2.1, σ.2.2.2.2.2.2.2.2.2.2.2.2.2.1, σ.2.2.2.2.2.2.2.2.2.2.2.2.2.2.1, σ.2.2.2.2.2.2.2.2.2.2.2.2.2.2.2.1, σ.2.2.2.2.2.2.2.2.2.2.2.2.2.2.2.2.1, σ.2.2.2.2.2.2.2.2.2.2.2.2.2.2.2.2.2.1, σ.2.2.2.2.2.2.2.2.2.2.2.2.2.2.2.2.2.2.1, σ.2.2.2.2.2.2.2.2.2.2.2.2.2.2.2.2.2.2.2.1, σ.2.2.2.2.2.2.2.2.2.2.2.2.2.2.2.2.2.2.2.2.1, σ.2.2.2.2.2.2.2.2.2.2.2.2.2.2.2.2.2.2.2.2.2.1, σ.2.2.2.2.2.2.2.2.2.2.2.2.2.2.2.2.2.2.2.2.2.2.1, σ.2.2.2.2.2.2.2.2.2.2.2.2.2.2.2.2.2.2.2.2.2.2.2.1, σ.2.2.2.2.2.2.2.2.2.2.2.2.2.2.2.2.2.2.2.2.2.2.2.2.1, σ.2.2.2.2.2.2.2.2.2.2.2.2.2.2.2.2.2.2.2.2.2.2.2.2.2.1, σ.2.2.2.2.2.2.2.2.2.2.2.2.2.2.2.2.2.2.2.2.2.2.2.2.2.2.1, σ.2.2.2.2.2.2.2.2.2.2.2.2.2.2.2.2.2.2.2.2.2.2.2.2.2.2.2.1, σ.2.2.2.2.2.2.2.2.2.2.2.2.2.2.2.2.2.2.2.2.2.2.2.2.2.2.2.2.1, v, σ.2.2.2.2.2.2.2.2.2.2.2.2.2.2.2.2.2.2.2.2.2.2.2.2.2.2.2.2.2.2.1, σ.2.2.2.2.2.2.2.2.2.2.2.2.2.2.2.2.2.2.2.2.2.2.2.2.2.2.2.2.2.2.2.1, σ.2.2.2.2.2.2.2.2.2.2.2.2.2.2.2.2.2.2.2.2.2.2.2.2.2.2.2.2.2.2.2.2.1, σ.2.2.2.2.2.2.2.2.2.2.2.2.2.2.2.2.2.2.2.2.2.2.2.2.2.2.2.2.2.2.2.2.2.1, σ.2.2.2.2.2.2.2.2.2.2.2.2.2.2.2.2.2.2.2.2.2.2.2.2.2.2.2.2.2.2.2.2.2.2)
abbrev M_put_stage (σ : StM) (i v : Int32) : StM := (σ.1, σ.2.1, σ.2.2.1, σ.2.2.2.1, σ.2.2.2.2.1, σ.2.2.2.2.2.1, σ.2.2.2.2.2.2.1, σ.2.2.2.2.2.2.2.1, σ.2.2.2.2.2.2.2.2.1, σ.2.2.2.2.2.2.2.2.2.1, σ.2.2.2.2.2.2.2.2.2.2.1, σ.2.2.2.2.2.2.2.2.2.2.2.1, σ.2.2.2.2.2.2.2.2.2.2.2.2.1, σ.2.2.2.2.2.2.2.2.2.2.2.2.2.1, σ.2.2.2.2.2.2.2.2.2.2.2.2.2.2.1, σ.2.2.2.2.2.2.2.2.2.2.2.2.2.2.2.1, σ.2.2.2.2.2.2.2.2.2.2.2.2.2.2.2.2.1, σ.2.2.2.2.2.2.2.2.2.2.2.2.2.2.2.2.2.1, σ.2.2.2.2.2.2.2.2.2.2.2.2.2.2.2.2.2.2.1, σ.2.2.2.2.2.2.2.2.2.2.2.2.2.2.2.2.2.2.2.1, σ.2.2.2.2.2.2.2.2.2.2.2.2.2.2.2.2.2.2.2.2.1, σ.2.2.2.2.2.2.2.2.2.2.2.2.2.2.2.2.2.2.2.2.2.1, σ.2.2.2.2.2.2.2.2.2.2.2.2.2.2.2.2.2.2.2.2.2.2.1, σ.2.2.2.2.2.2.2.2.2.2.2.2.2.2.2.2.2.2.2.2.2.2.2.1, σ.2.2.2.2.2.2.2.2.2.2.2.2.2.2.2.2.2.2.2.2.2.2.2.2.1, σ.2.2.2.2.2.2.2.2.2.2.2.2.2.2.2.2.2.2.2.2.2.2.2.2.2.1, σ.2.2.2.2.2.2.2.2.2.2.2.2.2.2.2.2.2.2.2.2.2.2.2.2.2.2.1, σ.2.2.2.2.2.2.2.2.2.2.2.2.2.2.2.2.2.2.2.2.2.2.2.2.2.2.2.1, σ.2.2.2.2.2.2.2.2.2.2.2.2.2.2.2.2.2.2.2.2.2.2.2.2.2.2.2.2.1, upd σ.2.2.2.2.2.2.2.2.2.2.2.2.2.2.2.2.2.2.2.2.2.2.2.2.2.2.2.2.2.1 i.toNatClampNeg v, σ.2.2.2.2.2.2.2.2.2.2.2.2.2.2.2.2.2.2.2.2.2.2.2.2.2.2.2.2.2.2.1, σ.2.2.2.2.2.2.2.2.2.2.2.2.2.2.2.2.2.2.2.2.2.2.2.2.2.2.2.2.2.2.2.1, σ.2.2.2.2.2.2.2.2.2.2.2.2.2.2.2.2.2.2.2.2.2.2.2.2.2.2.2.2.2.2.2.2.1, σ.2.2.2.2.2.2.2.2.2.2.2.2.2.2.2.2.2.2.2.2.2.2.2.2.2.2.2.2.2.2.2.2.2.1, σ.2.2.2.2.2.2.2.2.2.2.2.2.2.2.2.2.2.2.2.2.2.2.2.2.2.2.2.2.2.2.2.2.2.2)
abbrev M_set_least (σ : StM) (v : (Nat → Int32)) : StM := (σ.1, σ.2.1, σ.2.2.1, σ.2.2.2.1, σ.2.2.2.2.1, σ.2.2.2.2.2.1, σ.2.2.2.2.2.2.1, σ.2.2.2.2.2.2.2.1, σ.2.2.2.2.2.2.2.2.1, σ.2.2.2.2.2.2.2.2.2.1, σ.2.2.2.2.2.2.2.2.2.2.1, σ.2.2.2.2.2.2.2.2.2.2.2.1, σ.2.2.2.2.2.2.2.2.2.2.2.2.1, σ.2.2.2.2.2.2.2.2.2.2.2.2.2.1, σ.2.2.2.2.2.2.2.2.2.2.2.2.2.2.1, σ.2.2.2.2.2.2.2.2.2.2.2.2.2.2.2.1, σ.2.2.2.2.2.2.2.2.2.2.2.2.2.2.2.2.1, σ.2.2.2.2.2.2.2.2.2.2.2.2.2.2.2.2.2.1, σ.2.2.2.2.2.2.2.2.2.2.2.2.2.2.2.2.2.2.1, σ.2.2.2.2.2.2.2.2.2.2.2.2.2.2.2.2.2.2.2.1, σ.2.2.2.2.2.2.2.2.2.2.2.2.2.2.2.2.2.2.2.2.1, σ.2.2.2.2.2.2.2.2.2.2.2.2.2.2.2.2.2.2.2.2.2.1, σ.2.2.2.2.2.2.2.2.2.2.2.2.2.2.2.2.2.2.2.2.2.2.1, σ.2.2.2.2.2.2.2.2.2.2.2.2.2.2.2.2.2.2.2.2.2.2.2.1, σ.2.2.2.2.2.2.2.2.2.2.2.2.2.2.2.2.2.2.2.2.2.2.2.2.1, σ.2.2.2.2.2.2.2.2.2.2.2.2.2.2.2.2.2.2.2.2.2.2.2.2.2.1, σ.2.2.2.2.2.2.2.2.2.2.2.2.2.2.2.2.2.2.2.2.2.2.2.2.2.2.1, σ.2.2.2.2.2.2.2.2.2.2.2.2.2.2.2.2.2.2.2.2.2.2.2.2.2.2.2.1, σ.2.2.2.2.2.2.2.2.2.2.2.2.2.2.2.2.2.2.2.2.2.2.2.2.2.2.2.2.1, σ.2.2.2.2.2.2.2.2.2.2.2.2.2.2.2.2.2.2.2.2.2.2.2.2.2.2.2.2.2.1, v, σ.2.2.2.2.2.2.2.2.2.2.2.2.2.2.2.2.2.2.2.2.2.2.2.2.2.2.2.2.2.2.2.1, σ.2.2.2.2.2.2.2.2.2.2.2.2.2.2.2.2.2.2.2.2.2.2.2.2.2.2.2.2.2.2.2.2.1, σ.2.2.2.2.2.2.2.2.2.2.2.2.2.2.2.2.2.2.2.2.2.2.2.2.2.2.2.2.2.2.2.2.2.1, σ.2.2.2.2.2.2.2.2.2.2.2.2.2.2.2.2.2.2.2.2.2.2.2.2.2.2.2.2.2.2.2.2.2.2)
abbrev M_put_least (σ : StM) (i v : Int32) : StM := (σ.1, σ.2.1, σ.2.2.1, σ.2.2.2.1, σ.2.2.2.2.1, σ.2.2.2.2.2.1, σ.2.2.2.2.2.2.1, σ.2.2.2.2.2.2.2.1, σ.2.2.2.2.2.2.2.2.1, σ.2.2.2.2.2.2.2.2.2.1, σ.2.2.2.2.2.2.2.2.2.2.1, σ.2.2.2.2.2.2.2.2.2.2.2.1, σ.2.2.2.2.2.2.2.2.2.2.2.2.1, σ.2.2.2.2.2.2.2.2.2.2.2.2.2.1, σ.2.2.2.2.2.2.2.2.2.2.2.2.2.2.1, σ.2.2.2.2.2.2.2.2.2.2.2.2.2.2.2.1, σ.2.2.2.2.2.2.2.2.2.2.2.2.2.2.2.2.1, σ.2.2.2.2.2.2.2.2.2.2.2.2.2.2.2.2.2.1, σ.2.2.2.2.2.2.2.2.2.2.2.2.2.2.2.2.2.2.1, σ.2.2.2.2.2.2.2.2.2.2.2.2.2.2.2.2.2.2.2.1, σ.2.2.2.2.2.2.2.2.2.2.2.2.2.2.2.2.2.2.2.2.1, σ.2.2.2.2.2.2.2.2.2.2.2.2.2.2.2.2.2.2.2.2.2.1, σ.2.2.2.2.2.2.2.2.2.2.2.2.2.2.2.2.2.2.2.2.2.2.1, σ.2.2.2.2.2.2.2.2.2.2.2.2.2.2.2.2.2.2.2.2.2.2.2.1, σ.2.2.2.2.2.2.2.2.2.2.2.2.2.2.2.2.2.2.2.2.2.2.2.2.1, σ.2.2.2.2.2.2.2.2.2.2.2.2.2.2.2.2.2.2.2.2.2.2.2.2.2.1, σ.2.2.2.2.2.2.2.2.2.2.2.2.2.2.2.2.2.2.2.2.2.2.2.2.2.2.1, σ.2.2.2.2.2.2.2.2.2.2.2.2.2.2.2.2.2.2.2.2.2.2.2.2.2.2.2.1, σ.2.2.2.2.2.2.2.2.2.2.2.2.2.2.2.2.2.2.2.2.2.2.2.2.2.2.2.2.1, σ.2.2.2.2.2.2.2.2.2.2.2.2.2.2.2.2.2.2.2.2.2.2.2.2.2.2.2.2.2.1, upd σ.2.2.2.2.2.2.2.2.2.2.2.2.2.2.2.2.2.2.2.2.2.2.2.2.2.2.2.2.2.2.1 i.toNatClampNeg v, σ.2.2.2.2.2.2.2.2.2.2.2.2.2.2.2.2.2.2.2.2.2.2.2.2.2.2.2.2.2.2.2.1, σ.2.2.2.2.2.2.2.2.2.2.2.2.2.2.2.2.2.2.2.2.2.2.2.2.2.2.2.2.2.2.2.2.1, σ.2.2.2.2.2.2.2.2.2.2.2.2.2.2.2.2.2.2.2.2.2.2.2.2.2.2.2.2.2.2.2.2.2.1, σ.2.2.2.2.2.2.2.2.2.2.2.2.2.2.2.2.2.2.2.2.2.2.2.2.2.2.2.2.2.2.2.2.2.2)
abbrev M_set_at (σ : StM) (v : (Nat → Int32)) : StM := (σ.1, σ.2.1, σ.2.2.1, σ.2.2.2.1, σ.2.2.2.2.1, σ.2.2.2.2.2.1, σ.2.2.2.2.2.2.1, σ.2.2.2.2.2.2.2.1, σ.2.2.2.2.2.2.2.2.1, σ.2.2.2.2.2.2.2.2.2.1, σ.2.2.2.2.2.2.2.2.2.2.1, σ.2.2.2.2.2.2.2.2.2.2.2.1, σ.2.2.2.2.2.2.2.2.2.2.2.2.1, σ.2.2.2.2.2.2.2.2.2.2.2.2.2.1, σ.2.2.2.2.2.2.2.2.2.2.2.2.2.2.1, σ.2.2.2.2.2.2.2.2.2.2.2.2.2.2.2.1, σ.2.2.2.2.2.2.2.2.2.2.2.2.2.2.2.2.1, σ.2.2.2.2.2.2.2.2.2.2.2.2.2.2.2.2.2.1, σ.2.2.2.2.2.2.2.2.2.2.2.2.2.2.2.2.2.2.1, σ.2.2.2.2.2.2.2.2.2.2.2.2.2.2.2.2.2.2.2.1, σ.2.2.2.2.2.2.2.2.2.2.2.2.2.2.2.2.2.2.2.2.1, σ.2.2.2.2.2.2.2.2.2.2.2.2.2.2.2.2.2.2.2.2.2.1, σ.2.2.2.2.2.2.2.2.2.2.2.2.2.2.2.2.2.2.2.2.2.2.1, σ.2.2.2.2.2.2.2.2.2.2.2.2.2.2.2.2.2.2.2.2.2.2.2.1, σ.2.2.2.2.2.2.2.2.2.2.2.2.2.2.2.2.2.2.2.2.2.2.2.2.1, σ.2.2.2.2.2.2.2.2.2.2.2.2.2.2.2.2.2.2.2.2.2.2.2.2.2.1, σ.2.2.2.2.2.2.2.2.2.2.2.2.2.2.2.2.2.2.2.2.2.2.2.2.2.2.1, σ.2.2.2.2.2.2.2.2.2.2.2.2.2.2.2.2.2.2.2.2.2.2.2.2.2.2.2.1, σ.2.2.2.2.2.2.2.2.2.2.2.2.2.2.2.2.2.2.2.2.2.2.2.2.2.2.2.2.1, σ.2.2.2.2.2.2.2.2.2.2.2.2.2.2.2.2.2.2.2.2.2.2.2.2.2.2.2.2.2.1, σ.2.2.2.2.2.2.2.2.2.2.2.2.2.2.2.2.2.2.2.2.2.2.2.2.2.2.2.2.2.2.1, v, σ.2.2.2.2.2.2.2.2.2.2.2.2.2.2.2.2.2.2.2.2.2.2.2.2.2.2.2.2.2.2.2.2.1, σ.2.2.2.2.2.2.2.2.2.2.2.2.2.2.2.2.2.2.2.2.2.2.2.2.2.2.2.2.2.2.2.2.2.1, σ.2.2.2.2.2.2.2.2.2.2.2.2.2.2.2.2.2.2.2.2.2.2.2.2.2.2.2.2.2.2.2.2.2.2)
abbrev M_put_at (σ : StM) (i v : Int32) : StM := (σ.1, σ.2.1, σ.2.2.1, σ.2.2.2.1, σ.2.2.2.2.1, σ.2.2.2.2.2.1, σ.2.2.2.2.2.2.1, σ.2.2.2.2.2.2.2.1, σ.2.2.2.2.2.2.2.2.1, σ.2.2.2.2.2.2.2.2.2.1, σ.2.2.2.2.2.2.2.2.2.2.1, σ.2.2.2.2.2.2.2.2.2.2.2.1, σ.2.2.2.2.2.2.2.2.2.2.2.2.1, σ.2.2.2.2.2.2.2.2.2.2.2.2.2.1, σ.2.2.2.2.2.2.2.2.2.2.2.2.2.2.1, σ.2.2.2.2.2.2.2.2.2.2.2.2.2.2.2.1, σ.2.2.2.2.2.2.2.2.2.2.2.2.2.2.2.2.1, σ.2.2.2.2.2.2.2.2.2.2.2.2.2.2.2.2.2.1, σ.2.2.2.2.2.2.2.2.2.2.2.2.2.2.2.2.2.2.1, σ.2.2.2.2.2.2.2.2.2.2.2.2.2.2.2.2.2.2.2.1, σ.2.2.2.2.2.2.2.2.2.2.2.2.2.2.2.2.2.2.2.2.1, σ.2.2.2.2.2.2.2.2.2.2.2.2.2.2.2.2.2.2.2.2.2.1, σ.2.2.2.2.2.2.2.2.2.2.2.2.2.2.2.2.2.2.2.2.2.2.1, σ.2.2.2.2.2.2.2.2.2.2.2.2.2.2.2.2.2.2.2.2.2.2.2.1, σ.2.2.2.2.2.2.2.2.2.2.2.2.2.2.2.2.2.2.2.2.2.2.2.2.1, σ.2.2.2.2.2.2.2.2.2.2.2.2.2.2.2.2.2.2.2.2.2.2.2.2.2.1, σ.2.2.2.2.2.2.2.2.2.2.2.2.2.2.2.2.2.2.2.2.2.2.2.2.2.2.1, σ.2.2.2.2.2.2.2.2.2.2.2.2.2.2.2.2.2.2.2.2.2.2.2.2.2.2.2.1, σ.2.2.2.2.2.2.2.2.2.2.2.2.2.2.2.2.2.2.2.2.2.2.2.2.2.2.2.2.1, σ.2.2.2.2.2.2.2.2.2.2.2.2.2.2.2.2.2.2.2.2.2.2.2.2.2.2.2.2.2.1, σ.2.2.2.2.2.2.2.2.2.2.2.2.2.2.2.2.2.2.2.2.2.2.2.2.2.2.2.2.2.2.1, upd σ.2.2.2.2.2.2.2.2.2.2.2.2.2.2.2.2.2.2.2.2.2.2.2.2.2.2.2.2.2.2.2.1 i.toNatClampNeg v, σ.2.2.2.2.2.2.2.2.2.2.2.2.2.2.2.2.2.2.2.2.2.2.2.2.2.2.2.2.2.2.2.2.1, σ.2.2.2.2.2.2.2.2.2.2.2.2.2.2.2.2.2.2.2.2.2.2.2.2.2.2.2.2.2.2.2.2.2.1, σ.2.2.2.2.2.2.2.2.2.2.2.2.2.2.2.2.2.2.2.2.2.2.2.2.2.2.2.2.2.2.2.2.2.2)
abbrev M_set_size (σ : StM) (v : (Nat → Int32)) : StM := (σ.1, σ.2.1, σ.2.2.1, σ.2.2.2.1, σ.2.2.2.2.1, σ.2.2.2.2.2.1, σ.2.2.2.2.2.2.1, σ.2.2.2.2.2.2.2.1, σ.2.2.2.2.2.2.2.2.1, σ.2.2.2.2.2.2.2.2.2.1, σ.2.2.2.2.2.2.2.2.2.2.1, σ.2.2.2.2.2.2.2.2.2.2.2.1, σ.2.2.2.2.2.2.2.2.2.2.2.2.1, σ.2.2.2.2.2.2.2.2.2.2.2.2.2.1, σ.2.2.2.2.2.2.2.2.2.2.2.2.2.2.1, σ.2.2.2.2.2.2.2.2.2.2.2.2.2.2.2.1, σ.2.2.2.2.2.2.2.2.2.2.2.2.2.2.2.2.1, σ.2.2.2.2.2.2.2.2.2.2.2.2.2.2.2.2.2.1, σ.2.2.2.2.2.2.2.2.2.2.2.2.2.2.2.2.2.2.1, σ.2.2.2.2.2.2.2.2.2.2.2.2.2.2.2.2.2.2.2.1, σ.2.2.2.2.2.2.2.2.2.2.2.2.2.2.2.2.2.2.2.2.1, σ.2.2.2.2.2.2.2.2.2.2.2.2.2.2.2.2.2.2.2.2.2.1, σ.2.2.2.2.2.2.2.2.2.2.2.2.2.2.2.2.2.2.2.2.2.2.1, σ.2.2.2.2.2.2.2.2.2.2.2.2.2.2.2.2.2.2.2.2.2.2.2.1, σ.2.2.2.2.2.2.2.2.2.2.2.2.2.2.2.2.2.2.2.2.2.2.2.2.1, σ.2.2.2.2.2.2.2.2.2.2.2.2.2.2.2.2.2.2.2.2.2.2.2.2.2.1, σ.2.2.2.2.2.2.2.2.2.2.2.2.2.2.2.2.2.2.2.2.2.2.2.2.2.2.1, σ.2.2.2.2.2.2.2.2.2.2.2.2.2.2.2.2.2.2.2.2.2.2.2.2.2.2.2.1, σ.2.2.2.2.2.2.2.2.2.2.2.2.2.2.2.2.2.2.2.2.2.2.2.2.2.2.2.2.1, σ.2.2.2.2.2.2.2.2.2.2.2.2.2.2.2.2.2.2.2.2.2.2.2.2.2.2.2.2.2.1, σ.2.2.2.2.2.2.2.2.2.2.2.2.2.2.2.2.2.2.2.2.2.2.2.2.2.2.2.2.2.2.1, σ.2.2.2.2.2.2.2.2.2.2.2.2.2.2.2.2.2.2.2.2.2.2.2.2.2.2.2.2.2.2.2.1, v, σ.2.2.2.2.2.2.2.2.2.2.2.2.2.2.2.2.2.2.2.2.2.2.2.2.2.2.2.2.2.2.2.2.2.1, σ.2.2.2.2.2.2.2.2.2.2.2.2.2.2.2.2.2.2.2.2.2.2.2.2.2.2.2.2.2.2.2.2.2.2)
abbrev M_put_size (σ : StM) (i v : Int32) : StM := (σ.1, σ.2.1, σ.2.2.1, σ.2.2.2.1, σ.2.2.2.2.1, σ.2.2.2.2.2.1, σ.2.2.2.2.2.2.1, σ.2.2.2.2.2.2.2.1, σ.2.2.2.2.2.2.2.2.1, σ.2.2.2.2.2.2.2.2.2.1, σ.2.2.2.2.2.2.2.2.2.2.1, σ.2.2.2.2.2.2.2.2.2.2.2.1, σ.2.2.2.2.2.2.2.2.2.2.2.2.1, σ.2.2.2.2.2.2.2.2.2.2.2.2.2.1, σ.2.2.2.2.2.2.2.2.2.2.2.2.2.2.1, σ.2.2.2.2.2.2.2.2.2.2.2.2.2.2.2.1, σ.2.2.2.2.2.2.2.2.2.2.2.2.2.2.2.2.1, σ.2.2.2.2.2.2.2.2.2.2.2.2.2.2.2.2.2.1, σ.2.2.2.2.2.2.2.2.2.2.2.2.2.2.2.2.2.2.1, σ.2.2.2.2.2.2.2.2.2.2.2.2.2.2.2.2.2.2.2.1, σ.2.2.2.2.2.2.2.2.2.2.2.2.2.2.2.2.2.2.2.2.1, σ.2.2.2.2.2.2.2.2.2.2.2.2.2.2.2.2.2.2.2.2.2.1, σ.2.2.2.2.2.2.2.2.2.2.2.2.2.2.2.2.2.2.2.2.2.2.1, σ.2.2.2.2.2.2.2.2.2.2.2.2.2.2.2.2.2.2.2.2.2.2.2.1, σ.2.2.2.2.2.2.2.2.2.2.2.2.2.2.2.2.2.2.2.2.2.2.2.2.1, σ.2.2.2.2.2.2.2.2.2.2.2.2.2.2.2.2.2.2.2.2.2.2.2.2.2.1, σ.2.2.2.2.2.2.2.2.2.2.2.2.2.2.2.2.2.2.2.2.2.2.2.2.2.2.1, σ.2.2.2.2.2.2.2.2.2.2.2.2.2.2.2.2.2.2.2.2.2.2.2.2.2.2.2.1, σ.2.2.2.2.2.2.2.2.2.2.2.2.2.2.2.2.2.2.2.2.2.2.2.2.2.2.2.2.1, σ.2.2.2.2.2.2.2.2.2.2.2.2.2.2.2.2.2.2.2.2.2.2.2.2.2.2.2.2.2.1, σ.2.2.2.2.2.2.2.2.2.2.2.2.2.2.2.2.2.2.2.2.2.2.2.2.2.2.2.2.2.2.1, σ.2.2.2.2.2.2.2.2.2.2.2.2.2.2.2.2.2.2.2.2.2.2.2.2.2.2.2.2.2.2.2.1, upd σ.2.2.2.2.2.2.2.2.2.2.2.2.2.2.2.2.2.2.2.2.2.2.2.2.2.2.2.2.2.2.2.2.1 i.toNatClampNeg v, σ.2.2.2.2.2.2.2.2.2.2.2.2.2.2.2.2.2.2.2.2.2.2.2.2.2.2.2.2.2.2.2.2.2.1, σ.2.2.2.2.2.2.2.2.2.2.2.2.2.2.2.2.2.2.2.2.2.2.2.2.2.2.2.2.2.2.2.2.2.2)
abbrev M_set_parts (σ : StM) (v : (Nat → Int32)) : StM := (σ.1, σ.2.1, σ.2.2.1, σ.2.2.2.1, σ.2.2.2.2.1, σ.2.2.2.2.2.1, σ.2.2.2.2.2.2.1, σ.2.2.2.2.2.2.2.1, σ.2.2.2.2.2.2.2.2.1, σ.2.2.2.2.2.2.2.2.2.1, σ.2.2.2.2.2.2.2.2.2.2.1, σ.2.2.2.2.2.2.2.2.2.2.2.1, σ.2.2.2.2.2.2.2.2.2.2.2.2.1, σ.2.2.2.2.2.2.2.2.2.2.2.2.2.1, σ.2.2.2.2.2.2.2.2.2.2.2.2.2.2.1, σ.2.2.2.2.2.2.2.2.2.2.2.2.2.2.2.1, σ.2.2.2.2.2.2.2.2.2.2.2.2.2.2.2.2.1, σ.2.2.2.2.2.2.2.2.2.2.2.2.2.2.2.2.2.1, σ.2.2.2.2.2.2.2.2.2.2.2.2.2.2.2.2.2.2.1, σ.2.2.2.2.2.2.2.2.2.2.2.2.2.2.2.2.2.2.2.1, σ.2.2.2.2.2.2.2.2.2.2.2.2.2.2.2.2.2.2.2.2.1, σ.2.2.2.2.2.2.2.2.2.2.2.2.2.2.2.2.2.2.2.2.2.1, σ.2.2.2.2.2.2.2.2.2.2.2.2.2.2.2.2.2.2.2.2.2.2.1, σ.2.2.2.2.2.2.2.2.2.2.2.2.2.2.2.2.2.2.2.2.2.2.2.1, σ.2.2.2.2.2.2.2.2.2.2.2.2.2.2.2.2.2.2.2.2.2.2.2.2.1, σ.2.2.2.2.2.2.2.2.2.2.2.2.2.2.2.2.2.2.2.2.2.2.2.2.2.1, σ.2.2.2.2.2.2.2.2.2.2.2.2.2.2.2.2.2.2.2.2.2.2.2.2.2.2.1, σ.2.2.2.2.2.2.2.2.2.2.2.2.2.2.2.2.2.2.2.2.2.2.2.2.2.2.2.1, σ.2.2.2.2.2.2.2.2.2.2.2.2.2.2.2.2.2.2.2.2.2.2.2.2.2.2.2.2.1, σ.2.2.2.2.2.2.2.2.2.2.2.2.2.2.2.2.2.2.2.2.2.2.2.2.2.2.2.2.2.1, σ.2.2.2.2.2.2.2.2.2.2.2.2.2.2.2.2.2.2.2.2.2.2.2.2.2.2.2.2.2.2.1, σ.2.2.2.2.2.2.2.2.2.2.2.2.2.2.2.2.2.2.2.2.2.2.2.2.2.2.2.2.2.2.2.1, σ.2.2.2.2.2.2.2.2.2.2.2.2.2.2.2.2.2.2.2.2.2.2.2.2.2.2.2.2.2.2.2.2.1, v, σ.2.2.2.2.2.2.2.2.2.2.2.2.2.2.2.2.2.2.2.2.2.2.2.2.2.2.2.2.2.2.2.2.2.2)
abbrev M_put_parts (σ : StM) (i v : Int32) : StM := (σ.1, σ.2.1, σ.2.2.1, σ.2.2.2.1, σ.2.2.2.2.1, σ.2.2.2.2.2.1, σ.2.2.2.2.2.2.1, σ.2.2.2.2.2.2.2.1, σ.2.2.2.2.2.2.2.2.1, σ.2.2.2.2.2.2.2.2.2.1, σ.2.2.2.2.2.2.2.2.2.2.1, σ.2.2.2.2.2.2.2.2.2.2.2.1, σ.2.2.2.2.2.2.2.2.2.2.2.2.1, σ.2.2.2.2.2.2.2.2.2.2.2.2.2.1, σ.2.2.2.2.2.2.2.2.2.2.2.2.2.2.1, σ.2.2.2.2.2.2.2.2.2.2.2.2.2.2.2.1, σ.2.2.2.2.2.2.2.2.2.2.2.2.2.2.2.2.1, σ.2.2.2.2.2.2.2.2.2.2.2.2.2.2.2.2.2.1, σ.2.2.2.2.2.2.2.2.2.2.2.2.2.2.2.2.2.2.1, σ.2.2.2.2.2.2.2.2.2.2.2.2.2.2.2.2.2.2.2.1, σ.2.2.2.2.2.2.2.2.2.2.2.2.2.2.2.2.2.2.2.2.1, σ.2.2.2.2.2.2.2.2.2.2.2.2.2.2.2.2.2.2.2.2.2.1, σ.2.2.2.2.2.2.2.2.2.2.2.2.2.2.2.2.2.2.2.2.2.2.1, σ.2.2.2.2.2.2.2.2.2.2.2.2.2.2.2.2.2.2.2.2.2.2.2.1, σ.2.2.2.2.2.2.2.2.2.2.2.2.2.2.2.2.2.2.2.2.2.2.2.2.1, σ.2.2.2.2.2.2.2.2.2.2.2.2.2.2.2.2.2.2.2.2.2.2.2.2.2.1, σ.2.2.2.2.2.2.2.2.2.2.2.2.2.2.2.2.2.2.2.2.2.2.2.2.2.2.1, σ.2.2.2.2.2.2.2.2.2.2.2.2.2.2.2.2.2.2.2.2.2.2.2.2.2.2.2.1, σ.2.2.2.2.2.2.2.2.2.2.2.2.2.2.2.2.2.2.2.2.2.2.2.2.2.2.2.2.1, σ.2.2.2.2.2.2.2.2.2.2.2.2.2.2.2.2.2.2.2.2.2.2.2.2.2.2.2.2.2.1, σ.2.2.2.2.2.2.2.2.2.2.2.2.2.2.2.2.2.2.2.2.2.2.2.2.2.2.2.2.2.2.1, σ.2.2.2.2.2.2.2.2.2.2.2.2.2.2.2.2.2.2.2.2.2.2.2.2.2.2.2.2.2.2.2.1, σ.2.2.2.2.2.2.2.2.2.2.2.2.2.2.2.2.2.2.2.2.2.2.2.2.2.2.2.2.2.2.2.2.1, upd σ.2.2.2.2.2.2.2.2.2.2.2.2.2.2.2.2.2.2.2.2.2.2.2.2.2.2.2.2.2.2.2.2.2.1 i.toNatClampNeg v, σ.2.2.2.2.2.2.2.2.2.2.2.2.2.2.2.2.2.2.2.2.2.2.2.2.2.2.2.2.2.2.2.2.2.2)
abbrev M_set_answer (σ : StM) (v : Int32) : StM := (σ.1, σ.2.1, σ.2.2.1, σ.2.2.2.1, σ.2.2.2.2.1, σ.2.2.2.2.2.1, σ.2.2.2.2.2.2.1, σ.2.2.2.2.2.2.2.1, σ.2.2.2.2.2.2.2.2.1, σ.2.2.2.2.2.2.2.2.2.1, σ.2.2.2.2.2.2.2.2.2.2.1, σ.2.2.2.2.2.2.2.2.2.2.2.1, σ.2.2.2.2.2.2.2.2.2.2.2.2.1, σ.2.2.2.2.2.2.2.2.2.2.2.2.2.1, σ.2.2.2.2.2.2.2.2.2.2.2.2.2.2.1, σ.2.2.2.2.2.2.2.2.2.2.2.2.2.2.2.1, σ.2.2.2.2.2.2.2.2.2.2.2.2.2.2.2.2.1, σ.2.2.2.2.2.2.2.2.2.2.2.2.2.2.2.2.2.1, σ.2.2.2.2.2.2.2.2.2.2.2.2.2.2.2.2.2.2.1, σ.2.2.2.2.2.2.2.2.2.2.2.2.2.2.2.2.2.2.2.1, σ.2.2.2.2.2.2.2.2.2.2.2.2.2.2.2.2.2.2.2.2.1, σ.2.2.2.2.2.2.2.2.2.2.2.2.2.2.2.2.2.2.2.2.2.1, σ.2.2.2.2.2.2.2.2.2.2.2.2.2.2.2.2.2.2.2.2.2.2.1, σ.2.2.2.2.2.2.2.2.2.2.2.2.2.2.2.2.2.2.2.2.2.2.2.1, σ.2.2.2.2.2.2.2.2.2.2.2.2.2.2.2.2.2.2.2.2.2.2.2.2.1, σ.2.2.2.2.2.2.2.2.2.2.2.2.2.2.2.2.2.2.2.2.2.2.2.2.2.1, σ.2.2.2.2.2.2.2.2.2.2.2.2.2.2.2.2.2.2.2.2.2.2.2.2.2.2.1, σ.2.2.2.2.2.2.2.2.2.2.2.2.2.2.2.2.2.2.2.2.2.2.2.2.2.2.2.1, σ.2.2.2.2.2.2.2.2.2.2.2.2.2.2.2.2.2.2.2.2.2.2.2.2.2.2.2.2.1, σ.2.2.2.2.2.2.2.2.2.2.2.2.2.2.2.2.2.2.2.2.2.2.2.2.2.2.2.2.2.1, σ.2.2.2.2.2.2.2.2.2.2.2.2.2.2.2.2.2.2.2.2.2.2.2.2.2.2.2.2.2.2.1, σ.2.2.2.2.2.2.2.2.2.2.2.2.2.2.2.2.2.2.2.2.2.2.2.2.2.2.2.2.2.2.2.1, σ.2.2.2.2.2.2.2.2.2.2.2.2.2.2.2.2.2.2.2.2.2.2.2.2.2.2.2.2.2.2.2.2.1, σ.2.2.2.2.2.2.2.2.2.2.2.2.2.2.2.2.2.2.2.2.2.2.2.2.2.2.2.2.2.2.2.2.2.1, v)
def wL (cI cZ : ClassId) (a : Nat → Nat) (q : Nat) (σ : StL) : va_W := [((a 0), .inr (0, [.int (L_depth σ), .ref (a 3), .ref (a 10), .ref (a 18), .ref (a 1), .ref (a 2)])), ((a 1), .inl (cI, 90, .inl (L_row σ))), ((a 2), .inl (cI, 60, .inl (L_gathered σ))), ((a 3), .inr (1, [.ref (a 4), .ref (a 5), .ref (a 6), .ref (a 7), .ref (a 8), .ref (a 9), .int (C_count (L_classes σ)), .int (C_countGeneric (L_classes σ))])), ((a 4), .inl (cZ, 30, .inl (C_faces (L_classes σ)))), ((a 5), .inl (cZ, 30, .inl (C_generics (L_classes σ)))), ((a 6), .inl (cI, 30, .inl (C_above (L_classes σ)))), ((a 7), .inl (cI, 30, .inl (C_directCounts (L_classes σ)))), ((a 8), .inl (cI, 900, .inl (C_directs (L_classes σ)))), ((a 9), .inl (cI, 900, .inl (C_tolds (L_classes σ)))), ((a 10), .inr (2, [.ref (a 11), .ref (a 12), .ref (a 13), .ref (a 14), .ref (a 15), .ref (a 16), .ref (a 17), .ref q, .int (T_partsUsed (L_types σ)), .int (T_count (L_types σ)), .int (T_settledParts (L_types σ)), .int (T_settledCount (L_types σ))])), ((a 11), .inl (cI, 300, .inl (T_kinds (L_types σ)))), ((a 12), .inl (cI, 300, .inl (T_named (L_types σ)))), ((a 13), .inl (cI, 300, .inl (T_arguments (L_types σ)))), ((a 14), .inl (cI, 300, .inl (T_elements (L_types σ)))), ((a 15), .inl (cI, 300, .inl (T_sizes (L_types σ)))), ((a 16), .inl (cI, 300, .inl (T_partStarts (L_types σ)))), ((a 17), .inl (cI, 300, .inl (T_partCounts (L_types σ)))), (q, .inl (cI, (T_parts (L_types σ)).1, .inl (T_parts (L_types σ)).2)), ((a 18), .inr (3, [.ref (a 19), .int (A_empty (L_answers σ))])), ((a 19), .inl (cI, 5625, .inl (A_cells (L_answers σ))))]
def wC (cI cZ : ClassId) (a : Nat → Nat) (q : Nat) (σ : StC) : va_W := [((a 3), .inr (1, [.ref (a 4), .ref (a 5), .ref (a 6), .ref (a 7), .ref (a 8), .ref (a 9), .int (C_count σ), .int (C_countGeneric σ)])), ((a 4), .inl (cZ, 30, .inl (C_faces σ))), ((a 5), .inl (cZ, 30, .inl (C_generics σ))), ((a 6), .inl (cI, 30, .inl (C_above σ))), ((a 7), .inl (cI, 30, .inl (C_directCounts σ))), ((a 8), .inl (cI, 900, .inl (C_directs σ))), ((a 9), .inl (cI, 900, .inl (C_tolds σ)))]
def wT (cI cZ : ClassId) (a : Nat → Nat) (q : Nat) (σ : StT) : va_W := [((a 10), .inr (2, [.ref (a 11), .ref (a 12), .ref (a 13), .ref (a 14), .ref (a 15), .ref (a 16), .ref (a 17), .ref q, .int (T_partsUsed σ), .int (T_count σ), .int (T_settledParts σ), .int (T_settledCount σ)])), ((a 11), .inl (cI, 300, .inl (T_kinds σ))), ((a 12), .inl (cI, 300, .inl (T_named σ))), ((a 13), .inl (cI, 300, .inl (T_arguments σ))), ((a 14), .inl (cI, 300, .inl (T_elements σ))), ((a 15), .inl (cI, 300, .inl (T_sizes σ))), ((a 16), .inl (cI, 300, .inl (T_partStarts σ))), ((a 17), .inl (cI, 300, .inl (T_partCounts σ))), (q, .inl (cI, (T_parts σ).1, .inl (T_parts σ).2))]
def wA (cI cZ : ClassId) (a : Nat → Nat) (q : Nat) (σ : StA) : va_W := [((a 18), .inr (3, [.ref (a 19), .int (A_empty σ)])), ((a 19), .inl (cI, 5625, .inl (A_cells σ)))]
def wM (cI cZ : ClassId) (a : Nat → Nat) (q : Nat) (σ : StM) : va_W := [((a 20), .inr (4, [.int (M_code σ), .int (M_depth σ), .int (M_classes σ), .int (M_generics σ), .ref (a 21), .ref (a 22), .ref (a 23), .ref (a 24), .ref (a 25), .ref (a 26), .int (M_types σ), .ref (a 27), .ref (a 28), .ref (a 29), .ref (a 30), .ref (a 31), .ref (a 32), .ref (a 33), .int (M_full σ), .int (M_found σ), .int (M_foundHow σ), .int (M_foundType σ), .ref (a 34), .ref (a 35), .int (M_reckoned σ), .int (M_high σ), .ref (a 36), .ref (a 37), .ref (a 38), .ref (a 39), .ref (a 40), .ref (a 41), .ref (a 42), .ref (a 43), .int (M_answer σ)])), ((a 21), .inl (cZ, 30, .inl (M_face σ))), ((a 22), .inl (cZ, 30, .inl (M_generic σ))), ((a 23), .inl (cI, 30, .inl (M_directs σ))), ((a 24), .inl (cI, 900, .inl (M_directTo σ))), ((a 25), .inl (cI, 900, .inl (M_directArg σ))), ((a 26), .inl (cI, 30, .inl (M_over σ))), ((a 27), .inl (cI, 300, .inl (M_kind σ))), ((a 28), .inl (cI, 300, .inl (M_classOf σ))), ((a 29), .inl (cI, 300, .inl (M_how σ))), ((a 30), .inl (cI, 300, .inl (M_inner σ))), ((a 31), .inl (cI, 300, .inl (M_made σ))), ((a 32), .inl (cI, 300, .inl (M_partCount σ))), ((a 33), .inl (cI, 9000, .inl (M_partRow σ))), ((a 34), .inl (cI, 64, .inl (M_row σ))), ((a 35), .inl (cZ, 90000, .inl (M_below σ))), ((a 36), .inl (cI, 500, .inl (M_left σ))), ((a 37), .inl (cI, 500, .inl (M_right σ))), ((a 38), .inl (cI, 500, .inl (M_deep σ))), ((a 39), .inl (cI, 500, .inl (M_stage σ))), ((a 40), .inl (cI, 500, .inl (M_least σ))), ((a 41), .inl (cI, 500, .inl (M_at σ))), ((a 42), .inl (cI, 500, .inl (M_size σ))), ((a 43), .inl (cI, 15000, .inl (M_parts σ)))]
end
section
theorem ws_C_put_directs {cI cZ : ClassId} {a : Nat → Nat} {q : Nat} {σ : StC} {i v : Int32} : (wC cI cZ a q σ).set 5 ((a 8), .inl (cI, 900, .inl (upd (C_directs σ) i.toNatClampNeg v))) = (wC cI cZ a q (C_put_directs σ i v)) := rfl
theorem ws_C_put_tolds {cI cZ : ClassId} {a : Nat → Nat} {q : Nat} {σ : StC} {i v : Int32} : (wC cI cZ a q σ).set 6 ((a 9), .inl (cI, 900, .inl (upd (C_tolds σ) i.toNatClampNeg v))) = (wC cI cZ a q (C_put_tolds σ i v)) := rfl
theorem ws_C_put_directCounts {cI cZ : ClassId} {a : Nat → Nat} {q : Nat} {σ : StC} {i v : Int32} : (wC cI cZ a q σ).set 4 ((a 7), .inl (cI, 30, .inl (upd (C_directCounts σ) i.toNatClampNeg v))) = (wC cI cZ a q (C_put_directCounts σ i v)) := rfl
theorem ws_C_put_above {cI cZ : ClassId} {a : Nat → Nat} {q : Nat} {σ : StC} {i v : Int32} : (wC cI cZ a q σ).set 3 ((a 6), .inl (cI, 30, .inl (upd (C_above σ) i.toNatClampNeg v))) = (wC cI cZ a q (C_put_above σ i v)) := rfl
theorem ws_C_set_count {cI cZ : ClassId} {a : Nat → Nat} {q : Nat} {σ : StC} {v : Int32} : (wC cI cZ a q σ).set 0 ((a 3), .inr (1, [.ref (a 4), .ref (a 5), .ref (a 6), .ref (a 7), .ref (a 8), .ref (a 9), .int (C_count σ), .int (C_countGeneric σ)].set 6 (.int v))) = (wC cI cZ a q (C_set_count σ v)) := rfl
theorem ws_C_put_faces {cI cZ : ClassId} {a : Nat → Nat} {q : Nat} {σ : StC} {i v : Int32} : (wC cI cZ a q σ).set 1 ((a 4), .inl (cZ, 30, .inl (upd (C_faces σ) i.toNatClampNeg v))) = (wC cI cZ a q (C_put_faces σ i v)) := rfl
theorem ws_C_put_generics {cI cZ : ClassId} {a : Nat → Nat} {q : Nat} {σ : StC} {i v : Int32} : (wC cI cZ a q σ).set 2 ((a 5), .inl (cZ, 30, .inl (upd (C_generics σ) i.toNatClampNeg v))) = (wC cI cZ a q (C_put_generics σ i v)) := rfl
theorem jn_C__C {cI cZ : ClassId} {a : Nat → Nat} {q : Nat} {σ : StC} : [0, 1, 2, 3, 4, 5, 6].map (fun (i : Nat) => (wC cI cZ a q σ)[i]?) = (wC cI cZ a q σ).map some := rfl
theorem jn_C__R {cI cZ : ClassId} {a : Nat → Nat} {q : Nat} {σ : StC} : [].map (fun (i : Nat) => (wC cI cZ a q σ)[i]?) = ([].filterMap (fun (i : Nat) => (wC cI cZ a q σ)[i]?)).map some := rfl
theorem jn_C__W {cI cZ : ClassId} {a : Nat → Nat} {q : Nat} {σ : StC} {u : StC} (q1 : Nat) : [0, 1, 2, 3, 4, 5, 6].map (fun (i : Nat) => ([].filterMap (fun (i : Nat) => (wC cI cZ a q σ)[i]?) ++ (wC cI cZ a q1 u))[i]?) = (wC cI cZ a q u).map some := rfl
theorem ws_C_set_countGeneric {cI cZ : ClassId} {a : Nat → Nat} {q : Nat} {σ : StC} {v : Int32} : (wC cI cZ a q σ).set 0 ((a 3), .inr (1, [.ref (a 4), .ref (a 5), .ref (a 6), .ref (a 7), .ref (a 8), .ref (a 9), .int (C_count σ), .int (C_countGeneric σ)].set 7 (.int v))) = (wC cI cZ a q (C_set_countGeneric σ v)) := rfl
theorem ws_T_set_count {cI cZ : ClassId} {a : Nat → Nat} {q : Nat} {σ : StT} {v : Int32} : (wT cI cZ a q σ).set 0 ((a 10), .inr (2, [.ref (a 11), .ref (a 12), .ref (a 13), .ref (a 14), .ref (a 15), .ref (a 16), .ref (a 17), .ref q, .int (T_partsUsed σ), .int (T_count σ), .int (T_settledParts σ), .int (T_settledCount σ)].set 9 (.int v))) = (wT cI cZ a q (T_set_count σ v)) := rfl
theorem ws_T_put_kinds {cI cZ : ClassId} {a : Nat → Nat} {q : Nat} {σ : StT} {i v : Int32} : (wT cI cZ a q σ).set 1 ((a 11), .inl (cI, 300, .inl (upd (T_kinds σ) i.toNatClampNeg v))) = (wT cI cZ a q (T_put_kinds σ i v)) := rfl
theorem ws_T_put_named {cI cZ : ClassId} {a : Nat → Nat} {q : Nat} {σ : StT} {i v : Int32} : (wT cI cZ a q σ).set 2 ((a 12), .inl (cI, 300, .inl (upd (T_named σ) i.toNatClampNeg v))) = (wT cI cZ a q (T_put_named σ i v)) := rfl
theorem ws_T_put_arguments {cI cZ : ClassId} {a : Nat → Nat} {q : Nat} {σ : StT} {i v : Int32} : (wT cI cZ a q σ).set 3 ((a 13), .inl (cI, 300, .inl (upd (T_arguments σ) i.toNatClampNeg v))) = (wT cI cZ a q (T_put_arguments σ i v)) := rfl
theorem ws_T_put_elements {cI cZ : ClassId} {a : Nat → Nat} {q : Nat} {σ : StT} {i v : Int32} : (wT cI cZ a q σ).set 4 ((a 14), .inl (cI, 300, .inl (upd (T_elements σ) i.toNatClampNeg v))) = (wT cI cZ a q (T_put_elements σ i v)) := rfl
theorem ws_T_put_sizes {cI cZ : ClassId} {a : Nat → Nat} {q : Nat} {σ : StT} {i v : Int32} : (wT cI cZ a q σ).set 5 ((a 15), .inl (cI, 300, .inl (upd (T_sizes σ) i.toNatClampNeg v))) = (wT cI cZ a q (T_put_sizes σ i v)) := rfl
theorem ws_T_put_partStarts {cI cZ : ClassId} {a : Nat → Nat} {q : Nat} {σ : StT} {i v : Int32} : (wT cI cZ a q σ).set 6 ((a 16), .inl (cI, 300, .inl (upd (T_partStarts σ) i.toNatClampNeg v))) = (wT cI cZ a q (T_put_partStarts σ i v)) := rfl
theorem ws_T_put_partCounts {cI cZ : ClassId} {a : Nat → Nat} {q : Nat} {σ : StT} {i v : Int32} : (wT cI cZ a q σ).set 7 ((a 17), .inl (cI, 300, .inl (upd (T_partCounts σ) i.toNatClampNeg v))) = (wT cI cZ a q (T_put_partCounts σ i v)) := rfl
theorem jn_T__C {cI cZ : ClassId} {a : Nat → Nat} {q : Nat} {σ : StT} : [0, 1, 2, 3, 4, 5, 6, 7, 8].map (fun (i : Nat) => (wT cI cZ a q σ)[i]?) = (wT cI cZ a q σ).map some := rfl
theorem jn_T__R {cI cZ : ClassId} {a : Nat → Nat} {q : Nat} {σ : StT} : [].map (fun (i : Nat) => (wT cI cZ a q σ)[i]?) = ([].filterMap (fun (i : Nat) => (wT cI cZ a q σ)[i]?)).map some := rfl
theorem jn_T__W {cI cZ : ClassId} {a : Nat → Nat} {q : Nat} {σ : StT} {u : StT} (q1 : Nat) : [0, 1, 2, 3, 4, 5, 6, 7, 8].map (fun (i : Nat) => ([].filterMap (fun (i : Nat) => (wT cI cZ a q σ)[i]?) ++ (wT cI cZ a q1 u))[i]?) = (wT cI cZ a q1 u).map some := rfl
theorem ws_T_set_settledCount {cI cZ : ClassId} {a : Nat → Nat} {q : Nat} {σ : StT} {v : Int32} : (wT cI cZ a q σ).set 0 ((a 10), .inr (2, [.ref (a 11), .ref (a 12), .ref (a 13), .ref (a 14), .ref (a 15), .ref (a 16), .ref (a 17), .ref q, .int (T_partsUsed σ), .int (T_count σ), .int (T_settledParts σ), .int (T_settledCount σ)].set 11 (.int v))) = (wT cI cZ a q (T_set_settledCount σ v)) := rfl
theorem ws_T_set_settledParts {cI cZ : ClassId} {a : Nat → Nat} {q : Nat} {σ : StT} {v : Int32} : (wT cI cZ a q σ).set 0 ((a 10), .inr (2, [.ref (a 11), .ref (a 12), .ref (a 13), .ref (a 14), .ref (a 15), .ref (a 16), .ref (a 17), .ref q, .int (T_partsUsed σ), .int (T_count σ), .int (T_settledParts σ), .int (T_settledCount σ)].set 10 (.int v))) = (wT cI cZ a q (T_set_settledParts σ v)) := rfl
theorem jf_A_cells_C {cI cZ : ClassId} {a : Nat → Nat} {q : Nat} {σ : StA} : [1].map (fun (i : Nat) => (wA cI cZ a q σ)[i]?) = (wF cI (a 19) 5625 0 (A_cells σ)).map some := rfl
theorem jf_A_cells_R {cI cZ : ClassId} {a : Nat → Nat} {q : Nat} {σ : StA} : [0].map (fun (i : Nat) => (wA cI cZ a q σ)[i]?) = ([0].filterMap (fun (i : Nat) => (wA cI cZ a q σ)[i]?)).map some := rfl
theorem jf_A_cells_W {cI cZ : ClassId} {a : Nat → Nat} {q : Nat} {σ : StA} {u : Nat → Int32} (q1 : Nat) : [0, 1].map (fun (i : Nat) => ([0].filterMap (fun (i : Nat) => (wA cI cZ a q σ)[i]?) ++ wF cI (a 19) 5625 q1 u)[i]?) = (wA cI cZ a q (A_set_cells σ u)).map some := rfl
theorem ws_A_set_empty {cI cZ : ClassId} {a : Nat → Nat} {q : Nat} {σ : StA} {v : Int32} : (wA cI cZ a q σ).set 0 ((a 18), .inr (3, [.ref (a 19), .int (A_empty σ)].set 1 (.int v))) = (wA cI cZ a q (A_set_empty σ v)) := rfl
theorem ws_T_set_partsUsed {cI cZ : ClassId} {a : Nat → Nat} {q : Nat} {σ : StT} {v : Int32} : (wT cI cZ a q σ).set 0 ((a 10), .inr (2, [.ref (a 11), .ref (a 12), .ref (a 13), .ref (a 14), .ref (a 15), .ref (a 16), .ref (a 17), .ref q, .int (T_partsUsed σ), .int (T_count σ), .int (T_settledParts σ), .int (T_settledCount σ)].set 8 (.int v))) = (wT cI cZ a q (T_set_partsUsed σ v)) := rfl
theorem wsp_T_seta_parts {cI cZ : ClassId} {a : Nat → Nat} {q : Nat} {x : Nat × va_E} {σ : StT} {f : Nat → Int32} : (wT cI cZ a q σ ++ [x]).set 8 (q, .inl (cI, (T_parts σ).1, .inl f)) = (wT cI cZ a q (T_set_parts σ ((T_parts σ).1, f)) ++ [x]) := rfl
theorem wsp_T_put_partStarts {cI cZ : ClassId} {a : Nat → Nat} {q : Nat} {x : Nat × va_E} {σ : StT} {i v : Int32} : (wT cI cZ a q σ ++ [x]).set 6 ((a 16), .inl (cI, 300, .inl (upd (T_partStarts σ) i.toNatClampNeg v))) = (wT cI cZ a q (T_put_partStarts σ i v) ++ [x]) := rfl
theorem wsp_T_put_partCounts {cI cZ : ClassId} {a : Nat → Nat} {q : Nat} {x : Nat × va_E} {σ : StT} {i v : Int32} : (wT cI cZ a q σ ++ [x]).set 7 ((a 17), .inl (cI, 300, .inl (upd (T_partCounts σ) i.toNatClampNeg v))) = (wT cI cZ a q (T_put_partCounts σ i v) ++ [x]) := rfl
theorem wsp_T_set_partsUsed {cI cZ : ClassId} {a : Nat → Nat} {q : Nat} {x : Nat × va_E} {σ : StT} {v : Int32} : (wT cI cZ a q σ ++ [x]).set 0 ((a 10), .inr (2, [.ref (a 11), .ref (a 12), .ref (a 13), .ref (a 14), .ref (a 15), .ref (a 16), .ref (a 17), .ref q, .int (T_partsUsed σ), .int (T_count σ), .int (T_settledParts σ), .int (T_settledCount σ)].set 8 (.int v))) = (wT cI cZ a q (T_set_partsUsed σ v) ++ [x]) := rfl
theorem jn_Tp__C {cI cZ : ClassId} {a : Nat → Nat} {q : Nat} {x : Nat × va_E} {σ : StT} : [0, 1, 2, 3, 4, 5, 6, 7, 8].map (fun (i : Nat) => (wT cI cZ a q σ ++ [x])[i]?) = (wT cI cZ a q σ).map some := rfl
theorem jn_Tp__R {cI cZ : ClassId} {a : Nat → Nat} {q : Nat} {x : Nat × va_E} {σ : StT} : [9].map (fun (i : Nat) => (wT cI cZ a q σ ++ [x])[i]?) = ([9].filterMap (fun (i : Nat) => (wT cI cZ a q σ ++ [x])[i]?)).map some := rfl
theorem jn_Tp__W {cI cZ : ClassId} {a : Nat → Nat} {q : Nat} {x : Nat × va_E} {σ : StT} {u : StT} (q1 : Nat) : [1, 2, 3, 4, 5, 6, 7, 8, 9, 0].map (fun (i : Nat) => ([9].filterMap (fun (i : Nat) => (wT cI cZ a q σ ++ [x])[i]?) ++ (wT cI cZ a q1 u))[i]?) = (wT cI cZ a q1 u ++ [x]).map some := rfl
theorem jn_Tp__p_C {cI cZ : ClassId} {a : Nat → Nat} {q : Nat} {x : Nat × va_E} {σ : StT} : [0, 1, 2, 3, 4, 5, 6, 7, 8, 9].map (fun (i : Nat) => (wT cI cZ a q σ ++ [x])[i]?) = (wT cI cZ a q σ ++ [x]).map some := rfl
theorem jn_Tp__p_R {cI cZ : ClassId} {a : Nat → Nat} {q : Nat} {x : Nat × va_E} {σ : StT} : [].map (fun (i : Nat) => (wT cI cZ a q σ ++ [x])[i]?) = ([].filterMap (fun (i : Nat) => (wT cI cZ a q σ ++ [x])[i]?)).map some := rfl
theorem jn_Tp__p_W {cI cZ : ClassId} {a : Nat → Nat} {q : Nat} {x : Nat × va_E} {σ : StT} {u : StT} (q1 : Nat) : [0, 1, 2, 3, 4, 5, 6, 7, 8, 9].map (fun (i : Nat) => ([].filterMap (fun (i : Nat) => (wT cI cZ a q σ ++ [x])[i]?) ++ (wT cI cZ a q1 u ++ [x]))[i]?) = (wT cI cZ a q1 u ++ [x]).map some := rfl
theorem ws_A_put_cells {cI cZ : ClassId} {a : Nat → Nat} {q : Nat} {σ : StA} {i v : Int32} : (wA cI cZ a q σ).set 1 ((a 19), .inl (cI, 5625, .inl (upd (A_cells σ) i.toNatClampNeg v))) = (wA cI cZ a q (A_put_cells σ i v)) := rfl
end
section
def f_J_bitCount (x0 : Int32) : Int32 :=
  ((((((((x0 - (((x0).toUInt32 >>> ((1 : Int32).toUInt32 &&& Int32.toUInt32 31)).toInt32 &&& 1431655765)) &&& 858993459) + ((((x0 - (((x0).toUInt32 >>> ((1 : Int32).toUInt32 &&& Int32.toUInt32 31)).toInt32 &&& 1431655765))).toUInt32 >>> ((2 : Int32).toUInt32 &&& Int32.toUInt32 31)).toInt32 &&& 858993459)) + (((((x0 - (((x0).toUInt32 >>> ((1 : Int32).toUInt32 &&& Int32.toUInt32 31)).toInt32 &&& 1431655765)) &&& 858993459) + ((((x0 - (((x0).toUInt32 >>> ((1 : Int32).toUInt32 &&& Int32.toUInt32 31)).toInt32 &&& 1431655765))).toUInt32 >>> ((2 : Int32).toUInt32 &&& Int32.toUInt32 31)).toInt32 &&& 858993459))).toUInt32 >>> ((4 : Int32).toUInt32 &&& Int32.toUInt32 31)).toInt32) &&& 252645135) + (((((((x0 - (((x0).toUInt32 >>> ((1 : Int32).toUInt32 &&& Int32.toUInt32 31)).toInt32 &&& 1431655765)) &&& 858993459) + ((((x0 - (((x0).toUInt32 >>> ((1 : Int32).toUInt32 &&& Int32.toUInt32 31)).toInt32 &&& 1431655765))).toUInt32 >>> ((2 : Int32).toUInt32 &&& Int32.toUInt32 31)).toInt32 &&& 858993459)) + (((((x0 - (((x0).toUInt32 >>> ((1 : Int32).toUInt32 &&& Int32.toUInt32 31)).toInt32 &&& 1431655765)) &&& 858993459) + ((((x0 - (((x0).toUInt32 >>> ((1 : Int32).toUInt32 &&& Int32.toUInt32 31)).toInt32 &&& 1431655765))).toUInt32 >>> ((2 : Int32).toUInt32 &&& Int32.toUInt32 31)).toInt32 &&& 858993459))).toUInt32 >>> ((4 : Int32).toUInt32 &&& Int32.toUInt32 31)).toInt32) &&& 252645135)).toUInt32 >>> ((8 : Int32).toUInt32 &&& Int32.toUInt32 31)).toInt32) + ((((((((x0 - (((x0).toUInt32 >>> ((1 : Int32).toUInt32 &&& Int32.toUInt32 31)).toInt32 &&& 1431655765)) &&& 858993459) + ((((x0 - (((x0).toUInt32 >>> ((1 : Int32).toUInt32 &&& Int32.toUInt32 31)).toInt32 &&& 1431655765))).toUInt32 >>> ((2 : Int32).toUInt32 &&& Int32.toUInt32 31)).toInt32 &&& 858993459)) + (((((x0 - (((x0).toUInt32 >>> ((1 : Int32).toUInt32 &&& Int32.toUInt32 31)).toInt32 &&& 1431655765)) &&& 858993459) + ((((x0 - (((x0).toUInt32 >>> ((1 : Int32).toUInt32 &&& Int32.toUInt32 31)).toInt32 &&& 1431655765))).toUInt32 >>> ((2 : Int32).toUInt32 &&& Int32.toUInt32 31)).toInt32 &&& 858993459))).toUInt32 >>> ((4 : Int32).toUInt32 &&& Int32.toUInt32 31)).toInt32) &&& 252645135) + (((((((x0 - (((x0).toUInt32 >>> ((1 : Int32).toUInt32 &&& Int32.toUInt32 31)).toInt32 &&& 1431655765)) &&& 858993459) + ((((x0 - (((x0).toUInt32 >>> ((1 : Int32).toUInt32 &&& Int32.toUInt32 31)).toInt32 &&& 1431655765))).toUInt32 >>> ((2 : Int32).toUInt32 &&& Int32.toUInt32 31)).toInt32 &&& 858993459)) + (((((x0 - (((x0).toUInt32 >>> ((1 : Int32).toUInt32 &&& Int32.toUInt32 31)).toInt32 &&& 1431655765)) &&& 858993459) + ((((x0 - (((x0).toUInt32 >>> ((1 : Int32).toUInt32 &&& Int32.toUInt32 31)).toInt32 &&& 1431655765))).toUInt32 >>> ((2 : Int32).toUInt32 &&& Int32.toUInt32 31)).toInt32 &&& 858993459))).toUInt32 >>> ((4 : Int32).toUInt32 &&& Int32.toUInt32 31)).toInt32) &&& 252645135)).toUInt32 >>> ((8 : Int32).toUInt32 &&& Int32.toUInt32 31)).toInt32)).toUInt32 >>> ((16 : Int32).toUInt32 &&& Int32.toUInt32 31)).toInt32) &&& 63)
set_option maxHeartbeats 4000000 in
set_option maxRecDepth 100000 in
theorem t_J_bitCount_0 {p : Program} {l : Launch} {e : Env} {s : State} {m : MethodId} {args : Array Value} {below : List Frame} {meth : Method} {c : Code} {D : va_G} {cI cZ : ClassId} {a : Nat → Nat} (C0 : Am p s m args meth c b_J_bitCount (some .int) 1 R_J D [(cI, .int), (cZ, .boolean)]) {val : Int32}   {x0 : Int32} (h : f_J_bitCount x0 = val) {ls : Array Slot} (hl : lv_has ls 1 [(0, .int x0)]) : RoW p l e (rmK 0 0 0 0) s m args below meth c val (F0 m 0 ls []) := by
  obtain ⟨hx, hb, hr, hml, hown, hts, hlk, hK⟩ := id C0
  unfold f_J_bitCount at h
  refine lv_iload_n hx hb d_J_bitCount_0 rfl (lv_at hl 0 rfl) ?_
  refine lv_iload_n hx hb d_J_bitCount_1 rfl (lv_at hl 0 rfl) ?_
  refine lv_iconst (v := 1) hx hb d_J_bitCount_2 (by decide) ?_
  refine lv_iushr hx hb d_J_bitCount_3 rfl ?_
  refine lv_ldcw (v := 1431655765) hx hb hown (hts _ wd_0) d_J_bitCount_4 ?_
  refine lv_iand hx hb d_J_bitCount_7 ?_
  refine lv_isub hx hb d_J_bitCount_8 ?_
  refine lv_istore_n (lv' := [(0, .int (x0 - (((x0).toUInt32 >>> ((1 : Int32).toUInt32 &&& Int32.toUInt32 31)).toInt32 &&& 1431655765)))]) hx hb d_J_bitCount_9 rfl hl (by decide) rfl (fun ls hl => ?_)
  refine lv_iload_n hx hb d_J_bitCount_10 rfl (lv_at hl 0 rfl) ?_
  refine lv_ldcw (v := 858993459) hx hb hown (hts _ wd_1) d_J_bitCount_11 ?_
  refine lv_iand hx hb d_J_bitCount_14 ?_
  refine lv_iload_n hx hb d_J_bitCount_15 rfl (lv_at hl 0 rfl) ?_
  refine lv_iconst (v := 2) hx hb d_J_bitCount_16 (by decide) ?_
  refine lv_iushr hx hb d_J_bitCount_17 rfl ?_
  refine lv_ldcw (v := 858993459) hx hb hown (hts _ wd_1) d_J_bitCount_18 ?_
  refine lv_iand hx hb d_J_bitCount_21 ?_
  refine lv_iadd hx hb d_J_bitCount_22 ?_
  refine lv_istore_n (lv' := [(0, .int (((x0 - (((x0).toUInt32 >>> ((1 : Int32).toUInt32 &&& Int32.toUInt32 31)).toInt32 &&& 1431655765)) &&& 858993459) + ((((x0 - (((x0).toUInt32 >>> ((1 : Int32).toUInt32 &&& Int32.toUInt32 31)).toInt32 &&& 1431655765))).toUInt32 >>> ((2 : Int32).toUInt32 &&& Int32.toUInt32 31)).toInt32 &&& 858993459)))]) hx hb d_J_bitCount_23 rfl hl (by decide) rfl (fun ls hl => ?_)
  refine lv_iload_n hx hb d_J_bitCount_24 rfl (lv_at hl 0 rfl) ?_
  refine lv_iload_n hx hb d_J_bitCount_25 rfl (lv_at hl 0 rfl) ?_
  refine lv_iconst (v := 4) hx hb d_J_bitCount_26 (by decide) ?_
  refine lv_iushr hx hb d_J_bitCount_27 rfl ?_
  refine lv_iadd hx hb d_J_bitCount_28 ?_
  refine lv_ldcw (v := 252645135) hx hb hown (hts _ wd_2) d_J_bitCount_29 ?_
  refine lv_iand hx hb d_J_bitCount_32 ?_
  refine lv_istore_n (lv' := [(0, .int (((((x0 - (((x0).toUInt32 >>> ((1 : Int32).toUInt32 &&& Int32.toUInt32 31)).toInt32 &&& 1431655765)) &&& 858993459) + ((((x0 - (((x0).toUInt32 >>> ((1 : Int32).toUInt32 &&& Int32.toUInt32 31)).toInt32 &&& 1431655765))).toUInt32 >>> ((2 : Int32).toUInt32 &&& Int32.toUInt32 31)).toInt32 &&& 858993459)) + (((((x0 - (((x0).toUInt32 >>> ((1 : Int32).toUInt32 &&& Int32.toUInt32 31)).toInt32 &&& 1431655765)) &&& 858993459) + ((((x0 - (((x0).toUInt32 >>> ((1 : Int32).toUInt32 &&& Int32.toUInt32 31)).toInt32 &&& 1431655765))).toUInt32 >>> ((2 : Int32).toUInt32 &&& Int32.toUInt32 31)).toInt32 &&& 858993459))).toUInt32 >>> ((4 : Int32).toUInt32 &&& Int32.toUInt32 31)).toInt32) &&& 252645135))]) hx hb d_J_bitCount_33 rfl hl (by decide) rfl (fun ls hl => ?_)
  refine lv_iload_n hx hb d_J_bitCount_34 rfl (lv_at hl 0 rfl) ?_
  refine lv_iload_n hx hb d_J_bitCount_35 rfl (lv_at hl 0 rfl) ?_
  refine lv_bipush (v := 8) hx hb d_J_bitCount_36 (by decide) ?_
  refine lv_iushr hx hb d_J_bitCount_38 rfl ?_
  refine lv_iadd hx hb d_J_bitCount_39 ?_
  refine lv_istore_n (lv' := [(0, .int ((((((x0 - (((x0).toUInt32 >>> ((1 : Int32).toUInt32 &&& Int32.toUInt32 31)).toInt32 &&& 1431655765)) &&& 858993459) + ((((x0 - (((x0).toUInt32 >>> ((1 : Int32).toUInt32 &&& Int32.toUInt32 31)).toInt32 &&& 1431655765))).toUInt32 >>> ((2 : Int32).toUInt32 &&& Int32.toUInt32 31)).toInt32 &&& 858993459)) + (((((x0 - (((x0).toUInt32 >>> ((1 : Int32).toUInt32 &&& Int32.toUInt32 31)).toInt32 &&& 1431655765)) &&& 858993459) + ((((x0 - (((x0).toUInt32 >>> ((1 : Int32).toUInt32 &&& Int32.toUInt32 31)).toInt32 &&& 1431655765))).toUInt32 >>> ((2 : Int32).toUInt32 &&& Int32.toUInt32 31)).toInt32 &&& 858993459))).toUInt32 >>> ((4 : Int32).toUInt32 &&& Int32.toUInt32 31)).toInt32) &&& 252645135) + (((((((x0 - (((x0).toUInt32 >>> ((1 : Int32).toUInt32 &&& Int32.toUInt32 31)).toInt32 &&& 1431655765)) &&& 858993459) + ((((x0 - (((x0).toUInt32 >>> ((1 : Int32).toUInt32 &&& Int32.toUInt32 31)).toInt32 &&& 1431655765))).toUInt32 >>> ((2 : Int32).toUInt32 &&& Int32.toUInt32 31)).toInt32 &&& 858993459)) + (((((x0 - (((x0).toUInt32 >>> ((1 : Int32).toUInt32 &&& Int32.toUInt32 31)).toInt32 &&& 1431655765)) &&& 858993459) + ((((x0 - (((x0).toUInt32 >>> ((1 : Int32).toUInt32 &&& Int32.toUInt32 31)).toInt32 &&& 1431655765))).toUInt32 >>> ((2 : Int32).toUInt32 &&& Int32.toUInt32 31)).toInt32 &&& 858993459))).toUInt32 >>> ((4 : Int32).toUInt32 &&& Int32.toUInt32 31)).toInt32) &&& 252645135)).toUInt32 >>> ((8 : Int32).toUInt32 &&& Int32.toUInt32 31)).toInt32))]) hx hb d_J_bitCount_40 rfl hl (by decide) rfl (fun ls hl => ?_)
  refine lv_iload_n hx hb d_J_bitCount_41 rfl (lv_at hl 0 rfl) ?_
  refine lv_iload_n hx hb d_J_bitCount_42 rfl (lv_at hl 0 rfl) ?_
  refine lv_bipush (v := 16) hx hb d_J_bitCount_43 (by decide) ?_
  refine lv_iushr hx hb d_J_bitCount_45 rfl ?_
  refine lv_iadd hx hb d_J_bitCount_46 ?_
  refine lv_istore_n (lv' := [(0, .int (((((((x0 - (((x0).toUInt32 >>> ((1 : Int32).toUInt32 &&& Int32.toUInt32 31)).toInt32 &&& 1431655765)) &&& 858993459) + ((((x0 - (((x0).toUInt32 >>> ((1 : Int32).toUInt32 &&& Int32.toUInt32 31)).toInt32 &&& 1431655765))).toUInt32 >>> ((2 : Int32).toUInt32 &&& Int32.toUInt32 31)).toInt32 &&& 858993459)) + (((((x0 - (((x0).toUInt32 >>> ((1 : Int32).toUInt32 &&& Int32.toUInt32 31)).toInt32 &&& 1431655765)) &&& 858993459) + ((((x0 - (((x0).toUInt32 >>> ((1 : Int32).toUInt32 &&& Int32.toUInt32 31)).toInt32 &&& 1431655765))).toUInt32 >>> ((2 : Int32).toUInt32 &&& Int32.toUInt32 31)).toInt32 &&& 858993459))).toUInt32 >>> ((4 : Int32).toUInt32 &&& Int32.toUInt32 31)).toInt32) &&& 252645135) + (((((((x0 - (((x0).toUInt32 >>> ((1 : Int32).toUInt32 &&& Int32.toUInt32 31)).toInt32 &&& 1431655765)) &&& 858993459) + ((((x0 - (((x0).toUInt32 >>> ((1 : Int32).toUInt32 &&& Int32.toUInt32 31)).toInt32 &&& 1431655765))).toUInt32 >>> ((2 : Int32).toUInt32 &&& Int32.toUInt32 31)).toInt32 &&& 858993459)) + (((((x0 - (((x0).toUInt32 >>> ((1 : Int32).toUInt32 &&& Int32.toUInt32 31)).toInt32 &&& 1431655765)) &&& 858993459) + ((((x0 - (((x0).toUInt32 >>> ((1 : Int32).toUInt32 &&& Int32.toUInt32 31)).toInt32 &&& 1431655765))).toUInt32 >>> ((2 : Int32).toUInt32 &&& Int32.toUInt32 31)).toInt32 &&& 858993459))).toUInt32 >>> ((4 : Int32).toUInt32 &&& Int32.toUInt32 31)).toInt32) &&& 252645135)).toUInt32 >>> ((8 : Int32).toUInt32 &&& Int32.toUInt32 31)).toInt32) + ((((((((x0 - (((x0).toUInt32 >>> ((1 : Int32).toUInt32 &&& Int32.toUInt32 31)).toInt32 &&& 1431655765)) &&& 858993459) + ((((x0 - (((x0).toUInt32 >>> ((1 : Int32).toUInt32 &&& Int32.toUInt32 31)).toInt32 &&& 1431655765))).toUInt32 >>> ((2 : Int32).toUInt32 &&& Int32.toUInt32 31)).toInt32 &&& 858993459)) + (((((x0 - (((x0).toUInt32 >>> ((1 : Int32).toUInt32 &&& Int32.toUInt32 31)).toInt32 &&& 1431655765)) &&& 858993459) + ((((x0 - (((x0).toUInt32 >>> ((1 : Int32).toUInt32 &&& Int32.toUInt32 31)).toInt32 &&& 1431655765))).toUInt32 >>> ((2 : Int32).toUInt32 &&& Int32.toUInt32 31)).toInt32 &&& 858993459))).toUInt32 >>> ((4 : Int32).toUInt32 &&& Int32.toUInt32 31)).toInt32) &&& 252645135) + (((((((x0 - (((x0).toUInt32 >>> ((1 : Int32).toUInt32 &&& Int32.toUInt32 31)).toInt32 &&& 1431655765)) &&& 858993459) + ((((x0 - (((x0).toUInt32 >>> ((1 : Int32).toUInt32 &&& Int32.toUInt32 31)).toInt32 &&& 1431655765))).toUInt32 >>> ((2 : Int32).toUInt32 &&& Int32.toUInt32 31)).toInt32 &&& 858993459)) + (((((x0 - (((x0).toUInt32 >>> ((1 : Int32).toUInt32 &&& Int32.toUInt32 31)).toInt32 &&& 1431655765)) &&& 858993459) + ((((x0 - (((x0).toUInt32 >>> ((1 : Int32).toUInt32 &&& Int32.toUInt32 31)).toInt32 &&& 1431655765))).toUInt32 >>> ((2 : Int32).toUInt32 &&& Int32.toUInt32 31)).toInt32 &&& 858993459))).toUInt32 >>> ((4 : Int32).toUInt32 &&& Int32.toUInt32 31)).toInt32) &&& 252645135)).toUInt32 >>> ((8 : Int32).toUInt32 &&& Int32.toUInt32 31)).toInt32)).toUInt32 >>> ((16 : Int32).toUInt32 &&& Int32.toUInt32 31)).toInt32))]) hx hb d_J_bitCount_47 rfl hl (by decide) rfl (fun ls hl => ?_)
  refine lv_iload_n hx hb d_J_bitCount_48 rfl (lv_at hl 0 rfl) ?_
  refine lv_bipush (v := 63) hx hb d_J_bitCount_49 (by decide) ?_
  refine lv_iand hx hb d_J_bitCount_51 ?_
  exact ro_ret C0 h d_J_bitCount_52
set_option maxHeartbeats 4000000 in
set_option maxRecDepth 100000 in
theorem c_J_bitCount (l : Launch) (D : va_G) (cI cZ : ClassId) (a : Nat → Nat) (x0 : Int32) {val : Int32} (h : f_J_bitCount x0 = val) : RoM l y_J_bitCount b_J_bitCount 1 (some .int) 0 0 D [(cI, .int), (cZ, .boolean)] [.int x0] [] val :=
  ro_of (by decide) (Nat.le_of_ble_eq_true rfl) (fun p e s m args below meth c ls C0 hP hl => t_J_bitCount_0 (a := a) C0 h (lv_sub hl [0] rfl))
end
section
def f_L_boxTypeOf (x0 : Int32) : Int32 :=
  (8 + x0)
set_option maxHeartbeats 4000000 in
set_option maxRecDepth 100000 in
theorem t_L_boxTypeOf_0 {p : Program} {l : Launch} {e : Env} {s : State} {m : MethodId} {args : Array Value} {below : List Frame} {meth : Method} {c : Code} {D : va_G} {cI cZ : ClassId} {a : Nat → Nat} (C0 : Am p s m args meth c b_L_boxTypeOf (some .int) 1 R_L D [(cI, .int), (cZ, .boolean)]) {val : Int32}   {x0 : Int32} (h : f_L_boxTypeOf x0 = val) {ls : Array Slot} (hl : lv_has ls 1 [(0, .int x0)]) : RoW p l e (rmK 0 0 0 0) s m args below meth c val (F0 m 0 ls []) := by
  obtain ⟨hx, hb, hr, hml, hown, hts, hlk, hK⟩ := id C0
  unfold f_L_boxTypeOf at h
  refine lv_bipush (v := 8) hx hb d_L_boxTypeOf_0 (by decide) ?_
  refine lv_iload_n hx hb d_L_boxTypeOf_2 rfl (lv_at hl 0 rfl) ?_
  refine lv_iadd hx hb d_L_boxTypeOf_3 ?_
  exact ro_ret C0 h d_L_boxTypeOf_4
set_option maxHeartbeats 4000000 in
set_option maxRecDepth 100000 in
theorem c_L_boxTypeOf (l : Launch) (D : va_G) (cI cZ : ClassId) (a : Nat → Nat) (x0 : Int32) {val : Int32} (h : f_L_boxTypeOf x0 = val) : RoM l y_L_boxTypeOf b_L_boxTypeOf 1 (some .int) 0 0 D [(cI, .int), (cZ, .boolean)] [.int x0] [] val :=
  ro_of (by decide) (Nat.le_of_ble_eq_true rfl) (fun p e s m args below meth c ls C0 hP hl => t_L_boxTypeOf_0 (a := a) C0 h (lv_sub hl [0] rfl))
def f_L_typeOf (x0 : Int32) : Int32 :=
  if 0 < x0 then
    (x0 >>> (2 &&& 31))
  else
    (-1)
set_option maxHeartbeats 4000000 in
set_option maxRecDepth 100000 in
theorem t_L_typeOf_0 {p : Program} {l : Launch} {e : Env} {s : State} {m : MethodId} {args : Array Value} {below : List Frame} {meth : Method} {c : Code} {D : va_G} {cI cZ : ClassId} {a : Nat → Nat} (C0 : Am p s m args meth c b_L_typeOf (some .int) 1 R_L D [(cI, .int), (cZ, .boolean)]) {val : Int32}   {x0 : Int32} (h : f_L_typeOf x0 = val) {ls : Array Slot} (hl : lv_has ls 1 [(0, .int x0)]) : RoW p l e (rmK 0 0 0 0) s m args below meth c val (F0 m 0 ls []) := by
  obtain ⟨hx, hb, hr, hml, hown, hts, hlk, hK⟩ := id C0
  unfold f_L_typeOf at h
  refine lv_iload_n hx hb d_L_typeOf_0 rfl (lv_at hl 0 rfl) ?_
  refine lv_if_gt (tgt := 8) hx hb d_L_typeOf_1 (by decide) (fun hc => ?_) (fun hc => ?_)
  · rw [if_pos hc] at h
    refine lv_iload_n hx hb d_L_typeOf_8 rfl (lv_at hl 0 rfl) ?_
    refine lv_iconst (v := 2) hx hb d_L_typeOf_9 (by decide) ?_
    refine lv_ishr hx hb d_L_typeOf_10 ?_
    exact ro_ret C0 h d_L_typeOf_11
  · rw [if_neg hc] at h
    refine lv_iconst (v := (-1)) hx hb d_L_typeOf_4 (by decide) ?_
    refine lv_goto (tgt := 11) hx hb d_L_typeOf_5 (by decide) ?_
    exact ro_ret C0 h d_L_typeOf_11
set_option maxHeartbeats 4000000 in
set_option maxRecDepth 100000 in
theorem c_L_typeOf (l : Launch) (D : va_G) (cI cZ : ClassId) (a : Nat → Nat) (x0 : Int32) {val : Int32} (h : f_L_typeOf x0 = val) : RoM l y_L_typeOf b_L_typeOf 1 (some .int) 0 0 D [(cI, .int), (cZ, .boolean)] [.int x0] [] val :=
  ro_of (by decide) (Nat.le_of_ble_eq_true rfl) (fun p e s m args below meth c ls C0 hP hl => t_L_typeOf_0 (a := a) C0 h (lv_sub hl [0] rfl))
def f_L_has (x0 x1 : Int32) : Int32 :=
  if ((x0 >>> (x1 &&& 31)) &&& 1) = 0 then
    0
  else
    1
set_option maxHeartbeats 4000000 in
set_option maxRecDepth 100000 in
theorem t_L_has_0 {p : Program} {l : Launch} {e : Env} {s : State} {m : MethodId} {args : Array Value} {below : List Frame} {meth : Method} {c : Code} {D : va_G} {cI cZ : ClassId} {a : Nat → Nat} (C0 : Am p s m args meth c b_L_has (some .boolean) 2 R_L D [(cI, .int), (cZ, .boolean)]) {val : Int32}   {x0 x1 : Int32} (h : f_L_has x0 x1 = val) {ls : Array Slot} (hl : lv_has ls 2 [(0, .int x0), (1, .int x1)]) : RoW p l e (rmK 0 0 0 0) s m args below meth c val (F0 m 0 ls []) := by
  obtain ⟨hx, hb, hr, hml, hown, hts, hlk, hK⟩ := id C0
  unfold f_L_has at h
  refine lv_iload_n hx hb d_L_has_0 rfl (lv_at hl 0 rfl) ?_
  refine lv_iload_n hx hb d_L_has_1 rfl (lv_at hl 1 rfl) ?_
  refine lv_ishr hx hb d_L_has_2 ?_
  refine lv_iconst (v := 1) hx hb d_L_has_3 (by decide) ?_
  refine lv_iand hx hb d_L_has_4 ?_
  refine lv_if_eq (tgt := 12) hx hb d_L_has_5 (by decide) (fun hc => ?_) (fun hc => ?_)
  · rw [if_pos hc] at h
    refine lv_iconst (v := 0) hx hb d_L_has_12 (by decide) ?_
    exact ro_retz C0 (by decide) h d_L_has_13
  · rw [if_neg hc] at h
    refine lv_iconst (v := 1) hx hb d_L_has_8 (by decide) ?_
    refine lv_goto (tgt := 13) hx hb d_L_has_9 (by decide) ?_
    exact ro_retz C0 (by decide) h d_L_has_13
set_option maxHeartbeats 4000000 in
set_option maxRecDepth 100000 in
theorem c_L_has (l : Launch) (D : va_G) (cI cZ : ClassId) (a : Nat → Nat) (x0 : Int32) (x1 : Int32) {val : Int32} (h : f_L_has x0 x1 = val) : RoM l y_L_has b_L_has 2 (some .boolean) 0 0 D [(cI, .int), (cZ, .boolean)] [.int x0, .int x1] [] val :=
  ro_of (by decide) (Nat.le_of_ble_eq_true rfl) (fun p e s m args below meth c ls C0 hP hl => t_L_has_0 (a := a) C0 h (lv_sub hl [0, 1] rfl))
def f_L_argumentOf (x0 x1 : Int32) : Int32 :=
  if x0 = 0 then
    0
  else
    ((x1 * 4) + x0)
set_option maxHeartbeats 4000000 in
set_option maxRecDepth 100000 in
theorem t_L_argumentOf_0 {p : Program} {l : Launch} {e : Env} {s : State} {m : MethodId} {args : Array Value} {below : List Frame} {meth : Method} {c : Code} {D : va_G} {cI cZ : ClassId} {a : Nat → Nat} (C0 : Am p s m args meth c b_L_argumentOf (some .int) 2 R_L D [(cI, .int), (cZ, .boolean)]) {val : Int32}   {x0 x1 : Int32} (h : f_L_argumentOf x0 x1 = val) {ls : Array Slot} (hl : lv_has ls 2 [(0, .int x0), (1, .int x1)]) : RoW p l e (rmK 0 0 0 0) s m args below meth c val (F0 m 0 ls []) := by
  obtain ⟨hx, hb, hr, hml, hown, hts, hlk, hK⟩ := id C0
  unfold f_L_argumentOf at h
  refine lv_iload_n hx hb d_L_argumentOf_0 rfl (lv_at hl 0 rfl) ?_
  refine lv_if_ne (tgt := 8) hx hb d_L_argumentOf_1 (by decide) (fun hc => ?_) (fun hc => ?_)
  · rw [if_neg hc] at h
    refine lv_iload_n hx hb d_L_argumentOf_8 rfl (lv_at hl 1 rfl) ?_
    refine lv_iconst (v := 4) hx hb d_L_argumentOf_9 (by decide) ?_
    refine lv_imul hx hb d_L_argumentOf_10 ?_
    refine lv_iload_n hx hb d_L_argumentOf_11 rfl (lv_at hl 0 rfl) ?_
    refine lv_iadd hx hb d_L_argumentOf_12 ?_
    exact ro_ret C0 h d_L_argumentOf_13
  · rw [if_pos hc] at h
    refine lv_iconst (v := 0) hx hb d_L_argumentOf_4 (by decide) ?_
    refine lv_goto (tgt := 13) hx hb d_L_argumentOf_5 (by decide) ?_
    exact ro_ret C0 h d_L_argumentOf_13
set_option maxHeartbeats 4000000 in
set_option maxRecDepth 100000 in
theorem c_L_argumentOf (l : Launch) (D : va_G) (cI cZ : ClassId) (a : Nat → Nat) (x0 : Int32) (x1 : Int32) {val : Int32} (h : f_L_argumentOf x0 x1 = val) : RoM l y_L_argumentOf b_L_argumentOf 2 (some .int) 0 0 D [(cI, .int), (cZ, .boolean)] [.int x0, .int x1] [] val :=
  ro_of (by decide) (Nat.le_of_ble_eq_true rfl) (fun p e s m args below meth c ls C0 hP hl => t_L_argumentOf_0 (a := a) C0 h (lv_sub hl [0, 1] rfl))
def f_L_howOf (x0 : Int32) : Int32 :=
  if 0 < x0 then
    (x0 &&& 3)
  else
    0
set_option maxHeartbeats 4000000 in
set_option maxRecDepth 100000 in
theorem t_L_howOf_0 {p : Program} {l : Launch} {e : Env} {s : State} {m : MethodId} {args : Array Value} {below : List Frame} {meth : Method} {c : Code} {D : va_G} {cI cZ : ClassId} {a : Nat → Nat} (C0 : Am p s m args meth c b_L_howOf (some .int) 1 R_L D [(cI, .int), (cZ, .boolean)]) {val : Int32}   {x0 : Int32} (h : f_L_howOf x0 = val) {ls : Array Slot} (hl : lv_has ls 1 [(0, .int x0)]) : RoW p l e (rmK 0 0 0 0) s m args below meth c val (F0 m 0 ls []) := by
  obtain ⟨hx, hb, hr, hml, hown, hts, hlk, hK⟩ := id C0
  unfold f_L_howOf at h
  refine lv_iload_n hx hb d_L_howOf_0 rfl (lv_at hl 0 rfl) ?_
  refine lv_if_gt (tgt := 8) hx hb d_L_howOf_1 (by decide) (fun hc => ?_) (fun hc => ?_)
  · rw [if_pos hc] at h
    refine lv_iload_n hx hb d_L_howOf_8 rfl (lv_at hl 0 rfl) ?_
    refine lv_iconst (v := 3) hx hb d_L_howOf_9 (by decide) ?_
    refine lv_iand hx hb d_L_howOf_10 ?_
    exact ro_ret C0 h d_L_howOf_11
  · rw [if_neg hc] at h
    refine lv_iconst (v := 0) hx hb d_L_howOf_4 (by decide) ?_
    refine lv_goto (tgt := 11) hx hb d_L_howOf_5 (by decide) ?_
    exact ro_ret C0 h d_L_howOf_11
set_option maxHeartbeats 4000000 in
set_option maxRecDepth 100000 in
theorem c_L_howOf (l : Launch) (D : va_G) (cI cZ : ClassId) (a : Nat → Nat) (x0 : Int32) {val : Int32} (h : f_L_howOf x0 = val) : RoM l y_L_howOf b_L_howOf 1 (some .int) 0 0 D [(cI, .int), (cZ, .boolean)] [.int x0] [] val :=
  ro_of (by decide) (Nat.le_of_ble_eq_true rfl) (fun p e s m args below meth c ls C0 hP hl => t_L_howOf_0 (a := a) C0 h (lv_sub hl [0] rfl))
end
section
def f_C_isThere (σ : StC) (x1 : Int32) : Int32 :=
  if x1 < 0 then
    0
  else
    if (C_count σ) ≤ x1 then
      0
    else
      1
set_option maxHeartbeats 4000000 in
set_option maxRecDepth 100000 in
theorem t_C_isThere_0 {p : Program} {l : Launch} {e : Env} {s : State} {m : MethodId} {args : Array Value} {below : List Frame} {meth : Method} {c : Code} {D : va_G} {cI cZ : ClassId} {a : Nat → Nat} {q : Nat} {σ : StC} (C0 : Am p s m args meth c b_C_isThere (some .boolean) 2 R_C D [(cI, .int), (cZ, .boolean)]) (hP : va_P D vwCl (wC cI cZ a q σ) s.heap) {val : Int32}   {x1 : Int32} (h : f_C_isThere σ x1 = val) {ls : Array Slot} (hl : lv_has ls 2 [(0, .ref (a 3)), (1, .int x1)]) : RoW p l e (rmK 0 0 0 0) s m args below meth c val (F0 m 0 ls []) := by
  obtain ⟨hx, hb, hr, hml, hown, hts, hlk, hK⟩ := id C0
  unfold f_C_isThere at h
  refine lv_iload_n hx hb d_C_isThere_0 rfl (lv_at hl 1 rfl) ?_
  refine lv_if_lt (tgt := 16) hx hb d_C_isThere_1 (by decide) (fun hc => ?_) (fun hc => ?_)
  · rw [if_pos hc] at h
    refine lv_iconst (v := 0) hx hb d_C_isThere_16 (by decide) ?_
    exact ro_retz C0 (by decide) h d_C_isThere_17
  · rw [if_neg hc] at h
    refine lv_iload_n hx hb d_C_isThere_4 rfl (lv_at hl 1 rfl) ?_
    refine lv_aload_n hx hb d_C_isThere_5 rfl (lv_at hl 0 rfl) ?_
    refine va_get (ci := 1) (v := .int (C_count σ)) (C := R_C) (T := F_C) (N := 8) hx hb hts i_C hown hK.1 hP 0 rfl rfl 6 (by decide) (hts _ wd_3) (fun _ h9 => h9) rfl d_C_isThere_6 ?_
    refine lv_icmp_ge (tgt := 16) hx hb d_C_isThere_9 (by decide) (fun hc => ?_) (fun hc => ?_)
    · rw [if_pos hc] at h
      refine lv_iconst (v := 0) hx hb d_C_isThere_16 (by decide) ?_
      exact ro_retz C0 (by decide) h d_C_isThere_17
    · rw [if_neg hc] at h
      refine lv_iconst (v := 1) hx hb d_C_isThere_12 (by decide) ?_
      refine lv_goto (tgt := 17) hx hb d_C_isThere_13 (by decide) ?_
      exact ro_retz C0 (by decide) h d_C_isThere_17
set_option maxHeartbeats 4000000 in
set_option maxRecDepth 100000 in
theorem c_C_isThere (l : Launch) (D : va_G) (cI cZ : ClassId) (a : Nat → Nat) (q : Nat) (σ : StC) (x1 : Int32) {val : Int32} (h : f_C_isThere σ x1 = val) : RoM l y_C_isThere b_C_isThere 2 (some .boolean) 0 0 D [(cI, .int), (cZ, .boolean)] [.ref (a 3), .int x1] (wC cI cZ a q σ) val :=
  ro_of (by decide) (Nat.le_of_ble_eq_true rfl) (fun p e s m args below meth c ls C0 hP hl => t_C_isThere_0 (a := a) C0 hP h (lv_sub hl [0, 1] rfl))
def f_C_withAbove (σ : StC) (x1 : Int32) : Option Int32 :=
  if (f_C_isThere σ x1) = 0 then
    some 0
  else
    if x1 < 0 ∨ 30 ≤ x1.toNatClampNeg then none else
    some (((C_above σ) x1.toNatClampNeg) ||| ((1 : Int32) <<< (x1 &&& 31)))
set_option maxHeartbeats 4000000 in
set_option maxRecDepth 100000 in
theorem t_C_withAbove_0 {p : Program} {l : Launch} {e : Env} {s : State} {m : MethodId} {args : Array Value} {below : List Frame} {meth : Method} {c : Code} {D : va_G} {cI cZ : ClassId} {a : Nat → Nat} {q : Nat} {σ : StC} (C0 : Am p s m args meth c b_C_withAbove (some .int) 2 R_C D [(cI, .int), (cZ, .boolean)]) (hP : va_P D vwCl (wC cI cZ a q σ) s.heap) {val : Int32}   {x1 : Int32} (h : f_C_withAbove σ x1 = some val) {ls : Array Slot} (hl : lv_has ls 2 [(0, .ref (a 3)), (1, .int x1)]) : RoW p l e (rmK 1 21 0 0) s m args below meth c val (F0 m 0 ls []) := by
  obtain ⟨hx, hb, hr, hml, hown, hts, hlk, hK⟩ := id C0
  unfold f_C_withAbove at h
  refine lv_aload_n hx hb d_C_withAbove_0 rfl (lv_at hl 0 rfl) ?_
  refine lv_iload_n hx hb d_C_withAbove_1 rfl (lv_at hl 1 rfl) ?_
  refine ro_V (n := 1) (ci := 1) (As := [.int x1]) (rest := []) C0 (c_C_isThere l D cI cZ a q σ x1 rfl) wd_4 ⟨wd_5, wd_6, wd_7, wd_8⟩ (by decide +kernel) ⟨Nat.le_of_ble_eq_true rfl, Nat.le_of_ble_eq_true rfl⟩ hP rfl rfl rfl hl rfl rfl (Nat.le_of_ble_eq_true rfl) ⟨Nat.zero_le _, Nat.zero_le _⟩ d_C_withAbove_2 ?_
  refine lv_if_eq (tgt := 21) hx hb d_C_withAbove_5 (by decide) (fun hc => ?_) (fun hc => ?_)
  · rw [if_pos hc] at h
    refine lv_iconst (v := 0) hx hb d_C_withAbove_21 (by decide) ?_
    exact ro_ret C0 (Option.some.inj h) d_C_withAbove_22
  · rw [if_neg hc] at h
    refine lv_aload_n hx hb d_C_withAbove_8 rfl (lv_at hl 0 rfl) ?_
    refine va_get (ci := 1) (v := .ref (a 6)) (C := R_C) (T := F_C) (N := 8) hx hb hts i_C hown hK.1 hP 0 rfl rfl 2 (by decide) (hts _ wd_9) (fun _ h9 => h9) rfl d_C_withAbove_9 ?_
    refine lv_iload_n hx hb d_C_withAbove_12 rfl (lv_at hl 1 rfl) ?_
    replace h := gd h
    obtain ⟨hi, h⟩ := h
    refine va_iald hx hb hK.1 hP 3 0 rfl rfl hi d_C_withAbove_13 ?_
    refine lv_iconst (v := 1) hx hb d_C_withAbove_14 (by decide) ?_
    refine lv_iload_n hx hb d_C_withAbove_15 rfl (lv_at hl 1 rfl) ?_
    refine lv_ishl hx hb d_C_withAbove_16 ?_
    refine lv_ior hx hb d_C_withAbove_17 ?_
    refine lv_goto (tgt := 22) hx hb d_C_withAbove_18 (by decide) ?_
    exact ro_ret C0 (Option.some.inj h) d_C_withAbove_22
set_option maxHeartbeats 4000000 in
set_option maxRecDepth 100000 in
theorem c_C_withAbove (l : Launch) (D : va_G) (cI cZ : ClassId) (a : Nat → Nat) (q : Nat) (σ : StC) (x1 : Int32) {val : Int32} (h : f_C_withAbove σ x1 = some val) : RoM l y_C_withAbove b_C_withAbove 2 (some .int) 1 21 D [(cI, .int), (cZ, .boolean)] [.ref (a 3), .int x1] (wC cI cZ a q σ) val :=
  ro_of (by decide) (Nat.le_of_ble_eq_true rfl) (fun p e s m args below meth c ls C0 hP hl => t_C_withAbove_0 (a := a) C0 hP h (lv_sub hl [0, 1] rfl))
def f_C_write (σ : StC) (x1 x2 x3 x4 : Int32) : Option (Int32 × StC) :=
  if (f_C_isThere σ x1) = 0 then
    some (0, σ)
  else
    if (f_C_isThere σ x3) = 0 then
      some (0, σ)
    else
      if x2 < 0 then
        some (0, σ)
      else
        if x2 < 30 then
          if ((x1 * 30) + x2) < 0 ∨ 900 ≤ ((x1 * 30) + x2).toNatClampNeg then none else
          if ((x1 * 30) + x2) < 0 ∨ 900 ≤ ((x1 * 30) + x2).toNatClampNeg then none else
          if x1 < 0 ∨ 30 ≤ x1.toNatClampNeg then none else
          if x1 < 0 ∨ 30 ≤ x1.toNatClampNeg then none else
          if x1 < 0 ∨ 30 ≤ x1.toNatClampNeg then none else
          (f_C_withAbove (C_put_directCounts (C_put_tolds (C_put_directs σ ((x1 * 30) + x2) x3) ((x1 * 30) + x2) x4) x1 (if ((C_directCounts (C_put_tolds (C_put_directs σ ((x1 * 30) + x2) x3) ((x1 * 30) + x2) x4)) x1.toNatClampNeg) < (x2 + 1) then (x2 + 1) else ((C_directCounts (C_put_tolds (C_put_directs σ ((x1 * 30) + x2) x3) ((x1 * 30) + x2) x4)) x1.toNatClampNeg))) x3).bind fun r1 =>
          if x1 < 0 ∨ 30 ≤ x1.toNatClampNeg then none else
          some (0, (C_put_above (C_put_directCounts (C_put_tolds (C_put_directs σ ((x1 * 30) + x2) x3) ((x1 * 30) + x2) x4) x1 (if ((C_directCounts (C_put_tolds (C_put_directs σ ((x1 * 30) + x2) x3) ((x1 * 30) + x2) x4)) x1.toNatClampNeg) < (x2 + 1) then (x2 + 1) else ((C_directCounts (C_put_tolds (C_put_directs σ ((x1 * 30) + x2) x3) ((x1 * 30) + x2) x4)) x1.toNatClampNeg))) x1 (((C_above (C_put_directCounts (C_put_tolds (C_put_directs σ ((x1 * 30) + x2) x3) ((x1 * 30) + x2) x4) x1 (if ((C_directCounts (C_put_tolds (C_put_directs σ ((x1 * 30) + x2) x3) ((x1 * 30) + x2) x4)) x1.toNatClampNeg) < (x2 + 1) then (x2 + 1) else ((C_directCounts (C_put_tolds (C_put_directs σ ((x1 * 30) + x2) x3) ((x1 * 30) + x2) x4)) x1.toNatClampNeg)))) x1.toNatClampNeg) ||| r1)))
        else
          some (0, σ)
set_option maxHeartbeats 4000000 in
set_option maxRecDepth 100000 in
theorem t_C_write_0 {p : Program} {l : Launch} {e : Env} {s : State} {m : MethodId} {args : Array Value} {below : List Frame} {meth : Method} {c : Code} {D : va_G} {cI cZ : ClassId} {a : Nat → Nat} {A : Nat → Prop} (C0 : Am p s m args meth c b_C_write none 5 R_C D [(cI, .int), (cZ, .boolean)]) (hA : ∀ q, s.heap.size ≤ q → A q) {res : Int32 × StC}   {q : Nat} {σ : StC} {x1 x2 x3 x4 : Int32} (h : f_C_write σ x1 x2 x3 x4 = some res) {H : Heap} {locs : List Loc} (hP : va_P D vwCl (wC cI cZ a q σ) H) (hD : va_D A (wC cI cZ a q σ)) (hS : va_S A s.heap H locs) {ls : Array Slot} (hl : lv_has ls 5 [(0, .ref (a 3)), (1, .int x1), (2, .int x2), (3, .int x3), (4, .int x4)]) : W p l e (rmK 2 42 0 0) s m args below meth c H locs 0 0 (RwQv below args s D A (fun q (σ : StC) => (wC cI cZ a q σ)) res 0 0) (F0 m 0 ls []) := by
  obtain ⟨hx, hb, hr, hml, hown, hts, hlk, hK⟩ := id C0
  unfold f_C_write at h
  refine lv_aload_n hx hb d_C_write_0 rfl (lv_at hl 0 rfl) ?_
  refine lv_iload_n hx hb d_C_write_1 rfl (lv_at hl 1 rfl) ?_
  refine ro_V (n := 1) (ci := 1) (As := [.int x1]) (rest := []) C0 (c_C_isThere l D cI cZ a q σ x1 rfl) wd_4 ⟨wd_5, wd_6, wd_7, wd_8⟩ (by decide +kernel) ⟨Nat.le_of_ble_eq_true rfl, Nat.le_of_ble_eq_true rfl⟩ hP rfl rfl rfl hl rfl rfl (Nat.le_of_ble_eq_true rfl) ⟨Nat.zero_le _, Nat.zero_le _⟩ d_C_write_2 ?_
  refine lv_if_eq (tgt := 26) hx hb d_C_write_5 (by decide) (fun hc => ?_) (fun hc => ?_)
  · rw [if_pos hc] at h
    exact rw_retv C0 hP hD hS (Option.some.inj h) d_C_write_26
  · rw [if_neg hc] at h
    refine lv_aload_n hx hb d_C_write_8 rfl (lv_at hl 0 rfl) ?_
    refine lv_iload_n hx hb d_C_write_9 rfl (lv_at hl 3 rfl) ?_
    refine ro_V (n := 1) (ci := 1) (As := [.int x3]) (rest := []) C0 (c_C_isThere l D cI cZ a q σ x3 rfl) wd_4 ⟨wd_5, wd_6, wd_7, wd_8⟩ (by decide +kernel) ⟨Nat.le_of_ble_eq_true rfl, Nat.le_of_ble_eq_true rfl⟩ hP rfl rfl rfl hl rfl rfl (Nat.le_of_ble_eq_true rfl) ⟨Nat.zero_le _, Nat.zero_le _⟩ d_C_write_10 ?_
    refine lv_if_eq (tgt := 26) hx hb d_C_write_13 (by decide) (fun hc => ?_) (fun hc => ?_)
    · rw [if_pos hc] at h
      exact rw_retv C0 hP hD hS (Option.some.inj h) d_C_write_26
    · rw [if_neg hc] at h
      refine lv_iload_n hx hb d_C_write_16 rfl (lv_at hl 2 rfl) ?_
      refine lv_if_lt (tgt := 26) hx hb d_C_write_17 (by decide) (fun hc => ?_) (fun hc => ?_)
      · rw [if_pos hc] at h
        exact rw_retv C0 hP hD hS (Option.some.inj h) d_C_write_26
      · rw [if_neg hc] at h
        refine lv_iload_n hx hb d_C_write_20 rfl (lv_at hl 2 rfl) ?_
        refine lv_bipush (v := 30) hx hb d_C_write_21 (by decide) ?_
        refine lv_icmp_lt (tgt := 27) hx hb d_C_write_23 (by decide) (fun hc => ?_) (fun hc => ?_)
        · rw [if_pos hc] at h
          refine lv_aload_n hx hb d_C_write_27 rfl (lv_at hl 0 rfl) ?_
          refine va_get (ci := 1) (v := .ref (a 8)) (C := R_C) (T := F_C) (N := 8) hx hb hts i_C hown hK.1 hP 0 rfl rfl 4 (by decide) (hts _ wd_10) (fun _ h9 => h9) rfl d_C_write_28 ?_
          refine lv_iload_n hx hb d_C_write_31 rfl (lv_at hl 1 rfl) ?_
          refine lv_bipush (v := 30) hx hb d_C_write_32 (by decide) ?_
          refine lv_imul hx hb d_C_write_34 ?_
          refine lv_iload_n hx hb d_C_write_35 rfl (lv_at hl 2 rfl) ?_
          refine lv_iadd hx hb d_C_write_36 ?_
          refine lv_iload_n hx hb d_C_write_37 rfl (lv_at hl 3 rfl) ?_
          replace h := gd h
          obtain ⟨hi, h⟩ := h
          refine rw_iast C0 hP hD hS 5 0 rfl rfl hi d_C_write_38 (Wn := (wC cI cZ a q (C_put_directs σ ((x1 * 30) + x2) x3))) ws_C_put_directs (fun H locs hP hD hS => ?_)
          refine lv_aload_n hx hb d_C_write_39 rfl (lv_at hl 0 rfl) ?_
          refine va_get (ci := 1) (v := .ref (a 9)) (C := R_C) (T := F_C) (N := 8) hx hb hts i_C hown hK.1 hP 0 rfl rfl 5 (by decide) (hts _ wd_11) (fun _ h9 => h9) rfl d_C_write_40 ?_
          refine lv_iload_n hx hb d_C_write_43 rfl (lv_at hl 1 rfl) ?_
          refine lv_bipush (v := 30) hx hb d_C_write_44 (by decide) ?_
          refine lv_imul hx hb d_C_write_46 ?_
          refine lv_iload_n hx hb d_C_write_47 rfl (lv_at hl 2 rfl) ?_
          refine lv_iadd hx hb d_C_write_48 ?_
          refine lv_iload hx hb d_C_write_49 (lv_at hl 4 rfl) ?_
          replace h := gd h
          obtain ⟨hi, h⟩ := h
          refine rw_iast C0 hP hD hS 6 0 rfl rfl hi d_C_write_51 (Wn := (wC cI cZ a q (C_put_tolds (C_put_directs σ ((x1 * 30) + x2) x3) ((x1 * 30) + x2) x4))) ws_C_put_tolds (fun H locs hP hD hS => ?_)
          refine lv_aload_n hx hb d_C_write_52 rfl (lv_at hl 0 rfl) ?_
          refine va_get (ci := 1) (v := .ref (a 7)) (C := R_C) (T := F_C) (N := 8) hx hb hts i_C hown hK.1 hP 0 rfl rfl 3 (by decide) (hts _ wd_12) (fun _ h9 => h9) rfl d_C_write_53 ?_
          refine lv_iload_n hx hb d_C_write_56 rfl (lv_at hl 1 rfl) ?_
          refine lv_aload_n hx hb d_C_write_57 rfl (lv_at hl 0 rfl) ?_
          refine va_get (ci := 1) (v := .ref (a 7)) (C := R_C) (T := F_C) (N := 8) hx hb hts i_C hown hK.1 hP 0 rfl rfl 3 (by decide) (hts _ wd_12) (fun _ h9 => h9) rfl d_C_write_58 ?_
          refine lv_iload_n hx hb d_C_write_61 rfl (lv_at hl 1 rfl) ?_
          replace h := gd h
          obtain ⟨hi, h⟩ := h
          refine va_iald hx hb hK.1 hP 4 0 rfl rfl hi d_C_write_62 ?_
          refine lv_iload_n hx hb d_C_write_63 rfl (lv_at hl 2 rfl) ?_
          refine lv_iconst (v := 1) hx hb d_C_write_64 (by decide) ?_
          refine lv_iadd hx hb d_C_write_65 ?_
          refine va_mmax hx hb (by rw [hml]; exact hl.1.symm) hown (hts _ wd_13) (hts _ wd_14) (hts _ wd_15) (hts _ wd_16) (Nat.le_of_ble_eq_true rfl) (Nat.le_of_ble_eq_true rfl) (Nat.zero_le _) (Nat.zero_le _) d_C_write_66 ?_
          replace h := gd h
          obtain ⟨hi, h⟩ := h
          refine rw_iast C0 hP hD hS 4 0 rfl rfl hi d_C_write_69 (Wn := (wC cI cZ a q (C_put_directCounts (C_put_tolds (C_put_directs σ ((x1 * 30) + x2) x3) ((x1 * 30) + x2) x4) x1 (if ((C_directCounts (C_put_tolds (C_put_directs σ ((x1 * 30) + x2) x3) ((x1 * 30) + x2) x4)) x1.toNatClampNeg) < (x2 + 1) then (x2 + 1) else ((C_directCounts (C_put_tolds (C_put_directs σ ((x1 * 30) + x2) x3) ((x1 * 30) + x2) x4)) x1.toNatClampNeg))))) ws_C_put_directCounts (fun H locs hP hD hS => ?_)
          refine lv_aload_n hx hb d_C_write_70 rfl (lv_at hl 0 rfl) ?_
          refine va_get (ci := 1) (v := .ref (a 6)) (C := R_C) (T := F_C) (N := 8) hx hb hts i_C hown hK.1 hP 0 rfl rfl 2 (by decide) (hts _ wd_9) (fun _ h9 => h9) rfl d_C_write_71 ?_
          refine lv_iload_n hx hb d_C_write_74 rfl (lv_at hl 1 rfl) ?_
          refine lv_dup2_11 hx hb d_C_write_75 rfl rfl ?_
          replace h := gd h
          obtain ⟨hi, h⟩ := h
          refine va_iald hx hb hK.1 hP 3 0 rfl rfl hi d_C_write_76 ?_
          refine lv_aload_n hx hb d_C_write_77 rfl (lv_at hl 0 rfl) ?_
          refine lv_iload_n hx hb d_C_write_78 rfl (lv_at hl 3 rfl) ?_
          replace h := bd h
          obtain ⟨r1, g1, h⟩ := h
          refine ro_V (n := 1) (ci := 1) (As := [.int x3]) (rest := [.int ((C_above (C_put_directCounts (C_put_tolds (C_put_directs σ ((x1 * 30) + x2) x3) ((x1 * 30) + x2) x4) x1 (if ((C_directCounts (C_put_tolds (C_put_directs σ ((x1 * 30) + x2) x3) ((x1 * 30) + x2) x4)) x1.toNatClampNeg) < (x2 + 1) then (x2 + 1) else ((C_directCounts (C_put_tolds (C_put_directs σ ((x1 * 30) + x2) x3) ((x1 * 30) + x2) x4)) x1.toNatClampNeg)))) x1.toNatClampNeg), .int x1, .ref (a 6)]) C0 (c_C_withAbove l D cI cZ a q (C_put_directCounts (C_put_tolds (C_put_directs σ ((x1 * 30) + x2) x3) ((x1 * 30) + x2) x4) x1 (if ((C_directCounts (C_put_tolds (C_put_directs σ ((x1 * 30) + x2) x3) ((x1 * 30) + x2) x4)) x1.toNatClampNeg) < (x2 + 1) then (x2 + 1) else ((C_directCounts (C_put_tolds (C_put_directs σ ((x1 * 30) + x2) x3) ((x1 * 30) + x2) x4)) x1.toNatClampNeg))) x3 g1) wd_17 ⟨wd_18, wd_19, wd_20, wd_8⟩ (by decide +kernel) ⟨Nat.le_of_ble_eq_true rfl, Nat.le_of_ble_eq_true rfl⟩ hP rfl rfl rfl hl rfl rfl (Nat.le_of_ble_eq_true rfl) ⟨Nat.zero_le _, Nat.zero_le _⟩ d_C_write_79 ?_
          try dsimp only at h
          refine lv_ior hx hb d_C_write_82 ?_
          replace h := gd h
          obtain ⟨hi, h⟩ := h
          refine rw_iast C0 hP hD hS 3 0 rfl rfl hi d_C_write_83 (Wn := (wC cI cZ a q (C_put_above (C_put_directCounts (C_put_tolds (C_put_directs σ ((x1 * 30) + x2) x3) ((x1 * 30) + x2) x4) x1 (if ((C_directCounts (C_put_tolds (C_put_directs σ ((x1 * 30) + x2) x3) ((x1 * 30) + x2) x4)) x1.toNatClampNeg) < (x2 + 1) then (x2 + 1) else ((C_directCounts (C_put_tolds (C_put_directs σ ((x1 * 30) + x2) x3) ((x1 * 30) + x2) x4)) x1.toNatClampNeg))) x1 (((C_above (C_put_directCounts (C_put_tolds (C_put_directs σ ((x1 * 30) + x2) x3) ((x1 * 30) + x2) x4) x1 (if ((C_directCounts (C_put_tolds (C_put_directs σ ((x1 * 30) + x2) x3) ((x1 * 30) + x2) x4)) x1.toNatClampNeg) < (x2 + 1) then (x2 + 1) else ((C_directCounts (C_put_tolds (C_put_directs σ ((x1 * 30) + x2) x3) ((x1 * 30) + x2) x4)) x1.toNatClampNeg)))) x1.toNatClampNeg) ||| r1)))) ws_C_put_above (fun H locs hP hD hS => ?_)
          exact rw_retv C0 hP hD hS (Option.some.inj h) d_C_write_84
        · rw [if_neg hc] at h
          exact rw_retv C0 hP hD hS (Option.some.inj h) d_C_write_26
set_option maxHeartbeats 4000000 in
set_option maxRecDepth 100000 in
theorem c_C_write (l : Launch) (D : va_G) (cI cZ : ClassId) (a : Nat → Nat) (q : Nat) (σ : StC) (x1 : Int32) (x2 : Int32) (x3 : Int32) (x4 : Int32) {res : Int32 × StC} (h : f_C_write σ x1 x2 x3 x4 = some res) : RwMv l y_C_write b_C_write 5 2 42 D [(cI, .int), (cZ, .boolean)] [.ref (a 3), .int x1, .int x2, .int x3, .int x4] (fun q (σ : StC) => (wC cI cZ a q σ)) q σ res :=
  rw_ofv (by decide) (Nat.le_of_ble_eq_true rfl) (fun p e s m args below meth c ls A C0 hA hP hD hS hl => t_C_write_0 (a := a) C0 hA h hP hD hS (lv_sub hl [0, 1, 2, 3, 4] rfl))
def f_C_add_54 (σ : StC) (x3 : Int32) : Option (Int32 × StC) :=
  if x3 = 0 then
    some (x3, σ)
  else
    (f_C_write σ x3 0 0 (-1)).bind fun r1 =>
    some (x3, r1.2)
def f_C_add (σ : StC) (x1 x2 : Int32) : Option (Int32 × StC) :=
  if (C_count σ) < 30 then
    if (C_count σ) < 0 ∨ 30 ≤ (C_count σ).toNatClampNeg then none else
    if (C_count σ) < 0 ∨ 30 ≤ (C_count σ).toNatClampNeg then none else
    if x2 = 0 then
      f_C_add_54 (C_put_generics (C_put_faces (C_set_count σ ((C_count σ) + 1)) (C_count σ) (vp_nar .boolean x1)) (C_count σ) (vp_nar .boolean x2)) (C_count σ)
    else
      f_C_add_54 (C_set_countGeneric (C_put_generics (C_put_faces (C_set_count σ ((C_count σ) + 1)) (C_count σ) (vp_nar .boolean x1)) (C_count σ) (vp_nar .boolean x2)) ((C_countGeneric (C_put_generics (C_put_faces (C_set_count σ ((C_count σ) + 1)) (C_count σ) (vp_nar .boolean x1)) (C_count σ) (vp_nar .boolean x2))) + 1)) (C_count σ)
  else
    some ((-1), σ)
set_option maxHeartbeats 4000000 in
set_option maxRecDepth 100000 in
theorem t_C_add_54 {p : Program} {l : Launch} {e : Env} {s : State} {m : MethodId} {args : Array Value} {below : List Frame} {meth : Method} {c : Code} {D : va_G} {cI cZ : ClassId} {a : Nat → Nat} {A : Nat → Prop} (C0 : Am p s m args meth c b_C_add (some .int) 4 R_C D [(cI, .int), (cZ, .boolean)]) (hA : ∀ q, s.heap.size ≤ q → A q) {res : Int32 × StC}   {q : Nat} {σ : StC} {x3 : Int32} (h : f_C_add_54 σ x3 = some res) {H : Heap} {locs : List Loc} (hP : va_P D vwCl (wC cI cZ a q σ) H) (hD : va_D A (wC cI cZ a q σ)) (hS : va_S A s.heap H locs) {ls : Array Slot} (hl : lv_has ls 4 [(0, .ref (a 3)), (3, .int x3)]) : W p l e (rmK 3 66 0 0) s m args below meth c H locs 0 0 (RwQ below args s D A (fun q (σ : StC) => (wC cI cZ a q σ)) res 0 0) (F0 m 54 ls []) := by
  obtain ⟨hx, hb, hr, hml, hown, hts, hlk, hK⟩ := id C0
  unfold f_C_add_54 at h
  refine lv_iload_n hx hb d_C_add_54 rfl (lv_at hl 1 rfl) ?_
  refine lv_if_eq (tgt := 66) hx hb d_C_add_55 (by decide) (fun hc => ?_) (fun hc => ?_)
  · rw [if_pos hc] at h
    refine lv_iload_n hx hb d_C_add_66 rfl (lv_at hl 1 rfl) ?_
    exact rw_ret C0 hP hD hS (Option.some.inj h) d_C_add_67
  · rw [if_neg hc] at h
    refine lv_aload_n hx hb d_C_add_58 rfl (lv_at hl 0 rfl) ?_
    refine lv_iload_n hx hb d_C_add_59 rfl (lv_at hl 1 rfl) ?_
    refine lv_iconst (v := 0) hx hb d_C_add_60 (by decide) ?_
    refine lv_iconst (v := 0) hx hb d_C_add_61 (by decide) ?_
    refine lv_iconst (v := (-1)) hx hb d_C_add_62 (by decide) ?_
    replace h := bd h
    obtain ⟨r1, g1, h⟩ := h
    refine rw_Vv (n := 4) (ci := 1) (As := [.int x3, .int 0, .int 0, .int (-1)]) (rest := []) (Wn := fun _ => (wC cI cZ a q r1.2)) C0 hA (c_C_write l D cI cZ a q σ x3 0 0 (-1) g1) wd_23 ⟨wd_24, wd_25, wd_26, wd_8⟩ (by decide +kernel) ⟨Nat.le_of_ble_eq_true rfl, Nat.le_of_ble_eq_true rfl⟩ hP hD hS [0, 1, 2, 3, 4, 5, 6] [] [0, 1, 2, 3, 4, 5, 6] jn_C__C (by decide) jn_C__R (by decide) (by decide) (by decide) jn_C__W rfl rfl rfl hl rfl rfl (Nat.le_of_ble_eq_true rfl) ⟨Nat.zero_le _, Nat.zero_le _⟩ d_C_add_63 (fun H locs _ hP hD hS => ?_)
    try dsimp only at h
    refine lv_iload_n hx hb d_C_add_66 rfl (lv_at hl 1 rfl) ?_
    exact rw_ret C0 hP hD hS (Option.some.inj h) d_C_add_67
set_option maxHeartbeats 4000000 in
set_option maxRecDepth 100000 in
theorem t_C_add_0 {p : Program} {l : Launch} {e : Env} {s : State} {m : MethodId} {args : Array Value} {below : List Frame} {meth : Method} {c : Code} {D : va_G} {cI cZ : ClassId} {a : Nat → Nat} {A : Nat → Prop} (C0 : Am p s m args meth c b_C_add (some .int) 4 R_C D [(cI, .int), (cZ, .boolean)]) (hA : ∀ q, s.heap.size ≤ q → A q) {res : Int32 × StC}   {q : Nat} {σ : StC} {x1 x2 : Int32} (h : f_C_add σ x1 x2 = some res) {H : Heap} {locs : List Loc} (hP : va_P D vwCl (wC cI cZ a q σ) H) (hD : va_D A (wC cI cZ a q σ)) (hS : va_S A s.heap H locs) {ls : Array Slot} (hl : lv_has ls 4 [(0, .ref (a 3)), (1, .int x1), (2, .int x2)]) : W p l e (rmK 3 66 0 0) s m args below meth c H locs 0 0 (RwQ below args s D A (fun q (σ : StC) => (wC cI cZ a q σ)) res 0 0) (F0 m 0 ls []) := by
  obtain ⟨hx, hb, hr, hml, hown, hts, hlk, hK⟩ := id C0
  unfold f_C_add at h
  refine lv_aload_n hx hb d_C_add_0 rfl (lv_at hl 0 rfl) ?_
  refine va_get (ci := 1) (v := .int (C_count σ)) (C := R_C) (T := F_C) (N := 8) hx hb hts i_C hown hK.1 hP 0 rfl rfl 6 (by decide) (hts _ wd_3) (fun _ h9 => h9) rfl d_C_add_1 ?_
  refine lv_bipush (v := 30) hx hb d_C_add_4 (by decide) ?_
  refine lv_icmp_lt (tgt := 11) hx hb d_C_add_6 (by decide) (fun hc => ?_) (fun hc => ?_)
  · rw [if_pos hc] at h
    refine lv_aload_n hx hb d_C_add_11 rfl (lv_at hl 0 rfl) ?_
    refine va_get (ci := 1) (v := .int (C_count σ)) (C := R_C) (T := F_C) (N := 8) hx hb hts i_C hown hK.1 hP 0 rfl rfl 6 (by decide) (hts _ wd_3) (fun _ h9 => h9) rfl d_C_add_12 ?_
    refine lv_istore_n (lv' := [(3, .int (C_count σ)), (0, .ref (a 3)), (1, .int x1), (2, .int x2)]) hx hb d_C_add_15 rfl hl (by decide) rfl (fun ls hl => ?_)
    refine lv_aload_n hx hb d_C_add_16 rfl (lv_at hl 1 rfl) ?_
    refine lv_dup hx hb d_C_add_17 rfl ?_
    refine va_get (ci := 1) (v := .int (C_count σ)) (C := R_C) (T := F_C) (N := 8) hx hb hts i_C hown hK.1 hP 0 rfl rfl 6 (by decide) (hts _ wd_3) (fun _ h9 => h9) rfl d_C_add_18 ?_
    refine lv_iconst (v := 1) hx hb d_C_add_21 (by decide) ?_
    refine lv_iadd hx hb d_C_add_22 ?_
    refine rw_put (v := .int ((C_count σ) + 1)) (fty := .int) (C := R_C) (T := F_C) (N := 8) C0 hP hD hS i_C ty_C tyok_C nn_C 0 rfl rfl 6 (by decide) (hts _ wd_3) rfl rfl (by decide +kernel) rfl rfl (Nat.le_of_ble_eq_true rfl) d_C_add_23 (Wn := (wC cI cZ a q (C_set_count σ ((C_count σ) + 1)))) ws_C_set_count (fun H locs hP hD hS => ?_)
    refine lv_aload_n hx hb d_C_add_26 rfl (lv_at hl 1 rfl) ?_
    refine va_get (ci := 1) (v := .ref (a 4)) (C := R_C) (T := F_C) (N := 8) hx hb hts i_C hown hK.1 hP 0 rfl rfl 0 (by decide) (hts _ wd_21) (fun _ h9 => h9) rfl d_C_add_27 ?_
    refine lv_iload_n hx hb d_C_add_30 rfl (lv_at hl 0 rfl) ?_
    refine lv_iload_n hx hb d_C_add_31 rfl (lv_at hl 2 rfl) ?_
    replace h := gd h
    obtain ⟨hi, h⟩ := h
    refine rw_zast C0 hP hD hS 1 1 rfl rfl hi d_C_add_32 (Wn := (wC cI cZ a q (C_put_faces (C_set_count σ ((C_count σ) + 1)) (C_count σ) (vp_nar .boolean x1)))) ws_C_put_faces (fun H locs hP hD hS => ?_)
    refine lv_aload_n hx hb d_C_add_33 rfl (lv_at hl 1 rfl) ?_
    refine va_get (ci := 1) (v := .ref (a 5)) (C := R_C) (T := F_C) (N := 8) hx hb hts i_C hown hK.1 hP 0 rfl rfl 1 (by decide) (hts _ wd_22) (fun _ h9 => h9) rfl d_C_add_34 ?_
    refine lv_iload_n hx hb d_C_add_37 rfl (lv_at hl 0 rfl) ?_
    refine lv_iload_n hx hb d_C_add_38 rfl (lv_at hl 3 rfl) ?_
    replace h := gd h
    obtain ⟨hi, h⟩ := h
    refine rw_zast C0 hP hD hS 2 1 rfl rfl hi d_C_add_39 (Wn := (wC cI cZ a q (C_put_generics (C_put_faces (C_set_count σ ((C_count σ) + 1)) (C_count σ) (vp_nar .boolean x1)) (C_count σ) (vp_nar .boolean x2)))) ws_C_put_generics (fun H locs hP hD hS => ?_)
    refine lv_iload_n hx hb d_C_add_40 rfl (lv_at hl 3 rfl) ?_
    refine lv_if_eq (tgt := 54) hx hb d_C_add_41 (by decide) (fun hc => ?_) (fun hc => ?_)
    · rw [if_pos hc] at h
      exact t_C_add_54 (a := a) C0 hA  h hP hD hS (lv_sub hl [1, 0] rfl)
    · rw [if_neg hc] at h
      refine lv_aload_n hx hb d_C_add_44 rfl (lv_at hl 1 rfl) ?_
      refine lv_dup hx hb d_C_add_45 rfl ?_
      refine va_get (ci := 1) (v := .int (C_countGeneric (C_put_generics (C_put_faces (C_set_count σ ((C_count σ) + 1)) (C_count σ) (vp_nar .boolean x1)) (C_count σ) (vp_nar .boolean x2)))) (C := R_C) (T := F_C) (N := 8) hx hb hts i_C hown hK.1 hP 0 rfl rfl 7 (by decide) (hts _ wd_27) (fun _ h9 => h9) rfl d_C_add_46 ?_
      refine lv_iconst (v := 1) hx hb d_C_add_49 (by decide) ?_
      refine lv_iadd hx hb d_C_add_50 ?_
      refine rw_put (v := .int ((C_countGeneric (C_put_generics (C_put_faces (C_set_count σ ((C_count σ) + 1)) (C_count σ) (vp_nar .boolean x1)) (C_count σ) (vp_nar .boolean x2))) + 1)) (fty := .int) (C := R_C) (T := F_C) (N := 8) C0 hP hD hS i_C ty_C tyok_C nn_C 0 rfl rfl 7 (by decide) (hts _ wd_27) rfl rfl (by decide +kernel) rfl rfl (Nat.le_of_ble_eq_true rfl) d_C_add_51 (Wn := (wC cI cZ a q (C_set_countGeneric (C_put_generics (C_put_faces (C_set_count σ ((C_count σ) + 1)) (C_count σ) (vp_nar .boolean x1)) (C_count σ) (vp_nar .boolean x2)) ((C_countGeneric (C_put_generics (C_put_faces (C_set_count σ ((C_count σ) + 1)) (C_count σ) (vp_nar .boolean x1)) (C_count σ) (vp_nar .boolean x2))) + 1)))) ws_C_set_countGeneric (fun H locs hP hD hS => ?_)
      exact t_C_add_54 (a := a) C0 hA  h hP hD hS (lv_sub hl [1, 0] rfl)
  · rw [if_neg hc] at h
    refine lv_iconst (v := (-1)) hx hb d_C_add_9 (by decide) ?_
    exact rw_ret C0 hP hD hS (Option.some.inj h) d_C_add_10
set_option maxHeartbeats 4000000 in
set_option maxRecDepth 100000 in
theorem c_C_add (l : Launch) (D : va_G) (cI cZ : ClassId) (a : Nat → Nat) (q : Nat) (σ : StC) (x1 : Int32) (x2 : Int32) {res : Int32 × StC} (h : f_C_add σ x1 x2 = some res) : RwM l y_C_add b_C_add 4 (some .int) 3 66 D [(cI, .int), (cZ, .boolean)] [.ref (a 3), .int x1, .int x2] (fun q (σ : StC) => (wC cI cZ a q σ)) q σ res :=
  rw_of (by decide) (Nat.le_of_ble_eq_true rfl) (fun p e s m args below meth c ls A C0 hA hP hD hS hl => t_C_add_0 (a := a) C0 hA h hP hD hS (lv_sub hl [0, 1, 2] rfl))
def f_C_newest (σ : StC) : Int32 :=
  ((C_count σ) - 1)
set_option maxHeartbeats 4000000 in
set_option maxRecDepth 100000 in
theorem t_C_newest_0 {p : Program} {l : Launch} {e : Env} {s : State} {m : MethodId} {args : Array Value} {below : List Frame} {meth : Method} {c : Code} {D : va_G} {cI cZ : ClassId} {a : Nat → Nat} {q : Nat} {σ : StC} (C0 : Am p s m args meth c b_C_newest (some .int) 1 R_C D [(cI, .int), (cZ, .boolean)]) (hP : va_P D vwCl (wC cI cZ a q σ) s.heap) {val : Int32}   (h : f_C_newest σ = val) {ls : Array Slot} (hl : lv_has ls 1 [(0, .ref (a 3))]) : RoW p l e (rmK 0 0 0 0) s m args below meth c val (F0 m 0 ls []) := by
  obtain ⟨hx, hb, hr, hml, hown, hts, hlk, hK⟩ := id C0
  unfold f_C_newest at h
  refine lv_aload_n hx hb d_C_newest_0 rfl (lv_at hl 0 rfl) ?_
  refine va_get (ci := 1) (v := .int (C_count σ)) (C := R_C) (T := F_C) (N := 8) hx hb hts i_C hown hK.1 hP 0 rfl rfl 6 (by decide) (hts _ wd_3) (fun _ h9 => h9) rfl d_C_newest_1 ?_
  refine lv_iconst (v := 1) hx hb d_C_newest_4 (by decide) ?_
  refine lv_isub hx hb d_C_newest_5 ?_
  exact ro_ret C0 h d_C_newest_6
set_option maxHeartbeats 4000000 in
set_option maxRecDepth 100000 in
theorem c_C_newest (l : Launch) (D : va_G) (cI cZ : ClassId) (a : Nat → Nat) (q : Nat) (σ : StC) {val : Int32} (h : f_C_newest σ = val) : RoM l y_C_newest b_C_newest 1 (some .int) 0 0 D [(cI, .int), (cZ, .boolean)] [.ref (a 3)] (wC cI cZ a q σ) val :=
  ro_of (by decide) (Nat.le_of_ble_eq_true rfl) (fun p e s m args below meth c ls C0 hP hl => t_C_newest_0 (a := a) C0 hP h (lv_sub hl [0] rfl))
def f_C_isFace (σ : StC) (x1 : Int32) : Option Int32 :=
  if (f_C_isThere σ x1) = 0 then
    some 0
  else
    if x1 < 0 ∨ 30 ≤ x1.toNatClampNeg then none else
    if ((C_faces σ) x1.toNatClampNeg) = 0 then
      some 0
    else
      some 1
set_option maxHeartbeats 4000000 in
set_option maxRecDepth 100000 in
theorem t_C_isFace_0 {p : Program} {l : Launch} {e : Env} {s : State} {m : MethodId} {args : Array Value} {below : List Frame} {meth : Method} {c : Code} {D : va_G} {cI cZ : ClassId} {a : Nat → Nat} {q : Nat} {σ : StC} (C0 : Am p s m args meth c b_C_isFace (some .boolean) 2 R_C D [(cI, .int), (cZ, .boolean)]) (hP : va_P D vwCl (wC cI cZ a q σ) s.heap) {val : Int32}   {x1 : Int32} (h : f_C_isFace σ x1 = some val) {ls : Array Slot} (hl : lv_has ls 2 [(0, .ref (a 3)), (1, .int x1)]) : RoW p l e (rmK 1 21 0 0) s m args below meth c val (F0 m 0 ls []) := by
  obtain ⟨hx, hb, hr, hml, hown, hts, hlk, hK⟩ := id C0
  unfold f_C_isFace at h
  refine lv_aload_n hx hb d_C_isFace_0 rfl (lv_at hl 0 rfl) ?_
  refine lv_iload_n hx hb d_C_isFace_1 rfl (lv_at hl 1 rfl) ?_
  refine ro_V (n := 1) (ci := 1) (As := [.int x1]) (rest := []) C0 (c_C_isThere l D cI cZ a q σ x1 rfl) wd_4 ⟨wd_5, wd_6, wd_7, wd_8⟩ (by decide +kernel) ⟨Nat.le_of_ble_eq_true rfl, Nat.le_of_ble_eq_true rfl⟩ hP rfl rfl rfl hl rfl rfl (Nat.le_of_ble_eq_true rfl) ⟨Nat.zero_le _, Nat.zero_le _⟩ d_C_isFace_2 ?_
  refine lv_if_eq (tgt := 21) hx hb d_C_isFace_5 (by decide) (fun hc => ?_) (fun hc => ?_)
  · rw [if_pos hc] at h
    refine lv_iconst (v := 0) hx hb d_C_isFace_21 (by decide) ?_
    exact ro_retz C0 (by decide) (Option.some.inj h) d_C_isFace_22
  · rw [if_neg hc] at h
    refine lv_aload_n hx hb d_C_isFace_8 rfl (lv_at hl 0 rfl) ?_
    refine va_get (ci := 1) (v := .ref (a 4)) (C := R_C) (T := F_C) (N := 8) hx hb hts i_C hown hK.1 hP 0 rfl rfl 0 (by decide) (hts _ wd_21) (fun _ h9 => h9) rfl d_C_isFace_9 ?_
    refine lv_iload_n hx hb d_C_isFace_12 rfl (lv_at hl 1 rfl) ?_
    replace h := gd h
    obtain ⟨hi, h⟩ := h
    refine va_zald hx hb hK.1 hP 1 1 rfl rfl hi d_C_isFace_13 ?_
    refine lv_if_eq (tgt := 21) hx hb d_C_isFace_14 (by decide) (fun hc => ?_) (fun hc => ?_)
    · rw [if_pos hc] at h
      refine lv_iconst (v := 0) hx hb d_C_isFace_21 (by decide) ?_
      exact ro_retz C0 (by decide) (Option.some.inj h) d_C_isFace_22
    · rw [if_neg hc] at h
      refine lv_iconst (v := 1) hx hb d_C_isFace_17 (by decide) ?_
      refine lv_goto (tgt := 22) hx hb d_C_isFace_18 (by decide) ?_
      exact ro_retz C0 (by decide) (Option.some.inj h) d_C_isFace_22
set_option maxHeartbeats 4000000 in
set_option maxRecDepth 100000 in
theorem c_C_isFace (l : Launch) (D : va_G) (cI cZ : ClassId) (a : Nat → Nat) (q : Nat) (σ : StC) (x1 : Int32) {val : Int32} (h : f_C_isFace σ x1 = some val) : RoM l y_C_isFace b_C_isFace 2 (some .boolean) 1 21 D [(cI, .int), (cZ, .boolean)] [.ref (a 3), .int x1] (wC cI cZ a q σ) val :=
  ro_of (by decide) (Nat.le_of_ble_eq_true rfl) (fun p e s m args below meth c ls C0 hP hl => t_C_isFace_0 (a := a) C0 hP h (lv_sub hl [0, 1] rfl))
def f_C_countDirect (σ : StC) (x1 : Int32) : Option Int32 :=
  if (f_C_isThere σ x1) = 0 then
    some 0
  else
    if x1 < 0 ∨ 30 ≤ x1.toNatClampNeg then none else
    some ((C_directCounts σ) x1.toNatClampNeg)
set_option maxHeartbeats 4000000 in
set_option maxRecDepth 100000 in
theorem t_C_countDirect_0 {p : Program} {l : Launch} {e : Env} {s : State} {m : MethodId} {args : Array Value} {below : List Frame} {meth : Method} {c : Code} {D : va_G} {cI cZ : ClassId} {a : Nat → Nat} {q : Nat} {σ : StC} (C0 : Am p s m args meth c b_C_countDirect (some .int) 2 R_C D [(cI, .int), (cZ, .boolean)]) (hP : va_P D vwCl (wC cI cZ a q σ) s.heap) {val : Int32}   {x1 : Int32} (h : f_C_countDirect σ x1 = some val) {ls : Array Slot} (hl : lv_has ls 2 [(0, .ref (a 3)), (1, .int x1)]) : RoW p l e (rmK 1 21 0 0) s m args below meth c val (F0 m 0 ls []) := by
  obtain ⟨hx, hb, hr, hml, hown, hts, hlk, hK⟩ := id C0
  unfold f_C_countDirect at h
  refine lv_aload_n hx hb d_C_countDirect_0 rfl (lv_at hl 0 rfl) ?_
  refine lv_iload_n hx hb d_C_countDirect_1 rfl (lv_at hl 1 rfl) ?_
  refine ro_V (n := 1) (ci := 1) (As := [.int x1]) (rest := []) C0 (c_C_isThere l D cI cZ a q σ x1 rfl) wd_4 ⟨wd_5, wd_6, wd_7, wd_8⟩ (by decide +kernel) ⟨Nat.le_of_ble_eq_true rfl, Nat.le_of_ble_eq_true rfl⟩ hP rfl rfl rfl hl rfl rfl (Nat.le_of_ble_eq_true rfl) ⟨Nat.zero_le _, Nat.zero_le _⟩ d_C_countDirect_2 ?_
  refine lv_if_eq (tgt := 17) hx hb d_C_countDirect_5 (by decide) (fun hc => ?_) (fun hc => ?_)
  · rw [if_pos hc] at h
    refine lv_iconst (v := 0) hx hb d_C_countDirect_17 (by decide) ?_
    exact ro_ret C0 (Option.some.inj h) d_C_countDirect_18
  · rw [if_neg hc] at h
    refine lv_aload_n hx hb d_C_countDirect_8 rfl (lv_at hl 0 rfl) ?_
    refine va_get (ci := 1) (v := .ref (a 7)) (C := R_C) (T := F_C) (N := 8) hx hb hts i_C hown hK.1 hP 0 rfl rfl 3 (by decide) (hts _ wd_12) (fun _ h9 => h9) rfl d_C_countDirect_9 ?_
    refine lv_iload_n hx hb d_C_countDirect_12 rfl (lv_at hl 1 rfl) ?_
    replace h := gd h
    obtain ⟨hi, h⟩ := h
    refine va_iald hx hb hK.1 hP 4 0 rfl rfl hi d_C_countDirect_13 ?_
    refine lv_goto (tgt := 18) hx hb d_C_countDirect_14 (by decide) ?_
    exact ro_ret C0 (Option.some.inj h) d_C_countDirect_18
set_option maxHeartbeats 4000000 in
set_option maxRecDepth 100000 in
theorem c_C_countDirect (l : Launch) (D : va_G) (cI cZ : ClassId) (a : Nat → Nat) (q : Nat) (σ : StC) (x1 : Int32) {val : Int32} (h : f_C_countDirect σ x1 = some val) : RoM l y_C_countDirect b_C_countDirect 2 (some .int) 1 21 D [(cI, .int), (cZ, .boolean)] [.ref (a 3), .int x1] (wC cI cZ a q σ) val :=
  ro_of (by decide) (Nat.le_of_ble_eq_true rfl) (fun p e s m args below meth c ls C0 hP hl => t_C_countDirect_0 (a := a) C0 hP h (lv_sub hl [0, 1] rfl))
def f_C_put_22 (σ : StC) (x1 x2 x3 t0 : Int32) : Option (Int32 × StC) :=
  (f_C_write σ x3 t0 x1 x2).bind fun r2 =>
  (f_C_countDirect r2.2 x3).bind fun r3 =>
  some (r3, r2.2)
def f_C_put (σ : StC) (x1 x2 : Int32) : Option (Int32 × StC) :=
  (f_C_isFace σ x1).bind fun r1 =>
  if r1 = 0 then
    f_C_put_22 σ x1 x2 (f_C_newest σ) 0
  else
    (f_C_countDirect σ (f_C_newest σ)).bind fun r4 =>
    f_C_put_22 σ x1 x2 (f_C_newest σ) r4
set_option maxHeartbeats 4000000 in
set_option maxRecDepth 100000 in
theorem t_C_put_22 {p : Program} {l : Launch} {e : Env} {s : State} {m : MethodId} {args : Array Value} {below : List Frame} {meth : Method} {c : Code} {D : va_G} {cI cZ : ClassId} {a : Nat → Nat} {A : Nat → Prop} (C0 : Am p s m args meth c b_C_put (some .int) 5 R_C D [(cI, .int), (cZ, .boolean)]) (hA : ∀ q, s.heap.size ≤ q → A q) {res : Int32 × StC}   {q : Nat} {σ : StC} {x1 x2 x3 t0 : Int32} (h : f_C_put_22 σ x1 x2 x3 t0 = some res) {H : Heap} {locs : List Loc} (hP : va_P D vwCl (wC cI cZ a q σ) H) (hD : va_D A (wC cI cZ a q σ)) (hS : va_S A s.heap H locs) {ls : Array Slot} (hl : lv_has ls 5 [(0, .ref (a 3)), (1, .int x1), (2, .int x2), (3, .int x3)]) : W p l e (rmK 3 66 0 0) s m args below meth c H locs 0 0 (RwQ below args s D A (fun q (σ : StC) => (wC cI cZ a q σ)) res 0 0) (F0 m 22 ls [.int t0]) := by
  obtain ⟨hx, hb, hr, hml, hown, hts, hlk, hK⟩ := id C0
  unfold f_C_put_22 at h
  refine lv_istore (lv' := [(4, .int t0), (0, .ref (a 3)), (1, .int x1), (2, .int x2), (3, .int x3)]) hx hb d_C_put_22 hl (by decide) rfl (fun ls hl => ?_)
  refine lv_aload_n hx hb d_C_put_24 rfl (lv_at hl 1 rfl) ?_
  refine lv_iload_n hx hb d_C_put_25 rfl (lv_at hl 4 rfl) ?_
  refine lv_iload hx hb d_C_put_26 (lv_at hl 0 rfl) ?_
  refine lv_iload_n hx hb d_C_put_28 rfl (lv_at hl 2 rfl) ?_
  refine lv_iload_n hx hb d_C_put_29 rfl (lv_at hl 3 rfl) ?_
  replace h := bd h
  obtain ⟨r2, g2, h⟩ := h
  refine rw_Vv (n := 4) (ci := 1) (As := [.int x3, .int t0, .int x1, .int x2]) (rest := []) (Wn := fun _ => (wC cI cZ a q r2.2)) C0 hA (c_C_write l D cI cZ a q σ x3 t0 x1 x2 g2) wd_23 ⟨wd_24, wd_25, wd_26, wd_8⟩ (by decide +kernel) ⟨Nat.le_of_ble_eq_true rfl, Nat.le_of_ble_eq_true rfl⟩ hP hD hS [0, 1, 2, 3, 4, 5, 6] [] [0, 1, 2, 3, 4, 5, 6] jn_C__C (by decide) jn_C__R (by decide) (by decide) (by decide) jn_C__W rfl rfl rfl hl rfl rfl (Nat.le_of_ble_eq_true rfl) ⟨Nat.zero_le _, Nat.zero_le _⟩ d_C_put_30 (fun H locs _ hP hD hS => ?_)
  try dsimp only at h
  refine lv_aload_n hx hb d_C_put_33 rfl (lv_at hl 1 rfl) ?_
  refine lv_iload_n hx hb d_C_put_34 rfl (lv_at hl 4 rfl) ?_
  replace h := bd h
  obtain ⟨r3, g3, h⟩ := h
  refine ro_V (n := 1) (ci := 1) (As := [.int x3]) (rest := []) C0 (c_C_countDirect l D cI cZ a q r2.2 x3 g3) wd_36 ⟨wd_37, wd_38, wd_39, wd_8⟩ (by decide +kernel) ⟨Nat.le_of_ble_eq_true rfl, Nat.le_of_ble_eq_true rfl⟩ hP rfl rfl rfl hl rfl rfl (Nat.le_of_ble_eq_true rfl) ⟨Nat.zero_le _, Nat.zero_le _⟩ d_C_put_35 ?_
  try dsimp only at h
  exact rw_ret C0 hP hD hS (Option.some.inj h) d_C_put_38
set_option maxHeartbeats 4000000 in
set_option maxRecDepth 100000 in
theorem t_C_put_0 {p : Program} {l : Launch} {e : Env} {s : State} {m : MethodId} {args : Array Value} {below : List Frame} {meth : Method} {c : Code} {D : va_G} {cI cZ : ClassId} {a : Nat → Nat} {A : Nat → Prop} (C0 : Am p s m args meth c b_C_put (some .int) 5 R_C D [(cI, .int), (cZ, .boolean)]) (hA : ∀ q, s.heap.size ≤ q → A q) {res : Int32 × StC}   {q : Nat} {σ : StC} {x1 x2 : Int32} (h : f_C_put σ x1 x2 = some res) {H : Heap} {locs : List Loc} (hP : va_P D vwCl (wC cI cZ a q σ) H) (hD : va_D A (wC cI cZ a q σ)) (hS : va_S A s.heap H locs) {ls : Array Slot} (hl : lv_has ls 5 [(0, .ref (a 3)), (1, .int x1), (2, .int x2)]) : W p l e (rmK 3 66 0 0) s m args below meth c H locs 0 0 (RwQ below args s D A (fun q (σ : StC) => (wC cI cZ a q σ)) res 0 0) (F0 m 0 ls []) := by
  obtain ⟨hx, hb, hr, hml, hown, hts, hlk, hK⟩ := id C0
  unfold f_C_put at h
  refine lv_aload_n hx hb d_C_put_0 rfl (lv_at hl 0 rfl) ?_
  refine ro_V (n := 0) (ci := 1) (As := []) (rest := []) C0 (c_C_newest l D cI cZ a q σ rfl) wd_28 ⟨wd_29, wd_30, wd_31, wd_8⟩ (by decide +kernel) ⟨Nat.le_of_ble_eq_true rfl, Nat.le_of_ble_eq_true rfl⟩ hP rfl rfl rfl hl rfl rfl (Nat.le_of_ble_eq_true rfl) ⟨Nat.zero_le _, Nat.zero_le _⟩ d_C_put_1 ?_
  refine lv_istore_n (lv' := [(3, .int (f_C_newest σ)), (0, .ref (a 3)), (1, .int x1), (2, .int x2)]) hx hb d_C_put_4 rfl hl (by decide) rfl (fun ls hl => ?_)
  refine lv_aload_n hx hb d_C_put_5 rfl (lv_at hl 1 rfl) ?_
  refine lv_iload_n hx hb d_C_put_6 rfl (lv_at hl 2 rfl) ?_
  replace h := bd h
  obtain ⟨r1, g1, h⟩ := h
  refine ro_V (n := 1) (ci := 1) (As := [.int x1]) (rest := []) C0 (c_C_isFace l D cI cZ a q σ x1 g1) wd_32 ⟨wd_33, wd_34, wd_35, wd_8⟩ (by decide +kernel) ⟨Nat.le_of_ble_eq_true rfl, Nat.le_of_ble_eq_true rfl⟩ hP rfl rfl rfl hl rfl rfl (Nat.le_of_ble_eq_true rfl) ⟨Nat.zero_le _, Nat.zero_le _⟩ d_C_put_7 ?_
  try dsimp only at h
  refine lv_if_eq (tgt := 21) hx hb d_C_put_10 (by decide) (fun hc => ?_) (fun hc => ?_)
  · rw [if_pos hc] at h
    refine lv_iconst (v := 0) hx hb d_C_put_21 (by decide) ?_
    exact t_C_put_22 (a := a) C0 hA  h hP hD hS (lv_sub hl [1, 2, 3, 0] rfl)
  · rw [if_neg hc] at h
    refine lv_aload_n hx hb d_C_put_13 rfl (lv_at hl 1 rfl) ?_
    refine lv_iload_n hx hb d_C_put_14 rfl (lv_at hl 0 rfl) ?_
    replace h := bd h
    obtain ⟨r4, g4, h⟩ := h
    refine ro_V (n := 1) (ci := 1) (As := [.int (f_C_newest σ)]) (rest := []) C0 (c_C_countDirect l D cI cZ a q σ (f_C_newest σ) g4) wd_36 ⟨wd_37, wd_38, wd_39, wd_8⟩ (by decide +kernel) ⟨Nat.le_of_ble_eq_true rfl, Nat.le_of_ble_eq_true rfl⟩ hP rfl rfl rfl hl rfl rfl (Nat.le_of_ble_eq_true rfl) ⟨Nat.zero_le _, Nat.zero_le _⟩ d_C_put_15 ?_
    try dsimp only at h
    refine lv_goto (tgt := 22) hx hb d_C_put_18 (by decide) ?_
    exact t_C_put_22 (a := a) C0 hA  h hP hD hS (lv_sub hl [1, 2, 3, 0] rfl)
set_option maxHeartbeats 4000000 in
set_option maxRecDepth 100000 in
theorem c_C_put (l : Launch) (D : va_G) (cI cZ : ClassId) (a : Nat → Nat) (q : Nat) (σ : StC) (x1 : Int32) (x2 : Int32) {res : Int32 × StC} (h : f_C_put σ x1 x2 = some res) : RwM l y_C_put b_C_put 5 (some .int) 3 66 D [(cI, .int), (cZ, .boolean)] [.ref (a 3), .int x1, .int x2] (fun q (σ : StC) => (wC cI cZ a q σ)) q σ res :=
  rw_of (by decide) (Nat.le_of_ble_eq_true rfl) (fun p e s m args below meth c ls A C0 hA hP hD hS hl => t_C_put_0 (a := a) C0 hA h hP hD hS (lv_sub hl [0, 1, 2] rfl))
def f_C_count (σ : StC) : Int32 :=
  (C_count σ)
set_option maxHeartbeats 4000000 in
set_option maxRecDepth 100000 in
theorem t_C_count_0 {p : Program} {l : Launch} {e : Env} {s : State} {m : MethodId} {args : Array Value} {below : List Frame} {meth : Method} {c : Code} {D : va_G} {cI cZ : ClassId} {a : Nat → Nat} {q : Nat} {σ : StC} (C0 : Am p s m args meth c b_C_count (some .int) 1 R_C D [(cI, .int), (cZ, .boolean)]) (hP : va_P D vwCl (wC cI cZ a q σ) s.heap) {val : Int32}   (h : f_C_count σ = val) {ls : Array Slot} (hl : lv_has ls 1 [(0, .ref (a 3))]) : RoW p l e (rmK 0 0 0 0) s m args below meth c val (F0 m 0 ls []) := by
  obtain ⟨hx, hb, hr, hml, hown, hts, hlk, hK⟩ := id C0
  unfold f_C_count at h
  refine lv_aload_n hx hb d_C_count_0 rfl (lv_at hl 0 rfl) ?_
  refine va_get (ci := 1) (v := .int (C_count σ)) (C := R_C) (T := F_C) (N := 8) hx hb hts i_C hown hK.1 hP 0 rfl rfl 6 (by decide) (hts _ wd_3) (fun _ h9 => h9) rfl d_C_count_1 ?_
  exact ro_ret C0 h d_C_count_4
set_option maxHeartbeats 4000000 in
set_option maxRecDepth 100000 in
theorem c_C_count (l : Launch) (D : va_G) (cI cZ : ClassId) (a : Nat → Nat) (q : Nat) (σ : StC) {val : Int32} (h : f_C_count σ = val) : RoM l y_C_count b_C_count 1 (some .int) 0 0 D [(cI, .int), (cZ, .boolean)] [.ref (a 3)] (wC cI cZ a q σ) val :=
  ro_of (by decide) (Nat.le_of_ble_eq_true rfl) (fun p e s m args below meth c ls C0 hP hl => t_C_count_0 (a := a) C0 hP h (lv_sub hl [0] rfl))
def f_C_countGeneric (σ : StC) : Int32 :=
  (C_countGeneric σ)
set_option maxHeartbeats 4000000 in
set_option maxRecDepth 100000 in
theorem t_C_countGeneric_0 {p : Program} {l : Launch} {e : Env} {s : State} {m : MethodId} {args : Array Value} {below : List Frame} {meth : Method} {c : Code} {D : va_G} {cI cZ : ClassId} {a : Nat → Nat} {q : Nat} {σ : StC} (C0 : Am p s m args meth c b_C_countGeneric (some .int) 1 R_C D [(cI, .int), (cZ, .boolean)]) (hP : va_P D vwCl (wC cI cZ a q σ) s.heap) {val : Int32}   (h : f_C_countGeneric σ = val) {ls : Array Slot} (hl : lv_has ls 1 [(0, .ref (a 3))]) : RoW p l e (rmK 0 0 0 0) s m args below meth c val (F0 m 0 ls []) := by
  obtain ⟨hx, hb, hr, hml, hown, hts, hlk, hK⟩ := id C0
  unfold f_C_countGeneric at h
  refine lv_aload_n hx hb d_C_countGeneric_0 rfl (lv_at hl 0 rfl) ?_
  refine va_get (ci := 1) (v := .int (C_countGeneric σ)) (C := R_C) (T := F_C) (N := 8) hx hb hts i_C hown hK.1 hP 0 rfl rfl 7 (by decide) (hts _ wd_27) (fun _ h9 => h9) rfl d_C_countGeneric_1 ?_
  exact ro_ret C0 h d_C_countGeneric_4
set_option maxHeartbeats 4000000 in
set_option maxRecDepth 100000 in
theorem c_C_countGeneric (l : Launch) (D : va_G) (cI cZ : ClassId) (a : Nat → Nat) (q : Nat) (σ : StC) {val : Int32} (h : f_C_countGeneric σ = val) : RoM l y_C_countGeneric b_C_countGeneric 1 (some .int) 0 0 D [(cI, .int), (cZ, .boolean)] [.ref (a 3)] (wC cI cZ a q σ) val :=
  ro_of (by decide) (Nat.le_of_ble_eq_true rfl) (fun p e s m args below meth c ls C0 hP hl => t_C_countGeneric_0 (a := a) C0 hP h (lv_sub hl [0] rfl))
def f_C_directAt (σ : StC) (x1 x2 : Int32) : Option Int32 :=
  if (f_C_isThere σ x1) = 0 then
    some (-1)
  else
    if x2 < 0 then
      some (-1)
    else
      if x1 < 0 ∨ 30 ≤ x1.toNatClampNeg then none else
      if ((C_directCounts σ) x1.toNatClampNeg) ≤ x2 then
        some (-1)
      else
        if ((x1 * 30) + x2) < 0 ∨ 900 ≤ ((x1 * 30) + x2).toNatClampNeg then none else
        some ((C_directs σ) ((x1 * 30) + x2).toNatClampNeg)
set_option maxHeartbeats 4000000 in
set_option maxRecDepth 100000 in
theorem t_C_directAt_0 {p : Program} {l : Launch} {e : Env} {s : State} {m : MethodId} {args : Array Value} {below : List Frame} {meth : Method} {c : Code} {D : va_G} {cI cZ : ClassId} {a : Nat → Nat} {q : Nat} {σ : StC} (C0 : Am p s m args meth c b_C_directAt (some .int) 3 R_C D [(cI, .int), (cZ, .boolean)]) (hP : va_P D vwCl (wC cI cZ a q σ) s.heap) {val : Int32}   {x1 x2 : Int32} (h : f_C_directAt σ x1 x2 = some val) {ls : Array Slot} (hl : lv_has ls 3 [(0, .ref (a 3)), (1, .int x1), (2, .int x2)]) : RoW p l e (rmK 1 21 0 0) s m args below meth c val (F0 m 0 ls []) := by
  obtain ⟨hx, hb, hr, hml, hown, hts, hlk, hK⟩ := id C0
  unfold f_C_directAt at h
  refine lv_aload_n hx hb d_C_directAt_0 rfl (lv_at hl 0 rfl) ?_
  refine lv_iload_n hx hb d_C_directAt_1 rfl (lv_at hl 1 rfl) ?_
  refine ro_V (n := 1) (ci := 1) (As := [.int x1]) (rest := []) C0 (c_C_isThere l D cI cZ a q σ x1 rfl) wd_4 ⟨wd_5, wd_6, wd_7, wd_8⟩ (by decide +kernel) ⟨Nat.le_of_ble_eq_true rfl, Nat.le_of_ble_eq_true rfl⟩ hP rfl rfl rfl hl rfl rfl (Nat.le_of_ble_eq_true rfl) ⟨Nat.zero_le _, Nat.zero_le _⟩ d_C_directAt_2 ?_
  refine lv_if_eq (tgt := 36) hx hb d_C_directAt_5 (by decide) (fun hc => ?_) (fun hc => ?_)
  · rw [if_pos hc] at h
    refine lv_iconst (v := (-1)) hx hb d_C_directAt_36 (by decide) ?_
    exact ro_ret C0 (Option.some.inj h) d_C_directAt_37
  · rw [if_neg hc] at h
    refine lv_iload_n hx hb d_C_directAt_8 rfl (lv_at hl 2 rfl) ?_
    refine lv_if_lt (tgt := 36) hx hb d_C_directAt_9 (by decide) (fun hc => ?_) (fun hc => ?_)
    · rw [if_pos hc] at h
      refine lv_iconst (v := (-1)) hx hb d_C_directAt_36 (by decide) ?_
      exact ro_ret C0 (Option.some.inj h) d_C_directAt_37
    · rw [if_neg hc] at h
      refine lv_iload_n hx hb d_C_directAt_12 rfl (lv_at hl 2 rfl) ?_
      refine lv_aload_n hx hb d_C_directAt_13 rfl (lv_at hl 0 rfl) ?_
      refine va_get (ci := 1) (v := .ref (a 7)) (C := R_C) (T := F_C) (N := 8) hx hb hts i_C hown hK.1 hP 0 rfl rfl 3 (by decide) (hts _ wd_12) (fun _ h9 => h9) rfl d_C_directAt_14 ?_
      refine lv_iload_n hx hb d_C_directAt_17 rfl (lv_at hl 1 rfl) ?_
      replace h := gd h
      obtain ⟨hi, h⟩ := h
      refine va_iald hx hb hK.1 hP 4 0 rfl rfl hi d_C_directAt_18 ?_
      refine lv_icmp_ge (tgt := 36) hx hb d_C_directAt_19 (by decide) (fun hc => ?_) (fun hc => ?_)
      · rw [if_pos hc] at h
        refine lv_iconst (v := (-1)) hx hb d_C_directAt_36 (by decide) ?_
        exact ro_ret C0 (Option.some.inj h) d_C_directAt_37
      · rw [if_neg hc] at h
        refine lv_aload_n hx hb d_C_directAt_22 rfl (lv_at hl 0 rfl) ?_
        refine va_get (ci := 1) (v := .ref (a 8)) (C := R_C) (T := F_C) (N := 8) hx hb hts i_C hown hK.1 hP 0 rfl rfl 4 (by decide) (hts _ wd_10) (fun _ h9 => h9) rfl d_C_directAt_23 ?_
        refine lv_iload_n hx hb d_C_directAt_26 rfl (lv_at hl 1 rfl) ?_
        refine lv_bipush (v := 30) hx hb d_C_directAt_27 (by decide) ?_
        refine lv_imul hx hb d_C_directAt_29 ?_
        refine lv_iload_n hx hb d_C_directAt_30 rfl (lv_at hl 2 rfl) ?_
        refine lv_iadd hx hb d_C_directAt_31 ?_
        replace h := gd h
        obtain ⟨hi, h⟩ := h
        refine va_iald hx hb hK.1 hP 5 0 rfl rfl hi d_C_directAt_32 ?_
        refine lv_goto (tgt := 37) hx hb d_C_directAt_33 (by decide) ?_
        exact ro_ret C0 (Option.some.inj h) d_C_directAt_37
set_option maxHeartbeats 4000000 in
set_option maxRecDepth 100000 in
theorem c_C_directAt (l : Launch) (D : va_G) (cI cZ : ClassId) (a : Nat → Nat) (q : Nat) (σ : StC) (x1 : Int32) (x2 : Int32) {val : Int32} (h : f_C_directAt σ x1 x2 = some val) : RoM l y_C_directAt b_C_directAt 3 (some .int) 1 21 D [(cI, .int), (cZ, .boolean)] [.ref (a 3), .int x1, .int x2] (wC cI cZ a q σ) val :=
  ro_of (by decide) (Nat.le_of_ble_eq_true rfl) (fun p e s m args below meth c ls C0 hP hl => t_C_directAt_0 (a := a) C0 hP h (lv_sub hl [0, 1, 2] rfl))
def f_C_isDirectly_9_s (k9 : StC → Int32 → Int32 → Int32 → Int32 → Option Int32) (σ : StC) (x1 x2 x3 x4 : Int32) : Option Int32 :=
  if x3 ≤ x4 then
    some 0
  else
    (f_C_directAt σ x1 x4).bind fun r2 =>
    if r2 = x2 then
      some 1
    else
      k9 σ x1 x2 x3 (x4 + 1)
def f_C_isDirectly_9 : Nat → StC → Int32 → Int32 → Int32 → Int32 → Option Int32
  | 0, _, _, _, _, _ => none
  | n + 1, σ, x1, x2, x3, x4 => f_C_isDirectly_9_s (f_C_isDirectly_9 n) σ x1 x2 x3 x4
def f_C_isDirectly (σ : StC) (x1 x2 : Int32) : Option Int32 :=
  (f_C_countDirect σ x1).bind fun r1 =>
  f_C_isDirectly_9 1000 σ x1 x2 r1 0
set_option maxHeartbeats 4000000 in
set_option maxRecDepth 100000 in
theorem t_C_isDirectly_9_s {p : Program} {l : Launch} {e : Env} {s : State} {m : MethodId} {args : Array Value} {below : List Frame} {meth : Method} {c : Code} {D : va_G} {cI cZ : ClassId} {a : Nat → Nat} {q : Nat} {σ : StC} (C0 : Am p s m args meth c b_C_isDirectly (some .boolean) 5 R_C D [(cI, .int), (cZ, .boolean)]) (hP : va_P D vwCl (wC cI cZ a q σ) s.heap) {val : Int32} {k9 : StC → Int32 → Int32 → Int32 → Int32 → Option Int32}  (hk9 : ∀ (x1 x2 x3 x4 : Int32) (ls : Array Slot), k9 σ x1 x2 x3 x4 = some val → lv_has ls 5 [(0, .ref (a 3)), (1, .int x1), (2, .int x2), (3, .int x3), (4, .int x4)] → RoW p l e (rmK 2 43 0 0) s m args below meth c val (F0 m 9 ls [])) {x1 x2 x3 x4 : Int32} (h : f_C_isDirectly_9_s k9 σ x1 x2 x3 x4 = some val) {ls : Array Slot} (hl : lv_has ls 5 [(0, .ref (a 3)), (1, .int x1), (2, .int x2), (3, .int x3), (4, .int x4)]) : RoW p l e (rmK 2 43 0 0) s m args below meth c val (F0 m 9 ls []) := by
  obtain ⟨hx, hb, hr, hml, hown, hts, hlk, hK⟩ := id C0
  unfold f_C_isDirectly_9_s at h
  refine lv_iload hx hb d_C_isDirectly_9 (lv_at hl 4 rfl) ?_
  refine lv_iload_n hx hb d_C_isDirectly_11 rfl (lv_at hl 3 rfl) ?_
  refine lv_icmp_ge (tgt := 34) hx hb d_C_isDirectly_12 (by decide) (fun hc => ?_) (fun hc => ?_)
  · rw [if_pos hc] at h
    refine lv_iconst (v := 0) hx hb d_C_isDirectly_34 (by decide) ?_
    exact ro_retz C0 (by decide) (Option.some.inj h) d_C_isDirectly_35
  · rw [if_neg hc] at h
    refine lv_aload_n hx hb d_C_isDirectly_15 rfl (lv_at hl 0 rfl) ?_
    refine lv_iload_n hx hb d_C_isDirectly_16 rfl (lv_at hl 1 rfl) ?_
    refine lv_iload hx hb d_C_isDirectly_17 (lv_at hl 4 rfl) ?_
    replace h := bd h
    obtain ⟨r2, g2, h⟩ := h
    refine ro_V (n := 2) (ci := 1) (As := [.int x1, .int x4]) (rest := []) C0 (c_C_directAt l D cI cZ a q σ x1 x4 g2) wd_67 ⟨wd_68, wd_69, wd_70, wd_8⟩ (by decide +kernel) ⟨Nat.le_of_ble_eq_true rfl, Nat.le_of_ble_eq_true rfl⟩ hP rfl rfl rfl hl rfl rfl (Nat.le_of_ble_eq_true rfl) ⟨Nat.zero_le _, Nat.zero_le _⟩ d_C_isDirectly_19 ?_
    try dsimp only at h
    refine lv_iload_n hx hb d_C_isDirectly_22 rfl (lv_at hl 2 rfl) ?_
    refine lv_icmp_ne (tgt := 28) hx hb d_C_isDirectly_23 (by decide) (fun hc => ?_) (fun hc => ?_)
    · rw [if_neg hc] at h
      refine lv_iinc (v := (x4 + 1)) (lv' := [(4, .int (x4 + 1)), (0, .ref (a 3)), (1, .int x1), (2, .int x2), (3, .int x3)]) hx hb d_C_isDirectly_28 hl (k := 4) rfl rfl (by decide) rfl (fun ls hl => ?_)
      refine lv_goto (tgt := 9) hx hb d_C_isDirectly_31 (by decide) ?_
      exact hk9 _ _ _ _ _ h (lv_sub hl [1, 2, 3, 4, 0] rfl)
    · rw [if_pos hc] at h
      refine lv_iconst (v := 1) hx hb d_C_isDirectly_26 (by decide) ?_
      exact ro_retz C0 (by decide) (Option.some.inj h) d_C_isDirectly_27
set_option maxHeartbeats 4000000 in
set_option maxRecDepth 100000 in
theorem t_C_isDirectly_9 {p : Program} {l : Launch} {e : Env} {s : State} {m : MethodId} {args : Array Value} {below : List Frame} {meth : Method} {c : Code} {D : va_G} {cI cZ : ClassId} {a : Nat → Nat} {q : Nat} {σ : StC} (C0 : Am p s m args meth c b_C_isDirectly (some .boolean) 5 R_C D [(cI, .int), (cZ, .boolean)]) (hP : va_P D vwCl (wC cI cZ a q σ) s.heap) {val : Int32}  {n : Nat} {x1 x2 x3 x4 : Int32} (h : f_C_isDirectly_9  n σ x1 x2 x3 x4 = some val) {ls : Array Slot} (hl : lv_has ls 5 [(0, .ref (a 3)), (1, .int x1), (2, .int x2), (3, .int x3), (4, .int x4)]) : RoW p l e (rmK 2 43 0 0) s m args below meth c val (F0 m 9 ls []) := by
  induction n generalizing x1 x2 x3 x4 ls with
  | zero => cases h
  | succ n ih => exact t_C_isDirectly_9_s (a := a) C0 hP  (fun _ _ _ _ _ h hl => ih h hl) h hl
set_option maxHeartbeats 4000000 in
set_option maxRecDepth 100000 in
theorem t_C_isDirectly_0 {p : Program} {l : Launch} {e : Env} {s : State} {m : MethodId} {args : Array Value} {below : List Frame} {meth : Method} {c : Code} {D : va_G} {cI cZ : ClassId} {a : Nat → Nat} {q : Nat} {σ : StC} (C0 : Am p s m args meth c b_C_isDirectly (some .boolean) 5 R_C D [(cI, .int), (cZ, .boolean)]) (hP : va_P D vwCl (wC cI cZ a q σ) s.heap) {val : Int32}   {x1 x2 : Int32} (h : f_C_isDirectly σ x1 x2 = some val) {ls : Array Slot} (hl : lv_has ls 5 [(0, .ref (a 3)), (1, .int x1), (2, .int x2)]) : RoW p l e (rmK 2 43 0 0) s m args below meth c val (F0 m 0 ls []) := by
  obtain ⟨hx, hb, hr, hml, hown, hts, hlk, hK⟩ := id C0
  unfold f_C_isDirectly at h
  refine lv_aload_n hx hb d_C_isDirectly_0 rfl (lv_at hl 0 rfl) ?_
  refine lv_iload_n hx hb d_C_isDirectly_1 rfl (lv_at hl 1 rfl) ?_
  replace h := bd h
  obtain ⟨r1, g1, h⟩ := h
  refine ro_V (n := 1) (ci := 1) (As := [.int x1]) (rest := []) C0 (c_C_countDirect l D cI cZ a q σ x1 g1) wd_36 ⟨wd_37, wd_38, wd_39, wd_8⟩ (by decide +kernel) ⟨Nat.le_of_ble_eq_true rfl, Nat.le_of_ble_eq_true rfl⟩ hP rfl rfl rfl hl rfl rfl (Nat.le_of_ble_eq_true rfl) ⟨Nat.zero_le _, Nat.zero_le _⟩ d_C_isDirectly_2 ?_
  try dsimp only at h
  refine lv_istore_n (lv' := [(3, .int r1), (0, .ref (a 3)), (1, .int x1), (2, .int x2)]) hx hb d_C_isDirectly_5 rfl hl (by decide) rfl (fun ls hl => ?_)
  refine lv_iconst (v := 0) hx hb d_C_isDirectly_6 (by decide) ?_
  refine lv_istore (lv' := [(4, .int 0), (3, .int r1), (0, .ref (a 3)), (1, .int x1), (2, .int x2)]) hx hb d_C_isDirectly_7 hl (by decide) rfl (fun ls hl => ?_)
  exact t_C_isDirectly_9 (a := a) C0 hP  h (lv_sub hl [2, 3, 4, 1, 0] rfl)
set_option maxHeartbeats 4000000 in
set_option maxRecDepth 100000 in
theorem c_C_isDirectly (l : Launch) (D : va_G) (cI cZ : ClassId) (a : Nat → Nat) (q : Nat) (σ : StC) (x1 : Int32) (x2 : Int32) {val : Int32} (h : f_C_isDirectly σ x1 x2 = some val) : RoM l y_C_isDirectly b_C_isDirectly 5 (some .boolean) 2 43 D [(cI, .int), (cZ, .boolean)] [.ref (a 3), .int x1, .int x2] (wC cI cZ a q σ) val :=
  ro_of (by decide) (Nat.le_of_ble_eq_true rfl) (fun p e s m args below meth c ls C0 hP hl => t_C_isDirectly_0 (a := a) C0 hP h (lv_sub hl [0, 1, 2] rfl))
def f_C_mayGet_55 (σ : StC) (x1 x2 : Int32) : Option Int32 :=
  (f_C_isDirectly σ x2 x1).bind fun r2 =>
  if r2 = 0 then
    some 1
  else
    some 0
def f_C_mayGet_31 (σ : StC) (x1 x2 t0 : Int32) : Option Int32 :=
  if t0 = 0 then
    f_C_mayGet_55 σ x1 x2
  else
    (f_C_isFace σ x2).bind fun r3 =>
    if r3 = 0 then
      (f_C_directAt σ x2 0).bind fun r4 =>
      if r4 = 0 then
        f_C_mayGet_55 σ x1 x2
      else
        some 0
    else
      some 0
def f_C_mayGet (σ : StC) (x1 : Int32) : Option Int32 :=
  if (f_C_newest σ) < 13 then
    some 0
  else
    if x1 = (f_C_newest σ) then
      some 0
    else
      (f_C_isFace σ x1).bind fun r1 =>
      if r1 = 0 then
        f_C_mayGet_31 σ x1 (f_C_newest σ) 1
      else
        f_C_mayGet_31 σ x1 (f_C_newest σ) 0
set_option maxHeartbeats 4000000 in
set_option maxRecDepth 100000 in
theorem t_C_mayGet_55 {p : Program} {l : Launch} {e : Env} {s : State} {m : MethodId} {args : Array Value} {below : List Frame} {meth : Method} {c : Code} {D : va_G} {cI cZ : ClassId} {a : Nat → Nat} {q : Nat} {σ : StC} (C0 : Am p s m args meth c b_C_mayGet (some .boolean) 4 R_C D [(cI, .int), (cZ, .boolean)]) (hP : va_P D vwCl (wC cI cZ a q σ) s.heap) {val : Int32}   {x1 x2 : Int32} (h : f_C_mayGet_55 σ x1 x2 = some val) {ls : Array Slot} (hl : lv_has ls 4 [(0, .ref (a 3)), (1, .int x1), (2, .int x2)]) : RoW p l e (rmK 3 67 0 0) s m args below meth c val (F0 m 55 ls []) := by
  obtain ⟨hx, hb, hr, hml, hown, hts, hlk, hK⟩ := id C0
  unfold f_C_mayGet_55 at h
  refine lv_aload_n hx hb d_C_mayGet_55 rfl (lv_at hl 0 rfl) ?_
  refine lv_iload_n hx hb d_C_mayGet_56 rfl (lv_at hl 2 rfl) ?_
  refine lv_iload_n hx hb d_C_mayGet_57 rfl (lv_at hl 1 rfl) ?_
  replace h := bd h
  obtain ⟨r2, g2, h⟩ := h
  refine ro_V (n := 2) (ci := 1) (As := [.int x2, .int x1]) (rest := []) C0 (c_C_isDirectly l D cI cZ a q σ x2 x1 g2) wd_71 ⟨wd_72, wd_73, wd_74, wd_8⟩ (by decide +kernel) ⟨Nat.le_of_ble_eq_true rfl, Nat.le_of_ble_eq_true rfl⟩ hP rfl rfl rfl hl rfl rfl (Nat.le_of_ble_eq_true rfl) ⟨Nat.zero_le _, Nat.zero_le _⟩ d_C_mayGet_58 ?_
  try dsimp only at h
  refine lv_if_ne (tgt := 68) hx hb d_C_mayGet_61 (by decide) (fun hc => ?_) (fun hc => ?_)
  · rw [if_neg hc] at h
    refine lv_iconst (v := 0) hx hb d_C_mayGet_68 (by decide) ?_
    exact ro_retz C0 (by decide) (Option.some.inj h) d_C_mayGet_69
  · rw [if_pos hc] at h
    refine lv_iconst (v := 1) hx hb d_C_mayGet_64 (by decide) ?_
    refine lv_goto (tgt := 69) hx hb d_C_mayGet_65 (by decide) ?_
    exact ro_retz C0 (by decide) (Option.some.inj h) d_C_mayGet_69
set_option maxHeartbeats 4000000 in
set_option maxRecDepth 100000 in
theorem t_C_mayGet_31 {p : Program} {l : Launch} {e : Env} {s : State} {m : MethodId} {args : Array Value} {below : List Frame} {meth : Method} {c : Code} {D : va_G} {cI cZ : ClassId} {a : Nat → Nat} {q : Nat} {σ : StC} (C0 : Am p s m args meth c b_C_mayGet (some .boolean) 4 R_C D [(cI, .int), (cZ, .boolean)]) (hP : va_P D vwCl (wC cI cZ a q σ) s.heap) {val : Int32}   {x1 x2 t0 : Int32} (h : f_C_mayGet_31 σ x1 x2 t0 = some val) {ls : Array Slot} (hl : lv_has ls 4 [(0, .ref (a 3)), (1, .int x1), (2, .int x2)]) : RoW p l e (rmK 3 67 0 0) s m args below meth c val (F0 m 31 ls [.int t0]) := by
  obtain ⟨hx, hb, hr, hml, hown, hts, hlk, hK⟩ := id C0
  unfold f_C_mayGet_31 at h
  refine lv_istore_n (lv' := [(3, .int t0), (0, .ref (a 3)), (1, .int x1), (2, .int x2)]) hx hb d_C_mayGet_31 rfl hl (by decide) rfl (fun ls hl => ?_)
  refine lv_iload_n hx hb d_C_mayGet_32 rfl (lv_at hl 0 rfl) ?_
  refine lv_if_eq (tgt := 55) hx hb d_C_mayGet_33 (by decide) (fun hc => ?_) (fun hc => ?_)
  · rw [if_pos hc] at h
    exact t_C_mayGet_55 (a := a) C0 hP  h (lv_sub hl [1, 2, 3] rfl)
  · rw [if_neg hc] at h
    refine lv_aload_n hx hb d_C_mayGet_36 rfl (lv_at hl 1 rfl) ?_
    refine lv_iload_n hx hb d_C_mayGet_37 rfl (lv_at hl 3 rfl) ?_
    replace h := bd h
    obtain ⟨r3, g3, h⟩ := h
    refine ro_V (n := 1) (ci := 1) (As := [.int x2]) (rest := []) C0 (c_C_isFace l D cI cZ a q σ x2 g3) wd_32 ⟨wd_33, wd_34, wd_35, wd_8⟩ (by decide +kernel) ⟨Nat.le_of_ble_eq_true rfl, Nat.le_of_ble_eq_true rfl⟩ hP rfl rfl rfl hl rfl rfl (Nat.le_of_ble_eq_true rfl) ⟨Nat.zero_le _, Nat.zero_le _⟩ d_C_mayGet_38 ?_
    try dsimp only at h
    refine lv_if_ne (tgt := 53) hx hb d_C_mayGet_41 (by decide) (fun hc => ?_) (fun hc => ?_)
    · rw [if_neg hc] at h
      refine lv_iconst (v := 0) hx hb d_C_mayGet_53 (by decide) ?_
      exact ro_retz C0 (by decide) (Option.some.inj h) d_C_mayGet_54
    · rw [if_pos hc] at h
      refine lv_aload_n hx hb d_C_mayGet_44 rfl (lv_at hl 1 rfl) ?_
      refine lv_iload_n hx hb d_C_mayGet_45 rfl (lv_at hl 3 rfl) ?_
      refine lv_iconst (v := 0) hx hb d_C_mayGet_46 (by decide) ?_
      replace h := bd h
      obtain ⟨r4, g4, h⟩ := h
      refine ro_V (n := 2) (ci := 1) (As := [.int x2, .int 0]) (rest := []) C0 (c_C_directAt l D cI cZ a q σ x2 0 g4) wd_67 ⟨wd_68, wd_69, wd_70, wd_8⟩ (by decide +kernel) ⟨Nat.le_of_ble_eq_true rfl, Nat.le_of_ble_eq_true rfl⟩ hP rfl rfl rfl hl rfl rfl (Nat.le_of_ble_eq_true rfl) ⟨Nat.zero_le _, Nat.zero_le _⟩ d_C_mayGet_47 ?_
      try dsimp only at h
      refine lv_if_eq (tgt := 55) hx hb d_C_mayGet_50 (by decide) (fun hc => ?_) (fun hc => ?_)
      · rw [if_pos hc] at h
        exact t_C_mayGet_55 (a := a) C0 hP  h (lv_sub hl [1, 2, 3] rfl)
      · rw [if_neg hc] at h
        refine lv_iconst (v := 0) hx hb d_C_mayGet_53 (by decide) ?_
        exact ro_retz C0 (by decide) (Option.some.inj h) d_C_mayGet_54
set_option maxHeartbeats 4000000 in
set_option maxRecDepth 100000 in
theorem t_C_mayGet_0 {p : Program} {l : Launch} {e : Env} {s : State} {m : MethodId} {args : Array Value} {below : List Frame} {meth : Method} {c : Code} {D : va_G} {cI cZ : ClassId} {a : Nat → Nat} {q : Nat} {σ : StC} (C0 : Am p s m args meth c b_C_mayGet (some .boolean) 4 R_C D [(cI, .int), (cZ, .boolean)]) (hP : va_P D vwCl (wC cI cZ a q σ) s.heap) {val : Int32}   {x1 : Int32} (h : f_C_mayGet σ x1 = some val) {ls : Array Slot} (hl : lv_has ls 4 [(0, .ref (a 3)), (1, .int x1)]) : RoW p l e (rmK 3 67 0 0) s m args below meth c val (F0 m 0 ls []) := by
  obtain ⟨hx, hb, hr, hml, hown, hts, hlk, hK⟩ := id C0
  unfold f_C_mayGet at h
  refine lv_aload_n hx hb d_C_mayGet_0 rfl (lv_at hl 0 rfl) ?_
  refine ro_V (n := 0) (ci := 1) (As := []) (rest := []) C0 (c_C_newest l D cI cZ a q σ rfl) wd_28 ⟨wd_29, wd_30, wd_31, wd_8⟩ (by decide +kernel) ⟨Nat.le_of_ble_eq_true rfl, Nat.le_of_ble_eq_true rfl⟩ hP rfl rfl rfl hl rfl rfl (Nat.le_of_ble_eq_true rfl) ⟨Nat.zero_le _, Nat.zero_le _⟩ d_C_mayGet_1 ?_
  refine lv_istore_n (lv' := [(2, .int (f_C_newest σ)), (0, .ref (a 3)), (1, .int x1)]) hx hb d_C_mayGet_4 rfl hl (by decide) rfl (fun ls hl => ?_)
  refine lv_iload_n hx hb d_C_mayGet_5 rfl (lv_at hl 0 rfl) ?_
  refine lv_bipush (v := 13) hx hb d_C_mayGet_6 (by decide) ?_
  refine lv_icmp_lt (tgt := 16) hx hb d_C_mayGet_8 (by decide) (fun hc => ?_) (fun hc => ?_)
  · rw [if_pos hc] at h
    refine lv_iconst (v := 0) hx hb d_C_mayGet_16 (by decide) ?_
    exact ro_retz C0 (by decide) (Option.some.inj h) d_C_mayGet_17
  · rw [if_neg hc] at h
    refine lv_iload_n hx hb d_C_mayGet_11 rfl (lv_at hl 2 rfl) ?_
    refine lv_iload_n hx hb d_C_mayGet_12 rfl (lv_at hl 0 rfl) ?_
    refine lv_icmp_ne (tgt := 18) hx hb d_C_mayGet_13 (by decide) (fun hc => ?_) (fun hc => ?_)
    · rw [if_neg hc] at h
      refine lv_aload_n hx hb d_C_mayGet_18 rfl (lv_at hl 1 rfl) ?_
      refine lv_iload_n hx hb d_C_mayGet_19 rfl (lv_at hl 2 rfl) ?_
      replace h := bd h
      obtain ⟨r1, g1, h⟩ := h
      refine ro_V (n := 1) (ci := 1) (As := [.int x1]) (rest := []) C0 (c_C_isFace l D cI cZ a q σ x1 g1) wd_32 ⟨wd_33, wd_34, wd_35, wd_8⟩ (by decide +kernel) ⟨Nat.le_of_ble_eq_true rfl, Nat.le_of_ble_eq_true rfl⟩ hP rfl rfl rfl hl rfl rfl (Nat.le_of_ble_eq_true rfl) ⟨Nat.zero_le _, Nat.zero_le _⟩ d_C_mayGet_20 ?_
      try dsimp only at h
      refine lv_if_ne (tgt := 30) hx hb d_C_mayGet_23 (by decide) (fun hc => ?_) (fun hc => ?_)
      · rw [if_neg hc] at h
        refine lv_iconst (v := 0) hx hb d_C_mayGet_30 (by decide) ?_
        exact t_C_mayGet_31 (a := a) C0 hP  h (lv_sub hl [1, 2, 0] rfl)
      · rw [if_pos hc] at h
        refine lv_iconst (v := 1) hx hb d_C_mayGet_26 (by decide) ?_
        refine lv_goto (tgt := 31) hx hb d_C_mayGet_27 (by decide) ?_
        exact t_C_mayGet_31 (a := a) C0 hP  h (lv_sub hl [1, 2, 0] rfl)
    · rw [if_pos hc] at h
      refine lv_iconst (v := 0) hx hb d_C_mayGet_16 (by decide) ?_
      exact ro_retz C0 (by decide) (Option.some.inj h) d_C_mayGet_17
set_option maxHeartbeats 4000000 in
set_option maxRecDepth 100000 in
theorem c_C_mayGet (l : Launch) (D : va_G) (cI cZ : ClassId) (a : Nat → Nat) (q : Nat) (σ : StC) (x1 : Int32) {val : Int32} (h : f_C_mayGet σ x1 = some val) : RoM l y_C_mayGet b_C_mayGet 4 (some .boolean) 3 67 D [(cI, .int), (cZ, .boolean)] [.ref (a 3), .int x1] (wC cI cZ a q σ) val :=
  ro_of (by decide) (Nat.le_of_ble_eq_true rfl) (fun p e s m args below meth c ls C0 hP hl => t_C_mayGet_0 (a := a) C0 hP h (lv_sub hl [0, 1] rfl))
def f_C_isGeneric (σ : StC) (x1 : Int32) : Option Int32 :=
  if (f_C_isThere σ x1) = 0 then
    some 0
  else
    if x1 < 0 ∨ 30 ≤ x1.toNatClampNeg then none else
    if ((C_generics σ) x1.toNatClampNeg) = 0 then
      some 0
    else
      some 1
set_option maxHeartbeats 4000000 in
set_option maxRecDepth 100000 in
theorem t_C_isGeneric_0 {p : Program} {l : Launch} {e : Env} {s : State} {m : MethodId} {args : Array Value} {below : List Frame} {meth : Method} {c : Code} {D : va_G} {cI cZ : ClassId} {a : Nat → Nat} {q : Nat} {σ : StC} (C0 : Am p s m args meth c b_C_isGeneric (some .boolean) 2 R_C D [(cI, .int), (cZ, .boolean)]) (hP : va_P D vwCl (wC cI cZ a q σ) s.heap) {val : Int32}   {x1 : Int32} (h : f_C_isGeneric σ x1 = some val) {ls : Array Slot} (hl : lv_has ls 2 [(0, .ref (a 3)), (1, .int x1)]) : RoW p l e (rmK 1 21 0 0) s m args below meth c val (F0 m 0 ls []) := by
  obtain ⟨hx, hb, hr, hml, hown, hts, hlk, hK⟩ := id C0
  unfold f_C_isGeneric at h
  refine lv_aload_n hx hb d_C_isGeneric_0 rfl (lv_at hl 0 rfl) ?_
  refine lv_iload_n hx hb d_C_isGeneric_1 rfl (lv_at hl 1 rfl) ?_
  refine ro_V (n := 1) (ci := 1) (As := [.int x1]) (rest := []) C0 (c_C_isThere l D cI cZ a q σ x1 rfl) wd_4 ⟨wd_5, wd_6, wd_7, wd_8⟩ (by decide +kernel) ⟨Nat.le_of_ble_eq_true rfl, Nat.le_of_ble_eq_true rfl⟩ hP rfl rfl rfl hl rfl rfl (Nat.le_of_ble_eq_true rfl) ⟨Nat.zero_le _, Nat.zero_le _⟩ d_C_isGeneric_2 ?_
  refine lv_if_eq (tgt := 21) hx hb d_C_isGeneric_5 (by decide) (fun hc => ?_) (fun hc => ?_)
  · rw [if_pos hc] at h
    refine lv_iconst (v := 0) hx hb d_C_isGeneric_21 (by decide) ?_
    exact ro_retz C0 (by decide) (Option.some.inj h) d_C_isGeneric_22
  · rw [if_neg hc] at h
    refine lv_aload_n hx hb d_C_isGeneric_8 rfl (lv_at hl 0 rfl) ?_
    refine va_get (ci := 1) (v := .ref (a 5)) (C := R_C) (T := F_C) (N := 8) hx hb hts i_C hown hK.1 hP 0 rfl rfl 1 (by decide) (hts _ wd_22) (fun _ h9 => h9) rfl d_C_isGeneric_9 ?_
    refine lv_iload_n hx hb d_C_isGeneric_12 rfl (lv_at hl 1 rfl) ?_
    replace h := gd h
    obtain ⟨hi, h⟩ := h
    refine va_zald hx hb hK.1 hP 2 1 rfl rfl hi d_C_isGeneric_13 ?_
    refine lv_if_eq (tgt := 21) hx hb d_C_isGeneric_14 (by decide) (fun hc => ?_) (fun hc => ?_)
    · rw [if_pos hc] at h
      refine lv_iconst (v := 0) hx hb d_C_isGeneric_21 (by decide) ?_
      exact ro_retz C0 (by decide) (Option.some.inj h) d_C_isGeneric_22
    · rw [if_neg hc] at h
      refine lv_iconst (v := 1) hx hb d_C_isGeneric_17 (by decide) ?_
      refine lv_goto (tgt := 22) hx hb d_C_isGeneric_18 (by decide) ?_
      exact ro_retz C0 (by decide) (Option.some.inj h) d_C_isGeneric_22
set_option maxHeartbeats 4000000 in
set_option maxRecDepth 100000 in
theorem c_C_isGeneric (l : Launch) (D : va_G) (cI cZ : ClassId) (a : Nat → Nat) (q : Nat) (σ : StC) (x1 : Int32) {val : Int32} (h : f_C_isGeneric σ x1 = some val) : RoM l y_C_isGeneric b_C_isGeneric 2 (some .boolean) 1 21 D [(cI, .int), (cZ, .boolean)] [.ref (a 3), .int x1] (wC cI cZ a q σ) val :=
  ro_of (by decide) (Nat.le_of_ble_eq_true rfl) (fun p e s m args below meth c ls C0 hP hl => t_C_isGeneric_0 (a := a) C0 hP h (lv_sub hl [0, 1] rfl))
def f_C_aboveOf (σ : StC) (x1 : Int32) : Option Int32 :=
  if (f_C_isThere σ x1) = 0 then
    some 0
  else
    if x1 < 0 ∨ 30 ≤ x1.toNatClampNeg then none else
    some ((C_above σ) x1.toNatClampNeg)
set_option maxHeartbeats 4000000 in
set_option maxRecDepth 100000 in
theorem t_C_aboveOf_0 {p : Program} {l : Launch} {e : Env} {s : State} {m : MethodId} {args : Array Value} {below : List Frame} {meth : Method} {c : Code} {D : va_G} {cI cZ : ClassId} {a : Nat → Nat} {q : Nat} {σ : StC} (C0 : Am p s m args meth c b_C_aboveOf (some .int) 2 R_C D [(cI, .int), (cZ, .boolean)]) (hP : va_P D vwCl (wC cI cZ a q σ) s.heap) {val : Int32}   {x1 : Int32} (h : f_C_aboveOf σ x1 = some val) {ls : Array Slot} (hl : lv_has ls 2 [(0, .ref (a 3)), (1, .int x1)]) : RoW p l e (rmK 1 21 0 0) s m args below meth c val (F0 m 0 ls []) := by
  obtain ⟨hx, hb, hr, hml, hown, hts, hlk, hK⟩ := id C0
  unfold f_C_aboveOf at h
  refine lv_aload_n hx hb d_C_aboveOf_0 rfl (lv_at hl 0 rfl) ?_
  refine lv_iload_n hx hb d_C_aboveOf_1 rfl (lv_at hl 1 rfl) ?_
  refine ro_V (n := 1) (ci := 1) (As := [.int x1]) (rest := []) C0 (c_C_isThere l D cI cZ a q σ x1 rfl) wd_4 ⟨wd_5, wd_6, wd_7, wd_8⟩ (by decide +kernel) ⟨Nat.le_of_ble_eq_true rfl, Nat.le_of_ble_eq_true rfl⟩ hP rfl rfl rfl hl rfl rfl (Nat.le_of_ble_eq_true rfl) ⟨Nat.zero_le _, Nat.zero_le _⟩ d_C_aboveOf_2 ?_
  refine lv_if_eq (tgt := 17) hx hb d_C_aboveOf_5 (by decide) (fun hc => ?_) (fun hc => ?_)
  · rw [if_pos hc] at h
    refine lv_iconst (v := 0) hx hb d_C_aboveOf_17 (by decide) ?_
    exact ro_ret C0 (Option.some.inj h) d_C_aboveOf_18
  · rw [if_neg hc] at h
    refine lv_aload_n hx hb d_C_aboveOf_8 rfl (lv_at hl 0 rfl) ?_
    refine va_get (ci := 1) (v := .ref (a 6)) (C := R_C) (T := F_C) (N := 8) hx hb hts i_C hown hK.1 hP 0 rfl rfl 2 (by decide) (hts _ wd_9) (fun _ h9 => h9) rfl d_C_aboveOf_9 ?_
    refine lv_iload_n hx hb d_C_aboveOf_12 rfl (lv_at hl 1 rfl) ?_
    replace h := gd h
    obtain ⟨hi, h⟩ := h
    refine va_iald hx hb hK.1 hP 3 0 rfl rfl hi d_C_aboveOf_13 ?_
    refine lv_goto (tgt := 18) hx hb d_C_aboveOf_14 (by decide) ?_
    exact ro_ret C0 (Option.some.inj h) d_C_aboveOf_18
set_option maxHeartbeats 4000000 in
set_option maxRecDepth 100000 in
theorem c_C_aboveOf (l : Launch) (D : va_G) (cI cZ : ClassId) (a : Nat → Nat) (q : Nat) (σ : StC) (x1 : Int32) {val : Int32} (h : f_C_aboveOf σ x1 = some val) : RoM l y_C_aboveOf b_C_aboveOf 2 (some .int) 1 21 D [(cI, .int), (cZ, .boolean)] [.ref (a 3), .int x1] (wC cI cZ a q σ) val :=
  ro_of (by decide) (Nat.le_of_ble_eq_true rfl) (fun p e s m args below meth c ls C0 hP hl => t_C_aboveOf_0 (a := a) C0 hP h (lv_sub hl [0, 1] rfl))
def f_C_firstToward_12_s (k12 : StC → Int32 → Int32 → Int32 → Option Int32) (σ : StC) (x1 x2 x3 : Int32) : Option Int32 :=
  if x1 < 0 ∨ 30 ≤ x1.toNatClampNeg then none else
  if ((C_directCounts σ) x1.toNatClampNeg) ≤ x3 then
    some (-1)
  else
    if ((x1 * 30) + x3) < 0 ∨ 900 ≤ ((x1 * 30) + x3).toNatClampNeg then none else
    if ((C_directs σ) ((x1 * 30) + x3).toNatClampNeg) = x2 then
      some x3
    else
      if (f_C_isThere σ ((C_directs σ) ((x1 * 30) + x3).toNatClampNeg)) = 0 then
        k12 σ x1 x2 (x3 + 1)
      else
        if ((C_directs σ) ((x1 * 30) + x3).toNatClampNeg) < 0 ∨ 30 ≤ ((C_directs σ) ((x1 * 30) + x3).toNatClampNeg).toNatClampNeg then none else
        if (f_L_has ((C_above σ) ((C_directs σ) ((x1 * 30) + x3).toNatClampNeg).toNatClampNeg) x2) = 0 then
          k12 σ x1 x2 (x3 + 1)
        else
          some x3
def f_C_firstToward_12 : Nat → StC → Int32 → Int32 → Int32 → Option Int32
  | 0, _, _, _, _ => none
  | n + 1, σ, x1, x2, x3 => f_C_firstToward_12_s (f_C_firstToward_12 n) σ x1 x2 x3
def f_C_firstToward (σ : StC) (x1 x2 : Int32) : Option Int32 :=
  if (f_C_isThere σ x1) = 0 then
    some (-1)
  else
    f_C_firstToward_12 1000 σ x1 x2 0
set_option maxHeartbeats 4000000 in
set_option maxRecDepth 100000 in
theorem t_C_firstToward_12_s {p : Program} {l : Launch} {e : Env} {s : State} {m : MethodId} {args : Array Value} {below : List Frame} {meth : Method} {c : Code} {D : va_G} {cI cZ : ClassId} {a : Nat → Nat} {q : Nat} {σ : StC} (C0 : Am p s m args meth c b_C_firstToward (some .int) 5 R_C D [(cI, .int), (cZ, .boolean)]) (hP : va_P D vwCl (wC cI cZ a q σ) s.heap) {val : Int32} {k12 : StC → Int32 → Int32 → Int32 → Option Int32}  (hk12 : ∀ (x1 x2 x3 : Int32) (ls : Array Slot), k12 σ x1 x2 x3 = some val → lv_has ls 5 [(0, .ref (a 3)), (1, .int x1), (2, .int x2), (3, .int x3)] → RoW p l e (rmK 1 21 0 0) s m args below meth c val (F0 m 12 ls [])) {x1 x2 x3 : Int32} (h : f_C_firstToward_12_s k12 σ x1 x2 x3 = some val) {ls : Array Slot} (hl : lv_has ls 5 [(0, .ref (a 3)), (1, .int x1), (2, .int x2), (3, .int x3)]) : RoW p l e (rmK 1 21 0 0) s m args below meth c val (F0 m 12 ls []) := by
  obtain ⟨hx, hb, hr, hml, hown, hts, hlk, hK⟩ := id C0
  unfold f_C_firstToward_12_s at h
  refine lv_iload_n hx hb d_C_firstToward_12 rfl (lv_at hl 3 rfl) ?_
  refine lv_aload_n hx hb d_C_firstToward_13 rfl (lv_at hl 0 rfl) ?_
  refine va_get (ci := 1) (v := .ref (a 7)) (C := R_C) (T := F_C) (N := 8) hx hb hts i_C hown hK.1 hP 0 rfl rfl 3 (by decide) (hts _ wd_12) (fun _ h9 => h9) rfl d_C_firstToward_14 ?_
  refine lv_iload_n hx hb d_C_firstToward_17 rfl (lv_at hl 1 rfl) ?_
  replace h := gd h
  obtain ⟨hi, h⟩ := h
  refine va_iald hx hb hK.1 hP 4 0 rfl rfl hi d_C_firstToward_18 ?_
  refine lv_icmp_ge (tgt := 72) hx hb d_C_firstToward_19 (by decide) (fun hc => ?_) (fun hc => ?_)
  · rw [if_pos hc] at h
    refine lv_iconst (v := (-1)) hx hb d_C_firstToward_72 (by decide) ?_
    exact ro_ret C0 (Option.some.inj h) d_C_firstToward_73
  · rw [if_neg hc] at h
    refine lv_aload_n hx hb d_C_firstToward_22 rfl (lv_at hl 0 rfl) ?_
    refine va_get (ci := 1) (v := .ref (a 8)) (C := R_C) (T := F_C) (N := 8) hx hb hts i_C hown hK.1 hP 0 rfl rfl 4 (by decide) (hts _ wd_10) (fun _ h9 => h9) rfl d_C_firstToward_23 ?_
    refine lv_iload_n hx hb d_C_firstToward_26 rfl (lv_at hl 1 rfl) ?_
    refine lv_bipush (v := 30) hx hb d_C_firstToward_27 (by decide) ?_
    refine lv_imul hx hb d_C_firstToward_29 ?_
    refine lv_iload_n hx hb d_C_firstToward_30 rfl (lv_at hl 3 rfl) ?_
    refine lv_iadd hx hb d_C_firstToward_31 ?_
    replace h := gd h
    obtain ⟨hi, h⟩ := h
    refine va_iald hx hb hK.1 hP 5 0 rfl rfl hi d_C_firstToward_32 ?_
    refine lv_istore (lv' := [(4, .int ((C_directs σ) ((x1 * 30) + x3).toNatClampNeg)), (0, .ref (a 3)), (1, .int x1), (2, .int x2), (3, .int x3)]) hx hb d_C_firstToward_33 hl (by decide) rfl (fun ls hl => ?_)
    refine lv_iload hx hb d_C_firstToward_35 (lv_at hl 0 rfl) ?_
    refine lv_iload_n hx hb d_C_firstToward_37 rfl (lv_at hl 3 rfl) ?_
    refine lv_icmp_eq (tgt := 64) hx hb d_C_firstToward_38 (by decide) (fun hc => ?_) (fun hc => ?_)
    · rw [if_pos hc] at h
      refine lv_iload_n hx hb d_C_firstToward_64 rfl (lv_at hl 4 rfl) ?_
      exact ro_ret C0 (Option.some.inj h) d_C_firstToward_65
    · rw [if_neg hc] at h
      refine lv_aload_n hx hb d_C_firstToward_41 rfl (lv_at hl 1 rfl) ?_
      refine lv_iload hx hb d_C_firstToward_42 (lv_at hl 0 rfl) ?_
      refine ro_V (n := 1) (ci := 1) (As := [.int ((C_directs σ) ((x1 * 30) + x3).toNatClampNeg)]) (rest := []) C0 (c_C_isThere l D cI cZ a q σ ((C_directs σ) ((x1 * 30) + x3).toNatClampNeg) rfl) wd_4 ⟨wd_5, wd_6, wd_7, wd_8⟩ (by decide +kernel) ⟨Nat.le_of_ble_eq_true rfl, Nat.le_of_ble_eq_true rfl⟩ hP rfl rfl rfl hl rfl rfl (Nat.le_of_ble_eq_true rfl) ⟨Nat.zero_le _, Nat.zero_le _⟩ d_C_firstToward_44 ?_
      refine lv_if_eq (tgt := 66) hx hb d_C_firstToward_47 (by decide) (fun hc => ?_) (fun hc => ?_)
      · rw [if_pos hc] at h
        refine lv_iinc (v := (x3 + 1)) (lv' := [(3, .int (x3 + 1)), (4, .int ((C_directs σ) ((x1 * 30) + x3).toNatClampNeg)), (0, .ref (a 3)), (1, .int x1), (2, .int x2)]) hx hb d_C_firstToward_66 hl (k := 4) rfl rfl (by decide) rfl (fun ls hl => ?_)
        refine lv_goto (tgt := 12) hx hb d_C_firstToward_69 (by decide) ?_
        exact hk12 _ _ _ _ h (lv_sub hl [2, 3, 4, 0] rfl)
      · rw [if_neg hc] at h
        refine lv_aload_n hx hb d_C_firstToward_50 rfl (lv_at hl 1 rfl) ?_
        refine va_get (ci := 1) (v := .ref (a 6)) (C := R_C) (T := F_C) (N := 8) hx hb hts i_C hown hK.1 hP 0 rfl rfl 2 (by decide) (hts _ wd_9) (fun _ h9 => h9) rfl d_C_firstToward_51 ?_
        refine lv_iload hx hb d_C_firstToward_54 (lv_at hl 0 rfl) ?_
        replace h := gd h
        obtain ⟨hi, h⟩ := h
        refine va_iald hx hb hK.1 hP 3 0 rfl rfl hi d_C_firstToward_56 ?_
        refine lv_iload_n hx hb d_C_firstToward_57 rfl (lv_at hl 3 rfl) ?_
        refine ro_SN (n := 2) (As := [.int ((C_above σ) ((C_directs σ) ((x1 * 30) + x3).toNatClampNeg).toNatClampNeg), .int x2]) (rest := []) C0 (c_L_has l D cI cZ a ((C_above σ) ((C_directs σ) ((x1 * 30) + x3).toNatClampNeg).toNatClampNeg) x2 rfl) (List.mem_of_getElem? (i := 3) rfl) ⟨wd_75, wd_76, wd_55⟩ (by decide +kernel) ⟨Nat.le_of_ble_eq_true rfl, Nat.le_of_ble_eq_true rfl⟩ pnil hl rfl rfl (Nat.le_of_ble_eq_true rfl) ⟨Nat.zero_le _, Nat.zero_le _⟩ d_C_firstToward_58 ?_
        refine lv_if_eq (tgt := 66) hx hb d_C_firstToward_61 (by decide) (fun hc => ?_) (fun hc => ?_)
        · rw [if_pos hc] at h
          refine lv_iinc (v := (x3 + 1)) (lv' := [(3, .int (x3 + 1)), (4, .int ((C_directs σ) ((x1 * 30) + x3).toNatClampNeg)), (0, .ref (a 3)), (1, .int x1), (2, .int x2)]) hx hb d_C_firstToward_66 hl (k := 4) rfl rfl (by decide) rfl (fun ls hl => ?_)
          refine lv_goto (tgt := 12) hx hb d_C_firstToward_69 (by decide) ?_
          exact hk12 _ _ _ _ h (lv_sub hl [2, 3, 4, 0] rfl)
        · rw [if_neg hc] at h
          refine lv_iload_n hx hb d_C_firstToward_64 rfl (lv_at hl 4 rfl) ?_
          exact ro_ret C0 (Option.some.inj h) d_C_firstToward_65
set_option maxHeartbeats 4000000 in
set_option maxRecDepth 100000 in
theorem t_C_firstToward_12 {p : Program} {l : Launch} {e : Env} {s : State} {m : MethodId} {args : Array Value} {below : List Frame} {meth : Method} {c : Code} {D : va_G} {cI cZ : ClassId} {a : Nat → Nat} {q : Nat} {σ : StC} (C0 : Am p s m args meth c b_C_firstToward (some .int) 5 R_C D [(cI, .int), (cZ, .boolean)]) (hP : va_P D vwCl (wC cI cZ a q σ) s.heap) {val : Int32}  {n : Nat} {x1 x2 x3 : Int32} (h : f_C_firstToward_12  n σ x1 x2 x3 = some val) {ls : Array Slot} (hl : lv_has ls 5 [(0, .ref (a 3)), (1, .int x1), (2, .int x2), (3, .int x3)]) : RoW p l e (rmK 1 21 0 0) s m args below meth c val (F0 m 12 ls []) := by
  induction n generalizing x1 x2 x3 ls with
  | zero => cases h
  | succ n ih => exact t_C_firstToward_12_s (a := a) C0 hP  (fun _ _ _ _ h hl => ih h hl) h hl
set_option maxHeartbeats 4000000 in
set_option maxRecDepth 100000 in
theorem t_C_firstToward_0 {p : Program} {l : Launch} {e : Env} {s : State} {m : MethodId} {args : Array Value} {below : List Frame} {meth : Method} {c : Code} {D : va_G} {cI cZ : ClassId} {a : Nat → Nat} {q : Nat} {σ : StC} (C0 : Am p s m args meth c b_C_firstToward (some .int) 5 R_C D [(cI, .int), (cZ, .boolean)]) (hP : va_P D vwCl (wC cI cZ a q σ) s.heap) {val : Int32}   {x1 x2 : Int32} (h : f_C_firstToward σ x1 x2 = some val) {ls : Array Slot} (hl : lv_has ls 5 [(0, .ref (a 3)), (1, .int x1), (2, .int x2)]) : RoW p l e (rmK 1 21 0 0) s m args below meth c val (F0 m 0 ls []) := by
  obtain ⟨hx, hb, hr, hml, hown, hts, hlk, hK⟩ := id C0
  unfold f_C_firstToward at h
  refine lv_aload_n hx hb d_C_firstToward_0 rfl (lv_at hl 0 rfl) ?_
  refine lv_iload_n hx hb d_C_firstToward_1 rfl (lv_at hl 1 rfl) ?_
  refine ro_V (n := 1) (ci := 1) (As := [.int x1]) (rest := []) C0 (c_C_isThere l D cI cZ a q σ x1 rfl) wd_4 ⟨wd_5, wd_6, wd_7, wd_8⟩ (by decide +kernel) ⟨Nat.le_of_ble_eq_true rfl, Nat.le_of_ble_eq_true rfl⟩ hP rfl rfl rfl hl rfl rfl (Nat.le_of_ble_eq_true rfl) ⟨Nat.zero_le _, Nat.zero_le _⟩ d_C_firstToward_2 ?_
  refine lv_if_ne (tgt := 10) hx hb d_C_firstToward_5 (by decide) (fun hc => ?_) (fun hc => ?_)
  · rw [if_neg hc] at h
    refine lv_iconst (v := 0) hx hb d_C_firstToward_10 (by decide) ?_
    refine lv_istore_n (lv' := [(3, .int 0), (0, .ref (a 3)), (1, .int x1), (2, .int x2)]) hx hb d_C_firstToward_11 rfl hl (by decide) rfl (fun ls hl => ?_)
    exact t_C_firstToward_12 (a := a) C0 hP  h (lv_sub hl [1, 2, 3, 0] rfl)
  · rw [if_pos hc] at h
    refine lv_iconst (v := (-1)) hx hb d_C_firstToward_8 (by decide) ?_
    exact ro_ret C0 (Option.some.inj h) d_C_firstToward_9
set_option maxHeartbeats 4000000 in
set_option maxRecDepth 100000 in
theorem c_C_firstToward (l : Launch) (D : va_G) (cI cZ : ClassId) (a : Nat → Nat) (q : Nat) (σ : StC) (x1 : Int32) (x2 : Int32) {val : Int32} (h : f_C_firstToward σ x1 x2 = some val) : RoM l y_C_firstToward b_C_firstToward 5 (some .int) 1 21 D [(cI, .int), (cZ, .boolean)] [.ref (a 3), .int x1, .int x2] (wC cI cZ a q σ) val :=
  ro_of (by decide) (Nat.le_of_ble_eq_true rfl) (fun p e s m args below meth c ls C0 hP hl => t_C_firstToward_0 (a := a) C0 hP h (lv_sub hl [0, 1, 2] rfl))
def f_C_toldAt (σ : StC) (x1 x2 : Int32) : Option Int32 :=
  if (f_C_isThere σ x1) = 0 then
    some (-1)
  else
    if x2 < 0 then
      some (-1)
    else
      if x1 < 0 ∨ 30 ≤ x1.toNatClampNeg then none else
      if ((C_directCounts σ) x1.toNatClampNeg) ≤ x2 then
        some (-1)
      else
        if ((x1 * 30) + x2) < 0 ∨ 900 ≤ ((x1 * 30) + x2).toNatClampNeg then none else
        some ((C_tolds σ) ((x1 * 30) + x2).toNatClampNeg)
set_option maxHeartbeats 4000000 in
set_option maxRecDepth 100000 in
theorem t_C_toldAt_0 {p : Program} {l : Launch} {e : Env} {s : State} {m : MethodId} {args : Array Value} {below : List Frame} {meth : Method} {c : Code} {D : va_G} {cI cZ : ClassId} {a : Nat → Nat} {q : Nat} {σ : StC} (C0 : Am p s m args meth c b_C_toldAt (some .int) 3 R_C D [(cI, .int), (cZ, .boolean)]) (hP : va_P D vwCl (wC cI cZ a q σ) s.heap) {val : Int32}   {x1 x2 : Int32} (h : f_C_toldAt σ x1 x2 = some val) {ls : Array Slot} (hl : lv_has ls 3 [(0, .ref (a 3)), (1, .int x1), (2, .int x2)]) : RoW p l e (rmK 1 21 0 0) s m args below meth c val (F0 m 0 ls []) := by
  obtain ⟨hx, hb, hr, hml, hown, hts, hlk, hK⟩ := id C0
  unfold f_C_toldAt at h
  refine lv_aload_n hx hb d_C_toldAt_0 rfl (lv_at hl 0 rfl) ?_
  refine lv_iload_n hx hb d_C_toldAt_1 rfl (lv_at hl 1 rfl) ?_
  refine ro_V (n := 1) (ci := 1) (As := [.int x1]) (rest := []) C0 (c_C_isThere l D cI cZ a q σ x1 rfl) wd_4 ⟨wd_5, wd_6, wd_7, wd_8⟩ (by decide +kernel) ⟨Nat.le_of_ble_eq_true rfl, Nat.le_of_ble_eq_true rfl⟩ hP rfl rfl rfl hl rfl rfl (Nat.le_of_ble_eq_true rfl) ⟨Nat.zero_le _, Nat.zero_le _⟩ d_C_toldAt_2 ?_
  refine lv_if_eq (tgt := 36) hx hb d_C_toldAt_5 (by decide) (fun hc => ?_) (fun hc => ?_)
  · rw [if_pos hc] at h
    refine lv_iconst (v := (-1)) hx hb d_C_toldAt_36 (by decide) ?_
    exact ro_ret C0 (Option.some.inj h) d_C_toldAt_37
  · rw [if_neg hc] at h
    refine lv_iload_n hx hb d_C_toldAt_8 rfl (lv_at hl 2 rfl) ?_
    refine lv_if_lt (tgt := 36) hx hb d_C_toldAt_9 (by decide) (fun hc => ?_) (fun hc => ?_)
    · rw [if_pos hc] at h
      refine lv_iconst (v := (-1)) hx hb d_C_toldAt_36 (by decide) ?_
      exact ro_ret C0 (Option.some.inj h) d_C_toldAt_37
    · rw [if_neg hc] at h
      refine lv_iload_n hx hb d_C_toldAt_12 rfl (lv_at hl 2 rfl) ?_
      refine lv_aload_n hx hb d_C_toldAt_13 rfl (lv_at hl 0 rfl) ?_
      refine va_get (ci := 1) (v := .ref (a 7)) (C := R_C) (T := F_C) (N := 8) hx hb hts i_C hown hK.1 hP 0 rfl rfl 3 (by decide) (hts _ wd_12) (fun _ h9 => h9) rfl d_C_toldAt_14 ?_
      refine lv_iload_n hx hb d_C_toldAt_17 rfl (lv_at hl 1 rfl) ?_
      replace h := gd h
      obtain ⟨hi, h⟩ := h
      refine va_iald hx hb hK.1 hP 4 0 rfl rfl hi d_C_toldAt_18 ?_
      refine lv_icmp_ge (tgt := 36) hx hb d_C_toldAt_19 (by decide) (fun hc => ?_) (fun hc => ?_)
      · rw [if_pos hc] at h
        refine lv_iconst (v := (-1)) hx hb d_C_toldAt_36 (by decide) ?_
        exact ro_ret C0 (Option.some.inj h) d_C_toldAt_37
      · rw [if_neg hc] at h
        refine lv_aload_n hx hb d_C_toldAt_22 rfl (lv_at hl 0 rfl) ?_
        refine va_get (ci := 1) (v := .ref (a 9)) (C := R_C) (T := F_C) (N := 8) hx hb hts i_C hown hK.1 hP 0 rfl rfl 5 (by decide) (hts _ wd_11) (fun _ h9 => h9) rfl d_C_toldAt_23 ?_
        refine lv_iload_n hx hb d_C_toldAt_26 rfl (lv_at hl 1 rfl) ?_
        refine lv_bipush (v := 30) hx hb d_C_toldAt_27 (by decide) ?_
        refine lv_imul hx hb d_C_toldAt_29 ?_
        refine lv_iload_n hx hb d_C_toldAt_30 rfl (lv_at hl 2 rfl) ?_
        refine lv_iadd hx hb d_C_toldAt_31 ?_
        replace h := gd h
        obtain ⟨hi, h⟩ := h
        refine va_iald hx hb hK.1 hP 6 0 rfl rfl hi d_C_toldAt_32 ?_
        refine lv_goto (tgt := 37) hx hb d_C_toldAt_33 (by decide) ?_
        exact ro_ret C0 (Option.some.inj h) d_C_toldAt_37
set_option maxHeartbeats 4000000 in
set_option maxRecDepth 100000 in
theorem c_C_toldAt (l : Launch) (D : va_G) (cI cZ : ClassId) (a : Nat → Nat) (q : Nat) (σ : StC) (x1 : Int32) (x2 : Int32) {val : Int32} (h : f_C_toldAt σ x1 x2 = some val) : RoM l y_C_toldAt b_C_toldAt 3 (some .int) 1 21 D [(cI, .int), (cZ, .boolean)] [.ref (a 3), .int x1, .int x2] (wC cI cZ a q σ) val :=
  ro_of (by decide) (Nat.le_of_ble_eq_true rfl) (fun p e s m args below meth c ls C0 hP hl => t_C_toldAt_0 (a := a) C0 hP h (lv_sub hl [0, 1, 2] rfl))
def f_C_passOn (x0 x1 : Int32) : Int32 :=
  if x0 = (-2) then
    x1
  else
    if x0 = (-1) then
      0
    else
      (f_L_argumentOf 1 x0)
set_option maxHeartbeats 4000000 in
set_option maxRecDepth 100000 in
theorem t_C_passOn_0 {p : Program} {l : Launch} {e : Env} {s : State} {m : MethodId} {args : Array Value} {below : List Frame} {meth : Method} {c : Code} {D : va_G} {cI cZ : ClassId} {a : Nat → Nat} (C0 : Am p s m args meth c b_C_passOn (some .int) 2 R_C D [(cI, .int), (cZ, .boolean)]) {val : Int32}   {x0 x1 : Int32} (h : f_C_passOn x0 x1 = val) {ls : Array Slot} (hl : lv_has ls 2 [(0, .int x0), (1, .int x1)]) : RoW p l e (rmK 1 21 0 0) s m args below meth c val (F0 m 0 ls []) := by
  obtain ⟨hx, hb, hr, hml, hown, hts, hlk, hK⟩ := id C0
  unfold f_C_passOn at h
  refine lv_iload_n hx hb d_C_passOn_0 rfl (lv_at hl 0 rfl) ?_
  refine lv_bipush (v := (-2)) hx hb d_C_passOn_1 (by decide) ?_
  refine lv_icmp_ne (tgt := 8) hx hb d_C_passOn_3 (by decide) (fun hc => ?_) (fun hc => ?_)
  · rw [if_neg hc] at h
    refine lv_iload_n hx hb d_C_passOn_8 rfl (lv_at hl 0 rfl) ?_
    refine lv_iconst (v := (-1)) hx hb d_C_passOn_9 (by decide) ?_
    refine lv_icmp_ne (tgt := 17) hx hb d_C_passOn_10 (by decide) (fun hc => ?_) (fun hc => ?_)
    · rw [if_neg hc] at h
      refine lv_iconst (v := 1) hx hb d_C_passOn_17 (by decide) ?_
      refine lv_iload_n hx hb d_C_passOn_18 rfl (lv_at hl 0 rfl) ?_
      refine ro_SN (n := 2) (As := [.int 1, .int x0]) (rest := []) C0 (c_L_argumentOf l D cI cZ a 1 x0 rfl) (List.mem_of_getElem? (i := 4) rfl) ⟨wd_77, wd_78, wd_55⟩ (by decide +kernel) ⟨Nat.le_of_ble_eq_true rfl, Nat.le_of_ble_eq_true rfl⟩ pnil hl rfl rfl (Nat.le_of_ble_eq_true rfl) ⟨Nat.zero_le _, Nat.zero_le _⟩ d_C_passOn_19 ?_
      exact ro_ret C0 h d_C_passOn_22
    · rw [if_pos hc] at h
      refine lv_iconst (v := 0) hx hb d_C_passOn_13 (by decide) ?_
      refine lv_goto (tgt := 22) hx hb d_C_passOn_14 (by decide) ?_
      exact ro_ret C0 h d_C_passOn_22
  · rw [if_pos hc] at h
    refine lv_iload_n hx hb d_C_passOn_6 rfl (lv_at hl 1 rfl) ?_
    exact ro_ret C0 h d_C_passOn_7
set_option maxHeartbeats 4000000 in
set_option maxRecDepth 100000 in
theorem c_C_passOn (l : Launch) (D : va_G) (cI cZ : ClassId) (a : Nat → Nat) (x0 : Int32) (x1 : Int32) {val : Int32} (h : f_C_passOn x0 x1 = val) : RoM l y_C_passOn b_C_passOn 2 (some .int) 1 21 D [(cI, .int), (cZ, .boolean)] [.int x0, .int x1] [] val :=
  ro_of (by decide) (Nat.le_of_ble_eq_true rfl) (fun p e s m args below meth c ls C0 hP hl => t_C_passOn_0 (a := a) C0 h (lv_sub hl [0, 1] rfl))
def f_C_climb_70 (σ : StC) (x3 x4 x5 : Int32) : Option Int32 :=
  if x4 = x3 then
    some x5
  else
    some (-1)
def f_C_climb_9_s (k9 : StC → Int32 → Int32 → Int32 → Int32 → Option Int32) (σ : StC) (x3 x4 x5 x6 : Int32) : Option Int32 :=
  if 30 ≤ x6 then
    f_C_climb_70 σ x3 x4 x5
  else
    if x4 = x3 then
      f_C_climb_70 σ x3 x4 x5
    else
      (f_C_firstToward σ x4 x3).bind fun r1 =>
      if r1 = (-1) then
        some (-1)
      else
        (f_C_toldAt σ x4 r1).bind fun r2 =>
        (f_C_directAt σ x4 r1).bind fun r3 =>
        k9 σ x3 r3 (f_C_passOn r2 x5) (x6 + 1)
def f_C_climb_9 : Nat → StC → Int32 → Int32 → Int32 → Int32 → Option Int32
  | 0, _, _, _, _, _ => none
  | n + 1, σ, x3, x4, x5, x6 => f_C_climb_9_s (f_C_climb_9 n) σ x3 x4 x5 x6
def f_C_climb (σ : StC) (x1 x2 x3 : Int32) : Option Int32 :=
  f_C_climb_9 1000 σ x3 x1 x2 0
set_option maxHeartbeats 4000000 in
set_option maxRecDepth 100000 in
theorem t_C_climb_70 {p : Program} {l : Launch} {e : Env} {s : State} {m : MethodId} {args : Array Value} {below : List Frame} {meth : Method} {c : Code} {D : va_G} {cI cZ : ClassId} {a : Nat → Nat} {q : Nat} {σ : StC} (C0 : Am p s m args meth c b_C_climb (some .int) 8 R_C D [(cI, .int), (cZ, .boolean)]) (hP : va_P D vwCl (wC cI cZ a q σ) s.heap) {val : Int32}   {x3 x4 x5 : Int32} (h : f_C_climb_70 σ x3 x4 x5 = some val) {ls : Array Slot} (hl : lv_has ls 8 [(3, .int x3), (4, .int x4), (5, .int x5)]) : RoW p l e (rmK 2 45 0 0) s m args below meth c val (F0 m 70 ls []) := by
  obtain ⟨hx, hb, hr, hml, hown, hts, hlk, hK⟩ := id C0
  unfold f_C_climb_70 at h
  refine lv_iload hx hb d_C_climb_70 (lv_at hl 1 rfl) ?_
  refine lv_iload_n hx hb d_C_climb_72 rfl (lv_at hl 0 rfl) ?_
  refine lv_icmp_ne (tgt := 81) hx hb d_C_climb_73 (by decide) (fun hc => ?_) (fun hc => ?_)
  · rw [if_neg hc] at h
    refine lv_iconst (v := (-1)) hx hb d_C_climb_81 (by decide) ?_
    exact ro_ret C0 (Option.some.inj h) d_C_climb_82
  · rw [if_pos hc] at h
    refine lv_iload hx hb d_C_climb_76 (lv_at hl 2 rfl) ?_
    refine lv_goto (tgt := 82) hx hb d_C_climb_78 (by decide) ?_
    exact ro_ret C0 (Option.some.inj h) d_C_climb_82
set_option maxHeartbeats 4000000 in
set_option maxRecDepth 100000 in
theorem t_C_climb_9_s {p : Program} {l : Launch} {e : Env} {s : State} {m : MethodId} {args : Array Value} {below : List Frame} {meth : Method} {c : Code} {D : va_G} {cI cZ : ClassId} {a : Nat → Nat} {q : Nat} {σ : StC} (C0 : Am p s m args meth c b_C_climb (some .int) 8 R_C D [(cI, .int), (cZ, .boolean)]) (hP : va_P D vwCl (wC cI cZ a q σ) s.heap) {val : Int32} {k9 : StC → Int32 → Int32 → Int32 → Int32 → Option Int32}  (hk9 : ∀ (x3 x4 x5 x6 : Int32) (ls : Array Slot), k9 σ x3 x4 x5 x6 = some val → lv_has ls 8 [(0, .ref (a 3)), (3, .int x3), (4, .int x4), (5, .int x5), (6, .int x6)] → RoW p l e (rmK 2 45 0 0) s m args below meth c val (F0 m 9 ls [])) {x3 x4 x5 x6 : Int32} (h : f_C_climb_9_s k9 σ x3 x4 x5 x6 = some val) {ls : Array Slot} (hl : lv_has ls 8 [(0, .ref (a 3)), (3, .int x3), (4, .int x4), (5, .int x5), (6, .int x6)]) : RoW p l e (rmK 2 45 0 0) s m args below meth c val (F0 m 9 ls []) := by
  obtain ⟨hx, hb, hr, hml, hown, hts, hlk, hK⟩ := id C0
  unfold f_C_climb_9_s at h
  refine lv_iload hx hb d_C_climb_9 (lv_at hl 4 rfl) ?_
  refine lv_bipush (v := 30) hx hb d_C_climb_11 (by decide) ?_
  refine lv_icmp_ge (tgt := 70) hx hb d_C_climb_13 (by decide) (fun hc => ?_) (fun hc => ?_)
  · rw [if_pos hc] at h
    exact t_C_climb_70 (a := a) C0 hP  h (lv_sub hl [1, 2, 3] rfl)
  · rw [if_neg hc] at h
    refine lv_iload hx hb d_C_climb_16 (lv_at hl 2 rfl) ?_
    refine lv_iload_n hx hb d_C_climb_18 rfl (lv_at hl 1 rfl) ?_
    refine lv_icmp_eq (tgt := 70) hx hb d_C_climb_19 (by decide) (fun hc => ?_) (fun hc => ?_)
    · rw [if_pos hc] at h
      exact t_C_climb_70 (a := a) C0 hP  h (lv_sub hl [1, 2, 3] rfl)
    · rw [if_neg hc] at h
      refine lv_aload_n hx hb d_C_climb_22 rfl (lv_at hl 0 rfl) ?_
      refine lv_iload hx hb d_C_climb_23 (lv_at hl 2 rfl) ?_
      refine lv_iload_n hx hb d_C_climb_25 rfl (lv_at hl 1 rfl) ?_
      replace h := bd h
      obtain ⟨r1, g1, h⟩ := h
      refine ro_V (n := 2) (ci := 1) (As := [.int x4, .int x3]) (rest := []) C0 (c_C_firstToward l D cI cZ a q σ x4 x3 g1) wd_79 ⟨wd_80, wd_81, wd_82, wd_8⟩ (by decide +kernel) ⟨Nat.le_of_ble_eq_true rfl, Nat.le_of_ble_eq_true rfl⟩ hP rfl rfl rfl hl rfl rfl (Nat.le_of_ble_eq_true rfl) ⟨Nat.zero_le _, Nat.zero_le _⟩ d_C_climb_26 ?_
      try dsimp only at h
      refine lv_istore (lv' := [(7, .int r1), (0, .ref (a 3)), (3, .int x3), (4, .int x4), (5, .int x5), (6, .int x6)]) hx hb d_C_climb_29 hl (by decide) rfl (fun ls hl => ?_)
      refine lv_iload hx hb d_C_climb_31 (lv_at hl 0 rfl) ?_
      refine lv_iconst (v := (-1)) hx hb d_C_climb_33 (by decide) ?_
      refine lv_icmp_ne (tgt := 39) hx hb d_C_climb_34 (by decide) (fun hc => ?_) (fun hc => ?_)
      · rw [if_neg hc] at h
        refine lv_aload_n hx hb d_C_climb_39 rfl (lv_at hl 1 rfl) ?_
        refine lv_iload hx hb d_C_climb_40 (lv_at hl 3 rfl) ?_
        refine lv_iload hx hb d_C_climb_42 (lv_at hl 0 rfl) ?_
        replace h := bd h
        obtain ⟨r2, g2, h⟩ := h
        refine ro_V (n := 2) (ci := 1) (As := [.int x4, .int r1]) (rest := []) C0 (c_C_toldAt l D cI cZ a q σ x4 r1 g2) wd_83 ⟨wd_84, wd_85, wd_86, wd_8⟩ (by decide +kernel) ⟨Nat.le_of_ble_eq_true rfl, Nat.le_of_ble_eq_true rfl⟩ hP rfl rfl rfl hl rfl rfl (Nat.le_of_ble_eq_true rfl) ⟨Nat.zero_le _, Nat.zero_le _⟩ d_C_climb_44 ?_
        try dsimp only at h
        refine lv_iload hx hb d_C_climb_47 (lv_at hl 4 rfl) ?_
        refine ro_S (n := 2) (As := [.int r2, .int x5]) (rest := []) C0 (c_C_passOn l D cI cZ a r2 x5 rfl) wd_87 ⟨wd_88, wd_89, wd_8⟩ (by decide +kernel) ⟨Nat.le_of_ble_eq_true rfl, Nat.le_of_ble_eq_true rfl⟩ pnil hl rfl rfl (Nat.le_of_ble_eq_true rfl) ⟨Nat.zero_le _, Nat.zero_le _⟩ d_C_climb_49 ?_
        refine lv_istore (lv' := [(5, .int (f_C_passOn r2 x5)), (7, .int r1), (0, .ref (a 3)), (3, .int x3), (4, .int x4), (6, .int x6)]) hx hb d_C_climb_52 hl (by decide) rfl (fun ls hl => ?_)
        refine lv_aload_n hx hb d_C_climb_54 rfl (lv_at hl 2 rfl) ?_
        refine lv_iload hx hb d_C_climb_55 (lv_at hl 4 rfl) ?_
        refine lv_iload hx hb d_C_climb_57 (lv_at hl 1 rfl) ?_
        replace h := bd h
        obtain ⟨r3, g3, h⟩ := h
        refine ro_V (n := 2) (ci := 1) (As := [.int x4, .int r1]) (rest := []) C0 (c_C_directAt l D cI cZ a q σ x4 r1 g3) wd_67 ⟨wd_68, wd_69, wd_70, wd_8⟩ (by decide +kernel) ⟨Nat.le_of_ble_eq_true rfl, Nat.le_of_ble_eq_true rfl⟩ hP rfl rfl rfl hl rfl rfl (Nat.le_of_ble_eq_true rfl) ⟨Nat.zero_le _, Nat.zero_le _⟩ d_C_climb_59 ?_
        try dsimp only at h
        refine lv_istore (lv' := [(4, .int r3), (5, .int (f_C_passOn r2 x5)), (7, .int r1), (0, .ref (a 3)), (3, .int x3), (6, .int x6)]) hx hb d_C_climb_62 hl (by decide) rfl (fun ls hl => ?_)
        refine lv_iinc (v := (x6 + 1)) (lv' := [(6, .int (x6 + 1)), (4, .int r3), (5, .int (f_C_passOn r2 x5)), (7, .int r1), (0, .ref (a 3)), (3, .int x3)]) hx hb d_C_climb_64 hl (k := 5) rfl rfl (by decide) rfl (fun ls hl => ?_)
        refine lv_goto (tgt := 9) hx hb d_C_climb_67 (by decide) ?_
        exact hk9 _ _ _ _ _ h (lv_sub hl [4, 5, 1, 2, 0] rfl)
      · rw [if_pos hc] at h
        refine lv_iconst (v := (-1)) hx hb d_C_climb_37 (by decide) ?_
        exact ro_ret C0 (Option.some.inj h) d_C_climb_38
set_option maxHeartbeats 4000000 in
set_option maxRecDepth 100000 in
theorem t_C_climb_9 {p : Program} {l : Launch} {e : Env} {s : State} {m : MethodId} {args : Array Value} {below : List Frame} {meth : Method} {c : Code} {D : va_G} {cI cZ : ClassId} {a : Nat → Nat} {q : Nat} {σ : StC} (C0 : Am p s m args meth c b_C_climb (some .int) 8 R_C D [(cI, .int), (cZ, .boolean)]) (hP : va_P D vwCl (wC cI cZ a q σ) s.heap) {val : Int32}  {n : Nat} {x3 x4 x5 x6 : Int32} (h : f_C_climb_9  n σ x3 x4 x5 x6 = some val) {ls : Array Slot} (hl : lv_has ls 8 [(0, .ref (a 3)), (3, .int x3), (4, .int x4), (5, .int x5), (6, .int x6)]) : RoW p l e (rmK 2 45 0 0) s m args below meth c val (F0 m 9 ls []) := by
  induction n generalizing x3 x4 x5 x6 ls with
  | zero => cases h
  | succ n ih => exact t_C_climb_9_s (a := a) C0 hP  (fun _ _ _ _ _ h hl => ih h hl) h hl
set_option maxHeartbeats 4000000 in
set_option maxRecDepth 100000 in
theorem t_C_climb_0 {p : Program} {l : Launch} {e : Env} {s : State} {m : MethodId} {args : Array Value} {below : List Frame} {meth : Method} {c : Code} {D : va_G} {cI cZ : ClassId} {a : Nat → Nat} {q : Nat} {σ : StC} (C0 : Am p s m args meth c b_C_climb (some .int) 8 R_C D [(cI, .int), (cZ, .boolean)]) (hP : va_P D vwCl (wC cI cZ a q σ) s.heap) {val : Int32}   {x1 x2 x3 : Int32} (h : f_C_climb σ x1 x2 x3 = some val) {ls : Array Slot} (hl : lv_has ls 8 [(0, .ref (a 3)), (1, .int x1), (2, .int x2), (3, .int x3)]) : RoW p l e (rmK 2 45 0 0) s m args below meth c val (F0 m 0 ls []) := by
  obtain ⟨hx, hb, hr, hml, hown, hts, hlk, hK⟩ := id C0
  unfold f_C_climb at h
  refine lv_iload_n hx hb d_C_climb_0 rfl (lv_at hl 1 rfl) ?_
  refine lv_istore (lv' := [(4, .int x1), (0, .ref (a 3)), (1, .int x1), (2, .int x2), (3, .int x3)]) hx hb d_C_climb_1 hl (by decide) rfl (fun ls hl => ?_)
  refine lv_iload_n hx hb d_C_climb_3 rfl (lv_at hl 3 rfl) ?_
  refine lv_istore (lv' := [(5, .int x2), (4, .int x1), (0, .ref (a 3)), (1, .int x1), (2, .int x2), (3, .int x3)]) hx hb d_C_climb_4 hl (by decide) rfl (fun ls hl => ?_)
  refine lv_iconst (v := 0) hx hb d_C_climb_6 (by decide) ?_
  refine lv_istore (lv' := [(6, .int 0), (5, .int x2), (4, .int x1), (0, .ref (a 3)), (1, .int x1), (2, .int x2), (3, .int x3)]) hx hb d_C_climb_7 hl (by decide) rfl (fun ls hl => ?_)
  exact t_C_climb_9 (a := a) C0 hP  h (lv_sub hl [3, 6, 2, 1, 0] rfl)
set_option maxHeartbeats 4000000 in
set_option maxRecDepth 100000 in
theorem c_C_climb (l : Launch) (D : va_G) (cI cZ : ClassId) (a : Nat → Nat) (q : Nat) (σ : StC) (x1 : Int32) (x2 : Int32) (x3 : Int32) {val : Int32} (h : f_C_climb σ x1 x2 x3 = some val) : RoM l y_C_climb b_C_climb 8 (some .int) 2 45 D [(cI, .int), (cZ, .boolean)] [.ref (a 3), .int x1, .int x2, .int x3] (wC cI cZ a q σ) val :=
  ro_of (by decide) (Nat.le_of_ble_eq_true rfl) (fun p e s m args below meth c ls C0 hP hl => t_C_climb_0 (a := a) C0 hP h (lv_sub hl [0, 1, 2, 3] rfl))
def f_C_clashes_21_s (k21 : StC → Int32 → Int32 → Int32 → Int32 → Int32 → Option Int32) (σ : StC) (x1 x2 x3 x4 x5 : Int32) : Option Int32 :=
  if (C_count σ) ≤ x5 then
    some 0
  else
    if (f_L_has x4 x5) = 0 then
      k21 σ x1 x2 x3 x4 (x5 + 1)
    else
      (f_C_isGeneric σ x5).bind fun r3 =>
      if r3 = 0 then
        k21 σ x1 x2 x3 x4 (x5 + 1)
      else
        (f_C_climb σ x3 (-2) x5).bind fun r4 =>
        (f_C_climb σ x1 (f_C_passOn x2 (-2)) x5).bind fun r5 =>
        if r4 = r5 then
          k21 σ x1 x2 x3 x4 (x5 + 1)
        else
          some 1
def f_C_clashes_21 : Nat → StC → Int32 → Int32 → Int32 → Int32 → Int32 → Option Int32
  | 0, _, _, _, _, _, _ => none
  | n + 1, σ, x1, x2, x3, x4, x5 => f_C_clashes_21_s (f_C_clashes_21 n) σ x1 x2 x3 x4 x5
def f_C_clashes (σ : StC) (x1 x2 : Int32) : Option Int32 :=
  (f_C_aboveOf σ (f_C_newest σ)).bind fun r1 =>
  (f_C_withAbove σ x1).bind fun r2 =>
  f_C_clashes_21 1000 σ x1 x2 (f_C_newest σ) (r1 &&& r2) 0
set_option maxHeartbeats 4000000 in
set_option maxRecDepth 100000 in
theorem t_C_clashes_21_s {p : Program} {l : Launch} {e : Env} {s : State} {m : MethodId} {args : Array Value} {below : List Frame} {meth : Method} {c : Code} {D : va_G} {cI cZ : ClassId} {a : Nat → Nat} {q : Nat} {σ : StC} (C0 : Am p s m args meth c b_C_clashes (some .boolean) 6 R_C D [(cI, .int), (cZ, .boolean)]) (hP : va_P D vwCl (wC cI cZ a q σ) s.heap) {val : Int32} {k21 : StC → Int32 → Int32 → Int32 → Int32 → Int32 → Option Int32}  (hk21 : ∀ (x1 x2 x3 x4 x5 : Int32) (ls : Array Slot), k21 σ x1 x2 x3 x4 x5 = some val → lv_has ls 6 [(0, .ref (a 3)), (1, .int x1), (2, .int x2), (3, .int x3), (4, .int x4), (5, .int x5)] → RoW p l e (rmK 3 72 0 0) s m args below meth c val (F0 m 21 ls [])) {x1 x2 x3 x4 x5 : Int32} (h : f_C_clashes_21_s k21 σ x1 x2 x3 x4 x5 = some val) {ls : Array Slot} (hl : lv_has ls 6 [(0, .ref (a 3)), (1, .int x1), (2, .int x2), (3, .int x3), (4, .int x4), (5, .int x5)]) : RoW p l e (rmK 3 72 0 0) s m args below meth c val (F0 m 21 ls []) := by
  obtain ⟨hx, hb, hr, hml, hown, hts, hlk, hK⟩ := id C0
  unfold f_C_clashes_21_s at h
  refine lv_iload hx hb d_C_clashes_21 (lv_at hl 5 rfl) ?_
  refine lv_aload_n hx hb d_C_clashes_23 rfl (lv_at hl 0 rfl) ?_
  refine va_get (ci := 1) (v := .int (C_count σ)) (C := R_C) (T := F_C) (N := 8) hx hb hts i_C hown hK.1 hP 0 rfl rfl 6 (by decide) (hts _ wd_3) (fun _ h9 => h9) rfl d_C_clashes_24 ?_
  refine lv_icmp_ge (tgt := 82) hx hb d_C_clashes_27 (by decide) (fun hc => ?_) (fun hc => ?_)
  · rw [if_pos hc] at h
    refine lv_iconst (v := 0) hx hb d_C_clashes_82 (by decide) ?_
    exact ro_retz C0 (by decide) (Option.some.inj h) d_C_clashes_83
  · rw [if_neg hc] at h
    refine lv_iload hx hb d_C_clashes_30 (lv_at hl 4 rfl) ?_
    refine lv_iload hx hb d_C_clashes_32 (lv_at hl 5 rfl) ?_
    refine ro_SN (n := 2) (As := [.int x4, .int x5]) (rest := []) C0 (c_L_has l D cI cZ a x4 x5 rfl) (List.mem_of_getElem? (i := 3) rfl) ⟨wd_75, wd_76, wd_55⟩ (by decide +kernel) ⟨Nat.le_of_ble_eq_true rfl, Nat.le_of_ble_eq_true rfl⟩ pnil hl rfl rfl (Nat.le_of_ble_eq_true rfl) ⟨Nat.zero_le _, Nat.zero_le _⟩ d_C_clashes_34 ?_
    refine lv_if_eq (tgt := 76) hx hb d_C_clashes_37 (by decide) (fun hc => ?_) (fun hc => ?_)
    · rw [if_pos hc] at h
      refine lv_iinc (v := (x5 + 1)) (lv' := [(5, .int (x5 + 1)), (0, .ref (a 3)), (1, .int x1), (2, .int x2), (3, .int x3), (4, .int x4)]) hx hb d_C_clashes_76 hl (k := 5) rfl rfl (by decide) rfl (fun ls hl => ?_)
      refine lv_goto (tgt := 21) hx hb d_C_clashes_79 (by decide) ?_
      exact hk21 _ _ _ _ _ _ h (lv_sub hl [1, 2, 3, 4, 5, 0] rfl)
    · rw [if_neg hc] at h
      refine lv_aload_n hx hb d_C_clashes_40 rfl (lv_at hl 0 rfl) ?_
      refine lv_iload hx hb d_C_clashes_41 (lv_at hl 5 rfl) ?_
      replace h := bd h
      obtain ⟨r3, g3, h⟩ := h
      refine ro_V (n := 1) (ci := 1) (As := [.int x5]) (rest := []) C0 (c_C_isGeneric l D cI cZ a q σ x5 g3) wd_94 ⟨wd_95, wd_96, wd_97, wd_8⟩ (by decide +kernel) ⟨Nat.le_of_ble_eq_true rfl, Nat.le_of_ble_eq_true rfl⟩ hP rfl rfl rfl hl rfl rfl (Nat.le_of_ble_eq_true rfl) ⟨Nat.zero_le _, Nat.zero_le _⟩ d_C_clashes_43 ?_
      try dsimp only at h
      refine lv_if_eq (tgt := 76) hx hb d_C_clashes_46 (by decide) (fun hc => ?_) (fun hc => ?_)
      · rw [if_pos hc] at h
        refine lv_iinc (v := (x5 + 1)) (lv' := [(5, .int (x5 + 1)), (0, .ref (a 3)), (1, .int x1), (2, .int x2), (3, .int x3), (4, .int x4)]) hx hb d_C_clashes_76 hl (k := 5) rfl rfl (by decide) rfl (fun ls hl => ?_)
        refine lv_goto (tgt := 21) hx hb d_C_clashes_79 (by decide) ?_
        exact hk21 _ _ _ _ _ _ h (lv_sub hl [1, 2, 3, 4, 5, 0] rfl)
      · rw [if_neg hc] at h
        refine lv_aload_n hx hb d_C_clashes_49 rfl (lv_at hl 0 rfl) ?_
        refine lv_iload_n hx hb d_C_clashes_50 rfl (lv_at hl 3 rfl) ?_
        refine lv_bipush (v := (-2)) hx hb d_C_clashes_51 (by decide) ?_
        refine lv_iload hx hb d_C_clashes_53 (lv_at hl 5 rfl) ?_
        replace h := bd h
        obtain ⟨r4, g4, h⟩ := h
        refine ro_V (n := 3) (ci := 1) (As := [.int x3, .int (-2), .int x5]) (rest := []) C0 (c_C_climb l D cI cZ a q σ x3 (-2) x5 g4) wd_98 ⟨wd_99, wd_100, wd_101, wd_8⟩ (by decide +kernel) ⟨Nat.le_of_ble_eq_true rfl, Nat.le_of_ble_eq_true rfl⟩ hP rfl rfl rfl hl rfl rfl (Nat.le_of_ble_eq_true rfl) ⟨Nat.zero_le _, Nat.zero_le _⟩ d_C_clashes_55 ?_
        try dsimp only at h
        refine lv_aload_n hx hb d_C_clashes_58 rfl (lv_at hl 0 rfl) ?_
        refine lv_iload_n hx hb d_C_clashes_59 rfl (lv_at hl 1 rfl) ?_
        refine lv_iload_n hx hb d_C_clashes_60 rfl (lv_at hl 2 rfl) ?_
        refine lv_bipush (v := (-2)) hx hb d_C_clashes_61 (by decide) ?_
        refine ro_S (n := 2) (As := [.int x2, .int (-2)]) (rest := [.int x1, .ref (a 3), .int r4]) C0 (c_C_passOn l D cI cZ a x2 (-2) rfl) wd_87 ⟨wd_88, wd_89, wd_8⟩ (by decide +kernel) ⟨Nat.le_of_ble_eq_true rfl, Nat.le_of_ble_eq_true rfl⟩ pnil hl rfl rfl (Nat.le_of_ble_eq_true rfl) ⟨Nat.zero_le _, Nat.zero_le _⟩ d_C_clashes_63 ?_
        refine lv_iload hx hb d_C_clashes_66 (lv_at hl 5 rfl) ?_
        replace h := bd h
        obtain ⟨r5, g5, h⟩ := h
        refine ro_V (n := 3) (ci := 1) (As := [.int x1, .int (f_C_passOn x2 (-2)), .int x5]) (rest := [.int r4]) C0 (c_C_climb l D cI cZ a q σ x1 (f_C_passOn x2 (-2)) x5 g5) wd_98 ⟨wd_99, wd_100, wd_101, wd_8⟩ (by decide +kernel) ⟨Nat.le_of_ble_eq_true rfl, Nat.le_of_ble_eq_true rfl⟩ hP rfl rfl rfl hl rfl rfl (Nat.le_of_ble_eq_true rfl) ⟨Nat.zero_le _, Nat.zero_le _⟩ d_C_clashes_68 ?_
        try dsimp only at h
        refine lv_icmp_eq (tgt := 76) hx hb d_C_clashes_71 (by decide) (fun hc => ?_) (fun hc => ?_)
        · rw [if_pos hc] at h
          refine lv_iinc (v := (x5 + 1)) (lv' := [(5, .int (x5 + 1)), (0, .ref (a 3)), (1, .int x1), (2, .int x2), (3, .int x3), (4, .int x4)]) hx hb d_C_clashes_76 hl (k := 5) rfl rfl (by decide) rfl (fun ls hl => ?_)
          refine lv_goto (tgt := 21) hx hb d_C_clashes_79 (by decide) ?_
          exact hk21 _ _ _ _ _ _ h (lv_sub hl [1, 2, 3, 4, 5, 0] rfl)
        · rw [if_neg hc] at h
          refine lv_iconst (v := 1) hx hb d_C_clashes_74 (by decide) ?_
          exact ro_retz C0 (by decide) (Option.some.inj h) d_C_clashes_75
set_option maxHeartbeats 4000000 in
set_option maxRecDepth 100000 in
theorem t_C_clashes_21 {p : Program} {l : Launch} {e : Env} {s : State} {m : MethodId} {args : Array Value} {below : List Frame} {meth : Method} {c : Code} {D : va_G} {cI cZ : ClassId} {a : Nat → Nat} {q : Nat} {σ : StC} (C0 : Am p s m args meth c b_C_clashes (some .boolean) 6 R_C D [(cI, .int), (cZ, .boolean)]) (hP : va_P D vwCl (wC cI cZ a q σ) s.heap) {val : Int32}  {n : Nat} {x1 x2 x3 x4 x5 : Int32} (h : f_C_clashes_21  n σ x1 x2 x3 x4 x5 = some val) {ls : Array Slot} (hl : lv_has ls 6 [(0, .ref (a 3)), (1, .int x1), (2, .int x2), (3, .int x3), (4, .int x4), (5, .int x5)]) : RoW p l e (rmK 3 72 0 0) s m args below meth c val (F0 m 21 ls []) := by
  induction n generalizing x1 x2 x3 x4 x5 ls with
  | zero => cases h
  | succ n ih => exact t_C_clashes_21_s (a := a) C0 hP  (fun _ _ _ _ _ _ h hl => ih h hl) h hl
set_option maxHeartbeats 4000000 in
set_option maxRecDepth 100000 in
theorem t_C_clashes_0 {p : Program} {l : Launch} {e : Env} {s : State} {m : MethodId} {args : Array Value} {below : List Frame} {meth : Method} {c : Code} {D : va_G} {cI cZ : ClassId} {a : Nat → Nat} {q : Nat} {σ : StC} (C0 : Am p s m args meth c b_C_clashes (some .boolean) 6 R_C D [(cI, .int), (cZ, .boolean)]) (hP : va_P D vwCl (wC cI cZ a q σ) s.heap) {val : Int32}   {x1 x2 : Int32} (h : f_C_clashes σ x1 x2 = some val) {ls : Array Slot} (hl : lv_has ls 6 [(0, .ref (a 3)), (1, .int x1), (2, .int x2)]) : RoW p l e (rmK 3 72 0 0) s m args below meth c val (F0 m 0 ls []) := by
  obtain ⟨hx, hb, hr, hml, hown, hts, hlk, hK⟩ := id C0
  unfold f_C_clashes at h
  refine lv_aload_n hx hb d_C_clashes_0 rfl (lv_at hl 0 rfl) ?_
  refine ro_V (n := 0) (ci := 1) (As := []) (rest := []) C0 (c_C_newest l D cI cZ a q σ rfl) wd_28 ⟨wd_29, wd_30, wd_31, wd_8⟩ (by decide +kernel) ⟨Nat.le_of_ble_eq_true rfl, Nat.le_of_ble_eq_true rfl⟩ hP rfl rfl rfl hl rfl rfl (Nat.le_of_ble_eq_true rfl) ⟨Nat.zero_le _, Nat.zero_le _⟩ d_C_clashes_1 ?_
  refine lv_istore_n (lv' := [(3, .int (f_C_newest σ)), (0, .ref (a 3)), (1, .int x1), (2, .int x2)]) hx hb d_C_clashes_4 rfl hl (by decide) rfl (fun ls hl => ?_)
  refine lv_aload_n hx hb d_C_clashes_5 rfl (lv_at hl 1 rfl) ?_
  refine lv_iload_n hx hb d_C_clashes_6 rfl (lv_at hl 0 rfl) ?_
  replace h := bd h
  obtain ⟨r1, g1, h⟩ := h
  refine ro_V (n := 1) (ci := 1) (As := [.int (f_C_newest σ)]) (rest := []) C0 (c_C_aboveOf l D cI cZ a q σ (f_C_newest σ) g1) wd_90 ⟨wd_91, wd_92, wd_93, wd_8⟩ (by decide +kernel) ⟨Nat.le_of_ble_eq_true rfl, Nat.le_of_ble_eq_true rfl⟩ hP rfl rfl rfl hl rfl rfl (Nat.le_of_ble_eq_true rfl) ⟨Nat.zero_le _, Nat.zero_le _⟩ d_C_clashes_7 ?_
  try dsimp only at h
  refine lv_aload_n hx hb d_C_clashes_10 rfl (lv_at hl 1 rfl) ?_
  refine lv_iload_n hx hb d_C_clashes_11 rfl (lv_at hl 2 rfl) ?_
  replace h := bd h
  obtain ⟨r2, g2, h⟩ := h
  refine ro_V (n := 1) (ci := 1) (As := [.int x1]) (rest := [.int r1]) C0 (c_C_withAbove l D cI cZ a q σ x1 g2) wd_17 ⟨wd_18, wd_19, wd_20, wd_8⟩ (by decide +kernel) ⟨Nat.le_of_ble_eq_true rfl, Nat.le_of_ble_eq_true rfl⟩ hP rfl rfl rfl hl rfl rfl (Nat.le_of_ble_eq_true rfl) ⟨Nat.zero_le _, Nat.zero_le _⟩ d_C_clashes_12 ?_
  try dsimp only at h
  refine lv_iand hx hb d_C_clashes_15 ?_
  refine lv_istore (lv' := [(4, .int (r1 &&& r2)), (3, .int (f_C_newest σ)), (0, .ref (a 3)), (1, .int x1), (2, .int x2)]) hx hb d_C_clashes_16 hl (by decide) rfl (fun ls hl => ?_)
  refine lv_iconst (v := 0) hx hb d_C_clashes_18 (by decide) ?_
  refine lv_istore (lv' := [(5, .int 0), (4, .int (r1 &&& r2)), (3, .int (f_C_newest σ)), (0, .ref (a 3)), (1, .int x1), (2, .int x2)]) hx hb d_C_clashes_19 hl (by decide) rfl (fun ls hl => ?_)
  exact t_C_clashes_21 (a := a) C0 hP  h (lv_sub hl [3, 4, 5, 2, 1, 0] rfl)
set_option maxHeartbeats 4000000 in
set_option maxRecDepth 100000 in
theorem c_C_clashes (l : Launch) (D : va_G) (cI cZ : ClassId) (a : Nat → Nat) (q : Nat) (σ : StC) (x1 : Int32) (x2 : Int32) {val : Int32} (h : f_C_clashes σ x1 x2 = some val) : RoM l y_C_clashes b_C_clashes 6 (some .boolean) 3 72 D [(cI, .int), (cZ, .boolean)] [.ref (a 3), .int x1, .int x2] (wC cI cZ a q σ) val :=
  ro_of (by decide) (Nat.le_of_ble_eq_true rfl) (fun p e s m args below meth c ls C0 hP hl => t_C_clashes_0 (a := a) C0 hP h (lv_sub hl [0, 1, 2] rfl))
def f_C_leastOf_4_s (k4 : StC → Int32 → Int32 → Int32 → Option Int32) (σ : StC) (x1 x2 x3 : Int32) : Option Int32 :=
  if (C_count σ) ≤ x3 then
    some (x1 &&& (x2 ^^^ (-1)))
  else
    if (f_L_has x1 x3) = 0 then
      k4 σ x1 x2 (x3 + 1)
    else
      if x3 < 0 ∨ 30 ≤ x3.toNatClampNeg then none else
      k4 σ x1 (x2 ||| ((C_above σ) x3.toNatClampNeg)) (x3 + 1)
def f_C_leastOf_4 : Nat → StC → Int32 → Int32 → Int32 → Option Int32
  | 0, _, _, _, _ => none
  | n + 1, σ, x1, x2, x3 => f_C_leastOf_4_s (f_C_leastOf_4 n) σ x1 x2 x3
def f_C_leastOf (σ : StC) (x1 : Int32) : Option Int32 :=
  f_C_leastOf_4 1000 σ x1 0 0
set_option maxHeartbeats 4000000 in
set_option maxRecDepth 100000 in
theorem t_C_leastOf_4_s {p : Program} {l : Launch} {e : Env} {s : State} {m : MethodId} {args : Array Value} {below : List Frame} {meth : Method} {c : Code} {D : va_G} {cI cZ : ClassId} {a : Nat → Nat} {q : Nat} {σ : StC} (C0 : Am p s m args meth c b_C_leastOf (some .int) 4 R_C D [(cI, .int), (cZ, .boolean)]) (hP : va_P D vwCl (wC cI cZ a q σ) s.heap) {val : Int32} {k4 : StC → Int32 → Int32 → Int32 → Option Int32}  (hk4 : ∀ (x1 x2 x3 : Int32) (ls : Array Slot), k4 σ x1 x2 x3 = some val → lv_has ls 4 [(0, .ref (a 3)), (1, .int x1), (2, .int x2), (3, .int x3)] → RoW p l e (rmK 1 21 0 0) s m args below meth c val (F0 m 4 ls [])) {x1 x2 x3 : Int32} (h : f_C_leastOf_4_s k4 σ x1 x2 x3 = some val) {ls : Array Slot} (hl : lv_has ls 4 [(0, .ref (a 3)), (1, .int x1), (2, .int x2), (3, .int x3)]) : RoW p l e (rmK 1 21 0 0) s m args below meth c val (F0 m 4 ls []) := by
  obtain ⟨hx, hb, hr, hml, hown, hts, hlk, hK⟩ := id C0
  unfold f_C_leastOf_4_s at h
  refine lv_iload_n hx hb d_C_leastOf_4 rfl (lv_at hl 3 rfl) ?_
  refine lv_aload_n hx hb d_C_leastOf_5 rfl (lv_at hl 0 rfl) ?_
  refine va_get (ci := 1) (v := .int (C_count σ)) (C := R_C) (T := F_C) (N := 8) hx hb hts i_C hown hK.1 hP 0 rfl rfl 6 (by decide) (hts _ wd_3) (fun _ h9 => h9) rfl d_C_leastOf_6 ?_
  refine lv_icmp_ge (tgt := 35) hx hb d_C_leastOf_9 (by decide) (fun hc => ?_) (fun hc => ?_)
  · rw [if_pos hc] at h
    refine lv_iload_n hx hb d_C_leastOf_35 rfl (lv_at hl 1 rfl) ?_
    refine lv_iload_n hx hb d_C_leastOf_36 rfl (lv_at hl 2 rfl) ?_
    refine lv_iconst (v := (-1)) hx hb d_C_leastOf_37 (by decide) ?_
    refine lv_ixor hx hb d_C_leastOf_38 ?_
    refine lv_iand hx hb d_C_leastOf_39 ?_
    exact ro_ret C0 (Option.some.inj h) d_C_leastOf_40
  · rw [if_neg hc] at h
    refine lv_iload_n hx hb d_C_leastOf_12 rfl (lv_at hl 1 rfl) ?_
    refine lv_iload_n hx hb d_C_leastOf_13 rfl (lv_at hl 3 rfl) ?_
    refine ro_SN (n := 2) (As := [.int x1, .int x3]) (rest := []) C0 (c_L_has l D cI cZ a x1 x3 rfl) (List.mem_of_getElem? (i := 3) rfl) ⟨wd_75, wd_76, wd_55⟩ (by decide +kernel) ⟨Nat.le_of_ble_eq_true rfl, Nat.le_of_ble_eq_true rfl⟩ pnil hl rfl rfl (Nat.le_of_ble_eq_true rfl) ⟨Nat.zero_le _, Nat.zero_le _⟩ d_C_leastOf_14 ?_
    refine lv_if_eq (tgt := 29) hx hb d_C_leastOf_17 (by decide) (fun hc => ?_) (fun hc => ?_)
    · rw [if_pos hc] at h
      refine lv_iinc (v := (x3 + 1)) (lv' := [(3, .int (x3 + 1)), (0, .ref (a 3)), (1, .int x1), (2, .int x2)]) hx hb d_C_leastOf_29 hl (k := 3) rfl rfl (by decide) rfl (fun ls hl => ?_)
      refine lv_goto (tgt := 4) hx hb d_C_leastOf_32 (by decide) ?_
      exact hk4 _ _ _ _ h (lv_sub hl [1, 2, 3, 0] rfl)
    · rw [if_neg hc] at h
      refine lv_iload_n hx hb d_C_leastOf_20 rfl (lv_at hl 2 rfl) ?_
      refine lv_aload_n hx hb d_C_leastOf_21 rfl (lv_at hl 0 rfl) ?_
      refine va_get (ci := 1) (v := .ref (a 6)) (C := R_C) (T := F_C) (N := 8) hx hb hts i_C hown hK.1 hP 0 rfl rfl 2 (by decide) (hts _ wd_9) (fun _ h9 => h9) rfl d_C_leastOf_22 ?_
      refine lv_iload_n hx hb d_C_leastOf_25 rfl (lv_at hl 3 rfl) ?_
      replace h := gd h
      obtain ⟨hi, h⟩ := h
      refine va_iald hx hb hK.1 hP 3 0 rfl rfl hi d_C_leastOf_26 ?_
      refine lv_ior hx hb d_C_leastOf_27 ?_
      refine lv_istore_n (lv' := [(2, .int (x2 ||| ((C_above σ) x3.toNatClampNeg))), (0, .ref (a 3)), (1, .int x1), (3, .int x3)]) hx hb d_C_leastOf_28 rfl hl (by decide) rfl (fun ls hl => ?_)
      refine lv_iinc (v := (x3 + 1)) (lv' := [(3, .int (x3 + 1)), (2, .int (x2 ||| ((C_above σ) x3.toNatClampNeg))), (0, .ref (a 3)), (1, .int x1)]) hx hb d_C_leastOf_29 hl (k := 3) rfl rfl (by decide) rfl (fun ls hl => ?_)
      refine lv_goto (tgt := 4) hx hb d_C_leastOf_32 (by decide) ?_
      exact hk4 _ _ _ _ h (lv_sub hl [2, 3, 1, 0] rfl)
set_option maxHeartbeats 4000000 in
set_option maxRecDepth 100000 in
theorem t_C_leastOf_4 {p : Program} {l : Launch} {e : Env} {s : State} {m : MethodId} {args : Array Value} {below : List Frame} {meth : Method} {c : Code} {D : va_G} {cI cZ : ClassId} {a : Nat → Nat} {q : Nat} {σ : StC} (C0 : Am p s m args meth c b_C_leastOf (some .int) 4 R_C D [(cI, .int), (cZ, .boolean)]) (hP : va_P D vwCl (wC cI cZ a q σ) s.heap) {val : Int32}  {n : Nat} {x1 x2 x3 : Int32} (h : f_C_leastOf_4  n σ x1 x2 x3 = some val) {ls : Array Slot} (hl : lv_has ls 4 [(0, .ref (a 3)), (1, .int x1), (2, .int x2), (3, .int x3)]) : RoW p l e (rmK 1 21 0 0) s m args below meth c val (F0 m 4 ls []) := by
  induction n generalizing x1 x2 x3 ls with
  | zero => cases h
  | succ n ih => exact t_C_leastOf_4_s (a := a) C0 hP  (fun _ _ _ _ h hl => ih h hl) h hl
set_option maxHeartbeats 4000000 in
set_option maxRecDepth 100000 in
theorem t_C_leastOf_0 {p : Program} {l : Launch} {e : Env} {s : State} {m : MethodId} {args : Array Value} {below : List Frame} {meth : Method} {c : Code} {D : va_G} {cI cZ : ClassId} {a : Nat → Nat} {q : Nat} {σ : StC} (C0 : Am p s m args meth c b_C_leastOf (some .int) 4 R_C D [(cI, .int), (cZ, .boolean)]) (hP : va_P D vwCl (wC cI cZ a q σ) s.heap) {val : Int32}   {x1 : Int32} (h : f_C_leastOf σ x1 = some val) {ls : Array Slot} (hl : lv_has ls 4 [(0, .ref (a 3)), (1, .int x1)]) : RoW p l e (rmK 1 21 0 0) s m args below meth c val (F0 m 0 ls []) := by
  obtain ⟨hx, hb, hr, hml, hown, hts, hlk, hK⟩ := id C0
  unfold f_C_leastOf at h
  refine lv_iconst (v := 0) hx hb d_C_leastOf_0 (by decide) ?_
  refine lv_istore_n (lv' := [(2, .int 0), (0, .ref (a 3)), (1, .int x1)]) hx hb d_C_leastOf_1 rfl hl (by decide) rfl (fun ls hl => ?_)
  refine lv_iconst (v := 0) hx hb d_C_leastOf_2 (by decide) ?_
  refine lv_istore_n (lv' := [(3, .int 0), (2, .int 0), (0, .ref (a 3)), (1, .int x1)]) hx hb d_C_leastOf_3 rfl hl (by decide) rfl (fun ls hl => ?_)
  exact t_C_leastOf_4 (a := a) C0 hP  h (lv_sub hl [2, 3, 1, 0] rfl)
set_option maxHeartbeats 4000000 in
set_option maxRecDepth 100000 in
theorem c_C_leastOf (l : Launch) (D : va_G) (cI cZ : ClassId) (a : Nat → Nat) (q : Nat) (σ : StC) (x1 : Int32) {val : Int32} (h : f_C_leastOf σ x1 = some val) : RoM l y_C_leastOf b_C_leastOf 4 (some .int) 1 21 D [(cI, .int), (cZ, .boolean)] [.ref (a 3), .int x1] (wC cI cZ a q σ) val :=
  ro_of (by decide) (Nat.le_of_ble_eq_true rfl) (fun p e s m args below meth c ls C0 hP hl => t_C_leastOf_0 (a := a) C0 hP h (lv_sub hl [0, 1] rfl))
end
section
def f_T_add (σ : StT) (x1 x2 : Int32) : Option (Int32 × StT) :=
  if 300 ≤ (T_count σ) then
    some ((-1), σ)
  else
    if x2 ≤ 100 then
      if (T_count σ) < 0 ∨ 300 ≤ (T_count σ).toNatClampNeg then none else
      if (T_count σ) < 0 ∨ 300 ≤ (T_count σ).toNatClampNeg then none else
      if (T_count σ) < 0 ∨ 300 ≤ (T_count σ).toNatClampNeg then none else
      if (T_count σ) < 0 ∨ 300 ≤ (T_count σ).toNatClampNeg then none else
      if (T_count σ) < 0 ∨ 300 ≤ (T_count σ).toNatClampNeg then none else
      if (T_count σ) < 0 ∨ 300 ≤ (T_count σ).toNatClampNeg then none else
      if (T_count σ) < 0 ∨ 300 ≤ (T_count σ).toNatClampNeg then none else
      some ((T_count σ), (T_put_partCounts (T_put_partStarts (T_put_sizes (T_put_elements (T_put_arguments (T_put_named (T_put_kinds (T_set_count σ ((T_count σ) + 1)) (T_count σ) x1) (T_count σ) (-1)) (T_count σ) 0) (T_count σ) (-1)) (T_count σ) x2) (T_count σ) 0) (T_count σ) 0))
    else
      some ((-1), σ)
set_option maxHeartbeats 4000000 in
set_option maxRecDepth 100000 in
theorem t_T_add_0 {p : Program} {l : Launch} {e : Env} {s : State} {m : MethodId} {args : Array Value} {below : List Frame} {meth : Method} {c : Code} {D : va_G} {cI cZ : ClassId} {a : Nat → Nat} {A : Nat → Prop} (C0 : Am p s m args meth c b_T_add (some .int) 4 R_T D [(cI, .int), (cZ, .boolean)]) (hA : ∀ q, s.heap.size ≤ q → A q) {res : Int32 × StT}   {q : Nat} {σ : StT} {x1 x2 : Int32} (h : f_T_add σ x1 x2 = some res) {H : Heap} {locs : List Loc} (hP : va_P D vwCl (wT cI cZ a q σ) H) (hD : va_D A (wT cI cZ a q σ)) (hS : va_S A s.heap H locs) {ls : Array Slot} (hl : lv_has ls 4 [(0, .ref (a 10)), (1, .int x1), (2, .int x2)]) : W p l e (rmK 0 0 0 0) s m args below meth c H locs 0 0 (RwQ below args s D A (fun q (σ : StT) => (wT cI cZ a q σ)) res 0 0) (F0 m 0 ls []) := by
  obtain ⟨hx, hb, hr, hml, hown, hts, hlk, hK⟩ := id C0
  unfold f_T_add at h
  refine lv_aload_n hx hb d_T_add_0 rfl (lv_at hl 0 rfl) ?_
  refine va_get (ci := 2) (v := .int (T_count σ)) (C := R_T) (T := F_T) (N := 12) hx hb hts i_T hown hK.1 hP 0 rfl rfl 9 (by decide) (hts _ wd_40) (fun _ h9 => h9) rfl d_T_add_1 ?_
  refine lv_sipush (v := 300) hx hb d_T_add_4 (by decide) ?_
  refine lv_icmp_ge (tgt := 16) hx hb d_T_add_7 (by decide) (fun hc => ?_) (fun hc => ?_)
  · rw [if_pos hc] at h
    refine lv_iconst (v := (-1)) hx hb d_T_add_16 (by decide) ?_
    exact rw_ret C0 hP hD hS (Option.some.inj h) d_T_add_17
  · rw [if_neg hc] at h
    refine lv_iload_n hx hb d_T_add_10 rfl (lv_at hl 2 rfl) ?_
    refine lv_bipush (v := 100) hx hb d_T_add_11 (by decide) ?_
    refine lv_icmp_le (tgt := 18) hx hb d_T_add_13 (by decide) (fun hc => ?_) (fun hc => ?_)
    · rw [if_pos hc] at h
      refine lv_aload_n hx hb d_T_add_18 rfl (lv_at hl 0 rfl) ?_
      refine va_get (ci := 2) (v := .int (T_count σ)) (C := R_T) (T := F_T) (N := 12) hx hb hts i_T hown hK.1 hP 0 rfl rfl 9 (by decide) (hts _ wd_40) (fun _ h9 => h9) rfl d_T_add_19 ?_
      refine lv_istore_n (lv' := [(3, .int (T_count σ)), (0, .ref (a 10)), (1, .int x1), (2, .int x2)]) hx hb d_T_add_22 rfl hl (by decide) rfl (fun ls hl => ?_)
      refine lv_aload_n hx hb d_T_add_23 rfl (lv_at hl 1 rfl) ?_
      refine lv_dup hx hb d_T_add_24 rfl ?_
      refine va_get (ci := 2) (v := .int (T_count σ)) (C := R_T) (T := F_T) (N := 12) hx hb hts i_T hown hK.1 hP 0 rfl rfl 9 (by decide) (hts _ wd_40) (fun _ h9 => h9) rfl d_T_add_25 ?_
      refine lv_iconst (v := 1) hx hb d_T_add_28 (by decide) ?_
      refine lv_iadd hx hb d_T_add_29 ?_
      refine rw_put (v := .int ((T_count σ) + 1)) (fty := .int) (C := R_T) (T := F_T) (N := 12) C0 hP hD hS i_T ty_T tyok_T nn_T 0 rfl rfl 9 (by decide) (hts _ wd_40) rfl rfl (by decide +kernel) rfl rfl (Nat.le_of_ble_eq_true rfl) d_T_add_30 (Wn := (wT cI cZ a q (T_set_count σ ((T_count σ) + 1)))) ws_T_set_count (fun H locs hP hD hS => ?_)
      refine lv_aload_n hx hb d_T_add_33 rfl (lv_at hl 1 rfl) ?_
      refine va_get (ci := 2) (v := .ref (a 11)) (C := R_T) (T := F_T) (N := 12) hx hb hts i_T hown hK.1 hP 0 rfl rfl 0 (by decide) (hts _ wd_41) (fun _ h9 => h9) rfl d_T_add_34 ?_
      refine lv_iload_n hx hb d_T_add_37 rfl (lv_at hl 0 rfl) ?_
      refine lv_iload_n hx hb d_T_add_38 rfl (lv_at hl 2 rfl) ?_
      replace h := gd h
      obtain ⟨hi, h⟩ := h
      refine rw_iast C0 hP hD hS 1 0 rfl rfl hi d_T_add_39 (Wn := (wT cI cZ a q (T_put_kinds (T_set_count σ ((T_count σ) + 1)) (T_count σ) x1))) ws_T_put_kinds (fun H locs hP hD hS => ?_)
      refine lv_aload_n hx hb d_T_add_40 rfl (lv_at hl 1 rfl) ?_
      refine va_get (ci := 2) (v := .ref (a 12)) (C := R_T) (T := F_T) (N := 12) hx hb hts i_T hown hK.1 hP 0 rfl rfl 1 (by decide) (hts _ wd_42) (fun _ h9 => h9) rfl d_T_add_41 ?_
      refine lv_iload_n hx hb d_T_add_44 rfl (lv_at hl 0 rfl) ?_
      refine lv_iconst (v := (-1)) hx hb d_T_add_45 (by decide) ?_
      replace h := gd h
      obtain ⟨hi, h⟩ := h
      refine rw_iast C0 hP hD hS 2 0 rfl rfl hi d_T_add_46 (Wn := (wT cI cZ a q (T_put_named (T_put_kinds (T_set_count σ ((T_count σ) + 1)) (T_count σ) x1) (T_count σ) (-1)))) ws_T_put_named (fun H locs hP hD hS => ?_)
      refine lv_aload_n hx hb d_T_add_47 rfl (lv_at hl 1 rfl) ?_
      refine va_get (ci := 2) (v := .ref (a 13)) (C := R_T) (T := F_T) (N := 12) hx hb hts i_T hown hK.1 hP 0 rfl rfl 2 (by decide) (hts _ wd_43) (fun _ h9 => h9) rfl d_T_add_48 ?_
      refine lv_iload_n hx hb d_T_add_51 rfl (lv_at hl 0 rfl) ?_
      refine lv_iconst (v := 0) hx hb d_T_add_52 (by decide) ?_
      replace h := gd h
      obtain ⟨hi, h⟩ := h
      refine rw_iast C0 hP hD hS 3 0 rfl rfl hi d_T_add_53 (Wn := (wT cI cZ a q (T_put_arguments (T_put_named (T_put_kinds (T_set_count σ ((T_count σ) + 1)) (T_count σ) x1) (T_count σ) (-1)) (T_count σ) 0))) ws_T_put_arguments (fun H locs hP hD hS => ?_)
      refine lv_aload_n hx hb d_T_add_54 rfl (lv_at hl 1 rfl) ?_
      refine va_get (ci := 2) (v := .ref (a 14)) (C := R_T) (T := F_T) (N := 12) hx hb hts i_T hown hK.1 hP 0 rfl rfl 3 (by decide) (hts _ wd_44) (fun _ h9 => h9) rfl d_T_add_55 ?_
      refine lv_iload_n hx hb d_T_add_58 rfl (lv_at hl 0 rfl) ?_
      refine lv_iconst (v := (-1)) hx hb d_T_add_59 (by decide) ?_
      replace h := gd h
      obtain ⟨hi, h⟩ := h
      refine rw_iast C0 hP hD hS 4 0 rfl rfl hi d_T_add_60 (Wn := (wT cI cZ a q (T_put_elements (T_put_arguments (T_put_named (T_put_kinds (T_set_count σ ((T_count σ) + 1)) (T_count σ) x1) (T_count σ) (-1)) (T_count σ) 0) (T_count σ) (-1)))) ws_T_put_elements (fun H locs hP hD hS => ?_)
      refine lv_aload_n hx hb d_T_add_61 rfl (lv_at hl 1 rfl) ?_
      refine va_get (ci := 2) (v := .ref (a 15)) (C := R_T) (T := F_T) (N := 12) hx hb hts i_T hown hK.1 hP 0 rfl rfl 4 (by decide) (hts _ wd_45) (fun _ h9 => h9) rfl d_T_add_62 ?_
      refine lv_iload_n hx hb d_T_add_65 rfl (lv_at hl 0 rfl) ?_
      refine lv_iload_n hx hb d_T_add_66 rfl (lv_at hl 3 rfl) ?_
      replace h := gd h
      obtain ⟨hi, h⟩ := h
      refine rw_iast C0 hP hD hS 5 0 rfl rfl hi d_T_add_67 (Wn := (wT cI cZ a q (T_put_sizes (T_put_elements (T_put_arguments (T_put_named (T_put_kinds (T_set_count σ ((T_count σ) + 1)) (T_count σ) x1) (T_count σ) (-1)) (T_count σ) 0) (T_count σ) (-1)) (T_count σ) x2))) ws_T_put_sizes (fun H locs hP hD hS => ?_)
      refine lv_aload_n hx hb d_T_add_68 rfl (lv_at hl 1 rfl) ?_
      refine va_get (ci := 2) (v := .ref (a 16)) (C := R_T) (T := F_T) (N := 12) hx hb hts i_T hown hK.1 hP 0 rfl rfl 5 (by decide) (hts _ wd_46) (fun _ h9 => h9) rfl d_T_add_69 ?_
      refine lv_iload_n hx hb d_T_add_72 rfl (lv_at hl 0 rfl) ?_
      refine lv_iconst (v := 0) hx hb d_T_add_73 (by decide) ?_
      replace h := gd h
      obtain ⟨hi, h⟩ := h
      refine rw_iast C0 hP hD hS 6 0 rfl rfl hi d_T_add_74 (Wn := (wT cI cZ a q (T_put_partStarts (T_put_sizes (T_put_elements (T_put_arguments (T_put_named (T_put_kinds (T_set_count σ ((T_count σ) + 1)) (T_count σ) x1) (T_count σ) (-1)) (T_count σ) 0) (T_count σ) (-1)) (T_count σ) x2) (T_count σ) 0))) ws_T_put_partStarts (fun H locs hP hD hS => ?_)
      refine lv_aload_n hx hb d_T_add_75 rfl (lv_at hl 1 rfl) ?_
      refine va_get (ci := 2) (v := .ref (a 17)) (C := R_T) (T := F_T) (N := 12) hx hb hts i_T hown hK.1 hP 0 rfl rfl 6 (by decide) (hts _ wd_47) (fun _ h9 => h9) rfl d_T_add_76 ?_
      refine lv_iload_n hx hb d_T_add_79 rfl (lv_at hl 0 rfl) ?_
      refine lv_iconst (v := 0) hx hb d_T_add_80 (by decide) ?_
      replace h := gd h
      obtain ⟨hi, h⟩ := h
      refine rw_iast C0 hP hD hS 7 0 rfl rfl hi d_T_add_81 (Wn := (wT cI cZ a q (T_put_partCounts (T_put_partStarts (T_put_sizes (T_put_elements (T_put_arguments (T_put_named (T_put_kinds (T_set_count σ ((T_count σ) + 1)) (T_count σ) x1) (T_count σ) (-1)) (T_count σ) 0) (T_count σ) (-1)) (T_count σ) x2) (T_count σ) 0) (T_count σ) 0))) ws_T_put_partCounts (fun H locs hP hD hS => ?_)
      refine lv_iload_n hx hb d_T_add_82 rfl (lv_at hl 0 rfl) ?_
      exact rw_ret C0 hP hD hS (Option.some.inj h) d_T_add_83
    · rw [if_neg hc] at h
      refine lv_iconst (v := (-1)) hx hb d_T_add_16 (by decide) ?_
      exact rw_ret C0 hP hD hS (Option.some.inj h) d_T_add_17
set_option maxHeartbeats 4000000 in
set_option maxRecDepth 100000 in
theorem c_T_add (l : Launch) (D : va_G) (cI cZ : ClassId) (a : Nat → Nat) (q : Nat) (σ : StT) (x1 : Int32) (x2 : Int32) {res : Int32 × StT} (h : f_T_add σ x1 x2 = some res) : RwM l y_T_add b_T_add 4 (some .int) 0 0 D [(cI, .int), (cZ, .boolean)] [.ref (a 10), .int x1, .int x2] (fun q (σ : StT) => (wT cI cZ a q σ)) q σ res :=
  rw_of (by decide) (Nat.le_of_ble_eq_true rfl) (fun p e s m args below meth c ls A C0 hA hP hD hS hl => t_T_add_0 (a := a) C0 hA h hP hD hS (lv_sub hl [0, 1, 2] rfl))
def f_T_isThere (σ : StT) (x1 : Int32) : Int32 :=
  if x1 < 0 then
    0
  else
    if (T_count σ) ≤ x1 then
      0
    else
      1
set_option maxHeartbeats 4000000 in
set_option maxRecDepth 100000 in
theorem t_T_isThere_0 {p : Program} {l : Launch} {e : Env} {s : State} {m : MethodId} {args : Array Value} {below : List Frame} {meth : Method} {c : Code} {D : va_G} {cI cZ : ClassId} {a : Nat → Nat} {q : Nat} {σ : StT} (C0 : Am p s m args meth c b_T_isThere (some .boolean) 2 R_T D [(cI, .int), (cZ, .boolean)]) (hP : va_P D vwCl (wT cI cZ a q σ) s.heap) {val : Int32}   {x1 : Int32} (h : f_T_isThere σ x1 = val) {ls : Array Slot} (hl : lv_has ls 2 [(0, .ref (a 10)), (1, .int x1)]) : RoW p l e (rmK 0 0 0 0) s m args below meth c val (F0 m 0 ls []) := by
  obtain ⟨hx, hb, hr, hml, hown, hts, hlk, hK⟩ := id C0
  unfold f_T_isThere at h
  refine lv_iload_n hx hb d_T_isThere_0 rfl (lv_at hl 1 rfl) ?_
  refine lv_if_lt (tgt := 16) hx hb d_T_isThere_1 (by decide) (fun hc => ?_) (fun hc => ?_)
  · rw [if_pos hc] at h
    refine lv_iconst (v := 0) hx hb d_T_isThere_16 (by decide) ?_
    exact ro_retz C0 (by decide) h d_T_isThere_17
  · rw [if_neg hc] at h
    refine lv_iload_n hx hb d_T_isThere_4 rfl (lv_at hl 1 rfl) ?_
    refine lv_aload_n hx hb d_T_isThere_5 rfl (lv_at hl 0 rfl) ?_
    refine va_get (ci := 2) (v := .int (T_count σ)) (C := R_T) (T := F_T) (N := 12) hx hb hts i_T hown hK.1 hP 0 rfl rfl 9 (by decide) (hts _ wd_40) (fun _ h9 => h9) rfl d_T_isThere_6 ?_
    refine lv_icmp_ge (tgt := 16) hx hb d_T_isThere_9 (by decide) (fun hc => ?_) (fun hc => ?_)
    · rw [if_pos hc] at h
      refine lv_iconst (v := 0) hx hb d_T_isThere_16 (by decide) ?_
      exact ro_retz C0 (by decide) h d_T_isThere_17
    · rw [if_neg hc] at h
      refine lv_iconst (v := 1) hx hb d_T_isThere_12 (by decide) ?_
      refine lv_goto (tgt := 17) hx hb d_T_isThere_13 (by decide) ?_
      exact ro_retz C0 (by decide) h d_T_isThere_17
set_option maxHeartbeats 4000000 in
set_option maxRecDepth 100000 in
theorem c_T_isThere (l : Launch) (D : va_G) (cI cZ : ClassId) (a : Nat → Nat) (q : Nat) (σ : StT) (x1 : Int32) {val : Int32} (h : f_T_isThere σ x1 = val) : RoM l y_T_isThere b_T_isThere 2 (some .boolean) 0 0 D [(cI, .int), (cZ, .boolean)] [.ref (a 10), .int x1] (wT cI cZ a q σ) val :=
  ro_of (by decide) (Nat.le_of_ble_eq_true rfl) (fun p e s m args below meth c ls C0 hP hl => t_T_isThere_0 (a := a) C0 hP h (lv_sub hl [0, 1] rfl))
def f_T_sizeOf (σ : StT) (x1 : Int32) : Option Int32 :=
  if (f_T_isThere σ x1) = 0 then
    some 0
  else
    if x1 < 0 ∨ 300 ≤ x1.toNatClampNeg then none else
    some ((T_sizes σ) x1.toNatClampNeg)
set_option maxHeartbeats 4000000 in
set_option maxRecDepth 100000 in
theorem t_T_sizeOf_0 {p : Program} {l : Launch} {e : Env} {s : State} {m : MethodId} {args : Array Value} {below : List Frame} {meth : Method} {c : Code} {D : va_G} {cI cZ : ClassId} {a : Nat → Nat} {q : Nat} {σ : StT} (C0 : Am p s m args meth c b_T_sizeOf (some .int) 2 R_T D [(cI, .int), (cZ, .boolean)]) (hP : va_P D vwCl (wT cI cZ a q σ) s.heap) {val : Int32}   {x1 : Int32} (h : f_T_sizeOf σ x1 = some val) {ls : Array Slot} (hl : lv_has ls 2 [(0, .ref (a 10)), (1, .int x1)]) : RoW p l e (rmK 1 21 0 0) s m args below meth c val (F0 m 0 ls []) := by
  obtain ⟨hx, hb, hr, hml, hown, hts, hlk, hK⟩ := id C0
  unfold f_T_sizeOf at h
  refine lv_aload_n hx hb d_T_sizeOf_0 rfl (lv_at hl 0 rfl) ?_
  refine lv_iload_n hx hb d_T_sizeOf_1 rfl (lv_at hl 1 rfl) ?_
  refine ro_V (n := 1) (ci := 2) (As := [.int x1]) (rest := []) C0 (c_T_isThere l D cI cZ a q σ x1 rfl) wd_48 ⟨wd_49, wd_50, wd_51, wd_52⟩ (by decide +kernel) ⟨Nat.le_of_ble_eq_true rfl, Nat.le_of_ble_eq_true rfl⟩ hP rfl rfl rfl hl rfl rfl (Nat.le_of_ble_eq_true rfl) ⟨Nat.zero_le _, Nat.zero_le _⟩ d_T_sizeOf_2 ?_
  refine lv_if_eq (tgt := 17) hx hb d_T_sizeOf_5 (by decide) (fun hc => ?_) (fun hc => ?_)
  · rw [if_pos hc] at h
    refine lv_iconst (v := 0) hx hb d_T_sizeOf_17 (by decide) ?_
    exact ro_ret C0 (Option.some.inj h) d_T_sizeOf_18
  · rw [if_neg hc] at h
    refine lv_aload_n hx hb d_T_sizeOf_8 rfl (lv_at hl 0 rfl) ?_
    refine va_get (ci := 2) (v := .ref (a 15)) (C := R_T) (T := F_T) (N := 12) hx hb hts i_T hown hK.1 hP 0 rfl rfl 4 (by decide) (hts _ wd_45) (fun _ h9 => h9) rfl d_T_sizeOf_9 ?_
    refine lv_iload_n hx hb d_T_sizeOf_12 rfl (lv_at hl 1 rfl) ?_
    replace h := gd h
    obtain ⟨hi, h⟩ := h
    refine va_iald hx hb hK.1 hP 5 0 rfl rfl hi d_T_sizeOf_13 ?_
    refine lv_goto (tgt := 18) hx hb d_T_sizeOf_14 (by decide) ?_
    exact ro_ret C0 (Option.some.inj h) d_T_sizeOf_18
set_option maxHeartbeats 4000000 in
set_option maxRecDepth 100000 in
theorem c_T_sizeOf (l : Launch) (D : va_G) (cI cZ : ClassId) (a : Nat → Nat) (q : Nat) (σ : StT) (x1 : Int32) {val : Int32} (h : f_T_sizeOf σ x1 = some val) : RoM l y_T_sizeOf b_T_sizeOf 2 (some .int) 1 21 D [(cI, .int), (cZ, .boolean)] [.ref (a 10), .int x1] (wT cI cZ a q σ) val :=
  ro_of (by decide) (Nat.le_of_ble_eq_true rfl) (fun p e s m args below meth c ls C0 hP hl => t_T_sizeOf_0 (a := a) C0 hP h (lv_sub hl [0, 1] rfl))
def f_T_makeNamed_8_s (k8 : StT → Int32 → Int32 → Int32 → Option (Int32 × StT)) (σ : StT) (x1 x2 x3 : Int32) : Option (Int32 × StT) :=
  if (T_count σ) ≤ x3 then
    (f_T_sizeOf σ (f_L_typeOf x2)).bind fun r1 =>
    (f_T_add σ 1 (1 + r1)).bind fun r2 =>
    if r2.1 = (-1) then
      some (r2.1, r2.2)
    else
      if r2.1 < 0 ∨ 300 ≤ r2.1.toNatClampNeg then none else
      if r2.1 < 0 ∨ 300 ≤ r2.1.toNatClampNeg then none else
      if r2.1 < 0 ∨ 300 ≤ r2.1.toNatClampNeg then none else
      some (r2.1, (T_put_partCounts (T_put_arguments (T_put_named r2.2 r2.1 x1) r2.1 x2) r2.1 1))
  else
    if x3 < 0 ∨ 300 ≤ x3.toNatClampNeg then none else
    if ((T_kinds σ) x3.toNatClampNeg) = 1 then
      if x3 < 0 ∨ 300 ≤ x3.toNatClampNeg then none else
      if ((T_named σ) x3.toNatClampNeg) = x1 then
        if x3 < 0 ∨ 300 ≤ x3.toNatClampNeg then none else
        if ((T_arguments σ) x3.toNatClampNeg) = x2 then
          some (x3, σ)
        else
          k8 σ x1 x2 (x3 + 1)
      else
        k8 σ x1 x2 (x3 + 1)
    else
      k8 σ x1 x2 (x3 + 1)
def f_T_makeNamed_8 : Nat → StT → Int32 → Int32 → Int32 → Option (Int32 × StT)
  | 0, _, _, _, _ => none
  | n + 1, σ, x1, x2, x3 => f_T_makeNamed_8_s (f_T_makeNamed_8 n) σ x1 x2 x3
def f_T_makeNamed (σ : StT) (x1 x2 : Int32) : Option (Int32 × StT) :=
  if 0 ≤ x2 then
    f_T_makeNamed_8 1000 σ x1 x2 0
  else
    some ((-1), σ)
set_option maxHeartbeats 4000000 in
set_option maxRecDepth 100000 in
theorem t_T_makeNamed_8_s {p : Program} {l : Launch} {e : Env} {s : State} {m : MethodId} {args : Array Value} {below : List Frame} {meth : Method} {c : Code} {D : va_G} {cI cZ : ClassId} {a : Nat → Nat} {A : Nat → Prop} (C0 : Am p s m args meth c b_T_makeNamed (some .int) 4 R_T D [(cI, .int), (cZ, .boolean)]) (hA : ∀ q, s.heap.size ≤ q → A q) {res : Int32 × StT} {k8 : StT → Int32 → Int32 → Int32 → Option (Int32 × StT)}  (hk8 : ∀ (q : Nat) (σ : StT) (x1 x2 x3 : Int32) (H : Heap) (locs : List Loc) (ls : Array Slot), k8 σ x1 x2 x3 = some res → va_P D vwCl (wT cI cZ a q σ) H → va_D A (wT cI cZ a q σ) → va_S A s.heap H locs → lv_has ls 4 [(0, .ref (a 10)), (1, .int x1), (2, .int x2), (3, .int x3)] → W p l e (rmK 2 42 0 0) s m args below meth c H locs 0 0 (RwQ below args s D A (fun q (σ : StT) => (wT cI cZ a q σ)) res 0 0) (F0 m 8 ls [])) {q : Nat} {σ : StT} {x1 x2 x3 : Int32} (h : f_T_makeNamed_8_s k8 σ x1 x2 x3 = some res) {H : Heap} {locs : List Loc} (hP : va_P D vwCl (wT cI cZ a q σ) H) (hD : va_D A (wT cI cZ a q σ)) (hS : va_S A s.heap H locs) {ls : Array Slot} (hl : lv_has ls 4 [(0, .ref (a 10)), (1, .int x1), (2, .int x2), (3, .int x3)]) : W p l e (rmK 2 42 0 0) s m args below meth c H locs 0 0 (RwQ below args s D A (fun q (σ : StT) => (wT cI cZ a q σ)) res 0 0) (F0 m 8 ls []) := by
  obtain ⟨hx, hb, hr, hml, hown, hts, hlk, hK⟩ := id C0
  unfold f_T_makeNamed_8_s at h
  refine lv_iload_n hx hb d_T_makeNamed_8 rfl (lv_at hl 3 rfl) ?_
  refine lv_aload_n hx hb d_T_makeNamed_9 rfl (lv_at hl 0 rfl) ?_
  refine va_get (ci := 2) (v := .int (T_count σ)) (C := R_T) (T := F_T) (N := 12) hx hb hts i_T hown hK.1 hP 0 rfl rfl 9 (by decide) (hts _ wd_40) (fun _ h9 => h9) rfl d_T_makeNamed_10 ?_
  refine lv_icmp_ge (tgt := 54) hx hb d_T_makeNamed_13 (by decide) (fun hc => ?_) (fun hc => ?_)
  · rw [if_pos hc] at h
    refine lv_aload_n hx hb d_T_makeNamed_54 rfl (lv_at hl 0 rfl) ?_
    refine lv_iconst (v := 1) hx hb d_T_makeNamed_55 (by decide) ?_
    refine lv_iconst (v := 1) hx hb d_T_makeNamed_56 (by decide) ?_
    refine lv_aload_n hx hb d_T_makeNamed_57 rfl (lv_at hl 0 rfl) ?_
    refine lv_iload_n hx hb d_T_makeNamed_58 rfl (lv_at hl 2 rfl) ?_
    refine ro_SN (n := 1) (As := [.int x2]) (rest := [.ref (a 10), .int 1, .int 1, .ref (a 10)]) C0 (c_L_typeOf l D cI cZ a x2 rfl) (List.mem_of_getElem? (i := 1) rfl) ⟨wd_53, wd_54, wd_55⟩ (by decide +kernel) ⟨Nat.le_of_ble_eq_true rfl, Nat.le_of_ble_eq_true rfl⟩ pnil hl rfl rfl (Nat.le_of_ble_eq_true rfl) ⟨Nat.zero_le _, Nat.zero_le _⟩ d_T_makeNamed_59 ?_
    replace h := bd h
    obtain ⟨r1, g1, h⟩ := h
    refine ro_V (n := 1) (ci := 2) (As := [.int (f_L_typeOf x2)]) (rest := [.int 1, .int 1, .ref (a 10)]) C0 (c_T_sizeOf l D cI cZ a q σ (f_L_typeOf x2) g1) wd_56 ⟨wd_57, wd_58, wd_59, wd_52⟩ (by decide +kernel) ⟨Nat.le_of_ble_eq_true rfl, Nat.le_of_ble_eq_true rfl⟩ hP rfl rfl rfl hl rfl rfl (Nat.le_of_ble_eq_true rfl) ⟨Nat.zero_le _, Nat.zero_le _⟩ d_T_makeNamed_62 ?_
    try dsimp only at h
    refine lv_iadd hx hb d_T_makeNamed_65 ?_
    replace h := bd h
    obtain ⟨r2, g2, h⟩ := h
    refine rw_V (n := 2) (ci := 2) (As := [.int 1, .int (1 + r1)]) (rest := []) (Wn := fun q => (wT cI cZ a q r2.2)) C0 hA (c_T_add l D cI cZ a q σ 1 (1 + r1) g2) wd_60 ⟨wd_61, wd_62, wd_63, wd_52⟩ (by decide +kernel) ⟨Nat.le_of_ble_eq_true rfl, Nat.le_of_ble_eq_true rfl⟩ hP hD hS [0, 1, 2, 3, 4, 5, 6, 7, 8] [] [0, 1, 2, 3, 4, 5, 6, 7, 8] jn_T__C (by decide) jn_T__R (by decide) (by decide) (by decide) jn_T__W rfl rfl rfl hl rfl rfl (Nat.le_of_ble_eq_true rfl) ⟨Nat.zero_le _, Nat.zero_le _⟩ d_T_makeNamed_66 (fun H locs q hP hD hS => ?_)
    try dsimp only at h
    refine lv_istore_n (lv' := [(3, .int r2.1), (0, .ref (a 10)), (1, .int x1), (2, .int x2)]) hx hb d_T_makeNamed_69 rfl hl (by decide) rfl (fun ls hl => ?_)
    refine lv_iload_n hx hb d_T_makeNamed_70 rfl (lv_at hl 0 rfl) ?_
    refine lv_iconst (v := (-1)) hx hb d_T_makeNamed_71 (by decide) ?_
    refine lv_icmp_eq (tgt := 96) hx hb d_T_makeNamed_72 (by decide) (fun hc => ?_) (fun hc => ?_)
    · rw [if_pos hc] at h
      refine lv_iload_n hx hb d_T_makeNamed_96 rfl (lv_at hl 0 rfl) ?_
      exact rw_ret C0 hP hD hS (Option.some.inj h) d_T_makeNamed_97
    · rw [if_neg hc] at h
      refine lv_aload_n hx hb d_T_makeNamed_75 rfl (lv_at hl 1 rfl) ?_
      refine va_get (ci := 2) (v := .ref (a 12)) (C := R_T) (T := F_T) (N := 12) hx hb hts i_T hown hK.1 hP 0 rfl rfl 1 (by decide) (hts _ wd_42) (fun _ h9 => h9) rfl d_T_makeNamed_76 ?_
      refine lv_iload_n hx hb d_T_makeNamed_79 rfl (lv_at hl 0 rfl) ?_
      refine lv_iload_n hx hb d_T_makeNamed_80 rfl (lv_at hl 2 rfl) ?_
      replace h := gd h
      obtain ⟨hi, h⟩ := h
      refine rw_iast C0 hP hD hS 2 0 rfl rfl hi d_T_makeNamed_81 (Wn := (wT cI cZ a q (T_put_named r2.2 r2.1 x1))) ws_T_put_named (fun H locs hP hD hS => ?_)
      refine lv_aload_n hx hb d_T_makeNamed_82 rfl (lv_at hl 1 rfl) ?_
      refine va_get (ci := 2) (v := .ref (a 13)) (C := R_T) (T := F_T) (N := 12) hx hb hts i_T hown hK.1 hP 0 rfl rfl 2 (by decide) (hts _ wd_43) (fun _ h9 => h9) rfl d_T_makeNamed_83 ?_
      refine lv_iload_n hx hb d_T_makeNamed_86 rfl (lv_at hl 0 rfl) ?_
      refine lv_iload_n hx hb d_T_makeNamed_87 rfl (lv_at hl 3 rfl) ?_
      replace h := gd h
      obtain ⟨hi, h⟩ := h
      refine rw_iast C0 hP hD hS 3 0 rfl rfl hi d_T_makeNamed_88 (Wn := (wT cI cZ a q (T_put_arguments (T_put_named r2.2 r2.1 x1) r2.1 x2))) ws_T_put_arguments (fun H locs hP hD hS => ?_)
      refine lv_aload_n hx hb d_T_makeNamed_89 rfl (lv_at hl 1 rfl) ?_
      refine va_get (ci := 2) (v := .ref (a 17)) (C := R_T) (T := F_T) (N := 12) hx hb hts i_T hown hK.1 hP 0 rfl rfl 6 (by decide) (hts _ wd_47) (fun _ h9 => h9) rfl d_T_makeNamed_90 ?_
      refine lv_iload_n hx hb d_T_makeNamed_93 rfl (lv_at hl 0 rfl) ?_
      refine lv_iconst (v := 1) hx hb d_T_makeNamed_94 (by decide) ?_
      replace h := gd h
      obtain ⟨hi, h⟩ := h
      refine rw_iast C0 hP hD hS 7 0 rfl rfl hi d_T_makeNamed_95 (Wn := (wT cI cZ a q (T_put_partCounts (T_put_arguments (T_put_named r2.2 r2.1 x1) r2.1 x2) r2.1 1))) ws_T_put_partCounts (fun H locs hP hD hS => ?_)
      refine lv_iload_n hx hb d_T_makeNamed_96 rfl (lv_at hl 0 rfl) ?_
      exact rw_ret C0 hP hD hS (Option.some.inj h) d_T_makeNamed_97
  · rw [if_neg hc] at h
    refine lv_aload_n hx hb d_T_makeNamed_16 rfl (lv_at hl 0 rfl) ?_
    refine va_get (ci := 2) (v := .ref (a 11)) (C := R_T) (T := F_T) (N := 12) hx hb hts i_T hown hK.1 hP 0 rfl rfl 0 (by decide) (hts _ wd_41) (fun _ h9 => h9) rfl d_T_makeNamed_17 ?_
    refine lv_iload_n hx hb d_T_makeNamed_20 rfl (lv_at hl 3 rfl) ?_
    replace h := gd h
    obtain ⟨hi, h⟩ := h
    refine va_iald hx hb hK.1 hP 1 0 rfl rfl hi d_T_makeNamed_21 ?_
    refine lv_iconst (v := 1) hx hb d_T_makeNamed_22 (by decide) ?_
    refine lv_icmp_ne (tgt := 48) hx hb d_T_makeNamed_23 (by decide) (fun hc => ?_) (fun hc => ?_)
    · rw [if_neg hc] at h
      refine lv_iinc (v := (x3 + 1)) (lv' := [(3, .int (x3 + 1)), (0, .ref (a 10)), (1, .int x1), (2, .int x2)]) hx hb d_T_makeNamed_48 hl (k := 3) rfl rfl (by decide) rfl (fun ls hl => ?_)
      refine lv_goto (tgt := 8) hx hb d_T_makeNamed_51 (by decide) ?_
      exact hk8 _ _ _ _ _ _ _ _ h hP hD hS (lv_sub hl [1, 2, 3, 0] rfl)
    · rw [if_pos hc] at h
      refine lv_aload_n hx hb d_T_makeNamed_26 rfl (lv_at hl 0 rfl) ?_
      refine va_get (ci := 2) (v := .ref (a 12)) (C := R_T) (T := F_T) (N := 12) hx hb hts i_T hown hK.1 hP 0 rfl rfl 1 (by decide) (hts _ wd_42) (fun _ h9 => h9) rfl d_T_makeNamed_27 ?_
      refine lv_iload_n hx hb d_T_makeNamed_30 rfl (lv_at hl 3 rfl) ?_
      replace h := gd h
      obtain ⟨hi, h⟩ := h
      refine va_iald hx hb hK.1 hP 2 0 rfl rfl hi d_T_makeNamed_31 ?_
      refine lv_iload_n hx hb d_T_makeNamed_32 rfl (lv_at hl 1 rfl) ?_
      refine lv_icmp_ne (tgt := 48) hx hb d_T_makeNamed_33 (by decide) (fun hc => ?_) (fun hc => ?_)
      · rw [if_neg hc] at h
        refine lv_iinc (v := (x3 + 1)) (lv' := [(3, .int (x3 + 1)), (0, .ref (a 10)), (1, .int x1), (2, .int x2)]) hx hb d_T_makeNamed_48 hl (k := 3) rfl rfl (by decide) rfl (fun ls hl => ?_)
        refine lv_goto (tgt := 8) hx hb d_T_makeNamed_51 (by decide) ?_
        exact hk8 _ _ _ _ _ _ _ _ h hP hD hS (lv_sub hl [1, 2, 3, 0] rfl)
      · rw [if_pos hc] at h
        refine lv_aload_n hx hb d_T_makeNamed_36 rfl (lv_at hl 0 rfl) ?_
        refine va_get (ci := 2) (v := .ref (a 13)) (C := R_T) (T := F_T) (N := 12) hx hb hts i_T hown hK.1 hP 0 rfl rfl 2 (by decide) (hts _ wd_43) (fun _ h9 => h9) rfl d_T_makeNamed_37 ?_
        refine lv_iload_n hx hb d_T_makeNamed_40 rfl (lv_at hl 3 rfl) ?_
        replace h := gd h
        obtain ⟨hi, h⟩ := h
        refine va_iald hx hb hK.1 hP 3 0 rfl rfl hi d_T_makeNamed_41 ?_
        refine lv_iload_n hx hb d_T_makeNamed_42 rfl (lv_at hl 2 rfl) ?_
        refine lv_icmp_ne (tgt := 48) hx hb d_T_makeNamed_43 (by decide) (fun hc => ?_) (fun hc => ?_)
        · rw [if_neg hc] at h
          refine lv_iinc (v := (x3 + 1)) (lv' := [(3, .int (x3 + 1)), (0, .ref (a 10)), (1, .int x1), (2, .int x2)]) hx hb d_T_makeNamed_48 hl (k := 3) rfl rfl (by decide) rfl (fun ls hl => ?_)
          refine lv_goto (tgt := 8) hx hb d_T_makeNamed_51 (by decide) ?_
          exact hk8 _ _ _ _ _ _ _ _ h hP hD hS (lv_sub hl [1, 2, 3, 0] rfl)
        · rw [if_pos hc] at h
          refine lv_iload_n hx hb d_T_makeNamed_46 rfl (lv_at hl 3 rfl) ?_
          exact rw_ret C0 hP hD hS (Option.some.inj h) d_T_makeNamed_47
set_option maxHeartbeats 4000000 in
set_option maxRecDepth 100000 in
theorem t_T_makeNamed_8 {p : Program} {l : Launch} {e : Env} {s : State} {m : MethodId} {args : Array Value} {below : List Frame} {meth : Method} {c : Code} {D : va_G} {cI cZ : ClassId} {a : Nat → Nat} {A : Nat → Prop} (C0 : Am p s m args meth c b_T_makeNamed (some .int) 4 R_T D [(cI, .int), (cZ, .boolean)]) (hA : ∀ q, s.heap.size ≤ q → A q) {res : Int32 × StT}  {n : Nat} {q : Nat} {σ : StT} {x1 x2 x3 : Int32} (h : f_T_makeNamed_8  n σ x1 x2 x3 = some res) {H : Heap} {locs : List Loc} (hP : va_P D vwCl (wT cI cZ a q σ) H) (hD : va_D A (wT cI cZ a q σ)) (hS : va_S A s.heap H locs) {ls : Array Slot} (hl : lv_has ls 4 [(0, .ref (a 10)), (1, .int x1), (2, .int x2), (3, .int x3)]) : W p l e (rmK 2 42 0 0) s m args below meth c H locs 0 0 (RwQ below args s D A (fun q (σ : StT) => (wT cI cZ a q σ)) res 0 0) (F0 m 8 ls []) := by
  induction n generalizing q σ x1 x2 x3 H locs ls with
  | zero => cases h
  | succ n ih => exact t_T_makeNamed_8_s (a := a) C0 hA  (fun _ _ _ _ _ _ _ _ h hP hD hS hl => ih h hP hD hS hl) h hP hD hS hl
set_option maxHeartbeats 4000000 in
set_option maxRecDepth 100000 in
theorem t_T_makeNamed_0 {p : Program} {l : Launch} {e : Env} {s : State} {m : MethodId} {args : Array Value} {below : List Frame} {meth : Method} {c : Code} {D : va_G} {cI cZ : ClassId} {a : Nat → Nat} {A : Nat → Prop} (C0 : Am p s m args meth c b_T_makeNamed (some .int) 4 R_T D [(cI, .int), (cZ, .boolean)]) (hA : ∀ q, s.heap.size ≤ q → A q) {res : Int32 × StT}   {q : Nat} {σ : StT} {x1 x2 : Int32} (h : f_T_makeNamed σ x1 x2 = some res) {H : Heap} {locs : List Loc} (hP : va_P D vwCl (wT cI cZ a q σ) H) (hD : va_D A (wT cI cZ a q σ)) (hS : va_S A s.heap H locs) {ls : Array Slot} (hl : lv_has ls 4 [(0, .ref (a 10)), (1, .int x1), (2, .int x2)]) : W p l e (rmK 2 42 0 0) s m args below meth c H locs 0 0 (RwQ below args s D A (fun q (σ : StT) => (wT cI cZ a q σ)) res 0 0) (F0 m 0 ls []) := by
  obtain ⟨hx, hb, hr, hml, hown, hts, hlk, hK⟩ := id C0
  unfold f_T_makeNamed at h
  refine lv_iload_n hx hb d_T_makeNamed_0 rfl (lv_at hl 2 rfl) ?_
  refine lv_if_ge (tgt := 6) hx hb d_T_makeNamed_1 (by decide) (fun hc => ?_) (fun hc => ?_)
  · rw [if_pos hc] at h
    refine lv_iconst (v := 0) hx hb d_T_makeNamed_6 (by decide) ?_
    refine lv_istore_n (lv' := [(3, .int 0), (0, .ref (a 10)), (1, .int x1), (2, .int x2)]) hx hb d_T_makeNamed_7 rfl hl (by decide) rfl (fun ls hl => ?_)
    exact t_T_makeNamed_8 (a := a) C0 hA  h hP hD hS (lv_sub hl [1, 2, 3, 0] rfl)
  · rw [if_neg hc] at h
    refine lv_iconst (v := (-1)) hx hb d_T_makeNamed_4 (by decide) ?_
    exact rw_ret C0 hP hD hS (Option.some.inj h) d_T_makeNamed_5
set_option maxHeartbeats 4000000 in
set_option maxRecDepth 100000 in
theorem c_T_makeNamed (l : Launch) (D : va_G) (cI cZ : ClassId) (a : Nat → Nat) (q : Nat) (σ : StT) (x1 : Int32) (x2 : Int32) {res : Int32 × StT} (h : f_T_makeNamed σ x1 x2 = some res) : RwM l y_T_makeNamed b_T_makeNamed 4 (some .int) 2 42 D [(cI, .int), (cZ, .boolean)] [.ref (a 10), .int x1, .int x2] (fun q (σ : StT) => (wT cI cZ a q σ)) q σ res :=
  rw_of (by decide) (Nat.le_of_ble_eq_true rfl) (fun p e s m args below meth c ls A C0 hA hP hD hS hl => t_T_makeNamed_0 (a := a) C0 hA h hP hD hS (lv_sub hl [0, 1, 2] rfl))
def f_T_settle (σ : StT) : Option (Int32 × StT) :=
  some (0, (T_set_settledParts (T_set_settledCount σ (T_count σ)) (T_partsUsed (T_set_settledCount σ (T_count σ)))))
set_option maxHeartbeats 4000000 in
set_option maxRecDepth 100000 in
theorem t_T_settle_0 {p : Program} {l : Launch} {e : Env} {s : State} {m : MethodId} {args : Array Value} {below : List Frame} {meth : Method} {c : Code} {D : va_G} {cI cZ : ClassId} {a : Nat → Nat} {A : Nat → Prop} (C0 : Am p s m args meth c b_T_settle none 1 R_T D [(cI, .int), (cZ, .boolean)]) (hA : ∀ q, s.heap.size ≤ q → A q) {res : Int32 × StT}   {q : Nat} {σ : StT} (h : f_T_settle σ = some res) {H : Heap} {locs : List Loc} (hP : va_P D vwCl (wT cI cZ a q σ) H) (hD : va_D A (wT cI cZ a q σ)) (hS : va_S A s.heap H locs) {ls : Array Slot} (hl : lv_has ls 1 [(0, .ref (a 10))]) : W p l e (rmK 0 0 0 0) s m args below meth c H locs 0 0 (RwQv below args s D A (fun q (σ : StT) => (wT cI cZ a q σ)) res 0 0) (F0 m 0 ls []) := by
  obtain ⟨hx, hb, hr, hml, hown, hts, hlk, hK⟩ := id C0
  unfold f_T_settle at h
  refine lv_aload_n hx hb d_T_settle_0 rfl (lv_at hl 0 rfl) ?_
  refine lv_aload_n hx hb d_T_settle_1 rfl (lv_at hl 0 rfl) ?_
  refine va_get (ci := 2) (v := .int (T_count σ)) (C := R_T) (T := F_T) (N := 12) hx hb hts i_T hown hK.1 hP 0 rfl rfl 9 (by decide) (hts _ wd_40) (fun _ h9 => h9) rfl d_T_settle_2 ?_
  refine rw_put (v := .int (T_count σ)) (fty := .int) (C := R_T) (T := F_T) (N := 12) C0 hP hD hS i_T ty_T tyok_T nn_T 0 rfl rfl 11 (by decide) (hts _ wd_64) rfl rfl (by decide +kernel) rfl rfl (Nat.le_of_ble_eq_true rfl) d_T_settle_5 (Wn := (wT cI cZ a q (T_set_settledCount σ (T_count σ)))) ws_T_set_settledCount (fun H locs hP hD hS => ?_)
  refine lv_aload_n hx hb d_T_settle_8 rfl (lv_at hl 0 rfl) ?_
  refine lv_aload_n hx hb d_T_settle_9 rfl (lv_at hl 0 rfl) ?_
  refine va_get (ci := 2) (v := .int (T_partsUsed (T_set_settledCount σ (T_count σ)))) (C := R_T) (T := F_T) (N := 12) hx hb hts i_T hown hK.1 hP 0 rfl rfl 8 (by decide) (hts _ wd_65) (fun _ h9 => h9) rfl d_T_settle_10 ?_
  refine rw_put (v := .int (T_partsUsed (T_set_settledCount σ (T_count σ)))) (fty := .int) (C := R_T) (T := F_T) (N := 12) C0 hP hD hS i_T ty_T tyok_T nn_T 0 rfl rfl 10 (by decide) (hts _ wd_66) rfl rfl (by decide +kernel) rfl rfl (Nat.le_of_ble_eq_true rfl) d_T_settle_13 (Wn := (wT cI cZ a q (T_set_settledParts (T_set_settledCount σ (T_count σ)) (T_partsUsed (T_set_settledCount σ (T_count σ)))))) ws_T_set_settledParts (fun H locs hP hD hS => ?_)
  exact rw_retv C0 hP hD hS (Option.some.inj h) d_T_settle_16
set_option maxHeartbeats 4000000 in
set_option maxRecDepth 100000 in
theorem c_T_settle (l : Launch) (D : va_G) (cI cZ : ClassId) (a : Nat → Nat) (q : Nat) (σ : StT) {res : Int32 × StT} (h : f_T_settle σ = some res) : RwMv l y_T_settle b_T_settle 1 0 0 D [(cI, .int), (cZ, .boolean)] [.ref (a 10)] (fun q (σ : StT) => (wT cI cZ a q σ)) q σ res :=
  rw_ofv (by decide) (Nat.le_of_ble_eq_true rfl) (fun p e s m args below meth c ls A C0 hA hP hD hS hl => t_T_settle_0 (a := a) C0 hA h hP hD hS (lv_sub hl [0] rfl))
def f_T_kindOf (σ : StT) (x1 : Int32) : Option Int32 :=
  if (f_T_isThere σ x1) = 0 then
    some (-1)
  else
    if x1 < 0 ∨ 300 ≤ x1.toNatClampNeg then none else
    some ((T_kinds σ) x1.toNatClampNeg)
set_option maxHeartbeats 4000000 in
set_option maxRecDepth 100000 in
theorem t_T_kindOf_0 {p : Program} {l : Launch} {e : Env} {s : State} {m : MethodId} {args : Array Value} {below : List Frame} {meth : Method} {c : Code} {D : va_G} {cI cZ : ClassId} {a : Nat → Nat} {q : Nat} {σ : StT} (C0 : Am p s m args meth c b_T_kindOf (some .int) 2 R_T D [(cI, .int), (cZ, .boolean)]) (hP : va_P D vwCl (wT cI cZ a q σ) s.heap) {val : Int32}   {x1 : Int32} (h : f_T_kindOf σ x1 = some val) {ls : Array Slot} (hl : lv_has ls 2 [(0, .ref (a 10)), (1, .int x1)]) : RoW p l e (rmK 1 21 0 0) s m args below meth c val (F0 m 0 ls []) := by
  obtain ⟨hx, hb, hr, hml, hown, hts, hlk, hK⟩ := id C0
  unfold f_T_kindOf at h
  refine lv_aload_n hx hb d_T_kindOf_0 rfl (lv_at hl 0 rfl) ?_
  refine lv_iload_n hx hb d_T_kindOf_1 rfl (lv_at hl 1 rfl) ?_
  refine ro_V (n := 1) (ci := 2) (As := [.int x1]) (rest := []) C0 (c_T_isThere l D cI cZ a q σ x1 rfl) wd_48 ⟨wd_49, wd_50, wd_51, wd_52⟩ (by decide +kernel) ⟨Nat.le_of_ble_eq_true rfl, Nat.le_of_ble_eq_true rfl⟩ hP rfl rfl rfl hl rfl rfl (Nat.le_of_ble_eq_true rfl) ⟨Nat.zero_le _, Nat.zero_le _⟩ d_T_kindOf_2 ?_
  refine lv_if_eq (tgt := 17) hx hb d_T_kindOf_5 (by decide) (fun hc => ?_) (fun hc => ?_)
  · rw [if_pos hc] at h
    refine lv_iconst (v := (-1)) hx hb d_T_kindOf_17 (by decide) ?_
    exact ro_ret C0 (Option.some.inj h) d_T_kindOf_18
  · rw [if_neg hc] at h
    refine lv_aload_n hx hb d_T_kindOf_8 rfl (lv_at hl 0 rfl) ?_
    refine va_get (ci := 2) (v := .ref (a 11)) (C := R_T) (T := F_T) (N := 12) hx hb hts i_T hown hK.1 hP 0 rfl rfl 0 (by decide) (hts _ wd_41) (fun _ h9 => h9) rfl d_T_kindOf_9 ?_
    refine lv_iload_n hx hb d_T_kindOf_12 rfl (lv_at hl 1 rfl) ?_
    replace h := gd h
    obtain ⟨hi, h⟩ := h
    refine va_iald hx hb hK.1 hP 1 0 rfl rfl hi d_T_kindOf_13 ?_
    refine lv_goto (tgt := 18) hx hb d_T_kindOf_14 (by decide) ?_
    exact ro_ret C0 (Option.some.inj h) d_T_kindOf_18
set_option maxHeartbeats 4000000 in
set_option maxRecDepth 100000 in
theorem c_T_kindOf (l : Launch) (D : va_G) (cI cZ : ClassId) (a : Nat → Nat) (q : Nat) (σ : StT) (x1 : Int32) {val : Int32} (h : f_T_kindOf σ x1 = some val) : RoM l y_T_kindOf b_T_kindOf 2 (some .int) 1 21 D [(cI, .int), (cZ, .boolean)] [.ref (a 10), .int x1] (wT cI cZ a q σ) val :=
  ro_of (by decide) (Nat.le_of_ble_eq_true rfl) (fun p e s m args below meth c ls C0 hP hl => t_T_kindOf_0 (a := a) C0 hP h (lv_sub hl [0, 1] rfl))
def f_T_dropUnsettled (σ : StT) : Option (Int32 × StT) :=
  some (0, (T_set_partsUsed (T_set_count σ (T_settledCount σ)) (T_settledParts (T_set_count σ (T_settledCount σ)))))
set_option maxHeartbeats 4000000 in
set_option maxRecDepth 100000 in
theorem t_T_dropUnsettled_0 {p : Program} {l : Launch} {e : Env} {s : State} {m : MethodId} {args : Array Value} {below : List Frame} {meth : Method} {c : Code} {D : va_G} {cI cZ : ClassId} {a : Nat → Nat} {A : Nat → Prop} (C0 : Am p s m args meth c b_T_dropUnsettled none 1 R_T D [(cI, .int), (cZ, .boolean)]) (hA : ∀ q, s.heap.size ≤ q → A q) {res : Int32 × StT}   {q : Nat} {σ : StT} (h : f_T_dropUnsettled σ = some res) {H : Heap} {locs : List Loc} (hP : va_P D vwCl (wT cI cZ a q σ) H) (hD : va_D A (wT cI cZ a q σ)) (hS : va_S A s.heap H locs) {ls : Array Slot} (hl : lv_has ls 1 [(0, .ref (a 10))]) : W p l e (rmK 0 0 0 0) s m args below meth c H locs 0 0 (RwQv below args s D A (fun q (σ : StT) => (wT cI cZ a q σ)) res 0 0) (F0 m 0 ls []) := by
  obtain ⟨hx, hb, hr, hml, hown, hts, hlk, hK⟩ := id C0
  unfold f_T_dropUnsettled at h
  refine lv_aload_n hx hb d_T_dropUnsettled_0 rfl (lv_at hl 0 rfl) ?_
  refine lv_aload_n hx hb d_T_dropUnsettled_1 rfl (lv_at hl 0 rfl) ?_
  refine va_get (ci := 2) (v := .int (T_settledCount σ)) (C := R_T) (T := F_T) (N := 12) hx hb hts i_T hown hK.1 hP 0 rfl rfl 11 (by decide) (hts _ wd_64) (fun _ h9 => h9) rfl d_T_dropUnsettled_2 ?_
  refine rw_put (v := .int (T_settledCount σ)) (fty := .int) (C := R_T) (T := F_T) (N := 12) C0 hP hD hS i_T ty_T tyok_T nn_T 0 rfl rfl 9 (by decide) (hts _ wd_40) rfl rfl (by decide +kernel) rfl rfl (Nat.le_of_ble_eq_true rfl) d_T_dropUnsettled_5 (Wn := (wT cI cZ a q (T_set_count σ (T_settledCount σ)))) ws_T_set_count (fun H locs hP hD hS => ?_)
  refine lv_aload_n hx hb d_T_dropUnsettled_8 rfl (lv_at hl 0 rfl) ?_
  refine lv_aload_n hx hb d_T_dropUnsettled_9 rfl (lv_at hl 0 rfl) ?_
  refine va_get (ci := 2) (v := .int (T_settledParts (T_set_count σ (T_settledCount σ)))) (C := R_T) (T := F_T) (N := 12) hx hb hts i_T hown hK.1 hP 0 rfl rfl 10 (by decide) (hts _ wd_66) (fun _ h9 => h9) rfl d_T_dropUnsettled_10 ?_
  refine rw_put (v := .int (T_settledParts (T_set_count σ (T_settledCount σ)))) (fty := .int) (C := R_T) (T := F_T) (N := 12) C0 hP hD hS i_T ty_T tyok_T nn_T 0 rfl rfl 8 (by decide) (hts _ wd_65) rfl rfl (by decide +kernel) rfl rfl (Nat.le_of_ble_eq_true rfl) d_T_dropUnsettled_13 (Wn := (wT cI cZ a q (T_set_partsUsed (T_set_count σ (T_settledCount σ)) (T_settledParts (T_set_count σ (T_settledCount σ)))))) ws_T_set_partsUsed (fun H locs hP hD hS => ?_)
  exact rw_retv C0 hP hD hS (Option.some.inj h) d_T_dropUnsettled_16
set_option maxHeartbeats 4000000 in
set_option maxRecDepth 100000 in
theorem c_T_dropUnsettled (l : Launch) (D : va_G) (cI cZ : ClassId) (a : Nat → Nat) (q : Nat) (σ : StT) {res : Int32 × StT} (h : f_T_dropUnsettled σ = some res) : RwMv l y_T_dropUnsettled b_T_dropUnsettled 1 0 0 D [(cI, .int), (cZ, .boolean)] [.ref (a 10)] (fun q (σ : StT) => (wT cI cZ a q σ)) q σ res :=
  rw_ofv (by decide) (Nat.le_of_ble_eq_true rfl) (fun p e s m args below meth c ls A C0 hA hP hD hS hl => t_T_dropUnsettled_0 (a := a) C0 hA h hP hD hS (lv_sub hl [0] rfl))
def f_T_makeArray_2_s (k2 : StT → Int32 → Int32 → Option (Int32 × StT)) (σ : StT) (x1 x2 : Int32) : Option (Int32 × StT) :=
  if (T_count σ) ≤ x2 then
    (f_T_sizeOf σ x1).bind fun r1 =>
    (f_T_add σ 2 (1 + r1)).bind fun r2 =>
    if r2.1 = (-1) then
      some (r2.1, r2.2)
    else
      if r2.1 < 0 ∨ 300 ≤ r2.1.toNatClampNeg then none else
      some (r2.1, (T_put_elements r2.2 r2.1 x1))
  else
    if x2 < 0 ∨ 300 ≤ x2.toNatClampNeg then none else
    if ((T_kinds σ) x2.toNatClampNeg) = 2 then
      if x2 < 0 ∨ 300 ≤ x2.toNatClampNeg then none else
      if ((T_elements σ) x2.toNatClampNeg) = x1 then
        some (x2, σ)
      else
        k2 σ x1 (x2 + 1)
    else
      k2 σ x1 (x2 + 1)
def f_T_makeArray_2 : Nat → StT → Int32 → Int32 → Option (Int32 × StT)
  | 0, _, _, _ => none
  | n + 1, σ, x1, x2 => f_T_makeArray_2_s (f_T_makeArray_2 n) σ x1 x2
def f_T_makeArray (σ : StT) (x1 : Int32) : Option (Int32 × StT) :=
  f_T_makeArray_2 1000 σ x1 0
set_option maxHeartbeats 4000000 in
set_option maxRecDepth 100000 in
theorem t_T_makeArray_2_s {p : Program} {l : Launch} {e : Env} {s : State} {m : MethodId} {args : Array Value} {below : List Frame} {meth : Method} {c : Code} {D : va_G} {cI cZ : ClassId} {a : Nat → Nat} {A : Nat → Prop} (C0 : Am p s m args meth c b_T_makeArray (some .int) 3 R_T D [(cI, .int), (cZ, .boolean)]) (hA : ∀ q, s.heap.size ≤ q → A q) {res : Int32 × StT} {k2 : StT → Int32 → Int32 → Option (Int32 × StT)}  (hk2 : ∀ (q : Nat) (σ : StT) (x1 x2 : Int32) (H : Heap) (locs : List Loc) (ls : Array Slot), k2 σ x1 x2 = some res → va_P D vwCl (wT cI cZ a q σ) H → va_D A (wT cI cZ a q σ) → va_S A s.heap H locs → lv_has ls 3 [(0, .ref (a 10)), (1, .int x1), (2, .int x2)] → W p l e (rmK 2 42 0 0) s m args below meth c H locs 0 0 (RwQ below args s D A (fun q (σ : StT) => (wT cI cZ a q σ)) res 0 0) (F0 m 2 ls [])) {q : Nat} {σ : StT} {x1 x2 : Int32} (h : f_T_makeArray_2_s k2 σ x1 x2 = some res) {H : Heap} {locs : List Loc} (hP : va_P D vwCl (wT cI cZ a q σ) H) (hD : va_D A (wT cI cZ a q σ)) (hS : va_S A s.heap H locs) {ls : Array Slot} (hl : lv_has ls 3 [(0, .ref (a 10)), (1, .int x1), (2, .int x2)]) : W p l e (rmK 2 42 0 0) s m args below meth c H locs 0 0 (RwQ below args s D A (fun q (σ : StT) => (wT cI cZ a q σ)) res 0 0) (F0 m 2 ls []) := by
  obtain ⟨hx, hb, hr, hml, hown, hts, hlk, hK⟩ := id C0
  unfold f_T_makeArray_2_s at h
  refine lv_iload_n hx hb d_T_makeArray_2 rfl (lv_at hl 2 rfl) ?_
  refine lv_aload_n hx hb d_T_makeArray_3 rfl (lv_at hl 0 rfl) ?_
  refine va_get (ci := 2) (v := .int (T_count σ)) (C := R_T) (T := F_T) (N := 12) hx hb hts i_T hown hK.1 hP 0 rfl rfl 9 (by decide) (hts _ wd_40) (fun _ h9 => h9) rfl d_T_makeArray_4 ?_
  refine lv_icmp_ge (tgt := 38) hx hb d_T_makeArray_7 (by decide) (fun hc => ?_) (fun hc => ?_)
  · rw [if_pos hc] at h
    refine lv_aload_n hx hb d_T_makeArray_38 rfl (lv_at hl 0 rfl) ?_
    refine lv_iconst (v := 2) hx hb d_T_makeArray_39 (by decide) ?_
    refine lv_iconst (v := 1) hx hb d_T_makeArray_40 (by decide) ?_
    refine lv_aload_n hx hb d_T_makeArray_41 rfl (lv_at hl 0 rfl) ?_
    refine lv_iload_n hx hb d_T_makeArray_42 rfl (lv_at hl 1 rfl) ?_
    replace h := bd h
    obtain ⟨r1, g1, h⟩ := h
    refine ro_V (n := 1) (ci := 2) (As := [.int x1]) (rest := [.int 1, .int 2, .ref (a 10)]) C0 (c_T_sizeOf l D cI cZ a q σ x1 g1) wd_56 ⟨wd_57, wd_58, wd_59, wd_52⟩ (by decide +kernel) ⟨Nat.le_of_ble_eq_true rfl, Nat.le_of_ble_eq_true rfl⟩ hP rfl rfl rfl hl rfl rfl (Nat.le_of_ble_eq_true rfl) ⟨Nat.zero_le _, Nat.zero_le _⟩ d_T_makeArray_43 ?_
    try dsimp only at h
    refine lv_iadd hx hb d_T_makeArray_46 ?_
    replace h := bd h
    obtain ⟨r2, g2, h⟩ := h
    refine rw_V (n := 2) (ci := 2) (As := [.int 2, .int (1 + r1)]) (rest := []) (Wn := fun q => (wT cI cZ a q r2.2)) C0 hA (c_T_add l D cI cZ a q σ 2 (1 + r1) g2) wd_60 ⟨wd_61, wd_62, wd_63, wd_52⟩ (by decide +kernel) ⟨Nat.le_of_ble_eq_true rfl, Nat.le_of_ble_eq_true rfl⟩ hP hD hS [0, 1, 2, 3, 4, 5, 6, 7, 8] [] [0, 1, 2, 3, 4, 5, 6, 7, 8] jn_T__C (by decide) jn_T__R (by decide) (by decide) (by decide) jn_T__W rfl rfl rfl hl rfl rfl (Nat.le_of_ble_eq_true rfl) ⟨Nat.zero_le _, Nat.zero_le _⟩ d_T_makeArray_47 (fun H locs q hP hD hS => ?_)
    try dsimp only at h
    refine lv_istore_n (lv' := [(2, .int r2.1), (0, .ref (a 10)), (1, .int x1)]) hx hb d_T_makeArray_50 rfl hl (by decide) rfl (fun ls hl => ?_)
    refine lv_iload_n hx hb d_T_makeArray_51 rfl (lv_at hl 0 rfl) ?_
    refine lv_iconst (v := (-1)) hx hb d_T_makeArray_52 (by decide) ?_
    refine lv_icmp_eq (tgt := 63) hx hb d_T_makeArray_53 (by decide) (fun hc => ?_) (fun hc => ?_)
    · rw [if_pos hc] at h
      refine lv_iload_n hx hb d_T_makeArray_63 rfl (lv_at hl 0 rfl) ?_
      exact rw_ret C0 hP hD hS (Option.some.inj h) d_T_makeArray_64
    · rw [if_neg hc] at h
      refine lv_aload_n hx hb d_T_makeArray_56 rfl (lv_at hl 1 rfl) ?_
      refine va_get (ci := 2) (v := .ref (a 14)) (C := R_T) (T := F_T) (N := 12) hx hb hts i_T hown hK.1 hP 0 rfl rfl 3 (by decide) (hts _ wd_44) (fun _ h9 => h9) rfl d_T_makeArray_57 ?_
      refine lv_iload_n hx hb d_T_makeArray_60 rfl (lv_at hl 0 rfl) ?_
      refine lv_iload_n hx hb d_T_makeArray_61 rfl (lv_at hl 2 rfl) ?_
      replace h := gd h
      obtain ⟨hi, h⟩ := h
      refine rw_iast C0 hP hD hS 4 0 rfl rfl hi d_T_makeArray_62 (Wn := (wT cI cZ a q (T_put_elements r2.2 r2.1 x1))) ws_T_put_elements (fun H locs hP hD hS => ?_)
      refine lv_iload_n hx hb d_T_makeArray_63 rfl (lv_at hl 0 rfl) ?_
      exact rw_ret C0 hP hD hS (Option.some.inj h) d_T_makeArray_64
  · rw [if_neg hc] at h
    refine lv_aload_n hx hb d_T_makeArray_10 rfl (lv_at hl 0 rfl) ?_
    refine va_get (ci := 2) (v := .ref (a 11)) (C := R_T) (T := F_T) (N := 12) hx hb hts i_T hown hK.1 hP 0 rfl rfl 0 (by decide) (hts _ wd_41) (fun _ h9 => h9) rfl d_T_makeArray_11 ?_
    refine lv_iload_n hx hb d_T_makeArray_14 rfl (lv_at hl 2 rfl) ?_
    replace h := gd h
    obtain ⟨hi, h⟩ := h
    refine va_iald hx hb hK.1 hP 1 0 rfl rfl hi d_T_makeArray_15 ?_
    refine lv_iconst (v := 2) hx hb d_T_makeArray_16 (by decide) ?_
    refine lv_icmp_ne (tgt := 32) hx hb d_T_makeArray_17 (by decide) (fun hc => ?_) (fun hc => ?_)
    · rw [if_neg hc] at h
      refine lv_iinc (v := (x2 + 1)) (lv' := [(2, .int (x2 + 1)), (0, .ref (a 10)), (1, .int x1)]) hx hb d_T_makeArray_32 hl (k := 2) rfl rfl (by decide) rfl (fun ls hl => ?_)
      refine lv_goto (tgt := 2) hx hb d_T_makeArray_35 (by decide) ?_
      exact hk2 _ _ _ _ _ _ _ h hP hD hS (lv_sub hl [1, 2, 0] rfl)
    · rw [if_pos hc] at h
      refine lv_aload_n hx hb d_T_makeArray_20 rfl (lv_at hl 0 rfl) ?_
      refine va_get (ci := 2) (v := .ref (a 14)) (C := R_T) (T := F_T) (N := 12) hx hb hts i_T hown hK.1 hP 0 rfl rfl 3 (by decide) (hts _ wd_44) (fun _ h9 => h9) rfl d_T_makeArray_21 ?_
      refine lv_iload_n hx hb d_T_makeArray_24 rfl (lv_at hl 2 rfl) ?_
      replace h := gd h
      obtain ⟨hi, h⟩ := h
      refine va_iald hx hb hK.1 hP 4 0 rfl rfl hi d_T_makeArray_25 ?_
      refine lv_iload_n hx hb d_T_makeArray_26 rfl (lv_at hl 1 rfl) ?_
      refine lv_icmp_ne (tgt := 32) hx hb d_T_makeArray_27 (by decide) (fun hc => ?_) (fun hc => ?_)
      · rw [if_neg hc] at h
        refine lv_iinc (v := (x2 + 1)) (lv' := [(2, .int (x2 + 1)), (0, .ref (a 10)), (1, .int x1)]) hx hb d_T_makeArray_32 hl (k := 2) rfl rfl (by decide) rfl (fun ls hl => ?_)
        refine lv_goto (tgt := 2) hx hb d_T_makeArray_35 (by decide) ?_
        exact hk2 _ _ _ _ _ _ _ h hP hD hS (lv_sub hl [1, 2, 0] rfl)
      · rw [if_pos hc] at h
        refine lv_iload_n hx hb d_T_makeArray_30 rfl (lv_at hl 2 rfl) ?_
        exact rw_ret C0 hP hD hS (Option.some.inj h) d_T_makeArray_31
set_option maxHeartbeats 4000000 in
set_option maxRecDepth 100000 in
theorem t_T_makeArray_2 {p : Program} {l : Launch} {e : Env} {s : State} {m : MethodId} {args : Array Value} {below : List Frame} {meth : Method} {c : Code} {D : va_G} {cI cZ : ClassId} {a : Nat → Nat} {A : Nat → Prop} (C0 : Am p s m args meth c b_T_makeArray (some .int) 3 R_T D [(cI, .int), (cZ, .boolean)]) (hA : ∀ q, s.heap.size ≤ q → A q) {res : Int32 × StT}  {n : Nat} {q : Nat} {σ : StT} {x1 x2 : Int32} (h : f_T_makeArray_2  n σ x1 x2 = some res) {H : Heap} {locs : List Loc} (hP : va_P D vwCl (wT cI cZ a q σ) H) (hD : va_D A (wT cI cZ a q σ)) (hS : va_S A s.heap H locs) {ls : Array Slot} (hl : lv_has ls 3 [(0, .ref (a 10)), (1, .int x1), (2, .int x2)]) : W p l e (rmK 2 42 0 0) s m args below meth c H locs 0 0 (RwQ below args s D A (fun q (σ : StT) => (wT cI cZ a q σ)) res 0 0) (F0 m 2 ls []) := by
  induction n generalizing q σ x1 x2 H locs ls with
  | zero => cases h
  | succ n ih => exact t_T_makeArray_2_s (a := a) C0 hA  (fun _ _ _ _ _ _ _ h hP hD hS hl => ih h hP hD hS hl) h hP hD hS hl
set_option maxHeartbeats 4000000 in
set_option maxRecDepth 100000 in
theorem t_T_makeArray_0 {p : Program} {l : Launch} {e : Env} {s : State} {m : MethodId} {args : Array Value} {below : List Frame} {meth : Method} {c : Code} {D : va_G} {cI cZ : ClassId} {a : Nat → Nat} {A : Nat → Prop} (C0 : Am p s m args meth c b_T_makeArray (some .int) 3 R_T D [(cI, .int), (cZ, .boolean)]) (hA : ∀ q, s.heap.size ≤ q → A q) {res : Int32 × StT}   {q : Nat} {σ : StT} {x1 : Int32} (h : f_T_makeArray σ x1 = some res) {H : Heap} {locs : List Loc} (hP : va_P D vwCl (wT cI cZ a q σ) H) (hD : va_D A (wT cI cZ a q σ)) (hS : va_S A s.heap H locs) {ls : Array Slot} (hl : lv_has ls 3 [(0, .ref (a 10)), (1, .int x1)]) : W p l e (rmK 2 42 0 0) s m args below meth c H locs 0 0 (RwQ below args s D A (fun q (σ : StT) => (wT cI cZ a q σ)) res 0 0) (F0 m 0 ls []) := by
  obtain ⟨hx, hb, hr, hml, hown, hts, hlk, hK⟩ := id C0
  unfold f_T_makeArray at h
  refine lv_iconst (v := 0) hx hb d_T_makeArray_0 (by decide) ?_
  refine lv_istore_n (lv' := [(2, .int 0), (0, .ref (a 10)), (1, .int x1)]) hx hb d_T_makeArray_1 rfl hl (by decide) rfl (fun ls hl => ?_)
  exact t_T_makeArray_2 (a := a) C0 hA  h hP hD hS (lv_sub hl [1, 2, 0] rfl)
set_option maxHeartbeats 4000000 in
set_option maxRecDepth 100000 in
theorem c_T_makeArray (l : Launch) (D : va_G) (cI cZ : ClassId) (a : Nat → Nat) (q : Nat) (σ : StT) (x1 : Int32) {res : Int32 × StT} (h : f_T_makeArray σ x1 = some res) : RwM l y_T_makeArray b_T_makeArray 3 (some .int) 2 42 D [(cI, .int), (cZ, .boolean)] [.ref (a 10), .int x1] (fun q (σ : StT) => (wT cI cZ a q σ)) q σ res :=
  rw_of (by decide) (Nat.le_of_ble_eq_true rfl) (fun p e s m args below meth c ls A C0 hA hP hD hS hl => t_T_makeArray_0 (a := a) C0 hA h hP hD hS (lv_sub hl [0, 1] rfl))
def f_T_elementOf (σ : StT) (x1 : Int32) : Option Int32 :=
  if (f_T_isThere σ x1) = 0 then
    some (-1)
  else
    if x1 < 0 ∨ 300 ≤ x1.toNatClampNeg then none else
    some ((T_elements σ) x1.toNatClampNeg)
set_option maxHeartbeats 4000000 in
set_option maxRecDepth 100000 in
theorem t_T_elementOf_0 {p : Program} {l : Launch} {e : Env} {s : State} {m : MethodId} {args : Array Value} {below : List Frame} {meth : Method} {c : Code} {D : va_G} {cI cZ : ClassId} {a : Nat → Nat} {q : Nat} {σ : StT} (C0 : Am p s m args meth c b_T_elementOf (some .int) 2 R_T D [(cI, .int), (cZ, .boolean)]) (hP : va_P D vwCl (wT cI cZ a q σ) s.heap) {val : Int32}   {x1 : Int32} (h : f_T_elementOf σ x1 = some val) {ls : Array Slot} (hl : lv_has ls 2 [(0, .ref (a 10)), (1, .int x1)]) : RoW p l e (rmK 1 21 0 0) s m args below meth c val (F0 m 0 ls []) := by
  obtain ⟨hx, hb, hr, hml, hown, hts, hlk, hK⟩ := id C0
  unfold f_T_elementOf at h
  refine lv_aload_n hx hb d_T_elementOf_0 rfl (lv_at hl 0 rfl) ?_
  refine lv_iload_n hx hb d_T_elementOf_1 rfl (lv_at hl 1 rfl) ?_
  refine ro_V (n := 1) (ci := 2) (As := [.int x1]) (rest := []) C0 (c_T_isThere l D cI cZ a q σ x1 rfl) wd_48 ⟨wd_49, wd_50, wd_51, wd_52⟩ (by decide +kernel) ⟨Nat.le_of_ble_eq_true rfl, Nat.le_of_ble_eq_true rfl⟩ hP rfl rfl rfl hl rfl rfl (Nat.le_of_ble_eq_true rfl) ⟨Nat.zero_le _, Nat.zero_le _⟩ d_T_elementOf_2 ?_
  refine lv_if_eq (tgt := 17) hx hb d_T_elementOf_5 (by decide) (fun hc => ?_) (fun hc => ?_)
  · rw [if_pos hc] at h
    refine lv_iconst (v := (-1)) hx hb d_T_elementOf_17 (by decide) ?_
    exact ro_ret C0 (Option.some.inj h) d_T_elementOf_18
  · rw [if_neg hc] at h
    refine lv_aload_n hx hb d_T_elementOf_8 rfl (lv_at hl 0 rfl) ?_
    refine va_get (ci := 2) (v := .ref (a 14)) (C := R_T) (T := F_T) (N := 12) hx hb hts i_T hown hK.1 hP 0 rfl rfl 3 (by decide) (hts _ wd_44) (fun _ h9 => h9) rfl d_T_elementOf_9 ?_
    refine lv_iload_n hx hb d_T_elementOf_12 rfl (lv_at hl 1 rfl) ?_
    replace h := gd h
    obtain ⟨hi, h⟩ := h
    refine va_iald hx hb hK.1 hP 4 0 rfl rfl hi d_T_elementOf_13 ?_
    refine lv_goto (tgt := 18) hx hb d_T_elementOf_14 (by decide) ?_
    exact ro_ret C0 (Option.some.inj h) d_T_elementOf_18
set_option maxHeartbeats 4000000 in
set_option maxRecDepth 100000 in
theorem c_T_elementOf (l : Launch) (D : va_G) (cI cZ : ClassId) (a : Nat → Nat) (q : Nat) (σ : StT) (x1 : Int32) {val : Int32} (h : f_T_elementOf σ x1 = some val) : RoM l y_T_elementOf b_T_elementOf 2 (some .int) 1 21 D [(cI, .int), (cZ, .boolean)] [.ref (a 10), .int x1] (wT cI cZ a q σ) val :=
  ro_of (by decide) (Nat.le_of_ble_eq_true rfl) (fun p e s m args below meth c ls C0 hP hl => t_T_elementOf_0 (a := a) C0 hP h (lv_sub hl [0, 1] rfl))
def f_T_classOf (σ : StT) (x1 : Int32) : Option Int32 :=
  if (f_T_isThere σ x1) = 0 then
    some (-1)
  else
    if x1 < 0 ∨ 300 ≤ x1.toNatClampNeg then none else
    some ((T_named σ) x1.toNatClampNeg)
set_option maxHeartbeats 4000000 in
set_option maxRecDepth 100000 in
theorem t_T_classOf_0 {p : Program} {l : Launch} {e : Env} {s : State} {m : MethodId} {args : Array Value} {below : List Frame} {meth : Method} {c : Code} {D : va_G} {cI cZ : ClassId} {a : Nat → Nat} {q : Nat} {σ : StT} (C0 : Am p s m args meth c b_T_classOf (some .int) 2 R_T D [(cI, .int), (cZ, .boolean)]) (hP : va_P D vwCl (wT cI cZ a q σ) s.heap) {val : Int32}   {x1 : Int32} (h : f_T_classOf σ x1 = some val) {ls : Array Slot} (hl : lv_has ls 2 [(0, .ref (a 10)), (1, .int x1)]) : RoW p l e (rmK 1 21 0 0) s m args below meth c val (F0 m 0 ls []) := by
  obtain ⟨hx, hb, hr, hml, hown, hts, hlk, hK⟩ := id C0
  unfold f_T_classOf at h
  refine lv_aload_n hx hb d_T_classOf_0 rfl (lv_at hl 0 rfl) ?_
  refine lv_iload_n hx hb d_T_classOf_1 rfl (lv_at hl 1 rfl) ?_
  refine ro_V (n := 1) (ci := 2) (As := [.int x1]) (rest := []) C0 (c_T_isThere l D cI cZ a q σ x1 rfl) wd_48 ⟨wd_49, wd_50, wd_51, wd_52⟩ (by decide +kernel) ⟨Nat.le_of_ble_eq_true rfl, Nat.le_of_ble_eq_true rfl⟩ hP rfl rfl rfl hl rfl rfl (Nat.le_of_ble_eq_true rfl) ⟨Nat.zero_le _, Nat.zero_le _⟩ d_T_classOf_2 ?_
  refine lv_if_eq (tgt := 17) hx hb d_T_classOf_5 (by decide) (fun hc => ?_) (fun hc => ?_)
  · rw [if_pos hc] at h
    refine lv_iconst (v := (-1)) hx hb d_T_classOf_17 (by decide) ?_
    exact ro_ret C0 (Option.some.inj h) d_T_classOf_18
  · rw [if_neg hc] at h
    refine lv_aload_n hx hb d_T_classOf_8 rfl (lv_at hl 0 rfl) ?_
    refine va_get (ci := 2) (v := .ref (a 12)) (C := R_T) (T := F_T) (N := 12) hx hb hts i_T hown hK.1 hP 0 rfl rfl 1 (by decide) (hts _ wd_42) (fun _ h9 => h9) rfl d_T_classOf_9 ?_
    refine lv_iload_n hx hb d_T_classOf_12 rfl (lv_at hl 1 rfl) ?_
    replace h := gd h
    obtain ⟨hi, h⟩ := h
    refine va_iald hx hb hK.1 hP 2 0 rfl rfl hi d_T_classOf_13 ?_
    refine lv_goto (tgt := 18) hx hb d_T_classOf_14 (by decide) ?_
    exact ro_ret C0 (Option.some.inj h) d_T_classOf_18
set_option maxHeartbeats 4000000 in
set_option maxRecDepth 100000 in
theorem c_T_classOf (l : Launch) (D : va_G) (cI cZ : ClassId) (a : Nat → Nat) (q : Nat) (σ : StT) (x1 : Int32) {val : Int32} (h : f_T_classOf σ x1 = some val) : RoM l y_T_classOf b_T_classOf 2 (some .int) 1 21 D [(cI, .int), (cZ, .boolean)] [.ref (a 10), .int x1] (wT cI cZ a q σ) val :=
  ro_of (by decide) (Nat.le_of_ble_eq_true rfl) (fun p e s m args below meth c ls C0 hP hl => t_T_classOf_0 (a := a) C0 hP h (lv_sub hl [0, 1] rfl))
def f_T_countParts (σ : StT) (x1 : Int32) : Option Int32 :=
  if (f_T_isThere σ x1) = 0 then
    some 0
  else
    if x1 < 0 ∨ 300 ≤ x1.toNatClampNeg then none else
    some ((T_partCounts σ) x1.toNatClampNeg)
set_option maxHeartbeats 4000000 in
set_option maxRecDepth 100000 in
theorem t_T_countParts_0 {p : Program} {l : Launch} {e : Env} {s : State} {m : MethodId} {args : Array Value} {below : List Frame} {meth : Method} {c : Code} {D : va_G} {cI cZ : ClassId} {a : Nat → Nat} {q : Nat} {σ : StT} (C0 : Am p s m args meth c b_T_countParts (some .int) 2 R_T D [(cI, .int), (cZ, .boolean)]) (hP : va_P D vwCl (wT cI cZ a q σ) s.heap) {val : Int32}   {x1 : Int32} (h : f_T_countParts σ x1 = some val) {ls : Array Slot} (hl : lv_has ls 2 [(0, .ref (a 10)), (1, .int x1)]) : RoW p l e (rmK 1 21 0 0) s m args below meth c val (F0 m 0 ls []) := by
  obtain ⟨hx, hb, hr, hml, hown, hts, hlk, hK⟩ := id C0
  unfold f_T_countParts at h
  refine lv_aload_n hx hb d_T_countParts_0 rfl (lv_at hl 0 rfl) ?_
  refine lv_iload_n hx hb d_T_countParts_1 rfl (lv_at hl 1 rfl) ?_
  refine ro_V (n := 1) (ci := 2) (As := [.int x1]) (rest := []) C0 (c_T_isThere l D cI cZ a q σ x1 rfl) wd_48 ⟨wd_49, wd_50, wd_51, wd_52⟩ (by decide +kernel) ⟨Nat.le_of_ble_eq_true rfl, Nat.le_of_ble_eq_true rfl⟩ hP rfl rfl rfl hl rfl rfl (Nat.le_of_ble_eq_true rfl) ⟨Nat.zero_le _, Nat.zero_le _⟩ d_T_countParts_2 ?_
  refine lv_if_eq (tgt := 17) hx hb d_T_countParts_5 (by decide) (fun hc => ?_) (fun hc => ?_)
  · rw [if_pos hc] at h
    refine lv_iconst (v := 0) hx hb d_T_countParts_17 (by decide) ?_
    exact ro_ret C0 (Option.some.inj h) d_T_countParts_18
  · rw [if_neg hc] at h
    refine lv_aload_n hx hb d_T_countParts_8 rfl (lv_at hl 0 rfl) ?_
    refine va_get (ci := 2) (v := .ref (a 17)) (C := R_T) (T := F_T) (N := 12) hx hb hts i_T hown hK.1 hP 0 rfl rfl 6 (by decide) (hts _ wd_47) (fun _ h9 => h9) rfl d_T_countParts_9 ?_
    refine lv_iload_n hx hb d_T_countParts_12 rfl (lv_at hl 1 rfl) ?_
    replace h := gd h
    obtain ⟨hi, h⟩ := h
    refine va_iald hx hb hK.1 hP 7 0 rfl rfl hi d_T_countParts_13 ?_
    refine lv_goto (tgt := 18) hx hb d_T_countParts_14 (by decide) ?_
    exact ro_ret C0 (Option.some.inj h) d_T_countParts_18
set_option maxHeartbeats 4000000 in
set_option maxRecDepth 100000 in
theorem c_T_countParts (l : Launch) (D : va_G) (cI cZ : ClassId) (a : Nat → Nat) (q : Nat) (σ : StT) (x1 : Int32) {val : Int32} (h : f_T_countParts σ x1 = some val) : RoM l y_T_countParts b_T_countParts 2 (some .int) 1 21 D [(cI, .int), (cZ, .boolean)] [.ref (a 10), .int x1] (wT cI cZ a q σ) val :=
  ro_of (by decide) (Nat.le_of_ble_eq_true rfl) (fun p e s m args below meth c ls C0 hP hl => t_T_countParts_0 (a := a) C0 hP h (lv_sub hl [0, 1] rfl))
def f_T_partOf (σ : StT) (x1 x2 : Int32) : Option Int32 :=
  if (f_T_isThere σ x1) = 0 then
    some (-1)
  else
    if x2 < 0 then
      some (-1)
    else
      if x1 < 0 ∨ 300 ≤ x1.toNatClampNeg then none else
      if x2 < ((T_partCounts σ) x1.toNatClampNeg) then
        if x1 < 0 ∨ 300 ≤ x1.toNatClampNeg then none else
        if ((T_kinds σ) x1.toNatClampNeg) = 1 then
          some x1
        else
          if x1 < 0 ∨ 300 ≤ x1.toNatClampNeg then none else
          if (((T_partStarts σ) x1.toNatClampNeg) + x2) < 0 then
            some (-1)
          else
            if (T_partsUsed σ) ≤ (((T_partStarts σ) x1.toNatClampNeg) + x2) then
              some (-1)
            else
              if (Int32.ofNat (T_parts σ).1) ≤ (((T_partStarts σ) x1.toNatClampNeg) + x2) then
                some (-1)
              else
                if (((T_partStarts σ) x1.toNatClampNeg) + x2) < 0 ∨ (T_parts σ).1 ≤ (((T_partStarts σ) x1.toNatClampNeg) + x2).toNatClampNeg then none else
                some ((T_parts σ).2 (((T_partStarts σ) x1.toNatClampNeg) + x2).toNatClampNeg)
      else
        some (-1)
set_option maxHeartbeats 4000000 in
set_option maxRecDepth 100000 in
theorem t_T_partOf_0 {p : Program} {l : Launch} {e : Env} {s : State} {m : MethodId} {args : Array Value} {below : List Frame} {meth : Method} {c : Code} {D : va_G} {cI cZ : ClassId} {a : Nat → Nat} {q : Nat} {σ : StT} (C0 : Am p s m args meth c b_T_partOf (some .int) 4 R_T D [(cI, .int), (cZ, .boolean)]) (hP : va_P D vwCl (wT cI cZ a q σ) s.heap) {val : Int32}   {x1 x2 : Int32} (h : f_T_partOf σ x1 x2 = some val) {ls : Array Slot} (hl : lv_has ls 4 [(0, .ref (a 10)), (1, .int x1), (2, .int x2)]) : RoW p l e (rmK 1 21 0 0) s m args below meth c val (F0 m 0 ls []) := by
  obtain ⟨hx, hb, hr, hml, hown, hts, hlk, hK⟩ := id C0
  unfold f_T_partOf at h
  refine lv_aload_n hx hb d_T_partOf_0 rfl (lv_at hl 0 rfl) ?_
  refine lv_iload_n hx hb d_T_partOf_1 rfl (lv_at hl 1 rfl) ?_
  refine ro_V (n := 1) (ci := 2) (As := [.int x1]) (rest := []) C0 (c_T_isThere l D cI cZ a q σ x1 rfl) wd_48 ⟨wd_49, wd_50, wd_51, wd_52⟩ (by decide +kernel) ⟨Nat.le_of_ble_eq_true rfl, Nat.le_of_ble_eq_true rfl⟩ hP rfl rfl rfl hl rfl rfl (Nat.le_of_ble_eq_true rfl) ⟨Nat.zero_le _, Nat.zero_le _⟩ d_T_partOf_2 ?_
  refine lv_if_eq (tgt := 22) hx hb d_T_partOf_5 (by decide) (fun hc => ?_) (fun hc => ?_)
  · rw [if_pos hc] at h
    refine lv_iconst (v := (-1)) hx hb d_T_partOf_22 (by decide) ?_
    exact ro_ret C0 (Option.some.inj h) d_T_partOf_23
  · rw [if_neg hc] at h
    refine lv_iload_n hx hb d_T_partOf_8 rfl (lv_at hl 2 rfl) ?_
    refine lv_if_lt (tgt := 22) hx hb d_T_partOf_9 (by decide) (fun hc => ?_) (fun hc => ?_)
    · rw [if_pos hc] at h
      refine lv_iconst (v := (-1)) hx hb d_T_partOf_22 (by decide) ?_
      exact ro_ret C0 (Option.some.inj h) d_T_partOf_23
    · rw [if_neg hc] at h
      refine lv_iload_n hx hb d_T_partOf_12 rfl (lv_at hl 2 rfl) ?_
      refine lv_aload_n hx hb d_T_partOf_13 rfl (lv_at hl 0 rfl) ?_
      refine va_get (ci := 2) (v := .ref (a 17)) (C := R_T) (T := F_T) (N := 12) hx hb hts i_T hown hK.1 hP 0 rfl rfl 6 (by decide) (hts _ wd_47) (fun _ h9 => h9) rfl d_T_partOf_14 ?_
      refine lv_iload_n hx hb d_T_partOf_17 rfl (lv_at hl 1 rfl) ?_
      replace h := gd h
      obtain ⟨hi, h⟩ := h
      refine va_iald hx hb hK.1 hP 7 0 rfl rfl hi d_T_partOf_18 ?_
      refine lv_icmp_lt (tgt := 24) hx hb d_T_partOf_19 (by decide) (fun hc => ?_) (fun hc => ?_)
      · rw [if_pos hc] at h
        refine lv_aload_n hx hb d_T_partOf_24 rfl (lv_at hl 0 rfl) ?_
        refine va_get (ci := 2) (v := .ref (a 11)) (C := R_T) (T := F_T) (N := 12) hx hb hts i_T hown hK.1 hP 0 rfl rfl 0 (by decide) (hts _ wd_41) (fun _ h9 => h9) rfl d_T_partOf_25 ?_
        refine lv_iload_n hx hb d_T_partOf_28 rfl (lv_at hl 1 rfl) ?_
        replace h := gd h
        obtain ⟨hi, h⟩ := h
        refine va_iald hx hb hK.1 hP 1 0 rfl rfl hi d_T_partOf_29 ?_
        refine lv_iconst (v := 1) hx hb d_T_partOf_30 (by decide) ?_
        refine lv_icmp_ne (tgt := 36) hx hb d_T_partOf_31 (by decide) (fun hc => ?_) (fun hc => ?_)
        · rw [if_neg hc] at h
          refine lv_aload_n hx hb d_T_partOf_36 rfl (lv_at hl 0 rfl) ?_
          refine va_get (ci := 2) (v := .ref (a 16)) (C := R_T) (T := F_T) (N := 12) hx hb hts i_T hown hK.1 hP 0 rfl rfl 5 (by decide) (hts _ wd_46) (fun _ h9 => h9) rfl d_T_partOf_37 ?_
          refine lv_iload_n hx hb d_T_partOf_40 rfl (lv_at hl 1 rfl) ?_
          replace h := gd h
          obtain ⟨hi, h⟩ := h
          refine va_iald hx hb hK.1 hP 6 0 rfl rfl hi d_T_partOf_41 ?_
          refine lv_iload_n hx hb d_T_partOf_42 rfl (lv_at hl 2 rfl) ?_
          refine lv_iadd hx hb d_T_partOf_43 ?_
          refine lv_istore_n (lv' := [(3, .int (((T_partStarts σ) x1.toNatClampNeg) + x2)), (0, .ref (a 10)), (1, .int x1), (2, .int x2)]) hx hb d_T_partOf_44 rfl hl (by decide) rfl (fun ls hl => ?_)
          refine lv_iload_n hx hb d_T_partOf_45 rfl (lv_at hl 0 rfl) ?_
          refine lv_if_lt (tgt := 75) hx hb d_T_partOf_46 (by decide) (fun hc => ?_) (fun hc => ?_)
          · rw [if_pos hc] at h
            refine lv_iconst (v := (-1)) hx hb d_T_partOf_75 (by decide) ?_
            exact ro_ret C0 (Option.some.inj h) d_T_partOf_76
          · rw [if_neg hc] at h
            refine lv_iload_n hx hb d_T_partOf_49 rfl (lv_at hl 0 rfl) ?_
            refine lv_aload_n hx hb d_T_partOf_50 rfl (lv_at hl 1 rfl) ?_
            refine va_get (ci := 2) (v := .int (T_partsUsed σ)) (C := R_T) (T := F_T) (N := 12) hx hb hts i_T hown hK.1 hP 0 rfl rfl 8 (by decide) (hts _ wd_65) (fun _ h9 => h9) rfl d_T_partOf_51 ?_
            refine lv_icmp_ge (tgt := 75) hx hb d_T_partOf_54 (by decide) (fun hc => ?_) (fun hc => ?_)
            · rw [if_pos hc] at h
              refine lv_iconst (v := (-1)) hx hb d_T_partOf_75 (by decide) ?_
              exact ro_ret C0 (Option.some.inj h) d_T_partOf_76
            · rw [if_neg hc] at h
              refine lv_iload_n hx hb d_T_partOf_57 rfl (lv_at hl 0 rfl) ?_
              refine lv_aload_n hx hb d_T_partOf_58 rfl (lv_at hl 1 rfl) ?_
              refine va_get (ci := 2) (v := .ref q) (C := R_T) (T := F_T) (N := 12) hx hb hts i_T hown hK.1 hP 0 rfl rfl 7 (by decide) (hts _ wd_108) (fun _ h9 => h9) rfl d_T_partOf_59 ?_
              refine va_alen hx hb hK.1 hP 8 0 rfl rfl rfl d_T_partOf_62 ?_
              refine lv_icmp_ge (tgt := 75) hx hb d_T_partOf_63 (by decide) (fun hc => ?_) (fun hc => ?_)
              · rw [if_pos hc] at h
                refine lv_iconst (v := (-1)) hx hb d_T_partOf_75 (by decide) ?_
                exact ro_ret C0 (Option.some.inj h) d_T_partOf_76
              · rw [if_neg hc] at h
                refine lv_aload_n hx hb d_T_partOf_66 rfl (lv_at hl 1 rfl) ?_
                refine va_get (ci := 2) (v := .ref q) (C := R_T) (T := F_T) (N := 12) hx hb hts i_T hown hK.1 hP 0 rfl rfl 7 (by decide) (hts _ wd_108) (fun _ h9 => h9) rfl d_T_partOf_67 ?_
                refine lv_iload_n hx hb d_T_partOf_70 rfl (lv_at hl 0 rfl) ?_
                replace h := gd h
                obtain ⟨hi, h⟩ := h
                refine va_iald hx hb hK.1 hP 8 0 rfl rfl hi d_T_partOf_71 ?_
                refine lv_goto (tgt := 76) hx hb d_T_partOf_72 (by decide) ?_
                exact ro_ret C0 (Option.some.inj h) d_T_partOf_76
        · rw [if_pos hc] at h
          refine lv_iload_n hx hb d_T_partOf_34 rfl (lv_at hl 1 rfl) ?_
          exact ro_ret C0 (Option.some.inj h) d_T_partOf_35
      · rw [if_neg hc] at h
        refine lv_iconst (v := (-1)) hx hb d_T_partOf_22 (by decide) ?_
        exact ro_ret C0 (Option.some.inj h) d_T_partOf_23
set_option maxHeartbeats 4000000 in
set_option maxRecDepth 100000 in
theorem c_T_partOf (l : Launch) (D : va_G) (cI cZ : ClassId) (a : Nat → Nat) (q : Nat) (σ : StT) (x1 : Int32) (x2 : Int32) {val : Int32} (h : f_T_partOf σ x1 x2 = some val) : RoM l y_T_partOf b_T_partOf 4 (some .int) 1 21 D [(cI, .int), (cZ, .boolean)] [.ref (a 10), .int x1, .int x2] (wT cI cZ a q σ) val :=
  ro_of (by decide) (Nat.le_of_ble_eq_true rfl) (fun p e s m args below meth c ls C0 hP hl => t_T_partOf_0 (a := a) C0 hP h (lv_sub hl [0, 1, 2] rfl))
def f_T_argumentAt (σ : StT) (x1 : Int32) : Option Int32 :=
  if (f_T_isThere σ x1) = 0 then
    some 0
  else
    if x1 < 0 ∨ 300 ≤ x1.toNatClampNeg then none else
    some ((T_arguments σ) x1.toNatClampNeg)
set_option maxHeartbeats 4000000 in
set_option maxRecDepth 100000 in
theorem t_T_argumentAt_0 {p : Program} {l : Launch} {e : Env} {s : State} {m : MethodId} {args : Array Value} {below : List Frame} {meth : Method} {c : Code} {D : va_G} {cI cZ : ClassId} {a : Nat → Nat} {q : Nat} {σ : StT} (C0 : Am p s m args meth c b_T_argumentAt (some .int) 2 R_T D [(cI, .int), (cZ, .boolean)]) (hP : va_P D vwCl (wT cI cZ a q σ) s.heap) {val : Int32}   {x1 : Int32} (h : f_T_argumentAt σ x1 = some val) {ls : Array Slot} (hl : lv_has ls 2 [(0, .ref (a 10)), (1, .int x1)]) : RoW p l e (rmK 1 21 0 0) s m args below meth c val (F0 m 0 ls []) := by
  obtain ⟨hx, hb, hr, hml, hown, hts, hlk, hK⟩ := id C0
  unfold f_T_argumentAt at h
  refine lv_aload_n hx hb d_T_argumentAt_0 rfl (lv_at hl 0 rfl) ?_
  refine lv_iload_n hx hb d_T_argumentAt_1 rfl (lv_at hl 1 rfl) ?_
  refine ro_V (n := 1) (ci := 2) (As := [.int x1]) (rest := []) C0 (c_T_isThere l D cI cZ a q σ x1 rfl) wd_48 ⟨wd_49, wd_50, wd_51, wd_52⟩ (by decide +kernel) ⟨Nat.le_of_ble_eq_true rfl, Nat.le_of_ble_eq_true rfl⟩ hP rfl rfl rfl hl rfl rfl (Nat.le_of_ble_eq_true rfl) ⟨Nat.zero_le _, Nat.zero_le _⟩ d_T_argumentAt_2 ?_
  refine lv_if_eq (tgt := 17) hx hb d_T_argumentAt_5 (by decide) (fun hc => ?_) (fun hc => ?_)
  · rw [if_pos hc] at h
    refine lv_iconst (v := 0) hx hb d_T_argumentAt_17 (by decide) ?_
    exact ro_ret C0 (Option.some.inj h) d_T_argumentAt_18
  · rw [if_neg hc] at h
    refine lv_aload_n hx hb d_T_argumentAt_8 rfl (lv_at hl 0 rfl) ?_
    refine va_get (ci := 2) (v := .ref (a 13)) (C := R_T) (T := F_T) (N := 12) hx hb hts i_T hown hK.1 hP 0 rfl rfl 2 (by decide) (hts _ wd_43) (fun _ h9 => h9) rfl d_T_argumentAt_9 ?_
    refine lv_iload_n hx hb d_T_argumentAt_12 rfl (lv_at hl 1 rfl) ?_
    replace h := gd h
    obtain ⟨hi, h⟩ := h
    refine va_iald hx hb hK.1 hP 3 0 rfl rfl hi d_T_argumentAt_13 ?_
    refine lv_goto (tgt := 18) hx hb d_T_argumentAt_14 (by decide) ?_
    exact ro_ret C0 (Option.some.inj h) d_T_argumentAt_18
set_option maxHeartbeats 4000000 in
set_option maxRecDepth 100000 in
theorem c_T_argumentAt (l : Launch) (D : va_G) (cI cZ : ClassId) (a : Nat → Nat) (q : Nat) (σ : StT) (x1 : Int32) {val : Int32} (h : f_T_argumentAt σ x1 = some val) : RoM l y_T_argumentAt b_T_argumentAt 2 (some .int) 1 21 D [(cI, .int), (cZ, .boolean)] [.ref (a 10), .int x1] (wT cI cZ a q σ) val :=
  ro_of (by decide) (Nat.le_of_ble_eq_true rfl) (fun p e s m args below meth c ls C0 hP hl => t_T_argumentAt_0 (a := a) C0 hP h (lv_sub hl [0, 1] rfl))
def f_T_hasParts_3_s (k3 : StT → Int32 → Int32 → Int32 → Option Int32) (pa2 : Nat × (Nat → Int32)) (σ : StT) (x1 x3 x4 : Int32) : Option Int32 :=
  if x1 < 0 ∨ 300 ≤ x1.toNatClampNeg then none else
  if ((T_partCounts σ) x1.toNatClampNeg) ≤ x4 then
    some 1
  else
    if (Int32.ofNat pa2.1) ≤ (x3 + x4) then
      some 1
    else
      (f_T_partOf σ x1 x4).bind fun r1 =>
      if (x3 + x4) < 0 ∨ pa2.1 ≤ (x3 + x4).toNatClampNeg then none else
      if r1 = (pa2.2 (x3 + x4).toNatClampNeg) then
        k3 σ x1 x3 (x4 + 1)
      else
        some 0
def f_T_hasParts_3 (pa2 : Nat × (Nat → Int32)) : Nat → StT → Int32 → Int32 → Int32 → Option Int32
  | 0, _, _, _, _ => none
  | n + 1, σ, x1, x3, x4 => f_T_hasParts_3_s (f_T_hasParts_3 pa2 n) pa2 σ x1 x3 x4
def f_T_hasParts (pa2 : Nat × (Nat → Int32)) (σ : StT) (x1 x3 : Int32) : Option Int32 :=
  f_T_hasParts_3 pa2 1000 σ x1 x3 0
set_option maxHeartbeats 4000000 in
set_option maxRecDepth 100000 in
theorem t_T_hasParts_3_s {p : Program} {l : Launch} {e : Env} {s : State} {m : MethodId} {args : Array Value} {below : List Frame} {meth : Method} {c : Code} {D : va_G} {cI cZ : ClassId} {a : Nat → Nat} {q : Nat} {σ : StT} {pa2 : Nat × (Nat → Int32)} {b2 : Nat} (C0 : Am p s m args meth c b_T_hasParts (some .boolean) 5 R_T D [(cI, .int), (cZ, .boolean)]) (hP : va_P D vwCl ((wT cI cZ a q σ) ++ [(b2, .inl (cI, pa2.1, .inl pa2.2))]) s.heap) {val : Int32} {k3 : StT → Int32 → Int32 → Int32 → Option Int32}  (hk3 : ∀ (x1 x3 x4 : Int32) (ls : Array Slot), k3 σ x1 x3 x4 = some val → lv_has ls 5 [(0, .ref (a 10)), (1, .int x1), (2, .ref b2), (3, .int x3), (4, .int x4)] → RoW p l e (rmK 2 44 0 0) s m args below meth c val (F0 m 3 ls [])) {x1 x3 x4 : Int32} (h : f_T_hasParts_3_s k3 pa2 σ x1 x3 x4 = some val) {ls : Array Slot} (hl : lv_has ls 5 [(0, .ref (a 10)), (1, .int x1), (2, .ref b2), (3, .int x3), (4, .int x4)]) : RoW p l e (rmK 2 44 0 0) s m args below meth c val (F0 m 3 ls []) := by
  obtain ⟨hx, hb, hr, hml, hown, hts, hlk, hK⟩ := id C0
  unfold f_T_hasParts_3_s at h
  refine lv_iload hx hb d_T_hasParts_3 (lv_at hl 4 rfl) ?_
  refine lv_aload_n hx hb d_T_hasParts_5 rfl (lv_at hl 0 rfl) ?_
  refine va_get (ci := 2) (v := .ref (a 17)) (C := R_T) (T := F_T) (N := 12) hx hb hts i_T hown hK.1 hP 0 rfl rfl 6 (by decide) (hts _ wd_47) (fun _ h9 => h9) rfl d_T_hasParts_6 ?_
  refine lv_iload_n hx hb d_T_hasParts_9 rfl (lv_at hl 1 rfl) ?_
  replace h := gd h
  obtain ⟨hi, h⟩ := h
  refine va_iald hx hb hK.1 hP 7 0 rfl rfl hi d_T_hasParts_10 ?_
  refine lv_icmp_ge (tgt := 47) hx hb d_T_hasParts_11 (by decide) (fun hc => ?_) (fun hc => ?_)
  · rw [if_pos hc] at h
    refine lv_iconst (v := 1) hx hb d_T_hasParts_47 (by decide) ?_
    exact ro_retz C0 (by decide) (Option.some.inj h) d_T_hasParts_48
  · rw [if_neg hc] at h
    refine lv_iload_n hx hb d_T_hasParts_14 rfl (lv_at hl 3 rfl) ?_
    refine lv_iload hx hb d_T_hasParts_15 (lv_at hl 4 rfl) ?_
    refine lv_iadd hx hb d_T_hasParts_17 ?_
    refine lv_aload_n hx hb d_T_hasParts_18 rfl (lv_at hl 2 rfl) ?_
    refine va_alen hx hb hK.1 hP 9 0 rfl rfl rfl d_T_hasParts_19 ?_
    refine lv_icmp_ge (tgt := 47) hx hb d_T_hasParts_20 (by decide) (fun hc => ?_) (fun hc => ?_)
    · rw [if_pos hc] at h
      refine lv_iconst (v := 1) hx hb d_T_hasParts_47 (by decide) ?_
      exact ro_retz C0 (by decide) (Option.some.inj h) d_T_hasParts_48
    · rw [if_neg hc] at h
      refine lv_aload_n hx hb d_T_hasParts_23 rfl (lv_at hl 0 rfl) ?_
      refine lv_iload_n hx hb d_T_hasParts_24 rfl (lv_at hl 1 rfl) ?_
      refine lv_iload hx hb d_T_hasParts_25 (lv_at hl 4 rfl) ?_
      replace h := bd h
      obtain ⟨r1, g1, h⟩ := h
      refine ro_V (n := 2) (ci := 2) (As := [.int x1, .int x4]) (rest := []) C0 (c_T_partOf l D cI cZ a q σ x1 x4 g1) wd_109 ⟨wd_110, wd_111, wd_112, wd_52⟩ (by decide +kernel) ⟨Nat.le_of_ble_eq_true rfl, Nat.le_of_ble_eq_true rfl⟩ (hP.pick [0, 1, 2, 3, 4, 5, 6, 7, 8] rfl) rfl rfl rfl hl rfl rfl (Nat.le_of_ble_eq_true rfl) ⟨Nat.zero_le _, Nat.zero_le _⟩ d_T_hasParts_27 ?_
      try dsimp only at h
      refine lv_aload_n hx hb d_T_hasParts_30 rfl (lv_at hl 2 rfl) ?_
      refine lv_iload_n hx hb d_T_hasParts_31 rfl (lv_at hl 3 rfl) ?_
      refine lv_iload hx hb d_T_hasParts_32 (lv_at hl 4 rfl) ?_
      refine lv_iadd hx hb d_T_hasParts_34 ?_
      replace h := gd h
      obtain ⟨hi, h⟩ := h
      refine va_iald hx hb hK.1 hP 9 0 rfl rfl hi d_T_hasParts_35 ?_
      refine lv_icmp_eq (tgt := 41) hx hb d_T_hasParts_36 (by decide) (fun hc => ?_) (fun hc => ?_)
      · rw [if_pos hc] at h
        refine lv_iinc (v := (x4 + 1)) (lv' := [(4, .int (x4 + 1)), (0, .ref (a 10)), (1, .int x1), (2, .ref b2), (3, .int x3)]) hx hb d_T_hasParts_41 hl (k := 4) rfl rfl (by decide) rfl (fun ls hl => ?_)
        refine lv_goto (tgt := 3) hx hb d_T_hasParts_44 (by decide) ?_
        exact hk3 _ _ _ _ h (lv_sub hl [1, 2, 3, 4, 0] rfl)
      · rw [if_neg hc] at h
        refine lv_iconst (v := 0) hx hb d_T_hasParts_39 (by decide) ?_
        exact ro_retz C0 (by decide) (Option.some.inj h) d_T_hasParts_40
set_option maxHeartbeats 4000000 in
set_option maxRecDepth 100000 in
theorem t_T_hasParts_3 {p : Program} {l : Launch} {e : Env} {s : State} {m : MethodId} {args : Array Value} {below : List Frame} {meth : Method} {c : Code} {D : va_G} {cI cZ : ClassId} {a : Nat → Nat} {q : Nat} {σ : StT} {pa2 : Nat × (Nat → Int32)} {b2 : Nat} (C0 : Am p s m args meth c b_T_hasParts (some .boolean) 5 R_T D [(cI, .int), (cZ, .boolean)]) (hP : va_P D vwCl ((wT cI cZ a q σ) ++ [(b2, .inl (cI, pa2.1, .inl pa2.2))]) s.heap) {val : Int32}  {n : Nat} {x1 x3 x4 : Int32} (h : f_T_hasParts_3 pa2 n σ x1 x3 x4 = some val) {ls : Array Slot} (hl : lv_has ls 5 [(0, .ref (a 10)), (1, .int x1), (2, .ref b2), (3, .int x3), (4, .int x4)]) : RoW p l e (rmK 2 44 0 0) s m args below meth c val (F0 m 3 ls []) := by
  induction n generalizing x1 x3 x4 ls with
  | zero => cases h
  | succ n ih => exact t_T_hasParts_3_s (a := a) C0 hP  (fun _ _ _ _ h hl => ih h hl) h hl
set_option maxHeartbeats 4000000 in
set_option maxRecDepth 100000 in
theorem t_T_hasParts_0 {p : Program} {l : Launch} {e : Env} {s : State} {m : MethodId} {args : Array Value} {below : List Frame} {meth : Method} {c : Code} {D : va_G} {cI cZ : ClassId} {a : Nat → Nat} {q : Nat} {σ : StT} {pa2 : Nat × (Nat → Int32)} {b2 : Nat} (C0 : Am p s m args meth c b_T_hasParts (some .boolean) 5 R_T D [(cI, .int), (cZ, .boolean)]) (hP : va_P D vwCl ((wT cI cZ a q σ) ++ [(b2, .inl (cI, pa2.1, .inl pa2.2))]) s.heap) {val : Int32}   {x1 x3 : Int32} (h : f_T_hasParts pa2 σ x1 x3 = some val) {ls : Array Slot} (hl : lv_has ls 5 [(0, .ref (a 10)), (1, .int x1), (2, .ref b2), (3, .int x3)]) : RoW p l e (rmK 2 44 0 0) s m args below meth c val (F0 m 0 ls []) := by
  obtain ⟨hx, hb, hr, hml, hown, hts, hlk, hK⟩ := id C0
  unfold f_T_hasParts at h
  refine lv_iconst (v := 0) hx hb d_T_hasParts_0 (by decide) ?_
  refine lv_istore (lv' := [(4, .int 0), (0, .ref (a 10)), (1, .int x1), (2, .ref b2), (3, .int x3)]) hx hb d_T_hasParts_1 hl (by decide) rfl (fun ls hl => ?_)
  exact t_T_hasParts_3 (a := a) C0 hP  h (lv_sub hl [1, 2, 3, 4, 0] rfl)
set_option maxHeartbeats 4000000 in
set_option maxRecDepth 100000 in
theorem c_T_hasParts (l : Launch) (D : va_G) (cI cZ : ClassId) (a : Nat → Nat) (q : Nat) (σ : StT) (x1 : Int32) (pa2 : Nat × (Nat → Int32)) (b2 : Nat) (x3 : Int32) {val : Int32} (h : f_T_hasParts pa2 σ x1 x3 = some val) : RoM l y_T_hasParts b_T_hasParts 5 (some .boolean) 2 44 D [(cI, .int), (cZ, .boolean)] [.ref (a 10), .int x1, .ref b2, .int x3] ((wT cI cZ a q σ) ++ [(b2, .inl (cI, pa2.1, .inl pa2.2))]) val :=
  ro_of (by decide) (Nat.le_of_ble_eq_true rfl) (fun p e s m args below meth c ls C0 hP hl => t_T_hasParts_0 (a := a) C0 hP h (lv_sub hl [0, 1, 2, 3] rfl))
def f_T_findIntersection_3_s (k3 : StT → Int32 → Int32 → Int32 → Option Int32) (pa1 : Nat × (Nat → Int32)) (σ : StT) (x2 x3 x4 : Int32) : Option Int32 :=
  if (T_count σ) ≤ x4 then
    some (-1)
  else
    if x4 < 0 ∨ 300 ≤ x4.toNatClampNeg then none else
    if ((T_kinds σ) x4.toNatClampNeg) = 3 then
      if x4 < 0 ∨ 300 ≤ x4.toNatClampNeg then none else
      if ((T_partCounts σ) x4.toNatClampNeg) = x3 then
        (f_T_hasParts pa1 σ x4 x2).bind fun r1 =>
        if r1 = 0 then
          k3 σ x2 x3 (x4 + 1)
        else
          some x4
      else
        k3 σ x2 x3 (x4 + 1)
    else
      k3 σ x2 x3 (x4 + 1)
def f_T_findIntersection_3 (pa1 : Nat × (Nat → Int32)) : Nat → StT → Int32 → Int32 → Int32 → Option Int32
  | 0, _, _, _, _ => none
  | n + 1, σ, x2, x3, x4 => f_T_findIntersection_3_s (f_T_findIntersection_3 pa1 n) pa1 σ x2 x3 x4
def f_T_findIntersection (pa1 : Nat × (Nat → Int32)) (σ : StT) (x2 x3 : Int32) : Option Int32 :=
  f_T_findIntersection_3 pa1 1000 σ x2 x3 0
set_option maxHeartbeats 4000000 in
set_option maxRecDepth 100000 in
theorem t_T_findIntersection_3_s {p : Program} {l : Launch} {e : Env} {s : State} {m : MethodId} {args : Array Value} {below : List Frame} {meth : Method} {c : Code} {D : va_G} {cI cZ : ClassId} {a : Nat → Nat} {q : Nat} {σ : StT} {pa1 : Nat × (Nat → Int32)} {b1 : Nat} (C0 : Am p s m args meth c b_T_findIntersection (some .int) 5 R_T D [(cI, .int), (cZ, .boolean)]) (hP : va_P D vwCl ((wT cI cZ a q σ) ++ [(b1, .inl (cI, pa1.1, .inl pa1.2))]) s.heap) {val : Int32} {k3 : StT → Int32 → Int32 → Int32 → Option Int32}  (hk3 : ∀ (x2 x3 x4 : Int32) (ls : Array Slot), k3 σ x2 x3 x4 = some val → lv_has ls 5 [(0, .ref (a 10)), (1, .ref b1), (2, .int x2), (3, .int x3), (4, .int x4)] → RoW p l e (rmK 3 68 0 0) s m args below meth c val (F0 m 3 ls [])) {x2 x3 x4 : Int32} (h : f_T_findIntersection_3_s k3 pa1 σ x2 x3 x4 = some val) {ls : Array Slot} (hl : lv_has ls 5 [(0, .ref (a 10)), (1, .ref b1), (2, .int x2), (3, .int x3), (4, .int x4)]) : RoW p l e (rmK 3 68 0 0) s m args below meth c val (F0 m 3 ls []) := by
  obtain ⟨hx, hb, hr, hml, hown, hts, hlk, hK⟩ := id C0
  unfold f_T_findIntersection_3_s at h
  refine lv_iload hx hb d_T_findIntersection_3 (lv_at hl 4 rfl) ?_
  refine lv_aload_n hx hb d_T_findIntersection_5 rfl (lv_at hl 0 rfl) ?_
  refine va_get (ci := 2) (v := .int (T_count σ)) (C := R_T) (T := F_T) (N := 12) hx hb hts i_T hown hK.1 hP 0 rfl rfl 9 (by decide) (hts _ wd_40) (fun _ h9 => h9) rfl d_T_findIntersection_6 ?_
  refine lv_icmp_ge (tgt := 54) hx hb d_T_findIntersection_9 (by decide) (fun hc => ?_) (fun hc => ?_)
  · rw [if_pos hc] at h
    refine lv_iconst (v := (-1)) hx hb d_T_findIntersection_54 (by decide) ?_
    exact ro_ret C0 (Option.some.inj h) d_T_findIntersection_55
  · rw [if_neg hc] at h
    refine lv_aload_n hx hb d_T_findIntersection_12 rfl (lv_at hl 0 rfl) ?_
    refine va_get (ci := 2) (v := .ref (a 11)) (C := R_T) (T := F_T) (N := 12) hx hb hts i_T hown hK.1 hP 0 rfl rfl 0 (by decide) (hts _ wd_41) (fun _ h9 => h9) rfl d_T_findIntersection_13 ?_
    refine lv_iload hx hb d_T_findIntersection_16 (lv_at hl 4 rfl) ?_
    replace h := gd h
    obtain ⟨hi, h⟩ := h
    refine va_iald hx hb hK.1 hP 1 0 rfl rfl hi d_T_findIntersection_18 ?_
    refine lv_iconst (v := 3) hx hb d_T_findIntersection_19 (by decide) ?_
    refine lv_icmp_ne (tgt := 48) hx hb d_T_findIntersection_20 (by decide) (fun hc => ?_) (fun hc => ?_)
    · rw [if_neg hc] at h
      refine lv_iinc (v := (x4 + 1)) (lv' := [(4, .int (x4 + 1)), (0, .ref (a 10)), (1, .ref b1), (2, .int x2), (3, .int x3)]) hx hb d_T_findIntersection_48 hl (k := 4) rfl rfl (by decide) rfl (fun ls hl => ?_)
      refine lv_goto (tgt := 3) hx hb d_T_findIntersection_51 (by decide) ?_
      exact hk3 _ _ _ _ h (lv_sub hl [1, 2, 3, 4, 0] rfl)
    · rw [if_pos hc] at h
      refine lv_aload_n hx hb d_T_findIntersection_23 rfl (lv_at hl 0 rfl) ?_
      refine va_get (ci := 2) (v := .ref (a 17)) (C := R_T) (T := F_T) (N := 12) hx hb hts i_T hown hK.1 hP 0 rfl rfl 6 (by decide) (hts _ wd_47) (fun _ h9 => h9) rfl d_T_findIntersection_24 ?_
      refine lv_iload hx hb d_T_findIntersection_27 (lv_at hl 4 rfl) ?_
      replace h := gd h
      obtain ⟨hi, h⟩ := h
      refine va_iald hx hb hK.1 hP 7 0 rfl rfl hi d_T_findIntersection_29 ?_
      refine lv_iload_n hx hb d_T_findIntersection_30 rfl (lv_at hl 3 rfl) ?_
      refine lv_icmp_ne (tgt := 48) hx hb d_T_findIntersection_31 (by decide) (fun hc => ?_) (fun hc => ?_)
      · rw [if_neg hc] at h
        refine lv_iinc (v := (x4 + 1)) (lv' := [(4, .int (x4 + 1)), (0, .ref (a 10)), (1, .ref b1), (2, .int x2), (3, .int x3)]) hx hb d_T_findIntersection_48 hl (k := 4) rfl rfl (by decide) rfl (fun ls hl => ?_)
        refine lv_goto (tgt := 3) hx hb d_T_findIntersection_51 (by decide) ?_
        exact hk3 _ _ _ _ h (lv_sub hl [1, 2, 3, 4, 0] rfl)
      · rw [if_pos hc] at h
        refine lv_aload_n hx hb d_T_findIntersection_34 rfl (lv_at hl 0 rfl) ?_
        refine lv_iload hx hb d_T_findIntersection_35 (lv_at hl 4 rfl) ?_
        refine lv_aload_n hx hb d_T_findIntersection_37 rfl (lv_at hl 1 rfl) ?_
        refine lv_iload_n hx hb d_T_findIntersection_38 rfl (lv_at hl 2 rfl) ?_
        replace h := bd h
        obtain ⟨r1, g1, h⟩ := h
        refine ro_V (n := 3) (ci := 2) (As := [.int x4, .ref b1, .int x2]) (rest := []) C0 (c_T_hasParts l D cI cZ a q σ x4 pa1 b1 x2 g1) wd_113 ⟨wd_114, wd_115, wd_116, wd_52⟩ (by decide +kernel) ⟨Nat.le_of_ble_eq_true rfl, Nat.le_of_ble_eq_true rfl⟩ hP rfl rfl rfl hl rfl rfl (Nat.le_of_ble_eq_true rfl) ⟨Nat.zero_le _, Nat.zero_le _⟩ d_T_findIntersection_39 ?_
        try dsimp only at h
        refine lv_if_eq (tgt := 48) hx hb d_T_findIntersection_42 (by decide) (fun hc => ?_) (fun hc => ?_)
        · rw [if_pos hc] at h
          refine lv_iinc (v := (x4 + 1)) (lv' := [(4, .int (x4 + 1)), (0, .ref (a 10)), (1, .ref b1), (2, .int x2), (3, .int x3)]) hx hb d_T_findIntersection_48 hl (k := 4) rfl rfl (by decide) rfl (fun ls hl => ?_)
          refine lv_goto (tgt := 3) hx hb d_T_findIntersection_51 (by decide) ?_
          exact hk3 _ _ _ _ h (lv_sub hl [1, 2, 3, 4, 0] rfl)
        · rw [if_neg hc] at h
          refine lv_iload hx hb d_T_findIntersection_45 (lv_at hl 4 rfl) ?_
          exact ro_ret C0 (Option.some.inj h) d_T_findIntersection_47
set_option maxHeartbeats 4000000 in
set_option maxRecDepth 100000 in
theorem t_T_findIntersection_3 {p : Program} {l : Launch} {e : Env} {s : State} {m : MethodId} {args : Array Value} {below : List Frame} {meth : Method} {c : Code} {D : va_G} {cI cZ : ClassId} {a : Nat → Nat} {q : Nat} {σ : StT} {pa1 : Nat × (Nat → Int32)} {b1 : Nat} (C0 : Am p s m args meth c b_T_findIntersection (some .int) 5 R_T D [(cI, .int), (cZ, .boolean)]) (hP : va_P D vwCl ((wT cI cZ a q σ) ++ [(b1, .inl (cI, pa1.1, .inl pa1.2))]) s.heap) {val : Int32}  {n : Nat} {x2 x3 x4 : Int32} (h : f_T_findIntersection_3 pa1 n σ x2 x3 x4 = some val) {ls : Array Slot} (hl : lv_has ls 5 [(0, .ref (a 10)), (1, .ref b1), (2, .int x2), (3, .int x3), (4, .int x4)]) : RoW p l e (rmK 3 68 0 0) s m args below meth c val (F0 m 3 ls []) := by
  induction n generalizing x2 x3 x4 ls with
  | zero => cases h
  | succ n ih => exact t_T_findIntersection_3_s (a := a) C0 hP  (fun _ _ _ _ h hl => ih h hl) h hl
set_option maxHeartbeats 4000000 in
set_option maxRecDepth 100000 in
theorem t_T_findIntersection_0 {p : Program} {l : Launch} {e : Env} {s : State} {m : MethodId} {args : Array Value} {below : List Frame} {meth : Method} {c : Code} {D : va_G} {cI cZ : ClassId} {a : Nat → Nat} {q : Nat} {σ : StT} {pa1 : Nat × (Nat → Int32)} {b1 : Nat} (C0 : Am p s m args meth c b_T_findIntersection (some .int) 5 R_T D [(cI, .int), (cZ, .boolean)]) (hP : va_P D vwCl ((wT cI cZ a q σ) ++ [(b1, .inl (cI, pa1.1, .inl pa1.2))]) s.heap) {val : Int32}   {x2 x3 : Int32} (h : f_T_findIntersection pa1 σ x2 x3 = some val) {ls : Array Slot} (hl : lv_has ls 5 [(0, .ref (a 10)), (1, .ref b1), (2, .int x2), (3, .int x3)]) : RoW p l e (rmK 3 68 0 0) s m args below meth c val (F0 m 0 ls []) := by
  obtain ⟨hx, hb, hr, hml, hown, hts, hlk, hK⟩ := id C0
  unfold f_T_findIntersection at h
  refine lv_iconst (v := 0) hx hb d_T_findIntersection_0 (by decide) ?_
  refine lv_istore (lv' := [(4, .int 0), (0, .ref (a 10)), (1, .ref b1), (2, .int x2), (3, .int x3)]) hx hb d_T_findIntersection_1 hl (by decide) rfl (fun ls hl => ?_)
  exact t_T_findIntersection_3 (a := a) C0 hP  h (lv_sub hl [1, 2, 3, 4, 0] rfl)
set_option maxHeartbeats 4000000 in
set_option maxRecDepth 100000 in
theorem c_T_findIntersection (l : Launch) (D : va_G) (cI cZ : ClassId) (a : Nat → Nat) (q : Nat) (σ : StT) (pa1 : Nat × (Nat → Int32)) (b1 : Nat) (x2 : Int32) (x3 : Int32) {val : Int32} (h : f_T_findIntersection pa1 σ x2 x3 = some val) : RoM l y_T_findIntersection b_T_findIntersection 5 (some .int) 3 68 D [(cI, .int), (cZ, .boolean)] [.ref (a 10), .ref b1, .int x2, .int x3] ((wT cI cZ a q σ) ++ [(b1, .inl (cI, pa1.1, .inl pa1.2))]) val :=
  ro_of (by decide) (Nat.le_of_ble_eq_true rfl) (fun p e s m args below meth c ls C0 hP hl => t_T_findIntersection_0 (a := a) C0 hP h (lv_sub hl [0, 1, 2, 3] rfl))
def f_T_appendParts_35 (pa2 : Nat × (Nat → Int32)) (σ : StT) (x1 x3 x4 : Int32) : Option ((Int32 ⊕ Nat) × StT × Nat × Nat) :=
  if x3 < 0 ∨ (T_partsUsed σ) < 0 ∨ x4 < 0 ∨ pa2.1 < x3.toNatClampNeg + x4.toNatClampNeg ∨ (T_parts σ).1 < (T_partsUsed σ).toNatClampNeg + x4.toNatClampNeg then none else
  if x1 < 0 ∨ 300 ≤ x1.toNatClampNeg then none else
  if x1 < 0 ∨ 300 ≤ x1.toNatClampNeg then none else
  some (.inl 0, (T_set_partsUsed (T_put_partCounts (T_put_partStarts (T_set_parts σ ((T_parts σ).1, va_cpy pa2.2 (T_parts σ).2 x3.toNatClampNeg (T_partsUsed σ).toNatClampNeg x4.toNatClampNeg)) x1 (T_partsUsed (T_set_parts σ ((T_parts σ).1, va_cpy pa2.2 (T_parts σ).2 x3.toNatClampNeg (T_partsUsed σ).toNatClampNeg x4.toNatClampNeg)))) x1 x4) ((T_partsUsed (T_put_partCounts (T_put_partStarts (T_set_parts σ ((T_parts σ).1, va_cpy pa2.2 (T_parts σ).2 x3.toNatClampNeg (T_partsUsed σ).toNatClampNeg x4.toNatClampNeg)) x1 (T_partsUsed (T_set_parts σ ((T_parts σ).1, va_cpy pa2.2 (T_parts σ).2 x3.toNatClampNeg (T_partsUsed σ).toNatClampNeg x4.toNatClampNeg)))) x1 x4)) + x4)), 0, 0)
def f_T_appendParts (pa2 : Nat × (Nat → Int32)) (σ : StT) (x1 x3 x4 : Int32) : Option ((Int32 ⊕ Nat) × StT × Nat × Nat) :=
  if ((T_partsUsed σ) + x4) ≤ (Int32.ofNat (T_parts σ).1) then
    f_T_appendParts_35 pa2 σ x1 x3 x4
  else
    if (2 * ((T_partsUsed σ) + x4)) < 0 ∨ (2 * ((T_partsUsed σ) + x4)) = Int32.ofNat (T_parts σ).1 ∨ 134217728 < (2 * ((T_partsUsed σ) + x4)).toNatClampNeg ∨ 2147483648 ≤ (T_parts σ).1 then none else ad_ 1 ((2 * ((T_partsUsed σ) + x4)).toNatClampNeg) <|
    f_T_appendParts_35 pa2 (T_set_parts σ ((2 * ((T_partsUsed σ) + x4)).toNatClampNeg, J_copyOf (T_parts σ).2 (T_parts σ).1 (2 * ((T_partsUsed σ) + x4)))) x1 x3 x4
set_option maxHeartbeats 4000000 in
set_option maxRecDepth 100000 in
theorem t_T_appendParts_35 {p : Program} {l : Launch} {e : Env} {s : State} {m : MethodId} {args : Array Value} {below : List Frame} {meth : Method} {c : Code} {D : va_G} {cI cZ : ClassId} {a : Nat → Nat} {pa2 : Nat × (Nat → Int32)} {b2 : Nat} {A : Nat → Prop} (C0 : Am p s m args meth c b_T_appendParts none 5 R_T D [(cI, .int), (cZ, .boolean)]) (hA : ∀ q, s.heap.size ≤ q → A q) (hT : ∀ x ∈ c.exceptionTable.toList, False) (hl0 : l.stackTraces = false) (hZ : Zs A s s.heap) {v : Int32 ⊕ Nat} {u : StT} {K N : Nat}   {q : Nat} {σ : StT} {x1 x3 x4 : Int32} {kc ks mc ms : Nat} (h : f_T_appendParts_35 pa2 σ x1 x3 x4 = some (v, u, mc, ms)) (hkc : kc + mc = K) (hks : ks + ms = N) {H : Heap} {locs : List Loc} (hP : va_P D vwCl ((wT cI cZ a q σ) ++ [(b2, .inl (cI, pa2.1, .inl pa2.2))]) H) (hD : va_D A ((wT cI cZ a q σ) ++ [(b2, .inl (cI, pa2.1, .inl pa2.2))])) (hS : va_S A s.heap H locs) {ls : Array Slot} (hl : lv_has ls 5 [(0, .ref (a 10)), (1, .int x1), (2, .ref b2), (3, .int x3), (4, .int x4)]) : W p l e (rmK 2 82 K N) s m args below meth c H locs kc ks (TxQv below args s D A (fun q (σ : StT) => ((wT cI cZ a q σ) ++ [(b2, .inl (cI, pa2.1, .inl pa2.2))])) v u K N) (F0 m 35 ls []) := by
  obtain ⟨hx, hb, hr, hml, hown, hts, hlk, hK⟩ := id C0
  have hcs : kc ≤ K ∧ ks ≤ N := ⟨by omega, by omega⟩
  unfold f_T_appendParts_35 at h
  refine lv_aload_n hx hb d_T_appendParts_35 rfl (lv_at hl 2 rfl) ?_
  refine lv_iload_n hx hb d_T_appendParts_36 rfl (lv_at hl 3 rfl) ?_
  refine lv_aload_n hx hb d_T_appendParts_37 rfl (lv_at hl 0 rfl) ?_
  refine va_get (ci := 2) (v := .ref q) (C := R_T) (T := F_T) (N := 12) hx hb hts i_T hown hK.1 hP 0 rfl rfl 7 (by decide) (hts _ wd_108) (fun _ h9 => h9) rfl d_T_appendParts_38 ?_
  refine lv_aload_n hx hb d_T_appendParts_41 rfl (lv_at hl 0 rfl) ?_
  refine va_get (ci := 2) (v := .int (T_partsUsed σ)) (C := R_T) (T := F_T) (N := 12) hx hb hts i_T hown hK.1 hP 0 rfl rfl 8 (by decide) (hts _ wd_65) (fun _ h9 => h9) rfl d_T_appendParts_42 ?_
  refine lv_iload hx hb d_T_appendParts_45 (lv_at hl 4 rfl) ?_
  replace h := gd h
  obtain ⟨hi, h⟩ := h
  refine rw_copy C0 hl hP hD hS 9 8 0 0 rfl rfl rfl rfl hi (hts _ wd_117) (hts _ wd_118) (hts _ wd_119) (hts _ wd_120) (Nat.le_of_ble_eq_true rfl) (Nat.le_of_ble_eq_true rfl) d_T_appendParts_47 (Wn := ((wT cI cZ a q (T_set_parts σ ((T_parts σ).1, va_cpy pa2.2 (T_parts σ).2 x3.toNatClampNeg (T_partsUsed σ).toNatClampNeg x4.toNatClampNeg))) ++ [(b2, .inl (cI, pa2.1, .inl pa2.2))])) wsp_T_seta_parts (fun H locs hP hD hS => ?_)
  refine lv_aload_n hx hb d_T_appendParts_50 rfl (lv_at hl 0 rfl) ?_
  refine va_get (ci := 2) (v := .ref (a 16)) (C := R_T) (T := F_T) (N := 12) hx hb hts i_T hown hK.1 hP 0 rfl rfl 5 (by decide) (hts _ wd_46) (fun _ h9 => h9) rfl d_T_appendParts_51 ?_
  refine lv_iload_n hx hb d_T_appendParts_54 rfl (lv_at hl 1 rfl) ?_
  refine lv_aload_n hx hb d_T_appendParts_55 rfl (lv_at hl 0 rfl) ?_
  refine va_get (ci := 2) (v := .int (T_partsUsed (T_set_parts σ ((T_parts σ).1, va_cpy pa2.2 (T_parts σ).2 x3.toNatClampNeg (T_partsUsed σ).toNatClampNeg x4.toNatClampNeg)))) (C := R_T) (T := F_T) (N := 12) hx hb hts i_T hown hK.1 hP 0 rfl rfl 8 (by decide) (hts _ wd_65) (fun _ h9 => h9) rfl d_T_appendParts_56 ?_
  replace h := gd h
  obtain ⟨hi, h⟩ := h
  refine rw_iast C0 hP hD hS 6 0 rfl rfl hi d_T_appendParts_59 (Wn := ((wT cI cZ a q (T_put_partStarts (T_set_parts σ ((T_parts σ).1, va_cpy pa2.2 (T_parts σ).2 x3.toNatClampNeg (T_partsUsed σ).toNatClampNeg x4.toNatClampNeg)) x1 (T_partsUsed (T_set_parts σ ((T_parts σ).1, va_cpy pa2.2 (T_parts σ).2 x3.toNatClampNeg (T_partsUsed σ).toNatClampNeg x4.toNatClampNeg))))) ++ [(b2, .inl (cI, pa2.1, .inl pa2.2))])) wsp_T_put_partStarts (fun H locs hP hD hS => ?_)
  refine lv_aload_n hx hb d_T_appendParts_60 rfl (lv_at hl 0 rfl) ?_
  refine va_get (ci := 2) (v := .ref (a 17)) (C := R_T) (T := F_T) (N := 12) hx hb hts i_T hown hK.1 hP 0 rfl rfl 6 (by decide) (hts _ wd_47) (fun _ h9 => h9) rfl d_T_appendParts_61 ?_
  refine lv_iload_n hx hb d_T_appendParts_64 rfl (lv_at hl 1 rfl) ?_
  refine lv_iload hx hb d_T_appendParts_65 (lv_at hl 4 rfl) ?_
  replace h := gd h
  obtain ⟨hi, h⟩ := h
  refine rw_iast C0 hP hD hS 7 0 rfl rfl hi d_T_appendParts_67 (Wn := ((wT cI cZ a q (T_put_partCounts (T_put_partStarts (T_set_parts σ ((T_parts σ).1, va_cpy pa2.2 (T_parts σ).2 x3.toNatClampNeg (T_partsUsed σ).toNatClampNeg x4.toNatClampNeg)) x1 (T_partsUsed (T_set_parts σ ((T_parts σ).1, va_cpy pa2.2 (T_parts σ).2 x3.toNatClampNeg (T_partsUsed σ).toNatClampNeg x4.toNatClampNeg)))) x1 x4)) ++ [(b2, .inl (cI, pa2.1, .inl pa2.2))])) wsp_T_put_partCounts (fun H locs hP hD hS => ?_)
  refine lv_aload_n hx hb d_T_appendParts_68 rfl (lv_at hl 0 rfl) ?_
  refine lv_dup hx hb d_T_appendParts_69 rfl ?_
  refine va_get (ci := 2) (v := .int (T_partsUsed (T_put_partCounts (T_put_partStarts (T_set_parts σ ((T_parts σ).1, va_cpy pa2.2 (T_parts σ).2 x3.toNatClampNeg (T_partsUsed σ).toNatClampNeg x4.toNatClampNeg)) x1 (T_partsUsed (T_set_parts σ ((T_parts σ).1, va_cpy pa2.2 (T_parts σ).2 x3.toNatClampNeg (T_partsUsed σ).toNatClampNeg x4.toNatClampNeg)))) x1 x4))) (C := R_T) (T := F_T) (N := 12) hx hb hts i_T hown hK.1 hP 0 rfl rfl 8 (by decide) (hts _ wd_65) (fun _ h9 => h9) rfl d_T_appendParts_70 ?_
  refine lv_iload hx hb d_T_appendParts_73 (lv_at hl 4 rfl) ?_
  refine lv_iadd hx hb d_T_appendParts_75 ?_
  refine rw_put (v := .int ((T_partsUsed (T_put_partCounts (T_put_partStarts (T_set_parts σ ((T_parts σ).1, va_cpy pa2.2 (T_parts σ).2 x3.toNatClampNeg (T_partsUsed σ).toNatClampNeg x4.toNatClampNeg)) x1 (T_partsUsed (T_set_parts σ ((T_parts σ).1, va_cpy pa2.2 (T_parts σ).2 x3.toNatClampNeg (T_partsUsed σ).toNatClampNeg x4.toNatClampNeg)))) x1 x4)) + x4)) (fty := .int) (C := R_T) (T := F_T) (N := 12) C0 hP hD hS i_T ty_T tyok_T nn_T 0 rfl rfl 8 (by decide) (hts _ wd_65) rfl rfl (by decide +kernel) rfl rfl (Nat.le_of_ble_eq_true rfl) d_T_appendParts_76 (Wn := ((wT cI cZ a q (T_set_partsUsed (T_put_partCounts (T_put_partStarts (T_set_parts σ ((T_parts σ).1, va_cpy pa2.2 (T_parts σ).2 x3.toNatClampNeg (T_partsUsed σ).toNatClampNeg x4.toNatClampNeg)) x1 (T_partsUsed (T_set_parts σ ((T_parts σ).1, va_cpy pa2.2 (T_parts σ).2 x3.toNatClampNeg (T_partsUsed σ).toNatClampNeg x4.toNatClampNeg)))) x1 x4) ((T_partsUsed (T_put_partCounts (T_put_partStarts (T_set_parts σ ((T_parts σ).1, va_cpy pa2.2 (T_parts σ).2 x3.toNatClampNeg (T_partsUsed σ).toNatClampNeg x4.toNatClampNeg)) x1 (T_partsUsed (T_set_parts σ ((T_parts σ).1, va_cpy pa2.2 (T_parts σ).2 x3.toNatClampNeg (T_partsUsed σ).toNatClampNeg x4.toNatClampNeg)))) x1 x4)) + x4))) ++ [(b2, .inl (cI, pa2.1, .inl pa2.2))])) wsp_T_set_partsUsed (fun H locs hP hD hS => ?_)
  cases h; exact tx_retv C0 hP hD hS (by omega) (by omega) d_T_appendParts_79
set_option maxHeartbeats 4000000 in
set_option maxRecDepth 100000 in
theorem t_T_appendParts_0 {p : Program} {l : Launch} {e : Env} {s : State} {m : MethodId} {args : Array Value} {below : List Frame} {meth : Method} {c : Code} {D : va_G} {cI cZ : ClassId} {a : Nat → Nat} {pa2 : Nat × (Nat → Int32)} {b2 : Nat} {A : Nat → Prop} (C0 : Am p s m args meth c b_T_appendParts none 5 R_T D [(cI, .int), (cZ, .boolean)]) (hA : ∀ q, s.heap.size ≤ q → A q) (hT : ∀ x ∈ c.exceptionTable.toList, False) (hl0 : l.stackTraces = false) (hZ : Zs A s s.heap) {v : Int32 ⊕ Nat} {u : StT} {K N : Nat}   {q : Nat} {σ : StT} {x1 x3 x4 : Int32} {kc ks mc ms : Nat} (h : f_T_appendParts pa2 σ x1 x3 x4 = some (v, u, mc, ms)) (hkc : kc + mc = K) (hks : ks + ms = N) {H : Heap} {locs : List Loc} (hP : va_P D vwCl ((wT cI cZ a q σ) ++ [(b2, .inl (cI, pa2.1, .inl pa2.2))]) H) (hD : va_D A ((wT cI cZ a q σ) ++ [(b2, .inl (cI, pa2.1, .inl pa2.2))])) (hS : va_S A s.heap H locs) {ls : Array Slot} (hl : lv_has ls 5 [(0, .ref (a 10)), (1, .int x1), (2, .ref b2), (3, .int x3), (4, .int x4)]) : W p l e (rmK 2 82 K N) s m args below meth c H locs kc ks (TxQv below args s D A (fun q (σ : StT) => ((wT cI cZ a q σ) ++ [(b2, .inl (cI, pa2.1, .inl pa2.2))])) v u K N) (F0 m 0 ls []) := by
  obtain ⟨hx, hb, hr, hml, hown, hts, hlk, hK⟩ := id C0
  have hcs : kc ≤ K ∧ ks ≤ N := ⟨by omega, by omega⟩
  unfold f_T_appendParts at h
  refine lv_aload_n hx hb d_T_appendParts_0 rfl (lv_at hl 0 rfl) ?_
  refine va_get (ci := 2) (v := .int (T_partsUsed σ)) (C := R_T) (T := F_T) (N := 12) hx hb hts i_T hown hK.1 hP 0 rfl rfl 8 (by decide) (hts _ wd_65) (fun _ h9 => h9) rfl d_T_appendParts_1 ?_
  refine lv_iload hx hb d_T_appendParts_4 (lv_at hl 4 rfl) ?_
  refine lv_iadd hx hb d_T_appendParts_6 ?_
  refine lv_aload_n hx hb d_T_appendParts_7 rfl (lv_at hl 0 rfl) ?_
  refine va_get (ci := 2) (v := .ref q) (C := R_T) (T := F_T) (N := 12) hx hb hts i_T hown hK.1 hP 0 rfl rfl 7 (by decide) (hts _ wd_108) (fun _ h9 => h9) rfl d_T_appendParts_8 ?_
  refine va_alen hx hb hK.1 hP 8 0 rfl rfl rfl d_T_appendParts_11 ?_
  refine lv_icmp_le (tgt := 35) hx hb d_T_appendParts_12 (by decide) (fun hc => ?_) (fun hc => ?_)
  · rw [if_pos hc] at h
    exact t_T_appendParts_35 (a := a) C0 hA hT hl0 hZ  h hkc hks hP hD hS (lv_sub hl [0, 1, 2, 3, 4] rfl)
  · rw [if_neg hc] at h
    refine lv_aload_n hx hb d_T_appendParts_15 rfl (lv_at hl 0 rfl) ?_
    refine lv_aload_n hx hb d_T_appendParts_16 rfl (lv_at hl 0 rfl) ?_
    refine va_get (ci := 2) (v := .ref q) (C := R_T) (T := F_T) (N := 12) hx hb hts i_T hown hK.1 hP 0 rfl rfl 7 (by decide) (hts _ wd_108) (fun _ h9 => h9) rfl d_T_appendParts_17 ?_
    refine lv_iconst (v := 2) hx hb d_T_appendParts_20 (by decide) ?_
    refine lv_aload_n hx hb d_T_appendParts_21 rfl (lv_at hl 0 rfl) ?_
    refine va_get (ci := 2) (v := .int (T_partsUsed σ)) (C := R_T) (T := F_T) (N := 12) hx hb hts i_T hown hK.1 hP 0 rfl rfl 8 (by decide) (hts _ wd_65) (fun _ h9 => h9) rfl d_T_appendParts_22 ?_
    refine lv_iload hx hb d_T_appendParts_25 (lv_at hl 4 rfl) ?_
    refine lv_iadd hx hb d_T_appendParts_27 ?_
    refine lv_imul hx hb d_T_appendParts_28 ?_
    replace h := gd h
    obtain ⟨hi, h⟩ := h
    replace h := ad_s h
    obtain ⟨mc, ms, h, rfl, rfl⟩ := h
    refine tx_copyOf (n := (2 * ((T_partsUsed σ) + x4))) (ln := (T_parts σ).1) (f := (T_parts σ).2) (b := q) (rest := [.ref (a 10)]) C0 hA hi wd_121 ⟨Nat.le_of_ble_eq_true rfl, Nat.le_of_ble_eq_true rfl⟩ hP hD hS [8] [0, 1, 2, 3, 4, 5, 6, 7, 9] [0, 1, 2, 3, 4, 5, 6, 7, 9, 8, 10] rfl (by decide) rfl (by decide) (by decide) (by decide) (fun _ => rfl) hl rfl (Nat.le_of_ble_eq_true rfl) ⟨by show kc + 1 ≤ K; omega, by show ks + _ ≤ N; omega⟩ d_T_appendParts_29 (fun H locs q2 hP hD hS => ?_)
    have hkc : (kc + 1) + mc = K := by omega
    have hks : (ks + (2 * ((T_partsUsed σ) + x4)).toNatClampNeg) + ms = N := by omega
    have hcs : (kc + 1) ≤ K ∧ (ks + (2 * ((T_partsUsed σ) + x4)).toNatClampNeg) ≤ N := ⟨by omega, by omega⟩
    refine rw_put (v := .ref q2) (fty := (.array .int)) (C := R_T) (T := F_T) (N := 12) C0 hP hD hS i_T ty_T tyok_T nn_T 0 rfl rfl 7 (by decide) (hts _ wd_108) rfl rfl (by decide +kernel) rfl rfl (Nat.le_of_ble_eq_true rfl) d_T_appendParts_32 rfl (fun H locs hP hD hS => ?_)
    obtain ⟨q, hq⟩ : ∃ z, z = q2 := ⟨_, rfl⟩
    subst hq
    have hP : va_P D vwCl ((wT cI cZ a q (T_set_parts σ ((2 * ((T_partsUsed σ) + x4)).toNatClampNeg, J_copyOf (T_parts σ).2 (T_parts σ).1 (2 * ((T_partsUsed σ) + x4))))) ++ [(b2, .inl (cI, pa2.1, .inl pa2.2))]) H := hP.pick [0, 1, 2, 3, 4, 5, 6, 7, 10, 9] rfl
    have hD : va_D A ((wT cI cZ a q (T_set_parts σ ((2 * ((T_partsUsed σ) + x4)).toNatClampNeg, J_copyOf (T_parts σ).2 (T_parts σ).1 (2 * ((T_partsUsed σ) + x4))))) ++ [(b2, .inl (cI, pa2.1, .inl pa2.2))]) := hD.sub [0, 1, 2, 3, 4, 5, 6, 7, 10, 9] (by decide) rfl
    exact t_T_appendParts_35 (a := a) C0 hA hT hl0 hZ  h hkc hks hP hD hS (lv_sub hl [0, 1, 2, 3, 4] rfl)
set_option maxHeartbeats 4000000 in
set_option maxRecDepth 100000 in
theorem c_T_appendParts (l : Launch) (D : va_G) (cI cZ : ClassId) (a : Nat → Nat) (hl0 : l.stackTraces = false) (q : Nat) (σ : StT) (x1 : Int32) (pa2 : Nat × (Nat → Int32)) (b2 : Nat) (x3 : Int32) (x4 : Int32) {res : (Int32 ⊕ Nat) × StT × Nat × Nat} (h : f_T_appendParts pa2 σ x1 x3 x4 = some res) : TxMv l y_T_appendParts b_T_appendParts 5 2 82 D [(cI, .int), (cZ, .boolean)] [.ref (a 10), .int x1, .ref b2, .int x3, .int x4] (fun q (σ : StT) => ((wT cI cZ a q σ) ++ [(b2, .inl (cI, pa2.1, .inl pa2.2))])) q σ res :=
  tx_ofv (by decide) (Nat.le_of_ble_eq_true rfl) (fun p e s m args below meth c ls A C0 hA hT hZ hP hD hS hl => t_T_appendParts_0 (a := a) (kc := 0) (ks := 0) C0 hA hT hl0 hZ h (Nat.zero_add _) (Nat.zero_add _) hP hD hS (lv_sub hl [0, 1, 2, 3, 4] rfl))
def f_T_makeIntersection_38_s (k38 : StT → Int32 → Int32 → Int32 → Int32 → Option ((Int32 ⊕ Nat) × StT × Nat × Nat)) (pa1 : Nat × (Nat → Int32)) (σ : StT) (x2 x3 x4 x5 : Int32) : Option ((Int32 ⊕ Nat) × StT × Nat × Nat) :=
  if x3 ≤ x5 then
    (f_T_findIntersection pa1 σ x2 x3).bind fun r1 =>
    if r1 = (-1) then
      (f_T_add σ 3 x4).bind fun r2 =>
      if r2.1 = (-1) then
        some (.inl r2.1, r2.2, 0, 0)
      else
        (f_T_appendParts pa1 r2.2 r2.1 x2 x3).bind fun r3 => ad_ r3.2.2.1 r3.2.2.2 <| match r3.1 with
        | .inr e => some (.inr e, r3.2.1, 0, 0)
        | .inl r3v =>
        some (.inl r2.1, r3.2.1, 0, 0)
    else
      some (.inl r1, σ, 0, 0)
  else
    if (x2 + x5) < 0 ∨ pa1.1 ≤ (x2 + x5).toNatClampNeg then none else
    (f_T_sizeOf σ (pa1.2 (x2 + x5).toNatClampNeg)).bind fun r4 =>
    k38 σ x2 x3 (x4 + r4) (x5 + 1)
def f_T_makeIntersection_38 (pa1 : Nat × (Nat → Int32)) : Nat → StT → Int32 → Int32 → Int32 → Int32 → Option ((Int32 ⊕ Nat) × StT × Nat × Nat)
  | 0, _, _, _, _, _ => none
  | n + 1, σ, x2, x3, x4, x5 => f_T_makeIntersection_38_s (f_T_makeIntersection_38 pa1 n) pa1 σ x2 x3 x4 x5
def f_T_makeIntersection (pa1 : Nat × (Nat → Int32)) (σ : StT) (x2 x3 : Int32) : Option ((Int32 ⊕ Nat) × StT × Nat × Nat) :=
  if x2 < 0 then
    some (.inl (-1), σ, 0, 0)
  else
    if x3 < 1 then
      some (.inl (-1), σ, 0, 0)
    else
      if x3 ≤ ((Int32.ofNat pa1.1) - x2) then
        if x3 = 1 then
          if x2 < 0 ∨ pa1.1 ≤ x2.toNatClampNeg then none else
          some (.inl (pa1.2 x2.toNatClampNeg), σ, 0, 0)
        else
          f_T_makeIntersection_38 pa1 1000 σ x2 x3 1 0
      else
        some (.inl (-1), σ, 0, 0)
set_option maxHeartbeats 4000000 in
set_option maxRecDepth 100000 in
theorem t_T_makeIntersection_38_s {p : Program} {l : Launch} {e : Env} {s : State} {m : MethodId} {args : Array Value} {below : List Frame} {meth : Method} {c : Code} {D : va_G} {cI cZ : ClassId} {a : Nat → Nat} {pa1 : Nat × (Nat → Int32)} {b1 : Nat} {A : Nat → Prop} (C0 : Am p s m args meth c b_T_makeIntersection (some .int) 7 R_T D [(cI, .int), (cZ, .boolean)]) (hA : ∀ q, s.heap.size ≤ q → A q) (hT : ∀ x ∈ c.exceptionTable.toList, False) (hl0 : l.stackTraces = false) (hZ : Zs A s s.heap) {v : Int32 ⊕ Nat} {u : StT} {K N : Nat} {k38 : StT → Int32 → Int32 → Int32 → Int32 → Option ((Int32 ⊕ Nat) × StT × Nat × Nat)}  (hk38 : ∀ (q : Nat) (σ : StT) (x2 x3 x4 x5 : Int32) (kc ks mc ms : Nat) (H : Heap) (locs : List Loc) (ls : Array Slot), k38 σ x2 x3 x4 x5 = some (v, u, mc, ms) → kc + mc = K → ks + ms = N → va_P D vwCl ((wT cI cZ a q σ) ++ [(b1, .inl (cI, pa1.1, .inl pa1.2))]) H → va_D A ((wT cI cZ a q σ) ++ [(b1, .inl (cI, pa1.1, .inl pa1.2))]) → va_S A s.heap H locs → lv_has ls 7 [(0, .ref (a 10)), (1, .ref b1), (2, .int x2), (3, .int x3), (4, .int x4), (5, .int x5)] → W p l e (rmK 4 106 K N) s m args below meth c H locs kc ks (TxQ below args s D A (fun q (σ : StT) => ((wT cI cZ a q σ) ++ [(b1, .inl (cI, pa1.1, .inl pa1.2))])) v u K N) (F0 m 38 ls [])) {q : Nat} {σ : StT} {x2 x3 x4 x5 : Int32} {kc ks mc ms : Nat} (h : f_T_makeIntersection_38_s k38 pa1 σ x2 x3 x4 x5 = some (v, u, mc, ms)) (hkc : kc + mc = K) (hks : ks + ms = N) {H : Heap} {locs : List Loc} (hP : va_P D vwCl ((wT cI cZ a q σ) ++ [(b1, .inl (cI, pa1.1, .inl pa1.2))]) H) (hD : va_D A ((wT cI cZ a q σ) ++ [(b1, .inl (cI, pa1.1, .inl pa1.2))])) (hS : va_S A s.heap H locs) {ls : Array Slot} (hl : lv_has ls 7 [(0, .ref (a 10)), (1, .ref b1), (2, .int x2), (3, .int x3), (4, .int x4), (5, .int x5)]) : W p l e (rmK 4 106 K N) s m args below meth c H locs kc ks (TxQ below args s D A (fun q (σ : StT) => ((wT cI cZ a q σ) ++ [(b1, .inl (cI, pa1.1, .inl pa1.2))])) v u K N) (F0 m 38 ls []) := by
  obtain ⟨hx, hb, hr, hml, hown, hts, hlk, hK⟩ := id C0
  have hcs : kc ≤ K ∧ ks ≤ N := ⟨by omega, by omega⟩
  unfold f_T_makeIntersection_38_s at h
  refine lv_iload hx hb d_T_makeIntersection_38 (lv_at hl 5 rfl) ?_
  refine lv_iload_n hx hb d_T_makeIntersection_40 rfl (lv_at hl 3 rfl) ?_
  refine lv_icmp_ge (tgt := 65) hx hb d_T_makeIntersection_41 (by decide) (fun hc => ?_) (fun hc => ?_)
  · rw [if_pos hc] at h
    refine lv_aload_n hx hb d_T_makeIntersection_65 rfl (lv_at hl 0 rfl) ?_
    refine lv_aload_n hx hb d_T_makeIntersection_66 rfl (lv_at hl 1 rfl) ?_
    refine lv_iload_n hx hb d_T_makeIntersection_67 rfl (lv_at hl 2 rfl) ?_
    refine lv_iload_n hx hb d_T_makeIntersection_68 rfl (lv_at hl 3 rfl) ?_
    replace h := bd h
    obtain ⟨r1, g1, h⟩ := h
    refine ro_V (n := 3) (ci := 2) (As := [.ref b1, .int x2, .int x3]) (rest := []) C0 (c_T_findIntersection l D cI cZ a q σ pa1 b1 x2 x3 g1) wd_122 ⟨wd_123, wd_124, wd_125, wd_52⟩ (by decide +kernel) ⟨Nat.le_of_ble_eq_true rfl, Nat.le_of_ble_eq_true rfl⟩ hP rfl rfl rfl hl rfl rfl (Nat.le_of_ble_eq_true rfl) hcs d_T_makeIntersection_69 ?_
    try dsimp only at h
    refine lv_istore (lv' := [(5, .int r1), (0, .ref (a 10)), (1, .ref b1), (2, .int x2), (3, .int x3), (4, .int x4)]) hx hb d_T_makeIntersection_72 hl (by decide) rfl (fun ls hl => ?_)
    refine lv_iload hx hb d_T_makeIntersection_74 (lv_at hl 0 rfl) ?_
    refine lv_iconst (v := (-1)) hx hb d_T_makeIntersection_76 (by decide) ?_
    refine lv_icmp_eq (tgt := 83) hx hb d_T_makeIntersection_77 (by decide) (fun hc => ?_) (fun hc => ?_)
    · rw [if_pos hc] at h
      refine lv_aload_n hx hb d_T_makeIntersection_83 rfl (lv_at hl 1 rfl) ?_
      refine lv_iconst (v := 3) hx hb d_T_makeIntersection_84 (by decide) ?_
      refine lv_iload hx hb d_T_makeIntersection_85 (lv_at hl 5 rfl) ?_
      replace h := bd h
      obtain ⟨r2, g2, h⟩ := h
      refine rw_V (n := 2) (ci := 2) (As := [.int 3, .int x4]) (rest := []) (Wn := fun q => ((wT cI cZ a q r2.2) ++ [(b1, .inl (cI, pa1.1, .inl pa1.2))])) C0 hA (c_T_add l D cI cZ a q σ 3 x4 g2) wd_60 ⟨wd_61, wd_62, wd_63, wd_52⟩ (by decide +kernel) ⟨Nat.le_of_ble_eq_true rfl, Nat.le_of_ble_eq_true rfl⟩ hP hD hS [0, 1, 2, 3, 4, 5, 6, 7, 8] [9] [1, 2, 3, 4, 5, 6, 7, 8, 9, 0] jn_Tp__C (by decide) jn_Tp__R (by decide) (by decide) (by decide) jn_Tp__W rfl rfl rfl hl rfl rfl (Nat.le_of_ble_eq_true rfl) hcs d_T_makeIntersection_87 (fun H locs q hP hD hS => ?_)
      try dsimp only at h
      refine lv_istore (lv' := [(6, .int r2.1), (5, .int r1), (0, .ref (a 10)), (1, .ref b1), (2, .int x2), (3, .int x3), (4, .int x4)]) hx hb d_T_makeIntersection_90 hl (by decide) rfl (fun ls hl => ?_)
      refine lv_iload hx hb d_T_makeIntersection_92 (lv_at hl 0 rfl) ?_
      refine lv_iconst (v := (-1)) hx hb d_T_makeIntersection_94 (by decide) ?_
      refine lv_icmp_eq (tgt := 107) hx hb d_T_makeIntersection_95 (by decide) (fun hc => ?_) (fun hc => ?_)
      · rw [if_pos hc] at h
        refine lv_iload hx hb d_T_makeIntersection_107 (lv_at hl 0 rfl) ?_
        cases h; exact tx_ret C0 hP hD hS (by omega) (by omega) d_T_makeIntersection_109
      · rw [if_neg hc] at h
        refine lv_aload_n hx hb d_T_makeIntersection_98 rfl (lv_at hl 2 rfl) ?_
        refine lv_iload hx hb d_T_makeIntersection_99 (lv_at hl 0 rfl) ?_
        refine lv_aload_n hx hb d_T_makeIntersection_101 rfl (lv_at hl 3 rfl) ?_
        refine lv_iload_n hx hb d_T_makeIntersection_102 rfl (lv_at hl 4 rfl) ?_
        refine lv_iload_n hx hb d_T_makeIntersection_103 rfl (lv_at hl 5 rfl) ?_
        replace h := bd h
        obtain ⟨r3, g3, h⟩ := h
        try dsimp only at h
        replace h := ad_s h
        obtain ⟨mc, ms, h, rfl, rfl⟩ := h
        refine tx_Vv (n := 4) (ci := 2) (As := [.int r2.1, .ref b1, .int x2, .int x3]) (rest := []) (Wn := fun q => ((wT cI cZ a q r3.2.1) ++ [(b1, .inl (cI, pa1.1, .inl pa1.2))])) C0 hA hZ (c_T_appendParts l D cI cZ a hl0 q r2.2 r2.1 pa1 b1 x2 x3 g3) wd_126 ⟨wd_127, wd_128, wd_129, wd_52⟩ (by decide +kernel) ⟨Nat.le_of_ble_eq_true rfl, Nat.le_of_ble_eq_true rfl⟩ hP hD hS [0, 1, 2, 3, 4, 5, 6, 7, 8, 9] [] [0, 1, 2, 3, 4, 5, 6, 7, 8, 9] jn_Tp__p_C (by decide) jn_Tp__p_R (by decide) (by decide) (by decide) jn_Tp__p_W rfl rfl rfl hl rfl rfl (Nat.le_of_ble_eq_true rfl) ⟨by show kc + _ ≤ K; omega, by show ks + _ ≤ N; omega⟩ d_T_makeIntersection_104 (fun ek H locs q q9 ce hv hP hD hS h1 h2 h3 => ?_) (fun r3v H locs q hv hP hD hS => ?_)
        · rw [hv] at h
          cases h
          exact tx_out C0 hT hP hD hS h1 h2 h3 (by omega) (by omega)
        · rw [hv] at h
          try dsimp only at h
          have hkc : (kc + r3.2.2.1) + mc = K := by omega
          have hks : (ks + r3.2.2.2) + ms = N := by omega
          have hcs : (kc + r3.2.2.1) ≤ K ∧ (ks + r3.2.2.2) ≤ N := ⟨by omega, by omega⟩
          refine lv_iload hx hb d_T_makeIntersection_107 (lv_at hl 0 rfl) ?_
          cases h; exact tx_ret C0 hP hD hS (by omega) (by omega) d_T_makeIntersection_109
    · rw [if_neg hc] at h
      refine lv_iload hx hb d_T_makeIntersection_80 (lv_at hl 0 rfl) ?_
      cases h; exact tx_ret C0 hP hD hS (by omega) (by omega) d_T_makeIntersection_82
  · rw [if_neg hc] at h
    refine lv_iload hx hb d_T_makeIntersection_44 (lv_at hl 4 rfl) ?_
    refine lv_aload_n hx hb d_T_makeIntersection_46 rfl (lv_at hl 0 rfl) ?_
    refine lv_aload_n hx hb d_T_makeIntersection_47 rfl (lv_at hl 1 rfl) ?_
    refine lv_iload_n hx hb d_T_makeIntersection_48 rfl (lv_at hl 2 rfl) ?_
    refine lv_iload hx hb d_T_makeIntersection_49 (lv_at hl 5 rfl) ?_
    refine lv_iadd hx hb d_T_makeIntersection_51 ?_
    replace h := gd h
    obtain ⟨hi, h⟩ := h
    refine va_iald hx hb hK.1 hP 9 0 rfl rfl hi d_T_makeIntersection_52 ?_
    replace h := bd h
    obtain ⟨r4, g4, h⟩ := h
    refine ro_V (n := 1) (ci := 2) (As := [.int (pa1.2 (x2 + x5).toNatClampNeg)]) (rest := [.int x4]) C0 (c_T_sizeOf l D cI cZ a q σ (pa1.2 (x2 + x5).toNatClampNeg) g4) wd_56 ⟨wd_57, wd_58, wd_59, wd_52⟩ (by decide +kernel) ⟨Nat.le_of_ble_eq_true rfl, Nat.le_of_ble_eq_true rfl⟩ (hP.pick [0, 1, 2, 3, 4, 5, 6, 7, 8] rfl) rfl rfl rfl hl rfl rfl (Nat.le_of_ble_eq_true rfl) hcs d_T_makeIntersection_53 ?_
    try dsimp only at h
    refine lv_iadd hx hb d_T_makeIntersection_56 ?_
    refine lv_istore (lv' := [(4, .int (x4 + r4)), (0, .ref (a 10)), (1, .ref b1), (2, .int x2), (3, .int x3), (5, .int x5)]) hx hb d_T_makeIntersection_57 hl (by decide) rfl (fun ls hl => ?_)
    refine lv_iinc (v := (x5 + 1)) (lv' := [(5, .int (x5 + 1)), (4, .int (x4 + r4)), (0, .ref (a 10)), (1, .ref b1), (2, .int x2), (3, .int x3)]) hx hb d_T_makeIntersection_59 hl (k := 5) rfl rfl (by decide) rfl (fun ls hl => ?_)
    refine lv_goto (tgt := 38) hx hb d_T_makeIntersection_62 (by decide) ?_
    exact hk38 _ _ _ _ _ _ _ _ _ _ _ _ _ h hkc hks hP hD hS (lv_sub hl [2, 3, 4, 5, 1, 0] rfl)
set_option maxHeartbeats 4000000 in
set_option maxRecDepth 100000 in
theorem t_T_makeIntersection_38 {p : Program} {l : Launch} {e : Env} {s : State} {m : MethodId} {args : Array Value} {below : List Frame} {meth : Method} {c : Code} {D : va_G} {cI cZ : ClassId} {a : Nat → Nat} {pa1 : Nat × (Nat → Int32)} {b1 : Nat} {A : Nat → Prop} (C0 : Am p s m args meth c b_T_makeIntersection (some .int) 7 R_T D [(cI, .int), (cZ, .boolean)]) (hA : ∀ q, s.heap.size ≤ q → A q) (hT : ∀ x ∈ c.exceptionTable.toList, False) (hl0 : l.stackTraces = false) (hZ : Zs A s s.heap) {v : Int32 ⊕ Nat} {u : StT} {K N : Nat}  {n : Nat} {q : Nat} {σ : StT} {x2 x3 x4 x5 : Int32} {kc ks mc ms : Nat} (h : f_T_makeIntersection_38 pa1 n σ x2 x3 x4 x5 = some (v, u, mc, ms)) (hkc : kc + mc = K) (hks : ks + ms = N) {H : Heap} {locs : List Loc} (hP : va_P D vwCl ((wT cI cZ a q σ) ++ [(b1, .inl (cI, pa1.1, .inl pa1.2))]) H) (hD : va_D A ((wT cI cZ a q σ) ++ [(b1, .inl (cI, pa1.1, .inl pa1.2))])) (hS : va_S A s.heap H locs) {ls : Array Slot} (hl : lv_has ls 7 [(0, .ref (a 10)), (1, .ref b1), (2, .int x2), (3, .int x3), (4, .int x4), (5, .int x5)]) : W p l e (rmK 4 106 K N) s m args below meth c H locs kc ks (TxQ below args s D A (fun q (σ : StT) => ((wT cI cZ a q σ) ++ [(b1, .inl (cI, pa1.1, .inl pa1.2))])) v u K N) (F0 m 38 ls []) := by
  induction n generalizing q σ x2 x3 x4 x5 kc ks mc ms H locs ls with
  | zero => cases h
  | succ n ih => exact t_T_makeIntersection_38_s (a := a) C0 hA hT hl0 hZ  (fun _ _ _ _ _ _ _ _ _ _ _ _ _ h hkc hks hP hD hS hl => ih h hkc hks hP hD hS hl) h hkc hks hP hD hS hl
set_option maxHeartbeats 4000000 in
set_option maxRecDepth 100000 in
theorem t_T_makeIntersection_0 {p : Program} {l : Launch} {e : Env} {s : State} {m : MethodId} {args : Array Value} {below : List Frame} {meth : Method} {c : Code} {D : va_G} {cI cZ : ClassId} {a : Nat → Nat} {pa1 : Nat × (Nat → Int32)} {b1 : Nat} {A : Nat → Prop} (C0 : Am p s m args meth c b_T_makeIntersection (some .int) 7 R_T D [(cI, .int), (cZ, .boolean)]) (hA : ∀ q, s.heap.size ≤ q → A q) (hT : ∀ x ∈ c.exceptionTable.toList, False) (hl0 : l.stackTraces = false) (hZ : Zs A s s.heap) {v : Int32 ⊕ Nat} {u : StT} {K N : Nat}   {q : Nat} {σ : StT} {x2 x3 : Int32} {kc ks mc ms : Nat} (h : f_T_makeIntersection pa1 σ x2 x3 = some (v, u, mc, ms)) (hkc : kc + mc = K) (hks : ks + ms = N) {H : Heap} {locs : List Loc} (hP : va_P D vwCl ((wT cI cZ a q σ) ++ [(b1, .inl (cI, pa1.1, .inl pa1.2))]) H) (hD : va_D A ((wT cI cZ a q σ) ++ [(b1, .inl (cI, pa1.1, .inl pa1.2))])) (hS : va_S A s.heap H locs) {ls : Array Slot} (hl : lv_has ls 7 [(0, .ref (a 10)), (1, .ref b1), (2, .int x2), (3, .int x3)]) : W p l e (rmK 4 106 K N) s m args below meth c H locs kc ks (TxQ below args s D A (fun q (σ : StT) => ((wT cI cZ a q σ) ++ [(b1, .inl (cI, pa1.1, .inl pa1.2))])) v u K N) (F0 m 0 ls []) := by
  obtain ⟨hx, hb, hr, hml, hown, hts, hlk, hK⟩ := id C0
  have hcs : kc ≤ K ∧ ks ≤ N := ⟨by omega, by omega⟩
  unfold f_T_makeIntersection at h
  refine lv_aload_n hx hb d_T_makeIntersection_0 rfl (lv_at hl 1 rfl) ?_
  refine lv_ifnull hx hb d_T_makeIntersection_1 ?_
  refine lv_iload_n hx hb d_T_makeIntersection_4 rfl (lv_at hl 2 rfl) ?_
  refine lv_if_lt (tgt := 21) hx hb d_T_makeIntersection_5 (by decide) (fun hc => ?_) (fun hc => ?_)
  · rw [if_pos hc] at h
    refine lv_iconst (v := (-1)) hx hb d_T_makeIntersection_21 (by decide) ?_
    cases h; exact tx_ret C0 hP hD hS (by omega) (by omega) d_T_makeIntersection_22
  · rw [if_neg hc] at h
    refine lv_iload_n hx hb d_T_makeIntersection_8 rfl (lv_at hl 3 rfl) ?_
    refine lv_iconst (v := 1) hx hb d_T_makeIntersection_9 (by decide) ?_
    refine lv_icmp_lt (tgt := 21) hx hb d_T_makeIntersection_10 (by decide) (fun hc => ?_) (fun hc => ?_)
    · rw [if_pos hc] at h
      refine lv_iconst (v := (-1)) hx hb d_T_makeIntersection_21 (by decide) ?_
      cases h; exact tx_ret C0 hP hD hS (by omega) (by omega) d_T_makeIntersection_22
    · rw [if_neg hc] at h
      refine lv_iload_n hx hb d_T_makeIntersection_13 rfl (lv_at hl 3 rfl) ?_
      refine lv_aload_n hx hb d_T_makeIntersection_14 rfl (lv_at hl 1 rfl) ?_
      refine va_alen hx hb hK.1 hP 9 0 rfl rfl rfl d_T_makeIntersection_15 ?_
      refine lv_iload_n hx hb d_T_makeIntersection_16 rfl (lv_at hl 2 rfl) ?_
      refine lv_isub hx hb d_T_makeIntersection_17 ?_
      refine lv_icmp_le (tgt := 23) hx hb d_T_makeIntersection_18 (by decide) (fun hc => ?_) (fun hc => ?_)
      · rw [if_pos hc] at h
        refine lv_iload_n hx hb d_T_makeIntersection_23 rfl (lv_at hl 3 rfl) ?_
        refine lv_iconst (v := 1) hx hb d_T_makeIntersection_24 (by decide) ?_
        refine lv_icmp_ne (tgt := 32) hx hb d_T_makeIntersection_25 (by decide) (fun hc => ?_) (fun hc => ?_)
        · rw [if_neg hc] at h
          refine lv_iconst (v := 1) hx hb d_T_makeIntersection_32 (by decide) ?_
          refine lv_istore (lv' := [(4, .int 1), (0, .ref (a 10)), (1, .ref b1), (2, .int x2), (3, .int x3)]) hx hb d_T_makeIntersection_33 hl (by decide) rfl (fun ls hl => ?_)
          refine lv_iconst (v := 0) hx hb d_T_makeIntersection_35 (by decide) ?_
          refine lv_istore (lv' := [(5, .int 0), (4, .int 1), (0, .ref (a 10)), (1, .ref b1), (2, .int x2), (3, .int x3)]) hx hb d_T_makeIntersection_36 hl (by decide) rfl (fun ls hl => ?_)
          exact t_T_makeIntersection_38 (a := a) C0 hA hT hl0 hZ  h hkc hks hP hD hS (lv_sub hl [2, 3, 4, 5, 1, 0] rfl)
        · rw [if_pos hc] at h
          refine lv_aload_n hx hb d_T_makeIntersection_28 rfl (lv_at hl 1 rfl) ?_
          refine lv_iload_n hx hb d_T_makeIntersection_29 rfl (lv_at hl 2 rfl) ?_
          replace h := gd h
          obtain ⟨hi, h⟩ := h
          refine va_iald hx hb hK.1 hP 9 0 rfl rfl hi d_T_makeIntersection_30 ?_
          cases h; exact tx_ret C0 hP hD hS (by omega) (by omega) d_T_makeIntersection_31
      · rw [if_neg hc] at h
        refine lv_iconst (v := (-1)) hx hb d_T_makeIntersection_21 (by decide) ?_
        cases h; exact tx_ret C0 hP hD hS (by omega) (by omega) d_T_makeIntersection_22
set_option maxHeartbeats 4000000 in
set_option maxRecDepth 100000 in
theorem c_T_makeIntersection (l : Launch) (D : va_G) (cI cZ : ClassId) (a : Nat → Nat) (hl0 : l.stackTraces = false) (q : Nat) (σ : StT) (pa1 : Nat × (Nat → Int32)) (b1 : Nat) (x2 : Int32) (x3 : Int32) {res : (Int32 ⊕ Nat) × StT × Nat × Nat} (h : f_T_makeIntersection pa1 σ x2 x3 = some res) : TxM l y_T_makeIntersection b_T_makeIntersection 7 (some .int) 4 106 D [(cI, .int), (cZ, .boolean)] [.ref (a 10), .ref b1, .int x2, .int x3] (fun q (σ : StT) => ((wT cI cZ a q σ) ++ [(b1, .inl (cI, pa1.1, .inl pa1.2))])) q σ res :=
  tx_of (by decide) (Nat.le_of_ble_eq_true rfl) (fun p e s m args below meth c ls A C0 hA hT hZ hP hD hS hl => t_T_makeIntersection_0 (a := a) (kc := 0) (ks := 0) C0 hA hT hl0 hZ h (Nat.zero_add _) (Nat.zero_add _) hP hD hS (lv_sub hl [0, 1, 2, 3] rfl))
def f_T_count (σ : StT) : Int32 :=
  (T_count σ)
set_option maxHeartbeats 4000000 in
set_option maxRecDepth 100000 in
theorem t_T_count_0 {p : Program} {l : Launch} {e : Env} {s : State} {m : MethodId} {args : Array Value} {below : List Frame} {meth : Method} {c : Code} {D : va_G} {cI cZ : ClassId} {a : Nat → Nat} {q : Nat} {σ : StT} (C0 : Am p s m args meth c b_T_count (some .int) 1 R_T D [(cI, .int), (cZ, .boolean)]) (hP : va_P D vwCl (wT cI cZ a q σ) s.heap) {val : Int32}   (h : f_T_count σ = val) {ls : Array Slot} (hl : lv_has ls 1 [(0, .ref (a 10))]) : RoW p l e (rmK 0 0 0 0) s m args below meth c val (F0 m 0 ls []) := by
  obtain ⟨hx, hb, hr, hml, hown, hts, hlk, hK⟩ := id C0
  unfold f_T_count at h
  refine lv_aload_n hx hb d_T_count_0 rfl (lv_at hl 0 rfl) ?_
  refine va_get (ci := 2) (v := .int (T_count σ)) (C := R_T) (T := F_T) (N := 12) hx hb hts i_T hown hK.1 hP 0 rfl rfl 9 (by decide) (hts _ wd_40) (fun _ h9 => h9) rfl d_T_count_1 ?_
  exact ro_ret C0 h d_T_count_4
set_option maxHeartbeats 4000000 in
set_option maxRecDepth 100000 in
theorem c_T_count (l : Launch) (D : va_G) (cI cZ : ClassId) (a : Nat → Nat) (q : Nat) (σ : StT) {val : Int32} (h : f_T_count σ = val) : RoM l y_T_count b_T_count 1 (some .int) 0 0 D [(cI, .int), (cZ, .boolean)] [.ref (a 10)] (wT cI cZ a q σ) val :=
  ro_of (by decide) (Nat.le_of_ble_eq_true rfl) (fun p e s m args below meth c ls C0 hP hl => t_T_count_0 (a := a) C0 hP h (lv_sub hl [0] rfl))
end
section
def f_A_forget (σ : StA) : Option (Int32 × StA) :=
  if (A_empty σ) = 0 then
    some (0, (A_set_empty (A_set_cells σ (J_fill (A_cells σ) 5625 (0 : Int32))) 1))
  else
    some (0, σ)
set_option maxHeartbeats 4000000 in
set_option maxRecDepth 100000 in
theorem t_A_forget_0 {p : Program} {l : Launch} {e : Env} {s : State} {m : MethodId} {args : Array Value} {below : List Frame} {meth : Method} {c : Code} {D : va_G} {cI cZ : ClassId} {a : Nat → Nat} {A : Nat → Prop} (C0 : Am p s m args meth c b_A_forget none 1 R_A D [(cI, .int), (cZ, .boolean)]) (hA : ∀ q, s.heap.size ≤ q → A q) {res : Int32 × StA}   {q : Nat} {σ : StA} (h : f_A_forget σ = some res) {H : Heap} {locs : List Loc} (hP : va_P D vwCl (wA cI cZ a q σ) H) (hD : va_D A (wA cI cZ a q σ)) (hS : va_S A s.heap H locs) {ls : Array Slot} (hl : lv_has ls 1 [(0, .ref (a 18))]) : W p l e (rmK 2 82 0 0) s m args below meth c H locs 0 0 (RwQv below args s D A (fun q (σ : StA) => (wA cI cZ a q σ)) res 0 0) (F0 m 0 ls []) := by
  obtain ⟨hx, hb, hr, hml, hown, hts, hlk, hK⟩ := id C0
  unfold f_A_forget at h
  refine lv_aload_n hx hb d_A_forget_0 rfl (lv_at hl 0 rfl) ?_
  refine va_get (ci := 3) (v := .int (A_empty σ)) (C := R_A) (T := F_A) (N := 2) hx hb hts i_A hown hK.1 hP 0 rfl rfl 1 (by decide) (hts _ wd_102) (fun _ h9 => h9) rfl d_A_forget_1 ?_
  refine lv_if_ne (tgt := 20) hx hb d_A_forget_4 (by decide) (fun hc => ?_) (fun hc => ?_)
  · rw [if_neg hc] at h
    exact rw_retv C0 hP hD hS (Option.some.inj h) d_A_forget_20
  · rw [if_pos hc] at h
    refine lv_aload_n hx hb d_A_forget_7 rfl (lv_at hl 0 rfl) ?_
    refine va_get (ci := 3) (v := .ref (a 19)) (C := R_A) (T := F_A) (N := 2) hx hb hts i_A hown hK.1 hP 0 rfl rfl 0 (by decide) (hts _ wd_103) (fun _ h9 => h9) rfl d_A_forget_8 ?_
    refine lv_iconst (v := 0) hx hb d_A_forget_11 (by decide) ?_
    refine rw_Sv (n := 2) (As := [.ref (a 19), .int 0]) (rest := []) (Wn := fun _ => (wA cI cZ a q (A_set_cells σ (J_fill (A_cells σ) 5625 (0 : Int32))))) C0 hA (c_J_fill l D cI cZ (a 19) 5625 (A_cells σ) (0 : Int32) (by decide)) wd_104 ⟨wd_105, wd_106, wd_107⟩ (by decide +kernel) ⟨Nat.le_of_ble_eq_true rfl, Nat.le_of_ble_eq_true rfl⟩ hP hD hS [1] [0] [0, 1] jf_A_cells_C (by decide) jf_A_cells_R (by decide) (by decide) (by decide) jf_A_cells_W hl rfl rfl (Nat.le_of_ble_eq_true rfl) ⟨Nat.zero_le _, Nat.zero_le _⟩ d_A_forget_12 (fun H locs _ hP hD hS => ?_)
    refine lv_aload_n hx hb d_A_forget_15 rfl (lv_at hl 0 rfl) ?_
    refine lv_iconst (v := 1) hx hb d_A_forget_16 (by decide) ?_
    refine rw_put (v := .int 1) (fty := .boolean) (C := R_A) (T := F_A) (N := 2) C0 hP hD hS i_A ty_A tyok_A nn_A 0 rfl rfl 1 (by decide) (hts _ wd_102) rfl rfl (by decide +kernel) rfl rfl (Nat.le_of_ble_eq_true rfl) d_A_forget_17 (Wn := (wA cI cZ a q (A_set_empty (A_set_cells σ (J_fill (A_cells σ) 5625 (0 : Int32))) 1))) ws_A_set_empty (fun H locs hP hD hS => ?_)
    exact rw_retv C0 hP hD hS (Option.some.inj h) d_A_forget_20
set_option maxHeartbeats 4000000 in
set_option maxRecDepth 100000 in
theorem c_A_forget (l : Launch) (D : va_G) (cI cZ : ClassId) (a : Nat → Nat) (q : Nat) (σ : StA) {res : Int32 × StA} (h : f_A_forget σ = some res) : RwMv l y_A_forget b_A_forget 1 2 82 D [(cI, .int), (cZ, .boolean)] [.ref (a 18)] (fun q (σ : StA) => (wA cI cZ a q σ)) q σ res :=
  rw_ofv (by decide) (Nat.le_of_ble_eq_true rfl) (fun p e s m args below meth c ls A C0 hA hP hD hS hl => t_A_forget_0 (a := a) C0 hA h hP hD hS (lv_sub hl [0] rfl))
def f_A_isPair (x0 x1 : Int32) : Int32 :=
  if x0 < 0 then
    0
  else
    if 300 ≤ x0 then
      0
    else
      if x1 < 0 then
        0
      else
        if 300 ≤ x1 then
          0
        else
          1
set_option maxHeartbeats 4000000 in
set_option maxRecDepth 100000 in
theorem t_A_isPair_0 {p : Program} {l : Launch} {e : Env} {s : State} {m : MethodId} {args : Array Value} {below : List Frame} {meth : Method} {c : Code} {D : va_G} {cI cZ : ClassId} {a : Nat → Nat} (C0 : Am p s m args meth c b_A_isPair (some .boolean) 2 R_A D [(cI, .int), (cZ, .boolean)]) {val : Int32}   {x0 x1 : Int32} (h : f_A_isPair x0 x1 = val) {ls : Array Slot} (hl : lv_has ls 2 [(0, .int x0), (1, .int x1)]) : RoW p l e (rmK 0 0 0 0) s m args below meth c val (F0 m 0 ls []) := by
  obtain ⟨hx, hb, hr, hml, hown, hts, hlk, hK⟩ := id C0
  unfold f_A_isPair at h
  refine lv_iload_n hx hb d_A_isPair_0 rfl (lv_at hl 0 rfl) ?_
  refine lv_if_lt (tgt := 26) hx hb d_A_isPair_1 (by decide) (fun hc => ?_) (fun hc => ?_)
  · rw [if_pos hc] at h
    refine lv_iconst (v := 0) hx hb d_A_isPair_26 (by decide) ?_
    exact ro_retz C0 (by decide) h d_A_isPair_27
  · rw [if_neg hc] at h
    refine lv_iload_n hx hb d_A_isPair_4 rfl (lv_at hl 0 rfl) ?_
    refine lv_sipush (v := 300) hx hb d_A_isPair_5 (by decide) ?_
    refine lv_icmp_ge (tgt := 26) hx hb d_A_isPair_8 (by decide) (fun hc => ?_) (fun hc => ?_)
    · rw [if_pos hc] at h
      refine lv_iconst (v := 0) hx hb d_A_isPair_26 (by decide) ?_
      exact ro_retz C0 (by decide) h d_A_isPair_27
    · rw [if_neg hc] at h
      refine lv_iload_n hx hb d_A_isPair_11 rfl (lv_at hl 1 rfl) ?_
      refine lv_if_lt (tgt := 26) hx hb d_A_isPair_12 (by decide) (fun hc => ?_) (fun hc => ?_)
      · rw [if_pos hc] at h
        refine lv_iconst (v := 0) hx hb d_A_isPair_26 (by decide) ?_
        exact ro_retz C0 (by decide) h d_A_isPair_27
      · rw [if_neg hc] at h
        refine lv_iload_n hx hb d_A_isPair_15 rfl (lv_at hl 1 rfl) ?_
        refine lv_sipush (v := 300) hx hb d_A_isPair_16 (by decide) ?_
        refine lv_icmp_ge (tgt := 26) hx hb d_A_isPair_19 (by decide) (fun hc => ?_) (fun hc => ?_)
        · rw [if_pos hc] at h
          refine lv_iconst (v := 0) hx hb d_A_isPair_26 (by decide) ?_
          exact ro_retz C0 (by decide) h d_A_isPair_27
        · rw [if_neg hc] at h
          refine lv_iconst (v := 1) hx hb d_A_isPair_22 (by decide) ?_
          refine lv_goto (tgt := 27) hx hb d_A_isPair_23 (by decide) ?_
          exact ro_retz C0 (by decide) h d_A_isPair_27
set_option maxHeartbeats 4000000 in
set_option maxRecDepth 100000 in
theorem c_A_isPair (l : Launch) (D : va_G) (cI cZ : ClassId) (a : Nat → Nat) (x0 : Int32) (x1 : Int32) {val : Int32} (h : f_A_isPair x0 x1 = val) : RoM l y_A_isPair b_A_isPair 2 (some .boolean) 0 0 D [(cI, .int), (cZ, .boolean)] [.int x0, .int x1] [] val :=
  ro_of (by decide) (Nat.le_of_ble_eq_true rfl) (fun p e s m args below meth c ls C0 hP hl => t_A_isPair_0 (a := a) C0 h (lv_sub hl [0, 1] rfl))
def f_A_read (σ : StA) (x1 x2 : Int32) : Option Int32 :=
  if (f_A_isPair x1 x2) = 0 then
    some 0
  else
    if (((x1 * 300) + x2) >>> (4 &&& 31)) < 0 ∨ 5625 ≤ (((x1 * 300) + x2) >>> (4 &&& 31)).toNatClampNeg then none else
    some ((((A_cells σ) (((x1 * 300) + x2) >>> (4 &&& 31)).toNatClampNeg) >>> ((2 * (((x1 * 300) + x2) &&& 15)) &&& 31)) &&& 3)
set_option maxHeartbeats 4000000 in
set_option maxRecDepth 100000 in
theorem t_A_read_0 {p : Program} {l : Launch} {e : Env} {s : State} {m : MethodId} {args : Array Value} {below : List Frame} {meth : Method} {c : Code} {D : va_G} {cI cZ : ClassId} {a : Nat → Nat} {q : Nat} {σ : StA} (C0 : Am p s m args meth c b_A_read (some .int) 4 R_A D [(cI, .int), (cZ, .boolean)]) (hP : va_P D vwCl (wA cI cZ a q σ) s.heap) {val : Int32}   {x1 x2 : Int32} (h : f_A_read σ x1 x2 = some val) {ls : Array Slot} (hl : lv_has ls 4 [(0, .ref (a 18)), (1, .int x1), (2, .int x2)]) : RoW p l e (rmK 1 21 0 0) s m args below meth c val (F0 m 0 ls []) := by
  obtain ⟨hx, hb, hr, hml, hown, hts, hlk, hK⟩ := id C0
  unfold f_A_read at h
  refine lv_iload_n hx hb d_A_read_0 rfl (lv_at hl 1 rfl) ?_
  refine lv_iload_n hx hb d_A_read_1 rfl (lv_at hl 2 rfl) ?_
  refine ro_S (n := 2) (As := [.int x1, .int x2]) (rest := []) C0 (c_A_isPair l D cI cZ a x1 x2 rfl) wd_130 ⟨wd_131, wd_132, wd_133⟩ (by decide +kernel) ⟨Nat.le_of_ble_eq_true rfl, Nat.le_of_ble_eq_true rfl⟩ pnil hl rfl rfl (Nat.le_of_ble_eq_true rfl) ⟨Nat.zero_le _, Nat.zero_le _⟩ d_A_read_2 ?_
  refine lv_if_ne (tgt := 10) hx hb d_A_read_5 (by decide) (fun hc => ?_) (fun hc => ?_)
  · rw [if_neg hc] at h
    refine lv_iload_n hx hb d_A_read_10 rfl (lv_at hl 1 rfl) ?_
    refine lv_sipush (v := 300) hx hb d_A_read_11 (by decide) ?_
    refine lv_imul hx hb d_A_read_14 ?_
    refine lv_iload_n hx hb d_A_read_15 rfl (lv_at hl 2 rfl) ?_
    refine lv_iadd hx hb d_A_read_16 ?_
    refine lv_istore_n (lv' := [(3, .int ((x1 * 300) + x2)), (0, .ref (a 18)), (1, .int x1), (2, .int x2)]) hx hb d_A_read_17 rfl hl (by decide) rfl (fun ls hl => ?_)
    refine lv_aload_n hx hb d_A_read_18 rfl (lv_at hl 1 rfl) ?_
    refine va_get (ci := 3) (v := .ref (a 19)) (C := R_A) (T := F_A) (N := 2) hx hb hts i_A hown hK.1 hP 0 rfl rfl 0 (by decide) (hts _ wd_103) (fun _ h9 => h9) rfl d_A_read_19 ?_
    refine lv_iload_n hx hb d_A_read_22 rfl (lv_at hl 0 rfl) ?_
    refine lv_iconst (v := 4) hx hb d_A_read_23 (by decide) ?_
    refine lv_ishr hx hb d_A_read_24 ?_
    replace h := gd h
    obtain ⟨hi, h⟩ := h
    refine va_iald hx hb hK.1 hP 1 0 rfl rfl hi d_A_read_25 ?_
    refine lv_iconst (v := 2) hx hb d_A_read_26 (by decide) ?_
    refine lv_iload_n hx hb d_A_read_27 rfl (lv_at hl 0 rfl) ?_
    refine lv_bipush (v := 15) hx hb d_A_read_28 (by decide) ?_
    refine lv_iand hx hb d_A_read_30 ?_
    refine lv_imul hx hb d_A_read_31 ?_
    refine lv_ishr hx hb d_A_read_32 ?_
    refine lv_iconst (v := 3) hx hb d_A_read_33 (by decide) ?_
    refine lv_iand hx hb d_A_read_34 ?_
    exact ro_ret C0 (Option.some.inj h) d_A_read_35
  · rw [if_pos hc] at h
    refine lv_iconst (v := 0) hx hb d_A_read_8 (by decide) ?_
    exact ro_ret C0 (Option.some.inj h) d_A_read_9
set_option maxHeartbeats 4000000 in
set_option maxRecDepth 100000 in
theorem c_A_read (l : Launch) (D : va_G) (cI cZ : ClassId) (a : Nat → Nat) (q : Nat) (σ : StA) (x1 : Int32) (x2 : Int32) {val : Int32} (h : f_A_read σ x1 x2 = some val) : RoM l y_A_read b_A_read 4 (some .int) 1 21 D [(cI, .int), (cZ, .boolean)] [.ref (a 18), .int x1, .int x2] (wA cI cZ a q σ) val :=
  ro_of (by decide) (Nat.le_of_ble_eq_true rfl) (fun p e s m args below meth c ls C0 hP hl => t_A_read_0 (a := a) C0 hP h (lv_sub hl [0, 1, 2] rfl))
def f_A_keep_37 (σ : StA) (x4 t1 t2 t3 : Int32) : Option (Int32 × StA) :=
  if t1 < 0 ∨ 5625 ≤ t1.toNatClampNeg then none else
  some (0, (A_set_empty (A_put_cells σ t1 (t2 ||| (t3 <<< ((2 * (x4 &&& 15)) &&& 31)))) 0))
def f_A_keep (σ : StA) (x1 x2 x3 : Int32) : Option (Int32 × StA) :=
  if (f_A_isPair x1 x2) = 0 then
    some (0, σ)
  else
    if (((x1 * 300) + x2) >>> (4 &&& 31)) < 0 ∨ 5625 ≤ (((x1 * 300) + x2) >>> (4 &&& 31)).toNatClampNeg then none else
    if x3 = 0 then
      f_A_keep_37 σ ((x1 * 300) + x2) (((x1 * 300) + x2) >>> (4 &&& 31)) ((A_cells σ) (((x1 * 300) + x2) >>> (4 &&& 31)).toNatClampNeg) 1
    else
      f_A_keep_37 σ ((x1 * 300) + x2) (((x1 * 300) + x2) >>> (4 &&& 31)) ((A_cells σ) (((x1 * 300) + x2) >>> (4 &&& 31)).toNatClampNeg) 2
set_option maxHeartbeats 4000000 in
set_option maxRecDepth 100000 in
theorem t_A_keep_37 {p : Program} {l : Launch} {e : Env} {s : State} {m : MethodId} {args : Array Value} {below : List Frame} {meth : Method} {c : Code} {D : va_G} {cI cZ : ClassId} {a : Nat → Nat} {A : Nat → Prop} (C0 : Am p s m args meth c b_A_keep none 5 R_A D [(cI, .int), (cZ, .boolean)]) (hA : ∀ q, s.heap.size ≤ q → A q) {res : Int32 × StA}   {q : Nat} {σ : StA} {x4 t1 t2 t3 : Int32} (h : f_A_keep_37 σ x4 t1 t2 t3 = some res) {H : Heap} {locs : List Loc} (hP : va_P D vwCl (wA cI cZ a q σ) H) (hD : va_D A (wA cI cZ a q σ)) (hS : va_S A s.heap H locs) {ls : Array Slot} (hl : lv_has ls 5 [(0, .ref (a 18)), (4, .int x4)]) : W p l e (rmK 1 21 0 0) s m args below meth c H locs 0 0 (RwQv below args s D A (fun q (σ : StA) => (wA cI cZ a q σ)) res 0 0) (F0 m 37 ls [.int t3, .int t2, .int t1, .ref (a 19)]) := by
  obtain ⟨hx, hb, hr, hml, hown, hts, hlk, hK⟩ := id C0
  unfold f_A_keep_37 at h
  refine lv_iconst (v := 2) hx hb d_A_keep_37 (by decide) ?_
  refine lv_iload hx hb d_A_keep_38 (lv_at hl 1 rfl) ?_
  refine lv_bipush (v := 15) hx hb d_A_keep_40 (by decide) ?_
  refine lv_iand hx hb d_A_keep_42 ?_
  refine lv_imul hx hb d_A_keep_43 ?_
  refine lv_ishl hx hb d_A_keep_44 ?_
  refine lv_ior hx hb d_A_keep_45 ?_
  replace h := gd h
  obtain ⟨hi, h⟩ := h
  refine rw_iast C0 hP hD hS 1 0 rfl rfl hi d_A_keep_46 (Wn := (wA cI cZ a q (A_put_cells σ t1 (t2 ||| (t3 <<< ((2 * (x4 &&& 15)) &&& 31)))))) ws_A_put_cells (fun H locs hP hD hS => ?_)
  refine lv_aload_n hx hb d_A_keep_47 rfl (lv_at hl 0 rfl) ?_
  refine lv_iconst (v := 0) hx hb d_A_keep_48 (by decide) ?_
  refine rw_put (v := .int 0) (fty := .boolean) (C := R_A) (T := F_A) (N := 2) C0 hP hD hS i_A ty_A tyok_A nn_A 0 rfl rfl 1 (by decide) (hts _ wd_102) rfl rfl (by decide +kernel) rfl rfl (Nat.le_of_ble_eq_true rfl) d_A_keep_49 (Wn := (wA cI cZ a q (A_set_empty (A_put_cells σ t1 (t2 ||| (t3 <<< ((2 * (x4 &&& 15)) &&& 31)))) 0))) ws_A_set_empty (fun H locs hP hD hS => ?_)
  exact rw_retv C0 hP hD hS (Option.some.inj h) d_A_keep_52
set_option maxHeartbeats 4000000 in
set_option maxRecDepth 100000 in
theorem t_A_keep_0 {p : Program} {l : Launch} {e : Env} {s : State} {m : MethodId} {args : Array Value} {below : List Frame} {meth : Method} {c : Code} {D : va_G} {cI cZ : ClassId} {a : Nat → Nat} {A : Nat → Prop} (C0 : Am p s m args meth c b_A_keep none 5 R_A D [(cI, .int), (cZ, .boolean)]) (hA : ∀ q, s.heap.size ≤ q → A q) {res : Int32 × StA}   {q : Nat} {σ : StA} {x1 x2 x3 : Int32} (h : f_A_keep σ x1 x2 x3 = some res) {H : Heap} {locs : List Loc} (hP : va_P D vwCl (wA cI cZ a q σ) H) (hD : va_D A (wA cI cZ a q σ)) (hS : va_S A s.heap H locs) {ls : Array Slot} (hl : lv_has ls 5 [(0, .ref (a 18)), (1, .int x1), (2, .int x2), (3, .int x3)]) : W p l e (rmK 1 21 0 0) s m args below meth c H locs 0 0 (RwQv below args s D A (fun q (σ : StA) => (wA cI cZ a q σ)) res 0 0) (F0 m 0 ls []) := by
  obtain ⟨hx, hb, hr, hml, hown, hts, hlk, hK⟩ := id C0
  unfold f_A_keep at h
  refine lv_iload_n hx hb d_A_keep_0 rfl (lv_at hl 1 rfl) ?_
  refine lv_iload_n hx hb d_A_keep_1 rfl (lv_at hl 2 rfl) ?_
  refine ro_S (n := 2) (As := [.int x1, .int x2]) (rest := []) C0 (c_A_isPair l D cI cZ a x1 x2 rfl) wd_130 ⟨wd_131, wd_132, wd_133⟩ (by decide +kernel) ⟨Nat.le_of_ble_eq_true rfl, Nat.le_of_ble_eq_true rfl⟩ pnil hl rfl rfl (Nat.le_of_ble_eq_true rfl) ⟨Nat.zero_le _, Nat.zero_le _⟩ d_A_keep_2 ?_
  refine lv_if_ne (tgt := 9) hx hb d_A_keep_5 (by decide) (fun hc => ?_) (fun hc => ?_)
  · rw [if_neg hc] at h
    refine lv_iload_n hx hb d_A_keep_9 rfl (lv_at hl 1 rfl) ?_
    refine lv_sipush (v := 300) hx hb d_A_keep_10 (by decide) ?_
    refine lv_imul hx hb d_A_keep_13 ?_
    refine lv_iload_n hx hb d_A_keep_14 rfl (lv_at hl 2 rfl) ?_
    refine lv_iadd hx hb d_A_keep_15 ?_
    refine lv_istore (lv' := [(4, .int ((x1 * 300) + x2)), (0, .ref (a 18)), (1, .int x1), (2, .int x2), (3, .int x3)]) hx hb d_A_keep_16 hl (by decide) rfl (fun ls hl => ?_)
    refine lv_aload_n hx hb d_A_keep_18 rfl (lv_at hl 1 rfl) ?_
    refine va_get (ci := 3) (v := .ref (a 19)) (C := R_A) (T := F_A) (N := 2) hx hb hts i_A hown hK.1 hP 0 rfl rfl 0 (by decide) (hts _ wd_103) (fun _ h9 => h9) rfl d_A_keep_19 ?_
    refine lv_iload hx hb d_A_keep_22 (lv_at hl 0 rfl) ?_
    refine lv_iconst (v := 4) hx hb d_A_keep_24 (by decide) ?_
    refine lv_ishr hx hb d_A_keep_25 ?_
    refine lv_dup2_11 hx hb d_A_keep_26 rfl rfl ?_
    replace h := gd h
    obtain ⟨hi, h⟩ := h
    refine va_iald hx hb hK.1 hP 1 0 rfl rfl hi d_A_keep_27 ?_
    refine lv_iload_n hx hb d_A_keep_28 rfl (lv_at hl 4 rfl) ?_
    refine lv_if_eq (tgt := 36) hx hb d_A_keep_29 (by decide) (fun hc => ?_) (fun hc => ?_)
    · rw [if_pos hc] at h
      refine lv_iconst (v := 1) hx hb d_A_keep_36 (by decide) ?_
      exact t_A_keep_37 (a := a) C0 hA  h hP hD hS (lv_sub hl [1, 0] rfl)
    · rw [if_neg hc] at h
      refine lv_iconst (v := 2) hx hb d_A_keep_32 (by decide) ?_
      refine lv_goto (tgt := 37) hx hb d_A_keep_33 (by decide) ?_
      exact t_A_keep_37 (a := a) C0 hA  h hP hD hS (lv_sub hl [1, 0] rfl)
  · rw [if_pos hc] at h
    exact rw_retv C0 hP hD hS (Option.some.inj h) d_A_keep_8
set_option maxHeartbeats 4000000 in
set_option maxRecDepth 100000 in
theorem c_A_keep (l : Launch) (D : va_G) (cI cZ : ClassId) (a : Nat → Nat) (q : Nat) (σ : StA) (x1 : Int32) (x2 : Int32) (x3 : Int32) {res : Int32 × StA} (h : f_A_keep σ x1 x2 x3 = some res) : RwMv l y_A_keep b_A_keep 5 1 21 D [(cI, .int), (cZ, .boolean)] [.ref (a 18), .int x1, .int x2, .int x3] (fun q (σ : StA) => (wA cI cZ a q σ)) q σ res :=
  rw_ofv (by decide) (Nat.le_of_ble_eq_true rfl) (fun p e s m args below meth c ls A C0 hA hP hD hS hl => t_A_keep_0 (a := a) C0 hA h hP hD hS (lv_sub hl [0, 1, 2, 3] rfl))
end
