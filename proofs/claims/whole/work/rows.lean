section
-- ===== PART A: goes FIRST, ahead of the names: the tables' words, and 'selects' of the private methods out of them =====
/-- a private method of a class that the tables say can be made, by its rows of tables_1 -/
def lw_okq (q : MethodName × Nat) : Prop := (q.1.cls ≠ "java/lang/invoke/MethodHandle" ∧ q.1.cls ≠ "java/lang/invoke/VarHandle") ∧ Cond.instantiable q.1.cls q.2 ∈ tables_1 ∧ Cond.privateMethod q.1 ∈ tables_1 ∧ Cond.instanceMethod q.1 ∈ tables_1
theorem lw_p0 : lw_okq (⟨"CellWorks$Reader", "pass", "()Z"⟩, 7) := ⟨⟨by decide +kernel, by decide +kernel⟩, List.mem_of_getElem? (i := 28) (by decide +kernel), List.mem_of_getElem? (i := 227) (by decide +kernel), List.mem_of_getElem? (i := 228) (by decide +kernel)⟩
theorem lw_p1 : lw_okq (⟨"CellWorks$Tape", "readWord", "()V"⟩, 7) := ⟨⟨by decide +kernel, by decide +kernel⟩, List.mem_of_getElem? (i := 34) (by decide +kernel), List.mem_of_getElem? (i := 245) (by decide +kernel), List.mem_of_getElem? (i := 246) (by decide +kernel)⟩
theorem lw_p2 : lw_okq (⟨"CellWorks$Tape", "readNumber", "()V"⟩, 7) := ⟨⟨by decide +kernel, by decide +kernel⟩, List.mem_of_getElem? (i := 34) (by decide +kernel), List.mem_of_getElem? (i := 258) (by decide +kernel), List.mem_of_getElem? (i := 259) (by decide +kernel)⟩
theorem lw_p3 : lw_okq (⟨"CellWorks$Reader", "refuse", "(I)Z"⟩, 7) := ⟨⟨by decide +kernel, by decide +kernel⟩, List.mem_of_getElem? (i := 28) (by decide +kernel), List.mem_of_getElem? (i := 265) (by decide +kernel), List.mem_of_getElem? (i := 266) (by decide +kernel)⟩
theorem lw_p4 : lw_okq (⟨"CellWorks$Reader", "expect", "(I)Z"⟩, 7) := ⟨⟨by decide +kernel, by decide +kernel⟩, List.mem_of_getElem? (i := 28) (by decide +kernel), List.mem_of_getElem? (i := 273) (by decide +kernel), List.mem_of_getElem? (i := 274) (by decide +kernel)⟩
theorem lw_p5 : lw_okq (⟨"CellWorks$Reader", "sum", "(I)Z"⟩, 7) := ⟨⟨by decide +kernel, by decide +kernel⟩, List.mem_of_getElem? (i := 28) (by decide +kernel), List.mem_of_getElem? (i := 277) (by decide +kernel), List.mem_of_getElem? (i := 278) (by decide +kernel)⟩
theorem lw_p6 : lw_okq (⟨"CellWorks$Reader", "product", "(I)Z"⟩, 7) := ⟨⟨by decide +kernel, by decide +kernel⟩, List.mem_of_getElem? (i := 28) (by decide +kernel), List.mem_of_getElem? (i := 281) (by decide +kernel), List.mem_of_getElem? (i := 282) (by decide +kernel)⟩
theorem lw_p7 : lw_okq (⟨"CellWorks$Reader", "part", "(I)Z"⟩, 7) := ⟨⟨by decide +kernel, by decide +kernel⟩, List.mem_of_getElem? (i := 28) (by decide +kernel), List.mem_of_getElem? (i := 285) (by decide +kernel), List.mem_of_getElem? (i := 286) (by decide +kernel)⟩
theorem lw_p8 : lw_okq (⟨"CellWorks$Reader", "passNode", "()Z"⟩, 7) := ⟨⟨by decide +kernel, by decide +kernel⟩, List.mem_of_getElem? (i := 28) (by decide +kernel), List.mem_of_getElem? (i := 293) (by decide +kernel), List.mem_of_getElem? (i := 294) (by decide +kernel)⟩
theorem lw_p9 : lw_okq (⟨"CellWorks$Reader", "noteName", "()V"⟩, 7) := ⟨⟨by decide +kernel, by decide +kernel⟩, List.mem_of_getElem? (i := 28) (by decide +kernel), List.mem_of_getElem? (i := 297) (by decide +kernel), List.mem_of_getElem? (i := 298) (by decide +kernel)⟩
theorem lw_p10 : lw_okq (⟨"CellWorks$Reader", "negated", "(I)Z"⟩, 7) := ⟨⟨by decide +kernel, by decide +kernel⟩, List.mem_of_getElem? (i := 28) (by decide +kernel), List.mem_of_getElem? (i := 306) (by decide +kernel), List.mem_of_getElem? (i := 307) (by decide +kernel)⟩
theorem lw_p11 : lw_okq (⟨"CellWorks$Reader", "passOpening", "(I)Z"⟩, 7) := ⟨⟨by decide +kernel, by decide +kernel⟩, List.mem_of_getElem? (i := 28) (by decide +kernel), List.mem_of_getElem? (i := 310) (by decide +kernel), List.mem_of_getElem? (i := 311) (by decide +kernel)⟩
theorem lw_p12 : lw_okq (⟨"CellWorks$Reader", "lesserOrGreater", "(I)Z"⟩, 7) := ⟨⟨by decide +kernel, by decide +kernel⟩, List.mem_of_getElem? (i := 28) (by decide +kernel), List.mem_of_getElem? (i := 314) (by decide +kernel), List.mem_of_getElem? (i := 315) (by decide +kernel)⟩
theorem lw_p13 : lw_okq (⟨"CellWorks$Reader", "choice", "(I)Z"⟩, 7) := ⟨⟨by decide +kernel, by decide +kernel⟩, List.mem_of_getElem? (i := 28) (by decide +kernel), List.mem_of_getElem? (i := 318) (by decide +kernel), List.mem_of_getElem? (i := 319) (by decide +kernel)⟩
theorem lw_p14 : lw_okq (⟨"CellWorks", "settle", "()V"⟩, 3) := ⟨⟨by decide +kernel, by decide +kernel⟩, List.mem_of_getElem? (i := 20) (by decide +kernel), List.mem_of_getElem? (i := 326) (by decide +kernel), List.mem_of_getElem? (i := 327) (by decide +kernel)⟩
theorem lw_p15 : lw_okq (⟨"CellWorks$Cells", "placeFor", "(J)I"⟩, 3) := ⟨⟨by decide +kernel, by decide +kernel⟩, List.mem_of_getElem? (i := 137) (by decide +kernel), List.mem_of_getElem? (i := 338) (by decide +kernel), List.mem_of_getElem? (i := 339) (by decide +kernel)⟩
def lw_privs_1 : List (MethodName × Nat) := [(⟨"CellWorks$Reader", "pass", "()Z"⟩, 7), (⟨"CellWorks$Tape", "readWord", "()V"⟩, 7), (⟨"CellWorks$Tape", "readNumber", "()V"⟩, 7), (⟨"CellWorks$Reader", "refuse", "(I)Z"⟩, 7), (⟨"CellWorks$Reader", "expect", "(I)Z"⟩, 7), (⟨"CellWorks$Reader", "sum", "(I)Z"⟩, 7), (⟨"CellWorks$Reader", "product", "(I)Z"⟩, 7), (⟨"CellWorks$Reader", "part", "(I)Z"⟩, 7), (⟨"CellWorks$Reader", "passNode", "()Z"⟩, 7), (⟨"CellWorks$Reader", "noteName", "()V"⟩, 7), (⟨"CellWorks$Reader", "negated", "(I)Z"⟩, 7), (⟨"CellWorks$Reader", "passOpening", "(I)Z"⟩, 7), (⟨"CellWorks$Reader", "lesserOrGreater", "(I)Z"⟩, 7), (⟨"CellWorks$Reader", "choice", "(I)Z"⟩, 7), (⟨"CellWorks", "settle", "()V"⟩, 3), (⟨"CellWorks$Cells", "placeFor", "(J)I"⟩, 3)]
theorem lw_r1 : ∀ q ∈ lw_privs_1, lw_okq q := List.forall_mem_cons.mpr ⟨lw_p0, List.forall_mem_cons.mpr ⟨lw_p1, List.forall_mem_cons.mpr ⟨lw_p2, List.forall_mem_cons.mpr ⟨lw_p3, List.forall_mem_cons.mpr ⟨lw_p4, List.forall_mem_cons.mpr ⟨lw_p5, List.forall_mem_cons.mpr ⟨lw_p6, List.forall_mem_cons.mpr ⟨lw_p7, List.forall_mem_cons.mpr ⟨lw_p8, List.forall_mem_cons.mpr ⟨lw_p9, List.forall_mem_cons.mpr ⟨lw_p10, List.forall_mem_cons.mpr ⟨lw_p11, List.forall_mem_cons.mpr ⟨lw_p12, List.forall_mem_cons.mpr ⟨lw_p13, List.forall_mem_cons.mpr ⟨lw_p14, List.forall_mem_cons.mpr ⟨lw_p15, fun _ h => absurd h List.not_mem_nil⟩⟩⟩⟩⟩⟩⟩⟩⟩⟩⟩⟩⟩⟩⟩⟩
theorem lw_p16 : lw_okq (⟨"CellWorks$Cells", "trace", "()V"⟩, 3) := ⟨⟨by decide +kernel, by decide +kernel⟩, List.mem_of_getElem? (i := 137) (by decide +kernel), List.mem_of_getElem? (i := 359) (by decide +kernel), List.mem_of_getElem? (i := 360) (by decide +kernel)⟩
theorem lw_p17 : lw_okq (⟨"CellWorks$Builder", "workOut", "(LCellWorks$Cells;LCellWorks$Cell;)V"⟩, 4) := ⟨⟨by decide +kernel, by decide +kernel⟩, List.mem_of_getElem? (i := 159) (by decide +kernel), List.mem_of_getElem? (i := 446) (by decide +kernel), List.mem_of_getElem? (i := 447) (by decide +kernel)⟩
theorem lw_p18 : lw_okq (⟨"CellWorks$Work", "take", "(LCellWorks$Formula;III)I"⟩, 4) := ⟨⟨by decide +kernel, by decide +kernel⟩, List.mem_of_getElem? (i := 165) (by decide +kernel), List.mem_of_getElem? (i := 458) (by decide +kernel), List.mem_of_getElem? (i := 459) (by decide +kernel)⟩
theorem lw_p19 : lw_okq (⟨"CellWorks$Work", "push", "(J)V"⟩, 4) := ⟨⟨by decide +kernel, by decide +kernel⟩, List.mem_of_getElem? (i := 165) (by decide +kernel), List.mem_of_getElem? (i := 462) (by decide +kernel), List.mem_of_getElem? (i := 463) (by decide +kernel)⟩
theorem lw_p20 : lw_okq (⟨"CellWorks$Work", "pushResult", "(LCellWorks$Formula;I)V"⟩, 4) := ⟨⟨by decide +kernel, by decide +kernel⟩, List.mem_of_getElem? (i := 165) (by decide +kernel), List.mem_of_getElem? (i := 466) (by decide +kernel), List.mem_of_getElem? (i := 467) (by decide +kernel)⟩
theorem lw_p21 : lw_okq (⟨"CellWorks$Work", "pop", "()J"⟩, 4) := ⟨⟨by decide +kernel, by decide +kernel⟩, List.mem_of_getElem? (i := 165) (by decide +kernel), List.mem_of_getElem? (i := 470) (by decide +kernel), List.mem_of_getElem? (i := 471) (by decide +kernel)⟩
theorem lw_p22 : lw_okq (⟨"CellWorks$Work", "join", "(IJJ)V"⟩, 4) := ⟨⟨by decide +kernel, by decide +kernel⟩, List.mem_of_getElem? (i := 165) (by decide +kernel), List.mem_of_getElem? (i := 474) (by decide +kernel), List.mem_of_getElem? (i := 475) (by decide +kernel)⟩
theorem lw_p23 : lw_okq (⟨"CellWorks$Work", "divide", "(JJ)V"⟩, 4) := ⟨⟨by decide +kernel, by decide +kernel⟩, List.mem_of_getElem? (i := 165) (by decide +kernel), List.mem_of_getElem? (i := 478) (by decide +kernel), List.mem_of_getElem? (i := 479) (by decide +kernel)⟩
theorem lw_p24 : lw_okq (⟨"CellWorks$Builder", "keepNames", "(LCellWorks$Cells;J)V"⟩, 4) := ⟨⟨by decide +kernel, by decide +kernel⟩, List.mem_of_getElem? (i := 159) (by decide +kernel), List.mem_of_getElem? (i := 488) (by decide +kernel), List.mem_of_getElem? (i := 489) (by decide +kernel)⟩
theorem lw_p25 : lw_okq (⟨"java/lang/Throwable", "fillInStackTrace", "(I)Ljava/lang/Throwable;"⟩, 6) := ⟨⟨by decide +kernel, by decide +kernel⟩, List.mem_of_getElem? (i := 539) (by decide +kernel), List.mem_of_getElem? (i := 537) (by decide +kernel), List.mem_of_getElem? (i := 538) (by decide +kernel)⟩
theorem lw_p26 : lw_okq (⟨"CellWorks", "nameOnTape", "()J"⟩, 3) := ⟨⟨by decide +kernel, by decide +kernel⟩, List.mem_of_getElem? (i := 20) (by decide +kernel), List.mem_of_getElem? (i := 604) (by decide +kernel), List.mem_of_getElem? (i := 605) (by decide +kernel)⟩
theorem lw_p27 : lw_okq (⟨"CellWorksModel", "next", "()V"⟩, 45) := ⟨⟨by decide +kernel, by decide +kernel⟩, List.mem_of_getElem? (i := 714) (by decide +kernel), List.mem_of_getElem? (i := 865) (by decide +kernel), List.mem_of_getElem? (i := 866) (by decide +kernel)⟩
theorem lw_p28 : lw_okq (⟨"CellWorksModel", "at", "(I)I"⟩, 45) := ⟨⟨by decide +kernel, by decide +kernel⟩, List.mem_of_getElem? (i := 714) (by decide +kernel), List.mem_of_getElem? (i := 869) (by decide +kernel), List.mem_of_getElem? (i := 870) (by decide +kernel)⟩
theorem lw_p29 : lw_okq (⟨"CellWorksModel", "function", "()I"⟩, 45) := ⟨⟨by decide +kernel, by decide +kernel⟩, List.mem_of_getElem? (i := 714) (by decide +kernel), List.mem_of_getElem? (i := 884) (by decide +kernel), List.mem_of_getElem? (i := 885) (by decide +kernel)⟩
theorem lw_p30 : lw_okq (⟨"CellWorksModel", "wrong", "()V"⟩, 45) := ⟨⟨by decide +kernel, by decide +kernel⟩, List.mem_of_getElem? (i := 714) (by decide +kernel), List.mem_of_getElem? (i := 891) (by decide +kernel), List.mem_of_getElem? (i := 892) (by decide +kernel)⟩
theorem lw_p31 : lw_okq (⟨"CellWorksModel", "fail", "(II)V"⟩, 45) := ⟨⟨by decide +kernel, by decide +kernel⟩, List.mem_of_getElem? (i := 714) (by decide +kernel), List.mem_of_getElem? (i := 895) (by decide +kernel), List.mem_of_getElem? (i := 896) (by decide +kernel)⟩
def lw_privs_2 : List (MethodName × Nat) := [(⟨"CellWorks$Cells", "trace", "()V"⟩, 3), (⟨"CellWorks$Builder", "workOut", "(LCellWorks$Cells;LCellWorks$Cell;)V"⟩, 4), (⟨"CellWorks$Work", "take", "(LCellWorks$Formula;III)I"⟩, 4), (⟨"CellWorks$Work", "push", "(J)V"⟩, 4), (⟨"CellWorks$Work", "pushResult", "(LCellWorks$Formula;I)V"⟩, 4), (⟨"CellWorks$Work", "pop", "()J"⟩, 4), (⟨"CellWorks$Work", "join", "(IJJ)V"⟩, 4), (⟨"CellWorks$Work", "divide", "(JJ)V"⟩, 4), (⟨"CellWorks$Builder", "keepNames", "(LCellWorks$Cells;J)V"⟩, 4), (⟨"java/lang/Throwable", "fillInStackTrace", "(I)Ljava/lang/Throwable;"⟩, 6), (⟨"CellWorks", "nameOnTape", "()J"⟩, 3), (⟨"CellWorksModel", "next", "()V"⟩, 45), (⟨"CellWorksModel", "at", "(I)I"⟩, 45), (⟨"CellWorksModel", "function", "()I"⟩, 45), (⟨"CellWorksModel", "wrong", "()V"⟩, 45), (⟨"CellWorksModel", "fail", "(II)V"⟩, 45)]
theorem lw_r2 : ∀ q ∈ lw_privs_2, lw_okq q := List.forall_mem_cons.mpr ⟨lw_p16, List.forall_mem_cons.mpr ⟨lw_p17, List.forall_mem_cons.mpr ⟨lw_p18, List.forall_mem_cons.mpr ⟨lw_p19, List.forall_mem_cons.mpr ⟨lw_p20, List.forall_mem_cons.mpr ⟨lw_p21, List.forall_mem_cons.mpr ⟨lw_p22, List.forall_mem_cons.mpr ⟨lw_p23, List.forall_mem_cons.mpr ⟨lw_p24, List.forall_mem_cons.mpr ⟨lw_p25, List.forall_mem_cons.mpr ⟨lw_p26, List.forall_mem_cons.mpr ⟨lw_p27, List.forall_mem_cons.mpr ⟨lw_p28, List.forall_mem_cons.mpr ⟨lw_p29, List.forall_mem_cons.mpr ⟨lw_p30, List.forall_mem_cons.mpr ⟨lw_p31, fun _ h => absurd h List.not_mem_nil⟩⟩⟩⟩⟩⟩⟩⟩⟩⟩⟩⟩⟩⟩⟩⟩
theorem lw_p32 : lw_okq (⟨"CellWorksModel", "formula", "()V"⟩, 45) := ⟨⟨by decide +kernel, by decide +kernel⟩, List.mem_of_getElem? (i := 714) (by decide +kernel), List.mem_of_getElem? (i := 899) (by decide +kernel), List.mem_of_getElem? (i := 900) (by decide +kernel)⟩
theorem lw_p33 : lw_okq (⟨"CellWorksModel", "part", "()Z"⟩, 45) := ⟨⟨by decide +kernel, by decide +kernel⟩, List.mem_of_getElem? (i := 714) (by decide +kernel), List.mem_of_getElem? (i := 903) (by decide +kernel), List.mem_of_getElem? (i := 904) (by decide +kernel)⟩
theorem lw_p34 : lw_okq (⟨"CellWorksModel", "newNode", "(IJ)I"⟩, 45) := ⟨⟨by decide +kernel, by decide +kernel⟩, List.mem_of_getElem? (i := 714) (by decide +kernel), List.mem_of_getElem? (i := 907) (by decide +kernel), List.mem_of_getElem? (i := 908) (by decide +kernel)⟩
theorem lw_p35 : lw_okq (⟨"CellWorksModel", "settle", "(I)V"⟩, 45) := ⟨⟨by decide +kernel, by decide +kernel⟩, List.mem_of_getElem? (i := 714) (by decide +kernel), List.mem_of_getElem? (i := 911) (by decide +kernel), List.mem_of_getElem? (i := 912) (by decide +kernel)⟩
theorem lw_p36 : lw_okq (⟨"CellWorksModel", "isOperator", "(I)Z"⟩, 45) := ⟨⟨by decide +kernel, by decide +kernel⟩, List.mem_of_getElem? (i := 714) (by decide +kernel), List.mem_of_getElem? (i := 915) (by decide +kernel), List.mem_of_getElem? (i := 916) (by decide +kernel)⟩
theorem lw_p37 : lw_okq (⟨"CellWorksModel", "deeper", "()V"⟩, 45) := ⟨⟨by decide +kernel, by decide +kernel⟩, List.mem_of_getElem? (i := 714) (by decide +kernel), List.mem_of_getElem? (i := 922) (by decide +kernel), List.mem_of_getElem? (i := 923) (by decide +kernel)⟩
theorem lw_p38 : lw_okq (⟨"CellWorksModel", "await", "(I)V"⟩, 45) := ⟨⟨by decide +kernel, by decide +kernel⟩, List.mem_of_getElem? (i := 714) (by decide +kernel), List.mem_of_getElem? (i := 926) (by decide +kernel), List.mem_of_getElem? (i := 927) (by decide +kernel)⟩
theorem lw_p39 : lw_okq (⟨"CellWorksModel", "behind", "()Z"⟩, 45) := ⟨⟨by decide +kernel, by decide +kernel⟩, List.mem_of_getElem? (i := 714) (by decide +kernel), List.mem_of_getElem? (i := 930) (by decide +kernel), List.mem_of_getElem? (i := 931) (by decide +kernel)⟩
theorem lw_p40 : lw_okq (⟨"CellWorksModel", "give", "(I)V"⟩, 45) := ⟨⟨by decide +kernel, by decide +kernel⟩, List.mem_of_getElem? (i := 714) (by decide +kernel), List.mem_of_getElem? (i := 937) (by decide +kernel), List.mem_of_getElem? (i := 938) (by decide +kernel)⟩
theorem lw_p41 : lw_okq (⟨"CellWorksModel", "cellOf", "(J)I"⟩, 45) := ⟨⟨by decide +kernel, by decide +kernel⟩, List.mem_of_getElem? (i := 714) (by decide +kernel), List.mem_of_getElem? (i := 941) (by decide +kernel), List.mem_of_getElem? (i := 942) (by decide +kernel)⟩
theorem lw_p42 : lw_okq (⟨"CellWorksModel", "cellCount", "()I"⟩, 45) := ⟨⟨by decide +kernel, by decide +kernel⟩, List.mem_of_getElem? (i := 714) (by decide +kernel), List.mem_of_getElem? (i := 945) (by decide +kernel), List.mem_of_getElem? (i := 946) (by decide +kernel)⟩
theorem lw_p43 : lw_okq (⟨"CellWorksModel", "readersOf", "(J)J"⟩, 45) := ⟨⟨by decide +kernel, by decide +kernel⟩, List.mem_of_getElem? (i := 714) (by decide +kernel), List.mem_of_getElem? (i := 949) (by decide +kernel), List.mem_of_getElem? (i := 950) (by decide +kernel)⟩
theorem lw_p44 : lw_okq (⟨"CellWorksModel", "reads", "(IJ)Z"⟩, 45) := ⟨⟨by decide +kernel, by decide +kernel⟩, List.mem_of_getElem? (i := 714) (by decide +kernel), List.mem_of_getElem? (i := 954) (by decide +kernel), List.mem_of_getElem? (i := 955) (by decide +kernel)⟩
theorem lw_p45 : lw_okq (⟨"CellWorksModel", "isName", "()Z"⟩, 45) := ⟨⟨by decide +kernel, by decide +kernel⟩, List.mem_of_getElem? (i := 714) (by decide +kernel), List.mem_of_getElem? (i := 962) (by decide +kernel), List.mem_of_getElem? (i := 963) (by decide +kernel)⟩
theorem lw_p46 : lw_okq (⟨"CellWorksModel", "below", "(I)J"⟩, 45) := ⟨⟨by decide +kernel, by decide +kernel⟩, List.mem_of_getElem? (i := 714) (by decide +kernel), List.mem_of_getElem? (i := 970) (by decide +kernel), List.mem_of_getElem? (i := 971) (by decide +kernel)⟩
theorem lw_p47 : lw_okq (⟨"CellWorksModel", "buildSet", "(J)I"⟩, 45) := ⟨⟨by decide +kernel, by decide +kernel⟩, List.mem_of_getElem? (i := 714) (by decide +kernel), List.mem_of_getElem? (i := 974) (by decide +kernel), List.mem_of_getElem? (i := 975) (by decide +kernel)⟩
def lw_privs_3 : List (MethodName × Nat) := [(⟨"CellWorksModel", "formula", "()V"⟩, 45), (⟨"CellWorksModel", "part", "()Z"⟩, 45), (⟨"CellWorksModel", "newNode", "(IJ)I"⟩, 45), (⟨"CellWorksModel", "settle", "(I)V"⟩, 45), (⟨"CellWorksModel", "isOperator", "(I)Z"⟩, 45), (⟨"CellWorksModel", "deeper", "()V"⟩, 45), (⟨"CellWorksModel", "await", "(I)V"⟩, 45), (⟨"CellWorksModel", "behind", "()Z"⟩, 45), (⟨"CellWorksModel", "give", "(I)V"⟩, 45), (⟨"CellWorksModel", "cellOf", "(J)I"⟩, 45), (⟨"CellWorksModel", "cellCount", "()I"⟩, 45), (⟨"CellWorksModel", "readersOf", "(J)J"⟩, 45), (⟨"CellWorksModel", "reads", "(IJ)Z"⟩, 45), (⟨"CellWorksModel", "isName", "()Z"⟩, 45), (⟨"CellWorksModel", "below", "(I)J"⟩, 45), (⟨"CellWorksModel", "buildSet", "(J)I"⟩, 45)]
theorem lw_r3 : ∀ q ∈ lw_privs_3, lw_okq q := List.forall_mem_cons.mpr ⟨lw_p32, List.forall_mem_cons.mpr ⟨lw_p33, List.forall_mem_cons.mpr ⟨lw_p34, List.forall_mem_cons.mpr ⟨lw_p35, List.forall_mem_cons.mpr ⟨lw_p36, List.forall_mem_cons.mpr ⟨lw_p37, List.forall_mem_cons.mpr ⟨lw_p38, List.forall_mem_cons.mpr ⟨lw_p39, List.forall_mem_cons.mpr ⟨lw_p40, List.forall_mem_cons.mpr ⟨lw_p41, List.forall_mem_cons.mpr ⟨lw_p42, List.forall_mem_cons.mpr ⟨lw_p43, List.forall_mem_cons.mpr ⟨lw_p44, List.forall_mem_cons.mpr ⟨lw_p45, List.forall_mem_cons.mpr ⟨lw_p46, List.forall_mem_cons.mpr ⟨lw_p47, fun _ h => absurd h List.not_mem_nil⟩⟩⟩⟩⟩⟩⟩⟩⟩⟩⟩⟩⟩⟩⟩⟩
theorem lw_p48 : lw_okq (⟨"CellWorksModel", "isReady", "(IJ)Z"⟩, 45) := ⟨⟨by decide +kernel, by decide +kernel⟩, List.mem_of_getElem? (i := 714) (by decide +kernel), List.mem_of_getElem? (i := 978) (by decide +kernel), List.mem_of_getElem? (i := 979) (by decide +kernel)⟩
theorem lw_p49 : lw_okq (⟨"CellWorksModel", "isStale", "(I)Z"⟩, 45) := ⟨⟨by decide +kernel, by decide +kernel⟩, List.mem_of_getElem? (i := 714) (by decide +kernel), List.mem_of_getElem? (i := 982) (by decide +kernel), List.mem_of_getElem? (i := 983) (by decide +kernel)⟩
theorem lw_p50 : lw_okq (⟨"CellWorksModel", "resultOf", "(J)I"⟩, 45) := ⟨⟨by decide +kernel, by decide +kernel⟩, List.mem_of_getElem? (i := 714) (by decide +kernel), List.mem_of_getElem? (i := 986) (by decide +kernel), List.mem_of_getElem? (i := 987) (by decide +kernel)⟩
theorem lw_p51 : lw_okq (⟨"CellWorksModel", "valueOf", "(J)J"⟩, 45) := ⟨⟨by decide +kernel, by decide +kernel⟩, List.mem_of_getElem? (i := 714) (by decide +kernel), List.mem_of_getElem? (i := 990) (by decide +kernel), List.mem_of_getElem? (i := 991) (by decide +kernel)⟩
theorem lw_p52 : lw_okq (⟨"CellWorksModel", "workOut", "(I)V"⟩, 45) := ⟨⟨by decide +kernel, by decide +kernel⟩, List.mem_of_getElem? (i := 714) (by decide +kernel), List.mem_of_getElem? (i := 994) (by decide +kernel), List.mem_of_getElem? (i := 995) (by decide +kernel)⟩
theorem lw_p53 : lw_okq (⟨"CellWorksModel", "work", "(I)J"⟩, 45) := ⟨⟨by decide +kernel, by decide +kernel⟩, List.mem_of_getElem? (i := 714) (by decide +kernel), List.mem_of_getElem? (i := 998) (by decide +kernel), List.mem_of_getElem? (i := 999) (by decide +kernel)⟩
theorem lw_p54 : lw_okq (⟨"CellWorksModel", "push", "(I)V"⟩, 45) := ⟨⟨by decide +kernel, by decide +kernel⟩, List.mem_of_getElem? (i := 714) (by decide +kernel), List.mem_of_getElem? (i := 1002) (by decide +kernel), List.mem_of_getElem? (i := 1003) (by decide +kernel)⟩
theorem lw_p55 : lw_okq (⟨"CellWorksModel", "leaf", "(I)V"⟩, 45) := ⟨⟨by decide +kernel, by decide +kernel⟩, List.mem_of_getElem? (i := 714) (by decide +kernel), List.mem_of_getElem? (i := 1006) (by decide +kernel), List.mem_of_getElem? (i := 1007) (by decide +kernel)⟩
theorem lw_p56 : lw_okq (⟨"CellWorksModel", "both", "(IJJ)J"⟩, 45) := ⟨⟨by decide +kernel, by decide +kernel⟩, List.mem_of_getElem? (i := 714) (by decide +kernel), List.mem_of_getElem? (i := 1010) (by decide +kernel), List.mem_of_getElem? (i := 1011) (by decide +kernel)⟩
def lw_privs_4 : List (MethodName × Nat) := [(⟨"CellWorksModel", "isReady", "(IJ)Z"⟩, 45), (⟨"CellWorksModel", "isStale", "(I)Z"⟩, 45), (⟨"CellWorksModel", "resultOf", "(J)I"⟩, 45), (⟨"CellWorksModel", "valueOf", "(J)J"⟩, 45), (⟨"CellWorksModel", "workOut", "(I)V"⟩, 45), (⟨"CellWorksModel", "work", "(I)J"⟩, 45), (⟨"CellWorksModel", "push", "(I)V"⟩, 45), (⟨"CellWorksModel", "leaf", "(I)V"⟩, 45), (⟨"CellWorksModel", "both", "(IJJ)J"⟩, 45)]
theorem lw_r4 : ∀ q ∈ lw_privs_4, lw_okq q := List.forall_mem_cons.mpr ⟨lw_p48, List.forall_mem_cons.mpr ⟨lw_p49, List.forall_mem_cons.mpr ⟨lw_p50, List.forall_mem_cons.mpr ⟨lw_p51, List.forall_mem_cons.mpr ⟨lw_p52, List.forall_mem_cons.mpr ⟨lw_p53, List.forall_mem_cons.mpr ⟨lw_p54, List.forall_mem_cons.mpr ⟨lw_p55, List.forall_mem_cons.mpr ⟨lw_p56, fun _ h => absurd h List.not_mem_nil⟩⟩⟩⟩⟩⟩⟩⟩⟩
def lw_privs : List (MethodName × Nat) := lw_privs_1 ++ (lw_privs_2 ++ (lw_privs_3 ++ (lw_privs_4)))
def lw_tbl : List Cond := k2_sels lw_privs ++ tables_1
theorem lw_privs_ok : ∀ q ∈ lw_privs, lw_okq q := by
  show ∀ q ∈ lw_privs_1 ++ (lw_privs_2 ++ (lw_privs_3 ++ (lw_privs_4))), lw_okq q
  exact List.forall_mem_append.mpr ⟨lw_r1, List.forall_mem_append.mpr ⟨lw_r2, List.forall_mem_append.mpr ⟨lw_r3, lw_r4⟩⟩⟩
end
section
/-! classes: names, fields in an order of ours (declarer, name, descriptor, final), their types -/
def jT_CW : u_T := fun k => match k with
  | 0 => ("CellWorks", "reader", "LCellWorks$Reader;", true)
  | 1 => ("CellWorks", "cells", "LCellWorks$Cells;", true)
  | _ => ("CellWorks", "builder", "LCellWorks$Builder;", true)
def jt_CW : Nat → FieldType := fun k => match k with
  | 0 => .object "CellWorks$Reader"
  | 1 => .object "CellWorks$Cells"
  | _ => .object "CellWorks$Builder"
theorem jn_CW : ∀ a, a < 3 → ∀ b, b < 3 → a ≠ b → (jT_CW a).2.1 ≠ (jT_CW b).2.1 := by decide +kernel
theorem jt_CW_ok : ∀ k, k < 3 → parseFieldDescriptor (jT_CW k).2.2.1 = some (jt_CW k) := by decide +kernel
def jT_Rd : u_T := fun k => match k with
  | 0 => ("CellWorks$Reader", "tape", "LCellWorks$Tape;", true)
  | 1 => ("CellWorks$Reader", "formula", "LCellWorks$Formula;", false)
  | 2 => ("CellWorks$Reader", "name", "J", false)
  | 3 => ("CellWorks$Reader", "faultCode", "I", false)
  | 4 => ("CellWorks$Reader", "faultPlace", "I", false)
  | 5 => ("CellWorks$Reader", "nodes", "I", false)
  | _ => ("CellWorks$Reader", "places", "[I", true)
def jt_Rd : Nat → FieldType := fun k => match k with
  | 0 => .object "CellWorks$Tape"
  | 1 => .object "CellWorks$Formula"
  | 2 => .long
  | 3 => .int
  | 4 => .int
  | 5 => .int
  | _ => .array (.int)
theorem jn_Rd : ∀ a, a < 7 → ∀ b, b < 7 → a ≠ b → (jT_Rd a).2.1 ≠ (jT_Rd b).2.1 := by decide +kernel
theorem jt_Rd_ok : ∀ k, k < 7 → parseFieldDescriptor (jT_Rd k).2.2.1 = some (jt_Rd k) := by decide +kernel
def jT_Tp : u_T := fun k => match k with
  | 0 => ("CellWorks$Tape", "bytes", "[B", true)
  | 1 => ("CellWorks$Tape", "length", "I", false)
  | 2 => ("CellWorks$Tape", "next", "I", false)
  | 3 => ("CellWorks$Tape", "kind", "I", false)
  | 4 => ("CellWorks$Tape", "start", "I", false)
  | 5 => ("CellWorks$Tape", "name", "J", false)
  | _ => ("CellWorks$Tape", "number", "I", false)
def jt_Tp : Nat → FieldType := fun k => match k with
  | 0 => .array (.byte)
  | 1 => .int
  | 2 => .int
  | 3 => .int
  | 4 => .int
  | 5 => .long
  | _ => .int
theorem jn_Tp : ∀ a, a < 7 → ∀ b, b < 7 → a ≠ b → (jT_Tp a).2.1 ≠ (jT_Tp b).2.1 := by decide +kernel
theorem jt_Tp_ok : ∀ k, k < 7 → parseFieldDescriptor (jT_Tp k).2.2.1 = some (jt_Tp k) := by decide +kernel
def jT_Fm : u_T := fun k => match k with
  | 0 => ("CellWorks$Formula", "steps", "[I", true)
  | 1 => ("CellWorks$Formula", "details", "[I", true)
  | 2 => ("CellWorks$Formula", "length", "I", false)
  | 3 => ("CellWorks$Formula", "names", "[J", true)
  | 4 => ("CellWorks$Formula", "seenKinds", "[I", true)
  | 5 => ("CellWorks$Formula", "seenValues", "[J", true)
  | _ => ("CellWorks$Formula", "nameCount", "I", false)
def jt_Fm : Nat → FieldType := fun k => match k with
  | 0 => .array (.int)
  | 1 => .array (.int)
  | 2 => .int
  | 3 => .array (.long)
  | 4 => .array (.int)
  | 5 => .array (.long)
  | _ => .int
theorem jn_Fm : ∀ a, a < 7 → ∀ b, b < 7 → a ≠ b → (jT_Fm a).2.1 ≠ (jT_Fm b).2.1 := by decide +kernel
theorem jt_Fm_ok : ∀ k, k < 7 → parseFieldDescriptor (jT_Fm k).2.2.1 = some (jt_Fm k) := by decide +kernel
def jT_Cs : u_T := fun k => match k with
  | 0 => ("CellWorks$Cells", "rows", "[LCellWorks$Cell;", true)
  | 1 => ("CellWorks$Cells", "size", "I", false)
  | _ => ("CellWorks$Cells", "reads", "[J", true)
def jt_Cs : Nat → FieldType := fun k => match k with
  | 0 => .array (.object "CellWorks$Cell")
  | 1 => .int
  | _ => .array (.long)
theorem jn_Cs : ∀ a, a < 3 → ∀ b, b < 3 → a ≠ b → (jT_Cs a).2.1 ≠ (jT_Cs b).2.1 := by decide +kernel
theorem jt_Cs_ok : ∀ k, k < 3 → parseFieldDescriptor (jT_Cs k).2.2.1 = some (jt_Cs k) := by decide +kernel
def jT_Cl : u_T := fun k => match k with
  | 0 => ("CellWorks$Cell", "name", "J", true)
  | 1 => ("CellWorks$Cell", "formula", "LCellWorks$Formula;", false)
  | 2 => ("CellWorks$Cell", "workedOut", "Z", false)
  | 3 => ("CellWorks$Cell", "kind", "I", false)
  | _ => ("CellWorks$Cell", "value", "J", false)
def jt_Cl : Nat → FieldType := fun k => match k with
  | 0 => .long
  | 1 => .object "CellWorks$Formula"
  | 2 => .boolean
  | 3 => .int
  | _ => .long
theorem jn_Cl : ∀ a, a < 5 → ∀ b, b < 5 → a ≠ b → (jT_Cl a).2.1 ≠ (jT_Cl b).2.1 := by decide +kernel
theorem jt_Cl_ok : ∀ k, k < 5 → parseFieldDescriptor (jT_Cl k).2.2.1 = some (jt_Cl k) := by decide +kernel
def jT_Bd : u_T := fun k => match k with
  | 0 => ("CellWorks$Builder", "work", "LCellWorks$Work;", true)
  | 1 => ("CellWorks$Builder", "latest", "[J", true)
  | 2 => ("CellWorks$Builder", "latestSize", "I", false)
  | _ => ("CellWorks$Builder", "total", "I", false)
def jt_Bd : Nat → FieldType := fun k => match k with
  | 0 => .object "CellWorks$Work"
  | 1 => .array (.long)
  | 2 => .int
  | _ => .int
theorem jn_Bd : ∀ a, a < 4 → ∀ b, b < 4 → a ≠ b → (jT_Bd a).2.1 ≠ (jT_Bd b).2.1 := by decide +kernel
theorem jt_Bd_ok : ∀ k, k < 4 → parseFieldDescriptor (jT_Bd k).2.2.1 = some (jt_Bd k) := by decide +kernel
def jT_Wk : u_T := fun k => match k with
  | 0 => ("CellWorks$Work", "stack", "[J", true)
  | 1 => ("CellWorks$Work", "height", "I", false)
  | 2 => ("CellWorks$Work", "kind", "I", false)
  | _ => ("CellWorks$Work", "value", "J", false)
def jt_Wk : Nat → FieldType := fun k => match k with
  | 0 => .array (.long)
  | 1 => .int
  | 2 => .int
  | _ => .long
theorem jn_Wk : ∀ a, a < 4 → ∀ b, b < 4 → a ≠ b → (jT_Wk a).2.1 ≠ (jT_Wk b).2.1 := by decide +kernel
theorem jt_Wk_ok : ∀ k, k < 4 → parseFieldDescriptor (jT_Wk k).2.2.1 = some (jt_Wk k) := by decide +kernel
def jT_Md : u_T := fun k => match k with
  | 0 => ("CellWorksModel", "thrown", "I", false)
  | 1 => ("CellWorksModel", "tape", "[I", true)
  | 2 => ("CellWorksModel", "tapeSize", "I", false)
  | 3 => ("CellWorksModel", "faultCode", "I", false)
  | 4 => ("CellWorksModel", "faultPlace", "I", false)
  | 5 => ("CellWorksModel", "there", "[Z", true)
  | 6 => ("CellWorksModel", "names", "[J", true)
  | 7 => ("CellWorksModel", "results", "[I", true)
  | 8 => ("CellWorksModel", "values", "[J", true)
  | 9 => ("CellWorksModel", "worked", "[Z", true)
  | 10 => ("CellWorksModel", "roots", "[I", true)
  | 11 => ("CellWorksModel", "nodeCounts", "[I", true)
  | 12 => ("CellWorksModel", "kinds", "[I", true)
  | 13 => ("CellWorksModel", "ones", "[I", true)
  | 14 => ("CellWorksModel", "twos", "[I", true)
  | 15 => ("CellWorksModel", "threes", "[I", true)
  | 16 => ("CellWorksModel", "amounts", "[J", true)
  | 17 => ("CellWorksModel", "seenResults", "[I", true)
  | 18 => ("CellWorksModel", "seenValues", "[J", true)
  | 19 => ("CellWorksModel", "workedInAll", "I", false)
  | 20 => ("CellWorksModel", "built", "[J", true)
  | 21 => ("CellWorksModel", "builtCount", "I", false)
  | 22 => ("CellWorksModel", "place", "I", false)
  | 23 => ("CellWorksModel", "tokenFrom", "I", false)
  | 24 => ("CellWorksModel", "token", "I", false)
  | 25 => ("CellWorksModel", "tokenAmount", "J", false)
  | 26 => ("CellWorksModel", "newKinds", "[I", true)
  | 27 => ("CellWorksModel", "newOnes", "[I", true)
  | 28 => ("CellWorksModel", "newTwos", "[I", true)
  | 29 => ("CellWorksModel", "newThrees", "[I", true)
  | 30 => ("CellWorksModel", "newAmounts", "[J", true)
  | 31 => ("CellWorksModel", "newPlaces", "[I", true)
  | 32 => ("CellWorksModel", "newCount", "I", false)
  | 33 => ("CellWorksModel", "waiting", "[I", true)
  | 34 => ("CellWorksModel", "given", "[I", true)
  | 35 => ("CellWorksModel", "waitingCount", "I", false)
  | 36 => ("CellWorksModel", "parts", "[I", true)
  | 37 => ("CellWorksModel", "partCount", "I", false)
  | 38 => ("CellWorksModel", "depth", "I", false)
  | 39 => ("CellWorksModel", "error", "I", false)
  | 40 => ("CellWorksModel", "pile", "[I", true)
  | 41 => ("CellWorksModel", "phases", "[I", true)
  | 42 => ("CellWorksModel", "kept", "[J", true)
  | 43 => ("CellWorksModel", "high", "I", false)
  | _ => ("CellWorksModel", "answer", "J", false)
def jt_Md : Nat → FieldType := fun k => match k with
  | 0 => .int
  | 1 => .array (.int)
  | 2 => .int
  | 3 => .int
  | 4 => .int
  | 5 => .array (.boolean)
  | 6 => .array (.long)
  | 7 => .array (.int)
  | 8 => .array (.long)
  | 9 => .array (.boolean)
  | 10 => .array (.int)
  | 11 => .array (.int)
  | 12 => .array (.int)
  | 13 => .array (.int)
  | 14 => .array (.int)
  | 15 => .array (.int)
  | 16 => .array (.long)
  | 17 => .array (.int)
  | 18 => .array (.long)
  | 19 => .int
  | 20 => .array (.long)
  | 21 => .int
  | 22 => .int
  | 23 => .int
  | 24 => .int
  | 25 => .long
  | 26 => .array (.int)
  | 27 => .array (.int)
  | 28 => .array (.int)
  | 29 => .array (.int)
  | 30 => .array (.long)
  | 31 => .array (.int)
  | 32 => .int
  | 33 => .array (.int)
  | 34 => .array (.int)
  | 35 => .int
  | 36 => .array (.int)
  | 37 => .int
  | 38 => .int
  | 39 => .int
  | 40 => .array (.int)
  | 41 => .array (.int)
  | 42 => .array (.long)
  | 43 => .int
  | _ => .long
theorem jn_Md : ∀ a, a < 45 → ∀ b, b < 45 → a ≠ b → (jT_Md a).2.1 ≠ (jT_Md b).2.1 := by decide +kernel
theorem jt_Md_ok : ∀ k, k < 45 → parseFieldDescriptor (jT_Md k).2.2.1 = some (jt_Md k) := by decide +kernel
abbrev jm_cl : List vw_C := [("CellWorks", jT_CW, 3), ("CellWorks$Reader", jT_Rd, 7), ("CellWorks$Tape", jT_Tp, 7), ("CellWorks$Formula", jT_Fm, 7), ("CellWorks$Cells", jT_Cs, 3), ("CellWorks$Cell", jT_Cl, 5), ("CellWorks$Builder", jT_Bd, 4), ("CellWorks$Work", jT_Wk, 4), ("CellWorksModel", jT_Md, 45)]
def jm_nt : Nat := 5
def jm_ty : Nat → FieldType := fun t => match t with
  | 0 => .byte
  | 1 => .int
  | 2 => .long
  | 3 => .boolean
  | _ => .object "CellWorks$Cell"
/-! the words that may be used anywhere, and the words of private constructors across the nest -/
def jm_W : List Cond := lw_tbl.filter goodWord
theorem jm_W_tbl : ∀ w ∈ jm_W, w ∈ lw_tbl := fun w h => (List.mem_filter.mp h).1
theorem jm_W_good : ∀ w ∈ jm_W, (w.onTables && w.keeps) = true ∨ ∃ ty, w = .arrayClass ty := fun w h => good_of_word (List.mem_filter.mp h).2
theorem jm_w0 {w : Cond} (h : w ∈ k2_sels lw_privs) (g : goodWord w = true) : w ∈ jm_W := List.mem_filter.mpr ⟨List.mem_append_left _ h, g⟩
theorem jm_in1 {w : Cond} (i : Nat) (h : tables_1_1[i]? = some w) : w ∈ lw_tbl := List.mem_append_right _ (List.mem_append_left _ (List.mem_of_getElem? h))
theorem jm_in2 {w : Cond} (i : Nat) (h : tables_1_2[i]? = some w) : w ∈ lw_tbl := List.mem_append_right _ (List.mem_append_right _ (List.mem_append_left _ (List.mem_of_getElem? h)))
theorem jm_in3 {w : Cond} (i : Nat) (h : tables_1_3[i]? = some w) : w ∈ lw_tbl := List.mem_append_right _ (List.mem_append_right _ (List.mem_append_right _ (List.mem_append_left _ (List.mem_of_getElem? h))))
theorem jm_in4 {w : Cond} (i : Nat) (h : tables_1_4[i]? = some w) : w ∈ lw_tbl := List.mem_append_right _ (List.mem_append_right _ (List.mem_append_right _ (List.mem_append_right _ (List.mem_append_left _ (List.mem_of_getElem? h)))))
theorem jm_in5 {w : Cond} (i : Nat) (h : tables_1_5[i]? = some w) : w ∈ lw_tbl := List.mem_append_right _ (List.mem_append_right _ (List.mem_append_right _ (List.mem_append_right _ (List.mem_append_right _ (List.mem_of_getElem? h)))))
theorem jm_ok {w : Cond} (h : w ∈ lw_tbl) (g : goodWord w = true) : w ∈ jm_W := List.mem_filter.mpr ⟨h, g⟩
theorem wn_Lw : (Cond.initialized "CellWorksLaw") ∈ jm_W := jm_ok (jm_in1 0 rfl) rfl
theorem wn_CW : (Cond.initialized "CellWorks") ∈ jm_W := jm_ok (jm_in1 1 rfl) rfl
theorem wn_Rd : (Cond.initialized "CellWorks$Reader") ∈ jm_W := jm_ok (jm_in1 2 rfl) rfl
theorem wn_Tp : (Cond.initialized "CellWorks$Tape") ∈ jm_W := jm_ok (jm_in1 3 rfl) rfl
theorem wn_Fm : (Cond.initialized "CellWorks$Formula") ∈ jm_W := jm_ok (jm_in1 4 rfl) rfl
theorem wn_Cs : (Cond.initialized "CellWorks$Cells") ∈ jm_W := jm_ok (jm_in1 5 rfl) rfl
theorem wn_Bd : (Cond.initialized "CellWorks$Builder") ∈ jm_W := jm_ok (jm_in1 6 rfl) rfl
theorem wn_Wk : (Cond.initialized "CellWorks$Work") ∈ jm_W := jm_ok (jm_in1 7 rfl) rfl
theorem wn_Md : (Cond.initialized "CellWorksModel") ∈ jm_W := jm_ok (jm_in1 8 rfl) rfl
theorem wn_Cl : (Cond.initialized "CellWorks$Cell") ∈ jm_W := jm_ok (jm_in1 14 rfl) rfl
theorem wn_Ma : (Cond.initialized "java/lang/Math") ∈ jm_W := jm_ok (jm_in1 16 rfl) rfl
theorem wn_Lo : (Cond.initialized "java/lang/Long") ∈ jm_W := jm_ok (jm_in1 17 rfl) rfl
theorem lk_Lw_8 : (Cond.classLink "CellWorksLaw" 8 "CellWorks") ∈ jm_W := jm_ok (jm_in1 19 rfl) rfl
theorem wk_CW : (Cond.instantiable "CellWorks" 3) ∈ jm_W := jm_ok (jm_in1 20 rfl) rfl
theorem lk_Lw_52 : (Cond.methodLink "CellWorksLaw" 52 ⟨"CellWorks", "<init>", "()V"⟩) ∈ jm_W := jm_ok (jm_in1 21 rfl) rfl
theorem wi_CW_init : (Cond.instanceMethod ⟨"CellWorks", "<init>", "()V"⟩) ∈ jm_W := jm_ok (jm_in1 22 rfl) rfl
theorem wc_CW_init : (Cond.code ⟨"CellWorks", "<init>", "()V"⟩ prog_1_method_1_code 1 none) ∈ jm_W := jm_ok (jm_in1 23 rfl) rfl
theorem lk_CW_3 : (Cond.methodLink "CellWorks" 3 ⟨"java/lang/Object", "<init>", "()V"⟩) ∈ jm_W := jm_ok (jm_in1 24 rfl) rfl
theorem wi_Ob_init : (Cond.instanceMethod ⟨"java/lang/Object", "<init>", "()V"⟩) ∈ jm_W := jm_ok (jm_in1 25 rfl) rfl
theorem wc_Ob_init : (Cond.code ⟨"java/lang/Object", "<init>", "()V"⟩ object_method_1_code 1 none) ∈ jm_W := jm_ok (jm_in1 26 rfl) rfl
theorem lk_CW_9 : (Cond.classLink "CellWorks" 9 "CellWorks$Reader") ∈ jm_W := jm_ok (jm_in1 27 rfl) rfl
theorem wk_Rd : (Cond.instantiable "CellWorks$Reader" 7) ∈ jm_W := jm_ok (jm_in1 28 rfl) rfl
theorem lk_CW_11 : (Cond.methodLinkNest "CellWorks" 11 ⟨"CellWorks$Reader", "<init>", "()V"⟩ "CellWorks") ∈ lw_tbl := jm_in1 29 rfl
theorem wi_Rd_init : (Cond.instanceMethod ⟨"CellWorks$Reader", "<init>", "()V"⟩) ∈ jm_W := jm_ok (jm_in1 30 rfl) rfl
theorem wc_Rd_init : (Cond.code ⟨"CellWorks$Reader", "<init>", "()V"⟩ prog_6_method_1_code 1 none) ∈ jm_W := jm_ok (jm_in1 31 rfl) rfl
theorem lk_Rd_3 : (Cond.methodLink "CellWorks$Reader" 3 ⟨"java/lang/Object", "<init>", "()V"⟩) ∈ jm_W := jm_ok (jm_in1 32 rfl) rfl
theorem lk_Rd_9 : (Cond.classLink "CellWorks$Reader" 9 "CellWorks$Tape") ∈ jm_W := jm_ok (jm_in1 33 rfl) rfl
theorem wk_Tp : (Cond.instantiable "CellWorks$Tape" 7) ∈ jm_W := jm_ok (jm_in1 34 rfl) rfl
theorem lk_Rd_11 : (Cond.methodLinkNest "CellWorks$Reader" 11 ⟨"CellWorks$Tape", "<init>", "()V"⟩ "CellWorks") ∈ lw_tbl := jm_in1 35 rfl
theorem wi_Tp_init : (Cond.instanceMethod ⟨"CellWorks$Tape", "<init>", "()V"⟩) ∈ jm_W := jm_ok (jm_in1 36 rfl) rfl
theorem wc_Tp_init : (Cond.code ⟨"CellWorks$Tape", "<init>", "()V"⟩ prog_7_method_1_code 1 none) ∈ jm_W := jm_ok (jm_in1 37 rfl) rfl
theorem lk_Tp_3 : (Cond.methodLink "CellWorks$Tape" 3 ⟨"java/lang/Object", "<init>", "()V"⟩) ∈ jm_W := jm_ok (jm_in1 38 rfl) rfl
theorem lk_Tp_9 : (Cond.fieldLink "CellWorks$Tape" 9 "CellWorks$Tape" "bytes" "[B") ∈ jm_W := jm_ok (jm_in1 39 rfl) rfl
theorem lk_Tp_15 : (Cond.fieldLink "CellWorks$Tape" 15 "CellWorks$Tape" "length" "I") ∈ jm_W := jm_ok (jm_in1 40 rfl) rfl
theorem lk_CW_34 : (Cond.fieldLink "CellWorks" 34 "CellWorks$Tape" "length" "I") ∈ jm_W := jm_ok (jm_in1 41 rfl) rfl
theorem lk_Tp_19 : (Cond.fieldLink "CellWorks$Tape" 19 "CellWorks$Tape" "next" "I") ∈ jm_W := jm_ok (jm_in1 42 rfl) rfl
theorem lk_Tp_22 : (Cond.fieldLink "CellWorks$Tape" 22 "CellWorks$Tape" "kind" "I") ∈ jm_W := jm_ok (jm_in1 43 rfl) rfl
theorem lk_Rd_61 : (Cond.fieldLink "CellWorks$Reader" 61 "CellWorks$Tape" "kind" "I") ∈ jm_W := jm_ok (jm_in1 44 rfl) rfl
theorem lk_Tp_25 : (Cond.fieldLink "CellWorks$Tape" 25 "CellWorks$Tape" "start" "I") ∈ jm_W := jm_ok (jm_in1 45 rfl) rfl
theorem lk_Rd_67 : (Cond.fieldLink "CellWorks$Reader" 67 "CellWorks$Tape" "start" "I") ∈ jm_W := jm_ok (jm_in1 46 rfl) rfl
theorem lk_Tp_28 : (Cond.fieldLink "CellWorks$Tape" 28 "CellWorks$Tape" "name" "J") ∈ jm_W := jm_ok (jm_in1 47 rfl) rfl
theorem lk_Rd_53 : (Cond.fieldLink "CellWorks$Reader" 53 "CellWorks$Tape" "name" "J") ∈ jm_W := jm_ok (jm_in1 48 rfl) rfl
theorem lk_Tp_32 : (Cond.fieldLink "CellWorks$Tape" 32 "CellWorks$Tape" "number" "I") ∈ jm_W := jm_ok (jm_in1 49 rfl) rfl
theorem lk_Rd_89 : (Cond.fieldLink "CellWorks$Reader" 89 "CellWorks$Tape" "number" "I") ∈ jm_W := jm_ok (jm_in1 50 rfl) rfl
theorem wl_Tp_bytes : (Cond.laysFinal "CellWorks$Tape" "CellWorks$Tape" "bytes" "[B") ∈ jm_W := jm_ok (jm_in1 51 rfl) rfl
theorem wl_Tp_length : (Cond.lays "CellWorks$Tape" "CellWorks$Tape" "length" "I") ∈ jm_W := jm_ok (jm_in1 53 rfl) rfl
theorem wl_Tp_next : (Cond.lays "CellWorks$Tape" "CellWorks$Tape" "next" "I") ∈ jm_W := jm_ok (jm_in1 55 rfl) rfl
theorem wl_Tp_kind : (Cond.lays "CellWorks$Tape" "CellWorks$Tape" "kind" "I") ∈ jm_W := jm_ok (jm_in1 57 rfl) rfl
theorem wl_Tp_start : (Cond.lays "CellWorks$Tape" "CellWorks$Tape" "start" "I") ∈ jm_W := jm_ok (jm_in1 59 rfl) rfl
theorem wl_Tp_name : (Cond.lays "CellWorks$Tape" "CellWorks$Tape" "name" "J") ∈ jm_W := jm_ok (jm_in1 61 rfl) rfl
theorem wl_Tp_number : (Cond.lays "CellWorks$Tape" "CellWorks$Tape" "number" "I") ∈ jm_W := jm_ok (jm_in1 63 rfl) rfl
theorem wa_byte : (Cond.arrayClass FieldType.byte) ∈ jm_W := jm_ok (jm_in1 66 rfl) rfl
theorem lk_Rd_18 : (Cond.classLink "CellWorks$Reader" 18 "CellWorks$Formula") ∈ jm_W := jm_ok (jm_in1 67 rfl) rfl
theorem wk_Fm : (Cond.instantiable "CellWorks$Formula" 7) ∈ jm_W := jm_ok (jm_in1 68 rfl) rfl
theorem lk_Rd_20 : (Cond.methodLinkNest "CellWorks$Reader" 20 ⟨"CellWorks$Formula", "<init>", "()V"⟩ "CellWorks") ∈ lw_tbl := jm_in1 69 rfl
theorem wi_Fm_init : (Cond.instanceMethod ⟨"CellWorks$Formula", "<init>", "()V"⟩) ∈ jm_W := jm_ok (jm_in1 70 rfl) rfl
theorem wc_Fm_init : (Cond.code ⟨"CellWorks$Formula", "<init>", "()V"⟩ prog_5_method_1_code 1 none) ∈ jm_W := jm_ok (jm_in1 71 rfl) rfl
theorem lk_Fm_3 : (Cond.methodLink "CellWorks$Formula" 3 ⟨"java/lang/Object", "<init>", "()V"⟩) ∈ jm_W := jm_ok (jm_in1 72 rfl) rfl
theorem lk_Fm_9 : (Cond.fieldLink "CellWorks$Formula" 9 "CellWorks$Formula" "steps" "[I") ∈ jm_W := jm_ok (jm_in1 73 rfl) rfl
theorem lk_Wk_31 : (Cond.fieldLink "CellWorks$Work" 31 "CellWorks$Formula" "steps" "[I") ∈ jm_W := jm_ok (jm_in1 74 rfl) rfl
theorem lk_Fm_15 : (Cond.fieldLink "CellWorks$Formula" 15 "CellWorks$Formula" "details" "[I") ∈ jm_W := jm_ok (jm_in1 75 rfl) rfl
theorem lk_Wk_35 : (Cond.fieldLink "CellWorks$Work" 35 "CellWorks$Formula" "details" "[I") ∈ jm_W := jm_ok (jm_in1 76 rfl) rfl
theorem lk_Fm_18 : (Cond.fieldLink "CellWorks$Formula" 18 "CellWorks$Formula" "length" "I") ∈ jm_W := jm_ok (jm_in1 77 rfl) rfl
theorem lk_Wk_26 : (Cond.fieldLink "CellWorks$Work" 26 "CellWorks$Formula" "length" "I") ∈ jm_W := jm_ok (jm_in1 78 rfl) rfl
theorem lk_Rd_114 : (Cond.fieldLink "CellWorks$Reader" 114 "CellWorks$Formula" "length" "I") ∈ jm_W := jm_ok (jm_in1 79 rfl) rfl
theorem lk_Fm_22 : (Cond.fieldLink "CellWorks$Formula" 22 "CellWorks$Formula" "names" "[J") ∈ jm_W := jm_ok (jm_in1 80 rfl) rfl
theorem lk_Cs_55 : (Cond.fieldLink "CellWorks$Cells" 55 "CellWorks$Formula" "names" "[J") ∈ jm_W := jm_ok (jm_in1 81 rfl) rfl
theorem lk_Fm_26 : (Cond.fieldLink "CellWorks$Formula" 26 "CellWorks$Formula" "seenKinds" "[I") ∈ jm_W := jm_ok (jm_in1 82 rfl) rfl
theorem lk_Wk_61 : (Cond.fieldLink "CellWorks$Work" 61 "CellWorks$Formula" "seenKinds" "[I") ∈ jm_W := jm_ok (jm_in1 83 rfl) rfl
theorem lk_Cs_62 : (Cond.fieldLink "CellWorks$Cells" 62 "CellWorks$Formula" "seenKinds" "[I") ∈ jm_W := jm_ok (jm_in1 84 rfl) rfl
theorem lk_Fm_29 : (Cond.fieldLink "CellWorks$Formula" 29 "CellWorks$Formula" "seenValues" "[J") ∈ jm_W := jm_ok (jm_in1 85 rfl) rfl
theorem lk_Wk_64 : (Cond.fieldLink "CellWorks$Work" 64 "CellWorks$Formula" "seenValues" "[J") ∈ jm_W := jm_ok (jm_in1 86 rfl) rfl
theorem lk_Cs_70 : (Cond.fieldLink "CellWorks$Cells" 70 "CellWorks$Formula" "seenValues" "[J") ∈ jm_W := jm_ok (jm_in1 87 rfl) rfl
theorem lk_Fm_32 : (Cond.fieldLink "CellWorks$Formula" 32 "CellWorks$Formula" "nameCount" "I") ∈ jm_W := jm_ok (jm_in1 88 rfl) rfl
theorem lk_Wk_58 : (Cond.fieldLink "CellWorks$Work" 58 "CellWorks$Formula" "nameCount" "I") ∈ jm_W := jm_ok (jm_in1 89 rfl) rfl
theorem lk_Cs_50 : (Cond.fieldLink "CellWorks$Cells" 50 "CellWorks$Formula" "nameCount" "I") ∈ jm_W := jm_ok (jm_in1 90 rfl) rfl
theorem lk_Rd_107 : (Cond.fieldLink "CellWorks$Reader" 107 "CellWorks$Formula" "nameCount" "I") ∈ jm_W := jm_ok (jm_in1 91 rfl) rfl
theorem wl_Fm_steps : (Cond.laysFinal "CellWorks$Formula" "CellWorks$Formula" "steps" "[I") ∈ jm_W := jm_ok (jm_in1 92 rfl) rfl
theorem wl_Fm_details : (Cond.laysFinal "CellWorks$Formula" "CellWorks$Formula" "details" "[I") ∈ jm_W := jm_ok (jm_in1 94 rfl) rfl
theorem wl_Fm_length : (Cond.lays "CellWorks$Formula" "CellWorks$Formula" "length" "I") ∈ jm_W := jm_ok (jm_in1 96 rfl) rfl
theorem wl_Fm_names : (Cond.laysFinal "CellWorks$Formula" "CellWorks$Formula" "names" "[J") ∈ jm_W := jm_ok (jm_in1 98 rfl) rfl
theorem wl_Fm_seenKinds : (Cond.laysFinal "CellWorks$Formula" "CellWorks$Formula" "seenKinds" "[I") ∈ jm_W := jm_ok (jm_in1 100 rfl) rfl
theorem wl_Fm_seenValues : (Cond.laysFinal "CellWorks$Formula" "CellWorks$Formula" "seenValues" "[J") ∈ jm_W := jm_ok (jm_in1 102 rfl) rfl
theorem wl_Fm_nameCount : (Cond.lays "CellWorks$Formula" "CellWorks$Formula" "nameCount" "I") ∈ jm_W := jm_ok (jm_in1 104 rfl) rfl
theorem wa_int : (Cond.arrayClass FieldType.int) ∈ jm_W := jm_ok (jm_in1 107 rfl) rfl
theorem wa_long : (Cond.arrayClass FieldType.long) ∈ jm_W := jm_ok (jm_in1 108 rfl) rfl
theorem lk_Rd_12 : (Cond.fieldLink "CellWorks$Reader" 12 "CellWorks$Reader" "tape" "LCellWorks$Tape;") ∈ jm_W := jm_ok (jm_in1 109 rfl) rfl
theorem lk_CW_30 : (Cond.fieldLink "CellWorks" 30 "CellWorks$Reader" "tape" "LCellWorks$Tape;") ∈ jm_W := jm_ok (jm_in1 110 rfl) rfl
theorem lk_Rd_21 : (Cond.fieldLink "CellWorks$Reader" 21 "CellWorks$Reader" "formula" "LCellWorks$Formula;") ∈ jm_W := jm_ok (jm_in1 111 rfl) rfl
theorem lk_CW_157 : (Cond.fieldLink "CellWorks" 157 "CellWorks$Reader" "formula" "LCellWorks$Formula;") ∈ jm_W := jm_ok (jm_in1 112 rfl) rfl
theorem lk_Rd_25 : (Cond.fieldLink "CellWorks$Reader" 25 "CellWorks$Reader" "name" "J") ∈ jm_W := jm_ok (jm_in1 113 rfl) rfl
theorem lk_CW_149 : (Cond.fieldLink "CellWorks" 149 "CellWorks$Reader" "name" "J") ∈ jm_W := jm_ok (jm_in1 114 rfl) rfl
theorem lk_Rd_29 : (Cond.fieldLink "CellWorks$Reader" 29 "CellWorks$Reader" "faultCode" "I") ∈ jm_W := jm_ok (jm_in1 115 rfl) rfl
theorem lk_CW_63 : (Cond.fieldLink "CellWorks" 63 "CellWorks$Reader" "faultCode" "I") ∈ jm_W := jm_ok (jm_in1 116 rfl) rfl
theorem lk_Rd_33 : (Cond.fieldLink "CellWorks$Reader" 33 "CellWorks$Reader" "faultPlace" "I") ∈ jm_W := jm_ok (jm_in1 117 rfl) rfl
theorem lk_CW_66 : (Cond.fieldLink "CellWorks" 66 "CellWorks$Reader" "faultPlace" "I") ∈ jm_W := jm_ok (jm_in1 118 rfl) rfl
theorem lk_Rd_36 : (Cond.fieldLink "CellWorks$Reader" 36 "CellWorks$Reader" "nodes" "I") ∈ jm_W := jm_ok (jm_in1 119 rfl) rfl
theorem lk_Rd_39 : (Cond.fieldLink "CellWorks$Reader" 39 "CellWorks$Reader" "places" "[I") ∈ jm_W := jm_ok (jm_in1 120 rfl) rfl
theorem wl_Rd_tape : (Cond.laysFinal "CellWorks$Reader" "CellWorks$Reader" "tape" "LCellWorks$Tape;") ∈ jm_W := jm_ok (jm_in1 121 rfl) rfl
theorem wl_Rd_formula : (Cond.lays "CellWorks$Reader" "CellWorks$Reader" "formula" "LCellWorks$Formula;") ∈ jm_W := jm_ok (jm_in1 123 rfl) rfl
theorem wl_Rd_name : (Cond.lays "CellWorks$Reader" "CellWorks$Reader" "name" "J") ∈ jm_W := jm_ok (jm_in1 125 rfl) rfl
theorem wl_Rd_faultCode : (Cond.lays "CellWorks$Reader" "CellWorks$Reader" "faultCode" "I") ∈ jm_W := jm_ok (jm_in1 127 rfl) rfl
theorem wl_Rd_faultPlace : (Cond.lays "CellWorks$Reader" "CellWorks$Reader" "faultPlace" "I") ∈ jm_W := jm_ok (jm_in1 129 rfl) rfl
theorem wl_Rd_nodes : (Cond.lays "CellWorks$Reader" "CellWorks$Reader" "nodes" "I") ∈ jm_W := jm_ok (jm_in1 131 rfl) rfl
theorem wl_Rd_places : (Cond.laysFinal "CellWorks$Reader" "CellWorks$Reader" "places" "[I") ∈ jm_W := jm_ok (jm_in1 133 rfl) rfl
theorem lk_CW_16 : (Cond.classLink "CellWorks" 16 "CellWorks$Cells") ∈ jm_W := jm_ok (jm_in1 136 rfl) rfl
theorem wk_Cs : (Cond.instantiable "CellWorks$Cells" 3) ∈ jm_W := jm_ok (jm_in1 137 rfl) rfl
theorem lk_CW_18 : (Cond.methodLinkNest "CellWorks" 18 ⟨"CellWorks$Cells", "<init>", "()V"⟩ "CellWorks") ∈ lw_tbl := jm_in1 138 rfl
theorem wi_Cs_init : (Cond.instanceMethod ⟨"CellWorks$Cells", "<init>", "()V"⟩) ∈ jm_W := jm_ok (jm_in1 139 rfl) rfl
theorem wc_Cs_init : (Cond.code ⟨"CellWorks$Cells", "<init>", "()V"⟩ prog_4_method_1_code 1 none) ∈ jm_W := jm_ok (jm_in1 140 rfl) rfl
theorem lk_Cs_3 : (Cond.methodLink "CellWorks$Cells" 3 ⟨"java/lang/Object", "<init>", "()V"⟩) ∈ jm_W := jm_ok (jm_in1 141 rfl) rfl
theorem lk_Cs_9 : (Cond.classLink "CellWorks$Cells" 9 "CellWorks$Cell") ∈ jm_W := jm_ok (jm_in1 142 rfl) rfl
theorem wa_over : (Cond.arrayOver (FieldType.object "CellWorks$Cell")) ∈ lw_tbl := jm_in1 143 rfl
theorem lk_Cs_11 : (Cond.fieldLink "CellWorks$Cells" 11 "CellWorks$Cells" "rows" "[LCellWorks$Cell;") ∈ jm_W := jm_ok (jm_in1 144 rfl) rfl
theorem lk_Bd_43 : (Cond.fieldLink "CellWorks$Builder" 43 "CellWorks$Cells" "rows" "[LCellWorks$Cell;") ∈ jm_W := jm_ok (jm_in1 145 rfl) rfl
theorem lk_Cs_17 : (Cond.fieldLink "CellWorks$Cells" 17 "CellWorks$Cells" "size" "I") ∈ jm_W := jm_ok (jm_in1 146 rfl) rfl
theorem lk_Bd_35 : (Cond.fieldLink "CellWorks$Builder" 35 "CellWorks$Cells" "size" "I") ∈ jm_W := jm_ok (jm_in1 147 rfl) rfl
theorem lk_CW_126 : (Cond.fieldLink "CellWorks" 126 "CellWorks$Cells" "size" "I") ∈ jm_W := jm_ok (jm_in1 148 rfl) rfl
theorem lk_Cs_21 : (Cond.fieldLink "CellWorks$Cells" 21 "CellWorks$Cells" "reads" "[J") ∈ jm_W := jm_ok (jm_in1 149 rfl) rfl
theorem lk_Bd_40 : (Cond.fieldLink "CellWorks$Builder" 40 "CellWorks$Cells" "reads" "[J") ∈ jm_W := jm_ok (jm_in1 150 rfl) rfl
theorem wl_Cs_rows : (Cond.laysFinal "CellWorks$Cells" "CellWorks$Cells" "rows" "[LCellWorks$Cell;") ∈ jm_W := jm_ok (jm_in1 151 rfl) rfl
theorem wl_Cs_size : (Cond.lays "CellWorks$Cells" "CellWorks$Cells" "size" "I") ∈ jm_W := jm_ok (jm_in1 153 rfl) rfl
theorem wl_Cs_reads : (Cond.laysFinal "CellWorks$Cells" "CellWorks$Cells" "reads" "[J") ∈ jm_W := jm_ok (jm_in1 155 rfl) rfl
theorem lk_CW_23 : (Cond.classLink "CellWorks" 23 "CellWorks$Builder") ∈ jm_W := jm_ok (jm_in1 158 rfl) rfl
theorem wk_Bd : (Cond.instantiable "CellWorks$Builder" 4) ∈ jm_W := jm_ok (jm_in1 159 rfl) rfl
theorem lk_CW_25 : (Cond.methodLinkNest "CellWorks" 25 ⟨"CellWorks$Builder", "<init>", "()V"⟩ "CellWorks") ∈ lw_tbl := jm_in1 160 rfl
theorem wi_Bd_init : (Cond.instanceMethod ⟨"CellWorks$Builder", "<init>", "()V"⟩) ∈ jm_W := jm_ok (jm_in1 161 rfl) rfl
theorem wc_Bd_init : (Cond.code ⟨"CellWorks$Builder", "<init>", "()V"⟩ prog_2_method_1_code 1 none) ∈ jm_W := jm_ok (jm_in1 162 rfl) rfl
theorem lk_Bd_3 : (Cond.methodLink "CellWorks$Builder" 3 ⟨"java/lang/Object", "<init>", "()V"⟩) ∈ jm_W := jm_ok (jm_in1 163 rfl) rfl
theorem lk_Bd_9 : (Cond.classLink "CellWorks$Builder" 9 "CellWorks$Work") ∈ jm_W := jm_ok (jm_in1 164 rfl) rfl
theorem wk_Wk : (Cond.instantiable "CellWorks$Work" 4) ∈ jm_W := jm_ok (jm_in1 165 rfl) rfl
theorem lk_Bd_11 : (Cond.methodLinkNest "CellWorks$Builder" 11 ⟨"CellWorks$Work", "<init>", "()V"⟩ "CellWorks") ∈ lw_tbl := jm_in1 166 rfl
theorem wi_Wk_init : (Cond.instanceMethod ⟨"CellWorks$Work", "<init>", "()V"⟩) ∈ jm_W := jm_ok (jm_in1 167 rfl) rfl
theorem wc_Wk_init : (Cond.code ⟨"CellWorks$Work", "<init>", "()V"⟩ prog_8_method_1_code 1 none) ∈ jm_W := jm_ok (jm_in1 168 rfl) rfl
theorem lk_Wk_3 : (Cond.methodLink "CellWorks$Work" 3 ⟨"java/lang/Object", "<init>", "()V"⟩) ∈ jm_W := jm_ok (jm_in1 169 rfl) rfl
theorem lk_Wk_9 : (Cond.fieldLink "CellWorks$Work" 9 "CellWorks$Work" "stack" "[J") ∈ jm_W := jm_ok (jm_in1 170 rfl) rfl
theorem lk_Wk_15 : (Cond.fieldLink "CellWorks$Work" 15 "CellWorks$Work" "height" "I") ∈ jm_W := jm_ok (jm_in1 171 rfl) rfl
theorem lk_Wk_19 : (Cond.fieldLink "CellWorks$Work" 19 "CellWorks$Work" "kind" "I") ∈ jm_W := jm_ok (jm_in1 172 rfl) rfl
theorem lk_Bd_72 : (Cond.fieldLink "CellWorks$Builder" 72 "CellWorks$Work" "kind" "I") ∈ jm_W := jm_ok (jm_in1 173 rfl) rfl
theorem lk_Wk_22 : (Cond.fieldLink "CellWorks$Work" 22 "CellWorks$Work" "value" "J") ∈ jm_W := jm_ok (jm_in1 174 rfl) rfl
theorem lk_Bd_76 : (Cond.fieldLink "CellWorks$Builder" 76 "CellWorks$Work" "value" "J") ∈ jm_W := jm_ok (jm_in1 175 rfl) rfl
theorem wl_Wk_stack : (Cond.laysFinal "CellWorks$Work" "CellWorks$Work" "stack" "[J") ∈ jm_W := jm_ok (jm_in1 176 rfl) rfl
theorem wl_Wk_height : (Cond.lays "CellWorks$Work" "CellWorks$Work" "height" "I") ∈ jm_W := jm_ok (jm_in1 178 rfl) rfl
theorem wl_Wk_kind : (Cond.lays "CellWorks$Work" "CellWorks$Work" "kind" "I") ∈ jm_W := jm_ok (jm_in1 180 rfl) rfl
theorem wl_Wk_value : (Cond.lays "CellWorks$Work" "CellWorks$Work" "value" "J") ∈ jm_W := jm_ok (jm_in1 182 rfl) rfl
theorem lk_Bd_12 : (Cond.fieldLink "CellWorks$Builder" 12 "CellWorks$Builder" "work" "LCellWorks$Work;") ∈ jm_W := jm_ok (jm_in1 185 rfl) rfl
theorem lk_Bd_18 : (Cond.fieldLink "CellWorks$Builder" 18 "CellWorks$Builder" "latest" "[J") ∈ jm_W := jm_ok (jm_in1 186 rfl) rfl
theorem lk_Bd_22 : (Cond.fieldLink "CellWorks$Builder" 22 "CellWorks$Builder" "latestSize" "I") ∈ jm_W := jm_ok (jm_in1 187 rfl) rfl
theorem lk_CW_136 : (Cond.fieldLink "CellWorks" 136 "CellWorks$Builder" "latestSize" "I") ∈ jm_W := jm_ok (jm_in1 188 rfl) rfl
theorem lk_Bd_26 : (Cond.fieldLink "CellWorks$Builder" 26 "CellWorks$Builder" "total" "I") ∈ jm_W := jm_ok (jm_in1 189 rfl) rfl
theorem lk_CW_133 : (Cond.fieldLink "CellWorks" 133 "CellWorks$Builder" "total" "I") ∈ jm_W := jm_ok (jm_in1 190 rfl) rfl
theorem wl_Bd_work : (Cond.laysFinal "CellWorks$Builder" "CellWorks$Builder" "work" "LCellWorks$Work;") ∈ jm_W := jm_ok (jm_in1 191 rfl) rfl
theorem wl_Bd_latest : (Cond.laysFinal "CellWorks$Builder" "CellWorks$Builder" "latest" "[J") ∈ jm_W := jm_ok (jm_in1 193 rfl) rfl
theorem wl_Bd_latestSize : (Cond.lays "CellWorks$Builder" "CellWorks$Builder" "latestSize" "I") ∈ jm_W := jm_ok (jm_in1 195 rfl) rfl
theorem wl_Bd_total : (Cond.lays "CellWorks$Builder" "CellWorks$Builder" "total" "I") ∈ jm_W := jm_ok (jm_in1 197 rfl) rfl
theorem lk_CW_12 : (Cond.fieldLink "CellWorks" 12 "CellWorks" "reader" "LCellWorks$Reader;") ∈ jm_W := jm_ok (jm_in1 200 rfl) rfl
theorem lk_CW_19 : (Cond.fieldLink "CellWorks" 19 "CellWorks" "cells" "LCellWorks$Cells;") ∈ jm_W := jm_ok (jm_in1 201 rfl) rfl
theorem lk_CW_26 : (Cond.fieldLink "CellWorks" 26 "CellWorks" "builder" "LCellWorks$Builder;") ∈ jm_W := jm_ok (jm_in1 202 rfl) rfl
theorem wl_CW_reader : (Cond.laysFinal "CellWorks" "CellWorks" "reader" "LCellWorks$Reader;") ∈ jm_W := jm_ok (jm_in1 203 rfl) rfl
theorem wl_CW_cells : (Cond.laysFinal "CellWorks" "CellWorks" "cells" "LCellWorks$Cells;") ∈ jm_W := jm_ok (jm_in1 205 rfl) rfl
theorem wl_CW_builder : (Cond.laysFinal "CellWorks" "CellWorks" "builder" "LCellWorks$Builder;") ∈ jm_W := jm_ok (jm_in1 207 rfl) rfl
theorem lk_Lw_69 : (Cond.methodLink "CellWorksLaw" 69 ⟨"CellWorks", "define", "()I"⟩) ∈ jm_W := jm_ok (jm_in1 210 rfl) rfl
theorem wi_CW_define : (Cond.instanceMethod ⟨"CellWorks", "define", "()I"⟩) ∈ jm_W := jm_ok (jm_in1 211 rfl) rfl
theorem ws_CW_define : (Cond.selects "CellWorks" ⟨"CellWorks", "define", "()I"⟩ ⟨"CellWorks", "define", "()I"⟩) ∈ jm_W := jm_ok (jm_in1 212 rfl) rfl
theorem wc_CW_define : (Cond.code ⟨"CellWorks", "define", "()I"⟩ prog_1_method_4_code 1 (some FieldType.int)) ∈ jm_W := jm_ok (jm_in1 213 rfl) rfl
theorem lk_CW_56 : (Cond.methodLink "CellWorks" 56 ⟨"CellWorks$Reader", "readDefinition", "()Z"⟩) ∈ jm_W := jm_ok (jm_in1 214 rfl) rfl
theorem wi_Rd_readDefinition : (Cond.instanceMethod ⟨"CellWorks$Reader", "readDefinition", "()Z"⟩) ∈ jm_W := jm_ok (jm_in1 215 rfl) rfl
theorem ws_Rd_readDefinition : (Cond.selects "CellWorks$Reader" ⟨"CellWorks$Reader", "readDefinition", "()Z"⟩ ⟨"CellWorks$Reader", "readDefinition", "()Z"⟩) ∈ jm_W := jm_ok (jm_in1 216 rfl) rfl
theorem wc_Rd_readDefinition : (Cond.code ⟨"CellWorks$Reader", "readDefinition", "()Z"⟩ prog_6_method_2_code 1 (some FieldType.boolean)) ∈ jm_W := jm_ok (jm_in1 217 rfl) rfl
theorem lk_Rd_43 : (Cond.methodLink "CellWorks$Reader" 43 ⟨"CellWorks$Formula", "clear", "()V"⟩) ∈ jm_W := jm_ok (jm_in1 218 rfl) rfl
theorem wi_Fm_clear : (Cond.instanceMethod ⟨"CellWorks$Formula", "clear", "()V"⟩) ∈ jm_W := jm_ok (jm_in1 219 rfl) rfl
theorem ws_Fm_clear : (Cond.selects "CellWorks$Formula" ⟨"CellWorks$Formula", "clear", "()V"⟩ ⟨"CellWorks$Formula", "clear", "()V"⟩) ∈ jm_W := jm_ok (jm_in1 220 rfl) rfl
theorem wc_Fm_clear : (Cond.code ⟨"CellWorks$Formula", "clear", "()V"⟩ prog_5_method_2_code 1 none) ∈ jm_W := jm_ok (jm_in1 221 rfl) rfl
theorem lk_Rd_46 : (Cond.methodLink "CellWorks$Reader" 46 ⟨"CellWorks$Tape", "rewind", "()V"⟩) ∈ jm_W := jm_ok (jm_in1 222 rfl) rfl
theorem wi_Tp_rewind : (Cond.instanceMethod ⟨"CellWorks$Tape", "rewind", "()V"⟩) ∈ jm_W := jm_ok (jm_in1 223 rfl) rfl
theorem ws_Tp_rewind : (Cond.selects "CellWorks$Tape" ⟨"CellWorks$Tape", "rewind", "()V"⟩ ⟨"CellWorks$Tape", "rewind", "()V"⟩) ∈ jm_W := jm_ok (jm_in1 224 rfl) rfl
theorem wc_Tp_rewind : (Cond.code ⟨"CellWorks$Tape", "rewind", "()V"⟩ prog_7_method_4_code 1 none) ∈ jm_W := jm_ok (jm_in1 225 rfl) rfl
theorem lk_Rd_49 : (Cond.methodLink "CellWorks$Reader" 49 ⟨"CellWorks$Reader", "pass", "()Z"⟩) ∈ jm_W := jm_ok (jm_in1 226 rfl) rfl
theorem wi_Rd_pass : (Cond.instanceMethod ⟨"CellWorks$Reader", "pass", "()Z"⟩) ∈ jm_W := jm_ok (jm_in1 228 rfl) rfl
theorem wc_Rd_pass : (Cond.code ⟨"CellWorks$Reader", "pass", "()Z"⟩ prog_6_method_7_code 1 (some FieldType.boolean)) ∈ jm_W := jm_ok (jm_in1 229 rfl) rfl
theorem lk_Rd_74 : (Cond.methodLink "CellWorks$Reader" 74 ⟨"CellWorks$Tape", "readToken", "()V"⟩) ∈ jm_W := jm_ok (jm_in1 230 rfl) rfl
theorem wi_Tp_readToken : (Cond.instanceMethod ⟨"CellWorks$Tape", "readToken", "()V"⟩) ∈ jm_W := jm_ok (jm_in1 231 rfl) rfl
theorem ws_Tp_readToken : (Cond.selects "CellWorks$Tape" ⟨"CellWorks$Tape", "readToken", "()V"⟩ ⟨"CellWorks$Tape", "readToken", "()V"⟩) ∈ jm_W := jm_ok (jm_in1 232 rfl) rfl
theorem wc_Tp_readToken : (Cond.code ⟨"CellWorks$Tape", "readToken", "()V"⟩ prog_7_method_6_code 2 none) ∈ jm_W := jm_ok (jm_in1 233 rfl) rfl
theorem lk_Tp_41 : (Cond.methodLink "CellWorks$Tape" 41 ⟨"CellWorks$Tape", "byteAt", "(I)I"⟩) ∈ jm_W := jm_ok (jm_in1 234 rfl) rfl
theorem wi_Tp_byteAt : (Cond.instanceMethod ⟨"CellWorks$Tape", "byteAt", "(I)I"⟩) ∈ jm_W := jm_ok (jm_in1 235 rfl) rfl
theorem ws_Tp_byteAt : (Cond.selects "CellWorks$Tape" ⟨"CellWorks$Tape", "byteAt", "(I)I"⟩ ⟨"CellWorks$Tape", "byteAt", "(I)I"⟩) ∈ jm_W := jm_ok (jm_in1 236 rfl) rfl
theorem wc_Tp_byteAt : (Cond.code ⟨"CellWorks$Tape", "byteAt", "(I)I"⟩ prog_7_method_3_code 2 (some FieldType.int)) ∈ jm_W := jm_ok (jm_in1 237 rfl) rfl
theorem lk_Tp_45 : (Cond.methodLink "CellWorks$Tape" 45 ⟨"CellWorks$Tape", "isBlank", "(I)Z"⟩) ∈ jm_W := jm_ok (jm_in1 238 rfl) rfl
theorem wt_Tp_isBlank : (Cond.static ⟨"CellWorks$Tape", "isBlank", "(I)Z"⟩) ∈ jm_W := jm_ok (jm_in1 239 rfl) rfl
theorem wc_Tp_isBlank : (Cond.code ⟨"CellWorks$Tape", "isBlank", "(I)Z"⟩ prog_7_method_10_code 1 (some FieldType.boolean)) ∈ jm_W := jm_ok (jm_in2 0 rfl) rfl
theorem lk_Tp_49 : (Cond.methodLink "CellWorks$Tape" 49 ⟨"CellWorks$Tape", "isLetter", "(I)Z"⟩) ∈ jm_W := jm_ok (jm_in2 1 rfl) rfl
theorem wt_Tp_isLetter : (Cond.static ⟨"CellWorks$Tape", "isLetter", "(I)Z"⟩) ∈ jm_W := jm_ok (jm_in2 2 rfl) rfl
theorem wc_Tp_isLetter : (Cond.code ⟨"CellWorks$Tape", "isLetter", "(I)Z"⟩ prog_7_method_11_code 1 (some FieldType.boolean)) ∈ jm_W := jm_ok (jm_in2 3 rfl) rfl
theorem lk_Tp_52 : (Cond.methodLink "CellWorks$Tape" 52 ⟨"CellWorks$Tape", "readWord", "()V"⟩) ∈ jm_W := jm_ok (jm_in2 4 rfl) rfl
theorem wi_Tp_readWord : (Cond.instanceMethod ⟨"CellWorks$Tape", "readWord", "()V"⟩) ∈ jm_W := jm_ok (jm_in2 6 rfl) rfl
theorem wc_Tp_readWord : (Cond.code ⟨"CellWorks$Tape", "readWord", "()V"⟩ prog_7_method_7_code 2 none) ∈ jm_W := jm_ok (jm_in2 7 rfl) rfl
theorem lk_Tp_55 : (Cond.methodLink "CellWorks$Tape" 55 ⟨"CellWorks$Tape", "isDigit", "(I)Z"⟩) ∈ jm_W := jm_ok (jm_in2 8 rfl) rfl
theorem wt_Tp_isDigit : (Cond.static ⟨"CellWorks$Tape", "isDigit", "(I)Z"⟩) ∈ jm_W := jm_ok (jm_in2 9 rfl) rfl
theorem wc_Tp_isDigit : (Cond.code ⟨"CellWorks$Tape", "isDigit", "(I)Z"⟩ prog_7_method_12_code 1 (some FieldType.boolean)) ∈ jm_W := jm_ok (jm_in2 10 rfl) rfl
theorem lk_Tp_64 : (Cond.methodLink "CellWorks$Tape" 64 ⟨"CellWorks$Tape", "kindOfWord", "(J)I"⟩) ∈ jm_W := jm_ok (jm_in2 11 rfl) rfl
theorem wt_Tp_kindOfWord : (Cond.static ⟨"CellWorks$Tape", "kindOfWord", "(J)I"⟩) ∈ jm_W := jm_ok (jm_in2 12 rfl) rfl
theorem wc_Tp_kindOfWord : (Cond.code ⟨"CellWorks$Tape", "kindOfWord", "(J)I"⟩ prog_7_method_9_code 2 (some FieldType.int)) ∈ jm_W := jm_ok (jm_in2 13 rfl) rfl
theorem lk_Tp_68 : (Cond.constantLong "CellWorks$Tape" 68 (7883953568967819264 : Int64)) ∈ jm_W := jm_ok (jm_in2 14 rfl) rfl
theorem lk_Tp_70 : (Cond.constantLong "CellWorks$Tape" 70 (7881712764270411776 : Int64)) ∈ jm_W := jm_ok (jm_in2 15 rfl) rfl
theorem lk_Tp_72 : (Cond.constantLong "CellWorks$Tape" 72 (7594757821606920192 : Int64)) ∈ jm_W := jm_ok (jm_in2 16 rfl) rfl
theorem lk_Tp_58 : (Cond.methodLink "CellWorks$Tape" 58 ⟨"CellWorks$Tape", "readNumber", "()V"⟩) ∈ jm_W := jm_ok (jm_in2 17 rfl) rfl
theorem wi_Tp_readNumber : (Cond.instanceMethod ⟨"CellWorks$Tape", "readNumber", "()V"⟩) ∈ jm_W := jm_ok (jm_in2 19 rfl) rfl
theorem wc_Tp_readNumber : (Cond.code ⟨"CellWorks$Tape", "readNumber", "()V"⟩ prog_7_method_8_code 1 none) ∈ jm_W := jm_ok (jm_in2 20 rfl) rfl
theorem lk_Tp_61 : (Cond.methodLink "CellWorks$Tape" 61 ⟨"CellWorks$Tape", "isMark", "(I)Z"⟩) ∈ jm_W := jm_ok (jm_in2 21 rfl) rfl
theorem wt_Tp_isMark : (Cond.static ⟨"CellWorks$Tape", "isMark", "(I)Z"⟩) ∈ jm_W := jm_ok (jm_in2 22 rfl) rfl
theorem wc_Tp_isMark : (Cond.code ⟨"CellWorks$Tape", "isMark", "(I)Z"⟩ prog_7_method_13_code 1 (some FieldType.boolean)) ∈ jm_W := jm_ok (jm_in2 23 rfl) rfl
theorem lk_Rd_64 : (Cond.methodLink "CellWorks$Reader" 64 ⟨"CellWorks$Reader", "refuse", "(I)Z"⟩) ∈ jm_W := jm_ok (jm_in2 24 rfl) rfl
theorem wi_Rd_refuse : (Cond.instanceMethod ⟨"CellWorks$Reader", "refuse", "(I)Z"⟩) ∈ jm_W := jm_ok (jm_in2 26 rfl) rfl
theorem wc_Rd_refuse : (Cond.code ⟨"CellWorks$Reader", "refuse", "(I)Z"⟩ prog_6_method_6_code 2 (some FieldType.boolean)) ∈ jm_W := jm_ok (jm_in2 27 rfl) rfl
theorem lk_Rd_70 : (Cond.methodLink "CellWorks$Reader" 70 ⟨"CellWorks$Reader", "refuseAt", "(II)V"⟩) ∈ jm_W := jm_ok (jm_in2 28 rfl) rfl
theorem wi_Rd_refuseAt : (Cond.instanceMethod ⟨"CellWorks$Reader", "refuseAt", "(II)V"⟩) ∈ jm_W := jm_ok (jm_in2 29 rfl) rfl
theorem ws_Rd_refuseAt : (Cond.selects "CellWorks$Reader" ⟨"CellWorks$Reader", "refuseAt", "(II)V"⟩ ⟨"CellWorks$Reader", "refuseAt", "(II)V"⟩) ∈ jm_W := jm_ok (jm_in2 30 rfl) rfl
theorem wc_Rd_refuseAt : (Cond.code ⟨"CellWorks$Reader", "refuseAt", "(II)V"⟩ prog_6_method_5_code 3 none) ∈ jm_W := jm_ok (jm_in2 31 rfl) rfl
theorem lk_Rd_54 : (Cond.methodLink "CellWorks$Reader" 54 ⟨"CellWorks$Reader", "expect", "(I)Z"⟩) ∈ jm_W := jm_ok (jm_in2 32 rfl) rfl
theorem wi_Rd_expect : (Cond.instanceMethod ⟨"CellWorks$Reader", "expect", "(I)Z"⟩) ∈ jm_W := jm_ok (jm_in2 34 rfl) rfl
theorem wc_Rd_expect : (Cond.code ⟨"CellWorks$Reader", "expect", "(I)Z"⟩ prog_6_method_8_code 2 (some FieldType.boolean)) ∈ jm_W := jm_ok (jm_in2 35 rfl) rfl
theorem lk_Rd_58 : (Cond.methodLink "CellWorks$Reader" 58 ⟨"CellWorks$Reader", "sum", "(I)Z"⟩) ∈ jm_W := jm_ok (jm_in2 36 rfl) rfl
theorem wi_Rd_sum : (Cond.instanceMethod ⟨"CellWorks$Reader", "sum", "(I)Z"⟩) ∈ jm_W := jm_ok (jm_in2 38 rfl) rfl
theorem wc_Rd_sum : (Cond.code ⟨"CellWorks$Reader", "sum", "(I)Z"⟩ prog_6_method_11_code 4 (some FieldType.boolean)) ∈ jm_W := jm_ok (jm_in2 39 rfl) rfl
theorem lk_Rd_77 : (Cond.methodLink "CellWorks$Reader" 77 ⟨"CellWorks$Reader", "product", "(I)Z"⟩) ∈ jm_W := jm_ok (jm_in2 40 rfl) rfl
theorem wi_Rd_product : (Cond.instanceMethod ⟨"CellWorks$Reader", "product", "(I)Z"⟩) ∈ jm_W := jm_ok (jm_in2 42 rfl) rfl
theorem wc_Rd_product : (Cond.code ⟨"CellWorks$Reader", "product", "(I)Z"⟩ prog_6_method_12_code 4 (some FieldType.boolean)) ∈ jm_W := jm_ok (jm_in2 43 rfl) rfl
theorem lk_Rd_86 : (Cond.methodLink "CellWorks$Reader" 86 ⟨"CellWorks$Reader", "part", "(I)Z"⟩) ∈ jm_W := jm_ok (jm_in2 44 rfl) rfl
theorem wi_Rd_part : (Cond.instanceMethod ⟨"CellWorks$Reader", "part", "(I)Z"⟩) ∈ jm_W := jm_ok (jm_in2 46 rfl) rfl
theorem wc_Rd_part : (Cond.code ⟨"CellWorks$Reader", "part", "(I)Z"⟩ prog_6_method_13_code 2 (some FieldType.boolean)) ∈ jm_W := jm_ok (jm_in2 47 rfl) rfl
theorem lk_Rd_83 : (Cond.methodLink "CellWorks$Reader" 83 ⟨"CellWorks$Formula", "addStep", "(II)V"⟩) ∈ jm_W := jm_ok (jm_in2 48 rfl) rfl
theorem wi_Fm_addStep : (Cond.instanceMethod ⟨"CellWorks$Formula", "addStep", "(II)V"⟩) ∈ jm_W := jm_ok (jm_in2 49 rfl) rfl
theorem ws_Fm_addStep : (Cond.selects "CellWorks$Formula" ⟨"CellWorks$Formula", "addStep", "(II)V"⟩ ⟨"CellWorks$Formula", "addStep", "(II)V"⟩) ∈ jm_W := jm_ok (jm_in2 50 rfl) rfl
theorem wc_Fm_addStep : (Cond.code ⟨"CellWorks$Formula", "addStep", "(II)V"⟩ prog_5_method_3_code 3 none) ∈ jm_W := jm_ok (jm_in2 51 rfl) rfl
theorem lk_Rd_80 : (Cond.methodLink "CellWorks$Reader" 80 ⟨"CellWorks$Reader", "passNode", "()Z"⟩) ∈ jm_W := jm_ok (jm_in2 52 rfl) rfl
theorem wi_Rd_passNode : (Cond.instanceMethod ⟨"CellWorks$Reader", "passNode", "()Z"⟩) ∈ jm_W := jm_ok (jm_in2 54 rfl) rfl
theorem wc_Rd_passNode : (Cond.code ⟨"CellWorks$Reader", "passNode", "()Z"⟩ prog_6_method_9_code 1 (some FieldType.boolean)) ∈ jm_W := jm_ok (jm_in2 55 rfl) rfl
theorem lk_Rd_92 : (Cond.methodLink "CellWorks$Reader" 92 ⟨"CellWorks$Reader", "noteName", "()V"⟩) ∈ jm_W := jm_ok (jm_in2 56 rfl) rfl
theorem wi_Rd_noteName : (Cond.instanceMethod ⟨"CellWorks$Reader", "noteName", "()V"⟩) ∈ jm_W := jm_ok (jm_in2 58 rfl) rfl
theorem wc_Rd_noteName : (Cond.code ⟨"CellWorks$Reader", "noteName", "()V"⟩ prog_6_method_14_code 2 none) ∈ jm_W := jm_ok (jm_in2 59 rfl) rfl
theorem lk_Rd_110 : (Cond.methodLink "CellWorks$Reader" 110 ⟨"CellWorks$Formula", "addName", "(J)V"⟩) ∈ jm_W := jm_ok (jm_in2 60 rfl) rfl
theorem wi_Fm_addName : (Cond.instanceMethod ⟨"CellWorks$Formula", "addName", "(J)V"⟩) ∈ jm_W := jm_ok (jm_in2 61 rfl) rfl
theorem ws_Fm_addName : (Cond.selects "CellWorks$Formula" ⟨"CellWorks$Formula", "addName", "(J)V"⟩ ⟨"CellWorks$Formula", "addName", "(J)V"⟩) ∈ jm_W := jm_ok (jm_in2 62 rfl) rfl
theorem wc_Fm_addName : (Cond.code ⟨"CellWorks$Formula", "addName", "(J)V"⟩ prog_5_method_4_code 3 none) ∈ jm_W := jm_ok (jm_in2 63 rfl) rfl
theorem lk_Fm_35 : (Cond.methodLink "CellWorks$Formula" 35 ⟨"CellWorks$Formula", "addStep", "(II)V"⟩) ∈ jm_W := jm_ok (jm_in2 64 rfl) rfl
theorem lk_Rd_95 : (Cond.methodLink "CellWorks$Reader" 95 ⟨"CellWorks$Reader", "negated", "(I)Z"⟩) ∈ jm_W := jm_ok (jm_in2 65 rfl) rfl
theorem wi_Rd_negated : (Cond.instanceMethod ⟨"CellWorks$Reader", "negated", "(I)Z"⟩) ∈ jm_W := jm_ok (jm_in2 67 rfl) rfl
theorem wc_Rd_negated : (Cond.code ⟨"CellWorks$Reader", "negated", "(I)Z"⟩ prog_6_method_15_code 2 (some FieldType.boolean)) ∈ jm_W := jm_ok (jm_in2 68 rfl) rfl
theorem lk_Rd_98 : (Cond.methodLink "CellWorks$Reader" 98 ⟨"CellWorks$Reader", "passOpening", "(I)Z"⟩) ∈ jm_W := jm_ok (jm_in2 69 rfl) rfl
theorem wi_Rd_passOpening : (Cond.instanceMethod ⟨"CellWorks$Reader", "passOpening", "(I)Z"⟩) ∈ jm_W := jm_ok (jm_in2 71 rfl) rfl
theorem wc_Rd_passOpening : (Cond.code ⟨"CellWorks$Reader", "passOpening", "(I)Z"⟩ prog_6_method_10_code 2 (some FieldType.boolean)) ∈ jm_W := jm_ok (jm_in2 72 rfl) rfl
theorem lk_Rd_101 : (Cond.methodLink "CellWorks$Reader" 101 ⟨"CellWorks$Reader", "lesserOrGreater", "(I)Z"⟩) ∈ jm_W := jm_ok (jm_in2 73 rfl) rfl
theorem wi_Rd_lesserOrGreater : (Cond.instanceMethod ⟨"CellWorks$Reader", "lesserOrGreater", "(I)Z"⟩) ∈ jm_W := jm_ok (jm_in2 75 rfl) rfl
theorem wc_Rd_lesserOrGreater : (Cond.code ⟨"CellWorks$Reader", "lesserOrGreater", "(I)Z"⟩ prog_6_method_16_code 3 (some FieldType.boolean)) ∈ jm_W := jm_ok (jm_in2 76 rfl) rfl
theorem lk_Rd_104 : (Cond.methodLink "CellWorks$Reader" 104 ⟨"CellWorks$Reader", "choice", "(I)Z"⟩) ∈ jm_W := jm_ok (jm_in2 77 rfl) rfl
theorem wi_Rd_choice : (Cond.instanceMethod ⟨"CellWorks$Reader", "choice", "(I)Z"⟩) ∈ jm_W := jm_ok (jm_in2 79 rfl) rfl
theorem wc_Rd_choice : (Cond.code ⟨"CellWorks$Reader", "choice", "(I)Z"⟩ prog_6_method_17_code 4 (some FieldType.boolean)) ∈ jm_W := jm_ok (jm_in2 80 rfl) rfl
theorem lk_Rd_117 : (Cond.methodLink "CellWorks$Reader" 117 ⟨"CellWorks$Formula", "aimHere", "(I)V"⟩) ∈ jm_W := jm_ok (jm_in2 81 rfl) rfl
theorem wi_Fm_aimHere : (Cond.instanceMethod ⟨"CellWorks$Formula", "aimHere", "(I)V"⟩) ∈ jm_W := jm_ok (jm_in2 82 rfl) rfl
theorem ws_Fm_aimHere : (Cond.selects "CellWorks$Formula" ⟨"CellWorks$Formula", "aimHere", "(I)V"⟩ ⟨"CellWorks$Formula", "aimHere", "(I)V"⟩) ∈ jm_W := jm_ok (jm_in2 83 rfl) rfl
theorem wc_Fm_aimHere : (Cond.code ⟨"CellWorks$Formula", "aimHere", "(I)V"⟩ prog_5_method_5_code 2 none) ∈ jm_W := jm_ok (jm_in2 84 rfl) rfl
theorem lk_CW_60 : (Cond.methodLink "CellWorks" 60 ⟨"CellWorks", "settle", "()V"⟩) ∈ jm_W := jm_ok (jm_in2 85 rfl) rfl
theorem wi_CW_settle : (Cond.instanceMethod ⟨"CellWorks", "settle", "()V"⟩) ∈ jm_W := jm_ok (jm_in2 87 rfl) rfl
theorem wc_CW_settle : (Cond.code ⟨"CellWorks", "settle", "()V"⟩ prog_1_method_15_code 3 none) ∈ jm_W := jm_ok (jm_in2 88 rfl) rfl
theorem lk_CW_88 : (Cond.methodLink "CellWorks" 88 ⟨"CellWorks$Cells", "find", "(J)LCellWorks$Cell;"⟩) ∈ jm_W := jm_ok (jm_in2 89 rfl) rfl
theorem wi_Cs_find : (Cond.instanceMethod ⟨"CellWorks$Cells", "find", "(J)LCellWorks$Cell;"⟩) ∈ jm_W := jm_ok (jm_in2 90 rfl) rfl
theorem ws_Cs_find : (Cond.selects "CellWorks$Cells" ⟨"CellWorks$Cells", "find", "(J)LCellWorks$Cell;"⟩ ⟨"CellWorks$Cells", "find", "(J)LCellWorks$Cell;"⟩) ∈ jm_W := jm_ok (jm_in2 91 rfl) rfl
theorem wc_Cs_find : (Cond.code ⟨"CellWorks$Cells", "find", "(J)LCellWorks$Cell;"⟩ prog_4_method_4_code 4 (some (FieldType.object "CellWorks$Cell"))) ∈ jm_W := jm_ok (jm_in2 92 rfl) rfl
theorem lk_Cs_33 : (Cond.methodLink "CellWorks$Cells" 33 ⟨"CellWorks$Cells", "indexOf", "(J)I"⟩) ∈ jm_W := jm_ok (jm_in2 93 rfl) rfl
theorem wi_Cs_indexOf : (Cond.instanceMethod ⟨"CellWorks$Cells", "indexOf", "(J)I"⟩) ∈ jm_W := jm_ok (jm_in2 94 rfl) rfl
theorem ws_Cs_indexOf : (Cond.selects "CellWorks$Cells" ⟨"CellWorks$Cells", "indexOf", "(J)I"⟩ ⟨"CellWorks$Cells", "indexOf", "(J)I"⟩) ∈ jm_W := jm_ok (jm_in2 95 rfl) rfl
theorem wc_Cs_indexOf : (Cond.code ⟨"CellWorks$Cells", "indexOf", "(J)I"⟩ prog_4_method_3_code 4 (some FieldType.int)) ∈ jm_W := jm_ok (jm_in2 96 rfl) rfl
theorem lk_Cs_29 : (Cond.methodLink "CellWorks$Cells" 29 ⟨"CellWorks$Cells", "placeFor", "(J)I"⟩) ∈ jm_W := jm_ok (jm_in2 97 rfl) rfl
theorem wi_Cs_placeFor : (Cond.instanceMethod ⟨"CellWorks$Cells", "placeFor", "(J)I"⟩) ∈ jm_W := jm_ok (jm_in2 99 rfl) rfl
theorem wc_Cs_placeFor : (Cond.code ⟨"CellWorks$Cells", "placeFor", "(J)I"⟩ prog_4_method_2_code 5 (some FieldType.int)) ∈ jm_W := jm_ok (jm_in2 100 rfl) rfl
theorem lk_CW_153 : (Cond.methodLink "CellWorks" 153 ⟨"CellWorks$Reader", "refuseAt", "(II)V"⟩) ∈ jm_W := jm_ok (jm_in2 101 rfl) rfl
theorem lk_CW_161 : (Cond.methodLink "CellWorks" 161 ⟨"CellWorks$Cells", "firstInCircle", "(JLCellWorks$Formula;)I"⟩) ∈ jm_W := jm_ok (jm_in2 102 rfl) rfl
theorem wi_Cs_firstInCircle : (Cond.instanceMethod ⟨"CellWorks$Cells", "firstInCircle", "(JLCellWorks$Formula;)I"⟩) ∈ jm_W := jm_ok (jm_in2 103 rfl) rfl
theorem ws_Cs_firstInCircle : (Cond.selects "CellWorks$Cells" ⟨"CellWorks$Cells", "firstInCircle", "(JLCellWorks$Formula;)I"⟩ ⟨"CellWorks$Cells", "firstInCircle", "(JLCellWorks$Formula;)I"⟩) ∈ jm_W := jm_ok (jm_in2 104 rfl) rfl
theorem wc_Cs_firstInCircle : (Cond.code ⟨"CellWorks$Cells", "firstInCircle", "(JLCellWorks$Formula;)I"⟩ prog_4_method_17_code 8 (some FieldType.int)) ∈ jm_W := jm_ok (jm_in2 105 rfl) rfl
theorem lk_Cs_92 : (Cond.methodLink "CellWorks$Cells" 92 ⟨"CellWorks$Cells", "dependents", "(J)J"⟩) ∈ jm_W := jm_ok (jm_in2 106 rfl) rfl
theorem wi_Cs_dependents : (Cond.instanceMethod ⟨"CellWorks$Cells", "dependents", "(J)J"⟩) ∈ jm_W := jm_ok (jm_in2 107 rfl) rfl
theorem ws_Cs_dependents : (Cond.selects "CellWorks$Cells" ⟨"CellWorks$Cells", "dependents", "(J)J"⟩ ⟨"CellWorks$Cells", "dependents", "(J)J"⟩) ∈ jm_W := jm_ok (jm_in2 108 rfl) rfl
theorem wc_Cs_dependents : (Cond.code ⟨"CellWorks$Cells", "dependents", "(J)J"⟩ prog_4_method_15_code 9 (some FieldType.long)) ∈ jm_W := jm_ok (jm_in2 109 rfl) rfl
theorem lk_Cs_85 : (Cond.methodLink "CellWorks$Cells" 85 ⟨"CellWorks$Cells", "directReaders", "(J)J"⟩) ∈ jm_W := jm_ok (jm_in2 110 rfl) rfl
theorem wi_Cs_directReaders : (Cond.instanceMethod ⟨"CellWorks$Cells", "directReaders", "(J)J"⟩) ∈ jm_W := jm_ok (jm_in2 111 rfl) rfl
theorem ws_Cs_directReaders : (Cond.selects "CellWorks$Cells" ⟨"CellWorks$Cells", "directReaders", "(J)J"⟩ ⟨"CellWorks$Cells", "directReaders", "(J)J"⟩) ∈ jm_W := jm_ok (jm_in2 112 rfl) rfl
theorem wc_Cs_directReaders : (Cond.code ⟨"CellWorks$Cells", "directReaders", "(J)J"⟩ prog_4_method_14_code 6 (some FieldType.long)) ∈ jm_W := jm_ok (jm_in2 113 rfl) rfl
theorem lk_Cs_81 : (Cond.methodLink "CellWorks$Cells" 81 ⟨"CellWorks$Formula", "mentions", "(J)Z"⟩) ∈ jm_W := jm_ok (jm_in2 114 rfl) rfl
theorem wi_Fm_mentions : (Cond.instanceMethod ⟨"CellWorks$Formula", "mentions", "(J)Z"⟩) ∈ jm_W := jm_ok (jm_in2 115 rfl) rfl
theorem ws_Fm_mentions : (Cond.selects "CellWorks$Formula" ⟨"CellWorks$Formula", "mentions", "(J)Z"⟩ ⟨"CellWorks$Formula", "mentions", "(J)Z"⟩) ∈ jm_W := jm_ok (jm_in2 116 rfl) rfl
theorem wc_Fm_mentions : (Cond.code ⟨"CellWorks$Formula", "mentions", "(J)Z"⟩ prog_5_method_6_code 4 (some FieldType.boolean)) ∈ jm_W := jm_ok (jm_in2 117 rfl) rfl
theorem lk_Cs_89 : (Cond.methodLink "CellWorks$Cells" 89 ⟨"CellWorks$Cells", "trace", "()V"⟩) ∈ jm_W := jm_ok (jm_in2 118 rfl) rfl
theorem wi_Cs_trace : (Cond.instanceMethod ⟨"CellWorks$Cells", "trace", "()V"⟩) ∈ jm_W := jm_ok (jm_in2 120 rfl) rfl
theorem wc_Cs_trace : (Cond.code ⟨"CellWorks$Cells", "trace", "()V"⟩ prog_4_method_13_code 7 none) ∈ jm_W := jm_ok (jm_in2 121 rfl) rfl
theorem lk_CW_165 : (Cond.methodLink "CellWorks" 165 ⟨"CellWorks$Reader", "placeOfName", "(I)I"⟩) ∈ jm_W := jm_ok (jm_in2 122 rfl) rfl
theorem wi_Rd_placeOfName : (Cond.instanceMethod ⟨"CellWorks$Reader", "placeOfName", "(I)I"⟩) ∈ jm_W := jm_ok (jm_in2 123 rfl) rfl
theorem ws_Rd_placeOfName : (Cond.selects "CellWorks$Reader" ⟨"CellWorks$Reader", "placeOfName", "(I)I"⟩ ⟨"CellWorks$Reader", "placeOfName", "(I)I"⟩) ∈ jm_W := jm_ok (jm_in2 124 rfl) rfl
theorem wc_Rd_placeOfName : (Cond.code ⟨"CellWorks$Reader", "placeOfName", "(I)I"⟩ prog_6_method_3_code 2 (some FieldType.int)) ∈ jm_W := jm_ok (jm_in2 125 rfl) rfl
theorem lk_CW_97 : (Cond.classLink "CellWorks" 97 "CellWorks$Cell") ∈ jm_W := jm_ok (jm_in2 126 rfl) rfl
theorem wk_Cl : (Cond.instantiable "CellWorks$Cell" 5) ∈ jm_W := jm_ok (jm_in2 127 rfl) rfl
theorem lk_CW_169 : (Cond.classLink "CellWorks" 169 "CellWorks$Formula") ∈ jm_W := jm_ok (jm_in2 128 rfl) rfl
theorem lk_CW_171 : (Cond.methodLinkNest "CellWorks" 171 ⟨"CellWorks$Formula", "<init>", "()V"⟩ "CellWorks") ∈ lw_tbl := jm_in2 129 rfl
theorem lk_CW_172 : (Cond.methodLink "CellWorks" 172 ⟨"CellWorks$Reader", "exchangeFormula", "(LCellWorks$Formula;)LCellWorks$Formula;"⟩) ∈ jm_W := jm_ok (jm_in2 130 rfl) rfl
theorem wi_Rd_exchangeFormula : (Cond.instanceMethod ⟨"CellWorks$Reader", "exchangeFormula", "(LCellWorks$Formula;)LCellWorks$Formula;"⟩) ∈ jm_W := jm_ok (jm_in2 131 rfl) rfl
theorem ws_Rd_exchangeFormula : (Cond.selects "CellWorks$Reader" ⟨"CellWorks$Reader", "exchangeFormula", "(LCellWorks$Formula;)LCellWorks$Formula;"⟩ ⟨"CellWorks$Reader", "exchangeFormula", "(LCellWorks$Formula;)LCellWorks$Formula;"⟩) ∈ jm_W := jm_ok (jm_in2 132 rfl) rfl
theorem wc_Rd_exchangeFormula : (Cond.code ⟨"CellWorks$Reader", "exchangeFormula", "(LCellWorks$Formula;)LCellWorks$Formula;"⟩ prog_6_method_4_code 3 (some (FieldType.object "CellWorks$Formula"))) ∈ jm_W := jm_ok (jm_in2 133 rfl) rfl
theorem lk_CW_176 : (Cond.methodLink "CellWorks" 176 ⟨"CellWorks$Cell", "<init>", "(JLCellWorks$Formula;)V"⟩) ∈ jm_W := jm_ok (jm_in2 134 rfl) rfl
theorem wi_Cl_init : (Cond.instanceMethod ⟨"CellWorks$Cell", "<init>", "(JLCellWorks$Formula;)V"⟩) ∈ jm_W := jm_ok (jm_in2 135 rfl) rfl
theorem wc_Cl_init : (Cond.code ⟨"CellWorks$Cell", "<init>", "(JLCellWorks$Formula;)V"⟩ prog_3_method_1_code 4 none) ∈ jm_W := jm_ok (jm_in2 136 rfl) rfl
theorem lk_Cl_3 : (Cond.methodLink "CellWorks$Cell" 3 ⟨"java/lang/Object", "<init>", "()V"⟩) ∈ jm_W := jm_ok (jm_in2 137 rfl) rfl
theorem lk_Cl_23 : (Cond.fieldLink "CellWorks$Cell" 23 "CellWorks$Cell" "name" "J") ∈ jm_W := jm_ok (jm_in2 138 rfl) rfl
theorem lk_Cs_25 : (Cond.fieldLink "CellWorks$Cells" 25 "CellWorks$Cell" "name" "J") ∈ jm_W := jm_ok (jm_in2 139 rfl) rfl
theorem lk_Bd_85 : (Cond.fieldLink "CellWorks$Builder" 85 "CellWorks$Cell" "name" "J") ∈ jm_W := jm_ok (jm_in2 140 rfl) rfl
theorem lk_Cl_26 : (Cond.fieldLink "CellWorks$Cell" 26 "CellWorks$Cell" "formula" "LCellWorks$Formula;") ∈ jm_W := jm_ok (jm_in2 141 rfl) rfl
theorem lk_Bd_59 : (Cond.fieldLink "CellWorks$Builder" 59 "CellWorks$Cell" "formula" "LCellWorks$Formula;") ∈ jm_W := jm_ok (jm_in2 142 rfl) rfl
theorem lk_Cs_46 : (Cond.fieldLink "CellWorks$Cells" 46 "CellWorks$Cell" "formula" "LCellWorks$Formula;") ∈ jm_W := jm_ok (jm_in2 143 rfl) rfl
theorem lk_CW_183 : (Cond.fieldLink "CellWorks" 183 "CellWorks$Cell" "formula" "LCellWorks$Formula;") ∈ jm_W := jm_ok (jm_in2 144 rfl) rfl
theorem lk_Cl_9 : (Cond.fieldLink "CellWorks$Cell" 9 "CellWorks$Cell" "workedOut" "Z") ∈ jm_W := jm_ok (jm_in2 145 rfl) rfl
theorem lk_Bd_81 : (Cond.fieldLink "CellWorks$Builder" 81 "CellWorks$Cell" "workedOut" "Z") ∈ jm_W := jm_ok (jm_in2 146 rfl) rfl
theorem lk_Cs_42 : (Cond.fieldLink "CellWorks$Cells" 42 "CellWorks$Cell" "workedOut" "Z") ∈ jm_W := jm_ok (jm_in2 147 rfl) rfl
theorem lk_CW_184 : (Cond.fieldLink "CellWorks" 184 "CellWorks$Cell" "workedOut" "Z") ∈ jm_W := jm_ok (jm_in2 148 rfl) rfl
theorem lk_Cl_15 : (Cond.fieldLink "CellWorks$Cell" 15 "CellWorks$Cell" "kind" "I") ∈ jm_W := jm_ok (jm_in2 149 rfl) rfl
theorem lk_Bd_75 : (Cond.fieldLink "CellWorks$Builder" 75 "CellWorks$Cell" "kind" "I") ∈ jm_W := jm_ok (jm_in2 150 rfl) rfl
theorem lk_Cs_36 : (Cond.fieldLink "CellWorks$Cells" 36 "CellWorks$Cell" "kind" "I") ∈ jm_W := jm_ok (jm_in2 151 rfl) rfl
theorem lk_CW_96 : (Cond.fieldLink "CellWorks" 96 "CellWorks$Cell" "kind" "I") ∈ jm_W := jm_ok (jm_in2 152 rfl) rfl
theorem lk_Cl_19 : (Cond.fieldLink "CellWorks$Cell" 19 "CellWorks$Cell" "value" "J") ∈ jm_W := jm_ok (jm_in2 153 rfl) rfl
theorem lk_Bd_80 : (Cond.fieldLink "CellWorks$Builder" 80 "CellWorks$Cell" "value" "J") ∈ jm_W := jm_ok (jm_in2 154 rfl) rfl
theorem lk_Cs_39 : (Cond.fieldLink "CellWorks$Cells" 39 "CellWorks$Cell" "value" "J") ∈ jm_W := jm_ok (jm_in2 155 rfl) rfl
theorem wl_Cl_name : (Cond.laysFinal "CellWorks$Cell" "CellWorks$Cell" "name" "J") ∈ jm_W := jm_ok (jm_in2 156 rfl) rfl
theorem wl_Cl_formula : (Cond.lays "CellWorks$Cell" "CellWorks$Cell" "formula" "LCellWorks$Formula;") ∈ jm_W := jm_ok (jm_in2 158 rfl) rfl
theorem wl_Cl_workedOut : (Cond.lays "CellWorks$Cell" "CellWorks$Cell" "workedOut" "Z") ∈ jm_W := jm_ok (jm_in2 160 rfl) rfl
theorem wl_Cl_kind : (Cond.lays "CellWorks$Cell" "CellWorks$Cell" "kind" "I") ∈ jm_W := jm_ok (jm_in2 162 rfl) rfl
theorem wl_Cl_value : (Cond.lays "CellWorks$Cell" "CellWorks$Cell" "value" "J") ∈ jm_W := jm_ok (jm_in2 164 rfl) rfl
theorem lk_CW_179 : (Cond.methodLink "CellWorks" 179 ⟨"CellWorks$Cells", "insert", "(LCellWorks$Cell;)V"⟩) ∈ jm_W := jm_ok (jm_in2 167 rfl) rfl
theorem wi_Cs_insert : (Cond.instanceMethod ⟨"CellWorks$Cells", "insert", "(LCellWorks$Cell;)V"⟩) ∈ jm_W := jm_ok (jm_in2 168 rfl) rfl
theorem ws_Cs_insert : (Cond.selects "CellWorks$Cells" ⟨"CellWorks$Cells", "insert", "(LCellWorks$Cell;)V"⟩ ⟨"CellWorks$Cells", "insert", "(LCellWorks$Cell;)V"⟩) ∈ jm_W := jm_ok (jm_in2 169 rfl) rfl
theorem wc_Cs_insert : (Cond.code ⟨"CellWorks$Cells", "insert", "(LCellWorks$Cell;)V"⟩ prog_4_method_5_code 4 none) ∈ jm_W := jm_ok (jm_in2 170 rfl) rfl
theorem lk_Lw_73 : (Cond.methodLink "CellWorksLaw" 73 ⟨"CellWorks", "fault", "()I"⟩) ∈ jm_W := jm_ok (jm_in2 171 rfl) rfl
theorem wi_CW_fault : (Cond.instanceMethod ⟨"CellWorks", "fault", "()I"⟩) ∈ jm_W := jm_ok (jm_in2 172 rfl) rfl
theorem ws_CW_fault : (Cond.selects "CellWorks" ⟨"CellWorks", "fault", "()I"⟩ ⟨"CellWorks", "fault", "()I"⟩) ∈ jm_W := jm_ok (jm_in2 173 rfl) rfl
theorem wc_CW_fault : (Cond.code ⟨"CellWorks", "fault", "()I"⟩ prog_1_method_5_code 1 (some FieldType.int)) ∈ jm_W := jm_ok (jm_in2 174 rfl) rfl
theorem lk_Lw_84 : (Cond.methodLink "CellWorksLaw" 84 ⟨"CellWorks", "buildAll", "()I"⟩) ∈ jm_W := jm_ok (jm_in2 175 rfl) rfl
theorem wi_CW_buildAll : (Cond.instanceMethod ⟨"CellWorks", "buildAll", "()I"⟩) ∈ jm_W := jm_ok (jm_in2 176 rfl) rfl
theorem ws_CW_buildAll : (Cond.selects "CellWorks" ⟨"CellWorks", "buildAll", "()I"⟩ ⟨"CellWorks", "buildAll", "()I"⟩) ∈ jm_W := jm_ok (jm_in2 177 rfl) rfl
theorem wc_CW_buildAll : (Cond.code ⟨"CellWorks", "buildAll", "()I"⟩ prog_1_method_8_code 1 (some FieldType.int)) ∈ jm_W := jm_ok (jm_in2 178 rfl) rfl
theorem lk_CW_85 : (Cond.methodLink "CellWorks" 85 ⟨"CellWorks$Cells", "all", "()J"⟩) ∈ jm_W := jm_ok (jm_in2 179 rfl) rfl
theorem wi_Cs_all : (Cond.instanceMethod ⟨"CellWorks$Cells", "all", "()J"⟩) ∈ jm_W := jm_ok (jm_in2 180 rfl) rfl
theorem ws_Cs_all : (Cond.selects "CellWorks$Cells" ⟨"CellWorks$Cells", "all", "()J"⟩ ⟨"CellWorks$Cells", "all", "()J"⟩) ∈ jm_W := jm_ok (jm_in2 181 rfl) rfl
theorem wc_Cs_all : (Cond.code ⟨"CellWorks$Cells", "all", "()J"⟩ prog_4_method_12_code 4 (some FieldType.long)) ∈ jm_W := jm_ok (jm_in2 182 rfl) rfl
theorem lk_CW_81 : (Cond.methodLink "CellWorks" 81 ⟨"CellWorks$Builder", "run", "(LCellWorks$Cells;J)I"⟩) ∈ jm_W := jm_ok (jm_in2 183 rfl) rfl
theorem wi_Bd_run : (Cond.instanceMethod ⟨"CellWorks$Builder", "run", "(LCellWorks$Cells;J)I"⟩) ∈ jm_W := jm_ok (jm_in2 184 rfl) rfl
theorem ws_Bd_run : (Cond.selects "CellWorks$Builder" ⟨"CellWorks$Builder", "run", "(LCellWorks$Cells;J)I"⟩ ⟨"CellWorks$Builder", "run", "(LCellWorks$Cells;J)I"⟩) ∈ jm_W := jm_ok (jm_in2 185 rfl) rfl
theorem wc_Bd_run : (Cond.code ⟨"CellWorks$Builder", "run", "(LCellWorks$Cells;J)I"⟩ prog_2_method_2_code 14 (some FieldType.int)) ∈ jm_W := jm_ok (jm_in2 186 rfl) rfl
theorem lk_Bd_29 : (Cond.methodLink "CellWorks$Builder" 29 ⟨"CellWorks$Cells", "withGround", "(J)J"⟩) ∈ jm_W := jm_ok (jm_in2 187 rfl) rfl
theorem wi_Cs_withGround : (Cond.instanceMethod ⟨"CellWorks$Cells", "withGround", "(J)J"⟩) ∈ jm_W := jm_ok (jm_in2 188 rfl) rfl
theorem ws_Cs_withGround : (Cond.selects "CellWorks$Cells" ⟨"CellWorks$Cells", "withGround", "(J)J"⟩ ⟨"CellWorks$Cells", "withGround", "(J)J"⟩) ∈ jm_W := jm_ok (jm_in2 189 rfl) rfl
theorem wc_Cs_withGround : (Cond.code ⟨"CellWorks$Cells", "withGround", "(J)J"⟩ prog_4_method_16_code 9 (some FieldType.long)) ∈ jm_W := jm_ok (jm_in2 190 rfl) rfl
theorem lk_Bd_38 : (Cond.constantLong "CellWorks$Builder" 38 (-1 : Int64)) ∈ jm_W := jm_ok (jm_in2 191 rfl) rfl
theorem lk_Bd_47 : (Cond.methodLink "CellWorks$Builder" 47 ⟨"CellWorks$Cells", "isStale", "(LCellWorks$Cell;)Z"⟩) ∈ jm_W := jm_ok (jm_in2 192 rfl) rfl
theorem wi_Cs_isStale : (Cond.instanceMethod ⟨"CellWorks$Cells", "isStale", "(LCellWorks$Cell;)Z"⟩) ∈ jm_W := jm_ok (jm_in2 193 rfl) rfl
theorem ws_Cs_isStale : (Cond.selects "CellWorks$Cells" ⟨"CellWorks$Cells", "isStale", "(LCellWorks$Cell;)Z"⟩ ⟨"CellWorks$Cells", "isStale", "(LCellWorks$Cell;)Z"⟩) ∈ jm_W := jm_ok (jm_in2 194 rfl) rfl
theorem wc_Cs_isStale : (Cond.code ⟨"CellWorks$Cells", "isStale", "(LCellWorks$Cell;)Z"⟩ prog_4_method_9_code 5 (some FieldType.boolean)) ∈ jm_W := jm_ok (jm_in2 195 rfl) rfl
theorem lk_Cs_58 : (Cond.methodLink "CellWorks$Cells" 58 ⟨"CellWorks$Cells", "find", "(J)LCellWorks$Cell;"⟩) ∈ jm_W := jm_ok (jm_in2 196 rfl) rfl
theorem lk_Cs_66 : (Cond.methodLink "CellWorks$Cells" 66 ⟨"CellWorks$Cells", "kindOf", "(LCellWorks$Cell;)I"⟩) ∈ jm_W := jm_ok (jm_in2 197 rfl) rfl
theorem wi_Cs_kindOf : (Cond.instanceMethod ⟨"CellWorks$Cells", "kindOf", "(LCellWorks$Cell;)I"⟩) ∈ jm_W := jm_ok (jm_in2 198 rfl) rfl
theorem ws_Cs_kindOf : (Cond.selects "CellWorks$Cells" ⟨"CellWorks$Cells", "kindOf", "(LCellWorks$Cell;)I"⟩ ⟨"CellWorks$Cells", "kindOf", "(LCellWorks$Cell;)I"⟩) ∈ jm_W := jm_ok (jm_in2 199 rfl) rfl
theorem wc_Cs_kindOf : (Cond.code ⟨"CellWorks$Cells", "kindOf", "(LCellWorks$Cell;)I"⟩ prog_4_method_7_code 2 (some FieldType.int)) ∈ jm_W := jm_ok (jm_in2 200 rfl) rfl
theorem lk_Cs_73 : (Cond.methodLink "CellWorks$Cells" 73 ⟨"CellWorks$Cells", "valueOf", "(LCellWorks$Cell;)J"⟩) ∈ jm_W := jm_ok (jm_in2 201 rfl) rfl
theorem wi_Cs_valueOf : (Cond.instanceMethod ⟨"CellWorks$Cells", "valueOf", "(LCellWorks$Cell;)J"⟩) ∈ jm_W := jm_ok (jm_in2 202 rfl) rfl
theorem ws_Cs_valueOf : (Cond.selects "CellWorks$Cells" ⟨"CellWorks$Cells", "valueOf", "(LCellWorks$Cell;)J"⟩ ⟨"CellWorks$Cells", "valueOf", "(LCellWorks$Cell;)J"⟩) ∈ jm_W := jm_ok (jm_in2 203 rfl) rfl
theorem wc_Cs_valueOf : (Cond.code ⟨"CellWorks$Cells", "valueOf", "(LCellWorks$Cell;)J"⟩ prog_4_method_8_code 2 (some FieldType.long)) ∈ jm_W := jm_ok (jm_in2 204 rfl) rfl
theorem lk_Bd_51 : (Cond.methodLink "CellWorks$Builder" 51 ⟨"CellWorks$Builder", "workOut", "(LCellWorks$Cells;LCellWorks$Cell;)V"⟩) ∈ jm_W := jm_ok (jm_in2 205 rfl) rfl
theorem wi_Bd_workOut : (Cond.instanceMethod ⟨"CellWorks$Builder", "workOut", "(LCellWorks$Cells;LCellWorks$Cell;)V"⟩) ∈ jm_W := jm_ok (jm_in2 207 rfl) rfl
theorem wc_Bd_workOut : (Cond.code ⟨"CellWorks$Builder", "workOut", "(LCellWorks$Cells;LCellWorks$Cell;)V"⟩ prog_2_method_3_code 3 none) ∈ jm_W := jm_ok (jm_in2 208 rfl) rfl
theorem lk_Bd_65 : (Cond.methodLink "CellWorks$Builder" 65 ⟨"CellWorks$Cells", "look", "(LCellWorks$Formula;)V"⟩) ∈ jm_W := jm_ok (jm_in2 209 rfl) rfl
theorem wi_Cs_look : (Cond.instanceMethod ⟨"CellWorks$Cells", "look", "(LCellWorks$Formula;)V"⟩) ∈ jm_W := jm_ok (jm_in2 210 rfl) rfl
theorem ws_Cs_look : (Cond.selects "CellWorks$Cells" ⟨"CellWorks$Cells", "look", "(LCellWorks$Formula;)V"⟩ ⟨"CellWorks$Cells", "look", "(LCellWorks$Formula;)V"⟩) ∈ jm_W := jm_ok (jm_in2 211 rfl) rfl
theorem wc_Cs_look : (Cond.code ⟨"CellWorks$Cells", "look", "(LCellWorks$Formula;)V"⟩ prog_4_method_10_code 4 none) ∈ jm_W := jm_ok (jm_in2 212 rfl) rfl
theorem lk_Bd_69 : (Cond.methodLink "CellWorks$Builder" 69 ⟨"CellWorks$Work", "run", "(LCellWorks$Formula;)V"⟩) ∈ jm_W := jm_ok (jm_in2 213 rfl) rfl
theorem wi_Wk_run : (Cond.instanceMethod ⟨"CellWorks$Work", "run", "(LCellWorks$Formula;)V"⟩) ∈ jm_W := jm_ok (jm_in2 214 rfl) rfl
theorem ws_Wk_run : (Cond.selects "CellWorks$Work" ⟨"CellWorks$Work", "run", "(LCellWorks$Formula;)V"⟩ ⟨"CellWorks$Work", "run", "(LCellWorks$Formula;)V"⟩) ∈ jm_W := jm_ok (jm_in2 215 rfl) rfl
theorem wc_Wk_run : (Cond.code ⟨"CellWorks$Work", "run", "(LCellWorks$Formula;)V"⟩ prog_8_method_2_code 4 none) ∈ jm_W := jm_ok (jm_in2 216 rfl) rfl
theorem lk_Wk_38 : (Cond.methodLink "CellWorks$Work" 38 ⟨"CellWorks$Work", "take", "(LCellWorks$Formula;III)I"⟩) ∈ jm_W := jm_ok (jm_in2 217 rfl) rfl
theorem wi_Wk_take : (Cond.instanceMethod ⟨"CellWorks$Work", "take", "(LCellWorks$Formula;III)I"⟩) ∈ jm_W := jm_ok (jm_in2 219 rfl) rfl
theorem wc_Wk_take : (Cond.code ⟨"CellWorks$Work", "take", "(LCellWorks$Formula;III)I"⟩ prog_8_method_3_code 9 (some FieldType.int)) ∈ jm_W := jm_ok (jm_in2 220 rfl) rfl
theorem lk_Wk_46 : (Cond.methodLink "CellWorks$Work" 46 ⟨"CellWorks$Work", "push", "(J)V"⟩) ∈ jm_W := jm_ok (jm_in2 221 rfl) rfl
theorem wi_Wk_push : (Cond.instanceMethod ⟨"CellWorks$Work", "push", "(J)V"⟩) ∈ jm_W := jm_ok (jm_in2 223 rfl) rfl
theorem wc_Wk_push : (Cond.code ⟨"CellWorks$Work", "push", "(J)V"⟩ prog_8_method_7_code 3 none) ∈ jm_W := jm_ok (jm_in2 224 rfl) rfl
theorem lk_Wk_50 : (Cond.methodLink "CellWorks$Work" 50 ⟨"CellWorks$Work", "pushResult", "(LCellWorks$Formula;I)V"⟩) ∈ jm_W := jm_ok (jm_in2 225 rfl) rfl
theorem wi_Wk_pushResult : (Cond.instanceMethod ⟨"CellWorks$Work", "pushResult", "(LCellWorks$Formula;I)V"⟩) ∈ jm_W := jm_ok (jm_in2 227 rfl) rfl
theorem wc_Wk_pushResult : (Cond.code ⟨"CellWorks$Work", "pushResult", "(LCellWorks$Formula;I)V"⟩ prog_8_method_4_code 3 none) ∈ jm_W := jm_ok (jm_in2 228 rfl) rfl
theorem lk_Wk_42 : (Cond.methodLink "CellWorks$Work" 42 ⟨"CellWorks$Work", "pop", "()J"⟩) ∈ jm_W := jm_ok (jm_in2 229 rfl) rfl
theorem wi_Wk_pop : (Cond.instanceMethod ⟨"CellWorks$Work", "pop", "()J"⟩) ∈ jm_W := jm_ok (jm_in2 231 rfl) rfl
theorem wc_Wk_pop : (Cond.code ⟨"CellWorks$Work", "pop", "()J"⟩ prog_8_method_8_code 1 (some FieldType.long)) ∈ jm_W := jm_ok (jm_in2 232 rfl) rfl
theorem lk_Wk_54 : (Cond.methodLink "CellWorks$Work" 54 ⟨"CellWorks$Work", "join", "(IJJ)V"⟩) ∈ jm_W := jm_ok (jm_in2 233 rfl) rfl
theorem wi_Wk_join : (Cond.instanceMethod ⟨"CellWorks$Work", "join", "(IJJ)V"⟩) ∈ jm_W := jm_ok (jm_in2 235 rfl) rfl
theorem wc_Wk_join : (Cond.code ⟨"CellWorks$Work", "join", "(IJJ)V"⟩ prog_8_method_5_code 6 none) ∈ jm_W := jm_ok (jm_in2 236 rfl) rfl
theorem lk_Wk_67 : (Cond.methodLink "CellWorks$Work" 67 ⟨"CellWorks$Work", "divide", "(JJ)V"⟩) ∈ jm_W := jm_ok (jm_in2 237 rfl) rfl
theorem wi_Wk_divide : (Cond.instanceMethod ⟨"CellWorks$Work", "divide", "(JJ)V"⟩) ∈ jm_W := jm_ok (jm_in2 239 rfl) rfl
theorem wc_Wk_divide : (Cond.code ⟨"CellWorks$Work", "divide", "(JJ)V"⟩ prog_8_method_6_code 5 none) ∈ jm_W := jm_ok (jm_in3 0 rfl) rfl
theorem lk_Wk_71 : (Cond.methodLink "CellWorks$Work" 71 ⟨"java/lang/Math", "min", "(JJ)J"⟩) ∈ jm_W := jm_ok (jm_in3 1 rfl) rfl
theorem wt_Ma_min : (Cond.static ⟨"java/lang/Math", "min", "(JJ)J"⟩) ∈ jm_W := jm_ok (jm_in3 2 rfl) rfl
theorem wc_Ma_min : (Cond.code ⟨"java/lang/Math", "min", "(JJ)J"⟩ prog_15_method_70_code 4 (some FieldType.long)) ∈ jm_W := jm_ok (jm_in3 3 rfl) rfl
theorem lk_Wk_77 : (Cond.methodLink "CellWorks$Work" 77 ⟨"java/lang/Math", "max", "(JJ)J"⟩) ∈ jm_W := jm_ok (jm_in3 4 rfl) rfl
theorem wt_Ma_max : (Cond.static ⟨"java/lang/Math", "max", "(JJ)J"⟩) ∈ jm_W := jm_ok (jm_in3 5 rfl) rfl
theorem wc_Ma_max : (Cond.code ⟨"java/lang/Math", "max", "(JJ)J"⟩ prog_15_method_66_code 4 (some FieldType.long)) ∈ jm_W := jm_ok (jm_in3 6 rfl) rfl
theorem lk_Bd_55 : (Cond.methodLink "CellWorks$Builder" 55 ⟨"CellWorks$Builder", "keepNames", "(LCellWorks$Cells;J)V"⟩) ∈ jm_W := jm_ok (jm_in3 7 rfl) rfl
theorem wi_Bd_keepNames : (Cond.instanceMethod ⟨"CellWorks$Builder", "keepNames", "(LCellWorks$Cells;J)V"⟩) ∈ jm_W := jm_ok (jm_in3 9 rfl) rfl
theorem wc_Bd_keepNames : (Cond.code ⟨"CellWorks$Builder", "keepNames", "(LCellWorks$Cells;J)V"⟩ prog_2_method_4_code 5 none) ∈ jm_W := jm_ok (jm_in3 10 rfl) rfl
theorem lk_Lw_56 : (Cond.methodLink "CellWorksLaw" 56 ⟨"CellWorksLaw", "feed", "(LCellWorks;IIIII[J)I"⟩) ∈ jm_W := jm_ok (jm_in3 11 rfl) rfl
theorem wt_Lw_feed : (Cond.static ⟨"CellWorksLaw", "feed", "(LCellWorks;IIIII[J)I"⟩) ∈ jm_W := jm_ok (jm_in3 12 rfl) rfl
theorem wc_Lw_feed : (Cond.codeWith ⟨"CellWorksLaw", "feed", "(LCellWorks;IIIII[J)I"⟩ method_3_code 8 (some FieldType.int) [(0, 16, 19, 13)]) ∈ jm_W := jm_ok (jm_in3 13 rfl) rfl
theorem lk_Lw_13 : (Cond.classLink "CellWorksLaw" 13 "java/lang/UnsupportedOperationException") ∈ jm_W := jm_ok (jm_in3 14 rfl) rfl
theorem lk_Lw_7 : (Cond.methodLink "CellWorksLaw" 7 ⟨"CellWorks", "feed", "(IIIII)I"⟩) ∈ jm_W := jm_ok (jm_in3 15 rfl) rfl
theorem wi_CW_feed : (Cond.instanceMethod ⟨"CellWorks", "feed", "(IIIII)I"⟩) ∈ jm_W := jm_ok (jm_in3 16 rfl) rfl
theorem ws_CW_feed : (Cond.selects "CellWorks" ⟨"CellWorks", "feed", "(IIIII)I"⟩ ⟨"CellWorks", "feed", "(IIIII)I"⟩) ∈ jm_W := jm_ok (jm_in3 17 rfl) rfl
theorem wc_CW_feed : (Cond.code ⟨"CellWorks", "feed", "(IIIII)I"⟩ prog_1_method_2_code 7 (some FieldType.int)) ∈ jm_W := jm_ok (jm_in3 18 rfl) rfl
theorem lk_CW_40 : (Cond.classLink "CellWorks" 40 "java/lang/UnsupportedOperationException") ∈ jm_W := jm_ok (jm_in3 19 rfl) rfl
theorem lk_CW_42 : (Cond.stringRef "CellWorks" 42 "the tape would have more than 2000 bytes") ∈ lw_tbl := jm_in3 61 rfl
theorem lk_CW_44 : (Cond.methodLink "CellWorks" 44 ⟨"java/lang/UnsupportedOperationException", "<init>", "(Ljava/lang/String;)V"⟩) ∈ jm_W := jm_ok (jm_in3 62 rfl) rfl
theorem lk_CW_47 : (Cond.methodLink "CellWorks" 47 ⟨"CellWorks$Tape", "add", "(I)V"⟩) ∈ jm_W := jm_ok (jm_in3 87 rfl) rfl
theorem wi_Tp_add : (Cond.instanceMethod ⟨"CellWorks$Tape", "add", "(I)V"⟩) ∈ jm_W := jm_ok (jm_in3 88 rfl) rfl
theorem ws_Tp_add : (Cond.selects "CellWorks$Tape" ⟨"CellWorks$Tape", "add", "(I)V"⟩ ⟨"CellWorks$Tape", "add", "(I)V"⟩) ∈ jm_W := jm_ok (jm_in3 89 rfl) rfl
theorem wc_Tp_add : (Cond.code ⟨"CellWorks$Tape", "add", "(I)V"⟩ prog_7_method_2_code 3 none) ∈ jm_W := jm_ok (jm_in3 90 rfl) rfl
theorem lk_Lw_65 : (Cond.methodLink "CellWorksLaw" 65 ⟨"CellWorksLaw", "end", "(LCellWorks;I)I"⟩) ∈ jm_W := jm_ok (jm_in3 91 rfl) rfl
theorem wt_Lw_end : (Cond.static ⟨"CellWorksLaw", "end", "(LCellWorks;I)I"⟩) ∈ jm_W := jm_ok (jm_in3 92 rfl) rfl
theorem wc_Lw_end : (Cond.codeWith ⟨"CellWorksLaw", "end", "(LCellWorks;I)I"⟩ method_4_code 3 (some FieldType.int) [(0, 5, 8, 19)]) ∈ jm_W := jm_ok (jm_in3 93 rfl) rfl
theorem lk_Lw_19 : (Cond.classLink "CellWorksLaw" 19 "java/lang/IllegalArgumentException") ∈ jm_W := jm_ok (jm_in3 94 rfl) rfl
theorem lk_Lw_15 : (Cond.methodLink "CellWorksLaw" 15 ⟨"CellWorks", "end", "(I)V"⟩) ∈ jm_W := jm_ok (jm_in3 95 rfl) rfl
theorem wi_CW_end : (Cond.instanceMethod ⟨"CellWorks", "end", "(I)V"⟩) ∈ jm_W := jm_ok (jm_in3 96 rfl) rfl
theorem ws_CW_end : (Cond.selects "CellWorks" ⟨"CellWorks", "end", "(I)V"⟩ ⟨"CellWorks", "end", "(I)V"⟩) ∈ jm_W := jm_ok (jm_in3 97 rfl) rfl
theorem wc_CW_end : (Cond.code ⟨"CellWorks", "end", "(I)V"⟩ prog_1_method_3_code 2 none) ∈ jm_W := jm_ok (jm_in3 98 rfl) rfl
theorem lk_CW_51 : (Cond.classLink "CellWorks" 51 "java/lang/IllegalArgumentException") ∈ jm_W := jm_ok (jm_in3 99 rfl) rfl
theorem lk_CW_53 : (Cond.stringRef "CellWorks" 53 "the tape has not so many bytes") ∈ lw_tbl := jm_in3 108 rfl
theorem lk_CW_55 : (Cond.methodLink "CellWorks" 55 ⟨"java/lang/IllegalArgumentException", "<init>", "(Ljava/lang/String;)V"⟩) ∈ jm_W := jm_ok (jm_in3 109 rfl) rfl
theorem lk_Lw_77 : (Cond.methodLink "CellWorksLaw" 77 ⟨"CellWorksLaw", "remove", "(LCellWorks;[J)I"⟩) ∈ jm_W := jm_ok (jm_in3 115 rfl) rfl
theorem wt_Lw_remove : (Cond.static ⟨"CellWorksLaw", "remove", "(LCellWorks;[J)I"⟩) ∈ jm_W := jm_ok (jm_in3 116 rfl) rfl
theorem wc_Lw_remove : (Cond.codeWith ⟨"CellWorksLaw", "remove", "(LCellWorks;[J)I"⟩ method_5_code 3 (some FieldType.int) [(0, 15, 18, 25)]) ∈ jm_W := jm_ok (jm_in3 117 rfl) rfl
theorem lk_Lw_25 : (Cond.classLink "CellWorksLaw" 25 "java/util/NoSuchElementException") ∈ jm_W := jm_ok (jm_in3 118 rfl) rfl
theorem lk_Lw_21 : (Cond.methodLink "CellWorksLaw" 21 ⟨"CellWorks", "remove", "()Z"⟩) ∈ jm_W := jm_ok (jm_in3 119 rfl) rfl
theorem wi_CW_remove : (Cond.instanceMethod ⟨"CellWorks", "remove", "()Z"⟩) ∈ jm_W := jm_ok (jm_in3 120 rfl) rfl
theorem ws_CW_remove : (Cond.selects "CellWorks" ⟨"CellWorks", "remove", "()Z"⟩ ⟨"CellWorks", "remove", "()Z"⟩) ∈ jm_W := jm_ok (jm_in3 121 rfl) rfl
theorem wc_CW_remove : (Cond.code ⟨"CellWorks", "remove", "()Z"⟩ prog_1_method_6_code 3 (some FieldType.boolean)) ∈ jm_W := jm_ok (jm_in3 122 rfl) rfl
theorem lk_CW_69 : (Cond.methodLink "CellWorks" 69 ⟨"CellWorks", "nameOnTape", "()J"⟩) ∈ jm_W := jm_ok (jm_in3 123 rfl) rfl
theorem wi_CW_nameOnTape : (Cond.instanceMethod ⟨"CellWorks", "nameOnTape", "()J"⟩) ∈ jm_W := jm_ok (jm_in3 125 rfl) rfl
theorem wc_CW_nameOnTape : (Cond.code ⟨"CellWorks", "nameOnTape", "()J"⟩ prog_1_method_14_code 3 (some FieldType.long)) ∈ jm_W := jm_ok (jm_in3 126 rfl) rfl
theorem lk_CW_141 : (Cond.methodLink "CellWorks" 141 ⟨"CellWorks$Tape", "onlyName", "()J"⟩) ∈ jm_W := jm_ok (jm_in3 127 rfl) rfl
theorem wi_Tp_onlyName : (Cond.instanceMethod ⟨"CellWorks$Tape", "onlyName", "()J"⟩) ∈ jm_W := jm_ok (jm_in3 128 rfl) rfl
theorem ws_Tp_onlyName : (Cond.selects "CellWorks$Tape" ⟨"CellWorks$Tape", "onlyName", "()J"⟩ ⟨"CellWorks$Tape", "onlyName", "()J"⟩) ∈ jm_W := jm_ok (jm_in3 129 rfl) rfl
theorem wc_Tp_onlyName : (Cond.code ⟨"CellWorks$Tape", "onlyName", "()J"⟩ prog_7_method_5_code 3 (some FieldType.long)) ∈ jm_W := jm_ok (jm_in3 130 rfl) rfl
theorem lk_Tp_35 : (Cond.methodLink "CellWorks$Tape" 35 ⟨"CellWorks$Tape", "rewind", "()V"⟩) ∈ jm_W := jm_ok (jm_in3 131 rfl) rfl
theorem lk_Tp_38 : (Cond.methodLink "CellWorks$Tape" 38 ⟨"CellWorks$Tape", "readToken", "()V"⟩) ∈ jm_W := jm_ok (jm_in3 132 rfl) rfl
theorem lk_CW_144 : (Cond.classLink "CellWorks" 144 "java/util/NoSuchElementException") ∈ jm_W := jm_ok (jm_in3 133 rfl) rfl
theorem lk_CW_146 : (Cond.stringRef "CellWorks" 146 "the tape is no NAME") ∈ lw_tbl := jm_in3 142 rfl
theorem lk_CW_148 : (Cond.methodLink "CellWorks" 148 ⟨"java/util/NoSuchElementException", "<init>", "(Ljava/lang/String;)V"⟩) ∈ jm_W := jm_ok (jm_in3 143 rfl) rfl
theorem lk_CW_73 : (Cond.methodLink "CellWorks" 73 ⟨"CellWorks$Cells", "drop", "(J)Z"⟩) ∈ jm_W := jm_ok (jm_in3 149 rfl) rfl
theorem wi_Cs_drop : (Cond.instanceMethod ⟨"CellWorks$Cells", "drop", "(J)Z"⟩) ∈ jm_W := jm_ok (jm_in3 150 rfl) rfl
theorem ws_Cs_drop : (Cond.selects "CellWorks$Cells" ⟨"CellWorks$Cells", "drop", "(J)Z"⟩ ⟨"CellWorks$Cells", "drop", "(J)Z"⟩) ∈ jm_W := jm_ok (jm_in3 151 rfl) rfl
theorem wc_Cs_drop : (Cond.code ⟨"CellWorks$Cells", "drop", "(J)Z"⟩ prog_4_method_6_code 5 (some FieldType.boolean)) ∈ jm_W := jm_ok (jm_in3 152 rfl) rfl
theorem lk_Lw_81 : (Cond.methodLink "CellWorksLaw" 81 ⟨"CellWorksLaw", "build", "(LCellWorks;[J)I"⟩) ∈ jm_W := jm_ok (jm_in3 153 rfl) rfl
theorem wt_Lw_build : (Cond.static ⟨"CellWorksLaw", "build", "(LCellWorks;[J)I"⟩) ∈ jm_W := jm_ok (jm_in3 154 rfl) rfl
theorem wc_Lw_build : (Cond.codeWith ⟨"CellWorksLaw", "build", "(LCellWorks;[J)I"⟩ method_6_code 3 (some FieldType.int) [(0, 8, 11, 25)]) ∈ jm_W := jm_ok (jm_in3 155 rfl) rfl
theorem lk_Lw_27 : (Cond.methodLink "CellWorksLaw" 27 ⟨"CellWorks", "build", "()I"⟩) ∈ jm_W := jm_ok (jm_in3 156 rfl) rfl
theorem wi_CW_build : (Cond.instanceMethod ⟨"CellWorks", "build", "()I"⟩) ∈ jm_W := jm_ok (jm_in3 157 rfl) rfl
theorem ws_CW_build : (Cond.selects "CellWorks" ⟨"CellWorks", "build", "()I"⟩ ⟨"CellWorks", "build", "()I"⟩) ∈ jm_W := jm_ok (jm_in3 158 rfl) rfl
theorem wc_CW_build : (Cond.code ⟨"CellWorks", "build", "()I"⟩ prog_1_method_7_code 5 (some FieldType.int)) ∈ jm_W := jm_ok (jm_in3 159 rfl) rfl
theorem lk_CW_77 : (Cond.methodLink "CellWorks" 77 ⟨"CellWorks$Cells", "indexOf", "(J)I"⟩) ∈ jm_W := jm_ok (jm_in3 160 rfl) rfl
theorem lk_Lw_88 : (Cond.methodLink "CellWorksLaw" 88 ⟨"CellWorksLaw", "value", "(LCellWorks;[J)I"⟩) ∈ jm_W := jm_ok (jm_in3 161 rfl) rfl
theorem wt_Lw_value : (Cond.static ⟨"CellWorksLaw", "value", "(LCellWorks;[J)I"⟩) ∈ jm_W := jm_ok (jm_in3 162 rfl) rfl
theorem wc_Lw_value : (Cond.codeWith ⟨"CellWorksLaw", "value", "(LCellWorks;[J)I"⟩ method_7_code 3 (some FieldType.int) [(0, 7, 10, 25)]) ∈ jm_W := jm_ok (jm_in3 163 rfl) rfl
theorem lk_Lw_31 : (Cond.methodLink "CellWorksLaw" 31 ⟨"CellWorks", "value", "()J"⟩) ∈ jm_W := jm_ok (jm_in3 164 rfl) rfl
theorem wi_CW_value : (Cond.instanceMethod ⟨"CellWorks", "value", "()J"⟩) ∈ jm_W := jm_ok (jm_in3 165 rfl) rfl
theorem ws_CW_value : (Cond.selects "CellWorks" ⟨"CellWorks", "value", "()J"⟩ ⟨"CellWorks", "value", "()J"⟩) ∈ jm_W := jm_ok (jm_in3 166 rfl) rfl
theorem wc_CW_value : (Cond.code ⟨"CellWorks", "value", "()J"⟩ prog_1_method_9_code 1 (some FieldType.long)) ∈ jm_W := jm_ok (jm_in3 167 rfl) rfl
theorem lk_CW_92 : (Cond.methodLink "CellWorks" 92 ⟨"CellWorks$Cells", "valueOf", "(LCellWorks$Cell;)J"⟩) ∈ jm_W := jm_ok (jm_in3 168 rfl) rfl
theorem lk_Lw_91 : (Cond.methodLink "CellWorksLaw" 91 ⟨"CellWorksLaw", "state", "(LCellWorks;[J)I"⟩) ∈ jm_W := jm_ok (jm_in3 169 rfl) rfl
theorem wt_Lw_state : (Cond.static ⟨"CellWorksLaw", "state", "(LCellWorks;[J)I"⟩) ∈ jm_W := jm_ok (jm_in3 170 rfl) rfl
theorem wc_Lw_state : (Cond.codeWith ⟨"CellWorksLaw", "state", "(LCellWorks;[J)I"⟩ method_8_code 3 (some FieldType.int) [(0, 8, 11, 25)]) ∈ jm_W := jm_ok (jm_in3 171 rfl) rfl
theorem lk_Lw_35 : (Cond.methodLink "CellWorksLaw" 35 ⟨"CellWorks", "state", "()I"⟩) ∈ jm_W := jm_ok (jm_in3 172 rfl) rfl
theorem wi_CW_state : (Cond.instanceMethod ⟨"CellWorks", "state", "()I"⟩) ∈ jm_W := jm_ok (jm_in3 173 rfl) rfl
theorem ws_CW_state : (Cond.selects "CellWorks" ⟨"CellWorks", "state", "()I"⟩ ⟨"CellWorks", "state", "()I"⟩) ∈ jm_W := jm_ok (jm_in3 174 rfl) rfl
theorem wc_CW_state : (Cond.code ⟨"CellWorks", "state", "()I"⟩ prog_1_method_10_code 2 (some FieldType.int)) ∈ jm_W := jm_ok (jm_in3 175 rfl) rfl
theorem lk_CW_101 : (Cond.methodLink "CellWorks" 101 ⟨"CellWorks$Cells", "isStale", "(LCellWorks$Cell;)Z"⟩) ∈ jm_W := jm_ok (jm_in3 176 rfl) rfl
theorem lk_Lw_94 : (Cond.methodLink "CellWorksLaw" 94 ⟨"CellWorksLaw", "readers", "(LCellWorks;Z[J)I"⟩) ∈ jm_W := jm_ok (jm_in3 177 rfl) rfl
theorem wt_Lw_readers : (Cond.static ⟨"CellWorksLaw", "readers", "(LCellWorks;Z[J)I"⟩) ∈ jm_W := jm_ok (jm_in3 178 rfl) rfl
theorem wc_Lw_readers : (Cond.codeWith ⟨"CellWorksLaw", "readers", "(LCellWorks;Z[J)I"⟩ method_9_code 4 (some FieldType.int) [(0, 9, 12, 25)]) ∈ jm_W := jm_ok (jm_in3 179 rfl) rfl
theorem lk_Lw_38 : (Cond.methodLink "CellWorksLaw" 38 ⟨"CellWorks", "readers", "(Z)I"⟩) ∈ jm_W := jm_ok (jm_in3 180 rfl) rfl
theorem wi_CW_readers : (Cond.instanceMethod ⟨"CellWorks", "readers", "(Z)I"⟩) ∈ jm_W := jm_ok (jm_in3 181 rfl) rfl
theorem ws_CW_readers : (Cond.selects "CellWorks" ⟨"CellWorks", "readers", "(Z)I"⟩ ⟨"CellWorks", "readers", "(Z)I"⟩) ∈ jm_W := jm_ok (jm_in3 182 rfl) rfl
theorem wc_CW_readers : (Cond.code ⟨"CellWorks", "readers", "(Z)I"⟩ prog_1_method_11_code 4 (some FieldType.int)) ∈ jm_W := jm_ok (jm_in3 183 rfl) rfl
theorem lk_CW_105 : (Cond.methodLink "CellWorks" 105 ⟨"CellWorks$Cells", "dependents", "(J)J"⟩) ∈ jm_W := jm_ok (jm_in3 184 rfl) rfl
theorem lk_CW_109 : (Cond.methodLink "CellWorks" 109 ⟨"CellWorks$Cells", "directReaders", "(J)J"⟩) ∈ jm_W := jm_ok (jm_in3 185 rfl) rfl
theorem lk_CW_112 : (Cond.methodLink "CellWorks" 112 ⟨"java/lang/Long", "bitCount", "(J)I"⟩) ∈ jm_W := jm_ok (jm_in3 186 rfl) rfl
theorem wt_Lo_bitCount : (Cond.static ⟨"java/lang/Long", "bitCount", "(J)I"⟩) ∈ jm_W := jm_ok (jm_in3 187 rfl) rfl
theorem wc_Lo_bitCount : (Cond.code ⟨"java/lang/Long", "bitCount", "(J)I"⟩ prog_14_method_50_code 2 (some FieldType.int)) ∈ jm_W := jm_ok (jm_in3 188 rfl) rfl
theorem lk_Lo_314 : (Cond.constantLong "java/lang/Long" 314 (6148914691236517205 : Int64)) ∈ jm_W := jm_ok (jm_in3 189 rfl) rfl
theorem lk_Lo_316 : (Cond.constantLong "java/lang/Long" 316 (3689348814741910323 : Int64)) ∈ jm_W := jm_ok (jm_in3 190 rfl) rfl
theorem lk_Lo_318 : (Cond.constantLong "java/lang/Long" 318 (1085102592571150095 : Int64)) ∈ jm_W := jm_ok (jm_in3 191 rfl) rfl
theorem lk_Lw_98 : (Cond.methodLink "CellWorksLaw" 98 ⟨"CellWorksLaw", "built", "(LCellWorks;II[J)I"⟩) ∈ jm_W := jm_ok (jm_in3 192 rfl) rfl
theorem wt_Lw_built : (Cond.static ⟨"CellWorksLaw", "built", "(LCellWorks;II[J)I"⟩) ∈ jm_W := jm_ok (jm_in3 193 rfl) rfl
theorem wc_Lw_built : (Cond.codeWith ⟨"CellWorksLaw", "built", "(LCellWorks;II[J)I"⟩ method_10_code 5 (some FieldType.int) [(0, 10, 13, 46)]) ∈ jm_W := jm_ok (jm_in3 194 rfl) rfl
theorem lk_Lw_46 : (Cond.classLink "CellWorksLaw" 46 "java/lang/IndexOutOfBoundsException") ∈ jm_W := jm_ok (jm_in3 195 rfl) rfl
theorem lk_Lw_42 : (Cond.methodLink "CellWorksLaw" 42 ⟨"CellWorks", "built", "(II)I"⟩) ∈ jm_W := jm_ok (jm_in3 196 rfl) rfl
theorem wi_CW_built : (Cond.instanceMethod ⟨"CellWorks", "built", "(II)I"⟩) ∈ jm_W := jm_ok (jm_in3 197 rfl) rfl
theorem ws_CW_built : (Cond.selects "CellWorks" ⟨"CellWorks", "built", "(II)I"⟩ ⟨"CellWorks", "built", "(II)I"⟩) ∈ jm_W := jm_ok (jm_in3 198 rfl) rfl
theorem wc_CW_built : (Cond.code ⟨"CellWorks", "built", "(II)I"⟩ prog_1_method_12_code 4 (some FieldType.int)) ∈ jm_W := jm_ok (jm_in3 199 rfl) rfl
theorem lk_CW_117 : (Cond.methodLink "CellWorks" 117 ⟨"CellWorks$Builder", "byteOfLatest", "(II)I"⟩) ∈ jm_W := jm_ok (jm_in3 200 rfl) rfl
theorem wi_Bd_byteOfLatest : (Cond.instanceMethod ⟨"CellWorks$Builder", "byteOfLatest", "(II)I"⟩) ∈ jm_W := jm_ok (jm_in3 201 rfl) rfl
theorem ws_Bd_byteOfLatest : (Cond.selects "CellWorks$Builder" ⟨"CellWorks$Builder", "byteOfLatest", "(II)I"⟩ ⟨"CellWorks$Builder", "byteOfLatest", "(II)I"⟩) ∈ jm_W := jm_ok (jm_in3 202 rfl) rfl
theorem wc_Bd_byteOfLatest : (Cond.code ⟨"CellWorks$Builder", "byteOfLatest", "(II)I"⟩ prog_2_method_5_code 4 (some FieldType.int)) ∈ jm_W := jm_ok (jm_in3 203 rfl) rfl
theorem lk_CW_121 : (Cond.classLink "CellWorks" 121 "java/lang/IndexOutOfBoundsException") ∈ jm_W := jm_ok (jm_in3 204 rfl) rfl
theorem lk_CW_123 : (Cond.stringRef "CellWorks" 123 "there is no such name or byte") ∈ lw_tbl := jm_in3 213 rfl
theorem lk_CW_125 : (Cond.methodLink "CellWorks" 125 ⟨"java/lang/IndexOutOfBoundsException", "<init>", "(Ljava/lang/String;)V"⟩) ∈ jm_W := jm_ok (jm_in3 214 rfl) rfl
theorem lk_Lw_102 : (Cond.methodLink "CellWorksLaw" 102 ⟨"CellWorksLaw", "count", "(LCellWorks;I[J)I"⟩) ∈ jm_W := jm_ok (jm_in3 220 rfl) rfl
theorem wt_Lw_count : (Cond.static ⟨"CellWorksLaw", "count", "(LCellWorks;I[J)I"⟩) ∈ jm_W := jm_ok (jm_in3 221 rfl) rfl
theorem wc_Lw_count : (Cond.codeWith ⟨"CellWorksLaw", "count", "(LCellWorks;I[J)I"⟩ method_11_code 4 (some FieldType.int) [(0, 9, 12, 19)]) ∈ jm_W := jm_ok (jm_in3 222 rfl) rfl
theorem lk_Lw_48 : (Cond.methodLink "CellWorksLaw" 48 ⟨"CellWorks", "count", "(I)I"⟩) ∈ jm_W := jm_ok (jm_in3 223 rfl) rfl
theorem wi_CW_count : (Cond.instanceMethod ⟨"CellWorks", "count", "(I)I"⟩) ∈ jm_W := jm_ok (jm_in3 224 rfl) rfl
theorem ws_CW_count : (Cond.selects "CellWorks" ⟨"CellWorks", "count", "(I)I"⟩ ⟨"CellWorks", "count", "(I)I"⟩) ∈ jm_W := jm_ok (jm_in3 225 rfl) rfl
theorem wc_CW_count : (Cond.code ⟨"CellWorks", "count", "(I)I"⟩ prog_1_method_13_code 2 (some FieldType.int)) ∈ jm_W := jm_ok (jm_in3 226 rfl) rfl
theorem lk_CW_129 : (Cond.methodLink "CellWorks" 129 ⟨"CellWorks$Cells", "staleOnes", "()I"⟩) ∈ jm_W := jm_ok (jm_in3 227 rfl) rfl
theorem wi_Cs_staleOnes : (Cond.instanceMethod ⟨"CellWorks$Cells", "staleOnes", "()I"⟩) ∈ jm_W := jm_ok (jm_in3 228 rfl) rfl
theorem ws_Cs_staleOnes : (Cond.selects "CellWorks$Cells" ⟨"CellWorks$Cells", "staleOnes", "()I"⟩ ⟨"CellWorks$Cells", "staleOnes", "()I"⟩) ∈ jm_W := jm_ok (jm_in3 229 rfl) rfl
theorem wc_Cs_staleOnes : (Cond.code ⟨"CellWorks$Cells", "staleOnes", "()I"⟩ prog_4_method_11_code 3 (some FieldType.int)) ∈ jm_W := jm_ok (jm_in3 230 rfl) rfl
theorem lk_Cs_77 : (Cond.methodLink "CellWorks$Cells" 77 ⟨"CellWorks$Cells", "isStale", "(LCellWorks$Cell;)Z"⟩) ∈ jm_W := jm_ok (jm_in3 231 rfl) rfl
theorem lk_CW_139 : (Cond.stringRef "CellWorks" 139 "what is none of 0 to 4") ∈ lw_tbl := jm_in3 232 rfl
theorem lk_Lw_53 : (Cond.classLink "CellWorksLaw" 53 "CellWorksModel") ∈ jm_W := jm_ok (jm_in3 233 rfl) rfl
theorem wk_Md : (Cond.instantiable "CellWorksModel" 45) ∈ jm_W := jm_ok (jm_in3 234 rfl) rfl
theorem lk_Lw_55 : (Cond.methodLink "CellWorksLaw" 55 ⟨"CellWorksModel", "<init>", "()V"⟩) ∈ jm_W := jm_ok (jm_in3 235 rfl) rfl
theorem wi_Md_init : (Cond.instanceMethod ⟨"CellWorksModel", "<init>", "()V"⟩) ∈ jm_W := jm_ok (jm_in3 236 rfl) rfl
theorem wc_Md_init : (Cond.code ⟨"CellWorksModel", "<init>", "()V"⟩ prog_10_method_1_code 1 none) ∈ jm_W := jm_ok (jm_in3 237 rfl) rfl
theorem lk_Md_1 : (Cond.methodLink "CellWorksModel" 1 ⟨"java/lang/Object", "<init>", "()V"⟩) ∈ jm_W := jm_ok (jm_in3 238 rfl) rfl
theorem lk_Md_96 : (Cond.fieldLink "CellWorksModel" 96 "CellWorksModel" "thrown" "I") ∈ jm_W := jm_ok (jm_in3 239 rfl) rfl
theorem lk_Md_7 : (Cond.fieldLink "CellWorksModel" 7 "CellWorksModel" "tape" "[I") ∈ jm_W := jm_ok (jm_in4 0 rfl) rfl
theorem lk_Md_100 : (Cond.fieldLink "CellWorksModel" 100 "CellWorksModel" "tapeSize" "I") ∈ jm_W := jm_ok (jm_in4 1 rfl) rfl
theorem lk_Md_144 : (Cond.fieldLink "CellWorksModel" 144 "CellWorksModel" "faultCode" "I") ∈ jm_W := jm_ok (jm_in4 2 rfl) rfl
theorem lk_Md_147 : (Cond.fieldLink "CellWorksModel" 147 "CellWorksModel" "faultPlace" "I") ∈ jm_W := jm_ok (jm_in4 3 rfl) rfl
theorem lk_Md_13 : (Cond.fieldLink "CellWorksModel" 13 "CellWorksModel" "there" "[Z") ∈ jm_W := jm_ok (jm_in4 4 rfl) rfl
theorem lk_Md_17 : (Cond.fieldLink "CellWorksModel" 17 "CellWorksModel" "names" "[J") ∈ jm_W := jm_ok (jm_in4 5 rfl) rfl
theorem lk_Md_21 : (Cond.fieldLink "CellWorksModel" 21 "CellWorksModel" "results" "[I") ∈ jm_W := jm_ok (jm_in4 6 rfl) rfl
theorem lk_Md_24 : (Cond.fieldLink "CellWorksModel" 24 "CellWorksModel" "values" "[J") ∈ jm_W := jm_ok (jm_in4 7 rfl) rfl
theorem lk_Md_27 : (Cond.fieldLink "CellWorksModel" 27 "CellWorksModel" "worked" "[Z") ∈ jm_W := jm_ok (jm_in4 8 rfl) rfl
theorem lk_Md_30 : (Cond.fieldLink "CellWorksModel" 30 "CellWorksModel" "roots" "[I") ∈ jm_W := jm_ok (jm_in4 9 rfl) rfl
theorem lk_Md_33 : (Cond.fieldLink "CellWorksModel" 33 "CellWorksModel" "nodeCounts" "[I") ∈ jm_W := jm_ok (jm_in4 10 rfl) rfl
theorem lk_Md_36 : (Cond.fieldLink "CellWorksModel" 36 "CellWorksModel" "kinds" "[I") ∈ jm_W := jm_ok (jm_in4 11 rfl) rfl
theorem lk_Md_39 : (Cond.fieldLink "CellWorksModel" 39 "CellWorksModel" "ones" "[I") ∈ jm_W := jm_ok (jm_in4 12 rfl) rfl
theorem lk_Md_42 : (Cond.fieldLink "CellWorksModel" 42 "CellWorksModel" "twos" "[I") ∈ jm_W := jm_ok (jm_in4 13 rfl) rfl
theorem lk_Md_45 : (Cond.fieldLink "CellWorksModel" 45 "CellWorksModel" "threes" "[I") ∈ jm_W := jm_ok (jm_in4 14 rfl) rfl
theorem lk_Md_48 : (Cond.fieldLink "CellWorksModel" 48 "CellWorksModel" "amounts" "[J") ∈ jm_W := jm_ok (jm_in4 15 rfl) rfl
theorem lk_Md_51 : (Cond.fieldLink "CellWorksModel" 51 "CellWorksModel" "seenResults" "[I") ∈ jm_W := jm_ok (jm_in4 16 rfl) rfl
theorem lk_Md_54 : (Cond.fieldLink "CellWorksModel" 54 "CellWorksModel" "seenValues" "[J") ∈ jm_W := jm_ok (jm_in4 17 rfl) rfl
theorem lk_Md_254 : (Cond.fieldLink "CellWorksModel" 254 "CellWorksModel" "workedInAll" "I") ∈ jm_W := jm_ok (jm_in4 18 rfl) rfl
theorem lk_Md_57 : (Cond.fieldLink "CellWorksModel" 57 "CellWorksModel" "built" "[J") ∈ jm_W := jm_ok (jm_in4 19 rfl) rfl
theorem lk_Md_257 : (Cond.fieldLink "CellWorksModel" 257 "CellWorksModel" "builtCount" "I") ∈ jm_W := jm_ok (jm_in4 20 rfl) rfl
theorem lk_Md_103 : (Cond.fieldLink "CellWorksModel" 103 "CellWorksModel" "place" "I") ∈ jm_W := jm_ok (jm_in4 21 rfl) rfl
theorem lk_Md_114 : (Cond.fieldLink "CellWorksModel" 114 "CellWorksModel" "tokenFrom" "I") ∈ jm_W := jm_ok (jm_in4 22 rfl) rfl
theorem lk_Md_117 : (Cond.fieldLink "CellWorksModel" 117 "CellWorksModel" "token" "I") ∈ jm_W := jm_ok (jm_in4 23 rfl) rfl
theorem lk_Md_123 : (Cond.fieldLink "CellWorksModel" 123 "CellWorksModel" "tokenAmount" "J") ∈ jm_W := jm_ok (jm_in4 24 rfl) rfl
theorem lk_Md_60 : (Cond.fieldLink "CellWorksModel" 60 "CellWorksModel" "newKinds" "[I") ∈ jm_W := jm_ok (jm_in4 25 rfl) rfl
theorem lk_Md_63 : (Cond.fieldLink "CellWorksModel" 63 "CellWorksModel" "newOnes" "[I") ∈ jm_W := jm_ok (jm_in4 26 rfl) rfl
theorem lk_Md_66 : (Cond.fieldLink "CellWorksModel" 66 "CellWorksModel" "newTwos" "[I") ∈ jm_W := jm_ok (jm_in4 27 rfl) rfl
theorem lk_Md_69 : (Cond.fieldLink "CellWorksModel" 69 "CellWorksModel" "newThrees" "[I") ∈ jm_W := jm_ok (jm_in4 28 rfl) rfl
theorem lk_Md_72 : (Cond.fieldLink "CellWorksModel" 72 "CellWorksModel" "newAmounts" "[J") ∈ jm_W := jm_ok (jm_in4 29 rfl) rfl
theorem lk_Md_75 : (Cond.fieldLink "CellWorksModel" 75 "CellWorksModel" "newPlaces" "[I") ∈ jm_W := jm_ok (jm_in4 30 rfl) rfl
theorem lk_Md_154 : (Cond.fieldLink "CellWorksModel" 154 "CellWorksModel" "newCount" "I") ∈ jm_W := jm_ok (jm_in4 31 rfl) rfl
theorem lk_Md_78 : (Cond.fieldLink "CellWorksModel" 78 "CellWorksModel" "waiting" "[I") ∈ jm_W := jm_ok (jm_in4 32 rfl) rfl
theorem lk_Md_81 : (Cond.fieldLink "CellWorksModel" 81 "CellWorksModel" "given" "[I") ∈ jm_W := jm_ok (jm_in4 33 rfl) rfl
theorem lk_Md_157 : (Cond.fieldLink "CellWorksModel" 157 "CellWorksModel" "waitingCount" "I") ∈ jm_W := jm_ok (jm_in4 34 rfl) rfl
theorem lk_Md_84 : (Cond.fieldLink "CellWorksModel" 84 "CellWorksModel" "parts" "[I") ∈ jm_W := jm_ok (jm_in4 35 rfl) rfl
theorem lk_Md_166 : (Cond.fieldLink "CellWorksModel" 166 "CellWorksModel" "partCount" "I") ∈ jm_W := jm_ok (jm_in4 36 rfl) rfl
theorem lk_Md_169 : (Cond.fieldLink "CellWorksModel" 169 "CellWorksModel" "depth" "I") ∈ jm_W := jm_ok (jm_in4 37 rfl) rfl
theorem lk_Md_231 : (Cond.fieldLink "CellWorksModel" 231 "CellWorksModel" "error" "I") ∈ jm_W := jm_ok (jm_in4 38 rfl) rfl
theorem lk_Md_87 : (Cond.fieldLink "CellWorksModel" 87 "CellWorksModel" "pile" "[I") ∈ jm_W := jm_ok (jm_in4 39 rfl) rfl
theorem lk_Md_90 : (Cond.fieldLink "CellWorksModel" 90 "CellWorksModel" "phases" "[I") ∈ jm_W := jm_ok (jm_in4 40 rfl) rfl
theorem lk_Md_93 : (Cond.fieldLink "CellWorksModel" 93 "CellWorksModel" "kept" "[J") ∈ jm_W := jm_ok (jm_in4 41 rfl) rfl
theorem lk_Md_225 : (Cond.fieldLink "CellWorksModel" 225 "CellWorksModel" "high" "I") ∈ jm_W := jm_ok (jm_in4 42 rfl) rfl
theorem lk_Md_237 : (Cond.fieldLink "CellWorksModel" 237 "CellWorksModel" "answer" "J") ∈ jm_W := jm_ok (jm_in4 43 rfl) rfl
theorem wl_Md_thrown : (Cond.lays "CellWorksModel" "CellWorksModel" "thrown" "I") ∈ jm_W := jm_ok (jm_in4 44 rfl) rfl
theorem wl_Md_tape : (Cond.laysFinal "CellWorksModel" "CellWorksModel" "tape" "[I") ∈ jm_W := jm_ok (jm_in4 46 rfl) rfl
theorem wl_Md_tapeSize : (Cond.lays "CellWorksModel" "CellWorksModel" "tapeSize" "I") ∈ jm_W := jm_ok (jm_in4 48 rfl) rfl
theorem wl_Md_faultCode : (Cond.lays "CellWorksModel" "CellWorksModel" "faultCode" "I") ∈ jm_W := jm_ok (jm_in4 50 rfl) rfl
theorem wl_Md_faultPlace : (Cond.lays "CellWorksModel" "CellWorksModel" "faultPlace" "I") ∈ jm_W := jm_ok (jm_in4 52 rfl) rfl
theorem wl_Md_there : (Cond.laysFinal "CellWorksModel" "CellWorksModel" "there" "[Z") ∈ jm_W := jm_ok (jm_in4 54 rfl) rfl
theorem wl_Md_names : (Cond.laysFinal "CellWorksModel" "CellWorksModel" "names" "[J") ∈ jm_W := jm_ok (jm_in4 56 rfl) rfl
theorem wl_Md_results : (Cond.laysFinal "CellWorksModel" "CellWorksModel" "results" "[I") ∈ jm_W := jm_ok (jm_in4 58 rfl) rfl
theorem wl_Md_values : (Cond.laysFinal "CellWorksModel" "CellWorksModel" "values" "[J") ∈ jm_W := jm_ok (jm_in4 60 rfl) rfl
theorem wl_Md_worked : (Cond.laysFinal "CellWorksModel" "CellWorksModel" "worked" "[Z") ∈ jm_W := jm_ok (jm_in4 62 rfl) rfl
theorem wl_Md_roots : (Cond.laysFinal "CellWorksModel" "CellWorksModel" "roots" "[I") ∈ jm_W := jm_ok (jm_in4 64 rfl) rfl
theorem wl_Md_nodeCounts : (Cond.laysFinal "CellWorksModel" "CellWorksModel" "nodeCounts" "[I") ∈ jm_W := jm_ok (jm_in4 66 rfl) rfl
theorem wl_Md_kinds : (Cond.laysFinal "CellWorksModel" "CellWorksModel" "kinds" "[I") ∈ jm_W := jm_ok (jm_in4 68 rfl) rfl
theorem wl_Md_ones : (Cond.laysFinal "CellWorksModel" "CellWorksModel" "ones" "[I") ∈ jm_W := jm_ok (jm_in4 70 rfl) rfl
theorem wl_Md_twos : (Cond.laysFinal "CellWorksModel" "CellWorksModel" "twos" "[I") ∈ jm_W := jm_ok (jm_in4 72 rfl) rfl
theorem wl_Md_threes : (Cond.laysFinal "CellWorksModel" "CellWorksModel" "threes" "[I") ∈ jm_W := jm_ok (jm_in4 74 rfl) rfl
theorem wl_Md_amounts : (Cond.laysFinal "CellWorksModel" "CellWorksModel" "amounts" "[J") ∈ jm_W := jm_ok (jm_in4 76 rfl) rfl
theorem wl_Md_seenResults : (Cond.laysFinal "CellWorksModel" "CellWorksModel" "seenResults" "[I") ∈ jm_W := jm_ok (jm_in4 78 rfl) rfl
theorem wl_Md_seenValues : (Cond.laysFinal "CellWorksModel" "CellWorksModel" "seenValues" "[J") ∈ jm_W := jm_ok (jm_in4 80 rfl) rfl
theorem wl_Md_workedInAll : (Cond.lays "CellWorksModel" "CellWorksModel" "workedInAll" "I") ∈ jm_W := jm_ok (jm_in4 82 rfl) rfl
theorem wl_Md_built : (Cond.laysFinal "CellWorksModel" "CellWorksModel" "built" "[J") ∈ jm_W := jm_ok (jm_in4 84 rfl) rfl
theorem wl_Md_builtCount : (Cond.lays "CellWorksModel" "CellWorksModel" "builtCount" "I") ∈ jm_W := jm_ok (jm_in4 86 rfl) rfl
theorem wl_Md_place : (Cond.lays "CellWorksModel" "CellWorksModel" "place" "I") ∈ jm_W := jm_ok (jm_in4 88 rfl) rfl
theorem wl_Md_tokenFrom : (Cond.lays "CellWorksModel" "CellWorksModel" "tokenFrom" "I") ∈ jm_W := jm_ok (jm_in4 90 rfl) rfl
theorem wl_Md_token : (Cond.lays "CellWorksModel" "CellWorksModel" "token" "I") ∈ jm_W := jm_ok (jm_in4 92 rfl) rfl
theorem wl_Md_tokenAmount : (Cond.lays "CellWorksModel" "CellWorksModel" "tokenAmount" "J") ∈ jm_W := jm_ok (jm_in4 94 rfl) rfl
theorem wl_Md_newKinds : (Cond.laysFinal "CellWorksModel" "CellWorksModel" "newKinds" "[I") ∈ jm_W := jm_ok (jm_in4 96 rfl) rfl
theorem wl_Md_newOnes : (Cond.laysFinal "CellWorksModel" "CellWorksModel" "newOnes" "[I") ∈ jm_W := jm_ok (jm_in4 98 rfl) rfl
theorem wl_Md_newTwos : (Cond.laysFinal "CellWorksModel" "CellWorksModel" "newTwos" "[I") ∈ jm_W := jm_ok (jm_in4 100 rfl) rfl
theorem wl_Md_newThrees : (Cond.laysFinal "CellWorksModel" "CellWorksModel" "newThrees" "[I") ∈ jm_W := jm_ok (jm_in4 102 rfl) rfl
theorem wl_Md_newAmounts : (Cond.laysFinal "CellWorksModel" "CellWorksModel" "newAmounts" "[J") ∈ jm_W := jm_ok (jm_in4 104 rfl) rfl
theorem wl_Md_newPlaces : (Cond.laysFinal "CellWorksModel" "CellWorksModel" "newPlaces" "[I") ∈ jm_W := jm_ok (jm_in4 106 rfl) rfl
theorem wl_Md_newCount : (Cond.lays "CellWorksModel" "CellWorksModel" "newCount" "I") ∈ jm_W := jm_ok (jm_in4 108 rfl) rfl
theorem wl_Md_waiting : (Cond.laysFinal "CellWorksModel" "CellWorksModel" "waiting" "[I") ∈ jm_W := jm_ok (jm_in4 110 rfl) rfl
theorem wl_Md_given : (Cond.laysFinal "CellWorksModel" "CellWorksModel" "given" "[I") ∈ jm_W := jm_ok (jm_in4 112 rfl) rfl
theorem wl_Md_waitingCount : (Cond.lays "CellWorksModel" "CellWorksModel" "waitingCount" "I") ∈ jm_W := jm_ok (jm_in4 114 rfl) rfl
theorem wl_Md_parts : (Cond.laysFinal "CellWorksModel" "CellWorksModel" "parts" "[I") ∈ jm_W := jm_ok (jm_in4 116 rfl) rfl
theorem wl_Md_partCount : (Cond.lays "CellWorksModel" "CellWorksModel" "partCount" "I") ∈ jm_W := jm_ok (jm_in4 118 rfl) rfl
theorem wl_Md_depth : (Cond.lays "CellWorksModel" "CellWorksModel" "depth" "I") ∈ jm_W := jm_ok (jm_in4 120 rfl) rfl
theorem wl_Md_error : (Cond.lays "CellWorksModel" "CellWorksModel" "error" "I") ∈ jm_W := jm_ok (jm_in4 122 rfl) rfl
theorem wl_Md_pile : (Cond.laysFinal "CellWorksModel" "CellWorksModel" "pile" "[I") ∈ jm_W := jm_ok (jm_in4 124 rfl) rfl
theorem wl_Md_phases : (Cond.laysFinal "CellWorksModel" "CellWorksModel" "phases" "[I") ∈ jm_W := jm_ok (jm_in4 126 rfl) rfl
theorem wl_Md_kept : (Cond.laysFinal "CellWorksModel" "CellWorksModel" "kept" "[J") ∈ jm_W := jm_ok (jm_in4 128 rfl) rfl
theorem wl_Md_high : (Cond.lays "CellWorksModel" "CellWorksModel" "high" "I") ∈ jm_W := jm_ok (jm_in4 130 rfl) rfl
theorem wl_Md_answer : (Cond.lays "CellWorksModel" "CellWorksModel" "answer" "J") ∈ jm_W := jm_ok (jm_in4 132 rfl) rfl
theorem wa_boolean : (Cond.arrayClass FieldType.boolean) ∈ jm_W := jm_ok (jm_in4 135 rfl) rfl
theorem lk_Lw_62 : (Cond.methodLink "CellWorksLaw" 62 ⟨"CellWorksModel", "thrown", "()I"⟩) ∈ jm_W := jm_ok (jm_in4 136 rfl) rfl
theorem wi_Md_thrown : (Cond.instanceMethod ⟨"CellWorksModel", "thrown", "()I"⟩) ∈ jm_W := jm_ok (jm_in4 137 rfl) rfl
theorem ws_Md_thrown : (Cond.selects "CellWorksModel" ⟨"CellWorksModel", "thrown", "()I"⟩ ⟨"CellWorksModel", "thrown", "()I"⟩) ∈ jm_W := jm_ok (jm_in4 138 rfl) rfl
theorem wc_Md_thrown : (Cond.code ⟨"CellWorksModel", "thrown", "()I"⟩ prog_10_method_2_code 1 (some FieldType.int)) ∈ jm_W := jm_ok (jm_in4 139 rfl) rfl
theorem lk_Lw_72 : (Cond.methodLink "CellWorksLaw" 72 ⟨"CellWorksModel", "define", "()I"⟩) ∈ jm_W := jm_ok (jm_in4 140 rfl) rfl
theorem wi_Md_define : (Cond.instanceMethod ⟨"CellWorksModel", "define", "()I"⟩) ∈ jm_W := jm_ok (jm_in4 141 rfl) rfl
theorem ws_Md_define : (Cond.selects "CellWorksModel" ⟨"CellWorksModel", "define", "()I"⟩ ⟨"CellWorksModel", "define", "()I"⟩) ∈ jm_W := jm_ok (jm_in4 142 rfl) rfl
theorem wc_Md_define : (Cond.code ⟨"CellWorksModel", "define", "()I"⟩ prog_10_method_27_code 10 (some FieldType.int)) ∈ jm_W := jm_ok (jm_in4 143 rfl) rfl
theorem lk_Md_176 : (Cond.methodLink "CellWorksModel" 176 ⟨"CellWorksModel", "next", "()V"⟩) ∈ jm_W := jm_ok (jm_in4 144 rfl) rfl
theorem wi_Md_next : (Cond.instanceMethod ⟨"CellWorksModel", "next", "()V"⟩) ∈ jm_W := jm_ok (jm_in4 146 rfl) rfl
theorem wc_Md_next : (Cond.code ⟨"CellWorksModel", "next", "()V"⟩ prog_10_method_7_code 2 none) ∈ jm_W := jm_ok (jm_in4 147 rfl) rfl
theorem lk_Md_106 : (Cond.methodLink "CellWorksModel" 106 ⟨"CellWorksModel", "at", "(I)I"⟩) ∈ jm_W := jm_ok (jm_in4 148 rfl) rfl
theorem wi_Md_at : (Cond.instanceMethod ⟨"CellWorksModel", "at", "(I)I"⟩) ∈ jm_W := jm_ok (jm_in4 150 rfl) rfl
theorem wc_Md_at : (Cond.code ⟨"CellWorksModel", "at", "(I)I"⟩ prog_10_method_3_code 2 (some FieldType.int)) ∈ jm_W := jm_ok (jm_in4 151 rfl) rfl
theorem lk_Md_110 : (Cond.methodLink "CellWorksModel" 110 ⟨"CellWorksModel", "isBlank", "(I)Z"⟩) ∈ jm_W := jm_ok (jm_in4 152 rfl) rfl
theorem wt_Md_isBlank : (Cond.static ⟨"CellWorksModel", "isBlank", "(I)Z"⟩) ∈ jm_W := jm_ok (jm_in4 153 rfl) rfl
theorem wc_Md_isBlank : (Cond.code ⟨"CellWorksModel", "isBlank", "(I)Z"⟩ prog_10_method_6_code 1 (some FieldType.boolean)) ∈ jm_W := jm_ok (jm_in4 154 rfl) rfl
theorem lk_Md_120 : (Cond.methodLink "CellWorksModel" 120 ⟨"CellWorksModel", "isDigit", "(I)Z"⟩) ∈ jm_W := jm_ok (jm_in4 155 rfl) rfl
theorem wt_Md_isDigit : (Cond.static ⟨"CellWorksModel", "isDigit", "(I)Z"⟩) ∈ jm_W := jm_ok (jm_in4 156 rfl) rfl
theorem wc_Md_isDigit : (Cond.code ⟨"CellWorksModel", "isDigit", "(I)Z"⟩ prog_10_method_4_code 1 (some FieldType.boolean)) ∈ jm_W := jm_ok (jm_in4 157 rfl) rfl
theorem lk_Md_127 : (Cond.constantLong "CellWorksModel" 127 (10 : Int64)) ∈ jm_W := jm_ok (jm_in4 158 rfl) rfl
theorem lk_Md_129 : (Cond.constantLong "CellWorksModel" 129 (48 : Int64)) ∈ jm_W := jm_ok (jm_in4 159 rfl) rfl
theorem lk_Md_131 : (Cond.methodLink "CellWorksModel" 131 ⟨"CellWorksModel", "isLetter", "(I)Z"⟩) ∈ jm_W := jm_ok (jm_in4 160 rfl) rfl
theorem wt_Md_isLetter : (Cond.static ⟨"CellWorksModel", "isLetter", "(I)Z"⟩) ∈ jm_W := jm_ok (jm_in4 161 rfl) rfl
theorem wc_Md_isLetter : (Cond.code ⟨"CellWorksModel", "isLetter", "(I)Z"⟩ prog_10_method_5_code 1 (some FieldType.boolean)) ∈ jm_W := jm_ok (jm_in4 162 rfl) rfl
theorem lk_Md_134 : (Cond.methodLink "CellWorksModel" 134 ⟨"CellWorksModel", "function", "()I"⟩) ∈ jm_W := jm_ok (jm_in4 163 rfl) rfl
theorem wi_Md_function : (Cond.instanceMethod ⟨"CellWorksModel", "function", "()I"⟩) ∈ jm_W := jm_ok (jm_in4 165 rfl) rfl
theorem wc_Md_function : (Cond.code ⟨"CellWorksModel", "function", "()I"⟩ prog_10_method_8_code 1 (some FieldType.int)) ∈ jm_W := jm_ok (jm_in4 166 rfl) rfl
theorem lk_Md_138 : (Cond.constantLong "CellWorksModel" 138 (7883953568967819264 : Int64)) ∈ jm_W := jm_ok (jm_in4 167 rfl) rfl
theorem lk_Md_140 : (Cond.constantLong "CellWorksModel" 140 (7881712764270411776 : Int64)) ∈ jm_W := jm_ok (jm_in4 168 rfl) rfl
theorem lk_Md_142 : (Cond.constantLong "CellWorksModel" 142 (7594757821606920192 : Int64)) ∈ jm_W := jm_ok (jm_in4 169 rfl) rfl
theorem lk_Md_189 : (Cond.methodLink "CellWorksModel" 189 ⟨"CellWorksModel", "wrong", "()V"⟩) ∈ jm_W := jm_ok (jm_in4 170 rfl) rfl
theorem wi_Md_wrong : (Cond.instanceMethod ⟨"CellWorksModel", "wrong", "()V"⟩) ∈ jm_W := jm_ok (jm_in4 172 rfl) rfl
theorem wc_Md_wrong : (Cond.code ⟨"CellWorksModel", "wrong", "()V"⟩ prog_10_method_10_code 1 none) ∈ jm_W := jm_ok (jm_in4 173 rfl) rfl
theorem lk_Md_150 : (Cond.methodLink "CellWorksModel" 150 ⟨"CellWorksModel", "fail", "(II)V"⟩) ∈ jm_W := jm_ok (jm_in4 174 rfl) rfl
theorem wi_Md_fail : (Cond.instanceMethod ⟨"CellWorksModel", "fail", "(II)V"⟩) ∈ jm_W := jm_ok (jm_in4 176 rfl) rfl
theorem wc_Md_fail : (Cond.code ⟨"CellWorksModel", "fail", "(II)V"⟩ prog_10_method_9_code 3 none) ∈ jm_W := jm_ok (jm_in4 177 rfl) rfl
theorem lk_Md_211 : (Cond.methodLink "CellWorksModel" 211 ⟨"CellWorksModel", "formula", "()V"⟩) ∈ jm_W := jm_ok (jm_in4 178 rfl) rfl
theorem wi_Md_formula : (Cond.instanceMethod ⟨"CellWorksModel", "formula", "()V"⟩) ∈ jm_W := jm_ok (jm_in4 180 rfl) rfl
theorem wc_Md_formula : (Cond.code ⟨"CellWorksModel", "formula", "()V"⟩ prog_10_method_21_code 2 none) ∈ jm_W := jm_ok (jm_in4 181 rfl) rfl
theorem lk_Md_198 : (Cond.methodLink "CellWorksModel" 198 ⟨"CellWorksModel", "part", "()Z"⟩) ∈ jm_W := jm_ok (jm_in4 182 rfl) rfl
theorem wi_Md_part : (Cond.instanceMethod ⟨"CellWorksModel", "part", "()Z"⟩) ∈ jm_W := jm_ok (jm_in4 184 rfl) rfl
theorem wc_Md_part : (Cond.code ⟨"CellWorksModel", "part", "()Z"⟩ prog_10_method_18_code 2 (some FieldType.boolean)) ∈ jm_W := jm_ok (jm_in4 185 rfl) rfl
theorem lk_Md_172 : (Cond.methodLink "CellWorksModel" 172 ⟨"CellWorksModel", "newNode", "(IJ)I"⟩) ∈ jm_W := jm_ok (jm_in4 186 rfl) rfl
theorem wi_Md_newNode : (Cond.instanceMethod ⟨"CellWorksModel", "newNode", "(IJ)I"⟩) ∈ jm_W := jm_ok (jm_in4 188 rfl) rfl
theorem wc_Md_newNode : (Cond.code ⟨"CellWorksModel", "newNode", "(IJ)I"⟩ prog_10_method_11_code 4 (some FieldType.int)) ∈ jm_W := jm_ok (jm_in4 189 rfl) rfl
theorem lk_Md_179 : (Cond.methodLink "CellWorksModel" 179 ⟨"CellWorksModel", "settle", "(I)V"⟩) ∈ jm_W := jm_ok (jm_in4 190 rfl) rfl
theorem wi_Md_settle : (Cond.instanceMethod ⟨"CellWorksModel", "settle", "(I)V"⟩) ∈ jm_W := jm_ok (jm_in4 192 rfl) rfl
theorem wc_Md_settle : (Cond.code ⟨"CellWorksModel", "settle", "(I)V"⟩ prog_10_method_15_code 3 none) ∈ jm_W := jm_ok (jm_in4 193 rfl) rfl
theorem lk_Md_160 : (Cond.methodLink "CellWorksModel" 160 ⟨"CellWorksModel", "isOperator", "(I)Z"⟩) ∈ jm_W := jm_ok (jm_in4 194 rfl) rfl
theorem wi_Md_isOperator : (Cond.instanceMethod ⟨"CellWorksModel", "isOperator", "(I)Z"⟩) ∈ jm_W := jm_ok (jm_in4 196 rfl) rfl
theorem wc_Md_isOperator : (Cond.code ⟨"CellWorksModel", "isOperator", "(I)Z"⟩ prog_10_method_13_code 2 (some FieldType.boolean)) ∈ jm_W := jm_ok (jm_in4 197 rfl) rfl
theorem lk_Md_163 : (Cond.methodLink "CellWorksModel" 163 ⟨"CellWorksModel", "strength", "(I)I"⟩) ∈ jm_W := jm_ok (jm_in4 198 rfl) rfl
theorem wt_Md_strength : (Cond.static ⟨"CellWorksModel", "strength", "(I)I"⟩) ∈ jm_W := jm_ok (jm_in4 199 rfl) rfl
theorem wc_Md_strength : (Cond.code ⟨"CellWorksModel", "strength", "(I)I"⟩ prog_10_method_14_code 1 (some FieldType.int)) ∈ jm_W := jm_ok (jm_in4 200 rfl) rfl
theorem lk_Md_183 : (Cond.methodLink "CellWorksModel" 183 ⟨"CellWorksModel", "deeper", "()V"⟩) ∈ jm_W := jm_ok (jm_in4 201 rfl) rfl
theorem wi_Md_deeper : (Cond.instanceMethod ⟨"CellWorksModel", "deeper", "()V"⟩) ∈ jm_W := jm_ok (jm_in4 203 rfl) rfl
theorem wc_Md_deeper : (Cond.code ⟨"CellWorksModel", "deeper", "()V"⟩ prog_10_method_16_code 1 none) ∈ jm_W := jm_ok (jm_in4 204 rfl) rfl
theorem lk_Md_186 : (Cond.methodLink "CellWorksModel" 186 ⟨"CellWorksModel", "await", "(I)V"⟩) ∈ jm_W := jm_ok (jm_in4 205 rfl) rfl
theorem wi_Md_await : (Cond.instanceMethod ⟨"CellWorksModel", "await", "(I)V"⟩) ∈ jm_W := jm_ok (jm_in4 207 rfl) rfl
theorem wc_Md_await : (Cond.code ⟨"CellWorksModel", "await", "(I)V"⟩ prog_10_method_12_code 2 none) ∈ jm_W := jm_ok (jm_in4 208 rfl) rfl
theorem lk_Md_202 : (Cond.methodLink "CellWorksModel" 202 ⟨"CellWorksModel", "behind", "()Z"⟩) ∈ jm_W := jm_ok (jm_in4 209 rfl) rfl
theorem wi_Md_behind : (Cond.instanceMethod ⟨"CellWorksModel", "behind", "()Z"⟩) ∈ jm_W := jm_ok (jm_in4 211 rfl) rfl
theorem wc_Md_behind : (Cond.code ⟨"CellWorksModel", "behind", "()Z"⟩ prog_10_method_19_code 3 (some FieldType.boolean)) ∈ jm_W := jm_ok (jm_in4 212 rfl) rfl
theorem lk_Md_192 : (Cond.methodLink "CellWorksModel" 192 ⟨"CellWorksModel", "wants", "(I)I"⟩) ∈ jm_W := jm_ok (jm_in4 213 rfl) rfl
theorem wt_Md_wants : (Cond.static ⟨"CellWorksModel", "wants", "(I)I"⟩) ∈ jm_W := jm_ok (jm_in4 214 rfl) rfl
theorem wc_Md_wants : (Cond.code ⟨"CellWorksModel", "wants", "(I)I"⟩ prog_10_method_17_code 1 (some FieldType.int)) ∈ jm_W := jm_ok (jm_in4 215 rfl) rfl
theorem lk_Md_195 : (Cond.methodLink "CellWorksModel" 195 ⟨"CellWorksModel", "give", "(I)V"⟩) ∈ jm_W := jm_ok (jm_in4 216 rfl) rfl
theorem wi_Md_give : (Cond.instanceMethod ⟨"CellWorksModel", "give", "(I)V"⟩) ∈ jm_W := jm_ok (jm_in4 218 rfl) rfl
theorem wc_Md_give : (Cond.code ⟨"CellWorksModel", "give", "(I)V"⟩ prog_10_method_20_code 3 none) ∈ jm_W := jm_ok (jm_in4 219 rfl) rfl
theorem lk_Md_214 : (Cond.methodLink "CellWorksModel" 214 ⟨"CellWorksModel", "cellOf", "(J)I"⟩) ∈ jm_W := jm_ok (jm_in4 220 rfl) rfl
theorem wi_Md_cellOf : (Cond.instanceMethod ⟨"CellWorksModel", "cellOf", "(J)I"⟩) ∈ jm_W := jm_ok (jm_in4 222 rfl) rfl
theorem wc_Md_cellOf : (Cond.code ⟨"CellWorksModel", "cellOf", "(J)I"⟩ prog_10_method_22_code 4 (some FieldType.int)) ∈ jm_W := jm_ok (jm_in4 223 rfl) rfl
theorem lk_Md_218 : (Cond.methodLink "CellWorksModel" 218 ⟨"CellWorksModel", "cellCount", "()I"⟩) ∈ jm_W := jm_ok (jm_in4 224 rfl) rfl
theorem wi_Md_cellCount : (Cond.instanceMethod ⟨"CellWorksModel", "cellCount", "()I"⟩) ∈ jm_W := jm_ok (jm_in4 226 rfl) rfl
theorem wc_Md_cellCount : (Cond.code ⟨"CellWorksModel", "cellCount", "()I"⟩ prog_10_method_23_code 3 (some FieldType.int)) ∈ jm_W := jm_ok (jm_in4 227 rfl) rfl
theorem lk_Md_221 : (Cond.methodLink "CellWorksModel" 221 ⟨"CellWorksModel", "readersOf", "(J)J"⟩) ∈ jm_W := jm_ok (jm_in4 228 rfl) rfl
theorem wi_Md_readersOf : (Cond.instanceMethod ⟨"CellWorksModel", "readersOf", "(J)J"⟩) ∈ jm_W := jm_ok (jm_in4 230 rfl) rfl
theorem wc_Md_readersOf : (Cond.code ⟨"CellWorksModel", "readersOf", "(J)J"⟩ prog_10_method_25_code 10 (some FieldType.long)) ∈ jm_W := jm_ok (jm_in4 231 rfl) rfl
theorem lk_Md_205 : (Cond.constantLong "CellWorksModel" 205 (-1 : Int64)) ∈ jm_W := jm_ok (jm_in4 232 rfl) rfl
theorem lk_Md_207 : (Cond.methodLink "CellWorksModel" 207 ⟨"CellWorksModel", "reads", "(IJ)Z"⟩) ∈ jm_W := jm_ok (jm_in4 233 rfl) rfl
theorem wi_Md_reads : (Cond.instanceMethod ⟨"CellWorksModel", "reads", "(IJ)Z"⟩) ∈ jm_W := jm_ok (jm_in4 235 rfl) rfl
theorem wc_Md_reads : (Cond.code ⟨"CellWorksModel", "reads", "(IJ)Z"⟩ prog_10_method_24_code 5 (some FieldType.boolean)) ∈ jm_W := jm_ok (jm_in4 236 rfl) rfl
theorem lk_Lw_80 : (Cond.methodLink "CellWorksLaw" 80 ⟨"CellWorksModel", "remove", "()Z"⟩) ∈ jm_W := jm_ok (jm_in4 237 rfl) rfl
theorem wi_Md_remove : (Cond.instanceMethod ⟨"CellWorksModel", "remove", "()Z"⟩) ∈ jm_W := jm_ok (jm_in4 238 rfl) rfl
theorem ws_Md_remove : (Cond.selects "CellWorksModel" ⟨"CellWorksModel", "remove", "()Z"⟩ ⟨"CellWorksModel", "remove", "()Z"⟩) ∈ jm_W := jm_ok (jm_in4 239 rfl) rfl
theorem wc_Md_remove : (Cond.code ⟨"CellWorksModel", "remove", "()Z"⟩ prog_10_method_40_code 2 (some FieldType.boolean)) ∈ jm_W := jm_ok (jm_in5 0 rfl) rfl
theorem lk_Md_269 : (Cond.methodLink "CellWorksModel" 269 ⟨"CellWorksModel", "isName", "()Z"⟩) ∈ jm_W := jm_ok (jm_in5 1 rfl) rfl
theorem wi_Md_isName : (Cond.instanceMethod ⟨"CellWorksModel", "isName", "()Z"⟩) ∈ jm_W := jm_ok (jm_in5 3 rfl) rfl
theorem wc_Md_isName : (Cond.code ⟨"CellWorksModel", "isName", "()Z"⟩ prog_10_method_39_code 4 (some FieldType.boolean)) ∈ jm_W := jm_ok (jm_in5 4 rfl) rfl
theorem lk_Lw_83 : (Cond.methodLink "CellWorksLaw" 83 ⟨"CellWorksModel", "build", "()I"⟩) ∈ jm_W := jm_ok (jm_in5 5 rfl) rfl
theorem wi_Md_build : (Cond.instanceMethod ⟨"CellWorksModel", "build", "()I"⟩) ∈ jm_W := jm_ok (jm_in5 6 rfl) rfl
theorem ws_Md_build : (Cond.selects "CellWorksModel" ⟨"CellWorksModel", "build", "()I"⟩ ⟨"CellWorksModel", "build", "()I"⟩) ∈ jm_W := jm_ok (jm_in5 7 rfl) rfl
theorem wc_Md_build : (Cond.code ⟨"CellWorksModel", "build", "()I"⟩ prog_10_method_41_code 2 (some FieldType.int)) ∈ jm_W := jm_ok (jm_in5 8 rfl) rfl
theorem lk_Md_272 : (Cond.methodLink "CellWorksModel" 272 ⟨"CellWorksModel", "below", "(I)J"⟩) ∈ jm_W := jm_ok (jm_in5 9 rfl) rfl
theorem wi_Md_below : (Cond.instanceMethod ⟨"CellWorksModel", "below", "(I)J"⟩) ∈ jm_W := jm_ok (jm_in5 11 rfl) rfl
theorem wc_Md_below : (Cond.code ⟨"CellWorksModel", "below", "(I)J"⟩ prog_10_method_38_code 8 (some FieldType.long)) ∈ jm_W := jm_ok (jm_in5 12 rfl) rfl
theorem lk_Md_275 : (Cond.methodLink "CellWorksModel" 275 ⟨"CellWorksModel", "buildSet", "(J)I"⟩) ∈ jm_W := jm_ok (jm_in5 13 rfl) rfl
theorem wi_Md_buildSet : (Cond.instanceMethod ⟨"CellWorksModel", "buildSet", "(J)I"⟩) ∈ jm_W := jm_ok (jm_in5 15 rfl) rfl
theorem wc_Md_buildSet : (Cond.code ⟨"CellWorksModel", "buildSet", "(J)I"⟩ prog_10_method_37_code 6 (some FieldType.int)) ∈ jm_W := jm_ok (jm_in5 16 rfl) rfl
theorem lk_Md_260 : (Cond.methodLink "CellWorksModel" 260 ⟨"CellWorksModel", "isReady", "(IJ)Z"⟩) ∈ jm_W := jm_ok (jm_in5 17 rfl) rfl
theorem wi_Md_isReady : (Cond.instanceMethod ⟨"CellWorksModel", "isReady", "(IJ)Z"⟩) ∈ jm_W := jm_ok (jm_in5 19 rfl) rfl
theorem wc_Md_isReady : (Cond.code ⟨"CellWorksModel", "isReady", "(IJ)Z"⟩ prog_10_method_36_code 6 (some FieldType.boolean)) ∈ jm_W := jm_ok (jm_in5 20 rfl) rfl
theorem lk_Md_263 : (Cond.methodLink "CellWorksModel" 263 ⟨"CellWorksModel", "isStale", "(I)Z"⟩) ∈ jm_W := jm_ok (jm_in5 21 rfl) rfl
theorem wi_Md_isStale : (Cond.instanceMethod ⟨"CellWorksModel", "isStale", "(I)Z"⟩) ∈ jm_W := jm_ok (jm_in5 23 rfl) rfl
theorem wc_Md_isStale : (Cond.code ⟨"CellWorksModel", "isStale", "(I)Z"⟩ prog_10_method_34_code 4 (some FieldType.boolean)) ∈ jm_W := jm_ok (jm_in5 24 rfl) rfl
theorem lk_Md_244 : (Cond.methodLink "CellWorksModel" 244 ⟨"CellWorksModel", "resultOf", "(J)I"⟩) ∈ jm_W := jm_ok (jm_in5 25 rfl) rfl
theorem wi_Md_resultOf : (Cond.instanceMethod ⟨"CellWorksModel", "resultOf", "(J)I"⟩) ∈ jm_W := jm_ok (jm_in5 27 rfl) rfl
theorem wc_Md_resultOf : (Cond.code ⟨"CellWorksModel", "resultOf", "(J)I"⟩ prog_10_method_28_code 4 (some FieldType.int)) ∈ jm_W := jm_ok (jm_in5 28 rfl) rfl
theorem lk_Md_247 : (Cond.methodLink "CellWorksModel" 247 ⟨"CellWorksModel", "valueOf", "(J)J"⟩) ∈ jm_W := jm_ok (jm_in5 29 rfl) rfl
theorem wi_Md_valueOf : (Cond.instanceMethod ⟨"CellWorksModel", "valueOf", "(J)J"⟩) ∈ jm_W := jm_ok (jm_in5 31 rfl) rfl
theorem wc_Md_valueOf : (Cond.code ⟨"CellWorksModel", "valueOf", "(J)J"⟩ prog_10_method_29_code 4 (some FieldType.long)) ∈ jm_W := jm_ok (jm_in5 32 rfl) rfl
theorem lk_Md_266 : (Cond.methodLink "CellWorksModel" 266 ⟨"CellWorksModel", "workOut", "(I)V"⟩) ∈ jm_W := jm_ok (jm_in5 33 rfl) rfl
theorem wi_Md_workOut : (Cond.instanceMethod ⟨"CellWorksModel", "workOut", "(I)V"⟩) ∈ jm_W := jm_ok (jm_in5 35 rfl) rfl
theorem wc_Md_workOut : (Cond.code ⟨"CellWorksModel", "workOut", "(I)V"⟩ prog_10_method_35_code 5 none) ∈ jm_W := jm_ok (jm_in5 36 rfl) rfl
theorem lk_Md_250 : (Cond.methodLink "CellWorksModel" 250 ⟨"CellWorksModel", "work", "(I)J"⟩) ∈ jm_W := jm_ok (jm_in5 37 rfl) rfl
theorem wi_Md_work : (Cond.instanceMethod ⟨"CellWorksModel", "work", "(I)J"⟩) ∈ jm_W := jm_ok (jm_in5 39 rfl) rfl
theorem wc_Md_work : (Cond.code ⟨"CellWorksModel", "work", "(I)J"⟩ prog_10_method_31_code 4 (some FieldType.long)) ∈ jm_W := jm_ok (jm_in5 40 rfl) rfl
theorem lk_Md_228 : (Cond.methodLink "CellWorksModel" 228 ⟨"CellWorksModel", "push", "(I)V"⟩) ∈ jm_W := jm_ok (jm_in5 41 rfl) rfl
theorem wi_Md_push : (Cond.instanceMethod ⟨"CellWorksModel", "push", "(I)V"⟩) ∈ jm_W := jm_ok (jm_in5 43 rfl) rfl
theorem wc_Md_push : (Cond.code ⟨"CellWorksModel", "push", "(I)V"⟩ prog_10_method_30_code 2 none) ∈ jm_W := jm_ok (jm_in5 44 rfl) rfl
theorem lk_Md_234 : (Cond.methodLink "CellWorksModel" 234 ⟨"CellWorksModel", "leaf", "(I)V"⟩) ∈ jm_W := jm_ok (jm_in5 45 rfl) rfl
theorem wi_Md_leaf : (Cond.instanceMethod ⟨"CellWorksModel", "leaf", "(I)V"⟩) ∈ jm_W := jm_ok (jm_in5 47 rfl) rfl
theorem wc_Md_leaf : (Cond.code ⟨"CellWorksModel", "leaf", "(I)V"⟩ prog_10_method_32_code 2 none) ∈ jm_W := jm_ok (jm_in5 48 rfl) rfl
theorem lk_Md_240 : (Cond.methodLink "CellWorksModel" 240 ⟨"CellWorksModel", "both", "(IJJ)J"⟩) ∈ jm_W := jm_ok (jm_in5 49 rfl) rfl
theorem wi_Md_both : (Cond.instanceMethod ⟨"CellWorksModel", "both", "(IJJ)J"⟩) ∈ jm_W := jm_ok (jm_in5 51 rfl) rfl
theorem wc_Md_both : (Cond.code ⟨"CellWorksModel", "both", "(IJJ)J"⟩ prog_10_method_33_code 6 (some FieldType.long)) ∈ jm_W := jm_ok (jm_in5 52 rfl) rfl
theorem lk_Lw_87 : (Cond.methodLink "CellWorksLaw" 87 ⟨"CellWorksModel", "buildAll", "()I"⟩) ∈ jm_W := jm_ok (jm_in5 53 rfl) rfl
theorem wi_Md_buildAll : (Cond.instanceMethod ⟨"CellWorksModel", "buildAll", "()I"⟩) ∈ jm_W := jm_ok (jm_in5 54 rfl) rfl
theorem ws_Md_buildAll : (Cond.selects "CellWorksModel" ⟨"CellWorksModel", "buildAll", "()I"⟩ ⟨"CellWorksModel", "buildAll", "()I"⟩) ∈ jm_W := jm_ok (jm_in5 55 rfl) rfl
theorem wc_Md_buildAll : (Cond.code ⟨"CellWorksModel", "buildAll", "()I"⟩ prog_10_method_42_code 4 (some FieldType.int)) ∈ jm_W := jm_ok (jm_in5 56 rfl) rfl
theorem lk_Lw_76 : (Cond.methodLink "CellWorksLaw" 76 ⟨"CellWorksModel", "fault", "()I"⟩) ∈ jm_W := jm_ok (jm_in5 57 rfl) rfl
theorem wi_Md_fault : (Cond.instanceMethod ⟨"CellWorksModel", "fault", "()I"⟩) ∈ jm_W := jm_ok (jm_in5 58 rfl) rfl
theorem ws_Md_fault : (Cond.selects "CellWorksModel" ⟨"CellWorksModel", "fault", "()I"⟩ ⟨"CellWorksModel", "fault", "()I"⟩) ∈ jm_W := jm_ok (jm_in5 59 rfl) rfl
theorem wc_Md_fault : (Cond.code ⟨"CellWorksModel", "fault", "()I"⟩ prog_10_method_43_code 1 (some FieldType.int)) ∈ jm_W := jm_ok (jm_in5 60 rfl) rfl
theorem lk_Lw_90 : (Cond.methodLink "CellWorksLaw" 90 ⟨"CellWorksModel", "value", "()J"⟩) ∈ jm_W := jm_ok (jm_in5 61 rfl) rfl
theorem wi_Md_value : (Cond.instanceMethod ⟨"CellWorksModel", "value", "()J"⟩) ∈ jm_W := jm_ok (jm_in5 62 rfl) rfl
theorem ws_Md_value : (Cond.selects "CellWorksModel" ⟨"CellWorksModel", "value", "()J"⟩ ⟨"CellWorksModel", "value", "()J"⟩) ∈ jm_W := jm_ok (jm_in5 63 rfl) rfl
theorem wc_Md_value : (Cond.code ⟨"CellWorksModel", "value", "()J"⟩ prog_10_method_44_code 1 (some FieldType.long)) ∈ jm_W := jm_ok (jm_in5 64 rfl) rfl
theorem lk_Lw_93 : (Cond.methodLink "CellWorksLaw" 93 ⟨"CellWorksModel", "state", "()I"⟩) ∈ jm_W := jm_ok (jm_in5 65 rfl) rfl
theorem wi_Md_state : (Cond.instanceMethod ⟨"CellWorksModel", "state", "()I"⟩) ∈ jm_W := jm_ok (jm_in5 66 rfl) rfl
theorem ws_Md_state : (Cond.selects "CellWorksModel" ⟨"CellWorksModel", "state", "()I"⟩ ⟨"CellWorksModel", "state", "()I"⟩) ∈ jm_W := jm_ok (jm_in5 67 rfl) rfl
theorem wc_Md_state : (Cond.code ⟨"CellWorksModel", "state", "()I"⟩ prog_10_method_45_code 2 (some FieldType.int)) ∈ jm_W := jm_ok (jm_in5 68 rfl) rfl
theorem lk_Lw_97 : (Cond.methodLink "CellWorksLaw" 97 ⟨"CellWorksModel", "readers", "(Z)I"⟩) ∈ jm_W := jm_ok (jm_in5 69 rfl) rfl
theorem wi_Md_readers : (Cond.instanceMethod ⟨"CellWorksModel", "readers", "(Z)I"⟩) ∈ jm_W := jm_ok (jm_in5 70 rfl) rfl
theorem ws_Md_readers : (Cond.selects "CellWorksModel" ⟨"CellWorksModel", "readers", "(Z)I"⟩ ⟨"CellWorksModel", "readers", "(Z)I"⟩) ∈ jm_W := jm_ok (jm_in5 71 rfl) rfl
theorem wc_Md_readers : (Cond.code ⟨"CellWorksModel", "readers", "(Z)I"⟩ prog_10_method_46_code 6 (some FieldType.int)) ∈ jm_W := jm_ok (jm_in5 72 rfl) rfl
theorem lk_Md_278 : (Cond.methodLink "CellWorksModel" 278 ⟨"CellWorksModel", "howMany", "(J)I"⟩) ∈ jm_W := jm_ok (jm_in5 73 rfl) rfl
theorem wt_Md_howMany : (Cond.static ⟨"CellWorksModel", "howMany", "(J)I"⟩) ∈ jm_W := jm_ok (jm_in5 74 rfl) rfl
theorem wc_Md_howMany : (Cond.code ⟨"CellWorksModel", "howMany", "(J)I"⟩ prog_10_method_26_code 4 (some FieldType.int)) ∈ jm_W := jm_ok (jm_in5 75 rfl) rfl
theorem lk_Lw_101 : (Cond.methodLink "CellWorksLaw" 101 ⟨"CellWorksModel", "built", "(II)I"⟩) ∈ jm_W := jm_ok (jm_in5 76 rfl) rfl
theorem wi_Md_built : (Cond.instanceMethod ⟨"CellWorksModel", "built", "(II)I"⟩) ∈ jm_W := jm_ok (jm_in5 77 rfl) rfl
theorem ws_Md_built : (Cond.selects "CellWorksModel" ⟨"CellWorksModel", "built", "(II)I"⟩ ⟨"CellWorksModel", "built", "(II)I"⟩) ∈ jm_W := jm_ok (jm_in5 78 rfl) rfl
theorem wc_Md_built : (Cond.code ⟨"CellWorksModel", "built", "(II)I"⟩ prog_10_method_47_code 4 (some FieldType.int)) ∈ jm_W := jm_ok (jm_in5 79 rfl) rfl
theorem lk_Lw_105 : (Cond.methodLink "CellWorksLaw" 105 ⟨"CellWorksModel", "count", "(I)I"⟩) ∈ jm_W := jm_ok (jm_in5 80 rfl) rfl
theorem wi_Md_count : (Cond.instanceMethod ⟨"CellWorksModel", "count", "(I)I"⟩) ∈ jm_W := jm_ok (jm_in5 81 rfl) rfl
theorem ws_Md_count : (Cond.selects "CellWorksModel" ⟨"CellWorksModel", "count", "(I)I"⟩ ⟨"CellWorksModel", "count", "(I)I"⟩) ∈ jm_W := jm_ok (jm_in5 82 rfl) rfl
theorem wc_Md_count : (Cond.code ⟨"CellWorksModel", "count", "(I)I"⟩ prog_10_method_48_code 4 (some FieldType.int)) ∈ jm_W := jm_ok (jm_in5 83 rfl) rfl
theorem lk_Lw_61 : (Cond.methodLink "CellWorksLaw" 61 ⟨"CellWorksModel", "feed", "(IIIII)I"⟩) ∈ jm_W := jm_ok (jm_in5 84 rfl) rfl
theorem wi_Md_feed : (Cond.instanceMethod ⟨"CellWorksModel", "feed", "(IIIII)I"⟩) ∈ jm_W := jm_ok (jm_in5 85 rfl) rfl
theorem ws_Md_feed : (Cond.selects "CellWorksModel" ⟨"CellWorksModel", "feed", "(IIIII)I"⟩ ⟨"CellWorksModel", "feed", "(IIIII)I"⟩) ∈ jm_W := jm_ok (jm_in5 86 rfl) rfl
theorem wc_Md_feed : (Cond.code ⟨"CellWorksModel", "feed", "(IIIII)I"⟩ prog_10_method_49_code 8 (some FieldType.int)) ∈ jm_W := jm_ok (jm_in5 87 rfl) rfl
theorem lk_Lw_68 : (Cond.methodLink "CellWorksLaw" 68 ⟨"CellWorksModel", "end", "(I)V"⟩) ∈ jm_W := jm_ok (jm_in5 88 rfl) rfl
theorem wi_Md_end : (Cond.instanceMethod ⟨"CellWorksModel", "end", "(I)V"⟩) ∈ jm_W := jm_ok (jm_in5 89 rfl) rfl
theorem ws_Md_end : (Cond.selects "CellWorksModel" ⟨"CellWorksModel", "end", "(I)V"⟩ ⟨"CellWorksModel", "end", "(I)V"⟩) ∈ jm_W := jm_ok (jm_in5 90 rfl) rfl
theorem wc_Md_end : (Cond.code ⟨"CellWorksModel", "end", "(I)V"⟩ prog_10_method_50_code 2 none) ∈ jm_W := jm_ok (jm_in5 91 rfl) rfl
theorem ws_Rd_pass : Cond.selects "CellWorks$Reader" ⟨"CellWorks$Reader", "pass", "()Z"⟩ ⟨"CellWorks$Reader", "pass", "()Z"⟩ ∈ jm_W := jm_w0 (List.mem_map.mpr ⟨(⟨"CellWorks$Reader", "pass", "()Z"⟩, 7), by decide +kernel, rfl⟩) rfl
theorem ws_Tp_readWord : Cond.selects "CellWorks$Tape" ⟨"CellWorks$Tape", "readWord", "()V"⟩ ⟨"CellWorks$Tape", "readWord", "()V"⟩ ∈ jm_W := jm_w0 (List.mem_map.mpr ⟨(⟨"CellWorks$Tape", "readWord", "()V"⟩, 7), by decide +kernel, rfl⟩) rfl
theorem ws_Tp_readNumber : Cond.selects "CellWorks$Tape" ⟨"CellWorks$Tape", "readNumber", "()V"⟩ ⟨"CellWorks$Tape", "readNumber", "()V"⟩ ∈ jm_W := jm_w0 (List.mem_map.mpr ⟨(⟨"CellWorks$Tape", "readNumber", "()V"⟩, 7), by decide +kernel, rfl⟩) rfl
theorem ws_Rd_refuse : Cond.selects "CellWorks$Reader" ⟨"CellWorks$Reader", "refuse", "(I)Z"⟩ ⟨"CellWorks$Reader", "refuse", "(I)Z"⟩ ∈ jm_W := jm_w0 (List.mem_map.mpr ⟨(⟨"CellWorks$Reader", "refuse", "(I)Z"⟩, 7), by decide +kernel, rfl⟩) rfl
theorem ws_Rd_expect : Cond.selects "CellWorks$Reader" ⟨"CellWorks$Reader", "expect", "(I)Z"⟩ ⟨"CellWorks$Reader", "expect", "(I)Z"⟩ ∈ jm_W := jm_w0 (List.mem_map.mpr ⟨(⟨"CellWorks$Reader", "expect", "(I)Z"⟩, 7), by decide +kernel, rfl⟩) rfl
theorem ws_Rd_sum : Cond.selects "CellWorks$Reader" ⟨"CellWorks$Reader", "sum", "(I)Z"⟩ ⟨"CellWorks$Reader", "sum", "(I)Z"⟩ ∈ jm_W := jm_w0 (List.mem_map.mpr ⟨(⟨"CellWorks$Reader", "sum", "(I)Z"⟩, 7), by decide +kernel, rfl⟩) rfl
theorem ws_Rd_product : Cond.selects "CellWorks$Reader" ⟨"CellWorks$Reader", "product", "(I)Z"⟩ ⟨"CellWorks$Reader", "product", "(I)Z"⟩ ∈ jm_W := jm_w0 (List.mem_map.mpr ⟨(⟨"CellWorks$Reader", "product", "(I)Z"⟩, 7), by decide +kernel, rfl⟩) rfl
theorem ws_Rd_part : Cond.selects "CellWorks$Reader" ⟨"CellWorks$Reader", "part", "(I)Z"⟩ ⟨"CellWorks$Reader", "part", "(I)Z"⟩ ∈ jm_W := jm_w0 (List.mem_map.mpr ⟨(⟨"CellWorks$Reader", "part", "(I)Z"⟩, 7), by decide +kernel, rfl⟩) rfl
theorem ws_Rd_passNode : Cond.selects "CellWorks$Reader" ⟨"CellWorks$Reader", "passNode", "()Z"⟩ ⟨"CellWorks$Reader", "passNode", "()Z"⟩ ∈ jm_W := jm_w0 (List.mem_map.mpr ⟨(⟨"CellWorks$Reader", "passNode", "()Z"⟩, 7), by decide +kernel, rfl⟩) rfl
theorem ws_Rd_noteName : Cond.selects "CellWorks$Reader" ⟨"CellWorks$Reader", "noteName", "()V"⟩ ⟨"CellWorks$Reader", "noteName", "()V"⟩ ∈ jm_W := jm_w0 (List.mem_map.mpr ⟨(⟨"CellWorks$Reader", "noteName", "()V"⟩, 7), by decide +kernel, rfl⟩) rfl
theorem ws_Rd_negated : Cond.selects "CellWorks$Reader" ⟨"CellWorks$Reader", "negated", "(I)Z"⟩ ⟨"CellWorks$Reader", "negated", "(I)Z"⟩ ∈ jm_W := jm_w0 (List.mem_map.mpr ⟨(⟨"CellWorks$Reader", "negated", "(I)Z"⟩, 7), by decide +kernel, rfl⟩) rfl
theorem ws_Rd_passOpening : Cond.selects "CellWorks$Reader" ⟨"CellWorks$Reader", "passOpening", "(I)Z"⟩ ⟨"CellWorks$Reader", "passOpening", "(I)Z"⟩ ∈ jm_W := jm_w0 (List.mem_map.mpr ⟨(⟨"CellWorks$Reader", "passOpening", "(I)Z"⟩, 7), by decide +kernel, rfl⟩) rfl
theorem ws_Rd_lesserOrGreater : Cond.selects "CellWorks$Reader" ⟨"CellWorks$Reader", "lesserOrGreater", "(I)Z"⟩ ⟨"CellWorks$Reader", "lesserOrGreater", "(I)Z"⟩ ∈ jm_W := jm_w0 (List.mem_map.mpr ⟨(⟨"CellWorks$Reader", "lesserOrGreater", "(I)Z"⟩, 7), by decide +kernel, rfl⟩) rfl
theorem ws_Rd_choice : Cond.selects "CellWorks$Reader" ⟨"CellWorks$Reader", "choice", "(I)Z"⟩ ⟨"CellWorks$Reader", "choice", "(I)Z"⟩ ∈ jm_W := jm_w0 (List.mem_map.mpr ⟨(⟨"CellWorks$Reader", "choice", "(I)Z"⟩, 7), by decide +kernel, rfl⟩) rfl
theorem ws_CW_settle : Cond.selects "CellWorks" ⟨"CellWorks", "settle", "()V"⟩ ⟨"CellWorks", "settle", "()V"⟩ ∈ jm_W := jm_w0 (List.mem_map.mpr ⟨(⟨"CellWorks", "settle", "()V"⟩, 3), by decide +kernel, rfl⟩) rfl
theorem ws_Cs_placeFor : Cond.selects "CellWorks$Cells" ⟨"CellWorks$Cells", "placeFor", "(J)I"⟩ ⟨"CellWorks$Cells", "placeFor", "(J)I"⟩ ∈ jm_W := jm_w0 (List.mem_map.mpr ⟨(⟨"CellWorks$Cells", "placeFor", "(J)I"⟩, 3), by decide +kernel, rfl⟩) rfl
theorem ws_Cs_trace : Cond.selects "CellWorks$Cells" ⟨"CellWorks$Cells", "trace", "()V"⟩ ⟨"CellWorks$Cells", "trace", "()V"⟩ ∈ jm_W := jm_w0 (List.mem_map.mpr ⟨(⟨"CellWorks$Cells", "trace", "()V"⟩, 3), by decide +kernel, rfl⟩) rfl
theorem ws_Bd_workOut : Cond.selects "CellWorks$Builder" ⟨"CellWorks$Builder", "workOut", "(LCellWorks$Cells;LCellWorks$Cell;)V"⟩ ⟨"CellWorks$Builder", "workOut", "(LCellWorks$Cells;LCellWorks$Cell;)V"⟩ ∈ jm_W := jm_w0 (List.mem_map.mpr ⟨(⟨"CellWorks$Builder", "workOut", "(LCellWorks$Cells;LCellWorks$Cell;)V"⟩, 4), by decide +kernel, rfl⟩) rfl
theorem ws_Wk_take : Cond.selects "CellWorks$Work" ⟨"CellWorks$Work", "take", "(LCellWorks$Formula;III)I"⟩ ⟨"CellWorks$Work", "take", "(LCellWorks$Formula;III)I"⟩ ∈ jm_W := jm_w0 (List.mem_map.mpr ⟨(⟨"CellWorks$Work", "take", "(LCellWorks$Formula;III)I"⟩, 4), by decide +kernel, rfl⟩) rfl
theorem ws_Wk_push : Cond.selects "CellWorks$Work" ⟨"CellWorks$Work", "push", "(J)V"⟩ ⟨"CellWorks$Work", "push", "(J)V"⟩ ∈ jm_W := jm_w0 (List.mem_map.mpr ⟨(⟨"CellWorks$Work", "push", "(J)V"⟩, 4), by decide +kernel, rfl⟩) rfl
theorem ws_Wk_pushResult : Cond.selects "CellWorks$Work" ⟨"CellWorks$Work", "pushResult", "(LCellWorks$Formula;I)V"⟩ ⟨"CellWorks$Work", "pushResult", "(LCellWorks$Formula;I)V"⟩ ∈ jm_W := jm_w0 (List.mem_map.mpr ⟨(⟨"CellWorks$Work", "pushResult", "(LCellWorks$Formula;I)V"⟩, 4), by decide +kernel, rfl⟩) rfl
theorem ws_Wk_pop : Cond.selects "CellWorks$Work" ⟨"CellWorks$Work", "pop", "()J"⟩ ⟨"CellWorks$Work", "pop", "()J"⟩ ∈ jm_W := jm_w0 (List.mem_map.mpr ⟨(⟨"CellWorks$Work", "pop", "()J"⟩, 4), by decide +kernel, rfl⟩) rfl
theorem ws_Wk_join : Cond.selects "CellWorks$Work" ⟨"CellWorks$Work", "join", "(IJJ)V"⟩ ⟨"CellWorks$Work", "join", "(IJJ)V"⟩ ∈ jm_W := jm_w0 (List.mem_map.mpr ⟨(⟨"CellWorks$Work", "join", "(IJJ)V"⟩, 4), by decide +kernel, rfl⟩) rfl
theorem ws_Wk_divide : Cond.selects "CellWorks$Work" ⟨"CellWorks$Work", "divide", "(JJ)V"⟩ ⟨"CellWorks$Work", "divide", "(JJ)V"⟩ ∈ jm_W := jm_w0 (List.mem_map.mpr ⟨(⟨"CellWorks$Work", "divide", "(JJ)V"⟩, 4), by decide +kernel, rfl⟩) rfl
theorem ws_Bd_keepNames : Cond.selects "CellWorks$Builder" ⟨"CellWorks$Builder", "keepNames", "(LCellWorks$Cells;J)V"⟩ ⟨"CellWorks$Builder", "keepNames", "(LCellWorks$Cells;J)V"⟩ ∈ jm_W := jm_w0 (List.mem_map.mpr ⟨(⟨"CellWorks$Builder", "keepNames", "(LCellWorks$Cells;J)V"⟩, 4), by decide +kernel, rfl⟩) rfl
theorem ws_CW_nameOnTape : Cond.selects "CellWorks" ⟨"CellWorks", "nameOnTape", "()J"⟩ ⟨"CellWorks", "nameOnTape", "()J"⟩ ∈ jm_W := jm_w0 (List.mem_map.mpr ⟨(⟨"CellWorks", "nameOnTape", "()J"⟩, 3), by decide +kernel, rfl⟩) rfl
theorem ws_Md_next : Cond.selects "CellWorksModel" ⟨"CellWorksModel", "next", "()V"⟩ ⟨"CellWorksModel", "next", "()V"⟩ ∈ jm_W := jm_w0 (List.mem_map.mpr ⟨(⟨"CellWorksModel", "next", "()V"⟩, 45), by decide +kernel, rfl⟩) rfl
theorem ws_Md_at : Cond.selects "CellWorksModel" ⟨"CellWorksModel", "at", "(I)I"⟩ ⟨"CellWorksModel", "at", "(I)I"⟩ ∈ jm_W := jm_w0 (List.mem_map.mpr ⟨(⟨"CellWorksModel", "at", "(I)I"⟩, 45), by decide +kernel, rfl⟩) rfl
theorem ws_Md_function : Cond.selects "CellWorksModel" ⟨"CellWorksModel", "function", "()I"⟩ ⟨"CellWorksModel", "function", "()I"⟩ ∈ jm_W := jm_w0 (List.mem_map.mpr ⟨(⟨"CellWorksModel", "function", "()I"⟩, 45), by decide +kernel, rfl⟩) rfl
theorem ws_Md_wrong : Cond.selects "CellWorksModel" ⟨"CellWorksModel", "wrong", "()V"⟩ ⟨"CellWorksModel", "wrong", "()V"⟩ ∈ jm_W := jm_w0 (List.mem_map.mpr ⟨(⟨"CellWorksModel", "wrong", "()V"⟩, 45), by decide +kernel, rfl⟩) rfl
theorem ws_Md_fail : Cond.selects "CellWorksModel" ⟨"CellWorksModel", "fail", "(II)V"⟩ ⟨"CellWorksModel", "fail", "(II)V"⟩ ∈ jm_W := jm_w0 (List.mem_map.mpr ⟨(⟨"CellWorksModel", "fail", "(II)V"⟩, 45), by decide +kernel, rfl⟩) rfl
theorem ws_Md_formula : Cond.selects "CellWorksModel" ⟨"CellWorksModel", "formula", "()V"⟩ ⟨"CellWorksModel", "formula", "()V"⟩ ∈ jm_W := jm_w0 (List.mem_map.mpr ⟨(⟨"CellWorksModel", "formula", "()V"⟩, 45), by decide +kernel, rfl⟩) rfl
theorem ws_Md_part : Cond.selects "CellWorksModel" ⟨"CellWorksModel", "part", "()Z"⟩ ⟨"CellWorksModel", "part", "()Z"⟩ ∈ jm_W := jm_w0 (List.mem_map.mpr ⟨(⟨"CellWorksModel", "part", "()Z"⟩, 45), by decide +kernel, rfl⟩) rfl
theorem ws_Md_newNode : Cond.selects "CellWorksModel" ⟨"CellWorksModel", "newNode", "(IJ)I"⟩ ⟨"CellWorksModel", "newNode", "(IJ)I"⟩ ∈ jm_W := jm_w0 (List.mem_map.mpr ⟨(⟨"CellWorksModel", "newNode", "(IJ)I"⟩, 45), by decide +kernel, rfl⟩) rfl
theorem ws_Md_settle : Cond.selects "CellWorksModel" ⟨"CellWorksModel", "settle", "(I)V"⟩ ⟨"CellWorksModel", "settle", "(I)V"⟩ ∈ jm_W := jm_w0 (List.mem_map.mpr ⟨(⟨"CellWorksModel", "settle", "(I)V"⟩, 45), by decide +kernel, rfl⟩) rfl
theorem ws_Md_isOperator : Cond.selects "CellWorksModel" ⟨"CellWorksModel", "isOperator", "(I)Z"⟩ ⟨"CellWorksModel", "isOperator", "(I)Z"⟩ ∈ jm_W := jm_w0 (List.mem_map.mpr ⟨(⟨"CellWorksModel", "isOperator", "(I)Z"⟩, 45), by decide +kernel, rfl⟩) rfl
theorem ws_Md_deeper : Cond.selects "CellWorksModel" ⟨"CellWorksModel", "deeper", "()V"⟩ ⟨"CellWorksModel", "deeper", "()V"⟩ ∈ jm_W := jm_w0 (List.mem_map.mpr ⟨(⟨"CellWorksModel", "deeper", "()V"⟩, 45), by decide +kernel, rfl⟩) rfl
theorem ws_Md_await : Cond.selects "CellWorksModel" ⟨"CellWorksModel", "await", "(I)V"⟩ ⟨"CellWorksModel", "await", "(I)V"⟩ ∈ jm_W := jm_w0 (List.mem_map.mpr ⟨(⟨"CellWorksModel", "await", "(I)V"⟩, 45), by decide +kernel, rfl⟩) rfl
theorem ws_Md_behind : Cond.selects "CellWorksModel" ⟨"CellWorksModel", "behind", "()Z"⟩ ⟨"CellWorksModel", "behind", "()Z"⟩ ∈ jm_W := jm_w0 (List.mem_map.mpr ⟨(⟨"CellWorksModel", "behind", "()Z"⟩, 45), by decide +kernel, rfl⟩) rfl
theorem ws_Md_give : Cond.selects "CellWorksModel" ⟨"CellWorksModel", "give", "(I)V"⟩ ⟨"CellWorksModel", "give", "(I)V"⟩ ∈ jm_W := jm_w0 (List.mem_map.mpr ⟨(⟨"CellWorksModel", "give", "(I)V"⟩, 45), by decide +kernel, rfl⟩) rfl
theorem ws_Md_cellOf : Cond.selects "CellWorksModel" ⟨"CellWorksModel", "cellOf", "(J)I"⟩ ⟨"CellWorksModel", "cellOf", "(J)I"⟩ ∈ jm_W := jm_w0 (List.mem_map.mpr ⟨(⟨"CellWorksModel", "cellOf", "(J)I"⟩, 45), by decide +kernel, rfl⟩) rfl
theorem ws_Md_cellCount : Cond.selects "CellWorksModel" ⟨"CellWorksModel", "cellCount", "()I"⟩ ⟨"CellWorksModel", "cellCount", "()I"⟩ ∈ jm_W := jm_w0 (List.mem_map.mpr ⟨(⟨"CellWorksModel", "cellCount", "()I"⟩, 45), by decide +kernel, rfl⟩) rfl
theorem ws_Md_readersOf : Cond.selects "CellWorksModel" ⟨"CellWorksModel", "readersOf", "(J)J"⟩ ⟨"CellWorksModel", "readersOf", "(J)J"⟩ ∈ jm_W := jm_w0 (List.mem_map.mpr ⟨(⟨"CellWorksModel", "readersOf", "(J)J"⟩, 45), by decide +kernel, rfl⟩) rfl
theorem ws_Md_reads : Cond.selects "CellWorksModel" ⟨"CellWorksModel", "reads", "(IJ)Z"⟩ ⟨"CellWorksModel", "reads", "(IJ)Z"⟩ ∈ jm_W := jm_w0 (List.mem_map.mpr ⟨(⟨"CellWorksModel", "reads", "(IJ)Z"⟩, 45), by decide +kernel, rfl⟩) rfl
theorem ws_Md_isName : Cond.selects "CellWorksModel" ⟨"CellWorksModel", "isName", "()Z"⟩ ⟨"CellWorksModel", "isName", "()Z"⟩ ∈ jm_W := jm_w0 (List.mem_map.mpr ⟨(⟨"CellWorksModel", "isName", "()Z"⟩, 45), by decide +kernel, rfl⟩) rfl
theorem ws_Md_below : Cond.selects "CellWorksModel" ⟨"CellWorksModel", "below", "(I)J"⟩ ⟨"CellWorksModel", "below", "(I)J"⟩ ∈ jm_W := jm_w0 (List.mem_map.mpr ⟨(⟨"CellWorksModel", "below", "(I)J"⟩, 45), by decide +kernel, rfl⟩) rfl
theorem ws_Md_buildSet : Cond.selects "CellWorksModel" ⟨"CellWorksModel", "buildSet", "(J)I"⟩ ⟨"CellWorksModel", "buildSet", "(J)I"⟩ ∈ jm_W := jm_w0 (List.mem_map.mpr ⟨(⟨"CellWorksModel", "buildSet", "(J)I"⟩, 45), by decide +kernel, rfl⟩) rfl
theorem ws_Md_isReady : Cond.selects "CellWorksModel" ⟨"CellWorksModel", "isReady", "(IJ)Z"⟩ ⟨"CellWorksModel", "isReady", "(IJ)Z"⟩ ∈ jm_W := jm_w0 (List.mem_map.mpr ⟨(⟨"CellWorksModel", "isReady", "(IJ)Z"⟩, 45), by decide +kernel, rfl⟩) rfl
theorem ws_Md_isStale : Cond.selects "CellWorksModel" ⟨"CellWorksModel", "isStale", "(I)Z"⟩ ⟨"CellWorksModel", "isStale", "(I)Z"⟩ ∈ jm_W := jm_w0 (List.mem_map.mpr ⟨(⟨"CellWorksModel", "isStale", "(I)Z"⟩, 45), by decide +kernel, rfl⟩) rfl
theorem ws_Md_resultOf : Cond.selects "CellWorksModel" ⟨"CellWorksModel", "resultOf", "(J)I"⟩ ⟨"CellWorksModel", "resultOf", "(J)I"⟩ ∈ jm_W := jm_w0 (List.mem_map.mpr ⟨(⟨"CellWorksModel", "resultOf", "(J)I"⟩, 45), by decide +kernel, rfl⟩) rfl
theorem ws_Md_valueOf : Cond.selects "CellWorksModel" ⟨"CellWorksModel", "valueOf", "(J)J"⟩ ⟨"CellWorksModel", "valueOf", "(J)J"⟩ ∈ jm_W := jm_w0 (List.mem_map.mpr ⟨(⟨"CellWorksModel", "valueOf", "(J)J"⟩, 45), by decide +kernel, rfl⟩) rfl
theorem ws_Md_workOut : Cond.selects "CellWorksModel" ⟨"CellWorksModel", "workOut", "(I)V"⟩ ⟨"CellWorksModel", "workOut", "(I)V"⟩ ∈ jm_W := jm_w0 (List.mem_map.mpr ⟨(⟨"CellWorksModel", "workOut", "(I)V"⟩, 45), by decide +kernel, rfl⟩) rfl
theorem ws_Md_work : Cond.selects "CellWorksModel" ⟨"CellWorksModel", "work", "(I)J"⟩ ⟨"CellWorksModel", "work", "(I)J"⟩ ∈ jm_W := jm_w0 (List.mem_map.mpr ⟨(⟨"CellWorksModel", "work", "(I)J"⟩, 45), by decide +kernel, rfl⟩) rfl
theorem ws_Md_push : Cond.selects "CellWorksModel" ⟨"CellWorksModel", "push", "(I)V"⟩ ⟨"CellWorksModel", "push", "(I)V"⟩ ∈ jm_W := jm_w0 (List.mem_map.mpr ⟨(⟨"CellWorksModel", "push", "(I)V"⟩, 45), by decide +kernel, rfl⟩) rfl
theorem ws_Md_leaf : Cond.selects "CellWorksModel" ⟨"CellWorksModel", "leaf", "(I)V"⟩ ⟨"CellWorksModel", "leaf", "(I)V"⟩ ∈ jm_W := jm_w0 (List.mem_map.mpr ⟨(⟨"CellWorksModel", "leaf", "(I)V"⟩, 45), by decide +kernel, rfl⟩) rfl
theorem ws_Md_both : Cond.selects "CellWorksModel" ⟨"CellWorksModel", "both", "(IJJ)J"⟩ ⟨"CellWorksModel", "both", "(IJJ)J"⟩ ∈ jm_W := jm_w0 (List.mem_map.mpr ⟨(⟨"CellWorksModel", "both", "(IJJ)J"⟩, 45), by decide +kernel, rfl⟩) rfl
theorem jl_CW : ∀ w ∈ u_ws "CellWorks" jT_CW 3, w ∈ jm_W := by
  intro w hw
  obtain ⟨k, hk, rfl⟩ := List.mem_map.mp hw
  have hk := List.mem_range.mp hk
  match k, hk with
  | 0, _ => exact wl_CW_reader
  | 1, _ => exact wl_CW_cells
  | 2, _ => exact wl_CW_builder
  | k + 3, h => exact absurd h (by omega)
theorem jl_Rd : ∀ w ∈ u_ws "CellWorks$Reader" jT_Rd 7, w ∈ jm_W := by
  intro w hw
  obtain ⟨k, hk, rfl⟩ := List.mem_map.mp hw
  have hk := List.mem_range.mp hk
  match k, hk with
  | 0, _ => exact wl_Rd_tape
  | 1, _ => exact wl_Rd_formula
  | 2, _ => exact wl_Rd_name
  | 3, _ => exact wl_Rd_faultCode
  | 4, _ => exact wl_Rd_faultPlace
  | 5, _ => exact wl_Rd_nodes
  | 6, _ => exact wl_Rd_places
  | k + 7, h => exact absurd h (by omega)
theorem jl_Tp : ∀ w ∈ u_ws "CellWorks$Tape" jT_Tp 7, w ∈ jm_W := by
  intro w hw
  obtain ⟨k, hk, rfl⟩ := List.mem_map.mp hw
  have hk := List.mem_range.mp hk
  match k, hk with
  | 0, _ => exact wl_Tp_bytes
  | 1, _ => exact wl_Tp_length
  | 2, _ => exact wl_Tp_next
  | 3, _ => exact wl_Tp_kind
  | 4, _ => exact wl_Tp_start
  | 5, _ => exact wl_Tp_name
  | 6, _ => exact wl_Tp_number
  | k + 7, h => exact absurd h (by omega)
theorem jl_Fm : ∀ w ∈ u_ws "CellWorks$Formula" jT_Fm 7, w ∈ jm_W := by
  intro w hw
  obtain ⟨k, hk, rfl⟩ := List.mem_map.mp hw
  have hk := List.mem_range.mp hk
  match k, hk with
  | 0, _ => exact wl_Fm_steps
  | 1, _ => exact wl_Fm_details
  | 2, _ => exact wl_Fm_length
  | 3, _ => exact wl_Fm_names
  | 4, _ => exact wl_Fm_seenKinds
  | 5, _ => exact wl_Fm_seenValues
  | 6, _ => exact wl_Fm_nameCount
  | k + 7, h => exact absurd h (by omega)
theorem jl_Cs : ∀ w ∈ u_ws "CellWorks$Cells" jT_Cs 3, w ∈ jm_W := by
  intro w hw
  obtain ⟨k, hk, rfl⟩ := List.mem_map.mp hw
  have hk := List.mem_range.mp hk
  match k, hk with
  | 0, _ => exact wl_Cs_rows
  | 1, _ => exact wl_Cs_size
  | 2, _ => exact wl_Cs_reads
  | k + 3, h => exact absurd h (by omega)
theorem jl_Cl : ∀ w ∈ u_ws "CellWorks$Cell" jT_Cl 5, w ∈ jm_W := by
  intro w hw
  obtain ⟨k, hk, rfl⟩ := List.mem_map.mp hw
  have hk := List.mem_range.mp hk
  match k, hk with
  | 0, _ => exact wl_Cl_name
  | 1, _ => exact wl_Cl_formula
  | 2, _ => exact wl_Cl_workedOut
  | 3, _ => exact wl_Cl_kind
  | 4, _ => exact wl_Cl_value
  | k + 5, h => exact absurd h (by omega)
theorem jl_Bd : ∀ w ∈ u_ws "CellWorks$Builder" jT_Bd 4, w ∈ jm_W := by
  intro w hw
  obtain ⟨k, hk, rfl⟩ := List.mem_map.mp hw
  have hk := List.mem_range.mp hk
  match k, hk with
  | 0, _ => exact wl_Bd_work
  | 1, _ => exact wl_Bd_latest
  | 2, _ => exact wl_Bd_latestSize
  | 3, _ => exact wl_Bd_total
  | k + 4, h => exact absurd h (by omega)
theorem jl_Wk : ∀ w ∈ u_ws "CellWorks$Work" jT_Wk 4, w ∈ jm_W := by
  intro w hw
  obtain ⟨k, hk, rfl⟩ := List.mem_map.mp hw
  have hk := List.mem_range.mp hk
  match k, hk with
  | 0, _ => exact wl_Wk_stack
  | 1, _ => exact wl_Wk_height
  | 2, _ => exact wl_Wk_kind
  | 3, _ => exact wl_Wk_value
  | k + 4, h => exact absurd h (by omega)
theorem jl_Md : ∀ w ∈ u_ws "CellWorksModel" jT_Md 45, w ∈ jm_W := by
  intro w hw
  obtain ⟨k, hk, rfl⟩ := List.mem_map.mp hw
  have hk := List.mem_range.mp hk
  match k, hk with
  | 0, _ => exact wl_Md_thrown
  | 1, _ => exact wl_Md_tape
  | 2, _ => exact wl_Md_tapeSize
  | 3, _ => exact wl_Md_faultCode
  | 4, _ => exact wl_Md_faultPlace
  | 5, _ => exact wl_Md_there
  | 6, _ => exact wl_Md_names
  | 7, _ => exact wl_Md_results
  | 8, _ => exact wl_Md_values
  | 9, _ => exact wl_Md_worked
  | 10, _ => exact wl_Md_roots
  | 11, _ => exact wl_Md_nodeCounts
  | 12, _ => exact wl_Md_kinds
  | 13, _ => exact wl_Md_ones
  | 14, _ => exact wl_Md_twos
  | 15, _ => exact wl_Md_threes
  | 16, _ => exact wl_Md_amounts
  | 17, _ => exact wl_Md_seenResults
  | 18, _ => exact wl_Md_seenValues
  | 19, _ => exact wl_Md_workedInAll
  | 20, _ => exact wl_Md_built
  | 21, _ => exact wl_Md_builtCount
  | 22, _ => exact wl_Md_place
  | 23, _ => exact wl_Md_tokenFrom
  | 24, _ => exact wl_Md_token
  | 25, _ => exact wl_Md_tokenAmount
  | 26, _ => exact wl_Md_newKinds
  | 27, _ => exact wl_Md_newOnes
  | 28, _ => exact wl_Md_newTwos
  | 29, _ => exact wl_Md_newThrees
  | 30, _ => exact wl_Md_newAmounts
  | 31, _ => exact wl_Md_newPlaces
  | 32, _ => exact wl_Md_newCount
  | 33, _ => exact wl_Md_waiting
  | 34, _ => exact wl_Md_given
  | 35, _ => exact wl_Md_waitingCount
  | 36, _ => exact wl_Md_parts
  | 37, _ => exact wl_Md_partCount
  | 38, _ => exact wl_Md_depth
  | 39, _ => exact wl_Md_error
  | 40, _ => exact wl_Md_pile
  | 41, _ => exact wl_Md_phases
  | 42, _ => exact wl_Md_kept
  | 43, _ => exact wl_Md_high
  | 44, _ => exact wl_Md_answer
  | k + 45, h => exact absurd h (by omega)
/-! methods: name, code, locals, answer, exception table -/
abbrev jm_M : Type := MethodName × ByteArray × Nat × Option FieldType × List ExceptionTableEntry
def mm_CW_init : jm_M := (⟨"CellWorks", "<init>", "()V"⟩, prog_1_method_1_code, 1, none, [])
def mm_Rd_init : jm_M := (⟨"CellWorks$Reader", "<init>", "()V"⟩, prog_6_method_1_code, 1, none, [])
def mm_Tp_init : jm_M := (⟨"CellWorks$Tape", "<init>", "()V"⟩, prog_7_method_1_code, 1, none, [])
def mm_Fm_init : jm_M := (⟨"CellWorks$Formula", "<init>", "()V"⟩, prog_5_method_1_code, 1, none, [])
def mm_Cs_init : jm_M := (⟨"CellWorks$Cells", "<init>", "()V"⟩, prog_4_method_1_code, 1, none, [])
def mm_Bd_init : jm_M := (⟨"CellWorks$Builder", "<init>", "()V"⟩, prog_2_method_1_code, 1, none, [])
def mm_Wk_init : jm_M := (⟨"CellWorks$Work", "<init>", "()V"⟩, prog_8_method_1_code, 1, none, [])
def mm_CW_define : jm_M := (⟨"CellWorks", "define", "()I"⟩, prog_1_method_4_code, 1, (some FieldType.int), [])
def mm_Rd_readDefinition : jm_M := (⟨"CellWorks$Reader", "readDefinition", "()Z"⟩, prog_6_method_2_code, 1, (some FieldType.boolean), [])
def mm_Fm_clear : jm_M := (⟨"CellWorks$Formula", "clear", "()V"⟩, prog_5_method_2_code, 1, none, [])
def mm_Tp_rewind : jm_M := (⟨"CellWorks$Tape", "rewind", "()V"⟩, prog_7_method_4_code, 1, none, [])
def mm_Rd_pass : jm_M := (⟨"CellWorks$Reader", "pass", "()Z"⟩, prog_6_method_7_code, 1, (some FieldType.boolean), [])
def mm_Tp_readToken : jm_M := (⟨"CellWorks$Tape", "readToken", "()V"⟩, prog_7_method_6_code, 2, none, [])
def mm_Tp_byteAt : jm_M := (⟨"CellWorks$Tape", "byteAt", "(I)I"⟩, prog_7_method_3_code, 2, (some FieldType.int), [])
def mm_Tp_isBlank : jm_M := (⟨"CellWorks$Tape", "isBlank", "(I)Z"⟩, prog_7_method_10_code, 1, (some FieldType.boolean), [])
def mm_Tp_isLetter : jm_M := (⟨"CellWorks$Tape", "isLetter", "(I)Z"⟩, prog_7_method_11_code, 1, (some FieldType.boolean), [])
def mm_Tp_readWord : jm_M := (⟨"CellWorks$Tape", "readWord", "()V"⟩, prog_7_method_7_code, 2, none, [])
def mm_Tp_isDigit : jm_M := (⟨"CellWorks$Tape", "isDigit", "(I)Z"⟩, prog_7_method_12_code, 1, (some FieldType.boolean), [])
def mm_Tp_kindOfWord : jm_M := (⟨"CellWorks$Tape", "kindOfWord", "(J)I"⟩, prog_7_method_9_code, 2, (some FieldType.int), [])
def mm_Tp_readNumber : jm_M := (⟨"CellWorks$Tape", "readNumber", "()V"⟩, prog_7_method_8_code, 1, none, [])
def mm_Tp_isMark : jm_M := (⟨"CellWorks$Tape", "isMark", "(I)Z"⟩, prog_7_method_13_code, 1, (some FieldType.boolean), [])
def mm_Rd_refuse : jm_M := (⟨"CellWorks$Reader", "refuse", "(I)Z"⟩, prog_6_method_6_code, 2, (some FieldType.boolean), [])
def mm_Rd_refuseAt : jm_M := (⟨"CellWorks$Reader", "refuseAt", "(II)V"⟩, prog_6_method_5_code, 3, none, [])
def mm_Rd_expect : jm_M := (⟨"CellWorks$Reader", "expect", "(I)Z"⟩, prog_6_method_8_code, 2, (some FieldType.boolean), [])
def mm_Rd_sum : jm_M := (⟨"CellWorks$Reader", "sum", "(I)Z"⟩, prog_6_method_11_code, 4, (some FieldType.boolean), [])
def mm_Rd_product : jm_M := (⟨"CellWorks$Reader", "product", "(I)Z"⟩, prog_6_method_12_code, 4, (some FieldType.boolean), [])
def mm_Rd_part : jm_M := (⟨"CellWorks$Reader", "part", "(I)Z"⟩, prog_6_method_13_code, 2, (some FieldType.boolean), [])
def mm_Fm_addStep : jm_M := (⟨"CellWorks$Formula", "addStep", "(II)V"⟩, prog_5_method_3_code, 3, none, [])
def mm_Rd_passNode : jm_M := (⟨"CellWorks$Reader", "passNode", "()Z"⟩, prog_6_method_9_code, 1, (some FieldType.boolean), [])
def mm_Rd_noteName : jm_M := (⟨"CellWorks$Reader", "noteName", "()V"⟩, prog_6_method_14_code, 2, none, [])
def mm_Fm_addName : jm_M := (⟨"CellWorks$Formula", "addName", "(J)V"⟩, prog_5_method_4_code, 3, none, [])
def mm_Rd_negated : jm_M := (⟨"CellWorks$Reader", "negated", "(I)Z"⟩, prog_6_method_15_code, 2, (some FieldType.boolean), [])
def mm_Rd_passOpening : jm_M := (⟨"CellWorks$Reader", "passOpening", "(I)Z"⟩, prog_6_method_10_code, 2, (some FieldType.boolean), [])
def mm_Rd_lesserOrGreater : jm_M := (⟨"CellWorks$Reader", "lesserOrGreater", "(I)Z"⟩, prog_6_method_16_code, 3, (some FieldType.boolean), [])
def mm_Rd_choice : jm_M := (⟨"CellWorks$Reader", "choice", "(I)Z"⟩, prog_6_method_17_code, 4, (some FieldType.boolean), [])
def mm_Fm_aimHere : jm_M := (⟨"CellWorks$Formula", "aimHere", "(I)V"⟩, prog_5_method_5_code, 2, none, [])
def mm_CW_settle : jm_M := (⟨"CellWorks", "settle", "()V"⟩, prog_1_method_15_code, 3, none, [])
def mm_Cs_find : jm_M := (⟨"CellWorks$Cells", "find", "(J)LCellWorks$Cell;"⟩, prog_4_method_4_code, 4, (some (FieldType.object "CellWorks$Cell")), [])
def mm_Cs_indexOf : jm_M := (⟨"CellWorks$Cells", "indexOf", "(J)I"⟩, prog_4_method_3_code, 4, (some FieldType.int), [])
def mm_Cs_placeFor : jm_M := (⟨"CellWorks$Cells", "placeFor", "(J)I"⟩, prog_4_method_2_code, 5, (some FieldType.int), [])
def mm_Cs_firstInCircle : jm_M := (⟨"CellWorks$Cells", "firstInCircle", "(JLCellWorks$Formula;)I"⟩, prog_4_method_17_code, 8, (some FieldType.int), [])
def mm_Cs_dependents : jm_M := (⟨"CellWorks$Cells", "dependents", "(J)J"⟩, prog_4_method_15_code, 9, (some FieldType.long), [])
def mm_Cs_directReaders : jm_M := (⟨"CellWorks$Cells", "directReaders", "(J)J"⟩, prog_4_method_14_code, 6, (some FieldType.long), [])
def mm_Fm_mentions : jm_M := (⟨"CellWorks$Formula", "mentions", "(J)Z"⟩, prog_5_method_6_code, 4, (some FieldType.boolean), [])
def mm_Cs_trace : jm_M := (⟨"CellWorks$Cells", "trace", "()V"⟩, prog_4_method_13_code, 7, none, [])
def mm_Rd_placeOfName : jm_M := (⟨"CellWorks$Reader", "placeOfName", "(I)I"⟩, prog_6_method_3_code, 2, (some FieldType.int), [])
def mm_Rd_exchangeFormula : jm_M := (⟨"CellWorks$Reader", "exchangeFormula", "(LCellWorks$Formula;)LCellWorks$Formula;"⟩, prog_6_method_4_code, 3, (some (FieldType.object "CellWorks$Formula")), [])
def mm_Cl_init : jm_M := (⟨"CellWorks$Cell", "<init>", "(JLCellWorks$Formula;)V"⟩, prog_3_method_1_code, 4, none, [])
def mm_Cs_insert : jm_M := (⟨"CellWorks$Cells", "insert", "(LCellWorks$Cell;)V"⟩, prog_4_method_5_code, 4, none, [])
def mm_CW_fault : jm_M := (⟨"CellWorks", "fault", "()I"⟩, prog_1_method_5_code, 1, (some FieldType.int), [])
def mm_CW_buildAll : jm_M := (⟨"CellWorks", "buildAll", "()I"⟩, prog_1_method_8_code, 1, (some FieldType.int), [])
def mm_Cs_all : jm_M := (⟨"CellWorks$Cells", "all", "()J"⟩, prog_4_method_12_code, 4, (some FieldType.long), [])
def mm_Bd_run : jm_M := (⟨"CellWorks$Builder", "run", "(LCellWorks$Cells;J)I"⟩, prog_2_method_2_code, 14, (some FieldType.int), [])
def mm_Cs_withGround : jm_M := (⟨"CellWorks$Cells", "withGround", "(J)J"⟩, prog_4_method_16_code, 9, (some FieldType.long), [])
def mm_Cs_isStale : jm_M := (⟨"CellWorks$Cells", "isStale", "(LCellWorks$Cell;)Z"⟩, prog_4_method_9_code, 5, (some FieldType.boolean), [])
def mm_Cs_kindOf : jm_M := (⟨"CellWorks$Cells", "kindOf", "(LCellWorks$Cell;)I"⟩, prog_4_method_7_code, 2, (some FieldType.int), [])
def mm_Cs_valueOf : jm_M := (⟨"CellWorks$Cells", "valueOf", "(LCellWorks$Cell;)J"⟩, prog_4_method_8_code, 2, (some FieldType.long), [])
def mm_Bd_workOut : jm_M := (⟨"CellWorks$Builder", "workOut", "(LCellWorks$Cells;LCellWorks$Cell;)V"⟩, prog_2_method_3_code, 3, none, [])
def mm_Cs_look : jm_M := (⟨"CellWorks$Cells", "look", "(LCellWorks$Formula;)V"⟩, prog_4_method_10_code, 4, none, [])
def mm_Wk_run : jm_M := (⟨"CellWorks$Work", "run", "(LCellWorks$Formula;)V"⟩, prog_8_method_2_code, 4, none, [])
def mm_Wk_take : jm_M := (⟨"CellWorks$Work", "take", "(LCellWorks$Formula;III)I"⟩, prog_8_method_3_code, 9, (some FieldType.int), [])
def mm_Wk_push : jm_M := (⟨"CellWorks$Work", "push", "(J)V"⟩, prog_8_method_7_code, 3, none, [])
def mm_Wk_pushResult : jm_M := (⟨"CellWorks$Work", "pushResult", "(LCellWorks$Formula;I)V"⟩, prog_8_method_4_code, 3, none, [])
def mm_Wk_pop : jm_M := (⟨"CellWorks$Work", "pop", "()J"⟩, prog_8_method_8_code, 1, (some FieldType.long), [])
def mm_Wk_join : jm_M := (⟨"CellWorks$Work", "join", "(IJJ)V"⟩, prog_8_method_5_code, 6, none, [])
def mm_Wk_divide : jm_M := (⟨"CellWorks$Work", "divide", "(JJ)V"⟩, prog_8_method_6_code, 5, none, [])
def mm_Ma_min : jm_M := (⟨"java/lang/Math", "min", "(JJ)J"⟩, prog_15_method_70_code, 4, (some FieldType.long), [])
def mm_Ma_max : jm_M := (⟨"java/lang/Math", "max", "(JJ)J"⟩, prog_15_method_66_code, 4, (some FieldType.long), [])
def mm_Bd_keepNames : jm_M := (⟨"CellWorks$Builder", "keepNames", "(LCellWorks$Cells;J)V"⟩, prog_2_method_4_code, 5, none, [])
def mm_Lw_feed : jm_M := (⟨"CellWorksLaw", "feed", "(LCellWorks;IIIII[J)I"⟩, method_3_code, 8, (some FieldType.int), [⟨0, 16, 19, 13⟩])
def mm_CW_feed : jm_M := (⟨"CellWorks", "feed", "(IIIII)I"⟩, prog_1_method_2_code, 7, (some FieldType.int), [])
def mm_Tp_add : jm_M := (⟨"CellWorks$Tape", "add", "(I)V"⟩, prog_7_method_2_code, 3, none, [])
def mm_Lw_end : jm_M := (⟨"CellWorksLaw", "end", "(LCellWorks;I)I"⟩, method_4_code, 3, (some FieldType.int), [⟨0, 5, 8, 19⟩])
def mm_CW_end : jm_M := (⟨"CellWorks", "end", "(I)V"⟩, prog_1_method_3_code, 2, none, [])
def mm_Lw_remove : jm_M := (⟨"CellWorksLaw", "remove", "(LCellWorks;[J)I"⟩, method_5_code, 3, (some FieldType.int), [⟨0, 15, 18, 25⟩])
def mm_CW_remove : jm_M := (⟨"CellWorks", "remove", "()Z"⟩, prog_1_method_6_code, 3, (some FieldType.boolean), [])
def mm_CW_nameOnTape : jm_M := (⟨"CellWorks", "nameOnTape", "()J"⟩, prog_1_method_14_code, 3, (some FieldType.long), [])
def mm_Tp_onlyName : jm_M := (⟨"CellWorks$Tape", "onlyName", "()J"⟩, prog_7_method_5_code, 3, (some FieldType.long), [])
def mm_Cs_drop : jm_M := (⟨"CellWorks$Cells", "drop", "(J)Z"⟩, prog_4_method_6_code, 5, (some FieldType.boolean), [])
def mm_Lw_build : jm_M := (⟨"CellWorksLaw", "build", "(LCellWorks;[J)I"⟩, method_6_code, 3, (some FieldType.int), [⟨0, 8, 11, 25⟩])
def mm_CW_build : jm_M := (⟨"CellWorks", "build", "()I"⟩, prog_1_method_7_code, 5, (some FieldType.int), [])
def mm_Lw_value : jm_M := (⟨"CellWorksLaw", "value", "(LCellWorks;[J)I"⟩, method_7_code, 3, (some FieldType.int), [⟨0, 7, 10, 25⟩])
def mm_CW_value : jm_M := (⟨"CellWorks", "value", "()J"⟩, prog_1_method_9_code, 1, (some FieldType.long), [])
def mm_Lw_state : jm_M := (⟨"CellWorksLaw", "state", "(LCellWorks;[J)I"⟩, method_8_code, 3, (some FieldType.int), [⟨0, 8, 11, 25⟩])
def mm_CW_state : jm_M := (⟨"CellWorks", "state", "()I"⟩, prog_1_method_10_code, 2, (some FieldType.int), [])
def mm_Lw_readers : jm_M := (⟨"CellWorksLaw", "readers", "(LCellWorks;Z[J)I"⟩, method_9_code, 4, (some FieldType.int), [⟨0, 9, 12, 25⟩])
def mm_CW_readers : jm_M := (⟨"CellWorks", "readers", "(Z)I"⟩, prog_1_method_11_code, 4, (some FieldType.int), [])
def mm_Lo_bitCount : jm_M := (⟨"java/lang/Long", "bitCount", "(J)I"⟩, prog_14_method_50_code, 2, (some FieldType.int), [])
def mm_Lw_built : jm_M := (⟨"CellWorksLaw", "built", "(LCellWorks;II[J)I"⟩, method_10_code, 5, (some FieldType.int), [⟨0, 10, 13, 46⟩])
def mm_CW_built : jm_M := (⟨"CellWorks", "built", "(II)I"⟩, prog_1_method_12_code, 4, (some FieldType.int), [])
def mm_Bd_byteOfLatest : jm_M := (⟨"CellWorks$Builder", "byteOfLatest", "(II)I"⟩, prog_2_method_5_code, 4, (some FieldType.int), [])
def mm_Lw_count : jm_M := (⟨"CellWorksLaw", "count", "(LCellWorks;I[J)I"⟩, method_11_code, 4, (some FieldType.int), [⟨0, 9, 12, 19⟩])
def mm_CW_count : jm_M := (⟨"CellWorks", "count", "(I)I"⟩, prog_1_method_13_code, 2, (some FieldType.int), [])
def mm_Cs_staleOnes : jm_M := (⟨"CellWorks$Cells", "staleOnes", "()I"⟩, prog_4_method_11_code, 3, (some FieldType.int), [])
def mm_Md_init : jm_M := (⟨"CellWorksModel", "<init>", "()V"⟩, prog_10_method_1_code, 1, none, [])
def mm_Md_thrown : jm_M := (⟨"CellWorksModel", "thrown", "()I"⟩, prog_10_method_2_code, 1, (some FieldType.int), [])
def mm_Md_define : jm_M := (⟨"CellWorksModel", "define", "()I"⟩, prog_10_method_27_code, 10, (some FieldType.int), [])
def mm_Md_next : jm_M := (⟨"CellWorksModel", "next", "()V"⟩, prog_10_method_7_code, 2, none, [])
def mm_Md_at : jm_M := (⟨"CellWorksModel", "at", "(I)I"⟩, prog_10_method_3_code, 2, (some FieldType.int), [])
def mm_Md_isBlank : jm_M := (⟨"CellWorksModel", "isBlank", "(I)Z"⟩, prog_10_method_6_code, 1, (some FieldType.boolean), [])
def mm_Md_isDigit : jm_M := (⟨"CellWorksModel", "isDigit", "(I)Z"⟩, prog_10_method_4_code, 1, (some FieldType.boolean), [])
def mm_Md_isLetter : jm_M := (⟨"CellWorksModel", "isLetter", "(I)Z"⟩, prog_10_method_5_code, 1, (some FieldType.boolean), [])
def mm_Md_function : jm_M := (⟨"CellWorksModel", "function", "()I"⟩, prog_10_method_8_code, 1, (some FieldType.int), [])
def mm_Md_wrong : jm_M := (⟨"CellWorksModel", "wrong", "()V"⟩, prog_10_method_10_code, 1, none, [])
def mm_Md_fail : jm_M := (⟨"CellWorksModel", "fail", "(II)V"⟩, prog_10_method_9_code, 3, none, [])
def mm_Md_formula : jm_M := (⟨"CellWorksModel", "formula", "()V"⟩, prog_10_method_21_code, 2, none, [])
def mm_Md_part : jm_M := (⟨"CellWorksModel", "part", "()Z"⟩, prog_10_method_18_code, 2, (some FieldType.boolean), [])
def mm_Md_newNode : jm_M := (⟨"CellWorksModel", "newNode", "(IJ)I"⟩, prog_10_method_11_code, 4, (some FieldType.int), [])
def mm_Md_settle : jm_M := (⟨"CellWorksModel", "settle", "(I)V"⟩, prog_10_method_15_code, 3, none, [])
def mm_Md_isOperator : jm_M := (⟨"CellWorksModel", "isOperator", "(I)Z"⟩, prog_10_method_13_code, 2, (some FieldType.boolean), [])
def mm_Md_strength : jm_M := (⟨"CellWorksModel", "strength", "(I)I"⟩, prog_10_method_14_code, 1, (some FieldType.int), [])
def mm_Md_deeper : jm_M := (⟨"CellWorksModel", "deeper", "()V"⟩, prog_10_method_16_code, 1, none, [])
def mm_Md_await : jm_M := (⟨"CellWorksModel", "await", "(I)V"⟩, prog_10_method_12_code, 2, none, [])
def mm_Md_behind : jm_M := (⟨"CellWorksModel", "behind", "()Z"⟩, prog_10_method_19_code, 3, (some FieldType.boolean), [])
def mm_Md_wants : jm_M := (⟨"CellWorksModel", "wants", "(I)I"⟩, prog_10_method_17_code, 1, (some FieldType.int), [])
def mm_Md_give : jm_M := (⟨"CellWorksModel", "give", "(I)V"⟩, prog_10_method_20_code, 3, none, [])
def mm_Md_cellOf : jm_M := (⟨"CellWorksModel", "cellOf", "(J)I"⟩, prog_10_method_22_code, 4, (some FieldType.int), [])
def mm_Md_cellCount : jm_M := (⟨"CellWorksModel", "cellCount", "()I"⟩, prog_10_method_23_code, 3, (some FieldType.int), [])
def mm_Md_readersOf : jm_M := (⟨"CellWorksModel", "readersOf", "(J)J"⟩, prog_10_method_25_code, 10, (some FieldType.long), [])
def mm_Md_reads : jm_M := (⟨"CellWorksModel", "reads", "(IJ)Z"⟩, prog_10_method_24_code, 5, (some FieldType.boolean), [])
def mm_Md_remove : jm_M := (⟨"CellWorksModel", "remove", "()Z"⟩, prog_10_method_40_code, 2, (some FieldType.boolean), [])
def mm_Md_isName : jm_M := (⟨"CellWorksModel", "isName", "()Z"⟩, prog_10_method_39_code, 4, (some FieldType.boolean), [])
def mm_Md_build : jm_M := (⟨"CellWorksModel", "build", "()I"⟩, prog_10_method_41_code, 2, (some FieldType.int), [])
def mm_Md_below : jm_M := (⟨"CellWorksModel", "below", "(I)J"⟩, prog_10_method_38_code, 8, (some FieldType.long), [])
def mm_Md_buildSet : jm_M := (⟨"CellWorksModel", "buildSet", "(J)I"⟩, prog_10_method_37_code, 6, (some FieldType.int), [])
def mm_Md_isReady : jm_M := (⟨"CellWorksModel", "isReady", "(IJ)Z"⟩, prog_10_method_36_code, 6, (some FieldType.boolean), [])
def mm_Md_isStale : jm_M := (⟨"CellWorksModel", "isStale", "(I)Z"⟩, prog_10_method_34_code, 4, (some FieldType.boolean), [])
def mm_Md_resultOf : jm_M := (⟨"CellWorksModel", "resultOf", "(J)I"⟩, prog_10_method_28_code, 4, (some FieldType.int), [])
def mm_Md_valueOf : jm_M := (⟨"CellWorksModel", "valueOf", "(J)J"⟩, prog_10_method_29_code, 4, (some FieldType.long), [])
def mm_Md_workOut : jm_M := (⟨"CellWorksModel", "workOut", "(I)V"⟩, prog_10_method_35_code, 5, none, [])
def mm_Md_work : jm_M := (⟨"CellWorksModel", "work", "(I)J"⟩, prog_10_method_31_code, 4, (some FieldType.long), [])
def mm_Md_push : jm_M := (⟨"CellWorksModel", "push", "(I)V"⟩, prog_10_method_30_code, 2, none, [])
def mm_Md_leaf : jm_M := (⟨"CellWorksModel", "leaf", "(I)V"⟩, prog_10_method_32_code, 2, none, [])
def mm_Md_both : jm_M := (⟨"CellWorksModel", "both", "(IJJ)J"⟩, prog_10_method_33_code, 6, (some FieldType.long), [])
def mm_Md_buildAll : jm_M := (⟨"CellWorksModel", "buildAll", "()I"⟩, prog_10_method_42_code, 4, (some FieldType.int), [])
def mm_Md_fault : jm_M := (⟨"CellWorksModel", "fault", "()I"⟩, prog_10_method_43_code, 1, (some FieldType.int), [])
def mm_Md_value : jm_M := (⟨"CellWorksModel", "value", "()J"⟩, prog_10_method_44_code, 1, (some FieldType.long), [])
def mm_Md_state : jm_M := (⟨"CellWorksModel", "state", "()I"⟩, prog_10_method_45_code, 2, (some FieldType.int), [])
def mm_Md_readers : jm_M := (⟨"CellWorksModel", "readers", "(Z)I"⟩, prog_10_method_46_code, 6, (some FieldType.int), [])
def mm_Md_howMany : jm_M := (⟨"CellWorksModel", "howMany", "(J)I"⟩, prog_10_method_26_code, 4, (some FieldType.int), [])
def mm_Md_built : jm_M := (⟨"CellWorksModel", "built", "(II)I"⟩, prog_10_method_47_code, 4, (some FieldType.int), [])
def mm_Md_count : jm_M := (⟨"CellWorksModel", "count", "(I)I"⟩, prog_10_method_48_code, 4, (some FieldType.int), [])
def mm_Md_feed : jm_M := (⟨"CellWorksModel", "feed", "(IIIII)I"⟩, prog_10_method_49_code, 8, (some FieldType.int), [])
def mm_Md_end : jm_M := (⟨"CellWorksModel", "end", "(I)V"⟩, prog_10_method_50_code, 2, none, [])
def mm_Lw_law : jm_M := (⟨"CellWorksLaw", "law", "([I)Z"⟩, code, 8, (some FieldType.boolean), [])
end
section

/-! ===== the small heap: (how many cells the machine has, slots used, kinds: (tag, length), contents) ===== -/
abbrev jm_H : Type := Nat × Nat × (Nat → Nat × Nat) × (Nat → Nat → Value)
def jm_o (c : Nat) : Nat := 2 * c + 2
def jm_a (t : Nat) : Nat := 2 * t + 1
def jm_put (h : jm_H) (a k : Nat) (v : Value) : jm_H := (h.1, h.2.1, h.2.2.1, fun b j => if b = a ∧ j = k then v else h.2.2.2 b j)
def jm_new (h : jm_H) (t n : Nat) (f : Nat → Value) : jm_H := (h.1 + 1, h.2.1 + n, fun b => if b = h.1 then (t, n) else h.2.2.1 b, fun b j => if b = h.1 then f j else h.2.2.2 b j)
theorem jm_o_inj {a b : Nat} (h : jm_o a = jm_o b) : a = b := by unfold jm_o at h; omega
theorem jm_a_inj {a b : Nat} (h : jm_a a = jm_a b) : a = b := by unfold jm_a at h; omega
theorem jm_oa {a b : Nat} (h : jm_o a = jm_a b) : False := by unfold jm_o jm_a at h; omega
/-- the world: numbers of classes and slots, numbers of array classes, the first cell that is ours -/
abbrev jm_G : Type := va_G × (Nat → ClassId) × Nat
def jm_A (G : jm_G) : Nat → Prop := fun q => G.2.2 ≤ q
def jm_K (G : jm_G) (U : State) : Prop := (∀ (c : Nat) (q : vw_C), jm_cl[c]? = some q → u_Kn U q.1 q.2.1 q.2.2 (G.1.1 c) (G.1.2 c)) ∧ ∀ t : Nat, t < jm_nt → ArrOfT U (G.2.1 t) (jm_ty t) ∧ va_RA U (G.2.1 t) (jm_ty t)
theorem jm_K.moved {G : jm_G} {u U : State} (hvm : u.vm.Alike U.vm) (h : jm_K G u) : jm_K G U := ⟨fun c q hq => u_Kn_moved hvm (h.1 c q hq), fun t ht => ⟨arrOfT_moved hvm (h.2 t ht).1, (h.2 t ht).2.moved hvm⟩⟩
def jm_R (G : jm_G) (h : jm_H) (H : Heap) : Prop := h.1 = H.size ∧ G.2.2 ≤ H.size ∧
  (∀ a c n : Nat, h.2.2.1 a = (jm_o c, n) → G.2.2 ≤ a ∧ ∃ r : vw_C, jm_cl[c]? = some r ∧ t_OB a (G.1.1 c) r.2.2 (G.1.2 c) H (h.2.2.2 a)) ∧
  ∀ a t n : Nat, h.2.2.1 a = (jm_a t, n) → G.2.2 ≤ a ∧ t < jm_nt ∧ H[a]? = some (arrV (G.2.1 t) n (h.2.2.2 a))
theorem jm_put_at (h : jm_H) (a k : Nat) (v : Value) : (jm_put h a k v).2.2.2 a = updV (h.2.2.2 a) k v := by
  funext j
  simp [jm_put, updV]
theorem jm_put_ne (h : jm_H) {a b : Nat} (k : Nat) (v : Value) (hb : b ≠ a) : (jm_put h a k v).2.2.2 b = h.2.2.2 b := by
  funext j
  simp [jm_put, hb]
theorem jm_new_at (h : jm_H) (t n : Nat) (f : Nat → Value) : (jm_new h t n f).2.2.2 h.1 = f := by
  funext j
  simp [jm_new]
theorem jm_new_ne (h : jm_H) (t n : Nat) (f : Nat → Value) {b : Nat} (hb : b ≠ h.1) : (jm_new h t n f).2.2.2 b = h.2.2.2 b := by
  funext j
  simp [jm_new, hb]
theorem jm_R.lt {G : jm_G} {h : jm_H} {H : Heap} (hR : jm_R G h H) {a c n : Nat} (hk : h.2.2.1 a = (jm_o c, n)) : a < H.size := by
  obtain ⟨-, r, -, cell, h1, -⟩ := hR.2.2.1 a c n hk
  exact (Array.getElem?_eq_some_iff.mp h1).1
theorem jm_R.ltA {G : jm_G} {h : jm_H} {H : Heap} (hR : jm_R G h H) {a t n : Nat} (hk : h.2.2.1 a = (jm_a t, n)) : a < H.size :=
  (Array.getElem?_eq_some_iff.mp (hR.2.2.2 a t n hk).2.2).1
/-- a field was written -/
theorem jm_R.putO {G : jm_G} {h : jm_H} {H H1 : Heap} (hR : jm_R G h H) {a c n k : Nat} {v : Value} (hk : h.2.2.1 a = (jm_o c, n)) (hz : H1.size = H.size) (hq : ∀ q : Nat, q ≠ a → H1[q]? = H[q]?)
    (hn : ∀ r : vw_C, jm_cl[c]? = some r → t_OB a (G.1.1 c) r.2.2 (G.1.2 c) H1 (updV (h.2.2.2 a) k v)) : jm_R G (jm_put h a k v) H1 := by
  obtain ⟨h1, h2, h3, h4⟩ := hR
  refine ⟨h1.trans hz.symm, by rw [hz]; exact h2, fun b c' n' hb => ?_, fun b t n' hb => ?_⟩
  · obtain ⟨g1, r, g2, g3⟩ := h3 b c' n' hb
    refine ⟨g1, r, g2, ?_⟩
    by_cases e : b = a
    · subst e
      have e2 : c' = c := jm_o_inj (Prod.mk.inj (hb.symm.trans hk)).1
      subst e2
      rw [jm_put_at]
      exact hn r g2
    · rw [jm_put_ne h k v e]
      exact g3.kept (hq b e)
  · have e : b ≠ a := fun e => by
      subst e
      exact jm_oa (Prod.mk.inj (hk.symm.trans hb)).1
    obtain ⟨g1, g2, g3⟩ := h4 b t n' hb
    refine ⟨g1, g2, ?_⟩
    rw [jm_put_ne h k v e, hq b e]
    exact g3
/-- an element was written -/
theorem jm_R.putA {G : jm_G} {h : jm_H} {H H1 : Heap} (hR : jm_R G h H) {a t n k : Nat} {v : Value} (hk : h.2.2.1 a = (jm_a t, n)) (hz : H1.size = H.size) (hq : ∀ q : Nat, q ≠ a → H1[q]? = H[q]?)
    (hn : H1[a]? = some (arrV (G.2.1 t) n (updV (h.2.2.2 a) k v))) : jm_R G (jm_put h a k v) H1 := by
  obtain ⟨h1, h2, h3, h4⟩ := hR
  refine ⟨h1.trans hz.symm, by rw [hz]; exact h2, fun b c' n' hb => ?_, fun b t' n' hb => ?_⟩
  · have e : b ≠ a := fun e => by
      subst e
      exact jm_oa (Prod.mk.inj (hb.symm.trans hk)).1
    obtain ⟨g1, r, g2, g3⟩ := h3 b c' n' hb
    refine ⟨g1, r, g2, ?_⟩
    rw [jm_put_ne h k v e]
    exact g3.kept (hq b e)
  · obtain ⟨g1, g2, g3⟩ := h4 b t' n' hb
    refine ⟨g1, g2, ?_⟩
    by_cases e : b = a
    · subst e
      have e2 := Prod.mk.inj (hb.symm.trans hk)
      have e3 := jm_a_inj e2.1
      have e4 := e2.2
      subst e3; subst e4
      rw [jm_put_at]
      exact hn
    · rw [jm_put_ne h k v e, hq b e]
      exact g3
theorem jm_R.kd {G : jm_G} {h : jm_H} {H : Heap} (hR : jm_R G h H) {c n : Nat} : h.2.2.1 h.1 ≠ (jm_o c, n) := fun hk => by
  have h1 := hR.lt hk
  rw [hR.1] at h1
  exact Nat.lt_irrefl _ h1
/-- an object was made -/
theorem jm_R.newO {G : jm_G} {h : jm_H} {H H1 : Heap} (hR : jm_R G h H) {c n : Nat} {f : Nat → Value} {r : vw_C} (hc : jm_cl[c]? = some r) (hz : H1.size = h.1 + 1) (hq : ∀ q : Nat, q < h.1 → H1[q]? = H[q]?)
    (hn : t_OB h.1 (G.1.1 c) r.2.2 (G.1.2 c) H1 f) : jm_R G (jm_new h (jm_o c) n f) H1 := by
  have hlt := @jm_R.lt G h H hR
  have hltA := @jm_R.ltA G h H hR
  obtain ⟨h1, h2, h3, h4⟩ := hR
  refine ⟨hz.symm, by rw [hz, h1]; omega, fun b c' n' hb => ?_, fun b t n' hb => ?_⟩
  · by_cases e : b = h.1
    · subst e
      have hb' : (jm_o c, n) = (jm_o c', n') := by
        have := hb
        simp only [jm_new, if_true] at this
        exact this
      have e2 := jm_o_inj (Prod.mk.inj hb').1
      subst e2
      refine ⟨by rw [h1]; exact h2, r, hc, ?_⟩
      rw [jm_new_at]
      exact hn
    · have hb' : h.2.2.1 b = (jm_o c', n') := by
        have := hb
        simp only [jm_new, if_neg e] at this
        exact this
      obtain ⟨g1, r', g2, g3⟩ := h3 b c' n' hb'
      refine ⟨g1, r', g2, ?_⟩
      rw [jm_new_ne h _ _ f e]
      exact g3.kept (hq b (by rw [h1]; exact hlt hb'))
  · have e : b ≠ h.1 := fun e => by
      subst e
      have := hb
      simp only [jm_new, if_true] at this
      exact jm_oa (Prod.mk.inj this).1
    have hb' : h.2.2.1 b = (jm_a t, n') := by
      have := hb
      simp only [jm_new, if_neg e] at this
      exact this
    obtain ⟨g1, g2, g3⟩ := h4 b t n' hb'
    refine ⟨g1, g2, ?_⟩
    rw [jm_new_ne h _ _ f e, hq b (by rw [h1]; exact hltA hb')]
    exact g3
/-- an array was made -/
theorem jm_R.newA {G : jm_G} {h : jm_H} {H H1 : Heap} (hR : jm_R G h H) {t n : Nat} {f : Nat → Value} (ht : t < jm_nt) (hz : H1.size = h.1 + 1) (hq : ∀ q : Nat, q < h.1 → H1[q]? = H[q]?)
    (hn : H1[h.1]? = some (arrV (G.2.1 t) n f)) : jm_R G (jm_new h (jm_a t) n f) H1 := by
  have hlt := @jm_R.lt G h H hR
  have hltA := @jm_R.ltA G h H hR
  obtain ⟨h1, h2, h3, h4⟩ := hR
  refine ⟨hz.symm, by rw [hz, h1]; omega, fun b c' n' hb => ?_, fun b t' n' hb => ?_⟩
  · have e : b ≠ h.1 := fun e => by
      subst e
      have := hb
      simp only [jm_new, if_true] at this
      exact jm_oa (Prod.mk.inj this.symm).1
    have hb' : h.2.2.1 b = (jm_o c', n') := by
      have := hb
      simp only [jm_new, if_neg e] at this
      exact this
    obtain ⟨g1, r', g2, g3⟩ := h3 b c' n' hb'
    refine ⟨g1, r', g2, ?_⟩
    rw [jm_new_ne h _ _ f e]
    exact g3.kept (hq b (by rw [h1]; exact hlt hb'))
  · by_cases e : b = h.1
    · subst e
      have hb' : (jm_a t, n) = (jm_a t', n') := by
        have := hb
        simp only [jm_new, if_true] at this
        exact this
      have e2 := jm_a_inj (Prod.mk.inj hb').1
      have e3 := (Prod.mk.inj hb').2
      subst e2; subst e3
      refine ⟨by rw [h1]; exact h2, ht, ?_⟩
      rw [jm_new_at]
      exact hn
    · have hb' : h.2.2.1 b = (jm_a t', n') := by
        have := hb
        simp only [jm_new, if_neg e] at this
        exact this
      obtain ⟨g1, g2, g3⟩ := h4 b t' n' hb'
      refine ⟨g1, g2, ?_⟩
      rw [jm_new_ne h _ _ f e, hq b (by rw [h1]; exact hltA hb')]
      exact g3

/-! ===== what else the machine's tables and statics say (words that not every state keeps) ===== -/
def jm_NW : List (String × Nat × MethodName) := [("CellWorks", 11, ⟨"CellWorks$Reader", "<init>", "()V"⟩), ("CellWorks$Reader", 11, ⟨"CellWorks$Tape", "<init>", "()V"⟩), ("CellWorks$Reader", 20, ⟨"CellWorks$Formula", "<init>", "()V"⟩), ("CellWorks", 18, ⟨"CellWorks$Cells", "<init>", "()V"⟩), ("CellWorks", 25, ⟨"CellWorks$Builder", "<init>", "()V"⟩), ("CellWorks$Builder", 11, ⟨"CellWorks$Work", "<init>", "()V"⟩), ("CellWorks", 171, ⟨"CellWorks$Formula", "<init>", "()V"⟩)]
def jm_NC : List String := ["java/lang/UnsupportedOperationException", "java/lang/IllegalArgumentException", "java/util/NoSuchElementException", "java/lang/IndexOutOfBoundsException"]
def jm_ND : List MethodName := [⟨"java/lang/RuntimeException", "<init>", "()V"⟩, ⟨"java/lang/RuntimeException", "<init>", "(Ljava/lang/String;)V"⟩, ⟨"java/lang/Exception", "<init>", "()V"⟩, ⟨"java/lang/Exception", "<init>", "(Ljava/lang/String;)V"⟩, ⟨"java/lang/Throwable", "<init>", "()V"⟩, ⟨"java/lang/Throwable", "<init>", "(Ljava/lang/String;)V"⟩]
def jm_NS : List (Nat × String) := [(42, "the tape would have more than 2000 bytes"), (53, "the tape has not so many bytes"), (146, "the tape is no NAME"), (123, "there is no such name or byte"), (139, "what is none of 0 to 4")]
/-- a static reference of Throwable: where it lies, and that it holds a reference or null -/
def jm_St (n d : String) (A : Nat → Prop) (U : State) (H : Heap) : Prop := ∃ (c : ClassId) (k : Class) (i : Nat) (f : Field) (a : Nat) (cell : Cell) (v : Value), U.vm.findClass "java/lang/Throwable" = some c ∧ U.fieldFound? "java/lang/Throwable" n d = some (c, k, i, f) ∧ f.isStatic = true ∧ k.statics = some a ∧ H[a]? = some cell ∧ cell.vm.isStatics = true ∧ cell.cls = c ∧ f.slot < cell.slots.size ∧ k.staticTypes[f.slot]? = some f.type ∧ cell.slots[f.slot]? = some v ∧ v.isRef = true ∧ ¬ A a
theorem jm_St.moved {n d : String} {A : Nat → Prop} {u U : State} {H : Heap} (hvm : u.vm.Alike U.vm) (h : jm_St n d A u H) : jm_St n d A U H := by
  obtain ⟨c, k, i, f, a, cell, v, h1, h2, h3, h4, h5, h6, h7, h8, h9, h10⟩ := h
  obtain ⟨k', hi', he⟩ := State.fieldFound?_setVm hvm h2
  exact ⟨c, k', i, f, a, cell, v, by rw [hvm.findClass]; exact h1, hi', h3, by rw [he]; exact h4, h5, h6, h7, h8, by rw [he]; exact h9, h10⟩
theorem jm_St.kept {n d : String} {A : Nat → Prop} {U : State} {H H1 : Heap} (h : jm_St n d A U H) (hq : ∀ a : Nat, a < H.size → ¬ A a → H1[a]? = H[a]?) : jm_St n d A U H1 := by
  obtain ⟨c, k, i, f, a, cell, v, h1, h2, h3, h4, h5, h6, h7, h8, h9, h10, h11, h12⟩ := h
  exact ⟨c, k, i, f, a, cell, v, h1, h2, h3, h4, by rw [hq a (Array.getElem?_eq_some_iff.mp h5).1 h12]; exact h5, h6, h7, h8, h9, h10, h11, h12⟩
def jm_N (G : jm_G) (U : State) (H : Heap) : Prop := (∀ q ∈ jm_NW, va_Nw (.methodLinkNest q.1 q.2.1 q.2.2 "CellWorks") U) ∧ va_AO "CellWorks$Cell" U ∧ (∀ q ∈ jm_NC, va_Nw (.castable q q) U) ∧ (∀ x ∈ jm_ND, va_Nw (.declares x) U) ∧
  jm_St "UNASSIGNED_STACK" "[Ljava/lang/StackTraceElement;" (jm_A G) U H ∧ jm_St "SUPPRESSED_SENTINEL" "Ljava/util/List;" (jm_A G) U H ∧ ∀ q ∈ jm_NS, ∃ a, vk_R "CellWorks" q.1 q.2 a U
theorem jm_N.calling {G : jm_G} {U : State} {g : JFrame} {mk : MethodId} {a : Array Value} (h : jm_N G U U.heap) : jm_N G (U.calling g mk a) (U.calling g mk a).heap := by
  obtain ⟨h1, h2, h3, h4, h5, h6, h7⟩ := h
  exact ⟨fun q hq => va_Nw.same (u := U) rfl rfl (h1 q hq), va_AO.moved (u := U) (Vm.Alike.refl U.vm) h2, fun q hq => va_Nw.same (u := U) rfl rfl (h3 q hq), fun x hx => va_Nw.same (u := U) rfl rfl (h4 x hx), jm_St.moved (u := U) (Vm.Alike.refl U.vm) h5, jm_St.moved (u := U) (Vm.Alike.refl U.vm) h6, fun q hq => (h7 q hq).imp fun _ h => vk_R.same (u := U) rfl h⟩
theorem jm_N.warm {G : jm_G} {s U : State} {H : Heap} {locs : List Loc} (hW : s.WarmedH U.vm) (hU : U.heap = H) (hS : va_S (jm_A G) s.heap H locs) (h : jm_N G s s.heap) : jm_N G U U.heap := by
  obtain ⟨h1, h2, h3, h4, h5, h6, h7⟩ := h
  subst hU
  exact ⟨fun q hq => va_Nw.warmM hW (h1 q hq), va_AO.moved hW.alike h2, fun q hq => va_Nw.warmC hW (h3 q hq), fun x hx => va_Nw.warmD hW (h4 x hx), jm_St.moved hW.alike (h5.kept hS.2.1), jm_St.moved hW.alike (h6.kept hS.2.1), fun q hq => (h7 q hq).imp fun _ h => vk_R.warm hW h⟩
theorem jm_N.nest {G : jm_G} {U : State} {H : Heap} (h : jm_N G U H) {own : String} {i : Nat} {y : MethodName} (hq : (own, i, y) ∈ jm_NW) : va_Nw (.methodLinkNest own i y "CellWorks") U := h.1 (own, i, y) hq

/-! ===== the judgement ===== -/
/-- a method: name, code, how many locals, what it returns, its exception table -/
abbrev jm_r : Type := Option Value ⊕ String
abbrev jm_E : Type := List Frame → Array Value → State → State → Prop
/-- how a frame must end: frames, locals' words, and by the end (answer, heap) cells, slots, what the machine's end must be -/
abbrev jm_Z : Type := Nat × Nat × (jm_r → jm_H → Nat × Nat × jm_E)
def jm_rm (Z : jm_Z) (r : jm_r) (h : jm_H) : Room := { frames := Z.1, cells := (Z.2.2 r h).1, slots := (Z.2.2 r h).2.1, locals := Z.2.1 }
def jm_Cx (G : jm_G) (M : jm_M) (p : Program) (s : State) (m : MethodId) (args : Array Value) (meth : Method) (c : Code) : Prop :=
  p.tables.exec = Jvm.exec ∧ c.code = M.2.1 ∧ c.maxLocals = M.2.2.1 ∧ meth.sig.returnType = M.2.2.2.1 ∧ meth.locks = false ∧ meth.name = M.1.name ∧ s.vm.findClass M.1.cls = some m.cls ∧ c.exceptionTable.toList = M.2.2.2.2 ∧ (∀ w ∈ jm_W, w.before args s = true) ∧ jm_K G s ∧ jm_N G s s.heap
def jm_V (l : Launch) (G : jm_G) (M : jm_M) (n0 s0 : Nat) (R : Room) (E : jm_E) (pc : Nat) (lv : List (Nat × Value)) (st : List Value) (h : jm_H) : Prop :=
  ∀ (p : Program) (e : Env) (s : State) (m : MethodId) (args : Array Value) (below : List Frame) (meth : Method) (c : Code) (H : Heap) (locs : List Loc) (ls : Array Slot),
    jm_Cx G M p s m args meth c → n0 = s.heap.size → n0 ≤ h.1 → s0 ≤ h.2.1 → jm_R G h H → va_S (jm_A G) s.heap H locs → lv_has ls M.2.2.1 lv →
    W p l e R s m args below meth c H locs (h.1 - n0) (h.2.1 - s0) (E below args s) (F0 m pc ls st)
def jm_X (l : Launch) (G : jm_G) (M : jm_M) (n0 s0 : Nat) (Z : jm_Z) (Post : jm_r → jm_H → Prop) (pc : Nat) (lv : List (Nat × Value)) (st : List Value) (h : jm_H) : Prop :=
  ∃ (r : jm_r) (h' : jm_H), h.1 ≤ h'.1 ∧ h.2.1 ≤ h'.2.1 ∧ h'.1 - n0 ≤ (Z.2.2 r h').1 ∧ h'.2.1 - s0 ≤ (Z.2.2 r h').2.1 ∧ Post r h' ∧ jm_V l G M n0 s0 (jm_rm Z r h') (Z.2.2 r h').2.2 pc lv st h
section JX
variable {l : Launch} {G : jm_G} {M : jm_M} {n0 s0 : Nat} {Z : jm_Z} {Post : jm_r → jm_H → Prop} {pc : Nat} {lv : List (Nat × Value)} {st : List Value} {h : jm_H}
theorem jx_imp {Post' : jm_r → jm_H → Prop} (k : jm_X l G M n0 s0 Z Post pc lv st h) (hp : ∀ r h', Post r h' → Post' r h') : jm_X l G M n0 s0 Z Post' pc lv st h := by
  obtain ⟨r, h', a1, a2, a3, a4, a5, v⟩ := k
  exact ⟨r, h', a1, a2, a3, a4, hp r h' a5, v⟩
theorem jx_lv {lv' : List (Nat × Value)} (ks : List Nat) (hl : lv_pick lv ks = lv') (k : jm_X l G M n0 s0 Z Post pc lv' st h) : jm_X l G M n0 s0 Z Post pc lv st h := by
  obtain ⟨r, h', a1, a2, a3, a4, a5, v⟩ := k
  exact ⟨r, h', a1, a2, a3, a4, a5, fun p e s m args below meth c H locs ls C n1 n2 n3 hR hS hv => v p e s m args below meth c H locs ls C n1 n2 n3 hR hS (lv_sub hv ks hl)⟩

theorem jx_iconst {n : Int} {v0 : Int32} (hd : decode M.2.1 pc = .ok (.iconst n, 1)) (hv0 : Int32.ofInt n = v0) (k : jm_X l G M n0 s0 Z Post (pc + 1) lv (.int v0 :: st) h) : jm_X l G M n0 s0 Z Post pc lv st h := by
  obtain ⟨r, h', a1, a2, a3, a4, a5, v⟩ := k
  exact ⟨r, h', a1, a2, a3, a4, a5, fun p e s m args below meth c H locs ls C n1 n2 n3 hR hS hv => lv_iconst C.1 C.2.1 hd hv0 (v p e s m args below meth c H locs ls C n1 n2 n3 hR hS hv)⟩
theorem jx_bipush {n : Int} {v0 : Int32} (hd : decode M.2.1 pc = .ok (.bipush n, 2)) (hv0 : (Int8.ofInt n).toInt32 = v0) (k : jm_X l G M n0 s0 Z Post (pc + 2) lv (.int v0 :: st) h) : jm_X l G M n0 s0 Z Post pc lv st h := by
  obtain ⟨r, h', a1, a2, a3, a4, a5, v⟩ := k
  exact ⟨r, h', a1, a2, a3, a4, a5, fun p e s m args below meth c H locs ls C n1 n2 n3 hR hS hv => lv_bipush C.1 C.2.1 hd hv0 (v p e s m args below meth c H locs ls C n1 n2 n3 hR hS hv)⟩
theorem jx_sipush {n : Int} {v0 : Int32} (hd : decode M.2.1 pc = .ok (.sipush n, 3)) (hv0 : (Int16.ofInt n).toInt32 = v0) (k : jm_X l G M n0 s0 Z Post (pc + 3) lv (.int v0 :: st) h) : jm_X l G M n0 s0 Z Post pc lv st h := by
  obtain ⟨r, h', a1, a2, a3, a4, a5, v⟩ := k
  exact ⟨r, h', a1, a2, a3, a4, a5, fun p e s m args below meth c H locs ls C n1 n2 n3 hR hS hv => lv_sipush C.1 C.2.1 hd hv0 (v p e s m args below meth c H locs ls C n1 n2 n3 hR hS hv)⟩
theorem jx_lconst {n : Fin 2} {v0 : Int64} (hd : decode M.2.1 pc = .ok (.lconst n, 1)) (hv0 : Int64.ofNat (n : Nat) = v0) (k : jm_X l G M n0 s0 Z Post (pc + 1) lv (.long v0 :: st) h) : jm_X l G M n0 s0 Z Post pc lv st h := by
  obtain ⟨r, h', a1, a2, a3, a4, a5, v⟩ := k
  exact ⟨r, h', a1, a2, a3, a4, a5, fun p e s m args below meth c H locs ls C n1 n2 n3 hR hS hv => lv_lconst C.1 C.2.1 hd hv0 (v p e s m args below meth c H locs ls C n1 n2 n3 hR hS hv)⟩
theorem jx_null  (hd : decode M.2.1 pc = .ok (.aconst_null, 1)) (k : jm_X l G M n0 s0 Z Post (pc + 1) lv (.null :: st) h) : jm_X l G M n0 s0 Z Post pc lv st h := by
  obtain ⟨r, h', a1, a2, a3, a4, a5, v⟩ := k
  exact ⟨r, h', a1, a2, a3, a4, a5, fun p e s m args below meth c H locs ls C n1 n2 n3 hR hS hv => lv_null C.1 C.2.1 hd (v p e s m args below meth c H locs ls C n1 n2 n3 hR hS hv)⟩
theorem jx_ldc {i : Nat} {v0 : Int32} (hd : decode M.2.1 pc = .ok (.ldc i, 2)) (hw : Cond.constant M.1.cls i v0 ∈ jm_W) (k : jm_X l G M n0 s0 Z Post (pc + 2) lv (.int v0 :: st) h) : jm_X l G M n0 s0 Z Post pc lv st h := by
  obtain ⟨r, h', a1, a2, a3, a4, a5, v⟩ := k
  exact ⟨r, h', a1, a2, a3, a4, a5, fun p e s m args below meth c H locs ls C n1 n2 n3 hR hS hv => lv_ldc C.1 C.2.1 C.2.2.2.2.2.2.1 (C.2.2.2.2.2.2.2.2.1 _ hw) hd (v p e s m args below meth c H locs ls C n1 n2 n3 hR hS hv)⟩
theorem jx_ldc2 {i : Nat} {v0 : Int64} (hd : decode M.2.1 pc = .ok (.ldc2_w i, 3)) (hw : Cond.constantLong M.1.cls i v0 ∈ jm_W) (k : jm_X l G M n0 s0 Z Post (pc + 3) lv (.long v0 :: st) h) : jm_X l G M n0 s0 Z Post pc lv st h := by
  obtain ⟨r, h', a1, a2, a3, a4, a5, v⟩ := k
  exact ⟨r, h', a1, a2, a3, a4, a5, fun p e s m args below meth c H locs ls C n1 n2 n3 hR hS hv => lv_ldc2 C.1 C.2.1 C.2.2.2.2.2.2.1 (C.2.2.2.2.2.2.2.2.1 _ hw) hd (v p e s m args below meth c H locs ls C n1 n2 n3 hR hS hv)⟩
theorem jx_iload_n {k0 : Fin 4} {x : Int32} (hd : decode M.2.1 pc = .ok (.iload_n k0, 1)) (q : Nat) (hx : lv[q]? = some ((k0 : Nat), .int x)) (k : jm_X l G M n0 s0 Z Post (pc + 1) lv (.int x :: st) h) : jm_X l G M n0 s0 Z Post pc lv st h := by
  obtain ⟨r, h', a1, a2, a3, a4, a5, v⟩ := k
  exact ⟨r, h', a1, a2, a3, a4, a5, fun p e s m args below meth c H locs ls C n1 n2 n3 hR hS hv => lv_iload_n C.1 C.2.1 hd rfl (lv_at hv q hx) (v p e s m args below meth c H locs ls C n1 n2 n3 hR hS hv)⟩
theorem jx_iload {i : Nat} {x : Int32} (hd : decode M.2.1 pc = .ok (.iload i, 2)) (q : Nat) (hx : lv[q]? = some (i, .int x)) (k : jm_X l G M n0 s0 Z Post (pc + 2) lv (.int x :: st) h) : jm_X l G M n0 s0 Z Post pc lv st h := by
  obtain ⟨r, h', a1, a2, a3, a4, a5, v⟩ := k
  exact ⟨r, h', a1, a2, a3, a4, a5, fun p e s m args below meth c H locs ls C n1 n2 n3 hR hS hv => lv_iload C.1 C.2.1 hd (lv_at hv q hx) (v p e s m args below meth c H locs ls C n1 n2 n3 hR hS hv)⟩
theorem jx_lload_n {k0 : Fin 4} {x : Int64} (hd : decode M.2.1 pc = .ok (.lload_n k0, 1)) (q : Nat) (hx : lv[q]? = some ((k0 : Nat), .long x)) (k : jm_X l G M n0 s0 Z Post (pc + 1) lv (.long x :: st) h) : jm_X l G M n0 s0 Z Post pc lv st h := by
  obtain ⟨r, h', a1, a2, a3, a4, a5, v⟩ := k
  exact ⟨r, h', a1, a2, a3, a4, a5, fun p e s m args below meth c H locs ls C n1 n2 n3 hR hS hv => lv_lload_n C.1 C.2.1 hd rfl (lv_at hv q hx) (v p e s m args below meth c H locs ls C n1 n2 n3 hR hS hv)⟩
theorem jx_lload {i : Nat} {x : Int64} (hd : decode M.2.1 pc = .ok (.lload i, 2)) (q : Nat) (hx : lv[q]? = some (i, .long x)) (k : jm_X l G M n0 s0 Z Post (pc + 2) lv (.long x :: st) h) : jm_X l G M n0 s0 Z Post pc lv st h := by
  obtain ⟨r, h', a1, a2, a3, a4, a5, v⟩ := k
  exact ⟨r, h', a1, a2, a3, a4, a5, fun p e s m args below meth c H locs ls C n1 n2 n3 hR hS hv => lv_lload C.1 C.2.1 hd (lv_at hv q hx) (v p e s m args below meth c H locs ls C n1 n2 n3 hR hS hv)⟩
theorem jx_aload_n {k0 : Fin 4} {x : Nat} (hd : decode M.2.1 pc = .ok (.aload_n k0, 1)) (q : Nat) (hx : lv[q]? = some ((k0 : Nat), .ref x)) (k : jm_X l G M n0 s0 Z Post (pc + 1) lv (.ref x :: st) h) : jm_X l G M n0 s0 Z Post pc lv st h := by
  obtain ⟨r, h', a1, a2, a3, a4, a5, v⟩ := k
  exact ⟨r, h', a1, a2, a3, a4, a5, fun p e s m args below meth c H locs ls C n1 n2 n3 hR hS hv => lv_aload_n C.1 C.2.1 hd rfl (lv_at hv q hx) (v p e s m args below meth c H locs ls C n1 n2 n3 hR hS hv)⟩
theorem jx_aload {i : Nat} {x : Nat} (hd : decode M.2.1 pc = .ok (.aload i, 2)) (q : Nat) (hx : lv[q]? = some (i, .ref x)) (k : jm_X l G M n0 s0 Z Post (pc + 2) lv (.ref x :: st) h) : jm_X l G M n0 s0 Z Post pc lv st h := by
  obtain ⟨r, h', a1, a2, a3, a4, a5, v⟩ := k
  exact ⟨r, h', a1, a2, a3, a4, a5, fun p e s m args below meth c H locs ls C n1 n2 n3 hR hS hv => lv_aload C.1 C.2.1 hd (lv_at hv q hx) (v p e s m args below meth c H locs ls C n1 n2 n3 hR hS hv)⟩
theorem jx_aload_nN {k0 : Fin 4} (hd : decode M.2.1 pc = .ok (.aload_n k0, 1)) (q : Nat) (hx : lv[q]? = some ((k0 : Nat), .null)) (k : jm_X l G M n0 s0 Z Post (pc + 1) lv (.null :: st) h) : jm_X l G M n0 s0 Z Post pc lv st h := by
  obtain ⟨r, h', a1, a2, a3, a4, a5, v⟩ := k
  exact ⟨r, h', a1, a2, a3, a4, a5, fun p e s m args below meth c H locs ls C n1 n2 n3 hR hS hv => lv_aload_nN C.1 C.2.1 hd rfl (lv_at hv q hx) (v p e s m args below meth c H locs ls C n1 n2 n3 hR hS hv)⟩
theorem jx_aloadN {i : Nat} (hd : decode M.2.1 pc = .ok (.aload i, 2)) (q : Nat) (hx : lv[q]? = some (i, .null)) (k : jm_X l G M n0 s0 Z Post (pc + 2) lv (.null :: st) h) : jm_X l G M n0 s0 Z Post pc lv st h := by
  obtain ⟨r, h', a1, a2, a3, a4, a5, v⟩ := k
  exact ⟨r, h', a1, a2, a3, a4, a5, fun p e s m args below meth c H locs ls C n1 n2 n3 hR hS hv => lv_aloadN C.1 C.2.1 hd (lv_at hv q hx) (v p e s m args below meth c H locs ls C n1 n2 n3 hR hS hv)⟩
theorem jx_istore_n {k0 : Fin 4} {lv' : List (Nat × Value)} {x : Int32} (hd : decode M.2.1 pc = .ok (.istore_n k0, 1)) (hn : (k0 : Nat) < M.2.2.1) (hl : ((k0 : Nat), Value.int x) :: lv.filter (fun q => !(q.1 == (k0 : Nat)) && !(q.1 + 1 == (k0 : Nat) && q.2.category == 2)) = lv') (k : jm_X l G M n0 s0 Z Post (pc + 1) lv' st h) : jm_X l G M n0 s0 Z Post pc lv (Value.int x :: st) h := by
  obtain ⟨r, h', a1, a2, a3, a4, a5, v⟩ := k
  exact ⟨r, h', a1, a2, a3, a4, a5, fun p e s m args below meth c H locs ls C n1 n2 n3 hR hS hv => lv_istore_n C.1 C.2.1 hd rfl hv hn hl (fun ls hv => v p e s m args below meth c H locs ls C n1 n2 n3 hR hS hv)⟩
theorem jx_istore {i : Nat} {lv' : List (Nat × Value)} {x : Int32} (hd : decode M.2.1 pc = .ok (.istore i, 2)) (hn : i < M.2.2.1) (hl : (i, Value.int x) :: lv.filter (fun q => !(q.1 == i) && !(q.1 + 1 == i && q.2.category == 2)) = lv') (k : jm_X l G M n0 s0 Z Post (pc + 2) lv' st h) : jm_X l G M n0 s0 Z Post pc lv (Value.int x :: st) h := by
  obtain ⟨r, h', a1, a2, a3, a4, a5, v⟩ := k
  exact ⟨r, h', a1, a2, a3, a4, a5, fun p e s m args below meth c H locs ls C n1 n2 n3 hR hS hv => lv_istore C.1 C.2.1 hd hv hn hl (fun ls hv => v p e s m args below meth c H locs ls C n1 n2 n3 hR hS hv)⟩
theorem jx_lstore_n {k0 : Fin 4} {lv' : List (Nat × Value)} {x : Int64} (hd : decode M.2.1 pc = .ok (.lstore_n k0, 1)) (hn : (k0 : Nat) + 1 < M.2.2.1) (hl : ((k0 : Nat), Value.long x) :: lv.filter (fun q => !(q.1 == (k0 : Nat)) && (!(q.1 == (k0 : Nat) + 1) && !(q.1 + 1 == (k0 : Nat) && q.2.category == 2))) = lv') (k : jm_X l G M n0 s0 Z Post (pc + 1) lv' st h) : jm_X l G M n0 s0 Z Post pc lv (Value.long x :: st) h := by
  obtain ⟨r, h', a1, a2, a3, a4, a5, v⟩ := k
  exact ⟨r, h', a1, a2, a3, a4, a5, fun p e s m args below meth c H locs ls C n1 n2 n3 hR hS hv => lv_lstore_n C.1 C.2.1 hd rfl hv hn hl (fun ls hv => v p e s m args below meth c H locs ls C n1 n2 n3 hR hS hv)⟩
theorem jx_lstore {i : Nat} {lv' : List (Nat × Value)} {x : Int64} (hd : decode M.2.1 pc = .ok (.lstore i, 2)) (hn : i + 1 < M.2.2.1) (hl : (i, Value.long x) :: lv.filter (fun q => !(q.1 == i) && (!(q.1 == i + 1) && !(q.1 + 1 == i && q.2.category == 2))) = lv') (k : jm_X l G M n0 s0 Z Post (pc + 2) lv' st h) : jm_X l G M n0 s0 Z Post pc lv (Value.long x :: st) h := by
  obtain ⟨r, h', a1, a2, a3, a4, a5, v⟩ := k
  exact ⟨r, h', a1, a2, a3, a4, a5, fun p e s m args below meth c H locs ls C n1 n2 n3 hR hS hv => lv_lstore C.1 C.2.1 hd hv hn hl (fun ls hv => v p e s m args below meth c H locs ls C n1 n2 n3 hR hS hv)⟩
theorem jx_astore_n {k0 : Fin 4} {lv' : List (Nat × Value)} {x : Nat} (hd : decode M.2.1 pc = .ok (.astore_n k0, 1)) (hn : (k0 : Nat) < M.2.2.1) (hl : ((k0 : Nat), Value.ref x) :: lv.filter (fun q => !(q.1 == (k0 : Nat)) && !(q.1 + 1 == (k0 : Nat) && q.2.category == 2)) = lv') (k : jm_X l G M n0 s0 Z Post (pc + 1) lv' st h) : jm_X l G M n0 s0 Z Post pc lv (Value.ref x :: st) h := by
  obtain ⟨r, h', a1, a2, a3, a4, a5, v⟩ := k
  exact ⟨r, h', a1, a2, a3, a4, a5, fun p e s m args below meth c H locs ls C n1 n2 n3 hR hS hv => lv_astore_n C.1 C.2.1 hd rfl hv hn hl (fun ls hv => v p e s m args below meth c H locs ls C n1 n2 n3 hR hS hv)⟩
theorem jx_astore {i : Nat} {lv' : List (Nat × Value)} {x : Nat} (hd : decode M.2.1 pc = .ok (.astore i, 2)) (hn : i < M.2.2.1) (hl : (i, Value.ref x) :: lv.filter (fun q => !(q.1 == i) && !(q.1 + 1 == i && q.2.category == 2)) = lv') (k : jm_X l G M n0 s0 Z Post (pc + 2) lv' st h) : jm_X l G M n0 s0 Z Post pc lv (Value.ref x :: st) h := by
  obtain ⟨r, h', a1, a2, a3, a4, a5, v⟩ := k
  exact ⟨r, h', a1, a2, a3, a4, a5, fun p e s m args below meth c H locs ls C n1 n2 n3 hR hS hv => lv_astore C.1 C.2.1 hd hv hn hl (fun ls hv => v p e s m args below meth c H locs ls C n1 n2 n3 hR hS hv)⟩
theorem jx_astore_nN {k0 : Fin 4} {lv' : List (Nat × Value)}  (hd : decode M.2.1 pc = .ok (.astore_n k0, 1)) (hn : (k0 : Nat) < M.2.2.1) (hl : ((k0 : Nat), Value.null) :: lv.filter (fun q => !(q.1 == (k0 : Nat)) && !(q.1 + 1 == (k0 : Nat) && q.2.category == 2)) = lv') (k : jm_X l G M n0 s0 Z Post (pc + 1) lv' st h) : jm_X l G M n0 s0 Z Post pc lv (Value.null :: st) h := by
  obtain ⟨r, h', a1, a2, a3, a4, a5, v⟩ := k
  exact ⟨r, h', a1, a2, a3, a4, a5, fun p e s m args below meth c H locs ls C n1 n2 n3 hR hS hv => lv_astore_nN C.1 C.2.1 hd rfl hv hn hl (fun ls hv => v p e s m args below meth c H locs ls C n1 n2 n3 hR hS hv)⟩
theorem jx_astoreN {i : Nat} {lv' : List (Nat × Value)}  (hd : decode M.2.1 pc = .ok (.astore i, 2)) (hn : i < M.2.2.1) (hl : (i, Value.null) :: lv.filter (fun q => !(q.1 == i) && !(q.1 + 1 == i && q.2.category == 2)) = lv') (k : jm_X l G M n0 s0 Z Post (pc + 2) lv' st h) : jm_X l G M n0 s0 Z Post pc lv (Value.null :: st) h := by
  obtain ⟨r, h', a1, a2, a3, a4, a5, v⟩ := k
  exact ⟨r, h', a1, a2, a3, a4, a5, fun p e s m args below meth c H locs ls C n1 n2 n3 hR hS hv => lv_astoreN C.1 C.2.1 hd hv hn hl (fun ls hv => v p e s m args below meth c H locs ls C n1 n2 n3 hR hS hv)⟩
theorem jx_iinc {i : Nat} {n : Int} {x v0 : Int32} {lv' : List (Nat × Value)} (hd : decode M.2.1 pc = .ok (.iinc i n, 3)) (q : Nat) (hx : lv[q]? = some (i, .int x)) (hv0 : x + Int32.ofInt n = v0) (hn : i < M.2.2.1) (hl : (i, Value.int v0) :: lv.filter (fun q => !(q.1 == i) && !(q.1 + 1 == i && q.2.category == 2)) = lv') (k : jm_X l G M n0 s0 Z Post (pc + 3) lv' st h) : jm_X l G M n0 s0 Z Post pc lv st h := by
  obtain ⟨r, h', a1, a2, a3, a4, a5, v⟩ := k
  exact ⟨r, h', a1, a2, a3, a4, a5, fun p e s m args below meth c H locs ls C n1 n2 n3 hR hS hv => lv_iinc C.1 C.2.1 hd hv hx hv0 hn hl (fun ls hv => v p e s m args below meth c H locs ls C n1 n2 n3 hR hS hv)⟩
theorem jx_iadd {x y : Int32} (hd : decode M.2.1 pc = .ok (.iadd, 1)) (k : jm_X l G M n0 s0 Z Post (pc + 1) lv (.int (x + y) :: st) h) : jm_X l G M n0 s0 Z Post pc lv (.int y :: .int x :: st) h := by
  obtain ⟨r, h', a1, a2, a3, a4, a5, v⟩ := k
  exact ⟨r, h', a1, a2, a3, a4, a5, fun p e s m args below meth c H locs ls C n1 n2 n3 hR hS hv => lv_iadd C.1 C.2.1 hd (v p e s m args below meth c H locs ls C n1 n2 n3 hR hS hv)⟩
theorem jx_isub {x y : Int32} (hd : decode M.2.1 pc = .ok (.isub, 1)) (k : jm_X l G M n0 s0 Z Post (pc + 1) lv (.int (x - y) :: st) h) : jm_X l G M n0 s0 Z Post pc lv (.int y :: .int x :: st) h := by
  obtain ⟨r, h', a1, a2, a3, a4, a5, v⟩ := k
  exact ⟨r, h', a1, a2, a3, a4, a5, fun p e s m args below meth c H locs ls C n1 n2 n3 hR hS hv => lv_isub C.1 C.2.1 hd (v p e s m args below meth c H locs ls C n1 n2 n3 hR hS hv)⟩
theorem jx_imul {x y : Int32} (hd : decode M.2.1 pc = .ok (.imul, 1)) (k : jm_X l G M n0 s0 Z Post (pc + 1) lv (.int (x * y) :: st) h) : jm_X l G M n0 s0 Z Post pc lv (.int y :: .int x :: st) h := by
  obtain ⟨r, h', a1, a2, a3, a4, a5, v⟩ := k
  exact ⟨r, h', a1, a2, a3, a4, a5, fun p e s m args below meth c H locs ls C n1 n2 n3 hR hS hv => lv_imul C.1 C.2.1 hd (v p e s m args below meth c H locs ls C n1 n2 n3 hR hS hv)⟩
theorem jx_iand {x y : Int32} (hd : decode M.2.1 pc = .ok (.iand, 1)) (k : jm_X l G M n0 s0 Z Post (pc + 1) lv (.int (x &&& y) :: st) h) : jm_X l G M n0 s0 Z Post pc lv (.int y :: .int x :: st) h := by
  obtain ⟨r, h', a1, a2, a3, a4, a5, v⟩ := k
  exact ⟨r, h', a1, a2, a3, a4, a5, fun p e s m args below meth c H locs ls C n1 n2 n3 hR hS hv => lv_iand C.1 C.2.1 hd (v p e s m args below meth c H locs ls C n1 n2 n3 hR hS hv)⟩
theorem jx_ior {x y : Int32} (hd : decode M.2.1 pc = .ok (.ior, 1)) (k : jm_X l G M n0 s0 Z Post (pc + 1) lv (.int (x ||| y) :: st) h) : jm_X l G M n0 s0 Z Post pc lv (.int y :: .int x :: st) h := by
  obtain ⟨r, h', a1, a2, a3, a4, a5, v⟩ := k
  exact ⟨r, h', a1, a2, a3, a4, a5, fun p e s m args below meth c H locs ls C n1 n2 n3 hR hS hv => lv_ior C.1 C.2.1 hd (v p e s m args below meth c H locs ls C n1 n2 n3 hR hS hv)⟩
theorem jx_ixor {x y : Int32} (hd : decode M.2.1 pc = .ok (.ixor, 1)) (k : jm_X l G M n0 s0 Z Post (pc + 1) lv (.int (x ^^^ y) :: st) h) : jm_X l G M n0 s0 Z Post pc lv (.int y :: .int x :: st) h := by
  obtain ⟨r, h', a1, a2, a3, a4, a5, v⟩ := k
  exact ⟨r, h', a1, a2, a3, a4, a5, fun p e s m args below meth c H locs ls C n1 n2 n3 hR hS hv => lv_ixor C.1 C.2.1 hd (v p e s m args below meth c H locs ls C n1 n2 n3 hR hS hv)⟩
theorem jx_ishl {x y : Int32} (hd : decode M.2.1 pc = .ok (.ishl, 1)) (k : jm_X l G M n0 s0 Z Post (pc + 1) lv (.int (x <<< (y &&& 31)) :: st) h) : jm_X l G M n0 s0 Z Post pc lv (.int y :: .int x :: st) h := by
  obtain ⟨r, h', a1, a2, a3, a4, a5, v⟩ := k
  exact ⟨r, h', a1, a2, a3, a4, a5, fun p e s m args below meth c H locs ls C n1 n2 n3 hR hS hv => lv_ishl C.1 C.2.1 hd (v p e s m args below meth c H locs ls C n1 n2 n3 hR hS hv)⟩
theorem jx_ishr {x y : Int32} (hd : decode M.2.1 pc = .ok (.ishr, 1)) (k : jm_X l G M n0 s0 Z Post (pc + 1) lv (.int (x >>> (y &&& 31)) :: st) h) : jm_X l G M n0 s0 Z Post pc lv (.int y :: .int x :: st) h := by
  obtain ⟨r, h', a1, a2, a3, a4, a5, v⟩ := k
  exact ⟨r, h', a1, a2, a3, a4, a5, fun p e s m args below meth c H locs ls C n1 n2 n3 hR hS hv => lv_ishr C.1 C.2.1 hd (v p e s m args below meth c H locs ls C n1 n2 n3 hR hS hv)⟩
theorem jx_idiv {x y : Int32} (hd : decode M.2.1 pc = .ok (.idiv, 1)) (hne : ¬ y = 0) (k : jm_X l G M n0 s0 Z Post (pc + 1) lv (.int (x / y) :: st) h) : jm_X l G M n0 s0 Z Post pc lv (.int y :: .int x :: st) h := by
  obtain ⟨r, h', a1, a2, a3, a4, a5, v⟩ := k
  exact ⟨r, h', a1, a2, a3, a4, a5, fun p e s m args below meth c H locs ls C n1 n2 n3 hR hS hv => lv_idiv C.1 C.2.1 hd hne (v p e s m args below meth c H locs ls C n1 n2 n3 hR hS hv)⟩
theorem jx_irem {x y : Int32} (hd : decode M.2.1 pc = .ok (.irem, 1)) (hne : ¬ y = 0) (k : jm_X l G M n0 s0 Z Post (pc + 1) lv (.int (x - x / y * y) :: st) h) : jm_X l G M n0 s0 Z Post pc lv (.int y :: .int x :: st) h := by
  obtain ⟨r, h', a1, a2, a3, a4, a5, v⟩ := k
  exact ⟨r, h', a1, a2, a3, a4, a5, fun p e s m args below meth c H locs ls C n1 n2 n3 hR hS hv => lv_irem C.1 C.2.1 hd hne (v p e s m args below meth c H locs ls C n1 n2 n3 hR hS hv)⟩
theorem jx_ineg {x : Int32} (hd : decode M.2.1 pc = .ok (.ineg, 1)) (k : jm_X l G M n0 s0 Z Post (pc + 1) lv (.int (-x) :: st) h) : jm_X l G M n0 s0 Z Post pc lv (.int x :: st) h := by
  obtain ⟨r, h', a1, a2, a3, a4, a5, v⟩ := k
  exact ⟨r, h', a1, a2, a3, a4, a5, fun p e s m args below meth c H locs ls C n1 n2 n3 hR hS hv => lv_ineg C.1 C.2.1 hd (v p e s m args below meth c H locs ls C n1 n2 n3 hR hS hv)⟩
theorem jx_iushr {x y : Int32} (hd : decode M.2.1 pc = .ok (.iushr, 1)) (k : jm_X l G M n0 s0 Z Post (pc + 1) lv (.int ((x.toUInt32 >>> (y.toUInt32 &&& Int32.toUInt32 31)).toInt32) :: st) h) : jm_X l G M n0 s0 Z Post pc lv (.int y :: .int x :: st) h := by
  obtain ⟨r, h', a1, a2, a3, a4, a5, v⟩ := k
  exact ⟨r, h', a1, a2, a3, a4, a5, fun p e s m args below meth c H locs ls C n1 n2 n3 hR hS hv => lv_iushr C.1 C.2.1 hd rfl (v p e s m args below meth c H locs ls C n1 n2 n3 hR hS hv)⟩
theorem jx_ladd {x y : Int64} (hd : decode M.2.1 pc = .ok (.ladd, 1)) (k : jm_X l G M n0 s0 Z Post (pc + 1) lv (.long (x + y) :: st) h) : jm_X l G M n0 s0 Z Post pc lv (.long y :: .long x :: st) h := by
  obtain ⟨r, h', a1, a2, a3, a4, a5, v⟩ := k
  exact ⟨r, h', a1, a2, a3, a4, a5, fun p e s m args below meth c H locs ls C n1 n2 n3 hR hS hv => lv_ladd C.1 C.2.1 hd (v p e s m args below meth c H locs ls C n1 n2 n3 hR hS hv)⟩
theorem jx_lsub {x y : Int64} (hd : decode M.2.1 pc = .ok (.lsub, 1)) (k : jm_X l G M n0 s0 Z Post (pc + 1) lv (.long (x - y) :: st) h) : jm_X l G M n0 s0 Z Post pc lv (.long y :: .long x :: st) h := by
  obtain ⟨r, h', a1, a2, a3, a4, a5, v⟩ := k
  exact ⟨r, h', a1, a2, a3, a4, a5, fun p e s m args below meth c H locs ls C n1 n2 n3 hR hS hv => lv_lsub C.1 C.2.1 hd (v p e s m args below meth c H locs ls C n1 n2 n3 hR hS hv)⟩
theorem jx_lmul {x y : Int64} (hd : decode M.2.1 pc = .ok (.lmul, 1)) (k : jm_X l G M n0 s0 Z Post (pc + 1) lv (.long (x * y) :: st) h) : jm_X l G M n0 s0 Z Post pc lv (.long y :: .long x :: st) h := by
  obtain ⟨r, h', a1, a2, a3, a4, a5, v⟩ := k
  exact ⟨r, h', a1, a2, a3, a4, a5, fun p e s m args below meth c H locs ls C n1 n2 n3 hR hS hv => lv_lmul C.1 C.2.1 hd (v p e s m args below meth c H locs ls C n1 n2 n3 hR hS hv)⟩
theorem jx_land {x y : Int64} (hd : decode M.2.1 pc = .ok (.land, 1)) (k : jm_X l G M n0 s0 Z Post (pc + 1) lv (.long (x &&& y) :: st) h) : jm_X l G M n0 s0 Z Post pc lv (.long y :: .long x :: st) h := by
  obtain ⟨r, h', a1, a2, a3, a4, a5, v⟩ := k
  exact ⟨r, h', a1, a2, a3, a4, a5, fun p e s m args below meth c H locs ls C n1 n2 n3 hR hS hv => lv_land C.1 C.2.1 hd (v p e s m args below meth c H locs ls C n1 n2 n3 hR hS hv)⟩
theorem jx_lor {x y : Int64} (hd : decode M.2.1 pc = .ok (.lor, 1)) (k : jm_X l G M n0 s0 Z Post (pc + 1) lv (.long (x ||| y) :: st) h) : jm_X l G M n0 s0 Z Post pc lv (.long y :: .long x :: st) h := by
  obtain ⟨r, h', a1, a2, a3, a4, a5, v⟩ := k
  exact ⟨r, h', a1, a2, a3, a4, a5, fun p e s m args below meth c H locs ls C n1 n2 n3 hR hS hv => lv_lor C.1 C.2.1 hd (v p e s m args below meth c H locs ls C n1 n2 n3 hR hS hv)⟩
theorem jx_lxor {x y : Int64} (hd : decode M.2.1 pc = .ok (.lxor, 1)) (k : jm_X l G M n0 s0 Z Post (pc + 1) lv (.long (x ^^^ y) :: st) h) : jm_X l G M n0 s0 Z Post pc lv (.long y :: .long x :: st) h := by
  obtain ⟨r, h', a1, a2, a3, a4, a5, v⟩ := k
  exact ⟨r, h', a1, a2, a3, a4, a5, fun p e s m args below meth c H locs ls C n1 n2 n3 hR hS hv => lv_lxor C.1 C.2.1 hd (v p e s m args below meth c H locs ls C n1 n2 n3 hR hS hv)⟩
theorem jx_ldiv {x y : Int64} (hd : decode M.2.1 pc = .ok (.ldiv, 1)) (hne : ¬ y = 0) (k : jm_X l G M n0 s0 Z Post (pc + 1) lv (.long (x / y) :: st) h) : jm_X l G M n0 s0 Z Post pc lv (.long y :: .long x :: st) h := by
  obtain ⟨r, h', a1, a2, a3, a4, a5, v⟩ := k
  exact ⟨r, h', a1, a2, a3, a4, a5, fun p e s m args below meth c H locs ls C n1 n2 n3 hR hS hv => lv_ldiv C.1 C.2.1 hd hne (v p e s m args below meth c H locs ls C n1 n2 n3 hR hS hv)⟩
theorem jx_lrem {x y : Int64} (hd : decode M.2.1 pc = .ok (.lrem, 1)) (hne : ¬ y = 0) (k : jm_X l G M n0 s0 Z Post (pc + 1) lv (.long (x - x / y * y) :: st) h) : jm_X l G M n0 s0 Z Post pc lv (.long y :: .long x :: st) h := by
  obtain ⟨r, h', a1, a2, a3, a4, a5, v⟩ := k
  exact ⟨r, h', a1, a2, a3, a4, a5, fun p e s m args below meth c H locs ls C n1 n2 n3 hR hS hv => lv_lrem C.1 C.2.1 hd hne (v p e s m args below meth c H locs ls C n1 n2 n3 hR hS hv)⟩
theorem jx_lneg {x : Int64} (hd : decode M.2.1 pc = .ok (.lneg, 1)) (k : jm_X l G M n0 s0 Z Post (pc + 1) lv (.long (-x) :: st) h) : jm_X l G M n0 s0 Z Post pc lv (.long x :: st) h := by
  obtain ⟨r, h', a1, a2, a3, a4, a5, v⟩ := k
  exact ⟨r, h', a1, a2, a3, a4, a5, fun p e s m args below meth c H locs ls C n1 n2 n3 hR hS hv => lv_lneg C.1 C.2.1 hd (v p e s m args below meth c H locs ls C n1 n2 n3 hR hS hv)⟩
theorem jx_lshl {x : Int64} {y : Int32} (hd : decode M.2.1 pc = .ok (.lshl, 1)) (k : jm_X l G M n0 s0 Z Post (pc + 1) lv (.long (x <<< (y.toInt64 &&& 63)) :: st) h) : jm_X l G M n0 s0 Z Post pc lv (.int y :: .long x :: st) h := by
  obtain ⟨r, h', a1, a2, a3, a4, a5, v⟩ := k
  exact ⟨r, h', a1, a2, a3, a4, a5, fun p e s m args below meth c H locs ls C n1 n2 n3 hR hS hv => lv_lshl C.1 C.2.1 hd rfl (v p e s m args below meth c H locs ls C n1 n2 n3 hR hS hv)⟩
theorem jx_lshr {x : Int64} {y : Int32} (hd : decode M.2.1 pc = .ok (.lshr, 1)) (k : jm_X l G M n0 s0 Z Post (pc + 1) lv (.long (x >>> (y.toInt64 &&& 63)) :: st) h) : jm_X l G M n0 s0 Z Post pc lv (.int y :: .long x :: st) h := by
  obtain ⟨r, h', a1, a2, a3, a4, a5, v⟩ := k
  exact ⟨r, h', a1, a2, a3, a4, a5, fun p e s m args below meth c H locs ls C n1 n2 n3 hR hS hv => lv_lshr C.1 C.2.1 hd rfl (v p e s m args below meth c H locs ls C n1 n2 n3 hR hS hv)⟩
theorem jx_lushr {x : Int64} {y : Int32} (hd : decode M.2.1 pc = .ok (.lushr, 1)) (k : jm_X l G M n0 s0 Z Post (pc + 1) lv (.long ((x.toUInt64 >>> (y.toInt64.toUInt64 &&& Int64.toUInt64 63)).toInt64) :: st) h) : jm_X l G M n0 s0 Z Post pc lv (.int y :: .long x :: st) h := by
  obtain ⟨r, h', a1, a2, a3, a4, a5, v⟩ := k
  exact ⟨r, h', a1, a2, a3, a4, a5, fun p e s m args below meth c H locs ls C n1 n2 n3 hR hS hv => lv_lushr C.1 C.2.1 hd rfl (v p e s m args below meth c H locs ls C n1 n2 n3 hR hS hv)⟩
theorem jx_i2l {x : Int32} (hd : decode M.2.1 pc = .ok (.i2l, 1)) (k : jm_X l G M n0 s0 Z Post (pc + 1) lv (.long (x.toInt64) :: st) h) : jm_X l G M n0 s0 Z Post pc lv (.int x :: st) h := by
  obtain ⟨r, h', a1, a2, a3, a4, a5, v⟩ := k
  exact ⟨r, h', a1, a2, a3, a4, a5, fun p e s m args below meth c H locs ls C n1 n2 n3 hR hS hv => lv_i2l C.1 C.2.1 hd rfl (v p e s m args below meth c H locs ls C n1 n2 n3 hR hS hv)⟩
theorem jx_l2i {x : Int64} (hd : decode M.2.1 pc = .ok (.l2i, 1)) (k : jm_X l G M n0 s0 Z Post (pc + 1) lv (.int (x.toInt32) :: st) h) : jm_X l G M n0 s0 Z Post pc lv (.long x :: st) h := by
  obtain ⟨r, h', a1, a2, a3, a4, a5, v⟩ := k
  exact ⟨r, h', a1, a2, a3, a4, a5, fun p e s m args below meth c H locs ls C n1 n2 n3 hR hS hv => lv_l2i C.1 C.2.1 hd rfl (v p e s m args below meth c H locs ls C n1 n2 n3 hR hS hv)⟩
theorem jx_i2b {x : Int32} (hd : decode M.2.1 pc = .ok (.i2b, 1)) (k : jm_X l G M n0 s0 Z Post (pc + 1) lv (.int (x.toInt8.toInt32) :: st) h) : jm_X l G M n0 s0 Z Post pc lv (.int x :: st) h := by
  obtain ⟨r, h', a1, a2, a3, a4, a5, v⟩ := k
  exact ⟨r, h', a1, a2, a3, a4, a5, fun p e s m args below meth c H locs ls C n1 n2 n3 hR hS hv => lv_i2b C.1 C.2.1 hd rfl (v p e s m args below meth c H locs ls C n1 n2 n3 hR hS hv)⟩
theorem jx_i2s {x : Int32} (hd : decode M.2.1 pc = .ok (.i2s, 1)) (k : jm_X l G M n0 s0 Z Post (pc + 1) lv (.int (x.toInt16.toInt32) :: st) h) : jm_X l G M n0 s0 Z Post pc lv (.int x :: st) h := by
  obtain ⟨r, h', a1, a2, a3, a4, a5, v⟩ := k
  exact ⟨r, h', a1, a2, a3, a4, a5, fun p e s m args below meth c H locs ls C n1 n2 n3 hR hS hv => lv_i2s C.1 C.2.1 hd rfl (v p e s m args below meth c H locs ls C n1 n2 n3 hR hS hv)⟩
theorem jx_i2c {x : Int32} (hd : decode M.2.1 pc = .ok (.i2c, 1)) (k : jm_X l G M n0 s0 Z Post (pc + 1) lv (.int ((x.toUInt32 % 65536).toInt32) :: st) h) : jm_X l G M n0 s0 Z Post pc lv (.int x :: st) h := by
  obtain ⟨r, h', a1, a2, a3, a4, a5, v⟩ := k
  exact ⟨r, h', a1, a2, a3, a4, a5, fun p e s m args below meth c H locs ls C n1 n2 n3 hR hS hv => lv_i2c C.1 C.2.1 hd rfl (v p e s m args below meth c H locs ls C n1 n2 n3 hR hS hv)⟩
theorem jx_lcmp {x y : Int64} (hd : decode M.2.1 pc = .ok (.lcmp, 1)) (k : jm_X l G M n0 s0 Z Post (pc + 1) lv (.int (lg_cmp x y) :: st) h) : jm_X l G M n0 s0 Z Post pc lv (.long y :: .long x :: st) h := by
  obtain ⟨r, h', a1, a2, a3, a4, a5, v⟩ := k
  exact ⟨r, h', a1, a2, a3, a4, a5, fun p e s m args below meth c H locs ls C n1 n2 n3 hR hS hv => W.lcmp C.1 C.2.1 hd (v p e s m args below meth c H locs ls C n1 n2 n3 hR hS hv)⟩
theorem jx_dup {va : Value} (hd : decode M.2.1 pc = .ok (.dup, 1)) (hva : va.category = 1) (k : jm_X l G M n0 s0 Z Post (pc + 1) lv (va :: va :: st) h) : jm_X l G M n0 s0 Z Post pc lv (va :: st) h := by
  obtain ⟨r, h', a1, a2, a3, a4, a5, v⟩ := k
  exact ⟨r, h', a1, a2, a3, a4, a5, fun p e s m args below meth c H locs ls C n1 n2 n3 hR hS hv => lv_dup C.1 C.2.1 hd hva (v p e s m args below meth c H locs ls C n1 n2 n3 hR hS hv)⟩
theorem jx_pop {va : Value} (hd : decode M.2.1 pc = .ok (.pop, 1)) (hva : va.category = 1) (k : jm_X l G M n0 s0 Z Post (pc + 1) lv st h) : jm_X l G M n0 s0 Z Post pc lv (va :: st) h := by
  obtain ⟨r, h', a1, a2, a3, a4, a5, v⟩ := k
  exact ⟨r, h', a1, a2, a3, a4, a5, fun p e s m args below meth c H locs ls C n1 n2 n3 hR hS hv => lv_pop C.1 C.2.1 hd hva (v p e s m args below meth c H locs ls C n1 n2 n3 hR hS hv)⟩
theorem jx_dup_x1 {va vb : Value} (hd : decode M.2.1 pc = .ok (.dup_x1, 1)) (hva : va.category = 1) (hvb : vb.category = 1) (k : jm_X l G M n0 s0 Z Post (pc + 1) lv (va :: vb :: va :: st) h) : jm_X l G M n0 s0 Z Post pc lv (va :: vb :: st) h := by
  obtain ⟨r, h', a1, a2, a3, a4, a5, v⟩ := k
  exact ⟨r, h', a1, a2, a3, a4, a5, fun p e s m args below meth c H locs ls C n1 n2 n3 hR hS hv => lv_dup_x1 C.1 C.2.1 hd hva hvb (v p e s m args below meth c H locs ls C n1 n2 n3 hR hS hv)⟩
theorem jx_dup_x2 {va vb vd : Value} (hd : decode M.2.1 pc = .ok (.dup_x2, 1)) (hva : va.category = 1) (hvb : vb.category = 1) (hvd : vd.category = 1) (k : jm_X l G M n0 s0 Z Post (pc + 1) lv (va :: vb :: vd :: va :: st) h) : jm_X l G M n0 s0 Z Post pc lv (va :: vb :: vd :: st) h := by
  obtain ⟨r, h', a1, a2, a3, a4, a5, v⟩ := k
  exact ⟨r, h', a1, a2, a3, a4, a5, fun p e s m args below meth c H locs ls C n1 n2 n3 hR hS hv => lv_dup_x2 C.1 C.2.1 hd hva hvb hvd (v p e s m args below meth c H locs ls C n1 n2 n3 hR hS hv)⟩
theorem jx_dup2_11 {va vb : Value} (hd : decode M.2.1 pc = .ok (.dup2, 1)) (hva : va.category = 1) (hvb : vb.category = 1) (k : jm_X l G M n0 s0 Z Post (pc + 1) lv (va :: vb :: va :: vb :: st) h) : jm_X l G M n0 s0 Z Post pc lv (va :: vb :: st) h := by
  obtain ⟨r, h', a1, a2, a3, a4, a5, v⟩ := k
  exact ⟨r, h', a1, a2, a3, a4, a5, fun p e s m args below meth c H locs ls C n1 n2 n3 hR hS hv => lv_dup2_11 C.1 C.2.1 hd hva hvb (v p e s m args below meth c H locs ls C n1 n2 n3 hR hS hv)⟩
theorem jx_dup2_2 {va : Value} (hd : decode M.2.1 pc = .ok (.dup2, 1)) (hva : va.category = 2) (k : jm_X l G M n0 s0 Z Post (pc + 1) lv (va :: va :: st) h) : jm_X l G M n0 s0 Z Post pc lv (va :: st) h := by
  obtain ⟨r, h', a1, a2, a3, a4, a5, v⟩ := k
  exact ⟨r, h', a1, a2, a3, a4, a5, fun p e s m args below meth c H locs ls C n1 n2 n3 hR hS hv => lv_dup2_2 C.1 C.2.1 hd hva (v p e s m args below meth c H locs ls C n1 n2 n3 hR hS hv)⟩
theorem jx_pop2_2 {va : Value} (hd : decode M.2.1 pc = .ok (.pop2, 1)) (hva : va.category = 2) (k : jm_X l G M n0 s0 Z Post (pc + 1) lv st h) : jm_X l G M n0 s0 Z Post pc lv (va :: st) h := by
  obtain ⟨r, h', a1, a2, a3, a4, a5, v⟩ := k
  exact ⟨r, h', a1, a2, a3, a4, a5, fun p e s m args below meth c H locs ls C n1 n2 n3 hR hS hv => lv_pop2_2 C.1 C.2.1 hd hva (v p e s m args below meth c H locs ls C n1 n2 n3 hR hS hv)⟩
theorem jx_dup2_x1_2 {va vb : Value} (hd : decode M.2.1 pc = .ok (.dup2_x1, 1)) (hva : va.category = 2) (hvb : vb.category = 1) (k : jm_X l G M n0 s0 Z Post (pc + 1) lv (va :: vb :: va :: st) h) : jm_X l G M n0 s0 Z Post pc lv (va :: vb :: st) h := by
  obtain ⟨r, h', a1, a2, a3, a4, a5, v⟩ := k
  exact ⟨r, h', a1, a2, a3, a4, a5, fun p e s m args below meth c H locs ls C n1 n2 n3 hR hS hv => lv_dup2_x1_2 C.1 C.2.1 hd hva hvb (v p e s m args below meth c H locs ls C n1 n2 n3 hR hS hv)⟩
theorem jx_dup2_x2_2 {va vb vd : Value} (hd : decode M.2.1 pc = .ok (.dup2_x2, 1)) (hva : va.category = 2) (hvb : vb.category = 1) (hvd : vd.category = 1) (k : jm_X l G M n0 s0 Z Post (pc + 1) lv (va :: vb :: vd :: va :: st) h) : jm_X l G M n0 s0 Z Post pc lv (va :: vb :: vd :: st) h := by
  obtain ⟨r, h', a1, a2, a3, a4, a5, v⟩ := k
  exact ⟨r, h', a1, a2, a3, a4, a5, fun p e s m args below meth c H locs ls C n1 n2 n3 hR hS hv => lv_dup2_x2_2 C.1 C.2.1 hd hva hvb hvd (v p e s m args below meth c H locs ls C n1 n2 n3 hR hS hv)⟩
theorem jx_goto {off : Int} {tgt : Nat} (hd : decode M.2.1 pc = .ok (.goto off, 3)) (ht : (pc : Int) + off = (tgt : Int)) (k : jm_X l G M n0 s0 Z Post tgt lv st h) : jm_X l G M n0 s0 Z Post pc lv st h := by
  obtain ⟨r, h', a1, a2, a3, a4, a5, v⟩ := k
  exact ⟨r, h', a1, a2, a3, a4, a5, fun p e s m args below meth c H locs ls C n1 n2 n3 hR hS hv => lv_goto C.1 C.2.1 hd ht (v p e s m args below meth c H locs ls C n1 n2 n3 hR hS hv)⟩
theorem jx_ifnull {x : Nat} {off : Int} (hd : decode M.2.1 pc = .ok (.ifnull off, 3)) (k : jm_X l G M n0 s0 Z Post (pc + 3) lv st h) : jm_X l G M n0 s0 Z Post pc lv (.ref x :: st) h := by
  obtain ⟨r, h', a1, a2, a3, a4, a5, v⟩ := k
  exact ⟨r, h', a1, a2, a3, a4, a5, fun p e s m args below meth c H locs ls C n1 n2 n3 hR hS hv => lv_ifnull C.1 C.2.1 hd (v p e s m args below meth c H locs ls C n1 n2 n3 hR hS hv)⟩
theorem jx_ifnullN {off : Int} {tgt : Nat} (hd : decode M.2.1 pc = .ok (.ifnull off, 3)) (ht : (pc : Int) + off = (tgt : Int)) (k : jm_X l G M n0 s0 Z Post tgt lv st h) : jm_X l G M n0 s0 Z Post pc lv (.null :: st) h := by
  obtain ⟨r, h', a1, a2, a3, a4, a5, v⟩ := k
  exact ⟨r, h', a1, a2, a3, a4, a5, fun p e s m args below meth c H locs ls C n1 n2 n3 hR hS hv => lv_ifnullN C.1 C.2.1 hd ht (v p e s m args below meth c H locs ls C n1 n2 n3 hR hS hv)⟩
theorem jx_ifnonnull {x : Nat} {off : Int} {tgt : Nat} (hd : decode M.2.1 pc = .ok (.ifnonnull off, 3)) (ht : (pc : Int) + off = (tgt : Int)) (k : jm_X l G M n0 s0 Z Post tgt lv st h) : jm_X l G M n0 s0 Z Post pc lv (.ref x :: st) h := by
  obtain ⟨r, h', a1, a2, a3, a4, a5, v⟩ := k
  exact ⟨r, h', a1, a2, a3, a4, a5, fun p e s m args below meth c H locs ls C n1 n2 n3 hR hS hv => lv_ifnonnull C.1 C.2.1 hd ht (v p e s m args below meth c H locs ls C n1 n2 n3 hR hS hv)⟩
theorem jx_ifnonnullN {off : Int} (hd : decode M.2.1 pc = .ok (.ifnonnull off, 3)) (k : jm_X l G M n0 s0 Z Post (pc + 3) lv st h) : jm_X l G M n0 s0 Z Post pc lv (.null :: st) h := by
  obtain ⟨r, h', a1, a2, a3, a4, a5, v⟩ := k
  exact ⟨r, h', a1, a2, a3, a4, a5, fun p e s m args below meth c H locs ls C n1 n2 n3 hR hS hv => lv_ifnonnullN C.1 C.2.1 hd (v p e s m args below meth c H locs ls C n1 n2 n3 hR hS hv)⟩
theorem jx_tableOut {dflt lo hi : Int} {offs : Array Int} {len : Nat} {x : Int32} {tgt : Nat} (hd : decode M.2.1 pc = .ok (.tableswitch dflt lo hi offs, len)) (hx : x.toInt < lo ∨ hi < x.toInt) (ht : (pc : Int) + dflt = (tgt : Int)) (k : jm_X l G M n0 s0 Z Post tgt lv st h) : jm_X l G M n0 s0 Z Post pc lv (.int x :: st) h := by
  obtain ⟨r, h', a1, a2, a3, a4, a5, v⟩ := k
  exact ⟨r, h', a1, a2, a3, a4, a5, fun p e s m args below meth c H locs ls C n1 n2 n3 hR hS hv => lv_tableOut C.1 C.2.1 hd hx ht (v p e s m args below meth c H locs ls C n1 n2 n3 hR hS hv)⟩
theorem jx_tableIn {dflt lo hi : Int} {offs : Array Int} {len : Nat} {x : Int32} {off : Int} {tgt : Nat} (hd : decode M.2.1 pc = .ok (.tableswitch dflt lo hi offs, len)) (h1 : ¬ x.toInt < lo) (h2 : ¬ hi < x.toInt) (ho : offs[(x.toInt - lo).toNat]? = some off) (ht : (pc : Int) + off = (tgt : Int)) (k : jm_X l G M n0 s0 Z Post tgt lv st h) : jm_X l G M n0 s0 Z Post pc lv (.int x :: st) h := by
  obtain ⟨r, h', a1, a2, a3, a4, a5, v⟩ := k
  exact ⟨r, h', a1, a2, a3, a4, a5, fun p e s m args below meth c H locs ls C n1 n2 n3 hR hS hv => lv_tableIn C.1 C.2.1 hd h1 h2 ho ht (v p e s m args below meth c H locs ls C n1 n2 n3 hR hS hv)⟩
theorem jx_lookup {dflt : Int} {ps : Array (Int × Int)} {len : Nat} {x : Int32} {off : Int} {tgt : Nat} (hd : decode M.2.1 pc = .ok (.lookupswitch dflt ps, len)) (hp : (ps.toList.zip (ps.toList.drop 1)).all (fun (a, next) => a.1 < next.1) = true) (ho : Op.lookupswitch.offset ps.toList dflt x.toInt = off) (ht : (pc : Int) + off = (tgt : Int)) (k : jm_X l G M n0 s0 Z Post tgt lv st h) : jm_X l G M n0 s0 Z Post pc lv (.int x :: st) h := by
  obtain ⟨r, h', a1, a2, a3, a4, a5, v⟩ := k
  exact ⟨r, h', a1, a2, a3, a4, a5, fun p e s m args below meth c H locs ls C n1 n2 n3 hR hS hv => lv_lookup C.1 C.2.1 hd hp ho ht (v p e s m args below meth c H locs ls C n1 n2 n3 hR hS hv)⟩
theorem jx_if_eq {x : Int32} {off : Int} {tgt : Nat} (hd : decode M.2.1 pc = .ok (.ifCond .eq off, 3)) (ht : (pc : Int) + off = (tgt : Int)) (kt : x = 0 → jm_X l G M n0 s0 Z Post tgt lv st h) (kf : ¬ x = 0 → jm_X l G M n0 s0 Z Post (pc + 3) lv st h) : jm_X l G M n0 s0 Z Post pc lv (.int x :: st) h := by
  by_cases hc : x = 0
  · obtain ⟨r, h', a1, a2, a3, a4, a5, v⟩ := kt hc
    exact ⟨r, h', a1, a2, a3, a4, a5, fun p e s m args below meth c H locs ls C n1 n2 n3 hR hS hv => lv_if_eq C.1 C.2.1 hd ht (fun _ => v p e s m args below meth c H locs ls C n1 n2 n3 hR hS hv) (fun z => absurd hc z)⟩
  · obtain ⟨r, h', a1, a2, a3, a4, a5, v⟩ := kf hc
    exact ⟨r, h', a1, a2, a3, a4, a5, fun p e s m args below meth c H locs ls C n1 n2 n3 hR hS hv => lv_if_eq C.1 C.2.1 hd ht (fun z => absurd z hc) (fun _ => v p e s m args below meth c H locs ls C n1 n2 n3 hR hS hv)⟩
theorem jx_icmp_eq {x y : Int32} {off : Int} {tgt : Nat} (hd : decode M.2.1 pc = .ok (.if_icmp .eq off, 3)) (ht : (pc : Int) + off = (tgt : Int)) (kt : x = y → jm_X l G M n0 s0 Z Post tgt lv st h) (kf : ¬ x = y → jm_X l G M n0 s0 Z Post (pc + 3) lv st h) : jm_X l G M n0 s0 Z Post pc lv (.int y :: .int x :: st) h := by
  by_cases hc : x = y
  · obtain ⟨r, h', a1, a2, a3, a4, a5, v⟩ := kt hc
    exact ⟨r, h', a1, a2, a3, a4, a5, fun p e s m args below meth c H locs ls C n1 n2 n3 hR hS hv => lv_icmp_eq C.1 C.2.1 hd ht (fun _ => v p e s m args below meth c H locs ls C n1 n2 n3 hR hS hv) (fun z => absurd hc z)⟩
  · obtain ⟨r, h', a1, a2, a3, a4, a5, v⟩ := kf hc
    exact ⟨r, h', a1, a2, a3, a4, a5, fun p e s m args below meth c H locs ls C n1 n2 n3 hR hS hv => lv_icmp_eq C.1 C.2.1 hd ht (fun z => absurd z hc) (fun _ => v p e s m args below meth c H locs ls C n1 n2 n3 hR hS hv)⟩
theorem jx_if_ne {x : Int32} {off : Int} {tgt : Nat} (hd : decode M.2.1 pc = .ok (.ifCond .ne off, 3)) (ht : (pc : Int) + off = (tgt : Int)) (kt : ¬ x = 0 → jm_X l G M n0 s0 Z Post tgt lv st h) (kf : x = 0 → jm_X l G M n0 s0 Z Post (pc + 3) lv st h) : jm_X l G M n0 s0 Z Post pc lv (.int x :: st) h := by
  by_cases hc : x = 0
  · obtain ⟨r, h', a1, a2, a3, a4, a5, v⟩ := kf hc
    exact ⟨r, h', a1, a2, a3, a4, a5, fun p e s m args below meth c H locs ls C n1 n2 n3 hR hS hv => lv_if_ne C.1 C.2.1 hd ht (fun z => absurd hc z) (fun _ => v p e s m args below meth c H locs ls C n1 n2 n3 hR hS hv)⟩
  · obtain ⟨r, h', a1, a2, a3, a4, a5, v⟩ := kt hc
    exact ⟨r, h', a1, a2, a3, a4, a5, fun p e s m args below meth c H locs ls C n1 n2 n3 hR hS hv => lv_if_ne C.1 C.2.1 hd ht (fun _ => v p e s m args below meth c H locs ls C n1 n2 n3 hR hS hv) (fun z => absurd z hc)⟩
theorem jx_icmp_ne {x y : Int32} {off : Int} {tgt : Nat} (hd : decode M.2.1 pc = .ok (.if_icmp .ne off, 3)) (ht : (pc : Int) + off = (tgt : Int)) (kt : ¬ x = y → jm_X l G M n0 s0 Z Post tgt lv st h) (kf : x = y → jm_X l G M n0 s0 Z Post (pc + 3) lv st h) : jm_X l G M n0 s0 Z Post pc lv (.int y :: .int x :: st) h := by
  by_cases hc : x = y
  · obtain ⟨r, h', a1, a2, a3, a4, a5, v⟩ := kf hc
    exact ⟨r, h', a1, a2, a3, a4, a5, fun p e s m args below meth c H locs ls C n1 n2 n3 hR hS hv => lv_icmp_ne C.1 C.2.1 hd ht (fun z => absurd hc z) (fun _ => v p e s m args below meth c H locs ls C n1 n2 n3 hR hS hv)⟩
  · obtain ⟨r, h', a1, a2, a3, a4, a5, v⟩ := kt hc
    exact ⟨r, h', a1, a2, a3, a4, a5, fun p e s m args below meth c H locs ls C n1 n2 n3 hR hS hv => lv_icmp_ne C.1 C.2.1 hd ht (fun _ => v p e s m args below meth c H locs ls C n1 n2 n3 hR hS hv) (fun z => absurd z hc)⟩
theorem jx_if_lt {x : Int32} {off : Int} {tgt : Nat} (hd : decode M.2.1 pc = .ok (.ifCond .lt off, 3)) (ht : (pc : Int) + off = (tgt : Int)) (kt : x < 0 → jm_X l G M n0 s0 Z Post tgt lv st h) (kf : ¬ x < 0 → jm_X l G M n0 s0 Z Post (pc + 3) lv st h) : jm_X l G M n0 s0 Z Post pc lv (.int x :: st) h := by
  by_cases hc : x < 0
  · obtain ⟨r, h', a1, a2, a3, a4, a5, v⟩ := kt hc
    exact ⟨r, h', a1, a2, a3, a4, a5, fun p e s m args below meth c H locs ls C n1 n2 n3 hR hS hv => lv_if_lt C.1 C.2.1 hd ht (fun _ => v p e s m args below meth c H locs ls C n1 n2 n3 hR hS hv) (fun z => absurd hc z)⟩
  · obtain ⟨r, h', a1, a2, a3, a4, a5, v⟩ := kf hc
    exact ⟨r, h', a1, a2, a3, a4, a5, fun p e s m args below meth c H locs ls C n1 n2 n3 hR hS hv => lv_if_lt C.1 C.2.1 hd ht (fun z => absurd z hc) (fun _ => v p e s m args below meth c H locs ls C n1 n2 n3 hR hS hv)⟩
theorem jx_icmp_lt {x y : Int32} {off : Int} {tgt : Nat} (hd : decode M.2.1 pc = .ok (.if_icmp .lt off, 3)) (ht : (pc : Int) + off = (tgt : Int)) (kt : x < y → jm_X l G M n0 s0 Z Post tgt lv st h) (kf : ¬ x < y → jm_X l G M n0 s0 Z Post (pc + 3) lv st h) : jm_X l G M n0 s0 Z Post pc lv (.int y :: .int x :: st) h := by
  by_cases hc : x < y
  · obtain ⟨r, h', a1, a2, a3, a4, a5, v⟩ := kt hc
    exact ⟨r, h', a1, a2, a3, a4, a5, fun p e s m args below meth c H locs ls C n1 n2 n3 hR hS hv => lv_icmp_lt C.1 C.2.1 hd ht (fun _ => v p e s m args below meth c H locs ls C n1 n2 n3 hR hS hv) (fun z => absurd hc z)⟩
  · obtain ⟨r, h', a1, a2, a3, a4, a5, v⟩ := kf hc
    exact ⟨r, h', a1, a2, a3, a4, a5, fun p e s m args below meth c H locs ls C n1 n2 n3 hR hS hv => lv_icmp_lt C.1 C.2.1 hd ht (fun z => absurd z hc) (fun _ => v p e s m args below meth c H locs ls C n1 n2 n3 hR hS hv)⟩
theorem jx_if_ge {x : Int32} {off : Int} {tgt : Nat} (hd : decode M.2.1 pc = .ok (.ifCond .ge off, 3)) (ht : (pc : Int) + off = (tgt : Int)) (kt : 0 ≤ x → jm_X l G M n0 s0 Z Post tgt lv st h) (kf : ¬ 0 ≤ x → jm_X l G M n0 s0 Z Post (pc + 3) lv st h) : jm_X l G M n0 s0 Z Post pc lv (.int x :: st) h := by
  by_cases hc : 0 ≤ x
  · obtain ⟨r, h', a1, a2, a3, a4, a5, v⟩ := kt hc
    exact ⟨r, h', a1, a2, a3, a4, a5, fun p e s m args below meth c H locs ls C n1 n2 n3 hR hS hv => lv_if_ge C.1 C.2.1 hd ht (fun _ => v p e s m args below meth c H locs ls C n1 n2 n3 hR hS hv) (fun z => absurd hc z)⟩
  · obtain ⟨r, h', a1, a2, a3, a4, a5, v⟩ := kf hc
    exact ⟨r, h', a1, a2, a3, a4, a5, fun p e s m args below meth c H locs ls C n1 n2 n3 hR hS hv => lv_if_ge C.1 C.2.1 hd ht (fun z => absurd z hc) (fun _ => v p e s m args below meth c H locs ls C n1 n2 n3 hR hS hv)⟩
theorem jx_icmp_ge {x y : Int32} {off : Int} {tgt : Nat} (hd : decode M.2.1 pc = .ok (.if_icmp .ge off, 3)) (ht : (pc : Int) + off = (tgt : Int)) (kt : y ≤ x → jm_X l G M n0 s0 Z Post tgt lv st h) (kf : ¬ y ≤ x → jm_X l G M n0 s0 Z Post (pc + 3) lv st h) : jm_X l G M n0 s0 Z Post pc lv (.int y :: .int x :: st) h := by
  by_cases hc : y ≤ x
  · obtain ⟨r, h', a1, a2, a3, a4, a5, v⟩ := kt hc
    exact ⟨r, h', a1, a2, a3, a4, a5, fun p e s m args below meth c H locs ls C n1 n2 n3 hR hS hv => lv_icmp_ge C.1 C.2.1 hd ht (fun _ => v p e s m args below meth c H locs ls C n1 n2 n3 hR hS hv) (fun z => absurd hc z)⟩
  · obtain ⟨r, h', a1, a2, a3, a4, a5, v⟩ := kf hc
    exact ⟨r, h', a1, a2, a3, a4, a5, fun p e s m args below meth c H locs ls C n1 n2 n3 hR hS hv => lv_icmp_ge C.1 C.2.1 hd ht (fun z => absurd z hc) (fun _ => v p e s m args below meth c H locs ls C n1 n2 n3 hR hS hv)⟩
theorem jx_if_gt {x : Int32} {off : Int} {tgt : Nat} (hd : decode M.2.1 pc = .ok (.ifCond .gt off, 3)) (ht : (pc : Int) + off = (tgt : Int)) (kt : 0 < x → jm_X l G M n0 s0 Z Post tgt lv st h) (kf : ¬ 0 < x → jm_X l G M n0 s0 Z Post (pc + 3) lv st h) : jm_X l G M n0 s0 Z Post pc lv (.int x :: st) h := by
  by_cases hc : 0 < x
  · obtain ⟨r, h', a1, a2, a3, a4, a5, v⟩ := kt hc
    exact ⟨r, h', a1, a2, a3, a4, a5, fun p e s m args below meth c H locs ls C n1 n2 n3 hR hS hv => lv_if_gt C.1 C.2.1 hd ht (fun _ => v p e s m args below meth c H locs ls C n1 n2 n3 hR hS hv) (fun z => absurd hc z)⟩
  · obtain ⟨r, h', a1, a2, a3, a4, a5, v⟩ := kf hc
    exact ⟨r, h', a1, a2, a3, a4, a5, fun p e s m args below meth c H locs ls C n1 n2 n3 hR hS hv => lv_if_gt C.1 C.2.1 hd ht (fun z => absurd z hc) (fun _ => v p e s m args below meth c H locs ls C n1 n2 n3 hR hS hv)⟩
theorem jx_icmp_gt {x y : Int32} {off : Int} {tgt : Nat} (hd : decode M.2.1 pc = .ok (.if_icmp .gt off, 3)) (ht : (pc : Int) + off = (tgt : Int)) (kt : y < x → jm_X l G M n0 s0 Z Post tgt lv st h) (kf : ¬ y < x → jm_X l G M n0 s0 Z Post (pc + 3) lv st h) : jm_X l G M n0 s0 Z Post pc lv (.int y :: .int x :: st) h := by
  by_cases hc : y < x
  · obtain ⟨r, h', a1, a2, a3, a4, a5, v⟩ := kt hc
    exact ⟨r, h', a1, a2, a3, a4, a5, fun p e s m args below meth c H locs ls C n1 n2 n3 hR hS hv => lv_icmp_gt C.1 C.2.1 hd ht (fun _ => v p e s m args below meth c H locs ls C n1 n2 n3 hR hS hv) (fun z => absurd hc z)⟩
  · obtain ⟨r, h', a1, a2, a3, a4, a5, v⟩ := kf hc
    exact ⟨r, h', a1, a2, a3, a4, a5, fun p e s m args below meth c H locs ls C n1 n2 n3 hR hS hv => lv_icmp_gt C.1 C.2.1 hd ht (fun z => absurd z hc) (fun _ => v p e s m args below meth c H locs ls C n1 n2 n3 hR hS hv)⟩
theorem jx_if_le {x : Int32} {off : Int} {tgt : Nat} (hd : decode M.2.1 pc = .ok (.ifCond .le off, 3)) (ht : (pc : Int) + off = (tgt : Int)) (kt : x ≤ 0 → jm_X l G M n0 s0 Z Post tgt lv st h) (kf : ¬ x ≤ 0 → jm_X l G M n0 s0 Z Post (pc + 3) lv st h) : jm_X l G M n0 s0 Z Post pc lv (.int x :: st) h := by
  by_cases hc : x ≤ 0
  · obtain ⟨r, h', a1, a2, a3, a4, a5, v⟩ := kt hc
    exact ⟨r, h', a1, a2, a3, a4, a5, fun p e s m args below meth c H locs ls C n1 n2 n3 hR hS hv => lv_if_le C.1 C.2.1 hd ht (fun _ => v p e s m args below meth c H locs ls C n1 n2 n3 hR hS hv) (fun z => absurd hc z)⟩
  · obtain ⟨r, h', a1, a2, a3, a4, a5, v⟩ := kf hc
    exact ⟨r, h', a1, a2, a3, a4, a5, fun p e s m args below meth c H locs ls C n1 n2 n3 hR hS hv => lv_if_le C.1 C.2.1 hd ht (fun z => absurd z hc) (fun _ => v p e s m args below meth c H locs ls C n1 n2 n3 hR hS hv)⟩
theorem jx_icmp_le {x y : Int32} {off : Int} {tgt : Nat} (hd : decode M.2.1 pc = .ok (.if_icmp .le off, 3)) (ht : (pc : Int) + off = (tgt : Int)) (kt : x ≤ y → jm_X l G M n0 s0 Z Post tgt lv st h) (kf : ¬ x ≤ y → jm_X l G M n0 s0 Z Post (pc + 3) lv st h) : jm_X l G M n0 s0 Z Post pc lv (.int y :: .int x :: st) h := by
  by_cases hc : x ≤ y
  · obtain ⟨r, h', a1, a2, a3, a4, a5, v⟩ := kt hc
    exact ⟨r, h', a1, a2, a3, a4, a5, fun p e s m args below meth c H locs ls C n1 n2 n3 hR hS hv => lv_icmp_le C.1 C.2.1 hd ht (fun _ => v p e s m args below meth c H locs ls C n1 n2 n3 hR hS hv) (fun z => absurd hc z)⟩
  · obtain ⟨r, h', a1, a2, a3, a4, a5, v⟩ := kf hc
    exact ⟨r, h', a1, a2, a3, a4, a5, fun p e s m args below meth c H locs ls C n1 n2 n3 hR hS hv => lv_icmp_le C.1 C.2.1 hd ht (fun z => absurd z hc) (fun _ => v p e s m args below meth c H locs ls C n1 n2 n3 hR hS hv)⟩
end JX
end
section

section JH
variable {l : Launch} {G : jm_G} {M : jm_M} {n0 s0 : Nat} {Z : jm_Z} {Post : jm_r → jm_H → Prop} {pc : Nat} {lv : List (Nat × Value)} {st : List Value} {h : jm_H}
/-- the pool's entry idx of class own is field k of class c -/
def jm_F (own : String) (idx c k : Nat) : Prop := ∃ (C : String) (T : u_T) (N : Nat), jm_cl[c]? = some (C, T, N) ∧ (∀ w ∈ u_ws C T N, w ∈ jm_W) ∧ k < N ∧ Cond.fieldLink own idx (T k).1 (T k).2.1 (T k).2.2.1 ∈ jm_W
/-- what a write to field k of class c needs of the class -/
def jm_Fl (c : Nat) : Prop := ∀ r : vw_C, jm_cl[c]? = some r → ∃ ty0 : Nat → FieldType, (∀ k, k < r.2.2 → parseFieldDescriptor (r.2.1 k).2.2.1 = some (ty0 k)) ∧ ∀ a, a < r.2.2 → ∀ b, b < r.2.2 → a ≠ b → (r.2.1 a).2.1 ≠ (r.2.1 b).2.1
def jm_Ft (c k : Nat) (ty : FieldType) (fin : Bool) (own : String) : Prop := ∀ r : vw_C, jm_cl[c]? = some r → parseFieldDescriptor (r.2.1 k).2.2.1 = some ty ∧ (r.2.1 k).2.2.2 = fin ∧ (fin = true → (r.2.1 k).1 = own)
theorem jm_K.va {U : State} (h : jm_K G U) : va_K G.1 jm_cl [] U := ⟨h.1, fun k q hk => by simp at hk⟩
theorem jx_get {a c n idx k : Nat} {v0 : Value} (hd : decode M.2.1 pc = .ok (.getfield idx, 3)) (hF : jm_F M.1.cls idx c k) (hk : h.2.2.1 a = (jm_o c, n)) (hv0 : h.2.2.2 a k = v0)
    (kk : jm_X l G M n0 s0 Z Post (pc + 3) lv (v0 :: st) h) : jm_X l G M n0 s0 Z Post pc lv (.ref a :: st) h := by
  obtain ⟨r, h', a1, a2, a3, a4, a5, v⟩ := kk
  refine ⟨r, h', a1, a2, a3, a4, a5, fun p e s m args below meth c1 H locs ls C n1 n2 n3 hR hS hv => ?_⟩
  have W9 := v p e s m args below meth c1 H locs ls C n1 n2 n3 hR hS hv
  obtain ⟨hx, hb, hml, hr, hlk, hnm, hown, htb, hts, hK, hN⟩ := C
  obtain ⟨C0, T, N, hc, hin, hkN, hw⟩ := hF
  obtain ⟨g1, r0, g2, cell, q1, q2, q3, q4⟩ := hR.2.2.1 a c n hk
  have hr0 : r0 = (C0, T, N) := Option.some.inj (g2.symm.trans hc)
  subst hr0
  obtain ⟨hSl, hfc, kC, hkC, hkind⟩ := hK.1 c _ hc
  obtain ⟨cf, kf, fi, f, hi, hsl⟩ := hSl k hkN
  refine W.getf hx hb hown (hts _ hw) hi (u_facts hfc hkC (u_lays hts hin hkN) hi).1 q1 (by rw [q3]; exact fun h => by cases h) (v := v0) ?_ rfl rfl hd W9
  rw [hsl, q4 k hkN, hv0]
theorem jx_put {a c n idx k : Nat} {v0 : Value} {ty : FieldType} (hd : decode M.2.1 pc = .ok (.putfield idx, 3)) (hF : jm_F M.1.cls idx c k) (hl : jm_Fl c) (ht : jm_Ft c k ty false "") (hk : h.2.2.1 a = (jm_o c, n)) (hn : narrow ty v0 = v0) (hfit : fits ty v0 = true)
    (kk : jm_X l G M n0 s0 Z Post (pc + 3) lv st (jm_put h a k v0)) : jm_X l G M n0 s0 Z Post pc lv (v0 :: .ref a :: st) h := by
  obtain ⟨r, h', a1, a2, a3, a4, a5, v⟩ := kk
  refine ⟨r, h', a1, a2, a3, a4, a5, fun p e s m args below meth c1 H locs ls C n1 n2 n3 hR hS hv => ?_⟩
  have W9 := fun H1 locs1 => v p e s m args below meth c1 H1 locs1 ls C n1 n2 n3
  obtain ⟨hx, hb, hml, hr, hlk, hnm, hown, htb, hts, hK, hN⟩ := C
  obtain ⟨C0, T, N, hc, hin, hkN, hw⟩ := hF
  obtain ⟨ty0, hty, hne⟩ := hl _ hc
  obtain ⟨hd1, hd2, -⟩ := ht _ hc
  obtain ⟨g1, r0, g2, cell, q1, q2, q3, q4⟩ := hR.2.2.1 a c n hk
  have hr0 : r0 = (C0, T, N) := Option.some.inj (g2.symm.trans hc)
  subst hr0
  have hap := va_apart (own := M.1.cls) hts hin ty0 hty hne hK.va hc
  obtain ⟨hSl, hfc, kC, hkC, hkind⟩ := hK.1 c _ hc
  obtain ⟨cf, kf, fi, f, hi, hsl⟩ := hSl k hkN
  have hlay := hts _ (hin _ (u_in_lay hkN))
  unfold u_lay at hlay
  rw [if_neg (by rw [hd2]; decide)] at hlay
  have hst := (u_facts hfc hkC (u_lays hts hin hkN) hi).1
  have h6 := u_store hfc hkC hkind hlay hi hd1 hn hfit
  refine W.putK hx hb (f := f) ⟨hown, hts _ hw, ⟨_, _, _, hi⟩, hst⟩ (by rw [q2]; exact h6) q1 q3 (by rw [hsl]; exact k2_hasslot (q4 k hkN)) rfl rfl hd fun H' e1 e2 e3 => ?_
  rw [hsl] at e1 ⊢
  refine W9 H' _ (hR.putO hk e2 e3 fun r1 hr1 => ?_) (hS.put e2 e3 g1) hv
  have hr2 : r1 = (C0, T, N) := Option.some.inj (hr1.symm.trans hc)
  subst hr2
  exact ⟨_, e1, q2, q3, t_set q4 hap hkN v0⟩
theorem jx_putF {a c n idx k : Nat} {v0 : Value} {ty : FieldType} (hd : decode M.2.1 pc = .ok (.putfield idx, 3)) (hF : jm_F M.1.cls idx c k) (hl : jm_Fl c) (ht : jm_Ft c k ty true M.1.cls) (hi0 : M.1.name = "<init>") (hk : h.2.2.1 a = (jm_o c, n)) (hn : narrow ty v0 = v0) (hfit : fits ty v0 = true)
    (kk : jm_X l G M n0 s0 Z Post (pc + 3) lv st (jm_put h a k v0)) : jm_X l G M n0 s0 Z Post pc lv (v0 :: .ref a :: st) h := by
  obtain ⟨r, h', a1, a2, a3, a4, a5, v⟩ := kk
  refine ⟨r, h', a1, a2, a3, a4, a5, fun p e s m args below meth c1 H locs ls C n1 n2 n3 hR hS hv => ?_⟩
  have W9 := fun H1 locs1 => v p e s m args below meth c1 H1 locs1 ls C n1 n2 n3
  obtain ⟨hx, hb, hml, hr, hlk, hnm, hown, htb, hts, hK, hN⟩ := C
  obtain ⟨C0, T, N, hc, hin, hkN, hw⟩ := hF
  obtain ⟨ty0, hty, hne⟩ := hl _ hc
  obtain ⟨hd1, hd2, hd3⟩ := ht _ hc
  have hdecl := hd3 rfl
  obtain ⟨g1, r0, g2, cell, q1, q2, q3, q4⟩ := hR.2.2.1 a c n hk
  have hr0 : r0 = (C0, T, N) := Option.some.inj (g2.symm.trans hc)
  subst hr0
  have hap := va_apart (own := M.1.cls) hts hin ty0 hty hne hK.va hc
  obtain ⟨hSl, hfc, kC, hkC, hkind⟩ := hK.1 c _ hc
  obtain ⟨cf, kf, fi, f, hi, hsl⟩ := hSl k hkN
  have hlay := hts _ (hin _ (u_in_lay hkN))
  unfold u_lay at hlay
  rw [if_pos hd2] at hlay
  have hst := (u_facts hfc hkC (u_lays hts hin hkN) hi).1
  have hcf : m.cls = cf := by
    obtain ⟨_, _, c', _, _, _, -, -, hf', -, -, -, hown2, -⟩ := Cond.laysFinal_spec hlay
    have e1 : c' = cf := by have := hi.symm.trans hf'; simp at this; exact this.1.symm
    rw [hdecl] at hown2
    rw [← e1]; exact Option.some.inj (hown.symm.trans hown2)
  have h6 := u_fits hfc hkC hkind (Or.inr hlay) hi hd1 hn hfit
  refine W.putFinK hx hb hown (hts _ hw) hi hst hcf (hnm.trans hi0) (by rw [q2]; exact h6) q1 q3 (by rw [hsl]; exact k2_hasslot (q4 k hkN)) rfl rfl hd fun H' e1 e2 e3 => ?_
  rw [hsl] at e1 ⊢
  refine W9 H' _ (hR.putO hk e2 e3 fun r1 hr1 => ?_) (hS.put e2 e3 g1) hv
  have hr2 : r1 = (C0, T, N) := Option.some.inj (hr1.symm.trans hc)
  subst hr2
  exact ⟨_, e1, q2, q3, t_set q4 hap hkN v0⟩
theorem jm_vlt {i : Int32} {n : Nat} (hin : vp_in i n) : i.toNatClampNeg < n := Nat.not_le.mp fun q => hin (Or.inr q)

theorem jx_iald {a t n : Nat} {i : Int32} {v0 : Value} (hd : decode M.2.1 pc = .ok (.iaload, 1)) (hk : h.2.2.1 a = (jm_a t, n)) (ht : jm_ty t = .int) (hin : vp_in i n) (hv0 : h.2.2.2 a i.toNatClampNeg = v0)
    (kk : jm_X l G M n0 s0 Z Post (pc + 1) lv (v0 :: st) h) : jm_X l G M n0 s0 Z Post pc lv (.int i :: .ref a :: st) h := by
  obtain ⟨r, h', a1, a2, a3, a4, a5, v⟩ := kk
  refine ⟨r, h', a1, a2, a3, a4, a5, fun p e s m args below meth c1 H locs ls C n1 n2 n3 hR hS hv => ?_⟩
  have W9 := v p e s m args below meth c1 H locs ls C n1 n2 n3 hR hS hv
  obtain ⟨hx, hb, hml, hr, hlk, hnm, hown, htb, hts, hK, hN⟩ := C
  obtain ⟨g1, g2, g3⟩ := hR.2.2.2 a t n hk
  have hA := (hK.2 t g2).1 n (h.2.2.2 a)
  rw [ht] at hA
  exact W.iald (v := v0) hx hb g3 hA (fun q => by cases q) (by show ¬ (i < 0 ∨ (arrV _ _ _).slots.size ≤ _); rw [arrV_size]; exact hin) (by show (arrV _ _ _).slots[_]? = _; rw [arrV_read _ _ (jm_vlt hin), hv0]) rfl rfl hd W9
theorem jx_lald {a t n : Nat} {i : Int32} {v0 : Value} (hd : decode M.2.1 pc = .ok (.laload, 1)) (hk : h.2.2.1 a = (jm_a t, n)) (ht : jm_ty t = .long) (hin : vp_in i n) (hv0 : h.2.2.2 a i.toNatClampNeg = v0)
    (kk : jm_X l G M n0 s0 Z Post (pc + 1) lv (v0 :: st) h) : jm_X l G M n0 s0 Z Post pc lv (.int i :: .ref a :: st) h := by
  obtain ⟨r, h', a1, a2, a3, a4, a5, v⟩ := kk
  refine ⟨r, h', a1, a2, a3, a4, a5, fun p e s m args below meth c1 H locs ls C n1 n2 n3 hR hS hv => ?_⟩
  have W9 := v p e s m args below meth c1 H locs ls C n1 n2 n3 hR hS hv
  obtain ⟨hx, hb, hml, hr, hlk, hnm, hown, htb, hts, hK, hN⟩ := C
  obtain ⟨g1, g2, g3⟩ := hR.2.2.2 a t n hk
  have hA := (hK.2 t g2).1 n (h.2.2.2 a)
  rw [ht] at hA
  exact W.lald (v := v0) hx hb g3 hA (fun q => by cases q) (by show ¬ (i < 0 ∨ (arrV _ _ _).slots.size ≤ _); rw [arrV_size]; exact hin) (by show (arrV _ _ _).slots[_]? = _; rw [arrV_read _ _ (jm_vlt hin), hv0]) rfl rfl hd W9
theorem jx_bald {a t n : Nat} {i : Int32} {v0 : Value} (hd : decode M.2.1 pc = .ok (.baload, 1)) (hk : h.2.2.1 a = (jm_a t, n)) (ht : jm_ty t = .byte) (hin : vp_in i n) (hv0 : h.2.2.2 a i.toNatClampNeg = v0)
    (kk : jm_X l G M n0 s0 Z Post (pc + 1) lv (v0 :: st) h) : jm_X l G M n0 s0 Z Post pc lv (.int i :: .ref a :: st) h := by
  obtain ⟨r, h', a1, a2, a3, a4, a5, v⟩ := kk
  refine ⟨r, h', a1, a2, a3, a4, a5, fun p e s m args below meth c1 H locs ls C n1 n2 n3 hR hS hv => ?_⟩
  have W9 := v p e s m args below meth c1 H locs ls C n1 n2 n3 hR hS hv
  obtain ⟨hx, hb, hml, hr, hlk, hnm, hown, htb, hts, hK, hN⟩ := C
  obtain ⟨g1, g2, g3⟩ := hR.2.2.2 a t n hk
  have hA := (hK.2 t g2).1 n (h.2.2.2 a)
  rw [ht] at hA
  exact W.bald (v := v0) hx hb g3 hA (fun q => by cases q) (by show ¬ (i < 0 ∨ (arrV _ _ _).slots.size ≤ _); rw [arrV_size]; exact hin) (by show (arrV _ _ _).slots[_]? = _; rw [arrV_read _ _ (jm_vlt hin), hv0]) rfl rfl hd W9
theorem jx_zald {a t n : Nat} {i : Int32} {v0 : Value} (hd : decode M.2.1 pc = .ok (.baload, 1)) (hk : h.2.2.1 a = (jm_a t, n)) (ht : jm_ty t = .boolean) (hin : vp_in i n) (hv0 : h.2.2.2 a i.toNatClampNeg = v0)
    (kk : jm_X l G M n0 s0 Z Post (pc + 1) lv (v0 :: st) h) : jm_X l G M n0 s0 Z Post pc lv (.int i :: .ref a :: st) h := by
  obtain ⟨r, h', a1, a2, a3, a4, a5, v⟩ := kk
  refine ⟨r, h', a1, a2, a3, a4, a5, fun p e s m args below meth c1 H locs ls C n1 n2 n3 hR hS hv => ?_⟩
  have W9 := v p e s m args below meth c1 H locs ls C n1 n2 n3 hR hS hv
  obtain ⟨hx, hb, hml, hr, hlk, hnm, hown, htb, hts, hK, hN⟩ := C
  obtain ⟨g1, g2, g3⟩ := hR.2.2.2 a t n hk
  have hA := (hK.2 t g2).1 n (h.2.2.2 a)
  rw [ht] at hA
  exact W.zald (v := v0) hx hb g3 hA (fun q => by cases q) (by show ¬ (i < 0 ∨ (arrV _ _ _).slots.size ≤ _); rw [arrV_size]; exact hin) (by show (arrV _ _ _).slots[_]? = _; rw [arrV_read _ _ (jm_vlt hin), hv0]) rfl rfl hd W9
theorem jx_aald {C0 : String} {a t n : Nat} {i : Int32} {v0 : Value} (hd : decode M.2.1 pc = .ok (.aaload, 1)) (hk : h.2.2.1 a = (jm_a t, n)) (ht : jm_ty t = .object C0) (hin : vp_in i n) (hv0 : h.2.2.2 a i.toNatClampNeg = v0)
    (kk : jm_X l G M n0 s0 Z Post (pc + 1) lv (v0 :: st) h) : jm_X l G M n0 s0 Z Post pc lv (.int i :: .ref a :: st) h := by
  obtain ⟨r, h', a1, a2, a3, a4, a5, v⟩ := kk
  refine ⟨r, h', a1, a2, a3, a4, a5, fun p e s m args below meth c1 H locs ls C n1 n2 n3 hR hS hv => ?_⟩
  have W9 := v p e s m args below meth c1 H locs ls C n1 n2 n3 hR hS hv
  obtain ⟨hx, hb, hml, hr, hlk, hnm, hown, htb, hts, hK, hN⟩ := C
  obtain ⟨g1, g2, g3⟩ := hR.2.2.2 a t n hk
  have hA := (hK.2 t g2).1 n (h.2.2.2 a)
  rw [ht] at hA
  exact W.aald (ty := .object C0) (v := v0) hx hb g3 hA rfl (fun q => by cases q) (by show ¬ (i < 0 ∨ (arrV _ _ _).slots.size ≤ _); rw [arrV_size]; exact hin) (by show (arrV _ _ _).slots[_]? = _; rw [arrV_read _ _ (jm_vlt hin), hv0]) rfl rfl hd W9
theorem jx_iast {a t n : Nat} {i : Int32} {x : Int32} (hd : decode M.2.1 pc = .ok (.iastore, 1)) (hk : h.2.2.1 a = (jm_a t, n)) (ht : jm_ty t = .int) (hin : vp_in i n)
    (kk : jm_X l G M n0 s0 Z Post (pc + 1) lv st (jm_put h a i.toNatClampNeg (.int x))) : jm_X l G M n0 s0 Z Post pc lv (.int x :: .int i :: .ref a :: st) h := by
  obtain ⟨r, h', a1, a2, a3, a4, a5, v⟩ := kk
  refine ⟨r, h', a1, a2, a3, a4, a5, fun p e s m args below meth c1 H locs ls C n1 n2 n3 hR hS hv => ?_⟩
  have W9 := fun H1 locs1 => v p e s m args below meth c1 H1 locs1 ls C n1 n2 n3
  obtain ⟨hx, hb, hml, hr, hlk, hnm, hown, htb, hts, hK, hN⟩ := C
  obtain ⟨g1, g2, g3⟩ := hR.2.2.2 a t n hk
  have hA := (hK.2 t g2).1 n (h.2.2.2 a)
  rw [ht] at hA
  refine W.iast hx hb g3 hA (fun q => by cases q) (by show ¬ (i < 0 ∨ (arrV _ _ _).slots.size ≤ _); rw [arrV_size]; exact hin) rfl rfl hd fun H1 e z oq => ?_
  refine W9 H1 _ (hR.putA hk z oq ?_) (hS.put z oq g1) hv
  rw [e, arrV_store]
  try rfl
theorem jx_last {a t n : Nat} {i : Int32} {x : Int64} (hd : decode M.2.1 pc = .ok (.lastore, 1)) (hk : h.2.2.1 a = (jm_a t, n)) (ht : jm_ty t = .long) (hin : vp_in i n)
    (kk : jm_X l G M n0 s0 Z Post (pc + 1) lv st (jm_put h a i.toNatClampNeg (.long x))) : jm_X l G M n0 s0 Z Post pc lv (.long x :: .int i :: .ref a :: st) h := by
  obtain ⟨r, h', a1, a2, a3, a4, a5, v⟩ := kk
  refine ⟨r, h', a1, a2, a3, a4, a5, fun p e s m args below meth c1 H locs ls C n1 n2 n3 hR hS hv => ?_⟩
  have W9 := fun H1 locs1 => v p e s m args below meth c1 H1 locs1 ls C n1 n2 n3
  obtain ⟨hx, hb, hml, hr, hlk, hnm, hown, htb, hts, hK, hN⟩ := C
  obtain ⟨g1, g2, g3⟩ := hR.2.2.2 a t n hk
  have hA := (hK.2 t g2).1 n (h.2.2.2 a)
  rw [ht] at hA
  refine W.last hx hb g3 hA (fun q => by cases q) (by show ¬ (i < 0 ∨ (arrV _ _ _).slots.size ≤ _); rw [arrV_size]; exact hin) rfl rfl hd fun H1 e z oq => ?_
  refine W9 H1 _ (hR.putA hk z oq ?_) (hS.put z oq g1) hv
  rw [e, arrV_store]
  try rfl
theorem jx_bast {a t n : Nat} {i : Int32} {x : Int32} (hd : decode M.2.1 pc = .ok (.bastore, 1)) (hk : h.2.2.1 a = (jm_a t, n)) (ht : jm_ty t = .byte) (hin : vp_in i n)
    (kk : jm_X l G M n0 s0 Z Post (pc + 1) lv st (jm_put h a i.toNatClampNeg (.int x.toInt8.toInt32))) : jm_X l G M n0 s0 Z Post pc lv (.int x :: .int i :: .ref a :: st) h := by
  obtain ⟨r, h', a1, a2, a3, a4, a5, v⟩ := kk
  refine ⟨r, h', a1, a2, a3, a4, a5, fun p e s m args below meth c1 H locs ls C n1 n2 n3 hR hS hv => ?_⟩
  have W9 := fun H1 locs1 => v p e s m args below meth c1 H1 locs1 ls C n1 n2 n3
  obtain ⟨hx, hb, hml, hr, hlk, hnm, hown, htb, hts, hK, hN⟩ := C
  obtain ⟨g1, g2, g3⟩ := hR.2.2.2 a t n hk
  have hA := (hK.2 t g2).1 n (h.2.2.2 a)
  rw [ht] at hA
  refine W.bast hx hb g3 hA (fun q => by cases q) (by show ¬ (i < 0 ∨ (arrV _ _ _).slots.size ≤ _); rw [arrV_size]; exact hin) rfl rfl hd fun H1 e z oq => ?_
  refine W9 H1 _ (hR.putA hk z oq ?_) (hS.put z oq g1) hv
  rw [e, arrV_store]
  try rfl
theorem jx_zast {a t n : Nat} {i : Int32} {x : Int32} (hd : decode M.2.1 pc = .ok (.bastore, 1)) (hk : h.2.2.1 a = (jm_a t, n)) (ht : jm_ty t = .boolean) (hin : vp_in i n)
    (kk : jm_X l G M n0 s0 Z Post (pc + 1) lv st (jm_put h a i.toNatClampNeg (narrow .boolean (.int x)))) : jm_X l G M n0 s0 Z Post pc lv (.int x :: .int i :: .ref a :: st) h := by
  obtain ⟨r, h', a1, a2, a3, a4, a5, v⟩ := kk
  refine ⟨r, h', a1, a2, a3, a4, a5, fun p e s m args below meth c1 H locs ls C n1 n2 n3 hR hS hv => ?_⟩
  have W9 := fun H1 locs1 => v p e s m args below meth c1 H1 locs1 ls C n1 n2 n3
  obtain ⟨hx, hb, hml, hr, hlk, hnm, hown, htb, hts, hK, hN⟩ := C
  obtain ⟨g1, g2, g3⟩ := hR.2.2.2 a t n hk
  have hA := (hK.2 t g2).1 n (h.2.2.2 a)
  rw [ht] at hA
  refine W.zast hx hb g3 hA (fun q => by cases q) (by show ¬ (i < 0 ∨ (arrV _ _ _).slots.size ≤ _); rw [arrV_size]; exact hin) rfl rfl hd fun H1 e z oq => ?_
  refine W9 H1 _ (hR.putA hk z oq ?_) (hS.put z oq g1) hv
  rw [e, arrV_store]
  try rfl
theorem jx_aast {C0 : String} {T0 : u_T} {N0 : Nat} {a t n x c n' : Nat} {i : Int32} (hd : decode M.2.1 pc = .ok (.aastore, 1)) (hk : h.2.2.1 a = (jm_a t, n)) (ht : jm_ty t = .object C0) (hin : vp_in i n) (hx0 : h.2.2.1 x = (jm_o c, n')) (hc : jm_cl[c]? = some (C0, T0, N0))
    (kk : jm_X l G M n0 s0 Z Post (pc + 1) lv st (jm_put h a i.toNatClampNeg (.ref x))) : jm_X l G M n0 s0 Z Post pc lv (.ref x :: .int i :: .ref a :: st) h := by
  obtain ⟨r, h', a1, a2, a3, a4, a5, v⟩ := kk
  refine ⟨r, h', a1, a2, a3, a4, a5, fun p e s m args below meth c1 H locs ls C n1 n2 n3 hR hS hv => ?_⟩
  have W9 := fun H1 locs1 => v p e s m args below meth c1 H1 locs1 ls C n1 n2 n3
  obtain ⟨hx, hb, hml, hr, hlk, hnm, hown, htb, hts, hK, hN⟩ := C
  obtain ⟨g1, g2, g3⟩ := hR.2.2.2 a t n hk
  obtain ⟨f1, r0, f2, cellV, q1, q2, q3, -⟩ := hR.2.2.1 x c n' hx0
  have hcls := (hK.1 c _ hc).2
  have hRA := (hK.2 t g2).2
  rw [ht] at hRA
  obtain ⟨kA, comp, k1, k2, k3, -⟩ := hRA
  have hcomp : comp = G.1.1 c := Option.some.inj (k3.symm.trans hcls.1)
  subst hcomp
  obtain ⟨kC, hkC, -⟩ := hcls.2
  refine W.aast hx hb g3 (fun q h => by cases h) (fun h => by cases h) k1 k2 rfl hkC ⟨fun q => hin (Or.inl q), by show _ < (arrV _ _ _).slots.size; rw [arrV_size]; exact jm_vlt hin⟩ q1 (fun q h => by rw [q3] at h; cases h) (by rw [q2]; exact hkC) (by rw [q2]; exact va_assign hcls) rfl rfl hd fun H1 e z oq => ?_
  refine W9 H1 _ (hR.putA hk z oq ?_) (hS.put z oq g1) hv
  rw [e, arrV_store]
theorem jx_aastN {C0 : String} {a t n : Nat} {i : Int32} (hd : decode M.2.1 pc = .ok (.aastore, 1)) (hk : h.2.2.1 a = (jm_a t, n)) (ht : jm_ty t = .object C0) (hin : vp_in i n)
    (kk : jm_X l G M n0 s0 Z Post (pc + 1) lv st (jm_put h a i.toNatClampNeg .null)) : jm_X l G M n0 s0 Z Post pc lv (.null :: .int i :: .ref a :: st) h := by
  obtain ⟨r, h', a1, a2, a3, a4, a5, v⟩ := kk
  refine ⟨r, h', a1, a2, a3, a4, a5, fun p e s m args below meth c1 H locs ls C n1 n2 n3 hR hS hv => ?_⟩
  have W9 := fun H1 locs1 => v p e s m args below meth c1 H1 locs1 ls C n1 n2 n3
  obtain ⟨hx, hb, hml, hr, hlk, hnm, hown, htb, hts, hK, hN⟩ := C
  obtain ⟨g1, g2, g3⟩ := hR.2.2.2 a t n hk
  have hA := (hK.2 t g2).1 n (h.2.2.2 a)
  rw [ht] at hA
  refine va_WaastN (C := C0) hx hb g3 hA (fun h => by cases h) (by show ¬ (i < 0 ∨ (arrV _ _ _).slots.size ≤ _); rw [arrV_size]; exact hin) rfl rfl hd fun H1 e z oq => ?_
  refine W9 H1 _ (hR.putA hk z oq ?_) (hS.put z oq g1) hv
  rw [e, arrV_store]
theorem jx_alen {a t n : Nat} {v0 : Int32} (hd : decode M.2.1 pc = .ok (.arraylength, 1)) (hk : h.2.2.1 a = (jm_a t, n)) (hv0 : Int32.ofNat n = v0)
    (kk : jm_X l G M n0 s0 Z Post (pc + 1) lv (.int v0 :: st) h) : jm_X l G M n0 s0 Z Post pc lv (.ref a :: st) h := by
  obtain ⟨r, h', a1, a2, a3, a4, a5, v⟩ := kk
  refine ⟨r, h', a1, a2, a3, a4, a5, fun p e s m args below meth c1 H locs ls C n1 n2 n3 hR hS hv => ?_⟩
  have W9 := v p e s m args below meth c1 H locs ls C n1 n2 n3 hR hS hv
  obtain ⟨hx, hb, hml, hr, hlk, hnm, hown, htb, hts, hK, hN⟩ := C
  obtain ⟨g1, g2, g3⟩ := hR.2.2.2 a t n hk
  exact W.alen (n := v0) hx hb g3 ((hK.2 t g2).1 n (h.2.2.2 a)) (by rw [arrV_size]; exact hv0) rfl rfl hd W9
theorem jm_S.new {H0 H H1 : Heap} {locs : List Loc} {A : Nat → Prop} (hS : va_S A H0 H locs) (hz : H1.size = H.size + 1) (hq : ∀ q : Nat, q < H.size → H1[q]? = H[q]?) : va_S A H0 H1 locs :=
  ⟨Nat.le_trans hS.1 (by omega), fun x h1 h2 => (hq x (Nat.lt_of_lt_of_le h1 hS.1)).trans (hS.2.1 x h1 h2), hS.2.2⟩
theorem jx_new {c idx n : Nat} {C0 : String} {T : u_T} {N : Nat} {ty : Nat → FieldType} (hd : decode M.2.1 pc = .ok (.new idx, 3)) (hc : jm_cl[c]? = some (C0, T, N)) (hin : ∀ w ∈ u_ws C0 T N, w ∈ jm_W) (hty : ∀ k, k < N → parseFieldDescriptor (T k).2.2.1 = some (ty k))
    (hw1 : Cond.classLink M.1.cls idx C0 ∈ jm_W) (hw2 : Cond.instantiable C0 n ∈ jm_W) (hw3 : Cond.initialized C0 ∈ jm_W)
    (kk : jm_X l G M n0 s0 Z Post (pc + 3) lv (.ref h.1 :: st) (jm_new h (jm_o c) n (fun k => defaultValue (ty k)))) : jm_X l G M n0 s0 Z Post pc lv st h := by
  obtain ⟨r, h', a1, a2, a3, a4, a5, v⟩ := kk
  have b1 : h.1 + 1 ≤ h'.1 := a1
  have b2 : h.2.1 + n ≤ h'.2.1 := a2
  refine ⟨r, h', by omega, by omega, a3, a4, a5, fun p e s m args below meth c1 H locs ls C n1 n2 n3 hR hS hv => ?_⟩
  have W9 := fun H1 => v p e s m args below meth c1 H1 locs ls C n1 (Nat.le_succ_of_le n2) (Nat.le_trans n3 (Nat.le_add_right _ _))
  obtain ⟨hx, hb, hml, hr, hlk, hnm, hown, htb, hts, hK, hN⟩ := C
  have hKn := hK.1 c _ hc
  have e0 : h.1 = H.size := hR.1
  have c1' : h.1 - n0 + 1 ≤ (jm_rm Z r h').cells := by show _ ≤ (Z.2.2 r h').1; omega
  have c2' : h.2.1 - s0 + n ≤ (jm_rm Z r h').slots := by show _ ≤ (Z.2.2 r h').2.1; omega
  refine W.newcK (g := F0 m pc ls st) hx hb hown (hts _ hw1) (hts _ hw2) (hts _ hw3) rfl hd c1' c2' hKn.2.1 e0.symm fun H1 kC hkC e1 z1 o1 => ?_
  refine W.cs (cells' := h.1 + 1 - n0) (slots' := h.2.1 + n - s0) (by omega) (by omega) ?_
  exact W9 H1 (hR.newO hc z1 (fun q hq => o1 q hq) (u_born ty hts hin hKn hkC e1 hty)) (jm_S.new hS (by rw [z1, e0]) (fun q hq => o1 q (by rw [e0]; exact hq))) hv
theorem jx_newa {atype : ArrayType} {t N : Nat} {n : Int32} (hd : decode M.2.1 pc = .ok (.newarray atype, 2)) (ht0 : t < jm_nt) (ht : jm_ty t = newarray.typeOf atype) (hp : ∀ C0, newarray.typeOf atype ≠ .object C0) (hw : Cond.arrayClass (newarray.typeOf atype) ∈ jm_W)
    (hn : ¬ n < 0) (hN : n.toNatClampNeg = N) (hbytes : N * componentBytes (newarray.typeOf atype) ≤ 536870912)
    (kk : jm_X l G M n0 s0 Z Post (pc + 2) lv (.ref h.1 :: st) (jm_new h (jm_a t) N (fun _ => defaultValue (newarray.typeOf atype)))) : jm_X l G M n0 s0 Z Post pc lv (.int n :: st) h := by
  obtain ⟨r, h', a1, a2, a3, a4, a5, v⟩ := kk
  have b1 : h.1 + 1 ≤ h'.1 := a1
  have b2 : h.2.1 + N ≤ h'.2.1 := a2
  refine ⟨r, h', by omega, by omega, a3, a4, a5, fun p e s m args below meth c1 H locs ls C n1 n2 n3 hR hS hv => ?_⟩
  have W9 := fun H1 => v p e s m args below meth c1 H1 locs ls C n1 (Nat.le_succ_of_le n2) (Nat.le_trans n3 (Nat.le_add_right _ _))
  obtain ⟨hx, hb, hml, hr, hlk, hnm, hown, htb, hts, hK, hN9⟩ := C
  have e0 : h.1 = H.size := hR.1
  have c1' : h.1 - n0 + 1 ≤ (jm_rm Z r h').cells := by show _ ≤ (Z.2.2 r h').1; omega
  have c2' : h.2.1 - s0 + N ≤ (jm_rm Z r h').slots := by show _ ≤ (Z.2.2 r h').2.1; omega
  refine va_newaK (g := F0 m pc ls (.int n :: st)) hx hb (hts _ hw) rfl hd rfl hn hN hbytes c1' c2' e0.symm fun H1 cA e1 z1 o1 hAr hNm => ?_
  refine W.cs (cells' := h.1 + 1 - n0) (slots' := h.2.1 + N - s0) (by omega) (by omega) ?_
  have hRA := (hK.2 t ht0).2
  rw [ht] at hRA
  have hcA : cA = G.2.1 t := by
    have h5 : s.vm.findClass ("[" ++ (newarray.typeOf atype).toString) = some (G.2.1 t) := by
      revert hRA hp
      cases newarray.typeOf atype <;> intro hp hRA <;> first | exact hRA | exact absurd rfl (hp _)
    exact Option.some.inj (hNm.symm.trans h5)
  subst hcA
  exact W9 H1 (hR.newA ht0 z1 (fun q hq => o1 q hq) e1) (jm_S.new hS (by rw [z1, e0]) (fun q hq => o1 q (by rw [e0]; exact hq))) hv
theorem jx_newq {C0 : String} {t N idx : Nat} {n : Int32} (hd : decode M.2.1 pc = .ok (.anewarray idx, 3)) (ht0 : t < jm_nt) (ht : jm_ty t = .object C0) (hw1 : Cond.classLink M.1.cls idx C0 ∈ jm_W) (hw : C0 = "CellWorks$Cell")
    (hn : ¬ n < 0) (hN : n.toNatClampNeg = N) (hbytes : N * 4 ≤ 536870912)
    (kk : jm_X l G M n0 s0 Z Post (pc + 3) lv (.ref h.1 :: st) (jm_new h (jm_a t) N (fun _ => .null))) : jm_X l G M n0 s0 Z Post pc lv (.int n :: st) h := by
  obtain ⟨r, h', a1, a2, a3, a4, a5, v⟩ := kk
  have b1 : h.1 + 1 ≤ h'.1 := a1
  have b2 : h.2.1 + N ≤ h'.2.1 := a2
  refine ⟨r, h', by omega, by omega, a3, a4, a5, fun p e s m args below meth c1 H locs ls C n1 n2 n3 hR hS hv => ?_⟩
  have W9 := fun H1 => v p e s m args below meth c1 H1 locs ls C n1 (Nat.le_succ_of_le n2) (Nat.le_trans n3 (Nat.le_add_right _ _))
  obtain ⟨hx, hb, hml, hr, hlk, hnm, hown, htb, hts, hK, hN9⟩ := C
  have e0 : h.1 = H.size := hR.1
  have c1' : h.1 - n0 + 1 ≤ (jm_rm Z r h').cells := by show _ ≤ (Z.2.2 r h').1; omega
  have c2' : h.2.1 - s0 + N ≤ (jm_rm Z r h').slots := by show _ ≤ (Z.2.2 r h').2.1; omega
  subst hN
  refine W.anew (g := F0 m pc ls (.int n :: st)) hx hb hown (hts _ hw1) (va_AO.use (by rw [hw]; exact hN9.2.1)) rfl hd rfl hn hbytes c1' c2' fun cA kA comp f1 f2 f3 f4 => ?_
  refine W.cs (cells' := h.1 + 1 - n0) (slots' := h.2.1 + n.toNatClampNeg - s0) (by omega) (by omega) ?_
  have hRA := (hK.2 t ht0).2
  rw [ht] at hRA
  obtain ⟨kA2, comp2, k1, k2, k3, k4⟩ := hRA
  have hcA : cA = G.2.1 t := Option.some.inj (f1.symm.trans k4)
  subst hcA
  generalize hH1 : H.push ({ cls := G.2.1 t, slots := Array.replicate n.toNatClampNeg .null, vm := .none } : Cell) = H1
  have z1 : H1.size = H.size + 1 := by rw [← hH1, Array.size_push]
  have e1 : H1[H.size]? = some (arrV (G.2.1 t) n.toNatClampNeg (fun _ => .null)) := by rw [← hH1, Array.getElem?_push_size, ← arrV_new]
  have o1 : ∀ q : Nat, q < H.size → H1[q]? = H[q]? := fun q hq => by rw [← hH1, Array.getElem?_push, if_neg (Nat.ne_of_lt hq)]
  have e2 : ({ F0 m pc ls (.int n :: st) with pc := (F0 m pc ls (.int n :: st)).pc + 3, stack := .ref H.size :: st } : JFrame) = F0 m (pc + 3) ls (.ref h.1 :: st) := by rw [e0]
  rw [e2]
  exact W9 H1 (hR.newA ht0 (by rw [z1, e0]) (fun q hq => o1 q (by rw [← e0]; exact hq)) (by rw [e0]; exact e1)) (jm_S.new hS z1 o1) hv
theorem jx_objInit {a idx : Nat} (hd : decode M.2.1 pc = .ok (.invokespecial idx, 3)) (hw1 : Cond.methodLink M.1.cls idx Lib.objectInit ∈ jm_W) (hw2 : Cond.instanceMethod Lib.objectInit ∈ jm_W) (hw3 : Cond.code Lib.objectInit ⟨#[0xb1]⟩ 1 none ∈ jm_W)
    (hf : 1 ≤ Z.1) (hlo : (st.map fun v => v.category).sum + 12 ≤ Z.2.1) (kk : jm_X l G M n0 s0 Z Post (pc + 3) lv st h) : jm_X l G M n0 s0 Z Post pc lv (.ref a :: st) h := by
  obtain ⟨r, h', a1, a2, a3, a4, a5, v⟩ := kk
  refine ⟨r, h', a1, a2, a3, a4, a5, fun p e s m args below meth c1 H locs ls C n1 n2 n3 hR hS hv => ?_⟩
  have W9 := v p e s m args below meth c1 H locs ls C n1 n2 n3 hR hS hv
  obtain ⟨hx, hb, hml, hr, hlk, hnm, hown, htb, hts, hK, hN⟩ := C
  exact W.objInit hx hb hown (hts _ hw1) (hts _ hw2) (hts _ hw3) (g := F0 m pc ls (.ref a :: st)) rfl (by rw [hml]; exact hv.1) rfl hd hf (by show 2 * 0 + _ + 12 ≤ Z.2.1; omega) W9
end JH
end
section

section JC
variable {l : Launch} {G : jm_G} {M : jm_M} {n0 s0 : Nat} {Z : jm_Z} {Post : jm_r → jm_H → Prop} {pc : Nat} {lv : List (Nat × Value)} {st : List Value} {h : jm_H}
def jm_lo (d : Nat) : Nat := 64 * d
def jm_P (G : jm_G) (args : List Value) (h : jm_H) : Array Value → State → Prop := fun a U => a = args.toArray ∧ jm_R G h U.heap ∧ jm_K G U ∧ jm_N G U U.heap
def jm_Q (G : jm_G) (v : Option Value) (h : jm_H) : Array Value → State → Outcome → State → Prop := fun _ st o t => o = .returned v ∧ jm_R G h t.heap ∧ va_F (jm_A G) st t
/-- a method that throws an exception of class E, and leaves the heap h -/
def jm_XQ (G : jm_G) (E : String) (h : jm_H) (mc ms : Nat) : Array Value → State → Outcome → State → Prop := fun _ st o t => ∃ (q : Addr) (ce : Cell) (L : List Loc), o = .threw q ∧ t.heap[q]? = some ce ∧ ce.vm = .none ∧ st.vm.findClass E = some ce.cls ∧ st.WarmedH t.vm ∧ st.sameButNew ({ t with vm := st.vm } : State) L mc ms ∧ (∀ z ∈ L, jm_A G z.base) ∧ jm_R G h t.heap ∧ va_F (jm_A G) st t
def jm_MX (G : jm_G) (E : String) (h : jm_H) (below : List Frame) (args : Array Value) (s : State) (mc ms : Nat) : State → Prop := fun t => ∃ o, t.status = .running ∧ Ended t below o ∧ jm_XQ G E h mc ms args s o t
def jm_en (G : jm_G) (n0 s0 : Nat) (r : jm_r) (h : jm_H) : jm_E := fun below args s => match r with
  | .inl v => MQ below (jm_Q G v h) args s (h.1 - n0) (h.2.1 - s0) (jm_A G)
  | .inr E => jm_MX G E h below args s (h.1 - n0) (h.2.1 - s0)
def jm_zn (G : jm_G) (d n0 s0 : Nat) : jm_Z := (d, jm_lo d, fun r h => (h.1 - n0, h.2.1 - s0, jm_en G n0 s0 r h))
def jm_ws (M : jm_M) : List Cond := Cond.code M.1 M.2.1 M.2.2.1 M.2.2.2.1 :: jm_W
def jm_rmN (d c s : Nat) : Room := { frames := d, cells := c, slots := s, locals := jm_lo d }
/-- the method's contract at these arguments and this heap: it answers v, and the heap is h' -/
def jm_C (l : Launch) (G : jm_G) (M : jm_M) (d : Nat) (args : List Value) (h : jm_H) (v : Option Value) (h' : jm_H) : Prop :=
  h.1 ≤ h'.1 ∧ h.2.1 ≤ h'.2.1 ∧ Met l M.1 (jm_ws M) (jm_rmN d (h'.1 - h.1) (h'.2.1 - h.2.1)) (jm_P G args h) (jm_Q G v h') (h'.1 - h.1) (h'.2.1 - h.2.1) (jm_A G)
def jm_CP (l : Launch) (G : jm_G) (M : jm_M) (d : Nat) (args : List Value) (h : jm_H) (Q : Option Value → jm_H → Prop) : Prop := ∃ (v : Option Value) (h' : jm_H), jm_C l G M d args h v h' ∧ Q v h'
theorem jm_F0 {s t : State} {H : Heap} {locs : List Loc} (hS : va_S (jm_A G) s.heap H locs) (ht : t.heap = H) : va_F (jm_A G) s t := hS.F ht
theorem jx_iret {d : Nat} {v0 : Int32} (hd : decode M.2.1 pc = .ok (.ireturn, 1)) (hr0 : M.2.2.2.1 = some .int) (hp : Post (.inl (some (.int v0))) h) : jm_X l G M n0 s0 (jm_zn G d n0 s0) Post pc lv [.int v0] h := by
  refine ⟨.inl (some (.int v0)), h, Nat.le_refl _, Nat.le_refl _, Nat.le_refl _, Nat.le_refl _, hp, fun p e s m args below meth c1 H locs ls C n1 n2 n3 hR hS hv => ?_⟩
  obtain ⟨hx, hb, hml, hr, hlk, hnm, hown, htb, hts, hK, hN⟩ := C
  exact W.iret hx hb (hr.trans hr0) (fun t ht hW => ⟨rfl, by rw [ht]; exact hR, jm_F0 hS ht⟩) hS.2.2 hd hlk
theorem jx_zret {d : Nat} {v0 : Int32} {ty : FieldType} (hd : decode M.2.1 pc = .ok (.ireturn, 1)) (hr0 : M.2.2.2.1 = some ty) (hn : narrow ty (.int v0) = .int v0) (hp : Post (.inl (some (.int v0))) h) : jm_X l G M n0 s0 (jm_zn G d n0 s0) Post pc lv [.int v0] h := by
  refine ⟨.inl (some (.int v0)), h, Nat.le_refl _, Nat.le_refl _, Nat.le_refl _, Nat.le_refl _, hp, fun p e s m args below meth c1 H locs ls C n1 n2 n3 hR hS hv => ?_⟩
  obtain ⟨hx, hb, hml, hr, hlk, hnm, hown, htb, hts, hK, hN⟩ := C
  exact W.zret hx hb (hr.trans hr0) hn (fun t ht hW => ⟨rfl, by rw [ht]; exact hR, jm_F0 hS ht⟩) hS.2.2 hd hlk
theorem jx_lret {d : Nat} {v0 : Int64} (hd : decode M.2.1 pc = .ok (.lreturn, 1)) (hr0 : M.2.2.2.1 = some .long) (hp : Post (.inl (some (.long v0))) h) : jm_X l G M n0 s0 (jm_zn G d n0 s0) Post pc lv [.long v0] h := by
  refine ⟨.inl (some (.long v0)), h, Nat.le_refl _, Nat.le_refl _, Nat.le_refl _, Nat.le_refl _, hp, fun p e s m args below meth c1 H locs ls C n1 n2 n3 hR hS hv => ?_⟩
  obtain ⟨hx, hb, hml, hr, hlk, hnm, hown, htb, hts, hK, hN⟩ := C
  exact W.lret hx hb (hr.trans hr0) (fun t ht hW => ⟨rfl, by rw [ht]; exact hR, jm_F0 hS ht⟩) hS.2.2 hd hlk
theorem jx_aret {d : Nat} {v0 : Value} {rt : FieldType} (hd : decode M.2.1 pc = .ok (.areturn, 1)) (hr0 : M.2.2.2.1 = some rt) (hrt : (∃ n, rt = .object n) ∨ ∃ t, rt = .array t) (hv0 : v0 = .null ∨ ∃ a, v0 = .ref a) (hp : Post (.inl (some v0)) h) : jm_X l G M n0 s0 (jm_zn G d n0 s0) Post pc lv [v0] h := by
  refine ⟨.inl (some v0), h, Nat.le_refl _, Nat.le_refl _, Nat.le_refl _, Nat.le_refl _, hp, fun p e s m args below meth c1 H locs ls C n1 n2 n3 hR hS hv => ?_⟩
  obtain ⟨hx, hb, hml, hr, hlk, hnm, hown, htb, hts, hK, hN⟩ := C
  exact W.aret hx hb (hr.trans hr0) hrt hv0 (fun t ht hW => ⟨rfl, by rw [ht]; exact hR, jm_F0 hS ht⟩) hS.2.2 hd hlk
theorem jx_vret {d : Nat} (hd : decode M.2.1 pc = .ok (.return_, 1)) (hr0 : M.2.2.2.1 = none) (hp : Post (.inl none) h) : jm_X l G M n0 s0 (jm_zn G d n0 s0) Post pc lv [] h := by
  refine ⟨.inl none, h, Nat.le_refl _, Nat.le_refl _, Nat.le_refl _, Nat.le_refl _, hp, fun p e s m args below meth c1 H locs ls C n1 n2 n3 hR hS hv => ?_⟩
  obtain ⟨hx, hb, hml, hr, hlk, hnm, hown, htb, hts, hK, hN⟩ := C
  exact W.vret hx hb (hr.trans hr0) (fun t ht hW => ⟨rfl, by rw [ht]; exact hR, jm_F0 hS ht⟩) hS.2.2 hd hlk
/-- a method without a table of exceptions that returns: its contract out of its body's walk -/
theorem jm_of {d : Nat} {args : List Value} {Q : Option Value → jm_H → Prop} (hy : plainName M.1.cls = true) (htb0 : M.2.2.2.2 = []) (hlen : (lg_sl args).length ≤ M.2.2.1)
    (k : jm_X l G M h.1 h.2.1 (jm_zn G d h.1 h.2.1) (fun r h' => ∃ v, r = .inl v ∧ Q v h') 0 (lv_args 0 args) [] h) : jm_CP l G M d args h Q := by
  obtain ⟨r, h', a1, a2, a3, a4, ⟨v, rfl, hq⟩, kv⟩ := k
  refine ⟨v, h', ⟨a1, a2, ?_⟩, hq⟩
  refine Met.ofW (cc := M.2.1) (maxL := M.2.2.1) (ret := M.2.2.2.1) hy rfl ?_
  intro p e s m args' below meth c s₁ B hml hv
  obtain ⟨rfl, hR, hK, hN⟩ := hv
  have hts := atoms_spec (ws := jm_ws M) B.pre
  have hl := lv_entry args (n := M.2.2.1) hlen
  rw [lg_entry_eq]
  generalize (lg_sl args ++ List.replicate (M.2.2.1 - (lg_sl args).length) Slot.unset).toArray = ls at hl ⊢
  have htab : c.exceptionTable.toList = M.2.2.2.2 := by
    rw [htb0]
    have := BodyLoose.noHandlers B (hts _ List.mem_cons_self)
    simpa using this
  have C : jm_Cx G M p s m args.toArray meth c := ⟨B.exec, B.bytes, hml, B.returns, B.notSynchronized, (name_of_methodNamed B.named B.method).1, findClass_of_methodNamed B.named, htab, fun w hw => hts w (List.mem_cons_of_mem _ hw), hK, hN⟩
  have e1 : h.1 = s.heap.size := hR.1
  have W9 := kv p e s m args.toArray below meth c s.heap [] ls C e1 (Nat.le_refl _) (Nat.le_refl _) hR va_S.rf hl
  rw [Nat.sub_self, Nat.sub_self] at W9
  exact W9
/-- what a call leaves, to the frame that goes on -/
theorem jm_back {p : Program} {e : Env} {R : Room} {s : State} {m : MethodId} {args a : Array Value} {below : List Frame} {meth : Method} {c : Code} {H : Heap} {locs : List Loc} {cells slots mc ms : Nat} {Q : State → Prop} {ls : Array Slot} {st0 rest : List Value} {v : Option Value} {h1 : jm_H}
    (hr : va_Run p l e R s m args below meth c H locs cells slots mc ms (F0 m pc ls st0) rest (jm_Q G v h1 a) (jm_A G)) (hS : va_S (jm_A G) s.heap H locs)
    (kk : ∀ (H1 : Heap) (locs1 : List Loc), jm_R G h1 H1 → va_S (jm_A G) s.heap H1 locs1 → W p l e R s m args below meth c H1 locs1 (cells + mc) (slots + ms) Q (F0 m (pc + 3) ls (v.toList ++ rest))) : W p l e R s m args below meth c H locs cells slots Q (F0 m pc ls st0) := by
  intro T hT X
  obtain ⟨v', st₀, t, T', L, h0, X', hL, e1, e2, ⟨hv, hR, hz, hk⟩, st⟩ := hr T hT X
  cases hv
  rw [h0] at hz hk
  obtain ⟨t2, a1, b1⟩ := kk T'.heap (locs ++ L) (by rw [e1]; exact hR)
    ⟨Nat.le_trans hS.1 (by rw [e1]; exact hz), fun q h1 h2 => by rw [e1, hk q (Nat.lt_of_lt_of_le h1 hS.1) h2]; exact hS.2.1 q h1 h2, fun q hq => by
      rcases List.mem_append.mp hq with h | h
      · exact hS.2.2 q h
      · exact hL q h⟩ T' rfl X'
  exact ⟨t2, st t2 a1, b1⟩
theorem jm_blind {args : List Value} : FrameBlind (jm_P G args h) := fun a U g mk q => ⟨q.1, q.2.1, jm_K.moved (u := U) (U := U.calling g mk a) (Vm.Alike.refl U.vm) q.2.2.1, jm_N.calling q.2.2.2⟩
theorem jm_good {M2 : jm_M} (x : Cond) (L : List Cond) (hw : Cond.code M2.1 M2.2.1 M2.2.2.1 M2.2.2.2.1 ∈ jm_W) (hL : ∀ w ∈ L, w ∈ jm_W) : GoodIn (x :: jm_W) (L ++ jm_ws M2) := fun w h => by
  have hw9 : w ∈ jm_W := by
    rcases List.mem_append.mp h with h | h
    · exact hL w h
    · rcases List.mem_cons.mp h with h | h
      · rw [h]; exact hw
      · exact h
  exact ⟨List.mem_cons_of_mem _ hw9, jm_W_good w hw9⟩
/-- the words of a call: of the callee's code, of its class -/
def jm_cd (M2 : jm_M) (n : Nat) : Prop := Cond.code M2.1 M2.2.1 M2.2.2.1 M2.2.2.2.1 ∈ jm_W ∧ Cond.initialized M2.1.cls ∈ jm_W ∧ (M2.1.cls ≠ "java/lang/invoke/MethodHandle" ∧ M2.1.cls ≠ "java/lang/invoke/VarHandle" ∧ (parseMethodDescriptor M2.1.desc).map (fun d => d.parameters.length) = some n)
theorem jm_room {d : Nat} {M2 : jm_M} {R : Room} {a b : Nat} (h1 : d + 1 ≤ R.frames) (h2 : 19 + M2.2.2.1 + jm_lo d ≤ R.locals) : (jm_rmN d a b).frames + 1 ≤ R.frames ∧ 8 + (M2.2.2.1 + 11) + (jm_rmN d a b).locals ≤ R.locals := ⟨h1, by show 8 + (M2.2.2.1 + 11) + jm_lo d ≤ _; omega⟩

theorem jx_callV {M2 : jm_M} {d n idx : Nat} {b : Nat} {As rest : List Value} {v0 : Option Value} {h1 : jm_H} {c nn : Nat} {T : u_T} {N : Nat} (hcl : jm_cl[c]? = some (M2.1.cls, T, N)) (hk : h.2.2.1 b = (jm_o c, nn)) (hw1 : Cond.methodLink M.1.cls idx M2.1 ∈ jm_W) (hw2 : Cond.instanceMethod M2.1 ∈ jm_W) (hw3 : Cond.selects M2.1.cls M2.1 M2.1 ∈ jm_W) (hd : decode M.2.1 pc = .ok (.invokevirtual idx, 3)) (hC : jm_C l G M2 d (.ref b :: As) h v0 h1) (hcd : jm_cd M2 n) (hn : As.length = n) (hst : st = As.reverse ++ .ref b :: rest) (hW : (rest.map fun v => v.category).sum ≤ 8)
    (hf : d + 1 ≤ Z.1) (hlo : 19 + M2.2.2.1 + jm_lo d ≤ Z.2.1) (kk : jm_X l G M n0 s0 Z Post (pc + 3) lv (v0.toList ++ rest) h1) : jm_X l G M n0 s0 Z Post pc lv st h := by
  subst hst
  obtain ⟨r, h', a1, a2, a3, a4, a5, v⟩ := kk
  obtain ⟨c1, c2, hM⟩ := hC
  obtain ⟨w1, w2, w3⟩ := hcd
  refine ⟨r, h', Nat.le_trans c1 a1, Nat.le_trans c2 a2, a3, a4, a5, fun p e s m args below meth c9 H locs ls C n1 n2 n3 hR hS hv => ?_⟩
  have W9 := fun H1 locs1 => v p e s m args below meth c9 H1 locs1 ls C n1 (Nat.le_trans n2 c1) (Nat.le_trans n3 c2)
  obtain ⟨hx, hb, hml, hr, hlk, hnm, hown, htb, hts, hK, hN⟩ := C
  have hts1 : ∀ w ∈ Cond.tt :: jm_W, w.before args s = true := fun w hw => (List.mem_cons.mp hw).elim (fun e => by rw [e]; rfl) (hts w)
  have hcell : h.1 - n0 + (h1.1 - h.1) ≤ (jm_rm Z r h').cells ∧ h.2.1 - s0 + (h1.2.1 - h.2.1) ≤ (jm_rm Z r h').slots := ⟨by show _ ≤ (Z.2.2 r h').1; omega, by show _ ≤ (Z.2.2 r h').2.1; omega⟩
  have hpre : ∀ U : State, U.heap = H → s.WarmedH U.vm → jm_P G (.ref b :: As) h (.ref b :: As).toArray U := fun U hU hW1 => ⟨rfl, by rw [hU]; exact hR, jm_K.moved hW1.alike hK, jm_N.warm hW1 hU hS hN⟩
  have cw := cwV (own := M.1.cls) (index := idx) (C := M2.1.cls) (y := M2.1) (R := jm_rm Z r h') (rm := jm_rmN d (h1.1 - h.1) (h1.2.1 - h.2.1)) n hts1 (jm_good Cond.tt [.methodLink M.1.cls idx M2.1, .instanceMethod M2.1, .selects M2.1.cls M2.1 M2.1, .initialized M2.1.cls] w1 (by simp [hw1, hw2, hw3, w2])) rfl rfl rfl ⟨rfl, w3⟩ (jm_room hf hlo)
  have hrecv : ∃ cellB : Cell, H[b]? = some cellB ∧ cellB.vm.isStatics = false ∧ s.vm.findClass M2.1.cls = some cellB.cls := by
    obtain ⟨g1, r0, g2, cell, q1, q2, q3, -⟩ := hR.2.2.1 b c nn hk
    exact ⟨cell, q1, by rw [q3]; rfl, by rw [q2]; exact (hK.1 c _ hcl).2.1⟩
  refine jm_back (va_runV (g := F0 m pc ls _) (As := As) (rest := rest) ⟨hx, hb, hml, hown, hts1⟩ hM cw ⟨jm_blind, hrecv, hpre⟩ rfl hn hv.1 rfl (by show 2 * 0 + _ ≤ 8; omega) hd hcell) hS fun H1 locs1 hR1 hS1 => ?_
  refine W.cs (cells' := h1.1 - n0) (slots' := h1.2.1 - s0) (by omega) (by omega) ?_
  exact W9 H1 locs1 hR1 hS1 hv
theorem jx_callS {M2 : jm_M} {d n idx : Nat} {As rest : List Value} {v0 : Option Value} {h1 : jm_H} (hw1 : Cond.methodLink M.1.cls idx M2.1 ∈ jm_W) (hw2 : Cond.static M2.1 ∈ jm_W) (hd : decode M.2.1 pc = .ok (.invokestatic idx, 3)) (hC : jm_C l G M2 d As h v0 h1) (hcd : jm_cd M2 n) (hn : As.length = n) (hst : st = As.reverse ++ rest) (hW : (rest.map fun v => v.category).sum ≤ 8)
    (hf : d + 1 ≤ Z.1) (hlo : 19 + M2.2.2.1 + jm_lo d ≤ Z.2.1) (kk : jm_X l G M n0 s0 Z Post (pc + 3) lv (v0.toList ++ rest) h1) : jm_X l G M n0 s0 Z Post pc lv st h := by
  subst hst
  obtain ⟨r, h', a1, a2, a3, a4, a5, v⟩ := kk
  obtain ⟨c1, c2, hM⟩ := hC
  obtain ⟨w1, w2, w3⟩ := hcd
  refine ⟨r, h', Nat.le_trans c1 a1, Nat.le_trans c2 a2, a3, a4, a5, fun p e s m args below meth c9 H locs ls C n1 n2 n3 hR hS hv => ?_⟩
  have W9 := fun H1 locs1 => v p e s m args below meth c9 H1 locs1 ls C n1 (Nat.le_trans n2 c1) (Nat.le_trans n3 c2)
  obtain ⟨hx, hb, hml, hr, hlk, hnm, hown, htb, hts, hK, hN⟩ := C
  have hts1 : ∀ w ∈ Cond.tt :: jm_W, w.before args s = true := fun w hw => (List.mem_cons.mp hw).elim (fun e => by rw [e]; rfl) (hts w)
  have hcell : h.1 - n0 + (h1.1 - h.1) ≤ (jm_rm Z r h').cells ∧ h.2.1 - s0 + (h1.2.1 - h.2.1) ≤ (jm_rm Z r h').slots := ⟨by show _ ≤ (Z.2.2 r h').1; omega, by show _ ≤ (Z.2.2 r h').2.1; omega⟩
  have hpre : ∀ U : State, U.heap = H → s.WarmedH U.vm → jm_P G As h As.toArray U := fun U hU hW1 => ⟨rfl, by rw [hU]; exact hR, jm_K.moved hW1.alike hK, jm_N.warm hW1 hU hS hN⟩
  have cw := va_cwS (own := M.1.cls) (index := idx) (y := M2.1) (R := jm_rm Z r h') (rm := jm_rmN d (h1.1 - h.1) (h1.2.1 - h.2.1)) n hts1 (jm_good Cond.tt [.methodLink M.1.cls idx M2.1, .static M2.1, .initialized M2.1.cls] w1 (by simp [hw1, hw2, w2])) rfl rfl rfl w3 (jm_room hf hlo)
  refine jm_back (va_runS (g := F0 m pc ls _) (As := As) (rest := rest) ⟨hx, hb, hml, hown, hts1⟩ hM cw ⟨jm_blind, hpre⟩ rfl hn hv.1 rfl (by show 2 * 0 + _ ≤ 8; omega) hd hcell) hS fun H1 locs1 hR1 hS1 => ?_
  refine W.cs (cells' := h1.1 - n0) (slots' := h1.2.1 - s0) (by omega) (by omega) ?_
  exact W9 H1 locs1 hR1 hS1 hv
theorem jx_callI {M2 : jm_M} {d n idx : Nat} {b : Nat} {As rest : List Value} {v0 : Option Value} {h1 : jm_H} (hrt : M2.2.2.2.1 = none) (hi0 : M2.1.name = "<init>") (hw1 : Cond.methodLink M.1.cls idx M2.1 ∈ jm_W) (hw2 : Cond.instanceMethod M2.1 ∈ jm_W) (hd : decode M.2.1 pc = .ok (.invokespecial idx, 3)) (hC : jm_C l G M2 d (.ref b :: As) h v0 h1) (hcd : jm_cd M2 n) (hn : As.length = n) (hst : st = As.reverse ++ .ref b :: rest) (hW : (rest.map fun v => v.category).sum ≤ 8)
    (hf : d + 1 ≤ Z.1) (hlo : 19 + M2.2.2.1 + jm_lo d ≤ Z.2.1) (kk : jm_X l G M n0 s0 Z Post (pc + 3) lv (v0.toList ++ rest) h1) : jm_X l G M n0 s0 Z Post pc lv st h := by
  subst hst
  obtain ⟨r, h', a1, a2, a3, a4, a5, v⟩ := kk
  obtain ⟨c1, c2, hM⟩ := hC
  obtain ⟨w1, w2, w3⟩ := hcd
  refine ⟨r, h', Nat.le_trans c1 a1, Nat.le_trans c2 a2, a3, a4, a5, fun p e s m args below meth c9 H locs ls C n1 n2 n3 hR hS hv => ?_⟩
  have W9 := fun H1 locs1 => v p e s m args below meth c9 H1 locs1 ls C n1 (Nat.le_trans n2 c1) (Nat.le_trans n3 c2)
  obtain ⟨hx, hb, hml, hr, hlk, hnm, hown, htb, hts, hK, hN⟩ := C
  have hts1 : ∀ w ∈ Cond.tt :: jm_W, w.before args s = true := fun w hw => (List.mem_cons.mp hw).elim (fun e => by rw [e]; rfl) (hts w)
  have hcell : h.1 - n0 + (h1.1 - h.1) ≤ (jm_rm Z r h').cells ∧ h.2.1 - s0 + (h1.2.1 - h.2.1) ≤ (jm_rm Z r h').slots := ⟨by show _ ≤ (Z.2.2 r h').1; omega, by show _ ≤ (Z.2.2 r h').2.1; omega⟩
  have hpre : ∀ U : State, U.heap = H → s.WarmedH U.vm → jm_P G (.ref b :: As) h (.ref b :: As).toArray U := fun U hU hW1 => ⟨rfl, by rw [hU]; exact hR, jm_K.moved hW1.alike hK, jm_N.warm hW1 hU hS hN⟩
  have cw := cwI (own := M.1.cls) (index := idx) (y := M2.1) (R := jm_rm Z r h') (rm := jm_rmN d (h1.1 - h.1) (h1.2.1 - h.2.1)) n hts1 (jm_good Cond.tt [] w1 (by simp)) (by show _ = Cond.code _ _ _ none :: jm_W; unfold jm_ws; rw [hrt]; rfl) rfl rfl (hts _ w2) (hts _ hw1) (hts _ hw2) hi0 w3 (jm_room hf hlo)
  refine jm_back (va_runI (g := F0 m pc ls _) (As := As) (rest := rest) ⟨hx, hb, hml, hown, hts1⟩ hM cw ⟨jm_blind, hpre⟩ rfl hn hv.1 rfl (by show 2 * 0 + _ ≤ 8; omega) hd hcell) hS fun H1 locs1 hR1 hS1 => ?_
  refine W.cs (cells' := h1.1 - n0) (slots' := h1.2.1 - s0) (by omega) (by omega) ?_
  exact W9 H1 locs1 hR1 hS1 hv
theorem jx_callIN {M2 : jm_M} {d n idx : Nat} {b : Nat} {As rest : List Value} {v0 : Option Value} {h1 : jm_H} (hrt : M2.2.2.2.1 = none) (hi0 : M2.1.name = "<init>") (hw1 : (M.1.cls, idx, M2.1) ∈ jm_NW) (hw2 : Cond.instanceMethod M2.1 ∈ jm_W) (hd : decode M.2.1 pc = .ok (.invokespecial idx, 3)) (hC : jm_C l G M2 d (.ref b :: As) h v0 h1) (hcd : jm_cd M2 n) (hn : As.length = n) (hst : st = As.reverse ++ .ref b :: rest) (hW : (rest.map fun v => v.category).sum ≤ 8)
    (hf : d + 1 ≤ Z.1) (hlo : 19 + M2.2.2.1 + jm_lo d ≤ Z.2.1) (kk : jm_X l G M n0 s0 Z Post (pc + 3) lv (v0.toList ++ rest) h1) : jm_X l G M n0 s0 Z Post pc lv st h := by
  subst hst
  obtain ⟨r, h', a1, a2, a3, a4, a5, v⟩ := kk
  obtain ⟨c1, c2, hM⟩ := hC
  obtain ⟨w1, w2, w3⟩ := hcd
  refine ⟨r, h', Nat.le_trans c1 a1, Nat.le_trans c2 a2, a3, a4, a5, fun p e s m args below meth c9 H locs ls C n1 n2 n3 hR hS hv => ?_⟩
  have W9 := fun H1 locs1 => v p e s m args below meth c9 H1 locs1 ls C n1 (Nat.le_trans n2 c1) (Nat.le_trans n3 c2)
  obtain ⟨hx, hb, hml, hr, hlk, hnm, hown, htb, hts, hK, hN⟩ := C
  have hts1 : ∀ w ∈ Cond.tt :: jm_W, w.before args s = true := fun w hw => (List.mem_cons.mp hw).elim (fun e => by rw [e]; rfl) (hts w)
  have hcell : h.1 - n0 + (h1.1 - h.1) ≤ (jm_rm Z r h').cells ∧ h.2.1 - s0 + (h1.2.1 - h.2.1) ≤ (jm_rm Z r h').slots := ⟨by show _ ≤ (Z.2.2 r h').1; omega, by show _ ≤ (Z.2.2 r h').2.1; omega⟩
  have hpre : ∀ U : State, U.heap = H → s.WarmedH U.vm → jm_P G (.ref b :: As) h (.ref b :: As).toArray U := fun U hU hW1 => ⟨rfl, by rw [hU]; exact hR, jm_K.moved hW1.alike hK, jm_N.warm hW1 hU hS hN⟩
  have cw := va_cnB (own := M.1.cls) (host := "CellWorks") (index := idx) (y := M2.1) (R := jm_rm Z r h') (rm := jm_rmN d (h1.1 - h.1) (h1.2.1 - h.2.1)) n hts1 (jm_good Cond.tt [] w1 (by simp)) (by show _ = Cond.code _ _ _ none :: jm_W; unfold jm_ws; rw [hrt]; rfl) rfl rfl (jm_N.nest hN hw1) (hts _ w2) w3 (jm_room hf hlo)
  have cw := And.intro cw (And.intro hi0 (hts _ hw2))
  refine jm_back (va_runIN (g := F0 m pc ls _) (As := As) (rest := rest) ⟨hx, hb, hml, hown, hts1⟩ hM cw ⟨jm_blind, hpre⟩ rfl hn hv.1 rfl (by show 2 * 0 + _ ≤ 8; omega) hd hcell) hS fun H1 locs1 hR1 hS1 => ?_
  refine W.cs (cells' := h1.1 - n0) (slots' := h1.2.1 - s0) (by omega) (by omega) ?_
  exact W9 H1 locs1 hR1 hS1 hv
end JC
end
