section
-- ===== PART A: goes FIRST, ahead of the names: the tables' words, and 'selects' of the private methods out of them =====
/-- a private method of a class that the tables say can be made, by its rows of tables_1 -/
def lw_okq (q : MethodName × Nat) : Prop := (q.1.cls ≠ "java/lang/invoke/MethodHandle" ∧ q.1.cls ≠ "java/lang/invoke/VarHandle") ∧ Cond.instantiable q.1.cls q.2 ∈ tables_1 ∧ Cond.privateMethod q.1 ∈ tables_1 ∧ Cond.instanceMethod q.1 ∈ tables_1
theorem lw_p0 : lw_okq (⟨"CellWorks$Reader", "pass", "()Z"⟩, 7) := ⟨⟨by decide +kernel, by decide +kernel⟩, List.mem_of_getElem? (i := 28) (by decide +kernel), List.mem_of_getElem? (i := 227) (by decide +kernel), List.mem_of_getElem? (i := 228) (by decide +kernel)⟩
theorem lw_p1 : lw_okq (⟨"CellWorks$Tape", "readWord", "()V"⟩, 7) := ⟨⟨by decide +kernel, by decide +kernel⟩, List.mem_of_getElem? (i := 34) (by decide +kernel), List.mem_of_getElem? (i := 245) (by decide +kernel), List.mem_of_getElem? (i := 246) (by decide +kernel)⟩
theorem lw_p2 : lw_okq (⟨"CellWorks$Tape", "readNumber", "()V"⟩, 7) := ⟨⟨by decide +kernel, by decide +kernel⟩, List.mem_of_getElem? (i := 34) (by decide +kernel), List.mem_of_getElem? (i := 258) (by decide +kernel), List.mem_of_getElem? (i := 259) (by decide +kernel)⟩
theorem lw_p3 : lw_okq (⟨"CellWorks$Reader", "refuse", "(I)Z"⟩, 7) := ⟨⟨by decide +kernel, by decide +kernel⟩, List.mem_of_getElem? (i := 28) (by decide +kernel), List.mem_of_getElem? (i := 265) (by decide +kernel), List.mem_of_getElem? (i := 266) (by decide +kernel)⟩
theorem lw_p4 : lw_okq (⟨"CellWorks$Reader", "expect", "(I)Z"⟩, 7) := ⟨⟨by decide +kernel, by decide +kernel⟩, List.mem_of_getElem? (i := 28) (by decide +kernel), List.mem_of_getElem? (i := 273) (by decide +kernel), List.mem_of_getElem? (i := 274) (by decide +kernel)⟩
theorem lw_p5 : lw_okq (⟨"CellWorks$Reader", "sum", "(I)Z"⟩, 7) := ⟨⟨by decide +kernel, by decide +kernel⟩, List.mem_of_getElem? (i := 28) (by decide +kernel), List.mem_of_getElem? (i := 277) (by decide +kernel), List.mem_of_getElem? (i := 278) (by decide +kernel)⟩
theorem lw_p6 : lw_okq (⟨"CellWorks$Reader", "product", "(I)Z"⟩, 7) := ⟨⟨by decide +kernel, by decide +kernel⟩, List.mem_of_getElem? (i := 28) (by decide +kernel), List.mem_of_getElem? (i := 281) (by decide +kernel), List.mem_of_getElem? (i := 282) (by decide +kernel)⟩
theorem lw_p7 : lw_okq (⟨"CellWorks$Reader", "part", "(I)Z"⟩, 7) := ⟨⟨by decide +kernel, by decide +kernel⟩, List.mem_of_getElem? (i := 28) (by decide +kernel), List.mem_of_getElem? (i := 285) (by decide +kernel), List.mem_of_getElem? (i := 286) (by decide +kernel)⟩
theorem lw_p8 : lw_okq (⟨"CellWorks$Reader", "passNode", "()Z"⟩, 7) := ⟨⟨by decide +kernel, by decide +kernel⟩, List.mem_of_getElem? (i := 28) (by decide +kernel), List.mem_of_getElem? (i := 293) (by decide +kernel), List.mem_of_getElem? (i := 294) (by decide +kernel)⟩
theorem lw_p9 : lw_okq (⟨"CellWorks$Reader", "noteName", "()V"⟩, 7) := ⟨⟨by decide +kernel, by decide +kernel⟩, List.mem_of_getElem? (i := 28) (by decide +kernel), List.mem_of_getElem? (i := 297) (by decide +kernel), List.mem_of_getElem? (i := 298) (by decide +kernel)⟩
theorem lw_p10 : lw_okq (⟨"CellWorks$Reader", "negated", "(I)Z"⟩, 7) := ⟨⟨by decide +kernel, by decide +kernel⟩, List.mem_of_getElem? (i := 28) (by decide +kernel), List.mem_of_getElem? (i := 306) (by decide +kernel), List.mem_of_getElem? (i := 307) (by decide +kernel)⟩
theorem lw_p11 : lw_okq (⟨"CellWorks$Reader", "passOpening", "(I)Z"⟩, 7) := ⟨⟨by decide +kernel, by decide +kernel⟩, List.mem_of_getElem? (i := 28) (by decide +kernel), List.mem_of_getElem? (i := 310) (by decide +kernel), List.mem_of_getElem? (i := 311) (by decide +kernel)⟩
theorem lw_p12 : lw_okq (⟨"CellWorks$Reader", "lesserOrGreater", "(I)Z"⟩, 7) := ⟨⟨by decide +kernel, by decide +kernel⟩, List.mem_of_getElem? (i := 28) (by decide +kernel), List.mem_of_getElem? (i := 314) (by decide +kernel), List.mem_of_getElem? (i := 315) (by decide +kernel)⟩
theorem lw_p13 : lw_okq (⟨"CellWorks$Reader", "choice", "(I)Z"⟩, 7) := ⟨⟨by decide +kernel, by decide +kernel⟩, List.mem_of_getElem? (i := 28) (by decide +kernel), List.mem_of_getElem? (i := 318) (by decide +kernel), List.mem_of_getElem? (i := 319) (by decide +kernel)⟩
theorem lw_p14 : lw_okq (⟨"CellWorks", "settle", "()V"⟩, 3) := ⟨⟨by decide +kernel, by decide +kernel⟩, List.mem_of_getElem? (i := 20) (by decide +kernel), List.mem_of_getElem? (i := 326) (by decide +kernel), List.mem_of_getElem? (i := 327) (by decide +kernel)⟩
theorem lw_p15 : lw_okq (⟨"CellWorks$Cells", "placeFor", "(J)I"⟩, 3) := ⟨⟨by decide +kernel, by decide +kernel⟩, List.mem_of_getElem? (i := 137) (by decide +kernel), List.mem_of_getElem? (i := 338) (by decide +kernel), List.mem_of_getElem? (i := 339) (by decide +kernel)⟩
def lw_privs_1 : List (MethodName × Nat) := [(⟨"CellWorks$Reader", "pass", "()Z"⟩, 7), (⟨"CellWorks$Tape", "readWord", "()V"⟩, 7), (⟨"CellWorks$Tape", "readNumber", "()V"⟩, 7), (⟨"CellWorks$Reader", "refuse", "(I)Z"⟩, 7), (⟨"CellWorks$Reader", "expect", "(I)Z"⟩, 7), (⟨"CellWorks$Reader", "sum", "(I)Z"⟩, 7), (⟨"CellWorks$Reader", "product", "(I)Z"⟩, 7), (⟨"CellWorks$Reader", "part", "(I)Z"⟩, 7), (⟨"CellWorks$Reader", "passNode", "()Z"⟩, 7), (⟨"CellWorks$Reader", "noteName", "()V"⟩, 7), (⟨"CellWorks$Reader", "negated", "(I)Z"⟩, 7), (⟨"CellWorks$Reader", "passOpening", "(I)Z"⟩, 7), (⟨"CellWorks$Reader", "lesserOrGreater", "(I)Z"⟩, 7), (⟨"CellWorks$Reader", "choice", "(I)Z"⟩, 7), (⟨"CellWorks", "settle", "()V"⟩, 3), (⟨"CellWorks$Cells", "placeFor", "(J)I"⟩, 3)]
theorem lw_r1 : ∀ q ∈ lw_privs_1, lw_okq q := List.forall_mem_cons.mpr ⟨lw_p0, List.forall_mem_cons.mpr ⟨lw_p1, List.forall_mem_cons.mpr ⟨lw_p2, List.forall_mem_cons.mpr ⟨lw_p3, List.forall_mem_cons.mpr ⟨lw_p4, List.forall_mem_cons.mpr ⟨lw_p5, List.forall_mem_cons.mpr ⟨lw_p6, List.forall_mem_cons.mpr ⟨lw_p7, List.forall_mem_cons.mpr ⟨lw_p8, List.forall_mem_cons.mpr ⟨lw_p9, List.forall_mem_cons.mpr ⟨lw_p10, List.forall_mem_cons.mpr ⟨lw_p11, List.forall_mem_cons.mpr ⟨lw_p12, List.forall_mem_cons.mpr ⟨lw_p13, List.forall_mem_cons.mpr ⟨lw_p14, List.forall_mem_cons.mpr ⟨lw_p15, fun _ h => absurd h List.not_mem_nil⟩⟩⟩⟩⟩⟩⟩⟩⟩⟩⟩⟩⟩⟩⟩⟩
theorem lw_p16 : lw_okq (⟨"CellWorks$Cells", "trace", "()V"⟩, 3) := ⟨⟨by decide +kernel, by decide +kernel⟩, List.mem_of_getElem? (i := 137) (by decide +kernel), List.mem_of_getElem? (i := 359) (by decide +kernel), List.mem_of_getElem? (i := 360) (by decide +kernel)⟩
theorem lw_p17 : lw_okq (⟨"CellWorks$Builder", "workOut", "(LCellWorks$Cells;LCellWorks$Cell;)V"⟩, 4) := ⟨⟨by decide +kernel, by decide +kernel⟩, List.mem_of_getElem? (i := 159) (by decide +kernel), List.mem_of_getElem? (i := 446) (by decide +kernel), List.mem_of_getElem? (i := 447) (by decide +kernel)⟩
theorem lw_p18 : lw_okq (⟨"CellWorks$Work", "take", "(LCellWorks$Formula;III)I"⟩, 4) := ⟨⟨by decide +kernel, by decide +kernel⟩, List.mem_of_getElem? (i := 165) (by decide +kernel), List.mem_of_getElem? (i := 458) (by decide +kernel), List.mem_of_getElem? (i := 459) (by decide +kernel)⟩
theorem lw_p19 : lw_okq (⟨"CellWorks$Work", "push", "(J)V"⟩, 4) := ⟨⟨by decide +kernel, by decide +kernel⟩, List.mem_of_getElem? (i := 165) (by decide +kernel), List.mem_of_getElem? (i := 462) (by decide +kernel), List.mem_of_getElem? (i := 463) (by decide +kernel)⟩
theorem lw_p20 : lw_okq (⟨"CellWorks$Work", "pushResult", "(LCellWorks$Formula;I)V"⟩, 4) := ⟨⟨by decide +kernel, by decide +kernel⟩, List.mem_of_getElem? (i := 165) (by decide +kernel), List.mem_of_getElem? (i := 466) (by decide +kernel), List.mem_of_getElem? (i := 467) (by decide +kernel)⟩
theorem lw_p21 : lw_okq (⟨"CellWorks$Work", "pop", "()J"⟩, 4) := ⟨⟨by decide +kernel, by decide +kernel⟩, List.mem_of_getElem? (i := 165) (by decide +kernel), List.mem_of_getElem? (i := 470) (by decide +kernel), List.mem_of_getElem? (i := 471) (by decide +kernel)⟩
theorem lw_p22 : lw_okq (⟨"CellWorks$Work", "join", "(IJJ)V"⟩, 4) := ⟨⟨by decide +kernel, by decide +kernel⟩, List.mem_of_getElem? (i := 165) (by decide +kernel), List.mem_of_getElem? (i := 474) (by decide +kernel), List.mem_of_getElem? (i := 475) (by decide +kernel)⟩
theorem lw_p23 : lw_okq (⟨"CellWorks$Work", "divide", "(JJ)V"⟩, 4) := ⟨⟨by decide +kernel, by decide +kernel⟩, List.mem_of_getElem? (i := 165) (by decide +kernel), List.mem_of_getElem? (i := 478) (by decide +kernel), List.mem_of_getElem? (i := 479) (by decide +kernel)⟩
theorem lw_p24 : lw_okq (⟨"CellWorks$Builder", "keepNames", "(LCellWorks$Cells;J)V"⟩, 4) := ⟨⟨by decide +kernel, by decide +kernel⟩, List.mem_of_getElem? (i := 159) (by decide +kernel), List.mem_of_getElem? (i := 488) (by decide +kernel), List.mem_of_getElem? (i := 489) (by decide +kernel)⟩
theorem lw_p25 : lw_okq (⟨"java/lang/Throwable", "fillInStackTrace", "(I)Ljava/lang/Throwable;"⟩, 6) := ⟨⟨by decide +kernel, by decide +kernel⟩, List.mem_of_getElem? (i := 539) (by decide +kernel), List.mem_of_getElem? (i := 537) (by decide +kernel), List.mem_of_getElem? (i := 538) (by decide +kernel)⟩
theorem lw_p26 : lw_okq (⟨"CellWorks", "nameOnTape", "()J"⟩, 3) := ⟨⟨by decide +kernel, by decide +kernel⟩, List.mem_of_getElem? (i := 20) (by decide +kernel), List.mem_of_getElem? (i := 604) (by decide +kernel), List.mem_of_getElem? (i := 605) (by decide +kernel)⟩
theorem lw_p27 : lw_okq (⟨"CellWorksModel", "next", "()V"⟩, 45) := ⟨⟨by decide +kernel, by decide +kernel⟩, List.mem_of_getElem? (i := 714) (by decide +kernel), List.mem_of_getElem? (i := 865) (by decide +kernel), List.mem_of_getElem? (i := 866) (by decide +kernel)⟩
theorem lw_p28 : lw_okq (⟨"CellWorksModel", "at", "(I)I"⟩, 45) := ⟨⟨by decide +kernel, by decide +kernel⟩, List.mem_of_getElem? (i := 714) (by decide +kernel), List.mem_of_getElem? (i := 869) (by decide +kernel), List.mem_of_getElem? (i := 870) (by decide +kernel)⟩
theorem lw_p29 : lw_okq (⟨"CellWorksModel", "function", "()I"⟩, 45) := ⟨⟨by decide +kernel, by decide +kernel⟩, List.mem_of_getElem? (i := 714) (by decide +kernel), List.mem_of_getElem? (i := 884) (by decide +kernel), List.mem_of_getElem? (i := 885) (by decide +kernel)⟩
theorem lw_p30 : lw_okq (⟨"CellWorksModel", "wrong", "()V"⟩, 45) := ⟨⟨by decide +kernel, by decide +kernel⟩, List.mem_of_getElem? (i := 714) (by decide +kernel), List.mem_of_getElem? (i := 891) (by decide +kernel), List.mem_of_getElem? (i := 892) (by decide +kernel)⟩
theorem lw_p31 : lw_okq (⟨"CellWorksModel", "fail", "(II)V"⟩, 45) := ⟨⟨by decide +kernel, by decide +kernel⟩, List.mem_of_getElem? (i := 714) (by decide +kernel), List.mem_of_getElem? (i := 895) (by decide +kernel), List.mem_of_getElem? (i := 896) (by decide +kernel)⟩
def lw_privs_2 : List (MethodName × Nat) := [(⟨"CellWorks$Cells", "trace", "()V"⟩, 3), (⟨"CellWorks$Builder", "workOut", "(LCellWorks$Cells;LCellWorks$Cell;)V"⟩, 4), (⟨"CellWorks$Work", "take", "(LCellWorks$Formula;III)I"⟩, 4), (⟨"CellWorks$Work", "push", "(J)V"⟩, 4), (⟨"CellWorks$Work", "pushResult", "(LCellWorks$Formula;I)V"⟩, 4), (⟨"CellWorks$Work", "pop", "()J"⟩, 4), (⟨"CellWorks$Work", "join", "(IJJ)V"⟩, 4), (⟨"CellWorks$Work", "divide", "(JJ)V"⟩, 4), (⟨"CellWorks$Builder", "keepNames", "(LCellWorks$Cells;J)V"⟩, 4), (⟨"java/lang/Throwable", "fillInStackTrace", "(I)Ljava/lang/Throwable;"⟩, 6), (⟨"CellWorks", "nameOnTape", "()J"⟩, 3), (⟨"CellWorksModel", "next", "()V"⟩, 45), (⟨"CellWorksModel", "at", "(I)I"⟩, 45), (⟨"CellWorksModel", "function", "()I"⟩, 45), (⟨"CellWorksModel", "wrong", "()V"⟩, 45), (⟨"CellWorksModel", "fail", "(II)V"⟩, 45)]
theorem lw_r2 : ∀ q ∈ lw_privs_2, lw_okq q := List.forall_mem_cons.mpr ⟨lw_p16, List.forall_mem_cons.mpr ⟨lw_p17, List.forall_mem_cons.mpr ⟨lw_p18, List.forall_mem_cons.mpr ⟨lw_p19, List.forall_mem_cons.mpr ⟨lw_p20, List.forall_mem_cons.mpr ⟨lw_p21, List.forall_mem_cons.mpr ⟨lw_p22, List.forall_mem_cons.mpr ⟨lw_p23, List.forall_mem_cons.mpr ⟨lw_p24, List.forall_mem_cons.mpr ⟨lw_p25, List.forall_mem_cons.mpr ⟨lw_p26, List.forall_mem_cons.mpr ⟨lw_p27, List.forall_mem_cons.mpr ⟨lw_p28, List.forall_mem_cons.mpr ⟨lw_p29, List.forall_mem_cons.mpr ⟨lw_p30, List.forall_mem_cons.mpr ⟨lw_p31, fun _ h => absurd h List.not_mem_nil⟩⟩⟩⟩⟩⟩⟩⟩⟩⟩⟩⟩⟩⟩⟩⟩
theorem lw_p32 : lw_okq (⟨"CellWorksModel", "formula", "()V"⟩, 45) := ⟨⟨by decide +kernel, by decide +kernel⟩, List.mem_of_getElem? (i := 714) (by decide +kernel), List.mem_of_getElem? (i := 899) (by decide +kernel), List.mem_of_getElem? (i := 900) (by decide +kernel)⟩
theorem lw_p33 : lw_okq (⟨"CellWorksModel", "part", "()Z"⟩, 45) := ⟨⟨by decide +kernel, by decide +kernel⟩, List.mem_of_getElem? (i := 714) (by decide +kernel), List.mem_of_getElem? (i := 903) (by decide +kernel), List.mem_of_getElem? (i := 904) (by decide +kernel)⟩
theorem lw_p34 : lw_okq (⟨"CellWorksModel", "newNode", "(IJ)I"⟩, 45) := ⟨⟨by decide +kernel, by decide +kernel⟩, List.mem_of_getElem? (i := 714) (by decide +kernel), List.mem_of_getElem? (i := 907) (by decide +kernel), List.mem_of_getElem? (i := 908) (by decide +kernel)⟩
theorem lw_p35 : lw_okq (⟨"CellWorksModel", "settle", "(I)V"⟩, 45) := ⟨⟨by decide +kernel, by decide +kernel⟩, List.mem_of_getElem? (i := 714) (by decide +kernel), List.mem_of_getElem? (i := 911) (by decide +kernel), List.mem_of_getElem? (i := 912) (by decide +kernel)⟩
theorem lw_p36 : lw_okq (⟨"CellWorksModel", "isOperator", "(I)Z"⟩, 45) := ⟨⟨by decide +kernel, by decide +kernel⟩, List.mem_of_getElem? (i := 714) (by decide +kernel), List.mem_of_getElem? (i := 915) (by decide +kernel), List.mem_of_getElem? (i := 916) (by decide +kernel)⟩
theorem lw_p37 : lw_okq (⟨"CellWorksModel", "deeper", "()V"⟩, 45) := ⟨⟨by decide +kernel, by decide +kernel⟩, List.mem_of_getElem? (i := 714) (by decide +kernel), List.mem_of_getElem? (i := 922) (by decide +kernel), List.mem_of_getElem? (i := 923) (by decide +kernel)⟩
theorem lw_p38 : lw_okq (⟨"CellWorksModel", "await", "(I)V"⟩, 45) := ⟨⟨by decide +kernel, by decide +kernel⟩, List.mem_of_getElem? (i := 714) (by decide +kernel), List.mem_of_getElem? (i := 926) (by decide +kernel), List.mem_of_getElem? (i := 927) (by decide +kernel)⟩
theorem lw_p39 : lw_okq (⟨"CellWorksModel", "behind", "()Z"⟩, 45) := ⟨⟨by decide +kernel, by decide +kernel⟩, List.mem_of_getElem? (i := 714) (by decide +kernel), List.mem_of_getElem? (i := 930) (by decide +kernel), List.mem_of_getElem? (i := 931) (by decide +kernel)⟩
theorem lw_p40 : lw_okq (⟨"CellWorksModel", "give", "(I)V"⟩, 45) := ⟨⟨by decide +kernel, by decide +kernel⟩, List.mem_of_getElem? (i := 714) (by decide +kernel), List.mem_of_getElem? (i := 937) (by decide +kernel), List.mem_of_getElem? (i := 938) (by decide +kernel)⟩
theorem lw_p41 : lw_okq (⟨"CellWorksModel", "cellOf", "(J)I"⟩, 45) := ⟨⟨by decide +kernel, by decide +kernel⟩, List.mem_of_getElem? (i := 714) (by decide +kernel), List.mem_of_getElem? (i := 941) (by decide +kernel), List.mem_of_getElem? (i := 942) (by decide +kernel)⟩
theorem lw_p42 : lw_okq (⟨"CellWorksModel", "cellCount", "()I"⟩, 45) := ⟨⟨by decide +kernel, by decide +kernel⟩, List.mem_of_getElem? (i := 714) (by decide +kernel), List.mem_of_getElem? (i := 945) (by decide +kernel), List.mem_of_getElem? (i := 946) (by decide +kernel)⟩
theorem lw_p43 : lw_okq (⟨"CellWorksModel", "readersOf", "(J)J"⟩, 45) := ⟨⟨by decide +kernel, by decide +kernel⟩, List.mem_of_getElem? (i := 714) (by decide +kernel), List.mem_of_getElem? (i := 949) (by decide +kernel), List.mem_of_getElem? (i := 950) (by decide +kernel)⟩
theorem lw_p44 : lw_okq (⟨"CellWorksModel", "reads", "(IJ)Z"⟩, 45) := ⟨⟨by decide +kernel, by decide +kernel⟩, List.mem_of_getElem? (i := 714) (by decide +kernel), List.mem_of_getElem? (i := 954) (by decide +kernel), List.mem_of_getElem? (i := 955) (by decide +kernel)⟩
theorem lw_p45 : lw_okq (⟨"CellWorksModel", "isName", "()Z"⟩, 45) := ⟨⟨by decide +kernel, by decide +kernel⟩, List.mem_of_getElem? (i := 714) (by decide +kernel), List.mem_of_getElem? (i := 962) (by decide +kernel), List.mem_of_getElem? (i := 963) (by decide +kernel)⟩
theorem lw_p46 : lw_okq (⟨"CellWorksModel", "below", "(I)J"⟩, 45) := ⟨⟨by decide +kernel, by decide +kernel⟩, List.mem_of_getElem? (i := 714) (by decide +kernel), List.mem_of_getElem? (i := 970) (by decide +kernel), List.mem_of_getElem? (i := 971) (by decide +kernel)⟩
theorem lw_p47 : lw_okq (⟨"CellWorksModel", "buildSet", "(J)I"⟩, 45) := ⟨⟨by decide +kernel, by decide +kernel⟩, List.mem_of_getElem? (i := 714) (by decide +kernel), List.mem_of_getElem? (i := 974) (by decide +kernel), List.mem_of_getElem? (i := 975) (by decide +kernel)⟩
def lw_privs_3 : List (MethodName × Nat) := [(⟨"CellWorksModel", "formula", "()V"⟩, 45), (⟨"CellWorksModel", "part", "()Z"⟩, 45), (⟨"CellWorksModel", "newNode", "(IJ)I"⟩, 45), (⟨"CellWorksModel", "settle", "(I)V"⟩, 45), (⟨"CellWorksModel", "isOperator", "(I)Z"⟩, 45), (⟨"CellWorksModel", "deeper", "()V"⟩, 45), (⟨"CellWorksModel", "await", "(I)V"⟩, 45), (⟨"CellWorksModel", "behind", "()Z"⟩, 45), (⟨"CellWorksModel", "give", "(I)V"⟩, 45), (⟨"CellWorksModel", "cellOf", "(J)I"⟩, 45), (⟨"CellWorksModel", "cellCount", "()I"⟩, 45), (⟨"CellWorksModel", "readersOf", "(J)J"⟩, 45), (⟨"CellWorksModel", "reads", "(IJ)Z"⟩, 45), (⟨"CellWorksModel", "isName", "()Z"⟩, 45), (⟨"CellWorksModel", "below", "(I)J"⟩, 45), (⟨"CellWorksModel", "buildSet", "(J)I"⟩, 45)]
theorem lw_r3 : ∀ q ∈ lw_privs_3, lw_okq q := List.forall_mem_cons.mpr ⟨lw_p32, List.forall_mem_cons.mpr ⟨lw_p33, List.forall_mem_cons.mpr ⟨lw_p34, List.forall_mem_cons.mpr ⟨lw_p35, List.forall_mem_cons.mpr ⟨lw_p36, List.forall_mem_cons.mpr ⟨lw_p37, List.forall_mem_cons.mpr ⟨lw_p38, List.forall_mem_cons.mpr ⟨lw_p39, List.forall_mem_cons.mpr ⟨lw_p40, List.forall_mem_cons.mpr ⟨lw_p41, List.forall_mem_cons.mpr ⟨lw_p42, List.forall_mem_cons.mpr ⟨lw_p43, List.forall_mem_cons.mpr ⟨lw_p44, List.forall_mem_cons.mpr ⟨lw_p45, List.forall_mem_cons.mpr ⟨lw_p46, List.forall_mem_cons.mpr ⟨lw_p47, fun _ h => absurd h List.not_mem_nil⟩⟩⟩⟩⟩⟩⟩⟩⟩⟩⟩⟩⟩⟩⟩⟩
theorem lw_p48 : lw_okq (⟨"CellWorksModel", "isReady", "(IJ)Z"⟩, 45) := ⟨⟨by decide +kernel, by decide +kernel⟩, List.mem_of_getElem? (i := 714) (by decide +kernel), List.mem_of_getElem? (i := 978) (by decide +kernel), List.mem_of_getElem? (i := 979) (by decide +kernel)⟩
theorem lw_p49 : lw_okq (⟨"CellWorksModel", "isStale", "(I)Z"⟩, 45) := ⟨⟨by decide +kernel, by decide +kernel⟩, List.mem_of_getElem? (i := 714) (by decide +kernel), List.mem_of_getElem? (i := 982) (by decide +kernel), List.mem_of_getElem? (i := 983) (by decide +kernel)⟩
theorem lw_p50 : lw_okq (⟨"CellWorksModel", "resultOf", "(J)I"⟩, 45) := ⟨⟨by decide +kernel, by decide +kernel⟩, List.mem_of_getElem? (i := 714) (by decide +kernel), List.mem_of_getElem? (i := 986) (by decide +kernel), List.mem_of_getElem? (i := 987) (by decide +kernel)⟩
theorem lw_p51 : lw_okq (⟨"CellWorksModel", "valueOf", "(J)J"⟩, 45) := ⟨⟨by decide +kernel, by decide +kernel⟩, List.mem_of_getElem? (i := 714) (by decide +kernel), List.mem_of_getElem? (i := 990) (by decide +kernel), List.mem_of_getElem? (i := 991) (by decide +kernel)⟩
theorem lw_p52 : lw_okq (⟨"CellWorksModel", "workOut", "(I)V"⟩, 45) := ⟨⟨by decide +kernel, by decide +kernel⟩, List.mem_of_getElem? (i := 714) (by decide +kernel), List.mem_of_getElem? (i := 994) (by decide +kernel), List.mem_of_getElem? (i := 995) (by decide +kernel)⟩
theorem lw_p53 : lw_okq (⟨"CellWorksModel", "work", "(I)J"⟩, 45) := ⟨⟨by decide +kernel, by decide +kernel⟩, List.mem_of_getElem? (i := 714) (by decide +kernel), List.mem_of_getElem? (i := 998) (by decide +kernel), List.mem_of_getElem? (i := 999) (by decide +kernel)⟩
theorem lw_p54 : lw_okq (⟨"CellWorksModel", "push", "(I)V"⟩, 45) := ⟨⟨by decide +kernel, by decide +kernel⟩, List.mem_of_getElem? (i := 714) (by decide +kernel), List.mem_of_getElem? (i := 1002) (by decide +kernel), List.mem_of_getElem? (i := 1003) (by decide +kernel)⟩
theorem lw_p55 : lw_okq (⟨"CellWorksModel", "leaf", "(I)V"⟩, 45) := ⟨⟨by decide +kernel, by decide +kernel⟩, List.mem_of_getElem? (i := 714) (by decide +kernel), List.mem_of_getElem? (i := 1006) (by decide +kernel), List.mem_of_getElem? (i := 1007) (by decide +kernel)⟩
theorem lw_p56 : lw_okq (⟨"CellWorksModel", "both", "(IJJ)J"⟩, 45) := ⟨⟨by decide +kernel, by decide +kernel⟩, List.mem_of_getElem? (i := 714) (by decide +kernel), List.mem_of_getElem? (i := 1010) (by decide +kernel), List.mem_of_getElem? (i := 1011) (by decide +kernel)⟩
def lw_privs_4 : List (MethodName × Nat) := [(⟨"CellWorksModel", "isReady", "(IJ)Z"⟩, 45), (⟨"CellWorksModel", "isStale", "(I)Z"⟩, 45), (⟨"CellWorksModel", "resultOf", "(J)I"⟩, 45), (⟨"CellWorksModel", "valueOf", "(J)J"⟩, 45), (⟨"CellWorksModel", "workOut", "(I)V"⟩, 45), (⟨"CellWorksModel", "work", "(I)J"⟩, 45), (⟨"CellWorksModel", "push", "(I)V"⟩, 45), (⟨"CellWorksModel", "leaf", "(I)V"⟩, 45), (⟨"CellWorksModel", "both", "(IJJ)J"⟩, 45)]
theorem lw_r4 : ∀ q ∈ lw_privs_4, lw_okq q := List.forall_mem_cons.mpr ⟨lw_p48, List.forall_mem_cons.mpr ⟨lw_p49, List.forall_mem_cons.mpr ⟨lw_p50, List.forall_mem_cons.mpr ⟨lw_p51, List.forall_mem_cons.mpr ⟨lw_p52, List.forall_mem_cons.mpr ⟨lw_p53, List.forall_mem_cons.mpr ⟨lw_p54, List.forall_mem_cons.mpr ⟨lw_p55, List.forall_mem_cons.mpr ⟨lw_p56, fun _ h => absurd h List.not_mem_nil⟩⟩⟩⟩⟩⟩⟩⟩⟩
def lw_privs : List (MethodName × Nat) := lw_privs_1 ++ (lw_privs_2 ++ (lw_privs_3 ++ (lw_privs_4)))
def lw_tbl : List Cond := k2_sels lw_privs ++ tables_1
theorem lw_privs_ok : ∀ q ∈ lw_privs, lw_okq q := by
  show ∀ q ∈ lw_privs_1 ++ (lw_privs_2 ++ (lw_privs_3 ++ (lw_privs_4))), lw_okq q
  exact List.forall_mem_append.mpr ⟨lw_r1, List.forall_mem_append.mpr ⟨lw_r2, List.forall_mem_append.mpr ⟨lw_r3, lw_r4⟩⟩⟩
end
section
/-! classes: names, fields in an order of ours (declarer, name, descriptor, final), their types -/
def jT_CW : u_T := fun k => match k with
  | 0 => ("CellWorks", "reader", "LCellWorks$Reader;", true)
  | 1 => ("CellWorks", "cells", "LCellWorks$Cells;", true)
  | _ => ("CellWorks", "builder", "LCellWorks$Builder;", true)
def jt_CW : Nat → FieldType := fun k => match k with
  | 0 => .object "CellWorks$Reader"
  | 1 => .object "CellWorks$Cells"
  | _ => .object "CellWorks$Builder"
theorem jn_CW : ∀ a, a < 3 → ∀ b, b < 3 → a ≠ b → (jT_CW a).2.1 ≠ (jT_CW b).2.1 := by decide +kernel
theorem jt_CW_ok : ∀ k, k < 3 → parseFieldDescriptor (jT_CW k).2.2.1 = some (jt_CW k) := by decide +kernel
def jT_Rd : u_T := fun k => match k with
  | 0 => ("CellWorks$Reader", "tape", "LCellWorks$Tape;", true)
  | 1 => ("CellWorks$Reader", "formula", "LCellWorks$Formula;", false)
  | 2 => ("CellWorks$Reader", "name", "J", false)
  | 3 => ("CellWorks$Reader", "faultCode", "I", false)
  | 4 => ("CellWorks$Reader", "faultPlace", "I", false)
  | 5 => ("CellWorks$Reader", "nodes", "I", false)
  | _ => ("CellWorks$Reader", "places", "[I", true)
def jt_Rd : Nat → FieldType := fun k => match k with
  | 0 => .object "CellWorks$Tape"
  | 1 => .object "CellWorks$Formula"
  | 2 => .long
  | 3 => .int
  | 4 => .int
  | 5 => .int
  | _ => .array (.int)
theorem jn_Rd : ∀ a, a < 7 → ∀ b, b < 7 → a ≠ b → (jT_Rd a).2.1 ≠ (jT_Rd b).2.1 := by decide +kernel
theorem jt_Rd_ok : ∀ k, k < 7 → parseFieldDescriptor (jT_Rd k).2.2.1 = some (jt_Rd k) := by decide +kernel
def jT_Tp : u_T := fun k => match k with
  | 0 => ("CellWorks$Tape", "bytes", "[B", true)
  | 1 => ("CellWorks$Tape", "length", "I", false)
  | 2 => ("CellWorks$Tape", "next", "I", false)
  | 3 => ("CellWorks$Tape", "kind", "I", false)
  | 4 => ("CellWorks$Tape", "start", "I", false)
  | 5 => ("CellWorks$Tape", "name", "J", false)
  | _ => ("CellWorks$Tape", "number", "I", false)
def jt_Tp : Nat → FieldType := fun k => match k with
  | 0 => .array (.byte)
  | 1 => .int
  | 2 => .int
  | 3 => .int
  | 4 => .int
  | 5 => .long
  | _ => .int
theorem jn_Tp : ∀ a, a < 7 → ∀ b, b < 7 → a ≠ b → (jT_Tp a).2.1 ≠ (jT_Tp b).2.1 := by decide +kernel
theorem jt_Tp_ok : ∀ k, k < 7 → parseFieldDescriptor (jT_Tp k).2.2.1 = some (jt_Tp k) := by decide +kernel
def jT_Fm : u_T := fun k => match k with
  | 0 => ("CellWorks$Formula", "steps", "[I", true)
  | 1 => ("CellWorks$Formula", "details", "[I", true)
  | 2 => ("CellWorks$Formula", "length", "I", false)
  | 3 => ("CellWorks$Formula", "names", "[J", true)
  | 4 => ("CellWorks$Formula", "seenKinds", "[I", true)
  | 5 => ("CellWorks$Formula", "seenValues", "[J", true)
  | _ => ("CellWorks$Formula", "nameCount", "I", false)
def jt_Fm : Nat → FieldType := fun k => match k with
  | 0 => .array (.int)
  | 1 => .array (.int)
  | 2 => .int
  | 3 => .array (.long)
  | 4 => .array (.int)
  | 5 => .array (.long)
  | _ => .int
theorem jn_Fm : ∀ a, a < 7 → ∀ b, b < 7 → a ≠ b → (jT_Fm a).2.1 ≠ (jT_Fm b).2.1 := by decide +kernel
theorem jt_Fm_ok : ∀ k, k < 7 → parseFieldDescriptor (jT_Fm k).2.2.1 = some (jt_Fm k) := by decide +kernel
def jT_Cs : u_T := fun k => match k with
  | 0 => ("CellWorks$Cells", "rows", "[LCellWorks$Cell;", true)
  | 1 => ("CellWorks$Cells", "size", "I", false)
  | _ => ("CellWorks$Cells", "reads", "[J", true)
def jt_Cs : Nat → FieldType := fun k => match k with
  | 0 => .array (.object "CellWorks$Cell")
  | 1 => .int
  | _ => .array (.long)
theorem jn_Cs : ∀ a, a < 3 → ∀ b, b < 3 → a ≠ b → (jT_Cs a).2.1 ≠ (jT_Cs b).2.1 := by decide +kernel
theorem jt_Cs_ok : ∀ k, k < 3 → parseFieldDescriptor (jT_Cs k).2.2.1 = some (jt_Cs k) := by decide +kernel
def jT_Cl : u_T := fun k => match k with
  | 0 => ("CellWorks$Cell", "name", "J", true)
  | 1 => ("CellWorks$Cell", "formula", "LCellWorks$Formula;", false)
  | 2 => ("CellWorks$Cell", "workedOut", "Z", false)
  | 3 => ("CellWorks$Cell", "kind", "I", false)
  | _ => ("CellWorks$Cell", "value", "J", false)
def jt_Cl : Nat → FieldType := fun k => match k with
  | 0 => .long
  | 1 => .object "CellWorks$Formula"
  | 2 => .boolean
  | 3 => .int
  | _ => .long
theorem jn_Cl : ∀ a, a < 5 → ∀ b, b < 5 → a ≠ b → (jT_Cl a).2.1 ≠ (jT_Cl b).2.1 := by decide +kernel
theorem jt_Cl_ok : ∀ k, k < 5 → parseFieldDescriptor (jT_Cl k).2.2.1 = some (jt_Cl k) := by decide +kernel
def jT_Bd : u_T := fun k => match k with
  | 0 => ("CellWorks$Builder", "work", "LCellWorks$Work;", true)
  | 1 => ("CellWorks$Builder", "latest", "[J", true)
  | 2 => ("CellWorks$Builder", "latestSize", "I", false)
  | _ => ("CellWorks$Builder", "total", "I", false)
def jt_Bd : Nat → FieldType := fun k => match k with
  | 0 => .object "CellWorks$Work"
  | 1 => .array (.long)
  | 2 => .int
  | _ => .int
theorem jn_Bd : ∀ a, a < 4 → ∀ b, b < 4 → a ≠ b → (jT_Bd a).2.1 ≠ (jT_Bd b).2.1 := by decide +kernel
theorem jt_Bd_ok : ∀ k, k < 4 → parseFieldDescriptor (jT_Bd k).2.2.1 = some (jt_Bd k) := by decide +kernel
def jT_Wk : u_T := fun k => match k with
  | 0 => ("CellWorks$Work", "stack", "[J", true)
  | 1 => ("CellWorks$Work", "height", "I", false)
  | 2 => ("CellWorks$Work", "kind", "I", false)
  | _ => ("CellWorks$Work", "value", "J", false)
def jt_Wk : Nat → FieldType := fun k => match k with
  | 0 => .array (.long)
  | 1 => .int
  | 2 => .int
  | _ => .long
theorem jn_Wk : ∀ a, a < 4 → ∀ b, b < 4 → a ≠ b → (jT_Wk a).2.1 ≠ (jT_Wk b).2.1 := by decide +kernel
theorem jt_Wk_ok : ∀ k, k < 4 → parseFieldDescriptor (jT_Wk k).2.2.1 = some (jt_Wk k) := by decide +kernel
def jT_Md : u_T := fun k => match k with
  | 0 => ("CellWorksModel", "thrown", "I", false)
  | 1 => ("CellWorksModel", "tape", "[I", true)
  | 2 => ("CellWorksModel", "tapeSize", "I", false)
  | 3 => ("CellWorksModel", "faultCode", "I", false)
  | 4 => ("CellWorksModel", "faultPlace", "I", false)
  | 5 => ("CellWorksModel", "there", "[Z", true)
  | 6 => ("CellWorksModel", "names", "[J", true)
  | 7 => ("CellWorksModel", "results", "[I", true)
  | 8 => ("CellWorksModel", "values", "[J", true)
  | 9 => ("CellWorksModel", "worked", "[Z", true)
  | 10 => ("CellWorksModel", "roots", "[I", true)
  | 11 => ("CellWorksModel", "nodeCounts", "[I", true)
  | 12 => ("CellWorksModel", "kinds", "[I", true)
  | 13 => ("CellWorksModel", "ones", "[I", true)
  | 14 => ("CellWorksModel", "twos", "[I", true)
  | 15 => ("CellWorksModel", "threes", "[I", true)
  | 16 => ("CellWorksModel", "amounts", "[J", true)
  | 17 => ("CellWorksModel", "seenResults", "[I", true)
  | 18 => ("CellWorksModel", "seenValues", "[J", true)
  | 19 => ("CellWorksModel", "workedInAll", "I", false)
  | 20 => ("CellWorksModel", "built", "[J", true)
  | 21 => ("CellWorksModel", "builtCount", "I", false)
  | 22 => ("CellWorksModel", "place", "I", false)
  | 23 => ("CellWorksModel", "tokenFrom", "I", false)
  | 24 => ("CellWorksModel", "token", "I", false)
  | 25 => ("CellWorksModel", "tokenAmount", "J", false)
  | 26 => ("CellWorksModel", "newKinds", "[I", true)
  | 27 => ("CellWorksModel", "newOnes", "[I", true)
  | 28 => ("CellWorksModel", "newTwos", "[I", true)
  | 29 => ("CellWorksModel", "newThrees", "[I", true)
  | 30 => ("CellWorksModel", "newAmounts", "[J", true)
  | 31 => ("CellWorksModel", "newPlaces", "[I", true)
  | 32 => ("CellWorksModel", "newCount", "I", false)
  | 33 => ("CellWorksModel", "waiting", "[I", true)
  | 34 => ("CellWorksModel", "given", "[I", true)
  | 35 => ("CellWorksModel", "waitingCount", "I", false)
  | 36 => ("CellWorksModel", "parts", "[I", true)
  | 37 => ("CellWorksModel", "partCount", "I", false)
  | 38 => ("CellWorksModel", "depth", "I", false)
  | 39 => ("CellWorksModel", "error", "I", false)
  | 40 => ("CellWorksModel", "pile", "[I", true)
  | 41 => ("CellWorksModel", "phases", "[I", true)
  | 42 => ("CellWorksModel", "kept", "[J", true)
  | 43 => ("CellWorksModel", "high", "I", false)
  | _ => ("CellWorksModel", "answer", "J", false)
def jt_Md : Nat → FieldType := fun k => match k with
  | 0 => .int
  | 1 => .array (.int)
  | 2 => .int
  | 3 => .int
  | 4 => .int
  | 5 => .array (.boolean)
  | 6 => .array (.long)
  | 7 => .array (.int)
  | 8 => .array (.long)
  | 9 => .array (.boolean)
  | 10 => .array (.int)
  | 11 => .array (.int)
  | 12 => .array (.int)
  | 13 => .array (.int)
  | 14 => .array (.int)
  | 15 => .array (.int)
  | 16 => .array (.long)
  | 17 => .array (.int)
  | 18 => .array (.long)
  | 19 => .int
  | 20 => .array (.long)
  | 21 => .int
  | 22 => .int
  | 23 => .int
  | 24 => .int
  | 25 => .long
  | 26 => .array (.int)
  | 27 => .array (.int)
  | 28 => .array (.int)
  | 29 => .array (.int)
  | 30 => .array (.long)
  | 31 => .array (.int)
  | 32 => .int
  | 33 => .array (.int)
  | 34 => .array (.int)
  | 35 => .int
  | 36 => .array (.int)
  | 37 => .int
  | 38 => .int
  | 39 => .int
  | 40 => .array (.int)
  | 41 => .array (.int)
  | 42 => .array (.long)
  | 43 => .int
  | _ => .long
theorem jn_Md : ∀ a, a < 45 → ∀ b, b < 45 → a ≠ b → (jT_Md a).2.1 ≠ (jT_Md b).2.1 := by decide +kernel
theorem jt_Md_ok : ∀ k, k < 45 → parseFieldDescriptor (jT_Md k).2.2.1 = some (jt_Md k) := by decide +kernel
abbrev jm_cl : List vw_C := [("CellWorks", jT_CW, 3), ("CellWorks$Reader", jT_Rd, 7), ("CellWorks$Tape", jT_Tp, 7), ("CellWorks$Formula", jT_Fm, 7), ("CellWorks$Cells", jT_Cs, 3), ("CellWorks$Cell", jT_Cl, 5), ("CellWorks$Builder", jT_Bd, 4), ("CellWorks$Work", jT_Wk, 4), ("CellWorksModel", jT_Md, 45)]
def jm_nt : Nat := 5
def jm_ty : Nat → FieldType := fun t => match t with
  | 0 => .byte
  | 1 => .int
  | 2 => .long
  | 3 => .boolean
  | _ => .object "CellWorks$Cell"
/-! the words that may be used anywhere, and the words of private constructors across the nest -/
def jm_W : List Cond := lw_tbl.filter goodWord
theorem jm_W_tbl : ∀ w ∈ jm_W, w ∈ lw_tbl := fun w h => (List.mem_filter.mp h).1
theorem jm_W_good : ∀ w ∈ jm_W, (w.onTables && w.keeps) = true ∨ ∃ ty, w = .arrayClass ty := fun w h => good_of_word (List.mem_filter.mp h).2
theorem jm_w0 {w : Cond} (h : w ∈ k2_sels lw_privs) (g : goodWord w = true) : w ∈ jm_W := List.mem_filter.mpr ⟨List.mem_append_left _ h, g⟩
theorem jm_in1 {w : Cond} (i : Nat) (h : tables_1_1[i]? = some w) : w ∈ lw_tbl := List.mem_append_right _ (List.mem_append_left _ (List.mem_of_getElem? h))
theorem jm_in2 {w : Cond} (i : Nat) (h : tables_1_2[i]? = some w) : w ∈ lw_tbl := List.mem_append_right _ (List.mem_append_right _ (List.mem_append_left _ (List.mem_of_getElem? h)))
theorem jm_in3 {w : Cond} (i : Nat) (h : tables_1_3[i]? = some w) : w ∈ lw_tbl := List.mem_append_right _ (List.mem_append_right _ (List.mem_append_right _ (List.mem_append_left _ (List.mem_of_getElem? h))))
theorem jm_in4 {w : Cond} (i : Nat) (h : tables_1_4[i]? = some w) : w ∈ lw_tbl := List.mem_append_right _ (List.mem_append_right _ (List.mem_append_right _ (List.mem_append_right _ (List.mem_append_left _ (List.mem_of_getElem? h)))))
theorem jm_in5 {w : Cond} (i : Nat) (h : tables_1_5[i]? = some w) : w ∈ lw_tbl := List.mem_append_right _ (List.mem_append_right _ (List.mem_append_right _ (List.mem_append_right _ (List.mem_append_right _ (List.mem_of_getElem? h)))))
theorem jm_ok {w : Cond} (h : w ∈ lw_tbl) (g : goodWord w = true) : w ∈ jm_W := List.mem_filter.mpr ⟨h, g⟩
theorem wn_Lw : (Cond.initialized "CellWorksLaw") ∈ jm_W := jm_ok (jm_in1 0 rfl) rfl
theorem wn_CW : (Cond.initialized "CellWorks") ∈ jm_W := jm_ok (jm_in1 1 rfl) rfl
theorem wn_Rd : (Cond.initialized "CellWorks$Reader") ∈ jm_W := jm_ok (jm_in1 2 rfl) rfl
theorem wn_Tp : (Cond.initialized "CellWorks$Tape") ∈ jm_W := jm_ok (jm_in1 3 rfl) rfl
theorem wn_Fm : (Cond.initialized "CellWorks$Formula") ∈ jm_W := jm_ok (jm_in1 4 rfl) rfl
theorem wn_Cs : (Cond.initialized "CellWorks$Cells") ∈ jm_W := jm_ok (jm_in1 5 rfl) rfl
theorem wn_Bd : (Cond.initialized "CellWorks$Builder") ∈ jm_W := jm_ok (jm_in1 6 rfl) rfl
theorem wn_Wk : (Cond.initialized "CellWorks$Work") ∈ jm_W := jm_ok (jm_in1 7 rfl) rfl
theorem wn_Md : (Cond.initialized "CellWorksModel") ∈ jm_W := jm_ok (jm_in1 8 rfl) rfl
theorem wn_Cl : (Cond.initialized "CellWorks$Cell") ∈ jm_W := jm_ok (jm_in1 14 rfl) rfl
theorem wn_Ma : (Cond.initialized "java/lang/Math") ∈ jm_W := jm_ok (jm_in1 16 rfl) rfl
theorem wn_Lo : (Cond.initialized "java/lang/Long") ∈ jm_W := jm_ok (jm_in1 17 rfl) rfl
theorem lk_Lw_8 : (Cond.classLink "CellWorksLaw" 8 "CellWorks") ∈ jm_W := jm_ok (jm_in1 19 rfl) rfl
theorem wk_CW : (Cond.instantiable "CellWorks" 3) ∈ jm_W := jm_ok (jm_in1 20 rfl) rfl
theorem lk_Lw_52 : (Cond.methodLink "CellWorksLaw" 52 ⟨"CellWorks", "<init>", "()V"⟩) ∈ jm_W := jm_ok (jm_in1 21 rfl) rfl
theorem wi_CW_init : (Cond.instanceMethod ⟨"CellWorks", "<init>", "()V"⟩) ∈ jm_W := jm_ok (jm_in1 22 rfl) rfl
theorem wc_CW_init : (Cond.code ⟨"CellWorks", "<init>", "()V"⟩ prog_1_method_1_code 1 none) ∈ jm_W := jm_ok (jm_in1 23 rfl) rfl
theorem lk_CW_3 : (Cond.methodLink "CellWorks" 3 ⟨"java/lang/Object", "<init>", "()V"⟩) ∈ jm_W := jm_ok (jm_in1 24 rfl) rfl
theorem wi_Ob_init : (Cond.instanceMethod ⟨"java/lang/Object", "<init>", "()V"⟩) ∈ jm_W := jm_ok (jm_in1 25 rfl) rfl
theorem wc_Ob_init : (Cond.code ⟨"java/lang/Object", "<init>", "()V"⟩ object_method_1_code 1 none) ∈ jm_W := jm_ok (jm_in1 26 rfl) rfl
theorem lk_CW_9 : (Cond.classLink "CellWorks" 9 "CellWorks$Reader") ∈ jm_W := jm_ok (jm_in1 27 rfl) rfl
theorem wk_Rd : (Cond.instantiable "CellWorks$Reader" 7) ∈ jm_W := jm_ok (jm_in1 28 rfl) rfl
theorem lk_CW_11 : (Cond.methodLinkNest "CellWorks" 11 ⟨"CellWorks$Reader", "<init>", "()V"⟩ "CellWorks") ∈ lw_tbl := jm_in1 29 rfl
theorem wi_Rd_init : (Cond.instanceMethod ⟨"CellWorks$Reader", "<init>", "()V"⟩) ∈ jm_W := jm_ok (jm_in1 30 rfl) rfl
theorem wc_Rd_init : (Cond.code ⟨"CellWorks$Reader", "<init>", "()V"⟩ prog_6_method_1_code 1 none) ∈ jm_W := jm_ok (jm_in1 31 rfl) rfl
theorem lk_Rd_3 : (Cond.methodLink "CellWorks$Reader" 3 ⟨"java/lang/Object", "<init>", "()V"⟩) ∈ jm_W := jm_ok (jm_in1 32 rfl) rfl
theorem lk_Rd_9 : (Cond.classLink "CellWorks$Reader" 9 "CellWorks$Tape") ∈ jm_W := jm_ok (jm_in1 33 rfl) rfl
theorem wk_Tp : (Cond.instantiable "CellWorks$Tape" 7) ∈ jm_W := jm_ok (jm_in1 34 rfl) rfl
theorem lk_Rd_11 : (Cond.methodLinkNest "CellWorks$Reader" 11 ⟨"CellWorks$Tape", "<init>", "()V"⟩ "CellWorks") ∈ lw_tbl := jm_in1 35 rfl
theorem wi_Tp_init : (Cond.instanceMethod ⟨"CellWorks$Tape", "<init>", "()V"⟩) ∈ jm_W := jm_ok (jm_in1 36 rfl) rfl
theorem wc_Tp_init : (Cond.code ⟨"CellWorks$Tape", "<init>", "()V"⟩ prog_7_method_1_code 1 none) ∈ jm_W := jm_ok (jm_in1 37 rfl) rfl
theorem lk_Tp_3 : (Cond.methodLink "CellWorks$Tape" 3 ⟨"java/lang/Object", "<init>", "()V"⟩) ∈ jm_W := jm_ok (jm_in1 38 rfl) rfl
theorem lk_Tp_9 : (Cond.fieldLink "CellWorks$Tape" 9 "CellWorks$Tape" "bytes" "[B") ∈ jm_W := jm_ok (jm_in1 39 rfl) rfl
theorem lk_Tp_15 : (Cond.fieldLink "CellWorks$Tape" 15 "CellWorks$Tape" "length" "I") ∈ jm_W := jm_ok (jm_in1 40 rfl) rfl
theorem lk_CW_34 : (Cond.fieldLink "CellWorks" 34 "CellWorks$Tape" "length" "I") ∈ jm_W := jm_ok (jm_in1 41 rfl) rfl
theorem lk_Tp_19 : (Cond.fieldLink "CellWorks$Tape" 19 "CellWorks$Tape" "next" "I") ∈ jm_W := jm_ok (jm_in1 42 rfl) rfl
theorem lk_Tp_22 : (Cond.fieldLink "CellWorks$Tape" 22 "CellWorks$Tape" "kind" "I") ∈ jm_W := jm_ok (jm_in1 43 rfl) rfl
theorem lk_Rd_61 : (Cond.fieldLink "CellWorks$Reader" 61 "CellWorks$Tape" "kind" "I") ∈ jm_W := jm_ok (jm_in1 44 rfl) rfl
theorem lk_Tp_25 : (Cond.fieldLink "CellWorks$Tape" 25 "CellWorks$Tape" "start" "I") ∈ jm_W := jm_ok (jm_in1 45 rfl) rfl
theorem lk_Rd_67 : (Cond.fieldLink "CellWorks$Reader" 67 "CellWorks$Tape" "start" "I") ∈ jm_W := jm_ok (jm_in1 46 rfl) rfl
theorem lk_Tp_28 : (Cond.fieldLink "CellWorks$Tape" 28 "CellWorks$Tape" "name" "J") ∈ jm_W := jm_ok (jm_in1 47 rfl) rfl
theorem lk_Rd_53 : (Cond.fieldLink "CellWorks$Reader" 53 "CellWorks$Tape" "name" "J") ∈ jm_W := jm_ok (jm_in1 48 rfl) rfl
theorem lk_Tp_32 : (Cond.fieldLink "CellWorks$Tape" 32 "CellWorks$Tape" "number" "I") ∈ jm_W := jm_ok (jm_in1 49 rfl) rfl
theorem lk_Rd_89 : (Cond.fieldLink "CellWorks$Reader" 89 "CellWorks$Tape" "number" "I") ∈ jm_W := jm_ok (jm_in1 50 rfl) rfl
theorem wl_Tp_bytes : (Cond.laysFinal "CellWorks$Tape" "CellWorks$Tape" "bytes" "[B") ∈ jm_W := jm_ok (jm_in1 51 rfl) rfl
theorem wl_Tp_length : (Cond.lays "CellWorks$Tape" "CellWorks$Tape" "length" "I") ∈ jm_W := jm_ok (jm_in1 53 rfl) rfl
theorem wl_Tp_next : (Cond.lays "CellWorks$Tape" "CellWorks$Tape" "next" "I") ∈ jm_W := jm_ok (jm_in1 55 rfl) rfl
theorem wl_Tp_kind : (Cond.lays "CellWorks$Tape" "CellWorks$Tape" "kind" "I") ∈ jm_W := jm_ok (jm_in1 57 rfl) rfl
theorem wl_Tp_start : (Cond.lays "CellWorks$Tape" "CellWorks$Tape" "start" "I") ∈ jm_W := jm_ok (jm_in1 59 rfl) rfl
theorem wl_Tp_name : (Cond.lays "CellWorks$Tape" "CellWorks$Tape" "name" "J") ∈ jm_W := jm_ok (jm_in1 61 rfl) rfl
theorem wl_Tp_number : (Cond.lays "CellWorks$Tape" "CellWorks$Tape" "number" "I") ∈ jm_W := jm_ok (jm_in1 63 rfl) rfl
theorem wa_byte : (Cond.arrayClass FieldType.byte) ∈ jm_W := jm_ok (jm_in1 66 rfl) rfl
theorem lk_Rd_18 : (Cond.classLink "CellWorks$Reader" 18 "CellWorks$Formula") ∈ jm_W := jm_ok (jm_in1 67 rfl) rfl
theorem wk_Fm : (Cond.instantiable "CellWorks$Formula" 7) ∈ jm_W := jm_ok (jm_in1 68 rfl) rfl
theorem lk_Rd_20 : (Cond.methodLinkNest "CellWorks$Reader" 20 ⟨"CellWorks$Formula", "<init>", "()V"⟩ "CellWorks") ∈ lw_tbl := jm_in1 69 rfl
theorem wi_Fm_init : (Cond.instanceMethod ⟨"CellWorks$Formula", "<init>", "()V"⟩) ∈ jm_W := jm_ok (jm_in1 70 rfl) rfl
theorem wc_Fm_init : (Cond.code ⟨"CellWorks$Formula", "<init>", "()V"⟩ prog_5_method_1_code 1 none) ∈ jm_W := jm_ok (jm_in1 71 rfl) rfl
theorem lk_Fm_3 : (Cond.methodLink "CellWorks$Formula" 3 ⟨"java/lang/Object", "<init>", "()V"⟩) ∈ jm_W := jm_ok (jm_in1 72 rfl) rfl
theorem lk_Fm_9 : (Cond.fieldLink "CellWorks$Formula" 9 "CellWorks$Formula" "steps" "[I") ∈ jm_W := jm_ok (jm_in1 73 rfl) rfl
theorem lk_Wk_31 : (Cond.fieldLink "CellWorks$Work" 31 "CellWorks$Formula" "steps" "[I") ∈ jm_W := jm_ok (jm_in1 74 rfl) rfl
theorem lk_Fm_15 : (Cond.fieldLink "CellWorks$Formula" 15 "CellWorks$Formula" "details" "[I") ∈ jm_W := jm_ok (jm_in1 75 rfl) rfl
theorem lk_Wk_35 : (Cond.fieldLink "CellWorks$Work" 35 "CellWorks$Formula" "details" "[I") ∈ jm_W := jm_ok (jm_in1 76 rfl) rfl
theorem lk_Fm_18 : (Cond.fieldLink "CellWorks$Formula" 18 "CellWorks$Formula" "length" "I") ∈ jm_W := jm_ok (jm_in1 77 rfl) rfl
theorem lk_Wk_26 : (Cond.fieldLink "CellWorks$Work" 26 "CellWorks$Formula" "length" "I") ∈ jm_W := jm_ok (jm_in1 78 rfl) rfl
theorem lk_Rd_114 : (Cond.fieldLink "CellWorks$Reader" 114 "CellWorks$Formula" "length" "I") ∈ jm_W := jm_ok (jm_in1 79 rfl) rfl
theorem lk_Fm_22 : (Cond.fieldLink "CellWorks$Formula" 22 "CellWorks$Formula" "names" "[J") ∈ jm_W := jm_ok (jm_in1 80 rfl) rfl
theorem lk_Cs_55 : (Cond.fieldLink "CellWorks$Cells" 55 "CellWorks$Formula" "names" "[J") ∈ jm_W := jm_ok (jm_in1 81 rfl) rfl
theorem lk_Fm_26 : (Cond.fieldLink "CellWorks$Formula" 26 "CellWorks$Formula" "seenKinds" "[I") ∈ jm_W := jm_ok (jm_in1 82 rfl) rfl
theorem lk_Wk_61 : (Cond.fieldLink "CellWorks$Work" 61 "CellWorks$Formula" "seenKinds" "[I") ∈ jm_W := jm_ok (jm_in1 83 rfl) rfl
theorem lk_Cs_62 : (Cond.fieldLink "CellWorks$Cells" 62 "CellWorks$Formula" "seenKinds" "[I") ∈ jm_W := jm_ok (jm_in1 84 rfl) rfl
theorem lk_Fm_29 : (Cond.fieldLink "CellWorks$Formula" 29 "CellWorks$Formula" "seenValues" "[J") ∈ jm_W := jm_ok (jm_in1 85 rfl) rfl
theorem lk_Wk_64 : (Cond.fieldLink "CellWorks$Work" 64 "CellWorks$Formula" "seenValues" "[J") ∈ jm_W := jm_ok (jm_in1 86 rfl) rfl
theorem lk_Cs_70 : (Cond.fieldLink "CellWorks$Cells" 70 "CellWorks$Formula" "seenValues" "[J") ∈ jm_W := jm_ok (jm_in1 87 rfl) rfl
theorem lk_Fm_32 : (Cond.fieldLink "CellWorks$Formula" 32 "CellWorks$Formula" "nameCount" "I") ∈ jm_W := jm_ok (jm_in1 88 rfl) rfl
theorem lk_Wk_58 : (Cond.fieldLink "CellWorks$Work" 58 "CellWorks$Formula" "nameCount" "I") ∈ jm_W := jm_ok (jm_in1 89 rfl) rfl
theorem lk_Cs_50 : (Cond.fieldLink "CellWorks$Cells" 50 "CellWorks$Formula" "nameCount" "I") ∈ jm_W := jm_ok (jm_in1 90 rfl) rfl
theorem lk_Rd_107 : (Cond.fieldLink "CellWorks$Reader" 107 "CellWorks$Formula" "nameCount" "I") ∈ jm_W := jm_ok (jm_in1 91 rfl) rfl
theorem wl_Fm_steps : (Cond.laysFinal "CellWorks$Formula" "CellWorks$Formula" "steps" "[I") ∈ jm_W := jm_ok (jm_in1 92 rfl) rfl
theorem wl_Fm_details : (Cond.laysFinal "CellWorks$Formula" "CellWorks$Formula" "details" "[I") ∈ jm_W := jm_ok (jm_in1 94 rfl) rfl
theorem wl_Fm_length : (Cond.lays "CellWorks$Formula" "CellWorks$Formula" "length" "I") ∈ jm_W := jm_ok (jm_in1 96 rfl) rfl
theorem wl_Fm_names : (Cond.laysFinal "CellWorks$Formula" "CellWorks$Formula" "names" "[J") ∈ jm_W := jm_ok (jm_in1 98 rfl) rfl
theorem wl_Fm_seenKinds : (Cond.laysFinal "CellWorks$Formula" "CellWorks$Formula" "seenKinds" "[I") ∈ jm_W := jm_ok (jm_in1 100 rfl) rfl
theorem wl_Fm_seenValues : (Cond.laysFinal "CellWorks$Formula" "CellWorks$Formula" "seenValues" "[J") ∈ jm_W := jm_ok (jm_in1 102 rfl) rfl
theorem wl_Fm_nameCount : (Cond.lays "CellWorks$Formula" "CellWorks$Formula" "nameCount" "I") ∈ jm_W := jm_ok (jm_in1 104 rfl) rfl
theorem wa_int : (Cond.arrayClass FieldType.int) ∈ jm_W := jm_ok (jm_in1 107 rfl) rfl
theorem wa_long : (Cond.arrayClass FieldType.long) ∈ jm_W := jm_ok (jm_in1 108 rfl) rfl
theorem lk_Rd_12 : (Cond.fieldLink "CellWorks$Reader" 12 "CellWorks$Reader" "tape" "LCellWorks$Tape;") ∈ jm_W := jm_ok (jm_in1 109 rfl) rfl
theorem lk_CW_30 : (Cond.fieldLink "CellWorks" 30 "CellWorks$Reader" "tape" "LCellWorks$Tape;") ∈ jm_W := jm_ok (jm_in1 110 rfl) rfl
theorem lk_Rd_21 : (Cond.fieldLink "CellWorks$Reader" 21 "CellWorks$Reader" "formula" "LCellWorks$Formula;") ∈ jm_W := jm_ok (jm_in1 111 rfl) rfl
theorem lk_CW_157 : (Cond.fieldLink "CellWorks" 157 "CellWorks$Reader" "formula" "LCellWorks$Formula;") ∈ jm_W := jm_ok (jm_in1 112 rfl) rfl
theorem lk_Rd_25 : (Cond.fieldLink "CellWorks$Reader" 25 "CellWorks$Reader" "name" "J") ∈ jm_W := jm_ok (jm_in1 113 rfl) rfl
theorem lk_CW_149 : (Cond.fieldLink "CellWorks" 149 "CellWorks$Reader" "name" "J") ∈ jm_W := jm_ok (jm_in1 114 rfl) rfl
theorem lk_Rd_29 : (Cond.fieldLink "CellWorks$Reader" 29 "CellWorks$Reader" "faultCode" "I") ∈ jm_W := jm_ok (jm_in1 115 rfl) rfl
theorem lk_CW_63 : (Cond.fieldLink "CellWorks" 63 "CellWorks$Reader" "faultCode" "I") ∈ jm_W := jm_ok (jm_in1 116 rfl) rfl
theorem lk_Rd_33 : (Cond.fieldLink "CellWorks$Reader" 33 "CellWorks$Reader" "faultPlace" "I") ∈ jm_W := jm_ok (jm_in1 117 rfl) rfl
theorem lk_CW_66 : (Cond.fieldLink "CellWorks" 66 "CellWorks$Reader" "faultPlace" "I") ∈ jm_W := jm_ok (jm_in1 118 rfl) rfl
theorem lk_Rd_36 : (Cond.fieldLink "CellWorks$Reader" 36 "CellWorks$Reader" "nodes" "I") ∈ jm_W := jm_ok (jm_in1 119 rfl) rfl
theorem lk_Rd_39 : (Cond.fieldLink "CellWorks$Reader" 39 "CellWorks$Reader" "places" "[I") ∈ jm_W := jm_ok (jm_in1 120 rfl) rfl
theorem wl_Rd_tape : (Cond.laysFinal "CellWorks$Reader" "CellWorks$Reader" "tape" "LCellWorks$Tape;") ∈ jm_W := jm_ok (jm_in1 121 rfl) rfl
theorem wl_Rd_formula : (Cond.lays "CellWorks$Reader" "CellWorks$Reader" "formula" "LCellWorks$Formula;") ∈ jm_W := jm_ok (jm_in1 123 rfl) rfl
theorem wl_Rd_name : (Cond.lays "CellWorks$Reader" "CellWorks$Reader" "name" "J") ∈ jm_W := jm_ok (jm_in1 125 rfl) rfl
theorem wl_Rd_faultCode : (Cond.lays "CellWorks$Reader" "CellWorks$Reader" "faultCode" "I") ∈ jm_W := jm_ok (jm_in1 127 rfl) rfl
theorem wl_Rd_faultPlace : (Cond.lays "CellWorks$Reader" "CellWorks$Reader" "faultPlace" "I") ∈ jm_W := jm_ok (jm_in1 129 rfl) rfl
theorem wl_Rd_nodes : (Cond.lays "CellWorks$Reader" "CellWorks$Reader" "nodes" "I") ∈ jm_W := jm_ok (jm_in1 131 rfl) rfl
theorem wl_Rd_places : (Cond.laysFinal "CellWorks$Reader" "CellWorks$Reader" "places" "[I") ∈ jm_W := jm_ok (jm_in1 133 rfl) rfl
theorem lk_CW_16 : (Cond.classLink "CellWorks" 16 "CellWorks$Cells") ∈ jm_W := jm_ok (jm_in1 136 rfl) rfl
theorem wk_Cs : (Cond.instantiable "CellWorks$Cells" 3) ∈ jm_W := jm_ok (jm_in1 137 rfl) rfl
theorem lk_CW_18 : (Cond.methodLinkNest "CellWorks" 18 ⟨"CellWorks$Cells", "<init>", "()V"⟩ "CellWorks") ∈ lw_tbl := jm_in1 138 rfl
theorem wi_Cs_init : (Cond.instanceMethod ⟨"CellWorks$Cells", "<init>", "()V"⟩) ∈ jm_W := jm_ok (jm_in1 139 rfl) rfl
theorem wc_Cs_init : (Cond.code ⟨"CellWorks$Cells", "<init>", "()V"⟩ prog_4_method_1_code 1 none) ∈ jm_W := jm_ok (jm_in1 140 rfl) rfl
theorem lk_Cs_3 : (Cond.methodLink "CellWorks$Cells" 3 ⟨"java/lang/Object", "<init>", "()V"⟩) ∈ jm_W := jm_ok (jm_in1 141 rfl) rfl
theorem lk_Cs_9 : (Cond.classLink "CellWorks$Cells" 9 "CellWorks$Cell") ∈ jm_W := jm_ok (jm_in1 142 rfl) rfl
theorem wa_over : (Cond.arrayOver (FieldType.object "CellWorks$Cell")) ∈ lw_tbl := jm_in1 143 rfl
theorem lk_Cs_11 : (Cond.fieldLink "CellWorks$Cells" 11 "CellWorks$Cells" "rows" "[LCellWorks$Cell;") ∈ jm_W := jm_ok (jm_in1 144 rfl) rfl
theorem lk_Bd_43 : (Cond.fieldLink "CellWorks$Builder" 43 "CellWorks$Cells" "rows" "[LCellWorks$Cell;") ∈ jm_W := jm_ok (jm_in1 145 rfl) rfl
theorem lk_Cs_17 : (Cond.fieldLink "CellWorks$Cells" 17 "CellWorks$Cells" "size" "I") ∈ jm_W := jm_ok (jm_in1 146 rfl) rfl
theorem lk_Bd_35 : (Cond.fieldLink "CellWorks$Builder" 35 "CellWorks$Cells" "size" "I") ∈ jm_W := jm_ok (jm_in1 147 rfl) rfl
theorem lk_CW_126 : (Cond.fieldLink "CellWorks" 126 "CellWorks$Cells" "size" "I") ∈ jm_W := jm_ok (jm_in1 148 rfl) rfl
theorem lk_Cs_21 : (Cond.fieldLink "CellWorks$Cells" 21 "CellWorks$Cells" "reads" "[J") ∈ jm_W := jm_ok (jm_in1 149 rfl) rfl
theorem lk_Bd_40 : (Cond.fieldLink "CellWorks$Builder" 40 "CellWorks$Cells" "reads" "[J") ∈ jm_W := jm_ok (jm_in1 150 rfl) rfl
theorem wl_Cs_rows : (Cond.laysFinal "CellWorks$Cells" "CellWorks$Cells" "rows" "[LCellWorks$Cell;") ∈ jm_W := jm_ok (jm_in1 151 rfl) rfl
theorem wl_Cs_size : (Cond.lays "CellWorks$Cells" "CellWorks$Cells" "size" "I") ∈ jm_W := jm_ok (jm_in1 153 rfl) rfl
theorem wl_Cs_reads : (Cond.laysFinal "CellWorks$Cells" "CellWorks$Cells" "reads" "[J") ∈ jm_W := jm_ok (jm_in1 155 rfl) rfl
theorem lk_CW_23 : (Cond.classLink "CellWorks" 23 "CellWorks$Builder") ∈ jm_W := jm_ok (jm_in1 158 rfl) rfl
theorem wk_Bd : (Cond.instantiable "CellWorks$Builder" 4) ∈ jm_W := jm_ok (jm_in1 159 rfl) rfl
theorem lk_CW_25 : (Cond.methodLinkNest "CellWorks" 25 ⟨"CellWorks$Builder", "<init>", "()V"⟩ "CellWorks") ∈ lw_tbl := jm_in1 160 rfl
theorem wi_Bd_init : (Cond.instanceMethod ⟨"CellWorks$Builder", "<init>", "()V"⟩) ∈ jm_W := jm_ok (jm_in1 161 rfl) rfl
theorem wc_Bd_init : (Cond.code ⟨"CellWorks$Builder", "<init>", "()V"⟩ prog_2_method_1_code 1 none) ∈ jm_W := jm_ok (jm_in1 162 rfl) rfl
theorem lk_Bd_3 : (Cond.methodLink "CellWorks$Builder" 3 ⟨"java/lang/Object", "<init>", "()V"⟩) ∈ jm_W := jm_ok (jm_in1 163 rfl) rfl
theorem lk_Bd_9 : (Cond.classLink "CellWorks$Builder" 9 "CellWorks$Work") ∈ jm_W := jm_ok (jm_in1 164 rfl) rfl
theorem wk_Wk : (Cond.instantiable "CellWorks$Work" 4) ∈ jm_W := jm_ok (jm_in1 165 rfl) rfl
theorem lk_Bd_11 : (Cond.methodLinkNest "CellWorks$Builder" 11 ⟨"CellWorks$Work", "<init>", "()V"⟩ "CellWorks") ∈ lw_tbl := jm_in1 166 rfl
theorem wi_Wk_init : (Cond.instanceMethod ⟨"CellWorks$Work", "<init>", "()V"⟩) ∈ jm_W := jm_ok (jm_in1 167 rfl) rfl
theorem wc_Wk_init : (Cond.code ⟨"CellWorks$Work", "<init>", "()V"⟩ prog_8_method_1_code 1 none) ∈ jm_W := jm_ok (jm_in1 168 rfl) rfl
theorem lk_Wk_3 : (Cond.methodLink "CellWorks$Work" 3 ⟨"java/lang/Object", "<init>", "()V"⟩) ∈ jm_W := jm_ok (jm_in1 169 rfl) rfl
theorem lk_Wk_9 : (Cond.fieldLink "CellWorks$Work" 9 "CellWorks$Work" "stack" "[J") ∈ jm_W := jm_ok (jm_in1 170 rfl) rfl
theorem lk_Wk_15 : (Cond.fieldLink "CellWorks$Work" 15 "CellWorks$Work" "height" "I") ∈ jm_W := jm_ok (jm_in1 171 rfl) rfl
theorem lk_Wk_19 : (Cond.fieldLink "CellWorks$Work" 19 "CellWorks$Work" "kind" "I") ∈ jm_W := jm_ok (jm_in1 172 rfl) rfl
theorem lk_Bd_72 : (Cond.fieldLink "CellWorks$Builder" 72 "CellWorks$Work" "kind" "I") ∈ jm_W := jm_ok (jm_in1 173 rfl) rfl
theorem lk_Wk_22 : (Cond.fieldLink "CellWorks$Work" 22 "CellWorks$Work" "value" "J") ∈ jm_W := jm_ok (jm_in1 174 rfl) rfl
theorem lk_Bd_76 : (Cond.fieldLink "CellWorks$Builder" 76 "CellWorks$Work" "value" "J") ∈ jm_W := jm_ok (jm_in1 175 rfl) rfl
theorem wl_Wk_stack : (Cond.laysFinal "CellWorks$Work" "CellWorks$Work" "stack" "[J") ∈ jm_W := jm_ok (jm_in1 176 rfl) rfl
theorem wl_Wk_height : (Cond.lays "CellWorks$Work" "CellWorks$Work" "height" "I") ∈ jm_W := jm_ok (jm_in1 178 rfl) rfl
theorem wl_Wk_kind : (Cond.lays "CellWorks$Work" "CellWorks$Work" "kind" "I") ∈ jm_W := jm_ok (jm_in1 180 rfl) rfl
theorem wl_Wk_value : (Cond.lays "CellWorks$Work" "CellWorks$Work" "value" "J") ∈ jm_W := jm_ok (jm_in1 182 rfl) rfl
theorem lk_Bd_12 : (Cond.fieldLink "CellWorks$Builder" 12 "CellWorks$Builder" "work" "LCellWorks$Work;") ∈ jm_W := jm_ok (jm_in1 185 rfl) rfl
theorem lk_Bd_18 : (Cond.fieldLink "CellWorks$Builder" 18 "CellWorks$Builder" "latest" "[J") ∈ jm_W := jm_ok (jm_in1 186 rfl) rfl
theorem lk_Bd_22 : (Cond.fieldLink "CellWorks$Builder" 22 "CellWorks$Builder" "latestSize" "I") ∈ jm_W := jm_ok (jm_in1 187 rfl) rfl
theorem lk_CW_136 : (Cond.fieldLink "CellWorks" 136 "CellWorks$Builder" "latestSize" "I") ∈ jm_W := jm_ok (jm_in1 188 rfl) rfl
theorem lk_Bd_26 : (Cond.fieldLink "CellWorks$Builder" 26 "CellWorks$Builder" "total" "I") ∈ jm_W := jm_ok (jm_in1 189 rfl) rfl
theorem lk_CW_133 : (Cond.fieldLink "CellWorks" 133 "CellWorks$Builder" "total" "I") ∈ jm_W := jm_ok (jm_in1 190 rfl) rfl
theorem wl_Bd_work : (Cond.laysFinal "CellWorks$Builder" "CellWorks$Builder" "work" "LCellWorks$Work;") ∈ jm_W := jm_ok (jm_in1 191 rfl) rfl
theorem wl_Bd_latest : (Cond.laysFinal "CellWorks$Builder" "CellWorks$Builder" "latest" "[J") ∈ jm_W := jm_ok (jm_in1 193 rfl) rfl
theorem wl_Bd_latestSize : (Cond.lays "CellWorks$Builder" "CellWorks$Builder" "latestSize" "I") ∈ jm_W := jm_ok (jm_in1 195 rfl) rfl
theorem wl_Bd_total : (Cond.lays "CellWorks$Builder" "CellWorks$Builder" "total" "I") ∈ jm_W := jm_ok (jm_in1 197 rfl) rfl
theorem lk_CW_12 : (Cond.fieldLink "CellWorks" 12 "CellWorks" "reader" "LCellWorks$Reader;") ∈ jm_W := jm_ok (jm_in1 200 rfl) rfl
theorem lk_CW_19 : (Cond.fieldLink "CellWorks" 19 "CellWorks" "cells" "LCellWorks$Cells;") ∈ jm_W := jm_ok (jm_in1 201 rfl) rfl
theorem lk_CW_26 : (Cond.fieldLink "CellWorks" 26 "CellWorks" "builder" "LCellWorks$Builder;") ∈ jm_W := jm_ok (jm_in1 202 rfl) rfl
theorem wl_CW_reader : (Cond.laysFinal "CellWorks" "CellWorks" "reader" "LCellWorks$Reader;") ∈ jm_W := jm_ok (jm_in1 203 rfl) rfl
theorem wl_CW_cells : (Cond.laysFinal "CellWorks" "CellWorks" "cells" "LCellWorks$Cells;") ∈ jm_W := jm_ok (jm_in1 205 rfl) rfl
theorem wl_CW_builder : (Cond.laysFinal "CellWorks" "CellWorks" "builder" "LCellWorks$Builder;") ∈ jm_W := jm_ok (jm_in1 207 rfl) rfl
theorem lk_Lw_69 : (Cond.methodLink "CellWorksLaw" 69 ⟨"CellWorks", "define", "()I"⟩) ∈ jm_W := jm_ok (jm_in1 210 rfl) rfl
theorem wi_CW_define : (Cond.instanceMethod ⟨"CellWorks", "define", "()I"⟩) ∈ jm_W := jm_ok (jm_in1 211 rfl) rfl
theorem ws_CW_define : (Cond.selects "CellWorks" ⟨"CellWorks", "define", "()I"⟩ ⟨"CellWorks", "define", "()I"⟩) ∈ jm_W := jm_ok (jm_in1 212 rfl) rfl
theorem wc_CW_define : (Cond.code ⟨"CellWorks", "define", "()I"⟩ prog_1_method_4_code 1 (some FieldType.int)) ∈ jm_W := jm_ok (jm_in1 213 rfl) rfl
theorem lk_CW_56 : (Cond.methodLink "CellWorks" 56 ⟨"CellWorks$Reader", "readDefinition", "()Z"⟩) ∈ jm_W := jm_ok (jm_in1 214 rfl) rfl
theorem wi_Rd_readDefinition : (Cond.instanceMethod ⟨"CellWorks$Reader", "readDefinition", "()Z"⟩) ∈ jm_W := jm_ok (jm_in1 215 rfl) rfl
theorem ws_Rd_readDefinition : (Cond.selects "CellWorks$Reader" ⟨"CellWorks$Reader", "readDefinition", "()Z"⟩ ⟨"CellWorks$Reader", "readDefinition", "()Z"⟩) ∈ jm_W := jm_ok (jm_in1 216 rfl) rfl
theorem wc_Rd_readDefinition : (Cond.code ⟨"CellWorks$Reader", "readDefinition", "()Z"⟩ prog_6_method_2_code 1 (some FieldType.boolean)) ∈ jm_W := jm_ok (jm_in1 217 rfl) rfl
theorem lk_Rd_43 : (Cond.methodLink "CellWorks$Reader" 43 ⟨"CellWorks$Formula", "clear", "()V"⟩) ∈ jm_W := jm_ok (jm_in1 218 rfl) rfl
theorem wi_Fm_clear : (Cond.instanceMethod ⟨"CellWorks$Formula", "clear", "()V"⟩) ∈ jm_W := jm_ok (jm_in1 219 rfl) rfl
theorem ws_Fm_clear : (Cond.selects "CellWorks$Formula" ⟨"CellWorks$Formula", "clear", "()V"⟩ ⟨"CellWorks$Formula", "clear", "()V"⟩) ∈ jm_W := jm_ok (jm_in1 220 rfl) rfl
theorem wc_Fm_clear : (Cond.code ⟨"CellWorks$Formula", "clear", "()V"⟩ prog_5_method_2_code 1 none) ∈ jm_W := jm_ok (jm_in1 221 rfl) rfl
theorem lk_Rd_46 : (Cond.methodLink "CellWorks$Reader" 46 ⟨"CellWorks$Tape", "rewind", "()V"⟩) ∈ jm_W := jm_ok (jm_in1 222 rfl) rfl
theorem wi_Tp_rewind : (Cond.instanceMethod ⟨"CellWorks$Tape", "rewind", "()V"⟩) ∈ jm_W := jm_ok (jm_in1 223 rfl) rfl
theorem ws_Tp_rewind : (Cond.selects "CellWorks$Tape" ⟨"CellWorks$Tape", "rewind", "()V"⟩ ⟨"CellWorks$Tape", "rewind", "()V"⟩) ∈ jm_W := jm_ok (jm_in1 224 rfl) rfl
theorem wc_Tp_rewind : (Cond.code ⟨"CellWorks$Tape", "rewind", "()V"⟩ prog_7_method_4_code 1 none) ∈ jm_W := jm_ok (jm_in1 225 rfl) rfl
theorem lk_Rd_49 : (Cond.methodLink "CellWorks$Reader" 49 ⟨"CellWorks$Reader", "pass", "()Z"⟩) ∈ jm_W := jm_ok (jm_in1 226 rfl) rfl
theorem wi_Rd_pass : (Cond.instanceMethod ⟨"CellWorks$Reader", "pass", "()Z"⟩) ∈ jm_W := jm_ok (jm_in1 228 rfl) rfl
theorem wc_Rd_pass : (Cond.code ⟨"CellWorks$Reader", "pass", "()Z"⟩ prog_6_method_7_code 1 (some FieldType.boolean)) ∈ jm_W := jm_ok (jm_in1 229 rfl) rfl
theorem lk_Rd_74 : (Cond.methodLink "CellWorks$Reader" 74 ⟨"CellWorks$Tape", "readToken", "()V"⟩) ∈ jm_W := jm_ok (jm_in1 230 rfl) rfl
theorem wi_Tp_readToken : (Cond.instanceMethod ⟨"CellWorks$Tape", "readToken", "()V"⟩) ∈ jm_W := jm_ok (jm_in1 231 rfl) rfl
theorem ws_Tp_readToken : (Cond.selects "CellWorks$Tape" ⟨"CellWorks$Tape", "readToken", "()V"⟩ ⟨"CellWorks$Tape", "readToken", "()V"⟩) ∈ jm_W := jm_ok (jm_in1 232 rfl) rfl
theorem wc_Tp_readToken : (Cond.code ⟨"CellWorks$Tape", "readToken", "()V"⟩ prog_7_method_6_code 2 none) ∈ jm_W := jm_ok (jm_in1 233 rfl) rfl
theorem lk_Tp_41 : (Cond.methodLink "CellWorks$Tape" 41 ⟨"CellWorks$Tape", "byteAt", "(I)I"⟩) ∈ jm_W := jm_ok (jm_in1 234 rfl) rfl
theorem wi_Tp_byteAt : (Cond.instanceMethod ⟨"CellWorks$Tape", "byteAt", "(I)I"⟩) ∈ jm_W := jm_ok (jm_in1 235 rfl) rfl
theorem ws_Tp_byteAt : (Cond.selects "CellWorks$Tape" ⟨"CellWorks$Tape", "byteAt", "(I)I"⟩ ⟨"CellWorks$Tape", "byteAt", "(I)I"⟩) ∈ jm_W := jm_ok (jm_in1 236 rfl) rfl
theorem wc_Tp_byteAt : (Cond.code ⟨"CellWorks$Tape", "byteAt", "(I)I"⟩ prog_7_method_3_code 2 (some FieldType.int)) ∈ jm_W := jm_ok (jm_in1 237 rfl) rfl
theorem lk_Tp_45 : (Cond.methodLink "CellWorks$Tape" 45 ⟨"CellWorks$Tape", "isBlank", "(I)Z"⟩) ∈ jm_W := jm_ok (jm_in1 238 rfl) rfl
theorem wt_Tp_isBlank : (Cond.static ⟨"CellWorks$Tape", "isBlank", "(I)Z"⟩) ∈ jm_W := jm_ok (jm_in1 239 rfl) rfl
theorem wc_Tp_isBlank : (Cond.code ⟨"CellWorks$Tape", "isBlank", "(I)Z"⟩ prog_7_method_10_code 1 (some FieldType.boolean)) ∈ jm_W := jm_ok (jm_in2 0 rfl) rfl
theorem lk_Tp_49 : (Cond.methodLink "CellWorks$Tape" 49 ⟨"CellWorks$Tape", "isLetter", "(I)Z"⟩) ∈ jm_W := jm_ok (jm_in2 1 rfl) rfl
theorem wt_Tp_isLetter : (Cond.static ⟨"CellWorks$Tape", "isLetter", "(I)Z"⟩) ∈ jm_W := jm_ok (jm_in2 2 rfl) rfl
theorem wc_Tp_isLetter : (Cond.code ⟨"CellWorks$Tape", "isLetter", "(I)Z"⟩ prog_7_method_11_code 1 (some FieldType.boolean)) ∈ jm_W := jm_ok (jm_in2 3 rfl) rfl
theorem lk_Tp_52 : (Cond.methodLink "CellWorks$Tape" 52 ⟨"CellWorks$Tape", "readWord", "()V"⟩) ∈ jm_W := jm_ok (jm_in2 4 rfl) rfl
theorem wi_Tp_readWord : (Cond.instanceMethod ⟨"CellWorks$Tape", "readWord", "()V"⟩) ∈ jm_W := jm_ok (jm_in2 6 rfl) rfl
theorem wc_Tp_readWord : (Cond.code ⟨"CellWorks$Tape", "readWord", "()V"⟩ prog_7_method_7_code 2 none) ∈ jm_W := jm_ok (jm_in2 7 rfl) rfl
theorem lk_Tp_55 : (Cond.methodLink "CellWorks$Tape" 55 ⟨"CellWorks$Tape", "isDigit", "(I)Z"⟩) ∈ jm_W := jm_ok (jm_in2 8 rfl) rfl
theorem wt_Tp_isDigit : (Cond.static ⟨"CellWorks$Tape", "isDigit", "(I)Z"⟩) ∈ jm_W := jm_ok (jm_in2 9 rfl) rfl
theorem wc_Tp_isDigit : (Cond.code ⟨"CellWorks$Tape", "isDigit", "(I)Z"⟩ prog_7_method_12_code 1 (some FieldType.boolean)) ∈ jm_W := jm_ok (jm_in2 10 rfl) rfl
theorem lk_Tp_64 : (Cond.methodLink "CellWorks$Tape" 64 ⟨"CellWorks$Tape", "kindOfWord", "(J)I"⟩) ∈ jm_W := jm_ok (jm_in2 11 rfl) rfl
theorem wt_Tp_kindOfWord : (Cond.static ⟨"CellWorks$Tape", "kindOfWord", "(J)I"⟩) ∈ jm_W := jm_ok (jm_in2 12 rfl) rfl
theorem wc_Tp_kindOfWord : (Cond.code ⟨"CellWorks$Tape", "kindOfWord", "(J)I"⟩ prog_7_method_9_code 2 (some FieldType.int)) ∈ jm_W := jm_ok (jm_in2 13 rfl) rfl
theorem lk_Tp_68 : (Cond.constantLong "CellWorks$Tape" 68 (7883953568967819264 : Int64)) ∈ jm_W := jm_ok (jm_in2 14 rfl) rfl
theorem lk_Tp_70 : (Cond.constantLong "CellWorks$Tape" 70 (7881712764270411776 : Int64)) ∈ jm_W := jm_ok (jm_in2 15 rfl) rfl
theorem lk_Tp_72 : (Cond.constantLong "CellWorks$Tape" 72 (7594757821606920192 : Int64)) ∈ jm_W := jm_ok (jm_in2 16 rfl) rfl
theorem lk_Tp_58 : (Cond.methodLink "CellWorks$Tape" 58 ⟨"CellWorks$Tape", "readNumber", "()V"⟩) ∈ jm_W := jm_ok (jm_in2 17 rfl) rfl
theorem wi_Tp_readNumber : (Cond.instanceMethod ⟨"CellWorks$Tape", "readNumber", "()V"⟩) ∈ jm_W := jm_ok (jm_in2 19 rfl) rfl
theorem wc_Tp_readNumber : (Cond.code ⟨"CellWorks$Tape", "readNumber", "()V"⟩ prog_7_method_8_code 1 none) ∈ jm_W := jm_ok (jm_in2 20 rfl) rfl
theorem lk_Tp_61 : (Cond.methodLink "CellWorks$Tape" 61 ⟨"CellWorks$Tape", "isMark", "(I)Z"⟩) ∈ jm_W := jm_ok (jm_in2 21 rfl) rfl
theorem wt_Tp_isMark : (Cond.static ⟨"CellWorks$Tape", "isMark", "(I)Z"⟩) ∈ jm_W := jm_ok (jm_in2 22 rfl) rfl
theorem wc_Tp_isMark : (Cond.code ⟨"CellWorks$Tape", "isMark", "(I)Z"⟩ prog_7_method_13_code 1 (some FieldType.boolean)) ∈ jm_W := jm_ok (jm_in2 23 rfl) rfl
theorem lk_Rd_64 : (Cond.methodLink "CellWorks$Reader" 64 ⟨"CellWorks$Reader", "refuse", "(I)Z"⟩) ∈ jm_W := jm_ok (jm_in2 24 rfl) rfl
theorem wi_Rd_refuse : (Cond.instanceMethod ⟨"CellWorks$Reader", "refuse", "(I)Z"⟩) ∈ jm_W := jm_ok (jm_in2 26 rfl) rfl
theorem wc_Rd_refuse : (Cond.code ⟨"CellWorks$Reader", "refuse", "(I)Z"⟩ prog_6_method_6_code 2 (some FieldType.boolean)) ∈ jm_W := jm_ok (jm_in2 27 rfl) rfl
theorem lk_Rd_70 : (Cond.methodLink "CellWorks$Reader" 70 ⟨"CellWorks$Reader", "refuseAt", "(II)V"⟩) ∈ jm_W := jm_ok (jm_in2 28 rfl) rfl
theorem wi_Rd_refuseAt : (Cond.instanceMethod ⟨"CellWorks$Reader", "refuseAt", "(II)V"⟩) ∈ jm_W := jm_ok (jm_in2 29 rfl) rfl
theorem ws_Rd_refuseAt : (Cond.selects "CellWorks$Reader" ⟨"CellWorks$Reader", "refuseAt", "(II)V"⟩ ⟨"CellWorks$Reader", "refuseAt", "(II)V"⟩) ∈ jm_W := jm_ok (jm_in2 30 rfl) rfl
theorem wc_Rd_refuseAt : (Cond.code ⟨"CellWorks$Reader", "refuseAt", "(II)V"⟩ prog_6_method_5_code 3 none) ∈ jm_W := jm_ok (jm_in2 31 rfl) rfl
theorem lk_Rd_54 : (Cond.methodLink "CellWorks$Reader" 54 ⟨"CellWorks$Reader", "expect", "(I)Z"⟩) ∈ jm_W := jm_ok (jm_in2 32 rfl) rfl
theorem wi_Rd_expect : (Cond.instanceMethod ⟨"CellWorks$Reader", "expect", "(I)Z"⟩) ∈ jm_W := jm_ok (jm_in2 34 rfl) rfl
theorem wc_Rd_expect : (Cond.code ⟨"CellWorks$Reader", "expect", "(I)Z"⟩ prog_6_method_8_code 2 (some FieldType.boolean)) ∈ jm_W := jm_ok (jm_in2 35 rfl) rfl
theorem lk_Rd_58 : (Cond.methodLink "CellWorks$Reader" 58 ⟨"CellWorks$Reader", "sum", "(I)Z"⟩) ∈ jm_W := jm_ok (jm_in2 36 rfl) rfl
theorem wi_Rd_sum : (Cond.instanceMethod ⟨"CellWorks$Reader", "sum", "(I)Z"⟩) ∈ jm_W := jm_ok (jm_in2 38 rfl) rfl
theorem wc_Rd_sum : (Cond.code ⟨"CellWorks$Reader", "sum", "(I)Z"⟩ prog_6_method_11_code 4 (some FieldType.boolean)) ∈ jm_W := jm_ok (jm_in2 39 rfl) rfl
theorem lk_Rd_77 : (Cond.methodLink "CellWorks$Reader" 77 ⟨"CellWorks$Reader", "product", "(I)Z"⟩) ∈ jm_W := jm_ok (jm_in2 40 rfl) rfl
theorem wi_Rd_product : (Cond.instanceMethod ⟨"CellWorks$Reader", "product", "(I)Z"⟩) ∈ jm_W := jm_ok (jm_in2 42 rfl) rfl
theorem wc_Rd_product : (Cond.code ⟨"CellWorks$Reader", "product", "(I)Z"⟩ prog_6_method_12_code 4 (some FieldType.boolean)) ∈ jm_W := jm_ok (jm_in2 43 rfl) rfl
theorem lk_Rd_86 : (Cond.methodLink "CellWorks$Reader" 86 ⟨"CellWorks$Reader", "part", "(I)Z"⟩) ∈ jm_W := jm_ok (jm_in2 44 rfl) rfl
theorem wi_Rd_part : (Cond.instanceMethod ⟨"CellWorks$Reader", "part", "(I)Z"⟩) ∈ jm_W := jm_ok (jm_in2 46 rfl) rfl
theorem wc_Rd_part : (Cond.code ⟨"CellWorks$Reader", "part", "(I)Z"⟩ prog_6_method_13_code 2 (some FieldType.boolean)) ∈ jm_W := jm_ok (jm_in2 47 rfl) rfl
theorem lk_Rd_83 : (Cond.methodLink "CellWorks$Reader" 83 ⟨"CellWorks$Formula", "addStep", "(II)V"⟩) ∈ jm_W := jm_ok (jm_in2 48 rfl) rfl
theorem wi_Fm_addStep : (Cond.instanceMethod ⟨"CellWorks$Formula", "addStep", "(II)V"⟩) ∈ jm_W := jm_ok (jm_in2 49 rfl) rfl
theorem ws_Fm_addStep : (Cond.selects "CellWorks$Formula" ⟨"CellWorks$Formula", "addStep", "(II)V"⟩ ⟨"CellWorks$Formula", "addStep", "(II)V"⟩) ∈ jm_W := jm_ok (jm_in2 50 rfl) rfl
theorem wc_Fm_addStep : (Cond.code ⟨"CellWorks$Formula", "addStep", "(II)V"⟩ prog_5_method_3_code 3 none) ∈ jm_W := jm_ok (jm_in2 51 rfl) rfl
theorem lk_Rd_80 : (Cond.methodLink "CellWorks$Reader" 80 ⟨"CellWorks$Reader", "passNode", "()Z"⟩) ∈ jm_W := jm_ok (jm_in2 52 rfl) rfl
theorem wi_Rd_passNode : (Cond.instanceMethod ⟨"CellWorks$Reader", "passNode", "()Z"⟩) ∈ jm_W := jm_ok (jm_in2 54 rfl) rfl
theorem wc_Rd_passNode : (Cond.code ⟨"CellWorks$Reader", "passNode", "()Z"⟩ prog_6_method_9_code 1 (some FieldType.boolean)) ∈ jm_W := jm_ok (jm_in2 55 rfl) rfl
theorem lk_Rd_92 : (Cond.methodLink "CellWorks$Reader" 92 ⟨"CellWorks$Reader", "noteName", "()V"⟩) ∈ jm_W := jm_ok (jm_in2 56 rfl) rfl
theorem wi_Rd_noteName : (Cond.instanceMethod ⟨"CellWorks$Reader", "noteName", "()V"⟩) ∈ jm_W := jm_ok (jm_in2 58 rfl) rfl
theorem wc_Rd_noteName : (Cond.code ⟨"CellWorks$Reader", "noteName", "()V"⟩ prog_6_method_14_code 2 none) ∈ jm_W := jm_ok (jm_in2 59 rfl) rfl
theorem lk_Rd_110 : (Cond.methodLink "CellWorks$Reader" 110 ⟨"CellWorks$Formula", "addName", "(J)V"⟩) ∈ jm_W := jm_ok (jm_in2 60 rfl) rfl
theorem wi_Fm_addName : (Cond.instanceMethod ⟨"CellWorks$Formula", "addName", "(J)V"⟩) ∈ jm_W := jm_ok (jm_in2 61 rfl) rfl
theorem ws_Fm_addName : (Cond.selects "CellWorks$Formula" ⟨"CellWorks$Formula", "addName", "(J)V"⟩ ⟨"CellWorks$Formula", "addName", "(J)V"⟩) ∈ jm_W := jm_ok (jm_in2 62 rfl) rfl
theorem wc_Fm_addName : (Cond.code ⟨"CellWorks$Formula", "addName", "(J)V"⟩ prog_5_method_4_code 3 none) ∈ jm_W := jm_ok (jm_in2 63 rfl) rfl
theorem lk_Fm_35 : (Cond.methodLink "CellWorks$Formula" 35 ⟨"CellWorks$Formula", "addStep", "(II)V"⟩) ∈ jm_W := jm_ok (jm_in2 64 rfl) rfl
theorem lk_Rd_95 : (Cond.methodLink "CellWorks$Reader" 95 ⟨"CellWorks$Reader", "negated", "(I)Z"⟩) ∈ jm_W := jm_ok (jm_in2 65 rfl) rfl
theorem wi_Rd_negated : (Cond.instanceMethod ⟨"CellWorks$Reader", "negated", "(I)Z"⟩) ∈ jm_W := jm_ok (jm_in2 67 rfl) rfl
theorem wc_Rd_negated : (Cond.code ⟨"CellWorks$Reader", "negated", "(I)Z"⟩ prog_6_method_15_code 2 (some FieldType.boolean)) ∈ jm_W := jm_ok (jm_in2 68 rfl) rfl
theorem lk_Rd_98 : (Cond.methodLink "CellWorks$Reader" 98 ⟨"CellWorks$Reader", "passOpening", "(I)Z"⟩) ∈ jm_W := jm_ok (jm_in2 69 rfl) rfl
theorem wi_Rd_passOpening : (Cond.instanceMethod ⟨"CellWorks$Reader", "passOpening", "(I)Z"⟩) ∈ jm_W := jm_ok (jm_in2 71 rfl) rfl
theorem wc_Rd_passOpening : (Cond.code ⟨"CellWorks$Reader", "passOpening", "(I)Z"⟩ prog_6_method_10_code 2 (some FieldType.boolean)) ∈ jm_W := jm_ok (jm_in2 72 rfl) rfl
theorem lk_Rd_101 : (Cond.methodLink "CellWorks$Reader" 101 ⟨"CellWorks$Reader", "lesserOrGreater", "(I)Z"⟩) ∈ jm_W := jm_ok (jm_in2 73 rfl) rfl
theorem wi_Rd_lesserOrGreater : (Cond.instanceMethod ⟨"CellWorks$Reader", "lesserOrGreater", "(I)Z"⟩) ∈ jm_W := jm_ok (jm_in2 75 rfl) rfl
theorem wc_Rd_lesserOrGreater : (Cond.code ⟨"CellWorks$Reader", "lesserOrGreater", "(I)Z"⟩ prog_6_method_16_code 3 (some FieldType.boolean)) ∈ jm_W := jm_ok (jm_in2 76 rfl) rfl
theorem lk_Rd_104 : (Cond.methodLink "CellWorks$Reader" 104 ⟨"CellWorks$Reader", "choice", "(I)Z"⟩) ∈ jm_W := jm_ok (jm_in2 77 rfl) rfl
theorem wi_Rd_choice : (Cond.instanceMethod ⟨"CellWorks$Reader", "choice", "(I)Z"⟩) ∈ jm_W := jm_ok (jm_in2 79 rfl) rfl
theorem wc_Rd_choice : (Cond.code ⟨"CellWorks$Reader", "choice", "(I)Z"⟩ prog_6_method_17_code 4 (some FieldType.boolean)) ∈ jm_W := jm_ok (jm_in2 80 rfl) rfl
theorem lk_Rd_117 : (Cond.methodLink "CellWorks$Reader" 117 ⟨"CellWorks$Formula", "aimHere", "(I)V"⟩) ∈ jm_W := jm_ok (jm_in2 81 rfl) rfl
theorem wi_Fm_aimHere : (Cond.instanceMethod ⟨"CellWorks$Formula", "aimHere", "(I)V"⟩) ∈ jm_W := jm_ok (jm_in2 82 rfl) rfl
theorem ws_Fm_aimHere : (Cond.selects "CellWorks$Formula" ⟨"CellWorks$Formula", "aimHere", "(I)V"⟩ ⟨"CellWorks$Formula", "aimHere", "(I)V"⟩) ∈ jm_W := jm_ok (jm_in2 83 rfl) rfl
theorem wc_Fm_aimHere : (Cond.code ⟨"CellWorks$Formula", "aimHere", "(I)V"⟩ prog_5_method_5_code 2 none) ∈ jm_W := jm_ok (jm_in2 84 rfl) rfl
theorem lk_CW_60 : (Cond.methodLink "CellWorks" 60 ⟨"CellWorks", "settle", "()V"⟩) ∈ jm_W := jm_ok (jm_in2 85 rfl) rfl
theorem wi_CW_settle : (Cond.instanceMethod ⟨"CellWorks", "settle", "()V"⟩) ∈ jm_W := jm_ok (jm_in2 87 rfl) rfl
theorem wc_CW_settle : (Cond.code ⟨"CellWorks", "settle", "()V"⟩ prog_1_method_15_code 3 none) ∈ jm_W := jm_ok (jm_in2 88 rfl) rfl
theorem lk_CW_88 : (Cond.methodLink "CellWorks" 88 ⟨"CellWorks$Cells", "find", "(J)LCellWorks$Cell;"⟩) ∈ jm_W := jm_ok (jm_in2 89 rfl) rfl
theorem wi_Cs_find : (Cond.instanceMethod ⟨"CellWorks$Cells", "find", "(J)LCellWorks$Cell;"⟩) ∈ jm_W := jm_ok (jm_in2 90 rfl) rfl
theorem ws_Cs_find : (Cond.selects "CellWorks$Cells" ⟨"CellWorks$Cells", "find", "(J)LCellWorks$Cell;"⟩ ⟨"CellWorks$Cells", "find", "(J)LCellWorks$Cell;"⟩) ∈ jm_W := jm_ok (jm_in2 91 rfl) rfl
theorem wc_Cs_find : (Cond.code ⟨"CellWorks$Cells", "find", "(J)LCellWorks$Cell;"⟩ prog_4_method_4_code 4 (some (FieldType.object "CellWorks$Cell"))) ∈ jm_W := jm_ok (jm_in2 92 rfl) rfl
theorem lk_Cs_33 : (Cond.methodLink "CellWorks$Cells" 33 ⟨"CellWorks$Cells", "indexOf", "(J)I"⟩) ∈ jm_W := jm_ok (jm_in2 93 rfl) rfl
theorem wi_Cs_indexOf : (Cond.instanceMethod ⟨"CellWorks$Cells", "indexOf", "(J)I"⟩) ∈ jm_W := jm_ok (jm_in2 94 rfl) rfl
theorem ws_Cs_indexOf : (Cond.selects "CellWorks$Cells" ⟨"CellWorks$Cells", "indexOf", "(J)I"⟩ ⟨"CellWorks$Cells", "indexOf", "(J)I"⟩) ∈ jm_W := jm_ok (jm_in2 95 rfl) rfl
theorem wc_Cs_indexOf : (Cond.code ⟨"CellWorks$Cells", "indexOf", "(J)I"⟩ prog_4_method_3_code 4 (some FieldType.int)) ∈ jm_W := jm_ok (jm_in2 96 rfl) rfl
theorem lk_Cs_29 : (Cond.methodLink "CellWorks$Cells" 29 ⟨"CellWorks$Cells", "placeFor", "(J)I"⟩) ∈ jm_W := jm_ok (jm_in2 97 rfl) rfl
theorem wi_Cs_placeFor : (Cond.instanceMethod ⟨"CellWorks$Cells", "placeFor", "(J)I"⟩) ∈ jm_W := jm_ok (jm_in2 99 rfl) rfl
theorem wc_Cs_placeFor : (Cond.code ⟨"CellWorks$Cells", "placeFor", "(J)I"⟩ prog_4_method_2_code 5 (some FieldType.int)) ∈ jm_W := jm_ok (jm_in2 100 rfl) rfl
theorem lk_CW_153 : (Cond.methodLink "CellWorks" 153 ⟨"CellWorks$Reader", "refuseAt", "(II)V"⟩) ∈ jm_W := jm_ok (jm_in2 101 rfl) rfl
theorem lk_CW_161 : (Cond.methodLink "CellWorks" 161 ⟨"CellWorks$Cells", "firstInCircle", "(JLCellWorks$Formula;)I"⟩) ∈ jm_W := jm_ok (jm_in2 102 rfl) rfl
theorem wi_Cs_firstInCircle : (Cond.instanceMethod ⟨"CellWorks$Cells", "firstInCircle", "(JLCellWorks$Formula;)I"⟩) ∈ jm_W := jm_ok (jm_in2 103 rfl) rfl
theorem ws_Cs_firstInCircle : (Cond.selects "CellWorks$Cells" ⟨"CellWorks$Cells", "firstInCircle", "(JLCellWorks$Formula;)I"⟩ ⟨"CellWorks$Cells", "firstInCircle", "(JLCellWorks$Formula;)I"⟩) ∈ jm_W := jm_ok (jm_in2 104 rfl) rfl
theorem wc_Cs_firstInCircle : (Cond.code ⟨"CellWorks$Cells", "firstInCircle", "(JLCellWorks$Formula;)I"⟩ prog_4_method_17_code 8 (some FieldType.int)) ∈ jm_W := jm_ok (jm_in2 105 rfl) rfl
theorem lk_Cs_92 : (Cond.methodLink "CellWorks$Cells" 92 ⟨"CellWorks$Cells", "dependents", "(J)J"⟩) ∈ jm_W := jm_ok (jm_in2 106 rfl) rfl
theorem wi_Cs_dependents : (Cond.instanceMethod ⟨"CellWorks$Cells", "dependents", "(J)J"⟩) ∈ jm_W := jm_ok (jm_in2 107 rfl) rfl
theorem ws_Cs_dependents : (Cond.selects "CellWorks$Cells" ⟨"CellWorks$Cells", "dependents", "(J)J"⟩ ⟨"CellWorks$Cells", "dependents", "(J)J"⟩) ∈ jm_W := jm_ok (jm_in2 108 rfl) rfl
theorem wc_Cs_dependents : (Cond.code ⟨"CellWorks$Cells", "dependents", "(J)J"⟩ prog_4_method_15_code 9 (some FieldType.long)) ∈ jm_W := jm_ok (jm_in2 109 rfl) rfl
theorem lk_Cs_85 : (Cond.methodLink "CellWorks$Cells" 85 ⟨"CellWorks$Cells", "directReaders", "(J)J"⟩) ∈ jm_W := jm_ok (jm_in2 110 rfl) rfl
theorem wi_Cs_directReaders : (Cond.instanceMethod ⟨"CellWorks$Cells", "directReaders", "(J)J"⟩) ∈ jm_W := jm_ok (jm_in2 111 rfl) rfl
theorem ws_Cs_directReaders : (Cond.selects "CellWorks$Cells" ⟨"CellWorks$Cells", "directReaders", "(J)J"⟩ ⟨"CellWorks$Cells", "directReaders", "(J)J"⟩) ∈ jm_W := jm_ok (jm_in2 112 rfl) rfl
theorem wc_Cs_directReaders : (Cond.code ⟨"CellWorks$Cells", "directReaders", "(J)J"⟩ prog_4_method_14_code 6 (some FieldType.long)) ∈ jm_W := jm_ok (jm_in2 113 rfl) rfl
theorem lk_Cs_81 : (Cond.methodLink "CellWorks$Cells" 81 ⟨"CellWorks$Formula", "mentions", "(J)Z"⟩) ∈ jm_W := jm_ok (jm_in2 114 rfl) rfl
theorem wi_Fm_mentions : (Cond.instanceMethod ⟨"CellWorks$Formula", "mentions", "(J)Z"⟩) ∈ jm_W := jm_ok (jm_in2 115 rfl) rfl
theorem ws_Fm_mentions : (Cond.selects "CellWorks$Formula" ⟨"CellWorks$Formula", "mentions", "(J)Z"⟩ ⟨"CellWorks$Formula", "mentions", "(J)Z"⟩) ∈ jm_W := jm_ok (jm_in2 116 rfl) rfl
theorem wc_Fm_mentions : (Cond.code ⟨"CellWorks$Formula", "mentions", "(J)Z"⟩ prog_5_method_6_code 4 (some FieldType.boolean)) ∈ jm_W := jm_ok (jm_in2 117 rfl) rfl
theorem lk_Cs_89 : (Cond.methodLink "CellWorks$Cells" 89 ⟨"CellWorks$Cells", "trace", "()V"⟩) ∈ jm_W := jm_ok (jm_in2 118 rfl) rfl
theorem wi_Cs_trace : (Cond.instanceMethod ⟨"CellWorks$Cells", "trace", "()V"⟩) ∈ jm_W := jm_ok (jm_in2 120 rfl) rfl
theorem wc_Cs_trace : (Cond.code ⟨"CellWorks$Cells", "trace", "()V"⟩ prog_4_method_13_code 7 none) ∈ jm_W := jm_ok (jm_in2 121 rfl) rfl
theorem lk_CW_165 : (Cond.methodLink "CellWorks" 165 ⟨"CellWorks$Reader", "placeOfName", "(I)I"⟩) ∈ jm_W := jm_ok (jm_in2 122 rfl) rfl
theorem wi_Rd_placeOfName : (Cond.instanceMethod ⟨"CellWorks$Reader", "placeOfName", "(I)I"⟩) ∈ jm_W := jm_ok (jm_in2 123 rfl) rfl
theorem ws_Rd_placeOfName : (Cond.selects "CellWorks$Reader" ⟨"CellWorks$Reader", "placeOfName", "(I)I"⟩ ⟨"CellWorks$Reader", "placeOfName", "(I)I"⟩) ∈ jm_W := jm_ok (jm_in2 124 rfl) rfl
theorem wc_Rd_placeOfName : (Cond.code ⟨"CellWorks$Reader", "placeOfName", "(I)I"⟩ prog_6_method_3_code 2 (some FieldType.int)) ∈ jm_W := jm_ok (jm_in2 125 rfl) rfl
theorem lk_CW_97 : (Cond.classLink "CellWorks" 97 "CellWorks$Cell") ∈ jm_W := jm_ok (jm_in2 126 rfl) rfl
theorem wk_Cl : (Cond.instantiable "CellWorks$Cell" 5) ∈ jm_W := jm_ok (jm_in2 127 rfl) rfl
theorem lk_CW_169 : (Cond.classLink "CellWorks" 169 "CellWorks$Formula") ∈ jm_W := jm_ok (jm_in2 128 rfl) rfl
theorem lk_CW_171 : (Cond.methodLinkNest "CellWorks" 171 ⟨"CellWorks$Formula", "<init>", "()V"⟩ "CellWorks") ∈ lw_tbl := jm_in2 129 rfl
theorem lk_CW_172 : (Cond.methodLink "CellWorks" 172 ⟨"CellWorks$Reader", "exchangeFormula", "(LCellWorks$Formula;)LCellWorks$Formula;"⟩) ∈ jm_W := jm_ok (jm_in2 130 rfl) rfl
theorem wi_Rd_exchangeFormula : (Cond.instanceMethod ⟨"CellWorks$Reader", "exchangeFormula", "(LCellWorks$Formula;)LCellWorks$Formula;"⟩) ∈ jm_W := jm_ok (jm_in2 131 rfl) rfl
theorem ws_Rd_exchangeFormula : (Cond.selects "CellWorks$Reader" ⟨"CellWorks$Reader", "exchangeFormula", "(LCellWorks$Formula;)LCellWorks$Formula;"⟩ ⟨"CellWorks$Reader", "exchangeFormula", "(LCellWorks$Formula;)LCellWorks$Formula;"⟩) ∈ jm_W := jm_ok (jm_in2 132 rfl) rfl
theorem wc_Rd_exchangeFormula : (Cond.code ⟨"CellWorks$Reader", "exchangeFormula", "(LCellWorks$Formula;)LCellWorks$Formula;"⟩ prog_6_method_4_code 3 (some (FieldType.object "CellWorks$Formula"))) ∈ jm_W := jm_ok (jm_in2 133 rfl) rfl
theorem lk_CW_176 : (Cond.methodLink "CellWorks" 176 ⟨"CellWorks$Cell", "<init>", "(JLCellWorks$Formula;)V"⟩) ∈ jm_W := jm_ok (jm_in2 134 rfl) rfl
theorem wi_Cl_init : (Cond.instanceMethod ⟨"CellWorks$Cell", "<init>", "(JLCellWorks$Formula;)V"⟩) ∈ jm_W := jm_ok (jm_in2 135 rfl) rfl
theorem wc_Cl_init : (Cond.code ⟨"CellWorks$Cell", "<init>", "(JLCellWorks$Formula;)V"⟩ prog_3_method_1_code 4 none) ∈ jm_W := jm_ok (jm_in2 136 rfl) rfl
theorem lk_Cl_3 : (Cond.methodLink "CellWorks$Cell" 3 ⟨"java/lang/Object", "<init>", "()V"⟩) ∈ jm_W := jm_ok (jm_in2 137 rfl) rfl
theorem lk_Cl_23 : (Cond.fieldLink "CellWorks$Cell" 23 "CellWorks$Cell" "name" "J") ∈ jm_W := jm_ok (jm_in2 138 rfl) rfl
theorem lk_Cs_25 : (Cond.fieldLink "CellWorks$Cells" 25 "CellWorks$Cell" "name" "J") ∈ jm_W := jm_ok (jm_in2 139 rfl) rfl
theorem lk_Bd_85 : (Cond.fieldLink "CellWorks$Builder" 85 "CellWorks$Cell" "name" "J") ∈ jm_W := jm_ok (jm_in2 140 rfl) rfl
theorem lk_Cl_26 : (Cond.fieldLink "CellWorks$Cell" 26 "CellWorks$Cell" "formula" "LCellWorks$Formula;") ∈ jm_W := jm_ok (jm_in2 141 rfl) rfl
theorem lk_Bd_59 : (Cond.fieldLink "CellWorks$Builder" 59 "CellWorks$Cell" "formula" "LCellWorks$Formula;") ∈ jm_W := jm_ok (jm_in2 142 rfl) rfl
theorem lk_Cs_46 : (Cond.fieldLink "CellWorks$Cells" 46 "CellWorks$Cell" "formula" "LCellWorks$Formula;") ∈ jm_W := jm_ok (jm_in2 143 rfl) rfl
theorem lk_CW_183 : (Cond.fieldLink "CellWorks" 183 "CellWorks$Cell" "formula" "LCellWorks$Formula;") ∈ jm_W := jm_ok (jm_in2 144 rfl) rfl
theorem lk_Cl_9 : (Cond.fieldLink "CellWorks$Cell" 9 "CellWorks$Cell" "workedOut" "Z") ∈ jm_W := jm_ok (jm_in2 145 rfl) rfl
theorem lk_Bd_81 : (Cond.fieldLink "CellWorks$Builder" 81 "CellWorks$Cell" "workedOut" "Z") ∈ jm_W := jm_ok (jm_in2 146 rfl) rfl
theorem lk_Cs_42 : (Cond.fieldLink "CellWorks$Cells" 42 "CellWorks$Cell" "workedOut" "Z") ∈ jm_W := jm_ok (jm_in2 147 rfl) rfl
theorem lk_CW_184 : (Cond.fieldLink "CellWorks" 184 "CellWorks$Cell" "workedOut" "Z") ∈ jm_W := jm_ok (jm_in2 148 rfl) rfl
theorem lk_Cl_15 : (Cond.fieldLink "CellWorks$Cell" 15 "CellWorks$Cell" "kind" "I") ∈ jm_W := jm_ok (jm_in2 149 rfl) rfl
theorem lk_Bd_75 : (Cond.fieldLink "CellWorks$Builder" 75 "CellWorks$Cell" "kind" "I") ∈ jm_W := jm_ok (jm_in2 150 rfl) rfl
theorem lk_Cs_36 : (Cond.fieldLink "CellWorks$Cells" 36 "CellWorks$Cell" "kind" "I") ∈ jm_W := jm_ok (jm_in2 151 rfl) rfl
theorem lk_CW_96 : (Cond.fieldLink "CellWorks" 96 "CellWorks$Cell" "kind" "I") ∈ jm_W := jm_ok (jm_in2 152 rfl) rfl
theorem lk_Cl_19 : (Cond.fieldLink "CellWorks$Cell" 19 "CellWorks$Cell" "value" "J") ∈ jm_W := jm_ok (jm_in2 153 rfl) rfl
theorem lk_Bd_80 : (Cond.fieldLink "CellWorks$Builder" 80 "CellWorks$Cell" "value" "J") ∈ jm_W := jm_ok (jm_in2 154 rfl) rfl
theorem lk_Cs_39 : (Cond.fieldLink "CellWorks$Cells" 39 "CellWorks$Cell" "value" "J") ∈ jm_W := jm_ok (jm_in2 155 rfl) rfl
theorem wl_Cl_name : (Cond.laysFinal "CellWorks$Cell" "CellWorks$Cell" "name" "J") ∈ jm_W := jm_ok (jm_in2 156 rfl) rfl
theorem wl_Cl_formula : (Cond.lays "CellWorks$Cell" "CellWorks$Cell" "formula" "LCellWorks$Formula;") ∈ jm_W := jm_ok (jm_in2 158 rfl) rfl
theorem wl_Cl_workedOut : (Cond.lays "CellWorks$Cell" "CellWorks$Cell" "workedOut" "Z") ∈ jm_W := jm_ok (jm_in2 160 rfl) rfl
theorem wl_Cl_kind : (Cond.lays "CellWorks$Cell" "CellWorks$Cell" "kind" "I") ∈ jm_W := jm_ok (jm_in2 162 rfl) rfl
theorem wl_Cl_value : (Cond.lays "CellWorks$Cell" "CellWorks$Cell" "value" "J") ∈ jm_W := jm_ok (jm_in2 164 rfl) rfl
theorem lk_CW_179 : (Cond.methodLink "CellWorks" 179 ⟨"CellWorks$Cells", "insert", "(LCellWorks$Cell;)V"⟩) ∈ jm_W := jm_ok (jm_in2 167 rfl) rfl
theorem wi_Cs_insert : (Cond.instanceMethod ⟨"CellWorks$Cells", "insert", "(LCellWorks$Cell;)V"⟩) ∈ jm_W := jm_ok (jm_in2 168 rfl) rfl
theorem ws_Cs_insert : (Cond.selects "CellWorks$Cells" ⟨"CellWorks$Cells", "insert", "(LCellWorks$Cell;)V"⟩ ⟨"CellWorks$Cells", "insert", "(LCellWorks$Cell;)V"⟩) ∈ jm_W := jm_ok (jm_in2 169 rfl) rfl
theorem wc_Cs_insert : (Cond.code ⟨"CellWorks$Cells", "insert", "(LCellWorks$Cell;)V"⟩ prog_4_method_5_code 4 none) ∈ jm_W := jm_ok (jm_in2 170 rfl) rfl
theorem lk_Lw_73 : (Cond.methodLink "CellWorksLaw" 73 ⟨"CellWorks", "fault", "()I"⟩) ∈ jm_W := jm_ok (jm_in2 171 rfl) rfl
theorem wi_CW_fault : (Cond.instanceMethod ⟨"CellWorks", "fault", "()I"⟩) ∈ jm_W := jm_ok (jm_in2 172 rfl) rfl
theorem ws_CW_fault : (Cond.selects "CellWorks" ⟨"CellWorks", "fault", "()I"⟩ ⟨"CellWorks", "fault", "()I"⟩) ∈ jm_W := jm_ok (jm_in2 173 rfl) rfl
theorem wc_CW_fault : (Cond.code ⟨"CellWorks", "fault", "()I"⟩ prog_1_method_5_code 1 (some FieldType.int)) ∈ jm_W := jm_ok (jm_in2 174 rfl) rfl
theorem lk_Lw_84 : (Cond.methodLink "CellWorksLaw" 84 ⟨"CellWorks", "buildAll", "()I"⟩) ∈ jm_W := jm_ok (jm_in2 175 rfl) rfl
theorem wi_CW_buildAll : (Cond.instanceMethod ⟨"CellWorks", "buildAll", "()I"⟩) ∈ jm_W := jm_ok (jm_in2 176 rfl) rfl
theorem ws_CW_buildAll : (Cond.selects "CellWorks" ⟨"CellWorks", "buildAll", "()I"⟩ ⟨"CellWorks", "buildAll", "()I"⟩) ∈ jm_W := jm_ok (jm_in2 177 rfl) rfl
theorem wc_CW_buildAll : (Cond.code ⟨"CellWorks", "buildAll", "()I"⟩ prog_1_method_8_code 1 (some FieldType.int)) ∈ jm_W := jm_ok (jm_in2 178 rfl) rfl
theorem lk_CW_85 : (Cond.methodLink "CellWorks" 85 ⟨"CellWorks$Cells", "all", "()J"⟩) ∈ jm_W := jm_ok (jm_in2 179 rfl) rfl
theorem wi_Cs_all : (Cond.instanceMethod ⟨"CellWorks$Cells", "all", "()J"⟩) ∈ jm_W := jm_ok (jm_in2 180 rfl) rfl
theorem ws_Cs_all : (Cond.selects "CellWorks$Cells" ⟨"CellWorks$Cells", "all", "()J"⟩ ⟨"CellWorks$Cells", "all", "()J"⟩) ∈ jm_W := jm_ok (jm_in2 181 rfl) rfl
theorem wc_Cs_all : (Cond.code ⟨"CellWorks$Cells", "all", "()J"⟩ prog_4_method_12_code 4 (some FieldType.long)) ∈ jm_W := jm_ok (jm_in2 182 rfl) rfl
theorem lk_CW_81 : (Cond.methodLink "CellWorks" 81 ⟨"CellWorks$Builder", "run", "(LCellWorks$Cells;J)I"⟩) ∈ jm_W := jm_ok (jm_in2 183 rfl) rfl
theorem wi_Bd_run : (Cond.instanceMethod ⟨"CellWorks$Builder", "run", "(LCellWorks$Cells;J)I"⟩) ∈ jm_W := jm_ok (jm_in2 184 rfl) rfl
theorem ws_Bd_run : (Cond.selects "CellWorks$Builder" ⟨"CellWorks$Builder", "run", "(LCellWorks$Cells;J)I"⟩ ⟨"CellWorks$Builder", "run", "(LCellWorks$Cells;J)I"⟩) ∈ jm_W := jm_ok (jm_in2 185 rfl) rfl
theorem wc_Bd_run : (Cond.code ⟨"CellWorks$Builder", "run", "(LCellWorks$Cells;J)I"⟩ prog_2_method_2_code 14 (some FieldType.int)) ∈ jm_W := jm_ok (jm_in2 186 rfl) rfl
theorem lk_Bd_29 : (Cond.methodLink "CellWorks$Builder" 29 ⟨"CellWorks$Cells", "withGround", "(J)J"⟩) ∈ jm_W := jm_ok (jm_in2 187 rfl) rfl
theorem wi_Cs_withGround : (Cond.instanceMethod ⟨"CellWorks$Cells", "withGround", "(J)J"⟩) ∈ jm_W := jm_ok (jm_in2 188 rfl) rfl
theorem ws_Cs_withGround : (Cond.selects "CellWorks$Cells" ⟨"CellWorks$Cells", "withGround", "(J)J"⟩ ⟨"CellWorks$Cells", "withGround", "(J)J"⟩) ∈ jm_W := jm_ok (jm_in2 189 rfl) rfl
theorem wc_Cs_withGround : (Cond.code ⟨"CellWorks$Cells", "withGround", "(J)J"⟩ prog_4_method_16_code 9 (some FieldType.long)) ∈ jm_W := jm_ok (jm_in2 190 rfl) rfl
theorem lk_Bd_38 : (Cond.constantLong "CellWorks$Builder" 38 (-1 : Int64)) ∈ jm_W := jm_ok (jm_in2 191 rfl) rfl
theorem lk_Bd_47 : (Cond.methodLink "CellWorks$Builder" 47 ⟨"CellWorks$Cells", "isStale", "(LCellWorks$Cell;)Z"⟩) ∈ jm_W := jm_ok (jm_in2 192 rfl) rfl
theorem wi_Cs_isStale : (Cond.instanceMethod ⟨"CellWorks$Cells", "isStale", "(LCellWorks$Cell;)Z"⟩) ∈ jm_W := jm_ok (jm_in2 193 rfl) rfl
theorem ws_Cs_isStale : (Cond.selects "CellWorks$Cells" ⟨"CellWorks$Cells", "isStale", "(LCellWorks$Cell;)Z"⟩ ⟨"CellWorks$Cells", "isStale", "(LCellWorks$Cell;)Z"⟩) ∈ jm_W := jm_ok (jm_in2 194 rfl) rfl
theorem wc_Cs_isStale : (Cond.code ⟨"CellWorks$Cells", "isStale", "(LCellWorks$Cell;)Z"⟩ prog_4_method_9_code 5 (some FieldType.boolean)) ∈ jm_W := jm_ok (jm_in2 195 rfl) rfl
theorem lk_Cs_58 : (Cond.methodLink "CellWorks$Cells" 58 ⟨"CellWorks$Cells", "find", "(J)LCellWorks$Cell;"⟩) ∈ jm_W := jm_ok (jm_in2 196 rfl) rfl
theorem lk_Cs_66 : (Cond.methodLink "CellWorks$Cells" 66 ⟨"CellWorks$Cells", "kindOf", "(LCellWorks$Cell;)I"⟩) ∈ jm_W := jm_ok (jm_in2 197 rfl) rfl
theorem wi_Cs_kindOf : (Cond.instanceMethod ⟨"CellWorks$Cells", "kindOf", "(LCellWorks$Cell;)I"⟩) ∈ jm_W := jm_ok (jm_in2 198 rfl) rfl
theorem ws_Cs_kindOf : (Cond.selects "CellWorks$Cells" ⟨"CellWorks$Cells", "kindOf", "(LCellWorks$Cell;)I"⟩ ⟨"CellWorks$Cells", "kindOf", "(LCellWorks$Cell;)I"⟩) ∈ jm_W := jm_ok (jm_in2 199 rfl) rfl
theorem wc_Cs_kindOf : (Cond.code ⟨"CellWorks$Cells", "kindOf", "(LCellWorks$Cell;)I"⟩ prog_4_method_7_code 2 (some FieldType.int)) ∈ jm_W := jm_ok (jm_in2 200 rfl) rfl
theorem lk_Cs_73 : (Cond.methodLink "CellWorks$Cells" 73 ⟨"CellWorks$Cells", "valueOf", "(LCellWorks$Cell;)J"⟩) ∈ jm_W := jm_ok (jm_in2 201 rfl) rfl
theorem wi_Cs_valueOf : (Cond.instanceMethod ⟨"CellWorks$Cells", "valueOf", "(LCellWorks$Cell;)J"⟩) ∈ jm_W := jm_ok (jm_in2 202 rfl) rfl
theorem ws_Cs_valueOf : (Cond.selects "CellWorks$Cells" ⟨"CellWorks$Cells", "valueOf", "(LCellWorks$Cell;)J"⟩ ⟨"CellWorks$Cells", "valueOf", "(LCellWorks$Cell;)J"⟩) ∈ jm_W := jm_ok (jm_in2 203 rfl) rfl
theorem wc_Cs_valueOf : (Cond.code ⟨"CellWorks$Cells", "valueOf", "(LCellWorks$Cell;)J"⟩ prog_4_method_8_code 2 (some FieldType.long)) ∈ jm_W := jm_ok (jm_in2 204 rfl) rfl
theorem lk_Bd_51 : (Cond.methodLink "CellWorks$Builder" 51 ⟨"CellWorks$Builder", "workOut", "(LCellWorks$Cells;LCellWorks$Cell;)V"⟩) ∈ jm_W := jm_ok (jm_in2 205 rfl) rfl
theorem wi_Bd_workOut : (Cond.instanceMethod ⟨"CellWorks$Builder", "workOut", "(LCellWorks$Cells;LCellWorks$Cell;)V"⟩) ∈ jm_W := jm_ok (jm_in2 207 rfl) rfl
theorem wc_Bd_workOut : (Cond.code ⟨"CellWorks$Builder", "workOut", "(LCellWorks$Cells;LCellWorks$Cell;)V"⟩ prog_2_method_3_code 3 none) ∈ jm_W := jm_ok (jm_in2 208 rfl) rfl
theorem lk_Bd_65 : (Cond.methodLink "CellWorks$Builder" 65 ⟨"CellWorks$Cells", "look", "(LCellWorks$Formula;)V"⟩) ∈ jm_W := jm_ok (jm_in2 209 rfl) rfl
theorem wi_Cs_look : (Cond.instanceMethod ⟨"CellWorks$Cells", "look", "(LCellWorks$Formula;)V"⟩) ∈ jm_W := jm_ok (jm_in2 210 rfl) rfl
theorem ws_Cs_look : (Cond.selects "CellWorks$Cells" ⟨"CellWorks$Cells", "look", "(LCellWorks$Formula;)V"⟩ ⟨"CellWorks$Cells", "look", "(LCellWorks$Formula;)V"⟩) ∈ jm_W := jm_ok (jm_in2 211 rfl) rfl
theorem wc_Cs_look : (Cond.code ⟨"CellWorks$Cells", "look", "(LCellWorks$Formula;)V"⟩ prog_4_method_10_code 4 none) ∈ jm_W := jm_ok (jm_in2 212 rfl) rfl
theorem lk_Bd_69 : (Cond.methodLink "CellWorks$Builder" 69 ⟨"CellWorks$Work", "run", "(LCellWorks$Formula;)V"⟩) ∈ jm_W := jm_ok (jm_in2 213 rfl) rfl
theorem wi_Wk_run : (Cond.instanceMethod ⟨"CellWorks$Work", "run", "(LCellWorks$Formula;)V"⟩) ∈ jm_W := jm_ok (jm_in2 214 rfl) rfl
theorem ws_Wk_run : (Cond.selects "CellWorks$Work" ⟨"CellWorks$Work", "run", "(LCellWorks$Formula;)V"⟩ ⟨"CellWorks$Work", "run", "(LCellWorks$Formula;)V"⟩) ∈ jm_W := jm_ok (jm_in2 215 rfl) rfl
theorem wc_Wk_run : (Cond.code ⟨"CellWorks$Work", "run", "(LCellWorks$Formula;)V"⟩ prog_8_method_2_code 4 none) ∈ jm_W := jm_ok (jm_in2 216 rfl) rfl
theorem lk_Wk_38 : (Cond.methodLink "CellWorks$Work" 38 ⟨"CellWorks$Work", "take", "(LCellWorks$Formula;III)I"⟩) ∈ jm_W := jm_ok (jm_in2 217 rfl) rfl
theorem wi_Wk_take : (Cond.instanceMethod ⟨"CellWorks$Work", "take", "(LCellWorks$Formula;III)I"⟩) ∈ jm_W := jm_ok (jm_in2 219 rfl) rfl
theorem wc_Wk_take : (Cond.code ⟨"CellWorks$Work", "take", "(LCellWorks$Formula;III)I"⟩ prog_8_method_3_code 9 (some FieldType.int)) ∈ jm_W := jm_ok (jm_in2 220 rfl) rfl
theorem lk_Wk_46 : (Cond.methodLink "CellWorks$Work" 46 ⟨"CellWorks$Work", "push", "(J)V"⟩) ∈ jm_W := jm_ok (jm_in2 221 rfl) rfl
theorem wi_Wk_push : (Cond.instanceMethod ⟨"CellWorks$Work", "push", "(J)V"⟩) ∈ jm_W := jm_ok (jm_in2 223 rfl) rfl
theorem wc_Wk_push : (Cond.code ⟨"CellWorks$Work", "push", "(J)V"⟩ prog_8_method_7_code 3 none) ∈ jm_W := jm_ok (jm_in2 224 rfl) rfl
theorem lk_Wk_50 : (Cond.methodLink "CellWorks$Work" 50 ⟨"CellWorks$Work", "pushResult", "(LCellWorks$Formula;I)V"⟩) ∈ jm_W := jm_ok (jm_in2 225 rfl) rfl
theorem wi_Wk_pushResult : (Cond.instanceMethod ⟨"CellWorks$Work", "pushResult", "(LCellWorks$Formula;I)V"⟩) ∈ jm_W := jm_ok (jm_in2 227 rfl) rfl
theorem wc_Wk_pushResult : (Cond.code ⟨"CellWorks$Work", "pushResult", "(LCellWorks$Formula;I)V"⟩ prog_8_method_4_code 3 none) ∈ jm_W := jm_ok (jm_in2 228 rfl) rfl
theorem lk_Wk_42 : (Cond.methodLink "CellWorks$Work" 42 ⟨"CellWorks$Work", "pop", "()J"⟩) ∈ jm_W := jm_ok (jm_in2 229 rfl) rfl
theorem wi_Wk_pop : (Cond.instanceMethod ⟨"CellWorks$Work", "pop", "()J"⟩) ∈ jm_W := jm_ok (jm_in2 231 rfl) rfl
theorem wc_Wk_pop : (Cond.code ⟨"CellWorks$Work", "pop", "()J"⟩ prog_8_method_8_code 1 (some FieldType.long)) ∈ jm_W := jm_ok (jm_in2 232 rfl) rfl
theorem lk_Wk_54 : (Cond.methodLink "CellWorks$Work" 54 ⟨"CellWorks$Work", "join", "(IJJ)V"⟩) ∈ jm_W := jm_ok (jm_in2 233 rfl) rfl
theorem wi_Wk_join : (Cond.instanceMethod ⟨"CellWorks$Work", "join", "(IJJ)V"⟩) ∈ jm_W := jm_ok (jm_in2 235 rfl) rfl
theorem wc_Wk_join : (Cond.code ⟨"CellWorks$Work", "join", "(IJJ)V"⟩ prog_8_method_5_code 6 none) ∈ jm_W := jm_ok (jm_in2 236 rfl) rfl
theorem lk_Wk_67 : (Cond.methodLink "CellWorks$Work" 67 ⟨"CellWorks$Work", "divide", "(JJ)V"⟩) ∈ jm_W := jm_ok (jm_in2 237 rfl) rfl
theorem wi_Wk_divide : (Cond.instanceMethod ⟨"CellWorks$Work", "divide", "(JJ)V"⟩) ∈ jm_W := jm_ok (jm_in2 239 rfl) rfl
theorem wc_Wk_divide : (Cond.code ⟨"CellWorks$Work", "divide", "(JJ)V"⟩ prog_8_method_6_code 5 none) ∈ jm_W := jm_ok (jm_in3 0 rfl) rfl
theorem lk_Wk_71 : (Cond.methodLink "CellWorks$Work" 71 ⟨"java/lang/Math", "min", "(JJ)J"⟩) ∈ jm_W := jm_ok (jm_in3 1 rfl) rfl
theorem wt_Ma_min : (Cond.static ⟨"java/lang/Math", "min", "(JJ)J"⟩) ∈ jm_W := jm_ok (jm_in3 2 rfl) rfl
theorem wc_Ma_min : (Cond.code ⟨"java/lang/Math", "min", "(JJ)J"⟩ prog_15_method_70_code 4 (some FieldType.long)) ∈ jm_W := jm_ok (jm_in3 3 rfl) rfl
theorem lk_Wk_77 : (Cond.methodLink "CellWorks$Work" 77 ⟨"java/lang/Math", "max", "(JJ)J"⟩) ∈ jm_W := jm_ok (jm_in3 4 rfl) rfl
theorem wt_Ma_max : (Cond.static ⟨"java/lang/Math", "max", "(JJ)J"⟩) ∈ jm_W := jm_ok (jm_in3 5 rfl) rfl
theorem wc_Ma_max : (Cond.code ⟨"java/lang/Math", "max", "(JJ)J"⟩ prog_15_method_66_code 4 (some FieldType.long)) ∈ jm_W := jm_ok (jm_in3 6 rfl) rfl
theorem lk_Bd_55 : (Cond.methodLink "CellWorks$Builder" 55 ⟨"CellWorks$Builder", "keepNames", "(LCellWorks$Cells;J)V"⟩) ∈ jm_W := jm_ok (jm_in3 7 rfl) rfl
theorem wi_Bd_keepNames : (Cond.instanceMethod ⟨"CellWorks$Builder", "keepNames", "(LCellWorks$Cells;J)V"⟩) ∈ jm_W := jm_ok (jm_in3 9 rfl) rfl
theorem wc_Bd_keepNames : (Cond.code ⟨"CellWorks$Builder", "keepNames", "(LCellWorks$Cells;J)V"⟩ prog_2_method_4_code 5 none) ∈ jm_W := jm_ok (jm_in3 10 rfl) rfl
theorem lk_Lw_56 : (Cond.methodLink "CellWorksLaw" 56 ⟨"CellWorksLaw", "feed", "(LCellWorks;IIIII[J)I"⟩) ∈ jm_W := jm_ok (jm_in3 11 rfl) rfl
theorem wt_Lw_feed : (Cond.static ⟨"CellWorksLaw", "feed", "(LCellWorks;IIIII[J)I"⟩) ∈ jm_W := jm_ok (jm_in3 12 rfl) rfl
theorem wc_Lw_feed : (Cond.codeWith ⟨"CellWorksLaw", "feed", "(LCellWorks;IIIII[J)I"⟩ method_3_code 8 (some FieldType.int) [(0, 16, 19, 13)]) ∈ jm_W := jm_ok (jm_in3 13 rfl) rfl
theorem lk_Lw_13 : (Cond.classLink "CellWorksLaw" 13 "java/lang/UnsupportedOperationException") ∈ jm_W := jm_ok (jm_in3 14 rfl) rfl
theorem lk_Lw_7 : (Cond.methodLink "CellWorksLaw" 7 ⟨"CellWorks", "feed", "(IIIII)I"⟩) ∈ jm_W := jm_ok (jm_in3 15 rfl) rfl
theorem wi_CW_feed : (Cond.instanceMethod ⟨"CellWorks", "feed", "(IIIII)I"⟩) ∈ jm_W := jm_ok (jm_in3 16 rfl) rfl
theorem ws_CW_feed : (Cond.selects "CellWorks" ⟨"CellWorks", "feed", "(IIIII)I"⟩ ⟨"CellWorks", "feed", "(IIIII)I"⟩) ∈ jm_W := jm_ok (jm_in3 17 rfl) rfl
theorem wc_CW_feed : (Cond.code ⟨"CellWorks", "feed", "(IIIII)I"⟩ prog_1_method_2_code 7 (some FieldType.int)) ∈ jm_W := jm_ok (jm_in3 18 rfl) rfl
theorem lk_CW_40 : (Cond.classLink "CellWorks" 40 "java/lang/UnsupportedOperationException") ∈ jm_W := jm_ok (jm_in3 19 rfl) rfl
theorem lk_CW_42 : (Cond.stringRef "CellWorks" 42 "the tape would have more than 2000 bytes") ∈ lw_tbl := jm_in3 61 rfl
theorem lk_CW_44 : (Cond.methodLink "CellWorks" 44 ⟨"java/lang/UnsupportedOperationException", "<init>", "(Ljava/lang/String;)V"⟩) ∈ jm_W := jm_ok (jm_in3 62 rfl) rfl
theorem lk_CW_47 : (Cond.methodLink "CellWorks" 47 ⟨"CellWorks$Tape", "add", "(I)V"⟩) ∈ jm_W := jm_ok (jm_in3 87 rfl) rfl
theorem wi_Tp_add : (Cond.instanceMethod ⟨"CellWorks$Tape", "add", "(I)V"⟩) ∈ jm_W := jm_ok (jm_in3 88 rfl) rfl
theorem ws_Tp_add : (Cond.selects "CellWorks$Tape" ⟨"CellWorks$Tape", "add", "(I)V"⟩ ⟨"CellWorks$Tape", "add", "(I)V"⟩) ∈ jm_W := jm_ok (jm_in3 89 rfl) rfl
theorem wc_Tp_add : (Cond.code ⟨"CellWorks$Tape", "add", "(I)V"⟩ prog_7_method_2_code 3 none) ∈ jm_W := jm_ok (jm_in3 90 rfl) rfl
theorem lk_Lw_65 : (Cond.methodLink "CellWorksLaw" 65 ⟨"CellWorksLaw", "end", "(LCellWorks;I)I"⟩) ∈ jm_W := jm_ok (jm_in3 91 rfl) rfl
theorem wt_Lw_end : (Cond.static ⟨"CellWorksLaw", "end", "(LCellWorks;I)I"⟩) ∈ jm_W := jm_ok (jm_in3 92 rfl) rfl
theorem wc_Lw_end : (Cond.codeWith ⟨"CellWorksLaw", "end", "(LCellWorks;I)I"⟩ method_4_code 3 (some FieldType.int) [(0, 5, 8, 19)]) ∈ jm_W := jm_ok (jm_in3 93 rfl) rfl
theorem lk_Lw_19 : (Cond.classLink "CellWorksLaw" 19 "java/lang/IllegalArgumentException") ∈ jm_W := jm_ok (jm_in3 94 rfl) rfl
theorem lk_Lw_15 : (Cond.methodLink "CellWorksLaw" 15 ⟨"CellWorks", "end", "(I)V"⟩) ∈ jm_W := jm_ok (jm_in3 95 rfl) rfl
theorem wi_CW_end : (Cond.instanceMethod ⟨"CellWorks", "end", "(I)V"⟩) ∈ jm_W := jm_ok (jm_in3 96 rfl) rfl
theorem ws_CW_end : (Cond.selects "CellWorks" ⟨"CellWorks", "end", "(I)V"⟩ ⟨"CellWorks", "end", "(I)V"⟩) ∈ jm_W := jm_ok (jm_in3 97 rfl) rfl
theorem wc_CW_end : (Cond.code ⟨"CellWorks", "end", "(I)V"⟩ prog_1_method_3_code 2 none) ∈ jm_W := jm_ok (jm_in3 98 rfl) rfl
theorem lk_CW_51 : (Cond.classLink "CellWorks" 51 "java/lang/IllegalArgumentException") ∈ jm_W := jm_ok (jm_in3 99 rfl) rfl
theorem lk_CW_53 : (Cond.stringRef "CellWorks" 53 "the tape has not so many bytes") ∈ lw_tbl := jm_in3 108 rfl
theorem lk_CW_55 : (Cond.methodLink "CellWorks" 55 ⟨"java/lang/IllegalArgumentException", "<init>", "(Ljava/lang/String;)V"⟩) ∈ jm_W := jm_ok (jm_in3 109 rfl) rfl
theorem lk_Lw_77 : (Cond.methodLink "CellWorksLaw" 77 ⟨"CellWorksLaw", "remove", "(LCellWorks;[J)I"⟩) ∈ jm_W := jm_ok (jm_in3 115 rfl) rfl
theorem wt_Lw_remove : (Cond.static ⟨"CellWorksLaw", "remove", "(LCellWorks;[J)I"⟩) ∈ jm_W := jm_ok (jm_in3 116 rfl) rfl
theorem wc_Lw_remove : (Cond.codeWith ⟨"CellWorksLaw", "remove", "(LCellWorks;[J)I"⟩ method_5_code 3 (some FieldType.int) [(0, 15, 18, 25)]) ∈ jm_W := jm_ok (jm_in3 117 rfl) rfl
theorem lk_Lw_25 : (Cond.classLink "CellWorksLaw" 25 "java/util/NoSuchElementException") ∈ jm_W := jm_ok (jm_in3 118 rfl) rfl
theorem lk_Lw_21 : (Cond.methodLink "CellWorksLaw" 21 ⟨"CellWorks", "remove", "()Z"⟩) ∈ jm_W := jm_ok (jm_in3 119 rfl) rfl
theorem wi_CW_remove : (Cond.instanceMethod ⟨"CellWorks", "remove", "()Z"⟩) ∈ jm_W := jm_ok (jm_in3 120 rfl) rfl
theorem ws_CW_remove : (Cond.selects "CellWorks" ⟨"CellWorks", "remove", "()Z"⟩ ⟨"CellWorks", "remove", "()Z"⟩) ∈ jm_W := jm_ok (jm_in3 121 rfl) rfl
theorem wc_CW_remove : (Cond.code ⟨"CellWorks", "remove", "()Z"⟩ prog_1_method_6_code 3 (some FieldType.boolean)) ∈ jm_W := jm_ok (jm_in3 122 rfl) rfl
theorem lk_CW_69 : (Cond.methodLink "CellWorks" 69 ⟨"CellWorks", "nameOnTape", "()J"⟩) ∈ jm_W := jm_ok (jm_in3 123 rfl) rfl
theorem wi_CW_nameOnTape : (Cond.instanceMethod ⟨"CellWorks", "nameOnTape", "()J"⟩) ∈ jm_W := jm_ok (jm_in3 125 rfl) rfl
theorem wc_CW_nameOnTape : (Cond.code ⟨"CellWorks", "nameOnTape", "()J"⟩ prog_1_method_14_code 3 (some FieldType.long)) ∈ jm_W := jm_ok (jm_in3 126 rfl) rfl
theorem lk_CW_141 : (Cond.methodLink "CellWorks" 141 ⟨"CellWorks$Tape", "onlyName", "()J"⟩) ∈ jm_W := jm_ok (jm_in3 127 rfl) rfl
theorem wi_Tp_onlyName : (Cond.instanceMethod ⟨"CellWorks$Tape", "onlyName", "()J"⟩) ∈ jm_W := jm_ok (jm_in3 128 rfl) rfl
theorem ws_Tp_onlyName : (Cond.selects "CellWorks$Tape" ⟨"CellWorks$Tape", "onlyName", "()J"⟩ ⟨"CellWorks$Tape", "onlyName", "()J"⟩) ∈ jm_W := jm_ok (jm_in3 129 rfl) rfl
theorem wc_Tp_onlyName : (Cond.code ⟨"CellWorks$Tape", "onlyName", "()J"⟩ prog_7_method_5_code 3 (some FieldType.long)) ∈ jm_W := jm_ok (jm_in3 130 rfl) rfl
theorem lk_Tp_35 : (Cond.methodLink "CellWorks$Tape" 35 ⟨"CellWorks$Tape", "rewind", "()V"⟩) ∈ jm_W := jm_ok (jm_in3 131 rfl) rfl
theorem lk_Tp_38 : (Cond.methodLink "CellWorks$Tape" 38 ⟨"CellWorks$Tape", "readToken", "()V"⟩) ∈ jm_W := jm_ok (jm_in3 132 rfl) rfl
theorem lk_CW_144 : (Cond.classLink "CellWorks" 144 "java/util/NoSuchElementException") ∈ jm_W := jm_ok (jm_in3 133 rfl) rfl
theorem lk_CW_146 : (Cond.stringRef "CellWorks" 146 "the tape is no NAME") ∈ lw_tbl := jm_in3 142 rfl
theorem lk_CW_148 : (Cond.methodLink "CellWorks" 148 ⟨"java/util/NoSuchElementException", "<init>", "(Ljava/lang/String;)V"⟩) ∈ jm_W := jm_ok (jm_in3 143 rfl) rfl
theorem lk_CW_73 : (Cond.methodLink "CellWorks" 73 ⟨"CellWorks$Cells", "drop", "(J)Z"⟩) ∈ jm_W := jm_ok (jm_in3 149 rfl) rfl
theorem wi_Cs_drop : (Cond.instanceMethod ⟨"CellWorks$Cells", "drop", "(J)Z"⟩) ∈ jm_W := jm_ok (jm_in3 150 rfl) rfl
theorem ws_Cs_drop : (Cond.selects "CellWorks$Cells" ⟨"CellWorks$Cells", "drop", "(J)Z"⟩ ⟨"CellWorks$Cells", "drop", "(J)Z"⟩) ∈ jm_W := jm_ok (jm_in3 151 rfl) rfl
theorem wc_Cs_drop : (Cond.code ⟨"CellWorks$Cells", "drop", "(J)Z"⟩ prog_4_method_6_code 5 (some FieldType.boolean)) ∈ jm_W := jm_ok (jm_in3 152 rfl) rfl
theorem lk_Lw_81 : (Cond.methodLink "CellWorksLaw" 81 ⟨"CellWorksLaw", "build", "(LCellWorks;[J)I"⟩) ∈ jm_W := jm_ok (jm_in3 153 rfl) rfl
theorem wt_Lw_build : (Cond.static ⟨"CellWorksLaw", "build", "(LCellWorks;[J)I"⟩) ∈ jm_W := jm_ok (jm_in3 154 rfl) rfl
theorem wc_Lw_build : (Cond.codeWith ⟨"CellWorksLaw", "build", "(LCellWorks;[J)I"⟩ method_6_code 3 (some FieldType.int) [(0, 8, 11, 25)]) ∈ jm_W := jm_ok (jm_in3 155 rfl) rfl
theorem lk_Lw_27 : (Cond.methodLink "CellWorksLaw" 27 ⟨"CellWorks", "build", "()I"⟩) ∈ jm_W := jm_ok (jm_in3 156 rfl) rfl
theorem wi_CW_build : (Cond.instanceMethod ⟨"CellWorks", "build", "()I"⟩) ∈ jm_W := jm_ok (jm_in3 157 rfl) rfl
theorem ws_CW_build : (Cond.selects "CellWorks" ⟨"CellWorks", "build", "()I"⟩ ⟨"CellWorks", "build", "()I"⟩) ∈ jm_W := jm_ok (jm_in3 158 rfl) rfl
theorem wc_CW_build : (Cond.code ⟨"CellWorks", "build", "()I"⟩ prog_1_method_7_code 5 (some FieldType.int)) ∈ jm_W := jm_ok (jm_in3 159 rfl) rfl
theorem lk_CW_77 : (Cond.methodLink "CellWorks" 77 ⟨"CellWorks$Cells", "indexOf", "(J)I"⟩) ∈ jm_W := jm_ok (jm_in3 160 rfl) rfl
theorem lk_Lw_88 : (Cond.methodLink "CellWorksLaw" 88 ⟨"CellWorksLaw", "value", "(LCellWorks;[J)I"⟩) ∈ jm_W := jm_ok (jm_in3 161 rfl) rfl
theorem wt_Lw_value : (Cond.static ⟨"CellWorksLaw", "value", "(LCellWorks;[J)I"⟩) ∈ jm_W := jm_ok (jm_in3 162 rfl) rfl
theorem wc_Lw_value : (Cond.codeWith ⟨"CellWorksLaw", "value", "(LCellWorks;[J)I"⟩ method_7_code 3 (some FieldType.int) [(0, 7, 10, 25)]) ∈ jm_W := jm_ok (jm_in3 163 rfl) rfl
theorem lk_Lw_31 : (Cond.methodLink "CellWorksLaw" 31 ⟨"CellWorks", "value", "()J"⟩) ∈ jm_W := jm_ok (jm_in3 164 rfl) rfl
theorem wi_CW_value : (Cond.instanceMethod ⟨"CellWorks", "value", "()J"⟩) ∈ jm_W := jm_ok (jm_in3 165 rfl) rfl
theorem ws_CW_value : (Cond.selects "CellWorks" ⟨"CellWorks", "value", "()J"⟩ ⟨"CellWorks", "value", "()J"⟩) ∈ jm_W := jm_ok (jm_in3 166 rfl) rfl
theorem wc_CW_value : (Cond.code ⟨"CellWorks", "value", "()J"⟩ prog_1_method_9_code 1 (some FieldType.long)) ∈ jm_W := jm_ok (jm_in3 167 rfl) rfl
theorem lk_CW_92 : (Cond.methodLink "CellWorks" 92 ⟨"CellWorks$Cells", "valueOf", "(LCellWorks$Cell;)J"⟩) ∈ jm_W := jm_ok (jm_in3 168 rfl) rfl
theorem lk_Lw_91 : (Cond.methodLink "CellWorksLaw" 91 ⟨"CellWorksLaw", "state", "(LCellWorks;[J)I"⟩) ∈ jm_W := jm_ok (jm_in3 169 rfl) rfl
theorem wt_Lw_state : (Cond.static ⟨"CellWorksLaw", "state", "(LCellWorks;[J)I"⟩) ∈ jm_W := jm_ok (jm_in3 170 rfl) rfl
theorem wc_Lw_state : (Cond.codeWith ⟨"CellWorksLaw", "state", "(LCellWorks;[J)I"⟩ method_8_code 3 (some FieldType.int) [(0, 8, 11, 25)]) ∈ jm_W := jm_ok (jm_in3 171 rfl) rfl
theorem lk_Lw_35 : (Cond.methodLink "CellWorksLaw" 35 ⟨"CellWorks", "state", "()I"⟩) ∈ jm_W := jm_ok (jm_in3 172 rfl) rfl
theorem wi_CW_state : (Cond.instanceMethod ⟨"CellWorks", "state", "()I"⟩) ∈ jm_W := jm_ok (jm_in3 173 rfl) rfl
theorem ws_CW_state : (Cond.selects "CellWorks" ⟨"CellWorks", "state", "()I"⟩ ⟨"CellWorks", "state", "()I"⟩) ∈ jm_W := jm_ok (jm_in3 174 rfl) rfl
theorem wc_CW_state : (Cond.code ⟨"CellWorks", "state", "()I"⟩ prog_1_method_10_code 2 (some FieldType.int)) ∈ jm_W := jm_ok (jm_in3 175 rfl) rfl
theorem lk_CW_101 : (Cond.methodLink "CellWorks" 101 ⟨"CellWorks$Cells", "isStale", "(LCellWorks$Cell;)Z"⟩) ∈ jm_W := jm_ok (jm_in3 176 rfl) rfl
theorem lk_Lw_94 : (Cond.methodLink "CellWorksLaw" 94 ⟨"CellWorksLaw", "readers", "(LCellWorks;Z[J)I"⟩) ∈ jm_W := jm_ok (jm_in3 177 rfl) rfl
theorem wt_Lw_readers : (Cond.static ⟨"CellWorksLaw", "readers", "(LCellWorks;Z[J)I"⟩) ∈ jm_W := jm_ok (jm_in3 178 rfl) rfl
theorem wc_Lw_readers : (Cond.codeWith ⟨"CellWorksLaw", "readers", "(LCellWorks;Z[J)I"⟩ method_9_code 4 (some FieldType.int) [(0, 9, 12, 25)]) ∈ jm_W := jm_ok (jm_in3 179 rfl) rfl
theorem lk_Lw_38 : (Cond.methodLink "CellWorksLaw" 38 ⟨"CellWorks", "readers", "(Z)I"⟩) ∈ jm_W := jm_ok (jm_in3 180 rfl) rfl
theorem wi_CW_readers : (Cond.instanceMethod ⟨"CellWorks", "readers", "(Z)I"⟩) ∈ jm_W := jm_ok (jm_in3 181 rfl) rfl
theorem ws_CW_readers : (Cond.selects "CellWorks" ⟨"CellWorks", "readers", "(Z)I"⟩ ⟨"CellWorks", "readers", "(Z)I"⟩) ∈ jm_W := jm_ok (jm_in3 182 rfl) rfl
theorem wc_CW_readers : (Cond.code ⟨"CellWorks", "readers", "(Z)I"⟩ prog_1_method_11_code 4 (some FieldType.int)) ∈ jm_W := jm_ok (jm_in3 183 rfl) rfl
theorem lk_CW_105 : (Cond.methodLink "CellWorks" 105 ⟨"CellWorks$Cells", "dependents", "(J)J"⟩) ∈ jm_W := jm_ok (jm_in3 184 rfl) rfl
theorem lk_CW_109 : (Cond.methodLink "CellWorks" 109 ⟨"CellWorks$Cells", "directReaders", "(J)J"⟩) ∈ jm_W := jm_ok (jm_in3 185 rfl) rfl
theorem lk_CW_112 : (Cond.methodLink "CellWorks" 112 ⟨"java/lang/Long", "bitCount", "(J)I"⟩) ∈ jm_W := jm_ok (jm_in3 186 rfl) rfl
theorem wt_Lo_bitCount : (Cond.static ⟨"java/lang/Long", "bitCount", "(J)I"⟩) ∈ jm_W := jm_ok (jm_in3 187 rfl) rfl
theorem wc_Lo_bitCount : (Cond.code ⟨"java/lang/Long", "bitCount", "(J)I"⟩ prog_14_method_50_code 2 (some FieldType.int)) ∈ jm_W := jm_ok (jm_in3 188 rfl) rfl
theorem lk_Lo_314 : (Cond.constantLong "java/lang/Long" 314 (6148914691236517205 : Int64)) ∈ jm_W := jm_ok (jm_in3 189 rfl) rfl
theorem lk_Lo_316 : (Cond.constantLong "java/lang/Long" 316 (3689348814741910323 : Int64)) ∈ jm_W := jm_ok (jm_in3 190 rfl) rfl
theorem lk_Lo_318 : (Cond.constantLong "java/lang/Long" 318 (1085102592571150095 : Int64)) ∈ jm_W := jm_ok (jm_in3 191 rfl) rfl
theorem lk_Lw_98 : (Cond.methodLink "CellWorksLaw" 98 ⟨"CellWorksLaw", "built", "(LCellWorks;II[J)I"⟩) ∈ jm_W := jm_ok (jm_in3 192 rfl) rfl
theorem wt_Lw_built : (Cond.static ⟨"CellWorksLaw", "built", "(LCellWorks;II[J)I"⟩) ∈ jm_W := jm_ok (jm_in3 193 rfl) rfl
theorem wc_Lw_built : (Cond.codeWith ⟨"CellWorksLaw", "built", "(LCellWorks;II[J)I"⟩ method_10_code 5 (some FieldType.int) [(0, 10, 13, 46)]) ∈ jm_W := jm_ok (jm_in3 194 rfl) rfl
theorem lk_Lw_46 : (Cond.classLink "CellWorksLaw" 46 "java/lang/IndexOutOfBoundsException") ∈ jm_W := jm_ok (jm_in3 195 rfl) rfl
theorem lk_Lw_42 : (Cond.methodLink "CellWorksLaw" 42 ⟨"CellWorks", "built", "(II)I"⟩) ∈ jm_W := jm_ok (jm_in3 196 rfl) rfl
theorem wi_CW_built : (Cond.instanceMethod ⟨"CellWorks", "built", "(II)I"⟩) ∈ jm_W := jm_ok (jm_in3 197 rfl) rfl
theorem ws_CW_built : (Cond.selects "CellWorks" ⟨"CellWorks", "built", "(II)I"⟩ ⟨"CellWorks", "built", "(II)I"⟩) ∈ jm_W := jm_ok (jm_in3 198 rfl) rfl
theorem wc_CW_built : (Cond.code ⟨"CellWorks", "built", "(II)I"⟩ prog_1_method_12_code 4 (some FieldType.int)) ∈ jm_W := jm_ok (jm_in3 199 rfl) rfl
theorem lk_CW_117 : (Cond.methodLink "CellWorks" 117 ⟨"CellWorks$Builder", "byteOfLatest", "(II)I"⟩) ∈ jm_W := jm_ok (jm_in3 200 rfl) rfl
theorem wi_Bd_byteOfLatest : (Cond.instanceMethod ⟨"CellWorks$Builder", "byteOfLatest", "(II)I"⟩) ∈ jm_W := jm_ok (jm_in3 201 rfl) rfl
theorem ws_Bd_byteOfLatest : (Cond.selects "CellWorks$Builder" ⟨"CellWorks$Builder", "byteOfLatest", "(II)I"⟩ ⟨"CellWorks$Builder", "byteOfLatest", "(II)I"⟩) ∈ jm_W := jm_ok (jm_in3 202 rfl) rfl
theorem wc_Bd_byteOfLatest : (Cond.code ⟨"CellWorks$Builder", "byteOfLatest", "(II)I"⟩ prog_2_method_5_code 4 (some FieldType.int)) ∈ jm_W := jm_ok (jm_in3 203 rfl) rfl
theorem lk_CW_121 : (Cond.classLink "CellWorks" 121 "java/lang/IndexOutOfBoundsException") ∈ jm_W := jm_ok (jm_in3 204 rfl) rfl
theorem lk_CW_123 : (Cond.stringRef "CellWorks" 123 "there is no such name or byte") ∈ lw_tbl := jm_in3 213 rfl
theorem lk_CW_125 : (Cond.methodLink "CellWorks" 125 ⟨"java/lang/IndexOutOfBoundsException", "<init>", "(Ljava/lang/String;)V"⟩) ∈ jm_W := jm_ok (jm_in3 214 rfl) rfl
theorem lk_Lw_102 : (Cond.methodLink "CellWorksLaw" 102 ⟨"CellWorksLaw", "count", "(LCellWorks;I[J)I"⟩) ∈ jm_W := jm_ok (jm_in3 220 rfl) rfl
theorem wt_Lw_count : (Cond.static ⟨"CellWorksLaw", "count", "(LCellWorks;I[J)I"⟩) ∈ jm_W := jm_ok (jm_in3 221 rfl) rfl
theorem wc_Lw_count : (Cond.codeWith ⟨"CellWorksLaw", "count", "(LCellWorks;I[J)I"⟩ method_11_code 4 (some FieldType.int) [(0, 9, 12, 19)]) ∈ jm_W := jm_ok (jm_in3 222 rfl) rfl
theorem lk_Lw_48 : (Cond.methodLink "CellWorksLaw" 48 ⟨"CellWorks", "count", "(I)I"⟩) ∈ jm_W := jm_ok (jm_in3 223 rfl) rfl
theorem wi_CW_count : (Cond.instanceMethod ⟨"CellWorks", "count", "(I)I"⟩) ∈ jm_W := jm_ok (jm_in3 224 rfl) rfl
theorem ws_CW_count : (Cond.selects "CellWorks" ⟨"CellWorks", "count", "(I)I"⟩ ⟨"CellWorks", "count", "(I)I"⟩) ∈ jm_W := jm_ok (jm_in3 225 rfl) rfl
theorem wc_CW_count : (Cond.code ⟨"CellWorks", "count", "(I)I"⟩ prog_1_method_13_code 2 (some FieldType.int)) ∈ jm_W := jm_ok (jm_in3 226 rfl) rfl
theorem lk_CW_129 : (Cond.methodLink "CellWorks" 129 ⟨"CellWorks$Cells", "staleOnes", "()I"⟩) ∈ jm_W := jm_ok (jm_in3 227 rfl) rfl
theorem wi_Cs_staleOnes : (Cond.instanceMethod ⟨"CellWorks$Cells", "staleOnes", "()I"⟩) ∈ jm_W := jm_ok (jm_in3 228 rfl) rfl
theorem ws_Cs_staleOnes : (Cond.selects "CellWorks$Cells" ⟨"CellWorks$Cells", "staleOnes", "()I"⟩ ⟨"CellWorks$Cells", "staleOnes", "()I"⟩) ∈ jm_W := jm_ok (jm_in3 229 rfl) rfl
theorem wc_Cs_staleOnes : (Cond.code ⟨"CellWorks$Cells", "staleOnes", "()I"⟩ prog_4_method_11_code 3 (some FieldType.int)) ∈ jm_W := jm_ok (jm_in3 230 rfl) rfl
theorem lk_Cs_77 : (Cond.methodLink "CellWorks$Cells" 77 ⟨"CellWorks$Cells", "isStale", "(LCellWorks$Cell;)Z"⟩) ∈ jm_W := jm_ok (jm_in3 231 rfl) rfl
theorem lk_CW_139 : (Cond.stringRef "CellWorks" 139 "what is none of 0 to 4") ∈ lw_tbl := jm_in3 232 rfl
theorem lk_Lw_53 : (Cond.classLink "CellWorksLaw" 53 "CellWorksModel") ∈ jm_W := jm_ok (jm_in3 233 rfl) rfl
theorem wk_Md : (Cond.instantiable "CellWorksModel" 45) ∈ jm_W := jm_ok (jm_in3 234 rfl) rfl
theorem lk_Lw_55 : (Cond.methodLink "CellWorksLaw" 55 ⟨"CellWorksModel", "<init>", "()V"⟩) ∈ jm_W := jm_ok (jm_in3 235 rfl) rfl
theorem wi_Md_init : (Cond.instanceMethod ⟨"CellWorksModel", "<init>", "()V"⟩) ∈ jm_W := jm_ok (jm_in3 236 rfl) rfl
theorem wc_Md_init : (Cond.code ⟨"CellWorksModel", "<init>", "()V"⟩ prog_10_method_1_code 1 none) ∈ jm_W := jm_ok (jm_in3 237 rfl) rfl
theorem lk_Md_1 : (Cond.methodLink "CellWorksModel" 1 ⟨"java/lang/Object", "<init>", "()V"⟩) ∈ jm_W := jm_ok (jm_in3 238 rfl) rfl
theorem lk_Md_96 : (Cond.fieldLink "CellWorksModel" 96 "CellWorksModel" "thrown" "I") ∈ jm_W := jm_ok (jm_in3 239 rfl) rfl
theorem lk_Md_7 : (Cond.fieldLink "CellWorksModel" 7 "CellWorksModel" "tape" "[I") ∈ jm_W := jm_ok (jm_in4 0 rfl) rfl
theorem lk_Md_100 : (Cond.fieldLink "CellWorksModel" 100 "CellWorksModel" "tapeSize" "I") ∈ jm_W := jm_ok (jm_in4 1 rfl) rfl
theorem lk_Md_144 : (Cond.fieldLink "CellWorksModel" 144 "CellWorksModel" "faultCode" "I") ∈ jm_W := jm_ok (jm_in4 2 rfl) rfl
theorem lk_Md_147 : (Cond.fieldLink "CellWorksModel" 147 "CellWorksModel" "faultPlace" "I") ∈ jm_W := jm_ok (jm_in4 3 rfl) rfl
theorem lk_Md_13 : (Cond.fieldLink "CellWorksModel" 13 "CellWorksModel" "there" "[Z") ∈ jm_W := jm_ok (jm_in4 4 rfl) rfl
theorem lk_Md_17 : (Cond.fieldLink "CellWorksModel" 17 "CellWorksModel" "names" "[J") ∈ jm_W := jm_ok (jm_in4 5 rfl) rfl
theorem lk_Md_21 : (Cond.fieldLink "CellWorksModel" 21 "CellWorksModel" "results" "[I") ∈ jm_W := jm_ok (jm_in4 6 rfl) rfl
theorem lk_Md_24 : (Cond.fieldLink "CellWorksModel" 24 "CellWorksModel" "values" "[J") ∈ jm_W := jm_ok (jm_in4 7 rfl) rfl
theorem lk_Md_27 : (Cond.fieldLink "CellWorksModel" 27 "CellWorksModel" "worked" "[Z") ∈ jm_W := jm_ok (jm_in4 8 rfl) rfl
theorem lk_Md_30 : (Cond.fieldLink "CellWorksModel" 30 "CellWorksModel" "roots" "[I") ∈ jm_W := jm_ok (jm_in4 9 rfl) rfl
theorem lk_Md_33 : (Cond.fieldLink "CellWorksModel" 33 "CellWorksModel" "nodeCounts" "[I") ∈ jm_W := jm_ok (jm_in4 10 rfl) rfl
theorem lk_Md_36 : (Cond.fieldLink "CellWorksModel" 36 "CellWorksModel" "kinds" "[I") ∈ jm_W := jm_ok (jm_in4 11 rfl) rfl
theorem lk_Md_39 : (Cond.fieldLink "CellWorksModel" 39 "CellWorksModel" "ones" "[I") ∈ jm_W := jm_ok (jm_in4 12 rfl) rfl
theorem lk_Md_42 : (Cond.fieldLink "CellWorksModel" 42 "CellWorksModel" "twos" "[I") ∈ jm_W := jm_ok (jm_in4 13 rfl) rfl
theorem lk_Md_45 : (Cond.fieldLink "CellWorksModel" 45 "CellWorksModel" "threes" "[I") ∈ jm_W := jm_ok (jm_in4 14 rfl) rfl
theorem lk_Md_48 : (Cond.fieldLink "CellWorksModel" 48 "CellWorksModel" "amounts" "[J") ∈ jm_W := jm_ok (jm_in4 15 rfl) rfl
theorem lk_Md_51 : (Cond.fieldLink "CellWorksModel" 51 "CellWorksModel" "seenResults" "[I") ∈ jm_W := jm_ok (jm_in4 16 rfl) rfl
theorem lk_Md_54 : (Cond.fieldLink "CellWorksModel" 54 "CellWorksModel" "seenValues" "[J") ∈ jm_W := jm_ok (jm_in4 17 rfl) rfl
theorem lk_Md_254 : (Cond.fieldLink "CellWorksModel" 254 "CellWorksModel" "workedInAll" "I") ∈ jm_W := jm_ok (jm_in4 18 rfl) rfl
theorem lk_Md_57 : (Cond.fieldLink "CellWorksModel" 57 "CellWorksModel" "built" "[J") ∈ jm_W := jm_ok (jm_in4 19 rfl) rfl
theorem lk_Md_257 : (Cond.fieldLink "CellWorksModel" 257 "CellWorksModel" "builtCount" "I") ∈ jm_W := jm_ok (jm_in4 20 rfl) rfl
theorem lk_Md_103 : (Cond.fieldLink "CellWorksModel" 103 "CellWorksModel" "place" "I") ∈ jm_W := jm_ok (jm_in4 21 rfl) rfl
theorem lk_Md_114 : (Cond.fieldLink "CellWorksModel" 114 "CellWorksModel" "tokenFrom" "I") ∈ jm_W := jm_ok (jm_in4 22 rfl) rfl
theorem lk_Md_117 : (Cond.fieldLink "CellWorksModel" 117 "CellWorksModel" "token" "I") ∈ jm_W := jm_ok (jm_in4 23 rfl) rfl
theorem lk_Md_123 : (Cond.fieldLink "CellWorksModel" 123 "CellWorksModel" "tokenAmount" "J") ∈ jm_W := jm_ok (jm_in4 24 rfl) rfl
theorem lk_Md_60 : (Cond.fieldLink "CellWorksModel" 60 "CellWorksModel" "newKinds" "[I") ∈ jm_W := jm_ok (jm_in4 25 rfl) rfl
theorem lk_Md_63 : (Cond.fieldLink "CellWorksModel" 63 "CellWorksModel" "newOnes" "[I") ∈ jm_W := jm_ok (jm_in4 26 rfl) rfl
theorem lk_Md_66 : (Cond.fieldLink "CellWorksModel" 66 "CellWorksModel" "newTwos" "[I") ∈ jm_W := jm_ok (jm_in4 27 rfl) rfl
theorem lk_Md_69 : (Cond.fieldLink "CellWorksModel" 69 "CellWorksModel" "newThrees" "[I") ∈ jm_W := jm_ok (jm_in4 28 rfl) rfl
theorem lk_Md_72 : (Cond.fieldLink "CellWorksModel" 72 "CellWorksModel" "newAmounts" "[J") ∈ jm_W := jm_ok (jm_in4 29 rfl) rfl
theorem lk_Md_75 : (Cond.fieldLink "CellWorksModel" 75 "CellWorksModel" "newPlaces" "[I") ∈ jm_W := jm_ok (jm_in4 30 rfl) rfl
theorem lk_Md_154 : (Cond.fieldLink "CellWorksModel" 154 "CellWorksModel" "newCount" "I") ∈ jm_W := jm_ok (jm_in4 31 rfl) rfl
theorem lk_Md_78 : (Cond.fieldLink "CellWorksModel" 78 "CellWorksModel" "waiting" "[I") ∈ jm_W := jm_ok (jm_in4 32 rfl) rfl
theorem lk_Md_81 : (Cond.fieldLink "CellWorksModel" 81 "CellWorksModel" "given" "[I") ∈ jm_W := jm_ok (jm_in4 33 rfl) rfl
theorem lk_Md_157 : (Cond.fieldLink "CellWorksModel" 157 "CellWorksModel" "waitingCount" "I") ∈ jm_W := jm_ok (jm_in4 34 rfl) rfl
theorem lk_Md_84 : (Cond.fieldLink "CellWorksModel" 84 "CellWorksModel" "parts" "[I") ∈ jm_W := jm_ok (jm_in4 35 rfl) rfl
theorem lk_Md_166 : (Cond.fieldLink "CellWorksModel" 166 "CellWorksModel" "partCount" "I") ∈ jm_W := jm_ok (jm_in4 36 rfl) rfl
theorem lk_Md_169 : (Cond.fieldLink "CellWorksModel" 169 "CellWorksModel" "depth" "I") ∈ jm_W := jm_ok (jm_in4 37 rfl) rfl
theorem lk_Md_231 : (Cond.fieldLink "CellWorksModel" 231 "CellWorksModel" "error" "I") ∈ jm_W := jm_ok (jm_in4 38 rfl) rfl
theorem lk_Md_87 : (Cond.fieldLink "CellWorksModel" 87 "CellWorksModel" "pile" "[I") ∈ jm_W := jm_ok (jm_in4 39 rfl) rfl
theorem lk_Md_90 : (Cond.fieldLink "CellWorksModel" 90 "CellWorksModel" "phases" "[I") ∈ jm_W := jm_ok (jm_in4 40 rfl) rfl
theorem lk_Md_93 : (Cond.fieldLink "CellWorksModel" 93 "CellWorksModel" "kept" "[J") ∈ jm_W := jm_ok (jm_in4 41 rfl) rfl
theorem lk_Md_225 : (Cond.fieldLink "CellWorksModel" 225 "CellWorksModel" "high" "I") ∈ jm_W := jm_ok (jm_in4 42 rfl) rfl
theorem lk_Md_237 : (Cond.fieldLink "CellWorksModel" 237 "CellWorksModel" "answer" "J") ∈ jm_W := jm_ok (jm_in4 43 rfl) rfl
theorem wl_Md_thrown : (Cond.lays "CellWorksModel" "CellWorksModel" "thrown" "I") ∈ jm_W := jm_ok (jm_in4 44 rfl) rfl
theorem wl_Md_tape : (Cond.laysFinal "CellWorksModel" "CellWorksModel" "tape" "[I") ∈ jm_W := jm_ok (jm_in4 46 rfl) rfl
theorem wl_Md_tapeSize : (Cond.lays "CellWorksModel" "CellWorksModel" "tapeSize" "I") ∈ jm_W := jm_ok (jm_in4 48 rfl) rfl
theorem wl_Md_faultCode : (Cond.lays "CellWorksModel" "CellWorksModel" "faultCode" "I") ∈ jm_W := jm_ok (jm_in4 50 rfl) rfl
theorem wl_Md_faultPlace : (Cond.lays "CellWorksModel" "CellWorksModel" "faultPlace" "I") ∈ jm_W := jm_ok (jm_in4 52 rfl) rfl
theorem wl_Md_there : (Cond.laysFinal "CellWorksModel" "CellWorksModel" "there" "[Z") ∈ jm_W := jm_ok (jm_in4 54 rfl) rfl
theorem wl_Md_names : (Cond.laysFinal "CellWorksModel" "CellWorksModel" "names" "[J") ∈ jm_W := jm_ok (jm_in4 56 rfl) rfl
theorem wl_Md_results : (Cond.laysFinal "CellWorksModel" "CellWorksModel" "results" "[I") ∈ jm_W := jm_ok (jm_in4 58 rfl) rfl
theorem wl_Md_values : (Cond.laysFinal "CellWorksModel" "CellWorksModel" "values" "[J") ∈ jm_W := jm_ok (jm_in4 60 rfl) rfl
theorem wl_Md_worked : (Cond.laysFinal "CellWorksModel" "CellWorksModel" "worked" "[Z") ∈ jm_W := jm_ok (jm_in4 62 rfl) rfl
theorem wl_Md_roots : (Cond.laysFinal "CellWorksModel" "CellWorksModel" "roots" "[I") ∈ jm_W := jm_ok (jm_in4 64 rfl) rfl
theorem wl_Md_nodeCounts : (Cond.laysFinal "CellWorksModel" "CellWorksModel" "nodeCounts" "[I") ∈ jm_W := jm_ok (jm_in4 66 rfl) rfl
theorem wl_Md_kinds : (Cond.laysFinal "CellWorksModel" "CellWorksModel" "kinds" "[I") ∈ jm_W := jm_ok (jm_in4 68 rfl) rfl
theorem wl_Md_ones : (Cond.laysFinal "CellWorksModel" "CellWorksModel" "ones" "[I") ∈ jm_W := jm_ok (jm_in4 70 rfl) rfl
theorem wl_Md_twos : (Cond.laysFinal "CellWorksModel" "CellWorksModel" "twos" "[I") ∈ jm_W := jm_ok (jm_in4 72 rfl) rfl
theorem wl_Md_threes : (Cond.laysFinal "CellWorksModel" "CellWorksModel" "threes" "[I") ∈ jm_W := jm_ok (jm_in4 74 rfl) rfl
theorem wl_Md_amounts : (Cond.laysFinal "CellWorksModel" "CellWorksModel" "amounts" "[J") ∈ jm_W := jm_ok (jm_in4 76 rfl) rfl
theorem wl_Md_seenResults : (Cond.laysFinal "CellWorksModel" "CellWorksModel" "seenResults" "[I") ∈ jm_W := jm_ok (jm_in4 78 rfl) rfl
theorem wl_Md_seenValues : (Cond.laysFinal "CellWorksModel" "CellWorksModel" "seenValues" "[J") ∈ jm_W := jm_ok (jm_in4 80 rfl) rfl
theorem wl_Md_workedInAll : (Cond.lays "CellWorksModel" "CellWorksModel" "workedInAll" "I") ∈ jm_W := jm_ok (jm_in4 82 rfl) rfl
theorem wl_Md_built : (Cond.laysFinal "CellWorksModel" "CellWorksModel" "built" "[J") ∈ jm_W := jm_ok (jm_in4 84 rfl) rfl
theorem wl_Md_builtCount : (Cond.lays "CellWorksModel" "CellWorksModel" "builtCount" "I") ∈ jm_W := jm_ok (jm_in4 86 rfl) rfl
theorem wl_Md_place : (Cond.lays "CellWorksModel" "CellWorksModel" "place" "I") ∈ jm_W := jm_ok (jm_in4 88 rfl) rfl
theorem wl_Md_tokenFrom : (Cond.lays "CellWorksModel" "CellWorksModel" "tokenFrom" "I") ∈ jm_W := jm_ok (jm_in4 90 rfl) rfl
theorem wl_Md_token : (Cond.lays "CellWorksModel" "CellWorksModel" "token" "I") ∈ jm_W := jm_ok (jm_in4 92 rfl) rfl
theorem wl_Md_tokenAmount : (Cond.lays "CellWorksModel" "CellWorksModel" "tokenAmount" "J") ∈ jm_W := jm_ok (jm_in4 94 rfl) rfl
theorem wl_Md_newKinds : (Cond.laysFinal "CellWorksModel" "CellWorksModel" "newKinds" "[I") ∈ jm_W := jm_ok (jm_in4 96 rfl) rfl
theorem wl_Md_newOnes : (Cond.laysFinal "CellWorksModel" "CellWorksModel" "newOnes" "[I") ∈ jm_W := jm_ok (jm_in4 98 rfl) rfl
theorem wl_Md_newTwos : (Cond.laysFinal "CellWorksModel" "CellWorksModel" "newTwos" "[I") ∈ jm_W := jm_ok (jm_in4 100 rfl) rfl
theorem wl_Md_newThrees : (Cond.laysFinal "CellWorksModel" "CellWorksModel" "newThrees" "[I") ∈ jm_W := jm_ok (jm_in4 102 rfl) rfl
theorem wl_Md_newAmounts : (Cond.laysFinal "CellWorksModel" "CellWorksModel" "newAmounts" "[J") ∈ jm_W := jm_ok (jm_in4 104 rfl) rfl
theorem wl_Md_newPlaces : (Cond.laysFinal "CellWorksModel" "CellWorksModel" "newPlaces" "[I") ∈ jm_W := jm_ok (jm_in4 106 rfl) rfl
theorem wl_Md_newCount : (Cond.lays "CellWorksModel" "CellWorksModel" "newCount" "I") ∈ jm_W := jm_ok (jm_in4 108 rfl) rfl
theorem wl_Md_waiting : (Cond.laysFinal "CellWorksModel" "CellWorksModel" "waiting" "[I") ∈ jm_W := jm_ok (jm_in4 110 rfl) rfl
theorem wl_Md_given : (Cond.laysFinal "CellWorksModel" "CellWorksModel" "given" "[I") ∈ jm_W := jm_ok (jm_in4 112 rfl) rfl
theorem wl_Md_waitingCount : (Cond.lays "CellWorksModel" "CellWorksModel" "waitingCount" "I") ∈ jm_W := jm_ok (jm_in4 114 rfl) rfl
theorem wl_Md_parts : (Cond.laysFinal "CellWorksModel" "CellWorksModel" "parts" "[I") ∈ jm_W := jm_ok (jm_in4 116 rfl) rfl
theorem wl_Md_partCount : (Cond.lays "CellWorksModel" "CellWorksModel" "partCount" "I") ∈ jm_W := jm_ok (jm_in4 118 rfl) rfl
theorem wl_Md_depth : (Cond.lays "CellWorksModel" "CellWorksModel" "depth" "I") ∈ jm_W := jm_ok (jm_in4 120 rfl) rfl
theorem wl_Md_error : (Cond.lays "CellWorksModel" "CellWorksModel" "error" "I") ∈ jm_W := jm_ok (jm_in4 122 rfl) rfl
theorem wl_Md_pile : (Cond.laysFinal "CellWorksModel" "CellWorksModel" "pile" "[I") ∈ jm_W := jm_ok (jm_in4 124 rfl) rfl
theorem wl_Md_phases : (Cond.laysFinal "CellWorksModel" "CellWorksModel" "phases" "[I") ∈ jm_W := jm_ok (jm_in4 126 rfl) rfl
theorem wl_Md_kept : (Cond.laysFinal "CellWorksModel" "CellWorksModel" "kept" "[J") ∈ jm_W := jm_ok (jm_in4 128 rfl) rfl
theorem wl_Md_high : (Cond.lays "CellWorksModel" "CellWorksModel" "high" "I") ∈ jm_W := jm_ok (jm_in4 130 rfl) rfl
theorem wl_Md_answer : (Cond.lays "CellWorksModel" "CellWorksModel" "answer" "J") ∈ jm_W := jm_ok (jm_in4 132 rfl) rfl
theorem wa_boolean : (Cond.arrayClass FieldType.boolean) ∈ jm_W := jm_ok (jm_in4 135 rfl) rfl
theorem lk_Lw_62 : (Cond.methodLink "CellWorksLaw" 62 ⟨"CellWorksModel", "thrown", "()I"⟩) ∈ jm_W := jm_ok (jm_in4 136 rfl) rfl
theorem wi_Md_thrown : (Cond.instanceMethod ⟨"CellWorksModel", "thrown", "()I"⟩) ∈ jm_W := jm_ok (jm_in4 137 rfl) rfl
theorem ws_Md_thrown : (Cond.selects "CellWorksModel" ⟨"CellWorksModel", "thrown", "()I"⟩ ⟨"CellWorksModel", "thrown", "()I"⟩) ∈ jm_W := jm_ok (jm_in4 138 rfl) rfl
theorem wc_Md_thrown : (Cond.code ⟨"CellWorksModel", "thrown", "()I"⟩ prog_10_method_2_code 1 (some FieldType.int)) ∈ jm_W := jm_ok (jm_in4 139 rfl) rfl
theorem lk_Lw_72 : (Cond.methodLink "CellWorksLaw" 72 ⟨"CellWorksModel", "define", "()I"⟩) ∈ jm_W := jm_ok (jm_in4 140 rfl) rfl
theorem wi_Md_define : (Cond.instanceMethod ⟨"CellWorksModel", "define", "()I"⟩) ∈ jm_W := jm_ok (jm_in4 141 rfl) rfl
theorem ws_Md_define : (Cond.selects "CellWorksModel" ⟨"CellWorksModel", "define", "()I"⟩ ⟨"CellWorksModel", "define", "()I"⟩) ∈ jm_W := jm_ok (jm_in4 142 rfl) rfl
theorem wc_Md_define : (Cond.code ⟨"CellWorksModel", "define", "()I"⟩ prog_10_method_27_code 10 (some FieldType.int)) ∈ jm_W := jm_ok (jm_in4 143 rfl) rfl
theorem lk_Md_176 : (Cond.methodLink "CellWorksModel" 176 ⟨"CellWorksModel", "next", "()V"⟩) ∈ jm_W := jm_ok (jm_in4 144 rfl) rfl
theorem wi_Md_next : (Cond.instanceMethod ⟨"CellWorksModel", "next", "()V"⟩) ∈ jm_W := jm_ok (jm_in4 146 rfl) rfl
theorem wc_Md_next : (Cond.code ⟨"CellWorksModel", "next", "()V"⟩ prog_10_method_7_code 2 none) ∈ jm_W := jm_ok (jm_in4 147 rfl) rfl
theorem lk_Md_106 : (Cond.methodLink "CellWorksModel" 106 ⟨"CellWorksModel", "at", "(I)I"⟩) ∈ jm_W := jm_ok (jm_in4 148 rfl) rfl
theorem wi_Md_at : (Cond.instanceMethod ⟨"CellWorksModel", "at", "(I)I"⟩) ∈ jm_W := jm_ok (jm_in4 150 rfl) rfl
theorem wc_Md_at : (Cond.code ⟨"CellWorksModel", "at", "(I)I"⟩ prog_10_method_3_code 2 (some FieldType.int)) ∈ jm_W := jm_ok (jm_in4 151 rfl) rfl
theorem lk_Md_110 : (Cond.methodLink "CellWorksModel" 110 ⟨"CellWorksModel", "isBlank", "(I)Z"⟩) ∈ jm_W := jm_ok (jm_in4 152 rfl) rfl
theorem wt_Md_isBlank : (Cond.static ⟨"CellWorksModel", "isBlank", "(I)Z"⟩) ∈ jm_W := jm_ok (jm_in4 153 rfl) rfl
theorem wc_Md_isBlank : (Cond.code ⟨"CellWorksModel", "isBlank", "(I)Z"⟩ prog_10_method_6_code 1 (some FieldType.boolean)) ∈ jm_W := jm_ok (jm_in4 154 rfl) rfl
theorem lk_Md_120 : (Cond.methodLink "CellWorksModel" 120 ⟨"CellWorksModel", "isDigit", "(I)Z"⟩) ∈ jm_W := jm_ok (jm_in4 155 rfl) rfl
theorem wt_Md_isDigit : (Cond.static ⟨"CellWorksModel", "isDigit", "(I)Z"⟩) ∈ jm_W := jm_ok (jm_in4 156 rfl) rfl
theorem wc_Md_isDigit : (Cond.code ⟨"CellWorksModel", "isDigit", "(I)Z"⟩ prog_10_method_4_code 1 (some FieldType.boolean)) ∈ jm_W := jm_ok (jm_in4 157 rfl) rfl
theorem lk_Md_127 : (Cond.constantLong "CellWorksModel" 127 (10 : Int64)) ∈ jm_W := jm_ok (jm_in4 158 rfl) rfl
theorem lk_Md_129 : (Cond.constantLong "CellWorksModel" 129 (48 : Int64)) ∈ jm_W := jm_ok (jm_in4 159 rfl) rfl
theorem lk_Md_131 : (Cond.methodLink "CellWorksModel" 131 ⟨"CellWorksModel", "isLetter", "(I)Z"⟩) ∈ jm_W := jm_ok (jm_in4 160 rfl) rfl
theorem wt_Md_isLetter : (Cond.static ⟨"CellWorksModel", "isLetter", "(I)Z"⟩) ∈ jm_W := jm_ok (jm_in4 161 rfl) rfl
theorem wc_Md_isLetter : (Cond.code ⟨"CellWorksModel", "isLetter", "(I)Z"⟩ prog_10_method_5_code 1 (some FieldType.boolean)) ∈ jm_W := jm_ok (jm_in4 162 rfl) rfl
theorem lk_Md_134 : (Cond.methodLink "CellWorksModel" 134 ⟨"CellWorksModel", "function", "()I"⟩) ∈ jm_W := jm_ok (jm_in4 163 rfl) rfl
theorem wi_Md_function : (Cond.instanceMethod ⟨"CellWorksModel", "function", "()I"⟩) ∈ jm_W := jm_ok (jm_in4 165 rfl) rfl
theorem wc_Md_function : (Cond.code ⟨"CellWorksModel", "function", "()I"⟩ prog_10_method_8_code 1 (some FieldType.int)) ∈ jm_W := jm_ok (jm_in4 166 rfl) rfl
theorem lk_Md_138 : (Cond.constantLong "CellWorksModel" 138 (7883953568967819264 : Int64)) ∈ jm_W := jm_ok (jm_in4 167 rfl) rfl
theorem lk_Md_140 : (Cond.constantLong "CellWorksModel" 140 (7881712764270411776 : Int64)) ∈ jm_W := jm_ok (jm_in4 168 rfl) rfl
theorem lk_Md_142 : (Cond.constantLong "CellWorksModel" 142 (7594757821606920192 : Int64)) ∈ jm_W := jm_ok (jm_in4 169 rfl) rfl
theorem lk_Md_189 : (Cond.methodLink "CellWorksModel" 189 ⟨"CellWorksModel", "wrong", "()V"⟩) ∈ jm_W := jm_ok (jm_in4 170 rfl) rfl
theorem wi_Md_wrong : (Cond.instanceMethod ⟨"CellWorksModel", "wrong", "()V"⟩) ∈ jm_W := jm_ok (jm_in4 172 rfl) rfl
theorem wc_Md_wrong : (Cond.code ⟨"CellWorksModel", "wrong", "()V"⟩ prog_10_method_10_code 1 none) ∈ jm_W := jm_ok (jm_in4 173 rfl) rfl
theorem lk_Md_150 : (Cond.methodLink "CellWorksModel" 150 ⟨"CellWorksModel", "fail", "(II)V"⟩) ∈ jm_W := jm_ok (jm_in4 174 rfl) rfl
theorem wi_Md_fail : (Cond.instanceMethod ⟨"CellWorksModel", "fail", "(II)V"⟩) ∈ jm_W := jm_ok (jm_in4 176 rfl) rfl
theorem wc_Md_fail : (Cond.code ⟨"CellWorksModel", "fail", "(II)V"⟩ prog_10_method_9_code 3 none) ∈ jm_W := jm_ok (jm_in4 177 rfl) rfl
theorem lk_Md_211 : (Cond.methodLink "CellWorksModel" 211 ⟨"CellWorksModel", "formula", "()V"⟩) ∈ jm_W := jm_ok (jm_in4 178 rfl) rfl
theorem wi_Md_formula : (Cond.instanceMethod ⟨"CellWorksModel", "formula", "()V"⟩) ∈ jm_W := jm_ok (jm_in4 180 rfl) rfl
theorem wc_Md_formula : (Cond.code ⟨"CellWorksModel", "formula", "()V"⟩ prog_10_method_21_code 2 none) ∈ jm_W := jm_ok (jm_in4 181 rfl) rfl
theorem lk_Md_198 : (Cond.methodLink "CellWorksModel" 198 ⟨"CellWorksModel", "part", "()Z"⟩) ∈ jm_W := jm_ok (jm_in4 182 rfl) rfl
theorem wi_Md_part : (Cond.instanceMethod ⟨"CellWorksModel", "part", "()Z"⟩) ∈ jm_W := jm_ok (jm_in4 184 rfl) rfl
theorem wc_Md_part : (Cond.code ⟨"CellWorksModel", "part", "()Z"⟩ prog_10_method_18_code 2 (some FieldType.boolean)) ∈ jm_W := jm_ok (jm_in4 185 rfl) rfl
theorem lk_Md_172 : (Cond.methodLink "CellWorksModel" 172 ⟨"CellWorksModel", "newNode", "(IJ)I"⟩) ∈ jm_W := jm_ok (jm_in4 186 rfl) rfl
theorem wi_Md_newNode : (Cond.instanceMethod ⟨"CellWorksModel", "newNode", "(IJ)I"⟩) ∈ jm_W := jm_ok (jm_in4 188 rfl) rfl
theorem wc_Md_newNode : (Cond.code ⟨"CellWorksModel", "newNode", "(IJ)I"⟩ prog_10_method_11_code 4 (some FieldType.int)) ∈ jm_W := jm_ok (jm_in4 189 rfl) rfl
theorem lk_Md_179 : (Cond.methodLink "CellWorksModel" 179 ⟨"CellWorksModel", "settle", "(I)V"⟩) ∈ jm_W := jm_ok (jm_in4 190 rfl) rfl
theorem wi_Md_settle : (Cond.instanceMethod ⟨"CellWorksModel", "settle", "(I)V"⟩) ∈ jm_W := jm_ok (jm_in4 192 rfl) rfl
theorem wc_Md_settle : (Cond.code ⟨"CellWorksModel", "settle", "(I)V"⟩ prog_10_method_15_code 3 none) ∈ jm_W := jm_ok (jm_in4 193 rfl) rfl
theorem lk_Md_160 : (Cond.methodLink "CellWorksModel" 160 ⟨"CellWorksModel", "isOperator", "(I)Z"⟩) ∈ jm_W := jm_ok (jm_in4 194 rfl) rfl
theorem wi_Md_isOperator : (Cond.instanceMethod ⟨"CellWorksModel", "isOperator", "(I)Z"⟩) ∈ jm_W := jm_ok (jm_in4 196 rfl) rfl
theorem wc_Md_isOperator : (Cond.code ⟨"CellWorksModel", "isOperator", "(I)Z"⟩ prog_10_method_13_code 2 (some FieldType.boolean)) ∈ jm_W := jm_ok (jm_in4 197 rfl) rfl
theorem lk_Md_163 : (Cond.methodLink "CellWorksModel" 163 ⟨"CellWorksModel", "strength", "(I)I"⟩) ∈ jm_W := jm_ok (jm_in4 198 rfl) rfl
theorem wt_Md_strength : (Cond.static ⟨"CellWorksModel", "strength", "(I)I"⟩) ∈ jm_W := jm_ok (jm_in4 199 rfl) rfl
theorem wc_Md_strength : (Cond.code ⟨"CellWorksModel", "strength", "(I)I"⟩ prog_10_method_14_code 1 (some FieldType.int)) ∈ jm_W := jm_ok (jm_in4 200 rfl) rfl
theorem lk_Md_183 : (Cond.methodLink "CellWorksModel" 183 ⟨"CellWorksModel", "deeper", "()V"⟩) ∈ jm_W := jm_ok (jm_in4 201 rfl) rfl
theorem wi_Md_deeper : (Cond.instanceMethod ⟨"CellWorksModel", "deeper", "()V"⟩) ∈ jm_W := jm_ok (jm_in4 203 rfl) rfl
theorem wc_Md_deeper : (Cond.code ⟨"CellWorksModel", "deeper", "()V"⟩ prog_10_method_16_code 1 none) ∈ jm_W := jm_ok (jm_in4 204 rfl) rfl
theorem lk_Md_186 : (Cond.methodLink "CellWorksModel" 186 ⟨"CellWorksModel", "await", "(I)V"⟩) ∈ jm_W := jm_ok (jm_in4 205 rfl) rfl
theorem wi_Md_await : (Cond.instanceMethod ⟨"CellWorksModel", "await", "(I)V"⟩) ∈ jm_W := jm_ok (jm_in4 207 rfl) rfl
theorem wc_Md_await : (Cond.code ⟨"CellWorksModel", "await", "(I)V"⟩ prog_10_method_12_code 2 none) ∈ jm_W := jm_ok (jm_in4 208 rfl) rfl
theorem lk_Md_202 : (Cond.methodLink "CellWorksModel" 202 ⟨"CellWorksModel", "behind", "()Z"⟩) ∈ jm_W := jm_ok (jm_in4 209 rfl) rfl
theorem wi_Md_behind : (Cond.instanceMethod ⟨"CellWorksModel", "behind", "()Z"⟩) ∈ jm_W := jm_ok (jm_in4 211 rfl) rfl
theorem wc_Md_behind : (Cond.code ⟨"CellWorksModel", "behind", "()Z"⟩ prog_10_method_19_code 3 (some FieldType.boolean)) ∈ jm_W := jm_ok (jm_in4 212 rfl) rfl
theorem lk_Md_192 : (Cond.methodLink "CellWorksModel" 192 ⟨"CellWorksModel", "wants", "(I)I"⟩) ∈ jm_W := jm_ok (jm_in4 213 rfl) rfl
theorem wt_Md_wants : (Cond.static ⟨"CellWorksModel", "wants", "(I)I"⟩) ∈ jm_W := jm_ok (jm_in4 214 rfl) rfl
theorem wc_Md_wants : (Cond.code ⟨"CellWorksModel", "wants", "(I)I"⟩ prog_10_method_17_code 1 (some FieldType.int)) ∈ jm_W := jm_ok (jm_in4 215 rfl) rfl
theorem lk_Md_195 : (Cond.methodLink "CellWorksModel" 195 ⟨"CellWorksModel", "give", "(I)V"⟩) ∈ jm_W := jm_ok (jm_in4 216 rfl) rfl
theorem wi_Md_give : (Cond.instanceMethod ⟨"CellWorksModel", "give", "(I)V"⟩) ∈ jm_W := jm_ok (jm_in4 218 rfl) rfl
theorem wc_Md_give : (Cond.code ⟨"CellWorksModel", "give", "(I)V"⟩ prog_10_method_20_code 3 none) ∈ jm_W := jm_ok (jm_in4 219 rfl) rfl
theorem lk_Md_214 : (Cond.methodLink "CellWorksModel" 214 ⟨"CellWorksModel", "cellOf", "(J)I"⟩) ∈ jm_W := jm_ok (jm_in4 220 rfl) rfl
theorem wi_Md_cellOf : (Cond.instanceMethod ⟨"CellWorksModel", "cellOf", "(J)I"⟩) ∈ jm_W := jm_ok (jm_in4 222 rfl) rfl
theorem wc_Md_cellOf : (Cond.code ⟨"CellWorksModel", "cellOf", "(J)I"⟩ prog_10_method_22_code 4 (some FieldType.int)) ∈ jm_W := jm_ok (jm_in4 223 rfl) rfl
theorem lk_Md_218 : (Cond.methodLink "CellWorksModel" 218 ⟨"CellWorksModel", "cellCount", "()I"⟩) ∈ jm_W := jm_ok (jm_in4 224 rfl) rfl
theorem wi_Md_cellCount : (Cond.instanceMethod ⟨"CellWorksModel", "cellCount", "()I"⟩) ∈ jm_W := jm_ok (jm_in4 226 rfl) rfl
theorem wc_Md_cellCount : (Cond.code ⟨"CellWorksModel", "cellCount", "()I"⟩ prog_10_method_23_code 3 (some FieldType.int)) ∈ jm_W := jm_ok (jm_in4 227 rfl) rfl
theorem lk_Md_221 : (Cond.methodLink "CellWorksModel" 221 ⟨"CellWorksModel", "readersOf", "(J)J"⟩) ∈ jm_W := jm_ok (jm_in4 228 rfl) rfl
theorem wi_Md_readersOf : (Cond.instanceMethod ⟨"CellWorksModel", "readersOf", "(J)J"⟩) ∈ jm_W := jm_ok (jm_in4 230 rfl) rfl
theorem wc_Md_readersOf : (Cond.code ⟨"CellWorksModel", "readersOf", "(J)J"⟩ prog_10_method_25_code 10 (some FieldType.long)) ∈ jm_W := jm_ok (jm_in4 231 rfl) rfl
theorem lk_Md_205 : (Cond.constantLong "CellWorksModel" 205 (-1 : Int64)) ∈ jm_W := jm_ok (jm_in4 232 rfl) rfl
theorem lk_Md_207 : (Cond.methodLink "CellWorksModel" 207 ⟨"CellWorksModel", "reads", "(IJ)Z"⟩) ∈ jm_W := jm_ok (jm_in4 233 rfl) rfl
theorem wi_Md_reads : (Cond.instanceMethod ⟨"CellWorksModel", "reads", "(IJ)Z"⟩) ∈ jm_W := jm_ok (jm_in4 235 rfl) rfl
theorem wc_Md_reads : (Cond.code ⟨"CellWorksModel", "reads", "(IJ)Z"⟩ prog_10_method_24_code 5 (some FieldType.boolean)) ∈ jm_W := jm_ok (jm_in4 236 rfl) rfl
theorem lk_Lw_80 : (Cond.methodLink "CellWorksLaw" 80 ⟨"CellWorksModel", "remove", "()Z"⟩) ∈ jm_W := jm_ok (jm_in4 237 rfl) rfl
theorem wi_Md_remove : (Cond.instanceMethod ⟨"CellWorksModel", "remove", "()Z"⟩) ∈ jm_W := jm_ok (jm_in4 238 rfl) rfl
theorem ws_Md_remove : (Cond.selects "CellWorksModel" ⟨"CellWorksModel", "remove", "()Z"⟩ ⟨"CellWorksModel", "remove", "()Z"⟩) ∈ jm_W := jm_ok (jm_in4 239 rfl) rfl
theorem wc_Md_remove : (Cond.code ⟨"CellWorksModel", "remove", "()Z"⟩ prog_10_method_40_code 2 (some FieldType.boolean)) ∈ jm_W := jm_ok (jm_in5 0 rfl) rfl
theorem lk_Md_269 : (Cond.methodLink "CellWorksModel" 269 ⟨"CellWorksModel", "isName", "()Z"⟩) ∈ jm_W := jm_ok (jm_in5 1 rfl) rfl
theorem wi_Md_isName : (Cond.instanceMethod ⟨"CellWorksModel", "isName", "()Z"⟩) ∈ jm_W := jm_ok (jm_in5 3 rfl) rfl
theorem wc_Md_isName : (Cond.code ⟨"CellWorksModel", "isName", "()Z"⟩ prog_10_method_39_code 4 (some FieldType.boolean)) ∈ jm_W := jm_ok (jm_in5 4 rfl) rfl
theorem lk_Lw_83 : (Cond.methodLink "CellWorksLaw" 83 ⟨"CellWorksModel", "build", "()I"⟩) ∈ jm_W := jm_ok (jm_in5 5 rfl) rfl
theorem wi_Md_build : (Cond.instanceMethod ⟨"CellWorksModel", "build", "()I"⟩) ∈ jm_W := jm_ok (jm_in5 6 rfl) rfl
theorem ws_Md_build : (Cond.selects "CellWorksModel" ⟨"CellWorksModel", "build", "()I"⟩ ⟨"CellWorksModel", "build", "()I"⟩) ∈ jm_W := jm_ok (jm_in5 7 rfl) rfl
theorem wc_Md_build : (Cond.code ⟨"CellWorksModel", "build", "()I"⟩ prog_10_method_41_code 2 (some FieldType.int)) ∈ jm_W := jm_ok (jm_in5 8 rfl) rfl
theorem lk_Md_272 : (Cond.methodLink "CellWorksModel" 272 ⟨"CellWorksModel", "below", "(I)J"⟩) ∈ jm_W := jm_ok (jm_in5 9 rfl) rfl
theorem wi_Md_below : (Cond.instanceMethod ⟨"CellWorksModel", "below", "(I)J"⟩) ∈ jm_W := jm_ok (jm_in5 11 rfl) rfl
theorem wc_Md_below : (Cond.code ⟨"CellWorksModel", "below", "(I)J"⟩ prog_10_method_38_code 8 (some FieldType.long)) ∈ jm_W := jm_ok (jm_in5 12 rfl) rfl
theorem lk_Md_275 : (Cond.methodLink "CellWorksModel" 275 ⟨"CellWorksModel", "buildSet", "(J)I"⟩) ∈ jm_W := jm_ok (jm_in5 13 rfl) rfl
theorem wi_Md_buildSet : (Cond.instanceMethod ⟨"CellWorksModel", "buildSet", "(J)I"⟩) ∈ jm_W := jm_ok (jm_in5 15 rfl) rfl
theorem wc_Md_buildSet : (Cond.code ⟨"CellWorksModel", "buildSet", "(J)I"⟩ prog_10_method_37_code 6 (some FieldType.int)) ∈ jm_W := jm_ok (jm_in5 16 rfl) rfl
theorem lk_Md_260 : (Cond.methodLink "CellWorksModel" 260 ⟨"CellWorksModel", "isReady", "(IJ)Z"⟩) ∈ jm_W := jm_ok (jm_in5 17 rfl) rfl
theorem wi_Md_isReady : (Cond.instanceMethod ⟨"CellWorksModel", "isReady", "(IJ)Z"⟩) ∈ jm_W := jm_ok (jm_in5 19 rfl) rfl
theorem wc_Md_isReady : (Cond.code ⟨"CellWorksModel", "isReady", "(IJ)Z"⟩ prog_10_method_36_code 6 (some FieldType.boolean)) ∈ jm_W := jm_ok (jm_in5 20 rfl) rfl
theorem lk_Md_263 : (Cond.methodLink "CellWorksModel" 263 ⟨"CellWorksModel", "isStale", "(I)Z"⟩) ∈ jm_W := jm_ok (jm_in5 21 rfl) rfl
theorem wi_Md_isStale : (Cond.instanceMethod ⟨"CellWorksModel", "isStale", "(I)Z"⟩) ∈ jm_W := jm_ok (jm_in5 23 rfl) rfl
theorem wc_Md_isStale : (Cond.code ⟨"CellWorksModel", "isStale", "(I)Z"⟩ prog_10_method_34_code 4 (some FieldType.boolean)) ∈ jm_W := jm_ok (jm_in5 24 rfl) rfl
theorem lk_Md_244 : (Cond.methodLink "CellWorksModel" 244 ⟨"CellWorksModel", "resultOf", "(J)I"⟩) ∈ jm_W := jm_ok (jm_in5 25 rfl) rfl
theorem wi_Md_resultOf : (Cond.instanceMethod ⟨"CellWorksModel", "resultOf", "(J)I"⟩) ∈ jm_W := jm_ok (jm_in5 27 rfl) rfl
theorem wc_Md_resultOf : (Cond.code ⟨"CellWorksModel", "resultOf", "(J)I"⟩ prog_10_method_28_code 4 (some FieldType.int)) ∈ jm_W := jm_ok (jm_in5 28 rfl) rfl
theorem lk_Md_247 : (Cond.methodLink "CellWorksModel" 247 ⟨"CellWorksModel", "valueOf", "(J)J"⟩) ∈ jm_W := jm_ok (jm_in5 29 rfl) rfl
theorem wi_Md_valueOf : (Cond.instanceMethod ⟨"CellWorksModel", "valueOf", "(J)J"⟩) ∈ jm_W := jm_ok (jm_in5 31 rfl) rfl
theorem wc_Md_valueOf : (Cond.code ⟨"CellWorksModel", "valueOf", "(J)J"⟩ prog_10_method_29_code 4 (some FieldType.long)) ∈ jm_W := jm_ok (jm_in5 32 rfl) rfl
theorem lk_Md_266 : (Cond.methodLink "CellWorksModel" 266 ⟨"CellWorksModel", "workOut", "(I)V"⟩) ∈ jm_W := jm_ok (jm_in5 33 rfl) rfl
theorem wi_Md_workOut : (Cond.instanceMethod ⟨"CellWorksModel", "workOut", "(I)V"⟩) ∈ jm_W := jm_ok (jm_in5 35 rfl) rfl
theorem wc_Md_workOut : (Cond.code ⟨"CellWorksModel", "workOut", "(I)V"⟩ prog_10_method_35_code 5 none) ∈ jm_W := jm_ok (jm_in5 36 rfl) rfl
theorem lk_Md_250 : (Cond.methodLink "CellWorksModel" 250 ⟨"CellWorksModel", "work", "(I)J"⟩) ∈ jm_W := jm_ok (jm_in5 37 rfl) rfl
theorem wi_Md_work : (Cond.instanceMethod ⟨"CellWorksModel", "work", "(I)J"⟩) ∈ jm_W := jm_ok (jm_in5 39 rfl) rfl
theorem wc_Md_work : (Cond.code ⟨"CellWorksModel", "work", "(I)J"⟩ prog_10_method_31_code 4 (some FieldType.long)) ∈ jm_W := jm_ok (jm_in5 40 rfl) rfl
theorem lk_Md_228 : (Cond.methodLink "CellWorksModel" 228 ⟨"CellWorksModel", "push", "(I)V"⟩) ∈ jm_W := jm_ok (jm_in5 41 rfl) rfl
theorem wi_Md_push : (Cond.instanceMethod ⟨"CellWorksModel", "push", "(I)V"⟩) ∈ jm_W := jm_ok (jm_in5 43 rfl) rfl
theorem wc_Md_push : (Cond.code ⟨"CellWorksModel", "push", "(I)V"⟩ prog_10_method_30_code 2 none) ∈ jm_W := jm_ok (jm_in5 44 rfl) rfl
theorem lk_Md_234 : (Cond.methodLink "CellWorksModel" 234 ⟨"CellWorksModel", "leaf", "(I)V"⟩) ∈ jm_W := jm_ok (jm_in5 45 rfl) rfl
theorem wi_Md_leaf : (Cond.instanceMethod ⟨"CellWorksModel", "leaf", "(I)V"⟩) ∈ jm_W := jm_ok (jm_in5 47 rfl) rfl
theorem wc_Md_leaf : (Cond.code ⟨"CellWorksModel", "leaf", "(I)V"⟩ prog_10_method_32_code 2 none) ∈ jm_W := jm_ok (jm_in5 48 rfl) rfl
theorem lk_Md_240 : (Cond.methodLink "CellWorksModel" 240 ⟨"CellWorksModel", "both", "(IJJ)J"⟩) ∈ jm_W := jm_ok (jm_in5 49 rfl) rfl
theorem wi_Md_both : (Cond.instanceMethod ⟨"CellWorksModel", "both", "(IJJ)J"⟩) ∈ jm_W := jm_ok (jm_in5 51 rfl) rfl
theorem wc_Md_both : (Cond.code ⟨"CellWorksModel", "both", "(IJJ)J"⟩ prog_10_method_33_code 6 (some FieldType.long)) ∈ jm_W := jm_ok (jm_in5 52 rfl) rfl
theorem lk_Lw_87 : (Cond.methodLink "CellWorksLaw" 87 ⟨"CellWorksModel", "buildAll", "()I"⟩) ∈ jm_W := jm_ok (jm_in5 53 rfl) rfl
theorem wi_Md_buildAll : (Cond.instanceMethod ⟨"CellWorksModel", "buildAll", "()I"⟩) ∈ jm_W := jm_ok (jm_in5 54 rfl) rfl
theorem ws_Md_buildAll : (Cond.selects "CellWorksModel" ⟨"CellWorksModel", "buildAll", "()I"⟩ ⟨"CellWorksModel", "buildAll", "()I"⟩) ∈ jm_W := jm_ok (jm_in5 55 rfl) rfl
theorem wc_Md_buildAll : (Cond.code ⟨"CellWorksModel", "buildAll", "()I"⟩ prog_10_method_42_code 4 (some FieldType.int)) ∈ jm_W := jm_ok (jm_in5 56 rfl) rfl
theorem lk_Lw_76 : (Cond.methodLink "CellWorksLaw" 76 ⟨"CellWorksModel", "fault", "()I"⟩) ∈ jm_W := jm_ok (jm_in5 57 rfl) rfl
theorem wi_Md_fault : (Cond.instanceMethod ⟨"CellWorksModel", "fault", "()I"⟩) ∈ jm_W := jm_ok (jm_in5 58 rfl) rfl
theorem ws_Md_fault : (Cond.selects "CellWorksModel" ⟨"CellWorksModel", "fault", "()I"⟩ ⟨"CellWorksModel", "fault", "()I"⟩) ∈ jm_W := jm_ok (jm_in5 59 rfl) rfl
theorem wc_Md_fault : (Cond.code ⟨"CellWorksModel", "fault", "()I"⟩ prog_10_method_43_code 1 (some FieldType.int)) ∈ jm_W := jm_ok (jm_in5 60 rfl) rfl
theorem lk_Lw_90 : (Cond.methodLink "CellWorksLaw" 90 ⟨"CellWorksModel", "value", "()J"⟩) ∈ jm_W := jm_ok (jm_in5 61 rfl) rfl
theorem wi_Md_value : (Cond.instanceMethod ⟨"CellWorksModel", "value", "()J"⟩) ∈ jm_W := jm_ok (jm_in5 62 rfl) rfl
theorem ws_Md_value : (Cond.selects "CellWorksModel" ⟨"CellWorksModel", "value", "()J"⟩ ⟨"CellWorksModel", "value", "()J"⟩) ∈ jm_W := jm_ok (jm_in5 63 rfl) rfl
theorem wc_Md_value : (Cond.code ⟨"CellWorksModel", "value", "()J"⟩ prog_10_method_44_code 1 (some FieldType.long)) ∈ jm_W := jm_ok (jm_in5 64 rfl) rfl
theorem lk_Lw_93 : (Cond.methodLink "CellWorksLaw" 93 ⟨"CellWorksModel", "state", "()I"⟩) ∈ jm_W := jm_ok (jm_in5 65 rfl) rfl
theorem wi_Md_state : (Cond.instanceMethod ⟨"CellWorksModel", "state", "()I"⟩) ∈ jm_W := jm_ok (jm_in5 66 rfl) rfl
theorem ws_Md_state : (Cond.selects "CellWorksModel" ⟨"CellWorksModel", "state", "()I"⟩ ⟨"CellWorksModel", "state", "()I"⟩) ∈ jm_W := jm_ok (jm_in5 67 rfl) rfl
theorem wc_Md_state : (Cond.code ⟨"CellWorksModel", "state", "()I"⟩ prog_10_method_45_code 2 (some FieldType.int)) ∈ jm_W := jm_ok (jm_in5 68 rfl) rfl
theorem lk_Lw_97 : (Cond.methodLink "CellWorksLaw" 97 ⟨"CellWorksModel", "readers", "(Z)I"⟩) ∈ jm_W := jm_ok (jm_in5 69 rfl) rfl
theorem wi_Md_readers : (Cond.instanceMethod ⟨"CellWorksModel", "readers", "(Z)I"⟩) ∈ jm_W := jm_ok (jm_in5 70 rfl) rfl
theorem ws_Md_readers : (Cond.selects "CellWorksModel" ⟨"CellWorksModel", "readers", "(Z)I"⟩ ⟨"CellWorksModel", "readers", "(Z)I"⟩) ∈ jm_W := jm_ok (jm_in5 71 rfl) rfl
theorem wc_Md_readers : (Cond.code ⟨"CellWorksModel", "readers", "(Z)I"⟩ prog_10_method_46_code 6 (some FieldType.int)) ∈ jm_W := jm_ok (jm_in5 72 rfl) rfl
theorem lk_Md_278 : (Cond.methodLink "CellWorksModel" 278 ⟨"CellWorksModel", "howMany", "(J)I"⟩) ∈ jm_W := jm_ok (jm_in5 73 rfl) rfl
theorem wt_Md_howMany : (Cond.static ⟨"CellWorksModel", "howMany", "(J)I"⟩) ∈ jm_W := jm_ok (jm_in5 74 rfl) rfl
theorem wc_Md_howMany : (Cond.code ⟨"CellWorksModel", "howMany", "(J)I"⟩ prog_10_method_26_code 4 (some FieldType.int)) ∈ jm_W := jm_ok (jm_in5 75 rfl) rfl
theorem lk_Lw_101 : (Cond.methodLink "CellWorksLaw" 101 ⟨"CellWorksModel", "built", "(II)I"⟩) ∈ jm_W := jm_ok (jm_in5 76 rfl) rfl
theorem wi_Md_built : (Cond.instanceMethod ⟨"CellWorksModel", "built", "(II)I"⟩) ∈ jm_W := jm_ok (jm_in5 77 rfl) rfl
theorem ws_Md_built : (Cond.selects "CellWorksModel" ⟨"CellWorksModel", "built", "(II)I"⟩ ⟨"CellWorksModel", "built", "(II)I"⟩) ∈ jm_W := jm_ok (jm_in5 78 rfl) rfl
theorem wc_Md_built : (Cond.code ⟨"CellWorksModel", "built", "(II)I"⟩ prog_10_method_47_code 4 (some FieldType.int)) ∈ jm_W := jm_ok (jm_in5 79 rfl) rfl
theorem lk_Lw_105 : (Cond.methodLink "CellWorksLaw" 105 ⟨"CellWorksModel", "count", "(I)I"⟩) ∈ jm_W := jm_ok (jm_in5 80 rfl) rfl
theorem wi_Md_count : (Cond.instanceMethod ⟨"CellWorksModel", "count", "(I)I"⟩) ∈ jm_W := jm_ok (jm_in5 81 rfl) rfl
theorem ws_Md_count : (Cond.selects "CellWorksModel" ⟨"CellWorksModel", "count", "(I)I"⟩ ⟨"CellWorksModel", "count", "(I)I"⟩) ∈ jm_W := jm_ok (jm_in5 82 rfl) rfl
theorem wc_Md_count : (Cond.code ⟨"CellWorksModel", "count", "(I)I"⟩ prog_10_method_48_code 4 (some FieldType.int)) ∈ jm_W := jm_ok (jm_in5 83 rfl) rfl
theorem lk_Lw_61 : (Cond.methodLink "CellWorksLaw" 61 ⟨"CellWorksModel", "feed", "(IIIII)I"⟩) ∈ jm_W := jm_ok (jm_in5 84 rfl) rfl
theorem wi_Md_feed : (Cond.instanceMethod ⟨"CellWorksModel", "feed", "(IIIII)I"⟩) ∈ jm_W := jm_ok (jm_in5 85 rfl) rfl
theorem ws_Md_feed : (Cond.selects "CellWorksModel" ⟨"CellWorksModel", "feed", "(IIIII)I"⟩ ⟨"CellWorksModel", "feed", "(IIIII)I"⟩) ∈ jm_W := jm_ok (jm_in5 86 rfl) rfl
theorem wc_Md_feed : (Cond.code ⟨"CellWorksModel", "feed", "(IIIII)I"⟩ prog_10_method_49_code 8 (some FieldType.int)) ∈ jm_W := jm_ok (jm_in5 87 rfl) rfl
theorem lk_Lw_68 : (Cond.methodLink "CellWorksLaw" 68 ⟨"CellWorksModel", "end", "(I)V"⟩) ∈ jm_W := jm_ok (jm_in5 88 rfl) rfl
theorem wi_Md_end : (Cond.instanceMethod ⟨"CellWorksModel", "end", "(I)V"⟩) ∈ jm_W := jm_ok (jm_in5 89 rfl) rfl
theorem ws_Md_end : (Cond.selects "CellWorksModel" ⟨"CellWorksModel", "end", "(I)V"⟩ ⟨"CellWorksModel", "end", "(I)V"⟩) ∈ jm_W := jm_ok (jm_in5 90 rfl) rfl
theorem wc_Md_end : (Cond.code ⟨"CellWorksModel", "end", "(I)V"⟩ prog_10_method_50_code 2 none) ∈ jm_W := jm_ok (jm_in5 91 rfl) rfl
theorem ws_Rd_pass : Cond.selects "CellWorks$Reader" ⟨"CellWorks$Reader", "pass", "()Z"⟩ ⟨"CellWorks$Reader", "pass", "()Z"⟩ ∈ jm_W := jm_w0 (List.mem_map.mpr ⟨(⟨"CellWorks$Reader", "pass", "()Z"⟩, 7), by decide +kernel, rfl⟩) rfl
theorem ws_Tp_readWord : Cond.selects "CellWorks$Tape" ⟨"CellWorks$Tape", "readWord", "()V"⟩ ⟨"CellWorks$Tape", "readWord", "()V"⟩ ∈ jm_W := jm_w0 (List.mem_map.mpr ⟨(⟨"CellWorks$Tape", "readWord", "()V"⟩, 7), by decide +kernel, rfl⟩) rfl
theorem ws_Tp_readNumber : Cond.selects "CellWorks$Tape" ⟨"CellWorks$Tape", "readNumber", "()V"⟩ ⟨"CellWorks$Tape", "readNumber", "()V"⟩ ∈ jm_W := jm_w0 (List.mem_map.mpr ⟨(⟨"CellWorks$Tape", "readNumber", "()V"⟩, 7), by decide +kernel, rfl⟩) rfl
theorem ws_Rd_refuse : Cond.selects "CellWorks$Reader" ⟨"CellWorks$Reader", "refuse", "(I)Z"⟩ ⟨"CellWorks$Reader", "refuse", "(I)Z"⟩ ∈ jm_W := jm_w0 (List.mem_map.mpr ⟨(⟨"CellWorks$Reader", "refuse", "(I)Z"⟩, 7), by decide +kernel, rfl⟩) rfl
theorem ws_Rd_expect : Cond.selects "CellWorks$Reader" ⟨"CellWorks$Reader", "expect", "(I)Z"⟩ ⟨"CellWorks$Reader", "expect", "(I)Z"⟩ ∈ jm_W := jm_w0 (List.mem_map.mpr ⟨(⟨"CellWorks$Reader", "expect", "(I)Z"⟩, 7), by decide +kernel, rfl⟩) rfl
theorem ws_Rd_sum : Cond.selects "CellWorks$Reader" ⟨"CellWorks$Reader", "sum", "(I)Z"⟩ ⟨"CellWorks$Reader", "sum", "(I)Z"⟩ ∈ jm_W := jm_w0 (List.mem_map.mpr ⟨(⟨"CellWorks$Reader", "sum", "(I)Z"⟩, 7), by decide +kernel, rfl⟩) rfl
theorem ws_Rd_product : Cond.selects "CellWorks$Reader" ⟨"CellWorks$Reader", "product", "(I)Z"⟩ ⟨"CellWorks$Reader", "product", "(I)Z"⟩ ∈ jm_W := jm_w0 (List.mem_map.mpr ⟨(⟨"CellWorks$Reader", "product", "(I)Z"⟩, 7), by decide +kernel, rfl⟩) rfl
theorem ws_Rd_part : Cond.selects "CellWorks$Reader" ⟨"CellWorks$Reader", "part", "(I)Z"⟩ ⟨"CellWorks$Reader", "part", "(I)Z"⟩ ∈ jm_W := jm_w0 (List.mem_map.mpr ⟨(⟨"CellWorks$Reader", "part", "(I)Z"⟩, 7), by decide +kernel, rfl⟩) rfl
theorem ws_Rd_passNode : Cond.selects "CellWorks$Reader" ⟨"CellWorks$Reader", "passNode", "()Z"⟩ ⟨"CellWorks$Reader", "passNode", "()Z"⟩ ∈ jm_W := jm_w0 (List.mem_map.mpr ⟨(⟨"CellWorks$Reader", "passNode", "()Z"⟩, 7), by decide +kernel, rfl⟩) rfl
theorem ws_Rd_noteName : Cond.selects "CellWorks$Reader" ⟨"CellWorks$Reader", "noteName", "()V"⟩ ⟨"CellWorks$Reader", "noteName", "()V"⟩ ∈ jm_W := jm_w0 (List.mem_map.mpr ⟨(⟨"CellWorks$Reader", "noteName", "()V"⟩, 7), by decide +kernel, rfl⟩) rfl
theorem ws_Rd_negated : Cond.selects "CellWorks$Reader" ⟨"CellWorks$Reader", "negated", "(I)Z"⟩ ⟨"CellWorks$Reader", "negated", "(I)Z"⟩ ∈ jm_W := jm_w0 (List.mem_map.mpr ⟨(⟨"CellWorks$Reader", "negated", "(I)Z"⟩, 7), by decide +kernel, rfl⟩) rfl
theorem ws_Rd_passOpening : Cond.selects "CellWorks$Reader" ⟨"CellWorks$Reader", "passOpening", "(I)Z"⟩ ⟨"CellWorks$Reader", "passOpening", "(I)Z"⟩ ∈ jm_W := jm_w0 (List.mem_map.mpr ⟨(⟨"CellWorks$Reader", "passOpening", "(I)Z"⟩, 7), by decide +kernel, rfl⟩) rfl
theorem ws_Rd_lesserOrGreater : Cond.selects "CellWorks$Reader" ⟨"CellWorks$Reader", "lesserOrGreater", "(I)Z"⟩ ⟨"CellWorks$Reader", "lesserOrGreater", "(I)Z"⟩ ∈ jm_W := jm_w0 (List.mem_map.mpr ⟨(⟨"CellWorks$Reader", "lesserOrGreater", "(I)Z"⟩, 7), by decide +kernel, rfl⟩) rfl
theorem ws_Rd_choice : Cond.selects "CellWorks$Reader" ⟨"CellWorks$Reader", "choice", "(I)Z"⟩ ⟨"CellWorks$Reader", "choice", "(I)Z"⟩ ∈ jm_W := jm_w0 (List.mem_map.mpr ⟨(⟨"CellWorks$Reader", "choice", "(I)Z"⟩, 7), by decide +kernel, rfl⟩) rfl
theorem ws_CW_settle : Cond.selects "CellWorks" ⟨"CellWorks", "settle", "()V"⟩ ⟨"CellWorks", "settle", "()V"⟩ ∈ jm_W := jm_w0 (List.mem_map.mpr ⟨(⟨"CellWorks", "settle", "()V"⟩, 3), by decide +kernel, rfl⟩) rfl
theorem ws_Cs_placeFor : Cond.selects "CellWorks$Cells" ⟨"CellWorks$Cells", "placeFor", "(J)I"⟩ ⟨"CellWorks$Cells", "placeFor", "(J)I"⟩ ∈ jm_W := jm_w0 (List.mem_map.mpr ⟨(⟨"CellWorks$Cells", "placeFor", "(J)I"⟩, 3), by decide +kernel, rfl⟩) rfl
theorem ws_Cs_trace : Cond.selects "CellWorks$Cells" ⟨"CellWorks$Cells", "trace", "()V"⟩ ⟨"CellWorks$Cells", "trace", "()V"⟩ ∈ jm_W := jm_w0 (List.mem_map.mpr ⟨(⟨"CellWorks$Cells", "trace", "()V"⟩, 3), by decide +kernel, rfl⟩) rfl
theorem ws_Bd_workOut : Cond.selects "CellWorks$Builder" ⟨"CellWorks$Builder", "workOut", "(LCellWorks$Cells;LCellWorks$Cell;)V"⟩ ⟨"CellWorks$Builder", "workOut", "(LCellWorks$Cells;LCellWorks$Cell;)V"⟩ ∈ jm_W := jm_w0 (List.mem_map.mpr ⟨(⟨"CellWorks$Builder", "workOut", "(LCellWorks$Cells;LCellWorks$Cell;)V"⟩, 4), by decide +kernel, rfl⟩) rfl
theorem ws_Wk_take : Cond.selects "CellWorks$Work" ⟨"CellWorks$Work", "take", "(LCellWorks$Formula;III)I"⟩ ⟨"CellWorks$Work", "take", "(LCellWorks$Formula;III)I"⟩ ∈ jm_W := jm_w0 (List.mem_map.mpr ⟨(⟨"CellWorks$Work", "take", "(LCellWorks$Formula;III)I"⟩, 4), by decide +kernel, rfl⟩) rfl
theorem ws_Wk_push : Cond.selects "CellWorks$Work" ⟨"CellWorks$Work", "push", "(J)V"⟩ ⟨"CellWorks$Work", "push", "(J)V"⟩ ∈ jm_W := jm_w0 (List.mem_map.mpr ⟨(⟨"CellWorks$Work", "push", "(J)V"⟩, 4), by decide +kernel, rfl⟩) rfl
theorem ws_Wk_pushResult : Cond.selects "CellWorks$Work" ⟨"CellWorks$Work", "pushResult", "(LCellWorks$Formula;I)V"⟩ ⟨"CellWorks$Work", "pushResult", "(LCellWorks$Formula;I)V"⟩ ∈ jm_W := jm_w0 (List.mem_map.mpr ⟨(⟨"CellWorks$Work", "pushResult", "(LCellWorks$Formula;I)V"⟩, 4), by decide +kernel, rfl⟩) rfl
theorem ws_Wk_pop : Cond.selects "CellWorks$Work" ⟨"CellWorks$Work", "pop", "()J"⟩ ⟨"CellWorks$Work", "pop", "()J"⟩ ∈ jm_W := jm_w0 (List.mem_map.mpr ⟨(⟨"CellWorks$Work", "pop", "()J"⟩, 4), by decide +kernel, rfl⟩) rfl
theorem ws_Wk_join : Cond.selects "CellWorks$Work" ⟨"CellWorks$Work", "join", "(IJJ)V"⟩ ⟨"CellWorks$Work", "join", "(IJJ)V"⟩ ∈ jm_W := jm_w0 (List.mem_map.mpr ⟨(⟨"CellWorks$Work", "join", "(IJJ)V"⟩, 4), by decide +kernel, rfl⟩) rfl
theorem ws_Wk_divide : Cond.selects "CellWorks$Work" ⟨"CellWorks$Work", "divide", "(JJ)V"⟩ ⟨"CellWorks$Work", "divide", "(JJ)V"⟩ ∈ jm_W := jm_w0 (List.mem_map.mpr ⟨(⟨"CellWorks$Work", "divide", "(JJ)V"⟩, 4), by decide +kernel, rfl⟩) rfl
theorem ws_Bd_keepNames : Cond.selects "CellWorks$Builder" ⟨"CellWorks$Builder", "keepNames", "(LCellWorks$Cells;J)V"⟩ ⟨"CellWorks$Builder", "keepNames", "(LCellWorks$Cells;J)V"⟩ ∈ jm_W := jm_w0 (List.mem_map.mpr ⟨(⟨"CellWorks$Builder", "keepNames", "(LCellWorks$Cells;J)V"⟩, 4), by decide +kernel, rfl⟩) rfl
theorem ws_CW_nameOnTape : Cond.selects "CellWorks" ⟨"CellWorks", "nameOnTape", "()J"⟩ ⟨"CellWorks", "nameOnTape", "()J"⟩ ∈ jm_W := jm_w0 (List.mem_map.mpr ⟨(⟨"CellWorks", "nameOnTape", "()J"⟩, 3), by decide +kernel, rfl⟩) rfl
theorem ws_Md_next : Cond.selects "CellWorksModel" ⟨"CellWorksModel", "next", "()V"⟩ ⟨"CellWorksModel", "next", "()V"⟩ ∈ jm_W := jm_w0 (List.mem_map.mpr ⟨(⟨"CellWorksModel", "next", "()V"⟩, 45), by decide +kernel, rfl⟩) rfl
theorem ws_Md_at : Cond.selects "CellWorksModel" ⟨"CellWorksModel", "at", "(I)I"⟩ ⟨"CellWorksModel", "at", "(I)I"⟩ ∈ jm_W := jm_w0 (List.mem_map.mpr ⟨(⟨"CellWorksModel", "at", "(I)I"⟩, 45), by decide +kernel, rfl⟩) rfl
theorem ws_Md_function : Cond.selects "CellWorksModel" ⟨"CellWorksModel", "function", "()I"⟩ ⟨"CellWorksModel", "function", "()I"⟩ ∈ jm_W := jm_w0 (List.mem_map.mpr ⟨(⟨"CellWorksModel", "function", "()I"⟩, 45), by decide +kernel, rfl⟩) rfl
theorem ws_Md_wrong : Cond.selects "CellWorksModel" ⟨"CellWorksModel", "wrong", "()V"⟩ ⟨"CellWorksModel", "wrong", "()V"⟩ ∈ jm_W := jm_w0 (List.mem_map.mpr ⟨(⟨"CellWorksModel", "wrong", "()V"⟩, 45), by decide +kernel, rfl⟩) rfl
theorem ws_Md_fail : Cond.selects "CellWorksModel" ⟨"CellWorksModel", "fail", "(II)V"⟩ ⟨"CellWorksModel", "fail", "(II)V"⟩ ∈ jm_W := jm_w0 (List.mem_map.mpr ⟨(⟨"CellWorksModel", "fail", "(II)V"⟩, 45), by decide +kernel, rfl⟩) rfl
theorem ws_Md_formula : Cond.selects "CellWorksModel" ⟨"CellWorksModel", "formula", "()V"⟩ ⟨"CellWorksModel", "formula", "()V"⟩ ∈ jm_W := jm_w0 (List.mem_map.mpr ⟨(⟨"CellWorksModel", "formula", "()V"⟩, 45), by decide +kernel, rfl⟩) rfl
theorem ws_Md_part : Cond.selects "CellWorksModel" ⟨"CellWorksModel", "part", "()Z"⟩ ⟨"CellWorksModel", "part", "()Z"⟩ ∈ jm_W := jm_w0 (List.mem_map.mpr ⟨(⟨"CellWorksModel", "part", "()Z"⟩, 45), by decide +kernel, rfl⟩) rfl
theorem ws_Md_newNode : Cond.selects "CellWorksModel" ⟨"CellWorksModel", "newNode", "(IJ)I"⟩ ⟨"CellWorksModel", "newNode", "(IJ)I"⟩ ∈ jm_W := jm_w0 (List.mem_map.mpr ⟨(⟨"CellWorksModel", "newNode", "(IJ)I"⟩, 45), by decide +kernel, rfl⟩) rfl
theorem ws_Md_settle : Cond.selects "CellWorksModel" ⟨"CellWorksModel", "settle", "(I)V"⟩ ⟨"CellWorksModel", "settle", "(I)V"⟩ ∈ jm_W := jm_w0 (List.mem_map.mpr ⟨(⟨"CellWorksModel", "settle", "(I)V"⟩, 45), by decide +kernel, rfl⟩) rfl
theorem ws_Md_isOperator : Cond.selects "CellWorksModel" ⟨"CellWorksModel", "isOperator", "(I)Z"⟩ ⟨"CellWorksModel", "isOperator", "(I)Z"⟩ ∈ jm_W := jm_w0 (List.mem_map.mpr ⟨(⟨"CellWorksModel", "isOperator", "(I)Z"⟩, 45), by decide +kernel, rfl⟩) rfl
theorem ws_Md_deeper : Cond.selects "CellWorksModel" ⟨"CellWorksModel", "deeper", "()V"⟩ ⟨"CellWorksModel", "deeper", "()V"⟩ ∈ jm_W := jm_w0 (List.mem_map.mpr ⟨(⟨"CellWorksModel", "deeper", "()V"⟩, 45), by decide +kernel, rfl⟩) rfl
theorem ws_Md_await : Cond.selects "CellWorksModel" ⟨"CellWorksModel", "await", "(I)V"⟩ ⟨"CellWorksModel", "await", "(I)V"⟩ ∈ jm_W := jm_w0 (List.mem_map.mpr ⟨(⟨"CellWorksModel", "await", "(I)V"⟩, 45), by decide +kernel, rfl⟩) rfl
theorem ws_Md_behind : Cond.selects "CellWorksModel" ⟨"CellWorksModel", "behind", "()Z"⟩ ⟨"CellWorksModel", "behind", "()Z"⟩ ∈ jm_W := jm_w0 (List.mem_map.mpr ⟨(⟨"CellWorksModel", "behind", "()Z"⟩, 45), by decide +kernel, rfl⟩) rfl
theorem ws_Md_give : Cond.selects "CellWorksModel" ⟨"CellWorksModel", "give", "(I)V"⟩ ⟨"CellWorksModel", "give", "(I)V"⟩ ∈ jm_W := jm_w0 (List.mem_map.mpr ⟨(⟨"CellWorksModel", "give", "(I)V"⟩, 45), by decide +kernel, rfl⟩) rfl
theorem ws_Md_cellOf : Cond.selects "CellWorksModel" ⟨"CellWorksModel", "cellOf", "(J)I"⟩ ⟨"CellWorksModel", "cellOf", "(J)I"⟩ ∈ jm_W := jm_w0 (List.mem_map.mpr ⟨(⟨"CellWorksModel", "cellOf", "(J)I"⟩, 45), by decide +kernel, rfl⟩) rfl
theorem ws_Md_cellCount : Cond.selects "CellWorksModel" ⟨"CellWorksModel", "cellCount", "()I"⟩ ⟨"CellWorksModel", "cellCount", "()I"⟩ ∈ jm_W := jm_w0 (List.mem_map.mpr ⟨(⟨"CellWorksModel", "cellCount", "()I"⟩, 45), by decide +kernel, rfl⟩) rfl
theorem ws_Md_readersOf : Cond.selects "CellWorksModel" ⟨"CellWorksModel", "readersOf", "(J)J"⟩ ⟨"CellWorksModel", "readersOf", "(J)J"⟩ ∈ jm_W := jm_w0 (List.mem_map.mpr ⟨(⟨"CellWorksModel", "readersOf", "(J)J"⟩, 45), by decide +kernel, rfl⟩) rfl
theorem ws_Md_reads : Cond.selects "CellWorksModel" ⟨"CellWorksModel", "reads", "(IJ)Z"⟩ ⟨"CellWorksModel", "reads", "(IJ)Z"⟩ ∈ jm_W := jm_w0 (List.mem_map.mpr ⟨(⟨"CellWorksModel", "reads", "(IJ)Z"⟩, 45), by decide +kernel, rfl⟩) rfl
theorem ws_Md_isName : Cond.selects "CellWorksModel" ⟨"CellWorksModel", "isName", "()Z"⟩ ⟨"CellWorksModel", "isName", "()Z"⟩ ∈ jm_W := jm_w0 (List.mem_map.mpr ⟨(⟨"CellWorksModel", "isName", "()Z"⟩, 45), by decide +kernel, rfl⟩) rfl
theorem ws_Md_below : Cond.selects "CellWorksModel" ⟨"CellWorksModel", "below", "(I)J"⟩ ⟨"CellWorksModel", "below", "(I)J"⟩ ∈ jm_W := jm_w0 (List.mem_map.mpr ⟨(⟨"CellWorksModel", "below", "(I)J"⟩, 45), by decide +kernel, rfl⟩) rfl
theorem ws_Md_buildSet : Cond.selects "CellWorksModel" ⟨"CellWorksModel", "buildSet", "(J)I"⟩ ⟨"CellWorksModel", "buildSet", "(J)I"⟩ ∈ jm_W := jm_w0 (List.mem_map.mpr ⟨(⟨"CellWorksModel", "buildSet", "(J)I"⟩, 45), by decide +kernel, rfl⟩) rfl
theorem ws_Md_isReady : Cond.selects "CellWorksModel" ⟨"CellWorksModel", "isReady", "(IJ)Z"⟩ ⟨"CellWorksModel", "isReady", "(IJ)Z"⟩ ∈ jm_W := jm_w0 (List.mem_map.mpr ⟨(⟨"CellWorksModel", "isReady", "(IJ)Z"⟩, 45), by decide +kernel, rfl⟩) rfl
theorem ws_Md_isStale : Cond.selects "CellWorksModel" ⟨"CellWorksModel", "isStale", "(I)Z"⟩ ⟨"CellWorksModel", "isStale", "(I)Z"⟩ ∈ jm_W := jm_w0 (List.mem_map.mpr ⟨(⟨"CellWorksModel", "isStale", "(I)Z"⟩, 45), by decide +kernel, rfl⟩) rfl
theorem ws_Md_resultOf : Cond.selects "CellWorksModel" ⟨"CellWorksModel", "resultOf", "(J)I"⟩ ⟨"CellWorksModel", "resultOf", "(J)I"⟩ ∈ jm_W := jm_w0 (List.mem_map.mpr ⟨(⟨"CellWorksModel", "resultOf", "(J)I"⟩, 45), by decide +kernel, rfl⟩) rfl
theorem ws_Md_valueOf : Cond.selects "CellWorksModel" ⟨"CellWorksModel", "valueOf", "(J)J"⟩ ⟨"CellWorksModel", "valueOf", "(J)J"⟩ ∈ jm_W := jm_w0 (List.mem_map.mpr ⟨(⟨"CellWorksModel", "valueOf", "(J)J"⟩, 45), by decide +kernel, rfl⟩) rfl
theorem ws_Md_workOut : Cond.selects "CellWorksModel" ⟨"CellWorksModel", "workOut", "(I)V"⟩ ⟨"CellWorksModel", "workOut", "(I)V"⟩ ∈ jm_W := jm_w0 (List.mem_map.mpr ⟨(⟨"CellWorksModel", "workOut", "(I)V"⟩, 45), by decide +kernel, rfl⟩) rfl
theorem ws_Md_work : Cond.selects "CellWorksModel" ⟨"CellWorksModel", "work", "(I)J"⟩ ⟨"CellWorksModel", "work", "(I)J"⟩ ∈ jm_W := jm_w0 (List.mem_map.mpr ⟨(⟨"CellWorksModel", "work", "(I)J"⟩, 45), by decide +kernel, rfl⟩) rfl
theorem ws_Md_push : Cond.selects "CellWorksModel" ⟨"CellWorksModel", "push", "(I)V"⟩ ⟨"CellWorksModel", "push", "(I)V"⟩ ∈ jm_W := jm_w0 (List.mem_map.mpr ⟨(⟨"CellWorksModel", "push", "(I)V"⟩, 45), by decide +kernel, rfl⟩) rfl
theorem ws_Md_leaf : Cond.selects "CellWorksModel" ⟨"CellWorksModel", "leaf", "(I)V"⟩ ⟨"CellWorksModel", "leaf", "(I)V"⟩ ∈ jm_W := jm_w0 (List.mem_map.mpr ⟨(⟨"CellWorksModel", "leaf", "(I)V"⟩, 45), by decide +kernel, rfl⟩) rfl
theorem ws_Md_both : Cond.selects "CellWorksModel" ⟨"CellWorksModel", "both", "(IJJ)J"⟩ ⟨"CellWorksModel", "both", "(IJJ)J"⟩ ∈ jm_W := jm_w0 (List.mem_map.mpr ⟨(⟨"CellWorksModel", "both", "(IJJ)J"⟩, 45), by decide +kernel, rfl⟩) rfl
theorem jl_CW : ∀ w ∈ u_ws "CellWorks" jT_CW 3, w ∈ jm_W := by
  intro w hw
  obtain ⟨k, hk, rfl⟩ := List.mem_map.mp hw
  have hk := List.mem_range.mp hk
  match k, hk with
  | 0, _ => exact wl_CW_reader
  | 1, _ => exact wl_CW_cells
  | 2, _ => exact wl_CW_builder
  | k + 3, h => exact absurd h (by omega)
theorem jl_Rd : ∀ w ∈ u_ws "CellWorks$Reader" jT_Rd 7, w ∈ jm_W := by
  intro w hw
  obtain ⟨k, hk, rfl⟩ := List.mem_map.mp hw
  have hk := List.mem_range.mp hk
  match k, hk with
  | 0, _ => exact wl_Rd_tape
  | 1, _ => exact wl_Rd_formula
  | 2, _ => exact wl_Rd_name
  | 3, _ => exact wl_Rd_faultCode
  | 4, _ => exact wl_Rd_faultPlace
  | 5, _ => exact wl_Rd_nodes
  | 6, _ => exact wl_Rd_places
  | k + 7, h => exact absurd h (by omega)
theorem jl_Tp : ∀ w ∈ u_ws "CellWorks$Tape" jT_Tp 7, w ∈ jm_W := by
  intro w hw
  obtain ⟨k, hk, rfl⟩ := List.mem_map.mp hw
  have hk := List.mem_range.mp hk
  match k, hk with
  | 0, _ => exact wl_Tp_bytes
  | 1, _ => exact wl_Tp_length
  | 2, _ => exact wl_Tp_next
  | 3, _ => exact wl_Tp_kind
  | 4, _ => exact wl_Tp_start
  | 5, _ => exact wl_Tp_name
  | 6, _ => exact wl_Tp_number
  | k + 7, h => exact absurd h (by omega)
theorem jl_Fm : ∀ w ∈ u_ws "CellWorks$Formula" jT_Fm 7, w ∈ jm_W := by
  intro w hw
  obtain ⟨k, hk, rfl⟩ := List.mem_map.mp hw
  have hk := List.mem_range.mp hk
  match k, hk with
  | 0, _ => exact wl_Fm_steps
  | 1, _ => exact wl_Fm_details
  | 2, _ => exact wl_Fm_length
  | 3, _ => exact wl_Fm_names
  | 4, _ => exact wl_Fm_seenKinds
  | 5, _ => exact wl_Fm_seenValues
  | 6, _ => exact wl_Fm_nameCount
  | k + 7, h => exact absurd h (by omega)
theorem jl_Cs : ∀ w ∈ u_ws "CellWorks$Cells" jT_Cs 3, w ∈ jm_W := by
  intro w hw
  obtain ⟨k, hk, rfl⟩ := List.mem_map.mp hw
  have hk := List.mem_range.mp hk
  match k, hk with
  | 0, _ => exact wl_Cs_rows
  | 1, _ => exact wl_Cs_size
  | 2, _ => exact wl_Cs_reads
  | k + 3, h => exact absurd h (by omega)
theorem jl_Cl : ∀ w ∈ u_ws "CellWorks$Cell" jT_Cl 5, w ∈ jm_W := by
  intro w hw
  obtain ⟨k, hk, rfl⟩ := List.mem_map.mp hw
  have hk := List.mem_range.mp hk
  match k, hk with
  | 0, _ => exact wl_Cl_name
  | 1, _ => exact wl_Cl_formula
  | 2, _ => exact wl_Cl_workedOut
  | 3, _ => exact wl_Cl_kind
  | 4, _ => exact wl_Cl_value
  | k + 5, h => exact absurd h (by omega)
theorem jl_Bd : ∀ w ∈ u_ws "CellWorks$Builder" jT_Bd 4, w ∈ jm_W := by
  intro w hw
  obtain ⟨k, hk, rfl⟩ := List.mem_map.mp hw
  have hk := List.mem_range.mp hk
  match k, hk with
  | 0, _ => exact wl_Bd_work
  | 1, _ => exact wl_Bd_latest
  | 2, _ => exact wl_Bd_latestSize
  | 3, _ => exact wl_Bd_total
  | k + 4, h => exact absurd h (by omega)
theorem jl_Wk : ∀ w ∈ u_ws "CellWorks$Work" jT_Wk 4, w ∈ jm_W := by
  intro w hw
  obtain ⟨k, hk, rfl⟩ := List.mem_map.mp hw
  have hk := List.mem_range.mp hk
  match k, hk with
  | 0, _ => exact wl_Wk_stack
  | 1, _ => exact wl_Wk_height
  | 2, _ => exact wl_Wk_kind
  | 3, _ => exact wl_Wk_value
  | k + 4, h => exact absurd h (by omega)
theorem jl_Md : ∀ w ∈ u_ws "CellWorksModel" jT_Md 45, w ∈ jm_W := by
  intro w hw
  obtain ⟨k, hk, rfl⟩ := List.mem_map.mp hw
  have hk := List.mem_range.mp hk
  match k, hk with
  | 0, _ => exact wl_Md_thrown
  | 1, _ => exact wl_Md_tape
  | 2, _ => exact wl_Md_tapeSize
  | 3, _ => exact wl_Md_faultCode
  | 4, _ => exact wl_Md_faultPlace
  | 5, _ => exact wl_Md_there
  | 6, _ => exact wl_Md_names
  | 7, _ => exact wl_Md_results
  | 8, _ => exact wl_Md_values
  | 9, _ => exact wl_Md_worked
  | 10, _ => exact wl_Md_roots
  | 11, _ => exact wl_Md_nodeCounts
  | 12, _ => exact wl_Md_kinds
  | 13, _ => exact wl_Md_ones
  | 14, _ => exact wl_Md_twos
  | 15, _ => exact wl_Md_threes
  | 16, _ => exact wl_Md_amounts
  | 17, _ => exact wl_Md_seenResults
  | 18, _ => exact wl_Md_seenValues
  | 19, _ => exact wl_Md_workedInAll
  | 20, _ => exact wl_Md_built
  | 21, _ => exact wl_Md_builtCount
  | 22, _ => exact wl_Md_place
  | 23, _ => exact wl_Md_tokenFrom
  | 24, _ => exact wl_Md_token
  | 25, _ => exact wl_Md_tokenAmount
  | 26, _ => exact wl_Md_newKinds
  | 27, _ => exact wl_Md_newOnes
  | 28, _ => exact wl_Md_newTwos
  | 29, _ => exact wl_Md_newThrees
  | 30, _ => exact wl_Md_newAmounts
  | 31, _ => exact wl_Md_newPlaces
  | 32, _ => exact wl_Md_newCount
  | 33, _ => exact wl_Md_waiting
  | 34, _ => exact wl_Md_given
  | 35, _ => exact wl_Md_waitingCount
  | 36, _ => exact wl_Md_parts
  | 37, _ => exact wl_Md_partCount
  | 38, _ => exact wl_Md_depth
  | 39, _ => exact wl_Md_error
  | 40, _ => exact wl_Md_pile
  | 41, _ => exact wl_Md_phases
  | 42, _ => exact wl_Md_kept
  | 43, _ => exact wl_Md_high
  | 44, _ => exact wl_Md_answer
  | k + 45, h => exact absurd h (by omega)
/-! methods: name, code, locals, answer, exception table -/
abbrev jm_M : Type := MethodName × ByteArray × Nat × Option FieldType × List ExceptionTableEntry
def mm_CW_init : jm_M := (⟨"CellWorks", "<init>", "()V"⟩, prog_1_method_1_code, 1, none, [])
def mm_Rd_init : jm_M := (⟨"CellWorks$Reader", "<init>", "()V"⟩, prog_6_method_1_code, 1, none, [])
def mm_Tp_init : jm_M := (⟨"CellWorks$Tape", "<init>", "()V"⟩, prog_7_method_1_code, 1, none, [])
def mm_Fm_init : jm_M := (⟨"CellWorks$Formula", "<init>", "()V"⟩, prog_5_method_1_code, 1, none, [])
def mm_Cs_init : jm_M := (⟨"CellWorks$Cells", "<init>", "()V"⟩, prog_4_method_1_code, 1, none, [])
def mm_Bd_init : jm_M := (⟨"CellWorks$Builder", "<init>", "()V"⟩, prog_2_method_1_code, 1, none, [])
def mm_Wk_init : jm_M := (⟨"CellWorks$Work", "<init>", "()V"⟩, prog_8_method_1_code, 1, none, [])
def mm_CW_define : jm_M := (⟨"CellWorks", "define", "()I"⟩, prog_1_method_4_code, 1, (some FieldType.int), [])
def mm_Rd_readDefinition : jm_M := (⟨"CellWorks$Reader", "readDefinition", "()Z"⟩, prog_6_method_2_code, 1, (some FieldType.boolean), [])
def mm_Fm_clear : jm_M := (⟨"CellWorks$Formula", "clear", "()V"⟩, prog_5_method_2_code, 1, none, [])
def mm_Tp_rewind : jm_M := (⟨"CellWorks$Tape", "rewind", "()V"⟩, prog_7_method_4_code, 1, none, [])
def mm_Rd_pass : jm_M := (⟨"CellWorks$Reader", "pass", "()Z"⟩, prog_6_method_7_code, 1, (some FieldType.boolean), [])
def mm_Tp_readToken : jm_M := (⟨"CellWorks$Tape", "readToken", "()V"⟩, prog_7_method_6_code, 2, none, [])
def mm_Tp_byteAt : jm_M := (⟨"CellWorks$Tape", "byteAt", "(I)I"⟩, prog_7_method_3_code, 2, (some FieldType.int), [])
def mm_Tp_isBlank : jm_M := (⟨"CellWorks$Tape", "isBlank", "(I)Z"⟩, prog_7_method_10_code, 1, (some FieldType.boolean), [])
def mm_Tp_isLetter : jm_M := (⟨"CellWorks$Tape", "isLetter", "(I)Z"⟩, prog_7_method_11_code, 1, (some FieldType.boolean), [])
def mm_Tp_readWord : jm_M := (⟨"CellWorks$Tape", "readWord", "()V"⟩, prog_7_method_7_code, 2, none, [])
def mm_Tp_isDigit : jm_M := (⟨"CellWorks$Tape", "isDigit", "(I)Z"⟩, prog_7_method_12_code, 1, (some FieldType.boolean), [])
def mm_Tp_kindOfWord : jm_M := (⟨"CellWorks$Tape", "kindOfWord", "(J)I"⟩, prog_7_method_9_code, 2, (some FieldType.int), [])
def mm_Tp_readNumber : jm_M := (⟨"CellWorks$Tape", "readNumber", "()V"⟩, prog_7_method_8_code, 1, none, [])
def mm_Tp_isMark : jm_M := (⟨"CellWorks$Tape", "isMark", "(I)Z"⟩, prog_7_method_13_code, 1, (some FieldType.boolean), [])
def mm_Rd_refuse : jm_M := (⟨"CellWorks$Reader", "refuse", "(I)Z"⟩, prog_6_method_6_code, 2, (some FieldType.boolean), [])
def mm_Rd_refuseAt : jm_M := (⟨"CellWorks$Reader", "refuseAt", "(II)V"⟩, prog_6_method_5_code, 3, none, [])
def mm_Rd_expect : jm_M := (⟨"CellWorks$Reader", "expect", "(I)Z"⟩, prog_6_method_8_code, 2, (some FieldType.boolean), [])
def mm_Rd_sum : jm_M := (⟨"CellWorks$Reader", "sum", "(I)Z"⟩, prog_6_method_11_code, 4, (some FieldType.boolean), [])
def mm_Rd_product : jm_M := (⟨"CellWorks$Reader", "product", "(I)Z"⟩, prog_6_method_12_code, 4, (some FieldType.boolean), [])
def mm_Rd_part : jm_M := (⟨"CellWorks$Reader", "part", "(I)Z"⟩, prog_6_method_13_code, 2, (some FieldType.boolean), [])
def mm_Fm_addStep : jm_M := (⟨"CellWorks$Formula", "addStep", "(II)V"⟩, prog_5_method_3_code, 3, none, [])
def mm_Rd_passNode : jm_M := (⟨"CellWorks$Reader", "passNode", "()Z"⟩, prog_6_method_9_code, 1, (some FieldType.boolean), [])
def mm_Rd_noteName : jm_M := (⟨"CellWorks$Reader", "noteName", "()V"⟩, prog_6_method_14_code, 2, none, [])
def mm_Fm_addName : jm_M := (⟨"CellWorks$Formula", "addName", "(J)V"⟩, prog_5_method_4_code, 3, none, [])
def mm_Rd_negated : jm_M := (⟨"CellWorks$Reader", "negated", "(I)Z"⟩, prog_6_method_15_code, 2, (some FieldType.boolean), [])
def mm_Rd_passOpening : jm_M := (⟨"CellWorks$Reader", "passOpening", "(I)Z"⟩, prog_6_method_10_code, 2, (some FieldType.boolean), [])
def mm_Rd_lesserOrGreater : jm_M := (⟨"CellWorks$Reader", "lesserOrGreater", "(I)Z"⟩, prog_6_method_16_code, 3, (some FieldType.boolean), [])
def mm_Rd_choice : jm_M := (⟨"CellWorks$Reader", "choice", "(I)Z"⟩, prog_6_method_17_code, 4, (some FieldType.boolean), [])
def mm_Fm_aimHere : jm_M := (⟨"CellWorks$Formula", "aimHere", "(I)V"⟩, prog_5_method_5_code, 2, none, [])
def mm_CW_settle : jm_M := (⟨"CellWorks", "settle", "()V"⟩, prog_1_method_15_code, 3, none, [])
def mm_Cs_find : jm_M := (⟨"CellWorks$Cells", "find", "(J)LCellWorks$Cell;"⟩, prog_4_method_4_code, 4, (some (FieldType.object "CellWorks$Cell")), [])
def mm_Cs_indexOf : jm_M := (⟨"CellWorks$Cells", "indexOf", "(J)I"⟩, prog_4_method_3_code, 4, (some FieldType.int), [])
def mm_Cs_placeFor : jm_M := (⟨"CellWorks$Cells", "placeFor", "(J)I"⟩, prog_4_method_2_code, 5, (some FieldType.int), [])
def mm_Cs_firstInCircle : jm_M := (⟨"CellWorks$Cells", "firstInCircle", "(JLCellWorks$Formula;)I"⟩, prog_4_method_17_code, 8, (some FieldType.int), [])
def mm_Cs_dependents : jm_M := (⟨"CellWorks$Cells", "dependents", "(J)J"⟩, prog_4_method_15_code, 9, (some FieldType.long), [])
def mm_Cs_directReaders : jm_M := (⟨"CellWorks$Cells", "directReaders", "(J)J"⟩, prog_4_method_14_code, 6, (some FieldType.long), [])
def mm_Fm_mentions : jm_M := (⟨"CellWorks$Formula", "mentions", "(J)Z"⟩, prog_5_method_6_code, 4, (some FieldType.boolean), [])
def mm_Cs_trace : jm_M := (⟨"CellWorks$Cells", "trace", "()V"⟩, prog_4_method_13_code, 7, none, [])
def mm_Rd_placeOfName : jm_M := (⟨"CellWorks$Reader", "placeOfName", "(I)I"⟩, prog_6_method_3_code, 2, (some FieldType.int), [])
def mm_Rd_exchangeFormula : jm_M := (⟨"CellWorks$Reader", "exchangeFormula", "(LCellWorks$Formula;)LCellWorks$Formula;"⟩, prog_6_method_4_code, 3, (some (FieldType.object "CellWorks$Formula")), [])
def mm_Cl_init : jm_M := (⟨"CellWorks$Cell", "<init>", "(JLCellWorks$Formula;)V"⟩, prog_3_method_1_code, 4, none, [])
def mm_Cs_insert : jm_M := (⟨"CellWorks$Cells", "insert", "(LCellWorks$Cell;)V"⟩, prog_4_method_5_code, 4, none, [])
def mm_CW_fault : jm_M := (⟨"CellWorks", "fault", "()I"⟩, prog_1_method_5_code, 1, (some FieldType.int), [])
def mm_CW_buildAll : jm_M := (⟨"CellWorks", "buildAll", "()I"⟩, prog_1_method_8_code, 1, (some FieldType.int), [])
def mm_Cs_all : jm_M := (⟨"CellWorks$Cells", "all", "()J"⟩, prog_4_method_12_code, 4, (some FieldType.long), [])
def mm_Bd_run : jm_M := (⟨"CellWorks$Builder", "run", "(LCellWorks$Cells;J)I"⟩, prog_2_method_2_code, 14, (some FieldType.int), [])
def mm_Cs_withGround : jm_M := (⟨"CellWorks$Cells", "withGround", "(J)J"⟩, prog_4_method_16_code, 9, (some FieldType.long), [])
def mm_Cs_isStale : jm_M := (⟨"CellWorks$Cells", "isStale", "(LCellWorks$Cell;)Z"⟩, prog_4_method_9_code, 5, (some FieldType.boolean), [])
def mm_Cs_kindOf : jm_M := (⟨"CellWorks$Cells", "kindOf", "(LCellWorks$Cell;)I"⟩, prog_4_method_7_code, 2, (some FieldType.int), [])
def mm_Cs_valueOf : jm_M := (⟨"CellWorks$Cells", "valueOf", "(LCellWorks$Cell;)J"⟩, prog_4_method_8_code, 2, (some FieldType.long), [])
def mm_Bd_workOut : jm_M := (⟨"CellWorks$Builder", "workOut", "(LCellWorks$Cells;LCellWorks$Cell;)V"⟩, prog_2_method_3_code, 3, none, [])
def mm_Cs_look : jm_M := (⟨"CellWorks$Cells", "look", "(LCellWorks$Formula;)V"⟩, prog_4_method_10_code, 4, none, [])
def mm_Wk_run : jm_M := (⟨"CellWorks$Work", "run", "(LCellWorks$Formula;)V"⟩, prog_8_method_2_code, 4, none, [])
def mm_Wk_take : jm_M := (⟨"CellWorks$Work", "take", "(LCellWorks$Formula;III)I"⟩, prog_8_method_3_code, 9, (some FieldType.int), [])
def mm_Wk_push : jm_M := (⟨"CellWorks$Work", "push", "(J)V"⟩, prog_8_method_7_code, 3, none, [])
def mm_Wk_pushResult : jm_M := (⟨"CellWorks$Work", "pushResult", "(LCellWorks$Formula;I)V"⟩, prog_8_method_4_code, 3, none, [])
def mm_Wk_pop : jm_M := (⟨"CellWorks$Work", "pop", "()J"⟩, prog_8_method_8_code, 1, (some FieldType.long), [])
def mm_Wk_join : jm_M := (⟨"CellWorks$Work", "join", "(IJJ)V"⟩, prog_8_method_5_code, 6, none, [])
def mm_Wk_divide : jm_M := (⟨"CellWorks$Work", "divide", "(JJ)V"⟩, prog_8_method_6_code, 5, none, [])
def mm_Ma_min : jm_M := (⟨"java/lang/Math", "min", "(JJ)J"⟩, prog_15_method_70_code, 4, (some FieldType.long), [])
def mm_Ma_max : jm_M := (⟨"java/lang/Math", "max", "(JJ)J"⟩, prog_15_method_66_code, 4, (some FieldType.long), [])
def mm_Bd_keepNames : jm_M := (⟨"CellWorks$Builder", "keepNames", "(LCellWorks$Cells;J)V"⟩, prog_2_method_4_code, 5, none, [])
def mm_Lw_feed : jm_M := (⟨"CellWorksLaw", "feed", "(LCellWorks;IIIII[J)I"⟩, method_3_code, 8, (some FieldType.int), [⟨0, 16, 19, 13⟩])
def mm_CW_feed : jm_M := (⟨"CellWorks", "feed", "(IIIII)I"⟩, prog_1_method_2_code, 7, (some FieldType.int), [])
def mm_Tp_add : jm_M := (⟨"CellWorks$Tape", "add", "(I)V"⟩, prog_7_method_2_code, 3, none, [])
def mm_Lw_end : jm_M := (⟨"CellWorksLaw", "end", "(LCellWorks;I)I"⟩, method_4_code, 3, (some FieldType.int), [⟨0, 5, 8, 19⟩])
def mm_CW_end : jm_M := (⟨"CellWorks", "end", "(I)V"⟩, prog_1_method_3_code, 2, none, [])
def mm_Lw_remove : jm_M := (⟨"CellWorksLaw", "remove", "(LCellWorks;[J)I"⟩, method_5_code, 3, (some FieldType.int), [⟨0, 15, 18, 25⟩])
def mm_CW_remove : jm_M := (⟨"CellWorks", "remove", "()Z"⟩, prog_1_method_6_code, 3, (some FieldType.boolean), [])
def mm_CW_nameOnTape : jm_M := (⟨"CellWorks", "nameOnTape", "()J"⟩, prog_1_method_14_code, 3, (some FieldType.long), [])
def mm_Tp_onlyName : jm_M := (⟨"CellWorks$Tape", "onlyName", "()J"⟩, prog_7_method_5_code, 3, (some FieldType.long), [])
def mm_Cs_drop : jm_M := (⟨"CellWorks$Cells", "drop", "(J)Z"⟩, prog_4_method_6_code, 5, (some FieldType.boolean), [])
def mm_Lw_build : jm_M := (⟨"CellWorksLaw", "build", "(LCellWorks;[J)I"⟩, method_6_code, 3, (some FieldType.int), [⟨0, 8, 11, 25⟩])
def mm_CW_build : jm_M := (⟨"CellWorks", "build", "()I"⟩, prog_1_method_7_code, 5, (some FieldType.int), [])
def mm_Lw_value : jm_M := (⟨"CellWorksLaw", "value", "(LCellWorks;[J)I"⟩, method_7_code, 3, (some FieldType.int), [⟨0, 7, 10, 25⟩])
def mm_CW_value : jm_M := (⟨"CellWorks", "value", "()J"⟩, prog_1_method_9_code, 1, (some FieldType.long), [])
def mm_Lw_state : jm_M := (⟨"CellWorksLaw", "state", "(LCellWorks;[J)I"⟩, method_8_code, 3, (some FieldType.int), [⟨0, 8, 11, 25⟩])
def mm_CW_state : jm_M := (⟨"CellWorks", "state", "()I"⟩, prog_1_method_10_code, 2, (some FieldType.int), [])
def mm_Lw_readers : jm_M := (⟨"CellWorksLaw", "readers", "(LCellWorks;Z[J)I"⟩, method_9_code, 4, (some FieldType.int), [⟨0, 9, 12, 25⟩])
def mm_CW_readers : jm_M := (⟨"CellWorks", "readers", "(Z)I"⟩, prog_1_method_11_code, 4, (some FieldType.int), [])
def mm_Lo_bitCount : jm_M := (⟨"java/lang/Long", "bitCount", "(J)I"⟩, prog_14_method_50_code, 2, (some FieldType.int), [])
def mm_Lw_built : jm_M := (⟨"CellWorksLaw", "built", "(LCellWorks;II[J)I"⟩, method_10_code, 5, (some FieldType.int), [⟨0, 10, 13, 46⟩])
def mm_CW_built : jm_M := (⟨"CellWorks", "built", "(II)I"⟩, prog_1_method_12_code, 4, (some FieldType.int), [])
def mm_Bd_byteOfLatest : jm_M := (⟨"CellWorks$Builder", "byteOfLatest", "(II)I"⟩, prog_2_method_5_code, 4, (some FieldType.int), [])
def mm_Lw_count : jm_M := (⟨"CellWorksLaw", "count", "(LCellWorks;I[J)I"⟩, method_11_code, 4, (some FieldType.int), [⟨0, 9, 12, 19⟩])
def mm_CW_count : jm_M := (⟨"CellWorks", "count", "(I)I"⟩, prog_1_method_13_code, 2, (some FieldType.int), [])
def mm_Cs_staleOnes : jm_M := (⟨"CellWorks$Cells", "staleOnes", "()I"⟩, prog_4_method_11_code, 3, (some FieldType.int), [])
def mm_Md_init : jm_M := (⟨"CellWorksModel", "<init>", "()V"⟩, prog_10_method_1_code, 1, none, [])
def mm_Md_thrown : jm_M := (⟨"CellWorksModel", "thrown", "()I"⟩, prog_10_method_2_code, 1, (some FieldType.int), [])
def mm_Md_define : jm_M := (⟨"CellWorksModel", "define", "()I"⟩, prog_10_method_27_code, 10, (some FieldType.int), [])
def mm_Md_next : jm_M := (⟨"CellWorksModel", "next", "()V"⟩, prog_10_method_7_code, 2, none, [])
def mm_Md_at : jm_M := (⟨"CellWorksModel", "at", "(I)I"⟩, prog_10_method_3_code, 2, (some FieldType.int), [])
def mm_Md_isBlank : jm_M := (⟨"CellWorksModel", "isBlank", "(I)Z"⟩, prog_10_method_6_code, 1, (some FieldType.boolean), [])
def mm_Md_isDigit : jm_M := (⟨"CellWorksModel", "isDigit", "(I)Z"⟩, prog_10_method_4_code, 1, (some FieldType.boolean), [])
def mm_Md_isLetter : jm_M := (⟨"CellWorksModel", "isLetter", "(I)Z"⟩, prog_10_method_5_code, 1, (some FieldType.boolean), [])
def mm_Md_function : jm_M := (⟨"CellWorksModel", "function", "()I"⟩, prog_10_method_8_code, 1, (some FieldType.int), [])
def mm_Md_wrong : jm_M := (⟨"CellWorksModel", "wrong", "()V"⟩, prog_10_method_10_code, 1, none, [])
def mm_Md_fail : jm_M := (⟨"CellWorksModel", "fail", "(II)V"⟩, prog_10_method_9_code, 3, none, [])
def mm_Md_formula : jm_M := (⟨"CellWorksModel", "formula", "()V"⟩, prog_10_method_21_code, 2, none, [])
def mm_Md_part : jm_M := (⟨"CellWorksModel", "part", "()Z"⟩, prog_10_method_18_code, 2, (some FieldType.boolean), [])
def mm_Md_newNode : jm_M := (⟨"CellWorksModel", "newNode", "(IJ)I"⟩, prog_10_method_11_code, 4, (some FieldType.int), [])
def mm_Md_settle : jm_M := (⟨"CellWorksModel", "settle", "(I)V"⟩, prog_10_method_15_code, 3, none, [])
def mm_Md_isOperator : jm_M := (⟨"CellWorksModel", "isOperator", "(I)Z"⟩, prog_10_method_13_code, 2, (some FieldType.boolean), [])
def mm_Md_strength : jm_M := (⟨"CellWorksModel", "strength", "(I)I"⟩, prog_10_method_14_code, 1, (some FieldType.int), [])
def mm_Md_deeper : jm_M := (⟨"CellWorksModel", "deeper", "()V"⟩, prog_10_method_16_code, 1, none, [])
def mm_Md_await : jm_M := (⟨"CellWorksModel", "await", "(I)V"⟩, prog_10_method_12_code, 2, none, [])
def mm_Md_behind : jm_M := (⟨"CellWorksModel", "behind", "()Z"⟩, prog_10_method_19_code, 3, (some FieldType.boolean), [])
def mm_Md_wants : jm_M := (⟨"CellWorksModel", "wants", "(I)I"⟩, prog_10_method_17_code, 1, (some FieldType.int), [])
def mm_Md_give : jm_M := (⟨"CellWorksModel", "give", "(I)V"⟩, prog_10_method_20_code, 3, none, [])
def mm_Md_cellOf : jm_M := (⟨"CellWorksModel", "cellOf", "(J)I"⟩, prog_10_method_22_code, 4, (some FieldType.int), [])
def mm_Md_cellCount : jm_M := (⟨"CellWorksModel", "cellCount", "()I"⟩, prog_10_method_23_code, 3, (some FieldType.int), [])
def mm_Md_readersOf : jm_M := (⟨"CellWorksModel", "readersOf", "(J)J"⟩, prog_10_method_25_code, 10, (some FieldType.long), [])
def mm_Md_reads : jm_M := (⟨"CellWorksModel", "reads", "(IJ)Z"⟩, prog_10_method_24_code, 5, (some FieldType.boolean), [])
def mm_Md_remove : jm_M := (⟨"CellWorksModel", "remove", "()Z"⟩, prog_10_method_40_code, 2, (some FieldType.boolean), [])
def mm_Md_isName : jm_M := (⟨"CellWorksModel", "isName", "()Z"⟩, prog_10_method_39_code, 4, (some FieldType.boolean), [])
def mm_Md_build : jm_M := (⟨"CellWorksModel", "build", "()I"⟩, prog_10_method_41_code, 2, (some FieldType.int), [])
def mm_Md_below : jm_M := (⟨"CellWorksModel", "below", "(I)J"⟩, prog_10_method_38_code, 8, (some FieldType.long), [])
def mm_Md_buildSet : jm_M := (⟨"CellWorksModel", "buildSet", "(J)I"⟩, prog_10_method_37_code, 6, (some FieldType.int), [])
def mm_Md_isReady : jm_M := (⟨"CellWorksModel", "isReady", "(IJ)Z"⟩, prog_10_method_36_code, 6, (some FieldType.boolean), [])
def mm_Md_isStale : jm_M := (⟨"CellWorksModel", "isStale", "(I)Z"⟩, prog_10_method_34_code, 4, (some FieldType.boolean), [])
def mm_Md_resultOf : jm_M := (⟨"CellWorksModel", "resultOf", "(J)I"⟩, prog_10_method_28_code, 4, (some FieldType.int), [])
def mm_Md_valueOf : jm_M := (⟨"CellWorksModel", "valueOf", "(J)J"⟩, prog_10_method_29_code, 4, (some FieldType.long), [])
def mm_Md_workOut : jm_M := (⟨"CellWorksModel", "workOut", "(I)V"⟩, prog_10_method_35_code, 5, none, [])
def mm_Md_work : jm_M := (⟨"CellWorksModel", "work", "(I)J"⟩, prog_10_method_31_code, 4, (some FieldType.long), [])
def mm_Md_push : jm_M := (⟨"CellWorksModel", "push", "(I)V"⟩, prog_10_method_30_code, 2, none, [])
def mm_Md_leaf : jm_M := (⟨"CellWorksModel", "leaf", "(I)V"⟩, prog_10_method_32_code, 2, none, [])
def mm_Md_both : jm_M := (⟨"CellWorksModel", "both", "(IJJ)J"⟩, prog_10_method_33_code, 6, (some FieldType.long), [])
def mm_Md_buildAll : jm_M := (⟨"CellWorksModel", "buildAll", "()I"⟩, prog_10_method_42_code, 4, (some FieldType.int), [])
def mm_Md_fault : jm_M := (⟨"CellWorksModel", "fault", "()I"⟩, prog_10_method_43_code, 1, (some FieldType.int), [])
def mm_Md_value : jm_M := (⟨"CellWorksModel", "value", "()J"⟩, prog_10_method_44_code, 1, (some FieldType.long), [])
def mm_Md_state : jm_M := (⟨"CellWorksModel", "state", "()I"⟩, prog_10_method_45_code, 2, (some FieldType.int), [])
def mm_Md_readers : jm_M := (⟨"CellWorksModel", "readers", "(Z)I"⟩, prog_10_method_46_code, 6, (some FieldType.int), [])
def mm_Md_howMany : jm_M := (⟨"CellWorksModel", "howMany", "(J)I"⟩, prog_10_method_26_code, 4, (some FieldType.int), [])
def mm_Md_built : jm_M := (⟨"CellWorksModel", "built", "(II)I"⟩, prog_10_method_47_code, 4, (some FieldType.int), [])
def mm_Md_count : jm_M := (⟨"CellWorksModel", "count", "(I)I"⟩, prog_10_method_48_code, 4, (some FieldType.int), [])
def mm_Md_feed : jm_M := (⟨"CellWorksModel", "feed", "(IIIII)I"⟩, prog_10_method_49_code, 8, (some FieldType.int), [])
def mm_Md_end : jm_M := (⟨"CellWorksModel", "end", "(I)V"⟩, prog_10_method_50_code, 2, none, [])
def mm_Lw_law : jm_M := (⟨"CellWorksLaw", "law", "([I)Z"⟩, code, 8, (some FieldType.boolean), [])
end
section
theorem d_CW_init_0 : decode mm_CW_init.2.1 0 = .ok (.aload_n 0, 1) := by decide +kernel
theorem d_CW_init_1 : decode mm_CW_init.2.1 1 = .ok (.invokespecial 3, 3) := by decide +kernel
theorem d_CW_init_4 : decode mm_CW_init.2.1 4 = .ok (.aload_n 0, 1) := by decide +kernel
theorem d_CW_init_5 : decode mm_CW_init.2.1 5 = .ok (.new 9, 3) := by decide +kernel
theorem d_CW_init_8 : decode mm_CW_init.2.1 8 = .ok (.dup, 1) := by decide +kernel
theorem d_CW_init_9 : decode mm_CW_init.2.1 9 = .ok (.invokespecial 11, 3) := by decide +kernel
theorem d_CW_init_12 : decode mm_CW_init.2.1 12 = .ok (.putfield 12, 3) := by decide +kernel
theorem d_CW_init_15 : decode mm_CW_init.2.1 15 = .ok (.aload_n 0, 1) := by decide +kernel
theorem d_CW_init_16 : decode mm_CW_init.2.1 16 = .ok (.new 16, 3) := by decide +kernel
theorem d_CW_init_19 : decode mm_CW_init.2.1 19 = .ok (.dup, 1) := by decide +kernel
theorem d_CW_init_20 : decode mm_CW_init.2.1 20 = .ok (.invokespecial 18, 3) := by decide +kernel
theorem d_CW_init_23 : decode mm_CW_init.2.1 23 = .ok (.putfield 19, 3) := by decide +kernel
theorem d_CW_init_26 : decode mm_CW_init.2.1 26 = .ok (.aload_n 0, 1) := by decide +kernel
theorem d_CW_init_27 : decode mm_CW_init.2.1 27 = .ok (.new 23, 3) := by decide +kernel
theorem d_CW_init_30 : decode mm_CW_init.2.1 30 = .ok (.dup, 1) := by decide +kernel
theorem d_CW_init_31 : decode mm_CW_init.2.1 31 = .ok (.invokespecial 25, 3) := by decide +kernel
theorem d_CW_init_34 : decode mm_CW_init.2.1 34 = .ok (.putfield 26, 3) := by decide +kernel
theorem d_CW_init_37 : decode mm_CW_init.2.1 37 = .ok (.return_, 1) := by decide +kernel
theorem d_Rd_init_0 : decode mm_Rd_init.2.1 0 = .ok (.aload_n 0, 1) := by decide +kernel
theorem d_Rd_init_1 : decode mm_Rd_init.2.1 1 = .ok (.invokespecial 3, 3) := by decide +kernel
theorem d_Rd_init_4 : decode mm_Rd_init.2.1 4 = .ok (.aload_n 0, 1) := by decide +kernel
theorem d_Rd_init_5 : decode mm_Rd_init.2.1 5 = .ok (.new 9, 3) := by decide +kernel
theorem d_Rd_init_8 : decode mm_Rd_init.2.1 8 = .ok (.dup, 1) := by decide +kernel
theorem d_Rd_init_9 : decode mm_Rd_init.2.1 9 = .ok (.invokespecial 11, 3) := by decide +kernel
theorem d_Rd_init_12 : decode mm_Rd_init.2.1 12 = .ok (.putfield 12, 3) := by decide +kernel
theorem d_Rd_init_15 : decode mm_Rd_init.2.1 15 = .ok (.aload_n 0, 1) := by decide +kernel
theorem d_Rd_init_16 : decode mm_Rd_init.2.1 16 = .ok (.new 18, 3) := by decide +kernel
theorem d_Rd_init_19 : decode mm_Rd_init.2.1 19 = .ok (.dup, 1) := by decide +kernel
theorem d_Rd_init_20 : decode mm_Rd_init.2.1 20 = .ok (.invokespecial 20, 3) := by decide +kernel
theorem d_Rd_init_23 : decode mm_Rd_init.2.1 23 = .ok (.putfield 21, 3) := by decide +kernel
theorem d_Rd_init_26 : decode mm_Rd_init.2.1 26 = .ok (.aload_n 0, 1) := by decide +kernel
theorem d_Rd_init_27 : decode mm_Rd_init.2.1 27 = .ok (.lconst 0, 1) := by decide +kernel
theorem d_Rd_init_28 : decode mm_Rd_init.2.1 28 = .ok (.putfield 25, 3) := by decide +kernel
theorem d_Rd_init_31 : decode mm_Rd_init.2.1 31 = .ok (.aload_n 0, 1) := by decide +kernel
theorem d_Rd_init_32 : decode mm_Rd_init.2.1 32 = .ok (.iconst 0, 1) := by decide +kernel
theorem d_Rd_init_33 : decode mm_Rd_init.2.1 33 = .ok (.putfield 29, 3) := by decide +kernel
theorem d_Rd_init_36 : decode mm_Rd_init.2.1 36 = .ok (.aload_n 0, 1) := by decide +kernel
theorem d_Rd_init_37 : decode mm_Rd_init.2.1 37 = .ok (.iconst 0, 1) := by decide +kernel
theorem d_Rd_init_38 : decode mm_Rd_init.2.1 38 = .ok (.putfield 33, 3) := by decide +kernel
theorem d_Rd_init_41 : decode mm_Rd_init.2.1 41 = .ok (.aload_n 0, 1) := by decide +kernel
theorem d_Rd_init_42 : decode mm_Rd_init.2.1 42 = .ok (.iconst 0, 1) := by decide +kernel
theorem d_Rd_init_43 : decode mm_Rd_init.2.1 43 = .ok (.putfield 36, 3) := by decide +kernel
theorem d_Rd_init_46 : decode mm_Rd_init.2.1 46 = .ok (.aload_n 0, 1) := by decide +kernel
theorem d_Rd_init_47 : decode mm_Rd_init.2.1 47 = .ok (.bipush 40, 2) := by decide +kernel
theorem d_Rd_init_49 : decode mm_Rd_init.2.1 49 = .ok (.newarray .int, 2) := by decide +kernel
theorem d_Rd_init_51 : decode mm_Rd_init.2.1 51 = .ok (.putfield 39, 3) := by decide +kernel
theorem d_Rd_init_54 : decode mm_Rd_init.2.1 54 = .ok (.return_, 1) := by decide +kernel
theorem d_Tp_init_0 : decode mm_Tp_init.2.1 0 = .ok (.aload_n 0, 1) := by decide +kernel
theorem d_Tp_init_1 : decode mm_Tp_init.2.1 1 = .ok (.invokespecial 3, 3) := by decide +kernel
theorem d_Tp_init_4 : decode mm_Tp_init.2.1 4 = .ok (.aload_n 0, 1) := by decide +kernel
theorem d_Tp_init_5 : decode mm_Tp_init.2.1 5 = .ok (.sipush 2000, 3) := by decide +kernel
theorem d_Tp_init_8 : decode mm_Tp_init.2.1 8 = .ok (.newarray .byte, 2) := by decide +kernel
theorem d_Tp_init_10 : decode mm_Tp_init.2.1 10 = .ok (.putfield 9, 3) := by decide +kernel
theorem d_Tp_init_13 : decode mm_Tp_init.2.1 13 = .ok (.aload_n 0, 1) := by decide +kernel
theorem d_Tp_init_14 : decode mm_Tp_init.2.1 14 = .ok (.iconst 0, 1) := by decide +kernel
theorem d_Tp_init_15 : decode mm_Tp_init.2.1 15 = .ok (.putfield 15, 3) := by decide +kernel
theorem d_Tp_init_18 : decode mm_Tp_init.2.1 18 = .ok (.aload_n 0, 1) := by decide +kernel
theorem d_Tp_init_19 : decode mm_Tp_init.2.1 19 = .ok (.iconst 0, 1) := by decide +kernel
theorem d_Tp_init_20 : decode mm_Tp_init.2.1 20 = .ok (.putfield 19, 3) := by decide +kernel
theorem d_Tp_init_23 : decode mm_Tp_init.2.1 23 = .ok (.aload_n 0, 1) := by decide +kernel
theorem d_Tp_init_24 : decode mm_Tp_init.2.1 24 = .ok (.iconst 0, 1) := by decide +kernel
theorem d_Tp_init_25 : decode mm_Tp_init.2.1 25 = .ok (.putfield 22, 3) := by decide +kernel
theorem d_Tp_init_28 : decode mm_Tp_init.2.1 28 = .ok (.aload_n 0, 1) := by decide +kernel
theorem d_Tp_init_29 : decode mm_Tp_init.2.1 29 = .ok (.iconst 0, 1) := by decide +kernel
theorem d_Tp_init_30 : decode mm_Tp_init.2.1 30 = .ok (.putfield 25, 3) := by decide +kernel
theorem d_Tp_init_33 : decode mm_Tp_init.2.1 33 = .ok (.aload_n 0, 1) := by decide +kernel
theorem d_Tp_init_34 : decode mm_Tp_init.2.1 34 = .ok (.lconst 0, 1) := by decide +kernel
theorem d_Tp_init_35 : decode mm_Tp_init.2.1 35 = .ok (.putfield 28, 3) := by decide +kernel
theorem d_Tp_init_38 : decode mm_Tp_init.2.1 38 = .ok (.aload_n 0, 1) := by decide +kernel
theorem d_Tp_init_39 : decode mm_Tp_init.2.1 39 = .ok (.iconst 0, 1) := by decide +kernel
theorem d_Tp_init_40 : decode mm_Tp_init.2.1 40 = .ok (.putfield 32, 3) := by decide +kernel
theorem d_Tp_init_43 : decode mm_Tp_init.2.1 43 = .ok (.return_, 1) := by decide +kernel
theorem d_Fm_init_0 : decode mm_Fm_init.2.1 0 = .ok (.aload_n 0, 1) := by decide +kernel
theorem d_Fm_init_1 : decode mm_Fm_init.2.1 1 = .ok (.invokespecial 3, 3) := by decide +kernel
theorem d_Fm_init_4 : decode mm_Fm_init.2.1 4 = .ok (.aload_n 0, 1) := by decide +kernel
theorem d_Fm_init_5 : decode mm_Fm_init.2.1 5 = .ok (.bipush 80, 2) := by decide +kernel
theorem d_Fm_init_7 : decode mm_Fm_init.2.1 7 = .ok (.newarray .int, 2) := by decide +kernel
theorem d_Fm_init_9 : decode mm_Fm_init.2.1 9 = .ok (.putfield 9, 3) := by decide +kernel
theorem d_Fm_init_12 : decode mm_Fm_init.2.1 12 = .ok (.aload_n 0, 1) := by decide +kernel
theorem d_Fm_init_13 : decode mm_Fm_init.2.1 13 = .ok (.bipush 80, 2) := by decide +kernel
theorem d_Fm_init_15 : decode mm_Fm_init.2.1 15 = .ok (.newarray .int, 2) := by decide +kernel
theorem d_Fm_init_17 : decode mm_Fm_init.2.1 17 = .ok (.putfield 15, 3) := by decide +kernel
theorem d_Fm_init_20 : decode mm_Fm_init.2.1 20 = .ok (.aload_n 0, 1) := by decide +kernel
theorem d_Fm_init_21 : decode mm_Fm_init.2.1 21 = .ok (.iconst 0, 1) := by decide +kernel
theorem d_Fm_init_22 : decode mm_Fm_init.2.1 22 = .ok (.putfield 18, 3) := by decide +kernel
theorem d_Fm_init_25 : decode mm_Fm_init.2.1 25 = .ok (.aload_n 0, 1) := by decide +kernel
theorem d_Fm_init_26 : decode mm_Fm_init.2.1 26 = .ok (.bipush 40, 2) := by decide +kernel
theorem d_Fm_init_28 : decode mm_Fm_init.2.1 28 = .ok (.newarray .long, 2) := by decide +kernel
theorem d_Fm_init_30 : decode mm_Fm_init.2.1 30 = .ok (.putfield 22, 3) := by decide +kernel
theorem d_Fm_init_33 : decode mm_Fm_init.2.1 33 = .ok (.aload_n 0, 1) := by decide +kernel
theorem d_Fm_init_34 : decode mm_Fm_init.2.1 34 = .ok (.bipush 40, 2) := by decide +kernel
theorem d_Fm_init_36 : decode mm_Fm_init.2.1 36 = .ok (.newarray .int, 2) := by decide +kernel
theorem d_Fm_init_38 : decode mm_Fm_init.2.1 38 = .ok (.putfield 26, 3) := by decide +kernel
theorem d_Fm_init_41 : decode mm_Fm_init.2.1 41 = .ok (.aload_n 0, 1) := by decide +kernel
theorem d_Fm_init_42 : decode mm_Fm_init.2.1 42 = .ok (.bipush 40, 2) := by decide +kernel
theorem d_Fm_init_44 : decode mm_Fm_init.2.1 44 = .ok (.newarray .long, 2) := by decide +kernel
theorem d_Fm_init_46 : decode mm_Fm_init.2.1 46 = .ok (.putfield 29, 3) := by decide +kernel
theorem d_Fm_init_49 : decode mm_Fm_init.2.1 49 = .ok (.aload_n 0, 1) := by decide +kernel
theorem d_Fm_init_50 : decode mm_Fm_init.2.1 50 = .ok (.iconst 0, 1) := by decide +kernel
theorem d_Fm_init_51 : decode mm_Fm_init.2.1 51 = .ok (.putfield 32, 3) := by decide +kernel
theorem d_Fm_init_54 : decode mm_Fm_init.2.1 54 = .ok (.return_, 1) := by decide +kernel
theorem d_Cs_init_0 : decode mm_Cs_init.2.1 0 = .ok (.aload_n 0, 1) := by decide +kernel
theorem d_Cs_init_1 : decode mm_Cs_init.2.1 1 = .ok (.invokespecial 3, 3) := by decide +kernel
theorem d_Cs_init_4 : decode mm_Cs_init.2.1 4 = .ok (.aload_n 0, 1) := by decide +kernel
theorem d_Cs_init_5 : decode mm_Cs_init.2.1 5 = .ok (.bipush 64, 2) := by decide +kernel
theorem d_Cs_init_7 : decode mm_Cs_init.2.1 7 = .ok (.anewarray 9, 3) := by decide +kernel
theorem d_Cs_init_10 : decode mm_Cs_init.2.1 10 = .ok (.putfield 11, 3) := by decide +kernel
theorem d_Cs_init_13 : decode mm_Cs_init.2.1 13 = .ok (.aload_n 0, 1) := by decide +kernel
theorem d_Cs_init_14 : decode mm_Cs_init.2.1 14 = .ok (.iconst 0, 1) := by decide +kernel
theorem d_Cs_init_15 : decode mm_Cs_init.2.1 15 = .ok (.putfield 17, 3) := by decide +kernel
theorem d_Cs_init_18 : decode mm_Cs_init.2.1 18 = .ok (.aload_n 0, 1) := by decide +kernel
theorem d_Cs_init_19 : decode mm_Cs_init.2.1 19 = .ok (.bipush 64, 2) := by decide +kernel
theorem d_Cs_init_21 : decode mm_Cs_init.2.1 21 = .ok (.newarray .long, 2) := by decide +kernel
theorem d_Cs_init_23 : decode mm_Cs_init.2.1 23 = .ok (.putfield 21, 3) := by decide +kernel
theorem d_Cs_init_26 : decode mm_Cs_init.2.1 26 = .ok (.return_, 1) := by decide +kernel
theorem d_Bd_init_0 : decode mm_Bd_init.2.1 0 = .ok (.aload_n 0, 1) := by decide +kernel
theorem d_Bd_init_1 : decode mm_Bd_init.2.1 1 = .ok (.invokespecial 3, 3) := by decide +kernel
theorem d_Bd_init_4 : decode mm_Bd_init.2.1 4 = .ok (.aload_n 0, 1) := by decide +kernel
theorem d_Bd_init_5 : decode mm_Bd_init.2.1 5 = .ok (.new 9, 3) := by decide +kernel
theorem d_Bd_init_8 : decode mm_Bd_init.2.1 8 = .ok (.dup, 1) := by decide +kernel
theorem d_Bd_init_9 : decode mm_Bd_init.2.1 9 = .ok (.invokespecial 11, 3) := by decide +kernel
theorem d_Bd_init_12 : decode mm_Bd_init.2.1 12 = .ok (.putfield 12, 3) := by decide +kernel
theorem d_Bd_init_15 : decode mm_Bd_init.2.1 15 = .ok (.aload_n 0, 1) := by decide +kernel
theorem d_Bd_init_16 : decode mm_Bd_init.2.1 16 = .ok (.bipush 64, 2) := by decide +kernel
theorem d_Bd_init_18 : decode mm_Bd_init.2.1 18 = .ok (.newarray .long, 2) := by decide +kernel
theorem d_Bd_init_20 : decode mm_Bd_init.2.1 20 = .ok (.putfield 18, 3) := by decide +kernel
theorem d_Bd_init_23 : decode mm_Bd_init.2.1 23 = .ok (.aload_n 0, 1) := by decide +kernel
theorem d_Bd_init_24 : decode mm_Bd_init.2.1 24 = .ok (.iconst 0, 1) := by decide +kernel
theorem d_Bd_init_25 : decode mm_Bd_init.2.1 25 = .ok (.putfield 22, 3) := by decide +kernel
theorem d_Bd_init_28 : decode mm_Bd_init.2.1 28 = .ok (.aload_n 0, 1) := by decide +kernel
theorem d_Bd_init_29 : decode mm_Bd_init.2.1 29 = .ok (.iconst 0, 1) := by decide +kernel
theorem d_Bd_init_30 : decode mm_Bd_init.2.1 30 = .ok (.putfield 26, 3) := by decide +kernel
theorem d_Bd_init_33 : decode mm_Bd_init.2.1 33 = .ok (.return_, 1) := by decide +kernel
theorem d_Wk_init_0 : decode mm_Wk_init.2.1 0 = .ok (.aload_n 0, 1) := by decide +kernel
theorem d_Wk_init_1 : decode mm_Wk_init.2.1 1 = .ok (.invokespecial 3, 3) := by decide +kernel
theorem d_Wk_init_4 : decode mm_Wk_init.2.1 4 = .ok (.aload_n 0, 1) := by decide +kernel
theorem d_Wk_init_5 : decode mm_Wk_init.2.1 5 = .ok (.bipush 40, 2) := by decide +kernel
theorem d_Wk_init_7 : decode mm_Wk_init.2.1 7 = .ok (.newarray .long, 2) := by decide +kernel
theorem d_Wk_init_9 : decode mm_Wk_init.2.1 9 = .ok (.putfield 9, 3) := by decide +kernel
theorem d_Wk_init_12 : decode mm_Wk_init.2.1 12 = .ok (.aload_n 0, 1) := by decide +kernel
theorem d_Wk_init_13 : decode mm_Wk_init.2.1 13 = .ok (.iconst 0, 1) := by decide +kernel
theorem d_Wk_init_14 : decode mm_Wk_init.2.1 14 = .ok (.putfield 15, 3) := by decide +kernel
theorem d_Wk_init_17 : decode mm_Wk_init.2.1 17 = .ok (.aload_n 0, 1) := by decide +kernel
theorem d_Wk_init_18 : decode mm_Wk_init.2.1 18 = .ok (.iconst 0, 1) := by decide +kernel
theorem d_Wk_init_19 : decode mm_Wk_init.2.1 19 = .ok (.putfield 19, 3) := by decide +kernel
theorem d_Wk_init_22 : decode mm_Wk_init.2.1 22 = .ok (.aload_n 0, 1) := by decide +kernel
theorem d_Wk_init_23 : decode mm_Wk_init.2.1 23 = .ok (.lconst 0, 1) := by decide +kernel
theorem d_Wk_init_24 : decode mm_Wk_init.2.1 24 = .ok (.putfield 22, 3) := by decide +kernel
theorem d_Wk_init_27 : decode mm_Wk_init.2.1 27 = .ok (.return_, 1) := by decide +kernel
theorem d_CW_define_0 : decode mm_CW_define.2.1 0 = .ok (.aload_n 0, 1) := by decide +kernel
theorem d_CW_define_1 : decode mm_CW_define.2.1 1 = .ok (.getfield 12, 3) := by decide +kernel
theorem d_CW_define_4 : decode mm_CW_define.2.1 4 = .ok (.invokevirtual 56, 3) := by decide +kernel
theorem d_CW_define_7 : decode mm_CW_define.2.1 7 = .ok (.ifCond .eq 7, 3) := by decide +kernel
theorem d_CW_define_10 : decode mm_CW_define.2.1 10 = .ok (.aload_n 0, 1) := by decide +kernel
theorem d_CW_define_11 : decode mm_CW_define.2.1 11 = .ok (.invokevirtual 60, 3) := by decide +kernel
theorem d_CW_define_14 : decode mm_CW_define.2.1 14 = .ok (.aload_n 0, 1) := by decide +kernel
theorem d_CW_define_15 : decode mm_CW_define.2.1 15 = .ok (.getfield 12, 3) := by decide +kernel
theorem d_CW_define_18 : decode mm_CW_define.2.1 18 = .ok (.getfield 30, 3) := by decide +kernel
theorem d_CW_define_21 : decode mm_CW_define.2.1 21 = .ok (.iconst 0, 1) := by decide +kernel
theorem d_CW_define_22 : decode mm_CW_define.2.1 22 = .ok (.putfield 34, 3) := by decide +kernel
theorem d_CW_define_25 : decode mm_CW_define.2.1 25 = .ok (.aload_n 0, 1) := by decide +kernel
theorem d_CW_define_26 : decode mm_CW_define.2.1 26 = .ok (.getfield 12, 3) := by decide +kernel
theorem d_CW_define_29 : decode mm_CW_define.2.1 29 = .ok (.getfield 63, 3) := by decide +kernel
theorem d_CW_define_32 : decode mm_CW_define.2.1 32 = .ok (.ifCond .ne 7, 3) := by decide +kernel
theorem d_CW_define_35 : decode mm_CW_define.2.1 35 = .ok (.iconst (-1), 1) := by decide +kernel
theorem d_CW_define_36 : decode mm_CW_define.2.1 36 = .ok (.goto 10, 3) := by decide +kernel
theorem d_CW_define_39 : decode mm_CW_define.2.1 39 = .ok (.aload_n 0, 1) := by decide +kernel
theorem d_CW_define_40 : decode mm_CW_define.2.1 40 = .ok (.getfield 12, 3) := by decide +kernel
theorem d_CW_define_43 : decode mm_CW_define.2.1 43 = .ok (.getfield 66, 3) := by decide +kernel
theorem d_CW_define_46 : decode mm_CW_define.2.1 46 = .ok (.ireturn, 1) := by decide +kernel
theorem d_Rd_readDefinition_0 : decode mm_Rd_readDefinition.2.1 0 = .ok (.aload_n 0, 1) := by decide +kernel
theorem d_Rd_readDefinition_1 : decode mm_Rd_readDefinition.2.1 1 = .ok (.iconst 0, 1) := by decide +kernel
theorem d_Rd_readDefinition_2 : decode mm_Rd_readDefinition.2.1 2 = .ok (.putfield 29, 3) := by decide +kernel
theorem d_Rd_readDefinition_5 : decode mm_Rd_readDefinition.2.1 5 = .ok (.aload_n 0, 1) := by decide +kernel
theorem d_Rd_readDefinition_6 : decode mm_Rd_readDefinition.2.1 6 = .ok (.iconst 0, 1) := by decide +kernel
theorem d_Rd_readDefinition_7 : decode mm_Rd_readDefinition.2.1 7 = .ok (.putfield 36, 3) := by decide +kernel
theorem d_Rd_readDefinition_10 : decode mm_Rd_readDefinition.2.1 10 = .ok (.aload_n 0, 1) := by decide +kernel
theorem d_Rd_readDefinition_11 : decode mm_Rd_readDefinition.2.1 11 = .ok (.getfield 21, 3) := by decide +kernel
theorem d_Rd_readDefinition_14 : decode mm_Rd_readDefinition.2.1 14 = .ok (.invokevirtual 43, 3) := by decide +kernel
theorem d_Rd_readDefinition_17 : decode mm_Rd_readDefinition.2.1 17 = .ok (.aload_n 0, 1) := by decide +kernel
theorem d_Rd_readDefinition_18 : decode mm_Rd_readDefinition.2.1 18 = .ok (.getfield 12, 3) := by decide +kernel
theorem d_Rd_readDefinition_21 : decode mm_Rd_readDefinition.2.1 21 = .ok (.invokevirtual 46, 3) := by decide +kernel
theorem d_Rd_readDefinition_24 : decode mm_Rd_readDefinition.2.1 24 = .ok (.aload_n 0, 1) := by decide +kernel
theorem d_Rd_readDefinition_25 : decode mm_Rd_readDefinition.2.1 25 = .ok (.invokevirtual 49, 3) := by decide +kernel
theorem d_Rd_readDefinition_28 : decode mm_Rd_readDefinition.2.1 28 = .ok (.ifCond .ne 5, 3) := by decide +kernel
theorem d_Rd_readDefinition_31 : decode mm_Rd_readDefinition.2.1 31 = .ok (.iconst 0, 1) := by decide +kernel
theorem d_Rd_readDefinition_32 : decode mm_Rd_readDefinition.2.1 32 = .ok (.ireturn, 1) := by decide +kernel
theorem d_Rd_readDefinition_33 : decode mm_Rd_readDefinition.2.1 33 = .ok (.aload_n 0, 1) := by decide +kernel
theorem d_Rd_readDefinition_34 : decode mm_Rd_readDefinition.2.1 34 = .ok (.aload_n 0, 1) := by decide +kernel
theorem d_Rd_readDefinition_35 : decode mm_Rd_readDefinition.2.1 35 = .ok (.getfield 12, 3) := by decide +kernel
theorem d_Rd_readDefinition_38 : decode mm_Rd_readDefinition.2.1 38 = .ok (.getfield 53, 3) := by decide +kernel
theorem d_Rd_readDefinition_41 : decode mm_Rd_readDefinition.2.1 41 = .ok (.putfield 25, 3) := by decide +kernel
theorem d_Rd_readDefinition_44 : decode mm_Rd_readDefinition.2.1 44 = .ok (.aload_n 0, 1) := by decide +kernel
theorem d_Rd_readDefinition_45 : decode mm_Rd_readDefinition.2.1 45 = .ok (.iconst 2, 1) := by decide +kernel
theorem d_Rd_readDefinition_46 : decode mm_Rd_readDefinition.2.1 46 = .ok (.invokevirtual 54, 3) := by decide +kernel
theorem d_Rd_readDefinition_49 : decode mm_Rd_readDefinition.2.1 49 = .ok (.ifCond .eq 42, 3) := by decide +kernel
theorem d_Rd_readDefinition_52 : decode mm_Rd_readDefinition.2.1 52 = .ok (.aload_n 0, 1) := by decide +kernel
theorem d_Rd_readDefinition_53 : decode mm_Rd_readDefinition.2.1 53 = .ok (.bipush 61, 2) := by decide +kernel
theorem d_Rd_readDefinition_55 : decode mm_Rd_readDefinition.2.1 55 = .ok (.invokevirtual 54, 3) := by decide +kernel
theorem d_Rd_readDefinition_58 : decode mm_Rd_readDefinition.2.1 58 = .ok (.ifCond .eq 33, 3) := by decide +kernel
theorem d_Rd_readDefinition_61 : decode mm_Rd_readDefinition.2.1 61 = .ok (.aload_n 0, 1) := by decide +kernel
theorem d_Rd_readDefinition_62 : decode mm_Rd_readDefinition.2.1 62 = .ok (.iconst 0, 1) := by decide +kernel
theorem d_Rd_readDefinition_63 : decode mm_Rd_readDefinition.2.1 63 = .ok (.invokevirtual 58, 3) := by decide +kernel
theorem d_Rd_readDefinition_66 : decode mm_Rd_readDefinition.2.1 66 = .ok (.ifCond .eq 25, 3) := by decide +kernel
theorem d_Rd_readDefinition_69 : decode mm_Rd_readDefinition.2.1 69 = .ok (.aload_n 0, 1) := by decide +kernel
theorem d_Rd_readDefinition_70 : decode mm_Rd_readDefinition.2.1 70 = .ok (.getfield 12, 3) := by decide +kernel
theorem d_Rd_readDefinition_73 : decode mm_Rd_readDefinition.2.1 73 = .ok (.getfield 61, 3) := by decide +kernel
theorem d_Rd_readDefinition_76 : decode mm_Rd_readDefinition.2.1 76 = .ok (.ifCond .eq 11, 3) := by decide +kernel
theorem d_Rd_readDefinition_79 : decode mm_Rd_readDefinition.2.1 79 = .ok (.aload_n 0, 1) := by decide +kernel
theorem d_Rd_readDefinition_80 : decode mm_Rd_readDefinition.2.1 80 = .ok (.iconst 2, 1) := by decide +kernel
theorem d_Rd_readDefinition_81 : decode mm_Rd_readDefinition.2.1 81 = .ok (.invokevirtual 64, 3) := by decide +kernel
theorem d_Rd_readDefinition_84 : decode mm_Rd_readDefinition.2.1 84 = .ok (.ifCond .eq 7, 3) := by decide +kernel
theorem d_Rd_readDefinition_87 : decode mm_Rd_readDefinition.2.1 87 = .ok (.iconst 1, 1) := by decide +kernel
theorem d_Rd_readDefinition_88 : decode mm_Rd_readDefinition.2.1 88 = .ok (.goto 4, 3) := by decide +kernel
theorem d_Rd_readDefinition_91 : decode mm_Rd_readDefinition.2.1 91 = .ok (.iconst 0, 1) := by decide +kernel
theorem d_Rd_readDefinition_92 : decode mm_Rd_readDefinition.2.1 92 = .ok (.ireturn, 1) := by decide +kernel
theorem d_Fm_clear_0 : decode mm_Fm_clear.2.1 0 = .ok (.aload_n 0, 1) := by decide +kernel
theorem d_Fm_clear_1 : decode mm_Fm_clear.2.1 1 = .ok (.iconst 0, 1) := by decide +kernel
theorem d_Fm_clear_2 : decode mm_Fm_clear.2.1 2 = .ok (.putfield 18, 3) := by decide +kernel
theorem d_Fm_clear_5 : decode mm_Fm_clear.2.1 5 = .ok (.aload_n 0, 1) := by decide +kernel
theorem d_Fm_clear_6 : decode mm_Fm_clear.2.1 6 = .ok (.iconst 0, 1) := by decide +kernel
theorem d_Fm_clear_7 : decode mm_Fm_clear.2.1 7 = .ok (.putfield 32, 3) := by decide +kernel
theorem d_Fm_clear_10 : decode mm_Fm_clear.2.1 10 = .ok (.return_, 1) := by decide +kernel
theorem d_Tp_rewind_0 : decode mm_Tp_rewind.2.1 0 = .ok (.aload_n 0, 1) := by decide +kernel
theorem d_Tp_rewind_1 : decode mm_Tp_rewind.2.1 1 = .ok (.iconst 0, 1) := by decide +kernel
theorem d_Tp_rewind_2 : decode mm_Tp_rewind.2.1 2 = .ok (.putfield 19, 3) := by decide +kernel
theorem d_Tp_rewind_5 : decode mm_Tp_rewind.2.1 5 = .ok (.return_, 1) := by decide +kernel
theorem d_Rd_pass_0 : decode mm_Rd_pass.2.1 0 = .ok (.aload_n 0, 1) := by decide +kernel
theorem d_Rd_pass_1 : decode mm_Rd_pass.2.1 1 = .ok (.getfield 12, 3) := by decide +kernel
theorem d_Rd_pass_4 : decode mm_Rd_pass.2.1 4 = .ok (.invokevirtual 74, 3) := by decide +kernel
theorem d_Rd_pass_7 : decode mm_Rd_pass.2.1 7 = .ok (.aload_n 0, 1) := by decide +kernel
theorem d_Rd_pass_8 : decode mm_Rd_pass.2.1 8 = .ok (.getfield 12, 3) := by decide +kernel
theorem d_Rd_pass_11 : decode mm_Rd_pass.2.1 11 = .ok (.getfield 61, 3) := by decide +kernel
theorem d_Rd_pass_14 : decode mm_Rd_pass.2.1 14 = .ok (.iconst 1, 1) := by decide +kernel
theorem d_Rd_pass_15 : decode mm_Rd_pass.2.1 15 = .ok (.if_icmp .ne 11, 3) := by decide +kernel
theorem d_Rd_pass_18 : decode mm_Rd_pass.2.1 18 = .ok (.aload_n 0, 1) := by decide +kernel
theorem d_Rd_pass_19 : decode mm_Rd_pass.2.1 19 = .ok (.iconst 1, 1) := by decide +kernel
theorem d_Rd_pass_20 : decode mm_Rd_pass.2.1 20 = .ok (.invokevirtual 64, 3) := by decide +kernel
theorem d_Rd_pass_23 : decode mm_Rd_pass.2.1 23 = .ok (.ifCond .eq 7, 3) := by decide +kernel
theorem d_Rd_pass_26 : decode mm_Rd_pass.2.1 26 = .ok (.iconst 1, 1) := by decide +kernel
theorem d_Rd_pass_27 : decode mm_Rd_pass.2.1 27 = .ok (.goto 4, 3) := by decide +kernel
theorem d_Rd_pass_30 : decode mm_Rd_pass.2.1 30 = .ok (.iconst 0, 1) := by decide +kernel
theorem d_Rd_pass_31 : decode mm_Rd_pass.2.1 31 = .ok (.ireturn, 1) := by decide +kernel
theorem d_Tp_readToken_0 : decode mm_Tp_readToken.2.1 0 = .ok (.aload_n 0, 1) := by decide +kernel
theorem d_Tp_readToken_1 : decode mm_Tp_readToken.2.1 1 = .ok (.getfield 19, 3) := by decide +kernel
theorem d_Tp_readToken_4 : decode mm_Tp_readToken.2.1 4 = .ok (.aload_n 0, 1) := by decide +kernel
theorem d_Tp_readToken_5 : decode mm_Tp_readToken.2.1 5 = .ok (.getfield 15, 3) := by decide +kernel
theorem d_Tp_readToken_8 : decode mm_Tp_readToken.2.1 8 = .ok (.if_icmp .ge 30, 3) := by decide +kernel
theorem d_Tp_readToken_11 : decode mm_Tp_readToken.2.1 11 = .ok (.aload_n 0, 1) := by decide +kernel
theorem d_Tp_readToken_12 : decode mm_Tp_readToken.2.1 12 = .ok (.aload_n 0, 1) := by decide +kernel
theorem d_Tp_readToken_13 : decode mm_Tp_readToken.2.1 13 = .ok (.getfield 19, 3) := by decide +kernel
theorem d_Tp_readToken_16 : decode mm_Tp_readToken.2.1 16 = .ok (.invokevirtual 41, 3) := by decide +kernel
theorem d_Tp_readToken_19 : decode mm_Tp_readToken.2.1 19 = .ok (.invokestatic 45, 3) := by decide +kernel
theorem d_Tp_readToken_22 : decode mm_Tp_readToken.2.1 22 = .ok (.ifCond .eq 16, 3) := by decide +kernel
theorem d_Tp_readToken_25 : decode mm_Tp_readToken.2.1 25 = .ok (.aload_n 0, 1) := by decide +kernel
theorem d_Tp_readToken_26 : decode mm_Tp_readToken.2.1 26 = .ok (.dup, 1) := by decide +kernel
theorem d_Tp_readToken_27 : decode mm_Tp_readToken.2.1 27 = .ok (.getfield 19, 3) := by decide +kernel
theorem d_Tp_readToken_30 : decode mm_Tp_readToken.2.1 30 = .ok (.iconst 1, 1) := by decide +kernel
theorem d_Tp_readToken_31 : decode mm_Tp_readToken.2.1 31 = .ok (.iadd, 1) := by decide +kernel
theorem d_Tp_readToken_32 : decode mm_Tp_readToken.2.1 32 = .ok (.putfield 19, 3) := by decide +kernel
theorem d_Tp_readToken_35 : decode mm_Tp_readToken.2.1 35 = .ok (.goto (-35), 3) := by decide +kernel
theorem d_Tp_readToken_38 : decode mm_Tp_readToken.2.1 38 = .ok (.aload_n 0, 1) := by decide +kernel
theorem d_Tp_readToken_39 : decode mm_Tp_readToken.2.1 39 = .ok (.aload_n 0, 1) := by decide +kernel
theorem d_Tp_readToken_40 : decode mm_Tp_readToken.2.1 40 = .ok (.getfield 19, 3) := by decide +kernel
theorem d_Tp_readToken_43 : decode mm_Tp_readToken.2.1 43 = .ok (.putfield 25, 3) := by decide +kernel
theorem d_Tp_readToken_46 : decode mm_Tp_readToken.2.1 46 = .ok (.aload_n 0, 1) := by decide +kernel
theorem d_Tp_readToken_47 : decode mm_Tp_readToken.2.1 47 = .ok (.aload_n 0, 1) := by decide +kernel
theorem d_Tp_readToken_48 : decode mm_Tp_readToken.2.1 48 = .ok (.getfield 25, 3) := by decide +kernel
theorem d_Tp_readToken_51 : decode mm_Tp_readToken.2.1 51 = .ok (.invokevirtual 41, 3) := by decide +kernel
theorem d_Tp_readToken_54 : decode mm_Tp_readToken.2.1 54 = .ok (.istore_n 1, 1) := by decide +kernel
theorem d_Tp_readToken_55 : decode mm_Tp_readToken.2.1 55 = .ok (.iload_n 1, 1) := by decide +kernel
theorem d_Tp_readToken_56 : decode mm_Tp_readToken.2.1 56 = .ok (.iconst (-1), 1) := by decide +kernel
theorem d_Tp_readToken_57 : decode mm_Tp_readToken.2.1 57 = .ok (.if_icmp .ne 11, 3) := by decide +kernel
theorem d_Tp_readToken_60 : decode mm_Tp_readToken.2.1 60 = .ok (.aload_n 0, 1) := by decide +kernel
theorem d_Tp_readToken_61 : decode mm_Tp_readToken.2.1 61 = .ok (.iconst 0, 1) := by decide +kernel
theorem d_Tp_readToken_62 : decode mm_Tp_readToken.2.1 62 = .ok (.putfield 22, 3) := by decide +kernel
theorem d_Tp_readToken_65 : decode mm_Tp_readToken.2.1 65 = .ok (.goto 57, 3) := by decide +kernel
theorem d_Tp_readToken_68 : decode mm_Tp_readToken.2.1 68 = .ok (.iload_n 1, 1) := by decide +kernel
theorem d_Tp_readToken_69 : decode mm_Tp_readToken.2.1 69 = .ok (.invokestatic 49, 3) := by decide +kernel
theorem d_Tp_readToken_72 : decode mm_Tp_readToken.2.1 72 = .ok (.ifCond .eq 10, 3) := by decide +kernel
theorem d_Tp_readToken_75 : decode mm_Tp_readToken.2.1 75 = .ok (.aload_n 0, 1) := by decide +kernel
theorem d_Tp_readToken_76 : decode mm_Tp_readToken.2.1 76 = .ok (.invokevirtual 52, 3) := by decide +kernel
theorem d_Tp_readToken_79 : decode mm_Tp_readToken.2.1 79 = .ok (.goto 43, 3) := by decide +kernel
theorem d_Tp_readToken_82 : decode mm_Tp_readToken.2.1 82 = .ok (.iload_n 1, 1) := by decide +kernel
theorem d_Tp_readToken_83 : decode mm_Tp_readToken.2.1 83 = .ok (.invokestatic 55, 3) := by decide +kernel
theorem d_Tp_readToken_86 : decode mm_Tp_readToken.2.1 86 = .ok (.ifCond .eq 10, 3) := by decide +kernel
theorem d_Tp_readToken_89 : decode mm_Tp_readToken.2.1 89 = .ok (.aload_n 0, 1) := by decide +kernel
theorem d_Tp_readToken_90 : decode mm_Tp_readToken.2.1 90 = .ok (.invokevirtual 58, 3) := by decide +kernel
theorem d_Tp_readToken_93 : decode mm_Tp_readToken.2.1 93 = .ok (.goto 29, 3) := by decide +kernel
theorem d_Tp_readToken_96 : decode mm_Tp_readToken.2.1 96 = .ok (.aload_n 0, 1) := by decide +kernel
theorem d_Tp_readToken_97 : decode mm_Tp_readToken.2.1 97 = .ok (.iload_n 1, 1) := by decide +kernel
theorem d_Tp_readToken_98 : decode mm_Tp_readToken.2.1 98 = .ok (.invokestatic 61, 3) := by decide +kernel
theorem d_Tp_readToken_101 : decode mm_Tp_readToken.2.1 101 = .ok (.ifCond .eq 7, 3) := by decide +kernel
theorem d_Tp_readToken_104 : decode mm_Tp_readToken.2.1 104 = .ok (.iload_n 1, 1) := by decide +kernel
theorem d_Tp_readToken_105 : decode mm_Tp_readToken.2.1 105 = .ok (.goto 4, 3) := by decide +kernel
theorem d_Tp_readToken_108 : decode mm_Tp_readToken.2.1 108 = .ok (.iconst 1, 1) := by decide +kernel
theorem d_Tp_readToken_109 : decode mm_Tp_readToken.2.1 109 = .ok (.putfield 22, 3) := by decide +kernel
theorem d_Tp_readToken_112 : decode mm_Tp_readToken.2.1 112 = .ok (.aload_n 0, 1) := by decide +kernel
theorem d_Tp_readToken_113 : decode mm_Tp_readToken.2.1 113 = .ok (.dup, 1) := by decide +kernel
theorem d_Tp_readToken_114 : decode mm_Tp_readToken.2.1 114 = .ok (.getfield 19, 3) := by decide +kernel
theorem d_Tp_readToken_117 : decode mm_Tp_readToken.2.1 117 = .ok (.iconst 1, 1) := by decide +kernel
theorem d_Tp_readToken_118 : decode mm_Tp_readToken.2.1 118 = .ok (.iadd, 1) := by decide +kernel
theorem d_Tp_readToken_119 : decode mm_Tp_readToken.2.1 119 = .ok (.putfield 19, 3) := by decide +kernel
theorem d_Tp_readToken_122 : decode mm_Tp_readToken.2.1 122 = .ok (.return_, 1) := by decide +kernel
theorem d_Tp_byteAt_0 : decode mm_Tp_byteAt.2.1 0 = .ok (.iload_n 1, 1) := by decide +kernel
theorem d_Tp_byteAt_1 : decode mm_Tp_byteAt.2.1 1 = .ok (.ifCond .lt 33, 3) := by decide +kernel
theorem d_Tp_byteAt_4 : decode mm_Tp_byteAt.2.1 4 = .ok (.iload_n 1, 1) := by decide +kernel
theorem d_Tp_byteAt_5 : decode mm_Tp_byteAt.2.1 5 = .ok (.aload_n 0, 1) := by decide +kernel
theorem d_Tp_byteAt_6 : decode mm_Tp_byteAt.2.1 6 = .ok (.getfield 15, 3) := by decide +kernel
theorem d_Tp_byteAt_9 : decode mm_Tp_byteAt.2.1 9 = .ok (.if_icmp .ge 25, 3) := by decide +kernel
theorem d_Tp_byteAt_12 : decode mm_Tp_byteAt.2.1 12 = .ok (.iload_n 1, 1) := by decide +kernel
theorem d_Tp_byteAt_13 : decode mm_Tp_byteAt.2.1 13 = .ok (.aload_n 0, 1) := by decide +kernel
theorem d_Tp_byteAt_14 : decode mm_Tp_byteAt.2.1 14 = .ok (.getfield 9, 3) := by decide +kernel
theorem d_Tp_byteAt_17 : decode mm_Tp_byteAt.2.1 17 = .ok (.arraylength, 1) := by decide +kernel
theorem d_Tp_byteAt_18 : decode mm_Tp_byteAt.2.1 18 = .ok (.if_icmp .ge 16, 3) := by decide +kernel
theorem d_Tp_byteAt_21 : decode mm_Tp_byteAt.2.1 21 = .ok (.aload_n 0, 1) := by decide +kernel
theorem d_Tp_byteAt_22 : decode mm_Tp_byteAt.2.1 22 = .ok (.getfield 9, 3) := by decide +kernel
theorem d_Tp_byteAt_25 : decode mm_Tp_byteAt.2.1 25 = .ok (.iload_n 1, 1) := by decide +kernel
theorem d_Tp_byteAt_26 : decode mm_Tp_byteAt.2.1 26 = .ok (.baload, 1) := by decide +kernel
theorem d_Tp_byteAt_27 : decode mm_Tp_byteAt.2.1 27 = .ok (.sipush 255, 3) := by decide +kernel
theorem d_Tp_byteAt_30 : decode mm_Tp_byteAt.2.1 30 = .ok (.iand, 1) := by decide +kernel
theorem d_Tp_byteAt_31 : decode mm_Tp_byteAt.2.1 31 = .ok (.goto 4, 3) := by decide +kernel
theorem d_Tp_byteAt_34 : decode mm_Tp_byteAt.2.1 34 = .ok (.iconst (-1), 1) := by decide +kernel
theorem d_Tp_byteAt_35 : decode mm_Tp_byteAt.2.1 35 = .ok (.ireturn, 1) := by decide +kernel
theorem d_Tp_isBlank_0 : decode mm_Tp_isBlank.2.1 0 = .ok (.iload_n 0, 1) := by decide +kernel
theorem d_Tp_isBlank_1 : decode mm_Tp_isBlank.2.1 1 = .ok (.bipush 9, 2) := by decide +kernel
theorem d_Tp_isBlank_3 : decode mm_Tp_isBlank.2.1 3 = .ok (.if_icmp .eq 21, 3) := by decide +kernel
theorem d_Tp_isBlank_6 : decode mm_Tp_isBlank.2.1 6 = .ok (.iload_n 0, 1) := by decide +kernel
theorem d_Tp_isBlank_7 : decode mm_Tp_isBlank.2.1 7 = .ok (.bipush 10, 2) := by decide +kernel
theorem d_Tp_isBlank_9 : decode mm_Tp_isBlank.2.1 9 = .ok (.if_icmp .eq 15, 3) := by decide +kernel
theorem d_Tp_isBlank_12 : decode mm_Tp_isBlank.2.1 12 = .ok (.iload_n 0, 1) := by decide +kernel
theorem d_Tp_isBlank_13 : decode mm_Tp_isBlank.2.1 13 = .ok (.bipush 13, 2) := by decide +kernel
theorem d_Tp_isBlank_15 : decode mm_Tp_isBlank.2.1 15 = .ok (.if_icmp .eq 9, 3) := by decide +kernel
theorem d_Tp_isBlank_18 : decode mm_Tp_isBlank.2.1 18 = .ok (.iload_n 0, 1) := by decide +kernel
theorem d_Tp_isBlank_19 : decode mm_Tp_isBlank.2.1 19 = .ok (.bipush 32, 2) := by decide +kernel
theorem d_Tp_isBlank_21 : decode mm_Tp_isBlank.2.1 21 = .ok (.if_icmp .ne 7, 3) := by decide +kernel
theorem d_Tp_isBlank_24 : decode mm_Tp_isBlank.2.1 24 = .ok (.iconst 1, 1) := by decide +kernel
theorem d_Tp_isBlank_25 : decode mm_Tp_isBlank.2.1 25 = .ok (.goto 4, 3) := by decide +kernel
theorem d_Tp_isBlank_28 : decode mm_Tp_isBlank.2.1 28 = .ok (.iconst 0, 1) := by decide +kernel
theorem d_Tp_isBlank_29 : decode mm_Tp_isBlank.2.1 29 = .ok (.ireturn, 1) := by decide +kernel
theorem d_Tp_isLetter_0 : decode mm_Tp_isLetter.2.1 0 = .ok (.iload_n 0, 1) := by decide +kernel
theorem d_Tp_isLetter_1 : decode mm_Tp_isLetter.2.1 1 = .ok (.bipush 97, 2) := by decide +kernel
theorem d_Tp_isLetter_3 : decode mm_Tp_isLetter.2.1 3 = .ok (.if_icmp .lt 9, 3) := by decide +kernel
theorem d_Tp_isLetter_6 : decode mm_Tp_isLetter.2.1 6 = .ok (.iload_n 0, 1) := by decide +kernel
theorem d_Tp_isLetter_7 : decode mm_Tp_isLetter.2.1 7 = .ok (.bipush 122, 2) := by decide +kernel
theorem d_Tp_isLetter_9 : decode mm_Tp_isLetter.2.1 9 = .ok (.if_icmp .le 15, 3) := by decide +kernel
theorem d_Tp_isLetter_12 : decode mm_Tp_isLetter.2.1 12 = .ok (.iload_n 0, 1) := by decide +kernel
theorem d_Tp_isLetter_13 : decode mm_Tp_isLetter.2.1 13 = .ok (.bipush 65, 2) := by decide +kernel
theorem d_Tp_isLetter_15 : decode mm_Tp_isLetter.2.1 15 = .ok (.if_icmp .lt 13, 3) := by decide +kernel
theorem d_Tp_isLetter_18 : decode mm_Tp_isLetter.2.1 18 = .ok (.iload_n 0, 1) := by decide +kernel
theorem d_Tp_isLetter_19 : decode mm_Tp_isLetter.2.1 19 = .ok (.bipush 90, 2) := by decide +kernel
theorem d_Tp_isLetter_21 : decode mm_Tp_isLetter.2.1 21 = .ok (.if_icmp .gt 7, 3) := by decide +kernel
theorem d_Tp_isLetter_24 : decode mm_Tp_isLetter.2.1 24 = .ok (.iconst 1, 1) := by decide +kernel
theorem d_Tp_isLetter_25 : decode mm_Tp_isLetter.2.1 25 = .ok (.goto 4, 3) := by decide +kernel
theorem d_Tp_isLetter_28 : decode mm_Tp_isLetter.2.1 28 = .ok (.iconst 0, 1) := by decide +kernel
theorem d_Tp_isLetter_29 : decode mm_Tp_isLetter.2.1 29 = .ok (.ireturn, 1) := by decide +kernel
theorem d_Tp_readWord_0 : decode mm_Tp_readWord.2.1 0 = .ok (.aload_n 0, 1) := by decide +kernel
theorem d_Tp_readWord_1 : decode mm_Tp_readWord.2.1 1 = .ok (.lconst 0, 1) := by decide +kernel
theorem d_Tp_readWord_2 : decode mm_Tp_readWord.2.1 2 = .ok (.putfield 28, 3) := by decide +kernel
theorem d_Tp_readWord_5 : decode mm_Tp_readWord.2.1 5 = .ok (.aload_n 0, 1) := by decide +kernel
theorem d_Tp_readWord_6 : decode mm_Tp_readWord.2.1 6 = .ok (.getfield 19, 3) := by decide +kernel
theorem d_Tp_readWord_9 : decode mm_Tp_readWord.2.1 9 = .ok (.aload_n 0, 1) := by decide +kernel
theorem d_Tp_readWord_10 : decode mm_Tp_readWord.2.1 10 = .ok (.getfield 15, 3) := by decide +kernel
theorem d_Tp_readWord_13 : decode mm_Tp_readWord.2.1 13 = .ok (.if_icmp .ge 86, 3) := by decide +kernel
theorem d_Tp_readWord_16 : decode mm_Tp_readWord.2.1 16 = .ok (.aload_n 0, 1) := by decide +kernel
theorem d_Tp_readWord_17 : decode mm_Tp_readWord.2.1 17 = .ok (.aload_n 0, 1) := by decide +kernel
theorem d_Tp_readWord_18 : decode mm_Tp_readWord.2.1 18 = .ok (.getfield 19, 3) := by decide +kernel
theorem d_Tp_readWord_21 : decode mm_Tp_readWord.2.1 21 = .ok (.invokevirtual 41, 3) := by decide +kernel
theorem d_Tp_readWord_24 : decode mm_Tp_readWord.2.1 24 = .ok (.invokestatic 49, 3) := by decide +kernel
theorem d_Tp_readWord_27 : decode mm_Tp_readWord.2.1 27 = .ok (.ifCond .ne 17, 3) := by decide +kernel
theorem d_Tp_readWord_30 : decode mm_Tp_readWord.2.1 30 = .ok (.aload_n 0, 1) := by decide +kernel
theorem d_Tp_readWord_31 : decode mm_Tp_readWord.2.1 31 = .ok (.aload_n 0, 1) := by decide +kernel
theorem d_Tp_readWord_32 : decode mm_Tp_readWord.2.1 32 = .ok (.getfield 19, 3) := by decide +kernel
theorem d_Tp_readWord_35 : decode mm_Tp_readWord.2.1 35 = .ok (.invokevirtual 41, 3) := by decide +kernel
theorem d_Tp_readWord_38 : decode mm_Tp_readWord.2.1 38 = .ok (.invokestatic 55, 3) := by decide +kernel
theorem d_Tp_readWord_41 : decode mm_Tp_readWord.2.1 41 = .ok (.ifCond .eq 58, 3) := by decide +kernel
theorem d_Tp_readWord_44 : decode mm_Tp_readWord.2.1 44 = .ok (.aload_n 0, 1) := by decide +kernel
theorem d_Tp_readWord_45 : decode mm_Tp_readWord.2.1 45 = .ok (.getfield 19, 3) := by decide +kernel
theorem d_Tp_readWord_48 : decode mm_Tp_readWord.2.1 48 = .ok (.aload_n 0, 1) := by decide +kernel
theorem d_Tp_readWord_49 : decode mm_Tp_readWord.2.1 49 = .ok (.getfield 25, 3) := by decide +kernel
theorem d_Tp_readWord_52 : decode mm_Tp_readWord.2.1 52 = .ok (.isub, 1) := by decide +kernel
theorem d_Tp_readWord_53 : decode mm_Tp_readWord.2.1 53 = .ok (.istore_n 1, 1) := by decide +kernel
theorem d_Tp_readWord_54 : decode mm_Tp_readWord.2.1 54 = .ok (.iload_n 1, 1) := by decide +kernel
theorem d_Tp_readWord_55 : decode mm_Tp_readWord.2.1 55 = .ok (.bipush 8, 2) := by decide +kernel
theorem d_Tp_readWord_57 : decode mm_Tp_readWord.2.1 57 = .ok (.if_icmp .ge 29, 3) := by decide +kernel
theorem d_Tp_readWord_60 : decode mm_Tp_readWord.2.1 60 = .ok (.aload_n 0, 1) := by decide +kernel
theorem d_Tp_readWord_61 : decode mm_Tp_readWord.2.1 61 = .ok (.dup, 1) := by decide +kernel
theorem d_Tp_readWord_62 : decode mm_Tp_readWord.2.1 62 = .ok (.getfield 28, 3) := by decide +kernel
theorem d_Tp_readWord_65 : decode mm_Tp_readWord.2.1 65 = .ok (.aload_n 0, 1) := by decide +kernel
theorem d_Tp_readWord_66 : decode mm_Tp_readWord.2.1 66 = .ok (.aload_n 0, 1) := by decide +kernel
theorem d_Tp_readWord_67 : decode mm_Tp_readWord.2.1 67 = .ok (.getfield 19, 3) := by decide +kernel
theorem d_Tp_readWord_70 : decode mm_Tp_readWord.2.1 70 = .ok (.invokevirtual 41, 3) := by decide +kernel
theorem d_Tp_readWord_73 : decode mm_Tp_readWord.2.1 73 = .ok (.i2l, 1) := by decide +kernel
theorem d_Tp_readWord_74 : decode mm_Tp_readWord.2.1 74 = .ok (.bipush 56, 2) := by decide +kernel
theorem d_Tp_readWord_76 : decode mm_Tp_readWord.2.1 76 = .ok (.bipush 8, 2) := by decide +kernel
theorem d_Tp_readWord_78 : decode mm_Tp_readWord.2.1 78 = .ok (.iload_n 1, 1) := by decide +kernel
theorem d_Tp_readWord_79 : decode mm_Tp_readWord.2.1 79 = .ok (.imul, 1) := by decide +kernel
theorem d_Tp_readWord_80 : decode mm_Tp_readWord.2.1 80 = .ok (.isub, 1) := by decide +kernel
theorem d_Tp_readWord_81 : decode mm_Tp_readWord.2.1 81 = .ok (.lshl, 1) := by decide +kernel
theorem d_Tp_readWord_82 : decode mm_Tp_readWord.2.1 82 = .ok (.lor, 1) := by decide +kernel
theorem d_Tp_readWord_83 : decode mm_Tp_readWord.2.1 83 = .ok (.putfield 28, 3) := by decide +kernel
theorem d_Tp_readWord_86 : decode mm_Tp_readWord.2.1 86 = .ok (.aload_n 0, 1) := by decide +kernel
theorem d_Tp_readWord_87 : decode mm_Tp_readWord.2.1 87 = .ok (.dup, 1) := by decide +kernel
theorem d_Tp_readWord_88 : decode mm_Tp_readWord.2.1 88 = .ok (.getfield 19, 3) := by decide +kernel
theorem d_Tp_readWord_91 : decode mm_Tp_readWord.2.1 91 = .ok (.iconst 1, 1) := by decide +kernel
theorem d_Tp_readWord_92 : decode mm_Tp_readWord.2.1 92 = .ok (.iadd, 1) := by decide +kernel
theorem d_Tp_readWord_93 : decode mm_Tp_readWord.2.1 93 = .ok (.putfield 19, 3) := by decide +kernel
theorem d_Tp_readWord_96 : decode mm_Tp_readWord.2.1 96 = .ok (.goto (-91), 3) := by decide +kernel
theorem d_Tp_readWord_99 : decode mm_Tp_readWord.2.1 99 = .ok (.aload_n 0, 1) := by decide +kernel
theorem d_Tp_readWord_100 : decode mm_Tp_readWord.2.1 100 = .ok (.aload_n 0, 1) := by decide +kernel
theorem d_Tp_readWord_101 : decode mm_Tp_readWord.2.1 101 = .ok (.getfield 19, 3) := by decide +kernel
theorem d_Tp_readWord_104 : decode mm_Tp_readWord.2.1 104 = .ok (.aload_n 0, 1) := by decide +kernel
theorem d_Tp_readWord_105 : decode mm_Tp_readWord.2.1 105 = .ok (.getfield 25, 3) := by decide +kernel
theorem d_Tp_readWord_108 : decode mm_Tp_readWord.2.1 108 = .ok (.isub, 1) := by decide +kernel
theorem d_Tp_readWord_109 : decode mm_Tp_readWord.2.1 109 = .ok (.bipush 8, 2) := by decide +kernel
theorem d_Tp_readWord_111 : decode mm_Tp_readWord.2.1 111 = .ok (.if_icmp .le 7, 3) := by decide +kernel
theorem d_Tp_readWord_114 : decode mm_Tp_readWord.2.1 114 = .ok (.iconst 1, 1) := by decide +kernel
theorem d_Tp_readWord_115 : decode mm_Tp_readWord.2.1 115 = .ok (.goto 10, 3) := by decide +kernel
theorem d_Tp_readWord_118 : decode mm_Tp_readWord.2.1 118 = .ok (.aload_n 0, 1) := by decide +kernel
theorem d_Tp_readWord_119 : decode mm_Tp_readWord.2.1 119 = .ok (.getfield 28, 3) := by decide +kernel
theorem d_Tp_readWord_122 : decode mm_Tp_readWord.2.1 122 = .ok (.invokestatic 64, 3) := by decide +kernel
theorem d_Tp_readWord_125 : decode mm_Tp_readWord.2.1 125 = .ok (.putfield 22, 3) := by decide +kernel
theorem d_Tp_readWord_128 : decode mm_Tp_readWord.2.1 128 = .ok (.return_, 1) := by decide +kernel
theorem d_Tp_isDigit_0 : decode mm_Tp_isDigit.2.1 0 = .ok (.iload_n 0, 1) := by decide +kernel
theorem d_Tp_isDigit_1 : decode mm_Tp_isDigit.2.1 1 = .ok (.bipush 48, 2) := by decide +kernel
theorem d_Tp_isDigit_3 : decode mm_Tp_isDigit.2.1 3 = .ok (.if_icmp .lt 13, 3) := by decide +kernel
theorem d_Tp_isDigit_6 : decode mm_Tp_isDigit.2.1 6 = .ok (.iload_n 0, 1) := by decide +kernel
theorem d_Tp_isDigit_7 : decode mm_Tp_isDigit.2.1 7 = .ok (.bipush 57, 2) := by decide +kernel
theorem d_Tp_isDigit_9 : decode mm_Tp_isDigit.2.1 9 = .ok (.if_icmp .gt 7, 3) := by decide +kernel
theorem d_Tp_isDigit_12 : decode mm_Tp_isDigit.2.1 12 = .ok (.iconst 1, 1) := by decide +kernel
theorem d_Tp_isDigit_13 : decode mm_Tp_isDigit.2.1 13 = .ok (.goto 4, 3) := by decide +kernel
theorem d_Tp_isDigit_16 : decode mm_Tp_isDigit.2.1 16 = .ok (.iconst 0, 1) := by decide +kernel
theorem d_Tp_isDigit_17 : decode mm_Tp_isDigit.2.1 17 = .ok (.ireturn, 1) := by decide +kernel
theorem d_Tp_kindOfWord_0 : decode mm_Tp_kindOfWord.2.1 0 = .ok (.lload_n 0, 1) := by decide +kernel
theorem d_Tp_kindOfWord_1 : decode mm_Tp_kindOfWord.2.1 1 = .ok (.ldc2_w 68, 3) := by decide +kernel
theorem d_Tp_kindOfWord_4 : decode mm_Tp_kindOfWord.2.1 4 = .ok (.lcmp, 1) := by decide +kernel
theorem d_Tp_kindOfWord_5 : decode mm_Tp_kindOfWord.2.1 5 = .ok (.ifCond .ne 5, 3) := by decide +kernel
theorem d_Tp_kindOfWord_8 : decode mm_Tp_kindOfWord.2.1 8 = .ok (.iconst 4, 1) := by decide +kernel
theorem d_Tp_kindOfWord_9 : decode mm_Tp_kindOfWord.2.1 9 = .ok (.ireturn, 1) := by decide +kernel
theorem d_Tp_kindOfWord_10 : decode mm_Tp_kindOfWord.2.1 10 = .ok (.lload_n 0, 1) := by decide +kernel
theorem d_Tp_kindOfWord_11 : decode mm_Tp_kindOfWord.2.1 11 = .ok (.ldc2_w 70, 3) := by decide +kernel
theorem d_Tp_kindOfWord_14 : decode mm_Tp_kindOfWord.2.1 14 = .ok (.lcmp, 1) := by decide +kernel
theorem d_Tp_kindOfWord_15 : decode mm_Tp_kindOfWord.2.1 15 = .ok (.ifCond .ne 5, 3) := by decide +kernel
theorem d_Tp_kindOfWord_18 : decode mm_Tp_kindOfWord.2.1 18 = .ok (.iconst 5, 1) := by decide +kernel
theorem d_Tp_kindOfWord_19 : decode mm_Tp_kindOfWord.2.1 19 = .ok (.ireturn, 1) := by decide +kernel
theorem d_Tp_kindOfWord_20 : decode mm_Tp_kindOfWord.2.1 20 = .ok (.lload_n 0, 1) := by decide +kernel
theorem d_Tp_kindOfWord_21 : decode mm_Tp_kindOfWord.2.1 21 = .ok (.ldc2_w 72, 3) := by decide +kernel
theorem d_Tp_kindOfWord_24 : decode mm_Tp_kindOfWord.2.1 24 = .ok (.lcmp, 1) := by decide +kernel
theorem d_Tp_kindOfWord_25 : decode mm_Tp_kindOfWord.2.1 25 = .ok (.ifCond .ne 8, 3) := by decide +kernel
theorem d_Tp_kindOfWord_28 : decode mm_Tp_kindOfWord.2.1 28 = .ok (.bipush 6, 2) := by decide +kernel
theorem d_Tp_kindOfWord_30 : decode mm_Tp_kindOfWord.2.1 30 = .ok (.goto 4, 3) := by decide +kernel
theorem d_Tp_kindOfWord_33 : decode mm_Tp_kindOfWord.2.1 33 = .ok (.iconst 2, 1) := by decide +kernel
theorem d_Tp_kindOfWord_34 : decode mm_Tp_kindOfWord.2.1 34 = .ok (.ireturn, 1) := by decide +kernel
theorem d_Tp_readNumber_0 : decode mm_Tp_readNumber.2.1 0 = .ok (.aload_n 0, 1) := by decide +kernel
theorem d_Tp_readNumber_1 : decode mm_Tp_readNumber.2.1 1 = .ok (.iconst 0, 1) := by decide +kernel
theorem d_Tp_readNumber_2 : decode mm_Tp_readNumber.2.1 2 = .ok (.putfield 32, 3) := by decide +kernel
theorem d_Tp_readNumber_5 : decode mm_Tp_readNumber.2.1 5 = .ok (.aload_n 0, 1) := by decide +kernel
theorem d_Tp_readNumber_6 : decode mm_Tp_readNumber.2.1 6 = .ok (.getfield 19, 3) := by decide +kernel
theorem d_Tp_readNumber_9 : decode mm_Tp_readNumber.2.1 9 = .ok (.aload_n 0, 1) := by decide +kernel
theorem d_Tp_readNumber_10 : decode mm_Tp_readNumber.2.1 10 = .ok (.getfield 15, 3) := by decide +kernel
theorem d_Tp_readNumber_13 : decode mm_Tp_readNumber.2.1 13 = .ok (.if_icmp .ge 53, 3) := by decide +kernel
theorem d_Tp_readNumber_16 : decode mm_Tp_readNumber.2.1 16 = .ok (.aload_n 0, 1) := by decide +kernel
theorem d_Tp_readNumber_17 : decode mm_Tp_readNumber.2.1 17 = .ok (.aload_n 0, 1) := by decide +kernel
theorem d_Tp_readNumber_18 : decode mm_Tp_readNumber.2.1 18 = .ok (.getfield 19, 3) := by decide +kernel
theorem d_Tp_readNumber_21 : decode mm_Tp_readNumber.2.1 21 = .ok (.invokevirtual 41, 3) := by decide +kernel
theorem d_Tp_readNumber_24 : decode mm_Tp_readNumber.2.1 24 = .ok (.invokestatic 55, 3) := by decide +kernel
theorem d_Tp_readNumber_27 : decode mm_Tp_readNumber.2.1 27 = .ok (.ifCond .eq 39, 3) := by decide +kernel
theorem d_Tp_readNumber_30 : decode mm_Tp_readNumber.2.1 30 = .ok (.aload_n 0, 1) := by decide +kernel
theorem d_Tp_readNumber_31 : decode mm_Tp_readNumber.2.1 31 = .ok (.bipush 10, 2) := by decide +kernel
theorem d_Tp_readNumber_33 : decode mm_Tp_readNumber.2.1 33 = .ok (.aload_n 0, 1) := by decide +kernel
theorem d_Tp_readNumber_34 : decode mm_Tp_readNumber.2.1 34 = .ok (.getfield 32, 3) := by decide +kernel
theorem d_Tp_readNumber_37 : decode mm_Tp_readNumber.2.1 37 = .ok (.imul, 1) := by decide +kernel
theorem d_Tp_readNumber_38 : decode mm_Tp_readNumber.2.1 38 = .ok (.aload_n 0, 1) := by decide +kernel
theorem d_Tp_readNumber_39 : decode mm_Tp_readNumber.2.1 39 = .ok (.aload_n 0, 1) := by decide +kernel
theorem d_Tp_readNumber_40 : decode mm_Tp_readNumber.2.1 40 = .ok (.getfield 19, 3) := by decide +kernel
theorem d_Tp_readNumber_43 : decode mm_Tp_readNumber.2.1 43 = .ok (.invokevirtual 41, 3) := by decide +kernel
theorem d_Tp_readNumber_46 : decode mm_Tp_readNumber.2.1 46 = .ok (.iadd, 1) := by decide +kernel
theorem d_Tp_readNumber_47 : decode mm_Tp_readNumber.2.1 47 = .ok (.bipush 48, 2) := by decide +kernel
theorem d_Tp_readNumber_49 : decode mm_Tp_readNumber.2.1 49 = .ok (.isub, 1) := by decide +kernel
theorem d_Tp_readNumber_50 : decode mm_Tp_readNumber.2.1 50 = .ok (.putfield 32, 3) := by decide +kernel
theorem d_Tp_readNumber_53 : decode mm_Tp_readNumber.2.1 53 = .ok (.aload_n 0, 1) := by decide +kernel
theorem d_Tp_readNumber_54 : decode mm_Tp_readNumber.2.1 54 = .ok (.dup, 1) := by decide +kernel
theorem d_Tp_readNumber_55 : decode mm_Tp_readNumber.2.1 55 = .ok (.getfield 19, 3) := by decide +kernel
theorem d_Tp_readNumber_58 : decode mm_Tp_readNumber.2.1 58 = .ok (.iconst 1, 1) := by decide +kernel
theorem d_Tp_readNumber_59 : decode mm_Tp_readNumber.2.1 59 = .ok (.iadd, 1) := by decide +kernel
theorem d_Tp_readNumber_60 : decode mm_Tp_readNumber.2.1 60 = .ok (.putfield 19, 3) := by decide +kernel
theorem d_Tp_readNumber_63 : decode mm_Tp_readNumber.2.1 63 = .ok (.goto (-58), 3) := by decide +kernel
theorem d_Tp_readNumber_66 : decode mm_Tp_readNumber.2.1 66 = .ok (.aload_n 0, 1) := by decide +kernel
theorem d_Tp_readNumber_67 : decode mm_Tp_readNumber.2.1 67 = .ok (.aload_n 0, 1) := by decide +kernel
theorem d_Tp_readNumber_68 : decode mm_Tp_readNumber.2.1 68 = .ok (.getfield 19, 3) := by decide +kernel
theorem d_Tp_readNumber_71 : decode mm_Tp_readNumber.2.1 71 = .ok (.aload_n 0, 1) := by decide +kernel
theorem d_Tp_readNumber_72 : decode mm_Tp_readNumber.2.1 72 = .ok (.getfield 25, 3) := by decide +kernel
theorem d_Tp_readNumber_75 : decode mm_Tp_readNumber.2.1 75 = .ok (.isub, 1) := by decide +kernel
theorem d_Tp_readNumber_76 : decode mm_Tp_readNumber.2.1 76 = .ok (.bipush 9, 2) := by decide +kernel
theorem d_Tp_readNumber_78 : decode mm_Tp_readNumber.2.1 78 = .ok (.if_icmp .le 7, 3) := by decide +kernel
theorem d_Tp_readNumber_81 : decode mm_Tp_readNumber.2.1 81 = .ok (.iconst 1, 1) := by decide +kernel
theorem d_Tp_readNumber_82 : decode mm_Tp_readNumber.2.1 82 = .ok (.goto 4, 3) := by decide +kernel
theorem d_Tp_readNumber_85 : decode mm_Tp_readNumber.2.1 85 = .ok (.iconst 3, 1) := by decide +kernel
theorem d_Tp_readNumber_86 : decode mm_Tp_readNumber.2.1 86 = .ok (.putfield 22, 3) := by decide +kernel
theorem d_Tp_readNumber_89 : decode mm_Tp_readNumber.2.1 89 = .ok (.return_, 1) := by decide +kernel
theorem d_Tp_isMark_0 : decode mm_Tp_isMark.2.1 0 = .ok (.iload_n 0, 1) := by decide +kernel
theorem d_Tp_isMark_1 : decode mm_Tp_isMark.2.1 1 = .ok (.bipush 61, 2) := by decide +kernel
theorem d_Tp_isMark_3 : decode mm_Tp_isMark.2.1 3 = .ok (.if_icmp .eq 45, 3) := by decide +kernel
theorem d_Tp_isMark_6 : decode mm_Tp_isMark.2.1 6 = .ok (.iload_n 0, 1) := by decide +kernel
theorem d_Tp_isMark_7 : decode mm_Tp_isMark.2.1 7 = .ok (.bipush 43, 2) := by decide +kernel
theorem d_Tp_isMark_9 : decode mm_Tp_isMark.2.1 9 = .ok (.if_icmp .eq 39, 3) := by decide +kernel
theorem d_Tp_isMark_12 : decode mm_Tp_isMark.2.1 12 = .ok (.iload_n 0, 1) := by decide +kernel
theorem d_Tp_isMark_13 : decode mm_Tp_isMark.2.1 13 = .ok (.bipush 45, 2) := by decide +kernel
theorem d_Tp_isMark_15 : decode mm_Tp_isMark.2.1 15 = .ok (.if_icmp .eq 33, 3) := by decide +kernel
theorem d_Tp_isMark_18 : decode mm_Tp_isMark.2.1 18 = .ok (.iload_n 0, 1) := by decide +kernel
theorem d_Tp_isMark_19 : decode mm_Tp_isMark.2.1 19 = .ok (.bipush 42, 2) := by decide +kernel
theorem d_Tp_isMark_21 : decode mm_Tp_isMark.2.1 21 = .ok (.if_icmp .eq 27, 3) := by decide +kernel
theorem d_Tp_isMark_24 : decode mm_Tp_isMark.2.1 24 = .ok (.iload_n 0, 1) := by decide +kernel
theorem d_Tp_isMark_25 : decode mm_Tp_isMark.2.1 25 = .ok (.bipush 47, 2) := by decide +kernel
theorem d_Tp_isMark_27 : decode mm_Tp_isMark.2.1 27 = .ok (.if_icmp .eq 21, 3) := by decide +kernel
theorem d_Tp_isMark_30 : decode mm_Tp_isMark.2.1 30 = .ok (.iload_n 0, 1) := by decide +kernel
theorem d_Tp_isMark_31 : decode mm_Tp_isMark.2.1 31 = .ok (.bipush 40, 2) := by decide +kernel
theorem d_Tp_isMark_33 : decode mm_Tp_isMark.2.1 33 = .ok (.if_icmp .eq 15, 3) := by decide +kernel
theorem d_Tp_isMark_36 : decode mm_Tp_isMark.2.1 36 = .ok (.iload_n 0, 1) := by decide +kernel
theorem d_Tp_isMark_37 : decode mm_Tp_isMark.2.1 37 = .ok (.bipush 41, 2) := by decide +kernel
theorem d_Tp_isMark_39 : decode mm_Tp_isMark.2.1 39 = .ok (.if_icmp .eq 9, 3) := by decide +kernel
theorem d_Tp_isMark_42 : decode mm_Tp_isMark.2.1 42 = .ok (.iload_n 0, 1) := by decide +kernel
theorem d_Tp_isMark_43 : decode mm_Tp_isMark.2.1 43 = .ok (.bipush 44, 2) := by decide +kernel
theorem d_Tp_isMark_45 : decode mm_Tp_isMark.2.1 45 = .ok (.if_icmp .ne 7, 3) := by decide +kernel
theorem d_Tp_isMark_48 : decode mm_Tp_isMark.2.1 48 = .ok (.iconst 1, 1) := by decide +kernel
theorem d_Tp_isMark_49 : decode mm_Tp_isMark.2.1 49 = .ok (.goto 4, 3) := by decide +kernel
theorem d_Tp_isMark_52 : decode mm_Tp_isMark.2.1 52 = .ok (.iconst 0, 1) := by decide +kernel
theorem d_Tp_isMark_53 : decode mm_Tp_isMark.2.1 53 = .ok (.ireturn, 1) := by decide +kernel
theorem d_Rd_refuse_0 : decode mm_Rd_refuse.2.1 0 = .ok (.aload_n 0, 1) := by decide +kernel
theorem d_Rd_refuse_1 : decode mm_Rd_refuse.2.1 1 = .ok (.iload_n 1, 1) := by decide +kernel
theorem d_Rd_refuse_2 : decode mm_Rd_refuse.2.1 2 = .ok (.aload_n 0, 1) := by decide +kernel
theorem d_Rd_refuse_3 : decode mm_Rd_refuse.2.1 3 = .ok (.getfield 12, 3) := by decide +kernel
theorem d_Rd_refuse_6 : decode mm_Rd_refuse.2.1 6 = .ok (.getfield 67, 3) := by decide +kernel
theorem d_Rd_refuse_9 : decode mm_Rd_refuse.2.1 9 = .ok (.invokevirtual 70, 3) := by decide +kernel
theorem d_Rd_refuse_12 : decode mm_Rd_refuse.2.1 12 = .ok (.iconst 0, 1) := by decide +kernel
theorem d_Rd_refuse_13 : decode mm_Rd_refuse.2.1 13 = .ok (.ireturn, 1) := by decide +kernel
theorem d_Rd_refuseAt_0 : decode mm_Rd_refuseAt.2.1 0 = .ok (.aload_n 0, 1) := by decide +kernel
theorem d_Rd_refuseAt_1 : decode mm_Rd_refuseAt.2.1 1 = .ok (.iload_n 1, 1) := by decide +kernel
theorem d_Rd_refuseAt_2 : decode mm_Rd_refuseAt.2.1 2 = .ok (.putfield 29, 3) := by decide +kernel
theorem d_Rd_refuseAt_5 : decode mm_Rd_refuseAt.2.1 5 = .ok (.aload_n 0, 1) := by decide +kernel
theorem d_Rd_refuseAt_6 : decode mm_Rd_refuseAt.2.1 6 = .ok (.iload_n 2, 1) := by decide +kernel
theorem d_Rd_refuseAt_7 : decode mm_Rd_refuseAt.2.1 7 = .ok (.putfield 33, 3) := by decide +kernel
theorem d_Rd_refuseAt_10 : decode mm_Rd_refuseAt.2.1 10 = .ok (.return_, 1) := by decide +kernel
theorem d_Rd_expect_0 : decode mm_Rd_expect.2.1 0 = .ok (.aload_n 0, 1) := by decide +kernel
theorem d_Rd_expect_1 : decode mm_Rd_expect.2.1 1 = .ok (.getfield 12, 3) := by decide +kernel
theorem d_Rd_expect_4 : decode mm_Rd_expect.2.1 4 = .ok (.getfield 61, 3) := by decide +kernel
theorem d_Rd_expect_7 : decode mm_Rd_expect.2.1 7 = .ok (.iload_n 1, 1) := by decide +kernel
theorem d_Rd_expect_8 : decode mm_Rd_expect.2.1 8 = .ok (.if_icmp .ne 10, 3) := by decide +kernel
theorem d_Rd_expect_11 : decode mm_Rd_expect.2.1 11 = .ok (.aload_n 0, 1) := by decide +kernel
theorem d_Rd_expect_12 : decode mm_Rd_expect.2.1 12 = .ok (.invokevirtual 49, 3) := by decide +kernel
theorem d_Rd_expect_15 : decode mm_Rd_expect.2.1 15 = .ok (.goto 8, 3) := by decide +kernel
theorem d_Rd_expect_18 : decode mm_Rd_expect.2.1 18 = .ok (.aload_n 0, 1) := by decide +kernel
theorem d_Rd_expect_19 : decode mm_Rd_expect.2.1 19 = .ok (.iconst 2, 1) := by decide +kernel
theorem d_Rd_expect_20 : decode mm_Rd_expect.2.1 20 = .ok (.invokevirtual 64, 3) := by decide +kernel
theorem d_Rd_expect_23 : decode mm_Rd_expect.2.1 23 = .ok (.ireturn, 1) := by decide +kernel
theorem d_Rd_sum_0 : decode mm_Rd_sum.2.1 0 = .ok (.aload_n 0, 1) := by decide +kernel
theorem d_Rd_sum_1 : decode mm_Rd_sum.2.1 1 = .ok (.iload_n 1, 1) := by decide +kernel
theorem d_Rd_sum_2 : decode mm_Rd_sum.2.1 2 = .ok (.invokevirtual 77, 3) := by decide +kernel
theorem d_Rd_sum_5 : decode mm_Rd_sum.2.1 5 = .ok (.ifCond .ne 5, 3) := by decide +kernel
theorem d_Rd_sum_8 : decode mm_Rd_sum.2.1 8 = .ok (.iconst 0, 1) := by decide +kernel
theorem d_Rd_sum_9 : decode mm_Rd_sum.2.1 9 = .ok (.ireturn, 1) := by decide +kernel
theorem d_Rd_sum_10 : decode mm_Rd_sum.2.1 10 = .ok (.iconst 0, 1) := by decide +kernel
theorem d_Rd_sum_11 : decode mm_Rd_sum.2.1 11 = .ok (.istore_n 2, 1) := by decide +kernel
theorem d_Rd_sum_12 : decode mm_Rd_sum.2.1 12 = .ok (.iload_n 2, 1) := by decide +kernel
theorem d_Rd_sum_13 : decode mm_Rd_sum.2.1 13 = .ok (.bipush 40, 2) := by decide +kernel
theorem d_Rd_sum_15 : decode mm_Rd_sum.2.1 15 = .ok (.if_icmp .ge 67, 3) := by decide +kernel
theorem d_Rd_sum_18 : decode mm_Rd_sum.2.1 18 = .ok (.aload_n 0, 1) := by decide +kernel
theorem d_Rd_sum_19 : decode mm_Rd_sum.2.1 19 = .ok (.getfield 12, 3) := by decide +kernel
theorem d_Rd_sum_22 : decode mm_Rd_sum.2.1 22 = .ok (.getfield 61, 3) := by decide +kernel
theorem d_Rd_sum_25 : decode mm_Rd_sum.2.1 25 = .ok (.bipush 43, 2) := by decide +kernel
theorem d_Rd_sum_27 : decode mm_Rd_sum.2.1 27 = .ok (.if_icmp .eq 15, 3) := by decide +kernel
theorem d_Rd_sum_30 : decode mm_Rd_sum.2.1 30 = .ok (.aload_n 0, 1) := by decide +kernel
theorem d_Rd_sum_31 : decode mm_Rd_sum.2.1 31 = .ok (.getfield 12, 3) := by decide +kernel
theorem d_Rd_sum_34 : decode mm_Rd_sum.2.1 34 = .ok (.getfield 61, 3) := by decide +kernel
theorem d_Rd_sum_37 : decode mm_Rd_sum.2.1 37 = .ok (.bipush 45, 2) := by decide +kernel
theorem d_Rd_sum_39 : decode mm_Rd_sum.2.1 39 = .ok (.if_icmp .ne 43, 3) := by decide +kernel
theorem d_Rd_sum_42 : decode mm_Rd_sum.2.1 42 = .ok (.aload_n 0, 1) := by decide +kernel
theorem d_Rd_sum_43 : decode mm_Rd_sum.2.1 43 = .ok (.getfield 12, 3) := by decide +kernel
theorem d_Rd_sum_46 : decode mm_Rd_sum.2.1 46 = .ok (.getfield 61, 3) := by decide +kernel
theorem d_Rd_sum_49 : decode mm_Rd_sum.2.1 49 = .ok (.istore_n 3, 1) := by decide +kernel
theorem d_Rd_sum_50 : decode mm_Rd_sum.2.1 50 = .ok (.aload_n 0, 1) := by decide +kernel
theorem d_Rd_sum_51 : decode mm_Rd_sum.2.1 51 = .ok (.invokevirtual 80, 3) := by decide +kernel
theorem d_Rd_sum_54 : decode mm_Rd_sum.2.1 54 = .ok (.ifCond .eq 11, 3) := by decide +kernel
theorem d_Rd_sum_57 : decode mm_Rd_sum.2.1 57 = .ok (.aload_n 0, 1) := by decide +kernel
theorem d_Rd_sum_58 : decode mm_Rd_sum.2.1 58 = .ok (.iload_n 1, 1) := by decide +kernel
theorem d_Rd_sum_59 : decode mm_Rd_sum.2.1 59 = .ok (.invokevirtual 77, 3) := by decide +kernel
theorem d_Rd_sum_62 : decode mm_Rd_sum.2.1 62 = .ok (.ifCond .ne 5, 3) := by decide +kernel
theorem d_Rd_sum_65 : decode mm_Rd_sum.2.1 65 = .ok (.iconst 0, 1) := by decide +kernel
theorem d_Rd_sum_66 : decode mm_Rd_sum.2.1 66 = .ok (.ireturn, 1) := by decide +kernel
theorem d_Rd_sum_67 : decode mm_Rd_sum.2.1 67 = .ok (.aload_n 0, 1) := by decide +kernel
theorem d_Rd_sum_68 : decode mm_Rd_sum.2.1 68 = .ok (.getfield 21, 3) := by decide +kernel
theorem d_Rd_sum_71 : decode mm_Rd_sum.2.1 71 = .ok (.iload_n 3, 1) := by decide +kernel
theorem d_Rd_sum_72 : decode mm_Rd_sum.2.1 72 = .ok (.iconst 0, 1) := by decide +kernel
theorem d_Rd_sum_73 : decode mm_Rd_sum.2.1 73 = .ok (.invokevirtual 83, 3) := by decide +kernel
theorem d_Rd_sum_76 : decode mm_Rd_sum.2.1 76 = .ok (.iinc 2 1, 3) := by decide +kernel
theorem d_Rd_sum_79 : decode mm_Rd_sum.2.1 79 = .ok (.goto (-67), 3) := by decide +kernel
theorem d_Rd_sum_82 : decode mm_Rd_sum.2.1 82 = .ok (.iconst 1, 1) := by decide +kernel
theorem d_Rd_sum_83 : decode mm_Rd_sum.2.1 83 = .ok (.ireturn, 1) := by decide +kernel
theorem d_Rd_product_0 : decode mm_Rd_product.2.1 0 = .ok (.aload_n 0, 1) := by decide +kernel
theorem d_Rd_product_1 : decode mm_Rd_product.2.1 1 = .ok (.iload_n 1, 1) := by decide +kernel
theorem d_Rd_product_2 : decode mm_Rd_product.2.1 2 = .ok (.invokevirtual 86, 3) := by decide +kernel
theorem d_Rd_product_5 : decode mm_Rd_product.2.1 5 = .ok (.ifCond .ne 5, 3) := by decide +kernel
theorem d_Rd_product_8 : decode mm_Rd_product.2.1 8 = .ok (.iconst 0, 1) := by decide +kernel
theorem d_Rd_product_9 : decode mm_Rd_product.2.1 9 = .ok (.ireturn, 1) := by decide +kernel
theorem d_Rd_product_10 : decode mm_Rd_product.2.1 10 = .ok (.iconst 0, 1) := by decide +kernel
theorem d_Rd_product_11 : decode mm_Rd_product.2.1 11 = .ok (.istore_n 2, 1) := by decide +kernel
theorem d_Rd_product_12 : decode mm_Rd_product.2.1 12 = .ok (.iload_n 2, 1) := by decide +kernel
theorem d_Rd_product_13 : decode mm_Rd_product.2.1 13 = .ok (.bipush 40, 2) := by decide +kernel
theorem d_Rd_product_15 : decode mm_Rd_product.2.1 15 = .ok (.if_icmp .ge 67, 3) := by decide +kernel
theorem d_Rd_product_18 : decode mm_Rd_product.2.1 18 = .ok (.aload_n 0, 1) := by decide +kernel
theorem d_Rd_product_19 : decode mm_Rd_product.2.1 19 = .ok (.getfield 12, 3) := by decide +kernel
theorem d_Rd_product_22 : decode mm_Rd_product.2.1 22 = .ok (.getfield 61, 3) := by decide +kernel
theorem d_Rd_product_25 : decode mm_Rd_product.2.1 25 = .ok (.bipush 42, 2) := by decide +kernel
theorem d_Rd_product_27 : decode mm_Rd_product.2.1 27 = .ok (.if_icmp .eq 15, 3) := by decide +kernel
theorem d_Rd_product_30 : decode mm_Rd_product.2.1 30 = .ok (.aload_n 0, 1) := by decide +kernel
theorem d_Rd_product_31 : decode mm_Rd_product.2.1 31 = .ok (.getfield 12, 3) := by decide +kernel
theorem d_Rd_product_34 : decode mm_Rd_product.2.1 34 = .ok (.getfield 61, 3) := by decide +kernel
theorem d_Rd_product_37 : decode mm_Rd_product.2.1 37 = .ok (.bipush 47, 2) := by decide +kernel
theorem d_Rd_product_39 : decode mm_Rd_product.2.1 39 = .ok (.if_icmp .ne 43, 3) := by decide +kernel
theorem d_Rd_product_42 : decode mm_Rd_product.2.1 42 = .ok (.aload_n 0, 1) := by decide +kernel
theorem d_Rd_product_43 : decode mm_Rd_product.2.1 43 = .ok (.getfield 12, 3) := by decide +kernel
theorem d_Rd_product_46 : decode mm_Rd_product.2.1 46 = .ok (.getfield 61, 3) := by decide +kernel
theorem d_Rd_product_49 : decode mm_Rd_product.2.1 49 = .ok (.istore_n 3, 1) := by decide +kernel
theorem d_Rd_product_50 : decode mm_Rd_product.2.1 50 = .ok (.aload_n 0, 1) := by decide +kernel
theorem d_Rd_product_51 : decode mm_Rd_product.2.1 51 = .ok (.invokevirtual 80, 3) := by decide +kernel
theorem d_Rd_product_54 : decode mm_Rd_product.2.1 54 = .ok (.ifCond .eq 11, 3) := by decide +kernel
theorem d_Rd_product_57 : decode mm_Rd_product.2.1 57 = .ok (.aload_n 0, 1) := by decide +kernel
theorem d_Rd_product_58 : decode mm_Rd_product.2.1 58 = .ok (.iload_n 1, 1) := by decide +kernel
theorem d_Rd_product_59 : decode mm_Rd_product.2.1 59 = .ok (.invokevirtual 86, 3) := by decide +kernel
theorem d_Rd_product_62 : decode mm_Rd_product.2.1 62 = .ok (.ifCond .ne 5, 3) := by decide +kernel
theorem d_Rd_product_65 : decode mm_Rd_product.2.1 65 = .ok (.iconst 0, 1) := by decide +kernel
theorem d_Rd_product_66 : decode mm_Rd_product.2.1 66 = .ok (.ireturn, 1) := by decide +kernel
theorem d_Rd_product_67 : decode mm_Rd_product.2.1 67 = .ok (.aload_n 0, 1) := by decide +kernel
theorem d_Rd_product_68 : decode mm_Rd_product.2.1 68 = .ok (.getfield 21, 3) := by decide +kernel
theorem d_Rd_product_71 : decode mm_Rd_product.2.1 71 = .ok (.iload_n 3, 1) := by decide +kernel
theorem d_Rd_product_72 : decode mm_Rd_product.2.1 72 = .ok (.iconst 0, 1) := by decide +kernel
theorem d_Rd_product_73 : decode mm_Rd_product.2.1 73 = .ok (.invokevirtual 83, 3) := by decide +kernel
theorem d_Rd_product_76 : decode mm_Rd_product.2.1 76 = .ok (.iinc 2 1, 3) := by decide +kernel
theorem d_Rd_product_79 : decode mm_Rd_product.2.1 79 = .ok (.goto (-67), 3) := by decide +kernel
theorem d_Rd_product_82 : decode mm_Rd_product.2.1 82 = .ok (.iconst 1, 1) := by decide +kernel
theorem d_Rd_product_83 : decode mm_Rd_product.2.1 83 = .ok (.ireturn, 1) := by decide +kernel
theorem d_Rd_part_0 : decode mm_Rd_part.2.1 0 = .ok (.aload_n 0, 1) := by decide +kernel
theorem d_Rd_part_1 : decode mm_Rd_part.2.1 1 = .ok (.getfield 12, 3) := by decide +kernel
theorem d_Rd_part_4 : decode mm_Rd_part.2.1 4 = .ok (.getfield 61, 3) := by decide +kernel
theorem d_Rd_part_7 : decode mm_Rd_part.2.1 7 = .ok (.lookupswitch 145 #[(2, 85), (3, 65), (4, 133), (5, 133), (6, 139), (40, 100), (45, 94)], 65) := by decide +kernel
theorem d_Rd_part_72 : decode mm_Rd_part.2.1 72 = .ok (.aload_n 0, 1) := by decide +kernel
theorem d_Rd_part_73 : decode mm_Rd_part.2.1 73 = .ok (.getfield 21, 3) := by decide +kernel
theorem d_Rd_part_76 : decode mm_Rd_part.2.1 76 = .ok (.iconst 3, 1) := by decide +kernel
theorem d_Rd_part_77 : decode mm_Rd_part.2.1 77 = .ok (.aload_n 0, 1) := by decide +kernel
theorem d_Rd_part_78 : decode mm_Rd_part.2.1 78 = .ok (.getfield 12, 3) := by decide +kernel
theorem d_Rd_part_81 : decode mm_Rd_part.2.1 81 = .ok (.getfield 89, 3) := by decide +kernel
theorem d_Rd_part_84 : decode mm_Rd_part.2.1 84 = .ok (.invokevirtual 83, 3) := by decide +kernel
theorem d_Rd_part_87 : decode mm_Rd_part.2.1 87 = .ok (.aload_n 0, 1) := by decide +kernel
theorem d_Rd_part_88 : decode mm_Rd_part.2.1 88 = .ok (.invokevirtual 80, 3) := by decide +kernel
theorem d_Rd_part_91 : decode mm_Rd_part.2.1 91 = .ok (.ireturn, 1) := by decide +kernel
theorem d_Rd_part_92 : decode mm_Rd_part.2.1 92 = .ok (.aload_n 0, 1) := by decide +kernel
theorem d_Rd_part_93 : decode mm_Rd_part.2.1 93 = .ok (.invokevirtual 92, 3) := by decide +kernel
theorem d_Rd_part_96 : decode mm_Rd_part.2.1 96 = .ok (.aload_n 0, 1) := by decide +kernel
theorem d_Rd_part_97 : decode mm_Rd_part.2.1 97 = .ok (.invokevirtual 80, 3) := by decide +kernel
theorem d_Rd_part_100 : decode mm_Rd_part.2.1 100 = .ok (.ireturn, 1) := by decide +kernel
theorem d_Rd_part_101 : decode mm_Rd_part.2.1 101 = .ok (.aload_n 0, 1) := by decide +kernel
theorem d_Rd_part_102 : decode mm_Rd_part.2.1 102 = .ok (.iload_n 1, 1) := by decide +kernel
theorem d_Rd_part_103 : decode mm_Rd_part.2.1 103 = .ok (.invokevirtual 95, 3) := by decide +kernel
theorem d_Rd_part_106 : decode mm_Rd_part.2.1 106 = .ok (.ireturn, 1) := by decide +kernel
theorem d_Rd_part_107 : decode mm_Rd_part.2.1 107 = .ok (.aload_n 0, 1) := by decide +kernel
theorem d_Rd_part_108 : decode mm_Rd_part.2.1 108 = .ok (.iload_n 1, 1) := by decide +kernel
theorem d_Rd_part_109 : decode mm_Rd_part.2.1 109 = .ok (.invokevirtual 98, 3) := by decide +kernel
theorem d_Rd_part_112 : decode mm_Rd_part.2.1 112 = .ok (.ifCond .eq 26, 3) := by decide +kernel
theorem d_Rd_part_115 : decode mm_Rd_part.2.1 115 = .ok (.aload_n 0, 1) := by decide +kernel
theorem d_Rd_part_116 : decode mm_Rd_part.2.1 116 = .ok (.iload_n 1, 1) := by decide +kernel
theorem d_Rd_part_117 : decode mm_Rd_part.2.1 117 = .ok (.iconst 1, 1) := by decide +kernel
theorem d_Rd_part_118 : decode mm_Rd_part.2.1 118 = .ok (.iadd, 1) := by decide +kernel
theorem d_Rd_part_119 : decode mm_Rd_part.2.1 119 = .ok (.invokevirtual 58, 3) := by decide +kernel
theorem d_Rd_part_122 : decode mm_Rd_part.2.1 122 = .ok (.ifCond .eq 16, 3) := by decide +kernel
theorem d_Rd_part_125 : decode mm_Rd_part.2.1 125 = .ok (.aload_n 0, 1) := by decide +kernel
theorem d_Rd_part_126 : decode mm_Rd_part.2.1 126 = .ok (.bipush 41, 2) := by decide +kernel
theorem d_Rd_part_128 : decode mm_Rd_part.2.1 128 = .ok (.invokevirtual 54, 3) := by decide +kernel
theorem d_Rd_part_131 : decode mm_Rd_part.2.1 131 = .ok (.ifCond .eq 7, 3) := by decide +kernel
theorem d_Rd_part_134 : decode mm_Rd_part.2.1 134 = .ok (.iconst 1, 1) := by decide +kernel
theorem d_Rd_part_135 : decode mm_Rd_part.2.1 135 = .ok (.goto 4, 3) := by decide +kernel
theorem d_Rd_part_138 : decode mm_Rd_part.2.1 138 = .ok (.iconst 0, 1) := by decide +kernel
theorem d_Rd_part_139 : decode mm_Rd_part.2.1 139 = .ok (.ireturn, 1) := by decide +kernel
theorem d_Rd_part_140 : decode mm_Rd_part.2.1 140 = .ok (.aload_n 0, 1) := by decide +kernel
theorem d_Rd_part_141 : decode mm_Rd_part.2.1 141 = .ok (.iload_n 1, 1) := by decide +kernel
theorem d_Rd_part_142 : decode mm_Rd_part.2.1 142 = .ok (.invokevirtual 101, 3) := by decide +kernel
theorem d_Rd_part_145 : decode mm_Rd_part.2.1 145 = .ok (.ireturn, 1) := by decide +kernel
theorem d_Rd_part_146 : decode mm_Rd_part.2.1 146 = .ok (.aload_n 0, 1) := by decide +kernel
theorem d_Rd_part_147 : decode mm_Rd_part.2.1 147 = .ok (.iload_n 1, 1) := by decide +kernel
theorem d_Rd_part_148 : decode mm_Rd_part.2.1 148 = .ok (.invokevirtual 104, 3) := by decide +kernel
theorem d_Rd_part_151 : decode mm_Rd_part.2.1 151 = .ok (.ireturn, 1) := by decide +kernel
theorem d_Rd_part_152 : decode mm_Rd_part.2.1 152 = .ok (.aload_n 0, 1) := by decide +kernel
theorem d_Rd_part_153 : decode mm_Rd_part.2.1 153 = .ok (.iconst 2, 1) := by decide +kernel
theorem d_Rd_part_154 : decode mm_Rd_part.2.1 154 = .ok (.invokevirtual 64, 3) := by decide +kernel
theorem d_Rd_part_157 : decode mm_Rd_part.2.1 157 = .ok (.ireturn, 1) := by decide +kernel
theorem d_Fm_addStep_0 : decode mm_Fm_addStep.2.1 0 = .ok (.aload_n 0, 1) := by decide +kernel
theorem d_Fm_addStep_1 : decode mm_Fm_addStep.2.1 1 = .ok (.getfield 18, 3) := by decide +kernel
theorem d_Fm_addStep_4 : decode mm_Fm_addStep.2.1 4 = .ok (.ifCond .lt 57, 3) := by decide +kernel
theorem d_Fm_addStep_7 : decode mm_Fm_addStep.2.1 7 = .ok (.aload_n 0, 1) := by decide +kernel
theorem d_Fm_addStep_8 : decode mm_Fm_addStep.2.1 8 = .ok (.getfield 18, 3) := by decide +kernel
theorem d_Fm_addStep_11 : decode mm_Fm_addStep.2.1 11 = .ok (.aload_n 0, 1) := by decide +kernel
theorem d_Fm_addStep_12 : decode mm_Fm_addStep.2.1 12 = .ok (.getfield 9, 3) := by decide +kernel
theorem d_Fm_addStep_15 : decode mm_Fm_addStep.2.1 15 = .ok (.arraylength, 1) := by decide +kernel
theorem d_Fm_addStep_16 : decode mm_Fm_addStep.2.1 16 = .ok (.if_icmp .ge 45, 3) := by decide +kernel
theorem d_Fm_addStep_19 : decode mm_Fm_addStep.2.1 19 = .ok (.aload_n 0, 1) := by decide +kernel
theorem d_Fm_addStep_20 : decode mm_Fm_addStep.2.1 20 = .ok (.getfield 18, 3) := by decide +kernel
theorem d_Fm_addStep_23 : decode mm_Fm_addStep.2.1 23 = .ok (.aload_n 0, 1) := by decide +kernel
theorem d_Fm_addStep_24 : decode mm_Fm_addStep.2.1 24 = .ok (.getfield 15, 3) := by decide +kernel
theorem d_Fm_addStep_27 : decode mm_Fm_addStep.2.1 27 = .ok (.arraylength, 1) := by decide +kernel
theorem d_Fm_addStep_28 : decode mm_Fm_addStep.2.1 28 = .ok (.if_icmp .ge 33, 3) := by decide +kernel
theorem d_Fm_addStep_31 : decode mm_Fm_addStep.2.1 31 = .ok (.aload_n 0, 1) := by decide +kernel
theorem d_Fm_addStep_32 : decode mm_Fm_addStep.2.1 32 = .ok (.getfield 9, 3) := by decide +kernel
theorem d_Fm_addStep_35 : decode mm_Fm_addStep.2.1 35 = .ok (.aload_n 0, 1) := by decide +kernel
theorem d_Fm_addStep_36 : decode mm_Fm_addStep.2.1 36 = .ok (.getfield 18, 3) := by decide +kernel
theorem d_Fm_addStep_39 : decode mm_Fm_addStep.2.1 39 = .ok (.iload_n 1, 1) := by decide +kernel
theorem d_Fm_addStep_40 : decode mm_Fm_addStep.2.1 40 = .ok (.iastore, 1) := by decide +kernel
theorem d_Fm_addStep_41 : decode mm_Fm_addStep.2.1 41 = .ok (.aload_n 0, 1) := by decide +kernel
theorem d_Fm_addStep_42 : decode mm_Fm_addStep.2.1 42 = .ok (.getfield 15, 3) := by decide +kernel
theorem d_Fm_addStep_45 : decode mm_Fm_addStep.2.1 45 = .ok (.aload_n 0, 1) := by decide +kernel
theorem d_Fm_addStep_46 : decode mm_Fm_addStep.2.1 46 = .ok (.getfield 18, 3) := by decide +kernel
theorem d_Fm_addStep_49 : decode mm_Fm_addStep.2.1 49 = .ok (.iload_n 2, 1) := by decide +kernel
theorem d_Fm_addStep_50 : decode mm_Fm_addStep.2.1 50 = .ok (.iastore, 1) := by decide +kernel
theorem d_Fm_addStep_51 : decode mm_Fm_addStep.2.1 51 = .ok (.aload_n 0, 1) := by decide +kernel
theorem d_Fm_addStep_52 : decode mm_Fm_addStep.2.1 52 = .ok (.dup, 1) := by decide +kernel
theorem d_Fm_addStep_53 : decode mm_Fm_addStep.2.1 53 = .ok (.getfield 18, 3) := by decide +kernel
theorem d_Fm_addStep_56 : decode mm_Fm_addStep.2.1 56 = .ok (.iconst 1, 1) := by decide +kernel
theorem d_Fm_addStep_57 : decode mm_Fm_addStep.2.1 57 = .ok (.iadd, 1) := by decide +kernel
theorem d_Fm_addStep_58 : decode mm_Fm_addStep.2.1 58 = .ok (.putfield 18, 3) := by decide +kernel
theorem d_Fm_addStep_61 : decode mm_Fm_addStep.2.1 61 = .ok (.return_, 1) := by decide +kernel
theorem d_Rd_passNode_0 : decode mm_Rd_passNode.2.1 0 = .ok (.aload_n 0, 1) := by decide +kernel
theorem d_Rd_passNode_1 : decode mm_Rd_passNode.2.1 1 = .ok (.getfield 36, 3) := by decide +kernel
theorem d_Rd_passNode_4 : decode mm_Rd_passNode.2.1 4 = .ok (.bipush 40, 2) := by decide +kernel
theorem d_Rd_passNode_6 : decode mm_Rd_passNode.2.1 6 = .ok (.if_icmp .lt 9, 3) := by decide +kernel
theorem d_Rd_passNode_9 : decode mm_Rd_passNode.2.1 9 = .ok (.aload_n 0, 1) := by decide +kernel
theorem d_Rd_passNode_10 : decode mm_Rd_passNode.2.1 10 = .ok (.iconst 3, 1) := by decide +kernel
theorem d_Rd_passNode_11 : decode mm_Rd_passNode.2.1 11 = .ok (.invokevirtual 64, 3) := by decide +kernel
theorem d_Rd_passNode_14 : decode mm_Rd_passNode.2.1 14 = .ok (.ireturn, 1) := by decide +kernel
theorem d_Rd_passNode_15 : decode mm_Rd_passNode.2.1 15 = .ok (.aload_n 0, 1) := by decide +kernel
theorem d_Rd_passNode_16 : decode mm_Rd_passNode.2.1 16 = .ok (.dup, 1) := by decide +kernel
theorem d_Rd_passNode_17 : decode mm_Rd_passNode.2.1 17 = .ok (.getfield 36, 3) := by decide +kernel
theorem d_Rd_passNode_20 : decode mm_Rd_passNode.2.1 20 = .ok (.iconst 1, 1) := by decide +kernel
theorem d_Rd_passNode_21 : decode mm_Rd_passNode.2.1 21 = .ok (.iadd, 1) := by decide +kernel
theorem d_Rd_passNode_22 : decode mm_Rd_passNode.2.1 22 = .ok (.putfield 36, 3) := by decide +kernel
theorem d_Rd_passNode_25 : decode mm_Rd_passNode.2.1 25 = .ok (.aload_n 0, 1) := by decide +kernel
theorem d_Rd_passNode_26 : decode mm_Rd_passNode.2.1 26 = .ok (.invokevirtual 49, 3) := by decide +kernel
theorem d_Rd_passNode_29 : decode mm_Rd_passNode.2.1 29 = .ok (.ireturn, 1) := by decide +kernel
theorem d_Rd_noteName_0 : decode mm_Rd_noteName.2.1 0 = .ok (.aload_n 0, 1) := by decide +kernel
theorem d_Rd_noteName_1 : decode mm_Rd_noteName.2.1 1 = .ok (.getfield 21, 3) := by decide +kernel
theorem d_Rd_noteName_4 : decode mm_Rd_noteName.2.1 4 = .ok (.getfield 107, 3) := by decide +kernel
theorem d_Rd_noteName_7 : decode mm_Rd_noteName.2.1 7 = .ok (.istore_n 1, 1) := by decide +kernel
theorem d_Rd_noteName_8 : decode mm_Rd_noteName.2.1 8 = .ok (.iload_n 1, 1) := by decide +kernel
theorem d_Rd_noteName_9 : decode mm_Rd_noteName.2.1 9 = .ok (.ifCond .lt 25, 3) := by decide +kernel
theorem d_Rd_noteName_12 : decode mm_Rd_noteName.2.1 12 = .ok (.iload_n 1, 1) := by decide +kernel
theorem d_Rd_noteName_13 : decode mm_Rd_noteName.2.1 13 = .ok (.aload_n 0, 1) := by decide +kernel
theorem d_Rd_noteName_14 : decode mm_Rd_noteName.2.1 14 = .ok (.getfield 39, 3) := by decide +kernel
theorem d_Rd_noteName_17 : decode mm_Rd_noteName.2.1 17 = .ok (.arraylength, 1) := by decide +kernel
theorem d_Rd_noteName_18 : decode mm_Rd_noteName.2.1 18 = .ok (.if_icmp .ge 16, 3) := by decide +kernel
theorem d_Rd_noteName_21 : decode mm_Rd_noteName.2.1 21 = .ok (.aload_n 0, 1) := by decide +kernel
theorem d_Rd_noteName_22 : decode mm_Rd_noteName.2.1 22 = .ok (.getfield 39, 3) := by decide +kernel
theorem d_Rd_noteName_25 : decode mm_Rd_noteName.2.1 25 = .ok (.iload_n 1, 1) := by decide +kernel
theorem d_Rd_noteName_26 : decode mm_Rd_noteName.2.1 26 = .ok (.aload_n 0, 1) := by decide +kernel
theorem d_Rd_noteName_27 : decode mm_Rd_noteName.2.1 27 = .ok (.getfield 12, 3) := by decide +kernel
theorem d_Rd_noteName_30 : decode mm_Rd_noteName.2.1 30 = .ok (.getfield 67, 3) := by decide +kernel
theorem d_Rd_noteName_33 : decode mm_Rd_noteName.2.1 33 = .ok (.iastore, 1) := by decide +kernel
theorem d_Rd_noteName_34 : decode mm_Rd_noteName.2.1 34 = .ok (.aload_n 0, 1) := by decide +kernel
theorem d_Rd_noteName_35 : decode mm_Rd_noteName.2.1 35 = .ok (.getfield 21, 3) := by decide +kernel
theorem d_Rd_noteName_38 : decode mm_Rd_noteName.2.1 38 = .ok (.aload_n 0, 1) := by decide +kernel
theorem d_Rd_noteName_39 : decode mm_Rd_noteName.2.1 39 = .ok (.getfield 12, 3) := by decide +kernel
theorem d_Rd_noteName_42 : decode mm_Rd_noteName.2.1 42 = .ok (.getfield 53, 3) := by decide +kernel
theorem d_Rd_noteName_45 : decode mm_Rd_noteName.2.1 45 = .ok (.invokevirtual 110, 3) := by decide +kernel
theorem d_Rd_noteName_48 : decode mm_Rd_noteName.2.1 48 = .ok (.return_, 1) := by decide +kernel
theorem d_Fm_addName_0 : decode mm_Fm_addName.2.1 0 = .ok (.aload_n 0, 1) := by decide +kernel
theorem d_Fm_addName_1 : decode mm_Fm_addName.2.1 1 = .ok (.getfield 32, 3) := by decide +kernel
theorem d_Fm_addName_4 : decode mm_Fm_addName.2.1 4 = .ok (.ifCond .lt 44, 3) := by decide +kernel
theorem d_Fm_addName_7 : decode mm_Fm_addName.2.1 7 = .ok (.aload_n 0, 1) := by decide +kernel
theorem d_Fm_addName_8 : decode mm_Fm_addName.2.1 8 = .ok (.getfield 32, 3) := by decide +kernel
theorem d_Fm_addName_11 : decode mm_Fm_addName.2.1 11 = .ok (.aload_n 0, 1) := by decide +kernel
theorem d_Fm_addName_12 : decode mm_Fm_addName.2.1 12 = .ok (.getfield 22, 3) := by decide +kernel
theorem d_Fm_addName_15 : decode mm_Fm_addName.2.1 15 = .ok (.arraylength, 1) := by decide +kernel
theorem d_Fm_addName_16 : decode mm_Fm_addName.2.1 16 = .ok (.if_icmp .ge 32, 3) := by decide +kernel
theorem d_Fm_addName_19 : decode mm_Fm_addName.2.1 19 = .ok (.aload_n 0, 1) := by decide +kernel
theorem d_Fm_addName_20 : decode mm_Fm_addName.2.1 20 = .ok (.getfield 22, 3) := by decide +kernel
theorem d_Fm_addName_23 : decode mm_Fm_addName.2.1 23 = .ok (.aload_n 0, 1) := by decide +kernel
theorem d_Fm_addName_24 : decode mm_Fm_addName.2.1 24 = .ok (.getfield 32, 3) := by decide +kernel
theorem d_Fm_addName_27 : decode mm_Fm_addName.2.1 27 = .ok (.lload_n 1, 1) := by decide +kernel
theorem d_Fm_addName_28 : decode mm_Fm_addName.2.1 28 = .ok (.lastore, 1) := by decide +kernel
theorem d_Fm_addName_29 : decode mm_Fm_addName.2.1 29 = .ok (.aload_n 0, 1) := by decide +kernel
theorem d_Fm_addName_30 : decode mm_Fm_addName.2.1 30 = .ok (.iconst 2, 1) := by decide +kernel
theorem d_Fm_addName_31 : decode mm_Fm_addName.2.1 31 = .ok (.aload_n 0, 1) := by decide +kernel
theorem d_Fm_addName_32 : decode mm_Fm_addName.2.1 32 = .ok (.getfield 32, 3) := by decide +kernel
theorem d_Fm_addName_35 : decode mm_Fm_addName.2.1 35 = .ok (.invokevirtual 35, 3) := by decide +kernel
theorem d_Fm_addName_38 : decode mm_Fm_addName.2.1 38 = .ok (.aload_n 0, 1) := by decide +kernel
theorem d_Fm_addName_39 : decode mm_Fm_addName.2.1 39 = .ok (.dup, 1) := by decide +kernel
theorem d_Fm_addName_40 : decode mm_Fm_addName.2.1 40 = .ok (.getfield 32, 3) := by decide +kernel
theorem d_Fm_addName_43 : decode mm_Fm_addName.2.1 43 = .ok (.iconst 1, 1) := by decide +kernel
theorem d_Fm_addName_44 : decode mm_Fm_addName.2.1 44 = .ok (.iadd, 1) := by decide +kernel
theorem d_Fm_addName_45 : decode mm_Fm_addName.2.1 45 = .ok (.putfield 32, 3) := by decide +kernel
theorem d_Fm_addName_48 : decode mm_Fm_addName.2.1 48 = .ok (.return_, 1) := by decide +kernel
theorem d_Rd_negated_0 : decode mm_Rd_negated.2.1 0 = .ok (.iload_n 1, 1) := by decide +kernel
theorem d_Rd_negated_1 : decode mm_Rd_negated.2.1 1 = .ok (.bipush 20, 2) := by decide +kernel
theorem d_Rd_negated_3 : decode mm_Rd_negated.2.1 3 = .ok (.if_icmp .lt 9, 3) := by decide +kernel
theorem d_Rd_negated_6 : decode mm_Rd_negated.2.1 6 = .ok (.aload_n 0, 1) := by decide +kernel
theorem d_Rd_negated_7 : decode mm_Rd_negated.2.1 7 = .ok (.iconst 3, 1) := by decide +kernel
theorem d_Rd_negated_8 : decode mm_Rd_negated.2.1 8 = .ok (.invokevirtual 64, 3) := by decide +kernel
theorem d_Rd_negated_11 : decode mm_Rd_negated.2.1 11 = .ok (.ireturn, 1) := by decide +kernel
theorem d_Rd_negated_12 : decode mm_Rd_negated.2.1 12 = .ok (.aload_n 0, 1) := by decide +kernel
theorem d_Rd_negated_13 : decode mm_Rd_negated.2.1 13 = .ok (.invokevirtual 80, 3) := by decide +kernel
theorem d_Rd_negated_16 : decode mm_Rd_negated.2.1 16 = .ok (.ifCond .eq 13, 3) := by decide +kernel
theorem d_Rd_negated_19 : decode mm_Rd_negated.2.1 19 = .ok (.aload_n 0, 1) := by decide +kernel
theorem d_Rd_negated_20 : decode mm_Rd_negated.2.1 20 = .ok (.iload_n 1, 1) := by decide +kernel
theorem d_Rd_negated_21 : decode mm_Rd_negated.2.1 21 = .ok (.iconst 1, 1) := by decide +kernel
theorem d_Rd_negated_22 : decode mm_Rd_negated.2.1 22 = .ok (.iadd, 1) := by decide +kernel
theorem d_Rd_negated_23 : decode mm_Rd_negated.2.1 23 = .ok (.invokevirtual 86, 3) := by decide +kernel
theorem d_Rd_negated_26 : decode mm_Rd_negated.2.1 26 = .ok (.ifCond .ne 5, 3) := by decide +kernel
theorem d_Rd_negated_29 : decode mm_Rd_negated.2.1 29 = .ok (.iconst 0, 1) := by decide +kernel
theorem d_Rd_negated_30 : decode mm_Rd_negated.2.1 30 = .ok (.ireturn, 1) := by decide +kernel
theorem d_Rd_negated_31 : decode mm_Rd_negated.2.1 31 = .ok (.aload_n 0, 1) := by decide +kernel
theorem d_Rd_negated_32 : decode mm_Rd_negated.2.1 32 = .ok (.getfield 21, 3) := by decide +kernel
theorem d_Rd_negated_35 : decode mm_Rd_negated.2.1 35 = .ok (.bipush 7, 2) := by decide +kernel
theorem d_Rd_negated_37 : decode mm_Rd_negated.2.1 37 = .ok (.iconst 0, 1) := by decide +kernel
theorem d_Rd_negated_38 : decode mm_Rd_negated.2.1 38 = .ok (.invokevirtual 83, 3) := by decide +kernel
theorem d_Rd_negated_41 : decode mm_Rd_negated.2.1 41 = .ok (.iconst 1, 1) := by decide +kernel
theorem d_Rd_negated_42 : decode mm_Rd_negated.2.1 42 = .ok (.ireturn, 1) := by decide +kernel
theorem d_Rd_passOpening_0 : decode mm_Rd_passOpening.2.1 0 = .ok (.aload_n 0, 1) := by decide +kernel
theorem d_Rd_passOpening_1 : decode mm_Rd_passOpening.2.1 1 = .ok (.getfield 12, 3) := by decide +kernel
theorem d_Rd_passOpening_4 : decode mm_Rd_passOpening.2.1 4 = .ok (.getfield 61, 3) := by decide +kernel
theorem d_Rd_passOpening_7 : decode mm_Rd_passOpening.2.1 7 = .ok (.bipush 40, 2) := by decide +kernel
theorem d_Rd_passOpening_9 : decode mm_Rd_passOpening.2.1 9 = .ok (.if_icmp .eq 9, 3) := by decide +kernel
theorem d_Rd_passOpening_12 : decode mm_Rd_passOpening.2.1 12 = .ok (.aload_n 0, 1) := by decide +kernel
theorem d_Rd_passOpening_13 : decode mm_Rd_passOpening.2.1 13 = .ok (.iconst 2, 1) := by decide +kernel
theorem d_Rd_passOpening_14 : decode mm_Rd_passOpening.2.1 14 = .ok (.invokevirtual 64, 3) := by decide +kernel
theorem d_Rd_passOpening_17 : decode mm_Rd_passOpening.2.1 17 = .ok (.ireturn, 1) := by decide +kernel
theorem d_Rd_passOpening_18 : decode mm_Rd_passOpening.2.1 18 = .ok (.iload_n 1, 1) := by decide +kernel
theorem d_Rd_passOpening_19 : decode mm_Rd_passOpening.2.1 19 = .ok (.bipush 20, 2) := by decide +kernel
theorem d_Rd_passOpening_21 : decode mm_Rd_passOpening.2.1 21 = .ok (.if_icmp .ge 10, 3) := by decide +kernel
theorem d_Rd_passOpening_24 : decode mm_Rd_passOpening.2.1 24 = .ok (.aload_n 0, 1) := by decide +kernel
theorem d_Rd_passOpening_25 : decode mm_Rd_passOpening.2.1 25 = .ok (.invokevirtual 49, 3) := by decide +kernel
theorem d_Rd_passOpening_28 : decode mm_Rd_passOpening.2.1 28 = .ok (.goto 8, 3) := by decide +kernel
theorem d_Rd_passOpening_31 : decode mm_Rd_passOpening.2.1 31 = .ok (.aload_n 0, 1) := by decide +kernel
theorem d_Rd_passOpening_32 : decode mm_Rd_passOpening.2.1 32 = .ok (.iconst 3, 1) := by decide +kernel
theorem d_Rd_passOpening_33 : decode mm_Rd_passOpening.2.1 33 = .ok (.invokevirtual 64, 3) := by decide +kernel
theorem d_Rd_passOpening_36 : decode mm_Rd_passOpening.2.1 36 = .ok (.ireturn, 1) := by decide +kernel
theorem d_Rd_lesserOrGreater_0 : decode mm_Rd_lesserOrGreater.2.1 0 = .ok (.aload_n 0, 1) := by decide +kernel
theorem d_Rd_lesserOrGreater_1 : decode mm_Rd_lesserOrGreater.2.1 1 = .ok (.getfield 12, 3) := by decide +kernel
theorem d_Rd_lesserOrGreater_4 : decode mm_Rd_lesserOrGreater.2.1 4 = .ok (.getfield 61, 3) := by decide +kernel
theorem d_Rd_lesserOrGreater_7 : decode mm_Rd_lesserOrGreater.2.1 7 = .ok (.istore_n 2, 1) := by decide +kernel
theorem d_Rd_lesserOrGreater_8 : decode mm_Rd_lesserOrGreater.2.1 8 = .ok (.aload_n 0, 1) := by decide +kernel
theorem d_Rd_lesserOrGreater_9 : decode mm_Rd_lesserOrGreater.2.1 9 = .ok (.invokevirtual 80, 3) := by decide +kernel
theorem d_Rd_lesserOrGreater_12 : decode mm_Rd_lesserOrGreater.2.1 12 = .ok (.ifCond .eq 40, 3) := by decide +kernel
theorem d_Rd_lesserOrGreater_15 : decode mm_Rd_lesserOrGreater.2.1 15 = .ok (.aload_n 0, 1) := by decide +kernel
theorem d_Rd_lesserOrGreater_16 : decode mm_Rd_lesserOrGreater.2.1 16 = .ok (.iload_n 1, 1) := by decide +kernel
theorem d_Rd_lesserOrGreater_17 : decode mm_Rd_lesserOrGreater.2.1 17 = .ok (.invokevirtual 98, 3) := by decide +kernel
theorem d_Rd_lesserOrGreater_20 : decode mm_Rd_lesserOrGreater.2.1 20 = .ok (.ifCond .eq 32, 3) := by decide +kernel
theorem d_Rd_lesserOrGreater_23 : decode mm_Rd_lesserOrGreater.2.1 23 = .ok (.aload_n 0, 1) := by decide +kernel
theorem d_Rd_lesserOrGreater_24 : decode mm_Rd_lesserOrGreater.2.1 24 = .ok (.iload_n 1, 1) := by decide +kernel
theorem d_Rd_lesserOrGreater_25 : decode mm_Rd_lesserOrGreater.2.1 25 = .ok (.iconst 1, 1) := by decide +kernel
theorem d_Rd_lesserOrGreater_26 : decode mm_Rd_lesserOrGreater.2.1 26 = .ok (.iadd, 1) := by decide +kernel
theorem d_Rd_lesserOrGreater_27 : decode mm_Rd_lesserOrGreater.2.1 27 = .ok (.invokevirtual 58, 3) := by decide +kernel
theorem d_Rd_lesserOrGreater_30 : decode mm_Rd_lesserOrGreater.2.1 30 = .ok (.ifCond .eq 22, 3) := by decide +kernel
theorem d_Rd_lesserOrGreater_33 : decode mm_Rd_lesserOrGreater.2.1 33 = .ok (.aload_n 0, 1) := by decide +kernel
theorem d_Rd_lesserOrGreater_34 : decode mm_Rd_lesserOrGreater.2.1 34 = .ok (.bipush 44, 2) := by decide +kernel
theorem d_Rd_lesserOrGreater_36 : decode mm_Rd_lesserOrGreater.2.1 36 = .ok (.invokevirtual 54, 3) := by decide +kernel
theorem d_Rd_lesserOrGreater_39 : decode mm_Rd_lesserOrGreater.2.1 39 = .ok (.ifCond .eq 13, 3) := by decide +kernel
theorem d_Rd_lesserOrGreater_42 : decode mm_Rd_lesserOrGreater.2.1 42 = .ok (.aload_n 0, 1) := by decide +kernel
theorem d_Rd_lesserOrGreater_43 : decode mm_Rd_lesserOrGreater.2.1 43 = .ok (.iload_n 1, 1) := by decide +kernel
theorem d_Rd_lesserOrGreater_44 : decode mm_Rd_lesserOrGreater.2.1 44 = .ok (.iconst 1, 1) := by decide +kernel
theorem d_Rd_lesserOrGreater_45 : decode mm_Rd_lesserOrGreater.2.1 45 = .ok (.iadd, 1) := by decide +kernel
theorem d_Rd_lesserOrGreater_46 : decode mm_Rd_lesserOrGreater.2.1 46 = .ok (.invokevirtual 58, 3) := by decide +kernel
theorem d_Rd_lesserOrGreater_49 : decode mm_Rd_lesserOrGreater.2.1 49 = .ok (.ifCond .ne 5, 3) := by decide +kernel
theorem d_Rd_lesserOrGreater_52 : decode mm_Rd_lesserOrGreater.2.1 52 = .ok (.iconst 0, 1) := by decide +kernel
theorem d_Rd_lesserOrGreater_53 : decode mm_Rd_lesserOrGreater.2.1 53 = .ok (.ireturn, 1) := by decide +kernel
theorem d_Rd_lesserOrGreater_54 : decode mm_Rd_lesserOrGreater.2.1 54 = .ok (.aload_n 0, 1) := by decide +kernel
theorem d_Rd_lesserOrGreater_55 : decode mm_Rd_lesserOrGreater.2.1 55 = .ok (.getfield 21, 3) := by decide +kernel
theorem d_Rd_lesserOrGreater_58 : decode mm_Rd_lesserOrGreater.2.1 58 = .ok (.iload_n 2, 1) := by decide +kernel
theorem d_Rd_lesserOrGreater_59 : decode mm_Rd_lesserOrGreater.2.1 59 = .ok (.iconst 0, 1) := by decide +kernel
theorem d_Rd_lesserOrGreater_60 : decode mm_Rd_lesserOrGreater.2.1 60 = .ok (.invokevirtual 83, 3) := by decide +kernel
theorem d_Rd_lesserOrGreater_63 : decode mm_Rd_lesserOrGreater.2.1 63 = .ok (.aload_n 0, 1) := by decide +kernel
theorem d_Rd_lesserOrGreater_64 : decode mm_Rd_lesserOrGreater.2.1 64 = .ok (.bipush 41, 2) := by decide +kernel
theorem d_Rd_lesserOrGreater_66 : decode mm_Rd_lesserOrGreater.2.1 66 = .ok (.invokevirtual 54, 3) := by decide +kernel
theorem d_Rd_lesserOrGreater_69 : decode mm_Rd_lesserOrGreater.2.1 69 = .ok (.ireturn, 1) := by decide +kernel
theorem d_Rd_choice_0 : decode mm_Rd_choice.2.1 0 = .ok (.aload_n 0, 1) := by decide +kernel
theorem d_Rd_choice_1 : decode mm_Rd_choice.2.1 1 = .ok (.invokevirtual 80, 3) := by decide +kernel
theorem d_Rd_choice_4 : decode mm_Rd_choice.2.1 4 = .ok (.ifCond .eq 30, 3) := by decide +kernel
theorem d_Rd_choice_7 : decode mm_Rd_choice.2.1 7 = .ok (.aload_n 0, 1) := by decide +kernel
theorem d_Rd_choice_8 : decode mm_Rd_choice.2.1 8 = .ok (.iload_n 1, 1) := by decide +kernel
theorem d_Rd_choice_9 : decode mm_Rd_choice.2.1 9 = .ok (.invokevirtual 98, 3) := by decide +kernel
theorem d_Rd_choice_12 : decode mm_Rd_choice.2.1 12 = .ok (.ifCond .eq 22, 3) := by decide +kernel
theorem d_Rd_choice_15 : decode mm_Rd_choice.2.1 15 = .ok (.aload_n 0, 1) := by decide +kernel
theorem d_Rd_choice_16 : decode mm_Rd_choice.2.1 16 = .ok (.iload_n 1, 1) := by decide +kernel
theorem d_Rd_choice_17 : decode mm_Rd_choice.2.1 17 = .ok (.iconst 1, 1) := by decide +kernel
theorem d_Rd_choice_18 : decode mm_Rd_choice.2.1 18 = .ok (.iadd, 1) := by decide +kernel
theorem d_Rd_choice_19 : decode mm_Rd_choice.2.1 19 = .ok (.invokevirtual 58, 3) := by decide +kernel
theorem d_Rd_choice_22 : decode mm_Rd_choice.2.1 22 = .ok (.ifCond .eq 12, 3) := by decide +kernel
theorem d_Rd_choice_25 : decode mm_Rd_choice.2.1 25 = .ok (.aload_n 0, 1) := by decide +kernel
theorem d_Rd_choice_26 : decode mm_Rd_choice.2.1 26 = .ok (.bipush 44, 2) := by decide +kernel
theorem d_Rd_choice_28 : decode mm_Rd_choice.2.1 28 = .ok (.invokevirtual 54, 3) := by decide +kernel
theorem d_Rd_choice_31 : decode mm_Rd_choice.2.1 31 = .ok (.ifCond .ne 5, 3) := by decide +kernel
theorem d_Rd_choice_34 : decode mm_Rd_choice.2.1 34 = .ok (.iconst 0, 1) := by decide +kernel
theorem d_Rd_choice_35 : decode mm_Rd_choice.2.1 35 = .ok (.ireturn, 1) := by decide +kernel
theorem d_Rd_choice_36 : decode mm_Rd_choice.2.1 36 = .ok (.aload_n 0, 1) := by decide +kernel
theorem d_Rd_choice_37 : decode mm_Rd_choice.2.1 37 = .ok (.getfield 21, 3) := by decide +kernel
theorem d_Rd_choice_40 : decode mm_Rd_choice.2.1 40 = .ok (.getfield 114, 3) := by decide +kernel
theorem d_Rd_choice_43 : decode mm_Rd_choice.2.1 43 = .ok (.istore_n 2, 1) := by decide +kernel
theorem d_Rd_choice_44 : decode mm_Rd_choice.2.1 44 = .ok (.aload_n 0, 1) := by decide +kernel
theorem d_Rd_choice_45 : decode mm_Rd_choice.2.1 45 = .ok (.getfield 21, 3) := by decide +kernel
theorem d_Rd_choice_48 : decode mm_Rd_choice.2.1 48 = .ok (.bipush 8, 2) := by decide +kernel
theorem d_Rd_choice_50 : decode mm_Rd_choice.2.1 50 = .ok (.iconst 0, 1) := by decide +kernel
theorem d_Rd_choice_51 : decode mm_Rd_choice.2.1 51 = .ok (.invokevirtual 83, 3) := by decide +kernel
theorem d_Rd_choice_54 : decode mm_Rd_choice.2.1 54 = .ok (.aload_n 0, 1) := by decide +kernel
theorem d_Rd_choice_55 : decode mm_Rd_choice.2.1 55 = .ok (.iload_n 1, 1) := by decide +kernel
theorem d_Rd_choice_56 : decode mm_Rd_choice.2.1 56 = .ok (.iconst 1, 1) := by decide +kernel
theorem d_Rd_choice_57 : decode mm_Rd_choice.2.1 57 = .ok (.iadd, 1) := by decide +kernel
theorem d_Rd_choice_58 : decode mm_Rd_choice.2.1 58 = .ok (.invokevirtual 58, 3) := by decide +kernel
theorem d_Rd_choice_61 : decode mm_Rd_choice.2.1 61 = .ok (.ifCond .eq 12, 3) := by decide +kernel
theorem d_Rd_choice_64 : decode mm_Rd_choice.2.1 64 = .ok (.aload_n 0, 1) := by decide +kernel
theorem d_Rd_choice_65 : decode mm_Rd_choice.2.1 65 = .ok (.bipush 44, 2) := by decide +kernel
theorem d_Rd_choice_67 : decode mm_Rd_choice.2.1 67 = .ok (.invokevirtual 54, 3) := by decide +kernel
theorem d_Rd_choice_70 : decode mm_Rd_choice.2.1 70 = .ok (.ifCond .ne 5, 3) := by decide +kernel
theorem d_Rd_choice_73 : decode mm_Rd_choice.2.1 73 = .ok (.iconst 0, 1) := by decide +kernel
theorem d_Rd_choice_74 : decode mm_Rd_choice.2.1 74 = .ok (.ireturn, 1) := by decide +kernel
theorem d_Rd_choice_75 : decode mm_Rd_choice.2.1 75 = .ok (.aload_n 0, 1) := by decide +kernel
theorem d_Rd_choice_76 : decode mm_Rd_choice.2.1 76 = .ok (.getfield 21, 3) := by decide +kernel
theorem d_Rd_choice_79 : decode mm_Rd_choice.2.1 79 = .ok (.getfield 114, 3) := by decide +kernel
theorem d_Rd_choice_82 : decode mm_Rd_choice.2.1 82 = .ok (.istore_n 3, 1) := by decide +kernel
theorem d_Rd_choice_83 : decode mm_Rd_choice.2.1 83 = .ok (.aload_n 0, 1) := by decide +kernel
theorem d_Rd_choice_84 : decode mm_Rd_choice.2.1 84 = .ok (.getfield 21, 3) := by decide +kernel
theorem d_Rd_choice_87 : decode mm_Rd_choice.2.1 87 = .ok (.bipush 9, 2) := by decide +kernel
theorem d_Rd_choice_89 : decode mm_Rd_choice.2.1 89 = .ok (.iconst 0, 1) := by decide +kernel
theorem d_Rd_choice_90 : decode mm_Rd_choice.2.1 90 = .ok (.invokevirtual 83, 3) := by decide +kernel
theorem d_Rd_choice_93 : decode mm_Rd_choice.2.1 93 = .ok (.aload_n 0, 1) := by decide +kernel
theorem d_Rd_choice_94 : decode mm_Rd_choice.2.1 94 = .ok (.getfield 21, 3) := by decide +kernel
theorem d_Rd_choice_97 : decode mm_Rd_choice.2.1 97 = .ok (.iload_n 2, 1) := by decide +kernel
theorem d_Rd_choice_98 : decode mm_Rd_choice.2.1 98 = .ok (.invokevirtual 117, 3) := by decide +kernel
theorem d_Rd_choice_101 : decode mm_Rd_choice.2.1 101 = .ok (.aload_n 0, 1) := by decide +kernel
theorem d_Rd_choice_102 : decode mm_Rd_choice.2.1 102 = .ok (.iload_n 1, 1) := by decide +kernel
theorem d_Rd_choice_103 : decode mm_Rd_choice.2.1 103 = .ok (.iconst 1, 1) := by decide +kernel
theorem d_Rd_choice_104 : decode mm_Rd_choice.2.1 104 = .ok (.iadd, 1) := by decide +kernel
theorem d_Rd_choice_105 : decode mm_Rd_choice.2.1 105 = .ok (.invokevirtual 58, 3) := by decide +kernel
theorem d_Rd_choice_108 : decode mm_Rd_choice.2.1 108 = .ok (.ifCond .ne 5, 3) := by decide +kernel
theorem d_Rd_choice_111 : decode mm_Rd_choice.2.1 111 = .ok (.iconst 0, 1) := by decide +kernel
theorem d_Rd_choice_112 : decode mm_Rd_choice.2.1 112 = .ok (.ireturn, 1) := by decide +kernel
theorem d_Rd_choice_113 : decode mm_Rd_choice.2.1 113 = .ok (.aload_n 0, 1) := by decide +kernel
theorem d_Rd_choice_114 : decode mm_Rd_choice.2.1 114 = .ok (.getfield 21, 3) := by decide +kernel
theorem d_Rd_choice_117 : decode mm_Rd_choice.2.1 117 = .ok (.iload_n 3, 1) := by decide +kernel
theorem d_Rd_choice_118 : decode mm_Rd_choice.2.1 118 = .ok (.invokevirtual 117, 3) := by decide +kernel
theorem d_Rd_choice_121 : decode mm_Rd_choice.2.1 121 = .ok (.aload_n 0, 1) := by decide +kernel
theorem d_Rd_choice_122 : decode mm_Rd_choice.2.1 122 = .ok (.bipush 41, 2) := by decide +kernel
theorem d_Rd_choice_124 : decode mm_Rd_choice.2.1 124 = .ok (.invokevirtual 54, 3) := by decide +kernel
theorem d_Rd_choice_127 : decode mm_Rd_choice.2.1 127 = .ok (.ireturn, 1) := by decide +kernel
theorem d_Fm_aimHere_0 : decode mm_Fm_aimHere.2.1 0 = .ok (.iload_n 1, 1) := by decide +kernel
theorem d_Fm_aimHere_1 : decode mm_Fm_aimHere.2.1 1 = .ok (.ifCond .lt 30, 3) := by decide +kernel
theorem d_Fm_aimHere_4 : decode mm_Fm_aimHere.2.1 4 = .ok (.iload_n 1, 1) := by decide +kernel
theorem d_Fm_aimHere_5 : decode mm_Fm_aimHere.2.1 5 = .ok (.aload_n 0, 1) := by decide +kernel
theorem d_Fm_aimHere_6 : decode mm_Fm_aimHere.2.1 6 = .ok (.getfield 18, 3) := by decide +kernel
theorem d_Fm_aimHere_9 : decode mm_Fm_aimHere.2.1 9 = .ok (.if_icmp .ge 22, 3) := by decide +kernel
theorem d_Fm_aimHere_12 : decode mm_Fm_aimHere.2.1 12 = .ok (.iload_n 1, 1) := by decide +kernel
theorem d_Fm_aimHere_13 : decode mm_Fm_aimHere.2.1 13 = .ok (.aload_n 0, 1) := by decide +kernel
theorem d_Fm_aimHere_14 : decode mm_Fm_aimHere.2.1 14 = .ok (.getfield 15, 3) := by decide +kernel
theorem d_Fm_aimHere_17 : decode mm_Fm_aimHere.2.1 17 = .ok (.arraylength, 1) := by decide +kernel
theorem d_Fm_aimHere_18 : decode mm_Fm_aimHere.2.1 18 = .ok (.if_icmp .ge 13, 3) := by decide +kernel
theorem d_Fm_aimHere_21 : decode mm_Fm_aimHere.2.1 21 = .ok (.aload_n 0, 1) := by decide +kernel
theorem d_Fm_aimHere_22 : decode mm_Fm_aimHere.2.1 22 = .ok (.getfield 15, 3) := by decide +kernel
theorem d_Fm_aimHere_25 : decode mm_Fm_aimHere.2.1 25 = .ok (.iload_n 1, 1) := by decide +kernel
theorem d_Fm_aimHere_26 : decode mm_Fm_aimHere.2.1 26 = .ok (.aload_n 0, 1) := by decide +kernel
theorem d_Fm_aimHere_27 : decode mm_Fm_aimHere.2.1 27 = .ok (.getfield 18, 3) := by decide +kernel
theorem d_Fm_aimHere_30 : decode mm_Fm_aimHere.2.1 30 = .ok (.iastore, 1) := by decide +kernel
theorem d_Fm_aimHere_31 : decode mm_Fm_aimHere.2.1 31 = .ok (.return_, 1) := by decide +kernel
theorem d_CW_settle_0 : decode mm_CW_settle.2.1 0 = .ok (.aload_n 0, 1) := by decide +kernel
theorem d_CW_settle_1 : decode mm_CW_settle.2.1 1 = .ok (.getfield 19, 3) := by decide +kernel
theorem d_CW_settle_4 : decode mm_CW_settle.2.1 4 = .ok (.aload_n 0, 1) := by decide +kernel
theorem d_CW_settle_5 : decode mm_CW_settle.2.1 5 = .ok (.getfield 12, 3) := by decide +kernel
theorem d_CW_settle_8 : decode mm_CW_settle.2.1 8 = .ok (.getfield 149, 3) := by decide +kernel
theorem d_CW_settle_11 : decode mm_CW_settle.2.1 11 = .ok (.invokevirtual 88, 3) := by decide +kernel
theorem d_CW_settle_14 : decode mm_CW_settle.2.1 14 = .ok (.astore_n 1, 1) := by decide +kernel
theorem d_CW_settle_15 : decode mm_CW_settle.2.1 15 = .ok (.aload_n 1, 1) := by decide +kernel
theorem d_CW_settle_16 : decode mm_CW_settle.2.1 16 = .ok (.ifnonnull 25, 3) := by decide +kernel
theorem d_CW_settle_19 : decode mm_CW_settle.2.1 19 = .ok (.aload_n 0, 1) := by decide +kernel
theorem d_CW_settle_20 : decode mm_CW_settle.2.1 20 = .ok (.getfield 19, 3) := by decide +kernel
theorem d_CW_settle_23 : decode mm_CW_settle.2.1 23 = .ok (.getfield 126, 3) := by decide +kernel
theorem d_CW_settle_26 : decode mm_CW_settle.2.1 26 = .ok (.bipush 64, 2) := by decide +kernel
theorem d_CW_settle_28 : decode mm_CW_settle.2.1 28 = .ok (.if_icmp .ne 13, 3) := by decide +kernel
theorem d_CW_settle_31 : decode mm_CW_settle.2.1 31 = .ok (.aload_n 0, 1) := by decide +kernel
theorem d_CW_settle_32 : decode mm_CW_settle.2.1 32 = .ok (.getfield 12, 3) := by decide +kernel
theorem d_CW_settle_35 : decode mm_CW_settle.2.1 35 = .ok (.iconst 4, 1) := by decide +kernel
theorem d_CW_settle_36 : decode mm_CW_settle.2.1 36 = .ok (.iconst 0, 1) := by decide +kernel
theorem d_CW_settle_37 : decode mm_CW_settle.2.1 37 = .ok (.invokevirtual 153, 3) := by decide +kernel
theorem d_CW_settle_40 : decode mm_CW_settle.2.1 40 = .ok (.return_, 1) := by decide +kernel
theorem d_CW_settle_41 : decode mm_CW_settle.2.1 41 = .ok (.aload_n 0, 1) := by decide +kernel
theorem d_CW_settle_42 : decode mm_CW_settle.2.1 42 = .ok (.getfield 19, 3) := by decide +kernel
theorem d_CW_settle_45 : decode mm_CW_settle.2.1 45 = .ok (.aload_n 0, 1) := by decide +kernel
theorem d_CW_settle_46 : decode mm_CW_settle.2.1 46 = .ok (.getfield 12, 3) := by decide +kernel
theorem d_CW_settle_49 : decode mm_CW_settle.2.1 49 = .ok (.getfield 149, 3) := by decide +kernel
theorem d_CW_settle_52 : decode mm_CW_settle.2.1 52 = .ok (.aload_n 0, 1) := by decide +kernel
theorem d_CW_settle_53 : decode mm_CW_settle.2.1 53 = .ok (.getfield 12, 3) := by decide +kernel
theorem d_CW_settle_56 : decode mm_CW_settle.2.1 56 = .ok (.getfield 157, 3) := by decide +kernel
theorem d_CW_settle_59 : decode mm_CW_settle.2.1 59 = .ok (.invokevirtual 161, 3) := by decide +kernel
theorem d_CW_settle_62 : decode mm_CW_settle.2.1 62 = .ok (.istore_n 2, 1) := by decide +kernel
theorem d_CW_settle_63 : decode mm_CW_settle.2.1 63 = .ok (.iload_n 2, 1) := by decide +kernel
theorem d_CW_settle_64 : decode mm_CW_settle.2.1 64 = .ok (.iconst (-1), 1) := by decide +kernel
theorem d_CW_settle_65 : decode mm_CW_settle.2.1 65 = .ok (.if_icmp .eq 20, 3) := by decide +kernel
theorem d_CW_settle_68 : decode mm_CW_settle.2.1 68 = .ok (.aload_n 0, 1) := by decide +kernel
theorem d_CW_settle_69 : decode mm_CW_settle.2.1 69 = .ok (.getfield 12, 3) := by decide +kernel
theorem d_CW_settle_72 : decode mm_CW_settle.2.1 72 = .ok (.iconst 5, 1) := by decide +kernel
theorem d_CW_settle_73 : decode mm_CW_settle.2.1 73 = .ok (.aload_n 0, 1) := by decide +kernel
theorem d_CW_settle_74 : decode mm_CW_settle.2.1 74 = .ok (.getfield 12, 3) := by decide +kernel
theorem d_CW_settle_77 : decode mm_CW_settle.2.1 77 = .ok (.iload_n 2, 1) := by decide +kernel
theorem d_CW_settle_78 : decode mm_CW_settle.2.1 78 = .ok (.invokevirtual 165, 3) := by decide +kernel
theorem d_CW_settle_81 : decode mm_CW_settle.2.1 81 = .ok (.invokevirtual 153, 3) := by decide +kernel
theorem d_CW_settle_84 : decode mm_CW_settle.2.1 84 = .ok (.return_, 1) := by decide +kernel
theorem d_CW_settle_85 : decode mm_CW_settle.2.1 85 = .ok (.aload_n 1, 1) := by decide +kernel
theorem d_CW_settle_86 : decode mm_CW_settle.2.1 86 = .ok (.ifnonnull 41, 3) := by decide +kernel
theorem d_CW_settle_89 : decode mm_CW_settle.2.1 89 = .ok (.aload_n 0, 1) := by decide +kernel
theorem d_CW_settle_90 : decode mm_CW_settle.2.1 90 = .ok (.getfield 19, 3) := by decide +kernel
theorem d_CW_settle_93 : decode mm_CW_settle.2.1 93 = .ok (.new 97, 3) := by decide +kernel
theorem d_CW_settle_96 : decode mm_CW_settle.2.1 96 = .ok (.dup, 1) := by decide +kernel
theorem d_CW_settle_97 : decode mm_CW_settle.2.1 97 = .ok (.aload_n 0, 1) := by decide +kernel
theorem d_CW_settle_98 : decode mm_CW_settle.2.1 98 = .ok (.getfield 12, 3) := by decide +kernel
theorem d_CW_settle_101 : decode mm_CW_settle.2.1 101 = .ok (.getfield 149, 3) := by decide +kernel
theorem d_CW_settle_104 : decode mm_CW_settle.2.1 104 = .ok (.aload_n 0, 1) := by decide +kernel
theorem d_CW_settle_105 : decode mm_CW_settle.2.1 105 = .ok (.getfield 12, 3) := by decide +kernel
theorem d_CW_settle_108 : decode mm_CW_settle.2.1 108 = .ok (.new 169, 3) := by decide +kernel
theorem d_CW_settle_111 : decode mm_CW_settle.2.1 111 = .ok (.dup, 1) := by decide +kernel
theorem d_CW_settle_112 : decode mm_CW_settle.2.1 112 = .ok (.invokespecial 171, 3) := by decide +kernel
theorem d_CW_settle_115 : decode mm_CW_settle.2.1 115 = .ok (.invokevirtual 172, 3) := by decide +kernel
theorem d_CW_settle_118 : decode mm_CW_settle.2.1 118 = .ok (.invokespecial 176, 3) := by decide +kernel
theorem d_CW_settle_121 : decode mm_CW_settle.2.1 121 = .ok (.invokevirtual 179, 3) := by decide +kernel
theorem d_CW_settle_124 : decode mm_CW_settle.2.1 124 = .ok (.goto 23, 3) := by decide +kernel
theorem d_CW_settle_127 : decode mm_CW_settle.2.1 127 = .ok (.aload_n 1, 1) := by decide +kernel
theorem d_CW_settle_128 : decode mm_CW_settle.2.1 128 = .ok (.aload_n 0, 1) := by decide +kernel
theorem d_CW_settle_129 : decode mm_CW_settle.2.1 129 = .ok (.getfield 12, 3) := by decide +kernel
theorem d_CW_settle_132 : decode mm_CW_settle.2.1 132 = .ok (.aload_n 1, 1) := by decide +kernel
theorem d_CW_settle_133 : decode mm_CW_settle.2.1 133 = .ok (.getfield 183, 3) := by decide +kernel
theorem d_CW_settle_136 : decode mm_CW_settle.2.1 136 = .ok (.invokevirtual 172, 3) := by decide +kernel
theorem d_CW_settle_139 : decode mm_CW_settle.2.1 139 = .ok (.putfield 183, 3) := by decide +kernel
theorem d_CW_settle_142 : decode mm_CW_settle.2.1 142 = .ok (.aload_n 1, 1) := by decide +kernel
theorem d_CW_settle_143 : decode mm_CW_settle.2.1 143 = .ok (.iconst 0, 1) := by decide +kernel
theorem d_CW_settle_144 : decode mm_CW_settle.2.1 144 = .ok (.putfield 184, 3) := by decide +kernel
theorem d_CW_settle_147 : decode mm_CW_settle.2.1 147 = .ok (.return_, 1) := by decide +kernel
theorem d_Cs_find_0 : decode mm_Cs_find.2.1 0 = .ok (.aload_n 0, 1) := by decide +kernel
theorem d_Cs_find_1 : decode mm_Cs_find.2.1 1 = .ok (.lload_n 1, 1) := by decide +kernel
theorem d_Cs_find_2 : decode mm_Cs_find.2.1 2 = .ok (.invokevirtual 33, 3) := by decide +kernel
theorem d_Cs_find_5 : decode mm_Cs_find.2.1 5 = .ok (.istore_n 3, 1) := by decide +kernel
theorem d_Cs_find_6 : decode mm_Cs_find.2.1 6 = .ok (.iload_n 3, 1) := by decide +kernel
theorem d_Cs_find_7 : decode mm_Cs_find.2.1 7 = .ok (.iconst (-1), 1) := by decide +kernel
theorem d_Cs_find_8 : decode mm_Cs_find.2.1 8 = .ok (.if_icmp .ne 7, 3) := by decide +kernel
theorem d_Cs_find_11 : decode mm_Cs_find.2.1 11 = .ok (.aconst_null, 1) := by decide +kernel
theorem d_Cs_find_12 : decode mm_Cs_find.2.1 12 = .ok (.goto 9, 3) := by decide +kernel
theorem d_Cs_find_15 : decode mm_Cs_find.2.1 15 = .ok (.aload_n 0, 1) := by decide +kernel
theorem d_Cs_find_16 : decode mm_Cs_find.2.1 16 = .ok (.getfield 11, 3) := by decide +kernel
theorem d_Cs_find_19 : decode mm_Cs_find.2.1 19 = .ok (.iload_n 3, 1) := by decide +kernel
theorem d_Cs_find_20 : decode mm_Cs_find.2.1 20 = .ok (.aaload, 1) := by decide +kernel
theorem d_Cs_find_21 : decode mm_Cs_find.2.1 21 = .ok (.areturn, 1) := by decide +kernel
theorem d_Cs_indexOf_0 : decode mm_Cs_indexOf.2.1 0 = .ok (.aload_n 0, 1) := by decide +kernel
theorem d_Cs_indexOf_1 : decode mm_Cs_indexOf.2.1 1 = .ok (.lload_n 1, 1) := by decide +kernel
theorem d_Cs_indexOf_2 : decode mm_Cs_indexOf.2.1 2 = .ok (.invokevirtual 29, 3) := by decide +kernel
theorem d_Cs_indexOf_5 : decode mm_Cs_indexOf.2.1 5 = .ok (.istore_n 3, 1) := by decide +kernel
theorem d_Cs_indexOf_6 : decode mm_Cs_indexOf.2.1 6 = .ok (.iload_n 3, 1) := by decide +kernel
theorem d_Cs_indexOf_7 : decode mm_Cs_indexOf.2.1 7 = .ok (.aload_n 0, 1) := by decide +kernel
theorem d_Cs_indexOf_8 : decode mm_Cs_indexOf.2.1 8 = .ok (.getfield 17, 3) := by decide +kernel
theorem d_Cs_indexOf_11 : decode mm_Cs_indexOf.2.1 11 = .ok (.if_icmp .ge 21, 3) := by decide +kernel
theorem d_Cs_indexOf_14 : decode mm_Cs_indexOf.2.1 14 = .ok (.aload_n 0, 1) := by decide +kernel
theorem d_Cs_indexOf_15 : decode mm_Cs_indexOf.2.1 15 = .ok (.getfield 11, 3) := by decide +kernel
theorem d_Cs_indexOf_18 : decode mm_Cs_indexOf.2.1 18 = .ok (.iload_n 3, 1) := by decide +kernel
theorem d_Cs_indexOf_19 : decode mm_Cs_indexOf.2.1 19 = .ok (.aaload, 1) := by decide +kernel
theorem d_Cs_indexOf_20 : decode mm_Cs_indexOf.2.1 20 = .ok (.getfield 25, 3) := by decide +kernel
theorem d_Cs_indexOf_23 : decode mm_Cs_indexOf.2.1 23 = .ok (.lload_n 1, 1) := by decide +kernel
theorem d_Cs_indexOf_24 : decode mm_Cs_indexOf.2.1 24 = .ok (.lcmp, 1) := by decide +kernel
theorem d_Cs_indexOf_25 : decode mm_Cs_indexOf.2.1 25 = .ok (.ifCond .ne 7, 3) := by decide +kernel
theorem d_Cs_indexOf_28 : decode mm_Cs_indexOf.2.1 28 = .ok (.iload_n 3, 1) := by decide +kernel
theorem d_Cs_indexOf_29 : decode mm_Cs_indexOf.2.1 29 = .ok (.goto 4, 3) := by decide +kernel
theorem d_Cs_indexOf_32 : decode mm_Cs_indexOf.2.1 32 = .ok (.iconst (-1), 1) := by decide +kernel
theorem d_Cs_indexOf_33 : decode mm_Cs_indexOf.2.1 33 = .ok (.ireturn, 1) := by decide +kernel
theorem d_Cs_placeFor_0 : decode mm_Cs_placeFor.2.1 0 = .ok (.iconst 0, 1) := by decide +kernel
theorem d_Cs_placeFor_1 : decode mm_Cs_placeFor.2.1 1 = .ok (.istore_n 3, 1) := by decide +kernel
theorem d_Cs_placeFor_2 : decode mm_Cs_placeFor.2.1 2 = .ok (.bipush 64, 2) := by decide +kernel
theorem d_Cs_placeFor_4 : decode mm_Cs_placeFor.2.1 4 = .ok (.istore 4, 2) := by decide +kernel
theorem d_Cs_placeFor_6 : decode mm_Cs_placeFor.2.1 6 = .ok (.iload 4, 2) := by decide +kernel
theorem d_Cs_placeFor_8 : decode mm_Cs_placeFor.2.1 8 = .ok (.ifCond .le 47, 3) := by decide +kernel
theorem d_Cs_placeFor_11 : decode mm_Cs_placeFor.2.1 11 = .ok (.iload_n 3, 1) := by decide +kernel
theorem d_Cs_placeFor_12 : decode mm_Cs_placeFor.2.1 12 = .ok (.iload 4, 2) := by decide +kernel
theorem d_Cs_placeFor_14 : decode mm_Cs_placeFor.2.1 14 = .ok (.iadd, 1) := by decide +kernel
theorem d_Cs_placeFor_15 : decode mm_Cs_placeFor.2.1 15 = .ok (.aload_n 0, 1) := by decide +kernel
theorem d_Cs_placeFor_16 : decode mm_Cs_placeFor.2.1 16 = .ok (.getfield 17, 3) := by decide +kernel
theorem d_Cs_placeFor_19 : decode mm_Cs_placeFor.2.1 19 = .ok (.if_icmp .gt 27, 3) := by decide +kernel
theorem d_Cs_placeFor_22 : decode mm_Cs_placeFor.2.1 22 = .ok (.aload_n 0, 1) := by decide +kernel
theorem d_Cs_placeFor_23 : decode mm_Cs_placeFor.2.1 23 = .ok (.getfield 11, 3) := by decide +kernel
theorem d_Cs_placeFor_26 : decode mm_Cs_placeFor.2.1 26 = .ok (.iload_n 3, 1) := by decide +kernel
theorem d_Cs_placeFor_27 : decode mm_Cs_placeFor.2.1 27 = .ok (.iload 4, 2) := by decide +kernel
theorem d_Cs_placeFor_29 : decode mm_Cs_placeFor.2.1 29 = .ok (.iadd, 1) := by decide +kernel
theorem d_Cs_placeFor_30 : decode mm_Cs_placeFor.2.1 30 = .ok (.iconst 1, 1) := by decide +kernel
theorem d_Cs_placeFor_31 : decode mm_Cs_placeFor.2.1 31 = .ok (.isub, 1) := by decide +kernel
theorem d_Cs_placeFor_32 : decode mm_Cs_placeFor.2.1 32 = .ok (.aaload, 1) := by decide +kernel
theorem d_Cs_placeFor_33 : decode mm_Cs_placeFor.2.1 33 = .ok (.getfield 25, 3) := by decide +kernel
theorem d_Cs_placeFor_36 : decode mm_Cs_placeFor.2.1 36 = .ok (.lload_n 1, 1) := by decide +kernel
theorem d_Cs_placeFor_37 : decode mm_Cs_placeFor.2.1 37 = .ok (.lcmp, 1) := by decide +kernel
theorem d_Cs_placeFor_38 : decode mm_Cs_placeFor.2.1 38 = .ok (.ifCond .ge 8, 3) := by decide +kernel
theorem d_Cs_placeFor_41 : decode mm_Cs_placeFor.2.1 41 = .ok (.iload_n 3, 1) := by decide +kernel
theorem d_Cs_placeFor_42 : decode mm_Cs_placeFor.2.1 42 = .ok (.iload 4, 2) := by decide +kernel
theorem d_Cs_placeFor_44 : decode mm_Cs_placeFor.2.1 44 = .ok (.iadd, 1) := by decide +kernel
theorem d_Cs_placeFor_45 : decode mm_Cs_placeFor.2.1 45 = .ok (.istore_n 3, 1) := by decide +kernel
theorem d_Cs_placeFor_46 : decode mm_Cs_placeFor.2.1 46 = .ok (.iload 4, 2) := by decide +kernel
theorem d_Cs_placeFor_48 : decode mm_Cs_placeFor.2.1 48 = .ok (.iconst 2, 1) := by decide +kernel
theorem d_Cs_placeFor_49 : decode mm_Cs_placeFor.2.1 49 = .ok (.idiv, 1) := by decide +kernel
theorem d_Cs_placeFor_50 : decode mm_Cs_placeFor.2.1 50 = .ok (.istore 4, 2) := by decide +kernel
theorem d_Cs_placeFor_52 : decode mm_Cs_placeFor.2.1 52 = .ok (.goto (-46), 3) := by decide +kernel
theorem d_Cs_placeFor_55 : decode mm_Cs_placeFor.2.1 55 = .ok (.iload_n 3, 1) := by decide +kernel
theorem d_Cs_placeFor_56 : decode mm_Cs_placeFor.2.1 56 = .ok (.ireturn, 1) := by decide +kernel
theorem d_Cs_firstInCircle_0 : decode mm_Cs_firstInCircle.2.1 0 = .ok (.aload_n 0, 1) := by decide +kernel
theorem d_Cs_firstInCircle_1 : decode mm_Cs_firstInCircle.2.1 1 = .ok (.lload_n 1, 1) := by decide +kernel
theorem d_Cs_firstInCircle_2 : decode mm_Cs_firstInCircle.2.1 2 = .ok (.invokevirtual 92, 3) := by decide +kernel
theorem d_Cs_firstInCircle_5 : decode mm_Cs_firstInCircle.2.1 5 = .ok (.lstore 4, 2) := by decide +kernel
theorem d_Cs_firstInCircle_7 : decode mm_Cs_firstInCircle.2.1 7 = .ok (.iconst 0, 1) := by decide +kernel
theorem d_Cs_firstInCircle_8 : decode mm_Cs_firstInCircle.2.1 8 = .ok (.istore 6, 2) := by decide +kernel
theorem d_Cs_firstInCircle_10 : decode mm_Cs_firstInCircle.2.1 10 = .ok (.iload 6, 2) := by decide +kernel
theorem d_Cs_firstInCircle_12 : decode mm_Cs_firstInCircle.2.1 12 = .ok (.aload_n 3, 1) := by decide +kernel
theorem d_Cs_firstInCircle_13 : decode mm_Cs_firstInCircle.2.1 13 = .ok (.getfield 50, 3) := by decide +kernel
theorem d_Cs_firstInCircle_16 : decode mm_Cs_firstInCircle.2.1 16 = .ok (.if_icmp .ge 55, 3) := by decide +kernel
theorem d_Cs_firstInCircle_19 : decode mm_Cs_firstInCircle.2.1 19 = .ok (.aload_n 0, 1) := by decide +kernel
theorem d_Cs_firstInCircle_20 : decode mm_Cs_firstInCircle.2.1 20 = .ok (.aload_n 3, 1) := by decide +kernel
theorem d_Cs_firstInCircle_21 : decode mm_Cs_firstInCircle.2.1 21 = .ok (.getfield 55, 3) := by decide +kernel
theorem d_Cs_firstInCircle_24 : decode mm_Cs_firstInCircle.2.1 24 = .ok (.iload 6, 2) := by decide +kernel
theorem d_Cs_firstInCircle_26 : decode mm_Cs_firstInCircle.2.1 26 = .ok (.laload, 1) := by decide +kernel
theorem d_Cs_firstInCircle_27 : decode mm_Cs_firstInCircle.2.1 27 = .ok (.invokevirtual 33, 3) := by decide +kernel
theorem d_Cs_firstInCircle_30 : decode mm_Cs_firstInCircle.2.1 30 = .ok (.istore 7, 2) := by decide +kernel
theorem d_Cs_firstInCircle_32 : decode mm_Cs_firstInCircle.2.1 32 = .ok (.aload_n 3, 1) := by decide +kernel
theorem d_Cs_firstInCircle_33 : decode mm_Cs_firstInCircle.2.1 33 = .ok (.getfield 55, 3) := by decide +kernel
theorem d_Cs_firstInCircle_36 : decode mm_Cs_firstInCircle.2.1 36 = .ok (.iload 6, 2) := by decide +kernel
theorem d_Cs_firstInCircle_38 : decode mm_Cs_firstInCircle.2.1 38 = .ok (.laload, 1) := by decide +kernel
theorem d_Cs_firstInCircle_39 : decode mm_Cs_firstInCircle.2.1 39 = .ok (.lload_n 1, 1) := by decide +kernel
theorem d_Cs_firstInCircle_40 : decode mm_Cs_firstInCircle.2.1 40 = .ok (.lcmp, 1) := by decide +kernel
theorem d_Cs_firstInCircle_41 : decode mm_Cs_firstInCircle.2.1 41 = .ok (.ifCond .eq 21, 3) := by decide +kernel
theorem d_Cs_firstInCircle_44 : decode mm_Cs_firstInCircle.2.1 44 = .ok (.iload 7, 2) := by decide +kernel
theorem d_Cs_firstInCircle_46 : decode mm_Cs_firstInCircle.2.1 46 = .ok (.iconst (-1), 1) := by decide +kernel
theorem d_Cs_firstInCircle_47 : decode mm_Cs_firstInCircle.2.1 47 = .ok (.if_icmp .eq 18, 3) := by decide +kernel
theorem d_Cs_firstInCircle_50 : decode mm_Cs_firstInCircle.2.1 50 = .ok (.lload 4, 2) := by decide +kernel
theorem d_Cs_firstInCircle_52 : decode mm_Cs_firstInCircle.2.1 52 = .ok (.lconst 1, 1) := by decide +kernel
theorem d_Cs_firstInCircle_53 : decode mm_Cs_firstInCircle.2.1 53 = .ok (.iload 7, 2) := by decide +kernel
theorem d_Cs_firstInCircle_55 : decode mm_Cs_firstInCircle.2.1 55 = .ok (.lshl, 1) := by decide +kernel
theorem d_Cs_firstInCircle_56 : decode mm_Cs_firstInCircle.2.1 56 = .ok (.land, 1) := by decide +kernel
theorem d_Cs_firstInCircle_57 : decode mm_Cs_firstInCircle.2.1 57 = .ok (.lconst 0, 1) := by decide +kernel
theorem d_Cs_firstInCircle_58 : decode mm_Cs_firstInCircle.2.1 58 = .ok (.lcmp, 1) := by decide +kernel
theorem d_Cs_firstInCircle_59 : decode mm_Cs_firstInCircle.2.1 59 = .ok (.ifCond .eq 6, 3) := by decide +kernel
theorem d_Cs_firstInCircle_62 : decode mm_Cs_firstInCircle.2.1 62 = .ok (.iload 6, 2) := by decide +kernel
theorem d_Cs_firstInCircle_64 : decode mm_Cs_firstInCircle.2.1 64 = .ok (.ireturn, 1) := by decide +kernel
theorem d_Cs_firstInCircle_65 : decode mm_Cs_firstInCircle.2.1 65 = .ok (.iinc 6 1, 3) := by decide +kernel
theorem d_Cs_firstInCircle_68 : decode mm_Cs_firstInCircle.2.1 68 = .ok (.goto (-58), 3) := by decide +kernel
theorem d_Cs_firstInCircle_71 : decode mm_Cs_firstInCircle.2.1 71 = .ok (.iconst (-1), 1) := by decide +kernel
theorem d_Cs_firstInCircle_72 : decode mm_Cs_firstInCircle.2.1 72 = .ok (.ireturn, 1) := by decide +kernel
theorem d_Cs_dependents_0 : decode mm_Cs_dependents.2.1 0 = .ok (.aload_n 0, 1) := by decide +kernel
theorem d_Cs_dependents_1 : decode mm_Cs_dependents.2.1 1 = .ok (.lload_n 1, 1) := by decide +kernel
theorem d_Cs_dependents_2 : decode mm_Cs_dependents.2.1 2 = .ok (.invokevirtual 85, 3) := by decide +kernel
theorem d_Cs_dependents_5 : decode mm_Cs_dependents.2.1 5 = .ok (.lstore_n 3, 1) := by decide +kernel
theorem d_Cs_dependents_6 : decode mm_Cs_dependents.2.1 6 = .ok (.lconst 0, 1) := by decide +kernel
theorem d_Cs_dependents_7 : decode mm_Cs_dependents.2.1 7 = .ok (.lstore 5, 2) := by decide +kernel
theorem d_Cs_dependents_9 : decode mm_Cs_dependents.2.1 9 = .ok (.aload_n 0, 1) := by decide +kernel
theorem d_Cs_dependents_10 : decode mm_Cs_dependents.2.1 10 = .ok (.invokevirtual 89, 3) := by decide +kernel
theorem d_Cs_dependents_13 : decode mm_Cs_dependents.2.1 13 = .ok (.iconst 0, 1) := by decide +kernel
theorem d_Cs_dependents_14 : decode mm_Cs_dependents.2.1 14 = .ok (.istore 7, 2) := by decide +kernel
theorem d_Cs_dependents_16 : decode mm_Cs_dependents.2.1 16 = .ok (.iload 7, 2) := by decide +kernel
theorem d_Cs_dependents_18 : decode mm_Cs_dependents.2.1 18 = .ok (.aload_n 0, 1) := by decide +kernel
theorem d_Cs_dependents_19 : decode mm_Cs_dependents.2.1 19 = .ok (.getfield 17, 3) := by decide +kernel
theorem d_Cs_dependents_22 : decode mm_Cs_dependents.2.1 22 = .ok (.if_icmp .ge 58, 3) := by decide +kernel
theorem d_Cs_dependents_25 : decode mm_Cs_dependents.2.1 25 = .ok (.lload_n 3, 1) := by decide +kernel
theorem d_Cs_dependents_26 : decode mm_Cs_dependents.2.1 26 = .ok (.lload 5, 2) := by decide +kernel
theorem d_Cs_dependents_28 : decode mm_Cs_dependents.2.1 28 = .ok (.lcmp, 1) := by decide +kernel
theorem d_Cs_dependents_29 : decode mm_Cs_dependents.2.1 29 = .ok (.ifCond .eq 51, 3) := by decide +kernel
theorem d_Cs_dependents_32 : decode mm_Cs_dependents.2.1 32 = .ok (.lload_n 3, 1) := by decide +kernel
theorem d_Cs_dependents_33 : decode mm_Cs_dependents.2.1 33 = .ok (.lstore 5, 2) := by decide +kernel
theorem d_Cs_dependents_35 : decode mm_Cs_dependents.2.1 35 = .ok (.iconst 0, 1) := by decide +kernel
theorem d_Cs_dependents_36 : decode mm_Cs_dependents.2.1 36 = .ok (.istore 8, 2) := by decide +kernel
theorem d_Cs_dependents_38 : decode mm_Cs_dependents.2.1 38 = .ok (.iload 8, 2) := by decide +kernel
theorem d_Cs_dependents_40 : decode mm_Cs_dependents.2.1 40 = .ok (.aload_n 0, 1) := by decide +kernel
theorem d_Cs_dependents_41 : decode mm_Cs_dependents.2.1 41 = .ok (.getfield 17, 3) := by decide +kernel
theorem d_Cs_dependents_44 : decode mm_Cs_dependents.2.1 44 = .ok (.if_icmp .ge 30, 3) := by decide +kernel
theorem d_Cs_dependents_47 : decode mm_Cs_dependents.2.1 47 = .ok (.aload_n 0, 1) := by decide +kernel
theorem d_Cs_dependents_48 : decode mm_Cs_dependents.2.1 48 = .ok (.getfield 21, 3) := by decide +kernel
theorem d_Cs_dependents_51 : decode mm_Cs_dependents.2.1 51 = .ok (.iload 8, 2) := by decide +kernel
theorem d_Cs_dependents_53 : decode mm_Cs_dependents.2.1 53 = .ok (.laload, 1) := by decide +kernel
theorem d_Cs_dependents_54 : decode mm_Cs_dependents.2.1 54 = .ok (.lload_n 3, 1) := by decide +kernel
theorem d_Cs_dependents_55 : decode mm_Cs_dependents.2.1 55 = .ok (.land, 1) := by decide +kernel
theorem d_Cs_dependents_56 : decode mm_Cs_dependents.2.1 56 = .ok (.lconst 0, 1) := by decide +kernel
theorem d_Cs_dependents_57 : decode mm_Cs_dependents.2.1 57 = .ok (.lcmp, 1) := by decide +kernel
theorem d_Cs_dependents_58 : decode mm_Cs_dependents.2.1 58 = .ok (.ifCond .eq 10, 3) := by decide +kernel
theorem d_Cs_dependents_61 : decode mm_Cs_dependents.2.1 61 = .ok (.lload_n 3, 1) := by decide +kernel
theorem d_Cs_dependents_62 : decode mm_Cs_dependents.2.1 62 = .ok (.lconst 1, 1) := by decide +kernel
theorem d_Cs_dependents_63 : decode mm_Cs_dependents.2.1 63 = .ok (.iload 8, 2) := by decide +kernel
theorem d_Cs_dependents_65 : decode mm_Cs_dependents.2.1 65 = .ok (.lshl, 1) := by decide +kernel
theorem d_Cs_dependents_66 : decode mm_Cs_dependents.2.1 66 = .ok (.lor, 1) := by decide +kernel
theorem d_Cs_dependents_67 : decode mm_Cs_dependents.2.1 67 = .ok (.lstore_n 3, 1) := by decide +kernel
theorem d_Cs_dependents_68 : decode mm_Cs_dependents.2.1 68 = .ok (.iinc 8 1, 3) := by decide +kernel
theorem d_Cs_dependents_71 : decode mm_Cs_dependents.2.1 71 = .ok (.goto (-33), 3) := by decide +kernel
theorem d_Cs_dependents_74 : decode mm_Cs_dependents.2.1 74 = .ok (.iinc 7 1, 3) := by decide +kernel
theorem d_Cs_dependents_77 : decode mm_Cs_dependents.2.1 77 = .ok (.goto (-61), 3) := by decide +kernel
theorem d_Cs_dependents_80 : decode mm_Cs_dependents.2.1 80 = .ok (.lload_n 3, 1) := by decide +kernel
theorem d_Cs_dependents_81 : decode mm_Cs_dependents.2.1 81 = .ok (.lreturn, 1) := by decide +kernel
theorem d_Cs_directReaders_0 : decode mm_Cs_directReaders.2.1 0 = .ok (.lconst 0, 1) := by decide +kernel
theorem d_Cs_directReaders_1 : decode mm_Cs_directReaders.2.1 1 = .ok (.lstore_n 3, 1) := by decide +kernel
theorem d_Cs_directReaders_2 : decode mm_Cs_directReaders.2.1 2 = .ok (.iconst 0, 1) := by decide +kernel
theorem d_Cs_directReaders_3 : decode mm_Cs_directReaders.2.1 3 = .ok (.istore 5, 2) := by decide +kernel
theorem d_Cs_directReaders_5 : decode mm_Cs_directReaders.2.1 5 = .ok (.iload 5, 2) := by decide +kernel
theorem d_Cs_directReaders_7 : decode mm_Cs_directReaders.2.1 7 = .ok (.aload_n 0, 1) := by decide +kernel
theorem d_Cs_directReaders_8 : decode mm_Cs_directReaders.2.1 8 = .ok (.getfield 17, 3) := by decide +kernel
theorem d_Cs_directReaders_11 : decode mm_Cs_directReaders.2.1 11 = .ok (.if_icmp .ge 33, 3) := by decide +kernel
theorem d_Cs_directReaders_14 : decode mm_Cs_directReaders.2.1 14 = .ok (.aload_n 0, 1) := by decide +kernel
theorem d_Cs_directReaders_15 : decode mm_Cs_directReaders.2.1 15 = .ok (.getfield 11, 3) := by decide +kernel
theorem d_Cs_directReaders_18 : decode mm_Cs_directReaders.2.1 18 = .ok (.iload 5, 2) := by decide +kernel
theorem d_Cs_directReaders_20 : decode mm_Cs_directReaders.2.1 20 = .ok (.aaload, 1) := by decide +kernel
theorem d_Cs_directReaders_21 : decode mm_Cs_directReaders.2.1 21 = .ok (.getfield 46, 3) := by decide +kernel
theorem d_Cs_directReaders_24 : decode mm_Cs_directReaders.2.1 24 = .ok (.lload_n 1, 1) := by decide +kernel
theorem d_Cs_directReaders_25 : decode mm_Cs_directReaders.2.1 25 = .ok (.invokevirtual 81, 3) := by decide +kernel
theorem d_Cs_directReaders_28 : decode mm_Cs_directReaders.2.1 28 = .ok (.ifCond .eq 10, 3) := by decide +kernel
theorem d_Cs_directReaders_31 : decode mm_Cs_directReaders.2.1 31 = .ok (.lload_n 3, 1) := by decide +kernel
theorem d_Cs_directReaders_32 : decode mm_Cs_directReaders.2.1 32 = .ok (.lconst 1, 1) := by decide +kernel
theorem d_Cs_directReaders_33 : decode mm_Cs_directReaders.2.1 33 = .ok (.iload 5, 2) := by decide +kernel
theorem d_Cs_directReaders_35 : decode mm_Cs_directReaders.2.1 35 = .ok (.lshl, 1) := by decide +kernel
theorem d_Cs_directReaders_36 : decode mm_Cs_directReaders.2.1 36 = .ok (.lor, 1) := by decide +kernel
theorem d_Cs_directReaders_37 : decode mm_Cs_directReaders.2.1 37 = .ok (.lstore_n 3, 1) := by decide +kernel
theorem d_Cs_directReaders_38 : decode mm_Cs_directReaders.2.1 38 = .ok (.iinc 5 1, 3) := by decide +kernel
theorem d_Cs_directReaders_41 : decode mm_Cs_directReaders.2.1 41 = .ok (.goto (-36), 3) := by decide +kernel
theorem d_Cs_directReaders_44 : decode mm_Cs_directReaders.2.1 44 = .ok (.lload_n 3, 1) := by decide +kernel
theorem d_Cs_directReaders_45 : decode mm_Cs_directReaders.2.1 45 = .ok (.lreturn, 1) := by decide +kernel
theorem d_Fm_mentions_0 : decode mm_Fm_mentions.2.1 0 = .ok (.iconst 0, 1) := by decide +kernel
theorem d_Fm_mentions_1 : decode mm_Fm_mentions.2.1 1 = .ok (.istore_n 3, 1) := by decide +kernel
theorem d_Fm_mentions_2 : decode mm_Fm_mentions.2.1 2 = .ok (.iload_n 3, 1) := by decide +kernel
theorem d_Fm_mentions_3 : decode mm_Fm_mentions.2.1 3 = .ok (.aload_n 0, 1) := by decide +kernel
theorem d_Fm_mentions_4 : decode mm_Fm_mentions.2.1 4 = .ok (.getfield 32, 3) := by decide +kernel
theorem d_Fm_mentions_7 : decode mm_Fm_mentions.2.1 7 = .ok (.if_icmp .ge 22, 3) := by decide +kernel
theorem d_Fm_mentions_10 : decode mm_Fm_mentions.2.1 10 = .ok (.aload_n 0, 1) := by decide +kernel
theorem d_Fm_mentions_11 : decode mm_Fm_mentions.2.1 11 = .ok (.getfield 22, 3) := by decide +kernel
theorem d_Fm_mentions_14 : decode mm_Fm_mentions.2.1 14 = .ok (.iload_n 3, 1) := by decide +kernel
theorem d_Fm_mentions_15 : decode mm_Fm_mentions.2.1 15 = .ok (.laload, 1) := by decide +kernel
theorem d_Fm_mentions_16 : decode mm_Fm_mentions.2.1 16 = .ok (.lload_n 1, 1) := by decide +kernel
theorem d_Fm_mentions_17 : decode mm_Fm_mentions.2.1 17 = .ok (.lcmp, 1) := by decide +kernel
theorem d_Fm_mentions_18 : decode mm_Fm_mentions.2.1 18 = .ok (.ifCond .ne 5, 3) := by decide +kernel
theorem d_Fm_mentions_21 : decode mm_Fm_mentions.2.1 21 = .ok (.iconst 1, 1) := by decide +kernel
theorem d_Fm_mentions_22 : decode mm_Fm_mentions.2.1 22 = .ok (.ireturn, 1) := by decide +kernel
theorem d_Fm_mentions_23 : decode mm_Fm_mentions.2.1 23 = .ok (.iinc 3 1, 3) := by decide +kernel
theorem d_Fm_mentions_26 : decode mm_Fm_mentions.2.1 26 = .ok (.goto (-24), 3) := by decide +kernel
theorem d_Fm_mentions_29 : decode mm_Fm_mentions.2.1 29 = .ok (.iconst 0, 1) := by decide +kernel
theorem d_Fm_mentions_30 : decode mm_Fm_mentions.2.1 30 = .ok (.ireturn, 1) := by decide +kernel
theorem d_Cs_trace_0 : decode mm_Cs_trace.2.1 0 = .ok (.iconst 0, 1) := by decide +kernel
theorem d_Cs_trace_1 : decode mm_Cs_trace.2.1 1 = .ok (.istore_n 1, 1) := by decide +kernel
theorem d_Cs_trace_2 : decode mm_Cs_trace.2.1 2 = .ok (.iload_n 1, 1) := by decide +kernel
theorem d_Cs_trace_3 : decode mm_Cs_trace.2.1 3 = .ok (.aload_n 0, 1) := by decide +kernel
theorem d_Cs_trace_4 : decode mm_Cs_trace.2.1 4 = .ok (.getfield 17, 3) := by decide +kernel
theorem d_Cs_trace_7 : decode mm_Cs_trace.2.1 7 = .ok (.if_icmp .ge 72, 3) := by decide +kernel
theorem d_Cs_trace_10 : decode mm_Cs_trace.2.1 10 = .ok (.aload_n 0, 1) := by decide +kernel
theorem d_Cs_trace_11 : decode mm_Cs_trace.2.1 11 = .ok (.getfield 11, 3) := by decide +kernel
theorem d_Cs_trace_14 : decode mm_Cs_trace.2.1 14 = .ok (.iload_n 1, 1) := by decide +kernel
theorem d_Cs_trace_15 : decode mm_Cs_trace.2.1 15 = .ok (.aaload, 1) := by decide +kernel
theorem d_Cs_trace_16 : decode mm_Cs_trace.2.1 16 = .ok (.getfield 46, 3) := by decide +kernel
theorem d_Cs_trace_19 : decode mm_Cs_trace.2.1 19 = .ok (.astore_n 2, 1) := by decide +kernel
theorem d_Cs_trace_20 : decode mm_Cs_trace.2.1 20 = .ok (.lconst 0, 1) := by decide +kernel
theorem d_Cs_trace_21 : decode mm_Cs_trace.2.1 21 = .ok (.lstore_n 3, 1) := by decide +kernel
theorem d_Cs_trace_22 : decode mm_Cs_trace.2.1 22 = .ok (.iconst 0, 1) := by decide +kernel
theorem d_Cs_trace_23 : decode mm_Cs_trace.2.1 23 = .ok (.istore 5, 2) := by decide +kernel
theorem d_Cs_trace_25 : decode mm_Cs_trace.2.1 25 = .ok (.iload 5, 2) := by decide +kernel
theorem d_Cs_trace_27 : decode mm_Cs_trace.2.1 27 = .ok (.aload_n 2, 1) := by decide +kernel
theorem d_Cs_trace_28 : decode mm_Cs_trace.2.1 28 = .ok (.getfield 50, 3) := by decide +kernel
theorem d_Cs_trace_31 : decode mm_Cs_trace.2.1 31 = .ok (.if_icmp .ge 35, 3) := by decide +kernel
theorem d_Cs_trace_34 : decode mm_Cs_trace.2.1 34 = .ok (.aload_n 0, 1) := by decide +kernel
theorem d_Cs_trace_35 : decode mm_Cs_trace.2.1 35 = .ok (.aload_n 2, 1) := by decide +kernel
theorem d_Cs_trace_36 : decode mm_Cs_trace.2.1 36 = .ok (.getfield 55, 3) := by decide +kernel
theorem d_Cs_trace_39 : decode mm_Cs_trace.2.1 39 = .ok (.iload 5, 2) := by decide +kernel
theorem d_Cs_trace_41 : decode mm_Cs_trace.2.1 41 = .ok (.laload, 1) := by decide +kernel
theorem d_Cs_trace_42 : decode mm_Cs_trace.2.1 42 = .ok (.invokevirtual 33, 3) := by decide +kernel
theorem d_Cs_trace_45 : decode mm_Cs_trace.2.1 45 = .ok (.istore 6, 2) := by decide +kernel
theorem d_Cs_trace_47 : decode mm_Cs_trace.2.1 47 = .ok (.iload 6, 2) := by decide +kernel
theorem d_Cs_trace_49 : decode mm_Cs_trace.2.1 49 = .ok (.iconst (-1), 1) := by decide +kernel
theorem d_Cs_trace_50 : decode mm_Cs_trace.2.1 50 = .ok (.if_icmp .eq 10, 3) := by decide +kernel
theorem d_Cs_trace_53 : decode mm_Cs_trace.2.1 53 = .ok (.lload_n 3, 1) := by decide +kernel
theorem d_Cs_trace_54 : decode mm_Cs_trace.2.1 54 = .ok (.lconst 1, 1) := by decide +kernel
theorem d_Cs_trace_55 : decode mm_Cs_trace.2.1 55 = .ok (.iload 6, 2) := by decide +kernel
theorem d_Cs_trace_57 : decode mm_Cs_trace.2.1 57 = .ok (.lshl, 1) := by decide +kernel
theorem d_Cs_trace_58 : decode mm_Cs_trace.2.1 58 = .ok (.lor, 1) := by decide +kernel
theorem d_Cs_trace_59 : decode mm_Cs_trace.2.1 59 = .ok (.lstore_n 3, 1) := by decide +kernel
theorem d_Cs_trace_60 : decode mm_Cs_trace.2.1 60 = .ok (.iinc 5 1, 3) := by decide +kernel
theorem d_Cs_trace_63 : decode mm_Cs_trace.2.1 63 = .ok (.goto (-38), 3) := by decide +kernel
theorem d_Cs_trace_66 : decode mm_Cs_trace.2.1 66 = .ok (.aload_n 0, 1) := by decide +kernel
theorem d_Cs_trace_67 : decode mm_Cs_trace.2.1 67 = .ok (.getfield 21, 3) := by decide +kernel
theorem d_Cs_trace_70 : decode mm_Cs_trace.2.1 70 = .ok (.iload_n 1, 1) := by decide +kernel
theorem d_Cs_trace_71 : decode mm_Cs_trace.2.1 71 = .ok (.lload_n 3, 1) := by decide +kernel
theorem d_Cs_trace_72 : decode mm_Cs_trace.2.1 72 = .ok (.lastore, 1) := by decide +kernel
theorem d_Cs_trace_73 : decode mm_Cs_trace.2.1 73 = .ok (.iinc 1 1, 3) := by decide +kernel
theorem d_Cs_trace_76 : decode mm_Cs_trace.2.1 76 = .ok (.goto (-74), 3) := by decide +kernel
theorem d_Cs_trace_79 : decode mm_Cs_trace.2.1 79 = .ok (.return_, 1) := by decide +kernel
theorem d_Rd_placeOfName_0 : decode mm_Rd_placeOfName.2.1 0 = .ok (.iload_n 1, 1) := by decide +kernel
theorem d_Rd_placeOfName_1 : decode mm_Rd_placeOfName.2.1 1 = .ok (.ifCond .lt 21, 3) := by decide +kernel
theorem d_Rd_placeOfName_4 : decode mm_Rd_placeOfName.2.1 4 = .ok (.iload_n 1, 1) := by decide +kernel
theorem d_Rd_placeOfName_5 : decode mm_Rd_placeOfName.2.1 5 = .ok (.aload_n 0, 1) := by decide +kernel
theorem d_Rd_placeOfName_6 : decode mm_Rd_placeOfName.2.1 6 = .ok (.getfield 39, 3) := by decide +kernel
theorem d_Rd_placeOfName_9 : decode mm_Rd_placeOfName.2.1 9 = .ok (.arraylength, 1) := by decide +kernel
theorem d_Rd_placeOfName_10 : decode mm_Rd_placeOfName.2.1 10 = .ok (.if_icmp .ge 12, 3) := by decide +kernel
theorem d_Rd_placeOfName_13 : decode mm_Rd_placeOfName.2.1 13 = .ok (.aload_n 0, 1) := by decide +kernel
theorem d_Rd_placeOfName_14 : decode mm_Rd_placeOfName.2.1 14 = .ok (.getfield 39, 3) := by decide +kernel
theorem d_Rd_placeOfName_17 : decode mm_Rd_placeOfName.2.1 17 = .ok (.iload_n 1, 1) := by decide +kernel
theorem d_Rd_placeOfName_18 : decode mm_Rd_placeOfName.2.1 18 = .ok (.iaload, 1) := by decide +kernel
theorem d_Rd_placeOfName_19 : decode mm_Rd_placeOfName.2.1 19 = .ok (.goto 4, 3) := by decide +kernel
theorem d_Rd_placeOfName_22 : decode mm_Rd_placeOfName.2.1 22 = .ok (.iconst 0, 1) := by decide +kernel
theorem d_Rd_placeOfName_23 : decode mm_Rd_placeOfName.2.1 23 = .ok (.ireturn, 1) := by decide +kernel
theorem d_Rd_exchangeFormula_0 : decode mm_Rd_exchangeFormula.2.1 0 = .ok (.aload_n 0, 1) := by decide +kernel
theorem d_Rd_exchangeFormula_1 : decode mm_Rd_exchangeFormula.2.1 1 = .ok (.getfield 21, 3) := by decide +kernel
theorem d_Rd_exchangeFormula_4 : decode mm_Rd_exchangeFormula.2.1 4 = .ok (.astore_n 2, 1) := by decide +kernel
theorem d_Rd_exchangeFormula_5 : decode mm_Rd_exchangeFormula.2.1 5 = .ok (.aload_n 0, 1) := by decide +kernel
theorem d_Rd_exchangeFormula_6 : decode mm_Rd_exchangeFormula.2.1 6 = .ok (.aload_n 1, 1) := by decide +kernel
theorem d_Rd_exchangeFormula_7 : decode mm_Rd_exchangeFormula.2.1 7 = .ok (.putfield 21, 3) := by decide +kernel
theorem d_Rd_exchangeFormula_10 : decode mm_Rd_exchangeFormula.2.1 10 = .ok (.aload_n 2, 1) := by decide +kernel
theorem d_Rd_exchangeFormula_11 : decode mm_Rd_exchangeFormula.2.1 11 = .ok (.areturn, 1) := by decide +kernel
theorem d_Cl_init_0 : decode mm_Cl_init.2.1 0 = .ok (.aload_n 0, 1) := by decide +kernel
theorem d_Cl_init_1 : decode mm_Cl_init.2.1 1 = .ok (.invokespecial 3, 3) := by decide +kernel
theorem d_Cl_init_4 : decode mm_Cl_init.2.1 4 = .ok (.aload_n 0, 1) := by decide +kernel
theorem d_Cl_init_5 : decode mm_Cl_init.2.1 5 = .ok (.iconst 0, 1) := by decide +kernel
theorem d_Cl_init_6 : decode mm_Cl_init.2.1 6 = .ok (.putfield 9, 3) := by decide +kernel
theorem d_Cl_init_9 : decode mm_Cl_init.2.1 9 = .ok (.aload_n 0, 1) := by decide +kernel
theorem d_Cl_init_10 : decode mm_Cl_init.2.1 10 = .ok (.iconst 0, 1) := by decide +kernel
theorem d_Cl_init_11 : decode mm_Cl_init.2.1 11 = .ok (.putfield 15, 3) := by decide +kernel
theorem d_Cl_init_14 : decode mm_Cl_init.2.1 14 = .ok (.aload_n 0, 1) := by decide +kernel
theorem d_Cl_init_15 : decode mm_Cl_init.2.1 15 = .ok (.lconst 0, 1) := by decide +kernel
theorem d_Cl_init_16 : decode mm_Cl_init.2.1 16 = .ok (.putfield 19, 3) := by decide +kernel
theorem d_Cl_init_19 : decode mm_Cl_init.2.1 19 = .ok (.aload_n 0, 1) := by decide +kernel
theorem d_Cl_init_20 : decode mm_Cl_init.2.1 20 = .ok (.lload_n 1, 1) := by decide +kernel
theorem d_Cl_init_21 : decode mm_Cl_init.2.1 21 = .ok (.putfield 23, 3) := by decide +kernel
theorem d_Cl_init_24 : decode mm_Cl_init.2.1 24 = .ok (.aload_n 0, 1) := by decide +kernel
theorem d_Cl_init_25 : decode mm_Cl_init.2.1 25 = .ok (.aload_n 3, 1) := by decide +kernel
theorem d_Cl_init_26 : decode mm_Cl_init.2.1 26 = .ok (.putfield 26, 3) := by decide +kernel
theorem d_Cl_init_29 : decode mm_Cl_init.2.1 29 = .ok (.return_, 1) := by decide +kernel
theorem d_Cs_insert_0 : decode mm_Cs_insert.2.1 0 = .ok (.aload_n 0, 1) := by decide +kernel
theorem d_Cs_insert_1 : decode mm_Cs_insert.2.1 1 = .ok (.getfield 17, 3) := by decide +kernel
theorem d_Cs_insert_4 : decode mm_Cs_insert.2.1 4 = .ok (.aload_n 0, 1) := by decide +kernel
theorem d_Cs_insert_5 : decode mm_Cs_insert.2.1 5 = .ok (.getfield 11, 3) := by decide +kernel
theorem d_Cs_insert_8 : decode mm_Cs_insert.2.1 8 = .ok (.arraylength, 1) := by decide +kernel
theorem d_Cs_insert_9 : decode mm_Cs_insert.2.1 9 = .ok (.if_icmp .lt 4, 3) := by decide +kernel
theorem d_Cs_insert_12 : decode mm_Cs_insert.2.1 12 = .ok (.return_, 1) := by decide +kernel
theorem d_Cs_insert_13 : decode mm_Cs_insert.2.1 13 = .ok (.aload_n 0, 1) := by decide +kernel
theorem d_Cs_insert_14 : decode mm_Cs_insert.2.1 14 = .ok (.aload_n 1, 1) := by decide +kernel
theorem d_Cs_insert_15 : decode mm_Cs_insert.2.1 15 = .ok (.getfield 25, 3) := by decide +kernel
theorem d_Cs_insert_18 : decode mm_Cs_insert.2.1 18 = .ok (.invokevirtual 29, 3) := by decide +kernel
theorem d_Cs_insert_21 : decode mm_Cs_insert.2.1 21 = .ok (.istore_n 2, 1) := by decide +kernel
theorem d_Cs_insert_22 : decode mm_Cs_insert.2.1 22 = .ok (.aload_n 0, 1) := by decide +kernel
theorem d_Cs_insert_23 : decode mm_Cs_insert.2.1 23 = .ok (.getfield 17, 3) := by decide +kernel
theorem d_Cs_insert_26 : decode mm_Cs_insert.2.1 26 = .ok (.istore_n 3, 1) := by decide +kernel
theorem d_Cs_insert_27 : decode mm_Cs_insert.2.1 27 = .ok (.iload_n 3, 1) := by decide +kernel
theorem d_Cs_insert_28 : decode mm_Cs_insert.2.1 28 = .ok (.iload_n 2, 1) := by decide +kernel
theorem d_Cs_insert_29 : decode mm_Cs_insert.2.1 29 = .ok (.if_icmp .le 23, 3) := by decide +kernel
theorem d_Cs_insert_32 : decode mm_Cs_insert.2.1 32 = .ok (.aload_n 0, 1) := by decide +kernel
theorem d_Cs_insert_33 : decode mm_Cs_insert.2.1 33 = .ok (.getfield 11, 3) := by decide +kernel
theorem d_Cs_insert_36 : decode mm_Cs_insert.2.1 36 = .ok (.iload_n 3, 1) := by decide +kernel
theorem d_Cs_insert_37 : decode mm_Cs_insert.2.1 37 = .ok (.aload_n 0, 1) := by decide +kernel
theorem d_Cs_insert_38 : decode mm_Cs_insert.2.1 38 = .ok (.getfield 11, 3) := by decide +kernel
theorem d_Cs_insert_41 : decode mm_Cs_insert.2.1 41 = .ok (.iload_n 3, 1) := by decide +kernel
theorem d_Cs_insert_42 : decode mm_Cs_insert.2.1 42 = .ok (.iconst 1, 1) := by decide +kernel
theorem d_Cs_insert_43 : decode mm_Cs_insert.2.1 43 = .ok (.isub, 1) := by decide +kernel
theorem d_Cs_insert_44 : decode mm_Cs_insert.2.1 44 = .ok (.aaload, 1) := by decide +kernel
theorem d_Cs_insert_45 : decode mm_Cs_insert.2.1 45 = .ok (.aastore, 1) := by decide +kernel
theorem d_Cs_insert_46 : decode mm_Cs_insert.2.1 46 = .ok (.iinc 3 (-1), 3) := by decide +kernel
theorem d_Cs_insert_49 : decode mm_Cs_insert.2.1 49 = .ok (.goto (-22), 3) := by decide +kernel
theorem d_Cs_insert_52 : decode mm_Cs_insert.2.1 52 = .ok (.aload_n 0, 1) := by decide +kernel
theorem d_Cs_insert_53 : decode mm_Cs_insert.2.1 53 = .ok (.getfield 11, 3) := by decide +kernel
theorem d_Cs_insert_56 : decode mm_Cs_insert.2.1 56 = .ok (.iload_n 2, 1) := by decide +kernel
theorem d_Cs_insert_57 : decode mm_Cs_insert.2.1 57 = .ok (.aload_n 1, 1) := by decide +kernel
theorem d_Cs_insert_58 : decode mm_Cs_insert.2.1 58 = .ok (.aastore, 1) := by decide +kernel
theorem d_Cs_insert_59 : decode mm_Cs_insert.2.1 59 = .ok (.aload_n 0, 1) := by decide +kernel
theorem d_Cs_insert_60 : decode mm_Cs_insert.2.1 60 = .ok (.dup, 1) := by decide +kernel
theorem d_Cs_insert_61 : decode mm_Cs_insert.2.1 61 = .ok (.getfield 17, 3) := by decide +kernel
theorem d_Cs_insert_64 : decode mm_Cs_insert.2.1 64 = .ok (.iconst 1, 1) := by decide +kernel
theorem d_Cs_insert_65 : decode mm_Cs_insert.2.1 65 = .ok (.iadd, 1) := by decide +kernel
theorem d_Cs_insert_66 : decode mm_Cs_insert.2.1 66 = .ok (.putfield 17, 3) := by decide +kernel
theorem d_Cs_insert_69 : decode mm_Cs_insert.2.1 69 = .ok (.return_, 1) := by decide +kernel
theorem d_CW_fault_0 : decode mm_CW_fault.2.1 0 = .ok (.aload_n 0, 1) := by decide +kernel
theorem d_CW_fault_1 : decode mm_CW_fault.2.1 1 = .ok (.getfield 12, 3) := by decide +kernel
theorem d_CW_fault_4 : decode mm_CW_fault.2.1 4 = .ok (.getfield 63, 3) := by decide +kernel
theorem d_CW_fault_7 : decode mm_CW_fault.2.1 7 = .ok (.ireturn, 1) := by decide +kernel
theorem d_CW_buildAll_0 : decode mm_CW_buildAll.2.1 0 = .ok (.aload_n 0, 1) := by decide +kernel
theorem d_CW_buildAll_1 : decode mm_CW_buildAll.2.1 1 = .ok (.getfield 26, 3) := by decide +kernel
theorem d_CW_buildAll_4 : decode mm_CW_buildAll.2.1 4 = .ok (.aload_n 0, 1) := by decide +kernel
theorem d_CW_buildAll_5 : decode mm_CW_buildAll.2.1 5 = .ok (.getfield 19, 3) := by decide +kernel
theorem d_CW_buildAll_8 : decode mm_CW_buildAll.2.1 8 = .ok (.aload_n 0, 1) := by decide +kernel
theorem d_CW_buildAll_9 : decode mm_CW_buildAll.2.1 9 = .ok (.getfield 19, 3) := by decide +kernel
theorem d_CW_buildAll_12 : decode mm_CW_buildAll.2.1 12 = .ok (.invokevirtual 85, 3) := by decide +kernel
theorem d_CW_buildAll_15 : decode mm_CW_buildAll.2.1 15 = .ok (.invokevirtual 81, 3) := by decide +kernel
theorem d_CW_buildAll_18 : decode mm_CW_buildAll.2.1 18 = .ok (.ireturn, 1) := by decide +kernel
theorem d_Cs_all_0 : decode mm_Cs_all.2.1 0 = .ok (.lconst 0, 1) := by decide +kernel
theorem d_Cs_all_1 : decode mm_Cs_all.2.1 1 = .ok (.lstore_n 1, 1) := by decide +kernel
theorem d_Cs_all_2 : decode mm_Cs_all.2.1 2 = .ok (.iconst 0, 1) := by decide +kernel
theorem d_Cs_all_3 : decode mm_Cs_all.2.1 3 = .ok (.istore_n 3, 1) := by decide +kernel
theorem d_Cs_all_4 : decode mm_Cs_all.2.1 4 = .ok (.iload_n 3, 1) := by decide +kernel
theorem d_Cs_all_5 : decode mm_Cs_all.2.1 5 = .ok (.aload_n 0, 1) := by decide +kernel
theorem d_Cs_all_6 : decode mm_Cs_all.2.1 6 = .ok (.getfield 17, 3) := by decide +kernel
theorem d_Cs_all_9 : decode mm_Cs_all.2.1 9 = .ok (.if_icmp .ge 15, 3) := by decide +kernel
theorem d_Cs_all_12 : decode mm_Cs_all.2.1 12 = .ok (.lload_n 1, 1) := by decide +kernel
theorem d_Cs_all_13 : decode mm_Cs_all.2.1 13 = .ok (.lconst 1, 1) := by decide +kernel
theorem d_Cs_all_14 : decode mm_Cs_all.2.1 14 = .ok (.iload_n 3, 1) := by decide +kernel
theorem d_Cs_all_15 : decode mm_Cs_all.2.1 15 = .ok (.lshl, 1) := by decide +kernel
theorem d_Cs_all_16 : decode mm_Cs_all.2.1 16 = .ok (.lor, 1) := by decide +kernel
theorem d_Cs_all_17 : decode mm_Cs_all.2.1 17 = .ok (.lstore_n 1, 1) := by decide +kernel
theorem d_Cs_all_18 : decode mm_Cs_all.2.1 18 = .ok (.iinc 3 1, 3) := by decide +kernel
theorem d_Cs_all_21 : decode mm_Cs_all.2.1 21 = .ok (.goto (-17), 3) := by decide +kernel
theorem d_Cs_all_24 : decode mm_Cs_all.2.1 24 = .ok (.lload_n 1, 1) := by decide +kernel
theorem d_Cs_all_25 : decode mm_Cs_all.2.1 25 = .ok (.lreturn, 1) := by decide +kernel
theorem d_Bd_run_0 : decode mm_Bd_run.2.1 0 = .ok (.aload_n 1, 1) := by decide +kernel
theorem d_Bd_run_1 : decode mm_Bd_run.2.1 1 = .ok (.lload_n 2, 1) := by decide +kernel
end
section
theorem d_Bd_run_2 : decode mm_Bd_run.2.1 2 = .ok (.invokevirtual 29, 3) := by decide +kernel
theorem d_Bd_run_5 : decode mm_Bd_run.2.1 5 = .ok (.lstore 4, 2) := by decide +kernel
theorem d_Bd_run_7 : decode mm_Bd_run.2.1 7 = .ok (.lconst 0, 1) := by decide +kernel
theorem d_Bd_run_8 : decode mm_Bd_run.2.1 8 = .ok (.lstore 6, 2) := by decide +kernel
theorem d_Bd_run_10 : decode mm_Bd_run.2.1 10 = .ok (.lconst 0, 1) := by decide +kernel
theorem d_Bd_run_11 : decode mm_Bd_run.2.1 11 = .ok (.lstore 8, 2) := by decide +kernel
theorem d_Bd_run_13 : decode mm_Bd_run.2.1 13 = .ok (.iconst 0, 1) := by decide +kernel
theorem d_Bd_run_14 : decode mm_Bd_run.2.1 14 = .ok (.istore 10, 2) := by decide +kernel
theorem d_Bd_run_16 : decode mm_Bd_run.2.1 16 = .ok (.iload 10, 2) := by decide +kernel
theorem d_Bd_run_18 : decode mm_Bd_run.2.1 18 = .ok (.aload_n 1, 1) := by decide +kernel
theorem d_Bd_run_19 : decode mm_Bd_run.2.1 19 = .ok (.getfield 35, 3) := by decide +kernel
theorem d_Bd_run_22 : decode mm_Bd_run.2.1 22 = .ok (.if_icmp .ge 120, 3) := by decide +kernel
theorem d_Bd_run_25 : decode mm_Bd_run.2.1 25 = .ok (.lload 6, 2) := by decide +kernel
theorem d_Bd_run_27 : decode mm_Bd_run.2.1 27 = .ok (.lload 4, 2) := by decide +kernel
theorem d_Bd_run_29 : decode mm_Bd_run.2.1 29 = .ok (.lcmp, 1) := by decide +kernel
theorem d_Bd_run_30 : decode mm_Bd_run.2.1 30 = .ok (.ifCond .eq 112, 3) := by decide +kernel
theorem d_Bd_run_33 : decode mm_Bd_run.2.1 33 = .ok (.iconst 0, 1) := by decide +kernel
theorem d_Bd_run_34 : decode mm_Bd_run.2.1 34 = .ok (.istore 11, 2) := by decide +kernel
theorem d_Bd_run_36 : decode mm_Bd_run.2.1 36 = .ok (.iload 11, 2) := by decide +kernel
theorem d_Bd_run_38 : decode mm_Bd_run.2.1 38 = .ok (.aload_n 1, 1) := by decide +kernel
theorem d_Bd_run_39 : decode mm_Bd_run.2.1 39 = .ok (.getfield 35, 3) := by decide +kernel
theorem d_Bd_run_42 : decode mm_Bd_run.2.1 42 = .ok (.if_icmp .ge 94, 3) := by decide +kernel
theorem d_Bd_run_45 : decode mm_Bd_run.2.1 45 = .ok (.lconst 1, 1) := by decide +kernel
theorem d_Bd_run_46 : decode mm_Bd_run.2.1 46 = .ok (.iload 11, 2) := by decide +kernel
theorem d_Bd_run_48 : decode mm_Bd_run.2.1 48 = .ok (.lshl, 1) := by decide +kernel
theorem d_Bd_run_49 : decode mm_Bd_run.2.1 49 = .ok (.lstore 12, 2) := by decide +kernel
theorem d_Bd_run_51 : decode mm_Bd_run.2.1 51 = .ok (.lload 4, 2) := by decide +kernel
theorem d_Bd_run_53 : decode mm_Bd_run.2.1 53 = .ok (.lload 6, 2) := by decide +kernel
theorem d_Bd_run_55 : decode mm_Bd_run.2.1 55 = .ok (.ldc2_w 38, 3) := by decide +kernel
theorem d_Bd_run_58 : decode mm_Bd_run.2.1 58 = .ok (.lxor, 1) := by decide +kernel
theorem d_Bd_run_59 : decode mm_Bd_run.2.1 59 = .ok (.land, 1) := by decide +kernel
theorem d_Bd_run_60 : decode mm_Bd_run.2.1 60 = .ok (.lload 12, 2) := by decide +kernel
theorem d_Bd_run_62 : decode mm_Bd_run.2.1 62 = .ok (.land, 1) := by decide +kernel
theorem d_Bd_run_63 : decode mm_Bd_run.2.1 63 = .ok (.lconst 0, 1) := by decide +kernel
theorem d_Bd_run_64 : decode mm_Bd_run.2.1 64 = .ok (.lcmp, 1) := by decide +kernel
theorem d_Bd_run_65 : decode mm_Bd_run.2.1 65 = .ok (.ifCond .eq 65, 3) := by decide +kernel
theorem d_Bd_run_68 : decode mm_Bd_run.2.1 68 = .ok (.aload_n 1, 1) := by decide +kernel
theorem d_Bd_run_69 : decode mm_Bd_run.2.1 69 = .ok (.getfield 40, 3) := by decide +kernel
theorem d_Bd_run_72 : decode mm_Bd_run.2.1 72 = .ok (.iload 11, 2) := by decide +kernel
theorem d_Bd_run_74 : decode mm_Bd_run.2.1 74 = .ok (.laload, 1) := by decide +kernel
theorem d_Bd_run_75 : decode mm_Bd_run.2.1 75 = .ok (.lload 6, 2) := by decide +kernel
theorem d_Bd_run_77 : decode mm_Bd_run.2.1 77 = .ok (.ldc2_w 38, 3) := by decide +kernel
theorem d_Bd_run_80 : decode mm_Bd_run.2.1 80 = .ok (.lxor, 1) := by decide +kernel
theorem d_Bd_run_81 : decode mm_Bd_run.2.1 81 = .ok (.land, 1) := by decide +kernel
theorem d_Bd_run_82 : decode mm_Bd_run.2.1 82 = .ok (.lconst 0, 1) := by decide +kernel
theorem d_Bd_run_83 : decode mm_Bd_run.2.1 83 = .ok (.lcmp, 1) := by decide +kernel
theorem d_Bd_run_84 : decode mm_Bd_run.2.1 84 = .ok (.ifCond .eq 6, 3) := by decide +kernel
theorem d_Bd_run_87 : decode mm_Bd_run.2.1 87 = .ok (.goto 43, 3) := by decide +kernel
theorem d_Bd_run_90 : decode mm_Bd_run.2.1 90 = .ok (.lload 6, 2) := by decide +kernel
theorem d_Bd_run_92 : decode mm_Bd_run.2.1 92 = .ok (.lload 12, 2) := by decide +kernel
theorem d_Bd_run_94 : decode mm_Bd_run.2.1 94 = .ok (.lor, 1) := by decide +kernel
theorem d_Bd_run_95 : decode mm_Bd_run.2.1 95 = .ok (.lstore 6, 2) := by decide +kernel
theorem d_Bd_run_97 : decode mm_Bd_run.2.1 97 = .ok (.aload_n 1, 1) := by decide +kernel
theorem d_Bd_run_98 : decode mm_Bd_run.2.1 98 = .ok (.aload_n 1, 1) := by decide +kernel
theorem d_Bd_run_99 : decode mm_Bd_run.2.1 99 = .ok (.getfield 43, 3) := by decide +kernel
theorem d_Bd_run_102 : decode mm_Bd_run.2.1 102 = .ok (.iload 11, 2) := by decide +kernel
theorem d_Bd_run_104 : decode mm_Bd_run.2.1 104 = .ok (.aaload, 1) := by decide +kernel
theorem d_Bd_run_105 : decode mm_Bd_run.2.1 105 = .ok (.invokevirtual 47, 3) := by decide +kernel
theorem d_Bd_run_108 : decode mm_Bd_run.2.1 108 = .ok (.ifCond .eq 22, 3) := by decide +kernel
theorem d_Bd_run_111 : decode mm_Bd_run.2.1 111 = .ok (.aload_n 0, 1) := by decide +kernel
theorem d_Bd_run_112 : decode mm_Bd_run.2.1 112 = .ok (.aload_n 1, 1) := by decide +kernel
theorem d_Bd_run_113 : decode mm_Bd_run.2.1 113 = .ok (.aload_n 1, 1) := by decide +kernel
theorem d_Bd_run_114 : decode mm_Bd_run.2.1 114 = .ok (.getfield 43, 3) := by decide +kernel
theorem d_Bd_run_117 : decode mm_Bd_run.2.1 117 = .ok (.iload 11, 2) := by decide +kernel
theorem d_Bd_run_119 : decode mm_Bd_run.2.1 119 = .ok (.aaload, 1) := by decide +kernel
theorem d_Bd_run_120 : decode mm_Bd_run.2.1 120 = .ok (.invokevirtual 51, 3) := by decide +kernel
theorem d_Bd_run_123 : decode mm_Bd_run.2.1 123 = .ok (.lload 8, 2) := by decide +kernel
theorem d_Bd_run_125 : decode mm_Bd_run.2.1 125 = .ok (.lload 12, 2) := by decide +kernel
theorem d_Bd_run_127 : decode mm_Bd_run.2.1 127 = .ok (.lor, 1) := by decide +kernel
theorem d_Bd_run_128 : decode mm_Bd_run.2.1 128 = .ok (.lstore 8, 2) := by decide +kernel
theorem d_Bd_run_130 : decode mm_Bd_run.2.1 130 = .ok (.iinc 11 1, 3) := by decide +kernel
theorem d_Bd_run_133 : decode mm_Bd_run.2.1 133 = .ok (.goto (-97), 3) := by decide +kernel
theorem d_Bd_run_136 : decode mm_Bd_run.2.1 136 = .ok (.iinc 10 1, 3) := by decide +kernel
theorem d_Bd_run_139 : decode mm_Bd_run.2.1 139 = .ok (.goto (-123), 3) := by decide +kernel
theorem d_Bd_run_142 : decode mm_Bd_run.2.1 142 = .ok (.aload_n 0, 1) := by decide +kernel
theorem d_Bd_run_143 : decode mm_Bd_run.2.1 143 = .ok (.aload_n 1, 1) := by decide +kernel
theorem d_Bd_run_144 : decode mm_Bd_run.2.1 144 = .ok (.lload 8, 2) := by decide +kernel
theorem d_Bd_run_146 : decode mm_Bd_run.2.1 146 = .ok (.invokevirtual 55, 3) := by decide +kernel
theorem d_Bd_run_149 : decode mm_Bd_run.2.1 149 = .ok (.aload_n 0, 1) := by decide +kernel
theorem d_Bd_run_150 : decode mm_Bd_run.2.1 150 = .ok (.getfield 22, 3) := by decide +kernel
theorem d_Bd_run_153 : decode mm_Bd_run.2.1 153 = .ok (.ireturn, 1) := by decide +kernel
theorem d_Cs_withGround_0 : decode mm_Cs_withGround.2.1 0 = .ok (.lload_n 1, 1) := by decide +kernel
theorem d_Cs_withGround_1 : decode mm_Cs_withGround.2.1 1 = .ok (.lstore_n 3, 1) := by decide +kernel
theorem d_Cs_withGround_2 : decode mm_Cs_withGround.2.1 2 = .ok (.lconst 0, 1) := by decide +kernel
theorem d_Cs_withGround_3 : decode mm_Cs_withGround.2.1 3 = .ok (.lstore 5, 2) := by decide +kernel
theorem d_Cs_withGround_5 : decode mm_Cs_withGround.2.1 5 = .ok (.aload_n 0, 1) := by decide +kernel
theorem d_Cs_withGround_6 : decode mm_Cs_withGround.2.1 6 = .ok (.invokevirtual 89, 3) := by decide +kernel
theorem d_Cs_withGround_9 : decode mm_Cs_withGround.2.1 9 = .ok (.iconst 0, 1) := by decide +kernel
theorem d_Cs_withGround_10 : decode mm_Cs_withGround.2.1 10 = .ok (.istore 7, 2) := by decide +kernel
theorem d_Cs_withGround_12 : decode mm_Cs_withGround.2.1 12 = .ok (.iload 7, 2) := by decide +kernel
theorem d_Cs_withGround_14 : decode mm_Cs_withGround.2.1 14 = .ok (.aload_n 0, 1) := by decide +kernel
theorem d_Cs_withGround_15 : decode mm_Cs_withGround.2.1 15 = .ok (.getfield 17, 3) := by decide +kernel
theorem d_Cs_withGround_18 : decode mm_Cs_withGround.2.1 18 = .ok (.if_icmp .ge 58, 3) := by decide +kernel
theorem d_Cs_withGround_21 : decode mm_Cs_withGround.2.1 21 = .ok (.lload_n 3, 1) := by decide +kernel
theorem d_Cs_withGround_22 : decode mm_Cs_withGround.2.1 22 = .ok (.lload 5, 2) := by decide +kernel
theorem d_Cs_withGround_24 : decode mm_Cs_withGround.2.1 24 = .ok (.lcmp, 1) := by decide +kernel
theorem d_Cs_withGround_25 : decode mm_Cs_withGround.2.1 25 = .ok (.ifCond .eq 51, 3) := by decide +kernel
theorem d_Cs_withGround_28 : decode mm_Cs_withGround.2.1 28 = .ok (.lload_n 3, 1) := by decide +kernel
theorem d_Cs_withGround_29 : decode mm_Cs_withGround.2.1 29 = .ok (.lstore 5, 2) := by decide +kernel
theorem d_Cs_withGround_31 : decode mm_Cs_withGround.2.1 31 = .ok (.iconst 0, 1) := by decide +kernel
theorem d_Cs_withGround_32 : decode mm_Cs_withGround.2.1 32 = .ok (.istore 8, 2) := by decide +kernel
theorem d_Cs_withGround_34 : decode mm_Cs_withGround.2.1 34 = .ok (.iload 8, 2) := by decide +kernel
theorem d_Cs_withGround_36 : decode mm_Cs_withGround.2.1 36 = .ok (.aload_n 0, 1) := by decide +kernel
theorem d_Cs_withGround_37 : decode mm_Cs_withGround.2.1 37 = .ok (.getfield 17, 3) := by decide +kernel
theorem d_Cs_withGround_40 : decode mm_Cs_withGround.2.1 40 = .ok (.if_icmp .ge 30, 3) := by decide +kernel
theorem d_Cs_withGround_43 : decode mm_Cs_withGround.2.1 43 = .ok (.lload_n 3, 1) := by decide +kernel
theorem d_Cs_withGround_44 : decode mm_Cs_withGround.2.1 44 = .ok (.lconst 1, 1) := by decide +kernel
theorem d_Cs_withGround_45 : decode mm_Cs_withGround.2.1 45 = .ok (.iload 8, 2) := by decide +kernel
theorem d_Cs_withGround_47 : decode mm_Cs_withGround.2.1 47 = .ok (.lshl, 1) := by decide +kernel
theorem d_Cs_withGround_48 : decode mm_Cs_withGround.2.1 48 = .ok (.land, 1) := by decide +kernel
theorem d_Cs_withGround_49 : decode mm_Cs_withGround.2.1 49 = .ok (.lconst 0, 1) := by decide +kernel
theorem d_Cs_withGround_50 : decode mm_Cs_withGround.2.1 50 = .ok (.lcmp, 1) := by decide +kernel
theorem d_Cs_withGround_51 : decode mm_Cs_withGround.2.1 51 = .ok (.ifCond .eq 13, 3) := by decide +kernel
theorem d_Cs_withGround_54 : decode mm_Cs_withGround.2.1 54 = .ok (.lload_n 3, 1) := by decide +kernel
theorem d_Cs_withGround_55 : decode mm_Cs_withGround.2.1 55 = .ok (.aload_n 0, 1) := by decide +kernel
theorem d_Cs_withGround_56 : decode mm_Cs_withGround.2.1 56 = .ok (.getfield 21, 3) := by decide +kernel
theorem d_Cs_withGround_59 : decode mm_Cs_withGround.2.1 59 = .ok (.iload 8, 2) := by decide +kernel
theorem d_Cs_withGround_61 : decode mm_Cs_withGround.2.1 61 = .ok (.laload, 1) := by decide +kernel
theorem d_Cs_withGround_62 : decode mm_Cs_withGround.2.1 62 = .ok (.lor, 1) := by decide +kernel
theorem d_Cs_withGround_63 : decode mm_Cs_withGround.2.1 63 = .ok (.lstore_n 3, 1) := by decide +kernel
theorem d_Cs_withGround_64 : decode mm_Cs_withGround.2.1 64 = .ok (.iinc 8 1, 3) := by decide +kernel
theorem d_Cs_withGround_67 : decode mm_Cs_withGround.2.1 67 = .ok (.goto (-33), 3) := by decide +kernel
theorem d_Cs_withGround_70 : decode mm_Cs_withGround.2.1 70 = .ok (.iinc 7 1, 3) := by decide +kernel
theorem d_Cs_withGround_73 : decode mm_Cs_withGround.2.1 73 = .ok (.goto (-61), 3) := by decide +kernel
theorem d_Cs_withGround_76 : decode mm_Cs_withGround.2.1 76 = .ok (.lload_n 3, 1) := by decide +kernel
theorem d_Cs_withGround_77 : decode mm_Cs_withGround.2.1 77 = .ok (.lreturn, 1) := by decide +kernel
theorem d_Cs_isStale_0 : decode mm_Cs_isStale.2.1 0 = .ok (.aload_n 1, 1) := by decide +kernel
theorem d_Cs_isStale_1 : decode mm_Cs_isStale.2.1 1 = .ok (.getfield 42, 3) := by decide +kernel
theorem d_Cs_isStale_4 : decode mm_Cs_isStale.2.1 4 = .ok (.ifCond .ne 5, 3) := by decide +kernel
theorem d_Cs_isStale_7 : decode mm_Cs_isStale.2.1 7 = .ok (.iconst 1, 1) := by decide +kernel
theorem d_Cs_isStale_8 : decode mm_Cs_isStale.2.1 8 = .ok (.ireturn, 1) := by decide +kernel
theorem d_Cs_isStale_9 : decode mm_Cs_isStale.2.1 9 = .ok (.aload_n 1, 1) := by decide +kernel
theorem d_Cs_isStale_10 : decode mm_Cs_isStale.2.1 10 = .ok (.getfield 46, 3) := by decide +kernel
theorem d_Cs_isStale_13 : decode mm_Cs_isStale.2.1 13 = .ok (.astore_n 2, 1) := by decide +kernel
theorem d_Cs_isStale_14 : decode mm_Cs_isStale.2.1 14 = .ok (.iconst 0, 1) := by decide +kernel
theorem d_Cs_isStale_15 : decode mm_Cs_isStale.2.1 15 = .ok (.istore_n 3, 1) := by decide +kernel
theorem d_Cs_isStale_16 : decode mm_Cs_isStale.2.1 16 = .ok (.iload_n 3, 1) := by decide +kernel
theorem d_Cs_isStale_17 : decode mm_Cs_isStale.2.1 17 = .ok (.aload_n 2, 1) := by decide +kernel
theorem d_Cs_isStale_18 : decode mm_Cs_isStale.2.1 18 = .ok (.getfield 50, 3) := by decide +kernel
theorem d_Cs_isStale_21 : decode mm_Cs_isStale.2.1 21 = .ok (.if_icmp .ge 54, 3) := by decide +kernel
theorem d_Cs_isStale_24 : decode mm_Cs_isStale.2.1 24 = .ok (.aload_n 0, 1) := by decide +kernel
theorem d_Cs_isStale_25 : decode mm_Cs_isStale.2.1 25 = .ok (.aload_n 2, 1) := by decide +kernel
theorem d_Cs_isStale_26 : decode mm_Cs_isStale.2.1 26 = .ok (.getfield 55, 3) := by decide +kernel
theorem d_Cs_isStale_29 : decode mm_Cs_isStale.2.1 29 = .ok (.iload_n 3, 1) := by decide +kernel
theorem d_Cs_isStale_30 : decode mm_Cs_isStale.2.1 30 = .ok (.laload, 1) := by decide +kernel
theorem d_Cs_isStale_31 : decode mm_Cs_isStale.2.1 31 = .ok (.invokevirtual 58, 3) := by decide +kernel
theorem d_Cs_isStale_34 : decode mm_Cs_isStale.2.1 34 = .ok (.astore 4, 2) := by decide +kernel
theorem d_Cs_isStale_36 : decode mm_Cs_isStale.2.1 36 = .ok (.aload_n 2, 1) := by decide +kernel
theorem d_Cs_isStale_37 : decode mm_Cs_isStale.2.1 37 = .ok (.getfield 62, 3) := by decide +kernel
theorem d_Cs_isStale_40 : decode mm_Cs_isStale.2.1 40 = .ok (.iload_n 3, 1) := by decide +kernel
theorem d_Cs_isStale_41 : decode mm_Cs_isStale.2.1 41 = .ok (.iaload, 1) := by decide +kernel
theorem d_Cs_isStale_42 : decode mm_Cs_isStale.2.1 42 = .ok (.aload_n 0, 1) := by decide +kernel
theorem d_Cs_isStale_43 : decode mm_Cs_isStale.2.1 43 = .ok (.aload 4, 2) := by decide +kernel
theorem d_Cs_isStale_45 : decode mm_Cs_isStale.2.1 45 = .ok (.invokevirtual 66, 3) := by decide +kernel
theorem d_Cs_isStale_48 : decode mm_Cs_isStale.2.1 48 = .ok (.if_icmp .ne 19, 3) := by decide +kernel
theorem d_Cs_isStale_51 : decode mm_Cs_isStale.2.1 51 = .ok (.aload_n 2, 1) := by decide +kernel
theorem d_Cs_isStale_52 : decode mm_Cs_isStale.2.1 52 = .ok (.getfield 70, 3) := by decide +kernel
theorem d_Cs_isStale_55 : decode mm_Cs_isStale.2.1 55 = .ok (.iload_n 3, 1) := by decide +kernel
theorem d_Cs_isStale_56 : decode mm_Cs_isStale.2.1 56 = .ok (.laload, 1) := by decide +kernel
theorem d_Cs_isStale_57 : decode mm_Cs_isStale.2.1 57 = .ok (.aload_n 0, 1) := by decide +kernel
theorem d_Cs_isStale_58 : decode mm_Cs_isStale.2.1 58 = .ok (.aload 4, 2) := by decide +kernel
theorem d_Cs_isStale_60 : decode mm_Cs_isStale.2.1 60 = .ok (.invokevirtual 73, 3) := by decide +kernel
theorem d_Cs_isStale_63 : decode mm_Cs_isStale.2.1 63 = .ok (.lcmp, 1) := by decide +kernel
theorem d_Cs_isStale_64 : decode mm_Cs_isStale.2.1 64 = .ok (.ifCond .eq 5, 3) := by decide +kernel
theorem d_Cs_isStale_67 : decode mm_Cs_isStale.2.1 67 = .ok (.iconst 1, 1) := by decide +kernel
theorem d_Cs_isStale_68 : decode mm_Cs_isStale.2.1 68 = .ok (.ireturn, 1) := by decide +kernel
theorem d_Cs_isStale_69 : decode mm_Cs_isStale.2.1 69 = .ok (.iinc 3 1, 3) := by decide +kernel
theorem d_Cs_isStale_72 : decode mm_Cs_isStale.2.1 72 = .ok (.goto (-56), 3) := by decide +kernel
theorem d_Cs_isStale_75 : decode mm_Cs_isStale.2.1 75 = .ok (.iconst 0, 1) := by decide +kernel
theorem d_Cs_isStale_76 : decode mm_Cs_isStale.2.1 76 = .ok (.ireturn, 1) := by decide +kernel
theorem d_Cs_kindOf_0 : decode mm_Cs_kindOf.2.1 0 = .ok (.aload_n 1, 1) := by decide +kernel
theorem d_Cs_kindOf_1 : decode mm_Cs_kindOf.2.1 1 = .ok (.ifnonnull 7, 3) := by decide +kernel
theorem d_Cs_kindOf_4 : decode mm_Cs_kindOf.2.1 4 = .ok (.iconst 0, 1) := by decide +kernel
theorem d_Cs_kindOf_5 : decode mm_Cs_kindOf.2.1 5 = .ok (.goto 7, 3) := by decide +kernel
theorem d_Cs_kindOf_8 : decode mm_Cs_kindOf.2.1 8 = .ok (.aload_n 1, 1) := by decide +kernel
theorem d_Cs_kindOf_9 : decode mm_Cs_kindOf.2.1 9 = .ok (.getfield 36, 3) := by decide +kernel
theorem d_Cs_kindOf_12 : decode mm_Cs_kindOf.2.1 12 = .ok (.ireturn, 1) := by decide +kernel
theorem d_Cs_valueOf_0 : decode mm_Cs_valueOf.2.1 0 = .ok (.aload_n 1, 1) := by decide +kernel
theorem d_Cs_valueOf_1 : decode mm_Cs_valueOf.2.1 1 = .ok (.ifnonnull 7, 3) := by decide +kernel
theorem d_Cs_valueOf_4 : decode mm_Cs_valueOf.2.1 4 = .ok (.lconst 0, 1) := by decide +kernel
theorem d_Cs_valueOf_5 : decode mm_Cs_valueOf.2.1 5 = .ok (.goto 7, 3) := by decide +kernel
theorem d_Cs_valueOf_8 : decode mm_Cs_valueOf.2.1 8 = .ok (.aload_n 1, 1) := by decide +kernel
theorem d_Cs_valueOf_9 : decode mm_Cs_valueOf.2.1 9 = .ok (.getfield 39, 3) := by decide +kernel
theorem d_Cs_valueOf_12 : decode mm_Cs_valueOf.2.1 12 = .ok (.lreturn, 1) := by decide +kernel
theorem d_Bd_workOut_0 : decode mm_Bd_workOut.2.1 0 = .ok (.aload_n 1, 1) := by decide +kernel
theorem d_Bd_workOut_1 : decode mm_Bd_workOut.2.1 1 = .ok (.aload_n 2, 1) := by decide +kernel
theorem d_Bd_workOut_2 : decode mm_Bd_workOut.2.1 2 = .ok (.getfield 59, 3) := by decide +kernel
theorem d_Bd_workOut_5 : decode mm_Bd_workOut.2.1 5 = .ok (.invokevirtual 65, 3) := by decide +kernel
theorem d_Bd_workOut_8 : decode mm_Bd_workOut.2.1 8 = .ok (.aload_n 0, 1) := by decide +kernel
theorem d_Bd_workOut_9 : decode mm_Bd_workOut.2.1 9 = .ok (.getfield 12, 3) := by decide +kernel
theorem d_Bd_workOut_12 : decode mm_Bd_workOut.2.1 12 = .ok (.aload_n 2, 1) := by decide +kernel
theorem d_Bd_workOut_13 : decode mm_Bd_workOut.2.1 13 = .ok (.getfield 59, 3) := by decide +kernel
theorem d_Bd_workOut_16 : decode mm_Bd_workOut.2.1 16 = .ok (.invokevirtual 69, 3) := by decide +kernel
theorem d_Bd_workOut_19 : decode mm_Bd_workOut.2.1 19 = .ok (.aload_n 2, 1) := by decide +kernel
theorem d_Bd_workOut_20 : decode mm_Bd_workOut.2.1 20 = .ok (.aload_n 0, 1) := by decide +kernel
theorem d_Bd_workOut_21 : decode mm_Bd_workOut.2.1 21 = .ok (.getfield 12, 3) := by decide +kernel
theorem d_Bd_workOut_24 : decode mm_Bd_workOut.2.1 24 = .ok (.getfield 72, 3) := by decide +kernel
theorem d_Bd_workOut_27 : decode mm_Bd_workOut.2.1 27 = .ok (.putfield 75, 3) := by decide +kernel
theorem d_Bd_workOut_30 : decode mm_Bd_workOut.2.1 30 = .ok (.aload_n 2, 1) := by decide +kernel
theorem d_Bd_workOut_31 : decode mm_Bd_workOut.2.1 31 = .ok (.aload_n 0, 1) := by decide +kernel
theorem d_Bd_workOut_32 : decode mm_Bd_workOut.2.1 32 = .ok (.getfield 12, 3) := by decide +kernel
theorem d_Bd_workOut_35 : decode mm_Bd_workOut.2.1 35 = .ok (.getfield 76, 3) := by decide +kernel
theorem d_Bd_workOut_38 : decode mm_Bd_workOut.2.1 38 = .ok (.putfield 80, 3) := by decide +kernel
theorem d_Bd_workOut_41 : decode mm_Bd_workOut.2.1 41 = .ok (.aload_n 2, 1) := by decide +kernel
theorem d_Bd_workOut_42 : decode mm_Bd_workOut.2.1 42 = .ok (.iconst 1, 1) := by decide +kernel
theorem d_Bd_workOut_43 : decode mm_Bd_workOut.2.1 43 = .ok (.putfield 81, 3) := by decide +kernel
theorem d_Bd_workOut_46 : decode mm_Bd_workOut.2.1 46 = .ok (.return_, 1) := by decide +kernel
theorem d_Cs_look_0 : decode mm_Cs_look.2.1 0 = .ok (.iconst 0, 1) := by decide +kernel
theorem d_Cs_look_1 : decode mm_Cs_look.2.1 1 = .ok (.istore_n 2, 1) := by decide +kernel
theorem d_Cs_look_2 : decode mm_Cs_look.2.1 2 = .ok (.iload_n 2, 1) := by decide +kernel
theorem d_Cs_look_3 : decode mm_Cs_look.2.1 3 = .ok (.aload_n 1, 1) := by decide +kernel
theorem d_Cs_look_4 : decode mm_Cs_look.2.1 4 = .ok (.getfield 50, 3) := by decide +kernel
theorem d_Cs_look_7 : decode mm_Cs_look.2.1 7 = .ok (.if_icmp .ge 42, 3) := by decide +kernel
theorem d_Cs_look_10 : decode mm_Cs_look.2.1 10 = .ok (.aload_n 0, 1) := by decide +kernel
theorem d_Cs_look_11 : decode mm_Cs_look.2.1 11 = .ok (.aload_n 1, 1) := by decide +kernel
theorem d_Cs_look_12 : decode mm_Cs_look.2.1 12 = .ok (.getfield 55, 3) := by decide +kernel
theorem d_Cs_look_15 : decode mm_Cs_look.2.1 15 = .ok (.iload_n 2, 1) := by decide +kernel
theorem d_Cs_look_16 : decode mm_Cs_look.2.1 16 = .ok (.laload, 1) := by decide +kernel
theorem d_Cs_look_17 : decode mm_Cs_look.2.1 17 = .ok (.invokevirtual 58, 3) := by decide +kernel
theorem d_Cs_look_20 : decode mm_Cs_look.2.1 20 = .ok (.astore_n 3, 1) := by decide +kernel
theorem d_Cs_look_21 : decode mm_Cs_look.2.1 21 = .ok (.aload_n 1, 1) := by decide +kernel
theorem d_Cs_look_22 : decode mm_Cs_look.2.1 22 = .ok (.getfield 62, 3) := by decide +kernel
theorem d_Cs_look_25 : decode mm_Cs_look.2.1 25 = .ok (.iload_n 2, 1) := by decide +kernel
theorem d_Cs_look_26 : decode mm_Cs_look.2.1 26 = .ok (.aload_n 0, 1) := by decide +kernel
theorem d_Cs_look_27 : decode mm_Cs_look.2.1 27 = .ok (.aload_n 3, 1) := by decide +kernel
theorem d_Cs_look_28 : decode mm_Cs_look.2.1 28 = .ok (.invokevirtual 66, 3) := by decide +kernel
theorem d_Cs_look_31 : decode mm_Cs_look.2.1 31 = .ok (.iastore, 1) := by decide +kernel
theorem d_Cs_look_32 : decode mm_Cs_look.2.1 32 = .ok (.aload_n 1, 1) := by decide +kernel
theorem d_Cs_look_33 : decode mm_Cs_look.2.1 33 = .ok (.getfield 70, 3) := by decide +kernel
theorem d_Cs_look_36 : decode mm_Cs_look.2.1 36 = .ok (.iload_n 2, 1) := by decide +kernel
theorem d_Cs_look_37 : decode mm_Cs_look.2.1 37 = .ok (.aload_n 0, 1) := by decide +kernel
theorem d_Cs_look_38 : decode mm_Cs_look.2.1 38 = .ok (.aload_n 3, 1) := by decide +kernel
theorem d_Cs_look_39 : decode mm_Cs_look.2.1 39 = .ok (.invokevirtual 73, 3) := by decide +kernel
theorem d_Cs_look_42 : decode mm_Cs_look.2.1 42 = .ok (.lastore, 1) := by decide +kernel
theorem d_Cs_look_43 : decode mm_Cs_look.2.1 43 = .ok (.iinc 2 1, 3) := by decide +kernel
theorem d_Cs_look_46 : decode mm_Cs_look.2.1 46 = .ok (.goto (-44), 3) := by decide +kernel
theorem d_Cs_look_49 : decode mm_Cs_look.2.1 49 = .ok (.return_, 1) := by decide +kernel
theorem d_Wk_run_0 : decode mm_Wk_run.2.1 0 = .ok (.aload_n 0, 1) := by decide +kernel
theorem d_Wk_run_1 : decode mm_Wk_run.2.1 1 = .ok (.iconst 0, 1) := by decide +kernel
theorem d_Wk_run_2 : decode mm_Wk_run.2.1 2 = .ok (.putfield 15, 3) := by decide +kernel
theorem d_Wk_run_5 : decode mm_Wk_run.2.1 5 = .ok (.aload_n 0, 1) := by decide +kernel
theorem d_Wk_run_6 : decode mm_Wk_run.2.1 6 = .ok (.iconst 1, 1) := by decide +kernel
theorem d_Wk_run_7 : decode mm_Wk_run.2.1 7 = .ok (.putfield 19, 3) := by decide +kernel
theorem d_Wk_run_10 : decode mm_Wk_run.2.1 10 = .ok (.iconst 0, 1) := by decide +kernel
theorem d_Wk_run_11 : decode mm_Wk_run.2.1 11 = .ok (.istore_n 2, 1) := by decide +kernel
theorem d_Wk_run_12 : decode mm_Wk_run.2.1 12 = .ok (.iconst 0, 1) := by decide +kernel
theorem d_Wk_run_13 : decode mm_Wk_run.2.1 13 = .ok (.istore_n 3, 1) := by decide +kernel
theorem d_Wk_run_14 : decode mm_Wk_run.2.1 14 = .ok (.iload_n 3, 1) := by decide +kernel
theorem d_Wk_run_15 : decode mm_Wk_run.2.1 15 = .ok (.aload_n 1, 1) := by decide +kernel
theorem d_Wk_run_16 : decode mm_Wk_run.2.1 16 = .ok (.getfield 26, 3) := by decide +kernel
theorem d_Wk_run_19 : decode mm_Wk_run.2.1 19 = .ok (.if_icmp .ge 43, 3) := by decide +kernel
theorem d_Wk_run_22 : decode mm_Wk_run.2.1 22 = .ok (.aload_n 0, 1) := by decide +kernel
theorem d_Wk_run_23 : decode mm_Wk_run.2.1 23 = .ok (.getfield 19, 3) := by decide +kernel
theorem d_Wk_run_26 : decode mm_Wk_run.2.1 26 = .ok (.iconst 1, 1) := by decide +kernel
theorem d_Wk_run_27 : decode mm_Wk_run.2.1 27 = .ok (.if_icmp .ne 35, 3) := by decide +kernel
theorem d_Wk_run_30 : decode mm_Wk_run.2.1 30 = .ok (.iload_n 3, 1) := by decide +kernel
theorem d_Wk_run_31 : decode mm_Wk_run.2.1 31 = .ok (.iload_n 2, 1) := by decide +kernel
theorem d_Wk_run_32 : decode mm_Wk_run.2.1 32 = .ok (.if_icmp .lt 24, 3) := by decide +kernel
theorem d_Wk_run_35 : decode mm_Wk_run.2.1 35 = .ok (.aload_n 0, 1) := by decide +kernel
theorem d_Wk_run_36 : decode mm_Wk_run.2.1 36 = .ok (.aload_n 1, 1) := by decide +kernel
theorem d_Wk_run_37 : decode mm_Wk_run.2.1 37 = .ok (.aload_n 1, 1) := by decide +kernel
theorem d_Wk_run_38 : decode mm_Wk_run.2.1 38 = .ok (.getfield 31, 3) := by decide +kernel
theorem d_Wk_run_41 : decode mm_Wk_run.2.1 41 = .ok (.iload_n 3, 1) := by decide +kernel
theorem d_Wk_run_42 : decode mm_Wk_run.2.1 42 = .ok (.iaload, 1) := by decide +kernel
theorem d_Wk_run_43 : decode mm_Wk_run.2.1 43 = .ok (.aload_n 1, 1) := by decide +kernel
theorem d_Wk_run_44 : decode mm_Wk_run.2.1 44 = .ok (.getfield 35, 3) := by decide +kernel
theorem d_Wk_run_47 : decode mm_Wk_run.2.1 47 = .ok (.iload_n 3, 1) := by decide +kernel
theorem d_Wk_run_48 : decode mm_Wk_run.2.1 48 = .ok (.iaload, 1) := by decide +kernel
theorem d_Wk_run_49 : decode mm_Wk_run.2.1 49 = .ok (.iload_n 3, 1) := by decide +kernel
theorem d_Wk_run_50 : decode mm_Wk_run.2.1 50 = .ok (.iconst 1, 1) := by decide +kernel
theorem d_Wk_run_51 : decode mm_Wk_run.2.1 51 = .ok (.iadd, 1) := by decide +kernel
theorem d_Wk_run_52 : decode mm_Wk_run.2.1 52 = .ok (.invokevirtual 38, 3) := by decide +kernel
theorem d_Wk_run_55 : decode mm_Wk_run.2.1 55 = .ok (.istore_n 2, 1) := by decide +kernel
theorem d_Wk_run_56 : decode mm_Wk_run.2.1 56 = .ok (.iinc 3 1, 3) := by decide +kernel
theorem d_Wk_run_59 : decode mm_Wk_run.2.1 59 = .ok (.goto (-45), 3) := by decide +kernel
theorem d_Wk_run_62 : decode mm_Wk_run.2.1 62 = .ok (.aload_n 0, 1) := by decide +kernel
theorem d_Wk_run_63 : decode mm_Wk_run.2.1 63 = .ok (.aload_n 0, 1) := by decide +kernel
theorem d_Wk_run_64 : decode mm_Wk_run.2.1 64 = .ok (.getfield 19, 3) := by decide +kernel
theorem d_Wk_run_67 : decode mm_Wk_run.2.1 67 = .ok (.iconst 1, 1) := by decide +kernel
theorem d_Wk_run_68 : decode mm_Wk_run.2.1 68 = .ok (.if_icmp .ne 10, 3) := by decide +kernel
theorem d_Wk_run_71 : decode mm_Wk_run.2.1 71 = .ok (.aload_n 0, 1) := by decide +kernel
theorem d_Wk_run_72 : decode mm_Wk_run.2.1 72 = .ok (.invokevirtual 42, 3) := by decide +kernel
theorem d_Wk_run_75 : decode mm_Wk_run.2.1 75 = .ok (.goto 4, 3) := by decide +kernel
theorem d_Wk_run_78 : decode mm_Wk_run.2.1 78 = .ok (.lconst 0, 1) := by decide +kernel
theorem d_Wk_run_79 : decode mm_Wk_run.2.1 79 = .ok (.putfield 22, 3) := by decide +kernel
theorem d_Wk_run_82 : decode mm_Wk_run.2.1 82 = .ok (.return_, 1) := by decide +kernel
theorem d_Wk_take_0 : decode mm_Wk_take.2.1 0 = .ok (.iload_n 2, 1) := by decide +kernel
theorem d_Wk_take_1 : decode mm_Wk_take.2.1 1 = .ok (.tableswitch 95 2 9 #[56, 47, 95, 95, 95, 65, 77, 93], 47) := by decide +kernel
theorem d_Wk_take_48 : decode mm_Wk_take.2.1 48 = .ok (.aload_n 0, 1) := by decide +kernel
theorem d_Wk_take_49 : decode mm_Wk_take.2.1 49 = .ok (.iload_n 3, 1) := by decide +kernel
theorem d_Wk_take_50 : decode mm_Wk_take.2.1 50 = .ok (.i2l, 1) := by decide +kernel
theorem d_Wk_take_51 : decode mm_Wk_take.2.1 51 = .ok (.invokevirtual 46, 3) := by decide +kernel
theorem d_Wk_take_54 : decode mm_Wk_take.2.1 54 = .ok (.iload 4, 2) := by decide +kernel
theorem d_Wk_take_56 : decode mm_Wk_take.2.1 56 = .ok (.ireturn, 1) := by decide +kernel
theorem d_Wk_take_57 : decode mm_Wk_take.2.1 57 = .ok (.aload_n 0, 1) := by decide +kernel
theorem d_Wk_take_58 : decode mm_Wk_take.2.1 58 = .ok (.aload_n 1, 1) := by decide +kernel
theorem d_Wk_take_59 : decode mm_Wk_take.2.1 59 = .ok (.iload_n 3, 1) := by decide +kernel
theorem d_Wk_take_60 : decode mm_Wk_take.2.1 60 = .ok (.invokevirtual 50, 3) := by decide +kernel
theorem d_Wk_take_63 : decode mm_Wk_take.2.1 63 = .ok (.iload 4, 2) := by decide +kernel
theorem d_Wk_take_65 : decode mm_Wk_take.2.1 65 = .ok (.ireturn, 1) := by decide +kernel
theorem d_Wk_take_66 : decode mm_Wk_take.2.1 66 = .ok (.aload_n 0, 1) := by decide +kernel
theorem d_Wk_take_67 : decode mm_Wk_take.2.1 67 = .ok (.aload_n 0, 1) := by decide +kernel
theorem d_Wk_take_68 : decode mm_Wk_take.2.1 68 = .ok (.invokevirtual 42, 3) := by decide +kernel
theorem d_Wk_take_71 : decode mm_Wk_take.2.1 71 = .ok (.lneg, 1) := by decide +kernel
theorem d_Wk_take_72 : decode mm_Wk_take.2.1 72 = .ok (.invokevirtual 46, 3) := by decide +kernel
theorem d_Wk_take_75 : decode mm_Wk_take.2.1 75 = .ok (.iload 4, 2) := by decide +kernel
theorem d_Wk_take_77 : decode mm_Wk_take.2.1 77 = .ok (.ireturn, 1) := by decide +kernel
theorem d_Wk_take_78 : decode mm_Wk_take.2.1 78 = .ok (.aload_n 0, 1) := by decide +kernel
theorem d_Wk_take_79 : decode mm_Wk_take.2.1 79 = .ok (.invokevirtual 42, 3) := by decide +kernel
theorem d_Wk_take_82 : decode mm_Wk_take.2.1 82 = .ok (.lconst 0, 1) := by decide +kernel
theorem d_Wk_take_83 : decode mm_Wk_take.2.1 83 = .ok (.lcmp, 1) := by decide +kernel
theorem d_Wk_take_84 : decode mm_Wk_take.2.1 84 = .ok (.ifCond .le 8, 3) := by decide +kernel
theorem d_Wk_take_87 : decode mm_Wk_take.2.1 87 = .ok (.iload 4, 2) := by decide +kernel
theorem d_Wk_take_89 : decode mm_Wk_take.2.1 89 = .ok (.goto 4, 3) := by decide +kernel
theorem d_Wk_take_92 : decode mm_Wk_take.2.1 92 = .ok (.iload_n 3, 1) := by decide +kernel
theorem d_Wk_take_93 : decode mm_Wk_take.2.1 93 = .ok (.ireturn, 1) := by decide +kernel
theorem d_Wk_take_94 : decode mm_Wk_take.2.1 94 = .ok (.iload_n 3, 1) := by decide +kernel
theorem d_Wk_take_95 : decode mm_Wk_take.2.1 95 = .ok (.ireturn, 1) := by decide +kernel
theorem d_Wk_take_96 : decode mm_Wk_take.2.1 96 = .ok (.aload_n 0, 1) := by decide +kernel
theorem d_Wk_take_97 : decode mm_Wk_take.2.1 97 = .ok (.invokevirtual 42, 3) := by decide +kernel
theorem d_Wk_take_100 : decode mm_Wk_take.2.1 100 = .ok (.lstore 5, 2) := by decide +kernel
theorem d_Wk_take_102 : decode mm_Wk_take.2.1 102 = .ok (.aload_n 0, 1) := by decide +kernel
theorem d_Wk_take_103 : decode mm_Wk_take.2.1 103 = .ok (.invokevirtual 42, 3) := by decide +kernel
theorem d_Wk_take_106 : decode mm_Wk_take.2.1 106 = .ok (.lstore 7, 2) := by decide +kernel
theorem d_Wk_take_108 : decode mm_Wk_take.2.1 108 = .ok (.aload_n 0, 1) := by decide +kernel
theorem d_Wk_take_109 : decode mm_Wk_take.2.1 109 = .ok (.iload_n 2, 1) := by decide +kernel
theorem d_Wk_take_110 : decode mm_Wk_take.2.1 110 = .ok (.lload 7, 2) := by decide +kernel
theorem d_Wk_take_112 : decode mm_Wk_take.2.1 112 = .ok (.lload 5, 2) := by decide +kernel
theorem d_Wk_take_114 : decode mm_Wk_take.2.1 114 = .ok (.invokevirtual 54, 3) := by decide +kernel
theorem d_Wk_take_117 : decode mm_Wk_take.2.1 117 = .ok (.iload 4, 2) := by decide +kernel
theorem d_Wk_take_119 : decode mm_Wk_take.2.1 119 = .ok (.ireturn, 1) := by decide +kernel
theorem d_Wk_push_0 : decode mm_Wk_push.2.1 0 = .ok (.aload_n 0, 1) := by decide +kernel
theorem d_Wk_push_1 : decode mm_Wk_push.2.1 1 = .ok (.getfield 15, 3) := by decide +kernel
theorem d_Wk_push_4 : decode mm_Wk_push.2.1 4 = .ok (.ifCond .lt 35, 3) := by decide +kernel
theorem d_Wk_push_7 : decode mm_Wk_push.2.1 7 = .ok (.aload_n 0, 1) := by decide +kernel
theorem d_Wk_push_8 : decode mm_Wk_push.2.1 8 = .ok (.getfield 15, 3) := by decide +kernel
theorem d_Wk_push_11 : decode mm_Wk_push.2.1 11 = .ok (.aload_n 0, 1) := by decide +kernel
theorem d_Wk_push_12 : decode mm_Wk_push.2.1 12 = .ok (.getfield 9, 3) := by decide +kernel
theorem d_Wk_push_15 : decode mm_Wk_push.2.1 15 = .ok (.arraylength, 1) := by decide +kernel
theorem d_Wk_push_16 : decode mm_Wk_push.2.1 16 = .ok (.if_icmp .ge 23, 3) := by decide +kernel
theorem d_Wk_push_19 : decode mm_Wk_push.2.1 19 = .ok (.aload_n 0, 1) := by decide +kernel
theorem d_Wk_push_20 : decode mm_Wk_push.2.1 20 = .ok (.getfield 9, 3) := by decide +kernel
theorem d_Wk_push_23 : decode mm_Wk_push.2.1 23 = .ok (.aload_n 0, 1) := by decide +kernel
theorem d_Wk_push_24 : decode mm_Wk_push.2.1 24 = .ok (.getfield 15, 3) := by decide +kernel
theorem d_Wk_push_27 : decode mm_Wk_push.2.1 27 = .ok (.lload_n 1, 1) := by decide +kernel
theorem d_Wk_push_28 : decode mm_Wk_push.2.1 28 = .ok (.lastore, 1) := by decide +kernel
theorem d_Wk_push_29 : decode mm_Wk_push.2.1 29 = .ok (.aload_n 0, 1) := by decide +kernel
theorem d_Wk_push_30 : decode mm_Wk_push.2.1 30 = .ok (.dup, 1) := by decide +kernel
theorem d_Wk_push_31 : decode mm_Wk_push.2.1 31 = .ok (.getfield 15, 3) := by decide +kernel
theorem d_Wk_push_34 : decode mm_Wk_push.2.1 34 = .ok (.iconst 1, 1) := by decide +kernel
theorem d_Wk_push_35 : decode mm_Wk_push.2.1 35 = .ok (.iadd, 1) := by decide +kernel
theorem d_Wk_push_36 : decode mm_Wk_push.2.1 36 = .ok (.putfield 15, 3) := by decide +kernel
theorem d_Wk_push_39 : decode mm_Wk_push.2.1 39 = .ok (.return_, 1) := by decide +kernel
theorem d_Wk_pushResult_0 : decode mm_Wk_pushResult.2.1 0 = .ok (.iload_n 2, 1) := by decide +kernel
theorem d_Wk_pushResult_1 : decode mm_Wk_pushResult.2.1 1 = .ok (.ifCond .lt 21, 3) := by decide +kernel
theorem d_Wk_pushResult_4 : decode mm_Wk_pushResult.2.1 4 = .ok (.iload_n 2, 1) := by decide +kernel
theorem d_Wk_pushResult_5 : decode mm_Wk_pushResult.2.1 5 = .ok (.aload_n 1, 1) := by decide +kernel
theorem d_Wk_pushResult_6 : decode mm_Wk_pushResult.2.1 6 = .ok (.getfield 58, 3) := by decide +kernel
theorem d_Wk_pushResult_9 : decode mm_Wk_pushResult.2.1 9 = .ok (.if_icmp .ge 13, 3) := by decide +kernel
theorem d_Wk_pushResult_12 : decode mm_Wk_pushResult.2.1 12 = .ok (.aload_n 1, 1) := by decide +kernel
theorem d_Wk_pushResult_13 : decode mm_Wk_pushResult.2.1 13 = .ok (.getfield 61, 3) := by decide +kernel
theorem d_Wk_pushResult_16 : decode mm_Wk_pushResult.2.1 16 = .ok (.iload_n 2, 1) := by decide +kernel
theorem d_Wk_pushResult_17 : decode mm_Wk_pushResult.2.1 17 = .ok (.iaload, 1) := by decide +kernel
theorem d_Wk_pushResult_18 : decode mm_Wk_pushResult.2.1 18 = .ok (.iconst 1, 1) := by decide +kernel
theorem d_Wk_pushResult_19 : decode mm_Wk_pushResult.2.1 19 = .ok (.if_icmp .eq 9, 3) := by decide +kernel
theorem d_Wk_pushResult_22 : decode mm_Wk_pushResult.2.1 22 = .ok (.aload_n 0, 1) := by decide +kernel
theorem d_Wk_pushResult_23 : decode mm_Wk_pushResult.2.1 23 = .ok (.iconst 3, 1) := by decide +kernel
theorem d_Wk_pushResult_24 : decode mm_Wk_pushResult.2.1 24 = .ok (.putfield 19, 3) := by decide +kernel
theorem d_Wk_pushResult_27 : decode mm_Wk_pushResult.2.1 27 = .ok (.return_, 1) := by decide +kernel
theorem d_Wk_pushResult_28 : decode mm_Wk_pushResult.2.1 28 = .ok (.aload_n 0, 1) := by decide +kernel
theorem d_Wk_pushResult_29 : decode mm_Wk_pushResult.2.1 29 = .ok (.aload_n 1, 1) := by decide +kernel
theorem d_Wk_pushResult_30 : decode mm_Wk_pushResult.2.1 30 = .ok (.getfield 64, 3) := by decide +kernel
theorem d_Wk_pushResult_33 : decode mm_Wk_pushResult.2.1 33 = .ok (.iload_n 2, 1) := by decide +kernel
theorem d_Wk_pushResult_34 : decode mm_Wk_pushResult.2.1 34 = .ok (.laload, 1) := by decide +kernel
theorem d_Wk_pushResult_35 : decode mm_Wk_pushResult.2.1 35 = .ok (.invokevirtual 46, 3) := by decide +kernel
theorem d_Wk_pushResult_38 : decode mm_Wk_pushResult.2.1 38 = .ok (.return_, 1) := by decide +kernel
theorem d_Wk_pop_0 : decode mm_Wk_pop.2.1 0 = .ok (.aload_n 0, 1) := by decide +kernel
theorem d_Wk_pop_1 : decode mm_Wk_pop.2.1 1 = .ok (.getfield 15, 3) := by decide +kernel
theorem d_Wk_pop_4 : decode mm_Wk_pop.2.1 4 = .ok (.ifCond .le 15, 3) := by decide +kernel
theorem d_Wk_pop_7 : decode mm_Wk_pop.2.1 7 = .ok (.aload_n 0, 1) := by decide +kernel
theorem d_Wk_pop_8 : decode mm_Wk_pop.2.1 8 = .ok (.getfield 15, 3) := by decide +kernel
theorem d_Wk_pop_11 : decode mm_Wk_pop.2.1 11 = .ok (.aload_n 0, 1) := by decide +kernel
theorem d_Wk_pop_12 : decode mm_Wk_pop.2.1 12 = .ok (.getfield 9, 3) := by decide +kernel
theorem d_Wk_pop_15 : decode mm_Wk_pop.2.1 15 = .ok (.arraylength, 1) := by decide +kernel
theorem d_Wk_pop_16 : decode mm_Wk_pop.2.1 16 = .ok (.if_icmp .le 5, 3) := by decide +kernel
theorem d_Wk_pop_19 : decode mm_Wk_pop.2.1 19 = .ok (.lconst 0, 1) := by decide +kernel
theorem d_Wk_pop_20 : decode mm_Wk_pop.2.1 20 = .ok (.lreturn, 1) := by decide +kernel
theorem d_Wk_pop_21 : decode mm_Wk_pop.2.1 21 = .ok (.aload_n 0, 1) := by decide +kernel
theorem d_Wk_pop_22 : decode mm_Wk_pop.2.1 22 = .ok (.dup, 1) := by decide +kernel
theorem d_Wk_pop_23 : decode mm_Wk_pop.2.1 23 = .ok (.getfield 15, 3) := by decide +kernel
theorem d_Wk_pop_26 : decode mm_Wk_pop.2.1 26 = .ok (.iconst 1, 1) := by decide +kernel
theorem d_Wk_pop_27 : decode mm_Wk_pop.2.1 27 = .ok (.isub, 1) := by decide +kernel
theorem d_Wk_pop_28 : decode mm_Wk_pop.2.1 28 = .ok (.putfield 15, 3) := by decide +kernel
theorem d_Wk_pop_31 : decode mm_Wk_pop.2.1 31 = .ok (.aload_n 0, 1) := by decide +kernel
theorem d_Wk_pop_32 : decode mm_Wk_pop.2.1 32 = .ok (.getfield 9, 3) := by decide +kernel
theorem d_Wk_pop_35 : decode mm_Wk_pop.2.1 35 = .ok (.aload_n 0, 1) := by decide +kernel
theorem d_Wk_pop_36 : decode mm_Wk_pop.2.1 36 = .ok (.getfield 15, 3) := by decide +kernel
theorem d_Wk_pop_39 : decode mm_Wk_pop.2.1 39 = .ok (.laload, 1) := by decide +kernel
theorem d_Wk_pop_40 : decode mm_Wk_pop.2.1 40 = .ok (.lreturn, 1) := by decide +kernel
theorem d_Wk_join_0 : decode mm_Wk_join.2.1 0 = .ok (.iload_n 1, 1) := by decide +kernel
theorem d_Wk_join_1 : decode mm_Wk_join.2.1 1 = .ok (.lookupswitch 97 #[(4, 86), (42, 69), (43, 51), (45, 60), (47, 78)], 51) := by decide +kernel
theorem d_Wk_join_52 : decode mm_Wk_join.2.1 52 = .ok (.aload_n 0, 1) := by decide +kernel
theorem d_Wk_join_53 : decode mm_Wk_join.2.1 53 = .ok (.lload_n 2, 1) := by decide +kernel
theorem d_Wk_join_54 : decode mm_Wk_join.2.1 54 = .ok (.lload 4, 2) := by decide +kernel
theorem d_Wk_join_56 : decode mm_Wk_join.2.1 56 = .ok (.ladd, 1) := by decide +kernel
theorem d_Wk_join_57 : decode mm_Wk_join.2.1 57 = .ok (.invokevirtual 46, 3) := by decide +kernel
theorem d_Wk_join_60 : decode mm_Wk_join.2.1 60 = .ok (.return_, 1) := by decide +kernel
theorem d_Wk_join_61 : decode mm_Wk_join.2.1 61 = .ok (.aload_n 0, 1) := by decide +kernel
theorem d_Wk_join_62 : decode mm_Wk_join.2.1 62 = .ok (.lload_n 2, 1) := by decide +kernel
theorem d_Wk_join_63 : decode mm_Wk_join.2.1 63 = .ok (.lload 4, 2) := by decide +kernel
theorem d_Wk_join_65 : decode mm_Wk_join.2.1 65 = .ok (.lsub, 1) := by decide +kernel
theorem d_Wk_join_66 : decode mm_Wk_join.2.1 66 = .ok (.invokevirtual 46, 3) := by decide +kernel
theorem d_Wk_join_69 : decode mm_Wk_join.2.1 69 = .ok (.return_, 1) := by decide +kernel
theorem d_Wk_join_70 : decode mm_Wk_join.2.1 70 = .ok (.aload_n 0, 1) := by decide +kernel
theorem d_Wk_join_71 : decode mm_Wk_join.2.1 71 = .ok (.lload_n 2, 1) := by decide +kernel
theorem d_Wk_join_72 : decode mm_Wk_join.2.1 72 = .ok (.lload 4, 2) := by decide +kernel
theorem d_Wk_join_74 : decode mm_Wk_join.2.1 74 = .ok (.lmul, 1) := by decide +kernel
theorem d_Wk_join_75 : decode mm_Wk_join.2.1 75 = .ok (.invokevirtual 46, 3) := by decide +kernel
theorem d_Wk_join_78 : decode mm_Wk_join.2.1 78 = .ok (.return_, 1) := by decide +kernel
theorem d_Wk_join_79 : decode mm_Wk_join.2.1 79 = .ok (.aload_n 0, 1) := by decide +kernel
theorem d_Wk_join_80 : decode mm_Wk_join.2.1 80 = .ok (.lload_n 2, 1) := by decide +kernel
theorem d_Wk_join_81 : decode mm_Wk_join.2.1 81 = .ok (.lload 4, 2) := by decide +kernel
theorem d_Wk_join_83 : decode mm_Wk_join.2.1 83 = .ok (.invokevirtual 67, 3) := by decide +kernel
theorem d_Wk_join_86 : decode mm_Wk_join.2.1 86 = .ok (.return_, 1) := by decide +kernel
theorem d_Wk_join_87 : decode mm_Wk_join.2.1 87 = .ok (.aload_n 0, 1) := by decide +kernel
theorem d_Wk_join_88 : decode mm_Wk_join.2.1 88 = .ok (.lload_n 2, 1) := by decide +kernel
theorem d_Wk_join_89 : decode mm_Wk_join.2.1 89 = .ok (.lload 4, 2) := by decide +kernel
theorem d_Wk_join_91 : decode mm_Wk_join.2.1 91 = .ok (.invokestatic 71, 3) := by decide +kernel
theorem d_Wk_join_94 : decode mm_Wk_join.2.1 94 = .ok (.invokevirtual 46, 3) := by decide +kernel
theorem d_Wk_join_97 : decode mm_Wk_join.2.1 97 = .ok (.return_, 1) := by decide +kernel
theorem d_Wk_join_98 : decode mm_Wk_join.2.1 98 = .ok (.aload_n 0, 1) := by decide +kernel
theorem d_Wk_join_99 : decode mm_Wk_join.2.1 99 = .ok (.lload_n 2, 1) := by decide +kernel
theorem d_Wk_join_100 : decode mm_Wk_join.2.1 100 = .ok (.lload 4, 2) := by decide +kernel
theorem d_Wk_join_102 : decode mm_Wk_join.2.1 102 = .ok (.invokestatic 77, 3) := by decide +kernel
theorem d_Wk_join_105 : decode mm_Wk_join.2.1 105 = .ok (.invokevirtual 46, 3) := by decide +kernel
theorem d_Wk_join_108 : decode mm_Wk_join.2.1 108 = .ok (.return_, 1) := by decide +kernel
theorem d_Wk_divide_0 : decode mm_Wk_divide.2.1 0 = .ok (.lload_n 3, 1) := by decide +kernel
theorem d_Wk_divide_1 : decode mm_Wk_divide.2.1 1 = .ok (.lconst 0, 1) := by decide +kernel
theorem d_Wk_divide_2 : decode mm_Wk_divide.2.1 2 = .ok (.lcmp, 1) := by decide +kernel
theorem d_Wk_divide_3 : decode mm_Wk_divide.2.1 3 = .ok (.ifCond .ne 9, 3) := by decide +kernel
theorem d_Wk_divide_6 : decode mm_Wk_divide.2.1 6 = .ok (.aload_n 0, 1) := by decide +kernel
theorem d_Wk_divide_7 : decode mm_Wk_divide.2.1 7 = .ok (.iconst 2, 1) := by decide +kernel
theorem d_Wk_divide_8 : decode mm_Wk_divide.2.1 8 = .ok (.putfield 19, 3) := by decide +kernel
theorem d_Wk_divide_11 : decode mm_Wk_divide.2.1 11 = .ok (.return_, 1) := by decide +kernel
theorem d_Wk_divide_12 : decode mm_Wk_divide.2.1 12 = .ok (.aload_n 0, 1) := by decide +kernel
theorem d_Wk_divide_13 : decode mm_Wk_divide.2.1 13 = .ok (.lload_n 1, 1) := by decide +kernel
theorem d_Wk_divide_14 : decode mm_Wk_divide.2.1 14 = .ok (.lload_n 3, 1) := by decide +kernel
theorem d_Wk_divide_15 : decode mm_Wk_divide.2.1 15 = .ok (.ldiv, 1) := by decide +kernel
theorem d_Wk_divide_16 : decode mm_Wk_divide.2.1 16 = .ok (.invokevirtual 46, 3) := by decide +kernel
theorem d_Wk_divide_19 : decode mm_Wk_divide.2.1 19 = .ok (.return_, 1) := by decide +kernel
theorem d_Ma_min_0 : decode mm_Ma_min.2.1 0 = .ok (.lload_n 0, 1) := by decide +kernel
theorem d_Ma_min_1 : decode mm_Ma_min.2.1 1 = .ok (.lload_n 2, 1) := by decide +kernel
theorem d_Ma_min_2 : decode mm_Ma_min.2.1 2 = .ok (.lcmp, 1) := by decide +kernel
theorem d_Ma_min_3 : decode mm_Ma_min.2.1 3 = .ok (.ifCond .gt 7, 3) := by decide +kernel
theorem d_Ma_min_6 : decode mm_Ma_min.2.1 6 = .ok (.lload_n 0, 1) := by decide +kernel
theorem d_Ma_min_7 : decode mm_Ma_min.2.1 7 = .ok (.goto 4, 3) := by decide +kernel
theorem d_Ma_min_10 : decode mm_Ma_min.2.1 10 = .ok (.lload_n 2, 1) := by decide +kernel
theorem d_Ma_min_11 : decode mm_Ma_min.2.1 11 = .ok (.lreturn, 1) := by decide +kernel
theorem d_Ma_max_0 : decode mm_Ma_max.2.1 0 = .ok (.lload_n 0, 1) := by decide +kernel
theorem d_Ma_max_1 : decode mm_Ma_max.2.1 1 = .ok (.lload_n 2, 1) := by decide +kernel
theorem d_Ma_max_2 : decode mm_Ma_max.2.1 2 = .ok (.lcmp, 1) := by decide +kernel
theorem d_Ma_max_3 : decode mm_Ma_max.2.1 3 = .ok (.ifCond .lt 7, 3) := by decide +kernel
theorem d_Ma_max_6 : decode mm_Ma_max.2.1 6 = .ok (.lload_n 0, 1) := by decide +kernel
theorem d_Ma_max_7 : decode mm_Ma_max.2.1 7 = .ok (.goto 4, 3) := by decide +kernel
theorem d_Ma_max_10 : decode mm_Ma_max.2.1 10 = .ok (.lload_n 2, 1) := by decide +kernel
theorem d_Ma_max_11 : decode mm_Ma_max.2.1 11 = .ok (.lreturn, 1) := by decide +kernel
theorem d_Bd_keepNames_0 : decode mm_Bd_keepNames.2.1 0 = .ok (.aload_n 0, 1) := by decide +kernel
theorem d_Bd_keepNames_1 : decode mm_Bd_keepNames.2.1 1 = .ok (.iconst 0, 1) := by decide +kernel
theorem d_Bd_keepNames_2 : decode mm_Bd_keepNames.2.1 2 = .ok (.putfield 22, 3) := by decide +kernel
theorem d_Bd_keepNames_5 : decode mm_Bd_keepNames.2.1 5 = .ok (.iconst 0, 1) := by decide +kernel
theorem d_Bd_keepNames_6 : decode mm_Bd_keepNames.2.1 6 = .ok (.istore 4, 2) := by decide +kernel
theorem d_Bd_keepNames_8 : decode mm_Bd_keepNames.2.1 8 = .ok (.iload 4, 2) := by decide +kernel
theorem d_Bd_keepNames_10 : decode mm_Bd_keepNames.2.1 10 = .ok (.aload_n 1, 1) := by decide +kernel
theorem d_Bd_keepNames_11 : decode mm_Bd_keepNames.2.1 11 = .ok (.getfield 35, 3) := by decide +kernel
theorem d_Bd_keepNames_14 : decode mm_Bd_keepNames.2.1 14 = .ok (.if_icmp .ge 49, 3) := by decide +kernel
theorem d_Bd_keepNames_17 : decode mm_Bd_keepNames.2.1 17 = .ok (.lload_n 2, 1) := by decide +kernel
theorem d_Bd_keepNames_18 : decode mm_Bd_keepNames.2.1 18 = .ok (.lconst 1, 1) := by decide +kernel
theorem d_Bd_keepNames_19 : decode mm_Bd_keepNames.2.1 19 = .ok (.iload 4, 2) := by decide +kernel
theorem d_Bd_keepNames_21 : decode mm_Bd_keepNames.2.1 21 = .ok (.lshl, 1) := by decide +kernel
theorem d_Bd_keepNames_22 : decode mm_Bd_keepNames.2.1 22 = .ok (.land, 1) := by decide +kernel
theorem d_Bd_keepNames_23 : decode mm_Bd_keepNames.2.1 23 = .ok (.lconst 0, 1) := by decide +kernel
theorem d_Bd_keepNames_24 : decode mm_Bd_keepNames.2.1 24 = .ok (.lcmp, 1) := by decide +kernel
theorem d_Bd_keepNames_25 : decode mm_Bd_keepNames.2.1 25 = .ok (.ifCond .eq 32, 3) := by decide +kernel
theorem d_Bd_keepNames_28 : decode mm_Bd_keepNames.2.1 28 = .ok (.aload_n 0, 1) := by decide +kernel
theorem d_Bd_keepNames_29 : decode mm_Bd_keepNames.2.1 29 = .ok (.getfield 18, 3) := by decide +kernel
theorem d_Bd_keepNames_32 : decode mm_Bd_keepNames.2.1 32 = .ok (.aload_n 0, 1) := by decide +kernel
theorem d_Bd_keepNames_33 : decode mm_Bd_keepNames.2.1 33 = .ok (.getfield 22, 3) := by decide +kernel
theorem d_Bd_keepNames_36 : decode mm_Bd_keepNames.2.1 36 = .ok (.aload_n 1, 1) := by decide +kernel
theorem d_Bd_keepNames_37 : decode mm_Bd_keepNames.2.1 37 = .ok (.getfield 43, 3) := by decide +kernel
theorem d_Bd_keepNames_40 : decode mm_Bd_keepNames.2.1 40 = .ok (.iload 4, 2) := by decide +kernel
theorem d_Bd_keepNames_42 : decode mm_Bd_keepNames.2.1 42 = .ok (.aaload, 1) := by decide +kernel
theorem d_Bd_keepNames_43 : decode mm_Bd_keepNames.2.1 43 = .ok (.getfield 85, 3) := by decide +kernel
theorem d_Bd_keepNames_46 : decode mm_Bd_keepNames.2.1 46 = .ok (.lastore, 1) := by decide +kernel
theorem d_Bd_keepNames_47 : decode mm_Bd_keepNames.2.1 47 = .ok (.aload_n 0, 1) := by decide +kernel
theorem d_Bd_keepNames_48 : decode mm_Bd_keepNames.2.1 48 = .ok (.dup, 1) := by decide +kernel
theorem d_Bd_keepNames_49 : decode mm_Bd_keepNames.2.1 49 = .ok (.getfield 22, 3) := by decide +kernel
theorem d_Bd_keepNames_52 : decode mm_Bd_keepNames.2.1 52 = .ok (.iconst 1, 1) := by decide +kernel
theorem d_Bd_keepNames_53 : decode mm_Bd_keepNames.2.1 53 = .ok (.iadd, 1) := by decide +kernel
theorem d_Bd_keepNames_54 : decode mm_Bd_keepNames.2.1 54 = .ok (.putfield 22, 3) := by decide +kernel
theorem d_Bd_keepNames_57 : decode mm_Bd_keepNames.2.1 57 = .ok (.iinc 4 1, 3) := by decide +kernel
theorem d_Bd_keepNames_60 : decode mm_Bd_keepNames.2.1 60 = .ok (.goto (-52), 3) := by decide +kernel
theorem d_Bd_keepNames_63 : decode mm_Bd_keepNames.2.1 63 = .ok (.aload_n 0, 1) := by decide +kernel
theorem d_Bd_keepNames_64 : decode mm_Bd_keepNames.2.1 64 = .ok (.dup, 1) := by decide +kernel
theorem d_Bd_keepNames_65 : decode mm_Bd_keepNames.2.1 65 = .ok (.getfield 26, 3) := by decide +kernel
theorem d_Bd_keepNames_68 : decode mm_Bd_keepNames.2.1 68 = .ok (.aload_n 0, 1) := by decide +kernel
theorem d_Bd_keepNames_69 : decode mm_Bd_keepNames.2.1 69 = .ok (.getfield 22, 3) := by decide +kernel
theorem d_Bd_keepNames_72 : decode mm_Bd_keepNames.2.1 72 = .ok (.iadd, 1) := by decide +kernel
theorem d_Bd_keepNames_73 : decode mm_Bd_keepNames.2.1 73 = .ok (.putfield 26, 3) := by decide +kernel
theorem d_Bd_keepNames_76 : decode mm_Bd_keepNames.2.1 76 = .ok (.return_, 1) := by decide +kernel
theorem d_Lw_feed_0 : decode mm_Lw_feed.2.1 0 = .ok (.aload 6, 2) := by decide +kernel
theorem d_Lw_feed_2 : decode mm_Lw_feed.2.1 2 = .ok (.iconst 0, 1) := by decide +kernel
theorem d_Lw_feed_3 : decode mm_Lw_feed.2.1 3 = .ok (.aload_n 0, 1) := by decide +kernel
theorem d_Lw_feed_4 : decode mm_Lw_feed.2.1 4 = .ok (.iload_n 1, 1) := by decide +kernel
theorem d_Lw_feed_5 : decode mm_Lw_feed.2.1 5 = .ok (.iload_n 2, 1) := by decide +kernel
theorem d_Lw_feed_6 : decode mm_Lw_feed.2.1 6 = .ok (.iload_n 3, 1) := by decide +kernel
theorem d_Lw_feed_7 : decode mm_Lw_feed.2.1 7 = .ok (.iload 4, 2) := by decide +kernel
theorem d_Lw_feed_9 : decode mm_Lw_feed.2.1 9 = .ok (.iload 5, 2) := by decide +kernel
theorem d_Lw_feed_11 : decode mm_Lw_feed.2.1 11 = .ok (.invokevirtual 7, 3) := by decide +kernel
theorem d_Lw_feed_14 : decode mm_Lw_feed.2.1 14 = .ok (.i2l, 1) := by decide +kernel
theorem d_Lw_feed_15 : decode mm_Lw_feed.2.1 15 = .ok (.lastore, 1) := by decide +kernel
theorem d_Lw_feed_16 : decode mm_Lw_feed.2.1 16 = .ok (.goto 7, 3) := by decide +kernel
theorem d_Lw_feed_19 : decode mm_Lw_feed.2.1 19 = .ok (.astore 7, 2) := by decide +kernel
theorem d_Lw_feed_21 : decode mm_Lw_feed.2.1 21 = .ok (.iconst 1, 1) := by decide +kernel
theorem d_Lw_feed_22 : decode mm_Lw_feed.2.1 22 = .ok (.ireturn, 1) := by decide +kernel
theorem d_Lw_feed_23 : decode mm_Lw_feed.2.1 23 = .ok (.iconst 0, 1) := by decide +kernel
theorem d_Lw_feed_24 : decode mm_Lw_feed.2.1 24 = .ok (.ireturn, 1) := by decide +kernel
theorem d_CW_feed_0 : decode mm_CW_feed.2.1 0 = .ok (.aload_n 0, 1) := by decide +kernel
theorem d_CW_feed_1 : decode mm_CW_feed.2.1 1 = .ok (.getfield 12, 3) := by decide +kernel
theorem d_CW_feed_4 : decode mm_CW_feed.2.1 4 = .ok (.getfield 30, 3) := by decide +kernel
theorem d_CW_feed_7 : decode mm_CW_feed.2.1 7 = .ok (.astore 6, 2) := by decide +kernel
theorem d_CW_feed_9 : decode mm_CW_feed.2.1 9 = .ok (.aload 6, 2) := by decide +kernel
theorem d_CW_feed_11 : decode mm_CW_feed.2.1 11 = .ok (.getfield 34, 3) := by decide +kernel
theorem d_CW_feed_14 : decode mm_CW_feed.2.1 14 = .ok (.bipush 20, 2) := by decide +kernel
theorem d_CW_feed_16 : decode mm_CW_feed.2.1 16 = .ok (.iadd, 1) := by decide +kernel
theorem d_CW_feed_17 : decode mm_CW_feed.2.1 17 = .ok (.sipush 2000, 3) := by decide +kernel
theorem d_CW_feed_20 : decode mm_CW_feed.2.1 20 = .ok (.if_icmp .le 13, 3) := by decide +kernel
theorem d_CW_feed_23 : decode mm_CW_feed.2.1 23 = .ok (.new 40, 3) := by decide +kernel
theorem d_CW_feed_26 : decode mm_CW_feed.2.1 26 = .ok (.dup, 1) := by decide +kernel
theorem d_CW_feed_27 : decode mm_CW_feed.2.1 27 = .ok (.ldc 42, 2) := by decide +kernel
theorem d_CW_feed_29 : decode mm_CW_feed.2.1 29 = .ok (.invokespecial 44, 3) := by decide +kernel
theorem d_CW_feed_32 : decode mm_CW_feed.2.1 32 = .ok (.athrow, 1) := by decide +kernel
theorem d_CW_feed_33 : decode mm_CW_feed.2.1 33 = .ok (.aload 6, 2) := by decide +kernel
theorem d_CW_feed_35 : decode mm_CW_feed.2.1 35 = .ok (.iload_n 1, 1) := by decide +kernel
theorem d_CW_feed_36 : decode mm_CW_feed.2.1 36 = .ok (.invokevirtual 47, 3) := by decide +kernel
theorem d_CW_feed_39 : decode mm_CW_feed.2.1 39 = .ok (.aload 6, 2) := by decide +kernel
theorem d_CW_feed_41 : decode mm_CW_feed.2.1 41 = .ok (.iload_n 2, 1) := by decide +kernel
theorem d_CW_feed_42 : decode mm_CW_feed.2.1 42 = .ok (.invokevirtual 47, 3) := by decide +kernel
theorem d_CW_feed_45 : decode mm_CW_feed.2.1 45 = .ok (.aload 6, 2) := by decide +kernel
theorem d_CW_feed_47 : decode mm_CW_feed.2.1 47 = .ok (.iload_n 3, 1) := by decide +kernel
theorem d_CW_feed_48 : decode mm_CW_feed.2.1 48 = .ok (.invokevirtual 47, 3) := by decide +kernel
theorem d_CW_feed_51 : decode mm_CW_feed.2.1 51 = .ok (.aload 6, 2) := by decide +kernel
theorem d_CW_feed_53 : decode mm_CW_feed.2.1 53 = .ok (.iload 4, 2) := by decide +kernel
theorem d_CW_feed_55 : decode mm_CW_feed.2.1 55 = .ok (.invokevirtual 47, 3) := by decide +kernel
theorem d_CW_feed_58 : decode mm_CW_feed.2.1 58 = .ok (.aload 6, 2) := by decide +kernel
theorem d_CW_feed_60 : decode mm_CW_feed.2.1 60 = .ok (.iload 5, 2) := by decide +kernel
theorem d_CW_feed_62 : decode mm_CW_feed.2.1 62 = .ok (.invokevirtual 47, 3) := by decide +kernel
theorem d_CW_feed_65 : decode mm_CW_feed.2.1 65 = .ok (.aload 6, 2) := by decide +kernel
theorem d_CW_feed_67 : decode mm_CW_feed.2.1 67 = .ok (.getfield 34, 3) := by decide +kernel
theorem d_CW_feed_70 : decode mm_CW_feed.2.1 70 = .ok (.ireturn, 1) := by decide +kernel
theorem d_Tp_add_0 : decode mm_Tp_add.2.1 0 = .ok (.bipush 24, 2) := by decide +kernel
theorem d_Tp_add_2 : decode mm_Tp_add.2.1 2 = .ok (.istore_n 2, 1) := by decide +kernel
theorem d_Tp_add_3 : decode mm_Tp_add.2.1 3 = .ok (.iload_n 2, 1) := by decide +kernel
theorem d_Tp_add_4 : decode mm_Tp_add.2.1 4 = .ok (.ifCond .lt 51, 3) := by decide +kernel
theorem d_Tp_add_7 : decode mm_Tp_add.2.1 7 = .ok (.aload_n 0, 1) := by decide +kernel
theorem d_Tp_add_8 : decode mm_Tp_add.2.1 8 = .ok (.getfield 15, 3) := by decide +kernel
theorem d_Tp_add_11 : decode mm_Tp_add.2.1 11 = .ok (.ifCond .lt 38, 3) := by decide +kernel
theorem d_Tp_add_14 : decode mm_Tp_add.2.1 14 = .ok (.aload_n 0, 1) := by decide +kernel
theorem d_Tp_add_15 : decode mm_Tp_add.2.1 15 = .ok (.getfield 15, 3) := by decide +kernel
theorem d_Tp_add_18 : decode mm_Tp_add.2.1 18 = .ok (.aload_n 0, 1) := by decide +kernel
theorem d_Tp_add_19 : decode mm_Tp_add.2.1 19 = .ok (.getfield 9, 3) := by decide +kernel
theorem d_Tp_add_22 : decode mm_Tp_add.2.1 22 = .ok (.arraylength, 1) := by decide +kernel
theorem d_Tp_add_23 : decode mm_Tp_add.2.1 23 = .ok (.if_icmp .ge 26, 3) := by decide +kernel
theorem d_Tp_add_26 : decode mm_Tp_add.2.1 26 = .ok (.aload_n 0, 1) := by decide +kernel
theorem d_Tp_add_27 : decode mm_Tp_add.2.1 27 = .ok (.getfield 9, 3) := by decide +kernel
theorem d_Tp_add_30 : decode mm_Tp_add.2.1 30 = .ok (.aload_n 0, 1) := by decide +kernel
theorem d_Tp_add_31 : decode mm_Tp_add.2.1 31 = .ok (.getfield 15, 3) := by decide +kernel
theorem d_Tp_add_34 : decode mm_Tp_add.2.1 34 = .ok (.iload_n 1, 1) := by decide +kernel
theorem d_Tp_add_35 : decode mm_Tp_add.2.1 35 = .ok (.iload_n 2, 1) := by decide +kernel
theorem d_Tp_add_36 : decode mm_Tp_add.2.1 36 = .ok (.iushr, 1) := by decide +kernel
theorem d_Tp_add_37 : decode mm_Tp_add.2.1 37 = .ok (.i2b, 1) := by decide +kernel
theorem d_Tp_add_38 : decode mm_Tp_add.2.1 38 = .ok (.bastore, 1) := by decide +kernel
theorem d_Tp_add_39 : decode mm_Tp_add.2.1 39 = .ok (.aload_n 0, 1) := by decide +kernel
theorem d_Tp_add_40 : decode mm_Tp_add.2.1 40 = .ok (.dup, 1) := by decide +kernel
theorem d_Tp_add_41 : decode mm_Tp_add.2.1 41 = .ok (.getfield 15, 3) := by decide +kernel
theorem d_Tp_add_44 : decode mm_Tp_add.2.1 44 = .ok (.iconst 1, 1) := by decide +kernel
theorem d_Tp_add_45 : decode mm_Tp_add.2.1 45 = .ok (.iadd, 1) := by decide +kernel
theorem d_Tp_add_46 : decode mm_Tp_add.2.1 46 = .ok (.putfield 15, 3) := by decide +kernel
theorem d_Tp_add_49 : decode mm_Tp_add.2.1 49 = .ok (.iinc 2 (-8), 3) := by decide +kernel
theorem d_Tp_add_52 : decode mm_Tp_add.2.1 52 = .ok (.goto (-49), 3) := by decide +kernel
theorem d_Tp_add_55 : decode mm_Tp_add.2.1 55 = .ok (.return_, 1) := by decide +kernel
theorem d_Lw_end_0 : decode mm_Lw_end.2.1 0 = .ok (.aload_n 0, 1) := by decide +kernel
theorem d_Lw_end_1 : decode mm_Lw_end.2.1 1 = .ok (.iload_n 1, 1) := by decide +kernel
theorem d_Lw_end_2 : decode mm_Lw_end.2.1 2 = .ok (.invokevirtual 15, 3) := by decide +kernel
theorem d_Lw_end_5 : decode mm_Lw_end.2.1 5 = .ok (.goto 6, 3) := by decide +kernel
theorem d_Lw_end_8 : decode mm_Lw_end.2.1 8 = .ok (.astore_n 2, 1) := by decide +kernel
theorem d_Lw_end_9 : decode mm_Lw_end.2.1 9 = .ok (.iconst 1, 1) := by decide +kernel
theorem d_Lw_end_10 : decode mm_Lw_end.2.1 10 = .ok (.ireturn, 1) := by decide +kernel
theorem d_Lw_end_11 : decode mm_Lw_end.2.1 11 = .ok (.iconst 0, 1) := by decide +kernel
theorem d_Lw_end_12 : decode mm_Lw_end.2.1 12 = .ok (.ireturn, 1) := by decide +kernel
theorem d_CW_end_0 : decode mm_CW_end.2.1 0 = .ok (.iload_n 1, 1) := by decide +kernel
theorem d_CW_end_1 : decode mm_CW_end.2.1 1 = .ok (.ifCond .lt 17, 3) := by decide +kernel
theorem d_CW_end_4 : decode mm_CW_end.2.1 4 = .ok (.iload_n 1, 1) := by decide +kernel
theorem d_CW_end_5 : decode mm_CW_end.2.1 5 = .ok (.aload_n 0, 1) := by decide +kernel
theorem d_CW_end_6 : decode mm_CW_end.2.1 6 = .ok (.getfield 12, 3) := by decide +kernel
theorem d_CW_end_9 : decode mm_CW_end.2.1 9 = .ok (.getfield 30, 3) := by decide +kernel
theorem d_CW_end_12 : decode mm_CW_end.2.1 12 = .ok (.getfield 34, 3) := by decide +kernel
theorem d_CW_end_15 : decode mm_CW_end.2.1 15 = .ok (.if_icmp .le 13, 3) := by decide +kernel
theorem d_CW_end_18 : decode mm_CW_end.2.1 18 = .ok (.new 51, 3) := by decide +kernel
theorem d_CW_end_21 : decode mm_CW_end.2.1 21 = .ok (.dup, 1) := by decide +kernel
theorem d_CW_end_22 : decode mm_CW_end.2.1 22 = .ok (.ldc 53, 2) := by decide +kernel
theorem d_CW_end_24 : decode mm_CW_end.2.1 24 = .ok (.invokespecial 55, 3) := by decide +kernel
theorem d_CW_end_27 : decode mm_CW_end.2.1 27 = .ok (.athrow, 1) := by decide +kernel
theorem d_CW_end_28 : decode mm_CW_end.2.1 28 = .ok (.aload_n 0, 1) := by decide +kernel
theorem d_CW_end_29 : decode mm_CW_end.2.1 29 = .ok (.getfield 12, 3) := by decide +kernel
theorem d_CW_end_32 : decode mm_CW_end.2.1 32 = .ok (.getfield 30, 3) := by decide +kernel
theorem d_CW_end_35 : decode mm_CW_end.2.1 35 = .ok (.iload_n 1, 1) := by decide +kernel
theorem d_CW_end_36 : decode mm_CW_end.2.1 36 = .ok (.putfield 34, 3) := by decide +kernel
theorem d_CW_end_39 : decode mm_CW_end.2.1 39 = .ok (.return_, 1) := by decide +kernel
theorem d_Lw_remove_0 : decode mm_Lw_remove.2.1 0 = .ok (.aload_n 1, 1) := by decide +kernel
theorem d_Lw_remove_1 : decode mm_Lw_remove.2.1 1 = .ok (.iconst 0, 1) := by decide +kernel
theorem d_Lw_remove_2 : decode mm_Lw_remove.2.1 2 = .ok (.aload_n 0, 1) := by decide +kernel
theorem d_Lw_remove_3 : decode mm_Lw_remove.2.1 3 = .ok (.invokevirtual 21, 3) := by decide +kernel
theorem d_Lw_remove_6 : decode mm_Lw_remove.2.1 6 = .ok (.ifCond .eq 7, 3) := by decide +kernel
theorem d_Lw_remove_9 : decode mm_Lw_remove.2.1 9 = .ok (.lconst 1, 1) := by decide +kernel
theorem d_Lw_remove_10 : decode mm_Lw_remove.2.1 10 = .ok (.goto 4, 3) := by decide +kernel
theorem d_Lw_remove_13 : decode mm_Lw_remove.2.1 13 = .ok (.lconst 0, 1) := by decide +kernel
theorem d_Lw_remove_14 : decode mm_Lw_remove.2.1 14 = .ok (.lastore, 1) := by decide +kernel
theorem d_Lw_remove_15 : decode mm_Lw_remove.2.1 15 = .ok (.goto 6, 3) := by decide +kernel
theorem d_Lw_remove_18 : decode mm_Lw_remove.2.1 18 = .ok (.astore_n 2, 1) := by decide +kernel
theorem d_Lw_remove_19 : decode mm_Lw_remove.2.1 19 = .ok (.iconst 1, 1) := by decide +kernel
theorem d_Lw_remove_20 : decode mm_Lw_remove.2.1 20 = .ok (.ireturn, 1) := by decide +kernel
theorem d_Lw_remove_21 : decode mm_Lw_remove.2.1 21 = .ok (.iconst 0, 1) := by decide +kernel
theorem d_Lw_remove_22 : decode mm_Lw_remove.2.1 22 = .ok (.ireturn, 1) := by decide +kernel
theorem d_CW_remove_0 : decode mm_CW_remove.2.1 0 = .ok (.aload_n 0, 1) := by decide +kernel
theorem d_CW_remove_1 : decode mm_CW_remove.2.1 1 = .ok (.invokevirtual 69, 3) := by decide +kernel
theorem d_CW_remove_4 : decode mm_CW_remove.2.1 4 = .ok (.lstore_n 1, 1) := by decide +kernel
theorem d_CW_remove_5 : decode mm_CW_remove.2.1 5 = .ok (.aload_n 0, 1) := by decide +kernel
theorem d_CW_remove_6 : decode mm_CW_remove.2.1 6 = .ok (.getfield 12, 3) := by decide +kernel
theorem d_CW_remove_9 : decode mm_CW_remove.2.1 9 = .ok (.getfield 30, 3) := by decide +kernel
theorem d_CW_remove_12 : decode mm_CW_remove.2.1 12 = .ok (.iconst 0, 1) := by decide +kernel
theorem d_CW_remove_13 : decode mm_CW_remove.2.1 13 = .ok (.putfield 34, 3) := by decide +kernel
theorem d_CW_remove_16 : decode mm_CW_remove.2.1 16 = .ok (.aload_n 0, 1) := by decide +kernel
theorem d_CW_remove_17 : decode mm_CW_remove.2.1 17 = .ok (.getfield 19, 3) := by decide +kernel
theorem d_CW_remove_20 : decode mm_CW_remove.2.1 20 = .ok (.lload_n 1, 1) := by decide +kernel
theorem d_CW_remove_21 : decode mm_CW_remove.2.1 21 = .ok (.invokevirtual 73, 3) := by decide +kernel
theorem d_CW_remove_24 : decode mm_CW_remove.2.1 24 = .ok (.ireturn, 1) := by decide +kernel
theorem d_CW_nameOnTape_0 : decode mm_CW_nameOnTape.2.1 0 = .ok (.aload_n 0, 1) := by decide +kernel
theorem d_CW_nameOnTape_1 : decode mm_CW_nameOnTape.2.1 1 = .ok (.getfield 12, 3) := by decide +kernel
theorem d_CW_nameOnTape_4 : decode mm_CW_nameOnTape.2.1 4 = .ok (.getfield 30, 3) := by decide +kernel
theorem d_CW_nameOnTape_7 : decode mm_CW_nameOnTape.2.1 7 = .ok (.invokevirtual 141, 3) := by decide +kernel
theorem d_CW_nameOnTape_10 : decode mm_CW_nameOnTape.2.1 10 = .ok (.lstore_n 1, 1) := by decide +kernel
theorem d_CW_nameOnTape_11 : decode mm_CW_nameOnTape.2.1 11 = .ok (.lload_n 1, 1) := by decide +kernel
theorem d_CW_nameOnTape_12 : decode mm_CW_nameOnTape.2.1 12 = .ok (.lconst 0, 1) := by decide +kernel
theorem d_CW_nameOnTape_13 : decode mm_CW_nameOnTape.2.1 13 = .ok (.lcmp, 1) := by decide +kernel
theorem d_CW_nameOnTape_14 : decode mm_CW_nameOnTape.2.1 14 = .ok (.ifCond .ne 13, 3) := by decide +kernel
theorem d_CW_nameOnTape_17 : decode mm_CW_nameOnTape.2.1 17 = .ok (.new 144, 3) := by decide +kernel
theorem d_CW_nameOnTape_20 : decode mm_CW_nameOnTape.2.1 20 = .ok (.dup, 1) := by decide +kernel
theorem d_CW_nameOnTape_21 : decode mm_CW_nameOnTape.2.1 21 = .ok (.ldc 146, 2) := by decide +kernel
theorem d_CW_nameOnTape_23 : decode mm_CW_nameOnTape.2.1 23 = .ok (.invokespecial 148, 3) := by decide +kernel
theorem d_CW_nameOnTape_26 : decode mm_CW_nameOnTape.2.1 26 = .ok (.athrow, 1) := by decide +kernel
theorem d_CW_nameOnTape_27 : decode mm_CW_nameOnTape.2.1 27 = .ok (.lload_n 1, 1) := by decide +kernel
theorem d_CW_nameOnTape_28 : decode mm_CW_nameOnTape.2.1 28 = .ok (.lreturn, 1) := by decide +kernel
theorem d_Tp_onlyName_0 : decode mm_Tp_onlyName.2.1 0 = .ok (.aload_n 0, 1) := by decide +kernel
theorem d_Tp_onlyName_1 : decode mm_Tp_onlyName.2.1 1 = .ok (.invokevirtual 35, 3) := by decide +kernel
theorem d_Tp_onlyName_4 : decode mm_Tp_onlyName.2.1 4 = .ok (.aload_n 0, 1) := by decide +kernel
theorem d_Tp_onlyName_5 : decode mm_Tp_onlyName.2.1 5 = .ok (.invokevirtual 38, 3) := by decide +kernel
theorem d_Tp_onlyName_8 : decode mm_Tp_onlyName.2.1 8 = .ok (.aload_n 0, 1) := by decide +kernel
theorem d_Tp_onlyName_9 : decode mm_Tp_onlyName.2.1 9 = .ok (.getfield 22, 3) := by decide +kernel
theorem d_Tp_onlyName_12 : decode mm_Tp_onlyName.2.1 12 = .ok (.iconst 2, 1) := by decide +kernel
theorem d_Tp_onlyName_13 : decode mm_Tp_onlyName.2.1 13 = .ok (.if_icmp .ne 10, 3) := by decide +kernel
theorem d_Tp_onlyName_16 : decode mm_Tp_onlyName.2.1 16 = .ok (.aload_n 0, 1) := by decide +kernel
theorem d_Tp_onlyName_17 : decode mm_Tp_onlyName.2.1 17 = .ok (.getfield 28, 3) := by decide +kernel
theorem d_Tp_onlyName_20 : decode mm_Tp_onlyName.2.1 20 = .ok (.goto 4, 3) := by decide +kernel
theorem d_Tp_onlyName_23 : decode mm_Tp_onlyName.2.1 23 = .ok (.lconst 0, 1) := by decide +kernel
theorem d_Tp_onlyName_24 : decode mm_Tp_onlyName.2.1 24 = .ok (.lstore_n 1, 1) := by decide +kernel
theorem d_Tp_onlyName_25 : decode mm_Tp_onlyName.2.1 25 = .ok (.aload_n 0, 1) := by decide +kernel
theorem d_Tp_onlyName_26 : decode mm_Tp_onlyName.2.1 26 = .ok (.invokevirtual 38, 3) := by decide +kernel
theorem d_Tp_onlyName_29 : decode mm_Tp_onlyName.2.1 29 = .ok (.aload_n 0, 1) := by decide +kernel
theorem d_Tp_onlyName_30 : decode mm_Tp_onlyName.2.1 30 = .ok (.getfield 22, 3) := by decide +kernel
theorem d_Tp_onlyName_33 : decode mm_Tp_onlyName.2.1 33 = .ok (.ifCond .ne 7, 3) := by decide +kernel
theorem d_Tp_onlyName_36 : decode mm_Tp_onlyName.2.1 36 = .ok (.lload_n 1, 1) := by decide +kernel
theorem d_Tp_onlyName_37 : decode mm_Tp_onlyName.2.1 37 = .ok (.goto 4, 3) := by decide +kernel
theorem d_Tp_onlyName_40 : decode mm_Tp_onlyName.2.1 40 = .ok (.lconst 0, 1) := by decide +kernel
theorem d_Tp_onlyName_41 : decode mm_Tp_onlyName.2.1 41 = .ok (.lreturn, 1) := by decide +kernel
theorem d_Cs_drop_0 : decode mm_Cs_drop.2.1 0 = .ok (.aload_n 0, 1) := by decide +kernel
theorem d_Cs_drop_1 : decode mm_Cs_drop.2.1 1 = .ok (.lload_n 1, 1) := by decide +kernel
theorem d_Cs_drop_2 : decode mm_Cs_drop.2.1 2 = .ok (.invokevirtual 33, 3) := by decide +kernel
theorem d_Cs_drop_5 : decode mm_Cs_drop.2.1 5 = .ok (.istore_n 3, 1) := by decide +kernel
theorem d_Cs_drop_6 : decode mm_Cs_drop.2.1 6 = .ok (.iload_n 3, 1) := by decide +kernel
theorem d_Cs_drop_7 : decode mm_Cs_drop.2.1 7 = .ok (.iconst (-1), 1) := by decide +kernel
theorem d_Cs_drop_8 : decode mm_Cs_drop.2.1 8 = .ok (.if_icmp .ne 5, 3) := by decide +kernel
theorem d_Cs_drop_11 : decode mm_Cs_drop.2.1 11 = .ok (.iconst 0, 1) := by decide +kernel
theorem d_Cs_drop_12 : decode mm_Cs_drop.2.1 12 = .ok (.ireturn, 1) := by decide +kernel
theorem d_Cs_drop_13 : decode mm_Cs_drop.2.1 13 = .ok (.iload_n 3, 1) := by decide +kernel
theorem d_Cs_drop_14 : decode mm_Cs_drop.2.1 14 = .ok (.istore 4, 2) := by decide +kernel
theorem d_Cs_drop_16 : decode mm_Cs_drop.2.1 16 = .ok (.iload 4, 2) := by decide +kernel
theorem d_Cs_drop_18 : decode mm_Cs_drop.2.1 18 = .ok (.iconst 1, 1) := by decide +kernel
theorem d_Cs_drop_19 : decode mm_Cs_drop.2.1 19 = .ok (.iadd, 1) := by decide +kernel
theorem d_Cs_drop_20 : decode mm_Cs_drop.2.1 20 = .ok (.aload_n 0, 1) := by decide +kernel
theorem d_Cs_drop_21 : decode mm_Cs_drop.2.1 21 = .ok (.getfield 17, 3) := by decide +kernel
theorem d_Cs_drop_24 : decode mm_Cs_drop.2.1 24 = .ok (.if_icmp .ge 25, 3) := by decide +kernel
theorem d_Cs_drop_27 : decode mm_Cs_drop.2.1 27 = .ok (.aload_n 0, 1) := by decide +kernel
theorem d_Cs_drop_28 : decode mm_Cs_drop.2.1 28 = .ok (.getfield 11, 3) := by decide +kernel
theorem d_Cs_drop_31 : decode mm_Cs_drop.2.1 31 = .ok (.iload 4, 2) := by decide +kernel
theorem d_Cs_drop_33 : decode mm_Cs_drop.2.1 33 = .ok (.aload_n 0, 1) := by decide +kernel
theorem d_Cs_drop_34 : decode mm_Cs_drop.2.1 34 = .ok (.getfield 11, 3) := by decide +kernel
theorem d_Cs_drop_37 : decode mm_Cs_drop.2.1 37 = .ok (.iload 4, 2) := by decide +kernel
theorem d_Cs_drop_39 : decode mm_Cs_drop.2.1 39 = .ok (.iconst 1, 1) := by decide +kernel
theorem d_Cs_drop_40 : decode mm_Cs_drop.2.1 40 = .ok (.iadd, 1) := by decide +kernel
theorem d_Cs_drop_41 : decode mm_Cs_drop.2.1 41 = .ok (.aaload, 1) := by decide +kernel
theorem d_Cs_drop_42 : decode mm_Cs_drop.2.1 42 = .ok (.aastore, 1) := by decide +kernel
theorem d_Cs_drop_43 : decode mm_Cs_drop.2.1 43 = .ok (.iinc 4 1, 3) := by decide +kernel
theorem d_Cs_drop_46 : decode mm_Cs_drop.2.1 46 = .ok (.goto (-30), 3) := by decide +kernel
theorem d_Cs_drop_49 : decode mm_Cs_drop.2.1 49 = .ok (.aload_n 0, 1) := by decide +kernel
theorem d_Cs_drop_50 : decode mm_Cs_drop.2.1 50 = .ok (.dup, 1) := by decide +kernel
theorem d_Cs_drop_51 : decode mm_Cs_drop.2.1 51 = .ok (.getfield 17, 3) := by decide +kernel
theorem d_Cs_drop_54 : decode mm_Cs_drop.2.1 54 = .ok (.iconst 1, 1) := by decide +kernel
theorem d_Cs_drop_55 : decode mm_Cs_drop.2.1 55 = .ok (.isub, 1) := by decide +kernel
theorem d_Cs_drop_56 : decode mm_Cs_drop.2.1 56 = .ok (.putfield 17, 3) := by decide +kernel
theorem d_Cs_drop_59 : decode mm_Cs_drop.2.1 59 = .ok (.iconst 1, 1) := by decide +kernel
theorem d_Cs_drop_60 : decode mm_Cs_drop.2.1 60 = .ok (.ireturn, 1) := by decide +kernel
theorem d_Lw_build_0 : decode mm_Lw_build.2.1 0 = .ok (.aload_n 1, 1) := by decide +kernel
theorem d_Lw_build_1 : decode mm_Lw_build.2.1 1 = .ok (.iconst 0, 1) := by decide +kernel
theorem d_Lw_build_2 : decode mm_Lw_build.2.1 2 = .ok (.aload_n 0, 1) := by decide +kernel
theorem d_Lw_build_3 : decode mm_Lw_build.2.1 3 = .ok (.invokevirtual 27, 3) := by decide +kernel
theorem d_Lw_build_6 : decode mm_Lw_build.2.1 6 = .ok (.i2l, 1) := by decide +kernel
theorem d_Lw_build_7 : decode mm_Lw_build.2.1 7 = .ok (.lastore, 1) := by decide +kernel
theorem d_Lw_build_8 : decode mm_Lw_build.2.1 8 = .ok (.goto 6, 3) := by decide +kernel
theorem d_Lw_build_11 : decode mm_Lw_build.2.1 11 = .ok (.astore_n 2, 1) := by decide +kernel
theorem d_Lw_build_12 : decode mm_Lw_build.2.1 12 = .ok (.iconst 1, 1) := by decide +kernel
theorem d_Lw_build_13 : decode mm_Lw_build.2.1 13 = .ok (.ireturn, 1) := by decide +kernel
theorem d_Lw_build_14 : decode mm_Lw_build.2.1 14 = .ok (.iconst 0, 1) := by decide +kernel
theorem d_Lw_build_15 : decode mm_Lw_build.2.1 15 = .ok (.ireturn, 1) := by decide +kernel
theorem d_CW_build_0 : decode mm_CW_build.2.1 0 = .ok (.aload_n 0, 1) := by decide +kernel
theorem d_CW_build_1 : decode mm_CW_build.2.1 1 = .ok (.invokevirtual 69, 3) := by decide +kernel
theorem d_CW_build_4 : decode mm_CW_build.2.1 4 = .ok (.lstore_n 1, 1) := by decide +kernel
theorem d_CW_build_5 : decode mm_CW_build.2.1 5 = .ok (.aload_n 0, 1) := by decide +kernel
theorem d_CW_build_6 : decode mm_CW_build.2.1 6 = .ok (.getfield 12, 3) := by decide +kernel
theorem d_CW_build_9 : decode mm_CW_build.2.1 9 = .ok (.getfield 30, 3) := by decide +kernel
theorem d_CW_build_12 : decode mm_CW_build.2.1 12 = .ok (.iconst 0, 1) := by decide +kernel
theorem d_CW_build_13 : decode mm_CW_build.2.1 13 = .ok (.putfield 34, 3) := by decide +kernel
theorem d_CW_build_16 : decode mm_CW_build.2.1 16 = .ok (.aload_n 0, 1) := by decide +kernel
theorem d_CW_build_17 : decode mm_CW_build.2.1 17 = .ok (.getfield 19, 3) := by decide +kernel
theorem d_CW_build_20 : decode mm_CW_build.2.1 20 = .ok (.lload_n 1, 1) := by decide +kernel
theorem d_CW_build_21 : decode mm_CW_build.2.1 21 = .ok (.invokevirtual 77, 3) := by decide +kernel
theorem d_CW_build_24 : decode mm_CW_build.2.1 24 = .ok (.istore_n 3, 1) := by decide +kernel
theorem d_CW_build_25 : decode mm_CW_build.2.1 25 = .ok (.aload_n 0, 1) := by decide +kernel
theorem d_CW_build_26 : decode mm_CW_build.2.1 26 = .ok (.getfield 26, 3) := by decide +kernel
theorem d_CW_build_29 : decode mm_CW_build.2.1 29 = .ok (.aload_n 0, 1) := by decide +kernel
theorem d_CW_build_30 : decode mm_CW_build.2.1 30 = .ok (.getfield 19, 3) := by decide +kernel
theorem d_CW_build_33 : decode mm_CW_build.2.1 33 = .ok (.iload_n 3, 1) := by decide +kernel
theorem d_CW_build_34 : decode mm_CW_build.2.1 34 = .ok (.iconst (-1), 1) := by decide +kernel
theorem d_CW_build_35 : decode mm_CW_build.2.1 35 = .ok (.if_icmp .ne 7, 3) := by decide +kernel
theorem d_CW_build_38 : decode mm_CW_build.2.1 38 = .ok (.lconst 0, 1) := by decide +kernel
theorem d_CW_build_39 : decode mm_CW_build.2.1 39 = .ok (.goto 6, 3) := by decide +kernel
theorem d_CW_build_42 : decode mm_CW_build.2.1 42 = .ok (.lconst 1, 1) := by decide +kernel
theorem d_CW_build_43 : decode mm_CW_build.2.1 43 = .ok (.iload_n 3, 1) := by decide +kernel
theorem d_CW_build_44 : decode mm_CW_build.2.1 44 = .ok (.lshl, 1) := by decide +kernel
theorem d_CW_build_45 : decode mm_CW_build.2.1 45 = .ok (.invokevirtual 81, 3) := by decide +kernel
theorem d_CW_build_48 : decode mm_CW_build.2.1 48 = .ok (.istore 4, 2) := by decide +kernel
theorem d_CW_build_50 : decode mm_CW_build.2.1 50 = .ok (.iload_n 3, 1) := by decide +kernel
theorem d_CW_build_51 : decode mm_CW_build.2.1 51 = .ok (.iconst (-1), 1) := by decide +kernel
theorem d_CW_build_52 : decode mm_CW_build.2.1 52 = .ok (.if_icmp .ne 7, 3) := by decide +kernel
theorem d_CW_build_55 : decode mm_CW_build.2.1 55 = .ok (.iconst (-1), 1) := by decide +kernel
theorem d_CW_build_56 : decode mm_CW_build.2.1 56 = .ok (.goto 5, 3) := by decide +kernel
theorem d_CW_build_59 : decode mm_CW_build.2.1 59 = .ok (.iload 4, 2) := by decide +kernel
theorem d_CW_build_61 : decode mm_CW_build.2.1 61 = .ok (.ireturn, 1) := by decide +kernel
theorem d_Lw_value_0 : decode mm_Lw_value.2.1 0 = .ok (.aload_n 1, 1) := by decide +kernel
theorem d_Lw_value_1 : decode mm_Lw_value.2.1 1 = .ok (.iconst 0, 1) := by decide +kernel
theorem d_Lw_value_2 : decode mm_Lw_value.2.1 2 = .ok (.aload_n 0, 1) := by decide +kernel
theorem d_Lw_value_3 : decode mm_Lw_value.2.1 3 = .ok (.invokevirtual 31, 3) := by decide +kernel
theorem d_Lw_value_6 : decode mm_Lw_value.2.1 6 = .ok (.lastore, 1) := by decide +kernel
theorem d_Lw_value_7 : decode mm_Lw_value.2.1 7 = .ok (.goto 6, 3) := by decide +kernel
theorem d_Lw_value_10 : decode mm_Lw_value.2.1 10 = .ok (.astore_n 2, 1) := by decide +kernel
theorem d_Lw_value_11 : decode mm_Lw_value.2.1 11 = .ok (.iconst 1, 1) := by decide +kernel
theorem d_Lw_value_12 : decode mm_Lw_value.2.1 12 = .ok (.ireturn, 1) := by decide +kernel
theorem d_Lw_value_13 : decode mm_Lw_value.2.1 13 = .ok (.iconst 0, 1) := by decide +kernel
theorem d_Lw_value_14 : decode mm_Lw_value.2.1 14 = .ok (.ireturn, 1) := by decide +kernel
theorem d_CW_value_0 : decode mm_CW_value.2.1 0 = .ok (.aload_n 0, 1) := by decide +kernel
theorem d_CW_value_1 : decode mm_CW_value.2.1 1 = .ok (.getfield 19, 3) := by decide +kernel
theorem d_CW_value_4 : decode mm_CW_value.2.1 4 = .ok (.aload_n 0, 1) := by decide +kernel
theorem d_CW_value_5 : decode mm_CW_value.2.1 5 = .ok (.getfield 19, 3) := by decide +kernel
theorem d_CW_value_8 : decode mm_CW_value.2.1 8 = .ok (.aload_n 0, 1) := by decide +kernel
theorem d_CW_value_9 : decode mm_CW_value.2.1 9 = .ok (.invokevirtual 69, 3) := by decide +kernel
theorem d_CW_value_12 : decode mm_CW_value.2.1 12 = .ok (.invokevirtual 88, 3) := by decide +kernel
theorem d_CW_value_15 : decode mm_CW_value.2.1 15 = .ok (.invokevirtual 92, 3) := by decide +kernel
theorem d_CW_value_18 : decode mm_CW_value.2.1 18 = .ok (.lreturn, 1) := by decide +kernel
theorem d_Lw_state_0 : decode mm_Lw_state.2.1 0 = .ok (.aload_n 1, 1) := by decide +kernel
theorem d_Lw_state_1 : decode mm_Lw_state.2.1 1 = .ok (.iconst 0, 1) := by decide +kernel
theorem d_Lw_state_2 : decode mm_Lw_state.2.1 2 = .ok (.aload_n 0, 1) := by decide +kernel
theorem d_Lw_state_3 : decode mm_Lw_state.2.1 3 = .ok (.invokevirtual 35, 3) := by decide +kernel
theorem d_Lw_state_6 : decode mm_Lw_state.2.1 6 = .ok (.i2l, 1) := by decide +kernel
theorem d_Lw_state_7 : decode mm_Lw_state.2.1 7 = .ok (.lastore, 1) := by decide +kernel
theorem d_Lw_state_8 : decode mm_Lw_state.2.1 8 = .ok (.goto 6, 3) := by decide +kernel
theorem d_Lw_state_11 : decode mm_Lw_state.2.1 11 = .ok (.astore_n 2, 1) := by decide +kernel
theorem d_Lw_state_12 : decode mm_Lw_state.2.1 12 = .ok (.iconst 1, 1) := by decide +kernel
theorem d_Lw_state_13 : decode mm_Lw_state.2.1 13 = .ok (.ireturn, 1) := by decide +kernel
theorem d_Lw_state_14 : decode mm_Lw_state.2.1 14 = .ok (.iconst 0, 1) := by decide +kernel
theorem d_Lw_state_15 : decode mm_Lw_state.2.1 15 = .ok (.ireturn, 1) := by decide +kernel
theorem d_CW_state_0 : decode mm_CW_state.2.1 0 = .ok (.aload_n 0, 1) := by decide +kernel
theorem d_CW_state_1 : decode mm_CW_state.2.1 1 = .ok (.getfield 19, 3) := by decide +kernel
theorem d_CW_state_4 : decode mm_CW_state.2.1 4 = .ok (.aload_n 0, 1) := by decide +kernel
theorem d_CW_state_5 : decode mm_CW_state.2.1 5 = .ok (.invokevirtual 69, 3) := by decide +kernel
theorem d_CW_state_8 : decode mm_CW_state.2.1 8 = .ok (.invokevirtual 88, 3) := by decide +kernel
theorem d_CW_state_11 : decode mm_CW_state.2.1 11 = .ok (.astore_n 1, 1) := by decide +kernel
theorem d_CW_state_12 : decode mm_CW_state.2.1 12 = .ok (.aload_n 1, 1) := by decide +kernel
theorem d_CW_state_13 : decode mm_CW_state.2.1 13 = .ok (.ifnonnull 5, 3) := by decide +kernel
theorem d_CW_state_16 : decode mm_CW_state.2.1 16 = .ok (.iconst (-1), 1) := by decide +kernel
theorem d_CW_state_17 : decode mm_CW_state.2.1 17 = .ok (.ireturn, 1) := by decide +kernel
theorem d_CW_state_18 : decode mm_CW_state.2.1 18 = .ok (.aload_n 1, 1) := by decide +kernel
theorem d_CW_state_19 : decode mm_CW_state.2.1 19 = .ok (.getfield 96, 3) := by decide +kernel
theorem d_CW_state_22 : decode mm_CW_state.2.1 22 = .ok (.aload_n 0, 1) := by decide +kernel
theorem d_CW_state_23 : decode mm_CW_state.2.1 23 = .ok (.getfield 19, 3) := by decide +kernel
theorem d_CW_state_26 : decode mm_CW_state.2.1 26 = .ok (.aload_n 1, 1) := by decide +kernel
theorem d_CW_state_27 : decode mm_CW_state.2.1 27 = .ok (.invokevirtual 101, 3) := by decide +kernel
theorem d_CW_state_30 : decode mm_CW_state.2.1 30 = .ok (.ifCond .eq 7, 3) := by decide +kernel
theorem d_CW_state_33 : decode mm_CW_state.2.1 33 = .ok (.iconst 4, 1) := by decide +kernel
theorem d_CW_state_34 : decode mm_CW_state.2.1 34 = .ok (.goto 4, 3) := by decide +kernel
theorem d_CW_state_37 : decode mm_CW_state.2.1 37 = .ok (.iconst 0, 1) := by decide +kernel
theorem d_CW_state_38 : decode mm_CW_state.2.1 38 = .ok (.iadd, 1) := by decide +kernel
theorem d_CW_state_39 : decode mm_CW_state.2.1 39 = .ok (.ireturn, 1) := by decide +kernel
theorem d_Lw_readers_0 : decode mm_Lw_readers.2.1 0 = .ok (.aload_n 2, 1) := by decide +kernel
theorem d_Lw_readers_1 : decode mm_Lw_readers.2.1 1 = .ok (.iconst 0, 1) := by decide +kernel
theorem d_Lw_readers_2 : decode mm_Lw_readers.2.1 2 = .ok (.aload_n 0, 1) := by decide +kernel
theorem d_Lw_readers_3 : decode mm_Lw_readers.2.1 3 = .ok (.iload_n 1, 1) := by decide +kernel
theorem d_Lw_readers_4 : decode mm_Lw_readers.2.1 4 = .ok (.invokevirtual 38, 3) := by decide +kernel
theorem d_Lw_readers_7 : decode mm_Lw_readers.2.1 7 = .ok (.i2l, 1) := by decide +kernel
theorem d_Lw_readers_8 : decode mm_Lw_readers.2.1 8 = .ok (.lastore, 1) := by decide +kernel
theorem d_Lw_readers_9 : decode mm_Lw_readers.2.1 9 = .ok (.goto 6, 3) := by decide +kernel
theorem d_Lw_readers_12 : decode mm_Lw_readers.2.1 12 = .ok (.astore_n 3, 1) := by decide +kernel
theorem d_Lw_readers_13 : decode mm_Lw_readers.2.1 13 = .ok (.iconst 1, 1) := by decide +kernel
theorem d_Lw_readers_14 : decode mm_Lw_readers.2.1 14 = .ok (.ireturn, 1) := by decide +kernel
theorem d_Lw_readers_15 : decode mm_Lw_readers.2.1 15 = .ok (.iconst 0, 1) := by decide +kernel
theorem d_Lw_readers_16 : decode mm_Lw_readers.2.1 16 = .ok (.ireturn, 1) := by decide +kernel
theorem d_CW_readers_0 : decode mm_CW_readers.2.1 0 = .ok (.aload_n 0, 1) := by decide +kernel
theorem d_CW_readers_1 : decode mm_CW_readers.2.1 1 = .ok (.invokevirtual 69, 3) := by decide +kernel
theorem d_CW_readers_4 : decode mm_CW_readers.2.1 4 = .ok (.lstore_n 2, 1) := by decide +kernel
theorem d_CW_readers_5 : decode mm_CW_readers.2.1 5 = .ok (.iload_n 1, 1) := by decide +kernel
theorem d_CW_readers_6 : decode mm_CW_readers.2.1 6 = .ok (.ifCond .eq 14, 3) := by decide +kernel
theorem d_CW_readers_9 : decode mm_CW_readers.2.1 9 = .ok (.aload_n 0, 1) := by decide +kernel
theorem d_CW_readers_10 : decode mm_CW_readers.2.1 10 = .ok (.getfield 19, 3) := by decide +kernel
theorem d_CW_readers_13 : decode mm_CW_readers.2.1 13 = .ok (.lload_n 2, 1) := by decide +kernel
theorem d_CW_readers_14 : decode mm_CW_readers.2.1 14 = .ok (.invokevirtual 105, 3) := by decide +kernel
theorem d_CW_readers_17 : decode mm_CW_readers.2.1 17 = .ok (.goto 11, 3) := by decide +kernel
theorem d_CW_readers_20 : decode mm_CW_readers.2.1 20 = .ok (.aload_n 0, 1) := by decide +kernel
theorem d_CW_readers_21 : decode mm_CW_readers.2.1 21 = .ok (.getfield 19, 3) := by decide +kernel
theorem d_CW_readers_24 : decode mm_CW_readers.2.1 24 = .ok (.lload_n 2, 1) := by decide +kernel
theorem d_CW_readers_25 : decode mm_CW_readers.2.1 25 = .ok (.invokevirtual 109, 3) := by decide +kernel
theorem d_CW_readers_28 : decode mm_CW_readers.2.1 28 = .ok (.invokestatic 112, 3) := by decide +kernel
theorem d_CW_readers_31 : decode mm_CW_readers.2.1 31 = .ok (.ireturn, 1) := by decide +kernel
theorem d_Lo_bitCount_0 : decode mm_Lo_bitCount.2.1 0 = .ok (.lload_n 0, 1) := by decide +kernel
theorem d_Lo_bitCount_1 : decode mm_Lo_bitCount.2.1 1 = .ok (.lload_n 0, 1) := by decide +kernel
theorem d_Lo_bitCount_2 : decode mm_Lo_bitCount.2.1 2 = .ok (.iconst 1, 1) := by decide +kernel
theorem d_Lo_bitCount_3 : decode mm_Lo_bitCount.2.1 3 = .ok (.lushr, 1) := by decide +kernel
theorem d_Lo_bitCount_4 : decode mm_Lo_bitCount.2.1 4 = .ok (.ldc2_w 314, 3) := by decide +kernel
theorem d_Lo_bitCount_7 : decode mm_Lo_bitCount.2.1 7 = .ok (.land, 1) := by decide +kernel
theorem d_Lo_bitCount_8 : decode mm_Lo_bitCount.2.1 8 = .ok (.lsub, 1) := by decide +kernel
theorem d_Lo_bitCount_9 : decode mm_Lo_bitCount.2.1 9 = .ok (.lstore_n 0, 1) := by decide +kernel
theorem d_Lo_bitCount_10 : decode mm_Lo_bitCount.2.1 10 = .ok (.lload_n 0, 1) := by decide +kernel
theorem d_Lo_bitCount_11 : decode mm_Lo_bitCount.2.1 11 = .ok (.ldc2_w 316, 3) := by decide +kernel
theorem d_Lo_bitCount_14 : decode mm_Lo_bitCount.2.1 14 = .ok (.land, 1) := by decide +kernel
theorem d_Lo_bitCount_15 : decode mm_Lo_bitCount.2.1 15 = .ok (.lload_n 0, 1) := by decide +kernel
theorem d_Lo_bitCount_16 : decode mm_Lo_bitCount.2.1 16 = .ok (.iconst 2, 1) := by decide +kernel
theorem d_Lo_bitCount_17 : decode mm_Lo_bitCount.2.1 17 = .ok (.lushr, 1) := by decide +kernel
theorem d_Lo_bitCount_18 : decode mm_Lo_bitCount.2.1 18 = .ok (.ldc2_w 316, 3) := by decide +kernel
theorem d_Lo_bitCount_21 : decode mm_Lo_bitCount.2.1 21 = .ok (.land, 1) := by decide +kernel
theorem d_Lo_bitCount_22 : decode mm_Lo_bitCount.2.1 22 = .ok (.ladd, 1) := by decide +kernel
theorem d_Lo_bitCount_23 : decode mm_Lo_bitCount.2.1 23 = .ok (.lstore_n 0, 1) := by decide +kernel
theorem d_Lo_bitCount_24 : decode mm_Lo_bitCount.2.1 24 = .ok (.lload_n 0, 1) := by decide +kernel
theorem d_Lo_bitCount_25 : decode mm_Lo_bitCount.2.1 25 = .ok (.lload_n 0, 1) := by decide +kernel
theorem d_Lo_bitCount_26 : decode mm_Lo_bitCount.2.1 26 = .ok (.iconst 4, 1) := by decide +kernel
theorem d_Lo_bitCount_27 : decode mm_Lo_bitCount.2.1 27 = .ok (.lushr, 1) := by decide +kernel
theorem d_Lo_bitCount_28 : decode mm_Lo_bitCount.2.1 28 = .ok (.ladd, 1) := by decide +kernel
theorem d_Lo_bitCount_29 : decode mm_Lo_bitCount.2.1 29 = .ok (.ldc2_w 318, 3) := by decide +kernel
theorem d_Lo_bitCount_32 : decode mm_Lo_bitCount.2.1 32 = .ok (.land, 1) := by decide +kernel
theorem d_Lo_bitCount_33 : decode mm_Lo_bitCount.2.1 33 = .ok (.lstore_n 0, 1) := by decide +kernel
theorem d_Lo_bitCount_34 : decode mm_Lo_bitCount.2.1 34 = .ok (.lload_n 0, 1) := by decide +kernel
theorem d_Lo_bitCount_35 : decode mm_Lo_bitCount.2.1 35 = .ok (.lload_n 0, 1) := by decide +kernel
theorem d_Lo_bitCount_36 : decode mm_Lo_bitCount.2.1 36 = .ok (.bipush 8, 2) := by decide +kernel
theorem d_Lo_bitCount_38 : decode mm_Lo_bitCount.2.1 38 = .ok (.lushr, 1) := by decide +kernel
theorem d_Lo_bitCount_39 : decode mm_Lo_bitCount.2.1 39 = .ok (.ladd, 1) := by decide +kernel
theorem d_Lo_bitCount_40 : decode mm_Lo_bitCount.2.1 40 = .ok (.lstore_n 0, 1) := by decide +kernel
theorem d_Lo_bitCount_41 : decode mm_Lo_bitCount.2.1 41 = .ok (.lload_n 0, 1) := by decide +kernel
theorem d_Lo_bitCount_42 : decode mm_Lo_bitCount.2.1 42 = .ok (.lload_n 0, 1) := by decide +kernel
theorem d_Lo_bitCount_43 : decode mm_Lo_bitCount.2.1 43 = .ok (.bipush 16, 2) := by decide +kernel
theorem d_Lo_bitCount_45 : decode mm_Lo_bitCount.2.1 45 = .ok (.lushr, 1) := by decide +kernel
theorem d_Lo_bitCount_46 : decode mm_Lo_bitCount.2.1 46 = .ok (.ladd, 1) := by decide +kernel
theorem d_Lo_bitCount_47 : decode mm_Lo_bitCount.2.1 47 = .ok (.lstore_n 0, 1) := by decide +kernel
theorem d_Lo_bitCount_48 : decode mm_Lo_bitCount.2.1 48 = .ok (.lload_n 0, 1) := by decide +kernel
theorem d_Lo_bitCount_49 : decode mm_Lo_bitCount.2.1 49 = .ok (.lload_n 0, 1) := by decide +kernel
theorem d_Lo_bitCount_50 : decode mm_Lo_bitCount.2.1 50 = .ok (.bipush 32, 2) := by decide +kernel
theorem d_Lo_bitCount_52 : decode mm_Lo_bitCount.2.1 52 = .ok (.lushr, 1) := by decide +kernel
theorem d_Lo_bitCount_53 : decode mm_Lo_bitCount.2.1 53 = .ok (.ladd, 1) := by decide +kernel
theorem d_Lo_bitCount_54 : decode mm_Lo_bitCount.2.1 54 = .ok (.lstore_n 0, 1) := by decide +kernel
theorem d_Lo_bitCount_55 : decode mm_Lo_bitCount.2.1 55 = .ok (.lload_n 0, 1) := by decide +kernel
theorem d_Lo_bitCount_56 : decode mm_Lo_bitCount.2.1 56 = .ok (.l2i, 1) := by decide +kernel
theorem d_Lo_bitCount_57 : decode mm_Lo_bitCount.2.1 57 = .ok (.bipush 127, 2) := by decide +kernel
theorem d_Lo_bitCount_59 : decode mm_Lo_bitCount.2.1 59 = .ok (.iand, 1) := by decide +kernel
theorem d_Lo_bitCount_60 : decode mm_Lo_bitCount.2.1 60 = .ok (.ireturn, 1) := by decide +kernel
theorem d_Lw_built_0 : decode mm_Lw_built.2.1 0 = .ok (.aload_n 3, 1) := by decide +kernel
theorem d_Lw_built_1 : decode mm_Lw_built.2.1 1 = .ok (.iconst 0, 1) := by decide +kernel
theorem d_Lw_built_2 : decode mm_Lw_built.2.1 2 = .ok (.aload_n 0, 1) := by decide +kernel
theorem d_Lw_built_3 : decode mm_Lw_built.2.1 3 = .ok (.iload_n 1, 1) := by decide +kernel
theorem d_Lw_built_4 : decode mm_Lw_built.2.1 4 = .ok (.iload_n 2, 1) := by decide +kernel
theorem d_Lw_built_5 : decode mm_Lw_built.2.1 5 = .ok (.invokevirtual 42, 3) := by decide +kernel
theorem d_Lw_built_8 : decode mm_Lw_built.2.1 8 = .ok (.i2l, 1) := by decide +kernel
theorem d_Lw_built_9 : decode mm_Lw_built.2.1 9 = .ok (.lastore, 1) := by decide +kernel
theorem d_Lw_built_10 : decode mm_Lw_built.2.1 10 = .ok (.goto 7, 3) := by decide +kernel
theorem d_Lw_built_13 : decode mm_Lw_built.2.1 13 = .ok (.astore 4, 2) := by decide +kernel
theorem d_Lw_built_15 : decode mm_Lw_built.2.1 15 = .ok (.iconst 1, 1) := by decide +kernel
theorem d_Lw_built_16 : decode mm_Lw_built.2.1 16 = .ok (.ireturn, 1) := by decide +kernel
theorem d_Lw_built_17 : decode mm_Lw_built.2.1 17 = .ok (.iconst 0, 1) := by decide +kernel
theorem d_Lw_built_18 : decode mm_Lw_built.2.1 18 = .ok (.ireturn, 1) := by decide +kernel
theorem d_CW_built_0 : decode mm_CW_built.2.1 0 = .ok (.aload_n 0, 1) := by decide +kernel
theorem d_CW_built_1 : decode mm_CW_built.2.1 1 = .ok (.getfield 26, 3) := by decide +kernel
theorem d_CW_built_4 : decode mm_CW_built.2.1 4 = .ok (.iload_n 1, 1) := by decide +kernel
theorem d_CW_built_5 : decode mm_CW_built.2.1 5 = .ok (.iload_n 2, 1) := by decide +kernel
theorem d_CW_built_6 : decode mm_CW_built.2.1 6 = .ok (.invokevirtual 117, 3) := by decide +kernel
theorem d_CW_built_9 : decode mm_CW_built.2.1 9 = .ok (.istore_n 3, 1) := by decide +kernel
theorem d_CW_built_10 : decode mm_CW_built.2.1 10 = .ok (.iload_n 3, 1) := by decide +kernel
theorem d_CW_built_11 : decode mm_CW_built.2.1 11 = .ok (.iconst (-1), 1) := by decide +kernel
theorem d_CW_built_12 : decode mm_CW_built.2.1 12 = .ok (.if_icmp .ne 13, 3) := by decide +kernel
theorem d_CW_built_15 : decode mm_CW_built.2.1 15 = .ok (.new 121, 3) := by decide +kernel
theorem d_CW_built_18 : decode mm_CW_built.2.1 18 = .ok (.dup, 1) := by decide +kernel
theorem d_CW_built_19 : decode mm_CW_built.2.1 19 = .ok (.ldc 123, 2) := by decide +kernel
theorem d_CW_built_21 : decode mm_CW_built.2.1 21 = .ok (.invokespecial 125, 3) := by decide +kernel
theorem d_CW_built_24 : decode mm_CW_built.2.1 24 = .ok (.athrow, 1) := by decide +kernel
theorem d_CW_built_25 : decode mm_CW_built.2.1 25 = .ok (.iload_n 3, 1) := by decide +kernel
theorem d_CW_built_26 : decode mm_CW_built.2.1 26 = .ok (.ireturn, 1) := by decide +kernel
theorem d_Bd_byteOfLatest_0 : decode mm_Bd_byteOfLatest.2.1 0 = .ok (.iload_n 1, 1) := by decide +kernel
theorem d_Bd_byteOfLatest_1 : decode mm_Bd_byteOfLatest.2.1 1 = .ok (.ifCond .lt 21, 3) := by decide +kernel
theorem d_Bd_byteOfLatest_4 : decode mm_Bd_byteOfLatest.2.1 4 = .ok (.iload_n 1, 1) := by decide +kernel
theorem d_Bd_byteOfLatest_5 : decode mm_Bd_byteOfLatest.2.1 5 = .ok (.aload_n 0, 1) := by decide +kernel
theorem d_Bd_byteOfLatest_6 : decode mm_Bd_byteOfLatest.2.1 6 = .ok (.getfield 22, 3) := by decide +kernel
theorem d_Bd_byteOfLatest_9 : decode mm_Bd_byteOfLatest.2.1 9 = .ok (.if_icmp .ge 13, 3) := by decide +kernel
theorem d_Bd_byteOfLatest_12 : decode mm_Bd_byteOfLatest.2.1 12 = .ok (.iload_n 2, 1) := by decide +kernel
theorem d_Bd_byteOfLatest_13 : decode mm_Bd_byteOfLatest.2.1 13 = .ok (.ifCond .lt 9, 3) := by decide +kernel
theorem d_Bd_byteOfLatest_16 : decode mm_Bd_byteOfLatest.2.1 16 = .ok (.iload_n 2, 1) := by decide +kernel
theorem d_Bd_byteOfLatest_17 : decode mm_Bd_byteOfLatest.2.1 17 = .ok (.bipush 8, 2) := by decide +kernel
theorem d_Bd_byteOfLatest_19 : decode mm_Bd_byteOfLatest.2.1 19 = .ok (.if_icmp .lt 5, 3) := by decide +kernel
theorem d_Bd_byteOfLatest_22 : decode mm_Bd_byteOfLatest.2.1 22 = .ok (.iconst (-1), 1) := by decide +kernel
theorem d_Bd_byteOfLatest_23 : decode mm_Bd_byteOfLatest.2.1 23 = .ok (.ireturn, 1) := by decide +kernel
theorem d_Bd_byteOfLatest_24 : decode mm_Bd_byteOfLatest.2.1 24 = .ok (.aload_n 0, 1) := by decide +kernel
theorem d_Bd_byteOfLatest_25 : decode mm_Bd_byteOfLatest.2.1 25 = .ok (.getfield 18, 3) := by decide +kernel
theorem d_Bd_byteOfLatest_28 : decode mm_Bd_byteOfLatest.2.1 28 = .ok (.iload_n 1, 1) := by decide +kernel
theorem d_Bd_byteOfLatest_29 : decode mm_Bd_byteOfLatest.2.1 29 = .ok (.laload, 1) := by decide +kernel
theorem d_Bd_byteOfLatest_30 : decode mm_Bd_byteOfLatest.2.1 30 = .ok (.bipush 56, 2) := by decide +kernel
theorem d_Bd_byteOfLatest_32 : decode mm_Bd_byteOfLatest.2.1 32 = .ok (.bipush 8, 2) := by decide +kernel
theorem d_Bd_byteOfLatest_34 : decode mm_Bd_byteOfLatest.2.1 34 = .ok (.iload_n 2, 1) := by decide +kernel
theorem d_Bd_byteOfLatest_35 : decode mm_Bd_byteOfLatest.2.1 35 = .ok (.imul, 1) := by decide +kernel
theorem d_Bd_byteOfLatest_36 : decode mm_Bd_byteOfLatest.2.1 36 = .ok (.isub, 1) := by decide +kernel
theorem d_Bd_byteOfLatest_37 : decode mm_Bd_byteOfLatest.2.1 37 = .ok (.lushr, 1) := by decide +kernel
theorem d_Bd_byteOfLatest_38 : decode mm_Bd_byteOfLatest.2.1 38 = .ok (.l2i, 1) := by decide +kernel
theorem d_Bd_byteOfLatest_39 : decode mm_Bd_byteOfLatest.2.1 39 = .ok (.sipush 255, 3) := by decide +kernel
theorem d_Bd_byteOfLatest_42 : decode mm_Bd_byteOfLatest.2.1 42 = .ok (.iand, 1) := by decide +kernel
theorem d_Bd_byteOfLatest_43 : decode mm_Bd_byteOfLatest.2.1 43 = .ok (.istore_n 3, 1) := by decide +kernel
theorem d_Bd_byteOfLatest_44 : decode mm_Bd_byteOfLatest.2.1 44 = .ok (.iload_n 3, 1) := by decide +kernel
theorem d_Bd_byteOfLatest_45 : decode mm_Bd_byteOfLatest.2.1 45 = .ok (.ifCond .ne 7, 3) := by decide +kernel
theorem d_Bd_byteOfLatest_48 : decode mm_Bd_byteOfLatest.2.1 48 = .ok (.iconst (-1), 1) := by decide +kernel
theorem d_Bd_byteOfLatest_49 : decode mm_Bd_byteOfLatest.2.1 49 = .ok (.goto 4, 3) := by decide +kernel
theorem d_Bd_byteOfLatest_52 : decode mm_Bd_byteOfLatest.2.1 52 = .ok (.iload_n 3, 1) := by decide +kernel
theorem d_Bd_byteOfLatest_53 : decode mm_Bd_byteOfLatest.2.1 53 = .ok (.ireturn, 1) := by decide +kernel
theorem d_Lw_count_0 : decode mm_Lw_count.2.1 0 = .ok (.aload_n 2, 1) := by decide +kernel
theorem d_Lw_count_1 : decode mm_Lw_count.2.1 1 = .ok (.iconst 0, 1) := by decide +kernel
theorem d_Lw_count_2 : decode mm_Lw_count.2.1 2 = .ok (.aload_n 0, 1) := by decide +kernel
theorem d_Lw_count_3 : decode mm_Lw_count.2.1 3 = .ok (.iload_n 1, 1) := by decide +kernel
theorem d_Lw_count_4 : decode mm_Lw_count.2.1 4 = .ok (.invokevirtual 48, 3) := by decide +kernel
theorem d_Lw_count_7 : decode mm_Lw_count.2.1 7 = .ok (.i2l, 1) := by decide +kernel
theorem d_Lw_count_8 : decode mm_Lw_count.2.1 8 = .ok (.lastore, 1) := by decide +kernel
theorem d_Lw_count_9 : decode mm_Lw_count.2.1 9 = .ok (.goto 6, 3) := by decide +kernel
theorem d_Lw_count_12 : decode mm_Lw_count.2.1 12 = .ok (.astore_n 3, 1) := by decide +kernel
theorem d_Lw_count_13 : decode mm_Lw_count.2.1 13 = .ok (.iconst 1, 1) := by decide +kernel
theorem d_Lw_count_14 : decode mm_Lw_count.2.1 14 = .ok (.ireturn, 1) := by decide +kernel
theorem d_Lw_count_15 : decode mm_Lw_count.2.1 15 = .ok (.iconst 0, 1) := by decide +kernel
theorem d_Lw_count_16 : decode mm_Lw_count.2.1 16 = .ok (.ireturn, 1) := by decide +kernel
theorem d_CW_count_0 : decode mm_CW_count.2.1 0 = .ok (.iload_n 1, 1) := by decide +kernel
theorem d_CW_count_1 : decode mm_CW_count.2.1 1 = .ok (.tableswitch 78 0 4 #[35, 43, 51, 62, 70], 35) := by decide +kernel
theorem d_CW_count_36 : decode mm_CW_count.2.1 36 = .ok (.aload_n 0, 1) := by decide +kernel
theorem d_CW_count_37 : decode mm_CW_count.2.1 37 = .ok (.getfield 19, 3) := by decide +kernel
theorem d_CW_count_40 : decode mm_CW_count.2.1 40 = .ok (.getfield 126, 3) := by decide +kernel
theorem d_CW_count_43 : decode mm_CW_count.2.1 43 = .ok (.ireturn, 1) := by decide +kernel
theorem d_CW_count_44 : decode mm_CW_count.2.1 44 = .ok (.aload_n 0, 1) := by decide +kernel
theorem d_CW_count_45 : decode mm_CW_count.2.1 45 = .ok (.getfield 19, 3) := by decide +kernel
theorem d_CW_count_48 : decode mm_CW_count.2.1 48 = .ok (.invokevirtual 129, 3) := by decide +kernel
theorem d_CW_count_51 : decode mm_CW_count.2.1 51 = .ok (.ireturn, 1) := by decide +kernel
theorem d_CW_count_52 : decode mm_CW_count.2.1 52 = .ok (.aload_n 0, 1) := by decide +kernel
theorem d_CW_count_53 : decode mm_CW_count.2.1 53 = .ok (.getfield 12, 3) := by decide +kernel
theorem d_CW_count_56 : decode mm_CW_count.2.1 56 = .ok (.getfield 30, 3) := by decide +kernel
theorem d_CW_count_59 : decode mm_CW_count.2.1 59 = .ok (.getfield 34, 3) := by decide +kernel
theorem d_CW_count_62 : decode mm_CW_count.2.1 62 = .ok (.ireturn, 1) := by decide +kernel
theorem d_CW_count_63 : decode mm_CW_count.2.1 63 = .ok (.aload_n 0, 1) := by decide +kernel
theorem d_CW_count_64 : decode mm_CW_count.2.1 64 = .ok (.getfield 26, 3) := by decide +kernel
theorem d_CW_count_67 : decode mm_CW_count.2.1 67 = .ok (.getfield 133, 3) := by decide +kernel
theorem d_CW_count_70 : decode mm_CW_count.2.1 70 = .ok (.ireturn, 1) := by decide +kernel
theorem d_CW_count_71 : decode mm_CW_count.2.1 71 = .ok (.aload_n 0, 1) := by decide +kernel
theorem d_CW_count_72 : decode mm_CW_count.2.1 72 = .ok (.getfield 26, 3) := by decide +kernel
theorem d_CW_count_75 : decode mm_CW_count.2.1 75 = .ok (.getfield 136, 3) := by decide +kernel
theorem d_CW_count_78 : decode mm_CW_count.2.1 78 = .ok (.ireturn, 1) := by decide +kernel
theorem d_CW_count_79 : decode mm_CW_count.2.1 79 = .ok (.new 51, 3) := by decide +kernel
theorem d_CW_count_82 : decode mm_CW_count.2.1 82 = .ok (.dup, 1) := by decide +kernel
theorem d_CW_count_83 : decode mm_CW_count.2.1 83 = .ok (.ldc 139, 2) := by decide +kernel
theorem d_CW_count_85 : decode mm_CW_count.2.1 85 = .ok (.invokespecial 55, 3) := by decide +kernel
theorem d_CW_count_88 : decode mm_CW_count.2.1 88 = .ok (.athrow, 1) := by decide +kernel
theorem d_Cs_staleOnes_0 : decode mm_Cs_staleOnes.2.1 0 = .ok (.iconst 0, 1) := by decide +kernel
theorem d_Cs_staleOnes_1 : decode mm_Cs_staleOnes.2.1 1 = .ok (.istore_n 1, 1) := by decide +kernel
theorem d_Cs_staleOnes_2 : decode mm_Cs_staleOnes.2.1 2 = .ok (.iconst 0, 1) := by decide +kernel
theorem d_Cs_staleOnes_3 : decode mm_Cs_staleOnes.2.1 3 = .ok (.istore_n 2, 1) := by decide +kernel
theorem d_Cs_staleOnes_4 : decode mm_Cs_staleOnes.2.1 4 = .ok (.iload_n 2, 1) := by decide +kernel
theorem d_Cs_staleOnes_5 : decode mm_Cs_staleOnes.2.1 5 = .ok (.aload_n 0, 1) := by decide +kernel
theorem d_Cs_staleOnes_6 : decode mm_Cs_staleOnes.2.1 6 = .ok (.getfield 17, 3) := by decide +kernel
theorem d_Cs_staleOnes_9 : decode mm_Cs_staleOnes.2.1 9 = .ok (.if_icmp .ge 25, 3) := by decide +kernel
theorem d_Cs_staleOnes_12 : decode mm_Cs_staleOnes.2.1 12 = .ok (.aload_n 0, 1) := by decide +kernel
theorem d_Cs_staleOnes_13 : decode mm_Cs_staleOnes.2.1 13 = .ok (.aload_n 0, 1) := by decide +kernel
theorem d_Cs_staleOnes_14 : decode mm_Cs_staleOnes.2.1 14 = .ok (.getfield 11, 3) := by decide +kernel
theorem d_Cs_staleOnes_17 : decode mm_Cs_staleOnes.2.1 17 = .ok (.iload_n 2, 1) := by decide +kernel
theorem d_Cs_staleOnes_18 : decode mm_Cs_staleOnes.2.1 18 = .ok (.aaload, 1) := by decide +kernel
theorem d_Cs_staleOnes_19 : decode mm_Cs_staleOnes.2.1 19 = .ok (.invokevirtual 77, 3) := by decide +kernel
theorem d_Cs_staleOnes_22 : decode mm_Cs_staleOnes.2.1 22 = .ok (.ifCond .eq 6, 3) := by decide +kernel
theorem d_Cs_staleOnes_25 : decode mm_Cs_staleOnes.2.1 25 = .ok (.iinc 1 1, 3) := by decide +kernel
theorem d_Cs_staleOnes_28 : decode mm_Cs_staleOnes.2.1 28 = .ok (.iinc 2 1, 3) := by decide +kernel
theorem d_Cs_staleOnes_31 : decode mm_Cs_staleOnes.2.1 31 = .ok (.goto (-27), 3) := by decide +kernel
theorem d_Cs_staleOnes_34 : decode mm_Cs_staleOnes.2.1 34 = .ok (.iload_n 1, 1) := by decide +kernel
theorem d_Cs_staleOnes_35 : decode mm_Cs_staleOnes.2.1 35 = .ok (.ireturn, 1) := by decide +kernel
theorem d_Md_init_0 : decode mm_Md_init.2.1 0 = .ok (.aload_n 0, 1) := by decide +kernel
theorem d_Md_init_1 : decode mm_Md_init.2.1 1 = .ok (.invokespecial 1, 3) := by decide +kernel
theorem d_Md_init_4 : decode mm_Md_init.2.1 4 = .ok (.aload_n 0, 1) := by decide +kernel
theorem d_Md_init_5 : decode mm_Md_init.2.1 5 = .ok (.sipush 2000, 3) := by decide +kernel
theorem d_Md_init_8 : decode mm_Md_init.2.1 8 = .ok (.newarray .int, 2) := by decide +kernel
theorem d_Md_init_10 : decode mm_Md_init.2.1 10 = .ok (.putfield 7, 3) := by decide +kernel
theorem d_Md_init_13 : decode mm_Md_init.2.1 13 = .ok (.aload_n 0, 1) := by decide +kernel
theorem d_Md_init_14 : decode mm_Md_init.2.1 14 = .ok (.bipush 64, 2) := by decide +kernel
theorem d_Md_init_16 : decode mm_Md_init.2.1 16 = .ok (.newarray .boolean, 2) := by decide +kernel
theorem d_Md_init_18 : decode mm_Md_init.2.1 18 = .ok (.putfield 13, 3) := by decide +kernel
theorem d_Md_init_21 : decode mm_Md_init.2.1 21 = .ok (.aload_n 0, 1) := by decide +kernel
theorem d_Md_init_22 : decode mm_Md_init.2.1 22 = .ok (.bipush 64, 2) := by decide +kernel
theorem d_Md_init_24 : decode mm_Md_init.2.1 24 = .ok (.newarray .long, 2) := by decide +kernel
theorem d_Md_init_26 : decode mm_Md_init.2.1 26 = .ok (.putfield 17, 3) := by decide +kernel
theorem d_Md_init_29 : decode mm_Md_init.2.1 29 = .ok (.aload_n 0, 1) := by decide +kernel
theorem d_Md_init_30 : decode mm_Md_init.2.1 30 = .ok (.bipush 64, 2) := by decide +kernel
theorem d_Md_init_32 : decode mm_Md_init.2.1 32 = .ok (.newarray .int, 2) := by decide +kernel
theorem d_Md_init_34 : decode mm_Md_init.2.1 34 = .ok (.putfield 21, 3) := by decide +kernel
theorem d_Md_init_37 : decode mm_Md_init.2.1 37 = .ok (.aload_n 0, 1) := by decide +kernel
theorem d_Md_init_38 : decode mm_Md_init.2.1 38 = .ok (.bipush 64, 2) := by decide +kernel
theorem d_Md_init_40 : decode mm_Md_init.2.1 40 = .ok (.newarray .long, 2) := by decide +kernel
theorem d_Md_init_42 : decode mm_Md_init.2.1 42 = .ok (.putfield 24, 3) := by decide +kernel
theorem d_Md_init_45 : decode mm_Md_init.2.1 45 = .ok (.aload_n 0, 1) := by decide +kernel
theorem d_Md_init_46 : decode mm_Md_init.2.1 46 = .ok (.bipush 64, 2) := by decide +kernel
theorem d_Md_init_48 : decode mm_Md_init.2.1 48 = .ok (.newarray .boolean, 2) := by decide +kernel
theorem d_Md_init_50 : decode mm_Md_init.2.1 50 = .ok (.putfield 27, 3) := by decide +kernel
theorem d_Md_init_53 : decode mm_Md_init.2.1 53 = .ok (.aload_n 0, 1) := by decide +kernel
theorem d_Md_init_54 : decode mm_Md_init.2.1 54 = .ok (.bipush 64, 2) := by decide +kernel
theorem d_Md_init_56 : decode mm_Md_init.2.1 56 = .ok (.newarray .int, 2) := by decide +kernel
theorem d_Md_init_58 : decode mm_Md_init.2.1 58 = .ok (.putfield 30, 3) := by decide +kernel
theorem d_Md_init_61 : decode mm_Md_init.2.1 61 = .ok (.aload_n 0, 1) := by decide +kernel
theorem d_Md_init_62 : decode mm_Md_init.2.1 62 = .ok (.bipush 64, 2) := by decide +kernel
theorem d_Md_init_64 : decode mm_Md_init.2.1 64 = .ok (.newarray .int, 2) := by decide +kernel
theorem d_Md_init_66 : decode mm_Md_init.2.1 66 = .ok (.putfield 33, 3) := by decide +kernel
theorem d_Md_init_69 : decode mm_Md_init.2.1 69 = .ok (.aload_n 0, 1) := by decide +kernel
theorem d_Md_init_70 : decode mm_Md_init.2.1 70 = .ok (.sipush 2560, 3) := by decide +kernel
theorem d_Md_init_73 : decode mm_Md_init.2.1 73 = .ok (.newarray .int, 2) := by decide +kernel
theorem d_Md_init_75 : decode mm_Md_init.2.1 75 = .ok (.putfield 36, 3) := by decide +kernel
theorem d_Md_init_78 : decode mm_Md_init.2.1 78 = .ok (.aload_n 0, 1) := by decide +kernel
theorem d_Md_init_79 : decode mm_Md_init.2.1 79 = .ok (.sipush 2560, 3) := by decide +kernel
theorem d_Md_init_82 : decode mm_Md_init.2.1 82 = .ok (.newarray .int, 2) := by decide +kernel
theorem d_Md_init_84 : decode mm_Md_init.2.1 84 = .ok (.putfield 39, 3) := by decide +kernel
theorem d_Md_init_87 : decode mm_Md_init.2.1 87 = .ok (.aload_n 0, 1) := by decide +kernel
theorem d_Md_init_88 : decode mm_Md_init.2.1 88 = .ok (.sipush 2560, 3) := by decide +kernel
theorem d_Md_init_91 : decode mm_Md_init.2.1 91 = .ok (.newarray .int, 2) := by decide +kernel
theorem d_Md_init_93 : decode mm_Md_init.2.1 93 = .ok (.putfield 42, 3) := by decide +kernel
theorem d_Md_init_96 : decode mm_Md_init.2.1 96 = .ok (.aload_n 0, 1) := by decide +kernel
theorem d_Md_init_97 : decode mm_Md_init.2.1 97 = .ok (.sipush 2560, 3) := by decide +kernel
theorem d_Md_init_100 : decode mm_Md_init.2.1 100 = .ok (.newarray .int, 2) := by decide +kernel
theorem d_Md_init_102 : decode mm_Md_init.2.1 102 = .ok (.putfield 45, 3) := by decide +kernel
theorem d_Md_init_105 : decode mm_Md_init.2.1 105 = .ok (.aload_n 0, 1) := by decide +kernel
theorem d_Md_init_106 : decode mm_Md_init.2.1 106 = .ok (.sipush 2560, 3) := by decide +kernel
theorem d_Md_init_109 : decode mm_Md_init.2.1 109 = .ok (.newarray .long, 2) := by decide +kernel
theorem d_Md_init_111 : decode mm_Md_init.2.1 111 = .ok (.putfield 48, 3) := by decide +kernel
theorem d_Md_init_114 : decode mm_Md_init.2.1 114 = .ok (.aload_n 0, 1) := by decide +kernel
theorem d_Md_init_115 : decode mm_Md_init.2.1 115 = .ok (.sipush 2560, 3) := by decide +kernel
theorem d_Md_init_118 : decode mm_Md_init.2.1 118 = .ok (.newarray .int, 2) := by decide +kernel
theorem d_Md_init_120 : decode mm_Md_init.2.1 120 = .ok (.putfield 51, 3) := by decide +kernel
theorem d_Md_init_123 : decode mm_Md_init.2.1 123 = .ok (.aload_n 0, 1) := by decide +kernel
theorem d_Md_init_124 : decode mm_Md_init.2.1 124 = .ok (.sipush 2560, 3) := by decide +kernel
theorem d_Md_init_127 : decode mm_Md_init.2.1 127 = .ok (.newarray .long, 2) := by decide +kernel
theorem d_Md_init_129 : decode mm_Md_init.2.1 129 = .ok (.putfield 54, 3) := by decide +kernel
theorem d_Md_init_132 : decode mm_Md_init.2.1 132 = .ok (.aload_n 0, 1) := by decide +kernel
theorem d_Md_init_133 : decode mm_Md_init.2.1 133 = .ok (.bipush 64, 2) := by decide +kernel
theorem d_Md_init_135 : decode mm_Md_init.2.1 135 = .ok (.newarray .long, 2) := by decide +kernel
theorem d_Md_init_137 : decode mm_Md_init.2.1 137 = .ok (.putfield 57, 3) := by decide +kernel
theorem d_Md_init_140 : decode mm_Md_init.2.1 140 = .ok (.aload_n 0, 1) := by decide +kernel
theorem d_Md_init_141 : decode mm_Md_init.2.1 141 = .ok (.bipush 40, 2) := by decide +kernel
theorem d_Md_init_143 : decode mm_Md_init.2.1 143 = .ok (.newarray .int, 2) := by decide +kernel
theorem d_Md_init_145 : decode mm_Md_init.2.1 145 = .ok (.putfield 60, 3) := by decide +kernel
theorem d_Md_init_148 : decode mm_Md_init.2.1 148 = .ok (.aload_n 0, 1) := by decide +kernel
theorem d_Md_init_149 : decode mm_Md_init.2.1 149 = .ok (.bipush 40, 2) := by decide +kernel
theorem d_Md_init_151 : decode mm_Md_init.2.1 151 = .ok (.newarray .int, 2) := by decide +kernel
theorem d_Md_init_153 : decode mm_Md_init.2.1 153 = .ok (.putfield 63, 3) := by decide +kernel
theorem d_Md_init_156 : decode mm_Md_init.2.1 156 = .ok (.aload_n 0, 1) := by decide +kernel
theorem d_Md_init_157 : decode mm_Md_init.2.1 157 = .ok (.bipush 40, 2) := by decide +kernel
theorem d_Md_init_159 : decode mm_Md_init.2.1 159 = .ok (.newarray .int, 2) := by decide +kernel
theorem d_Md_init_161 : decode mm_Md_init.2.1 161 = .ok (.putfield 66, 3) := by decide +kernel
theorem d_Md_init_164 : decode mm_Md_init.2.1 164 = .ok (.aload_n 0, 1) := by decide +kernel
theorem d_Md_init_165 : decode mm_Md_init.2.1 165 = .ok (.bipush 40, 2) := by decide +kernel
theorem d_Md_init_167 : decode mm_Md_init.2.1 167 = .ok (.newarray .int, 2) := by decide +kernel
theorem d_Md_init_169 : decode mm_Md_init.2.1 169 = .ok (.putfield 69, 3) := by decide +kernel
theorem d_Md_init_172 : decode mm_Md_init.2.1 172 = .ok (.aload_n 0, 1) := by decide +kernel
theorem d_Md_init_173 : decode mm_Md_init.2.1 173 = .ok (.bipush 40, 2) := by decide +kernel
theorem d_Md_init_175 : decode mm_Md_init.2.1 175 = .ok (.newarray .long, 2) := by decide +kernel
theorem d_Md_init_177 : decode mm_Md_init.2.1 177 = .ok (.putfield 72, 3) := by decide +kernel
theorem d_Md_init_180 : decode mm_Md_init.2.1 180 = .ok (.aload_n 0, 1) := by decide +kernel
theorem d_Md_init_181 : decode mm_Md_init.2.1 181 = .ok (.bipush 40, 2) := by decide +kernel
theorem d_Md_init_183 : decode mm_Md_init.2.1 183 = .ok (.newarray .int, 2) := by decide +kernel
theorem d_Md_init_185 : decode mm_Md_init.2.1 185 = .ok (.putfield 75, 3) := by decide +kernel
theorem d_Md_init_188 : decode mm_Md_init.2.1 188 = .ok (.aload_n 0, 1) := by decide +kernel
theorem d_Md_init_189 : decode mm_Md_init.2.1 189 = .ok (.bipush 100, 2) := by decide +kernel
theorem d_Md_init_191 : decode mm_Md_init.2.1 191 = .ok (.newarray .int, 2) := by decide +kernel
theorem d_Md_init_193 : decode mm_Md_init.2.1 193 = .ok (.putfield 78, 3) := by decide +kernel
theorem d_Md_init_196 : decode mm_Md_init.2.1 196 = .ok (.aload_n 0, 1) := by decide +kernel
theorem d_Md_init_197 : decode mm_Md_init.2.1 197 = .ok (.bipush 100, 2) := by decide +kernel
theorem d_Md_init_199 : decode mm_Md_init.2.1 199 = .ok (.newarray .int, 2) := by decide +kernel
theorem d_Md_init_201 : decode mm_Md_init.2.1 201 = .ok (.putfield 81, 3) := by decide +kernel
theorem d_Md_init_204 : decode mm_Md_init.2.1 204 = .ok (.aload_n 0, 1) := by decide +kernel
theorem d_Md_init_205 : decode mm_Md_init.2.1 205 = .ok (.bipush 100, 2) := by decide +kernel
theorem d_Md_init_207 : decode mm_Md_init.2.1 207 = .ok (.newarray .int, 2) := by decide +kernel
theorem d_Md_init_209 : decode mm_Md_init.2.1 209 = .ok (.putfield 84, 3) := by decide +kernel
theorem d_Md_init_212 : decode mm_Md_init.2.1 212 = .ok (.aload_n 0, 1) := by decide +kernel
theorem d_Md_init_213 : decode mm_Md_init.2.1 213 = .ok (.bipush 64, 2) := by decide +kernel
theorem d_Md_init_215 : decode mm_Md_init.2.1 215 = .ok (.newarray .int, 2) := by decide +kernel
theorem d_Md_init_217 : decode mm_Md_init.2.1 217 = .ok (.putfield 87, 3) := by decide +kernel
theorem d_Md_init_220 : decode mm_Md_init.2.1 220 = .ok (.aload_n 0, 1) := by decide +kernel
theorem d_Md_init_221 : decode mm_Md_init.2.1 221 = .ok (.bipush 64, 2) := by decide +kernel
theorem d_Md_init_223 : decode mm_Md_init.2.1 223 = .ok (.newarray .int, 2) := by decide +kernel
theorem d_Md_init_225 : decode mm_Md_init.2.1 225 = .ok (.putfield 90, 3) := by decide +kernel
theorem d_Md_init_228 : decode mm_Md_init.2.1 228 = .ok (.aload_n 0, 1) := by decide +kernel
theorem d_Md_init_229 : decode mm_Md_init.2.1 229 = .ok (.bipush 64, 2) := by decide +kernel
theorem d_Md_init_231 : decode mm_Md_init.2.1 231 = .ok (.newarray .long, 2) := by decide +kernel
theorem d_Md_init_233 : decode mm_Md_init.2.1 233 = .ok (.putfield 93, 3) := by decide +kernel
theorem d_Md_init_236 : decode mm_Md_init.2.1 236 = .ok (.return_, 1) := by decide +kernel
theorem d_Md_thrown_0 : decode mm_Md_thrown.2.1 0 = .ok (.aload_n 0, 1) := by decide +kernel
theorem d_Md_thrown_1 : decode mm_Md_thrown.2.1 1 = .ok (.getfield 96, 3) := by decide +kernel
theorem d_Md_thrown_4 : decode mm_Md_thrown.2.1 4 = .ok (.ireturn, 1) := by decide +kernel
theorem d_Md_define_0 : decode mm_Md_define.2.1 0 = .ok (.aload_n 0, 1) := by decide +kernel
theorem d_Md_define_1 : decode mm_Md_define.2.1 1 = .ok (.iconst 0, 1) := by decide +kernel
theorem d_Md_define_2 : decode mm_Md_define.2.1 2 = .ok (.putfield 96, 3) := by decide +kernel
theorem d_Md_define_5 : decode mm_Md_define.2.1 5 = .ok (.aload_n 0, 1) := by decide +kernel
theorem d_Md_define_6 : decode mm_Md_define.2.1 6 = .ok (.iconst 0, 1) := by decide +kernel
theorem d_Md_define_7 : decode mm_Md_define.2.1 7 = .ok (.putfield 144, 3) := by decide +kernel
theorem d_Md_define_10 : decode mm_Md_define.2.1 10 = .ok (.aload_n 0, 1) := by decide +kernel
theorem d_Md_define_11 : decode mm_Md_define.2.1 11 = .ok (.iconst (-1), 1) := by decide +kernel
theorem d_Md_define_12 : decode mm_Md_define.2.1 12 = .ok (.putfield 147, 3) := by decide +kernel
theorem d_Md_define_15 : decode mm_Md_define.2.1 15 = .ok (.aload_n 0, 1) := by decide +kernel
theorem d_Md_define_16 : decode mm_Md_define.2.1 16 = .ok (.iconst 0, 1) := by decide +kernel
theorem d_Md_define_17 : decode mm_Md_define.2.1 17 = .ok (.putfield 103, 3) := by decide +kernel
theorem d_Md_define_20 : decode mm_Md_define.2.1 20 = .ok (.aload_n 0, 1) := by decide +kernel
theorem d_Md_define_21 : decode mm_Md_define.2.1 21 = .ok (.invokevirtual 176, 3) := by decide +kernel
theorem d_Md_define_24 : decode mm_Md_define.2.1 24 = .ok (.aload_n 0, 1) := by decide +kernel
theorem d_Md_define_25 : decode mm_Md_define.2.1 25 = .ok (.getfield 123, 3) := by decide +kernel
theorem d_Md_define_28 : decode mm_Md_define.2.1 28 = .ok (.lstore_n 1, 1) := by decide +kernel
theorem d_Md_define_29 : decode mm_Md_define.2.1 29 = .ok (.aload_n 0, 1) := by decide +kernel
theorem d_Md_define_30 : decode mm_Md_define.2.1 30 = .ok (.getfield 117, 3) := by decide +kernel
theorem d_Md_define_33 : decode mm_Md_define.2.1 33 = .ok (.iconst 1, 1) := by decide +kernel
theorem d_Md_define_34 : decode mm_Md_define.2.1 34 = .ok (.if_icmp .eq 7, 3) := by decide +kernel
theorem d_Md_define_37 : decode mm_Md_define.2.1 37 = .ok (.aload_n 0, 1) := by decide +kernel
theorem d_Md_define_38 : decode mm_Md_define.2.1 38 = .ok (.invokevirtual 189, 3) := by decide +kernel
theorem d_Md_define_41 : decode mm_Md_define.2.1 41 = .ok (.aload_n 0, 1) := by decide +kernel
theorem d_Md_define_42 : decode mm_Md_define.2.1 42 = .ok (.invokevirtual 176, 3) := by decide +kernel
theorem d_Md_define_45 : decode mm_Md_define.2.1 45 = .ok (.aload_n 0, 1) := by decide +kernel
theorem d_Md_define_46 : decode mm_Md_define.2.1 46 = .ok (.getfield 144, 3) := by decide +kernel
theorem d_Md_define_49 : decode mm_Md_define.2.1 49 = .ok (.ifCond .ne 16, 3) := by decide +kernel
theorem d_Md_define_52 : decode mm_Md_define.2.1 52 = .ok (.aload_n 0, 1) := by decide +kernel
theorem d_Md_define_53 : decode mm_Md_define.2.1 53 = .ok (.getfield 117, 3) := by decide +kernel
theorem d_Md_define_56 : decode mm_Md_define.2.1 56 = .ok (.bipush 61, 2) := by decide +kernel
theorem d_Md_define_58 : decode mm_Md_define.2.1 58 = .ok (.if_icmp .eq 7, 3) := by decide +kernel
theorem d_Md_define_61 : decode mm_Md_define.2.1 61 = .ok (.aload_n 0, 1) := by decide +kernel
theorem d_Md_define_62 : decode mm_Md_define.2.1 62 = .ok (.invokevirtual 189, 3) := by decide +kernel
theorem d_Md_define_65 : decode mm_Md_define.2.1 65 = .ok (.aload_n 0, 1) := by decide +kernel
theorem d_Md_define_66 : decode mm_Md_define.2.1 66 = .ok (.getfield 144, 3) := by decide +kernel
theorem d_Md_define_69 : decode mm_Md_define.2.1 69 = .ok (.ifCond .ne 11, 3) := by decide +kernel
theorem d_Md_define_72 : decode mm_Md_define.2.1 72 = .ok (.aload_n 0, 1) := by decide +kernel
theorem d_Md_define_73 : decode mm_Md_define.2.1 73 = .ok (.invokevirtual 176, 3) := by decide +kernel
theorem d_Md_define_76 : decode mm_Md_define.2.1 76 = .ok (.aload_n 0, 1) := by decide +kernel
theorem d_Md_define_77 : decode mm_Md_define.2.1 77 = .ok (.invokevirtual 211, 3) := by decide +kernel
theorem d_Md_define_80 : decode mm_Md_define.2.1 80 = .ok (.aload_n 0, 1) := by decide +kernel
theorem d_Md_define_81 : decode mm_Md_define.2.1 81 = .ok (.getfield 144, 3) := by decide +kernel
theorem d_Md_define_84 : decode mm_Md_define.2.1 84 = .ok (.ifCond .ne 11, 3) := by decide +kernel
theorem d_Md_define_87 : decode mm_Md_define.2.1 87 = .ok (.aload_n 0, 1) := by decide +kernel
theorem d_Md_define_88 : decode mm_Md_define.2.1 88 = .ok (.lload_n 1, 1) := by decide +kernel
theorem d_Md_define_89 : decode mm_Md_define.2.1 89 = .ok (.invokevirtual 214, 3) := by decide +kernel
theorem d_Md_define_92 : decode mm_Md_define.2.1 92 = .ok (.goto 4, 3) := by decide +kernel
theorem d_Md_define_95 : decode mm_Md_define.2.1 95 = .ok (.iconst (-1), 1) := by decide +kernel
theorem d_Md_define_96 : decode mm_Md_define.2.1 96 = .ok (.istore_n 3, 1) := by decide +kernel
theorem d_Md_define_97 : decode mm_Md_define.2.1 97 = .ok (.aload_n 0, 1) := by decide +kernel
theorem d_Md_define_98 : decode mm_Md_define.2.1 98 = .ok (.getfield 144, 3) := by decide +kernel
theorem d_Md_define_101 : decode mm_Md_define.2.1 101 = .ok (.ifCond .ne 22, 3) := by decide +kernel
theorem d_Md_define_104 : decode mm_Md_define.2.1 104 = .ok (.iload_n 3, 1) := by decide +kernel
theorem d_Md_define_105 : decode mm_Md_define.2.1 105 = .ok (.ifCond .ge 18, 3) := by decide +kernel
theorem d_Md_define_108 : decode mm_Md_define.2.1 108 = .ok (.aload_n 0, 1) := by decide +kernel
theorem d_Md_define_109 : decode mm_Md_define.2.1 109 = .ok (.invokevirtual 218, 3) := by decide +kernel
theorem d_Md_define_112 : decode mm_Md_define.2.1 112 = .ok (.bipush 64, 2) := by decide +kernel
theorem d_Md_define_114 : decode mm_Md_define.2.1 114 = .ok (.if_icmp .ne 9, 3) := by decide +kernel
theorem d_Md_define_117 : decode mm_Md_define.2.1 117 = .ok (.aload_n 0, 1) := by decide +kernel
theorem d_Md_define_118 : decode mm_Md_define.2.1 118 = .ok (.iconst 4, 1) := by decide +kernel
theorem d_Md_define_119 : decode mm_Md_define.2.1 119 = .ok (.iconst 0, 1) := by decide +kernel
theorem d_Md_define_120 : decode mm_Md_define.2.1 120 = .ok (.invokevirtual 150, 3) := by decide +kernel
theorem d_Md_define_123 : decode mm_Md_define.2.1 123 = .ok (.aload_n 0, 1) := by decide +kernel
theorem d_Md_define_124 : decode mm_Md_define.2.1 124 = .ok (.getfield 144, 3) := by decide +kernel
theorem d_Md_define_127 : decode mm_Md_define.2.1 127 = .ok (.ifCond .ne 11, 3) := by decide +kernel
theorem d_Md_define_130 : decode mm_Md_define.2.1 130 = .ok (.aload_n 0, 1) := by decide +kernel
theorem d_Md_define_131 : decode mm_Md_define.2.1 131 = .ok (.lload_n 1, 1) := by decide +kernel
theorem d_Md_define_132 : decode mm_Md_define.2.1 132 = .ok (.invokevirtual 221, 3) := by decide +kernel
theorem d_Md_define_135 : decode mm_Md_define.2.1 135 = .ok (.goto 4, 3) := by decide +kernel
theorem d_Md_define_138 : decode mm_Md_define.2.1 138 = .ok (.lconst 0, 1) := by decide +kernel
theorem d_Md_define_139 : decode mm_Md_define.2.1 139 = .ok (.lstore 4, 2) := by decide +kernel
theorem d_Md_define_141 : decode mm_Md_define.2.1 141 = .ok (.iconst (-1), 1) := by decide +kernel
theorem d_Md_define_142 : decode mm_Md_define.2.1 142 = .ok (.istore 6, 2) := by decide +kernel
theorem d_Md_define_144 : decode mm_Md_define.2.1 144 = .ok (.iconst 0, 1) := by decide +kernel
theorem d_Md_define_145 : decode mm_Md_define.2.1 145 = .ok (.istore 7, 2) := by decide +kernel
theorem d_Md_define_147 : decode mm_Md_define.2.1 147 = .ok (.aload_n 0, 1) := by decide +kernel
theorem d_Md_define_148 : decode mm_Md_define.2.1 148 = .ok (.getfield 144, 3) := by decide +kernel
theorem d_Md_define_151 : decode mm_Md_define.2.1 151 = .ok (.ifCond .ne 114, 3) := by decide +kernel
theorem d_Md_define_154 : decode mm_Md_define.2.1 154 = .ok (.iload 7, 2) := by decide +kernel
theorem d_Md_define_156 : decode mm_Md_define.2.1 156 = .ok (.aload_n 0, 1) := by decide +kernel
theorem d_Md_define_157 : decode mm_Md_define.2.1 157 = .ok (.getfield 154, 3) := by decide +kernel
theorem d_Md_define_160 : decode mm_Md_define.2.1 160 = .ok (.if_icmp .ge 105, 3) := by decide +kernel
theorem d_Md_define_163 : decode mm_Md_define.2.1 163 = .ok (.aload_n 0, 1) := by decide +kernel
theorem d_Md_define_164 : decode mm_Md_define.2.1 164 = .ok (.getfield 60, 3) := by decide +kernel
theorem d_Md_define_167 : decode mm_Md_define.2.1 167 = .ok (.iload 7, 2) := by decide +kernel
theorem d_Md_define_169 : decode mm_Md_define.2.1 169 = .ok (.iaload, 1) := by decide +kernel
theorem d_Md_define_170 : decode mm_Md_define.2.1 170 = .ok (.iconst 1, 1) := by decide +kernel
theorem d_Md_define_171 : decode mm_Md_define.2.1 171 = .ok (.if_icmp .ne 88, 3) := by decide +kernel
theorem d_Md_define_174 : decode mm_Md_define.2.1 174 = .ok (.aload_n 0, 1) := by decide +kernel
theorem d_Md_define_175 : decode mm_Md_define.2.1 175 = .ok (.aload_n 0, 1) := by decide +kernel
theorem d_Md_define_176 : decode mm_Md_define.2.1 176 = .ok (.getfield 72, 3) := by decide +kernel
theorem d_Md_define_179 : decode mm_Md_define.2.1 179 = .ok (.iload 7, 2) := by decide +kernel
theorem d_Md_define_181 : decode mm_Md_define.2.1 181 = .ok (.laload, 1) := by decide +kernel
theorem d_Md_define_182 : decode mm_Md_define.2.1 182 = .ok (.invokevirtual 214, 3) := by decide +kernel
theorem d_Md_define_185 : decode mm_Md_define.2.1 185 = .ok (.istore 8, 2) := by decide +kernel
theorem d_Md_define_187 : decode mm_Md_define.2.1 187 = .ok (.aload_n 0, 1) := by decide +kernel
theorem d_Md_define_188 : decode mm_Md_define.2.1 188 = .ok (.getfield 72, 3) := by decide +kernel
theorem d_Md_define_191 : decode mm_Md_define.2.1 191 = .ok (.iload 7, 2) := by decide +kernel
theorem d_Md_define_193 : decode mm_Md_define.2.1 193 = .ok (.laload, 1) := by decide +kernel
theorem d_Md_define_194 : decode mm_Md_define.2.1 194 = .ok (.lload_n 1, 1) := by decide +kernel
theorem d_Md_define_195 : decode mm_Md_define.2.1 195 = .ok (.lcmp, 1) := by decide +kernel
theorem d_Md_define_196 : decode mm_Md_define.2.1 196 = .ok (.ifCond .eq 20, 3) := by decide +kernel
theorem d_Md_define_199 : decode mm_Md_define.2.1 199 = .ok (.iload 8, 2) := by decide +kernel
theorem d_Md_define_201 : decode mm_Md_define.2.1 201 = .ok (.ifCond .lt 19, 3) := by decide +kernel
theorem d_Md_define_204 : decode mm_Md_define.2.1 204 = .ok (.lload 4, 2) := by decide +kernel
theorem d_Md_define_206 : decode mm_Md_define.2.1 206 = .ok (.iload 8, 2) := by decide +kernel
theorem d_Md_define_208 : decode mm_Md_define.2.1 208 = .ok (.lshr, 1) := by decide +kernel
theorem d_Md_define_209 : decode mm_Md_define.2.1 209 = .ok (.lconst 1, 1) := by decide +kernel
theorem d_Md_define_210 : decode mm_Md_define.2.1 210 = .ok (.land, 1) := by decide +kernel
theorem d_Md_define_211 : decode mm_Md_define.2.1 211 = .ok (.lconst 1, 1) := by decide +kernel
theorem d_Md_define_212 : decode mm_Md_define.2.1 212 = .ok (.lcmp, 1) := by decide +kernel
theorem d_Md_define_213 : decode mm_Md_define.2.1 213 = .ok (.ifCond .ne 7, 3) := by decide +kernel
theorem d_Md_define_216 : decode mm_Md_define.2.1 216 = .ok (.iconst 1, 1) := by decide +kernel
theorem d_Md_define_217 : decode mm_Md_define.2.1 217 = .ok (.goto 4, 3) := by decide +kernel
theorem d_Md_define_220 : decode mm_Md_define.2.1 220 = .ok (.iconst 0, 1) := by decide +kernel
theorem d_Md_define_221 : decode mm_Md_define.2.1 221 = .ok (.istore 9, 2) := by decide +kernel
theorem d_Md_define_223 : decode mm_Md_define.2.1 223 = .ok (.iload 9, 2) := by decide +kernel
theorem d_Md_define_225 : decode mm_Md_define.2.1 225 = .ok (.ifCond .eq 30, 3) := by decide +kernel
theorem d_Md_define_228 : decode mm_Md_define.2.1 228 = .ok (.iload 6, 2) := by decide +kernel
theorem d_Md_define_230 : decode mm_Md_define.2.1 230 = .ok (.ifCond .lt 15, 3) := by decide +kernel
theorem d_Md_define_233 : decode mm_Md_define.2.1 233 = .ok (.aload_n 0, 1) := by decide +kernel
theorem d_Md_define_234 : decode mm_Md_define.2.1 234 = .ok (.getfield 75, 3) := by decide +kernel
theorem d_Md_define_237 : decode mm_Md_define.2.1 237 = .ok (.iload 7, 2) := by decide +kernel
theorem d_Md_define_239 : decode mm_Md_define.2.1 239 = .ok (.iaload, 1) := by decide +kernel
theorem d_Md_define_240 : decode mm_Md_define.2.1 240 = .ok (.iload 6, 2) := by decide +kernel
theorem d_Md_define_242 : decode mm_Md_define.2.1 242 = .ok (.if_icmp .ge 13, 3) := by decide +kernel
theorem d_Md_define_245 : decode mm_Md_define.2.1 245 = .ok (.aload_n 0, 1) := by decide +kernel
theorem d_Md_define_246 : decode mm_Md_define.2.1 246 = .ok (.getfield 75, 3) := by decide +kernel
theorem d_Md_define_249 : decode mm_Md_define.2.1 249 = .ok (.iload 7, 2) := by decide +kernel
theorem d_Md_define_251 : decode mm_Md_define.2.1 251 = .ok (.iaload, 1) := by decide +kernel
theorem d_Md_define_252 : decode mm_Md_define.2.1 252 = .ok (.goto 5, 3) := by decide +kernel
theorem d_Md_define_255 : decode mm_Md_define.2.1 255 = .ok (.iload 6, 2) := by decide +kernel
theorem d_Md_define_257 : decode mm_Md_define.2.1 257 = .ok (.istore 6, 2) := by decide +kernel
theorem d_Md_define_259 : decode mm_Md_define.2.1 259 = .ok (.iinc 7 1, 3) := by decide +kernel
theorem d_Md_define_262 : decode mm_Md_define.2.1 262 = .ok (.goto (-115), 3) := by decide +kernel
theorem d_Md_define_265 : decode mm_Md_define.2.1 265 = .ok (.iload 6, 2) := by decide +kernel
theorem d_Md_define_267 : decode mm_Md_define.2.1 267 = .ok (.ifCond .lt 10, 3) := by decide +kernel
theorem d_Md_define_270 : decode mm_Md_define.2.1 270 = .ok (.aload_n 0, 1) := by decide +kernel
theorem d_Md_define_271 : decode mm_Md_define.2.1 271 = .ok (.iconst 5, 1) := by decide +kernel
theorem d_Md_define_272 : decode mm_Md_define.2.1 272 = .ok (.iload 6, 2) := by decide +kernel
theorem d_Md_define_274 : decode mm_Md_define.2.1 274 = .ok (.invokevirtual 150, 3) := by decide +kernel
theorem d_Md_define_277 : decode mm_Md_define.2.1 277 = .ok (.aload_n 0, 1) := by decide +kernel
theorem d_Md_define_278 : decode mm_Md_define.2.1 278 = .ok (.iconst 0, 1) := by decide +kernel
theorem d_Md_define_279 : decode mm_Md_define.2.1 279 = .ok (.putfield 100, 3) := by decide +kernel
theorem d_Md_define_282 : decode mm_Md_define.2.1 282 = .ok (.aload_n 0, 1) := by decide +kernel
theorem d_Md_define_283 : decode mm_Md_define.2.1 283 = .ok (.getfield 144, 3) := by decide +kernel
theorem d_Md_define_286 : decode mm_Md_define.2.1 286 = .ok (.ifCond .le 8, 3) := by decide +kernel
theorem d_Md_define_289 : decode mm_Md_define.2.1 289 = .ok (.aload_n 0, 1) := by decide +kernel
theorem d_Md_define_290 : decode mm_Md_define.2.1 290 = .ok (.getfield 147, 3) := by decide +kernel
theorem d_Md_define_293 : decode mm_Md_define.2.1 293 = .ok (.ireturn, 1) := by decide +kernel
theorem d_Md_define_294 : decode mm_Md_define.2.1 294 = .ok (.iload_n 3, 1) := by decide +kernel
theorem d_Md_define_295 : decode mm_Md_define.2.1 295 = .ok (.ifCond .ge 48, 3) := by decide +kernel
theorem d_Md_define_298 : decode mm_Md_define.2.1 298 = .ok (.iconst 0, 1) := by decide +kernel
theorem d_Md_define_299 : decode mm_Md_define.2.1 299 = .ok (.istore_n 3, 1) := by decide +kernel
theorem d_Md_define_300 : decode mm_Md_define.2.1 300 = .ok (.aload_n 0, 1) := by decide +kernel
theorem d_Md_define_301 : decode mm_Md_define.2.1 301 = .ok (.getfield 13, 3) := by decide +kernel
theorem d_Md_define_304 : decode mm_Md_define.2.1 304 = .ok (.iload_n 3, 1) := by decide +kernel
theorem d_Md_define_305 : decode mm_Md_define.2.1 305 = .ok (.baload, 1) := by decide +kernel
theorem d_Md_define_306 : decode mm_Md_define.2.1 306 = .ok (.ifCond .eq 9, 3) := by decide +kernel
theorem d_Md_define_309 : decode mm_Md_define.2.1 309 = .ok (.iinc 3 1, 3) := by decide +kernel
theorem d_Md_define_312 : decode mm_Md_define.2.1 312 = .ok (.goto (-12), 3) := by decide +kernel
theorem d_Md_define_315 : decode mm_Md_define.2.1 315 = .ok (.aload_n 0, 1) := by decide +kernel
theorem d_Md_define_316 : decode mm_Md_define.2.1 316 = .ok (.getfield 13, 3) := by decide +kernel
theorem d_Md_define_319 : decode mm_Md_define.2.1 319 = .ok (.iload_n 3, 1) := by decide +kernel
theorem d_Md_define_320 : decode mm_Md_define.2.1 320 = .ok (.iconst 1, 1) := by decide +kernel
theorem d_Md_define_321 : decode mm_Md_define.2.1 321 = .ok (.bastore, 1) := by decide +kernel
theorem d_Md_define_322 : decode mm_Md_define.2.1 322 = .ok (.aload_n 0, 1) := by decide +kernel
theorem d_Md_define_323 : decode mm_Md_define.2.1 323 = .ok (.getfield 17, 3) := by decide +kernel
theorem d_Md_define_326 : decode mm_Md_define.2.1 326 = .ok (.iload_n 3, 1) := by decide +kernel
theorem d_Md_define_327 : decode mm_Md_define.2.1 327 = .ok (.lload_n 1, 1) := by decide +kernel
theorem d_Md_define_328 : decode mm_Md_define.2.1 328 = .ok (.lastore, 1) := by decide +kernel
theorem d_Md_define_329 : decode mm_Md_define.2.1 329 = .ok (.aload_n 0, 1) := by decide +kernel
theorem d_Md_define_330 : decode mm_Md_define.2.1 330 = .ok (.getfield 21, 3) := by decide +kernel
theorem d_Md_define_333 : decode mm_Md_define.2.1 333 = .ok (.iload_n 3, 1) := by decide +kernel
theorem d_Md_define_334 : decode mm_Md_define.2.1 334 = .ok (.iconst 0, 1) := by decide +kernel
theorem d_Md_define_335 : decode mm_Md_define.2.1 335 = .ok (.iastore, 1) := by decide +kernel
theorem d_Md_define_336 : decode mm_Md_define.2.1 336 = .ok (.aload_n 0, 1) := by decide +kernel
theorem d_Md_define_337 : decode mm_Md_define.2.1 337 = .ok (.getfield 24, 3) := by decide +kernel
theorem d_Md_define_340 : decode mm_Md_define.2.1 340 = .ok (.iload_n 3, 1) := by decide +kernel
theorem d_Md_define_341 : decode mm_Md_define.2.1 341 = .ok (.lconst 0, 1) := by decide +kernel
theorem d_Md_define_342 : decode mm_Md_define.2.1 342 = .ok (.lastore, 1) := by decide +kernel
theorem d_Md_define_343 : decode mm_Md_define.2.1 343 = .ok (.aload_n 0, 1) := by decide +kernel
theorem d_Md_define_344 : decode mm_Md_define.2.1 344 = .ok (.getfield 27, 3) := by decide +kernel
theorem d_Md_define_347 : decode mm_Md_define.2.1 347 = .ok (.iload_n 3, 1) := by decide +kernel
theorem d_Md_define_348 : decode mm_Md_define.2.1 348 = .ok (.iconst 0, 1) := by decide +kernel
theorem d_Md_define_349 : decode mm_Md_define.2.1 349 = .ok (.bastore, 1) := by decide +kernel
theorem d_Md_define_350 : decode mm_Md_define.2.1 350 = .ok (.aload_n 0, 1) := by decide +kernel
theorem d_Md_define_351 : decode mm_Md_define.2.1 351 = .ok (.getfield 33, 3) := by decide +kernel
theorem d_Md_define_354 : decode mm_Md_define.2.1 354 = .ok (.iload_n 3, 1) := by decide +kernel
theorem d_Md_define_355 : decode mm_Md_define.2.1 355 = .ok (.aload_n 0, 1) := by decide +kernel
theorem d_Md_define_356 : decode mm_Md_define.2.1 356 = .ok (.getfield 154, 3) := by decide +kernel
theorem d_Md_define_359 : decode mm_Md_define.2.1 359 = .ok (.iastore, 1) := by decide +kernel
theorem d_Md_define_360 : decode mm_Md_define.2.1 360 = .ok (.aload_n 0, 1) := by decide +kernel
theorem d_Md_define_361 : decode mm_Md_define.2.1 361 = .ok (.getfield 30, 3) := by decide +kernel
theorem d_Md_define_364 : decode mm_Md_define.2.1 364 = .ok (.iload_n 3, 1) := by decide +kernel
theorem d_Md_define_365 : decode mm_Md_define.2.1 365 = .ok (.aload_n 0, 1) := by decide +kernel
theorem d_Md_define_366 : decode mm_Md_define.2.1 366 = .ok (.getfield 84, 3) := by decide +kernel
theorem d_Md_define_369 : decode mm_Md_define.2.1 369 = .ok (.iconst 0, 1) := by decide +kernel
theorem d_Md_define_370 : decode mm_Md_define.2.1 370 = .ok (.iaload, 1) := by decide +kernel
theorem d_Md_define_371 : decode mm_Md_define.2.1 371 = .ok (.iastore, 1) := by decide +kernel
theorem d_Md_define_372 : decode mm_Md_define.2.1 372 = .ok (.iconst 0, 1) := by decide +kernel
theorem d_Md_define_373 : decode mm_Md_define.2.1 373 = .ok (.istore 7, 2) := by decide +kernel
theorem d_Md_define_375 : decode mm_Md_define.2.1 375 = .ok (.iload 7, 2) := by decide +kernel
theorem d_Md_define_377 : decode mm_Md_define.2.1 377 = .ok (.aload_n 0, 1) := by decide +kernel
theorem d_Md_define_378 : decode mm_Md_define.2.1 378 = .ok (.getfield 154, 3) := by decide +kernel
theorem d_Md_define_381 : decode mm_Md_define.2.1 381 = .ok (.if_icmp .ge 88, 3) := by decide +kernel
theorem d_Md_define_384 : decode mm_Md_define.2.1 384 = .ok (.bipush 40, 2) := by decide +kernel
theorem d_Md_define_386 : decode mm_Md_define.2.1 386 = .ok (.iload_n 3, 1) := by decide +kernel
theorem d_Md_define_387 : decode mm_Md_define.2.1 387 = .ok (.imul, 1) := by decide +kernel
theorem d_Md_define_388 : decode mm_Md_define.2.1 388 = .ok (.iload 7, 2) := by decide +kernel
theorem d_Md_define_390 : decode mm_Md_define.2.1 390 = .ok (.iadd, 1) := by decide +kernel
theorem d_Md_define_391 : decode mm_Md_define.2.1 391 = .ok (.istore 8, 2) := by decide +kernel
theorem d_Md_define_393 : decode mm_Md_define.2.1 393 = .ok (.aload_n 0, 1) := by decide +kernel
theorem d_Md_define_394 : decode mm_Md_define.2.1 394 = .ok (.getfield 36, 3) := by decide +kernel
theorem d_Md_define_397 : decode mm_Md_define.2.1 397 = .ok (.iload 8, 2) := by decide +kernel
theorem d_Md_define_399 : decode mm_Md_define.2.1 399 = .ok (.aload_n 0, 1) := by decide +kernel
theorem d_Md_define_400 : decode mm_Md_define.2.1 400 = .ok (.getfield 60, 3) := by decide +kernel
theorem d_Md_define_403 : decode mm_Md_define.2.1 403 = .ok (.iload 7, 2) := by decide +kernel
theorem d_Md_define_405 : decode mm_Md_define.2.1 405 = .ok (.iaload, 1) := by decide +kernel
theorem d_Md_define_406 : decode mm_Md_define.2.1 406 = .ok (.iastore, 1) := by decide +kernel
theorem d_Md_define_407 : decode mm_Md_define.2.1 407 = .ok (.aload_n 0, 1) := by decide +kernel
theorem d_Md_define_408 : decode mm_Md_define.2.1 408 = .ok (.getfield 39, 3) := by decide +kernel
theorem d_Md_define_411 : decode mm_Md_define.2.1 411 = .ok (.iload 8, 2) := by decide +kernel
theorem d_Md_define_413 : decode mm_Md_define.2.1 413 = .ok (.aload_n 0, 1) := by decide +kernel
theorem d_Md_define_414 : decode mm_Md_define.2.1 414 = .ok (.getfield 63, 3) := by decide +kernel
theorem d_Md_define_417 : decode mm_Md_define.2.1 417 = .ok (.iload 7, 2) := by decide +kernel
theorem d_Md_define_419 : decode mm_Md_define.2.1 419 = .ok (.iaload, 1) := by decide +kernel
theorem d_Md_define_420 : decode mm_Md_define.2.1 420 = .ok (.iastore, 1) := by decide +kernel
theorem d_Md_define_421 : decode mm_Md_define.2.1 421 = .ok (.aload_n 0, 1) := by decide +kernel
theorem d_Md_define_422 : decode mm_Md_define.2.1 422 = .ok (.getfield 42, 3) := by decide +kernel
theorem d_Md_define_425 : decode mm_Md_define.2.1 425 = .ok (.iload 8, 2) := by decide +kernel
theorem d_Md_define_427 : decode mm_Md_define.2.1 427 = .ok (.aload_n 0, 1) := by decide +kernel
theorem d_Md_define_428 : decode mm_Md_define.2.1 428 = .ok (.getfield 66, 3) := by decide +kernel
theorem d_Md_define_431 : decode mm_Md_define.2.1 431 = .ok (.iload 7, 2) := by decide +kernel
theorem d_Md_define_433 : decode mm_Md_define.2.1 433 = .ok (.iaload, 1) := by decide +kernel
theorem d_Md_define_434 : decode mm_Md_define.2.1 434 = .ok (.iastore, 1) := by decide +kernel
theorem d_Md_define_435 : decode mm_Md_define.2.1 435 = .ok (.aload_n 0, 1) := by decide +kernel
theorem d_Md_define_436 : decode mm_Md_define.2.1 436 = .ok (.getfield 45, 3) := by decide +kernel
theorem d_Md_define_439 : decode mm_Md_define.2.1 439 = .ok (.iload 8, 2) := by decide +kernel
theorem d_Md_define_441 : decode mm_Md_define.2.1 441 = .ok (.aload_n 0, 1) := by decide +kernel
theorem d_Md_define_442 : decode mm_Md_define.2.1 442 = .ok (.getfield 69, 3) := by decide +kernel
theorem d_Md_define_445 : decode mm_Md_define.2.1 445 = .ok (.iload 7, 2) := by decide +kernel
theorem d_Md_define_447 : decode mm_Md_define.2.1 447 = .ok (.iaload, 1) := by decide +kernel
theorem d_Md_define_448 : decode mm_Md_define.2.1 448 = .ok (.iastore, 1) := by decide +kernel
theorem d_Md_define_449 : decode mm_Md_define.2.1 449 = .ok (.aload_n 0, 1) := by decide +kernel
theorem d_Md_define_450 : decode mm_Md_define.2.1 450 = .ok (.getfield 48, 3) := by decide +kernel
theorem d_Md_define_453 : decode mm_Md_define.2.1 453 = .ok (.iload 8, 2) := by decide +kernel
theorem d_Md_define_455 : decode mm_Md_define.2.1 455 = .ok (.aload_n 0, 1) := by decide +kernel
theorem d_Md_define_456 : decode mm_Md_define.2.1 456 = .ok (.getfield 72, 3) := by decide +kernel
theorem d_Md_define_459 : decode mm_Md_define.2.1 459 = .ok (.iload 7, 2) := by decide +kernel
theorem d_Md_define_461 : decode mm_Md_define.2.1 461 = .ok (.laload, 1) := by decide +kernel
theorem d_Md_define_462 : decode mm_Md_define.2.1 462 = .ok (.lastore, 1) := by decide +kernel
theorem d_Md_define_463 : decode mm_Md_define.2.1 463 = .ok (.iinc 7 1, 3) := by decide +kernel
theorem d_Md_define_466 : decode mm_Md_define.2.1 466 = .ok (.goto (-91), 3) := by decide +kernel
theorem d_Md_define_469 : decode mm_Md_define.2.1 469 = .ok (.iconst (-1), 1) := by decide +kernel
theorem d_Md_define_470 : decode mm_Md_define.2.1 470 = .ok (.ireturn, 1) := by decide +kernel
theorem d_Md_next_0 : decode mm_Md_next.2.1 0 = .ok (.aload_n 0, 1) := by decide +kernel
theorem d_Md_next_1 : decode mm_Md_next.2.1 1 = .ok (.getfield 103, 3) := by decide +kernel
end
section
theorem d_Md_next_4 : decode mm_Md_next.2.1 4 = .ok (.aload_n 0, 1) := by decide +kernel
theorem d_Md_next_5 : decode mm_Md_next.2.1 5 = .ok (.getfield 100, 3) := by decide +kernel
theorem d_Md_next_8 : decode mm_Md_next.2.1 8 = .ok (.if_icmp .ge 30, 3) := by decide +kernel
theorem d_Md_next_11 : decode mm_Md_next.2.1 11 = .ok (.aload_n 0, 1) := by decide +kernel
theorem d_Md_next_12 : decode mm_Md_next.2.1 12 = .ok (.aload_n 0, 1) := by decide +kernel
theorem d_Md_next_13 : decode mm_Md_next.2.1 13 = .ok (.getfield 103, 3) := by decide +kernel
theorem d_Md_next_16 : decode mm_Md_next.2.1 16 = .ok (.invokevirtual 106, 3) := by decide +kernel
theorem d_Md_next_19 : decode mm_Md_next.2.1 19 = .ok (.invokestatic 110, 3) := by decide +kernel
theorem d_Md_next_22 : decode mm_Md_next.2.1 22 = .ok (.ifCond .eq 16, 3) := by decide +kernel
theorem d_Md_next_25 : decode mm_Md_next.2.1 25 = .ok (.aload_n 0, 1) := by decide +kernel
theorem d_Md_next_26 : decode mm_Md_next.2.1 26 = .ok (.dup, 1) := by decide +kernel
theorem d_Md_next_27 : decode mm_Md_next.2.1 27 = .ok (.getfield 103, 3) := by decide +kernel
theorem d_Md_next_30 : decode mm_Md_next.2.1 30 = .ok (.iconst 1, 1) := by decide +kernel
theorem d_Md_next_31 : decode mm_Md_next.2.1 31 = .ok (.iadd, 1) := by decide +kernel
theorem d_Md_next_32 : decode mm_Md_next.2.1 32 = .ok (.putfield 103, 3) := by decide +kernel
theorem d_Md_next_35 : decode mm_Md_next.2.1 35 = .ok (.goto (-35), 3) := by decide +kernel
theorem d_Md_next_38 : decode mm_Md_next.2.1 38 = .ok (.aload_n 0, 1) := by decide +kernel
theorem d_Md_next_39 : decode mm_Md_next.2.1 39 = .ok (.aload_n 0, 1) := by decide +kernel
theorem d_Md_next_40 : decode mm_Md_next.2.1 40 = .ok (.getfield 103, 3) := by decide +kernel
theorem d_Md_next_43 : decode mm_Md_next.2.1 43 = .ok (.putfield 114, 3) := by decide +kernel
theorem d_Md_next_46 : decode mm_Md_next.2.1 46 = .ok (.aload_n 0, 1) := by decide +kernel
theorem d_Md_next_47 : decode mm_Md_next.2.1 47 = .ok (.aload_n 0, 1) := by decide +kernel
theorem d_Md_next_48 : decode mm_Md_next.2.1 48 = .ok (.getfield 103, 3) := by decide +kernel
theorem d_Md_next_51 : decode mm_Md_next.2.1 51 = .ok (.invokevirtual 106, 3) := by decide +kernel
theorem d_Md_next_54 : decode mm_Md_next.2.1 54 = .ok (.istore_n 1, 1) := by decide +kernel
theorem d_Md_next_55 : decode mm_Md_next.2.1 55 = .ok (.aload_n 0, 1) := by decide +kernel
theorem d_Md_next_56 : decode mm_Md_next.2.1 56 = .ok (.getfield 103, 3) := by decide +kernel
theorem d_Md_next_59 : decode mm_Md_next.2.1 59 = .ok (.aload_n 0, 1) := by decide +kernel
theorem d_Md_next_60 : decode mm_Md_next.2.1 60 = .ok (.getfield 100, 3) := by decide +kernel
theorem d_Md_next_63 : decode mm_Md_next.2.1 63 = .ok (.if_icmp .lt 12, 3) := by decide +kernel
theorem d_Md_next_66 : decode mm_Md_next.2.1 66 = .ok (.aload_n 0, 1) := by decide +kernel
theorem d_Md_next_67 : decode mm_Md_next.2.1 67 = .ok (.bipush (-2), 2) := by decide +kernel
theorem d_Md_next_69 : decode mm_Md_next.2.1 69 = .ok (.putfield 117, 3) := by decide +kernel
theorem d_Md_next_72 : decode mm_Md_next.2.1 72 = .ok (.goto 325, 3) := by decide +kernel
theorem d_Md_next_75 : decode mm_Md_next.2.1 75 = .ok (.iload_n 1, 1) := by decide +kernel
theorem d_Md_next_76 : decode mm_Md_next.2.1 76 = .ok (.invokestatic 120, 3) := by decide +kernel
theorem d_Md_next_79 : decode mm_Md_next.2.1 79 = .ok (.ifCond .eq 105, 3) := by decide +kernel
theorem d_Md_next_82 : decode mm_Md_next.2.1 82 = .ok (.aload_n 0, 1) := by decide +kernel
theorem d_Md_next_83 : decode mm_Md_next.2.1 83 = .ok (.lconst 0, 1) := by decide +kernel
theorem d_Md_next_84 : decode mm_Md_next.2.1 84 = .ok (.putfield 123, 3) := by decide +kernel
theorem d_Md_next_87 : decode mm_Md_next.2.1 87 = .ok (.aload_n 0, 1) := by decide +kernel
theorem d_Md_next_88 : decode mm_Md_next.2.1 88 = .ok (.aload_n 0, 1) := by decide +kernel
theorem d_Md_next_89 : decode mm_Md_next.2.1 89 = .ok (.getfield 103, 3) := by decide +kernel
theorem d_Md_next_92 : decode mm_Md_next.2.1 92 = .ok (.invokevirtual 106, 3) := by decide +kernel
theorem d_Md_next_95 : decode mm_Md_next.2.1 95 = .ok (.invokestatic 120, 3) := by decide +kernel
theorem d_Md_next_98 : decode mm_Md_next.2.1 98 = .ok (.ifCond .eq 60, 3) := by decide +kernel
theorem d_Md_next_101 : decode mm_Md_next.2.1 101 = .ok (.aload_n 0, 1) := by decide +kernel
theorem d_Md_next_102 : decode mm_Md_next.2.1 102 = .ok (.aload_n 0, 1) := by decide +kernel
theorem d_Md_next_103 : decode mm_Md_next.2.1 103 = .ok (.getfield 103, 3) := by decide +kernel
theorem d_Md_next_106 : decode mm_Md_next.2.1 106 = .ok (.aload_n 0, 1) := by decide +kernel
theorem d_Md_next_107 : decode mm_Md_next.2.1 107 = .ok (.getfield 114, 3) := by decide +kernel
theorem d_Md_next_110 : decode mm_Md_next.2.1 110 = .ok (.isub, 1) := by decide +kernel
theorem d_Md_next_111 : decode mm_Md_next.2.1 111 = .ok (.bipush 9, 2) := by decide +kernel
theorem d_Md_next_113 : decode mm_Md_next.2.1 113 = .ok (.if_icmp .ge 28, 3) := by decide +kernel
theorem d_Md_next_116 : decode mm_Md_next.2.1 116 = .ok (.ldc2_w 127, 3) := by decide +kernel
theorem d_Md_next_119 : decode mm_Md_next.2.1 119 = .ok (.aload_n 0, 1) := by decide +kernel
theorem d_Md_next_120 : decode mm_Md_next.2.1 120 = .ok (.getfield 123, 3) := by decide +kernel
theorem d_Md_next_123 : decode mm_Md_next.2.1 123 = .ok (.lmul, 1) := by decide +kernel
theorem d_Md_next_124 : decode mm_Md_next.2.1 124 = .ok (.aload_n 0, 1) := by decide +kernel
theorem d_Md_next_125 : decode mm_Md_next.2.1 125 = .ok (.aload_n 0, 1) := by decide +kernel
theorem d_Md_next_126 : decode mm_Md_next.2.1 126 = .ok (.getfield 103, 3) := by decide +kernel
theorem d_Md_next_129 : decode mm_Md_next.2.1 129 = .ok (.invokevirtual 106, 3) := by decide +kernel
theorem d_Md_next_132 : decode mm_Md_next.2.1 132 = .ok (.i2l, 1) := by decide +kernel
theorem d_Md_next_133 : decode mm_Md_next.2.1 133 = .ok (.ladd, 1) := by decide +kernel
theorem d_Md_next_134 : decode mm_Md_next.2.1 134 = .ok (.ldc2_w 129, 3) := by decide +kernel
theorem d_Md_next_137 : decode mm_Md_next.2.1 137 = .ok (.lsub, 1) := by decide +kernel
theorem d_Md_next_138 : decode mm_Md_next.2.1 138 = .ok (.goto 4, 3) := by decide +kernel
theorem d_Md_next_141 : decode mm_Md_next.2.1 141 = .ok (.lconst 0, 1) := by decide +kernel
theorem d_Md_next_142 : decode mm_Md_next.2.1 142 = .ok (.putfield 123, 3) := by decide +kernel
theorem d_Md_next_145 : decode mm_Md_next.2.1 145 = .ok (.aload_n 0, 1) := by decide +kernel
theorem d_Md_next_146 : decode mm_Md_next.2.1 146 = .ok (.dup, 1) := by decide +kernel
theorem d_Md_next_147 : decode mm_Md_next.2.1 147 = .ok (.getfield 103, 3) := by decide +kernel
theorem d_Md_next_150 : decode mm_Md_next.2.1 150 = .ok (.iconst 1, 1) := by decide +kernel
theorem d_Md_next_151 : decode mm_Md_next.2.1 151 = .ok (.iadd, 1) := by decide +kernel
theorem d_Md_next_152 : decode mm_Md_next.2.1 152 = .ok (.putfield 103, 3) := by decide +kernel
theorem d_Md_next_155 : decode mm_Md_next.2.1 155 = .ok (.goto (-68), 3) := by decide +kernel
theorem d_Md_next_158 : decode mm_Md_next.2.1 158 = .ok (.aload_n 0, 1) := by decide +kernel
theorem d_Md_next_159 : decode mm_Md_next.2.1 159 = .ok (.aload_n 0, 1) := by decide +kernel
theorem d_Md_next_160 : decode mm_Md_next.2.1 160 = .ok (.getfield 103, 3) := by decide +kernel
theorem d_Md_next_163 : decode mm_Md_next.2.1 163 = .ok (.aload_n 0, 1) := by decide +kernel
theorem d_Md_next_164 : decode mm_Md_next.2.1 164 = .ok (.getfield 114, 3) := by decide +kernel
theorem d_Md_next_167 : decode mm_Md_next.2.1 167 = .ok (.isub, 1) := by decide +kernel
theorem d_Md_next_168 : decode mm_Md_next.2.1 168 = .ok (.bipush 9, 2) := by decide +kernel
theorem d_Md_next_170 : decode mm_Md_next.2.1 170 = .ok (.if_icmp .le 7, 3) := by decide +kernel
theorem d_Md_next_173 : decode mm_Md_next.2.1 173 = .ok (.iconst (-1), 1) := by decide +kernel
theorem d_Md_next_174 : decode mm_Md_next.2.1 174 = .ok (.goto 4, 3) := by decide +kernel
theorem d_Md_next_177 : decode mm_Md_next.2.1 177 = .ok (.iconst 0, 1) := by decide +kernel
theorem d_Md_next_178 : decode mm_Md_next.2.1 178 = .ok (.putfield 117, 3) := by decide +kernel
theorem d_Md_next_181 : decode mm_Md_next.2.1 181 = .ok (.goto 216, 3) := by decide +kernel
theorem d_Md_next_184 : decode mm_Md_next.2.1 184 = .ok (.iload_n 1, 1) := by decide +kernel
theorem d_Md_next_185 : decode mm_Md_next.2.1 185 = .ok (.invokestatic 131, 3) := by decide +kernel
theorem d_Md_next_188 : decode mm_Md_next.2.1 188 = .ok (.ifCond .eq 142, 3) := by decide +kernel
theorem d_Md_next_191 : decode mm_Md_next.2.1 191 = .ok (.aload_n 0, 1) := by decide +kernel
theorem d_Md_next_192 : decode mm_Md_next.2.1 192 = .ok (.lconst 0, 1) := by decide +kernel
theorem d_Md_next_193 : decode mm_Md_next.2.1 193 = .ok (.putfield 123, 3) := by decide +kernel
theorem d_Md_next_196 : decode mm_Md_next.2.1 196 = .ok (.aload_n 0, 1) := by decide +kernel
theorem d_Md_next_197 : decode mm_Md_next.2.1 197 = .ok (.aload_n 0, 1) := by decide +kernel
theorem d_Md_next_198 : decode mm_Md_next.2.1 198 = .ok (.getfield 103, 3) := by decide +kernel
theorem d_Md_next_201 : decode mm_Md_next.2.1 201 = .ok (.invokevirtual 106, 3) := by decide +kernel
theorem d_Md_next_204 : decode mm_Md_next.2.1 204 = .ok (.invokestatic 131, 3) := by decide +kernel
theorem d_Md_next_207 : decode mm_Md_next.2.1 207 = .ok (.ifCond .ne 17, 3) := by decide +kernel
theorem d_Md_next_210 : decode mm_Md_next.2.1 210 = .ok (.aload_n 0, 1) := by decide +kernel
theorem d_Md_next_211 : decode mm_Md_next.2.1 211 = .ok (.aload_n 0, 1) := by decide +kernel
theorem d_Md_next_212 : decode mm_Md_next.2.1 212 = .ok (.getfield 103, 3) := by decide +kernel
theorem d_Md_next_215 : decode mm_Md_next.2.1 215 = .ok (.invokevirtual 106, 3) := by decide +kernel
theorem d_Md_next_218 : decode mm_Md_next.2.1 218 = .ok (.invokestatic 120, 3) := by decide +kernel
theorem d_Md_next_221 : decode mm_Md_next.2.1 221 = .ok (.ifCond .eq 71, 3) := by decide +kernel
theorem d_Md_next_224 : decode mm_Md_next.2.1 224 = .ok (.aload_n 0, 1) := by decide +kernel
theorem d_Md_next_225 : decode mm_Md_next.2.1 225 = .ok (.aload_n 0, 1) := by decide +kernel
theorem d_Md_next_226 : decode mm_Md_next.2.1 226 = .ok (.getfield 103, 3) := by decide +kernel
theorem d_Md_next_229 : decode mm_Md_next.2.1 229 = .ok (.aload_n 0, 1) := by decide +kernel
theorem d_Md_next_230 : decode mm_Md_next.2.1 230 = .ok (.getfield 114, 3) := by decide +kernel
theorem d_Md_next_233 : decode mm_Md_next.2.1 233 = .ok (.isub, 1) := by decide +kernel
theorem d_Md_next_234 : decode mm_Md_next.2.1 234 = .ok (.bipush 8, 2) := by decide +kernel
theorem d_Md_next_236 : decode mm_Md_next.2.1 236 = .ok (.if_icmp .ge 36, 3) := by decide +kernel
theorem d_Md_next_239 : decode mm_Md_next.2.1 239 = .ok (.aload_n 0, 1) := by decide +kernel
theorem d_Md_next_240 : decode mm_Md_next.2.1 240 = .ok (.getfield 123, 3) := by decide +kernel
theorem d_Md_next_243 : decode mm_Md_next.2.1 243 = .ok (.aload_n 0, 1) := by decide +kernel
theorem d_Md_next_244 : decode mm_Md_next.2.1 244 = .ok (.aload_n 0, 1) := by decide +kernel
theorem d_Md_next_245 : decode mm_Md_next.2.1 245 = .ok (.getfield 103, 3) := by decide +kernel
theorem d_Md_next_248 : decode mm_Md_next.2.1 248 = .ok (.invokevirtual 106, 3) := by decide +kernel
theorem d_Md_next_251 : decode mm_Md_next.2.1 251 = .ok (.i2l, 1) := by decide +kernel
theorem d_Md_next_252 : decode mm_Md_next.2.1 252 = .ok (.bipush 56, 2) := by decide +kernel
theorem d_Md_next_254 : decode mm_Md_next.2.1 254 = .ok (.bipush 8, 2) := by decide +kernel
theorem d_Md_next_256 : decode mm_Md_next.2.1 256 = .ok (.aload_n 0, 1) := by decide +kernel
theorem d_Md_next_257 : decode mm_Md_next.2.1 257 = .ok (.getfield 103, 3) := by decide +kernel
theorem d_Md_next_260 : decode mm_Md_next.2.1 260 = .ok (.aload_n 0, 1) := by decide +kernel
theorem d_Md_next_261 : decode mm_Md_next.2.1 261 = .ok (.getfield 114, 3) := by decide +kernel
theorem d_Md_next_264 : decode mm_Md_next.2.1 264 = .ok (.isub, 1) := by decide +kernel
theorem d_Md_next_265 : decode mm_Md_next.2.1 265 = .ok (.imul, 1) := by decide +kernel
theorem d_Md_next_266 : decode mm_Md_next.2.1 266 = .ok (.isub, 1) := by decide +kernel
theorem d_Md_next_267 : decode mm_Md_next.2.1 267 = .ok (.lshl, 1) := by decide +kernel
theorem d_Md_next_268 : decode mm_Md_next.2.1 268 = .ok (.lor, 1) := by decide +kernel
theorem d_Md_next_269 : decode mm_Md_next.2.1 269 = .ok (.goto 7, 3) := by decide +kernel
theorem d_Md_next_272 : decode mm_Md_next.2.1 272 = .ok (.aload_n 0, 1) := by decide +kernel
theorem d_Md_next_273 : decode mm_Md_next.2.1 273 = .ok (.getfield 123, 3) := by decide +kernel
theorem d_Md_next_276 : decode mm_Md_next.2.1 276 = .ok (.putfield 123, 3) := by decide +kernel
theorem d_Md_next_279 : decode mm_Md_next.2.1 279 = .ok (.aload_n 0, 1) := by decide +kernel
theorem d_Md_next_280 : decode mm_Md_next.2.1 280 = .ok (.dup, 1) := by decide +kernel
theorem d_Md_next_281 : decode mm_Md_next.2.1 281 = .ok (.getfield 103, 3) := by decide +kernel
theorem d_Md_next_284 : decode mm_Md_next.2.1 284 = .ok (.iconst 1, 1) := by decide +kernel
theorem d_Md_next_285 : decode mm_Md_next.2.1 285 = .ok (.iadd, 1) := by decide +kernel
theorem d_Md_next_286 : decode mm_Md_next.2.1 286 = .ok (.putfield 103, 3) := by decide +kernel
theorem d_Md_next_289 : decode mm_Md_next.2.1 289 = .ok (.goto (-93), 3) := by decide +kernel
theorem d_Md_next_292 : decode mm_Md_next.2.1 292 = .ok (.aload_n 0, 1) := by decide +kernel
theorem d_Md_next_293 : decode mm_Md_next.2.1 293 = .ok (.aload_n 0, 1) := by decide +kernel
theorem d_Md_next_294 : decode mm_Md_next.2.1 294 = .ok (.getfield 103, 3) := by decide +kernel
theorem d_Md_next_297 : decode mm_Md_next.2.1 297 = .ok (.aload_n 0, 1) := by decide +kernel
theorem d_Md_next_298 : decode mm_Md_next.2.1 298 = .ok (.getfield 114, 3) := by decide +kernel
theorem d_Md_next_301 : decode mm_Md_next.2.1 301 = .ok (.isub, 1) := by decide +kernel
theorem d_Md_next_302 : decode mm_Md_next.2.1 302 = .ok (.bipush 8, 2) := by decide +kernel
theorem d_Md_next_304 : decode mm_Md_next.2.1 304 = .ok (.if_icmp .le 7, 3) := by decide +kernel
theorem d_Md_next_307 : decode mm_Md_next.2.1 307 = .ok (.iconst (-1), 1) := by decide +kernel
theorem d_Md_next_308 : decode mm_Md_next.2.1 308 = .ok (.goto 16, 3) := by decide +kernel
theorem d_Md_next_311 : decode mm_Md_next.2.1 311 = .ok (.aload_n 0, 1) := by decide +kernel
theorem d_Md_next_312 : decode mm_Md_next.2.1 312 = .ok (.invokevirtual 134, 3) := by decide +kernel
theorem d_Md_next_315 : decode mm_Md_next.2.1 315 = .ok (.ifCond .le 8, 3) := by decide +kernel
theorem d_Md_next_318 : decode mm_Md_next.2.1 318 = .ok (.bipush (-3), 2) := by decide +kernel
theorem d_Md_next_320 : decode mm_Md_next.2.1 320 = .ok (.goto 4, 3) := by decide +kernel
theorem d_Md_next_323 : decode mm_Md_next.2.1 323 = .ok (.iconst 1, 1) := by decide +kernel
theorem d_Md_next_324 : decode mm_Md_next.2.1 324 = .ok (.putfield 117, 3) := by decide +kernel
theorem d_Md_next_327 : decode mm_Md_next.2.1 327 = .ok (.goto 70, 3) := by decide +kernel
theorem d_Md_next_330 : decode mm_Md_next.2.1 330 = .ok (.aload_n 0, 1) := by decide +kernel
theorem d_Md_next_331 : decode mm_Md_next.2.1 331 = .ok (.dup, 1) := by decide +kernel
theorem d_Md_next_332 : decode mm_Md_next.2.1 332 = .ok (.getfield 103, 3) := by decide +kernel
theorem d_Md_next_335 : decode mm_Md_next.2.1 335 = .ok (.iconst 1, 1) := by decide +kernel
theorem d_Md_next_336 : decode mm_Md_next.2.1 336 = .ok (.iadd, 1) := by decide +kernel
theorem d_Md_next_337 : decode mm_Md_next.2.1 337 = .ok (.putfield 103, 3) := by decide +kernel
theorem d_Md_next_340 : decode mm_Md_next.2.1 340 = .ok (.aload_n 0, 1) := by decide +kernel
theorem d_Md_next_341 : decode mm_Md_next.2.1 341 = .ok (.iload_n 1, 1) := by decide +kernel
theorem d_Md_next_342 : decode mm_Md_next.2.1 342 = .ok (.bipush 61, 2) := by decide +kernel
theorem d_Md_next_344 : decode mm_Md_next.2.1 344 = .ok (.if_icmp .eq 45, 3) := by decide +kernel
theorem d_Md_next_347 : decode mm_Md_next.2.1 347 = .ok (.iload_n 1, 1) := by decide +kernel
theorem d_Md_next_348 : decode mm_Md_next.2.1 348 = .ok (.bipush 43, 2) := by decide +kernel
theorem d_Md_next_350 : decode mm_Md_next.2.1 350 = .ok (.if_icmp .eq 39, 3) := by decide +kernel
theorem d_Md_next_353 : decode mm_Md_next.2.1 353 = .ok (.iload_n 1, 1) := by decide +kernel
theorem d_Md_next_354 : decode mm_Md_next.2.1 354 = .ok (.bipush 45, 2) := by decide +kernel
theorem d_Md_next_356 : decode mm_Md_next.2.1 356 = .ok (.if_icmp .eq 33, 3) := by decide +kernel
theorem d_Md_next_359 : decode mm_Md_next.2.1 359 = .ok (.iload_n 1, 1) := by decide +kernel
theorem d_Md_next_360 : decode mm_Md_next.2.1 360 = .ok (.bipush 42, 2) := by decide +kernel
theorem d_Md_next_362 : decode mm_Md_next.2.1 362 = .ok (.if_icmp .eq 27, 3) := by decide +kernel
theorem d_Md_next_365 : decode mm_Md_next.2.1 365 = .ok (.iload_n 1, 1) := by decide +kernel
theorem d_Md_next_366 : decode mm_Md_next.2.1 366 = .ok (.bipush 47, 2) := by decide +kernel
theorem d_Md_next_368 : decode mm_Md_next.2.1 368 = .ok (.if_icmp .eq 21, 3) := by decide +kernel
theorem d_Md_next_371 : decode mm_Md_next.2.1 371 = .ok (.iload_n 1, 1) := by decide +kernel
theorem d_Md_next_372 : decode mm_Md_next.2.1 372 = .ok (.bipush 40, 2) := by decide +kernel
theorem d_Md_next_374 : decode mm_Md_next.2.1 374 = .ok (.if_icmp .eq 15, 3) := by decide +kernel
theorem d_Md_next_377 : decode mm_Md_next.2.1 377 = .ok (.iload_n 1, 1) := by decide +kernel
theorem d_Md_next_378 : decode mm_Md_next.2.1 378 = .ok (.bipush 41, 2) := by decide +kernel
theorem d_Md_next_380 : decode mm_Md_next.2.1 380 = .ok (.if_icmp .eq 9, 3) := by decide +kernel
theorem d_Md_next_383 : decode mm_Md_next.2.1 383 = .ok (.iload_n 1, 1) := by decide +kernel
theorem d_Md_next_384 : decode mm_Md_next.2.1 384 = .ok (.bipush 44, 2) := by decide +kernel
theorem d_Md_next_386 : decode mm_Md_next.2.1 386 = .ok (.if_icmp .ne 7, 3) := by decide +kernel
theorem d_Md_next_389 : decode mm_Md_next.2.1 389 = .ok (.iload_n 1, 1) := by decide +kernel
theorem d_Md_next_390 : decode mm_Md_next.2.1 390 = .ok (.goto 4, 3) := by decide +kernel
theorem d_Md_next_393 : decode mm_Md_next.2.1 393 = .ok (.iconst (-1), 1) := by decide +kernel
theorem d_Md_next_394 : decode mm_Md_next.2.1 394 = .ok (.putfield 117, 3) := by decide +kernel
theorem d_Md_next_397 : decode mm_Md_next.2.1 397 = .ok (.return_, 1) := by decide +kernel
theorem d_Md_at_0 : decode mm_Md_at.2.1 0 = .ok (.iload_n 1, 1) := by decide +kernel
theorem d_Md_at_1 : decode mm_Md_at.2.1 1 = .ok (.aload_n 0, 1) := by decide +kernel
theorem d_Md_at_2 : decode mm_Md_at.2.1 2 = .ok (.getfield 100, 3) := by decide +kernel
theorem d_Md_at_5 : decode mm_Md_at.2.1 5 = .ok (.if_icmp .ge 12, 3) := by decide +kernel
theorem d_Md_at_8 : decode mm_Md_at.2.1 8 = .ok (.aload_n 0, 1) := by decide +kernel
theorem d_Md_at_9 : decode mm_Md_at.2.1 9 = .ok (.getfield 7, 3) := by decide +kernel
theorem d_Md_at_12 : decode mm_Md_at.2.1 12 = .ok (.iload_n 1, 1) := by decide +kernel
theorem d_Md_at_13 : decode mm_Md_at.2.1 13 = .ok (.iaload, 1) := by decide +kernel
theorem d_Md_at_14 : decode mm_Md_at.2.1 14 = .ok (.goto 4, 3) := by decide +kernel
theorem d_Md_at_17 : decode mm_Md_at.2.1 17 = .ok (.iconst 0, 1) := by decide +kernel
theorem d_Md_at_18 : decode mm_Md_at.2.1 18 = .ok (.ireturn, 1) := by decide +kernel
theorem d_Md_isBlank_0 : decode mm_Md_isBlank.2.1 0 = .ok (.iload_n 0, 1) := by decide +kernel
theorem d_Md_isBlank_1 : decode mm_Md_isBlank.2.1 1 = .ok (.bipush 32, 2) := by decide +kernel
theorem d_Md_isBlank_3 : decode mm_Md_isBlank.2.1 3 = .ok (.if_icmp .eq 21, 3) := by decide +kernel
theorem d_Md_isBlank_6 : decode mm_Md_isBlank.2.1 6 = .ok (.iload_n 0, 1) := by decide +kernel
theorem d_Md_isBlank_7 : decode mm_Md_isBlank.2.1 7 = .ok (.bipush 9, 2) := by decide +kernel
theorem d_Md_isBlank_9 : decode mm_Md_isBlank.2.1 9 = .ok (.if_icmp .eq 15, 3) := by decide +kernel
theorem d_Md_isBlank_12 : decode mm_Md_isBlank.2.1 12 = .ok (.iload_n 0, 1) := by decide +kernel
theorem d_Md_isBlank_13 : decode mm_Md_isBlank.2.1 13 = .ok (.bipush 10, 2) := by decide +kernel
theorem d_Md_isBlank_15 : decode mm_Md_isBlank.2.1 15 = .ok (.if_icmp .eq 9, 3) := by decide +kernel
theorem d_Md_isBlank_18 : decode mm_Md_isBlank.2.1 18 = .ok (.iload_n 0, 1) := by decide +kernel
theorem d_Md_isBlank_19 : decode mm_Md_isBlank.2.1 19 = .ok (.bipush 13, 2) := by decide +kernel
theorem d_Md_isBlank_21 : decode mm_Md_isBlank.2.1 21 = .ok (.if_icmp .ne 7, 3) := by decide +kernel
theorem d_Md_isBlank_24 : decode mm_Md_isBlank.2.1 24 = .ok (.iconst 1, 1) := by decide +kernel
theorem d_Md_isBlank_25 : decode mm_Md_isBlank.2.1 25 = .ok (.goto 4, 3) := by decide +kernel
theorem d_Md_isBlank_28 : decode mm_Md_isBlank.2.1 28 = .ok (.iconst 0, 1) := by decide +kernel
theorem d_Md_isBlank_29 : decode mm_Md_isBlank.2.1 29 = .ok (.ireturn, 1) := by decide +kernel
theorem d_Md_isDigit_0 : decode mm_Md_isDigit.2.1 0 = .ok (.iload_n 0, 1) := by decide +kernel
theorem d_Md_isDigit_1 : decode mm_Md_isDigit.2.1 1 = .ok (.bipush 47, 2) := by decide +kernel
theorem d_Md_isDigit_3 : decode mm_Md_isDigit.2.1 3 = .ok (.if_icmp .le 13, 3) := by decide +kernel
theorem d_Md_isDigit_6 : decode mm_Md_isDigit.2.1 6 = .ok (.iload_n 0, 1) := by decide +kernel
theorem d_Md_isDigit_7 : decode mm_Md_isDigit.2.1 7 = .ok (.bipush 58, 2) := by decide +kernel
theorem d_Md_isDigit_9 : decode mm_Md_isDigit.2.1 9 = .ok (.if_icmp .ge 7, 3) := by decide +kernel
theorem d_Md_isDigit_12 : decode mm_Md_isDigit.2.1 12 = .ok (.iconst 1, 1) := by decide +kernel
theorem d_Md_isDigit_13 : decode mm_Md_isDigit.2.1 13 = .ok (.goto 4, 3) := by decide +kernel
theorem d_Md_isDigit_16 : decode mm_Md_isDigit.2.1 16 = .ok (.iconst 0, 1) := by decide +kernel
theorem d_Md_isDigit_17 : decode mm_Md_isDigit.2.1 17 = .ok (.ireturn, 1) := by decide +kernel
theorem d_Md_isLetter_0 : decode mm_Md_isLetter.2.1 0 = .ok (.iload_n 0, 1) := by decide +kernel
theorem d_Md_isLetter_1 : decode mm_Md_isLetter.2.1 1 = .ok (.bipush 64, 2) := by decide +kernel
theorem d_Md_isLetter_3 : decode mm_Md_isLetter.2.1 3 = .ok (.if_icmp .le 9, 3) := by decide +kernel
theorem d_Md_isLetter_6 : decode mm_Md_isLetter.2.1 6 = .ok (.iload_n 0, 1) := by decide +kernel
theorem d_Md_isLetter_7 : decode mm_Md_isLetter.2.1 7 = .ok (.bipush 91, 2) := by decide +kernel
theorem d_Md_isLetter_9 : decode mm_Md_isLetter.2.1 9 = .ok (.if_icmp .lt 15, 3) := by decide +kernel
theorem d_Md_isLetter_12 : decode mm_Md_isLetter.2.1 12 = .ok (.iload_n 0, 1) := by decide +kernel
theorem d_Md_isLetter_13 : decode mm_Md_isLetter.2.1 13 = .ok (.bipush 96, 2) := by decide +kernel
theorem d_Md_isLetter_15 : decode mm_Md_isLetter.2.1 15 = .ok (.if_icmp .le 13, 3) := by decide +kernel
theorem d_Md_isLetter_18 : decode mm_Md_isLetter.2.1 18 = .ok (.iload_n 0, 1) := by decide +kernel
theorem d_Md_isLetter_19 : decode mm_Md_isLetter.2.1 19 = .ok (.bipush 123, 2) := by decide +kernel
theorem d_Md_isLetter_21 : decode mm_Md_isLetter.2.1 21 = .ok (.if_icmp .ge 7, 3) := by decide +kernel
theorem d_Md_isLetter_24 : decode mm_Md_isLetter.2.1 24 = .ok (.iconst 1, 1) := by decide +kernel
theorem d_Md_isLetter_25 : decode mm_Md_isLetter.2.1 25 = .ok (.goto 4, 3) := by decide +kernel
theorem d_Md_isLetter_28 : decode mm_Md_isLetter.2.1 28 = .ok (.iconst 0, 1) := by decide +kernel
theorem d_Md_isLetter_29 : decode mm_Md_isLetter.2.1 29 = .ok (.ireturn, 1) := by decide +kernel
theorem d_Md_function_0 : decode mm_Md_function.2.1 0 = .ok (.aload_n 0, 1) := by decide +kernel
theorem d_Md_function_1 : decode mm_Md_function.2.1 1 = .ok (.getfield 123, 3) := by decide +kernel
theorem d_Md_function_4 : decode mm_Md_function.2.1 4 = .ok (.ldc2_w 138, 3) := by decide +kernel
theorem d_Md_function_7 : decode mm_Md_function.2.1 7 = .ok (.lcmp, 1) := by decide +kernel
theorem d_Md_function_8 : decode mm_Md_function.2.1 8 = .ok (.ifCond .ne 8, 3) := by decide +kernel
theorem d_Md_function_11 : decode mm_Md_function.2.1 11 = .ok (.bipush 7, 2) := by decide +kernel
theorem d_Md_function_13 : decode mm_Md_function.2.1 13 = .ok (.goto 36, 3) := by decide +kernel
theorem d_Md_function_16 : decode mm_Md_function.2.1 16 = .ok (.aload_n 0, 1) := by decide +kernel
theorem d_Md_function_17 : decode mm_Md_function.2.1 17 = .ok (.getfield 123, 3) := by decide +kernel
theorem d_Md_function_20 : decode mm_Md_function.2.1 20 = .ok (.ldc2_w 140, 3) := by decide +kernel
theorem d_Md_function_23 : decode mm_Md_function.2.1 23 = .ok (.lcmp, 1) := by decide +kernel
theorem d_Md_function_24 : decode mm_Md_function.2.1 24 = .ok (.ifCond .ne 8, 3) := by decide +kernel
theorem d_Md_function_27 : decode mm_Md_function.2.1 27 = .ok (.bipush 8, 2) := by decide +kernel
theorem d_Md_function_29 : decode mm_Md_function.2.1 29 = .ok (.goto 20, 3) := by decide +kernel
theorem d_Md_function_32 : decode mm_Md_function.2.1 32 = .ok (.aload_n 0, 1) := by decide +kernel
theorem d_Md_function_33 : decode mm_Md_function.2.1 33 = .ok (.getfield 123, 3) := by decide +kernel
theorem d_Md_function_36 : decode mm_Md_function.2.1 36 = .ok (.ldc2_w 142, 3) := by decide +kernel
theorem d_Md_function_39 : decode mm_Md_function.2.1 39 = .ok (.lcmp, 1) := by decide +kernel
theorem d_Md_function_40 : decode mm_Md_function.2.1 40 = .ok (.ifCond .ne 8, 3) := by decide +kernel
theorem d_Md_function_43 : decode mm_Md_function.2.1 43 = .ok (.bipush 9, 2) := by decide +kernel
theorem d_Md_function_45 : decode mm_Md_function.2.1 45 = .ok (.goto 4, 3) := by decide +kernel
theorem d_Md_function_48 : decode mm_Md_function.2.1 48 = .ok (.iconst 0, 1) := by decide +kernel
theorem d_Md_function_49 : decode mm_Md_function.2.1 49 = .ok (.ireturn, 1) := by decide +kernel
theorem d_Md_wrong_0 : decode mm_Md_wrong.2.1 0 = .ok (.aload_n 0, 1) := by decide +kernel
theorem d_Md_wrong_1 : decode mm_Md_wrong.2.1 1 = .ok (.aload_n 0, 1) := by decide +kernel
theorem d_Md_wrong_2 : decode mm_Md_wrong.2.1 2 = .ok (.getfield 117, 3) := by decide +kernel
theorem d_Md_wrong_5 : decode mm_Md_wrong.2.1 5 = .ok (.iconst (-1), 1) := by decide +kernel
theorem d_Md_wrong_6 : decode mm_Md_wrong.2.1 6 = .ok (.if_icmp .ne 7, 3) := by decide +kernel
theorem d_Md_wrong_9 : decode mm_Md_wrong.2.1 9 = .ok (.iconst 1, 1) := by decide +kernel
theorem d_Md_wrong_10 : decode mm_Md_wrong.2.1 10 = .ok (.goto 4, 3) := by decide +kernel
theorem d_Md_wrong_13 : decode mm_Md_wrong.2.1 13 = .ok (.iconst 2, 1) := by decide +kernel
theorem d_Md_wrong_14 : decode mm_Md_wrong.2.1 14 = .ok (.aload_n 0, 1) := by decide +kernel
theorem d_Md_wrong_15 : decode mm_Md_wrong.2.1 15 = .ok (.getfield 114, 3) := by decide +kernel
theorem d_Md_wrong_18 : decode mm_Md_wrong.2.1 18 = .ok (.invokevirtual 150, 3) := by decide +kernel
theorem d_Md_wrong_21 : decode mm_Md_wrong.2.1 21 = .ok (.return_, 1) := by decide +kernel
theorem d_Md_fail_0 : decode mm_Md_fail.2.1 0 = .ok (.aload_n 0, 1) := by decide +kernel
theorem d_Md_fail_1 : decode mm_Md_fail.2.1 1 = .ok (.getfield 144, 3) := by decide +kernel
theorem d_Md_fail_4 : decode mm_Md_fail.2.1 4 = .ok (.ifCond .ne 13, 3) := by decide +kernel
theorem d_Md_fail_7 : decode mm_Md_fail.2.1 7 = .ok (.aload_n 0, 1) := by decide +kernel
theorem d_Md_fail_8 : decode mm_Md_fail.2.1 8 = .ok (.iload_n 1, 1) := by decide +kernel
theorem d_Md_fail_9 : decode mm_Md_fail.2.1 9 = .ok (.putfield 144, 3) := by decide +kernel
theorem d_Md_fail_12 : decode mm_Md_fail.2.1 12 = .ok (.aload_n 0, 1) := by decide +kernel
theorem d_Md_fail_13 : decode mm_Md_fail.2.1 13 = .ok (.iload_n 2, 1) := by decide +kernel
theorem d_Md_fail_14 : decode mm_Md_fail.2.1 14 = .ok (.putfield 147, 3) := by decide +kernel
theorem d_Md_fail_17 : decode mm_Md_fail.2.1 17 = .ok (.return_, 1) := by decide +kernel
theorem d_Md_formula_0 : decode mm_Md_formula.2.1 0 = .ok (.aload_n 0, 1) := by decide +kernel
theorem d_Md_formula_1 : decode mm_Md_formula.2.1 1 = .ok (.iconst 0, 1) := by decide +kernel
theorem d_Md_formula_2 : decode mm_Md_formula.2.1 2 = .ok (.putfield 154, 3) := by decide +kernel
theorem d_Md_formula_5 : decode mm_Md_formula.2.1 5 = .ok (.aload_n 0, 1) := by decide +kernel
theorem d_Md_formula_6 : decode mm_Md_formula.2.1 6 = .ok (.iconst 0, 1) := by decide +kernel
theorem d_Md_formula_7 : decode mm_Md_formula.2.1 7 = .ok (.putfield 157, 3) := by decide +kernel
theorem d_Md_formula_10 : decode mm_Md_formula.2.1 10 = .ok (.aload_n 0, 1) := by decide +kernel
theorem d_Md_formula_11 : decode mm_Md_formula.2.1 11 = .ok (.iconst 0, 1) := by decide +kernel
theorem d_Md_formula_12 : decode mm_Md_formula.2.1 12 = .ok (.putfield 166, 3) := by decide +kernel
theorem d_Md_formula_15 : decode mm_Md_formula.2.1 15 = .ok (.aload_n 0, 1) := by decide +kernel
theorem d_Md_formula_16 : decode mm_Md_formula.2.1 16 = .ok (.iconst 0, 1) := by decide +kernel
theorem d_Md_formula_17 : decode mm_Md_formula.2.1 17 = .ok (.putfield 169, 3) := by decide +kernel
theorem d_Md_formula_20 : decode mm_Md_formula.2.1 20 = .ok (.iconst 1, 1) := by decide +kernel
theorem d_Md_formula_21 : decode mm_Md_formula.2.1 21 = .ok (.istore_n 1, 1) := by decide +kernel
theorem d_Md_formula_22 : decode mm_Md_formula.2.1 22 = .ok (.aload_n 0, 1) := by decide +kernel
theorem d_Md_formula_23 : decode mm_Md_formula.2.1 23 = .ok (.getfield 144, 3) := by decide +kernel
theorem d_Md_formula_26 : decode mm_Md_formula.2.1 26 = .ok (.ifCond .ne 51, 3) := by decide +kernel
theorem d_Md_formula_29 : decode mm_Md_formula.2.1 29 = .ok (.iload_n 1, 1) := by decide +kernel
theorem d_Md_formula_30 : decode mm_Md_formula.2.1 30 = .ok (.ifCond .ne 19, 3) := by decide +kernel
theorem d_Md_formula_33 : decode mm_Md_formula.2.1 33 = .ok (.aload_n 0, 1) := by decide +kernel
theorem d_Md_formula_34 : decode mm_Md_formula.2.1 34 = .ok (.getfield 117, 3) := by decide +kernel
theorem d_Md_formula_37 : decode mm_Md_formula.2.1 37 = .ok (.bipush (-2), 2) := by decide +kernel
theorem d_Md_formula_39 : decode mm_Md_formula.2.1 39 = .ok (.if_icmp .ne 10, 3) := by decide +kernel
theorem d_Md_formula_42 : decode mm_Md_formula.2.1 42 = .ok (.aload_n 0, 1) := by decide +kernel
theorem d_Md_formula_43 : decode mm_Md_formula.2.1 43 = .ok (.getfield 157, 3) := by decide +kernel
theorem d_Md_formula_46 : decode mm_Md_formula.2.1 46 = .ok (.ifCond .le 31, 3) := by decide +kernel
theorem d_Md_formula_49 : decode mm_Md_formula.2.1 49 = .ok (.iload_n 1, 1) := by decide +kernel
theorem d_Md_formula_50 : decode mm_Md_formula.2.1 50 = .ok (.ifCond .eq 19, 3) := by decide +kernel
theorem d_Md_formula_53 : decode mm_Md_formula.2.1 53 = .ok (.aload_n 0, 1) := by decide +kernel
theorem d_Md_formula_54 : decode mm_Md_formula.2.1 54 = .ok (.invokevirtual 198, 3) := by decide +kernel
theorem d_Md_formula_57 : decode mm_Md_formula.2.1 57 = .ok (.ifCond .ne 7, 3) := by decide +kernel
theorem d_Md_formula_60 : decode mm_Md_formula.2.1 60 = .ok (.iconst 1, 1) := by decide +kernel
theorem d_Md_formula_61 : decode mm_Md_formula.2.1 61 = .ok (.goto 4, 3) := by decide +kernel
theorem d_Md_formula_64 : decode mm_Md_formula.2.1 64 = .ok (.iconst 0, 1) := by decide +kernel
theorem d_Md_formula_65 : decode mm_Md_formula.2.1 65 = .ok (.istore_n 1, 1) := by decide +kernel
theorem d_Md_formula_66 : decode mm_Md_formula.2.1 66 = .ok (.goto (-44), 3) := by decide +kernel
theorem d_Md_formula_69 : decode mm_Md_formula.2.1 69 = .ok (.aload_n 0, 1) := by decide +kernel
theorem d_Md_formula_70 : decode mm_Md_formula.2.1 70 = .ok (.invokevirtual 202, 3) := by decide +kernel
theorem d_Md_formula_73 : decode mm_Md_formula.2.1 73 = .ok (.istore_n 1, 1) := by decide +kernel
theorem d_Md_formula_74 : decode mm_Md_formula.2.1 74 = .ok (.goto (-52), 3) := by decide +kernel
theorem d_Md_formula_77 : decode mm_Md_formula.2.1 77 = .ok (.return_, 1) := by decide +kernel
theorem d_Md_part_0 : decode mm_Md_part.2.1 0 = .ok (.aload_n 0, 1) := by decide +kernel
theorem d_Md_part_1 : decode mm_Md_part.2.1 1 = .ok (.getfield 117, 3) := by decide +kernel
theorem d_Md_part_4 : decode mm_Md_part.2.1 4 = .ok (.ifCond .eq 11, 3) := by decide +kernel
theorem d_Md_part_7 : decode mm_Md_part.2.1 7 = .ok (.aload_n 0, 1) := by decide +kernel
theorem d_Md_part_8 : decode mm_Md_part.2.1 8 = .ok (.getfield 117, 3) := by decide +kernel
theorem d_Md_part_11 : decode mm_Md_part.2.1 11 = .ok (.iconst 1, 1) := by decide +kernel
theorem d_Md_part_12 : decode mm_Md_part.2.1 12 = .ok (.if_icmp .ne 45, 3) := by decide +kernel
theorem d_Md_part_15 : decode mm_Md_part.2.1 15 = .ok (.aload_n 0, 1) := by decide +kernel
theorem d_Md_part_16 : decode mm_Md_part.2.1 16 = .ok (.getfield 84, 3) := by decide +kernel
theorem d_Md_part_19 : decode mm_Md_part.2.1 19 = .ok (.aload_n 0, 1) := by decide +kernel
theorem d_Md_part_20 : decode mm_Md_part.2.1 20 = .ok (.getfield 166, 3) := by decide +kernel
theorem d_Md_part_23 : decode mm_Md_part.2.1 23 = .ok (.aload_n 0, 1) := by decide +kernel
theorem d_Md_part_24 : decode mm_Md_part.2.1 24 = .ok (.aload_n 0, 1) := by decide +kernel
theorem d_Md_part_25 : decode mm_Md_part.2.1 25 = .ok (.getfield 117, 3) := by decide +kernel
theorem d_Md_part_28 : decode mm_Md_part.2.1 28 = .ok (.aload_n 0, 1) := by decide +kernel
theorem d_Md_part_29 : decode mm_Md_part.2.1 29 = .ok (.getfield 123, 3) := by decide +kernel
theorem d_Md_part_32 : decode mm_Md_part.2.1 32 = .ok (.invokevirtual 172, 3) := by decide +kernel
theorem d_Md_part_35 : decode mm_Md_part.2.1 35 = .ok (.iastore, 1) := by decide +kernel
theorem d_Md_part_36 : decode mm_Md_part.2.1 36 = .ok (.aload_n 0, 1) := by decide +kernel
theorem d_Md_part_37 : decode mm_Md_part.2.1 37 = .ok (.dup, 1) := by decide +kernel
theorem d_Md_part_38 : decode mm_Md_part.2.1 38 = .ok (.getfield 166, 3) := by decide +kernel
theorem d_Md_part_41 : decode mm_Md_part.2.1 41 = .ok (.iconst 1, 1) := by decide +kernel
theorem d_Md_part_42 : decode mm_Md_part.2.1 42 = .ok (.iadd, 1) := by decide +kernel
theorem d_Md_part_43 : decode mm_Md_part.2.1 43 = .ok (.putfield 166, 3) := by decide +kernel
theorem d_Md_part_46 : decode mm_Md_part.2.1 46 = .ok (.aload_n 0, 1) := by decide +kernel
theorem d_Md_part_47 : decode mm_Md_part.2.1 47 = .ok (.invokevirtual 176, 3) := by decide +kernel
theorem d_Md_part_50 : decode mm_Md_part.2.1 50 = .ok (.aload_n 0, 1) := by decide +kernel
theorem d_Md_part_51 : decode mm_Md_part.2.1 51 = .ok (.iconst 3, 1) := by decide +kernel
theorem d_Md_part_52 : decode mm_Md_part.2.1 52 = .ok (.invokevirtual 179, 3) := by decide +kernel
theorem d_Md_part_55 : decode mm_Md_part.2.1 55 = .ok (.iconst 1, 1) := by decide +kernel
theorem d_Md_part_56 : decode mm_Md_part.2.1 56 = .ok (.ireturn, 1) := by decide +kernel
theorem d_Md_part_57 : decode mm_Md_part.2.1 57 = .ok (.aload_n 0, 1) := by decide +kernel
theorem d_Md_part_58 : decode mm_Md_part.2.1 58 = .ok (.getfield 117, 3) := by decide +kernel
theorem d_Md_part_61 : decode mm_Md_part.2.1 61 = .ok (.bipush 45, 2) := by decide +kernel
theorem d_Md_part_63 : decode mm_Md_part.2.1 63 = .ok (.if_icmp .ne 27, 3) := by decide +kernel
theorem d_Md_part_66 : decode mm_Md_part.2.1 66 = .ok (.aload_n 0, 1) := by decide +kernel
theorem d_Md_part_67 : decode mm_Md_part.2.1 67 = .ok (.bipush 6, 2) := by decide +kernel
theorem d_Md_part_69 : decode mm_Md_part.2.1 69 = .ok (.lconst 0, 1) := by decide +kernel
theorem d_Md_part_70 : decode mm_Md_part.2.1 70 = .ok (.invokevirtual 172, 3) := by decide +kernel
theorem d_Md_part_73 : decode mm_Md_part.2.1 73 = .ok (.istore_n 1, 1) := by decide +kernel
theorem d_Md_part_74 : decode mm_Md_part.2.1 74 = .ok (.aload_n 0, 1) := by decide +kernel
theorem d_Md_part_75 : decode mm_Md_part.2.1 75 = .ok (.invokevirtual 183, 3) := by decide +kernel
theorem d_Md_part_78 : decode mm_Md_part.2.1 78 = .ok (.aload_n 0, 1) := by decide +kernel
theorem d_Md_part_79 : decode mm_Md_part.2.1 79 = .ok (.iload_n 1, 1) := by decide +kernel
theorem d_Md_part_80 : decode mm_Md_part.2.1 80 = .ok (.invokevirtual 186, 3) := by decide +kernel
theorem d_Md_part_83 : decode mm_Md_part.2.1 83 = .ok (.aload_n 0, 1) := by decide +kernel
theorem d_Md_part_84 : decode mm_Md_part.2.1 84 = .ok (.invokevirtual 176, 3) := by decide +kernel
theorem d_Md_part_87 : decode mm_Md_part.2.1 87 = .ok (.goto 93, 3) := by decide +kernel
theorem d_Md_part_90 : decode mm_Md_part.2.1 90 = .ok (.aload_n 0, 1) := by decide +kernel
theorem d_Md_part_91 : decode mm_Md_part.2.1 91 = .ok (.getfield 117, 3) := by decide +kernel
theorem d_Md_part_94 : decode mm_Md_part.2.1 94 = .ok (.bipush 40, 2) := by decide +kernel
theorem d_Md_part_96 : decode mm_Md_part.2.1 96 = .ok (.if_icmp .ne 19, 3) := by decide +kernel
theorem d_Md_part_99 : decode mm_Md_part.2.1 99 = .ok (.aload_n 0, 1) := by decide +kernel
theorem d_Md_part_100 : decode mm_Md_part.2.1 100 = .ok (.invokevirtual 183, 3) := by decide +kernel
theorem d_Md_part_103 : decode mm_Md_part.2.1 103 = .ok (.aload_n 0, 1) := by decide +kernel
theorem d_Md_part_104 : decode mm_Md_part.2.1 104 = .ok (.iconst (-1), 1) := by decide +kernel
theorem d_Md_part_105 : decode mm_Md_part.2.1 105 = .ok (.invokevirtual 186, 3) := by decide +kernel
theorem d_Md_part_108 : decode mm_Md_part.2.1 108 = .ok (.aload_n 0, 1) := by decide +kernel
theorem d_Md_part_109 : decode mm_Md_part.2.1 109 = .ok (.invokevirtual 176, 3) := by decide +kernel
theorem d_Md_part_112 : decode mm_Md_part.2.1 112 = .ok (.goto 68, 3) := by decide +kernel
theorem d_Md_part_115 : decode mm_Md_part.2.1 115 = .ok (.aload_n 0, 1) := by decide +kernel
theorem d_Md_part_116 : decode mm_Md_part.2.1 116 = .ok (.getfield 117, 3) := by decide +kernel
theorem d_Md_part_119 : decode mm_Md_part.2.1 119 = .ok (.bipush (-3), 2) := by decide +kernel
theorem d_Md_part_121 : decode mm_Md_part.2.1 121 = .ok (.if_icmp .ne 55, 3) := by decide +kernel
theorem d_Md_part_124 : decode mm_Md_part.2.1 124 = .ok (.aload_n 0, 1) := by decide +kernel
theorem d_Md_part_125 : decode mm_Md_part.2.1 125 = .ok (.aload_n 0, 1) := by decide +kernel
theorem d_Md_part_126 : decode mm_Md_part.2.1 126 = .ok (.invokevirtual 134, 3) := by decide +kernel
theorem d_Md_part_129 : decode mm_Md_part.2.1 129 = .ok (.lconst 0, 1) := by decide +kernel
theorem d_Md_part_130 : decode mm_Md_part.2.1 130 = .ok (.invokevirtual 172, 3) := by decide +kernel
theorem d_Md_part_133 : decode mm_Md_part.2.1 133 = .ok (.istore_n 1, 1) := by decide +kernel
theorem d_Md_part_134 : decode mm_Md_part.2.1 134 = .ok (.aload_n 0, 1) := by decide +kernel
theorem d_Md_part_135 : decode mm_Md_part.2.1 135 = .ok (.invokevirtual 176, 3) := by decide +kernel
theorem d_Md_part_138 : decode mm_Md_part.2.1 138 = .ok (.aload_n 0, 1) := by decide +kernel
theorem d_Md_part_139 : decode mm_Md_part.2.1 139 = .ok (.getfield 117, 3) := by decide +kernel
theorem d_Md_part_142 : decode mm_Md_part.2.1 142 = .ok (.bipush 40, 2) := by decide +kernel
theorem d_Md_part_144 : decode mm_Md_part.2.1 144 = .ok (.if_icmp .eq 9, 3) := by decide +kernel
theorem d_Md_part_147 : decode mm_Md_part.2.1 147 = .ok (.aload_n 0, 1) := by decide +kernel
theorem d_Md_part_148 : decode mm_Md_part.2.1 148 = .ok (.invokevirtual 189, 3) := by decide +kernel
theorem d_Md_part_151 : decode mm_Md_part.2.1 151 = .ok (.iconst 0, 1) := by decide +kernel
theorem d_Md_part_152 : decode mm_Md_part.2.1 152 = .ok (.ireturn, 1) := by decide +kernel
theorem d_Md_part_153 : decode mm_Md_part.2.1 153 = .ok (.aload_n 0, 1) := by decide +kernel
theorem d_Md_part_154 : decode mm_Md_part.2.1 154 = .ok (.getfield 144, 3) := by decide +kernel
theorem d_Md_part_157 : decode mm_Md_part.2.1 157 = .ok (.ifCond .ne 7, 3) := by decide +kernel
theorem d_Md_part_160 : decode mm_Md_part.2.1 160 = .ok (.aload_n 0, 1) := by decide +kernel
theorem d_Md_part_161 : decode mm_Md_part.2.1 161 = .ok (.invokevirtual 183, 3) := by decide +kernel
theorem d_Md_part_164 : decode mm_Md_part.2.1 164 = .ok (.aload_n 0, 1) := by decide +kernel
theorem d_Md_part_165 : decode mm_Md_part.2.1 165 = .ok (.iload_n 1, 1) := by decide +kernel
theorem d_Md_part_166 : decode mm_Md_part.2.1 166 = .ok (.invokevirtual 186, 3) := by decide +kernel
theorem d_Md_part_169 : decode mm_Md_part.2.1 169 = .ok (.aload_n 0, 1) := by decide +kernel
theorem d_Md_part_170 : decode mm_Md_part.2.1 170 = .ok (.invokevirtual 176, 3) := by decide +kernel
theorem d_Md_part_173 : decode mm_Md_part.2.1 173 = .ok (.goto 7, 3) := by decide +kernel
theorem d_Md_part_176 : decode mm_Md_part.2.1 176 = .ok (.aload_n 0, 1) := by decide +kernel
theorem d_Md_part_177 : decode mm_Md_part.2.1 177 = .ok (.invokevirtual 189, 3) := by decide +kernel
theorem d_Md_part_180 : decode mm_Md_part.2.1 180 = .ok (.iconst 0, 1) := by decide +kernel
theorem d_Md_part_181 : decode mm_Md_part.2.1 181 = .ok (.ireturn, 1) := by decide +kernel
theorem d_Md_newNode_0 : decode mm_Md_newNode.2.1 0 = .ok (.aload_n 0, 1) := by decide +kernel
theorem d_Md_newNode_1 : decode mm_Md_newNode.2.1 1 = .ok (.getfield 154, 3) := by decide +kernel
theorem d_Md_newNode_4 : decode mm_Md_newNode.2.1 4 = .ok (.bipush 40, 2) := by decide +kernel
theorem d_Md_newNode_6 : decode mm_Md_newNode.2.1 6 = .ok (.if_icmp .ne 14, 3) := by decide +kernel
theorem d_Md_newNode_9 : decode mm_Md_newNode.2.1 9 = .ok (.aload_n 0, 1) := by decide +kernel
theorem d_Md_newNode_10 : decode mm_Md_newNode.2.1 10 = .ok (.iconst 3, 1) := by decide +kernel
theorem d_Md_newNode_11 : decode mm_Md_newNode.2.1 11 = .ok (.aload_n 0, 1) := by decide +kernel
theorem d_Md_newNode_12 : decode mm_Md_newNode.2.1 12 = .ok (.getfield 114, 3) := by decide +kernel
theorem d_Md_newNode_15 : decode mm_Md_newNode.2.1 15 = .ok (.invokevirtual 150, 3) := by decide +kernel
theorem d_Md_newNode_18 : decode mm_Md_newNode.2.1 18 = .ok (.iconst 0, 1) := by decide +kernel
theorem d_Md_newNode_19 : decode mm_Md_newNode.2.1 19 = .ok (.ireturn, 1) := by decide +kernel
theorem d_Md_newNode_20 : decode mm_Md_newNode.2.1 20 = .ok (.aload_n 0, 1) := by decide +kernel
theorem d_Md_newNode_21 : decode mm_Md_newNode.2.1 21 = .ok (.getfield 60, 3) := by decide +kernel
theorem d_Md_newNode_24 : decode mm_Md_newNode.2.1 24 = .ok (.aload_n 0, 1) := by decide +kernel
theorem d_Md_newNode_25 : decode mm_Md_newNode.2.1 25 = .ok (.getfield 154, 3) := by decide +kernel
theorem d_Md_newNode_28 : decode mm_Md_newNode.2.1 28 = .ok (.iload_n 1, 1) := by decide +kernel
theorem d_Md_newNode_29 : decode mm_Md_newNode.2.1 29 = .ok (.iastore, 1) := by decide +kernel
theorem d_Md_newNode_30 : decode mm_Md_newNode.2.1 30 = .ok (.aload_n 0, 1) := by decide +kernel
theorem d_Md_newNode_31 : decode mm_Md_newNode.2.1 31 = .ok (.getfield 63, 3) := by decide +kernel
theorem d_Md_newNode_34 : decode mm_Md_newNode.2.1 34 = .ok (.aload_n 0, 1) := by decide +kernel
theorem d_Md_newNode_35 : decode mm_Md_newNode.2.1 35 = .ok (.getfield 154, 3) := by decide +kernel
theorem d_Md_newNode_38 : decode mm_Md_newNode.2.1 38 = .ok (.iconst (-1), 1) := by decide +kernel
theorem d_Md_newNode_39 : decode mm_Md_newNode.2.1 39 = .ok (.iastore, 1) := by decide +kernel
theorem d_Md_newNode_40 : decode mm_Md_newNode.2.1 40 = .ok (.aload_n 0, 1) := by decide +kernel
theorem d_Md_newNode_41 : decode mm_Md_newNode.2.1 41 = .ok (.getfield 66, 3) := by decide +kernel
theorem d_Md_newNode_44 : decode mm_Md_newNode.2.1 44 = .ok (.aload_n 0, 1) := by decide +kernel
theorem d_Md_newNode_45 : decode mm_Md_newNode.2.1 45 = .ok (.getfield 154, 3) := by decide +kernel
theorem d_Md_newNode_48 : decode mm_Md_newNode.2.1 48 = .ok (.iconst (-1), 1) := by decide +kernel
theorem d_Md_newNode_49 : decode mm_Md_newNode.2.1 49 = .ok (.iastore, 1) := by decide +kernel
theorem d_Md_newNode_50 : decode mm_Md_newNode.2.1 50 = .ok (.aload_n 0, 1) := by decide +kernel
theorem d_Md_newNode_51 : decode mm_Md_newNode.2.1 51 = .ok (.getfield 69, 3) := by decide +kernel
theorem d_Md_newNode_54 : decode mm_Md_newNode.2.1 54 = .ok (.aload_n 0, 1) := by decide +kernel
theorem d_Md_newNode_55 : decode mm_Md_newNode.2.1 55 = .ok (.getfield 154, 3) := by decide +kernel
theorem d_Md_newNode_58 : decode mm_Md_newNode.2.1 58 = .ok (.iconst (-1), 1) := by decide +kernel
theorem d_Md_newNode_59 : decode mm_Md_newNode.2.1 59 = .ok (.iastore, 1) := by decide +kernel
theorem d_Md_newNode_60 : decode mm_Md_newNode.2.1 60 = .ok (.aload_n 0, 1) := by decide +kernel
theorem d_Md_newNode_61 : decode mm_Md_newNode.2.1 61 = .ok (.getfield 72, 3) := by decide +kernel
theorem d_Md_newNode_64 : decode mm_Md_newNode.2.1 64 = .ok (.aload_n 0, 1) := by decide +kernel
theorem d_Md_newNode_65 : decode mm_Md_newNode.2.1 65 = .ok (.getfield 154, 3) := by decide +kernel
theorem d_Md_newNode_68 : decode mm_Md_newNode.2.1 68 = .ok (.lload_n 2, 1) := by decide +kernel
theorem d_Md_newNode_69 : decode mm_Md_newNode.2.1 69 = .ok (.lastore, 1) := by decide +kernel
theorem d_Md_newNode_70 : decode mm_Md_newNode.2.1 70 = .ok (.aload_n 0, 1) := by decide +kernel
theorem d_Md_newNode_71 : decode mm_Md_newNode.2.1 71 = .ok (.getfield 75, 3) := by decide +kernel
theorem d_Md_newNode_74 : decode mm_Md_newNode.2.1 74 = .ok (.aload_n 0, 1) := by decide +kernel
theorem d_Md_newNode_75 : decode mm_Md_newNode.2.1 75 = .ok (.getfield 154, 3) := by decide +kernel
theorem d_Md_newNode_78 : decode mm_Md_newNode.2.1 78 = .ok (.aload_n 0, 1) := by decide +kernel
theorem d_Md_newNode_79 : decode mm_Md_newNode.2.1 79 = .ok (.getfield 114, 3) := by decide +kernel
theorem d_Md_newNode_82 : decode mm_Md_newNode.2.1 82 = .ok (.iastore, 1) := by decide +kernel
theorem d_Md_newNode_83 : decode mm_Md_newNode.2.1 83 = .ok (.aload_n 0, 1) := by decide +kernel
theorem d_Md_newNode_84 : decode mm_Md_newNode.2.1 84 = .ok (.dup, 1) := by decide +kernel
theorem d_Md_newNode_85 : decode mm_Md_newNode.2.1 85 = .ok (.getfield 154, 3) := by decide +kernel
theorem d_Md_newNode_88 : decode mm_Md_newNode.2.1 88 = .ok (.iconst 1, 1) := by decide +kernel
theorem d_Md_newNode_89 : decode mm_Md_newNode.2.1 89 = .ok (.iadd, 1) := by decide +kernel
theorem d_Md_newNode_90 : decode mm_Md_newNode.2.1 90 = .ok (.putfield 154, 3) := by decide +kernel
theorem d_Md_newNode_93 : decode mm_Md_newNode.2.1 93 = .ok (.aload_n 0, 1) := by decide +kernel
theorem d_Md_newNode_94 : decode mm_Md_newNode.2.1 94 = .ok (.getfield 154, 3) := by decide +kernel
theorem d_Md_newNode_97 : decode mm_Md_newNode.2.1 97 = .ok (.iconst 1, 1) := by decide +kernel
theorem d_Md_newNode_98 : decode mm_Md_newNode.2.1 98 = .ok (.isub, 1) := by decide +kernel
theorem d_Md_newNode_99 : decode mm_Md_newNode.2.1 99 = .ok (.ireturn, 1) := by decide +kernel
theorem d_Md_settle_0 : decode mm_Md_settle.2.1 0 = .ok (.aload_n 0, 1) := by decide +kernel
theorem d_Md_settle_1 : decode mm_Md_settle.2.1 1 = .ok (.getfield 157, 3) := by decide +kernel
theorem d_Md_settle_4 : decode mm_Md_settle.2.1 4 = .ok (.ifCond .le 166, 3) := by decide +kernel
theorem d_Md_settle_7 : decode mm_Md_settle.2.1 7 = .ok (.aload_n 0, 1) := by decide +kernel
theorem d_Md_settle_8 : decode mm_Md_settle.2.1 8 = .ok (.aload_n 0, 1) := by decide +kernel
theorem d_Md_settle_9 : decode mm_Md_settle.2.1 9 = .ok (.getfield 78, 3) := by decide +kernel
theorem d_Md_settle_12 : decode mm_Md_settle.2.1 12 = .ok (.aload_n 0, 1) := by decide +kernel
theorem d_Md_settle_13 : decode mm_Md_settle.2.1 13 = .ok (.getfield 157, 3) := by decide +kernel
theorem d_Md_settle_16 : decode mm_Md_settle.2.1 16 = .ok (.iconst 1, 1) := by decide +kernel
theorem d_Md_settle_17 : decode mm_Md_settle.2.1 17 = .ok (.isub, 1) := by decide +kernel
theorem d_Md_settle_18 : decode mm_Md_settle.2.1 18 = .ok (.iaload, 1) := by decide +kernel
theorem d_Md_settle_19 : decode mm_Md_settle.2.1 19 = .ok (.invokevirtual 160, 3) := by decide +kernel
theorem d_Md_settle_22 : decode mm_Md_settle.2.1 22 = .ok (.ifCond .eq 148, 3) := by decide +kernel
theorem d_Md_settle_25 : decode mm_Md_settle.2.1 25 = .ok (.aload_n 0, 1) := by decide +kernel
theorem d_Md_settle_26 : decode mm_Md_settle.2.1 26 = .ok (.getfield 60, 3) := by decide +kernel
theorem d_Md_settle_29 : decode mm_Md_settle.2.1 29 = .ok (.aload_n 0, 1) := by decide +kernel
theorem d_Md_settle_30 : decode mm_Md_settle.2.1 30 = .ok (.getfield 78, 3) := by decide +kernel
theorem d_Md_settle_33 : decode mm_Md_settle.2.1 33 = .ok (.aload_n 0, 1) := by decide +kernel
theorem d_Md_settle_34 : decode mm_Md_settle.2.1 34 = .ok (.getfield 157, 3) := by decide +kernel
theorem d_Md_settle_37 : decode mm_Md_settle.2.1 37 = .ok (.iconst 1, 1) := by decide +kernel
theorem d_Md_settle_38 : decode mm_Md_settle.2.1 38 = .ok (.isub, 1) := by decide +kernel
theorem d_Md_settle_39 : decode mm_Md_settle.2.1 39 = .ok (.iaload, 1) := by decide +kernel
theorem d_Md_settle_40 : decode mm_Md_settle.2.1 40 = .ok (.iaload, 1) := by decide +kernel
theorem d_Md_settle_41 : decode mm_Md_settle.2.1 41 = .ok (.invokestatic 163, 3) := by decide +kernel
theorem d_Md_settle_44 : decode mm_Md_settle.2.1 44 = .ok (.iload_n 1, 1) := by decide +kernel
theorem d_Md_settle_45 : decode mm_Md_settle.2.1 45 = .ok (.if_icmp .lt 125, 3) := by decide +kernel
theorem d_Md_settle_48 : decode mm_Md_settle.2.1 48 = .ok (.aload_n 0, 1) := by decide +kernel
theorem d_Md_settle_49 : decode mm_Md_settle.2.1 49 = .ok (.getfield 78, 3) := by decide +kernel
theorem d_Md_settle_52 : decode mm_Md_settle.2.1 52 = .ok (.aload_n 0, 1) := by decide +kernel
theorem d_Md_settle_53 : decode mm_Md_settle.2.1 53 = .ok (.getfield 157, 3) := by decide +kernel
theorem d_Md_settle_56 : decode mm_Md_settle.2.1 56 = .ok (.iconst 1, 1) := by decide +kernel
theorem d_Md_settle_57 : decode mm_Md_settle.2.1 57 = .ok (.isub, 1) := by decide +kernel
theorem d_Md_settle_58 : decode mm_Md_settle.2.1 58 = .ok (.iaload, 1) := by decide +kernel
theorem d_Md_settle_59 : decode mm_Md_settle.2.1 59 = .ok (.istore_n 2, 1) := by decide +kernel
theorem d_Md_settle_60 : decode mm_Md_settle.2.1 60 = .ok (.aload_n 0, 1) := by decide +kernel
theorem d_Md_settle_61 : decode mm_Md_settle.2.1 61 = .ok (.dup, 1) := by decide +kernel
theorem d_Md_settle_62 : decode mm_Md_settle.2.1 62 = .ok (.getfield 157, 3) := by decide +kernel
theorem d_Md_settle_65 : decode mm_Md_settle.2.1 65 = .ok (.iconst 1, 1) := by decide +kernel
theorem d_Md_settle_66 : decode mm_Md_settle.2.1 66 = .ok (.isub, 1) := by decide +kernel
theorem d_Md_settle_67 : decode mm_Md_settle.2.1 67 = .ok (.putfield 157, 3) := by decide +kernel
theorem d_Md_settle_70 : decode mm_Md_settle.2.1 70 = .ok (.aload_n 0, 1) := by decide +kernel
theorem d_Md_settle_71 : decode mm_Md_settle.2.1 71 = .ok (.getfield 60, 3) := by decide +kernel
theorem d_Md_settle_74 : decode mm_Md_settle.2.1 74 = .ok (.iload_n 2, 1) := by decide +kernel
theorem d_Md_settle_75 : decode mm_Md_settle.2.1 75 = .ok (.iaload, 1) := by decide +kernel
theorem d_Md_settle_76 : decode mm_Md_settle.2.1 76 = .ok (.bipush 6, 2) := by decide +kernel
theorem d_Md_settle_78 : decode mm_Md_settle.2.1 78 = .ok (.if_icmp .ne 33, 3) := by decide +kernel
theorem d_Md_settle_81 : decode mm_Md_settle.2.1 81 = .ok (.aload_n 0, 1) := by decide +kernel
theorem d_Md_settle_82 : decode mm_Md_settle.2.1 82 = .ok (.getfield 63, 3) := by decide +kernel
theorem d_Md_settle_85 : decode mm_Md_settle.2.1 85 = .ok (.iload_n 2, 1) := by decide +kernel
theorem d_Md_settle_86 : decode mm_Md_settle.2.1 86 = .ok (.aload_n 0, 1) := by decide +kernel
theorem d_Md_settle_87 : decode mm_Md_settle.2.1 87 = .ok (.getfield 84, 3) := by decide +kernel
theorem d_Md_settle_90 : decode mm_Md_settle.2.1 90 = .ok (.aload_n 0, 1) := by decide +kernel
theorem d_Md_settle_91 : decode mm_Md_settle.2.1 91 = .ok (.getfield 166, 3) := by decide +kernel
theorem d_Md_settle_94 : decode mm_Md_settle.2.1 94 = .ok (.iconst 1, 1) := by decide +kernel
theorem d_Md_settle_95 : decode mm_Md_settle.2.1 95 = .ok (.isub, 1) := by decide +kernel
theorem d_Md_settle_96 : decode mm_Md_settle.2.1 96 = .ok (.iaload, 1) := by decide +kernel
theorem d_Md_settle_97 : decode mm_Md_settle.2.1 97 = .ok (.iastore, 1) := by decide +kernel
theorem d_Md_settle_98 : decode mm_Md_settle.2.1 98 = .ok (.aload_n 0, 1) := by decide +kernel
theorem d_Md_settle_99 : decode mm_Md_settle.2.1 99 = .ok (.dup, 1) := by decide +kernel
theorem d_Md_settle_100 : decode mm_Md_settle.2.1 100 = .ok (.getfield 169, 3) := by decide +kernel
theorem d_Md_settle_103 : decode mm_Md_settle.2.1 103 = .ok (.iconst 1, 1) := by decide +kernel
theorem d_Md_settle_104 : decode mm_Md_settle.2.1 104 = .ok (.isub, 1) := by decide +kernel
theorem d_Md_settle_105 : decode mm_Md_settle.2.1 105 = .ok (.putfield 169, 3) := by decide +kernel
theorem d_Md_settle_108 : decode mm_Md_settle.2.1 108 = .ok (.goto 47, 3) := by decide +kernel
theorem d_Md_settle_111 : decode mm_Md_settle.2.1 111 = .ok (.aload_n 0, 1) := by decide +kernel
theorem d_Md_settle_112 : decode mm_Md_settle.2.1 112 = .ok (.getfield 66, 3) := by decide +kernel
theorem d_Md_settle_115 : decode mm_Md_settle.2.1 115 = .ok (.iload_n 2, 1) := by decide +kernel
theorem d_Md_settle_116 : decode mm_Md_settle.2.1 116 = .ok (.aload_n 0, 1) := by decide +kernel
theorem d_Md_settle_117 : decode mm_Md_settle.2.1 117 = .ok (.getfield 84, 3) := by decide +kernel
theorem d_Md_settle_120 : decode mm_Md_settle.2.1 120 = .ok (.aload_n 0, 1) := by decide +kernel
theorem d_Md_settle_121 : decode mm_Md_settle.2.1 121 = .ok (.getfield 166, 3) := by decide +kernel
theorem d_Md_settle_124 : decode mm_Md_settle.2.1 124 = .ok (.iconst 1, 1) := by decide +kernel
theorem d_Md_settle_125 : decode mm_Md_settle.2.1 125 = .ok (.isub, 1) := by decide +kernel
theorem d_Md_settle_126 : decode mm_Md_settle.2.1 126 = .ok (.iaload, 1) := by decide +kernel
theorem d_Md_settle_127 : decode mm_Md_settle.2.1 127 = .ok (.iastore, 1) := by decide +kernel
theorem d_Md_settle_128 : decode mm_Md_settle.2.1 128 = .ok (.aload_n 0, 1) := by decide +kernel
theorem d_Md_settle_129 : decode mm_Md_settle.2.1 129 = .ok (.dup, 1) := by decide +kernel
theorem d_Md_settle_130 : decode mm_Md_settle.2.1 130 = .ok (.getfield 166, 3) := by decide +kernel
theorem d_Md_settle_133 : decode mm_Md_settle.2.1 133 = .ok (.iconst 1, 1) := by decide +kernel
theorem d_Md_settle_134 : decode mm_Md_settle.2.1 134 = .ok (.isub, 1) := by decide +kernel
theorem d_Md_settle_135 : decode mm_Md_settle.2.1 135 = .ok (.putfield 166, 3) := by decide +kernel
theorem d_Md_settle_138 : decode mm_Md_settle.2.1 138 = .ok (.aload_n 0, 1) := by decide +kernel
theorem d_Md_settle_139 : decode mm_Md_settle.2.1 139 = .ok (.getfield 63, 3) := by decide +kernel
theorem d_Md_settle_142 : decode mm_Md_settle.2.1 142 = .ok (.iload_n 2, 1) := by decide +kernel
theorem d_Md_settle_143 : decode mm_Md_settle.2.1 143 = .ok (.aload_n 0, 1) := by decide +kernel
theorem d_Md_settle_144 : decode mm_Md_settle.2.1 144 = .ok (.getfield 84, 3) := by decide +kernel
theorem d_Md_settle_147 : decode mm_Md_settle.2.1 147 = .ok (.aload_n 0, 1) := by decide +kernel
theorem d_Md_settle_148 : decode mm_Md_settle.2.1 148 = .ok (.getfield 166, 3) := by decide +kernel
theorem d_Md_settle_151 : decode mm_Md_settle.2.1 151 = .ok (.iconst 1, 1) := by decide +kernel
theorem d_Md_settle_152 : decode mm_Md_settle.2.1 152 = .ok (.isub, 1) := by decide +kernel
theorem d_Md_settle_153 : decode mm_Md_settle.2.1 153 = .ok (.iaload, 1) := by decide +kernel
theorem d_Md_settle_154 : decode mm_Md_settle.2.1 154 = .ok (.iastore, 1) := by decide +kernel
theorem d_Md_settle_155 : decode mm_Md_settle.2.1 155 = .ok (.aload_n 0, 1) := by decide +kernel
theorem d_Md_settle_156 : decode mm_Md_settle.2.1 156 = .ok (.getfield 84, 3) := by decide +kernel
theorem d_Md_settle_159 : decode mm_Md_settle.2.1 159 = .ok (.aload_n 0, 1) := by decide +kernel
theorem d_Md_settle_160 : decode mm_Md_settle.2.1 160 = .ok (.getfield 166, 3) := by decide +kernel
theorem d_Md_settle_163 : decode mm_Md_settle.2.1 163 = .ok (.iconst 1, 1) := by decide +kernel
theorem d_Md_settle_164 : decode mm_Md_settle.2.1 164 = .ok (.isub, 1) := by decide +kernel
theorem d_Md_settle_165 : decode mm_Md_settle.2.1 165 = .ok (.iload_n 2, 1) := by decide +kernel
theorem d_Md_settle_166 : decode mm_Md_settle.2.1 166 = .ok (.iastore, 1) := by decide +kernel
theorem d_Md_settle_167 : decode mm_Md_settle.2.1 167 = .ok (.goto (-167), 3) := by decide +kernel
theorem d_Md_settle_170 : decode mm_Md_settle.2.1 170 = .ok (.return_, 1) := by decide +kernel
theorem d_Md_isOperator_0 : decode mm_Md_isOperator.2.1 0 = .ok (.iload_n 1, 1) := by decide +kernel
theorem d_Md_isOperator_1 : decode mm_Md_isOperator.2.1 1 = .ok (.ifCond .lt 28, 3) := by decide +kernel
theorem d_Md_isOperator_4 : decode mm_Md_isOperator.2.1 4 = .ok (.aload_n 0, 1) := by decide +kernel
theorem d_Md_isOperator_5 : decode mm_Md_isOperator.2.1 5 = .ok (.getfield 60, 3) := by decide +kernel
theorem d_Md_isOperator_8 : decode mm_Md_isOperator.2.1 8 = .ok (.iload_n 1, 1) := by decide +kernel
theorem d_Md_isOperator_9 : decode mm_Md_isOperator.2.1 9 = .ok (.iaload, 1) := by decide +kernel
theorem d_Md_isOperator_10 : decode mm_Md_isOperator.2.1 10 = .ok (.iconst 2, 1) := by decide +kernel
theorem d_Md_isOperator_11 : decode mm_Md_isOperator.2.1 11 = .ok (.if_icmp .lt 18, 3) := by decide +kernel
theorem d_Md_isOperator_14 : decode mm_Md_isOperator.2.1 14 = .ok (.aload_n 0, 1) := by decide +kernel
theorem d_Md_isOperator_15 : decode mm_Md_isOperator.2.1 15 = .ok (.getfield 60, 3) := by decide +kernel
theorem d_Md_isOperator_18 : decode mm_Md_isOperator.2.1 18 = .ok (.iload_n 1, 1) := by decide +kernel
theorem d_Md_isOperator_19 : decode mm_Md_isOperator.2.1 19 = .ok (.iaload, 1) := by decide +kernel
theorem d_Md_isOperator_20 : decode mm_Md_isOperator.2.1 20 = .ok (.bipush 6, 2) := by decide +kernel
theorem d_Md_isOperator_22 : decode mm_Md_isOperator.2.1 22 = .ok (.if_icmp .gt 7, 3) := by decide +kernel
theorem d_Md_isOperator_25 : decode mm_Md_isOperator.2.1 25 = .ok (.iconst 1, 1) := by decide +kernel
theorem d_Md_isOperator_26 : decode mm_Md_isOperator.2.1 26 = .ok (.goto 4, 3) := by decide +kernel
theorem d_Md_isOperator_29 : decode mm_Md_isOperator.2.1 29 = .ok (.iconst 0, 1) := by decide +kernel
theorem d_Md_isOperator_30 : decode mm_Md_isOperator.2.1 30 = .ok (.ireturn, 1) := by decide +kernel
theorem d_Md_strength_0 : decode mm_Md_strength.2.1 0 = .ok (.iload_n 0, 1) := by decide +kernel
theorem d_Md_strength_1 : decode mm_Md_strength.2.1 1 = .ok (.bipush 6, 2) := by decide +kernel
theorem d_Md_strength_3 : decode mm_Md_strength.2.1 3 = .ok (.if_icmp .ne 7, 3) := by decide +kernel
theorem d_Md_strength_6 : decode mm_Md_strength.2.1 6 = .ok (.iconst 3, 1) := by decide +kernel
theorem d_Md_strength_7 : decode mm_Md_strength.2.1 7 = .ok (.goto 18, 3) := by decide +kernel
theorem d_Md_strength_10 : decode mm_Md_strength.2.1 10 = .ok (.iload_n 0, 1) := by decide +kernel
theorem d_Md_strength_11 : decode mm_Md_strength.2.1 11 = .ok (.iconst 4, 1) := by decide +kernel
theorem d_Md_strength_12 : decode mm_Md_strength.2.1 12 = .ok (.if_icmp .eq 8, 3) := by decide +kernel
theorem d_Md_strength_15 : decode mm_Md_strength.2.1 15 = .ok (.iload_n 0, 1) := by decide +kernel
theorem d_Md_strength_16 : decode mm_Md_strength.2.1 16 = .ok (.iconst 5, 1) := by decide +kernel
theorem d_Md_strength_17 : decode mm_Md_strength.2.1 17 = .ok (.if_icmp .ne 7, 3) := by decide +kernel
theorem d_Md_strength_20 : decode mm_Md_strength.2.1 20 = .ok (.iconst 2, 1) := by decide +kernel
theorem d_Md_strength_21 : decode mm_Md_strength.2.1 21 = .ok (.goto 4, 3) := by decide +kernel
theorem d_Md_strength_24 : decode mm_Md_strength.2.1 24 = .ok (.iconst 1, 1) := by decide +kernel
theorem d_Md_strength_25 : decode mm_Md_strength.2.1 25 = .ok (.ireturn, 1) := by decide +kernel
theorem d_Md_deeper_0 : decode mm_Md_deeper.2.1 0 = .ok (.aload_n 0, 1) := by decide +kernel
theorem d_Md_deeper_1 : decode mm_Md_deeper.2.1 1 = .ok (.getfield 169, 3) := by decide +kernel
theorem d_Md_deeper_4 : decode mm_Md_deeper.2.1 4 = .ok (.bipush 20, 2) := by decide +kernel
theorem d_Md_deeper_6 : decode mm_Md_deeper.2.1 6 = .ok (.if_icmp .ne 12, 3) := by decide +kernel
theorem d_Md_deeper_9 : decode mm_Md_deeper.2.1 9 = .ok (.aload_n 0, 1) := by decide +kernel
theorem d_Md_deeper_10 : decode mm_Md_deeper.2.1 10 = .ok (.iconst 3, 1) := by decide +kernel
theorem d_Md_deeper_11 : decode mm_Md_deeper.2.1 11 = .ok (.aload_n 0, 1) := by decide +kernel
theorem d_Md_deeper_12 : decode mm_Md_deeper.2.1 12 = .ok (.getfield 114, 3) := by decide +kernel
theorem d_Md_deeper_15 : decode mm_Md_deeper.2.1 15 = .ok (.invokevirtual 150, 3) := by decide +kernel
theorem d_Md_deeper_18 : decode mm_Md_deeper.2.1 18 = .ok (.aload_n 0, 1) := by decide +kernel
theorem d_Md_deeper_19 : decode mm_Md_deeper.2.1 19 = .ok (.dup, 1) := by decide +kernel
theorem d_Md_deeper_20 : decode mm_Md_deeper.2.1 20 = .ok (.getfield 169, 3) := by decide +kernel
theorem d_Md_deeper_23 : decode mm_Md_deeper.2.1 23 = .ok (.iconst 1, 1) := by decide +kernel
theorem d_Md_deeper_24 : decode mm_Md_deeper.2.1 24 = .ok (.iadd, 1) := by decide +kernel
theorem d_Md_deeper_25 : decode mm_Md_deeper.2.1 25 = .ok (.putfield 169, 3) := by decide +kernel
theorem d_Md_deeper_28 : decode mm_Md_deeper.2.1 28 = .ok (.return_, 1) := by decide +kernel
theorem d_Md_await_0 : decode mm_Md_await.2.1 0 = .ok (.aload_n 0, 1) := by decide +kernel
theorem d_Md_await_1 : decode mm_Md_await.2.1 1 = .ok (.getfield 78, 3) := by decide +kernel
theorem d_Md_await_4 : decode mm_Md_await.2.1 4 = .ok (.aload_n 0, 1) := by decide +kernel
theorem d_Md_await_5 : decode mm_Md_await.2.1 5 = .ok (.getfield 157, 3) := by decide +kernel
theorem d_Md_await_8 : decode mm_Md_await.2.1 8 = .ok (.iload_n 1, 1) := by decide +kernel
theorem d_Md_await_9 : decode mm_Md_await.2.1 9 = .ok (.iastore, 1) := by decide +kernel
theorem d_Md_await_10 : decode mm_Md_await.2.1 10 = .ok (.aload_n 0, 1) := by decide +kernel
theorem d_Md_await_11 : decode mm_Md_await.2.1 11 = .ok (.getfield 81, 3) := by decide +kernel
theorem d_Md_await_14 : decode mm_Md_await.2.1 14 = .ok (.aload_n 0, 1) := by decide +kernel
theorem d_Md_await_15 : decode mm_Md_await.2.1 15 = .ok (.getfield 157, 3) := by decide +kernel
theorem d_Md_await_18 : decode mm_Md_await.2.1 18 = .ok (.iconst 0, 1) := by decide +kernel
theorem d_Md_await_19 : decode mm_Md_await.2.1 19 = .ok (.iastore, 1) := by decide +kernel
theorem d_Md_await_20 : decode mm_Md_await.2.1 20 = .ok (.aload_n 0, 1) := by decide +kernel
theorem d_Md_await_21 : decode mm_Md_await.2.1 21 = .ok (.dup, 1) := by decide +kernel
theorem d_Md_await_22 : decode mm_Md_await.2.1 22 = .ok (.getfield 157, 3) := by decide +kernel
theorem d_Md_await_25 : decode mm_Md_await.2.1 25 = .ok (.iconst 1, 1) := by decide +kernel
theorem d_Md_await_26 : decode mm_Md_await.2.1 26 = .ok (.iadd, 1) := by decide +kernel
theorem d_Md_await_27 : decode mm_Md_await.2.1 27 = .ok (.putfield 157, 3) := by decide +kernel
theorem d_Md_await_30 : decode mm_Md_await.2.1 30 = .ok (.return_, 1) := by decide +kernel
theorem d_Md_behind_0 : decode mm_Md_behind.2.1 0 = .ok (.aload_n 0, 1) := by decide +kernel
theorem d_Md_behind_1 : decode mm_Md_behind.2.1 1 = .ok (.getfield 117, 3) := by decide +kernel
theorem d_Md_behind_4 : decode mm_Md_behind.2.1 4 = .ok (.bipush 43, 2) := by decide +kernel
theorem d_Md_behind_6 : decode mm_Md_behind.2.1 6 = .ok (.if_icmp .eq 30, 3) := by decide +kernel
theorem d_Md_behind_9 : decode mm_Md_behind.2.1 9 = .ok (.aload_n 0, 1) := by decide +kernel
theorem d_Md_behind_10 : decode mm_Md_behind.2.1 10 = .ok (.getfield 117, 3) := by decide +kernel
theorem d_Md_behind_13 : decode mm_Md_behind.2.1 13 = .ok (.bipush 45, 2) := by decide +kernel
theorem d_Md_behind_15 : decode mm_Md_behind.2.1 15 = .ok (.if_icmp .eq 21, 3) := by decide +kernel
theorem d_Md_behind_18 : decode mm_Md_behind.2.1 18 = .ok (.aload_n 0, 1) := by decide +kernel
theorem d_Md_behind_19 : decode mm_Md_behind.2.1 19 = .ok (.getfield 117, 3) := by decide +kernel
theorem d_Md_behind_22 : decode mm_Md_behind.2.1 22 = .ok (.bipush 42, 2) := by decide +kernel
theorem d_Md_behind_24 : decode mm_Md_behind.2.1 24 = .ok (.if_icmp .eq 12, 3) := by decide +kernel
theorem d_Md_behind_27 : decode mm_Md_behind.2.1 27 = .ok (.aload_n 0, 1) := by decide +kernel
theorem d_Md_behind_28 : decode mm_Md_behind.2.1 28 = .ok (.getfield 117, 3) := by decide +kernel
theorem d_Md_behind_31 : decode mm_Md_behind.2.1 31 = .ok (.bipush 47, 2) := by decide +kernel
theorem d_Md_behind_33 : decode mm_Md_behind.2.1 33 = .ok (.if_icmp .ne 7, 3) := by decide +kernel
theorem d_Md_behind_36 : decode mm_Md_behind.2.1 36 = .ok (.iconst 1, 1) := by decide +kernel
theorem d_Md_behind_37 : decode mm_Md_behind.2.1 37 = .ok (.goto 4, 3) := by decide +kernel
theorem d_Md_behind_40 : decode mm_Md_behind.2.1 40 = .ok (.iconst 0, 1) := by decide +kernel
theorem d_Md_behind_41 : decode mm_Md_behind.2.1 41 = .ok (.istore_n 1, 1) := by decide +kernel
theorem d_Md_behind_42 : decode mm_Md_behind.2.1 42 = .ok (.iload_n 1, 1) := by decide +kernel
theorem d_Md_behind_43 : decode mm_Md_behind.2.1 43 = .ok (.ifCond .eq 68, 3) := by decide +kernel
theorem d_Md_behind_46 : decode mm_Md_behind.2.1 46 = .ok (.aload_n 0, 1) := by decide +kernel
theorem d_Md_behind_47 : decode mm_Md_behind.2.1 47 = .ok (.getfield 117, 3) := by decide +kernel
theorem d_Md_behind_50 : decode mm_Md_behind.2.1 50 = .ok (.bipush 43, 2) := by decide +kernel
theorem d_Md_behind_52 : decode mm_Md_behind.2.1 52 = .ok (.if_icmp .ne 7, 3) := by decide +kernel
theorem d_Md_behind_55 : decode mm_Md_behind.2.1 55 = .ok (.iconst 2, 1) := by decide +kernel
theorem d_Md_behind_56 : decode mm_Md_behind.2.1 56 = .ok (.goto 30, 3) := by decide +kernel
theorem d_Md_behind_59 : decode mm_Md_behind.2.1 59 = .ok (.aload_n 0, 1) := by decide +kernel
theorem d_Md_behind_60 : decode mm_Md_behind.2.1 60 = .ok (.getfield 117, 3) := by decide +kernel
theorem d_Md_behind_63 : decode mm_Md_behind.2.1 63 = .ok (.bipush 45, 2) := by decide +kernel
theorem d_Md_behind_65 : decode mm_Md_behind.2.1 65 = .ok (.if_icmp .ne 7, 3) := by decide +kernel
theorem d_Md_behind_68 : decode mm_Md_behind.2.1 68 = .ok (.iconst 3, 1) := by decide +kernel
theorem d_Md_behind_69 : decode mm_Md_behind.2.1 69 = .ok (.goto 17, 3) := by decide +kernel
theorem d_Md_behind_72 : decode mm_Md_behind.2.1 72 = .ok (.aload_n 0, 1) := by decide +kernel
theorem d_Md_behind_73 : decode mm_Md_behind.2.1 73 = .ok (.getfield 117, 3) := by decide +kernel
theorem d_Md_behind_76 : decode mm_Md_behind.2.1 76 = .ok (.bipush 42, 2) := by decide +kernel
theorem d_Md_behind_78 : decode mm_Md_behind.2.1 78 = .ok (.if_icmp .ne 7, 3) := by decide +kernel
theorem d_Md_behind_81 : decode mm_Md_behind.2.1 81 = .ok (.iconst 4, 1) := by decide +kernel
theorem d_Md_behind_82 : decode mm_Md_behind.2.1 82 = .ok (.goto 4, 3) := by decide +kernel
theorem d_Md_behind_85 : decode mm_Md_behind.2.1 85 = .ok (.iconst 5, 1) := by decide +kernel
theorem d_Md_behind_86 : decode mm_Md_behind.2.1 86 = .ok (.istore_n 2, 1) := by decide +kernel
theorem d_Md_behind_87 : decode mm_Md_behind.2.1 87 = .ok (.aload_n 0, 1) := by decide +kernel
theorem d_Md_behind_88 : decode mm_Md_behind.2.1 88 = .ok (.iload_n 2, 1) := by decide +kernel
theorem d_Md_behind_89 : decode mm_Md_behind.2.1 89 = .ok (.invokestatic 163, 3) := by decide +kernel
theorem d_Md_behind_92 : decode mm_Md_behind.2.1 92 = .ok (.invokevirtual 179, 3) := by decide +kernel
theorem d_Md_behind_95 : decode mm_Md_behind.2.1 95 = .ok (.aload_n 0, 1) := by decide +kernel
theorem d_Md_behind_96 : decode mm_Md_behind.2.1 96 = .ok (.aload_n 0, 1) := by decide +kernel
theorem d_Md_behind_97 : decode mm_Md_behind.2.1 97 = .ok (.iload_n 2, 1) := by decide +kernel
theorem d_Md_behind_98 : decode mm_Md_behind.2.1 98 = .ok (.lconst 0, 1) := by decide +kernel
theorem d_Md_behind_99 : decode mm_Md_behind.2.1 99 = .ok (.invokevirtual 172, 3) := by decide +kernel
theorem d_Md_behind_102 : decode mm_Md_behind.2.1 102 = .ok (.invokevirtual 186, 3) := by decide +kernel
theorem d_Md_behind_105 : decode mm_Md_behind.2.1 105 = .ok (.aload_n 0, 1) := by decide +kernel
theorem d_Md_behind_106 : decode mm_Md_behind.2.1 106 = .ok (.invokevirtual 176, 3) := by decide +kernel
theorem d_Md_behind_109 : decode mm_Md_behind.2.1 109 = .ok (.iconst 1, 1) := by decide +kernel
theorem d_Md_behind_110 : decode mm_Md_behind.2.1 110 = .ok (.ireturn, 1) := by decide +kernel
theorem d_Md_behind_111 : decode mm_Md_behind.2.1 111 = .ok (.aload_n 0, 1) := by decide +kernel
theorem d_Md_behind_112 : decode mm_Md_behind.2.1 112 = .ok (.getfield 117, 3) := by decide +kernel
theorem d_Md_behind_115 : decode mm_Md_behind.2.1 115 = .ok (.bipush (-2), 2) := by decide +kernel
theorem d_Md_behind_117 : decode mm_Md_behind.2.1 117 = .ok (.if_icmp .ne 21, 3) := by decide +kernel
theorem d_Md_behind_120 : decode mm_Md_behind.2.1 120 = .ok (.aload_n 0, 1) := by decide +kernel
theorem d_Md_behind_121 : decode mm_Md_behind.2.1 121 = .ok (.iconst 1, 1) := by decide +kernel
theorem d_Md_behind_122 : decode mm_Md_behind.2.1 122 = .ok (.invokevirtual 179, 3) := by decide +kernel
theorem d_Md_behind_125 : decode mm_Md_behind.2.1 125 = .ok (.aload_n 0, 1) := by decide +kernel
theorem d_Md_behind_126 : decode mm_Md_behind.2.1 126 = .ok (.getfield 157, 3) := by decide +kernel
theorem d_Md_behind_129 : decode mm_Md_behind.2.1 129 = .ok (.ifCond .le 7, 3) := by decide +kernel
theorem d_Md_behind_132 : decode mm_Md_behind.2.1 132 = .ok (.aload_n 0, 1) := by decide +kernel
theorem d_Md_behind_133 : decode mm_Md_behind.2.1 133 = .ok (.invokevirtual 189, 3) := by decide +kernel
theorem d_Md_behind_136 : decode mm_Md_behind.2.1 136 = .ok (.iconst 0, 1) := by decide +kernel
theorem d_Md_behind_137 : decode mm_Md_behind.2.1 137 = .ok (.ireturn, 1) := by decide +kernel
theorem d_Md_behind_138 : decode mm_Md_behind.2.1 138 = .ok (.aload_n 0, 1) := by decide +kernel
theorem d_Md_behind_139 : decode mm_Md_behind.2.1 139 = .ok (.getfield 117, 3) := by decide +kernel
theorem d_Md_behind_142 : decode mm_Md_behind.2.1 142 = .ok (.bipush 41, 2) := by decide +kernel
theorem d_Md_behind_144 : decode mm_Md_behind.2.1 144 = .ok (.if_icmp .eq 18, 3) := by decide +kernel
theorem d_Md_behind_147 : decode mm_Md_behind.2.1 147 = .ok (.aload_n 0, 1) := by decide +kernel
theorem d_Md_behind_148 : decode mm_Md_behind.2.1 148 = .ok (.getfield 117, 3) := by decide +kernel
theorem d_Md_behind_151 : decode mm_Md_behind.2.1 151 = .ok (.bipush 44, 2) := by decide +kernel
theorem d_Md_behind_153 : decode mm_Md_behind.2.1 153 = .ok (.if_icmp .eq 9, 3) := by decide +kernel
theorem d_Md_behind_156 : decode mm_Md_behind.2.1 156 = .ok (.aload_n 0, 1) := by decide +kernel
theorem d_Md_behind_157 : decode mm_Md_behind.2.1 157 = .ok (.invokevirtual 189, 3) := by decide +kernel
theorem d_Md_behind_160 : decode mm_Md_behind.2.1 160 = .ok (.iconst 0, 1) := by decide +kernel
theorem d_Md_behind_161 : decode mm_Md_behind.2.1 161 = .ok (.ireturn, 1) := by decide +kernel
theorem d_Md_behind_162 : decode mm_Md_behind.2.1 162 = .ok (.aload_n 0, 1) := by decide +kernel
theorem d_Md_behind_163 : decode mm_Md_behind.2.1 163 = .ok (.iconst 1, 1) := by decide +kernel
theorem d_Md_behind_164 : decode mm_Md_behind.2.1 164 = .ok (.invokevirtual 179, 3) := by decide +kernel
theorem d_Md_behind_167 : decode mm_Md_behind.2.1 167 = .ok (.aload_n 0, 1) := by decide +kernel
theorem d_Md_behind_168 : decode mm_Md_behind.2.1 168 = .ok (.getfield 157, 3) := by decide +kernel
theorem d_Md_behind_171 : decode mm_Md_behind.2.1 171 = .ok (.ifCond .le 17, 3) := by decide +kernel
theorem d_Md_behind_174 : decode mm_Md_behind.2.1 174 = .ok (.aload_n 0, 1) := by decide +kernel
theorem d_Md_behind_175 : decode mm_Md_behind.2.1 175 = .ok (.getfield 78, 3) := by decide +kernel
theorem d_Md_behind_178 : decode mm_Md_behind.2.1 178 = .ok (.aload_n 0, 1) := by decide +kernel
theorem d_Md_behind_179 : decode mm_Md_behind.2.1 179 = .ok (.getfield 157, 3) := by decide +kernel
theorem d_Md_behind_182 : decode mm_Md_behind.2.1 182 = .ok (.iconst 1, 1) := by decide +kernel
theorem d_Md_behind_183 : decode mm_Md_behind.2.1 183 = .ok (.isub, 1) := by decide +kernel
theorem d_Md_behind_184 : decode mm_Md_behind.2.1 184 = .ok (.iaload, 1) := by decide +kernel
theorem d_Md_behind_185 : decode mm_Md_behind.2.1 185 = .ok (.goto 5, 3) := by decide +kernel
theorem d_Md_behind_188 : decode mm_Md_behind.2.1 188 = .ok (.bipush (-2), 2) := by decide +kernel
theorem d_Md_behind_190 : decode mm_Md_behind.2.1 190 = .ok (.istore_n 2, 1) := by decide +kernel
theorem d_Md_behind_191 : decode mm_Md_behind.2.1 191 = .ok (.aload_n 0, 1) := by decide +kernel
theorem d_Md_behind_192 : decode mm_Md_behind.2.1 192 = .ok (.getfield 117, 3) := by decide +kernel
theorem d_Md_behind_195 : decode mm_Md_behind.2.1 195 = .ok (.bipush 44, 2) := by decide +kernel
theorem d_Md_behind_197 : decode mm_Md_behind.2.1 197 = .ok (.if_icmp .ne 49, 3) := by decide +kernel
theorem d_Md_behind_200 : decode mm_Md_behind.2.1 200 = .ok (.iload_n 2, 1) := by decide +kernel
theorem d_Md_behind_201 : decode mm_Md_behind.2.1 201 = .ok (.ifCond .lt 28, 3) := by decide +kernel
theorem d_Md_behind_204 : decode mm_Md_behind.2.1 204 = .ok (.aload_n 0, 1) := by decide +kernel
theorem d_Md_behind_205 : decode mm_Md_behind.2.1 205 = .ok (.getfield 81, 3) := by decide +kernel
theorem d_Md_behind_208 : decode mm_Md_behind.2.1 208 = .ok (.aload_n 0, 1) := by decide +kernel
theorem d_Md_behind_209 : decode mm_Md_behind.2.1 209 = .ok (.getfield 157, 3) := by decide +kernel
theorem d_Md_behind_212 : decode mm_Md_behind.2.1 212 = .ok (.iconst 1, 1) := by decide +kernel
theorem d_Md_behind_213 : decode mm_Md_behind.2.1 213 = .ok (.isub, 1) := by decide +kernel
theorem d_Md_behind_214 : decode mm_Md_behind.2.1 214 = .ok (.iaload, 1) := by decide +kernel
theorem d_Md_behind_215 : decode mm_Md_behind.2.1 215 = .ok (.iconst 1, 1) := by decide +kernel
theorem d_Md_behind_216 : decode mm_Md_behind.2.1 216 = .ok (.iadd, 1) := by decide +kernel
theorem d_Md_behind_217 : decode mm_Md_behind.2.1 217 = .ok (.aload_n 0, 1) := by decide +kernel
theorem d_Md_behind_218 : decode mm_Md_behind.2.1 218 = .ok (.getfield 60, 3) := by decide +kernel
theorem d_Md_behind_221 : decode mm_Md_behind.2.1 221 = .ok (.iload_n 2, 1) := by decide +kernel
theorem d_Md_behind_222 : decode mm_Md_behind.2.1 222 = .ok (.iaload, 1) := by decide +kernel
theorem d_Md_behind_223 : decode mm_Md_behind.2.1 223 = .ok (.invokestatic 192, 3) := by decide +kernel
theorem d_Md_behind_226 : decode mm_Md_behind.2.1 226 = .ok (.if_icmp .ne 9, 3) := by decide +kernel
theorem d_Md_behind_229 : decode mm_Md_behind.2.1 229 = .ok (.aload_n 0, 1) := by decide +kernel
theorem d_Md_behind_230 : decode mm_Md_behind.2.1 230 = .ok (.invokevirtual 189, 3) := by decide +kernel
theorem d_Md_behind_233 : decode mm_Md_behind.2.1 233 = .ok (.iconst 0, 1) := by decide +kernel
theorem d_Md_behind_234 : decode mm_Md_behind.2.1 234 = .ok (.ireturn, 1) := by decide +kernel
theorem d_Md_behind_235 : decode mm_Md_behind.2.1 235 = .ok (.aload_n 0, 1) := by decide +kernel
theorem d_Md_behind_236 : decode mm_Md_behind.2.1 236 = .ok (.iload_n 2, 1) := by decide +kernel
theorem d_Md_behind_237 : decode mm_Md_behind.2.1 237 = .ok (.invokevirtual 195, 3) := by decide +kernel
theorem d_Md_behind_240 : decode mm_Md_behind.2.1 240 = .ok (.aload_n 0, 1) := by decide +kernel
theorem d_Md_behind_241 : decode mm_Md_behind.2.1 241 = .ok (.invokevirtual 176, 3) := by decide +kernel
theorem d_Md_behind_244 : decode mm_Md_behind.2.1 244 = .ok (.iconst 1, 1) := by decide +kernel
theorem d_Md_behind_245 : decode mm_Md_behind.2.1 245 = .ok (.ireturn, 1) := by decide +kernel
theorem d_Md_behind_246 : decode mm_Md_behind.2.1 246 = .ok (.iload_n 2, 1) := by decide +kernel
theorem d_Md_behind_247 : decode mm_Md_behind.2.1 247 = .ok (.bipush (-2), 2) := by decide +kernel
theorem d_Md_behind_249 : decode mm_Md_behind.2.1 249 = .ok (.if_icmp .eq 32, 3) := by decide +kernel
theorem d_Md_behind_252 : decode mm_Md_behind.2.1 252 = .ok (.iload_n 2, 1) := by decide +kernel
theorem d_Md_behind_253 : decode mm_Md_behind.2.1 253 = .ok (.ifCond .lt 34, 3) := by decide +kernel
theorem d_Md_behind_256 : decode mm_Md_behind.2.1 256 = .ok (.aload_n 0, 1) := by decide +kernel
theorem d_Md_behind_257 : decode mm_Md_behind.2.1 257 = .ok (.getfield 81, 3) := by decide +kernel
theorem d_Md_behind_260 : decode mm_Md_behind.2.1 260 = .ok (.aload_n 0, 1) := by decide +kernel
theorem d_Md_behind_261 : decode mm_Md_behind.2.1 261 = .ok (.getfield 157, 3) := by decide +kernel
theorem d_Md_behind_264 : decode mm_Md_behind.2.1 264 = .ok (.iconst 1, 1) := by decide +kernel
theorem d_Md_behind_265 : decode mm_Md_behind.2.1 265 = .ok (.isub, 1) := by decide +kernel
theorem d_Md_behind_266 : decode mm_Md_behind.2.1 266 = .ok (.iaload, 1) := by decide +kernel
theorem d_Md_behind_267 : decode mm_Md_behind.2.1 267 = .ok (.iconst 1, 1) := by decide +kernel
theorem d_Md_behind_268 : decode mm_Md_behind.2.1 268 = .ok (.iadd, 1) := by decide +kernel
theorem d_Md_behind_269 : decode mm_Md_behind.2.1 269 = .ok (.aload_n 0, 1) := by decide +kernel
theorem d_Md_behind_270 : decode mm_Md_behind.2.1 270 = .ok (.getfield 60, 3) := by decide +kernel
theorem d_Md_behind_273 : decode mm_Md_behind.2.1 273 = .ok (.iload_n 2, 1) := by decide +kernel
theorem d_Md_behind_274 : decode mm_Md_behind.2.1 274 = .ok (.iaload, 1) := by decide +kernel
theorem d_Md_behind_275 : decode mm_Md_behind.2.1 275 = .ok (.invokestatic 192, 3) := by decide +kernel
theorem d_Md_behind_278 : decode mm_Md_behind.2.1 278 = .ok (.if_icmp .ge 9, 3) := by decide +kernel
theorem d_Md_behind_281 : decode mm_Md_behind.2.1 281 = .ok (.aload_n 0, 1) := by decide +kernel
theorem d_Md_behind_282 : decode mm_Md_behind.2.1 282 = .ok (.invokevirtual 189, 3) := by decide +kernel
theorem d_Md_behind_285 : decode mm_Md_behind.2.1 285 = .ok (.iconst 0, 1) := by decide +kernel
theorem d_Md_behind_286 : decode mm_Md_behind.2.1 286 = .ok (.ireturn, 1) := by decide +kernel
theorem d_Md_behind_287 : decode mm_Md_behind.2.1 287 = .ok (.iload_n 2, 1) := by decide +kernel
theorem d_Md_behind_288 : decode mm_Md_behind.2.1 288 = .ok (.ifCond .lt 28, 3) := by decide +kernel
theorem d_Md_behind_291 : decode mm_Md_behind.2.1 291 = .ok (.aload_n 0, 1) := by decide +kernel
theorem d_Md_behind_292 : decode mm_Md_behind.2.1 292 = .ok (.iload_n 2, 1) := by decide +kernel
theorem d_Md_behind_293 : decode mm_Md_behind.2.1 293 = .ok (.invokevirtual 195, 3) := by decide +kernel
theorem d_Md_behind_296 : decode mm_Md_behind.2.1 296 = .ok (.aload_n 0, 1) := by decide +kernel
theorem d_Md_behind_297 : decode mm_Md_behind.2.1 297 = .ok (.getfield 84, 3) := by decide +kernel
theorem d_Md_behind_300 : decode mm_Md_behind.2.1 300 = .ok (.aload_n 0, 1) := by decide +kernel
theorem d_Md_behind_301 : decode mm_Md_behind.2.1 301 = .ok (.getfield 166, 3) := by decide +kernel
theorem d_Md_behind_304 : decode mm_Md_behind.2.1 304 = .ok (.iload_n 2, 1) := by decide +kernel
theorem d_Md_behind_305 : decode mm_Md_behind.2.1 305 = .ok (.iastore, 1) := by decide +kernel
theorem d_Md_behind_306 : decode mm_Md_behind.2.1 306 = .ok (.aload_n 0, 1) := by decide +kernel
theorem d_Md_behind_307 : decode mm_Md_behind.2.1 307 = .ok (.dup, 1) := by decide +kernel
theorem d_Md_behind_308 : decode mm_Md_behind.2.1 308 = .ok (.getfield 166, 3) := by decide +kernel
theorem d_Md_behind_311 : decode mm_Md_behind.2.1 311 = .ok (.iconst 1, 1) := by decide +kernel
theorem d_Md_behind_312 : decode mm_Md_behind.2.1 312 = .ok (.iadd, 1) := by decide +kernel
theorem d_Md_behind_313 : decode mm_Md_behind.2.1 313 = .ok (.putfield 166, 3) := by decide +kernel
theorem d_Md_behind_316 : decode mm_Md_behind.2.1 316 = .ok (.aload_n 0, 1) := by decide +kernel
theorem d_Md_behind_317 : decode mm_Md_behind.2.1 317 = .ok (.dup, 1) := by decide +kernel
theorem d_Md_behind_318 : decode mm_Md_behind.2.1 318 = .ok (.getfield 157, 3) := by decide +kernel
theorem d_Md_behind_321 : decode mm_Md_behind.2.1 321 = .ok (.iconst 1, 1) := by decide +kernel
theorem d_Md_behind_322 : decode mm_Md_behind.2.1 322 = .ok (.isub, 1) := by decide +kernel
theorem d_Md_behind_323 : decode mm_Md_behind.2.1 323 = .ok (.putfield 157, 3) := by decide +kernel
theorem d_Md_behind_326 : decode mm_Md_behind.2.1 326 = .ok (.aload_n 0, 1) := by decide +kernel
theorem d_Md_behind_327 : decode mm_Md_behind.2.1 327 = .ok (.dup, 1) := by decide +kernel
theorem d_Md_behind_328 : decode mm_Md_behind.2.1 328 = .ok (.getfield 169, 3) := by decide +kernel
theorem d_Md_behind_331 : decode mm_Md_behind.2.1 331 = .ok (.iconst 1, 1) := by decide +kernel
theorem d_Md_behind_332 : decode mm_Md_behind.2.1 332 = .ok (.isub, 1) := by decide +kernel
theorem d_Md_behind_333 : decode mm_Md_behind.2.1 333 = .ok (.putfield 169, 3) := by decide +kernel
theorem d_Md_behind_336 : decode mm_Md_behind.2.1 336 = .ok (.aload_n 0, 1) := by decide +kernel
theorem d_Md_behind_337 : decode mm_Md_behind.2.1 337 = .ok (.invokevirtual 176, 3) := by decide +kernel
theorem d_Md_behind_340 : decode mm_Md_behind.2.1 340 = .ok (.aload_n 0, 1) := by decide +kernel
theorem d_Md_behind_341 : decode mm_Md_behind.2.1 341 = .ok (.iconst 3, 1) := by decide +kernel
theorem d_Md_behind_342 : decode mm_Md_behind.2.1 342 = .ok (.invokevirtual 179, 3) := by decide +kernel
theorem d_Md_behind_345 : decode mm_Md_behind.2.1 345 = .ok (.iconst 0, 1) := by decide +kernel
theorem d_Md_behind_346 : decode mm_Md_behind.2.1 346 = .ok (.ireturn, 1) := by decide +kernel
theorem d_Md_wants_0 : decode mm_Md_wants.2.1 0 = .ok (.iload_n 0, 1) := by decide +kernel
theorem d_Md_wants_1 : decode mm_Md_wants.2.1 1 = .ok (.bipush 9, 2) := by decide +kernel
theorem d_Md_wants_3 : decode mm_Md_wants.2.1 3 = .ok (.if_icmp .ne 7, 3) := by decide +kernel
theorem d_Md_wants_6 : decode mm_Md_wants.2.1 6 = .ok (.iconst 3, 1) := by decide +kernel
theorem d_Md_wants_7 : decode mm_Md_wants.2.1 7 = .ok (.goto 4, 3) := by decide +kernel
theorem d_Md_wants_10 : decode mm_Md_wants.2.1 10 = .ok (.iconst 2, 1) := by decide +kernel
theorem d_Md_wants_11 : decode mm_Md_wants.2.1 11 = .ok (.ireturn, 1) := by decide +kernel
theorem d_Md_give_0 : decode mm_Md_give.2.1 0 = .ok (.aload_n 0, 1) := by decide +kernel
theorem d_Md_give_1 : decode mm_Md_give.2.1 1 = .ok (.getfield 81, 3) := by decide +kernel
theorem d_Md_give_4 : decode mm_Md_give.2.1 4 = .ok (.aload_n 0, 1) := by decide +kernel
theorem d_Md_give_5 : decode mm_Md_give.2.1 5 = .ok (.getfield 157, 3) := by decide +kernel
theorem d_Md_give_8 : decode mm_Md_give.2.1 8 = .ok (.iconst 1, 1) := by decide +kernel
theorem d_Md_give_9 : decode mm_Md_give.2.1 9 = .ok (.isub, 1) := by decide +kernel
theorem d_Md_give_10 : decode mm_Md_give.2.1 10 = .ok (.iaload, 1) := by decide +kernel
theorem d_Md_give_11 : decode mm_Md_give.2.1 11 = .ok (.istore_n 2, 1) := by decide +kernel
theorem d_Md_give_12 : decode mm_Md_give.2.1 12 = .ok (.aload_n 0, 1) := by decide +kernel
theorem d_Md_give_13 : decode mm_Md_give.2.1 13 = .ok (.getfield 81, 3) := by decide +kernel
theorem d_Md_give_16 : decode mm_Md_give.2.1 16 = .ok (.aload_n 0, 1) := by decide +kernel
theorem d_Md_give_17 : decode mm_Md_give.2.1 17 = .ok (.getfield 157, 3) := by decide +kernel
theorem d_Md_give_20 : decode mm_Md_give.2.1 20 = .ok (.iconst 1, 1) := by decide +kernel
theorem d_Md_give_21 : decode mm_Md_give.2.1 21 = .ok (.isub, 1) := by decide +kernel
theorem d_Md_give_22 : decode mm_Md_give.2.1 22 = .ok (.dup2, 1) := by decide +kernel
theorem d_Md_give_23 : decode mm_Md_give.2.1 23 = .ok (.iaload, 1) := by decide +kernel
theorem d_Md_give_24 : decode mm_Md_give.2.1 24 = .ok (.iconst 1, 1) := by decide +kernel
theorem d_Md_give_25 : decode mm_Md_give.2.1 25 = .ok (.iadd, 1) := by decide +kernel
theorem d_Md_give_26 : decode mm_Md_give.2.1 26 = .ok (.iastore, 1) := by decide +kernel
theorem d_Md_give_27 : decode mm_Md_give.2.1 27 = .ok (.aload_n 0, 1) := by decide +kernel
theorem d_Md_give_28 : decode mm_Md_give.2.1 28 = .ok (.dup, 1) := by decide +kernel
theorem d_Md_give_29 : decode mm_Md_give.2.1 29 = .ok (.getfield 166, 3) := by decide +kernel
theorem d_Md_give_32 : decode mm_Md_give.2.1 32 = .ok (.iconst 1, 1) := by decide +kernel
theorem d_Md_give_33 : decode mm_Md_give.2.1 33 = .ok (.isub, 1) := by decide +kernel
theorem d_Md_give_34 : decode mm_Md_give.2.1 34 = .ok (.putfield 166, 3) := by decide +kernel
theorem d_Md_give_37 : decode mm_Md_give.2.1 37 = .ok (.iload_n 2, 1) := by decide +kernel
theorem d_Md_give_38 : decode mm_Md_give.2.1 38 = .ok (.ifCond .ne 21, 3) := by decide +kernel
theorem d_Md_give_41 : decode mm_Md_give.2.1 41 = .ok (.aload_n 0, 1) := by decide +kernel
theorem d_Md_give_42 : decode mm_Md_give.2.1 42 = .ok (.getfield 63, 3) := by decide +kernel
theorem d_Md_give_45 : decode mm_Md_give.2.1 45 = .ok (.iload_n 1, 1) := by decide +kernel
theorem d_Md_give_46 : decode mm_Md_give.2.1 46 = .ok (.aload_n 0, 1) := by decide +kernel
theorem d_Md_give_47 : decode mm_Md_give.2.1 47 = .ok (.getfield 84, 3) := by decide +kernel
theorem d_Md_give_50 : decode mm_Md_give.2.1 50 = .ok (.aload_n 0, 1) := by decide +kernel
theorem d_Md_give_51 : decode mm_Md_give.2.1 51 = .ok (.getfield 166, 3) := by decide +kernel
theorem d_Md_give_54 : decode mm_Md_give.2.1 54 = .ok (.iaload, 1) := by decide +kernel
theorem d_Md_give_55 : decode mm_Md_give.2.1 55 = .ok (.iastore, 1) := by decide +kernel
theorem d_Md_give_56 : decode mm_Md_give.2.1 56 = .ok (.goto 41, 3) := by decide +kernel
theorem d_Md_give_59 : decode mm_Md_give.2.1 59 = .ok (.iload_n 2, 1) := by decide +kernel
theorem d_Md_give_60 : decode mm_Md_give.2.1 60 = .ok (.iconst 1, 1) := by decide +kernel
theorem d_Md_give_61 : decode mm_Md_give.2.1 61 = .ok (.if_icmp .ne 21, 3) := by decide +kernel
theorem d_Md_give_64 : decode mm_Md_give.2.1 64 = .ok (.aload_n 0, 1) := by decide +kernel
theorem d_Md_give_65 : decode mm_Md_give.2.1 65 = .ok (.getfield 66, 3) := by decide +kernel
theorem d_Md_give_68 : decode mm_Md_give.2.1 68 = .ok (.iload_n 1, 1) := by decide +kernel
theorem d_Md_give_69 : decode mm_Md_give.2.1 69 = .ok (.aload_n 0, 1) := by decide +kernel
theorem d_Md_give_70 : decode mm_Md_give.2.1 70 = .ok (.getfield 84, 3) := by decide +kernel
theorem d_Md_give_73 : decode mm_Md_give.2.1 73 = .ok (.aload_n 0, 1) := by decide +kernel
theorem d_Md_give_74 : decode mm_Md_give.2.1 74 = .ok (.getfield 166, 3) := by decide +kernel
theorem d_Md_give_77 : decode mm_Md_give.2.1 77 = .ok (.iaload, 1) := by decide +kernel
theorem d_Md_give_78 : decode mm_Md_give.2.1 78 = .ok (.iastore, 1) := by decide +kernel
theorem d_Md_give_79 : decode mm_Md_give.2.1 79 = .ok (.goto 18, 3) := by decide +kernel
theorem d_Md_give_82 : decode mm_Md_give.2.1 82 = .ok (.aload_n 0, 1) := by decide +kernel
theorem d_Md_give_83 : decode mm_Md_give.2.1 83 = .ok (.getfield 69, 3) := by decide +kernel
theorem d_Md_give_86 : decode mm_Md_give.2.1 86 = .ok (.iload_n 1, 1) := by decide +kernel
theorem d_Md_give_87 : decode mm_Md_give.2.1 87 = .ok (.aload_n 0, 1) := by decide +kernel
theorem d_Md_give_88 : decode mm_Md_give.2.1 88 = .ok (.getfield 84, 3) := by decide +kernel
theorem d_Md_give_91 : decode mm_Md_give.2.1 91 = .ok (.aload_n 0, 1) := by decide +kernel
theorem d_Md_give_92 : decode mm_Md_give.2.1 92 = .ok (.getfield 166, 3) := by decide +kernel
theorem d_Md_give_95 : decode mm_Md_give.2.1 95 = .ok (.iaload, 1) := by decide +kernel
theorem d_Md_give_96 : decode mm_Md_give.2.1 96 = .ok (.iastore, 1) := by decide +kernel
theorem d_Md_give_97 : decode mm_Md_give.2.1 97 = .ok (.return_, 1) := by decide +kernel
theorem d_Md_cellOf_0 : decode mm_Md_cellOf.2.1 0 = .ok (.iconst 0, 1) := by decide +kernel
theorem d_Md_cellOf_1 : decode mm_Md_cellOf.2.1 1 = .ok (.istore_n 3, 1) := by decide +kernel
theorem d_Md_cellOf_2 : decode mm_Md_cellOf.2.1 2 = .ok (.iload_n 3, 1) := by decide +kernel
theorem d_Md_cellOf_3 : decode mm_Md_cellOf.2.1 3 = .ok (.bipush 64, 2) := by decide +kernel
theorem d_Md_cellOf_5 : decode mm_Md_cellOf.2.1 5 = .ok (.if_icmp .ge 31, 3) := by decide +kernel
theorem d_Md_cellOf_8 : decode mm_Md_cellOf.2.1 8 = .ok (.aload_n 0, 1) := by decide +kernel
theorem d_Md_cellOf_9 : decode mm_Md_cellOf.2.1 9 = .ok (.getfield 13, 3) := by decide +kernel
theorem d_Md_cellOf_12 : decode mm_Md_cellOf.2.1 12 = .ok (.iload_n 3, 1) := by decide +kernel
theorem d_Md_cellOf_13 : decode mm_Md_cellOf.2.1 13 = .ok (.baload, 1) := by decide +kernel
theorem d_Md_cellOf_14 : decode mm_Md_cellOf.2.1 14 = .ok (.ifCond .eq 16, 3) := by decide +kernel
theorem d_Md_cellOf_17 : decode mm_Md_cellOf.2.1 17 = .ok (.aload_n 0, 1) := by decide +kernel
theorem d_Md_cellOf_18 : decode mm_Md_cellOf.2.1 18 = .ok (.getfield 17, 3) := by decide +kernel
theorem d_Md_cellOf_21 : decode mm_Md_cellOf.2.1 21 = .ok (.iload_n 3, 1) := by decide +kernel
theorem d_Md_cellOf_22 : decode mm_Md_cellOf.2.1 22 = .ok (.laload, 1) := by decide +kernel
theorem d_Md_cellOf_23 : decode mm_Md_cellOf.2.1 23 = .ok (.lload_n 1, 1) := by decide +kernel
theorem d_Md_cellOf_24 : decode mm_Md_cellOf.2.1 24 = .ok (.lcmp, 1) := by decide +kernel
theorem d_Md_cellOf_25 : decode mm_Md_cellOf.2.1 25 = .ok (.ifCond .ne 5, 3) := by decide +kernel
theorem d_Md_cellOf_28 : decode mm_Md_cellOf.2.1 28 = .ok (.iload_n 3, 1) := by decide +kernel
theorem d_Md_cellOf_29 : decode mm_Md_cellOf.2.1 29 = .ok (.ireturn, 1) := by decide +kernel
theorem d_Md_cellOf_30 : decode mm_Md_cellOf.2.1 30 = .ok (.iinc 3 1, 3) := by decide +kernel
theorem d_Md_cellOf_33 : decode mm_Md_cellOf.2.1 33 = .ok (.goto (-31), 3) := by decide +kernel
theorem d_Md_cellOf_36 : decode mm_Md_cellOf.2.1 36 = .ok (.iconst (-1), 1) := by decide +kernel
theorem d_Md_cellOf_37 : decode mm_Md_cellOf.2.1 37 = .ok (.ireturn, 1) := by decide +kernel
theorem d_Md_cellCount_0 : decode mm_Md_cellCount.2.1 0 = .ok (.iconst 0, 1) := by decide +kernel
theorem d_Md_cellCount_1 : decode mm_Md_cellCount.2.1 1 = .ok (.istore_n 1, 1) := by decide +kernel
theorem d_Md_cellCount_2 : decode mm_Md_cellCount.2.1 2 = .ok (.iconst 0, 1) := by decide +kernel
theorem d_Md_cellCount_3 : decode mm_Md_cellCount.2.1 3 = .ok (.istore_n 2, 1) := by decide +kernel
theorem d_Md_cellCount_4 : decode mm_Md_cellCount.2.1 4 = .ok (.iload_n 2, 1) := by decide +kernel
theorem d_Md_cellCount_5 : decode mm_Md_cellCount.2.1 5 = .ok (.bipush 64, 2) := by decide +kernel
theorem d_Md_cellCount_7 : decode mm_Md_cellCount.2.1 7 = .ok (.if_icmp .ge 26, 3) := by decide +kernel
theorem d_Md_cellCount_10 : decode mm_Md_cellCount.2.1 10 = .ok (.aload_n 0, 1) := by decide +kernel
theorem d_Md_cellCount_11 : decode mm_Md_cellCount.2.1 11 = .ok (.getfield 13, 3) := by decide +kernel
theorem d_Md_cellCount_14 : decode mm_Md_cellCount.2.1 14 = .ok (.iload_n 2, 1) := by decide +kernel
theorem d_Md_cellCount_15 : decode mm_Md_cellCount.2.1 15 = .ok (.baload, 1) := by decide +kernel
theorem d_Md_cellCount_16 : decode mm_Md_cellCount.2.1 16 = .ok (.ifCond .eq 9, 3) := by decide +kernel
theorem d_Md_cellCount_19 : decode mm_Md_cellCount.2.1 19 = .ok (.iload_n 1, 1) := by decide +kernel
theorem d_Md_cellCount_20 : decode mm_Md_cellCount.2.1 20 = .ok (.iconst 1, 1) := by decide +kernel
theorem d_Md_cellCount_21 : decode mm_Md_cellCount.2.1 21 = .ok (.iadd, 1) := by decide +kernel
theorem d_Md_cellCount_22 : decode mm_Md_cellCount.2.1 22 = .ok (.goto 4, 3) := by decide +kernel
theorem d_Md_cellCount_25 : decode mm_Md_cellCount.2.1 25 = .ok (.iload_n 1, 1) := by decide +kernel
theorem d_Md_cellCount_26 : decode mm_Md_cellCount.2.1 26 = .ok (.istore_n 1, 1) := by decide +kernel
theorem d_Md_cellCount_27 : decode mm_Md_cellCount.2.1 27 = .ok (.iinc 2 1, 3) := by decide +kernel
theorem d_Md_cellCount_30 : decode mm_Md_cellCount.2.1 30 = .ok (.goto (-26), 3) := by decide +kernel
theorem d_Md_cellCount_33 : decode mm_Md_cellCount.2.1 33 = .ok (.iload_n 1, 1) := by decide +kernel
theorem d_Md_cellCount_34 : decode mm_Md_cellCount.2.1 34 = .ok (.ireturn, 1) := by decide +kernel
theorem d_Md_readersOf_0 : decode mm_Md_readersOf.2.1 0 = .ok (.lconst 0, 1) := by decide +kernel
theorem d_Md_readersOf_1 : decode mm_Md_readersOf.2.1 1 = .ok (.lstore_n 3, 1) := by decide +kernel
theorem d_Md_readersOf_2 : decode mm_Md_readersOf.2.1 2 = .ok (.ldc2_w 205, 3) := by decide +kernel
theorem d_Md_readersOf_5 : decode mm_Md_readersOf.2.1 5 = .ok (.lstore 5, 2) := by decide +kernel
theorem d_Md_readersOf_7 : decode mm_Md_readersOf.2.1 7 = .ok (.lload_n 3, 1) := by decide +kernel
theorem d_Md_readersOf_8 : decode mm_Md_readersOf.2.1 8 = .ok (.lload 5, 2) := by decide +kernel
theorem d_Md_readersOf_10 : decode mm_Md_readersOf.2.1 10 = .ok (.lcmp, 1) := by decide +kernel
theorem d_Md_readersOf_11 : decode mm_Md_readersOf.2.1 11 = .ok (.ifCond .eq 133, 3) := by decide +kernel
theorem d_Md_readersOf_14 : decode mm_Md_readersOf.2.1 14 = .ok (.lload_n 3, 1) := by decide +kernel
theorem d_Md_readersOf_15 : decode mm_Md_readersOf.2.1 15 = .ok (.lstore 5, 2) := by decide +kernel
theorem d_Md_readersOf_17 : decode mm_Md_readersOf.2.1 17 = .ok (.iconst 0, 1) := by decide +kernel
theorem d_Md_readersOf_18 : decode mm_Md_readersOf.2.1 18 = .ok (.istore 7, 2) := by decide +kernel
theorem d_Md_readersOf_20 : decode mm_Md_readersOf.2.1 20 = .ok (.iload 7, 2) := by decide +kernel
theorem d_Md_readersOf_22 : decode mm_Md_readersOf.2.1 22 = .ok (.bipush 64, 2) := by decide +kernel
theorem d_Md_readersOf_24 : decode mm_Md_readersOf.2.1 24 = .ok (.if_icmp .ge 117, 3) := by decide +kernel
theorem d_Md_readersOf_27 : decode mm_Md_readersOf.2.1 27 = .ok (.aload_n 0, 1) := by decide +kernel
theorem d_Md_readersOf_28 : decode mm_Md_readersOf.2.1 28 = .ok (.getfield 13, 3) := by decide +kernel
theorem d_Md_readersOf_31 : decode mm_Md_readersOf.2.1 31 = .ok (.iload 7, 2) := by decide +kernel
theorem d_Md_readersOf_33 : decode mm_Md_readersOf.2.1 33 = .ok (.baload, 1) := by decide +kernel
theorem d_Md_readersOf_34 : decode mm_Md_readersOf.2.1 34 = .ok (.ifCond .eq 17, 3) := by decide +kernel
theorem d_Md_readersOf_37 : decode mm_Md_readersOf.2.1 37 = .ok (.aload_n 0, 1) := by decide +kernel
theorem d_Md_readersOf_38 : decode mm_Md_readersOf.2.1 38 = .ok (.iload 7, 2) := by decide +kernel
theorem d_Md_readersOf_40 : decode mm_Md_readersOf.2.1 40 = .ok (.lload_n 1, 1) := by decide +kernel
theorem d_Md_readersOf_41 : decode mm_Md_readersOf.2.1 41 = .ok (.invokevirtual 207, 3) := by decide +kernel
theorem d_Md_readersOf_44 : decode mm_Md_readersOf.2.1 44 = .ok (.ifCond .eq 7, 3) := by decide +kernel
theorem d_Md_readersOf_47 : decode mm_Md_readersOf.2.1 47 = .ok (.iconst 1, 1) := by decide +kernel
theorem d_Md_readersOf_48 : decode mm_Md_readersOf.2.1 48 = .ok (.goto 4, 3) := by decide +kernel
theorem d_Md_readersOf_51 : decode mm_Md_readersOf.2.1 51 = .ok (.iconst 0, 1) := by decide +kernel
theorem d_Md_readersOf_52 : decode mm_Md_readersOf.2.1 52 = .ok (.istore 8, 2) := by decide +kernel
theorem d_Md_readersOf_54 : decode mm_Md_readersOf.2.1 54 = .ok (.iconst 0, 1) := by decide +kernel
theorem d_Md_readersOf_55 : decode mm_Md_readersOf.2.1 55 = .ok (.istore 9, 2) := by decide +kernel
theorem d_Md_readersOf_57 : decode mm_Md_readersOf.2.1 57 = .ok (.iload 9, 2) := by decide +kernel
theorem d_Md_readersOf_59 : decode mm_Md_readersOf.2.1 59 = .ok (.bipush 64, 2) := by decide +kernel
theorem d_Md_readersOf_61 : decode mm_Md_readersOf.2.1 61 = .ok (.if_icmp .ge 58, 3) := by decide +kernel
theorem d_Md_readersOf_64 : decode mm_Md_readersOf.2.1 64 = .ok (.iload 8, 2) := by decide +kernel
theorem d_Md_readersOf_66 : decode mm_Md_readersOf.2.1 66 = .ok (.ifCond .ne 40, 3) := by decide +kernel
theorem d_Md_readersOf_69 : decode mm_Md_readersOf.2.1 69 = .ok (.aload_n 0, 1) := by decide +kernel
theorem d_Md_readersOf_70 : decode mm_Md_readersOf.2.1 70 = .ok (.getfield 13, 3) := by decide +kernel
theorem d_Md_readersOf_73 : decode mm_Md_readersOf.2.1 73 = .ok (.iload 7, 2) := by decide +kernel
theorem d_Md_readersOf_75 : decode mm_Md_readersOf.2.1 75 = .ok (.baload, 1) := by decide +kernel
theorem d_Md_readersOf_76 : decode mm_Md_readersOf.2.1 76 = .ok (.ifCond .eq 34, 3) := by decide +kernel
theorem d_Md_readersOf_79 : decode mm_Md_readersOf.2.1 79 = .ok (.lload_n 3, 1) := by decide +kernel
theorem d_Md_readersOf_80 : decode mm_Md_readersOf.2.1 80 = .ok (.iload 9, 2) := by decide +kernel
theorem d_Md_readersOf_82 : decode mm_Md_readersOf.2.1 82 = .ok (.lshr, 1) := by decide +kernel
theorem d_Md_readersOf_83 : decode mm_Md_readersOf.2.1 83 = .ok (.lconst 1, 1) := by decide +kernel
theorem d_Md_readersOf_84 : decode mm_Md_readersOf.2.1 84 = .ok (.land, 1) := by decide +kernel
theorem d_Md_readersOf_85 : decode mm_Md_readersOf.2.1 85 = .ok (.lconst 1, 1) := by decide +kernel
theorem d_Md_readersOf_86 : decode mm_Md_readersOf.2.1 86 = .ok (.lcmp, 1) := by decide +kernel
theorem d_Md_readersOf_87 : decode mm_Md_readersOf.2.1 87 = .ok (.ifCond .ne 23, 3) := by decide +kernel
theorem d_Md_readersOf_90 : decode mm_Md_readersOf.2.1 90 = .ok (.aload_n 0, 1) := by decide +kernel
theorem d_Md_readersOf_91 : decode mm_Md_readersOf.2.1 91 = .ok (.iload 7, 2) := by decide +kernel
theorem d_Md_readersOf_93 : decode mm_Md_readersOf.2.1 93 = .ok (.aload_n 0, 1) := by decide +kernel
theorem d_Md_readersOf_94 : decode mm_Md_readersOf.2.1 94 = .ok (.getfield 17, 3) := by decide +kernel
theorem d_Md_readersOf_97 : decode mm_Md_readersOf.2.1 97 = .ok (.iload 9, 2) := by decide +kernel
theorem d_Md_readersOf_99 : decode mm_Md_readersOf.2.1 99 = .ok (.laload, 1) := by decide +kernel
theorem d_Md_readersOf_100 : decode mm_Md_readersOf.2.1 100 = .ok (.invokevirtual 207, 3) := by decide +kernel
theorem d_Md_readersOf_103 : decode mm_Md_readersOf.2.1 103 = .ok (.ifCond .eq 7, 3) := by decide +kernel
theorem d_Md_readersOf_106 : decode mm_Md_readersOf.2.1 106 = .ok (.iconst 1, 1) := by decide +kernel
theorem d_Md_readersOf_107 : decode mm_Md_readersOf.2.1 107 = .ok (.goto 4, 3) := by decide +kernel
theorem d_Md_readersOf_110 : decode mm_Md_readersOf.2.1 110 = .ok (.iconst 0, 1) := by decide +kernel
theorem d_Md_readersOf_111 : decode mm_Md_readersOf.2.1 111 = .ok (.istore 8, 2) := by decide +kernel
theorem d_Md_readersOf_113 : decode mm_Md_readersOf.2.1 113 = .ok (.iinc 9 1, 3) := by decide +kernel
theorem d_Md_readersOf_116 : decode mm_Md_readersOf.2.1 116 = .ok (.goto (-59), 3) := by decide +kernel
theorem d_Md_readersOf_119 : decode mm_Md_readersOf.2.1 119 = .ok (.iload 8, 2) := by decide +kernel
theorem d_Md_readersOf_121 : decode mm_Md_readersOf.2.1 121 = .ok (.ifCond .eq 12, 3) := by decide +kernel
theorem d_Md_readersOf_124 : decode mm_Md_readersOf.2.1 124 = .ok (.lload_n 3, 1) := by decide +kernel
theorem d_Md_readersOf_125 : decode mm_Md_readersOf.2.1 125 = .ok (.lconst 1, 1) := by decide +kernel
theorem d_Md_readersOf_126 : decode mm_Md_readersOf.2.1 126 = .ok (.iload 7, 2) := by decide +kernel
theorem d_Md_readersOf_128 : decode mm_Md_readersOf.2.1 128 = .ok (.lshl, 1) := by decide +kernel
theorem d_Md_readersOf_129 : decode mm_Md_readersOf.2.1 129 = .ok (.lor, 1) := by decide +kernel
theorem d_Md_readersOf_130 : decode mm_Md_readersOf.2.1 130 = .ok (.goto 4, 3) := by decide +kernel
theorem d_Md_readersOf_133 : decode mm_Md_readersOf.2.1 133 = .ok (.lload_n 3, 1) := by decide +kernel
theorem d_Md_readersOf_134 : decode mm_Md_readersOf.2.1 134 = .ok (.lstore_n 3, 1) := by decide +kernel
theorem d_Md_readersOf_135 : decode mm_Md_readersOf.2.1 135 = .ok (.iinc 7 1, 3) := by decide +kernel
theorem d_Md_readersOf_138 : decode mm_Md_readersOf.2.1 138 = .ok (.goto (-118), 3) := by decide +kernel
theorem d_Md_readersOf_141 : decode mm_Md_readersOf.2.1 141 = .ok (.goto (-134), 3) := by decide +kernel
theorem d_Md_readersOf_144 : decode mm_Md_readersOf.2.1 144 = .ok (.lload_n 3, 1) := by decide +kernel
theorem d_Md_readersOf_145 : decode mm_Md_readersOf.2.1 145 = .ok (.lreturn, 1) := by decide +kernel
theorem d_Md_reads_0 : decode mm_Md_reads.2.1 0 = .ok (.bipush 40, 2) := by decide +kernel
theorem d_Md_reads_2 : decode mm_Md_reads.2.1 2 = .ok (.iload_n 1, 1) := by decide +kernel
theorem d_Md_reads_3 : decode mm_Md_reads.2.1 3 = .ok (.imul, 1) := by decide +kernel
theorem d_Md_reads_4 : decode mm_Md_reads.2.1 4 = .ok (.istore 4, 2) := by decide +kernel
theorem d_Md_reads_6 : decode mm_Md_reads.2.1 6 = .ok (.iload 4, 2) := by decide +kernel
theorem d_Md_reads_8 : decode mm_Md_reads.2.1 8 = .ok (.bipush 40, 2) := by decide +kernel
theorem d_Md_reads_10 : decode mm_Md_reads.2.1 10 = .ok (.iload_n 1, 1) := by decide +kernel
theorem d_Md_reads_11 : decode mm_Md_reads.2.1 11 = .ok (.imul, 1) := by decide +kernel
theorem d_Md_reads_12 : decode mm_Md_reads.2.1 12 = .ok (.aload_n 0, 1) := by decide +kernel
theorem d_Md_reads_13 : decode mm_Md_reads.2.1 13 = .ok (.getfield 33, 3) := by decide +kernel
theorem d_Md_reads_16 : decode mm_Md_reads.2.1 16 = .ok (.iload_n 1, 1) := by decide +kernel
theorem d_Md_reads_17 : decode mm_Md_reads.2.1 17 = .ok (.iaload, 1) := by decide +kernel
theorem d_Md_reads_18 : decode mm_Md_reads.2.1 18 = .ok (.iadd, 1) := by decide +kernel
theorem d_Md_reads_19 : decode mm_Md_reads.2.1 19 = .ok (.if_icmp .ge 34, 3) := by decide +kernel
theorem d_Md_reads_22 : decode mm_Md_reads.2.1 22 = .ok (.aload_n 0, 1) := by decide +kernel
theorem d_Md_reads_23 : decode mm_Md_reads.2.1 23 = .ok (.getfield 36, 3) := by decide +kernel
theorem d_Md_reads_26 : decode mm_Md_reads.2.1 26 = .ok (.iload 4, 2) := by decide +kernel
theorem d_Md_reads_28 : decode mm_Md_reads.2.1 28 = .ok (.iaload, 1) := by decide +kernel
theorem d_Md_reads_29 : decode mm_Md_reads.2.1 29 = .ok (.iconst 1, 1) := by decide +kernel
theorem d_Md_reads_30 : decode mm_Md_reads.2.1 30 = .ok (.if_icmp .ne 17, 3) := by decide +kernel
theorem d_Md_reads_33 : decode mm_Md_reads.2.1 33 = .ok (.aload_n 0, 1) := by decide +kernel
theorem d_Md_reads_34 : decode mm_Md_reads.2.1 34 = .ok (.getfield 48, 3) := by decide +kernel
theorem d_Md_reads_37 : decode mm_Md_reads.2.1 37 = .ok (.iload 4, 2) := by decide +kernel
theorem d_Md_reads_39 : decode mm_Md_reads.2.1 39 = .ok (.laload, 1) := by decide +kernel
theorem d_Md_reads_40 : decode mm_Md_reads.2.1 40 = .ok (.lload_n 2, 1) := by decide +kernel
theorem d_Md_reads_41 : decode mm_Md_reads.2.1 41 = .ok (.lcmp, 1) := by decide +kernel
theorem d_Md_reads_42 : decode mm_Md_reads.2.1 42 = .ok (.ifCond .ne 5, 3) := by decide +kernel
theorem d_Md_reads_45 : decode mm_Md_reads.2.1 45 = .ok (.iconst 1, 1) := by decide +kernel
theorem d_Md_reads_46 : decode mm_Md_reads.2.1 46 = .ok (.ireturn, 1) := by decide +kernel
theorem d_Md_reads_47 : decode mm_Md_reads.2.1 47 = .ok (.iinc 4 1, 3) := by decide +kernel
theorem d_Md_reads_50 : decode mm_Md_reads.2.1 50 = .ok (.goto (-44), 3) := by decide +kernel
theorem d_Md_reads_53 : decode mm_Md_reads.2.1 53 = .ok (.iconst 0, 1) := by decide +kernel
theorem d_Md_reads_54 : decode mm_Md_reads.2.1 54 = .ok (.ireturn, 1) := by decide +kernel
theorem d_Md_remove_0 : decode mm_Md_remove.2.1 0 = .ok (.aload_n 0, 1) := by decide +kernel
theorem d_Md_remove_1 : decode mm_Md_remove.2.1 1 = .ok (.aload_n 0, 1) := by decide +kernel
theorem d_Md_remove_2 : decode mm_Md_remove.2.1 2 = .ok (.invokevirtual 269, 3) := by decide +kernel
theorem d_Md_remove_5 : decode mm_Md_remove.2.1 5 = .ok (.ifCond .eq 7, 3) := by decide +kernel
theorem d_Md_remove_8 : decode mm_Md_remove.2.1 8 = .ok (.iconst 0, 1) := by decide +kernel
theorem d_Md_remove_9 : decode mm_Md_remove.2.1 9 = .ok (.goto 4, 3) := by decide +kernel
theorem d_Md_remove_12 : decode mm_Md_remove.2.1 12 = .ok (.iconst 1, 1) := by decide +kernel
theorem d_Md_remove_13 : decode mm_Md_remove.2.1 13 = .ok (.putfield 96, 3) := by decide +kernel
theorem d_Md_remove_16 : decode mm_Md_remove.2.1 16 = .ok (.aload_n 0, 1) := by decide +kernel
theorem d_Md_remove_17 : decode mm_Md_remove.2.1 17 = .ok (.getfield 96, 3) := by decide +kernel
theorem d_Md_remove_20 : decode mm_Md_remove.2.1 20 = .ok (.ifCond .le 5, 3) := by decide +kernel
theorem d_Md_remove_23 : decode mm_Md_remove.2.1 23 = .ok (.iconst 0, 1) := by decide +kernel
theorem d_Md_remove_24 : decode mm_Md_remove.2.1 24 = .ok (.ireturn, 1) := by decide +kernel
theorem d_Md_remove_25 : decode mm_Md_remove.2.1 25 = .ok (.aload_n 0, 1) := by decide +kernel
theorem d_Md_remove_26 : decode mm_Md_remove.2.1 26 = .ok (.iconst 0, 1) := by decide +kernel
theorem d_Md_remove_27 : decode mm_Md_remove.2.1 27 = .ok (.putfield 100, 3) := by decide +kernel
theorem d_Md_remove_30 : decode mm_Md_remove.2.1 30 = .ok (.aload_n 0, 1) := by decide +kernel
theorem d_Md_remove_31 : decode mm_Md_remove.2.1 31 = .ok (.aload_n 0, 1) := by decide +kernel
theorem d_Md_remove_32 : decode mm_Md_remove.2.1 32 = .ok (.getfield 123, 3) := by decide +kernel
theorem d_Md_remove_35 : decode mm_Md_remove.2.1 35 = .ok (.invokevirtual 214, 3) := by decide +kernel
theorem d_Md_remove_38 : decode mm_Md_remove.2.1 38 = .ok (.istore_n 1, 1) := by decide +kernel
theorem d_Md_remove_39 : decode mm_Md_remove.2.1 39 = .ok (.iload_n 1, 1) := by decide +kernel
theorem d_Md_remove_40 : decode mm_Md_remove.2.1 40 = .ok (.ifCond .lt 10, 3) := by decide +kernel
theorem d_Md_remove_43 : decode mm_Md_remove.2.1 43 = .ok (.aload_n 0, 1) := by decide +kernel
theorem d_Md_remove_44 : decode mm_Md_remove.2.1 44 = .ok (.getfield 13, 3) := by decide +kernel
theorem d_Md_remove_47 : decode mm_Md_remove.2.1 47 = .ok (.iload_n 1, 1) := by decide +kernel
theorem d_Md_remove_48 : decode mm_Md_remove.2.1 48 = .ok (.iconst 0, 1) := by decide +kernel
theorem d_Md_remove_49 : decode mm_Md_remove.2.1 49 = .ok (.bastore, 1) := by decide +kernel
theorem d_Md_remove_50 : decode mm_Md_remove.2.1 50 = .ok (.iload_n 1, 1) := by decide +kernel
theorem d_Md_remove_51 : decode mm_Md_remove.2.1 51 = .ok (.ifCond .lt 7, 3) := by decide +kernel
theorem d_Md_remove_54 : decode mm_Md_remove.2.1 54 = .ok (.iconst 1, 1) := by decide +kernel
theorem d_Md_remove_55 : decode mm_Md_remove.2.1 55 = .ok (.goto 4, 3) := by decide +kernel
theorem d_Md_remove_58 : decode mm_Md_remove.2.1 58 = .ok (.iconst 0, 1) := by decide +kernel
theorem d_Md_remove_59 : decode mm_Md_remove.2.1 59 = .ok (.ireturn, 1) := by decide +kernel
theorem d_Md_isName_0 : decode mm_Md_isName.2.1 0 = .ok (.aload_n 0, 1) := by decide +kernel
theorem d_Md_isName_1 : decode mm_Md_isName.2.1 1 = .ok (.iconst 0, 1) := by decide +kernel
theorem d_Md_isName_2 : decode mm_Md_isName.2.1 2 = .ok (.putfield 103, 3) := by decide +kernel
theorem d_Md_isName_5 : decode mm_Md_isName.2.1 5 = .ok (.aload_n 0, 1) := by decide +kernel
theorem d_Md_isName_6 : decode mm_Md_isName.2.1 6 = .ok (.invokevirtual 176, 3) := by decide +kernel
theorem d_Md_isName_9 : decode mm_Md_isName.2.1 9 = .ok (.aload_n 0, 1) := by decide +kernel
theorem d_Md_isName_10 : decode mm_Md_isName.2.1 10 = .ok (.getfield 123, 3) := by decide +kernel
theorem d_Md_isName_13 : decode mm_Md_isName.2.1 13 = .ok (.lstore_n 1, 1) := by decide +kernel
theorem d_Md_isName_14 : decode mm_Md_isName.2.1 14 = .ok (.aload_n 0, 1) := by decide +kernel
theorem d_Md_isName_15 : decode mm_Md_isName.2.1 15 = .ok (.getfield 117, 3) := by decide +kernel
theorem d_Md_isName_18 : decode mm_Md_isName.2.1 18 = .ok (.iconst 1, 1) := by decide +kernel
theorem d_Md_isName_19 : decode mm_Md_isName.2.1 19 = .ok (.if_icmp .ne 7, 3) := by decide +kernel
theorem d_Md_isName_22 : decode mm_Md_isName.2.1 22 = .ok (.iconst 1, 1) := by decide +kernel
theorem d_Md_isName_23 : decode mm_Md_isName.2.1 23 = .ok (.goto 4, 3) := by decide +kernel
theorem d_Md_isName_26 : decode mm_Md_isName.2.1 26 = .ok (.iconst 0, 1) := by decide +kernel
theorem d_Md_isName_27 : decode mm_Md_isName.2.1 27 = .ok (.istore_n 3, 1) := by decide +kernel
theorem d_Md_isName_28 : decode mm_Md_isName.2.1 28 = .ok (.aload_n 0, 1) := by decide +kernel
theorem d_Md_isName_29 : decode mm_Md_isName.2.1 29 = .ok (.invokevirtual 176, 3) := by decide +kernel
theorem d_Md_isName_32 : decode mm_Md_isName.2.1 32 = .ok (.iload_n 3, 1) := by decide +kernel
theorem d_Md_isName_33 : decode mm_Md_isName.2.1 33 = .ok (.ifCond .eq 16, 3) := by decide +kernel
theorem d_Md_isName_36 : decode mm_Md_isName.2.1 36 = .ok (.aload_n 0, 1) := by decide +kernel
theorem d_Md_isName_37 : decode mm_Md_isName.2.1 37 = .ok (.getfield 117, 3) := by decide +kernel
theorem d_Md_isName_40 : decode mm_Md_isName.2.1 40 = .ok (.bipush (-2), 2) := by decide +kernel
theorem d_Md_isName_42 : decode mm_Md_isName.2.1 42 = .ok (.if_icmp .ne 7, 3) := by decide +kernel
theorem d_Md_isName_45 : decode mm_Md_isName.2.1 45 = .ok (.iconst 1, 1) := by decide +kernel
theorem d_Md_isName_46 : decode mm_Md_isName.2.1 46 = .ok (.goto 4, 3) := by decide +kernel
theorem d_Md_isName_49 : decode mm_Md_isName.2.1 49 = .ok (.iconst 0, 1) := by decide +kernel
theorem d_Md_isName_50 : decode mm_Md_isName.2.1 50 = .ok (.istore_n 3, 1) := by decide +kernel
theorem d_Md_isName_51 : decode mm_Md_isName.2.1 51 = .ok (.aload_n 0, 1) := by decide +kernel
theorem d_Md_isName_52 : decode mm_Md_isName.2.1 52 = .ok (.lload_n 1, 1) := by decide +kernel
theorem d_Md_isName_53 : decode mm_Md_isName.2.1 53 = .ok (.putfield 123, 3) := by decide +kernel
theorem d_Md_isName_56 : decode mm_Md_isName.2.1 56 = .ok (.iload_n 3, 1) := by decide +kernel
theorem d_Md_isName_57 : decode mm_Md_isName.2.1 57 = .ok (.ireturn, 1) := by decide +kernel
theorem d_Md_build_0 : decode mm_Md_build.2.1 0 = .ok (.aload_n 0, 1) := by decide +kernel
theorem d_Md_build_1 : decode mm_Md_build.2.1 1 = .ok (.aload_n 0, 1) := by decide +kernel
theorem d_Md_build_2 : decode mm_Md_build.2.1 2 = .ok (.invokevirtual 269, 3) := by decide +kernel
theorem d_Md_build_5 : decode mm_Md_build.2.1 5 = .ok (.ifCond .eq 7, 3) := by decide +kernel
theorem d_Md_build_8 : decode mm_Md_build.2.1 8 = .ok (.iconst 0, 1) := by decide +kernel
theorem d_Md_build_9 : decode mm_Md_build.2.1 9 = .ok (.goto 4, 3) := by decide +kernel
theorem d_Md_build_12 : decode mm_Md_build.2.1 12 = .ok (.iconst 1, 1) := by decide +kernel
theorem d_Md_build_13 : decode mm_Md_build.2.1 13 = .ok (.putfield 96, 3) := by decide +kernel
theorem d_Md_build_16 : decode mm_Md_build.2.1 16 = .ok (.aload_n 0, 1) := by decide +kernel
theorem d_Md_build_17 : decode mm_Md_build.2.1 17 = .ok (.getfield 96, 3) := by decide +kernel
theorem d_Md_build_20 : decode mm_Md_build.2.1 20 = .ok (.ifCond .le 5, 3) := by decide +kernel
theorem d_Md_build_23 : decode mm_Md_build.2.1 23 = .ok (.iconst 0, 1) := by decide +kernel
theorem d_Md_build_24 : decode mm_Md_build.2.1 24 = .ok (.ireturn, 1) := by decide +kernel
theorem d_Md_build_25 : decode mm_Md_build.2.1 25 = .ok (.aload_n 0, 1) := by decide +kernel
theorem d_Md_build_26 : decode mm_Md_build.2.1 26 = .ok (.iconst 0, 1) := by decide +kernel
theorem d_Md_build_27 : decode mm_Md_build.2.1 27 = .ok (.putfield 100, 3) := by decide +kernel
theorem d_Md_build_30 : decode mm_Md_build.2.1 30 = .ok (.aload_n 0, 1) := by decide +kernel
theorem d_Md_build_31 : decode mm_Md_build.2.1 31 = .ok (.aload_n 0, 1) := by decide +kernel
theorem d_Md_build_32 : decode mm_Md_build.2.1 32 = .ok (.getfield 123, 3) := by decide +kernel
theorem d_Md_build_35 : decode mm_Md_build.2.1 35 = .ok (.invokevirtual 214, 3) := by decide +kernel
theorem d_Md_build_38 : decode mm_Md_build.2.1 38 = .ok (.istore_n 1, 1) := by decide +kernel
theorem d_Md_build_39 : decode mm_Md_build.2.1 39 = .ok (.aload_n 0, 1) := by decide +kernel
theorem d_Md_build_40 : decode mm_Md_build.2.1 40 = .ok (.iconst 0, 1) := by decide +kernel
theorem d_Md_build_41 : decode mm_Md_build.2.1 41 = .ok (.putfield 257, 3) := by decide +kernel
theorem d_Md_build_44 : decode mm_Md_build.2.1 44 = .ok (.iload_n 1, 1) := by decide +kernel
theorem d_Md_build_45 : decode mm_Md_build.2.1 45 = .ok (.ifCond .ge 7, 3) := by decide +kernel
theorem d_Md_build_48 : decode mm_Md_build.2.1 48 = .ok (.iconst (-1), 1) := by decide +kernel
theorem d_Md_build_49 : decode mm_Md_build.2.1 49 = .ok (.goto 12, 3) := by decide +kernel
theorem d_Md_build_52 : decode mm_Md_build.2.1 52 = .ok (.aload_n 0, 1) := by decide +kernel
theorem d_Md_build_53 : decode mm_Md_build.2.1 53 = .ok (.aload_n 0, 1) := by decide +kernel
theorem d_Md_build_54 : decode mm_Md_build.2.1 54 = .ok (.iload_n 1, 1) := by decide +kernel
theorem d_Md_build_55 : decode mm_Md_build.2.1 55 = .ok (.invokevirtual 272, 3) := by decide +kernel
theorem d_Md_build_58 : decode mm_Md_build.2.1 58 = .ok (.invokevirtual 275, 3) := by decide +kernel
theorem d_Md_build_61 : decode mm_Md_build.2.1 61 = .ok (.ireturn, 1) := by decide +kernel
theorem d_Md_below_0 : decode mm_Md_below.2.1 0 = .ok (.lconst 1, 1) := by decide +kernel
theorem d_Md_below_1 : decode mm_Md_below.2.1 1 = .ok (.iload_n 1, 1) := by decide +kernel
theorem d_Md_below_2 : decode mm_Md_below.2.1 2 = .ok (.lshl, 1) := by decide +kernel
theorem d_Md_below_3 : decode mm_Md_below.2.1 3 = .ok (.lstore_n 2, 1) := by decide +kernel
theorem d_Md_below_4 : decode mm_Md_below.2.1 4 = .ok (.lconst 0, 1) := by decide +kernel
theorem d_Md_below_5 : decode mm_Md_below.2.1 5 = .ok (.lstore 4, 2) := by decide +kernel
theorem d_Md_below_7 : decode mm_Md_below.2.1 7 = .ok (.lload_n 2, 1) := by decide +kernel
theorem d_Md_below_8 : decode mm_Md_below.2.1 8 = .ok (.lload 4, 2) := by decide +kernel
theorem d_Md_below_10 : decode mm_Md_below.2.1 10 = .ok (.lcmp, 1) := by decide +kernel
theorem d_Md_below_11 : decode mm_Md_below.2.1 11 = .ok (.ifCond .eq 89, 3) := by decide +kernel
theorem d_Md_below_14 : decode mm_Md_below.2.1 14 = .ok (.lload_n 2, 1) := by decide +kernel
theorem d_Md_below_15 : decode mm_Md_below.2.1 15 = .ok (.lstore 4, 2) := by decide +kernel
theorem d_Md_below_17 : decode mm_Md_below.2.1 17 = .ok (.iconst 0, 1) := by decide +kernel
theorem d_Md_below_18 : decode mm_Md_below.2.1 18 = .ok (.istore 6, 2) := by decide +kernel
theorem d_Md_below_20 : decode mm_Md_below.2.1 20 = .ok (.iload 6, 2) := by decide +kernel
theorem d_Md_below_22 : decode mm_Md_below.2.1 22 = .ok (.bipush 64, 2) := by decide +kernel
theorem d_Md_below_24 : decode mm_Md_below.2.1 24 = .ok (.if_icmp .ge 73, 3) := by decide +kernel
theorem d_Md_below_27 : decode mm_Md_below.2.1 27 = .ok (.iconst 0, 1) := by decide +kernel
theorem d_Md_below_28 : decode mm_Md_below.2.1 28 = .ok (.istore 7, 2) := by decide +kernel
theorem d_Md_below_30 : decode mm_Md_below.2.1 30 = .ok (.iload 7, 2) := by decide +kernel
theorem d_Md_below_32 : decode mm_Md_below.2.1 32 = .ok (.bipush 64, 2) := by decide +kernel
theorem d_Md_below_34 : decode mm_Md_below.2.1 34 = .ok (.if_icmp .ge 57, 3) := by decide +kernel
theorem d_Md_below_37 : decode mm_Md_below.2.1 37 = .ok (.aload_n 0, 1) := by decide +kernel
theorem d_Md_below_38 : decode mm_Md_below.2.1 38 = .ok (.getfield 13, 3) := by decide +kernel
theorem d_Md_below_41 : decode mm_Md_below.2.1 41 = .ok (.iload 7, 2) := by decide +kernel
theorem d_Md_below_43 : decode mm_Md_below.2.1 43 = .ok (.baload, 1) := by decide +kernel
theorem d_Md_below_44 : decode mm_Md_below.2.1 44 = .ok (.ifCond .eq 39, 3) := by decide +kernel
theorem d_Md_below_47 : decode mm_Md_below.2.1 47 = .ok (.lload_n 2, 1) := by decide +kernel
theorem d_Md_below_48 : decode mm_Md_below.2.1 48 = .ok (.iload 6, 2) := by decide +kernel
theorem d_Md_below_50 : decode mm_Md_below.2.1 50 = .ok (.lshr, 1) := by decide +kernel
theorem d_Md_below_51 : decode mm_Md_below.2.1 51 = .ok (.lconst 1, 1) := by decide +kernel
theorem d_Md_below_52 : decode mm_Md_below.2.1 52 = .ok (.land, 1) := by decide +kernel
theorem d_Md_below_53 : decode mm_Md_below.2.1 53 = .ok (.lconst 1, 1) := by decide +kernel
theorem d_Md_below_54 : decode mm_Md_below.2.1 54 = .ok (.lcmp, 1) := by decide +kernel
theorem d_Md_below_55 : decode mm_Md_below.2.1 55 = .ok (.ifCond .ne 28, 3) := by decide +kernel
theorem d_Md_below_58 : decode mm_Md_below.2.1 58 = .ok (.aload_n 0, 1) := by decide +kernel
theorem d_Md_below_59 : decode mm_Md_below.2.1 59 = .ok (.iload 6, 2) := by decide +kernel
theorem d_Md_below_61 : decode mm_Md_below.2.1 61 = .ok (.aload_n 0, 1) := by decide +kernel
theorem d_Md_below_62 : decode mm_Md_below.2.1 62 = .ok (.getfield 17, 3) := by decide +kernel
theorem d_Md_below_65 : decode mm_Md_below.2.1 65 = .ok (.iload 7, 2) := by decide +kernel
theorem d_Md_below_67 : decode mm_Md_below.2.1 67 = .ok (.laload, 1) := by decide +kernel
theorem d_Md_below_68 : decode mm_Md_below.2.1 68 = .ok (.invokevirtual 207, 3) := by decide +kernel
theorem d_Md_below_71 : decode mm_Md_below.2.1 71 = .ok (.ifCond .eq 12, 3) := by decide +kernel
theorem d_Md_below_74 : decode mm_Md_below.2.1 74 = .ok (.lload_n 2, 1) := by decide +kernel
theorem d_Md_below_75 : decode mm_Md_below.2.1 75 = .ok (.lconst 1, 1) := by decide +kernel
theorem d_Md_below_76 : decode mm_Md_below.2.1 76 = .ok (.iload 7, 2) := by decide +kernel
theorem d_Md_below_78 : decode mm_Md_below.2.1 78 = .ok (.lshl, 1) := by decide +kernel
theorem d_Md_below_79 : decode mm_Md_below.2.1 79 = .ok (.lor, 1) := by decide +kernel
theorem d_Md_below_80 : decode mm_Md_below.2.1 80 = .ok (.goto 4, 3) := by decide +kernel
theorem d_Md_below_83 : decode mm_Md_below.2.1 83 = .ok (.lload_n 2, 1) := by decide +kernel
theorem d_Md_below_84 : decode mm_Md_below.2.1 84 = .ok (.lstore_n 2, 1) := by decide +kernel
theorem d_Md_below_85 : decode mm_Md_below.2.1 85 = .ok (.iinc 7 1, 3) := by decide +kernel
theorem d_Md_below_88 : decode mm_Md_below.2.1 88 = .ok (.goto (-58), 3) := by decide +kernel
theorem d_Md_below_91 : decode mm_Md_below.2.1 91 = .ok (.iinc 6 1, 3) := by decide +kernel
theorem d_Md_below_94 : decode mm_Md_below.2.1 94 = .ok (.goto (-74), 3) := by decide +kernel
theorem d_Md_below_97 : decode mm_Md_below.2.1 97 = .ok (.goto (-90), 3) := by decide +kernel
theorem d_Md_below_100 : decode mm_Md_below.2.1 100 = .ok (.lload_n 2, 1) := by decide +kernel
theorem d_Md_below_101 : decode mm_Md_below.2.1 101 = .ok (.lreturn, 1) := by decide +kernel
theorem d_Md_buildSet_0 : decode mm_Md_buildSet.2.1 0 = .ok (.aload_n 0, 1) := by decide +kernel
theorem d_Md_buildSet_1 : decode mm_Md_buildSet.2.1 1 = .ok (.iconst 0, 1) := by decide +kernel
theorem d_Md_buildSet_2 : decode mm_Md_buildSet.2.1 2 = .ok (.putfield 257, 3) := by decide +kernel
theorem d_Md_buildSet_5 : decode mm_Md_buildSet.2.1 5 = .ok (.lload_n 1, 1) := by decide +kernel
theorem d_Md_buildSet_6 : decode mm_Md_buildSet.2.1 6 = .ok (.lstore_n 3, 1) := by decide +kernel
theorem d_Md_buildSet_7 : decode mm_Md_buildSet.2.1 7 = .ok (.lload_n 3, 1) := by decide +kernel
theorem d_Md_buildSet_8 : decode mm_Md_buildSet.2.1 8 = .ok (.lconst 0, 1) := by decide +kernel
theorem d_Md_buildSet_9 : decode mm_Md_buildSet.2.1 9 = .ok (.lcmp, 1) := by decide +kernel
theorem d_Md_buildSet_10 : decode mm_Md_buildSet.2.1 10 = .ok (.ifCond .eq 65, 3) := by decide +kernel
theorem d_Md_buildSet_13 : decode mm_Md_buildSet.2.1 13 = .ok (.iconst 0, 1) := by decide +kernel
theorem d_Md_buildSet_14 : decode mm_Md_buildSet.2.1 14 = .ok (.istore 5, 2) := by decide +kernel
theorem d_Md_buildSet_16 : decode mm_Md_buildSet.2.1 16 = .ok (.iload 5, 2) := by decide +kernel
theorem d_Md_buildSet_18 : decode mm_Md_buildSet.2.1 18 = .ok (.bipush 64, 2) := by decide +kernel
theorem d_Md_buildSet_20 : decode mm_Md_buildSet.2.1 20 = .ok (.if_icmp .ge 52, 3) := by decide +kernel
theorem d_Md_buildSet_23 : decode mm_Md_buildSet.2.1 23 = .ok (.lload_n 3, 1) := by decide +kernel
theorem d_Md_buildSet_24 : decode mm_Md_buildSet.2.1 24 = .ok (.iload 5, 2) := by decide +kernel
theorem d_Md_buildSet_26 : decode mm_Md_buildSet.2.1 26 = .ok (.lshr, 1) := by decide +kernel
theorem d_Md_buildSet_27 : decode mm_Md_buildSet.2.1 27 = .ok (.lconst 1, 1) := by decide +kernel
theorem d_Md_buildSet_28 : decode mm_Md_buildSet.2.1 28 = .ok (.land, 1) := by decide +kernel
theorem d_Md_buildSet_29 : decode mm_Md_buildSet.2.1 29 = .ok (.lconst 1, 1) := by decide +kernel
theorem d_Md_buildSet_30 : decode mm_Md_buildSet.2.1 30 = .ok (.lcmp, 1) := by decide +kernel
theorem d_Md_buildSet_31 : decode mm_Md_buildSet.2.1 31 = .ok (.ifCond .ne 35, 3) := by decide +kernel
theorem d_Md_buildSet_34 : decode mm_Md_buildSet.2.1 34 = .ok (.aload_n 0, 1) := by decide +kernel
theorem d_Md_buildSet_35 : decode mm_Md_buildSet.2.1 35 = .ok (.iload 5, 2) := by decide +kernel
theorem d_Md_buildSet_37 : decode mm_Md_buildSet.2.1 37 = .ok (.lload_n 3, 1) := by decide +kernel
theorem d_Md_buildSet_38 : decode mm_Md_buildSet.2.1 38 = .ok (.invokevirtual 260, 3) := by decide +kernel
theorem d_Md_buildSet_41 : decode mm_Md_buildSet.2.1 41 = .ok (.ifCond .eq 25, 3) := by decide +kernel
theorem d_Md_buildSet_44 : decode mm_Md_buildSet.2.1 44 = .ok (.lload_n 3, 1) := by decide +kernel
theorem d_Md_buildSet_45 : decode mm_Md_buildSet.2.1 45 = .ok (.lconst 1, 1) := by decide +kernel
theorem d_Md_buildSet_46 : decode mm_Md_buildSet.2.1 46 = .ok (.iload 5, 2) := by decide +kernel
theorem d_Md_buildSet_48 : decode mm_Md_buildSet.2.1 48 = .ok (.lshl, 1) := by decide +kernel
theorem d_Md_buildSet_49 : decode mm_Md_buildSet.2.1 49 = .ok (.lxor, 1) := by decide +kernel
theorem d_Md_buildSet_50 : decode mm_Md_buildSet.2.1 50 = .ok (.lstore_n 3, 1) := by decide +kernel
theorem d_Md_buildSet_51 : decode mm_Md_buildSet.2.1 51 = .ok (.aload_n 0, 1) := by decide +kernel
theorem d_Md_buildSet_52 : decode mm_Md_buildSet.2.1 52 = .ok (.iload 5, 2) := by decide +kernel
theorem d_Md_buildSet_54 : decode mm_Md_buildSet.2.1 54 = .ok (.invokevirtual 263, 3) := by decide +kernel
theorem d_Md_buildSet_57 : decode mm_Md_buildSet.2.1 57 = .ok (.ifCond .eq 9, 3) := by decide +kernel
theorem d_Md_buildSet_60 : decode mm_Md_buildSet.2.1 60 = .ok (.aload_n 0, 1) := by decide +kernel
theorem d_Md_buildSet_61 : decode mm_Md_buildSet.2.1 61 = .ok (.iload 5, 2) := by decide +kernel
theorem d_Md_buildSet_63 : decode mm_Md_buildSet.2.1 63 = .ok (.invokevirtual 266, 3) := by decide +kernel
theorem d_Md_buildSet_66 : decode mm_Md_buildSet.2.1 66 = .ok (.iinc 5 1, 3) := by decide +kernel
theorem d_Md_buildSet_69 : decode mm_Md_buildSet.2.1 69 = .ok (.goto (-53), 3) := by decide +kernel
theorem d_Md_buildSet_72 : decode mm_Md_buildSet.2.1 72 = .ok (.goto (-65), 3) := by decide +kernel
theorem d_Md_buildSet_75 : decode mm_Md_buildSet.2.1 75 = .ok (.aload_n 0, 1) := by decide +kernel
theorem d_Md_buildSet_76 : decode mm_Md_buildSet.2.1 76 = .ok (.getfield 257, 3) := by decide +kernel
theorem d_Md_buildSet_79 : decode mm_Md_buildSet.2.1 79 = .ok (.ireturn, 1) := by decide +kernel
theorem d_Md_isReady_0 : decode mm_Md_isReady.2.1 0 = .ok (.iconst 1, 1) := by decide +kernel
theorem d_Md_isReady_1 : decode mm_Md_isReady.2.1 1 = .ok (.istore 4, 2) := by decide +kernel
theorem d_Md_isReady_3 : decode mm_Md_isReady.2.1 3 = .ok (.iconst 0, 1) := by decide +kernel
theorem d_Md_isReady_4 : decode mm_Md_isReady.2.1 4 = .ok (.istore 5, 2) := by decide +kernel
theorem d_Md_isReady_6 : decode mm_Md_isReady.2.1 6 = .ok (.iload 5, 2) := by decide +kernel
theorem d_Md_isReady_8 : decode mm_Md_isReady.2.1 8 = .ok (.bipush 64, 2) := by decide +kernel
theorem d_Md_isReady_10 : decode mm_Md_isReady.2.1 10 = .ok (.if_icmp .ge 47, 3) := by decide +kernel
theorem d_Md_isReady_13 : decode mm_Md_isReady.2.1 13 = .ok (.iload 4, 2) := by decide +kernel
theorem d_Md_isReady_15 : decode mm_Md_isReady.2.1 15 = .ok (.ifCond .eq 33, 3) := by decide +kernel
theorem d_Md_isReady_18 : decode mm_Md_isReady.2.1 18 = .ok (.lload_n 2, 1) := by decide +kernel
theorem d_Md_isReady_19 : decode mm_Md_isReady.2.1 19 = .ok (.iload 5, 2) := by decide +kernel
theorem d_Md_isReady_21 : decode mm_Md_isReady.2.1 21 = .ok (.lshr, 1) := by decide +kernel
theorem d_Md_isReady_22 : decode mm_Md_isReady.2.1 22 = .ok (.lconst 1, 1) := by decide +kernel
theorem d_Md_isReady_23 : decode mm_Md_isReady.2.1 23 = .ok (.land, 1) := by decide +kernel
theorem d_Md_isReady_24 : decode mm_Md_isReady.2.1 24 = .ok (.lconst 0, 1) := by decide +kernel
theorem d_Md_isReady_25 : decode mm_Md_isReady.2.1 25 = .ok (.lcmp, 1) := by decide +kernel
theorem d_Md_isReady_26 : decode mm_Md_isReady.2.1 26 = .ok (.ifCond .eq 18, 3) := by decide +kernel
theorem d_Md_isReady_29 : decode mm_Md_isReady.2.1 29 = .ok (.aload_n 0, 1) := by decide +kernel
theorem d_Md_isReady_30 : decode mm_Md_isReady.2.1 30 = .ok (.iload_n 1, 1) := by decide +kernel
theorem d_Md_isReady_31 : decode mm_Md_isReady.2.1 31 = .ok (.aload_n 0, 1) := by decide +kernel
theorem d_Md_isReady_32 : decode mm_Md_isReady.2.1 32 = .ok (.getfield 17, 3) := by decide +kernel
theorem d_Md_isReady_35 : decode mm_Md_isReady.2.1 35 = .ok (.iload 5, 2) := by decide +kernel
theorem d_Md_isReady_37 : decode mm_Md_isReady.2.1 37 = .ok (.laload, 1) := by decide +kernel
theorem d_Md_isReady_38 : decode mm_Md_isReady.2.1 38 = .ok (.invokevirtual 207, 3) := by decide +kernel
theorem d_Md_isReady_41 : decode mm_Md_isReady.2.1 41 = .ok (.ifCond .ne 7, 3) := by decide +kernel
theorem d_Md_isReady_44 : decode mm_Md_isReady.2.1 44 = .ok (.iconst 1, 1) := by decide +kernel
theorem d_Md_isReady_45 : decode mm_Md_isReady.2.1 45 = .ok (.goto 4, 3) := by decide +kernel
theorem d_Md_isReady_48 : decode mm_Md_isReady.2.1 48 = .ok (.iconst 0, 1) := by decide +kernel
theorem d_Md_isReady_49 : decode mm_Md_isReady.2.1 49 = .ok (.istore 4, 2) := by decide +kernel
theorem d_Md_isReady_51 : decode mm_Md_isReady.2.1 51 = .ok (.iinc 5 1, 3) := by decide +kernel
theorem d_Md_isReady_54 : decode mm_Md_isReady.2.1 54 = .ok (.goto (-48), 3) := by decide +kernel
theorem d_Md_isReady_57 : decode mm_Md_isReady.2.1 57 = .ok (.iload 4, 2) := by decide +kernel
theorem d_Md_isReady_59 : decode mm_Md_isReady.2.1 59 = .ok (.ireturn, 1) := by decide +kernel
theorem d_Md_isStale_0 : decode mm_Md_isStale.2.1 0 = .ok (.aload_n 0, 1) := by decide +kernel
theorem d_Md_isStale_1 : decode mm_Md_isStale.2.1 1 = .ok (.getfield 27, 3) := by decide +kernel
theorem d_Md_isStale_4 : decode mm_Md_isStale.2.1 4 = .ok (.iload_n 1, 1) := by decide +kernel
theorem d_Md_isStale_5 : decode mm_Md_isStale.2.1 5 = .ok (.baload, 1) := by decide +kernel
theorem d_Md_isStale_6 : decode mm_Md_isStale.2.1 6 = .ok (.ifCond .ne 7, 3) := by decide +kernel
theorem d_Md_isStale_9 : decode mm_Md_isStale.2.1 9 = .ok (.iconst 1, 1) := by decide +kernel
theorem d_Md_isStale_10 : decode mm_Md_isStale.2.1 10 = .ok (.goto 4, 3) := by decide +kernel
theorem d_Md_isStale_13 : decode mm_Md_isStale.2.1 13 = .ok (.iconst 0, 1) := by decide +kernel
theorem d_Md_isStale_14 : decode mm_Md_isStale.2.1 14 = .ok (.istore_n 2, 1) := by decide +kernel
theorem d_Md_isStale_15 : decode mm_Md_isStale.2.1 15 = .ok (.bipush 40, 2) := by decide +kernel
theorem d_Md_isStale_17 : decode mm_Md_isStale.2.1 17 = .ok (.iload_n 1, 1) := by decide +kernel
theorem d_Md_isStale_18 : decode mm_Md_isStale.2.1 18 = .ok (.imul, 1) := by decide +kernel
theorem d_Md_isStale_19 : decode mm_Md_isStale.2.1 19 = .ok (.istore_n 3, 1) := by decide +kernel
theorem d_Md_isStale_20 : decode mm_Md_isStale.2.1 20 = .ok (.iload_n 3, 1) := by decide +kernel
theorem d_Md_isStale_21 : decode mm_Md_isStale.2.1 21 = .ok (.bipush 40, 2) := by decide +kernel
theorem d_Md_isStale_23 : decode mm_Md_isStale.2.1 23 = .ok (.iload_n 1, 1) := by decide +kernel
theorem d_Md_isStale_24 : decode mm_Md_isStale.2.1 24 = .ok (.imul, 1) := by decide +kernel
theorem d_Md_isStale_25 : decode mm_Md_isStale.2.1 25 = .ok (.aload_n 0, 1) := by decide +kernel
theorem d_Md_isStale_26 : decode mm_Md_isStale.2.1 26 = .ok (.getfield 33, 3) := by decide +kernel
theorem d_Md_isStale_29 : decode mm_Md_isStale.2.1 29 = .ok (.iload_n 1, 1) := by decide +kernel
theorem d_Md_isStale_30 : decode mm_Md_isStale.2.1 30 = .ok (.iaload, 1) := by decide +kernel
theorem d_Md_isStale_31 : decode mm_Md_isStale.2.1 31 = .ok (.iadd, 1) := by decide +kernel
theorem d_Md_isStale_32 : decode mm_Md_isStale.2.1 32 = .ok (.if_icmp .ge 68, 3) := by decide +kernel
theorem d_Md_isStale_35 : decode mm_Md_isStale.2.1 35 = .ok (.iload_n 2, 1) := by decide +kernel
theorem d_Md_isStale_36 : decode mm_Md_isStale.2.1 36 = .ok (.ifCond .ne 52, 3) := by decide +kernel
theorem d_Md_isStale_39 : decode mm_Md_isStale.2.1 39 = .ok (.aload_n 0, 1) := by decide +kernel
theorem d_Md_isStale_40 : decode mm_Md_isStale.2.1 40 = .ok (.getfield 36, 3) := by decide +kernel
theorem d_Md_isStale_43 : decode mm_Md_isStale.2.1 43 = .ok (.iload_n 3, 1) := by decide +kernel
theorem d_Md_isStale_44 : decode mm_Md_isStale.2.1 44 = .ok (.iaload, 1) := by decide +kernel
theorem d_Md_isStale_45 : decode mm_Md_isStale.2.1 45 = .ok (.iconst 1, 1) := by decide +kernel
theorem d_Md_isStale_46 : decode mm_Md_isStale.2.1 46 = .ok (.if_icmp .ne 46, 3) := by decide +kernel
theorem d_Md_isStale_49 : decode mm_Md_isStale.2.1 49 = .ok (.aload_n 0, 1) := by decide +kernel
theorem d_Md_isStale_50 : decode mm_Md_isStale.2.1 50 = .ok (.getfield 51, 3) := by decide +kernel
theorem d_Md_isStale_53 : decode mm_Md_isStale.2.1 53 = .ok (.iload_n 3, 1) := by decide +kernel
theorem d_Md_isStale_54 : decode mm_Md_isStale.2.1 54 = .ok (.iaload, 1) := by decide +kernel
theorem d_Md_isStale_55 : decode mm_Md_isStale.2.1 55 = .ok (.aload_n 0, 1) := by decide +kernel
theorem d_Md_isStale_56 : decode mm_Md_isStale.2.1 56 = .ok (.aload_n 0, 1) := by decide +kernel
theorem d_Md_isStale_57 : decode mm_Md_isStale.2.1 57 = .ok (.getfield 48, 3) := by decide +kernel
theorem d_Md_isStale_60 : decode mm_Md_isStale.2.1 60 = .ok (.iload_n 3, 1) := by decide +kernel
theorem d_Md_isStale_61 : decode mm_Md_isStale.2.1 61 = .ok (.laload, 1) := by decide +kernel
theorem d_Md_isStale_62 : decode mm_Md_isStale.2.1 62 = .ok (.invokevirtual 244, 3) := by decide +kernel
theorem d_Md_isStale_65 : decode mm_Md_isStale.2.1 65 = .ok (.if_icmp .ne 23, 3) := by decide +kernel
theorem d_Md_isStale_68 : decode mm_Md_isStale.2.1 68 = .ok (.aload_n 0, 1) := by decide +kernel
theorem d_Md_isStale_69 : decode mm_Md_isStale.2.1 69 = .ok (.getfield 54, 3) := by decide +kernel
theorem d_Md_isStale_72 : decode mm_Md_isStale.2.1 72 = .ok (.iload_n 3, 1) := by decide +kernel
theorem d_Md_isStale_73 : decode mm_Md_isStale.2.1 73 = .ok (.laload, 1) := by decide +kernel
theorem d_Md_isStale_74 : decode mm_Md_isStale.2.1 74 = .ok (.aload_n 0, 1) := by decide +kernel
theorem d_Md_isStale_75 : decode mm_Md_isStale.2.1 75 = .ok (.aload_n 0, 1) := by decide +kernel
theorem d_Md_isStale_76 : decode mm_Md_isStale.2.1 76 = .ok (.getfield 48, 3) := by decide +kernel
theorem d_Md_isStale_79 : decode mm_Md_isStale.2.1 79 = .ok (.iload_n 3, 1) := by decide +kernel
theorem d_Md_isStale_80 : decode mm_Md_isStale.2.1 80 = .ok (.laload, 1) := by decide +kernel
theorem d_Md_isStale_81 : decode mm_Md_isStale.2.1 81 = .ok (.invokevirtual 247, 3) := by decide +kernel
theorem d_Md_isStale_84 : decode mm_Md_isStale.2.1 84 = .ok (.lcmp, 1) := by decide +kernel
theorem d_Md_isStale_85 : decode mm_Md_isStale.2.1 85 = .ok (.ifCond .eq 7, 3) := by decide +kernel
theorem d_Md_isStale_88 : decode mm_Md_isStale.2.1 88 = .ok (.iconst 1, 1) := by decide +kernel
theorem d_Md_isStale_89 : decode mm_Md_isStale.2.1 89 = .ok (.goto 4, 3) := by decide +kernel
theorem d_Md_isStale_92 : decode mm_Md_isStale.2.1 92 = .ok (.iconst 0, 1) := by decide +kernel
theorem d_Md_isStale_93 : decode mm_Md_isStale.2.1 93 = .ok (.istore_n 2, 1) := by decide +kernel
theorem d_Md_isStale_94 : decode mm_Md_isStale.2.1 94 = .ok (.iinc 3 1, 3) := by decide +kernel
theorem d_Md_isStale_97 : decode mm_Md_isStale.2.1 97 = .ok (.goto (-77), 3) := by decide +kernel
theorem d_Md_isStale_100 : decode mm_Md_isStale.2.1 100 = .ok (.iload_n 2, 1) := by decide +kernel
theorem d_Md_isStale_101 : decode mm_Md_isStale.2.1 101 = .ok (.ireturn, 1) := by decide +kernel
theorem d_Md_resultOf_0 : decode mm_Md_resultOf.2.1 0 = .ok (.aload_n 0, 1) := by decide +kernel
theorem d_Md_resultOf_1 : decode mm_Md_resultOf.2.1 1 = .ok (.lload_n 1, 1) := by decide +kernel
theorem d_Md_resultOf_2 : decode mm_Md_resultOf.2.1 2 = .ok (.invokevirtual 214, 3) := by decide +kernel
theorem d_Md_resultOf_5 : decode mm_Md_resultOf.2.1 5 = .ok (.istore_n 3, 1) := by decide +kernel
theorem d_Md_resultOf_6 : decode mm_Md_resultOf.2.1 6 = .ok (.iload_n 3, 1) := by decide +kernel
theorem d_Md_resultOf_7 : decode mm_Md_resultOf.2.1 7 = .ok (.ifCond .ge 7, 3) := by decide +kernel
theorem d_Md_resultOf_10 : decode mm_Md_resultOf.2.1 10 = .ok (.iconst 0, 1) := by decide +kernel
theorem d_Md_resultOf_11 : decode mm_Md_resultOf.2.1 11 = .ok (.goto 9, 3) := by decide +kernel
theorem d_Md_resultOf_14 : decode mm_Md_resultOf.2.1 14 = .ok (.aload_n 0, 1) := by decide +kernel
theorem d_Md_resultOf_15 : decode mm_Md_resultOf.2.1 15 = .ok (.getfield 21, 3) := by decide +kernel
theorem d_Md_resultOf_18 : decode mm_Md_resultOf.2.1 18 = .ok (.iload_n 3, 1) := by decide +kernel
theorem d_Md_resultOf_19 : decode mm_Md_resultOf.2.1 19 = .ok (.iaload, 1) := by decide +kernel
theorem d_Md_resultOf_20 : decode mm_Md_resultOf.2.1 20 = .ok (.ireturn, 1) := by decide +kernel
theorem d_Md_valueOf_0 : decode mm_Md_valueOf.2.1 0 = .ok (.aload_n 0, 1) := by decide +kernel
theorem d_Md_valueOf_1 : decode mm_Md_valueOf.2.1 1 = .ok (.lload_n 1, 1) := by decide +kernel
theorem d_Md_valueOf_2 : decode mm_Md_valueOf.2.1 2 = .ok (.invokevirtual 214, 3) := by decide +kernel
theorem d_Md_valueOf_5 : decode mm_Md_valueOf.2.1 5 = .ok (.istore_n 3, 1) := by decide +kernel
theorem d_Md_valueOf_6 : decode mm_Md_valueOf.2.1 6 = .ok (.iload_n 3, 1) := by decide +kernel
theorem d_Md_valueOf_7 : decode mm_Md_valueOf.2.1 7 = .ok (.ifCond .lt 13, 3) := by decide +kernel
theorem d_Md_valueOf_10 : decode mm_Md_valueOf.2.1 10 = .ok (.aload_n 0, 1) := by decide +kernel
theorem d_Md_valueOf_11 : decode mm_Md_valueOf.2.1 11 = .ok (.getfield 21, 3) := by decide +kernel
theorem d_Md_valueOf_14 : decode mm_Md_valueOf.2.1 14 = .ok (.iload_n 3, 1) := by decide +kernel
theorem d_Md_valueOf_15 : decode mm_Md_valueOf.2.1 15 = .ok (.iaload, 1) := by decide +kernel
theorem d_Md_valueOf_16 : decode mm_Md_valueOf.2.1 16 = .ok (.iconst 1, 1) := by decide +kernel
theorem d_Md_valueOf_17 : decode mm_Md_valueOf.2.1 17 = .ok (.if_icmp .eq 7, 3) := by decide +kernel
theorem d_Md_valueOf_20 : decode mm_Md_valueOf.2.1 20 = .ok (.lconst 0, 1) := by decide +kernel
end
section
theorem d_Md_valueOf_21 : decode mm_Md_valueOf.2.1 21 = .ok (.goto 9, 3) := by decide +kernel
theorem d_Md_valueOf_24 : decode mm_Md_valueOf.2.1 24 = .ok (.aload_n 0, 1) := by decide +kernel
theorem d_Md_valueOf_25 : decode mm_Md_valueOf.2.1 25 = .ok (.getfield 24, 3) := by decide +kernel
theorem d_Md_valueOf_28 : decode mm_Md_valueOf.2.1 28 = .ok (.iload_n 3, 1) := by decide +kernel
theorem d_Md_valueOf_29 : decode mm_Md_valueOf.2.1 29 = .ok (.laload, 1) := by decide +kernel
theorem d_Md_valueOf_30 : decode mm_Md_valueOf.2.1 30 = .ok (.lreturn, 1) := by decide +kernel
theorem d_Md_workOut_0 : decode mm_Md_workOut.2.1 0 = .ok (.aload_n 0, 1) := by decide +kernel
theorem d_Md_workOut_1 : decode mm_Md_workOut.2.1 1 = .ok (.iconst 0, 1) := by decide +kernel
theorem d_Md_workOut_2 : decode mm_Md_workOut.2.1 2 = .ok (.putfield 231, 3) := by decide +kernel
theorem d_Md_workOut_5 : decode mm_Md_workOut.2.1 5 = .ok (.aload_n 0, 1) := by decide +kernel
theorem d_Md_workOut_6 : decode mm_Md_workOut.2.1 6 = .ok (.iload_n 1, 1) := by decide +kernel
theorem d_Md_workOut_7 : decode mm_Md_workOut.2.1 7 = .ok (.invokevirtual 250, 3) := by decide +kernel
theorem d_Md_workOut_10 : decode mm_Md_workOut.2.1 10 = .ok (.lstore_n 2, 1) := by decide +kernel
theorem d_Md_workOut_11 : decode mm_Md_workOut.2.1 11 = .ok (.aload_n 0, 1) := by decide +kernel
theorem d_Md_workOut_12 : decode mm_Md_workOut.2.1 12 = .ok (.getfield 21, 3) := by decide +kernel
theorem d_Md_workOut_15 : decode mm_Md_workOut.2.1 15 = .ok (.iload_n 1, 1) := by decide +kernel
theorem d_Md_workOut_16 : decode mm_Md_workOut.2.1 16 = .ok (.aload_n 0, 1) := by decide +kernel
theorem d_Md_workOut_17 : decode mm_Md_workOut.2.1 17 = .ok (.getfield 231, 3) := by decide +kernel
theorem d_Md_workOut_20 : decode mm_Md_workOut.2.1 20 = .ok (.ifCond .le 10, 3) := by decide +kernel
theorem d_Md_workOut_23 : decode mm_Md_workOut.2.1 23 = .ok (.aload_n 0, 1) := by decide +kernel
theorem d_Md_workOut_24 : decode mm_Md_workOut.2.1 24 = .ok (.getfield 231, 3) := by decide +kernel
theorem d_Md_workOut_27 : decode mm_Md_workOut.2.1 27 = .ok (.goto 4, 3) := by decide +kernel
theorem d_Md_workOut_30 : decode mm_Md_workOut.2.1 30 = .ok (.iconst 1, 1) := by decide +kernel
theorem d_Md_workOut_31 : decode mm_Md_workOut.2.1 31 = .ok (.iastore, 1) := by decide +kernel
theorem d_Md_workOut_32 : decode mm_Md_workOut.2.1 32 = .ok (.aload_n 0, 1) := by decide +kernel
theorem d_Md_workOut_33 : decode mm_Md_workOut.2.1 33 = .ok (.getfield 24, 3) := by decide +kernel
theorem d_Md_workOut_36 : decode mm_Md_workOut.2.1 36 = .ok (.iload_n 1, 1) := by decide +kernel
theorem d_Md_workOut_37 : decode mm_Md_workOut.2.1 37 = .ok (.aload_n 0, 1) := by decide +kernel
theorem d_Md_workOut_38 : decode mm_Md_workOut.2.1 38 = .ok (.getfield 231, 3) := by decide +kernel
theorem d_Md_workOut_41 : decode mm_Md_workOut.2.1 41 = .ok (.ifCond .le 7, 3) := by decide +kernel
theorem d_Md_workOut_44 : decode mm_Md_workOut.2.1 44 = .ok (.lconst 0, 1) := by decide +kernel
theorem d_Md_workOut_45 : decode mm_Md_workOut.2.1 45 = .ok (.goto 4, 3) := by decide +kernel
theorem d_Md_workOut_48 : decode mm_Md_workOut.2.1 48 = .ok (.lload_n 2, 1) := by decide +kernel
theorem d_Md_workOut_49 : decode mm_Md_workOut.2.1 49 = .ok (.lastore, 1) := by decide +kernel
theorem d_Md_workOut_50 : decode mm_Md_workOut.2.1 50 = .ok (.aload_n 0, 1) := by decide +kernel
theorem d_Md_workOut_51 : decode mm_Md_workOut.2.1 51 = .ok (.getfield 27, 3) := by decide +kernel
theorem d_Md_workOut_54 : decode mm_Md_workOut.2.1 54 = .ok (.iload_n 1, 1) := by decide +kernel
theorem d_Md_workOut_55 : decode mm_Md_workOut.2.1 55 = .ok (.iconst 1, 1) := by decide +kernel
theorem d_Md_workOut_56 : decode mm_Md_workOut.2.1 56 = .ok (.bastore, 1) := by decide +kernel
theorem d_Md_workOut_57 : decode mm_Md_workOut.2.1 57 = .ok (.bipush 40, 2) := by decide +kernel
theorem d_Md_workOut_59 : decode mm_Md_workOut.2.1 59 = .ok (.iload_n 1, 1) := by decide +kernel
theorem d_Md_workOut_60 : decode mm_Md_workOut.2.1 60 = .ok (.imul, 1) := by decide +kernel
theorem d_Md_workOut_61 : decode mm_Md_workOut.2.1 61 = .ok (.istore 4, 2) := by decide +kernel
theorem d_Md_workOut_63 : decode mm_Md_workOut.2.1 63 = .ok (.iload 4, 2) := by decide +kernel
theorem d_Md_workOut_65 : decode mm_Md_workOut.2.1 65 = .ok (.bipush 40, 2) := by decide +kernel
theorem d_Md_workOut_67 : decode mm_Md_workOut.2.1 67 = .ok (.iload_n 1, 1) := by decide +kernel
theorem d_Md_workOut_68 : decode mm_Md_workOut.2.1 68 = .ok (.imul, 1) := by decide +kernel
theorem d_Md_workOut_69 : decode mm_Md_workOut.2.1 69 = .ok (.aload_n 0, 1) := by decide +kernel
theorem d_Md_workOut_70 : decode mm_Md_workOut.2.1 70 = .ok (.getfield 33, 3) := by decide +kernel
theorem d_Md_workOut_73 : decode mm_Md_workOut.2.1 73 = .ok (.iload_n 1, 1) := by decide +kernel
theorem d_Md_workOut_74 : decode mm_Md_workOut.2.1 74 = .ok (.iaload, 1) := by decide +kernel
theorem d_Md_workOut_75 : decode mm_Md_workOut.2.1 75 = .ok (.iadd, 1) := by decide +kernel
theorem d_Md_workOut_76 : decode mm_Md_workOut.2.1 76 = .ok (.if_icmp .ge 75, 3) := by decide +kernel
theorem d_Md_workOut_79 : decode mm_Md_workOut.2.1 79 = .ok (.aload_n 0, 1) := by decide +kernel
theorem d_Md_workOut_80 : decode mm_Md_workOut.2.1 80 = .ok (.getfield 51, 3) := by decide +kernel
theorem d_Md_workOut_83 : decode mm_Md_workOut.2.1 83 = .ok (.iload 4, 2) := by decide +kernel
theorem d_Md_workOut_85 : decode mm_Md_workOut.2.1 85 = .ok (.aload_n 0, 1) := by decide +kernel
theorem d_Md_workOut_86 : decode mm_Md_workOut.2.1 86 = .ok (.getfield 36, 3) := by decide +kernel
theorem d_Md_workOut_89 : decode mm_Md_workOut.2.1 89 = .ok (.iload 4, 2) := by decide +kernel
theorem d_Md_workOut_91 : decode mm_Md_workOut.2.1 91 = .ok (.iaload, 1) := by decide +kernel
theorem d_Md_workOut_92 : decode mm_Md_workOut.2.1 92 = .ok (.iconst 1, 1) := by decide +kernel
theorem d_Md_workOut_93 : decode mm_Md_workOut.2.1 93 = .ok (.if_icmp .ne 17, 3) := by decide +kernel
theorem d_Md_workOut_96 : decode mm_Md_workOut.2.1 96 = .ok (.aload_n 0, 1) := by decide +kernel
theorem d_Md_workOut_97 : decode mm_Md_workOut.2.1 97 = .ok (.aload_n 0, 1) := by decide +kernel
theorem d_Md_workOut_98 : decode mm_Md_workOut.2.1 98 = .ok (.getfield 48, 3) := by decide +kernel
theorem d_Md_workOut_101 : decode mm_Md_workOut.2.1 101 = .ok (.iload 4, 2) := by decide +kernel
theorem d_Md_workOut_103 : decode mm_Md_workOut.2.1 103 = .ok (.laload, 1) := by decide +kernel
theorem d_Md_workOut_104 : decode mm_Md_workOut.2.1 104 = .ok (.invokevirtual 244, 3) := by decide +kernel
theorem d_Md_workOut_107 : decode mm_Md_workOut.2.1 107 = .ok (.goto 4, 3) := by decide +kernel
theorem d_Md_workOut_110 : decode mm_Md_workOut.2.1 110 = .ok (.iconst 0, 1) := by decide +kernel
theorem d_Md_workOut_111 : decode mm_Md_workOut.2.1 111 = .ok (.iastore, 1) := by decide +kernel
theorem d_Md_workOut_112 : decode mm_Md_workOut.2.1 112 = .ok (.aload_n 0, 1) := by decide +kernel
theorem d_Md_workOut_113 : decode mm_Md_workOut.2.1 113 = .ok (.getfield 54, 3) := by decide +kernel
theorem d_Md_workOut_116 : decode mm_Md_workOut.2.1 116 = .ok (.iload 4, 2) := by decide +kernel
theorem d_Md_workOut_118 : decode mm_Md_workOut.2.1 118 = .ok (.aload_n 0, 1) := by decide +kernel
theorem d_Md_workOut_119 : decode mm_Md_workOut.2.1 119 = .ok (.getfield 36, 3) := by decide +kernel
theorem d_Md_workOut_122 : decode mm_Md_workOut.2.1 122 = .ok (.iload 4, 2) := by decide +kernel
theorem d_Md_workOut_124 : decode mm_Md_workOut.2.1 124 = .ok (.iaload, 1) := by decide +kernel
theorem d_Md_workOut_125 : decode mm_Md_workOut.2.1 125 = .ok (.iconst 1, 1) := by decide +kernel
theorem d_Md_workOut_126 : decode mm_Md_workOut.2.1 126 = .ok (.if_icmp .ne 17, 3) := by decide +kernel
theorem d_Md_workOut_129 : decode mm_Md_workOut.2.1 129 = .ok (.aload_n 0, 1) := by decide +kernel
theorem d_Md_workOut_130 : decode mm_Md_workOut.2.1 130 = .ok (.aload_n 0, 1) := by decide +kernel
theorem d_Md_workOut_131 : decode mm_Md_workOut.2.1 131 = .ok (.getfield 48, 3) := by decide +kernel
theorem d_Md_workOut_134 : decode mm_Md_workOut.2.1 134 = .ok (.iload 4, 2) := by decide +kernel
theorem d_Md_workOut_136 : decode mm_Md_workOut.2.1 136 = .ok (.laload, 1) := by decide +kernel
theorem d_Md_workOut_137 : decode mm_Md_workOut.2.1 137 = .ok (.invokevirtual 247, 3) := by decide +kernel
theorem d_Md_workOut_140 : decode mm_Md_workOut.2.1 140 = .ok (.goto 4, 3) := by decide +kernel
theorem d_Md_workOut_143 : decode mm_Md_workOut.2.1 143 = .ok (.lconst 0, 1) := by decide +kernel
theorem d_Md_workOut_144 : decode mm_Md_workOut.2.1 144 = .ok (.lastore, 1) := by decide +kernel
theorem d_Md_workOut_145 : decode mm_Md_workOut.2.1 145 = .ok (.iinc 4 1, 3) := by decide +kernel
theorem d_Md_workOut_148 : decode mm_Md_workOut.2.1 148 = .ok (.goto (-85), 3) := by decide +kernel
theorem d_Md_workOut_151 : decode mm_Md_workOut.2.1 151 = .ok (.aload_n 0, 1) := by decide +kernel
theorem d_Md_workOut_152 : decode mm_Md_workOut.2.1 152 = .ok (.dup, 1) := by decide +kernel
theorem d_Md_workOut_153 : decode mm_Md_workOut.2.1 153 = .ok (.getfield 254, 3) := by decide +kernel
theorem d_Md_workOut_156 : decode mm_Md_workOut.2.1 156 = .ok (.iconst 1, 1) := by decide +kernel
theorem d_Md_workOut_157 : decode mm_Md_workOut.2.1 157 = .ok (.iadd, 1) := by decide +kernel
theorem d_Md_workOut_158 : decode mm_Md_workOut.2.1 158 = .ok (.putfield 254, 3) := by decide +kernel
theorem d_Md_workOut_161 : decode mm_Md_workOut.2.1 161 = .ok (.aload_n 0, 1) := by decide +kernel
theorem d_Md_workOut_162 : decode mm_Md_workOut.2.1 162 = .ok (.getfield 257, 3) := by decide +kernel
theorem d_Md_workOut_165 : decode mm_Md_workOut.2.1 165 = .ok (.istore 4, 2) := by decide +kernel
theorem d_Md_workOut_167 : decode mm_Md_workOut.2.1 167 = .ok (.iload 4, 2) := by decide +kernel
theorem d_Md_workOut_169 : decode mm_Md_workOut.2.1 169 = .ok (.ifCond .le 44, 3) := by decide +kernel
theorem d_Md_workOut_172 : decode mm_Md_workOut.2.1 172 = .ok (.aload_n 0, 1) := by decide +kernel
theorem d_Md_workOut_173 : decode mm_Md_workOut.2.1 173 = .ok (.getfield 57, 3) := by decide +kernel
theorem d_Md_workOut_176 : decode mm_Md_workOut.2.1 176 = .ok (.iload 4, 2) := by decide +kernel
theorem d_Md_workOut_178 : decode mm_Md_workOut.2.1 178 = .ok (.iconst 1, 1) := by decide +kernel
theorem d_Md_workOut_179 : decode mm_Md_workOut.2.1 179 = .ok (.isub, 1) := by decide +kernel
theorem d_Md_workOut_180 : decode mm_Md_workOut.2.1 180 = .ok (.laload, 1) := by decide +kernel
theorem d_Md_workOut_181 : decode mm_Md_workOut.2.1 181 = .ok (.aload_n 0, 1) := by decide +kernel
theorem d_Md_workOut_182 : decode mm_Md_workOut.2.1 182 = .ok (.getfield 17, 3) := by decide +kernel
theorem d_Md_workOut_185 : decode mm_Md_workOut.2.1 185 = .ok (.iload_n 1, 1) := by decide +kernel
theorem d_Md_workOut_186 : decode mm_Md_workOut.2.1 186 = .ok (.laload, 1) := by decide +kernel
theorem d_Md_workOut_187 : decode mm_Md_workOut.2.1 187 = .ok (.lcmp, 1) := by decide +kernel
theorem d_Md_workOut_188 : decode mm_Md_workOut.2.1 188 = .ok (.ifCond .le 25, 3) := by decide +kernel
theorem d_Md_workOut_191 : decode mm_Md_workOut.2.1 191 = .ok (.aload_n 0, 1) := by decide +kernel
theorem d_Md_workOut_192 : decode mm_Md_workOut.2.1 192 = .ok (.getfield 57, 3) := by decide +kernel
theorem d_Md_workOut_195 : decode mm_Md_workOut.2.1 195 = .ok (.iload 4, 2) := by decide +kernel
theorem d_Md_workOut_197 : decode mm_Md_workOut.2.1 197 = .ok (.aload_n 0, 1) := by decide +kernel
theorem d_Md_workOut_198 : decode mm_Md_workOut.2.1 198 = .ok (.getfield 57, 3) := by decide +kernel
theorem d_Md_workOut_201 : decode mm_Md_workOut.2.1 201 = .ok (.iload 4, 2) := by decide +kernel
theorem d_Md_workOut_203 : decode mm_Md_workOut.2.1 203 = .ok (.iconst 1, 1) := by decide +kernel
theorem d_Md_workOut_204 : decode mm_Md_workOut.2.1 204 = .ok (.isub, 1) := by decide +kernel
theorem d_Md_workOut_205 : decode mm_Md_workOut.2.1 205 = .ok (.laload, 1) := by decide +kernel
theorem d_Md_workOut_206 : decode mm_Md_workOut.2.1 206 = .ok (.lastore, 1) := by decide +kernel
theorem d_Md_workOut_207 : decode mm_Md_workOut.2.1 207 = .ok (.iinc 4 (-1), 3) := by decide +kernel
theorem d_Md_workOut_210 : decode mm_Md_workOut.2.1 210 = .ok (.goto (-43), 3) := by decide +kernel
theorem d_Md_workOut_213 : decode mm_Md_workOut.2.1 213 = .ok (.aload_n 0, 1) := by decide +kernel
theorem d_Md_workOut_214 : decode mm_Md_workOut.2.1 214 = .ok (.getfield 57, 3) := by decide +kernel
theorem d_Md_workOut_217 : decode mm_Md_workOut.2.1 217 = .ok (.iload 4, 2) := by decide +kernel
theorem d_Md_workOut_219 : decode mm_Md_workOut.2.1 219 = .ok (.aload_n 0, 1) := by decide +kernel
theorem d_Md_workOut_220 : decode mm_Md_workOut.2.1 220 = .ok (.getfield 17, 3) := by decide +kernel
theorem d_Md_workOut_223 : decode mm_Md_workOut.2.1 223 = .ok (.iload_n 1, 1) := by decide +kernel
theorem d_Md_workOut_224 : decode mm_Md_workOut.2.1 224 = .ok (.laload, 1) := by decide +kernel
theorem d_Md_workOut_225 : decode mm_Md_workOut.2.1 225 = .ok (.lastore, 1) := by decide +kernel
theorem d_Md_workOut_226 : decode mm_Md_workOut.2.1 226 = .ok (.aload_n 0, 1) := by decide +kernel
theorem d_Md_workOut_227 : decode mm_Md_workOut.2.1 227 = .ok (.dup, 1) := by decide +kernel
theorem d_Md_workOut_228 : decode mm_Md_workOut.2.1 228 = .ok (.getfield 257, 3) := by decide +kernel
theorem d_Md_workOut_231 : decode mm_Md_workOut.2.1 231 = .ok (.iconst 1, 1) := by decide +kernel
theorem d_Md_workOut_232 : decode mm_Md_workOut.2.1 232 = .ok (.iadd, 1) := by decide +kernel
theorem d_Md_workOut_233 : decode mm_Md_workOut.2.1 233 = .ok (.putfield 257, 3) := by decide +kernel
theorem d_Md_workOut_236 : decode mm_Md_workOut.2.1 236 = .ok (.return_, 1) := by decide +kernel
theorem d_Md_work_0 : decode mm_Md_work.2.1 0 = .ok (.aload_n 0, 1) := by decide +kernel
theorem d_Md_work_1 : decode mm_Md_work.2.1 1 = .ok (.iconst 0, 1) := by decide +kernel
theorem d_Md_work_2 : decode mm_Md_work.2.1 2 = .ok (.putfield 225, 3) := by decide +kernel
theorem d_Md_work_5 : decode mm_Md_work.2.1 5 = .ok (.aload_n 0, 1) := by decide +kernel
theorem d_Md_work_6 : decode mm_Md_work.2.1 6 = .ok (.aload_n 0, 1) := by decide +kernel
theorem d_Md_work_7 : decode mm_Md_work.2.1 7 = .ok (.getfield 30, 3) := by decide +kernel
theorem d_Md_work_10 : decode mm_Md_work.2.1 10 = .ok (.iload_n 1, 1) := by decide +kernel
theorem d_Md_work_11 : decode mm_Md_work.2.1 11 = .ok (.iaload, 1) := by decide +kernel
theorem d_Md_work_12 : decode mm_Md_work.2.1 12 = .ok (.invokevirtual 228, 3) := by decide +kernel
theorem d_Md_work_15 : decode mm_Md_work.2.1 15 = .ok (.aload_n 0, 1) := by decide +kernel
theorem d_Md_work_16 : decode mm_Md_work.2.1 16 = .ok (.getfield 225, 3) := by decide +kernel
theorem d_Md_work_19 : decode mm_Md_work.2.1 19 = .ok (.ifCond .le 259, 3) := by decide +kernel
theorem d_Md_work_22 : decode mm_Md_work.2.1 22 = .ok (.aload_n 0, 1) := by decide +kernel
theorem d_Md_work_23 : decode mm_Md_work.2.1 23 = .ok (.getfield 231, 3) := by decide +kernel
theorem d_Md_work_26 : decode mm_Md_work.2.1 26 = .ok (.ifCond .ne 252, 3) := by decide +kernel
theorem d_Md_work_29 : decode mm_Md_work.2.1 29 = .ok (.bipush 40, 2) := by decide +kernel
theorem d_Md_work_31 : decode mm_Md_work.2.1 31 = .ok (.iload_n 1, 1) := by decide +kernel
theorem d_Md_work_32 : decode mm_Md_work.2.1 32 = .ok (.imul, 1) := by decide +kernel
theorem d_Md_work_33 : decode mm_Md_work.2.1 33 = .ok (.aload_n 0, 1) := by decide +kernel
theorem d_Md_work_34 : decode mm_Md_work.2.1 34 = .ok (.getfield 87, 3) := by decide +kernel
theorem d_Md_work_37 : decode mm_Md_work.2.1 37 = .ok (.aload_n 0, 1) := by decide +kernel
theorem d_Md_work_38 : decode mm_Md_work.2.1 38 = .ok (.getfield 225, 3) := by decide +kernel
theorem d_Md_work_41 : decode mm_Md_work.2.1 41 = .ok (.iconst 1, 1) := by decide +kernel
theorem d_Md_work_42 : decode mm_Md_work.2.1 42 = .ok (.isub, 1) := by decide +kernel
theorem d_Md_work_43 : decode mm_Md_work.2.1 43 = .ok (.iaload, 1) := by decide +kernel
theorem d_Md_work_44 : decode mm_Md_work.2.1 44 = .ok (.iadd, 1) := by decide +kernel
theorem d_Md_work_45 : decode mm_Md_work.2.1 45 = .ok (.istore_n 2, 1) := by decide +kernel
theorem d_Md_work_46 : decode mm_Md_work.2.1 46 = .ok (.aload_n 0, 1) := by decide +kernel
theorem d_Md_work_47 : decode mm_Md_work.2.1 47 = .ok (.getfield 90, 3) := by decide +kernel
theorem d_Md_work_50 : decode mm_Md_work.2.1 50 = .ok (.aload_n 0, 1) := by decide +kernel
theorem d_Md_work_51 : decode mm_Md_work.2.1 51 = .ok (.getfield 225, 3) := by decide +kernel
theorem d_Md_work_54 : decode mm_Md_work.2.1 54 = .ok (.iconst 1, 1) := by decide +kernel
theorem d_Md_work_55 : decode mm_Md_work.2.1 55 = .ok (.isub, 1) := by decide +kernel
theorem d_Md_work_56 : decode mm_Md_work.2.1 56 = .ok (.iaload, 1) := by decide +kernel
theorem d_Md_work_57 : decode mm_Md_work.2.1 57 = .ok (.istore_n 3, 1) := by decide +kernel
theorem d_Md_work_58 : decode mm_Md_work.2.1 58 = .ok (.aload_n 0, 1) := by decide +kernel
theorem d_Md_work_59 : decode mm_Md_work.2.1 59 = .ok (.getfield 90, 3) := by decide +kernel
theorem d_Md_work_62 : decode mm_Md_work.2.1 62 = .ok (.aload_n 0, 1) := by decide +kernel
theorem d_Md_work_63 : decode mm_Md_work.2.1 63 = .ok (.getfield 225, 3) := by decide +kernel
theorem d_Md_work_66 : decode mm_Md_work.2.1 66 = .ok (.iconst 1, 1) := by decide +kernel
theorem d_Md_work_67 : decode mm_Md_work.2.1 67 = .ok (.isub, 1) := by decide +kernel
theorem d_Md_work_68 : decode mm_Md_work.2.1 68 = .ok (.dup2, 1) := by decide +kernel
theorem d_Md_work_69 : decode mm_Md_work.2.1 69 = .ok (.iaload, 1) := by decide +kernel
theorem d_Md_work_70 : decode mm_Md_work.2.1 70 = .ok (.iconst 1, 1) := by decide +kernel
theorem d_Md_work_71 : decode mm_Md_work.2.1 71 = .ok (.iadd, 1) := by decide +kernel
theorem d_Md_work_72 : decode mm_Md_work.2.1 72 = .ok (.iastore, 1) := by decide +kernel
theorem d_Md_work_73 : decode mm_Md_work.2.1 73 = .ok (.aload_n 0, 1) := by decide +kernel
theorem d_Md_work_74 : decode mm_Md_work.2.1 74 = .ok (.getfield 36, 3) := by decide +kernel
theorem d_Md_work_77 : decode mm_Md_work.2.1 77 = .ok (.iload_n 2, 1) := by decide +kernel
theorem d_Md_work_78 : decode mm_Md_work.2.1 78 = .ok (.iaload, 1) := by decide +kernel
theorem d_Md_work_79 : decode mm_Md_work.2.1 79 = .ok (.iconst 1, 1) := by decide +kernel
theorem d_Md_work_80 : decode mm_Md_work.2.1 80 = .ok (.if_icmp .gt 21, 3) := by decide +kernel
theorem d_Md_work_83 : decode mm_Md_work.2.1 83 = .ok (.aload_n 0, 1) := by decide +kernel
theorem d_Md_work_84 : decode mm_Md_work.2.1 84 = .ok (.iload_n 2, 1) := by decide +kernel
theorem d_Md_work_85 : decode mm_Md_work.2.1 85 = .ok (.invokevirtual 234, 3) := by decide +kernel
theorem d_Md_work_88 : decode mm_Md_work.2.1 88 = .ok (.aload_n 0, 1) := by decide +kernel
theorem d_Md_work_89 : decode mm_Md_work.2.1 89 = .ok (.dup, 1) := by decide +kernel
theorem d_Md_work_90 : decode mm_Md_work.2.1 90 = .ok (.getfield 225, 3) := by decide +kernel
theorem d_Md_work_93 : decode mm_Md_work.2.1 93 = .ok (.iconst 1, 1) := by decide +kernel
theorem d_Md_work_94 : decode mm_Md_work.2.1 94 = .ok (.isub, 1) := by decide +kernel
theorem d_Md_work_95 : decode mm_Md_work.2.1 95 = .ok (.putfield 225, 3) := by decide +kernel
theorem d_Md_work_98 : decode mm_Md_work.2.1 98 = .ok (.goto 177, 3) := by decide +kernel
theorem d_Md_work_101 : decode mm_Md_work.2.1 101 = .ok (.iload_n 3, 1) := by decide +kernel
theorem d_Md_work_102 : decode mm_Md_work.2.1 102 = .ok (.ifCond .ne 16, 3) := by decide +kernel
theorem d_Md_work_105 : decode mm_Md_work.2.1 105 = .ok (.aload_n 0, 1) := by decide +kernel
theorem d_Md_work_106 : decode mm_Md_work.2.1 106 = .ok (.aload_n 0, 1) := by decide +kernel
theorem d_Md_work_107 : decode mm_Md_work.2.1 107 = .ok (.getfield 39, 3) := by decide +kernel
theorem d_Md_work_110 : decode mm_Md_work.2.1 110 = .ok (.iload_n 2, 1) := by decide +kernel
theorem d_Md_work_111 : decode mm_Md_work.2.1 111 = .ok (.iaload, 1) := by decide +kernel
theorem d_Md_work_112 : decode mm_Md_work.2.1 112 = .ok (.invokevirtual 228, 3) := by decide +kernel
theorem d_Md_work_115 : decode mm_Md_work.2.1 115 = .ok (.goto 160, 3) := by decide +kernel
theorem d_Md_work_118 : decode mm_Md_work.2.1 118 = .ok (.iload_n 3, 1) := by decide +kernel
theorem d_Md_work_119 : decode mm_Md_work.2.1 119 = .ok (.iconst 1, 1) := by decide +kernel
theorem d_Md_work_120 : decode mm_Md_work.2.1 120 = .ok (.if_icmp .ne 36, 3) := by decide +kernel
theorem d_Md_work_123 : decode mm_Md_work.2.1 123 = .ok (.aload_n 0, 1) := by decide +kernel
theorem d_Md_work_124 : decode mm_Md_work.2.1 124 = .ok (.getfield 36, 3) := by decide +kernel
theorem d_Md_work_127 : decode mm_Md_work.2.1 127 = .ok (.iload_n 2, 1) := by decide +kernel
theorem d_Md_work_128 : decode mm_Md_work.2.1 128 = .ok (.iaload, 1) := by decide +kernel
theorem d_Md_work_129 : decode mm_Md_work.2.1 129 = .ok (.bipush 6, 2) := by decide +kernel
theorem d_Md_work_131 : decode mm_Md_work.2.1 131 = .ok (.if_icmp .ne 25, 3) := by decide +kernel
theorem d_Md_work_134 : decode mm_Md_work.2.1 134 = .ok (.aload_n 0, 1) := by decide +kernel
theorem d_Md_work_135 : decode mm_Md_work.2.1 135 = .ok (.aload_n 0, 1) := by decide +kernel
theorem d_Md_work_136 : decode mm_Md_work.2.1 136 = .ok (.getfield 237, 3) := by decide +kernel
theorem d_Md_work_139 : decode mm_Md_work.2.1 139 = .ok (.lneg, 1) := by decide +kernel
theorem d_Md_work_140 : decode mm_Md_work.2.1 140 = .ok (.putfield 237, 3) := by decide +kernel
theorem d_Md_work_143 : decode mm_Md_work.2.1 143 = .ok (.aload_n 0, 1) := by decide +kernel
theorem d_Md_work_144 : decode mm_Md_work.2.1 144 = .ok (.dup, 1) := by decide +kernel
theorem d_Md_work_145 : decode mm_Md_work.2.1 145 = .ok (.getfield 225, 3) := by decide +kernel
theorem d_Md_work_148 : decode mm_Md_work.2.1 148 = .ok (.iconst 1, 1) := by decide +kernel
theorem d_Md_work_149 : decode mm_Md_work.2.1 149 = .ok (.isub, 1) := by decide +kernel
theorem d_Md_work_150 : decode mm_Md_work.2.1 150 = .ok (.putfield 225, 3) := by decide +kernel
theorem d_Md_work_153 : decode mm_Md_work.2.1 153 = .ok (.goto 122, 3) := by decide +kernel
theorem d_Md_work_156 : decode mm_Md_work.2.1 156 = .ok (.iload_n 3, 1) := by decide +kernel
theorem d_Md_work_157 : decode mm_Md_work.2.1 157 = .ok (.iconst 1, 1) := by decide +kernel
theorem d_Md_work_158 : decode mm_Md_work.2.1 158 = .ok (.if_icmp .ne 60, 3) := by decide +kernel
theorem d_Md_work_161 : decode mm_Md_work.2.1 161 = .ok (.aload_n 0, 1) := by decide +kernel
theorem d_Md_work_162 : decode mm_Md_work.2.1 162 = .ok (.getfield 93, 3) := by decide +kernel
theorem d_Md_work_165 : decode mm_Md_work.2.1 165 = .ok (.aload_n 0, 1) := by decide +kernel
theorem d_Md_work_166 : decode mm_Md_work.2.1 166 = .ok (.getfield 225, 3) := by decide +kernel
theorem d_Md_work_169 : decode mm_Md_work.2.1 169 = .ok (.iconst 1, 1) := by decide +kernel
theorem d_Md_work_170 : decode mm_Md_work.2.1 170 = .ok (.isub, 1) := by decide +kernel
theorem d_Md_work_171 : decode mm_Md_work.2.1 171 = .ok (.aload_n 0, 1) := by decide +kernel
theorem d_Md_work_172 : decode mm_Md_work.2.1 172 = .ok (.getfield 237, 3) := by decide +kernel
theorem d_Md_work_175 : decode mm_Md_work.2.1 175 = .ok (.lastore, 1) := by decide +kernel
theorem d_Md_work_176 : decode mm_Md_work.2.1 176 = .ok (.aload_n 0, 1) := by decide +kernel
theorem d_Md_work_177 : decode mm_Md_work.2.1 177 = .ok (.aload_n 0, 1) := by decide +kernel
theorem d_Md_work_178 : decode mm_Md_work.2.1 178 = .ok (.getfield 36, 3) := by decide +kernel
theorem d_Md_work_181 : decode mm_Md_work.2.1 181 = .ok (.iload_n 2, 1) := by decide +kernel
theorem d_Md_work_182 : decode mm_Md_work.2.1 182 = .ok (.iaload, 1) := by decide +kernel
theorem d_Md_work_183 : decode mm_Md_work.2.1 183 = .ok (.bipush 9, 2) := by decide +kernel
theorem d_Md_work_185 : decode mm_Md_work.2.1 185 = .ok (.if_icmp .ne 21, 3) := by decide +kernel
theorem d_Md_work_188 : decode mm_Md_work.2.1 188 = .ok (.aload_n 0, 1) := by decide +kernel
theorem d_Md_work_189 : decode mm_Md_work.2.1 189 = .ok (.getfield 237, 3) := by decide +kernel
theorem d_Md_work_192 : decode mm_Md_work.2.1 192 = .ok (.lconst 0, 1) := by decide +kernel
theorem d_Md_work_193 : decode mm_Md_work.2.1 193 = .ok (.lcmp, 1) := by decide +kernel
theorem d_Md_work_194 : decode mm_Md_work.2.1 194 = .ok (.ifCond .gt 12, 3) := by decide +kernel
theorem d_Md_work_197 : decode mm_Md_work.2.1 197 = .ok (.aload_n 0, 1) := by decide +kernel
theorem d_Md_work_198 : decode mm_Md_work.2.1 198 = .ok (.getfield 45, 3) := by decide +kernel
theorem d_Md_work_201 : decode mm_Md_work.2.1 201 = .ok (.iload_n 2, 1) := by decide +kernel
theorem d_Md_work_202 : decode mm_Md_work.2.1 202 = .ok (.iaload, 1) := by decide +kernel
theorem d_Md_work_203 : decode mm_Md_work.2.1 203 = .ok (.goto 9, 3) := by decide +kernel
theorem d_Md_work_206 : decode mm_Md_work.2.1 206 = .ok (.aload_n 0, 1) := by decide +kernel
theorem d_Md_work_207 : decode mm_Md_work.2.1 207 = .ok (.getfield 42, 3) := by decide +kernel
theorem d_Md_work_210 : decode mm_Md_work.2.1 210 = .ok (.iload_n 2, 1) := by decide +kernel
theorem d_Md_work_211 : decode mm_Md_work.2.1 211 = .ok (.iaload, 1) := by decide +kernel
theorem d_Md_work_212 : decode mm_Md_work.2.1 212 = .ok (.invokevirtual 228, 3) := by decide +kernel
theorem d_Md_work_215 : decode mm_Md_work.2.1 215 = .ok (.goto 60, 3) := by decide +kernel
theorem d_Md_work_218 : decode mm_Md_work.2.1 218 = .ok (.aload_n 0, 1) := by decide +kernel
theorem d_Md_work_219 : decode mm_Md_work.2.1 219 = .ok (.aload_n 0, 1) := by decide +kernel
theorem d_Md_work_220 : decode mm_Md_work.2.1 220 = .ok (.getfield 36, 3) := by decide +kernel
theorem d_Md_work_223 : decode mm_Md_work.2.1 223 = .ok (.iload_n 2, 1) := by decide +kernel
theorem d_Md_work_224 : decode mm_Md_work.2.1 224 = .ok (.iaload, 1) := by decide +kernel
theorem d_Md_work_225 : decode mm_Md_work.2.1 225 = .ok (.bipush 9, 2) := by decide +kernel
theorem d_Md_work_227 : decode mm_Md_work.2.1 227 = .ok (.if_icmp .ne 10, 3) := by decide +kernel
theorem d_Md_work_230 : decode mm_Md_work.2.1 230 = .ok (.aload_n 0, 1) := by decide +kernel
theorem d_Md_work_231 : decode mm_Md_work.2.1 231 = .ok (.getfield 237, 3) := by decide +kernel
theorem d_Md_work_234 : decode mm_Md_work.2.1 234 = .ok (.goto 28, 3) := by decide +kernel
theorem d_Md_work_237 : decode mm_Md_work.2.1 237 = .ok (.aload_n 0, 1) := by decide +kernel
theorem d_Md_work_238 : decode mm_Md_work.2.1 238 = .ok (.aload_n 0, 1) := by decide +kernel
theorem d_Md_work_239 : decode mm_Md_work.2.1 239 = .ok (.getfield 36, 3) := by decide +kernel
theorem d_Md_work_242 : decode mm_Md_work.2.1 242 = .ok (.iload_n 2, 1) := by decide +kernel
theorem d_Md_work_243 : decode mm_Md_work.2.1 243 = .ok (.iaload, 1) := by decide +kernel
theorem d_Md_work_244 : decode mm_Md_work.2.1 244 = .ok (.aload_n 0, 1) := by decide +kernel
theorem d_Md_work_245 : decode mm_Md_work.2.1 245 = .ok (.getfield 93, 3) := by decide +kernel
theorem d_Md_work_248 : decode mm_Md_work.2.1 248 = .ok (.aload_n 0, 1) := by decide +kernel
theorem d_Md_work_249 : decode mm_Md_work.2.1 249 = .ok (.getfield 225, 3) := by decide +kernel
theorem d_Md_work_252 : decode mm_Md_work.2.1 252 = .ok (.iconst 1, 1) := by decide +kernel
theorem d_Md_work_253 : decode mm_Md_work.2.1 253 = .ok (.isub, 1) := by decide +kernel
theorem d_Md_work_254 : decode mm_Md_work.2.1 254 = .ok (.laload, 1) := by decide +kernel
theorem d_Md_work_255 : decode mm_Md_work.2.1 255 = .ok (.aload_n 0, 1) := by decide +kernel
theorem d_Md_work_256 : decode mm_Md_work.2.1 256 = .ok (.getfield 237, 3) := by decide +kernel
theorem d_Md_work_259 : decode mm_Md_work.2.1 259 = .ok (.invokevirtual 240, 3) := by decide +kernel
theorem d_Md_work_262 : decode mm_Md_work.2.1 262 = .ok (.putfield 237, 3) := by decide +kernel
theorem d_Md_work_265 : decode mm_Md_work.2.1 265 = .ok (.aload_n 0, 1) := by decide +kernel
theorem d_Md_work_266 : decode mm_Md_work.2.1 266 = .ok (.dup, 1) := by decide +kernel
theorem d_Md_work_267 : decode mm_Md_work.2.1 267 = .ok (.getfield 225, 3) := by decide +kernel
theorem d_Md_work_270 : decode mm_Md_work.2.1 270 = .ok (.iconst 1, 1) := by decide +kernel
theorem d_Md_work_271 : decode mm_Md_work.2.1 271 = .ok (.isub, 1) := by decide +kernel
theorem d_Md_work_272 : decode mm_Md_work.2.1 272 = .ok (.putfield 225, 3) := by decide +kernel
theorem d_Md_work_275 : decode mm_Md_work.2.1 275 = .ok (.goto (-260), 3) := by decide +kernel
theorem d_Md_work_278 : decode mm_Md_work.2.1 278 = .ok (.aload_n 0, 1) := by decide +kernel
theorem d_Md_work_279 : decode mm_Md_work.2.1 279 = .ok (.getfield 231, 3) := by decide +kernel
theorem d_Md_work_282 : decode mm_Md_work.2.1 282 = .ok (.ifCond .le 7, 3) := by decide +kernel
theorem d_Md_work_285 : decode mm_Md_work.2.1 285 = .ok (.lconst 0, 1) := by decide +kernel
theorem d_Md_work_286 : decode mm_Md_work.2.1 286 = .ok (.goto 7, 3) := by decide +kernel
theorem d_Md_work_289 : decode mm_Md_work.2.1 289 = .ok (.aload_n 0, 1) := by decide +kernel
theorem d_Md_work_290 : decode mm_Md_work.2.1 290 = .ok (.getfield 237, 3) := by decide +kernel
theorem d_Md_work_293 : decode mm_Md_work.2.1 293 = .ok (.lreturn, 1) := by decide +kernel
theorem d_Md_push_0 : decode mm_Md_push.2.1 0 = .ok (.aload_n 0, 1) := by decide +kernel
theorem d_Md_push_1 : decode mm_Md_push.2.1 1 = .ok (.getfield 87, 3) := by decide +kernel
theorem d_Md_push_4 : decode mm_Md_push.2.1 4 = .ok (.aload_n 0, 1) := by decide +kernel
theorem d_Md_push_5 : decode mm_Md_push.2.1 5 = .ok (.getfield 225, 3) := by decide +kernel
theorem d_Md_push_8 : decode mm_Md_push.2.1 8 = .ok (.iload_n 1, 1) := by decide +kernel
theorem d_Md_push_9 : decode mm_Md_push.2.1 9 = .ok (.iastore, 1) := by decide +kernel
theorem d_Md_push_10 : decode mm_Md_push.2.1 10 = .ok (.aload_n 0, 1) := by decide +kernel
theorem d_Md_push_11 : decode mm_Md_push.2.1 11 = .ok (.getfield 90, 3) := by decide +kernel
theorem d_Md_push_14 : decode mm_Md_push.2.1 14 = .ok (.aload_n 0, 1) := by decide +kernel
theorem d_Md_push_15 : decode mm_Md_push.2.1 15 = .ok (.getfield 225, 3) := by decide +kernel
theorem d_Md_push_18 : decode mm_Md_push.2.1 18 = .ok (.iconst 0, 1) := by decide +kernel
theorem d_Md_push_19 : decode mm_Md_push.2.1 19 = .ok (.iastore, 1) := by decide +kernel
theorem d_Md_push_20 : decode mm_Md_push.2.1 20 = .ok (.aload_n 0, 1) := by decide +kernel
theorem d_Md_push_21 : decode mm_Md_push.2.1 21 = .ok (.dup, 1) := by decide +kernel
theorem d_Md_push_22 : decode mm_Md_push.2.1 22 = .ok (.getfield 225, 3) := by decide +kernel
theorem d_Md_push_25 : decode mm_Md_push.2.1 25 = .ok (.iconst 1, 1) := by decide +kernel
theorem d_Md_push_26 : decode mm_Md_push.2.1 26 = .ok (.iadd, 1) := by decide +kernel
theorem d_Md_push_27 : decode mm_Md_push.2.1 27 = .ok (.putfield 225, 3) := by decide +kernel
theorem d_Md_push_30 : decode mm_Md_push.2.1 30 = .ok (.return_, 1) := by decide +kernel
theorem d_Md_leaf_0 : decode mm_Md_leaf.2.1 0 = .ok (.aload_n 0, 1) := by decide +kernel
theorem d_Md_leaf_1 : decode mm_Md_leaf.2.1 1 = .ok (.getfield 36, 3) := by decide +kernel
theorem d_Md_leaf_4 : decode mm_Md_leaf.2.1 4 = .ok (.iload_n 1, 1) := by decide +kernel
theorem d_Md_leaf_5 : decode mm_Md_leaf.2.1 5 = .ok (.iaload, 1) := by decide +kernel
theorem d_Md_leaf_6 : decode mm_Md_leaf.2.1 6 = .ok (.ifCond .ne 14, 3) := by decide +kernel
theorem d_Md_leaf_9 : decode mm_Md_leaf.2.1 9 = .ok (.aload_n 0, 1) := by decide +kernel
theorem d_Md_leaf_10 : decode mm_Md_leaf.2.1 10 = .ok (.aload_n 0, 1) := by decide +kernel
theorem d_Md_leaf_11 : decode mm_Md_leaf.2.1 11 = .ok (.getfield 48, 3) := by decide +kernel
theorem d_Md_leaf_14 : decode mm_Md_leaf.2.1 14 = .ok (.iload_n 1, 1) := by decide +kernel
theorem d_Md_leaf_15 : decode mm_Md_leaf.2.1 15 = .ok (.laload, 1) := by decide +kernel
theorem d_Md_leaf_16 : decode mm_Md_leaf.2.1 16 = .ok (.putfield 237, 3) := by decide +kernel
theorem d_Md_leaf_19 : decode mm_Md_leaf.2.1 19 = .ok (.return_, 1) := by decide +kernel
theorem d_Md_leaf_20 : decode mm_Md_leaf.2.1 20 = .ok (.aload_n 0, 1) := by decide +kernel
theorem d_Md_leaf_21 : decode mm_Md_leaf.2.1 21 = .ok (.aload_n 0, 1) := by decide +kernel
theorem d_Md_leaf_22 : decode mm_Md_leaf.2.1 22 = .ok (.aload_n 0, 1) := by decide +kernel
theorem d_Md_leaf_23 : decode mm_Md_leaf.2.1 23 = .ok (.getfield 48, 3) := by decide +kernel
theorem d_Md_leaf_26 : decode mm_Md_leaf.2.1 26 = .ok (.iload_n 1, 1) := by decide +kernel
theorem d_Md_leaf_27 : decode mm_Md_leaf.2.1 27 = .ok (.laload, 1) := by decide +kernel
theorem d_Md_leaf_28 : decode mm_Md_leaf.2.1 28 = .ok (.invokevirtual 244, 3) := by decide +kernel
theorem d_Md_leaf_31 : decode mm_Md_leaf.2.1 31 = .ok (.iconst 1, 1) := by decide +kernel
theorem d_Md_leaf_32 : decode mm_Md_leaf.2.1 32 = .ok (.if_icmp .ne 7, 3) := by decide +kernel
theorem d_Md_leaf_35 : decode mm_Md_leaf.2.1 35 = .ok (.iconst 0, 1) := by decide +kernel
theorem d_Md_leaf_36 : decode mm_Md_leaf.2.1 36 = .ok (.goto 4, 3) := by decide +kernel
theorem d_Md_leaf_39 : decode mm_Md_leaf.2.1 39 = .ok (.iconst 3, 1) := by decide +kernel
theorem d_Md_leaf_40 : decode mm_Md_leaf.2.1 40 = .ok (.putfield 231, 3) := by decide +kernel
theorem d_Md_leaf_43 : decode mm_Md_leaf.2.1 43 = .ok (.aload_n 0, 1) := by decide +kernel
theorem d_Md_leaf_44 : decode mm_Md_leaf.2.1 44 = .ok (.aload_n 0, 1) := by decide +kernel
theorem d_Md_leaf_45 : decode mm_Md_leaf.2.1 45 = .ok (.aload_n 0, 1) := by decide +kernel
theorem d_Md_leaf_46 : decode mm_Md_leaf.2.1 46 = .ok (.getfield 48, 3) := by decide +kernel
theorem d_Md_leaf_49 : decode mm_Md_leaf.2.1 49 = .ok (.iload_n 1, 1) := by decide +kernel
theorem d_Md_leaf_50 : decode mm_Md_leaf.2.1 50 = .ok (.laload, 1) := by decide +kernel
theorem d_Md_leaf_51 : decode mm_Md_leaf.2.1 51 = .ok (.invokevirtual 247, 3) := by decide +kernel
theorem d_Md_leaf_54 : decode mm_Md_leaf.2.1 54 = .ok (.putfield 237, 3) := by decide +kernel
theorem d_Md_leaf_57 : decode mm_Md_leaf.2.1 57 = .ok (.return_, 1) := by decide +kernel
theorem d_Md_both_0 : decode mm_Md_both.2.1 0 = .ok (.iload_n 1, 1) := by decide +kernel
theorem d_Md_both_1 : decode mm_Md_both.2.1 1 = .ok (.iconst 5, 1) := by decide +kernel
theorem d_Md_both_2 : decode mm_Md_both.2.1 2 = .ok (.if_icmp .ne 17, 3) := by decide +kernel
theorem d_Md_both_5 : decode mm_Md_both.2.1 5 = .ok (.lload 4, 2) := by decide +kernel
theorem d_Md_both_7 : decode mm_Md_both.2.1 7 = .ok (.lconst 0, 1) := by decide +kernel
theorem d_Md_both_8 : decode mm_Md_both.2.1 8 = .ok (.lcmp, 1) := by decide +kernel
theorem d_Md_both_9 : decode mm_Md_both.2.1 9 = .ok (.ifCond .ne 10, 3) := by decide +kernel
theorem d_Md_both_12 : decode mm_Md_both.2.1 12 = .ok (.aload_n 0, 1) := by decide +kernel
theorem d_Md_both_13 : decode mm_Md_both.2.1 13 = .ok (.iconst 2, 1) := by decide +kernel
theorem d_Md_both_14 : decode mm_Md_both.2.1 14 = .ok (.putfield 231, 3) := by decide +kernel
theorem d_Md_both_17 : decode mm_Md_both.2.1 17 = .ok (.lconst 0, 1) := by decide +kernel
theorem d_Md_both_18 : decode mm_Md_both.2.1 18 = .ok (.lreturn, 1) := by decide +kernel
theorem d_Md_both_19 : decode mm_Md_both.2.1 19 = .ok (.iload_n 1, 1) := by decide +kernel
theorem d_Md_both_20 : decode mm_Md_both.2.1 20 = .ok (.tableswitch 74 2 7 #[40, 45, 50, 55, 74, 60], 40) := by decide +kernel
theorem d_Md_both_60 : decode mm_Md_both.2.1 60 = .ok (.lload_n 2, 1) := by decide +kernel
theorem d_Md_both_61 : decode mm_Md_both.2.1 61 = .ok (.lload 4, 2) := by decide +kernel
theorem d_Md_both_63 : decode mm_Md_both.2.1 63 = .ok (.ladd, 1) := by decide +kernel
theorem d_Md_both_64 : decode mm_Md_both.2.1 64 = .ok (.lreturn, 1) := by decide +kernel
theorem d_Md_both_65 : decode mm_Md_both.2.1 65 = .ok (.lload_n 2, 1) := by decide +kernel
theorem d_Md_both_66 : decode mm_Md_both.2.1 66 = .ok (.lload 4, 2) := by decide +kernel
theorem d_Md_both_68 : decode mm_Md_both.2.1 68 = .ok (.lsub, 1) := by decide +kernel
theorem d_Md_both_69 : decode mm_Md_both.2.1 69 = .ok (.lreturn, 1) := by decide +kernel
theorem d_Md_both_70 : decode mm_Md_both.2.1 70 = .ok (.lload_n 2, 1) := by decide +kernel
theorem d_Md_both_71 : decode mm_Md_both.2.1 71 = .ok (.lload 4, 2) := by decide +kernel
theorem d_Md_both_73 : decode mm_Md_both.2.1 73 = .ok (.lmul, 1) := by decide +kernel
theorem d_Md_both_74 : decode mm_Md_both.2.1 74 = .ok (.lreturn, 1) := by decide +kernel
theorem d_Md_both_75 : decode mm_Md_both.2.1 75 = .ok (.lload_n 2, 1) := by decide +kernel
theorem d_Md_both_76 : decode mm_Md_both.2.1 76 = .ok (.lload 4, 2) := by decide +kernel
theorem d_Md_both_78 : decode mm_Md_both.2.1 78 = .ok (.ldiv, 1) := by decide +kernel
theorem d_Md_both_79 : decode mm_Md_both.2.1 79 = .ok (.lreturn, 1) := by decide +kernel
theorem d_Md_both_80 : decode mm_Md_both.2.1 80 = .ok (.lload_n 2, 1) := by decide +kernel
theorem d_Md_both_81 : decode mm_Md_both.2.1 81 = .ok (.lload 4, 2) := by decide +kernel
theorem d_Md_both_83 : decode mm_Md_both.2.1 83 = .ok (.lcmp, 1) := by decide +kernel
theorem d_Md_both_84 : decode mm_Md_both.2.1 84 = .ok (.ifCond .ge 7, 3) := by decide +kernel
theorem d_Md_both_87 : decode mm_Md_both.2.1 87 = .ok (.lload_n 2, 1) := by decide +kernel
theorem d_Md_both_88 : decode mm_Md_both.2.1 88 = .ok (.goto 5, 3) := by decide +kernel
theorem d_Md_both_91 : decode mm_Md_both.2.1 91 = .ok (.lload 4, 2) := by decide +kernel
theorem d_Md_both_93 : decode mm_Md_both.2.1 93 = .ok (.lreturn, 1) := by decide +kernel
theorem d_Md_both_94 : decode mm_Md_both.2.1 94 = .ok (.lload_n 2, 1) := by decide +kernel
theorem d_Md_both_95 : decode mm_Md_both.2.1 95 = .ok (.lload 4, 2) := by decide +kernel
theorem d_Md_both_97 : decode mm_Md_both.2.1 97 = .ok (.lcmp, 1) := by decide +kernel
theorem d_Md_both_98 : decode mm_Md_both.2.1 98 = .ok (.ifCond .le 7, 3) := by decide +kernel
theorem d_Md_both_101 : decode mm_Md_both.2.1 101 = .ok (.lload_n 2, 1) := by decide +kernel
theorem d_Md_both_102 : decode mm_Md_both.2.1 102 = .ok (.goto 5, 3) := by decide +kernel
theorem d_Md_both_105 : decode mm_Md_both.2.1 105 = .ok (.lload 4, 2) := by decide +kernel
theorem d_Md_both_107 : decode mm_Md_both.2.1 107 = .ok (.lreturn, 1) := by decide +kernel
theorem d_Md_buildAll_0 : decode mm_Md_buildAll.2.1 0 = .ok (.aload_n 0, 1) := by decide +kernel
theorem d_Md_buildAll_1 : decode mm_Md_buildAll.2.1 1 = .ok (.iconst 0, 1) := by decide +kernel
theorem d_Md_buildAll_2 : decode mm_Md_buildAll.2.1 2 = .ok (.putfield 96, 3) := by decide +kernel
theorem d_Md_buildAll_5 : decode mm_Md_buildAll.2.1 5 = .ok (.lconst 0, 1) := by decide +kernel
theorem d_Md_buildAll_6 : decode mm_Md_buildAll.2.1 6 = .ok (.lstore_n 1, 1) := by decide +kernel
theorem d_Md_buildAll_7 : decode mm_Md_buildAll.2.1 7 = .ok (.iconst 0, 1) := by decide +kernel
theorem d_Md_buildAll_8 : decode mm_Md_buildAll.2.1 8 = .ok (.istore_n 3, 1) := by decide +kernel
theorem d_Md_buildAll_9 : decode mm_Md_buildAll.2.1 9 = .ok (.iload_n 3, 1) := by decide +kernel
theorem d_Md_buildAll_10 : decode mm_Md_buildAll.2.1 10 = .ok (.bipush 64, 2) := by decide +kernel
theorem d_Md_buildAll_12 : decode mm_Md_buildAll.2.1 12 = .ok (.if_icmp .ge 28, 3) := by decide +kernel
theorem d_Md_buildAll_15 : decode mm_Md_buildAll.2.1 15 = .ok (.aload_n 0, 1) := by decide +kernel
theorem d_Md_buildAll_16 : decode mm_Md_buildAll.2.1 16 = .ok (.getfield 13, 3) := by decide +kernel
theorem d_Md_buildAll_19 : decode mm_Md_buildAll.2.1 19 = .ok (.iload_n 3, 1) := by decide +kernel
theorem d_Md_buildAll_20 : decode mm_Md_buildAll.2.1 20 = .ok (.baload, 1) := by decide +kernel
theorem d_Md_buildAll_21 : decode mm_Md_buildAll.2.1 21 = .ok (.ifCond .eq 11, 3) := by decide +kernel
theorem d_Md_buildAll_24 : decode mm_Md_buildAll.2.1 24 = .ok (.lload_n 1, 1) := by decide +kernel
theorem d_Md_buildAll_25 : decode mm_Md_buildAll.2.1 25 = .ok (.lconst 1, 1) := by decide +kernel
theorem d_Md_buildAll_26 : decode mm_Md_buildAll.2.1 26 = .ok (.iload_n 3, 1) := by decide +kernel
theorem d_Md_buildAll_27 : decode mm_Md_buildAll.2.1 27 = .ok (.lshl, 1) := by decide +kernel
theorem d_Md_buildAll_28 : decode mm_Md_buildAll.2.1 28 = .ok (.lor, 1) := by decide +kernel
theorem d_Md_buildAll_29 : decode mm_Md_buildAll.2.1 29 = .ok (.goto 4, 3) := by decide +kernel
theorem d_Md_buildAll_32 : decode mm_Md_buildAll.2.1 32 = .ok (.lload_n 1, 1) := by decide +kernel
theorem d_Md_buildAll_33 : decode mm_Md_buildAll.2.1 33 = .ok (.lstore_n 1, 1) := by decide +kernel
theorem d_Md_buildAll_34 : decode mm_Md_buildAll.2.1 34 = .ok (.iinc 3 1, 3) := by decide +kernel
theorem d_Md_buildAll_37 : decode mm_Md_buildAll.2.1 37 = .ok (.goto (-28), 3) := by decide +kernel
theorem d_Md_buildAll_40 : decode mm_Md_buildAll.2.1 40 = .ok (.aload_n 0, 1) := by decide +kernel
theorem d_Md_buildAll_41 : decode mm_Md_buildAll.2.1 41 = .ok (.lload_n 1, 1) := by decide +kernel
theorem d_Md_buildAll_42 : decode mm_Md_buildAll.2.1 42 = .ok (.invokevirtual 275, 3) := by decide +kernel
theorem d_Md_buildAll_45 : decode mm_Md_buildAll.2.1 45 = .ok (.ireturn, 1) := by decide +kernel
theorem d_Md_fault_0 : decode mm_Md_fault.2.1 0 = .ok (.aload_n 0, 1) := by decide +kernel
theorem d_Md_fault_1 : decode mm_Md_fault.2.1 1 = .ok (.iconst 0, 1) := by decide +kernel
theorem d_Md_fault_2 : decode mm_Md_fault.2.1 2 = .ok (.putfield 96, 3) := by decide +kernel
theorem d_Md_fault_5 : decode mm_Md_fault.2.1 5 = .ok (.aload_n 0, 1) := by decide +kernel
theorem d_Md_fault_6 : decode mm_Md_fault.2.1 6 = .ok (.getfield 144, 3) := by decide +kernel
theorem d_Md_fault_9 : decode mm_Md_fault.2.1 9 = .ok (.ireturn, 1) := by decide +kernel
theorem d_Md_value_0 : decode mm_Md_value.2.1 0 = .ok (.aload_n 0, 1) := by decide +kernel
theorem d_Md_value_1 : decode mm_Md_value.2.1 1 = .ok (.aload_n 0, 1) := by decide +kernel
theorem d_Md_value_2 : decode mm_Md_value.2.1 2 = .ok (.invokevirtual 269, 3) := by decide +kernel
theorem d_Md_value_5 : decode mm_Md_value.2.1 5 = .ok (.ifCond .eq 7, 3) := by decide +kernel
theorem d_Md_value_8 : decode mm_Md_value.2.1 8 = .ok (.iconst 0, 1) := by decide +kernel
theorem d_Md_value_9 : decode mm_Md_value.2.1 9 = .ok (.goto 4, 3) := by decide +kernel
theorem d_Md_value_12 : decode mm_Md_value.2.1 12 = .ok (.iconst 1, 1) := by decide +kernel
theorem d_Md_value_13 : decode mm_Md_value.2.1 13 = .ok (.putfield 96, 3) := by decide +kernel
theorem d_Md_value_16 : decode mm_Md_value.2.1 16 = .ok (.aload_n 0, 1) := by decide +kernel
theorem d_Md_value_17 : decode mm_Md_value.2.1 17 = .ok (.getfield 96, 3) := by decide +kernel
theorem d_Md_value_20 : decode mm_Md_value.2.1 20 = .ok (.ifCond .le 7, 3) := by decide +kernel
theorem d_Md_value_23 : decode mm_Md_value.2.1 23 = .ok (.lconst 0, 1) := by decide +kernel
theorem d_Md_value_24 : decode mm_Md_value.2.1 24 = .ok (.goto 11, 3) := by decide +kernel
theorem d_Md_value_27 : decode mm_Md_value.2.1 27 = .ok (.aload_n 0, 1) := by decide +kernel
theorem d_Md_value_28 : decode mm_Md_value.2.1 28 = .ok (.aload_n 0, 1) := by decide +kernel
theorem d_Md_value_29 : decode mm_Md_value.2.1 29 = .ok (.getfield 123, 3) := by decide +kernel
theorem d_Md_value_32 : decode mm_Md_value.2.1 32 = .ok (.invokevirtual 247, 3) := by decide +kernel
theorem d_Md_value_35 : decode mm_Md_value.2.1 35 = .ok (.lreturn, 1) := by decide +kernel
theorem d_Md_state_0 : decode mm_Md_state.2.1 0 = .ok (.aload_n 0, 1) := by decide +kernel
theorem d_Md_state_1 : decode mm_Md_state.2.1 1 = .ok (.aload_n 0, 1) := by decide +kernel
theorem d_Md_state_2 : decode mm_Md_state.2.1 2 = .ok (.invokevirtual 269, 3) := by decide +kernel
theorem d_Md_state_5 : decode mm_Md_state.2.1 5 = .ok (.ifCond .eq 7, 3) := by decide +kernel
theorem d_Md_state_8 : decode mm_Md_state.2.1 8 = .ok (.iconst 0, 1) := by decide +kernel
theorem d_Md_state_9 : decode mm_Md_state.2.1 9 = .ok (.goto 4, 3) := by decide +kernel
theorem d_Md_state_12 : decode mm_Md_state.2.1 12 = .ok (.iconst 1, 1) := by decide +kernel
theorem d_Md_state_13 : decode mm_Md_state.2.1 13 = .ok (.putfield 96, 3) := by decide +kernel
theorem d_Md_state_16 : decode mm_Md_state.2.1 16 = .ok (.aload_n 0, 1) := by decide +kernel
theorem d_Md_state_17 : decode mm_Md_state.2.1 17 = .ok (.getfield 96, 3) := by decide +kernel
theorem d_Md_state_20 : decode mm_Md_state.2.1 20 = .ok (.ifCond .le 5, 3) := by decide +kernel
theorem d_Md_state_23 : decode mm_Md_state.2.1 23 = .ok (.iconst 0, 1) := by decide +kernel
theorem d_Md_state_24 : decode mm_Md_state.2.1 24 = .ok (.ireturn, 1) := by decide +kernel
theorem d_Md_state_25 : decode mm_Md_state.2.1 25 = .ok (.aload_n 0, 1) := by decide +kernel
theorem d_Md_state_26 : decode mm_Md_state.2.1 26 = .ok (.aload_n 0, 1) := by decide +kernel
theorem d_Md_state_27 : decode mm_Md_state.2.1 27 = .ok (.getfield 123, 3) := by decide +kernel
theorem d_Md_state_30 : decode mm_Md_state.2.1 30 = .ok (.invokevirtual 214, 3) := by decide +kernel
theorem d_Md_state_33 : decode mm_Md_state.2.1 33 = .ok (.istore_n 1, 1) := by decide +kernel
theorem d_Md_state_34 : decode mm_Md_state.2.1 34 = .ok (.iload_n 1, 1) := by decide +kernel
theorem d_Md_state_35 : decode mm_Md_state.2.1 35 = .ok (.ifCond .ge 7, 3) := by decide +kernel
theorem d_Md_state_38 : decode mm_Md_state.2.1 38 = .ok (.iconst (-1), 1) := by decide +kernel
theorem d_Md_state_39 : decode mm_Md_state.2.1 39 = .ok (.goto 23, 3) := by decide +kernel
theorem d_Md_state_42 : decode mm_Md_state.2.1 42 = .ok (.aload_n 0, 1) := by decide +kernel
theorem d_Md_state_43 : decode mm_Md_state.2.1 43 = .ok (.getfield 21, 3) := by decide +kernel
theorem d_Md_state_46 : decode mm_Md_state.2.1 46 = .ok (.iload_n 1, 1) := by decide +kernel
theorem d_Md_state_47 : decode mm_Md_state.2.1 47 = .ok (.iaload, 1) := by decide +kernel
theorem d_Md_state_48 : decode mm_Md_state.2.1 48 = .ok (.aload_n 0, 1) := by decide +kernel
theorem d_Md_state_49 : decode mm_Md_state.2.1 49 = .ok (.iload_n 1, 1) := by decide +kernel
theorem d_Md_state_50 : decode mm_Md_state.2.1 50 = .ok (.invokevirtual 263, 3) := by decide +kernel
theorem d_Md_state_53 : decode mm_Md_state.2.1 53 = .ok (.ifCond .eq 7, 3) := by decide +kernel
theorem d_Md_state_56 : decode mm_Md_state.2.1 56 = .ok (.iconst 4, 1) := by decide +kernel
theorem d_Md_state_57 : decode mm_Md_state.2.1 57 = .ok (.goto 4, 3) := by decide +kernel
theorem d_Md_state_60 : decode mm_Md_state.2.1 60 = .ok (.iconst 0, 1) := by decide +kernel
theorem d_Md_state_61 : decode mm_Md_state.2.1 61 = .ok (.iadd, 1) := by decide +kernel
theorem d_Md_state_62 : decode mm_Md_state.2.1 62 = .ok (.ireturn, 1) := by decide +kernel
theorem d_Md_readers_0 : decode mm_Md_readers.2.1 0 = .ok (.aload_n 0, 1) := by decide +kernel
theorem d_Md_readers_1 : decode mm_Md_readers.2.1 1 = .ok (.aload_n 0, 1) := by decide +kernel
theorem d_Md_readers_2 : decode mm_Md_readers.2.1 2 = .ok (.invokevirtual 269, 3) := by decide +kernel
theorem d_Md_readers_5 : decode mm_Md_readers.2.1 5 = .ok (.ifCond .eq 7, 3) := by decide +kernel
theorem d_Md_readers_8 : decode mm_Md_readers.2.1 8 = .ok (.iconst 0, 1) := by decide +kernel
theorem d_Md_readers_9 : decode mm_Md_readers.2.1 9 = .ok (.goto 4, 3) := by decide +kernel
theorem d_Md_readers_12 : decode mm_Md_readers.2.1 12 = .ok (.iconst 1, 1) := by decide +kernel
theorem d_Md_readers_13 : decode mm_Md_readers.2.1 13 = .ok (.putfield 96, 3) := by decide +kernel
theorem d_Md_readers_16 : decode mm_Md_readers.2.1 16 = .ok (.aload_n 0, 1) := by decide +kernel
theorem d_Md_readers_17 : decode mm_Md_readers.2.1 17 = .ok (.getfield 96, 3) := by decide +kernel
theorem d_Md_readers_20 : decode mm_Md_readers.2.1 20 = .ok (.ifCond .le 5, 3) := by decide +kernel
theorem d_Md_readers_23 : decode mm_Md_readers.2.1 23 = .ok (.iconst 0, 1) := by decide +kernel
theorem d_Md_readers_24 : decode mm_Md_readers.2.1 24 = .ok (.ireturn, 1) := by decide +kernel
theorem d_Md_readers_25 : decode mm_Md_readers.2.1 25 = .ok (.aload_n 0, 1) := by decide +kernel
theorem d_Md_readers_26 : decode mm_Md_readers.2.1 26 = .ok (.getfield 123, 3) := by decide +kernel
theorem d_Md_readers_29 : decode mm_Md_readers.2.1 29 = .ok (.lstore_n 2, 1) := by decide +kernel
theorem d_Md_readers_30 : decode mm_Md_readers.2.1 30 = .ok (.iload_n 1, 1) := by decide +kernel
theorem d_Md_readers_31 : decode mm_Md_readers.2.1 31 = .ok (.ifCond .eq 12, 3) := by decide +kernel
theorem d_Md_readers_34 : decode mm_Md_readers.2.1 34 = .ok (.aload_n 0, 1) := by decide +kernel
theorem d_Md_readers_35 : decode mm_Md_readers.2.1 35 = .ok (.lload_n 2, 1) := by decide +kernel
theorem d_Md_readers_36 : decode mm_Md_readers.2.1 36 = .ok (.invokevirtual 221, 3) := by decide +kernel
theorem d_Md_readers_39 : decode mm_Md_readers.2.1 39 = .ok (.invokestatic 278, 3) := by decide +kernel
theorem d_Md_readers_42 : decode mm_Md_readers.2.1 42 = .ok (.ireturn, 1) := by decide +kernel
theorem d_Md_readers_43 : decode mm_Md_readers.2.1 43 = .ok (.iconst 0, 1) := by decide +kernel
theorem d_Md_readers_44 : decode mm_Md_readers.2.1 44 = .ok (.istore 4, 2) := by decide +kernel
theorem d_Md_readers_46 : decode mm_Md_readers.2.1 46 = .ok (.iconst 0, 1) := by decide +kernel
theorem d_Md_readers_47 : decode mm_Md_readers.2.1 47 = .ok (.istore 5, 2) := by decide +kernel
theorem d_Md_readers_49 : decode mm_Md_readers.2.1 49 = .ok (.iload 5, 2) := by decide +kernel
theorem d_Md_readers_51 : decode mm_Md_readers.2.1 51 = .ok (.bipush 64, 2) := by decide +kernel
theorem d_Md_readers_53 : decode mm_Md_readers.2.1 53 = .ok (.if_icmp .ge 40, 3) := by decide +kernel
theorem d_Md_readers_56 : decode mm_Md_readers.2.1 56 = .ok (.aload_n 0, 1) := by decide +kernel
theorem d_Md_readers_57 : decode mm_Md_readers.2.1 57 = .ok (.getfield 13, 3) := by decide +kernel
theorem d_Md_readers_60 : decode mm_Md_readers.2.1 60 = .ok (.iload 5, 2) := by decide +kernel
theorem d_Md_readers_62 : decode mm_Md_readers.2.1 62 = .ok (.baload, 1) := by decide +kernel
theorem d_Md_readers_63 : decode mm_Md_readers.2.1 63 = .ok (.ifCond .eq 20, 3) := by decide +kernel
theorem d_Md_readers_66 : decode mm_Md_readers.2.1 66 = .ok (.aload_n 0, 1) := by decide +kernel
theorem d_Md_readers_67 : decode mm_Md_readers.2.1 67 = .ok (.iload 5, 2) := by decide +kernel
theorem d_Md_readers_69 : decode mm_Md_readers.2.1 69 = .ok (.lload_n 2, 1) := by decide +kernel
theorem d_Md_readers_70 : decode mm_Md_readers.2.1 70 = .ok (.invokevirtual 207, 3) := by decide +kernel
theorem d_Md_readers_73 : decode mm_Md_readers.2.1 73 = .ok (.ifCond .eq 10, 3) := by decide +kernel
theorem d_Md_readers_76 : decode mm_Md_readers.2.1 76 = .ok (.iload 4, 2) := by decide +kernel
theorem d_Md_readers_78 : decode mm_Md_readers.2.1 78 = .ok (.iconst 1, 1) := by decide +kernel
theorem d_Md_readers_79 : decode mm_Md_readers.2.1 79 = .ok (.iadd, 1) := by decide +kernel
theorem d_Md_readers_80 : decode mm_Md_readers.2.1 80 = .ok (.goto 5, 3) := by decide +kernel
theorem d_Md_readers_83 : decode mm_Md_readers.2.1 83 = .ok (.iload 4, 2) := by decide +kernel
theorem d_Md_readers_85 : decode mm_Md_readers.2.1 85 = .ok (.istore 4, 2) := by decide +kernel
theorem d_Md_readers_87 : decode mm_Md_readers.2.1 87 = .ok (.iinc 5 1, 3) := by decide +kernel
theorem d_Md_readers_90 : decode mm_Md_readers.2.1 90 = .ok (.goto (-41), 3) := by decide +kernel
theorem d_Md_readers_93 : decode mm_Md_readers.2.1 93 = .ok (.iload 4, 2) := by decide +kernel
theorem d_Md_readers_95 : decode mm_Md_readers.2.1 95 = .ok (.ireturn, 1) := by decide +kernel
theorem d_Md_howMany_0 : decode mm_Md_howMany.2.1 0 = .ok (.iconst 0, 1) := by decide +kernel
theorem d_Md_howMany_1 : decode mm_Md_howMany.2.1 1 = .ok (.istore_n 2, 1) := by decide +kernel
theorem d_Md_howMany_2 : decode mm_Md_howMany.2.1 2 = .ok (.iconst 0, 1) := by decide +kernel
theorem d_Md_howMany_3 : decode mm_Md_howMany.2.1 3 = .ok (.istore_n 3, 1) := by decide +kernel
theorem d_Md_howMany_4 : decode mm_Md_howMany.2.1 4 = .ok (.iload_n 3, 1) := by decide +kernel
theorem d_Md_howMany_5 : decode mm_Md_howMany.2.1 5 = .ok (.bipush 64, 2) := by decide +kernel
theorem d_Md_howMany_7 : decode mm_Md_howMany.2.1 7 = .ok (.if_icmp .ge 27, 3) := by decide +kernel
theorem d_Md_howMany_10 : decode mm_Md_howMany.2.1 10 = .ok (.lload_n 0, 1) := by decide +kernel
theorem d_Md_howMany_11 : decode mm_Md_howMany.2.1 11 = .ok (.iload_n 3, 1) := by decide +kernel
theorem d_Md_howMany_12 : decode mm_Md_howMany.2.1 12 = .ok (.lshr, 1) := by decide +kernel
theorem d_Md_howMany_13 : decode mm_Md_howMany.2.1 13 = .ok (.lconst 1, 1) := by decide +kernel
theorem d_Md_howMany_14 : decode mm_Md_howMany.2.1 14 = .ok (.land, 1) := by decide +kernel
theorem d_Md_howMany_15 : decode mm_Md_howMany.2.1 15 = .ok (.lconst 1, 1) := by decide +kernel
theorem d_Md_howMany_16 : decode mm_Md_howMany.2.1 16 = .ok (.lcmp, 1) := by decide +kernel
theorem d_Md_howMany_17 : decode mm_Md_howMany.2.1 17 = .ok (.ifCond .ne 9, 3) := by decide +kernel
theorem d_Md_howMany_20 : decode mm_Md_howMany.2.1 20 = .ok (.iload_n 2, 1) := by decide +kernel
theorem d_Md_howMany_21 : decode mm_Md_howMany.2.1 21 = .ok (.iconst 1, 1) := by decide +kernel
theorem d_Md_howMany_22 : decode mm_Md_howMany.2.1 22 = .ok (.iadd, 1) := by decide +kernel
theorem d_Md_howMany_23 : decode mm_Md_howMany.2.1 23 = .ok (.goto 4, 3) := by decide +kernel
theorem d_Md_howMany_26 : decode mm_Md_howMany.2.1 26 = .ok (.iload_n 2, 1) := by decide +kernel
theorem d_Md_howMany_27 : decode mm_Md_howMany.2.1 27 = .ok (.istore_n 2, 1) := by decide +kernel
theorem d_Md_howMany_28 : decode mm_Md_howMany.2.1 28 = .ok (.iinc 3 1, 3) := by decide +kernel
theorem d_Md_howMany_31 : decode mm_Md_howMany.2.1 31 = .ok (.goto (-27), 3) := by decide +kernel
theorem d_Md_howMany_34 : decode mm_Md_howMany.2.1 34 = .ok (.iload_n 2, 1) := by decide +kernel
theorem d_Md_howMany_35 : decode mm_Md_howMany.2.1 35 = .ok (.ireturn, 1) := by decide +kernel
theorem d_Md_built_0 : decode mm_Md_built.2.1 0 = .ok (.iload_n 1, 1) := by decide +kernel
theorem d_Md_built_1 : decode mm_Md_built.2.1 1 = .ok (.ifCond .lt 43, 3) := by decide +kernel
theorem d_Md_built_4 : decode mm_Md_built.2.1 4 = .ok (.iload_n 1, 1) := by decide +kernel
theorem d_Md_built_5 : decode mm_Md_built.2.1 5 = .ok (.aload_n 0, 1) := by decide +kernel
theorem d_Md_built_6 : decode mm_Md_built.2.1 6 = .ok (.getfield 257, 3) := by decide +kernel
theorem d_Md_built_9 : decode mm_Md_built.2.1 9 = .ok (.if_icmp .ge 35, 3) := by decide +kernel
theorem d_Md_built_12 : decode mm_Md_built.2.1 12 = .ok (.iload_n 2, 1) := by decide +kernel
theorem d_Md_built_13 : decode mm_Md_built.2.1 13 = .ok (.ifCond .lt 31, 3) := by decide +kernel
theorem d_Md_built_16 : decode mm_Md_built.2.1 16 = .ok (.iload_n 2, 1) := by decide +kernel
theorem d_Md_built_17 : decode mm_Md_built.2.1 17 = .ok (.bipush 8, 2) := by decide +kernel
theorem d_Md_built_19 : decode mm_Md_built.2.1 19 = .ok (.if_icmp .ge 25, 3) := by decide +kernel
theorem d_Md_built_22 : decode mm_Md_built.2.1 22 = .ok (.aload_n 0, 1) := by decide +kernel
theorem d_Md_built_23 : decode mm_Md_built.2.1 23 = .ok (.getfield 57, 3) := by decide +kernel
theorem d_Md_built_26 : decode mm_Md_built.2.1 26 = .ok (.iload_n 1, 1) := by decide +kernel
theorem d_Md_built_27 : decode mm_Md_built.2.1 27 = .ok (.laload, 1) := by decide +kernel
theorem d_Md_built_28 : decode mm_Md_built.2.1 28 = .ok (.bipush 56, 2) := by decide +kernel
theorem d_Md_built_30 : decode mm_Md_built.2.1 30 = .ok (.bipush 8, 2) := by decide +kernel
theorem d_Md_built_32 : decode mm_Md_built.2.1 32 = .ok (.iload_n 2, 1) := by decide +kernel
theorem d_Md_built_33 : decode mm_Md_built.2.1 33 = .ok (.imul, 1) := by decide +kernel
theorem d_Md_built_34 : decode mm_Md_built.2.1 34 = .ok (.isub, 1) := by decide +kernel
theorem d_Md_built_35 : decode mm_Md_built.2.1 35 = .ok (.lshr, 1) := by decide +kernel
theorem d_Md_built_36 : decode mm_Md_built.2.1 36 = .ok (.l2i, 1) := by decide +kernel
theorem d_Md_built_37 : decode mm_Md_built.2.1 37 = .ok (.sipush 255, 3) := by decide +kernel
theorem d_Md_built_40 : decode mm_Md_built.2.1 40 = .ok (.iand, 1) := by decide +kernel
theorem d_Md_built_41 : decode mm_Md_built.2.1 41 = .ok (.goto 4, 3) := by decide +kernel
theorem d_Md_built_44 : decode mm_Md_built.2.1 44 = .ok (.iconst 0, 1) := by decide +kernel
theorem d_Md_built_45 : decode mm_Md_built.2.1 45 = .ok (.istore_n 3, 1) := by decide +kernel
theorem d_Md_built_46 : decode mm_Md_built.2.1 46 = .ok (.aload_n 0, 1) := by decide +kernel
theorem d_Md_built_47 : decode mm_Md_built.2.1 47 = .ok (.iload_n 3, 1) := by decide +kernel
theorem d_Md_built_48 : decode mm_Md_built.2.1 48 = .ok (.ifCond .le 7, 3) := by decide +kernel
theorem d_Md_built_51 : decode mm_Md_built.2.1 51 = .ok (.iconst 0, 1) := by decide +kernel
theorem d_Md_built_52 : decode mm_Md_built.2.1 52 = .ok (.goto 4, 3) := by decide +kernel
theorem d_Md_built_55 : decode mm_Md_built.2.1 55 = .ok (.iconst 1, 1) := by decide +kernel
theorem d_Md_built_56 : decode mm_Md_built.2.1 56 = .ok (.putfield 96, 3) := by decide +kernel
theorem d_Md_built_59 : decode mm_Md_built.2.1 59 = .ok (.iload_n 3, 1) := by decide +kernel
theorem d_Md_built_60 : decode mm_Md_built.2.1 60 = .ok (.ireturn, 1) := by decide +kernel
theorem d_Md_count_0 : decode mm_Md_count.2.1 0 = .ok (.aload_n 0, 1) := by decide +kernel
theorem d_Md_count_1 : decode mm_Md_count.2.1 1 = .ok (.iload_n 1, 1) := by decide +kernel
theorem d_Md_count_2 : decode mm_Md_count.2.1 2 = .ok (.ifCond .lt 12, 3) := by decide +kernel
theorem d_Md_count_5 : decode mm_Md_count.2.1 5 = .ok (.iload_n 1, 1) := by decide +kernel
theorem d_Md_count_6 : decode mm_Md_count.2.1 6 = .ok (.iconst 4, 1) := by decide +kernel
theorem d_Md_count_7 : decode mm_Md_count.2.1 7 = .ok (.if_icmp .gt 7, 3) := by decide +kernel
theorem d_Md_count_10 : decode mm_Md_count.2.1 10 = .ok (.iconst 0, 1) := by decide +kernel
theorem d_Md_count_11 : decode mm_Md_count.2.1 11 = .ok (.goto 4, 3) := by decide +kernel
theorem d_Md_count_14 : decode mm_Md_count.2.1 14 = .ok (.iconst 1, 1) := by decide +kernel
theorem d_Md_count_15 : decode mm_Md_count.2.1 15 = .ok (.putfield 96, 3) := by decide +kernel
theorem d_Md_count_18 : decode mm_Md_count.2.1 18 = .ok (.aload_n 0, 1) := by decide +kernel
theorem d_Md_count_19 : decode mm_Md_count.2.1 19 = .ok (.getfield 96, 3) := by decide +kernel
theorem d_Md_count_22 : decode mm_Md_count.2.1 22 = .ok (.ifCond .le 5, 3) := by decide +kernel
theorem d_Md_count_25 : decode mm_Md_count.2.1 25 = .ok (.iconst 0, 1) := by decide +kernel
theorem d_Md_count_26 : decode mm_Md_count.2.1 26 = .ok (.ireturn, 1) := by decide +kernel
theorem d_Md_count_27 : decode mm_Md_count.2.1 27 = .ok (.iconst 0, 1) := by decide +kernel
theorem d_Md_count_28 : decode mm_Md_count.2.1 28 = .ok (.istore_n 2, 1) := by decide +kernel
theorem d_Md_count_29 : decode mm_Md_count.2.1 29 = .ok (.iconst 0, 1) := by decide +kernel
theorem d_Md_count_30 : decode mm_Md_count.2.1 30 = .ok (.istore_n 3, 1) := by decide +kernel
theorem d_Md_count_31 : decode mm_Md_count.2.1 31 = .ok (.iload_n 3, 1) := by decide +kernel
theorem d_Md_count_32 : decode mm_Md_count.2.1 32 = .ok (.bipush 64, 2) := by decide +kernel
theorem d_Md_count_34 : decode mm_Md_count.2.1 34 = .ok (.if_icmp .ge 34, 3) := by decide +kernel
theorem d_Md_count_37 : decode mm_Md_count.2.1 37 = .ok (.aload_n 0, 1) := by decide +kernel
theorem d_Md_count_38 : decode mm_Md_count.2.1 38 = .ok (.getfield 13, 3) := by decide +kernel
theorem d_Md_count_41 : decode mm_Md_count.2.1 41 = .ok (.iload_n 3, 1) := by decide +kernel
theorem d_Md_count_42 : decode mm_Md_count.2.1 42 = .ok (.baload, 1) := by decide +kernel
theorem d_Md_count_43 : decode mm_Md_count.2.1 43 = .ok (.ifCond .eq 17, 3) := by decide +kernel
theorem d_Md_count_46 : decode mm_Md_count.2.1 46 = .ok (.aload_n 0, 1) := by decide +kernel
theorem d_Md_count_47 : decode mm_Md_count.2.1 47 = .ok (.iload_n 3, 1) := by decide +kernel
theorem d_Md_count_48 : decode mm_Md_count.2.1 48 = .ok (.invokevirtual 263, 3) := by decide +kernel
theorem d_Md_count_51 : decode mm_Md_count.2.1 51 = .ok (.ifCond .eq 9, 3) := by decide +kernel
theorem d_Md_count_54 : decode mm_Md_count.2.1 54 = .ok (.iload_n 2, 1) := by decide +kernel
theorem d_Md_count_55 : decode mm_Md_count.2.1 55 = .ok (.iconst 1, 1) := by decide +kernel
theorem d_Md_count_56 : decode mm_Md_count.2.1 56 = .ok (.iadd, 1) := by decide +kernel
theorem d_Md_count_57 : decode mm_Md_count.2.1 57 = .ok (.goto 4, 3) := by decide +kernel
theorem d_Md_count_60 : decode mm_Md_count.2.1 60 = .ok (.iload_n 2, 1) := by decide +kernel
theorem d_Md_count_61 : decode mm_Md_count.2.1 61 = .ok (.istore_n 2, 1) := by decide +kernel
theorem d_Md_count_62 : decode mm_Md_count.2.1 62 = .ok (.iinc 3 1, 3) := by decide +kernel
theorem d_Md_count_65 : decode mm_Md_count.2.1 65 = .ok (.goto (-34), 3) := by decide +kernel
theorem d_Md_count_68 : decode mm_Md_count.2.1 68 = .ok (.iload_n 1, 1) := by decide +kernel
theorem d_Md_count_69 : decode mm_Md_count.2.1 69 = .ok (.ifCond .ne 10, 3) := by decide +kernel
theorem d_Md_count_72 : decode mm_Md_count.2.1 72 = .ok (.aload_n 0, 1) := by decide +kernel
theorem d_Md_count_73 : decode mm_Md_count.2.1 73 = .ok (.invokevirtual 218, 3) := by decide +kernel
theorem d_Md_count_76 : decode mm_Md_count.2.1 76 = .ok (.goto 40, 3) := by decide +kernel
theorem d_Md_count_79 : decode mm_Md_count.2.1 79 = .ok (.iload_n 1, 1) := by decide +kernel
theorem d_Md_count_80 : decode mm_Md_count.2.1 80 = .ok (.iconst 1, 1) := by decide +kernel
theorem d_Md_count_81 : decode mm_Md_count.2.1 81 = .ok (.if_icmp .ne 7, 3) := by decide +kernel
theorem d_Md_count_84 : decode mm_Md_count.2.1 84 = .ok (.iload_n 2, 1) := by decide +kernel
theorem d_Md_count_85 : decode mm_Md_count.2.1 85 = .ok (.goto 31, 3) := by decide +kernel
theorem d_Md_count_88 : decode mm_Md_count.2.1 88 = .ok (.iload_n 1, 1) := by decide +kernel
theorem d_Md_count_89 : decode mm_Md_count.2.1 89 = .ok (.iconst 2, 1) := by decide +kernel
theorem d_Md_count_90 : decode mm_Md_count.2.1 90 = .ok (.if_icmp .ne 10, 3) := by decide +kernel
theorem d_Md_count_93 : decode mm_Md_count.2.1 93 = .ok (.aload_n 0, 1) := by decide +kernel
theorem d_Md_count_94 : decode mm_Md_count.2.1 94 = .ok (.getfield 100, 3) := by decide +kernel
theorem d_Md_count_97 : decode mm_Md_count.2.1 97 = .ok (.goto 19, 3) := by decide +kernel
theorem d_Md_count_100 : decode mm_Md_count.2.1 100 = .ok (.iload_n 1, 1) := by decide +kernel
theorem d_Md_count_101 : decode mm_Md_count.2.1 101 = .ok (.iconst 3, 1) := by decide +kernel
theorem d_Md_count_102 : decode mm_Md_count.2.1 102 = .ok (.if_icmp .ne 10, 3) := by decide +kernel
theorem d_Md_count_105 : decode mm_Md_count.2.1 105 = .ok (.aload_n 0, 1) := by decide +kernel
theorem d_Md_count_106 : decode mm_Md_count.2.1 106 = .ok (.getfield 254, 3) := by decide +kernel
theorem d_Md_count_109 : decode mm_Md_count.2.1 109 = .ok (.goto 7, 3) := by decide +kernel
theorem d_Md_count_112 : decode mm_Md_count.2.1 112 = .ok (.aload_n 0, 1) := by decide +kernel
theorem d_Md_count_113 : decode mm_Md_count.2.1 113 = .ok (.getfield 257, 3) := by decide +kernel
theorem d_Md_count_116 : decode mm_Md_count.2.1 116 = .ok (.ireturn, 1) := by decide +kernel
theorem d_Md_feed_0 : decode mm_Md_feed.2.1 0 = .ok (.aload_n 0, 1) := by decide +kernel
theorem d_Md_feed_1 : decode mm_Md_feed.2.1 1 = .ok (.aload_n 0, 1) := by decide +kernel
theorem d_Md_feed_2 : decode mm_Md_feed.2.1 2 = .ok (.getfield 100, 3) := by decide +kernel
theorem d_Md_feed_5 : decode mm_Md_feed.2.1 5 = .ok (.bipush 20, 2) := by decide +kernel
theorem d_Md_feed_7 : decode mm_Md_feed.2.1 7 = .ok (.iadd, 1) := by decide +kernel
theorem d_Md_feed_8 : decode mm_Md_feed.2.1 8 = .ok (.sipush 2000, 3) := by decide +kernel
theorem d_Md_feed_11 : decode mm_Md_feed.2.1 11 = .ok (.if_icmp .le 7, 3) := by decide +kernel
theorem d_Md_feed_14 : decode mm_Md_feed.2.1 14 = .ok (.iconst 1, 1) := by decide +kernel
theorem d_Md_feed_15 : decode mm_Md_feed.2.1 15 = .ok (.goto 4, 3) := by decide +kernel
theorem d_Md_feed_18 : decode mm_Md_feed.2.1 18 = .ok (.iconst 0, 1) := by decide +kernel
theorem d_Md_feed_19 : decode mm_Md_feed.2.1 19 = .ok (.putfield 96, 3) := by decide +kernel
theorem d_Md_feed_22 : decode mm_Md_feed.2.1 22 = .ok (.aload_n 0, 1) := by decide +kernel
theorem d_Md_feed_23 : decode mm_Md_feed.2.1 23 = .ok (.getfield 96, 3) := by decide +kernel
theorem d_Md_feed_26 : decode mm_Md_feed.2.1 26 = .ok (.ifCond .le 5, 3) := by decide +kernel
theorem d_Md_feed_29 : decode mm_Md_feed.2.1 29 = .ok (.iconst 0, 1) := by decide +kernel
theorem d_Md_feed_30 : decode mm_Md_feed.2.1 30 = .ok (.ireturn, 1) := by decide +kernel
theorem d_Md_feed_31 : decode mm_Md_feed.2.1 31 = .ok (.iconst 0, 1) := by decide +kernel
theorem d_Md_feed_32 : decode mm_Md_feed.2.1 32 = .ok (.istore 6, 2) := by decide +kernel
theorem d_Md_feed_34 : decode mm_Md_feed.2.1 34 = .ok (.iload 6, 2) := by decide +kernel
theorem d_Md_feed_36 : decode mm_Md_feed.2.1 36 = .ok (.bipush 20, 2) := by decide +kernel
theorem d_Md_feed_38 : decode mm_Md_feed.2.1 38 = .ok (.if_icmp .ge 86, 3) := by decide +kernel
theorem d_Md_feed_41 : decode mm_Md_feed.2.1 41 = .ok (.iload 6, 2) := by decide +kernel
theorem d_Md_feed_43 : decode mm_Md_feed.2.1 43 = .ok (.iconst 4, 1) := by decide +kernel
theorem d_Md_feed_44 : decode mm_Md_feed.2.1 44 = .ok (.if_icmp .ge 7, 3) := by decide +kernel
theorem d_Md_feed_47 : decode mm_Md_feed.2.1 47 = .ok (.iload_n 1, 1) := by decide +kernel
theorem d_Md_feed_48 : decode mm_Md_feed.2.1 48 = .ok (.goto 39, 3) := by decide +kernel
theorem d_Md_feed_51 : decode mm_Md_feed.2.1 51 = .ok (.iload 6, 2) := by decide +kernel
theorem d_Md_feed_53 : decode mm_Md_feed.2.1 53 = .ok (.bipush 8, 2) := by decide +kernel
theorem d_Md_feed_55 : decode mm_Md_feed.2.1 55 = .ok (.if_icmp .ge 7, 3) := by decide +kernel
theorem d_Md_feed_58 : decode mm_Md_feed.2.1 58 = .ok (.iload_n 2, 1) := by decide +kernel
theorem d_Md_feed_59 : decode mm_Md_feed.2.1 59 = .ok (.goto 28, 3) := by decide +kernel
theorem d_Md_feed_62 : decode mm_Md_feed.2.1 62 = .ok (.iload 6, 2) := by decide +kernel
theorem d_Md_feed_64 : decode mm_Md_feed.2.1 64 = .ok (.bipush 12, 2) := by decide +kernel
theorem d_Md_feed_66 : decode mm_Md_feed.2.1 66 = .ok (.if_icmp .ge 7, 3) := by decide +kernel
theorem d_Md_feed_69 : decode mm_Md_feed.2.1 69 = .ok (.iload_n 3, 1) := by decide +kernel
theorem d_Md_feed_70 : decode mm_Md_feed.2.1 70 = .ok (.goto 17, 3) := by decide +kernel
theorem d_Md_feed_73 : decode mm_Md_feed.2.1 73 = .ok (.iload 6, 2) := by decide +kernel
theorem d_Md_feed_75 : decode mm_Md_feed.2.1 75 = .ok (.bipush 16, 2) := by decide +kernel
theorem d_Md_feed_77 : decode mm_Md_feed.2.1 77 = .ok (.if_icmp .ge 8, 3) := by decide +kernel
theorem d_Md_feed_80 : decode mm_Md_feed.2.1 80 = .ok (.iload 4, 2) := by decide +kernel
theorem d_Md_feed_82 : decode mm_Md_feed.2.1 82 = .ok (.goto 5, 3) := by decide +kernel
theorem d_Md_feed_85 : decode mm_Md_feed.2.1 85 = .ok (.iload 5, 2) := by decide +kernel
theorem d_Md_feed_87 : decode mm_Md_feed.2.1 87 = .ok (.istore 7, 2) := by decide +kernel
theorem d_Md_feed_89 : decode mm_Md_feed.2.1 89 = .ok (.aload_n 0, 1) := by decide +kernel
theorem d_Md_feed_90 : decode mm_Md_feed.2.1 90 = .ok (.getfield 7, 3) := by decide +kernel
theorem d_Md_feed_93 : decode mm_Md_feed.2.1 93 = .ok (.aload_n 0, 1) := by decide +kernel
theorem d_Md_feed_94 : decode mm_Md_feed.2.1 94 = .ok (.getfield 100, 3) := by decide +kernel
theorem d_Md_feed_97 : decode mm_Md_feed.2.1 97 = .ok (.iload 6, 2) := by decide +kernel
theorem d_Md_feed_99 : decode mm_Md_feed.2.1 99 = .ok (.iadd, 1) := by decide +kernel
theorem d_Md_feed_100 : decode mm_Md_feed.2.1 100 = .ok (.iload 7, 2) := by decide +kernel
theorem d_Md_feed_102 : decode mm_Md_feed.2.1 102 = .ok (.bipush 24, 2) := by decide +kernel
theorem d_Md_feed_104 : decode mm_Md_feed.2.1 104 = .ok (.bipush 8, 2) := by decide +kernel
theorem d_Md_feed_106 : decode mm_Md_feed.2.1 106 = .ok (.iload 6, 2) := by decide +kernel
theorem d_Md_feed_108 : decode mm_Md_feed.2.1 108 = .ok (.iconst 4, 1) := by decide +kernel
theorem d_Md_feed_109 : decode mm_Md_feed.2.1 109 = .ok (.irem, 1) := by decide +kernel
theorem d_Md_feed_110 : decode mm_Md_feed.2.1 110 = .ok (.imul, 1) := by decide +kernel
theorem d_Md_feed_111 : decode mm_Md_feed.2.1 111 = .ok (.isub, 1) := by decide +kernel
theorem d_Md_feed_112 : decode mm_Md_feed.2.1 112 = .ok (.ishr, 1) := by decide +kernel
theorem d_Md_feed_113 : decode mm_Md_feed.2.1 113 = .ok (.sipush 255, 3) := by decide +kernel
theorem d_Md_feed_116 : decode mm_Md_feed.2.1 116 = .ok (.iand, 1) := by decide +kernel
theorem d_Md_feed_117 : decode mm_Md_feed.2.1 117 = .ok (.iastore, 1) := by decide +kernel
theorem d_Md_feed_118 : decode mm_Md_feed.2.1 118 = .ok (.iinc 6 1, 3) := by decide +kernel
theorem d_Md_feed_121 : decode mm_Md_feed.2.1 121 = .ok (.goto (-87), 3) := by decide +kernel
theorem d_Md_feed_124 : decode mm_Md_feed.2.1 124 = .ok (.aload_n 0, 1) := by decide +kernel
theorem d_Md_feed_125 : decode mm_Md_feed.2.1 125 = .ok (.aload_n 0, 1) := by decide +kernel
theorem d_Md_feed_126 : decode mm_Md_feed.2.1 126 = .ok (.getfield 100, 3) := by decide +kernel
theorem d_Md_feed_129 : decode mm_Md_feed.2.1 129 = .ok (.bipush 20, 2) := by decide +kernel
theorem d_Md_feed_131 : decode mm_Md_feed.2.1 131 = .ok (.iadd, 1) := by decide +kernel
theorem d_Md_feed_132 : decode mm_Md_feed.2.1 132 = .ok (.putfield 100, 3) := by decide +kernel
theorem d_Md_feed_135 : decode mm_Md_feed.2.1 135 = .ok (.aload_n 0, 1) := by decide +kernel
theorem d_Md_feed_136 : decode mm_Md_feed.2.1 136 = .ok (.getfield 100, 3) := by decide +kernel
theorem d_Md_feed_139 : decode mm_Md_feed.2.1 139 = .ok (.ireturn, 1) := by decide +kernel
theorem d_Md_end_0 : decode mm_Md_end.2.1 0 = .ok (.aload_n 0, 1) := by decide +kernel
theorem d_Md_end_1 : decode mm_Md_end.2.1 1 = .ok (.iload_n 1, 1) := by decide +kernel
theorem d_Md_end_2 : decode mm_Md_end.2.1 2 = .ok (.ifCond .lt 15, 3) := by decide +kernel
theorem d_Md_end_5 : decode mm_Md_end.2.1 5 = .ok (.iload_n 1, 1) := by decide +kernel
theorem d_Md_end_6 : decode mm_Md_end.2.1 6 = .ok (.aload_n 0, 1) := by decide +kernel
theorem d_Md_end_7 : decode mm_Md_end.2.1 7 = .ok (.getfield 100, 3) := by decide +kernel
theorem d_Md_end_10 : decode mm_Md_end.2.1 10 = .ok (.if_icmp .gt 7, 3) := by decide +kernel
theorem d_Md_end_13 : decode mm_Md_end.2.1 13 = .ok (.iconst 0, 1) := by decide +kernel
theorem d_Md_end_14 : decode mm_Md_end.2.1 14 = .ok (.goto 4, 3) := by decide +kernel
theorem d_Md_end_17 : decode mm_Md_end.2.1 17 = .ok (.iconst 1, 1) := by decide +kernel
theorem d_Md_end_18 : decode mm_Md_end.2.1 18 = .ok (.putfield 96, 3) := by decide +kernel
theorem d_Md_end_21 : decode mm_Md_end.2.1 21 = .ok (.aload_n 0, 1) := by decide +kernel
theorem d_Md_end_22 : decode mm_Md_end.2.1 22 = .ok (.aload_n 0, 1) := by decide +kernel
theorem d_Md_end_23 : decode mm_Md_end.2.1 23 = .ok (.getfield 96, 3) := by decide +kernel
theorem d_Md_end_26 : decode mm_Md_end.2.1 26 = .ok (.ifCond .le 10, 3) := by decide +kernel
theorem d_Md_end_29 : decode mm_Md_end.2.1 29 = .ok (.aload_n 0, 1) := by decide +kernel
theorem d_Md_end_30 : decode mm_Md_end.2.1 30 = .ok (.getfield 100, 3) := by decide +kernel
theorem d_Md_end_33 : decode mm_Md_end.2.1 33 = .ok (.goto 4, 3) := by decide +kernel
theorem d_Md_end_36 : decode mm_Md_end.2.1 36 = .ok (.iload_n 1, 1) := by decide +kernel
theorem d_Md_end_37 : decode mm_Md_end.2.1 37 = .ok (.putfield 100, 3) := by decide +kernel
theorem d_Md_end_40 : decode mm_Md_end.2.1 40 = .ok (.return_, 1) := by decide +kernel
theorem d_Lw_law_0 : decode mm_Lw_law.2.1 0 = .ok (.new 8, 3) := by decide +kernel
theorem d_Lw_law_3 : decode mm_Lw_law.2.1 3 = .ok (.dup, 1) := by decide +kernel
theorem d_Lw_law_4 : decode mm_Lw_law.2.1 4 = .ok (.invokespecial 52, 3) := by decide +kernel
theorem d_Lw_law_7 : decode mm_Lw_law.2.1 7 = .ok (.astore_n 1, 1) := by decide +kernel
theorem d_Lw_law_8 : decode mm_Lw_law.2.1 8 = .ok (.new 53, 3) := by decide +kernel
theorem d_Lw_law_11 : decode mm_Lw_law.2.1 11 = .ok (.dup, 1) := by decide +kernel
theorem d_Lw_law_12 : decode mm_Lw_law.2.1 12 = .ok (.invokespecial 55, 3) := by decide +kernel
theorem d_Lw_law_15 : decode mm_Lw_law.2.1 15 = .ok (.astore_n 2, 1) := by decide +kernel
theorem d_Lw_law_16 : decode mm_Lw_law.2.1 16 = .ok (.iconst 1, 1) := by decide +kernel
theorem d_Lw_law_17 : decode mm_Lw_law.2.1 17 = .ok (.newarray .long, 2) := by decide +kernel
theorem d_Lw_law_19 : decode mm_Lw_law.2.1 19 = .ok (.astore_n 3, 1) := by decide +kernel
theorem d_Lw_law_20 : decode mm_Lw_law.2.1 20 = .ok (.iconst 0, 1) := by decide +kernel
theorem d_Lw_law_21 : decode mm_Lw_law.2.1 21 = .ok (.istore 4, 2) := by decide +kernel
theorem d_Lw_law_23 : decode mm_Lw_law.2.1 23 = .ok (.iload 4, 2) := by decide +kernel
theorem d_Lw_law_25 : decode mm_Lw_law.2.1 25 = .ok (.aload_n 0, 1) := by decide +kernel
theorem d_Lw_law_26 : decode mm_Lw_law.2.1 26 = .ok (.arraylength, 1) := by decide +kernel
theorem d_Lw_law_27 : decode mm_Lw_law.2.1 27 = .ok (.bipush 6, 2) := by decide +kernel
theorem d_Lw_law_29 : decode mm_Lw_law.2.1 29 = .ok (.isub, 1) := by decide +kernel
theorem d_Lw_law_30 : decode mm_Lw_law.2.1 30 = .ok (.if_icmp .gt 637, 3) := by decide +kernel
theorem d_Lw_law_33 : decode mm_Lw_law.2.1 33 = .ok (.aload_n 0, 1) := by decide +kernel
theorem d_Lw_law_34 : decode mm_Lw_law.2.1 34 = .ok (.iload 4, 2) := by decide +kernel
theorem d_Lw_law_36 : decode mm_Lw_law.2.1 36 = .ok (.iaload, 1) := by decide +kernel
theorem d_Lw_law_37 : decode mm_Lw_law.2.1 37 = .ok (.bipush 15, 2) := by decide +kernel
theorem d_Lw_law_39 : decode mm_Lw_law.2.1 39 = .ok (.iand, 1) := by decide +kernel
theorem d_Lw_law_40 : decode mm_Lw_law.2.1 40 = .ok (.tableswitch 621 0 11 #[64, 168, 204, 217, 230, 281, 325, 338, 381, 425, 497, 565], 64) := by decide +kernel
theorem d_Lw_law_104 : decode mm_Lw_law.2.1 104 = .ok (.aload_n 1, 1) := by decide +kernel
theorem d_Lw_law_105 : decode mm_Lw_law.2.1 105 = .ok (.aload_n 0, 1) := by decide +kernel
theorem d_Lw_law_106 : decode mm_Lw_law.2.1 106 = .ok (.iload 4, 2) := by decide +kernel
theorem d_Lw_law_108 : decode mm_Lw_law.2.1 108 = .ok (.iconst 1, 1) := by decide +kernel
theorem d_Lw_law_109 : decode mm_Lw_law.2.1 109 = .ok (.iadd, 1) := by decide +kernel
theorem d_Lw_law_110 : decode mm_Lw_law.2.1 110 = .ok (.iaload, 1) := by decide +kernel
theorem d_Lw_law_111 : decode mm_Lw_law.2.1 111 = .ok (.aload_n 0, 1) := by decide +kernel
theorem d_Lw_law_112 : decode mm_Lw_law.2.1 112 = .ok (.iload 4, 2) := by decide +kernel
theorem d_Lw_law_114 : decode mm_Lw_law.2.1 114 = .ok (.iconst 2, 1) := by decide +kernel
theorem d_Lw_law_115 : decode mm_Lw_law.2.1 115 = .ok (.iadd, 1) := by decide +kernel
theorem d_Lw_law_116 : decode mm_Lw_law.2.1 116 = .ok (.iaload, 1) := by decide +kernel
theorem d_Lw_law_117 : decode mm_Lw_law.2.1 117 = .ok (.aload_n 0, 1) := by decide +kernel
theorem d_Lw_law_118 : decode mm_Lw_law.2.1 118 = .ok (.iload 4, 2) := by decide +kernel
theorem d_Lw_law_120 : decode mm_Lw_law.2.1 120 = .ok (.iconst 3, 1) := by decide +kernel
theorem d_Lw_law_121 : decode mm_Lw_law.2.1 121 = .ok (.iadd, 1) := by decide +kernel
theorem d_Lw_law_122 : decode mm_Lw_law.2.1 122 = .ok (.iaload, 1) := by decide +kernel
theorem d_Lw_law_123 : decode mm_Lw_law.2.1 123 = .ok (.aload_n 0, 1) := by decide +kernel
theorem d_Lw_law_124 : decode mm_Lw_law.2.1 124 = .ok (.iload 4, 2) := by decide +kernel
theorem d_Lw_law_126 : decode mm_Lw_law.2.1 126 = .ok (.iconst 4, 1) := by decide +kernel
theorem d_Lw_law_127 : decode mm_Lw_law.2.1 127 = .ok (.iadd, 1) := by decide +kernel
theorem d_Lw_law_128 : decode mm_Lw_law.2.1 128 = .ok (.iaload, 1) := by decide +kernel
theorem d_Lw_law_129 : decode mm_Lw_law.2.1 129 = .ok (.aload_n 0, 1) := by decide +kernel
theorem d_Lw_law_130 : decode mm_Lw_law.2.1 130 = .ok (.iload 4, 2) := by decide +kernel
theorem d_Lw_law_132 : decode mm_Lw_law.2.1 132 = .ok (.iconst 5, 1) := by decide +kernel
theorem d_Lw_law_133 : decode mm_Lw_law.2.1 133 = .ok (.iadd, 1) := by decide +kernel
theorem d_Lw_law_134 : decode mm_Lw_law.2.1 134 = .ok (.iaload, 1) := by decide +kernel
theorem d_Lw_law_135 : decode mm_Lw_law.2.1 135 = .ok (.aload_n 3, 1) := by decide +kernel
theorem d_Lw_law_136 : decode mm_Lw_law.2.1 136 = .ok (.invokestatic 56, 3) := by decide +kernel
theorem d_Lw_law_139 : decode mm_Lw_law.2.1 139 = .ok (.istore 5, 2) := by decide +kernel
theorem d_Lw_law_141 : decode mm_Lw_law.2.1 141 = .ok (.aload_n 2, 1) := by decide +kernel
theorem d_Lw_law_142 : decode mm_Lw_law.2.1 142 = .ok (.aload_n 0, 1) := by decide +kernel
theorem d_Lw_law_143 : decode mm_Lw_law.2.1 143 = .ok (.iload 4, 2) := by decide +kernel
theorem d_Lw_law_145 : decode mm_Lw_law.2.1 145 = .ok (.iconst 1, 1) := by decide +kernel
theorem d_Lw_law_146 : decode mm_Lw_law.2.1 146 = .ok (.iadd, 1) := by decide +kernel
theorem d_Lw_law_147 : decode mm_Lw_law.2.1 147 = .ok (.iaload, 1) := by decide +kernel
theorem d_Lw_law_148 : decode mm_Lw_law.2.1 148 = .ok (.aload_n 0, 1) := by decide +kernel
theorem d_Lw_law_149 : decode mm_Lw_law.2.1 149 = .ok (.iload 4, 2) := by decide +kernel
theorem d_Lw_law_151 : decode mm_Lw_law.2.1 151 = .ok (.iconst 2, 1) := by decide +kernel
theorem d_Lw_law_152 : decode mm_Lw_law.2.1 152 = .ok (.iadd, 1) := by decide +kernel
theorem d_Lw_law_153 : decode mm_Lw_law.2.1 153 = .ok (.iaload, 1) := by decide +kernel
theorem d_Lw_law_154 : decode mm_Lw_law.2.1 154 = .ok (.aload_n 0, 1) := by decide +kernel
theorem d_Lw_law_155 : decode mm_Lw_law.2.1 155 = .ok (.iload 4, 2) := by decide +kernel
theorem d_Lw_law_157 : decode mm_Lw_law.2.1 157 = .ok (.iconst 3, 1) := by decide +kernel
theorem d_Lw_law_158 : decode mm_Lw_law.2.1 158 = .ok (.iadd, 1) := by decide +kernel
theorem d_Lw_law_159 : decode mm_Lw_law.2.1 159 = .ok (.iaload, 1) := by decide +kernel
theorem d_Lw_law_160 : decode mm_Lw_law.2.1 160 = .ok (.aload_n 0, 1) := by decide +kernel
theorem d_Lw_law_161 : decode mm_Lw_law.2.1 161 = .ok (.iload 4, 2) := by decide +kernel
theorem d_Lw_law_163 : decode mm_Lw_law.2.1 163 = .ok (.iconst 4, 1) := by decide +kernel
theorem d_Lw_law_164 : decode mm_Lw_law.2.1 164 = .ok (.iadd, 1) := by decide +kernel
theorem d_Lw_law_165 : decode mm_Lw_law.2.1 165 = .ok (.iaload, 1) := by decide +kernel
theorem d_Lw_law_166 : decode mm_Lw_law.2.1 166 = .ok (.aload_n 0, 1) := by decide +kernel
theorem d_Lw_law_167 : decode mm_Lw_law.2.1 167 = .ok (.iload 4, 2) := by decide +kernel
theorem d_Lw_law_169 : decode mm_Lw_law.2.1 169 = .ok (.iconst 5, 1) := by decide +kernel
theorem d_Lw_law_170 : decode mm_Lw_law.2.1 170 = .ok (.iadd, 1) := by decide +kernel
theorem d_Lw_law_171 : decode mm_Lw_law.2.1 171 = .ok (.iaload, 1) := by decide +kernel
theorem d_Lw_law_172 : decode mm_Lw_law.2.1 172 = .ok (.invokevirtual 61, 3) := by decide +kernel
theorem d_Lw_law_175 : decode mm_Lw_law.2.1 175 = .ok (.istore 6, 2) := by decide +kernel
theorem d_Lw_law_177 : decode mm_Lw_law.2.1 177 = .ok (.aload_n 2, 1) := by decide +kernel
theorem d_Lw_law_178 : decode mm_Lw_law.2.1 178 = .ok (.invokevirtual 62, 3) := by decide +kernel
theorem d_Lw_law_181 : decode mm_Lw_law.2.1 181 = .ok (.iload 5, 2) := by decide +kernel
theorem d_Lw_law_183 : decode mm_Lw_law.2.1 183 = .ok (.if_icmp .eq 5, 3) := by decide +kernel
theorem d_Lw_law_186 : decode mm_Lw_law.2.1 186 = .ok (.iconst 0, 1) := by decide +kernel
theorem d_Lw_law_187 : decode mm_Lw_law.2.1 187 = .ok (.ireturn, 1) := by decide +kernel
theorem d_Lw_law_188 : decode mm_Lw_law.2.1 188 = .ok (.iload 5, 2) := by decide +kernel
theorem d_Lw_law_190 : decode mm_Lw_law.2.1 190 = .ok (.ifCond .ne 15, 3) := by decide +kernel
theorem d_Lw_law_193 : decode mm_Lw_law.2.1 193 = .ok (.aload_n 3, 1) := by decide +kernel
theorem d_Lw_law_194 : decode mm_Lw_law.2.1 194 = .ok (.iconst 0, 1) := by decide +kernel
theorem d_Lw_law_195 : decode mm_Lw_law.2.1 195 = .ok (.laload, 1) := by decide +kernel
theorem d_Lw_law_196 : decode mm_Lw_law.2.1 196 = .ok (.iload 6, 2) := by decide +kernel
theorem d_Lw_law_198 : decode mm_Lw_law.2.1 198 = .ok (.i2l, 1) := by decide +kernel
theorem d_Lw_law_199 : decode mm_Lw_law.2.1 199 = .ok (.lcmp, 1) := by decide +kernel
theorem d_Lw_law_200 : decode mm_Lw_law.2.1 200 = .ok (.ifCond .eq 5, 3) := by decide +kernel
theorem d_Lw_law_203 : decode mm_Lw_law.2.1 203 = .ok (.iconst 0, 1) := by decide +kernel
theorem d_Lw_law_204 : decode mm_Lw_law.2.1 204 = .ok (.ireturn, 1) := by decide +kernel
theorem d_Lw_law_205 : decode mm_Lw_law.2.1 205 = .ok (.goto 456, 3) := by decide +kernel
theorem d_Lw_law_208 : decode mm_Lw_law.2.1 208 = .ok (.aload_n 1, 1) := by decide +kernel
theorem d_Lw_law_209 : decode mm_Lw_law.2.1 209 = .ok (.aload_n 0, 1) := by decide +kernel
theorem d_Lw_law_210 : decode mm_Lw_law.2.1 210 = .ok (.iload 4, 2) := by decide +kernel
theorem d_Lw_law_212 : decode mm_Lw_law.2.1 212 = .ok (.iconst 1, 1) := by decide +kernel
theorem d_Lw_law_213 : decode mm_Lw_law.2.1 213 = .ok (.iadd, 1) := by decide +kernel
theorem d_Lw_law_214 : decode mm_Lw_law.2.1 214 = .ok (.iaload, 1) := by decide +kernel
theorem d_Lw_law_215 : decode mm_Lw_law.2.1 215 = .ok (.invokestatic 65, 3) := by decide +kernel
theorem d_Lw_law_218 : decode mm_Lw_law.2.1 218 = .ok (.istore 5, 2) := by decide +kernel
theorem d_Lw_law_220 : decode mm_Lw_law.2.1 220 = .ok (.aload_n 2, 1) := by decide +kernel
theorem d_Lw_law_221 : decode mm_Lw_law.2.1 221 = .ok (.aload_n 0, 1) := by decide +kernel
theorem d_Lw_law_222 : decode mm_Lw_law.2.1 222 = .ok (.iload 4, 2) := by decide +kernel
theorem d_Lw_law_224 : decode mm_Lw_law.2.1 224 = .ok (.iconst 1, 1) := by decide +kernel
theorem d_Lw_law_225 : decode mm_Lw_law.2.1 225 = .ok (.iadd, 1) := by decide +kernel
theorem d_Lw_law_226 : decode mm_Lw_law.2.1 226 = .ok (.iaload, 1) := by decide +kernel
theorem d_Lw_law_227 : decode mm_Lw_law.2.1 227 = .ok (.invokevirtual 68, 3) := by decide +kernel
theorem d_Lw_law_230 : decode mm_Lw_law.2.1 230 = .ok (.aload_n 2, 1) := by decide +kernel
theorem d_Lw_law_231 : decode mm_Lw_law.2.1 231 = .ok (.invokevirtual 62, 3) := by decide +kernel
theorem d_Lw_law_234 : decode mm_Lw_law.2.1 234 = .ok (.iload 5, 2) := by decide +kernel
theorem d_Lw_law_236 : decode mm_Lw_law.2.1 236 = .ok (.if_icmp .eq 5, 3) := by decide +kernel
theorem d_Lw_law_239 : decode mm_Lw_law.2.1 239 = .ok (.iconst 0, 1) := by decide +kernel
theorem d_Lw_law_240 : decode mm_Lw_law.2.1 240 = .ok (.ireturn, 1) := by decide +kernel
theorem d_Lw_law_241 : decode mm_Lw_law.2.1 241 = .ok (.goto 420, 3) := by decide +kernel
theorem d_Lw_law_244 : decode mm_Lw_law.2.1 244 = .ok (.aload_n 1, 1) := by decide +kernel
theorem d_Lw_law_245 : decode mm_Lw_law.2.1 245 = .ok (.invokevirtual 69, 3) := by decide +kernel
theorem d_Lw_law_248 : decode mm_Lw_law.2.1 248 = .ok (.aload_n 2, 1) := by decide +kernel
theorem d_Lw_law_249 : decode mm_Lw_law.2.1 249 = .ok (.invokevirtual 72, 3) := by decide +kernel
theorem d_Lw_law_252 : decode mm_Lw_law.2.1 252 = .ok (.if_icmp .eq 409, 3) := by decide +kernel
theorem d_Lw_law_255 : decode mm_Lw_law.2.1 255 = .ok (.iconst 0, 1) := by decide +kernel
theorem d_Lw_law_256 : decode mm_Lw_law.2.1 256 = .ok (.ireturn, 1) := by decide +kernel
theorem d_Lw_law_257 : decode mm_Lw_law.2.1 257 = .ok (.aload_n 1, 1) := by decide +kernel
theorem d_Lw_law_258 : decode mm_Lw_law.2.1 258 = .ok (.invokevirtual 73, 3) := by decide +kernel
theorem d_Lw_law_261 : decode mm_Lw_law.2.1 261 = .ok (.aload_n 2, 1) := by decide +kernel
theorem d_Lw_law_262 : decode mm_Lw_law.2.1 262 = .ok (.invokevirtual 76, 3) := by decide +kernel
theorem d_Lw_law_265 : decode mm_Lw_law.2.1 265 = .ok (.if_icmp .eq 396, 3) := by decide +kernel
theorem d_Lw_law_268 : decode mm_Lw_law.2.1 268 = .ok (.iconst 0, 1) := by decide +kernel
theorem d_Lw_law_269 : decode mm_Lw_law.2.1 269 = .ok (.ireturn, 1) := by decide +kernel
theorem d_Lw_law_270 : decode mm_Lw_law.2.1 270 = .ok (.aload_n 1, 1) := by decide +kernel
theorem d_Lw_law_271 : decode mm_Lw_law.2.1 271 = .ok (.aload_n 3, 1) := by decide +kernel
theorem d_Lw_law_272 : decode mm_Lw_law.2.1 272 = .ok (.invokestatic 77, 3) := by decide +kernel
theorem d_Lw_law_275 : decode mm_Lw_law.2.1 275 = .ok (.istore 5, 2) := by decide +kernel
theorem d_Lw_law_277 : decode mm_Lw_law.2.1 277 = .ok (.aload_n 2, 1) := by decide +kernel
theorem d_Lw_law_278 : decode mm_Lw_law.2.1 278 = .ok (.invokevirtual 80, 3) := by decide +kernel
theorem d_Lw_law_281 : decode mm_Lw_law.2.1 281 = .ok (.istore 6, 2) := by decide +kernel
theorem d_Lw_law_283 : decode mm_Lw_law.2.1 283 = .ok (.aload_n 2, 1) := by decide +kernel
theorem d_Lw_law_284 : decode mm_Lw_law.2.1 284 = .ok (.invokevirtual 62, 3) := by decide +kernel
theorem d_Lw_law_287 : decode mm_Lw_law.2.1 287 = .ok (.iload 5, 2) := by decide +kernel
theorem d_Lw_law_289 : decode mm_Lw_law.2.1 289 = .ok (.if_icmp .eq 5, 3) := by decide +kernel
theorem d_Lw_law_292 : decode mm_Lw_law.2.1 292 = .ok (.iconst 0, 1) := by decide +kernel
theorem d_Lw_law_293 : decode mm_Lw_law.2.1 293 = .ok (.ireturn, 1) := by decide +kernel
theorem d_Lw_law_294 : decode mm_Lw_law.2.1 294 = .ok (.iload 5, 2) := by decide +kernel
theorem d_Lw_law_296 : decode mm_Lw_law.2.1 296 = .ok (.ifCond .ne 22, 3) := by decide +kernel
theorem d_Lw_law_299 : decode mm_Lw_law.2.1 299 = .ok (.aload_n 3, 1) := by decide +kernel
theorem d_Lw_law_300 : decode mm_Lw_law.2.1 300 = .ok (.iconst 0, 1) := by decide +kernel
theorem d_Lw_law_301 : decode mm_Lw_law.2.1 301 = .ok (.laload, 1) := by decide +kernel
theorem d_Lw_law_302 : decode mm_Lw_law.2.1 302 = .ok (.iload 6, 2) := by decide +kernel
theorem d_Lw_law_304 : decode mm_Lw_law.2.1 304 = .ok (.ifCond .eq 7, 3) := by decide +kernel
theorem d_Lw_law_307 : decode mm_Lw_law.2.1 307 = .ok (.lconst 1, 1) := by decide +kernel
theorem d_Lw_law_308 : decode mm_Lw_law.2.1 308 = .ok (.goto 4, 3) := by decide +kernel
theorem d_Lw_law_311 : decode mm_Lw_law.2.1 311 = .ok (.lconst 0, 1) := by decide +kernel
theorem d_Lw_law_312 : decode mm_Lw_law.2.1 312 = .ok (.lcmp, 1) := by decide +kernel
theorem d_Lw_law_313 : decode mm_Lw_law.2.1 313 = .ok (.ifCond .eq 5, 3) := by decide +kernel
theorem d_Lw_law_316 : decode mm_Lw_law.2.1 316 = .ok (.iconst 0, 1) := by decide +kernel
theorem d_Lw_law_317 : decode mm_Lw_law.2.1 317 = .ok (.ireturn, 1) := by decide +kernel
theorem d_Lw_law_318 : decode mm_Lw_law.2.1 318 = .ok (.goto 343, 3) := by decide +kernel
theorem d_Lw_law_321 : decode mm_Lw_law.2.1 321 = .ok (.aload_n 1, 1) := by decide +kernel
theorem d_Lw_law_322 : decode mm_Lw_law.2.1 322 = .ok (.aload_n 3, 1) := by decide +kernel
theorem d_Lw_law_323 : decode mm_Lw_law.2.1 323 = .ok (.invokestatic 81, 3) := by decide +kernel
theorem d_Lw_law_326 : decode mm_Lw_law.2.1 326 = .ok (.istore 5, 2) := by decide +kernel
theorem d_Lw_law_328 : decode mm_Lw_law.2.1 328 = .ok (.aload_n 2, 1) := by decide +kernel
theorem d_Lw_law_329 : decode mm_Lw_law.2.1 329 = .ok (.invokevirtual 83, 3) := by decide +kernel
theorem d_Lw_law_332 : decode mm_Lw_law.2.1 332 = .ok (.istore 6, 2) := by decide +kernel
theorem d_Lw_law_334 : decode mm_Lw_law.2.1 334 = .ok (.aload_n 2, 1) := by decide +kernel
theorem d_Lw_law_335 : decode mm_Lw_law.2.1 335 = .ok (.invokevirtual 62, 3) := by decide +kernel
theorem d_Lw_law_338 : decode mm_Lw_law.2.1 338 = .ok (.iload 5, 2) := by decide +kernel
theorem d_Lw_law_340 : decode mm_Lw_law.2.1 340 = .ok (.if_icmp .eq 5, 3) := by decide +kernel
theorem d_Lw_law_343 : decode mm_Lw_law.2.1 343 = .ok (.iconst 0, 1) := by decide +kernel
theorem d_Lw_law_344 : decode mm_Lw_law.2.1 344 = .ok (.ireturn, 1) := by decide +kernel
theorem d_Lw_law_345 : decode mm_Lw_law.2.1 345 = .ok (.iload 5, 2) := by decide +kernel
theorem d_Lw_law_347 : decode mm_Lw_law.2.1 347 = .ok (.ifCond .ne 15, 3) := by decide +kernel
theorem d_Lw_law_350 : decode mm_Lw_law.2.1 350 = .ok (.aload_n 3, 1) := by decide +kernel
theorem d_Lw_law_351 : decode mm_Lw_law.2.1 351 = .ok (.iconst 0, 1) := by decide +kernel
theorem d_Lw_law_352 : decode mm_Lw_law.2.1 352 = .ok (.laload, 1) := by decide +kernel
theorem d_Lw_law_353 : decode mm_Lw_law.2.1 353 = .ok (.iload 6, 2) := by decide +kernel
theorem d_Lw_law_355 : decode mm_Lw_law.2.1 355 = .ok (.i2l, 1) := by decide +kernel
theorem d_Lw_law_356 : decode mm_Lw_law.2.1 356 = .ok (.lcmp, 1) := by decide +kernel
theorem d_Lw_law_357 : decode mm_Lw_law.2.1 357 = .ok (.ifCond .eq 5, 3) := by decide +kernel
theorem d_Lw_law_360 : decode mm_Lw_law.2.1 360 = .ok (.iconst 0, 1) := by decide +kernel
theorem d_Lw_law_361 : decode mm_Lw_law.2.1 361 = .ok (.ireturn, 1) := by decide +kernel
theorem d_Lw_law_362 : decode mm_Lw_law.2.1 362 = .ok (.goto 299, 3) := by decide +kernel
theorem d_Lw_law_365 : decode mm_Lw_law.2.1 365 = .ok (.aload_n 1, 1) := by decide +kernel
theorem d_Lw_law_366 : decode mm_Lw_law.2.1 366 = .ok (.invokevirtual 84, 3) := by decide +kernel
theorem d_Lw_law_369 : decode mm_Lw_law.2.1 369 = .ok (.aload_n 2, 1) := by decide +kernel
theorem d_Lw_law_370 : decode mm_Lw_law.2.1 370 = .ok (.invokevirtual 87, 3) := by decide +kernel
theorem d_Lw_law_373 : decode mm_Lw_law.2.1 373 = .ok (.if_icmp .eq 288, 3) := by decide +kernel
theorem d_Lw_law_376 : decode mm_Lw_law.2.1 376 = .ok (.iconst 0, 1) := by decide +kernel
theorem d_Lw_law_377 : decode mm_Lw_law.2.1 377 = .ok (.ireturn, 1) := by decide +kernel
theorem d_Lw_law_378 : decode mm_Lw_law.2.1 378 = .ok (.aload_n 1, 1) := by decide +kernel
theorem d_Lw_law_379 : decode mm_Lw_law.2.1 379 = .ok (.aload_n 3, 1) := by decide +kernel
theorem d_Lw_law_380 : decode mm_Lw_law.2.1 380 = .ok (.invokestatic 88, 3) := by decide +kernel
theorem d_Lw_law_383 : decode mm_Lw_law.2.1 383 = .ok (.istore 5, 2) := by decide +kernel
theorem d_Lw_law_385 : decode mm_Lw_law.2.1 385 = .ok (.aload_n 2, 1) := by decide +kernel
theorem d_Lw_law_386 : decode mm_Lw_law.2.1 386 = .ok (.invokevirtual 90, 3) := by decide +kernel
theorem d_Lw_law_389 : decode mm_Lw_law.2.1 389 = .ok (.lstore 6, 2) := by decide +kernel
theorem d_Lw_law_391 : decode mm_Lw_law.2.1 391 = .ok (.aload_n 2, 1) := by decide +kernel
theorem d_Lw_law_392 : decode mm_Lw_law.2.1 392 = .ok (.invokevirtual 62, 3) := by decide +kernel
theorem d_Lw_law_395 : decode mm_Lw_law.2.1 395 = .ok (.iload 5, 2) := by decide +kernel
theorem d_Lw_law_397 : decode mm_Lw_law.2.1 397 = .ok (.if_icmp .eq 5, 3) := by decide +kernel
theorem d_Lw_law_400 : decode mm_Lw_law.2.1 400 = .ok (.iconst 0, 1) := by decide +kernel
theorem d_Lw_law_401 : decode mm_Lw_law.2.1 401 = .ok (.ireturn, 1) := by decide +kernel
theorem d_Lw_law_402 : decode mm_Lw_law.2.1 402 = .ok (.iload 5, 2) := by decide +kernel
theorem d_Lw_law_404 : decode mm_Lw_law.2.1 404 = .ok (.ifCond .ne 14, 3) := by decide +kernel
theorem d_Lw_law_407 : decode mm_Lw_law.2.1 407 = .ok (.aload_n 3, 1) := by decide +kernel
theorem d_Lw_law_408 : decode mm_Lw_law.2.1 408 = .ok (.iconst 0, 1) := by decide +kernel
theorem d_Lw_law_409 : decode mm_Lw_law.2.1 409 = .ok (.laload, 1) := by decide +kernel
theorem d_Lw_law_410 : decode mm_Lw_law.2.1 410 = .ok (.lload 6, 2) := by decide +kernel
theorem d_Lw_law_412 : decode mm_Lw_law.2.1 412 = .ok (.lcmp, 1) := by decide +kernel
theorem d_Lw_law_413 : decode mm_Lw_law.2.1 413 = .ok (.ifCond .eq 5, 3) := by decide +kernel
theorem d_Lw_law_416 : decode mm_Lw_law.2.1 416 = .ok (.iconst 0, 1) := by decide +kernel
theorem d_Lw_law_417 : decode mm_Lw_law.2.1 417 = .ok (.ireturn, 1) := by decide +kernel
theorem d_Lw_law_418 : decode mm_Lw_law.2.1 418 = .ok (.goto 243, 3) := by decide +kernel
theorem d_Lw_law_421 : decode mm_Lw_law.2.1 421 = .ok (.aload_n 1, 1) := by decide +kernel
theorem d_Lw_law_422 : decode mm_Lw_law.2.1 422 = .ok (.aload_n 3, 1) := by decide +kernel
theorem d_Lw_law_423 : decode mm_Lw_law.2.1 423 = .ok (.invokestatic 91, 3) := by decide +kernel
theorem d_Lw_law_426 : decode mm_Lw_law.2.1 426 = .ok (.istore 5, 2) := by decide +kernel
theorem d_Lw_law_428 : decode mm_Lw_law.2.1 428 = .ok (.aload_n 2, 1) := by decide +kernel
theorem d_Lw_law_429 : decode mm_Lw_law.2.1 429 = .ok (.invokevirtual 93, 3) := by decide +kernel
theorem d_Lw_law_432 : decode mm_Lw_law.2.1 432 = .ok (.istore 6, 2) := by decide +kernel
theorem d_Lw_law_434 : decode mm_Lw_law.2.1 434 = .ok (.aload_n 2, 1) := by decide +kernel
theorem d_Lw_law_435 : decode mm_Lw_law.2.1 435 = .ok (.invokevirtual 62, 3) := by decide +kernel
theorem d_Lw_law_438 : decode mm_Lw_law.2.1 438 = .ok (.iload 5, 2) := by decide +kernel
theorem d_Lw_law_440 : decode mm_Lw_law.2.1 440 = .ok (.if_icmp .eq 5, 3) := by decide +kernel
theorem d_Lw_law_443 : decode mm_Lw_law.2.1 443 = .ok (.iconst 0, 1) := by decide +kernel
theorem d_Lw_law_444 : decode mm_Lw_law.2.1 444 = .ok (.ireturn, 1) := by decide +kernel
theorem d_Lw_law_445 : decode mm_Lw_law.2.1 445 = .ok (.iload 5, 2) := by decide +kernel
theorem d_Lw_law_447 : decode mm_Lw_law.2.1 447 = .ok (.ifCond .ne 15, 3) := by decide +kernel
theorem d_Lw_law_450 : decode mm_Lw_law.2.1 450 = .ok (.aload_n 3, 1) := by decide +kernel
theorem d_Lw_law_451 : decode mm_Lw_law.2.1 451 = .ok (.iconst 0, 1) := by decide +kernel
theorem d_Lw_law_452 : decode mm_Lw_law.2.1 452 = .ok (.laload, 1) := by decide +kernel
theorem d_Lw_law_453 : decode mm_Lw_law.2.1 453 = .ok (.iload 6, 2) := by decide +kernel
theorem d_Lw_law_455 : decode mm_Lw_law.2.1 455 = .ok (.i2l, 1) := by decide +kernel
theorem d_Lw_law_456 : decode mm_Lw_law.2.1 456 = .ok (.lcmp, 1) := by decide +kernel
theorem d_Lw_law_457 : decode mm_Lw_law.2.1 457 = .ok (.ifCond .eq 5, 3) := by decide +kernel
theorem d_Lw_law_460 : decode mm_Lw_law.2.1 460 = .ok (.iconst 0, 1) := by decide +kernel
theorem d_Lw_law_461 : decode mm_Lw_law.2.1 461 = .ok (.ireturn, 1) := by decide +kernel
theorem d_Lw_law_462 : decode mm_Lw_law.2.1 462 = .ok (.goto 199, 3) := by decide +kernel
theorem d_Lw_law_465 : decode mm_Lw_law.2.1 465 = .ok (.aload_n 1, 1) := by decide +kernel
theorem d_Lw_law_466 : decode mm_Lw_law.2.1 466 = .ok (.aload_n 0, 1) := by decide +kernel
theorem d_Lw_law_467 : decode mm_Lw_law.2.1 467 = .ok (.iload 4, 2) := by decide +kernel
theorem d_Lw_law_469 : decode mm_Lw_law.2.1 469 = .ok (.iconst 1, 1) := by decide +kernel
theorem d_Lw_law_470 : decode mm_Lw_law.2.1 470 = .ok (.iadd, 1) := by decide +kernel
theorem d_Lw_law_471 : decode mm_Lw_law.2.1 471 = .ok (.iaload, 1) := by decide +kernel
theorem d_Lw_law_472 : decode mm_Lw_law.2.1 472 = .ok (.ifCond .eq 7, 3) := by decide +kernel
theorem d_Lw_law_475 : decode mm_Lw_law.2.1 475 = .ok (.iconst 1, 1) := by decide +kernel
theorem d_Lw_law_476 : decode mm_Lw_law.2.1 476 = .ok (.goto 4, 3) := by decide +kernel
theorem d_Lw_law_479 : decode mm_Lw_law.2.1 479 = .ok (.iconst 0, 1) := by decide +kernel
theorem d_Lw_law_480 : decode mm_Lw_law.2.1 480 = .ok (.aload_n 3, 1) := by decide +kernel
theorem d_Lw_law_481 : decode mm_Lw_law.2.1 481 = .ok (.invokestatic 94, 3) := by decide +kernel
theorem d_Lw_law_484 : decode mm_Lw_law.2.1 484 = .ok (.istore 5, 2) := by decide +kernel
theorem d_Lw_law_486 : decode mm_Lw_law.2.1 486 = .ok (.aload_n 2, 1) := by decide +kernel
theorem d_Lw_law_487 : decode mm_Lw_law.2.1 487 = .ok (.aload_n 0, 1) := by decide +kernel
theorem d_Lw_law_488 : decode mm_Lw_law.2.1 488 = .ok (.iload 4, 2) := by decide +kernel
theorem d_Lw_law_490 : decode mm_Lw_law.2.1 490 = .ok (.iconst 1, 1) := by decide +kernel
theorem d_Lw_law_491 : decode mm_Lw_law.2.1 491 = .ok (.iadd, 1) := by decide +kernel
theorem d_Lw_law_492 : decode mm_Lw_law.2.1 492 = .ok (.iaload, 1) := by decide +kernel
theorem d_Lw_law_493 : decode mm_Lw_law.2.1 493 = .ok (.ifCond .eq 7, 3) := by decide +kernel
theorem d_Lw_law_496 : decode mm_Lw_law.2.1 496 = .ok (.iconst 1, 1) := by decide +kernel
theorem d_Lw_law_497 : decode mm_Lw_law.2.1 497 = .ok (.goto 4, 3) := by decide +kernel
theorem d_Lw_law_500 : decode mm_Lw_law.2.1 500 = .ok (.iconst 0, 1) := by decide +kernel
theorem d_Lw_law_501 : decode mm_Lw_law.2.1 501 = .ok (.invokevirtual 97, 3) := by decide +kernel
theorem d_Lw_law_504 : decode mm_Lw_law.2.1 504 = .ok (.istore 6, 2) := by decide +kernel
theorem d_Lw_law_506 : decode mm_Lw_law.2.1 506 = .ok (.aload_n 2, 1) := by decide +kernel
theorem d_Lw_law_507 : decode mm_Lw_law.2.1 507 = .ok (.invokevirtual 62, 3) := by decide +kernel
theorem d_Lw_law_510 : decode mm_Lw_law.2.1 510 = .ok (.iload 5, 2) := by decide +kernel
theorem d_Lw_law_512 : decode mm_Lw_law.2.1 512 = .ok (.if_icmp .eq 5, 3) := by decide +kernel
theorem d_Lw_law_515 : decode mm_Lw_law.2.1 515 = .ok (.iconst 0, 1) := by decide +kernel
theorem d_Lw_law_516 : decode mm_Lw_law.2.1 516 = .ok (.ireturn, 1) := by decide +kernel
theorem d_Lw_law_517 : decode mm_Lw_law.2.1 517 = .ok (.iload 5, 2) := by decide +kernel
theorem d_Lw_law_519 : decode mm_Lw_law.2.1 519 = .ok (.ifCond .ne 15, 3) := by decide +kernel
theorem d_Lw_law_522 : decode mm_Lw_law.2.1 522 = .ok (.aload_n 3, 1) := by decide +kernel
theorem d_Lw_law_523 : decode mm_Lw_law.2.1 523 = .ok (.iconst 0, 1) := by decide +kernel
theorem d_Lw_law_524 : decode mm_Lw_law.2.1 524 = .ok (.laload, 1) := by decide +kernel
theorem d_Lw_law_525 : decode mm_Lw_law.2.1 525 = .ok (.iload 6, 2) := by decide +kernel
theorem d_Lw_law_527 : decode mm_Lw_law.2.1 527 = .ok (.i2l, 1) := by decide +kernel
theorem d_Lw_law_528 : decode mm_Lw_law.2.1 528 = .ok (.lcmp, 1) := by decide +kernel
theorem d_Lw_law_529 : decode mm_Lw_law.2.1 529 = .ok (.ifCond .eq 5, 3) := by decide +kernel
theorem d_Lw_law_532 : decode mm_Lw_law.2.1 532 = .ok (.iconst 0, 1) := by decide +kernel
theorem d_Lw_law_533 : decode mm_Lw_law.2.1 533 = .ok (.ireturn, 1) := by decide +kernel
theorem d_Lw_law_534 : decode mm_Lw_law.2.1 534 = .ok (.goto 127, 3) := by decide +kernel
theorem d_Lw_law_537 : decode mm_Lw_law.2.1 537 = .ok (.aload_n 1, 1) := by decide +kernel
theorem d_Lw_law_538 : decode mm_Lw_law.2.1 538 = .ok (.aload_n 0, 1) := by decide +kernel
theorem d_Lw_law_539 : decode mm_Lw_law.2.1 539 = .ok (.iload 4, 2) := by decide +kernel
theorem d_Lw_law_541 : decode mm_Lw_law.2.1 541 = .ok (.iconst 1, 1) := by decide +kernel
theorem d_Lw_law_542 : decode mm_Lw_law.2.1 542 = .ok (.iadd, 1) := by decide +kernel
theorem d_Lw_law_543 : decode mm_Lw_law.2.1 543 = .ok (.iaload, 1) := by decide +kernel
theorem d_Lw_law_544 : decode mm_Lw_law.2.1 544 = .ok (.aload_n 0, 1) := by decide +kernel
theorem d_Lw_law_545 : decode mm_Lw_law.2.1 545 = .ok (.iload 4, 2) := by decide +kernel
theorem d_Lw_law_547 : decode mm_Lw_law.2.1 547 = .ok (.iconst 2, 1) := by decide +kernel
theorem d_Lw_law_548 : decode mm_Lw_law.2.1 548 = .ok (.iadd, 1) := by decide +kernel
theorem d_Lw_law_549 : decode mm_Lw_law.2.1 549 = .ok (.iaload, 1) := by decide +kernel
theorem d_Lw_law_550 : decode mm_Lw_law.2.1 550 = .ok (.aload_n 3, 1) := by decide +kernel
theorem d_Lw_law_551 : decode mm_Lw_law.2.1 551 = .ok (.invokestatic 98, 3) := by decide +kernel
theorem d_Lw_law_554 : decode mm_Lw_law.2.1 554 = .ok (.istore 5, 2) := by decide +kernel
theorem d_Lw_law_556 : decode mm_Lw_law.2.1 556 = .ok (.aload_n 2, 1) := by decide +kernel
theorem d_Lw_law_557 : decode mm_Lw_law.2.1 557 = .ok (.aload_n 0, 1) := by decide +kernel
theorem d_Lw_law_558 : decode mm_Lw_law.2.1 558 = .ok (.iload 4, 2) := by decide +kernel
theorem d_Lw_law_560 : decode mm_Lw_law.2.1 560 = .ok (.iconst 1, 1) := by decide +kernel
theorem d_Lw_law_561 : decode mm_Lw_law.2.1 561 = .ok (.iadd, 1) := by decide +kernel
theorem d_Lw_law_562 : decode mm_Lw_law.2.1 562 = .ok (.iaload, 1) := by decide +kernel
theorem d_Lw_law_563 : decode mm_Lw_law.2.1 563 = .ok (.aload_n 0, 1) := by decide +kernel
theorem d_Lw_law_564 : decode mm_Lw_law.2.1 564 = .ok (.iload 4, 2) := by decide +kernel
theorem d_Lw_law_566 : decode mm_Lw_law.2.1 566 = .ok (.iconst 2, 1) := by decide +kernel
theorem d_Lw_law_567 : decode mm_Lw_law.2.1 567 = .ok (.iadd, 1) := by decide +kernel
theorem d_Lw_law_568 : decode mm_Lw_law.2.1 568 = .ok (.iaload, 1) := by decide +kernel
theorem d_Lw_law_569 : decode mm_Lw_law.2.1 569 = .ok (.invokevirtual 101, 3) := by decide +kernel
theorem d_Lw_law_572 : decode mm_Lw_law.2.1 572 = .ok (.istore 6, 2) := by decide +kernel
theorem d_Lw_law_574 : decode mm_Lw_law.2.1 574 = .ok (.aload_n 2, 1) := by decide +kernel
theorem d_Lw_law_575 : decode mm_Lw_law.2.1 575 = .ok (.invokevirtual 62, 3) := by decide +kernel
theorem d_Lw_law_578 : decode mm_Lw_law.2.1 578 = .ok (.iload 5, 2) := by decide +kernel
theorem d_Lw_law_580 : decode mm_Lw_law.2.1 580 = .ok (.if_icmp .eq 5, 3) := by decide +kernel
theorem d_Lw_law_583 : decode mm_Lw_law.2.1 583 = .ok (.iconst 0, 1) := by decide +kernel
theorem d_Lw_law_584 : decode mm_Lw_law.2.1 584 = .ok (.ireturn, 1) := by decide +kernel
theorem d_Lw_law_585 : decode mm_Lw_law.2.1 585 = .ok (.iload 5, 2) := by decide +kernel
theorem d_Lw_law_587 : decode mm_Lw_law.2.1 587 = .ok (.ifCond .ne 15, 3) := by decide +kernel
theorem d_Lw_law_590 : decode mm_Lw_law.2.1 590 = .ok (.aload_n 3, 1) := by decide +kernel
theorem d_Lw_law_591 : decode mm_Lw_law.2.1 591 = .ok (.iconst 0, 1) := by decide +kernel
theorem d_Lw_law_592 : decode mm_Lw_law.2.1 592 = .ok (.laload, 1) := by decide +kernel
theorem d_Lw_law_593 : decode mm_Lw_law.2.1 593 = .ok (.iload 6, 2) := by decide +kernel
theorem d_Lw_law_595 : decode mm_Lw_law.2.1 595 = .ok (.i2l, 1) := by decide +kernel
theorem d_Lw_law_596 : decode mm_Lw_law.2.1 596 = .ok (.lcmp, 1) := by decide +kernel
theorem d_Lw_law_597 : decode mm_Lw_law.2.1 597 = .ok (.ifCond .eq 5, 3) := by decide +kernel
theorem d_Lw_law_600 : decode mm_Lw_law.2.1 600 = .ok (.iconst 0, 1) := by decide +kernel
theorem d_Lw_law_601 : decode mm_Lw_law.2.1 601 = .ok (.ireturn, 1) := by decide +kernel
theorem d_Lw_law_602 : decode mm_Lw_law.2.1 602 = .ok (.goto 59, 3) := by decide +kernel
theorem d_Lw_law_605 : decode mm_Lw_law.2.1 605 = .ok (.aload_n 1, 1) := by decide +kernel
theorem d_Lw_law_606 : decode mm_Lw_law.2.1 606 = .ok (.aload_n 0, 1) := by decide +kernel
theorem d_Lw_law_607 : decode mm_Lw_law.2.1 607 = .ok (.iload 4, 2) := by decide +kernel
theorem d_Lw_law_609 : decode mm_Lw_law.2.1 609 = .ok (.iconst 1, 1) := by decide +kernel
theorem d_Lw_law_610 : decode mm_Lw_law.2.1 610 = .ok (.iadd, 1) := by decide +kernel
theorem d_Lw_law_611 : decode mm_Lw_law.2.1 611 = .ok (.iaload, 1) := by decide +kernel
theorem d_Lw_law_612 : decode mm_Lw_law.2.1 612 = .ok (.aload_n 3, 1) := by decide +kernel
theorem d_Lw_law_613 : decode mm_Lw_law.2.1 613 = .ok (.invokestatic 102, 3) := by decide +kernel
theorem d_Lw_law_616 : decode mm_Lw_law.2.1 616 = .ok (.istore 5, 2) := by decide +kernel
theorem d_Lw_law_618 : decode mm_Lw_law.2.1 618 = .ok (.aload_n 2, 1) := by decide +kernel
theorem d_Lw_law_619 : decode mm_Lw_law.2.1 619 = .ok (.aload_n 0, 1) := by decide +kernel
theorem d_Lw_law_620 : decode mm_Lw_law.2.1 620 = .ok (.iload 4, 2) := by decide +kernel
theorem d_Lw_law_622 : decode mm_Lw_law.2.1 622 = .ok (.iconst 1, 1) := by decide +kernel
theorem d_Lw_law_623 : decode mm_Lw_law.2.1 623 = .ok (.iadd, 1) := by decide +kernel
theorem d_Lw_law_624 : decode mm_Lw_law.2.1 624 = .ok (.iaload, 1) := by decide +kernel
theorem d_Lw_law_625 : decode mm_Lw_law.2.1 625 = .ok (.invokevirtual 105, 3) := by decide +kernel
theorem d_Lw_law_628 : decode mm_Lw_law.2.1 628 = .ok (.istore 6, 2) := by decide +kernel
theorem d_Lw_law_630 : decode mm_Lw_law.2.1 630 = .ok (.aload_n 2, 1) := by decide +kernel
theorem d_Lw_law_631 : decode mm_Lw_law.2.1 631 = .ok (.invokevirtual 62, 3) := by decide +kernel
theorem d_Lw_law_634 : decode mm_Lw_law.2.1 634 = .ok (.iload 5, 2) := by decide +kernel
theorem d_Lw_law_636 : decode mm_Lw_law.2.1 636 = .ok (.if_icmp .eq 5, 3) := by decide +kernel
theorem d_Lw_law_639 : decode mm_Lw_law.2.1 639 = .ok (.iconst 0, 1) := by decide +kernel
theorem d_Lw_law_640 : decode mm_Lw_law.2.1 640 = .ok (.ireturn, 1) := by decide +kernel
theorem d_Lw_law_641 : decode mm_Lw_law.2.1 641 = .ok (.iload 5, 2) := by decide +kernel
theorem d_Lw_law_643 : decode mm_Lw_law.2.1 643 = .ok (.ifCond .ne 15, 3) := by decide +kernel
theorem d_Lw_law_646 : decode mm_Lw_law.2.1 646 = .ok (.aload_n 3, 1) := by decide +kernel
theorem d_Lw_law_647 : decode mm_Lw_law.2.1 647 = .ok (.iconst 0, 1) := by decide +kernel
theorem d_Lw_law_648 : decode mm_Lw_law.2.1 648 = .ok (.laload, 1) := by decide +kernel
theorem d_Lw_law_649 : decode mm_Lw_law.2.1 649 = .ok (.iload 6, 2) := by decide +kernel
theorem d_Lw_law_651 : decode mm_Lw_law.2.1 651 = .ok (.i2l, 1) := by decide +kernel
theorem d_Lw_law_652 : decode mm_Lw_law.2.1 652 = .ok (.lcmp, 1) := by decide +kernel
theorem d_Lw_law_653 : decode mm_Lw_law.2.1 653 = .ok (.ifCond .eq 5, 3) := by decide +kernel
theorem d_Lw_law_656 : decode mm_Lw_law.2.1 656 = .ok (.iconst 0, 1) := by decide +kernel
theorem d_Lw_law_657 : decode mm_Lw_law.2.1 657 = .ok (.ireturn, 1) := by decide +kernel
theorem d_Lw_law_658 : decode mm_Lw_law.2.1 658 = .ok (.goto 3, 3) := by decide +kernel
theorem d_Lw_law_661 : decode mm_Lw_law.2.1 661 = .ok (.iinc 4 6, 3) := by decide +kernel
theorem d_Lw_law_664 : decode mm_Lw_law.2.1 664 = .ok (.goto (-641), 3) := by decide +kernel
theorem d_Lw_law_667 : decode mm_Lw_law.2.1 667 = .ok (.iconst 1, 1) := by decide +kernel
theorem d_Lw_law_668 : decode mm_Lw_law.2.1 668 = .ok (.ireturn, 1) := by decide +kernel
end
section

/-! ===== the small heap: (how many cells the machine has, slots used, kinds: (tag, length), contents) ===== -/
abbrev jm_H : Type := Nat × Nat × (Nat → Nat × Nat) × (Nat → Nat → Value)
def jm_o (c : Nat) : Nat := 2 * c + 2
def jm_a (t : Nat) : Nat := 2 * t + 1
def jm_put (h : jm_H) (a k : Nat) (v : Value) : jm_H := (h.1, h.2.1, h.2.2.1, fun b j => if b = a ∧ j = k then v else h.2.2.2 b j)
def jm_new (h : jm_H) (t n : Nat) (f : Nat → Value) : jm_H := (h.1 + 1, h.2.1 + n, fun b => if b = h.1 then (t, n) else h.2.2.1 b, fun b j => if b = h.1 then f j else h.2.2.2 b j)
theorem jm_o_inj {a b : Nat} (h : jm_o a = jm_o b) : a = b := by unfold jm_o at h; omega
theorem jm_a_inj {a b : Nat} (h : jm_a a = jm_a b) : a = b := by unfold jm_a at h; omega
theorem jm_oa {a b : Nat} (h : jm_o a = jm_a b) : False := by unfold jm_o jm_a at h; omega
/-- the world: numbers of classes and slots, numbers of array classes, the first cell that is ours -/
abbrev jm_G : Type := va_G × (Nat → ClassId) × Nat
def jm_A (G : jm_G) : Nat → Prop := fun q => G.2.2 ≤ q
def jm_K (G : jm_G) (U : State) : Prop := (∀ (c : Nat) (q : vw_C), jm_cl[c]? = some q → u_Kn U q.1 q.2.1 q.2.2 (G.1.1 c) (G.1.2 c)) ∧ ∀ t : Nat, t < jm_nt → ArrOfT U (G.2.1 t) (jm_ty t) ∧ va_RA U (G.2.1 t) (jm_ty t)
theorem jm_K.moved {G : jm_G} {u U : State} (hvm : u.vm.Alike U.vm) (h : jm_K G u) : jm_K G U := ⟨fun c q hq => u_Kn_moved hvm (h.1 c q hq), fun t ht => ⟨arrOfT_moved hvm (h.2 t ht).1, (h.2 t ht).2.moved hvm⟩⟩
def jm_R (G : jm_G) (h : jm_H) (H : Heap) : Prop := h.1 = H.size ∧ G.2.2 ≤ H.size ∧
  (∀ a c n : Nat, h.2.2.1 a = (jm_o c, n) → G.2.2 ≤ a ∧ ∃ r : vw_C, jm_cl[c]? = some r ∧ t_OB a (G.1.1 c) r.2.2 (G.1.2 c) H (h.2.2.2 a)) ∧
  ∀ a t n : Nat, h.2.2.1 a = (jm_a t, n) → G.2.2 ≤ a ∧ t < jm_nt ∧ H[a]? = some (arrV (G.2.1 t) n (h.2.2.2 a))
theorem jm_put_at (h : jm_H) (a k : Nat) (v : Value) : (jm_put h a k v).2.2.2 a = updV (h.2.2.2 a) k v := by
  funext j
  simp [jm_put, updV]
theorem jm_put_ne (h : jm_H) {a b : Nat} (k : Nat) (v : Value) (hb : b ≠ a) : (jm_put h a k v).2.2.2 b = h.2.2.2 b := by
  funext j
  simp [jm_put, hb]
theorem jm_new_at (h : jm_H) (t n : Nat) (f : Nat → Value) : (jm_new h t n f).2.2.2 h.1 = f := by
  funext j
  simp [jm_new]
theorem jm_new_ne (h : jm_H) (t n : Nat) (f : Nat → Value) {b : Nat} (hb : b ≠ h.1) : (jm_new h t n f).2.2.2 b = h.2.2.2 b := by
  funext j
  simp [jm_new, hb]
theorem jm_R.lt {G : jm_G} {h : jm_H} {H : Heap} (hR : jm_R G h H) {a c n : Nat} (hk : h.2.2.1 a = (jm_o c, n)) : a < H.size := by
  obtain ⟨-, r, -, cell, h1, -⟩ := hR.2.2.1 a c n hk
  exact (Array.getElem?_eq_some_iff.mp h1).1
theorem jm_R.ltA {G : jm_G} {h : jm_H} {H : Heap} (hR : jm_R G h H) {a t n : Nat} (hk : h.2.2.1 a = (jm_a t, n)) : a < H.size :=
  (Array.getElem?_eq_some_iff.mp (hR.2.2.2 a t n hk).2.2).1
/-- a field was written -/
theorem jm_R.putO {G : jm_G} {h : jm_H} {H H1 : Heap} (hR : jm_R G h H) {a c n k : Nat} {v : Value} (hk : h.2.2.1 a = (jm_o c, n)) (hz : H1.size = H.size) (hq : ∀ q : Nat, q ≠ a → H1[q]? = H[q]?)
    (hn : ∀ r : vw_C, jm_cl[c]? = some r → t_OB a (G.1.1 c) r.2.2 (G.1.2 c) H1 (updV (h.2.2.2 a) k v)) : jm_R G (jm_put h a k v) H1 := by
  obtain ⟨h1, h2, h3, h4⟩ := hR
  refine ⟨h1.trans hz.symm, by rw [hz]; exact h2, fun b c' n' hb => ?_, fun b t n' hb => ?_⟩
  · obtain ⟨g1, r, g2, g3⟩ := h3 b c' n' hb
    refine ⟨g1, r, g2, ?_⟩
    by_cases e : b = a
    · subst e
      have e2 : c' = c := jm_o_inj (Prod.mk.inj (hb.symm.trans hk)).1
      subst e2
      rw [jm_put_at]
      exact hn r g2
    · rw [jm_put_ne h k v e]
      exact g3.kept (hq b e)
  · have e : b ≠ a := fun e => by
      subst e
      exact jm_oa (Prod.mk.inj (hk.symm.trans hb)).1
    obtain ⟨g1, g2, g3⟩ := h4 b t n' hb
    refine ⟨g1, g2, ?_⟩
    rw [jm_put_ne h k v e, hq b e]
    exact g3
/-- an element was written -/
theorem jm_R.putA {G : jm_G} {h : jm_H} {H H1 : Heap} (hR : jm_R G h H) {a t n k : Nat} {v : Value} (hk : h.2.2.1 a = (jm_a t, n)) (hz : H1.size = H.size) (hq : ∀ q : Nat, q ≠ a → H1[q]? = H[q]?)
    (hn : H1[a]? = some (arrV (G.2.1 t) n (updV (h.2.2.2 a) k v))) : jm_R G (jm_put h a k v) H1 := by
  obtain ⟨h1, h2, h3, h4⟩ := hR
  refine ⟨h1.trans hz.symm, by rw [hz]; exact h2, fun b c' n' hb => ?_, fun b t' n' hb => ?_⟩
  · have e : b ≠ a := fun e => by
      subst e
      exact jm_oa (Prod.mk.inj (hb.symm.trans hk)).1
    obtain ⟨g1, r, g2, g3⟩ := h3 b c' n' hb
    refine ⟨g1, r, g2, ?_⟩
    rw [jm_put_ne h k v e]
    exact g3.kept (hq b e)
  · obtain ⟨g1, g2, g3⟩ := h4 b t' n' hb
    refine ⟨g1, g2, ?_⟩
    by_cases e : b = a
    · subst e
      have e2 := Prod.mk.inj (hb.symm.trans hk)
      have e3 := jm_a_inj e2.1
      have e4 := e2.2
      subst e3; subst e4
      rw [jm_put_at]
      exact hn
    · rw [jm_put_ne h k v e, hq b e]
      exact g3
theorem jm_R.kd {G : jm_G} {h : jm_H} {H : Heap} (hR : jm_R G h H) {c n : Nat} : h.2.2.1 h.1 ≠ (jm_o c, n) := fun hk => by
  have h1 := hR.lt hk
  rw [hR.1] at h1
  exact Nat.lt_irrefl _ h1
/-- an object was made -/
theorem jm_R.newO {G : jm_G} {h : jm_H} {H H1 : Heap} (hR : jm_R G h H) {c n : Nat} {f : Nat → Value} {r : vw_C} (hc : jm_cl[c]? = some r) (hz : H1.size = h.1 + 1) (hq : ∀ q : Nat, q < h.1 → H1[q]? = H[q]?)
    (hn : t_OB h.1 (G.1.1 c) r.2.2 (G.1.2 c) H1 f) : jm_R G (jm_new h (jm_o c) n f) H1 := by
  have hlt := @jm_R.lt G h H hR
  have hltA := @jm_R.ltA G h H hR
  obtain ⟨h1, h2, h3, h4⟩ := hR
  refine ⟨hz.symm, by rw [hz, h1]; omega, fun b c' n' hb => ?_, fun b t n' hb => ?_⟩
  · by_cases e : b = h.1
    · subst e
      have hb' : (jm_o c, n) = (jm_o c', n') := by
        have := hb
        simp only [jm_new, if_true] at this
        exact this
      have e2 := jm_o_inj (Prod.mk.inj hb').1
      subst e2
      refine ⟨by rw [h1]; exact h2, r, hc, ?_⟩
      rw [jm_new_at]
      exact hn
    · have hb' : h.2.2.1 b = (jm_o c', n') := by
        have := hb
        simp only [jm_new, if_neg e] at this
        exact this
      obtain ⟨g1, r', g2, g3⟩ := h3 b c' n' hb'
      refine ⟨g1, r', g2, ?_⟩
      rw [jm_new_ne h _ _ f e]
      exact g3.kept (hq b (by rw [h1]; exact hlt hb'))
  · have e : b ≠ h.1 := fun e => by
      subst e
      have := hb
      simp only [jm_new, if_true] at this
      exact jm_oa (Prod.mk.inj this).1
    have hb' : h.2.2.1 b = (jm_a t, n') := by
      have := hb
      simp only [jm_new, if_neg e] at this
      exact this
    obtain ⟨g1, g2, g3⟩ := h4 b t n' hb'
    refine ⟨g1, g2, ?_⟩
    rw [jm_new_ne h _ _ f e, hq b (by rw [h1]; exact hltA hb')]
    exact g3
/-- an array was made -/
theorem jm_R.newA {G : jm_G} {h : jm_H} {H H1 : Heap} (hR : jm_R G h H) {t n : Nat} {f : Nat → Value} (ht : t < jm_nt) (hz : H1.size = h.1 + 1) (hq : ∀ q : Nat, q < h.1 → H1[q]? = H[q]?)
    (hn : H1[h.1]? = some (arrV (G.2.1 t) n f)) : jm_R G (jm_new h (jm_a t) n f) H1 := by
  have hlt := @jm_R.lt G h H hR
  have hltA := @jm_R.ltA G h H hR
  obtain ⟨h1, h2, h3, h4⟩ := hR
  refine ⟨hz.symm, by rw [hz, h1]; omega, fun b c' n' hb => ?_, fun b t' n' hb => ?_⟩
  · have e : b ≠ h.1 := fun e => by
      subst e
      have := hb
      simp only [jm_new, if_true] at this
      exact jm_oa (Prod.mk.inj this.symm).1
    have hb' : h.2.2.1 b = (jm_o c', n') := by
      have := hb
      simp only [jm_new, if_neg e] at this
      exact this
    obtain ⟨g1, r', g2, g3⟩ := h3 b c' n' hb'
    refine ⟨g1, r', g2, ?_⟩
    rw [jm_new_ne h _ _ f e]
    exact g3.kept (hq b (by rw [h1]; exact hlt hb'))
  · by_cases e : b = h.1
    · subst e
      have hb' : (jm_a t, n) = (jm_a t', n') := by
        have := hb
        simp only [jm_new, if_true] at this
        exact this
      have e2 := jm_a_inj (Prod.mk.inj hb').1
      have e3 := (Prod.mk.inj hb').2
      subst e2; subst e3
      refine ⟨by rw [h1]; exact h2, ht, ?_⟩
      rw [jm_new_at]
      exact hn
    · have hb' : h.2.2.1 b = (jm_a t', n') := by
        have := hb
        simp only [jm_new, if_neg e] at this
        exact this
      obtain ⟨g1, g2, g3⟩ := h4 b t' n' hb'
      refine ⟨g1, g2, ?_⟩
      rw [jm_new_ne h _ _ f e, hq b (by rw [h1]; exact hltA hb')]
      exact g3

/-! ===== what else the machine's tables and statics say (words that not every state keeps) ===== -/
def jm_NW : List (String × Nat × MethodName) := [("CellWorks", 11, ⟨"CellWorks$Reader", "<init>", "()V"⟩), ("CellWorks$Reader", 11, ⟨"CellWorks$Tape", "<init>", "()V"⟩), ("CellWorks$Reader", 20, ⟨"CellWorks$Formula", "<init>", "()V"⟩), ("CellWorks", 18, ⟨"CellWorks$Cells", "<init>", "()V"⟩), ("CellWorks", 25, ⟨"CellWorks$Builder", "<init>", "()V"⟩), ("CellWorks$Builder", 11, ⟨"CellWorks$Work", "<init>", "()V"⟩), ("CellWorks", 171, ⟨"CellWorks$Formula", "<init>", "()V"⟩)]
def jm_NC : List String := ["java/lang/UnsupportedOperationException", "java/lang/IllegalArgumentException", "java/util/NoSuchElementException", "java/lang/IndexOutOfBoundsException"]
def jm_ND : List MethodName := [⟨"java/lang/RuntimeException", "<init>", "()V"⟩, ⟨"java/lang/RuntimeException", "<init>", "(Ljava/lang/String;)V"⟩, ⟨"java/lang/Exception", "<init>", "()V"⟩, ⟨"java/lang/Exception", "<init>", "(Ljava/lang/String;)V"⟩, ⟨"java/lang/Throwable", "<init>", "()V"⟩, ⟨"java/lang/Throwable", "<init>", "(Ljava/lang/String;)V"⟩]
def jm_NS : List (Nat × String) := [(42, "the tape would have more than 2000 bytes"), (53, "the tape has not so many bytes"), (146, "the tape is no NAME"), (123, "there is no such name or byte"), (139, "what is none of 0 to 4")]
/-- a static reference of Throwable: where it lies, and that it holds a reference or null -/
def jm_St (n d : String) (A : Nat → Prop) (U : State) (H : Heap) : Prop := ∃ (c : ClassId) (k : Class) (i : Nat) (f : Field) (a : Nat) (cell : Cell) (v : Value), U.vm.findClass "java/lang/Throwable" = some c ∧ U.fieldFound? "java/lang/Throwable" n d = some (c, k, i, f) ∧ f.isStatic = true ∧ k.statics = some a ∧ H[a]? = some cell ∧ cell.vm.isStatics = true ∧ cell.cls = c ∧ f.slot < cell.slots.size ∧ k.staticTypes[f.slot]? = some f.type ∧ cell.slots[f.slot]? = some v ∧ v.isRef = true ∧ ¬ A a
theorem jm_St.moved {n d : String} {A : Nat → Prop} {u U : State} {H : Heap} (hvm : u.vm.Alike U.vm) (h : jm_St n d A u H) : jm_St n d A U H := by
  obtain ⟨c, k, i, f, a, cell, v, h1, h2, h3, h4, h5, h6, h7, h8, h9, h10⟩ := h
  obtain ⟨k', hi', he⟩ := State.fieldFound?_setVm hvm h2
  exact ⟨c, k', i, f, a, cell, v, by rw [hvm.findClass]; exact h1, hi', h3, by rw [he]; exact h4, h5, h6, h7, h8, by rw [he]; exact h9, h10⟩
theorem jm_St.kept {n d : String} {A : Nat → Prop} {U : State} {H H1 : Heap} (h : jm_St n d A U H) (hq : ∀ a : Nat, a < H.size → ¬ A a → H1[a]? = H[a]?) : jm_St n d A U H1 := by
  obtain ⟨c, k, i, f, a, cell, v, h1, h2, h3, h4, h5, h6, h7, h8, h9, h10, h11, h12⟩ := h
  exact ⟨c, k, i, f, a, cell, v, h1, h2, h3, h4, by rw [hq a (Array.getElem?_eq_some_iff.mp h5).1 h12]; exact h5, h6, h7, h8, h9, h10, h11, h12⟩
def jm_N (G : jm_G) (U : State) (H : Heap) : Prop := (∀ q ∈ jm_NW, va_Nw (.methodLinkNest q.1 q.2.1 q.2.2 "CellWorks") U) ∧ va_AO "CellWorks$Cell" U ∧ (∀ q ∈ jm_NC, va_Nw (.castable q q) U) ∧ (∀ x ∈ jm_ND, va_Nw (.declares x) U) ∧
  jm_St "UNASSIGNED_STACK" "[Ljava/lang/StackTraceElement;" (jm_A G) U H ∧ jm_St "SUPPRESSED_SENTINEL" "Ljava/util/List;" (jm_A G) U H ∧ ∀ q ∈ jm_NS, ∃ a, vk_R "CellWorks" q.1 q.2 a U
theorem jm_N.calling {G : jm_G} {U : State} {g : JFrame} {mk : MethodId} {a : Array Value} (h : jm_N G U U.heap) : jm_N G (U.calling g mk a) (U.calling g mk a).heap := by
  obtain ⟨h1, h2, h3, h4, h5, h6, h7⟩ := h
  exact ⟨fun q hq => va_Nw.same (u := U) rfl rfl (h1 q hq), va_AO.moved (u := U) (Vm.Alike.refl U.vm) h2, fun q hq => va_Nw.same (u := U) rfl rfl (h3 q hq), fun x hx => va_Nw.same (u := U) rfl rfl (h4 x hx), jm_St.moved (u := U) (Vm.Alike.refl U.vm) h5, jm_St.moved (u := U) (Vm.Alike.refl U.vm) h6, fun q hq => (h7 q hq).imp fun _ h => vk_R.same (u := U) rfl h⟩
theorem jm_N.warm {G : jm_G} {s U : State} {H : Heap} {locs : List Loc} (hW : s.WarmedH U.vm) (hU : U.heap = H) (hS : va_S (jm_A G) s.heap H locs) (h : jm_N G s s.heap) : jm_N G U U.heap := by
  obtain ⟨h1, h2, h3, h4, h5, h6, h7⟩ := h
  subst hU
  exact ⟨fun q hq => va_Nw.warmM hW (h1 q hq), va_AO.moved hW.alike h2, fun q hq => va_Nw.warmC hW (h3 q hq), fun x hx => va_Nw.warmD hW (h4 x hx), jm_St.moved hW.alike (h5.kept hS.2.1), jm_St.moved hW.alike (h6.kept hS.2.1), fun q hq => (h7 q hq).imp fun _ h => vk_R.warm hW h⟩
theorem jm_N.nest {G : jm_G} {U : State} {H : Heap} (h : jm_N G U H) {own : String} {i : Nat} {y : MethodName} (hq : (own, i, y) ∈ jm_NW) : va_Nw (.methodLinkNest own i y "CellWorks") U := h.1 (own, i, y) hq

/-! ===== the judgement ===== -/
/-- a method: name, code, how many locals, what it returns, its exception table -/
abbrev jm_r : Type := Option Value ⊕ String
abbrev jm_E : Type := List Frame → Array Value → State → State → Prop
/-- how a frame must end: frames, locals' words, and by the end (answer, heap) cells, slots, what the machine's end must be -/
abbrev jm_Z : Type := Nat × Nat × (jm_r → jm_H → Nat × Nat × jm_E)
def jm_rm (Z : jm_Z) (r : jm_r) (h : jm_H) : Room := { frames := Z.1, cells := (Z.2.2 r h).1, slots := (Z.2.2 r h).2.1, locals := Z.2.1 }
def jm_Cx (G : jm_G) (M : jm_M) (p : Program) (s : State) (m : MethodId) (args : Array Value) (meth : Method) (c : Code) : Prop :=
  p.tables.exec = Jvm.exec ∧ c.code = M.2.1 ∧ c.maxLocals = M.2.2.1 ∧ meth.sig.returnType = M.2.2.2.1 ∧ meth.locks = false ∧ meth.name = M.1.name ∧ s.vm.findClass M.1.cls = some m.cls ∧ c.exceptionTable.toList = M.2.2.2.2 ∧ (∀ w ∈ jm_W, w.before args s = true) ∧ jm_K G s ∧ jm_N G s s.heap
def jm_V (l : Launch) (G : jm_G) (M : jm_M) (n0 s0 : Nat) (R : Room) (E : jm_E) (pc : Nat) (lv : List (Nat × Value)) (st : List Value) (h : jm_H) : Prop :=
  ∀ (p : Program) (e : Env) (s : State) (m : MethodId) (args : Array Value) (below : List Frame) (meth : Method) (c : Code) (H : Heap) (locs : List Loc) (ls : Array Slot),
    jm_Cx G M p s m args meth c → n0 = s.heap.size → n0 ≤ h.1 → s0 ≤ h.2.1 → jm_R G h H → va_S (jm_A G) s.heap H locs → lv_has ls M.2.2.1 lv →
    W p l e R s m args below meth c H locs (h.1 - n0) (h.2.1 - s0) (E below args s) (F0 m pc ls st)
def jm_X (l : Launch) (G : jm_G) (M : jm_M) (n0 s0 : Nat) (Z : jm_Z) (Post : jm_r → jm_H → Prop) (pc : Nat) (lv : List (Nat × Value)) (st : List Value) (h : jm_H) : Prop :=
  ∃ (r : jm_r) (h' : jm_H), h.1 ≤ h'.1 ∧ h.2.1 ≤ h'.2.1 ∧ h'.1 - n0 ≤ (Z.2.2 r h').1 ∧ h'.2.1 - s0 ≤ (Z.2.2 r h').2.1 ∧ Post r h' ∧ jm_V l G M n0 s0 (jm_rm Z r h') (Z.2.2 r h').2.2 pc lv st h
section JX
variable {l : Launch} {G : jm_G} {M : jm_M} {n0 s0 : Nat} {Z : jm_Z} {Post : jm_r → jm_H → Prop} {pc : Nat} {lv : List (Nat × Value)} {st : List Value} {h : jm_H}
theorem jx_imp {Post' : jm_r → jm_H → Prop} (k : jm_X l G M n0 s0 Z Post pc lv st h) (hp : ∀ r h', Post r h' → Post' r h') : jm_X l G M n0 s0 Z Post' pc lv st h := by
  obtain ⟨r, h', a1, a2, a3, a4, a5, v⟩ := k
  exact ⟨r, h', a1, a2, a3, a4, hp r h' a5, v⟩
theorem jx_lv {lv' : List (Nat × Value)} (ks : List Nat) (hl : lv_pick lv ks = lv') (k : jm_X l G M n0 s0 Z Post pc lv' st h) : jm_X l G M n0 s0 Z Post pc lv st h := by
  obtain ⟨r, h', a1, a2, a3, a4, a5, v⟩ := k
  exact ⟨r, h', a1, a2, a3, a4, a5, fun p e s m args below meth c H locs ls C n1 n2 n3 hR hS hv => v p e s m args below meth c H locs ls C n1 n2 n3 hR hS (lv_sub hv ks hl)⟩

theorem jx_iconst {n : Int} {v0 : Int32} (hd : decode M.2.1 pc = .ok (.iconst n, 1)) (hv0 : Int32.ofInt n = v0) (k : jm_X l G M n0 s0 Z Post (pc + 1) lv (.int v0 :: st) h) : jm_X l G M n0 s0 Z Post pc lv st h := by
  obtain ⟨r, h', a1, a2, a3, a4, a5, v⟩ := k
  exact ⟨r, h', a1, a2, a3, a4, a5, fun p e s m args below meth c H locs ls C n1 n2 n3 hR hS hv => lv_iconst C.1 C.2.1 hd hv0 (v p e s m args below meth c H locs ls C n1 n2 n3 hR hS hv)⟩
theorem jx_bipush {n : Int} {v0 : Int32} (hd : decode M.2.1 pc = .ok (.bipush n, 2)) (hv0 : (Int8.ofInt n).toInt32 = v0) (k : jm_X l G M n0 s0 Z Post (pc + 2) lv (.int v0 :: st) h) : jm_X l G M n0 s0 Z Post pc lv st h := by
  obtain ⟨r, h', a1, a2, a3, a4, a5, v⟩ := k
  exact ⟨r, h', a1, a2, a3, a4, a5, fun p e s m args below meth c H locs ls C n1 n2 n3 hR hS hv => lv_bipush C.1 C.2.1 hd hv0 (v p e s m args below meth c H locs ls C n1 n2 n3 hR hS hv)⟩
theorem jx_sipush {n : Int} {v0 : Int32} (hd : decode M.2.1 pc = .ok (.sipush n, 3)) (hv0 : (Int16.ofInt n).toInt32 = v0) (k : jm_X l G M n0 s0 Z Post (pc + 3) lv (.int v0 :: st) h) : jm_X l G M n0 s0 Z Post pc lv st h := by
  obtain ⟨r, h', a1, a2, a3, a4, a5, v⟩ := k
  exact ⟨r, h', a1, a2, a3, a4, a5, fun p e s m args below meth c H locs ls C n1 n2 n3 hR hS hv => lv_sipush C.1 C.2.1 hd hv0 (v p e s m args below meth c H locs ls C n1 n2 n3 hR hS hv)⟩
theorem jx_lconst {n : Fin 2} {v0 : Int64} (hd : decode M.2.1 pc = .ok (.lconst n, 1)) (hv0 : Int64.ofNat (n : Nat) = v0) (k : jm_X l G M n0 s0 Z Post (pc + 1) lv (.long v0 :: st) h) : jm_X l G M n0 s0 Z Post pc lv st h := by
  obtain ⟨r, h', a1, a2, a3, a4, a5, v⟩ := k
  exact ⟨r, h', a1, a2, a3, a4, a5, fun p e s m args below meth c H locs ls C n1 n2 n3 hR hS hv => lv_lconst C.1 C.2.1 hd hv0 (v p e s m args below meth c H locs ls C n1 n2 n3 hR hS hv)⟩
theorem jx_null  (hd : decode M.2.1 pc = .ok (.aconst_null, 1)) (k : jm_X l G M n0 s0 Z Post (pc + 1) lv (.null :: st) h) : jm_X l G M n0 s0 Z Post pc lv st h := by
  obtain ⟨r, h', a1, a2, a3, a4, a5, v⟩ := k
  exact ⟨r, h', a1, a2, a3, a4, a5, fun p e s m args below meth c H locs ls C n1 n2 n3 hR hS hv => lv_null C.1 C.2.1 hd (v p e s m args below meth c H locs ls C n1 n2 n3 hR hS hv)⟩
theorem jx_ldc {i : Nat} {v0 : Int32} (hd : decode M.2.1 pc = .ok (.ldc i, 2)) (hw : Cond.constant M.1.cls i v0 ∈ jm_W) (k : jm_X l G M n0 s0 Z Post (pc + 2) lv (.int v0 :: st) h) : jm_X l G M n0 s0 Z Post pc lv st h := by
  obtain ⟨r, h', a1, a2, a3, a4, a5, v⟩ := k
  exact ⟨r, h', a1, a2, a3, a4, a5, fun p e s m args below meth c H locs ls C n1 n2 n3 hR hS hv => lv_ldc C.1 C.2.1 C.2.2.2.2.2.2.1 (C.2.2.2.2.2.2.2.2.1 _ hw) hd (v p e s m args below meth c H locs ls C n1 n2 n3 hR hS hv)⟩
theorem jx_ldc2 {i : Nat} {v0 : Int64} (hd : decode M.2.1 pc = .ok (.ldc2_w i, 3)) (hw : Cond.constantLong M.1.cls i v0 ∈ jm_W) (k : jm_X l G M n0 s0 Z Post (pc + 3) lv (.long v0 :: st) h) : jm_X l G M n0 s0 Z Post pc lv st h := by
  obtain ⟨r, h', a1, a2, a3, a4, a5, v⟩ := k
  exact ⟨r, h', a1, a2, a3, a4, a5, fun p e s m args below meth c H locs ls C n1 n2 n3 hR hS hv => lv_ldc2 C.1 C.2.1 C.2.2.2.2.2.2.1 (C.2.2.2.2.2.2.2.2.1 _ hw) hd (v p e s m args below meth c H locs ls C n1 n2 n3 hR hS hv)⟩
theorem jx_iload_n {k0 : Fin 4} {x : Int32} (hd : decode M.2.1 pc = .ok (.iload_n k0, 1)) (q : Nat) (hx : lv[q]? = some ((k0 : Nat), .int x)) (k : jm_X l G M n0 s0 Z Post (pc + 1) lv (.int x :: st) h) : jm_X l G M n0 s0 Z Post pc lv st h := by
  obtain ⟨r, h', a1, a2, a3, a4, a5, v⟩ := k
  exact ⟨r, h', a1, a2, a3, a4, a5, fun p e s m args below meth c H locs ls C n1 n2 n3 hR hS hv => lv_iload_n C.1 C.2.1 hd rfl (lv_at hv q hx) (v p e s m args below meth c H locs ls C n1 n2 n3 hR hS hv)⟩
theorem jx_iload {i : Nat} {x : Int32} (hd : decode M.2.1 pc = .ok (.iload i, 2)) (q : Nat) (hx : lv[q]? = some (i, .int x)) (k : jm_X l G M n0 s0 Z Post (pc + 2) lv (.int x :: st) h) : jm_X l G M n0 s0 Z Post pc lv st h := by
  obtain ⟨r, h', a1, a2, a3, a4, a5, v⟩ := k
  exact ⟨r, h', a1, a2, a3, a4, a5, fun p e s m args below meth c H locs ls C n1 n2 n3 hR hS hv => lv_iload C.1 C.2.1 hd (lv_at hv q hx) (v p e s m args below meth c H locs ls C n1 n2 n3 hR hS hv)⟩
theorem jx_lload_n {k0 : Fin 4} {x : Int64} (hd : decode M.2.1 pc = .ok (.lload_n k0, 1)) (q : Nat) (hx : lv[q]? = some ((k0 : Nat), .long x)) (k : jm_X l G M n0 s0 Z Post (pc + 1) lv (.long x :: st) h) : jm_X l G M n0 s0 Z Post pc lv st h := by
  obtain ⟨r, h', a1, a2, a3, a4, a5, v⟩ := k
  exact ⟨r, h', a1, a2, a3, a4, a5, fun p e s m args below meth c H locs ls C n1 n2 n3 hR hS hv => lv_lload_n C.1 C.2.1 hd rfl (lv_at hv q hx) (v p e s m args below meth c H locs ls C n1 n2 n3 hR hS hv)⟩
theorem jx_lload {i : Nat} {x : Int64} (hd : decode M.2.1 pc = .ok (.lload i, 2)) (q : Nat) (hx : lv[q]? = some (i, .long x)) (k : jm_X l G M n0 s0 Z Post (pc + 2) lv (.long x :: st) h) : jm_X l G M n0 s0 Z Post pc lv st h := by
  obtain ⟨r, h', a1, a2, a3, a4, a5, v⟩ := k
  exact ⟨r, h', a1, a2, a3, a4, a5, fun p e s m args below meth c H locs ls C n1 n2 n3 hR hS hv => lv_lload C.1 C.2.1 hd (lv_at hv q hx) (v p e s m args below meth c H locs ls C n1 n2 n3 hR hS hv)⟩
theorem jx_aload_n {k0 : Fin 4} {x : Nat} (hd : decode M.2.1 pc = .ok (.aload_n k0, 1)) (q : Nat) (hx : lv[q]? = some ((k0 : Nat), .ref x)) (k : jm_X l G M n0 s0 Z Post (pc + 1) lv (.ref x :: st) h) : jm_X l G M n0 s0 Z Post pc lv st h := by
  obtain ⟨r, h', a1, a2, a3, a4, a5, v⟩ := k
  exact ⟨r, h', a1, a2, a3, a4, a5, fun p e s m args below meth c H locs ls C n1 n2 n3 hR hS hv => lv_aload_n C.1 C.2.1 hd rfl (lv_at hv q hx) (v p e s m args below meth c H locs ls C n1 n2 n3 hR hS hv)⟩
theorem jx_aload {i : Nat} {x : Nat} (hd : decode M.2.1 pc = .ok (.aload i, 2)) (q : Nat) (hx : lv[q]? = some (i, .ref x)) (k : jm_X l G M n0 s0 Z Post (pc + 2) lv (.ref x :: st) h) : jm_X l G M n0 s0 Z Post pc lv st h := by
  obtain ⟨r, h', a1, a2, a3, a4, a5, v⟩ := k
  exact ⟨r, h', a1, a2, a3, a4, a5, fun p e s m args below meth c H locs ls C n1 n2 n3 hR hS hv => lv_aload C.1 C.2.1 hd (lv_at hv q hx) (v p e s m args below meth c H locs ls C n1 n2 n3 hR hS hv)⟩
theorem jx_aload_nN {k0 : Fin 4} (hd : decode M.2.1 pc = .ok (.aload_n k0, 1)) (q : Nat) (hx : lv[q]? = some ((k0 : Nat), .null)) (k : jm_X l G M n0 s0 Z Post (pc + 1) lv (.null :: st) h) : jm_X l G M n0 s0 Z Post pc lv st h := by
  obtain ⟨r, h', a1, a2, a3, a4, a5, v⟩ := k
  exact ⟨r, h', a1, a2, a3, a4, a5, fun p e s m args below meth c H locs ls C n1 n2 n3 hR hS hv => lv_aload_nN C.1 C.2.1 hd rfl (lv_at hv q hx) (v p e s m args below meth c H locs ls C n1 n2 n3 hR hS hv)⟩
theorem jx_aloadN {i : Nat} (hd : decode M.2.1 pc = .ok (.aload i, 2)) (q : Nat) (hx : lv[q]? = some (i, .null)) (k : jm_X l G M n0 s0 Z Post (pc + 2) lv (.null :: st) h) : jm_X l G M n0 s0 Z Post pc lv st h := by
  obtain ⟨r, h', a1, a2, a3, a4, a5, v⟩ := k
  exact ⟨r, h', a1, a2, a3, a4, a5, fun p e s m args below meth c H locs ls C n1 n2 n3 hR hS hv => lv_aloadN C.1 C.2.1 hd (lv_at hv q hx) (v p e s m args below meth c H locs ls C n1 n2 n3 hR hS hv)⟩
theorem jx_istore_n {k0 : Fin 4} {lv' : List (Nat × Value)} {x : Int32} (hd : decode M.2.1 pc = .ok (.istore_n k0, 1)) (hn : (k0 : Nat) < M.2.2.1) (hl : ((k0 : Nat), Value.int x) :: lv.filter (fun q => !(q.1 == (k0 : Nat)) && !(q.1 + 1 == (k0 : Nat) && q.2.category == 2)) = lv') (k : jm_X l G M n0 s0 Z Post (pc + 1) lv' st h) : jm_X l G M n0 s0 Z Post pc lv (Value.int x :: st) h := by
  obtain ⟨r, h', a1, a2, a3, a4, a5, v⟩ := k
  exact ⟨r, h', a1, a2, a3, a4, a5, fun p e s m args below meth c H locs ls C n1 n2 n3 hR hS hv => lv_istore_n C.1 C.2.1 hd rfl hv hn hl (fun ls hv => v p e s m args below meth c H locs ls C n1 n2 n3 hR hS hv)⟩
theorem jx_istore {i : Nat} {lv' : List (Nat × Value)} {x : Int32} (hd : decode M.2.1 pc = .ok (.istore i, 2)) (hn : i < M.2.2.1) (hl : (i, Value.int x) :: lv.filter (fun q => !(q.1 == i) && !(q.1 + 1 == i && q.2.category == 2)) = lv') (k : jm_X l G M n0 s0 Z Post (pc + 2) lv' st h) : jm_X l G M n0 s0 Z Post pc lv (Value.int x :: st) h := by
  obtain ⟨r, h', a1, a2, a3, a4, a5, v⟩ := k
  exact ⟨r, h', a1, a2, a3, a4, a5, fun p e s m args below meth c H locs ls C n1 n2 n3 hR hS hv => lv_istore C.1 C.2.1 hd hv hn hl (fun ls hv => v p e s m args below meth c H locs ls C n1 n2 n3 hR hS hv)⟩
theorem jx_lstore_n {k0 : Fin 4} {lv' : List (Nat × Value)} {x : Int64} (hd : decode M.2.1 pc = .ok (.lstore_n k0, 1)) (hn : (k0 : Nat) + 1 < M.2.2.1) (hl : ((k0 : Nat), Value.long x) :: lv.filter (fun q => !(q.1 == (k0 : Nat)) && (!(q.1 == (k0 : Nat) + 1) && !(q.1 + 1 == (k0 : Nat) && q.2.category == 2))) = lv') (k : jm_X l G M n0 s0 Z Post (pc + 1) lv' st h) : jm_X l G M n0 s0 Z Post pc lv (Value.long x :: st) h := by
  obtain ⟨r, h', a1, a2, a3, a4, a5, v⟩ := k
  exact ⟨r, h', a1, a2, a3, a4, a5, fun p e s m args below meth c H locs ls C n1 n2 n3 hR hS hv => lv_lstore_n C.1 C.2.1 hd rfl hv hn hl (fun ls hv => v p e s m args below meth c H locs ls C n1 n2 n3 hR hS hv)⟩
theorem jx_lstore {i : Nat} {lv' : List (Nat × Value)} {x : Int64} (hd : decode M.2.1 pc = .ok (.lstore i, 2)) (hn : i + 1 < M.2.2.1) (hl : (i, Value.long x) :: lv.filter (fun q => !(q.1 == i) && (!(q.1 == i + 1) && !(q.1 + 1 == i && q.2.category == 2))) = lv') (k : jm_X l G M n0 s0 Z Post (pc + 2) lv' st h) : jm_X l G M n0 s0 Z Post pc lv (Value.long x :: st) h := by
  obtain ⟨r, h', a1, a2, a3, a4, a5, v⟩ := k
  exact ⟨r, h', a1, a2, a3, a4, a5, fun p e s m args below meth c H locs ls C n1 n2 n3 hR hS hv => lv_lstore C.1 C.2.1 hd hv hn hl (fun ls hv => v p e s m args below meth c H locs ls C n1 n2 n3 hR hS hv)⟩
theorem jx_astore_n {k0 : Fin 4} {lv' : List (Nat × Value)} {x : Nat} (hd : decode M.2.1 pc = .ok (.astore_n k0, 1)) (hn : (k0 : Nat) < M.2.2.1) (hl : ((k0 : Nat), Value.ref x) :: lv.filter (fun q => !(q.1 == (k0 : Nat)) && !(q.1 + 1 == (k0 : Nat) && q.2.category == 2)) = lv') (k : jm_X l G M n0 s0 Z Post (pc + 1) lv' st h) : jm_X l G M n0 s0 Z Post pc lv (Value.ref x :: st) h := by
  obtain ⟨r, h', a1, a2, a3, a4, a5, v⟩ := k
  exact ⟨r, h', a1, a2, a3, a4, a5, fun p e s m args below meth c H locs ls C n1 n2 n3 hR hS hv => lv_astore_n C.1 C.2.1 hd rfl hv hn hl (fun ls hv => v p e s m args below meth c H locs ls C n1 n2 n3 hR hS hv)⟩
theorem jx_astore {i : Nat} {lv' : List (Nat × Value)} {x : Nat} (hd : decode M.2.1 pc = .ok (.astore i, 2)) (hn : i < M.2.2.1) (hl : (i, Value.ref x) :: lv.filter (fun q => !(q.1 == i) && !(q.1 + 1 == i && q.2.category == 2)) = lv') (k : jm_X l G M n0 s0 Z Post (pc + 2) lv' st h) : jm_X l G M n0 s0 Z Post pc lv (Value.ref x :: st) h := by
  obtain ⟨r, h', a1, a2, a3, a4, a5, v⟩ := k
  exact ⟨r, h', a1, a2, a3, a4, a5, fun p e s m args below meth c H locs ls C n1 n2 n3 hR hS hv => lv_astore C.1 C.2.1 hd hv hn hl (fun ls hv => v p e s m args below meth c H locs ls C n1 n2 n3 hR hS hv)⟩
theorem jx_astore_nN {k0 : Fin 4} {lv' : List (Nat × Value)}  (hd : decode M.2.1 pc = .ok (.astore_n k0, 1)) (hn : (k0 : Nat) < M.2.2.1) (hl : ((k0 : Nat), Value.null) :: lv.filter (fun q => !(q.1 == (k0 : Nat)) && !(q.1 + 1 == (k0 : Nat) && q.2.category == 2)) = lv') (k : jm_X l G M n0 s0 Z Post (pc + 1) lv' st h) : jm_X l G M n0 s0 Z Post pc lv (Value.null :: st) h := by
  obtain ⟨r, h', a1, a2, a3, a4, a5, v⟩ := k
  exact ⟨r, h', a1, a2, a3, a4, a5, fun p e s m args below meth c H locs ls C n1 n2 n3 hR hS hv => lv_astore_nN C.1 C.2.1 hd rfl hv hn hl (fun ls hv => v p e s m args below meth c H locs ls C n1 n2 n3 hR hS hv)⟩
theorem jx_astoreN {i : Nat} {lv' : List (Nat × Value)}  (hd : decode M.2.1 pc = .ok (.astore i, 2)) (hn : i < M.2.2.1) (hl : (i, Value.null) :: lv.filter (fun q => !(q.1 == i) && !(q.1 + 1 == i && q.2.category == 2)) = lv') (k : jm_X l G M n0 s0 Z Post (pc + 2) lv' st h) : jm_X l G M n0 s0 Z Post pc lv (Value.null :: st) h := by
  obtain ⟨r, h', a1, a2, a3, a4, a5, v⟩ := k
  exact ⟨r, h', a1, a2, a3, a4, a5, fun p e s m args below meth c H locs ls C n1 n2 n3 hR hS hv => lv_astoreN C.1 C.2.1 hd hv hn hl (fun ls hv => v p e s m args below meth c H locs ls C n1 n2 n3 hR hS hv)⟩
theorem jx_iinc {i : Nat} {n : Int} {x v0 : Int32} {lv' : List (Nat × Value)} (hd : decode M.2.1 pc = .ok (.iinc i n, 3)) (q : Nat) (hx : lv[q]? = some (i, .int x)) (hv0 : x + Int32.ofInt n = v0) (hn : i < M.2.2.1) (hl : (i, Value.int v0) :: lv.filter (fun q => !(q.1 == i) && !(q.1 + 1 == i && q.2.category == 2)) = lv') (k : jm_X l G M n0 s0 Z Post (pc + 3) lv' st h) : jm_X l G M n0 s0 Z Post pc lv st h := by
  obtain ⟨r, h', a1, a2, a3, a4, a5, v⟩ := k
  exact ⟨r, h', a1, a2, a3, a4, a5, fun p e s m args below meth c H locs ls C n1 n2 n3 hR hS hv => lv_iinc C.1 C.2.1 hd hv hx hv0 hn hl (fun ls hv => v p e s m args below meth c H locs ls C n1 n2 n3 hR hS hv)⟩
theorem jx_iadd {x y : Int32} (hd : decode M.2.1 pc = .ok (.iadd, 1)) (k : jm_X l G M n0 s0 Z Post (pc + 1) lv (.int (x + y) :: st) h) : jm_X l G M n0 s0 Z Post pc lv (.int y :: .int x :: st) h := by
  obtain ⟨r, h', a1, a2, a3, a4, a5, v⟩ := k
  exact ⟨r, h', a1, a2, a3, a4, a5, fun p e s m args below meth c H locs ls C n1 n2 n3 hR hS hv => lv_iadd C.1 C.2.1 hd (v p e s m args below meth c H locs ls C n1 n2 n3 hR hS hv)⟩
theorem jx_isub {x y : Int32} (hd : decode M.2.1 pc = .ok (.isub, 1)) (k : jm_X l G M n0 s0 Z Post (pc + 1) lv (.int (x - y) :: st) h) : jm_X l G M n0 s0 Z Post pc lv (.int y :: .int x :: st) h := by
  obtain ⟨r, h', a1, a2, a3, a4, a5, v⟩ := k
  exact ⟨r, h', a1, a2, a3, a4, a5, fun p e s m args below meth c H locs ls C n1 n2 n3 hR hS hv => lv_isub C.1 C.2.1 hd (v p e s m args below meth c H locs ls C n1 n2 n3 hR hS hv)⟩
theorem jx_imul {x y : Int32} (hd : decode M.2.1 pc = .ok (.imul, 1)) (k : jm_X l G M n0 s0 Z Post (pc + 1) lv (.int (x * y) :: st) h) : jm_X l G M n0 s0 Z Post pc lv (.int y :: .int x :: st) h := by
  obtain ⟨r, h', a1, a2, a3, a4, a5, v⟩ := k
  exact ⟨r, h', a1, a2, a3, a4, a5, fun p e s m args below meth c H locs ls C n1 n2 n3 hR hS hv => lv_imul C.1 C.2.1 hd (v p e s m args below meth c H locs ls C n1 n2 n3 hR hS hv)⟩
theorem jx_iand {x y : Int32} (hd : decode M.2.1 pc = .ok (.iand, 1)) (k : jm_X l G M n0 s0 Z Post (pc + 1) lv (.int (x &&& y) :: st) h) : jm_X l G M n0 s0 Z Post pc lv (.int y :: .int x :: st) h := by
  obtain ⟨r, h', a1, a2, a3, a4, a5, v⟩ := k
  exact ⟨r, h', a1, a2, a3, a4, a5, fun p e s m args below meth c H locs ls C n1 n2 n3 hR hS hv => lv_iand C.1 C.2.1 hd (v p e s m args below meth c H locs ls C n1 n2 n3 hR hS hv)⟩
theorem jx_ior {x y : Int32} (hd : decode M.2.1 pc = .ok (.ior, 1)) (k : jm_X l G M n0 s0 Z Post (pc + 1) lv (.int (x ||| y) :: st) h) : jm_X l G M n0 s0 Z Post pc lv (.int y :: .int x :: st) h := by
  obtain ⟨r, h', a1, a2, a3, a4, a5, v⟩ := k
  exact ⟨r, h', a1, a2, a3, a4, a5, fun p e s m args below meth c H locs ls C n1 n2 n3 hR hS hv => lv_ior C.1 C.2.1 hd (v p e s m args below meth c H locs ls C n1 n2 n3 hR hS hv)⟩
theorem jx_ixor {x y : Int32} (hd : decode M.2.1 pc = .ok (.ixor, 1)) (k : jm_X l G M n0 s0 Z Post (pc + 1) lv (.int (x ^^^ y) :: st) h) : jm_X l G M n0 s0 Z Post pc lv (.int y :: .int x :: st) h := by
  obtain ⟨r, h', a1, a2, a3, a4, a5, v⟩ := k
  exact ⟨r, h', a1, a2, a3, a4, a5, fun p e s m args below meth c H locs ls C n1 n2 n3 hR hS hv => lv_ixor C.1 C.2.1 hd (v p e s m args below meth c H locs ls C n1 n2 n3 hR hS hv)⟩
theorem jx_ishl {x y : Int32} (hd : decode M.2.1 pc = .ok (.ishl, 1)) (k : jm_X l G M n0 s0 Z Post (pc + 1) lv (.int (x <<< (y &&& 31)) :: st) h) : jm_X l G M n0 s0 Z Post pc lv (.int y :: .int x :: st) h := by
  obtain ⟨r, h', a1, a2, a3, a4, a5, v⟩ := k
  exact ⟨r, h', a1, a2, a3, a4, a5, fun p e s m args below meth c H locs ls C n1 n2 n3 hR hS hv => lv_ishl C.1 C.2.1 hd (v p e s m args below meth c H locs ls C n1 n2 n3 hR hS hv)⟩
theorem jx_ishr {x y : Int32} (hd : decode M.2.1 pc = .ok (.ishr, 1)) (k : jm_X l G M n0 s0 Z Post (pc + 1) lv (.int (x >>> (y &&& 31)) :: st) h) : jm_X l G M n0 s0 Z Post pc lv (.int y :: .int x :: st) h := by
  obtain ⟨r, h', a1, a2, a3, a4, a5, v⟩ := k
  exact ⟨r, h', a1, a2, a3, a4, a5, fun p e s m args below meth c H locs ls C n1 n2 n3 hR hS hv => lv_ishr C.1 C.2.1 hd (v p e s m args below meth c H locs ls C n1 n2 n3 hR hS hv)⟩
theorem jx_idiv {x y : Int32} (hd : decode M.2.1 pc = .ok (.idiv, 1)) (hne : ¬ y = 0) (k : jm_X l G M n0 s0 Z Post (pc + 1) lv (.int (x / y) :: st) h) : jm_X l G M n0 s0 Z Post pc lv (.int y :: .int x :: st) h := by
  obtain ⟨r, h', a1, a2, a3, a4, a5, v⟩ := k
  exact ⟨r, h', a1, a2, a3, a4, a5, fun p e s m args below meth c H locs ls C n1 n2 n3 hR hS hv => lv_idiv C.1 C.2.1 hd hne (v p e s m args below meth c H locs ls C n1 n2 n3 hR hS hv)⟩
theorem jx_irem {x y : Int32} (hd : decode M.2.1 pc = .ok (.irem, 1)) (hne : ¬ y = 0) (k : jm_X l G M n0 s0 Z Post (pc + 1) lv (.int (x - x / y * y) :: st) h) : jm_X l G M n0 s0 Z Post pc lv (.int y :: .int x :: st) h := by
  obtain ⟨r, h', a1, a2, a3, a4, a5, v⟩ := k
  exact ⟨r, h', a1, a2, a3, a4, a5, fun p e s m args below meth c H locs ls C n1 n2 n3 hR hS hv => lv_irem C.1 C.2.1 hd hne (v p e s m args below meth c H locs ls C n1 n2 n3 hR hS hv)⟩
theorem jx_ineg {x : Int32} (hd : decode M.2.1 pc = .ok (.ineg, 1)) (k : jm_X l G M n0 s0 Z Post (pc + 1) lv (.int (-x) :: st) h) : jm_X l G M n0 s0 Z Post pc lv (.int x :: st) h := by
  obtain ⟨r, h', a1, a2, a3, a4, a5, v⟩ := k
  exact ⟨r, h', a1, a2, a3, a4, a5, fun p e s m args below meth c H locs ls C n1 n2 n3 hR hS hv => lv_ineg C.1 C.2.1 hd (v p e s m args below meth c H locs ls C n1 n2 n3 hR hS hv)⟩
theorem jx_iushr {x y : Int32} (hd : decode M.2.1 pc = .ok (.iushr, 1)) (k : jm_X l G M n0 s0 Z Post (pc + 1) lv (.int ((x.toUInt32 >>> (y.toUInt32 &&& Int32.toUInt32 31)).toInt32) :: st) h) : jm_X l G M n0 s0 Z Post pc lv (.int y :: .int x :: st) h := by
  obtain ⟨r, h', a1, a2, a3, a4, a5, v⟩ := k
  exact ⟨r, h', a1, a2, a3, a4, a5, fun p e s m args below meth c H locs ls C n1 n2 n3 hR hS hv => lv_iushr C.1 C.2.1 hd rfl (v p e s m args below meth c H locs ls C n1 n2 n3 hR hS hv)⟩
theorem jx_ladd {x y : Int64} (hd : decode M.2.1 pc = .ok (.ladd, 1)) (k : jm_X l G M n0 s0 Z Post (pc + 1) lv (.long (x + y) :: st) h) : jm_X l G M n0 s0 Z Post pc lv (.long y :: .long x :: st) h := by
  obtain ⟨r, h', a1, a2, a3, a4, a5, v⟩ := k
  exact ⟨r, h', a1, a2, a3, a4, a5, fun p e s m args below meth c H locs ls C n1 n2 n3 hR hS hv => lv_ladd C.1 C.2.1 hd (v p e s m args below meth c H locs ls C n1 n2 n3 hR hS hv)⟩
theorem jx_lsub {x y : Int64} (hd : decode M.2.1 pc = .ok (.lsub, 1)) (k : jm_X l G M n0 s0 Z Post (pc + 1) lv (.long (x - y) :: st) h) : jm_X l G M n0 s0 Z Post pc lv (.long y :: .long x :: st) h := by
  obtain ⟨r, h', a1, a2, a3, a4, a5, v⟩ := k
  exact ⟨r, h', a1, a2, a3, a4, a5, fun p e s m args below meth c H locs ls C n1 n2 n3 hR hS hv => lv_lsub C.1 C.2.1 hd (v p e s m args below meth c H locs ls C n1 n2 n3 hR hS hv)⟩
theorem jx_lmul {x y : Int64} (hd : decode M.2.1 pc = .ok (.lmul, 1)) (k : jm_X l G M n0 s0 Z Post (pc + 1) lv (.long (x * y) :: st) h) : jm_X l G M n0 s0 Z Post pc lv (.long y :: .long x :: st) h := by
  obtain ⟨r, h', a1, a2, a3, a4, a5, v⟩ := k
  exact ⟨r, h', a1, a2, a3, a4, a5, fun p e s m args below meth c H locs ls C n1 n2 n3 hR hS hv => lv_lmul C.1 C.2.1 hd (v p e s m args below meth c H locs ls C n1 n2 n3 hR hS hv)⟩
theorem jx_land {x y : Int64} (hd : decode M.2.1 pc = .ok (.land, 1)) (k : jm_X l G M n0 s0 Z Post (pc + 1) lv (.long (x &&& y) :: st) h) : jm_X l G M n0 s0 Z Post pc lv (.long y :: .long x :: st) h := by
  obtain ⟨r, h', a1, a2, a3, a4, a5, v⟩ := k
  exact ⟨r, h', a1, a2, a3, a4, a5, fun p e s m args below meth c H locs ls C n1 n2 n3 hR hS hv => lv_land C.1 C.2.1 hd (v p e s m args below meth c H locs ls C n1 n2 n3 hR hS hv)⟩
theorem jx_lor {x y : Int64} (hd : decode M.2.1 pc = .ok (.lor, 1)) (k : jm_X l G M n0 s0 Z Post (pc + 1) lv (.long (x ||| y) :: st) h) : jm_X l G M n0 s0 Z Post pc lv (.long y :: .long x :: st) h := by
  obtain ⟨r, h', a1, a2, a3, a4, a5, v⟩ := k
  exact ⟨r, h', a1, a2, a3, a4, a5, fun p e s m args below meth c H locs ls C n1 n2 n3 hR hS hv => lv_lor C.1 C.2.1 hd (v p e s m args below meth c H locs ls C n1 n2 n3 hR hS hv)⟩
theorem jx_lxor {x y : Int64} (hd : decode M.2.1 pc = .ok (.lxor, 1)) (k : jm_X l G M n0 s0 Z Post (pc + 1) lv (.long (x ^^^ y) :: st) h) : jm_X l G M n0 s0 Z Post pc lv (.long y :: .long x :: st) h := by
  obtain ⟨r, h', a1, a2, a3, a4, a5, v⟩ := k
  exact ⟨r, h', a1, a2, a3, a4, a5, fun p e s m args below meth c H locs ls C n1 n2 n3 hR hS hv => lv_lxor C.1 C.2.1 hd (v p e s m args below meth c H locs ls C n1 n2 n3 hR hS hv)⟩
theorem jx_ldiv {x y : Int64} (hd : decode M.2.1 pc = .ok (.ldiv, 1)) (hne : ¬ y = 0) (k : jm_X l G M n0 s0 Z Post (pc + 1) lv (.long (x / y) :: st) h) : jm_X l G M n0 s0 Z Post pc lv (.long y :: .long x :: st) h := by
  obtain ⟨r, h', a1, a2, a3, a4, a5, v⟩ := k
  exact ⟨r, h', a1, a2, a3, a4, a5, fun p e s m args below meth c H locs ls C n1 n2 n3 hR hS hv => lv_ldiv C.1 C.2.1 hd hne (v p e s m args below meth c H locs ls C n1 n2 n3 hR hS hv)⟩
theorem jx_lrem {x y : Int64} (hd : decode M.2.1 pc = .ok (.lrem, 1)) (hne : ¬ y = 0) (k : jm_X l G M n0 s0 Z Post (pc + 1) lv (.long (x - x / y * y) :: st) h) : jm_X l G M n0 s0 Z Post pc lv (.long y :: .long x :: st) h := by
  obtain ⟨r, h', a1, a2, a3, a4, a5, v⟩ := k
  exact ⟨r, h', a1, a2, a3, a4, a5, fun p e s m args below meth c H locs ls C n1 n2 n3 hR hS hv => lv_lrem C.1 C.2.1 hd hne (v p e s m args below meth c H locs ls C n1 n2 n3 hR hS hv)⟩
theorem jx_lneg {x : Int64} (hd : decode M.2.1 pc = .ok (.lneg, 1)) (k : jm_X l G M n0 s0 Z Post (pc + 1) lv (.long (-x) :: st) h) : jm_X l G M n0 s0 Z Post pc lv (.long x :: st) h := by
  obtain ⟨r, h', a1, a2, a3, a4, a5, v⟩ := k
  exact ⟨r, h', a1, a2, a3, a4, a5, fun p e s m args below meth c H locs ls C n1 n2 n3 hR hS hv => lv_lneg C.1 C.2.1 hd (v p e s m args below meth c H locs ls C n1 n2 n3 hR hS hv)⟩
theorem jx_lshl {x : Int64} {y : Int32} (hd : decode M.2.1 pc = .ok (.lshl, 1)) (k : jm_X l G M n0 s0 Z Post (pc + 1) lv (.long (x <<< (y.toInt64 &&& 63)) :: st) h) : jm_X l G M n0 s0 Z Post pc lv (.int y :: .long x :: st) h := by
  obtain ⟨r, h', a1, a2, a3, a4, a5, v⟩ := k
  exact ⟨r, h', a1, a2, a3, a4, a5, fun p e s m args below meth c H locs ls C n1 n2 n3 hR hS hv => lv_lshl C.1 C.2.1 hd rfl (v p e s m args below meth c H locs ls C n1 n2 n3 hR hS hv)⟩
theorem jx_lshr {x : Int64} {y : Int32} (hd : decode M.2.1 pc = .ok (.lshr, 1)) (k : jm_X l G M n0 s0 Z Post (pc + 1) lv (.long (x >>> (y.toInt64 &&& 63)) :: st) h) : jm_X l G M n0 s0 Z Post pc lv (.int y :: .long x :: st) h := by
  obtain ⟨r, h', a1, a2, a3, a4, a5, v⟩ := k
  exact ⟨r, h', a1, a2, a3, a4, a5, fun p e s m args below meth c H locs ls C n1 n2 n3 hR hS hv => lv_lshr C.1 C.2.1 hd rfl (v p e s m args below meth c H locs ls C n1 n2 n3 hR hS hv)⟩
theorem jx_lushr {x : Int64} {y : Int32} (hd : decode M.2.1 pc = .ok (.lushr, 1)) (k : jm_X l G M n0 s0 Z Post (pc + 1) lv (.long ((x.toUInt64 >>> (y.toInt64.toUInt64 &&& Int64.toUInt64 63)).toInt64) :: st) h) : jm_X l G M n0 s0 Z Post pc lv (.int y :: .long x :: st) h := by
  obtain ⟨r, h', a1, a2, a3, a4, a5, v⟩ := k
  exact ⟨r, h', a1, a2, a3, a4, a5, fun p e s m args below meth c H locs ls C n1 n2 n3 hR hS hv => lv_lushr C.1 C.2.1 hd rfl (v p e s m args below meth c H locs ls C n1 n2 n3 hR hS hv)⟩
theorem jx_i2l {x : Int32} (hd : decode M.2.1 pc = .ok (.i2l, 1)) (k : jm_X l G M n0 s0 Z Post (pc + 1) lv (.long (x.toInt64) :: st) h) : jm_X l G M n0 s0 Z Post pc lv (.int x :: st) h := by
  obtain ⟨r, h', a1, a2, a3, a4, a5, v⟩ := k
  exact ⟨r, h', a1, a2, a3, a4, a5, fun p e s m args below meth c H locs ls C n1 n2 n3 hR hS hv => lv_i2l C.1 C.2.1 hd rfl (v p e s m args below meth c H locs ls C n1 n2 n3 hR hS hv)⟩
theorem jx_l2i {x : Int64} (hd : decode M.2.1 pc = .ok (.l2i, 1)) (k : jm_X l G M n0 s0 Z Post (pc + 1) lv (.int (x.toInt32) :: st) h) : jm_X l G M n0 s0 Z Post pc lv (.long x :: st) h := by
  obtain ⟨r, h', a1, a2, a3, a4, a5, v⟩ := k
  exact ⟨r, h', a1, a2, a3, a4, a5, fun p e s m args below meth c H locs ls C n1 n2 n3 hR hS hv => lv_l2i C.1 C.2.1 hd rfl (v p e s m args below meth c H locs ls C n1 n2 n3 hR hS hv)⟩
theorem jx_i2b {x : Int32} (hd : decode M.2.1 pc = .ok (.i2b, 1)) (k : jm_X l G M n0 s0 Z Post (pc + 1) lv (.int (x.toInt8.toInt32) :: st) h) : jm_X l G M n0 s0 Z Post pc lv (.int x :: st) h := by
  obtain ⟨r, h', a1, a2, a3, a4, a5, v⟩ := k
  exact ⟨r, h', a1, a2, a3, a4, a5, fun p e s m args below meth c H locs ls C n1 n2 n3 hR hS hv => lv_i2b C.1 C.2.1 hd rfl (v p e s m args below meth c H locs ls C n1 n2 n3 hR hS hv)⟩
theorem jx_i2s {x : Int32} (hd : decode M.2.1 pc = .ok (.i2s, 1)) (k : jm_X l G M n0 s0 Z Post (pc + 1) lv (.int (x.toInt16.toInt32) :: st) h) : jm_X l G M n0 s0 Z Post pc lv (.int x :: st) h := by
  obtain ⟨r, h', a1, a2, a3, a4, a5, v⟩ := k
  exact ⟨r, h', a1, a2, a3, a4, a5, fun p e s m args below meth c H locs ls C n1 n2 n3 hR hS hv => lv_i2s C.1 C.2.1 hd rfl (v p e s m args below meth c H locs ls C n1 n2 n3 hR hS hv)⟩
theorem jx_i2c {x : Int32} (hd : decode M.2.1 pc = .ok (.i2c, 1)) (k : jm_X l G M n0 s0 Z Post (pc + 1) lv (.int ((x.toUInt32 % 65536).toInt32) :: st) h) : jm_X l G M n0 s0 Z Post pc lv (.int x :: st) h := by
  obtain ⟨r, h', a1, a2, a3, a4, a5, v⟩ := k
  exact ⟨r, h', a1, a2, a3, a4, a5, fun p e s m args below meth c H locs ls C n1 n2 n3 hR hS hv => lv_i2c C.1 C.2.1 hd rfl (v p e s m args below meth c H locs ls C n1 n2 n3 hR hS hv)⟩
theorem jx_lcmp {x y : Int64} (hd : decode M.2.1 pc = .ok (.lcmp, 1)) (k : jm_X l G M n0 s0 Z Post (pc + 1) lv (.int (lg_cmp x y) :: st) h) : jm_X l G M n0 s0 Z Post pc lv (.long y :: .long x :: st) h := by
  obtain ⟨r, h', a1, a2, a3, a4, a5, v⟩ := k
  exact ⟨r, h', a1, a2, a3, a4, a5, fun p e s m args below meth c H locs ls C n1 n2 n3 hR hS hv => W.lcmp C.1 C.2.1 hd (v p e s m args below meth c H locs ls C n1 n2 n3 hR hS hv)⟩
theorem jx_dup {va : Value} (hd : decode M.2.1 pc = .ok (.dup, 1)) (hva : va.category = 1) (k : jm_X l G M n0 s0 Z Post (pc + 1) lv (va :: va :: st) h) : jm_X l G M n0 s0 Z Post pc lv (va :: st) h := by
  obtain ⟨r, h', a1, a2, a3, a4, a5, v⟩ := k
  exact ⟨r, h', a1, a2, a3, a4, a5, fun p e s m args below meth c H locs ls C n1 n2 n3 hR hS hv => lv_dup C.1 C.2.1 hd hva (v p e s m args below meth c H locs ls C n1 n2 n3 hR hS hv)⟩
theorem jx_pop {va : Value} (hd : decode M.2.1 pc = .ok (.pop, 1)) (hva : va.category = 1) (k : jm_X l G M n0 s0 Z Post (pc + 1) lv st h) : jm_X l G M n0 s0 Z Post pc lv (va :: st) h := by
  obtain ⟨r, h', a1, a2, a3, a4, a5, v⟩ := k
  exact ⟨r, h', a1, a2, a3, a4, a5, fun p e s m args below meth c H locs ls C n1 n2 n3 hR hS hv => lv_pop C.1 C.2.1 hd hva (v p e s m args below meth c H locs ls C n1 n2 n3 hR hS hv)⟩
theorem jx_dup_x1 {va vb : Value} (hd : decode M.2.1 pc = .ok (.dup_x1, 1)) (hva : va.category = 1) (hvb : vb.category = 1) (k : jm_X l G M n0 s0 Z Post (pc + 1) lv (va :: vb :: va :: st) h) : jm_X l G M n0 s0 Z Post pc lv (va :: vb :: st) h := by
  obtain ⟨r, h', a1, a2, a3, a4, a5, v⟩ := k
  exact ⟨r, h', a1, a2, a3, a4, a5, fun p e s m args below meth c H locs ls C n1 n2 n3 hR hS hv => lv_dup_x1 C.1 C.2.1 hd hva hvb (v p e s m args below meth c H locs ls C n1 n2 n3 hR hS hv)⟩
theorem jx_dup_x2 {va vb vd : Value} (hd : decode M.2.1 pc = .ok (.dup_x2, 1)) (hva : va.category = 1) (hvb : vb.category = 1) (hvd : vd.category = 1) (k : jm_X l G M n0 s0 Z Post (pc + 1) lv (va :: vb :: vd :: va :: st) h) : jm_X l G M n0 s0 Z Post pc lv (va :: vb :: vd :: st) h := by
  obtain ⟨r, h', a1, a2, a3, a4, a5, v⟩ := k
  exact ⟨r, h', a1, a2, a3, a4, a5, fun p e s m args below meth c H locs ls C n1 n2 n3 hR hS hv => lv_dup_x2 C.1 C.2.1 hd hva hvb hvd (v p e s m args below meth c H locs ls C n1 n2 n3 hR hS hv)⟩
theorem jx_dup2_11 {va vb : Value} (hd : decode M.2.1 pc = .ok (.dup2, 1)) (hva : va.category = 1) (hvb : vb.category = 1) (k : jm_X l G M n0 s0 Z Post (pc + 1) lv (va :: vb :: va :: vb :: st) h) : jm_X l G M n0 s0 Z Post pc lv (va :: vb :: st) h := by
  obtain ⟨r, h', a1, a2, a3, a4, a5, v⟩ := k
  exact ⟨r, h', a1, a2, a3, a4, a5, fun p e s m args below meth c H locs ls C n1 n2 n3 hR hS hv => lv_dup2_11 C.1 C.2.1 hd hva hvb (v p e s m args below meth c H locs ls C n1 n2 n3 hR hS hv)⟩
theorem jx_dup2_2 {va : Value} (hd : decode M.2.1 pc = .ok (.dup2, 1)) (hva : va.category = 2) (k : jm_X l G M n0 s0 Z Post (pc + 1) lv (va :: va :: st) h) : jm_X l G M n0 s0 Z Post pc lv (va :: st) h := by
  obtain ⟨r, h', a1, a2, a3, a4, a5, v⟩ := k
  exact ⟨r, h', a1, a2, a3, a4, a5, fun p e s m args below meth c H locs ls C n1 n2 n3 hR hS hv => lv_dup2_2 C.1 C.2.1 hd hva (v p e s m args below meth c H locs ls C n1 n2 n3 hR hS hv)⟩
theorem jx_pop2_2 {va : Value} (hd : decode M.2.1 pc = .ok (.pop2, 1)) (hva : va.category = 2) (k : jm_X l G M n0 s0 Z Post (pc + 1) lv st h) : jm_X l G M n0 s0 Z Post pc lv (va :: st) h := by
  obtain ⟨r, h', a1, a2, a3, a4, a5, v⟩ := k
  exact ⟨r, h', a1, a2, a3, a4, a5, fun p e s m args below meth c H locs ls C n1 n2 n3 hR hS hv => lv_pop2_2 C.1 C.2.1 hd hva (v p e s m args below meth c H locs ls C n1 n2 n3 hR hS hv)⟩
theorem jx_dup2_x1_2 {va vb : Value} (hd : decode M.2.1 pc = .ok (.dup2_x1, 1)) (hva : va.category = 2) (hvb : vb.category = 1) (k : jm_X l G M n0 s0 Z Post (pc + 1) lv (va :: vb :: va :: st) h) : jm_X l G M n0 s0 Z Post pc lv (va :: vb :: st) h := by
  obtain ⟨r, h', a1, a2, a3, a4, a5, v⟩ := k
  exact ⟨r, h', a1, a2, a3, a4, a5, fun p e s m args below meth c H locs ls C n1 n2 n3 hR hS hv => lv_dup2_x1_2 C.1 C.2.1 hd hva hvb (v p e s m args below meth c H locs ls C n1 n2 n3 hR hS hv)⟩
theorem jx_dup2_x2_2 {va vb vd : Value} (hd : decode M.2.1 pc = .ok (.dup2_x2, 1)) (hva : va.category = 2) (hvb : vb.category = 1) (hvd : vd.category = 1) (k : jm_X l G M n0 s0 Z Post (pc + 1) lv (va :: vb :: vd :: va :: st) h) : jm_X l G M n0 s0 Z Post pc lv (va :: vb :: vd :: st) h := by
  obtain ⟨r, h', a1, a2, a3, a4, a5, v⟩ := k
  exact ⟨r, h', a1, a2, a3, a4, a5, fun p e s m args below meth c H locs ls C n1 n2 n3 hR hS hv => lv_dup2_x2_2 C.1 C.2.1 hd hva hvb hvd (v p e s m args below meth c H locs ls C n1 n2 n3 hR hS hv)⟩
theorem jx_goto {off : Int} {tgt : Nat} (hd : decode M.2.1 pc = .ok (.goto off, 3)) (ht : (pc : Int) + off = (tgt : Int)) (k : jm_X l G M n0 s0 Z Post tgt lv st h) : jm_X l G M n0 s0 Z Post pc lv st h := by
  obtain ⟨r, h', a1, a2, a3, a4, a5, v⟩ := k
  exact ⟨r, h', a1, a2, a3, a4, a5, fun p e s m args below meth c H locs ls C n1 n2 n3 hR hS hv => lv_goto C.1 C.2.1 hd ht (v p e s m args below meth c H locs ls C n1 n2 n3 hR hS hv)⟩
theorem jx_ifnull {x : Nat} {off : Int} (hd : decode M.2.1 pc = .ok (.ifnull off, 3)) (k : jm_X l G M n0 s0 Z Post (pc + 3) lv st h) : jm_X l G M n0 s0 Z Post pc lv (.ref x :: st) h := by
  obtain ⟨r, h', a1, a2, a3, a4, a5, v⟩ := k
  exact ⟨r, h', a1, a2, a3, a4, a5, fun p e s m args below meth c H locs ls C n1 n2 n3 hR hS hv => lv_ifnull C.1 C.2.1 hd (v p e s m args below meth c H locs ls C n1 n2 n3 hR hS hv)⟩
theorem jx_ifnullN {off : Int} {tgt : Nat} (hd : decode M.2.1 pc = .ok (.ifnull off, 3)) (ht : (pc : Int) + off = (tgt : Int)) (k : jm_X l G M n0 s0 Z Post tgt lv st h) : jm_X l G M n0 s0 Z Post pc lv (.null :: st) h := by
  obtain ⟨r, h', a1, a2, a3, a4, a5, v⟩ := k
  exact ⟨r, h', a1, a2, a3, a4, a5, fun p e s m args below meth c H locs ls C n1 n2 n3 hR hS hv => lv_ifnullN C.1 C.2.1 hd ht (v p e s m args below meth c H locs ls C n1 n2 n3 hR hS hv)⟩
theorem jx_ifnonnull {x : Nat} {off : Int} {tgt : Nat} (hd : decode M.2.1 pc = .ok (.ifnonnull off, 3)) (ht : (pc : Int) + off = (tgt : Int)) (k : jm_X l G M n0 s0 Z Post tgt lv st h) : jm_X l G M n0 s0 Z Post pc lv (.ref x :: st) h := by
  obtain ⟨r, h', a1, a2, a3, a4, a5, v⟩ := k
  exact ⟨r, h', a1, a2, a3, a4, a5, fun p e s m args below meth c H locs ls C n1 n2 n3 hR hS hv => lv_ifnonnull C.1 C.2.1 hd ht (v p e s m args below meth c H locs ls C n1 n2 n3 hR hS hv)⟩
theorem jx_ifnonnullN {off : Int} (hd : decode M.2.1 pc = .ok (.ifnonnull off, 3)) (k : jm_X l G M n0 s0 Z Post (pc + 3) lv st h) : jm_X l G M n0 s0 Z Post pc lv (.null :: st) h := by
  obtain ⟨r, h', a1, a2, a3, a4, a5, v⟩ := k
  exact ⟨r, h', a1, a2, a3, a4, a5, fun p e s m args below meth c H locs ls C n1 n2 n3 hR hS hv => lv_ifnonnullN C.1 C.2.1 hd (v p e s m args below meth c H locs ls C n1 n2 n3 hR hS hv)⟩
theorem jx_tableOut {dflt lo hi : Int} {offs : Array Int} {len : Nat} {x : Int32} {tgt : Nat} (hd : decode M.2.1 pc = .ok (.tableswitch dflt lo hi offs, len)) (hx : x.toInt < lo ∨ hi < x.toInt) (ht : (pc : Int) + dflt = (tgt : Int)) (k : jm_X l G M n0 s0 Z Post tgt lv st h) : jm_X l G M n0 s0 Z Post pc lv (.int x :: st) h := by
  obtain ⟨r, h', a1, a2, a3, a4, a5, v⟩ := k
  exact ⟨r, h', a1, a2, a3, a4, a5, fun p e s m args below meth c H locs ls C n1 n2 n3 hR hS hv => lv_tableOut C.1 C.2.1 hd hx ht (v p e s m args below meth c H locs ls C n1 n2 n3 hR hS hv)⟩
theorem jx_tableIn {dflt lo hi : Int} {offs : Array Int} {len : Nat} {x : Int32} {off : Int} {tgt : Nat} (hd : decode M.2.1 pc = .ok (.tableswitch dflt lo hi offs, len)) (h1 : ¬ x.toInt < lo) (h2 : ¬ hi < x.toInt) (ho : offs[(x.toInt - lo).toNat]? = some off) (ht : (pc : Int) + off = (tgt : Int)) (k : jm_X l G M n0 s0 Z Post tgt lv st h) : jm_X l G M n0 s0 Z Post pc lv (.int x :: st) h := by
  obtain ⟨r, h', a1, a2, a3, a4, a5, v⟩ := k
  exact ⟨r, h', a1, a2, a3, a4, a5, fun p e s m args below meth c H locs ls C n1 n2 n3 hR hS hv => lv_tableIn C.1 C.2.1 hd h1 h2 ho ht (v p e s m args below meth c H locs ls C n1 n2 n3 hR hS hv)⟩
theorem jx_lookup {dflt : Int} {ps : Array (Int × Int)} {len : Nat} {x : Int32} {off : Int} {tgt : Nat} (hd : decode M.2.1 pc = .ok (.lookupswitch dflt ps, len)) (hp : (ps.toList.zip (ps.toList.drop 1)).all (fun (a, next) => a.1 < next.1) = true) (ho : Op.lookupswitch.offset ps.toList dflt x.toInt = off) (ht : (pc : Int) + off = (tgt : Int)) (k : jm_X l G M n0 s0 Z Post tgt lv st h) : jm_X l G M n0 s0 Z Post pc lv (.int x :: st) h := by
  obtain ⟨r, h', a1, a2, a3, a4, a5, v⟩ := k
  exact ⟨r, h', a1, a2, a3, a4, a5, fun p e s m args below meth c H locs ls C n1 n2 n3 hR hS hv => lv_lookup C.1 C.2.1 hd hp ho ht (v p e s m args below meth c H locs ls C n1 n2 n3 hR hS hv)⟩
theorem jx_if_eq {x : Int32} {off : Int} {tgt : Nat} (hd : decode M.2.1 pc = .ok (.ifCond .eq off, 3)) (ht : (pc : Int) + off = (tgt : Int)) (kt : x = 0 → jm_X l G M n0 s0 Z Post tgt lv st h) (kf : ¬ x = 0 → jm_X l G M n0 s0 Z Post (pc + 3) lv st h) : jm_X l G M n0 s0 Z Post pc lv (.int x :: st) h := by
  by_cases hc : x = 0
  · obtain ⟨r, h', a1, a2, a3, a4, a5, v⟩ := kt hc
    exact ⟨r, h', a1, a2, a3, a4, a5, fun p e s m args below meth c H locs ls C n1 n2 n3 hR hS hv => lv_if_eq C.1 C.2.1 hd ht (fun _ => v p e s m args below meth c H locs ls C n1 n2 n3 hR hS hv) (fun z => absurd hc z)⟩
  · obtain ⟨r, h', a1, a2, a3, a4, a5, v⟩ := kf hc
    exact ⟨r, h', a1, a2, a3, a4, a5, fun p e s m args below meth c H locs ls C n1 n2 n3 hR hS hv => lv_if_eq C.1 C.2.1 hd ht (fun z => absurd z hc) (fun _ => v p e s m args below meth c H locs ls C n1 n2 n3 hR hS hv)⟩
theorem jx_icmp_eq {x y : Int32} {off : Int} {tgt : Nat} (hd : decode M.2.1 pc = .ok (.if_icmp .eq off, 3)) (ht : (pc : Int) + off = (tgt : Int)) (kt : x = y → jm_X l G M n0 s0 Z Post tgt lv st h) (kf : ¬ x = y → jm_X l G M n0 s0 Z Post (pc + 3) lv st h) : jm_X l G M n0 s0 Z Post pc lv (.int y :: .int x :: st) h := by
  by_cases hc : x = y
  · obtain ⟨r, h', a1, a2, a3, a4, a5, v⟩ := kt hc
    exact ⟨r, h', a1, a2, a3, a4, a5, fun p e s m args below meth c H locs ls C n1 n2 n3 hR hS hv => lv_icmp_eq C.1 C.2.1 hd ht (fun _ => v p e s m args below meth c H locs ls C n1 n2 n3 hR hS hv) (fun z => absurd hc z)⟩
  · obtain ⟨r, h', a1, a2, a3, a4, a5, v⟩ := kf hc
    exact ⟨r, h', a1, a2, a3, a4, a5, fun p e s m args below meth c H locs ls C n1 n2 n3 hR hS hv => lv_icmp_eq C.1 C.2.1 hd ht (fun z => absurd z hc) (fun _ => v p e s m args below meth c H locs ls C n1 n2 n3 hR hS hv)⟩
theorem jx_if_ne {x : Int32} {off : Int} {tgt : Nat} (hd : decode M.2.1 pc = .ok (.ifCond .ne off, 3)) (ht : (pc : Int) + off = (tgt : Int)) (kt : ¬ x = 0 → jm_X l G M n0 s0 Z Post tgt lv st h) (kf : x = 0 → jm_X l G M n0 s0 Z Post (pc + 3) lv st h) : jm_X l G M n0 s0 Z Post pc lv (.int x :: st) h := by
  by_cases hc : x = 0
  · obtain ⟨r, h', a1, a2, a3, a4, a5, v⟩ := kf hc
    exact ⟨r, h', a1, a2, a3, a4, a5, fun p e s m args below meth c H locs ls C n1 n2 n3 hR hS hv => lv_if_ne C.1 C.2.1 hd ht (fun z => absurd hc z) (fun _ => v p e s m args below meth c H locs ls C n1 n2 n3 hR hS hv)⟩
  · obtain ⟨r, h', a1, a2, a3, a4, a5, v⟩ := kt hc
    exact ⟨r, h', a1, a2, a3, a4, a5, fun p e s m args below meth c H locs ls C n1 n2 n3 hR hS hv => lv_if_ne C.1 C.2.1 hd ht (fun _ => v p e s m args below meth c H locs ls C n1 n2 n3 hR hS hv) (fun z => absurd z hc)⟩
theorem jx_icmp_ne {x y : Int32} {off : Int} {tgt : Nat} (hd : decode M.2.1 pc = .ok (.if_icmp .ne off, 3)) (ht : (pc : Int) + off = (tgt : Int)) (kt : ¬ x = y → jm_X l G M n0 s0 Z Post tgt lv st h) (kf : x = y → jm_X l G M n0 s0 Z Post (pc + 3) lv st h) : jm_X l G M n0 s0 Z Post pc lv (.int y :: .int x :: st) h := by
  by_cases hc : x = y
  · obtain ⟨r, h', a1, a2, a3, a4, a5, v⟩ := kf hc
    exact ⟨r, h', a1, a2, a3, a4, a5, fun p e s m args below meth c H locs ls C n1 n2 n3 hR hS hv => lv_icmp_ne C.1 C.2.1 hd ht (fun z => absurd hc z) (fun _ => v p e s m args below meth c H locs ls C n1 n2 n3 hR hS hv)⟩
  · obtain ⟨r, h', a1, a2, a3, a4, a5, v⟩ := kt hc
    exact ⟨r, h', a1, a2, a3, a4, a5, fun p e s m args below meth c H locs ls C n1 n2 n3 hR hS hv => lv_icmp_ne C.1 C.2.1 hd ht (fun _ => v p e s m args below meth c H locs ls C n1 n2 n3 hR hS hv) (fun z => absurd z hc)⟩
theorem jx_if_lt {x : Int32} {off : Int} {tgt : Nat} (hd : decode M.2.1 pc = .ok (.ifCond .lt off, 3)) (ht : (pc : Int) + off = (tgt : Int)) (kt : x < 0 → jm_X l G M n0 s0 Z Post tgt lv st h) (kf : ¬ x < 0 → jm_X l G M n0 s0 Z Post (pc + 3) lv st h) : jm_X l G M n0 s0 Z Post pc lv (.int x :: st) h := by
  by_cases hc : x < 0
  · obtain ⟨r, h', a1, a2, a3, a4, a5, v⟩ := kt hc
    exact ⟨r, h', a1, a2, a3, a4, a5, fun p e s m args below meth c H locs ls C n1 n2 n3 hR hS hv => lv_if_lt C.1 C.2.1 hd ht (fun _ => v p e s m args below meth c H locs ls C n1 n2 n3 hR hS hv) (fun z => absurd hc z)⟩
  · obtain ⟨r, h', a1, a2, a3, a4, a5, v⟩ := kf hc
    exact ⟨r, h', a1, a2, a3, a4, a5, fun p e s m args below meth c H locs ls C n1 n2 n3 hR hS hv => lv_if_lt C.1 C.2.1 hd ht (fun z => absurd z hc) (fun _ => v p e s m args below meth c H locs ls C n1 n2 n3 hR hS hv)⟩
theorem jx_icmp_lt {x y : Int32} {off : Int} {tgt : Nat} (hd : decode M.2.1 pc = .ok (.if_icmp .lt off, 3)) (ht : (pc : Int) + off = (tgt : Int)) (kt : x < y → jm_X l G M n0 s0 Z Post tgt lv st h) (kf : ¬ x < y → jm_X l G M n0 s0 Z Post (pc + 3) lv st h) : jm_X l G M n0 s0 Z Post pc lv (.int y :: .int x :: st) h := by
  by_cases hc : x < y
  · obtain ⟨r, h', a1, a2, a3, a4, a5, v⟩ := kt hc
    exact ⟨r, h', a1, a2, a3, a4, a5, fun p e s m args below meth c H locs ls C n1 n2 n3 hR hS hv => lv_icmp_lt C.1 C.2.1 hd ht (fun _ => v p e s m args below meth c H locs ls C n1 n2 n3 hR hS hv) (fun z => absurd hc z)⟩
  · obtain ⟨r, h', a1, a2, a3, a4, a5, v⟩ := kf hc
    exact ⟨r, h', a1, a2, a3, a4, a5, fun p e s m args below meth c H locs ls C n1 n2 n3 hR hS hv => lv_icmp_lt C.1 C.2.1 hd ht (fun z => absurd z hc) (fun _ => v p e s m args below meth c H locs ls C n1 n2 n3 hR hS hv)⟩
theorem jx_if_ge {x : Int32} {off : Int} {tgt : Nat} (hd : decode M.2.1 pc = .ok (.ifCond .ge off, 3)) (ht : (pc : Int) + off = (tgt : Int)) (kt : 0 ≤ x → jm_X l G M n0 s0 Z Post tgt lv st h) (kf : ¬ 0 ≤ x → jm_X l G M n0 s0 Z Post (pc + 3) lv st h) : jm_X l G M n0 s0 Z Post pc lv (.int x :: st) h := by
  by_cases hc : 0 ≤ x
  · obtain ⟨r, h', a1, a2, a3, a4, a5, v⟩ := kt hc
    exact ⟨r, h', a1, a2, a3, a4, a5, fun p e s m args below meth c H locs ls C n1 n2 n3 hR hS hv => lv_if_ge C.1 C.2.1 hd ht (fun _ => v p e s m args below meth c H locs ls C n1 n2 n3 hR hS hv) (fun z => absurd hc z)⟩
  · obtain ⟨r, h', a1, a2, a3, a4, a5, v⟩ := kf hc
    exact ⟨r, h', a1, a2, a3, a4, a5, fun p e s m args below meth c H locs ls C n1 n2 n3 hR hS hv => lv_if_ge C.1 C.2.1 hd ht (fun z => absurd z hc) (fun _ => v p e s m args below meth c H locs ls C n1 n2 n3 hR hS hv)⟩
theorem jx_icmp_ge {x y : Int32} {off : Int} {tgt : Nat} (hd : decode M.2.1 pc = .ok (.if_icmp .ge off, 3)) (ht : (pc : Int) + off = (tgt : Int)) (kt : y ≤ x → jm_X l G M n0 s0 Z Post tgt lv st h) (kf : ¬ y ≤ x → jm_X l G M n0 s0 Z Post (pc + 3) lv st h) : jm_X l G M n0 s0 Z Post pc lv (.int y :: .int x :: st) h := by
  by_cases hc : y ≤ x
  · obtain ⟨r, h', a1, a2, a3, a4, a5, v⟩ := kt hc
    exact ⟨r, h', a1, a2, a3, a4, a5, fun p e s m args below meth c H locs ls C n1 n2 n3 hR hS hv => lv_icmp_ge C.1 C.2.1 hd ht (fun _ => v p e s m args below meth c H locs ls C n1 n2 n3 hR hS hv) (fun z => absurd hc z)⟩
  · obtain ⟨r, h', a1, a2, a3, a4, a5, v⟩ := kf hc
    exact ⟨r, h', a1, a2, a3, a4, a5, fun p e s m args below meth c H locs ls C n1 n2 n3 hR hS hv => lv_icmp_ge C.1 C.2.1 hd ht (fun z => absurd z hc) (fun _ => v p e s m args below meth c H locs ls C n1 n2 n3 hR hS hv)⟩
theorem jx_if_gt {x : Int32} {off : Int} {tgt : Nat} (hd : decode M.2.1 pc = .ok (.ifCond .gt off, 3)) (ht : (pc : Int) + off = (tgt : Int)) (kt : 0 < x → jm_X l G M n0 s0 Z Post tgt lv st h) (kf : ¬ 0 < x → jm_X l G M n0 s0 Z Post (pc + 3) lv st h) : jm_X l G M n0 s0 Z Post pc lv (.int x :: st) h := by
  by_cases hc : 0 < x
  · obtain ⟨r, h', a1, a2, a3, a4, a5, v⟩ := kt hc
    exact ⟨r, h', a1, a2, a3, a4, a5, fun p e s m args below meth c H locs ls C n1 n2 n3 hR hS hv => lv_if_gt C.1 C.2.1 hd ht (fun _ => v p e s m args below meth c H locs ls C n1 n2 n3 hR hS hv) (fun z => absurd hc z)⟩
  · obtain ⟨r, h', a1, a2, a3, a4, a5, v⟩ := kf hc
    exact ⟨r, h', a1, a2, a3, a4, a5, fun p e s m args below meth c H locs ls C n1 n2 n3 hR hS hv => lv_if_gt C.1 C.2.1 hd ht (fun z => absurd z hc) (fun _ => v p e s m args below meth c H locs ls C n1 n2 n3 hR hS hv)⟩
theorem jx_icmp_gt {x y : Int32} {off : Int} {tgt : Nat} (hd : decode M.2.1 pc = .ok (.if_icmp .gt off, 3)) (ht : (pc : Int) + off = (tgt : Int)) (kt : y < x → jm_X l G M n0 s0 Z Post tgt lv st h) (kf : ¬ y < x → jm_X l G M n0 s0 Z Post (pc + 3) lv st h) : jm_X l G M n0 s0 Z Post pc lv (.int y :: .int x :: st) h := by
  by_cases hc : y < x
  · obtain ⟨r, h', a1, a2, a3, a4, a5, v⟩ := kt hc
    exact ⟨r, h', a1, a2, a3, a4, a5, fun p e s m args below meth c H locs ls C n1 n2 n3 hR hS hv => lv_icmp_gt C.1 C.2.1 hd ht (fun _ => v p e s m args below meth c H locs ls C n1 n2 n3 hR hS hv) (fun z => absurd hc z)⟩
  · obtain ⟨r, h', a1, a2, a3, a4, a5, v⟩ := kf hc
    exact ⟨r, h', a1, a2, a3, a4, a5, fun p e s m args below meth c H locs ls C n1 n2 n3 hR hS hv => lv_icmp_gt C.1 C.2.1 hd ht (fun z => absurd z hc) (fun _ => v p e s m args below meth c H locs ls C n1 n2 n3 hR hS hv)⟩
theorem jx_if_le {x : Int32} {off : Int} {tgt : Nat} (hd : decode M.2.1 pc = .ok (.ifCond .le off, 3)) (ht : (pc : Int) + off = (tgt : Int)) (kt : x ≤ 0 → jm_X l G M n0 s0 Z Post tgt lv st h) (kf : ¬ x ≤ 0 → jm_X l G M n0 s0 Z Post (pc + 3) lv st h) : jm_X l G M n0 s0 Z Post pc lv (.int x :: st) h := by
  by_cases hc : x ≤ 0
  · obtain ⟨r, h', a1, a2, a3, a4, a5, v⟩ := kt hc
    exact ⟨r, h', a1, a2, a3, a4, a5, fun p e s m args below meth c H locs ls C n1 n2 n3 hR hS hv => lv_if_le C.1 C.2.1 hd ht (fun _ => v p e s m args below meth c H locs ls C n1 n2 n3 hR hS hv) (fun z => absurd hc z)⟩
  · obtain ⟨r, h', a1, a2, a3, a4, a5, v⟩ := kf hc
    exact ⟨r, h', a1, a2, a3, a4, a5, fun p e s m args below meth c H locs ls C n1 n2 n3 hR hS hv => lv_if_le C.1 C.2.1 hd ht (fun z => absurd z hc) (fun _ => v p e s m args below meth c H locs ls C n1 n2 n3 hR hS hv)⟩
theorem jx_icmp_le {x y : Int32} {off : Int} {tgt : Nat} (hd : decode M.2.1 pc = .ok (.if_icmp .le off, 3)) (ht : (pc : Int) + off = (tgt : Int)) (kt : x ≤ y → jm_X l G M n0 s0 Z Post tgt lv st h) (kf : ¬ x ≤ y → jm_X l G M n0 s0 Z Post (pc + 3) lv st h) : jm_X l G M n0 s0 Z Post pc lv (.int y :: .int x :: st) h := by
  by_cases hc : x ≤ y
  · obtain ⟨r, h', a1, a2, a3, a4, a5, v⟩ := kt hc
    exact ⟨r, h', a1, a2, a3, a4, a5, fun p e s m args below meth c H locs ls C n1 n2 n3 hR hS hv => lv_icmp_le C.1 C.2.1 hd ht (fun _ => v p e s m args below meth c H locs ls C n1 n2 n3 hR hS hv) (fun z => absurd hc z)⟩
  · obtain ⟨r, h', a1, a2, a3, a4, a5, v⟩ := kf hc
    exact ⟨r, h', a1, a2, a3, a4, a5, fun p e s m args below meth c H locs ls C n1 n2 n3 hR hS hv => lv_icmp_le C.1 C.2.1 hd ht (fun z => absurd z hc) (fun _ => v p e s m args below meth c H locs ls C n1 n2 n3 hR hS hv)⟩
end JX
end
section

section JH
variable {l : Launch} {G : jm_G} {M : jm_M} {n0 s0 : Nat} {Z : jm_Z} {Post : jm_r → jm_H → Prop} {pc : Nat} {lv : List (Nat × Value)} {st : List Value} {h : jm_H}
/-- the pool's entry idx of class own is field k of class c -/
def jm_F (own : String) (idx c k : Nat) : Prop := ∃ (C : String) (T : u_T) (N : Nat), jm_cl[c]? = some (C, T, N) ∧ (∀ w ∈ u_ws C T N, w ∈ jm_W) ∧ k < N ∧ Cond.fieldLink own idx (T k).1 (T k).2.1 (T k).2.2.1 ∈ jm_W
/-- what a write to field k of class c needs of the class -/
def jm_Fl (c : Nat) : Prop := ∀ r : vw_C, jm_cl[c]? = some r → ∃ ty0 : Nat → FieldType, (∀ k, k < r.2.2 → parseFieldDescriptor (r.2.1 k).2.2.1 = some (ty0 k)) ∧ ∀ a, a < r.2.2 → ∀ b, b < r.2.2 → a ≠ b → (r.2.1 a).2.1 ≠ (r.2.1 b).2.1
def jm_Ft (c k : Nat) (ty : FieldType) (fin : Bool) (own : String) : Prop := ∀ r : vw_C, jm_cl[c]? = some r → parseFieldDescriptor (r.2.1 k).2.2.1 = some ty ∧ (r.2.1 k).2.2.2 = fin ∧ (fin = true → (r.2.1 k).1 = own)
theorem jm_K.va {U : State} (h : jm_K G U) : va_K G.1 jm_cl [] U := ⟨h.1, fun k q hk => by simp at hk⟩
theorem jx_get {a c n idx k : Nat} {v0 : Value} (hd : decode M.2.1 pc = .ok (.getfield idx, 3)) (hF : jm_F M.1.cls idx c k) (hk : h.2.2.1 a = (jm_o c, n)) (hv0 : h.2.2.2 a k = v0)
    (kk : jm_X l G M n0 s0 Z Post (pc + 3) lv (v0 :: st) h) : jm_X l G M n0 s0 Z Post pc lv (.ref a :: st) h := by
  obtain ⟨r, h', a1, a2, a3, a4, a5, v⟩ := kk
  refine ⟨r, h', a1, a2, a3, a4, a5, fun p e s m args below meth c1 H locs ls C n1 n2 n3 hR hS hv => ?_⟩
  have W9 := v p e s m args below meth c1 H locs ls C n1 n2 n3 hR hS hv
  obtain ⟨hx, hb, hml, hr, hlk, hnm, hown, htb, hts, hK, hN⟩ := C
  obtain ⟨C0, T, N, hc, hin, hkN, hw⟩ := hF
  obtain ⟨g1, r0, g2, cell, q1, q2, q3, q4⟩ := hR.2.2.1 a c n hk
  have hr0 : r0 = (C0, T, N) := Option.some.inj (g2.symm.trans hc)
  subst hr0
  obtain ⟨hSl, hfc, kC, hkC, hkind⟩ := hK.1 c _ hc
  obtain ⟨cf, kf, fi, f, hi, hsl⟩ := hSl k hkN
  refine W.getf hx hb hown (hts _ hw) hi (u_facts hfc hkC (u_lays hts hin hkN) hi).1 q1 (by rw [q3]; exact fun h => by cases h) (v := v0) ?_ rfl rfl hd W9
  rw [hsl, q4 k hkN, hv0]
theorem jx_put {a c n idx k : Nat} {v0 : Value} {ty : FieldType} (hd : decode M.2.1 pc = .ok (.putfield idx, 3)) (hF : jm_F M.1.cls idx c k) (hl : jm_Fl c) (ht : jm_Ft c k ty false "") (hk : h.2.2.1 a = (jm_o c, n)) (hn : narrow ty v0 = v0) (hfit : fits ty v0 = true)
    (kk : jm_X l G M n0 s0 Z Post (pc + 3) lv st (jm_put h a k v0)) : jm_X l G M n0 s0 Z Post pc lv (v0 :: .ref a :: st) h := by
  obtain ⟨r, h', a1, a2, a3, a4, a5, v⟩ := kk
  refine ⟨r, h', a1, a2, a3, a4, a5, fun p e s m args below meth c1 H locs ls C n1 n2 n3 hR hS hv => ?_⟩
  have W9 := fun H1 locs1 => v p e s m args below meth c1 H1 locs1 ls C n1 n2 n3
  obtain ⟨hx, hb, hml, hr, hlk, hnm, hown, htb, hts, hK, hN⟩ := C
  obtain ⟨C0, T, N, hc, hin, hkN, hw⟩ := hF
  obtain ⟨ty0, hty, hne⟩ := hl _ hc
  obtain ⟨hd1, hd2, -⟩ := ht _ hc
  obtain ⟨g1, r0, g2, cell, q1, q2, q3, q4⟩ := hR.2.2.1 a c n hk
  have hr0 : r0 = (C0, T, N) := Option.some.inj (g2.symm.trans hc)
  subst hr0
  have hap := va_apart (own := M.1.cls) hts hin ty0 hty hne hK.va hc
  obtain ⟨hSl, hfc, kC, hkC, hkind⟩ := hK.1 c _ hc
  obtain ⟨cf, kf, fi, f, hi, hsl⟩ := hSl k hkN
  have hlay := hts _ (hin _ (u_in_lay hkN))
  unfold u_lay at hlay
  rw [if_neg (by rw [hd2]; decide)] at hlay
  have hst := (u_facts hfc hkC (u_lays hts hin hkN) hi).1
  have h6 := u_store hfc hkC hkind hlay hi hd1 hn hfit
  refine W.putK hx hb (f := f) ⟨hown, hts _ hw, ⟨_, _, _, hi⟩, hst⟩ (by rw [q2]; exact h6) q1 q3 (by rw [hsl]; exact k2_hasslot (q4 k hkN)) rfl rfl hd fun H' e1 e2 e3 => ?_
  rw [hsl] at e1 ⊢
  refine W9 H' _ (hR.putO hk e2 e3 fun r1 hr1 => ?_) (hS.put e2 e3 g1) hv
  have hr2 : r1 = (C0, T, N) := Option.some.inj (hr1.symm.trans hc)
  subst hr2
  exact ⟨_, e1, q2, q3, t_set q4 hap hkN v0⟩
theorem jx_putF {a c n idx k : Nat} {v0 : Value} {ty : FieldType} (hd : decode M.2.1 pc = .ok (.putfield idx, 3)) (hF : jm_F M.1.cls idx c k) (hl : jm_Fl c) (ht : jm_Ft c k ty true M.1.cls) (hi0 : M.1.name = "<init>") (hk : h.2.2.1 a = (jm_o c, n)) (hn : narrow ty v0 = v0) (hfit : fits ty v0 = true)
    (kk : jm_X l G M n0 s0 Z Post (pc + 3) lv st (jm_put h a k v0)) : jm_X l G M n0 s0 Z Post pc lv (v0 :: .ref a :: st) h := by
  obtain ⟨r, h', a1, a2, a3, a4, a5, v⟩ := kk
  refine ⟨r, h', a1, a2, a3, a4, a5, fun p e s m args below meth c1 H locs ls C n1 n2 n3 hR hS hv => ?_⟩
  have W9 := fun H1 locs1 => v p e s m args below meth c1 H1 locs1 ls C n1 n2 n3
  obtain ⟨hx, hb, hml, hr, hlk, hnm, hown, htb, hts, hK, hN⟩ := C
  obtain ⟨C0, T, N, hc, hin, hkN, hw⟩ := hF
  obtain ⟨ty0, hty, hne⟩ := hl _ hc
  obtain ⟨hd1, hd2, hd3⟩ := ht _ hc
  have hdecl := hd3 rfl
  obtain ⟨g1, r0, g2, cell, q1, q2, q3, q4⟩ := hR.2.2.1 a c n hk
  have hr0 : r0 = (C0, T, N) := Option.some.inj (g2.symm.trans hc)
  subst hr0
  have hap := va_apart (own := M.1.cls) hts hin ty0 hty hne hK.va hc
  obtain ⟨hSl, hfc, kC, hkC, hkind⟩ := hK.1 c _ hc
  obtain ⟨cf, kf, fi, f, hi, hsl⟩ := hSl k hkN
  have hlay := hts _ (hin _ (u_in_lay hkN))
  unfold u_lay at hlay
  rw [if_pos hd2] at hlay
  have hst := (u_facts hfc hkC (u_lays hts hin hkN) hi).1
  have hcf : m.cls = cf := by
    obtain ⟨_, _, c', _, _, _, -, -, hf', -, -, -, hown2, -⟩ := Cond.laysFinal_spec hlay
    have e1 : c' = cf := by have := hi.symm.trans hf'; simp at this; exact this.1.symm
    rw [hdecl] at hown2
    rw [← e1]; exact Option.some.inj (hown.symm.trans hown2)
  have h6 := u_fits hfc hkC hkind (Or.inr hlay) hi hd1 hn hfit
  refine W.putFinK hx hb hown (hts _ hw) hi hst hcf (hnm.trans hi0) (by rw [q2]; exact h6) q1 q3 (by rw [hsl]; exact k2_hasslot (q4 k hkN)) rfl rfl hd fun H' e1 e2 e3 => ?_
  rw [hsl] at e1 ⊢
  refine W9 H' _ (hR.putO hk e2 e3 fun r1 hr1 => ?_) (hS.put e2 e3 g1) hv
  have hr2 : r1 = (C0, T, N) := Option.some.inj (hr1.symm.trans hc)
  subst hr2
  exact ⟨_, e1, q2, q3, t_set q4 hap hkN v0⟩
theorem jm_vlt {i : Int32} {n : Nat} (hin : vp_in i n) : i.toNatClampNeg < n := Nat.not_le.mp fun q => hin (Or.inr q)

theorem jx_iald {a t n : Nat} {i : Int32} {v0 : Value} (hd : decode M.2.1 pc = .ok (.iaload, 1)) (hk : h.2.2.1 a = (jm_a t, n)) (ht : jm_ty t = .int) (hin : vp_in i n) (hv0 : h.2.2.2 a i.toNatClampNeg = v0)
    (kk : jm_X l G M n0 s0 Z Post (pc + 1) lv (v0 :: st) h) : jm_X l G M n0 s0 Z Post pc lv (.int i :: .ref a :: st) h := by
  obtain ⟨r, h', a1, a2, a3, a4, a5, v⟩ := kk
  refine ⟨r, h', a1, a2, a3, a4, a5, fun p e s m args below meth c1 H locs ls C n1 n2 n3 hR hS hv => ?_⟩
  have W9 := v p e s m args below meth c1 H locs ls C n1 n2 n3 hR hS hv
  obtain ⟨hx, hb, hml, hr, hlk, hnm, hown, htb, hts, hK, hN⟩ := C
  obtain ⟨g1, g2, g3⟩ := hR.2.2.2 a t n hk
  have hA := (hK.2 t g2).1 n (h.2.2.2 a)
  rw [ht] at hA
  exact W.iald (v := v0) hx hb g3 hA (fun q => by cases q) (by show ¬ (i < 0 ∨ (arrV _ _ _).slots.size ≤ _); rw [arrV_size]; exact hin) (by show (arrV _ _ _).slots[_]? = _; rw [arrV_read _ _ (jm_vlt hin), hv0]) rfl rfl hd W9
theorem jx_lald {a t n : Nat} {i : Int32} {v0 : Value} (hd : decode M.2.1 pc = .ok (.laload, 1)) (hk : h.2.2.1 a = (jm_a t, n)) (ht : jm_ty t = .long) (hin : vp_in i n) (hv0 : h.2.2.2 a i.toNatClampNeg = v0)
    (kk : jm_X l G M n0 s0 Z Post (pc + 1) lv (v0 :: st) h) : jm_X l G M n0 s0 Z Post pc lv (.int i :: .ref a :: st) h := by
  obtain ⟨r, h', a1, a2, a3, a4, a5, v⟩ := kk
  refine ⟨r, h', a1, a2, a3, a4, a5, fun p e s m args below meth c1 H locs ls C n1 n2 n3 hR hS hv => ?_⟩
  have W9 := v p e s m args below meth c1 H locs ls C n1 n2 n3 hR hS hv
  obtain ⟨hx, hb, hml, hr, hlk, hnm, hown, htb, hts, hK, hN⟩ := C
  obtain ⟨g1, g2, g3⟩ := hR.2.2.2 a t n hk
  have hA := (hK.2 t g2).1 n (h.2.2.2 a)
  rw [ht] at hA
  exact W.lald (v := v0) hx hb g3 hA (fun q => by cases q) (by show ¬ (i < 0 ∨ (arrV _ _ _).slots.size ≤ _); rw [arrV_size]; exact hin) (by show (arrV _ _ _).slots[_]? = _; rw [arrV_read _ _ (jm_vlt hin), hv0]) rfl rfl hd W9
theorem jx_bald {a t n : Nat} {i : Int32} {v0 : Value} (hd : decode M.2.1 pc = .ok (.baload, 1)) (hk : h.2.2.1 a = (jm_a t, n)) (ht : jm_ty t = .byte) (hin : vp_in i n) (hv0 : h.2.2.2 a i.toNatClampNeg = v0)
    (kk : jm_X l G M n0 s0 Z Post (pc + 1) lv (v0 :: st) h) : jm_X l G M n0 s0 Z Post pc lv (.int i :: .ref a :: st) h := by
  obtain ⟨r, h', a1, a2, a3, a4, a5, v⟩ := kk
  refine ⟨r, h', a1, a2, a3, a4, a5, fun p e s m args below meth c1 H locs ls C n1 n2 n3 hR hS hv => ?_⟩
  have W9 := v p e s m args below meth c1 H locs ls C n1 n2 n3 hR hS hv
  obtain ⟨hx, hb, hml, hr, hlk, hnm, hown, htb, hts, hK, hN⟩ := C
  obtain ⟨g1, g2, g3⟩ := hR.2.2.2 a t n hk
  have hA := (hK.2 t g2).1 n (h.2.2.2 a)
  rw [ht] at hA
  exact W.bald (v := v0) hx hb g3 hA (fun q => by cases q) (by show ¬ (i < 0 ∨ (arrV _ _ _).slots.size ≤ _); rw [arrV_size]; exact hin) (by show (arrV _ _ _).slots[_]? = _; rw [arrV_read _ _ (jm_vlt hin), hv0]) rfl rfl hd W9
theorem jx_zald {a t n : Nat} {i : Int32} {v0 : Value} (hd : decode M.2.1 pc = .ok (.baload, 1)) (hk : h.2.2.1 a = (jm_a t, n)) (ht : jm_ty t = .boolean) (hin : vp_in i n) (hv0 : h.2.2.2 a i.toNatClampNeg = v0)
    (kk : jm_X l G M n0 s0 Z Post (pc + 1) lv (v0 :: st) h) : jm_X l G M n0 s0 Z Post pc lv (.int i :: .ref a :: st) h := by
  obtain ⟨r, h', a1, a2, a3, a4, a5, v⟩ := kk
  refine ⟨r, h', a1, a2, a3, a4, a5, fun p e s m args below meth c1 H locs ls C n1 n2 n3 hR hS hv => ?_⟩
  have W9 := v p e s m args below meth c1 H locs ls C n1 n2 n3 hR hS hv
  obtain ⟨hx, hb, hml, hr, hlk, hnm, hown, htb, hts, hK, hN⟩ := C
  obtain ⟨g1, g2, g3⟩ := hR.2.2.2 a t n hk
  have hA := (hK.2 t g2).1 n (h.2.2.2 a)
  rw [ht] at hA
  exact W.zald (v := v0) hx hb g3 hA (fun q => by cases q) (by show ¬ (i < 0 ∨ (arrV _ _ _).slots.size ≤ _); rw [arrV_size]; exact hin) (by show (arrV _ _ _).slots[_]? = _; rw [arrV_read _ _ (jm_vlt hin), hv0]) rfl rfl hd W9
theorem jx_aald {C0 : String} {a t n : Nat} {i : Int32} {v0 : Value} (hd : decode M.2.1 pc = .ok (.aaload, 1)) (hk : h.2.2.1 a = (jm_a t, n)) (ht : jm_ty t = .object C0) (hin : vp_in i n) (hv0 : h.2.2.2 a i.toNatClampNeg = v0)
    (kk : jm_X l G M n0 s0 Z Post (pc + 1) lv (v0 :: st) h) : jm_X l G M n0 s0 Z Post pc lv (.int i :: .ref a :: st) h := by
  obtain ⟨r, h', a1, a2, a3, a4, a5, v⟩ := kk
  refine ⟨r, h', a1, a2, a3, a4, a5, fun p e s m args below meth c1 H locs ls C n1 n2 n3 hR hS hv => ?_⟩
  have W9 := v p e s m args below meth c1 H locs ls C n1 n2 n3 hR hS hv
  obtain ⟨hx, hb, hml, hr, hlk, hnm, hown, htb, hts, hK, hN⟩ := C
  obtain ⟨g1, g2, g3⟩ := hR.2.2.2 a t n hk
  have hA := (hK.2 t g2).1 n (h.2.2.2 a)
  rw [ht] at hA
  exact W.aald (ty := .object C0) (v := v0) hx hb g3 hA rfl (fun q => by cases q) (by show ¬ (i < 0 ∨ (arrV _ _ _).slots.size ≤ _); rw [arrV_size]; exact hin) (by show (arrV _ _ _).slots[_]? = _; rw [arrV_read _ _ (jm_vlt hin), hv0]) rfl rfl hd W9
theorem jx_iast {a t n : Nat} {i : Int32} {x : Int32} (hd : decode M.2.1 pc = .ok (.iastore, 1)) (hk : h.2.2.1 a = (jm_a t, n)) (ht : jm_ty t = .int) (hin : vp_in i n)
    (kk : jm_X l G M n0 s0 Z Post (pc + 1) lv st (jm_put h a i.toNatClampNeg (.int x))) : jm_X l G M n0 s0 Z Post pc lv (.int x :: .int i :: .ref a :: st) h := by
  obtain ⟨r, h', a1, a2, a3, a4, a5, v⟩ := kk
  refine ⟨r, h', a1, a2, a3, a4, a5, fun p e s m args below meth c1 H locs ls C n1 n2 n3 hR hS hv => ?_⟩
  have W9 := fun H1 locs1 => v p e s m args below meth c1 H1 locs1 ls C n1 n2 n3
  obtain ⟨hx, hb, hml, hr, hlk, hnm, hown, htb, hts, hK, hN⟩ := C
  obtain ⟨g1, g2, g3⟩ := hR.2.2.2 a t n hk
  have hA := (hK.2 t g2).1 n (h.2.2.2 a)
  rw [ht] at hA
  refine W.iast hx hb g3 hA (fun q => by cases q) (by show ¬ (i < 0 ∨ (arrV _ _ _).slots.size ≤ _); rw [arrV_size]; exact hin) rfl rfl hd fun H1 e z oq => ?_
  refine W9 H1 _ (hR.putA hk z oq ?_) (hS.put z oq g1) hv
  rw [e, arrV_store]
  try rfl
theorem jx_last {a t n : Nat} {i : Int32} {x : Int64} (hd : decode M.2.1 pc = .ok (.lastore, 1)) (hk : h.2.2.1 a = (jm_a t, n)) (ht : jm_ty t = .long) (hin : vp_in i n)
    (kk : jm_X l G M n0 s0 Z Post (pc + 1) lv st (jm_put h a i.toNatClampNeg (.long x))) : jm_X l G M n0 s0 Z Post pc lv (.long x :: .int i :: .ref a :: st) h := by
  obtain ⟨r, h', a1, a2, a3, a4, a5, v⟩ := kk
  refine ⟨r, h', a1, a2, a3, a4, a5, fun p e s m args below meth c1 H locs ls C n1 n2 n3 hR hS hv => ?_⟩
  have W9 := fun H1 locs1 => v p e s m args below meth c1 H1 locs1 ls C n1 n2 n3
  obtain ⟨hx, hb, hml, hr, hlk, hnm, hown, htb, hts, hK, hN⟩ := C
  obtain ⟨g1, g2, g3⟩ := hR.2.2.2 a t n hk
  have hA := (hK.2 t g2).1 n (h.2.2.2 a)
  rw [ht] at hA
  refine W.last hx hb g3 hA (fun q => by cases q) (by show ¬ (i < 0 ∨ (arrV _ _ _).slots.size ≤ _); rw [arrV_size]; exact hin) rfl rfl hd fun H1 e z oq => ?_
  refine W9 H1 _ (hR.putA hk z oq ?_) (hS.put z oq g1) hv
  rw [e, arrV_store]
  try rfl
theorem jx_bast {a t n : Nat} {i : Int32} {x : Int32} (hd : decode M.2.1 pc = .ok (.bastore, 1)) (hk : h.2.2.1 a = (jm_a t, n)) (ht : jm_ty t = .byte) (hin : vp_in i n)
    (kk : jm_X l G M n0 s0 Z Post (pc + 1) lv st (jm_put h a i.toNatClampNeg (.int x.toInt8.toInt32))) : jm_X l G M n0 s0 Z Post pc lv (.int x :: .int i :: .ref a :: st) h := by
  obtain ⟨r, h', a1, a2, a3, a4, a5, v⟩ := kk
  refine ⟨r, h', a1, a2, a3, a4, a5, fun p e s m args below meth c1 H locs ls C n1 n2 n3 hR hS hv => ?_⟩
  have W9 := fun H1 locs1 => v p e s m args below meth c1 H1 locs1 ls C n1 n2 n3
  obtain ⟨hx, hb, hml, hr, hlk, hnm, hown, htb, hts, hK, hN⟩ := C
  obtain ⟨g1, g2, g3⟩ := hR.2.2.2 a t n hk
  have hA := (hK.2 t g2).1 n (h.2.2.2 a)
  rw [ht] at hA
  refine W.bast hx hb g3 hA (fun q => by cases q) (by show ¬ (i < 0 ∨ (arrV _ _ _).slots.size ≤ _); rw [arrV_size]; exact hin) rfl rfl hd fun H1 e z oq => ?_
  refine W9 H1 _ (hR.putA hk z oq ?_) (hS.put z oq g1) hv
  rw [e, arrV_store]
  try rfl
theorem jx_zast {a t n : Nat} {i : Int32} {x : Int32} (hd : decode M.2.1 pc = .ok (.bastore, 1)) (hk : h.2.2.1 a = (jm_a t, n)) (ht : jm_ty t = .boolean) (hin : vp_in i n)
    (kk : jm_X l G M n0 s0 Z Post (pc + 1) lv st (jm_put h a i.toNatClampNeg (narrow .boolean (.int x)))) : jm_X l G M n0 s0 Z Post pc lv (.int x :: .int i :: .ref a :: st) h := by
  obtain ⟨r, h', a1, a2, a3, a4, a5, v⟩ := kk
  refine ⟨r, h', a1, a2, a3, a4, a5, fun p e s m args below meth c1 H locs ls C n1 n2 n3 hR hS hv => ?_⟩
  have W9 := fun H1 locs1 => v p e s m args below meth c1 H1 locs1 ls C n1 n2 n3
  obtain ⟨hx, hb, hml, hr, hlk, hnm, hown, htb, hts, hK, hN⟩ := C
  obtain ⟨g1, g2, g3⟩ := hR.2.2.2 a t n hk
  have hA := (hK.2 t g2).1 n (h.2.2.2 a)
  rw [ht] at hA
  refine W.zast hx hb g3 hA (fun q => by cases q) (by show ¬ (i < 0 ∨ (arrV _ _ _).slots.size ≤ _); rw [arrV_size]; exact hin) rfl rfl hd fun H1 e z oq => ?_
  refine W9 H1 _ (hR.putA hk z oq ?_) (hS.put z oq g1) hv
  rw [e, arrV_store]
  try rfl
theorem jx_aast {C0 : String} {T0 : u_T} {N0 : Nat} {a t n x c n' : Nat} {i : Int32} (hd : decode M.2.1 pc = .ok (.aastore, 1)) (hk : h.2.2.1 a = (jm_a t, n)) (ht : jm_ty t = .object C0) (hin : vp_in i n) (hx0 : h.2.2.1 x = (jm_o c, n')) (hc : jm_cl[c]? = some (C0, T0, N0))
    (kk : jm_X l G M n0 s0 Z Post (pc + 1) lv st (jm_put h a i.toNatClampNeg (.ref x))) : jm_X l G M n0 s0 Z Post pc lv (.ref x :: .int i :: .ref a :: st) h := by
  obtain ⟨r, h', a1, a2, a3, a4, a5, v⟩ := kk
  refine ⟨r, h', a1, a2, a3, a4, a5, fun p e s m args below meth c1 H locs ls C n1 n2 n3 hR hS hv => ?_⟩
  have W9 := fun H1 locs1 => v p e s m args below meth c1 H1 locs1 ls C n1 n2 n3
  obtain ⟨hx, hb, hml, hr, hlk, hnm, hown, htb, hts, hK, hN⟩ := C
  obtain ⟨g1, g2, g3⟩ := hR.2.2.2 a t n hk
  obtain ⟨f1, r0, f2, cellV, q1, q2, q3, -⟩ := hR.2.2.1 x c n' hx0
  have hcls := (hK.1 c _ hc).2
  have hRA := (hK.2 t g2).2
  rw [ht] at hRA
  obtain ⟨kA, comp, k1, k2, k3, -⟩ := hRA
  have hcomp : comp = G.1.1 c := Option.some.inj (k3.symm.trans hcls.1)
  subst hcomp
  obtain ⟨kC, hkC, -⟩ := hcls.2
  refine W.aast hx hb g3 (fun q h => by cases h) (fun h => by cases h) k1 k2 rfl hkC ⟨fun q => hin (Or.inl q), by show _ < (arrV _ _ _).slots.size; rw [arrV_size]; exact jm_vlt hin⟩ q1 (fun q h => by rw [q3] at h; cases h) (by rw [q2]; exact hkC) (by rw [q2]; exact va_assign hcls) rfl rfl hd fun H1 e z oq => ?_
  refine W9 H1 _ (hR.putA hk z oq ?_) (hS.put z oq g1) hv
  rw [e, arrV_store]
theorem jx_aastN {C0 : String} {a t n : Nat} {i : Int32} (hd : decode M.2.1 pc = .ok (.aastore, 1)) (hk : h.2.2.1 a = (jm_a t, n)) (ht : jm_ty t = .object C0) (hin : vp_in i n)
    (kk : jm_X l G M n0 s0 Z Post (pc + 1) lv st (jm_put h a i.toNatClampNeg .null)) : jm_X l G M n0 s0 Z Post pc lv (.null :: .int i :: .ref a :: st) h := by
  obtain ⟨r, h', a1, a2, a3, a4, a5, v⟩ := kk
  refine ⟨r, h', a1, a2, a3, a4, a5, fun p e s m args below meth c1 H locs ls C n1 n2 n3 hR hS hv => ?_⟩
  have W9 := fun H1 locs1 => v p e s m args below meth c1 H1 locs1 ls C n1 n2 n3
  obtain ⟨hx, hb, hml, hr, hlk, hnm, hown, htb, hts, hK, hN⟩ := C
  obtain ⟨g1, g2, g3⟩ := hR.2.2.2 a t n hk
  have hA := (hK.2 t g2).1 n (h.2.2.2 a)
  rw [ht] at hA
  refine va_WaastN (C := C0) hx hb g3 hA (fun h => by cases h) (by show ¬ (i < 0 ∨ (arrV _ _ _).slots.size ≤ _); rw [arrV_size]; exact hin) rfl rfl hd fun H1 e z oq => ?_
  refine W9 H1 _ (hR.putA hk z oq ?_) (hS.put z oq g1) hv
  rw [e, arrV_store]
theorem jx_alen {a t n : Nat} {v0 : Int32} (hd : decode M.2.1 pc = .ok (.arraylength, 1)) (hk : h.2.2.1 a = (jm_a t, n)) (hv0 : Int32.ofNat n = v0)
    (kk : jm_X l G M n0 s0 Z Post (pc + 1) lv (.int v0 :: st) h) : jm_X l G M n0 s0 Z Post pc lv (.ref a :: st) h := by
  obtain ⟨r, h', a1, a2, a3, a4, a5, v⟩ := kk
  refine ⟨r, h', a1, a2, a3, a4, a5, fun p e s m args below meth c1 H locs ls C n1 n2 n3 hR hS hv => ?_⟩
  have W9 := v p e s m args below meth c1 H locs ls C n1 n2 n3 hR hS hv
  obtain ⟨hx, hb, hml, hr, hlk, hnm, hown, htb, hts, hK, hN⟩ := C
  obtain ⟨g1, g2, g3⟩ := hR.2.2.2 a t n hk
  exact W.alen (n := v0) hx hb g3 ((hK.2 t g2).1 n (h.2.2.2 a)) (by rw [arrV_size]; exact hv0) rfl rfl hd W9
theorem jm_S.new {H0 H H1 : Heap} {locs : List Loc} {A : Nat → Prop} (hS : va_S A H0 H locs) (hz : H1.size = H.size + 1) (hq : ∀ q : Nat, q < H.size → H1[q]? = H[q]?) : va_S A H0 H1 locs :=
  ⟨Nat.le_trans hS.1 (by omega), fun x h1 h2 => (hq x (Nat.lt_of_lt_of_le h1 hS.1)).trans (hS.2.1 x h1 h2), hS.2.2⟩
theorem jx_new {c idx n : Nat} {C0 : String} {T : u_T} {N : Nat} {ty : Nat → FieldType} (hd : decode M.2.1 pc = .ok (.new idx, 3)) (hc : jm_cl[c]? = some (C0, T, N)) (hin : ∀ w ∈ u_ws C0 T N, w ∈ jm_W) (hty : ∀ k, k < N → parseFieldDescriptor (T k).2.2.1 = some (ty k))
    (hw1 : Cond.classLink M.1.cls idx C0 ∈ jm_W) (hw2 : Cond.instantiable C0 n ∈ jm_W) (hw3 : Cond.initialized C0 ∈ jm_W)
    (kk : jm_X l G M n0 s0 Z Post (pc + 3) lv (.ref h.1 :: st) (jm_new h (jm_o c) n (fun k => defaultValue (ty k)))) : jm_X l G M n0 s0 Z Post pc lv st h := by
  obtain ⟨r, h', a1, a2, a3, a4, a5, v⟩ := kk
  have b1 : h.1 + 1 ≤ h'.1 := a1
  have b2 : h.2.1 + n ≤ h'.2.1 := a2
  refine ⟨r, h', by omega, by omega, a3, a4, a5, fun p e s m args below meth c1 H locs ls C n1 n2 n3 hR hS hv => ?_⟩
  have W9 := fun H1 => v p e s m args below meth c1 H1 locs ls C n1 (Nat.le_succ_of_le n2) (Nat.le_trans n3 (Nat.le_add_right _ _))
  obtain ⟨hx, hb, hml, hr, hlk, hnm, hown, htb, hts, hK, hN⟩ := C
  have hKn := hK.1 c _ hc
  have e0 : h.1 = H.size := hR.1
  have c1' : h.1 - n0 + 1 ≤ (jm_rm Z r h').cells := by show _ ≤ (Z.2.2 r h').1; omega
  have c2' : h.2.1 - s0 + n ≤ (jm_rm Z r h').slots := by show _ ≤ (Z.2.2 r h').2.1; omega
  refine W.newcK (g := F0 m pc ls st) hx hb hown (hts _ hw1) (hts _ hw2) (hts _ hw3) rfl hd c1' c2' hKn.2.1 e0.symm fun H1 kC hkC e1 z1 o1 => ?_
  refine W.cs (cells' := h.1 + 1 - n0) (slots' := h.2.1 + n - s0) (by omega) (by omega) ?_
  exact W9 H1 (hR.newO hc z1 (fun q hq => o1 q hq) (u_born ty hts hin hKn hkC e1 hty)) (jm_S.new hS (by rw [z1, e0]) (fun q hq => o1 q (by rw [e0]; exact hq))) hv
theorem jx_newa {atype : ArrayType} {t N : Nat} {n : Int32} (hd : decode M.2.1 pc = .ok (.newarray atype, 2)) (ht0 : t < jm_nt) (ht : jm_ty t = newarray.typeOf atype) (hp : ∀ C0, newarray.typeOf atype ≠ .object C0) (hw : Cond.arrayClass (newarray.typeOf atype) ∈ jm_W)
    (hn : ¬ n < 0) (hN : n.toNatClampNeg = N) (hbytes : N * componentBytes (newarray.typeOf atype) ≤ 536870912)
    (kk : jm_X l G M n0 s0 Z Post (pc + 2) lv (.ref h.1 :: st) (jm_new h (jm_a t) N (fun _ => defaultValue (newarray.typeOf atype)))) : jm_X l G M n0 s0 Z Post pc lv (.int n :: st) h := by
  obtain ⟨r, h', a1, a2, a3, a4, a5, v⟩ := kk
  have b1 : h.1 + 1 ≤ h'.1 := a1
  have b2 : h.2.1 + N ≤ h'.2.1 := a2
  refine ⟨r, h', by omega, by omega, a3, a4, a5, fun p e s m args below meth c1 H locs ls C n1 n2 n3 hR hS hv => ?_⟩
  have W9 := fun H1 => v p e s m args below meth c1 H1 locs ls C n1 (Nat.le_succ_of_le n2) (Nat.le_trans n3 (Nat.le_add_right _ _))
  obtain ⟨hx, hb, hml, hr, hlk, hnm, hown, htb, hts, hK, hN9⟩ := C
  have e0 : h.1 = H.size := hR.1
  have c1' : h.1 - n0 + 1 ≤ (jm_rm Z r h').cells := by show _ ≤ (Z.2.2 r h').1; omega
  have c2' : h.2.1 - s0 + N ≤ (jm_rm Z r h').slots := by show _ ≤ (Z.2.2 r h').2.1; omega
  refine va_newaK (g := F0 m pc ls (.int n :: st)) hx hb (hts _ hw) rfl hd rfl hn hN hbytes c1' c2' e0.symm fun H1 cA e1 z1 o1 hAr hNm => ?_
  refine W.cs (cells' := h.1 + 1 - n0) (slots' := h.2.1 + N - s0) (by omega) (by omega) ?_
  have hRA := (hK.2 t ht0).2
  rw [ht] at hRA
  have hcA : cA = G.2.1 t := by
    have h5 : s.vm.findClass ("[" ++ (newarray.typeOf atype).toString) = some (G.2.1 t) := by
      revert hRA hp
      cases newarray.typeOf atype <;> intro hp hRA <;> first | exact hRA | exact absurd rfl (hp _)
    exact Option.some.inj (hNm.symm.trans h5)
  subst hcA
  exact W9 H1 (hR.newA ht0 z1 (fun q hq => o1 q hq) e1) (jm_S.new hS (by rw [z1, e0]) (fun q hq => o1 q (by rw [e0]; exact hq))) hv
theorem jx_newq {C0 : String} {t N idx : Nat} {n : Int32} (hd : decode M.2.1 pc = .ok (.anewarray idx, 3)) (ht0 : t < jm_nt) (ht : jm_ty t = .object C0) (hw1 : Cond.classLink M.1.cls idx C0 ∈ jm_W) (hw : C0 = "CellWorks$Cell")
    (hn : ¬ n < 0) (hN : n.toNatClampNeg = N) (hbytes : N * 4 ≤ 536870912)
    (kk : jm_X l G M n0 s0 Z Post (pc + 3) lv (.ref h.1 :: st) (jm_new h (jm_a t) N (fun _ => .null))) : jm_X l G M n0 s0 Z Post pc lv (.int n :: st) h := by
  obtain ⟨r, h', a1, a2, a3, a4, a5, v⟩ := kk
  have b1 : h.1 + 1 ≤ h'.1 := a1
  have b2 : h.2.1 + N ≤ h'.2.1 := a2
  refine ⟨r, h', by omega, by omega, a3, a4, a5, fun p e s m args below meth c1 H locs ls C n1 n2 n3 hR hS hv => ?_⟩
  have W9 := fun H1 => v p e s m args below meth c1 H1 locs ls C n1 (Nat.le_succ_of_le n2) (Nat.le_trans n3 (Nat.le_add_right _ _))
  obtain ⟨hx, hb, hml, hr, hlk, hnm, hown, htb, hts, hK, hN9⟩ := C
  have e0 : h.1 = H.size := hR.1
  have c1' : h.1 - n0 + 1 ≤ (jm_rm Z r h').cells := by show _ ≤ (Z.2.2 r h').1; omega
  have c2' : h.2.1 - s0 + N ≤ (jm_rm Z r h').slots := by show _ ≤ (Z.2.2 r h').2.1; omega
  subst hN
  refine W.anew (g := F0 m pc ls (.int n :: st)) hx hb hown (hts _ hw1) (va_AO.use (by rw [hw]; exact hN9.2.1)) rfl hd rfl hn hbytes c1' c2' fun cA kA comp f1 f2 f3 f4 => ?_
  refine W.cs (cells' := h.1 + 1 - n0) (slots' := h.2.1 + n.toNatClampNeg - s0) (by omega) (by omega) ?_
  have hRA := (hK.2 t ht0).2
  rw [ht] at hRA
  obtain ⟨kA2, comp2, k1, k2, k3, k4⟩ := hRA
  have hcA : cA = G.2.1 t := Option.some.inj (f1.symm.trans k4)
  subst hcA
  generalize hH1 : H.push ({ cls := G.2.1 t, slots := Array.replicate n.toNatClampNeg .null, vm := .none } : Cell) = H1
  have z1 : H1.size = H.size + 1 := by rw [← hH1, Array.size_push]
  have e1 : H1[H.size]? = some (arrV (G.2.1 t) n.toNatClampNeg (fun _ => .null)) := by rw [← hH1, Array.getElem?_push_size, ← arrV_new]
  have o1 : ∀ q : Nat, q < H.size → H1[q]? = H[q]? := fun q hq => by rw [← hH1, Array.getElem?_push, if_neg (Nat.ne_of_lt hq)]
  have e2 : ({ F0 m pc ls (.int n :: st) with pc := (F0 m pc ls (.int n :: st)).pc + 3, stack := .ref H.size :: st } : JFrame) = F0 m (pc + 3) ls (.ref h.1 :: st) := by rw [e0]
  rw [e2]
  exact W9 H1 (hR.newA ht0 (by rw [z1, e0]) (fun q hq => o1 q (by rw [← e0]; exact hq)) (by rw [e0]; exact e1)) (jm_S.new hS z1 o1) hv
theorem jx_objInit {a idx : Nat} (hd : decode M.2.1 pc = .ok (.invokespecial idx, 3)) (hw1 : Cond.methodLink M.1.cls idx Lib.objectInit ∈ jm_W) (hw2 : Cond.instanceMethod Lib.objectInit ∈ jm_W) (hw3 : Cond.code Lib.objectInit ⟨#[0xb1]⟩ 1 none ∈ jm_W)
    (hf : 1 ≤ Z.1) (hlo : (st.map fun v => v.category).sum + 12 ≤ Z.2.1) (kk : jm_X l G M n0 s0 Z Post (pc + 3) lv st h) : jm_X l G M n0 s0 Z Post pc lv (.ref a :: st) h := by
  obtain ⟨r, h', a1, a2, a3, a4, a5, v⟩ := kk
  refine ⟨r, h', a1, a2, a3, a4, a5, fun p e s m args below meth c1 H locs ls C n1 n2 n3 hR hS hv => ?_⟩
  have W9 := v p e s m args below meth c1 H locs ls C n1 n2 n3 hR hS hv
  obtain ⟨hx, hb, hml, hr, hlk, hnm, hown, htb, hts, hK, hN⟩ := C
  exact W.objInit hx hb hown (hts _ hw1) (hts _ hw2) (hts _ hw3) (g := F0 m pc ls (.ref a :: st)) rfl (by rw [hml]; exact hv.1) rfl hd hf (by show 2 * 0 + _ + 12 ≤ Z.2.1; omega) W9
end JH
end
section

section JC
variable {l : Launch} {G : jm_G} {M : jm_M} {n0 s0 : Nat} {Z : jm_Z} {Post : jm_r → jm_H → Prop} {pc : Nat} {lv : List (Nat × Value)} {st : List Value} {h : jm_H}
def jm_lo (d : Nat) : Nat := 64 * d
def jm_P (G : jm_G) (args : List Value) (h : jm_H) : Array Value → State → Prop := fun a U => a = args.toArray ∧ jm_R G h U.heap ∧ jm_K G U ∧ jm_N G U U.heap
def jm_Q (G : jm_G) (v : Option Value) (h : jm_H) : Array Value → State → Outcome → State → Prop := fun _ st o t => o = .returned v ∧ jm_R G h t.heap ∧ va_F (jm_A G) st t
/-- a method that throws an exception of class E, and leaves the heap h -/
def jm_XQ (G : jm_G) (E : String) (h : jm_H) (mc ms : Nat) : Array Value → State → Outcome → State → Prop := fun _ st o t => ∃ (q : Addr) (ce : Cell) (L : List Loc), o = .threw q ∧ t.heap[q]? = some ce ∧ ce.vm = .none ∧ st.vm.findClass E = some ce.cls ∧ st.WarmedH t.vm ∧ st.sameButNew ({ t with vm := st.vm } : State) L mc ms ∧ (∀ z ∈ L, jm_A G z.base) ∧ jm_R G h t.heap ∧ va_F (jm_A G) st t
def jm_MX (G : jm_G) (E : String) (h : jm_H) (below : List Frame) (args : Array Value) (s : State) (mc ms : Nat) : State → Prop := fun t => ∃ o, t.status = .running ∧ Ended t below o ∧ jm_XQ G E h mc ms args s o t
def jm_en (G : jm_G) (n0 s0 : Nat) (r : jm_r) (h : jm_H) : jm_E := fun below args s => match r with
  | .inl v => MQ below (jm_Q G v h) args s (h.1 - n0) (h.2.1 - s0) (jm_A G)
  | .inr E => jm_MX G E h below args s (h.1 - n0) (h.2.1 - s0)
def jm_zn (G : jm_G) (d n0 s0 : Nat) : jm_Z := (d, jm_lo d, fun r h => (h.1 - n0, h.2.1 - s0, jm_en G n0 s0 r h))
def jm_ws (M : jm_M) : List Cond := Cond.code M.1 M.2.1 M.2.2.1 M.2.2.2.1 :: jm_W
def jm_rmN (d c s : Nat) : Room := { frames := d, cells := c, slots := s, locals := jm_lo d }
/-- the method's contract at these arguments and this heap: it answers v, and the heap is h' -/
def jm_C (l : Launch) (G : jm_G) (M : jm_M) (d : Nat) (args : List Value) (h : jm_H) (v : Option Value) (h' : jm_H) : Prop :=
  h.1 ≤ h'.1 ∧ h.2.1 ≤ h'.2.1 ∧ Met l M.1 (jm_ws M) (jm_rmN d (h'.1 - h.1) (h'.2.1 - h.2.1)) (jm_P G args h) (jm_Q G v h') (h'.1 - h.1) (h'.2.1 - h.2.1) (jm_A G)
def jm_CP (l : Launch) (G : jm_G) (M : jm_M) (d : Nat) (args : List Value) (h : jm_H) (Q : Option Value → jm_H → Prop) : Prop := ∃ (v : Option Value) (h' : jm_H), jm_C l G M d args h v h' ∧ Q v h'
theorem jm_F0 {s t : State} {H : Heap} {locs : List Loc} (hS : va_S (jm_A G) s.heap H locs) (ht : t.heap = H) : va_F (jm_A G) s t := hS.F ht
theorem jx_iret {d : Nat} {v0 : Int32} (hd : decode M.2.1 pc = .ok (.ireturn, 1)) (hr0 : M.2.2.2.1 = some .int) (hp : Post (.inl (some (.int v0))) h) : jm_X l G M n0 s0 (jm_zn G d n0 s0) Post pc lv [.int v0] h := by
  refine ⟨.inl (some (.int v0)), h, Nat.le_refl _, Nat.le_refl _, Nat.le_refl _, Nat.le_refl _, hp, fun p e s m args below meth c1 H locs ls C n1 n2 n3 hR hS hv => ?_⟩
  obtain ⟨hx, hb, hml, hr, hlk, hnm, hown, htb, hts, hK, hN⟩ := C
  exact W.iret hx hb (hr.trans hr0) (fun t ht hW => ⟨rfl, by rw [ht]; exact hR, jm_F0 hS ht⟩) hS.2.2 hd hlk
theorem jx_zret {d : Nat} {v0 : Int32} {ty : FieldType} (hd : decode M.2.1 pc = .ok (.ireturn, 1)) (hr0 : M.2.2.2.1 = some ty) (hn : narrow ty (.int v0) = .int v0) (hp : Post (.inl (some (.int v0))) h) : jm_X l G M n0 s0 (jm_zn G d n0 s0) Post pc lv [.int v0] h := by
  refine ⟨.inl (some (.int v0)), h, Nat.le_refl _, Nat.le_refl _, Nat.le_refl _, Nat.le_refl _, hp, fun p e s m args below meth c1 H locs ls C n1 n2 n3 hR hS hv => ?_⟩
  obtain ⟨hx, hb, hml, hr, hlk, hnm, hown, htb, hts, hK, hN⟩ := C
  exact W.zret hx hb (hr.trans hr0) hn (fun t ht hW => ⟨rfl, by rw [ht]; exact hR, jm_F0 hS ht⟩) hS.2.2 hd hlk
theorem jx_lret {d : Nat} {v0 : Int64} (hd : decode M.2.1 pc = .ok (.lreturn, 1)) (hr0 : M.2.2.2.1 = some .long) (hp : Post (.inl (some (.long v0))) h) : jm_X l G M n0 s0 (jm_zn G d n0 s0) Post pc lv [.long v0] h := by
  refine ⟨.inl (some (.long v0)), h, Nat.le_refl _, Nat.le_refl _, Nat.le_refl _, Nat.le_refl _, hp, fun p e s m args below meth c1 H locs ls C n1 n2 n3 hR hS hv => ?_⟩
  obtain ⟨hx, hb, hml, hr, hlk, hnm, hown, htb, hts, hK, hN⟩ := C
  exact W.lret hx hb (hr.trans hr0) (fun t ht hW => ⟨rfl, by rw [ht]; exact hR, jm_F0 hS ht⟩) hS.2.2 hd hlk
theorem jx_aret {d : Nat} {v0 : Value} {rt : FieldType} (hd : decode M.2.1 pc = .ok (.areturn, 1)) (hr0 : M.2.2.2.1 = some rt) (hrt : (∃ n, rt = .object n) ∨ ∃ t, rt = .array t) (hv0 : v0 = .null ∨ ∃ a, v0 = .ref a) (hp : Post (.inl (some v0)) h) : jm_X l G M n0 s0 (jm_zn G d n0 s0) Post pc lv [v0] h := by
  refine ⟨.inl (some v0), h, Nat.le_refl _, Nat.le_refl _, Nat.le_refl _, Nat.le_refl _, hp, fun p e s m args below meth c1 H locs ls C n1 n2 n3 hR hS hv => ?_⟩
  obtain ⟨hx, hb, hml, hr, hlk, hnm, hown, htb, hts, hK, hN⟩ := C
  exact W.aret hx hb (hr.trans hr0) hrt hv0 (fun t ht hW => ⟨rfl, by rw [ht]; exact hR, jm_F0 hS ht⟩) hS.2.2 hd hlk
theorem jx_vret {d : Nat} (hd : decode M.2.1 pc = .ok (.return_, 1)) (hr0 : M.2.2.2.1 = none) (hp : Post (.inl none) h) : jm_X l G M n0 s0 (jm_zn G d n0 s0) Post pc lv [] h := by
  refine ⟨.inl none, h, Nat.le_refl _, Nat.le_refl _, Nat.le_refl _, Nat.le_refl _, hp, fun p e s m args below meth c1 H locs ls C n1 n2 n3 hR hS hv => ?_⟩
  obtain ⟨hx, hb, hml, hr, hlk, hnm, hown, htb, hts, hK, hN⟩ := C
  exact W.vret hx hb (hr.trans hr0) (fun t ht hW => ⟨rfl, by rw [ht]; exact hR, jm_F0 hS ht⟩) hS.2.2 hd hlk
/-- a method without a table of exceptions that returns: its contract out of its body's walk -/
theorem jm_of {d : Nat} {args : List Value} {Q : Option Value → jm_H → Prop} (hy : plainName M.1.cls = true) (htb0 : M.2.2.2.2 = []) (hlen : (lg_sl args).length ≤ M.2.2.1)
    (k : jm_X l G M h.1 h.2.1 (jm_zn G d h.1 h.2.1) (fun r h' => ∃ v, r = .inl v ∧ Q v h') 0 (lv_args 0 args) [] h) : jm_CP l G M d args h Q := by
  obtain ⟨r, h', a1, a2, a3, a4, ⟨v, rfl, hq⟩, kv⟩ := k
  refine ⟨v, h', ⟨a1, a2, ?_⟩, hq⟩
  refine Met.ofW (cc := M.2.1) (maxL := M.2.2.1) (ret := M.2.2.2.1) hy rfl ?_
  intro p e s m args' below meth c s₁ B hml hv
  obtain ⟨rfl, hR, hK, hN⟩ := hv
  have hts := atoms_spec (ws := jm_ws M) B.pre
  have hl := lv_entry args (n := M.2.2.1) hlen
  rw [lg_entry_eq]
  generalize (lg_sl args ++ List.replicate (M.2.2.1 - (lg_sl args).length) Slot.unset).toArray = ls at hl ⊢
  have htab : c.exceptionTable.toList = M.2.2.2.2 := by
    rw [htb0]
    have := BodyLoose.noHandlers B (hts _ List.mem_cons_self)
    simpa using this
  have C : jm_Cx G M p s m args.toArray meth c := ⟨B.exec, B.bytes, hml, B.returns, B.notSynchronized, (name_of_methodNamed B.named B.method).1, findClass_of_methodNamed B.named, htab, fun w hw => hts w (List.mem_cons_of_mem _ hw), hK, hN⟩
  have e1 : h.1 = s.heap.size := hR.1
  have W9 := kv p e s m args.toArray below meth c s.heap [] ls C e1 (Nat.le_refl _) (Nat.le_refl _) hR va_S.rf hl
  rw [Nat.sub_self, Nat.sub_self] at W9
  exact W9
/-- what a call leaves, to the frame that goes on -/
theorem jm_back {p : Program} {e : Env} {R : Room} {s : State} {m : MethodId} {args a : Array Value} {below : List Frame} {meth : Method} {c : Code} {H : Heap} {locs : List Loc} {cells slots mc ms : Nat} {Q : State → Prop} {ls : Array Slot} {st0 rest : List Value} {v : Option Value} {h1 : jm_H}
    (hr : va_Run p l e R s m args below meth c H locs cells slots mc ms (F0 m pc ls st0) rest (jm_Q G v h1 a) (jm_A G)) (hS : va_S (jm_A G) s.heap H locs)
    (kk : ∀ (H1 : Heap) (locs1 : List Loc), jm_R G h1 H1 → va_S (jm_A G) s.heap H1 locs1 → W p l e R s m args below meth c H1 locs1 (cells + mc) (slots + ms) Q (F0 m (pc + 3) ls (v.toList ++ rest))) : W p l e R s m args below meth c H locs cells slots Q (F0 m pc ls st0) := by
  intro T hT X
  obtain ⟨v', st₀, t, T', L, h0, X', hL, e1, e2, ⟨hv, hR, hz, hk⟩, st⟩ := hr T hT X
  cases hv
  rw [h0] at hz hk
  obtain ⟨t2, a1, b1⟩ := kk T'.heap (locs ++ L) (by rw [e1]; exact hR)
    ⟨Nat.le_trans hS.1 (by rw [e1]; exact hz), fun q h1 h2 => by rw [e1, hk q (Nat.lt_of_lt_of_le h1 hS.1) h2]; exact hS.2.1 q h1 h2, fun q hq => by
      rcases List.mem_append.mp hq with h | h
      · exact hS.2.2 q h
      · exact hL q h⟩ T' rfl X'
  exact ⟨t2, st t2 a1, b1⟩
theorem jm_blind {args : List Value} : FrameBlind (jm_P G args h) := fun a U g mk q => ⟨q.1, q.2.1, jm_K.moved (u := U) (U := U.calling g mk a) (Vm.Alike.refl U.vm) q.2.2.1, jm_N.calling q.2.2.2⟩
theorem jm_good {M2 : jm_M} (x : Cond) (L : List Cond) (hw : Cond.code M2.1 M2.2.1 M2.2.2.1 M2.2.2.2.1 ∈ jm_W) (hL : ∀ w ∈ L, w ∈ jm_W) : GoodIn (x :: jm_W) (L ++ jm_ws M2) := fun w h => by
  have hw9 : w ∈ jm_W := by
    rcases List.mem_append.mp h with h | h
    · exact hL w h
    · rcases List.mem_cons.mp h with h | h
      · rw [h]; exact hw
      · exact h
  exact ⟨List.mem_cons_of_mem _ hw9, jm_W_good w hw9⟩
/-- the words of a call: of the callee's code, of its class -/
def jm_cd (M2 : jm_M) (n : Nat) : Prop := Cond.code M2.1 M2.2.1 M2.2.2.1 M2.2.2.2.1 ∈ jm_W ∧ Cond.initialized M2.1.cls ∈ jm_W ∧ (M2.1.cls ≠ "java/lang/invoke/MethodHandle" ∧ M2.1.cls ≠ "java/lang/invoke/VarHandle" ∧ (parseMethodDescriptor M2.1.desc).map (fun d => d.parameters.length) = some n)
theorem jm_room {d : Nat} {M2 : jm_M} {R : Room} {a b : Nat} (h1 : d + 1 ≤ R.frames) (h2 : 19 + M2.2.2.1 + jm_lo d ≤ R.locals) : (jm_rmN d a b).frames + 1 ≤ R.frames ∧ 8 + (M2.2.2.1 + 11) + (jm_rmN d a b).locals ≤ R.locals := ⟨h1, by show 8 + (M2.2.2.1 + 11) + jm_lo d ≤ _; omega⟩

theorem jx_callV {M2 : jm_M} {d n idx : Nat} {b : Nat} {As rest : List Value} {v0 : Option Value} {h1 : jm_H} {c nn : Nat} {T : u_T} {N : Nat} (hcl : jm_cl[c]? = some (M2.1.cls, T, N)) (hk : h.2.2.1 b = (jm_o c, nn)) (hw1 : Cond.methodLink M.1.cls idx M2.1 ∈ jm_W) (hw2 : Cond.instanceMethod M2.1 ∈ jm_W) (hw3 : Cond.selects M2.1.cls M2.1 M2.1 ∈ jm_W) (hd : decode M.2.1 pc = .ok (.invokevirtual idx, 3)) (hC : jm_C l G M2 d (.ref b :: As) h v0 h1) (hcd : jm_cd M2 n) (hn : As.length = n) (hst : st = As.reverse ++ .ref b :: rest) (hW : (rest.map fun v => v.category).sum ≤ 8)
    (hf : d + 1 ≤ Z.1) (hlo : 19 + M2.2.2.1 + jm_lo d ≤ Z.2.1) (kk : jm_X l G M n0 s0 Z Post (pc + 3) lv (v0.toList ++ rest) h1) : jm_X l G M n0 s0 Z Post pc lv st h := by
  subst hst
  obtain ⟨r, h', a1, a2, a3, a4, a5, v⟩ := kk
  obtain ⟨c1, c2, hM⟩ := hC
  obtain ⟨w1, w2, w3⟩ := hcd
  refine ⟨r, h', Nat.le_trans c1 a1, Nat.le_trans c2 a2, a3, a4, a5, fun p e s m args below meth c9 H locs ls C n1 n2 n3 hR hS hv => ?_⟩
  have W9 := fun H1 locs1 => v p e s m args below meth c9 H1 locs1 ls C n1 (Nat.le_trans n2 c1) (Nat.le_trans n3 c2)
  obtain ⟨hx, hb, hml, hr, hlk, hnm, hown, htb, hts, hK, hN⟩ := C
  have hts1 : ∀ w ∈ Cond.tt :: jm_W, w.before args s = true := fun w hw => (List.mem_cons.mp hw).elim (fun e => by rw [e]; rfl) (hts w)
  have hcell : h.1 - n0 + (h1.1 - h.1) ≤ (jm_rm Z r h').cells ∧ h.2.1 - s0 + (h1.2.1 - h.2.1) ≤ (jm_rm Z r h').slots := ⟨by show _ ≤ (Z.2.2 r h').1; omega, by show _ ≤ (Z.2.2 r h').2.1; omega⟩
  have hpre : ∀ U : State, U.heap = H → s.WarmedH U.vm → jm_P G (.ref b :: As) h (.ref b :: As).toArray U := fun U hU hW1 => ⟨rfl, by rw [hU]; exact hR, jm_K.moved hW1.alike hK, jm_N.warm hW1 hU hS hN⟩
  have cw := cwV (own := M.1.cls) (index := idx) (C := M2.1.cls) (y := M2.1) (R := jm_rm Z r h') (rm := jm_rmN d (h1.1 - h.1) (h1.2.1 - h.2.1)) n hts1 (jm_good Cond.tt [.methodLink M.1.cls idx M2.1, .instanceMethod M2.1, .selects M2.1.cls M2.1 M2.1, .initialized M2.1.cls] w1 (by simp [hw1, hw2, hw3, w2])) rfl rfl rfl ⟨rfl, w3⟩ (jm_room hf hlo)
  have hrecv : ∃ cellB : Cell, H[b]? = some cellB ∧ cellB.vm.isStatics = false ∧ s.vm.findClass M2.1.cls = some cellB.cls := by
    obtain ⟨g1, r0, g2, cell, q1, q2, q3, -⟩ := hR.2.2.1 b c nn hk
    exact ⟨cell, q1, by rw [q3]; rfl, by rw [q2]; exact (hK.1 c _ hcl).2.1⟩
  refine jm_back (va_runV (g := F0 m pc ls _) (As := As) (rest := rest) ⟨hx, hb, hml, hown, hts1⟩ hM cw ⟨jm_blind, hrecv, hpre⟩ rfl hn hv.1 rfl (by show 2 * 0 + _ ≤ 8; omega) hd hcell) hS fun H1 locs1 hR1 hS1 => ?_
  refine W.cs (cells' := h1.1 - n0) (slots' := h1.2.1 - s0) (by omega) (by omega) ?_
  exact W9 H1 locs1 hR1 hS1 hv
theorem jx_callS {M2 : jm_M} {d n idx : Nat} {As rest : List Value} {v0 : Option Value} {h1 : jm_H} (hw1 : Cond.methodLink M.1.cls idx M2.1 ∈ jm_W) (hw2 : Cond.static M2.1 ∈ jm_W) (hd : decode M.2.1 pc = .ok (.invokestatic idx, 3)) (hC : jm_C l G M2 d As h v0 h1) (hcd : jm_cd M2 n) (hn : As.length = n) (hst : st = As.reverse ++ rest) (hW : (rest.map fun v => v.category).sum ≤ 8)
    (hf : d + 1 ≤ Z.1) (hlo : 19 + M2.2.2.1 + jm_lo d ≤ Z.2.1) (kk : jm_X l G M n0 s0 Z Post (pc + 3) lv (v0.toList ++ rest) h1) : jm_X l G M n0 s0 Z Post pc lv st h := by
  subst hst
  obtain ⟨r, h', a1, a2, a3, a4, a5, v⟩ := kk
  obtain ⟨c1, c2, hM⟩ := hC
  obtain ⟨w1, w2, w3⟩ := hcd
  refine ⟨r, h', Nat.le_trans c1 a1, Nat.le_trans c2 a2, a3, a4, a5, fun p e s m args below meth c9 H locs ls C n1 n2 n3 hR hS hv => ?_⟩
  have W9 := fun H1 locs1 => v p e s m args below meth c9 H1 locs1 ls C n1 (Nat.le_trans n2 c1) (Nat.le_trans n3 c2)
  obtain ⟨hx, hb, hml, hr, hlk, hnm, hown, htb, hts, hK, hN⟩ := C
  have hts1 : ∀ w ∈ Cond.tt :: jm_W, w.before args s = true := fun w hw => (List.mem_cons.mp hw).elim (fun e => by rw [e]; rfl) (hts w)
  have hcell : h.1 - n0 + (h1.1 - h.1) ≤ (jm_rm Z r h').cells ∧ h.2.1 - s0 + (h1.2.1 - h.2.1) ≤ (jm_rm Z r h').slots := ⟨by show _ ≤ (Z.2.2 r h').1; omega, by show _ ≤ (Z.2.2 r h').2.1; omega⟩
  have hpre : ∀ U : State, U.heap = H → s.WarmedH U.vm → jm_P G As h As.toArray U := fun U hU hW1 => ⟨rfl, by rw [hU]; exact hR, jm_K.moved hW1.alike hK, jm_N.warm hW1 hU hS hN⟩
  have cw := va_cwS (own := M.1.cls) (index := idx) (y := M2.1) (R := jm_rm Z r h') (rm := jm_rmN d (h1.1 - h.1) (h1.2.1 - h.2.1)) n hts1 (jm_good Cond.tt [.methodLink M.1.cls idx M2.1, .static M2.1, .initialized M2.1.cls] w1 (by simp [hw1, hw2, w2])) rfl rfl rfl w3 (jm_room hf hlo)
  refine jm_back (va_runS (g := F0 m pc ls _) (As := As) (rest := rest) ⟨hx, hb, hml, hown, hts1⟩ hM cw ⟨jm_blind, hpre⟩ rfl hn hv.1 rfl (by show 2 * 0 + _ ≤ 8; omega) hd hcell) hS fun H1 locs1 hR1 hS1 => ?_
  refine W.cs (cells' := h1.1 - n0) (slots' := h1.2.1 - s0) (by omega) (by omega) ?_
  exact W9 H1 locs1 hR1 hS1 hv
theorem jx_callI {M2 : jm_M} {d n idx : Nat} {b : Nat} {As rest : List Value} {v0 : Option Value} {h1 : jm_H} (hrt : M2.2.2.2.1 = none) (hi0 : M2.1.name = "<init>") (hw1 : Cond.methodLink M.1.cls idx M2.1 ∈ jm_W) (hw2 : Cond.instanceMethod M2.1 ∈ jm_W) (hd : decode M.2.1 pc = .ok (.invokespecial idx, 3)) (hC : jm_C l G M2 d (.ref b :: As) h v0 h1) (hcd : jm_cd M2 n) (hn : As.length = n) (hst : st = As.reverse ++ .ref b :: rest) (hW : (rest.map fun v => v.category).sum ≤ 8)
    (hf : d + 1 ≤ Z.1) (hlo : 19 + M2.2.2.1 + jm_lo d ≤ Z.2.1) (kk : jm_X l G M n0 s0 Z Post (pc + 3) lv (v0.toList ++ rest) h1) : jm_X l G M n0 s0 Z Post pc lv st h := by
  subst hst
  obtain ⟨r, h', a1, a2, a3, a4, a5, v⟩ := kk
  obtain ⟨c1, c2, hM⟩ := hC
  obtain ⟨w1, w2, w3⟩ := hcd
  refine ⟨r, h', Nat.le_trans c1 a1, Nat.le_trans c2 a2, a3, a4, a5, fun p e s m args below meth c9 H locs ls C n1 n2 n3 hR hS hv => ?_⟩
  have W9 := fun H1 locs1 => v p e s m args below meth c9 H1 locs1 ls C n1 (Nat.le_trans n2 c1) (Nat.le_trans n3 c2)
  obtain ⟨hx, hb, hml, hr, hlk, hnm, hown, htb, hts, hK, hN⟩ := C
  have hts1 : ∀ w ∈ Cond.tt :: jm_W, w.before args s = true := fun w hw => (List.mem_cons.mp hw).elim (fun e => by rw [e]; rfl) (hts w)
  have hcell : h.1 - n0 + (h1.1 - h.1) ≤ (jm_rm Z r h').cells ∧ h.2.1 - s0 + (h1.2.1 - h.2.1) ≤ (jm_rm Z r h').slots := ⟨by show _ ≤ (Z.2.2 r h').1; omega, by show _ ≤ (Z.2.2 r h').2.1; omega⟩
  have hpre : ∀ U : State, U.heap = H → s.WarmedH U.vm → jm_P G (.ref b :: As) h (.ref b :: As).toArray U := fun U hU hW1 => ⟨rfl, by rw [hU]; exact hR, jm_K.moved hW1.alike hK, jm_N.warm hW1 hU hS hN⟩
  have cw := cwI (own := M.1.cls) (index := idx) (y := M2.1) (R := jm_rm Z r h') (rm := jm_rmN d (h1.1 - h.1) (h1.2.1 - h.2.1)) n hts1 (jm_good Cond.tt [] w1 (by simp)) (by show _ = Cond.code _ _ _ none :: jm_W; unfold jm_ws; rw [hrt]; rfl) rfl rfl (hts _ w2) (hts _ hw1) (hts _ hw2) hi0 w3 (jm_room hf hlo)
  refine jm_back (va_runI (g := F0 m pc ls _) (As := As) (rest := rest) ⟨hx, hb, hml, hown, hts1⟩ hM cw ⟨jm_blind, hpre⟩ rfl hn hv.1 rfl (by show 2 * 0 + _ ≤ 8; omega) hd hcell) hS fun H1 locs1 hR1 hS1 => ?_
  refine W.cs (cells' := h1.1 - n0) (slots' := h1.2.1 - s0) (by omega) (by omega) ?_
  exact W9 H1 locs1 hR1 hS1 hv
theorem jx_callIN {M2 : jm_M} {d n idx : Nat} {b : Nat} {As rest : List Value} {v0 : Option Value} {h1 : jm_H} (hrt : M2.2.2.2.1 = none) (hi0 : M2.1.name = "<init>") (hw1 : (M.1.cls, idx, M2.1) ∈ jm_NW) (hw2 : Cond.instanceMethod M2.1 ∈ jm_W) (hd : decode M.2.1 pc = .ok (.invokespecial idx, 3)) (hC : jm_C l G M2 d (.ref b :: As) h v0 h1) (hcd : jm_cd M2 n) (hn : As.length = n) (hst : st = As.reverse ++ .ref b :: rest) (hW : (rest.map fun v => v.category).sum ≤ 8)
    (hf : d + 1 ≤ Z.1) (hlo : 19 + M2.2.2.1 + jm_lo d ≤ Z.2.1) (kk : jm_X l G M n0 s0 Z Post (pc + 3) lv (v0.toList ++ rest) h1) : jm_X l G M n0 s0 Z Post pc lv st h := by
  subst hst
  obtain ⟨r, h', a1, a2, a3, a4, a5, v⟩ := kk
  obtain ⟨c1, c2, hM⟩ := hC
  obtain ⟨w1, w2, w3⟩ := hcd
  refine ⟨r, h', Nat.le_trans c1 a1, Nat.le_trans c2 a2, a3, a4, a5, fun p e s m args below meth c9 H locs ls C n1 n2 n3 hR hS hv => ?_⟩
  have W9 := fun H1 locs1 => v p e s m args below meth c9 H1 locs1 ls C n1 (Nat.le_trans n2 c1) (Nat.le_trans n3 c2)
  obtain ⟨hx, hb, hml, hr, hlk, hnm, hown, htb, hts, hK, hN⟩ := C
  have hts1 : ∀ w ∈ Cond.tt :: jm_W, w.before args s = true := fun w hw => (List.mem_cons.mp hw).elim (fun e => by rw [e]; rfl) (hts w)
  have hcell : h.1 - n0 + (h1.1 - h.1) ≤ (jm_rm Z r h').cells ∧ h.2.1 - s0 + (h1.2.1 - h.2.1) ≤ (jm_rm Z r h').slots := ⟨by show _ ≤ (Z.2.2 r h').1; omega, by show _ ≤ (Z.2.2 r h').2.1; omega⟩
  have hpre : ∀ U : State, U.heap = H → s.WarmedH U.vm → jm_P G (.ref b :: As) h (.ref b :: As).toArray U := fun U hU hW1 => ⟨rfl, by rw [hU]; exact hR, jm_K.moved hW1.alike hK, jm_N.warm hW1 hU hS hN⟩
  have cw := va_cnB (own := M.1.cls) (host := "CellWorks") (index := idx) (y := M2.1) (R := jm_rm Z r h') (rm := jm_rmN d (h1.1 - h.1) (h1.2.1 - h.2.1)) n hts1 (jm_good Cond.tt [] w1 (by simp)) (by show _ = Cond.code _ _ _ none :: jm_W; unfold jm_ws; rw [hrt]; rfl) rfl rfl (jm_N.nest hN hw1) (hts _ w2) w3 (jm_room hf hlo)
  have cw := And.intro cw (And.intro hi0 (hts _ hw2))
  refine jm_back (va_runIN (g := F0 m pc ls _) (As := As) (rest := rest) ⟨hx, hb, hml, hown, hts1⟩ hM cw ⟨jm_blind, hpre⟩ rfl hn hv.1 rfl (by show 2 * 0 + _ ≤ 8; omega) hd hcell) hS fun H1 locs1 hR1 hS1 => ?_
  refine W.cs (cells' := h1.1 - n0) (slots' := h1.2.1 - s0) (by omega) (by omega) ?_
  exact W9 H1 locs1 hR1 hS1 hv
end JC
end
section
theorem jm_rd_s (h : jm_H) (a k : Nat) (v : Value) : (jm_put h a k v).2.2.2 a k = v := by simp [jm_put]
theorem jm_rd_k {h : jm_H} {a b k k' : Nat} {v w : Value} (hk : k' ≠ k) (p : h.2.2.2 b k' = w) : (jm_put h a k v).2.2.2 b k' = w := by simp [jm_put, hk, p]
theorem jm_rd_a {h : jm_H} {a b k k' : Nat} {v w : Value} (hb : b ≠ a) (p : h.2.2.2 b k' = w) : (jm_put h a k v).2.2.2 b k' = w := by simp [jm_put, hb, p]
theorem jm_ne_oa {h : jm_H} {a b c n t m : Nat} (ha : h.2.2.1 a = (jm_o c, n)) (hb : h.2.2.1 b = (jm_a t, m)) : a ≠ b := fun e => by
  subst e
  exact jm_oa (Prod.mk.inj (ha.symm.trans hb)).1
theorem jm_ne_oo {h : jm_H} {a b c n c' n' : Nat} (ha : h.2.2.1 a = (jm_o c, n)) (hb : h.2.2.1 b = (jm_o c', n')) (hc : c ≠ c') : a ≠ b := fun e => by
  subst e
  exact hc (jm_o_inj (Prod.mk.inj (ha.symm.trans hb)).1)
theorem jm_ne_aa {h : jm_H} {a b c n c' n' : Nat} (ha : h.2.2.1 a = (jm_a c, n)) (hb : h.2.2.1 b = (jm_a c', n')) (hc : c ≠ c') : a ≠ b := fun e => by
  subst e
  exact hc (jm_a_inj (Prod.mk.inj (ha.symm.trans hb)).1)
theorem jm_heq {h h' : jm_H} (h1 : h.1 = h'.1) (h2 : h.2.1 = h'.2.1) (h3 : h.2.2.1 = h'.2.2.1) (h4 : ∀ b j, h.2.2.2 b j = h'.2.2.2 b j) : h = h' := by
  obtain ⟨a, b, c, d⟩ := h
  obtain ⟨a', b', c', d'⟩ := h'
  simp only at h1 h2 h3 h4
  subst h1; subst h2; subst h3
  have : d = d' := funext fun x => funext fun y => h4 x y
  subst this
  rfl
section JT
variable {l : Launch} {G : jm_G} {M : jm_M} {n0 s0 : Nat} {Z : jm_Z} {Post : jm_r → jm_H → Prop} {pc : Nat} {lv : List (Nat × Value)} {st : List Value} {h : jm_H}
theorem jx_topi {x : Int32} (k : ∀ y, y = x → jm_X l G M n0 s0 Z Post pc lv (.int y :: st) h) : jm_X l G M n0 s0 Z Post pc lv (.int x :: st) h := k x rfl
theorem jx_topl {x : Int64} (k : ∀ y, y = x → jm_X l G M n0 s0 Z Post pc lv (.long y :: st) h) : jm_X l G M n0 s0 Z Post pc lv (.long x :: st) h := k x rfl
theorem jx_ati {x x' : Int32} (e : x = x') (k : jm_X l G M n0 s0 Z Post pc lv (.int x' :: st) h) : jm_X l G M n0 s0 Z Post pc lv (.int x :: st) h := e ▸ k
theorem jx_atl {x x' : Int64} (e : x = x') (k : jm_X l G M n0 s0 Z Post pc lv (.long x' :: st) h) : jm_X l G M n0 s0 Z Post pc lv (.long x :: st) h := e ▸ k
theorem jx_ath {h' : jm_H} (e : h = h') (k : jm_X l G M n0 s0 Z Post pc lv st h') : jm_X l G M n0 s0 Z Post pc lv st h := e ▸ k
theorem jx_icmp_eqN {x y : Int32} {off : Int} {tgt : Nat} (a b : Nat) (hd : decode M.2.1 pc = .ok (.if_icmp .eq off, 3)) (hx : x = nI a) (hy : y = nI b) (ha : a < 2 ^ 31) (hb : b < 2 ^ 31) (ht : (pc : Int) + off = (tgt : Int)) (kt : a = b → jm_X l G M n0 s0 Z Post tgt lv st h) (kf : ¬ a = b → jm_X l G M n0 s0 Z Post (pc + 3) lv st h) : jm_X l G M n0 s0 Z Post pc lv (.int y :: .int x :: st) h := by
  subst hx; subst hy
  exact jx_icmp_eq hd ht (fun c => kt ((nI_eq ha hb).mp c)) (fun c => kf (fun e => c ((nI_eq ha hb).mpr e)))
theorem jx_if_eqN {x : Int32} {off : Int} {tgt : Nat} (a : Nat) (hd : decode M.2.1 pc = .ok (.ifCond .eq off, 3)) (hx : x = nI a) (ha : a < 2 ^ 31) (ht : (pc : Int) + off = (tgt : Int)) (kt : a = 0 → jm_X l G M n0 s0 Z Post tgt lv st h) (kf : ¬ a = 0 → jm_X l G M n0 s0 Z Post (pc + 3) lv st h) : jm_X l G M n0 s0 Z Post pc lv (.int x :: st) h := by
  subst hx
  have hb : 0 < 2 ^ 31 := by decide
  have z0 : (0 : Int32) = nI 0 := nI_0.symm
  exact jx_if_eq hd ht (fun c => kt (by rw [z0] at c; exact (nI_eq ha hb).mp c)) (fun c => kf (by rw [z0] at c; exact fun e => c ((nI_eq ha hb).mpr e)))
theorem jx_icmp_neN {x y : Int32} {off : Int} {tgt : Nat} (a b : Nat) (hd : decode M.2.1 pc = .ok (.if_icmp .ne off, 3)) (hx : x = nI a) (hy : y = nI b) (ha : a < 2 ^ 31) (hb : b < 2 ^ 31) (ht : (pc : Int) + off = (tgt : Int)) (kt : ¬ a = b → jm_X l G M n0 s0 Z Post tgt lv st h) (kf : a = b → jm_X l G M n0 s0 Z Post (pc + 3) lv st h) : jm_X l G M n0 s0 Z Post pc lv (.int y :: .int x :: st) h := by
  subst hx; subst hy
  exact jx_icmp_ne hd ht (fun c => kt (fun e => c ((nI_eq ha hb).mpr e))) (fun c => kf ((nI_eq ha hb).mp c))
theorem jx_if_neN {x : Int32} {off : Int} {tgt : Nat} (a : Nat) (hd : decode M.2.1 pc = .ok (.ifCond .ne off, 3)) (hx : x = nI a) (ha : a < 2 ^ 31) (ht : (pc : Int) + off = (tgt : Int)) (kt : ¬ a = 0 → jm_X l G M n0 s0 Z Post tgt lv st h) (kf : a = 0 → jm_X l G M n0 s0 Z Post (pc + 3) lv st h) : jm_X l G M n0 s0 Z Post pc lv (.int x :: st) h := by
  subst hx
  have hb : 0 < 2 ^ 31 := by decide
  have z0 : (0 : Int32) = nI 0 := nI_0.symm
  exact jx_if_ne hd ht (fun c => kt (by rw [z0] at c; exact fun e => c ((nI_eq ha hb).mpr e))) (fun c => kf (by rw [z0] at c; exact (nI_eq ha hb).mp c))
theorem jx_icmp_ltN {x y : Int32} {off : Int} {tgt : Nat} (a b : Nat) (hd : decode M.2.1 pc = .ok (.if_icmp .lt off, 3)) (hx : x = nI a) (hy : y = nI b) (ha : a < 2 ^ 31) (hb : b < 2 ^ 31) (ht : (pc : Int) + off = (tgt : Int)) (kt : a < b → jm_X l G M n0 s0 Z Post tgt lv st h) (kf : b ≤ a → jm_X l G M n0 s0 Z Post (pc + 3) lv st h) : jm_X l G M n0 s0 Z Post pc lv (.int y :: .int x :: st) h := by
  subst hx; subst hy
  exact jx_icmp_lt hd ht (fun c => kt ((nI_ltI ha hb).mp c)) (fun c => kf (Nat.le_of_not_lt fun e => c ((nI_ltI ha hb).mpr e)))
theorem jx_if_ltN {x : Int32} {off : Int} {tgt : Nat} (a : Nat) (hd : decode M.2.1 pc = .ok (.ifCond .lt off, 3)) (hx : x = nI a) (ha : a < 2 ^ 31) (ht : (pc : Int) + off = (tgt : Int)) (kt : a < 0 → jm_X l G M n0 s0 Z Post tgt lv st h) (kf : 0 ≤ a → jm_X l G M n0 s0 Z Post (pc + 3) lv st h) : jm_X l G M n0 s0 Z Post pc lv (.int x :: st) h := by
  subst hx
  have hb : 0 < 2 ^ 31 := by decide
  have z0 : (0 : Int32) = nI 0 := nI_0.symm
  exact jx_if_lt hd ht (fun c => kt (by rw [z0] at c; exact (nI_ltI ha hb).mp c)) (fun c => kf (by rw [z0] at c; exact Nat.le_of_not_lt fun e => c ((nI_ltI ha hb).mpr e)))
theorem jx_icmp_geN {x y : Int32} {off : Int} {tgt : Nat} (a b : Nat) (hd : decode M.2.1 pc = .ok (.if_icmp .ge off, 3)) (hx : x = nI a) (hy : y = nI b) (ha : a < 2 ^ 31) (hb : b < 2 ^ 31) (ht : (pc : Int) + off = (tgt : Int)) (kt : b ≤ a → jm_X l G M n0 s0 Z Post tgt lv st h) (kf : a < b → jm_X l G M n0 s0 Z Post (pc + 3) lv st h) : jm_X l G M n0 s0 Z Post pc lv (.int y :: .int x :: st) h := by
  subst hx; subst hy
  exact jx_icmp_ge hd ht (fun c => kt ((nI_leI hb ha).mp c)) (fun c => kf (Nat.lt_of_not_le fun e => c ((nI_leI hb ha).mpr e)))
theorem jx_if_geN {x : Int32} {off : Int} {tgt : Nat} (a : Nat) (hd : decode M.2.1 pc = .ok (.ifCond .ge off, 3)) (hx : x = nI a) (ha : a < 2 ^ 31) (ht : (pc : Int) + off = (tgt : Int)) (kt : 0 ≤ a → jm_X l G M n0 s0 Z Post tgt lv st h) (kf : a < 0 → jm_X l G M n0 s0 Z Post (pc + 3) lv st h) : jm_X l G M n0 s0 Z Post pc lv (.int x :: st) h := by
  subst hx
  have hb : 0 < 2 ^ 31 := by decide
  have z0 : (0 : Int32) = nI 0 := nI_0.symm
  exact jx_if_ge hd ht (fun c => kt (by rw [z0] at c; exact (nI_leI hb ha).mp c)) (fun c => kf (by rw [z0] at c; exact Nat.lt_of_not_le fun e => c ((nI_leI hb ha).mpr e)))
theorem jx_icmp_gtN {x y : Int32} {off : Int} {tgt : Nat} (a b : Nat) (hd : decode M.2.1 pc = .ok (.if_icmp .gt off, 3)) (hx : x = nI a) (hy : y = nI b) (ha : a < 2 ^ 31) (hb : b < 2 ^ 31) (ht : (pc : Int) + off = (tgt : Int)) (kt : b < a → jm_X l G M n0 s0 Z Post tgt lv st h) (kf : a ≤ b → jm_X l G M n0 s0 Z Post (pc + 3) lv st h) : jm_X l G M n0 s0 Z Post pc lv (.int y :: .int x :: st) h := by
  subst hx; subst hy
  exact jx_icmp_gt hd ht (fun c => kt ((nI_ltI hb ha).mp c)) (fun c => kf (Nat.le_of_not_lt fun e => c ((nI_ltI hb ha).mpr e)))
theorem jx_if_gtN {x : Int32} {off : Int} {tgt : Nat} (a : Nat) (hd : decode M.2.1 pc = .ok (.ifCond .gt off, 3)) (hx : x = nI a) (ha : a < 2 ^ 31) (ht : (pc : Int) + off = (tgt : Int)) (kt : 0 < a → jm_X l G M n0 s0 Z Post tgt lv st h) (kf : a ≤ 0 → jm_X l G M n0 s0 Z Post (pc + 3) lv st h) : jm_X l G M n0 s0 Z Post pc lv (.int x :: st) h := by
  subst hx
  have hb : 0 < 2 ^ 31 := by decide
  have z0 : (0 : Int32) = nI 0 := nI_0.symm
  exact jx_if_gt hd ht (fun c => kt (by rw [z0] at c; exact (nI_ltI hb ha).mp c)) (fun c => kf (by rw [z0] at c; exact Nat.le_of_not_lt fun e => c ((nI_ltI hb ha).mpr e)))
theorem jx_icmp_leN {x y : Int32} {off : Int} {tgt : Nat} (a b : Nat) (hd : decode M.2.1 pc = .ok (.if_icmp .le off, 3)) (hx : x = nI a) (hy : y = nI b) (ha : a < 2 ^ 31) (hb : b < 2 ^ 31) (ht : (pc : Int) + off = (tgt : Int)) (kt : a ≤ b → jm_X l G M n0 s0 Z Post tgt lv st h) (kf : b < a → jm_X l G M n0 s0 Z Post (pc + 3) lv st h) : jm_X l G M n0 s0 Z Post pc lv (.int y :: .int x :: st) h := by
  subst hx; subst hy
  exact jx_icmp_le hd ht (fun c => kt ((nI_leI ha hb).mp c)) (fun c => kf (Nat.lt_of_not_le fun e => c ((nI_leI ha hb).mpr e)))
theorem jx_if_leN {x : Int32} {off : Int} {tgt : Nat} (a : Nat) (hd : decode M.2.1 pc = .ok (.ifCond .le off, 3)) (hx : x = nI a) (ha : a < 2 ^ 31) (ht : (pc : Int) + off = (tgt : Int)) (kt : a ≤ 0 → jm_X l G M n0 s0 Z Post tgt lv st h) (kf : 0 < a → jm_X l G M n0 s0 Z Post (pc + 3) lv st h) : jm_X l G M n0 s0 Z Post pc lv (.int x :: st) h := by
  subst hx
  have hb : 0 < 2 ^ 31 := by decide
  have z0 : (0 : Int32) = nI 0 := nI_0.symm
  exact jx_if_le hd ht (fun c => kt (by rw [z0] at c; exact (nI_leI ha hb).mp c)) (fun c => kf (by rw [z0] at c; exact Nat.lt_of_not_le fun e => c ((nI_leI ha hb).mpr e)))
/-- the method's contract, its end told in full -/
theorem jm_ofE {d : Nat} {args : List Value} {v : Option Value} {h' : jm_H} (hy : plainName M.1.cls = true) (htb0 : M.2.2.2.2 = []) (hlen : (lg_sl args).length ≤ M.2.2.1)
    (k : jm_X l G M h.1 h.2.1 (jm_zn G d h.1 h.2.1) (fun r h9 => r = .inl v ∧ h9 = h') 0 (lv_args 0 args) [] h) : jm_C l G M d args h v h' := by
  obtain ⟨v9, h9, hC, e1, e2⟩ := jm_of (Q := fun v9 h9 => v9 = v ∧ h9 = h') hy htb0 hlen (jx_imp k (fun r h9 q => ⟨v, q.1, rfl, q.2⟩))
  subst e1; subst e2
  exact hC
end JT
/-- a truth as an int -/
def jb (b : Bool) : Int32 := if b then 1 else 0
theorem jm_vinN {n N : Nat} (h : n < N) (hN : N < 2 ^ 31) : vp_in (nI n) N := nI_in h hN
theorem jm_cl0 {n : Nat} (h : n < 2 ^ 31) : (nI n).toNatClampNeg = n := nI_clamp h
theorem jm_atN {h : jm_H} {a n : Nat} {v : Value} (hn : n < 2 ^ 31) (p : h.2.2.2 a n = v) : h.2.2.2 a (nI n).toNatClampNeg = v := by rw [nI_clamp hn]; exact p
theorem jm_putN {h : jm_H} {a n : Nat} {v : Value} (hn : n < 2 ^ 31) : jm_put h a (nI n).toNatClampNeg v = jm_put h a n v := by rw [nI_clamp hn]
theorem jv_CW : jm_Fl 0 := fun r hr => by
  cases hr
  exact ⟨jt_CW, jt_CW_ok, jn_CW⟩
theorem ft_CW_reader : jm_Ft 0 0 (.object "CellWorks$Reader") true "CellWorks" := fun r hr => by
  cases hr
  exact ⟨by decide +kernel, rfl, fun _ => rfl⟩
theorem ft_CW_cells : jm_Ft 0 1 (.object "CellWorks$Cells") true "CellWorks" := fun r hr => by
  cases hr
  exact ⟨by decide +kernel, rfl, fun _ => rfl⟩
theorem ft_CW_builder : jm_Ft 0 2 (.object "CellWorks$Builder") true "CellWorks" := fun r hr => by
  cases hr
  exact ⟨by decide +kernel, rfl, fun _ => rfl⟩
theorem jv_Rd : jm_Fl 1 := fun r hr => by
  cases hr
  exact ⟨jt_Rd, jt_Rd_ok, jn_Rd⟩
theorem ft_Rd_tape : jm_Ft 1 0 (.object "CellWorks$Tape") true "CellWorks$Reader" := fun r hr => by
  cases hr
  exact ⟨by decide +kernel, rfl, fun _ => rfl⟩
theorem ft_Rd_formula : jm_Ft 1 1 (.object "CellWorks$Formula") false "" := fun r hr => by
  cases hr
  exact ⟨by decide +kernel, rfl, fun h => by cases h⟩
theorem ft_Rd_name : jm_Ft 1 2 (.long) false "" := fun r hr => by
  cases hr
  exact ⟨by decide +kernel, rfl, fun h => by cases h⟩
theorem ft_Rd_faultCode : jm_Ft 1 3 (.int) false "" := fun r hr => by
  cases hr
  exact ⟨by decide +kernel, rfl, fun h => by cases h⟩
theorem ft_Rd_faultPlace : jm_Ft 1 4 (.int) false "" := fun r hr => by
  cases hr
  exact ⟨by decide +kernel, rfl, fun h => by cases h⟩
theorem ft_Rd_nodes : jm_Ft 1 5 (.int) false "" := fun r hr => by
  cases hr
  exact ⟨by decide +kernel, rfl, fun h => by cases h⟩
theorem ft_Rd_places : jm_Ft 1 6 (.array (.int)) true "CellWorks$Reader" := fun r hr => by
  cases hr
  exact ⟨by decide +kernel, rfl, fun _ => rfl⟩
theorem jv_Tp : jm_Fl 2 := fun r hr => by
  cases hr
  exact ⟨jt_Tp, jt_Tp_ok, jn_Tp⟩
theorem ft_Tp_bytes : jm_Ft 2 0 (.array (.byte)) true "CellWorks$Tape" := fun r hr => by
  cases hr
  exact ⟨by decide +kernel, rfl, fun _ => rfl⟩
theorem ft_Tp_length : jm_Ft 2 1 (.int) false "" := fun r hr => by
  cases hr
  exact ⟨by decide +kernel, rfl, fun h => by cases h⟩
theorem ft_Tp_next : jm_Ft 2 2 (.int) false "" := fun r hr => by
  cases hr
  exact ⟨by decide +kernel, rfl, fun h => by cases h⟩
theorem ft_Tp_kind : jm_Ft 2 3 (.int) false "" := fun r hr => by
  cases hr
  exact ⟨by decide +kernel, rfl, fun h => by cases h⟩
theorem ft_Tp_start : jm_Ft 2 4 (.int) false "" := fun r hr => by
  cases hr
  exact ⟨by decide +kernel, rfl, fun h => by cases h⟩
theorem ft_Tp_name : jm_Ft 2 5 (.long) false "" := fun r hr => by
  cases hr
  exact ⟨by decide +kernel, rfl, fun h => by cases h⟩
theorem ft_Tp_number : jm_Ft 2 6 (.int) false "" := fun r hr => by
  cases hr
  exact ⟨by decide +kernel, rfl, fun h => by cases h⟩
theorem jv_Fm : jm_Fl 3 := fun r hr => by
  cases hr
  exact ⟨jt_Fm, jt_Fm_ok, jn_Fm⟩
theorem ft_Fm_steps : jm_Ft 3 0 (.array (.int)) true "CellWorks$Formula" := fun r hr => by
  cases hr
  exact ⟨by decide +kernel, rfl, fun _ => rfl⟩
theorem ft_Fm_details : jm_Ft 3 1 (.array (.int)) true "CellWorks$Formula" := fun r hr => by
  cases hr
  exact ⟨by decide +kernel, rfl, fun _ => rfl⟩
theorem ft_Fm_length : jm_Ft 3 2 (.int) false "" := fun r hr => by
  cases hr
  exact ⟨by decide +kernel, rfl, fun h => by cases h⟩
theorem ft_Fm_names : jm_Ft 3 3 (.array (.long)) true "CellWorks$Formula" := fun r hr => by
  cases hr
  exact ⟨by decide +kernel, rfl, fun _ => rfl⟩
theorem ft_Fm_seenKinds : jm_Ft 3 4 (.array (.int)) true "CellWorks$Formula" := fun r hr => by
  cases hr
  exact ⟨by decide +kernel, rfl, fun _ => rfl⟩
theorem ft_Fm_seenValues : jm_Ft 3 5 (.array (.long)) true "CellWorks$Formula" := fun r hr => by
  cases hr
  exact ⟨by decide +kernel, rfl, fun _ => rfl⟩
theorem ft_Fm_nameCount : jm_Ft 3 6 (.int) false "" := fun r hr => by
  cases hr
  exact ⟨by decide +kernel, rfl, fun h => by cases h⟩
theorem jv_Cs : jm_Fl 4 := fun r hr => by
  cases hr
  exact ⟨jt_Cs, jt_Cs_ok, jn_Cs⟩
theorem ft_Cs_rows : jm_Ft 4 0 (.array (.object "CellWorks$Cell")) true "CellWorks$Cells" := fun r hr => by
  cases hr
  exact ⟨by decide +kernel, rfl, fun _ => rfl⟩
theorem ft_Cs_size : jm_Ft 4 1 (.int) false "" := fun r hr => by
  cases hr
  exact ⟨by decide +kernel, rfl, fun h => by cases h⟩
theorem ft_Cs_reads : jm_Ft 4 2 (.array (.long)) true "CellWorks$Cells" := fun r hr => by
  cases hr
  exact ⟨by decide +kernel, rfl, fun _ => rfl⟩
theorem jv_Cl : jm_Fl 5 := fun r hr => by
  cases hr
  exact ⟨jt_Cl, jt_Cl_ok, jn_Cl⟩
theorem ft_Cl_name : jm_Ft 5 0 (.long) true "CellWorks$Cell" := fun r hr => by
  cases hr
  exact ⟨by decide +kernel, rfl, fun _ => rfl⟩
theorem ft_Cl_formula : jm_Ft 5 1 (.object "CellWorks$Formula") false "" := fun r hr => by
  cases hr
  exact ⟨by decide +kernel, rfl, fun h => by cases h⟩
theorem ft_Cl_workedOut : jm_Ft 5 2 (.boolean) false "" := fun r hr => by
  cases hr
  exact ⟨by decide +kernel, rfl, fun h => by cases h⟩
theorem ft_Cl_kind : jm_Ft 5 3 (.int) false "" := fun r hr => by
  cases hr
  exact ⟨by decide +kernel, rfl, fun h => by cases h⟩
theorem ft_Cl_value : jm_Ft 5 4 (.long) false "" := fun r hr => by
  cases hr
  exact ⟨by decide +kernel, rfl, fun h => by cases h⟩
theorem jv_Bd : jm_Fl 6 := fun r hr => by
  cases hr
  exact ⟨jt_Bd, jt_Bd_ok, jn_Bd⟩
theorem ft_Bd_work : jm_Ft 6 0 (.object "CellWorks$Work") true "CellWorks$Builder" := fun r hr => by
  cases hr
  exact ⟨by decide +kernel, rfl, fun _ => rfl⟩
theorem ft_Bd_latest : jm_Ft 6 1 (.array (.long)) true "CellWorks$Builder" := fun r hr => by
  cases hr
  exact ⟨by decide +kernel, rfl, fun _ => rfl⟩
theorem ft_Bd_latestSize : jm_Ft 6 2 (.int) false "" := fun r hr => by
  cases hr
  exact ⟨by decide +kernel, rfl, fun h => by cases h⟩
theorem ft_Bd_total : jm_Ft 6 3 (.int) false "" := fun r hr => by
  cases hr
  exact ⟨by decide +kernel, rfl, fun h => by cases h⟩
theorem jv_Wk : jm_Fl 7 := fun r hr => by
  cases hr
  exact ⟨jt_Wk, jt_Wk_ok, jn_Wk⟩
theorem ft_Wk_stack : jm_Ft 7 0 (.array (.long)) true "CellWorks$Work" := fun r hr => by
  cases hr
  exact ⟨by decide +kernel, rfl, fun _ => rfl⟩
theorem ft_Wk_height : jm_Ft 7 1 (.int) false "" := fun r hr => by
  cases hr
  exact ⟨by decide +kernel, rfl, fun h => by cases h⟩
theorem ft_Wk_kind : jm_Ft 7 2 (.int) false "" := fun r hr => by
  cases hr
  exact ⟨by decide +kernel, rfl, fun h => by cases h⟩
theorem ft_Wk_value : jm_Ft 7 3 (.long) false "" := fun r hr => by
  cases hr
  exact ⟨by decide +kernel, rfl, fun h => by cases h⟩
theorem jv_Md : jm_Fl 8 := fun r hr => by
  cases hr
  exact ⟨jt_Md, jt_Md_ok, jn_Md⟩
theorem ft_Md_thrown : jm_Ft 8 0 (.int) false "" := fun r hr => by
  cases hr
  exact ⟨by decide +kernel, rfl, fun h => by cases h⟩
theorem ft_Md_tape : jm_Ft 8 1 (.array (.int)) true "CellWorksModel" := fun r hr => by
  cases hr
  exact ⟨by decide +kernel, rfl, fun _ => rfl⟩
theorem ft_Md_tapeSize : jm_Ft 8 2 (.int) false "" := fun r hr => by
  cases hr
  exact ⟨by decide +kernel, rfl, fun h => by cases h⟩
theorem ft_Md_faultCode : jm_Ft 8 3 (.int) false "" := fun r hr => by
  cases hr
  exact ⟨by decide +kernel, rfl, fun h => by cases h⟩
theorem ft_Md_faultPlace : jm_Ft 8 4 (.int) false "" := fun r hr => by
  cases hr
  exact ⟨by decide +kernel, rfl, fun h => by cases h⟩
theorem ft_Md_there : jm_Ft 8 5 (.array (.boolean)) true "CellWorksModel" := fun r hr => by
  cases hr
  exact ⟨by decide +kernel, rfl, fun _ => rfl⟩
theorem ft_Md_names : jm_Ft 8 6 (.array (.long)) true "CellWorksModel" := fun r hr => by
  cases hr
  exact ⟨by decide +kernel, rfl, fun _ => rfl⟩
theorem ft_Md_results : jm_Ft 8 7 (.array (.int)) true "CellWorksModel" := fun r hr => by
  cases hr
  exact ⟨by decide +kernel, rfl, fun _ => rfl⟩
theorem ft_Md_values : jm_Ft 8 8 (.array (.long)) true "CellWorksModel" := fun r hr => by
  cases hr
  exact ⟨by decide +kernel, rfl, fun _ => rfl⟩
theorem ft_Md_worked : jm_Ft 8 9 (.array (.boolean)) true "CellWorksModel" := fun r hr => by
  cases hr
  exact ⟨by decide +kernel, rfl, fun _ => rfl⟩
theorem ft_Md_roots : jm_Ft 8 10 (.array (.int)) true "CellWorksModel" := fun r hr => by
  cases hr
  exact ⟨by decide +kernel, rfl, fun _ => rfl⟩
theorem ft_Md_nodeCounts : jm_Ft 8 11 (.array (.int)) true "CellWorksModel" := fun r hr => by
  cases hr
  exact ⟨by decide +kernel, rfl, fun _ => rfl⟩
theorem ft_Md_kinds : jm_Ft 8 12 (.array (.int)) true "CellWorksModel" := fun r hr => by
  cases hr
  exact ⟨by decide +kernel, rfl, fun _ => rfl⟩
theorem ft_Md_ones : jm_Ft 8 13 (.array (.int)) true "CellWorksModel" := fun r hr => by
  cases hr
  exact ⟨by decide +kernel, rfl, fun _ => rfl⟩
theorem ft_Md_twos : jm_Ft 8 14 (.array (.int)) true "CellWorksModel" := fun r hr => by
  cases hr
  exact ⟨by decide +kernel, rfl, fun _ => rfl⟩
theorem ft_Md_threes : jm_Ft 8 15 (.array (.int)) true "CellWorksModel" := fun r hr => by
  cases hr
  exact ⟨by decide +kernel, rfl, fun _ => rfl⟩
theorem ft_Md_amounts : jm_Ft 8 16 (.array (.long)) true "CellWorksModel" := fun r hr => by
  cases hr
  exact ⟨by decide +kernel, rfl, fun _ => rfl⟩
theorem ft_Md_seenResults : jm_Ft 8 17 (.array (.int)) true "CellWorksModel" := fun r hr => by
  cases hr
  exact ⟨by decide +kernel, rfl, fun _ => rfl⟩
theorem ft_Md_seenValues : jm_Ft 8 18 (.array (.long)) true "CellWorksModel" := fun r hr => by
  cases hr
  exact ⟨by decide +kernel, rfl, fun _ => rfl⟩
theorem ft_Md_workedInAll : jm_Ft 8 19 (.int) false "" := fun r hr => by
  cases hr
  exact ⟨by decide +kernel, rfl, fun h => by cases h⟩
theorem ft_Md_built : jm_Ft 8 20 (.array (.long)) true "CellWorksModel" := fun r hr => by
  cases hr
  exact ⟨by decide +kernel, rfl, fun _ => rfl⟩
theorem ft_Md_builtCount : jm_Ft 8 21 (.int) false "" := fun r hr => by
  cases hr
  exact ⟨by decide +kernel, rfl, fun h => by cases h⟩
theorem ft_Md_place : jm_Ft 8 22 (.int) false "" := fun r hr => by
  cases hr
  exact ⟨by decide +kernel, rfl, fun h => by cases h⟩
theorem ft_Md_tokenFrom : jm_Ft 8 23 (.int) false "" := fun r hr => by
  cases hr
  exact ⟨by decide +kernel, rfl, fun h => by cases h⟩
theorem ft_Md_token : jm_Ft 8 24 (.int) false "" := fun r hr => by
  cases hr
  exact ⟨by decide +kernel, rfl, fun h => by cases h⟩
theorem ft_Md_tokenAmount : jm_Ft 8 25 (.long) false "" := fun r hr => by
  cases hr
  exact ⟨by decide +kernel, rfl, fun h => by cases h⟩
theorem ft_Md_newKinds : jm_Ft 8 26 (.array (.int)) true "CellWorksModel" := fun r hr => by
  cases hr
  exact ⟨by decide +kernel, rfl, fun _ => rfl⟩
theorem ft_Md_newOnes : jm_Ft 8 27 (.array (.int)) true "CellWorksModel" := fun r hr => by
  cases hr
  exact ⟨by decide +kernel, rfl, fun _ => rfl⟩
theorem ft_Md_newTwos : jm_Ft 8 28 (.array (.int)) true "CellWorksModel" := fun r hr => by
  cases hr
  exact ⟨by decide +kernel, rfl, fun _ => rfl⟩
theorem ft_Md_newThrees : jm_Ft 8 29 (.array (.int)) true "CellWorksModel" := fun r hr => by
  cases hr
  exact ⟨by decide +kernel, rfl, fun _ => rfl⟩
theorem ft_Md_newAmounts : jm_Ft 8 30 (.array (.long)) true "CellWorksModel" := fun r hr => by
  cases hr
  exact ⟨by decide +kernel, rfl, fun _ => rfl⟩
theorem ft_Md_newPlaces : jm_Ft 8 31 (.array (.int)) true "CellWorksModel" := fun r hr => by
  cases hr
  exact ⟨by decide +kernel, rfl, fun _ => rfl⟩
theorem ft_Md_newCount : jm_Ft 8 32 (.int) false "" := fun r hr => by
  cases hr
  exact ⟨by decide +kernel, rfl, fun h => by cases h⟩
theorem ft_Md_waiting : jm_Ft 8 33 (.array (.int)) true "CellWorksModel" := fun r hr => by
  cases hr
  exact ⟨by decide +kernel, rfl, fun _ => rfl⟩
theorem ft_Md_given : jm_Ft 8 34 (.array (.int)) true "CellWorksModel" := fun r hr => by
  cases hr
  exact ⟨by decide +kernel, rfl, fun _ => rfl⟩
theorem ft_Md_waitingCount : jm_Ft 8 35 (.int) false "" := fun r hr => by
  cases hr
  exact ⟨by decide +kernel, rfl, fun h => by cases h⟩
theorem ft_Md_parts : jm_Ft 8 36 (.array (.int)) true "CellWorksModel" := fun r hr => by
  cases hr
  exact ⟨by decide +kernel, rfl, fun _ => rfl⟩
theorem ft_Md_partCount : jm_Ft 8 37 (.int) false "" := fun r hr => by
  cases hr
  exact ⟨by decide +kernel, rfl, fun h => by cases h⟩
theorem ft_Md_depth : jm_Ft 8 38 (.int) false "" := fun r hr => by
  cases hr
  exact ⟨by decide +kernel, rfl, fun h => by cases h⟩
theorem ft_Md_error : jm_Ft 8 39 (.int) false "" := fun r hr => by
  cases hr
  exact ⟨by decide +kernel, rfl, fun h => by cases h⟩
theorem ft_Md_pile : jm_Ft 8 40 (.array (.int)) true "CellWorksModel" := fun r hr => by
  cases hr
  exact ⟨by decide +kernel, rfl, fun _ => rfl⟩
theorem ft_Md_phases : jm_Ft 8 41 (.array (.int)) true "CellWorksModel" := fun r hr => by
  cases hr
  exact ⟨by decide +kernel, rfl, fun _ => rfl⟩
theorem ft_Md_kept : jm_Ft 8 42 (.array (.long)) true "CellWorksModel" := fun r hr => by
  cases hr
  exact ⟨by decide +kernel, rfl, fun _ => rfl⟩
theorem ft_Md_high : jm_Ft 8 43 (.int) false "" := fun r hr => by
  cases hr
  exact ⟨by decide +kernel, rfl, fun h => by cases h⟩
theorem ft_Md_answer : jm_Ft 8 44 (.long) false "" := fun r hr => by
  cases hr
  exact ⟨by decide +kernel, rfl, fun h => by cases h⟩
theorem fF_Tp_9 : jm_F "CellWorks$Tape" 9 2 0 := ⟨_, _, _, rfl, jl_Tp, by decide, lk_Tp_9⟩
theorem fF_Tp_15 : jm_F "CellWorks$Tape" 15 2 1 := ⟨_, _, _, rfl, jl_Tp, by decide, lk_Tp_15⟩
theorem fF_CW_34 : jm_F "CellWorks" 34 2 1 := ⟨_, _, _, rfl, jl_Tp, by decide, lk_CW_34⟩
theorem fF_Tp_19 : jm_F "CellWorks$Tape" 19 2 2 := ⟨_, _, _, rfl, jl_Tp, by decide, lk_Tp_19⟩
theorem fF_Tp_22 : jm_F "CellWorks$Tape" 22 2 3 := ⟨_, _, _, rfl, jl_Tp, by decide, lk_Tp_22⟩
theorem fF_Rd_61 : jm_F "CellWorks$Reader" 61 2 3 := ⟨_, _, _, rfl, jl_Tp, by decide, lk_Rd_61⟩
theorem fF_Tp_25 : jm_F "CellWorks$Tape" 25 2 4 := ⟨_, _, _, rfl, jl_Tp, by decide, lk_Tp_25⟩
theorem fF_Rd_67 : jm_F "CellWorks$Reader" 67 2 4 := ⟨_, _, _, rfl, jl_Tp, by decide, lk_Rd_67⟩
theorem fF_Tp_28 : jm_F "CellWorks$Tape" 28 2 5 := ⟨_, _, _, rfl, jl_Tp, by decide, lk_Tp_28⟩
theorem fF_Rd_53 : jm_F "CellWorks$Reader" 53 2 5 := ⟨_, _, _, rfl, jl_Tp, by decide, lk_Rd_53⟩
theorem fF_Tp_32 : jm_F "CellWorks$Tape" 32 2 6 := ⟨_, _, _, rfl, jl_Tp, by decide, lk_Tp_32⟩
theorem fF_Rd_89 : jm_F "CellWorks$Reader" 89 2 6 := ⟨_, _, _, rfl, jl_Tp, by decide, lk_Rd_89⟩
theorem fF_Fm_9 : jm_F "CellWorks$Formula" 9 3 0 := ⟨_, _, _, rfl, jl_Fm, by decide, lk_Fm_9⟩
theorem fF_Wk_31 : jm_F "CellWorks$Work" 31 3 0 := ⟨_, _, _, rfl, jl_Fm, by decide, lk_Wk_31⟩
theorem fF_Fm_15 : jm_F "CellWorks$Formula" 15 3 1 := ⟨_, _, _, rfl, jl_Fm, by decide, lk_Fm_15⟩
theorem fF_Wk_35 : jm_F "CellWorks$Work" 35 3 1 := ⟨_, _, _, rfl, jl_Fm, by decide, lk_Wk_35⟩
theorem fF_Fm_18 : jm_F "CellWorks$Formula" 18 3 2 := ⟨_, _, _, rfl, jl_Fm, by decide, lk_Fm_18⟩
theorem fF_Wk_26 : jm_F "CellWorks$Work" 26 3 2 := ⟨_, _, _, rfl, jl_Fm, by decide, lk_Wk_26⟩
theorem fF_Rd_114 : jm_F "CellWorks$Reader" 114 3 2 := ⟨_, _, _, rfl, jl_Fm, by decide, lk_Rd_114⟩
theorem fF_Fm_22 : jm_F "CellWorks$Formula" 22 3 3 := ⟨_, _, _, rfl, jl_Fm, by decide, lk_Fm_22⟩
theorem fF_Cs_55 : jm_F "CellWorks$Cells" 55 3 3 := ⟨_, _, _, rfl, jl_Fm, by decide, lk_Cs_55⟩
theorem fF_Fm_26 : jm_F "CellWorks$Formula" 26 3 4 := ⟨_, _, _, rfl, jl_Fm, by decide, lk_Fm_26⟩
theorem fF_Wk_61 : jm_F "CellWorks$Work" 61 3 4 := ⟨_, _, _, rfl, jl_Fm, by decide, lk_Wk_61⟩
theorem fF_Cs_62 : jm_F "CellWorks$Cells" 62 3 4 := ⟨_, _, _, rfl, jl_Fm, by decide, lk_Cs_62⟩
theorem fF_Fm_29 : jm_F "CellWorks$Formula" 29 3 5 := ⟨_, _, _, rfl, jl_Fm, by decide, lk_Fm_29⟩
theorem fF_Wk_64 : jm_F "CellWorks$Work" 64 3 5 := ⟨_, _, _, rfl, jl_Fm, by decide, lk_Wk_64⟩
theorem fF_Cs_70 : jm_F "CellWorks$Cells" 70 3 5 := ⟨_, _, _, rfl, jl_Fm, by decide, lk_Cs_70⟩
theorem fF_Fm_32 : jm_F "CellWorks$Formula" 32 3 6 := ⟨_, _, _, rfl, jl_Fm, by decide, lk_Fm_32⟩
theorem fF_Wk_58 : jm_F "CellWorks$Work" 58 3 6 := ⟨_, _, _, rfl, jl_Fm, by decide, lk_Wk_58⟩
theorem fF_Cs_50 : jm_F "CellWorks$Cells" 50 3 6 := ⟨_, _, _, rfl, jl_Fm, by decide, lk_Cs_50⟩
theorem fF_Rd_107 : jm_F "CellWorks$Reader" 107 3 6 := ⟨_, _, _, rfl, jl_Fm, by decide, lk_Rd_107⟩
theorem fF_Rd_12 : jm_F "CellWorks$Reader" 12 1 0 := ⟨_, _, _, rfl, jl_Rd, by decide, lk_Rd_12⟩
theorem fF_CW_30 : jm_F "CellWorks" 30 1 0 := ⟨_, _, _, rfl, jl_Rd, by decide, lk_CW_30⟩
theorem fF_Rd_21 : jm_F "CellWorks$Reader" 21 1 1 := ⟨_, _, _, rfl, jl_Rd, by decide, lk_Rd_21⟩
theorem fF_CW_157 : jm_F "CellWorks" 157 1 1 := ⟨_, _, _, rfl, jl_Rd, by decide, lk_CW_157⟩
theorem fF_Rd_25 : jm_F "CellWorks$Reader" 25 1 2 := ⟨_, _, _, rfl, jl_Rd, by decide, lk_Rd_25⟩
theorem fF_CW_149 : jm_F "CellWorks" 149 1 2 := ⟨_, _, _, rfl, jl_Rd, by decide, lk_CW_149⟩
theorem fF_Rd_29 : jm_F "CellWorks$Reader" 29 1 3 := ⟨_, _, _, rfl, jl_Rd, by decide, lk_Rd_29⟩
theorem fF_CW_63 : jm_F "CellWorks" 63 1 3 := ⟨_, _, _, rfl, jl_Rd, by decide, lk_CW_63⟩
theorem fF_Rd_33 : jm_F "CellWorks$Reader" 33 1 4 := ⟨_, _, _, rfl, jl_Rd, by decide, lk_Rd_33⟩
theorem fF_CW_66 : jm_F "CellWorks" 66 1 4 := ⟨_, _, _, rfl, jl_Rd, by decide, lk_CW_66⟩
theorem fF_Rd_36 : jm_F "CellWorks$Reader" 36 1 5 := ⟨_, _, _, rfl, jl_Rd, by decide, lk_Rd_36⟩
theorem fF_Rd_39 : jm_F "CellWorks$Reader" 39 1 6 := ⟨_, _, _, rfl, jl_Rd, by decide, lk_Rd_39⟩
theorem fF_Cs_11 : jm_F "CellWorks$Cells" 11 4 0 := ⟨_, _, _, rfl, jl_Cs, by decide, lk_Cs_11⟩
theorem fF_Bd_43 : jm_F "CellWorks$Builder" 43 4 0 := ⟨_, _, _, rfl, jl_Cs, by decide, lk_Bd_43⟩
theorem fF_Cs_17 : jm_F "CellWorks$Cells" 17 4 1 := ⟨_, _, _, rfl, jl_Cs, by decide, lk_Cs_17⟩
theorem fF_Bd_35 : jm_F "CellWorks$Builder" 35 4 1 := ⟨_, _, _, rfl, jl_Cs, by decide, lk_Bd_35⟩
theorem fF_CW_126 : jm_F "CellWorks" 126 4 1 := ⟨_, _, _, rfl, jl_Cs, by decide, lk_CW_126⟩
theorem fF_Cs_21 : jm_F "CellWorks$Cells" 21 4 2 := ⟨_, _, _, rfl, jl_Cs, by decide, lk_Cs_21⟩
theorem fF_Bd_40 : jm_F "CellWorks$Builder" 40 4 2 := ⟨_, _, _, rfl, jl_Cs, by decide, lk_Bd_40⟩
theorem fF_Wk_9 : jm_F "CellWorks$Work" 9 7 0 := ⟨_, _, _, rfl, jl_Wk, by decide, lk_Wk_9⟩
theorem fF_Wk_15 : jm_F "CellWorks$Work" 15 7 1 := ⟨_, _, _, rfl, jl_Wk, by decide, lk_Wk_15⟩
theorem fF_Wk_19 : jm_F "CellWorks$Work" 19 7 2 := ⟨_, _, _, rfl, jl_Wk, by decide, lk_Wk_19⟩
theorem fF_Bd_72 : jm_F "CellWorks$Builder" 72 7 2 := ⟨_, _, _, rfl, jl_Wk, by decide, lk_Bd_72⟩
theorem fF_Wk_22 : jm_F "CellWorks$Work" 22 7 3 := ⟨_, _, _, rfl, jl_Wk, by decide, lk_Wk_22⟩
theorem fF_Bd_76 : jm_F "CellWorks$Builder" 76 7 3 := ⟨_, _, _, rfl, jl_Wk, by decide, lk_Bd_76⟩
theorem fF_Bd_12 : jm_F "CellWorks$Builder" 12 6 0 := ⟨_, _, _, rfl, jl_Bd, by decide, lk_Bd_12⟩
theorem fF_Bd_18 : jm_F "CellWorks$Builder" 18 6 1 := ⟨_, _, _, rfl, jl_Bd, by decide, lk_Bd_18⟩
theorem fF_Bd_22 : jm_F "CellWorks$Builder" 22 6 2 := ⟨_, _, _, rfl, jl_Bd, by decide, lk_Bd_22⟩
theorem fF_CW_136 : jm_F "CellWorks" 136 6 2 := ⟨_, _, _, rfl, jl_Bd, by decide, lk_CW_136⟩
theorem fF_Bd_26 : jm_F "CellWorks$Builder" 26 6 3 := ⟨_, _, _, rfl, jl_Bd, by decide, lk_Bd_26⟩
theorem fF_CW_133 : jm_F "CellWorks" 133 6 3 := ⟨_, _, _, rfl, jl_Bd, by decide, lk_CW_133⟩
theorem fF_CW_12 : jm_F "CellWorks" 12 0 0 := ⟨_, _, _, rfl, jl_CW, by decide, lk_CW_12⟩
theorem fF_CW_19 : jm_F "CellWorks" 19 0 1 := ⟨_, _, _, rfl, jl_CW, by decide, lk_CW_19⟩
theorem fF_CW_26 : jm_F "CellWorks" 26 0 2 := ⟨_, _, _, rfl, jl_CW, by decide, lk_CW_26⟩
theorem fF_Cl_23 : jm_F "CellWorks$Cell" 23 5 0 := ⟨_, _, _, rfl, jl_Cl, by decide, lk_Cl_23⟩
theorem fF_Cs_25 : jm_F "CellWorks$Cells" 25 5 0 := ⟨_, _, _, rfl, jl_Cl, by decide, lk_Cs_25⟩
theorem fF_Bd_85 : jm_F "CellWorks$Builder" 85 5 0 := ⟨_, _, _, rfl, jl_Cl, by decide, lk_Bd_85⟩
theorem fF_Cl_26 : jm_F "CellWorks$Cell" 26 5 1 := ⟨_, _, _, rfl, jl_Cl, by decide, lk_Cl_26⟩
theorem fF_Bd_59 : jm_F "CellWorks$Builder" 59 5 1 := ⟨_, _, _, rfl, jl_Cl, by decide, lk_Bd_59⟩
theorem fF_Cs_46 : jm_F "CellWorks$Cells" 46 5 1 := ⟨_, _, _, rfl, jl_Cl, by decide, lk_Cs_46⟩
theorem fF_CW_183 : jm_F "CellWorks" 183 5 1 := ⟨_, _, _, rfl, jl_Cl, by decide, lk_CW_183⟩
theorem fF_Cl_9 : jm_F "CellWorks$Cell" 9 5 2 := ⟨_, _, _, rfl, jl_Cl, by decide, lk_Cl_9⟩
theorem fF_Bd_81 : jm_F "CellWorks$Builder" 81 5 2 := ⟨_, _, _, rfl, jl_Cl, by decide, lk_Bd_81⟩
theorem fF_Cs_42 : jm_F "CellWorks$Cells" 42 5 2 := ⟨_, _, _, rfl, jl_Cl, by decide, lk_Cs_42⟩
theorem fF_CW_184 : jm_F "CellWorks" 184 5 2 := ⟨_, _, _, rfl, jl_Cl, by decide, lk_CW_184⟩
theorem fF_Cl_15 : jm_F "CellWorks$Cell" 15 5 3 := ⟨_, _, _, rfl, jl_Cl, by decide, lk_Cl_15⟩
theorem fF_Bd_75 : jm_F "CellWorks$Builder" 75 5 3 := ⟨_, _, _, rfl, jl_Cl, by decide, lk_Bd_75⟩
theorem fF_Cs_36 : jm_F "CellWorks$Cells" 36 5 3 := ⟨_, _, _, rfl, jl_Cl, by decide, lk_Cs_36⟩
theorem fF_CW_96 : jm_F "CellWorks" 96 5 3 := ⟨_, _, _, rfl, jl_Cl, by decide, lk_CW_96⟩
theorem fF_Cl_19 : jm_F "CellWorks$Cell" 19 5 4 := ⟨_, _, _, rfl, jl_Cl, by decide, lk_Cl_19⟩
theorem fF_Bd_80 : jm_F "CellWorks$Builder" 80 5 4 := ⟨_, _, _, rfl, jl_Cl, by decide, lk_Bd_80⟩
theorem fF_Cs_39 : jm_F "CellWorks$Cells" 39 5 4 := ⟨_, _, _, rfl, jl_Cl, by decide, lk_Cs_39⟩
theorem fF_Md_96 : jm_F "CellWorksModel" 96 8 0 := ⟨_, _, _, rfl, jl_Md, by decide, lk_Md_96⟩
theorem fF_Md_7 : jm_F "CellWorksModel" 7 8 1 := ⟨_, _, _, rfl, jl_Md, by decide, lk_Md_7⟩
theorem fF_Md_100 : jm_F "CellWorksModel" 100 8 2 := ⟨_, _, _, rfl, jl_Md, by decide, lk_Md_100⟩
theorem fF_Md_144 : jm_F "CellWorksModel" 144 8 3 := ⟨_, _, _, rfl, jl_Md, by decide, lk_Md_144⟩
theorem fF_Md_147 : jm_F "CellWorksModel" 147 8 4 := ⟨_, _, _, rfl, jl_Md, by decide, lk_Md_147⟩
theorem fF_Md_13 : jm_F "CellWorksModel" 13 8 5 := ⟨_, _, _, rfl, jl_Md, by decide, lk_Md_13⟩
theorem fF_Md_17 : jm_F "CellWorksModel" 17 8 6 := ⟨_, _, _, rfl, jl_Md, by decide, lk_Md_17⟩
theorem fF_Md_21 : jm_F "CellWorksModel" 21 8 7 := ⟨_, _, _, rfl, jl_Md, by decide, lk_Md_21⟩
theorem fF_Md_24 : jm_F "CellWorksModel" 24 8 8 := ⟨_, _, _, rfl, jl_Md, by decide, lk_Md_24⟩
theorem fF_Md_27 : jm_F "CellWorksModel" 27 8 9 := ⟨_, _, _, rfl, jl_Md, by decide, lk_Md_27⟩
theorem fF_Md_30 : jm_F "CellWorksModel" 30 8 10 := ⟨_, _, _, rfl, jl_Md, by decide, lk_Md_30⟩
theorem fF_Md_33 : jm_F "CellWorksModel" 33 8 11 := ⟨_, _, _, rfl, jl_Md, by decide, lk_Md_33⟩
theorem fF_Md_36 : jm_F "CellWorksModel" 36 8 12 := ⟨_, _, _, rfl, jl_Md, by decide, lk_Md_36⟩
theorem fF_Md_39 : jm_F "CellWorksModel" 39 8 13 := ⟨_, _, _, rfl, jl_Md, by decide, lk_Md_39⟩
theorem fF_Md_42 : jm_F "CellWorksModel" 42 8 14 := ⟨_, _, _, rfl, jl_Md, by decide, lk_Md_42⟩
theorem fF_Md_45 : jm_F "CellWorksModel" 45 8 15 := ⟨_, _, _, rfl, jl_Md, by decide, lk_Md_45⟩
theorem fF_Md_48 : jm_F "CellWorksModel" 48 8 16 := ⟨_, _, _, rfl, jl_Md, by decide, lk_Md_48⟩
theorem fF_Md_51 : jm_F "CellWorksModel" 51 8 17 := ⟨_, _, _, rfl, jl_Md, by decide, lk_Md_51⟩
theorem fF_Md_54 : jm_F "CellWorksModel" 54 8 18 := ⟨_, _, _, rfl, jl_Md, by decide, lk_Md_54⟩
theorem fF_Md_254 : jm_F "CellWorksModel" 254 8 19 := ⟨_, _, _, rfl, jl_Md, by decide, lk_Md_254⟩
theorem fF_Md_57 : jm_F "CellWorksModel" 57 8 20 := ⟨_, _, _, rfl, jl_Md, by decide, lk_Md_57⟩
theorem fF_Md_257 : jm_F "CellWorksModel" 257 8 21 := ⟨_, _, _, rfl, jl_Md, by decide, lk_Md_257⟩
theorem fF_Md_103 : jm_F "CellWorksModel" 103 8 22 := ⟨_, _, _, rfl, jl_Md, by decide, lk_Md_103⟩
theorem fF_Md_114 : jm_F "CellWorksModel" 114 8 23 := ⟨_, _, _, rfl, jl_Md, by decide, lk_Md_114⟩
theorem fF_Md_117 : jm_F "CellWorksModel" 117 8 24 := ⟨_, _, _, rfl, jl_Md, by decide, lk_Md_117⟩
theorem fF_Md_123 : jm_F "CellWorksModel" 123 8 25 := ⟨_, _, _, rfl, jl_Md, by decide, lk_Md_123⟩
theorem fF_Md_60 : jm_F "CellWorksModel" 60 8 26 := ⟨_, _, _, rfl, jl_Md, by decide, lk_Md_60⟩
theorem fF_Md_63 : jm_F "CellWorksModel" 63 8 27 := ⟨_, _, _, rfl, jl_Md, by decide, lk_Md_63⟩
theorem fF_Md_66 : jm_F "CellWorksModel" 66 8 28 := ⟨_, _, _, rfl, jl_Md, by decide, lk_Md_66⟩
theorem fF_Md_69 : jm_F "CellWorksModel" 69 8 29 := ⟨_, _, _, rfl, jl_Md, by decide, lk_Md_69⟩
theorem fF_Md_72 : jm_F "CellWorksModel" 72 8 30 := ⟨_, _, _, rfl, jl_Md, by decide, lk_Md_72⟩
theorem fF_Md_75 : jm_F "CellWorksModel" 75 8 31 := ⟨_, _, _, rfl, jl_Md, by decide, lk_Md_75⟩
theorem fF_Md_154 : jm_F "CellWorksModel" 154 8 32 := ⟨_, _, _, rfl, jl_Md, by decide, lk_Md_154⟩
theorem fF_Md_78 : jm_F "CellWorksModel" 78 8 33 := ⟨_, _, _, rfl, jl_Md, by decide, lk_Md_78⟩
theorem fF_Md_81 : jm_F "CellWorksModel" 81 8 34 := ⟨_, _, _, rfl, jl_Md, by decide, lk_Md_81⟩
theorem fF_Md_157 : jm_F "CellWorksModel" 157 8 35 := ⟨_, _, _, rfl, jl_Md, by decide, lk_Md_157⟩
theorem fF_Md_84 : jm_F "CellWorksModel" 84 8 36 := ⟨_, _, _, rfl, jl_Md, by decide, lk_Md_84⟩
theorem fF_Md_166 : jm_F "CellWorksModel" 166 8 37 := ⟨_, _, _, rfl, jl_Md, by decide, lk_Md_166⟩
theorem fF_Md_169 : jm_F "CellWorksModel" 169 8 38 := ⟨_, _, _, rfl, jl_Md, by decide, lk_Md_169⟩
theorem fF_Md_231 : jm_F "CellWorksModel" 231 8 39 := ⟨_, _, _, rfl, jl_Md, by decide, lk_Md_231⟩
theorem fF_Md_87 : jm_F "CellWorksModel" 87 8 40 := ⟨_, _, _, rfl, jl_Md, by decide, lk_Md_87⟩
theorem fF_Md_90 : jm_F "CellWorksModel" 90 8 41 := ⟨_, _, _, rfl, jl_Md, by decide, lk_Md_90⟩
theorem fF_Md_93 : jm_F "CellWorksModel" 93 8 42 := ⟨_, _, _, rfl, jl_Md, by decide, lk_Md_93⟩
theorem fF_Md_225 : jm_F "CellWorksModel" 225 8 43 := ⟨_, _, _, rfl, jl_Md, by decide, lk_Md_225⟩
theorem fF_Md_237 : jm_F "CellWorksModel" 237 8 44 := ⟨_, _, _, rfl, jl_Md, by decide, lk_Md_237⟩
theorem cd_CW_init : jm_cd mm_CW_init 0 := ⟨wc_CW_init, wn_CW, by decide, by decide, by decide +kernel⟩
theorem cd_Rd_init : jm_cd mm_Rd_init 0 := ⟨wc_Rd_init, wn_Rd, by decide, by decide, by decide +kernel⟩
theorem cd_Tp_init : jm_cd mm_Tp_init 0 := ⟨wc_Tp_init, wn_Tp, by decide, by decide, by decide +kernel⟩
theorem cd_Fm_init : jm_cd mm_Fm_init 0 := ⟨wc_Fm_init, wn_Fm, by decide, by decide, by decide +kernel⟩
theorem cd_Cs_init : jm_cd mm_Cs_init 0 := ⟨wc_Cs_init, wn_Cs, by decide, by decide, by decide +kernel⟩
theorem cd_Bd_init : jm_cd mm_Bd_init 0 := ⟨wc_Bd_init, wn_Bd, by decide, by decide, by decide +kernel⟩
theorem cd_Wk_init : jm_cd mm_Wk_init 0 := ⟨wc_Wk_init, wn_Wk, by decide, by decide, by decide +kernel⟩
theorem cd_CW_define : jm_cd mm_CW_define 0 := ⟨wc_CW_define, wn_CW, by decide, by decide, by decide +kernel⟩
theorem cd_Rd_readDefinition : jm_cd mm_Rd_readDefinition 0 := ⟨wc_Rd_readDefinition, wn_Rd, by decide, by decide, by decide +kernel⟩
theorem cd_Fm_clear : jm_cd mm_Fm_clear 0 := ⟨wc_Fm_clear, wn_Fm, by decide, by decide, by decide +kernel⟩
theorem cd_Tp_rewind : jm_cd mm_Tp_rewind 0 := ⟨wc_Tp_rewind, wn_Tp, by decide, by decide, by decide +kernel⟩
theorem cd_Rd_pass : jm_cd mm_Rd_pass 0 := ⟨wc_Rd_pass, wn_Rd, by decide, by decide, by decide +kernel⟩
theorem cd_Tp_readToken : jm_cd mm_Tp_readToken 0 := ⟨wc_Tp_readToken, wn_Tp, by decide, by decide, by decide +kernel⟩
theorem cd_Tp_byteAt : jm_cd mm_Tp_byteAt 1 := ⟨wc_Tp_byteAt, wn_Tp, by decide, by decide, by decide +kernel⟩
theorem cd_Tp_isBlank : jm_cd mm_Tp_isBlank 1 := ⟨wc_Tp_isBlank, wn_Tp, by decide, by decide, by decide +kernel⟩
theorem cd_Tp_isLetter : jm_cd mm_Tp_isLetter 1 := ⟨wc_Tp_isLetter, wn_Tp, by decide, by decide, by decide +kernel⟩
theorem cd_Tp_readWord : jm_cd mm_Tp_readWord 0 := ⟨wc_Tp_readWord, wn_Tp, by decide, by decide, by decide +kernel⟩
theorem cd_Tp_isDigit : jm_cd mm_Tp_isDigit 1 := ⟨wc_Tp_isDigit, wn_Tp, by decide, by decide, by decide +kernel⟩
theorem cd_Tp_kindOfWord : jm_cd mm_Tp_kindOfWord 1 := ⟨wc_Tp_kindOfWord, wn_Tp, by decide, by decide, by decide +kernel⟩
theorem cd_Tp_readNumber : jm_cd mm_Tp_readNumber 0 := ⟨wc_Tp_readNumber, wn_Tp, by decide, by decide, by decide +kernel⟩
theorem cd_Tp_isMark : jm_cd mm_Tp_isMark 1 := ⟨wc_Tp_isMark, wn_Tp, by decide, by decide, by decide +kernel⟩
theorem cd_Rd_refuse : jm_cd mm_Rd_refuse 1 := ⟨wc_Rd_refuse, wn_Rd, by decide, by decide, by decide +kernel⟩
theorem cd_Rd_refuseAt : jm_cd mm_Rd_refuseAt 2 := ⟨wc_Rd_refuseAt, wn_Rd, by decide, by decide, by decide +kernel⟩
theorem cd_Rd_expect : jm_cd mm_Rd_expect 1 := ⟨wc_Rd_expect, wn_Rd, by decide, by decide, by decide +kernel⟩
theorem cd_Rd_sum : jm_cd mm_Rd_sum 1 := ⟨wc_Rd_sum, wn_Rd, by decide, by decide, by decide +kernel⟩
theorem cd_Rd_product : jm_cd mm_Rd_product 1 := ⟨wc_Rd_product, wn_Rd, by decide, by decide, by decide +kernel⟩
theorem cd_Rd_part : jm_cd mm_Rd_part 1 := ⟨wc_Rd_part, wn_Rd, by decide, by decide, by decide +kernel⟩
theorem cd_Fm_addStep : jm_cd mm_Fm_addStep 2 := ⟨wc_Fm_addStep, wn_Fm, by decide, by decide, by decide +kernel⟩
theorem cd_Rd_passNode : jm_cd mm_Rd_passNode 0 := ⟨wc_Rd_passNode, wn_Rd, by decide, by decide, by decide +kernel⟩
theorem cd_Rd_noteName : jm_cd mm_Rd_noteName 0 := ⟨wc_Rd_noteName, wn_Rd, by decide, by decide, by decide +kernel⟩
theorem cd_Fm_addName : jm_cd mm_Fm_addName 1 := ⟨wc_Fm_addName, wn_Fm, by decide, by decide, by decide +kernel⟩
theorem cd_Rd_negated : jm_cd mm_Rd_negated 1 := ⟨wc_Rd_negated, wn_Rd, by decide, by decide, by decide +kernel⟩
theorem cd_Rd_passOpening : jm_cd mm_Rd_passOpening 1 := ⟨wc_Rd_passOpening, wn_Rd, by decide, by decide, by decide +kernel⟩
theorem cd_Rd_lesserOrGreater : jm_cd mm_Rd_lesserOrGreater 1 := ⟨wc_Rd_lesserOrGreater, wn_Rd, by decide, by decide, by decide +kernel⟩
theorem cd_Rd_choice : jm_cd mm_Rd_choice 1 := ⟨wc_Rd_choice, wn_Rd, by decide, by decide, by decide +kernel⟩
theorem cd_Fm_aimHere : jm_cd mm_Fm_aimHere 1 := ⟨wc_Fm_aimHere, wn_Fm, by decide, by decide, by decide +kernel⟩
theorem cd_CW_settle : jm_cd mm_CW_settle 0 := ⟨wc_CW_settle, wn_CW, by decide, by decide, by decide +kernel⟩
theorem cd_Cs_find : jm_cd mm_Cs_find 1 := ⟨wc_Cs_find, wn_Cs, by decide, by decide, by decide +kernel⟩
theorem cd_Cs_indexOf : jm_cd mm_Cs_indexOf 1 := ⟨wc_Cs_indexOf, wn_Cs, by decide, by decide, by decide +kernel⟩
theorem cd_Cs_placeFor : jm_cd mm_Cs_placeFor 1 := ⟨wc_Cs_placeFor, wn_Cs, by decide, by decide, by decide +kernel⟩
theorem cd_Cs_firstInCircle : jm_cd mm_Cs_firstInCircle 2 := ⟨wc_Cs_firstInCircle, wn_Cs, by decide, by decide, by decide +kernel⟩
theorem cd_Cs_dependents : jm_cd mm_Cs_dependents 1 := ⟨wc_Cs_dependents, wn_Cs, by decide, by decide, by decide +kernel⟩
theorem cd_Cs_directReaders : jm_cd mm_Cs_directReaders 1 := ⟨wc_Cs_directReaders, wn_Cs, by decide, by decide, by decide +kernel⟩
theorem cd_Fm_mentions : jm_cd mm_Fm_mentions 1 := ⟨wc_Fm_mentions, wn_Fm, by decide, by decide, by decide +kernel⟩
theorem cd_Cs_trace : jm_cd mm_Cs_trace 0 := ⟨wc_Cs_trace, wn_Cs, by decide, by decide, by decide +kernel⟩
theorem cd_Rd_placeOfName : jm_cd mm_Rd_placeOfName 1 := ⟨wc_Rd_placeOfName, wn_Rd, by decide, by decide, by decide +kernel⟩
theorem cd_Rd_exchangeFormula : jm_cd mm_Rd_exchangeFormula 1 := ⟨wc_Rd_exchangeFormula, wn_Rd, by decide, by decide, by decide +kernel⟩
theorem cd_Cl_init : jm_cd mm_Cl_init 2 := ⟨wc_Cl_init, wn_Cl, by decide, by decide, by decide +kernel⟩
theorem cd_Cs_insert : jm_cd mm_Cs_insert 1 := ⟨wc_Cs_insert, wn_Cs, by decide, by decide, by decide +kernel⟩
theorem cd_CW_fault : jm_cd mm_CW_fault 0 := ⟨wc_CW_fault, wn_CW, by decide, by decide, by decide +kernel⟩
theorem cd_CW_buildAll : jm_cd mm_CW_buildAll 0 := ⟨wc_CW_buildAll, wn_CW, by decide, by decide, by decide +kernel⟩
theorem cd_Cs_all : jm_cd mm_Cs_all 0 := ⟨wc_Cs_all, wn_Cs, by decide, by decide, by decide +kernel⟩
theorem cd_Bd_run : jm_cd mm_Bd_run 2 := ⟨wc_Bd_run, wn_Bd, by decide, by decide, by decide +kernel⟩
theorem cd_Cs_withGround : jm_cd mm_Cs_withGround 1 := ⟨wc_Cs_withGround, wn_Cs, by decide, by decide, by decide +kernel⟩
theorem cd_Cs_isStale : jm_cd mm_Cs_isStale 1 := ⟨wc_Cs_isStale, wn_Cs, by decide, by decide, by decide +kernel⟩
theorem cd_Cs_kindOf : jm_cd mm_Cs_kindOf 1 := ⟨wc_Cs_kindOf, wn_Cs, by decide, by decide, by decide +kernel⟩
theorem cd_Cs_valueOf : jm_cd mm_Cs_valueOf 1 := ⟨wc_Cs_valueOf, wn_Cs, by decide, by decide, by decide +kernel⟩
theorem cd_Bd_workOut : jm_cd mm_Bd_workOut 2 := ⟨wc_Bd_workOut, wn_Bd, by decide, by decide, by decide +kernel⟩
theorem cd_Cs_look : jm_cd mm_Cs_look 1 := ⟨wc_Cs_look, wn_Cs, by decide, by decide, by decide +kernel⟩
theorem cd_Wk_run : jm_cd mm_Wk_run 1 := ⟨wc_Wk_run, wn_Wk, by decide, by decide, by decide +kernel⟩
theorem cd_Wk_take : jm_cd mm_Wk_take 4 := ⟨wc_Wk_take, wn_Wk, by decide, by decide, by decide +kernel⟩
theorem cd_Wk_push : jm_cd mm_Wk_push 1 := ⟨wc_Wk_push, wn_Wk, by decide, by decide, by decide +kernel⟩
theorem cd_Wk_pushResult : jm_cd mm_Wk_pushResult 2 := ⟨wc_Wk_pushResult, wn_Wk, by decide, by decide, by decide +kernel⟩
theorem cd_Wk_pop : jm_cd mm_Wk_pop 0 := ⟨wc_Wk_pop, wn_Wk, by decide, by decide, by decide +kernel⟩
theorem cd_Wk_join : jm_cd mm_Wk_join 3 := ⟨wc_Wk_join, wn_Wk, by decide, by decide, by decide +kernel⟩
theorem cd_Wk_divide : jm_cd mm_Wk_divide 2 := ⟨wc_Wk_divide, wn_Wk, by decide, by decide, by decide +kernel⟩
theorem cd_Ma_min : jm_cd mm_Ma_min 2 := ⟨wc_Ma_min, wn_Ma, by decide, by decide, by decide +kernel⟩
theorem cd_Ma_max : jm_cd mm_Ma_max 2 := ⟨wc_Ma_max, wn_Ma, by decide, by decide, by decide +kernel⟩
theorem cd_Bd_keepNames : jm_cd mm_Bd_keepNames 2 := ⟨wc_Bd_keepNames, wn_Bd, by decide, by decide, by decide +kernel⟩
theorem cd_CW_feed : jm_cd mm_CW_feed 5 := ⟨wc_CW_feed, wn_CW, by decide, by decide, by decide +kernel⟩
theorem cd_Tp_add : jm_cd mm_Tp_add 1 := ⟨wc_Tp_add, wn_Tp, by decide, by decide, by decide +kernel⟩
theorem cd_CW_end : jm_cd mm_CW_end 1 := ⟨wc_CW_end, wn_CW, by decide, by decide, by decide +kernel⟩
theorem cd_CW_remove : jm_cd mm_CW_remove 0 := ⟨wc_CW_remove, wn_CW, by decide, by decide, by decide +kernel⟩
theorem cd_CW_nameOnTape : jm_cd mm_CW_nameOnTape 0 := ⟨wc_CW_nameOnTape, wn_CW, by decide, by decide, by decide +kernel⟩
theorem cd_Tp_onlyName : jm_cd mm_Tp_onlyName 0 := ⟨wc_Tp_onlyName, wn_Tp, by decide, by decide, by decide +kernel⟩
theorem cd_Cs_drop : jm_cd mm_Cs_drop 1 := ⟨wc_Cs_drop, wn_Cs, by decide, by decide, by decide +kernel⟩
theorem cd_CW_build : jm_cd mm_CW_build 0 := ⟨wc_CW_build, wn_CW, by decide, by decide, by decide +kernel⟩
theorem cd_CW_value : jm_cd mm_CW_value 0 := ⟨wc_CW_value, wn_CW, by decide, by decide, by decide +kernel⟩
theorem cd_CW_state : jm_cd mm_CW_state 0 := ⟨wc_CW_state, wn_CW, by decide, by decide, by decide +kernel⟩
theorem cd_CW_readers : jm_cd mm_CW_readers 1 := ⟨wc_CW_readers, wn_CW, by decide, by decide, by decide +kernel⟩
theorem cd_Lo_bitCount : jm_cd mm_Lo_bitCount 1 := ⟨wc_Lo_bitCount, wn_Lo, by decide, by decide, by decide +kernel⟩
theorem cd_CW_built : jm_cd mm_CW_built 2 := ⟨wc_CW_built, wn_CW, by decide, by decide, by decide +kernel⟩
theorem cd_Bd_byteOfLatest : jm_cd mm_Bd_byteOfLatest 2 := ⟨wc_Bd_byteOfLatest, wn_Bd, by decide, by decide, by decide +kernel⟩
theorem cd_CW_count : jm_cd mm_CW_count 1 := ⟨wc_CW_count, wn_CW, by decide, by decide, by decide +kernel⟩
theorem cd_Cs_staleOnes : jm_cd mm_Cs_staleOnes 0 := ⟨wc_Cs_staleOnes, wn_Cs, by decide, by decide, by decide +kernel⟩
theorem cd_Md_init : jm_cd mm_Md_init 0 := ⟨wc_Md_init, wn_Md, by decide, by decide, by decide +kernel⟩
theorem cd_Md_thrown : jm_cd mm_Md_thrown 0 := ⟨wc_Md_thrown, wn_Md, by decide, by decide, by decide +kernel⟩
theorem cd_Md_define : jm_cd mm_Md_define 0 := ⟨wc_Md_define, wn_Md, by decide, by decide, by decide +kernel⟩
theorem cd_Md_next : jm_cd mm_Md_next 0 := ⟨wc_Md_next, wn_Md, by decide, by decide, by decide +kernel⟩
theorem cd_Md_at : jm_cd mm_Md_at 1 := ⟨wc_Md_at, wn_Md, by decide, by decide, by decide +kernel⟩
theorem cd_Md_isBlank : jm_cd mm_Md_isBlank 1 := ⟨wc_Md_isBlank, wn_Md, by decide, by decide, by decide +kernel⟩
theorem cd_Md_isDigit : jm_cd mm_Md_isDigit 1 := ⟨wc_Md_isDigit, wn_Md, by decide, by decide, by decide +kernel⟩
theorem cd_Md_isLetter : jm_cd mm_Md_isLetter 1 := ⟨wc_Md_isLetter, wn_Md, by decide, by decide, by decide +kernel⟩
theorem cd_Md_function : jm_cd mm_Md_function 0 := ⟨wc_Md_function, wn_Md, by decide, by decide, by decide +kernel⟩
theorem cd_Md_wrong : jm_cd mm_Md_wrong 0 := ⟨wc_Md_wrong, wn_Md, by decide, by decide, by decide +kernel⟩
theorem cd_Md_fail : jm_cd mm_Md_fail 2 := ⟨wc_Md_fail, wn_Md, by decide, by decide, by decide +kernel⟩
theorem cd_Md_formula : jm_cd mm_Md_formula 0 := ⟨wc_Md_formula, wn_Md, by decide, by decide, by decide +kernel⟩
theorem cd_Md_part : jm_cd mm_Md_part 0 := ⟨wc_Md_part, wn_Md, by decide, by decide, by decide +kernel⟩
theorem cd_Md_newNode : jm_cd mm_Md_newNode 2 := ⟨wc_Md_newNode, wn_Md, by decide, by decide, by decide +kernel⟩
theorem cd_Md_settle : jm_cd mm_Md_settle 1 := ⟨wc_Md_settle, wn_Md, by decide, by decide, by decide +kernel⟩
theorem cd_Md_isOperator : jm_cd mm_Md_isOperator 1 := ⟨wc_Md_isOperator, wn_Md, by decide, by decide, by decide +kernel⟩
theorem cd_Md_strength : jm_cd mm_Md_strength 1 := ⟨wc_Md_strength, wn_Md, by decide, by decide, by decide +kernel⟩
theorem cd_Md_deeper : jm_cd mm_Md_deeper 0 := ⟨wc_Md_deeper, wn_Md, by decide, by decide, by decide +kernel⟩
theorem cd_Md_await : jm_cd mm_Md_await 1 := ⟨wc_Md_await, wn_Md, by decide, by decide, by decide +kernel⟩
theorem cd_Md_behind : jm_cd mm_Md_behind 0 := ⟨wc_Md_behind, wn_Md, by decide, by decide, by decide +kernel⟩
theorem cd_Md_wants : jm_cd mm_Md_wants 1 := ⟨wc_Md_wants, wn_Md, by decide, by decide, by decide +kernel⟩
theorem cd_Md_give : jm_cd mm_Md_give 1 := ⟨wc_Md_give, wn_Md, by decide, by decide, by decide +kernel⟩
theorem cd_Md_cellOf : jm_cd mm_Md_cellOf 1 := ⟨wc_Md_cellOf, wn_Md, by decide, by decide, by decide +kernel⟩
theorem cd_Md_cellCount : jm_cd mm_Md_cellCount 0 := ⟨wc_Md_cellCount, wn_Md, by decide, by decide, by decide +kernel⟩
theorem cd_Md_readersOf : jm_cd mm_Md_readersOf 1 := ⟨wc_Md_readersOf, wn_Md, by decide, by decide, by decide +kernel⟩
theorem cd_Md_reads : jm_cd mm_Md_reads 2 := ⟨wc_Md_reads, wn_Md, by decide, by decide, by decide +kernel⟩
theorem cd_Md_remove : jm_cd mm_Md_remove 0 := ⟨wc_Md_remove, wn_Md, by decide, by decide, by decide +kernel⟩
theorem cd_Md_isName : jm_cd mm_Md_isName 0 := ⟨wc_Md_isName, wn_Md, by decide, by decide, by decide +kernel⟩
theorem cd_Md_build : jm_cd mm_Md_build 0 := ⟨wc_Md_build, wn_Md, by decide, by decide, by decide +kernel⟩
theorem cd_Md_below : jm_cd mm_Md_below 1 := ⟨wc_Md_below, wn_Md, by decide, by decide, by decide +kernel⟩
theorem cd_Md_buildSet : jm_cd mm_Md_buildSet 1 := ⟨wc_Md_buildSet, wn_Md, by decide, by decide, by decide +kernel⟩
theorem cd_Md_isReady : jm_cd mm_Md_isReady 2 := ⟨wc_Md_isReady, wn_Md, by decide, by decide, by decide +kernel⟩
theorem cd_Md_isStale : jm_cd mm_Md_isStale 1 := ⟨wc_Md_isStale, wn_Md, by decide, by decide, by decide +kernel⟩
theorem cd_Md_resultOf : jm_cd mm_Md_resultOf 1 := ⟨wc_Md_resultOf, wn_Md, by decide, by decide, by decide +kernel⟩
theorem cd_Md_valueOf : jm_cd mm_Md_valueOf 1 := ⟨wc_Md_valueOf, wn_Md, by decide, by decide, by decide +kernel⟩
theorem cd_Md_workOut : jm_cd mm_Md_workOut 1 := ⟨wc_Md_workOut, wn_Md, by decide, by decide, by decide +kernel⟩
theorem cd_Md_work : jm_cd mm_Md_work 1 := ⟨wc_Md_work, wn_Md, by decide, by decide, by decide +kernel⟩
theorem cd_Md_push : jm_cd mm_Md_push 1 := ⟨wc_Md_push, wn_Md, by decide, by decide, by decide +kernel⟩
theorem cd_Md_leaf : jm_cd mm_Md_leaf 1 := ⟨wc_Md_leaf, wn_Md, by decide, by decide, by decide +kernel⟩
theorem cd_Md_both : jm_cd mm_Md_both 3 := ⟨wc_Md_both, wn_Md, by decide, by decide, by decide +kernel⟩
theorem cd_Md_buildAll : jm_cd mm_Md_buildAll 0 := ⟨wc_Md_buildAll, wn_Md, by decide, by decide, by decide +kernel⟩
theorem cd_Md_fault : jm_cd mm_Md_fault 0 := ⟨wc_Md_fault, wn_Md, by decide, by decide, by decide +kernel⟩
theorem cd_Md_value : jm_cd mm_Md_value 0 := ⟨wc_Md_value, wn_Md, by decide, by decide, by decide +kernel⟩
theorem cd_Md_state : jm_cd mm_Md_state 0 := ⟨wc_Md_state, wn_Md, by decide, by decide, by decide +kernel⟩
theorem cd_Md_readers : jm_cd mm_Md_readers 1 := ⟨wc_Md_readers, wn_Md, by decide, by decide, by decide +kernel⟩
theorem cd_Md_howMany : jm_cd mm_Md_howMany 1 := ⟨wc_Md_howMany, wn_Md, by decide, by decide, by decide +kernel⟩
theorem cd_Md_built : jm_cd mm_Md_built 2 := ⟨wc_Md_built, wn_Md, by decide, by decide, by decide +kernel⟩
theorem cd_Md_count : jm_cd mm_Md_count 1 := ⟨wc_Md_count, wn_Md, by decide, by decide, by decide +kernel⟩
theorem cd_Md_feed : jm_cd mm_Md_feed 5 := ⟨wc_Md_feed, wn_Md, by decide, by decide, by decide +kernel⟩
theorem cd_Md_end : jm_cd mm_Md_end 1 := ⟨wc_Md_end, wn_Md, by decide, by decide, by decide +kernel⟩
end
section
def q_blank (c : Int32) : Bool := decide (c = 9 ∨ c = 10 ∨ c = 13 ∨ c = 32)
set_option maxHeartbeats 4000000 in
set_option maxRecDepth 100000 in
theorem c_Tp_isBlank (l : Launch) (G : jm_G) (d : Nat) (h : jm_H) (c : Int32) : jm_C l G mm_Tp_isBlank d [.int c] h (some (.int (jb (q_blank c)))) h := by
  refine jm_ofE (by decide) rfl (Nat.le_of_ble_eq_true rfl) ?_
  refine jx_iload_n d_Tp_isBlank_0 0 rfl ?_
  refine jx_bipush (v0 := 9) d_Tp_isBlank_1 (by decide) ?_
  refine jx_icmp_eq (tgt := 24) d_Tp_isBlank_3 (by decide) (fun c1 => ?_) (fun c1 => ?_)
  ·
    refine jx_iconst (v0 := 1) d_Tp_isBlank_24 (by decide) ?_
    refine jx_goto (tgt := 29) d_Tp_isBlank_25 (by decide) ?_
    exact jx_zret d_Tp_isBlank_29 rfl (by first | rfl | decide) (⟨by grind [jb, q_blank], rfl⟩)
  ·
    refine jx_iload_n d_Tp_isBlank_6 0 rfl ?_
    refine jx_bipush (v0 := 10) d_Tp_isBlank_7 (by decide) ?_
    refine jx_icmp_eq (tgt := 24) d_Tp_isBlank_9 (by decide) (fun c2 => ?_) (fun c2 => ?_)
    ·
      refine jx_iconst (v0 := 1) d_Tp_isBlank_24 (by decide) ?_
      refine jx_goto (tgt := 29) d_Tp_isBlank_25 (by decide) ?_
      exact jx_zret d_Tp_isBlank_29 rfl (by first | rfl | decide) (⟨by grind [jb, q_blank], rfl⟩)
    ·
      refine jx_iload_n d_Tp_isBlank_12 0 rfl ?_
      refine jx_bipush (v0 := 13) d_Tp_isBlank_13 (by decide) ?_
      refine jx_icmp_eq (tgt := 24) d_Tp_isBlank_15 (by decide) (fun c3 => ?_) (fun c3 => ?_)
      ·
        refine jx_iconst (v0 := 1) d_Tp_isBlank_24 (by decide) ?_
        refine jx_goto (tgt := 29) d_Tp_isBlank_25 (by decide) ?_
        exact jx_zret d_Tp_isBlank_29 rfl (by first | rfl | decide) (⟨by grind [jb, q_blank], rfl⟩)
      ·
        refine jx_iload_n d_Tp_isBlank_18 0 rfl ?_
        refine jx_bipush (v0 := 32) d_Tp_isBlank_19 (by decide) ?_
        refine jx_icmp_ne (tgt := 28) d_Tp_isBlank_21 (by decide) (fun c4 => ?_) (fun c4 => ?_)
        ·
          refine jx_iconst (v0 := 0) d_Tp_isBlank_28 (by decide) ?_
          exact jx_zret d_Tp_isBlank_29 rfl (by first | rfl | decide) (⟨by grind [jb, q_blank], rfl⟩)
        ·
          refine jx_iconst (v0 := 1) d_Tp_isBlank_24 (by decide) ?_
          refine jx_goto (tgt := 29) d_Tp_isBlank_25 (by decide) ?_
          exact jx_zret d_Tp_isBlank_29 rfl (by first | rfl | decide) (⟨by grind [jb, q_blank], rfl⟩)
def q_letter (c : Int32) : Bool := decide ((97 ≤ c ∧ c ≤ 122) ∨ (65 ≤ c ∧ c ≤ 90))
set_option maxHeartbeats 4000000 in
set_option maxRecDepth 100000 in
theorem c_Tp_isLetter (l : Launch) (G : jm_G) (d : Nat) (h : jm_H) (c : Int32) : jm_C l G mm_Tp_isLetter d [.int c] h (some (.int (jb (q_letter c)))) h := by
  refine jm_ofE (by decide) rfl (Nat.le_of_ble_eq_true rfl) ?_
  refine jx_iload_n d_Tp_isLetter_0 0 rfl ?_
  refine jx_bipush (v0 := 97) d_Tp_isLetter_1 (by decide) ?_
  refine jx_icmp_lt (tgt := 12) d_Tp_isLetter_3 (by decide) (fun c1 => ?_) (fun c1 => ?_)
  ·
    refine jx_iload_n d_Tp_isLetter_12 0 rfl ?_
    refine jx_bipush (v0 := 65) d_Tp_isLetter_13 (by decide) ?_
    refine jx_icmp_lt (tgt := 28) d_Tp_isLetter_15 (by decide) (fun c2 => ?_) (fun c2 => ?_)
    ·
      refine jx_iconst (v0 := 0) d_Tp_isLetter_28 (by decide) ?_
      exact jx_zret d_Tp_isLetter_29 rfl (by first | rfl | decide) (⟨by grind [jb, q_letter], rfl⟩)
    ·
      refine jx_iload_n d_Tp_isLetter_18 0 rfl ?_
      refine jx_bipush (v0 := 90) d_Tp_isLetter_19 (by decide) ?_
      refine jx_icmp_gt (tgt := 28) d_Tp_isLetter_21 (by decide) (fun c3 => ?_) (fun c3 => ?_)
      ·
        refine jx_iconst (v0 := 0) d_Tp_isLetter_28 (by decide) ?_
        exact jx_zret d_Tp_isLetter_29 rfl (by first | rfl | decide) (⟨by grind [jb, q_letter], rfl⟩)
      ·
        refine jx_iconst (v0 := 1) d_Tp_isLetter_24 (by decide) ?_
        refine jx_goto (tgt := 29) d_Tp_isLetter_25 (by decide) ?_
        exact jx_zret d_Tp_isLetter_29 rfl (by first | rfl | decide) (⟨by grind [jb, q_letter], rfl⟩)
  ·
    refine jx_iload_n d_Tp_isLetter_6 0 rfl ?_
    refine jx_bipush (v0 := 122) d_Tp_isLetter_7 (by decide) ?_
    refine jx_icmp_le (tgt := 24) d_Tp_isLetter_9 (by decide) (fun c4 => ?_) (fun c4 => ?_)
    ·
      refine jx_iconst (v0 := 1) d_Tp_isLetter_24 (by decide) ?_
      refine jx_goto (tgt := 29) d_Tp_isLetter_25 (by decide) ?_
      exact jx_zret d_Tp_isLetter_29 rfl (by first | rfl | decide) (⟨by grind [jb, q_letter], rfl⟩)
    ·
      refine jx_iload_n d_Tp_isLetter_12 0 rfl ?_
      refine jx_bipush (v0 := 65) d_Tp_isLetter_13 (by decide) ?_
      refine jx_icmp_lt (tgt := 28) d_Tp_isLetter_15 (by decide) (fun c5 => ?_) (fun c5 => ?_)
      ·
        refine jx_iconst (v0 := 0) d_Tp_isLetter_28 (by decide) ?_
        exact jx_zret d_Tp_isLetter_29 rfl (by first | rfl | decide) (⟨by grind [jb, q_letter], rfl⟩)
      ·
        refine jx_iload_n d_Tp_isLetter_18 0 rfl ?_
        refine jx_bipush (v0 := 90) d_Tp_isLetter_19 (by decide) ?_
        refine jx_icmp_gt (tgt := 28) d_Tp_isLetter_21 (by decide) (fun c6 => ?_) (fun c6 => ?_)
        ·
          refine jx_iconst (v0 := 0) d_Tp_isLetter_28 (by decide) ?_
          exact jx_zret d_Tp_isLetter_29 rfl (by first | rfl | decide) (⟨by grind [jb, q_letter], rfl⟩)
        ·
          refine jx_iconst (v0 := 1) d_Tp_isLetter_24 (by decide) ?_
          refine jx_goto (tgt := 29) d_Tp_isLetter_25 (by decide) ?_
          exact jx_zret d_Tp_isLetter_29 rfl (by first | rfl | decide) (⟨by grind [jb, q_letter], rfl⟩)
def q_digit (c : Int32) : Bool := decide (48 ≤ c ∧ c ≤ 57)
set_option maxHeartbeats 4000000 in
set_option maxRecDepth 100000 in
theorem c_Tp_isDigit (l : Launch) (G : jm_G) (d : Nat) (h : jm_H) (c : Int32) : jm_C l G mm_Tp_isDigit d [.int c] h (some (.int (jb (q_digit c)))) h := by
  refine jm_ofE (by decide) rfl (Nat.le_of_ble_eq_true rfl) ?_
  refine jx_iload_n d_Tp_isDigit_0 0 rfl ?_
  refine jx_bipush (v0 := 48) d_Tp_isDigit_1 (by decide) ?_
  refine jx_icmp_lt (tgt := 16) d_Tp_isDigit_3 (by decide) (fun c1 => ?_) (fun c1 => ?_)
  ·
    refine jx_iconst (v0 := 0) d_Tp_isDigit_16 (by decide) ?_
    exact jx_zret d_Tp_isDigit_17 rfl (by first | rfl | decide) (⟨by grind [jb, q_digit], rfl⟩)
  ·
    refine jx_iload_n d_Tp_isDigit_6 0 rfl ?_
    refine jx_bipush (v0 := 57) d_Tp_isDigit_7 (by decide) ?_
    refine jx_icmp_gt (tgt := 16) d_Tp_isDigit_9 (by decide) (fun c2 => ?_) (fun c2 => ?_)
    ·
      refine jx_iconst (v0 := 0) d_Tp_isDigit_16 (by decide) ?_
      exact jx_zret d_Tp_isDigit_17 rfl (by first | rfl | decide) (⟨by grind [jb, q_digit], rfl⟩)
    ·
      refine jx_iconst (v0 := 1) d_Tp_isDigit_12 (by decide) ?_
      refine jx_goto (tgt := 17) d_Tp_isDigit_13 (by decide) ?_
      exact jx_zret d_Tp_isDigit_17 rfl (by first | rfl | decide) (⟨by grind [jb, q_digit], rfl⟩)
def q_mark (c : Int32) : Bool := decide (c = 61 ∨ c = 43 ∨ c = 45 ∨ c = 42 ∨ c = 47 ∨ c = 40 ∨ c = 41 ∨ c = 44)
set_option maxHeartbeats 4000000 in
set_option maxRecDepth 100000 in
theorem c_Tp_isMark (l : Launch) (G : jm_G) (d : Nat) (h : jm_H) (c : Int32) : jm_C l G mm_Tp_isMark d [.int c] h (some (.int (jb (q_mark c)))) h := by
  refine jm_ofE (by decide) rfl (Nat.le_of_ble_eq_true rfl) ?_
  refine jx_iload_n d_Tp_isMark_0 0 rfl ?_
  refine jx_bipush (v0 := 61) d_Tp_isMark_1 (by decide) ?_
  refine jx_icmp_eq (tgt := 48) d_Tp_isMark_3 (by decide) (fun c1 => ?_) (fun c1 => ?_)
  ·
    refine jx_iconst (v0 := 1) d_Tp_isMark_48 (by decide) ?_
    refine jx_goto (tgt := 53) d_Tp_isMark_49 (by decide) ?_
    exact jx_zret d_Tp_isMark_53 rfl (by first | rfl | decide) (⟨by grind [jb, q_mark], rfl⟩)
  ·
    refine jx_iload_n d_Tp_isMark_6 0 rfl ?_
    refine jx_bipush (v0 := 43) d_Tp_isMark_7 (by decide) ?_
    refine jx_icmp_eq (tgt := 48) d_Tp_isMark_9 (by decide) (fun c2 => ?_) (fun c2 => ?_)
    ·
      refine jx_iconst (v0 := 1) d_Tp_isMark_48 (by decide) ?_
      refine jx_goto (tgt := 53) d_Tp_isMark_49 (by decide) ?_
      exact jx_zret d_Tp_isMark_53 rfl (by first | rfl | decide) (⟨by grind [jb, q_mark], rfl⟩)
    ·
      refine jx_iload_n d_Tp_isMark_12 0 rfl ?_
      refine jx_bipush (v0 := 45) d_Tp_isMark_13 (by decide) ?_
      refine jx_icmp_eq (tgt := 48) d_Tp_isMark_15 (by decide) (fun c3 => ?_) (fun c3 => ?_)
      ·
        refine jx_iconst (v0 := 1) d_Tp_isMark_48 (by decide) ?_
        refine jx_goto (tgt := 53) d_Tp_isMark_49 (by decide) ?_
        exact jx_zret d_Tp_isMark_53 rfl (by first | rfl | decide) (⟨by grind [jb, q_mark], rfl⟩)
      ·
        refine jx_iload_n d_Tp_isMark_18 0 rfl ?_
        refine jx_bipush (v0 := 42) d_Tp_isMark_19 (by decide) ?_
        refine jx_icmp_eq (tgt := 48) d_Tp_isMark_21 (by decide) (fun c4 => ?_) (fun c4 => ?_)
        ·
          refine jx_iconst (v0 := 1) d_Tp_isMark_48 (by decide) ?_
          refine jx_goto (tgt := 53) d_Tp_isMark_49 (by decide) ?_
          exact jx_zret d_Tp_isMark_53 rfl (by first | rfl | decide) (⟨by grind [jb, q_mark], rfl⟩)
        ·
          refine jx_iload_n d_Tp_isMark_24 0 rfl ?_
          refine jx_bipush (v0 := 47) d_Tp_isMark_25 (by decide) ?_
          refine jx_icmp_eq (tgt := 48) d_Tp_isMark_27 (by decide) (fun c5 => ?_) (fun c5 => ?_)
          ·
            refine jx_iconst (v0 := 1) d_Tp_isMark_48 (by decide) ?_
            refine jx_goto (tgt := 53) d_Tp_isMark_49 (by decide) ?_
            exact jx_zret d_Tp_isMark_53 rfl (by first | rfl | decide) (⟨by grind [jb, q_mark], rfl⟩)
          ·
            refine jx_iload_n d_Tp_isMark_30 0 rfl ?_
            refine jx_bipush (v0 := 40) d_Tp_isMark_31 (by decide) ?_
            refine jx_icmp_eq (tgt := 48) d_Tp_isMark_33 (by decide) (fun c6 => ?_) (fun c6 => ?_)
            ·
              refine jx_iconst (v0 := 1) d_Tp_isMark_48 (by decide) ?_
              refine jx_goto (tgt := 53) d_Tp_isMark_49 (by decide) ?_
              exact jx_zret d_Tp_isMark_53 rfl (by first | rfl | decide) (⟨by grind [jb, q_mark], rfl⟩)
            ·
              refine jx_iload_n d_Tp_isMark_36 0 rfl ?_
              refine jx_bipush (v0 := 41) d_Tp_isMark_37 (by decide) ?_
              refine jx_icmp_eq (tgt := 48) d_Tp_isMark_39 (by decide) (fun c7 => ?_) (fun c7 => ?_)
              ·
                refine jx_iconst (v0 := 1) d_Tp_isMark_48 (by decide) ?_
                refine jx_goto (tgt := 53) d_Tp_isMark_49 (by decide) ?_
                exact jx_zret d_Tp_isMark_53 rfl (by first | rfl | decide) (⟨by grind [jb, q_mark], rfl⟩)
              ·
                refine jx_iload_n d_Tp_isMark_42 0 rfl ?_
                refine jx_bipush (v0 := 44) d_Tp_isMark_43 (by decide) ?_
                refine jx_icmp_ne (tgt := 52) d_Tp_isMark_45 (by decide) (fun c8 => ?_) (fun c8 => ?_)
                ·
                  refine jx_iconst (v0 := 0) d_Tp_isMark_52 (by decide) ?_
                  exact jx_zret d_Tp_isMark_53 rfl (by first | rfl | decide) (⟨by grind [jb, q_mark], rfl⟩)
                ·
                  refine jx_iconst (v0 := 1) d_Tp_isMark_48 (by decide) ?_
                  refine jx_goto (tgt := 53) d_Tp_isMark_49 (by decide) ?_
                  exact jx_zret d_Tp_isMark_53 rfl (by first | rfl | decide) (⟨by grind [jb, q_mark], rfl⟩)
theorem jm_lok {m d : Nat} (h : m ≤ 45) : 19 + m + jm_lo d ≤ jm_lo (d + 1) := by unfold jm_lo; omega
theorem jm_put_id {h : jm_H} {a k : Nat} {v : Value} (p : h.2.2.2 a k = v) : jm_put h a k v = h := jm_heq rfl rfl rfl (fun b j => by
  simp only [jm_put]
  split
  · rename_i q
    rw [q.1, q.2, p]
  · rfl)
theorem jm_put_put (h : jm_H) (a k : Nat) (v w : Value) : jm_put (jm_put h a k v) a k w = jm_put h a k w := jm_heq rfl rfl rfl (fun b j => by
  simp only [jm_put]
  split <;> rfl)
theorem jm_put_comm (h : jm_H) {a k a' k' : Nat} (v w : Value) (hn : ¬ (a = a' ∧ k = k')) : jm_put (jm_put h a k v) a' k' w = jm_put (jm_put h a' k' w) a k v := jm_heq rfl rfl rfl (fun b j => by
  simp only [jm_put]
  grind)
theorem jx_eqv {l : Launch} {G : jm_G} {M : jm_M} {n0 s0 : Nat} {Z : jm_Z} {Post : jm_r → jm_H → Prop} {pc : Nat} {lv : List (Nat × Value)} {st : List Value} {h h' : jm_H} (k : jm_X l G M n0 s0 Z Post pc lv st h') (h1 : h.1 = h'.1) (h2 : h.2.1 = h'.2.1) (h3 : h.2.2.1 = h'.2.2.1) (h4 : ∀ b j, h.2.2.2 b j = h'.2.2.2 b j) : jm_X l G M n0 s0 Z Post pc lv st h := by
  rw [jm_heq h1 h2 h3 h4]
  exact k
theorem lg_cmp0 (x y : Int64) : lg_cmp x y = 0 ↔ x = y := by
  unfold lg_cmp
  grind
def q_kow (w : Int64) : Int32 := if w = 7883953568967819264 then 4 else if w = 7881712764270411776 then 5 else if w = 7594757821606920192 then 6 else 2
set_option maxHeartbeats 4000000 in
set_option maxRecDepth 100000 in
theorem c_Tp_kindOfWord (l : Launch) (G : jm_G) (d : Nat) (h : jm_H) (w : Int64) : jm_C l G mm_Tp_kindOfWord d [.long w] h (some (.int (q_kow w))) h := by
  refine jm_ofE (by decide) rfl (Nat.le_of_ble_eq_true rfl) ?_
  refine jx_lload_n d_Tp_kindOfWord_0 0 rfl ?_
  refine jx_ldc2 d_Tp_kindOfWord_1 lk_Tp_68 ?_
  refine jx_lcmp d_Tp_kindOfWord_4 ?_
  refine jx_if_ne (tgt := 10) d_Tp_kindOfWord_5 (by decide) (fun c1 => ?_) (fun c1 => ?_)
  ·
    refine jx_lload_n d_Tp_kindOfWord_10 0 rfl ?_
    refine jx_ldc2 d_Tp_kindOfWord_11 lk_Tp_70 ?_
    refine jx_lcmp d_Tp_kindOfWord_14 ?_
    refine jx_if_ne (tgt := 20) d_Tp_kindOfWord_15 (by decide) (fun c2 => ?_) (fun c2 => ?_)
    ·
      refine jx_lload_n d_Tp_kindOfWord_20 0 rfl ?_
      refine jx_ldc2 d_Tp_kindOfWord_21 lk_Tp_72 ?_
      refine jx_lcmp d_Tp_kindOfWord_24 ?_
      refine jx_if_ne (tgt := 33) d_Tp_kindOfWord_25 (by decide) (fun c3 => ?_) (fun c3 => ?_)
      ·
        refine jx_iconst (v0 := 2) d_Tp_kindOfWord_33 (by decide) ?_
        exact jx_iret d_Tp_kindOfWord_34 rfl (⟨by grind [q_kow, lg_cmp0], rfl⟩)
      ·
        refine jx_bipush (v0 := 6) d_Tp_kindOfWord_28 (by decide) ?_
        refine jx_goto (tgt := 34) d_Tp_kindOfWord_30 (by decide) ?_
        exact jx_iret d_Tp_kindOfWord_34 rfl (⟨by grind [q_kow, lg_cmp0], rfl⟩)
    ·
      refine jx_iconst (v0 := 5) d_Tp_kindOfWord_18 (by decide) ?_
      exact jx_iret d_Tp_kindOfWord_19 rfl (⟨by grind [q_kow, lg_cmp0], rfl⟩)
  ·
    refine jx_iconst (v0 := 4) d_Tp_kindOfWord_8 (by decide) ?_
    exact jx_iret d_Tp_kindOfWord_9 rfl (⟨by grind [q_kow, lg_cmp0], rfl⟩)
/-- a Tape at a, its bytes at b: length n, next p, kind, start, name, number -/
def TpA (h : jm_H) (a b n p : Nat) (K : Int32) (s : Nat) (nm : Int64) (nu : Int32) : Prop := h.2.2.1 a = (jm_o 2, 7) ∧ h.2.2.2 a 0 = .ref b ∧ h.2.2.2 a 1 = .int (nI n) ∧ h.2.2.2 a 2 = .int (nI p) ∧ h.2.2.2 a 3 = .int K ∧ h.2.2.2 a 4 = .int (nI s) ∧ h.2.2.2 a 5 = .long nm ∧ h.2.2.2 a 6 = .int nu ∧ h.2.2.1 b = (jm_a 0, 2000)
def TpB (h : jm_H) (b : Nat) (B : Nat → Int32) : Prop := ∀ j, j < 2000 → h.2.2.2 b j = .int (B j)
/-- byte p of a tape of n bytes, as a number from 0 to 255; -1 behind its end -/
def q_at (B : Nat → Int32) (n p : Nat) : Int32 := if p < n then B p &&& 255 else -1
def q_skip (B : Nat → Int32) (n p : Nat) : Nat := if p < n ∧ q_blank (q_at B n p) = true then q_skip B n (p + 1) else p
termination_by n - p
theorem q_skip_le (B : Nat → Int32) (n p : Nat) (h : p ≤ n) : p ≤ q_skip B n p ∧ q_skip B n p ≤ n := by
  induction hm : n - p generalizing p with
  | zero => unfold q_skip; rw [if_neg (by omega)]; omega
  | succ m ih =>
    unfold q_skip
    split
    · have := ih (p + 1) (by omega) (by omega)
      omega
    · omega
set_option maxHeartbeats 4000000 in
set_option maxRecDepth 100000 in
theorem c_Tp_byteAt (l : Launch) (G : jm_G) (d : Nat) {h : jm_H} {a b n p s : Nat} {K : Int32} {nm : Int64} {nu : Int32} {B : Nat → Int32} {i : Nat} (hT : TpA h a b n p K s nm nu) (hB : TpB h b B) (hn : n ≤ 2000) (hi : i < 2 ^ 31) : jm_C l G mm_Tp_byteAt d [.ref a, .int (nI i)] h (some (.int (q_at B n i))) h := by
  obtain ⟨ta, f0, f1, f2, f3, f4, f5, f6, tb⟩ := id hT
  have fB := hB
  refine jm_ofE (by decide) rfl (Nat.le_of_ble_eq_true rfl) ?_
  refine jx_iload_n d_Tp_byteAt_0 1 rfl ?_
  refine jx_if_ltN (tgt := 34) (i) d_Tp_byteAt_1 rfl (by omega) (by decide) (fun c1 => ?_) (fun c1 => ?_)
  · omega
  ·
    refine jx_iload_n d_Tp_byteAt_4 1 rfl ?_
    refine jx_aload_n d_Tp_byteAt_5 0 rfl ?_
    refine jx_get d_Tp_byteAt_6 fF_Tp_15 ta f1 ?_
    refine jx_icmp_geN (tgt := 34) (i) (n) d_Tp_byteAt_9 rfl rfl (by omega) (by omega) (by decide) (fun c2 => ?_) (fun c2 => ?_)
    ·
      refine jx_iconst (v0 := -1) d_Tp_byteAt_34 (by decide) ?_
      exact jx_iret d_Tp_byteAt_35 rfl (⟨by first | (simp [q_at]; omega) | (rw [q_at, if_pos (by omega)]) | (rw [q_at, if_neg (by omega)])  , rfl⟩)
    ·
      refine jx_iload_n d_Tp_byteAt_12 1 rfl ?_
      refine jx_aload_n d_Tp_byteAt_13 0 rfl ?_
      refine jx_get d_Tp_byteAt_14 fF_Tp_9 ta f0 ?_
      refine jx_alen (v0 := 2000) d_Tp_byteAt_17 tb (by decide) ?_
      refine jx_icmp_geN (tgt := 34) (i) (2000) d_Tp_byteAt_18 rfl rfl (by omega) (by omega) (by decide) (fun c3 => ?_) (fun c3 => ?_)
      ·
        refine jx_iconst (v0 := -1) d_Tp_byteAt_34 (by decide) ?_
        exact jx_iret d_Tp_byteAt_35 rfl (⟨by first | (simp [q_at]; omega) | (rw [q_at, if_pos (by omega)]) | (rw [q_at, if_neg (by omega)])  , rfl⟩)
      ·
        refine jx_aload_n d_Tp_byteAt_21 0 rfl ?_
        refine jx_get d_Tp_byteAt_22 fF_Tp_9 ta f0 ?_
        refine jx_iload_n d_Tp_byteAt_25 1 rfl ?_
        refine jx_bald d_Tp_byteAt_26 tb rfl (jm_vinN (by omega) (by decide)) (jm_atN (by omega) (fB _ (by omega))) ?_
        refine jx_sipush (v0 := 255) d_Tp_byteAt_27 (by decide) ?_
        refine jx_iand d_Tp_byteAt_30 ?_
        refine jx_goto (tgt := 35) d_Tp_byteAt_31 (by decide) ?_
        exact jx_iret d_Tp_byteAt_35 rfl (⟨by first | (simp [q_at]; omega) | (rw [q_at, if_pos (by omega)]) | (rw [q_at, if_neg (by omega)])  , rfl⟩)
set_option maxHeartbeats 4000000 in
set_option maxRecDepth 100000 in
theorem c_Tp_rewind (l : Launch) (G : jm_G) (d : Nat) {h : jm_H} {a b n p s : Nat} {K : Int32} {nm : Int64} {nu : Int32} {B : Nat → Int32} (hT : TpA h a b n p K s nm nu) (hB : TpB h b B) : jm_C l G mm_Tp_rewind d [.ref a] h none (jm_put h a 2 (.int 0)) := by
  obtain ⟨ta, f0, f1, f2, f3, f4, f5, f6, tb⟩ := id hT
  have fB := hB
  refine jm_ofE (by decide) rfl (Nat.le_of_ble_eq_true rfl) ?_
  refine jx_aload_n d_Tp_rewind_0 0 rfl ?_
  refine jx_iconst (v0 := 0) d_Tp_rewind_1 (by decide) ?_
  refine jx_put (v0 := .int (0)) d_Tp_rewind_2 fF_Tp_19 jv_Tp ft_Tp_next ta rfl rfl ?_
  exact jx_vret d_Tp_rewind_5 rfl (⟨rfl, rfl⟩)
def q_nloop (B : Nat → Int32) (n p : Nat) (acc : Int32) : Nat × Int32 := if p < n ∧ q_digit (q_at B n p) = true then q_nloop B n (p + 1) (10 * acc + q_at B n p - 48) else (p, acc)
termination_by n - p
def q_alnum (c : Int32) : Bool := q_letter c || q_digit c
def q_sh (c : Int32) (k : Nat) : Int64 := c.toInt64 <<< ((56 - 8 * nI k).toInt64 &&& 63)
def q_wloop (B : Nat → Int32) (n s p : Nat) (acc : Int64) : Nat × Int64 := if p < n ∧ q_alnum (q_at B n p) = true then q_wloop B n s (p + 1) (if p - s < 8 then acc ||| q_sh (q_at B n p) (p - s) else acc) else (p, acc)
termination_by n - p
set_option maxHeartbeats 4000000 in
set_option maxRecDepth 100000 in
theorem lp_Tp_readNumber (l : Launch) (G : jm_G) {a b n s : Nat} {K : Int32} {nm : Int64} {B : Nat → Int32} {n0 s0 d : Nat} {Post : jm_r → jm_H → Prop} (hn : n ≤ 2000) (m : Nat) : ∀ {h : jm_H} (p : Nat) (nu : Int32), n - p < m → p ≤ n → TpA h a b n p K s nm nu → TpB h b B →
    jm_X l G mm_Tp_readNumber n0 s0 (jm_zn G (d + 1) n0 s0) Post 66 [(0, .ref a)] [] (jm_put (jm_put h a 6 (.int (q_nloop B n p nu).2)) a 2 (.int (nI (q_nloop B n p nu).1))) → jm_X l G mm_Tp_readNumber n0 s0 (jm_zn G (d + 1) n0 s0) Post 5 [(0, .ref a)] [] h := by
  induction m with
  | zero => intro h p nu hm; omega
  | succ m ih =>
    intro h p nu hm hp hT hB k
    obtain ⟨ta, f0, f1, f2, f3, f4, f5, f6, tb⟩ := id hT
    have fB := hB
    refine jx_aload_n d_Tp_readNumber_5 0 rfl ?_
    refine jx_get d_Tp_readNumber_6 fF_Tp_19 ta f2 ?_
    refine jx_aload_n d_Tp_readNumber_9 0 rfl ?_
    refine jx_get d_Tp_readNumber_10 fF_Tp_15 ta f1 ?_
    refine jx_icmp_geN (tgt := 66) (p) (n) d_Tp_readNumber_13 rfl rfl (by omega) (by omega) (by decide) (fun c1 => ?_) (fun c1 => ?_)
    ·
      rw [q_nloop, if_neg (by grind [jb])] at k
      exact jx_ath (by rw [jm_put_id f6, jm_put_id f2]) k
    ·
      refine jx_aload_n d_Tp_readNumber_16 0 rfl ?_
      refine jx_aload_n d_Tp_readNumber_17 0 rfl ?_
      refine jx_get d_Tp_readNumber_18 fF_Tp_19 ta f2 ?_
      refine jx_callV (M2 := mm_Tp_byteAt) rfl ta lk_Tp_41 wi_Tp_byteAt ws_Tp_byteAt d_Tp_readNumber_21 (c_Tp_byteAt l G d ⟨ta, f0, f1, f2, f3, f4, f5, f6, tb⟩ fB (by omega) (by omega)) cd_Tp_byteAt rfl rfl (Nat.le_of_ble_eq_true rfl) (Nat.le_refl _) (jm_lok (by decide)) ?_
      refine jx_callS (M2 := mm_Tp_isDigit) lk_Tp_55 wt_Tp_isDigit d_Tp_readNumber_24 (c_Tp_isDigit l G d _ _) cd_Tp_isDigit rfl rfl (Nat.le_of_ble_eq_true rfl) (Nat.le_refl _) (jm_lok (by decide)) ?_
      refine jx_if_eq (tgt := 66) d_Tp_readNumber_27 (by decide) (fun c2 => ?_) (fun c2 => ?_)
      ·
        rw [q_nloop, if_neg (by grind [jb])] at k
        exact jx_ath (by rw [jm_put_id f6, jm_put_id f2]) k
      ·
        refine jx_aload_n d_Tp_readNumber_30 0 rfl ?_
        refine jx_bipush (v0 := 10) d_Tp_readNumber_31 (by decide) ?_
        refine jx_aload_n d_Tp_readNumber_33 0 rfl ?_
        refine jx_get d_Tp_readNumber_34 fF_Tp_32 ta f6 ?_
        refine jx_imul d_Tp_readNumber_37 ?_
        refine jx_aload_n d_Tp_readNumber_38 0 rfl ?_
        refine jx_aload_n d_Tp_readNumber_39 0 rfl ?_
        refine jx_get d_Tp_readNumber_40 fF_Tp_19 ta f2 ?_
        refine jx_callV (M2 := mm_Tp_byteAt) rfl ta lk_Tp_41 wi_Tp_byteAt ws_Tp_byteAt d_Tp_readNumber_43 (c_Tp_byteAt l G d ⟨ta, f0, f1, f2, f3, f4, f5, f6, tb⟩ fB (by omega) (by omega)) cd_Tp_byteAt rfl rfl (Nat.le_of_ble_eq_true rfl) (Nat.le_refl _) (jm_lok (by decide)) ?_
        refine jx_iadd d_Tp_readNumber_46 ?_
        refine jx_bipush (v0 := 48) d_Tp_readNumber_47 (by decide) ?_
        refine jx_isub d_Tp_readNumber_49 ?_
        refine jx_put (v0 := .int ((((10 * nu) + q_at B (n) (p)) - 48))) d_Tp_readNumber_50 fF_Tp_32 jv_Tp ft_Tp_number ta rfl rfl ?_
        refine jx_aload_n d_Tp_readNumber_53 0 rfl ?_
        refine jx_dup d_Tp_readNumber_54 rfl ?_
        refine jx_get d_Tp_readNumber_55 fF_Tp_19 ta (jm_rd_k (by decide) f2) ?_
        refine jx_iconst (v0 := 1) d_Tp_readNumber_58 (by decide) ?_
        refine jx_iadd d_Tp_readNumber_59 ?_
        refine jx_ati (nI_add (p) (1)) ?_
        refine jx_put (v0 := .int (nI ((p) + (1)))) d_Tp_readNumber_60 fF_Tp_19 jv_Tp ft_Tp_next ta rfl rfl ?_
        refine jx_goto (tgt := 5) d_Tp_readNumber_63 (by decide) ?_
        exact ih (p + 1) (10 * nu + q_at B n p - 48) (by omega) (by omega) ⟨ta, (jm_rd_k (by decide) (jm_rd_k (by decide) f0)), (jm_rd_k (by decide) (jm_rd_k (by decide) f1)), (jm_rd_s _ _ _ _), (jm_rd_k (by decide) (jm_rd_k (by decide) f3)), (jm_rd_k (by decide) (jm_rd_k (by decide) f4)), (jm_rd_k (by decide) (jm_rd_k (by decide) f5)), (jm_rd_k (by decide) (jm_rd_s _ _ _ _)), tb⟩ (fun j hj => jm_rd_a (Ne.symm (jm_ne_oa ta tb)) ((fun j hj => jm_rd_a (Ne.symm (jm_ne_oa ta tb)) (fB j hj)) j hj)) (by rw [q_nloop, if_pos (by grind [jb])] at k; exact jx_eqv k rfl rfl rfl (fun b9 j9 => by simp only [jm_put]; grind))
theorem q_nloop_le (B : Nat → Int32) (n p : Nat) (acc : Int32) (h : p ≤ n) : p ≤ (q_nloop B n p acc).1 ∧ (q_nloop B n p acc).1 ≤ n := by
  induction hm : n - p generalizing p acc with
  | zero => unfold q_nloop; rw [if_neg (by omega)]; exact ⟨Nat.le_refl _, h⟩
  | succ m ih =>
    unfold q_nloop
    split
    · have := ih (p + 1) (10 * acc + q_at B n p - 48) (by omega) (by omega)
      omega
    · exact ⟨Nat.le_refl _, h⟩
set_option maxHeartbeats 4000000 in
set_option maxRecDepth 100000 in
theorem c_Tp_readNumber (l : Launch) (G : jm_G) (d : Nat) {h : jm_H} {a b n p : Nat} {K : Int32} {nm : Int64} {nu : Int32} {B : Nat → Int32} (hT : TpA h a b n p K p nm nu) (hB : TpB h b B) (hn : n ≤ 2000) (hp : p ≤ n) : jm_C l G mm_Tp_readNumber (d + 1) [.ref a] h none (jm_put (jm_put (jm_put h a 6 (.int (q_nloop B n p 0).2)) a 2 (.int (nI (q_nloop B n p 0).1))) a 3 (.int (if (q_nloop B n p 0).1 - p > 9 then 1 else 3))) := by
  obtain ⟨ta, f0, f1, f2, f3, f4, f5, f6, tb⟩ := id hT
  have fB := hB
  have hle := q_nloop_le B n p 0 hp
  refine jm_ofE (by decide) rfl (Nat.le_of_ble_eq_true rfl) ?_
  refine jx_aload_n d_Tp_readNumber_0 0 rfl ?_
  refine jx_iconst (v0 := 0) d_Tp_readNumber_1 (by decide) ?_
  refine jx_put (v0 := .int (0)) d_Tp_readNumber_2 fF_Tp_32 jv_Tp ft_Tp_number ta rfl rfl ?_
  refine lp_Tp_readNumber l G hn (n + 1) p 0 (by omega) hp ⟨ta, (jm_rd_k (by decide) f0), (jm_rd_k (by decide) f1), (jm_rd_k (by decide) f2), (jm_rd_k (by decide) f3), (jm_rd_k (by decide) f4), (jm_rd_k (by decide) f5), (jm_rd_s _ _ _ _), tb⟩ (fun j hj => jm_rd_a (Ne.symm (jm_ne_oa ta tb)) (fB j hj)) ?_
  refine jx_aload_n d_Tp_readNumber_66 0 rfl ?_
  refine jx_aload_n d_Tp_readNumber_67 0 rfl ?_
  refine jx_get d_Tp_readNumber_68 fF_Tp_19 ta (jm_rd_s _ _ _ _) ?_
  refine jx_aload_n d_Tp_readNumber_71 0 rfl ?_
  refine jx_get d_Tp_readNumber_72 fF_Tp_25 ta (jm_rd_k (by decide) (jm_rd_k (by decide) (jm_rd_k (by decide) f4))) ?_
  refine jx_isub d_Tp_readNumber_75 ?_
  refine jx_ati (pk_sub (a := (q_nloop B n p 0).1) (b := p) (by omega)) ?_
  refine jx_bipush (v0 := 9) d_Tp_readNumber_76 (by decide) ?_
  refine jx_icmp_leN (tgt := 85) (((q_nloop B n p 0).1) - (p)) (9) d_Tp_readNumber_78 rfl rfl (by omega) (by omega) (by decide) (fun c1 => ?_) (fun c1 => ?_)
  ·
    refine jx_iconst (v0 := 3) d_Tp_readNumber_85 (by decide) ?_
    refine jx_put (v0 := .int (3)) d_Tp_readNumber_86 fF_Tp_22 jv_Tp ft_Tp_kind ta rfl rfl ?_
    exact jx_vret d_Tp_readNumber_89 rfl (⟨rfl, by first | (rw [if_pos (by omega), jm_put_put]) | (rw [if_neg (by omega), jm_put_put])⟩)
  ·
    refine jx_iconst (v0 := 1) d_Tp_readNumber_81 (by decide) ?_
    refine jx_goto (tgt := 86) d_Tp_readNumber_82 (by decide) ?_
    refine jx_put (v0 := .int (1)) d_Tp_readNumber_86 fF_Tp_22 jv_Tp ft_Tp_kind ta rfl rfl ?_
    exact jx_vret d_Tp_readNumber_89 rfl (⟨rfl, by first | (rw [if_pos (by omega), jm_put_put]) | (rw [if_neg (by omega), jm_put_put])⟩)
set_option maxHeartbeats 4000000 in
set_option maxRecDepth 100000 in
theorem lp_Tp_readWord (l : Launch) (G : jm_G) {a b n s : Nat} {K : Int32} {nu : Int32} {B : Nat → Int32} {n0 s0 d : Nat} {Post : jm_r → jm_H → Prop} (hn : n ≤ 2000) (m : Nat) : ∀ {h : jm_H} (p : Nat) (nm : Int64), n - p < m → p ≤ n → s ≤ p → TpA h a b n p K s nm nu → TpB h b B →
    jm_X l G mm_Tp_readWord n0 s0 (jm_zn G (d + 1) n0 s0) Post 99 [(0, .ref a)] [] (jm_put (jm_put h a 5 (.long (q_wloop B n s p nm).2)) a 2 (.int (nI (q_wloop B n s p nm).1))) → jm_X l G mm_Tp_readWord n0 s0 (jm_zn G (d + 1) n0 s0) Post 5 [(0, .ref a)] [] h := by
  induction m with
  | zero => intro h p nm hm; omega
  | succ m ih =>
    intro h p nm hm hp hs hT hB k
    obtain ⟨ta, f0, f1, f2, f3, f4, f5, f6, tb⟩ := id hT
    have fB := hB
    refine jx_aload_n d_Tp_readWord_5 0 rfl ?_
    refine jx_get d_Tp_readWord_6 fF_Tp_19 ta f2 ?_
    refine jx_aload_n d_Tp_readWord_9 0 rfl ?_
    refine jx_get d_Tp_readWord_10 fF_Tp_15 ta f1 ?_
    refine jx_icmp_geN (tgt := 99) (p) (n) d_Tp_readWord_13 rfl rfl (by omega) (by omega) (by decide) (fun c1 => ?_) (fun c1 => ?_)
    ·
      rw [q_wloop, if_neg (by grind [jb, q_alnum])] at k
      exact jx_ath (by rw [jm_put_id f5, jm_put_id f2]) k
    ·
      refine jx_aload_n d_Tp_readWord_16 0 rfl ?_
      refine jx_aload_n d_Tp_readWord_17 0 rfl ?_
      refine jx_get d_Tp_readWord_18 fF_Tp_19 ta f2 ?_
      refine jx_callV (M2 := mm_Tp_byteAt) rfl ta lk_Tp_41 wi_Tp_byteAt ws_Tp_byteAt d_Tp_readWord_21 (c_Tp_byteAt l G d ⟨ta, f0, f1, f2, f3, f4, f5, f6, tb⟩ fB (by omega) (by omega)) cd_Tp_byteAt rfl rfl (Nat.le_of_ble_eq_true rfl) (Nat.le_refl _) (jm_lok (by decide)) ?_
      refine jx_callS (M2 := mm_Tp_isLetter) lk_Tp_49 wt_Tp_isLetter d_Tp_readWord_24 (c_Tp_isLetter l G d _ _) cd_Tp_isLetter rfl rfl (Nat.le_of_ble_eq_true rfl) (Nat.le_refl _) (jm_lok (by decide)) ?_
      refine jx_if_ne (tgt := 44) d_Tp_readWord_27 (by decide) (fun c2 => ?_) (fun c2 => ?_)
      ·
        refine jx_aload_n d_Tp_readWord_44 0 rfl ?_
        refine jx_get d_Tp_readWord_45 fF_Tp_19 ta f2 ?_
        refine jx_aload_n d_Tp_readWord_48 0 rfl ?_
        refine jx_get d_Tp_readWord_49 fF_Tp_25 ta f4 ?_
        refine jx_isub d_Tp_readWord_52 ?_
        refine jx_ati (pk_sub (a := p) (b := s) (by omega)) ?_
        refine jx_istore_n (lv' := [(1, .int (nI ((p) - (s)))), (0, .ref (a))]) d_Tp_readWord_53 (by decide) rfl ?_
        refine jx_iload_n d_Tp_readWord_54 0 rfl ?_
        refine jx_bipush (v0 := 8) d_Tp_readWord_55 (by decide) ?_
        refine jx_icmp_geN (tgt := 86) ((p) - (s)) (8) d_Tp_readWord_57 rfl rfl (by omega) (by omega) (by decide) (fun c3 => ?_) (fun c3 => ?_)
        ·
          refine jx_aload_n d_Tp_readWord_86 1 rfl ?_
          refine jx_dup d_Tp_readWord_87 rfl ?_
          refine jx_get d_Tp_readWord_88 fF_Tp_19 ta f2 ?_
          refine jx_iconst (v0 := 1) d_Tp_readWord_91 (by decide) ?_
          refine jx_iadd d_Tp_readWord_92 ?_
          refine jx_ati (nI_add (p) (1)) ?_
          refine jx_put (v0 := .int (nI ((p) + (1)))) d_Tp_readWord_93 fF_Tp_19 jv_Tp ft_Tp_next ta rfl rfl ?_
          refine jx_goto (tgt := 5) d_Tp_readWord_96 (by decide) ?_
          refine jx_lv [1] rfl ?_
          exact ih (p + 1) (nm) (by omega) (by omega) (by omega) ⟨ta, (jm_rd_k (by decide) f0), (jm_rd_k (by decide) f1), (jm_rd_s _ _ _ _), (jm_rd_k (by decide) f3), (jm_rd_k (by decide) f4), (jm_rd_k (by decide) f5), (jm_rd_k (by decide) f6), tb⟩ (fun j hj => jm_rd_a (Ne.symm (jm_ne_oa ta tb)) (fB j hj)) (by rw [q_wloop, if_pos (by grind [jb, q_alnum]), if_neg (by omega)] at k; exact jx_eqv k rfl rfl rfl (fun b9 j9 => by simp only [jm_put]; grind))
        ·
          refine jx_aload_n d_Tp_readWord_60 1 rfl ?_
          refine jx_dup d_Tp_readWord_61 rfl ?_
          refine jx_get d_Tp_readWord_62 fF_Tp_28 ta f5 ?_
          refine jx_aload_n d_Tp_readWord_65 1 rfl ?_
          refine jx_aload_n d_Tp_readWord_66 1 rfl ?_
          refine jx_get d_Tp_readWord_67 fF_Tp_19 ta f2 ?_
          refine jx_callV (M2 := mm_Tp_byteAt) rfl ta lk_Tp_41 wi_Tp_byteAt ws_Tp_byteAt d_Tp_readWord_70 (c_Tp_byteAt l G d ⟨ta, f0, f1, f2, f3, f4, f5, f6, tb⟩ fB (by omega) (by omega)) cd_Tp_byteAt rfl rfl (Nat.le_of_ble_eq_true rfl) (Nat.le_refl _) (jm_lok (by decide)) ?_
          refine jx_i2l d_Tp_readWord_73 ?_
          refine jx_bipush (v0 := 56) d_Tp_readWord_74 (by decide) ?_
          refine jx_bipush (v0 := 8) d_Tp_readWord_76 (by decide) ?_
          refine jx_iload_n d_Tp_readWord_78 0 rfl ?_
          refine jx_imul d_Tp_readWord_79 ?_
          refine jx_isub d_Tp_readWord_80 ?_
          refine jx_lshl d_Tp_readWord_81 ?_
          refine jx_lor d_Tp_readWord_82 ?_
          refine jx_put (v0 := .long ((nm ||| ((Int32.toInt64 (q_at B (n) (p))) <<< (Int32.toInt64 (56 - (8 * nI ((p) - (s)))) &&& 63))))) d_Tp_readWord_83 fF_Tp_28 jv_Tp ft_Tp_name ta rfl rfl ?_
          refine jx_aload_n d_Tp_readWord_86 1 rfl ?_
          refine jx_dup d_Tp_readWord_87 rfl ?_
          refine jx_get d_Tp_readWord_88 fF_Tp_19 ta (jm_rd_k (by decide) f2) ?_
          refine jx_iconst (v0 := 1) d_Tp_readWord_91 (by decide) ?_
          refine jx_iadd d_Tp_readWord_92 ?_
          refine jx_ati (nI_add (p) (1)) ?_
          refine jx_put (v0 := .int (nI ((p) + (1)))) d_Tp_readWord_93 fF_Tp_19 jv_Tp ft_Tp_next ta rfl rfl ?_
          refine jx_goto (tgt := 5) d_Tp_readWord_96 (by decide) ?_
          refine jx_lv [1] rfl ?_
          exact ih (p + 1) (nm ||| q_sh (q_at B n p) (p - s)) (by omega) (by omega) (by omega) ⟨ta, (jm_rd_k (by decide) (jm_rd_k (by decide) f0)), (jm_rd_k (by decide) (jm_rd_k (by decide) f1)), (jm_rd_s _ _ _ _), (jm_rd_k (by decide) (jm_rd_k (by decide) f3)), (jm_rd_k (by decide) (jm_rd_k (by decide) f4)), (jm_rd_k (by decide) (jm_rd_s _ _ _ _)), (jm_rd_k (by decide) (jm_rd_k (by decide) f6)), tb⟩ (fun j hj => jm_rd_a (Ne.symm (jm_ne_oa ta tb)) ((fun j hj => jm_rd_a (Ne.symm (jm_ne_oa ta tb)) (fB j hj)) j hj)) (by rw [q_wloop, if_pos (by grind [jb, q_alnum]), if_pos (by omega)] at k; exact jx_eqv k rfl rfl rfl (fun b9 j9 => by simp only [jm_put]; grind))
      ·
        refine jx_aload_n d_Tp_readWord_30 0 rfl ?_
        refine jx_aload_n d_Tp_readWord_31 0 rfl ?_
        refine jx_get d_Tp_readWord_32 fF_Tp_19 ta f2 ?_
        refine jx_callV (M2 := mm_Tp_byteAt) rfl ta lk_Tp_41 wi_Tp_byteAt ws_Tp_byteAt d_Tp_readWord_35 (c_Tp_byteAt l G d ⟨ta, f0, f1, f2, f3, f4, f5, f6, tb⟩ fB (by omega) (by omega)) cd_Tp_byteAt rfl rfl (Nat.le_of_ble_eq_true rfl) (Nat.le_refl _) (jm_lok (by decide)) ?_
        refine jx_callS (M2 := mm_Tp_isDigit) lk_Tp_55 wt_Tp_isDigit d_Tp_readWord_38 (c_Tp_isDigit l G d _ _) cd_Tp_isDigit rfl rfl (Nat.le_of_ble_eq_true rfl) (Nat.le_refl _) (jm_lok (by decide)) ?_
        refine jx_if_eq (tgt := 99) d_Tp_readWord_41 (by decide) (fun c4 => ?_) (fun c4 => ?_)
        ·
          rw [q_wloop, if_neg (by grind [jb, q_alnum])] at k
          exact jx_ath (by rw [jm_put_id f5, jm_put_id f2]) k
        ·
          refine jx_aload_n d_Tp_readWord_44 0 rfl ?_
          refine jx_get d_Tp_readWord_45 fF_Tp_19 ta f2 ?_
          refine jx_aload_n d_Tp_readWord_48 0 rfl ?_
          refine jx_get d_Tp_readWord_49 fF_Tp_25 ta f4 ?_
          refine jx_isub d_Tp_readWord_52 ?_
          refine jx_ati (pk_sub (a := p) (b := s) (by omega)) ?_
          refine jx_istore_n (lv' := [(1, .int (nI ((p) - (s)))), (0, .ref (a))]) d_Tp_readWord_53 (by decide) rfl ?_
          refine jx_iload_n d_Tp_readWord_54 0 rfl ?_
          refine jx_bipush (v0 := 8) d_Tp_readWord_55 (by decide) ?_
          refine jx_icmp_geN (tgt := 86) ((p) - (s)) (8) d_Tp_readWord_57 rfl rfl (by omega) (by omega) (by decide) (fun c5 => ?_) (fun c5 => ?_)
          ·
            refine jx_aload_n d_Tp_readWord_86 1 rfl ?_
            refine jx_dup d_Tp_readWord_87 rfl ?_
            refine jx_get d_Tp_readWord_88 fF_Tp_19 ta f2 ?_
            refine jx_iconst (v0 := 1) d_Tp_readWord_91 (by decide) ?_
            refine jx_iadd d_Tp_readWord_92 ?_
            refine jx_ati (nI_add (p) (1)) ?_
            refine jx_put (v0 := .int (nI ((p) + (1)))) d_Tp_readWord_93 fF_Tp_19 jv_Tp ft_Tp_next ta rfl rfl ?_
            refine jx_goto (tgt := 5) d_Tp_readWord_96 (by decide) ?_
            refine jx_lv [1] rfl ?_
            exact ih (p + 1) (nm) (by omega) (by omega) (by omega) ⟨ta, (jm_rd_k (by decide) f0), (jm_rd_k (by decide) f1), (jm_rd_s _ _ _ _), (jm_rd_k (by decide) f3), (jm_rd_k (by decide) f4), (jm_rd_k (by decide) f5), (jm_rd_k (by decide) f6), tb⟩ (fun j hj => jm_rd_a (Ne.symm (jm_ne_oa ta tb)) (fB j hj)) (by rw [q_wloop, if_pos (by grind [jb, q_alnum]), if_neg (by omega)] at k; exact jx_eqv k rfl rfl rfl (fun b9 j9 => by simp only [jm_put]; grind))
          ·
            refine jx_aload_n d_Tp_readWord_60 1 rfl ?_
            refine jx_dup d_Tp_readWord_61 rfl ?_
            refine jx_get d_Tp_readWord_62 fF_Tp_28 ta f5 ?_
            refine jx_aload_n d_Tp_readWord_65 1 rfl ?_
            refine jx_aload_n d_Tp_readWord_66 1 rfl ?_
            refine jx_get d_Tp_readWord_67 fF_Tp_19 ta f2 ?_
            refine jx_callV (M2 := mm_Tp_byteAt) rfl ta lk_Tp_41 wi_Tp_byteAt ws_Tp_byteAt d_Tp_readWord_70 (c_Tp_byteAt l G d ⟨ta, f0, f1, f2, f3, f4, f5, f6, tb⟩ fB (by omega) (by omega)) cd_Tp_byteAt rfl rfl (Nat.le_of_ble_eq_true rfl) (Nat.le_refl _) (jm_lok (by decide)) ?_
            refine jx_i2l d_Tp_readWord_73 ?_
            refine jx_bipush (v0 := 56) d_Tp_readWord_74 (by decide) ?_
            refine jx_bipush (v0 := 8) d_Tp_readWord_76 (by decide) ?_
            refine jx_iload_n d_Tp_readWord_78 0 rfl ?_
            refine jx_imul d_Tp_readWord_79 ?_
            refine jx_isub d_Tp_readWord_80 ?_
            refine jx_lshl d_Tp_readWord_81 ?_
            refine jx_lor d_Tp_readWord_82 ?_
            refine jx_put (v0 := .long ((nm ||| ((Int32.toInt64 (q_at B (n) (p))) <<< (Int32.toInt64 (56 - (8 * nI ((p) - (s)))) &&& 63))))) d_Tp_readWord_83 fF_Tp_28 jv_Tp ft_Tp_name ta rfl rfl ?_
            refine jx_aload_n d_Tp_readWord_86 1 rfl ?_
            refine jx_dup d_Tp_readWord_87 rfl ?_
            refine jx_get d_Tp_readWord_88 fF_Tp_19 ta (jm_rd_k (by decide) f2) ?_
            refine jx_iconst (v0 := 1) d_Tp_readWord_91 (by decide) ?_
            refine jx_iadd d_Tp_readWord_92 ?_
            refine jx_ati (nI_add (p) (1)) ?_
            refine jx_put (v0 := .int (nI ((p) + (1)))) d_Tp_readWord_93 fF_Tp_19 jv_Tp ft_Tp_next ta rfl rfl ?_
            refine jx_goto (tgt := 5) d_Tp_readWord_96 (by decide) ?_
            refine jx_lv [1] rfl ?_
            exact ih (p + 1) (nm ||| q_sh (q_at B n p) (p - s)) (by omega) (by omega) (by omega) ⟨ta, (jm_rd_k (by decide) (jm_rd_k (by decide) f0)), (jm_rd_k (by decide) (jm_rd_k (by decide) f1)), (jm_rd_s _ _ _ _), (jm_rd_k (by decide) (jm_rd_k (by decide) f3)), (jm_rd_k (by decide) (jm_rd_k (by decide) f4)), (jm_rd_k (by decide) (jm_rd_s _ _ _ _)), (jm_rd_k (by decide) (jm_rd_k (by decide) f6)), tb⟩ (fun j hj => jm_rd_a (Ne.symm (jm_ne_oa ta tb)) ((fun j hj => jm_rd_a (Ne.symm (jm_ne_oa ta tb)) (fB j hj)) j hj)) (by rw [q_wloop, if_pos (by grind [jb, q_alnum]), if_pos (by omega)] at k; exact jx_eqv k rfl rfl rfl (fun b9 j9 => by simp only [jm_put]; grind))
theorem q_wloop_le (B : Nat → Int32) (n s p : Nat) (acc : Int64) (h : p ≤ n) : p ≤ (q_wloop B n s p acc).1 ∧ (q_wloop B n s p acc).1 ≤ n := by
  induction hm : n - p generalizing p acc with
  | zero => unfold q_wloop; rw [if_neg (by omega)]; exact ⟨Nat.le_refl _, h⟩
  | succ m ih =>
    unfold q_wloop
    split
    · have := ih (p + 1) (if p - s < 8 then acc ||| q_sh (q_at B n p) (p - s) else acc) (by omega) (by omega)
      omega
    · exact ⟨Nat.le_refl _, h⟩
set_option maxHeartbeats 4000000 in
set_option maxRecDepth 100000 in
theorem c_Tp_readWord (l : Launch) (G : jm_G) (d : Nat) {h : jm_H} {a b n p : Nat} {K : Int32} {nm : Int64} {nu : Int32} {B : Nat → Int32} (hT : TpA h a b n p K p nm nu) (hB : TpB h b B) (hn : n ≤ 2000) (hp : p ≤ n) : jm_C l G mm_Tp_readWord (d + 1) [.ref a] h none (jm_put (jm_put (jm_put h a 5 (.long (q_wloop B n p p 0).2)) a 2 (.int (nI (q_wloop B n p p 0).1))) a 3 (.int (if (q_wloop B n p p 0).1 - p > 8 then 1 else q_kow (q_wloop B n p p 0).2))) := by
  obtain ⟨ta, f0, f1, f2, f3, f4, f5, f6, tb⟩ := id hT
  have fB := hB
  have hle := q_wloop_le B n p p 0 hp
  refine jm_ofE (by decide) rfl (Nat.le_of_ble_eq_true rfl) ?_
  refine jx_aload_n d_Tp_readWord_0 0 rfl ?_
  refine jx_lconst (v0 := 0) d_Tp_readWord_1 (by decide) ?_
  refine jx_put (v0 := .long (0)) d_Tp_readWord_2 fF_Tp_28 jv_Tp ft_Tp_name ta rfl rfl ?_
  refine lp_Tp_readWord l G hn (n + 1) p 0 (by omega) hp (Nat.le_refl _) ⟨ta, (jm_rd_k (by decide) f0), (jm_rd_k (by decide) f1), (jm_rd_k (by decide) f2), (jm_rd_k (by decide) f3), (jm_rd_k (by decide) f4), (jm_rd_s _ _ _ _), (jm_rd_k (by decide) f6), tb⟩ (fun j hj => jm_rd_a (Ne.symm (jm_ne_oa ta tb)) (fB j hj)) ?_
  refine jx_aload_n d_Tp_readWord_99 0 rfl ?_
  refine jx_aload_n d_Tp_readWord_100 0 rfl ?_
  refine jx_get d_Tp_readWord_101 fF_Tp_19 ta (jm_rd_s _ _ _ _) ?_
  refine jx_aload_n d_Tp_readWord_104 0 rfl ?_
  refine jx_get d_Tp_readWord_105 fF_Tp_25 ta (jm_rd_k (by decide) (jm_rd_k (by decide) (jm_rd_k (by decide) f4))) ?_
  refine jx_isub d_Tp_readWord_108 ?_
  refine jx_ati (pk_sub (a := (q_wloop B n p p 0).1) (b := p) (by omega)) ?_
  refine jx_bipush (v0 := 8) d_Tp_readWord_109 (by decide) ?_
  refine jx_icmp_leN (tgt := 118) (((q_wloop B n p p 0).1) - (p)) (8) d_Tp_readWord_111 rfl rfl (by omega) (by omega) (by decide) (fun c1 => ?_) (fun c1 => ?_)
  ·
    refine jx_aload_n d_Tp_readWord_118 0 rfl ?_
    refine jx_get d_Tp_readWord_119 fF_Tp_28 ta (jm_rd_k (by decide) (jm_rd_s _ _ _ _)) ?_
    refine jx_callS (M2 := mm_Tp_kindOfWord) lk_Tp_64 wt_Tp_kindOfWord d_Tp_readWord_122 (c_Tp_kindOfWord l G d _ _) cd_Tp_kindOfWord rfl rfl (Nat.le_of_ble_eq_true rfl) (Nat.le_refl _) (jm_lok (by decide)) ?_
    refine jx_put (v0 := .int (q_kow ((q_wloop B n p p 0).2))) d_Tp_readWord_125 fF_Tp_22 jv_Tp ft_Tp_kind ta rfl rfl ?_
    exact jx_vret d_Tp_readWord_128 rfl (⟨rfl, by first | (rw [if_pos (by omega), jm_put_put]) | (rw [if_neg (by omega), jm_put_put])⟩)
  ·
    refine jx_iconst (v0 := 1) d_Tp_readWord_114 (by decide) ?_
    refine jx_goto (tgt := 125) d_Tp_readWord_115 (by decide) ?_
    refine jx_put (v0 := .int (1)) d_Tp_readWord_125 fF_Tp_22 jv_Tp ft_Tp_kind ta rfl rfl ?_
    exact jx_vret d_Tp_readWord_128 rfl (⟨rfl, by first | (rw [if_pos (by omega), jm_put_put]) | (rw [if_neg (by omega), jm_put_put])⟩)
set_option maxHeartbeats 4000000 in
set_option maxRecDepth 100000 in
theorem lp_Tp_readToken (l : Launch) (G : jm_G) {a b n s : Nat} {K : Int32} {nm : Int64} {nu : Int32} {B : Nat → Int32} {n0 s0 d : Nat} {Post : jm_r → jm_H → Prop} (hn : n ≤ 2000) (m : Nat) : ∀ {h : jm_H} (p : Nat), n - p < m → p ≤ n → TpA h a b n p K s nm nu → TpB h b B →
    jm_X l G mm_Tp_readToken n0 s0 (jm_zn G (d + 2) n0 s0) Post 38 [(0, .ref a)] [] (jm_put h a 2 (.int (nI (q_skip B n p)))) → jm_X l G mm_Tp_readToken n0 s0 (jm_zn G (d + 2) n0 s0) Post 0 [(0, .ref a)] [] h := by
  induction m with
  | zero => intro h p hm; omega
  | succ m ih =>
    intro h p hm hp hT hB k
    obtain ⟨ta, f0, f1, f2, f3, f4, f5, f6, tb⟩ := id hT
    have fB := hB
    refine jx_aload_n d_Tp_readToken_0 0 rfl ?_
    refine jx_get d_Tp_readToken_1 fF_Tp_19 ta f2 ?_
    refine jx_aload_n d_Tp_readToken_4 0 rfl ?_
    refine jx_get d_Tp_readToken_5 fF_Tp_15 ta f1 ?_
    refine jx_icmp_geN (tgt := 38) (p) (n) d_Tp_readToken_8 rfl rfl (by omega) (by omega) (by decide) (fun c1 => ?_) (fun c1 => ?_)
    ·
      rw [q_skip, if_neg (by grind [jb])] at k
      exact jx_ath (by rw [jm_put_id f2]) k
    ·
      refine jx_aload_n d_Tp_readToken_11 0 rfl ?_
      refine jx_aload_n d_Tp_readToken_12 0 rfl ?_
      refine jx_get d_Tp_readToken_13 fF_Tp_19 ta f2 ?_
      refine jx_callV (M2 := mm_Tp_byteAt) rfl ta lk_Tp_41 wi_Tp_byteAt ws_Tp_byteAt d_Tp_readToken_16 (c_Tp_byteAt l G (d + 1) ⟨ta, f0, f1, f2, f3, f4, f5, f6, tb⟩ fB (by omega) (by omega)) cd_Tp_byteAt rfl rfl (Nat.le_of_ble_eq_true rfl) (Nat.le_refl _) (jm_lok (by decide)) ?_
      refine jx_callS (M2 := mm_Tp_isBlank) lk_Tp_45 wt_Tp_isBlank d_Tp_readToken_19 (c_Tp_isBlank l G (d + 1) _ _) cd_Tp_isBlank rfl rfl (Nat.le_of_ble_eq_true rfl) (Nat.le_refl _) (jm_lok (by decide)) ?_
      refine jx_if_eq (tgt := 38) d_Tp_readToken_22 (by decide) (fun c2 => ?_) (fun c2 => ?_)
      ·
        rw [q_skip, if_neg (by grind [jb])] at k
        exact jx_ath (by rw [jm_put_id f2]) k
      ·
        refine jx_aload_n d_Tp_readToken_25 0 rfl ?_
        refine jx_dup d_Tp_readToken_26 rfl ?_
        refine jx_get d_Tp_readToken_27 fF_Tp_19 ta f2 ?_
        refine jx_iconst (v0 := 1) d_Tp_readToken_30 (by decide) ?_
        refine jx_iadd d_Tp_readToken_31 ?_
        refine jx_ati (nI_add (p) (1)) ?_
        refine jx_put (v0 := .int (nI ((p) + (1)))) d_Tp_readToken_32 fF_Tp_19 jv_Tp ft_Tp_next ta rfl rfl ?_
        refine jx_goto (tgt := 0) d_Tp_readToken_35 (by decide) ?_
        exact ih (p + 1) (by omega) (by omega) ⟨ta, (jm_rd_k (by decide) f0), (jm_rd_k (by decide) f1), (jm_rd_s _ _ _ _), (jm_rd_k (by decide) f3), (jm_rd_k (by decide) f4), (jm_rd_k (by decide) f5), (jm_rd_k (by decide) f6), tb⟩ (fun j hj => jm_rd_a (Ne.symm (jm_ne_oa ta tb)) (fB j hj)) (by rw [q_skip, if_pos (by grind [jb])] at k; exact jx_eqv k rfl rfl rfl (fun b9 j9 => by simp only [jm_put]; grind))
/-- the token that begins at p (no blank there): kind, where it ends, name and number as they are then -/
def q_tok (B : Nat → Int32) (n p : Nat) (nm : Int64) (nu : Int32) : Int32 × Nat × Int64 × Int32 :=
  if q_at B n p = -1 then (0, p, nm, nu)
  else if q_letter (q_at B n p) = true then (if (q_wloop B n p p 0).1 - p > 8 then 1 else q_kow (q_wloop B n p p 0).2, (q_wloop B n p p 0).1, (q_wloop B n p p 0).2, nu)
  else if q_digit (q_at B n p) = true then (if (q_nloop B n p 0).1 - p > 9 then 1 else 3, (q_nloop B n p 0).1, nm, (q_nloop B n p 0).2)
  else (if q_mark (q_at B n p) = true then q_at B n p else 1, p + 1, nm, nu)
/-- the Tape behind a token -/
def tp_set (h : jm_H) (a p : Nat) (K : Int32) (s : Nat) (nm : Int64) (nu : Int32) : jm_H := jm_put (jm_put (jm_put (jm_put (jm_put h a 2 (.int (nI p))) a 3 (.int K)) a 4 (.int (nI s))) a 5 (.long nm)) a 6 (.int nu)
def tp_tok (h : jm_H) (a n : Nat) (B : Nat → Int32) (p : Nat) (nm : Int64) (nu : Int32) : jm_H := tp_set h a (q_tok B n (q_skip B n p) nm nu).2.1 (q_tok B n (q_skip B n p) nm nu).1 (q_skip B n p) (q_tok B n (q_skip B n p) nm nu).2.2.1 (q_tok B n (q_skip B n p) nm nu).2.2.2
set_option maxHeartbeats 4000000 in
set_option maxRecDepth 100000 in
theorem c_Tp_readToken (l : Launch) (G : jm_G) (d : Nat) {h : jm_H} {a b n p s : Nat} {K : Int32} {nm : Int64} {nu : Int32} {B : Nat → Int32} (hT : TpA h a b n p K s nm nu) (hB : TpB h b B) (hn : n ≤ 2000) (hp : p ≤ n) : jm_C l G mm_Tp_readToken (d + 2) [.ref a] h none (tp_tok h a n B p nm nu) := by
  obtain ⟨ta, f0, f1, f2, f3, f4, f5, f6, tb⟩ := id hT
  have fB := hB
  have hle := q_skip_le B n p hp
  obtain ⟨F, hF⟩ : ∃ z, z = tp_tok h a n B p nm nu := ⟨_, rfl⟩
  rw [← hF]
  unfold tp_tok at hF
  refine jm_ofE (by decide) rfl (Nat.le_of_ble_eq_true rfl) ?_
  refine lp_Tp_readToken l G hn (n + 1) p (by omega) hp ⟨ta, f0, f1, f2, f3, f4, f5, f6, tb⟩ fB ?_
  generalize hq : q_skip B n p = q at hle ⊢
  rw [hq] at hF
  refine jx_aload_n d_Tp_readToken_38 0 rfl ?_
  refine jx_aload_n d_Tp_readToken_39 0 rfl ?_
  refine jx_get d_Tp_readToken_40 fF_Tp_19 ta (jm_rd_s _ _ _ _) ?_
  refine jx_put (v0 := .int (nI (q))) d_Tp_readToken_43 fF_Tp_25 jv_Tp ft_Tp_start ta rfl rfl ?_
  refine jx_aload_n d_Tp_readToken_46 0 rfl ?_
  refine jx_aload_n d_Tp_readToken_47 0 rfl ?_
  refine jx_get d_Tp_readToken_48 fF_Tp_25 ta (jm_rd_s _ _ _ _) ?_
  refine jx_callV (M2 := mm_Tp_byteAt) rfl ta lk_Tp_41 wi_Tp_byteAt ws_Tp_byteAt d_Tp_readToken_51 (c_Tp_byteAt l G (d + 1) ⟨ta, (jm_rd_k (by decide) (jm_rd_k (by decide) f0)), (jm_rd_k (by decide) (jm_rd_k (by decide) f1)), (jm_rd_k (by decide) (jm_rd_s _ _ _ _)), (jm_rd_k (by decide) (jm_rd_k (by decide) f3)), (jm_rd_s _ _ _ _), (jm_rd_k (by decide) (jm_rd_k (by decide) f5)), (jm_rd_k (by decide) (jm_rd_k (by decide) f6)), tb⟩ (fun j hj => jm_rd_a (Ne.symm (jm_ne_oa ta tb)) ((fun j hj => jm_rd_a (Ne.symm (jm_ne_oa ta tb)) (fB j hj)) j hj)) (by omega) (by omega)) cd_Tp_byteAt rfl rfl (Nat.le_of_ble_eq_true rfl) (Nat.le_refl _) (jm_lok (by decide)) ?_
  refine jx_istore_n (lv' := [(1, .int (q_at B (n) (q))), (0, .ref (a))]) d_Tp_readToken_54 (by decide) rfl ?_
  refine jx_iload_n d_Tp_readToken_55 0 rfl ?_
  refine jx_iconst (v0 := -1) d_Tp_readToken_56 (by decide) ?_
  refine jx_icmp_ne (tgt := 68) d_Tp_readToken_57 (by decide) (fun c1 => ?_) (fun c1 => ?_)
  ·
    refine jx_iload_n d_Tp_readToken_68 0 rfl ?_
    refine jx_callS (M2 := mm_Tp_isLetter) lk_Tp_49 wt_Tp_isLetter d_Tp_readToken_69 (c_Tp_isLetter l G (d + 1) _ _) cd_Tp_isLetter rfl rfl (Nat.le_of_ble_eq_true rfl) (Nat.le_refl _) (jm_lok (by decide)) ?_
    refine jx_if_eq (tgt := 82) d_Tp_readToken_72 (by decide) (fun c2 => ?_) (fun c2 => ?_)
    ·
      refine jx_iload_n d_Tp_readToken_82 0 rfl ?_
      refine jx_callS (M2 := mm_Tp_isDigit) lk_Tp_55 wt_Tp_isDigit d_Tp_readToken_83 (c_Tp_isDigit l G (d + 1) _ _) cd_Tp_isDigit rfl rfl (Nat.le_of_ble_eq_true rfl) (Nat.le_refl _) (jm_lok (by decide)) ?_
      refine jx_if_eq (tgt := 96) d_Tp_readToken_86 (by decide) (fun c3 => ?_) (fun c3 => ?_)
      ·
        refine jx_aload_n d_Tp_readToken_96 1 rfl ?_
        refine jx_iload_n d_Tp_readToken_97 0 rfl ?_
        refine jx_callS (M2 := mm_Tp_isMark) lk_Tp_61 wt_Tp_isMark d_Tp_readToken_98 (c_Tp_isMark l G (d + 1) _ _) cd_Tp_isMark rfl rfl (Nat.le_of_ble_eq_true rfl) (Nat.le_refl _) (jm_lok (by decide)) ?_
        refine jx_if_eq (tgt := 108) d_Tp_readToken_101 (by decide) (fun c4 => ?_) (fun c4 => ?_)
        ·
          refine jx_iconst (v0 := 1) d_Tp_readToken_108 (by decide) ?_
          refine jx_put (v0 := .int (1)) d_Tp_readToken_109 fF_Tp_22 jv_Tp ft_Tp_kind ta rfl rfl ?_
          refine jx_aload_n d_Tp_readToken_112 1 rfl ?_
          refine jx_dup d_Tp_readToken_113 rfl ?_
          refine jx_get d_Tp_readToken_114 fF_Tp_19 ta (jm_rd_k (by decide) (jm_rd_k (by decide) (jm_rd_s _ _ _ _))) ?_
          refine jx_iconst (v0 := 1) d_Tp_readToken_117 (by decide) ?_
          refine jx_iadd d_Tp_readToken_118 ?_
          refine jx_ati (nI_add (q) (1)) ?_
          refine jx_put (v0 := .int (nI ((q) + (1)))) d_Tp_readToken_119 fF_Tp_19 jv_Tp ft_Tp_next ta rfl rfl ?_
          exact jx_vret d_Tp_readToken_122 rfl (⟨rfl, by rw [hF]; refine jm_heq rfl rfl rfl (fun b9 j9 => ?_); simp only [tp_set, q_tok, jm_put]; grind [jb]⟩)
        ·
          refine jx_iload_n d_Tp_readToken_104 0 rfl ?_
          refine jx_goto (tgt := 109) d_Tp_readToken_105 (by decide) ?_
          refine jx_put (v0 := .int (q_at B (n) (q))) d_Tp_readToken_109 fF_Tp_22 jv_Tp ft_Tp_kind ta rfl rfl ?_
          refine jx_aload_n d_Tp_readToken_112 1 rfl ?_
          refine jx_dup d_Tp_readToken_113 rfl ?_
          refine jx_get d_Tp_readToken_114 fF_Tp_19 ta (jm_rd_k (by decide) (jm_rd_k (by decide) (jm_rd_s _ _ _ _))) ?_
          refine jx_iconst (v0 := 1) d_Tp_readToken_117 (by decide) ?_
          refine jx_iadd d_Tp_readToken_118 ?_
          refine jx_ati (nI_add (q) (1)) ?_
          refine jx_put (v0 := .int (nI ((q) + (1)))) d_Tp_readToken_119 fF_Tp_19 jv_Tp ft_Tp_next ta rfl rfl ?_
          exact jx_vret d_Tp_readToken_122 rfl (⟨rfl, by rw [hF]; refine jm_heq rfl rfl rfl (fun b9 j9 => ?_); simp only [tp_set, q_tok, jm_put]; grind [jb]⟩)
      ·
        refine jx_aload_n d_Tp_readToken_89 1 rfl ?_
        refine jx_callV (M2 := mm_Tp_readNumber) rfl ta lk_Tp_58 wi_Tp_readNumber ws_Tp_readNumber d_Tp_readToken_90 (c_Tp_readNumber l G d ⟨ta, (jm_rd_k (by decide) (jm_rd_k (by decide) f0)), (jm_rd_k (by decide) (jm_rd_k (by decide) f1)), (jm_rd_k (by decide) (jm_rd_s _ _ _ _)), (jm_rd_k (by decide) (jm_rd_k (by decide) f3)), (jm_rd_s _ _ _ _), (jm_rd_k (by decide) (jm_rd_k (by decide) f5)), (jm_rd_k (by decide) (jm_rd_k (by decide) f6)), tb⟩ (fun j hj => jm_rd_a (Ne.symm (jm_ne_oa ta tb)) ((fun j hj => jm_rd_a (Ne.symm (jm_ne_oa ta tb)) (fB j hj)) j hj)) hn hle.2) cd_Tp_readNumber rfl rfl (Nat.le_of_ble_eq_true rfl) (Nat.le_refl _) (jm_lok (by decide)) ?_
        refine jx_goto (tgt := 122) d_Tp_readToken_93 (by decide) ?_
        exact jx_vret d_Tp_readToken_122 rfl (⟨rfl, by rw [hF]; refine jm_heq rfl rfl rfl (fun b9 j9 => ?_); simp only [tp_set, q_tok, jm_put]; grind [jb]⟩)
    ·
      refine jx_aload_n d_Tp_readToken_75 1 rfl ?_
      refine jx_callV (M2 := mm_Tp_readWord) rfl ta lk_Tp_52 wi_Tp_readWord ws_Tp_readWord d_Tp_readToken_76 (c_Tp_readWord l G d ⟨ta, (jm_rd_k (by decide) (jm_rd_k (by decide) f0)), (jm_rd_k (by decide) (jm_rd_k (by decide) f1)), (jm_rd_k (by decide) (jm_rd_s _ _ _ _)), (jm_rd_k (by decide) (jm_rd_k (by decide) f3)), (jm_rd_s _ _ _ _), (jm_rd_k (by decide) (jm_rd_k (by decide) f5)), (jm_rd_k (by decide) (jm_rd_k (by decide) f6)), tb⟩ (fun j hj => jm_rd_a (Ne.symm (jm_ne_oa ta tb)) ((fun j hj => jm_rd_a (Ne.symm (jm_ne_oa ta tb)) (fB j hj)) j hj)) hn hle.2) cd_Tp_readWord rfl rfl (Nat.le_of_ble_eq_true rfl) (Nat.le_refl _) (jm_lok (by decide)) ?_
      refine jx_goto (tgt := 122) d_Tp_readToken_79 (by decide) ?_
      exact jx_vret d_Tp_readToken_122 rfl (⟨rfl, by rw [hF]; refine jm_heq rfl rfl rfl (fun b9 j9 => ?_); simp only [tp_set, q_tok, jm_put]; grind [jb]⟩)
  ·
    refine jx_aload_n d_Tp_readToken_60 1 rfl ?_
    refine jx_iconst (v0 := 0) d_Tp_readToken_61 (by decide) ?_
    refine jx_put (v0 := .int (0)) d_Tp_readToken_62 fF_Tp_22 jv_Tp ft_Tp_kind ta rfl rfl ?_
    refine jx_goto (tgt := 122) d_Tp_readToken_65 (by decide) ?_
    exact jx_vret d_Tp_readToken_122 rfl (⟨rfl, by rw [hF]; refine jm_heq rfl rfl rfl (fun b9 j9 => ?_); simp only [tp_set, q_tok, jm_put]; grind [jb]⟩)
/-- four bytes more, the word's highest first -/
def q_byte (w : Int32) (k : Int32) : Int32 := ((w.toUInt32 >>> (k.toUInt32 &&& Int32.toUInt32 31)).toInt32).toInt8.toInt32
def tp_add (h : jm_H) (a b n : Nat) (w : Int32) : jm_H := jm_put (jm_put (jm_put (jm_put (jm_put (jm_put (jm_put (jm_put h b n (.int (q_byte w 24))) a 1 (.int (nI (n + 1)))) b (n + 1) (.int (q_byte w 16))) a 1 (.int (nI (n + 2)))) b (n + 2) (.int (q_byte w 8))) a 1 (.int (nI (n + 3)))) b (n + 3) (.int (q_byte w 0))) a 1 (.int (nI (n + 4)))
theorem jm_bb (x : Int32) : x.toInt8.toInt32.toInt8.toInt32 = x.toInt8.toInt32 := by simp
set_option maxHeartbeats 4000000 in
set_option maxRecDepth 100000 in
theorem c_Tp_add (l : Launch) (G : jm_G) (d : Nat) {h : jm_H} {a b n p s : Nat} {K : Int32} {nm : Int64} {nu : Int32} {B : Nat → Int32} {w : Int32} (hT : TpA h a b n p K s nm nu) (hB : TpB h b B) (hn : n + 4 ≤ 2000) : jm_C l G mm_Tp_add d [.ref a, .int w] h none (tp_add h a b n w) := by
  obtain ⟨ta, f0, f1, f2, f3, f4, f5, f6, tb⟩ := id hT
  have fB := hB
  refine jm_ofE (by decide) rfl (Nat.le_of_ble_eq_true rfl) ?_
  refine jx_bipush (v0 := 24) d_Tp_add_0 (by decide) ?_
  refine jx_istore_n (lv' := [(2, .int (24)), (0, .ref (a)), (1, .int (w))]) d_Tp_add_2 (by decide) rfl ?_
  refine jx_iload_n d_Tp_add_3 0 rfl ?_
  refine jx_if_lt (tgt := 55) d_Tp_add_4 (by decide) (fun c1 => absurd c1 (by decide)) (fun c1 => ?_)
  refine jx_aload_n d_Tp_add_7 1 rfl ?_
  refine jx_get d_Tp_add_8 fF_Tp_15 ta f1 ?_
  refine jx_if_ltN (tgt := 49) (n) d_Tp_add_11 rfl (by omega) (by decide) (fun c2 => ?_) (fun c2 => ?_)
  · omega
  ·
    refine jx_aload_n d_Tp_add_14 1 rfl ?_
    refine jx_get d_Tp_add_15 fF_Tp_15 ta f1 ?_
    refine jx_aload_n d_Tp_add_18 1 rfl ?_
    refine jx_get d_Tp_add_19 fF_Tp_9 ta f0 ?_
    refine jx_alen (v0 := 2000) d_Tp_add_22 tb (by decide) ?_
    refine jx_icmp_geN (tgt := 49) (n) (2000) d_Tp_add_23 rfl rfl (by omega) (by omega) (by decide) (fun c3 => ?_) (fun c3 => ?_)
    · omega
    ·
      refine jx_aload_n d_Tp_add_26 1 rfl ?_
      refine jx_get d_Tp_add_27 fF_Tp_9 ta f0 ?_
      refine jx_aload_n d_Tp_add_30 1 rfl ?_
      refine jx_get d_Tp_add_31 fF_Tp_15 ta f1 ?_
      refine jx_iload_n d_Tp_add_34 2 rfl ?_
      refine jx_iload_n d_Tp_add_35 0 rfl ?_
      refine jx_iushr d_Tp_add_36 ?_
      refine jx_i2b d_Tp_add_37 ?_
      refine jx_bast d_Tp_add_38 tb rfl (jm_vinN (by omega) (by decide)) ?_
      rw [jm_putN (by omega)]
      refine jx_aload_n d_Tp_add_39 1 rfl ?_
      refine jx_dup d_Tp_add_40 rfl ?_
      refine jx_get d_Tp_add_41 fF_Tp_15 ta (jm_rd_a (jm_ne_oa ta tb) f1) ?_
      refine jx_iconst (v0 := 1) d_Tp_add_44 (by decide) ?_
      refine jx_iadd d_Tp_add_45 ?_
      refine jx_ati (nI_add (n) (1)) ?_
      refine jx_put (v0 := .int (nI ((n) + (1)))) d_Tp_add_46 fF_Tp_15 jv_Tp ft_Tp_length ta rfl rfl ?_
      refine jx_iinc (v0 := 16) (lv' := [(2, .int (16)), (0, .ref (a)), (1, .int (w))]) d_Tp_add_49 0 rfl (by decide) (by decide) rfl ?_
      refine jx_goto (tgt := 3) d_Tp_add_52 (by decide) ?_
      refine jx_iload_n d_Tp_add_3 0 rfl ?_
      refine jx_if_lt (tgt := 55) d_Tp_add_4 (by decide) (fun c4 => absurd c4 (by decide)) (fun c4 => ?_)
      refine jx_aload_n d_Tp_add_7 1 rfl ?_
      refine jx_get d_Tp_add_8 fF_Tp_15 ta (jm_rd_s _ _ _ _) ?_
      refine jx_if_ltN (tgt := 49) ((n) + (1)) d_Tp_add_11 rfl (by omega) (by decide) (fun c5 => ?_) (fun c5 => ?_)
      · omega
      ·
        refine jx_aload_n d_Tp_add_14 1 rfl ?_
        refine jx_get d_Tp_add_15 fF_Tp_15 ta (jm_rd_s _ _ _ _) ?_
        refine jx_aload_n d_Tp_add_18 1 rfl ?_
        refine jx_get d_Tp_add_19 fF_Tp_9 ta (jm_rd_k (by decide) (jm_rd_a (jm_ne_oa ta tb) f0)) ?_
        refine jx_alen (v0 := 2000) d_Tp_add_22 tb (by decide) ?_
        refine jx_icmp_geN (tgt := 49) ((n) + (1)) (2000) d_Tp_add_23 rfl rfl (by omega) (by omega) (by decide) (fun c6 => ?_) (fun c6 => ?_)
        · omega
        ·
          refine jx_aload_n d_Tp_add_26 1 rfl ?_
          refine jx_get d_Tp_add_27 fF_Tp_9 ta (jm_rd_k (by decide) (jm_rd_a (jm_ne_oa ta tb) f0)) ?_
          refine jx_aload_n d_Tp_add_30 1 rfl ?_
          refine jx_get d_Tp_add_31 fF_Tp_15 ta (jm_rd_s _ _ _ _) ?_
          refine jx_iload_n d_Tp_add_34 2 rfl ?_
          refine jx_iload_n d_Tp_add_35 0 rfl ?_
          refine jx_iushr d_Tp_add_36 ?_
          refine jx_i2b d_Tp_add_37 ?_
          refine jx_bast d_Tp_add_38 tb rfl (jm_vinN (by omega) (by decide)) ?_
          rw [jm_putN (by omega)]
          refine jx_aload_n d_Tp_add_39 1 rfl ?_
          refine jx_dup d_Tp_add_40 rfl ?_
          refine jx_get d_Tp_add_41 fF_Tp_15 ta (jm_rd_a (jm_ne_oa ta tb) (jm_rd_s _ _ _ _)) ?_
          refine jx_iconst (v0 := 1) d_Tp_add_44 (by decide) ?_
          refine jx_iadd d_Tp_add_45 ?_
          refine jx_ati (nI_add ((n) + (1)) (1)) ?_
          refine jx_put (v0 := .int (nI (((n) + (1)) + (1)))) d_Tp_add_46 fF_Tp_15 jv_Tp ft_Tp_length ta rfl rfl ?_
          refine jx_iinc (v0 := 8) (lv' := [(2, .int (8)), (0, .ref (a)), (1, .int (w))]) d_Tp_add_49 0 rfl (by decide) (by decide) rfl ?_
          refine jx_goto (tgt := 3) d_Tp_add_52 (by decide) ?_
          refine jx_iload_n d_Tp_add_3 0 rfl ?_
          refine jx_if_lt (tgt := 55) d_Tp_add_4 (by decide) (fun c7 => absurd c7 (by decide)) (fun c7 => ?_)
          refine jx_aload_n d_Tp_add_7 1 rfl ?_
          refine jx_get d_Tp_add_8 fF_Tp_15 ta (jm_rd_s _ _ _ _) ?_
          refine jx_if_ltN (tgt := 49) (((n) + (1)) + (1)) d_Tp_add_11 rfl (by omega) (by decide) (fun c8 => ?_) (fun c8 => ?_)
          · omega
          ·
            refine jx_aload_n d_Tp_add_14 1 rfl ?_
            refine jx_get d_Tp_add_15 fF_Tp_15 ta (jm_rd_s _ _ _ _) ?_
            refine jx_aload_n d_Tp_add_18 1 rfl ?_
            refine jx_get d_Tp_add_19 fF_Tp_9 ta (jm_rd_k (by decide) (jm_rd_a (jm_ne_oa ta tb) (jm_rd_k (by decide) (jm_rd_a (jm_ne_oa ta tb) f0)))) ?_
            refine jx_alen (v0 := 2000) d_Tp_add_22 tb (by decide) ?_
            refine jx_icmp_geN (tgt := 49) (((n) + (1)) + (1)) (2000) d_Tp_add_23 rfl rfl (by omega) (by omega) (by decide) (fun c9 => ?_) (fun c9 => ?_)
            · omega
            ·
              refine jx_aload_n d_Tp_add_26 1 rfl ?_
              refine jx_get d_Tp_add_27 fF_Tp_9 ta (jm_rd_k (by decide) (jm_rd_a (jm_ne_oa ta tb) (jm_rd_k (by decide) (jm_rd_a (jm_ne_oa ta tb) f0)))) ?_
              refine jx_aload_n d_Tp_add_30 1 rfl ?_
              refine jx_get d_Tp_add_31 fF_Tp_15 ta (jm_rd_s _ _ _ _) ?_
              refine jx_iload_n d_Tp_add_34 2 rfl ?_
              refine jx_iload_n d_Tp_add_35 0 rfl ?_
              refine jx_iushr d_Tp_add_36 ?_
              refine jx_i2b d_Tp_add_37 ?_
              refine jx_bast d_Tp_add_38 tb rfl (jm_vinN (by omega) (by decide)) ?_
              rw [jm_putN (by omega)]
              refine jx_aload_n d_Tp_add_39 1 rfl ?_
              refine jx_dup d_Tp_add_40 rfl ?_
              refine jx_get d_Tp_add_41 fF_Tp_15 ta (jm_rd_a (jm_ne_oa ta tb) (jm_rd_s _ _ _ _)) ?_
              refine jx_iconst (v0 := 1) d_Tp_add_44 (by decide) ?_
              refine jx_iadd d_Tp_add_45 ?_
              refine jx_ati (nI_add (((n) + (1)) + (1)) (1)) ?_
              refine jx_put (v0 := .int (nI ((((n) + (1)) + (1)) + (1)))) d_Tp_add_46 fF_Tp_15 jv_Tp ft_Tp_length ta rfl rfl ?_
              refine jx_iinc (v0 := 0) (lv' := [(2, .int (0)), (0, .ref (a)), (1, .int (w))]) d_Tp_add_49 0 rfl (by decide) (by decide) rfl ?_
              refine jx_goto (tgt := 3) d_Tp_add_52 (by decide) ?_
              refine jx_iload_n d_Tp_add_3 0 rfl ?_
              refine jx_if_lt (tgt := 55) d_Tp_add_4 (by decide) (fun c10 => absurd c10 (by decide)) (fun c10 => ?_)
              refine jx_aload_n d_Tp_add_7 1 rfl ?_
              refine jx_get d_Tp_add_8 fF_Tp_15 ta (jm_rd_s _ _ _ _) ?_
              refine jx_if_ltN (tgt := 49) ((((n) + (1)) + (1)) + (1)) d_Tp_add_11 rfl (by omega) (by decide) (fun c11 => ?_) (fun c11 => ?_)
              · omega
              ·
                refine jx_aload_n d_Tp_add_14 1 rfl ?_
                refine jx_get d_Tp_add_15 fF_Tp_15 ta (jm_rd_s _ _ _ _) ?_
                refine jx_aload_n d_Tp_add_18 1 rfl ?_
                refine jx_get d_Tp_add_19 fF_Tp_9 ta (jm_rd_k (by decide) (jm_rd_a (jm_ne_oa ta tb) (jm_rd_k (by decide) (jm_rd_a (jm_ne_oa ta tb) (jm_rd_k (by decide) (jm_rd_a (jm_ne_oa ta tb) f0)))))) ?_
                refine jx_alen (v0 := 2000) d_Tp_add_22 tb (by decide) ?_
                refine jx_icmp_geN (tgt := 49) ((((n) + (1)) + (1)) + (1)) (2000) d_Tp_add_23 rfl rfl (by omega) (by omega) (by decide) (fun c12 => ?_) (fun c12 => ?_)
                · omega
                ·
                  refine jx_aload_n d_Tp_add_26 1 rfl ?_
                  refine jx_get d_Tp_add_27 fF_Tp_9 ta (jm_rd_k (by decide) (jm_rd_a (jm_ne_oa ta tb) (jm_rd_k (by decide) (jm_rd_a (jm_ne_oa ta tb) (jm_rd_k (by decide) (jm_rd_a (jm_ne_oa ta tb) f0)))))) ?_
                  refine jx_aload_n d_Tp_add_30 1 rfl ?_
                  refine jx_get d_Tp_add_31 fF_Tp_15 ta (jm_rd_s _ _ _ _) ?_
                  refine jx_iload_n d_Tp_add_34 2 rfl ?_
                  refine jx_iload_n d_Tp_add_35 0 rfl ?_
                  refine jx_iushr d_Tp_add_36 ?_
                  refine jx_i2b d_Tp_add_37 ?_
                  refine jx_bast d_Tp_add_38 tb rfl (jm_vinN (by omega) (by decide)) ?_
                  rw [jm_putN (by omega)]
                  refine jx_aload_n d_Tp_add_39 1 rfl ?_
                  refine jx_dup d_Tp_add_40 rfl ?_
                  refine jx_get d_Tp_add_41 fF_Tp_15 ta (jm_rd_a (jm_ne_oa ta tb) (jm_rd_s _ _ _ _)) ?_
                  refine jx_iconst (v0 := 1) d_Tp_add_44 (by decide) ?_
                  refine jx_iadd d_Tp_add_45 ?_
                  refine jx_ati (nI_add ((((n) + (1)) + (1)) + (1)) (1)) ?_
                  refine jx_put (v0 := .int (nI (((((n) + (1)) + (1)) + (1)) + (1)))) d_Tp_add_46 fF_Tp_15 jv_Tp ft_Tp_length ta rfl rfl ?_
                  refine jx_iinc (v0 := -8) (lv' := [(2, .int ((-8))), (0, .ref (a)), (1, .int (w))]) d_Tp_add_49 0 rfl (by decide) (by decide) rfl ?_
                  refine jx_goto (tgt := 3) d_Tp_add_52 (by decide) ?_
                  refine jx_iload_n d_Tp_add_3 0 rfl ?_
                  refine jx_if_lt (tgt := 55) d_Tp_add_4 (by decide) (fun c9 => ?_) (fun c9 => absurd (by decide) c9)
                  exact jx_vret d_Tp_add_55 rfl (⟨rfl, by simp only [tp_add, q_byte, jm_bb]⟩)
/-- the name, when the tape is just a NAME; else 0 -/
def q_only (B : Nat → Int32) (n : Nat) (nm : Int64) (nu : Int32) : Int64 :=
  if (q_tok B n (q_skip B n (q_tok B n (q_skip B n 0) nm nu).2.1) (q_tok B n (q_skip B n 0) nm nu).2.2.1 (q_tok B n (q_skip B n 0) nm nu).2.2.2).1 = 0
  then (if (q_tok B n (q_skip B n 0) nm nu).1 = 2 then (q_tok B n (q_skip B n 0) nm nu).2.2.1 else 0) else 0
theorem q_tok_le (B : Nat → Int32) (n p : Nat) (nm : Int64) (nu : Int32) (h : p ≤ n) : p ≤ (q_tok B n p nm nu).2.1 ∧ (q_tok B n p nm nu).2.1 ≤ n := by
  have h1 := q_wloop_le B n p p 0 h
  have h2 := q_nloop_le B n p 0 h
  by_cases hp : p < n
  · unfold q_tok
    split
    · exact ⟨Nat.le_refl _, h⟩
    · split
      · exact h1
      · split
        · exact h2
        · exact ⟨Nat.le_succ _, hp⟩
  · have e : q_at B n p = -1 := by unfold q_at; rw [if_neg hp]
    unfold q_tok
    rw [if_pos e]
    exact ⟨Nat.le_refl _, h⟩
def tp_only (h : jm_H) (a n : Nat) (B : Nat → Int32) (nm : Int64) (nu : Int32) : jm_H := tp_tok (tp_tok (jm_put h a 2 (.int 0)) a n B 0 nm nu) a n B (q_tok B n (q_skip B n 0) nm nu).2.1 (q_tok B n (q_skip B n 0) nm nu).2.2.1 (q_tok B n (q_skip B n 0) nm nu).2.2.2
theorem TpA.tok {h : jm_H} {a b n p s : Nat} {K : Int32} {nm : Int64} {nu : Int32} {B : Nat → Int32} (hT : TpA h a b n p K s nm nu) : TpA (tp_tok h a n B p nm nu) a b n (q_tok B n (q_skip B n p) nm nu).2.1 (q_tok B n (q_skip B n p) nm nu).1 (q_skip B n p) (q_tok B n (q_skip B n p) nm nu).2.2.1 (q_tok B n (q_skip B n p) nm nu).2.2.2 := by
  obtain ⟨ta, f0, f1, f2, f3, f4, f5, f6, tb⟩ := hT
  refine ⟨ta, ?_, ?_, ?_, ?_, ?_, ?_, ?_, tb⟩ <;> simp [tp_tok, tp_set, jm_put, f0, f1]
theorem TpB.tok {h : jm_H} {a b n p s : Nat} {K : Int32} {nm : Int64} {nu : Int32} {B : Nat → Int32} (hT : TpA h a b n p K s nm nu) (hB : TpB h b B) : TpB (tp_tok h a n B p nm nu) b B := by
  have hne : b ≠ a := Ne.symm (jm_ne_oa hT.1 hT.2.2.2.2.2.2.2.2)
  intro j hj
  simp [tp_tok, tp_set, jm_put, hne, hB j hj]
set_option maxHeartbeats 4000000 in
set_option maxRecDepth 100000 in
theorem c_Tp_onlyName (l : Launch) (G : jm_G) (d : Nat) {h : jm_H} {a b n p s : Nat} {K : Int32} {nm : Int64} {nu : Int32} {B : Nat → Int32} (hT : TpA h a b n p K s nm nu) (hB : TpB h b B) (hn : n ≤ 2000) : jm_C l G mm_Tp_onlyName (d + 3) [.ref a] h (some (.long (q_only B n nm nu))) (tp_only h a n B nm nu) := by
  obtain ⟨ta, f0, f1, f2, f3, f4, f5, f6, tb⟩ := id hT
  have fB := hB
  have hT0 : TpA (jm_put h a 2 (.int 0)) a b n 0 K s nm nu := ⟨ta, jm_rd_k (by decide) f0, jm_rd_k (by decide) f1, jm_rd_s _ _ _ _, jm_rd_k (by decide) f3, jm_rd_k (by decide) f4, jm_rd_k (by decide) f5, jm_rd_k (by decide) f6, tb⟩
  have hB0 : TpB (jm_put h a 2 (.int 0)) b B := fun j hj => jm_rd_a (Ne.symm (jm_ne_oa ta tb)) (hB j hj)
  have hT1 := hT0.tok (B := B)
  have hB1 := TpB.tok hT0 hB0
  have hq1 := q_tok_le B n (q_skip B n 0) nm nu (q_skip_le B n 0 (Nat.zero_le _)).2
  have hT2 := hT1.tok (B := B)
  have hB2 := TpB.tok hT1 hB1
  refine jm_ofE (by decide) rfl (Nat.le_of_ble_eq_true rfl) ?_
  refine jx_aload_n d_Tp_onlyName_0 0 rfl ?_
  refine jx_callV (M2 := mm_Tp_rewind) rfl ta lk_Tp_35 wi_Tp_rewind ws_Tp_rewind d_Tp_onlyName_1 (c_Tp_rewind l G (d + 2) ⟨ta, f0, f1, f2, f3, f4, f5, f6, tb⟩ fB) cd_Tp_rewind rfl rfl (Nat.le_of_ble_eq_true rfl) (Nat.le_refl _) (jm_lok (by decide)) ?_
  refine jx_aload_n d_Tp_onlyName_4 0 rfl ?_
  refine jx_callV (M2 := mm_Tp_readToken) rfl ta lk_Tp_38 wi_Tp_readToken ws_Tp_readToken d_Tp_onlyName_5 (c_Tp_readToken l G d hT0 hB0 hn (Nat.zero_le _)) cd_Tp_readToken rfl rfl (Nat.le_of_ble_eq_true rfl) (Nat.le_refl _) (jm_lok (by decide)) ?_
  refine jx_aload_n d_Tp_onlyName_8 0 rfl ?_
  refine jx_get d_Tp_onlyName_9 fF_Tp_22 hT1.1 hT1.2.2.2.2.1 ?_
  refine jx_iconst (v0 := 2) d_Tp_onlyName_12 (by decide) ?_
  refine jx_icmp_ne (tgt := 23) d_Tp_onlyName_13 (by decide) (fun c1 => ?_) (fun c1 => ?_)
  ·
    refine jx_lconst (v0 := 0) d_Tp_onlyName_23 (by decide) ?_
    refine jx_lstore_n (lv' := [(1, .long (0)), (0, .ref (a))]) d_Tp_onlyName_24 (by decide) rfl ?_
    refine jx_aload_n d_Tp_onlyName_25 1 rfl ?_
    refine jx_callV (M2 := mm_Tp_readToken) rfl hT1.1 lk_Tp_38 wi_Tp_readToken ws_Tp_readToken d_Tp_onlyName_26 (c_Tp_readToken l G d hT1 hB1 hn hq1.2) cd_Tp_readToken rfl rfl (Nat.le_of_ble_eq_true rfl) (Nat.le_refl _) (jm_lok (by decide)) ?_
    refine jx_aload_n d_Tp_onlyName_29 1 rfl ?_
    refine jx_get d_Tp_onlyName_30 fF_Tp_22 hT2.1 hT2.2.2.2.2.1 ?_
    refine jx_if_ne (tgt := 40) d_Tp_onlyName_33 (by decide) (fun c2 => ?_) (fun c2 => ?_)
    ·
      refine jx_lconst (v0 := 0) d_Tp_onlyName_40 (by decide) ?_
      exact jx_lret d_Tp_onlyName_41 rfl (⟨by grind [q_only], rfl⟩)
    ·
      refine jx_lload_n d_Tp_onlyName_36 0 rfl ?_
      refine jx_goto (tgt := 41) d_Tp_onlyName_37 (by decide) ?_
      exact jx_lret d_Tp_onlyName_41 rfl (⟨by grind [q_only], rfl⟩)
  ·
    refine jx_aload_n d_Tp_onlyName_16 0 rfl ?_
    refine jx_get d_Tp_onlyName_17 fF_Tp_28 hT1.1 hT1.2.2.2.2.2.2.1 ?_
    refine jx_goto (tgt := 24) d_Tp_onlyName_20 (by decide) ?_
    refine jx_topl fun x3 ex3 => ?_
    refine jx_lstore_n (lv' := [(1, .long (x3)), (0, .ref (a))]) d_Tp_onlyName_24 (by decide) rfl ?_
    refine jx_aload_n d_Tp_onlyName_25 1 rfl ?_
    refine jx_callV (M2 := mm_Tp_readToken) rfl hT1.1 lk_Tp_38 wi_Tp_readToken ws_Tp_readToken d_Tp_onlyName_26 (c_Tp_readToken l G d hT1 hB1 hn hq1.2) cd_Tp_readToken rfl rfl (Nat.le_of_ble_eq_true rfl) (Nat.le_refl _) (jm_lok (by decide)) ?_
    refine jx_aload_n d_Tp_onlyName_29 1 rfl ?_
    refine jx_get d_Tp_onlyName_30 fF_Tp_22 hT2.1 hT2.2.2.2.2.1 ?_
    refine jx_if_ne (tgt := 40) d_Tp_onlyName_33 (by decide) (fun c4 => ?_) (fun c4 => ?_)
    ·
      refine jx_lconst (v0 := 0) d_Tp_onlyName_40 (by decide) ?_
      exact jx_lret d_Tp_onlyName_41 rfl (⟨by grind [q_only], rfl⟩)
    ·
      refine jx_lload_n d_Tp_onlyName_36 0 rfl ?_
      refine jx_goto (tgt := 41) d_Tp_onlyName_37 (by decide) ?_
      exact jx_lret d_Tp_onlyName_41 rfl (⟨by grind [q_only], rfl⟩)
end
section
/-- a Formula at f, its five arrays behind it: length L, names N -/
def FmA (h : jm_H) (f L N : Nat) : Prop := h.2.2.1 f = (jm_o 3, 7) ∧ h.2.2.2 f 0 = .ref (f + 1) ∧ h.2.2.2 f 1 = .ref (f + 2) ∧ h.2.2.2 f 2 = .int (nI L) ∧ h.2.2.2 f 3 = .ref (f + 3) ∧ h.2.2.2 f 4 = .ref (f + 4) ∧ h.2.2.2 f 5 = .ref (f + 5) ∧ h.2.2.2 f 6 = .int (nI N) ∧
  h.2.2.1 (f + 1) = (jm_a 1, 80) ∧ h.2.2.1 (f + 2) = (jm_a 1, 80) ∧ h.2.2.1 (f + 3) = (jm_a 2, 40) ∧ h.2.2.1 (f + 4) = (jm_a 1, 40) ∧ h.2.2.1 (f + 5) = (jm_a 2, 40)
/-- an array of ints, of longs, by its contents -/
def arI (h : jm_H) (b n : Nat) (F : Nat → Int32) : Prop := ∀ j, j < n → h.2.2.2 b j = .int (F j)
def arL (h : jm_H) (b n : Nat) (F : Nat → Int64) : Prop := ∀ j, j < n → h.2.2.2 b j = .long (F j)
def jm_up {α : Type} (F : Nat → α) (k : Nat) (v : α) : Nat → α := fun j => if j = k then v else F j
theorem arI.put {h : jm_H} {b n k : Nat} {F : Nat → Int32} {v : Int32} (p : arI h b n F) : arI (jm_put h b k (.int v)) b n (jm_up F k v) := by
  intro j hj
  simp only [jm_put, jm_up]
  by_cases e : j = k
  · simp [e]
  · simp [e, p j hj]
theorem arL.put {h : jm_H} {b n k : Nat} {F : Nat → Int64} {v : Int64} (p : arL h b n F) : arL (jm_put h b k (.long v)) b n (jm_up F k v) := by
  intro j hj
  simp only [jm_put, jm_up]
  by_cases e : j = k
  · simp [e]
  · simp [e, p j hj]
theorem arI.keep {h : jm_H} {a b n k : Nat} {F : Nat → Int32} {v : Value} (p : arI h b n F) (hb : b ≠ a) : arI (jm_put h a k v) b n F := fun j hj => jm_rd_a hb (p j hj)
theorem arL.keep {h : jm_H} {a b n k : Nat} {F : Nat → Int64} {v : Value} (p : arL h b n F) (hb : b ≠ a) : arL (jm_put h a k v) b n F := fun j hj => jm_rd_a hb (p j hj)
set_option maxHeartbeats 4000000 in
set_option maxRecDepth 100000 in
theorem c_Fm_clear (l : Launch) (G : jm_G) (d : Nat) {h : jm_H} {f L N : Nat} (hF : FmA h f L N) : jm_C l G mm_Fm_clear d [.ref f] h none (jm_put (jm_put h f 2 (.int 0)) f 6 (.int 0)) := by
  obtain ⟨tf, g0, g1, g2, g3, g4, g5, g6, t1, t2, t3, t4, t5⟩ := id hF
  refine jm_ofE (by decide) rfl (Nat.le_of_ble_eq_true rfl) ?_
  refine jx_aload_n d_Fm_clear_0 0 rfl ?_
  refine jx_iconst (v0 := 0) d_Fm_clear_1 (by decide) ?_
  refine jx_put (v0 := .int (0)) d_Fm_clear_2 fF_Fm_18 jv_Fm ft_Fm_length tf rfl rfl ?_
  refine jx_aload_n d_Fm_clear_5 0 rfl ?_
  refine jx_iconst (v0 := 0) d_Fm_clear_6 (by decide) ?_
  refine jx_put (v0 := .int (0)) d_Fm_clear_7 fF_Fm_32 jv_Fm ft_Fm_nameCount tf rfl rfl ?_
  exact jx_vret d_Fm_clear_10 rfl (⟨rfl, rfl⟩)
def fm_step (h : jm_H) (f L : Nat) (u v : Int32) : jm_H := jm_put (jm_put (jm_put h (f + 1) L (.int u)) (f + 2) L (.int v)) f 2 (.int (nI (L + 1)))
set_option maxHeartbeats 4000000 in
set_option maxRecDepth 100000 in
theorem c_Fm_addStep (l : Launch) (G : jm_G) (d : Nat) {h : jm_H} {f L N : Nat} {u v : Int32} (hF : FmA h f L N) (hL : L < 80) : jm_C l G mm_Fm_addStep d [.ref f, .int u, .int v] h none (fm_step h f L u v) := by
  obtain ⟨tf, g0, g1, g2, g3, g4, g5, g6, t1, t2, t3, t4, t5⟩ := id hF
  refine jm_ofE (by decide) rfl (Nat.le_of_ble_eq_true rfl) ?_
  refine jx_aload_n d_Fm_addStep_0 0 rfl ?_
  refine jx_get d_Fm_addStep_1 fF_Fm_18 tf g2 ?_
  refine jx_if_ltN (tgt := 61) (L) d_Fm_addStep_4 rfl (by omega) (by decide) (fun c1 => ?_) (fun c1 => ?_)
  · omega
  ·
    refine jx_aload_n d_Fm_addStep_7 0 rfl ?_
    refine jx_get d_Fm_addStep_8 fF_Fm_18 tf g2 ?_
    refine jx_aload_n d_Fm_addStep_11 0 rfl ?_
    refine jx_get d_Fm_addStep_12 fF_Fm_9 tf g0 ?_
    refine jx_alen (v0 := 80) d_Fm_addStep_15 t1 (by decide) ?_
    refine jx_icmp_geN (tgt := 61) (L) (80) d_Fm_addStep_16 rfl rfl (by omega) (by omega) (by decide) (fun c2 => ?_) (fun c2 => ?_)
    · omega
    ·
      refine jx_aload_n d_Fm_addStep_19 0 rfl ?_
      refine jx_get d_Fm_addStep_20 fF_Fm_18 tf g2 ?_
      refine jx_aload_n d_Fm_addStep_23 0 rfl ?_
      refine jx_get d_Fm_addStep_24 fF_Fm_15 tf g1 ?_
      refine jx_alen (v0 := 80) d_Fm_addStep_27 t2 (by decide) ?_
      refine jx_icmp_geN (tgt := 61) (L) (80) d_Fm_addStep_28 rfl rfl (by omega) (by omega) (by decide) (fun c3 => ?_) (fun c3 => ?_)
      · omega
      ·
        refine jx_aload_n d_Fm_addStep_31 0 rfl ?_
        refine jx_get d_Fm_addStep_32 fF_Fm_9 tf g0 ?_
        refine jx_aload_n d_Fm_addStep_35 0 rfl ?_
        refine jx_get d_Fm_addStep_36 fF_Fm_18 tf g2 ?_
        refine jx_iload_n d_Fm_addStep_39 1 rfl ?_
        refine jx_iast d_Fm_addStep_40 t1 rfl (jm_vinN (by omega) (by decide)) ?_
        rw [jm_putN (by omega)]
        refine jx_aload_n d_Fm_addStep_41 0 rfl ?_
        refine jx_get d_Fm_addStep_42 fF_Fm_15 tf (jm_rd_a (jm_ne_oa tf t1) g1) ?_
        refine jx_aload_n d_Fm_addStep_45 0 rfl ?_
        refine jx_get d_Fm_addStep_46 fF_Fm_18 tf (jm_rd_a (jm_ne_oa tf t1) g2) ?_
        refine jx_iload_n d_Fm_addStep_49 2 rfl ?_
        refine jx_iast d_Fm_addStep_50 t2 rfl (jm_vinN (by omega) (by decide)) ?_
        rw [jm_putN (by omega)]
        refine jx_aload_n d_Fm_addStep_51 0 rfl ?_
        refine jx_dup d_Fm_addStep_52 rfl ?_
        refine jx_get d_Fm_addStep_53 fF_Fm_18 tf (jm_rd_a (jm_ne_oa tf t2) (jm_rd_a (jm_ne_oa tf t1) g2)) ?_
        refine jx_iconst (v0 := 1) d_Fm_addStep_56 (by decide) ?_
        refine jx_iadd d_Fm_addStep_57 ?_
        refine jx_ati (nI_add (L) (1)) ?_
        refine jx_put (v0 := .int (nI ((L) + (1)))) d_Fm_addStep_58 fF_Fm_18 jv_Fm ft_Fm_length tf rfl rfl ?_
        exact jx_vret d_Fm_addStep_61 rfl (⟨rfl, rfl⟩)
set_option maxHeartbeats 4000000 in
set_option maxRecDepth 100000 in
theorem c_Fm_addStep_full (l : Launch) (G : jm_G) (d : Nat) {h : jm_H} {f L N : Nat} {u v : Int32} (hF : FmA h f L N) (hL : 80 ≤ L) (hL2 : L < 2 ^ 31) : jm_C l G mm_Fm_addStep d [.ref f, .int u, .int v] h none h := by
  obtain ⟨tf, g0, g1, g2, g3, g4, g5, g6, t1, t2, t3, t4, t5⟩ := id hF
  refine jm_ofE (by decide) rfl (Nat.le_of_ble_eq_true rfl) ?_
  refine jx_aload_n d_Fm_addStep_0 0 rfl ?_
  refine jx_get d_Fm_addStep_1 fF_Fm_18 tf g2 ?_
  refine jx_if_ltN (tgt := 61) (L) d_Fm_addStep_4 rfl (by omega) (by decide) (fun c1 => ?_) (fun c1 => ?_)
  · omega
  ·
    refine jx_aload_n d_Fm_addStep_7 0 rfl ?_
    refine jx_get d_Fm_addStep_8 fF_Fm_18 tf g2 ?_
    refine jx_aload_n d_Fm_addStep_11 0 rfl ?_
    refine jx_get d_Fm_addStep_12 fF_Fm_9 tf g0 ?_
    refine jx_alen (v0 := 80) d_Fm_addStep_15 t1 (by decide) ?_
    refine jx_icmp_geN (tgt := 61) (L) (80) d_Fm_addStep_16 rfl rfl (by omega) (by omega) (by decide) (fun c2 => ?_) (fun c2 => ?_)
    ·
      exact jx_vret d_Fm_addStep_61 rfl (⟨rfl, rfl⟩)
    · omega
def fm_name (h : jm_H) (f L N : Nat) (u : Int64) : jm_H := jm_put (fm_step (jm_put h (f + 3) N (.long u)) f L 2 (nI N)) f 6 (.int (nI (N + 1)))
set_option maxHeartbeats 4000000 in
set_option maxRecDepth 100000 in
theorem c_Fm_addName (l : Launch) (G : jm_G) (d : Nat) {h : jm_H} {f L N : Nat} {u : Int64} (hF : FmA h f L N) (hL : L < 80) (hN : N < 40) : jm_C l G mm_Fm_addName (d + 1) [.ref f, .long u] h none (fm_name h f L N u) := by
  obtain ⟨tf, g0, g1, g2, g3, g4, g5, g6, t1, t2, t3, t4, t5⟩ := id hF
  refine jm_ofE (by decide) rfl (Nat.le_of_ble_eq_true rfl) ?_
  refine jx_aload_n d_Fm_addName_0 0 rfl ?_
  refine jx_get d_Fm_addName_1 fF_Fm_32 tf g6 ?_
  refine jx_if_ltN (tgt := 48) (N) d_Fm_addName_4 rfl (by omega) (by decide) (fun c1 => ?_) (fun c1 => ?_)
  · omega
  ·
    refine jx_aload_n d_Fm_addName_7 0 rfl ?_
    refine jx_get d_Fm_addName_8 fF_Fm_32 tf g6 ?_
    refine jx_aload_n d_Fm_addName_11 0 rfl ?_
    refine jx_get d_Fm_addName_12 fF_Fm_22 tf g3 ?_
    refine jx_alen (v0 := 40) d_Fm_addName_15 t3 (by decide) ?_
    refine jx_icmp_geN (tgt := 48) (N) (40) d_Fm_addName_16 rfl rfl (by omega) (by omega) (by decide) (fun c2 => ?_) (fun c2 => ?_)
    · omega
    ·
      refine jx_aload_n d_Fm_addName_19 0 rfl ?_
      refine jx_get d_Fm_addName_20 fF_Fm_22 tf g3 ?_
      refine jx_aload_n d_Fm_addName_23 0 rfl ?_
      refine jx_get d_Fm_addName_24 fF_Fm_32 tf g6 ?_
      refine jx_lload_n d_Fm_addName_27 1 rfl ?_
      refine jx_last d_Fm_addName_28 t3 rfl (jm_vinN (by omega) (by decide)) ?_
      rw [jm_putN (by omega)]
      refine jx_aload_n d_Fm_addName_29 0 rfl ?_
      refine jx_iconst (v0 := 2) d_Fm_addName_30 (by decide) ?_
      refine jx_aload_n d_Fm_addName_31 0 rfl ?_
      refine jx_get d_Fm_addName_32 fF_Fm_32 tf (jm_rd_a (jm_ne_oa tf t3) g6) ?_
      refine jx_callV (M2 := mm_Fm_addStep) rfl tf lk_Fm_35 wi_Fm_addStep ws_Fm_addStep d_Fm_addName_35 (c_Fm_addStep l G d ⟨tf, (jm_rd_a (jm_ne_oa tf t3) g0), (jm_rd_a (jm_ne_oa tf t3) g1), (jm_rd_a (jm_ne_oa tf t3) g2), (jm_rd_a (jm_ne_oa tf t3) g3), (jm_rd_a (jm_ne_oa tf t3) g4), (jm_rd_a (jm_ne_oa tf t3) g5), (jm_rd_a (jm_ne_oa tf t3) g6), t1, t2, t3, t4, t5⟩ (by omega)) cd_Fm_addStep rfl rfl (Nat.le_of_ble_eq_true rfl) (Nat.le_refl _) (jm_lok (by decide)) ?_
      refine jx_aload_n d_Fm_addName_38 0 rfl ?_
      refine jx_dup d_Fm_addName_39 rfl ?_
      refine jx_get d_Fm_addName_40 fF_Fm_32 tf (jm_rd_k (by decide) (jm_rd_a (jm_ne_oa tf t2) (jm_rd_a (jm_ne_oa tf t1) (jm_rd_a (jm_ne_oa tf t3) g6)))) ?_
      refine jx_iconst (v0 := 1) d_Fm_addName_43 (by decide) ?_
      refine jx_iadd d_Fm_addName_44 ?_
      refine jx_ati (nI_add (N) (1)) ?_
      refine jx_put (v0 := .int (nI ((N) + (1)))) d_Fm_addName_45 fF_Fm_32 jv_Fm ft_Fm_nameCount tf rfl rfl ?_
      exact jx_vret d_Fm_addName_48 rfl (⟨rfl, rfl⟩)
set_option maxHeartbeats 4000000 in
set_option maxRecDepth 100000 in
theorem c_Fm_addName_full (l : Launch) (G : jm_G) (d : Nat) {h : jm_H} {f L N : Nat} {u : Int64} (hF : FmA h f L N) (hN : 40 ≤ N) (hN2 : N < 2 ^ 31) : jm_C l G mm_Fm_addName d [.ref f, .long u] h none h := by
  obtain ⟨tf, g0, g1, g2, g3, g4, g5, g6, t1, t2, t3, t4, t5⟩ := id hF
  refine jm_ofE (by decide) rfl (Nat.le_of_ble_eq_true rfl) ?_
  refine jx_aload_n d_Fm_addName_0 0 rfl ?_
  refine jx_get d_Fm_addName_1 fF_Fm_32 tf g6 ?_
  refine jx_if_ltN (tgt := 48) (N) d_Fm_addName_4 rfl (by omega) (by decide) (fun c1 => ?_) (fun c1 => ?_)
  · omega
  ·
    refine jx_aload_n d_Fm_addName_7 0 rfl ?_
    refine jx_get d_Fm_addName_8 fF_Fm_32 tf g6 ?_
    refine jx_aload_n d_Fm_addName_11 0 rfl ?_
    refine jx_get d_Fm_addName_12 fF_Fm_22 tf g3 ?_
    refine jx_alen (v0 := 40) d_Fm_addName_15 t3 (by decide) ?_
    refine jx_icmp_geN (tgt := 48) (N) (40) d_Fm_addName_16 rfl rfl (by omega) (by omega) (by decide) (fun c2 => ?_) (fun c2 => ?_)
    ·
      exact jx_vret d_Fm_addName_48 rfl (⟨rfl, rfl⟩)
    · omega
set_option maxHeartbeats 4000000 in
set_option maxRecDepth 100000 in
theorem c_Fm_addName_fullS (l : Launch) (G : jm_G) (d : Nat) {h : jm_H} {f L N : Nat} {u : Int64} (hF : FmA h f L N) (hL : 80 ≤ L) (hL2 : L < 2 ^ 31) (hN : N < 40) : jm_C l G mm_Fm_addName (d + 1) [.ref f, .long u] h none (jm_put (jm_put h (f + 3) N (.long u)) f 6 (.int (nI (N + 1)))) := by
  obtain ⟨tf, g0, g1, g2, g3, g4, g5, g6, t1, t2, t3, t4, t5⟩ := id hF
  refine jm_ofE (by decide) rfl (Nat.le_of_ble_eq_true rfl) ?_
  refine jx_aload_n d_Fm_addName_0 0 rfl ?_
  refine jx_get d_Fm_addName_1 fF_Fm_32 tf g6 ?_
  refine jx_if_ltN (tgt := 48) (N) d_Fm_addName_4 rfl (by omega) (by decide) (fun c1 => ?_) (fun c1 => ?_)
  · omega
  ·
    refine jx_aload_n d_Fm_addName_7 0 rfl ?_
    refine jx_get d_Fm_addName_8 fF_Fm_32 tf g6 ?_
    refine jx_aload_n d_Fm_addName_11 0 rfl ?_
    refine jx_get d_Fm_addName_12 fF_Fm_22 tf g3 ?_
    refine jx_alen (v0 := 40) d_Fm_addName_15 t3 (by decide) ?_
    refine jx_icmp_geN (tgt := 48) (N) (40) d_Fm_addName_16 rfl rfl (by omega) (by omega) (by decide) (fun c2 => ?_) (fun c2 => ?_)
    · omega
    ·
      refine jx_aload_n d_Fm_addName_19 0 rfl ?_
      refine jx_get d_Fm_addName_20 fF_Fm_22 tf g3 ?_
      refine jx_aload_n d_Fm_addName_23 0 rfl ?_
      refine jx_get d_Fm_addName_24 fF_Fm_32 tf g6 ?_
      refine jx_lload_n d_Fm_addName_27 1 rfl ?_
      refine jx_last d_Fm_addName_28 t3 rfl (jm_vinN (by omega) (by decide)) ?_
      rw [jm_putN (by omega)]
      refine jx_aload_n d_Fm_addName_29 0 rfl ?_
      refine jx_iconst (v0 := 2) d_Fm_addName_30 (by decide) ?_
      refine jx_aload_n d_Fm_addName_31 0 rfl ?_
      refine jx_get d_Fm_addName_32 fF_Fm_32 tf (jm_rd_a (jm_ne_oa tf t3) g6) ?_
      refine jx_callV (M2 := mm_Fm_addStep) rfl tf lk_Fm_35 wi_Fm_addStep ws_Fm_addStep d_Fm_addName_35 (c_Fm_addStep_full l G d ⟨tf, (jm_rd_a (jm_ne_oa tf t3) g0), (jm_rd_a (jm_ne_oa tf t3) g1), (jm_rd_a (jm_ne_oa tf t3) g2), (jm_rd_a (jm_ne_oa tf t3) g3), (jm_rd_a (jm_ne_oa tf t3) g4), (jm_rd_a (jm_ne_oa tf t3) g5), (jm_rd_a (jm_ne_oa tf t3) g6), t1, t2, t3, t4, t5⟩ (by omega) (by omega)) cd_Fm_addStep rfl rfl (Nat.le_of_ble_eq_true rfl) (Nat.le_refl _) (jm_lok (by decide)) ?_
      refine jx_aload_n d_Fm_addName_38 0 rfl ?_
      refine jx_dup d_Fm_addName_39 rfl ?_
      refine jx_get d_Fm_addName_40 fF_Fm_32 tf (jm_rd_a (jm_ne_oa tf t3) g6) ?_
      refine jx_iconst (v0 := 1) d_Fm_addName_43 (by decide) ?_
      refine jx_iadd d_Fm_addName_44 ?_
      refine jx_ati (nI_add (N) (1)) ?_
      refine jx_put (v0 := .int (nI ((N) + (1)))) d_Fm_addName_45 fF_Fm_32 jv_Fm ft_Fm_nameCount tf rfl rfl ?_
      exact jx_vret d_Fm_addName_48 rfl (⟨rfl, rfl⟩)
set_option maxHeartbeats 4000000 in
set_option maxRecDepth 100000 in
theorem c_Fm_aimHere (l : Launch) (G : jm_G) (d : Nat) {h : jm_H} {f L N i : Nat} (hF : FmA h f L N) (hi : i < L) (hL : L ≤ 80) : jm_C l G mm_Fm_aimHere d [.ref f, .int (nI i)] h none (jm_put h (f + 2) i (.int (nI L))) := by
  obtain ⟨tf, g0, g1, g2, g3, g4, g5, g6, t1, t2, t3, t4, t5⟩ := id hF
  refine jm_ofE (by decide) rfl (Nat.le_of_ble_eq_true rfl) ?_
  refine jx_iload_n d_Fm_aimHere_0 1 rfl ?_
  refine jx_if_ltN (tgt := 31) (i) d_Fm_aimHere_1 rfl (by omega) (by decide) (fun c1 => ?_) (fun c1 => ?_)
  · omega
  ·
    refine jx_iload_n d_Fm_aimHere_4 1 rfl ?_
    refine jx_aload_n d_Fm_aimHere_5 0 rfl ?_
    refine jx_get d_Fm_aimHere_6 fF_Fm_18 tf g2 ?_
    refine jx_icmp_geN (tgt := 31) (i) (L) d_Fm_aimHere_9 rfl rfl (by omega) (by omega) (by decide) (fun c2 => ?_) (fun c2 => ?_)
    · omega
    ·
      refine jx_iload_n d_Fm_aimHere_12 1 rfl ?_
      refine jx_aload_n d_Fm_aimHere_13 0 rfl ?_
      refine jx_get d_Fm_aimHere_14 fF_Fm_15 tf g1 ?_
      refine jx_alen (v0 := 80) d_Fm_aimHere_17 t2 (by decide) ?_
      refine jx_icmp_geN (tgt := 31) (i) (80) d_Fm_aimHere_18 rfl rfl (by omega) (by omega) (by decide) (fun c3 => ?_) (fun c3 => ?_)
      · omega
      ·
        refine jx_aload_n d_Fm_aimHere_21 0 rfl ?_
        refine jx_get d_Fm_aimHere_22 fF_Fm_15 tf g1 ?_
        refine jx_iload_n d_Fm_aimHere_25 1 rfl ?_
        refine jx_aload_n d_Fm_aimHere_26 0 rfl ?_
        refine jx_get d_Fm_aimHere_27 fF_Fm_18 tf g2 ?_
        refine jx_iast d_Fm_aimHere_30 t2 rfl (jm_vinN (by omega) (by decide)) ?_
        rw [jm_putN (by omega)]
        exact jx_vret d_Fm_aimHere_31 rfl (⟨rfl, rfl⟩)
set_option maxHeartbeats 4000000 in
set_option maxRecDepth 100000 in
theorem lp_Fm_mentions (l : Launch) (G : jm_G) {h : jm_H} {f L N : Nat} {u : Int64} {NA : Nat → Int64} {n0 s0 d : Nat} {Post : jm_r → jm_H → Prop} (hF : FmA h f L N) (hA : arL h (f + 3) 40 NA) (hN : N ≤ 40)
    (k1 : ∀ i, i < N → NA i = u → Post (.inl (some (.int 1))) h) (k2 : (∀ i, i < N → NA i ≠ u) → Post (.inl (some (.int 0))) h) (m : Nat) : ∀ i, N - i < m → i ≤ N → (∀ j, j < i → NA j ≠ u) → jm_X l G mm_Fm_mentions n0 s0 (jm_zn G (d) n0 s0) Post 2 [(3, .int (nI i)), (0, .ref f), (1, .long u)] [] h := by
  obtain ⟨tf, g0, g1, g2, g3, g4, g5, g6, t1, t2, t3, t4, t5⟩ := id hF
  induction m with
  | zero => intro i hm; omega
  | succ m ih =>
    intro i hm hiN hno
    refine jx_iload_n d_Fm_mentions_2 0 rfl ?_
    refine jx_aload_n d_Fm_mentions_3 1 rfl ?_
    refine jx_get d_Fm_mentions_4 fF_Fm_32 tf g6 ?_
    refine jx_icmp_geN (tgt := 29) (i) (N) d_Fm_mentions_7 rfl rfl (by omega) (by omega) (by decide) (fun c1 => ?_) (fun c1 => ?_)
    ·
      refine jx_iconst (v0 := 0) d_Fm_mentions_29 (by decide) ?_
      exact jx_zret d_Fm_mentions_30 rfl (by first | rfl | decide) (k2 (fun j hj => hno j (by omega)))
    ·
      refine jx_aload_n d_Fm_mentions_10 1 rfl ?_
      refine jx_get d_Fm_mentions_11 fF_Fm_22 tf g3 ?_
      refine jx_iload_n d_Fm_mentions_14 0 rfl ?_
      refine jx_lald d_Fm_mentions_15 t3 rfl (jm_vinN (by omega) (by decide)) (jm_atN (by omega) (hA _ (by omega))) ?_
      refine jx_lload_n d_Fm_mentions_16 2 rfl ?_
      refine jx_lcmp d_Fm_mentions_17 ?_
      refine jx_if_ne (tgt := 23) d_Fm_mentions_18 (by decide) (fun c2 => ?_) (fun c2 => ?_)
      ·
        refine jx_iinc (v0 := nI (i + 1)) (lv' := [(3, .int (nI (i + 1))), (0, .ref (f)), (1, .long (u))]) d_Fm_mentions_23 0 rfl (nI_add _ 1) (by decide) rfl ?_
        refine jx_goto (tgt := 2) d_Fm_mentions_26 (by decide) ?_
        exact ih (i + 1) (by omega) (by omega) (fun j hj => by grind [lg_cmp0])
      ·
        refine jx_iconst (v0 := 1) d_Fm_mentions_21 (by decide) ?_
        exact jx_zret d_Fm_mentions_22 rfl (by first | rfl | decide) (k1 i (by omega) (by grind [lg_cmp0]))
noncomputable def q_ment (NA : Nat → Int64) (N : Nat) (u : Int64) : Bool := decide (∃ i, i < N ∧ NA i = u)
set_option maxHeartbeats 4000000 in
set_option maxRecDepth 100000 in
theorem c_Fm_mentions (l : Launch) (G : jm_G) (d : Nat) {h : jm_H} {f L N : Nat} {u : Int64} {NA : Nat → Int64} (hF : FmA h f L N) (hA : arL h (f + 3) 40 NA) (hN : N ≤ 40) : jm_C l G mm_Fm_mentions d [.ref f, .long u] h (some (.int (jb (q_ment NA N u)))) h := by
  obtain ⟨tf, g0, g1, g2, g3, g4, g5, g6, t1, t2, t3, t4, t5⟩ := id hF
  unfold q_ment
  refine jm_ofE (by decide) rfl (Nat.le_of_ble_eq_true rfl) ?_
  refine jx_iconst (v0 := 0) d_Fm_mentions_0 (by decide) ?_
  refine jx_istore_n (lv' := [(3, .int (0)), (0, .ref (f)), (1, .long (u))]) d_Fm_mentions_1 (by decide) rfl ?_
  exact lp_Fm_mentions l G hF hA hN (fun i hi e => ⟨by rw [jb, if_pos (decide_eq_true ⟨i, hi, e⟩)], rfl⟩) (fun e => ⟨by rw [jb, if_neg (by simpa using e)], rfl⟩) (N + 1) 0 (by omega) (by omega) (fun j hj => by omega)
end
section
/-! the pure parser: what a definition's formula is, or its first fault -/
/-- the token that was read: kind, where it begins, where it ends, name, number -/
abbrev Cur : Type := Int32 × Nat × Nat × Int64 × Int32
def cu_adv (B : Nat → Int32) (n : Nat) (c : Cur) : Cur := ((q_tok B n (q_skip B n c.2.2.1) c.2.2.2.1 c.2.2.2.2).1, q_skip B n c.2.2.1, (q_tok B n (q_skip B n c.2.2.1) c.2.2.2.1 c.2.2.2.2).2.1, (q_tok B n (q_skip B n c.2.2.1) c.2.2.2.1 c.2.2.2.2).2.2.1, (q_tok B n (q_skip B n c.2.2.1) c.2.2.2.1 c.2.2.2.2).2.2.2)
abbrev Flt : Type := Int32 × Nat
abbrev PR : Type := Flt ⊕ (Term × Cur × Nat)
def p_pass (B : Nat → Int32) (n : Nat) (c : Cur) : Flt ⊕ Cur := if (cu_adv B n c).1 = 1 then .inl (1, (cu_adv B n c).2.1) else .inr (cu_adv B n c)
def p_exp (B : Nat → Int32) (n : Nat) (K : Int32) (c : Cur) : Flt ⊕ Cur := if c.1 = K then p_pass B n c else .inl (2, c.2.1)
def p_node (B : Nat → Int32) (n : Nat) (c : Cur) (k : Nat) : Flt ⊕ Cur := if k < 40 then p_pass B n c else .inl (3, c.2.1)
def p_open (B : Nat → Int32) (n : Nat) (dp : Nat) (c : Cur) : Flt ⊕ Cur := if c.1 = 40 then (if dp < 20 then p_pass B n c else .inl (3, c.2.1)) else .inl (2, c.2.1)
/-- on with the token, or the fault -/
def sb (x : Flt ⊕ Cur) (res : PR) (K : Cur → Prop) : Prop := match x with
  | .inl e => res = .inl e
  | .inr c => K c
/-- on with what was read, or the fault -/
def pb (P : PR → Prop) (res : PR) (K : Term → Cur → Nat → Prop) : Prop := ∃ x, P x ∧ match x with
  | .inl e => res = .inl e
  | .inr y => K y.1 y.2.1 y.2.2
theorem sb_mono {x : Flt ⊕ Cur} {res : PR} {K K' : Cur → Prop} (h : ∀ c, K c → K' c) : sb x res K → sb x res K' := by
  unfold sb
  cases x with
  | inl e => exact id
  | inr c => exact h c
theorem pb_mono {P P' : PR → Prop} {res : PR} {K K' : Term → Cur → Nat → Prop} (hP : ∀ x, P x → P' x) (h : ∀ t c k, K t c k → K' t c k) : pb P res K → pb P' res K' := by
  rintro ⟨x, h1, h2⟩
  refine ⟨x, hP x h1, ?_⟩
  cases x with
  | inl e => exact h2
  | inr y => exact h _ _ _ h2
abbrev RdP : Type := Nat → Nat → Term → Cur → Nat → PR → Prop
/-- one step of the parser over P. Modes: 0 a SUM, 2 what follows in a SUM, 1 a PRODUCT, 3 what follows in a PRODUCT, 4 a PART -/
def Rd2 (B : Nat → Int32) (n : Nat) (P : RdP) (dp : Nat) (acc : Term) (c : Cur) (k : Nat) (res : PR) : Prop := sb (p_node B n c k) res fun c1 => pb (P 1 dp .null c1 (k + 1)) res fun t c2 k2 => P 2 dp (if c.1 = 43 then .add acc t else .sub acc t) c2 k2 res
def Rd3 (B : Nat → Int32) (n : Nat) (P : RdP) (dp : Nat) (acc : Term) (c : Cur) (k : Nat) (res : PR) : Prop := sb (p_node B n c k) res fun c1 => pb (P 4 dp .null c1 (k + 1)) res fun t c2 k2 => P 3 dp (if c.1 = 42 then .mul acc t else .div acc t) c2 k2 res
def Rdl (B : Nat → Int32) (n : Nat) (t : Term) (c : Cur) (k : Nat) (res : PR) : Prop := sb (p_node B n c k) res fun c1 => res = .inr (t, c1, k + 1)
def Rdn (B : Nat → Int32) (n : Nat) (P : RdP) (dp : Nat) (c : Cur) (k : Nat) (res : PR) : Prop := sb (p_node B n c k) res fun c1 => pb (P 4 (dp + 1) .null c1 (k + 1)) res fun t c2 k2 => res = .inr (.length t, c2, k2)
def Rdp (B : Nat → Int32) (n : Nat) (P : RdP) (dp : Nat) (c : Cur) (k : Nat) (res : PR) : Prop := sb (p_open B n dp c) res fun c1 => pb (P 0 (dp + 1) .null c1 k) res fun t c2 k2 => sb (p_exp B n 41 c2) res fun c3 => res = .inr (t, c3, k2)
def Rdm (B : Nat → Int32) (n : Nat) (P : RdP) (dp : Nat) (c : Cur) (k : Nat) (res : PR) : Prop := sb (p_node B n c k) res fun c1 => sb (p_open B n dp c1) res fun c2 => pb (P 0 (dp + 1) .null c2 (k + 1)) res fun t1 c3 k3 => sb (p_exp B n 44 c3) res fun c4 => pb (P 0 (dp + 1) .null c4 k3) res fun t2 c5 k5 => sb (p_exp B n 41 c5) res fun c6 => res = .inr (if c.1 = 4 then .rem t1 t2 else .op2 .iand t1 t2, c6, k5)
def Rdi (B : Nat → Int32) (n : Nat) (P : RdP) (dp : Nat) (c : Cur) (k : Nat) (res : PR) : Prop := sb (p_node B n c k) res fun c1 => sb (p_open B n dp c1) res fun c2 => pb (P 0 (dp + 1) .null c2 (k + 1)) res fun t1 c3 k3 => sb (p_exp B n 44 c3) res fun c4 => pb (P 0 (dp + 1) .null c4 k3) res fun t2 c5 k5 => sb (p_exp B n 44 c5) res fun c6 => pb (P 0 (dp + 1) .null c6 k5) res fun t3 c7 k7 => sb (p_exp B n 41 c7) res fun c8 => res = .inr (.old (.add t1 (.add t2 t3)), c8, k7)
def Rd4 (B : Nat → Int32) (n : Nat) (P : RdP) (dp : Nat) (c : Cur) (k : Nat) (res : PR) : Prop :=
  if c.1 = 3 then Rdl B n (.long c.2.2.2.2.toInt64) c k res
  else if c.1 = 2 then Rdl B n (.elem (.long c.2.2.2.1) (.index c.2.1)) c k res
  else if c.1 = 45 then (if dp < 20 then Rdn B n P dp c k res else res = .inl (3, c.2.1))
  else if c.1 = 40 then Rdp B n P dp c k res
  else if c.1 = 4 ∨ c.1 = 5 then Rdm B n P dp c k res
  else if c.1 = 6 then Rdi B n P dp c k res
  else res = .inl (2, c.2.1)
def RdF (B : Nat → Int32) (n : Nat) (P : RdP) : RdP := fun m dp acc c k res => match m with
  | 0 => pb (P 1 dp .null c k) res fun t c1 k1 => P 2 dp t c1 k1 res
  | 1 => pb (P 4 dp .null c k) res fun t c1 k1 => P 3 dp t c1 k1 res
  | 2 => if c.1 = 43 ∨ c.1 = 45 then Rd2 B n P dp acc c k res else res = .inr (acc, c, k)
  | 3 => if c.1 = 42 ∨ c.1 = 47 then Rd3 B n P dp acc c k res else res = .inr (acc, c, k)
  | _ => Rd4 B n P dp c k res
theorem Rd4_mono {B : Nat → Int32} {n : Nat} {P Q : RdP} (h : ∀ m dp acc c k res, P m dp acc c k res → Q m dp acc c k res) (dp : Nat) (c : Cur) (k : Nat) (res : PR) : Rd4 B n P dp c k res → Rd4 B n Q dp c k res := by
  unfold Rd4
  split
  · exact id
  · split
    · exact id
    · split
      · split
        · exact sb_mono fun c1 => pb_mono (h _ _ _ _ _) fun t c2 k2 => id
        · exact id
      · split
        · exact sb_mono fun c1 => pb_mono (h _ _ _ _ _) fun t c2 k2 => id
        · split
          · exact sb_mono fun c1 => sb_mono fun c2 => pb_mono (h _ _ _ _ _) fun t c3 k3 => sb_mono fun c4 => pb_mono (h _ _ _ _ _) fun t2 c5 k5 => id
          · split
            · exact sb_mono fun c1 => sb_mono fun c2 => pb_mono (h _ _ _ _ _) fun t c3 k3 => sb_mono fun c4 => pb_mono (h _ _ _ _ _) fun t2 c5 k5 => sb_mono fun c6 => pb_mono (h _ _ _ _ _) fun t3 c7 k7 => id
            · exact id
theorem RdF_mono {B : Nat → Int32} {n : Nat} {P Q : RdP} (h : ∀ m dp acc c k res, P m dp acc c k res → Q m dp acc c k res) : ∀ m dp acc c k res, RdF B n P m dp acc c k res → RdF B n Q m dp acc c k res := by
  intro m dp acc c k res
  match m with
  | 0 =>
    show (pb (P 1 dp .null c k) res fun t c1 k1 => P 2 dp t c1 k1 res) → (pb (Q 1 dp .null c k) res fun t c1 k1 => Q 2 dp t c1 k1 res)
    exact pb_mono (h _ _ _ _ _) fun t c1 k1 => h _ _ _ _ _ _
  | 1 =>
    show (pb (P 4 dp .null c k) res fun t c1 k1 => P 3 dp t c1 k1 res) → (pb (Q 4 dp .null c k) res fun t c1 k1 => Q 3 dp t c1 k1 res)
    exact pb_mono (h _ _ _ _ _) fun t c1 k1 => h _ _ _ _ _ _
  | 2 =>
    show (if c.1 = 43 ∨ c.1 = 45 then Rd2 B n P dp acc c k res else _) → (if c.1 = 43 ∨ c.1 = 45 then Rd2 B n Q dp acc c k res else _)
    split
    · exact sb_mono fun c1 => pb_mono (h _ _ _ _ _) fun t c2 k2 => h _ _ _ _ _ _
    · exact id
  | 3 =>
    show (if c.1 = 42 ∨ c.1 = 47 then Rd3 B n P dp acc c k res else _) → (if c.1 = 42 ∨ c.1 = 47 then Rd3 B n Q dp acc c k res else _)
    split
    · exact sb_mono fun c1 => pb_mono (h _ _ _ _ _) fun t c2 k2 => h _ _ _ _ _ _
    · exact id
  | m + 4 => exact Rd4_mono h dp c k res
/-- the least relation that the step keeps -/
def Rd (B : Nat → Int32) (n : Nat) : RdP := fun m dp acc c k res => ∀ P : RdP, (∀ m dp acc c k res, RdF B n P m dp acc c k res → P m dp acc c k res) → P m dp acc c k res
theorem Rd.intro {B : Nat → Int32} {n m dp : Nat} {acc : Term} {c : Cur} {k : Nat} {res : PR} (h : RdF B n (Rd B n) m dp acc c k res) : Rd B n m dp acc c k res := fun P hP => hP _ _ _ _ _ _ (RdF_mono (fun _ _ _ _ _ _ q => q P hP) _ _ _ _ _ _ h)
theorem Rd.induct {B : Nat → Int32} {n : Nat} (P : RdP) (hP : ∀ m dp acc c k res, RdF B n P m dp acc c k res → P m dp acc c k res) {m dp : Nat} {acc : Term} {c : Cur} {k : Nat} {res : PR} (h : Rd B n m dp acc c k res) : P m dp acc c k res := h P hP
theorem sb_l {x : Flt ⊕ Cur} {e : Flt} {K : Cur → Prop} (h : x = .inl e) : sb x (.inl e) K := by rw [h]; rfl
theorem sb_r {x : Flt ⊕ Cur} {res : PR} {c : Cur} {K : Cur → Prop} (h : x = .inr c) (k : K c) : sb x res K := by rw [h]; exact k
theorem pb_l {P : PR → Prop} {e : Flt} {K : Term → Cur → Nat → Prop} (h : P (.inl e)) : pb P (.inl e) K := ⟨_, h, rfl⟩
theorem pb_r {P : PR → Prop} {res : PR} {t : Term} {c : Cur} {k : Nat} {K : Term → Cur → Nat → Prop} (h : P (.inr (t, c, k))) (q : K t c k) : pb P res K := ⟨_, h, q⟩
/-- the steps from L to L' and the names from N to N' are the tree's -/
def Code (ST DT : Nat → Int32) (NA : Nat → Int64) (PL : Nat → Int32) : Term → Nat → Nat → Nat → Nat → Prop
  | .long v, L, N, L', N' => ST L = 3 ∧ (DT L).toInt64 = v ∧ L' = L + 1 ∧ N' = N
  | .elem (.long u) (.index p), L, N, L', N' => ST L = 2 ∧ DT L = nI N ∧ NA N = u ∧ PL N = nI p ∧ L' = L + 1 ∧ N' = N + 1
  | .length t, L, N, L', N' => ∃ L1, Code ST DT NA PL t L N L1 N' ∧ ST L1 = 7 ∧ L' = L1 + 1
  | .add a b, L, N, L', N' => ∃ L1 N1 L2, Code ST DT NA PL a L N L1 N1 ∧ Code ST DT NA PL b L1 N1 L2 N' ∧ ST L2 = 43 ∧ L' = L2 + 1
  | .sub a b, L, N, L', N' => ∃ L1 N1 L2, Code ST DT NA PL a L N L1 N1 ∧ Code ST DT NA PL b L1 N1 L2 N' ∧ ST L2 = 45 ∧ L' = L2 + 1
  | .mul a b, L, N, L', N' => ∃ L1 N1 L2, Code ST DT NA PL a L N L1 N1 ∧ Code ST DT NA PL b L1 N1 L2 N' ∧ ST L2 = 42 ∧ L' = L2 + 1
  | .div a b, L, N, L', N' => ∃ L1 N1 L2, Code ST DT NA PL a L N L1 N1 ∧ Code ST DT NA PL b L1 N1 L2 N' ∧ ST L2 = 47 ∧ L' = L2 + 1
  | .rem a b, L, N, L', N' => ∃ L1 N1 L2, Code ST DT NA PL a L N L1 N1 ∧ Code ST DT NA PL b L1 N1 L2 N' ∧ ST L2 = 4 ∧ L' = L2 + 1
  | .op2 _ a b, L, N, L', N' => ∃ L1 N1 L2, Code ST DT NA PL a L N L1 N1 ∧ Code ST DT NA PL b L1 N1 L2 N' ∧ ST L2 = 5 ∧ L' = L2 + 1
  | .old (.add a (.add b c)), L, N, L', N' => ∃ L1 N1 L2 N2, Code ST DT NA PL a L N L1 N1 ∧ ST L1 = 8 ∧ DT L1 = nI (L2 + 1) ∧ Code ST DT NA PL b (L1 + 1) N1 L2 N2 ∧ ST L2 = 9 ∧ DT L2 = nI L' ∧ Code ST DT NA PL c (L2 + 1) N2 L' N'
  | _, _, _, _, _ => False
/-- trees that stand for formulas -/
def Tree : Term → Prop
  | .long _ => True
  | .elem (.long _) (.index _) => True
  | .length t => Tree t
  | .add a b => Tree a ∧ Tree b
  | .sub a b => Tree a ∧ Tree b
  | .mul a b => Tree a ∧ Tree b
  | .div a b => Tree a ∧ Tree b
  | .rem a b => Tree a ∧ Tree b
  | .op2 _ a b => Tree a ∧ Tree b
  | .old (.add a (.add b c)) => Tree a ∧ Tree b ∧ Tree c
  | _ => False
theorem Tree.rec9 {P : Term → Prop} (h1 : ∀ v, P (.long v)) (h2 : ∀ u p, P (.elem (.long u) (.index p))) (h3 : ∀ t, Tree t → P t → P (.length t))
    (h4 : ∀ a b, Tree a → Tree b → P a → P b → P (.add a b)) (h5 : ∀ a b, Tree a → Tree b → P a → P b → P (.sub a b)) (h6 : ∀ a b, Tree a → Tree b → P a → P b → P (.mul a b)) (h7 : ∀ a b, Tree a → Tree b → P a → P b → P (.div a b))
    (h8 : ∀ a b, Tree a → Tree b → P a → P b → P (.rem a b)) (h9 : ∀ o a b, Tree a → Tree b → P a → P b → P (.op2 o a b)) (h10 : ∀ a b c, Tree a → Tree b → Tree c → P a → P b → P c → P (.old (.add a (.add b c)))) : ∀ t, Tree t → P t
  | .long v, _ => h1 v
  | .elem (.long u) (.index p), _ => h2 u p
  | .length t, h => h3 t h (Tree.rec9 h1 h2 h3 h4 h5 h6 h7 h8 h9 h10 t h)
  | .add a b, h => h4 a b h.1 h.2 (Tree.rec9 h1 h2 h3 h4 h5 h6 h7 h8 h9 h10 a h.1) (Tree.rec9 h1 h2 h3 h4 h5 h6 h7 h8 h9 h10 b h.2)
  | .sub a b, h => h5 a b h.1 h.2 (Tree.rec9 h1 h2 h3 h4 h5 h6 h7 h8 h9 h10 a h.1) (Tree.rec9 h1 h2 h3 h4 h5 h6 h7 h8 h9 h10 b h.2)
  | .mul a b, h => h6 a b h.1 h.2 (Tree.rec9 h1 h2 h3 h4 h5 h6 h7 h8 h9 h10 a h.1) (Tree.rec9 h1 h2 h3 h4 h5 h6 h7 h8 h9 h10 b h.2)
  | .div a b, h => h7 a b h.1 h.2 (Tree.rec9 h1 h2 h3 h4 h5 h6 h7 h8 h9 h10 a h.1) (Tree.rec9 h1 h2 h3 h4 h5 h6 h7 h8 h9 h10 b h.2)
  | .rem a b, h => h8 a b h.1 h.2 (Tree.rec9 h1 h2 h3 h4 h5 h6 h7 h8 h9 h10 a h.1) (Tree.rec9 h1 h2 h3 h4 h5 h6 h7 h8 h9 h10 b h.2)
  | .op2 o a b, h => h9 o a b h.1 h.2 (Tree.rec9 h1 h2 h3 h4 h5 h6 h7 h8 h9 h10 a h.1) (Tree.rec9 h1 h2 h3 h4 h5 h6 h7 h8 h9 h10 b h.2)
  | .old (.add a (.add b c)), h => h10 a b c h.1 h.2.1 h.2.2 (Tree.rec9 h1 h2 h3 h4 h5 h6 h7 h8 h9 h10 a h.1) (Tree.rec9 h1 h2 h3 h4 h5 h6 h7 h8 h9 h10 b h.2.1) (Tree.rec9 h1 h2 h3 h4 h5 h6 h7 h8 h9 h10 c h.2.2)
theorem Code.bin {ST DT : Nat → Int32} {NA : Nat → Int64} {PL : Nat → Int32} {a b : Term} {L N L' N' : Nat} {u : Int32}
    (ha : ∀ (L N L' N' : Nat), Code ST DT NA PL a L N L' N' → L < L' ∧ N ≤ N') (hb : ∀ (L N L' N' : Nat), Code ST DT NA PL b L N L' N' → L < L' ∧ N ≤ N')
    (h : ∃ L1 N1 L2, Code ST DT NA PL a L N L1 N1 ∧ Code ST DT NA PL b L1 N1 L2 N' ∧ ST L2 = u ∧ L' = L2 + 1) : L < L' ∧ N ≤ N' := by
  obtain ⟨L1, N1, L2, c1, c2, -, rfl⟩ := h
  have := ha _ _ _ _ c1
  have := hb _ _ _ _ c2
  omega
theorem Code.leE {ST DT : Nat → Int32} {NA : Nat → Int64} {PL : Nat → Int32} (t : Term) (ht : Tree t) : ∀ (L N L' N' : Nat), Code ST DT NA PL t L N L' N' → L < L' ∧ N ≤ N' := by
  refine Tree.rec9 (P := fun t => ∀ (L N L' N' : Nat), Code ST DT NA PL t L N L' N' → L < L' ∧ N ≤ N') ?_ ?_ ?_ ?_ ?_ ?_ ?_ ?_ ?_ ?_ t ht
  · intro v L N L' N' h
    obtain ⟨-, -, h1, h2⟩ := h
    omega
  · intro u p L N L' N' h
    obtain ⟨-, -, -, -, h1, h2⟩ := h
    omega
  · intro t _ ih L N L' N' h
    obtain ⟨L1, h1, -, rfl⟩ := h
    have := ih _ _ _ _ h1
    omega
  · intro a b _ _ ha hb L N L' N' h
    exact Code.bin ha hb h
  · intro a b _ _ ha hb L N L' N' h
    exact Code.bin ha hb h
  · intro a b _ _ ha hb L N L' N' h
    exact Code.bin ha hb h
  · intro a b _ _ ha hb L N L' N' h
    exact Code.bin ha hb h
  · intro a b _ _ ha hb L N L' N' h
    exact Code.bin ha hb h
  · intro o a b _ _ ha hb L N L' N' h
    exact Code.bin ha hb h
  · intro a b c _ _ _ ha hb hc L N L' N' h
    obtain ⟨L1, N1, L2, N2, c1, -, -, c2, -, -, c3⟩ := h
    have := ha _ _ _ _ c1
    have := hb _ _ _ _ c2
    have := hc _ _ _ _ c3
    omega
/-- the code of a tree hangs on its own stretch alone -/
theorem Code.sameE {ST DT ST2 DT2 : Nat → Int32} {NA NA2 : Nat → Int64} {PL PL2 : Nat → Int32} (t : Term) (ht : Tree t) : ∀ (L N L' N' : Nat), Code ST DT NA PL t L N L' N' → (∀ j, L ≤ j → j < L' → ST2 j = ST j ∧ DT2 j = DT j) → (∀ j, N ≤ j → j < N' → NA2 j = NA j ∧ PL2 j = PL j) → Code ST2 DT2 NA2 PL2 t L N L' N' := by
  have bin : ∀ (a b : Term) (u : Int32), Tree a → Tree b → (∀ (L N L' N' : Nat), Code ST DT NA PL a L N L' N' → (∀ j, L ≤ j → j < L' → ST2 j = ST j ∧ DT2 j = DT j) → (∀ j, N ≤ j → j < N' → NA2 j = NA j ∧ PL2 j = PL j) → Code ST2 DT2 NA2 PL2 a L N L' N') →
      (∀ (L N L' N' : Nat), Code ST DT NA PL b L N L' N' → (∀ j, L ≤ j → j < L' → ST2 j = ST j ∧ DT2 j = DT j) → (∀ j, N ≤ j → j < N' → NA2 j = NA j ∧ PL2 j = PL j) → Code ST2 DT2 NA2 PL2 b L N L' N') →
      ∀ (L N L' N' : Nat), (∃ L1 N1 L2, Code ST DT NA PL a L N L1 N1 ∧ Code ST DT NA PL b L1 N1 L2 N' ∧ ST L2 = u ∧ L' = L2 + 1) → (∀ j, L ≤ j → j < L' → ST2 j = ST j ∧ DT2 j = DT j) → (∀ j, N ≤ j → j < N' → NA2 j = NA j ∧ PL2 j = PL j) →
        ∃ L1 N1 L2, Code ST2 DT2 NA2 PL2 a L N L1 N1 ∧ Code ST2 DT2 NA2 PL2 b L1 N1 L2 N' ∧ ST2 L2 = u ∧ L' = L2 + 1 := by
    intro a b u ta tb ha hb L N L' N' h h1 h2
    obtain ⟨L1, N1, L2, c1, c2, c3, rfl⟩ := h
    have l1 := Code.leE a ta _ _ _ _ c1
    have l2 := Code.leE b tb _ _ _ _ c2
    exact ⟨L1, N1, L2, ha _ _ _ _ c1 (fun j q1 q2 => h1 j q1 (by omega)) (fun j q1 q2 => h2 j q1 (by omega)), hb _ _ _ _ c2 (fun j q1 q2 => h1 j (by omega) (by omega)) (fun j q1 q2 => h2 j (by omega) (by omega)), by rw [(h1 L2 (by omega) (by omega)).1]; exact c3, rfl⟩
  refine Tree.rec9 (P := fun t => ∀ (L N L' N' : Nat), Code ST DT NA PL t L N L' N' → (∀ j, L ≤ j → j < L' → ST2 j = ST j ∧ DT2 j = DT j) → (∀ j, N ≤ j → j < N' → NA2 j = NA j ∧ PL2 j = PL j) → Code ST2 DT2 NA2 PL2 t L N L' N') ?_ ?_ ?_ ?_ ?_ ?_ ?_ ?_ ?_ ?_ t ht
  · intro v L N L' N' h h1 h2
    obtain ⟨q1, q2, rfl, rfl⟩ := h
    have := h1 L (Nat.le_refl _) (by omega)
    exact ⟨by rw [this.1]; exact q1, by rw [this.2]; exact q2, rfl, rfl⟩
  · intro u p L N L' N' h h1 h2
    obtain ⟨q1, q2, q3, q4, rfl, rfl⟩ := h
    have a1 := h1 L (Nat.le_refl _) (by omega)
    have a2 := h2 N (Nat.le_refl _) (by omega)
    exact ⟨by rw [a1.1]; exact q1, by rw [a1.2]; exact q2, by rw [a2.1]; exact q3, by rw [a2.2]; exact q4, rfl, rfl⟩
  · intro t tt ih L N L' N' h h1 h2
    obtain ⟨L1, c1, c2, rfl⟩ := h
    have l1 := Code.leE t tt _ _ _ _ c1
    exact ⟨L1, ih _ _ _ _ c1 (fun j q1 q2 => h1 j q1 (by omega)) h2, by rw [(h1 L1 (by omega) (by omega)).1]; exact c2, rfl⟩
  · intro a b ta tb ha hb L N L' N' h h1 h2
    exact bin a b 43 ta tb ha hb L N L' N' h h1 h2
  · intro a b ta tb ha hb L N L' N' h h1 h2
    exact bin a b 45 ta tb ha hb L N L' N' h h1 h2
  · intro a b ta tb ha hb L N L' N' h h1 h2
    exact bin a b 42 ta tb ha hb L N L' N' h h1 h2
  · intro a b ta tb ha hb L N L' N' h h1 h2
    exact bin a b 47 ta tb ha hb L N L' N' h h1 h2
  · intro a b ta tb ha hb L N L' N' h h1 h2
    exact bin a b 4 ta tb ha hb L N L' N' h h1 h2
  · intro o a b ta tb ha hb L N L' N' h h1 h2
    exact bin a b 5 ta tb ha hb L N L' N' h h1 h2
  · intro a b c ta tb tc ha hb hc L N L' N' h h1 h2
    obtain ⟨L1, N1, L2, N2, c1, s1, d1, c2, s2, d2, c3⟩ := h
    have l1 := Code.leE a ta _ _ _ _ c1
    have l2 := Code.leE b tb _ _ _ _ c2
    have l3 := Code.leE c tc _ _ _ _ c3
    have e1 := h1 L1 (by omega) (by omega)
    have e2 := h1 L2 (by omega) (by omega)
    exact ⟨L1, N1, L2, N2, ha _ _ _ _ c1 (fun j q1 q2 => h1 j q1 (by omega)) (fun j q1 q2 => h2 j q1 (by omega)), by rw [e1.1]; exact s1, by rw [e1.2]; exact d1, hb _ _ _ _ c2 (fun j q1 q2 => h1 j (by omega) (by omega)) (fun j q1 q2 => h2 j (by omega) (by omega)), by rw [e2.1]; exact s2, by rw [e2.2]; exact d2, hc _ _ _ _ c3 (fun j q1 q2 => h1 j (by omega) q2) (fun j q1 q2 => h2 j (by omega) q2)⟩
theorem Code.le {ST DT : Nat → Int32} {NA : Nat → Int64} {PL : Nat → Int32} {t : Term} (ht : Tree t) {L N L' N' : Nat} (h : Code ST DT NA PL t L N L' N') : L < L' ∧ N ≤ N' := Code.leE t ht _ _ _ _ h
theorem Code.same {ST DT ST2 DT2 : Nat → Int32} {NA NA2 : Nat → Int64} {PL PL2 : Nat → Int32} {t : Term} (ht : Tree t) {L N L' N' : Nat} (h : Code ST DT NA PL t L N L' N') (h1 : ∀ j, L ≤ j → j < L' → ST2 j = ST j ∧ DT2 j = DT j) (h2 : ∀ j, N ≤ j → j < N' → NA2 j = NA j ∧ PL2 j = PL j) : Code ST2 DT2 NA2 PL2 t L N L' N' := Code.sameE t ht _ _ _ _ h h1 h2
end
section
theorem jm_fok {G : jm_G} {D n0 s0 d : Nat} (h : d + 1 ≤ D) : d + 1 ≤ (jm_zn G D n0 s0).1 := h
theorem jm_look {G : jm_G} {D n0 s0 d m : Nat} (hm : m ≤ 45) (h : d + 1 ≤ D) : 19 + m + jm_lo d ≤ (jm_zn G D n0 s0).2.1 := by
  show 19 + m + jm_lo d ≤ jm_lo D
  unfold jm_lo
  omega
/-- only cells of S have changed, none was made -/
def jm_fr (S : Nat → Prop) (h h' : jm_H) : Prop := h'.1 = h.1 ∧ h'.2.1 = h.2.1 ∧ h'.2.2.1 = h.2.2.1 ∧ ∀ b, ¬ S b → ∀ j, h'.2.2.2 b j = h.2.2.2 b j
theorem jm_fr.rf {S : Nat → Prop} {h : jm_H} : jm_fr S h h := ⟨rfl, rfl, rfl, fun _ _ _ => rfl⟩
theorem jm_fr.trans {S : Nat → Prop} {h h1 h2 : jm_H} (a : jm_fr S h h1) (b : jm_fr S h1 h2) : jm_fr S h h2 := ⟨b.1.trans a.1, b.2.1.trans a.2.1, b.2.2.1.trans a.2.2.1, fun x hx j => (b.2.2.2 x hx j).trans (a.2.2.2 x hx j)⟩
theorem jm_fr.put {S : Nat → Prop} {h h1 : jm_H} {a k : Nat} {v : Value} (p : jm_fr S h h1) (ha : S a) : jm_fr S h (jm_put h1 a k v) := ⟨p.1, p.2.1, p.2.2.1, fun x hx j => by
  rw [jm_put_ne h1 k v (fun e => hx (by rw [e]; exact ha))]
  exact p.2.2.2 x hx j⟩
theorem jm_fr.weak {S S' : Nat → Prop} {h h1 : jm_H} (p : jm_fr S h h1) (hS : ∀ b, S b → S' b) : jm_fr S' h h1 := ⟨p.1, p.2.1, p.2.2.1, fun x hx j => p.2.2.2 x (fun q => hx (hS x q)) j⟩
def S_rd (r f b : Nat) : Prop := b = r ∨ b = r + 1 ∨ b = r + 9 ∨ (f ≤ b ∧ b ≤ f + 5)
/-- a Reader at r (its Tape at r + 1, the bytes at r + 2, places at r + 9), its Formula at f: the token, nodes, steps, names, the latest fault -/
def RdS (h : jm_H) (r f n : Nat) (B : Nat → Int32) (c : Cur) (k L N : Nat) (ST DT : Nat → Int32) (NA : Nat → Int64) (PL : Nat → Int32) (fc fp : Int32) (nme : Int64) : Prop :=
  h.2.2.1 r = (jm_o 1, 7) ∧ h.2.2.2 r 0 = .ref (r + 1) ∧ h.2.2.2 r 1 = .ref f ∧ h.2.2.2 r 2 = .long nme ∧ h.2.2.2 r 3 = .int fc ∧ h.2.2.2 r 4 = .int fp ∧ h.2.2.2 r 5 = .int (nI k) ∧ h.2.2.2 r 6 = .ref (r + 9) ∧ h.2.2.1 (r + 9) = (jm_a 1, 40) ∧
  TpA h (r + 1) (r + 2) n c.2.2.1 c.1 c.2.1 c.2.2.2.1 c.2.2.2.2 ∧ TpB h (r + 2) B ∧ FmA h f L N ∧ arI h (f + 1) 80 ST ∧ arI h (f + 2) 80 DT ∧ arL h (f + 3) 40 NA ∧ arI h (r + 9) 40 PL ∧ (f = r + 3 ∨ r + 10 ≤ f) ∧ c.2.2.1 ≤ n ∧ c.2.1 ≤ n
theorem jm_fr.tok {r f n p : Nat} {h : jm_H} {B : Nat → Int32} {nm : Int64} {nu : Int32} : jm_fr (S_rd r f) h (tp_tok h (r + 1) n B p nm nu) := by
  have hs : S_rd r f (r + 1) := Or.inr (Or.inl rfl)
  exact ((((jm_fr.rf.put hs).put hs).put hs).put hs).put hs
theorem RdS.tok {h : jm_H} {r f n : Nat} {B : Nat → Int32} {c : Cur} {k L N : Nat} {ST DT : Nat → Int32} {NA : Nat → Int64} {PL : Nat → Int32} {fc fp : Int32} {nme : Int64} (hS : RdS h r f n B c k L N ST DT NA PL fc fp nme) : RdS (tp_tok h (r + 1) n B c.2.2.1 c.2.2.2.1 c.2.2.2.2) r f n B (cu_adv B n c) k L N ST DT NA PL fc fp nme := by
  obtain ⟨tr, r0, r1, r2, r3, r4, r5, r6, tp, hT, hB, hF, hST, hDT, hNA, hPL, hdis, hcn, hcs⟩ := hS
  obtain ⟨tf, g0, g1, g2, g3, g4, g5, g6, t1, t2, t3, t4, t5⟩ := id hF
  have ta := hT.1
  have n1 : r ≠ r + 1 := by omega
  have n2 : f ≠ r + 1 := jm_ne_oo tf ta (by decide)
  have n3 : f + 1 ≠ r + 1 := by omega
  have n4 : f + 2 ≠ r + 1 := by omega
  have n5 : f + 3 ≠ r + 1 := by omega
  have n6 : r + 9 ≠ r + 1 := by omega
  have hq := q_skip_le B n c.2.2.1 hcn
  have hq2 := q_tok_le B n (q_skip B n c.2.2.1) c.2.2.2.1 c.2.2.2.2 hq.2
  refine ⟨tr, ?_, ?_, ?_, ?_, ?_, ?_, ?_, tp, hT.tok, TpB.tok hT hB, ⟨tf, ?_, ?_, ?_, ?_, ?_, ?_, ?_, t1, t2, t3, t4, t5⟩, fun j hj => ?_, fun j hj => ?_, fun j hj => ?_, fun j hj => ?_, hdis, hq2.2, hq.2⟩
  · simp [tp_tok, tp_set, jm_put, r0]
  · simp [tp_tok, tp_set, jm_put, r1]
  · simp [tp_tok, tp_set, jm_put, r2]
  · simp [tp_tok, tp_set, jm_put, r3]
  · simp [tp_tok, tp_set, jm_put, r4]
  · simp [tp_tok, tp_set, jm_put, r5]
  · simp [tp_tok, tp_set, jm_put, r6]
  · simp [tp_tok, tp_set, jm_put, n2, g0]
  · simp [tp_tok, tp_set, jm_put, n2, g1]
  · simp [tp_tok, tp_set, jm_put, n2, g2]
  · simp [tp_tok, tp_set, jm_put, n2, g3]
  · simp [tp_tok, tp_set, jm_put, n2, g4]
  · simp [tp_tok, tp_set, jm_put, n2, g5]
  · simp [tp_tok, tp_set, jm_put, n2, g6]
  · have := hST j hj
    simp only [tp_tok, tp_set, jm_put, n3, false_and, if_false]
    exact this
  · have := hDT j hj
    simp only [tp_tok, tp_set, jm_put, n4, false_and, if_false]
    exact this
  · have := hNA j hj
    simp only [tp_tok, tp_set, jm_put, n5, false_and, if_false]
    exact this
  · have := hPL j hj
    simp only [tp_tok, tp_set, jm_put, n6, false_and, if_false]
    exact this
/-- behind a fault: its code and place are noted, the rest is whatever it is -/
def FO (h : jm_H) (r f n : Nat) (B : Nat → Int32) (nme : Int64) (e : Flt) : Prop := ∃ (c : Cur) (k L N : Nat) (ST DT : Nat → Int32) (NA : Nat → Int64) (PL : Nat → Int32), RdS h r f n B c k L N ST DT NA PL e.1 (nI e.2) nme ∧ L < 2 ^ 31 ∧ N < 2 ^ 31
/-- a token was passed, or not -/
def OutX (x : Flt ⊕ Cur) (v : Option Value) (h : jm_H) (r f n : Nat) (B : Nat → Int32) (k L N : Nat) (ST DT : Nat → Int32) (NA : Nat → Int64) (PL : Nat → Int32) (fc fp : Int32) (nme : Int64) : Prop := match x with
  | .inl e => v = some (.int 0) ∧ FO h r f n B nme e
  | .inr c => v = some (.int 1) ∧ RdS h r f n B c k L N ST DT NA PL fc fp nme
def SegOK (t : Term) (L N k L1 N1 k1 : Nat) (ST DT ST1 DT1 : Nat → Int32) (NA NA1 : Nat → Int64) (PL PL1 : Nat → Int32) : Prop := Tree t ∧ Code ST1 DT1 NA1 PL1 t L N L1 N1 ∧ (∀ j, j < L → ST1 j = ST j ∧ DT1 j = DT j) ∧ (∀ j, j < N → NA1 j = NA j ∧ PL1 j = PL j) ∧ L1 + 2 * k + 1 ≤ L + 2 * k1 ∧ N1 + k ≤ N + k1 ∧ k < k1 ∧ k1 ≤ 40
/-- a tree was read, or there is a fault -/
def OutR (res : PR) (v : Option Value) (h : jm_H) (r f n : Nat) (B : Nat → Int32) (k L N : Nat) (ST DT : Nat → Int32) (NA : Nat → Int64) (PL : Nat → Int32) (fc fp : Int32) (nme : Int64) : Prop := match res with
  | .inl e => v = some (.int 0) ∧ FO h r f n B nme e
  | .inr y => v = some (.int 1) ∧ ∃ (L1 N1 : Nat) (ST1 DT1 : Nat → Int32) (NA1 : Nat → Int64) (PL1 : Nat → Int32), RdS h r f n B y.2.1 y.2.2 L1 N1 ST1 DT1 NA1 PL1 fc fp nme ∧ SegOK y.1 L N k L1 N1 y.2.2 ST DT ST1 DT1 NA NA1 PL PL1
set_option maxHeartbeats 4000000 in
set_option maxRecDepth 100000 in
theorem c_Rd_refuseAt (l : Launch) (G : jm_G) (d : Nat) {h : jm_H} {r f n : Nat} {B : Nat → Int32} {c : Cur} {k L N : Nat} {ST DT : Nat → Int32} {NA : Nat → Int64} {PL : Nat → Int32} {fc fp : Int32} {nme : Int64} {q p : Int32} (hS : RdS h r f n B c k L N ST DT NA PL fc fp nme) : jm_C l G mm_Rd_refuseAt d [.ref r, .int q, .int p] h none (jm_put (jm_put h r 3 (.int q)) r 4 (.int p)) := by
  obtain ⟨tr, r0, r1, r2, r3, r4, r5, r6, tp, ⟨ta, f0, f1, f2, f3, f4, f5, f6, tb⟩, hB, ⟨tf, g0, g1, g2, g3, g4, g5, g6, t1, t2, t3, t4, t5⟩, hST, hDT, hNA, hPL, hdis, hcn, hcs⟩ := id hS
  refine jm_ofE (by decide) rfl (Nat.le_of_ble_eq_true rfl) ?_
  refine jx_aload_n d_Rd_refuseAt_0 0 rfl ?_
  refine jx_iload_n d_Rd_refuseAt_1 1 rfl ?_
  refine jx_put (v0 := .int (q)) d_Rd_refuseAt_2 fF_Rd_29 jv_Rd ft_Rd_faultCode tr rfl rfl ?_
  refine jx_aload_n d_Rd_refuseAt_5 0 rfl ?_
  refine jx_iload_n d_Rd_refuseAt_6 2 rfl ?_
  refine jx_put (v0 := .int (p)) d_Rd_refuseAt_7 fF_Rd_33 jv_Rd ft_Rd_faultPlace tr rfl rfl ?_
  exact jx_vret d_Rd_refuseAt_10 rfl (⟨rfl, rfl⟩)
set_option maxHeartbeats 4000000 in
set_option maxRecDepth 100000 in
theorem c_Rd_refuse (l : Launch) (G : jm_G) (d : Nat) (hd : 1 ≤ d) {h : jm_H} {r f n : Nat} {B : Nat → Int32} {c : Cur} {k L N : Nat} {ST DT : Nat → Int32} {NA : Nat → Int64} {PL : Nat → Int32} {fc fp : Int32} {nme : Int64} {q : Int32} (hS : RdS h r f n B c k L N ST DT NA PL fc fp nme) : jm_C l G mm_Rd_refuse d [.ref r, .int q] h (some (.int 0)) (jm_put (jm_put h r 3 (.int q)) r 4 (.int (nI c.2.1))) := by
  obtain ⟨tr, r0, r1, r2, r3, r4, r5, r6, tp, ⟨ta, f0, f1, f2, f3, f4, f5, f6, tb⟩, hB, ⟨tf, g0, g1, g2, g3, g4, g5, g6, t1, t2, t3, t4, t5⟩, hST, hDT, hNA, hPL, hdis, hcn, hcs⟩ := id hS
  refine jm_ofE (by decide) rfl (Nat.le_of_ble_eq_true rfl) ?_
  refine jx_aload_n d_Rd_refuse_0 0 rfl ?_
  refine jx_iload_n d_Rd_refuse_1 1 rfl ?_
  refine jx_aload_n d_Rd_refuse_2 0 rfl ?_
  refine jx_get d_Rd_refuse_3 fF_Rd_12 tr r0 ?_
  refine jx_get d_Rd_refuse_6 fF_Rd_67 ta f4 ?_
  refine jx_callV (M2 := mm_Rd_refuseAt) rfl tr lk_Rd_70 wi_Rd_refuseAt ws_Rd_refuseAt d_Rd_refuse_9 (c_Rd_refuseAt l G (d - 1) ⟨tr, r0, r1, r2, r3, r4, r5, r6, tp, ⟨ta, f0, f1, f2, f3, f4, f5, f6, tb⟩, hB, ⟨tf, g0, g1, g2, g3, g4, g5, g6, t1, t2, t3, t4, t5⟩, hST, hDT, hNA, hPL, hdis, hcn, hcs⟩) cd_Rd_refuseAt rfl rfl (Nat.le_of_ble_eq_true rfl) (jm_fok (by omega)) (jm_look (by decide) (by omega)) ?_
  refine jx_iconst (v0 := 0) d_Rd_refuse_12 (by decide) ?_
  exact jx_zret d_Rd_refuse_13 rfl (by first | rfl | decide) (⟨rfl, rfl⟩)
set_option maxHeartbeats 4000000 in
set_option maxRecDepth 100000 in
theorem c_Rd_pass (l : Launch) (G : jm_G) (d : Nat) (hd : 3 ≤ d) {h : jm_H} {r f n : Nat} {B : Nat → Int32} {c : Cur} {k L N : Nat} {ST DT : Nat → Int32} {NA : Nat → Int64} {PL : Nat → Int32} {fc fp : Int32} {nme : Int64} (hS : RdS h r f n B c k L N ST DT NA PL fc fp nme) (hn : n ≤ 2000) (hLb : L < 2 ^ 31) (hNb : N < 2 ^ 31) : jm_CP l G mm_Rd_pass d [.ref r] h (fun v h9 => jm_fr (S_rd r f) h h9 ∧ OutX (p_pass B n c) v h9 r f n B k L N ST DT NA PL fc fp nme) := by
  obtain ⟨tr, r0, r1, r2, r3, r4, r5, r6, tp, ⟨ta, f0, f1, f2, f3, f4, f5, f6, tb⟩, hB, ⟨tf, g0, g1, g2, g3, g4, g5, g6, t1, t2, t3, t4, t5⟩, hST, hDT, hNA, hPL, hdis, hcn, hcs⟩ := id hS
  refine jm_of (by decide) rfl (Nat.le_of_ble_eq_true rfl) ?_
  refine jx_aload_n d_Rd_pass_0 0 rfl ?_
  refine jx_get d_Rd_pass_1 fF_Rd_12 tr r0 ?_
  have hS1 := hS.tok
  obtain ⟨tr1, r01, r11, r21, r31, r41, r51, r61, tp1, ⟨ta1, f01, f11, f21, f31, f41, f51, f61, tb1⟩, hB1, ⟨tf1, g01, g11, g21, g31, g41, g51, g61, t11, t21, t31, t41, t51⟩, hST1, hDT1, hNA1, hPL1, hdis1, hcn1, hcs1⟩ := id hS1
  refine jx_callV (M2 := mm_Tp_readToken) rfl ta lk_Rd_74 wi_Tp_readToken ws_Tp_readToken d_Rd_pass_4 (c_Tp_readToken l G (d - 3) ⟨ta, f0, f1, f2, f3, f4, f5, f6, tb⟩ hB hn hcn) cd_Tp_readToken rfl rfl (Nat.le_of_ble_eq_true rfl) (jm_fok (by omega)) (jm_look (by decide) (by omega)) ?_
  refine jx_aload_n d_Rd_pass_7 0 rfl ?_
  refine jx_get d_Rd_pass_8 fF_Rd_12 tr1 r01 ?_
  refine jx_get d_Rd_pass_11 fF_Rd_61 ta1 f31 ?_
  refine jx_iconst (v0 := 1) d_Rd_pass_14 (by decide) ?_
  refine jx_icmp_ne (tgt := 26) d_Rd_pass_15 (by decide) (fun c1 => ?_) (fun c1 => ?_)
  ·
    refine jx_iconst (v0 := 1) d_Rd_pass_26 (by decide) ?_
    refine jx_goto (tgt := 31) d_Rd_pass_27 (by decide) ?_
    exact jx_zret d_Rd_pass_31 rfl (by first | rfl | decide) (⟨_, rfl, jm_fr.tok, by rw [p_pass, if_neg c1]; exact ⟨rfl, ⟨tr1, r01, r11, r21, r31, r41, r51, r61, tp1, ⟨ta1, f01, f11, f21, f31, f41, f51, f61, tb1⟩, hB1, ⟨tf1, g01, g11, g21, g31, g41, g51, g61, t11, t21, t31, t41, t51⟩, hST1, hDT1, hNA1, hPL1, hdis1, hcn1, hcs1⟩⟩⟩)
  ·
    refine jx_aload_n d_Rd_pass_18 0 rfl ?_
    refine jx_iconst (v0 := 1) d_Rd_pass_19 (by decide) ?_
    refine jx_callV (M2 := mm_Rd_refuse) rfl tr1 lk_Rd_64 wi_Rd_refuse ws_Rd_refuse d_Rd_pass_20 (c_Rd_refuse l G (d - 1) (by omega) ⟨tr1, r01, r11, r21, r31, r41, r51, r61, tp1, ⟨ta1, f01, f11, f21, f31, f41, f51, f61, tb1⟩, hB1, ⟨tf1, g01, g11, g21, g31, g41, g51, g61, t11, t21, t31, t41, t51⟩, hST1, hDT1, hNA1, hPL1, hdis1, hcn1, hcs1⟩) cd_Rd_refuse rfl rfl (Nat.le_of_ble_eq_true rfl) (jm_fok (by omega)) (jm_look (by decide) (by omega)) ?_
    refine jx_if_eq (tgt := 30) d_Rd_pass_23 (by decide) (fun c2 => ?_) (fun c2 => absurd c2 (by decide))
    refine jx_iconst (v0 := 0) d_Rd_pass_30 (by decide) ?_
    exact jx_zret d_Rd_pass_31 rfl (by first | rfl | decide) (⟨_, rfl, (jm_fr.put (jm_fr.put jm_fr.tok (by unfold S_rd; omega)) (by unfold S_rd; omega)), by rw [p_pass, if_pos c1]; exact ⟨rfl, _, _, _, _, _, _, _, _, ⟨tr1, (jm_rd_k (by decide) (jm_rd_k (by decide) r01)), (jm_rd_k (by decide) (jm_rd_k (by decide) r11)), (jm_rd_k (by decide) (jm_rd_k (by decide) r21)), (jm_rd_k (by decide) (jm_rd_s _ _ _ _)), (jm_rd_s _ _ _ _), (jm_rd_k (by decide) (jm_rd_k (by decide) r51)), (jm_rd_k (by decide) (jm_rd_k (by decide) r61)), tp1, ⟨ta1, (jm_rd_k (by decide) (jm_rd_k (by decide) f01)), (jm_rd_k (by decide) (jm_rd_k (by decide) f11)), (jm_rd_k (by decide) (jm_rd_k (by decide) f21)), (jm_rd_k (by decide) (jm_rd_a (jm_ne_oo ta1 tr1 (by decide)) f31)), (jm_rd_a (jm_ne_oo ta1 tr1 (by decide)) (jm_rd_k (by decide) f41)), (jm_rd_k (by decide) (jm_rd_k (by decide) f51)), (jm_rd_k (by decide) (jm_rd_k (by decide) f61)), tb1⟩, (fun j hj => jm_rd_a (Ne.symm (jm_ne_oa tr1 tb1)) ((fun j hj => jm_rd_a (Ne.symm (jm_ne_oa tr1 tb1)) (hB1 j hj)) j hj)), ⟨tf1, (jm_rd_k (by decide) (jm_rd_k (by decide) g01)), (jm_rd_k (by decide) (jm_rd_k (by decide) g11)), (jm_rd_k (by decide) (jm_rd_k (by decide) g21)), (jm_rd_k (by decide) (jm_rd_a (jm_ne_oo tf1 tr1 (by decide)) g31)), (jm_rd_a (jm_ne_oo tf1 tr1 (by decide)) (jm_rd_k (by decide) g41)), (jm_rd_k (by decide) (jm_rd_k (by decide) g51)), (jm_rd_k (by decide) (jm_rd_k (by decide) g61)), t11, t21, t31, t41, t51⟩, (arI.keep (arI.keep hST1 (Ne.symm (jm_ne_oa tr1 t11))) (Ne.symm (jm_ne_oa tr1 t11))), (arI.keep (arI.keep hDT1 (Ne.symm (jm_ne_oa tr1 t21))) (Ne.symm (jm_ne_oa tr1 t21))), (arL.keep (arL.keep hNA1 (Ne.symm (jm_ne_oa tr1 t31))) (Ne.symm (jm_ne_oa tr1 t31))), (arI.keep (arI.keep hPL1 (Ne.symm (jm_ne_oa tr1 tp1))) (Ne.symm (jm_ne_oa tr1 tp1))), hdis1, hcn1, hcs1⟩, hLb, hNb⟩⟩)
set_option maxHeartbeats 4000000 in
set_option maxRecDepth 100000 in
theorem c_Rd_expect (l : Launch) (G : jm_G) (d : Nat) (hd : 4 ≤ d) {h : jm_H} {r f n : Nat} {B : Nat → Int32} {c : Cur} {k L N : Nat} {ST DT : Nat → Int32} {NA : Nat → Int64} {PL : Nat → Int32} {fc fp : Int32} {nme : Int64} {K : Int32} (hS : RdS h r f n B c k L N ST DT NA PL fc fp nme) (hn : n ≤ 2000) (hLb : L < 2 ^ 31) (hNb : N < 2 ^ 31) : jm_CP l G mm_Rd_expect d [.ref r, .int K] h (fun v h9 => jm_fr (S_rd r f) h h9 ∧ OutX (p_exp B n K c) v h9 r f n B k L N ST DT NA PL fc fp nme) := by
  obtain ⟨tr, r0, r1, r2, r3, r4, r5, r6, tp, ⟨ta, f0, f1, f2, f3, f4, f5, f6, tb⟩, hB, ⟨tf, g0, g1, g2, g3, g4, g5, g6, t1, t2, t3, t4, t5⟩, hST, hDT, hNA, hPL, hdis, hcn, hcs⟩ := id hS
  refine jm_of (by decide) rfl (Nat.le_of_ble_eq_true rfl) ?_
  refine jx_aload_n d_Rd_expect_0 0 rfl ?_
  refine jx_get d_Rd_expect_1 fF_Rd_12 tr r0 ?_
  refine jx_get d_Rd_expect_4 fF_Rd_61 ta f3 ?_
  refine jx_iload_n d_Rd_expect_7 1 rfl ?_
  refine jx_icmp_ne (tgt := 18) d_Rd_expect_8 (by decide) (fun c1 => ?_) (fun c1 => ?_)
  ·
    refine jx_aload_n d_Rd_expect_18 0 rfl ?_
    refine jx_iconst (v0 := 2) d_Rd_expect_19 (by decide) ?_
    refine jx_callV (M2 := mm_Rd_refuse) rfl tr lk_Rd_64 wi_Rd_refuse ws_Rd_refuse d_Rd_expect_20 (c_Rd_refuse l G (d - 1) (by omega) ⟨tr, r0, r1, r2, r3, r4, r5, r6, tp, ⟨ta, f0, f1, f2, f3, f4, f5, f6, tb⟩, hB, ⟨tf, g0, g1, g2, g3, g4, g5, g6, t1, t2, t3, t4, t5⟩, hST, hDT, hNA, hPL, hdis, hcn, hcs⟩) cd_Rd_refuse rfl rfl (Nat.le_of_ble_eq_true rfl) (jm_fok (by omega)) (jm_look (by decide) (by omega)) ?_
    exact jx_zret d_Rd_expect_23 rfl (by first | rfl | decide) (⟨_, rfl, (jm_fr.put (jm_fr.put jm_fr.rf (by unfold S_rd; omega)) (by unfold S_rd; omega)), by rw [p_exp, if_neg c1]; exact ⟨rfl, _, _, _, _, _, _, _, _, ⟨tr, (jm_rd_k (by decide) (jm_rd_k (by decide) r0)), (jm_rd_k (by decide) (jm_rd_k (by decide) r1)), (jm_rd_k (by decide) (jm_rd_k (by decide) r2)), (jm_rd_k (by decide) (jm_rd_s _ _ _ _)), (jm_rd_s _ _ _ _), (jm_rd_k (by decide) (jm_rd_k (by decide) r5)), (jm_rd_k (by decide) (jm_rd_k (by decide) r6)), tp, ⟨ta, (jm_rd_k (by decide) (jm_rd_k (by decide) f0)), (jm_rd_k (by decide) (jm_rd_k (by decide) f1)), (jm_rd_k (by decide) (jm_rd_k (by decide) f2)), (jm_rd_k (by decide) (jm_rd_a (jm_ne_oo ta tr (by decide)) f3)), (jm_rd_a (jm_ne_oo ta tr (by decide)) (jm_rd_k (by decide) f4)), (jm_rd_k (by decide) (jm_rd_k (by decide) f5)), (jm_rd_k (by decide) (jm_rd_k (by decide) f6)), tb⟩, (fun j hj => jm_rd_a (Ne.symm (jm_ne_oa tr tb)) ((fun j hj => jm_rd_a (Ne.symm (jm_ne_oa tr tb)) (hB j hj)) j hj)), ⟨tf, (jm_rd_k (by decide) (jm_rd_k (by decide) g0)), (jm_rd_k (by decide) (jm_rd_k (by decide) g1)), (jm_rd_k (by decide) (jm_rd_k (by decide) g2)), (jm_rd_k (by decide) (jm_rd_a (jm_ne_oo tf tr (by decide)) g3)), (jm_rd_a (jm_ne_oo tf tr (by decide)) (jm_rd_k (by decide) g4)), (jm_rd_k (by decide) (jm_rd_k (by decide) g5)), (jm_rd_k (by decide) (jm_rd_k (by decide) g6)), t1, t2, t3, t4, t5⟩, (arI.keep (arI.keep hST (Ne.symm (jm_ne_oa tr t1))) (Ne.symm (jm_ne_oa tr t1))), (arI.keep (arI.keep hDT (Ne.symm (jm_ne_oa tr t2))) (Ne.symm (jm_ne_oa tr t2))), (arL.keep (arL.keep hNA (Ne.symm (jm_ne_oa tr t3))) (Ne.symm (jm_ne_oa tr t3))), (arI.keep (arI.keep hPL (Ne.symm (jm_ne_oa tr tp))) (Ne.symm (jm_ne_oa tr tp))), hdis, hcn, hcs⟩, hLb, hNb⟩⟩)
  ·
    refine jx_aload_n d_Rd_expect_11 0 rfl ?_
    obtain ⟨v2, h2, hC2, hfr2, hq2⟩ := c_Rd_pass l G (d - 1) (by omega) (h := h) ⟨tr, r0, r1, r2, r3, r4, r5, r6, tp, ⟨ta, f0, f1, f2, f3, f4, f5, f6, tb⟩, hB, ⟨tf, g0, g1, g2, g3, g4, g5, g6, t1, t2, t3, t4, t5⟩, hST, hDT, hNA, hPL, hdis, hcn, hcs⟩ hn (by omega) (by omega)
    cases hp2 : p_pass B n c with
    | inl e2 =>
      rw [hp2] at hq2
      obtain ⟨rfl, hF2⟩ := hq2
      refine jx_callV (M2 := mm_Rd_pass) rfl tr lk_Rd_49 wi_Rd_pass ws_Rd_pass d_Rd_expect_12 hC2 cd_Rd_pass rfl rfl (Nat.le_of_ble_eq_true rfl) (jm_fok (by omega)) (jm_look (by decide) (by omega)) ?_
      refine jx_goto (tgt := 23) d_Rd_expect_15 (by decide) ?_
      exact jx_zret d_Rd_expect_23 rfl (by first | rfl | decide) (⟨_, rfl, (jm_fr.trans jm_fr.rf hfr2), by rw [p_exp, if_pos c1, hp2]; exact ⟨rfl, hF2⟩⟩)
    | inr c2 =>
      rw [hp2] at hq2
      obtain ⟨rfl, hS2⟩ := hq2
      obtain ⟨tr2, r02, r12, r22, r32, r42, r52, r62, tp2, ⟨ta2, f02, f12, f22, f32, f42, f52, f62, tb2⟩, hB2, ⟨tf2, g02, g12, g22, g32, g42, g52, g62, t12, t22, t32, t42, t52⟩, hST2, hDT2, hNA2, hPL2, hdis2, hcn2, hcs2⟩ := id hS2
      refine jx_callV (M2 := mm_Rd_pass) rfl tr lk_Rd_49 wi_Rd_pass ws_Rd_pass d_Rd_expect_12 hC2 cd_Rd_pass rfl rfl (Nat.le_of_ble_eq_true rfl) (jm_fok (by omega)) (jm_look (by decide) (by omega)) ?_
      refine jx_goto (tgt := 23) d_Rd_expect_15 (by decide) ?_
      exact jx_zret d_Rd_expect_23 rfl (by first | rfl | decide) (⟨_, rfl, (jm_fr.trans jm_fr.rf hfr2), by rw [p_exp, if_pos c1, hp2]; exact ⟨rfl, hS2⟩⟩)
set_option maxHeartbeats 4000000 in
set_option maxRecDepth 100000 in
theorem c_Rd_passNode (l : Launch) (G : jm_G) (d : Nat) (hd : 4 ≤ d) {h : jm_H} {r f n : Nat} {B : Nat → Int32} {c : Cur} {k L N : Nat} {ST DT : Nat → Int32} {NA : Nat → Int64} {PL : Nat → Int32} {fc fp : Int32} {nme : Int64} (hS : RdS h r f n B c k L N ST DT NA PL fc fp nme) (hn : n ≤ 2000) (hk : k ≤ 40) (hLb : L < 2 ^ 31) (hNb : N < 2 ^ 31) : jm_CP l G mm_Rd_passNode d [.ref r] h (fun v h9 => jm_fr (S_rd r f) h h9 ∧ OutX (p_node B n c k) v h9 r f n B (k + 1) L N ST DT NA PL fc fp nme) := by
  obtain ⟨tr, r0, r1, r2, r3, r4, r5, r6, tp, ⟨ta, f0, f1, f2, f3, f4, f5, f6, tb⟩, hB, ⟨tf, g0, g1, g2, g3, g4, g5, g6, t1, t2, t3, t4, t5⟩, hST, hDT, hNA, hPL, hdis, hcn, hcs⟩ := id hS
  refine jm_of (by decide) rfl (Nat.le_of_ble_eq_true rfl) ?_
  refine jx_aload_n d_Rd_passNode_0 0 rfl ?_
  refine jx_get d_Rd_passNode_1 fF_Rd_36 tr r5 ?_
  refine jx_bipush (v0 := 40) d_Rd_passNode_4 (by decide) ?_
  refine jx_icmp_ltN (tgt := 15) (k) (40) d_Rd_passNode_6 rfl rfl (by omega) (by omega) (by decide) (fun c1 => ?_) (fun c1 => ?_)
  ·
    refine jx_aload_n d_Rd_passNode_15 0 rfl ?_
    refine jx_dup d_Rd_passNode_16 rfl ?_
    refine jx_get d_Rd_passNode_17 fF_Rd_36 tr r5 ?_
    refine jx_iconst (v0 := 1) d_Rd_passNode_20 (by decide) ?_
    refine jx_iadd d_Rd_passNode_21 ?_
    refine jx_ati (nI_add (k) (1)) ?_
    refine jx_put (v0 := .int (nI ((k) + (1)))) d_Rd_passNode_22 fF_Rd_36 jv_Rd ft_Rd_nodes tr rfl rfl ?_
    refine jx_aload_n d_Rd_passNode_25 0 rfl ?_
    obtain ⟨v2, h2, hC2, hfr2, hq2⟩ := c_Rd_pass l G (d - 1) (by omega) (h := (jm_put h (r) 5 (.int (nI ((k) + (1)))))) ⟨tr, (jm_rd_k (by decide) r0), (jm_rd_k (by decide) r1), (jm_rd_k (by decide) r2), (jm_rd_k (by decide) r3), (jm_rd_k (by decide) r4), (jm_rd_s _ _ _ _), (jm_rd_k (by decide) r6), tp, ⟨ta, (jm_rd_k (by decide) f0), (jm_rd_k (by decide) f1), (jm_rd_k (by decide) f2), (jm_rd_k (by decide) f3), (jm_rd_k (by decide) f4), (jm_rd_a (jm_ne_oo ta tr (by decide)) f5), (jm_rd_k (by decide) f6), tb⟩, (fun j hj => jm_rd_a (Ne.symm (jm_ne_oa tr tb)) (hB j hj)), ⟨tf, (jm_rd_k (by decide) g0), (jm_rd_k (by decide) g1), (jm_rd_k (by decide) g2), (jm_rd_k (by decide) g3), (jm_rd_k (by decide) g4), (jm_rd_a (jm_ne_oo tf tr (by decide)) g5), (jm_rd_k (by decide) g6), t1, t2, t3, t4, t5⟩, (arI.keep hST (Ne.symm (jm_ne_oa tr t1))), (arI.keep hDT (Ne.symm (jm_ne_oa tr t2))), (arL.keep hNA (Ne.symm (jm_ne_oa tr t3))), (arI.keep hPL (Ne.symm (jm_ne_oa tr tp))), hdis, hcn, hcs⟩ hn (by omega) (by omega)
    cases hp2 : p_pass B n c with
    | inl e2 =>
      rw [hp2] at hq2
      obtain ⟨rfl, hF2⟩ := hq2
      refine jx_callV (M2 := mm_Rd_pass) rfl tr lk_Rd_49 wi_Rd_pass ws_Rd_pass d_Rd_passNode_26 hC2 cd_Rd_pass rfl rfl (Nat.le_of_ble_eq_true rfl) (jm_fok (by omega)) (jm_look (by decide) (by omega)) ?_
      exact jx_zret d_Rd_passNode_29 rfl (by first | rfl | decide) (⟨_, rfl, (jm_fr.trans (jm_fr.put jm_fr.rf (by unfold S_rd; omega)) hfr2), by rw [p_node, if_pos (by omega), hp2]; exact ⟨rfl, hF2⟩⟩)
    | inr c2 =>
      rw [hp2] at hq2
      obtain ⟨rfl, hS2⟩ := hq2
      obtain ⟨tr2, r02, r12, r22, r32, r42, r52, r62, tp2, ⟨ta2, f02, f12, f22, f32, f42, f52, f62, tb2⟩, hB2, ⟨tf2, g02, g12, g22, g32, g42, g52, g62, t12, t22, t32, t42, t52⟩, hST2, hDT2, hNA2, hPL2, hdis2, hcn2, hcs2⟩ := id hS2
      refine jx_callV (M2 := mm_Rd_pass) rfl tr lk_Rd_49 wi_Rd_pass ws_Rd_pass d_Rd_passNode_26 hC2 cd_Rd_pass rfl rfl (Nat.le_of_ble_eq_true rfl) (jm_fok (by omega)) (jm_look (by decide) (by omega)) ?_
      exact jx_zret d_Rd_passNode_29 rfl (by first | rfl | decide) (⟨_, rfl, (jm_fr.trans (jm_fr.put jm_fr.rf (by unfold S_rd; omega)) hfr2), by rw [p_node, if_pos (by omega), hp2]; exact ⟨rfl, hS2⟩⟩)
  ·
    refine jx_aload_n d_Rd_passNode_9 0 rfl ?_
    refine jx_iconst (v0 := 3) d_Rd_passNode_10 (by decide) ?_
    refine jx_callV (M2 := mm_Rd_refuse) rfl tr lk_Rd_64 wi_Rd_refuse ws_Rd_refuse d_Rd_passNode_11 (c_Rd_refuse l G (d - 1) (by omega) ⟨tr, r0, r1, r2, r3, r4, r5, r6, tp, ⟨ta, f0, f1, f2, f3, f4, f5, f6, tb⟩, hB, ⟨tf, g0, g1, g2, g3, g4, g5, g6, t1, t2, t3, t4, t5⟩, hST, hDT, hNA, hPL, hdis, hcn, hcs⟩) cd_Rd_refuse rfl rfl (Nat.le_of_ble_eq_true rfl) (jm_fok (by omega)) (jm_look (by decide) (by omega)) ?_
    exact jx_zret d_Rd_passNode_14 rfl (by first | rfl | decide) (⟨_, rfl, (jm_fr.put (jm_fr.put jm_fr.rf (by unfold S_rd; omega)) (by unfold S_rd; omega)), by rw [p_node, if_neg (by omega)]; exact ⟨rfl, _, _, _, _, _, _, _, _, ⟨tr, (jm_rd_k (by decide) (jm_rd_k (by decide) r0)), (jm_rd_k (by decide) (jm_rd_k (by decide) r1)), (jm_rd_k (by decide) (jm_rd_k (by decide) r2)), (jm_rd_k (by decide) (jm_rd_s _ _ _ _)), (jm_rd_s _ _ _ _), (jm_rd_k (by decide) (jm_rd_k (by decide) r5)), (jm_rd_k (by decide) (jm_rd_k (by decide) r6)), tp, ⟨ta, (jm_rd_k (by decide) (jm_rd_k (by decide) f0)), (jm_rd_k (by decide) (jm_rd_k (by decide) f1)), (jm_rd_k (by decide) (jm_rd_k (by decide) f2)), (jm_rd_k (by decide) (jm_rd_a (jm_ne_oo ta tr (by decide)) f3)), (jm_rd_a (jm_ne_oo ta tr (by decide)) (jm_rd_k (by decide) f4)), (jm_rd_k (by decide) (jm_rd_k (by decide) f5)), (jm_rd_k (by decide) (jm_rd_k (by decide) f6)), tb⟩, (fun j hj => jm_rd_a (Ne.symm (jm_ne_oa tr tb)) ((fun j hj => jm_rd_a (Ne.symm (jm_ne_oa tr tb)) (hB j hj)) j hj)), ⟨tf, (jm_rd_k (by decide) (jm_rd_k (by decide) g0)), (jm_rd_k (by decide) (jm_rd_k (by decide) g1)), (jm_rd_k (by decide) (jm_rd_k (by decide) g2)), (jm_rd_k (by decide) (jm_rd_a (jm_ne_oo tf tr (by decide)) g3)), (jm_rd_a (jm_ne_oo tf tr (by decide)) (jm_rd_k (by decide) g4)), (jm_rd_k (by decide) (jm_rd_k (by decide) g5)), (jm_rd_k (by decide) (jm_rd_k (by decide) g6)), t1, t2, t3, t4, t5⟩, (arI.keep (arI.keep hST (Ne.symm (jm_ne_oa tr t1))) (Ne.symm (jm_ne_oa tr t1))), (arI.keep (arI.keep hDT (Ne.symm (jm_ne_oa tr t2))) (Ne.symm (jm_ne_oa tr t2))), (arL.keep (arL.keep hNA (Ne.symm (jm_ne_oa tr t3))) (Ne.symm (jm_ne_oa tr t3))), (arI.keep (arI.keep hPL (Ne.symm (jm_ne_oa tr tp))) (Ne.symm (jm_ne_oa tr tp))), hdis, hcn, hcs⟩, hLb, hNb⟩⟩)
set_option maxHeartbeats 4000000 in
set_option maxRecDepth 100000 in
theorem c_Rd_passOpening (l : Launch) (G : jm_G) (d : Nat) (hd : 4 ≤ d) {h : jm_H} {r f n : Nat} {B : Nat → Int32} {c : Cur} {k L N : Nat} {ST DT : Nat → Int32} {NA : Nat → Int64} {PL : Nat → Int32} {fc fp : Int32} {nme : Int64} {dp : Nat} (hS : RdS h r f n B c k L N ST DT NA PL fc fp nme) (hn : n ≤ 2000) (hdp : dp ≤ 20) (hLb : L < 2 ^ 31) (hNb : N < 2 ^ 31) : jm_CP l G mm_Rd_passOpening d [.ref r, .int (nI dp)] h (fun v h9 => jm_fr (S_rd r f) h h9 ∧ OutX (p_open B n dp c) v h9 r f n B k L N ST DT NA PL fc fp nme) := by
  obtain ⟨tr, r0, r1, r2, r3, r4, r5, r6, tp, ⟨ta, f0, f1, f2, f3, f4, f5, f6, tb⟩, hB, ⟨tf, g0, g1, g2, g3, g4, g5, g6, t1, t2, t3, t4, t5⟩, hST, hDT, hNA, hPL, hdis, hcn, hcs⟩ := id hS
  refine jm_of (by decide) rfl (Nat.le_of_ble_eq_true rfl) ?_
  refine jx_aload_n d_Rd_passOpening_0 0 rfl ?_
  refine jx_get d_Rd_passOpening_1 fF_Rd_12 tr r0 ?_
  refine jx_get d_Rd_passOpening_4 fF_Rd_61 ta f3 ?_
  refine jx_bipush (v0 := 40) d_Rd_passOpening_7 (by decide) ?_
  refine jx_icmp_eq (tgt := 18) d_Rd_passOpening_9 (by decide) (fun c1 => ?_) (fun c1 => ?_)
  ·
    refine jx_iload_n d_Rd_passOpening_18 1 rfl ?_
    refine jx_bipush (v0 := 20) d_Rd_passOpening_19 (by decide) ?_
    refine jx_icmp_geN (tgt := 31) (dp) (20) d_Rd_passOpening_21 rfl rfl (by omega) (by omega) (by decide) (fun c2 => ?_) (fun c2 => ?_)
    ·
      refine jx_aload_n d_Rd_passOpening_31 0 rfl ?_
      refine jx_iconst (v0 := 3) d_Rd_passOpening_32 (by decide) ?_
      refine jx_callV (M2 := mm_Rd_refuse) rfl tr lk_Rd_64 wi_Rd_refuse ws_Rd_refuse d_Rd_passOpening_33 (c_Rd_refuse l G (d - 1) (by omega) ⟨tr, r0, r1, r2, r3, r4, r5, r6, tp, ⟨ta, f0, f1, f2, f3, f4, f5, f6, tb⟩, hB, ⟨tf, g0, g1, g2, g3, g4, g5, g6, t1, t2, t3, t4, t5⟩, hST, hDT, hNA, hPL, hdis, hcn, hcs⟩) cd_Rd_refuse rfl rfl (Nat.le_of_ble_eq_true rfl) (jm_fok (by omega)) (jm_look (by decide) (by omega)) ?_
      exact jx_zret d_Rd_passOpening_36 rfl (by first | rfl | decide) (⟨_, rfl, (jm_fr.put (jm_fr.put jm_fr.rf (by unfold S_rd; omega)) (by unfold S_rd; omega)), by rw [p_open, if_pos c1, if_neg (by omega)]; exact ⟨rfl, _, _, _, _, _, _, _, _, ⟨tr, (jm_rd_k (by decide) (jm_rd_k (by decide) r0)), (jm_rd_k (by decide) (jm_rd_k (by decide) r1)), (jm_rd_k (by decide) (jm_rd_k (by decide) r2)), (jm_rd_k (by decide) (jm_rd_s _ _ _ _)), (jm_rd_s _ _ _ _), (jm_rd_k (by decide) (jm_rd_k (by decide) r5)), (jm_rd_k (by decide) (jm_rd_k (by decide) r6)), tp, ⟨ta, (jm_rd_k (by decide) (jm_rd_k (by decide) f0)), (jm_rd_k (by decide) (jm_rd_k (by decide) f1)), (jm_rd_k (by decide) (jm_rd_k (by decide) f2)), (jm_rd_k (by decide) (jm_rd_a (jm_ne_oo ta tr (by decide)) f3)), (jm_rd_a (jm_ne_oo ta tr (by decide)) (jm_rd_k (by decide) f4)), (jm_rd_k (by decide) (jm_rd_k (by decide) f5)), (jm_rd_k (by decide) (jm_rd_k (by decide) f6)), tb⟩, (fun j hj => jm_rd_a (Ne.symm (jm_ne_oa tr tb)) ((fun j hj => jm_rd_a (Ne.symm (jm_ne_oa tr tb)) (hB j hj)) j hj)), ⟨tf, (jm_rd_k (by decide) (jm_rd_k (by decide) g0)), (jm_rd_k (by decide) (jm_rd_k (by decide) g1)), (jm_rd_k (by decide) (jm_rd_k (by decide) g2)), (jm_rd_k (by decide) (jm_rd_a (jm_ne_oo tf tr (by decide)) g3)), (jm_rd_a (jm_ne_oo tf tr (by decide)) (jm_rd_k (by decide) g4)), (jm_rd_k (by decide) (jm_rd_k (by decide) g5)), (jm_rd_k (by decide) (jm_rd_k (by decide) g6)), t1, t2, t3, t4, t5⟩, (arI.keep (arI.keep hST (Ne.symm (jm_ne_oa tr t1))) (Ne.symm (jm_ne_oa tr t1))), (arI.keep (arI.keep hDT (Ne.symm (jm_ne_oa tr t2))) (Ne.symm (jm_ne_oa tr t2))), (arL.keep (arL.keep hNA (Ne.symm (jm_ne_oa tr t3))) (Ne.symm (jm_ne_oa tr t3))), (arI.keep (arI.keep hPL (Ne.symm (jm_ne_oa tr tp))) (Ne.symm (jm_ne_oa tr tp))), hdis, hcn, hcs⟩, hLb, hNb⟩⟩)
    ·
      refine jx_aload_n d_Rd_passOpening_24 0 rfl ?_
      obtain ⟨v3, h3, hC3, hfr3, hq3⟩ := c_Rd_pass l G (d - 1) (by omega) (h := h) ⟨tr, r0, r1, r2, r3, r4, r5, r6, tp, ⟨ta, f0, f1, f2, f3, f4, f5, f6, tb⟩, hB, ⟨tf, g0, g1, g2, g3, g4, g5, g6, t1, t2, t3, t4, t5⟩, hST, hDT, hNA, hPL, hdis, hcn, hcs⟩ hn (by omega) (by omega)
      cases hp3 : p_pass B n c with
      | inl e3 =>
        rw [hp3] at hq3
        obtain ⟨rfl, hF3⟩ := hq3
        refine jx_callV (M2 := mm_Rd_pass) rfl tr lk_Rd_49 wi_Rd_pass ws_Rd_pass d_Rd_passOpening_25 hC3 cd_Rd_pass rfl rfl (Nat.le_of_ble_eq_true rfl) (jm_fok (by omega)) (jm_look (by decide) (by omega)) ?_
        refine jx_goto (tgt := 36) d_Rd_passOpening_28 (by decide) ?_
        exact jx_zret d_Rd_passOpening_36 rfl (by first | rfl | decide) (⟨_, rfl, (jm_fr.trans jm_fr.rf hfr3), by rw [p_open, if_pos c1, if_pos (by omega), hp3]; exact ⟨rfl, hF3⟩⟩)
      | inr c3 =>
        rw [hp3] at hq3
        obtain ⟨rfl, hS3⟩ := hq3
        obtain ⟨tr3, r03, r13, r23, r33, r43, r53, r63, tp3, ⟨ta3, f03, f13, f23, f33, f43, f53, f63, tb3⟩, hB3, ⟨tf3, g03, g13, g23, g33, g43, g53, g63, t13, t23, t33, t43, t53⟩, hST3, hDT3, hNA3, hPL3, hdis3, hcn3, hcs3⟩ := id hS3
        refine jx_callV (M2 := mm_Rd_pass) rfl tr lk_Rd_49 wi_Rd_pass ws_Rd_pass d_Rd_passOpening_25 hC3 cd_Rd_pass rfl rfl (Nat.le_of_ble_eq_true rfl) (jm_fok (by omega)) (jm_look (by decide) (by omega)) ?_
        refine jx_goto (tgt := 36) d_Rd_passOpening_28 (by decide) ?_
        exact jx_zret d_Rd_passOpening_36 rfl (by first | rfl | decide) (⟨_, rfl, (jm_fr.trans jm_fr.rf hfr3), by rw [p_open, if_pos c1, if_pos (by omega), hp3]; exact ⟨rfl, hS3⟩⟩)
  ·
    refine jx_aload_n d_Rd_passOpening_12 0 rfl ?_
    refine jx_iconst (v0 := 2) d_Rd_passOpening_13 (by decide) ?_
    refine jx_callV (M2 := mm_Rd_refuse) rfl tr lk_Rd_64 wi_Rd_refuse ws_Rd_refuse d_Rd_passOpening_14 (c_Rd_refuse l G (d - 1) (by omega) ⟨tr, r0, r1, r2, r3, r4, r5, r6, tp, ⟨ta, f0, f1, f2, f3, f4, f5, f6, tb⟩, hB, ⟨tf, g0, g1, g2, g3, g4, g5, g6, t1, t2, t3, t4, t5⟩, hST, hDT, hNA, hPL, hdis, hcn, hcs⟩) cd_Rd_refuse rfl rfl (Nat.le_of_ble_eq_true rfl) (jm_fok (by omega)) (jm_look (by decide) (by omega)) ?_
    exact jx_zret d_Rd_passOpening_17 rfl (by first | rfl | decide) (⟨_, rfl, (jm_fr.put (jm_fr.put jm_fr.rf (by unfold S_rd; omega)) (by unfold S_rd; omega)), by rw [p_open, if_neg c1]; exact ⟨rfl, _, _, _, _, _, _, _, _, ⟨tr, (jm_rd_k (by decide) (jm_rd_k (by decide) r0)), (jm_rd_k (by decide) (jm_rd_k (by decide) r1)), (jm_rd_k (by decide) (jm_rd_k (by decide) r2)), (jm_rd_k (by decide) (jm_rd_s _ _ _ _)), (jm_rd_s _ _ _ _), (jm_rd_k (by decide) (jm_rd_k (by decide) r5)), (jm_rd_k (by decide) (jm_rd_k (by decide) r6)), tp, ⟨ta, (jm_rd_k (by decide) (jm_rd_k (by decide) f0)), (jm_rd_k (by decide) (jm_rd_k (by decide) f1)), (jm_rd_k (by decide) (jm_rd_k (by decide) f2)), (jm_rd_k (by decide) (jm_rd_a (jm_ne_oo ta tr (by decide)) f3)), (jm_rd_a (jm_ne_oo ta tr (by decide)) (jm_rd_k (by decide) f4)), (jm_rd_k (by decide) (jm_rd_k (by decide) f5)), (jm_rd_k (by decide) (jm_rd_k (by decide) f6)), tb⟩, (fun j hj => jm_rd_a (Ne.symm (jm_ne_oa tr tb)) ((fun j hj => jm_rd_a (Ne.symm (jm_ne_oa tr tb)) (hB j hj)) j hj)), ⟨tf, (jm_rd_k (by decide) (jm_rd_k (by decide) g0)), (jm_rd_k (by decide) (jm_rd_k (by decide) g1)), (jm_rd_k (by decide) (jm_rd_k (by decide) g2)), (jm_rd_k (by decide) (jm_rd_a (jm_ne_oo tf tr (by decide)) g3)), (jm_rd_a (jm_ne_oo tf tr (by decide)) (jm_rd_k (by decide) g4)), (jm_rd_k (by decide) (jm_rd_k (by decide) g5)), (jm_rd_k (by decide) (jm_rd_k (by decide) g6)), t1, t2, t3, t4, t5⟩, (arI.keep (arI.keep hST (Ne.symm (jm_ne_oa tr t1))) (Ne.symm (jm_ne_oa tr t1))), (arI.keep (arI.keep hDT (Ne.symm (jm_ne_oa tr t2))) (Ne.symm (jm_ne_oa tr t2))), (arL.keep (arL.keep hNA (Ne.symm (jm_ne_oa tr t3))) (Ne.symm (jm_ne_oa tr t3))), (arI.keep (arI.keep hPL (Ne.symm (jm_ne_oa tr tp))) (Ne.symm (jm_ne_oa tr tp))), hdis, hcn, hcs⟩, hLb, hNb⟩⟩)
set_option maxHeartbeats 4000000 in
set_option maxRecDepth 100000 in
theorem c_Rd_noteName_ok (l : Launch) (G : jm_G) (d : Nat) (hd : 3 ≤ d) {h : jm_H} {r f n : Nat} {B : Nat → Int32} {c : Cur} {k L N : Nat} {ST DT : Nat → Int32} {NA : Nat → Int64} {PL : Nat → Int32} {fc fp : Int32} {nme : Int64} (hS : RdS h r f n B c k L N ST DT NA PL fc fp nme) (hL : L < 80) (hN : N < 40) (hn : n ≤ 2000) : jm_CP l G mm_Rd_noteName d [.ref r] h (fun v h9 => v = none ∧ jm_fr (S_rd r f) h h9 ∧ RdS h9 r f n B c k (L + 1) (N + 1) (jm_up ST L 2) (jm_up DT L (nI N)) (jm_up NA N c.2.2.2.1) (jm_up PL N (nI c.2.1)) fc fp nme) := by
  obtain ⟨tr, r0, r1, r2, r3, r4, r5, r6, tp, ⟨ta, f0, f1, f2, f3, f4, f5, f6, tb⟩, hB, ⟨tf, g0, g1, g2, g3, g4, g5, g6, t1, t2, t3, t4, t5⟩, hST, hDT, hNA, hPL, hdis, hcn, hcs⟩ := id hS
  refine jm_of (by decide) rfl (Nat.le_of_ble_eq_true rfl) ?_
  refine jx_aload_n d_Rd_noteName_0 0 rfl ?_
  refine jx_get d_Rd_noteName_1 fF_Rd_21 tr r1 ?_
  refine jx_get d_Rd_noteName_4 fF_Rd_107 tf g6 ?_
  refine jx_istore_n (lv' := [(1, .int (nI (N))), (0, .ref (r))]) d_Rd_noteName_7 (by decide) rfl ?_
  refine jx_iload_n d_Rd_noteName_8 0 rfl ?_
  refine jx_if_ltN (tgt := 34) (N) d_Rd_noteName_9 rfl (by omega) (by decide) (fun c1 => ?_) (fun c1 => ?_)
  · omega
  ·
    refine jx_iload_n d_Rd_noteName_12 0 rfl ?_
    refine jx_aload_n d_Rd_noteName_13 1 rfl ?_
    refine jx_get d_Rd_noteName_14 fF_Rd_39 tr r6 ?_
    refine jx_alen (v0 := 40) d_Rd_noteName_17 tp (by decide) ?_
    refine jx_icmp_geN (tgt := 34) (N) (40) d_Rd_noteName_18 rfl rfl (by omega) (by omega) (by decide) (fun c2 => ?_) (fun c2 => ?_)
    · omega
    ·
      refine jx_aload_n d_Rd_noteName_21 1 rfl ?_
      refine jx_get d_Rd_noteName_22 fF_Rd_39 tr r6 ?_
      refine jx_iload_n d_Rd_noteName_25 0 rfl ?_
      refine jx_aload_n d_Rd_noteName_26 1 rfl ?_
      refine jx_get d_Rd_noteName_27 fF_Rd_12 tr r0 ?_
      refine jx_get d_Rd_noteName_30 fF_Rd_67 ta f4 ?_
      refine jx_iast d_Rd_noteName_33 tp rfl (jm_vinN (by omega) (by decide)) ?_
      rw [jm_putN (by omega)]
      refine jx_aload_n d_Rd_noteName_34 1 rfl ?_
      refine jx_get d_Rd_noteName_35 fF_Rd_21 tr (jm_rd_a (jm_ne_oa tr tp) r1) ?_
      refine jx_aload_n d_Rd_noteName_38 1 rfl ?_
      refine jx_get d_Rd_noteName_39 fF_Rd_12 tr (jm_rd_a (jm_ne_oa tr tp) r0) ?_
      refine jx_get d_Rd_noteName_42 fF_Rd_53 ta (jm_rd_a (jm_ne_oa ta tp) f5) ?_
      refine jx_callV (M2 := mm_Fm_addName) rfl tf lk_Rd_110 wi_Fm_addName ws_Fm_addName d_Rd_noteName_45 (c_Fm_addName l G (d - 2) ⟨tf, (jm_rd_a (jm_ne_oa tf tp) g0), (jm_rd_a (jm_ne_oa tf tp) g1), (jm_rd_a (jm_ne_oa tf tp) g2), (jm_rd_a (jm_ne_oa tf tp) g3), (jm_rd_a (jm_ne_oa tf tp) g4), (jm_rd_a (jm_ne_oa tf tp) g5), (jm_rd_a (jm_ne_oa tf tp) g6), t1, t2, t3, t4, t5⟩ (by omega) (by omega)) cd_Fm_addName rfl rfl (Nat.le_of_ble_eq_true rfl) (jm_fok (by omega)) (jm_look (by decide) (by omega)) ?_
      exact jx_vret d_Rd_noteName_48 rfl (⟨_, rfl, rfl, (jm_fr.put (jm_fr.put (jm_fr.put (jm_fr.put (jm_fr.put (jm_fr.put jm_fr.rf (by unfold S_rd; omega)) (by unfold S_rd; omega)) (by unfold S_rd; omega)) (by unfold S_rd; omega)) (by unfold S_rd; omega)) (by unfold S_rd; omega)), ⟨tr, (jm_rd_k (by decide) (jm_rd_k (by decide) (jm_rd_a (jm_ne_oa tr t2) (jm_rd_a (jm_ne_oa tr t1) (jm_rd_a (jm_ne_oa tr t3) (jm_rd_a (jm_ne_oa tr tp) r0)))))), (jm_rd_k (by decide) (jm_rd_k (by decide) (jm_rd_a (jm_ne_oa tr t2) (jm_rd_a (jm_ne_oa tr t1) (jm_rd_a (jm_ne_oa tr t3) (jm_rd_a (jm_ne_oa tr tp) r1)))))), (jm_rd_k (by decide) (jm_rd_a (jm_ne_oo tr tf (by decide)) (jm_rd_a (jm_ne_oa tr t2) (jm_rd_a (jm_ne_oa tr t1) (jm_rd_a (jm_ne_oa tr t3) (jm_rd_a (jm_ne_oa tr tp) r2)))))), (jm_rd_k (by decide) (jm_rd_k (by decide) (jm_rd_a (jm_ne_oa tr t2) (jm_rd_a (jm_ne_oa tr t1) (jm_rd_a (jm_ne_oa tr t3) (jm_rd_a (jm_ne_oa tr tp) r3)))))), (jm_rd_k (by decide) (jm_rd_k (by decide) (jm_rd_a (jm_ne_oa tr t2) (jm_rd_a (jm_ne_oa tr t1) (jm_rd_a (jm_ne_oa tr t3) (jm_rd_a (jm_ne_oa tr tp) r4)))))), (jm_rd_k (by decide) (jm_rd_k (by decide) (jm_rd_a (jm_ne_oa tr t2) (jm_rd_a (jm_ne_oa tr t1) (jm_rd_a (jm_ne_oa tr t3) (jm_rd_a (jm_ne_oa tr tp) r5)))))), (jm_rd_a (jm_ne_oo tr tf (by decide)) (jm_rd_k (by decide) (jm_rd_a (jm_ne_oa tr t2) (jm_rd_a (jm_ne_oa tr t1) (jm_rd_a (jm_ne_oa tr t3) (jm_rd_a (jm_ne_oa tr tp) r6)))))), tp, ⟨ta, (jm_rd_k (by decide) (jm_rd_k (by decide) (jm_rd_a (jm_ne_oa ta t2) (jm_rd_a (jm_ne_oa ta t1) (jm_rd_a (jm_ne_oa ta t3) (jm_rd_a (jm_ne_oa ta tp) f0)))))), (jm_rd_k (by decide) (jm_rd_k (by decide) (jm_rd_a (jm_ne_oa ta t2) (jm_rd_a (jm_ne_oa ta t1) (jm_rd_a (jm_ne_oa ta t3) (jm_rd_a (jm_ne_oa ta tp) f1)))))), (jm_rd_k (by decide) (jm_rd_a (jm_ne_oo ta tf (by decide)) (jm_rd_a (jm_ne_oa ta t2) (jm_rd_a (jm_ne_oa ta t1) (jm_rd_a (jm_ne_oa ta t3) (jm_rd_a (jm_ne_oa ta tp) f2)))))), (jm_rd_k (by decide) (jm_rd_k (by decide) (jm_rd_a (jm_ne_oa ta t2) (jm_rd_a (jm_ne_oa ta t1) (jm_rd_a (jm_ne_oa ta t3) (jm_rd_a (jm_ne_oa ta tp) f3)))))), (jm_rd_k (by decide) (jm_rd_k (by decide) (jm_rd_a (jm_ne_oa ta t2) (jm_rd_a (jm_ne_oa ta t1) (jm_rd_a (jm_ne_oa ta t3) (jm_rd_a (jm_ne_oa ta tp) f4)))))), (jm_rd_k (by decide) (jm_rd_k (by decide) (jm_rd_a (jm_ne_oa ta t2) (jm_rd_a (jm_ne_oa ta t1) (jm_rd_a (jm_ne_oa ta t3) (jm_rd_a (jm_ne_oa ta tp) f5)))))), (jm_rd_a (jm_ne_oo ta tf (by decide)) (jm_rd_k (by decide) (jm_rd_a (jm_ne_oa ta t2) (jm_rd_a (jm_ne_oa ta t1) (jm_rd_a (jm_ne_oa ta t3) (jm_rd_a (jm_ne_oa ta tp) f6)))))), tb⟩, (fun j hj => jm_rd_a (Ne.symm (jm_ne_oa tf tb)) ((fun j hj => jm_rd_a (Ne.symm (jm_ne_oa tf tb)) ((fun j hj => jm_rd_a (jm_ne_aa tb t2 (by decide)) ((fun j hj => jm_rd_a (jm_ne_aa tb t1 (by decide)) ((fun j hj => jm_rd_a (jm_ne_aa tb t3 (by decide)) ((fun j hj => jm_rd_a (jm_ne_aa tb tp (by decide)) (hB j hj)) j hj)) j hj)) j hj)) j hj)) j hj)), ⟨tf, (jm_rd_k (by decide) (jm_rd_k (by decide) (jm_rd_a (jm_ne_oa tf t2) (jm_rd_a (jm_ne_oa tf t1) (jm_rd_a (jm_ne_oa tf t3) (jm_rd_a (jm_ne_oa tf tp) g0)))))), (jm_rd_k (by decide) (jm_rd_k (by decide) (jm_rd_a (jm_ne_oa tf t2) (jm_rd_a (jm_ne_oa tf t1) (jm_rd_a (jm_ne_oa tf t3) (jm_rd_a (jm_ne_oa tf tp) g1)))))), (jm_rd_k (by decide) (jm_rd_s _ _ _ _)), (jm_rd_k (by decide) (jm_rd_k (by decide) (jm_rd_a (jm_ne_oa tf t2) (jm_rd_a (jm_ne_oa tf t1) (jm_rd_a (jm_ne_oa tf t3) (jm_rd_a (jm_ne_oa tf tp) g3)))))), (jm_rd_k (by decide) (jm_rd_k (by decide) (jm_rd_a (jm_ne_oa tf t2) (jm_rd_a (jm_ne_oa tf t1) (jm_rd_a (jm_ne_oa tf t3) (jm_rd_a (jm_ne_oa tf tp) g4)))))), (jm_rd_k (by decide) (jm_rd_k (by decide) (jm_rd_a (jm_ne_oa tf t2) (jm_rd_a (jm_ne_oa tf t1) (jm_rd_a (jm_ne_oa tf t3) (jm_rd_a (jm_ne_oa tf tp) g5)))))), (jm_rd_s _ _ _ _), t1, t2, t3, t4, t5⟩, (arI.keep (arI.keep (arI.keep (arI.put (arI.keep (arI.keep hST (by omega)) (jm_ne_aa t1 t3 (by decide)))) (by omega)) (Ne.symm (jm_ne_oa tf t1))) (Ne.symm (jm_ne_oa tf t1))), (arI.keep (arI.keep (arI.put (arI.keep (arI.keep (arI.keep hDT (by omega)) (jm_ne_aa t2 t3 (by decide))) (by omega))) (Ne.symm (jm_ne_oa tf t2))) (Ne.symm (jm_ne_oa tf t2))), (arL.keep (arL.keep (arL.keep (arL.keep (arL.put (arL.keep hNA (jm_ne_aa t3 tp (by decide)))) (jm_ne_aa t3 t1 (by decide))) (jm_ne_aa t3 t2 (by decide))) (Ne.symm (jm_ne_oa tf t3))) (Ne.symm (jm_ne_oa tf t3))), (arI.keep (arI.keep (arI.keep (arI.keep (arI.keep (arI.put hPL) (jm_ne_aa tp t3 (by decide))) (by omega)) (by omega)) (Ne.symm (jm_ne_oa tf tp))) (Ne.symm (jm_ne_oa tf tp))), hdis, hcn, hcs⟩⟩)
set_option maxHeartbeats 4000000 in
set_option maxRecDepth 100000 in
theorem c_Rd_noteName_fullN (l : Launch) (G : jm_G) (d : Nat) (hd : 3 ≤ d) {h : jm_H} {r f n : Nat} {B : Nat → Int32} {c : Cur} {k L N : Nat} {ST DT : Nat → Int32} {NA : Nat → Int64} {PL : Nat → Int32} {fc fp : Int32} {nme : Int64} (hS : RdS h r f n B c k L N ST DT NA PL fc fp nme) (hN : 40 ≤ N) (hN2 : N < 2 ^ 31) (hn : n ≤ 2000) : jm_CP l G mm_Rd_noteName d [.ref r] h (fun v h9 => v = none ∧ jm_fr (S_rd r f) h h9 ∧ RdS h9 r f n B c k L N ST DT NA PL fc fp nme) := by
  obtain ⟨tr, r0, r1, r2, r3, r4, r5, r6, tp, ⟨ta, f0, f1, f2, f3, f4, f5, f6, tb⟩, hB, ⟨tf, g0, g1, g2, g3, g4, g5, g6, t1, t2, t3, t4, t5⟩, hST, hDT, hNA, hPL, hdis, hcn, hcs⟩ := id hS
  refine jm_of (by decide) rfl (Nat.le_of_ble_eq_true rfl) ?_
  refine jx_aload_n d_Rd_noteName_0 0 rfl ?_
  refine jx_get d_Rd_noteName_1 fF_Rd_21 tr r1 ?_
  refine jx_get d_Rd_noteName_4 fF_Rd_107 tf g6 ?_
  refine jx_istore_n (lv' := [(1, .int (nI (N))), (0, .ref (r))]) d_Rd_noteName_7 (by decide) rfl ?_
  refine jx_iload_n d_Rd_noteName_8 0 rfl ?_
  refine jx_if_ltN (tgt := 34) (N) d_Rd_noteName_9 rfl (by omega) (by decide) (fun c1 => ?_) (fun c1 => ?_)
  · omega
  ·
    refine jx_iload_n d_Rd_noteName_12 0 rfl ?_
    refine jx_aload_n d_Rd_noteName_13 1 rfl ?_
    refine jx_get d_Rd_noteName_14 fF_Rd_39 tr r6 ?_
    refine jx_alen (v0 := 40) d_Rd_noteName_17 tp (by decide) ?_
    refine jx_icmp_geN (tgt := 34) (N) (40) d_Rd_noteName_18 rfl rfl (by omega) (by omega) (by decide) (fun c2 => ?_) (fun c2 => ?_)
    ·
      refine jx_aload_n d_Rd_noteName_34 1 rfl ?_
      refine jx_get d_Rd_noteName_35 fF_Rd_21 tr r1 ?_
      refine jx_aload_n d_Rd_noteName_38 1 rfl ?_
      refine jx_get d_Rd_noteName_39 fF_Rd_12 tr r0 ?_
      refine jx_get d_Rd_noteName_42 fF_Rd_53 ta f5 ?_
      refine jx_callV (M2 := mm_Fm_addName) rfl tf lk_Rd_110 wi_Fm_addName ws_Fm_addName d_Rd_noteName_45 (c_Fm_addName_full l G (d - 1) ⟨tf, g0, g1, g2, g3, g4, g5, g6, t1, t2, t3, t4, t5⟩ (by omega) (by omega)) cd_Fm_addName rfl rfl (Nat.le_of_ble_eq_true rfl) (jm_fok (by omega)) (jm_look (by decide) (by omega)) ?_
      exact jx_vret d_Rd_noteName_48 rfl (⟨_, rfl, rfl, jm_fr.rf, ⟨tr, r0, r1, r2, r3, r4, r5, r6, tp, ⟨ta, f0, f1, f2, f3, f4, f5, f6, tb⟩, hB, ⟨tf, g0, g1, g2, g3, g4, g5, g6, t1, t2, t3, t4, t5⟩, hST, hDT, hNA, hPL, hdis, hcn, hcs⟩⟩)
    · omega
set_option maxHeartbeats 4000000 in
set_option maxRecDepth 100000 in
theorem c_Rd_noteName_fullS (l : Launch) (G : jm_G) (d : Nat) (hd : 3 ≤ d) {h : jm_H} {r f n : Nat} {B : Nat → Int32} {c : Cur} {k L N : Nat} {ST DT : Nat → Int32} {NA : Nat → Int64} {PL : Nat → Int32} {fc fp : Int32} {nme : Int64} (hS : RdS h r f n B c k L N ST DT NA PL fc fp nme) (hL : 80 ≤ L) (hL2 : L < 2 ^ 31) (hN : N < 40) (hn : n ≤ 2000) : jm_CP l G mm_Rd_noteName d [.ref r] h (fun v h9 => v = none ∧ jm_fr (S_rd r f) h h9 ∧ ∃ NA9 PL9, RdS h9 r f n B c k L (N + 1) ST DT NA9 PL9 fc fp nme) := by
  obtain ⟨tr, r0, r1, r2, r3, r4, r5, r6, tp, ⟨ta, f0, f1, f2, f3, f4, f5, f6, tb⟩, hB, ⟨tf, g0, g1, g2, g3, g4, g5, g6, t1, t2, t3, t4, t5⟩, hST, hDT, hNA, hPL, hdis, hcn, hcs⟩ := id hS
  refine jm_of (by decide) rfl (Nat.le_of_ble_eq_true rfl) ?_
  refine jx_aload_n d_Rd_noteName_0 0 rfl ?_
  refine jx_get d_Rd_noteName_1 fF_Rd_21 tr r1 ?_
  refine jx_get d_Rd_noteName_4 fF_Rd_107 tf g6 ?_
  refine jx_istore_n (lv' := [(1, .int (nI (N))), (0, .ref (r))]) d_Rd_noteName_7 (by decide) rfl ?_
  refine jx_iload_n d_Rd_noteName_8 0 rfl ?_
  refine jx_if_ltN (tgt := 34) (N) d_Rd_noteName_9 rfl (by omega) (by decide) (fun c1 => ?_) (fun c1 => ?_)
  · omega
  ·
    refine jx_iload_n d_Rd_noteName_12 0 rfl ?_
    refine jx_aload_n d_Rd_noteName_13 1 rfl ?_
    refine jx_get d_Rd_noteName_14 fF_Rd_39 tr r6 ?_
    refine jx_alen (v0 := 40) d_Rd_noteName_17 tp (by decide) ?_
    refine jx_icmp_geN (tgt := 34) (N) (40) d_Rd_noteName_18 rfl rfl (by omega) (by omega) (by decide) (fun c2 => ?_) (fun c2 => ?_)
    · omega
    ·
      refine jx_aload_n d_Rd_noteName_21 1 rfl ?_
      refine jx_get d_Rd_noteName_22 fF_Rd_39 tr r6 ?_
      refine jx_iload_n d_Rd_noteName_25 0 rfl ?_
      refine jx_aload_n d_Rd_noteName_26 1 rfl ?_
      refine jx_get d_Rd_noteName_27 fF_Rd_12 tr r0 ?_
      refine jx_get d_Rd_noteName_30 fF_Rd_67 ta f4 ?_
      refine jx_iast d_Rd_noteName_33 tp rfl (jm_vinN (by omega) (by decide)) ?_
      rw [jm_putN (by omega)]
      refine jx_aload_n d_Rd_noteName_34 1 rfl ?_
      refine jx_get d_Rd_noteName_35 fF_Rd_21 tr (jm_rd_a (jm_ne_oa tr tp) r1) ?_
      refine jx_aload_n d_Rd_noteName_38 1 rfl ?_
      refine jx_get d_Rd_noteName_39 fF_Rd_12 tr (jm_rd_a (jm_ne_oa tr tp) r0) ?_
      refine jx_get d_Rd_noteName_42 fF_Rd_53 ta (jm_rd_a (jm_ne_oa ta tp) f5) ?_
      refine jx_callV (M2 := mm_Fm_addName) rfl tf lk_Rd_110 wi_Fm_addName ws_Fm_addName d_Rd_noteName_45 (c_Fm_addName_fullS l G (d - 2) ⟨tf, (jm_rd_a (jm_ne_oa tf tp) g0), (jm_rd_a (jm_ne_oa tf tp) g1), (jm_rd_a (jm_ne_oa tf tp) g2), (jm_rd_a (jm_ne_oa tf tp) g3), (jm_rd_a (jm_ne_oa tf tp) g4), (jm_rd_a (jm_ne_oa tf tp) g5), (jm_rd_a (jm_ne_oa tf tp) g6), t1, t2, t3, t4, t5⟩ (by omega) (by omega) (by omega)) cd_Fm_addName rfl rfl (Nat.le_of_ble_eq_true rfl) (jm_fok (by omega)) (jm_look (by decide) (by omega)) ?_
      exact jx_vret d_Rd_noteName_48 rfl (⟨_, rfl, rfl, (jm_fr.put (jm_fr.put (jm_fr.put jm_fr.rf (by unfold S_rd; omega)) (by unfold S_rd; omega)) (by unfold S_rd; omega)), _, _, tr, (jm_rd_k (by decide) (jm_rd_a (jm_ne_oa tr t3) (jm_rd_a (jm_ne_oa tr tp) r0))), (jm_rd_k (by decide) (jm_rd_a (jm_ne_oa tr t3) (jm_rd_a (jm_ne_oa tr tp) r1))), (jm_rd_k (by decide) (jm_rd_a (jm_ne_oa tr t3) (jm_rd_a (jm_ne_oa tr tp) r2))), (jm_rd_k (by decide) (jm_rd_a (jm_ne_oa tr t3) (jm_rd_a (jm_ne_oa tr tp) r3))), (jm_rd_k (by decide) (jm_rd_a (jm_ne_oa tr t3) (jm_rd_a (jm_ne_oa tr tp) r4))), (jm_rd_k (by decide) (jm_rd_a (jm_ne_oa tr t3) (jm_rd_a (jm_ne_oa tr tp) r5))), (jm_rd_a (jm_ne_oo tr tf (by decide)) (jm_rd_a (jm_ne_oa tr t3) (jm_rd_a (jm_ne_oa tr tp) r6))), tp, ⟨ta, (jm_rd_k (by decide) (jm_rd_a (jm_ne_oa ta t3) (jm_rd_a (jm_ne_oa ta tp) f0))), (jm_rd_k (by decide) (jm_rd_a (jm_ne_oa ta t3) (jm_rd_a (jm_ne_oa ta tp) f1))), (jm_rd_k (by decide) (jm_rd_a (jm_ne_oa ta t3) (jm_rd_a (jm_ne_oa ta tp) f2))), (jm_rd_k (by decide) (jm_rd_a (jm_ne_oa ta t3) (jm_rd_a (jm_ne_oa ta tp) f3))), (jm_rd_k (by decide) (jm_rd_a (jm_ne_oa ta t3) (jm_rd_a (jm_ne_oa ta tp) f4))), (jm_rd_k (by decide) (jm_rd_a (jm_ne_oa ta t3) (jm_rd_a (jm_ne_oa ta tp) f5))), (jm_rd_a (jm_ne_oo ta tf (by decide)) (jm_rd_a (jm_ne_oa ta t3) (jm_rd_a (jm_ne_oa ta tp) f6))), tb⟩, (fun j hj => jm_rd_a (Ne.symm (jm_ne_oa tf tb)) ((fun j hj => jm_rd_a (jm_ne_aa tb t3 (by decide)) ((fun j hj => jm_rd_a (jm_ne_aa tb tp (by decide)) (hB j hj)) j hj)) j hj)), ⟨tf, (jm_rd_k (by decide) (jm_rd_a (jm_ne_oa tf t3) (jm_rd_a (jm_ne_oa tf tp) g0))), (jm_rd_k (by decide) (jm_rd_a (jm_ne_oa tf t3) (jm_rd_a (jm_ne_oa tf tp) g1))), (jm_rd_k (by decide) (jm_rd_a (jm_ne_oa tf t3) (jm_rd_a (jm_ne_oa tf tp) g2))), (jm_rd_k (by decide) (jm_rd_a (jm_ne_oa tf t3) (jm_rd_a (jm_ne_oa tf tp) g3))), (jm_rd_k (by decide) (jm_rd_a (jm_ne_oa tf t3) (jm_rd_a (jm_ne_oa tf tp) g4))), (jm_rd_k (by decide) (jm_rd_a (jm_ne_oa tf t3) (jm_rd_a (jm_ne_oa tf tp) g5))), (jm_rd_s _ _ _ _), t1, t2, t3, t4, t5⟩, (arI.keep (arI.keep (arI.keep hST (by omega)) (jm_ne_aa t1 t3 (by decide))) (Ne.symm (jm_ne_oa tf t1))), (arI.keep (arI.keep (arI.keep hDT (by omega)) (jm_ne_aa t2 t3 (by decide))) (Ne.symm (jm_ne_oa tf t2))), (arL.keep (arL.put (arL.keep hNA (jm_ne_aa t3 tp (by decide)))) (Ne.symm (jm_ne_oa tf t3))), (arI.keep (arI.keep (arI.put hPL) (jm_ne_aa tp t3 (by decide))) (Ne.symm (jm_ne_oa tf tp))), hdis, hcn, hcs⟩)
end
