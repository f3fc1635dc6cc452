theorem d_CW_init_0 : decode mm_CW_init.2.1 0 = .ok (.aload_n 0, 1) := by decide +kernel
theorem d_CW_init_1 : decode mm_CW_init.2.1 1 = .ok (.invokespecial 3, 3) := by decide +kernel
theorem d_CW_init_4 : decode mm_CW_init.2.1 4 = .ok (.aload_n 0, 1) := by decide +kernel
theorem d_CW_init_5 : decode mm_CW_init.2.1 5 = .ok (.new 9, 3) := by decide +kernel
theorem d_CW_init_8 : decode mm_CW_init.2.1 8 = .ok (.dup, 1) := by decide +kernel
theorem d_CW_init_9 : decode mm_CW_init.2.1 9 = .ok (.invokespecial 11, 3) := by decide +kernel
theorem d_CW_init_12 : decode mm_CW_init.2.1 12 = .ok (.putfield 12, 3) := by decide +kernel
theorem d_CW_init_15 : decode mm_CW_init.2.1 15 = .ok (.aload_n 0, 1) := by decide +kernel
theorem d_CW_init_16 : decode mm_CW_init.2.1 16 = .ok (.new 16, 3) := by decide +kernel
theorem d_CW_init_19 : decode mm_CW_init.2.1 19 = .ok (.dup, 1) := by decide +kernel
theorem d_CW_init_20 : decode mm_CW_init.2.1 20 = .ok (.invokespecial 18, 3) := by decide +kernel
theorem d_CW_init_23 : decode mm_CW_init.2.1 23 = .ok (.putfield 19, 3) := by decide +kernel
theorem d_CW_init_26 : decode mm_CW_init.2.1 26 = .ok (.aload_n 0, 1) := by decide +kernel
theorem d_CW_init_27 : decode mm_CW_init.2.1 27 = .ok (.new 23, 3) := by decide +kernel
theorem d_CW_init_30 : decode mm_CW_init.2.1 30 = .ok (.dup, 1) := by decide +kernel
theorem d_CW_init_31 : decode mm_CW_init.2.1 31 = .ok (.invokespecial 25, 3) := by decide +kernel
theorem d_CW_init_34 : decode mm_CW_init.2.1 34 = .ok (.putfield 26, 3) := by decide +kernel
theorem d_CW_init_37 : decode mm_CW_init.2.1 37 = .ok (.return_, 1) := by decide +kernel
theorem d_Rd_init_0 : decode mm_Rd_init.2.1 0 = .ok (.aload_n 0, 1) := by decide +kernel
theorem d_Rd_init_1 : decode mm_Rd_init.2.1 1 = .ok (.invokespecial 3, 3) := by decide +kernel
theorem d_Rd_init_4 : decode mm_Rd_init.2.1 4 = .ok (.aload_n 0, 1) := by decide +kernel
theorem d_Rd_init_5 : decode mm_Rd_init.2.1 5 = .ok (.new 9, 3) := by decide +kernel
theorem d_Rd_init_8 : decode mm_Rd_init.2.1 8 = .ok (.dup, 1) := by decide +kernel
theorem d_Rd_init_9 : decode mm_Rd_init.2.1 9 = .ok (.invokespecial 11, 3) := by decide +kernel
theorem d_Rd_init_12 : decode mm_Rd_init.2.1 12 = .ok (.putfield 12, 3) := by decide +kernel
theorem d_Rd_init_15 : decode mm_Rd_init.2.1 15 = .ok (.aload_n 0, 1) := by decide +kernel
theorem d_Rd_init_16 : decode mm_Rd_init.2.1 16 = .ok (.new 18, 3) := by decide +kernel
theorem d_Rd_init_19 : decode mm_Rd_init.2.1 19 = .ok (.dup, 1) := by decide +kernel
theorem d_Rd_init_20 : decode mm_Rd_init.2.1 20 = .ok (.invokespecial 20, 3) := by decide +kernel
theorem d_Rd_init_23 : decode mm_Rd_init.2.1 23 = .ok (.putfield 21, 3) := by decide +kernel
theorem d_Rd_init_26 : decode mm_Rd_init.2.1 26 = .ok (.aload_n 0, 1) := by decide +kernel
theorem d_Rd_init_27 : decode mm_Rd_init.2.1 27 = .ok (.lconst 0, 1) := by decide +kernel
theorem d_Rd_init_28 : decode mm_Rd_init.2.1 28 = .ok (.putfield 25, 3) := by decide +kernel
theorem d_Rd_init_31 : decode mm_Rd_init.2.1 31 = .ok (.aload_n 0, 1) := by decide +kernel
theorem d_Rd_init_32 : decode mm_Rd_init.2.1 32 = .ok (.iconst 0, 1) := by decide +kernel
theorem d_Rd_init_33 : decode mm_Rd_init.2.1 33 = .ok (.putfield 29, 3) := by decide +kernel
theorem d_Rd_init_36 : decode mm_Rd_init.2.1 36 = .ok (.aload_n 0, 1) := by decide +kernel
theorem d_Rd_init_37 : decode mm_Rd_init.2.1 37 = .ok (.iconst 0, 1) := by decide +kernel
theorem d_Rd_init_38 : decode mm_Rd_init.2.1 38 = .ok (.putfield 33, 3) := by decide +kernel
theorem d_Rd_init_41 : decode mm_Rd_init.2.1 41 = .ok (.aload_n 0, 1) := by decide +kernel
theorem d_Rd_init_42 : decode mm_Rd_init.2.1 42 = .ok (.iconst 0, 1) := by decide +kernel
theorem d_Rd_init_43 : decode mm_Rd_init.2.1 43 = .ok (.putfield 36, 3) := by decide +kernel
theorem d_Rd_init_46 : decode mm_Rd_init.2.1 46 = .ok (.aload_n 0, 1) := by decide +kernel
theorem d_Rd_init_47 : decode mm_Rd_init.2.1 47 = .ok (.bipush 40, 2) := by decide +kernel
theorem d_Rd_init_49 : decode mm_Rd_init.2.1 49 = .ok (.newarray .int, 2) := by decide +kernel
theorem d_Rd_init_51 : decode mm_Rd_init.2.1 51 = .ok (.putfield 39, 3) := by decide +kernel
theorem d_Rd_init_54 : decode mm_Rd_init.2.1 54 = .ok (.return_, 1) := by decide +kernel
theorem d_Tp_init_0 : decode mm_Tp_init.2.1 0 = .ok (.aload_n 0, 1) := by decide +kernel
theorem d_Tp_init_1 : decode mm_Tp_init.2.1 1 = .ok (.invokespecial 3, 3) := by decide +kernel
theorem d_Tp_init_4 : decode mm_Tp_init.2.1 4 = .ok (.aload_n 0, 1) := by decide +kernel
theorem d_Tp_init_5 : decode mm_Tp_init.2.1 5 = .ok (.sipush 2000, 3) := by decide +kernel
theorem d_Tp_init_8 : decode mm_Tp_init.2.1 8 = .ok (.newarray .byte, 2) := by decide +kernel
theorem d_Tp_init_10 : decode mm_Tp_init.2.1 10 = .ok (.putfield 9, 3) := by decide +kernel
theorem d_Tp_init_13 : decode mm_Tp_init.2.1 13 = .ok (.aload_n 0, 1) := by decide +kernel
theorem d_Tp_init_14 : decode mm_Tp_init.2.1 14 = .ok (.iconst 0, 1) := by decide +kernel
theorem d_Tp_init_15 : decode mm_Tp_init.2.1 15 = .ok (.putfield 15, 3) := by decide +kernel
theorem d_Tp_init_18 : decode mm_Tp_init.2.1 18 = .ok (.aload_n 0, 1) := by decide +kernel
theorem d_Tp_init_19 : decode mm_Tp_init.2.1 19 = .ok (.iconst 0, 1) := by decide +kernel
theorem d_Tp_init_20 : decode mm_Tp_init.2.1 20 = .ok (.putfield 19, 3) := by decide +kernel
theorem d_Tp_init_23 : decode mm_Tp_init.2.1 23 = .ok (.aload_n 0, 1) := by decide +kernel
theorem d_Tp_init_24 : decode mm_Tp_init.2.1 24 = .ok (.iconst 0, 1) := by decide +kernel
theorem d_Tp_init_25 : decode mm_Tp_init.2.1 25 = .ok (.putfield 22, 3) := by decide +kernel
theorem d_Tp_init_28 : decode mm_Tp_init.2.1 28 = .ok (.aload_n 0, 1) := by decide +kernel
theorem d_Tp_init_29 : decode mm_Tp_init.2.1 29 = .ok (.iconst 0, 1) := by decide +kernel
theorem d_Tp_init_30 : decode mm_Tp_init.2.1 30 = .ok (.putfield 25, 3) := by decide +kernel
theorem d_Tp_init_33 : decode mm_Tp_init.2.1 33 = .ok (.aload_n 0, 1) := by decide +kernel
theorem d_Tp_init_34 : decode mm_Tp_init.2.1 34 = .ok (.lconst 0, 1) := by decide +kernel
theorem d_Tp_init_35 : decode mm_Tp_init.2.1 35 = .ok (.putfield 28, 3) := by decide +kernel
theorem d_Tp_init_38 : decode mm_Tp_init.2.1 38 = .ok (.aload_n 0, 1) := by decide +kernel
theorem d_Tp_init_39 : decode mm_Tp_init.2.1 39 = .ok (.iconst 0, 1) := by decide +kernel
theorem d_Tp_init_40 : decode mm_Tp_init.2.1 40 = .ok (.putfield 32, 3) := by decide +kernel
theorem d_Tp_init_43 : decode mm_Tp_init.2.1 43 = .ok (.return_, 1) := by decide +kernel
theorem d_Fm_init_0 : decode mm_Fm_init.2.1 0 = .ok (.aload_n 0, 1) := by decide +kernel
theorem d_Fm_init_1 : decode mm_Fm_init.2.1 1 = .ok (.invokespecial 3, 3) := by decide +kernel
theorem d_Fm_init_4 : decode mm_Fm_init.2.1 4 = .ok (.aload_n 0, 1) := by decide +kernel
theorem d_Fm_init_5 : decode mm_Fm_init.2.1 5 = .ok (.bipush 80, 2) := by decide +kernel
theorem d_Fm_init_7 : decode mm_Fm_init.2.1 7 = .ok (.newarray .int, 2) := by decide +kernel
theorem d_Fm_init_9 : decode mm_Fm_init.2.1 9 = .ok (.putfield 9, 3) := by decide +kernel
theorem d_Fm_init_12 : decode mm_Fm_init.2.1 12 = .ok (.aload_n 0, 1) := by decide +kernel
theorem d_Fm_init_13 : decode mm_Fm_init.2.1 13 = .ok (.bipush 80, 2) := by decide +kernel
theorem d_Fm_init_15 : decode mm_Fm_init.2.1 15 = .ok (.newarray .int, 2) := by decide +kernel
theorem d_Fm_init_17 : decode mm_Fm_init.2.1 17 = .ok (.putfield 15, 3) := by decide +kernel
theorem d_Fm_init_20 : decode mm_Fm_init.2.1 20 = .ok (.aload_n 0, 1) := by decide +kernel
theorem d_Fm_init_21 : decode mm_Fm_init.2.1 21 = .ok (.iconst 0, 1) := by decide +kernel
theorem d_Fm_init_22 : decode mm_Fm_init.2.1 22 = .ok (.putfield 18, 3) := by decide +kernel
theorem d_Fm_init_25 : decode mm_Fm_init.2.1 25 = .ok (.aload_n 0, 1) := by decide +kernel
theorem d_Fm_init_26 : decode mm_Fm_init.2.1 26 = .ok (.bipush 40, 2) := by decide +kernel
theorem d_Fm_init_28 : decode mm_Fm_init.2.1 28 = .ok (.newarray .long, 2) := by decide +kernel
theorem d_Fm_init_30 : decode mm_Fm_init.2.1 30 = .ok (.putfield 22, 3) := by decide +kernel
theorem d_Fm_init_33 : decode mm_Fm_init.2.1 33 = .ok (.aload_n 0, 1) := by decide +kernel
theorem d_Fm_init_34 : decode mm_Fm_init.2.1 34 = .ok (.bipush 40, 2) := by decide +kernel
theorem d_Fm_init_36 : decode mm_Fm_init.2.1 36 = .ok (.newarray .int, 2) := by decide +kernel
theorem d_Fm_init_38 : decode mm_Fm_init.2.1 38 = .ok (.putfield 26, 3) := by decide +kernel
theorem d_Fm_init_41 : decode mm_Fm_init.2.1 41 = .ok (.aload_n 0, 1) := by decide +kernel
theorem d_Fm_init_42 : decode mm_Fm_init.2.1 42 = .ok (.bipush 40, 2) := by decide +kernel
theorem d_Fm_init_44 : decode mm_Fm_init.2.1 44 = .ok (.newarray .long, 2) := by decide +kernel
theorem d_Fm_init_46 : decode mm_Fm_init.2.1 46 = .ok (.putfield 29, 3) := by decide +kernel
theorem d_Fm_init_49 : decode mm_Fm_init.2.1 49 = .ok (.aload_n 0, 1) := by decide +kernel
theorem d_Fm_init_50 : decode mm_Fm_init.2.1 50 = .ok (.iconst 0, 1) := by decide +kernel
theorem d_Fm_init_51 : decode mm_Fm_init.2.1 51 = .ok (.putfield 32, 3) := by decide +kernel
theorem d_Fm_init_54 : decode mm_Fm_init.2.1 54 = .ok (.return_, 1) := by decide +kernel
theorem d_Cs_init_0 : decode mm_Cs_init.2.1 0 = .ok (.aload_n 0, 1) := by decide +kernel
theorem d_Cs_init_1 : decode mm_Cs_init.2.1 1 = .ok (.invokespecial 3, 3) := by decide +kernel
theorem d_Cs_init_4 : decode mm_Cs_init.2.1 4 = .ok (.aload_n 0, 1) := by decide +kernel
theorem d_Cs_init_5 : decode mm_Cs_init.2.1 5 = .ok (.bipush 64, 2) := by decide +kernel
theorem d_Cs_init_7 : decode mm_Cs_init.2.1 7 = .ok (.anewarray 9, 3) := by decide +kernel
theorem d_Cs_init_10 : decode mm_Cs_init.2.1 10 = .ok (.putfield 11, 3) := by decide +kernel
theorem d_Cs_init_13 : decode mm_Cs_init.2.1 13 = .ok (.aload_n 0, 1) := by decide +kernel
theorem d_Cs_init_14 : decode mm_Cs_init.2.1 14 = .ok (.iconst 0, 1) := by decide +kernel
theorem d_Cs_init_15 : decode mm_Cs_init.2.1 15 = .ok (.putfield 17, 3) := by decide +kernel
theorem d_Cs_init_18 : decode mm_Cs_init.2.1 18 = .ok (.aload_n 0, 1) := by decide +kernel
theorem d_Cs_init_19 : decode mm_Cs_init.2.1 19 = .ok (.bipush 64, 2) := by decide +kernel
theorem d_Cs_init_21 : decode mm_Cs_init.2.1 21 = .ok (.newarray .long, 2) := by decide +kernel
theorem d_Cs_init_23 : decode mm_Cs_init.2.1 23 = .ok (.putfield 21, 3) := by decide +kernel
theorem d_Cs_init_26 : decode mm_Cs_init.2.1 26 = .ok (.return_, 1) := by decide +kernel
theorem d_Bd_init_0 : decode mm_Bd_init.2.1 0 = .ok (.aload_n 0, 1) := by decide +kernel
theorem d_Bd_init_1 : decode mm_Bd_init.2.1 1 = .ok (.invokespecial 3, 3) := by decide +kernel
theorem d_Bd_init_4 : decode mm_Bd_init.2.1 4 = .ok (.aload_n 0, 1) := by decide +kernel
theorem d_Bd_init_5 : decode mm_Bd_init.2.1 5 = .ok (.new 9, 3) := by decide +kernel
theorem d_Bd_init_8 : decode mm_Bd_init.2.1 8 = .ok (.dup, 1) := by decide +kernel
theorem d_Bd_init_9 : decode mm_Bd_init.2.1 9 = .ok (.invokespecial 11, 3) := by decide +kernel
theorem d_Bd_init_12 : decode mm_Bd_init.2.1 12 = .ok (.putfield 12, 3) := by decide +kernel
theorem d_Bd_init_15 : decode mm_Bd_init.2.1 15 = .ok (.aload_n 0, 1) := by decide +kernel
theorem d_Bd_init_16 : decode mm_Bd_init.2.1 16 = .ok (.bipush 64, 2) := by decide +kernel
theorem d_Bd_init_18 : decode mm_Bd_init.2.1 18 = .ok (.newarray .long, 2) := by decide +kernel
theorem d_Bd_init_20 : decode mm_Bd_init.2.1 20 = .ok (.putfield 18, 3) := by decide +kernel
theorem d_Bd_init_23 : decode mm_Bd_init.2.1 23 = .ok (.aload_n 0, 1) := by decide +kernel
theorem d_Bd_init_24 : decode mm_Bd_init.2.1 24 = .ok (.iconst 0, 1) := by decide +kernel
theorem d_Bd_init_25 : decode mm_Bd_init.2.1 25 = .ok (.putfield 22, 3) := by decide +kernel
theorem d_Bd_init_28 : decode mm_Bd_init.2.1 28 = .ok (.aload_n 0, 1) := by decide +kernel
theorem d_Bd_init_29 : decode mm_Bd_init.2.1 29 = .ok (.iconst 0, 1) := by decide +kernel
theorem d_Bd_init_30 : decode mm_Bd_init.2.1 30 = .ok (.putfield 26, 3) := by decide +kernel
theorem d_Bd_init_33 : decode mm_Bd_init.2.1 33 = .ok (.return_, 1) := by decide +kernel
theorem d_Wk_init_0 : decode mm_Wk_init.2.1 0 = .ok (.aload_n 0, 1) := by decide +kernel
theorem d_Wk_init_1 : decode mm_Wk_init.2.1 1 = .ok (.invokespecial 3, 3) := by decide +kernel
theorem d_Wk_init_4 : decode mm_Wk_init.2.1 4 = .ok (.aload_n 0, 1) := by decide +kernel
theorem d_Wk_init_5 : decode mm_Wk_init.2.1 5 = .ok (.bipush 40, 2) := by decide +kernel
theorem d_Wk_init_7 : decode mm_Wk_init.2.1 7 = .ok (.newarray .long, 2) := by decide +kernel
theorem d_Wk_init_9 : decode mm_Wk_init.2.1 9 = .ok (.putfield 9, 3) := by decide +kernel
theorem d_Wk_init_12 : decode mm_Wk_init.2.1 12 = .ok (.aload_n 0, 1) := by decide +kernel
theorem d_Wk_init_13 : decode mm_Wk_init.2.1 13 = .ok (.iconst 0, 1) := by decide +kernel
theorem d_Wk_init_14 : decode mm_Wk_init.2.1 14 = .ok (.putfield 15, 3) := by decide +kernel
theorem d_Wk_init_17 : decode mm_Wk_init.2.1 17 = .ok (.aload_n 0, 1) := by decide +kernel
theorem d_Wk_init_18 : decode mm_Wk_init.2.1 18 = .ok (.iconst 0, 1) := by decide +kernel
theorem d_Wk_init_19 : decode mm_Wk_init.2.1 19 = .ok (.putfield 19, 3) := by decide +kernel
theorem d_Wk_init_22 : decode mm_Wk_init.2.1 22 = .ok (.aload_n 0, 1) := by decide +kernel
theorem d_Wk_init_23 : decode mm_Wk_init.2.1 23 = .ok (.lconst 0, 1) := by decide +kernel
theorem d_Wk_init_24 : decode mm_Wk_init.2.1 24 = .ok (.putfield 22, 3) := by decide +kernel
theorem d_Wk_init_27 : decode mm_Wk_init.2.1 27 = .ok (.return_, 1) := by decide +kernel
theorem d_CW_define_0 : decode mm_CW_define.2.1 0 = .ok (.aload_n 0, 1) := by decide +kernel
theorem d_CW_define_1 : decode mm_CW_define.2.1 1 = .ok (.getfield 12, 3) := by decide +kernel
theorem d_CW_define_4 : decode mm_CW_define.2.1 4 = .ok (.invokevirtual 56, 3) := by decide +kernel
theorem d_CW_define_7 : decode mm_CW_define.2.1 7 = .ok (.ifCond .eq 7, 3) := by decide +kernel
theorem d_CW_define_10 : decode mm_CW_define.2.1 10 = .ok (.aload_n 0, 1) := by decide +kernel
theorem d_CW_define_11 : decode mm_CW_define.2.1 11 = .ok (.invokevirtual 60, 3) := by decide +kernel
theorem d_CW_define_14 : decode mm_CW_define.2.1 14 = .ok (.aload_n 0, 1) := by decide +kernel
theorem d_CW_define_15 : decode mm_CW_define.2.1 15 = .ok (.getfield 12, 3) := by decide +kernel
theorem d_CW_define_18 : decode mm_CW_define.2.1 18 = .ok (.getfield 30, 3) := by decide +kernel
theorem d_CW_define_21 : decode mm_CW_define.2.1 21 = .ok (.iconst 0, 1) := by decide +kernel
theorem d_CW_define_22 : decode mm_CW_define.2.1 22 = .ok (.putfield 34, 3) := by decide +kernel
theorem d_CW_define_25 : decode mm_CW_define.2.1 25 = .ok (.aload_n 0, 1) := by decide +kernel
theorem d_CW_define_26 : decode mm_CW_define.2.1 26 = .ok (.getfield 12, 3) := by decide +kernel
theorem d_CW_define_29 : decode mm_CW_define.2.1 29 = .ok (.getfield 63, 3) := by decide +kernel
theorem d_CW_define_32 : decode mm_CW_define.2.1 32 = .ok (.ifCond .ne 7, 3) := by decide +kernel
theorem d_CW_define_35 : decode mm_CW_define.2.1 35 = .ok (.iconst (-1), 1) := by decide +kernel
theorem d_CW_define_36 : decode mm_CW_define.2.1 36 = .ok (.goto 10, 3) := by decide +kernel
theorem d_CW_define_39 : decode mm_CW_define.2.1 39 = .ok (.aload_n 0, 1) := by decide +kernel
theorem d_CW_define_40 : decode mm_CW_define.2.1 40 = .ok (.getfield 12, 3) := by decide +kernel
theorem d_CW_define_43 : decode mm_CW_define.2.1 43 = .ok (.getfield 66, 3) := by decide +kernel
theorem d_CW_define_46 : decode mm_CW_define.2.1 46 = .ok (.ireturn, 1) := by decide +kernel
theorem d_Rd_readDefinition_0 : decode mm_Rd_readDefinition.2.1 0 = .ok (.aload_n 0, 1) := by decide +kernel
theorem d_Rd_readDefinition_1 : decode mm_Rd_readDefinition.2.1 1 = .ok (.iconst 0, 1) := by decide +kernel
theorem d_Rd_readDefinition_2 : decode mm_Rd_readDefinition.2.1 2 = .ok (.putfield 29, 3) := by decide +kernel
theorem d_Rd_readDefinition_5 : decode mm_Rd_readDefinition.2.1 5 = .ok (.aload_n 0, 1) := by decide +kernel
theorem d_Rd_readDefinition_6 : decode mm_Rd_readDefinition.2.1 6 = .ok (.iconst 0, 1) := by decide +kernel
theorem d_Rd_readDefinition_7 : decode mm_Rd_readDefinition.2.1 7 = .ok (.putfield 36, 3) := by decide +kernel
theorem d_Rd_readDefinition_10 : decode mm_Rd_readDefinition.2.1 10 = .ok (.aload_n 0, 1) := by decide +kernel
theorem d_Rd_readDefinition_11 : decode mm_Rd_readDefinition.2.1 11 = .ok (.getfield 21, 3) := by decide +kernel
theorem d_Rd_readDefinition_14 : decode mm_Rd_readDefinition.2.1 14 = .ok (.invokevirtual 43, 3) := by decide +kernel
theorem d_Rd_readDefinition_17 : decode mm_Rd_readDefinition.2.1 17 = .ok (.aload_n 0, 1) := by decide +kernel
theorem d_Rd_readDefinition_18 : decode mm_Rd_readDefinition.2.1 18 = .ok (.getfield 12, 3) := by decide +kernel
theorem d_Rd_readDefinition_21 : decode mm_Rd_readDefinition.2.1 21 = .ok (.invokevirtual 46, 3) := by decide +kernel
theorem d_Rd_readDefinition_24 : decode mm_Rd_readDefinition.2.1 24 = .ok (.aload_n 0, 1) := by decide +kernel
theorem d_Rd_readDefinition_25 : decode mm_Rd_readDefinition.2.1 25 = .ok (.invokevirtual 49, 3) := by decide +kernel
theorem d_Rd_readDefinition_28 : decode mm_Rd_readDefinition.2.1 28 = .ok (.ifCond .ne 5, 3) := by decide +kernel
theorem d_Rd_readDefinition_31 : decode mm_Rd_readDefinition.2.1 31 = .ok (.iconst 0, 1) := by decide +kernel
theorem d_Rd_readDefinition_32 : decode mm_Rd_readDefinition.2.1 32 = .ok (.ireturn, 1) := by decide +kernel
theorem d_Rd_readDefinition_33 : decode mm_Rd_readDefinition.2.1 33 = .ok (.aload_n 0, 1) := by decide +kernel
theorem d_Rd_readDefinition_34 : decode mm_Rd_readDefinition.2.1 34 = .ok (.aload_n 0, 1) := by decide +kernel
theorem d_Rd_readDefinition_35 : decode mm_Rd_readDefinition.2.1 35 = .ok (.getfield 12, 3) := by decide +kernel
theorem d_Rd_readDefinition_38 : decode mm_Rd_readDefinition.2.1 38 = .ok (.getfield 53, 3) := by decide +kernel
theorem d_Rd_readDefinition_41 : decode mm_Rd_readDefinition.2.1 41 = .ok (.putfield 25, 3) := by decide +kernel
theorem d_Rd_readDefinition_44 : decode mm_Rd_readDefinition.2.1 44 = .ok (.aload_n 0, 1) := by decide +kernel
theorem d_Rd_readDefinition_45 : decode mm_Rd_readDefinition.2.1 45 = .ok (.iconst 2, 1) := by decide +kernel
theorem d_Rd_readDefinition_46 : decode mm_Rd_readDefinition.2.1 46 = .ok (.invokevirtual 54, 3) := by decide +kernel
theorem d_Rd_readDefinition_49 : decode mm_Rd_readDefinition.2.1 49 = .ok (.ifCond .eq 42, 3) := by decide +kernel
theorem d_Rd_readDefinition_52 : decode mm_Rd_readDefinition.2.1 52 = .ok (.aload_n 0, 1) := by decide +kernel
theorem d_Rd_readDefinition_53 : decode mm_Rd_readDefinition.2.1 53 = .ok (.bipush 61, 2) := by decide +kernel
theorem d_Rd_readDefinition_55 : decode mm_Rd_readDefinition.2.1 55 = .ok (.invokevirtual 54, 3) := by decide +kernel
theorem d_Rd_readDefinition_58 : decode mm_Rd_readDefinition.2.1 58 = .ok (.ifCond .eq 33, 3) := by decide +kernel
theorem d_Rd_readDefinition_61 : decode mm_Rd_readDefinition.2.1 61 = .ok (.aload_n 0, 1) := by decide +kernel
theorem d_Rd_readDefinition_62 : decode mm_Rd_readDefinition.2.1 62 = .ok (.iconst 0, 1) := by decide +kernel
theorem d_Rd_readDefinition_63 : decode mm_Rd_readDefinition.2.1 63 = .ok (.invokevirtual 58, 3) := by decide +kernel
theorem d_Rd_readDefinition_66 : decode mm_Rd_readDefinition.2.1 66 = .ok (.ifCond .eq 25, 3) := by decide +kernel
theorem d_Rd_readDefinition_69 : decode mm_Rd_readDefinition.2.1 69 = .ok (.aload_n 0, 1) := by decide +kernel
theorem d_Rd_readDefinition_70 : decode mm_Rd_readDefinition.2.1 70 = .ok (.getfield 12, 3) := by decide +kernel
theorem d_Rd_readDefinition_73 : decode mm_Rd_readDefinition.2.1 73 = .ok (.getfield 61, 3) := by decide +kernel
theorem d_Rd_readDefinition_76 : decode mm_Rd_readDefinition.2.1 76 = .ok (.ifCond .eq 11, 3) := by decide +kernel
theorem d_Rd_readDefinition_79 : decode mm_Rd_readDefinition.2.1 79 = .ok (.aload_n 0, 1) := by decide +kernel
theorem d_Rd_readDefinition_80 : decode mm_Rd_readDefinition.2.1 80 = .ok (.iconst 2, 1) := by decide +kernel
theorem d_Rd_readDefinition_81 : decode mm_Rd_readDefinition.2.1 81 = .ok (.invokevirtual 64, 3) := by decide +kernel
theorem d_Rd_readDefinition_84 : decode mm_Rd_readDefinition.2.1 84 = .ok (.ifCond .eq 7, 3) := by decide +kernel
theorem d_Rd_readDefinition_87 : decode mm_Rd_readDefinition.2.1 87 = .ok (.iconst 1, 1) := by decide +kernel
theorem d_Rd_readDefinition_88 : decode mm_Rd_readDefinition.2.1 88 = .ok (.goto 4, 3) := by decide +kernel
theorem d_Rd_readDefinition_91 : decode mm_Rd_readDefinition.2.1 91 = .ok (.iconst 0, 1) := by decide +kernel
theorem d_Rd_readDefinition_92 : decode mm_Rd_readDefinition.2.1 92 = .ok (.ireturn, 1) := by decide +kernel
theorem d_Fm_clear_0 : decode mm_Fm_clear.2.1 0 = .ok (.aload_n 0, 1) := by decide +kernel
theorem d_Fm_clear_1 : decode mm_Fm_clear.2.1 1 = .ok (.iconst 0, 1) := by decide +kernel
theorem d_Fm_clear_2 : decode mm_Fm_clear.2.1 2 = .ok (.putfield 18, 3) := by decide +kernel
theorem d_Fm_clear_5 : decode mm_Fm_clear.2.1 5 = .ok (.aload_n 0, 1) := by decide +kernel
theorem d_Fm_clear_6 : decode mm_Fm_clear.2.1 6 = .ok (.iconst 0, 1) := by decide +kernel
theorem d_Fm_clear_7 : decode mm_Fm_clear.2.1 7 = .ok (.putfield 32, 3) := by decide +kernel
theorem d_Fm_clear_10 : decode mm_Fm_clear.2.1 10 = .ok (.return_, 1) := by decide +kernel
theorem d_Tp_rewind_0 : decode mm_Tp_rewind.2.1 0 = .ok (.aload_n 0, 1) := by decide +kernel
theorem d_Tp_rewind_1 : decode mm_Tp_rewind.2.1 1 = .ok (.iconst 0, 1) := by decide +kernel
theorem d_Tp_rewind_2 : decode mm_Tp_rewind.2.1 2 = .ok (.putfield 19, 3) := by decide +kernel
theorem d_Tp_rewind_5 : decode mm_Tp_rewind.2.1 5 = .ok (.return_, 1) := by decide +kernel
theorem d_Rd_pass_0 : decode mm_Rd_pass.2.1 0 = .ok (.aload_n 0, 1) := by decide +kernel
theorem d_Rd_pass_1 : decode mm_Rd_pass.2.1 1 = .ok (.getfield 12, 3) := by decide +kernel
theorem d_Rd_pass_4 : decode mm_Rd_pass.2.1 4 = .ok (.invokevirtual 74, 3) := by decide +kernel
theorem d_Rd_pass_7 : decode mm_Rd_pass.2.1 7 = .ok (.aload_n 0, 1) := by decide +kernel
theorem d_Rd_pass_8 : decode mm_Rd_pass.2.1 8 = .ok (.getfield 12, 3) := by decide +kernel
theorem d_Rd_pass_11 : decode mm_Rd_pass.2.1 11 = .ok (.getfield 61, 3) := by decide +kernel
theorem d_Rd_pass_14 : decode mm_Rd_pass.2.1 14 = .ok (.iconst 1, 1) := by decide +kernel
theorem d_Rd_pass_15 : decode mm_Rd_pass.2.1 15 = .ok (.if_icmp .ne 11, 3) := by decide +kernel
theorem d_Rd_pass_18 : decode mm_Rd_pass.2.1 18 = .ok (.aload_n 0, 1) := by decide +kernel
theorem d_Rd_pass_19 : decode mm_Rd_pass.2.1 19 = .ok (.iconst 1, 1) := by decide +kernel
theorem d_Rd_pass_20 : decode mm_Rd_pass.2.1 20 = .ok (.invokevirtual 64, 3) := by decide +kernel
theorem d_Rd_pass_23 : decode mm_Rd_pass.2.1 23 = .ok (.ifCond .eq 7, 3) := by decide +kernel
theorem d_Rd_pass_26 : decode mm_Rd_pass.2.1 26 = .ok (.iconst 1, 1) := by decide +kernel
theorem d_Rd_pass_27 : decode mm_Rd_pass.2.1 27 = .ok (.goto 4, 3) := by decide +kernel
theorem d_Rd_pass_30 : decode mm_Rd_pass.2.1 30 = .ok (.iconst 0, 1) := by decide +kernel
theorem d_Rd_pass_31 : decode mm_Rd_pass.2.1 31 = .ok (.ireturn, 1) := by decide +kernel
theorem d_Tp_readToken_0 : decode mm_Tp_readToken.2.1 0 = .ok (.aload_n 0, 1) := by decide +kernel
theorem d_Tp_readToken_1 : decode mm_Tp_readToken.2.1 1 = .ok (.getfield 19, 3) := by decide +kernel
theorem d_Tp_readToken_4 : decode mm_Tp_readToken.2.1 4 = .ok (.aload_n 0, 1) := by decide +kernel
theorem d_Tp_readToken_5 : decode mm_Tp_readToken.2.1 5 = .ok (.getfield 15, 3) := by decide +kernel
theorem d_Tp_readToken_8 : decode mm_Tp_readToken.2.1 8 = .ok (.if_icmp .ge 30, 3) := by decide +kernel
theorem d_Tp_readToken_11 : decode mm_Tp_readToken.2.1 11 = .ok (.aload_n 0, 1) := by decide +kernel
theorem d_Tp_readToken_12 : decode mm_Tp_readToken.2.1 12 = .ok (.aload_n 0, 1) := by decide +kernel
theorem d_Tp_readToken_13 : decode mm_Tp_readToken.2.1 13 = .ok (.getfield 19, 3) := by decide +kernel
theorem d_Tp_readToken_16 : decode mm_Tp_readToken.2.1 16 = .ok (.invokevirtual 41, 3) := by decide +kernel
theorem d_Tp_readToken_19 : decode mm_Tp_readToken.2.1 19 = .ok (.invokestatic 45, 3) := by decide +kernel
theorem d_Tp_readToken_22 : decode mm_Tp_readToken.2.1 22 = .ok (.ifCond .eq 16, 3) := by decide +kernel
theorem d_Tp_readToken_25 : decode mm_Tp_readToken.2.1 25 = .ok (.aload_n 0, 1) := by decide +kernel
theorem d_Tp_readToken_26 : decode mm_Tp_readToken.2.1 26 = .ok (.dup, 1) := by decide +kernel
theorem d_Tp_readToken_27 : decode mm_Tp_readToken.2.1 27 = .ok (.getfield 19, 3) := by decide +kernel
theorem d_Tp_readToken_30 : decode mm_Tp_readToken.2.1 30 = .ok (.iconst 1, 1) := by decide +kernel
theorem d_Tp_readToken_31 : decode mm_Tp_readToken.2.1 31 = .ok (.iadd, 1) := by decide +kernel
theorem d_Tp_readToken_32 : decode mm_Tp_readToken.2.1 32 = .ok (.putfield 19, 3) := by decide +kernel
theorem d_Tp_readToken_35 : decode mm_Tp_readToken.2.1 35 = .ok (.goto (-35), 3) := by decide +kernel
theorem d_Tp_readToken_38 : decode mm_Tp_readToken.2.1 38 = .ok (.aload_n 0, 1) := by decide +kernel
theorem d_Tp_readToken_39 : decode mm_Tp_readToken.2.1 39 = .ok (.aload_n 0, 1) := by decide +kernel
theorem d_Tp_readToken_40 : decode mm_Tp_readToken.2.1 40 = .ok (.getfield 19, 3) := by decide +kernel
theorem d_Tp_readToken_43 : decode mm_Tp_readToken.2.1 43 = .ok (.putfield 25, 3) := by decide +kernel
theorem d_Tp_readToken_46 : decode mm_Tp_readToken.2.1 46 = .ok (.aload_n 0, 1) := by decide +kernel
theorem d_Tp_readToken_47 : decode mm_Tp_readToken.2.1 47 = .ok (.aload_n 0, 1) := by decide +kernel
theorem d_Tp_readToken_48 : decode mm_Tp_readToken.2.1 48 = .ok (.getfield 25, 3) := by decide +kernel
theorem d_Tp_readToken_51 : decode mm_Tp_readToken.2.1 51 = .ok (.invokevirtual 41, 3) := by decide +kernel
theorem d_Tp_readToken_54 : decode mm_Tp_readToken.2.1 54 = .ok (.istore_n 1, 1) := by decide +kernel
theorem d_Tp_readToken_55 : decode mm_Tp_readToken.2.1 55 = .ok (.iload_n 1, 1) := by decide +kernel
theorem d_Tp_readToken_56 : decode mm_Tp_readToken.2.1 56 = .ok (.iconst (-1), 1) := by decide +kernel
theorem d_Tp_readToken_57 : decode mm_Tp_readToken.2.1 57 = .ok (.if_icmp .ne 11, 3) := by decide +kernel
theorem d_Tp_readToken_60 : decode mm_Tp_readToken.2.1 60 = .ok (.aload_n 0, 1) := by decide +kernel
theorem d_Tp_readToken_61 : decode mm_Tp_readToken.2.1 61 = .ok (.iconst 0, 1) := by decide +kernel
theorem d_Tp_readToken_62 : decode mm_Tp_readToken.2.1 62 = .ok (.putfield 22, 3) := by decide +kernel
theorem d_Tp_readToken_65 : decode mm_Tp_readToken.2.1 65 = .ok (.goto 57, 3) := by decide +kernel
theorem d_Tp_readToken_68 : decode mm_Tp_readToken.2.1 68 = .ok (.iload_n 1, 1) := by decide +kernel
theorem d_Tp_readToken_69 : decode mm_Tp_readToken.2.1 69 = .ok (.invokestatic 49, 3) := by decide +kernel
theorem d_Tp_readToken_72 : decode mm_Tp_readToken.2.1 72 = .ok (.ifCond .eq 10, 3) := by decide +kernel
theorem d_Tp_readToken_75 : decode mm_Tp_readToken.2.1 75 = .ok (.aload_n 0, 1) := by decide +kernel
theorem d_Tp_readToken_76 : decode mm_Tp_readToken.2.1 76 = .ok (.invokevirtual 52, 3) := by decide +kernel
theorem d_Tp_readToken_79 : decode mm_Tp_readToken.2.1 79 = .ok (.goto 43, 3) := by decide +kernel
theorem d_Tp_readToken_82 : decode mm_Tp_readToken.2.1 82 = .ok (.iload_n 1, 1) := by decide +kernel
theorem d_Tp_readToken_83 : decode mm_Tp_readToken.2.1 83 = .ok (.invokestatic 55, 3) := by decide +kernel
theorem d_Tp_readToken_86 : decode mm_Tp_readToken.2.1 86 = .ok (.ifCond .eq 10, 3) := by decide +kernel
theorem d_Tp_readToken_89 : decode mm_Tp_readToken.2.1 89 = .ok (.aload_n 0, 1) := by decide +kernel
theorem d_Tp_readToken_90 : decode mm_Tp_readToken.2.1 90 = .ok (.invokevirtual 58, 3) := by decide +kernel
theorem d_Tp_readToken_93 : decode mm_Tp_readToken.2.1 93 = .ok (.goto 29, 3) := by decide +kernel
theorem d_Tp_readToken_96 : decode mm_Tp_readToken.2.1 96 = .ok (.aload_n 0, 1) := by decide +kernel
theorem d_Tp_readToken_97 : decode mm_Tp_readToken.2.1 97 = .ok (.iload_n 1, 1) := by decide +kernel
theorem d_Tp_readToken_98 : decode mm_Tp_readToken.2.1 98 = .ok (.invokestatic 61, 3) := by decide +kernel
theorem d_Tp_readToken_101 : decode mm_Tp_readToken.2.1 101 = .ok (.ifCond .eq 7, 3) := by decide +kernel
theorem d_Tp_readToken_104 : decode mm_Tp_readToken.2.1 104 = .ok (.iload_n 1, 1) := by decide +kernel
theorem d_Tp_readToken_105 : decode mm_Tp_readToken.2.1 105 = .ok (.goto 4, 3) := by decide +kernel
theorem d_Tp_readToken_108 : decode mm_Tp_readToken.2.1 108 = .ok (.iconst 1, 1) := by decide +kernel
theorem d_Tp_readToken_109 : decode mm_Tp_readToken.2.1 109 = .ok (.putfield 22, 3) := by decide +kernel
theorem d_Tp_readToken_112 : decode mm_Tp_readToken.2.1 112 = .ok (.aload_n 0, 1) := by decide +kernel
theorem d_Tp_readToken_113 : decode mm_Tp_readToken.2.1 113 = .ok (.dup, 1) := by decide +kernel
theorem d_Tp_readToken_114 : decode mm_Tp_readToken.2.1 114 = .ok (.getfield 19, 3) := by decide +kernel
theorem d_Tp_readToken_117 : decode mm_Tp_readToken.2.1 117 = .ok (.iconst 1, 1) := by decide +kernel
theorem d_Tp_readToken_118 : decode mm_Tp_readToken.2.1 118 = .ok (.iadd, 1) := by decide +kernel
theorem d_Tp_readToken_119 : decode mm_Tp_readToken.2.1 119 = .ok (.putfield 19, 3) := by decide +kernel
theorem d_Tp_readToken_122 : decode mm_Tp_readToken.2.1 122 = .ok (.return_, 1) := by decide +kernel
theorem d_Tp_byteAt_0 : decode mm_Tp_byteAt.2.1 0 = .ok (.iload_n 1, 1) := by decide +kernel
theorem d_Tp_byteAt_1 : decode mm_Tp_byteAt.2.1 1 = .ok (.ifCond .lt 33, 3) := by decide +kernel
theorem d_Tp_byteAt_4 : decode mm_Tp_byteAt.2.1 4 = .ok (.iload_n 1, 1) := by decide +kernel
theorem d_Tp_byteAt_5 : decode mm_Tp_byteAt.2.1 5 = .ok (.aload_n 0, 1) := by decide +kernel
theorem d_Tp_byteAt_6 : decode mm_Tp_byteAt.2.1 6 = .ok (.getfield 15, 3) := by decide +kernel
theorem d_Tp_byteAt_9 : decode mm_Tp_byteAt.2.1 9 = .ok (.if_icmp .ge 25, 3) := by decide +kernel
theorem d_Tp_byteAt_12 : decode mm_Tp_byteAt.2.1 12 = .ok (.iload_n 1, 1) := by decide +kernel
theorem d_Tp_byteAt_13 : decode mm_Tp_byteAt.2.1 13 = .ok (.aload_n 0, 1) := by decide +kernel
theorem d_Tp_byteAt_14 : decode mm_Tp_byteAt.2.1 14 = .ok (.getfield 9, 3) := by decide +kernel
theorem d_Tp_byteAt_17 : decode mm_Tp_byteAt.2.1 17 = .ok (.arraylength, 1) := by decide +kernel
theorem d_Tp_byteAt_18 : decode mm_Tp_byteAt.2.1 18 = .ok (.if_icmp .ge 16, 3) := by decide +kernel
theorem d_Tp_byteAt_21 : decode mm_Tp_byteAt.2.1 21 = .ok (.aload_n 0, 1) := by decide +kernel
theorem d_Tp_byteAt_22 : decode mm_Tp_byteAt.2.1 22 = .ok (.getfield 9, 3) := by decide +kernel
theorem d_Tp_byteAt_25 : decode mm_Tp_byteAt.2.1 25 = .ok (.iload_n 1, 1) := by decide +kernel
theorem d_Tp_byteAt_26 : decode mm_Tp_byteAt.2.1 26 = .ok (.baload, 1) := by decide +kernel
theorem d_Tp_byteAt_27 : decode mm_Tp_byteAt.2.1 27 = .ok (.sipush 255, 3) := by decide +kernel
theorem d_Tp_byteAt_30 : decode mm_Tp_byteAt.2.1 30 = .ok (.iand, 1) := by decide +kernel
theorem d_Tp_byteAt_31 : decode mm_Tp_byteAt.2.1 31 = .ok (.goto 4, 3) := by decide +kernel
theorem d_Tp_byteAt_34 : decode mm_Tp_byteAt.2.1 34 = .ok (.iconst (-1), 1) := by decide +kernel
theorem d_Tp_byteAt_35 : decode mm_Tp_byteAt.2.1 35 = .ok (.ireturn, 1) := by decide +kernel
theorem d_Tp_isBlank_0 : decode mm_Tp_isBlank.2.1 0 = .ok (.iload_n 0, 1) := by decide +kernel
theorem d_Tp_isBlank_1 : decode mm_Tp_isBlank.2.1 1 = .ok (.bipush 9, 2) := by decide +kernel
theorem d_Tp_isBlank_3 : decode mm_Tp_isBlank.2.1 3 = .ok (.if_icmp .eq 21, 3) := by decide +kernel
theorem d_Tp_isBlank_6 : decode mm_Tp_isBlank.2.1 6 = .ok (.iload_n 0, 1) := by decide +kernel
theorem d_Tp_isBlank_7 : decode mm_Tp_isBlank.2.1 7 = .ok (.bipush 10, 2) := by decide +kernel
theorem d_Tp_isBlank_9 : decode mm_Tp_isBlank.2.1 9 = .ok (.if_icmp .eq 15, 3) := by decide +kernel
theorem d_Tp_isBlank_12 : decode mm_Tp_isBlank.2.1 12 = .ok (.iload_n 0, 1) := by decide +kernel
theorem d_Tp_isBlank_13 : decode mm_Tp_isBlank.2.1 13 = .ok (.bipush 13, 2) := by decide +kernel
theorem d_Tp_isBlank_15 : decode mm_Tp_isBlank.2.1 15 = .ok (.if_icmp .eq 9, 3) := by decide +kernel
theorem d_Tp_isBlank_18 : decode mm_Tp_isBlank.2.1 18 = .ok (.iload_n 0, 1) := by decide +kernel
theorem d_Tp_isBlank_19 : decode mm_Tp_isBlank.2.1 19 = .ok (.bipush 32, 2) := by decide +kernel
theorem d_Tp_isBlank_21 : decode mm_Tp_isBlank.2.1 21 = .ok (.if_icmp .ne 7, 3) := by decide +kernel
theorem d_Tp_isBlank_24 : decode mm_Tp_isBlank.2.1 24 = .ok (.iconst 1, 1) := by decide +kernel
theorem d_Tp_isBlank_25 : decode mm_Tp_isBlank.2.1 25 = .ok (.goto 4, 3) := by decide +kernel
theorem d_Tp_isBlank_28 : decode mm_Tp_isBlank.2.1 28 = .ok (.iconst 0, 1) := by decide +kernel
theorem d_Tp_isBlank_29 : decode mm_Tp_isBlank.2.1 29 = .ok (.ireturn, 1) := by decide +kernel
theorem d_Tp_isLetter_0 : decode mm_Tp_isLetter.2.1 0 = .ok (.iload_n 0, 1) := by decide +kernel
theorem d_Tp_isLetter_1 : decode mm_Tp_isLetter.2.1 1 = .ok (.bipush 97, 2) := by decide +kernel
theorem d_Tp_isLetter_3 : decode mm_Tp_isLetter.2.1 3 = .ok (.if_icmp .lt 9, 3) := by decide +kernel
theorem d_Tp_isLetter_6 : decode mm_Tp_isLetter.2.1 6 = .ok (.iload_n 0, 1) := by decide +kernel
theorem d_Tp_isLetter_7 : decode mm_Tp_isLetter.2.1 7 = .ok (.bipush 122, 2) := by decide +kernel
theorem d_Tp_isLetter_9 : decode mm_Tp_isLetter.2.1 9 = .ok (.if_icmp .le 15, 3) := by decide +kernel
theorem d_Tp_isLetter_12 : decode mm_Tp_isLetter.2.1 12 = .ok (.iload_n 0, 1) := by decide +kernel
theorem d_Tp_isLetter_13 : decode mm_Tp_isLetter.2.1 13 = .ok (.bipush 65, 2) := by decide +kernel
theorem d_Tp_isLetter_15 : decode mm_Tp_isLetter.2.1 15 = .ok (.if_icmp .lt 13, 3) := by decide +kernel
theorem d_Tp_isLetter_18 : decode mm_Tp_isLetter.2.1 18 = .ok (.iload_n 0, 1) := by decide +kernel
theorem d_Tp_isLetter_19 : decode mm_Tp_isLetter.2.1 19 = .ok (.bipush 90, 2) := by decide +kernel
theorem d_Tp_isLetter_21 : decode mm_Tp_isLetter.2.1 21 = .ok (.if_icmp .gt 7, 3) := by decide +kernel
theorem d_Tp_isLetter_24 : decode mm_Tp_isLetter.2.1 24 = .ok (.iconst 1, 1) := by decide +kernel
theorem d_Tp_isLetter_25 : decode mm_Tp_isLetter.2.1 25 = .ok (.goto 4, 3) := by decide +kernel
theorem d_Tp_isLetter_28 : decode mm_Tp_isLetter.2.1 28 = .ok (.iconst 0, 1) := by decide +kernel
theorem d_Tp_isLetter_29 : decode mm_Tp_isLetter.2.1 29 = .ok (.ireturn, 1) := by decide +kernel
theorem d_Tp_readWord_0 : decode mm_Tp_readWord.2.1 0 = .ok (.aload_n 0, 1) := by decide +kernel
theorem d_Tp_readWord_1 : decode mm_Tp_readWord.2.1 1 = .ok (.lconst 0, 1) := by decide +kernel
theorem d_Tp_readWord_2 : decode mm_Tp_readWord.2.1 2 = .ok (.putfield 28, 3) := by decide +kernel
theorem d_Tp_readWord_5 : decode mm_Tp_readWord.2.1 5 = .ok (.aload_n 0, 1) := by decide +kernel
theorem d_Tp_readWord_6 : decode mm_Tp_readWord.2.1 6 = .ok (.getfield 19, 3) := by decide +kernel
theorem d_Tp_readWord_9 : decode mm_Tp_readWord.2.1 9 = .ok (.aload_n 0, 1) := by decide +kernel
theorem d_Tp_readWord_10 : decode mm_Tp_readWord.2.1 10 = .ok (.getfield 15, 3) := by decide +kernel
theorem d_Tp_readWord_13 : decode mm_Tp_readWord.2.1 13 = .ok (.if_icmp .ge 86, 3) := by decide +kernel
theorem d_Tp_readWord_16 : decode mm_Tp_readWord.2.1 16 = .ok (.aload_n 0, 1) := by decide +kernel
theorem d_Tp_readWord_17 : decode mm_Tp_readWord.2.1 17 = .ok (.aload_n 0, 1) := by decide +kernel
theorem d_Tp_readWord_18 : decode mm_Tp_readWord.2.1 18 = .ok (.getfield 19, 3) := by decide +kernel
theorem d_Tp_readWord_21 : decode mm_Tp_readWord.2.1 21 = .ok (.invokevirtual 41, 3) := by decide +kernel
theorem d_Tp_readWord_24 : decode mm_Tp_readWord.2.1 24 = .ok (.invokestatic 49, 3) := by decide +kernel
theorem d_Tp_readWord_27 : decode mm_Tp_readWord.2.1 27 = .ok (.ifCond .ne 17, 3) := by decide +kernel
theorem d_Tp_readWord_30 : decode mm_Tp_readWord.2.1 30 = .ok (.aload_n 0, 1) := by decide +kernel
theorem d_Tp_readWord_31 : decode mm_Tp_readWord.2.1 31 = .ok (.aload_n 0, 1) := by decide +kernel
theorem d_Tp_readWord_32 : decode mm_Tp_readWord.2.1 32 = .ok (.getfield 19, 3) := by decide +kernel
theorem d_Tp_readWord_35 : decode mm_Tp_readWord.2.1 35 = .ok (.invokevirtual 41, 3) := by decide +kernel
theorem d_Tp_readWord_38 : decode mm_Tp_readWord.2.1 38 = .ok (.invokestatic 55, 3) := by decide +kernel
theorem d_Tp_readWord_41 : decode mm_Tp_readWord.2.1 41 = .ok (.ifCond .eq 58, 3) := by decide +kernel
theorem d_Tp_readWord_44 : decode mm_Tp_readWord.2.1 44 = .ok (.aload_n 0, 1) := by decide +kernel
theorem d_Tp_readWord_45 : decode mm_Tp_readWord.2.1 45 = .ok (.getfield 19, 3) := by decide +kernel
theorem d_Tp_readWord_48 : decode mm_Tp_readWord.2.1 48 = .ok (.aload_n 0, 1) := by decide +kernel
theorem d_Tp_readWord_49 : decode mm_Tp_readWord.2.1 49 = .ok (.getfield 25, 3) := by decide +kernel
theorem d_Tp_readWord_52 : decode mm_Tp_readWord.2.1 52 = .ok (.isub, 1) := by decide +kernel
theorem d_Tp_readWord_53 : decode mm_Tp_readWord.2.1 53 = .ok (.istore_n 1, 1) := by decide +kernel
theorem d_Tp_readWord_54 : decode mm_Tp_readWord.2.1 54 = .ok (.iload_n 1, 1) := by decide +kernel
theorem d_Tp_readWord_55 : decode mm_Tp_readWord.2.1 55 = .ok (.bipush 8, 2) := by decide +kernel
theorem d_Tp_readWord_57 : decode mm_Tp_readWord.2.1 57 = .ok (.if_icmp .ge 29, 3) := by decide +kernel
theorem d_Tp_readWord_60 : decode mm_Tp_readWord.2.1 60 = .ok (.aload_n 0, 1) := by decide +kernel
theorem d_Tp_readWord_61 : decode mm_Tp_readWord.2.1 61 = .ok (.dup, 1) := by decide +kernel
theorem d_Tp_readWord_62 : decode mm_Tp_readWord.2.1 62 = .ok (.getfield 28, 3) := by decide +kernel
theorem d_Tp_readWord_65 : decode mm_Tp_readWord.2.1 65 = .ok (.aload_n 0, 1) := by decide +kernel
theorem d_Tp_readWord_66 : decode mm_Tp_readWord.2.1 66 = .ok (.aload_n 0, 1) := by decide +kernel
theorem d_Tp_readWord_67 : decode mm_Tp_readWord.2.1 67 = .ok (.getfield 19, 3) := by decide +kernel
theorem d_Tp_readWord_70 : decode mm_Tp_readWord.2.1 70 = .ok (.invokevirtual 41, 3) := by decide +kernel
theorem d_Tp_readWord_73 : decode mm_Tp_readWord.2.1 73 = .ok (.i2l, 1) := by decide +kernel
theorem d_Tp_readWord_74 : decode mm_Tp_readWord.2.1 74 = .ok (.bipush 56, 2) := by decide +kernel
theorem d_Tp_readWord_76 : decode mm_Tp_readWord.2.1 76 = .ok (.bipush 8, 2) := by decide +kernel
theorem d_Tp_readWord_78 : decode mm_Tp_readWord.2.1 78 = .ok (.iload_n 1, 1) := by decide +kernel
theorem d_Tp_readWord_79 : decode mm_Tp_readWord.2.1 79 = .ok (.imul, 1) := by decide +kernel
theorem d_Tp_readWord_80 : decode mm_Tp_readWord.2.1 80 = .ok (.isub, 1) := by decide +kernel
theorem d_Tp_readWord_81 : decode mm_Tp_readWord.2.1 81 = .ok (.lshl, 1) := by decide +kernel
theorem d_Tp_readWord_82 : decode mm_Tp_readWord.2.1 82 = .ok (.lor, 1) := by decide +kernel
theorem d_Tp_readWord_83 : decode mm_Tp_readWord.2.1 83 = .ok (.putfield 28, 3) := by decide +kernel
theorem d_Tp_readWord_86 : decode mm_Tp_readWord.2.1 86 = .ok (.aload_n 0, 1) := by decide +kernel
theorem d_Tp_readWord_87 : decode mm_Tp_readWord.2.1 87 = .ok (.dup, 1) := by decide +kernel
theorem d_Tp_readWord_88 : decode mm_Tp_readWord.2.1 88 = .ok (.getfield 19, 3) := by decide +kernel
theorem d_Tp_readWord_91 : decode mm_Tp_readWord.2.1 91 = .ok (.iconst 1, 1) := by decide +kernel
theorem d_Tp_readWord_92 : decode mm_Tp_readWord.2.1 92 = .ok (.iadd, 1) := by decide +kernel
theorem d_Tp_readWord_93 : decode mm_Tp_readWord.2.1 93 = .ok (.putfield 19, 3) := by decide +kernel
theorem d_Tp_readWord_96 : decode mm_Tp_readWord.2.1 96 = .ok (.goto (-91), 3) := by decide +kernel
theorem d_Tp_readWord_99 : decode mm_Tp_readWord.2.1 99 = .ok (.aload_n 0, 1) := by decide +kernel
theorem d_Tp_readWord_100 : decode mm_Tp_readWord.2.1 100 = .ok (.aload_n 0, 1) := by decide +kernel
theorem d_Tp_readWord_101 : decode mm_Tp_readWord.2.1 101 = .ok (.getfield 19, 3) := by decide +kernel
theorem d_Tp_readWord_104 : decode mm_Tp_readWord.2.1 104 = .ok (.aload_n 0, 1) := by decide +kernel
theorem d_Tp_readWord_105 : decode mm_Tp_readWord.2.1 105 = .ok (.getfield 25, 3) := by decide +kernel
theorem d_Tp_readWord_108 : decode mm_Tp_readWord.2.1 108 = .ok (.isub, 1) := by decide +kernel
theorem d_Tp_readWord_109 : decode mm_Tp_readWord.2.1 109 = .ok (.bipush 8, 2) := by decide +kernel
theorem d_Tp_readWord_111 : decode mm_Tp_readWord.2.1 111 = .ok (.if_icmp .le 7, 3) := by decide +kernel
theorem d_Tp_readWord_114 : decode mm_Tp_readWord.2.1 114 = .ok (.iconst 1, 1) := by decide +kernel
theorem d_Tp_readWord_115 : decode mm_Tp_readWord.2.1 115 = .ok (.goto 10, 3) := by decide +kernel
theorem d_Tp_readWord_118 : decode mm_Tp_readWord.2.1 118 = .ok (.aload_n 0, 1) := by decide +kernel
theorem d_Tp_readWord_119 : decode mm_Tp_readWord.2.1 119 = .ok (.getfield 28, 3) := by decide +kernel
theorem d_Tp_readWord_122 : decode mm_Tp_readWord.2.1 122 = .ok (.invokestatic 64, 3) := by decide +kernel
theorem d_Tp_readWord_125 : decode mm_Tp_readWord.2.1 125 = .ok (.putfield 22, 3) := by decide +kernel
theorem d_Tp_readWord_128 : decode mm_Tp_readWord.2.1 128 = .ok (.return_, 1) := by decide +kernel
theorem d_Tp_isDigit_0 : decode mm_Tp_isDigit.2.1 0 = .ok (.iload_n 0, 1) := by decide +kernel
theorem d_Tp_isDigit_1 : decode mm_Tp_isDigit.2.1 1 = .ok (.bipush 48, 2) := by decide +kernel
theorem d_Tp_isDigit_3 : decode mm_Tp_isDigit.2.1 3 = .ok (.if_icmp .lt 13, 3) := by decide +kernel
theorem d_Tp_isDigit_6 : decode mm_Tp_isDigit.2.1 6 = .ok (.iload_n 0, 1) := by decide +kernel
theorem d_Tp_isDigit_7 : decode mm_Tp_isDigit.2.1 7 = .ok (.bipush 57, 2) := by decide +kernel
theorem d_Tp_isDigit_9 : decode mm_Tp_isDigit.2.1 9 = .ok (.if_icmp .gt 7, 3) := by decide +kernel
theorem d_Tp_isDigit_12 : decode mm_Tp_isDigit.2.1 12 = .ok (.iconst 1, 1) := by decide +kernel
theorem d_Tp_isDigit_13 : decode mm_Tp_isDigit.2.1 13 = .ok (.goto 4, 3) := by decide +kernel
theorem d_Tp_isDigit_16 : decode mm_Tp_isDigit.2.1 16 = .ok (.iconst 0, 1) := by decide +kernel
theorem d_Tp_isDigit_17 : decode mm_Tp_isDigit.2.1 17 = .ok (.ireturn, 1) := by decide +kernel
theorem d_Tp_kindOfWord_0 : decode mm_Tp_kindOfWord.2.1 0 = .ok (.lload_n 0, 1) := by decide +kernel
theorem d_Tp_kindOfWord_1 : decode mm_Tp_kindOfWord.2.1 1 = .ok (.ldc2_w 68, 3) := by decide +kernel
theorem d_Tp_kindOfWord_4 : decode mm_Tp_kindOfWord.2.1 4 = .ok (.lcmp, 1) := by decide +kernel
theorem d_Tp_kindOfWord_5 : decode mm_Tp_kindOfWord.2.1 5 = .ok (.ifCond .ne 5, 3) := by decide +kernel
theorem d_Tp_kindOfWord_8 : decode mm_Tp_kindOfWord.2.1 8 = .ok (.iconst 4, 1) := by decide +kernel
theorem d_Tp_kindOfWord_9 : decode mm_Tp_kindOfWord.2.1 9 = .ok (.ireturn, 1) := by decide +kernel
theorem d_Tp_kindOfWord_10 : decode mm_Tp_kindOfWord.2.1 10 = .ok (.lload_n 0, 1) := by decide +kernel
theorem d_Tp_kindOfWord_11 : decode mm_Tp_kindOfWord.2.1 11 = .ok (.ldc2_w 70, 3) := by decide +kernel
theorem d_Tp_kindOfWord_14 : decode mm_Tp_kindOfWord.2.1 14 = .ok (.lcmp, 1) := by decide +kernel
theorem d_Tp_kindOfWord_15 : decode mm_Tp_kindOfWord.2.1 15 = .ok (.ifCond .ne 5, 3) := by decide +kernel
theorem d_Tp_kindOfWord_18 : decode mm_Tp_kindOfWord.2.1 18 = .ok (.iconst 5, 1) := by decide +kernel
theorem d_Tp_kindOfWord_19 : decode mm_Tp_kindOfWord.2.1 19 = .ok (.ireturn, 1) := by decide +kernel
theorem d_Tp_kindOfWord_20 : decode mm_Tp_kindOfWord.2.1 20 = .ok (.lload_n 0, 1) := by decide +kernel
theorem d_Tp_kindOfWord_21 : decode mm_Tp_kindOfWord.2.1 21 = .ok (.ldc2_w 72, 3) := by decide +kernel
theorem d_Tp_kindOfWord_24 : decode mm_Tp_kindOfWord.2.1 24 = .ok (.lcmp, 1) := by decide +kernel
theorem d_Tp_kindOfWord_25 : decode mm_Tp_kindOfWord.2.1 25 = .ok (.ifCond .ne 8, 3) := by decide +kernel
theorem d_Tp_kindOfWord_28 : decode mm_Tp_kindOfWord.2.1 28 = .ok (.bipush 6, 2) := by decide +kernel
theorem d_Tp_kindOfWord_30 : decode mm_Tp_kindOfWord.2.1 30 = .ok (.goto 4, 3) := by decide +kernel
theorem d_Tp_kindOfWord_33 : decode mm_Tp_kindOfWord.2.1 33 = .ok (.iconst 2, 1) := by decide +kernel
theorem d_Tp_kindOfWord_34 : decode mm_Tp_kindOfWord.2.1 34 = .ok (.ireturn, 1) := by decide +kernel
theorem d_Tp_readNumber_0 : decode mm_Tp_readNumber.2.1 0 = .ok (.aload_n 0, 1) := by decide +kernel
theorem d_Tp_readNumber_1 : decode mm_Tp_readNumber.2.1 1 = .ok (.iconst 0, 1) := by decide +kernel
theorem d_Tp_readNumber_2 : decode mm_Tp_readNumber.2.1 2 = .ok (.putfield 32, 3) := by decide +kernel
theorem d_Tp_readNumber_5 : decode mm_Tp_readNumber.2.1 5 = .ok (.aload_n 0, 1) := by decide +kernel
theorem d_Tp_readNumber_6 : decode mm_Tp_readNumber.2.1 6 = .ok (.getfield 19, 3) := by decide +kernel
theorem d_Tp_readNumber_9 : decode mm_Tp_readNumber.2.1 9 = .ok (.aload_n 0, 1) := by decide +kernel
theorem d_Tp_readNumber_10 : decode mm_Tp_readNumber.2.1 10 = .ok (.getfield 15, 3) := by decide +kernel
theorem d_Tp_readNumber_13 : decode mm_Tp_readNumber.2.1 13 = .ok (.if_icmp .ge 53, 3) := by decide +kernel
theorem d_Tp_readNumber_16 : decode mm_Tp_readNumber.2.1 16 = .ok (.aload_n 0, 1) := by decide +kernel
theorem d_Tp_readNumber_17 : decode mm_Tp_readNumber.2.1 17 = .ok (.aload_n 0, 1) := by decide +kernel
theorem d_Tp_readNumber_18 : decode mm_Tp_readNumber.2.1 18 = .ok (.getfield 19, 3) := by decide +kernel
theorem d_Tp_readNumber_21 : decode mm_Tp_readNumber.2.1 21 = .ok (.invokevirtual 41, 3) := by decide +kernel
theorem d_Tp_readNumber_24 : decode mm_Tp_readNumber.2.1 24 = .ok (.invokestatic 55, 3) := by decide +kernel
theorem d_Tp_readNumber_27 : decode mm_Tp_readNumber.2.1 27 = .ok (.ifCond .eq 39, 3) := by decide +kernel
theorem d_Tp_readNumber_30 : decode mm_Tp_readNumber.2.1 30 = .ok (.aload_n 0, 1) := by decide +kernel
theorem d_Tp_readNumber_31 : decode mm_Tp_readNumber.2.1 31 = .ok (.bipush 10, 2) := by decide +kernel
theorem d_Tp_readNumber_33 : decode mm_Tp_readNumber.2.1 33 = .ok (.aload_n 0, 1) := by decide +kernel
theorem d_Tp_readNumber_34 : decode mm_Tp_readNumber.2.1 34 = .ok (.getfield 32, 3) := by decide +kernel
theorem d_Tp_readNumber_37 : decode mm_Tp_readNumber.2.1 37 = .ok (.imul, 1) := by decide +kernel
theorem d_Tp_readNumber_38 : decode mm_Tp_readNumber.2.1 38 = .ok (.aload_n 0, 1) := by decide +kernel
theorem d_Tp_readNumber_39 : decode mm_Tp_readNumber.2.1 39 = .ok (.aload_n 0, 1) := by decide +kernel
theorem d_Tp_readNumber_40 : decode mm_Tp_readNumber.2.1 40 = .ok (.getfield 19, 3) := by decide +kernel
theorem d_Tp_readNumber_43 : decode mm_Tp_readNumber.2.1 43 = .ok (.invokevirtual 41, 3) := by decide +kernel
theorem d_Tp_readNumber_46 : decode mm_Tp_readNumber.2.1 46 = .ok (.iadd, 1) := by decide +kernel
theorem d_Tp_readNumber_47 : decode mm_Tp_readNumber.2.1 47 = .ok (.bipush 48, 2) := by decide +kernel
theorem d_Tp_readNumber_49 : decode mm_Tp_readNumber.2.1 49 = .ok (.isub, 1) := by decide +kernel
theorem d_Tp_readNumber_50 : decode mm_Tp_readNumber.2.1 50 = .ok (.putfield 32, 3) := by decide +kernel
theorem d_Tp_readNumber_53 : decode mm_Tp_readNumber.2.1 53 = .ok (.aload_n 0, 1) := by decide +kernel
theorem d_Tp_readNumber_54 : decode mm_Tp_readNumber.2.1 54 = .ok (.dup, 1) := by decide +kernel
theorem d_Tp_readNumber_55 : decode mm_Tp_readNumber.2.1 55 = .ok (.getfield 19, 3) := by decide +kernel
theorem d_Tp_readNumber_58 : decode mm_Tp_readNumber.2.1 58 = .ok (.iconst 1, 1) := by decide +kernel
theorem d_Tp_readNumber_59 : decode mm_Tp_readNumber.2.1 59 = .ok (.iadd, 1) := by decide +kernel
theorem d_Tp_readNumber_60 : decode mm_Tp_readNumber.2.1 60 = .ok (.putfield 19, 3) := by decide +kernel
theorem d_Tp_readNumber_63 : decode mm_Tp_readNumber.2.1 63 = .ok (.goto (-58), 3) := by decide +kernel
theorem d_Tp_readNumber_66 : decode mm_Tp_readNumber.2.1 66 = .ok (.aload_n 0, 1) := by decide +kernel
theorem d_Tp_readNumber_67 : decode mm_Tp_readNumber.2.1 67 = .ok (.aload_n 0, 1) := by decide +kernel
theorem d_Tp_readNumber_68 : decode mm_Tp_readNumber.2.1 68 = .ok (.getfield 19, 3) := by decide +kernel
theorem d_Tp_readNumber_71 : decode mm_Tp_readNumber.2.1 71 = .ok (.aload_n 0, 1) := by decide +kernel
theorem d_Tp_readNumber_72 : decode mm_Tp_readNumber.2.1 72 = .ok (.getfield 25, 3) := by decide +kernel
theorem d_Tp_readNumber_75 : decode mm_Tp_readNumber.2.1 75 = .ok (.isub, 1) := by decide +kernel
theorem d_Tp_readNumber_76 : decode mm_Tp_readNumber.2.1 76 = .ok (.bipush 9, 2) := by decide +kernel
theorem d_Tp_readNumber_78 : decode mm_Tp_readNumber.2.1 78 = .ok (.if_icmp .le 7, 3) := by decide +kernel
theorem d_Tp_readNumber_81 : decode mm_Tp_readNumber.2.1 81 = .ok (.iconst 1, 1) := by decide +kernel
theorem d_Tp_readNumber_82 : decode mm_Tp_readNumber.2.1 82 = .ok (.goto 4, 3) := by decide +kernel
theorem d_Tp_readNumber_85 : decode mm_Tp_readNumber.2.1 85 = .ok (.iconst 3, 1) := by decide +kernel
theorem d_Tp_readNumber_86 : decode mm_Tp_readNumber.2.1 86 = .ok (.putfield 22, 3) := by decide +kernel
theorem d_Tp_readNumber_89 : decode mm_Tp_readNumber.2.1 89 = .ok (.return_, 1) := by decide +kernel
theorem d_Tp_isMark_0 : decode mm_Tp_isMark.2.1 0 = .ok (.iload_n 0, 1) := by decide +kernel
theorem d_Tp_isMark_1 : decode mm_Tp_isMark.2.1 1 = .ok (.bipush 61, 2) := by decide +kernel
theorem d_Tp_isMark_3 : decode mm_Tp_isMark.2.1 3 = .ok (.if_icmp .eq 45, 3) := by decide +kernel
theorem d_Tp_isMark_6 : decode mm_Tp_isMark.2.1 6 = .ok (.iload_n 0, 1) := by decide +kernel
theorem d_Tp_isMark_7 : decode mm_Tp_isMark.2.1 7 = .ok (.bipush 43, 2) := by decide +kernel
theorem d_Tp_isMark_9 : decode mm_Tp_isMark.2.1 9 = .ok (.if_icmp .eq 39, 3) := by decide +kernel
theorem d_Tp_isMark_12 : decode mm_Tp_isMark.2.1 12 = .ok (.iload_n 0, 1) := by decide +kernel
theorem d_Tp_isMark_13 : decode mm_Tp_isMark.2.1 13 = .ok (.bipush 45, 2) := by decide +kernel
theorem d_Tp_isMark_15 : decode mm_Tp_isMark.2.1 15 = .ok (.if_icmp .eq 33, 3) := by decide +kernel
theorem d_Tp_isMark_18 : decode mm_Tp_isMark.2.1 18 = .ok (.iload_n 0, 1) := by decide +kernel
theorem d_Tp_isMark_19 : decode mm_Tp_isMark.2.1 19 = .ok (.bipush 42, 2) := by decide +kernel
theorem d_Tp_isMark_21 : decode mm_Tp_isMark.2.1 21 = .ok (.if_icmp .eq 27, 3) := by decide +kernel
theorem d_Tp_isMark_24 : decode mm_Tp_isMark.2.1 24 = .ok (.iload_n 0, 1) := by decide +kernel
theorem d_Tp_isMark_25 : decode mm_Tp_isMark.2.1 25 = .ok (.bipush 47, 2) := by decide +kernel
theorem d_Tp_isMark_27 : decode mm_Tp_isMark.2.1 27 = .ok (.if_icmp .eq 21, 3) := by decide +kernel
theorem d_Tp_isMark_30 : decode mm_Tp_isMark.2.1 30 = .ok (.iload_n 0, 1) := by decide +kernel
theorem d_Tp_isMark_31 : decode mm_Tp_isMark.2.1 31 = .ok (.bipush 40, 2) := by decide +kernel
theorem d_Tp_isMark_33 : decode mm_Tp_isMark.2.1 33 = .ok (.if_icmp .eq 15, 3) := by decide +kernel
theorem d_Tp_isMark_36 : decode mm_Tp_isMark.2.1 36 = .ok (.iload_n 0, 1) := by decide +kernel
theorem d_Tp_isMark_37 : decode mm_Tp_isMark.2.1 37 = .ok (.bipush 41, 2) := by decide +kernel
theorem d_Tp_isMark_39 : decode mm_Tp_isMark.2.1 39 = .ok (.if_icmp .eq 9, 3) := by decide +kernel
theorem d_Tp_isMark_42 : decode mm_Tp_isMark.2.1 42 = .ok (.iload_n 0, 1) := by decide +kernel
theorem d_Tp_isMark_43 : decode mm_Tp_isMark.2.1 43 = .ok (.bipush 44, 2) := by decide +kernel
theorem d_Tp_isMark_45 : decode mm_Tp_isMark.2.1 45 = .ok (.if_icmp .ne 7, 3) := by decide +kernel
theorem d_Tp_isMark_48 : decode mm_Tp_isMark.2.1 48 = .ok (.iconst 1, 1) := by decide +kernel
theorem d_Tp_isMark_49 : decode mm_Tp_isMark.2.1 49 = .ok (.goto 4, 3) := by decide +kernel
theorem d_Tp_isMark_52 : decode mm_Tp_isMark.2.1 52 = .ok (.iconst 0, 1) := by decide +kernel
theorem d_Tp_isMark_53 : decode mm_Tp_isMark.2.1 53 = .ok (.ireturn, 1) := by decide +kernel
theorem d_Rd_refuse_0 : decode mm_Rd_refuse.2.1 0 = .ok (.aload_n 0, 1) := by decide +kernel
theorem d_Rd_refuse_1 : decode mm_Rd_refuse.2.1 1 = .ok (.iload_n 1, 1) := by decide +kernel
theorem d_Rd_refuse_2 : decode mm_Rd_refuse.2.1 2 = .ok (.aload_n 0, 1) := by decide +kernel
theorem d_Rd_refuse_3 : decode mm_Rd_refuse.2.1 3 = .ok (.getfield 12, 3) := by decide +kernel
theorem d_Rd_refuse_6 : decode mm_Rd_refuse.2.1 6 = .ok (.getfield 67, 3) := by decide +kernel
theorem d_Rd_refuse_9 : decode mm_Rd_refuse.2.1 9 = .ok (.invokevirtual 70, 3) := by decide +kernel
theorem d_Rd_refuse_12 : decode mm_Rd_refuse.2.1 12 = .ok (.iconst 0, 1) := by decide +kernel
theorem d_Rd_refuse_13 : decode mm_Rd_refuse.2.1 13 = .ok (.ireturn, 1) := by decide +kernel
theorem d_Rd_refuseAt_0 : decode mm_Rd_refuseAt.2.1 0 = .ok (.aload_n 0, 1) := by decide +kernel
theorem d_Rd_refuseAt_1 : decode mm_Rd_refuseAt.2.1 1 = .ok (.iload_n 1, 1) := by decide +kernel
theorem d_Rd_refuseAt_2 : decode mm_Rd_refuseAt.2.1 2 = .ok (.putfield 29, 3) := by decide +kernel
theorem d_Rd_refuseAt_5 : decode mm_Rd_refuseAt.2.1 5 = .ok (.aload_n 0, 1) := by decide +kernel
theorem d_Rd_refuseAt_6 : decode mm_Rd_refuseAt.2.1 6 = .ok (.iload_n 2, 1) := by decide +kernel
theorem d_Rd_refuseAt_7 : decode mm_Rd_refuseAt.2.1 7 = .ok (.putfield 33, 3) := by decide +kernel
theorem d_Rd_refuseAt_10 : decode mm_Rd_refuseAt.2.1 10 = .ok (.return_, 1) := by decide +kernel
theorem d_Rd_expect_0 : decode mm_Rd_expect.2.1 0 = .ok (.aload_n 0, 1) := by decide +kernel
theorem d_Rd_expect_1 : decode mm_Rd_expect.2.1 1 = .ok (.getfield 12, 3) := by decide +kernel
theorem d_Rd_expect_4 : decode mm_Rd_expect.2.1 4 = .ok (.getfield 61, 3) := by decide +kernel
theorem d_Rd_expect_7 : decode mm_Rd_expect.2.1 7 = .ok (.iload_n 1, 1) := by decide +kernel
theorem d_Rd_expect_8 : decode mm_Rd_expect.2.1 8 = .ok (.if_icmp .ne 10, 3) := by decide +kernel
theorem d_Rd_expect_11 : decode mm_Rd_expect.2.1 11 = .ok (.aload_n 0, 1) := by decide +kernel
theorem d_Rd_expect_12 : decode mm_Rd_expect.2.1 12 = .ok (.invokevirtual 49, 3) := by decide +kernel
theorem d_Rd_expect_15 : decode mm_Rd_expect.2.1 15 = .ok (.goto 8, 3) := by decide +kernel
theorem d_Rd_expect_18 : decode mm_Rd_expect.2.1 18 = .ok (.aload_n 0, 1) := by decide +kernel
theorem d_Rd_expect_19 : decode mm_Rd_expect.2.1 19 = .ok (.iconst 2, 1) := by decide +kernel
theorem d_Rd_expect_20 : decode mm_Rd_expect.2.1 20 = .ok (.invokevirtual 64, 3) := by decide +kernel
theorem d_Rd_expect_23 : decode mm_Rd_expect.2.1 23 = .ok (.ireturn, 1) := by decide +kernel
theorem d_Rd_sum_0 : decode mm_Rd_sum.2.1 0 = .ok (.aload_n 0, 1) := by decide +kernel
theorem d_Rd_sum_1 : decode mm_Rd_sum.2.1 1 = .ok (.iload_n 1, 1) := by decide +kernel
theorem d_Rd_sum_2 : decode mm_Rd_sum.2.1 2 = .ok (.invokevirtual 77, 3) := by decide +kernel
theorem d_Rd_sum_5 : decode mm_Rd_sum.2.1 5 = .ok (.ifCond .ne 5, 3) := by decide +kernel
theorem d_Rd_sum_8 : decode mm_Rd_sum.2.1 8 = .ok (.iconst 0, 1) := by decide +kernel
theorem d_Rd_sum_9 : decode mm_Rd_sum.2.1 9 = .ok (.ireturn, 1) := by decide +kernel
theorem d_Rd_sum_10 : decode mm_Rd_sum.2.1 10 = .ok (.iconst 0, 1) := by decide +kernel
theorem d_Rd_sum_11 : decode mm_Rd_sum.2.1 11 = .ok (.istore_n 2, 1) := by decide +kernel
theorem d_Rd_sum_12 : decode mm_Rd_sum.2.1 12 = .ok (.iload_n 2, 1) := by decide +kernel
theorem d_Rd_sum_13 : decode mm_Rd_sum.2.1 13 = .ok (.bipush 40, 2) := by decide +kernel
theorem d_Rd_sum_15 : decode mm_Rd_sum.2.1 15 = .ok (.if_icmp .ge 67, 3) := by decide +kernel
theorem d_Rd_sum_18 : decode mm_Rd_sum.2.1 18 = .ok (.aload_n 0, 1) := by decide +kernel
theorem d_Rd_sum_19 : decode mm_Rd_sum.2.1 19 = .ok (.getfield 12, 3) := by decide +kernel
theorem d_Rd_sum_22 : decode mm_Rd_sum.2.1 22 = .ok (.getfield 61, 3) := by decide +kernel
theorem d_Rd_sum_25 : decode mm_Rd_sum.2.1 25 = .ok (.bipush 43, 2) := by decide +kernel
theorem d_Rd_sum_27 : decode mm_Rd_sum.2.1 27 = .ok (.if_icmp .eq 15, 3) := by decide +kernel
theorem d_Rd_sum_30 : decode mm_Rd_sum.2.1 30 = .ok (.aload_n 0, 1) := by decide +kernel
theorem d_Rd_sum_31 : decode mm_Rd_sum.2.1 31 = .ok (.getfield 12, 3) := by decide +kernel
theorem d_Rd_sum_34 : decode mm_Rd_sum.2.1 34 = .ok (.getfield 61, 3) := by decide +kernel
theorem d_Rd_sum_37 : decode mm_Rd_sum.2.1 37 = .ok (.bipush 45, 2) := by decide +kernel
theorem d_Rd_sum_39 : decode mm_Rd_sum.2.1 39 = .ok (.if_icmp .ne 43, 3) := by decide +kernel
theorem d_Rd_sum_42 : decode mm_Rd_sum.2.1 42 = .ok (.aload_n 0, 1) := by decide +kernel
theorem d_Rd_sum_43 : decode mm_Rd_sum.2.1 43 = .ok (.getfield 12, 3) := by decide +kernel
theorem d_Rd_sum_46 : decode mm_Rd_sum.2.1 46 = .ok (.getfield 61, 3) := by decide +kernel
theorem d_Rd_sum_49 : decode mm_Rd_sum.2.1 49 = .ok (.istore_n 3, 1) := by decide +kernel
theorem d_Rd_sum_50 : decode mm_Rd_sum.2.1 50 = .ok (.aload_n 0, 1) := by decide +kernel
theorem d_Rd_sum_51 : decode mm_Rd_sum.2.1 51 = .ok (.invokevirtual 80, 3) := by decide +kernel
theorem d_Rd_sum_54 : decode mm_Rd_sum.2.1 54 = .ok (.ifCond .eq 11, 3) := by decide +kernel
theorem d_Rd_sum_57 : decode mm_Rd_sum.2.1 57 = .ok (.aload_n 0, 1) := by decide +kernel
theorem d_Rd_sum_58 : decode mm_Rd_sum.2.1 58 = .ok (.iload_n 1, 1) := by decide +kernel
theorem d_Rd_sum_59 : decode mm_Rd_sum.2.1 59 = .ok (.invokevirtual 77, 3) := by decide +kernel
theorem d_Rd_sum_62 : decode mm_Rd_sum.2.1 62 = .ok (.ifCond .ne 5, 3) := by decide +kernel
theorem d_Rd_sum_65 : decode mm_Rd_sum.2.1 65 = .ok (.iconst 0, 1) := by decide +kernel
theorem d_Rd_sum_66 : decode mm_Rd_sum.2.1 66 = .ok (.ireturn, 1) := by decide +kernel
theorem d_Rd_sum_67 : decode mm_Rd_sum.2.1 67 = .ok (.aload_n 0, 1) := by decide +kernel
theorem d_Rd_sum_68 : decode mm_Rd_sum.2.1 68 = .ok (.getfield 21, 3) := by decide +kernel
theorem d_Rd_sum_71 : decode mm_Rd_sum.2.1 71 = .ok (.iload_n 3, 1) := by decide +kernel
theorem d_Rd_sum_72 : decode mm_Rd_sum.2.1 72 = .ok (.iconst 0, 1) := by decide +kernel
theorem d_Rd_sum_73 : decode mm_Rd_sum.2.1 73 = .ok (.invokevirtual 83, 3) := by decide +kernel
theorem d_Rd_sum_76 : decode mm_Rd_sum.2.1 76 = .ok (.iinc 2 1, 3) := by decide +kernel
theorem d_Rd_sum_79 : decode mm_Rd_sum.2.1 79 = .ok (.goto (-67), 3) := by decide +kernel
theorem d_Rd_sum_82 : decode mm_Rd_sum.2.1 82 = .ok (.iconst 1, 1) := by decide +kernel
theorem d_Rd_sum_83 : decode mm_Rd_sum.2.1 83 = .ok (.ireturn, 1) := by decide +kernel
theorem d_Rd_product_0 : decode mm_Rd_product.2.1 0 = .ok (.aload_n 0, 1) := by decide +kernel
theorem d_Rd_product_1 : decode mm_Rd_product.2.1 1 = .ok (.iload_n 1, 1) := by decide +kernel
theorem d_Rd_product_2 : decode mm_Rd_product.2.1 2 = .ok (.invokevirtual 86, 3) := by decide +kernel
theorem d_Rd_product_5 : decode mm_Rd_product.2.1 5 = .ok (.ifCond .ne 5, 3) := by decide +kernel
theorem d_Rd_product_8 : decode mm_Rd_product.2.1 8 = .ok (.iconst 0, 1) := by decide +kernel
theorem d_Rd_product_9 : decode mm_Rd_product.2.1 9 = .ok (.ireturn, 1) := by decide +kernel
theorem d_Rd_product_10 : decode mm_Rd_product.2.1 10 = .ok (.iconst 0, 1) := by decide +kernel
theorem d_Rd_product_11 : decode mm_Rd_product.2.1 11 = .ok (.istore_n 2, 1) := by decide +kernel
theorem d_Rd_product_12 : decode mm_Rd_product.2.1 12 = .ok (.iload_n 2, 1) := by decide +kernel
theorem d_Rd_product_13 : decode mm_Rd_product.2.1 13 = .ok (.bipush 40, 2) := by decide +kernel
theorem d_Rd_product_15 : decode mm_Rd_product.2.1 15 = .ok (.if_icmp .ge 67, 3) := by decide +kernel
theorem d_Rd_product_18 : decode mm_Rd_product.2.1 18 = .ok (.aload_n 0, 1) := by decide +kernel
theorem d_Rd_product_19 : decode mm_Rd_product.2.1 19 = .ok (.getfield 12, 3) := by decide +kernel
theorem d_Rd_product_22 : decode mm_Rd_product.2.1 22 = .ok (.getfield 61, 3) := by decide +kernel
theorem d_Rd_product_25 : decode mm_Rd_product.2.1 25 = .ok (.bipush 42, 2) := by decide +kernel
theorem d_Rd_product_27 : decode mm_Rd_product.2.1 27 = .ok (.if_icmp .eq 15, 3) := by decide +kernel
theorem d_Rd_product_30 : decode mm_Rd_product.2.1 30 = .ok (.aload_n 0, 1) := by decide +kernel
theorem d_Rd_product_31 : decode mm_Rd_product.2.1 31 = .ok (.getfield 12, 3) := by decide +kernel
theorem d_Rd_product_34 : decode mm_Rd_product.2.1 34 = .ok (.getfield 61, 3) := by decide +kernel
theorem d_Rd_product_37 : decode mm_Rd_product.2.1 37 = .ok (.bipush 47, 2) := by decide +kernel
theorem d_Rd_product_39 : decode mm_Rd_product.2.1 39 = .ok (.if_icmp .ne 43, 3) := by decide +kernel
theorem d_Rd_product_42 : decode mm_Rd_product.2.1 42 = .ok (.aload_n 0, 1) := by decide +kernel
theorem d_Rd_product_43 : decode mm_Rd_product.2.1 43 = .ok (.getfield 12, 3) := by decide +kernel
theorem d_Rd_product_46 : decode mm_Rd_product.2.1 46 = .ok (.getfield 61, 3) := by decide +kernel
theorem d_Rd_product_49 : decode mm_Rd_product.2.1 49 = .ok (.istore_n 3, 1) := by decide +kernel
theorem d_Rd_product_50 : decode mm_Rd_product.2.1 50 = .ok (.aload_n 0, 1) := by decide +kernel
theorem d_Rd_product_51 : decode mm_Rd_product.2.1 51 = .ok (.invokevirtual 80, 3) := by decide +kernel
theorem d_Rd_product_54 : decode mm_Rd_product.2.1 54 = .ok (.ifCond .eq 11, 3) := by decide +kernel
theorem d_Rd_product_57 : decode mm_Rd_product.2.1 57 = .ok (.aload_n 0, 1) := by decide +kernel
theorem d_Rd_product_58 : decode mm_Rd_product.2.1 58 = .ok (.iload_n 1, 1) := by decide +kernel
theorem d_Rd_product_59 : decode mm_Rd_product.2.1 59 = .ok (.invokevirtual 86, 3) := by decide +kernel
theorem d_Rd_product_62 : decode mm_Rd_product.2.1 62 = .ok (.ifCond .ne 5, 3) := by decide +kernel
theorem d_Rd_product_65 : decode mm_Rd_product.2.1 65 = .ok (.iconst 0, 1) := by decide +kernel
theorem d_Rd_product_66 : decode mm_Rd_product.2.1 66 = .ok (.ireturn, 1) := by decide +kernel
theorem d_Rd_product_67 : decode mm_Rd_product.2.1 67 = .ok (.aload_n 0, 1) := by decide +kernel
theorem d_Rd_product_68 : decode mm_Rd_product.2.1 68 = .ok (.getfield 21, 3) := by decide +kernel
theorem d_Rd_product_71 : decode mm_Rd_product.2.1 71 = .ok (.iload_n 3, 1) := by decide +kernel
theorem d_Rd_product_72 : decode mm_Rd_product.2.1 72 = .ok (.iconst 0, 1) := by decide +kernel
theorem d_Rd_product_73 : decode mm_Rd_product.2.1 73 = .ok (.invokevirtual 83, 3) := by decide +kernel
theorem d_Rd_product_76 : decode mm_Rd_product.2.1 76 = .ok (.iinc 2 1, 3) := by decide +kernel
theorem d_Rd_product_79 : decode mm_Rd_product.2.1 79 = .ok (.goto (-67), 3) := by decide +kernel
theorem d_Rd_product_82 : decode mm_Rd_product.2.1 82 = .ok (.iconst 1, 1) := by decide +kernel
theorem d_Rd_product_83 : decode mm_Rd_product.2.1 83 = .ok (.ireturn, 1) := by decide +kernel
theorem d_Rd_part_0 : decode mm_Rd_part.2.1 0 = .ok (.aload_n 0, 1) := by decide +kernel
theorem d_Rd_part_1 : decode mm_Rd_part.2.1 1 = .ok (.getfield 12, 3) := by decide +kernel
theorem d_Rd_part_4 : decode mm_Rd_part.2.1 4 = .ok (.getfield 61, 3) := by decide +kernel
theorem d_Rd_part_7 : decode mm_Rd_part.2.1 7 = .ok (.lookupswitch 145 #[(2, 85), (3, 65), (4, 133), (5, 133), (6, 139), (40, 100), (45, 94)], 65) := by decide +kernel
theorem d_Rd_part_72 : decode mm_Rd_part.2.1 72 = .ok (.aload_n 0, 1) := by decide +kernel
theorem d_Rd_part_73 : decode mm_Rd_part.2.1 73 = .ok (.getfield 21, 3) := by decide +kernel
theorem d_Rd_part_76 : decode mm_Rd_part.2.1 76 = .ok (.iconst 3, 1) := by decide +kernel
theorem d_Rd_part_77 : decode mm_Rd_part.2.1 77 = .ok (.aload_n 0, 1) := by decide +kernel
theorem d_Rd_part_78 : decode mm_Rd_part.2.1 78 = .ok (.getfield 12, 3) := by decide +kernel
theorem d_Rd_part_81 : decode mm_Rd_part.2.1 81 = .ok (.getfield 89, 3) := by decide +kernel
theorem d_Rd_part_84 : decode mm_Rd_part.2.1 84 = .ok (.invokevirtual 83, 3) := by decide +kernel
theorem d_Rd_part_87 : decode mm_Rd_part.2.1 87 = .ok (.aload_n 0, 1) := by decide +kernel
theorem d_Rd_part_88 : decode mm_Rd_part.2.1 88 = .ok (.invokevirtual 80, 3) := by decide +kernel
theorem d_Rd_part_91 : decode mm_Rd_part.2.1 91 = .ok (.ireturn, 1) := by decide +kernel
theorem d_Rd_part_92 : decode mm_Rd_part.2.1 92 = .ok (.aload_n 0, 1) := by decide +kernel
theorem d_Rd_part_93 : decode mm_Rd_part.2.1 93 = .ok (.invokevirtual 92, 3) := by decide +kernel
theorem d_Rd_part_96 : decode mm_Rd_part.2.1 96 = .ok (.aload_n 0, 1) := by decide +kernel
theorem d_Rd_part_97 : decode mm_Rd_part.2.1 97 = .ok (.invokevirtual 80, 3) := by decide +kernel
theorem d_Rd_part_100 : decode mm_Rd_part.2.1 100 = .ok (.ireturn, 1) := by decide +kernel
theorem d_Rd_part_101 : decode mm_Rd_part.2.1 101 = .ok (.aload_n 0, 1) := by decide +kernel
theorem d_Rd_part_102 : decode mm_Rd_part.2.1 102 = .ok (.iload_n 1, 1) := by decide +kernel
theorem d_Rd_part_103 : decode mm_Rd_part.2.1 103 = .ok (.invokevirtual 95, 3) := by decide +kernel
theorem d_Rd_part_106 : decode mm_Rd_part.2.1 106 = .ok (.ireturn, 1) := by decide +kernel
theorem d_Rd_part_107 : decode mm_Rd_part.2.1 107 = .ok (.aload_n 0, 1) := by decide +kernel
theorem d_Rd_part_108 : decode mm_Rd_part.2.1 108 = .ok (.iload_n 1, 1) := by decide +kernel
theorem d_Rd_part_109 : decode mm_Rd_part.2.1 109 = .ok (.invokevirtual 98, 3) := by decide +kernel
theorem d_Rd_part_112 : decode mm_Rd_part.2.1 112 = .ok (.ifCond .eq 26, 3) := by decide +kernel
theorem d_Rd_part_115 : decode mm_Rd_part.2.1 115 = .ok (.aload_n 0, 1) := by decide +kernel
theorem d_Rd_part_116 : decode mm_Rd_part.2.1 116 = .ok (.iload_n 1, 1) := by decide +kernel
theorem d_Rd_part_117 : decode mm_Rd_part.2.1 117 = .ok (.iconst 1, 1) := by decide +kernel
theorem d_Rd_part_118 : decode mm_Rd_part.2.1 118 = .ok (.iadd, 1) := by decide +kernel
theorem d_Rd_part_119 : decode mm_Rd_part.2.1 119 = .ok (.invokevirtual 58, 3) := by decide +kernel
theorem d_Rd_part_122 : decode mm_Rd_part.2.1 122 = .ok (.ifCond .eq 16, 3) := by decide +kernel
theorem d_Rd_part_125 : decode mm_Rd_part.2.1 125 = .ok (.aload_n 0, 1) := by decide +kernel
theorem d_Rd_part_126 : decode mm_Rd_part.2.1 126 = .ok (.bipush 41, 2) := by decide +kernel
theorem d_Rd_part_128 : decode mm_Rd_part.2.1 128 = .ok (.invokevirtual 54, 3) := by decide +kernel
theorem d_Rd_part_131 : decode mm_Rd_part.2.1 131 = .ok (.ifCond .eq 7, 3) := by decide +kernel
theorem d_Rd_part_134 : decode mm_Rd_part.2.1 134 = .ok (.iconst 1, 1) := by decide +kernel
theorem d_Rd_part_135 : decode mm_Rd_part.2.1 135 = .ok (.goto 4, 3) := by decide +kernel
theorem d_Rd_part_138 : decode mm_Rd_part.2.1 138 = .ok (.iconst 0, 1) := by decide +kernel
theorem d_Rd_part_139 : decode mm_Rd_part.2.1 139 = .ok (.ireturn, 1) := by decide +kernel
theorem d_Rd_part_140 : decode mm_Rd_part.2.1 140 = .ok (.aload_n 0, 1) := by decide +kernel
theorem d_Rd_part_141 : decode mm_Rd_part.2.1 141 = .ok (.iload_n 1, 1) := by decide +kernel
theorem d_Rd_part_142 : decode mm_Rd_part.2.1 142 = .ok (.invokevirtual 101, 3) := by decide +kernel
theorem d_Rd_part_145 : decode mm_Rd_part.2.1 145 = .ok (.ireturn, 1) := by decide +kernel
theorem d_Rd_part_146 : decode mm_Rd_part.2.1 146 = .ok (.aload_n 0, 1) := by decide +kernel
theorem d_Rd_part_147 : decode mm_Rd_part.2.1 147 = .ok (.iload_n 1, 1) := by decide +kernel
theorem d_Rd_part_148 : decode mm_Rd_part.2.1 148 = .ok (.invokevirtual 104, 3) := by decide +kernel
theorem d_Rd_part_151 : decode mm_Rd_part.2.1 151 = .ok (.ireturn, 1) := by decide +kernel
theorem d_Rd_part_152 : decode mm_Rd_part.2.1 152 = .ok (.aload_n 0, 1) := by decide +kernel
theorem d_Rd_part_153 : decode mm_Rd_part.2.1 153 = .ok (.iconst 2, 1) := by decide +kernel
theorem d_Rd_part_154 : decode mm_Rd_part.2.1 154 = .ok (.invokevirtual 64, 3) := by decide +kernel
theorem d_Rd_part_157 : decode mm_Rd_part.2.1 157 = .ok (.ireturn, 1) := by decide +kernel
theorem d_Fm_addStep_0 : decode mm_Fm_addStep.2.1 0 = .ok (.aload_n 0, 1) := by decide +kernel
theorem d_Fm_addStep_1 : decode mm_Fm_addStep.2.1 1 = .ok (.getfield 18, 3) := by decide +kernel
theorem d_Fm_addStep_4 : decode mm_Fm_addStep.2.1 4 = .ok (.ifCond .lt 57, 3) := by decide +kernel
theorem d_Fm_addStep_7 : decode mm_Fm_addStep.2.1 7 = .ok (.aload_n 0, 1) := by decide +kernel
theorem d_Fm_addStep_8 : decode mm_Fm_addStep.2.1 8 = .ok (.getfield 18, 3) := by decide +kernel
theorem d_Fm_addStep_11 : decode mm_Fm_addStep.2.1 11 = .ok (.aload_n 0, 1) := by decide +kernel
theorem d_Fm_addStep_12 : decode mm_Fm_addStep.2.1 12 = .ok (.getfield 9, 3) := by decide +kernel
theorem d_Fm_addStep_15 : decode mm_Fm_addStep.2.1 15 = .ok (.arraylength, 1) := by decide +kernel
theorem d_Fm_addStep_16 : decode mm_Fm_addStep.2.1 16 = .ok (.if_icmp .ge 45, 3) := by decide +kernel
theorem d_Fm_addStep_19 : decode mm_Fm_addStep.2.1 19 = .ok (.aload_n 0, 1) := by decide +kernel
theorem d_Fm_addStep_20 : decode mm_Fm_addStep.2.1 20 = .ok (.getfield 18, 3) := by decide +kernel
theorem d_Fm_addStep_23 : decode mm_Fm_addStep.2.1 23 = .ok (.aload_n 0, 1) := by decide +kernel
theorem d_Fm_addStep_24 : decode mm_Fm_addStep.2.1 24 = .ok (.getfield 15, 3) := by decide +kernel
theorem d_Fm_addStep_27 : decode mm_Fm_addStep.2.1 27 = .ok (.arraylength, 1) := by decide +kernel
theorem d_Fm_addStep_28 : decode mm_Fm_addStep.2.1 28 = .ok (.if_icmp .ge 33, 3) := by decide +kernel
theorem d_Fm_addStep_31 : decode mm_Fm_addStep.2.1 31 = .ok (.aload_n 0, 1) := by decide +kernel
theorem d_Fm_addStep_32 : decode mm_Fm_addStep.2.1 32 = .ok (.getfield 9, 3) := by decide +kernel
theorem d_Fm_addStep_35 : decode mm_Fm_addStep.2.1 35 = .ok (.aload_n 0, 1) := by decide +kernel
theorem d_Fm_addStep_36 : decode mm_Fm_addStep.2.1 36 = .ok (.getfield 18, 3) := by decide +kernel
theorem d_Fm_addStep_39 : decode mm_Fm_addStep.2.1 39 = .ok (.iload_n 1, 1) := by decide +kernel
theorem d_Fm_addStep_40 : decode mm_Fm_addStep.2.1 40 = .ok (.iastore, 1) := by decide +kernel
theorem d_Fm_addStep_41 : decode mm_Fm_addStep.2.1 41 = .ok (.aload_n 0, 1) := by decide +kernel
theorem d_Fm_addStep_42 : decode mm_Fm_addStep.2.1 42 = .ok (.getfield 15, 3) := by decide +kernel
theorem d_Fm_addStep_45 : decode mm_Fm_addStep.2.1 45 = .ok (.aload_n 0, 1) := by decide +kernel
theorem d_Fm_addStep_46 : decode mm_Fm_addStep.2.1 46 = .ok (.getfield 18, 3) := by decide +kernel
theorem d_Fm_addStep_49 : decode mm_Fm_addStep.2.1 49 = .ok (.iload_n 2, 1) := by decide +kernel
theorem d_Fm_addStep_50 : decode mm_Fm_addStep.2.1 50 = .ok (.iastore, 1) := by decide +kernel
theorem d_Fm_addStep_51 : decode mm_Fm_addStep.2.1 51 = .ok (.aload_n 0, 1) := by decide +kernel
theorem d_Fm_addStep_52 : decode mm_Fm_addStep.2.1 52 = .ok (.dup, 1) := by decide +kernel
theorem d_Fm_addStep_53 : decode mm_Fm_addStep.2.1 53 = .ok (.getfield 18, 3) := by decide +kernel
theorem d_Fm_addStep_56 : decode mm_Fm_addStep.2.1 56 = .ok (.iconst 1, 1) := by decide +kernel
theorem d_Fm_addStep_57 : decode mm_Fm_addStep.2.1 57 = .ok (.iadd, 1) := by decide +kernel
theorem d_Fm_addStep_58 : decode mm_Fm_addStep.2.1 58 = .ok (.putfield 18, 3) := by decide +kernel
theorem d_Fm_addStep_61 : decode mm_Fm_addStep.2.1 61 = .ok (.return_, 1) := by decide +kernel
theorem d_Rd_passNode_0 : decode mm_Rd_passNode.2.1 0 = .ok (.aload_n 0, 1) := by decide +kernel
theorem d_Rd_passNode_1 : decode mm_Rd_passNode.2.1 1 = .ok (.getfield 36, 3) := by decide +kernel
theorem d_Rd_passNode_4 : decode mm_Rd_passNode.2.1 4 = .ok (.bipush 40, 2) := by decide +kernel
theorem d_Rd_passNode_6 : decode mm_Rd_passNode.2.1 6 = .ok (.if_icmp .lt 9, 3) := by decide +kernel
theorem d_Rd_passNode_9 : decode mm_Rd_passNode.2.1 9 = .ok (.aload_n 0, 1) := by decide +kernel
theorem d_Rd_passNode_10 : decode mm_Rd_passNode.2.1 10 = .ok (.iconst 3, 1) := by decide +kernel
theorem d_Rd_passNode_11 : decode mm_Rd_passNode.2.1 11 = .ok (.invokevirtual 64, 3) := by decide +kernel
theorem d_Rd_passNode_14 : decode mm_Rd_passNode.2.1 14 = .ok (.ireturn, 1) := by decide +kernel
theorem d_Rd_passNode_15 : decode mm_Rd_passNode.2.1 15 = .ok (.aload_n 0, 1) := by decide +kernel
theorem d_Rd_passNode_16 : decode mm_Rd_passNode.2.1 16 = .ok (.dup, 1) := by decide +kernel
theorem d_Rd_passNode_17 : decode mm_Rd_passNode.2.1 17 = .ok (.getfield 36, 3) := by decide +kernel
theorem d_Rd_passNode_20 : decode mm_Rd_passNode.2.1 20 = .ok (.iconst 1, 1) := by decide +kernel
theorem d_Rd_passNode_21 : decode mm_Rd_passNode.2.1 21 = .ok (.iadd, 1) := by decide +kernel
theorem d_Rd_passNode_22 : decode mm_Rd_passNode.2.1 22 = .ok (.putfield 36, 3) := by decide +kernel
theorem d_Rd_passNode_25 : decode mm_Rd_passNode.2.1 25 = .ok (.aload_n 0, 1) := by decide +kernel
theorem d_Rd_passNode_26 : decode mm_Rd_passNode.2.1 26 = .ok (.invokevirtual 49, 3) := by decide +kernel
theorem d_Rd_passNode_29 : decode mm_Rd_passNode.2.1 29 = .ok (.ireturn, 1) := by decide +kernel
theorem d_Rd_noteName_0 : decode mm_Rd_noteName.2.1 0 = .ok (.aload_n 0, 1) := by decide +kernel
theorem d_Rd_noteName_1 : decode mm_Rd_noteName.2.1 1 = .ok (.getfield 21, 3) := by decide +kernel
theorem d_Rd_noteName_4 : decode mm_Rd_noteName.2.1 4 = .ok (.getfield 107, 3) := by decide +kernel
theorem d_Rd_noteName_7 : decode mm_Rd_noteName.2.1 7 = .ok (.istore_n 1, 1) := by decide +kernel
theorem d_Rd_noteName_8 : decode mm_Rd_noteName.2.1 8 = .ok (.iload_n 1, 1) := by decide +kernel
theorem d_Rd_noteName_9 : decode mm_Rd_noteName.2.1 9 = .ok (.ifCond .lt 25, 3) := by decide +kernel
theorem d_Rd_noteName_12 : decode mm_Rd_noteName.2.1 12 = .ok (.iload_n 1, 1) := by decide +kernel
theorem d_Rd_noteName_13 : decode mm_Rd_noteName.2.1 13 = .ok (.aload_n 0, 1) := by decide +kernel
theorem d_Rd_noteName_14 : decode mm_Rd_noteName.2.1 14 = .ok (.getfield 39, 3) := by decide +kernel
theorem d_Rd_noteName_17 : decode mm_Rd_noteName.2.1 17 = .ok (.arraylength, 1) := by decide +kernel
theorem d_Rd_noteName_18 : decode mm_Rd_noteName.2.1 18 = .ok (.if_icmp .ge 16, 3) := by decide +kernel
theorem d_Rd_noteName_21 : decode mm_Rd_noteName.2.1 21 = .ok (.aload_n 0, 1) := by decide +kernel
theorem d_Rd_noteName_22 : decode mm_Rd_noteName.2.1 22 = .ok (.getfield 39, 3) := by decide +kernel
theorem d_Rd_noteName_25 : decode mm_Rd_noteName.2.1 25 = .ok (.iload_n 1, 1) := by decide +kernel
theorem d_Rd_noteName_26 : decode mm_Rd_noteName.2.1 26 = .ok (.aload_n 0, 1) := by decide +kernel
theorem d_Rd_noteName_27 : decode mm_Rd_noteName.2.1 27 = .ok (.getfield 12, 3) := by decide +kernel
theorem d_Rd_noteName_30 : decode mm_Rd_noteName.2.1 30 = .ok (.getfield 67, 3) := by decide +kernel
theorem d_Rd_noteName_33 : decode mm_Rd_noteName.2.1 33 = .ok (.iastore, 1) := by decide +kernel
theorem d_Rd_noteName_34 : decode mm_Rd_noteName.2.1 34 = .ok (.aload_n 0, 1) := by decide +kernel
theorem d_Rd_noteName_35 : decode mm_Rd_noteName.2.1 35 = .ok (.getfield 21, 3) := by decide +kernel
theorem d_Rd_noteName_38 : decode mm_Rd_noteName.2.1 38 = .ok (.aload_n 0, 1) := by decide +kernel
theorem d_Rd_noteName_39 : decode mm_Rd_noteName.2.1 39 = .ok (.getfield 12, 3) := by decide +kernel
theorem d_Rd_noteName_42 : decode mm_Rd_noteName.2.1 42 = .ok (.getfield 53, 3) := by decide +kernel
theorem d_Rd_noteName_45 : decode mm_Rd_noteName.2.1 45 = .ok (.invokevirtual 110, 3) := by decide +kernel
theorem d_Rd_noteName_48 : decode mm_Rd_noteName.2.1 48 = .ok (.return_, 1) := by decide +kernel
theorem d_Fm_addName_0 : decode mm_Fm_addName.2.1 0 = .ok (.aload_n 0, 1) := by decide +kernel
theorem d_Fm_addName_1 : decode mm_Fm_addName.2.1 1 = .ok (.getfield 32, 3) := by decide +kernel
theorem d_Fm_addName_4 : decode mm_Fm_addName.2.1 4 = .ok (.ifCond .lt 44, 3) := by decide +kernel
theorem d_Fm_addName_7 : decode mm_Fm_addName.2.1 7 = .ok (.aload_n 0, 1) := by decide +kernel
theorem d_Fm_addName_8 : decode mm_Fm_addName.2.1 8 = .ok (.getfield 32, 3) := by decide +kernel
theorem d_Fm_addName_11 : decode mm_Fm_addName.2.1 11 = .ok (.aload_n 0, 1) := by decide +kernel
theorem d_Fm_addName_12 : decode mm_Fm_addName.2.1 12 = .ok (.getfield 22, 3) := by decide +kernel
theorem d_Fm_addName_15 : decode mm_Fm_addName.2.1 15 = .ok (.arraylength, 1) := by decide +kernel
theorem d_Fm_addName_16 : decode mm_Fm_addName.2.1 16 = .ok (.if_icmp .ge 32, 3) := by decide +kernel
theorem d_Fm_addName_19 : decode mm_Fm_addName.2.1 19 = .ok (.aload_n 0, 1) := by decide +kernel
theorem d_Fm_addName_20 : decode mm_Fm_addName.2.1 20 = .ok (.getfield 22, 3) := by decide +kernel
theorem d_Fm_addName_23 : decode mm_Fm_addName.2.1 23 = .ok (.aload_n 0, 1) := by decide +kernel
theorem d_Fm_addName_24 : decode mm_Fm_addName.2.1 24 = .ok (.getfield 32, 3) := by decide +kernel
theorem d_Fm_addName_27 : decode mm_Fm_addName.2.1 27 = .ok (.lload_n 1, 1) := by decide +kernel
theorem d_Fm_addName_28 : decode mm_Fm_addName.2.1 28 = .ok (.lastore, 1) := by decide +kernel
theorem d_Fm_addName_29 : decode mm_Fm_addName.2.1 29 = .ok (.aload_n 0, 1) := by decide +kernel
theorem d_Fm_addName_30 : decode mm_Fm_addName.2.1 30 = .ok (.iconst 2, 1) := by decide +kernel
theorem d_Fm_addName_31 : decode mm_Fm_addName.2.1 31 = .ok (.aload_n 0, 1) := by decide +kernel
theorem d_Fm_addName_32 : decode mm_Fm_addName.2.1 32 = .ok (.getfield 32, 3) := by decide +kernel
theorem d_Fm_addName_35 : decode mm_Fm_addName.2.1 35 = .ok (.invokevirtual 35, 3) := by decide +kernel
theorem d_Fm_addName_38 : decode mm_Fm_addName.2.1 38 = .ok (.aload_n 0, 1) := by decide +kernel
theorem d_Fm_addName_39 : decode mm_Fm_addName.2.1 39 = .ok (.dup, 1) := by decide +kernel
theorem d_Fm_addName_40 : decode mm_Fm_addName.2.1 40 = .ok (.getfield 32, 3) := by decide +kernel
theorem d_Fm_addName_43 : decode mm_Fm_addName.2.1 43 = .ok (.iconst 1, 1) := by decide +kernel
theorem d_Fm_addName_44 : decode mm_Fm_addName.2.1 44 = .ok (.iadd, 1) := by decide +kernel
theorem d_Fm_addName_45 : decode mm_Fm_addName.2.1 45 = .ok (.putfield 32, 3) := by decide +kernel
theorem d_Fm_addName_48 : decode mm_Fm_addName.2.1 48 = .ok (.return_, 1) := by decide +kernel
theorem d_Rd_negated_0 : decode mm_Rd_negated.2.1 0 = .ok (.iload_n 1, 1) := by decide +kernel
theorem d_Rd_negated_1 : decode mm_Rd_negated.2.1 1 = .ok (.bipush 20, 2) := by decide +kernel
theorem d_Rd_negated_3 : decode mm_Rd_negated.2.1 3 = .ok (.if_icmp .lt 9, 3) := by decide +kernel
theorem d_Rd_negated_6 : decode mm_Rd_negated.2.1 6 = .ok (.aload_n 0, 1) := by decide +kernel
theorem d_Rd_negated_7 : decode mm_Rd_negated.2.1 7 = .ok (.iconst 3, 1) := by decide +kernel
theorem d_Rd_negated_8 : decode mm_Rd_negated.2.1 8 = .ok (.invokevirtual 64, 3) := by decide +kernel
theorem d_Rd_negated_11 : decode mm_Rd_negated.2.1 11 = .ok (.ireturn, 1) := by decide +kernel
theorem d_Rd_negated_12 : decode mm_Rd_negated.2.1 12 = .ok (.aload_n 0, 1) := by decide +kernel
theorem d_Rd_negated_13 : decode mm_Rd_negated.2.1 13 = .ok (.invokevirtual 80, 3) := by decide +kernel
theorem d_Rd_negated_16 : decode mm_Rd_negated.2.1 16 = .ok (.ifCond .eq 13, 3) := by decide +kernel
theorem d_Rd_negated_19 : decode mm_Rd_negated.2.1 19 = .ok (.aload_n 0, 1) := by decide +kernel
theorem d_Rd_negated_20 : decode mm_Rd_negated.2.1 20 = .ok (.iload_n 1, 1) := by decide +kernel
theorem d_Rd_negated_21 : decode mm_Rd_negated.2.1 21 = .ok (.iconst 1, 1) := by decide +kernel
theorem d_Rd_negated_22 : decode mm_Rd_negated.2.1 22 = .ok (.iadd, 1) := by decide +kernel
theorem d_Rd_negated_23 : decode mm_Rd_negated.2.1 23 = .ok (.invokevirtual 86, 3) := by decide +kernel
theorem d_Rd_negated_26 : decode mm_Rd_negated.2.1 26 = .ok (.ifCond .ne 5, 3) := by decide +kernel
theorem d_Rd_negated_29 : decode mm_Rd_negated.2.1 29 = .ok (.iconst 0, 1) := by decide +kernel
theorem d_Rd_negated_30 : decode mm_Rd_negated.2.1 30 = .ok (.ireturn, 1) := by decide +kernel
theorem d_Rd_negated_31 : decode mm_Rd_negated.2.1 31 = .ok (.aload_n 0, 1) := by decide +kernel
theorem d_Rd_negated_32 : decode mm_Rd_negated.2.1 32 = .ok (.getfield 21, 3) := by decide +kernel
theorem d_Rd_negated_35 : decode mm_Rd_negated.2.1 35 = .ok (.bipush 7, 2) := by decide +kernel
theorem d_Rd_negated_37 : decode mm_Rd_negated.2.1 37 = .ok (.iconst 0, 1) := by decide +kernel
theorem d_Rd_negated_38 : decode mm_Rd_negated.2.1 38 = .ok (.invokevirtual 83, 3) := by decide +kernel
theorem d_Rd_negated_41 : decode mm_Rd_negated.2.1 41 = .ok (.iconst 1, 1) := by decide +kernel
theorem d_Rd_negated_42 : decode mm_Rd_negated.2.1 42 = .ok (.ireturn, 1) := by decide +kernel
theorem d_Rd_passOpening_0 : decode mm_Rd_passOpening.2.1 0 = .ok (.aload_n 0, 1) := by decide +kernel
theorem d_Rd_passOpening_1 : decode mm_Rd_passOpening.2.1 1 = .ok (.getfield 12, 3) := by decide +kernel
theorem d_Rd_passOpening_4 : decode mm_Rd_passOpening.2.1 4 = .ok (.getfield 61, 3) := by decide +kernel
theorem d_Rd_passOpening_7 : decode mm_Rd_passOpening.2.1 7 = .ok (.bipush 40, 2) := by decide +kernel
theorem d_Rd_passOpening_9 : decode mm_Rd_passOpening.2.1 9 = .ok (.if_icmp .eq 9, 3) := by decide +kernel
theorem d_Rd_passOpening_12 : decode mm_Rd_passOpening.2.1 12 = .ok (.aload_n 0, 1) := by decide +kernel
theorem d_Rd_passOpening_13 : decode mm_Rd_passOpening.2.1 13 = .ok (.iconst 2, 1) := by decide +kernel
theorem d_Rd_passOpening_14 : decode mm_Rd_passOpening.2.1 14 = .ok (.invokevirtual 64, 3) := by decide +kernel
theorem d_Rd_passOpening_17 : decode mm_Rd_passOpening.2.1 17 = .ok (.ireturn, 1) := by decide +kernel
theorem d_Rd_passOpening_18 : decode mm_Rd_passOpening.2.1 18 = .ok (.iload_n 1, 1) := by decide +kernel
theorem d_Rd_passOpening_19 : decode mm_Rd_passOpening.2.1 19 = .ok (.bipush 20, 2) := by decide +kernel
theorem d_Rd_passOpening_21 : decode mm_Rd_passOpening.2.1 21 = .ok (.if_icmp .ge 10, 3) := by decide +kernel
theorem d_Rd_passOpening_24 : decode mm_Rd_passOpening.2.1 24 = .ok (.aload_n 0, 1) := by decide +kernel
theorem d_Rd_passOpening_25 : decode mm_Rd_passOpening.2.1 25 = .ok (.invokevirtual 49, 3) := by decide +kernel
theorem d_Rd_passOpening_28 : decode mm_Rd_passOpening.2.1 28 = .ok (.goto 8, 3) := by decide +kernel
theorem d_Rd_passOpening_31 : decode mm_Rd_passOpening.2.1 31 = .ok (.aload_n 0, 1) := by decide +kernel
theorem d_Rd_passOpening_32 : decode mm_Rd_passOpening.2.1 32 = .ok (.iconst 3, 1) := by decide +kernel
theorem d_Rd_passOpening_33 : decode mm_Rd_passOpening.2.1 33 = .ok (.invokevirtual 64, 3) := by decide +kernel
theorem d_Rd_passOpening_36 : decode mm_Rd_passOpening.2.1 36 = .ok (.ireturn, 1) := by decide +kernel
theorem d_Rd_lesserOrGreater_0 : decode mm_Rd_lesserOrGreater.2.1 0 = .ok (.aload_n 0, 1) := by decide +kernel
theorem d_Rd_lesserOrGreater_1 : decode mm_Rd_lesserOrGreater.2.1 1 = .ok (.getfield 12, 3) := by decide +kernel
theorem d_Rd_lesserOrGreater_4 : decode mm_Rd_lesserOrGreater.2.1 4 = .ok (.getfield 61, 3) := by decide +kernel
theorem d_Rd_lesserOrGreater_7 : decode mm_Rd_lesserOrGreater.2.1 7 = .ok (.istore_n 2, 1) := by decide +kernel
theorem d_Rd_lesserOrGreater_8 : decode mm_Rd_lesserOrGreater.2.1 8 = .ok (.aload_n 0, 1) := by decide +kernel
theorem d_Rd_lesserOrGreater_9 : decode mm_Rd_lesserOrGreater.2.1 9 = .ok (.invokevirtual 80, 3) := by decide +kernel
theorem d_Rd_lesserOrGreater_12 : decode mm_Rd_lesserOrGreater.2.1 12 = .ok (.ifCond .eq 40, 3) := by decide +kernel
theorem d_Rd_lesserOrGreater_15 : decode mm_Rd_lesserOrGreater.2.1 15 = .ok (.aload_n 0, 1) := by decide +kernel
theorem d_Rd_lesserOrGreater_16 : decode mm_Rd_lesserOrGreater.2.1 16 = .ok (.iload_n 1, 1) := by decide +kernel
theorem d_Rd_lesserOrGreater_17 : decode mm_Rd_lesserOrGreater.2.1 17 = .ok (.invokevirtual 98, 3) := by decide +kernel
theorem d_Rd_lesserOrGreater_20 : decode mm_Rd_lesserOrGreater.2.1 20 = .ok (.ifCond .eq 32, 3) := by decide +kernel
theorem d_Rd_lesserOrGreater_23 : decode mm_Rd_lesserOrGreater.2.1 23 = .ok (.aload_n 0, 1) := by decide +kernel
theorem d_Rd_lesserOrGreater_24 : decode mm_Rd_lesserOrGreater.2.1 24 = .ok (.iload_n 1, 1) := by decide +kernel
theorem d_Rd_lesserOrGreater_25 : decode mm_Rd_lesserOrGreater.2.1 25 = .ok (.iconst 1, 1) := by decide +kernel
theorem d_Rd_lesserOrGreater_26 : decode mm_Rd_lesserOrGreater.2.1 26 = .ok (.iadd, 1) := by decide +kernel
theorem d_Rd_lesserOrGreater_27 : decode mm_Rd_lesserOrGreater.2.1 27 = .ok (.invokevirtual 58, 3) := by decide +kernel
theorem d_Rd_lesserOrGreater_30 : decode mm_Rd_lesserOrGreater.2.1 30 = .ok (.ifCond .eq 22, 3) := by decide +kernel
theorem d_Rd_lesserOrGreater_33 : decode mm_Rd_lesserOrGreater.2.1 33 = .ok (.aload_n 0, 1) := by decide +kernel
theorem d_Rd_lesserOrGreater_34 : decode mm_Rd_lesserOrGreater.2.1 34 = .ok (.bipush 44, 2) := by decide +kernel
theorem d_Rd_lesserOrGreater_36 : decode mm_Rd_lesserOrGreater.2.1 36 = .ok (.invokevirtual 54, 3) := by decide +kernel
theorem d_Rd_lesserOrGreater_39 : decode mm_Rd_lesserOrGreater.2.1 39 = .ok (.ifCond .eq 13, 3) := by decide +kernel
theorem d_Rd_lesserOrGreater_42 : decode mm_Rd_lesserOrGreater.2.1 42 = .ok (.aload_n 0, 1) := by decide +kernel
theorem d_Rd_lesserOrGreater_43 : decode mm_Rd_lesserOrGreater.2.1 43 = .ok (.iload_n 1, 1) := by decide +kernel
theorem d_Rd_lesserOrGreater_44 : decode mm_Rd_lesserOrGreater.2.1 44 = .ok (.iconst 1, 1) := by decide +kernel
theorem d_Rd_lesserOrGreater_45 : decode mm_Rd_lesserOrGreater.2.1 45 = .ok (.iadd, 1) := by decide +kernel
theorem d_Rd_lesserOrGreater_46 : decode mm_Rd_lesserOrGreater.2.1 46 = .ok (.invokevirtual 58, 3) := by decide +kernel
theorem d_Rd_lesserOrGreater_49 : decode mm_Rd_lesserOrGreater.2.1 49 = .ok (.ifCond .ne 5, 3) := by decide +kernel
theorem d_Rd_lesserOrGreater_52 : decode mm_Rd_lesserOrGreater.2.1 52 = .ok (.iconst 0, 1) := by decide +kernel
theorem d_Rd_lesserOrGreater_53 : decode mm_Rd_lesserOrGreater.2.1 53 = .ok (.ireturn, 1) := by decide +kernel
theorem d_Rd_lesserOrGreater_54 : decode mm_Rd_lesserOrGreater.2.1 54 = .ok (.aload_n 0, 1) := by decide +kernel
theorem d_Rd_lesserOrGreater_55 : decode mm_Rd_lesserOrGreater.2.1 55 = .ok (.getfield 21, 3) := by decide +kernel
theorem d_Rd_lesserOrGreater_58 : decode mm_Rd_lesserOrGreater.2.1 58 = .ok (.iload_n 2, 1) := by decide +kernel
theorem d_Rd_lesserOrGreater_59 : decode mm_Rd_lesserOrGreater.2.1 59 = .ok (.iconst 0, 1) := by decide +kernel
theorem d_Rd_lesserOrGreater_60 : decode mm_Rd_lesserOrGreater.2.1 60 = .ok (.invokevirtual 83, 3) := by decide +kernel
theorem d_Rd_lesserOrGreater_63 : decode mm_Rd_lesserOrGreater.2.1 63 = .ok (.aload_n 0, 1) := by decide +kernel
theorem d_Rd_lesserOrGreater_64 : decode mm_Rd_lesserOrGreater.2.1 64 = .ok (.bipush 41, 2) := by decide +kernel
theorem d_Rd_lesserOrGreater_66 : decode mm_Rd_lesserOrGreater.2.1 66 = .ok (.invokevirtual 54, 3) := by decide +kernel
theorem d_Rd_lesserOrGreater_69 : decode mm_Rd_lesserOrGreater.2.1 69 = .ok (.ireturn, 1) := by decide +kernel
theorem d_Rd_choice_0 : decode mm_Rd_choice.2.1 0 = .ok (.aload_n 0, 1) := by decide +kernel
theorem d_Rd_choice_1 : decode mm_Rd_choice.2.1 1 = .ok (.invokevirtual 80, 3) := by decide +kernel
theorem d_Rd_choice_4 : decode mm_Rd_choice.2.1 4 = .ok (.ifCond .eq 30, 3) := by decide +kernel
theorem d_Rd_choice_7 : decode mm_Rd_choice.2.1 7 = .ok (.aload_n 0, 1) := by decide +kernel
theorem d_Rd_choice_8 : decode mm_Rd_choice.2.1 8 = .ok (.iload_n 1, 1) := by decide +kernel
theorem d_Rd_choice_9 : decode mm_Rd_choice.2.1 9 = .ok (.invokevirtual 98, 3) := by decide +kernel
theorem d_Rd_choice_12 : decode mm_Rd_choice.2.1 12 = .ok (.ifCond .eq 22, 3) := by decide +kernel
theorem d_Rd_choice_15 : decode mm_Rd_choice.2.1 15 = .ok (.aload_n 0, 1) := by decide +kernel
theorem d_Rd_choice_16 : decode mm_Rd_choice.2.1 16 = .ok (.iload_n 1, 1) := by decide +kernel
theorem d_Rd_choice_17 : decode mm_Rd_choice.2.1 17 = .ok (.iconst 1, 1) := by decide +kernel
theorem d_Rd_choice_18 : decode mm_Rd_choice.2.1 18 = .ok (.iadd, 1) := by decide +kernel
theorem d_Rd_choice_19 : decode mm_Rd_choice.2.1 19 = .ok (.invokevirtual 58, 3) := by decide +kernel
theorem d_Rd_choice_22 : decode mm_Rd_choice.2.1 22 = .ok (.ifCond .eq 12, 3) := by decide +kernel
theorem d_Rd_choice_25 : decode mm_Rd_choice.2.1 25 = .ok (.aload_n 0, 1) := by decide +kernel
theorem d_Rd_choice_26 : decode mm_Rd_choice.2.1 26 = .ok (.bipush 44, 2) := by decide +kernel
theorem d_Rd_choice_28 : decode mm_Rd_choice.2.1 28 = .ok (.invokevirtual 54, 3) := by decide +kernel
theorem d_Rd_choice_31 : decode mm_Rd_choice.2.1 31 = .ok (.ifCond .ne 5, 3) := by decide +kernel
theorem d_Rd_choice_34 : decode mm_Rd_choice.2.1 34 = .ok (.iconst 0, 1) := by decide +kernel
theorem d_Rd_choice_35 : decode mm_Rd_choice.2.1 35 = .ok (.ireturn, 1) := by decide +kernel
theorem d_Rd_choice_36 : decode mm_Rd_choice.2.1 36 = .ok (.aload_n 0, 1) := by decide +kernel
theorem d_Rd_choice_37 : decode mm_Rd_choice.2.1 37 = .ok (.getfield 21, 3) := by decide +kernel
theorem d_Rd_choice_40 : decode mm_Rd_choice.2.1 40 = .ok (.getfield 114, 3) := by decide +kernel
theorem d_Rd_choice_43 : decode mm_Rd_choice.2.1 43 = .ok (.istore_n 2, 1) := by decide +kernel
theorem d_Rd_choice_44 : decode mm_Rd_choice.2.1 44 = .ok (.aload_n 0, 1) := by decide +kernel
theorem d_Rd_choice_45 : decode mm_Rd_choice.2.1 45 = .ok (.getfield 21, 3) := by decide +kernel
theorem d_Rd_choice_48 : decode mm_Rd_choice.2.1 48 = .ok (.bipush 8, 2) := by decide +kernel
theorem d_Rd_choice_50 : decode mm_Rd_choice.2.1 50 = .ok (.iconst 0, 1) := by decide +kernel
theorem d_Rd_choice_51 : decode mm_Rd_choice.2.1 51 = .ok (.invokevirtual 83, 3) := by decide +kernel
theorem d_Rd_choice_54 : decode mm_Rd_choice.2.1 54 = .ok (.aload_n 0, 1) := by decide +kernel
theorem d_Rd_choice_55 : decode mm_Rd_choice.2.1 55 = .ok (.iload_n 1, 1) := by decide +kernel
theorem d_Rd_choice_56 : decode mm_Rd_choice.2.1 56 = .ok (.iconst 1, 1) := by decide +kernel
theorem d_Rd_choice_57 : decode mm_Rd_choice.2.1 57 = .ok (.iadd, 1) := by decide +kernel
theorem d_Rd_choice_58 : decode mm_Rd_choice.2.1 58 = .ok (.invokevirtual 58, 3) := by decide +kernel
theorem d_Rd_choice_61 : decode mm_Rd_choice.2.1 61 = .ok (.ifCond .eq 12, 3) := by decide +kernel
theorem d_Rd_choice_64 : decode mm_Rd_choice.2.1 64 = .ok (.aload_n 0, 1) := by decide +kernel
theorem d_Rd_choice_65 : decode mm_Rd_choice.2.1 65 = .ok (.bipush 44, 2) := by decide +kernel
theorem d_Rd_choice_67 : decode mm_Rd_choice.2.1 67 = .ok (.invokevirtual 54, 3) := by decide +kernel
theorem d_Rd_choice_70 : decode mm_Rd_choice.2.1 70 = .ok (.ifCond .ne 5, 3) := by decide +kernel
theorem d_Rd_choice_73 : decode mm_Rd_choice.2.1 73 = .ok (.iconst 0, 1) := by decide +kernel
theorem d_Rd_choice_74 : decode mm_Rd_choice.2.1 74 = .ok (.ireturn, 1) := by decide +kernel
theorem d_Rd_choice_75 : decode mm_Rd_choice.2.1 75 = .ok (.aload_n 0, 1) := by decide +kernel
theorem d_Rd_choice_76 : decode mm_Rd_choice.2.1 76 = .ok (.getfield 21, 3) := by decide +kernel
theorem d_Rd_choice_79 : decode mm_Rd_choice.2.1 79 = .ok (.getfield 114, 3) := by decide +kernel
theorem d_Rd_choice_82 : decode mm_Rd_choice.2.1 82 = .ok (.istore_n 3, 1) := by decide +kernel
theorem d_Rd_choice_83 : decode mm_Rd_choice.2.1 83 = .ok (.aload_n 0, 1) := by decide +kernel
theorem d_Rd_choice_84 : decode mm_Rd_choice.2.1 84 = .ok (.getfield 21, 3) := by decide +kernel
theorem d_Rd_choice_87 : decode mm_Rd_choice.2.1 87 = .ok (.bipush 9, 2) := by decide +kernel
theorem d_Rd_choice_89 : decode mm_Rd_choice.2.1 89 = .ok (.iconst 0, 1) := by decide +kernel
theorem d_Rd_choice_90 : decode mm_Rd_choice.2.1 90 = .ok (.invokevirtual 83, 3) := by decide +kernel
theorem d_Rd_choice_93 : decode mm_Rd_choice.2.1 93 = .ok (.aload_n 0, 1) := by decide +kernel
theorem d_Rd_choice_94 : decode mm_Rd_choice.2.1 94 = .ok (.getfield 21, 3) := by decide +kernel
theorem d_Rd_choice_97 : decode mm_Rd_choice.2.1 97 = .ok (.iload_n 2, 1) := by decide +kernel
theorem d_Rd_choice_98 : decode mm_Rd_choice.2.1 98 = .ok (.invokevirtual 117, 3) := by decide +kernel
theorem d_Rd_choice_101 : decode mm_Rd_choice.2.1 101 = .ok (.aload_n 0, 1) := by decide +kernel
theorem d_Rd_choice_102 : decode mm_Rd_choice.2.1 102 = .ok (.iload_n 1, 1) := by decide +kernel
theorem d_Rd_choice_103 : decode mm_Rd_choice.2.1 103 = .ok (.iconst 1, 1) := by decide +kernel
theorem d_Rd_choice_104 : decode mm_Rd_choice.2.1 104 = .ok (.iadd, 1) := by decide +kernel
theorem d_Rd_choice_105 : decode mm_Rd_choice.2.1 105 = .ok (.invokevirtual 58, 3) := by decide +kernel
theorem d_Rd_choice_108 : decode mm_Rd_choice.2.1 108 = .ok (.ifCond .ne 5, 3) := by decide +kernel
theorem d_Rd_choice_111 : decode mm_Rd_choice.2.1 111 = .ok (.iconst 0, 1) := by decide +kernel
theorem d_Rd_choice_112 : decode mm_Rd_choice.2.1 112 = .ok (.ireturn, 1) := by decide +kernel
theorem d_Rd_choice_113 : decode mm_Rd_choice.2.1 113 = .ok (.aload_n 0, 1) := by decide +kernel
theorem d_Rd_choice_114 : decode mm_Rd_choice.2.1 114 = .ok (.getfield 21, 3) := by decide +kernel
theorem d_Rd_choice_117 : decode mm_Rd_choice.2.1 117 = .ok (.iload_n 3, 1) := by decide +kernel
theorem d_Rd_choice_118 : decode mm_Rd_choice.2.1 118 = .ok (.invokevirtual 117, 3) := by decide +kernel
theorem d_Rd_choice_121 : decode mm_Rd_choice.2.1 121 = .ok (.aload_n 0, 1) := by decide +kernel
theorem d_Rd_choice_122 : decode mm_Rd_choice.2.1 122 = .ok (.bipush 41, 2) := by decide +kernel
theorem d_Rd_choice_124 : decode mm_Rd_choice.2.1 124 = .ok (.invokevirtual 54, 3) := by decide +kernel
theorem d_Rd_choice_127 : decode mm_Rd_choice.2.1 127 = .ok (.ireturn, 1) := by decide +kernel
theorem d_Fm_aimHere_0 : decode mm_Fm_aimHere.2.1 0 = .ok (.iload_n 1, 1) := by decide +kernel
theorem d_Fm_aimHere_1 : decode mm_Fm_aimHere.2.1 1 = .ok (.ifCond .lt 30, 3) := by decide +kernel
theorem d_Fm_aimHere_4 : decode mm_Fm_aimHere.2.1 4 = .ok (.iload_n 1, 1) := by decide +kernel
theorem d_Fm_aimHere_5 : decode mm_Fm_aimHere.2.1 5 = .ok (.aload_n 0, 1) := by decide +kernel
theorem d_Fm_aimHere_6 : decode mm_Fm_aimHere.2.1 6 = .ok (.getfield 18, 3) := by decide +kernel
theorem d_Fm_aimHere_9 : decode mm_Fm_aimHere.2.1 9 = .ok (.if_icmp .ge 22, 3) := by decide +kernel
theorem d_Fm_aimHere_12 : decode mm_Fm_aimHere.2.1 12 = .ok (.iload_n 1, 1) := by decide +kernel
theorem d_Fm_aimHere_13 : decode mm_Fm_aimHere.2.1 13 = .ok (.aload_n 0, 1) := by decide +kernel
theorem d_Fm_aimHere_14 : decode mm_Fm_aimHere.2.1 14 = .ok (.getfield 15, 3) := by decide +kernel
theorem d_Fm_aimHere_17 : decode mm_Fm_aimHere.2.1 17 = .ok (.arraylength, 1) := by decide +kernel
theorem d_Fm_aimHere_18 : decode mm_Fm_aimHere.2.1 18 = .ok (.if_icmp .ge 13, 3) := by decide +kernel
theorem d_Fm_aimHere_21 : decode mm_Fm_aimHere.2.1 21 = .ok (.aload_n 0, 1) := by decide +kernel
theorem d_Fm_aimHere_22 : decode mm_Fm_aimHere.2.1 22 = .ok (.getfield 15, 3) := by decide +kernel
theorem d_Fm_aimHere_25 : decode mm_Fm_aimHere.2.1 25 = .ok (.iload_n 1, 1) := by decide +kernel
theorem d_Fm_aimHere_26 : decode mm_Fm_aimHere.2.1 26 = .ok (.aload_n 0, 1) := by decide +kernel
theorem d_Fm_aimHere_27 : decode mm_Fm_aimHere.2.1 27 = .ok (.getfield 18, 3) := by decide +kernel
theorem d_Fm_aimHere_30 : decode mm_Fm_aimHere.2.1 30 = .ok (.iastore, 1) := by decide +kernel
theorem d_Fm_aimHere_31 : decode mm_Fm_aimHere.2.1 31 = .ok (.return_, 1) := by decide +kernel
theorem d_CW_settle_0 : decode mm_CW_settle.2.1 0 = .ok (.aload_n 0, 1) := by decide +kernel
theorem d_CW_settle_1 : decode mm_CW_settle.2.1 1 = .ok (.getfield 19, 3) := by decide +kernel
theorem d_CW_settle_4 : decode mm_CW_settle.2.1 4 = .ok (.aload_n 0, 1) := by decide +kernel
theorem d_CW_settle_5 : decode mm_CW_settle.2.1 5 = .ok (.getfield 12, 3) := by decide +kernel
theorem d_CW_settle_8 : decode mm_CW_settle.2.1 8 = .ok (.getfield 149, 3) := by decide +kernel
theorem d_CW_settle_11 : decode mm_CW_settle.2.1 11 = .ok (.invokevirtual 88, 3) := by decide +kernel
theorem d_CW_settle_14 : decode mm_CW_settle.2.1 14 = .ok (.astore_n 1, 1) := by decide +kernel
theorem d_CW_settle_15 : decode mm_CW_settle.2.1 15 = .ok (.aload_n 1, 1) := by decide +kernel
theorem d_CW_settle_16 : decode mm_CW_settle.2.1 16 = .ok (.ifnonnull 25, 3) := by decide +kernel
theorem d_CW_settle_19 : decode mm_CW_settle.2.1 19 = .ok (.aload_n 0, 1) := by decide +kernel
theorem d_CW_settle_20 : decode mm_CW_settle.2.1 20 = .ok (.getfield 19, 3) := by decide +kernel
theorem d_CW_settle_23 : decode mm_CW_settle.2.1 23 = .ok (.getfield 126, 3) := by decide +kernel
theorem d_CW_settle_26 : decode mm_CW_settle.2.1 26 = .ok (.bipush 64, 2) := by decide +kernel
theorem d_CW_settle_28 : decode mm_CW_settle.2.1 28 = .ok (.if_icmp .ne 13, 3) := by decide +kernel
theorem d_CW_settle_31 : decode mm_CW_settle.2.1 31 = .ok (.aload_n 0, 1) := by decide +kernel
theorem d_CW_settle_32 : decode mm_CW_settle.2.1 32 = .ok (.getfield 12, 3) := by decide +kernel
theorem d_CW_settle_35 : decode mm_CW_settle.2.1 35 = .ok (.iconst 4, 1) := by decide +kernel
theorem d_CW_settle_36 : decode mm_CW_settle.2.1 36 = .ok (.iconst 0, 1) := by decide +kernel
theorem d_CW_settle_37 : decode mm_CW_settle.2.1 37 = .ok (.invokevirtual 153, 3) := by decide +kernel
theorem d_CW_settle_40 : decode mm_CW_settle.2.1 40 = .ok (.return_, 1) := by decide +kernel
theorem d_CW_settle_41 : decode mm_CW_settle.2.1 41 = .ok (.aload_n 0, 1) := by decide +kernel
theorem d_CW_settle_42 : decode mm_CW_settle.2.1 42 = .ok (.getfield 19, 3) := by decide +kernel
theorem d_CW_settle_45 : decode mm_CW_settle.2.1 45 = .ok (.aload_n 0, 1) := by decide +kernel
theorem d_CW_settle_46 : decode mm_CW_settle.2.1 46 = .ok (.getfield 12, 3) := by decide +kernel
theorem d_CW_settle_49 : decode mm_CW_settle.2.1 49 = .ok (.getfield 149, 3) := by decide +kernel
theorem d_CW_settle_52 : decode mm_CW_settle.2.1 52 = .ok (.aload_n 0, 1) := by decide +kernel
theorem d_CW_settle_53 : decode mm_CW_settle.2.1 53 = .ok (.getfield 12, 3) := by decide +kernel
theorem d_CW_settle_56 : decode mm_CW_settle.2.1 56 = .ok (.getfield 157, 3) := by decide +kernel
theorem d_CW_settle_59 : decode mm_CW_settle.2.1 59 = .ok (.invokevirtual 161, 3) := by decide +kernel
theorem d_CW_settle_62 : decode mm_CW_settle.2.1 62 = .ok (.istore_n 2, 1) := by decide +kernel
theorem d_CW_settle_63 : decode mm_CW_settle.2.1 63 = .ok (.iload_n 2, 1) := by decide +kernel
theorem d_CW_settle_64 : decode mm_CW_settle.2.1 64 = .ok (.iconst (-1), 1) := by decide +kernel
theorem d_CW_settle_65 : decode mm_CW_settle.2.1 65 = .ok (.if_icmp .eq 20, 3) := by decide +kernel
theorem d_CW_settle_68 : decode mm_CW_settle.2.1 68 = .ok (.aload_n 0, 1) := by decide +kernel
theorem d_CW_settle_69 : decode mm_CW_settle.2.1 69 = .ok (.getfield 12, 3) := by decide +kernel
theorem d_CW_settle_72 : decode mm_CW_settle.2.1 72 = .ok (.iconst 5, 1) := by decide +kernel
theorem d_CW_settle_73 : decode mm_CW_settle.2.1 73 = .ok (.aload_n 0, 1) := by decide +kernel
theorem d_CW_settle_74 : decode mm_CW_settle.2.1 74 = .ok (.getfield 12, 3) := by decide +kernel
theorem d_CW_settle_77 : decode mm_CW_settle.2.1 77 = .ok (.iload_n 2, 1) := by decide +kernel
theorem d_CW_settle_78 : decode mm_CW_settle.2.1 78 = .ok (.invokevirtual 165, 3) := by decide +kernel
theorem d_CW_settle_81 : decode mm_CW_settle.2.1 81 = .ok (.invokevirtual 153, 3) := by decide +kernel
theorem d_CW_settle_84 : decode mm_CW_settle.2.1 84 = .ok (.return_, 1) := by decide +kernel
theorem d_CW_settle_85 : decode mm_CW_settle.2.1 85 = .ok (.aload_n 1, 1) := by decide +kernel
theorem d_CW_settle_86 : decode mm_CW_settle.2.1 86 = .ok (.ifnonnull 41, 3) := by decide +kernel
theorem d_CW_settle_89 : decode mm_CW_settle.2.1 89 = .ok (.aload_n 0, 1) := by decide +kernel
theorem d_CW_settle_90 : decode mm_CW_settle.2.1 90 = .ok (.getfield 19, 3) := by decide +kernel
theorem d_CW_settle_93 : decode mm_CW_settle.2.1 93 = .ok (.new 97, 3) := by decide +kernel
theorem d_CW_settle_96 : decode mm_CW_settle.2.1 96 = .ok (.dup, 1) := by decide +kernel
theorem d_CW_settle_97 : decode mm_CW_settle.2.1 97 = .ok (.aload_n 0, 1) := by decide +kernel
theorem d_CW_settle_98 : decode mm_CW_settle.2.1 98 = .ok (.getfield 12, 3) := by decide +kernel
theorem d_CW_settle_101 : decode mm_CW_settle.2.1 101 = .ok (.getfield 149, 3) := by decide +kernel
theorem d_CW_settle_104 : decode mm_CW_settle.2.1 104 = .ok (.aload_n 0, 1) := by decide +kernel
theorem d_CW_settle_105 : decode mm_CW_settle.2.1 105 = .ok (.getfield 12, 3) := by decide +kernel
theorem d_CW_settle_108 : decode mm_CW_settle.2.1 108 = .ok (.new 169, 3) := by decide +kernel
theorem d_CW_settle_111 : decode mm_CW_settle.2.1 111 = .ok (.dup, 1) := by decide +kernel
theorem d_CW_settle_112 : decode mm_CW_settle.2.1 112 = .ok (.invokespecial 171, 3) := by decide +kernel
theorem d_CW_settle_115 : decode mm_CW_settle.2.1 115 = .ok (.invokevirtual 172, 3) := by decide +kernel
theorem d_CW_settle_118 : decode mm_CW_settle.2.1 118 = .ok (.invokespecial 176, 3) := by decide +kernel
theorem d_CW_settle_121 : decode mm_CW_settle.2.1 121 = .ok (.invokevirtual 179, 3) := by decide +kernel
theorem d_CW_settle_124 : decode mm_CW_settle.2.1 124 = .ok (.goto 23, 3) := by decide +kernel
theorem d_CW_settle_127 : decode mm_CW_settle.2.1 127 = .ok (.aload_n 1, 1) := by decide +kernel
theorem d_CW_settle_128 : decode mm_CW_settle.2.1 128 = .ok (.aload_n 0, 1) := by decide +kernel
theorem d_CW_settle_129 : decode mm_CW_settle.2.1 129 = .ok (.getfield 12, 3) := by decide +kernel
theorem d_CW_settle_132 : decode mm_CW_settle.2.1 132 = .ok (.aload_n 1, 1) := by decide +kernel
theorem d_CW_settle_133 : decode mm_CW_settle.2.1 133 = .ok (.getfield 183, 3) := by decide +kernel
theorem d_CW_settle_136 : decode mm_CW_settle.2.1 136 = .ok (.invokevirtual 172, 3) := by decide +kernel
theorem d_CW_settle_139 : decode mm_CW_settle.2.1 139 = .ok (.putfield 183, 3) := by decide +kernel
theorem d_CW_settle_142 : decode mm_CW_settle.2.1 142 = .ok (.aload_n 1, 1) := by decide +kernel
theorem d_CW_settle_143 : decode mm_CW_settle.2.1 143 = .ok (.iconst 0, 1) := by decide +kernel
theorem d_CW_settle_144 : decode mm_CW_settle.2.1 144 = .ok (.putfield 184, 3) := by decide +kernel
theorem d_CW_settle_147 : decode mm_CW_settle.2.1 147 = .ok (.return_, 1) := by decide +kernel
theorem d_Cs_find_0 : decode mm_Cs_find.2.1 0 = .ok (.aload_n 0, 1) := by decide +kernel
theorem d_Cs_find_1 : decode mm_Cs_find.2.1 1 = .ok (.lload_n 1, 1) := by decide +kernel
theorem d_Cs_find_2 : decode mm_Cs_find.2.1 2 = .ok (.invokevirtual 33, 3) := by decide +kernel
theorem d_Cs_find_5 : decode mm_Cs_find.2.1 5 = .ok (.istore_n 3, 1) := by decide +kernel
theorem d_Cs_find_6 : decode mm_Cs_find.2.1 6 = .ok (.iload_n 3, 1) := by decide +kernel
theorem d_Cs_find_7 : decode mm_Cs_find.2.1 7 = .ok (.iconst (-1), 1) := by decide +kernel
theorem d_Cs_find_8 : decode mm_Cs_find.2.1 8 = .ok (.if_icmp .ne 7, 3) := by decide +kernel
theorem d_Cs_find_11 : decode mm_Cs_find.2.1 11 = .ok (.aconst_null, 1) := by decide +kernel
theorem d_Cs_find_12 : decode mm_Cs_find.2.1 12 = .ok (.goto 9, 3) := by decide +kernel
theorem d_Cs_find_15 : decode mm_Cs_find.2.1 15 = .ok (.aload_n 0, 1) := by decide +kernel
theorem d_Cs_find_16 : decode mm_Cs_find.2.1 16 = .ok (.getfield 11, 3) := by decide +kernel
theorem d_Cs_find_19 : decode mm_Cs_find.2.1 19 = .ok (.iload_n 3, 1) := by decide +kernel
theorem d_Cs_find_20 : decode mm_Cs_find.2.1 20 = .ok (.aaload, 1) := by decide +kernel
theorem d_Cs_find_21 : decode mm_Cs_find.2.1 21 = .ok (.areturn, 1) := by decide +kernel
theorem d_Cs_indexOf_0 : decode mm_Cs_indexOf.2.1 0 = .ok (.aload_n 0, 1) := by decide +kernel
theorem d_Cs_indexOf_1 : decode mm_Cs_indexOf.2.1 1 = .ok (.lload_n 1, 1) := by decide +kernel
theorem d_Cs_indexOf_2 : decode mm_Cs_indexOf.2.1 2 = .ok (.invokevirtual 29, 3) := by decide +kernel
theorem d_Cs_indexOf_5 : decode mm_Cs_indexOf.2.1 5 = .ok (.istore_n 3, 1) := by decide +kernel
theorem d_Cs_indexOf_6 : decode mm_Cs_indexOf.2.1 6 = .ok (.iload_n 3, 1) := by decide +kernel
theorem d_Cs_indexOf_7 : decode mm_Cs_indexOf.2.1 7 = .ok (.aload_n 0, 1) := by decide +kernel
theorem d_Cs_indexOf_8 : decode mm_Cs_indexOf.2.1 8 = .ok (.getfield 17, 3) := by decide +kernel
theorem d_Cs_indexOf_11 : decode mm_Cs_indexOf.2.1 11 = .ok (.if_icmp .ge 21, 3) := by decide +kernel
theorem d_Cs_indexOf_14 : decode mm_Cs_indexOf.2.1 14 = .ok (.aload_n 0, 1) := by decide +kernel
theorem d_Cs_indexOf_15 : decode mm_Cs_indexOf.2.1 15 = .ok (.getfield 11, 3) := by decide +kernel
theorem d_Cs_indexOf_18 : decode mm_Cs_indexOf.2.1 18 = .ok (.iload_n 3, 1) := by decide +kernel
theorem d_Cs_indexOf_19 : decode mm_Cs_indexOf.2.1 19 = .ok (.aaload, 1) := by decide +kernel
theorem d_Cs_indexOf_20 : decode mm_Cs_indexOf.2.1 20 = .ok (.getfield 25, 3) := by decide +kernel
theorem d_Cs_indexOf_23 : decode mm_Cs_indexOf.2.1 23 = .ok (.lload_n 1, 1) := by decide +kernel
theorem d_Cs_indexOf_24 : decode mm_Cs_indexOf.2.1 24 = .ok (.lcmp, 1) := by decide +kernel
theorem d_Cs_indexOf_25 : decode mm_Cs_indexOf.2.1 25 = .ok (.ifCond .ne 7, 3) := by decide +kernel
theorem d_Cs_indexOf_28 : decode mm_Cs_indexOf.2.1 28 = .ok (.iload_n 3, 1) := by decide +kernel
theorem d_Cs_indexOf_29 : decode mm_Cs_indexOf.2.1 29 = .ok (.goto 4, 3) := by decide +kernel
theorem d_Cs_indexOf_32 : decode mm_Cs_indexOf.2.1 32 = .ok (.iconst (-1), 1) := by decide +kernel
theorem d_Cs_indexOf_33 : decode mm_Cs_indexOf.2.1 33 = .ok (.ireturn, 1) := by decide +kernel
theorem d_Cs_placeFor_0 : decode mm_Cs_placeFor.2.1 0 = .ok (.iconst 0, 1) := by decide +kernel
theorem d_Cs_placeFor_1 : decode mm_Cs_placeFor.2.1 1 = .ok (.istore_n 3, 1) := by decide +kernel
theorem d_Cs_placeFor_2 : decode mm_Cs_placeFor.2.1 2 = .ok (.bipush 64, 2) := by decide +kernel
theorem d_Cs_placeFor_4 : decode mm_Cs_placeFor.2.1 4 = .ok (.istore 4, 2) := by decide +kernel
theorem d_Cs_placeFor_6 : decode mm_Cs_placeFor.2.1 6 = .ok (.iload 4, 2) := by decide +kernel
theorem d_Cs_placeFor_8 : decode mm_Cs_placeFor.2.1 8 = .ok (.ifCond .le 47, 3) := by decide +kernel
theorem d_Cs_placeFor_11 : decode mm_Cs_placeFor.2.1 11 = .ok (.iload_n 3, 1) := by decide +kernel
theorem d_Cs_placeFor_12 : decode mm_Cs_placeFor.2.1 12 = .ok (.iload 4, 2) := by decide +kernel
theorem d_Cs_placeFor_14 : decode mm_Cs_placeFor.2.1 14 = .ok (.iadd, 1) := by decide +kernel
theorem d_Cs_placeFor_15 : decode mm_Cs_placeFor.2.1 15 = .ok (.aload_n 0, 1) := by decide +kernel
theorem d_Cs_placeFor_16 : decode mm_Cs_placeFor.2.1 16 = .ok (.getfield 17, 3) := by decide +kernel
theorem d_Cs_placeFor_19 : decode mm_Cs_placeFor.2.1 19 = .ok (.if_icmp .gt 27, 3) := by decide +kernel
theorem d_Cs_placeFor_22 : decode mm_Cs_placeFor.2.1 22 = .ok (.aload_n 0, 1) := by decide +kernel
theorem d_Cs_placeFor_23 : decode mm_Cs_placeFor.2.1 23 = .ok (.getfield 11, 3) := by decide +kernel
theorem d_Cs_placeFor_26 : decode mm_Cs_placeFor.2.1 26 = .ok (.iload_n 3, 1) := by decide +kernel
theorem d_Cs_placeFor_27 : decode mm_Cs_placeFor.2.1 27 = .ok (.iload 4, 2) := by decide +kernel
theorem d_Cs_placeFor_29 : decode mm_Cs_placeFor.2.1 29 = .ok (.iadd, 1) := by decide +kernel
theorem d_Cs_placeFor_30 : decode mm_Cs_placeFor.2.1 30 = .ok (.iconst 1, 1) := by decide +kernel
theorem d_Cs_placeFor_31 : decode mm_Cs_placeFor.2.1 31 = .ok (.isub, 1) := by decide +kernel
theorem d_Cs_placeFor_32 : decode mm_Cs_placeFor.2.1 32 = .ok (.aaload, 1) := by decide +kernel
theorem d_Cs_placeFor_33 : decode mm_Cs_placeFor.2.1 33 = .ok (.getfield 25, 3) := by decide +kernel
theorem d_Cs_placeFor_36 : decode mm_Cs_placeFor.2.1 36 = .ok (.lload_n 1, 1) := by decide +kernel
theorem d_Cs_placeFor_37 : decode mm_Cs_placeFor.2.1 37 = .ok (.lcmp, 1) := by decide +kernel
theorem d_Cs_placeFor_38 : decode mm_Cs_placeFor.2.1 38 = .ok (.ifCond .ge 8, 3) := by decide +kernel
theorem d_Cs_placeFor_41 : decode mm_Cs_placeFor.2.1 41 = .ok (.iload_n 3, 1) := by decide +kernel
theorem d_Cs_placeFor_42 : decode mm_Cs_placeFor.2.1 42 = .ok (.iload 4, 2) := by decide +kernel
theorem d_Cs_placeFor_44 : decode mm_Cs_placeFor.2.1 44 = .ok (.iadd, 1) := by decide +kernel
theorem d_Cs_placeFor_45 : decode mm_Cs_placeFor.2.1 45 = .ok (.istore_n 3, 1) := by decide +kernel
theorem d_Cs_placeFor_46 : decode mm_Cs_placeFor.2.1 46 = .ok (.iload 4, 2) := by decide +kernel
theorem d_Cs_placeFor_48 : decode mm_Cs_placeFor.2.1 48 = .ok (.iconst 2, 1) := by decide +kernel
theorem d_Cs_placeFor_49 : decode mm_Cs_placeFor.2.1 49 = .ok (.idiv, 1) := by decide +kernel
theorem d_Cs_placeFor_50 : decode mm_Cs_placeFor.2.1 50 = .ok (.istore 4, 2) := by decide +kernel
theorem d_Cs_placeFor_52 : decode mm_Cs_placeFor.2.1 52 = .ok (.goto (-46), 3) := by decide +kernel
theorem d_Cs_placeFor_55 : decode mm_Cs_placeFor.2.1 55 = .ok (.iload_n 3, 1) := by decide +kernel
theorem d_Cs_placeFor_56 : decode mm_Cs_placeFor.2.1 56 = .ok (.ireturn, 1) := by decide +kernel
theorem d_Cs_firstInCircle_0 : decode mm_Cs_firstInCircle.2.1 0 = .ok (.aload_n 0, 1) := by decide +kernel
theorem d_Cs_firstInCircle_1 : decode mm_Cs_firstInCircle.2.1 1 = .ok (.lload_n 1, 1) := by decide +kernel
theorem d_Cs_firstInCircle_2 : decode mm_Cs_firstInCircle.2.1 2 = .ok (.invokevirtual 92, 3) := by decide +kernel
theorem d_Cs_firstInCircle_5 : decode mm_Cs_firstInCircle.2.1 5 = .ok (.lstore 4, 2) := by decide +kernel
theorem d_Cs_firstInCircle_7 : decode mm_Cs_firstInCircle.2.1 7 = .ok (.iconst 0, 1) := by decide +kernel
theorem d_Cs_firstInCircle_8 : decode mm_Cs_firstInCircle.2.1 8 = .ok (.istore 6, 2) := by decide +kernel
theorem d_Cs_firstInCircle_10 : decode mm_Cs_firstInCircle.2.1 10 = .ok (.iload 6, 2) := by decide +kernel
theorem d_Cs_firstInCircle_12 : decode mm_Cs_firstInCircle.2.1 12 = .ok (.aload_n 3, 1) := by decide +kernel
theorem d_Cs_firstInCircle_13 : decode mm_Cs_firstInCircle.2.1 13 = .ok (.getfield 50, 3) := by decide +kernel
theorem d_Cs_firstInCircle_16 : decode mm_Cs_firstInCircle.2.1 16 = .ok (.if_icmp .ge 55, 3) := by decide +kernel
theorem d_Cs_firstInCircle_19 : decode mm_Cs_firstInCircle.2.1 19 = .ok (.aload_n 0, 1) := by decide +kernel
theorem d_Cs_firstInCircle_20 : decode mm_Cs_firstInCircle.2.1 20 = .ok (.aload_n 3, 1) := by decide +kernel
theorem d_Cs_firstInCircle_21 : decode mm_Cs_firstInCircle.2.1 21 = .ok (.getfield 55, 3) := by decide +kernel
theorem d_Cs_firstInCircle_24 : decode mm_Cs_firstInCircle.2.1 24 = .ok (.iload 6, 2) := by decide +kernel
theorem d_Cs_firstInCircle_26 : decode mm_Cs_firstInCircle.2.1 26 = .ok (.laload, 1) := by decide +kernel
theorem d_Cs_firstInCircle_27 : decode mm_Cs_firstInCircle.2.1 27 = .ok (.invokevirtual 33, 3) := by decide +kernel
theorem d_Cs_firstInCircle_30 : decode mm_Cs_firstInCircle.2.1 30 = .ok (.istore 7, 2) := by decide +kernel
theorem d_Cs_firstInCircle_32 : decode mm_Cs_firstInCircle.2.1 32 = .ok (.aload_n 3, 1) := by decide +kernel
theorem d_Cs_firstInCircle_33 : decode mm_Cs_firstInCircle.2.1 33 = .ok (.getfield 55, 3) := by decide +kernel
theorem d_Cs_firstInCircle_36 : decode mm_Cs_firstInCircle.2.1 36 = .ok (.iload 6, 2) := by decide +kernel
theorem d_Cs_firstInCircle_38 : decode mm_Cs_firstInCircle.2.1 38 = .ok (.laload, 1) := by decide +kernel
theorem d_Cs_firstInCircle_39 : decode mm_Cs_firstInCircle.2.1 39 = .ok (.lload_n 1, 1) := by decide +kernel
theorem d_Cs_firstInCircle_40 : decode mm_Cs_firstInCircle.2.1 40 = .ok (.lcmp, 1) := by decide +kernel
theorem d_Cs_firstInCircle_41 : decode mm_Cs_firstInCircle.2.1 41 = .ok (.ifCond .eq 21, 3) := by decide +kernel
theorem d_Cs_firstInCircle_44 : decode mm_Cs_firstInCircle.2.1 44 = .ok (.iload 7, 2) := by decide +kernel
theorem d_Cs_firstInCircle_46 : decode mm_Cs_firstInCircle.2.1 46 = .ok (.iconst (-1), 1) := by decide +kernel
theorem d_Cs_firstInCircle_47 : decode mm_Cs_firstInCircle.2.1 47 = .ok (.if_icmp .eq 18, 3) := by decide +kernel
theorem d_Cs_firstInCircle_50 : decode mm_Cs_firstInCircle.2.1 50 = .ok (.lload 4, 2) := by decide +kernel
theorem d_Cs_firstInCircle_52 : decode mm_Cs_firstInCircle.2.1 52 = .ok (.lconst 1, 1) := by decide +kernel
theorem d_Cs_firstInCircle_53 : decode mm_Cs_firstInCircle.2.1 53 = .ok (.iload 7, 2) := by decide +kernel
theorem d_Cs_firstInCircle_55 : decode mm_Cs_firstInCircle.2.1 55 = .ok (.lshl, 1) := by decide +kernel
theorem d_Cs_firstInCircle_56 : decode mm_Cs_firstInCircle.2.1 56 = .ok (.land, 1) := by decide +kernel
theorem d_Cs_firstInCircle_57 : decode mm_Cs_firstInCircle.2.1 57 = .ok (.lconst 0, 1) := by decide +kernel
theorem d_Cs_firstInCircle_58 : decode mm_Cs_firstInCircle.2.1 58 = .ok (.lcmp, 1) := by decide +kernel
theorem d_Cs_firstInCircle_59 : decode mm_Cs_firstInCircle.2.1 59 = .ok (.ifCond .eq 6, 3) := by decide +kernel
theorem d_Cs_firstInCircle_62 : decode mm_Cs_firstInCircle.2.1 62 = .ok (.iload 6, 2) := by decide +kernel
theorem d_Cs_firstInCircle_64 : decode mm_Cs_firstInCircle.2.1 64 = .ok (.ireturn, 1) := by decide +kernel
theorem d_Cs_firstInCircle_65 : decode mm_Cs_firstInCircle.2.1 65 = .ok (.iinc 6 1, 3) := by decide +kernel
theorem d_Cs_firstInCircle_68 : decode mm_Cs_firstInCircle.2.1 68 = .ok (.goto (-58), 3) := by decide +kernel
theorem d_Cs_firstInCircle_71 : decode mm_Cs_firstInCircle.2.1 71 = .ok (.iconst (-1), 1) := by decide +kernel
theorem d_Cs_firstInCircle_72 : decode mm_Cs_firstInCircle.2.1 72 = .ok (.ireturn, 1) := by decide +kernel
theorem d_Cs_dependents_0 : decode mm_Cs_dependents.2.1 0 = .ok (.aload_n 0, 1) := by decide +kernel
theorem d_Cs_dependents_1 : decode mm_Cs_dependents.2.1 1 = .ok (.lload_n 1, 1) := by decide +kernel
theorem d_Cs_dependents_2 : decode mm_Cs_dependents.2.1 2 = .ok (.invokevirtual 85, 3) := by decide +kernel
theorem d_Cs_dependents_5 : decode mm_Cs_dependents.2.1 5 = .ok (.lstore_n 3, 1) := by decide +kernel
theorem d_Cs_dependents_6 : decode mm_Cs_dependents.2.1 6 = .ok (.lconst 0, 1) := by decide +kernel
theorem d_Cs_dependents_7 : decode mm_Cs_dependents.2.1 7 = .ok (.lstore 5, 2) := by decide +kernel
theorem d_Cs_dependents_9 : decode mm_Cs_dependents.2.1 9 = .ok (.aload_n 0, 1) := by decide +kernel
theorem d_Cs_dependents_10 : decode mm_Cs_dependents.2.1 10 = .ok (.invokevirtual 89, 3) := by decide +kernel
theorem d_Cs_dependents_13 : decode mm_Cs_dependents.2.1 13 = .ok (.iconst 0, 1) := by decide +kernel
theorem d_Cs_dependents_14 : decode mm_Cs_dependents.2.1 14 = .ok (.istore 7, 2) := by decide +kernel
theorem d_Cs_dependents_16 : decode mm_Cs_dependents.2.1 16 = .ok (.iload 7, 2) := by decide +kernel
theorem d_Cs_dependents_18 : decode mm_Cs_dependents.2.1 18 = .ok (.aload_n 0, 1) := by decide +kernel
theorem d_Cs_dependents_19 : decode mm_Cs_dependents.2.1 19 = .ok (.getfield 17, 3) := by decide +kernel
theorem d_Cs_dependents_22 : decode mm_Cs_dependents.2.1 22 = .ok (.if_icmp .ge 58, 3) := by decide +kernel
theorem d_Cs_dependents_25 : decode mm_Cs_dependents.2.1 25 = .ok (.lload_n 3, 1) := by decide +kernel
theorem d_Cs_dependents_26 : decode mm_Cs_dependents.2.1 26 = .ok (.lload 5, 2) := by decide +kernel
theorem d_Cs_dependents_28 : decode mm_Cs_dependents.2.1 28 = .ok (.lcmp, 1) := by decide +kernel
theorem d_Cs_dependents_29 : decode mm_Cs_dependents.2.1 29 = .ok (.ifCond .eq 51, 3) := by decide +kernel
theorem d_Cs_dependents_32 : decode mm_Cs_dependents.2.1 32 = .ok (.lload_n 3, 1) := by decide +kernel
theorem d_Cs_dependents_33 : decode mm_Cs_dependents.2.1 33 = .ok (.lstore 5, 2) := by decide +kernel
theorem d_Cs_dependents_35 : decode mm_Cs_dependents.2.1 35 = .ok (.iconst 0, 1) := by decide +kernel
theorem d_Cs_dependents_36 : decode mm_Cs_dependents.2.1 36 = .ok (.istore 8, 2) := by decide +kernel
theorem d_Cs_dependents_38 : decode mm_Cs_dependents.2.1 38 = .ok (.iload 8, 2) := by decide +kernel
theorem d_Cs_dependents_40 : decode mm_Cs_dependents.2.1 40 = .ok (.aload_n 0, 1) := by decide +kernel
theorem d_Cs_dependents_41 : decode mm_Cs_dependents.2.1 41 = .ok (.getfield 17, 3) := by decide +kernel
theorem d_Cs_dependents_44 : decode mm_Cs_dependents.2.1 44 = .ok (.if_icmp .ge 30, 3) := by decide +kernel
theorem d_Cs_dependents_47 : decode mm_Cs_dependents.2.1 47 = .ok (.aload_n 0, 1) := by decide +kernel
theorem d_Cs_dependents_48 : decode mm_Cs_dependents.2.1 48 = .ok (.getfield 21, 3) := by decide +kernel
theorem d_Cs_dependents_51 : decode mm_Cs_dependents.2.1 51 = .ok (.iload 8, 2) := by decide +kernel
theorem d_Cs_dependents_53 : decode mm_Cs_dependents.2.1 53 = .ok (.laload, 1) := by decide +kernel
theorem d_Cs_dependents_54 : decode mm_Cs_dependents.2.1 54 = .ok (.lload_n 3, 1) := by decide +kernel
theorem d_Cs_dependents_55 : decode mm_Cs_dependents.2.1 55 = .ok (.land, 1) := by decide +kernel
theorem d_Cs_dependents_56 : decode mm_Cs_dependents.2.1 56 = .ok (.lconst 0, 1) := by decide +kernel
theorem d_Cs_dependents_57 : decode mm_Cs_dependents.2.1 57 = .ok (.lcmp, 1) := by decide +kernel
theorem d_Cs_dependents_58 : decode mm_Cs_dependents.2.1 58 = .ok (.ifCond .eq 10, 3) := by decide +kernel
theorem d_Cs_dependents_61 : decode mm_Cs_dependents.2.1 61 = .ok (.lload_n 3, 1) := by decide +kernel
theorem d_Cs_dependents_62 : decode mm_Cs_dependents.2.1 62 = .ok (.lconst 1, 1) := by decide +kernel
theorem d_Cs_dependents_63 : decode mm_Cs_dependents.2.1 63 = .ok (.iload 8, 2) := by decide +kernel
theorem d_Cs_dependents_65 : decode mm_Cs_dependents.2.1 65 = .ok (.lshl, 1) := by decide +kernel
theorem d_Cs_dependents_66 : decode mm_Cs_dependents.2.1 66 = .ok (.lor, 1) := by decide +kernel
theorem d_Cs_dependents_67 : decode mm_Cs_dependents.2.1 67 = .ok (.lstore_n 3, 1) := by decide +kernel
theorem d_Cs_dependents_68 : decode mm_Cs_dependents.2.1 68 = .ok (.iinc 8 1, 3) := by decide +kernel
theorem d_Cs_dependents_71 : decode mm_Cs_dependents.2.1 71 = .ok (.goto (-33), 3) := by decide +kernel
theorem d_Cs_dependents_74 : decode mm_Cs_dependents.2.1 74 = .ok (.iinc 7 1, 3) := by decide +kernel
theorem d_Cs_dependents_77 : decode mm_Cs_dependents.2.1 77 = .ok (.goto (-61), 3) := by decide +kernel
theorem d_Cs_dependents_80 : decode mm_Cs_dependents.2.1 80 = .ok (.lload_n 3, 1) := by decide +kernel
theorem d_Cs_dependents_81 : decode mm_Cs_dependents.2.1 81 = .ok (.lreturn, 1) := by decide +kernel
theorem d_Cs_directReaders_0 : decode mm_Cs_directReaders.2.1 0 = .ok (.lconst 0, 1) := by decide +kernel
theorem d_Cs_directReaders_1 : decode mm_Cs_directReaders.2.1 1 = .ok (.lstore_n 3, 1) := by decide +kernel
theorem d_Cs_directReaders_2 : decode mm_Cs_directReaders.2.1 2 = .ok (.iconst 0, 1) := by decide +kernel
theorem d_Cs_directReaders_3 : decode mm_Cs_directReaders.2.1 3 = .ok (.istore 5, 2) := by decide +kernel
theorem d_Cs_directReaders_5 : decode mm_Cs_directReaders.2.1 5 = .ok (.iload 5, 2) := by decide +kernel
theorem d_Cs_directReaders_7 : decode mm_Cs_directReaders.2.1 7 = .ok (.aload_n 0, 1) := by decide +kernel
theorem d_Cs_directReaders_8 : decode mm_Cs_directReaders.2.1 8 = .ok (.getfield 17, 3) := by decide +kernel
theorem d_Cs_directReaders_11 : decode mm_Cs_directReaders.2.1 11 = .ok (.if_icmp .ge 33, 3) := by decide +kernel
theorem d_Cs_directReaders_14 : decode mm_Cs_directReaders.2.1 14 = .ok (.aload_n 0, 1) := by decide +kernel
theorem d_Cs_directReaders_15 : decode mm_Cs_directReaders.2.1 15 = .ok (.getfield 11, 3) := by decide +kernel
theorem d_Cs_directReaders_18 : decode mm_Cs_directReaders.2.1 18 = .ok (.iload 5, 2) := by decide +kernel
theorem d_Cs_directReaders_20 : decode mm_Cs_directReaders.2.1 20 = .ok (.aaload, 1) := by decide +kernel
theorem d_Cs_directReaders_21 : decode mm_Cs_directReaders.2.1 21 = .ok (.getfield 46, 3) := by decide +kernel
theorem d_Cs_directReaders_24 : decode mm_Cs_directReaders.2.1 24 = .ok (.lload_n 1, 1) := by decide +kernel
theorem d_Cs_directReaders_25 : decode mm_Cs_directReaders.2.1 25 = .ok (.invokevirtual 81, 3) := by decide +kernel
theorem d_Cs_directReaders_28 : decode mm_Cs_directReaders.2.1 28 = .ok (.ifCond .eq 10, 3) := by decide +kernel
theorem d_Cs_directReaders_31 : decode mm_Cs_directReaders.2.1 31 = .ok (.lload_n 3, 1) := by decide +kernel
theorem d_Cs_directReaders_32 : decode mm_Cs_directReaders.2.1 32 = .ok (.lconst 1, 1) := by decide +kernel
theorem d_Cs_directReaders_33 : decode mm_Cs_directReaders.2.1 33 = .ok (.iload 5, 2) := by decide +kernel
theorem d_Cs_directReaders_35 : decode mm_Cs_directReaders.2.1 35 = .ok (.lshl, 1) := by decide +kernel
theorem d_Cs_directReaders_36 : decode mm_Cs_directReaders.2.1 36 = .ok (.lor, 1) := by decide +kernel
theorem d_Cs_directReaders_37 : decode mm_Cs_directReaders.2.1 37 = .ok (.lstore_n 3, 1) := by decide +kernel
theorem d_Cs_directReaders_38 : decode mm_Cs_directReaders.2.1 38 = .ok (.iinc 5 1, 3) := by decide +kernel
theorem d_Cs_directReaders_41 : decode mm_Cs_directReaders.2.1 41 = .ok (.goto (-36), 3) := by decide +kernel
theorem d_Cs_directReaders_44 : decode mm_Cs_directReaders.2.1 44 = .ok (.lload_n 3, 1) := by decide +kernel
theorem d_Cs_directReaders_45 : decode mm_Cs_directReaders.2.1 45 = .ok (.lreturn, 1) := by decide +kernel
theorem d_Fm_mentions_0 : decode mm_Fm_mentions.2.1 0 = .ok (.iconst 0, 1) := by decide +kernel
theorem d_Fm_mentions_1 : decode mm_Fm_mentions.2.1 1 = .ok (.istore_n 3, 1) := by decide +kernel
theorem d_Fm_mentions_2 : decode mm_Fm_mentions.2.1 2 = .ok (.iload_n 3, 1) := by decide +kernel
theorem d_Fm_mentions_3 : decode mm_Fm_mentions.2.1 3 = .ok (.aload_n 0, 1) := by decide +kernel
theorem d_Fm_mentions_4 : decode mm_Fm_mentions.2.1 4 = .ok (.getfield 32, 3) := by decide +kernel
theorem d_Fm_mentions_7 : decode mm_Fm_mentions.2.1 7 = .ok (.if_icmp .ge 22, 3) := by decide +kernel
theorem d_Fm_mentions_10 : decode mm_Fm_mentions.2.1 10 = .ok (.aload_n 0, 1) := by decide +kernel
theorem d_Fm_mentions_11 : decode mm_Fm_mentions.2.1 11 = .ok (.getfield 22, 3) := by decide +kernel
theorem d_Fm_mentions_14 : decode mm_Fm_mentions.2.1 14 = .ok (.iload_n 3, 1) := by decide +kernel
theorem d_Fm_mentions_15 : decode mm_Fm_mentions.2.1 15 = .ok (.laload, 1) := by decide +kernel
theorem d_Fm_mentions_16 : decode mm_Fm_mentions.2.1 16 = .ok (.lload_n 1, 1) := by decide +kernel
theorem d_Fm_mentions_17 : decode mm_Fm_mentions.2.1 17 = .ok (.lcmp, 1) := by decide +kernel
theorem d_Fm_mentions_18 : decode mm_Fm_mentions.2.1 18 = .ok (.ifCond .ne 5, 3) := by decide +kernel
theorem d_Fm_mentions_21 : decode mm_Fm_mentions.2.1 21 = .ok (.iconst 1, 1) := by decide +kernel
theorem d_Fm_mentions_22 : decode mm_Fm_mentions.2.1 22 = .ok (.ireturn, 1) := by decide +kernel
theorem d_Fm_mentions_23 : decode mm_Fm_mentions.2.1 23 = .ok (.iinc 3 1, 3) := by decide +kernel
theorem d_Fm_mentions_26 : decode mm_Fm_mentions.2.1 26 = .ok (.goto (-24), 3) := by decide +kernel
theorem d_Fm_mentions_29 : decode mm_Fm_mentions.2.1 29 = .ok (.iconst 0, 1) := by decide +kernel
theorem d_Fm_mentions_30 : decode mm_Fm_mentions.2.1 30 = .ok (.ireturn, 1) := by decide +kernel
theorem d_Cs_trace_0 : decode mm_Cs_trace.2.1 0 = .ok (.iconst 0, 1) := by decide +kernel
theorem d_Cs_trace_1 : decode mm_Cs_trace.2.1 1 = .ok (.istore_n 1, 1) := by decide +kernel
theorem d_Cs_trace_2 : decode mm_Cs_trace.2.1 2 = .ok (.iload_n 1, 1) := by decide +kernel
theorem d_Cs_trace_3 : decode mm_Cs_trace.2.1 3 = .ok (.aload_n 0, 1) := by decide +kernel
theorem d_Cs_trace_4 : decode mm_Cs_trace.2.1 4 = .ok (.getfield 17, 3) := by decide +kernel
theorem d_Cs_trace_7 : decode mm_Cs_trace.2.1 7 = .ok (.if_icmp .ge 72, 3) := by decide +kernel
theorem d_Cs_trace_10 : decode mm_Cs_trace.2.1 10 = .ok (.aload_n 0, 1) := by decide +kernel
theorem d_Cs_trace_11 : decode mm_Cs_trace.2.1 11 = .ok (.getfield 11, 3) := by decide +kernel
theorem d_Cs_trace_14 : decode mm_Cs_trace.2.1 14 = .ok (.iload_n 1, 1) := by decide +kernel
theorem d_Cs_trace_15 : decode mm_Cs_trace.2.1 15 = .ok (.aaload, 1) := by decide +kernel
theorem d_Cs_trace_16 : decode mm_Cs_trace.2.1 16 = .ok (.getfield 46, 3) := by decide +kernel
theorem d_Cs_trace_19 : decode mm_Cs_trace.2.1 19 = .ok (.astore_n 2, 1) := by decide +kernel
theorem d_Cs_trace_20 : decode mm_Cs_trace.2.1 20 = .ok (.lconst 0, 1) := by decide +kernel
theorem d_Cs_trace_21 : decode mm_Cs_trace.2.1 21 = .ok (.lstore_n 3, 1) := by decide +kernel
theorem d_Cs_trace_22 : decode mm_Cs_trace.2.1 22 = .ok (.iconst 0, 1) := by decide +kernel
theorem d_Cs_trace_23 : decode mm_Cs_trace.2.1 23 = .ok (.istore 5, 2) := by decide +kernel
theorem d_Cs_trace_25 : decode mm_Cs_trace.2.1 25 = .ok (.iload 5, 2) := by decide +kernel
theorem d_Cs_trace_27 : decode mm_Cs_trace.2.1 27 = .ok (.aload_n 2, 1) := by decide +kernel
theorem d_Cs_trace_28 : decode mm_Cs_trace.2.1 28 = .ok (.getfield 50, 3) := by decide +kernel
theorem d_Cs_trace_31 : decode mm_Cs_trace.2.1 31 = .ok (.if_icmp .ge 35, 3) := by decide +kernel
theorem d_Cs_trace_34 : decode mm_Cs_trace.2.1 34 = .ok (.aload_n 0, 1) := by decide +kernel
theorem d_Cs_trace_35 : decode mm_Cs_trace.2.1 35 = .ok (.aload_n 2, 1) := by decide +kernel
theorem d_Cs_trace_36 : decode mm_Cs_trace.2.1 36 = .ok (.getfield 55, 3) := by decide +kernel
theorem d_Cs_trace_39 : decode mm_Cs_trace.2.1 39 = .ok (.iload 5, 2) := by decide +kernel
theorem d_Cs_trace_41 : decode mm_Cs_trace.2.1 41 = .ok (.laload, 1) := by decide +kernel
theorem d_Cs_trace_42 : decode mm_Cs_trace.2.1 42 = .ok (.invokevirtual 33, 3) := by decide +kernel
theorem d_Cs_trace_45 : decode mm_Cs_trace.2.1 45 = .ok (.istore 6, 2) := by decide +kernel
theorem d_Cs_trace_47 : decode mm_Cs_trace.2.1 47 = .ok (.iload 6, 2) := by decide +kernel
theorem d_Cs_trace_49 : decode mm_Cs_trace.2.1 49 = .ok (.iconst (-1), 1) := by decide +kernel
theorem d_Cs_trace_50 : decode mm_Cs_trace.2.1 50 = .ok (.if_icmp .eq 10, 3) := by decide +kernel
theorem d_Cs_trace_53 : decode mm_Cs_trace.2.1 53 = .ok (.lload_n 3, 1) := by decide +kernel
theorem d_Cs_trace_54 : decode mm_Cs_trace.2.1 54 = .ok (.lconst 1, 1) := by decide +kernel
theorem d_Cs_trace_55 : decode mm_Cs_trace.2.1 55 = .ok (.iload 6, 2) := by decide +kernel
theorem d_Cs_trace_57 : decode mm_Cs_trace.2.1 57 = .ok (.lshl, 1) := by decide +kernel
theorem d_Cs_trace_58 : decode mm_Cs_trace.2.1 58 = .ok (.lor, 1) := by decide +kernel
theorem d_Cs_trace_59 : decode mm_Cs_trace.2.1 59 = .ok (.lstore_n 3, 1) := by decide +kernel
theorem d_Cs_trace_60 : decode mm_Cs_trace.2.1 60 = .ok (.iinc 5 1, 3) := by decide +kernel
theorem d_Cs_trace_63 : decode mm_Cs_trace.2.1 63 = .ok (.goto (-38), 3) := by decide +kernel
theorem d_Cs_trace_66 : decode mm_Cs_trace.2.1 66 = .ok (.aload_n 0, 1) := by decide +kernel
theorem d_Cs_trace_67 : decode mm_Cs_trace.2.1 67 = .ok (.getfield 21, 3) := by decide +kernel
theorem d_Cs_trace_70 : decode mm_Cs_trace.2.1 70 = .ok (.iload_n 1, 1) := by decide +kernel
theorem d_Cs_trace_71 : decode mm_Cs_trace.2.1 71 = .ok (.lload_n 3, 1) := by decide +kernel
theorem d_Cs_trace_72 : decode mm_Cs_trace.2.1 72 = .ok (.lastore, 1) := by decide +kernel
theorem d_Cs_trace_73 : decode mm_Cs_trace.2.1 73 = .ok (.iinc 1 1, 3) := by decide +kernel
theorem d_Cs_trace_76 : decode mm_Cs_trace.2.1 76 = .ok (.goto (-74), 3) := by decide +kernel
theorem d_Cs_trace_79 : decode mm_Cs_trace.2.1 79 = .ok (.return_, 1) := by decide +kernel
theorem d_Rd_placeOfName_0 : decode mm_Rd_placeOfName.2.1 0 = .ok (.iload_n 1, 1) := by decide +kernel
theorem d_Rd_placeOfName_1 : decode mm_Rd_placeOfName.2.1 1 = .ok (.ifCond .lt 21, 3) := by decide +kernel
theorem d_Rd_placeOfName_4 : decode mm_Rd_placeOfName.2.1 4 = .ok (.iload_n 1, 1) := by decide +kernel
theorem d_Rd_placeOfName_5 : decode mm_Rd_placeOfName.2.1 5 = .ok (.aload_n 0, 1) := by decide +kernel
theorem d_Rd_placeOfName_6 : decode mm_Rd_placeOfName.2.1 6 = .ok (.getfield 39, 3) := by decide +kernel
theorem d_Rd_placeOfName_9 : decode mm_Rd_placeOfName.2.1 9 = .ok (.arraylength, 1) := by decide +kernel
theorem d_Rd_placeOfName_10 : decode mm_Rd_placeOfName.2.1 10 = .ok (.if_icmp .ge 12, 3) := by decide +kernel
theorem d_Rd_placeOfName_13 : decode mm_Rd_placeOfName.2.1 13 = .ok (.aload_n 0, 1) := by decide +kernel
theorem d_Rd_placeOfName_14 : decode mm_Rd_placeOfName.2.1 14 = .ok (.getfield 39, 3) := by decide +kernel
theorem d_Rd_placeOfName_17 : decode mm_Rd_placeOfName.2.1 17 = .ok (.iload_n 1, 1) := by decide +kernel
theorem d_Rd_placeOfName_18 : decode mm_Rd_placeOfName.2.1 18 = .ok (.iaload, 1) := by decide +kernel
theorem d_Rd_placeOfName_19 : decode mm_Rd_placeOfName.2.1 19 = .ok (.goto 4, 3) := by decide +kernel
theorem d_Rd_placeOfName_22 : decode mm_Rd_placeOfName.2.1 22 = .ok (.iconst 0, 1) := by decide +kernel
theorem d_Rd_placeOfName_23 : decode mm_Rd_placeOfName.2.1 23 = .ok (.ireturn, 1) := by decide +kernel
theorem d_Rd_exchangeFormula_0 : decode mm_Rd_exchangeFormula.2.1 0 = .ok (.aload_n 0, 1) := by decide +kernel
theorem d_Rd_exchangeFormula_1 : decode mm_Rd_exchangeFormula.2.1 1 = .ok (.getfield 21, 3) := by decide +kernel
theorem d_Rd_exchangeFormula_4 : decode mm_Rd_exchangeFormula.2.1 4 = .ok (.astore_n 2, 1) := by decide +kernel
theorem d_Rd_exchangeFormula_5 : decode mm_Rd_exchangeFormula.2.1 5 = .ok (.aload_n 0, 1) := by decide +kernel
theorem d_Rd_exchangeFormula_6 : decode mm_Rd_exchangeFormula.2.1 6 = .ok (.aload_n 1, 1) := by decide +kernel
theorem d_Rd_exchangeFormula_7 : decode mm_Rd_exchangeFormula.2.1 7 = .ok (.putfield 21, 3) := by decide +kernel
theorem d_Rd_exchangeFormula_10 : decode mm_Rd_exchangeFormula.2.1 10 = .ok (.aload_n 2, 1) := by decide +kernel
theorem d_Rd_exchangeFormula_11 : decode mm_Rd_exchangeFormula.2.1 11 = .ok (.areturn, 1) := by decide +kernel
theorem d_Cl_init_0 : decode mm_Cl_init.2.1 0 = .ok (.aload_n 0, 1) := by decide +kernel
theorem d_Cl_init_1 : decode mm_Cl_init.2.1 1 = .ok (.invokespecial 3, 3) := by decide +kernel
theorem d_Cl_init_4 : decode mm_Cl_init.2.1 4 = .ok (.aload_n 0, 1) := by decide +kernel
theorem d_Cl_init_5 : decode mm_Cl_init.2.1 5 = .ok (.iconst 0, 1) := by decide +kernel
theorem d_Cl_init_6 : decode mm_Cl_init.2.1 6 = .ok (.putfield 9, 3) := by decide +kernel
theorem d_Cl_init_9 : decode mm_Cl_init.2.1 9 = .ok (.aload_n 0, 1) := by decide +kernel
theorem d_Cl_init_10 : decode mm_Cl_init.2.1 10 = .ok (.iconst 0, 1) := by decide +kernel
theorem d_Cl_init_11 : decode mm_Cl_init.2.1 11 = .ok (.putfield 15, 3) := by decide +kernel
theorem d_Cl_init_14 : decode mm_Cl_init.2.1 14 = .ok (.aload_n 0, 1) := by decide +kernel
theorem d_Cl_init_15 : decode mm_Cl_init.2.1 15 = .ok (.lconst 0, 1) := by decide +kernel
theorem d_Cl_init_16 : decode mm_Cl_init.2.1 16 = .ok (.putfield 19, 3) := by decide +kernel
theorem d_Cl_init_19 : decode mm_Cl_init.2.1 19 = .ok (.aload_n 0, 1) := by decide +kernel
theorem d_Cl_init_20 : decode mm_Cl_init.2.1 20 = .ok (.lload_n 1, 1) := by decide +kernel
theorem d_Cl_init_21 : decode mm_Cl_init.2.1 21 = .ok (.putfield 23, 3) := by decide +kernel
theorem d_Cl_init_24 : decode mm_Cl_init.2.1 24 = .ok (.aload_n 0, 1) := by decide +kernel
theorem d_Cl_init_25 : decode mm_Cl_init.2.1 25 = .ok (.aload_n 3, 1) := by decide +kernel
theorem d_Cl_init_26 : decode mm_Cl_init.2.1 26 = .ok (.putfield 26, 3) := by decide +kernel
theorem d_Cl_init_29 : decode mm_Cl_init.2.1 29 = .ok (.return_, 1) := by decide +kernel
theorem d_Cs_insert_0 : decode mm_Cs_insert.2.1 0 = .ok (.aload_n 0, 1) := by decide +kernel
theorem d_Cs_insert_1 : decode mm_Cs_insert.2.1 1 = .ok (.getfield 17, 3) := by decide +kernel
theorem d_Cs_insert_4 : decode mm_Cs_insert.2.1 4 = .ok (.aload_n 0, 1) := by decide +kernel
theorem d_Cs_insert_5 : decode mm_Cs_insert.2.1 5 = .ok (.getfield 11, 3) := by decide +kernel
theorem d_Cs_insert_8 : decode mm_Cs_insert.2.1 8 = .ok (.arraylength, 1) := by decide +kernel
theorem d_Cs_insert_9 : decode mm_Cs_insert.2.1 9 = .ok (.if_icmp .lt 4, 3) := by decide +kernel
theorem d_Cs_insert_12 : decode mm_Cs_insert.2.1 12 = .ok (.return_, 1) := by decide +kernel
theorem d_Cs_insert_13 : decode mm_Cs_insert.2.1 13 = .ok (.aload_n 0, 1) := by decide +kernel
theorem d_Cs_insert_14 : decode mm_Cs_insert.2.1 14 = .ok (.aload_n 1, 1) := by decide +kernel
theorem d_Cs_insert_15 : decode mm_Cs_insert.2.1 15 = .ok (.getfield 25, 3) := by decide +kernel
theorem d_Cs_insert_18 : decode mm_Cs_insert.2.1 18 = .ok (.invokevirtual 29, 3) := by decide +kernel
theorem d_Cs_insert_21 : decode mm_Cs_insert.2.1 21 = .ok (.istore_n 2, 1) := by decide +kernel
theorem d_Cs_insert_22 : decode mm_Cs_insert.2.1 22 = .ok (.aload_n 0, 1) := by decide +kernel
theorem d_Cs_insert_23 : decode mm_Cs_insert.2.1 23 = .ok (.getfield 17, 3) := by decide +kernel
theorem d_Cs_insert_26 : decode mm_Cs_insert.2.1 26 = .ok (.istore_n 3, 1) := by decide +kernel
theorem d_Cs_insert_27 : decode mm_Cs_insert.2.1 27 = .ok (.iload_n 3, 1) := by decide +kernel
theorem d_Cs_insert_28 : decode mm_Cs_insert.2.1 28 = .ok (.iload_n 2, 1) := by decide +kernel
theorem d_Cs_insert_29 : decode mm_Cs_insert.2.1 29 = .ok (.if_icmp .le 23, 3) := by decide +kernel
theorem d_Cs_insert_32 : decode mm_Cs_insert.2.1 32 = .ok (.aload_n 0, 1) := by decide +kernel
theorem d_Cs_insert_33 : decode mm_Cs_insert.2.1 33 = .ok (.getfield 11, 3) := by decide +kernel
theorem d_Cs_insert_36 : decode mm_Cs_insert.2.1 36 = .ok (.iload_n 3, 1) := by decide +kernel
theorem d_Cs_insert_37 : decode mm_Cs_insert.2.1 37 = .ok (.aload_n 0, 1) := by decide +kernel
theorem d_Cs_insert_38 : decode mm_Cs_insert.2.1 38 = .ok (.getfield 11, 3) := by decide +kernel
theorem d_Cs_insert_41 : decode mm_Cs_insert.2.1 41 = .ok (.iload_n 3, 1) := by decide +kernel
theorem d_Cs_insert_42 : decode mm_Cs_insert.2.1 42 = .ok (.iconst 1, 1) := by decide +kernel
theorem d_Cs_insert_43 : decode mm_Cs_insert.2.1 43 = .ok (.isub, 1) := by decide +kernel
theorem d_Cs_insert_44 : decode mm_Cs_insert.2.1 44 = .ok (.aaload, 1) := by decide +kernel
theorem d_Cs_insert_45 : decode mm_Cs_insert.2.1 45 = .ok (.aastore, 1) := by decide +kernel
theorem d_Cs_insert_46 : decode mm_Cs_insert.2.1 46 = .ok (.iinc 3 (-1), 3) := by decide +kernel
theorem d_Cs_insert_49 : decode mm_Cs_insert.2.1 49 = .ok (.goto (-22), 3) := by decide +kernel
theorem d_Cs_insert_52 : decode mm_Cs_insert.2.1 52 = .ok (.aload_n 0, 1) := by decide +kernel
theorem d_Cs_insert_53 : decode mm_Cs_insert.2.1 53 = .ok (.getfield 11, 3) := by decide +kernel
theorem d_Cs_insert_56 : decode mm_Cs_insert.2.1 56 = .ok (.iload_n 2, 1) := by decide +kernel
theorem d_Cs_insert_57 : decode mm_Cs_insert.2.1 57 = .ok (.aload_n 1, 1) := by decide +kernel
theorem d_Cs_insert_58 : decode mm_Cs_insert.2.1 58 = .ok (.aastore, 1) := by decide +kernel
theorem d_Cs_insert_59 : decode mm_Cs_insert.2.1 59 = .ok (.aload_n 0, 1) := by decide +kernel
theorem d_Cs_insert_60 : decode mm_Cs_insert.2.1 60 = .ok (.dup, 1) := by decide +kernel
theorem d_Cs_insert_61 : decode mm_Cs_insert.2.1 61 = .ok (.getfield 17, 3) := by decide +kernel
theorem d_Cs_insert_64 : decode mm_Cs_insert.2.1 64 = .ok (.iconst 1, 1) := by decide +kernel
theorem d_Cs_insert_65 : decode mm_Cs_insert.2.1 65 = .ok (.iadd, 1) := by decide +kernel
theorem d_Cs_insert_66 : decode mm_Cs_insert.2.1 66 = .ok (.putfield 17, 3) := by decide +kernel
theorem d_Cs_insert_69 : decode mm_Cs_insert.2.1 69 = .ok (.return_, 1) := by decide +kernel
theorem d_CW_fault_0 : decode mm_CW_fault.2.1 0 = .ok (.aload_n 0, 1) := by decide +kernel
theorem d_CW_fault_1 : decode mm_CW_fault.2.1 1 = .ok (.getfield 12, 3) := by decide +kernel
theorem d_CW_fault_4 : decode mm_CW_fault.2.1 4 = .ok (.getfield 63, 3) := by decide +kernel
theorem d_CW_fault_7 : decode mm_CW_fault.2.1 7 = .ok (.ireturn, 1) := by decide +kernel
theorem d_CW_buildAll_0 : decode mm_CW_buildAll.2.1 0 = .ok (.aload_n 0, 1) := by decide +kernel
theorem d_CW_buildAll_1 : decode mm_CW_buildAll.2.1 1 = .ok (.getfield 26, 3) := by decide +kernel
theorem d_CW_buildAll_4 : decode mm_CW_buildAll.2.1 4 = .ok (.aload_n 0, 1) := by decide +kernel
theorem d_CW_buildAll_5 : decode mm_CW_buildAll.2.1 5 = .ok (.getfield 19, 3) := by decide +kernel
theorem d_CW_buildAll_8 : decode mm_CW_buildAll.2.1 8 = .ok (.aload_n 0, 1) := by decide +kernel
theorem d_CW_buildAll_9 : decode mm_CW_buildAll.2.1 9 = .ok (.getfield 19, 3) := by decide +kernel
theorem d_CW_buildAll_12 : decode mm_CW_buildAll.2.1 12 = .ok (.invokevirtual 85, 3) := by decide +kernel
theorem d_CW_buildAll_15 : decode mm_CW_buildAll.2.1 15 = .ok (.invokevirtual 81, 3) := by decide +kernel
theorem d_CW_buildAll_18 : decode mm_CW_buildAll.2.1 18 = .ok (.ireturn, 1) := by decide +kernel
theorem d_Cs_all_0 : decode mm_Cs_all.2.1 0 = .ok (.lconst 0, 1) := by decide +kernel
theorem d_Cs_all_1 : decode mm_Cs_all.2.1 1 = .ok (.lstore_n 1, 1) := by decide +kernel
theorem d_Cs_all_2 : decode mm_Cs_all.2.1 2 = .ok (.iconst 0, 1) := by decide +kernel
theorem d_Cs_all_3 : decode mm_Cs_all.2.1 3 = .ok (.istore_n 3, 1) := by decide +kernel
theorem d_Cs_all_4 : decode mm_Cs_all.2.1 4 = .ok (.iload_n 3, 1) := by decide +kernel
theorem d_Cs_all_5 : decode mm_Cs_all.2.1 5 = .ok (.aload_n 0, 1) := by decide +kernel
theorem d_Cs_all_6 : decode mm_Cs_all.2.1 6 = .ok (.getfield 17, 3) := by decide +kernel
theorem d_Cs_all_9 : decode mm_Cs_all.2.1 9 = .ok (.if_icmp .ge 15, 3) := by decide +kernel
theorem d_Cs_all_12 : decode mm_Cs_all.2.1 12 = .ok (.lload_n 1, 1) := by decide +kernel
theorem d_Cs_all_13 : decode mm_Cs_all.2.1 13 = .ok (.lconst 1, 1) := by decide +kernel
theorem d_Cs_all_14 : decode mm_Cs_all.2.1 14 = .ok (.iload_n 3, 1) := by decide +kernel
theorem d_Cs_all_15 : decode mm_Cs_all.2.1 15 = .ok (.lshl, 1) := by decide +kernel
theorem d_Cs_all_16 : decode mm_Cs_all.2.1 16 = .ok (.lor, 1) := by decide +kernel
theorem d_Cs_all_17 : decode mm_Cs_all.2.1 17 = .ok (.lstore_n 1, 1) := by decide +kernel
theorem d_Cs_all_18 : decode mm_Cs_all.2.1 18 = .ok (.iinc 3 1, 3) := by decide +kernel
theorem d_Cs_all_21 : decode mm_Cs_all.2.1 21 = .ok (.goto (-17), 3) := by decide +kernel
theorem d_Cs_all_24 : decode mm_Cs_all.2.1 24 = .ok (.lload_n 1, 1) := by decide +kernel
theorem d_Cs_all_25 : decode mm_Cs_all.2.1 25 = .ok (.lreturn, 1) := by decide +kernel
theorem d_Bd_run_0 : decode mm_Bd_run.2.1 0 = .ok (.aload_n 1, 1) := by decide +kernel
theorem d_Bd_run_1 : decode mm_Bd_run.2.1 1 = .ok (.lload_n 2, 1) := by decide +kernel
